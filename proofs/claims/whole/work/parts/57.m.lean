/-! mathematics: instruction, at, counts over the program, causes, the latest -/
theorem tb63 (i : Nat) : tbI 6 i = tbI 3 i := rfl
theorem tb4 : ∀ i : Nat, i < 9 → tbI 4 i = 0 := by decide +kernel
section E3
variable {m : Nat} {S : xSt} {i : Int}
theorem p_isJB {S : xSt} {q : Nat} {π : xR} {k : Int} (gQ : ∀ o k, o ≠ 77 → gI S q o k = π o k) (hR : PR π) (hk : 0 ≤ k ∧ k < π 0 10) : f_X5_isJumpOrBranch_p2_0 S q k = some (if 8 ≤ π 5 k.toNat then 1 else 0, S) := by
  have p0 := hR.1
  have k1 := (pr_k hR (show (k.toNat : Int) < π 0 10 by omega)).1
  unfold f_X5_isJumpOrBranch_p2_0
  simp (disch := omega) only [gQ, wr_e, ckI_e]
  rw [if_neg (show ¬ k < 0 by omega), if_neg (show ¬ π 0 10 ≤ k by omega)]
  by_cases c : 8 ≤ π 5 k.toNat
  · rw [if_neg (show ¬ π 5 k.toNat < 8 by omega), if_pos c]
  · rw [if_pos (show π 5 k.toNat < 8 by omega), if_neg c]
theorem k_instruction {j : Int} (hI : INV m S) (hi : wr i = i) (hj : wr j = j) : CALL m S (f_X11_instruction_p3_0 S 0 i j) (fun T => f_X12_instruction_p4_0 T 13 i j) (XR (KE 1)) := by
  obtain ⟨q, F, X, π, μ, hμ, gF, gX, gQ, gP4, gkq, hR, hM, hF, hn, hio, hSe, hct, hfu, hhi, hsv⟩ := inv_all hI
  have p0 := hR.1
  have hi2 := wr_r hi
  have hj2 := wr_r hj
  by_cases c : 0 ≤ i ∧ i < π 0 10
  · have hk1 : (i.toNat : Int) < π 0 10 := by omega
    obtain ⟨k1, k2, k3, k4, k5, k6, k7, -⟩ := pr_k hR hk1
    obtain ⟨a1, a2, a3, a4⟩ := pm_k hM hk1
    have s1 := pm_s hM (show (i.toNat : Int) ≤ π 0 10 by omega)
    by_cases d : 0 ≤ j ∧ j ≤ 7
    · have hC := hct S (uF μ 0 0 (1 - 1)) hfu (pm_told hM)
      have hF9 : RF π (BB m) 0 0 0 F ((uF μ 0 0 (1 - 1)) 6) := by
        rw [uF_6]
        exact hF
      have jb := p_isJB gQ hR c
      obtain ⟨pv, hpv, -, pi1, -⟩ := p_pred hC hF9 c
      rw [hSe] at pi1
      have hcl : ∀ X9 : Option ((Int ⊕ Nat) × xSt), (if wr j < 0 ∨ 7 < wr j then some (Sum.inr 1, S) else if wr j = 0 then (ckP S 0 0 4 2 0 fun rg3 => ckI i 60 <| some (Sum.inl (gI S rg3 5 (wr i).toNat), S)) else if wr j = 1 then (ckP S 0 0 4 2 0 fun rg6 => ckI i 61 <| some (Sum.inl (gI S rg6 9 (wr i).toNat), S)) else if wr j = 2 then (ckP S 0 0 4 2 0 fun rg9 => bd2 (f_X5_lengthOf_p2_0 S rg9 i) fun v12 S11 => some (Sum.inl v12, S11)) else if wr j = 3 then (ckP S 0 0 4 2 0 fun rg14 => ckI i 60 <| some (Sum.inl (gI S rg14 10 (wr i).toNat), S)) else if wr j = 4 then (ckP S 0 0 4 2 0 fun rg17 => ckI i 60 <| some (Sum.inl (gI S rg17 11 (wr i).toNat), S)) else if wr j = 5 then (ckP S 0 0 4 2 0 fun rg20 => ckI i 60 <| if ¬ wr (gI S rg20 5 (wr i).toNat) = wr 9 then some (Sum.inl (-1), S) else ckP S 0 0 4 2 0 fun rg22 => ckI i 60 <| some (Sum.inl (gI S rg22 8 (wr i).toNat), S)) else if wr j = 6 then (ckP S 0 0 4 2 0 fun rg26 => ckI i 60 <| if wr (gI S rg26 6 (wr i).toNat) = 0 then some (Sum.inl 0, S) else some (Sum.inl 1, S)) else if wr j = 7 then (bd2 (f_X11_predictionOf_p3_0 S 0 i) fun v32 S31 => some (Sum.inl v32, S31)) else none) = X9 → f_X11_instruction_p3_0 S 0 i j = X9 := by
        intro X9 h
        unfold f_X11_instruction_p3_0
        rw [hi, ckP_e gP4 gkq, gQ _ _ (by decide), wr_e (z := π 0 10) (by omega), if_neg (show ¬ i < 0 by omega), if_pos c.2]
        rw [hi] at h
        exact h
      have hml : ∀ (T : xSt) (X9 : Option (Int × xSt)), 10000000 ≤ fu T → f_X12_instruction_p4_0_b26 13 (sR T 13 μ) i j 1 = X9 → f_X12_instruction_p4_0 (sR T 13 μ) 13 i j = X9 := by
        intro T X9 hT h
        unfold f_X12_instruction_p4_0
        rw [p_isNum hR hM hi, if_pos c]
        simp only [bd2_e]
        rw [if_neg (by decide), hj, p_isIn hj2 (by decide) (by decide), if_pos d]
        simp only [bd2_e]
        rw [if_neg (by decide)]
        exact h
      rcases (show j = 0 ∨ j = 1 ∨ j = 2 ∨ j = 3 ∨ j = 4 ∨ j = 5 ∨ j = 6 ∨ j = 7 by omega) with rfl | rfl | rfl | rfl | rfl | rfl | rfl | rfl
      · refine callR hI (v := .inl (π 5 i.toNat)) (v' := π 5 i.toNat) (z := 1 - 1) (hcl _ ?_) (fun T hT => ?_) ⟨rfl, uF_e⟩
        · show (ckP S 0 0 4 2 0 fun rg3 => ckI i 60 <| some (Sum.inl (gI S rg3 5 (wr i).toNat), S)) = _
          rw [ckP_e gP4 gkq, ckI_e (by omega), gQ _ _ (by decide), hi]
        · rw [hμ]
          refine hml T _ hT ?_
          unfold f_X12_instruction_p4_0_b26
          rw [p_is (Or.inr rfl)]
          simp only [bd2_e]
          rw [if_pos (by decide)]
          obtain ⟨S6, hS6⟩ : ∃ S6, S6 = sR T 13 (uF μ 0 0 (1 - 1)) := ⟨_, rfl⟩
          rw [← hS6]
          show (ckI i 60 <| some ((gI S6 13 1 (wr i).toNat), S6)) = _
          rw [ckI_e (by omega), hi, hS6, sR_g, uF_o (by decide), a1]
      · refine callR hI (v := .inl (π 9 i.toNat)) (v' := π 9 i.toNat) (z := 1 - 1) (hcl _ ?_) (fun T hT => ?_) ⟨rfl, uF_e⟩
        · show (ckP S 0 0 4 2 0 fun rg6 => ckI i 61 <| some (Sum.inl (gI S rg6 9 (wr i).toNat), S)) = _
          rw [ckP_e gP4 gkq, ckI_e (by omega), gQ _ _ (by decide), hi]
        · rw [hμ]
          refine hml T _ hT ?_
          unfold f_X12_instruction_p4_0_b26
          rw [p_is (Or.inr rfl)]
          simp only [bd2_e]
          rw [if_pos (by decide)]
          obtain ⟨S6, hS6⟩ : ∃ S6, S6 = sR T 13 (uF μ 0 0 (1 - 1)) := ⟨_, rfl⟩
          rw [← hS6]
          show (ckI i 61 <| some ((gI S6 13 5 (wr i).toNat), S6)) = _
          rw [ckI_e (by omega), hi, hS6, sR_g, uF_o (by decide), s1]
      · refine callR hI (v := .inl (π 9 (i + 1).toNat - π 9 i.toNat)) (v' := π 9 (i + 1).toNat - π 9 i.toNat) (z := 1 - 1) (hcl _ ?_) (fun T hT => ?_) ⟨rfl, uF_e⟩
        · show (ckP S 0 0 4 2 0 fun rg9 => bd2 (f_X5_lengthOf_p2_0 S rg9 i) fun v12 S11 => some (Sum.inl v12, S11)) = _
          have e1 := p_start (F := F) hC (a := i) (by omega)
          have e2 := p_start (F := F) hC (a := i + 1) (by omega)
          rw [hSe] at e1 e2
          rw [ckP_e gP4 gkq]
          unfold f_X5_lengthOf_p2_0
          rw [e2]
          simp only [bd2_e]
          rw [e1]
          rfl
        · rw [hμ]
          refine hml T _ hT ?_
          unfold f_X12_instruction_p4_0_b26
          rw [p_is (Or.inr rfl)]
          simp only [bd2_e]
          rw [if_pos (by decide)]
          obtain ⟨S6, hS6⟩ : ∃ S6, S6 = sR T 13 (uF μ 0 0 (1 - 1)) := ⟨_, rfl⟩
          rw [← hS6]
          show (bd2 (f_X12_lengthOf_p4_0 S6 13 i) fun v26 S25 => some (v26, S25)) = _
          unfold f_X12_lengthOf_p4_0
          rw [ckI_e (by omega), hi, hS6, sR_g, uF_o (by decide), a1, ckI_e (by omega), ckI_e (by omega), sR_g, uF_o (by decide), a2, wr_e (by omega), tb63]
          simp only [bd2_e]
          rw [show (i + 1).toNat = i.toNat + 1 by omega, k7]
          congr 2
          omega
      · refine callR hI (v := .inl (π 10 i.toNat)) (v' := π 10 i.toNat) (z := 1 - 1) (hcl _ ?_) (fun T hT => ?_) ⟨rfl, uF_e⟩
        · show (ckP S 0 0 4 2 0 fun rg14 => ckI i 60 <| some (Sum.inl (gI S rg14 10 (wr i).toNat), S)) = _
          rw [ckP_e gP4 gkq, ckI_e (by omega), gQ _ _ (by decide), hi]
        · rw [hμ]
          refine hml T _ hT ?_
          unfold f_X12_instruction_p4_0_b26
          rw [p_is (Or.inr rfl)]
          simp only [bd2_e]
          rw [if_pos (by decide)]
          obtain ⟨S6, hS6⟩ : ∃ S6, S6 = sR T 13 (uF μ 0 0 (1 - 1)) := ⟨_, rfl⟩
          rw [← hS6]
          show (bd2 (f_X12_opsOf_p4_0 S6 13 i) fun v30 S29 => some (v30, S29)) = _
          have k := (p_ops (N := (uF μ 0 0 (1 - 1)) 6) (hct T (uF μ 0 0 (1 - 1)) hT (pm_told hM)) c).2
          rw [wN_i] at k
          rw [hS6, k]
          rfl
      · refine callR hI (v := .inl (π 11 i.toNat)) (v' := π 11 i.toNat) (z := 1 - 1) (hcl _ ?_) (fun T hT => ?_) ⟨rfl, uF_e⟩
        · show (ckP S 0 0 4 2 0 fun rg17 => ckI i 60 <| some (Sum.inl (gI S rg17 11 (wr i).toNat), S)) = _
          rw [ckP_e gP4 gkq, ckI_e (by omega), gQ _ _ (by decide), hi]
        · rw [hμ]
          refine hml T _ hT ?_
          unfold f_X12_instruction_p4_0_b26
          rw [p_is (Or.inr rfl)]
          simp only [bd2_e]
          rw [if_pos (by decide)]
          obtain ⟨S6, hS6⟩ : ∃ S6, S6 = sR T 13 (uF μ 0 0 (1 - 1)) := ⟨_, rfl⟩
          rw [← hS6]
          show (ckI i 60 <| some ((gI S6 13 3 (wr i).toNat), S6)) = _
          rw [ckI_e (by omega), hi, hS6, sR_g, uF_o (by decide), a3]
      · refine callR hI (v := .inl (if π 5 i.toNat = 9 then π 8 i.toNat else -1)) (v' := if π 5 i.toNat = 9 then π 8 i.toNat else -1) (z := 1 - 1) (hcl _ ?_) (fun T hT => ?_) ⟨rfl, uF_e⟩
        · show (ckP S 0 0 4 2 0 fun rg20 => ckI i 60 <| if ¬ wr (gI S rg20 5 (wr i).toNat) = wr 9 then some (Sum.inl (-1), S) else ckP S 0 0 4 2 0 fun rg22 => ckI i 60 <| some (Sum.inl (gI S rg22 8 (wr i).toNat), S)) = _
          rw [ckP_e gP4 gkq, ckI_e (by omega), gQ _ _ (by decide), hi, ckP_e gP4 gkq, ckI_e (by omega), gQ _ _ (by decide), wr_e (z := π 5 i.toNat) (by omega), wr_e (z := 9) (by decide)]
          by_cases c9 : π 5 i.toNat = 9
          · rw [if_neg (fun h => h c9), if_pos c9]
          · rw [if_pos c9, if_neg c9]
        · rw [hμ]
          refine hml T _ hT ?_
          unfold f_X12_instruction_p4_0_b26
          rw [p_is (Or.inr rfl)]
          simp only [bd2_e]
          rw [if_pos (by decide)]
          obtain ⟨S6, hS6⟩ : ∃ S6, S6 = sR T 13 (uF μ 0 0 (1 - 1)) := ⟨_, rfl⟩
          rw [← hS6]
          show (ckI i 60 <| if ¬ wr (gI S6 13 1 (wr i).toNat) = wr 9 then some ((-1), S6) else ckI i 60 <| some ((gI S6 13 4 (wr i).toNat), S6)) = _
          rw [ckI_e (by omega), ckI_e (by omega), hi, hS6, sR_g, uF_o (by decide), a1, wr_e (z := π 5 i.toNat) (by omega), wr_e (z := 9) (by decide), sR_g, uF_o (by decide)]
          by_cases c9 : π 5 i.toNat = 9
          · rw [if_neg (fun h => h c9), if_pos c9, a4 c9]
          · rw [if_pos c9, if_neg c9]
      · refine callR hI (v := .inl (π 6 i.toNat)) (v' := π 6 i.toNat) (z := 1 - 1) (hcl _ ?_) (fun T hT => ?_) ⟨rfl, uF_e⟩
        · show (ckP S 0 0 4 2 0 fun rg26 => ckI i 60 <| if wr (gI S rg26 6 (wr i).toNat) = 0 then some (Sum.inl 0, S) else some (Sum.inl 1, S)) = _
          rw [ckP_e gP4 gkq, ckI_e (by omega), gQ _ _ (by decide), hi, wr_e (z := π 6 i.toNat) (by omega)]
          rcases k2 with k2 | k2
          · rw [k2, if_pos rfl]
          · rw [k2, if_neg (by decide)]
        · rw [hμ]
          refine hml T _ hT ?_
          unfold f_X12_instruction_p4_0_b26
          rw [p_is (Or.inr rfl)]
          simp only [bd2_e]
          rw [if_pos (by decide)]
          obtain ⟨S6, hS6⟩ : ∃ S6, S6 = sR T 13 (uF μ 0 0 (1 - 1)) := ⟨_, rfl⟩
          rw [← hS6]
          show (ckI i 60 <| some ((gI S6 13 2 (wr i).toNat), S6)) = _
          rw [ckI_e (by omega), hi, hS6, sR_g, uF_o (by decide), a2]
      · refine callR hI (v := .inl (if 8 ≤ π 5 i.toNat then pv else -1)) (v' := if 8 ≤ π 5 i.toNat then pv else -1) (z := 1 - 1) (hcl _ ?_) (fun T hT => ?_) ⟨rfl, uF_e⟩
        · show (bd2 (f_X11_predictionOf_p3_0 S 0 i) fun v32 S31 => some (Sum.inl v32, S31)) = _
          unfold f_X11_predictionOf_p3_0
          rw [ckP_e gP4 gkq, jb]
          simp only [bd2_e]
          by_cases c8 : 8 ≤ π 5 i.toNat
          · rw [if_pos c8, if_pos c8, if_pos (by decide), pi1]
            simp only [bd2_e]
            rcases hpv with rfl | rfl
            · rfl
            · rfl
          · rw [if_neg c8, if_neg c8, if_neg (by decide)]
            rfl
        · rw [hμ]
          refine hml T _ hT ?_
          unfold f_X12_instruction_p4_0_b26
          rw [p_is (Or.inr rfl)]
          simp only [bd2_e]
          rw [if_pos (by decide)]
          obtain ⟨S6, hS6⟩ : ∃ S6, S6 = sR T 13 (uF μ 0 0 (1 - 1)) := ⟨_, rfl⟩
          rw [← hS6]
          show (bd2 (f_X12_doesTurn_p4_0 S6 13 i) fun v12 S11 => if ¬ wr v12 = 0 then (bd2 (f_X12_predicts_p4_0 S11 13 i) fun v16 S15 => if wr v16 = 0 then some (0, S15) else some (1, S15)) else some ((-1), S11)) = _
          have hC2 := hct T (uF μ 0 0 (1 - 1)) hT (pm_told hM)
          have k := p_turn (N := (uF μ 0 0 (1 - 1)) 6) hC2 c
          obtain ⟨pv2, hpv2, -, pj1, pj2⟩ := p_pred hC2 hF9 c
          rw [hSe] at pj1
          have ev : pv2 = pv := congrArg Prod.fst (Option.some.inj (pj1.symm.trans pi1))
          subst ev
          rw [wN_i] at k pj2
          rw [hS6, k]
          simp only [bd2_e]
          by_cases c8 : 8 ≤ π 5 i.toNat
          · rw [if_pos c8, if_pos c8, if_pos (by decide), pj2]
            simp only [bd2_e]
            rcases hpv with rfl | rfl
            · rfl
            · rfl
          · rw [if_neg c8, if_neg c8, if_neg (by decide)]
    · refine callR hI (v := .inr 1) (v' := 0) (z := 1 - 0) ?_ (fun T hT => ?_) ⟨uF_e.symm, Or.inl rfl⟩
      · unfold f_X11_instruction_p3_0
        rw [hi, ckP_e gP4 gkq, gQ _ _ (by decide), wr_e (z := π 0 10) (by omega), if_neg (show ¬ i < 0 by omega), if_pos c.2, hj, if_pos (show j < 0 ∨ 7 < j by omega)]
      · rw [hμ]
        unfold f_X12_instruction_p4_0
        rw [p_isNum hR hM hi, if_pos c]
        simp only [bd2_e]
        rw [if_neg (by decide), hj, p_isIn hj2 (by decide) (by decide), if_neg d]
        simp only [bd2_e]
        rw [if_pos (by decide)]
        unfold f_X12_instruction_p4_0_b25 f_X12_instruction_p4_0_b26
        rw [p_is (Or.inl rfl)]
        simp only [bd2_e]
        rw [if_neg (by decide)]
  · refine callR hI (v := .inr 1) (v' := 0) (z := 1 - 0) ?_ (fun T hT => ?_) ⟨uF_e.symm, Or.inl rfl⟩
    · unfold f_X11_instruction_p3_0
      rw [hi, ckP_e gP4 gkq, gQ _ _ (by decide), wr_e (z := π 0 10) (by omega)]
      by_cases c2 : i < 0
      · rw [if_pos c2]
      · rw [if_neg c2, if_neg (by omega)]
    · rw [hμ]
      unfold f_X12_instruction_p4_0
      rw [p_isNum hR hM hi, if_neg c]
      simp only [bd2_e]
      rw [if_pos (by decide)]
      unfold f_X12_instruction_p4_0_b25 f_X12_instruction_p4_0_b26
      rw [p_is (Or.inl rfl)]
      simp only [bd2_e]
      rw [if_neg (by decide)]
end E3
