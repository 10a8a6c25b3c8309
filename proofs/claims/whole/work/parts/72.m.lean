/-! mathematics: printInstruction -/
section Q2
variable {m : Nat} {S : xSt} {i j : Int}
theorem tb3_r : ∀ i : Nat, i < 10 → 0 ≤ tbI 3 i ∧ tbI 3 i ≤ 14 := by decide +kernel
theorem st_r {π : xR} (hR : PR π) : ∀ k : Nat, (k : Int) ≤ π 0 10 → 0 ≤ π 9 k ∧ π 9 k ≤ 15 * k := by
  intro k
  induction k with
  | zero =>
    intro _
    rw [hR.2.1]
    exact ⟨by decide, by decide⟩
  | succ k ih =>
    intro h
    have a := ih (by omega)
    have g := pr_k hR (k := k) (by omega)
    have t := tb3_r (π 5 k).toNat (by have := g.1; omega)
    have l := g.2.1
    have s := g.2.2.2.2.2.2.1
    omega
theorem kw (kd : Nat) (h : kd < 10) : wOK (kd + 2) kd [] ∧ ∀ S : xSt, f_X11_wordOfKind S (kd : Int) = some (kd + 2, S) := by
  rcases (show kd = 0 ∨ kd = 1 ∨ kd = 2 ∨ kd = 3 ∨ kd = 4 ∨ kd = 5 ∨ kd = 6 ∨ kd = 7 ∨ kd = 8 ∨ kd = 9 by omega) with rfl | rfl | rfl | rfl | rfl | rfl | rfl | rfl | rfl | rfl
  · exact ⟨wt0, fun S => rfl⟩
  · exact ⟨wt1, fun S => rfl⟩
  · exact ⟨wt2, fun S => rfl⟩
  · exact ⟨wt3, fun S => rfl⟩
  · exact ⟨wt4, fun S => rfl⟩
  · exact ⟨wt5, fun S => rfl⟩
  · exact ⟨wt6, fun S => rfl⟩
  · exact ⟨wt7, fun S => rfl⟩
  · exact ⟨wt8, fun S => rfl⟩
  · exact ⟨wt9, fun S => rfl⟩
theorem oio_le {X0 μ0 X μ : xR} {n : Int} (h : OIO X0 μ0 X μ n) : X 6 1 = n ∧ μ 0 41 = n ∧ 0 ≤ n := by
  obtain ⟨h1, h2, -, -⟩ := h
  have a := h1.2.2.2.2.2.1
  have b := h1.2.2.2.2.2.2.1
  omega
theorem print91 {q q2 : Nat} {μ0 X μ : xR} {n : Int} (hI : INV m S) (hS : SIM (BB m) q q2 S.2.2 S.2.1 (S.2.1 13)) (hk : gk S q = 2) (hq : q = 11 ∨ q = 12) (hi : 0 ≤ i ∧ i < S.2.1 q 0 10) (hM : PM (S.2.1 q) μ) (h6 : μ 6 = S.2.1 13 6) (hO : OIO (S.2.1 0) μ0 X μ n) (hn : n ≤ 30) : ∃ v X' μ' n', f_X11_printInstruction_p3_0_b134 0 (sR S 0 X) i = some (.inl v, sR S 0 X') ∧ OIO (S.2.1 0) μ0 X' μ' n' ∧ ∀ T : xSt, 10000000 ≤ fu T → f_X12_printInstruction_p4_0_b91 13 (sR T 13 μ) i = some (v, sR T 13 μ') := by
  have hfu := hI.1
  have hR := hS.2.2.2.2.1
  obtain ⟨n1, n2, n3⟩ := oio_le hO
  have hct : ∀ T : xSt, 10000000 ≤ fu T → CT (sR S 0 X) 1 q (sR T 13 μ) 13 (uG (S.2.1 q) 77 (fun _ => 0)) μ := fun T hT => cx_ct ⟨by rw [sR_gP]; exact hS.2.2.2.1, by rw [sR_gk]; exact hk, by omega, by rw [sR_n1 (by omega)], sR_g1, by rw [sR_fu]; exact hfu, by rw [sR_fu]; exact hT, hR, hM⟩ _
  have hF : RF (uG (S.2.1 q) 77 (fun _ => 0)) (BB m) 0 0 0 (S.2.1 1) (μ 6) := by
    rw [h6]
    exact hS.2.2.2.2.2.2.1.1
  have eS : sR (sR S 0 X) 1 (S.2.1 1) = sR S 0 X := (sR_i (by rw [sR_n1 (by decide)])).symm
  obtain ⟨v, hv, -, i1, -⟩ := p_fuse (hct S hfu) hF (k := i) (by rw [uG_o (by decide)]; exact hi)
  rw [eS] at i1
  have hm : ∀ T : xSt, 10000000 ≤ fu T → f_X12_doesFuse_p4_0 (sR T 13 μ) 13 i = some (v, sR T 13 μ) := by
    intro T hT
    obtain ⟨v2, -, -, j1, j2⟩ := p_fuse (hct T hT) hF (k := i) (by rw [uG_o (by decide)]; exact hi)
    rw [eS] at j1
    have ev : v2 = v := congrArg Prod.fst (Option.some.inj (j1.symm.trans i1))
    subst ev
    rw [wN_i] at j2
    exact j2
  unfold f_X11_printInstruction_p3_0_b134 f_X12_printInstruction_p4_0_b91
  rcases hv with rfl | rfl
  · refine ⟨n, X, μ, n, ?_, hO, fun T hT => ?_⟩
    · rw [show 0 + 1 = 1 from rfl, i1, bd2_e, if_pos (by decide), sR_g, n1]
    · rw [hm T hT, bd2_e, if_pos (by decide), sR_g, n2]
  · have hO2 := oio_b (b := 43) hO (by omega)
    obtain ⟨k1, k2, k3⟩ := oio_le hO2
    refine ⟨n + 1, oC X 43, oM μ 43, n + 1, ?_, hO2, fun T hT => ?_⟩
    · rw [show 0 + 1 = 1 from rfl, i1, bd2_e, if_neg (by decide), c_byte n1 (by omega), bd_e, sR_g, k1]
    · rw [hm T hT, bd2_e, if_neg (by decide), m_byte n2 (by omega), bd_e, sR_g, k2]
theorem pm_o {π μ μ' : xR} (h : PM π μ) (hμ : ∀ o k, o ≠ 18 → (o ≠ 0 ∨ k ≠ 41) → μ' o k = μ o k) : PM π μ' := by
  unfold PM at h ⊢
  simp (disch := omega) only [hμ]
  exact h
theorem print57 {q q2 : Nat} {μ0 X μ : xR} {n : Int} (hI : INV m S) (hS : SIM (BB m) q q2 S.2.2 S.2.1 (S.2.1 13)) (hk : gk S q = 2) (hq : q = 11 ∨ q = 12) (hi : 0 ≤ i ∧ i < S.2.1 q 0 10) (hM0 : PM (S.2.1 q) μ0) (h60 : μ0 6 = S.2.1 13 6) (hO : OIO (S.2.1 0) μ0 X μ n) (hn : n ≤ 13) : ∃ v X' μ' n', f_X11_printInstruction_p3_0_b79 0 (sR S 0 X) i = some (.inl v, sR S 0 X') ∧ OIO (S.2.1 0) μ0 X' μ' n' ∧ ∀ T : xSt, 10000000 ≤ fu T → f_X12_printInstruction_p4_0_b57 13 (sR T 13 μ) i = some (v, sR T 13 μ') := by
  have hfu := hI.1
  have hR := hS.2.2.2.2.1
  have p0 := pr_n hR
  have hik : (i.toNat : Int) < S.2.1 q 0 10 := by omega
  have pk := pr_k hR hik
  have pk1 := pk.1
  have hMO : ∀ (X1 μ1 : xR) (n1 : Int), OIO (S.2.1 0) μ0 X1 μ1 n1 → PM (S.2.1 q) μ1 ∧ μ1 6 = S.2.1 13 6 := fun X1 μ1 n1 h => ⟨pm_o hM0 h.2.2.2, by rw [← h60]; funext k; exact h.2.2.2 6 k (by decide) (Or.inl (by decide))⟩
  have hgP : ∀ X1 : xR, gP (sR S 0 X1) 0 0 4 = (q, 0) := fun X1 => by rw [sR_gP]; exact hS.2.1
  have hgk : ∀ X1 : xR, gk (sR S 0 X1) q = 2 := fun X1 => by rw [sR_gk]; exact hk
  have hQ : ∀ (X1 : xR) (o k : Nat), gI (sR S 0 X1) q o k = S.2.1 q o k := fun X1 o k => by
    rw [sR_n (by omega)]
    rfl
  obtain ⟨kd, hkd⟩ : ∃ kd : Nat, S.2.1 q 5 i.toNat = (kd : Int) := ⟨(S.2.1 q 5 i.toNat).toNat, by omega⟩
  obtain ⟨w1, w2⟩ := kw kd (by omega)
  obtain ⟨L, l1, l2, l3⟩ := b_word (by omega) w1
  rw [List.append_nil] at l2
  obtain ⟨n1, n2, n3⟩ := oio_le hO
  have hO2 := oio_L L X μ n hO (by omega)
  obtain ⟨k1, k2, k3⟩ := oio_le hO2
  obtain ⟨hM2, h62⟩ := hMO _ _ _ hO2
  have hM := (hMO _ _ _ hO).1
  have m1 : μ 1 i.toNat = (kd : Int) := by rw [(pm_k hM hik).1, hkd]
  have hturn : ∀ T : xSt, 10000000 ≤ fu T → f_X12_doesTurn_p4_0 (sR T 13 (oMs μ L)) 13 i = some (if 8 ≤ S.2.1 q 5 i.toNat then 1 else 0, sR T 13 (oMs μ L)) := by
    intro T hT
    have hc : CT S 1 q (sR T 13 (oMs μ L)) 13 (uG (S.2.1 q) 77 (fun _ => 0)) (oMs μ L) := cx_ct ⟨hS.2.2.2.1, hk, by omega, rfl, sR_g1, hfu, by rw [sR_fu]; exact hT, hR, hM2⟩ _
    have t := p_turn (N := (oMs μ L) 6) hc (k := i) (by rw [uG_o (by decide)]; exact hi)
    rw [wN_i, uG_o (by decide)] at t
    exact t
  have hjmp : f_X5_isJumpOrBranch_p2_0 (sR S 0 (oCs X L)) q i = some (if 8 ≤ S.2.1 q 5 i.toNat then 1 else 0, sR S 0 (oCs X L)) := by
    unfold f_X5_isJumpOrBranch_p2_0
    rw [hQ, hQ, wr_e (z := i) (by omega), wr_e (z := S.2.1 q 0 10) (by omega), wr_e (z := S.2.1 q 5 i.toNat) (by omega), wr_e (z := 8) (by decide), if_neg (show ¬ i < 0 by omega), if_neg (show ¬ S.2.1 q 0 10 ≤ i by omega), ckI_e (by omega)]
    by_cases c : S.2.1 q 5 i.toNat < 8
    · rw [if_pos c, if_neg (show ¬ 8 ≤ S.2.1 q 5 i.toNat by omega)]
    · rw [if_neg c, if_pos (show 8 ≤ S.2.1 q 5 i.toNat by omega)]
  unfold f_X11_printInstruction_p3_0_b79 f_X12_printInstruction_p4_0_b57
  by_cases c : 8 ≤ S.2.1 q 5 i.toNat
  · rw [if_pos c] at hjmp
    have t1 := pk.2.2.1 c
    have hO3 := oio_b (b := 32) hO2 (by omega)
    obtain ⟨u1, u2, u3⟩ := oio_le hO3
    have dl := (dg_l (a := S.2.1 q 11 i.toNat)).1
    have hO4 := oio_L (dg (S.2.1 q 11 i.toNat)) _ _ _ hO3 (by omega)
    obtain ⟨hM4, h64⟩ := hMO _ _ _ hO4
    obtain ⟨hM3, -⟩ := hMO _ _ _ hO3
    have m3 := (pm_k hM3 hik).2.2.1
    obtain ⟨v, X', μ', n', y1, y2, y3⟩ := print91 (q2 := q2) hI hS hk hq hi hM4 h64 hO4 (by omega)
    refine ⟨v, X', μ', n', ?_, y2, fun T hT => ?_⟩
    · rw [ckP_e (hgP X) (hgk X), ckI_e (by omega), wr_e (z := i) (by omega), hQ, hkd, w2, bd2_e, l2 S X hfu (by omega) (by omega), bd_e, ckP_e (hgP _) (hgk _), hjmp, bd2_e, if_neg (by decide), c_byte k1 (by omega), bd_e, ckP_e (hgP _) (hgk _), ckI_e (by omega), hQ, c_num (by omega) (by omega), bd_e, y1]
    · rw [ckI_e (by omega), wr_e (z := i) (by omega), sR_g, m1, l3 T μ hT (by omega) (by omega), bd_e, hturn T hT, if_pos c, bd2_e, if_neg (by decide), m_byte k2 (by omega), bd_e, ckI_e (by omega), sR_g, m3, m_num (by omega) (by omega), bd_e, y3 T hT]
  · rw [if_neg c] at hjmp
    obtain ⟨v, X', μ', n', y1, y2, y3⟩ := print91 (q2 := q2) hI hS hk hq hi hM2 h62 hO2 (by omega)
    refine ⟨v, X', μ', n', ?_, y2, fun T hT => ?_⟩
    · rw [ckP_e (hgP X) (hgk X), ckI_e (by omega), wr_e (z := i) (by omega), hQ, hkd, w2, bd2_e, l2 S X hfu (by omega) (by omega), bd_e, ckP_e (hgP _) (hgk _), hjmp, bd2_e, if_pos (by decide), y1]
    · rw [ckI_e (by omega), wr_e (z := i) (by omega), sR_g, m1, l3 T μ hT (by omega) (by omega), bd_e, hturn T hT, if_neg c, bd2_e, if_pos (by decide), y3 T hT]
theorem k_printInstruction (hI : INV m S) (hi : wr i = i) : CALL m S (f_X11_printInstruction_p3_0 S 0 i) (fun T => f_X12_printInstruction_p4_0 T 13 i) (XR (KE 1)) := by
  have hi2 := wr_r hi
  obtain ⟨q, q2, hS, hk, hq, hcx⟩ := inv_cx hI
  have hbb : BB m ≤ BB (m + 1) := by unfold BB; omega
  have hR := hS.2.2.2.2.1
  have hM := hS.2.2.2.2.2.1
  have hio := hS.2.2.2.2.2.2.2.2.2
  have hfu := hI.1
  have p0 := pr_n hR
  have gP4 : gP S 0 0 4 = (q, 0) := hS.2.1
  have gQ0 : gI S q 0 10 = S.2.1 q 0 10 := rfl
  by_cases c : 0 ≤ i ∧ i < S.2.1 q 0 10
  · have hik : (i.toNat : Int) < S.2.1 q 0 10 := by omega
    have pk := pr_k hR hik
    have pk1 := pk.1
    have st := st_r hR i.toNat (by omega)
    have hgP : ∀ X1 : xR, gP (sR S 0 X1) 0 0 4 = (q, 0) := fun X1 => by rw [sR_gP]; exact hS.2.1
    have hgk : ∀ X1 : xR, gk (sR S 0 X1) q = 2 := fun X1 => by rw [sR_gk]; exact hk
    have hQ : ∀ (X1 : xR) (o k : Nat), gI (sR S 0 X1) q o k = S.2.1 q o k := fun X1 o k => by
      rw [sR_n (by omega)]
      rfl
    have hO0 : OIO (S.2.1 0) (uF (S.2.1 13) 0 0 (1 - 1)) (uF (S.2.1 0) 6 1 0) (uF (uF (S.2.1 13) 0 0 (1 - 1)) 0 41 0) 0 := by
      refine ⟨?_, uF_e, fun o k a1 a2 => ?_, fun o k a1 a2 => ?_⟩
      · unfold SIO at hio ⊢
        simp (disch := omega) only [uF_e, uF_o, uF_k, uG_e, uG_o, uN_e, uN_k, true_or, or_true]
        refine ⟨hio.1, hio.2.1, hio.2.2.1, hio.2.2.2.1, hio.2.2.2.2.1, trivial, by decide, fun k hk => absurd hk (by omega)⟩
      · rcases a2 with a2 | a2
        · exact uF_o a2
        · by_cases e : o = 6
          · subst e
            exact uF_k a2
          · exact uF_o e
      · rcases a2 with a2 | a2
        · exact uF_o a2
        · by_cases e : o = 0
          · subst e
            exact uF_k a2
          · exact uF_o e
    have hM0 : PM (S.2.1 q) (uF (S.2.1 13) 0 0 (1 - 1)) := pm_told hM
    have h60 : (uF (S.2.1 13) 0 0 (1 - 1)) 6 = S.2.1 13 6 := uF_6
    have dl := (dg_l (a := S.2.1 q 9 i.toNat)).1
    have hO1 := oio_L (dg (S.2.1 q 9 i.toNat)) _ _ _ hO0 (by omega)
    have hO2 := oio_b (b := 32) hO1 (by omega)
    obtain ⟨a1, a2, a3⟩ := oio_le hO1
    obtain ⟨b1, b2, b3⟩ := oio_le hO2
    have hM1 := pm_o hM0 hO0.2.2.2
    have hM2 := pm_o hM0 hO2.2.2.2
    have s5 := pm_s hM1 (k := i.toNat) (by omega)
    have s2 := (pm_k hM2 hik).2.1
    have key : ∃ v X' μ' n', f_X11_printInstruction_p3_0 S 0 i = some (.inl v, sR S 0 X') ∧ OIO (S.2.1 0) (uF (S.2.1 13) 0 0 (1 - 1)) X' μ' n' ∧ ∀ T : xSt, 10000000 ≤ fu T → f_X12_printInstruction_p4_0 (sR T 13 (S.2.1 13)) 13 i = some (v, sR T 13 μ') := by
      have hcl : ∀ r, (if wr (S.2.1 q 6 i.toNat) = 0 then f_X11_printInstruction_p3_0_b79 0 (sR S 0 (oC (oCs (uF (S.2.1 0) 6 1 0) (dg (S.2.1 q 9 i.toNat))) 32)) i else (bd (f_X2_addText_p3_6 (sR S 0 (oC (oCs (uF (S.2.1 0) 6 1 0) (dg (S.2.1 q 9 i.toNat))) 32)) 0 40) fun S40 => f_X11_printInstruction_p3_0_b79 0 S40 i)) = r → f_X11_printInstruction_p3_0 S 0 i = r := by
        intro r h
        unfold f_X11_printInstruction_p3_0 f_X2_clear_p3_6
        rw [hi, ckP_e gP4 hk, gQ0, wr_e (z := S.2.1 q 0 10) (by omega), if_neg (show ¬ i < 0 by omega), if_pos c.2, sR_0, lt1_e, bd_e, ckP_e (hgP _) (hgk _), ckI_e (by omega), hQ, c_num (by omega) (by rw [uF_e]; decide), bd_e, c_byte a1 (by omega), bd_e, ckP_e (hgP _) (hgk _), ckI_e (by omega), hQ, h]
      have hml : ∀ (T : xSt) r, 10000000 ≤ fu T → (if ¬ wr (S.2.1 q 6 i.toNat) = wr 1 then f_X12_printInstruction_p4_0_b57 13 (sR T 13 (oM (oMs (uF (uF (S.2.1 13) 0 0 (1 - 1)) 0 41 0) (dg (S.2.1 q 9 i.toNat))) 32)) i else (bd (f_X12_saysWord_p4_0 (sR T 13 (oM (oMs (uF (uF (S.2.1 13) 0 0 (1 - 1)) 0 41 0) (dg (S.2.1 q 9 i.toNat))) 32)) 13 18) fun S37 => bd (f_X12_says_p4_0 S37 13 32) fun S39 => f_X12_printInstruction_p4_0_b57 13 S39 i)) = r → f_X12_printInstruction_p4_0 (sR T 13 (S.2.1 13)) 13 i = r := by
        intro T r hT h
        unfold f_X12_printInstruction_p4_0
        rw [p_isNum hR hM hi, if_pos c, bd2_e, p_is (Or.inr rfl), bd2_e, if_pos (by decide), sR_w, lt1_e, ckI_e (by omega), hi, sR_g, s5, m_num (by omega) (by rw [uF_e]; decide), bd_e, m_byte a2 (by omega), bd_e, ckI_e (by omega), sR_g, s2, h]
      by_cases d : S.2.1 q 6 i.toNat = 0
      · obtain ⟨v, X', μ', n', y1, y2, y3⟩ := print57 (q2 := q2) hI hS hk hq c hM0 h60 hO2 (by omega)
        refine ⟨v, X', μ', n', hcl _ ?_, y2, fun T hT => hml T _ hT ?_⟩
        · rw [d, if_pos (by decide), y1]
        · rw [d, if_pos (by decide), y3 T hT]
      · have d1 : S.2.1 q 6 i.toNat = 1 := by have := pk.2.1; omega
        obtain ⟨L, l1, l2, l3⟩ := b_word (by decide) wt18
        have hl : (((L ++ [32]).length : Nat) : Int) = (L.length : Int) + 1 := by
          rw [List.length_append]
          show ((L.length + 1 : Nat) : Int) = _
          omega
        have hO3 := oio_L (L ++ [32]) _ _ _ hO2 (by omega)
        obtain ⟨v, X', μ', n', y1, y2, y3⟩ := print57 (q2 := q2) hI hS hk hq c hM0 h60 hO3 (by omega)
        refine ⟨v, X', μ', n', hcl _ ?_, y2, fun T hT => hml T _ hT ?_⟩
        · rw [d1, if_neg (by decide), l2 S _ hfu (by omega) (by omega), bd_e, y1]
        · have y3' := y3 T hT
          rw [oMs_a] at y3'
          rw [d1, if_neg (by decide)]
          have e18 := l3 T (oM (oMs (uF (uF (S.2.1 13) 0 0 (1 - 1)) 0 41 0) (dg (S.2.1 q 9 i.toNat))) 32) hT (by omega) (by omega)
          rw [show ((18 : Nat) : Int) = 18 from rfl] at e18
          rw [e18, bd_e, m_byte rfl (by rw [oMs_n]; omega), bd_e]
          exact y3'
    obtain ⟨v, X', μ', n', y1, y2, y3⟩ := key
    refine ⟨.inl v, sR S 0 X', y1, rfl, by rw [sR_n1 (by decide)], fun T hT hμ => ?_⟩
    have hT13 := sR_i hμ
    obtain ⟨x1, x2, x3, x4⟩ := y2
    refine ⟨v, μ', q, q2, ?_, ⟨rfl, ?_⟩, ?_⟩
    · show f_X12_printInstruction_p4_0 T 13 i = _
      rw [hT13, y3 T hT, sR_s]
    · rw [x4 0 0 (by decide) (by decide), uF_e]
      rfl
    · refine sim_io hS hbb (fun r hr => by rw [sR_n1 hr]) (by rw [sR_g1]; exact x3 8 1 (by decide) (by decide)) (by rw [sR_g1]; exact x3 8 2 (by decide) (by decide)) (by rw [sR_g1]; exact x3 0 9 (by decide) (by decide)) (fun o k a1 a2 a3 a4 => by rw [x4 o k a3 (Or.inl a1), uF_o a1]) (fun k a1 a2 a3 a4 => by rw [x4 0 k (by decide) (Or.inr a3), uF_k a1]) (by rw [sR_g1]; exact x1)
  · refine callR hI (v := .inr 1) (v' := 0) (z := 1 - 0) ?_ (fun T hT => ?_) ⟨uF_e.symm, Or.inl rfl⟩
    · unfold f_X11_printInstruction_p3_0
      rw [hi, ckP_e gP4 hk, gQ0, wr_e (z := S.2.1 q 0 10) (by omega)]
      by_cases c2 : i < 0
      · rw [if_pos c2]
      · rw [if_neg c2, if_neg (by omega)]
    · unfold f_X12_printInstruction_p4_0
      rw [p_isNum hR hM hi, if_neg c, bd2_e, p_is (Or.inl rfl), bd2_e, if_neg (by decide)]
end Q2
