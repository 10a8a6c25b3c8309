/-! mathematics: a setting of the text -/
theorem bit_a : ∀ m : Nat, m < 64 → ∀ s : Nat, s < 6 → iA (iSr ((1024 * m : Nat) : Int) ((10 + s : Nat) : Int)) 1 = ((m / 2 ^ s % 2 : Nat) : Int) := by decide +kernel
theorem bit_o : ∀ m : Nat, m < 64 → ∀ s : Nat, s < 6 → iO ((1024 * m : Nat) : Int) (iSl 1 ((10 + s : Nat) : Int)) = ((1024 * (m ||| 2 ^ s) : Nat) : Int) ∧ (m ||| 2 ^ s) < 64 ∧ ∀ u : Nat, u < 6 → (m ||| 2 ^ s) / 2 ^ u % 2 = if u = s then 1 else m / 2 ^ u % 2 := by decide +kernel
def AL : Nat → Int → Prop
  | 0, v => 1 ≤ v ∧ v ≤ 6
  | 1, v => v = 8 ∨ v = 16 ∨ v = 32
  | 2, v => 2 ≤ v ∧ v ≤ 20
  | 3, v => 4 ≤ v ∧ v ≤ 40
  | 4, v => 1 ≤ v ∧ v ≤ 8
  | _, v => 0 ≤ v ∧ v ≤ 30
def so (s : Nat) : Nat := ([7, 0, 0, 0, 7, 7] : List Nat).getD s 0
def sk (s : Nat) : Nat := ([0, 33, 34, 35, 1, 2] : List Nat).getD s 0
def stg (S5 : xSt) (x1 : Int) : Option xSt :=
  if wr (x1 - 10) < 0 ∨ 4 < wr (x1 - 10) then
    (bd2 (f_X12_number_p4_0 S5 13 0 30) fun v9 S8 => lt1 (wI S8 13 7 2 v9) fun S10 => some S10)
  else if wr (x1 - 10) = 0 then
    (bd2 (f_X12_number_p4_0 S5 13 1 6) fun v13 S12 => lt1 (wI S12 13 7 0 v13) fun S14 => some S14)
  else if wr (x1 - 10) = 1 then
    (bd2 (f_X12_width_p4_0 S5 13) fun v18 S17 => lt1 (wI S17 13 0 33 v18) fun S19 => some S19)
  else if wr (x1 - 10) = 2 then
    (bd2 (f_X12_number_p4_0 S5 13 2 20) fun v23 S22 => lt1 (wI S22 13 0 34 v23) fun S24 => some S24)
  else if wr (x1 - 10) = 3 then
    (bd2 (f_X12_number_p4_0 S5 13 4 40) fun v28 S27 => lt1 (wI S27 13 0 35 v28) fun S29 => some S29)
  else if wr (x1 - 10) = 4 then
    (bd2 (f_X12_number_p4_0 S5 13 1 8) fun v33 S32 => lt1 (wI S32 13 7 1 v33) fun S34 => some S34)
  else none
theorem stg_d {S : xSt} {x1 s0 : Int} : f_X12_readsSetting_p4_0_b17 13 S x1 s0 = (bd (f_X12_needs_p4_0 S 13 s0 3) fun S2 => lt1 (wI S2 13 0 32 (iO (gI S2 13 0 32) (iSl 1 x1))) fun S3 => bd (f_X12_goOn_p4_0 S3 13) fun S5 => stg S5 x1) := rfl
section SE
variable {S T : xSt} {q s : Nat} {n x p e t v : Int} {b : Nat → Int} {X X' Y μ μ1 μ2 μ' : xR}
theorem so_k : ∀ s : Nat, s < 6 → ((so s = 0 ∧ 33 ≤ sk s ∧ sk s ≤ 35) ∨ (so s = 7 ∧ sk s ≤ 2)) := by decide
theorem e_stg (h : HE μ) : ∀ s : Nat, s < 6 → ∃ z, stg (sR T 13 μ) ((10 + s : Nat) : Int) = some (sR T 13 (uF μ (so s) (sk s) z)) := by
  intro s hs
  refine ⟨μ 0 27, ?_⟩
  have hh : s = 0 ∨ s = 1 ∨ s = 2 ∨ s = 3 ∨ s = 4 ∨ s = 5 := by omega
  unfold stg
  rcases hh with rfl | rfl | rfl | rfl | rfl | rfl
  · rw [if_neg (by decide), if_pos (by decide)]
    rw [e_num h, bd2_e, sR_w, lt1_e]
    rfl
  · rw [if_neg (by decide), if_neg (by decide), if_pos (by decide)]
    rw [e_width h, bd2_e, sR_w, lt1_e]
    rfl
  · rw [if_neg (by decide), if_neg (by decide), if_neg (by decide), if_pos (by decide)]
    rw [e_num h, bd2_e, sR_w, lt1_e]
    rfl
  · rw [if_neg (by decide), if_neg (by decide), if_neg (by decide), if_neg (by decide), if_pos (by decide)]
    rw [e_num h, bd2_e, sR_w, lt1_e]
    rfl
  · rw [if_neg (by decide), if_neg (by decide), if_neg (by decide), if_neg (by decide), if_neg (by decide), if_pos (by decide)]
    rw [e_num h, bd2_e, sR_w, lt1_e]
    rfl
  · rw [if_pos (by decide)]
    rw [e_num h, bd2_e, sR_w, lt1_e]
    rfl
theorem m_width (hM : MTK n b μ p e t v) (ht : TOK n b p e t v) (hc : μ 0 29 = 0) : f_X12_width_p4_0 (sR T 13 μ) 13 = (if t = 2 then (if v = 8 ∨ v = 16 ∨ v = 32 then (bd (f_X12_goOn_p4_0 (sR T 13 μ) 13) fun S16 => some (v, S16)) else some (v, sR T 13 (EM μ 2))) else some (μ 0 27, sR T 13 (EM μ 1))) := by
  have h2 := m_tn hM ht
  unfold f_X12_width_p4_0
  rw [sR_g]
  by_cases c : t = 2
  · have hv := ht.2.2.2.1 c
    have h27 := hM.2.2.2.2.2.1 c
    have h58 : f_X12_width_p4_0_b58 13 (sR T 13 μ) 1 = (bd (f_X12_goOn_p4_0 (sR T 13 μ) 13) fun S16 => some (v, S16)) := by
      unfold f_X12_width_p4_0_b58
      rw [m_yes, bd_e, sR_g, h27]
    rw [if_neg (fun h => h (h2.mpr c)), if_pos c]
    unfold f_X12_width_p4_0_b14
    rw [m_yes, bd_e, m_fine hc, bd2_e, if_neg (by decide), sR_g, h27, wr_e (z := v) (by omega), wr_e (z := 8) (by decide), wr_e (z := 16) (by decide), wr_e (z := 32) (by decide)]
    unfold f_X12_width_p4_0_b53
    rw [h58]
    by_cases c8 : v = 8
    · rw [if_pos c8, if_pos (Or.inl c8)]
    · rw [if_neg c8]
      by_cases c16 : v = 16
      · rw [if_pos c16, if_pos (Or.inr (Or.inl c16))]
      · rw [if_neg c16]
        by_cases c32 : v = 32
        · rw [if_neg (fun h => h c32), if_pos (Or.inr (Or.inr c32))]
        · have hE : HE (EM μ 2) := he_EM (by decide)
          rw [if_pos c32, if_neg (by omega)]
          unfold f_X12_width_p4_0_b58
          rw [m_no hc, bd_e, e_on hE, bd_e, sR_g]
          unfold EM
          rw [uF_n (by omega), uF_n (by omega), h27]
  · have hE : HE (EM μ 1) := he_EM (by decide)
    rw [if_pos (fun h => c (h2.mp h)), if_neg c]
    unfold f_X12_width_p4_0_b14
    rw [m_no hc, bd_e, e_fine hE, bd2_e, if_pos (by decide), e_on hE, bd_e, sR_g]
    unfold EM
    rw [uF_n (by omega), uF_n (by omega)]
theorem stg_y (hM : MTK n b μ p e t v) (ht : TOK n b p e t v) (hc : μ 0 29 = 0) (h2 : t = 2) (hg : f_X12_goOn_p4_0 (sR T 13 μ) 13 = some (sR T 13 μ1)) : ∀ s : Nat, s < 6 → AL s v → stg (sR T 13 μ) ((10 + s : Nat) : Int) = some (sR T 13 (uF μ1 (so s) (sk s) v)) := by
  intro s hs ha
  have hh : s = 0 ∨ s = 1 ∨ s = 2 ∨ s = 3 ∨ s = 4 ∨ s = 5 := by omega
  unfold stg
  rcases hh with rfl | rfl | rfl | rfl | rfl | rfl
  · rw [if_neg (by decide), if_pos (by decide)]
    rw [m_number hM ht hc (lo := 1) (hi := 6) (by decide), if_pos h2, if_pos (show 1 ≤ v ∧ v ≤ 6 from ha), hg, bd_e, bd2_e, sR_w, lt1_e]
    rfl
  · rw [if_neg (by decide), if_neg (by decide), if_pos (by decide)]
    rw [m_width hM ht hc, if_pos h2, if_pos (show v = 8 ∨ v = 16 ∨ v = 32 from ha), hg, bd_e, bd2_e, sR_w, lt1_e]
    rfl
  · rw [if_neg (by decide), if_neg (by decide), if_neg (by decide), if_pos (by decide)]
    rw [m_number hM ht hc (lo := 2) (hi := 20) (by decide), if_pos h2, if_pos (show 2 ≤ v ∧ v ≤ 20 from ha), hg, bd_e, bd2_e, sR_w, lt1_e]
    rfl
  · rw [if_neg (by decide), if_neg (by decide), if_neg (by decide), if_neg (by decide), if_pos (by decide)]
    rw [m_number hM ht hc (lo := 4) (hi := 40) (by decide), if_pos h2, if_pos (show 4 ≤ v ∧ v ≤ 40 from ha), hg, bd_e, bd2_e, sR_w, lt1_e]
    rfl
  · rw [if_neg (by decide), if_neg (by decide), if_neg (by decide), if_neg (by decide), if_neg (by decide), if_pos (by decide)]
    rw [m_number hM ht hc (lo := 1) (hi := 8) (by decide), if_pos h2, if_pos (show 1 ≤ v ∧ v ≤ 8 from ha), hg, bd_e, bd2_e, sR_w, lt1_e]
    rfl
  · rw [if_pos (by decide)]
    rw [m_number hM ht hc (lo := 0) (hi := 30) (by decide), if_pos h2, if_pos (show 0 ≤ v ∧ v ≤ 30 from ha), hg, bd_e, bd2_e, sR_w, lt1_e]
    rfl
theorem stg_n (hM : MTK n b μ p e t v) (ht : TOK n b p e t v) (hc : μ 0 29 = 0) : ∀ s : Nat, s < 6 → ¬ (t = 2 ∧ AL s v) → ∃ z, stg (sR T 13 μ) ((10 + s : Nat) : Int) = some (sR T 13 (uF (EM μ (if t = 2 then 2 else 1)) (so s) (sk s) z)) := by
  intro s hs ha
  by_cases h2 : t = 2
  · rw [if_pos h2]
    have ha2 : ¬ AL s v := fun h => ha ⟨h2, h⟩
    refine ⟨v, ?_⟩
    have hh : s = 0 ∨ s = 1 ∨ s = 2 ∨ s = 3 ∨ s = 4 ∨ s = 5 := by omega
    unfold stg
    rcases hh with rfl | rfl | rfl | rfl | rfl | rfl
    · rw [if_neg (by decide), if_pos (by decide)]
      rw [m_number hM ht hc (lo := 1) (hi := 6) (by decide), if_pos h2, if_neg (show ¬ (1 ≤ v ∧ v ≤ 6) from ha2), bd2_e, sR_w, lt1_e]
      rfl
    · rw [if_neg (by decide), if_neg (by decide), if_pos (by decide)]
      rw [m_width hM ht hc, if_pos h2, if_neg (show ¬ (v = 8 ∨ v = 16 ∨ v = 32) from ha2), bd2_e, sR_w, lt1_e]
      rfl
    · rw [if_neg (by decide), if_neg (by decide), if_neg (by decide), if_pos (by decide)]
      rw [m_number hM ht hc (lo := 2) (hi := 20) (by decide), if_pos h2, if_neg (show ¬ (2 ≤ v ∧ v ≤ 20) from ha2), bd2_e, sR_w, lt1_e]
      rfl
    · rw [if_neg (by decide), if_neg (by decide), if_neg (by decide), if_neg (by decide), if_pos (by decide)]
      rw [m_number hM ht hc (lo := 4) (hi := 40) (by decide), if_pos h2, if_neg (show ¬ (4 ≤ v ∧ v ≤ 40) from ha2), bd2_e, sR_w, lt1_e]
      rfl
    · rw [if_neg (by decide), if_neg (by decide), if_neg (by decide), if_neg (by decide), if_neg (by decide), if_pos (by decide)]
      rw [m_number hM ht hc (lo := 1) (hi := 8) (by decide), if_pos h2, if_neg (show ¬ (1 ≤ v ∧ v ≤ 8) from ha2), bd2_e, sR_w, lt1_e]
      rfl
    · rw [if_pos (by decide)]
      rw [m_number hM ht hc (lo := 0) (hi := 30) (by decide), if_pos h2, if_neg (show ¬ (0 ≤ v ∧ v ≤ 30) from ha2), bd2_e, sR_w, lt1_e]
      rfl
  · rw [if_neg h2]
    refine ⟨μ 0 27, ?_⟩
    have hh : s = 0 ∨ s = 1 ∨ s = 2 ∨ s = 3 ∨ s = 4 ∨ s = 5 := by omega
    unfold stg
    rcases hh with rfl | rfl | rfl | rfl | rfl | rfl
    · rw [if_neg (by decide), if_pos (by decide)]
      rw [m_number hM ht hc (lo := 1) (hi := 6) (by decide), if_neg h2, bd2_e, sR_w, lt1_e]
      rfl
    · rw [if_neg (by decide), if_neg (by decide), if_pos (by decide)]
      rw [m_width hM ht hc, if_neg h2, bd2_e, sR_w, lt1_e]
      rfl
    · rw [if_neg (by decide), if_neg (by decide), if_neg (by decide), if_pos (by decide)]
      rw [m_number hM ht hc (lo := 2) (hi := 20) (by decide), if_neg h2, bd2_e, sR_w, lt1_e]
      rfl
    · rw [if_neg (by decide), if_neg (by decide), if_neg (by decide), if_neg (by decide), if_pos (by decide)]
      rw [m_number hM ht hc (lo := 4) (hi := 40) (by decide), if_neg h2, bd2_e, sR_w, lt1_e]
      rfl
    · rw [if_neg (by decide), if_neg (by decide), if_neg (by decide), if_neg (by decide), if_neg (by decide), if_pos (by decide)]
      rw [m_number hM ht hc (lo := 1) (hi := 8) (by decide), if_neg h2, bd2_e, sR_w, lt1_e]
      rfl
    · rw [if_pos (by decide)]
      rw [m_number hM ht hc (lo := 0) (hi := 30) (by decide), if_neg h2, bd2_e, sR_w, lt1_e]
      rfl
theorem c_allow (hv : 0 ≤ v ∧ v ≤ 99) : ∀ s : Nat, s < 6 → (AL s v ∧ f_X11_isAllowed S (s : Int) v = some (1, S)) ∨ (¬ AL s v ∧ f_X11_isAllowed S (s : Int) v = some (0, S)) := by
  intro s hs
  have hh : s = 0 ∨ s = 1 ∨ s = 2 ∨ s = 3 ∨ s = 4 ∨ s = 5 := by omega
  rcases hh with rfl | rfl | rfl | rfl | rfl | rfl
  · show ((1 ≤ v ∧ v ≤ 6) ∧ f_X11_isAllowed S 0 v = some (1, S)) ∨ (¬ (1 ≤ v ∧ v ≤ 6) ∧ f_X11_isAllowed S 0 v = some (0, S))
    have l1 : wr (tbI 2 (wr 0).toNat) = 1 := by decide +kernel
    have l2 : wr (tbI 0 (wr 0).toNat) = 6 := by decide +kernel
    unfold f_X11_isAllowed
    rw [if_neg (by decide), if_pos (by decide), if_pos (by decide), ckI_e (by decide), wr_e (z := v) (by omega), l1, ckI_e (by decide), l2]
    by_cases c1 : v < 1
    · exact Or.inr ⟨by omega, if_pos c1⟩
    · rw [if_neg c1]
      by_cases c2 : 6 < v
      · exact Or.inr ⟨by omega, if_pos c2⟩
      · exact Or.inl ⟨by omega, if_neg c2⟩
  · show ((v = 8 ∨ v = 16 ∨ v = 32) ∧ f_X11_isAllowed S 1 v = some (1, S)) ∨ (¬ (v = 8 ∨ v = 16 ∨ v = 32) ∧ f_X11_isAllowed S 1 v = some (0, S))
    unfold f_X11_isAllowed
    rw [if_neg (by decide), if_pos (by decide), if_neg (by decide), wr_e (z := v) (by omega), wr_e (z := 8) (by decide), wr_e (z := 16) (by decide), wr_e (z := 32) (by decide)]
    by_cases c8 : v = 8
    · exact Or.inl ⟨Or.inl c8, if_pos c8⟩
    · rw [if_neg c8]
      by_cases c16 : v = 16
      · exact Or.inl ⟨Or.inr (Or.inl c16), if_pos c16⟩
      · rw [if_neg c16]
        by_cases c32 : v = 32
        · exact Or.inl ⟨Or.inr (Or.inr c32), if_neg (fun h => h c32)⟩
        · exact Or.inr ⟨by omega, if_pos c32⟩
  · show ((2 ≤ v ∧ v ≤ 20) ∧ f_X11_isAllowed S 2 v = some (1, S)) ∨ (¬ (2 ≤ v ∧ v ≤ 20) ∧ f_X11_isAllowed S 2 v = some (0, S))
    have l1 : wr (tbI 2 (wr 2).toNat) = 2 := by decide +kernel
    have l2 : wr (tbI 0 (wr 2).toNat) = 20 := by decide +kernel
    unfold f_X11_isAllowed
    rw [if_neg (by decide), if_pos (by decide), if_pos (by decide), ckI_e (by decide), wr_e (z := v) (by omega), l1, ckI_e (by decide), l2]
    by_cases c1 : v < 2
    · exact Or.inr ⟨by omega, if_pos c1⟩
    · rw [if_neg c1]
      by_cases c2 : 20 < v
      · exact Or.inr ⟨by omega, if_pos c2⟩
      · exact Or.inl ⟨by omega, if_neg c2⟩
  · show ((4 ≤ v ∧ v ≤ 40) ∧ f_X11_isAllowed S 3 v = some (1, S)) ∨ (¬ (4 ≤ v ∧ v ≤ 40) ∧ f_X11_isAllowed S 3 v = some (0, S))
    have l1 : wr (tbI 2 (wr 3).toNat) = 4 := by decide +kernel
    have l2 : wr (tbI 0 (wr 3).toNat) = 40 := by decide +kernel
    unfold f_X11_isAllowed
    rw [if_neg (by decide), if_pos (by decide), if_pos (by decide), ckI_e (by decide), wr_e (z := v) (by omega), l1, ckI_e (by decide), l2]
    by_cases c1 : v < 4
    · exact Or.inr ⟨by omega, if_pos c1⟩
    · rw [if_neg c1]
      by_cases c2 : 40 < v
      · exact Or.inr ⟨by omega, if_pos c2⟩
      · exact Or.inl ⟨by omega, if_neg c2⟩
  · show ((1 ≤ v ∧ v ≤ 8) ∧ f_X11_isAllowed S 4 v = some (1, S)) ∨ (¬ (1 ≤ v ∧ v ≤ 8) ∧ f_X11_isAllowed S 4 v = some (0, S))
    have l1 : wr (tbI 2 (wr 4).toNat) = 1 := by decide +kernel
    have l2 : wr (tbI 0 (wr 4).toNat) = 8 := by decide +kernel
    unfold f_X11_isAllowed
    rw [if_neg (by decide), if_pos (by decide), if_pos (by decide), ckI_e (by decide), wr_e (z := v) (by omega), l1, ckI_e (by decide), l2]
    by_cases c1 : v < 1
    · exact Or.inr ⟨by omega, if_pos c1⟩
    · rw [if_neg c1]
      by_cases c2 : 8 < v
      · exact Or.inr ⟨by omega, if_pos c2⟩
      · exact Or.inl ⟨by omega, if_neg c2⟩
  · show ((0 ≤ v ∧ v ≤ 30) ∧ f_X11_isAllowed S 5 v = some (1, S)) ∨ (¬ (0 ≤ v ∧ v ≤ 30) ∧ f_X11_isAllowed S 5 v = some (0, S))
    have l1 : wr (tbI 2 (wr 5).toNat) = 0 := by decide +kernel
    have l2 : wr (tbI 0 (wr 5).toNat) = 30 := by decide +kernel
    unfold f_X11_isAllowed
    rw [if_neg (by decide), if_pos (by decide), if_pos (by decide), ckI_e (by decide), wr_e (z := v) (by omega), l1, ckI_e (by decide), l2]
    by_cases c1 : v < 0
    · exact Or.inr ⟨by omega, if_pos c1⟩
    · rw [if_neg c1]
      by_cases c2 : 30 < v
      · exact Or.inr ⟨by omega, if_pos c2⟩
      · exact Or.inl ⟨by omega, if_neg c2⟩
theorem drs_s (h : DRs Y μ) (hM : ∀ o k : Nat, ((o = 0 ∧ 33 ≤ k ∧ k ≤ 35) ∨ (o = 7 ∧ k ≤ 2)) → ¬ (o = so s ∧ k = sk s) → μ' o k = μ o k) (hv : μ' (so s) (sk s) = v) (hs : s < 6) (ha : AL s v) : DRs (uF Y 1 s v) μ' := by
  have hh : s = 0 ∨ s = 1 ∨ s = 2 ∨ s = 3 ∨ s = 4 ∨ s = 5 := by omega
  unfold DRs at h ⊢
  rcases hh with rfl | rfl | rfl | rfl | rfl | rfl
  · have hv2 : μ' 7 0 = v := hv
    rw [hM 7 1 (by omega) (by decide), hM 7 2 (by omega) (by decide), hM 0 33 (by omega) (by decide), hM 0 34 (by omega) (by decide), hM 0 35 (by omega) (by decide), hv2]
    simp (disch := omega) only [uF_e, uF_n]
    have ha2 : 1 ≤ v ∧ v ≤ 6 := ha
    refine ⟨?_, ?_, ?_, ?_, ?_, ?_, ?_, ?_, ?_, ?_, ?_, ?_⟩ <;> (first | exact trivial | omega)
  · have hv2 : μ' 0 33 = v := hv
    rw [hM 7 0 (by omega) (by decide), hM 7 1 (by omega) (by decide), hM 7 2 (by omega) (by decide), hM 0 34 (by omega) (by decide), hM 0 35 (by omega) (by decide), hv2]
    simp (disch := omega) only [uF_e, uF_n]
    have ha2 : v = 8 ∨ v = 16 ∨ v = 32 := ha
    refine ⟨?_, ?_, ?_, ?_, ?_, ?_, ?_, ?_, ?_, ?_, ?_, ?_⟩ <;> (first | exact trivial | omega)
  · have hv2 : μ' 0 34 = v := hv
    rw [hM 7 0 (by omega) (by decide), hM 7 1 (by omega) (by decide), hM 7 2 (by omega) (by decide), hM 0 33 (by omega) (by decide), hM 0 35 (by omega) (by decide), hv2]
    simp (disch := omega) only [uF_e, uF_n]
    have ha2 : 2 ≤ v ∧ v ≤ 20 := ha
    refine ⟨?_, ?_, ?_, ?_, ?_, ?_, ?_, ?_, ?_, ?_, ?_, ?_⟩ <;> (first | exact trivial | omega)
  · have hv2 : μ' 0 35 = v := hv
    rw [hM 7 0 (by omega) (by decide), hM 7 1 (by omega) (by decide), hM 7 2 (by omega) (by decide), hM 0 33 (by omega) (by decide), hM 0 34 (by omega) (by decide), hv2]
    simp (disch := omega) only [uF_e, uF_n]
    have ha2 : 4 ≤ v ∧ v ≤ 40 := ha
    refine ⟨?_, ?_, ?_, ?_, ?_, ?_, ?_, ?_, ?_, ?_, ?_, ?_⟩ <;> (first | exact trivial | omega)
  · have hv2 : μ' 7 1 = v := hv
    rw [hM 7 0 (by omega) (by decide), hM 7 2 (by omega) (by decide), hM 0 33 (by omega) (by decide), hM 0 34 (by omega) (by decide), hM 0 35 (by omega) (by decide), hv2]
    simp (disch := omega) only [uF_e, uF_n]
    have ha2 : 1 ≤ v ∧ v ≤ 8 := ha
    refine ⟨?_, ?_, ?_, ?_, ?_, ?_, ?_, ?_, ?_, ?_, ?_, ?_⟩ <;> (first | exact trivial | omega)
  · have hv2 : μ' 7 2 = v := hv
    rw [hM 7 0 (by omega) (by decide), hM 7 1 (by omega) (by decide), hM 0 33 (by omega) (by decide), hM 0 34 (by omega) (by decide), hM 0 35 (by omega) (by decide), hv2]
    simp (disch := omega) only [uF_e, uF_n]
    have ha2 : 0 ≤ v ∧ v ≤ 30 := ha
    refine ⟨?_, ?_, ?_, ?_, ?_, ?_, ?_, ?_, ?_, ?_, ?_, ?_⟩ <;> (first | exact trivial | omega)
theorem k_stg (hS : W2 q S) (hT : 10000000 ≤ fu T) (hn : BT n b) (hX : CTK n b X p e t v) (hM : MTK n b μ p e t v) (ht : TOK n b p e t v) (hc : μ 0 29 = 0) (hD : DR X Y μ) (ht1 : t = 1) (hv : v = ((10 + s : Nat) : Int)) (hs : s < 6) (h10 : X 2 10 = 0) : OUT S T q n b (f_X3_readSetting_p3_2 (cs S q X Y) 0 (s : Int)) (f_X12_readsSetting_p4_0 (sR T 13 μ) 13 ((10 + s : Nat) : Int)) X Y μ p := by
  obtain ⟨d1, ⟨m, m1, m2, m3⟩, d3, d4, d5, d6⟩ := id hD
  have hb := bit_a m m1 s hs
  obtain ⟨o1, o2, o3⟩ := bit_o m m1 s hs
  have hpe := ht.2.2.2.2 (by omega)
  have hbr : m / 2 ^ s % 2 = 0 ∨ m / 2 ^ s % 2 = 1 := by omega
  have hm : f_X12_readsSetting_p4_0 (sR T 13 μ) 13 ((10 + s : Nat) : Int) = (if m / 2 ^ s % 2 = 0 then f_X12_readsSetting_p4_0_b17 13 (sR T 13 μ) ((10 + s : Nat) : Int) 1 else f_X12_readsSetting_p4_0_b17 13 (sR T 13 μ) ((10 + s : Nat) : Int) 0) := by
    unfold f_X12_readsSetting_p4_0
    rw [sR_g, m2, hb]
    rcases hbr with c | c
    · rw [c, if_neg (by decide), if_pos rfl]
    · rw [c, if_pos (by decide), if_neg (by decide)]
  have hcl : f_X3_readSetting_p3_2 (cs S q X Y) 0 (s : Int) = (if m / 2 ^ s % 2 = 0 then (bd (f_X3_readToken_p3_2 (cs S q (uF X 3 s 1) Y) 0) fun S13 => if wr (gI S13 0 2 3) = wr 2 then (bd2 (f_X11_isAllowed S13 (s : Int) (gI S13 0 2 6)) fun v16 S15 => if ¬ wr v16 = 0 then (ckP S15 0 2 2 2 0 fun rg18 => lt1 (wI S15 rg18 1 s (gI S15 0 2 6)) fun S20 => some (1, S20)) else (bd2 (f_X3_fail_p3_2 S15 0 2) fun v23 S22 => some (v23, S22))) else (bd2 (f_X3_fail_p3_2 S13 0 1) fun v28 S27 => some (v28, S27))) else some (0, cs S q (FX X 3) Y)) := by
    unfold f_X3_readSetting_p3_2
    rw [cs_x, h10, if_neg (by decide), wr_e (z := (s : Int)) (by omega), if_neg (by omega), wr_e (z := 6) (by decide), if_pos (by omega), ckI_e (by omega), cs_x, Int.toNat_natCast, m3 s hs]
    rcases hbr with c | c
    · rw [c, if_pos (by decide), if_pos rfl, ckI_e (by omega), cs_wx, lt1_e]
      simp (disch := omega) only [ckI_e]
    · rw [c, if_neg (by decide), if_neg (by decide), c_fail, bd2_e]
  rcases hbr with c | c
  · rw [if_pos c] at hm hcl
    have hM1 : MTK n b (uF μ 0 32 ((1024 * (m ||| 2 ^ s) : Nat) : Int)) p e t v := mtk_u hM (by omega) (by decide)
    have hc1 : (uF μ 0 32 ((1024 * (m ||| 2 ^ s) : Nat) : Int)) 0 29 = 0 := by
      rw [uF_n (by omega)]
      exact hc
    obtain ⟨p2, e2, t2, v2, n1⟩ := nx hS hT hn ht
    obtain ⟨X1, r1, r2, r3⟩ := n1.2.2.1 (uF X 3 s 1) Y ⟨by rw [uF_n (by omega)]; exact hX.1.1, fun k hk => by rw [uF_n (by omega)]; exact hX.1.2 k hk⟩ (by rw [uF_n (by omega)]; exact hX.2.2.2.1)
    obtain ⟨μ1, g1, g2, g3, g4⟩ := av_m hM1 hc1 n1
    have hm2 : f_X12_readsSetting_p4_0 (sR T 13 μ) 13 ((10 + s : Nat) : Int) = stg (sR T 13 μ1) ((10 + s : Nat) : Int) := by
      rw [hm, stg_d, m_yes, bd_e, sR_g, m2, o1, sR_w, lt1_e, g1, bd_e]
    have xb1 : XG X X1 := fun o k a a2 => by
      rw [r3 o k a, uF_n (by omega)]
    have md1 : MD μ μ1 := md_t (md_u md_r (by omega)) (mf_d g3)
    have h24 := ck_4 r2 g2
    have htt := n1.1.2.1
    rw [r1, bd_e, cs_x, r2.2.1, wr_e (z := t2) (by omega), wr_e (z := 2) (by decide)] at hcl
    have hso := so_k s hs
    by_cases c2 : t2 = 2
    · have hv2 := n1.1.2.2.2.1 c2
      have e6 := r2.2.2.2.2 c2
      rw [if_pos c2, cs_x, e6] at hcl
      rcases c_allow (S := cs S q X1 Y) hv2 s hs with ⟨al, ac⟩ | ⟨al, ac⟩
      · left
        obtain ⟨p3, e3, t3, v3, n2⟩ := nx hS hT hn n1.1
        obtain ⟨μ2, g5, g6, g7, g8⟩ := av_m g2 g4 n2
        have hp3 : p < e2 := by
          have := n1.2.1
          have := n1.1.2.2.2.2 (by omega)
          omega
        refine ⟨X1, uF Y 1 s v2, uF μ2 (so s) (sk s) v2, e2, p3, e3, t3, v3, ?_, ?_, sn_u (sn_of r2 n2 g6 g8) (by omega) (by omega), ?_, xb1, md_u (md_t md1 (mf_d g7)) (by omega), by rw [uF_n (by omega)]; exact Int.le_refl _, hp3⟩
        · rw [hcl, ac, bd2_e, if_pos (by decide), cs_p hS, cs_x, e6, cs_q hS, sR_w, lt1_e, cs_q hS]
        · rw [hm2, stg_y g2 n1.1 g4 c2 g5 s hs al]
        · have e7 : ∀ k, ¬ (k ≤ 2) → (uF μ2 (so s) (sk s) v2) 7 k = μ 7 k := fun k hk => by
            rw [uF_n (by omega), g7 7 k (by omega), g3 7 k (by omega), uF_n (by omega)]
          have e0 : ∀ o k, ((o = 0 ∧ 30 ≤ k ∧ k ≤ 35 ∧ k ≠ 32) ∨ (o = 7 ∧ k ≤ 2) ∨ (14 ≤ o ∧ o ≤ 17)) → ¬ (o = so s ∧ k = sk s) → (uF μ2 (so s) (sk s) v2) o k = μ o k := fun o k a a2 => by
            rw [uF_n (by omega), g7 o k (by omega), g3 o k (by omega), uF_n (by omega)]
          refine ⟨drs_s d1 (fun o k a a2 => e0 o k (by omega) a2) uF_e hs al, ⟨m ||| 2 ^ s, o2, ?_, fun u hu => ?_⟩, ?_, ?_, ?_, ?_⟩
          · rw [uF_n (by omega), g7 0 32 (by omega), g3 0 32 (by omega), uF_e]
          · rw [r3 3 u (by omega), o3 u hu]
            by_cases cu : u = s
            · subst cu
              rw [uF_e, if_pos rfl]
              rfl
            · rw [uF_n (by omega), if_neg cu]
              exact m3 u hu
          · unfold DRr at d3 ⊢
            simp (disch := omega) only [uF_e, uF_n]
            rw [g7 7 34 (by omega), g3 7 34 (by omega), uF_n (by omega)]
            refine ⟨d3.1, d3.2.1, fun j hj => ?_⟩
            rw [g7 7 (35 + j) (by omega), g3 7 (35 + j) (by omega), uF_n (by omega)]
            exact d3.2.2 j hj
          · obtain ⟨i1, i2, i3⟩ := d4
            refine ⟨?_, ?_, fun k hk => ?_⟩
            · rw [uF_n (by omega), e0 0 31 (by omega) (by omega)]
              exact i1
            · rw [uF_n (by omega)]
              exact i2
            · rw [uF_n (by omega)] at hk
              have d := i3 k hk
              unfold DRk at d ⊢
              rw [e0 14 k (by omega) (by omega), e0 15 k (by omega) (by omega), e0 16 k (by omega) (by omega), e0 17 k (by omega) (by omega)]
              simp (disch := omega) only [uF_e, uF_n]
              exact d
          · intro k a1 a2 a3
            rw [e7 k (by omega)]
            exact d5 k a1 a2 a3
          · rw [uF_n (by omega), e0 0 30 (by omega) (by omega)]
            exact d6
      · right
        obtain ⟨z, hz⟩ := stg_n (T := T) g2 n1.1 g4 s hs (fun h => al h.2)
        rw [if_pos c2] at hz
        refine ⟨FX X1 2, Y, _, ?_, hm2.trans hz, err_of (by decide) (xg_b xb1) md1 h24 (ed_u ed_r (by omega) (by omega))⟩
        rw [hcl, ac, bd2_e, if_neg (by decide), c_fail, bd2_e]
    · right
      obtain ⟨z, hz⟩ := stg_n (T := T) g2 n1.1 g4 s hs (fun h => c2 h.1)
      rw [if_neg c2] at hz
      refine ⟨FX X1 1, Y, _, ?_, hm2.trans hz, err_of (by decide) (xg_b xb1) md1 h24 (ed_u ed_r (by omega) (by omega))⟩
      rw [hcl, if_neg c2, c_fail, bd2_e]
  · rw [if_neg (by omega)] at hm hcl
    right
    have hE : HE (EM μ 3) := he_EM (by decide)
    have hE1 : ∀ z : Int, HE (uF (EM μ 3) 0 32 z) := fun z => he_u hE (by omega)
    have hso := so_k s hs
    obtain ⟨z, hz⟩ := e_stg (T := T) (hE1 (iO ((EM μ 3) 0 32) (iSl 1 ((10 + s : Nat) : Int)))) s hs
    refine ⟨FX X 3, Y, uF (uF (EM μ 3) 0 32 (iO ((EM μ 3) 0 32) (iSl 1 ((10 + s : Nat) : Int)))) (so s) (sk s) z, hcl, ?_, err_of (by decide) (xf_b xf_r) md_r (ck_4 hX hM) (ed_u (ed_u ed_r (by omega) (by omega)) (by omega) (by omega))⟩
    rw [hm, stg_d, m_no hc, bd_e, sR_g, sR_w, lt1_e, e_on (hE1 _), bd_e, hz]
end SE
