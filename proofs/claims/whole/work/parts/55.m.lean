/-! mathematics: calls that only read -/
theorem inv_all {m : Nat} {S : xSt} (hI : INV m S) : ∃ q F X π μ, S.2.1 13 = μ ∧ (∀ o k, gI S 1 o k = F o k) ∧ (∀ o k, gI S 0 o k = X o k) ∧ (∀ o k, o ≠ 77 → gI S q o k = π o k) ∧ gP S 0 0 4 = (q, 0) ∧ gk S q = 2 ∧ PR π ∧ PM π μ ∧ RF π (BB m) 0 0 0 F (μ 6) ∧ (F 8 0 = 1 → F 8 3 ≤ F 8 2) ∧ SIO X μ ∧ sR S 1 F = S ∧ (∀ (T : xSt) (μ' : xR), 10000000 ≤ fu T → PM π μ' → CT S 1 q (sR T 13 μ') 13 π μ') ∧ 10000000 ≤ fu S ∧ (X 8 2 = μ 0 16 ∧ 0 ≤ μ 0 16 ∧ μ 0 16 ≤ 6) ∧ X 0 9 = μ 0 17 := by
  obtain ⟨q, q2, hS, hk, hq, hcx⟩ := inv_cx hI
  refine ⟨q, S.2.1 1, S.2.1 0, uG (S.2.1 q) 77 (fun _ => 0), S.2.1 13, rfl, fun o k => rfl, fun o k => rfl, fun o k ho => ?_, hS.2.1, hk, PR_pe pe_lo hS.2.2.2.2.1, PM_pe pe_lo hS.2.2.2.2.2.1, hS.2.2.2.2.2.2.1.1, hS.2.2.2.2.2.2.1.2, hS.2.2.2.2.2.2.2.2.2, sR_e, fun T μ' hT hM => ?_, hI.1, ⟨hS.2.2.2.2.2.2.2.1.1, hS.2.2.2.2.2.2.2.1.2.1⟩, hS.2.2.2.2.2.2.2.2.1.1⟩
  · rw [uG_o ho]
    rfl
  · exact cx_ct (hcx T μ' hT (PM_pe (π := uG (S.2.1 q) 77 (fun _ => 0)) (fun o k ho => (uG_o ho).symm) hM)) _
theorem pm_told {π μ : xR} {z : Int} (h : PM π μ) : PM π (uF μ 0 0 z) := by
  unfold PM at h ⊢
  simp (disch := omega) only [uF_e, uF_o, uF_k, uG_e, uG_o, uN_e, uN_k, true_or, or_true]
  exact h
theorem uF_6 {μ : xR} {z : Int} : (uF μ 0 0 z) 6 = μ 6 := by
  funext k
  exact uF_o (by decide)
abbrev KE (e : Nat) : Nat → Int := fun k => if k = e then 1 else 0
section E1
variable {m : Nat} {S : xSt} {i : Int}
theorem k_errorCode (hI : INV m S) : CALL m S (f_X11_errorCode_p3_0 S 0) (fun T => f_X12_errorCode_p4_0 T 13) (fun v v' _ => wr v = wr v') := by
  obtain ⟨q, F, X, π, μ, hμ, gF, gX, gQ, gP4, gkq, hR, hM, hF, hn, hio, hSe, hct, hfu, hhi, hsv⟩ := inv_all hI
  refine callR hI (v := X 2 11) (v' := μ 0 29) (z := 0) ?_ (fun T hT => ?_) (by rw [hio.2.2.2.1])
  · unfold f_X11_errorCode_p3_0
    rw [gX]
  · rw [hμ]
    unfold f_X12_errorCode_p4_0
    simp (disch := omega) only [lt1_e, bd_e, bd2_e, gF, gX, gQ, ckP_e gP4 gkq, sR_g, sR_w, ckI_e, wr_e, ite_not, uF_e, uF_o, uF_k, uG_e, uG_o]
theorem k_errorOffset (hI : INV m S) : CALL m S (f_X11_errorOffset_p3_0 S 0) (fun T => f_X12_errorOffset_p4_0 T 13) (fun v v' _ => wr v = wr v') := by
  obtain ⟨q, F, X, π, μ, hμ, gF, gX, gQ, gP4, gkq, hR, hM, hF, hn, hio, hSe, hct, hfu, hhi, hsv⟩ := inv_all hI
  refine callR hI (v := X 2 12) (v' := μ 0 30) (z := 0) ?_ (fun T hT => ?_) (by rw [hio.2.2.2.2.1])
  · unfold f_X11_errorOffset_p3_0
    rw [gX]
  · rw [hμ]
    unfold f_X12_errorOffset_p4_0
    simp (disch := omega) only [lt1_e, bd_e, bd2_e, gF, gX, gQ, ckP_e gP4 gkq, sR_g, sR_w, ckI_e, wr_e, ite_not, uF_e, uF_o, uF_k, uG_e, uG_o]
theorem k_isCut (hI : INV m S) : CALL m S (f_X11_isCut_p3_0 S 0) (fun T => f_X12_isCut_p4_0 T 13) (fun v v' _ => wr v = wr v') := by
  obtain ⟨q, F, X, π, μ, hμ, gF, gX, gQ, gP4, gkq, hR, hM, hF, hn, hio, hSe, hct, hfu, hhi, hsv⟩ := inv_all hI
  have e10 := hF.1.2.2.2.2.2.2.2.2.2.2.1
  have r5 := hF.2.1.2.2.2.2.2.1
  refine callR hI (v := F 0 13) (v' := F 0 13) (z := 0) ?_ (fun T hT => ?_) rfl
  · unfold f_X11_isCut_p3_0
    rw [gF, ckB_e r5]
  · rw [hμ]
    unfold f_X12_isCut_p4_0
    simp (disch := omega) only [lt1_e, bd_e, bd2_e, gF, gX, gQ, ckP_e gP4 gkq, sR_g, sR_w, ckI_e, wr_e, ite_not, uF_e, uF_o, uF_k, uG_e, uG_o, e10]
    by_cases c : F 0 13 = 1
    · rw [if_pos c, c]
    · rw [if_neg c, show F 0 13 = 0 by omega]
theorem k_outputByte (hI : INV m S) (hi : wr i = i) : CALL m S (f_X11_outputByte_p3_0 S 0 i) (fun T => f_X12_outputByte_p4_0 T 13 i) (fun v v' _ => wr v = wr v') := by
  obtain ⟨q, F, X, π, μ, hμ, gF, gX, gQ, gP4, gkq, hR, hM, hF, hn, hio, hSe, hct, hfu, hhi, hsv⟩ := inv_all hI
  obtain ⟨h1, h2, h3, h4, h5, h6, h7, h8⟩ := hio
  have hi2 := wr_r hi
  have hm : ∀ T : xSt, f_X12_outputByte_p4_0 (sR T 13 μ) 13 i = some (if 0 ≤ i ∧ i ≤ μ 0 41 - 1 then μ 18 i.toNat else -1, sR T 13 (uF μ 0 0 0)) := by
    intro T
    unfold f_X12_outputByte_p4_0
    simp only [lt1_e, sR_w, sR_g]
    rw [uF_k (by decide), wr_e (z := μ 0 41) (by omega), hi, p_isIn hi2 (by decide) (by omega)]
    simp only [bd2_e]
    by_cases c : 0 ≤ i ∧ i ≤ μ 0 41 - 1
    · rw [if_pos c, if_pos c, if_neg (by decide), ckI_e (by omega), sR_g, uF_o (by decide)]
    · rw [if_neg c, if_neg c, if_pos (by decide)]
  refine callR hI (v := if 0 ≤ i ∧ i ≤ μ 0 41 - 1 then μ 18 i.toNat else -1) (v' := if 0 ≤ i ∧ i ≤ μ 0 41 - 1 then μ 18 i.toNat else -1) (z := 0) ?_ (fun T hT => ?_) rfl
  · unfold f_X11_outputByte_p3_0
    rw [hi, gX, h6, wr_e (z := μ 0 41) (by omega)]
    by_cases c : 0 ≤ i ∧ i ≤ μ 0 41 - 1
    · rw [if_neg (show ¬ i < 0 by omega), if_pos (show i < μ 0 41 by omega), ckI_e (by omega), gX, h8 _ (by omega), if_pos c]
    · rw [if_neg c]
      by_cases c2 : i < 0
      · rw [if_pos c2]
      · rw [if_neg c2, if_neg (show ¬ i < μ 0 41 by omega)]
  · rw [hμ]
    exact hm T
theorem k_queueAt (hI : INV m S) (hi : wr i = i) : CALL m S (f_X11_queueAt_p3_0 S 0 i) (fun T => f_X12_queueAt_p4_0 T 13 i) (XR (KE 4)) := by
  obtain ⟨q, F, X, π, μ, hμ, gF, gX, gQ, gP4, gkq, hR, hM, hF, hn, hio, hSe, hct, hfu, hhi, hsv⟩ := inv_all hI
  have p3 := hR.2.2.2.1
  have e42 := hF.1.2.2.2.2.2.2.2.2.2.2.2.2.2.2.2.2.2.2.2.2.2.2.2.1
  have r14 := hF.2.1.2.2.2.2.2.2.2.2.2.2.2.2.2.2
  have hq := hF.2.2.2.2.1
  have hi2 := wr_r hi
  by_cases c : 0 ≤ i ∧ i < F 5 2
  · have q1 := (hq i.toNat (by omega)).1
    refine callR hI (v := .inl (F 6 i.toNat)) (v' := F 6 i.toNat) (z := 1 - 1) ?_ (fun T hT => ?_) ⟨rfl, uF_e⟩
    · unfold f_X11_queueAt_p3_0
      rw [hi, gF, wr_e (z := F 5 2) (by omega), if_neg (show ¬ i < 0 by omega), if_pos c.2, ckI_e (by omega), gF]
    · rw [hμ]
      unfold f_X12_queueAt_p4_0
      rw [hi, sR_g, e42, wr_e (z := F 5 2 - 1) (by omega), p_isIn hi2 (by decide) (by omega), if_pos (by omega)]
      simp only [bd2_e]
      rw [p_is (Or.inr rfl)]
      simp only [bd2_e]
      rw [if_neg (by decide), ckI_e (by omega), wr_e (by omega), sR_g, uF_o (by decide), show (43 + i).toNat = 43 + i.toNat by omega, q1]
  · refine callR hI (v := .inr 4) (v' := 0) (z := 1 - 0) ?_ (fun T hT => ?_) ⟨uF_e.symm, Or.inl rfl⟩
    · unfold f_X11_queueAt_p3_0
      rw [hi, gF, wr_e (z := F 5 2) (by omega)]
      by_cases c2 : i < 0
      · rw [if_pos c2]
      · rw [if_neg c2, if_neg (by omega)]
    · rw [hμ]
      unfold f_X12_queueAt_p4_0
      rw [hi, sR_g, e42, wr_e (z := F 5 2 - 1) (by omega), p_isIn hi2 (by decide) (by omega), if_neg (by omega)]
      simp only [bd2_e]
      rw [p_is (Or.inl rfl)]
      simp only [bd2_e]
      rw [if_pos (by decide)]
theorem k_bubbles (hI : INV m S) (hi : wr i = i) : CALL m S (f_X11_bubbles_p3_0 S 0 i) (fun T => f_X12_bubbles_p4_0 T 13 i) (XR (KE 2)) := by
  obtain ⟨q, F, X, π, μ, hμ, gF, gX, gQ, gP4, gkq, hR, hM, hF, hn, hio, hSe, hct, hfu, hhi, hsv⟩ := inv_all hI
  have hb := hF.2.2.1
  have hi2 := wr_r hi
  by_cases c : 1 ≤ i ∧ i ≤ 8
  · have q1 := hb i.toNat (by omega) (by omega)
    refine callR hI (v := .inl (F 16 i.toNat)) (v' := F 16 i.toNat) (z := 1 - 1) ?_ (fun T hT => ?_) ⟨rfl, uF_e⟩
    · unfold f_X11_bubbles_p3_0
      rw [hi, wr_e (z := 1) (by decide), wr_e (z := 8) (by decide), if_neg (show ¬ i < 1 by omega), if_pos c.2, ckI_e (by omega), gF]
    · rw [hμ]
      unfold f_X12_bubbles_p4_0 f_X12_isCause
      rw [hi, p_isIn hi2 (by decide) (by decide), if_pos c]
      simp only [bd2_e]
      rw [p_is (Or.inr rfl)]
      simp only [bd2_e]
      rw [if_neg (by decide), ckI_e (by omega), wr_e (by omega), sR_g, uF_o (by decide), show (25 + i).toNat = 25 + i.toNat by omega, q1]
  · refine callR hI (v := .inr 2) (v' := 0) (z := 1 - 0) ?_ (fun T hT => ?_) ⟨uF_e.symm, Or.inl rfl⟩
    · unfold f_X11_bubbles_p3_0
      rw [hi, wr_e (z := 1) (by decide), wr_e (z := 8) (by decide)]
      by_cases c2 : i < 1
      · rw [if_pos c2]
      · rw [if_neg c2, if_neg (by omega)]
    · rw [hμ]
      unfold f_X12_bubbles_p4_0 f_X12_isCause
      rw [hi, p_isIn hi2 (by decide) (by decide), if_neg c]
      simp only [bd2_e]
      rw [p_is (Or.inl rfl)]
      simp only [bd2_e]
      rw [if_pos (by decide)]
/-- a number of an instruction, or not -/
theorem p_isNum {T : xSt} {π μ : xR} (hR : PR π) (hM : PM π μ) (hi : wr i = i) : f_X12_isNumber_p4_0 (sR T 13 μ) 13 i = some (if 0 ≤ i ∧ i < π 0 10 then 1 else 0, sR T 13 μ) := by
  have p0 := hR.1
  have m1 := hM.1
  unfold f_X12_isNumber_p4_0
  rw [hi, sR_g, m1, wr_e (by omega), p_isIn (wr_r hi) (by decide) (by omega)]
  simp only [bd2_e]
  by_cases c : 0 ≤ i ∧ i < π 0 10
  · rw [if_pos c, if_pos (by omega)]
  · rw [if_neg c, if_neg (by omega)]
theorem k_times (hI : INV m S) (hi : wr i = i) : CALL m S (f_X11_times_p3_0 S 0 i) (fun T => f_X12_times_p4_0 T 13 i) (XR (KE 1)) := by
  obtain ⟨q, F, X, π, μ, hμ, gF, gX, gQ, gP4, gkq, hR, hM, hF, hn, hio, hSe, hct, hfu, hhi, hsv⟩ := inv_all hI
  have p0 := hR.1
  have hp := hF.2.2.2.2.2.2.2.1
  have hi2 := wr_r hi
  by_cases c : 0 ≤ i ∧ i < π 0 10
  · have q1 := (hp i.toNat (by omega)).1
    refine callR hI (v := .inl (F 17 i.toNat)) (v' := F 17 i.toNat) (z := 1 - 1) ?_ (fun T hT => ?_) ⟨rfl, uF_e⟩
    · unfold f_X11_times_p3_0
      rw [hi, ckP_e gP4 gkq, gQ _ _ (by decide), wr_e (z := π 0 10) (by omega), if_neg (show ¬ i < 0 by omega), if_pos c.2, ckI_e (by omega), gF]
    · rw [hμ]
      unfold f_X12_times_p4_0
      rw [p_isNum hR hM hi, if_pos c]
      simp only [bd2_e]
      rw [p_is (Or.inr rfl)]
      simp only [bd2_e]
      rw [if_neg (by decide), ckI_e (by omega), wr_e (by omega), sR_g, uF_o (by decide), show (203 + i).toNat = 203 + i.toNat by omega, q1]
  · refine callR hI (v := .inr 1) (v' := 0) (z := 1 - 0) ?_ (fun T hT => ?_) ⟨uF_e.symm, Or.inl rfl⟩
    · unfold f_X11_times_p3_0
      rw [hi, ckP_e gP4 gkq, gQ _ _ (by decide), wr_e (z := π 0 10) (by omega)]
      by_cases c2 : i < 0
      · rw [if_pos c2]
      · rw [if_neg c2, if_neg (by omega)]
    · rw [hμ]
      unfold f_X12_times_p4_0
      rw [p_isNum hR hM hi, if_neg c]
      simp only [bd2_e]
      rw [p_is (Or.inl rfl)]
      simp only [bd2_e]
      rw [if_pos (by decide)]
theorem k_rule {z : Int} (hI : INV m S) (hi : wr i = i) (hz : z = 0 ∨ z = 1) : CALL m S (f_X11_rule_p3_0 S 0 i z) (fun T => f_X12_rule_p4_0 T 13 i z) (XR (KE 1)) := by
  obtain ⟨q, F, X, π, μ, hμ, gF, gX, gQ, gP4, gkq, hR, hM, hF, hn, hio, hSe, hct, hfu, hhi, hsv⟩ := inv_all hI
  have e34 := hF.1.2.2.2.2.2.2.2.2.2.2.2.2.2.2.2.2.2.2.2.2.2.2.1
  have r13 := hF.2.1.2.2.2.2.2.2.2.2.2.2.2.2.2.1
  have hu := hF.2.2.2.1
  have hi2 := wr_r hi
  by_cases c : 0 ≤ i ∧ i < F 2 2
  · obtain ⟨q1, q2, q3⟩ := hu i.toNat (by omega)
    have d1 : Int.tdiv (10 * F 3 i.toNat + F 4 i.toNat) 10 = F 3 i.toNat := by
      rw [Int.tdiv_eq_ediv_of_nonneg (by omega)]
      omega
    have d2 : Int.tmod (10 * F 3 i.toNat + F 4 i.toNat) 10 = F 4 i.toNat := by
      rw [Int.tmod_eq_emod_of_nonneg (by omega)]
      omega
    refine callR hI (v := .inl (if z = 0 then F 3 i.toNat else F 4 i.toNat)) (v' := if z = 0 then F 3 i.toNat else F 4 i.toNat) (z := 1 - 1) ?_ (fun T hT => ?_) ⟨rfl, uF_e⟩
    · unfold f_X11_rule_p3_0
      rw [hi, gF, wr_e (z := F 2 2) (by omega), if_neg (show ¬ i < 0 by omega), if_pos c.2, wr_e (z := z) (by omega), ckI_e (by omega), ckI_e (by omega), gF, gF]
      by_cases d : z = 0
      · rw [if_pos d, if_pos d]
      · rw [if_neg d, if_neg d]
    · rw [hμ]
      unfold f_X12_rule_p4_0 f_X12_isRule_p4_0
      rw [hi, sR_g, e34, wr_e (z := F 2 2 - 1) (by omega), p_isIn hi2 (by decide) (by omega), if_pos (by omega)]
      simp only [bd2_e]
      rw [p_is (Or.inr rfl)]
      simp only [bd2_e]
      rw [if_pos (by decide), wr_e (z := z) (by omega), ckI_e (by omega), ckI_e (by omega), wr_e (z := 35 + i) (by omega), sR_g, uF_o (by decide), show (35 + i).toNat = 35 + i.toNat by omega, q1, wr_e (z := 10 * F 3 i.toNat + F 4 i.toNat) (by omega), wr_e (z := 10) (by decide), d1, d2]
      by_cases d : z = 0
      · rw [if_pos d, if_pos d]
      · rw [if_neg d, if_neg d]
  · refine callR hI (v := .inr 1) (v' := 0) (z := 1 - 0) ?_ (fun T hT => ?_) ⟨uF_e.symm, Or.inl rfl⟩
    · unfold f_X11_rule_p3_0
      rw [hi, gF, wr_e (z := F 2 2) (by omega)]
      by_cases c2 : i < 0
      · rw [if_pos c2]
      · rw [if_neg c2, if_neg (by omega)]
    · rw [hμ]
      unfold f_X12_rule_p4_0 f_X12_isRule_p4_0
      rw [hi, sR_g, e34, wr_e (z := F 2 2 - 1) (by omega), p_isIn hi2 (by decide) (by omega), if_neg (by omega)]
      simp only [bd2_e]
      rw [p_is (Or.inl rfl)]
      simp only [bd2_e]
      rw [if_neg (by decide)]
theorem k_loop (hI : INV m S) (hi : wr i = i) : CALL m S (f_X11_loop_p3_0 S 0 i) (fun T => f_X12_loop_p4_0 T 13 i) (XR (KE 2)) := by
  obtain ⟨q, F, X, π, μ, hμ, gF, gX, gQ, gP4, gkq, hR, hM, hF, hn, hio, hSe, hct, hfu, hhi, hsv⟩ := inv_all hI
  have p0 := hR.1
  have e11 := hF.1.2.2.2.2.2.2.2.2.2.2.2.1
  have r10 := hF.2.1.2.2.2.2.2.2.2.2.2.2.1
  have hl := hF.2.2.2.2.2.2.2.2.2.1
  have hi2 := wr_r hi
  by_cases c : 0 ≤ i ∧ i ≤ 3
  · have hmod : ∀ T : xSt, 10000000 ≤ fu T → f_X12_isReplayed_p4_0 (sR T 13 (uF μ 0 0 (1 - 1))) 13 = some (F 8 0, sR T 13 (uF μ 0 0 (1 - 1))) := by
      intro T hT
      have k := p_repz (T := sR T 13 (uF μ 0 0 (1 - 1))) (M := 13) (N := (uF μ 0 0 (1 - 1)) 6) (z := F 8 0) (by rw [uF_6]; exact e11) r10
      rw [wN_i] at k
      exact k
    by_cases c0 : F 8 0 = 0
    · refine callR hI (v := .inl (-1)) (v' := -1) (z := 1 - 1) ?_ (fun T hT => ?_) ⟨rfl, uF_e⟩
      · unfold f_X11_loop_p3_0
        rw [hi, gF, wr_e (z := F 8 0) (by omega), wr_e (z := 3) (by decide), if_neg (show ¬ i < 0 by omega), if_pos c.2, if_neg (fun h => h c0)]
      · rw [hμ]
        unfold f_X12_loop_p4_0
        rw [hi, p_isIn hi2 (by decide) (by decide), if_pos c]
        simp only [bd2_e]
        rw [p_is (Or.inr rfl)]
        simp only [bd2_e]
        rw [if_pos (by decide), hmod T hT]
        simp only [bd2_e]
        rw [wr_e (z := F 8 0) (by omega), if_neg (fun h => h c0)]
    · obtain ⟨l1, l2, l3, l4, l5, l6, l7, l8, l9, l10⟩ := hl (by omega)
      refine callR hI (v := .inl (if i = 0 then F 8 1 else if i = 1 then F 8 2 else if i = 2 then F 8 3 else F 8 4)) (v' := if i = 0 then F 8 1 else if i = 1 then F 8 2 else if i = 2 then F 8 3 else F 8 4) (z := 1 - 1) ?_ (fun T hT => ?_) ⟨rfl, uF_e⟩
      · unfold f_X11_loop_p3_0
        rw [hi, gF, gF, gF, gF, gF, wr_e (z := F 8 0) (by omega), wr_e (z := 3) (by decide), if_neg (show ¬ i < 0 by omega), if_pos c.2, if_pos c0]
        rcases (show i = 0 ∨ i = 1 ∨ i = 2 ∨ i = 3 by omega) with rfl | rfl | rfl | rfl <;> rfl
      · rw [hμ]
        have hC := hct T (uF μ 0 0 (1 - 1)) hT (pm_told hM)
        have k := p_osum (N := (uF μ 0 0 (1 - 1)) 6) hC l4 (by omega) l8
        rw [wN_i] at k
        unfold f_X12_loop_p4_0
        rw [hi, p_isIn hi2 (by decide) (by decide), if_pos c]
        simp only [bd2_e]
        rw [p_is (Or.inr rfl)]
        simp only [bd2_e]
        rw [if_pos (by decide), hmod T hT]
        simp only [bd2_e, sR_g]
        rw [wr_e (z := F 8 0) (by omega), if_pos c0, uF_6, l1, l2, l3, k, l10]
        simp only [bd2_e]
        rcases (show i = 0 ∨ i = 1 ∨ i = 2 ∨ i = 3 by omega) with rfl | rfl | rfl | rfl <;> rfl
  · refine callR hI (v := .inr 2) (v' := 0) (z := 1 - 0) ?_ (fun T hT => ?_) ⟨uF_e.symm, Or.inl rfl⟩
    · unfold f_X11_loop_p3_0
      rw [hi, wr_e (z := 3) (by decide)]
      by_cases c2 : i < 0
      · rw [if_pos c2]
      · rw [if_neg c2, if_neg (by omega)]
    · rw [hμ]
      unfold f_X12_loop_p4_0
      rw [hi, p_isIn hi2 (by decide) (by decide), if_neg c]
      simp only [bd2_e]
      rw [p_is (Or.inl rfl)]
      simp only [bd2_e]
      rw [if_neg (by decide)]
end E1
