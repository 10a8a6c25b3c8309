/-! mathematics: undo, saveState, restoreState, truncate, feed -/
section G1
variable {m : Nat} {S : xSt} {i j : Int}
theorem wP_P {S : xSt} {r o k : Nat} {z : Nat × Nat} : wP (wP S r o k z) r o k z = wP S r o k z := by
  have e : uP (uP S.2.2 r o k z) r o k z = uP S.2.2 r o k z := by
    funext a b c
    unfold uP
    split <;> rfl
  show (S.1, S.2.1, uP (uP S.2.2 r o k z) r o k z) = (S.1, S.2.1, uP S.2.2 r o k z)
  rw [e]
theorem wP_i {S : xSt} {r o k : Nat} {z : Nat × Nat} (h : gP S r o k = z) : wP S r o k z = S := by
  have e : uP S.2.2 r o k z = S.2.2 := by
    funext a b c
    unfold uP
    split
    · rename_i g
      rw [g.1, g.2.1, g.2.2]
      exact h.symm
    · rfl
  show (S.1, S.2.1, uP S.2.2 r o k z) = S
  rw [e]
/-- what the changes of the calls of state keep -/
theorem sim_now {B B' : Int} {q q2 : Nat} {P P' : xP} {C C' : xSI} {μ μ' : xR} (h : SIM B q q2 P C μ) (hb : B ≤ B') (hP : ∀ r b c, r ≠ 3 → P' r b c = P r b c) (hCr : ∀ r, r ≠ 0 → r ≠ 1 → r ≠ 3 → C' r = C r) (h0 : ∀ o k, (o ≠ 8 ∨ k ≠ 2) → (o ≠ 0 ∨ k ≠ 9) → C' 0 o k = C 0 o k) (hμ : ∀ o k, o ≠ 0 → o ≠ 6 → o ≠ 10 → μ' o k = μ o k) (hμ0 : ∀ k, k ≠ 0 → k ≠ 16 → k ≠ 17 → μ' 0 k = μ 0 k) (hG : GF (C q) B' (C' 1) (μ' 6)) (h16 : C' 0 8 2 = μ' 0 16 ∧ 0 ≤ μ' 0 16 ∧ μ' 0 16 ≤ μ 0 16) (h17 : C' 0 0 9 = μ' 0 17 ∧ (μ' 0 17 = 0 ∨ μ' 0 17 = 1) ∧ (μ' 0 17 = 1 → P' 3 0 0 = (q, 0) ∧ GF (C q) B' (C' 3) (μ' 10))) : SIM B' q q2 P' C' μ' := by
  have h' := sim_mono h hb
  obtain ⟨h1, h2, h3, h4, h5, h6, h7, h8, h9, h10⟩ := h'
  have hCq : C' q = C q := hCr q (by omega) (by omega) (by omega)
  have e11 : μ' 11 = μ 11 := by
    funext k
    exact hμ 11 k (by decide) (by decide) (by decide)
  refine ⟨h1, by rw [hP _ _ _ (by decide)]; exact h2, by rw [hP _ _ _ (by decide)]; exact h3, by rw [hP _ _ _ (by decide)]; exact h4, by rw [hCq]; exact h5, ?_, by rw [hCq]; exact hG, ?_, ?_, ?_⟩
  · rw [hCq]
    unfold PM at h6 ⊢
    simp (disch := decide) only [hμ, hμ0]
    exact h6
  · obtain ⟨d1, d2, d3, d4⟩ := h8
    refine ⟨h16.1, by omega, by rw [h0 8 1 (by decide) (by decide)]; exact d3, fun i hi => ?_⟩
    rw [h0 8 1 (by decide) (by decide), hP _ _ _ (by omega), hCq, hCr (4 + ((C 0 8 1).toNat + i) % 6) (by omega) (by omega) (by omega), e11]
    exact d4 i (by omega)
  · refine ⟨h17.1, h17.2.1, fun hi => ?_⟩
    rw [hCq]
    exact h17.2.2 hi
  · unfold SIO at h10 ⊢
    simp (disch := omega) only [hμ, hμ0, h0]
    exact h10
theorem sim_io {B B' : Int} {q q2 : Nat} {P : xP} {C C' : xSI} {μ μ' : xR} (h : SIM B q q2 P C μ) (hb : B ≤ B') (hCr : ∀ r, r ≠ 0 → C' r = C r) (h81 : C' 0 8 1 = C 0 8 1) (h82 : C' 0 8 2 = C 0 8 2) (h09 : C' 0 0 9 = C 0 0 9) (hμ : ∀ o k, o ≠ 0 → o ≠ 13 → o ≠ 18 → o ≠ 12 → μ' o k = μ o k) (hμ0 : ∀ k, k ≠ 0 → k ≠ 21 → k ≠ 41 → k ≠ 19 → μ' 0 k = μ 0 k) (hio : SIO (C' 0) μ') : SIM B' q q2 P C' μ' := by
  have h' := sim_mono h hb
  obtain ⟨h1, h2, h3, h4, h5, h6, h7, h8, h9, h10⟩ := h'
  have hCq : C' q = C q := hCr q (by omega)
  have e11 : μ' 11 = μ 11 := by
    funext k
    exact hμ 11 k (by decide) (by decide) (by decide) (by decide)
  have e10 : μ' 10 = μ 10 := by
    funext k
    exact hμ 10 k (by decide) (by decide) (by decide) (by decide)
  have e6 : μ' 6 = μ 6 := by
    funext k
    exact hμ 6 k (by decide) (by decide) (by decide) (by decide)
  refine ⟨h1, h2, h3, h4, by rw [hCq]; exact h5, ?_, by rw [hCq, hCr 1 (by decide), e6]; exact h7, ?_, ?_, hio⟩
  · rw [hCq]
    unfold PM at h6 ⊢
    simp (disch := decide) only [hμ, hμ0]
    exact h6
  · obtain ⟨d1, d2, d3, d4⟩ := h8
    refine ⟨by rw [h82, hμ0 16 (by decide) (by decide) (by decide) (by decide)]; exact d1, by rw [hμ0 16 (by decide) (by decide) (by decide) (by decide)]; exact d2, by rw [h81]; exact d3, fun i hi => ?_⟩
    rw [hμ0 16 (by decide) (by decide) (by decide) (by decide)] at hi
    rw [h81, hCq, hCr (4 + ((C 0 8 1).toNat + i) % 6) (by omega), e11]
    exact d4 i hi
  · unfold SSA at h9 ⊢
    rw [h09, hCq, hCr 3 (by decide), e10, hμ0 17 (by decide) (by decide) (by decide) (by decide)]
    exact h9
theorem p_und {T : xSt} {μ : xR} {h : Nat} (hh : μ 0 16 = (h : Int)) (h5 : h ≤ 5) : ∀ (d : Nat) (x : Int) (n : Nat) (g : Nat → Int), 0 ≤ x → x + d = 363 → d < n → (∀ k : Nat, (k : Int) < x → g k = μ 11 (363 * h + k)) →
    ∃ g', f_X12_undo_p4_0_b33 13 n (sR T 13 (uG μ 6 g)) x = some ((h : Int), sR T 13 (uG μ 6 g')) ∧ ∀ k : Nat, k < 363 → g' k = μ 11 (363 * h + k) := by
  intro d
  induction d with
  | zero =>
    intro x n g hx hd hn hg
    obtain ⟨n, rfl⟩ := fs_e (show 0 < n by omega)
    refine ⟨g, ?_, fun k hk => hg k (by omega)⟩
    rw [f_X12_undo_p4_0_b33, wr_e (z := 363) (by decide), wr_e (z := x) (by omega), if_pos (by omega), sR_g, uG_o (by decide), hh]
  | succ d ih =>
    intro x n g hx hd hn hg
    obtain ⟨n, rfl⟩ := fs_e (show 0 < n by omega)
    have e9 : (363 * (h : Int) + x).toNat = 363 * h + x.toNat := by omega
    rw [f_X12_undo_p4_0_b33, wr_e (z := 363) (by decide), wr_e (z := x) (by omega), if_neg (by omega), sR_g, uG_o (by decide), hh, ckI_e (by omega), ckI_e (by omega), wr_e (z := 363 * (h : Int) + x) (by omega), sR_g, uG_o (by decide), e9, sR_w, lt1_e, uF_G, uG_f, uG_G]
    refine ih (x + 1) n _ (by omega) (by omega) (by omega) (fun k hk => ?_)
    by_cases c : k = x.toNat
    · subst c
      rw [uN_e]
    · rw [uN_k c]
      exact hg k (by omega)
theorem k_undo (hI : INV m S) : CALL m S (f_X11_undo_p3_0 S 0) (fun T => f_X12_undo_p4_0 T 13) (XR (KE 3)) := by
  obtain ⟨q, q2, hS, hk, hq, hcx⟩ := inv_cx hI
  have hS' := hS
  obtain ⟨h1, h2, h3, h4, h5, h6, h7, h8, h9, h10⟩ := hS'
  obtain ⟨d1, d2, d3, d4⟩ := h8
  have hbb : BB m ≤ BB (m + 1) := by unfold BB; omega
  have e1 : gI S 0 8 1 = S.2.1 0 8 1 := rfl
  have e2 : gI S 0 8 2 = S.2.1 13 0 16 := d1
  by_cases c : 0 < S.2.1 13 0 16
  · obtain ⟨h, hh⟩ : ∃ h : Nat, S.2.1 13 0 16 = (h : Int) + 1 := ⟨(S.2.1 13 0 16 - 1).toNat, by omega⟩
    obtain ⟨z1, z2⟩ := d4 h (by omega)
    obtain ⟨idx, hidx⟩ : ∃ idx : Nat, idx = ((S.2.1 0 8 1).toNat + h) % 6 := ⟨_, rfl⟩
    rw [← hidx] at z1 z2
    obtain ⟨G, c1, c2⟩ := p_copy (S := S) (r0 := 1) (r1 := 4 + idx) (by omega) z1 hk z2
    rw [wP_i h4] at c1
    have et : Int.tmod (S.2.1 0 8 1 + ((h : Int) + 1) - 1) 6 = (idx : Int) := by
      rw [tm6 (by omega), hidx]
      omega
    have e0 : ∀ o k, gI (sR S 1 G) 0 o k = S.2.1 0 o k := fun o k => by
      rw [sR_n (by decide)]
      rfl
    have e3 : wI (sR S 1 G) 0 8 2 (h : Int) = sR (sR S 1 G) 0 (uF (S.2.1 0) 8 2 (h : Int)) := by
      have k := sR_w (S := sR S 1 G) (r := 0) (o := 8) (k := 2) (F := (sR S 1 G).2.1 0) (z := (h : Int))
      rw [sR_e, sR_n1 (by decide)] at k
      exact k
    refine ⟨.inl (h : Int), sR (sR S 1 G) 0 (uF (S.2.1 0) 8 2 (h : Int)), ?_, rfl, by rw [sR_n1 (by decide), sR_n1 (by decide)], fun T hT hμ => ?_⟩
    · unfold f_X11_undo_p3_0 f_X1_takeBack_p3_8_1_0
      rw [e1, e2, hh, wr_e (z := (h : Int) + 1) (by omega), wr_e (z := S.2.1 0 8 1 + ((h : Int) + 1) - 1) (by omega), wr_e (z := 6) (by decide), et, wr_e (z := (idx : Int)) (by omega), if_pos (show 0 < (h : Int) + 1 by omega), if_neg (show ¬ (h : Int) + 1 ≤ 0 by omega), if_neg (by omega), if_pos (by omega), ckI_e (by omega), show 0 + (4 + ((idx : Nat) : Int).toNat) = 4 + idx by omega, show 0 + 1 = 1 from rfl, c1]
      simp only [bd_e]
      rw [e0, d1, hh, show (h : Int) + 1 - 1 = h by omega, lt1_e, e3]
      simp only [bd_e]
      rw [sR_g, uF_e]
    · have hT13 := sR_i hμ
      obtain ⟨g', w1, w2⟩ := p_und (T := T) (μ := uF (uF (S.2.1 13) 0 0 (1 - 1)) 0 16 (h : Int)) (h := h) uF_e (by omega) 363 0 (fu T) ((uF (uF (S.2.1 13) 0 0 (1 - 1)) 0 16 (h : Int)) 6) (by decide) (by decide) (by omega) (fun k hk => absurd hk (by omega))
      rw [uG_i] at w1
      refine ⟨(h : Int), uG (uF (uF (S.2.1 13) 0 0 (1 - 1)) 0 16 (h : Int)) 6 g', q, q2, ?_, ⟨rfl, by simp (disch := omega) only [uF_e, uF_o, uF_k, uG_e, uG_o, uN_e, uN_k, true_or, or_true]; rfl⟩, ?_⟩
      · show f_X12_undo_p4_0 T 13 = _
        rw [hT13]
        unfold f_X12_undo_p4_0 f_X12_undo_p4_0_b13
        rw [sR_g, hh, wr_e (z := (h : Int) + 1) (by omega), if_neg (by omega), p_is (Or.inr rfl)]
        simp only [bd2_e]
        rw [if_pos (by decide), sR_g, uF_k (by decide), hh, show (h : Int) + 1 - 1 = h by omega, sR_w, lt1_e, sR_fu, w1, sR_s]
      · refine sim_now hS hbb (fun r b c hr => rfl) (fun r r0 r1 r3 => by rw [sR_n1 r0, sR_n1 r1]) (fun o k ho hk => ?_) (fun o k a1 a2 a3 => ?_) (fun k a1 a2 a3 => ?_) ?_ ?_ ?_
        · rw [sR_g1]
          rcases ho with ho | ho
          · exact uF_o ho
          · by_cases e : o = 8
            · subst e
              exact uF_k ho
            · exact uF_o e
        · rw [uG_o a2, uF_o a1, uF_o a1]
        · rw [uG_o (by decide), uF_k a2, uF_k a1]
        · rw [sR_n1 (by decide), sR_g1, uG_f]
          refine gf_ag h5 c2 (gf_sl h5 (fun k hk => ?_) (gf_mono z2 hbb))
          rw [w2 k hk, uF_o (by decide), uF_o (by decide)]
        · rw [sR_g1, uF_e, uG_o (by decide), uF_e]
          omega
        · rw [sR_g1, sR_n1 (by decide), sR_n1 (by decide), uF_o (by decide), uG_o (by decide), uF_k (by decide), uF_k (by decide)]
          obtain ⟨s1, s2, s3⟩ := h9
          refine ⟨s1, s2, fun hi => ⟨(s3 hi).1, ?_⟩⟩
          have e10 : (uG (uF (uF (S.2.1 13) 0 0 (1 - 1)) 0 16 (h : Int)) 6 g') 10 = S.2.1 13 10 := by
            funext k
            simp (disch := omega) only [uF_e, uF_o, uF_k, uG_e, uG_o, uN_e, uN_k, true_or, or_true]
          rw [e10]
          exact gf_mono (s3 hi).2 hbb
  · refine callR hI (v := .inr 3) (v' := 0) (z := 1 - 0) ?_ (fun T hT => ?_) ⟨uF_e.symm, Or.inl rfl⟩
    · unfold f_X11_undo_p3_0
      rw [e2, wr_e (z := S.2.1 13 0 16) (by omega), if_neg c]
    · unfold f_X12_undo_p4_0 f_X12_undo_p4_0_b13
      rw [sR_g, wr_e (z := S.2.1 13 0 16) (by omega), if_pos (by omega), p_is (Or.inl rfl)]
      simp only [bd2_e]
      rw [if_neg (by decide)]
theorem gf_16 {π F : xR} {N : Nat → Int} {B : Int} (h : GF π B F N) : N 16 = F 15 0 := by
  have := h.1.1.2.2.2.2.2.2.2.2.2.2.2.2.2.1
  omega
theorem k_saveState (hI : INV m S) : CALL m S (f_X11_saveState_p3_0 S 0) (fun T => f_X12_saveState_p4_0 T 13) (fun v v' _ => wr v = wr v') := by
  obtain ⟨q, q2, hS, hk, hq, hcx⟩ := inv_cx hI
  have hS' := hS
  obtain ⟨h1, h2, h3, h4, h5, h6, h7, h8, h9, h10⟩ := hS'
  have hbb : BB m ≤ BB (m + 1) := by unfold BB; omega
  obtain ⟨G, c1, c2⟩ := p_copy (S := S) (r0 := 3) (r1 := 1) (by decide) h4 hk h7
  have e3 : wI (sR (wP S 3 0 0 (q, 0)) 3 G) 0 0 9 1 = sR (sR (wP S 3 0 0 (q, 0)) 3 G) 0 (uF (S.2.1 0) 0 9 1) := by
    have k := sR_w (S := sR (wP S 3 0 0 (q, 0)) 3 G) (r := 0) (o := 0) (k := 9) (F := (sR (wP S 3 0 0 (q, 0)) 3 G).2.1 0) (z := 1)
    rw [sR_e, sR_n1 (by decide)] at k
    exact k
  refine ⟨S.2.1 1 15 0, sR (sR (wP S 3 0 0 (q, 0)) 3 G) 0 (uF (S.2.1 0) 0 9 1), ?_, rfl, by rw [sR_n1 (by decide), sR_n1 (by decide)]; rfl, fun T hT hμ => ?_⟩
  · unfold f_X11_saveState_p3_0
    rw [show 0 + 3 = 3 from rfl, show 0 + 1 = 1 from rfl, c1]
    simp only [bd_e]
    rw [e3, lt1_e, sR_n (by decide), sR_n (by decide)]
    rfl
  · have hT13 := sR_i hμ
    obtain ⟨g', w1, w2⟩ := p_cop6_10 (T := T) (μ := uF (S.2.1 13) 0 0 0) hT
    refine ⟨S.2.1 1 15 0, uF (uG (uF (S.2.1 13) 0 0 0) 10 g') 0 17 1, q, q2, ?_, rfl, ?_⟩
    · show f_X12_saveState_p4_0 T 13 = _
      rw [hT13]
      unfold f_X12_saveState_p4_0
      rw [sR_w, lt1_e, w1]
      simp only [bd_e]
      rw [sR_w, lt1_e, sR_g, uF_o (by decide), uG_o (by decide), uF_o (by decide), gf_16 h7, sR_s]
    · refine sim_now hS hbb (fun r b c hr => ?_) (fun r r0 r1 r3 => by rw [sR_n1 r0, sR_n1 r3]; rfl) (fun o k ho hk => ?_) (fun o k a1 a2 a3 => ?_) (fun k a1 a2 a3 => ?_) ?_ ?_ ?_
      · show uP S.2.2 3 0 0 (q, 0) r b c = _
        unfold uP
        rw [if_neg (fun h => hr h.1)]
      · rw [sR_g1]
        rcases hk with hk | hk
        · exact uF_o hk
        · by_cases e : o = 0
          · subst e
            exact uF_k hk
          · exact uF_o e
      · rw [uF_o a1, uG_o a3, uF_o a1]
      · rw [uF_k a3, uG_o (by decide), uF_k a1]
      · have e6 : (uF (uG (uF (S.2.1 13) 0 0 0) 10 g') 0 17 1) 6 = S.2.1 13 6 := by
          funext k
          simp (disch := omega) only [uF_e, uF_o, uF_k, uG_e, uG_o, uN_e, uN_k, true_or, or_true]
        rw [e6, sR_n1 (by decide), sR_n1 (by decide)]
        exact gf_mono h7 hbb
      · rw [sR_g1, uF_o (by decide), uF_k (by decide), uG_o (by decide), uF_k (by decide)]
        exact ⟨h8.1, h8.2.1.1, Int.le_refl _⟩
      · rw [sR_g1, uF_e, uF_e, sR_n1 (by decide), sR_g1]
        refine ⟨rfl, Or.inr rfl, fun _ => ⟨?_, ?_⟩⟩
        · show uP S.2.2 3 0 0 (q, 0) 3 0 0 = _
          unfold uP
          rw [if_pos ⟨rfl, rfl, rfl⟩]
        · refine gf_ag h5 c2 (gf_sl h5 (fun k hk => ?_) (gf_mono h7 hbb))
          rw [uF_o (by decide), uG_e, w2 k hk, uF_o (by decide)]
theorem k_restoreState (hI : INV m S) : CALL m S (f_X11_restoreState_p3_0 S 0) (fun T => f_X12_restoreState_p4_0 T 13) (XR (KE 3)) := by
  obtain ⟨q, q2, hS, hk, hq, hcx⟩ := inv_cx hI
  have hS' := hS
  obtain ⟨h1, h2, h3, h4, h5, h6, h7, h8, h9, h10⟩ := hS'
  obtain ⟨s1, s2, s3⟩ := h9
  have hbb : BB m ≤ BB (m + 1) := by unfold BB; omega
  have e2 : gI S 0 0 9 = S.2.1 13 0 17 := s1
  by_cases c : S.2.1 13 0 17 = 1
  · obtain ⟨z1, z2⟩ := s3 c
    obtain ⟨G, c1, c2⟩ := p_copy (S := S) (r0 := 1) (r1 := 3) (by decide) z1 hk z2
    rw [wP_i h4] at c1
    have e3 : wI (sR S 1 G) 0 8 2 0 = sR (sR S 1 G) 0 (uF (S.2.1 0) 8 2 0) := by
      have k := sR_w (S := sR S 1 G) (r := 0) (o := 8) (k := 2) (F := (sR S 1 G).2.1 0) (z := 0)
      rw [sR_e, sR_n1 (by decide)] at k
      exact k
    refine ⟨.inl (G 15 0), sR (sR S 1 G) 0 (uF (S.2.1 0) 8 2 0), ?_, rfl, by rw [sR_n1 (by decide), sR_n1 (by decide)], fun T hT hμ => ?_⟩
    · unfold f_X11_restoreState_p3_0 f_X1_forget_p3_8
      rw [e2, c, if_pos (by decide), show 0 + 3 = 3 from rfl, show 0 + 1 = 1 from rfl, c1]
      simp only [bd_e]
      rw [e3, lt1_e]
      simp only [bd_e]
      rw [sR_n (by decide), sR_g]
    · have hT13 := sR_i hμ
      obtain ⟨g', w1, w2⟩ := p_cop10_6 (T := T) (μ := uF (S.2.1 13) 0 0 (1 - 1)) hT
      have hG : GF (S.2.1 q) (BB (m + 1)) G g' := gf_ag h5 c2 (gf_sl h5 (fun k hk => by rw [w2 k hk, uF_o (by decide)]) (gf_mono z2 hbb))
      refine ⟨G 15 0, uF (uG (uF (S.2.1 13) 0 0 (1 - 1)) 6 g') 0 16 0, q, q2, ?_, ⟨rfl, by simp (disch := omega) only [uF_e, uF_o, uF_k, uG_e, uG_o, uN_e, uN_k, true_or, or_true]; rfl⟩, ?_⟩
      · show f_X12_restoreState_p4_0 T 13 = _
        rw [hT13]
        unfold f_X12_restoreState_p4_0
        rw [sR_g, c, p_is (Or.inr rfl)]
        simp only [bd2_e]
        rw [if_pos (by decide), w1]
        simp only [bd_e]
        rw [sR_w, lt1_e, sR_g, uF_o (by decide), uG_e, gf_16 hG, sR_s]
      · refine sim_now hS hbb (fun r b c hr => rfl) (fun r r0 r1 r3 => by rw [sR_n1 r0, sR_n1 r1]) (fun o k ho hk => ?_) (fun o k a1 a2 a3 => ?_) (fun k a1 a2 a3 => ?_) ?_ ?_ ?_
        · rw [sR_g1]
          rcases ho with ho | ho
          · exact uF_o ho
          · by_cases e : o = 8
            · subst e
              exact uF_k ho
            · exact uF_o e
        · rw [uF_o a1, uG_o a2, uF_o a1]
        · rw [uF_k a2, uG_o (by decide), uF_k a1]
        · have e6 : (uF (uG (uF (S.2.1 13) 0 0 (1 - 1)) 6 g') 0 16 0) 6 = g' := by
            funext k
            simp (disch := omega) only [uF_e, uF_o, uF_k, uG_e, uG_o, uN_e, uN_k, true_or, or_true]
          rw [e6, sR_n1 (by decide), sR_g1]
          exact hG
        · rw [sR_g1, uF_e, uF_e]
          exact ⟨rfl, Int.le_refl _, h8.2.1.1⟩
        · rw [sR_g1, sR_n1 (by decide), sR_n1 (by decide), uF_o (by decide), uF_k (by decide), uG_o (by decide), uF_k (by decide)]
          refine ⟨s1, s2, fun hi => ⟨(s3 hi).1, ?_⟩⟩
          have e10 : (uF (uG (uF (S.2.1 13) 0 0 (1 - 1)) 6 g') 0 16 0) 10 = S.2.1 13 10 := by
            funext k
            simp (disch := omega) only [uF_e, uF_o, uF_k, uG_e, uG_o, uN_e, uN_k, true_or, or_true]
          rw [e10]
          exact gf_mono (s3 hi).2 hbb
  · refine callR hI (v := .inr 3) (v' := 0) (z := 1 - 0) ?_ (fun T hT => ?_) ⟨uF_e.symm, Or.inl rfl⟩
    · unfold f_X11_restoreState_p3_0
      rw [e2, show S.2.1 13 0 17 = 0 by omega, if_neg (by decide)]
    · unfold f_X12_restoreState_p4_0
      rw [sR_g, show S.2.1 13 0 17 = 0 by omega, p_is (Or.inl rfl)]
      simp only [bd2_e]
      rw [if_neg (by decide)]
theorem sR_0 {S : xSt} {o k : Nat} {z : Int} : wI S 0 o k z = sR S 0 (uF (S.2.1 0) o k z) := by
  have h := sR_w (S := S) (r := 0) (o := o) (k := k) (F := S.2.1 0) (z := z)
  rw [sR_e] at h
  exact h
theorem k_truncate (hI : INV m S) (hi : wr i = i) : CALL m S (f_X11_truncate_p3_0 S 0 i) (fun T => f_X12_truncate_p4_0 T 13 i) (fun v v' _ => wr v = wr v') := by
  have hi2 := wr_r hi
  obtain ⟨q, q2, hS, hk, hq, hcx⟩ := inv_cx hI
  have hbb : BB m ≤ BB (m + 1) := by unfold BB; omega
  have hio := hS.2.2.2.2.2.2.2.2.2
  obtain ⟨i1, i2, i3, i4⟩ := hio
  have e2 : gI S 0 0 1 = S.2.1 13 0 21 := i1
  by_cases c : 0 ≤ i ∧ i ≤ S.2.1 13 0 21
  · refine ⟨1, sR S 0 (uF (S.2.1 0) 0 1 i), ?_, rfl, by rw [sR_n1 (by decide)], fun T hT hμ => ?_⟩
    · unfold f_X11_truncate_p3_0
      rw [hi, e2, wr_e (z := S.2.1 13 0 21) (by omega), if_neg (by omega), if_pos c.2, sR_0, lt1_e]
    · have hT13 := sR_i hμ
      refine ⟨1, uF (uF (S.2.1 13) 0 0 0) 0 21 i, q, q2, ?_, rfl, ?_⟩
      · show f_X12_truncate_p4_0 T 13 i = _
        rw [hT13]
        unfold f_X12_truncate_p4_0
        rw [sR_w, lt1_e, hi, sR_g, uF_k (by decide), wr_e (z := S.2.1 13 0 21) (by omega), p_isIn hi2 (by decide) (by omega), if_pos c]
        simp only [bd2_e]
        rw [if_pos (by decide), sR_w, lt1_e, sR_s]
      · refine sim_io hS hbb (fun r hr => by rw [sR_n1 hr]) (by rw [sR_g1, uF_o (by decide)]) (by rw [sR_g1, uF_o (by decide)]) (by rw [sR_g1, uF_k (by decide)]) (fun o k a1 a2 a3 a4 => by rw [uF_o a1, uF_o a1]) (fun k a1 a2 a3 a4 => by rw [uF_k a2, uF_k a1]) ?_
        rw [sR_g1]
        unfold SIO
        simp (disch := omega) only [uF_e, uF_o, uF_k, uG_e, uG_o, uN_e, uN_k, true_or, or_true]
        refine ⟨trivial, by omega, fun k hk => i3 k (by omega), i4⟩
  · refine callR hI (v := 0) (v' := 0) (z := 0) ?_ (fun T hT => ?_) rfl
    · unfold f_X11_truncate_p3_0
      rw [hi, e2, wr_e (z := S.2.1 13 0 21) (by omega)]
      by_cases c2 : i < 0
      · rw [if_pos c2]
      · rw [if_neg c2, if_neg (by omega)]
    · unfold f_X12_truncate_p4_0
      rw [sR_w, lt1_e, hi, sR_g, uF_k (by decide), wr_e (z := S.2.1 13 0 21) (by omega), p_isIn hi2 (by decide) (by omega), if_neg c]
      simp only [bd2_e]
      rw [if_neg (by decide)]
/-! feed -/
def fby (a s : Int) : Int := wb (wb (iSr a s))
def fcb (X : xR) (b : Int) : xR := uF (uF X 1 (X 0 1).toNat b) 0 1 (X 0 1 + 1)
def fmb (μ : xR) (b : Int) : xR := uF (uF μ 13 (μ 0 21).toNat b) 0 21 (μ 0 21 + 1)
theorem fby_r {a s : Int} : -128 ≤ fby a s ∧ fby a s ≤ 127 := by
  unfold fby wb
  omega
/-- what the two inputs say of each other, and what stays -/
def FIO (X0 μ0 X μ : xR) (n : Int) : Prop := SIO X μ ∧ μ 0 21 = n ∧ (∀ o k, (o ≠ 1) → (o ≠ 0 ∨ k ≠ 1) → X o k = X0 o k) ∧ (∀ o k, o ≠ 0 → o ≠ 13 → μ o k = μ0 o k) ∧ ∀ k, k ≠ 21 → μ 0 k = μ0 0 k
theorem fio_b {X0 μ0 X μ : xR} {n b : Int} (h : FIO X0 μ0 X μ n) (hn : n < 600) (hb : -128 ≤ b ∧ b ≤ 127) : FIO X0 μ0 (fcb X b) (fmb μ b) (n + 1) := by
  obtain ⟨h1, h2, h3, h4, h5⟩ := h
  unfold SIO at h1
  obtain ⟨i1, i2, i3, i4⟩ := h1
  unfold fcb fmb
  refine ⟨?_, by rw [uF_e, h2], fun o k ho hk => ?_, fun o k a1 a2 => ?_, fun k a1 => ?_⟩
  · unfold SIO
    simp (disch := omega) only [uF_e, uF_o, uF_k, uG_e, uG_o, uN_e, uN_k, true_or, or_true, i1]
    refine ⟨trivial, by omega, fun k hk => ?_, i4⟩
    by_cases c : k = (μ 0 21).toNat
    · subst c
      rw [uF_e, uF_e]
      exact ⟨rfl, hb⟩
    · rw [uF_k c, uF_k c]
      exact i3 k (by omega)
  · rw [← h3 o k ho hk]
    rcases hk with hk | hk
    · rw [uF_o hk, uF_o ho]
    · by_cases e : o = 0
      · subst e
        rw [uF_k hk, uF_o ho]
      · rw [uF_o e, uF_o ho]
  · rw [uF_o a1, uF_o a2, h4 o k a1 a2]
  · rw [uF_k a1, uF_o (by decide), h5 k a1]
theorem c_app {X : xR} {n a : Int} (hfu : 10000000 ≤ fu S) (hX : X 0 1 = n) (hn : 0 ≤ n ∧ n + 4 ≤ 600) : f_X11_append_p3_0 (sR S 0 X) 0 a = some (sR S 0 (fcb (fcb (fcb (fcb X (fby a 24)) (fby a 16)) (fby a 8)) (fby a 0))) := by
  have st : ∀ (X : xR) (n x : Int) (f : Nat), X 0 1 = n → 0 ≤ n → n < 600 → 0 ≤ x → x ≤ 24 → f_X11_append_p3_0_b3 0 (f + 1) (sR S 0 X) a x = f_X11_append_p3_0_b3 0 f (sR S 0 (fcb X (fby a x))) a (x + (-8)) := by
    intro X n x f h1 h2 h3 h4 h5
    rw [f_X11_append_p3_0_b3, wr_e (z := x) (by omega), if_neg (by omega), sR_g, h1, wr_e (z := n) (by omega), wr_e (z := 600) (by decide), if_neg (by omega), ckI_e (by omega), sR_w, lt1_e, sR_g, uF_o (by decide), h1, sR_w, lt1_e]
    unfold fcb
    rw [h1]
    rfl
  have en : ∀ (X : xR) (b n : Int), X 0 1 = n → (fcb X b) 0 1 = n + 1 := by
    intro X b n h
    unfold fcb
    rw [uF_e, h]
  have e1 := en X (fby a 24) n hX
  have e2 := en _ (fby a 16) _ e1
  have e3 := en _ (fby a 8) _ e2
  obtain ⟨f, hf⟩ : ∃ f, fu S = f + 1 + 1 + 1 + 1 + 1 := ⟨fu S - 5, by omega⟩
  unfold f_X11_append_p3_0
  rw [sR_fu, hf, st X n 24 _ hX (by omega) (by omega) (by decide) (by decide), show (24 : Int) + (-8) = 16 from rfl, st _ _ 16 _ e1 (by omega) (by omega) (by decide) (by decide), show (16 : Int) + (-8) = 8 from rfl, st _ _ 8 _ e2 (by omega) (by omega) (by decide) (by decide), show (8 : Int) + (-8) = 0 from rfl, st _ _ 0 _ e3 (by omega) (by omega) (by decide) (by decide), show (0 : Int) + (-8) = -8 from rfl, f_X11_append_p3_0_b3, if_pos (by decide)]
theorem m_fd1 {T : xSt} {μ : xR} {n x s0 y : Int} {a b c d e : Int} {f : Nat} (h1 : μ 0 21 = n) (h2 : 0 ≤ n ∧ n < 600) (hy : 24 - 8 * Int.tmod (wr x) (wr 4) = y) : f_X12_feed_p4_0_b76 (f_X12_feed_p4_0_b23 13 f) 13 (sR T 13 μ) a b c d e x s0 = f_X12_feed_p4_0_b23 13 f (sR T 13 (fmb μ (fby s0 y))) a b c d e (x + 1) := by
  unfold f_X12_feed_p4_0_b76
  rw [sR_g, h1, ckI_e (by omega), wr_e (z := n) (by omega), sR_w, lt1_e, sR_g, uF_o (by decide), h1, sR_w, lt1_e, hy]
  unfold fmb
  rw [h1]
  rfl
theorem fmb_n {μ : xR} {b n : Int} (h : μ 0 21 = n) : (fmb μ b) 0 21 = n + 1 := by
  unfold fmb
  rw [uF_e, h]
theorem m_fdk0 {T : xSt} {μ : xR} {n : Int} {a b c d e : Int} {f : Nat} (h1 : μ 0 21 = n) (h2 : 0 ≤ n ∧ n + 4 ≤ 600) : f_X12_feed_p4_0_b23 13 (f + 1 + 1 + 1 + 1) (sR T 13 μ) a b c d e 0 = f_X12_feed_p4_0_b23 13 f (sR T 13 (fmb (fmb (fmb (fmb μ (fby a 24)) (fby a 16)) (fby a 8)) (fby a 0))) a b c d e 4 ∧ (fmb (fmb (fmb (fmb μ (fby a 24)) (fby a 16)) (fby a 8)) (fby a 0)) 0 21 = n + 4 := by
  have e1 := fmb_n (b := fby a 24) h1
  have e2 := fmb_n (b := fby a 16) e1
  have e3 := fmb_n (b := fby a 8) e2
  have e4 := fmb_n (b := fby a 0) e3
  refine ⟨?_, by omega⟩
  rw [f_X12_feed_p4_0_b23, if_neg (by decide), if_neg (by decide), m_fd1 (y := 24) h1 (by omega) (by decide), show (0 : Int) + 1 = 1 from rfl]
  rw [f_X12_feed_p4_0_b23, if_neg (by decide), if_neg (by decide), m_fd1 (y := 16) e1 (by omega) (by decide), show (1 : Int) + 1 = 2 from rfl]
  rw [f_X12_feed_p4_0_b23, if_neg (by decide), if_neg (by decide), m_fd1 (y := 8) e2 (by omega) (by decide), show (2 : Int) + 1 = 3 from rfl]
  rw [f_X12_feed_p4_0_b23, if_neg (by decide), if_neg (by decide), m_fd1 (y := 0) e3 (by omega) (by decide), show (3 : Int) + 1 = 4 from rfl]
theorem m_fdk1 {T : xSt} {μ : xR} {n : Int} {a b c d e : Int} {f : Nat} (h1 : μ 0 21 = n) (h2 : 0 ≤ n ∧ n + 4 ≤ 600) : f_X12_feed_p4_0_b23 13 (f + 1 + 1 + 1 + 1) (sR T 13 μ) a b c d e 4 = f_X12_feed_p4_0_b23 13 f (sR T 13 (fmb (fmb (fmb (fmb μ (fby b 24)) (fby b 16)) (fby b 8)) (fby b 0))) a b c d e 8 ∧ (fmb (fmb (fmb (fmb μ (fby b 24)) (fby b 16)) (fby b 8)) (fby b 0)) 0 21 = n + 4 := by
  have e1 := fmb_n (b := fby b 24) h1
  have e2 := fmb_n (b := fby b 16) e1
  have e3 := fmb_n (b := fby b 8) e2
  have e4 := fmb_n (b := fby b 0) e3
  refine ⟨?_, by omega⟩
  rw [f_X12_feed_p4_0_b23, if_neg (by decide), if_pos (by decide), if_neg (by decide), m_fd1 (y := 24) h1 (by omega) (by decide), show (4 : Int) + 1 = 5 from rfl]
  rw [f_X12_feed_p4_0_b23, if_neg (by decide), if_pos (by decide), if_neg (by decide), m_fd1 (y := 16) e1 (by omega) (by decide), show (5 : Int) + 1 = 6 from rfl]
  rw [f_X12_feed_p4_0_b23, if_neg (by decide), if_pos (by decide), if_neg (by decide), m_fd1 (y := 8) e2 (by omega) (by decide), show (6 : Int) + 1 = 7 from rfl]
  rw [f_X12_feed_p4_0_b23, if_neg (by decide), if_pos (by decide), if_neg (by decide), m_fd1 (y := 0) e3 (by omega) (by decide), show (7 : Int) + 1 = 8 from rfl]
theorem m_fdk2 {T : xSt} {μ : xR} {n : Int} {a b c d e : Int} {f : Nat} (h1 : μ 0 21 = n) (h2 : 0 ≤ n ∧ n + 4 ≤ 600) : f_X12_feed_p4_0_b23 13 (f + 1 + 1 + 1 + 1) (sR T 13 μ) a b c d e 8 = f_X12_feed_p4_0_b23 13 f (sR T 13 (fmb (fmb (fmb (fmb μ (fby c 24)) (fby c 16)) (fby c 8)) (fby c 0))) a b c d e 12 ∧ (fmb (fmb (fmb (fmb μ (fby c 24)) (fby c 16)) (fby c 8)) (fby c 0)) 0 21 = n + 4 := by
  have e1 := fmb_n (b := fby c 24) h1
  have e2 := fmb_n (b := fby c 16) e1
  have e3 := fmb_n (b := fby c 8) e2
  have e4 := fmb_n (b := fby c 0) e3
  refine ⟨?_, by omega⟩
  rw [f_X12_feed_p4_0_b23, if_neg (by decide), if_pos (by decide), if_pos (by decide), if_neg (by decide), m_fd1 (y := 24) h1 (by omega) (by decide), show (8 : Int) + 1 = 9 from rfl]
  rw [f_X12_feed_p4_0_b23, if_neg (by decide), if_pos (by decide), if_pos (by decide), if_neg (by decide), m_fd1 (y := 16) e1 (by omega) (by decide), show (9 : Int) + 1 = 10 from rfl]
  rw [f_X12_feed_p4_0_b23, if_neg (by decide), if_pos (by decide), if_pos (by decide), if_neg (by decide), m_fd1 (y := 8) e2 (by omega) (by decide), show (10 : Int) + 1 = 11 from rfl]
  rw [f_X12_feed_p4_0_b23, if_neg (by decide), if_pos (by decide), if_pos (by decide), if_neg (by decide), m_fd1 (y := 0) e3 (by omega) (by decide), show (11 : Int) + 1 = 12 from rfl]
theorem m_fdk3 {T : xSt} {μ : xR} {n : Int} {a b c d e : Int} {f : Nat} (h1 : μ 0 21 = n) (h2 : 0 ≤ n ∧ n + 4 ≤ 600) : f_X12_feed_p4_0_b23 13 (f + 1 + 1 + 1 + 1) (sR T 13 μ) a b c d e 12 = f_X12_feed_p4_0_b23 13 f (sR T 13 (fmb (fmb (fmb (fmb μ (fby d 24)) (fby d 16)) (fby d 8)) (fby d 0))) a b c d e 16 ∧ (fmb (fmb (fmb (fmb μ (fby d 24)) (fby d 16)) (fby d 8)) (fby d 0)) 0 21 = n + 4 := by
  have e1 := fmb_n (b := fby d 24) h1
  have e2 := fmb_n (b := fby d 16) e1
  have e3 := fmb_n (b := fby d 8) e2
  have e4 := fmb_n (b := fby d 0) e3
  refine ⟨?_, by omega⟩
  rw [f_X12_feed_p4_0_b23, if_neg (by decide), if_pos (by decide), if_pos (by decide), if_pos (by decide), if_neg (by decide), m_fd1 (y := 24) h1 (by omega) (by decide), show (12 : Int) + 1 = 13 from rfl]
  rw [f_X12_feed_p4_0_b23, if_neg (by decide), if_pos (by decide), if_pos (by decide), if_pos (by decide), if_neg (by decide), m_fd1 (y := 16) e1 (by omega) (by decide), show (13 : Int) + 1 = 14 from rfl]
  rw [f_X12_feed_p4_0_b23, if_neg (by decide), if_pos (by decide), if_pos (by decide), if_pos (by decide), if_neg (by decide), m_fd1 (y := 8) e2 (by omega) (by decide), show (14 : Int) + 1 = 15 from rfl]
  rw [f_X12_feed_p4_0_b23, if_neg (by decide), if_pos (by decide), if_pos (by decide), if_pos (by decide), if_neg (by decide), m_fd1 (y := 0) e3 (by omega) (by decide), show (15 : Int) + 1 = 16 from rfl]
theorem m_fdk4 {T : xSt} {μ : xR} {n : Int} {a b c d e : Int} {f : Nat} (h1 : μ 0 21 = n) (h2 : 0 ≤ n ∧ n + 4 ≤ 600) : f_X12_feed_p4_0_b23 13 (f + 1 + 1 + 1 + 1) (sR T 13 μ) a b c d e 16 = f_X12_feed_p4_0_b23 13 f (sR T 13 (fmb (fmb (fmb (fmb μ (fby e 24)) (fby e 16)) (fby e 8)) (fby e 0))) a b c d e 20 ∧ (fmb (fmb (fmb (fmb μ (fby e 24)) (fby e 16)) (fby e 8)) (fby e 0)) 0 21 = n + 4 := by
  have e1 := fmb_n (b := fby e 24) h1
  have e2 := fmb_n (b := fby e 16) e1
  have e3 := fmb_n (b := fby e 8) e2
  have e4 := fmb_n (b := fby e 0) e3
  refine ⟨?_, by omega⟩
  rw [f_X12_feed_p4_0_b23, if_neg (by decide), if_pos (by decide), if_pos (by decide), if_pos (by decide), if_pos (by decide), m_fd1 (y := 24) h1 (by omega) (by decide), show (16 : Int) + 1 = 17 from rfl]
  rw [f_X12_feed_p4_0_b23, if_neg (by decide), if_pos (by decide), if_pos (by decide), if_pos (by decide), if_pos (by decide), m_fd1 (y := 16) e1 (by omega) (by decide), show (17 : Int) + 1 = 18 from rfl]
  rw [f_X12_feed_p4_0_b23, if_neg (by decide), if_pos (by decide), if_pos (by decide), if_pos (by decide), if_pos (by decide), m_fd1 (y := 8) e2 (by omega) (by decide), show (18 : Int) + 1 = 19 from rfl]
  rw [f_X12_feed_p4_0_b23, if_neg (by decide), if_pos (by decide), if_pos (by decide), if_pos (by decide), if_pos (by decide), m_fd1 (y := 0) e3 (by omega) (by decide), show (19 : Int) + 1 = 20 from rfl]
theorem m_feed {T : xSt} {μ : xR} {n : Int} {a b c d e : Int} (hT : 10000000 ≤ fu T) (h1 : μ 0 21 = n) (h2 : 0 ≤ n ∧ n + 20 ≤ 600) : f_X12_feed_p4_0_b23 13 (fu T) (sR T 13 μ) a b c d e 0 = some (n + 20, sR T 13 (fmb (fmb (fmb (fmb (fmb (fmb (fmb (fmb (fmb (fmb (fmb (fmb (fmb (fmb (fmb (fmb (fmb (fmb (fmb (fmb μ (fby a 24)) (fby a 16)) (fby a 8)) (fby a 0)) (fby b 24)) (fby b 16)) (fby b 8)) (fby b 0)) (fby c 24)) (fby c 16)) (fby c 8)) (fby c 0)) (fby d 24)) (fby d 16)) (fby d 8)) (fby d 0)) (fby e 24)) (fby e 16)) (fby e 8)) (fby e 0))) := by
  obtain ⟨f, hf⟩ : ∃ f, fu T = f + 1 + 1 + 1 + 1 + 1 + 1 + 1 + 1 + 1 + 1 + 1 + 1 + 1 + 1 + 1 + 1 + 1 + 1 + 1 + 1 + 1 := ⟨fu T - 21, by omega⟩
  obtain ⟨k0, y0⟩ := m_fdk0 (T := T) (a := a) (b := b) (c := c) (d := d) (e := e) (f := f + 1 + 1 + 1 + 1 + 1 + 1 + 1 + 1 + 1 + 1 + 1 + 1 + 1 + 1 + 1 + 1 + 1) h1 (by omega)
  obtain ⟨k1, y1⟩ := m_fdk1 (T := T) (a := a) (b := b) (c := c) (d := d) (e := e) (f := f + 1 + 1 + 1 + 1 + 1 + 1 + 1 + 1 + 1 + 1 + 1 + 1 + 1) y0 (by omega)
  obtain ⟨k2, y2⟩ := m_fdk2 (T := T) (a := a) (b := b) (c := c) (d := d) (e := e) (f := f + 1 + 1 + 1 + 1 + 1 + 1 + 1 + 1 + 1) y1 (by omega)
  obtain ⟨k3, y3⟩ := m_fdk3 (T := T) (a := a) (b := b) (c := c) (d := d) (e := e) (f := f + 1 + 1 + 1 + 1 + 1) y2 (by omega)
  obtain ⟨k4, y4⟩ := m_fdk4 (T := T) (a := a) (b := b) (c := c) (d := d) (e := e) (f := f + 1) y3 (by omega)
  rw [hf, k0, k1, k2, k3, k4, f_X12_feed_p4_0_b23, if_pos (by decide), sR_g, y4]
  congr 2
  omega
theorem k_feed {a b c d e : Int} (hI : INV m S) : CALL m S (f_X11_feed_p3_0 S 0 a b c d e) (fun T => f_X12_feed_p4_0 T 13 a b c d e) (fun v v' _ => wr v = wr v') := by
  obtain ⟨q, q2, hS, hk, hq, hcx⟩ := inv_cx hI
  have hbb : BB m ≤ BB (m + 1) := by unfold BB; omega
  have hio := hS.2.2.2.2.2.2.2.2.2
  have hfu := hI.1
  have i1 := hio.1
  have i2 := hio.2.1
  have e2 : gI S 0 0 1 = S.2.1 13 0 21 := i1
  by_cases c9 : S.2.1 13 0 21 + 20 ≤ 600
  · have f0 : FIO (S.2.1 0) (uF (S.2.1 13) 0 0 0) (S.2.1 0) (uF (S.2.1 13) 0 0 0) (S.2.1 13 0 21) := by
      refine ⟨?_, by rw [uF_k (by decide)], fun o k _ _ => rfl, fun o k _ _ => rfl, fun k _ => rfl⟩
      unfold SIO at hio ⊢
      simp (disch := omega) only [uF_e, uF_o, uF_k, uG_e, uG_o, uN_e, uN_k, true_or, or_true]
      exact hio
    have f1 := fio_b f0 (by omega) (fby_r (a := a) (s := 24))
    have f2 := fio_b f1 (by omega) (fby_r (a := a) (s := 16))
    have f3 := fio_b f2 (by omega) (fby_r (a := a) (s := 8))
    have f4 := fio_b f3 (by omega) (fby_r (a := a) (s := 0))
    have f5 := fio_b f4 (by omega) (fby_r (a := b) (s := 24))
    have f6 := fio_b f5 (by omega) (fby_r (a := b) (s := 16))
    have f7 := fio_b f6 (by omega) (fby_r (a := b) (s := 8))
    have f8 := fio_b f7 (by omega) (fby_r (a := b) (s := 0))
    have f9 := fio_b f8 (by omega) (fby_r (a := c) (s := 24))
    have f10 := fio_b f9 (by omega) (fby_r (a := c) (s := 16))
    have f11 := fio_b f10 (by omega) (fby_r (a := c) (s := 8))
    have f12 := fio_b f11 (by omega) (fby_r (a := c) (s := 0))
    have f13 := fio_b f12 (by omega) (fby_r (a := d) (s := 24))
    have f14 := fio_b f13 (by omega) (fby_r (a := d) (s := 16))
    have f15 := fio_b f14 (by omega) (fby_r (a := d) (s := 8))
    have f16 := fio_b f15 (by omega) (fby_r (a := d) (s := 0))
    have f17 := fio_b f16 (by omega) (fby_r (a := e) (s := 24))
    have f18 := fio_b f17 (by omega) (fby_r (a := e) (s := 16))
    have f19 := fio_b f18 (by omega) (fby_r (a := e) (s := 8))
    have f20 := fio_b f19 (by omega) (fby_r (a := e) (s := 0))
    obtain ⟨n, hn⟩ : ∃ n, n = S.2.1 13 0 21 := ⟨_, rfl⟩
    rw [← hn] at f1 f2 f3 f4 f5 f6 f7 f8 f9 f10 f11 f12 f13 f14 f15 f16 f17 f18 f19 f20 c9 i2
    refine ⟨n + 20, sR S 0 (fcb (fcb (fcb (fcb (fcb (fcb (fcb (fcb (fcb (fcb (fcb (fcb (fcb (fcb (fcb (fcb (fcb (fcb (fcb (fcb (S.2.1 0) (fby a 24)) (fby a 16)) (fby a 8)) (fby a 0)) (fby b 24)) (fby b 16)) (fby b 8)) (fby b 0)) (fby c 24)) (fby c 16)) (fby c 8)) (fby c 0)) (fby d 24)) (fby d 16)) (fby d 8)) (fby d 0)) (fby e 24)) (fby e 16)) (fby e 8)) (fby e 0)), ?_, rfl, by rw [sR_n1 (by decide)], fun T hT hμ => ?_⟩
    · unfold f_X11_feed_p3_0
      have a0 := c_app (S := S) (X := S.2.1 0) (n := n) (a := a) hfu (by rw [hn]; exact i1) (by omega)
      rw [sR_e] at a0
      rw [e2, ← hn, wr_e (z := n + 20) (by omega), wr_e (z := 600) (by decide), if_pos c9, a0]
      simp only [bd_e]
      rw [c_app hfu (f4.1.1.trans f4.2.1) (by omega)]
      simp only [bd_e]
      rw [c_app hfu (f8.1.1.trans f8.2.1) (by omega)]
      simp only [bd_e]
      rw [c_app hfu (f12.1.1.trans f12.2.1) (by omega)]
      simp only [bd_e]
      rw [c_app hfu (f16.1.1.trans f16.2.1) (by omega)]
      simp only [bd_e]
      rw [sR_g, f20.1.1.trans f20.2.1]
      congr 2
      omega
    · have hT13 := sR_i hμ
      refine ⟨n + 20, (fmb (fmb (fmb (fmb (fmb (fmb (fmb (fmb (fmb (fmb (fmb (fmb (fmb (fmb (fmb (fmb (fmb (fmb (fmb (fmb (uF (S.2.1 13) 0 0 0) (fby a 24)) (fby a 16)) (fby a 8)) (fby a 0)) (fby b 24)) (fby b 16)) (fby b 8)) (fby b 0)) (fby c 24)) (fby c 16)) (fby c 8)) (fby c 0)) (fby d 24)) (fby d 16)) (fby d 8)) (fby d 0)) (fby e 24)) (fby e 16)) (fby e 8)) (fby e 0)), q, q2, ?_, rfl, ?_⟩
      · show f_X12_feed_p4_0 T 13 a b c d e = _
        rw [hT13]
        unfold f_X12_feed_p4_0
        rw [sR_w, lt1_e, sR_g, uF_k (by decide), ← hn, wr_e (z := n + 20) (by omega), wr_e (z := 600) (by decide), if_pos c9, sR_fu, m_feed (n := n) hT (by rw [uF_k (by decide), hn]) (by omega), sR_s]
      · obtain ⟨x1, x2, x3, x4, x5⟩ := f20
        refine sim_io hS hbb (fun r hr => by rw [sR_n1 hr]) (by rw [sR_g1]; exact x3 8 1 (by decide) (by decide)) (by rw [sR_g1]; exact x3 8 2 (by decide) (by decide)) (by rw [sR_g1]; exact x3 0 9 (by decide) (by decide)) (fun o k a1 a2 a3 a4 => by rw [x4 o k a1 a2, uF_o a1]) (fun k a1 a2 a3 a4 => by rw [x5 k a2, uF_k a1]) (by rw [sR_g1]; exact x1)
  · refine callR hI (v := -1) (v' := -1) (z := 0) ?_ (fun T hT => ?_) rfl
    · unfold f_X11_feed_p3_0
      rw [e2, wr_e (z := S.2.1 13 0 21 + 20) (by omega), wr_e (z := 600) (by decide), if_neg c9]
    · unfold f_X12_feed_p4_0
      rw [sR_w, lt1_e, sR_g, uF_k (by decide), wr_e (z := S.2.1 13 0 21 + 20) (by omega), wr_e (z := 600) (by decide), if_neg c9]
end G1
