/-! mathematics: forecasts -/
section F1
variable {m : Nat} {S : xSt} {i j : Int}
theorem sim_fore {B B' : Int} {q q2 : Nat} {S : xSt} {μ X : xR} {z : Int} {g9 g6 : Nat → Int} (hS : SIM B q q2 S.2.2 S.2.1 μ) (hb : B ≤ B') (h6 : ∀ k, k < 363 → g6 k = μ 6 k) : SIM B' q q2 (sR (wP S 2 0 0 (q, 0)) 2 X).2.2 (sR (wP S 2 0 0 (q, 0)) 2 X).2.1 (uG (uG (uF μ 0 0 z) 9 g9) 6 g6) := by
  have hS' := sim_mono hS hb
  obtain ⟨h1, h2, h3, h4, h5, h6', h7, h8, h9, h10⟩ := hS'
  have hP : ∀ a b c : Nat, a ≠ 2 → (sR (wP S 2 0 0 (q, 0)) 2 X).2.2 a b c = S.2.2 a b c := by
    intro a b c ha
    show uP S.2.2 2 0 0 (q, 0) a b c = _
    unfold uP
    rw [if_neg (by omega)]
  have hCr : ∀ r, r ≠ 2 → (sR (wP S 2 0 0 (q, 0)) 2 X).2.1 r = S.2.1 r := fun r hr => by
    rw [sR_n1 hr]
    rfl
  generalize (sR (wP S 2 0 0 (q, 0)) 2 X).2.2 = P' at hP ⊢
  generalize (sR (wP S 2 0 0 (q, 0)) 2 X).2.1 = C' at hCr ⊢
  have hCq : C' q = S.2.1 q := hCr q (by omega)
  have e6 : (uG (uG (uF μ 0 0 z) 9 g9) 6 g6) 6 = g6 := by
    funext k
    simp (disch := omega) only [uF_e, uF_o, uF_k, uG_e, uG_o, uN_e, uN_k, true_or, or_true]
  have e10 : (uG (uG (uF μ 0 0 z) 9 g9) 6 g6) 10 = μ 10 := by
    funext k
    simp (disch := omega) only [uF_e, uF_o, uF_k, uG_e, uG_o, uN_e, uN_k, true_or, or_true]
  have e11 : (uG (uG (uF μ 0 0 z) 9 g9) 6 g6) 11 = μ 11 := by
    funext k
    simp (disch := omega) only [uF_e, uF_o, uF_k, uG_e, uG_o, uN_e, uN_k, true_or, or_true]
  refine ⟨h1, by rw [hP _ _ _ (by decide)]; exact h2, by rw [hP _ _ _ (by decide)]; exact h3, by rw [hP _ _ _ (by decide)]; exact h4, by rw [hCq]; exact h5, ?_, ?_, ?_, ?_, ?_⟩
  · rw [hCq]
    unfold PM at h6' ⊢
    simp (disch := omega) only [uF_e, uF_o, uF_k, uG_e, uG_o, uN_e, uN_k, true_or, or_true]
    exact h6'
  · rw [hCq, hCr 1 (by decide), e6]
    exact gf_ext h5 h6 h7
  · unfold SHI at h8 ⊢
    rw [e11, hCq, hCr 0 (by decide)]
    simp (disch := omega) only [uF_e, uF_o, uF_k, uG_e, uG_o, uN_e, uN_k, true_or, or_true]
    refine ⟨h8.1, h8.2.1, h8.2.2.1, fun i hi => ?_⟩
    rw [hCr _ (by omega), hP _ _ _ (by omega)]
    exact h8.2.2.2 i hi
  · unfold SSA at h9 ⊢
    rw [e10, hCq, hCr 0 (by decide), hCr 3 (by decide), hP _ _ _ (by decide)]
    simp (disch := omega) only [uF_e, uF_o, uF_k, uG_e, uG_o, uN_e, uN_k, true_or, or_true]
    exact h9
  · rw [hCr 0 (by decide)]
    unfold SIO at h10 ⊢
    simp (disch := omega) only [uF_e, uF_o, uF_k, uG_e, uG_o, uN_e, uN_k, true_or, or_true]
    exact h10
theorem t_ahead (hI : INV m S) : ∃ G q q2, f_X0_copyFrom_p1_0_1_0 S 2 1 = some (sR (wP S 2 0 0 (q, 0)) 2 G) ∧ AG G (S.2.1 1) ∧ SIM (BB m) q q2 S.2.2 S.2.1 (S.2.1 13) ∧ (q = 11 ∨ q = 12) ∧ gk S q = 2 ∧ GF (S.2.1 q) (BB m) G (S.2.1 13 6) ∧ ∀ (T : xSt) (μ' : xR), 10000000 ≤ fu T → PM (S.2.1 q) μ' → CX (wP S 2 0 0 (q, 0)) 2 q (sR T 13 μ') (S.2.1 q) μ' := by
  obtain ⟨q, q2, hS, hk, hq, hcx⟩ := inv_cx hI
  have hS2 := hS
  obtain ⟨h1, h2, h3, h4, h5, h6, h7, h8, h9, h10⟩ := hS2
  obtain ⟨G, c1, c2⟩ := p_copy (S := S) (r0 := 2) (r1 := 1) (by decide) (show gP S 1 0 0 = (q, 0) from h4) hk h7
  refine ⟨G, q, q2, c1, c2, hS, hq, hk, gf_ag h5 c2 h7, fun T μ' hT hM => ⟨?_, hk, by omega, rfl, sR_g1, hI.1, hT, h5, hM⟩⟩
  show uP S.2.2 2 0 0 (q, 0) 2 0 0 = (q, 0)
  unfold uP
  rw [if_pos ⟨rfl, rfl, rfl⟩]
theorem m_back {T : xSt} {μ2 : xR} {N : Nat → Int} {v : Int} (hT : 10000000 ≤ fu T) : ∃ g6, f_X12_laysBack_p4_0 (wA (sR T 13 μ2) 13 6 N) 13 v = some (v, sR T 13 (uG μ2 6 g6)) ∧ ∀ k, k < 363 → g6 k = μ2 9 k := by
  obtain ⟨g6, k1, k2⟩ := p_cop9_6 (T := T) (μ := uG μ2 6 N) hT
  refine ⟨g6, ?_, fun k hk => by rw [k2 k hk, uG_o (by decide)]⟩
  unfold f_X12_laysBack_p4_0
  rw [wN_j, k1]
  simp only [bd_e]
  rw [uG_G]
theorem pm_9 {π μ : xR} {z : Int} {g : Nat → Int} (h : PM π μ) : PM π (uG (uF μ 0 0 z) 9 g) := by
  unfold PM at h ⊢
  simp (disch := omega) only [uF_e, uF_o, uF_k, uG_e, uG_o, uN_e, uN_k, true_or, or_true]
  exact h
theorem e9_6 {μ : xR} {z : Int} {g : Nat → Int} : (uG (uF μ 0 0 z) 9 g) 6 = μ 6 := by rw [uG_h (by decide), uF_6]
theorem wN_k {T : xSt} {μ : xR} {z : Int} {g : Nat → Int} : wA (sR T 13 (uG (uF μ 0 0 z) 9 g)) 13 6 (μ 6) = sR T 13 (uG (uF μ 0 0 z) 9 g) := by
  have k := wN_i (T := T) (μ := uG (uF μ 0 0 z) 9 g)
  rw [e9_6] at k
  exact k
theorem g_1 {X : xR} {q o k : Nat} : gI (sR (wP S 2 0 0 (q, 0)) 2 X) 1 o k = S.2.1 1 o k := by
  rw [sR_n (by decide)]
  rfl
theorem k_nextBubbles (hI : INV m S) (hm5 : m < 512) (hi : wr i = i) : CALL m S (f_X11_nextBubbles_p3_0 S 0 i) (fun T => f_X12_nextBubbles_p4_0 T 13 i) (XR (KE 2)) := by
  have hi2 := wr_r hi
  obtain ⟨G, q, q2, r1, r2, hS, hq, hk, hG, hcx⟩ := t_ahead hI
  have hGF := hS.2.2.2.2.2.2.1
  have hR := hS.2.2.2.2.1
  have hM := hS.2.2.2.2.2.1
  have hF := hGF.1
  have hbb : BB m ≤ BB (m + 1) := by unfold BB; omega
  have hfu := hI.1
  have hBm : BB m ≤ 10000000 := by unfold BB; omega
  have hb := hF.2.2.1
  by_cases c : 1 ≤ i ∧ i ≤ 8
  · have hb9 := hb i.toNat (by omega) (by omega)
    obtain ⟨Fs, f0, f1, f2⟩ := t_runU (S := wP S 2 0 0 (q, 0)) (T0 := sR S 13 (S.2.1 13)) (r := 2) (q := q) (π := S.2.1 q) (hcx S (S.2.1 13) hfu hM) hG (by omega) (n := 1) (by omega)
    refine ⟨.inl (Fs 1 16 i.toNat - S.2.1 1 16 i.toNat), sR (wP S 2 0 0 (q, 0)) 2 (Fs 1), ?_, rfl, by rw [sR_n1 (by decide)]; rfl, fun T hT hμ => ?_⟩
    · unfold f_X11_nextBubbles_p3_0
      rw [hi, wr_e (z := 1) (by decide), wr_e (z := 8) (by decide), if_neg (show ¬ i < 1 by omega), if_pos c.2, Nat.zero_add, Nat.zero_add, r1]
      simp only [bd_e]
      have k := (f1 0 (by decide)).1
      rw [f0] at k
      rw [k]
      simp only [bd_e, Nat.zero_add]
      rw [ckI_e (by omega), ckI_e (by omega), sR_g, g_1]
    have hT13 := sR_i hμ
    obtain ⟨g9, k1, k2⟩ := p_cop6_9 (T := T) (μ := uF (S.2.1 13) 0 0 (1 - 1)) hT
    rw [uF_6] at k2
    obtain ⟨Ns, n0, n1, n2⟩ := f2 (sR T 13 (uG (uF (S.2.1 13) 0 0 (1 - 1)) 9 g9)) _ (S.2.1 13 6) (hcx T _ hT (pm_9 hM)) hG
    have hG1 := n2 1 (Nat.le_refl 1)
    have hbN := hG1.1.2.2.1 i.toNat (by omega) (by omega)
    obtain ⟨g6, w1, w2⟩ := m_back (T := T) (μ2 := uG (uF (S.2.1 13) 0 0 (1 - 1)) 9 g9) (N := Ns 1) (v := Fs 1 16 i.toNat - S.2.1 1 16 i.toNat) hT
    refine ⟨_, _, q, q2, ?_, ⟨rfl, ?_⟩, sim_fore (z := 1 - 1) (g9 := g9) (g6 := g6) hS hbb (fun k hk => by rw [w2 k hk, uG_e, k2 k hk])⟩
    · show f_X12_nextBubbles_p4_0 T 13 i = _
      rw [hT13]
      unfold f_X12_nextBubbles_p4_0 f_X12_isCause f_X12_bubblesWithin_p4_0 f_X12_tries_p4_0
      rw [hi, p_isIn hi2 (by decide) (by decide), if_pos c]
      simp only [bd2_e]
      rw [p_is (Or.inr rfl)]
      simp only [bd2_e]
      rw [if_neg (by decide), k1]
      simp only [bd_e]
      have k := m_bub (x2 := i) (x3 := S.2.1 1 16 i.toNat) n1 (by omega) 1 0 (fu T) (by omega) (by omega)
      rw [n0, wN_k] at k
      rw [ckI_e (by omega), wr_e (z := 25 + i) (by omega), sR_g, uG_o (by decide), uF_o (by decide), show (25 + i).toNat = 25 + i.toNat by omega, hb9, sR_fu]
      have k' : f_X12_bubblesWithin_p4_0_b17 13 (fu T) (sR T 13 (uG (uF (S.2.1 13) 0 0 (1 - 1)) 9 g9)) 1 i (S.2.1 1 16 i.toNat) 0 = _ := k
      rw [k', ckI_e (by omega), wr_e (z := 25 + i) (by omega), show (25 + i).toNat = 25 + i.toNat by omega, hbN, w1]
      simp only [bd2_e]
      rw [sR_s]
    · simp (disch := omega) only [uF_e, uF_o, uF_k, uG_e, uG_o, uN_e, uN_k, true_or, or_true]
      rfl
  · refine callR hI (v := .inr 2) (v' := 0) (z := 1 - 0) ?_ (fun T hT => ?_) ⟨uF_e.symm, Or.inl rfl⟩
    · unfold f_X11_nextBubbles_p3_0
      rw [hi, wr_e (z := 1) (by decide), wr_e (z := 8) (by decide)]
      by_cases c2 : i < 1
      · rw [if_pos c2]
      · rw [if_neg c2, if_neg (by omega)]
    · unfold f_X12_nextBubbles_p4_0
      unfold f_X12_isCause
      rw [hi, p_isIn hi2 (by decide) (by decide), if_neg c]
      simp only [bd2_e]
      rw [p_is (Or.inl rfl)]
      simp only [bd2_e]
      rw [if_pos (by decide)]
theorem k_bubblesIn (hI : INV m S) (hm5 : m < 512) (hi : wr i = i) (hj : wr j = j) : CALL m S (f_X11_bubblesIn_p3_0 S 0 i j) (fun T => f_X12_bubblesIn_p4_0 T 13 i j) (XR (KE 2)) := by
  have hi2 := wr_r hi
  obtain ⟨G, q, q2, r1, r2, hS, hq, hk, hG, hcx⟩ := t_ahead hI
  have hGF := hS.2.2.2.2.2.2.1
  have hR := hS.2.2.2.2.1
  have hM := hS.2.2.2.2.2.1
  have hF := hGF.1
  have hbb : BB m ≤ BB (m + 1) := by unfold BB; omega
  have hfu := hI.1
  have hBm : BB m ≤ 10000000 := by unfold BB; omega
  have hb := hF.2.2.1
  have hj2 := wr_r hj
  by_cases c : (1 ≤ i ∧ i ≤ 500) ∧ 1 ≤ j ∧ j ≤ 8
  · have hb9 := hb j.toNat (by omega) (by omega)
    obtain ⟨n, hn⟩ : ∃ n : Nat, n = i.toNat := ⟨_, rfl⟩
    have hin : i = (n : Int) := by omega
    obtain ⟨Fs, f0, f1, f2⟩ := t_runU (S := wP S 2 0 0 (q, 0)) (T0 := sR S 13 (S.2.1 13)) (r := 2) (q := q) (π := S.2.1 q) (hcx S (S.2.1 13) hfu hM) hG (by omega) (n := n) (by omega)
    refine ⟨.inl (Fs n 16 j.toNat - S.2.1 1 16 j.toNat), sR (wP S 2 0 0 (q, 0)) 2 (Fs n), ?_, rfl, by rw [sR_n1 (by decide)]; rfl, fun T hT hμ => ?_⟩
    · unfold f_X11_bubblesIn_p3_0
      rw [hi, hj, wr_e (z := 1) (by decide), wr_e (z := 500) (by decide), wr_e (z := 8) (by decide), if_neg (show ¬ i < 1 by omega), if_pos c.1.2, if_neg (show ¬ j < 1 by omega), if_pos c.2.2, Nat.zero_add, Nat.zero_add, r1]
      simp only [bd_e]
      have k := c_dfor0 (S := wP S 2 0 0 (q, 0)) (r := 2) (fun j hj => (f1 j hj).1) (by omega) hfu hin
      rw [f0] at k
      rw [k]
      simp only [bd2_e]
      rw [ckI_e (by omega), ckI_e (by omega), sR_g, g_1]
    have hT13 := sR_i hμ
    obtain ⟨g9, k1, k2⟩ := p_cop6_9 (T := T) (μ := uF (S.2.1 13) 0 0 (1 - 1)) hT
    rw [uF_6] at k2
    obtain ⟨Ns, n0, n1, n2⟩ := f2 (sR T 13 (uG (uF (S.2.1 13) 0 0 (1 - 1)) 9 g9)) _ (S.2.1 13 6) (hcx T _ hT (pm_9 hM)) hG
    have hG1 := n2 n (Nat.le_refl n)
    have hbN := hG1.1.2.2.1 j.toNat (by omega) (by omega)
    obtain ⟨g6, w1, w2⟩ := m_back (T := T) (μ2 := uG (uF (S.2.1 13) 0 0 (1 - 1)) 9 g9) (N := Ns n) (v := Fs n 16 j.toNat - S.2.1 1 16 j.toNat) hT
    refine ⟨_, _, q, q2, ?_, ⟨rfl, ?_⟩, sim_fore (z := 1 - 1) (g9 := g9) (g6 := g6) hS hbb (fun k hk => by rw [w2 k hk, uG_e, k2 k hk])⟩
    · show f_X12_bubblesIn_p4_0 T 13 i j = _
      rw [hT13]
      unfold f_X12_bubblesIn_p4_0 f_X12_bubblesIn_p4_0_b19 f_X12_bubblesIn_p4_0_b20 f_X12_isCause f_X12_bubblesWithin_p4_0 f_X12_tries_p4_0
      rw [p_isCyc hi, if_pos c.1]
      simp only [bd2_e]
      rw [if_neg (by decide), hj, p_isIn hj2 (by decide) (by decide), if_pos c.2]
      simp only [bd2_e]
      rw [if_neg (by decide), p_is (Or.inr rfl)]
      simp only [bd2_e]
      rw [if_neg (by decide), k1]
      simp only [bd_e]
      have k := m_bub (x2 := j) (x3 := S.2.1 1 16 j.toNat) n1 (by omega) n 0 (fu T) (by omega) (by omega)
      rw [n0, wN_k, ← hin] at k
      rw [ckI_e (by omega), wr_e (z := 25 + j) (by omega), sR_g, uG_o (by decide), uF_o (by decide), show (25 + j).toNat = 25 + j.toNat by omega, hb9, sR_fu]
      have k' : f_X12_bubblesWithin_p4_0_b17 13 (fu T) (sR T 13 (uG (uF (S.2.1 13) 0 0 (1 - 1)) 9 g9)) i j (S.2.1 1 16 j.toNat) 0 = _ := k
      rw [k', ckI_e (by omega), wr_e (z := 25 + j) (by omega), show (25 + j).toNat = 25 + j.toNat by omega, hbN, w1]
      simp only [bd2_e]
      rw [sR_s]
    · simp (disch := omega) only [uF_e, uF_o, uF_k, uG_e, uG_o, uN_e, uN_k, true_or, or_true]
      rfl
  · refine callR hI (v := .inr 2) (v' := 0) (z := 1 - 0) ?_ (fun T hT => ?_) ⟨uF_e.symm, Or.inl rfl⟩
    · unfold f_X11_bubblesIn_p3_0
      rw [hi, hj, wr_e (z := 1) (by decide), wr_e (z := 500) (by decide), wr_e (z := 8) (by decide)]
      by_cases c2 : i < 1
      · rw [if_pos c2]
      · rw [if_neg c2]
        by_cases c3 : i ≤ 500
        · rw [if_pos c3]
          by_cases c4 : j < 1
          · rw [if_pos c4]
          · rw [if_neg c4, if_neg (by omega)]
        · rw [if_neg c3]
    · unfold f_X12_bubblesIn_p4_0 f_X12_bubblesIn_p4_0_b19 f_X12_bubblesIn_p4_0_b20 f_X12_isCause
      rw [p_isCyc hi]
      simp only [bd2_e]
      by_cases c2 : 1 ≤ i ∧ i ≤ 500
      · rw [if_pos c2, if_neg (by decide), hj, p_isIn hj2 (by decide) (by decide), if_neg (fun h => c ⟨c2, h⟩)]
        simp only [bd2_e]
        rw [if_pos (by decide), p_is (Or.inl rfl)]
        simp only [bd2_e]
        rw [if_pos (by decide)]
      · rw [if_neg c2, if_pos (by decide), p_is (Or.inl rfl)]
        simp only [bd2_e]
        rw [if_pos (by decide)]
theorem t_room {S : xSt} {Fs : Nat → xR} {n : Nat} (hp : ∀ i, i < n → f_X0_passCycle_p1_0 (sR S 2 (Fs i)) 2 = some (sR S 2 (Fs (i + 1)))) (hn : n ≤ 500) : ∀ (d j : Nat) (x2 : Int), j + d = n → ∃ v, (∀ f : Nat, d < f → f_X11_roomNeeded_p3_0_b44 0 f (sR S 2 (Fs j)) (n : Int) x2 (j : Int) = some (.inl v, sR S 2 (Fs n))) ∧ ∀ (T : xSt) (Ns : Nat → Nat → Int) (f : Nat), d < f → (∀ i, i < n → f_X12_cycles_p4_0 (wA T 13 6 (Ns i)) 13 = some (wA T 13 6 (Ns (i + 1)))) → (∀ i, i ≤ n → Ns i 6 = Fs i 0 14) → f_X12_roomNeeded_p4_0_b27 13 f (wA T 13 6 (Ns j)) (n : Int) x2 (j : Int) = (bd2 (f_X12_laysBack_p4_0 (wA T 13 6 (Ns n)) 13 v) fun a b => some (a, b)) := by
  intro d
  induction d with
  | zero =>
    intro j x2 hj
    have ej : j = n := by omega
    subst ej
    refine ⟨x2, fun f hf => ?_, fun T Ns f hf hN h6 => ?_⟩
    · obtain ⟨f, rfl⟩ := fs_e (show 0 < f by omega)
      rw [f_X11_roomNeeded_p3_0_b44, wr_e (by omega), if_pos (Int.le_refl _)]
    · obtain ⟨f, rfl⟩ := fs_e (show 0 < f by omega)
      rw [f_X12_roomNeeded_p4_0_b27, wr_e (by omega), if_pos (Int.le_refl _)]
  | succ d ih =>
    intro j x2 hj
    obtain ⟨v, i1, i2⟩ := ih (j + 1) (iMax x2 (Fs (j + 1) 0 14)) (by omega)
    rw [show ((j + 1 : Nat) : Int) = (j : Int) + 1 by omega] at i1 i2
    refine ⟨v, fun f hf => ?_, fun T Ns f hf hN h6 => ?_⟩
    · obtain ⟨f, rfl⟩ := fs_e (show 0 < f by omega)
      rw [f_X11_roomNeeded_p3_0_b44, wr_e (z := (n : Int)) (by omega), wr_e (z := (j : Int)) (by omega), if_neg (by omega), Nat.zero_add, hp j (by omega)]
      simp only [bd_e, sR_g]
      exact i1 f (by omega)
    · obtain ⟨f, rfl⟩ := fs_e (show 0 < f by omega)
      have k := i2 T Ns f (by omega) hN h6
      rw [f_X12_roomNeeded_p4_0_b27, wr_e (z := (n : Int)) (by omega), wr_e (z := (j : Int)) (by omega), if_neg (by omega), hN j (by omega)]
      simp only [bd_e, wN_g]
      rw [h6 (j + 1) (by omega)]
      unfold iMax at k
      by_cases c : wr (Fs (j + 1) 0 14) ≤ wr x2
      · rw [if_neg (by omega)] at k
        rw [if_pos c, k]
      · rw [if_pos (by omega)] at k
        rw [if_neg c, k]
theorem gf_6 {π F : xR} {N : Nat → Int} {B : Int} (h : GF π B F N) : N 6 = F 0 14 := by
  have := h.1.1.2.2.2.2.2.2.1
  omega
theorem k_roomNeeded (hI : INV m S) (hm5 : m < 512) (hi : wr i = i) : CALL m S (f_X11_roomNeeded_p3_0 S 0 i) (fun T => f_X12_roomNeeded_p4_0 T 13 i) (XR (KE 2)) := by
  have hi2 := wr_r hi
  obtain ⟨G, q, q2, r1, r2, hS, hq, hk, hG, hcx⟩ := t_ahead hI
  have hGF := hS.2.2.2.2.2.2.1
  have hR := hS.2.2.2.2.1
  have hM := hS.2.2.2.2.2.1
  have hF := hGF.1
  have hbb : BB m ≤ BB (m + 1) := by unfold BB; omega
  have hfu := hI.1
  have hBm : BB m ≤ 10000000 := by unfold BB; omega
  by_cases c : 1 ≤ i ∧ i ≤ 500
  · obtain ⟨n, hn⟩ : ∃ n : Nat, n = i.toNat := ⟨_, rfl⟩
    have hin : i = (n : Int) := by omega
    obtain ⟨Fs, f0, f1, f2⟩ := t_runU (S := wP S 2 0 0 (q, 0)) (T0 := sR S 13 (S.2.1 13)) (r := 2) (q := q) (π := S.2.1 q) (hcx S (S.2.1 13) hfu hM) hG (by omega) (n := n) (by omega)
    obtain ⟨v, t1, t2⟩ := t_room (S := wP S 2 0 0 (q, 0)) (fun j hj => (f1 j hj).1) (by omega) n 0 (G 0 14) (by omega)
    refine ⟨.inl v, sR (wP S 2 0 0 (q, 0)) 2 (Fs n), ?_, rfl, by rw [sR_n1 (by decide)]; rfl, fun T hT hμ => ?_⟩
    · unfold f_X11_roomNeeded_p3_0
      rw [hi, wr_e (z := 1) (by decide), wr_e (z := 500) (by decide), if_neg (show ¬ i < 1 by omega), if_pos c.2, Nat.zero_add, Nat.zero_add, r1]
      simp only [bd_e]
      rw [sR_g, sR_fu]
      have k := t1 (fu S) (by omega)
      rw [f0, ← hin] at k
      exact k
    have hT13 := sR_i hμ
    obtain ⟨g9, k1, k2⟩ := p_cop6_9 (T := T) (μ := uF (S.2.1 13) 0 0 (1 - 1)) hT
    rw [uF_6] at k2
    obtain ⟨Ns, n0, n1, n2⟩ := f2 (sR T 13 (uG (uF (S.2.1 13) 0 0 (1 - 1)) 9 g9)) _ (S.2.1 13 6) (hcx T _ hT (pm_9 hM)) hG
    obtain ⟨g6, w1, w2⟩ := m_back (T := T) (μ2 := uG (uF (S.2.1 13) 0 0 (1 - 1)) 9 g9) (N := Ns n) (v := v) hT
    refine ⟨_, _, q, q2, ?_, ⟨rfl, ?_⟩, sim_fore (z := 1 - 1) (g9 := g9) (g6 := g6) hS hbb (fun k hk => by rw [w2 k hk, uG_e, k2 k hk])⟩
    · show f_X12_roomNeeded_p4_0 T 13 i = _
      rw [hT13]
      unfold f_X12_roomNeeded_p4_0 f_X12_tries_p4_0
      rw [p_isCyc hi, if_pos c]
      simp only [bd2_e]
      rw [p_is (Or.inr rfl)]
      simp only [bd2_e]
      rw [if_pos (by decide), k1]
      simp only [bd_e]
      have k := t2 (sR T 13 (uG (uF (S.2.1 13) 0 0 (1 - 1)) 9 g9)) Ns (fu T) (by omega) n1 (fun j hj => gf_6 (n2 j hj))
      rw [n0, wN_k, ← hin, w1] at k
      rw [sR_g, uG_o (by decide), uF_o (by decide), gf_6 hG, sR_fu]
      have k' : f_X12_roomNeeded_p4_0_b27 13 (fu T) (sR T 13 (uG (uF (S.2.1 13) 0 0 (1 - 1)) 9 g9)) i (G 0 14) 0 = _ := k
      rw [k']
      simp only [bd2_e]
      rw [sR_s]
    · simp (disch := omega) only [uF_e, uF_o, uF_k, uG_e, uG_o, uN_e, uN_k, true_or, or_true]
      rfl
  · refine callR hI (v := .inr 2) (v' := 0) (z := 1 - 0) ?_ (fun T hT => ?_) ⟨uF_e.symm, Or.inl rfl⟩
    · unfold f_X11_roomNeeded_p3_0
      rw [hi, wr_e (z := 1) (by decide), wr_e (z := 500) (by decide)]
      by_cases c2 : i < 1
      · rw [if_pos c2]
      · rw [if_neg c2, if_neg (by omega)]
    · unfold f_X12_roomNeeded_p4_0
      rw [p_isCyc hi, if_neg c]
      simp only [bd2_e]
      rw [p_is (Or.inl rfl)]
      simp only [bd2_e]
      rw [if_neg (by decide)]
theorem c_cyTo {S : xSt} {Fs : Nat → xR} {x1 : Int} {n : Nat} (hp : ∀ i, i < 500 → f_X0_passCycle_p1_0 (sR S 2 (Fs i)) 2 = some (sR S 2 (Fs (i + 1)))) (hx : wr x1 = x1) (hd : ∀ i, i ≤ 500 → 0 ≤ Fs i 15 1 ∧ Fs i 15 1 ≤ 1000000000) (hn : n ≤ 500) (h1 : ∀ i, i < n → Fs i 15 1 < x1) (h2 : n = 500 ∨ x1 ≤ Fs n 15 1) : ∀ (d j f : Nat), j + d = n → d + 1 < f → 0 < d → f_X11_cyclesTo_p3_0_b51 0 f (sR S 2 (Fs j)) x1 ((j : Int) + 1) = some (.inl (if x1 ≤ Fs n 15 1 then (n : Int) else -1), sR S 2 (Fs n)) := by
  intro d
  induction d with
  | zero =>
    intro j f hj hf h0
    exact absurd h0 (by omega)
  | succ d ih =>
    intro j f hj hf _
    obtain ⟨f, rfl⟩ := fs_e (show 0 < f by omega)
    have h9 := hd (j + 1) (by omega)
    rw [f_X11_cyclesTo_p3_0_b51, wr_e (z := 500) (by decide), wr_e (z := (j : Int) + 1) (by omega), if_neg (by omega), Nat.zero_add, hp j (by omega)]
    simp only [bd_e, sR_g]
    rw [hx, wr_e (z := Fs (j + 1) 15 1) (by omega)]
    by_cases e : d = 0
    · have ej : j + 1 = n := by omega
      rw [ej]
      by_cases c : x1 ≤ Fs n 15 1
      · rw [if_neg (by omega), if_pos c]
        congr 3
        omega
      · rw [if_pos (by omega), if_neg c]
        obtain ⟨f, rfl⟩ := fs_e (show 0 < f by omega)
        rw [f_X11_cyclesTo_p3_0_b51, wr_e (z := 500) (by decide), wr_e (z := (j : Int) + 1 + 1) (by omega), if_pos (by omega)]
    · have h8 := h1 (j + 1) (by omega)
      rw [if_pos h8]
      have k := ih (j + 1) f (by omega) (by omega) (by omega)
      rw [show ((j + 1 : Nat) : Int) = (j : Int) + 1 by omega] at k
      exact k
theorem k_cyclesTo (hI : INV m S) (hm5 : m < 512) (hi : wr i = i) : CALL m S (f_X11_cyclesTo_p3_0 S 0 i) (fun T => f_X12_cyclesTo_p4_0 T 13 i) (XR (KE 2)) := by
  have hi2 := wr_r hi
  obtain ⟨G, q, q2, r1, r2, hS, hq, hk, hG, hcx⟩ := t_ahead hI
  have hGF := hS.2.2.2.2.2.2.1
  have hR := hS.2.2.2.2.1
  have hM := hS.2.2.2.2.2.1
  have hF := hGF.1
  have hbb : BB m ≤ BB (m + 1) := by unfold BB; omega
  have hfu := hI.1
  have hBm : BB m ≤ 10000000 := by unfold BB; omega
  by_cases c : 1 ≤ i ∧ i ≤ 999
  · have hd0 := gf_d hGF
    obtain ⟨Fs, f0, f1, f2⟩ := t_runU (S := wP S 2 0 0 (q, 0)) (T0 := sR S 13 (S.2.1 13)) (r := 2) (q := q) (π := S.2.1 q) (hcx S (S.2.1 13) hfu hM) hG (by omega) (n := 500) (by omega)
    obtain ⟨Ns0, -, -, n20⟩ := f2 (sR S 13 (S.2.1 13)) (S.2.1 13) (S.2.1 13 6) (hcx S (S.2.1 13) hfu hM) hG
    have hd : ∀ i, i ≤ 500 → 0 ≤ Fs i 15 1 ∧ Fs i 15 1 ≤ 1000000000 := fun i hi => by
      have := gf_d (n20 i hi)
      omega
    have hg0 : G 15 1 = S.2.1 1 15 1 := by
      have a := gf_17 hG
      have b := gf_17 hGF
      omega
    have hw : wr (S.2.1 1 15 1 + i) = S.2.1 1 15 1 + i := wr_e (by omega)
    obtain ⟨n, g1, -, g2, g3, g4⟩ := t_to (S := wP S 2 0 0 (q, 0)) (r := 2) (B := 0) (x1 := S.2.1 1 15 1 + i) (fun j hj => (f1 j hj).1) hw hd 500 0 (by omega)
    have hn0 : 0 < n := by
      rcases Nat.eq_zero_or_pos n with h | h
      · subst h
        rcases g3 with g3 | g3
        · exact absurd g3 (by decide)
        · rw [f0, hg0] at g3
          omega
      · exact h
    refine ⟨.inl (if S.2.1 1 15 1 + i ≤ Fs n 15 1 then (n : Int) else -1), sR (wP S 2 0 0 (q, 0)) 2 (Fs n), ?_, rfl, by rw [sR_n1 (by decide)]; rfl, fun T hT hμ => ?_⟩
    · unfold f_X11_cyclesTo_p3_0
      rw [hi, wr_e (z := 1) (by decide), wr_e (z := 999) (by decide), if_neg (show ¬ i < 1 by omega), if_pos c.2, Nat.zero_add, Nat.zero_add, r1]
      simp only [bd_e]
      rw [g_1, sR_fu]
      have k := c_cyTo (S := wP S 2 0 0 (q, 0)) (fun j hj => (f1 j hj).1) hw hd g1 (fun j hj => g2 j (Nat.zero_le _) hj) g3 n 0 (fu S) (by omega) (by omega) hn0
      rw [f0] at k
      exact k
    have hT13 := sR_i hμ
    obtain ⟨g9, k1, k2⟩ := p_cop6_9 (T := T) (μ := uF (S.2.1 13) 0 0 (1 - 1)) hT
    rw [uF_6] at k2
    obtain ⟨Ns, n0, n1, n2⟩ := f2 (sR T 13 (uG (uF (S.2.1 13) 0 0 (1 - 1)) 9 g9)) _ (S.2.1 13 6) (hcx T _ hT (pm_9 hM)) hG
    obtain ⟨g6, w1, w2⟩ := m_back (T := T) (μ2 := uG (uF (S.2.1 13) 0 0 (1 - 1)) 9 g9) (N := Ns n) (v := if S.2.1 1 15 1 + i ≤ Fs n 15 1 then (n : Int) else -1) hT
    refine ⟨_, _, q, q2, ?_, ⟨rfl, ?_⟩, sim_fore (z := 1 - 1) (g9 := g9) (g6 := g6) hS hbb (fun k hk => by rw [w2 k hk, uG_e, k2 k hk])⟩
    · show f_X12_cyclesTo_p4_0 T 13 i = _
      rw [hT13]
      unfold f_X12_cyclesTo_p4_0 f_X12_tries_p4_0 f_X12_runsTo_p4_0
      rw [hi, p_isIn hi2 (by decide) (by decide), if_pos c]
      simp only [bd2_e]
      rw [p_is (Or.inr rfl)]
      simp only [bd2_e]
      rw [if_pos (by decide), k1]
      simp only [bd_e]
      have k := g4 (sR T 13 (uG (uF (S.2.1 13) 0 0 (1 - 1)) 9 g9)) Ns (fu T) (by omega) n1 (fun j hj => gf_17 (n2 j hj))
      rw [n0, wN_k] at k
      rw [sR_g, uG_o (by decide), uF_o (by decide), gf_17 hGF, sR_fu]
      have k' : f_X12_runsTo_p4_0_b2 13 (fu T) (sR T 13 (uG (uF (S.2.1 13) 0 0 (1 - 1)) 9 g9)) (S.2.1 1 15 1 + i) 0 = _ := k
      have h9 := hd n g1
      rw [k']
      simp only [bd2_e, wN_g]
      rw [gf_17 (n2 n g1), hw, wr_e (z := Fs n 15 1) (by omega)]
      by_cases c9 : S.2.1 1 15 1 + i ≤ Fs n 15 1
      · rw [if_pos c9] at w1
        rw [if_neg (by omega), w1, if_pos c9]
        simp only [bd2_e]
        rw [sR_s]
      · rw [if_neg c9] at w1
        rw [if_pos (by omega), w1, if_neg c9]
        simp only [bd2_e]
        rw [sR_s]
    · simp (disch := omega) only [uF_e, uF_o, uF_k, uG_e, uG_o, uN_e, uN_k, true_or, or_true]
      rfl
  · refine callR hI (v := .inr 2) (v' := 0) (z := 1 - 0) ?_ (fun T hT => ?_) ⟨uF_e.symm, Or.inl rfl⟩
    · unfold f_X11_cyclesTo_p3_0
      rw [hi, wr_e (z := 1) (by decide), wr_e (z := 999) (by decide)]
      by_cases c2 : i < 1
      · rw [if_pos c2]
      · rw [if_neg c2, if_neg (by omega)]
    · unfold f_X12_cyclesTo_p4_0
      rw [hi, p_isIn hi2 (by decide) (by decide), if_neg c]
      simp only [bd2_e]
      rw [p_is (Or.inl rfl)]
      simp only [bd2_e]
      rw [if_neg (by decide)]
end F1
