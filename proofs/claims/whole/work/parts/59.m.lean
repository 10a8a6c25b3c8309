/-! mathematics: the changes that can be undone -/
theorem p_done52 {T : xSt} {μ : xR} {v : Int} {h : Nat} (hh : μ 0 16 = (h : Int)) (h5 : h ≤ 5) : ∀ (d : Nat) (x : Int) (n : Nat) (g : Nat → Int), 0 ≤ x → x + d = 363 → d < n → (∀ k : Nat, (k : Int) < x → g (363 * h + k) = μ 8 k) →
    ∃ g', f_X12_done_p4_0_b52 13 n (sR T 13 (uG μ 11 g)) v x = some (v, sR T 13 (uF (uG μ 11 g') 0 16 ((h : Int) + 1))) ∧ (∀ k : Nat, k < 363 → g' (363 * h + k) = μ 8 k) ∧ ∀ j : Nat, j < 363 * h → g' j = g j := by
  intro d
  induction d with
  | zero =>
    intro x n g hx hd hn hg
    obtain ⟨n, rfl⟩ := fs_e (show 0 < n by omega)
    refine ⟨g, ?_, fun k hk => hg k (by omega), fun j _ => rfl⟩
    rw [f_X12_done_p4_0_b52, wr_e (z := 363) (by decide), wr_e (z := x) (by omega), if_pos (by omega), sR_w, lt1_e, sR_g, uG_o (by decide), hh]
  | succ d ih =>
    intro x n g hx hd hn hg
    obtain ⟨n, rfl⟩ := fs_e (show 0 < n by omega)
    rw [f_X12_done_p4_0_b52, wr_e (z := 363) (by decide), wr_e (z := x) (by omega), if_neg (by omega), sR_g, uG_o (by decide), hh, ckI_e (by omega), ckI_e (by omega), wr_e (by omega), sR_g, uG_o (by decide), sR_w, lt1_e, uF_G, uG_f, uG_G]
    obtain ⟨g', i1, i2, i3⟩ := ih (x + 1) n (uN g ((363 * (h : Int)) + x).toNat (μ 8 x.toNat)) (by omega) (by omega) (by omega) (fun k hk => by
      by_cases c : k = x.toNat
      · subst c
        rw [show ((363 * (h : Int)) + x).toNat = 363 * h + x.toNat by omega, uN_e]
      · rw [uN_k (by omega)]
        exact hg k (by omega))
    exact ⟨g', i1, i2, fun j hj => by rw [i3 j hj, uN_k (by omega)]⟩
theorem p_done11 {T : xSt} {μ : xR} {v : Int} (hT : 10000000 ≤ fu T) (hh : μ 0 16 = 6) : ∀ (d : Nat) (x : Int) (n : Nat) (g : Nat → Int), 0 ≤ x → x + d = 1815 → d < n → (∀ j : Nat, (j : Int) < x → g j = μ 11 (j + 363)) → (∀ j : Nat, x ≤ (j : Int) → g j = μ 11 j) →
    ∃ g', f_X12_done_p4_0_b11 13 n (sR T 13 (uG μ 11 g)) v x = some (v, sR T 13 (uF (uG μ 11 g') 0 16 6)) ∧ (∀ k : Nat, k < 363 → g' (363 * 5 + k) = μ 8 k) ∧ ∀ j : Nat, j < 363 * 5 → g' j = μ 11 (j + 363) := by
  intro d
  induction d with
  | zero =>
    intro x n g hx hd hn hg hg2
    obtain ⟨n, rfl⟩ := fs_e (show 0 < n by omega)
    rw [f_X12_done_p4_0_b11, wr_e (z := 1815) (by decide), wr_e (z := x) (by omega), if_pos (by omega), sR_w, lt1_e, sR_g, uG_o (by decide), hh]
    have e5 : uF (uG μ 11 g) 0 16 (6 - 1) = uG (uF μ 0 16 5) 11 g := by
      funext o' k'
      by_cases c : o' = 11
      · subst c
        rw [uF_o (by decide), uG_e, uG_e]
      · rw [uG_o c]
        by_cases c2 : o' = 0 ∧ k' = 16
        · obtain ⟨rfl, rfl⟩ := c2
          rw [uF_e, uF_e]
          rfl
        · show (if o' = 0 ∧ k' = 16 then (6 - 1 : Int) else uG μ 11 g o' k') = if o' = 0 ∧ k' = 16 then 5 else μ o' k'
          rw [if_neg c2, if_neg c2, uG_o c]
    rw [e5, sR_fu]
    obtain ⟨g', i1, i2, i3⟩ := p_done52 (T := T) (μ := uF μ 0 16 5) (v := v) (h := 5) uF_e (by decide) 363 0 (fu T) g (by decide) (by decide) (by omega) (fun k hk => absurd hk (by omega))
    refine ⟨g', ?_, fun k hk => by rw [i2 k hk, uF_o (by decide)], fun j hj => by rw [i3 j hj, hg j (by omega)]⟩
    rw [i1]
    congr 3
    funext o' k'
    show (if o' = 0 ∧ k' = 16 then (((5 : Nat) : Int) + 1) else uG (uF μ 0 16 5) 11 g' o' k') = if o' = 0 ∧ k' = 16 then 6 else uG μ 11 g' o' k'
    by_cases c2 : o' = 0 ∧ k' = 16
    · rw [if_pos c2, if_pos c2]
      rfl
    · rw [if_neg c2, if_neg c2]
      by_cases c : o' = 11
      · subst c
        rw [uG_e, uG_e]
      · rw [uG_o c, uG_o c]
        exact if_neg c2
  | succ d ih =>
    intro x n g hx hd hn hg hg2
    obtain ⟨n, rfl⟩ := fs_e (show 0 < n by omega)
    rw [f_X12_done_p4_0_b11, wr_e (z := 1815) (by decide), wr_e (z := x) (by omega), if_neg (by omega), ckI_e (by omega), ckI_e (by omega), wr_e (z := x + 363) (by omega), sR_g, uG_e, hg2 _ (by omega), sR_w, lt1_e, uF_G, uG_f, uG_G]
    refine ih (x + 1) n _ (by omega) (by omega) (by omega) ?_ ?_
    · intro j hj
      by_cases c : j = x.toNat
      · subst c
        rw [uN_e, show (x + 363).toNat = x.toNat + 363 by omega]
      · rw [uN_k c]
        exact hg j (by omega)
    · intro j hj
      rw [uN_k (by omega)]
      exact hg2 j (by omega)
theorem p_done {T : xSt} {μ : xR} {v : Int} (hT : 10000000 ≤ fu T) (hh : 0 ≤ μ 0 16 ∧ μ 0 16 ≤ 6) : ∃ g', f_X12_done_p4_0 (sR T 13 μ) 13 v = some (v, sR T 13 (uF (uG μ 11 g') 0 16 (if μ 0 16 = 6 then 6 else μ 0 16 + 1))) ∧ (μ 0 16 = 6 → (∀ k : Nat, k < 363 → g' (363 * 5 + k) = μ 8 k) ∧ ∀ j : Nat, j < 363 * 5 → g' j = μ 11 (j + 363)) ∧ (μ 0 16 < 6 → (∀ k : Nat, k < 363 → g' (363 * (μ 0 16).toNat + k) = μ 8 k) ∧ ∀ j : Nat, j < 363 * (μ 0 16).toNat → g' j = μ 11 j) := by
  unfold f_X12_done_p4_0
  rw [sR_g, wr_e (by omega), wr_e (z := 6) (by decide), sR_fu]
  by_cases c : μ 0 16 = 6
  · rw [if_neg (fun h => h c), if_pos c]
    obtain ⟨g', i1, i2, i3⟩ := p_done11 (T := T) (μ := μ) (v := v) hT c 1815 0 (fu T) (μ 11) (by decide) (by decide) (by omega) (fun j hj => absurd hj (by omega)) (fun j _ => rfl)
    rw [uG_i] at i1
    exact ⟨g', i1, fun _ => ⟨i2, i3⟩, fun h => absurd h (by omega)⟩
  · rw [if_pos c, if_neg c]
    obtain ⟨g', i1, i2, i3⟩ := p_done52 (T := T) (μ := μ) (v := v) (h := (μ 0 16).toNat) (by omega) (by omega) 363 0 (fu T) (μ 11) (by decide) (by decide) (by omega) (fun k hk => absurd hk (by omega))
    rw [uG_i, show (((μ 0 16).toNat : Nat) : Int) = μ 0 16 by omega] at i1
    exact ⟨g', i1, fun h => absurd h c, fun _ => ⟨i2, i3⟩⟩
theorem tm6 {d : Int} (h : 0 ≤ d) : Int.tmod d 6 = d % 6 := Int.tmod_eq_emod_of_nonneg h
theorem gf_sl {π : xR} {B : Int} {F : xR} {N N' : Nat → Int} (hR : PR π) (hN : ∀ k, k < 363 → N' k = N k) (h : GF π B F N) : GF π B F N' := gf_ext hR hN h
/-- the class remembers; the reference lays aside, changes, and files what lay aside -/
theorem t_rem {m : Nat} {S : xSt} (hI : INV m S) : ∃ S1 q q2, f_X1_remember_p3_8_1_0 S 0 1 = some S1 ∧ S1.1 = S.1 ∧ S1.2.1 1 = S.2.1 1 ∧ S1.2.1 13 = S.2.1 13 ∧ S1.2.1 q = S.2.1 q ∧ gP S1 1 0 0 = (q, 0) ∧ gP S1 0 0 4 = (q, 0) ∧ (q = 11 ∨ q = 12) ∧ gk S q = 2 ∧ SIM (BB m) q q2 S.2.2 S.2.1 (S.2.1 13) ∧
    ∀ (T : xSt) (F' : xR) (N' g8 : Nat → Int) (v z : Int), 10000000 ≤ fu T → GF (S.2.1 q) (BB (m + 1)) F' N' → (∀ k, k < 363 → g8 k = S.2.1 13 6 k) → ∃ μ', f_X12_done_p4_0 (sR T 13 (uG (uG (uF (S.2.1 13) 0 0 z) 8 g8) 6 N')) 13 v = some (v, sR T 13 μ') ∧ μ' 0 0 = z ∧ SIM (BB (m + 1)) q q2 (sR S1 1 F').2.2 (sR S1 1 F').2.1 μ' := by
  obtain ⟨q, q2, hS, hk, hq, hcx⟩ := inv_cx hI
  obtain ⟨h1, h2, h3, h4, h5, h6, h7, h8, h9, h10⟩ := hS
  obtain ⟨d1, d2, d3, d4⟩ := id h8
  obtain ⟨idx, hidx⟩ : ∃ idx : Nat, idx = ((S.2.1 0 8 1).toNat + (S.2.1 13 0 16).toNat) % 6 := ⟨_, rfl⟩
  have hi6 : idx < 6 := by omega
  obtain ⟨G, c1, c2⟩ := p_copy (S := S) (r0 := 4 + idx) (r1 := 1) (by omega) (show gP S 1 0 0 = (q, 0) from h4) hk h7
  obtain ⟨X', hX'⟩ : ∃ X' : xR, X' = if S.2.1 13 0 16 = 6 then uF (S.2.1 0) 8 1 ((S.2.1 0 8 1 + 1) % 6) else uF (S.2.1 0) 8 2 (S.2.1 13 0 16 + 1) := ⟨_, rfl⟩
  have hX0 : ∀ o k, o ≠ 8 → X' o k = S.2.1 0 o k := by
    intro o k ho
    rw [hX']
    split
    · exact uF_o ho
    · exact uF_o ho
  have hbb : BB m ≤ BB (m + 1) := by unfold BB; omega
  refine ⟨sR (sR (wP S (4 + idx) 0 0 (q, 0)) (4 + idx) G) 0 X', q, q2, ?_, rfl, ?_, ?_, ?_, ?_, ?_, hq, hk, ⟨h1, h2, h3, h4, h5, h6, h7, h8, h9, h10⟩, ?_⟩
  · unfold f_X1_remember_p3_8_1_0
    have e1 : gI S 0 8 1 = S.2.1 0 8 1 := rfl
    have e2 : gI S 0 8 2 = S.2.1 13 0 16 := d1
    have et : Int.tmod (S.2.1 0 8 1 + S.2.1 13 0 16) 6 = (idx : Int) := by
      rw [tm6 (by omega), hidx]
      omega
    rw [e1, e2, wr_e (z := S.2.1 0 8 1 + S.2.1 13 0 16) (by omega), wr_e (z := 6) (by decide), et, wr_e (z := (idx : Int)) (by omega), if_neg (by omega), if_pos (by omega), ckI_e (by omega), show 0 + (4 + ((idx : Nat) : Int).toNat) = 4 + idx by omega, c1]
    simp only [bd_e]
    have g0 : ∀ k, gI (sR (wP S (4 + idx) 0 0 (q, 0)) (4 + idx) G) 0 8 k = S.2.1 0 8 k := fun k => by
      rw [sR_n (by omega)]
      rfl
    have e3 : wI (sR (wP S (4 + idx) 0 0 (q, 0)) (4 + idx) G) 0 8 1 ((S.2.1 0 8 1 + 1) % 6) = sR (sR (wP S (4 + idx) 0 0 (q, 0)) (4 + idx) G) 0 (uF (S.2.1 0) 8 1 ((S.2.1 0 8 1 + 1) % 6)) := by
      have k := sR_w (S := sR (wP S (4 + idx) 0 0 (q, 0)) (4 + idx) G) (r := 0) (o := 8) (k := 1) (F := (sR (wP S (4 + idx) 0 0 (q, 0)) (4 + idx) G).2.1 0) (z := (S.2.1 0 8 1 + 1) % 6)
      rw [sR_e, sR_n1 (by omega)] at k
      exact k
    have e4 : wI (sR (wP S (4 + idx) 0 0 (q, 0)) (4 + idx) G) 0 8 2 (S.2.1 13 0 16 + 1) = sR (sR (wP S (4 + idx) 0 0 (q, 0)) (4 + idx) G) 0 (uF (S.2.1 0) 8 2 (S.2.1 13 0 16 + 1)) := by
      have k := sR_w (S := sR (wP S (4 + idx) 0 0 (q, 0)) (4 + idx) G) (r := 0) (o := 8) (k := 2) (F := (sR (wP S (4 + idx) 0 0 (q, 0)) (4 + idx) G).2.1 0) (z := S.2.1 13 0 16 + 1)
      rw [sR_e, sR_n1 (by omega)] at k
      exact k
    rw [g0, d1, wr_e (z := S.2.1 13 0 16) (by omega), g0, wr_e (z := S.2.1 0 8 1 + 1) (by omega), tm6 (by omega), lt1_e, lt1_e, e3, e4, hX']
    by_cases c : S.2.1 13 0 16 = 6
    · rw [if_pos (by omega), if_pos c]
    · rw [if_neg (by omega), if_neg c]
  · rw [sR_n1 (by decide), sR_n1 (by omega)]
    rfl
  · rw [sR_n1 (by decide), sR_n1 (by omega)]
    rfl
  · rw [sR_n1 (by omega), sR_n1 (by omega)]
    rfl
  · show uP S.2.2 (4 + idx) 0 0 (q, 0) 1 0 0 = (q, 0)
    unfold uP
    rw [if_neg (by omega)]
    exact h4
  · show uP S.2.2 (4 + idx) 0 0 (q, 0) 0 0 4 = (q, 0)
    unfold uP
    rw [if_neg (by omega)]
    exact h2
  · intro T F' N' g8 v z hT hGF hg8
    obtain ⟨g', j1, j2, j3⟩ := p_done (T := T) (μ := uG (uG (uF (S.2.1 13) 0 0 z) 8 g8) 6 N') (v := v) hT (by simp (disch := omega) only [uF_e, uF_o, uF_k, uG_e, uG_o, uN_e, uN_k, true_or, or_true]; exact d2)
    have e16 : (uG (uG (uF (S.2.1 13) 0 0 z) 8 g8) 6 N') 0 16 = S.2.1 13 0 16 := by simp (disch := omega) only [uF_e, uF_o, uF_k, uG_e, uG_o, uN_e, uN_k, true_or, or_true]
    have e8 : (uG (uG (uF (S.2.1 13) 0 0 z) 8 g8) 6 N') 8 = g8 := by
      funext k
      simp (disch := omega) only [uF_e, uF_o, uF_k, uG_e, uG_o, uN_e, uN_k, true_or, or_true]
    have e11 : (uG (uG (uF (S.2.1 13) 0 0 z) 8 g8) 6 N') 11 = S.2.1 13 11 := by
      funext k
      simp (disch := omega) only [uF_e, uF_o, uF_k, uG_e, uG_o, uN_e, uN_k, true_or, or_true]
    rw [e16, e8, e11] at j2 j3
    rw [e16] at j1
    refine ⟨_, j1, by simp (disch := omega) only [uF_e, uF_o, uF_k, uG_e, uG_o, uN_e, uN_k, true_or, or_true], ?_⟩
    have hP : ∀ a b c : Nat, a ≠ 4 + idx → (sR (sR (sR (wP S (4 + idx) 0 0 (q, 0)) (4 + idx) G) 0 X') 1 F').2.2 a b c = S.2.2 a b c := by
      intro a b c ha
      show uP S.2.2 (4 + idx) 0 0 (q, 0) a b c = _
      unfold uP
      rw [if_neg (by omega)]
    have hPi : (sR (sR (sR (wP S (4 + idx) 0 0 (q, 0)) (4 + idx) G) 0 X') 1 F').2.2 (4 + idx) 0 0 = (q, 0) := by
      show uP S.2.2 (4 + idx) 0 0 (q, 0) (4 + idx) 0 0 = _
      unfold uP
      rw [if_pos ⟨rfl, rfl, rfl⟩]
    have hC0 : (sR (sR (sR (wP S (4 + idx) 0 0 (q, 0)) (4 + idx) G) 0 X') 1 F').2.1 0 = X' := by rw [sR_n1 (by decide), sR_g1]
    have hC1 : (sR (sR (sR (wP S (4 + idx) 0 0 (q, 0)) (4 + idx) G) 0 X') 1 F').2.1 1 = F' := by rw [sR_g1]
    have hCi : (sR (sR (sR (wP S (4 + idx) 0 0 (q, 0)) (4 + idx) G) 0 X') 1 F').2.1 (4 + idx) = G := by rw [sR_n1 (by omega), sR_n1 (by omega), sR_g1]
    have hCr : ∀ r, r ≠ 0 → r ≠ 1 → r ≠ 4 + idx → (sR (sR (sR (wP S (4 + idx) 0 0 (q, 0)) (4 + idx) G) 0 X') 1 F').2.1 r = S.2.1 r := by
      intro r r0 r1 r2
      rw [sR_n1 r1, sR_n1 r0, sR_n1 r2]
      rfl
    generalize (sR (sR (sR (wP S (4 + idx) 0 0 (q, 0)) (4 + idx) G) 0 X') 1 F').2.2 = P' at hP hPi ⊢
    generalize (sR (sR (sR (wP S (4 + idx) 0 0 (q, 0)) (4 + idx) G) 0 X') 1 F').2.1 = C' at hC0 hC1 hCi hCr ⊢
    have hCq : C' q = S.2.1 q := hCr q (by omega) (by omega) (by omega)
    refine ⟨h1, by rw [hP _ _ _ (by omega)]; exact h2, by rw [hP _ _ _ (by omega)]; exact h3, by rw [hP _ _ _ (by omega)]; exact h4, by rw [hCq]; exact h5, ?_, ?_, ?_, ?_, ?_⟩
    · rw [hCq]
      unfold PM at h6 ⊢
      simp (disch := omega) only [uF_e, uF_o, uF_k, uG_e, uG_o, uN_e, uN_k, true_or, or_true]
      exact h6
    · rw [hCq, hC1]
      have e6 : (uF (uG (uG (uG (uF (S.2.1 13) 0 0 z) 8 g8) 6 N') 11 g') 0 16 (if S.2.1 13 0 16 = 6 then 6 else S.2.1 13 0 16 + 1)) 6 = N' := by
        funext k
        simp (disch := omega) only [uF_e, uF_o, uF_k, uG_e, uG_o, uN_e, uN_k, true_or, or_true]
      rw [e6]
      exact hGF
    · have eg : (uF (uG (uG (uG (uF (S.2.1 13) 0 0 z) 8 g8) 6 N') 11 g') 0 16 (if S.2.1 13 0 16 = 6 then 6 else S.2.1 13 0 16 + 1)) 11 = g' := by
        funext k
        simp (disch := omega) only [uF_e, uF_o, uF_k, uG_e, uG_o, uN_e, uN_k, true_or, or_true]
      have hG : GF (S.2.1 q) (BB (m + 1)) G (S.2.1 13 6) := gf_mono (gf_ag h5 c2 h7) hbb
      unfold SHI
      rw [uF_e, eg, hC0, hCq]
      by_cases c : S.2.1 13 0 16 = 6
      · obtain ⟨y1, y2⟩ := j2 c
        have x82 : X' 8 2 = 6 := by
          rw [hX', if_pos c, uF_k (by decide), d1, c]
        have x81 : X' 8 1 = (S.2.1 0 8 1 + 1) % 6 := by
          rw [hX', if_pos c, uF_e]
        rw [if_pos c, x82, x81]
        refine ⟨rfl, by decide, by omega, fun i hi => ?_⟩
        by_cases ci : i = 5
        · subst ci
          have er : 4 + (((S.2.1 0 8 1 + 1) % 6).toNat + 5) % 6 = 4 + idx := by omega
          rw [er, hCi, hPi]
          exact ⟨rfl, gf_sl h5 (fun k hk => by rw [y1 k hk, hg8 k hk]) hG⟩
        · have er : 4 + (((S.2.1 0 8 1 + 1) % 6).toNat + i) % 6 = 4 + ((S.2.1 0 8 1).toNat + (i + 1)) % 6 := by omega
          obtain ⟨z1, z2⟩ := d4 (i + 1) (by omega)
          rw [er, hCr _ (by omega) (by omega) (by omega), hP _ _ _ (by omega)]
          refine ⟨z1, gf_sl h5 (fun k hk => ?_) (gf_mono z2 hbb)⟩
          rw [y2 _ (by omega), show 363 * i + k + 363 = 363 * (i + 1) + k by omega]
      · obtain ⟨y1, y2⟩ := j3 (by omega)
        have x82 : X' 8 2 = S.2.1 13 0 16 + 1 := by
          rw [hX', if_neg c, uF_e]
        have x81 : X' 8 1 = S.2.1 0 8 1 := by
          rw [hX', if_neg c, uF_k (by decide)]
        rw [if_neg c, x82, x81]
        refine ⟨rfl, by omega, d3, fun i hi => ?_⟩
        by_cases ci : i = (S.2.1 13 0 16).toNat
        · subst ci
          have er : 4 + ((S.2.1 0 8 1).toNat + (S.2.1 13 0 16).toNat) % 6 = 4 + idx := by omega
          rw [er, hCi, hPi]
          exact ⟨rfl, gf_sl h5 (fun k hk => by rw [y1 k hk, hg8 k hk]) hG⟩
        · obtain ⟨z1, z2⟩ := d4 i (by omega)
          rw [hCr _ (by omega) (by omega) (by omega), hP _ _ _ (by omega)]
          exact ⟨z1, gf_sl h5 (fun k hk => y2 _ (by omega)) (gf_mono z2 hbb)⟩
    · have e10 : (uF (uG (uG (uG (uF (S.2.1 13) 0 0 z) 8 g8) 6 N') 11 g') 0 16 (if S.2.1 13 0 16 = 6 then 6 else S.2.1 13 0 16 + 1)) 10 = S.2.1 13 10 := by
        funext k
        simp (disch := omega) only [uF_e, uF_o, uF_k, uG_e, uG_o, uN_e, uN_k, true_or, or_true]
      have h9' := ssa_mono h9 hbb
      unfold SSA at h9' ⊢
      rw [e10, hC0, hCq, hX0 _ _ (by decide), hCr 3 (by decide) (by decide) (by omega), hP 3 _ _ (by omega)]
      simp (disch := omega) only [uF_e, uF_o, uF_k, uG_e, uG_o, uN_e, uN_k, true_or, or_true]
      exact h9'
    · rw [hC0]
      unfold SIO at h10 ⊢
      simp (disch := omega) only [uF_e, uF_o, uF_k, uG_e, uG_o, uN_e, uN_k, true_or, or_true, hX0]
      exact h10
