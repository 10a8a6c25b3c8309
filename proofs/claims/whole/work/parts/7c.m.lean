/-! mathematics: copies of a repeat's body; statements but repeats -/
/-- rows lo to lo + 3, from s0 to m, repeat what stands w ahead -/
def CPY (lo : Nat) (Y0 Y : xR) (s0 m w : Nat) : Prop := (∀ o k : Nat, ¬ (lo ≤ o ∧ o ≤ lo + 3) → ¬ (o = 0 ∧ ((k = 10 ∧ lo = 5) ∨ (k = 31 ∧ lo = 14))) → Y o k = Y0 o k) ∧ (∀ o k : Nat, lo ≤ o → o ≤ lo + 3 → k < s0 → Y o k = Y0 o k) ∧ ∀ o k : Nat, lo ≤ o → o ≤ lo + 3 → s0 ≤ k → k < m → Y o k = Y o (k - w)
section CP
variable {S T : xSt} {q s s0 m w sz a : Nat} {n x p e t v : Int} {b : Nat → Int} {X X' Y Y0 Y' μ μ0 μ1 μ2 μ' : xR}
theorem cpy_r (h : m ≤ s0) {lo : Nat} : CPY lo Y Y s0 m w := ⟨fun o k _ _ => rfl, fun o k _ _ _ => rfl, fun o k _ _ h1 h2 => absurd h1 (by omega)⟩
theorem cpy_a (h : CPY 5 Y0 Y s0 m w) (hm : Y 0 10 = (m : Int)) (h0 : s0 ≤ m) (hw : 1 ≤ w ∧ w ≤ s0) {a1 a2 a3 a4 : Int} (h1 : a1 = Y 5 (m - w)) (h2 : a2 = Y 6 (m - w)) (h3 : a3 = Y 7 (m - w)) (h4 : a4 = Y 8 (m - w)) : CPY 5 Y0 (APP Y a1 a2 a3 a4) s0 (m + 1) w ∧ (APP Y a1 a2 a3 a4) 0 10 = ((m + 1 : Nat) : Int) ∧ (∀ o k : Nat, 5 ≤ o → o ≤ 8 → k ≠ m → (APP Y a1 a2 a3 a4) o k = Y o k) ∧ ∀ o : Nat, 5 ≤ o → o ≤ 8 → (APP Y a1 a2 a3 a4) o m = Y o (m - w) := by
  obtain ⟨i1, i2, i3⟩ := h
  have es : (Y 0 10).toNat = m := by omega
  have hk : ∀ o k : Nat, 5 ≤ o → o ≤ 8 → k ≠ m → (APP Y a1 a2 a3 a4) o k = Y o k := fun o k b1 b2 b3 => by
    unfold APP
    rw [es]
    simp (disch := omega) only [uF_e, uF_n]
  have hmm : ∀ o : Nat, 5 ≤ o → o ≤ 8 → (APP Y a1 a2 a3 a4) o m = Y o (m - w) := fun o b1 b2 => by
    unfold APP
    rw [es]
    have ho : o = 5 ∨ o = 6 ∨ o = 7 ∨ o = 8 := by omega
    rcases ho with rfl | rfl | rfl | rfl
    · simp (disch := omega) only [uF_e, uF_n]
      exact h1
    · simp (disch := omega) only [uF_e, uF_n]
      exact h2
    · simp (disch := omega) only [uF_e, uF_n]
      exact h3
    · simp (disch := omega) only [uF_e, uF_n]
      exact h4
  refine ⟨⟨fun o k b1 b2 => ?_, fun o k b1 b2 b3 => ?_, fun o k b1 b2 b3 b4 => ?_⟩, ?_, hk, hmm⟩
  · unfold APP
    simp (disch := omega) only [uF_e, uF_n]
    exact i1 o k b1 b2
  · rw [hk o k b1 b2 (by omega)]
    exact i2 o k b1 b2 b3
  · by_cases c : k = m
    · subst c
      rw [hmm o b1 b2, hk o (k - w) b1 b2 (by omega)]
    · rw [hk o k b1 b2 c, hk o (k - w) b1 b2 (by omega)]
      exact i3 o k b1 b2 b3 (by omega)
  · unfold APP
    rw [uF_e]
    omega
theorem c_rep21 (hS : W2 q S) (c8 : xSt → Int → Int → Int → Int → Option xSt) {x2 x4 : Int} (hw : 1 ≤ w) (hs0 : s0 = sz + w) (ha : s0 ≤ a ∧ a + w ≤ 60) : ∀ (d r f : Nat) (Y : xR), r + d = w → d < f → CPY 5 Y0 Y s0 (a + r) w → Y 0 10 = ((a + r : Nat) : Int) → (∀ k : Nat, k < s0 → Y 6 k = 0 ∨ Y 6 k = 1) → (∀ o u : Nat, 5 ≤ o → o ≤ 8 → u < w → Y o (a - w + u) = Y o (sz + u)) → (∀ o u : Nat, 5 ≤ o → o ≤ 8 → u < r → Y o (a + u) = Y o (sz + u)) → ∃ Y', f_X5_repeatFrom_p2_0_b21 c8 q f (cs S q X Y) (sz : Int) x2 (s0 : Int) x4 ((sz + r : Nat) : Int) = c8 (cs S q X Y') (sz : Int) x2 (s0 : Int) (x4 + 1) ∧ CPY 5 Y0 Y' s0 (a + w) w ∧ Y' 0 10 = ((a + w : Nat) : Int) ∧ (∀ o u : Nat, 5 ≤ o → o ≤ 8 → u < w → Y' o (a + u) = Y' o (sz + u)) ∧ (∀ k : Nat, k < s0 → Y' 6 k = 0 ∨ Y' 6 k = 1) := by
  intro d
  induction d with
  | zero =>
    intro r f Y hr hf hC hm hB h2 h3
    obtain ⟨f, rfl⟩ := fs_e (show 0 < f by omega)
    have er : r = w := by omega
    subst er
    refine ⟨Y, ?_, hC, hm, h3, hB⟩
    rw [f_X5_repeatFrom_p2_0_b21, ← hs0, if_pos (Int.le_refl _)]
  | succ d ih =>
    intro r f Y hr hf hC hm hB h2 h3
    obtain ⟨f, rfl⟩ := fs_e (show 0 < f by omega)
    have ei : ((sz + r : Nat) : Int).toNat = sz + r := by omega
    have e1 : ∀ o : Nat, 5 ≤ o → o ≤ 8 → Y o (sz + r) = Y o (a + r - w) := fun o b1 b2 => by
      rw [← h2 o r b1 b2 (by omega), show a - w + r = a + r - w by omega]
    obtain ⟨k1, k2, k3, k4⟩ := cpy_a hC hm (by omega) ⟨hw, by omega⟩ (e1 5 (by decide) (by decide)) (e1 6 (by decide) (by decide)) (e1 7 (by decide) (by decide)) (e1 8 (by decide) (by decide))
    obtain ⟨Y', j1, j2⟩ := ih (r + 1) f (APP Y (Y 5 (sz + r)) (Y 6 (sz + r)) (Y 7 (sz + r)) (Y 8 (sz + r))) (by omega) (by omega) k1 k2 (fun k hk => by
      rw [k3 6 k (by decide) (by decide) (by omega)]
      exact hB k hk) (fun o u b1 b2 b3 => by
      rw [k3 o _ b1 b2 (by omega), k3 o _ b1 b2 (by omega)]
      exact h2 o u b1 b2 b3) (fun o u b1 b2 b3 => by
      by_cases c : u = r
      · subst c
        rw [k4 o b1 b2, k3 o _ b1 b2 (by omega), e1 o b1 b2]
      · rw [k3 o _ b1 b2 (by omega), k3 o _ b1 b2 (by omega)]
        exact h3 o u b1 b2 (by omega))
    refine ⟨Y', ?_, j2⟩
    rw [f_X5_repeatFrom_p2_0_b21, wr_e (z := (s0 : Int)) (by omega), wr_e (z := ((sz + r : Nat) : Int)) (by omega), if_neg (by omega), ckI_e (by omega), ckI_e (by omega), ckI_e (by omega), ckI_e (by omega), cs_y hS, cs_y hS, cs_y hS, cs_y hS, ei, c_append hS hm (by omega) (hB (sz + r) (by omega)), bd_e, show ((sz + r : Nat) : Int) + 1 = ((sz + (r + 1) : Nat) : Int) by omega]
    exact j1
def HD (a b c : Int) (e : Nat) : Prop := a + b * c = (e : Int)
theorem hd_e {a b c : Int} {e : Nat} (h : HD a b c e) : a + b * c = (e : Int) := h
theorem iMx {z : Int} (h : 0 ≤ z ∧ z ≤ 1000) : iMax z 0 = z := by
  unfold iMax
  rw [wr_e (z := z) (by omega), wr_e (z := 0) (by decide), if_neg (by omega)]
theorem c_rep8 {g : Nat → Nat} (g0 : g 0 = 0) (gs : ∀ d, g (d + 1) = g d + w) (hS : W2 q S) (hs0 : s0 = sz + w) (h60 : s0 ≤ 60) {c : Nat} (hc : c ≤ 9) : ∀ (d i a f : Nat) (Y : xR), i + d = c → d < f → a + g d ≤ 60 → s0 ≤ a → CPY 5 Y0 Y s0 a w → Y 0 10 = (a : Int) → (∀ k : Nat, k < s0 → Y 6 k = 0 ∨ Y 6 k = 1) → (∀ o u : Nat, 5 ≤ o → o ≤ 8 → u < w → Y o (a - w + u) = Y o (sz + u)) → ∃ Y', f_X5_repeatFrom_p2_0_b8 q f (cs S q X Y) (sz : Int) (c : Int) (s0 : Int) (i : Int) = some (cs S q X Y') ∧ CPY 5 Y0 Y' s0 (a + g d) w ∧ Y' 0 10 = ((a + g d : Nat) : Int) := by
  intro d
  induction d with
  | zero =>
    intro i a f Y hi hf ha hsa hC hm hB h2
    obtain ⟨f, rfl⟩ := fs_e (show 0 < f by omega)
    have ei : i = c := by omega
    subst ei
    refine ⟨Y, ?_, by rw [g0]; exact hC, by rw [g0]; exact hm⟩
    rw [f_X5_repeatFrom_p2_0_b8, if_pos (Int.le_refl _)]
  | succ d ih =>
    intro i a f Y hi hf ha hsa hC hm hB h2
    obtain ⟨f, rfl⟩ := fs_e (show 0 < f by omega)
    have em := gs d
    have hfu : 10000000 ≤ fu (cs S q X Y) := hS.1.2.2
    have step : f_X5_repeatFrom_p2_0_b8 q (f + 1) (cs S q X Y) (sz : Int) (c : Int) (s0 : Int) (i : Int) = f_X5_repeatFrom_p2_0_b21 (f_X5_repeatFrom_p2_0_b8 q f) q (fu (cs S q X Y)) (cs S q X Y) (sz : Int) (c : Int) (s0 : Int) (i : Int) (sz : Int) := by
      rw [f_X5_repeatFrom_p2_0_b8, wr_e (z := (c : Int)) (by omega), wr_e (z := (i : Int)) (by omega), if_neg (by omega), iMx (by omega)]
    rw [step]
    by_cases hw : 1 ≤ w
    · obtain ⟨Y1, j1, j2, j3, j4, j5⟩ := c_rep21 (X := X) (Y0 := Y0) hS (f_X5_repeatFrom_p2_0_b8 q f) (x2 := (c : Int)) (x4 := (i : Int)) hw hs0 (a := a) ⟨hsa, by omega⟩ w 0 (fu (cs S q X Y)) Y (by omega) (by omega) hC hm hB h2 (fun o u _ _ h => absurd h (by omega))
      obtain ⟨Y', l1, l2, l3⟩ := ih (i + 1) (a + w) f Y1 (by omega) (by omega) (by omega) (by omega) j2 j3 j5 (fun o u b1 b2 b3 => by
        rw [show a + w - w + u = a + u by omega]
        exact j4 o u b1 b2 b3)
      refine ⟨Y', ?_, ?_, ?_⟩
      · rw [show ((sz + 0 : Nat) : Int) = (sz : Int) by omega] at j1
        rw [j1, show ((i : Nat) : Int) + 1 = ((i + 1 : Nat) : Int) by omega]
        exact l1
      · rw [em, show a + (g d + w) = a + w + g d by omega]
        exact l2
      · rw [em, show a + (g d + w) = a + w + g d by omega]
        exact l3
    · have hw0 : w = 0 := by omega
      subst hw0
      obtain ⟨Y', l1, l2, l3⟩ := ih (i + 1) a f Y (by omega) (by omega) (by omega) hsa hC hm hB h2
      refine ⟨Y', ?_, ?_, ?_⟩
      · obtain ⟨g, hg⟩ := fs_e (show 0 < fu (cs S q X Y) by omega)
        rw [hg, f_X5_repeatFrom_p2_0_b21, hs0, show ((sz + 0 : Nat) : Int) = (sz : Int) by omega, if_pos (Int.le_refl _), show ((i : Nat) : Int) + 1 = ((i + 1 : Nat) : Int) by omega]
        rw [hs0, show ((sz + 0 : Nat) : Int) = (sz : Int) by omega] at l1
        exact l1
      · rw [em]
        exact l2
      · rw [em]
        exact l3
theorem m_rep (cst : xSt → Nat → Int → Option xSt) {x2 x3 x4 : Int} (hw : x4 = (w : Int)) (hws : w ≤ s0) (h60 : s0 + m ≤ 60) (hend : HD x3 x4 x2 (s0 + m)) : ∀ (d k f : Nat) (μ : xR), k + d = s0 + m → d < f → s0 ≤ k → CPY 14 μ0 μ s0 k w → ∃ μ', f_X12_readsRepeat_p4_0_b107 cst 13 f (sR T 13 μ) x2 x3 x4 (k : Int) = (bd (f_X12_goOn_p4_0 (sR T 13 (uF μ' 0 31 ((s0 + m : Nat) : Int))) 13) fun S22 => some S22) ∧ CPY 14 μ0 μ' s0 (s0 + m) w := by
  intro d
  induction d with
  | zero =>
    intro k f μ hk hf hs hC
    obtain ⟨f, rfl⟩ := fs_e (show 0 < f by omega)
    have ek : k = s0 + m := by omega
    subst ek
    refine ⟨μ, ?_, hC⟩
    rw [f_X12_readsRepeat_p4_0_b107, hd_e hend, if_pos (Int.le_refl _), sR_w, lt1_e]
  | succ d ih =>
    intro k f μ hk hf hs hC
    obtain ⟨f, rfl⟩ := fs_e (show 0 < f by omega)
    have e1 : ((k : Int) - x4).toNat = k - w := by omega
    obtain ⟨i1, i2, i3⟩ := hC
    by_cases hw0 : w = 0
    · have hCb : CPY 14 μ0 (uF (uF (uF (uF μ 14 k (μ 14 (k - w))) 15 k (μ 15 (k - w))) 16 k (μ 16 (k - w))) 17 k (μ 17 (k - w))) s0 (k + 1) w := by
        refine ⟨fun o' k' b1 b2 => ?_, fun o' k' b1 b2 b3 => ?_, fun o' k' b1 b2 b3 b4 => ?_⟩
        · simp (disch := omega) only [uF_e, uF_n]
          exact i1 o' k' b1 b2
        · simp (disch := omega) only [uF_e, uF_n]
          exact i2 o' k' b1 b2 b3
        · rw [show k' - w = k' by omega]
      obtain ⟨μ', j1, j2⟩ := ih (k + 1) f _ (by omega) (by omega) (by omega) hCb
      refine ⟨μ', ?_, j2⟩
      rw [f_X12_readsRepeat_p4_0_b107, hd_e hend, wr_e (z := (k : Int)) (by omega), wr_e (z := ((s0 + m : Nat) : Int)) (by omega), if_neg (by omega), ckI_e (by omega), ckI_e (by omega), wr_e (z := (k : Int) - x4) (by omega), sR_g, e1, Int.toNat_natCast, sR_w, lt1_e, ckI_e (by omega), ckI_e (by omega), sR_g, uF_n (by omega), sR_w, lt1_e, ckI_e (by omega), ckI_e (by omega), sR_g, uF_n (by omega), uF_n (by omega), sR_w, lt1_e, ckI_e (by omega), ckI_e (by omega), sR_g, uF_n (by omega), uF_n (by omega), uF_n (by omega), sR_w, lt1_e, show ((k : Nat) : Int) + 1 = ((k + 1 : Nat) : Int) by omega]
      exact j1
    · have hCb : CPY 14 μ0 (uF (uF (uF (uF μ 14 k (μ 14 (k - w))) 15 k (μ 15 (k - w))) 16 k (μ 16 (k - w))) 17 k (μ 17 (k - w))) s0 (k + 1) w := by
        refine ⟨fun o' k' b1 b2 => ?_, fun o' k' b1 b2 b3 => ?_, fun o' k' b1 b2 b3 b4 => ?_⟩
        · simp (disch := omega) only [uF_e, uF_n]
          exact i1 o' k' b1 b2
        · simp (disch := omega) only [uF_e, uF_n]
          exact i2 o' k' b1 b2 b3
        · by_cases ck : k' = k
          · subst ck
            have ho : o' = 14 ∨ o' = 15 ∨ o' = 16 ∨ o' = 17 := by omega
            rcases ho with rfl | rfl | rfl | rfl <;> simp (disch := omega) only [uF_e, uF_n]
          · simp (disch := omega) only [uF_e, uF_n]
            exact i3 o' k' b1 b2 b3 (by omega)
      obtain ⟨μ', j1, j2⟩ := ih (k + 1) f _ (by omega) (by omega) (by omega) hCb
      refine ⟨μ', ?_, j2⟩
      rw [f_X12_readsRepeat_p4_0_b107, hd_e hend, wr_e (z := (k : Int)) (by omega), wr_e (z := ((s0 + m : Nat) : Int)) (by omega), if_neg (by omega), ckI_e (by omega), ckI_e (by omega), wr_e (z := (k : Int) - x4) (by omega), sR_g, e1, Int.toNat_natCast, sR_w, lt1_e, ckI_e (by omega), ckI_e (by omega), sR_g, uF_n (by omega), sR_w, lt1_e, ckI_e (by omega), ckI_e (by omega), sR_g, uF_n (by omega), uF_n (by omega), sR_w, lt1_e, ckI_e (by omega), ckI_e (by omega), sR_g, uF_n (by omega), uF_n (by omega), uF_n (by omega), sR_w, lt1_e, show ((k : Nat) : Int) + 1 = ((k + 1 : Nat) : Int) by omega]
      exact j1
theorem dr_cpy (hD : DR X Y μ) (hX : ∀ k, X' 3 k = X 3 k) (hs0 : Y 0 10 = (s0 : Int)) (hw : 1 ≤ w ∨ m = 0) (hw2 : w ≤ s0) (hm : s0 + m ≤ 60) (h1 : CPY 5 Y Y' s0 (s0 + m) w) (hm1 : Y' 0 10 = ((s0 + m : Nat) : Int)) (h2 : CPY 14 μ μ' s0 (s0 + m) w) (hm2 : μ' 0 31 = ((s0 + m : Nat) : Int)) : DR X' Y' μ' := by
  obtain ⟨d1, d2, d3, ⟨i1, i2, i3⟩, d5, d6⟩ := hD
  obtain ⟨a1, a2, a3⟩ := h1
  obtain ⟨b1, b2, b3⟩ := h2
  have e7 : ∀ k, μ' 7 k = μ 7 k := fun k => b1 7 k (by omega) (by omega)
  refine ⟨?_, ?_, ?_, ⟨by rw [hm1, hm2], by omega, ?_⟩, ?_, ?_⟩
  · unfold DRs at d1 ⊢
    rw [e7, e7, e7, b1 0 33 (by omega) (by omega), b1 0 34 (by omega) (by omega), b1 0 35 (by omega) (by omega), a1 1 0 (by omega) (by omega), a1 1 1 (by omega) (by omega), a1 1 2 (by omega) (by omega), a1 1 3 (by omega) (by omega), a1 1 4 (by omega) (by omega), a1 1 5 (by omega) (by omega)]
    exact d1
  · obtain ⟨mm, c1, c2, c3⟩ := d2
    exact ⟨mm, c1, by rw [b1 0 32 (by omega) (by omega)]; exact c2, fun s hs => by rw [hX]; exact c3 s hs⟩
  · have y22 : Y' 2 2 = Y 2 2 := a1 2 2 (by omega) (by omega)
    refine ⟨by rw [y22, e7]; exact d3.1, by rw [y22]; exact d3.2.1, fun j hj => ?_⟩
    rw [y22] at hj
    rw [e7, a1 3 j (by omega) (by omega), a1 4 j (by omega) (by omega)]
    exact d3.2.2 j hj
  · have key : ∀ g k : Nat, k ≤ g → k < s0 + m → DRk Y' μ' k := by
      intro g
      induction g with
      | zero =>
        intro k hk hk2
        by_cases c : k < s0
        · have d := i3 k (by omega)
          unfold DRk at d ⊢
          rw [a2 5 k (by omega) (by omega) c, a2 6 k (by omega) (by omega) c, a2 7 k (by omega) (by omega) c, a2 8 k (by omega) (by omega) c, b2 14 k (by omega) (by omega) c, b2 15 k (by omega) (by omega) c, b2 16 k (by omega) (by omega) c, b2 17 k (by omega) (by omega) c]
          exact d
        · exact absurd hk (by omega)
      | succ g ih =>
        intro k hk hk2
        by_cases c : k < s0
        · have d := i3 k (by omega)
          unfold DRk at d ⊢
          rw [a2 5 k (by omega) (by omega) c, a2 6 k (by omega) (by omega) c, a2 7 k (by omega) (by omega) c, a2 8 k (by omega) (by omega) c, b2 14 k (by omega) (by omega) c, b2 15 k (by omega) (by omega) c, b2 16 k (by omega) (by omega) c, b2 17 k (by omega) (by omega) c]
          exact d
        · have d := ih (k - w) (by omega) (by omega)
          unfold DRk at d ⊢
          rw [a3 5 k (by omega) (by omega) (by omega) hk2, a3 6 k (by omega) (by omega) (by omega) hk2, a3 7 k (by omega) (by omega) (by omega) hk2, a3 8 k (by omega) (by omega) (by omega) hk2, b3 14 k (by omega) (by omega) (by omega) hk2, b3 15 k (by omega) (by omega) (by omega) hk2, b3 16 k (by omega) (by omega) (by omega) hk2, b3 17 k (by omega) (by omega) (by omega) hk2]
          obtain ⟨g1, g2, g3, g4, g5, g6⟩ := d
          exact ⟨g1, g2, g3, g4, fun h => by obtain ⟨u1, u2, u3⟩ := g5 h; exact ⟨u1, by omega, u3⟩, g6⟩
    exact fun k hk => key k k (Nat.le_refl _) (by omega)
  · intro k k1 k2 k3
    rw [e7]
    exact d5 k k1 k2 k3
  · rw [a1 9 0 (by omega) (by omega), b1 0 30 (by omega) (by omega)]
    exact d6
end CP
