/-! mathematics: the plain decoder asked for itself; whether the decoded agree with it -/
section P1
variable {S T : xSt} {q : Nat} {π μ X : xR}
theorem p_gt12 (hR : PR π) (hQ : ∀ X o k, gI (sR S 0 X) q o k = π o k) {k : Int} (hk : 0 ≤ k ∧ k < π 0 10) (ht : π 5 k.toNat = 9 → 0 ≤ X 12 k.toNat ∧ X 12 k.toNat ≤ 99) : f_X10_goesToTarget_p3_11_2_0 (sR S 0 X) 0 q k = some (gtV π (X 12) k.toNat, sR S 0 (uG X 12 (gtF π (X 12) k.toNat))) := by
  have p0 := pr_n hR
  obtain ⟨k1, -, -, -, k5, -⟩ := pr_k hR (show (k.toNat : Int) < π 0 10 by omega)
  unfold f_X10_goesToTarget_p3_11_2_0 gtV gtF
  simp (disch := omega) only [lt1_e, bd_e, bd2_e, sR_g, sR_w, sR_a, sR_s, hQ, ckI_e, wr_e, ite_not, uF_e, uF_o, uF_k, uG_e, uG_o]
  rw [if_neg (show ¬ k < 0 by omega), if_neg (show ¬ π 0 10 ≤ k by omega)]
  by_cases c : 8 ≤ π 5 k.toNat
  · rw [if_pos c]
    by_cases c2 : π 5 k.toNat = 8
    · rw [if_pos c2, if_pos c2, if_neg (show ¬ π 5 k.toNat = 9 by omega), uG_i]
    · have c9 : π 5 k.toNat = 9 := by omega
      have t1 := ht c9
      have t2 := k5 c9
      rw [if_neg c2, if_neg c2, if_pos c9, if_pos c9]
      by_cases c3 : π 8 k.toNat ≤ X 12 k.toNat
      · rw [if_pos c3, if_neg (show ¬ X 12 k.toNat < π 8 k.toNat by omega), if_neg (show ¬ X 12 k.toNat < π 8 k.toNat by omega), uF_G]
      · rw [if_neg c3, if_pos (show X 12 k.toNat < π 8 k.toNat by omega), if_pos (show X 12 k.toNat < π 8 k.toNat by omega), uF_G]
  · rw [if_neg c, if_neg (show ¬ π 5 k.toNat = 8 by omega), if_neg (show ¬ π 5 k.toNat = 9 by omega), if_neg (show ¬ π 5 k.toNat = 9 by omega), uG_i]
theorem p_nextP (hR : PR π) (hQ : ∀ X o k, gI (sR S 0 X) q o k = π o k) {d : Nat} (d1 : X 10 1 = (plS π d).1) (d2 : ∀ k : Nat, k < 60 → X 12 k = (plS π d).2 k) : ∃ g, f_X4_next_p3_10_2_0 (sR S 0 X) 0 q = some (plV π (plS π d), sR S 0 (uF (uG X 12 g) 10 1 (plS π (d + 1)).1)) ∧ ∀ k : Nat, k < 60 → g k = (plS π (d + 1)).2 k := by
  have p0 := pr_n hR
  obtain ⟨g1, g2⟩ := pl_rng hR d
  have ep : plS π (d + 1) = plN π (plS π d) := rfl
  rw [ep]
  generalize plS π d = s at d1 d2 g1 g2
  rw [← d1] at g1
  unfold plN plV f_X4_next_p3_10_2_0
  rw [← d1]
  by_cases c : X 10 1 < π 0 10
  · have hk : ((X 10 1).toNat : Int) < π 0 10 := by omega
    have c' : ¬ (X 10 1 < 0 ∨ π 0 10 ≤ X 10 1) := by omega
    obtain ⟨k1, -, k3, -, k5, -⟩ := pr_k hR hk
    have t0 := d2 (X 10 1).toNat (by omega)
    have hg := p_gt12 (X := X) hR hQ (k := X 10 1) (by omega) (fun h => by rw [t0]; exact g2 _ hk h)
    simp (disch := omega) only [lt1_e, bd_e, bd2_e, sR_g, sR_w, sR_a, sR_s, hQ, ckI_e, wr_e, ite_not, uF_e, uF_o, uF_k, uG_e, uG_o]
    rw [if_neg (show ¬ X 10 1 < 0 by omega), if_pos c, if_neg c', if_neg c']
    rw [hg]
    simp only [bd2_e]
    simp (disch := omega) only [lt1_e, bd_e, bd2_e, sR_g, sR_w, sR_a, sR_s, hQ, ckI_e, wr_e, ite_not, uF_e, uF_o, uF_k, uG_e, uG_o]
    unfold gtV gtF
    by_cases c2 : π 5 (X 10 1).toNat < 8
    · rw [if_neg (show ¬ π 5 (X 10 1).toNat = 8 by omega), if_neg (show ¬ π 5 (X 10 1).toNat = 9 by omega), if_pos c2]
      refine ⟨X 12, ?_, fun k hk => d2 k hk⟩
      rw [wr_e (by decide), if_pos rfl, if_neg (show ¬ π 5 (X 10 1).toNat = 9 by omega)]
    · rw [if_neg c2]
      by_cases c3 : π 5 (X 10 1).toNat = 8
      · rw [if_pos c3, if_pos c3]
        refine ⟨X 12, ?_, fun k hk => d2 k hk⟩
        rw [wr_e (by decide), if_neg (by decide), if_neg (show ¬ π 5 (X 10 1).toNat = 9 by omega)]
      · have c9 : π 5 (X 10 1).toNat = 9 := by omega
        rw [if_neg c3, if_neg c3, if_pos c9, ← t0]
        by_cases c4 : X 12 (X 10 1).toNat < π 8 (X 10 1).toNat
        · simp only [if_pos c4]
          refine ⟨uN (X 12) (X 10 1).toNat (X 12 (X 10 1).toNat + 1), ?_, fun k hk => ?_⟩
          · rw [wr_e (by decide), if_neg (by decide), if_pos c9]
          · by_cases e9 : k = (X 10 1).toNat
            · subst e9
              rw [uN_e]
              exact (uN_e).symm
            · rw [uN_k e9, d2 k hk]
              exact (uN_k e9).symm
        · simp only [if_neg c4]
          refine ⟨uN (X 12) (X 10 1).toNat 0, ?_, fun k hk => ?_⟩
          · rw [wr_e (by decide), if_pos rfl, if_pos c9]
          · by_cases e9 : k = (X 10 1).toNat
            · subst e9
              rw [uN_e]
              exact (uN_e).symm
            · rw [uN_k e9, d2 k hk]
              exact (uN_k e9).symm
  · have c' : (X 10 1 < 0 ∨ π 0 10 ≤ X 10 1) := by omega
    simp (disch := omega) only [lt1_e, bd_e, bd2_e, sR_g, sR_w, sR_a, sR_s, hQ, ckI_e, wr_e, ite_not, uF_e, uF_o, uF_k, uG_e, uG_o]
    rw [if_neg (show ¬ X 10 1 < 0 by omega), if_neg c, if_pos c', if_pos c']
    refine ⟨X 12, ?_, fun k hk => d2 k hk⟩
    rw [uG_i, ← d1, uF_i]
/-- what the plain decoder leaves of the class's own words -/
def PX (X X' : xR) : Prop := ∀ o k, o ≠ 12 → o ≠ 10 → X' o k = X o k
theorem c_fill {X : xR} {z : Int} : ∀ (d : Nat) (x : Int) (f : Nat) (g : Nat → Int), 0 ≤ x → x + d = 60 → d < f → (∀ k : Nat, (k : Int) < x → g k = z) → ∃ g', f_J7_fill_53178_p3_12_b5 0 f (sR S 0 (uG X 12 g)) z x 60 = some (sR S 0 (uG X 12 g')) ∧ ∀ k : Nat, k < 60 → g' k = z := by
  intro d
  induction d with
  | zero =>
    intro x f g hx hd hf hg
    obtain ⟨f, rfl⟩ := fs_e (show 0 < f by omega)
    refine ⟨g, ?_, fun k hk => hg k (by omega)⟩
    rw [f_J7_fill_53178_p3_12_b5, wr_e (z := 60) (by decide), wr_e (z := x) (by omega), if_pos (by omega)]
  | succ d ih =>
    intro x f g hx hd hf hg
    obtain ⟨f, rfl⟩ := fs_e (show 0 < f by omega)
    rw [f_J7_fill_53178_p3_12_b5, wr_e (z := 60) (by decide), wr_e (z := x) (by omega), if_neg (by omega), ckI_e (by omega), sR_w, lt1_e, uF_G, uG_f, uG_G]
    refine ih (x + 1) f _ (by omega) (by omega) (by omega) (fun k hk => ?_)
    by_cases c : k = x.toNat
    · subst c
      rw [uN_e]
    · rw [uN_k c]
      exact hg k (by omega)
theorem c_pbeg {X : xR} (hfu : 10000000 ≤ fu S) : ∃ g, f_X4_begin_p3_10 (sR S 0 X) 0 = some (sR S 0 (uF (uG X 12 g) 10 1 0)) ∧ ∀ k : Nat, k < 60 → g k = 0 := by
  obtain ⟨g, k1, k2⟩ := c_fill (S := S) (X := X) (z := 0) 60 0 (fu S) (X 12) (by decide) (by decide) (by omega) (fun k hk => absurd hk (by omega))
  rw [uG_i] at k1
  refine ⟨g, ?_, k2⟩
  unfold f_X4_begin_p3_10 f_J7_fill_53178_p3_12
  rw [sR_fu, k1]
  simp only [bd_e]
  rw [sR_w, lt1_e]
theorem c_plain {a : Int} (hR : PR π) (hQ : ∀ X o k, gI (sR S 0 X) q o k = π o k) (h4 : ∀ X, gP (sR S 0 X) 0 0 4 = (q, 0)) (hk : gk S q = 2) (ha : 0 ≤ a ∧ a ≤ 9999) : ∀ (e d : Nat) (X : xR) (v : Int) (f : Nat), (d : Int) + e = a + 1 → e < f → X 10 1 = (plS π d).1 → (∀ k : Nat, k < 60 → X 12 k = (plS π d).2 k) → (e = 0 → v = plV π (plS π a.toNat)) → ∃ X', f_X11_plain_p3_0_b33 0 f (sR S 0 X) a v (d : Int) = some (.inl (plV π (plS π a.toNat)), sR S 0 X') ∧ PX X X' := by
  intro e
  induction e with
  | zero =>
    intro d X v f h hf d1 d2 hv
    obtain ⟨f, rfl⟩ := fs_e (show 0 < f by omega)
    refine ⟨X, ?_, fun o k _ _ => rfl⟩
    rw [f_X11_plain_p3_0_b33, wr_e (z := a) (by omega), wr_e (z := (d : Int)) (by omega), if_pos (by omega), hv rfl]
  | succ e ih =>
    intro d X v f h hf d1 d2 hv
    obtain ⟨f, rfl⟩ := fs_e (show 0 < f by omega)
    obtain ⟨g, n1, n2⟩ := p_nextP hR hQ d1 d2
    obtain ⟨X', i1, i2⟩ := ih (d + 1) (uF (uG X 12 g) 10 1 (plS π (d + 1)).1) (plV π (plS π d)) f (by omega) (by omega) uF_e (fun k hk => by rw [uF_o (by decide), uG_e]; exact n2 k hk) (fun h0 => by rw [show a.toNat = d by omega])
    refine ⟨X', ?_, fun o k a1 a2 => by rw [i2 o k a1 a2, uF_o a2, uG_o a1]⟩
    rw [f_X11_plain_p3_0_b33, wr_e (z := a) (by omega), wr_e (z := (d : Int)) (by omega), if_neg (by omega), ckP_e (h4 X) (by rw [sR_gk]; exact hk), n1]
    simp only [bd2_e]
    rw [show ((d + 1 : Nat) : Int) = (d : Int) + 1 by omega] at i1
    exact i1
/-! the reference's -/
/-- what the reference's plain decoder stands at -/
def PMd (π μ : xR) (d : Nat) : Prop := μ 0 19 = (plS π d).1 ∧ ∀ k : Nat, (k : Int) < π 0 10 → π 5 k = 9 → μ 12 k = (plS π d).2 k
theorem pm_u {g : Nat → Int} {z : Int} (h : PM π μ) : PM π (uF (uG μ 12 g) 0 19 z) := by
  unfold PM at h ⊢
  simp (disch := omega) only [uF_e, uF_o, uF_k, uG_e, uG_o, uN_e, uN_k, true_or, or_true]
  exact h
theorem m_pbeg_b : ∀ (d : Nat) (x : Int) (f : Nat) (g : Nat → Int), 0 ≤ x → x + d = 60 → d < f → (∀ k : Nat, (k : Int) < x → g k = 0) → ∃ g', f_X12_plainBegins_p4_0_b2 13 f (sR T 13 (uG μ 12 g)) x = some (sR T 13 (uF (uG μ 12 g') 0 19 0)) ∧ ∀ k : Nat, k < 60 → g' k = 0 := by
  intro d
  induction d with
  | zero =>
    intro x f g hx hd hf hg
    obtain ⟨f, rfl⟩ := fs_e (show 0 < f by omega)
    refine ⟨g, ?_, fun k hk => hg k (by omega)⟩
    rw [f_X12_plainBegins_p4_0_b2, wr_e (z := 60) (by decide), wr_e (z := x) (by omega), if_pos (by omega), sR_w, lt1_e]
  | succ d ih =>
    intro x f g hx hd hf hg
    obtain ⟨f, rfl⟩ := fs_e (show 0 < f by omega)
    rw [f_X12_plainBegins_p4_0_b2, wr_e (z := 60) (by decide), wr_e (z := x) (by omega), if_neg (by omega), ckI_e (by omega), sR_w, lt1_e, uF_G, uG_f, uG_G]
    refine ih (x + 1) f _ (by omega) (by omega) (by omega) (fun k hk => ?_)
    by_cases c : k = x.toNat
    · subst c
      rw [uN_e]
    · rw [uN_k c]
      exact hg k (by omega)
theorem m_pbeg (hT : 10000000 ≤ fu T) (hR : PR π) : ∃ g, f_X12_plainBegins_p4_0 (sR T 13 μ) 13 = some (sR T 13 (uF (uG μ 12 g) 0 19 0)) ∧ PMd π (uF (uG μ 12 g) 0 19 0) 0 := by
  have p0 := pr_n hR
  obtain ⟨g, k1, k2⟩ := m_pbeg_b (T := T) (μ := μ) 60 0 (fu T) (μ 12) (by decide) (by decide) (by omega) (fun k hk => absurd hk (by omega))
  rw [uG_i] at k1
  refine ⟨g, ?_, uF_e, fun k hk _ => ?_⟩
  · unfold f_X12_plainBegins_p4_0
    rw [sR_fu]
    exact k1
  · rw [uF_o (by decide), uG_e]
    exact k2 k (by omega)
theorem m_goes {d : Nat} (hR : PR π) (hM : PM π μ) (h : PMd π μ d) (hn : (plS π d).1 < π 0 10) : ∃ g, f_X12_plainGoesOn_p4_0 (sR T 13 μ) 13 = some (sR T 13 (uF (uG μ 12 g) 0 19 (plS π (d + 1)).1)) ∧ PMd π (uF (uG μ 12 g) 0 19 (plS π (d + 1)).1) (d + 1) := by
  have p0 := pr_n hR
  obtain ⟨g1, g2⟩ := pl_rng hR d
  have ep : plS π (d + 1) = plN π (plS π d) := rfl
  obtain ⟨h1, h2⟩ := h
  have hk : ((plS π d).1.toNat : Int) < π 0 10 := by omega
  have hm := pm_k hM hk
  obtain ⟨k1, -, k3, -, k5, -⟩ := pr_k hR hk
  have t2 := fun h => h2 _ hk h
  have t9 := fun h => g2 _ hk h
  unfold PMd
  rw [ep]
  generalize plS π d = s at h1 h2 hk hn hm g1 g2 k1 k3 k5 t2 t9
  obtain ⟨m1, -, m3, m4⟩ := hm
  have c0 : ¬ (s.1 < 0 ∨ π 0 10 ≤ s.1) := by omega
  unfold plN
  rw [if_neg c0]
  by_cases c8 : π 5 s.1.toNat = 8
  · have t1 := k3 (by omega)
    refine ⟨μ 12, ?_, uF_e, fun k a b => ?_⟩
    · unfold f_X12_plainGoesOn_p4_0
      simp (disch := omega) only [sR_g, h1, ckI_e, wr_e, m1, m3, sR_w, lt1_e, uF_o, ite_not]
      rw [if_pos c8, if_neg (show ¬ π 5 s.1.toNat < 8 by omega), if_pos c8, uG_i]
    · rw [uF_o (by decide), uG_e, if_neg (show ¬ π 5 s.1.toNat < 8 by omega), if_pos c8]
      exact h2 k a b
  · by_cases c9 : π 5 s.1.toNat = 9
    · have t1 := k3 (by omega)
      have u := t2 c9
      have u9 := t9 c9
      have u5 := k5 c9
      have m4' := m4 c9
      by_cases c4 : s.2 s.1.toNat < π 8 s.1.toNat
      · refine ⟨uN (μ 12) s.1.toNat (s.2 s.1.toNat + 1), ?_, uF_e, fun k a b => ?_⟩
        · unfold f_X12_plainGoesOn_p4_0 f_X12_plainGoesOn_p4_0_b82
          simp (disch := omega) only [sR_g, h1, ckI_e, wr_e, m1, m3, sR_w, lt1_e, uF_o, ite_not, m4', u]
          rw [if_neg c8, if_pos c9, if_neg (show ¬ π 8 s.1.toNat ≤ s.2 s.1.toNat by omega), if_neg (show ¬ π 5 s.1.toNat < 8 by omega), if_neg c8, if_pos c4, uF_G (o := 12)]
        · rw [uF_o (by decide), uG_e, if_neg (show ¬ π 5 s.1.toNat < 8 by omega), if_neg c8, if_pos c4]
          by_cases e9 : k = s.1.toNat
          · subst e9
            rw [uN_e]
            exact (uN_e).symm
          · rw [uN_k e9, h2 k a b]
            exact (uN_k e9).symm
      · refine ⟨uN (μ 12) s.1.toNat 0, ?_, uF_e, fun k a b => ?_⟩
        · unfold f_X12_plainGoesOn_p4_0 f_X12_plainGoesOn_p4_0_b82
          simp (disch := omega) only [sR_g, h1, ckI_e, wr_e, m1, m3, sR_w, lt1_e, uF_o, ite_not, m4', u]
          rw [if_neg c8, if_pos c9, if_pos (show π 8 s.1.toNat ≤ s.2 s.1.toNat by omega), if_neg (show ¬ π 5 s.1.toNat < 8 by omega), if_neg c8, if_neg c4, uF_G (o := 12)]
        · rw [uF_o (by decide), uG_e, if_neg (show ¬ π 5 s.1.toNat < 8 by omega), if_neg c8, if_neg c4]
          by_cases e9 : k = s.1.toNat
          · subst e9
            rw [uN_e]
            exact (uN_e).symm
          · rw [uN_k e9, h2 k a b]
            exact (uN_k e9).symm
    · refine ⟨uN (μ 12) s.1.toNat 0, ?_, uF_e, fun k a b => ?_⟩
      · unfold f_X12_plainGoesOn_p4_0 f_X12_plainGoesOn_p4_0_b82
        simp (disch := omega) only [sR_g, h1, ckI_e, wr_e, m1, m3, sR_w, lt1_e, uF_o, ite_not]
        rw [if_neg c8, if_neg c9, if_pos (show π 5 s.1.toNat < 8 by omega), uF_G (o := 12)]
      · rw [uF_o (by decide), uG_e, if_pos (show π 5 s.1.toNat < 8 by omega)]
        by_cases e9 : k = s.1.toNat
        · subst e9
          exact absurd b c9
        · rw [uN_k e9, h2 k a b]
theorem pl_stay {d : Nat} (h : π 0 10 ≤ (plS π d).1) : ∀ e : Nat, plS π (d + e) = plS π d := by
  intro e
  induction e with
  | zero => rfl
  | succ e ih =>
    show plN π (plS π (d + e)) = plS π d
    rw [ih]
    unfold plN
    rw [if_pos (Or.inr h)]
theorem uF_GG {g h : Nat → Int} {y z : Int} : uF (uG (uF (uG μ 12 g) 0 19 y) 12 h) 0 19 z = uF (uG μ 12 h) 0 19 z := by
  funext o k
  by_cases a : o = 12
  · subst a
    rw [uF_o (by decide), uG_e, uF_o (by decide), uG_e]
  · by_cases b : o = 0
    · subst b
      by_cases c : k = 19
      · subst c
        rw [uF_e, uF_e]
      · rw [uF_k c, uG_o a, uF_k c, uG_o a, uF_k c, uG_o a]
    · rw [uF_o b, uG_o a, uF_o b, uG_o a, uF_o b, uG_o a]
theorem m_plain {a : Int} (hR : PR π) (ha : 0 ≤ a ∧ a ≤ 9999) : ∀ (e d : Nat) (f : Nat) (g : Nat → Int) (z : Int), (d : Int) + e = a → e < f → PM π (uF (uG μ 12 g) 0 19 z) → PMd π (uF (uG μ 12 g) 0 19 z) d → ∃ g' z', f_X12_plain_p4_0_b24 13 f (sR T 13 (uF (uG μ 12 g) 0 19 z)) a (d : Int) = some (plV π (plS π a.toNat), sR T 13 (uF (uG μ 12 g') 0 19 z')) := by
  have p0 := pr_n hR
  have h50 : ∀ (g : Nat → Int) (z : Int) (d : Nat), PM π (uF (uG μ 12 g) 0 19 z) → z = (plS π d).1 → f_X12_plain_p4_0_b50 13 (sR T 13 (uF (uG μ 12 g) 0 19 z)) = some (plV π (plS π d), sR T 13 (uF (uG μ 12 g) 0 19 z)) := by
    intro g z d hM hz
    have r := (pl_rng hR d).1
    unfold f_X12_plain_p4_0_b50 plV
    rw [sR_g, hM.1, sR_g, uF_e, hz, wr_e (z := π 0 10) (by omega), wr_e (z := (plS π d).1) (by omega)]
    by_cases c : π 0 10 ≤ (plS π d).1
    · rw [if_pos c, if_pos (Or.inr c)]
    · rw [if_neg c, if_neg (by omega)]
  intro e
  induction e with
  | zero =>
    intro d f g z h hf hM hd
    obtain ⟨f, rfl⟩ := fs_e (show 0 < f by omega)
    have hz : z = (plS π d).1 := by
      have := hd.1
      rw [uF_e] at this
      exact this
    refine ⟨g, z, ?_⟩
    rw [f_X12_plain_p4_0_b24, wr_e (z := a) (by omega), wr_e (z := (d : Int)) (by omega), if_pos (by omega), h50 g z d hM hz, show a.toNat = d by omega]
  | succ e ih =>
    intro d f g z h hf hM hd
    obtain ⟨f, rfl⟩ := fs_e (show 0 < f by omega)
    have hz : z = (plS π d).1 := by
      have := hd.1
      rw [uF_e] at this
      exact this
    have r := (pl_rng hR d).1
    rw [f_X12_plain_p4_0_b24, wr_e (z := a) (by omega), wr_e (z := (d : Int)) (by omega), if_neg (by omega), sR_g, hM.1, sR_g, uF_e, wr_e (z := π 0 10) (by omega), wr_e (z := z) (by omega)]
    by_cases c : π 0 10 ≤ z
    · have st := pl_stay (π := π) (d := d) (by omega) (a.toNat - d)
      rw [show d + (a.toNat - d) = a.toNat by omega] at st
      exact ⟨g, z, by rw [if_pos c, h50 g z d hM hz, st]⟩
    · obtain ⟨g2, w1, w2⟩ := m_goes (T := T) hR hM hd (by omega)
      rw [uF_GG] at w1 w2
      have hM2 : PM π (uF (uG μ 12 g2) 0 19 (plS π (d + 1)).1) := by
        have := pm_u (g := g2) (z := (plS π (d + 1)).1) hM
        rw [uF_GG] at this
        exact this
      obtain ⟨g', z', i1⟩ := ih (d + 1) f g2 _ (by omega) (by omega) hM2 w2
      refine ⟨g', z', ?_⟩
      rw [if_neg c, w1]
      simp only [bd_e]
      rw [show ((d + 1 : Nat) : Int) = (d : Int) + 1 by omega] at i1
      exact i1
end P1
section P2
variable {m : Nat} {S : xSt} {i j : Int}
theorem sio_x {X X' μ μ' : xR} (h : SIO X μ) (hX : ∀ o k, o ≠ 12 → o ≠ 10 → X' o k = X o k) (hμ : ∀ o k, o ≠ 12 → (o ≠ 0 ∨ (k ≠ 0 ∧ k ≠ 19)) → μ' o k = μ o k) : SIO X' μ' := by
  unfold SIO at h ⊢
  simp (disch := omega) only [hX, hμ]
  exact h
theorem k_plain (hI : INV m S) (hi : wr i = i) : CALL m S (f_X11_plain_p3_0 S 0 i) (fun T => f_X12_plain_p4_0 T 13 i) (XR (KE 2)) := by
  have hi2 := wr_r hi
  obtain ⟨q, q2, hS, hk, hq, hcx⟩ := inv_cx hI
  have hbb : BB m ≤ BB (m + 1) := by unfold BB; omega
  have hR := hS.2.2.2.2.1
  have hM := hS.2.2.2.2.2.1
  have hio := hS.2.2.2.2.2.2.2.2.2
  have hfu := hI.1
  by_cases c : 0 ≤ i ∧ i ≤ 9999
  · have hQ : ∀ X o k, gI (sR S 0 X) q o k = S.2.1 q o k := fun X o k => by
      rw [sR_n (by omega)]
      rfl
    obtain ⟨g, b1, b2⟩ := c_pbeg (S := S) (X := S.2.1 0) hfu
    rw [sR_e] at b1
    obtain ⟨X', y1, y2⟩ := c_plain hR hQ (fun X => by rw [sR_gP]; exact hS.2.1) hk c (i + 1).toNat 0 (uF (uG (S.2.1 0) 12 g) 10 1 0) (-1) (fu S) (by omega) (by omega) uF_e (fun k hk => by rw [uF_o (by decide), uG_e]; exact b2 k hk) (fun h => absurd h (by omega))
    refine ⟨.inl (plV (S.2.1 q) (plS (S.2.1 q) i.toNat)), sR S 0 X', ?_, rfl, by rw [sR_n1 (by decide)], fun T hT hμ => ?_⟩
    · unfold f_X11_plain_p3_0
      rw [hi, wr_e (z := 9999) (by decide), if_neg (show ¬ i < 0 by omega), if_pos c.2, b1]
      simp only [bd_e]
      rw [sR_fu]
      exact y1
    · have hT13 := sR_i hμ
      obtain ⟨g2, z1, z2⟩ := m_pbeg (T := T) (μ := uF (S.2.1 13) 0 0 (1 - 1)) hT hR
      obtain ⟨g3, z3, w1⟩ := m_plain (T := T) (μ := uF (S.2.1 13) 0 0 (1 - 1)) hR c i.toNat 0 (fu T) g2 0 (by omega) (by omega) (pm_u (pm_told hM)) z2
      refine ⟨plV (S.2.1 q) (plS (S.2.1 q) i.toNat), uF (uG (uF (S.2.1 13) 0 0 (1 - 1)) 12 g3) 0 19 z3, q, q2, ?_, ⟨rfl, by simp (disch := omega) only [uF_e, uF_o, uF_k, uG_e, uG_o, uN_e, uN_k, true_or, or_true]; rfl⟩, ?_⟩
      · show f_X12_plain_p4_0 T 13 i = _
        rw [hT13]
        unfold f_X12_plain_p4_0
        rw [hi, p_isIn hi2 (by decide) (by decide), if_pos c]
        simp only [bd2_e]
        rw [p_is (Or.inr rfl)]
        simp only [bd2_e]
        rw [if_pos (by decide), z1]
        simp only [bd_e]
        rw [sR_s, sR_fu]
        exact w1
      · have hX : ∀ o k, o ≠ 12 → o ≠ 10 → X' o k = S.2.1 0 o k := fun o k a1 a2 => by rw [y2 o k a1 a2, uF_o a2, uG_o a1]
        have hμ' : ∀ o k, o ≠ 12 → (o ≠ 0 ∨ (k ≠ 0 ∧ k ≠ 19)) → (uF (uG (uF (S.2.1 13) 0 0 (1 - 1)) 12 g3) 0 19 z3) o k = S.2.1 13 o k := by
          intro o k a1 a2
          rcases a2 with a2 | ⟨a2, a3⟩
          · rw [uF_o a2, uG_o a1, uF_o a2]
          · by_cases e : o = 0
            · subst e
              rw [uF_k a3, uG_o a1, uF_k a2]
            · rw [uF_o e, uG_o a1, uF_o e]
        refine sim_io hS hbb (fun r hr => by rw [sR_n1 hr]) (by rw [sR_g1]; exact hX 8 1 (by decide) (by decide)) (by rw [sR_g1]; exact hX 8 2 (by decide) (by decide)) (by rw [sR_g1]; exact hX 0 9 (by decide) (by decide)) (fun o k a1 a2 a3 a4 => hμ' o k a4 (Or.inl a1)) (fun k a1 a2 a3 a4 => hμ' 0 k (by decide) (Or.inr ⟨a1, a4⟩)) ?_
        rw [sR_g1]
        exact sio_x hio hX hμ'
  · refine callR hI (v := .inr 2) (v' := 0) (z := 1 - 0) ?_ (fun T hT => ?_) ⟨uF_e.symm, Or.inl rfl⟩
    · unfold f_X11_plain_p3_0
      rw [hi, wr_e (z := 9999) (by decide)]
      by_cases c2 : i < 0
      · rw [if_pos c2]
      · rw [if_neg c2, if_neg (by omega)]
    · unfold f_X12_plain_p4_0
      rw [hi, p_isIn hi2 (by decide) (by decide), if_neg c]
      simp only [bd2_e]
      rw [p_is (Or.inl rfl)]
      simp only [bd2_e]
      rw [if_neg (by decide)]
end P2
