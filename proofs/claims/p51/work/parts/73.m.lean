/-! mathematics: reading calls: count, plain -/
section C33
variable {π F G H : xR} {S S' S2 : xSt} {i c : Int} {b : Nat} {B : Int}
theorem r_c2 (hW : WD π S F i c) : f_X11_count_p3_0 S 0 2 = some (F 1 0, S) := by
  unfold f_X11_count_p3_0
  rw [if_neg (by decide), if_neg (by decide), ckI_e (by omega), show (wr (2 - 2)).toNat = 0 by decide, show (0 : Nat) + 1 = 1 from rfl, r_1 hW]
theorem r_c3 (hW : WD π S F i c) : f_X11_count_p3_0 S 0 3 = some (F 1 1, S) := by
  unfold f_X11_count_p3_0
  rw [if_neg (by decide), if_neg (by decide), ckI_e (by omega), show (wr (3 - 2)).toNat = 1 by decide, show (0 : Nat) + 1 = 1 from rfl, r_1 hW]
theorem r_c4 (hW : WD π S F i c) : f_X11_count_p3_0 S 0 4 = some (F 1 2, S) := by
  unfold f_X11_count_p3_0
  rw [if_neg (by decide), if_neg (by decide), ckI_e (by omega), show (wr (4 - 2)).toNat = 2 by decide, show (0 : Nat) + 1 = 1 from rfl, r_1 hW]
theorem r_c5 (hW : WD π S F i c) : f_X11_count_p3_0 S 0 5 = some (F 1 3, S) := by
  unfold f_X11_count_p3_0
  rw [if_neg (by decide), if_neg (by decide), ckI_e (by omega), show (wr (5 - 2)).toNat = 3 by decide, show (0 : Nat) + 1 = 1 from rfl, r_1 hW]
theorem r_c6 (hW : WD π S F i c) : f_X11_count_p3_0 S 0 6 = some (F 1 4, S) := by
  unfold f_X11_count_p3_0
  rw [if_neg (by decide), if_neg (by decide), ckI_e (by omega), show (wr (6 - 2)).toNat = 4 by decide, show (0 : Nat) + 1 = 1 from rfl, r_1 hW]
theorem r_c7 (hW : WD π S F i c) : f_X11_count_p3_0 S 0 7 = some (F 1 5, S) := by
  unfold f_X11_count_p3_0
  rw [if_neg (by decide), if_neg (by decide), ckI_e (by omega), show (wr (7 - 2)).toNat = 5 by decide, show (0 : Nat) + 1 = 1 from rfl, r_1 hW]
theorem r_c9 (hW : WD π S F i c) : f_X11_count_p3_0 S 0 9 = some (F 15 0, S) := by
  unfold f_X11_count_p3_0
  rw [if_neg (by decide), if_pos (by decide)]
  unfold f_X11_count_p3_0_b23
  rw [if_neg (by decide), if_neg (by decide), ckI_e (by omega), show (wr (9 - 9)).toNat = 0 by decide, show (0 : Nat) + 1 = 1 from rfl, r_1 hW]
theorem r_c10 (hW : WD π S F i c) : f_X11_count_p3_0 S 0 10 = some (F 15 1, S) := by
  unfold f_X11_count_p3_0
  rw [if_neg (by decide), if_pos (by decide)]
  unfold f_X11_count_p3_0_b23
  rw [if_neg (by decide), if_neg (by decide), ckI_e (by omega), show (wr (10 - 9)).toNat = 1 by decide, show (0 : Nat) + 1 = 1 from rfl, r_1 hW]
theorem r_c11 (hW : WD π S F i c) : f_X11_count_p3_0 S 0 11 = some (F 15 2, S) := by
  unfold f_X11_count_p3_0
  rw [if_neg (by decide), if_pos (by decide)]
  unfold f_X11_count_p3_0_b23
  rw [if_neg (by decide), if_neg (by decide), ckI_e (by omega), show (wr (11 - 9)).toNat = 2 by decide, show (0 : Nat) + 1 = 1 from rfl, r_1 hW]
theorem r_c12 (hW : WD π S F i c) : f_X11_count_p3_0 S 0 12 = some (F 15 3, S) := by
  unfold f_X11_count_p3_0
  rw [if_neg (by decide), if_pos (by decide)]
  unfold f_X11_count_p3_0_b23
  rw [if_neg (by decide), if_neg (by decide), ckI_e (by omega), show (wr (12 - 9)).toNat = 3 by decide, show (0 : Nat) + 1 = 1 from rfl, r_1 hW]
theorem r_c13 (hW : WD π S F i c) : f_X11_count_p3_0 S 0 13 = some (F 15 4, S) := by
  unfold f_X11_count_p3_0
  rw [if_neg (by decide), if_pos (by decide)]
  unfold f_X11_count_p3_0_b23
  rw [if_neg (by decide), if_neg (by decide), ckI_e (by omega), show (wr (13 - 9)).toNat = 4 by decide, show (0 : Nat) + 1 = 1 from rfl, r_1 hW]
theorem r_c14 (hW : WD π S F i c) : f_X11_count_p3_0 S 0 14 = some (F 15 5, S) := by
  unfold f_X11_count_p3_0
  rw [if_neg (by decide), if_pos (by decide)]
  unfold f_X11_count_p3_0_b23
  rw [if_neg (by decide), if_neg (by decide), ckI_e (by omega), show (wr (14 - 9)).toNat = 5 by decide, show (0 : Nat) + 1 = 1 from rfl, r_1 hW]
theorem r_c15 (hW : WD π S F i c) : f_X11_count_p3_0 S 0 15 = some (F 15 6, S) := by
  unfold f_X11_count_p3_0
  rw [if_neg (by decide), if_pos (by decide)]
  unfold f_X11_count_p3_0_b23
  rw [if_neg (by decide), if_neg (by decide), ckI_e (by omega), show (wr (15 - 9)).toNat = 6 by decide, show (0 : Nat) + 1 = 1 from rfl, r_1 hW]
theorem r_c16 (hW : WD π S F i c) : f_X11_count_p3_0 S 0 16 = some (F 15 7, S) := by
  unfold f_X11_count_p3_0
  rw [if_neg (by decide), if_pos (by decide)]
  unfold f_X11_count_p3_0_b23
  rw [if_neg (by decide), if_neg (by decide), ckI_e (by omega), show (wr (16 - 9)).toNat = 7 by decide, show (0 : Nat) + 1 = 1 from rfl, r_1 hW]
theorem r_c17 (hW : WD π S F i c) : f_X11_count_p3_0 S 0 17 = some (F 15 8, S) := by
  unfold f_X11_count_p3_0
  rw [if_neg (by decide), if_pos (by decide)]
  unfold f_X11_count_p3_0_b23
  rw [if_neg (by decide), if_neg (by decide), ckI_e (by omega), show (wr (17 - 9)).toNat = 8 by decide, show (0 : Nat) + 1 = 1 from rfl, r_1 hW]
theorem r_c0 (hW : WD π S F i c) : f_X11_count_p3_0 S 0 0 = some (π 0 10, S) := by
  unfold f_X11_count_p3_0
  rw [if_pos (by decide)]
  unfold f_X11_count_p3_0_b23
  rw [if_pos (by decide)]
  unfold f_X11_count_p3_0_b51
  rw [if_neg (by decide), if_pos (by decide)]
  rw [r_p hW, r_q hW]
theorem r_c18 (hW : WD π S F i c) : f_X11_count_p3_0 S 0 18 = some (F 0 14, S) := by
  unfold f_X11_count_p3_0
  rw [if_neg (by decide), if_pos (by decide)]
  unfold f_X11_count_p3_0_b23
  rw [if_neg (by decide), if_pos (by decide)]
  unfold f_X11_count_p3_0_b51
  rw [if_neg (by decide), if_neg (by decide), if_neg (by decide), if_neg (by decide), if_neg (by decide), if_neg (by decide), if_neg (by decide), if_neg (by decide), if_neg (by decide), if_neg (by decide), if_neg (by decide), if_neg (by decide), if_neg (by decide), if_neg (by decide), if_neg (by decide), if_neg (by decide), if_neg (by decide), if_neg (by decide), if_neg (by decide), if_pos (by decide)]
  rw [show (0 : Nat) + 1 = 1 from rfl, r_1 hW]
theorem r_c19 (hW : WD π S F i c) : f_X11_count_p3_0 S 0 19 = some (F 5 2, S) := by
  unfold f_X11_count_p3_0
  rw [if_neg (by decide), if_pos (by decide)]
  unfold f_X11_count_p3_0_b23
  rw [if_neg (by decide), if_pos (by decide)]
  unfold f_X11_count_p3_0_b51
  rw [if_neg (by decide), if_neg (by decide), if_neg (by decide), if_neg (by decide), if_neg (by decide), if_neg (by decide), if_neg (by decide), if_neg (by decide), if_neg (by decide), if_neg (by decide), if_neg (by decide), if_neg (by decide), if_neg (by decide), if_neg (by decide), if_neg (by decide), if_neg (by decide), if_neg (by decide), if_neg (by decide), if_neg (by decide), if_neg (by decide), if_pos (by decide)]
  rw [show (0 : Nat) + 1 = 1 from rfl, r_1 hW]
theorem r_c24 (hW : WD π S F i c) : f_X11_count_p3_0 S 0 24 = some (c, S) := by
  unfold f_X11_count_p3_0
  rw [if_neg (by decide), if_pos (by decide)]
  unfold f_X11_count_p3_0_b23
  rw [if_neg (by decide), if_pos (by decide)]
  unfold f_X11_count_p3_0_b51
  rw [if_neg (by decide), if_neg (by decide), if_neg (by decide), if_neg (by decide), if_neg (by decide), if_neg (by decide), if_neg (by decide), if_neg (by decide), if_neg (by decide), if_neg (by decide), if_neg (by decide), if_neg (by decide), if_neg (by decide), if_neg (by decide), if_neg (by decide), if_neg (by decide), if_neg (by decide), if_neg (by decide), if_neg (by decide), if_neg (by decide), if_neg (by decide), if_neg (by decide), if_neg (by decide), if_neg (by decide), if_neg (by decide), if_pos (by decide)]
  exact congrArg (fun z => some (z, S)) hW.2.2.2.2.2.2.2.2
theorem r_bb (hW : WD π S F i c) {k : Int} (hk : 1 ≤ k ∧ k ≤ 8) : f_X11_bubbles_p3_0 S 0 k = some (F 16 k.toNat, S) := by
  unfold f_X11_bubbles_p3_0
  rw [wr_e (z := k) (by omega), wr_e (z := 1) (by omega), wr_e (z := 8) (by omega), if_neg (by omega), if_pos (by omega), ckI_e (by omega), show (0 : Nat) + 1 = 1 from rfl, r_1 hW]
theorem r_ab_b (hW : WD π S F i c) : ∀ (d : Nat) (x y : Int) (f : Nat), 1 ≤ x → x + d = 9 → d < f → f_L_allBubbles_p3_0_b4 0 f S y x = some (y + (sm (F 16) 9 - sm (F 16) x.toNat), S) := by
  intro d
  induction d with
  | zero =>
    intro x y f hx hd hf
    obtain ⟨f, rfl⟩ := fs_e (show 0 < f by omega)
    have e : x = 9 := by omega
    rw [f_L_allBubbles_p3_0_b4, wr_e (z := 8) (by omega), wr_e (z := x) (by omega), if_pos (by omega), e]
    exact congrArg (fun z => some (z, S)) (show y = y + (sm (F 16) 9 - sm (F 16) 9) by omega)
  | succ d ih =>
    intro x y f hx hd hf
    obtain ⟨f, rfl⟩ := fs_e (show 0 < f by omega)
    have e1 : (x + 1).toNat = x.toNat + 1 := by omega
    have e2 : sm (F 16) (x + 1).toNat = sm (F 16) x.toNat + F 16 x.toNat := by
      rw [e1]
      rfl
    rw [f_L_allBubbles_p3_0_b4, wr_e (z := 8) (by omega), wr_e (z := x) (by omega), if_neg (by omega), r_bb hW (by omega), bd2_e, ih (x + 1) _ f (by omega) (by omega) (by omega)]
    exact congrArg (fun z => some (z, S)) (by omega)
theorem r_ab (hW : WD π S F i c) : f_L_allBubbles_p3_0 S 0 = some (sm (F 16) 9 - F 16 0, S) := by
  have hf := hW.1
  unfold f_L_allBubbles_p3_0
  rw [r_ab_b hW 8 1 0 (fu S) (by decide) (by decide) (by show _ < S.1.1; omega)]
  exact congrArg (fun z => some (z, S)) (by show 0 + (sm (F 16) 9 - (0 + F 16 0)) = _; omega)
/-- the plain decoder of h stands behind d instructions -/
def PLO (π H : xR) (d : Nat) : Prop := H 10 1 = (plS π d).1 ∧ ∀ k : Nat, (k : Int) < π 0 10 → π 5 k = 9 → H 12 k = (plS π d).2 k
/-- h's content but for its plain decoder -/
def PLK (H H' : xR) : Prop := ∀ o k, o ≠ 10 → o ≠ 12 → H' o k = H o k
theorem sm_plk {H' : xR} (h : PLK (S.2.1 0) H') : SM S (sR S 0 H') := by
  refine ⟨rfl, fun k h0 h2 => ⟨sR_n1 h0, rfl⟩, fun z => ?_, rfl, fun k => ?_, ?_⟩
  · rw [sR_n1 (by decide)]
    exact z
  · rw [sR_g1]
    exact h 8 k (by decide) (by decide)
  · rw [sR_g1]
    exact h 0 9 (by decide) (by decide)
theorem p_gt0 (hR : PR π) (hq : ∀ H o k, gI (sR S 0 H) 12 o k = π o k) {k : Int} (hk : 0 ≤ k ∧ k < π 0 10) (ht : π 5 k.toNat = 9 → 0 ≤ H 12 k.toNat ∧ H 12 k.toNat ≤ 99) : f_X10_goesToTarget_p3_11_2_0 (sR S 0 H) 0 12 k = some (gtV π (H 12) k.toNat, sR S 0 (uG H 12 (gtF π (H 12) k.toNat))) := by
  have p0 := pr_n hR
  obtain ⟨k1, -, -, -, k5, -⟩ := pr_k hR (show (k.toNat : Int) < π 0 10 by omega)
  unfold f_X10_goesToTarget_p3_11_2_0 gtV gtF
  simp (disch := omega) only [lt1_e, bd_e, bd2_e, sR_g, sR_w, sR_a, sR_s, hq, ckI_e, wr_e, ite_not, uF_e, uF_o, uF_k, uG_e, uG_o, uN_e, uN_k]
  rw [if_neg (show ¬ k < 0 by omega), if_neg (show ¬ π 0 10 ≤ k by omega)]
  by_cases c : 8 ≤ π 5 k.toNat
  · rw [if_pos c]
    by_cases c2 : π 5 k.toNat = 8
    · rw [if_pos c2, if_pos c2, if_neg (show ¬ π 5 k.toNat = 9 by omega), uG_i]
    · have c9 : π 5 k.toNat = 9 := by omega
      have t1 := ht c9
      have t2 := k5 c9
      rw [if_neg c2, if_neg c2, if_pos c9, if_pos c9]
      by_cases c3 : π 8 k.toNat ≤ H 12 k.toNat
      · rw [if_pos c3, if_neg (show ¬ H 12 k.toNat < π 8 k.toNat by omega), if_neg (show ¬ H 12 k.toNat < π 8 k.toNat by omega), uF_G]
      · rw [if_neg c3, if_pos (show H 12 k.toNat < π 8 k.toNat by omega), if_pos (show H 12 k.toNat < π 8 k.toNat by omega), uF_G]
  · rw [if_neg c, if_neg (show ¬ π 5 k.toNat = 8 by omega), if_neg (show ¬ π 5 k.toNat = 9 by omega), if_neg (show ¬ π 5 k.toNat = 9 by omega), uG_i]
theorem p_nx0 (hR : PR π) (hq : ∀ H o k, gI (sR S 0 H) 12 o k = π o k) {d : Nat} (hP : PLO π H d) : ∃ H', f_X4_next_p3_10_2_0 (sR S 0 H) 0 12 = some (plV π (plS π d), sR S 0 H') ∧ PLO π H' (d + 1) ∧ PLK H H' := by
  have p0 := pr_n hR
  obtain ⟨g1, g2⟩ := pl_rng hR d
  obtain ⟨d1, d2⟩ := id hP
  by_cases c : π 0 10 ≤ (plS π d).1
  · refine ⟨H, ?_, ?_, fun _ _ _ _ => rfl⟩
    · have e : plV π (plS π d) = -1 := if_pos (Or.inr c)
      unfold f_X4_next_p3_10_2_0
      rw [sR_g, d1, wr_e (z := (plS π d).1) (by omega), if_neg (by omega), hq, wr_e (z := π 0 10) (by omega), if_neg (by omega), e]
    · have e : plS π (d + 1) = plS π d := if_pos (Or.inr c)
      unfold PLO
      rw [e]
      exact hP
  · have hk2 : ((H 10 1).toNat : Int) < π 0 10 := by omega
    have hg := p_gt0 (S := S) (H := H) hR hq (k := H 10 1) (by omega) (fun h => by rw [d2 _ hk2 h]; exact g2 _ hk2 h)
    obtain ⟨e1, e2⟩ := gt_pl (F := fun o k => if o = 11 then H 10 1 else if o = 15 then (d : Int) else H 12 k) hR ⟨d1, d2⟩ (show 0 ≤ H 10 1 ∧ H 10 1 < π 0 10 by omega)
    replace e1 : (plS π (d + 1)).1 = (if gtV π (H 12) (H 10 1).toNat = 1 then π 11 (H 10 1).toNat else H 10 1 + 1) := e1
    replace e2 : ∀ k : Nat, (k : Int) < π 0 10 → π 5 k = 9 → gtF π (H 12) (H 10 1).toNat k = (plS π (d + 1)).2 k := e2
    have h01 : gtV π (H 12) (H 10 1).toNat = 0 ∨ gtV π (H 12) (H 10 1).toNat = 1 := gtV_z
    refine ⟨uF (uG H 12 (gtF π (H 12) (H 10 1).toNat)) 10 1 (plS π (d + 1)).1, ?_, ⟨uF_e, fun k h1 h2 => ?_⟩, fun o k h1 h2 => ?_⟩
    · have e : plV π (plS π d) = (plS π d).1 := if_neg (by omega)
      unfold f_X4_next_p3_10_2_0
      rw [sR_g, wr_e (z := H 10 1) (by omega), if_neg (by omega), hq, wr_e (z := π 0 10) (by omega), if_pos (by omega), hg, bd2_e, e, ← d1, e1]
      rcases h01 with h | h
      · rw [h, if_pos (by decide), if_neg (by decide), lt1_e, sR_w]
      · rw [h, if_neg (by decide), if_pos rfl, ckI_e (by omega), lt1_e, hq, sR_w]
    · rw [uF_o (by decide), uG_e]
      exact e2 k h1 h2
    · rw [uF_o h1, uG_o h2]
theorem r_pl_b (hR : PR π) (hq : ∀ H o k, gI (sR S 0 H) 12 o k = π o k) (hp : ∀ H {β : Type} {f : Nat → Option β}, ckP (sR S 0 H) 0 0 4 2 0 f = f 12) {m : Int} (hm : 0 ≤ m ∧ m ≤ 9999) : ∀ (d : Nat) (x3 x2 : Int) (H : xR) (f : Nat), 0 ≤ x3 → x3 + d = m → PLO π H x3.toNat → d + 1 < f → ∃ H', f_X11_plain_p3_0_b33 0 f (sR S 0 H) m x2 x3 = some (plV π (plS π m.toNat), sR S 0 H') ∧ PLK H H' := by
  intro d
  induction d with
  | zero =>
    intro x3 x2 H f hx hd hP hf
    obtain ⟨f, rfl⟩ := fs_e (show 0 < f by omega)
    obtain ⟨H', e, -, hk⟩ := p_nx0 (S := S) hR hq hP
    have ex : x3 = m := by omega
    refine ⟨H', ?_, hk⟩
    rw [f_X11_plain_p3_0_b33, wr_e (z := m) (by omega), wr_e (z := x3) (by omega), if_neg (by omega), hp, e, bd2_e]
    obtain ⟨f, rfl⟩ := fs_e (show 0 < f by omega)
    rw [f_X11_plain_p3_0_b33, wr_e (z := m) (by omega), wr_e (z := x3 + 1) (by omega), if_pos (by omega), ex]
  | succ d ih =>
    intro x3 x2 H f hx hd hP hf
    obtain ⟨f, rfl⟩ := fs_e (show 0 < f by omega)
    obtain ⟨H1, e, h1, hk⟩ := p_nx0 (S := S) hR hq hP
    have ex : x3.toNat + 1 = (x3 + 1).toNat := by omega
    rw [ex] at h1
    obtain ⟨H', e2, hk2⟩ := ih (x3 + 1) (plV π (plS π x3.toNat)) H1 f (by omega) (by omega) h1 (by omega)
    refine ⟨H', ?_, fun o k a1 a2 => (hk2 o k a1 a2).trans (hk o k a1 a2)⟩
    rw [f_X11_plain_p3_0_b33, wr_e (z := m) (by omega), wr_e (z := x3) (by omega), if_neg (by omega), hp, e, bd2_e]
    exact e2
theorem r_fl_b : ∀ (d : Nat) (x : Int) (H : xR) (f : Nat), 0 ≤ x → x + d = 60 → (∀ k : Nat, (k : Int) < x → H 12 k = 0) → d < f → ∃ H', f_J7_fill_53178_p3_12_b5 0 f (sR S 0 H) 0 x 60 = some (sR S 0 H') ∧ (∀ k : Nat, k < 60 → H' 12 k = 0) ∧ ∀ o k, o ≠ 12 → H' o k = H o k := by
  intro d
  induction d with
  | zero =>
    intro x H f hx hd hz hf
    obtain ⟨f, rfl⟩ := fs_e (show 0 < f by omega)
    refine ⟨H, ?_, fun k hk => hz k (by omega), fun _ _ _ => rfl⟩
    rw [f_J7_fill_53178_p3_12_b5, wr_e (z := 60) (by omega), wr_e (z := x) (by omega), if_pos (by omega)]
  | succ d ih =>
    intro x H f hx hd hz hf
    obtain ⟨f, rfl⟩ := fs_e (show 0 < f by omega)
    obtain ⟨H', e, h1, h2⟩ := ih (x + 1) (uF H 12 x.toNat 0) f (by omega) (by omega) (fun k hk => by
      by_cases c : k = x.toNat
      · rw [c, uF_e]
      · rw [uF_k c]
        exact hz k (by omega)) (by omega)
    refine ⟨H', ?_, h1, fun o k ho => (h2 o k ho).trans (uF_o ho)⟩
    rw [f_J7_fill_53178_p3_12_b5, wr_e (z := 60) (by omega), wr_e (z := x) (by omega), if_neg (by omega), ckI_e (by omega), lt1_e, sR_w]
    exact e
/-- plain -/
theorem r_pl (hR : PR π) (hW : WD π S F i c) {m : Int} (hm : 0 ≤ m ∧ m ≤ 9999) : ∃ S', f_X11_plain_p3_0 S 0 m = some (plV π (plS π m.toNat), S') ∧ SM S S' := by
  have hf := hW.1
  have e0 : S = sR S 0 (S.2.1 0) := sR_i rfl
  obtain ⟨H1, e1, h1, h2⟩ := r_fl_b (S := S) 60 0 (S.2.1 0) (fu S) (by decide) (by decide) (fun k hk => absurd hk (by omega)) (by show _ < S.1.1; omega)
  have hP : PLO π (uF H1 10 1 0) (0 : Int).toNat := ⟨uF_e, fun k a1 a2 => by
    have p0 := pr_n hR
    rw [uF_o (by decide), h1 k (by omega)]
    rfl⟩
  obtain ⟨H2, e2, h3⟩ := r_pl_b (S := S) hR (fun H o k => (sR_n (by decide)).trans (r_q hW)) (fun H {β f} => ckP_e (hW.2.1) (hW.2.2.1)) hm m.toNat 0 (-1) (uF H1 10 1 0) (fu S) (by decide) (by omega) hP (by show _ < S.1.1; omega)
  refine ⟨sR S 0 H2, ?_, sm_plk (fun o k a1 a2 => ?_)⟩
  · unfold f_X11_plain_p3_0
    rw [wr_e (z := m) (by omega), wr_e (z := 9999) (by omega), if_neg (by omega), if_pos (by omega)]
    unfold f_X4_begin_p3_10 f_J7_fill_53178_p3_12
    rw [← e0] at e1
    rw [e1, bd_e, lt1_e, sR_w, bd_e, sR_fu, e2]
  · rw [h3 o k a1 a2, uF_o a1, h2 o k a2]
end C33
