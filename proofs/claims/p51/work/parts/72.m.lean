/-! mathematics: reading calls -/
section C32
variable {π F G H : xR} {S S' S2 : xSt} {i c : Int} {b : Nat} {B : Int}
theorem r_p (hW : WD π S F i c) {β : Type} {f : Nat → Option β} : ckP S 0 0 4 2 0 f = f 12 := ckP_e hW.2.1 hW.2.2.1
theorem r_1 (hW : WD π S F i c) {o k : Nat} : gI S 1 o k = F o k := by
  show S.2.1 1 o k = _
  rw [hW.2.2.2.2.2.1]
theorem r_q (hW : WD π S F i c) {o k : Nat} : gI S 12 o k = π o k := by
  show S.2.1 12 o k = _
  rw [hW.2.2.2.1]
theorem st_s (hR : PR π) {k : Nat} (hk : (k : Int) < π 0 10) : π 9 k + 1 ≤ π 9 (k + 1) ∧ π 9 (k + 1) ≤ π 9 k + 16 := by
  obtain ⟨k1, k2, -, -, -, -, k7, -⟩ := pr_k hR hk
  have h : ∀ i : Nat, i < 10 → 1 ≤ tbI 3 i ∧ tbI 3 i ≤ 15 := by decide +kernel
  have h3 := h (π 5 k).toNat (by omega)
  omega
theorem st_b (hR : PR π) : ∀ k : Nat, (k : Int) ≤ π 0 10 → 0 ≤ π 9 k ∧ π 9 k ≤ 16 * (k : Int) := by
  intro k
  induction k with
  | zero =>
    intro _
    have := hR.2.1
    omega
  | succ k ih =>
    intro hk
    have h1 := ih (by omega)
    have h2 := st_s hR (k := k) (by omega)
    omega
theorem st_m (hR : PR π) : ∀ (d j : Nat), ((j + d : Nat) : Int) ≤ π 0 10 → π 9 j ≤ π 9 (j + d) := by
  intro d
  induction d with
  | zero => exact fun j _ => Int.le_refl _
  | succ d ih =>
    intro j hj
    have h1 := ih j (by omega)
    have h2 := st_s hR (k := j + d) (by omega)
    have e : j + (d + 1) = j + d + 1 := rfl
    rw [e]
    omega
theorem r_so (hR : PR π) (hW : WD π S F i c) {a : Int} (ha : 0 ≤ a ∧ a ≤ π 0 10) : f_X5_startOf_p2_0 S 12 a = some (π 9 a.toNat, S) := by
  have p0 := pr_n hR
  unfold f_X5_startOf_p2_0
  rw [wr_e (z := a) (by omega), if_neg (by omega), r_q hW, wr_e (z := π 0 10) (by omega), if_neg (by omega), ckI_e (by omega), r_q hW]
theorem r_at_b (hR : PR π) (hW : WD π S F i c) {k a : Int} (hk : 0 ≤ k ∧ k < π 0 10) (ha : π 9 k.toNat ≤ a ∧ a < π 9 (k + 1).toNat) : ∀ (d : Nat) (x : Int) (f : Nat), 0 ≤ x → x + d = k → d < f → f_X11_at_p3_0_b8 0 f S a x = some (k, S) := by
  have p0 := pr_n hR
  have b1 := st_b hR (k + 1).toNat (by omega)
  have b0 := st_b hR k.toNat (by omega)
  intro d
  induction d with
  | zero =>
    intro x f hx hd hf
    have e : x = k := by omega
    subst e
    obtain ⟨f, rfl⟩ := fs_e (show 0 < f by omega)
    rw [f_X11_at_p3_0_b8, r_p hW, r_q hW, wr_e (z := π 0 10) (by omega), wr_e (z := x) (by omega), if_neg (by omega), r_p hW, r_so hR hW (by omega), bd2_e, wr_e (z := π 9 (x + 1).toNat) (by omega), wr_e (z := a) (by omega), if_neg (by omega)]
  | succ d ih =>
    intro x f hx hd hf
    obtain ⟨f, rfl⟩ := fs_e (show 0 < f by omega)
    have m1 := st_m hR d (x + 1).toNat (by omega)
    have e : (x + 1).toNat + d = k.toNat := by omega
    rw [e] at m1
    have b2 := st_b hR (x + 1).toNat (by omega)
    rw [f_X11_at_p3_0_b8, r_p hW, r_q hW, wr_e (z := π 0 10) (by omega), wr_e (z := x) (by omega), if_neg (by omega), r_p hW, r_so hR hW (by omega), bd2_e, wr_e (z := π 9 (x + 1).toNat) (by omega), wr_e (z := a) (by omega), if_pos (by omega)]
    exact ih (x + 1) f (by omega) (by omega) (by omega)
theorem r_at (hR : PR π) (hW : WD π S F i c) {k a : Int} (hk : 0 ≤ k ∧ k < π 0 10) (ha : π 9 k.toNat ≤ a ∧ a < π 9 (k + 1).toNat) : f_X11_at_p3_0 S 0 a = some (k, S) := by
  have p0 := pr_n hR
  have b1 := st_b hR (k + 1).toNat (by omega)
  have b0 := st_b hR k.toNat (by omega)
  have hf := hW.1
  unfold f_X11_at_p3_0
  rw [wr_e (z := a) (by omega), if_pos (by omega)]
  exact r_at_b hR hW hk ha k.toNat 0 _ (by decide) (by omega) (by show _ < S.1.1; omega)
theorem r_times (hR : PR π) (hW : WD π S F i c) {k : Int} (hk : 0 ≤ k ∧ k < π 0 10) : f_X11_times_p3_0 S 0 k = some (F 17 k.toNat, S) := by
  have p0 := pr_n hR
  unfold f_X11_times_p3_0
  rw [wr_e (z := k) (by omega), if_neg (by omega), r_p hW, r_q hW, wr_e (z := π 0 10) (by omega), if_pos (by omega), ckI_e (by omega), show (0 : Nat) + 1 = 1 from rfl, r_1 hW]
theorem r_in1 (hR : PR π) (hW : WD π S F i c) {k : Int} (hk : 0 ≤ k ∧ k < π 0 10) : f_X11_instruction_p3_0 S 0 k 1 = some (π 9 k.toNat, S) := by
  have p0 := pr_n hR
  unfold f_X11_instruction_p3_0
  rw [wr_e (z := k) (by omega), if_neg (by omega), r_p hW, r_q hW, wr_e (z := π 0 10) (by omega), if_pos (by omega), if_neg (by decide), if_neg (by decide), if_pos (by decide), r_p hW, ckI_e (by omega), r_q hW]
theorem r_in2 (hR : PR π) (hW : WD π S F i c) {k : Int} (hk : 0 ≤ k ∧ k < π 0 10) : f_X11_instruction_p3_0 S 0 k 2 = some (π 9 (k + 1).toNat - π 9 k.toNat, S) := by
  have p0 := pr_n hR
  have e1 := r_so hR hW (a := k + 1) (by omega)
  have e2 := r_so hR hW (a := k) (by omega)
  unfold f_X11_instruction_p3_0
  rw [wr_e (z := k) (by omega), if_neg (by omega), r_p hW, r_q hW, wr_e (z := π 0 10) (by omega), if_pos (by omega), if_neg (by decide), if_neg (by decide), if_neg (by decide), if_pos (by decide), r_p hW]
  unfold f_X5_lengthOf_p2_0
  rw [e1, bd2_e, e2, bd2_e, bd2_e]
/-- what was decoded of a kind -/
def ok1 (π F : xR) (kd : Int) : Nat → Int := fun j => if π 5 j = kd then F 17 j else 0
theorem r_ok_b (hR : PR π) (hW : WD π S F i c) {kd : Int} (hkd : 0 ≤ kd ∧ kd ≤ 9) : ∀ (d : Nat) (x x3 : Int) (f : Nat), 0 ≤ x → x + d = π 0 10 → d < f → f_X11_ofKind_p3_0_b25 0 f S kd 1 x3 x = some (x3 + (sm (ok1 π F kd) (π 0 10).toNat - sm (ok1 π F kd) x.toNat), S) := by
  have p0 := pr_n hR
  intro d
  induction d with
  | zero =>
    intro x x3 f hx hd hf
    obtain ⟨f, rfl⟩ := fs_e (show 0 < f by omega)
    have e : x = π 0 10 := by omega
    rw [f_X11_ofKind_p3_0_b25, r_p hW, r_q hW, wr_e (z := π 0 10) (by omega), wr_e (z := x) (by omega), if_pos (by omega), e]
    exact congrArg (fun z => some (z, S)) (by omega)
  | succ d ih =>
    intro x x3 f hx hd hf
    obtain ⟨f, rfl⟩ := fs_e (show 0 < f by omega)
    obtain ⟨k1, -⟩ := pr_k hR (show (x.toNat : Int) < π 0 10 by omega)
    have e1 : (x + 1).toNat = x.toNat + 1 := by omega
    have e2 : sm (ok1 π F kd) (x + 1).toNat = sm (ok1 π F kd) x.toNat + ok1 π F kd x.toNat := by
      rw [e1]
      rfl
    rw [f_X11_ofKind_p3_0_b25, r_p hW, r_q hW, wr_e (z := π 0 10) (by omega), wr_e (z := x) (by omega), if_neg (by omega), r_p hW, ckI_e (by omega), r_q hW, wr_e (z := π 5 x.toNat) (by omega), wr_e (z := kd) (by omega)]
    by_cases ck : π 5 x.toNat = kd
    · have e3 : ok1 π F kd x.toNat = F 17 x.toNat := if_pos ck
      rw [if_neg (by omega), if_neg (by decide), ckI_e (by omega), show (0 : Nat) + 1 = 1 from rfl, r_1 hW, ih (x + 1) _ f (by omega) (by omega) (by omega)]
      exact congrArg (fun z => some (z, S)) (by omega)
    · have e3 : ok1 π F kd x.toNat = 0 := if_neg ck
      rw [if_pos ck, ih (x + 1) _ f (by omega) (by omega) (by omega)]
      exact congrArg (fun z => some (z, S)) (by omega)
theorem r_ok (hR : PR π) (hW : WD π S F i c) {kd : Int} (hkd : 0 ≤ kd ∧ kd ≤ 9) : f_X11_ofKind_p3_0 S 0 kd 1 = some (sm (ok1 π F kd) (π 0 10).toNat, S) := by
  have p0 := pr_n hR
  have hf := hW.1
  have g := r_ok_b hR hW hkd (π 0 10).toNat 0 0 (fu S) (by decide) (by omega) (by show _ < S.1.1; omega)
  unfold f_X11_ofKind_p3_0
  rw [wr_e (z := kd) (by omega), wr_e (z := 10) (by omega), if_neg (by omega), if_pos (by omega), g]
  exact congrArg (fun z => some (z, S)) (by show 0 + (_ - 0) = _; omega)
/-- by kinds or not: the same sum -/
theorem sm_kd (hR : PR π) : ∀ m : Nat, (m : Int) ≤ π 0 10 → sm (fun j => sm (ok1 π F (j : Int)) m) 10 = sm (F 17) m := by
  intro m
  induction m with
  | zero => intro _; rfl
  | succ m ih =>
    intro hm
    have h := ih (by omega)
    obtain ⟨k1, -⟩ := pr_k hR (show (m : Int) < π 0 10 by omega)
    have a : ∀ j : Nat, ok1 π F (j : Int) m = if π 5 m = (j : Int) then F 17 m else 0 := fun j => rfl
    have e2 : sm (F 17) (m + 1) = sm (F 17) m + F 17 m := rfl
    rw [e2, ← h]
    simp only [sm]
    rcases (show π 5 m = 0 ∨ π 5 m = 1 ∨ π 5 m = 2 ∨ π 5 m = 3 ∨ π 5 m = 4 ∨ π 5 m = 5 ∨ π 5 m = 6 ∨ π 5 m = 7 ∨ π 5 m = 8 ∨ π 5 m = 9 by omega) with y | y | y | y | y | y | y | y | y | y
    · rw [a 0, y, if_pos (by decide)]; rw [a 1, y, if_neg (by decide)]; rw [a 2, y, if_neg (by decide)]; rw [a 3, y, if_neg (by decide)]; rw [a 4, y, if_neg (by decide)]; rw [a 5, y, if_neg (by decide)]; rw [a 6, y, if_neg (by decide)]; rw [a 7, y, if_neg (by decide)]; rw [a 8, y, if_neg (by decide)]; rw [a 9, y, if_neg (by decide)]; omega
    · rw [a 0, y, if_neg (by decide)]; rw [a 1, y, if_pos (by decide)]; rw [a 2, y, if_neg (by decide)]; rw [a 3, y, if_neg (by decide)]; rw [a 4, y, if_neg (by decide)]; rw [a 5, y, if_neg (by decide)]; rw [a 6, y, if_neg (by decide)]; rw [a 7, y, if_neg (by decide)]; rw [a 8, y, if_neg (by decide)]; rw [a 9, y, if_neg (by decide)]; omega
    · rw [a 0, y, if_neg (by decide)]; rw [a 1, y, if_neg (by decide)]; rw [a 2, y, if_pos (by decide)]; rw [a 3, y, if_neg (by decide)]; rw [a 4, y, if_neg (by decide)]; rw [a 5, y, if_neg (by decide)]; rw [a 6, y, if_neg (by decide)]; rw [a 7, y, if_neg (by decide)]; rw [a 8, y, if_neg (by decide)]; rw [a 9, y, if_neg (by decide)]; omega
    · rw [a 0, y, if_neg (by decide)]; rw [a 1, y, if_neg (by decide)]; rw [a 2, y, if_neg (by decide)]; rw [a 3, y, if_pos (by decide)]; rw [a 4, y, if_neg (by decide)]; rw [a 5, y, if_neg (by decide)]; rw [a 6, y, if_neg (by decide)]; rw [a 7, y, if_neg (by decide)]; rw [a 8, y, if_neg (by decide)]; rw [a 9, y, if_neg (by decide)]; omega
    · rw [a 0, y, if_neg (by decide)]; rw [a 1, y, if_neg (by decide)]; rw [a 2, y, if_neg (by decide)]; rw [a 3, y, if_neg (by decide)]; rw [a 4, y, if_pos (by decide)]; rw [a 5, y, if_neg (by decide)]; rw [a 6, y, if_neg (by decide)]; rw [a 7, y, if_neg (by decide)]; rw [a 8, y, if_neg (by decide)]; rw [a 9, y, if_neg (by decide)]; omega
    · rw [a 0, y, if_neg (by decide)]; rw [a 1, y, if_neg (by decide)]; rw [a 2, y, if_neg (by decide)]; rw [a 3, y, if_neg (by decide)]; rw [a 4, y, if_neg (by decide)]; rw [a 5, y, if_pos (by decide)]; rw [a 6, y, if_neg (by decide)]; rw [a 7, y, if_neg (by decide)]; rw [a 8, y, if_neg (by decide)]; rw [a 9, y, if_neg (by decide)]; omega
    · rw [a 0, y, if_neg (by decide)]; rw [a 1, y, if_neg (by decide)]; rw [a 2, y, if_neg (by decide)]; rw [a 3, y, if_neg (by decide)]; rw [a 4, y, if_neg (by decide)]; rw [a 5, y, if_neg (by decide)]; rw [a 6, y, if_pos (by decide)]; rw [a 7, y, if_neg (by decide)]; rw [a 8, y, if_neg (by decide)]; rw [a 9, y, if_neg (by decide)]; omega
    · rw [a 0, y, if_neg (by decide)]; rw [a 1, y, if_neg (by decide)]; rw [a 2, y, if_neg (by decide)]; rw [a 3, y, if_neg (by decide)]; rw [a 4, y, if_neg (by decide)]; rw [a 5, y, if_neg (by decide)]; rw [a 6, y, if_neg (by decide)]; rw [a 7, y, if_pos (by decide)]; rw [a 8, y, if_neg (by decide)]; rw [a 9, y, if_neg (by decide)]; omega
    · rw [a 0, y, if_neg (by decide)]; rw [a 1, y, if_neg (by decide)]; rw [a 2, y, if_neg (by decide)]; rw [a 3, y, if_neg (by decide)]; rw [a 4, y, if_neg (by decide)]; rw [a 5, y, if_neg (by decide)]; rw [a 6, y, if_neg (by decide)]; rw [a 7, y, if_neg (by decide)]; rw [a 8, y, if_pos (by decide)]; rw [a 9, y, if_neg (by decide)]; omega
    · rw [a 0, y, if_neg (by decide)]; rw [a 1, y, if_neg (by decide)]; rw [a 2, y, if_neg (by decide)]; rw [a 3, y, if_neg (by decide)]; rw [a 4, y, if_neg (by decide)]; rw [a 5, y, if_neg (by decide)]; rw [a 6, y, if_neg (by decide)]; rw [a 7, y, if_neg (by decide)]; rw [a 8, y, if_neg (by decide)]; rw [a 9, y, if_pos (by decide)]; omega
end C32
