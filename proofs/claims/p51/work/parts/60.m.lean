/-! mathematics: rows are filled, a Front begins -/
/-- a row whose first x are 0 -/
def zr (x : Int) (g : Nat → Int) : Nat → Int := fun k => if (k : Int) < x then 0 else g k
theorem zr_0 {g : Nat → Int} : zr 0 g = g := by
  funext k
  exact if_neg (by omega)
theorem zr_s {x : Int} {g : Nat → Int} (h : 0 ≤ x) : uN (zr x g) x.toNat 0 = zr (x + 1) g := by
  funext k
  unfold uN zr
  by_cases c : k = x.toNat
  · rw [if_pos c, if_pos (by omega)]
  · rw [if_neg c]
    by_cases c2 : (k : Int) < x
    · rw [if_pos c2, if_pos (by omega)]
    · rw [if_neg c2, if_neg (by omega)]
theorem zr_z {N : Nat} {g : Nat → Int} (h : ∀ k, ¬ k < N → g k = 0) : zr (N : Int) g = fun _ => 0 := by
  funext k
  unfold zr
  by_cases c : (k : Int) < N
  · rw [if_pos c]
  · rw [if_neg c, h k (by omega)]
section C19
variable {S : xSt} {r r1 q : Nat} {G π : xR}
theorem fl10_b : ∀ (d : Nat) (x : Int) (f : Nat), 0 ≤ x → x + d = 60 → d < f → f_J7_fill_53178_p1_10_b5 r f (sR S r (uG G 10 (zr x (G 10)))) 0 x 60 = some (sR S r (uG G 10 (zr 60 (G 10)))) := by
  intro d
  induction d with
  | zero =>
    intro x f h0 hd hf
    obtain ⟨f, rfl⟩ := fs_e (show 0 < f by omega)
    have e : x = 60 := by omega
    rw [f_J7_fill_53178_p1_10_b5, e, if_pos (by decide)]
  | succ d ih =>
    intro x f h0 hd hf
    obtain ⟨f, rfl⟩ := fs_e (show 0 < f by omega)
    rw [f_J7_fill_53178_p1_10_b5]
    simp (disch := omega) only [lt1_e, sR_w, wr_e, ckI_e]
    rw [if_neg (by omega), uF_G, uG_f, uG_G, zr_s h0]
    exact ih (x + 1) f (by omega) (by omega) (by omega)
theorem fl10 (hf : 10000000 ≤ fu S) (hz : ZB G) : f_J7_fill_53178_p1_10 (sR S r G) r 0 = some (sR S r (uG G 10 (fun _ => 0))) := by
  have h := fl10_b (S := S) (r := r) (G := G) 60 0 (fu S) (by decide) (by decide) (by omega)
  rw [zr_0, uG_i] at h
  unfold f_J7_fill_53178_p1_10
  rw [sR_fu, h]
  exact congrArg (fun X => some (sR S r (uG G 10 X))) (zr_z (N := 60) (fun k hk => hz 10 k (decide_eq_false hk)))
theorem fl13_b : ∀ (d : Nat) (x : Int) (f : Nat), 0 ≤ x → x + d = 60 → d < f → f_J7_fill_53178_p1_13_b5 r f (sR S r (uG G 13 (zr x (G 13)))) 0 x 60 = some (sR S r (uG G 13 (zr 60 (G 13)))) := by
  intro d
  induction d with
  | zero =>
    intro x f h0 hd hf
    obtain ⟨f, rfl⟩ := fs_e (show 0 < f by omega)
    have e : x = 60 := by omega
    rw [f_J7_fill_53178_p1_13_b5, e, if_pos (by decide)]
  | succ d ih =>
    intro x f h0 hd hf
    obtain ⟨f, rfl⟩ := fs_e (show 0 < f by omega)
    rw [f_J7_fill_53178_p1_13_b5]
    simp (disch := omega) only [lt1_e, sR_w, wr_e, ckI_e]
    rw [if_neg (by omega), uF_G, uG_f, uG_G, zr_s h0]
    exact ih (x + 1) f (by omega) (by omega) (by omega)
theorem fl13 (hf : 10000000 ≤ fu S) (hz : ZB G) : f_J7_fill_53178_p1_13 (sR S r G) r 0 = some (sR S r (uG G 13 (fun _ => 0))) := by
  have h := fl13_b (S := S) (r := r) (G := G) 60 0 (fu S) (by decide) (by decide) (by omega)
  rw [zr_0, uG_i] at h
  unfold f_J7_fill_53178_p1_13
  rw [sR_fu, h]
  exact congrArg (fun X => some (sR S r (uG G 13 X))) (zr_z (N := 60) (fun k hk => hz 13 k (decide_eq_false hk)))
theorem fl15_b : ∀ (d : Nat) (x : Int) (f : Nat), 0 ≤ x → x + d = 9 → d < f → f_J7_fill_53178_p1_15_b5 r f (sR S r (uG G 15 (zr x (G 15)))) 0 x 9 = some (sR S r (uG G 15 (zr 9 (G 15)))) := by
  intro d
  induction d with
  | zero =>
    intro x f h0 hd hf
    obtain ⟨f, rfl⟩ := fs_e (show 0 < f by omega)
    have e : x = 9 := by omega
    rw [f_J7_fill_53178_p1_15_b5, e, if_pos (by decide)]
  | succ d ih =>
    intro x f h0 hd hf
    obtain ⟨f, rfl⟩ := fs_e (show 0 < f by omega)
    rw [f_J7_fill_53178_p1_15_b5]
    simp (disch := omega) only [lt1_e, sR_w, wr_e, ckI_e]
    rw [if_neg (by omega), uF_G, uG_f, uG_G, zr_s h0]
    exact ih (x + 1) f (by omega) (by omega) (by omega)
theorem fl15 (hf : 10000000 ≤ fu S) (hz : ZB G) : f_J7_fill_53178_p1_15 (sR S r G) r 0 = some (sR S r (uG G 15 (fun _ => 0))) := by
  have h := fl15_b (S := S) (r := r) (G := G) 9 0 (fu S) (by decide) (by decide) (by omega)
  rw [zr_0, uG_i] at h
  unfold f_J7_fill_53178_p1_15
  rw [sR_fu, h]
  exact congrArg (fun X => some (sR S r (uG G 15 X))) (zr_z (N := 9) (fun k hk => hz 15 k (decide_eq_false hk)))
theorem fl16_b : ∀ (d : Nat) (x : Int) (f : Nat), 0 ≤ x → x + d = 9 → d < f → f_J7_fill_53178_p1_16_b5 r f (sR S r (uG G 16 (zr x (G 16)))) 0 x 9 = some (sR S r (uG G 16 (zr 9 (G 16)))) := by
  intro d
  induction d with
  | zero =>
    intro x f h0 hd hf
    obtain ⟨f, rfl⟩ := fs_e (show 0 < f by omega)
    have e : x = 9 := by omega
    rw [f_J7_fill_53178_p1_16_b5, e, if_pos (by decide)]
  | succ d ih =>
    intro x f h0 hd hf
    obtain ⟨f, rfl⟩ := fs_e (show 0 < f by omega)
    rw [f_J7_fill_53178_p1_16_b5]
    simp (disch := omega) only [lt1_e, sR_w, wr_e, ckI_e]
    rw [if_neg (by omega), uF_G, uG_f, uG_G, zr_s h0]
    exact ih (x + 1) f (by omega) (by omega) (by omega)
theorem fl16 (hf : 10000000 ≤ fu S) (hz : ZB G) : f_J7_fill_53178_p1_16 (sR S r G) r 0 = some (sR S r (uG G 16 (fun _ => 0))) := by
  have h := fl16_b (S := S) (r := r) (G := G) 9 0 (fu S) (by decide) (by decide) (by omega)
  rw [zr_0, uG_i] at h
  unfold f_J7_fill_53178_p1_16
  rw [sR_fu, h]
  exact congrArg (fun X => some (sR S r (uG G 16 X))) (zr_z (N := 9) (fun k hk => hz 16 k (decide_eq_false hk)))
theorem fl17_b : ∀ (d : Nat) (x : Int) (f : Nat), 0 ≤ x → x + d = 60 → d < f → f_J7_fill_53178_p1_17_b5 r f (sR S r (uG G 17 (zr x (G 17)))) 0 x 60 = some (sR S r (uG G 17 (zr 60 (G 17)))) := by
  intro d
  induction d with
  | zero =>
    intro x f h0 hd hf
    obtain ⟨f, rfl⟩ := fs_e (show 0 < f by omega)
    have e : x = 60 := by omega
    rw [f_J7_fill_53178_p1_17_b5, e, if_pos (by decide)]
  | succ d ih =>
    intro x f h0 hd hf
    obtain ⟨f, rfl⟩ := fs_e (show 0 < f by omega)
    rw [f_J7_fill_53178_p1_17_b5]
    simp (disch := omega) only [lt1_e, sR_w, wr_e, ckI_e]
    rw [if_neg (by omega), uF_G, uG_f, uG_G, zr_s h0]
    exact ih (x + 1) f (by omega) (by omega) (by omega)
theorem fl17 (hf : 10000000 ≤ fu S) (hz : ZB G) : f_J7_fill_53178_p1_17 (sR S r G) r 0 = some (sR S r (uG G 17 (fun _ => 0))) := by
  have h := fl17_b (S := S) (r := r) (G := G) 60 0 (fu S) (by decide) (by decide) (by omega)
  rw [zr_0, uG_i] at h
  unfold f_J7_fill_53178_p1_17
  rw [sR_fu, h]
  exact congrArg (fun X => some (sR S r (uG G 17 X))) (zr_z (N := 60) (fun k hk => hz 17 k (decide_eq_false hk)))
end C19
