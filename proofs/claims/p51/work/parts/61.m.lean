/-! mathematics: a Front begins -/
/-- the last that begin writes -/
def beE (X : xR) : xR := uF (uF (uF (uF (uF (uF (uF (uF (uF X 0 9 (-1)) 0 10 0) 0 11 0) 0 12 0) 0 13 0) 0 14 0) 0 15 0) 0 16 0) 0 17 0
/-- a row of the program's, n long, over another -/
def cpR (f g : Nat → Int) (n : Nat) : Nat → Int := cpI f g 0 0 n
/-- what begin makes of contents -/
def bgF (π G : xR) : xR := beE (uG (uF (uG (uG (uG (uF (uG (uG (uF (uF (uF (uG (uG (uG G 1 (cpR (π 1) (G 1) 6)) 3 (cpR (π 3) (G 3) 7)) 4 (cpR (π 4) (G 4) 7)) 2 2 (π 2 2)) 5 2 0) 8 0 0) 10 (fun _ => 0)) 13 (fun _ => 0)) 11 1 0) 15 (fun _ => 0)) 16 (fun _ => 0)) 17 (fun _ => 0)) 14 4 0) 19 (fun _ => 0))
section C20
variable {S : xSt} {r r1 q : Nat} {G π : xR}
theorem fl19_b : ∀ (d : Nat) (x : Int) (f : Nat), 0 ≤ x → x + d = 60 → d < f → f_X0_begin_p1_0_2_0_b74 r r1 f (sR S r (uG G 19 (zr x (G 19)))) x = some (sR S r (beE (uG G 19 (zr 60 (G 19))))) := by
  intro d
  induction d with
  | zero =>
    intro x f h0 hd hf
    obtain ⟨f, rfl⟩ := fs_e (show 0 < f by omega)
    have e : x = 60 := by omega
    rw [f_X0_begin_p1_0_2_0_b74, e, if_pos (by decide)]
    simp only [lt1_e, sR_w]
    rfl
  | succ d ih =>
    intro x f h0 hd hf
    obtain ⟨f, rfl⟩ := fs_e (show 0 < f by omega)
    rw [f_X0_begin_p1_0_2_0_b74]
    simp (disch := omega) only [lt1_e, sR_w, wr_e, ckI_e]
    rw [if_neg (by omega), uF_G, uG_f, uG_G, zr_s h0]
    exact ih (x + 1) f (by omega) (by omega) (by omega)
theorem fl19 (hf : 10000000 ≤ fu S) (hz : ZB G) : f_X0_begin_p1_0_2_0_b74 r r1 (fu S) (sR S r G) 0 = some (sR S r (beE (uG G 19 (fun _ => 0)))) := by
  have h := fl19_b (S := S) (r := r) (r1 := r1) (G := G) 60 0 (fu S) (by decide) (by decide) (by omega)
  rw [zr_0, uG_i] at h
  rw [h]
  exact congrArg (fun X => some (sR S r (beE (uG G 19 X)))) (zr_z (N := 60) (fun k hk => hz 19 k (decide_eq_false hk)))
theorem cpR_z {f g : Nat → Int} {n k : Nat} (h : ¬ k < n) (hg : g k = 0) : cpR f g n k = 0 := by
  unfold cpR cpI
  rw [if_neg (by omega), hg]
theorem cp_r2 {T : xSt} {o a b n : Nat} (h : r1 ≠ r) (hA : T.2.1 r1 = π) (ha : a = 0) (hb : b = 0) : wA (sR T r G) r o (cpI ((sR T r G).2.1 r1 o) ((sR T r G).2.1 r o) a b n) = sR T r (uG G o (cpR (π o) (G o) n)) := by
  subst ha hb
  rw [sR_a, sR_g1, sR_n1 h, hA]
  rfl
theorem p_begin (h : r1 ≠ r) (hA : S.2.1 r1 = π) (hf : 10000000 ≤ fu S) (zG : ZB G) : f_X0_begin_p1_0_2_0 (sR S r G) r r1 = some (sR (wP S r 0 0 (r1, 0)) r (bgF π G)) := by
  have hA' : (wP S r 0 0 (r1, 0)).2.1 r1 = π := hA
  have gA : ∀ o k, gI (wP S r 0 0 (r1, 0)) r1 o k = π o k := fun o k => by rw [← hA]; rfl
  have hf' : 10000000 ≤ fu (wP S r 0 0 (r1, 0)) := hf
  unfold f_X0_begin_p1_0_2_0
  rw [lt1_e, wP_s]
  generalize wP S r 0 0 (r1, 0) = T at hA' gA hf'
  have z1 : ZB (uG G 1 (cpR (π 1) (G 1) 6)) := zb_G zG (fun k hk => cpR_z (of_decide_eq_false hk) (zG 1 k hk))
  have z3 : ZB (uG (uG G 1 (cpR (π 1) (G 1) 6)) 3 (cpR (π 3) (G 3) 7)) := zb_G z1 (fun k hk => cpR_z (of_decide_eq_false hk) (zG 3 k hk))
  have z4 : ZB (uG (uG (uG G 1 (cpR (π 1) (G 1) 6)) 3 (cpR (π 3) (G 3) 7)) 4 (cpR (π 4) (G 4) 7)) := zb_G z3 (fun k hk => cpR_z (of_decide_eq_false hk) (zG 4 k hk))
  have z8 := zb_F (k := 0) (o := 8) (z := 0) (zb_F (k := 2) (o := 5) (z := 0) (zb_F (k := 2) (o := 2) (z := π 2 2) z4 rfl) rfl) rfl
  have zz : ∀ (o k : Nat), inb o k = false → (fun _ => 0 : Nat → Int) k = 0 := fun _ _ _ => rfl
  have z10 := zb_G z8 (zz 10)
  have z13 := zb_G z10 (zz 13)
  have z11 := zb_F (k := 1) (o := 11) (z := 0) z13 rfl
  have z15 := zb_G z11 (zz 15)
  have z16 := zb_G z15 (zz 16)
  have z17 := zb_G z16 (zz 17)
  have z14 := zb_F (k := 4) (o := 14) (z := 0) z17 rfl
  rw [lt1_e, cp_r2 (a := (wr 0).toNat) (b := (wr 0).toNat) (n := (wr 6).toNat) (G := G) h hA' rfl rfl]
  unfold f_X8_copyFrom_p1_2_2_2 f_X4_begin_p1_11 f_X9_clear_p1_14
  rw [lt1_e, cp_r2 (a := (wr 0).toNat) (b := (wr 0).toNat) (n := (wr 7).toNat) (o := 3) h hA' rfl rfl]
  rw [lt1_e, cp_r2 (a := (wr 0).toNat) (b := (wr 0).toNat) (n := (wr 7).toNat) (o := 4) h hA' rfl rfl]
  simp only [lt1_e, bd_e, sR_n h, sR_w, gA]
  have e1 := fl10 (r := r) hf' z8
  have e2 := fl13 (r := r) hf' z10
  have e3 := fl15 (r := r) hf' z11
  have e4 := fl16 (r := r) hf' z15
  have e5 := fl17 (r := r) hf' z16
  have e6 := fl19 (r := r) (r1 := r1) hf' z14
  refine (congrArg (fun X => bd X _) e1).trans ?_
  rw [bd_e, e2, bd_e]
  simp only [lt1_e, sR_w, bd_e]
  rw [e3, bd_e, e4, bd_e, e5, bd_e]
  simp only [lt1_e, sR_w, bd_e, sR_fu]
  exact e6
theorem bg_z (zG : ZB G) : ZB (bgF π G) := by
  have zz : ∀ (o k : Nat), inb o k = false → (fun _ => 0 : Nat → Int) k = 0 := fun _ _ _ => rfl
  unfold bgF beE
  repeat' first | refine zb_F ?_ rfl | refine zb_G ?_ (zz _)
  exact zb_G (zb_G (zb_G zG (fun k hk => cpR_z (of_decide_eq_false hk) (zG 1 k hk))) (fun k hk => cpR_z (of_decide_eq_false hk) (zG 3 k hk))) (fun k hk => cpR_z (of_decide_eq_false hk) (zG 4 k hk))
end C20
