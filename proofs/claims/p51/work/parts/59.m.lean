/-! mathematics: copyFrom -/
section C18
variable {T : xSt} {r0 r1 : Nat} {G A : xR}
theorem cp8 (h : r1 ≠ r0) (hA : T.2.1 r1 = A) (zA : ZB A) (zG : ZB G)  : f_X8_copyFrom_p1_2_1_2 (sR T r0 G) r0 r1 = some (sR T r0 (uF (uG (uG G 3 (A 3)) 4 (A 4)) 2 2 (A 2 2))) := by
  have gA : ∀ o k, gI T r1 o k = A o k := fun o k => by rw [← hA]; rfl
  unfold f_X8_copyFrom_p1_2_1_2
  rw [lt1_e, cp_row (a := (wr 0).toNat) (b := (wr 0).toNat) (n := (wr 7).toNat) (F := G) h hA rfl rfl (fun k hk => zA 3 k (decide_eq_false hk)) (fun k hk => zG 3 k (decide_eq_false hk))]
  rw [lt1_e, cp_row (a := (wr 0).toNat) (b := (wr 0).toNat) (n := (wr 7).toNat) (F := (uG G 3 (A 3))) h hA rfl rfl (fun k hk => zA 4 k (decide_eq_false hk)) (fun k hk => zG 4 k (decide_eq_false hk))]
  simp (disch := omega) only [lt1_e, bd_e, sR_n h, sR_w, gA, ckB_e]
theorem cp6 (h : r1 ≠ r0) (hA : T.2.1 r1 = A) (zA : ZB A) (zG : ZB G)  : f_X6_copyFrom_p1_5_1_5 (sR T r0 G) r0 r1 = some (sR T r0 (uF (uG (uG G 6 (A 6)) 7 (A 7)) 5 2 (A 5 2))) := by
  have gA : ∀ o k, gI T r1 o k = A o k := fun o k => by rw [← hA]; rfl
  unfold f_X6_copyFrom_p1_5_1_5
  rw [lt1_e, cp_row (a := (wr 0).toNat) (b := (wr 0).toNat) (n := (wr 20).toNat) (F := G) h hA rfl rfl (fun k hk => zA 6 k (decide_eq_false hk)) (fun k hk => zG 6 k (decide_eq_false hk))]
  rw [lt1_e, cp_row (a := (wr 0).toNat) (b := (wr 0).toNat) (n := (wr 20).toNat) (F := (uG G 6 (A 6))) h hA rfl rfl (fun k hk => zA 7 k (decide_eq_false hk)) (fun k hk => zG 7 k (decide_eq_false hk))]
  simp (disch := omega) only [lt1_e, bd_e, sR_n h, sR_w, gA, ckB_e]
theorem cp7 (h : r1 ≠ r0) (hA : T.2.1 r1 = A) (zA : ZB A) (zG : ZB G) (hb0 : A 8 0 = 0 ∨ A 8 0 = 1) : f_X7_copyFrom_p1_8_1_8 (sR T r0 G) r0 r1 = some (sR T r0 (uF (uF (uF (uF (uF G 8 0 (A 8 0)) 8 1 (A 8 1)) 8 2 (A 8 2)) 8 3 (A 8 3)) 8 4 (A 8 4))) := by
  have gA : ∀ o k, gI T r1 o k = A o k := fun o k => by rw [← hA]; rfl
  unfold f_X7_copyFrom_p1_8_1_8
  simp (disch := omega) only [lt1_e, bd_e, sR_n h, sR_w, gA, ckB_e]
theorem cp10 (h : r1 ≠ r0) (hA : T.2.1 r1 = A) (zA : ZB A) (zG : ZB G)  : f_X10_copyFrom_p1_9_1_9 (sR T r0 G) r0 r1 = some (sR T r0 (uG G 10 (A 10))) := by
  have gA : ∀ o k, gI T r1 o k = A o k := fun o k => by rw [← hA]; rfl
  unfold f_X10_copyFrom_p1_9_1_9
  rw [lt1_e, cp_row (a := (wr 0).toNat) (b := (wr 0).toNat) (n := (wr 60).toNat) (F := G) h hA rfl rfl (fun k hk => zA 10 k (decide_eq_false hk)) (fun k hk => zG 10 k (decide_eq_false hk))]
theorem cp12 (h : r1 ≠ r0) (hA : T.2.1 r1 = A) (zA : ZB A) (zG : ZB G)  : f_X10_copyFrom_p1_12_1_12 (sR T r0 G) r0 r1 = some (sR T r0 (uG G 13 (A 13))) := by
  have gA : ∀ o k, gI T r1 o k = A o k := fun o k => by rw [← hA]; rfl
  unfold f_X10_copyFrom_p1_12_1_12
  rw [lt1_e, cp_row (a := (wr 0).toNat) (b := (wr 0).toNat) (n := (wr 60).toNat) (F := G) h hA rfl rfl (fun k hk => zA 13 k (decide_eq_false hk)) (fun k hk => zG 13 k (decide_eq_false hk))]
theorem cp4 (h : r1 ≠ r0) (hA : T.2.1 r1 = A) (zA : ZB A) (zG : ZB G) : f_X4_copyFrom_p1_11_1_11 (sR T r0 G) r0 r1 = some (sR T r0 (uF (uG G 13 (A 13)) 11 1 (A 11 1))) := by
  have gA : ∀ o k, gI T r1 o k = A o k := fun o k => by rw [← hA]; rfl
  unfold f_X4_copyFrom_p1_11_1_11
  rw [cp12 h hA zA zG, bd_e]
  simp (disch := omega) only [lt1_e, sR_n h, sR_w, gA]
theorem cp9 (h : r1 ≠ r0) (hA : T.2.1 r1 = A) (zA : ZB A) (zG : ZB G)  : f_X9_copyFrom_p1_14_1_14 (sR T r0 G) r0 r1 = some (sR T r0 (uF (uG (uG (uG (uG G 15 (A 15)) 16 (A 16)) 17 (A 17)) 18 (A 18)) 14 4 (A 14 4))) := by
  have gA : ∀ o k, gI T r1 o k = A o k := fun o k => by rw [← hA]; rfl
  unfold f_X9_copyFrom_p1_14_1_14
  rw [lt1_e, cp_row (a := (wr 0).toNat) (b := (wr 0).toNat) (n := (wr 9).toNat) (F := G) h hA rfl rfl (fun k hk => zA 15 k (decide_eq_false hk)) (fun k hk => zG 15 k (decide_eq_false hk))]
  rw [lt1_e, cp_row (a := (wr 0).toNat) (b := (wr 0).toNat) (n := (wr 9).toNat) (F := (uG G 15 (A 15))) h hA rfl rfl (fun k hk => zA 16 k (decide_eq_false hk)) (fun k hk => zG 16 k (decide_eq_false hk))]
  rw [lt1_e, cp_row (a := (wr 0).toNat) (b := (wr 0).toNat) (n := (wr 60).toNat) (F := (uG (uG G 15 (A 15)) 16 (A 16))) h hA rfl rfl (fun k hk => zA 17 k (decide_eq_false hk)) (fun k hk => zG 17 k (decide_eq_false hk))]
  rw [lt1_e, cp_row (a := (wr 0).toNat) (b := (wr 0).toNat) (n := (wr 100).toNat) (F := (uG (uG (uG G 15 (A 15)) 16 (A 16)) 17 (A 17))) h hA rfl rfl (fun k hk => zA 18 k (decide_eq_false hk)) (fun k hk => zG 18 k (decide_eq_false hk))]
  simp (disch := omega) only [lt1_e, bd_e, sR_n h, sR_w, gA, ckB_e]
theorem p_copy {S : xSt} {q : Nat} (h : r1 ≠ r0) (hp : gP S r1 0 0 = (q, 0)) (hk : gk S q = 2) (hA : S.2.1 r1 = A) (zG : ZB G) (zA : ZB A) (b0 : A 0 11 = 0 ∨ A 0 11 = 1) (b1 : A 0 13 = 0 ∨ A 0 13 = 1) (b2 : A 8 0 = 0 ∨ A 8 0 = 1) : f_X0_copyFrom_p1_0_1_0 (sR S r0 G) r0 r1 = some (sR (wP S r0 0 0 (q, 0)) r0 A) := by
  have hA' : (wP S r0 0 0 (q, 0)).2.1 r1 = A := hA
  have gA : ∀ o k, gI (wP S r0 0 0 (q, 0)) r1 o k = A o k := fun o k => by rw [← hA]; rfl
  have fin := cp_all zG zA
  unfold cpF at fin
  unfold f_X0_copyFrom_p1_0_1_0
  rw [ckP_e (S := sR S r0 G) hp hk, lt1_e, wP_s]
  generalize wP S r0 0 0 (q, 0) = T at hA' gA
  rw [lt1_e, cp_row (a := (wr 0).toNat) (b := (wr 0).toNat) (n := (wr 6).toNat) (F := G) h hA' rfl rfl (fun k hk => zA 1 k (decide_eq_false hk)) (fun k hk => zG 1 k (decide_eq_false hk))]
  rw [cp8 h hA' zA (zb_G zG (zA 1)), bd_e]
  rw [cp6 h hA' zA (by repeat' first | exact zG | refine zb_F ?_ rfl | refine zb_G ?_ (zA _)), bd_e]
  rw [cp7 h hA' zA (by repeat' first | exact zG | refine zb_F ?_ rfl | refine zb_G ?_ (zA _)) b2, bd_e]
  rw [cp10 h hA' zA (by repeat' first | exact zG | refine zb_F ?_ rfl | refine zb_G ?_ (zA _)), bd_e]
  rw [cp4 h hA' zA (by repeat' first | exact zG | refine zb_F ?_ rfl | refine zb_G ?_ (zA _)), bd_e]
  rw [cp9 h hA' zA (by repeat' first | exact zG | refine zb_F ?_ rfl | refine zb_G ?_ (zA _)), bd_e]
  rw [lt1_e, cp_row (a := (wr 0).toNat) (b := (wr 0).toNat) (n := (wr 60).toNat) (o := 19) h hA' rfl rfl (fun k hk => zA 19 k (decide_eq_false hk)) ?z19]
  simp (disch := omega) only [lt1_e, sR_n h, sR_w, gA, ckB_e]
  exact congrArg (fun X => some (sR T r0 X)) fin
  case z19 => exact fun k hk => zG 19 k (decide_eq_false hk)
end C18
