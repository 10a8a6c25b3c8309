def f_X6_dropFirst_p1_5_b2 (r0 : Nat) : Nat → xSt → Int → Option (xSt)
  | 0, _, _ => none
  | fuel + 1, S, x1 =>
    if wr (gI S r0 5 2) ≤ wr x1 then
      (lt1 (wI S r0 5 2 (iMax ((gI S r0 5 2) - 1) 0)) fun S1 =>
      some S1)
    else
      (ckI x1 20 <|
      ckI (x1 - 1) 20 <|
      lt1 (wI S r0 6 (wr (x1 - 1)).toNat (gI S r0 6 (wr x1).toNat)) fun S4 =>
      ckI x1 20 <|
      ckI (x1 - 1) 20 <|
      ckB (gI S4 r0 7 (wr x1).toNat) <|
      lt1 (wI S4 r0 7 (wr (x1 - 1)).toNat (gI S4 r0 7 (wr x1).toNat)) fun S8 =>
      (f_X6_dropFirst_p1_5_b2 r0 fuel) S8 (x1 + 1))
def f_X6_dropFirst_p1_5 (S : xSt) (r0 : Nat) : Option (xSt) :=
  f_X6_dropFirst_p1_5_b2 r0 (fu S) S 1
set_option maxRecDepth 100000 in
set_option maxHeartbeats 4000000 in
theorem k_X6_dropFirst_p1_5_b2 {K : xCtx} {E : xE} {b : Nat} (hC : xOK K cX6_dropFirst RX6 2 (rmE 1 b)) (hZ : xZ K) {S' : xSt} (hE : xEnd K E none (YQv E S')) {r0 : Nat} (hk0 : xkd E r0 = 1) : ∀ (fuel : Nat) (S : xSt) (x1 : Int), f_X6_dropFirst_p1_5_b2 r0 fuel S x1 = some S' → WG K E 2 [(0, vr E r0 5), (1, vi x1)] [] S := by
  intro fuel
  induction fuel with
  | zero => intro S x1 h; cases h
  | succ fuel ih =>
    intro S x1 h
    rw [f_X6_dropFirst_p1_5_b2] at h
    refine g_iload_n hC rfl 1 rfl (rfl : 2 + 1 = 3) (xdt tt_X6_dropFirst 2 rfl) ?_
    refine g_aload_n hC rfl 0 rfl (rfl : 3 + 1 = 4) (xdt tt_X6_dropFirst 3 rfl) ?_
    refine g_getI hC hk0 kclX6 ly1_5 2 (by decide) rfl q648 (rfl : 4 + 3 = 7) (xdt tt_X6_dropFirst 4 rfl) ?_
    refine g_icmp_ge hC (show ((7 : Nat) : Int) + 37 = ((44 : Nat) : Int) by decide) (rfl : 7 + 3 = 10) (xdt tt_X6_dropFirst 5 rfl) (fun hc9 => ?_) (fun hc9 => ?_)
    · replace h := (if_pos hc9).symm.trans h
      refine g_aload_n hC rfl 0 rfl (rfl : 44 + 1 = 45) (xdt tt_X6_dropFirst 28 rfl) ?_
      refine g_aload_n hC rfl 0 rfl (rfl : 45 + 1 = 46) (xdt tt_X6_dropFirst 29 rfl) ?_
      refine g_getI hC hk0 kclX6 ly1_5 2 (by decide) rfl q648 (rfl : 46 + 3 = 49) (xdt tt_X6_dropFirst 30 rfl) ?_
      refine g_iconst hC (rfl : 49 + 1 = 50) (xdt tt_X6_dropFirst 31 rfl) ?_
      refine g_isub hC (rfl : 50 + 1 = 51) (xdt tt_X6_dropFirst 32 rfl) ?_
      refine g_iconst hC (rfl : 51 + 1 = 52) (xdt tt_X6_dropFirst 33 rfl) ?_
      refine g_mmax hC hZ q745 q242 q243 q244 (Nat.le_of_ble_eq_true rfl) (Nat.le_of_ble_eq_true rfl) (rfl : 52 + 3 = 55) (xdt tt_X6_dropFirst 34 rfl) ?_
      obtain ⟨S1, hS1, h⟩ := lt1_i h
      refine g_putI hC hk0 kclX6 ly1_5 2 (by decide) rfl rfl rfl q648 hS1 (rfl : 55 + 3 = 58) (xdt tt_X6_dropFirst 35 rfl) ?_
      cases h
      exact g_vret hC hE (xdt tt_X6_dropFirst 36 rfl)
    · replace h := (if_neg hc9).symm.trans h
      refine g_aload_n hC rfl 0 rfl (rfl : 10 + 1 = 11) (xdt tt_X6_dropFirst 6 rfl) ?_
      refine g_getP hC hk0 kclX6 ly1_5 0 (by decide) (rfl : r0 + 0 = r0) rfl q117 (rfl : 11 + 3 = 14) (xdt tt_X6_dropFirst 7 rfl) ?_
      refine g_iload_n hC rfl 1 rfl (rfl : 14 + 1 = 15) (xdt tt_X6_dropFirst 8 rfl) ?_
      refine g_iconst hC (rfl : 15 + 1 = 16) (xdt tt_X6_dropFirst 9 rfl) ?_
      refine g_isub hC (rfl : 16 + 1 = 17) (xdt tt_X6_dropFirst 10 rfl) ?_
      refine g_aload_n hC rfl 0 rfl (rfl : 17 + 1 = 18) (xdt tt_X6_dropFirst 11 rfl) ?_
      refine g_getP hC hk0 kclX6 ly1_5 0 (by decide) (rfl : r0 + 0 = r0) rfl q117 (rfl : 18 + 3 = 21) (xdt tt_X6_dropFirst 12 rfl) ?_
      refine g_iload_n hC rfl 1 rfl (rfl : 21 + 1 = 22) (xdt tt_X6_dropFirst 13 rfl) ?_
      obtain ⟨hi2, h⟩ := ckI_i h
      refine g_iald hC hk0 ly1_6 hi2 (rfl : 22 + 1 = 23) (xdt tt_X6_dropFirst 14 rfl) (k0 := (wr x1).toNat) rfl ?_
      obtain ⟨hi3, h⟩ := ckI_i h
      obtain ⟨S4, hS4, h⟩ := lt1_i h
      refine g_iast hC hk0 ly1_6 hi3 rfl hS4 (rfl : 23 + 1 = 24) (xdt tt_X6_dropFirst 15 rfl) ?_
      refine g_aload_n hC rfl 0 rfl (rfl : 24 + 1 = 25) (xdt tt_X6_dropFirst 16 rfl) ?_
      refine g_getP hC hk0 kclX6 ly1_5 1 (by decide) (rfl : r0 + 0 = r0) rfl q118 (rfl : 25 + 3 = 28) (xdt tt_X6_dropFirst 17 rfl) ?_
      refine g_iload_n hC rfl 1 rfl (rfl : 28 + 1 = 29) (xdt tt_X6_dropFirst 18 rfl) ?_
      refine g_iconst hC (rfl : 29 + 1 = 30) (xdt tt_X6_dropFirst 19 rfl) ?_
      refine g_isub hC (rfl : 30 + 1 = 31) (xdt tt_X6_dropFirst 20 rfl) ?_
      refine g_aload_n hC rfl 0 rfl (rfl : 31 + 1 = 32) (xdt tt_X6_dropFirst 21 rfl) ?_
      refine g_getP hC hk0 kclX6 ly1_5 1 (by decide) (rfl : r0 + 0 = r0) rfl q118 (rfl : 32 + 3 = 35) (xdt tt_X6_dropFirst 22 rfl) ?_
      refine g_iload_n hC rfl 1 rfl (rfl : 35 + 1 = 36) (xdt tt_X6_dropFirst 23 rfl) ?_
      obtain ⟨hi5, h⟩ := ckI_i h
      refine g_zald hC hk0 ly1_7 hi5 (rfl : 36 + 1 = 37) (xdt tt_X6_dropFirst 24 rfl) (k0 := (wr x1).toNat) rfl ?_
      obtain ⟨hi6, h⟩ := ckI_i h
      obtain ⟨hb7, h⟩ := ckB_i h
      obtain ⟨S8, hS8, h⟩ := lt1_i h
      refine g_zast hC hk0 ly1_7 hi6 hb7 rfl hS8 (rfl : 37 + 1 = 38) (xdt tt_X6_dropFirst 25 rfl) ?_
      refine g_iinc hC 1 rfl (by decide) (lv' := [(1, vi (x1 + 1)), (0, vr E r0 5)]) rfl (rfl : 38 + 3 = 41) (xdt tt_X6_dropFirst 26 rfl) ?_
      refine g_goto hC (show ((41 : Nat) : Int) + (-39) = ((2 : Nat) : Int) by decide) (xdt tt_X6_dropFirst 27 rfl) ?_
      refine g_sub [1, 0] (lv' := [(0, vr E r0 5), (1, vi (x1 + 1))]) rfl ?_
      exact ih _ _ h
set_option maxRecDepth 100000 in
set_option maxHeartbeats 4000000 in
theorem c_X6_dropFirst_p1_5 (l : Launch) {E : xE} {S S' : xSt} {r0 : Nat} (hk0 : xkd E r0 = 1) (h : f_X6_dropFirst_p1_5 S r0 = some S') : Met l yX6_dropFirst (xws yX6_dropFirst cX6_dropFirst 2 none) (rmD 1) (YPc E [vr E r0 5] S) (YQv E S') 0 0 (xA E) := by
  unfold f_X6_dropFirst_p1_5 at h
  refine met_v (by decide +kernel) (Nat.le_of_ble_eq_true rfl) (fun K hC hZ hE => ?_)
  have hC : xOK K cX6_dropFirst RX6 2 (rmE 1 0) := hC
  show WG K E 0 [(0, vr E r0 5)] [] S
  refine g_iconst hC (rfl : 0 + 1 = 1) (xdt tt_X6_dropFirst 0 rfl) ?_
  refine g_istore_n hC rfl (by decide) (lv' := [(1, vi 1), (0, vr E r0 5)]) rfl (rfl : 1 + 1 = 2) (xdt tt_X6_dropFirst 1 rfl) ?_
  refine g_sub [1, 0] (lv' := [(0, vr E r0 5), (1, vi 1)]) rfl ?_
  exact k_X6_dropFirst_p1_5_b2 hC hZ hE hk0 _ _ _ h
def f_X10_goesToTarget_p1_12_2_0 (S : xSt) (r0 : Nat) (r1 : Nat) (a2 : Int) : Option (Int × xSt) :=
  if wr a2 < 0 then
    (some (0, S))
  else
    (if wr (gI S r1 0 10) ≤ wr a2 then
      (some (0, S))
    else
      (ckI a2 60 <|
      if wr 8 ≤ wr (gI S r1 5 (wr a2).toNat) then
        (ckI a2 60 <|
        if ¬ wr (gI S r1 5 (wr a2).toNat) = wr 8 then
          (ckI a2 60 <|
          ckI a2 60 <|
          if wr (gI S r1 8 (wr a2).toNat) ≤ wr (gI S r0 13 (wr a2).toNat) then
            (ckI a2 60 <|
            lt1 (wI S r0 13 (wr a2).toNat 0) fun S6 =>
            some (0, S6))
          else
            (ckI a2 60 <|
            ckI a2 60 <|
            lt1 (wI S r0 13 (wr a2).toNat ((gI S r0 13 (wr a2).toNat) + 1)) fun S9 =>
            some (1, S9)))
        else
          (some (1, S)))
      else
        (some (0, S))))
set_option maxRecDepth 100000 in
set_option maxHeartbeats 4000000 in
theorem c_X10_goesToTarget_p1_12_2_0 (l : Launch) {E : xE} {S S' : xSt} {r0 : Nat} {r1 : Nat} {a2 : Int} (hk0 : xkd E r0 = 1) (hk1 : xkd E r1 = 2) {v : Int} (h : f_X10_goesToTarget_p1_12_2_0 S r0 r1 a2 = some (v, S')) : Met l yX10_goesToTarget (xws yX10_goesToTarget cX10_goesToTarget 3 (some .boolean)) (rmD 1) (YPc E [vr E r0 12, vr E r1 0, vi a2] S) (YQz E v S') 0 0 (xA E) := by
  unfold f_X10_goesToTarget_p1_12_2_0 at h
  refine met_z (by decide +kernel) (Nat.le_of_ble_eq_true rfl) (fun K hC hZ hE => ?_)
  have hC : xOK K cX10_goesToTarget RX10 3 (rmE 1 0) := hC
  show WG K E 0 [(0, vr E r0 12), (1, vr E r1 0), (2, vi a2)] [] S
  refine g_iload_n hC rfl 2 rfl (rfl : 0 + 1 = 1) (xdt tt_X10_goesToTarget 0 rfl) ?_
  refine g_if_lt hC (show ((1 : Nat) : Int) + 22 = ((23 : Nat) : Int) by decide) (rfl : 1 + 3 = 4) (xdt tt_X10_goesToTarget 1 rfl) (fun hc14 => ?_) (fun hc14 => ?_)
  · replace h := (if_pos hc14).symm.trans h
    refine g_iconst hC (rfl : 23 + 1 = 24) (xdt tt_X10_goesToTarget 12 rfl) ?_
    cases h
    exact g_zret hC hE (Or.inl rfl) (xdt tt_X10_goesToTarget 13 rfl)
  · replace h := (if_neg hc14).symm.trans h
    refine g_iload_n hC rfl 2 rfl (rfl : 4 + 1 = 5) (xdt tt_X10_goesToTarget 2 rfl) ?_
    refine g_aload_n hC rfl 1 rfl (rfl : 5 + 1 = 6) (xdt tt_X10_goesToTarget 3 rfl) ?_
    refine g_getI hC hk1 kclX5 ly2_0 10 (by decide) rfl q756 (rfl : 6 + 3 = 9) (xdt tt_X10_goesToTarget 4 rfl) ?_
    refine g_icmp_ge hC (show ((9 : Nat) : Int) + 14 = ((23 : Nat) : Int) by decide) (rfl : 9 + 3 = 12) (xdt tt_X10_goesToTarget 5 rfl) (fun hc13 => ?_) (fun hc13 => ?_)
    · replace h := (if_pos hc13).symm.trans h
      refine g_iconst hC (rfl : 23 + 1 = 24) (xdt tt_X10_goesToTarget 12 rfl) ?_
      cases h
      exact g_zret hC hE (Or.inl rfl) (xdt tt_X10_goesToTarget 13 rfl)
    · replace h := (if_neg hc13).symm.trans h
      refine g_aload_n hC rfl 1 rfl (rfl : 12 + 1 = 13) (xdt tt_X10_goesToTarget 6 rfl) ?_
      refine g_getP hC hk1 kclX5 ly2_0 2 (by decide) (rfl : r1 + 0 = r1) rfl q757 (rfl : 13 + 3 = 16) (xdt tt_X10_goesToTarget 7 rfl) ?_
      refine g_iload_n hC rfl 2 rfl (rfl : 16 + 1 = 17) (xdt tt_X10_goesToTarget 8 rfl) ?_
      obtain ⟨hi1, h⟩ := ckI_i h
      refine g_iald hC hk1 ly2_5 hi1 (rfl : 17 + 1 = 18) (xdt tt_X10_goesToTarget 9 rfl) (k0 := (wr a2).toNat) rfl ?_
      refine g_bipush hC (by decide) (rfl : 18 + 2 = 20) (xdt tt_X10_goesToTarget 10 rfl) ?_
      refine g_icmp_ge hC (show ((20 : Nat) : Int) + 5 = ((25 : Nat) : Int) by decide) (rfl : 20 + 3 = 23) (xdt tt_X10_goesToTarget 11 rfl) (fun hc12 => ?_) (fun hc12 => ?_)
      · replace h := (if_pos hc12).symm.trans h
        refine g_aload_n hC rfl 1 rfl (rfl : 25 + 1 = 26) (xdt tt_X10_goesToTarget 14 rfl) ?_
        refine g_getP hC hk1 kclX5 ly2_0 2 (by decide) (rfl : r1 + 0 = r1) rfl q757 (rfl : 26 + 3 = 29) (xdt tt_X10_goesToTarget 15 rfl) ?_
        refine g_iload_n hC rfl 2 rfl (rfl : 29 + 1 = 30) (xdt tt_X10_goesToTarget 16 rfl) ?_
        obtain ⟨hi2, h⟩ := ckI_i h
        refine g_iald hC hk1 ly2_5 hi2 (rfl : 30 + 1 = 31) (xdt tt_X10_goesToTarget 17 rfl) (k0 := (wr a2).toNat) rfl ?_
        refine g_bipush hC (by decide) (rfl : 31 + 2 = 33) (xdt tt_X10_goesToTarget 18 rfl) ?_
        refine g_icmp_ne hC (show ((33 : Nat) : Int) + 5 = ((38 : Nat) : Int) by decide) (rfl : 33 + 3 = 36) (xdt tt_X10_goesToTarget 19 rfl) (fun hc11 => ?_) (fun hc11 => ?_)
        · replace h := (if_pos hc11).symm.trans h
          refine g_aload_n hC rfl 0 rfl (rfl : 38 + 1 = 39) (xdt tt_X10_goesToTarget 22 rfl) ?_
          refine g_getP hC hk0 kclX10 ly1_12 0 (by decide) (rfl : r0 + 0 = r0) rfl q125 (rfl : 39 + 3 = 42) (xdt tt_X10_goesToTarget 23 rfl) ?_
          refine g_iload_n hC rfl 2 rfl (rfl : 42 + 1 = 43) (xdt tt_X10_goesToTarget 24 rfl) ?_
          obtain ⟨hi3, h⟩ := ckI_i h
          refine g_iald hC hk0 ly1_13 hi3 (rfl : 43 + 1 = 44) (xdt tt_X10_goesToTarget 25 rfl) (k0 := (wr a2).toNat) rfl ?_
          refine g_aload_n hC rfl 1 rfl (rfl : 44 + 1 = 45) (xdt tt_X10_goesToTarget 26 rfl) ?_
          refine g_getP hC hk1 kclX5 ly2_0 5 (by decide) (rfl : r1 + 0 = r1) rfl q758 (rfl : 45 + 3 = 48) (xdt tt_X10_goesToTarget 27 rfl) ?_
          refine g_iload_n hC rfl 2 rfl (rfl : 48 + 1 = 49) (xdt tt_X10_goesToTarget 28 rfl) ?_
          obtain ⟨hi4, h⟩ := ckI_i h
          refine g_iald hC hk1 ly2_8 hi4 (rfl : 49 + 1 = 50) (xdt tt_X10_goesToTarget 29 rfl) (k0 := (wr a2).toNat) rfl ?_
          refine g_icmp_ge hC (show ((50 : Nat) : Int) + 15 = ((65 : Nat) : Int) by decide) (rfl : 50 + 3 = 53) (xdt tt_X10_goesToTarget 30 rfl) (fun hc10 => ?_) (fun hc10 => ?_)
          · replace h := (if_pos hc10).symm.trans h
            refine g_aload_n hC rfl 0 rfl (rfl : 65 + 1 = 66) (xdt tt_X10_goesToTarget 41 rfl) ?_
            refine g_getP hC hk0 kclX10 ly1_12 0 (by decide) (rfl : r0 + 0 = r0) rfl q125 (rfl : 66 + 3 = 69) (xdt tt_X10_goesToTarget 42 rfl) ?_
            refine g_iload_n hC rfl 2 rfl (rfl : 69 + 1 = 70) (xdt tt_X10_goesToTarget 43 rfl) ?_
            refine g_iconst hC (rfl : 70 + 1 = 71) (xdt tt_X10_goesToTarget 44 rfl) ?_
            obtain ⟨hi5, h⟩ := ckI_i h
            obtain ⟨S6, hS6, h⟩ := lt1_i h
            refine g_iast hC hk0 ly1_13 hi5 rfl hS6 (rfl : 71 + 1 = 72) (xdt tt_X10_goesToTarget 45 rfl) ?_
            refine g_iconst hC (rfl : 72 + 1 = 73) (xdt tt_X10_goesToTarget 46 rfl) ?_
            cases h
            exact g_zret hC hE (Or.inl rfl) (xdt tt_X10_goesToTarget 47 rfl)
          · replace h := (if_neg hc10).symm.trans h
            refine g_aload_n hC rfl 0 rfl (rfl : 53 + 1 = 54) (xdt tt_X10_goesToTarget 31 rfl) ?_
            refine g_getP hC hk0 kclX10 ly1_12 0 (by decide) (rfl : r0 + 0 = r0) rfl q125 (rfl : 54 + 3 = 57) (xdt tt_X10_goesToTarget 32 rfl) ?_
            refine g_iload_n hC rfl 2 rfl (rfl : 57 + 1 = 58) (xdt tt_X10_goesToTarget 33 rfl) ?_
            refine g_dup2 hC rfl rfl (rfl : 58 + 1 = 59) (xdt tt_X10_goesToTarget 34 rfl) ?_
            obtain ⟨hi7, h⟩ := ckI_i h
            refine g_iald hC hk0 ly1_13 hi7 (rfl : 59 + 1 = 60) (xdt tt_X10_goesToTarget 35 rfl) (k0 := (wr a2).toNat) rfl ?_
            refine g_iconst hC (rfl : 60 + 1 = 61) (xdt tt_X10_goesToTarget 36 rfl) ?_
            refine g_iadd hC (rfl : 61 + 1 = 62) (xdt tt_X10_goesToTarget 37 rfl) ?_
            obtain ⟨hi8, h⟩ := ckI_i h
            obtain ⟨S9, hS9, h⟩ := lt1_i h
            refine g_iast hC hk0 ly1_13 hi8 rfl hS9 (rfl : 62 + 1 = 63) (xdt tt_X10_goesToTarget 38 rfl) ?_
            refine g_iconst hC (rfl : 63 + 1 = 64) (xdt tt_X10_goesToTarget 39 rfl) ?_
            cases h
            exact g_zret hC hE (Or.inr rfl) (xdt tt_X10_goesToTarget 40 rfl)
        · replace h := (if_neg hc11).symm.trans h
          refine g_iconst hC (rfl : 36 + 1 = 37) (xdt tt_X10_goesToTarget 20 rfl) ?_
          cases h
          exact g_zret hC hE (Or.inr rfl) (xdt tt_X10_goesToTarget 21 rfl)
      · replace h := (if_neg hc12).symm.trans h
        refine g_iconst hC (rfl : 23 + 1 = 24) (xdt tt_X10_goesToTarget 12 rfl) ?_
        cases h
        exact g_zret hC hE (Or.inl rfl) (xdt tt_X10_goesToTarget 13 rfl)
def f_X4_next_p1_11_2_0 (S : xSt) (r0 : Nat) (r1 : Nat) : Option (Int × xSt) :=
  if wr (gI S r0 11 1) < 0 then
    (some ((-1), S))
  else
    (if wr (gI S r0 11 1) < wr (gI S r1 0 10) then
      (bd2 (f_X10_goesToTarget_p1_12_2_0 S r0 r1 (gI S r0 11 1)) fun v3 S2 =>
      if wr v3 = 0 then
        (lt1 (wI S2 r0 11 1 ((gI S r0 11 1) + 1)) fun S5 =>
        some ((gI S r0 11 1), S5))
      else
        (ckI (gI S r0 11 1) 60 <|
        lt1 (wI S2 r0 11 1 (gI S2 r1 11 (wr (gI S r0 11 1)).toNat)) fun S7 =>
        some ((gI S r0 11 1), S7)))
    else
      (some ((-1), S)))
set_option maxRecDepth 100000 in
set_option maxHeartbeats 4000000 in
theorem c_X4_next_p1_11_2_0 (l : Launch) {E : xE} {S S' : xSt} {r0 : Nat} {r1 : Nat} (hk0 : xkd E r0 = 1) (hk1 : xkd E r1 = 2) {v : Int} (h : f_X4_next_p1_11_2_0 S r0 r1 = some (v, S')) : Met l yX4_next (xws yX4_next cX4_next 3 (some .int)) (rmD 2) (YPc E [vr E r0 11, vr E r1 0] S) (YQi E v S') 0 0 (xA E) := by
  unfold f_X4_next_p1_11_2_0 at h
  refine met_i (by decide +kernel) (Nat.le_of_ble_eq_true rfl) (fun K hC hZ hE => ?_)
  have hC : xOK K cX4_next RX4 3 (rmE 2 0) := hC
  show WG K E 0 [(0, vr E r0 11), (1, vr E r1 0)] [] S
  refine g_aload_n hC rfl 0 rfl (rfl : 0 + 1 = 1) (xdt tt_X4_next 0 rfl) ?_
  refine g_getI hC hk0 kclX4 ly1_11 1 (by decide) rfl q173 (rfl : 1 + 3 = 4) (xdt tt_X4_next 1 rfl) ?_
  refine g_istore_n hC rfl (by decide) (lv' := [(2, vi (gI S r0 11 1)), (0, vr E r0 11), (1, vr E r1 0)]) rfl (rfl : 4 + 1 = 5) (xdt tt_X4_next 2 rfl) ?_
  refine g_iload_n hC rfl 0 rfl (rfl : 5 + 1 = 6) (xdt tt_X4_next 3 rfl) ?_
  refine g_if_lt hC (show ((6 : Nat) : Int) + 11 = ((17 : Nat) : Int) by decide) (rfl : 6 + 3 = 9) (xdt tt_X4_next 4 rfl) (fun hc10 => ?_) (fun hc10 => ?_)
  · replace h := (if_pos hc10).symm.trans h
    refine g_iconst hC (rfl : 17 + 1 = 18) (xdt tt_X4_next 9 rfl) ?_
    cases h
    exact g_iret hC hE (xdt tt_X4_next 10 rfl)
  · replace h := (if_neg hc10).symm.trans h
    refine g_iload_n hC rfl 0 rfl (rfl : 9 + 1 = 10) (xdt tt_X4_next 5 rfl) ?_
    refine g_aload_n hC rfl 2 rfl (rfl : 10 + 1 = 11) (xdt tt_X4_next 6 rfl) ?_
    refine g_getI hC hk1 kclX5 ly2_0 10 (by decide) rfl q750 (rfl : 11 + 3 = 14) (xdt tt_X4_next 7 rfl) ?_
    refine g_icmp_lt hC (show ((14 : Nat) : Int) + 5 = ((19 : Nat) : Int) by decide) (rfl : 14 + 3 = 17) (xdt tt_X4_next 8 rfl) (fun hc9 => ?_) (fun hc9 => ?_)
    · replace h := (if_pos hc9).symm.trans h
      refine g_aload_n hC rfl 1 rfl (rfl : 19 + 1 = 20) (xdt tt_X4_next 11 rfl) ?_
      refine g_aload_n hC rfl 1 rfl (rfl : 20 + 1 = 21) (xdt tt_X4_next 12 rfl) ?_
      refine g_getP hC hk0 kclX4 ly1_11 0 (by decide) (rfl : r0 + 0 = r0) rfl q130 (rfl : 21 + 3 = 24) (xdt tt_X4_next 13 rfl) ?_
      refine g_aload_n hC rfl 2 rfl (rfl : 24 + 1 = 25) (xdt tt_X4_next 14 rfl) ?_
      refine g_iload_n hC rfl 0 rfl (rfl : 25 + 1 = 26) (xdt tt_X4_next 15 rfl) ?_
      obtain ⟨v3, S2, hc1, h⟩ := bd2_i h
      refine g_callVz hC hZ hk0 kclX10 ly1_12 m_X10_goesToTarget q752 (Nat.le_of_ble_eq_true rfl) [vr E r1 0, vi (gI S r0 11 1)] rfl (fun l => c_X10_goesToTarget_p1_12_2_0 l hk0 hk1 hc1) rfl (Nat.le_of_ble_eq_true rfl) (rfl : 26 + 3 = 29) (xdt tt_X4_next 16 rfl) (fun hb4 => ?_)
      refine g_if_eq hC (show ((29 : Nat) : Int) + 12 = ((41 : Nat) : Int) by decide) (rfl : 29 + 3 = 32) (xdt tt_X4_next 17 rfl) (fun hc8 => ?_) (fun hc8 => ?_)
      · replace h := (if_pos hc8).symm.trans h
        refine g_iload_n hC rfl 0 rfl (rfl : 41 + 1 = 42) (xdt tt_X4_next 23 rfl) ?_
        refine g_iconst hC (rfl : 42 + 1 = 43) (xdt tt_X4_next 24 rfl) ?_
        refine g_iadd hC (rfl : 43 + 1 = 44) (xdt tt_X4_next 25 rfl) ?_
        obtain ⟨S5, hS5, h⟩ := lt1_i h
        refine g_putI hC hk0 kclX4 ly1_11 1 (by decide) rfl rfl rfl q173 hS5 (rfl : 44 + 3 = 47) (xdt tt_X4_next 26 rfl) ?_
        refine g_iload_n hC rfl 0 rfl (rfl : 47 + 1 = 48) (xdt tt_X4_next 27 rfl) ?_
        cases h
        exact g_iret hC hE (xdt tt_X4_next 28 rfl)
      · replace h := (if_neg hc8).symm.trans h
        refine g_aload_n hC rfl 2 rfl (rfl : 32 + 1 = 33) (xdt tt_X4_next 18 rfl) ?_
        refine g_getP hC hk1 kclX5 ly2_0 8 (by decide) (rfl : r1 + 0 = r1) rfl q751 (rfl : 33 + 3 = 36) (xdt tt_X4_next 19 rfl) ?_
        refine g_iload_n hC rfl 0 rfl (rfl : 36 + 1 = 37) (xdt tt_X4_next 20 rfl) ?_
        obtain ⟨hi6, h⟩ := ckI_i h
        refine g_iald hC hk1 ly2_11 hi6 (rfl : 37 + 1 = 38) (xdt tt_X4_next 21 rfl) (k0 := (wr (gI S r0 11 1)).toNat) rfl ?_
        refine g_goto hC (show ((38 : Nat) : Int) + 6 = ((44 : Nat) : Int) by decide) (xdt tt_X4_next 22 rfl) ?_
        obtain ⟨S7, hS7, h⟩ := lt1_i h
        refine g_putI hC hk0 kclX4 ly1_11 1 (by decide) rfl rfl rfl q173 hS7 (rfl : 44 + 3 = 47) (xdt tt_X4_next 26 rfl) ?_
        refine g_iload_n hC rfl 0 rfl (rfl : 47 + 1 = 48) (xdt tt_X4_next 27 rfl) ?_
        cases h
        exact g_iret hC hE (xdt tt_X4_next 28 rfl)
    · replace h := (if_neg hc9).symm.trans h
      refine g_iconst hC (rfl : 17 + 1 = 18) (xdt tt_X4_next 9 rfl) ?_
      cases h
      exact g_iret hC hE (xdt tt_X4_next 10 rfl)
def f_X9_addDecoded_p1_14 (S : xSt) (r0 : Nat) (a1 : Int) (a2 : Int) : Option (xSt) :=
  if wr a1 < 0 then
    (some S)
  else
    (if wr a1 < wr 60 then
      (ckI a1 60 <|
      ckI a1 60 <|
      lt1 (wI S r0 17 (wr a1).toNat ((gI S r0 17 (wr a1).toNat) + 1)) fun S3 =>
      ckI (Int.tmod (wr (iMax (gI S3 r0 15 1) 0)) (wr 100)) 100 <|
      lt1 (wI S3 r0 18 (wr (Int.tmod (wr (iMax (gI S3 r0 15 1) 0)) (wr 100))).toNat a1) fun S5 =>
      lt1 (wI S5 r0 15 1 ((gI S5 r0 15 1) + 1)) fun S6 =>
      if ¬ wr a1 = wr a2 then
        (lt1 (wI S6 r0 14 4 0) fun S7 =>
        some S7)
      else
        (lt1 (wI S6 r0 14 4 ((gI S6 r0 14 4) + 1)) fun S8 =>
        some S8))
    else
      (some S))
set_option maxRecDepth 100000 in
set_option maxHeartbeats 4000000 in
theorem c_X9_addDecoded_p1_14 (l : Launch) {E : xE} {S S' : xSt} {r0 : Nat} {a1 : Int} {a2 : Int} (hk0 : xkd E r0 = 1) (h : f_X9_addDecoded_p1_14 S r0 a1 a2 = some S') : Met l yX9_addDecoded (xws yX9_addDecoded cX9_addDecoded 3 none) (rmD 1) (YPc E [vr E r0 14, vi a1, vi a2] S) (YQv E S') 0 0 (xA E) := by
  unfold f_X9_addDecoded_p1_14 at h
  refine met_v (by decide +kernel) (Nat.le_of_ble_eq_true rfl) (fun K hC hZ hE => ?_)
  have hC : xOK K cX9_addDecoded RX9 3 (rmE 1 0) := hC
  show WG K E 0 [(0, vr E r0 14), (1, vi a1), (2, vi a2)] [] S
  refine g_iload_n hC rfl 1 rfl (rfl : 0 + 1 = 1) (xdt tt_X9_addDecoded 0 rfl) ?_
  refine g_if_lt hC (show ((1 : Nat) : Int) + 9 = ((10 : Nat) : Int) by decide) (rfl : 1 + 3 = 4) (xdt tt_X9_addDecoded 1 rfl) (fun hc11 => ?_) (fun hc11 => ?_)
  · replace h := (if_pos hc11).symm.trans h
    cases h
    exact g_vret hC hE (xdt tt_X9_addDecoded 5 rfl)
  · replace h := (if_neg hc11).symm.trans h
    refine g_iload_n hC rfl 1 rfl (rfl : 4 + 1 = 5) (xdt tt_X9_addDecoded 2 rfl) ?_
    refine g_bipush hC (by decide) (rfl : 5 + 2 = 7) (xdt tt_X9_addDecoded 3 rfl) ?_
    refine g_icmp_lt hC (show ((7 : Nat) : Int) + 4 = ((11 : Nat) : Int) by decide) (rfl : 7 + 3 = 10) (xdt tt_X9_addDecoded 4 rfl) (fun hc10 => ?_) (fun hc10 => ?_)
    · replace h := (if_pos hc10).symm.trans h
      refine g_aload_n hC rfl 0 rfl (rfl : 11 + 1 = 12) (xdt tt_X9_addDecoded 6 rfl) ?_
      refine g_getP hC hk0 kclX9 ly1_14 2 (by decide) (rfl : r0 + 0 = r0) rfl q136 (rfl : 12 + 3 = 15) (xdt tt_X9_addDecoded 7 rfl) ?_
      refine g_iload_n hC rfl 1 rfl (rfl : 15 + 1 = 16) (xdt tt_X9_addDecoded 8 rfl) ?_
      refine g_dup2 hC rfl rfl (rfl : 16 + 1 = 17) (xdt tt_X9_addDecoded 9 rfl) ?_
      obtain ⟨hi1, h⟩ := ckI_i h
      refine g_iald hC hk0 ly1_17 hi1 (rfl : 17 + 1 = 18) (xdt tt_X9_addDecoded 10 rfl) (k0 := (wr a1).toNat) rfl ?_
      refine g_iconst hC (rfl : 18 + 1 = 19) (xdt tt_X9_addDecoded 11 rfl) ?_
      refine g_iadd hC (rfl : 19 + 1 = 20) (xdt tt_X9_addDecoded 12 rfl) ?_
      obtain ⟨hi2, h⟩ := ckI_i h
      obtain ⟨S3, hS3, h⟩ := lt1_i h
      refine g_iast hC hk0 ly1_17 hi2 rfl hS3 (rfl : 20 + 1 = 21) (xdt tt_X9_addDecoded 13 rfl) ?_
      refine g_aload_n hC rfl 0 rfl (rfl : 21 + 1 = 22) (xdt tt_X9_addDecoded 14 rfl) ?_
      refine g_getP hC hk0 kclX9 ly1_14 3 (by decide) (rfl : r0 + 0 = r0) rfl q137 (rfl : 22 + 3 = 25) (xdt tt_X9_addDecoded 15 rfl) ?_
      refine g_aload_n hC rfl 0 rfl (rfl : 25 + 1 = 26) (xdt tt_X9_addDecoded 16 rfl) ?_
      refine g_getP hC hk0 kclX9 ly1_14 0 (by decide) (rfl : r0 + 0 = r0) rfl q134 (rfl : 26 + 3 = 29) (xdt tt_X9_addDecoded 17 rfl) ?_
      refine g_iconst hC (rfl : 29 + 1 = 30) (xdt tt_X9_addDecoded 18 rfl) ?_
      refine g_iald hC hk0 ly1_15 (by decide) (rfl : 30 + 1 = 31) (xdt tt_X9_addDecoded 19 rfl) (k0 := 1) (by decide) ?_
      refine g_iconst hC (rfl : 31 + 1 = 32) (xdt tt_X9_addDecoded 20 rfl) ?_
      refine g_mmax hC hZ q763 q242 q243 q244 (Nat.le_of_ble_eq_true rfl) (Nat.le_of_ble_eq_true rfl) (rfl : 32 + 3 = 35) (xdt tt_X9_addDecoded 21 rfl) ?_
      refine g_bipush hC (by decide) (rfl : 35 + 2 = 37) (xdt tt_X9_addDecoded 22 rfl) ?_
      refine g_irem hC (by decide) (rfl : 37 + 1 = 38) (xdt tt_X9_addDecoded 23 rfl) ?_
      refine g_iload_n hC rfl 1 rfl (rfl : 38 + 1 = 39) (xdt tt_X9_addDecoded 24 rfl) ?_
      obtain ⟨hi4, h⟩ := ckI_i h
      obtain ⟨S5, hS5, h⟩ := lt1_i h
      refine g_iast hC hk0 ly1_18 hi4 rfl hS5 (rfl : 39 + 1 = 40) (xdt tt_X9_addDecoded 25 rfl) ?_
      refine g_aload_n hC rfl 0 rfl (rfl : 40 + 1 = 41) (xdt tt_X9_addDecoded 26 rfl) ?_
      refine g_getP hC hk0 kclX9 ly1_14 0 (by decide) (rfl : r0 + 0 = r0) rfl q134 (rfl : 41 + 3 = 44) (xdt tt_X9_addDecoded 27 rfl) ?_
      refine g_iconst hC (rfl : 44 + 1 = 45) (xdt tt_X9_addDecoded 28 rfl) ?_
      refine g_dup2 hC rfl rfl (rfl : 45 + 1 = 46) (xdt tt_X9_addDecoded 29 rfl) ?_
      refine g_iald hC hk0 ly1_15 (by decide) (rfl : 46 + 1 = 47) (xdt tt_X9_addDecoded 30 rfl) (k0 := 1) (by decide) ?_
      refine g_iconst hC (rfl : 47 + 1 = 48) (xdt tt_X9_addDecoded 31 rfl) ?_
      refine g_iadd hC (rfl : 48 + 1 = 49) (xdt tt_X9_addDecoded 32 rfl) ?_
      obtain ⟨S6, hS6, h⟩ := lt1_i h
      refine g_iast hC hk0 ly1_15 (by decide) (by decide) hS6 (rfl : 49 + 1 = 50) (xdt tt_X9_addDecoded 33 rfl) ?_
      refine g_aload_n hC rfl 0 rfl (rfl : 50 + 1 = 51) (xdt tt_X9_addDecoded 34 rfl) ?_
      refine g_iload_n hC rfl 1 rfl (rfl : 51 + 1 = 52) (xdt tt_X9_addDecoded 35 rfl) ?_
      refine g_iload_n hC rfl 2 rfl (rfl : 52 + 1 = 53) (xdt tt_X9_addDecoded 36 rfl) ?_
      refine g_icmp_ne hC (show ((53 : Nat) : Int) + 12 = ((65 : Nat) : Int) by decide) (rfl : 53 + 3 = 56) (xdt tt_X9_addDecoded 37 rfl) (fun hc9 => ?_) (fun hc9 => ?_)
      · replace h := (if_pos hc9).symm.trans h
        refine g_iconst hC (rfl : 65 + 1 = 66) (xdt tt_X9_addDecoded 43 rfl) ?_
        obtain ⟨S7, hS7, h⟩ := lt1_i h
        refine g_putI hC hk0 kclX9 ly1_14 4 (by decide) rfl rfl rfl q179 hS7 (rfl : 66 + 3 = 69) (xdt tt_X9_addDecoded 44 rfl) ?_
        cases h
        exact g_vret hC hE (xdt tt_X9_addDecoded 45 rfl)
      · replace h := (if_neg hc9).symm.trans h
        refine g_aload_n hC rfl 0 rfl (rfl : 56 + 1 = 57) (xdt tt_X9_addDecoded 38 rfl) ?_
        refine g_getI hC hk0 kclX9 ly1_14 4 (by decide) rfl q179 (rfl : 57 + 3 = 60) (xdt tt_X9_addDecoded 39 rfl) ?_
        refine g_iconst hC (rfl : 60 + 1 = 61) (xdt tt_X9_addDecoded 40 rfl) ?_
        refine g_iadd hC (rfl : 61 + 1 = 62) (xdt tt_X9_addDecoded 41 rfl) ?_
        refine g_goto hC (show ((62 : Nat) : Int) + 4 = ((66 : Nat) : Int) by decide) (xdt tt_X9_addDecoded 42 rfl) ?_
        obtain ⟨S8, hS8, h⟩ := lt1_i h
        refine g_putI hC hk0 kclX9 ly1_14 4 (by decide) rfl rfl rfl q179 hS8 (rfl : 66 + 3 = 69) (xdt tt_X9_addDecoded 44 rfl) ?_
        cases h
        exact g_vret hC hE (xdt tt_X9_addDecoded 45 rfl)
    · replace h := (if_neg hc10).symm.trans h
      cases h
      exact g_vret hC hE (xdt tt_X9_addDecoded 5 rfl)
def f_X0_decodeUnit_p1_0_b68 (c6 : xSt → Int → Int → Int → Int → Int → Option (Int × xSt)) (r0 : Nat) (S : xSt) (x1 : Int) (x2 : Int) (x3 : Int) (x4 : Int) (x5 : Int) : Option (Int × xSt) :=
  ckP S r0 0 0 2 0 fun rg10 =>
  bd2 (f_X4_next_p1_11_2_0 S r0 rg10) fun v13 S12 =>
  bd (f_X9_addDecoded_p1_14 S12 r0 x5 v13) fun S15 =>
  c6 S15 x1 x2 x3 x4 (x5 + 1)
def f_X0_decodeUnit_p1_0_b6 (r0 : Nat) : Nat → xSt → Int → Int → Int → Int → Int → Option (Int × xSt)
  | 0, _, _, _, _, _, _ => none
  | fuel + 1, S, x1, x2, x3, x4, x5 =>
    if wr x2 < wr x5 then
      (lt1 (wI S r0 0 14 ((gI S r0 0 14) + x3)) fun S1 =>
      lt1 (wI S1 r0 15 2 ((gI S1 r0 15 2) + x3)) fun S2 =>
      if wr x2 ≤ wr x1 then
        (lt1 (wI S2 r0 15 3 ((gI S2 r0 15 3) + 0)) fun S3 =>
        ckB x4 <|
        some (x4, S3))
      else
        (lt1 (wI S2 r0 15 3 ((gI S2 r0 15 3) + 1)) fun S5 =>
        ckB x4 <|
        some (x4, S5)))
    else
      (if wr (gI S r0 8 0) = 0 then
        (bd (f_X6_dropFirst_p1_5 S r0) fun S9 =>
        f_X0_decodeUnit_p1_0_b68 ((f_X0_decodeUnit_p1_0_b6 r0 fuel)) r0 S9 x1 x2 x3 (gI S r0 7 0) x5)
      else
        (lt1 (wI S r0 8 3 (x5 + 1)) fun S16 =>
        lt1 (wI S16 r0 15 8 ((gI S16 r0 15 8) + 1)) fun S17 =>
        f_X0_decodeUnit_p1_0_b68 ((f_X0_decodeUnit_p1_0_b6 r0 fuel)) r0 S17 x1 x2 x3 x4 x5))
def f_X0_decodeUnit_p1_0 (S : xSt) (r0 : Nat) (a1 : Int) (a2 : Int) (a3 : Int) : Option (Int × xSt) :=
  f_X0_decodeUnit_p1_0_b6 r0 (fu S) S a1 a2 a3 0 a1
set_option maxRecDepth 100000 in
set_option maxHeartbeats 4000000 in
theorem k_X0_decodeUnit_p1_0_b68 {K : xCtx} {E : xE} {b : Nat} (hC : xOK K cX0_decodeUnit RX0 6 (rmE 3 b)) (hZ : xZ K) {v : Int} {S' : xSt} (hE : xEnd K E (some .boolean) (YQz E v S')) {r0 : Nat} (hk0 : xkd E r0 = 1) {c6 : xSt → Int → Int → Int → Int → Int → Option (Int × xSt)} (hrec6 : ∀ (S : xSt) (x1 : Int) (x2 : Int) (x3 : Int) (x4 : Int) (x5 : Int), c6 S x1 x2 x3 x4 x5 = some (v, S') → WG K E 6 [(0, vr E r0 0), (1, vi x1), (2, vi x2), (3, vi x3), (4, vi x4), (5, vi x5)] [] S) : ∀ (S : xSt) (x1 : Int) (x2 : Int) (x3 : Int) (x4 : Int) (x5 : Int), f_X0_decodeUnit_p1_0_b68 c6 r0 S x1 x2 x3 x4 x5 = some (v, S') → WG K E 68 [(0, vr E r0 0), (1, vi x1), (2, vi x2), (3, vi x3), (4, vi x4), (5, vi x5)] [] S := by
  intro S x1 x2 x3 x4 x5 h
  unfold f_X0_decodeUnit_p1_0_b68 at h
  refine g_aload_n hC rfl 0 rfl (rfl : 68 + 1 = 69) (xdt tt_X0_decodeUnit 36 rfl) ?_
  refine g_getP hC hk0 kclX0 ly1_0 7 (by decide) (rfl : r0 + 0 = r0) rfl q112 (rfl : 69 + 3 = 72) (xdt tt_X0_decodeUnit 37 rfl) ?_
  refine g_iload hC 5 rfl (rfl : 72 + 2 = 74) (xdt tt_X0_decodeUnit 38 rfl) ?_
  refine g_aload_n hC rfl 0 rfl (rfl : 74 + 1 = 75) (xdt tt_X0_decodeUnit 39 rfl) ?_
  refine g_getP hC hk0 kclX0 ly1_0 6 (by decide) (rfl : r0 + 0 = r0) rfl q108 (rfl : 75 + 3 = 78) (xdt tt_X0_decodeUnit 40 rfl) ?_
  refine g_aload_n hC rfl 0 rfl (rfl : 78 + 1 = 79) (xdt tt_X0_decodeUnit 41 rfl) ?_
  obtain ⟨rg10, hrg10, grg10, h⟩ := ckP_i h
  refine g_getV hC hk0 kclX0 ly1_0 0 (by decide) rfl hrg10 grg10 (by decide) q142 (rfl : 79 + 3 = 82) (xdt tt_X0_decodeUnit 42 rfl) (fun krg10 => ?_)
  obtain ⟨v13, S12, hc11, h⟩ := bd2_i h
  refine g_callVi hC hZ hk0 kclX4 ly1_11 m_X4_next q746 (Nat.le_of_ble_eq_true rfl) [vr E rg10 0] rfl (fun l => c_X4_next_p1_11_2_0 l hk0 krg10 hc11) rfl (Nat.le_of_ble_eq_true rfl) (rfl : 82 + 3 = 85) (xdt tt_X0_decodeUnit 43 rfl) ?_
  obtain ⟨S15, hc14, h⟩ := bd_i h
  refine g_callVv hC hZ hk0 kclX9 ly1_14 m_X9_addDecoded q759 (Nat.le_of_ble_eq_true rfl) [vi x5, vi v13] rfl (fun l => c_X9_addDecoded_p1_14 l hk0 hc14) rfl (Nat.le_of_ble_eq_true rfl) (rfl : 85 + 3 = 88) (xdt tt_X0_decodeUnit 44 rfl) ?_
  refine g_iinc hC 5 rfl (by decide) (lv' := [(5, vi (x5 + 1)), (0, vr E r0 0), (1, vi x1), (2, vi x2), (3, vi x3), (4, vi x4)]) rfl (rfl : 88 + 3 = 91) (xdt tt_X0_decodeUnit 45 rfl) ?_
  refine g_goto hC (show ((91 : Nat) : Int) + (-85) = ((6 : Nat) : Int) by decide) (xdt tt_X0_decodeUnit 46 rfl) ?_
  refine g_sub [1, 2, 3, 4, 5, 0] (lv' := [(0, vr E r0 0), (1, vi x1), (2, vi x2), (3, vi x3), (4, vi x4), (5, vi (x5 + 1))]) rfl ?_
  exact hrec6 _ _ _ _ _ _ h
set_option maxRecDepth 100000 in
set_option maxHeartbeats 4000000 in
theorem k_X0_decodeUnit_p1_0_b6 {K : xCtx} {E : xE} {b : Nat} (hC : xOK K cX0_decodeUnit RX0 6 (rmE 3 b)) (hZ : xZ K) {v : Int} {S' : xSt} (hE : xEnd K E (some .boolean) (YQz E v S')) {r0 : Nat} (hk0 : xkd E r0 = 1) : ∀ (fuel : Nat) (S : xSt) (x1 : Int) (x2 : Int) (x3 : Int) (x4 : Int) (x5 : Int), f_X0_decodeUnit_p1_0_b6 r0 fuel S x1 x2 x3 x4 x5 = some (v, S') → WG K E 6 [(0, vr E r0 0), (1, vi x1), (2, vi x2), (3, vi x3), (4, vi x4), (5, vi x5)] [] S := by
  intro fuel
  induction fuel with
  | zero => intro S x1 x2 x3 x4 x5 h; cases h
  | succ fuel ih =>
    intro S x1 x2 x3 x4 x5 h
    rw [f_X0_decodeUnit_p1_0_b6] at h
    refine g_iload hC 5 rfl (rfl : 6 + 2 = 8) (xdt tt_X0_decodeUnit 4 rfl) ?_
    refine g_iload_n hC rfl 2 rfl (rfl : 8 + 1 = 9) (xdt tt_X0_decodeUnit 5 rfl) ?_
    refine g_icmp_gt hC (show ((9 : Nat) : Int) + 85 = ((94 : Nat) : Int) by decide) (rfl : 9 + 3 = 12) (xdt tt_X0_decodeUnit 6 rfl) (fun hc19 => ?_) (fun hc19 => ?_)
    · replace h := (if_pos hc19).symm.trans h
      refine g_aload_n hC rfl 0 rfl (rfl : 94 + 1 = 95) (xdt tt_X0_decodeUnit 47 rfl) ?_
      refine g_dup hC rfl (rfl : 95 + 1 = 96) (xdt tt_X0_decodeUnit 48 rfl) ?_
      refine g_getI hC hk0 kclX0 ly1_0 14 (by decide) rfl q154 (rfl : 96 + 3 = 99) (xdt tt_X0_decodeUnit 49 rfl) ?_
      refine g_iload_n hC rfl 3 rfl (rfl : 99 + 1 = 100) (xdt tt_X0_decodeUnit 50 rfl) ?_
      refine g_iadd hC (rfl : 100 + 1 = 101) (xdt tt_X0_decodeUnit 51 rfl) ?_
      obtain ⟨S1, hS1, h⟩ := lt1_i h
      refine g_putI hC hk0 kclX0 ly1_0 14 (by decide) rfl rfl rfl q154 hS1 (rfl : 101 + 3 = 104) (xdt tt_X0_decodeUnit 52 rfl) ?_
      refine g_aload_n hC rfl 0 rfl (rfl : 104 + 1 = 105) (xdt tt_X0_decodeUnit 53 rfl) ?_
      refine g_getP hC hk0 kclX0 ly1_0 7 (by decide) (rfl : r0 + 0 = r0) rfl q112 (rfl : 105 + 3 = 108) (xdt tt_X0_decodeUnit 54 rfl) ?_
      refine g_getP hC hk0 kclX9 ly1_14 0 (by decide) (rfl : r0 + 0 = r0) rfl q689 (rfl : 108 + 3 = 111) (xdt tt_X0_decodeUnit 55 rfl) ?_
      refine g_iconst hC (rfl : 111 + 1 = 112) (xdt tt_X0_decodeUnit 56 rfl) ?_
      refine g_dup2 hC rfl rfl (rfl : 112 + 1 = 113) (xdt tt_X0_decodeUnit 57 rfl) ?_
      refine g_iald hC hk0 ly1_15 (by decide) (rfl : 113 + 1 = 114) (xdt tt_X0_decodeUnit 58 rfl) (k0 := 2) (by decide) ?_
      refine g_iload_n hC rfl 3 rfl (rfl : 114 + 1 = 115) (xdt tt_X0_decodeUnit 59 rfl) ?_
      refine g_iadd hC (rfl : 115 + 1 = 116) (xdt tt_X0_decodeUnit 60 rfl) ?_
      obtain ⟨S2, hS2, h⟩ := lt1_i h
      refine g_iast hC hk0 ly1_15 (by decide) (by decide) hS2 (rfl : 116 + 1 = 117) (xdt tt_X0_decodeUnit 61 rfl) ?_
      refine g_aload_n hC rfl 0 rfl (rfl : 117 + 1 = 118) (xdt tt_X0_decodeUnit 62 rfl) ?_
      refine g_getP hC hk0 kclX0 ly1_0 7 (by decide) (rfl : r0 + 0 = r0) rfl q112 (rfl : 118 + 3 = 121) (xdt tt_X0_decodeUnit 63 rfl) ?_
      refine g_getP hC hk0 kclX9 ly1_14 0 (by decide) (rfl : r0 + 0 = r0) rfl q689 (rfl : 121 + 3 = 124) (xdt tt_X0_decodeUnit 64 rfl) ?_
      refine g_iconst hC (rfl : 124 + 1 = 125) (xdt tt_X0_decodeUnit 65 rfl) ?_
      refine g_dup2 hC rfl rfl (rfl : 125 + 1 = 126) (xdt tt_X0_decodeUnit 66 rfl) ?_
      refine g_iald hC hk0 ly1_15 (by decide) (rfl : 126 + 1 = 127) (xdt tt_X0_decodeUnit 67 rfl) (k0 := 3) (by decide) ?_
      refine g_iload_n hC rfl 2 rfl (rfl : 127 + 1 = 128) (xdt tt_X0_decodeUnit 68 rfl) ?_
      refine g_iload_n hC rfl 1 rfl (rfl : 128 + 1 = 129) (xdt tt_X0_decodeUnit 69 rfl) ?_
      refine g_icmp_le hC (show ((129 : Nat) : Int) + 7 = ((136 : Nat) : Int) by decide) (rfl : 129 + 3 = 132) (xdt tt_X0_decodeUnit 70 rfl) (fun hc7 => ?_) (fun hc7 => ?_)
      · replace h := (if_pos hc7).symm.trans h
        refine g_iconst hC (rfl : 136 + 1 = 137) (xdt tt_X0_decodeUnit 73 rfl) ?_
        refine g_iadd hC (rfl : 137 + 1 = 138) (xdt tt_X0_decodeUnit 74 rfl) ?_
        obtain ⟨S3, hS3, h⟩ := lt1_i h
        refine g_iast hC hk0 ly1_15 (by decide) (by decide) hS3 (rfl : 138 + 1 = 139) (xdt tt_X0_decodeUnit 75 rfl) ?_
        refine g_iload hC 4 rfl (rfl : 139 + 2 = 141) (xdt tt_X0_decodeUnit 76 rfl) ?_
        obtain ⟨hb4, h⟩ := ckB_i h
        cases h
        exact g_zret hC hE hb4 (xdt tt_X0_decodeUnit 77 rfl)
      · replace h := (if_neg hc7).symm.trans h
        refine g_iconst hC (rfl : 132 + 1 = 133) (xdt tt_X0_decodeUnit 71 rfl) ?_
        refine g_goto hC (show ((133 : Nat) : Int) + 4 = ((137 : Nat) : Int) by decide) (xdt tt_X0_decodeUnit 72 rfl) ?_
        refine g_iadd hC (rfl : 137 + 1 = 138) (xdt tt_X0_decodeUnit 74 rfl) ?_
        obtain ⟨S5, hS5, h⟩ := lt1_i h
        refine g_iast hC hk0 ly1_15 (by decide) (by decide) hS5 (rfl : 138 + 1 = 139) (xdt tt_X0_decodeUnit 75 rfl) ?_
        refine g_iload hC 4 rfl (rfl : 139 + 2 = 141) (xdt tt_X0_decodeUnit 76 rfl) ?_
        obtain ⟨hb6, h⟩ := ckB_i h
        cases h
        exact g_zret hC hE hb6 (xdt tt_X0_decodeUnit 77 rfl)
    · replace h := (if_neg hc19).symm.trans h
      refine g_aload_n hC rfl 0 rfl (rfl : 12 + 1 = 13) (xdt tt_X0_decodeUnit 7 rfl) ?_
      refine g_getP hC hk0 kclX0 ly1_0 4 (by decide) (rfl : r0 + 0 = r0) rfl q102 (rfl : 13 + 3 = 16) (xdt tt_X0_decodeUnit 8 rfl) ?_
      refine g_getI hC hk0 kclX7 ly1_8 0 (by decide) rfl q147 (rfl : 16 + 3 = 19) (xdt tt_X0_decodeUnit 9 rfl) ?_
      refine g_if_eq hC (show ((19 : Nat) : Int) + 31 = ((50 : Nat) : Int) by decide) (rfl : 19 + 3 = 22) (xdt tt_X0_decodeUnit 10 rfl) (fun hc18 => ?_) (fun hc18 => ?_)
      · replace h := (if_pos hc18).symm.trans h
        refine g_aload_n hC rfl 0 rfl (rfl : 50 + 1 = 51) (xdt tt_X0_decodeUnit 27 rfl) ?_
        refine g_getP hC hk0 kclX0 ly1_0 3 (by decide) (rfl : r0 + 0 = r0) rfl q98 (rfl : 51 + 3 = 54) (xdt tt_X0_decodeUnit 28 rfl) ?_
        refine g_getP hC hk0 kclX6 ly1_5 1 (by decide) (rfl : r0 + 0 = r0) rfl q740 (rfl : 54 + 3 = 57) (xdt tt_X0_decodeUnit 29 rfl) ?_
        refine g_iconst hC (rfl : 57 + 1 = 58) (xdt tt_X0_decodeUnit 30 rfl) ?_
        refine g_zald hC hk0 ly1_7 (by decide) (rfl : 58 + 1 = 59) (xdt tt_X0_decodeUnit 31 rfl) (k0 := 0) (by decide) ?_
        refine g_istore hC (by decide) (lv' := [(4, vi (gI S r0 7 0)), (0, vr E r0 0), (1, vi x1), (2, vi x2), (3, vi x3), (5, vi x5)]) rfl (rfl : 59 + 2 = 61) (xdt tt_X0_decodeUnit 32 rfl) ?_
        refine g_aload_n hC rfl 1 rfl (rfl : 61 + 1 = 62) (xdt tt_X0_decodeUnit 33 rfl) ?_
        refine g_getP hC hk0 kclX0 ly1_0 3 (by decide) (rfl : r0 + 0 = r0) rfl q98 (rfl : 62 + 3 = 65) (xdt tt_X0_decodeUnit 34 rfl) ?_
        obtain ⟨S9, hc8, h⟩ := bd_i h
        refine g_callVv hC hZ hk0 kclX6 ly1_5 m_X6_dropFirst q741 (Nat.le_of_ble_eq_true rfl) [] rfl (fun l => c_X6_dropFirst_p1_5 l hk0 hc8) rfl (Nat.le_of_ble_eq_true rfl) (rfl : 65 + 3 = 68) (xdt tt_X0_decodeUnit 35 rfl) ?_
        refine g_sub [1, 2, 3, 4, 0, 5] (lv' := [(0, vr E r0 0), (1, vi x1), (2, vi x2), (3, vi x3), (4, vi (gI S r0 7 0)), (5, vi x5)]) rfl ?_
        exact k_X0_decodeUnit_p1_0_b68 hC hZ hE hk0 ih _ _ _ _ _ _ h
      · replace h := (if_neg hc18).symm.trans h
        refine g_aload_n hC rfl 0 rfl (rfl : 22 + 1 = 23) (xdt tt_X0_decodeUnit 11 rfl) ?_
        refine g_getP hC hk0 kclX0 ly1_0 4 (by decide) (rfl : r0 + 0 = r0) rfl q102 (rfl : 23 + 3 = 26) (xdt tt_X0_decodeUnit 12 rfl) ?_
        refine g_iload hC 5 rfl (rfl : 26 + 2 = 28) (xdt tt_X0_decodeUnit 13 rfl) ?_
        refine g_iconst hC (rfl : 28 + 1 = 29) (xdt tt_X0_decodeUnit 14 rfl) ?_
        refine g_iadd hC (rfl : 29 + 1 = 30) (xdt tt_X0_decodeUnit 15 rfl) ?_
        obtain ⟨S16, hS16, h⟩ := lt1_i h
        refine g_putI hC hk0 kclX7 ly1_8 3 (by decide) rfl rfl rfl q703 hS16 (rfl : 30 + 3 = 33) (xdt tt_X0_decodeUnit 16 rfl) ?_
        refine g_aload_n hC rfl 0 rfl (rfl : 33 + 1 = 34) (xdt tt_X0_decodeUnit 17 rfl) ?_
        refine g_getP hC hk0 kclX0 ly1_0 7 (by decide) (rfl : r0 + 0 = r0) rfl q112 (rfl : 34 + 3 = 37) (xdt tt_X0_decodeUnit 18 rfl) ?_
        refine g_getP hC hk0 kclX9 ly1_14 0 (by decide) (rfl : r0 + 0 = r0) rfl q689 (rfl : 37 + 3 = 40) (xdt tt_X0_decodeUnit 19 rfl) ?_
        refine g_bipush hC (by decide) (rfl : 40 + 2 = 42) (xdt tt_X0_decodeUnit 20 rfl) ?_
        refine g_dup2 hC rfl rfl (rfl : 42 + 1 = 43) (xdt tt_X0_decodeUnit 21 rfl) ?_
        refine g_iald hC hk0 ly1_15 (by decide) (rfl : 43 + 1 = 44) (xdt tt_X0_decodeUnit 22 rfl) (k0 := 8) (by decide) ?_
        refine g_iconst hC (rfl : 44 + 1 = 45) (xdt tt_X0_decodeUnit 23 rfl) ?_
        refine g_iadd hC (rfl : 45 + 1 = 46) (xdt tt_X0_decodeUnit 24 rfl) ?_
        obtain ⟨S17, hS17, h⟩ := lt1_i h
        refine g_iast hC hk0 ly1_15 (by decide) (by decide) hS17 (rfl : 46 + 1 = 47) (xdt tt_X0_decodeUnit 25 rfl) ?_
        refine g_goto hC (show ((47 : Nat) : Int) + 21 = ((68 : Nat) : Int) by decide) (xdt tt_X0_decodeUnit 26 rfl) ?_
        refine g_sub [0, 1, 2, 3, 4, 5] (lv' := [(0, vr E r0 0), (1, vi x1), (2, vi x2), (3, vi x3), (4, vi x4), (5, vi x5)]) rfl ?_
        exact k_X0_decodeUnit_p1_0_b68 hC hZ hE hk0 ih _ _ _ _ _ _ h
set_option maxRecDepth 100000 in
set_option maxHeartbeats 4000000 in
theorem c_X0_decodeUnit_p1_0 (l : Launch) {E : xE} {S S' : xSt} {r0 : Nat} {a1 : Int} {a2 : Int} {a3 : Int} (hk0 : xkd E r0 = 1) {v : Int} (h : f_X0_decodeUnit_p1_0 S r0 a1 a2 a3 = some (v, S')) : Met l yX0_decodeUnit (xws yX0_decodeUnit cX0_decodeUnit 6 (some .boolean)) (rmD 3) (YPc E [vr E r0 0, vi a1, vi a2, vi a3] S) (YQz E v S') 0 0 (xA E) := by
  unfold f_X0_decodeUnit_p1_0 at h
  refine met_z (by decide +kernel) (Nat.le_of_ble_eq_true rfl) (fun K hC hZ hE => ?_)
  have hC : xOK K cX0_decodeUnit RX0 6 (rmE 3 0) := hC
  show WG K E 0 [(0, vr E r0 0), (1, vi a1), (2, vi a2), (3, vi a3)] [] S
  refine g_iconst hC (rfl : 0 + 1 = 1) (xdt tt_X0_decodeUnit 0 rfl) ?_
  refine g_istore hC (by decide) (lv' := [(4, vi 0), (0, vr E r0 0), (1, vi a1), (2, vi a2), (3, vi a3)]) rfl (rfl : 1 + 2 = 3) (xdt tt_X0_decodeUnit 1 rfl) ?_
  refine g_iload_n hC rfl 2 rfl (rfl : 3 + 1 = 4) (xdt tt_X0_decodeUnit 2 rfl) ?_
  refine g_istore hC (by decide) (lv' := [(5, vi a1), (4, vi 0), (0, vr E r0 0), (1, vi a1), (2, vi a2), (3, vi a3)]) rfl (rfl : 4 + 2 = 6) (xdt tt_X0_decodeUnit 3 rfl) ?_
  refine g_sub [2, 3, 4, 5, 1, 0] (lv' := [(0, vr E r0 0), (1, vi a1), (2, vi a2), (3, vi a3), (4, vi 0), (5, vi a1)]) rfl ?_
  exact k_X0_decodeUnit_p1_0_b6 hC hZ hE hk0 _ _ _ _ _ _ _ h
def f_X10_goesToTarget_p1_9_2_0 (S : xSt) (r0 : Nat) (r1 : Nat) (a2 : Int) : Option (Int × xSt) :=
  if wr a2 < 0 then
    (some (0, S))
  else
    (if wr (gI S r1 0 10) ≤ wr a2 then
      (some (0, S))
    else
      (ckI a2 60 <|
      if wr 8 ≤ wr (gI S r1 5 (wr a2).toNat) then
        (ckI a2 60 <|
        if ¬ wr (gI S r1 5 (wr a2).toNat) = wr 8 then
          (ckI a2 60 <|
          ckI a2 60 <|
          if wr (gI S r1 8 (wr a2).toNat) ≤ wr (gI S r0 10 (wr a2).toNat) then
            (ckI a2 60 <|
            lt1 (wI S r0 10 (wr a2).toNat 0) fun S6 =>
            some (0, S6))
          else
            (ckI a2 60 <|
            ckI a2 60 <|
            lt1 (wI S r0 10 (wr a2).toNat ((gI S r0 10 (wr a2).toNat) + 1)) fun S9 =>
            some (1, S9)))
        else
          (some (1, S)))
      else
        (some (0, S))))
set_option maxRecDepth 100000 in
set_option maxHeartbeats 4000000 in
theorem c_X10_goesToTarget_p1_9_2_0 (l : Launch) {E : xE} {S S' : xSt} {r0 : Nat} {r1 : Nat} {a2 : Int} (hk0 : xkd E r0 = 1) (hk1 : xkd E r1 = 2) {v : Int} (h : f_X10_goesToTarget_p1_9_2_0 S r0 r1 a2 = some (v, S')) : Met l yX10_goesToTarget (xws yX10_goesToTarget cX10_goesToTarget 3 (some .boolean)) (rmD 1) (YPc E [vr E r0 9, vr E r1 0, vi a2] S) (YQz E v S') 0 0 (xA E) := by
  unfold f_X10_goesToTarget_p1_9_2_0 at h
  refine met_z (by decide +kernel) (Nat.le_of_ble_eq_true rfl) (fun K hC hZ hE => ?_)
  have hC : xOK K cX10_goesToTarget RX10 3 (rmE 1 0) := hC
  show WG K E 0 [(0, vr E r0 9), (1, vr E r1 0), (2, vi a2)] [] S
  refine g_iload_n hC rfl 2 rfl (rfl : 0 + 1 = 1) (xdt tt_X10_goesToTarget 0 rfl) ?_
  refine g_if_lt hC (show ((1 : Nat) : Int) + 22 = ((23 : Nat) : Int) by decide) (rfl : 1 + 3 = 4) (xdt tt_X10_goesToTarget 1 rfl) (fun hc14 => ?_) (fun hc14 => ?_)
  · replace h := (if_pos hc14).symm.trans h
    refine g_iconst hC (rfl : 23 + 1 = 24) (xdt tt_X10_goesToTarget 12 rfl) ?_
    cases h
    exact g_zret hC hE (Or.inl rfl) (xdt tt_X10_goesToTarget 13 rfl)
  · replace h := (if_neg hc14).symm.trans h
    refine g_iload_n hC rfl 2 rfl (rfl : 4 + 1 = 5) (xdt tt_X10_goesToTarget 2 rfl) ?_
    refine g_aload_n hC rfl 1 rfl (rfl : 5 + 1 = 6) (xdt tt_X10_goesToTarget 3 rfl) ?_
    refine g_getI hC hk1 kclX5 ly2_0 10 (by decide) rfl q756 (rfl : 6 + 3 = 9) (xdt tt_X10_goesToTarget 4 rfl) ?_
    refine g_icmp_ge hC (show ((9 : Nat) : Int) + 14 = ((23 : Nat) : Int) by decide) (rfl : 9 + 3 = 12) (xdt tt_X10_goesToTarget 5 rfl) (fun hc13 => ?_) (fun hc13 => ?_)
    · replace h := (if_pos hc13).symm.trans h
      refine g_iconst hC (rfl : 23 + 1 = 24) (xdt tt_X10_goesToTarget 12 rfl) ?_
      cases h
      exact g_zret hC hE (Or.inl rfl) (xdt tt_X10_goesToTarget 13 rfl)
    · replace h := (if_neg hc13).symm.trans h
      refine g_aload_n hC rfl 1 rfl (rfl : 12 + 1 = 13) (xdt tt_X10_goesToTarget 6 rfl) ?_
      refine g_getP hC hk1 kclX5 ly2_0 2 (by decide) (rfl : r1 + 0 = r1) rfl q757 (rfl : 13 + 3 = 16) (xdt tt_X10_goesToTarget 7 rfl) ?_
      refine g_iload_n hC rfl 2 rfl (rfl : 16 + 1 = 17) (xdt tt_X10_goesToTarget 8 rfl) ?_
      obtain ⟨hi1, h⟩ := ckI_i h
      refine g_iald hC hk1 ly2_5 hi1 (rfl : 17 + 1 = 18) (xdt tt_X10_goesToTarget 9 rfl) (k0 := (wr a2).toNat) rfl ?_
      refine g_bipush hC (by decide) (rfl : 18 + 2 = 20) (xdt tt_X10_goesToTarget 10 rfl) ?_
      refine g_icmp_ge hC (show ((20 : Nat) : Int) + 5 = ((25 : Nat) : Int) by decide) (rfl : 20 + 3 = 23) (xdt tt_X10_goesToTarget 11 rfl) (fun hc12 => ?_) (fun hc12 => ?_)
      · replace h := (if_pos hc12).symm.trans h
        refine g_aload_n hC rfl 1 rfl (rfl : 25 + 1 = 26) (xdt tt_X10_goesToTarget 14 rfl) ?_
        refine g_getP hC hk1 kclX5 ly2_0 2 (by decide) (rfl : r1 + 0 = r1) rfl q757 (rfl : 26 + 3 = 29) (xdt tt_X10_goesToTarget 15 rfl) ?_
        refine g_iload_n hC rfl 2 rfl (rfl : 29 + 1 = 30) (xdt tt_X10_goesToTarget 16 rfl) ?_
        obtain ⟨hi2, h⟩ := ckI_i h
        refine g_iald hC hk1 ly2_5 hi2 (rfl : 30 + 1 = 31) (xdt tt_X10_goesToTarget 17 rfl) (k0 := (wr a2).toNat) rfl ?_
        refine g_bipush hC (by decide) (rfl : 31 + 2 = 33) (xdt tt_X10_goesToTarget 18 rfl) ?_
        refine g_icmp_ne hC (show ((33 : Nat) : Int) + 5 = ((38 : Nat) : Int) by decide) (rfl : 33 + 3 = 36) (xdt tt_X10_goesToTarget 19 rfl) (fun hc11 => ?_) (fun hc11 => ?_)
        · replace h := (if_pos hc11).symm.trans h
          refine g_aload_n hC rfl 0 rfl (rfl : 38 + 1 = 39) (xdt tt_X10_goesToTarget 22 rfl) ?_
          refine g_getP hC hk0 kclX10 ly1_9 0 (by decide) (rfl : r0 + 0 = r0) rfl q125 (rfl : 39 + 3 = 42) (xdt tt_X10_goesToTarget 23 rfl) ?_
          refine g_iload_n hC rfl 2 rfl (rfl : 42 + 1 = 43) (xdt tt_X10_goesToTarget 24 rfl) ?_
          obtain ⟨hi3, h⟩ := ckI_i h
          refine g_iald hC hk0 ly1_10 hi3 (rfl : 43 + 1 = 44) (xdt tt_X10_goesToTarget 25 rfl) (k0 := (wr a2).toNat) rfl ?_
          refine g_aload_n hC rfl 1 rfl (rfl : 44 + 1 = 45) (xdt tt_X10_goesToTarget 26 rfl) ?_
          refine g_getP hC hk1 kclX5 ly2_0 5 (by decide) (rfl : r1 + 0 = r1) rfl q758 (rfl : 45 + 3 = 48) (xdt tt_X10_goesToTarget 27 rfl) ?_
          refine g_iload_n hC rfl 2 rfl (rfl : 48 + 1 = 49) (xdt tt_X10_goesToTarget 28 rfl) ?_
          obtain ⟨hi4, h⟩ := ckI_i h
          refine g_iald hC hk1 ly2_8 hi4 (rfl : 49 + 1 = 50) (xdt tt_X10_goesToTarget 29 rfl) (k0 := (wr a2).toNat) rfl ?_
          refine g_icmp_ge hC (show ((50 : Nat) : Int) + 15 = ((65 : Nat) : Int) by decide) (rfl : 50 + 3 = 53) (xdt tt_X10_goesToTarget 30 rfl) (fun hc10 => ?_) (fun hc10 => ?_)
          · replace h := (if_pos hc10).symm.trans h
            refine g_aload_n hC rfl 0 rfl (rfl : 65 + 1 = 66) (xdt tt_X10_goesToTarget 41 rfl) ?_
            refine g_getP hC hk0 kclX10 ly1_9 0 (by decide) (rfl : r0 + 0 = r0) rfl q125 (rfl : 66 + 3 = 69) (xdt tt_X10_goesToTarget 42 rfl) ?_
            refine g_iload_n hC rfl 2 rfl (rfl : 69 + 1 = 70) (xdt tt_X10_goesToTarget 43 rfl) ?_
            refine g_iconst hC (rfl : 70 + 1 = 71) (xdt tt_X10_goesToTarget 44 rfl) ?_
            obtain ⟨hi5, h⟩ := ckI_i h
            obtain ⟨S6, hS6, h⟩ := lt1_i h
            refine g_iast hC hk0 ly1_10 hi5 rfl hS6 (rfl : 71 + 1 = 72) (xdt tt_X10_goesToTarget 45 rfl) ?_
            refine g_iconst hC (rfl : 72 + 1 = 73) (xdt tt_X10_goesToTarget 46 rfl) ?_
            cases h
            exact g_zret hC hE (Or.inl rfl) (xdt tt_X10_goesToTarget 47 rfl)
          · replace h := (if_neg hc10).symm.trans h
            refine g_aload_n hC rfl 0 rfl (rfl : 53 + 1 = 54) (xdt tt_X10_goesToTarget 31 rfl) ?_
            refine g_getP hC hk0 kclX10 ly1_9 0 (by decide) (rfl : r0 + 0 = r0) rfl q125 (rfl : 54 + 3 = 57) (xdt tt_X10_goesToTarget 32 rfl) ?_
            refine g_iload_n hC rfl 2 rfl (rfl : 57 + 1 = 58) (xdt tt_X10_goesToTarget 33 rfl) ?_
            refine g_dup2 hC rfl rfl (rfl : 58 + 1 = 59) (xdt tt_X10_goesToTarget 34 rfl) ?_
            obtain ⟨hi7, h⟩ := ckI_i h
            refine g_iald hC hk0 ly1_10 hi7 (rfl : 59 + 1 = 60) (xdt tt_X10_goesToTarget 35 rfl) (k0 := (wr a2).toNat) rfl ?_
            refine g_iconst hC (rfl : 60 + 1 = 61) (xdt tt_X10_goesToTarget 36 rfl) ?_
            refine g_iadd hC (rfl : 61 + 1 = 62) (xdt tt_X10_goesToTarget 37 rfl) ?_
            obtain ⟨hi8, h⟩ := ckI_i h
            obtain ⟨S9, hS9, h⟩ := lt1_i h
            refine g_iast hC hk0 ly1_10 hi8 rfl hS9 (rfl : 62 + 1 = 63) (xdt tt_X10_goesToTarget 38 rfl) ?_
            refine g_iconst hC (rfl : 63 + 1 = 64) (xdt tt_X10_goesToTarget 39 rfl) ?_
            cases h
            exact g_zret hC hE (Or.inr rfl) (xdt tt_X10_goesToTarget 40 rfl)
        · replace h := (if_neg hc11).symm.trans h
          refine g_iconst hC (rfl : 36 + 1 = 37) (xdt tt_X10_goesToTarget 20 rfl) ?_
          cases h
          exact g_zret hC hE (Or.inr rfl) (xdt tt_X10_goesToTarget 21 rfl)
      · replace h := (if_neg hc12).symm.trans h
        refine g_iconst hC (rfl : 23 + 1 = 24) (xdt tt_X10_goesToTarget 12 rfl) ?_
        cases h
        exact g_zret hC hE (Or.inl rfl) (xdt tt_X10_goesToTarget 13 rfl)
def f_X0_closesLoop_p1_0 (S : xSt) (r0 : Nat) (a1 : Int) : Option (Int × xSt) :=
  if wr a1 < 0 then
    (some (0, S))
  else
    (ckP S r0 0 0 2 0 fun rg1 =>
    if wr a1 < wr (gI S rg1 0 10) then
      (ckP S r0 0 0 2 0 fun rg2 =>
      ckI a1 60 <|
      if wr (gI S rg2 12 (wr a1).toNat) = wr (-1) then
        (some (0, S))
      else
        (ckP S r0 0 0 2 0 fun rg4 =>
        ckI a1 60 <|
        if wr (gI S r0 1 5) < wr (gI S rg4 12 (wr a1).toNat) then
          (some (0, S))
        else
          (some (1, S))))
    else
      (some (0, S)))
set_option maxRecDepth 100000 in
set_option maxHeartbeats 4000000 in
theorem c_X0_closesLoop_p1_0 (l : Launch) {E : xE} {S S' : xSt} {r0 : Nat} {a1 : Int} (hk0 : xkd E r0 = 1) {v : Int} (h : f_X0_closesLoop_p1_0 S r0 a1 = some (v, S')) : Met l yX0_closesLoop (xws yX0_closesLoop cX0_closesLoop 2 (some .boolean)) (rmD 1) (YPc E [vr E r0 0, vi a1] S) (YQz E v S') 0 0 (xA E) := by
  unfold f_X0_closesLoop_p1_0 at h
  refine met_z (by decide +kernel) (Nat.le_of_ble_eq_true rfl) (fun K hC hZ hE => ?_)
  have hC : xOK K cX0_closesLoop RX0 2 (rmE 1 0) := hC
  show WG K E 0 [(0, vr E r0 0), (1, vi a1)] [] S
  refine g_iload_n hC rfl 1 rfl (rfl : 0 + 1 = 1) (xdt tt_X0_closesLoop 0 rfl) ?_
  refine g_if_lt hC (show ((1 : Nat) : Int) + 14 = ((15 : Nat) : Int) by decide) (rfl : 1 + 3 = 4) (xdt tt_X0_closesLoop 1 rfl) (fun hc9 => ?_) (fun hc9 => ?_)
  · replace h := (if_pos hc9).symm.trans h
    refine g_iconst hC (rfl : 15 + 1 = 16) (xdt tt_X0_closesLoop 7 rfl) ?_
    cases h
    exact g_zret hC hE (Or.inl rfl) (xdt tt_X0_closesLoop 8 rfl)
  · replace h := (if_neg hc9).symm.trans h
    refine g_iload_n hC rfl 1 rfl (rfl : 4 + 1 = 5) (xdt tt_X0_closesLoop 2 rfl) ?_
    refine g_aload_n hC rfl 0 rfl (rfl : 5 + 1 = 6) (xdt tt_X0_closesLoop 3 rfl) ?_
    obtain ⟨rg1, hrg1, grg1, h⟩ := ckP_i h
    refine g_getV hC hk0 kclX0 ly1_0 0 (by decide) rfl hrg1 grg1 (by decide) q142 (rfl : 6 + 3 = 9) (xdt tt_X0_closesLoop 4 rfl) (fun krg1 => ?_)
    refine g_getI hC krg1 kclX5 ly2_0 10 (by decide) rfl q714 (rfl : 9 + 3 = 12) (xdt tt_X0_closesLoop 5 rfl) ?_
    refine g_icmp_lt hC (show ((12 : Nat) : Int) + 5 = ((17 : Nat) : Int) by decide) (rfl : 12 + 3 = 15) (xdt tt_X0_closesLoop 6 rfl) (fun hc8 => ?_) (fun hc8 => ?_)
    · replace h := (if_pos hc8).symm.trans h
      refine g_aload_n hC rfl 0 rfl (rfl : 17 + 1 = 18) (xdt tt_X0_closesLoop 9 rfl) ?_
      obtain ⟨rg2, hrg2, grg2, h⟩ := ckP_i h
      refine g_getV hC hk0 kclX0 ly1_0 0 (by decide) rfl hrg2 grg2 (by decide) q142 (rfl : 18 + 3 = 21) (xdt tt_X0_closesLoop 10 rfl) (fun krg2 => ?_)
      refine g_getP hC krg2 kclX5 ly2_0 9 (by decide) (rfl : rg2 + 0 = rg2) rfl q769 (rfl : 21 + 3 = 24) (xdt tt_X0_closesLoop 11 rfl) ?_
      refine g_iload_n hC rfl 1 rfl (rfl : 24 + 1 = 25) (xdt tt_X0_closesLoop 12 rfl) ?_
      obtain ⟨hi3, h⟩ := ckI_i h
      refine g_iald hC krg2 ly2_12 hi3 (rfl : 25 + 1 = 26) (xdt tt_X0_closesLoop 13 rfl) (k0 := (wr a1).toNat) rfl ?_
      refine g_iconst hC (rfl : 26 + 1 = 27) (xdt tt_X0_closesLoop 14 rfl) ?_
      refine g_icmp_eq hC (show ((27 : Nat) : Int) + 25 = ((52 : Nat) : Int) by decide) (rfl : 27 + 3 = 30) (xdt tt_X0_closesLoop 15 rfl) (fun hc7 => ?_) (fun hc7 => ?_)
      · replace h := (if_pos hc7).symm.trans h
        refine g_iconst hC (rfl : 52 + 1 = 53) (xdt tt_X0_closesLoop 28 rfl) ?_
        cases h
        exact g_zret hC hE (Or.inl rfl) (xdt tt_X0_closesLoop 29 rfl)
      · replace h := (if_neg hc7).symm.trans h
        refine g_aload_n hC rfl 0 rfl (rfl : 30 + 1 = 31) (xdt tt_X0_closesLoop 16 rfl) ?_
        obtain ⟨rg4, hrg4, grg4, h⟩ := ckP_i h
        refine g_getV hC hk0 kclX0 ly1_0 0 (by decide) rfl hrg4 grg4 (by decide) q142 (rfl : 31 + 3 = 34) (xdt tt_X0_closesLoop 17 rfl) (fun krg4 => ?_)
        refine g_getP hC krg4 kclX5 ly2_0 9 (by decide) (rfl : rg4 + 0 = rg4) rfl q769 (rfl : 34 + 3 = 37) (xdt tt_X0_closesLoop 18 rfl) ?_
        refine g_iload_n hC rfl 1 rfl (rfl : 37 + 1 = 38) (xdt tt_X0_closesLoop 19 rfl) ?_
        obtain ⟨hi5, h⟩ := ckI_i h
        refine g_iald hC krg4 ly2_12 hi5 (rfl : 38 + 1 = 39) (xdt tt_X0_closesLoop 20 rfl) (k0 := (wr a1).toNat) rfl ?_
        refine g_aload_n hC rfl 0 rfl (rfl : 39 + 1 = 40) (xdt tt_X0_closesLoop 21 rfl) ?_
        refine g_getP hC hk0 kclX0 ly1_0 1 (by decide) (rfl : r0 + 0 = r0) rfl q92 (rfl : 40 + 3 = 43) (xdt tt_X0_closesLoop 22 rfl) ?_
        refine g_iconst hC (rfl : 43 + 1 = 44) (xdt tt_X0_closesLoop 23 rfl) ?_
        refine g_iald hC hk0 ly1_1 (by decide) (rfl : 44 + 1 = 45) (xdt tt_X0_closesLoop 24 rfl) (k0 := 5) (by decide) ?_
        refine g_icmp_gt hC (show ((45 : Nat) : Int) + 7 = ((52 : Nat) : Int) by decide) (rfl : 45 + 3 = 48) (xdt tt_X0_closesLoop 25 rfl) (fun hc6 => ?_) (fun hc6 => ?_)
        · replace h := (if_pos hc6).symm.trans h
          refine g_iconst hC (rfl : 52 + 1 = 53) (xdt tt_X0_closesLoop 28 rfl) ?_
          cases h
          exact g_zret hC hE (Or.inl rfl) (xdt tt_X0_closesLoop 29 rfl)
        · replace h := (if_neg hc6).symm.trans h
          refine g_iconst hC (rfl : 48 + 1 = 49) (xdt tt_X0_closesLoop 26 rfl) ?_
          refine g_goto hC (show ((49 : Nat) : Int) + 4 = ((53 : Nat) : Int) by decide) (xdt tt_X0_closesLoop 27 rfl) ?_
          cases h
          exact g_zret hC hE (Or.inr rfl) (xdt tt_X0_closesLoop 29 rfl)
    · replace h := (if_neg hc8).symm.trans h
      refine g_iconst hC (rfl : 15 + 1 = 16) (xdt tt_X0_closesLoop 7 rfl) ?_
      cases h
      exact g_zret hC hE (Or.inl rfl) (xdt tt_X0_closesLoop 8 rfl)
def f_X0_emptyQueue_p1_0 (S : xSt) (r0 : Nat) : Option (xSt) :=
  lt1 (wI S r0 5 2 0) fun S1 =>
  lt1 (wI S1 r0 0 13 0) fun S2 =>
  lt1 (wI S2 r0 0 16 0) fun S3 =>
  some S3
set_option maxRecDepth 100000 in
set_option maxHeartbeats 4000000 in
theorem c_X0_emptyQueue_p1_0 (l : Launch) {E : xE} {S S' : xSt} {r0 : Nat} (hk0 : xkd E r0 = 1) (h : f_X0_emptyQueue_p1_0 S r0 = some S') : Met l yX0_emptyQueue (xws yX0_emptyQueue cX0_emptyQueue 1 none) (rmD 1) (YPc E [vr E r0 0] S) (YQv E S') 0 0 (xA E) := by
  unfold f_X0_emptyQueue_p1_0 at h
  refine met_v (by decide +kernel) (Nat.le_of_ble_eq_true rfl) (fun K hC hZ hE => ?_)
  have hC : xOK K cX0_emptyQueue RX0 1 (rmE 1 0) := hC
  show WG K E 0 [(0, vr E r0 0)] [] S
  refine g_aload_n hC rfl 0 rfl (rfl : 0 + 1 = 1) (xdt tt_X0_emptyQueue 0 rfl) ?_
  refine g_getP hC hk0 kclX0 ly1_0 3 (by decide) (rfl : r0 + 0 = r0) rfl q98 (rfl : 1 + 3 = 4) (xdt tt_X0_emptyQueue 1 rfl) ?_
  refine g_iconst hC (rfl : 4 + 1 = 5) (xdt tt_X0_emptyQueue 2 rfl) ?_
  obtain ⟨S1, hS1, h⟩ := lt1_i h
  refine g_putI hC hk0 kclX6 ly1_5 2 (by decide) rfl rfl rfl q146 hS1 (rfl : 5 + 3 = 8) (xdt tt_X0_emptyQueue 3 rfl) ?_
  refine g_aload_n hC rfl 0 rfl (rfl : 8 + 1 = 9) (xdt tt_X0_emptyQueue 4 rfl) ?_
  refine g_iconst hC (rfl : 9 + 1 = 10) (xdt tt_X0_emptyQueue 5 rfl) ?_
  obtain ⟨S2, hS2, h⟩ := lt1_i h
  refine g_putZ hC hk0 kclX0 ly1_0 13 (by decide) rfl rfl rfl q153 (Or.inl rfl) hS2 (rfl : 10 + 3 = 13) (xdt tt_X0_emptyQueue 6 rfl) ?_
  refine g_aload_n hC rfl 0 rfl (rfl : 13 + 1 = 14) (xdt tt_X0_emptyQueue 7 rfl) ?_
  refine g_iconst hC (rfl : 14 + 1 = 15) (xdt tt_X0_emptyQueue 8 rfl) ?_
  obtain ⟨S3, hS3, h⟩ := lt1_i h
  refine g_putI hC hk0 kclX0 ly1_0 16 (by decide) rfl rfl rfl q156 hS3 (rfl : 15 + 3 = 18) (xdt tt_X0_emptyQueue 9 rfl) ?_
  cases h
  exact g_vret hC hE (xdt tt_X0_emptyQueue 10 rfl)
def f_X7_begin_p1_8 (S : xSt) (r0 : Nat) (a1 : Int) (a2 : Int) (a3 : Int) : Option (xSt) :=
  lt1 (wI S r0 8 0 1) fun S1 =>
  lt1 (wI S1 r0 8 1 a1) fun S2 =>
  lt1 (wI S2 r0 8 2 a2) fun S3 =>
  lt1 (wI S3 r0 8 3 a1) fun S4 =>
  lt1 (wI S4 r0 8 4 a3) fun S5 =>
  some S5
set_option maxRecDepth 100000 in
set_option maxHeartbeats 4000000 in
theorem c_X7_begin_p1_8 (l : Launch) {E : xE} {S S' : xSt} {r0 : Nat} {a1 : Int} {a2 : Int} {a3 : Int} (hk0 : xkd E r0 = 1) (h : f_X7_begin_p1_8 S r0 a1 a2 a3 = some S') : Met l yX7_begin (xws yX7_begin cX7_begin 4 none) (rmD 1) (YPc E [vr E r0 8, vi a1, vi a2, vi a3] S) (YQv E S') 0 0 (xA E) := by
  unfold f_X7_begin_p1_8 at h
  refine met_v (by decide +kernel) (Nat.le_of_ble_eq_true rfl) (fun K hC hZ hE => ?_)
  have hC : xOK K cX7_begin RX7 4 (rmE 1 0) := hC
  show WG K E 0 [(0, vr E r0 8), (1, vi a1), (2, vi a2), (3, vi a3)] [] S
  refine g_aload_n hC rfl 0 rfl (rfl : 0 + 1 = 1) (xdt tt_X7_begin 0 rfl) ?_
  refine g_iconst hC (rfl : 1 + 1 = 2) (xdt tt_X7_begin 1 rfl) ?_
  obtain ⟨S1, hS1, h⟩ := lt1_i h
  refine g_putZ hC hk0 kclX7 ly1_8 0 (by decide) rfl rfl rfl q653 (Or.inr rfl) hS1 (rfl : 2 + 3 = 5) (xdt tt_X7_begin 2 rfl) ?_
  refine g_aload_n hC rfl 0 rfl (rfl : 5 + 1 = 6) (xdt tt_X7_begin 3 rfl) ?_
  refine g_iload_n hC rfl 1 rfl (rfl : 6 + 1 = 7) (xdt tt_X7_begin 4 rfl) ?_
  obtain ⟨S2, hS2, h⟩ := lt1_i h
  refine g_putI hC hk0 kclX7 ly1_8 1 (by decide) rfl rfl rfl q654 hS2 (rfl : 7 + 3 = 10) (xdt tt_X7_begin 5 rfl) ?_
  refine g_aload_n hC rfl 0 rfl (rfl : 10 + 1 = 11) (xdt tt_X7_begin 6 rfl) ?_
  refine g_iload_n hC rfl 2 rfl (rfl : 11 + 1 = 12) (xdt tt_X7_begin 7 rfl) ?_
  obtain ⟨S3, hS3, h⟩ := lt1_i h
  refine g_putI hC hk0 kclX7 ly1_8 2 (by decide) rfl rfl rfl q655 hS3 (rfl : 12 + 3 = 15) (xdt tt_X7_begin 8 rfl) ?_
  refine g_aload_n hC rfl 0 rfl (rfl : 15 + 1 = 16) (xdt tt_X7_begin 9 rfl) ?_
  refine g_iload_n hC rfl 1 rfl (rfl : 16 + 1 = 17) (xdt tt_X7_begin 10 rfl) ?_
  obtain ⟨S4, hS4, h⟩ := lt1_i h
  refine g_putI hC hk0 kclX7 ly1_8 3 (by decide) rfl rfl rfl q656 hS4 (rfl : 17 + 3 = 20) (xdt tt_X7_begin 11 rfl) ?_
  refine g_aload_n hC rfl 0 rfl (rfl : 20 + 1 = 21) (xdt tt_X7_begin 12 rfl) ?_
  refine g_iload_n hC rfl 3 rfl (rfl : 21 + 1 = 22) (xdt tt_X7_begin 13 rfl) ?_
  obtain ⟨S5, hS5, h⟩ := lt1_i h
  refine g_putI hC hk0 kclX7 ly1_8 4 (by decide) rfl rfl rfl q657 hS5 (rfl : 22 + 3 = 25) (xdt tt_X7_begin 14 rfl) ?_
  cases h
  exact g_vret hC hE (xdt tt_X7_begin 15 rfl)
def f_X0_setPlace_p1_0 (S : xSt) (r0 : Nat) (a1 : Int) : Option (xSt) :=
  lt1 (wI S r0 0 10 a1) fun S1 =>
  lt1 (wI S1 r0 0 11 1) fun S2 =>
  some S2
set_option maxRecDepth 100000 in
set_option maxHeartbeats 4000000 in
theorem c_X0_setPlace_p1_0 (l : Launch) {E : xE} {S S' : xSt} {r0 : Nat} {a1 : Int} (hk0 : xkd E r0 = 1) (h : f_X0_setPlace_p1_0 S r0 a1 = some S') : Met l yX0_setPlace (xws yX0_setPlace cX0_setPlace 2 none) (rmD 1) (YPc E [vr E r0 0, vi a1] S) (YQv E S') 0 0 (xA E) := by
  unfold f_X0_setPlace_p1_0 at h
  refine met_v (by decide +kernel) (Nat.le_of_ble_eq_true rfl) (fun K hC hZ hE => ?_)
  have hC : xOK K cX0_setPlace RX0 2 (rmE 1 0) := hC
  show WG K E 0 [(0, vr E r0 0), (1, vi a1)] [] S
  refine g_aload_n hC rfl 0 rfl (rfl : 0 + 1 = 1) (xdt tt_X0_setPlace 0 rfl) ?_
  refine g_iload_n hC rfl 1 rfl (rfl : 1 + 1 = 2) (xdt tt_X0_setPlace 1 rfl) ?_
  obtain ⟨S1, hS1, h⟩ := lt1_i h
  refine g_putI hC hk0 kclX0 ly1_0 10 (by decide) rfl rfl rfl q150 hS1 (rfl : 2 + 3 = 5) (xdt tt_X0_setPlace 2 rfl) ?_
  refine g_aload_n hC rfl 0 rfl (rfl : 5 + 1 = 6) (xdt tt_X0_setPlace 3 rfl) ?_
  refine g_iconst hC (rfl : 6 + 1 = 7) (xdt tt_X0_setPlace 4 rfl) ?_
  obtain ⟨S2, hS2, h⟩ := lt1_i h
  refine g_putZ hC hk0 kclX0 ly1_0 11 (by decide) rfl rfl rfl q151 (Or.inr rfl) hS2 (rfl : 7 + 3 = 10) (xdt tt_X0_setPlace 5 rfl) ?_
  cases h
  exact g_vret hC hE (xdt tt_X0_setPlace 6 rfl)
def f_X0_goTo_p1_0 (S : xSt) (r0 : Nat) (a1 : Int) : Option (xSt) :=
  bd (f_X0_emptyQueue_p1_0 S r0) fun S2 =>
  lt1 (wI S2 r0 8 0 0) fun S3 =>
  bd (f_X0_setPlace_p1_0 S3 r0 a1) fun S5 =>
  lt1 (wI S5 r0 0 15 4) fun S6 =>
  some S6
set_option maxRecDepth 100000 in
set_option maxHeartbeats 4000000 in
theorem c_X0_goTo_p1_0 (l : Launch) {E : xE} {S S' : xSt} {r0 : Nat} {a1 : Int} (hk0 : xkd E r0 = 1) (h : f_X0_goTo_p1_0 S r0 a1 = some S') : Met l yX0_goTo (xws yX0_goTo cX0_goTo 2 none) (rmD 2) (YPc E [vr E r0 0, vi a1] S) (YQv E S') 0 0 (xA E) := by
  unfold f_X0_goTo_p1_0 at h
  refine met_v (by decide +kernel) (Nat.le_of_ble_eq_true rfl) (fun K hC hZ hE => ?_)
  have hC : xOK K cX0_goTo RX0 2 (rmE 2 0) := hC
  show WG K E 0 [(0, vr E r0 0), (1, vi a1)] [] S
  refine g_aload_n hC rfl 0 rfl (rfl : 0 + 1 = 1) (xdt tt_X0_goTo 0 rfl) ?_
  obtain ⟨S2, hc1, h⟩ := bd_i h
  refine g_callVv hC hZ hk0 kclX0 ly1_0 m_X0_emptyQueue q784 (Nat.le_of_ble_eq_true rfl) [] rfl (fun l => c_X0_emptyQueue_p1_0 l hk0 hc1) rfl (Nat.le_of_ble_eq_true rfl) (rfl : 1 + 3 = 4) (xdt tt_X0_goTo 1 rfl) ?_
  refine g_aload_n hC rfl 0 rfl (rfl : 4 + 1 = 5) (xdt tt_X0_goTo 2 rfl) ?_
  refine g_getP hC hk0 kclX0 ly1_0 4 (by decide) (rfl : r0 + 0 = r0) rfl q102 (rfl : 5 + 3 = 8) (xdt tt_X0_goTo 3 rfl) ?_
  refine g_iconst hC (rfl : 8 + 1 = 9) (xdt tt_X0_goTo 4 rfl) ?_
  obtain ⟨S3, hS3, h⟩ := lt1_i h
  refine g_putZ hC hk0 kclX7 ly1_8 0 (by decide) rfl rfl rfl q147 (Or.inl rfl) hS3 (rfl : 9 + 3 = 12) (xdt tt_X0_goTo 5 rfl) ?_
  refine g_aload_n hC rfl 0 rfl (rfl : 12 + 1 = 13) (xdt tt_X0_goTo 6 rfl) ?_
  refine g_iload_n hC rfl 1 rfl (rfl : 13 + 1 = 14) (xdt tt_X0_goTo 7 rfl) ?_
  obtain ⟨S5, hc4, h⟩ := bd_i h
  refine g_callVv hC hZ hk0 kclX0 ly1_0 m_X0_setPlace q776 (Nat.le_of_ble_eq_true rfl) [vi a1] rfl (fun l => c_X0_setPlace_p1_0 l hk0 hc4) rfl (Nat.le_of_ble_eq_true rfl) (rfl : 14 + 3 = 17) (xdt tt_X0_goTo 8 rfl) ?_
  refine g_aload_n hC rfl 0 rfl (rfl : 17 + 1 = 18) (xdt tt_X0_goTo 9 rfl) ?_
  refine g_iconst hC (rfl : 18 + 1 = 19) (xdt tt_X0_goTo 10 rfl) ?_
  obtain ⟨S6, hS6, h⟩ := lt1_i h
  refine g_putI hC hk0 kclX0 ly1_0 15 (by decide) rfl rfl rfl q155 hS6 (rfl : 19 + 3 = 22) (xdt tt_X0_goTo 11 rfl) ?_
  cases h
  exact g_vret hC hE (xdt tt_X0_goTo 12 rfl)
def f_X0_followInLoop_p1_0 (S : xSt) (r0 : Nat) (a1 : Int) (a2 : Int) : Option (Int × xSt) :=
  if wr a2 = 0 then
    (lt1 (wI S r0 8 0 0) fun S1 =>
    bd (f_X0_setPlace_p1_0 S1 r0 (a1 + 1)) fun S3 =>
    some (7, S3))
  else
    (lt1 (wI S r0 8 3 (gI S r0 8 1)) fun S4 =>
    some (0, S4))
set_option maxRecDepth 100000 in
set_option maxHeartbeats 4000000 in
theorem c_X0_followInLoop_p1_0 (l : Launch) {E : xE} {S S' : xSt} {r0 : Nat} {a1 : Int} {a2 : Int} (hk0 : xkd E r0 = 1) {v : Int} (h : f_X0_followInLoop_p1_0 S r0 a1 a2 = some (v, S')) : Met l yX0_followInLoop (xws yX0_followInLoop cX0_followInLoop 3 (some .int)) (rmD 2) (YPc E [vr E r0 0, vi a1, vi a2] S) (YQi E v S') 0 0 (xA E) := by
  unfold f_X0_followInLoop_p1_0 at h
  refine met_i (by decide +kernel) (Nat.le_of_ble_eq_true rfl) (fun K hC hZ hE => ?_)
  have hC : xOK K cX0_followInLoop RX0 3 (rmE 2 0) := hC
  show WG K E 0 [(0, vr E r0 0), (1, vi a1), (2, vi a2)] [] S
  refine g_iload_n hC rfl 2 rfl (rfl : 0 + 1 = 1) (xdt tt_X0_followInLoop 0 rfl) ?_
  refine g_if_eq hC (show ((1 : Nat) : Int) + 19 = ((20 : Nat) : Int) by decide) (rfl : 1 + 3 = 4) (xdt tt_X0_followInLoop 1 rfl) (fun hc5 => ?_) (fun hc5 => ?_)
  · replace h := (if_pos hc5).symm.trans h
    refine g_aload_n hC rfl 0 rfl (rfl : 20 + 1 = 21) (xdt tt_X0_followInLoop 10 rfl) ?_
    refine g_getP hC hk0 kclX0 ly1_0 4 (by decide) (rfl : r0 + 0 = r0) rfl q102 (rfl : 21 + 3 = 24) (xdt tt_X0_followInLoop 11 rfl) ?_
    refine g_iconst hC (rfl : 24 + 1 = 25) (xdt tt_X0_followInLoop 12 rfl) ?_
    obtain ⟨S1, hS1, h⟩ := lt1_i h
    refine g_putZ hC hk0 kclX7 ly1_8 0 (by decide) rfl rfl rfl q147 (Or.inl rfl) hS1 (rfl : 25 + 3 = 28) (xdt tt_X0_followInLoop 13 rfl) ?_
    refine g_aload_n hC rfl 0 rfl (rfl : 28 + 1 = 29) (xdt tt_X0_followInLoop 14 rfl) ?_
    refine g_iload_n hC rfl 1 rfl (rfl : 29 + 1 = 30) (xdt tt_X0_followInLoop 15 rfl) ?_
    refine g_iconst hC (rfl : 30 + 1 = 31) (xdt tt_X0_followInLoop 16 rfl) ?_
    refine g_iadd hC (rfl : 31 + 1 = 32) (xdt tt_X0_followInLoop 17 rfl) ?_
    obtain ⟨S3, hc2, h⟩ := bd_i h
    refine g_callVv hC hZ hk0 kclX0 ly1_0 m_X0_setPlace q776 (Nat.le_of_ble_eq_true rfl) [vi (a1 + 1)] rfl (fun l => c_X0_setPlace_p1_0 l hk0 hc2) rfl (Nat.le_of_ble_eq_true rfl) (rfl : 32 + 3 = 35) (xdt tt_X0_followInLoop 18 rfl) ?_
    refine g_bipush hC (by decide) (rfl : 35 + 2 = 37) (xdt tt_X0_followInLoop 19 rfl) ?_
    cases h
    exact g_iret hC hE (xdt tt_X0_followInLoop 20 rfl)
  · replace h := (if_neg hc5).symm.trans h
    refine g_aload_n hC rfl 0 rfl (rfl : 4 + 1 = 5) (xdt tt_X0_followInLoop 2 rfl) ?_
    refine g_getP hC hk0 kclX0 ly1_0 4 (by decide) (rfl : r0 + 0 = r0) rfl q102 (rfl : 5 + 3 = 8) (xdt tt_X0_followInLoop 3 rfl) ?_
    refine g_aload_n hC rfl 0 rfl (rfl : 8 + 1 = 9) (xdt tt_X0_followInLoop 4 rfl) ?_
    refine g_getP hC hk0 kclX0 ly1_0 4 (by decide) (rfl : r0 + 0 = r0) rfl q102 (rfl : 9 + 3 = 12) (xdt tt_X0_followInLoop 5 rfl) ?_
    refine g_getI hC hk0 kclX7 ly1_8 1 (by decide) rfl q775 (rfl : 12 + 3 = 15) (xdt tt_X0_followInLoop 6 rfl) ?_
    obtain ⟨S4, hS4, h⟩ := lt1_i h
    refine g_putI hC hk0 kclX7 ly1_8 3 (by decide) rfl rfl rfl q703 hS4 (rfl : 15 + 3 = 18) (xdt tt_X0_followInLoop 7 rfl) ?_
    refine g_iconst hC (rfl : 18 + 1 = 19) (xdt tt_X0_followInLoop 8 rfl) ?_
    cases h
    exact g_iret hC hE (xdt tt_X0_followInLoop 9 rfl)
def f_X0_follow_p1_0_b204 (r0 : Nat) (S : xSt) (x3 : Int) : Option (Int × xSt) :=
  if wr x3 = 0 then
    (some (0, S))
  else
    (some (7, S))
def f_X0_follow_p1_0_b83 (r0 : Nat) (S : xSt) (x1 : Int) (x2 : Int) (x3 : Int) (x4 : Int) (s0 : Int) : Option (Int × xSt) :=
  lt1 (wI S r0 0 9 s0) fun S12 =>
  if wr (gI S12 r0 8 0) = 0 then
    (if wr x3 = wr x2 then
      (if wr x4 = 0 then
        (f_X0_follow_p1_0_b204 r0 S12 x3)
      else
        (bd2 (f_X0_closesLoop_p1_0 S12 r0 x1) fun v16 S15 =>
        if wr v16 = 0 then
          (f_X0_follow_p1_0_b204 r0 S15 x3)
        else
          (lt1 (wI S15 r0 15 7 ((gI S15 r0 15 7) + 1)) fun S18 =>
          bd (f_X0_emptyQueue_p1_0 S18 r0) fun S20 =>
          ckP S20 r0 0 0 2 0 fun rg21 =>
          ckI x1 60 <|
          ckP S20 r0 0 0 2 0 fun rg23 =>
          ckI x1 60 <|
          bd (f_X7_begin_p1_8 S20 r0 (gI S20 rg21 11 (wr x1).toNat) x1 (gI S20 rg23 12 (wr x1).toNat)) fun S26 =>
          f_X0_follow_p1_0_b204 r0 S26 x3)))
    else
      (lt1 (wI S12 r0 15 6 ((gI S12 r0 15 6) + 1)) fun S29 =>
      if wr x3 = 0 then
        (bd (f_X0_goTo_p1_0 S29 r0 (x1 + 1)) fun S31 =>
        some (4, S31))
      else
        (ckP S29 r0 0 0 2 0 fun rg32 =>
        ckI x1 60 <|
        bd (f_X0_goTo_p1_0 S29 r0 (gI S29 rg32 11 (wr x1).toNat)) fun S35 =>
        some (4, S35))))
  else
    (bd2 (f_X0_followInLoop_p1_0 S12 r0 x1 x3) fun v40 S39 =>
    some (v40, S39))
def f_X0_follow_p1_0_b61 (r0 : Nat) (S : xSt) (x1 : Int) (x2 : Int) (x3 : Int) (s0 : Int) : Option (Int × xSt) :=
  ckI x1 60 <|
  ckB x3 <|
  lt1 (wI S r0 19 (wr x1).toNat x3) fun S11 =>
  if wr x3 = 0 then
    (f_X0_follow_p1_0_b83 r0 S11 x1 x2 x3 s0 (gI S11 r0 0 9))
  else
    (f_X0_follow_p1_0_b83 r0 S11 x1 x2 x3 s0 x1)
def f_X0_follow_p1_0_b60 (r0 : Nat) (S : xSt) (x1 : Int) (x2 : Int) (x3 : Int) : Option (Int × xSt) :=
  f_X0_follow_p1_0_b61 r0 S x1 x2 x3 0
def f_X0_follow_p1_0 (S : xSt) (r0 : Nat) (a1 : Int) (a2 : Int) : Option (Int × xSt) :=
  if wr a1 < 0 then
    (some (0, S))
  else
    (ckP S r0 0 0 2 0 fun rg1 =>
    if wr (gI S rg1 0 10) ≤ wr a1 then
      (some (0, S))
    else
      (ckP S r0 0 0 2 0 fun rg2 =>
      ckI a1 60 <|
      if wr 8 ≤ wr (gI S rg2 5 (wr a1).toNat) then
        (ckP S r0 0 0 2 0 fun rg4 =>
        bd2 (f_X10_goesToTarget_p1_9_2_0 S r0 rg4 a1) fun v7 S6 =>
        if wr v7 = 0 then
          (f_X0_follow_p1_0_b60 r0 S6 a1 a2 v7)
        else
          (if ¬ wr (gI S6 r0 0 9) = wr a1 then
            (f_X0_follow_p1_0_b60 r0 S6 a1 a2 v7)
          else
            (f_X0_follow_p1_0_b61 r0 S6 a1 a2 v7 1)))
      else
        (some (0, S))))
set_option maxRecDepth 100000 in
set_option maxHeartbeats 4000000 in
theorem k_X0_follow_p1_0_b204 {K : xCtx} {E : xE} {b : Nat} (hC : xOK K cX0_follow RX0 5 (rmE 3 b)) (hZ : xZ K) {v : Int} {S' : xSt} (hE : xEnd K E (some .int) (YQi E v S')) {r0 : Nat} (hk0 : xkd E r0 = 1) : ∀ (S : xSt) (x3 : Int), f_X0_follow_p1_0_b204 r0 S x3 = some (v, S') → WG K E 204 [(3, vi x3)] [] S := by
  intro S x3 h
  unfold f_X0_follow_p1_0_b204 at h
  refine g_iload_n hC rfl 0 rfl (rfl : 204 + 1 = 205) (xdt tt_X0_follow 113 rfl) ?_
  refine g_if_eq hC (show ((205 : Nat) : Int) + 8 = ((213 : Nat) : Int) by decide) (rfl : 205 + 3 = 208) (xdt tt_X0_follow 114 rfl) (fun hc13 => ?_) (fun hc13 => ?_)
  · replace h := (if_pos hc13).symm.trans h
    refine g_iconst hC (rfl : 213 + 1 = 214) (xdt tt_X0_follow 117 rfl) ?_
    cases h
    exact g_iret hC hE (xdt tt_X0_follow 118 rfl)
  · replace h := (if_neg hc13).symm.trans h
    refine g_bipush hC (by decide) (rfl : 208 + 2 = 210) (xdt tt_X0_follow 115 rfl) ?_
    refine g_goto hC (show ((210 : Nat) : Int) + 4 = ((214 : Nat) : Int) by decide) (xdt tt_X0_follow 116 rfl) ?_
    cases h
    exact g_iret hC hE (xdt tt_X0_follow 118 rfl)
set_option maxRecDepth 100000 in
set_option maxHeartbeats 4000000 in
theorem k_X0_follow_p1_0_b83 {K : xCtx} {E : xE} {b : Nat} (hC : xOK K cX0_follow RX0 5 (rmE 3 b)) (hZ : xZ K) {v : Int} {S' : xSt} (hE : xEnd K E (some .int) (YQi E v S')) {r0 : Nat} (hk0 : xkd E r0 = 1) : ∀ (S : xSt) (x1 : Int) (x2 : Int) (x3 : Int) (x4 : Int) (s0 : Int), f_X0_follow_p1_0_b83 r0 S x1 x2 x3 x4 s0 = some (v, S') → WG K E 83 [(0, vr E r0 0), (1, vi x1), (2, vi x2), (3, vi x3), (4, vi x4)] [vi s0, vr E r0 0] S := by
  intro S x1 x2 x3 x4 s0 h
  unfold f_X0_follow_p1_0_b83 at h
  obtain ⟨S12, hS12, h⟩ := lt1_i h
  refine g_putI hC hk0 kclX0 ly1_0 9 (by decide) rfl rfl rfl q149 hS12 (rfl : 83 + 3 = 86) (xdt tt_X0_follow 45 rfl) ?_
  refine g_aload_n hC rfl 0 rfl (rfl : 86 + 1 = 87) (xdt tt_X0_follow 46 rfl) ?_
  refine g_getP hC hk0 kclX0 ly1_0 4 (by decide) (rfl : r0 + 0 = r0) rfl q102 (rfl : 87 + 3 = 90) (xdt tt_X0_follow 47 rfl) ?_
  refine g_getI hC hk0 kclX7 ly1_8 0 (by decide) rfl q147 (rfl : 90 + 3 = 93) (xdt tt_X0_follow 48 rfl) ?_
  refine g_if_eq hC (show ((93 : Nat) : Int) + 10 = ((103 : Nat) : Int) by decide) (rfl : 93 + 3 = 96) (xdt tt_X0_follow 49 rfl) (fun hc41 => ?_) (fun hc41 => ?_)
  · replace h := (if_pos hc41).symm.trans h
    refine g_iload_n hC rfl 3 rfl (rfl : 103 + 1 = 104) (xdt tt_X0_follow 55 rfl) ?_
    refine g_iload_n hC rfl 2 rfl (rfl : 104 + 1 = 105) (xdt tt_X0_follow 56 rfl) ?_
    refine g_icmp_eq hC (show ((105 : Nat) : Int) + 42 = ((147 : Nat) : Int) by decide) (rfl : 105 + 3 = 108) (xdt tt_X0_follow 57 rfl) (fun hc37 => ?_) (fun hc37 => ?_)
    · replace h := (if_pos hc37).symm.trans h
      refine g_iload hC 4 rfl (rfl : 147 + 2 = 149) (xdt tt_X0_follow 82 rfl) ?_
      refine g_if_eq hC (show ((149 : Nat) : Int) + 55 = ((204 : Nat) : Int) by decide) (rfl : 149 + 3 = 152) (xdt tt_X0_follow 83 rfl) (fun hc28 => ?_) (fun hc28 => ?_)
      · replace h := (if_pos hc28).symm.trans h
        refine g_sub [3] (lv' := [(3, vi x3)]) rfl ?_
        exact k_X0_follow_p1_0_b204 hC hZ hE hk0 _ _ h
      · replace h := (if_neg hc28).symm.trans h
        refine g_aload_n hC rfl 0 rfl (rfl : 152 + 1 = 153) (xdt tt_X0_follow 84 rfl) ?_
        refine g_iload_n hC rfl 1 rfl (rfl : 153 + 1 = 154) (xdt tt_X0_follow 85 rfl) ?_
        obtain ⟨v16, S15, hc14, h⟩ := bd2_i h
        refine g_callVz hC hZ hk0 kclX0 ly1_0 m_X0_closesLoop q788 (Nat.le_of_ble_eq_true rfl) [vi x1] rfl (fun l => c_X0_closesLoop_p1_0 l hk0 hc14) rfl (Nat.le_of_ble_eq_true rfl) (rfl : 154 + 3 = 157) (xdt tt_X0_follow 86 rfl) (fun hb17 => ?_)
        refine g_if_eq hC (show ((157 : Nat) : Int) + 47 = ((204 : Nat) : Int) by decide) (rfl : 157 + 3 = 160) (xdt tt_X0_follow 87 rfl) (fun hc27 => ?_) (fun hc27 => ?_)
        · replace h := (if_pos hc27).symm.trans h
          refine g_sub [3] (lv' := [(3, vi x3)]) rfl ?_
          exact k_X0_follow_p1_0_b204 hC hZ hE hk0 _ _ h
        · replace h := (if_neg hc27).symm.trans h
          refine g_aload_n hC rfl 0 rfl (rfl : 160 + 1 = 161) (xdt tt_X0_follow 88 rfl) ?_
          refine g_getP hC hk0 kclX0 ly1_0 7 (by decide) (rfl : r0 + 0 = r0) rfl q112 (rfl : 161 + 3 = 164) (xdt tt_X0_follow 89 rfl) ?_
          refine g_getP hC hk0 kclX9 ly1_14 0 (by decide) (rfl : r0 + 0 = r0) rfl q689 (rfl : 164 + 3 = 167) (xdt tt_X0_follow 90 rfl) ?_
          refine g_bipush hC (by decide) (rfl : 167 + 2 = 169) (xdt tt_X0_follow 91 rfl) ?_
          refine g_dup2 hC rfl rfl (rfl : 169 + 1 = 170) (xdt tt_X0_follow 92 rfl) ?_
          refine g_iald hC hk0 ly1_15 (by decide) (rfl : 170 + 1 = 171) (xdt tt_X0_follow 93 rfl) (k0 := 7) (by decide) ?_
          refine g_iconst hC (rfl : 171 + 1 = 172) (xdt tt_X0_follow 94 rfl) ?_
          refine g_iadd hC (rfl : 172 + 1 = 173) (xdt tt_X0_follow 95 rfl) ?_
          obtain ⟨S18, hS18, h⟩ := lt1_i h
          refine g_iast hC hk0 ly1_15 (by decide) (by decide) hS18 (rfl : 173 + 1 = 174) (xdt tt_X0_follow 96 rfl) ?_
          refine g_aload_n hC rfl 0 rfl (rfl : 174 + 1 = 175) (xdt tt_X0_follow 97 rfl) ?_
          obtain ⟨S20, hc19, h⟩ := bd_i h
          refine g_callVv hC hZ hk0 kclX0 ly1_0 m_X0_emptyQueue q784 (Nat.le_of_ble_eq_true rfl) [] rfl (fun l => c_X0_emptyQueue_p1_0 l hk0 hc19) rfl (Nat.le_of_ble_eq_true rfl) (rfl : 175 + 3 = 178) (xdt tt_X0_follow 98 rfl) ?_
          refine g_aload_n hC rfl 0 rfl (rfl : 178 + 1 = 179) (xdt tt_X0_follow 99 rfl) ?_
          refine g_getP hC hk0 kclX0 ly1_0 4 (by decide) (rfl : r0 + 0 = r0) rfl q102 (rfl : 179 + 3 = 182) (xdt tt_X0_follow 100 rfl) ?_
          refine g_aload_n hC rfl 0 rfl (rfl : 182 + 1 = 183) (xdt tt_X0_follow 101 rfl) ?_
          obtain ⟨rg21, hrg21, grg21, h⟩ := ckP_i h
          refine g_getV hC hk0 kclX0 ly1_0 0 (by decide) rfl hrg21 grg21 (by decide) q142 (rfl : 183 + 3 = 186) (xdt tt_X0_follow 102 rfl) (fun krg21 => ?_)
          refine g_getP hC krg21 kclX5 ly2_0 8 (by decide) (rfl : rg21 + 0 = rg21) rfl q768 (rfl : 186 + 3 = 189) (xdt tt_X0_follow 103 rfl) ?_
          refine g_iload_n hC rfl 1 rfl (rfl : 189 + 1 = 190) (xdt tt_X0_follow 104 rfl) ?_
          obtain ⟨hi22, h⟩ := ckI_i h
          refine g_iald hC krg21 ly2_11 hi22 (rfl : 190 + 1 = 191) (xdt tt_X0_follow 105 rfl) (k0 := (wr x1).toNat) rfl ?_
          refine g_iload_n hC rfl 1 rfl (rfl : 191 + 1 = 192) (xdt tt_X0_follow 106 rfl) ?_
          refine g_aload_n hC rfl 0 rfl (rfl : 192 + 1 = 193) (xdt tt_X0_follow 107 rfl) ?_
          obtain ⟨rg23, hrg23, grg23, h⟩ := ckP_i h
          refine g_getV hC hk0 kclX0 ly1_0 0 (by decide) rfl hrg23 grg23 (by decide) q142 (rfl : 193 + 3 = 196) (xdt tt_X0_follow 108 rfl) (fun krg23 => ?_)
          refine g_getP hC krg23 kclX5 ly2_0 9 (by decide) (rfl : rg23 + 0 = rg23) rfl q769 (rfl : 196 + 3 = 199) (xdt tt_X0_follow 109 rfl) ?_
          refine g_iload_n hC rfl 1 rfl (rfl : 199 + 1 = 200) (xdt tt_X0_follow 110 rfl) ?_
          obtain ⟨hi24, h⟩ := ckI_i h
          refine g_iald hC krg23 ly2_12 hi24 (rfl : 200 + 1 = 201) (xdt tt_X0_follow 111 rfl) (k0 := (wr x1).toNat) rfl ?_
          obtain ⟨S26, hc25, h⟩ := bd_i h
          refine g_callVv hC hZ hk0 kclX7 ly1_8 m_X7_begin q792 (Nat.le_of_ble_eq_true rfl) [vi (gI S20 rg21 11 (wr x1).toNat), vi x1, vi (gI S20 rg23 12 (wr x1).toNat)] rfl (fun l => c_X7_begin_p1_8 l hk0 hc25) rfl (Nat.le_of_ble_eq_true rfl) (rfl : 201 + 3 = 204) (xdt tt_X0_follow 112 rfl) ?_
          refine g_sub [3] (lv' := [(3, vi x3)]) rfl ?_
          exact k_X0_follow_p1_0_b204 hC hZ hE hk0 _ _ h
    · replace h := (if_neg hc37).symm.trans h
      refine g_aload_n hC rfl 0 rfl (rfl : 108 + 1 = 109) (xdt tt_X0_follow 58 rfl) ?_
      refine g_getP hC hk0 kclX0 ly1_0 7 (by decide) (rfl : r0 + 0 = r0) rfl q112 (rfl : 109 + 3 = 112) (xdt tt_X0_follow 59 rfl) ?_
      refine g_getP hC hk0 kclX9 ly1_14 0 (by decide) (rfl : r0 + 0 = r0) rfl q689 (rfl : 112 + 3 = 115) (xdt tt_X0_follow 60 rfl) ?_
      refine g_bipush hC (by decide) (rfl : 115 + 2 = 117) (xdt tt_X0_follow 61 rfl) ?_
      refine g_dup2 hC rfl rfl (rfl : 117 + 1 = 118) (xdt tt_X0_follow 62 rfl) ?_
      refine g_iald hC hk0 ly1_15 (by decide) (rfl : 118 + 1 = 119) (xdt tt_X0_follow 63 rfl) (k0 := 6) (by decide) ?_
      refine g_iconst hC (rfl : 119 + 1 = 120) (xdt tt_X0_follow 64 rfl) ?_
      refine g_iadd hC (rfl : 120 + 1 = 121) (xdt tt_X0_follow 65 rfl) ?_
      obtain ⟨S29, hS29, h⟩ := lt1_i h
      refine g_iast hC hk0 ly1_15 (by decide) (by decide) hS29 (rfl : 121 + 1 = 122) (xdt tt_X0_follow 66 rfl) ?_
      refine g_aload_n hC rfl 0 rfl (rfl : 122 + 1 = 123) (xdt tt_X0_follow 67 rfl) ?_
      refine g_iload_n hC rfl 3 rfl (rfl : 123 + 1 = 124) (xdt tt_X0_follow 68 rfl) ?_
      refine g_if_eq hC (show ((124 : Nat) : Int) + 15 = ((139 : Nat) : Int) by decide) (rfl : 124 + 3 = 127) (xdt tt_X0_follow 69 rfl) (fun hc36 => ?_) (fun hc36 => ?_)
      · replace h := (if_pos hc36).symm.trans h
        refine g_iload_n hC rfl 1 rfl (rfl : 139 + 1 = 140) (xdt tt_X0_follow 76 rfl) ?_
        refine g_iconst hC (rfl : 140 + 1 = 141) (xdt tt_X0_follow 77 rfl) ?_
        refine g_iadd hC (rfl : 141 + 1 = 142) (xdt tt_X0_follow 78 rfl) ?_
        obtain ⟨S31, hc30, h⟩ := bd_i h
        refine g_callVv hC hZ hk0 kclX0 ly1_0 m_X0_goTo q780 (Nat.le_of_ble_eq_true rfl) [vi (x1 + 1)] rfl (fun l => c_X0_goTo_p1_0 l hk0 hc30) rfl (Nat.le_of_ble_eq_true rfl) (rfl : 142 + 3 = 145) (xdt tt_X0_follow 79 rfl) ?_
        refine g_iconst hC (rfl : 145 + 1 = 146) (xdt tt_X0_follow 80 rfl) ?_
        cases h
        exact g_iret hC hE (xdt tt_X0_follow 81 rfl)
      · replace h := (if_neg hc36).symm.trans h
        refine g_aload_n hC rfl 0 rfl (rfl : 127 + 1 = 128) (xdt tt_X0_follow 70 rfl) ?_
        obtain ⟨rg32, hrg32, grg32, h⟩ := ckP_i h
        refine g_getV hC hk0 kclX0 ly1_0 0 (by decide) rfl hrg32 grg32 (by decide) q142 (rfl : 128 + 3 = 131) (xdt tt_X0_follow 71 rfl) (fun krg32 => ?_)
        refine g_getP hC krg32 kclX5 ly2_0 8 (by decide) (rfl : rg32 + 0 = rg32) rfl q768 (rfl : 131 + 3 = 134) (xdt tt_X0_follow 72 rfl) ?_
        refine g_iload_n hC rfl 1 rfl (rfl : 134 + 1 = 135) (xdt tt_X0_follow 73 rfl) ?_
        obtain ⟨hi33, h⟩ := ckI_i h
        refine g_iald hC krg32 ly2_11 hi33 (rfl : 135 + 1 = 136) (xdt tt_X0_follow 74 rfl) (k0 := (wr x1).toNat) rfl ?_
        refine g_goto hC (show ((136 : Nat) : Int) + 6 = ((142 : Nat) : Int) by decide) (xdt tt_X0_follow 75 rfl) ?_
        obtain ⟨S35, hc34, h⟩ := bd_i h
        refine g_callVv hC hZ hk0 kclX0 ly1_0 m_X0_goTo q780 (Nat.le_of_ble_eq_true rfl) [vi (gI S29 rg32 11 (wr x1).toNat)] rfl (fun l => c_X0_goTo_p1_0 l hk0 hc34) rfl (Nat.le_of_ble_eq_true rfl) (rfl : 142 + 3 = 145) (xdt tt_X0_follow 79 rfl) ?_
        refine g_iconst hC (rfl : 145 + 1 = 146) (xdt tt_X0_follow 80 rfl) ?_
        cases h
        exact g_iret hC hE (xdt tt_X0_follow 81 rfl)
  · replace h := (if_neg hc41).symm.trans h
    refine g_aload_n hC rfl 0 rfl (rfl : 96 + 1 = 97) (xdt tt_X0_follow 50 rfl) ?_
    refine g_iload_n hC rfl 1 rfl (rfl : 97 + 1 = 98) (xdt tt_X0_follow 51 rfl) ?_
    refine g_iload_n hC rfl 3 rfl (rfl : 98 + 1 = 99) (xdt tt_X0_follow 52 rfl) ?_
    obtain ⟨v40, S39, hc38, h⟩ := bd2_i h
    refine g_callVi hC hZ hk0 kclX0 ly1_0 m_X0_followInLoop q771 (Nat.le_of_ble_eq_true rfl) [vi x1, vi x3] rfl (fun l => c_X0_followInLoop_p1_0 l hk0 hc38) rfl (Nat.le_of_ble_eq_true rfl) (rfl : 99 + 3 = 102) (xdt tt_X0_follow 53 rfl) ?_
    cases h
    exact g_iret hC hE (xdt tt_X0_follow 54 rfl)
set_option maxRecDepth 100000 in
set_option maxHeartbeats 4000000 in
theorem k_X0_follow_p1_0_b61 {K : xCtx} {E : xE} {b : Nat} (hC : xOK K cX0_follow RX0 5 (rmE 3 b)) (hZ : xZ K) {v : Int} {S' : xSt} (hE : xEnd K E (some .int) (YQi E v S')) {r0 : Nat} (hk0 : xkd E r0 = 1) : ∀ (S : xSt) (x1 : Int) (x2 : Int) (x3 : Int) (s0 : Int), f_X0_follow_p1_0_b61 r0 S x1 x2 x3 s0 = some (v, S') → WG K E 61 [(0, vr E r0 0), (1, vi x1), (2, vi x2), (3, vi x3)] [vi s0] S := by
  intro S x1 x2 x3 s0 h
  unfold f_X0_follow_p1_0_b61 at h
  refine g_istore hC (by decide) (lv' := [(4, vi s0), (0, vr E r0 0), (1, vi x1), (2, vi x2), (3, vi x3)]) rfl (rfl : 61 + 2 = 63) (xdt tt_X0_follow 32 rfl) ?_
  refine g_aload_n hC rfl 1 rfl (rfl : 63 + 1 = 64) (xdt tt_X0_follow 33 rfl) ?_
  refine g_getP hC hk0 kclX0 ly1_0 8 (by decide) (rfl : r0 + 0 = r0) rfl q113 (rfl : 64 + 3 = 67) (xdt tt_X0_follow 34 rfl) ?_
  refine g_iload_n hC rfl 2 rfl (rfl : 67 + 1 = 68) (xdt tt_X0_follow 35 rfl) ?_
  refine g_iload_n hC rfl 4 rfl (rfl : 68 + 1 = 69) (xdt tt_X0_follow 36 rfl) ?_
  obtain ⟨hi9, h⟩ := ckI_i h
  obtain ⟨hb10, h⟩ := ckB_i h
  obtain ⟨S11, hS11, h⟩ := lt1_i h
  refine g_zast hC hk0 ly1_19 hi9 hb10 rfl hS11 (rfl : 69 + 1 = 70) (xdt tt_X0_follow 37 rfl) ?_
  refine g_aload_n hC rfl 1 rfl (rfl : 70 + 1 = 71) (xdt tt_X0_follow 38 rfl) ?_
  refine g_iload_n hC rfl 4 rfl (rfl : 71 + 1 = 72) (xdt tt_X0_follow 39 rfl) ?_
  refine g_if_eq hC (show ((72 : Nat) : Int) + 7 = ((79 : Nat) : Int) by decide) (rfl : 72 + 3 = 75) (xdt tt_X0_follow 40 rfl) (fun hc42 => ?_) (fun hc42 => ?_)
  · replace h := (if_pos hc42).symm.trans h
    refine g_aload_n hC rfl 1 rfl (rfl : 79 + 1 = 80) (xdt tt_X0_follow 43 rfl) ?_
    refine g_getI hC hk0 kclX0 ly1_0 9 (by decide) rfl q149 (rfl : 80 + 3 = 83) (xdt tt_X0_follow 44 rfl) ?_
    refine g_sub [1, 2, 3, 4, 0] (lv' := [(0, vr E r0 0), (1, vi x1), (2, vi x2), (3, vi x3), (4, vi s0)]) rfl ?_
    exact k_X0_follow_p1_0_b83 hC hZ hE hk0 _ _ _ _ _ _ h
  · replace h := (if_neg hc42).symm.trans h
    refine g_iload_n hC rfl 2 rfl (rfl : 75 + 1 = 76) (xdt tt_X0_follow 41 rfl) ?_
    refine g_goto hC (show ((76 : Nat) : Int) + 7 = ((83 : Nat) : Int) by decide) (xdt tt_X0_follow 42 rfl) ?_
    refine g_sub [1, 2, 3, 4, 0] (lv' := [(0, vr E r0 0), (1, vi x1), (2, vi x2), (3, vi x3), (4, vi s0)]) rfl ?_
    exact k_X0_follow_p1_0_b83 hC hZ hE hk0 _ _ _ _ _ _ h
set_option maxRecDepth 100000 in
set_option maxHeartbeats 4000000 in
theorem k_X0_follow_p1_0_b60 {K : xCtx} {E : xE} {b : Nat} (hC : xOK K cX0_follow RX0 5 (rmE 3 b)) (hZ : xZ K) {v : Int} {S' : xSt} (hE : xEnd K E (some .int) (YQi E v S')) {r0 : Nat} (hk0 : xkd E r0 = 1) : ∀ (S : xSt) (x1 : Int) (x2 : Int) (x3 : Int), f_X0_follow_p1_0_b60 r0 S x1 x2 x3 = some (v, S') → WG K E 60 [(0, vr E r0 0), (1, vi x1), (2, vi x2), (3, vi x3)] [] S := by
  intro S x1 x2 x3 h
  unfold f_X0_follow_p1_0_b60 at h
  refine g_iconst hC (rfl : 60 + 1 = 61) (xdt tt_X0_follow 31 rfl) ?_
  refine g_sub [0, 1, 2, 3] (lv' := [(0, vr E r0 0), (1, vi x1), (2, vi x2), (3, vi x3)]) rfl ?_
  exact k_X0_follow_p1_0_b61 hC hZ hE hk0 _ _ _ _ _ h
set_option maxRecDepth 100000 in
set_option maxHeartbeats 4000000 in
theorem c_X0_follow_p1_0 (l : Launch) {E : xE} {S S' : xSt} {r0 : Nat} {a1 : Int} {a2 : Int} (hk0 : xkd E r0 = 1) {v : Int} (h : f_X0_follow_p1_0 S r0 a1 a2 = some (v, S')) : Met l yX0_follow (xws yX0_follow cX0_follow 5 (some .int)) (rmD 3) (YPc E [vr E r0 0, vi a1, vi a2] S) (YQi E v S') 0 0 (xA E) := by
  unfold f_X0_follow_p1_0 at h
  refine met_i (by decide +kernel) (Nat.le_of_ble_eq_true rfl) (fun K hC hZ hE => ?_)
  have hC : xOK K cX0_follow RX0 5 (rmE 3 0) := hC
  show WG K E 0 [(0, vr E r0 0), (1, vi a1), (2, vi a2)] [] S
  refine g_iload_n hC rfl 1 rfl (rfl : 0 + 1 = 1) (xdt tt_X0_follow 0 rfl) ?_
  refine g_if_lt hC (show ((1 : Nat) : Int) + 28 = ((29 : Nat) : Int) by decide) (rfl : 1 + 3 = 4) (xdt tt_X0_follow 1 rfl) (fun hc47 => ?_) (fun hc47 => ?_)
  · replace h := (if_pos hc47).symm.trans h
    refine g_iconst hC (rfl : 29 + 1 = 30) (xdt tt_X0_follow 14 rfl) ?_
    cases h
    exact g_iret hC hE (xdt tt_X0_follow 15 rfl)
  · replace h := (if_neg hc47).symm.trans h
    refine g_iload_n hC rfl 1 rfl (rfl : 4 + 1 = 5) (xdt tt_X0_follow 2 rfl) ?_
    refine g_aload_n hC rfl 0 rfl (rfl : 5 + 1 = 6) (xdt tt_X0_follow 3 rfl) ?_
    obtain ⟨rg1, hrg1, grg1, h⟩ := ckP_i h
    refine g_getV hC hk0 kclX0 ly1_0 0 (by decide) rfl hrg1 grg1 (by decide) q142 (rfl : 6 + 3 = 9) (xdt tt_X0_follow 4 rfl) (fun krg1 => ?_)
    refine g_getI hC krg1 kclX5 ly2_0 10 (by decide) rfl q714 (rfl : 9 + 3 = 12) (xdt tt_X0_follow 5 rfl) ?_
    refine g_icmp_ge hC (show ((12 : Nat) : Int) + 17 = ((29 : Nat) : Int) by decide) (rfl : 12 + 3 = 15) (xdt tt_X0_follow 6 rfl) (fun hc46 => ?_) (fun hc46 => ?_)
    · replace h := (if_pos hc46).symm.trans h
      refine g_iconst hC (rfl : 29 + 1 = 30) (xdt tt_X0_follow 14 rfl) ?_
      cases h
      exact g_iret hC hE (xdt tt_X0_follow 15 rfl)
    · replace h := (if_neg hc46).symm.trans h
      refine g_aload_n hC rfl 0 rfl (rfl : 15 + 1 = 16) (xdt tt_X0_follow 7 rfl) ?_
      obtain ⟨rg2, hrg2, grg2, h⟩ := ckP_i h
      refine g_getV hC hk0 kclX0 ly1_0 0 (by decide) rfl hrg2 grg2 (by decide) q142 (rfl : 16 + 3 = 19) (xdt tt_X0_follow 8 rfl) (fun krg2 => ?_)
      refine g_getP hC krg2 kclX5 ly2_0 2 (by decide) (rfl : rg2 + 0 = rg2) rfl q716 (rfl : 19 + 3 = 22) (xdt tt_X0_follow 9 rfl) ?_
      refine g_iload_n hC rfl 1 rfl (rfl : 22 + 1 = 23) (xdt tt_X0_follow 10 rfl) ?_
      obtain ⟨hi3, h⟩ := ckI_i h
      refine g_iald hC krg2 ly2_5 hi3 (rfl : 23 + 1 = 24) (xdt tt_X0_follow 11 rfl) (k0 := (wr a1).toNat) rfl ?_
      refine g_bipush hC (by decide) (rfl : 24 + 2 = 26) (xdt tt_X0_follow 12 rfl) ?_
      refine g_icmp_ge hC (show ((26 : Nat) : Int) + 5 = ((31 : Nat) : Int) by decide) (rfl : 26 + 3 = 29) (xdt tt_X0_follow 13 rfl) (fun hc45 => ?_) (fun hc45 => ?_)
      · replace h := (if_pos hc45).symm.trans h
        refine g_aload_n hC rfl 0 rfl (rfl : 31 + 1 = 32) (xdt tt_X0_follow 16 rfl) ?_
        refine g_getP hC hk0 kclX0 ly1_0 5 (by decide) (rfl : r0 + 0 = r0) rfl q106 (rfl : 32 + 3 = 35) (xdt tt_X0_follow 17 rfl) ?_
        refine g_aload_n hC rfl 0 rfl (rfl : 35 + 1 = 36) (xdt tt_X0_follow 18 rfl) ?_
        obtain ⟨rg4, hrg4, grg4, h⟩ := ckP_i h
        refine g_getV hC hk0 kclX0 ly1_0 0 (by decide) rfl hrg4 grg4 (by decide) q142 (rfl : 36 + 3 = 39) (xdt tt_X0_follow 19 rfl) (fun krg4 => ?_)
        refine g_iload_n hC rfl 1 rfl (rfl : 39 + 1 = 40) (xdt tt_X0_follow 20 rfl) ?_
        obtain ⟨v7, S6, hc5, h⟩ := bd2_i h
        refine g_callVz hC hZ hk0 kclX10 ly1_9 m_X10_goesToTarget q770 (Nat.le_of_ble_eq_true rfl) [vr E rg4 0, vi a1] rfl (fun l => c_X10_goesToTarget_p1_9_2_0 l hk0 krg4 hc5) rfl (Nat.le_of_ble_eq_true rfl) (rfl : 40 + 3 = 43) (xdt tt_X0_follow 21 rfl) (fun hb8 => ?_)
        refine g_istore_n hC rfl (by decide) (lv' := [(3, vi v7), (0, vr E r0 0), (1, vi a1), (2, vi a2)]) rfl (rfl : 43 + 1 = 44) (xdt tt_X0_follow 22 rfl) ?_
        refine g_iload_n hC rfl 0 rfl (rfl : 44 + 1 = 45) (xdt tt_X0_follow 23 rfl) ?_
        refine g_if_eq hC (show ((45 : Nat) : Int) + 15 = ((60 : Nat) : Int) by decide) (rfl : 45 + 3 = 48) (xdt tt_X0_follow 24 rfl) (fun hc44 => ?_) (fun hc44 => ?_)
        · replace h := (if_pos hc44).symm.trans h
          refine g_sub [1, 2, 3, 0] (lv' := [(0, vr E r0 0), (1, vi a1), (2, vi a2), (3, vi v7)]) rfl ?_
          exact k_X0_follow_p1_0_b60 hC hZ hE hk0 _ _ _ _ h
        · replace h := (if_neg hc44).symm.trans h
          refine g_aload_n hC rfl 1 rfl (rfl : 48 + 1 = 49) (xdt tt_X0_follow 25 rfl) ?_
          refine g_getI hC hk0 kclX0 ly1_0 9 (by decide) rfl q149 (rfl : 49 + 3 = 52) (xdt tt_X0_follow 26 rfl) ?_
          refine g_iload_n hC rfl 2 rfl (rfl : 52 + 1 = 53) (xdt tt_X0_follow 27 rfl) ?_
          refine g_icmp_ne hC (show ((53 : Nat) : Int) + 7 = ((60 : Nat) : Int) by decide) (rfl : 53 + 3 = 56) (xdt tt_X0_follow 28 rfl) (fun hc43 => ?_) (fun hc43 => ?_)
          · replace h := (if_pos hc43).symm.trans h
            refine g_sub [1, 2, 3, 0] (lv' := [(0, vr E r0 0), (1, vi a1), (2, vi a2), (3, vi v7)]) rfl ?_
            exact k_X0_follow_p1_0_b60 hC hZ hE hk0 _ _ _ _ h
          · replace h := (if_neg hc43).symm.trans h
            refine g_iconst hC (rfl : 56 + 1 = 57) (xdt tt_X0_follow 29 rfl) ?_
            refine g_goto hC (show ((57 : Nat) : Int) + 4 = ((61 : Nat) : Int) by decide) (xdt tt_X0_follow 30 rfl) ?_
            refine g_sub [1, 2, 3, 0] (lv' := [(0, vr E r0 0), (1, vi a1), (2, vi a2), (3, vi v7)]) rfl ?_
            exact k_X0_follow_p1_0_b61 hC hZ hE hk0 _ _ _ _ _ h
      · replace h := (if_neg hc45).symm.trans h
        refine g_iconst hC (rfl : 29 + 1 = 30) (xdt tt_X0_follow 14 rfl) ?_
        cases h
        exact g_iret hC hE (xdt tt_X0_follow 15 rfl)
def f_X0_causeOfNothing_p1_0 (S : xSt) (r0 : Nat) : Option (Int × xSt) :=
  ckP S r0 0 0 2 0 fun rg1 =>
  if wr (gI S r0 0 10) < wr (gI S rg1 0 10) then
    (if wr (gI S r0 0 16) ≤ 0 then
      (if wr (gI S r0 0 13) = 0 then
        (some (1, S))
      else
        (some (2, S)))
    else
      (some (3, S)))
  else
    (some (8, S))
set_option maxRecDepth 100000 in
set_option maxHeartbeats 4000000 in
theorem c_X0_causeOfNothing_p1_0 (l : Launch) {E : xE} {S S' : xSt} {r0 : Nat} (hk0 : xkd E r0 = 1) {v : Int} (h : f_X0_causeOfNothing_p1_0 S r0 = some (v, S')) : Met l yX0_causeOfNothing (xws yX0_causeOfNothing cX0_causeOfNothing 1 (some .int)) (rmD 1) (YPc E [vr E r0 0] S) (YQi E v S') 0 0 (xA E) := by
  unfold f_X0_causeOfNothing_p1_0 at h
  refine met_i (by decide +kernel) (Nat.le_of_ble_eq_true rfl) (fun K hC hZ hE => ?_)
  have hC : xOK K cX0_causeOfNothing RX0 1 (rmE 1 0) := hC
  show WG K E 0 [(0, vr E r0 0)] [] S
  refine g_aload_n hC rfl 0 rfl (rfl : 0 + 1 = 1) (xdt tt_X0_causeOfNothing 0 rfl) ?_
  refine g_getI hC hk0 kclX0 ly1_0 10 (by decide) rfl q150 (rfl : 1 + 3 = 4) (xdt tt_X0_causeOfNothing 1 rfl) ?_
  refine g_aload_n hC rfl 0 rfl (rfl : 4 + 1 = 5) (xdt tt_X0_causeOfNothing 2 rfl) ?_
  obtain ⟨rg1, hrg1, grg1, h⟩ := ckP_i h
  refine g_getV hC hk0 kclX0 ly1_0 0 (by decide) rfl hrg1 grg1 (by decide) q142 (rfl : 5 + 3 = 8) (xdt tt_X0_causeOfNothing 3 rfl) (fun krg1 => ?_)
  refine g_getI hC krg1 kclX5 ly2_0 10 (by decide) rfl q714 (rfl : 8 + 3 = 11) (xdt tt_X0_causeOfNothing 4 rfl) ?_
  refine g_icmp_lt hC (show ((11 : Nat) : Int) + 6 = ((17 : Nat) : Int) by decide) (rfl : 11 + 3 = 14) (xdt tt_X0_causeOfNothing 5 rfl) (fun hc4 => ?_) (fun hc4 => ?_)
  · replace h := (if_pos hc4).symm.trans h
    refine g_aload_n hC rfl 0 rfl (rfl : 17 + 1 = 18) (xdt tt_X0_causeOfNothing 8 rfl) ?_
    refine g_getI hC hk0 kclX0 ly1_0 16 (by decide) rfl q156 (rfl : 18 + 3 = 21) (xdt tt_X0_causeOfNothing 9 rfl) ?_
    refine g_if_le hC (show ((21 : Nat) : Int) + 5 = ((26 : Nat) : Int) by decide) (rfl : 21 + 3 = 24) (xdt tt_X0_causeOfNothing 10 rfl) (fun hc3 => ?_) (fun hc3 => ?_)
    · replace h := (if_pos hc3).symm.trans h
      refine g_aload_n hC rfl 0 rfl (rfl : 26 + 1 = 27) (xdt tt_X0_causeOfNothing 13 rfl) ?_
      refine g_getI hC hk0 kclX0 ly1_0 13 (by decide) rfl q153 (rfl : 27 + 3 = 30) (xdt tt_X0_causeOfNothing 14 rfl) ?_
      refine g_if_eq hC (show ((30 : Nat) : Int) + 7 = ((37 : Nat) : Int) by decide) (rfl : 30 + 3 = 33) (xdt tt_X0_causeOfNothing 15 rfl) (fun hc2 => ?_) (fun hc2 => ?_)
      · replace h := (if_pos hc2).symm.trans h
        refine g_iconst hC (rfl : 37 + 1 = 38) (xdt tt_X0_causeOfNothing 18 rfl) ?_
        cases h
        exact g_iret hC hE (xdt tt_X0_causeOfNothing 19 rfl)
      · replace h := (if_neg hc2).symm.trans h
        refine g_iconst hC (rfl : 33 + 1 = 34) (xdt tt_X0_causeOfNothing 16 rfl) ?_
        refine g_goto hC (show ((34 : Nat) : Int) + 4 = ((38 : Nat) : Int) by decide) (xdt tt_X0_causeOfNothing 17 rfl) ?_
        cases h
        exact g_iret hC hE (xdt tt_X0_causeOfNothing 19 rfl)
    · replace h := (if_neg hc3).symm.trans h
      refine g_iconst hC (rfl : 24 + 1 = 25) (xdt tt_X0_causeOfNothing 11 rfl) ?_
      cases h
      exact g_iret hC hE (xdt tt_X0_causeOfNothing 12 rfl)
  · replace h := (if_neg hc4).symm.trans h
    refine g_bipush hC (by decide) (rfl : 14 + 2 = 16) (xdt tt_X0_causeOfNothing 6 rfl) ?_
    cases h
    exact g_iret hC hE (xdt tt_X0_causeOfNothing 7 rfl)
def f_X8_has_p1_2_b2 (r0 : Nat) : Nat → xSt → Int → Int → Int → Option (Int × xSt)
  | 0, _, _, _, _ => none
  | fuel + 1, S, x1, x2, x3 =>
    if wr (gI S r0 2 2) ≤ wr x3 then
      (some (0, S))
    else
      (ckI x3 7 <|
      if ¬ wr (gI S r0 3 (wr x3).toNat) = wr x1 then
        ((f_X8_has_p1_2_b2 r0 fuel) S x1 x2 (x3 + 1))
      else
        (ckI x3 7 <|
        if ¬ wr (gI S r0 4 (wr x3).toNat) = wr x2 then
          ((f_X8_has_p1_2_b2 r0 fuel) S x1 x2 (x3 + 1))
        else
          (some (1, S))))
def f_X8_has_p1_2 (S : xSt) (r0 : Nat) (a1 : Int) (a2 : Int) : Option (Int × xSt) :=
  f_X8_has_p1_2_b2 r0 (fu S) S a1 a2 0
set_option maxRecDepth 100000 in
set_option maxHeartbeats 4000000 in
theorem k_X8_has_p1_2_b2 {K : xCtx} {E : xE} {b : Nat} (hC : xOK K cX8_has RX8 4 (rmE 1 b)) (hZ : xZ K) {v : Int} {S' : xSt} (hE : xEnd K E (some .boolean) (YQz E v S')) {r0 : Nat} (hk0 : xkd E r0 = 1) : ∀ (fuel : Nat) (S : xSt) (x1 : Int) (x2 : Int) (x3 : Int), f_X8_has_p1_2_b2 r0 fuel S x1 x2 x3 = some (v, S') → WG K E 2 [(0, vr E r0 2), (1, vi x1), (2, vi x2), (3, vi x3)] [] S := by
  intro fuel
  induction fuel with
  | zero => intro S x1 x2 x3 h; cases h
  | succ fuel ih =>
    intro S x1 x2 x3 h
    rw [f_X8_has_p1_2_b2] at h
    refine g_iload_n hC rfl 3 rfl (rfl : 2 + 1 = 3) (xdt tt_X8_has 2 rfl) ?_
    refine g_aload_n hC rfl 0 rfl (rfl : 3 + 1 = 4) (xdt tt_X8_has 3 rfl) ?_
    refine g_getI hC hk0 kclX8 ly1_2 2 (by decide) rfl q163 (rfl : 4 + 3 = 7) (xdt tt_X8_has 4 rfl) ?_
    refine g_icmp_ge hC (show ((7 : Nat) : Int) + 31 = ((38 : Nat) : Int) by decide) (rfl : 7 + 3 = 10) (xdt tt_X8_has 5 rfl) (fun hc5 => ?_) (fun hc5 => ?_)
    · replace h := (if_pos hc5).symm.trans h
      refine g_iconst hC (rfl : 38 + 1 = 39) (xdt tt_X8_has 22 rfl) ?_
      cases h
      exact g_zret hC hE (Or.inl rfl) (xdt tt_X8_has 23 rfl)
    · replace h := (if_neg hc5).symm.trans h
      refine g_aload_n hC rfl 0 rfl (rfl : 10 + 1 = 11) (xdt tt_X8_has 6 rfl) ?_
      refine g_getP hC hk0 kclX8 ly1_2 0 (by decide) (rfl : r0 + 0 = r0) rfl q71 (rfl : 11 + 3 = 14) (xdt tt_X8_has 7 rfl) ?_
      refine g_iload_n hC rfl 3 rfl (rfl : 14 + 1 = 15) (xdt tt_X8_has 8 rfl) ?_
      obtain ⟨hi1, h⟩ := ckI_i h
      refine g_iald hC hk0 ly1_3 hi1 (rfl : 15 + 1 = 16) (xdt tt_X8_has 9 rfl) (k0 := (wr x3).toNat) rfl ?_
      refine g_iload_n hC rfl 1 rfl (rfl : 16 + 1 = 17) (xdt tt_X8_has 10 rfl) ?_
      refine g_icmp_ne hC (show ((17 : Nat) : Int) + 15 = ((32 : Nat) : Int) by decide) (rfl : 17 + 3 = 20) (xdt tt_X8_has 11 rfl) (fun hc4 => ?_) (fun hc4 => ?_)
      · replace h := (if_pos hc4).symm.trans h
        refine g_iinc hC 3 rfl (by decide) (lv' := [(3, vi (x3 + 1)), (0, vr E r0 2), (1, vi x1), (2, vi x2)]) rfl (rfl : 32 + 3 = 35) (xdt tt_X8_has 20 rfl) ?_
        refine g_goto hC (show ((35 : Nat) : Int) + (-33) = ((2 : Nat) : Int) by decide) (xdt tt_X8_has 21 rfl) ?_
        refine g_sub [1, 2, 3, 0] (lv' := [(0, vr E r0 2), (1, vi x1), (2, vi x2), (3, vi (x3 + 1))]) rfl ?_
        exact ih _ _ _ _ h
      · replace h := (if_neg hc4).symm.trans h
        refine g_aload_n hC rfl 0 rfl (rfl : 20 + 1 = 21) (xdt tt_X8_has 12 rfl) ?_
        refine g_getP hC hk0 kclX8 ly1_2 1 (by decide) (rfl : r0 + 0 = r0) rfl q72 (rfl : 21 + 3 = 24) (xdt tt_X8_has 13 rfl) ?_
        refine g_iload_n hC rfl 3 rfl (rfl : 24 + 1 = 25) (xdt tt_X8_has 14 rfl) ?_
        obtain ⟨hi2, h⟩ := ckI_i h
        refine g_iald hC hk0 ly1_4 hi2 (rfl : 25 + 1 = 26) (xdt tt_X8_has 15 rfl) (k0 := (wr x3).toNat) rfl ?_
        refine g_iload_n hC rfl 2 rfl (rfl : 26 + 1 = 27) (xdt tt_X8_has 16 rfl) ?_
        refine g_icmp_ne hC (show ((27 : Nat) : Int) + 5 = ((32 : Nat) : Int) by decide) (rfl : 27 + 3 = 30) (xdt tt_X8_has 17 rfl) (fun hc3 => ?_) (fun hc3 => ?_)
        · replace h := (if_pos hc3).symm.trans h
          refine g_iinc hC 3 rfl (by decide) (lv' := [(3, vi (x3 + 1)), (0, vr E r0 2), (1, vi x1), (2, vi x2)]) rfl (rfl : 32 + 3 = 35) (xdt tt_X8_has 20 rfl) ?_
          refine g_goto hC (show ((35 : Nat) : Int) + (-33) = ((2 : Nat) : Int) by decide) (xdt tt_X8_has 21 rfl) ?_
          refine g_sub [1, 2, 3, 0] (lv' := [(0, vr E r0 2), (1, vi x1), (2, vi x2), (3, vi (x3 + 1))]) rfl ?_
          exact ih _ _ _ _ h
        · replace h := (if_neg hc3).symm.trans h
          refine g_iconst hC (rfl : 30 + 1 = 31) (xdt tt_X8_has 18 rfl) ?_
          cases h
          exact g_zret hC hE (Or.inr rfl) (xdt tt_X8_has 19 rfl)
set_option maxRecDepth 100000 in
set_option maxHeartbeats 4000000 in
theorem c_X8_has_p1_2 (l : Launch) {E : xE} {S S' : xSt} {r0 : Nat} {a1 : Int} {a2 : Int} (hk0 : xkd E r0 = 1) {v : Int} (h : f_X8_has_p1_2 S r0 a1 a2 = some (v, S')) : Met l yX8_has (xws yX8_has cX8_has 4 (some .boolean)) (rmD 1) (YPc E [vr E r0 2, vi a1, vi a2] S) (YQz E v S') 0 0 (xA E) := by
  unfold f_X8_has_p1_2 at h
  refine met_z (by decide +kernel) (Nat.le_of_ble_eq_true rfl) (fun K hC hZ hE => ?_)
  have hC : xOK K cX8_has RX8 4 (rmE 1 0) := hC
  show WG K E 0 [(0, vr E r0 2), (1, vi a1), (2, vi a2)] [] S
  refine g_iconst hC (rfl : 0 + 1 = 1) (xdt tt_X8_has 0 rfl) ?_
  refine g_istore_n hC rfl (by decide) (lv' := [(3, vi 0), (0, vr E r0 2), (1, vi a1), (2, vi a2)]) rfl (rfl : 1 + 1 = 2) (xdt tt_X8_has 1 rfl) ?_
  refine g_sub [1, 2, 3, 0] (lv' := [(0, vr E r0 2), (1, vi a1), (2, vi a2), (3, vi 0)]) rfl ?_
  exact k_X8_has_p1_2_b2 hC hZ hE hk0 _ _ _ _ _ h
def f_X5_windowOf_p2_0 (S : xSt) (r0 : Nat) (a1 : Int) : Option (Int × xSt) :=
  if wr (gI S r0 1 1) ≤ 0 then
    (some (0, S))
  else
    (ckZ (gI S r0 1 1) <|
    some ((Int.tdiv (wr a1) (wr (gI S r0 1 1))), S))
set_option maxRecDepth 100000 in
set_option maxHeartbeats 4000000 in
theorem c_X5_windowOf_p2_0 (l : Launch) {E : xE} {S S' : xSt} {r0 : Nat} {a1 : Int} (hk0 : xkd E r0 = 2) {v : Int} (h : f_X5_windowOf_p2_0 S r0 a1 = some (v, S')) : Met l yX5_windowOf (xws yX5_windowOf cX5_windowOf 3 (some .int)) (rmD 1) (YPc E [vr E r0 0, vi a1] S) (YQi E v S') 0 0 (xA E) := by
  unfold f_X5_windowOf_p2_0 at h
  refine met_i (by decide +kernel) (Nat.le_of_ble_eq_true rfl) (fun K hC hZ hE => ?_)
  have hC : xOK K cX5_windowOf RX5 3 (rmE 1 0) := hC
  show WG K E 0 [(0, vr E r0 0), (1, vi a1)] [] S
  refine g_aload_n hC rfl 0 rfl (rfl : 0 + 1 = 1) (xdt tt_X5_windowOf 0 rfl) ?_
  refine g_getP hC hk0 kclX5 ly2_0 0 (by decide) (rfl : r0 + 0 = r0) rfl q55 (rfl : 1 + 3 = 4) (xdt tt_X5_windowOf 1 rfl) ?_
  refine g_iconst hC (rfl : 4 + 1 = 5) (xdt tt_X5_windowOf 2 rfl) ?_
  refine g_iald hC hk0 ly2_1 (by decide) (rfl : 5 + 1 = 6) (xdt tt_X5_windowOf 3 rfl) (k0 := 1) (by decide) ?_
  refine g_istore_n hC rfl (by decide) (lv' := [(2, vi (gI S r0 1 1)), (0, vr E r0 0), (1, vi a1)]) rfl (rfl : 6 + 1 = 7) (xdt tt_X5_windowOf 4 rfl) ?_
  refine g_iload_n hC rfl 0 rfl (rfl : 7 + 1 = 8) (xdt tt_X5_windowOf 5 rfl) ?_
  refine g_if_le hC (show ((8 : Nat) : Int) + 9 = ((17 : Nat) : Int) by decide) (rfl : 8 + 3 = 11) (xdt tt_X5_windowOf 6 rfl) (fun hc2 => ?_) (fun hc2 => ?_)
  · replace h := (if_pos hc2).symm.trans h
    refine g_iconst hC (rfl : 17 + 1 = 18) (xdt tt_X5_windowOf 11 rfl) ?_
    cases h
    exact g_iret hC hE (xdt tt_X5_windowOf 12 rfl)
  · replace h := (if_neg hc2).symm.trans h
    refine g_iload_n hC rfl 2 rfl (rfl : 11 + 1 = 12) (xdt tt_X5_windowOf 7 rfl) ?_
    refine g_iload_n hC rfl 0 rfl (rfl : 12 + 1 = 13) (xdt tt_X5_windowOf 8 rfl) ?_
    obtain ⟨hz1, h⟩ := ckZ_i h
    refine g_idiv hC hz1 (rfl : 13 + 1 = 14) (xdt tt_X5_windowOf 9 rfl) ?_
    refine g_goto hC (show ((14 : Nat) : Int) + 4 = ((18 : Nat) : Int) by decide) (xdt tt_X5_windowOf 10 rfl) ?_
    cases h
    exact g_iret hC hE (xdt tt_X5_windowOf 12 rfl)
def f_X0_fusesWithNext_p1_0 (S : xSt) (r0 : Nat) (a1 : Int) : Option (Int × xSt) :=
  if wr a1 < 0 then
    (some (0, S))
  else
    (ckP S r0 0 0 2 0 fun rg1 =>
    if wr (gI S rg1 0 10) ≤ wr (a1 + 1) then
      (some (0, S))
    else
      (ckP S r0 0 0 2 0 fun rg2 =>
      ckI a1 60 <|
      if ¬ wr (gI S rg2 6 (wr a1).toNat) = 0 then
        (some (0, S))
      else
        (ckP S r0 0 0 2 0 fun rg4 =>
        ckI (a1 + 1) 60 <|
        if wr (gI S rg4 6 (wr (a1 + 1)).toNat) = 0 then
          (ckP S r0 0 0 2 0 fun rg6 =>
          ckI a1 60 <|
          ckP S r0 0 0 2 0 fun rg8 =>
          ckI (a1 + 1) 60 <|
          bd2 (f_X8_has_p1_2 S r0 (gI S rg6 5 (wr a1).toNat) (gI S rg8 5 (wr (a1 + 1)).toNat)) fun v12 S11 =>
          if wr v12 = 0 then
            (some (0, S11))
          else
            (ckP S11 r0 0 0 2 0 fun rg14 =>
            ckP S11 r0 0 0 2 0 fun rg15 =>
            ckI a1 61 <|
            bd2 (f_X5_windowOf_p2_0 S11 rg14 (gI S11 rg15 9 (wr a1).toNat)) fun v19 S18 =>
            ckP S18 r0 0 0 2 0 fun rg20 =>
            ckP S18 r0 0 0 2 0 fun rg21 =>
            ckI (a1 + 1) 61 <|
            bd2 (f_X5_windowOf_p2_0 S18 rg20 (gI S18 rg21 9 (wr (a1 + 1)).toNat)) fun v25 S24 =>
            if ¬ wr v19 = wr v25 then
              (some (0, S24))
            else
              (some (1, S24))))
        else
          (some (0, S)))))
set_option maxRecDepth 100000 in
set_option maxHeartbeats 4000000 in
theorem c_X0_fusesWithNext_p1_0 (l : Launch) {E : xE} {S S' : xSt} {r0 : Nat} {a1 : Int} (hk0 : xkd E r0 = 1) {v : Int} (h : f_X0_fusesWithNext_p1_0 S r0 a1 = some (v, S')) : Met l yX0_fusesWithNext (xws yX0_fusesWithNext cX0_fusesWithNext 3 (some .boolean)) (rmD 2) (YPc E [vr E r0 0, vi a1] S) (YQz E v S') 0 0 (xA E) := by
  unfold f_X0_fusesWithNext_p1_0 at h
  refine met_z (by decide +kernel) (Nat.le_of_ble_eq_true rfl) (fun K hC hZ hE => ?_)
  have hC : xOK K cX0_fusesWithNext RX0 3 (rmE 2 0) := hC
  show WG K E 0 [(0, vr E r0 0), (1, vi a1)] [] S
  refine g_iload_n hC rfl 1 rfl (rfl : 0 + 1 = 1) (xdt tt_X0_fusesWithNext 0 rfl) ?_
  refine g_iconst hC (rfl : 1 + 1 = 2) (xdt tt_X0_fusesWithNext 1 rfl) ?_
  refine g_iadd hC (rfl : 2 + 1 = 3) (xdt tt_X0_fusesWithNext 2 rfl) ?_
  refine g_istore_n hC rfl (by decide) (lv' := [(2, vi (a1 + 1)), (0, vr E r0 0), (1, vi a1)]) rfl (rfl : 3 + 1 = 4) (xdt tt_X0_fusesWithNext 3 rfl) ?_
  refine g_iload_n hC rfl 2 rfl (rfl : 4 + 1 = 5) (xdt tt_X0_fusesWithNext 4 rfl) ?_
  refine g_if_lt hC (show ((5 : Nat) : Int) + 38 = ((43 : Nat) : Int) by decide) (rfl : 5 + 3 = 8) (xdt tt_X0_fusesWithNext 5 rfl) (fun hc31 => ?_) (fun hc31 => ?_)
  · replace h := (if_pos hc31).symm.trans h
    refine g_iconst hC (rfl : 43 + 1 = 44) (xdt tt_X0_fusesWithNext 23 rfl) ?_
    cases h
    exact g_zret hC hE (Or.inl rfl) (xdt tt_X0_fusesWithNext 24 rfl)
  · replace h := (if_neg hc31).symm.trans h
    refine g_iload_n hC rfl 0 rfl (rfl : 8 + 1 = 9) (xdt tt_X0_fusesWithNext 6 rfl) ?_
    refine g_aload_n hC rfl 1 rfl (rfl : 9 + 1 = 10) (xdt tt_X0_fusesWithNext 7 rfl) ?_
    obtain ⟨rg1, hrg1, grg1, h⟩ := ckP_i h
    refine g_getV hC hk0 kclX0 ly1_0 0 (by decide) rfl hrg1 grg1 (by decide) q142 (rfl : 10 + 3 = 13) (xdt tt_X0_fusesWithNext 8 rfl) (fun krg1 => ?_)
    refine g_getI hC krg1 kclX5 ly2_0 10 (by decide) rfl q714 (rfl : 13 + 3 = 16) (xdt tt_X0_fusesWithNext 9 rfl) ?_
    refine g_icmp_ge hC (show ((16 : Nat) : Int) + 27 = ((43 : Nat) : Int) by decide) (rfl : 16 + 3 = 19) (xdt tt_X0_fusesWithNext 10 rfl) (fun hc30 => ?_) (fun hc30 => ?_)
    · replace h := (if_pos hc30).symm.trans h
      refine g_iconst hC (rfl : 43 + 1 = 44) (xdt tt_X0_fusesWithNext 23 rfl) ?_
      cases h
      exact g_zret hC hE (Or.inl rfl) (xdt tt_X0_fusesWithNext 24 rfl)
    · replace h := (if_neg hc30).symm.trans h
      refine g_aload_n hC rfl 1 rfl (rfl : 19 + 1 = 20) (xdt tt_X0_fusesWithNext 11 rfl) ?_
      obtain ⟨rg2, hrg2, grg2, h⟩ := ckP_i h
      refine g_getV hC hk0 kclX0 ly1_0 0 (by decide) rfl hrg2 grg2 (by decide) q142 (rfl : 20 + 3 = 23) (xdt tt_X0_fusesWithNext 12 rfl) (fun krg2 => ?_)
      refine g_getP hC krg2 kclX5 ly2_0 3 (by decide) (rfl : rg2 + 0 = rg2) rfl q715 (rfl : 23 + 3 = 26) (xdt tt_X0_fusesWithNext 13 rfl) ?_
      refine g_iload_n hC rfl 2 rfl (rfl : 26 + 1 = 27) (xdt tt_X0_fusesWithNext 14 rfl) ?_
      obtain ⟨hi3, h⟩ := ckI_i h
      refine g_zald hC krg2 ly2_6 hi3 (rfl : 27 + 1 = 28) (xdt tt_X0_fusesWithNext 15 rfl) (k0 := (wr a1).toNat) rfl ?_
      refine g_if_ne hC (show ((28 : Nat) : Int) + 15 = ((43 : Nat) : Int) by decide) (rfl : 28 + 3 = 31) (xdt tt_X0_fusesWithNext 16 rfl) (fun hc29 => ?_) (fun hc29 => ?_)
      · replace h := (if_pos hc29).symm.trans h
        refine g_iconst hC (rfl : 43 + 1 = 44) (xdt tt_X0_fusesWithNext 23 rfl) ?_
        cases h
        exact g_zret hC hE (Or.inl rfl) (xdt tt_X0_fusesWithNext 24 rfl)
      · replace h := (if_neg hc29).symm.trans h
        refine g_aload_n hC rfl 1 rfl (rfl : 31 + 1 = 32) (xdt tt_X0_fusesWithNext 17 rfl) ?_
        obtain ⟨rg4, hrg4, grg4, h⟩ := ckP_i h
        refine g_getV hC hk0 kclX0 ly1_0 0 (by decide) rfl hrg4 grg4 (by decide) q142 (rfl : 32 + 3 = 35) (xdt tt_X0_fusesWithNext 18 rfl) (fun krg4 => ?_)
        refine g_getP hC krg4 kclX5 ly2_0 3 (by decide) (rfl : rg4 + 0 = rg4) rfl q715 (rfl : 35 + 3 = 38) (xdt tt_X0_fusesWithNext 19 rfl) ?_
        refine g_iload_n hC rfl 0 rfl (rfl : 38 + 1 = 39) (xdt tt_X0_fusesWithNext 20 rfl) ?_
        obtain ⟨hi5, h⟩ := ckI_i h
        refine g_zald hC krg4 ly2_6 hi5 (rfl : 39 + 1 = 40) (xdt tt_X0_fusesWithNext 21 rfl) (k0 := (wr (a1 + 1)).toNat) rfl ?_
        refine g_if_eq hC (show ((40 : Nat) : Int) + 5 = ((45 : Nat) : Int) by decide) (rfl : 40 + 3 = 43) (xdt tt_X0_fusesWithNext 22 rfl) (fun hc28 => ?_) (fun hc28 => ?_)
        · replace h := (if_pos hc28).symm.trans h
          refine g_aload_n hC rfl 1 rfl (rfl : 45 + 1 = 46) (xdt tt_X0_fusesWithNext 25 rfl) ?_
          refine g_getP hC hk0 kclX0 ly1_0 2 (by decide) (rfl : r0 + 0 = r0) rfl q94 (rfl : 46 + 3 = 49) (xdt tt_X0_fusesWithNext 26 rfl) ?_
          refine g_aload_n hC rfl 1 rfl (rfl : 49 + 1 = 50) (xdt tt_X0_fusesWithNext 27 rfl) ?_
          obtain ⟨rg6, hrg6, grg6, h⟩ := ckP_i h
          refine g_getV hC hk0 kclX0 ly1_0 0 (by decide) rfl hrg6 grg6 (by decide) q142 (rfl : 50 + 3 = 53) (xdt tt_X0_fusesWithNext 28 rfl) (fun krg6 => ?_)
          refine g_getP hC krg6 kclX5 ly2_0 2 (by decide) (rfl : rg6 + 0 = rg6) rfl q716 (rfl : 53 + 3 = 56) (xdt tt_X0_fusesWithNext 29 rfl) ?_
          refine g_iload_n hC rfl 2 rfl (rfl : 56 + 1 = 57) (xdt tt_X0_fusesWithNext 30 rfl) ?_
          obtain ⟨hi7, h⟩ := ckI_i h
          refine g_iald hC krg6 ly2_5 hi7 (rfl : 57 + 1 = 58) (xdt tt_X0_fusesWithNext 31 rfl) (k0 := (wr a1).toNat) rfl ?_
          refine g_aload_n hC rfl 1 rfl (rfl : 58 + 1 = 59) (xdt tt_X0_fusesWithNext 32 rfl) ?_
          obtain ⟨rg8, hrg8, grg8, h⟩ := ckP_i h
          refine g_getV hC hk0 kclX0 ly1_0 0 (by decide) rfl hrg8 grg8 (by decide) q142 (rfl : 59 + 3 = 62) (xdt tt_X0_fusesWithNext 33 rfl) (fun krg8 => ?_)
          refine g_getP hC krg8 kclX5 ly2_0 2 (by decide) (rfl : rg8 + 0 = rg8) rfl q716 (rfl : 62 + 3 = 65) (xdt tt_X0_fusesWithNext 34 rfl) ?_
          refine g_iload_n hC rfl 0 rfl (rfl : 65 + 1 = 66) (xdt tt_X0_fusesWithNext 35 rfl) ?_
          obtain ⟨hi9, h⟩ := ckI_i h
          refine g_iald hC krg8 ly2_5 hi9 (rfl : 66 + 1 = 67) (xdt tt_X0_fusesWithNext 36 rfl) (k0 := (wr (a1 + 1)).toNat) rfl ?_
          obtain ⟨v12, S11, hc10, h⟩ := bd2_i h
          refine g_callVz hC hZ hk0 kclX8 ly1_2 m_X8_has q718 (Nat.le_of_ble_eq_true rfl) [vi (gI S rg6 5 (wr a1).toNat), vi (gI S rg8 5 (wr (a1 + 1)).toNat)] rfl (fun l => c_X8_has_p1_2 l hk0 hc10) rfl (Nat.le_of_ble_eq_true rfl) (rfl : 67 + 3 = 70) (xdt tt_X0_fusesWithNext 37 rfl) (fun hb13 => ?_)
          refine g_if_eq hC (show ((70 : Nat) : Int) + 42 = ((112 : Nat) : Int) by decide) (rfl : 70 + 3 = 73) (xdt tt_X0_fusesWithNext 38 rfl) (fun hc27 => ?_) (fun hc27 => ?_)
          · replace h := (if_pos hc27).symm.trans h
            refine g_iconst hC (rfl : 112 + 1 = 113) (xdt tt_X0_fusesWithNext 58 rfl) ?_
            cases h
            exact g_zret hC hE (Or.inl rfl) (xdt tt_X0_fusesWithNext 59 rfl)
          · replace h := (if_neg hc27).symm.trans h
            refine g_aload_n hC rfl 1 rfl (rfl : 73 + 1 = 74) (xdt tt_X0_fusesWithNext 39 rfl) ?_
            obtain ⟨rg14, hrg14, grg14, h⟩ := ckP_i h
            refine g_getV hC hk0 kclX0 ly1_0 0 (by decide) rfl hrg14 grg14 (by decide) q142 (rfl : 74 + 3 = 77) (xdt tt_X0_fusesWithNext 40 rfl) (fun krg14 => ?_)
            refine g_aload_n hC rfl 1 rfl (rfl : 77 + 1 = 78) (xdt tt_X0_fusesWithNext 41 rfl) ?_
            obtain ⟨rg15, hrg15, grg15, h⟩ := ckP_i h
            refine g_getV hC hk0 kclX0 ly1_0 0 (by decide) rfl hrg15 grg15 (by decide) q142 (rfl : 78 + 3 = 81) (xdt tt_X0_fusesWithNext 42 rfl) (fun krg15 => ?_)
            refine g_getP hC krg15 kclX5 ly2_0 6 (by decide) (rfl : rg15 + 0 = rg15) rfl q717 (rfl : 81 + 3 = 84) (xdt tt_X0_fusesWithNext 43 rfl) ?_
            refine g_iload_n hC rfl 2 rfl (rfl : 84 + 1 = 85) (xdt tt_X0_fusesWithNext 44 rfl) ?_
            obtain ⟨hi16, h⟩ := ckI_i h
            refine g_iald hC krg15 ly2_9 hi16 (rfl : 85 + 1 = 86) (xdt tt_X0_fusesWithNext 45 rfl) (k0 := (wr a1).toNat) rfl ?_
            obtain ⟨v19, S18, hc17, h⟩ := bd2_i h
            refine g_callVi hC hZ krg14 kclX5 ly2_0 m_X5_windowOf q719 (Nat.le_of_ble_eq_true rfl) [vi (gI S11 rg15 9 (wr a1).toNat)] rfl (fun l => c_X5_windowOf_p2_0 l krg14 hc17) rfl (Nat.le_of_ble_eq_true rfl) (rfl : 86 + 3 = 89) (xdt tt_X0_fusesWithNext 46 rfl) ?_
            refine g_aload_n hC rfl 1 rfl (rfl : 89 + 1 = 90) (xdt tt_X0_fusesWithNext 47 rfl) ?_
            obtain ⟨rg20, hrg20, grg20, h⟩ := ckP_i h
            refine g_getV hC hk0 kclX0 ly1_0 0 (by decide) rfl hrg20 grg20 (by decide) q142 (rfl : 90 + 3 = 93) (xdt tt_X0_fusesWithNext 48 rfl) (fun krg20 => ?_)
            refine g_aload_n hC rfl 1 rfl (rfl : 93 + 1 = 94) (xdt tt_X0_fusesWithNext 49 rfl) ?_
            obtain ⟨rg21, hrg21, grg21, h⟩ := ckP_i h
            refine g_getV hC hk0 kclX0 ly1_0 0 (by decide) rfl hrg21 grg21 (by decide) q142 (rfl : 94 + 3 = 97) (xdt tt_X0_fusesWithNext 50 rfl) (fun krg21 => ?_)
            refine g_getP hC krg21 kclX5 ly2_0 6 (by decide) (rfl : rg21 + 0 = rg21) rfl q717 (rfl : 97 + 3 = 100) (xdt tt_X0_fusesWithNext 51 rfl) ?_
            refine g_iload_n hC rfl 0 rfl (rfl : 100 + 1 = 101) (xdt tt_X0_fusesWithNext 52 rfl) ?_
            obtain ⟨hi22, h⟩ := ckI_i h
            refine g_iald hC krg21 ly2_9 hi22 (rfl : 101 + 1 = 102) (xdt tt_X0_fusesWithNext 53 rfl) (k0 := (wr (a1 + 1)).toNat) rfl ?_
            obtain ⟨v25, S24, hc23, h⟩ := bd2_i h
            refine g_callVi hC hZ krg20 kclX5 ly2_0 m_X5_windowOf q719 (Nat.le_of_ble_eq_true rfl) [vi (gI S18 rg21 9 (wr (a1 + 1)).toNat)] rfl (fun l => c_X5_windowOf_p2_0 l krg20 hc23) rfl (Nat.le_of_ble_eq_true rfl) (rfl : 102 + 3 = 105) (xdt tt_X0_fusesWithNext 54 rfl) ?_
            refine g_icmp_ne hC (show ((105 : Nat) : Int) + 7 = ((112 : Nat) : Int) by decide) (rfl : 105 + 3 = 108) (xdt tt_X0_fusesWithNext 55 rfl) (fun hc26 => ?_) (fun hc26 => ?_)
            · replace h := (if_pos hc26).symm.trans h
              refine g_iconst hC (rfl : 112 + 1 = 113) (xdt tt_X0_fusesWithNext 58 rfl) ?_
              cases h
              exact g_zret hC hE (Or.inl rfl) (xdt tt_X0_fusesWithNext 59 rfl)
            · replace h := (if_neg hc26).symm.trans h
              refine g_iconst hC (rfl : 108 + 1 = 109) (xdt tt_X0_fusesWithNext 56 rfl) ?_
              refine g_goto hC (show ((109 : Nat) : Int) + 4 = ((113 : Nat) : Int) by decide) (xdt tt_X0_fusesWithNext 57 rfl) ?_
              cases h
              exact g_zret hC hE (Or.inr rfl) (xdt tt_X0_fusesWithNext 59 rfl)
        · replace h := (if_neg hc28).symm.trans h
          refine g_iconst hC (rfl : 43 + 1 = 44) (xdt tt_X0_fusesWithNext 23 rfl) ?_
          cases h
          exact g_zret hC hE (Or.inl rfl) (xdt tt_X0_fusesWithNext 24 rfl)
def f_X0_isFused_p1_0_b60 (r0 : Nat) (S : xSt) (x1 : Int) (s0 : Int) : Option (Int × xSt) :=
  if wr s0 = 0 then
    (some (0, S))
  else
    (bd2 (f_X0_fusesWithNext_p1_0 S r0 x1) fun v3 S2 =>
    if wr v3 = 0 then
      (some (0, S2))
    else
      (some (1, S2)))
def f_X0_isFused_p1_0_b59 (r0 : Nat) (S : xSt) (x1 : Int) : Option (Int × xSt) :=
  f_X0_isFused_p1_0_b60 r0 S x1 0
def f_X0_isFused_p1_0 (S : xSt) (r0 : Nat) (a1 : Int) : Option (Int × xSt) :=
  if wr (gI S r0 8 0) = 0 then
    (if wr (gI S r0 5 2) ≤ wr 1 then
      (f_X0_isFused_p1_0_b59 r0 S a1)
    else
      (if ¬ wr (gI S r0 6 1) = wr (a1 + 1) then
        (f_X0_isFused_p1_0_b59 r0 S a1)
      else
        (f_X0_isFused_p1_0_b60 r0 S a1 1)))
  else
    (if wr (gI S r0 8 2) ≤ wr a1 then
      (f_X0_isFused_p1_0_b60 r0 S a1 0)
    else
      (f_X0_isFused_p1_0_b60 r0 S a1 1))
set_option maxRecDepth 100000 in
set_option maxHeartbeats 4000000 in
theorem k_X0_isFused_p1_0_b60 {K : xCtx} {E : xE} {b : Nat} (hC : xOK K cX0_isFused RX0 3 (rmE 3 b)) (hZ : xZ K) {v : Int} {S' : xSt} (hE : xEnd K E (some .boolean) (YQz E v S')) {r0 : Nat} (hk0 : xkd E r0 = 1) : ∀ (S : xSt) (x1 : Int) (s0 : Int), f_X0_isFused_p1_0_b60 r0 S x1 s0 = some (v, S') → WG K E 60 [(0, vr E r0 0), (1, vi x1)] [vi s0] S := by
  intro S x1 s0 h
  unfold f_X0_isFused_p1_0_b60 at h
  refine g_istore_n hC rfl (by decide) (lv' := [(2, vi s0), (0, vr E r0 0), (1, vi x1)]) rfl (rfl : 60 + 1 = 61) (xdt tt_X0_isFused 30 rfl) ?_
  refine g_iload_n hC rfl 0 rfl (rfl : 61 + 1 = 62) (xdt tt_X0_isFused 31 rfl) ?_
  refine g_if_eq hC (show ((62 : Nat) : Int) + 15 = ((77 : Nat) : Int) by decide) (rfl : 62 + 3 = 65) (xdt tt_X0_isFused 32 rfl) (fun hc6 => ?_) (fun hc6 => ?_)
  · replace h := (if_pos hc6).symm.trans h
    refine g_iconst hC (rfl : 77 + 1 = 78) (xdt tt_X0_isFused 39 rfl) ?_
    cases h
    exact g_zret hC hE (Or.inl rfl) (xdt tt_X0_isFused 40 rfl)
  · replace h := (if_neg hc6).symm.trans h
    refine g_aload_n hC rfl 1 rfl (rfl : 65 + 1 = 66) (xdt tt_X0_isFused 33 rfl) ?_
    refine g_iload_n hC rfl 2 rfl (rfl : 66 + 1 = 67) (xdt tt_X0_isFused 34 rfl) ?_
    obtain ⟨v3, S2, hc1, h⟩ := bd2_i h
    refine g_callVz hC hZ hk0 kclX0 ly1_0 m_X0_fusesWithNext q710 (Nat.le_of_ble_eq_true rfl) [vi x1] rfl (fun l => c_X0_fusesWithNext_p1_0 l hk0 hc1) rfl (Nat.le_of_ble_eq_true rfl) (rfl : 67 + 3 = 70) (xdt tt_X0_isFused 35 rfl) (fun hb4 => ?_)
    refine g_if_eq hC (show ((70 : Nat) : Int) + 7 = ((77 : Nat) : Int) by decide) (rfl : 70 + 3 = 73) (xdt tt_X0_isFused 36 rfl) (fun hc5 => ?_) (fun hc5 => ?_)
    · replace h := (if_pos hc5).symm.trans h
      refine g_iconst hC (rfl : 77 + 1 = 78) (xdt tt_X0_isFused 39 rfl) ?_
      cases h
      exact g_zret hC hE (Or.inl rfl) (xdt tt_X0_isFused 40 rfl)
    · replace h := (if_neg hc5).symm.trans h
      refine g_iconst hC (rfl : 73 + 1 = 74) (xdt tt_X0_isFused 37 rfl) ?_
      refine g_goto hC (show ((74 : Nat) : Int) + 4 = ((78 : Nat) : Int) by decide) (xdt tt_X0_isFused 38 rfl) ?_
      cases h
      exact g_zret hC hE (Or.inr rfl) (xdt tt_X0_isFused 40 rfl)
set_option maxRecDepth 100000 in
set_option maxHeartbeats 4000000 in
theorem k_X0_isFused_p1_0_b59 {K : xCtx} {E : xE} {b : Nat} (hC : xOK K cX0_isFused RX0 3 (rmE 3 b)) (hZ : xZ K) {v : Int} {S' : xSt} (hE : xEnd K E (some .boolean) (YQz E v S')) {r0 : Nat} (hk0 : xkd E r0 = 1) : ∀ (S : xSt) (x1 : Int), f_X0_isFused_p1_0_b59 r0 S x1 = some (v, S') → WG K E 59 [(0, vr E r0 0), (1, vi x1)] [] S := by
  intro S x1 h
  unfold f_X0_isFused_p1_0_b59 at h
  refine g_iconst hC (rfl : 59 + 1 = 60) (xdt tt_X0_isFused 29 rfl) ?_
  refine g_sub [0, 1] (lv' := [(0, vr E r0 0), (1, vi x1)]) rfl ?_
  exact k_X0_isFused_p1_0_b60 hC hZ hE hk0 _ _ _ h
set_option maxRecDepth 100000 in
set_option maxHeartbeats 4000000 in
theorem c_X0_isFused_p1_0 (l : Launch) {E : xE} {S S' : xSt} {r0 : Nat} {a1 : Int} (hk0 : xkd E r0 = 1) {v : Int} (h : f_X0_isFused_p1_0 S r0 a1 = some (v, S')) : Met l yX0_isFused (xws yX0_isFused cX0_isFused 3 (some .boolean)) (rmD 3) (YPc E [vr E r0 0, vi a1] S) (YQz E v S') 0 0 (xA E) := by
  unfold f_X0_isFused_p1_0 at h
  refine met_z (by decide +kernel) (Nat.le_of_ble_eq_true rfl) (fun K hC hZ hE => ?_)
  have hC : xOK K cX0_isFused RX0 3 (rmE 3 0) := hC
  show WG K E 0 [(0, vr E r0 0), (1, vi a1)] [] S
  refine g_aload_n hC rfl 0 rfl (rfl : 0 + 1 = 1) (xdt tt_X0_isFused 0 rfl) ?_
  refine g_getP hC hk0 kclX0 ly1_0 4 (by decide) (rfl : r0 + 0 = r0) rfl q102 (rfl : 1 + 3 = 4) (xdt tt_X0_isFused 1 rfl) ?_
  refine g_getI hC hk0 kclX7 ly1_8 0 (by decide) rfl q147 (rfl : 4 + 3 = 7) (xdt tt_X0_isFused 2 rfl) ?_
  refine g_if_eq hC (show ((7 : Nat) : Int) + 22 = ((29 : Nat) : Int) by decide) (rfl : 7 + 3 = 10) (xdt tt_X0_isFused 3 rfl) (fun hc10 => ?_) (fun hc10 => ?_)
  · replace h := (if_pos hc10).symm.trans h
    refine g_aload_n hC rfl 0 rfl (rfl : 29 + 1 = 30) (xdt tt_X0_isFused 13 rfl) ?_
    refine g_getP hC hk0 kclX0 ly1_0 3 (by decide) (rfl : r0 + 0 = r0) rfl q98 (rfl : 30 + 3 = 33) (xdt tt_X0_isFused 14 rfl) ?_
    refine g_getI hC hk0 kclX6 ly1_5 2 (by decide) rfl q146 (rfl : 33 + 3 = 36) (xdt tt_X0_isFused 15 rfl) ?_
    refine g_iconst hC (rfl : 36 + 1 = 37) (xdt tt_X0_isFused 16 rfl) ?_
    refine g_icmp_le hC (show ((37 : Nat) : Int) + 22 = ((59 : Nat) : Int) by decide) (rfl : 37 + 3 = 40) (xdt tt_X0_isFused 17 rfl) (fun hc8 => ?_) (fun hc8 => ?_)
    · replace h := (if_pos hc8).symm.trans h
      refine g_sub [0, 1] (lv' := [(0, vr E r0 0), (1, vi a1)]) rfl ?_
      exact k_X0_isFused_p1_0_b59 hC hZ hE hk0 _ _ h
    · replace h := (if_neg hc8).symm.trans h
      refine g_aload_n hC rfl 0 rfl (rfl : 40 + 1 = 41) (xdt tt_X0_isFused 18 rfl) ?_
      refine g_getP hC hk0 kclX0 ly1_0 3 (by decide) (rfl : r0 + 0 = r0) rfl q98 (rfl : 41 + 3 = 44) (xdt tt_X0_isFused 19 rfl) ?_
      refine g_getP hC hk0 kclX6 ly1_5 0 (by decide) (rfl : r0 + 0 = r0) rfl q704 (rfl : 44 + 3 = 47) (xdt tt_X0_isFused 20 rfl) ?_
      refine g_iconst hC (rfl : 47 + 1 = 48) (xdt tt_X0_isFused 21 rfl) ?_
      refine g_iald hC hk0 ly1_6 (by decide) (rfl : 48 + 1 = 49) (xdt tt_X0_isFused 22 rfl) (k0 := 1) (by decide) ?_
      refine g_iload_n hC rfl 1 rfl (rfl : 49 + 1 = 50) (xdt tt_X0_isFused 23 rfl) ?_
      refine g_iconst hC (rfl : 50 + 1 = 51) (xdt tt_X0_isFused 24 rfl) ?_
      refine g_iadd hC (rfl : 51 + 1 = 52) (xdt tt_X0_isFused 25 rfl) ?_
      refine g_icmp_ne hC (show ((52 : Nat) : Int) + 7 = ((59 : Nat) : Int) by decide) (rfl : 52 + 3 = 55) (xdt tt_X0_isFused 26 rfl) (fun hc7 => ?_) (fun hc7 => ?_)
      · replace h := (if_pos hc7).symm.trans h
        refine g_sub [0, 1] (lv' := [(0, vr E r0 0), (1, vi a1)]) rfl ?_
        exact k_X0_isFused_p1_0_b59 hC hZ hE hk0 _ _ h
      · replace h := (if_neg hc7).symm.trans h
        refine g_iconst hC (rfl : 55 + 1 = 56) (xdt tt_X0_isFused 27 rfl) ?_
        refine g_goto hC (show ((56 : Nat) : Int) + 4 = ((60 : Nat) : Int) by decide) (xdt tt_X0_isFused 28 rfl) ?_
        refine g_sub [0, 1] (lv' := [(0, vr E r0 0), (1, vi a1)]) rfl ?_
        exact k_X0_isFused_p1_0_b60 hC hZ hE hk0 _ _ _ h
  · replace h := (if_neg hc10).symm.trans h
    refine g_iload_n hC rfl 1 rfl (rfl : 10 + 1 = 11) (xdt tt_X0_isFused 4 rfl) ?_
    refine g_aload_n hC rfl 0 rfl (rfl : 11 + 1 = 12) (xdt tt_X0_isFused 5 rfl) ?_
    refine g_getP hC hk0 kclX0 ly1_0 4 (by decide) (rfl : r0 + 0 = r0) rfl q102 (rfl : 12 + 3 = 15) (xdt tt_X0_isFused 6 rfl) ?_
    refine g_getI hC hk0 kclX7 ly1_8 2 (by decide) rfl q709 (rfl : 15 + 3 = 18) (xdt tt_X0_isFused 7 rfl) ?_
    refine g_icmp_ge hC (show ((18 : Nat) : Int) + 7 = ((25 : Nat) : Int) by decide) (rfl : 18 + 3 = 21) (xdt tt_X0_isFused 8 rfl) (fun hc9 => ?_) (fun hc9 => ?_)
    · replace h := (if_pos hc9).symm.trans h
      refine g_iconst hC (rfl : 25 + 1 = 26) (xdt tt_X0_isFused 11 rfl) ?_
      refine g_goto hC (show ((26 : Nat) : Int) + 34 = ((60 : Nat) : Int) by decide) (xdt tt_X0_isFused 12 rfl) ?_
      refine g_sub [0, 1] (lv' := [(0, vr E r0 0), (1, vi a1)]) rfl ?_
      exact k_X0_isFused_p1_0_b60 hC hZ hE hk0 _ _ _ h
    · replace h := (if_neg hc9).symm.trans h
      refine g_iconst hC (rfl : 21 + 1 = 22) (xdt tt_X0_isFused 9 rfl) ?_
      refine g_goto hC (show ((22 : Nat) : Int) + 38 = ((60 : Nat) : Int) by decide) (xdt tt_X0_isFused 10 rfl) ?_
      refine g_sub [0, 1] (lv' := [(0, vr E r0 0), (1, vi a1)]) rfl ?_
      exact k_X0_isFused_p1_0_b60 hC hZ hE hk0 _ _ _ h
def f_X0_decodeLanes_p1_0_b141 (r0 : Nat) (S : xSt) (x1 : Int) (x2 : Int) (x3 : Int) : Option (xSt) :=
  bd (f_X9_addUnused_p1_14 S r0 x3 (x1 - x2)) fun S2 =>
  some S2
def f_X0_decodeLanes_p1_0_b106 (c33 : xSt → Int → Int → Int → Int → Option (xSt)) (r0 : Nat) (S : xSt) (x1 : Int) (x2 : Int) (x4 : Int) (x5 : Int) (x6 : Int) (x7 : Int) (s0 : Int) : Option (xSt) :=
  if ¬ wr s0 = 0 then
    (c33 S x1 x2 s0 (x4 + 1))
  else
    (bd2 (f_X0_decodeUnit_p1_0 S r0 x5 x6 x7) fun v14 S13 =>
    bd2 (f_X0_follow_p1_0 S13 r0 x6 v14) fun v18 S17 =>
    c33 S17 x1 (x2 + 1) v18 (x4 + 1))
def f_X0_decodeLanes_p1_0_b73 (c33 : xSt → Int → Int → Int → Int → Option (xSt)) (r0 : Nat) (S : xSt) (x1 : Int) (x2 : Int) (x4 : Int) (x5 : Int) (s0 : Int) : Option (xSt) :=
  bd2 (f_X0_opsOfUnit_p1_0 S r0 x5 s0) fun v8 S7 =>
  if ¬ wr x5 = wr (-1) then
    (bd2 (f_X0_causeOfStop_p1_0 S7 r0 x4 v8) fun v11 S10 =>
    f_X0_decodeLanes_p1_0_b106 (c33) r0 S10 x1 x2 x4 x5 s0 v8 v11)
  else
    (bd2 (f_X0_causeOfNothing_p1_0 S7 r0) fun v22 S21 =>
    f_X0_decodeLanes_p1_0_b106 (c33) r0 S21 x1 x2 x4 x5 s0 v8 v22)
def f_X0_decodeLanes_p1_0_b71 (c33 : xSt → Int → Int → Int → Int → Option (xSt)) (r0 : Nat) (S : xSt) (x1 : Int) (x2 : Int) (x4 : Int) (x5 : Int) : Option (xSt) :=
  f_X0_decodeLanes_p1_0_b73 (c33) r0 S x1 x2 x4 x5 x5
def f_X0_decodeLanes_p1_0_b33 (r0 : Nat) : Nat → xSt → Int → Int → Int → Int → Option (xSt)
  | 0, _, _, _, _, _ => none
  | fuel + 1, S, x1, x2, x3, x4 =>
    if wr x1 ≤ wr x4 then
      (f_X0_decodeLanes_p1_0_b141 r0 S x1 x2 x3)
    else
      (if ¬ wr x3 = 0 then
        (f_X0_decodeLanes_p1_0_b141 r0 S x1 x2 x3)
      else
        (bd2 (f_X0_nextNumber_p1_0 S r0) fun v5 S4 =>
        if wr v5 = wr (-1) then
          (f_X0_decodeLanes_p1_0_b71 ((f_X0_decodeLanes_p1_0_b33 r0 fuel)) r0 S4 x1 x2 x4 v5)
        else
          (bd2 (f_X0_isFused_p1_0 S4 r0 v5) fun v26 S25 =>
          if wr v26 = 0 then
            (f_X0_decodeLanes_p1_0_b71 ((f_X0_decodeLanes_p1_0_b33 r0 fuel)) r0 S25 x1 x2 x4 v5)
          else
            (f_X0_decodeLanes_p1_0_b73 ((f_X0_decodeLanes_p1_0_b33 r0 fuel)) r0 S25 x1 x2 x4 v5 (v5 + 1)))))
def f_X0_decodeLanes_p1_0 (S : xSt) (r0 : Nat) : Option (xSt) :=
  if wr (gI S r0 0 15) ≤ 0 then
    (f_X0_decodeLanes_p1_0_b33 r0 (fu S) S (gI S r0 1 0) 0 0 0)
  else
    (lt1 (wI S r0 0 15 ((gI S r0 0 15) - 1)) fun S32 =>
    f_X0_decodeLanes_p1_0_b33 r0 (fu S32) S32 (gI S r0 1 0) 0 4 0)
set_option maxRecDepth 100000 in
set_option maxHeartbeats 4000000 in
theorem k_X0_decodeLanes_p1_0_b141 {K : xCtx} {E : xE} {b : Nat} (hC : xOK K cX0_decodeLanes RX0 9 (rmE 4 b)) (hZ : xZ K) {S' : xSt} (hE : xEnd K E none (YQv E S')) {r0 : Nat} (hk0 : xkd E r0 = 1) : ∀ (S : xSt) (x1 : Int) (x2 : Int) (x3 : Int), f_X0_decodeLanes_p1_0_b141 r0 S x1 x2 x3 = some S' → WG K E 141 [(0, vr E r0 0), (1, vi x1), (2, vi x2), (3, vi x3)] [] S := by
  intro S x1 x2 x3 h
  unfold f_X0_decodeLanes_p1_0_b141 at h
  refine g_aload_n hC rfl 0 rfl (rfl : 141 + 1 = 142) (xdt tt_X0_decodeLanes 75 rfl) ?_
  refine g_getP hC hk0 kclX0 ly1_0 7 (by decide) (rfl : r0 + 0 = r0) rfl q112 (rfl : 142 + 3 = 145) (xdt tt_X0_decodeLanes 76 rfl) ?_
  refine g_iload_n hC rfl 3 rfl (rfl : 145 + 1 = 146) (xdt tt_X0_decodeLanes 77 rfl) ?_
  refine g_iload_n hC rfl 1 rfl (rfl : 146 + 1 = 147) (xdt tt_X0_decodeLanes 78 rfl) ?_
  refine g_iload_n hC rfl 2 rfl (rfl : 147 + 1 = 148) (xdt tt_X0_decodeLanes 79 rfl) ?_
  refine g_isub hC (rfl : 148 + 1 = 149) (xdt tt_X0_decodeLanes 80 rfl) ?_
  obtain ⟨S2, hc1, h⟩ := bd_i h
  refine g_callVv hC hZ hk0 kclX9 ly1_14 m_X9_addUnused q796 (Nat.le_of_ble_eq_true rfl) [vi x3, vi (x1 - x2)] rfl (fun l => c_X9_addUnused_p1_14 l hk0 hc1) rfl (Nat.le_of_ble_eq_true rfl) (rfl : 149 + 3 = 152) (xdt tt_X0_decodeLanes 81 rfl) ?_
  cases h
  exact g_vret hC hE (xdt tt_X0_decodeLanes 82 rfl)
set_option maxRecDepth 100000 in
set_option maxHeartbeats 4000000 in
theorem k_X0_decodeLanes_p1_0_b106 {K : xCtx} {E : xE} {b : Nat} (hC : xOK K cX0_decodeLanes RX0 9 (rmE 4 b)) (hZ : xZ K) {S' : xSt} (hE : xEnd K E none (YQv E S')) {r0 : Nat} (hk0 : xkd E r0 = 1) {c33 : xSt → Int → Int → Int → Int → Option (xSt)} (hrec33 : ∀ (S : xSt) (x1 : Int) (x2 : Int) (x3 : Int) (x4 : Int), c33 S x1 x2 x3 x4 = some S' → WG K E 33 [(0, vr E r0 0), (1, vi x1), (2, vi x2), (3, vi x3), (4, vi x4)] [] S) : ∀ (S : xSt) (x1 : Int) (x2 : Int) (x4 : Int) (x5 : Int) (x6 : Int) (x7 : Int) (s0 : Int), f_X0_decodeLanes_p1_0_b106 c33 r0 S x1 x2 x4 x5 x6 x7 s0 = some S' → WG K E 106 [(0, vr E r0 0), (1, vi x1), (2, vi x2), (4, vi x4), (5, vi x5), (6, vi x6), (7, vi x7)] [vi s0] S := by
  intro S x1 x2 x4 x5 x6 x7 s0 h
  unfold f_X0_decodeLanes_p1_0_b106 at h
  refine g_istore_n hC rfl (by decide) (lv' := [(3, vi s0), (0, vr E r0 0), (1, vi x1), (2, vi x2), (4, vi x4), (5, vi x5), (6, vi x6), (7, vi x7)]) rfl (rfl : 106 + 1 = 107) (xdt tt_X0_decodeLanes 58 rfl) ?_
  refine g_iload_n hC rfl 0 rfl (rfl : 107 + 1 = 108) (xdt tt_X0_decodeLanes 59 rfl) ?_
  refine g_if_ne hC (show ((108 : Nat) : Int) + 27 = ((135 : Nat) : Int) by decide) (rfl : 108 + 3 = 111) (xdt tt_X0_decodeLanes 60 rfl) (fun hc19 => ?_) (fun hc19 => ?_)
  · replace h := (if_pos hc19).symm.trans h
    refine g_iinc hC 4 rfl (by decide) (lv' := [(4, vi (x4 + 1)), (3, vi s0), (0, vr E r0 0), (1, vi x1), (2, vi x2), (5, vi x5), (6, vi x6), (7, vi x7)]) rfl (rfl : 135 + 3 = 138) (xdt tt_X0_decodeLanes 73 rfl) ?_
    refine g_goto hC (show ((138 : Nat) : Int) + (-105) = ((33 : Nat) : Int) by decide) (xdt tt_X0_decodeLanes 74 rfl) ?_
    refine g_sub [2, 3, 4, 1, 0] (lv' := [(0, vr E r0 0), (1, vi x1), (2, vi x2), (3, vi s0), (4, vi (x4 + 1))]) rfl ?_
    exact hrec33 _ _ _ _ _ h
  · replace h := (if_neg hc19).symm.trans h
    refine g_aload_n hC rfl 1 rfl (rfl : 111 + 1 = 112) (xdt tt_X0_decodeLanes 61 rfl) ?_
    refine g_iload hC 5 rfl (rfl : 112 + 2 = 114) (xdt tt_X0_decodeLanes 62 rfl) ?_
    refine g_iload hC 6 rfl (rfl : 114 + 2 = 116) (xdt tt_X0_decodeLanes 63 rfl) ?_
    refine g_iload hC 7 rfl (rfl : 116 + 2 = 118) (xdt tt_X0_decodeLanes 64 rfl) ?_
    obtain ⟨v14, S13, hc12, h⟩ := bd2_i h
    refine g_callVz hC hZ hk0 kclX0 ly1_0 m_X0_decodeUnit q736 (Nat.le_of_ble_eq_true rfl) [vi x5, vi x6, vi x7] rfl (fun l => c_X0_decodeUnit_p1_0 l hk0 hc12) rfl (Nat.le_of_ble_eq_true rfl) (rfl : 118 + 3 = 121) (xdt tt_X0_decodeLanes 65 rfl) (fun hb15 => ?_)
    refine g_istore hC (by decide) (lv' := [(8, vi v14), (3, vi s0), (0, vr E r0 0), (1, vi x1), (2, vi x2), (4, vi x4), (5, vi x5), (6, vi x6), (7, vi x7)]) rfl (rfl : 121 + 2 = 123) (xdt tt_X0_decodeLanes 66 rfl) ?_
    refine g_aload_n hC rfl 2 rfl (rfl : 123 + 1 = 124) (xdt tt_X0_decodeLanes 67 rfl) ?_
    refine g_iload hC 7 rfl (rfl : 124 + 2 = 126) (xdt tt_X0_decodeLanes 68 rfl) ?_
    refine g_iload hC 0 rfl (rfl : 126 + 2 = 128) (xdt tt_X0_decodeLanes 69 rfl) ?_
    obtain ⟨v18, S17, hc16, h⟩ := bd2_i h
    refine g_callVi hC hZ hk0 kclX0 ly1_0 m_X0_follow q764 (Nat.le_of_ble_eq_true rfl) [vi x6, vi v14] rfl (fun l => c_X0_follow_p1_0 l hk0 hc16) rfl (Nat.le_of_ble_eq_true rfl) (rfl : 128 + 3 = 131) (xdt tt_X0_decodeLanes 70 rfl) ?_
    refine g_istore_n hC rfl (by decide) (lv' := [(3, vi v18), (8, vi v14), (0, vr E r0 0), (1, vi x1), (2, vi x2), (4, vi x4), (5, vi x5), (6, vi x6), (7, vi x7)]) rfl (rfl : 131 + 1 = 132) (xdt tt_X0_decodeLanes 71 rfl) ?_
    refine g_iinc hC 4 rfl (by decide) (lv' := [(2, vi (x2 + 1)), (3, vi v18), (8, vi v14), (0, vr E r0 0), (1, vi x1), (4, vi x4), (5, vi x5), (6, vi x6), (7, vi x7)]) rfl (rfl : 132 + 3 = 135) (xdt tt_X0_decodeLanes 72 rfl) ?_
    refine g_iinc hC 5 rfl (by decide) (lv' := [(4, vi (x4 + 1)), (2, vi (x2 + 1)), (3, vi v18), (8, vi v14), (0, vr E r0 0), (1, vi x1), (5, vi x5), (6, vi x6), (7, vi x7)]) rfl (rfl : 135 + 3 = 138) (xdt tt_X0_decodeLanes 73 rfl) ?_
    refine g_goto hC (show ((138 : Nat) : Int) + (-105) = ((33 : Nat) : Int) by decide) (xdt tt_X0_decodeLanes 74 rfl) ?_
    refine g_sub [4, 5, 1, 2, 0] (lv' := [(0, vr E r0 0), (1, vi x1), (2, vi (x2 + 1)), (3, vi v18), (4, vi (x4 + 1))]) rfl ?_
    exact hrec33 _ _ _ _ _ h
set_option maxRecDepth 100000 in
set_option maxHeartbeats 4000000 in
theorem k_X0_decodeLanes_p1_0_b73 {K : xCtx} {E : xE} {b : Nat} (hC : xOK K cX0_decodeLanes RX0 9 (rmE 4 b)) (hZ : xZ K) {S' : xSt} (hE : xEnd K E none (YQv E S')) {r0 : Nat} (hk0 : xkd E r0 = 1) {c33 : xSt → Int → Int → Int → Int → Option (xSt)} (hrec33 : ∀ (S : xSt) (x1 : Int) (x2 : Int) (x3 : Int) (x4 : Int), c33 S x1 x2 x3 x4 = some S' → WG K E 33 [(0, vr E r0 0), (1, vi x1), (2, vi x2), (3, vi x3), (4, vi x4)] [] S) : ∀ (S : xSt) (x1 : Int) (x2 : Int) (x4 : Int) (x5 : Int) (s0 : Int), f_X0_decodeLanes_p1_0_b73 c33 r0 S x1 x2 x4 x5 s0 = some S' → WG K E 73 [(0, vr E r0 0), (1, vi x1), (2, vi x2), (4, vi x4), (5, vi x5)] [vi s0] S := by
  intro S x1 x2 x4 x5 s0 h
  unfold f_X0_decodeLanes_p1_0_b73 at h
  refine g_istore hC (by decide) (lv' := [(6, vi s0), (0, vr E r0 0), (1, vi x1), (2, vi x2), (4, vi x4), (5, vi x5)]) rfl (rfl : 73 + 2 = 75) (xdt tt_X0_decodeLanes 42 rfl) ?_
  refine g_aload_n hC rfl 1 rfl (rfl : 75 + 1 = 76) (xdt tt_X0_decodeLanes 43 rfl) ?_
  refine g_iload hC 5 rfl (rfl : 76 + 2 = 78) (xdt tt_X0_decodeLanes 44 rfl) ?_
  refine g_iload hC 0 rfl (rfl : 78 + 2 = 80) (xdt tt_X0_decodeLanes 45 rfl) ?_
  obtain ⟨v8, S7, hc6, h⟩ := bd2_i h
  refine g_callVi hC hZ hk0 kclX0 ly1_0 m_X0_opsOfUnit q723 (Nat.le_of_ble_eq_true rfl) [vi x5, vi s0] rfl (fun l => c_X0_opsOfUnit_p1_0 l hk0 hc6) rfl (Nat.le_of_ble_eq_true rfl) (rfl : 80 + 3 = 83) (xdt tt_X0_decodeLanes 46 rfl) ?_
  refine g_istore hC (by decide) (lv' := [(7, vi v8), (6, vi s0), (0, vr E r0 0), (1, vi x1), (2, vi x2), (4, vi x4), (5, vi x5)]) rfl (rfl : 83 + 2 = 85) (xdt tt_X0_decodeLanes 47 rfl) ?_
  refine g_iload hC 6 rfl (rfl : 85 + 2 = 87) (xdt tt_X0_decodeLanes 48 rfl) ?_
  refine g_iconst hC (rfl : 87 + 1 = 88) (xdt tt_X0_decodeLanes 49 rfl) ?_
  refine g_icmp_ne hC (show ((88 : Nat) : Int) + 10 = ((98 : Nat) : Int) by decide) (rfl : 88 + 3 = 91) (xdt tt_X0_decodeLanes 50 rfl) (fun hc23 => ?_) (fun hc23 => ?_)
  · replace h := (if_pos hc23).symm.trans h
    refine g_aload_n hC rfl 2 rfl (rfl : 98 + 1 = 99) (xdt tt_X0_decodeLanes 54 rfl) ?_
    refine g_iload hC 5 rfl (rfl : 99 + 2 = 101) (xdt tt_X0_decodeLanes 55 rfl) ?_
    refine g_iload hC 0 rfl (rfl : 101 + 2 = 103) (xdt tt_X0_decodeLanes 56 rfl) ?_
    obtain ⟨v11, S10, hc9, h⟩ := bd2_i h
    refine g_callVi hC hZ hk0 kclX0 ly1_0 m_X0_causeOfStop q732 (Nat.le_of_ble_eq_true rfl) [vi x4, vi v8] rfl (fun l => c_X0_causeOfStop_p1_0 l hk0 hc9) rfl (Nat.le_of_ble_eq_true rfl) (rfl : 103 + 3 = 106) (xdt tt_X0_decodeLanes 57 rfl) ?_
    refine g_sub [2, 3, 4, 5, 6, 1, 0] (lv' := [(0, vr E r0 0), (1, vi x1), (2, vi x2), (4, vi x4), (5, vi x5), (6, vi s0), (7, vi v8)]) rfl ?_
    exact k_X0_decodeLanes_p1_0_b106 hC hZ hE hk0 hrec33 _ _ _ _ _ _ _ _ h
  · replace h := (if_neg hc23).symm.trans h
    refine g_aload_n hC rfl 2 rfl (rfl : 91 + 1 = 92) (xdt tt_X0_decodeLanes 51 rfl) ?_
    obtain ⟨v22, S21, hc20, h⟩ := bd2_i h
    refine g_callVi hC hZ hk0 kclX0 ly1_0 m_X0_causeOfNothing q728 (Nat.le_of_ble_eq_true rfl) [] rfl (fun l => c_X0_causeOfNothing_p1_0 l hk0 hc20) rfl (Nat.le_of_ble_eq_true rfl) (rfl : 92 + 3 = 95) (xdt tt_X0_decodeLanes 52 rfl) ?_
    refine g_goto hC (show ((95 : Nat) : Int) + 11 = ((106 : Nat) : Int) by decide) (xdt tt_X0_decodeLanes 53 rfl) ?_
    refine g_sub [2, 3, 4, 5, 6, 1, 0] (lv' := [(0, vr E r0 0), (1, vi x1), (2, vi x2), (4, vi x4), (5, vi x5), (6, vi s0), (7, vi v8)]) rfl ?_
    exact k_X0_decodeLanes_p1_0_b106 hC hZ hE hk0 hrec33 _ _ _ _ _ _ _ _ h
set_option maxRecDepth 100000 in
set_option maxHeartbeats 4000000 in
theorem k_X0_decodeLanes_p1_0_b71 {K : xCtx} {E : xE} {b : Nat} (hC : xOK K cX0_decodeLanes RX0 9 (rmE 4 b)) (hZ : xZ K) {S' : xSt} (hE : xEnd K E none (YQv E S')) {r0 : Nat} (hk0 : xkd E r0 = 1) {c33 : xSt → Int → Int → Int → Int → Option (xSt)} (hrec33 : ∀ (S : xSt) (x1 : Int) (x2 : Int) (x3 : Int) (x4 : Int), c33 S x1 x2 x3 x4 = some S' → WG K E 33 [(0, vr E r0 0), (1, vi x1), (2, vi x2), (3, vi x3), (4, vi x4)] [] S) : ∀ (S : xSt) (x1 : Int) (x2 : Int) (x4 : Int) (x5 : Int), f_X0_decodeLanes_p1_0_b71 c33 r0 S x1 x2 x4 x5 = some S' → WG K E 71 [(0, vr E r0 0), (1, vi x1), (2, vi x2), (4, vi x4), (5, vi x5)] [] S := by
  intro S x1 x2 x4 x5 h
  unfold f_X0_decodeLanes_p1_0_b71 at h
  refine g_iload hC 4 rfl (rfl : 71 + 2 = 73) (xdt tt_X0_decodeLanes 41 rfl) ?_
  refine g_sub [0, 1, 2, 3, 4] (lv' := [(0, vr E r0 0), (1, vi x1), (2, vi x2), (4, vi x4), (5, vi x5)]) rfl ?_
  exact k_X0_decodeLanes_p1_0_b73 hC hZ hE hk0 hrec33 _ _ _ _ _ _ h
set_option maxRecDepth 100000 in
set_option maxHeartbeats 4000000 in
theorem k_X0_decodeLanes_p1_0_b33 {K : xCtx} {E : xE} {b : Nat} (hC : xOK K cX0_decodeLanes RX0 9 (rmE 4 b)) (hZ : xZ K) {S' : xSt} (hE : xEnd K E none (YQv E S')) {r0 : Nat} (hk0 : xkd E r0 = 1) : ∀ (fuel : Nat) (S : xSt) (x1 : Int) (x2 : Int) (x3 : Int) (x4 : Int), f_X0_decodeLanes_p1_0_b33 r0 fuel S x1 x2 x3 x4 = some S' → WG K E 33 [(0, vr E r0 0), (1, vi x1), (2, vi x2), (3, vi x3), (4, vi x4)] [] S := by
  intro fuel
  induction fuel with
  | zero => intro S x1 x2 x3 x4 h; cases h
  | succ fuel ih =>
    intro S x1 x2 x3 x4 h
    rw [f_X0_decodeLanes_p1_0_b33] at h
    refine g_iload hC 4 rfl (rfl : 33 + 2 = 35) (xdt tt_X0_decodeLanes 22 rfl) ?_
    refine g_iload_n hC rfl 1 rfl (rfl : 35 + 1 = 36) (xdt tt_X0_decodeLanes 23 rfl) ?_
    refine g_icmp_ge hC (show ((36 : Nat) : Int) + 105 = ((141 : Nat) : Int) by decide) (rfl : 36 + 3 = 39) (xdt tt_X0_decodeLanes 24 rfl) (fun hc31 => ?_) (fun hc31 => ?_)
    · replace h := (if_pos hc31).symm.trans h
      refine g_sub [0, 1, 2, 3] (lv' := [(0, vr E r0 0), (1, vi x1), (2, vi x2), (3, vi x3)]) rfl ?_
      exact k_X0_decodeLanes_p1_0_b141 hC hZ hE hk0 _ _ _ _ h
    · replace h := (if_neg hc31).symm.trans h
      refine g_iload_n hC rfl 3 rfl (rfl : 39 + 1 = 40) (xdt tt_X0_decodeLanes 25 rfl) ?_
      refine g_if_ne hC (show ((40 : Nat) : Int) + 101 = ((141 : Nat) : Int) by decide) (rfl : 40 + 3 = 43) (xdt tt_X0_decodeLanes 26 rfl) (fun hc30 => ?_) (fun hc30 => ?_)
      · replace h := (if_pos hc30).symm.trans h
        refine g_sub [0, 1, 2, 3] (lv' := [(0, vr E r0 0), (1, vi x1), (2, vi x2), (3, vi x3)]) rfl ?_
        exact k_X0_decodeLanes_p1_0_b141 hC hZ hE hk0 _ _ _ _ h
      · replace h := (if_neg hc30).symm.trans h
        refine g_aload_n hC rfl 0 rfl (rfl : 43 + 1 = 44) (xdt tt_X0_decodeLanes 27 rfl) ?_
        obtain ⟨v5, S4, hc3, h⟩ := bd2_i h
        refine g_callVi hC hZ hk0 kclX0 ly1_0 m_X0_nextNumber q699 (Nat.le_of_ble_eq_true rfl) [] rfl (fun l => c_X0_nextNumber_p1_0 l hk0 hc3) rfl (Nat.le_of_ble_eq_true rfl) (rfl : 44 + 3 = 47) (xdt tt_X0_decodeLanes 28 rfl) ?_
        refine g_istore hC (by decide) (lv' := [(5, vi v5), (0, vr E r0 0), (1, vi x1), (2, vi x2), (3, vi x3), (4, vi x4)]) rfl (rfl : 47 + 2 = 49) (xdt tt_X0_decodeLanes 29 rfl) ?_
        refine g_iload hC 0 rfl (rfl : 49 + 2 = 51) (xdt tt_X0_decodeLanes 30 rfl) ?_
        refine g_iconst hC (rfl : 51 + 1 = 52) (xdt tt_X0_decodeLanes 31 rfl) ?_
        refine g_icmp_eq hC (show ((52 : Nat) : Int) + 19 = ((71 : Nat) : Int) by decide) (rfl : 52 + 3 = 55) (xdt tt_X0_decodeLanes 32 rfl) (fun hc29 => ?_) (fun hc29 => ?_)
        · replace h := (if_pos hc29).symm.trans h
          refine g_sub [1, 2, 3, 5, 0] (lv' := [(0, vr E r0 0), (1, vi x1), (2, vi x2), (4, vi x4), (5, vi v5)]) rfl ?_
          exact k_X0_decodeLanes_p1_0_b71 hC hZ hE hk0 ih _ _ _ _ _ h
        · replace h := (if_neg hc29).symm.trans h
          refine g_aload_n hC rfl 1 rfl (rfl : 55 + 1 = 56) (xdt tt_X0_decodeLanes 33 rfl) ?_
          refine g_iload hC 0 rfl (rfl : 56 + 2 = 58) (xdt tt_X0_decodeLanes 34 rfl) ?_
          obtain ⟨v26, S25, hc24, h⟩ := bd2_i h
          refine g_callVz hC hZ hk0 kclX0 ly1_0 m_X0_isFused q705 (Nat.le_of_ble_eq_true rfl) [vi v5] rfl (fun l => c_X0_isFused_p1_0 l hk0 hc24) rfl (Nat.le_of_ble_eq_true rfl) (rfl : 58 + 3 = 61) (xdt tt_X0_decodeLanes 35 rfl) (fun hb27 => ?_)
          refine g_if_eq hC (show ((61 : Nat) : Int) + 10 = ((71 : Nat) : Int) by decide) (rfl : 61 + 3 = 64) (xdt tt_X0_decodeLanes 36 rfl) (fun hc28 => ?_) (fun hc28 => ?_)
          · replace h := (if_pos hc28).symm.trans h
            refine g_sub [1, 2, 3, 5, 0] (lv' := [(0, vr E r0 0), (1, vi x1), (2, vi x2), (4, vi x4), (5, vi v5)]) rfl ?_
            exact k_X0_decodeLanes_p1_0_b71 hC hZ hE hk0 ih _ _ _ _ _ h
          · replace h := (if_neg hc28).symm.trans h
            refine g_iload hC 0 rfl (rfl : 64 + 2 = 66) (xdt tt_X0_decodeLanes 37 rfl) ?_
            refine g_iconst hC (rfl : 66 + 1 = 67) (xdt tt_X0_decodeLanes 38 rfl) ?_
            refine g_iadd hC (rfl : 67 + 1 = 68) (xdt tt_X0_decodeLanes 39 rfl) ?_
            refine g_goto hC (show ((68 : Nat) : Int) + 5 = ((73 : Nat) : Int) by decide) (xdt tt_X0_decodeLanes 40 rfl) ?_
            refine g_sub [1, 2, 3, 5, 0] (lv' := [(0, vr E r0 0), (1, vi x1), (2, vi x2), (4, vi x4), (5, vi v5)]) rfl ?_
            exact k_X0_decodeLanes_p1_0_b73 hC hZ hE hk0 ih _ _ _ _ _ _ h
set_option maxRecDepth 100000 in
set_option maxHeartbeats 4000000 in
theorem c_X0_decodeLanes_p1_0 (l : Launch) {E : xE} {S S' : xSt} {r0 : Nat} (hk0 : xkd E r0 = 1) (h : f_X0_decodeLanes_p1_0 S r0 = some S') : Met l yX0_decodeLanes (xws yX0_decodeLanes cX0_decodeLanes 9 none) (rmD 4) (YPc E [vr E r0 0] S) (YQv E S') 0 0 (xA E) := by
  unfold f_X0_decodeLanes_p1_0 at h
  refine met_v (by decide +kernel) (Nat.le_of_ble_eq_true rfl) (fun K hC hZ hE => ?_)
  have hC : xOK K cX0_decodeLanes RX0 9 (rmE 4 0) := hC
  show WG K E 0 [(0, vr E r0 0)] [] S
  refine g_aload_n hC rfl 0 rfl (rfl : 0 + 1 = 1) (xdt tt_X0_decodeLanes 0 rfl) ?_
  refine g_getP hC hk0 kclX0 ly1_0 1 (by decide) (rfl : r0 + 0 = r0) rfl q92 (rfl : 1 + 3 = 4) (xdt tt_X0_decodeLanes 1 rfl) ?_
  refine g_iconst hC (rfl : 4 + 1 = 5) (xdt tt_X0_decodeLanes 2 rfl) ?_
  refine g_iald hC hk0 ly1_1 (by decide) (rfl : 5 + 1 = 6) (xdt tt_X0_decodeLanes 3 rfl) (k0 := 0) (by decide) ?_
  refine g_istore_n hC rfl (by decide) (lv' := [(1, vi (gI S r0 1 0)), (0, vr E r0 0)]) rfl (rfl : 6 + 1 = 7) (xdt tt_X0_decodeLanes 4 rfl) ?_
  refine g_iconst hC (rfl : 7 + 1 = 8) (xdt tt_X0_decodeLanes 5 rfl) ?_
  refine g_istore_n hC rfl (by decide) (lv' := [(2, vi 0), (1, vi (gI S r0 1 0)), (0, vr E r0 0)]) rfl (rfl : 8 + 1 = 9) (xdt tt_X0_decodeLanes 6 rfl) ?_
  refine g_iconst hC (rfl : 9 + 1 = 10) (xdt tt_X0_decodeLanes 7 rfl) ?_
  refine g_istore_n hC rfl (by decide) (lv' := [(3, vi 0), (2, vi 0), (1, vi (gI S r0 1 0)), (0, vr E r0 0)]) rfl (rfl : 10 + 1 = 11) (xdt tt_X0_decodeLanes 8 rfl) ?_
  refine g_aload_n hC rfl 3 rfl (rfl : 11 + 1 = 12) (xdt tt_X0_decodeLanes 9 rfl) ?_
  refine g_getI hC hk0 kclX0 ly1_0 15 (by decide) rfl q155 (rfl : 12 + 3 = 15) (xdt tt_X0_decodeLanes 10 rfl) ?_
  refine g_if_le hC (show ((15 : Nat) : Int) + 15 = ((30 : Nat) : Int) by decide) (rfl : 15 + 3 = 18) (xdt tt_X0_decodeLanes 11 rfl) (fun hc33 => ?_) (fun hc33 => ?_)
  · replace h := (if_pos hc33).symm.trans h
    refine g_iconst hC (rfl : 30 + 1 = 31) (xdt tt_X0_decodeLanes 20 rfl) ?_
    refine g_istore hC (by decide) (lv' := [(4, vi 0), (3, vi 0), (2, vi 0), (1, vi (gI S r0 1 0)), (0, vr E r0 0)]) rfl (rfl : 31 + 2 = 33) (xdt tt_X0_decodeLanes 21 rfl) ?_
    refine g_sub [4, 3, 2, 1, 0] (lv' := [(0, vr E r0 0), (1, vi (gI S r0 1 0)), (2, vi 0), (3, vi 0), (4, vi 0)]) rfl ?_
    exact k_X0_decodeLanes_p1_0_b33 hC hZ hE hk0 _ _ _ _ _ _ h
  · replace h := (if_neg hc33).symm.trans h
    refine g_aload_n hC rfl 3 rfl (rfl : 18 + 1 = 19) (xdt tt_X0_decodeLanes 12 rfl) ?_
    refine g_dup hC rfl (rfl : 19 + 1 = 20) (xdt tt_X0_decodeLanes 13 rfl) ?_
    refine g_getI hC hk0 kclX0 ly1_0 15 (by decide) rfl q155 (rfl : 20 + 3 = 23) (xdt tt_X0_decodeLanes 14 rfl) ?_
    refine g_iconst hC (rfl : 23 + 1 = 24) (xdt tt_X0_decodeLanes 15 rfl) ?_
    refine g_isub hC (rfl : 24 + 1 = 25) (xdt tt_X0_decodeLanes 16 rfl) ?_
    obtain ⟨S32, hS32, h⟩ := lt1_i h
    refine g_putI hC hk0 kclX0 ly1_0 15 (by decide) rfl rfl rfl q155 hS32 (rfl : 25 + 3 = 28) (xdt tt_X0_decodeLanes 17 rfl) ?_
    refine g_iconst hC (rfl : 28 + 1 = 29) (xdt tt_X0_decodeLanes 18 rfl) ?_
    refine g_istore_n hC rfl (by decide) (lv' := [(3, vi 4), (2, vi 0), (1, vi (gI S r0 1 0)), (0, vr E r0 0)]) rfl (rfl : 29 + 1 = 30) (xdt tt_X0_decodeLanes 19 rfl) ?_
    refine g_iconst hC (rfl : 30 + 1 = 31) (xdt tt_X0_decodeLanes 20 rfl) ?_
    refine g_istore hC (by decide) (lv' := [(4, vi 0), (3, vi 4), (2, vi 0), (1, vi (gI S r0 1 0)), (0, vr E r0 0)]) rfl (rfl : 31 + 2 = 33) (xdt tt_X0_decodeLanes 21 rfl) ?_
    refine g_sub [4, 3, 2, 1, 0] (lv' := [(0, vr E r0 0), (1, vi (gI S r0 1 0)), (2, vi 0), (3, vi 4), (4, vi 0)]) rfl ?_
    exact k_X0_decodeLanes_p1_0_b33 hC hZ hE hk0 _ _ _ _ _ _ h
def f_X0_readWindow_p1_0_b77 (r0 : Nat) (S : xSt) : Option (xSt) :=
  lt1 (wI S r0 0 13 0) fun S10 =>
  lt1 (wI S10 r0 0 11 0) fun S11 =>
  lt1 (wI S11 r0 15 4 ((gI S11 r0 15 4) + 1)) fun S12 =>
  some S12
def f_X0_readWindow_p1_0_b52 (r0 : Nat) (S : xSt) (x1 : Int) : Option (xSt) :=
  ckP S r0 0 0 2 0 fun rg5 =>
  bd2 (f_X5_windowOf_p2_0 S rg5 x1) fun v8 S7 =>
  lt1 (wI S7 r0 0 12 ((v8 + 1) * (gI S7 r0 1 1))) fun S9 =>
  f_X0_readWindow_p1_0_b77 r0 S9
def f_X0_readWindow_p1_0 (S : xSt) (r0 : Nat) : Option (xSt) :=
  ckP S r0 0 0 2 0 fun rg1 =>
  bd2 (f_X5_startOf_p2_0 S rg1 (gI S r0 0 10)) fun v4 S3 =>
  if wr (gI S3 r0 0 13) = 0 then
    (if ¬ wr (gI S3 r0 0 11) = 0 then
      (f_X0_readWindow_p1_0_b52 r0 S3 v4)
    else
      (if wr v4 < wr (gI S3 r0 0 12) then
        (some S3)
      else
        (f_X0_readWindow_p1_0_b52 r0 S3 v4)))
  else
    (lt1 (wI S3 r0 0 12 ((gI S3 r0 0 12) + (gI S3 r0 1 1))) fun S15 =>
    f_X0_readWindow_p1_0_b77 r0 S15)
set_option maxRecDepth 100000 in
set_option maxHeartbeats 4000000 in
theorem k_X0_readWindow_p1_0_b77 {K : xCtx} {E : xE} {b : Nat} (hC : xOK K cX0_readWindow RX0 2 (rmE 2 b)) (hZ : xZ K) {S' : xSt} (hE : xEnd K E none (YQv E S')) {r0 : Nat} (hk0 : xkd E r0 = 1) : ∀ (S : xSt) , f_X0_readWindow_p1_0_b77 r0 S = some S' → WG K E 77 [(0, vr E r0 0)] [] S := by
  intro S h
  unfold f_X0_readWindow_p1_0_b77 at h
  refine g_aload_n hC rfl 0 rfl (rfl : 77 + 1 = 78) (xdt tt_X0_readWindow 41 rfl) ?_
  refine g_iconst hC (rfl : 78 + 1 = 79) (xdt tt_X0_readWindow 42 rfl) ?_
  obtain ⟨S10, hS10, h⟩ := lt1_i h
  refine g_putZ hC hk0 kclX0 ly1_0 13 (by decide) rfl rfl rfl q153 (Or.inl rfl) hS10 (rfl : 79 + 3 = 82) (xdt tt_X0_readWindow 43 rfl) ?_
  refine g_aload_n hC rfl 0 rfl (rfl : 82 + 1 = 83) (xdt tt_X0_readWindow 44 rfl) ?_
  refine g_iconst hC (rfl : 83 + 1 = 84) (xdt tt_X0_readWindow 45 rfl) ?_
  obtain ⟨S11, hS11, h⟩ := lt1_i h
  refine g_putZ hC hk0 kclX0 ly1_0 11 (by decide) rfl rfl rfl q151 (Or.inl rfl) hS11 (rfl : 84 + 3 = 87) (xdt tt_X0_readWindow 46 rfl) ?_
  refine g_aload_n hC rfl 0 rfl (rfl : 87 + 1 = 88) (xdt tt_X0_readWindow 47 rfl) ?_
  refine g_getP hC hk0 kclX0 ly1_0 7 (by decide) (rfl : r0 + 0 = r0) rfl q112 (rfl : 88 + 3 = 91) (xdt tt_X0_readWindow 48 rfl) ?_
  refine g_getP hC hk0 kclX9 ly1_14 0 (by decide) (rfl : r0 + 0 = r0) rfl q689 (rfl : 91 + 3 = 94) (xdt tt_X0_readWindow 49 rfl) ?_
  refine g_iconst hC (rfl : 94 + 1 = 95) (xdt tt_X0_readWindow 50 rfl) ?_
  refine g_dup2 hC rfl rfl (rfl : 95 + 1 = 96) (xdt tt_X0_readWindow 51 rfl) ?_
  refine g_iald hC hk0 ly1_15 (by decide) (rfl : 96 + 1 = 97) (xdt tt_X0_readWindow 52 rfl) (k0 := 4) (by decide) ?_
  refine g_iconst hC (rfl : 97 + 1 = 98) (xdt tt_X0_readWindow 53 rfl) ?_
  refine g_iadd hC (rfl : 98 + 1 = 99) (xdt tt_X0_readWindow 54 rfl) ?_
  obtain ⟨S12, hS12, h⟩ := lt1_i h
  refine g_iast hC hk0 ly1_15 (by decide) (by decide) hS12 (rfl : 99 + 1 = 100) (xdt tt_X0_readWindow 55 rfl) ?_
  cases h
  exact g_vret hC hE (xdt tt_X0_readWindow 56 rfl)
set_option maxRecDepth 100000 in
set_option maxHeartbeats 4000000 in
theorem k_X0_readWindow_p1_0_b52 {K : xCtx} {E : xE} {b : Nat} (hC : xOK K cX0_readWindow RX0 2 (rmE 2 b)) (hZ : xZ K) {S' : xSt} (hE : xEnd K E none (YQv E S')) {r0 : Nat} (hk0 : xkd E r0 = 1) : ∀ (S : xSt) (x1 : Int), f_X0_readWindow_p1_0_b52 r0 S x1 = some S' → WG K E 52 [(0, vr E r0 0), (1, vi x1)] [] S := by
  intro S x1 h
  unfold f_X0_readWindow_p1_0_b52 at h
  refine g_aload_n hC rfl 0 rfl (rfl : 52 + 1 = 53) (xdt tt_X0_readWindow 26 rfl) ?_
  refine g_aload_n hC rfl 0 rfl (rfl : 53 + 1 = 54) (xdt tt_X0_readWindow 27 rfl) ?_
  obtain ⟨rg5, hrg5, grg5, h⟩ := ckP_i h
  refine g_getV hC hk0 kclX0 ly1_0 0 (by decide) rfl hrg5 grg5 (by decide) q142 (rfl : 54 + 3 = 57) (xdt tt_X0_readWindow 28 rfl) (fun krg5 => ?_)
  refine g_iload_n hC rfl 1 rfl (rfl : 57 + 1 = 58) (xdt tt_X0_readWindow 29 rfl) ?_
  obtain ⟨v8, S7, hc6, h⟩ := bd2_i h
  refine g_callVi hC hZ krg5 kclX5 ly2_0 m_X5_windowOf q719 (Nat.le_of_ble_eq_true rfl) [vi x1] rfl (fun l => c_X5_windowOf_p2_0 l krg5 hc6) rfl (Nat.le_of_ble_eq_true rfl) (rfl : 58 + 3 = 61) (xdt tt_X0_readWindow 30 rfl) ?_
  refine g_iconst hC (rfl : 61 + 1 = 62) (xdt tt_X0_readWindow 31 rfl) ?_
  refine g_iadd hC (rfl : 62 + 1 = 63) (xdt tt_X0_readWindow 32 rfl) ?_
  refine g_aload_n hC rfl 0 rfl (rfl : 63 + 1 = 64) (xdt tt_X0_readWindow 33 rfl) ?_
  refine g_getP hC hk0 kclX0 ly1_0 1 (by decide) (rfl : r0 + 0 = r0) rfl q92 (rfl : 64 + 3 = 67) (xdt tt_X0_readWindow 34 rfl) ?_
  refine g_iconst hC (rfl : 67 + 1 = 68) (xdt tt_X0_readWindow 35 rfl) ?_
  refine g_iald hC hk0 ly1_1 (by decide) (rfl : 68 + 1 = 69) (xdt tt_X0_readWindow 36 rfl) (k0 := 1) (by decide) ?_
  refine g_imul hC (rfl : 69 + 1 = 70) (xdt tt_X0_readWindow 37 rfl) ?_
  obtain ⟨S9, hS9, h⟩ := lt1_i h
  refine g_putI hC hk0 kclX0 ly1_0 12 (by decide) rfl rfl rfl q152 hS9 (rfl : 70 + 3 = 73) (xdt tt_X0_readWindow 38 rfl) ?_
  refine g_goto hC (show ((73 : Nat) : Int) + 4 = ((77 : Nat) : Int) by decide) (xdt tt_X0_readWindow 39 rfl) ?_
  refine g_sub [0] (lv' := [(0, vr E r0 0)]) rfl ?_
  exact k_X0_readWindow_p1_0_b77 hC hZ hE hk0 _ h
set_option maxRecDepth 100000 in
set_option maxHeartbeats 4000000 in
theorem c_X0_readWindow_p1_0 (l : Launch) {E : xE} {S S' : xSt} {r0 : Nat} (hk0 : xkd E r0 = 1) (h : f_X0_readWindow_p1_0 S r0 = some S') : Met l yX0_readWindow (xws yX0_readWindow cX0_readWindow 2 none) (rmD 2) (YPc E [vr E r0 0] S) (YQv E S') 0 0 (xA E) := by
  unfold f_X0_readWindow_p1_0 at h
  refine met_v (by decide +kernel) (Nat.le_of_ble_eq_true rfl) (fun K hC hZ hE => ?_)
  have hC : xOK K cX0_readWindow RX0 2 (rmE 2 0) := hC
  show WG K E 0 [(0, vr E r0 0)] [] S
  refine g_aload_n hC rfl 0 rfl (rfl : 0 + 1 = 1) (xdt tt_X0_readWindow 0 rfl) ?_
  obtain ⟨rg1, hrg1, grg1, h⟩ := ckP_i h
  refine g_getV hC hk0 kclX0 ly1_0 0 (by decide) rfl hrg1 grg1 (by decide) q142 (rfl : 1 + 3 = 4) (xdt tt_X0_readWindow 1 rfl) (fun krg1 => ?_)
  refine g_aload_n hC rfl 0 rfl (rfl : 4 + 1 = 5) (xdt tt_X0_readWindow 2 rfl) ?_
  refine g_getI hC hk0 kclX0 ly1_0 10 (by decide) rfl q150 (rfl : 5 + 3 = 8) (xdt tt_X0_readWindow 3 rfl) ?_
  obtain ⟨v4, S3, hc2, h⟩ := bd2_i h
  refine g_callVi hC hZ krg1 kclX5 ly2_0 m_X5_startOf q808 (Nat.le_of_ble_eq_true rfl) [vi (gI S r0 0 10)] rfl (fun l => c_X5_startOf_p2_0 l krg1 hc2) rfl (Nat.le_of_ble_eq_true rfl) (rfl : 8 + 3 = 11) (xdt tt_X0_readWindow 4 rfl) ?_
  refine g_istore_n hC rfl (by decide) (lv' := [(1, vi v4), (0, vr E r0 0)]) rfl (rfl : 11 + 1 = 12) (xdt tt_X0_readWindow 5 rfl) ?_
  refine g_aload_n hC rfl 1 rfl (rfl : 12 + 1 = 13) (xdt tt_X0_readWindow 6 rfl) ?_
  refine g_getI hC hk0 kclX0 ly1_0 13 (by decide) rfl q153 (rfl : 13 + 3 = 16) (xdt tt_X0_readWindow 7 rfl) ?_
  refine g_if_eq hC (show ((16 : Nat) : Int) + 21 = ((37 : Nat) : Int) by decide) (rfl : 16 + 3 = 19) (xdt tt_X0_readWindow 8 rfl) (fun hc16 => ?_) (fun hc16 => ?_)
  · replace h := (if_pos hc16).symm.trans h
    refine g_aload_n hC rfl 1 rfl (rfl : 37 + 1 = 38) (xdt tt_X0_readWindow 19 rfl) ?_
    refine g_getI hC hk0 kclX0 ly1_0 11 (by decide) rfl q151 (rfl : 38 + 3 = 41) (xdt tt_X0_readWindow 20 rfl) ?_
    refine g_if_ne hC (show ((41 : Nat) : Int) + 11 = ((52 : Nat) : Int) by decide) (rfl : 41 + 3 = 44) (xdt tt_X0_readWindow 21 rfl) (fun hc14 => ?_) (fun hc14 => ?_)
    · replace h := (if_pos hc14).symm.trans h
      refine g_sub [1, 0] (lv' := [(0, vr E r0 0), (1, vi v4)]) rfl ?_
      exact k_X0_readWindow_p1_0_b52 hC hZ hE hk0 _ _ h
    · replace h := (if_neg hc14).symm.trans h
      refine g_iload_n hC rfl 0 rfl (rfl : 44 + 1 = 45) (xdt tt_X0_readWindow 22 rfl) ?_
      refine g_aload_n hC rfl 1 rfl (rfl : 45 + 1 = 46) (xdt tt_X0_readWindow 23 rfl) ?_
      refine g_getI hC hk0 kclX0 ly1_0 12 (by decide) rfl q152 (rfl : 46 + 3 = 49) (xdt tt_X0_readWindow 24 rfl) ?_
      refine g_icmp_lt hC (show ((49 : Nat) : Int) + 27 = ((76 : Nat) : Int) by decide) (rfl : 49 + 3 = 52) (xdt tt_X0_readWindow 25 rfl) (fun hc13 => ?_) (fun hc13 => ?_)
      · replace h := (if_pos hc13).symm.trans h
        cases h
        exact g_vret hC hE (xdt tt_X0_readWindow 40 rfl)
      · replace h := (if_neg hc13).symm.trans h
        refine g_sub [1, 0] (lv' := [(0, vr E r0 0), (1, vi v4)]) rfl ?_
        exact k_X0_readWindow_p1_0_b52 hC hZ hE hk0 _ _ h
  · replace h := (if_neg hc16).symm.trans h
    refine g_aload_n hC rfl 1 rfl (rfl : 19 + 1 = 20) (xdt tt_X0_readWindow 9 rfl) ?_
    refine g_dup hC rfl (rfl : 20 + 1 = 21) (xdt tt_X0_readWindow 10 rfl) ?_
    refine g_getI hC hk0 kclX0 ly1_0 12 (by decide) rfl q152 (rfl : 21 + 3 = 24) (xdt tt_X0_readWindow 11 rfl) ?_
    refine g_aload_n hC rfl 1 rfl (rfl : 24 + 1 = 25) (xdt tt_X0_readWindow 12 rfl) ?_
    refine g_getP hC hk0 kclX0 ly1_0 1 (by decide) (rfl : r0 + 0 = r0) rfl q92 (rfl : 25 + 3 = 28) (xdt tt_X0_readWindow 13 rfl) ?_
    refine g_iconst hC (rfl : 28 + 1 = 29) (xdt tt_X0_readWindow 14 rfl) ?_
    refine g_iald hC hk0 ly1_1 (by decide) (rfl : 29 + 1 = 30) (xdt tt_X0_readWindow 15 rfl) (k0 := 1) (by decide) ?_
    refine g_iadd hC (rfl : 30 + 1 = 31) (xdt tt_X0_readWindow 16 rfl) ?_
    obtain ⟨S15, hS15, h⟩ := lt1_i h
    refine g_putI hC hk0 kclX0 ly1_0 12 (by decide) rfl rfl rfl q152 hS15 (rfl : 31 + 3 = 34) (xdt tt_X0_readWindow 17 rfl) ?_
    refine g_goto hC (show ((34 : Nat) : Int) + 43 = ((77 : Nat) : Int) by decide) (xdt tt_X0_readWindow 18 rfl) ?_
    refine g_sub [1] (lv' := [(0, vr E r0 0)]) rfl ?_
    exact k_X0_readWindow_p1_0_b77 hC hZ hE hk0 _ h
def f_X0_canMark_p1_0 (S : xSt) (r0 : Nat) : Option (Int × xSt) :=
  ckP S r0 0 0 2 0 fun rg1 =>
  if wr (gI S rg1 0 10) ≤ wr (gI S r0 0 10) then
    (some (0, S))
  else
    (if wr (gI S r0 5 2) < wr (gI S r0 1 2) then
      (ckP S r0 0 0 2 0 fun rg2 =>
      bd2 (f_X5_startOf_p2_0 S rg2 ((gI S r0 0 10) + 1)) fun v5 S4 =>
      if wr (gI S4 r0 0 12) < wr v5 then
        (ckP S4 r0 0 0 2 0 fun rg6 =>
        bd2 (f_X5_startOf_p2_0 S4 rg6 (gI S4 r0 0 10)) fun v9 S8 =>
        if wr (gI S8 r0 0 12) ≤ wr v9 then
          (some (0, S8))
        else
          (lt1 (wI S8 r0 0 13 1) fun S10 =>
          lt1 (wI S10 r0 15 5 ((gI S10 r0 15 5) + 1)) fun S11 =>
          some (0, S11)))
      else
        (some (1, S4)))
    else
      (some (0, S)))
set_option maxRecDepth 100000 in
set_option maxHeartbeats 4000000 in
theorem c_X0_canMark_p1_0 (l : Launch) {E : xE} {S S' : xSt} {r0 : Nat} (hk0 : xkd E r0 = 1) {v : Int} (h : f_X0_canMark_p1_0 S r0 = some (v, S')) : Met l yX0_canMark (xws yX0_canMark cX0_canMark 1 (some .boolean)) (rmD 2) (YPc E [vr E r0 0] S) (YQz E v S') 0 0 (xA E) := by
  unfold f_X0_canMark_p1_0 at h
  refine met_z (by decide +kernel) (Nat.le_of_ble_eq_true rfl) (fun K hC hZ hE => ?_)
  have hC : xOK K cX0_canMark RX0 1 (rmE 2 0) := hC
  show WG K E 0 [(0, vr E r0 0)] [] S
  refine g_aload_n hC rfl 0 rfl (rfl : 0 + 1 = 1) (xdt tt_X0_canMark 0 rfl) ?_
  refine g_getI hC hk0 kclX0 ly1_0 10 (by decide) rfl q150 (rfl : 1 + 3 = 4) (xdt tt_X0_canMark 1 rfl) ?_
  refine g_aload_n hC rfl 0 rfl (rfl : 4 + 1 = 5) (xdt tt_X0_canMark 2 rfl) ?_
  obtain ⟨rg1, hrg1, grg1, h⟩ := ckP_i h
  refine g_getV hC hk0 kclX0 ly1_0 0 (by decide) rfl hrg1 grg1 (by decide) q142 (rfl : 5 + 3 = 8) (xdt tt_X0_canMark 3 rfl) (fun krg1 => ?_)
  refine g_getI hC krg1 kclX5 ly2_0 10 (by decide) rfl q714 (rfl : 8 + 3 = 11) (xdt tt_X0_canMark 4 rfl) ?_
  refine g_icmp_ge hC (show ((11 : Nat) : Int) + 19 = ((30 : Nat) : Int) by decide) (rfl : 11 + 3 = 14) (xdt tt_X0_canMark 5 rfl) (fun hc15 => ?_) (fun hc15 => ?_)
  · replace h := (if_pos hc15).symm.trans h
    refine g_iconst hC (rfl : 30 + 1 = 31) (xdt tt_X0_canMark 14 rfl) ?_
    cases h
    exact g_zret hC hE (Or.inl rfl) (xdt tt_X0_canMark 15 rfl)
  · replace h := (if_neg hc15).symm.trans h
    refine g_aload_n hC rfl 0 rfl (rfl : 14 + 1 = 15) (xdt tt_X0_canMark 6 rfl) ?_
    refine g_getP hC hk0 kclX0 ly1_0 3 (by decide) (rfl : r0 + 0 = r0) rfl q98 (rfl : 15 + 3 = 18) (xdt tt_X0_canMark 7 rfl) ?_
    refine g_getI hC hk0 kclX6 ly1_5 2 (by decide) rfl q146 (rfl : 18 + 3 = 21) (xdt tt_X0_canMark 8 rfl) ?_
    refine g_aload_n hC rfl 0 rfl (rfl : 21 + 1 = 22) (xdt tt_X0_canMark 9 rfl) ?_
    refine g_getP hC hk0 kclX0 ly1_0 1 (by decide) (rfl : r0 + 0 = r0) rfl q92 (rfl : 22 + 3 = 25) (xdt tt_X0_canMark 10 rfl) ?_
    refine g_iconst hC (rfl : 25 + 1 = 26) (xdt tt_X0_canMark 11 rfl) ?_
    refine g_iald hC hk0 ly1_1 (by decide) (rfl : 26 + 1 = 27) (xdt tt_X0_canMark 12 rfl) (k0 := 2) (by decide) ?_
    refine g_icmp_lt hC (show ((27 : Nat) : Int) + 5 = ((32 : Nat) : Int) by decide) (rfl : 27 + 3 = 30) (xdt tt_X0_canMark 13 rfl) (fun hc14 => ?_) (fun hc14 => ?_)
    · replace h := (if_pos hc14).symm.trans h
      refine g_aload_n hC rfl 0 rfl (rfl : 32 + 1 = 33) (xdt tt_X0_canMark 16 rfl) ?_
      obtain ⟨rg2, hrg2, grg2, h⟩ := ckP_i h
      refine g_getV hC hk0 kclX0 ly1_0 0 (by decide) rfl hrg2 grg2 (by decide) q142 (rfl : 33 + 3 = 36) (xdt tt_X0_canMark 17 rfl) (fun krg2 => ?_)
      refine g_aload_n hC rfl 0 rfl (rfl : 36 + 1 = 37) (xdt tt_X0_canMark 18 rfl) ?_
      refine g_getI hC hk0 kclX0 ly1_0 10 (by decide) rfl q150 (rfl : 37 + 3 = 40) (xdt tt_X0_canMark 19 rfl) ?_
      refine g_iconst hC (rfl : 40 + 1 = 41) (xdt tt_X0_canMark 20 rfl) ?_
      refine g_iadd hC (rfl : 41 + 1 = 42) (xdt tt_X0_canMark 21 rfl) ?_
      obtain ⟨v5, S4, hc3, h⟩ := bd2_i h
      refine g_callVi hC hZ krg2 kclX5 ly2_0 m_X5_startOf q808 (Nat.le_of_ble_eq_true rfl) [vi ((gI S r0 0 10) + 1)] rfl (fun l => c_X5_startOf_p2_0 l krg2 hc3) rfl (Nat.le_of_ble_eq_true rfl) (rfl : 42 + 3 = 45) (xdt tt_X0_canMark 22 rfl) ?_
      refine g_aload_n hC rfl 0 rfl (rfl : 45 + 1 = 46) (xdt tt_X0_canMark 23 rfl) ?_
      refine g_getI hC hk0 kclX0 ly1_0 12 (by decide) rfl q152 (rfl : 46 + 3 = 49) (xdt tt_X0_canMark 24 rfl) ?_
      refine g_icmp_gt hC (show ((49 : Nat) : Int) + 5 = ((54 : Nat) : Int) by decide) (rfl : 49 + 3 = 52) (xdt tt_X0_canMark 25 rfl) (fun hc13 => ?_) (fun hc13 => ?_)
      · replace h := (if_pos hc13).symm.trans h
        refine g_aload_n hC rfl 0 rfl (rfl : 54 + 1 = 55) (xdt tt_X0_canMark 28 rfl) ?_
        obtain ⟨rg6, hrg6, grg6, h⟩ := ckP_i h
        refine g_getV hC hk0 kclX0 ly1_0 0 (by decide) rfl hrg6 grg6 (by decide) q142 (rfl : 55 + 3 = 58) (xdt tt_X0_canMark 29 rfl) (fun krg6 => ?_)
        refine g_aload_n hC rfl 0 rfl (rfl : 58 + 1 = 59) (xdt tt_X0_canMark 30 rfl) ?_
        refine g_getI hC hk0 kclX0 ly1_0 10 (by decide) rfl q150 (rfl : 59 + 3 = 62) (xdt tt_X0_canMark 31 rfl) ?_
        obtain ⟨v9, S8, hc7, h⟩ := bd2_i h
        refine g_callVi hC hZ krg6 kclX5 ly2_0 m_X5_startOf q808 (Nat.le_of_ble_eq_true rfl) [vi (gI S4 r0 0 10)] rfl (fun l => c_X5_startOf_p2_0 l krg6 hc7) rfl (Nat.le_of_ble_eq_true rfl) (rfl : 62 + 3 = 65) (xdt tt_X0_canMark 32 rfl) ?_
        refine g_aload_n hC rfl 0 rfl (rfl : 65 + 1 = 66) (xdt tt_X0_canMark 33 rfl) ?_
        refine g_getI hC hk0 kclX0 ly1_0 12 (by decide) rfl q152 (rfl : 66 + 3 = 69) (xdt tt_X0_canMark 34 rfl) ?_
        refine g_icmp_ge hC (show ((69 : Nat) : Int) + 21 = ((90 : Nat) : Int) by decide) (rfl : 69 + 3 = 72) (xdt tt_X0_canMark 35 rfl) (fun hc12 => ?_) (fun hc12 => ?_)
        · replace h := (if_pos hc12).symm.trans h
          refine g_iconst hC (rfl : 90 + 1 = 91) (xdt tt_X0_canMark 48 rfl) ?_
          cases h
          exact g_zret hC hE (Or.inl rfl) (xdt tt_X0_canMark 49 rfl)
        · replace h := (if_neg hc12).symm.trans h
          refine g_aload_n hC rfl 0 rfl (rfl : 72 + 1 = 73) (xdt tt_X0_canMark 36 rfl) ?_
          refine g_iconst hC (rfl : 73 + 1 = 74) (xdt tt_X0_canMark 37 rfl) ?_
          obtain ⟨S10, hS10, h⟩ := lt1_i h
          refine g_putZ hC hk0 kclX0 ly1_0 13 (by decide) rfl rfl rfl q153 (Or.inr rfl) hS10 (rfl : 74 + 3 = 77) (xdt tt_X0_canMark 38 rfl) ?_
          refine g_aload_n hC rfl 0 rfl (rfl : 77 + 1 = 78) (xdt tt_X0_canMark 39 rfl) ?_
          refine g_getP hC hk0 kclX0 ly1_0 7 (by decide) (rfl : r0 + 0 = r0) rfl q112 (rfl : 78 + 3 = 81) (xdt tt_X0_canMark 40 rfl) ?_
          refine g_getP hC hk0 kclX9 ly1_14 0 (by decide) (rfl : r0 + 0 = r0) rfl q689 (rfl : 81 + 3 = 84) (xdt tt_X0_canMark 41 rfl) ?_
          refine g_iconst hC (rfl : 84 + 1 = 85) (xdt tt_X0_canMark 42 rfl) ?_
          refine g_dup2 hC rfl rfl (rfl : 85 + 1 = 86) (xdt tt_X0_canMark 43 rfl) ?_
          refine g_iald hC hk0 ly1_15 (by decide) (rfl : 86 + 1 = 87) (xdt tt_X0_canMark 44 rfl) (k0 := 5) (by decide) ?_
          refine g_iconst hC (rfl : 87 + 1 = 88) (xdt tt_X0_canMark 45 rfl) ?_
          refine g_iadd hC (rfl : 88 + 1 = 89) (xdt tt_X0_canMark 46 rfl) ?_
          obtain ⟨S11, hS11, h⟩ := lt1_i h
          refine g_iast hC hk0 ly1_15 (by decide) (by decide) hS11 (rfl : 89 + 1 = 90) (xdt tt_X0_canMark 47 rfl) ?_
          refine g_iconst hC (rfl : 90 + 1 = 91) (xdt tt_X0_canMark 48 rfl) ?_
          cases h
          exact g_zret hC hE (Or.inl rfl) (xdt tt_X0_canMark 49 rfl)
      · replace h := (if_neg hc13).symm.trans h
        refine g_iconst hC (rfl : 52 + 1 = 53) (xdt tt_X0_canMark 26 rfl) ?_
        cases h
        exact g_zret hC hE (Or.inr rfl) (xdt tt_X0_canMark 27 rfl)
    · replace h := (if_neg hc14).symm.trans h
      refine g_iconst hC (rfl : 30 + 1 = 31) (xdt tt_X0_canMark 14 rfl) ?_
      cases h
      exact g_zret hC hE (Or.inl rfl) (xdt tt_X0_canMark 15 rfl)
def f_X6_append_p1_5 (S : xSt) (r0 : Nat) (a1 : Int) (a2 : Int) : Option (xSt) :=
  if wr (gI S r0 5 2) < 0 then
    (some S)
  else
    (if wr 20 ≤ wr (gI S r0 5 2) then
      (some S)
    else
      (ckI (gI S r0 5 2) 20 <|
      lt1 (wI S r0 6 (wr (gI S r0 5 2)).toNat a1) fun S2 =>
      ckI (gI S2 r0 5 2) 20 <|
      ckB a2 <|
      lt1 (wI S2 r0 7 (wr (gI S2 r0 5 2)).toNat a2) fun S5 =>
      lt1 (wI S5 r0 5 2 ((gI S5 r0 5 2) + 1)) fun S6 =>
      some S6))
set_option maxRecDepth 100000 in
set_option maxHeartbeats 4000000 in
theorem c_X6_append_p1_5 (l : Launch) {E : xE} {S S' : xSt} {r0 : Nat} {a1 : Int} {a2 : Int} (hk0 : xkd E r0 = 1) (h : f_X6_append_p1_5 S r0 a1 a2 = some S') : Met l yX6_append (xws yX6_append cX6_append 3 none) (rmD 1) (YPc E [vr E r0 5, vi a1, vi a2] S) (YQv E S') 0 0 (xA E) := by
  unfold f_X6_append_p1_5 at h
  refine met_v (by decide +kernel) (Nat.le_of_ble_eq_true rfl) (fun K hC hZ hE => ?_)
  have hC : xOK K cX6_append RX6 3 (rmE 1 0) := hC
  show WG K E 0 [(0, vr E r0 5), (1, vi a1), (2, vi a2)] [] S
  refine g_aload_n hC rfl 0 rfl (rfl : 0 + 1 = 1) (xdt tt_X6_append 0 rfl) ?_
  refine g_getI hC hk0 kclX6 ly1_5 2 (by decide) rfl q648 (rfl : 1 + 3 = 4) (xdt tt_X6_append 1 rfl) ?_
  refine g_if_lt hC (show ((4 : Nat) : Int) + 42 = ((46 : Nat) : Int) by decide) (rfl : 4 + 3 = 7) (xdt tt_X6_append 2 rfl) (fun hc8 => ?_) (fun hc8 => ?_)
  · replace h := (if_pos hc8).symm.trans h
    cases h
    exact g_vret hC hE (xdt tt_X6_append 25 rfl)
  · replace h := (if_neg hc8).symm.trans h
    refine g_aload_n hC rfl 0 rfl (rfl : 7 + 1 = 8) (xdt tt_X6_append 3 rfl) ?_
    refine g_getI hC hk0 kclX6 ly1_5 2 (by decide) rfl q648 (rfl : 8 + 3 = 11) (xdt tt_X6_append 4 rfl) ?_
    refine g_bipush hC (by decide) (rfl : 11 + 2 = 13) (xdt tt_X6_append 5 rfl) ?_
    refine g_icmp_ge hC (show ((13 : Nat) : Int) + 33 = ((46 : Nat) : Int) by decide) (rfl : 13 + 3 = 16) (xdt tt_X6_append 6 rfl) (fun hc7 => ?_) (fun hc7 => ?_)
    · replace h := (if_pos hc7).symm.trans h
      cases h
      exact g_vret hC hE (xdt tt_X6_append 25 rfl)
    · replace h := (if_neg hc7).symm.trans h
      refine g_aload_n hC rfl 0 rfl (rfl : 16 + 1 = 17) (xdt tt_X6_append 7 rfl) ?_
      refine g_getP hC hk0 kclX6 ly1_5 0 (by decide) (rfl : r0 + 0 = r0) rfl q117 (rfl : 17 + 3 = 20) (xdt tt_X6_append 8 rfl) ?_
      refine g_aload_n hC rfl 0 rfl (rfl : 20 + 1 = 21) (xdt tt_X6_append 9 rfl) ?_
      refine g_getI hC hk0 kclX6 ly1_5 2 (by decide) rfl q648 (rfl : 21 + 3 = 24) (xdt tt_X6_append 10 rfl) ?_
      refine g_iload_n hC rfl 1 rfl (rfl : 24 + 1 = 25) (xdt tt_X6_append 11 rfl) ?_
      obtain ⟨hi1, h⟩ := ckI_i h
      obtain ⟨S2, hS2, h⟩ := lt1_i h
      refine g_iast hC hk0 ly1_6 hi1 rfl hS2 (rfl : 25 + 1 = 26) (xdt tt_X6_append 12 rfl) ?_
      refine g_aload_n hC rfl 0 rfl (rfl : 26 + 1 = 27) (xdt tt_X6_append 13 rfl) ?_
      refine g_getP hC hk0 kclX6 ly1_5 1 (by decide) (rfl : r0 + 0 = r0) rfl q118 (rfl : 27 + 3 = 30) (xdt tt_X6_append 14 rfl) ?_
      refine g_aload_n hC rfl 0 rfl (rfl : 30 + 1 = 31) (xdt tt_X6_append 15 rfl) ?_
      refine g_getI hC hk0 kclX6 ly1_5 2 (by decide) rfl q648 (rfl : 31 + 3 = 34) (xdt tt_X6_append 16 rfl) ?_
      refine g_iload_n hC rfl 2 rfl (rfl : 34 + 1 = 35) (xdt tt_X6_append 17 rfl) ?_
      obtain ⟨hi3, h⟩ := ckI_i h
      obtain ⟨hb4, h⟩ := ckB_i h
      obtain ⟨S5, hS5, h⟩ := lt1_i h
      refine g_zast hC hk0 ly1_7 hi3 hb4 rfl hS5 (rfl : 35 + 1 = 36) (xdt tt_X6_append 18 rfl) ?_
      refine g_aload_n hC rfl 0 rfl (rfl : 36 + 1 = 37) (xdt tt_X6_append 19 rfl) ?_
      refine g_dup hC rfl (rfl : 37 + 1 = 38) (xdt tt_X6_append 20 rfl) ?_
      refine g_getI hC hk0 kclX6 ly1_5 2 (by decide) rfl q648 (rfl : 38 + 3 = 41) (xdt tt_X6_append 21 rfl) ?_
      refine g_iconst hC (rfl : 41 + 1 = 42) (xdt tt_X6_append 22 rfl) ?_
      refine g_iadd hC (rfl : 42 + 1 = 43) (xdt tt_X6_append 23 rfl) ?_
      obtain ⟨S6, hS6, h⟩ := lt1_i h
      refine g_putI hC hk0 kclX6 ly1_5 2 (by decide) rfl rfl rfl q648 hS6 (rfl : 43 + 3 = 46) (xdt tt_X6_append 24 rfl) ?_
      cases h
      exact g_vret hC hE (xdt tt_X6_append 25 rfl)
