def f_X11_cyclesTo_p3_0_b51 (r0 : Nat) : Nat → xSt → Int → Int → Option (Int × xSt)
  | 0, _, _, _ => none
  | fuel + 1, S, x2, x3 =>
    if wr 500 < wr x3 then
      (some ((-1), S))
    else
      (bd (f_X0_passCycle_p1_0 S (r0 + 2)) fun S4 =>
      if wr (gI S4 (r0 + 2) 15 1) < wr x2 then
        ((f_X11_cyclesTo_p3_0_b51 r0 fuel) S4 x2 (x3 + 1))
      else
        (some (x3, S4)))
def f_X11_cyclesTo_p3_0 (S : xSt) (r0 : Nat) (a1 : Int) : Option (Int × xSt) :=
  if wr a1 < wr 1 then
    (none)
  else
    (if wr a1 ≤ wr 999 then
      (bd (f_X0_copyFrom_p1_0_1_0 S (r0 + 2) (r0 + 1)) fun S2 =>
      f_X11_cyclesTo_p3_0_b51 r0 (fu S2) S2 ((gI S2 (r0 + 1) 15 1) + a1) 1)
    else
      (none))
set_option maxRecDepth 100000 in
set_option maxHeartbeats 4000000 in
theorem k_X11_cyclesTo_p3_0_b51 {K : xCtx} {E : xE} {b : Nat} (hC : xOK K cX11_cyclesTo RX11 4 (rmE 6 b)) (hZ : xZ K) {v : Int} {S' : xSt} (hE : xEnd K E (some .int) (YQi E v S')) {r0 : Nat} (hk0 : xkd E r0 = 3) (hA0 : xFam E r0) : ∀ (fuel : Nat) (S : xSt) (x2 : Int) (x3 : Int), f_X11_cyclesTo_p3_0_b51 r0 fuel S x2 x3 = some (v, S') → WG K E 51 [(0, vr E r0 0), (2, vi x2), (3, vi x3)] [] S := by
  intro fuel
  induction fuel with
  | zero => intro S x2 x3 h; cases h
  | succ fuel ih =>
    intro S x2 x3 h
    rw [f_X11_cyclesTo_p3_0_b51] at h
    refine g_iload_n hC rfl 2 rfl (rfl : 51 + 1 = 52) (xdt tt_X11_cyclesTo 27 rfl) ?_
    refine g_sipush hC (by decide) (rfl : 52 + 3 = 55) (xdt tt_X11_cyclesTo 28 rfl) ?_
    refine g_icmp_gt hC (show ((55 : Nat) : Int) + 34 = ((89 : Nat) : Int) by decide) (rfl : 55 + 3 = 58) (xdt tt_X11_cyclesTo 29 rfl) (fun hc6 => ?_) (fun hc6 => ?_)
    · replace h := (if_pos hc6).symm.trans h
      refine g_iconst hC (rfl : 89 + 1 = 90) (xdt tt_X11_cyclesTo 45 rfl) ?_
      cases h
      exact g_iret hC hE (xdt tt_X11_cyclesTo 46 rfl)
    · replace h := (if_neg hc6).symm.trans h
      refine g_aload_n hC rfl 0 rfl (rfl : 58 + 1 = 59) (xdt tt_X11_cyclesTo 30 rfl) ?_
      refine g_getP hC hk0 kclX11 ly3_0 7 (by decide) (rfl : r0 + 2 = (r0 + 2)) rfl q32 (rfl : 59 + 3 = 62) (xdt tt_X11_cyclesTo 31 rfl) ?_
      obtain ⟨S4, hc3, h⟩ := bd_i h
      refine g_callVv hC hZ (hA0 2 (by decide) (by decide)) kclX0 ly1_0 m_X0_passCycle q1241 (Nat.le_of_ble_eq_true rfl) [] rfl (fun l => c_X0_passCycle_p1_0 l (hA0 2 (by decide) (by decide)) hc3) rfl (Nat.le_of_ble_eq_true rfl) (rfl : 62 + 3 = 65) (xdt tt_X11_cyclesTo 32 rfl) ?_
      refine g_aload_n hC rfl 0 rfl (rfl : 65 + 1 = 66) (xdt tt_X11_cyclesTo 33 rfl) ?_
      refine g_getP hC hk0 kclX11 ly3_0 7 (by decide) (rfl : r0 + 2 = (r0 + 2)) rfl q32 (rfl : 66 + 3 = 69) (xdt tt_X11_cyclesTo 34 rfl) ?_
      refine g_getP hC (hA0 2 (by decide) (by decide)) kclX0 ly1_0 7 (by decide) (rfl : (r0 + 2) + 0 = (r0 + 2)) rfl q590 (rfl : 69 + 3 = 72) (xdt tt_X11_cyclesTo 35 rfl) ?_
      refine g_getP hC (hA0 2 (by decide) (by decide)) kclX9 ly1_14 0 (by decide) (rfl : (r0 + 2) + 0 = (r0 + 2)) rfl q591 (rfl : 72 + 3 = 75) (xdt tt_X11_cyclesTo 36 rfl) ?_
      refine g_iconst hC (rfl : 75 + 1 = 76) (xdt tt_X11_cyclesTo 37 rfl) ?_
      refine g_iald hC (hA0 2 (by decide) (by decide)) ly1_15 (by decide) (rfl : 76 + 1 = 77) (xdt tt_X11_cyclesTo 38 rfl) (k0 := 1) (by decide) ?_
      refine g_iload_n hC rfl 1 rfl (rfl : 77 + 1 = 78) (xdt tt_X11_cyclesTo 39 rfl) ?_
      refine g_icmp_lt hC (show ((78 : Nat) : Int) + 5 = ((83 : Nat) : Int) by decide) (rfl : 78 + 3 = 81) (xdt tt_X11_cyclesTo 40 rfl) (fun hc5 => ?_) (fun hc5 => ?_)
      · replace h := (if_pos hc5).symm.trans h
        refine g_iinc hC 2 rfl (by decide) (lv' := [(3, vi (x3 + 1)), (0, vr E r0 0), (2, vi x2)]) rfl (rfl : 83 + 3 = 86) (xdt tt_X11_cyclesTo 43 rfl) ?_
        refine g_goto hC (show ((86 : Nat) : Int) + (-35) = ((51 : Nat) : Int) by decide) (xdt tt_X11_cyclesTo 44 rfl) ?_
        refine g_sub [1, 2, 0] (lv' := [(0, vr E r0 0), (2, vi x2), (3, vi (x3 + 1))]) rfl ?_
        exact ih _ _ _ h
      · replace h := (if_neg hc5).symm.trans h
        refine g_iload_n hC rfl 2 rfl (rfl : 81 + 1 = 82) (xdt tt_X11_cyclesTo 41 rfl) ?_
        cases h
        exact g_iret hC hE (xdt tt_X11_cyclesTo 42 rfl)
set_option maxRecDepth 100000 in
set_option maxHeartbeats 4000000 in
theorem c_X11_cyclesTo_p3_0 (l : Launch) {E : xE} {S S' : xSt} {r0 : Nat} {a1 : Int} (hk0 : xkd E r0 = 3) (hA0 : xFam E r0) {v : Int} (h : f_X11_cyclesTo_p3_0 S r0 a1 = some (v, S')) : Met l yX11_cyclesTo (xws yX11_cyclesTo cX11_cyclesTo 4 (some .int)) (rmD 6) (YPc E [vr E r0 0, vi a1] S) (YQi E v S') 0 0 (xA E) := by
  unfold f_X11_cyclesTo_p3_0 at h
  refine met_i (by decide +kernel) (Nat.le_of_ble_eq_true rfl) (fun K hC hZ hE => ?_)
  have hC : xOK K cX11_cyclesTo RX11 4 (rmE 6 0) := hC
  show WG K E 0 [(0, vr E r0 0), (1, vi a1)] [] S
  refine g_iload_n hC rfl 1 rfl (rfl : 0 + 1 = 1) (xdt tt_X11_cyclesTo 0 rfl) ?_
  refine g_iconst hC (rfl : 1 + 1 = 2) (xdt tt_X11_cyclesTo 1 rfl) ?_
  refine g_icmp_lt hC (show ((2 : Nat) : Int) + 10 = ((12 : Nat) : Int) by decide) (rfl : 2 + 3 = 5) (xdt tt_X11_cyclesTo 2 rfl) (fun hc8 => ?_) (fun hc8 => ?_)
  · replace h := (if_pos hc8).symm.trans h
    cases h
  · replace h := (if_neg hc8).symm.trans h
    refine g_iload_n hC rfl 1 rfl (rfl : 5 + 1 = 6) (xdt tt_X11_cyclesTo 3 rfl) ?_
    refine g_sipush hC (by decide) (rfl : 6 + 3 = 9) (xdt tt_X11_cyclesTo 4 rfl) ?_
    refine g_icmp_le hC (show ((9 : Nat) : Int) + 14 = ((23 : Nat) : Int) by decide) (rfl : 9 + 3 = 12) (xdt tt_X11_cyclesTo 5 rfl) (fun hc7 => ?_) (fun hc7 => ?_)
    · replace h := (if_pos hc7).symm.trans h
      refine g_aload_n hC rfl 0 rfl (rfl : 23 + 1 = 24) (xdt tt_X11_cyclesTo 11 rfl) ?_
      refine g_getP hC hk0 kclX11 ly3_0 7 (by decide) (rfl : r0 + 2 = (r0 + 2)) rfl q32 (rfl : 24 + 3 = 27) (xdt tt_X11_cyclesTo 12 rfl) ?_
      refine g_aload_n hC rfl 0 rfl (rfl : 27 + 1 = 28) (xdt tt_X11_cyclesTo 13 rfl) ?_
      refine g_getP hC hk0 kclX11 ly3_0 6 (by decide) (rfl : r0 + 1 = (r0 + 1)) rfl q31 (rfl : 28 + 3 = 31) (xdt tt_X11_cyclesTo 14 rfl) ?_
      obtain ⟨S2, hc1, h⟩ := bd_i h
      refine g_callVv hC hZ (hA0 2 (by decide) (by decide)) kclX0 ly1_0 m_X0_copyFrom q1357 (Nat.le_of_ble_eq_true rfl) [vr E (r0 + 1) 0] rfl (fun l => c_X0_copyFrom_p1_0_1_0 l (hA0 2 (by decide) (by decide)) (hA0 1 (by decide) (by decide)) hc1) rfl (Nat.le_of_ble_eq_true rfl) (rfl : 31 + 3 = 34) (xdt tt_X11_cyclesTo 15 rfl) ?_
      refine g_aload_n hC rfl 0 rfl (rfl : 34 + 1 = 35) (xdt tt_X11_cyclesTo 16 rfl) ?_
      refine g_getP hC hk0 kclX11 ly3_0 6 (by decide) (rfl : r0 + 1 = (r0 + 1)) rfl q31 (rfl : 35 + 3 = 38) (xdt tt_X11_cyclesTo 17 rfl) ?_
      refine g_getP hC (hA0 1 (by decide) (by decide)) kclX0 ly1_0 7 (by decide) (rfl : (r0 + 1) + 0 = (r0 + 1)) rfl q590 (rfl : 38 + 3 = 41) (xdt tt_X11_cyclesTo 18 rfl) ?_
      refine g_getP hC (hA0 1 (by decide) (by decide)) kclX9 ly1_14 0 (by decide) (rfl : (r0 + 1) + 0 = (r0 + 1)) rfl q591 (rfl : 41 + 3 = 44) (xdt tt_X11_cyclesTo 19 rfl) ?_
      refine g_iconst hC (rfl : 44 + 1 = 45) (xdt tt_X11_cyclesTo 20 rfl) ?_
      refine g_iald hC (hA0 1 (by decide) (by decide)) ly1_15 (by decide) (rfl : 45 + 1 = 46) (xdt tt_X11_cyclesTo 21 rfl) (k0 := 1) (by decide) ?_
      refine g_iload_n hC rfl 1 rfl (rfl : 46 + 1 = 47) (xdt tt_X11_cyclesTo 22 rfl) ?_
      refine g_iadd hC (rfl : 47 + 1 = 48) (xdt tt_X11_cyclesTo 23 rfl) ?_
      refine g_istore_n hC rfl (by decide) (lv' := [(2, vi ((gI S2 (r0 + 1) 15 1) + a1)), (0, vr E r0 0), (1, vi a1)]) rfl (rfl : 48 + 1 = 49) (xdt tt_X11_cyclesTo 24 rfl) ?_
      refine g_iconst hC (rfl : 49 + 1 = 50) (xdt tt_X11_cyclesTo 25 rfl) ?_
      refine g_istore_n hC rfl (by decide) (lv' := [(3, vi 1), (2, vi ((gI S2 (r0 + 1) 15 1) + a1)), (0, vr E r0 0), (1, vi a1)]) rfl (rfl : 50 + 1 = 51) (xdt tt_X11_cyclesTo 26 rfl) ?_
      refine g_sub [2, 1, 0] (lv' := [(0, vr E r0 0), (2, vi ((gI S2 (r0 + 1) 15 1) + a1)), (3, vi 1)]) rfl ?_
      exact k_X11_cyclesTo_p3_0_b51 hC hZ hE hk0 hA0 _ _ _ _ h
    · replace h := (if_neg hc7).symm.trans h
      cases h
def f_X11_nextBubbles_p3_0 (S : xSt) (r0 : Nat) (a1 : Int) : Option (Int × xSt) :=
  if wr a1 < wr 1 then
    (none)
  else
    (if wr a1 ≤ wr 8 then
      (bd (f_X0_copyFrom_p1_0_1_0 S (r0 + 2) (r0 + 1)) fun S2 =>
      bd (f_X0_passCycle_p1_0 S2 (r0 + 2)) fun S4 =>
      ckI a1 9 <|
      ckI a1 9 <|
      some (((gI S4 (r0 + 2) 16 (wr a1).toNat) - (gI S4 (r0 + 1) 16 (wr a1).toNat)), S4))
    else
      (none))
set_option maxRecDepth 100000 in
set_option maxHeartbeats 4000000 in
theorem c_X11_nextBubbles_p3_0 (l : Launch) {E : xE} {S S' : xSt} {r0 : Nat} {a1 : Int} (hk0 : xkd E r0 = 3) (hA0 : xFam E r0) {v : Int} (h : f_X11_nextBubbles_p3_0 S r0 a1 = some (v, S')) : Met l yX11_nextBubbles (xws yX11_nextBubbles cX11_nextBubbles 2 (some .int)) (rmD 6) (YPc E [vr E r0 0, vi a1] S) (YQi E v S') 0 0 (xA E) := by
  unfold f_X11_nextBubbles_p3_0 at h
  refine met_i (by decide +kernel) (Nat.le_of_ble_eq_true rfl) (fun K hC hZ hE => ?_)
  have hC : xOK K cX11_nextBubbles RX11 2 (rmE 6 0) := hC
  show WG K E 0 [(0, vr E r0 0), (1, vi a1)] [] S
  refine g_iload_n hC rfl 1 rfl (rfl : 0 + 1 = 1) (xdt tt_X11_nextBubbles 0 rfl) ?_
  refine g_iconst hC (rfl : 1 + 1 = 2) (xdt tt_X11_nextBubbles 1 rfl) ?_
  refine g_icmp_lt hC (show ((2 : Nat) : Int) + 9 = ((11 : Nat) : Int) by decide) (rfl : 2 + 3 = 5) (xdt tt_X11_nextBubbles 2 rfl) (fun hc8 => ?_) (fun hc8 => ?_)
  · replace h := (if_pos hc8).symm.trans h
    cases h
  · replace h := (if_neg hc8).symm.trans h
    refine g_iload_n hC rfl 1 rfl (rfl : 5 + 1 = 6) (xdt tt_X11_nextBubbles 3 rfl) ?_
    refine g_bipush hC (by decide) (rfl : 6 + 2 = 8) (xdt tt_X11_nextBubbles 4 rfl) ?_
    refine g_icmp_le hC (show ((8 : Nat) : Int) + 13 = ((21 : Nat) : Int) by decide) (rfl : 8 + 3 = 11) (xdt tt_X11_nextBubbles 5 rfl) (fun hc7 => ?_) (fun hc7 => ?_)
    · replace h := (if_pos hc7).symm.trans h
      refine g_aload_n hC rfl 0 rfl (rfl : 21 + 1 = 22) (xdt tt_X11_nextBubbles 11 rfl) ?_
      refine g_getP hC hk0 kclX11 ly3_0 7 (by decide) (rfl : r0 + 2 = (r0 + 2)) rfl q32 (rfl : 22 + 3 = 25) (xdt tt_X11_nextBubbles 12 rfl) ?_
      refine g_aload_n hC rfl 0 rfl (rfl : 25 + 1 = 26) (xdt tt_X11_nextBubbles 13 rfl) ?_
      refine g_getP hC hk0 kclX11 ly3_0 6 (by decide) (rfl : r0 + 1 = (r0 + 1)) rfl q31 (rfl : 26 + 3 = 29) (xdt tt_X11_nextBubbles 14 rfl) ?_
      obtain ⟨S2, hc1, h⟩ := bd_i h
      refine g_callVv hC hZ (hA0 2 (by decide) (by decide)) kclX0 ly1_0 m_X0_copyFrom q1357 (Nat.le_of_ble_eq_true rfl) [vr E (r0 + 1) 0] rfl (fun l => c_X0_copyFrom_p1_0_1_0 l (hA0 2 (by decide) (by decide)) (hA0 1 (by decide) (by decide)) hc1) rfl (Nat.le_of_ble_eq_true rfl) (rfl : 29 + 3 = 32) (xdt tt_X11_nextBubbles 15 rfl) ?_
      refine g_aload_n hC rfl 0 rfl (rfl : 32 + 1 = 33) (xdt tt_X11_nextBubbles 16 rfl) ?_
      refine g_getP hC hk0 kclX11 ly3_0 7 (by decide) (rfl : r0 + 2 = (r0 + 2)) rfl q32 (rfl : 33 + 3 = 36) (xdt tt_X11_nextBubbles 17 rfl) ?_
      obtain ⟨S4, hc3, h⟩ := bd_i h
      refine g_callVv hC hZ (hA0 2 (by decide) (by decide)) kclX0 ly1_0 m_X0_passCycle q1241 (Nat.le_of_ble_eq_true rfl) [] rfl (fun l => c_X0_passCycle_p1_0 l (hA0 2 (by decide) (by decide)) hc3) rfl (Nat.le_of_ble_eq_true rfl) (rfl : 36 + 3 = 39) (xdt tt_X11_nextBubbles 18 rfl) ?_
      refine g_aload_n hC rfl 0 rfl (rfl : 39 + 1 = 40) (xdt tt_X11_nextBubbles 19 rfl) ?_
      refine g_getP hC hk0 kclX11 ly3_0 7 (by decide) (rfl : r0 + 2 = (r0 + 2)) rfl q32 (rfl : 40 + 3 = 43) (xdt tt_X11_nextBubbles 20 rfl) ?_
      refine g_getP hC (hA0 2 (by decide) (by decide)) kclX0 ly1_0 7 (by decide) (rfl : (r0 + 2) + 0 = (r0 + 2)) rfl q590 (rfl : 43 + 3 = 46) (xdt tt_X11_nextBubbles 21 rfl) ?_
      refine g_getP hC (hA0 2 (by decide) (by decide)) kclX9 ly1_14 1 (by decide) (rfl : (r0 + 2) + 0 = (r0 + 2)) rfl q864 (rfl : 46 + 3 = 49) (xdt tt_X11_nextBubbles 22 rfl) ?_
      refine g_iload_n hC rfl 1 rfl (rfl : 49 + 1 = 50) (xdt tt_X11_nextBubbles 23 rfl) ?_
      obtain ⟨hi5, h⟩ := ckI_i h
      refine g_iald hC (hA0 2 (by decide) (by decide)) ly1_16 hi5 (rfl : 50 + 1 = 51) (xdt tt_X11_nextBubbles 24 rfl) (k0 := (wr a1).toNat) rfl ?_
      refine g_aload_n hC rfl 0 rfl (rfl : 51 + 1 = 52) (xdt tt_X11_nextBubbles 25 rfl) ?_
      refine g_getP hC hk0 kclX11 ly3_0 6 (by decide) (rfl : r0 + 1 = (r0 + 1)) rfl q31 (rfl : 52 + 3 = 55) (xdt tt_X11_nextBubbles 26 rfl) ?_
      refine g_getP hC (hA0 1 (by decide) (by decide)) kclX0 ly1_0 7 (by decide) (rfl : (r0 + 1) + 0 = (r0 + 1)) rfl q590 (rfl : 55 + 3 = 58) (xdt tt_X11_nextBubbles 27 rfl) ?_
      refine g_getP hC (hA0 1 (by decide) (by decide)) kclX9 ly1_14 1 (by decide) (rfl : (r0 + 1) + 0 = (r0 + 1)) rfl q864 (rfl : 58 + 3 = 61) (xdt tt_X11_nextBubbles 28 rfl) ?_
      refine g_iload_n hC rfl 1 rfl (rfl : 61 + 1 = 62) (xdt tt_X11_nextBubbles 29 rfl) ?_
      obtain ⟨hi6, h⟩ := ckI_i h
      refine g_iald hC (hA0 1 (by decide) (by decide)) ly1_16 hi6 (rfl : 62 + 1 = 63) (xdt tt_X11_nextBubbles 30 rfl) (k0 := (wr a1).toNat) rfl ?_
      refine g_isub hC (rfl : 63 + 1 = 64) (xdt tt_X11_nextBubbles 31 rfl) ?_
      cases h
      exact g_iret hC hE (xdt tt_X11_nextBubbles 32 rfl)
    · replace h := (if_neg hc7).symm.trans h
      cases h
def f_X11_bubblesIn_p3_0 (S : xSt) (r0 : Nat) (a1 : Int) (a2 : Int) : Option (Int × xSt) :=
  if wr a1 < wr 1 then
    (none)
  else
    (if wr a1 ≤ wr 500 then
      (if wr a2 < wr 1 then
        (none)
      else
        (if wr a2 ≤ wr 8 then
          (bd (f_X0_copyFrom_p1_0_1_0 S (r0 + 2) (r0 + 1)) fun S2 =>
          bd2 (f_X0_decodeFor_p1_0 S2 (r0 + 2) a1) fun v5 S4 =>
          ckI a2 9 <|
          ckI a2 9 <|
          some (((gI S4 (r0 + 2) 16 (wr a2).toNat) - (gI S4 (r0 + 1) 16 (wr a2).toNat)), S4))
        else
          (none)))
    else
      (none))
set_option maxRecDepth 100000 in
set_option maxHeartbeats 4000000 in
theorem c_X11_bubblesIn_p3_0 (l : Launch) {E : xE} {S S' : xSt} {r0 : Nat} {a1 : Int} {a2 : Int} (hk0 : xkd E r0 = 3) (hA0 : xFam E r0) {v : Int} (h : f_X11_bubblesIn_p3_0 S r0 a1 a2 = some (v, S')) : Met l yX11_bubblesIn (xws yX11_bubblesIn cX11_bubblesIn 3 (some .int)) (rmD 7) (YPc E [vr E r0 0, vi a1, vi a2] S) (YQi E v S') 0 0 (xA E) := by
  unfold f_X11_bubblesIn_p3_0 at h
  refine met_i (by decide +kernel) (Nat.le_of_ble_eq_true rfl) (fun K hC hZ hE => ?_)
  have hC : xOK K cX11_bubblesIn RX11 3 (rmE 7 0) := hC
  show WG K E 0 [(0, vr E r0 0), (1, vi a1), (2, vi a2)] [] S
  refine g_iload_n hC rfl 1 rfl (rfl : 0 + 1 = 1) (xdt tt_X11_bubblesIn 0 rfl) ?_
  refine g_iconst hC (rfl : 1 + 1 = 2) (xdt tt_X11_bubblesIn 1 rfl) ?_
  refine g_icmp_lt hC (show ((2 : Nat) : Int) + 10 = ((12 : Nat) : Int) by decide) (rfl : 2 + 3 = 5) (xdt tt_X11_bubblesIn 2 rfl) (fun hc11 => ?_) (fun hc11 => ?_)
  · replace h := (if_pos hc11).symm.trans h
    cases h
  · replace h := (if_neg hc11).symm.trans h
    refine g_iload_n hC rfl 1 rfl (rfl : 5 + 1 = 6) (xdt tt_X11_bubblesIn 3 rfl) ?_
    refine g_sipush hC (by decide) (rfl : 6 + 3 = 9) (xdt tt_X11_bubblesIn 4 rfl) ?_
    refine g_icmp_le hC (show ((9 : Nat) : Int) + 14 = ((23 : Nat) : Int) by decide) (rfl : 9 + 3 = 12) (xdt tt_X11_bubblesIn 5 rfl) (fun hc10 => ?_) (fun hc10 => ?_)
    · replace h := (if_pos hc10).symm.trans h
      refine g_iload_n hC rfl 2 rfl (rfl : 23 + 1 = 24) (xdt tt_X11_bubblesIn 11 rfl) ?_
      refine g_iconst hC (rfl : 24 + 1 = 25) (xdt tt_X11_bubblesIn 12 rfl) ?_
      refine g_icmp_lt hC (show ((25 : Nat) : Int) + 9 = ((34 : Nat) : Int) by decide) (rfl : 25 + 3 = 28) (xdt tt_X11_bubblesIn 13 rfl) (fun hc9 => ?_) (fun hc9 => ?_)
      · replace h := (if_pos hc9).symm.trans h
        cases h
      · replace h := (if_neg hc9).symm.trans h
        refine g_iload_n hC rfl 2 rfl (rfl : 28 + 1 = 29) (xdt tt_X11_bubblesIn 14 rfl) ?_
        refine g_bipush hC (by decide) (rfl : 29 + 2 = 31) (xdt tt_X11_bubblesIn 15 rfl) ?_
        refine g_icmp_le hC (show ((31 : Nat) : Int) + 13 = ((44 : Nat) : Int) by decide) (rfl : 31 + 3 = 34) (xdt tt_X11_bubblesIn 16 rfl) (fun hc8 => ?_) (fun hc8 => ?_)
        · replace h := (if_pos hc8).symm.trans h
          refine g_aload_n hC rfl 0 rfl (rfl : 44 + 1 = 45) (xdt tt_X11_bubblesIn 22 rfl) ?_
          refine g_getP hC hk0 kclX11 ly3_0 7 (by decide) (rfl : r0 + 2 = (r0 + 2)) rfl q32 (rfl : 45 + 3 = 48) (xdt tt_X11_bubblesIn 23 rfl) ?_
          refine g_aload_n hC rfl 0 rfl (rfl : 48 + 1 = 49) (xdt tt_X11_bubblesIn 24 rfl) ?_
          refine g_getP hC hk0 kclX11 ly3_0 6 (by decide) (rfl : r0 + 1 = (r0 + 1)) rfl q31 (rfl : 49 + 3 = 52) (xdt tt_X11_bubblesIn 25 rfl) ?_
          obtain ⟨S2, hc1, h⟩ := bd_i h
          refine g_callVv hC hZ (hA0 2 (by decide) (by decide)) kclX0 ly1_0 m_X0_copyFrom q1357 (Nat.le_of_ble_eq_true rfl) [vr E (r0 + 1) 0] rfl (fun l => c_X0_copyFrom_p1_0_1_0 l (hA0 2 (by decide) (by decide)) (hA0 1 (by decide) (by decide)) hc1) rfl (Nat.le_of_ble_eq_true rfl) (rfl : 52 + 3 = 55) (xdt tt_X11_bubblesIn 26 rfl) ?_
          refine g_aload_n hC rfl 0 rfl (rfl : 55 + 1 = 56) (xdt tt_X11_bubblesIn 27 rfl) ?_
          refine g_getP hC hk0 kclX11 ly3_0 7 (by decide) (rfl : r0 + 2 = (r0 + 2)) rfl q32 (rfl : 56 + 3 = 59) (xdt tt_X11_bubblesIn 28 rfl) ?_
          refine g_iload_n hC rfl 1 rfl (rfl : 59 + 1 = 60) (xdt tt_X11_bubblesIn 29 rfl) ?_
          obtain ⟨v5, S4, hc3, h⟩ := bd2_i h
          refine g_callVi hC hZ (hA0 2 (by decide) (by decide)) kclX0 ly1_0 m_X0_decodeFor q1025 (Nat.le_of_ble_eq_true rfl) [vi a1] rfl (fun l => c_X0_decodeFor_p1_0 l (hA0 2 (by decide) (by decide)) hc3) rfl (Nat.le_of_ble_eq_true rfl) (rfl : 60 + 3 = 63) (xdt tt_X11_bubblesIn 30 rfl) ?_
          refine g_pop hC rfl (rfl : 63 + 1 = 64) (xdt tt_X11_bubblesIn 31 rfl) ?_
          refine g_aload_n hC rfl 0 rfl (rfl : 64 + 1 = 65) (xdt tt_X11_bubblesIn 32 rfl) ?_
          refine g_getP hC hk0 kclX11 ly3_0 7 (by decide) (rfl : r0 + 2 = (r0 + 2)) rfl q32 (rfl : 65 + 3 = 68) (xdt tt_X11_bubblesIn 33 rfl) ?_
          refine g_getP hC (hA0 2 (by decide) (by decide)) kclX0 ly1_0 7 (by decide) (rfl : (r0 + 2) + 0 = (r0 + 2)) rfl q590 (rfl : 68 + 3 = 71) (xdt tt_X11_bubblesIn 34 rfl) ?_
          refine g_getP hC (hA0 2 (by decide) (by decide)) kclX9 ly1_14 1 (by decide) (rfl : (r0 + 2) + 0 = (r0 + 2)) rfl q864 (rfl : 71 + 3 = 74) (xdt tt_X11_bubblesIn 35 rfl) ?_
          refine g_iload_n hC rfl 2 rfl (rfl : 74 + 1 = 75) (xdt tt_X11_bubblesIn 36 rfl) ?_
          obtain ⟨hi6, h⟩ := ckI_i h
          refine g_iald hC (hA0 2 (by decide) (by decide)) ly1_16 hi6 (rfl : 75 + 1 = 76) (xdt tt_X11_bubblesIn 37 rfl) (k0 := (wr a2).toNat) rfl ?_
          refine g_aload_n hC rfl 0 rfl (rfl : 76 + 1 = 77) (xdt tt_X11_bubblesIn 38 rfl) ?_
          refine g_getP hC hk0 kclX11 ly3_0 6 (by decide) (rfl : r0 + 1 = (r0 + 1)) rfl q31 (rfl : 77 + 3 = 80) (xdt tt_X11_bubblesIn 39 rfl) ?_
          refine g_getP hC (hA0 1 (by decide) (by decide)) kclX0 ly1_0 7 (by decide) (rfl : (r0 + 1) + 0 = (r0 + 1)) rfl q590 (rfl : 80 + 3 = 83) (xdt tt_X11_bubblesIn 40 rfl) ?_
          refine g_getP hC (hA0 1 (by decide) (by decide)) kclX9 ly1_14 1 (by decide) (rfl : (r0 + 1) + 0 = (r0 + 1)) rfl q864 (rfl : 83 + 3 = 86) (xdt tt_X11_bubblesIn 41 rfl) ?_
          refine g_iload_n hC rfl 2 rfl (rfl : 86 + 1 = 87) (xdt tt_X11_bubblesIn 42 rfl) ?_
          obtain ⟨hi7, h⟩ := ckI_i h
          refine g_iald hC (hA0 1 (by decide) (by decide)) ly1_16 hi7 (rfl : 87 + 1 = 88) (xdt tt_X11_bubblesIn 43 rfl) (k0 := (wr a2).toNat) rfl ?_
          refine g_isub hC (rfl : 88 + 1 = 89) (xdt tt_X11_bubblesIn 44 rfl) ?_
          cases h
          exact g_iret hC hE (xdt tt_X11_bubblesIn 45 rfl)
        · replace h := (if_neg hc8).symm.trans h
          cases h
    · replace h := (if_neg hc10).symm.trans h
      cases h
def f_X11_roomNeeded_p3_0_b44 (r0 : Nat) : Nat → xSt → Int → Int → Int → Option (Int × xSt)
  | 0, _, _, _, _ => none
  | fuel + 1, S, x1, x2, x3 =>
    if wr x1 ≤ wr x3 then
      (some (x2, S))
    else
      (bd (f_X0_passCycle_p1_0 S (r0 + 2)) fun S4 =>
      (f_X11_roomNeeded_p3_0_b44 r0 fuel) S4 x1 (iMax x2 (gI S4 (r0 + 2) 0 14)) (x3 + 1))
def f_X11_roomNeeded_p3_0 (S : xSt) (r0 : Nat) (a1 : Int) : Option (Int × xSt) :=
  if wr a1 < wr 1 then
    (none)
  else
    (if wr a1 ≤ wr 500 then
      (bd (f_X0_copyFrom_p1_0_1_0 S (r0 + 2) (r0 + 1)) fun S2 =>
      f_X11_roomNeeded_p3_0_b44 r0 (fu S2) S2 a1 (gI S2 (r0 + 2) 0 14) 0)
    else
      (none))
set_option maxRecDepth 100000 in
set_option maxHeartbeats 4000000 in
theorem k_X11_roomNeeded_p3_0_b44 {K : xCtx} {E : xE} {b : Nat} (hC : xOK K cX11_roomNeeded RX11 4 (rmE 6 b)) (hZ : xZ K) {v : Int} {S' : xSt} (hE : xEnd K E (some .int) (YQi E v S')) {r0 : Nat} (hk0 : xkd E r0 = 3) (hA0 : xFam E r0) : ∀ (fuel : Nat) (S : xSt) (x1 : Int) (x2 : Int) (x3 : Int), f_X11_roomNeeded_p3_0_b44 r0 fuel S x1 x2 x3 = some (v, S') → WG K E 44 [(0, vr E r0 0), (1, vi x1), (2, vi x2), (3, vi x3)] [] S := by
  intro fuel
  induction fuel with
  | zero => intro S x1 x2 x3 h; cases h
  | succ fuel ih =>
    intro S x1 x2 x3 h
    rw [f_X11_roomNeeded_p3_0_b44] at h
    refine g_iload_n hC rfl 3 rfl (rfl : 44 + 1 = 45) (xdt tt_X11_roomNeeded 22 rfl) ?_
    refine g_iload_n hC rfl 1 rfl (rfl : 45 + 1 = 46) (xdt tt_X11_roomNeeded 23 rfl) ?_
    refine g_icmp_ge hC (show ((46 : Nat) : Int) + 28 = ((74 : Nat) : Int) by decide) (rfl : 46 + 3 = 49) (xdt tt_X11_roomNeeded 24 rfl) (fun hc5 => ?_) (fun hc5 => ?_)
    · replace h := (if_pos hc5).symm.trans h
      refine g_iload_n hC rfl 2 rfl (rfl : 74 + 1 = 75) (xdt tt_X11_roomNeeded 36 rfl) ?_
      cases h
      exact g_iret hC hE (xdt tt_X11_roomNeeded 37 rfl)
    · replace h := (if_neg hc5).symm.trans h
      refine g_aload_n hC rfl 0 rfl (rfl : 49 + 1 = 50) (xdt tt_X11_roomNeeded 25 rfl) ?_
      refine g_getP hC hk0 kclX11 ly3_0 7 (by decide) (rfl : r0 + 2 = (r0 + 2)) rfl q32 (rfl : 50 + 3 = 53) (xdt tt_X11_roomNeeded 26 rfl) ?_
      obtain ⟨S4, hc3, h⟩ := bd_i h
      refine g_callVv hC hZ (hA0 2 (by decide) (by decide)) kclX0 ly1_0 m_X0_passCycle q1241 (Nat.le_of_ble_eq_true rfl) [] rfl (fun l => c_X0_passCycle_p1_0 l (hA0 2 (by decide) (by decide)) hc3) rfl (Nat.le_of_ble_eq_true rfl) (rfl : 53 + 3 = 56) (xdt tt_X11_roomNeeded 27 rfl) ?_
      refine g_iload_n hC rfl 2 rfl (rfl : 56 + 1 = 57) (xdt tt_X11_roomNeeded 28 rfl) ?_
      refine g_aload_n hC rfl 0 rfl (rfl : 57 + 1 = 58) (xdt tt_X11_roomNeeded 29 rfl) ?_
      refine g_getP hC hk0 kclX11 ly3_0 7 (by decide) (rfl : r0 + 2 = (r0 + 2)) rfl q32 (rfl : 58 + 3 = 61) (xdt tt_X11_roomNeeded 30 rfl) ?_
      refine g_getI hC (hA0 2 (by decide) (by decide)) kclX0 ly1_0 14 (by decide) rfl q594 (rfl : 61 + 3 = 64) (xdt tt_X11_roomNeeded 31 rfl) ?_
      refine g_mmax hC hZ q1404 q315 q291 q316 (Nat.le_of_ble_eq_true rfl) (Nat.le_of_ble_eq_true rfl) (rfl : 64 + 3 = 67) (xdt tt_X11_roomNeeded 32 rfl) ?_
      refine g_istore_n hC rfl (by decide) (lv' := [(2, vi (iMax x2 (gI S4 (r0 + 2) 0 14))), (0, vr E r0 0), (1, vi x1), (3, vi x3)]) rfl (rfl : 67 + 1 = 68) (xdt tt_X11_roomNeeded 33 rfl) ?_
      refine g_iinc hC 3 rfl (by decide) (lv' := [(3, vi (x3 + 1)), (2, vi (iMax x2 (gI S4 (r0 + 2) 0 14))), (0, vr E r0 0), (1, vi x1)]) rfl (rfl : 68 + 3 = 71) (xdt tt_X11_roomNeeded 34 rfl) ?_
      refine g_goto hC (show ((71 : Nat) : Int) + (-27) = ((44 : Nat) : Int) by decide) (xdt tt_X11_roomNeeded 35 rfl) ?_
      refine g_sub [2, 3, 1, 0] (lv' := [(0, vr E r0 0), (1, vi x1), (2, vi (iMax x2 (gI S4 (r0 + 2) 0 14))), (3, vi (x3 + 1))]) rfl ?_
      exact ih _ _ _ _ h
set_option maxRecDepth 100000 in
set_option maxHeartbeats 4000000 in
theorem c_X11_roomNeeded_p3_0 (l : Launch) {E : xE} {S S' : xSt} {r0 : Nat} {a1 : Int} (hk0 : xkd E r0 = 3) (hA0 : xFam E r0) {v : Int} (h : f_X11_roomNeeded_p3_0 S r0 a1 = some (v, S')) : Met l yX11_roomNeeded (xws yX11_roomNeeded cX11_roomNeeded 4 (some .int)) (rmD 6) (YPc E [vr E r0 0, vi a1] S) (YQi E v S') 0 0 (xA E) := by
  unfold f_X11_roomNeeded_p3_0 at h
  refine met_i (by decide +kernel) (Nat.le_of_ble_eq_true rfl) (fun K hC hZ hE => ?_)
  have hC : xOK K cX11_roomNeeded RX11 4 (rmE 6 0) := hC
  show WG K E 0 [(0, vr E r0 0), (1, vi a1)] [] S
  refine g_iload_n hC rfl 1 rfl (rfl : 0 + 1 = 1) (xdt tt_X11_roomNeeded 0 rfl) ?_
  refine g_iconst hC (rfl : 1 + 1 = 2) (xdt tt_X11_roomNeeded 1 rfl) ?_
  refine g_icmp_lt hC (show ((2 : Nat) : Int) + 10 = ((12 : Nat) : Int) by decide) (rfl : 2 + 3 = 5) (xdt tt_X11_roomNeeded 2 rfl) (fun hc7 => ?_) (fun hc7 => ?_)
  · replace h := (if_pos hc7).symm.trans h
    cases h
  · replace h := (if_neg hc7).symm.trans h
    refine g_iload_n hC rfl 1 rfl (rfl : 5 + 1 = 6) (xdt tt_X11_roomNeeded 3 rfl) ?_
    refine g_sipush hC (by decide) (rfl : 6 + 3 = 9) (xdt tt_X11_roomNeeded 4 rfl) ?_
    refine g_icmp_le hC (show ((9 : Nat) : Int) + 14 = ((23 : Nat) : Int) by decide) (rfl : 9 + 3 = 12) (xdt tt_X11_roomNeeded 5 rfl) (fun hc6 => ?_) (fun hc6 => ?_)
    · replace h := (if_pos hc6).symm.trans h
      refine g_aload_n hC rfl 0 rfl (rfl : 23 + 1 = 24) (xdt tt_X11_roomNeeded 11 rfl) ?_
      refine g_getP hC hk0 kclX11 ly3_0 7 (by decide) (rfl : r0 + 2 = (r0 + 2)) rfl q32 (rfl : 24 + 3 = 27) (xdt tt_X11_roomNeeded 12 rfl) ?_
      refine g_aload_n hC rfl 0 rfl (rfl : 27 + 1 = 28) (xdt tt_X11_roomNeeded 13 rfl) ?_
      refine g_getP hC hk0 kclX11 ly3_0 6 (by decide) (rfl : r0 + 1 = (r0 + 1)) rfl q31 (rfl : 28 + 3 = 31) (xdt tt_X11_roomNeeded 14 rfl) ?_
      obtain ⟨S2, hc1, h⟩ := bd_i h
      refine g_callVv hC hZ (hA0 2 (by decide) (by decide)) kclX0 ly1_0 m_X0_copyFrom q1357 (Nat.le_of_ble_eq_true rfl) [vr E (r0 + 1) 0] rfl (fun l => c_X0_copyFrom_p1_0_1_0 l (hA0 2 (by decide) (by decide)) (hA0 1 (by decide) (by decide)) hc1) rfl (Nat.le_of_ble_eq_true rfl) (rfl : 31 + 3 = 34) (xdt tt_X11_roomNeeded 15 rfl) ?_
      refine g_aload_n hC rfl 0 rfl (rfl : 34 + 1 = 35) (xdt tt_X11_roomNeeded 16 rfl) ?_
      refine g_getP hC hk0 kclX11 ly3_0 7 (by decide) (rfl : r0 + 2 = (r0 + 2)) rfl q32 (rfl : 35 + 3 = 38) (xdt tt_X11_roomNeeded 17 rfl) ?_
      refine g_getI hC (hA0 2 (by decide) (by decide)) kclX0 ly1_0 14 (by decide) rfl q594 (rfl : 38 + 3 = 41) (xdt tt_X11_roomNeeded 18 rfl) ?_
      refine g_istore_n hC rfl (by decide) (lv' := [(2, vi (gI S2 (r0 + 2) 0 14)), (0, vr E r0 0), (1, vi a1)]) rfl (rfl : 41 + 1 = 42) (xdt tt_X11_roomNeeded 19 rfl) ?_
      refine g_iconst hC (rfl : 42 + 1 = 43) (xdt tt_X11_roomNeeded 20 rfl) ?_
      refine g_istore_n hC rfl (by decide) (lv' := [(3, vi 0), (2, vi (gI S2 (r0 + 2) 0 14)), (0, vr E r0 0), (1, vi a1)]) rfl (rfl : 43 + 1 = 44) (xdt tt_X11_roomNeeded 21 rfl) ?_
      refine g_sub [2, 3, 1, 0] (lv' := [(0, vr E r0 0), (1, vi a1), (2, vi (gI S2 (r0 + 2) 0 14)), (3, vi 0)]) rfl ?_
      exact k_X11_roomNeeded_p3_0_b44 hC hZ hE hk0 hA0 _ _ _ _ _ h
    · replace h := (if_neg hc6).symm.trans h
      cases h
def f_X11_bestValue_p3_0_b24 (r0 : Nat) : Nat → xSt → Int → Int → Int → Int → Int → Option (Int × xSt)
  | 0, _, _, _, _, _, _ => none
  | fuel + 1, S, x1, x2, x3, x4, x5 =>
    ckI x1 6 <|
    if wr (tbI 0 (wr x1).toNat) < wr x5 then
      (some (x3, S))
    else
      (bd (f_X0_copyFrom_p1_0_1_0 S (r0 + 2) (r0 + 1)) fun S4 =>
      ckI x1 6 <|
      lt1 (wI S4 (r0 + 2) 1 (wr x1).toNat x5) fun S6 =>
      bd2 (f_X0_decodeFor_p1_0 S6 (r0 + 2) x2) fun v9 S8 =>
      if wr v9 ≤ wr x4 then
        ((f_X11_bestValue_p3_0_b24 r0 fuel) S8 x1 x2 x3 x4 (x5 + 1))
      else
        ((f_X11_bestValue_p3_0_b24 r0 fuel) S8 x1 x2 x5 v9 (x5 + 1)))
def f_X11_bestValue_p3_0 (S : xSt) (r0 : Nat) (a1 : Int) (a2 : Int) : Option (Int × xSt) :=
  if wr a1 < 0 then
    (some ((-1), S))
  else
    (if wr a1 < wr 6 then
      (ckI a1 6 <|
      f_X11_bestValue_p3_0_b24 r0 (fu S) S a1 a2 (-1) (-1) (tbI 2 (wr a1).toNat))
    else
      (some ((-1), S)))
set_option maxRecDepth 100000 in
set_option maxHeartbeats 4000000 in
theorem k_X11_bestValue_p3_0_b24 {K : xCtx} {E : xE} {b : Nat} (hC : xOK K cX11_bestValue RX11 7 (rmE 7 b)) (hZ : xZ K) {v : Int} {S' : xSt} (hE : xEnd K E (some .int) (YQi E v S')) {r0 : Nat} (hk0 : xkd E r0 = 3) (hA0 : xFam E r0) : ∀ (fuel : Nat) (S : xSt) (x1 : Int) (x2 : Int) (x3 : Int) (x4 : Int) (x5 : Int), f_X11_bestValue_p3_0_b24 r0 fuel S x1 x2 x3 x4 x5 = some (v, S') → WG K E 24 [(0, vr E r0 0), (1, vi x1), (2, vi x2), (3, vi x3), (4, vi x4), (5, vi x5)] [] S := by
  intro fuel
  induction fuel with
  | zero => intro S x1 x2 x3 x4 x5 h; cases h
  | succ fuel ih =>
    intro S x1 x2 x3 x4 x5 h
    rw [f_X11_bestValue_p3_0_b24] at h
    refine g_iload hC 5 rfl (rfl : 24 + 2 = 26) (xdt tt_X11_bestValue 15 rfl) ?_
    refine g_gets hC 0 rfl q446 (rfl : 26 + 3 = 29) (xdt tt_X11_bestValue 16 rfl) ?_
    refine g_iload_n hC rfl 1 rfl (rfl : 29 + 1 = 30) (xdt tt_X11_bestValue 17 rfl) ?_
    obtain ⟨hi2, h⟩ := ckI_i h
    refine g_tald hC (q := 0) rfl rfl hi2 (rfl : 30 + 1 = 31) (xdt tt_X11_bestValue 18 rfl) (k0 := (wr x1).toNat) rfl ?_
    refine g_icmp_gt hC (show ((31 : Nat) : Int) + 55 = ((86 : Nat) : Int) by decide) (rfl : 31 + 3 = 34) (xdt tt_X11_bestValue 19 rfl) (fun hc11 => ?_) (fun hc11 => ?_)
    · replace h := (if_pos hc11).symm.trans h
      refine g_iload_n hC rfl 3 rfl (rfl : 86 + 1 = 87) (xdt tt_X11_bestValue 45 rfl) ?_
      cases h
      exact g_iret hC hE (xdt tt_X11_bestValue 46 rfl)
    · replace h := (if_neg hc11).symm.trans h
      refine g_aload_n hC rfl 0 rfl (rfl : 34 + 1 = 35) (xdt tt_X11_bestValue 20 rfl) ?_
      refine g_getP hC hk0 kclX11 ly3_0 7 (by decide) (rfl : r0 + 2 = (r0 + 2)) rfl q32 (rfl : 35 + 3 = 38) (xdt tt_X11_bestValue 21 rfl) ?_
      refine g_aload_n hC rfl 0 rfl (rfl : 38 + 1 = 39) (xdt tt_X11_bestValue 22 rfl) ?_
      refine g_getP hC hk0 kclX11 ly3_0 6 (by decide) (rfl : r0 + 1 = (r0 + 1)) rfl q31 (rfl : 39 + 3 = 42) (xdt tt_X11_bestValue 23 rfl) ?_
      obtain ⟨S4, hc3, h⟩ := bd_i h
      refine g_callVv hC hZ (hA0 2 (by decide) (by decide)) kclX0 ly1_0 m_X0_copyFrom q1357 (Nat.le_of_ble_eq_true rfl) [vr E (r0 + 1) 0] rfl (fun l => c_X0_copyFrom_p1_0_1_0 l (hA0 2 (by decide) (by decide)) (hA0 1 (by decide) (by decide)) hc3) rfl (Nat.le_of_ble_eq_true rfl) (rfl : 42 + 3 = 45) (xdt tt_X11_bestValue 24 rfl) ?_
      refine g_aload_n hC rfl 0 rfl (rfl : 45 + 1 = 46) (xdt tt_X11_bestValue 25 rfl) ?_
      refine g_getP hC hk0 kclX11 ly3_0 7 (by decide) (rfl : r0 + 2 = (r0 + 2)) rfl q32 (rfl : 46 + 3 = 49) (xdt tt_X11_bestValue 26 rfl) ?_
      refine g_getP hC (hA0 2 (by decide) (by decide)) kclX0 ly1_0 1 (by decide) (rfl : (r0 + 2) + 0 = (r0 + 2)) rfl q589 (rfl : 49 + 3 = 52) (xdt tt_X11_bestValue 27 rfl) ?_
      refine g_iload_n hC rfl 1 rfl (rfl : 52 + 1 = 53) (xdt tt_X11_bestValue 28 rfl) ?_
      refine g_iload hC 5 rfl (rfl : 53 + 2 = 55) (xdt tt_X11_bestValue 29 rfl) ?_
      obtain ⟨hi5, h⟩ := ckI_i h
      obtain ⟨S6, hS6, h⟩ := lt1_i h
      refine g_iast hC (hA0 2 (by decide) (by decide)) ly1_1 hi5 rfl hS6 (rfl : 55 + 1 = 56) (xdt tt_X11_bestValue 30 rfl) ?_
      refine g_aload_n hC rfl 0 rfl (rfl : 56 + 1 = 57) (xdt tt_X11_bestValue 31 rfl) ?_
      refine g_getP hC hk0 kclX11 ly3_0 7 (by decide) (rfl : r0 + 2 = (r0 + 2)) rfl q32 (rfl : 57 + 3 = 60) (xdt tt_X11_bestValue 32 rfl) ?_
      refine g_iload_n hC rfl 2 rfl (rfl : 60 + 1 = 61) (xdt tt_X11_bestValue 33 rfl) ?_
      obtain ⟨v9, S8, hc7, h⟩ := bd2_i h
      refine g_callVi hC hZ (hA0 2 (by decide) (by decide)) kclX0 ly1_0 m_X0_decodeFor q1025 (Nat.le_of_ble_eq_true rfl) [vi x2] rfl (fun l => c_X0_decodeFor_p1_0 l (hA0 2 (by decide) (by decide)) hc7) rfl (Nat.le_of_ble_eq_true rfl) (rfl : 61 + 3 = 64) (xdt tt_X11_bestValue 34 rfl) ?_
      refine g_istore hC (by decide) (lv' := [(6, vi v9), (0, vr E r0 0), (1, vi x1), (2, vi x2), (3, vi x3), (4, vi x4), (5, vi x5)]) rfl (rfl : 64 + 2 = 66) (xdt tt_X11_bestValue 35 rfl) ?_
      refine g_iload hC 0 rfl (rfl : 66 + 2 = 68) (xdt tt_X11_bestValue 36 rfl) ?_
      refine g_iload hC 5 rfl (rfl : 68 + 2 = 70) (xdt tt_X11_bestValue 37 rfl) ?_
      refine g_icmp_le hC (show ((70 : Nat) : Int) + 10 = ((80 : Nat) : Int) by decide) (rfl : 70 + 3 = 73) (xdt tt_X11_bestValue 38 rfl) (fun hc10 => ?_) (fun hc10 => ?_)
      · replace h := (if_pos hc10).symm.trans h
        refine g_iinc hC 6 rfl (by decide) (lv' := [(5, vi (x5 + 1)), (6, vi v9), (0, vr E r0 0), (1, vi x1), (2, vi x2), (3, vi x3), (4, vi x4)]) rfl (rfl : 80 + 3 = 83) (xdt tt_X11_bestValue 43 rfl) ?_
        refine g_goto hC (show ((83 : Nat) : Int) + (-59) = ((24 : Nat) : Int) by decide) (xdt tt_X11_bestValue 44 rfl) ?_
        refine g_sub [2, 3, 4, 5, 6, 0] (lv' := [(0, vr E r0 0), (1, vi x1), (2, vi x2), (3, vi x3), (4, vi x4), (5, vi (x5 + 1))]) rfl ?_
        exact ih _ _ _ _ _ _ h
      · replace h := (if_neg hc10).symm.trans h
        refine g_iload hC 0 rfl (rfl : 73 + 2 = 75) (xdt tt_X11_bestValue 39 rfl) ?_
        refine g_istore hC (by decide) (lv' := [(4, vi v9), (6, vi v9), (0, vr E r0 0), (1, vi x1), (2, vi x2), (3, vi x3), (5, vi x5)]) rfl (rfl : 75 + 2 = 77) (xdt tt_X11_bestValue 40 rfl) ?_
        refine g_iload hC 6 rfl (rfl : 77 + 2 = 79) (xdt tt_X11_bestValue 41 rfl) ?_
        refine g_istore_n hC rfl (by decide) (lv' := [(3, vi x5), (4, vi v9), (6, vi v9), (0, vr E r0 0), (1, vi x1), (2, vi x2), (5, vi x5)]) rfl (rfl : 79 + 1 = 80) (xdt tt_X11_bestValue 42 rfl) ?_
        refine g_iinc hC 6 rfl (by decide) (lv' := [(5, vi (x5 + 1)), (3, vi x5), (4, vi v9), (6, vi v9), (0, vr E r0 0), (1, vi x1), (2, vi x2)]) rfl (rfl : 80 + 3 = 83) (xdt tt_X11_bestValue 43 rfl) ?_
        refine g_goto hC (show ((83 : Nat) : Int) + (-59) = ((24 : Nat) : Int) by decide) (xdt tt_X11_bestValue 44 rfl) ?_
        refine g_sub [4, 5, 6, 1, 2, 0] (lv' := [(0, vr E r0 0), (1, vi x1), (2, vi x2), (3, vi x5), (4, vi v9), (5, vi (x5 + 1))]) rfl ?_
        exact ih _ _ _ _ _ _ h
set_option maxRecDepth 100000 in
set_option maxHeartbeats 4000000 in
theorem c_X11_bestValue_p3_0 (l : Launch) {E : xE} {S S' : xSt} {r0 : Nat} {a1 : Int} {a2 : Int} (hk0 : xkd E r0 = 3) (hA0 : xFam E r0) {v : Int} (h : f_X11_bestValue_p3_0 S r0 a1 a2 = some (v, S')) : Met l yX11_bestValue (xws yX11_bestValue cX11_bestValue 7 (some .int)) (rmD 7) (YPc E [vr E r0 0, vi a1, vi a2] S) (YQi E v S') 0 0 (xA E) := by
  unfold f_X11_bestValue_p3_0 at h
  refine met_i (by decide +kernel) (Nat.le_of_ble_eq_true rfl) (fun K hC hZ hE => ?_)
  have hC : xOK K cX11_bestValue RX11 7 (rmE 7 0) := hC
  show WG K E 0 [(0, vr E r0 0), (1, vi a1), (2, vi a2)] [] S
  refine g_iload_n hC rfl 1 rfl (rfl : 0 + 1 = 1) (xdt tt_X11_bestValue 0 rfl) ?_
  refine g_if_lt hC (show ((1 : Nat) : Int) + 9 = ((10 : Nat) : Int) by decide) (rfl : 1 + 3 = 4) (xdt tt_X11_bestValue 1 rfl) (fun hc13 => ?_) (fun hc13 => ?_)
  · replace h := (if_pos hc13).symm.trans h
    refine g_iconst hC (rfl : 10 + 1 = 11) (xdt tt_X11_bestValue 5 rfl) ?_
    cases h
    exact g_iret hC hE (xdt tt_X11_bestValue 6 rfl)
  · replace h := (if_neg hc13).symm.trans h
    refine g_iload_n hC rfl 1 rfl (rfl : 4 + 1 = 5) (xdt tt_X11_bestValue 2 rfl) ?_
    refine g_bipush hC (by decide) (rfl : 5 + 2 = 7) (xdt tt_X11_bestValue 3 rfl) ?_
    refine g_icmp_lt hC (show ((7 : Nat) : Int) + 5 = ((12 : Nat) : Int) by decide) (rfl : 7 + 3 = 10) (xdt tt_X11_bestValue 4 rfl) (fun hc12 => ?_) (fun hc12 => ?_)
    · replace h := (if_pos hc12).symm.trans h
      refine g_iconst hC (rfl : 12 + 1 = 13) (xdt tt_X11_bestValue 7 rfl) ?_
      refine g_istore_n hC rfl (by decide) (lv' := [(3, vi (-1)), (0, vr E r0 0), (1, vi a1), (2, vi a2)]) rfl (rfl : 13 + 1 = 14) (xdt tt_X11_bestValue 8 rfl) ?_
      refine g_iconst hC (rfl : 14 + 1 = 15) (xdt tt_X11_bestValue 9 rfl) ?_
      refine g_istore hC (by decide) (lv' := [(4, vi (-1)), (3, vi (-1)), (0, vr E r0 0), (1, vi a1), (2, vi a2)]) rfl (rfl : 15 + 2 = 17) (xdt tt_X11_bestValue 10 rfl) ?_
      refine g_gets hC 2 rfl q445 (rfl : 17 + 3 = 20) (xdt tt_X11_bestValue 11 rfl) ?_
      refine g_iload_n hC rfl 3 rfl (rfl : 20 + 1 = 21) (xdt tt_X11_bestValue 12 rfl) ?_
      obtain ⟨hi1, h⟩ := ckI_i h
      refine g_tald hC (q := 2) rfl rfl hi1 (rfl : 21 + 1 = 22) (xdt tt_X11_bestValue 13 rfl) (k0 := (wr a1).toNat) rfl ?_
      refine g_istore hC (by decide) (lv' := [(5, vi (tbI 2 (wr a1).toNat)), (4, vi (-1)), (3, vi (-1)), (0, vr E r0 0), (1, vi a1), (2, vi a2)]) rfl (rfl : 22 + 2 = 24) (xdt tt_X11_bestValue 14 rfl) ?_
      refine g_sub [3, 4, 5, 2, 1, 0] (lv' := [(0, vr E r0 0), (1, vi a1), (2, vi a2), (3, vi (-1)), (4, vi (-1)), (5, vi (tbI 2 (wr a1).toNat))]) rfl ?_
      exact k_X11_bestValue_p3_0_b24 hC hZ hE hk0 hA0 _ _ _ _ _ _ _ h
    · replace h := (if_neg hc12).symm.trans h
      refine g_iconst hC (rfl : 10 + 1 = 11) (xdt tt_X11_bestValue 5 rfl) ?_
      cases h
      exact g_iret hC hE (xdt tt_X11_bestValue 6 rfl)
def f_X11_bestLanes_p3_0 (S : xSt) (r0 : Nat) (a1 : Int) : Option (Int × xSt) :=
  if wr a1 < wr 1 then
    (none)
  else
    (if wr a1 ≤ wr 500 then
      (bd2 (f_X11_bestValue_p3_0 S r0 0 a1) fun v3 S2 =>
      some (v3, S2))
    else
      (none))
set_option maxRecDepth 100000 in
set_option maxHeartbeats 4000000 in
theorem c_X11_bestLanes_p3_0 (l : Launch) {E : xE} {S S' : xSt} {r0 : Nat} {a1 : Int} (hk0 : xkd E r0 = 3) (hA0 : xFam E r0) {v : Int} (h : f_X11_bestLanes_p3_0 S r0 a1 = some (v, S')) : Met l yX11_bestLanes (xws yX11_bestLanes cX11_bestLanes 2 (some .int)) (rmD 8) (YPc E [vr E r0 0, vi a1] S) (YQi E v S') 0 0 (xA E) := by
  unfold f_X11_bestLanes_p3_0 at h
  refine met_i (by decide +kernel) (Nat.le_of_ble_eq_true rfl) (fun K hC hZ hE => ?_)
  have hC : xOK K cX11_bestLanes RX11 2 (rmE 8 0) := hC
  show WG K E 0 [(0, vr E r0 0), (1, vi a1)] [] S
  refine g_iload_n hC rfl 1 rfl (rfl : 0 + 1 = 1) (xdt tt_X11_bestLanes 0 rfl) ?_
  refine g_iconst hC (rfl : 1 + 1 = 2) (xdt tt_X11_bestLanes 1 rfl) ?_
  refine g_icmp_lt hC (show ((2 : Nat) : Int) + 10 = ((12 : Nat) : Int) by decide) (rfl : 2 + 3 = 5) (xdt tt_X11_bestLanes 2 rfl) (fun hc5 => ?_) (fun hc5 => ?_)
  · replace h := (if_pos hc5).symm.trans h
    cases h
  · replace h := (if_neg hc5).symm.trans h
    refine g_iload_n hC rfl 1 rfl (rfl : 5 + 1 = 6) (xdt tt_X11_bestLanes 3 rfl) ?_
    refine g_sipush hC (by decide) (rfl : 6 + 3 = 9) (xdt tt_X11_bestLanes 4 rfl) ?_
    refine g_icmp_le hC (show ((9 : Nat) : Int) + 14 = ((23 : Nat) : Int) by decide) (rfl : 9 + 3 = 12) (xdt tt_X11_bestLanes 5 rfl) (fun hc4 => ?_) (fun hc4 => ?_)
    · replace h := (if_pos hc4).symm.trans h
      refine g_aload_n hC rfl 0 rfl (rfl : 23 + 1 = 24) (xdt tt_X11_bestLanes 11 rfl) ?_
      refine g_iconst hC (rfl : 24 + 1 = 25) (xdt tt_X11_bestLanes 12 rfl) ?_
      refine g_iload_n hC rfl 1 rfl (rfl : 25 + 1 = 26) (xdt tt_X11_bestLanes 13 rfl) ?_
      obtain ⟨v3, S2, hc1, h⟩ := bd2_i h
      refine g_callVi hC hZ hk0 kclX11 ly3_0 m_X11_bestValue q1416 (Nat.le_of_ble_eq_true rfl) [vi 0, vi a1] rfl (fun l => c_X11_bestValue_p3_0 l hk0 hA0 hc1) rfl (Nat.le_of_ble_eq_true rfl) (rfl : 26 + 3 = 29) (xdt tt_X11_bestLanes 14 rfl) ?_
      cases h
      exact g_iret hC hE (xdt tt_X11_bestLanes 15 rfl)
    · replace h := (if_neg hc4).symm.trans h
      cases h
def f_X11_bestRate_p3_0 (S : xSt) (r0 : Nat) (a1 : Int) : Option (Int × xSt) :=
  if wr a1 < wr 1 then
    (none)
  else
    (if wr a1 ≤ wr 500 then
      (bd2 (f_X11_bestValue_p3_0 S r0 4 a1) fun v3 S2 =>
      some (v3, S2))
    else
      (none))
set_option maxRecDepth 100000 in
set_option maxHeartbeats 4000000 in
theorem c_X11_bestRate_p3_0 (l : Launch) {E : xE} {S S' : xSt} {r0 : Nat} {a1 : Int} (hk0 : xkd E r0 = 3) (hA0 : xFam E r0) {v : Int} (h : f_X11_bestRate_p3_0 S r0 a1 = some (v, S')) : Met l yX11_bestRate (xws yX11_bestRate cX11_bestRate 2 (some .int)) (rmD 8) (YPc E [vr E r0 0, vi a1] S) (YQi E v S') 0 0 (xA E) := by
  unfold f_X11_bestRate_p3_0 at h
  refine met_i (by decide +kernel) (Nat.le_of_ble_eq_true rfl) (fun K hC hZ hE => ?_)
  have hC : xOK K cX11_bestRate RX11 2 (rmE 8 0) := hC
  show WG K E 0 [(0, vr E r0 0), (1, vi a1)] [] S
  refine g_iload_n hC rfl 1 rfl (rfl : 0 + 1 = 1) (xdt tt_X11_bestRate 0 rfl) ?_
  refine g_iconst hC (rfl : 1 + 1 = 2) (xdt tt_X11_bestRate 1 rfl) ?_
  refine g_icmp_lt hC (show ((2 : Nat) : Int) + 10 = ((12 : Nat) : Int) by decide) (rfl : 2 + 3 = 5) (xdt tt_X11_bestRate 2 rfl) (fun hc5 => ?_) (fun hc5 => ?_)
  · replace h := (if_pos hc5).symm.trans h
    cases h
  · replace h := (if_neg hc5).symm.trans h
    refine g_iload_n hC rfl 1 rfl (rfl : 5 + 1 = 6) (xdt tt_X11_bestRate 3 rfl) ?_
    refine g_sipush hC (by decide) (rfl : 6 + 3 = 9) (xdt tt_X11_bestRate 4 rfl) ?_
    refine g_icmp_le hC (show ((9 : Nat) : Int) + 14 = ((23 : Nat) : Int) by decide) (rfl : 9 + 3 = 12) (xdt tt_X11_bestRate 5 rfl) (fun hc4 => ?_) (fun hc4 => ?_)
    · replace h := (if_pos hc4).symm.trans h
      refine g_aload_n hC rfl 0 rfl (rfl : 23 + 1 = 24) (xdt tt_X11_bestRate 11 rfl) ?_
      refine g_iconst hC (rfl : 24 + 1 = 25) (xdt tt_X11_bestRate 12 rfl) ?_
      refine g_iload_n hC rfl 1 rfl (rfl : 25 + 1 = 26) (xdt tt_X11_bestRate 13 rfl) ?_
      obtain ⟨v3, S2, hc1, h⟩ := bd2_i h
      refine g_callVi hC hZ hk0 kclX11 ly3_0 m_X11_bestValue q1416 (Nat.le_of_ble_eq_true rfl) [vi 4, vi a1] rfl (fun l => c_X11_bestValue_p3_0 l hk0 hA0 hc1) rfl (Nat.le_of_ble_eq_true rfl) (rfl : 26 + 3 = 29) (xdt tt_X11_bestRate 14 rfl) ?_
      cases h
      exact g_iret hC hE (xdt tt_X11_bestRate 15 rfl)
    · replace h := (if_neg hc4).symm.trans h
      cases h
def f_X11_bestLoop_p3_0 (S : xSt) (r0 : Nat) (a1 : Int) : Option (Int × xSt) :=
  if wr a1 < wr 1 then
    (none)
  else
    (if wr a1 ≤ wr 500 then
      (bd2 (f_X11_bestValue_p3_0 S r0 5 a1) fun v3 S2 =>
      some (v3, S2))
    else
      (none))
set_option maxRecDepth 100000 in
set_option maxHeartbeats 4000000 in
theorem c_X11_bestLoop_p3_0 (l : Launch) {E : xE} {S S' : xSt} {r0 : Nat} {a1 : Int} (hk0 : xkd E r0 = 3) (hA0 : xFam E r0) {v : Int} (h : f_X11_bestLoop_p3_0 S r0 a1 = some (v, S')) : Met l yX11_bestLoop (xws yX11_bestLoop cX11_bestLoop 2 (some .int)) (rmD 8) (YPc E [vr E r0 0, vi a1] S) (YQi E v S') 0 0 (xA E) := by
  unfold f_X11_bestLoop_p3_0 at h
  refine met_i (by decide +kernel) (Nat.le_of_ble_eq_true rfl) (fun K hC hZ hE => ?_)
  have hC : xOK K cX11_bestLoop RX11 2 (rmE 8 0) := hC
  show WG K E 0 [(0, vr E r0 0), (1, vi a1)] [] S
  refine g_iload_n hC rfl 1 rfl (rfl : 0 + 1 = 1) (xdt tt_X11_bestLoop 0 rfl) ?_
  refine g_iconst hC (rfl : 1 + 1 = 2) (xdt tt_X11_bestLoop 1 rfl) ?_
  refine g_icmp_lt hC (show ((2 : Nat) : Int) + 10 = ((12 : Nat) : Int) by decide) (rfl : 2 + 3 = 5) (xdt tt_X11_bestLoop 2 rfl) (fun hc5 => ?_) (fun hc5 => ?_)
  · replace h := (if_pos hc5).symm.trans h
    cases h
  · replace h := (if_neg hc5).symm.trans h
    refine g_iload_n hC rfl 1 rfl (rfl : 5 + 1 = 6) (xdt tt_X11_bestLoop 3 rfl) ?_
    refine g_sipush hC (by decide) (rfl : 6 + 3 = 9) (xdt tt_X11_bestLoop 4 rfl) ?_
    refine g_icmp_le hC (show ((9 : Nat) : Int) + 14 = ((23 : Nat) : Int) by decide) (rfl : 9 + 3 = 12) (xdt tt_X11_bestLoop 5 rfl) (fun hc4 => ?_) (fun hc4 => ?_)
    · replace h := (if_pos hc4).symm.trans h
      refine g_aload_n hC rfl 0 rfl (rfl : 23 + 1 = 24) (xdt tt_X11_bestLoop 11 rfl) ?_
      refine g_iconst hC (rfl : 24 + 1 = 25) (xdt tt_X11_bestLoop 12 rfl) ?_
      refine g_iload_n hC rfl 1 rfl (rfl : 25 + 1 = 26) (xdt tt_X11_bestLoop 13 rfl) ?_
      obtain ⟨v3, S2, hc1, h⟩ := bd2_i h
      refine g_callVi hC hZ hk0 kclX11 ly3_0 m_X11_bestValue q1416 (Nat.le_of_ble_eq_true rfl) [vi 5, vi a1] rfl (fun l => c_X11_bestValue_p3_0 l hk0 hA0 hc1) rfl (Nat.le_of_ble_eq_true rfl) (rfl : 26 + 3 = 29) (xdt tt_X11_bestLoop 14 rfl) ?_
      cases h
      exact g_iret hC hE (xdt tt_X11_bestLoop 15 rfl)
    · replace h := (if_neg hc4).symm.trans h
      cases h
def f_X11_cyclesUntil_p3_0_b51 (r0 : Nat) : Nat → xSt → Int → Int → Int → Option (Int × xSt)
  | 0, _, _, _, _ => none
  | fuel + 1, S, x1, x2, x3 =>
    if wr 500 < wr x3 then
      (some ((-1), S))
    else
      (bd (f_X0_passCycle_p1_0 S (r0 + 2)) fun S6 =>
      ckI x1 60 <|
      if wr (gI S6 (r0 + 2) 17 (wr x1).toNat) ≤ wr x2 then
        ((f_X11_cyclesUntil_p3_0_b51 r0 fuel) S6 x1 x2 (x3 + 1))
      else
        (some (x3, S6)))
def f_X11_cyclesUntil_p3_0 (S : xSt) (r0 : Nat) (a1 : Int) : Option (Int × xSt) :=
  if wr a1 < 0 then
    (none)
  else
    (ckP S r0 0 4 2 0 fun rg1 =>
    if wr a1 < wr (gI S rg1 0 10) then
      (bd (f_X0_copyFrom_p1_0_1_0 S (r0 + 2) (r0 + 1)) fun S3 =>
      ckI a1 60 <|
      f_X11_cyclesUntil_p3_0_b51 r0 (fu S3) S3 a1 (gI S3 (r0 + 1) 17 (wr a1).toNat) 1)
    else
      (none))
set_option maxRecDepth 100000 in
set_option maxHeartbeats 4000000 in
theorem k_X11_cyclesUntil_p3_0_b51 {K : xCtx} {E : xE} {b : Nat} (hC : xOK K cX11_cyclesUntil RX11 4 (rmE 6 b)) (hZ : xZ K) {v : Int} {S' : xSt} (hE : xEnd K E (some .int) (YQi E v S')) {r0 : Nat} (hk0 : xkd E r0 = 3) (hA0 : xFam E r0) : ∀ (fuel : Nat) (S : xSt) (x1 : Int) (x2 : Int) (x3 : Int), f_X11_cyclesUntil_p3_0_b51 r0 fuel S x1 x2 x3 = some (v, S') → WG K E 51 [(0, vr E r0 0), (1, vi x1), (2, vi x2), (3, vi x3)] [] S := by
  intro fuel
  induction fuel with
  | zero => intro S x1 x2 x3 h; cases h
  | succ fuel ih =>
    intro S x1 x2 x3 h
    rw [f_X11_cyclesUntil_p3_0_b51] at h
    refine g_iload_n hC rfl 3 rfl (rfl : 51 + 1 = 52) (xdt tt_X11_cyclesUntil 26 rfl) ?_
    refine g_sipush hC (by decide) (rfl : 52 + 3 = 55) (xdt tt_X11_cyclesUntil 27 rfl) ?_
    refine g_icmp_gt hC (show ((55 : Nat) : Int) + 34 = ((89 : Nat) : Int) by decide) (rfl : 55 + 3 = 58) (xdt tt_X11_cyclesUntil 28 rfl) (fun hc9 => ?_) (fun hc9 => ?_)
    · replace h := (if_pos hc9).symm.trans h
      refine g_iconst hC (rfl : 89 + 1 = 90) (xdt tt_X11_cyclesUntil 44 rfl) ?_
      cases h
      exact g_iret hC hE (xdt tt_X11_cyclesUntil 45 rfl)
    · replace h := (if_neg hc9).symm.trans h
      refine g_aload_n hC rfl 0 rfl (rfl : 58 + 1 = 59) (xdt tt_X11_cyclesUntil 29 rfl) ?_
      refine g_getP hC hk0 kclX11 ly3_0 7 (by decide) (rfl : r0 + 2 = (r0 + 2)) rfl q32 (rfl : 59 + 3 = 62) (xdt tt_X11_cyclesUntil 30 rfl) ?_
      obtain ⟨S6, hc5, h⟩ := bd_i h
      refine g_callVv hC hZ (hA0 2 (by decide) (by decide)) kclX0 ly1_0 m_X0_passCycle q1241 (Nat.le_of_ble_eq_true rfl) [] rfl (fun l => c_X0_passCycle_p1_0 l (hA0 2 (by decide) (by decide)) hc5) rfl (Nat.le_of_ble_eq_true rfl) (rfl : 62 + 3 = 65) (xdt tt_X11_cyclesUntil 31 rfl) ?_
      refine g_aload_n hC rfl 0 rfl (rfl : 65 + 1 = 66) (xdt tt_X11_cyclesUntil 32 rfl) ?_
      refine g_getP hC hk0 kclX11 ly3_0 7 (by decide) (rfl : r0 + 2 = (r0 + 2)) rfl q32 (rfl : 66 + 3 = 69) (xdt tt_X11_cyclesUntil 33 rfl) ?_
      refine g_getP hC (hA0 2 (by decide) (by decide)) kclX0 ly1_0 7 (by decide) (rfl : (r0 + 2) + 0 = (r0 + 2)) rfl q590 (rfl : 69 + 3 = 72) (xdt tt_X11_cyclesUntil 34 rfl) ?_
      refine g_getP hC (hA0 2 (by decide) (by decide)) kclX9 ly1_14 2 (by decide) (rfl : (r0 + 2) + 0 = (r0 + 2)) rfl q789 (rfl : 72 + 3 = 75) (xdt tt_X11_cyclesUntil 35 rfl) ?_
      refine g_iload_n hC rfl 1 rfl (rfl : 75 + 1 = 76) (xdt tt_X11_cyclesUntil 36 rfl) ?_
      obtain ⟨hi7, h⟩ := ckI_i h
      refine g_iald hC (hA0 2 (by decide) (by decide)) ly1_17 hi7 (rfl : 76 + 1 = 77) (xdt tt_X11_cyclesUntil 37 rfl) (k0 := (wr x1).toNat) rfl ?_
      refine g_iload_n hC rfl 2 rfl (rfl : 77 + 1 = 78) (xdt tt_X11_cyclesUntil 38 rfl) ?_
      refine g_icmp_le hC (show ((78 : Nat) : Int) + 5 = ((83 : Nat) : Int) by decide) (rfl : 78 + 3 = 81) (xdt tt_X11_cyclesUntil 39 rfl) (fun hc8 => ?_) (fun hc8 => ?_)
      · replace h := (if_pos hc8).symm.trans h
        refine g_iinc hC 3 rfl (by decide) (lv' := [(3, vi (x3 + 1)), (0, vr E r0 0), (1, vi x1), (2, vi x2)]) rfl (rfl : 83 + 3 = 86) (xdt tt_X11_cyclesUntil 42 rfl) ?_
        refine g_goto hC (show ((86 : Nat) : Int) + (-35) = ((51 : Nat) : Int) by decide) (xdt tt_X11_cyclesUntil 43 rfl) ?_
        refine g_sub [1, 2, 3, 0] (lv' := [(0, vr E r0 0), (1, vi x1), (2, vi x2), (3, vi (x3 + 1))]) rfl ?_
        exact ih _ _ _ _ h
      · replace h := (if_neg hc8).symm.trans h
        refine g_iload_n hC rfl 3 rfl (rfl : 81 + 1 = 82) (xdt tt_X11_cyclesUntil 40 rfl) ?_
        cases h
        exact g_iret hC hE (xdt tt_X11_cyclesUntil 41 rfl)
set_option maxRecDepth 100000 in
set_option maxHeartbeats 4000000 in
theorem c_X11_cyclesUntil_p3_0 (l : Launch) {E : xE} {S S' : xSt} {r0 : Nat} {a1 : Int} (hk0 : xkd E r0 = 3) (hA0 : xFam E r0) {v : Int} (h : f_X11_cyclesUntil_p3_0 S r0 a1 = some (v, S')) : Met l yX11_cyclesUntil (xws yX11_cyclesUntil cX11_cyclesUntil 4 (some .int)) (rmD 6) (YPc E [vr E r0 0, vi a1] S) (YQi E v S') 0 0 (xA E) := by
  unfold f_X11_cyclesUntil_p3_0 at h
  refine met_i (by decide +kernel) (Nat.le_of_ble_eq_true rfl) (fun K hC hZ hE => ?_)
  have hC : xOK K cX11_cyclesUntil RX11 4 (rmE 6 0) := hC
  show WG K E 0 [(0, vr E r0 0), (1, vi a1)] [] S
  refine g_iload_n hC rfl 1 rfl (rfl : 0 + 1 = 1) (xdt tt_X11_cyclesUntil 0 rfl) ?_
  refine g_if_lt hC (show ((1 : Nat) : Int) + 14 = ((15 : Nat) : Int) by decide) (rfl : 1 + 3 = 4) (xdt tt_X11_cyclesUntil 1 rfl) (fun hc11 => ?_) (fun hc11 => ?_)
  · replace h := (if_pos hc11).symm.trans h
    cases h
  · replace h := (if_neg hc11).symm.trans h
    refine g_iload_n hC rfl 1 rfl (rfl : 4 + 1 = 5) (xdt tt_X11_cyclesUntil 2 rfl) ?_
    refine g_aload_n hC rfl 0 rfl (rfl : 5 + 1 = 6) (xdt tt_X11_cyclesUntil 3 rfl) ?_
    obtain ⟨rg1, hrg1, grg1, h⟩ := ckP_i h
    refine g_getV hC hk0 kclX11 ly3_0 4 (by decide) rfl hrg1 grg1 q26 (rfl : 6 + 3 = 9) (xdt tt_X11_cyclesUntil 4 rfl) (fun krg1 => ?_)
    refine g_getI hC krg1 kclX5 ly2_0 10 (by decide) rfl q277 (rfl : 9 + 3 = 12) (xdt tt_X11_cyclesUntil 5 rfl) ?_
    refine g_icmp_lt hC (show ((12 : Nat) : Int) + 13 = ((25 : Nat) : Int) by decide) (rfl : 12 + 3 = 15) (xdt tt_X11_cyclesUntil 6 rfl) (fun hc10 => ?_) (fun hc10 => ?_)
    · replace h := (if_pos hc10).symm.trans h
      refine g_aload_n hC rfl 0 rfl (rfl : 25 + 1 = 26) (xdt tt_X11_cyclesUntil 12 rfl) ?_
      refine g_getP hC hk0 kclX11 ly3_0 7 (by decide) (rfl : r0 + 2 = (r0 + 2)) rfl q32 (rfl : 26 + 3 = 29) (xdt tt_X11_cyclesUntil 13 rfl) ?_
      refine g_aload_n hC rfl 0 rfl (rfl : 29 + 1 = 30) (xdt tt_X11_cyclesUntil 14 rfl) ?_
      refine g_getP hC hk0 kclX11 ly3_0 6 (by decide) (rfl : r0 + 1 = (r0 + 1)) rfl q31 (rfl : 30 + 3 = 33) (xdt tt_X11_cyclesUntil 15 rfl) ?_
      obtain ⟨S3, hc2, h⟩ := bd_i h
      refine g_callVv hC hZ (hA0 2 (by decide) (by decide)) kclX0 ly1_0 m_X0_copyFrom q1357 (Nat.le_of_ble_eq_true rfl) [vr E (r0 + 1) 0] rfl (fun l => c_X0_copyFrom_p1_0_1_0 l (hA0 2 (by decide) (by decide)) (hA0 1 (by decide) (by decide)) hc2) rfl (Nat.le_of_ble_eq_true rfl) (rfl : 33 + 3 = 36) (xdt tt_X11_cyclesUntil 16 rfl) ?_
      refine g_aload_n hC rfl 0 rfl (rfl : 36 + 1 = 37) (xdt tt_X11_cyclesUntil 17 rfl) ?_
      refine g_getP hC hk0 kclX11 ly3_0 6 (by decide) (rfl : r0 + 1 = (r0 + 1)) rfl q31 (rfl : 37 + 3 = 40) (xdt tt_X11_cyclesUntil 18 rfl) ?_
      refine g_getP hC (hA0 1 (by decide) (by decide)) kclX0 ly1_0 7 (by decide) (rfl : (r0 + 1) + 0 = (r0 + 1)) rfl q590 (rfl : 40 + 3 = 43) (xdt tt_X11_cyclesUntil 19 rfl) ?_
      refine g_getP hC (hA0 1 (by decide) (by decide)) kclX9 ly1_14 2 (by decide) (rfl : (r0 + 1) + 0 = (r0 + 1)) rfl q789 (rfl : 43 + 3 = 46) (xdt tt_X11_cyclesUntil 20 rfl) ?_
      refine g_iload_n hC rfl 1 rfl (rfl : 46 + 1 = 47) (xdt tt_X11_cyclesUntil 21 rfl) ?_
      obtain ⟨hi4, h⟩ := ckI_i h
      refine g_iald hC (hA0 1 (by decide) (by decide)) ly1_17 hi4 (rfl : 47 + 1 = 48) (xdt tt_X11_cyclesUntil 22 rfl) (k0 := (wr a1).toNat) rfl ?_
      refine g_istore_n hC rfl (by decide) (lv' := [(2, vi (gI S3 (r0 + 1) 17 (wr a1).toNat)), (0, vr E r0 0), (1, vi a1)]) rfl (rfl : 48 + 1 = 49) (xdt tt_X11_cyclesUntil 23 rfl) ?_
      refine g_iconst hC (rfl : 49 + 1 = 50) (xdt tt_X11_cyclesUntil 24 rfl) ?_
      refine g_istore_n hC rfl (by decide) (lv' := [(3, vi 1), (2, vi (gI S3 (r0 + 1) 17 (wr a1).toNat)), (0, vr E r0 0), (1, vi a1)]) rfl (rfl : 50 + 1 = 51) (xdt tt_X11_cyclesUntil 25 rfl) ?_
      refine g_sub [2, 3, 1, 0] (lv' := [(0, vr E r0 0), (1, vi a1), (2, vi (gI S3 (r0 + 1) 17 (wr a1).toNat)), (3, vi 1)]) rfl ?_
      exact k_X11_cyclesUntil_p3_0_b51 hC hZ hE hk0 hA0 _ _ _ _ _ h
    · replace h := (if_neg hc10).symm.trans h
      cases h
def f_X9_mostUnusedSince_p1_14_1_16_b7 (r0 : Nat) (r1 : Nat) : Nat → xSt → Int → Int → Int → Option (Int × xSt)
  | 0, _, _, _, _ => none
  | fuel + 1, S, x2, x3, x4 =>
    if wr 8 < wr x4 then
      (some (x2, S))
    else
      (if wr 9 ≤ wr x4 then
        (some (x2, S))
      else
        (ckI x4 9 <|
        ckI x4 9 <|
        if wr ((gI S r0 16 (wr x4).toNat) - (gI S r1 16 (wr x4).toNat)) ≤ wr x3 then
          ((f_X9_mostUnusedSince_p1_14_1_16_b7 r0 r1 fuel) S x2 x3 (x4 + 1))
        else
          ((f_X9_mostUnusedSince_p1_14_1_16_b7 r0 r1 fuel) S x4 ((gI S r0 16 (wr x4).toNat) - (gI S r1 16 (wr x4).toNat)) (x4 + 1))))
def f_X9_mostUnusedSince_p1_14_1_16 (S : xSt) (r0 : Nat) (r1 : Nat) : Option (Int × xSt) :=
  f_X9_mostUnusedSince_p1_14_1_16_b7 r0 r1 (fu S) S (-1) 0 1
set_option maxRecDepth 100000 in
set_option maxHeartbeats 4000000 in
theorem k_X9_mostUnusedSince_p1_14_1_16_b7 {K : xCtx} {E : xE} {b : Nat} (hC : xOK K cX9_mostUnusedSince RX9 6 (rmE 1 b)) (hZ : xZ K) {v : Int} {S' : xSt} (hE : xEnd K E (some .int) (YQi E v S')) {r0 : Nat} {r1 : Nat} (hk0 : xkd E r0 = 1) (hk1 : xkd E r1 = 1) : ∀ (fuel : Nat) (S : xSt) (x2 : Int) (x3 : Int) (x4 : Int), f_X9_mostUnusedSince_p1_14_1_16_b7 r0 r1 fuel S x2 x3 x4 = some (v, S') → WG K E 7 [(0, vr E r0 14), (1, vr E r1 16), (2, vi x2), (3, vi x3), (4, vi x4)] [] S := by
  intro fuel
  induction fuel with
  | zero => intro S x2 x3 x4 h; cases h
  | succ fuel ih =>
    intro S x2 x3 x4 h
    rw [f_X9_mostUnusedSince_p1_14_1_16_b7] at h
    refine g_iload hC 4 rfl (rfl : 7 + 2 = 9) (xdt tt_X9_mostUnusedSince 6 rfl) ?_
    refine g_bipush hC (by decide) (rfl : 9 + 2 = 11) (xdt tt_X9_mostUnusedSince 7 rfl) ?_
    refine g_icmp_gt hC (show ((11 : Nat) : Int) + 42 = ((53 : Nat) : Int) by decide) (rfl : 11 + 3 = 14) (xdt tt_X9_mostUnusedSince 8 rfl) (fun hc5 => ?_) (fun hc5 => ?_)
    · replace h := (if_pos hc5).symm.trans h
      refine g_iload_n hC rfl 2 rfl (rfl : 53 + 1 = 54) (xdt tt_X9_mostUnusedSince 31 rfl) ?_
      cases h
      exact g_iret hC hE (xdt tt_X9_mostUnusedSince 32 rfl)
    · replace h := (if_neg hc5).symm.trans h
      refine g_iload hC 4 rfl (rfl : 14 + 2 = 16) (xdt tt_X9_mostUnusedSince 9 rfl) ?_
      refine g_aload_n hC rfl 1 rfl (rfl : 16 + 1 = 17) (xdt tt_X9_mostUnusedSince 10 rfl) ?_
      refine g_alen hC hk1 ly1_16 (z := 9) (by decide) (rfl : 17 + 1 = 18) (xdt tt_X9_mostUnusedSince 11 rfl) ?_
      refine g_icmp_ge hC (show ((18 : Nat) : Int) + 35 = ((53 : Nat) : Int) by decide) (rfl : 18 + 3 = 21) (xdt tt_X9_mostUnusedSince 12 rfl) (fun hc4 => ?_) (fun hc4 => ?_)
      · replace h := (if_pos hc4).symm.trans h
        refine g_iload_n hC rfl 2 rfl (rfl : 53 + 1 = 54) (xdt tt_X9_mostUnusedSince 31 rfl) ?_
        cases h
        exact g_iret hC hE (xdt tt_X9_mostUnusedSince 32 rfl)
      · replace h := (if_neg hc4).symm.trans h
        refine g_aload_n hC rfl 0 rfl (rfl : 21 + 1 = 22) (xdt tt_X9_mostUnusedSince 13 rfl) ?_
        refine g_getP hC hk0 kclX9 ly1_14 1 (by decide) (rfl : r0 + 0 = r0) rfl q139 (rfl : 22 + 3 = 25) (xdt tt_X9_mostUnusedSince 14 rfl) ?_
        refine g_iload hC 4 rfl (rfl : 25 + 2 = 27) (xdt tt_X9_mostUnusedSince 15 rfl) ?_
        obtain ⟨hi1, h⟩ := ckI_i h
        refine g_iald hC hk0 ly1_16 hi1 (rfl : 27 + 1 = 28) (xdt tt_X9_mostUnusedSince 16 rfl) (k0 := (wr x4).toNat) rfl ?_
        refine g_aload_n hC rfl 1 rfl (rfl : 28 + 1 = 29) (xdt tt_X9_mostUnusedSince 17 rfl) ?_
        refine g_iload hC 4 rfl (rfl : 29 + 2 = 31) (xdt tt_X9_mostUnusedSince 18 rfl) ?_
        obtain ⟨hi2, h⟩ := ckI_i h
        refine g_iald hC hk1 ly1_16 hi2 (rfl : 31 + 1 = 32) (xdt tt_X9_mostUnusedSince 19 rfl) (k0 := (wr x4).toNat) rfl ?_
        refine g_isub hC (rfl : 32 + 1 = 33) (xdt tt_X9_mostUnusedSince 20 rfl) ?_
        refine g_istore hC (by decide) (lv' := [(5, vi ((gI S r0 16 (wr x4).toNat) - (gI S r1 16 (wr x4).toNat))), (0, vr E r0 14), (1, vr E r1 16), (2, vi x2), (3, vi x3), (4, vi x4)]) rfl (rfl : 33 + 2 = 35) (xdt tt_X9_mostUnusedSince 21 rfl) ?_
        refine g_iload hC 0 rfl (rfl : 35 + 2 = 37) (xdt tt_X9_mostUnusedSince 22 rfl) ?_
        refine g_iload_n hC rfl 4 rfl (rfl : 37 + 1 = 38) (xdt tt_X9_mostUnusedSince 23 rfl) ?_
        refine g_icmp_le hC (show ((38 : Nat) : Int) + 9 = ((47 : Nat) : Int) by decide) (rfl : 38 + 3 = 41) (xdt tt_X9_mostUnusedSince 24 rfl) (fun hc3 => ?_) (fun hc3 => ?_)
        · replace h := (if_pos hc3).symm.trans h
          refine g_iinc hC 5 rfl (by decide) (lv' := [(4, vi (x4 + 1)), (5, vi ((gI S r0 16 (wr x4).toNat) - (gI S r1 16 (wr x4).toNat))), (0, vr E r0 14), (1, vr E r1 16), (2, vi x2), (3, vi x3)]) rfl (rfl : 47 + 3 = 50) (xdt tt_X9_mostUnusedSince 29 rfl) ?_
          refine g_goto hC (show ((50 : Nat) : Int) + (-43) = ((7 : Nat) : Int) by decide) (xdt tt_X9_mostUnusedSince 30 rfl) ?_
          refine g_sub [2, 3, 4, 5, 0] (lv' := [(0, vr E r0 14), (1, vr E r1 16), (2, vi x2), (3, vi x3), (4, vi (x4 + 1))]) rfl ?_
          exact ih _ _ _ _ h
        · replace h := (if_neg hc3).symm.trans h
          refine g_iload hC 0 rfl (rfl : 41 + 2 = 43) (xdt tt_X9_mostUnusedSince 25 rfl) ?_
          refine g_istore_n hC rfl (by decide) (lv' := [(3, vi ((gI S r0 16 (wr x4).toNat) - (gI S r1 16 (wr x4).toNat))), (5, vi ((gI S r0 16 (wr x4).toNat) - (gI S r1 16 (wr x4).toNat))), (0, vr E r0 14), (1, vr E r1 16), (2, vi x2), (4, vi x4)]) rfl (rfl : 43 + 1 = 44) (xdt tt_X9_mostUnusedSince 26 rfl) ?_
          refine g_iload hC 5 rfl (rfl : 44 + 2 = 46) (xdt tt_X9_mostUnusedSince 27 rfl) ?_
          refine g_istore_n hC rfl (by decide) (lv' := [(2, vi x4), (3, vi ((gI S r0 16 (wr x4).toNat) - (gI S r1 16 (wr x4).toNat))), (5, vi ((gI S r0 16 (wr x4).toNat) - (gI S r1 16 (wr x4).toNat))), (0, vr E r0 14), (1, vr E r1 16), (4, vi x4)]) rfl (rfl : 46 + 1 = 47) (xdt tt_X9_mostUnusedSince 28 rfl) ?_
          refine g_iinc hC 5 rfl (by decide) (lv' := [(4, vi (x4 + 1)), (2, vi x4), (3, vi ((gI S r0 16 (wr x4).toNat) - (gI S r1 16 (wr x4).toNat))), (5, vi ((gI S r0 16 (wr x4).toNat) - (gI S r1 16 (wr x4).toNat))), (0, vr E r0 14), (1, vr E r1 16)]) rfl (rfl : 47 + 3 = 50) (xdt tt_X9_mostUnusedSince 29 rfl) ?_
          refine g_goto hC (show ((50 : Nat) : Int) + (-43) = ((7 : Nat) : Int) by decide) (xdt tt_X9_mostUnusedSince 30 rfl) ?_
          refine g_sub [4, 5, 1, 2, 0] (lv' := [(0, vr E r0 14), (1, vr E r1 16), (2, vi x4), (3, vi ((gI S r0 16 (wr x4).toNat) - (gI S r1 16 (wr x4).toNat))), (4, vi (x4 + 1))]) rfl ?_
          exact ih _ _ _ _ h
set_option maxRecDepth 100000 in
set_option maxHeartbeats 4000000 in
theorem c_X9_mostUnusedSince_p1_14_1_16 (l : Launch) {E : xE} {S S' : xSt} {r0 : Nat} {r1 : Nat} (hk0 : xkd E r0 = 1) (hk1 : xkd E r1 = 1) {v : Int} (h : f_X9_mostUnusedSince_p1_14_1_16 S r0 r1 = some (v, S')) : Met l yX9_mostUnusedSince (xws yX9_mostUnusedSince cX9_mostUnusedSince 6 (some .int)) (rmD 1) (YPc E [vr E r0 14, vr E r1 16] S) (YQi E v S') 0 0 (xA E) := by
  unfold f_X9_mostUnusedSince_p1_14_1_16 at h
  refine met_i (by decide +kernel) (Nat.le_of_ble_eq_true rfl) (fun K hC hZ hE => ?_)
  have hC : xOK K cX9_mostUnusedSince RX9 6 (rmE 1 0) := hC
  show WG K E 0 [(0, vr E r0 14), (1, vr E r1 16)] [] S
  refine g_iconst hC (rfl : 0 + 1 = 1) (xdt tt_X9_mostUnusedSince 0 rfl) ?_
  refine g_istore_n hC rfl (by decide) (lv' := [(2, vi (-1)), (0, vr E r0 14), (1, vr E r1 16)]) rfl (rfl : 1 + 1 = 2) (xdt tt_X9_mostUnusedSince 1 rfl) ?_
  refine g_iconst hC (rfl : 2 + 1 = 3) (xdt tt_X9_mostUnusedSince 2 rfl) ?_
  refine g_istore_n hC rfl (by decide) (lv' := [(3, vi 0), (2, vi (-1)), (0, vr E r0 14), (1, vr E r1 16)]) rfl (rfl : 3 + 1 = 4) (xdt tt_X9_mostUnusedSince 3 rfl) ?_
  refine g_iconst hC (rfl : 4 + 1 = 5) (xdt tt_X9_mostUnusedSince 4 rfl) ?_
  refine g_istore hC (by decide) (lv' := [(4, vi 1), (3, vi 0), (2, vi (-1)), (0, vr E r0 14), (1, vr E r1 16)]) rfl (rfl : 5 + 2 = 7) (xdt tt_X9_mostUnusedSince 5 rfl) ?_
  refine g_sub [3, 4, 2, 1, 0] (lv' := [(0, vr E r0 14), (1, vr E r1 16), (2, vi (-1)), (3, vi 0), (4, vi 1)]) rfl ?_
  exact k_X9_mostUnusedSince_p1_14_1_16_b7 hC hZ hE hk0 hk1 _ _ _ _ _ h
def f_X11_mainCauseIn_p3_0 (S : xSt) (r0 : Nat) (a1 : Int) : Option (Int × xSt) :=
  if wr a1 < wr 1 then
    (none)
  else
    (if wr a1 ≤ wr 500 then
      (bd (f_X0_copyFrom_p1_0_1_0 S (r0 + 2) (r0 + 1)) fun S2 =>
      bd2 (f_X0_decodeFor_p1_0 S2 (r0 + 2) a1) fun v5 S4 =>
      bd2 (f_X9_mostUnusedSince_p1_14_1_16 S4 (r0 + 2) (r0 + 1)) fun v8 S7 =>
      some (v8, S7))
    else
      (none))
set_option maxRecDepth 100000 in
set_option maxHeartbeats 4000000 in
theorem c_X11_mainCauseIn_p3_0 (l : Launch) {E : xE} {S S' : xSt} {r0 : Nat} {a1 : Int} (hk0 : xkd E r0 = 3) (hA0 : xFam E r0) {v : Int} (h : f_X11_mainCauseIn_p3_0 S r0 a1 = some (v, S')) : Met l yX11_mainCauseIn (xws yX11_mainCauseIn cX11_mainCauseIn 2 (some .int)) (rmD 7) (YPc E [vr E r0 0, vi a1] S) (YQi E v S') 0 0 (xA E) := by
  unfold f_X11_mainCauseIn_p3_0 at h
  refine met_i (by decide +kernel) (Nat.le_of_ble_eq_true rfl) (fun K hC hZ hE => ?_)
  have hC : xOK K cX11_mainCauseIn RX11 2 (rmE 7 0) := hC
  show WG K E 0 [(0, vr E r0 0), (1, vi a1)] [] S
  refine g_iload_n hC rfl 1 rfl (rfl : 0 + 1 = 1) (xdt tt_X11_mainCauseIn 0 rfl) ?_
  refine g_iconst hC (rfl : 1 + 1 = 2) (xdt tt_X11_mainCauseIn 1 rfl) ?_
  refine g_icmp_lt hC (show ((2 : Nat) : Int) + 10 = ((12 : Nat) : Int) by decide) (rfl : 2 + 3 = 5) (xdt tt_X11_mainCauseIn 2 rfl) (fun hc10 => ?_) (fun hc10 => ?_)
  · replace h := (if_pos hc10).symm.trans h
    cases h
  · replace h := (if_neg hc10).symm.trans h
    refine g_iload_n hC rfl 1 rfl (rfl : 5 + 1 = 6) (xdt tt_X11_mainCauseIn 3 rfl) ?_
    refine g_sipush hC (by decide) (rfl : 6 + 3 = 9) (xdt tt_X11_mainCauseIn 4 rfl) ?_
    refine g_icmp_le hC (show ((9 : Nat) : Int) + 14 = ((23 : Nat) : Int) by decide) (rfl : 9 + 3 = 12) (xdt tt_X11_mainCauseIn 5 rfl) (fun hc9 => ?_) (fun hc9 => ?_)
    · replace h := (if_pos hc9).symm.trans h
      refine g_aload_n hC rfl 0 rfl (rfl : 23 + 1 = 24) (xdt tt_X11_mainCauseIn 11 rfl) ?_
      refine g_getP hC hk0 kclX11 ly3_0 7 (by decide) (rfl : r0 + 2 = (r0 + 2)) rfl q32 (rfl : 24 + 3 = 27) (xdt tt_X11_mainCauseIn 12 rfl) ?_
      refine g_aload_n hC rfl 0 rfl (rfl : 27 + 1 = 28) (xdt tt_X11_mainCauseIn 13 rfl) ?_
      refine g_getP hC hk0 kclX11 ly3_0 6 (by decide) (rfl : r0 + 1 = (r0 + 1)) rfl q31 (rfl : 28 + 3 = 31) (xdt tt_X11_mainCauseIn 14 rfl) ?_
      obtain ⟨S2, hc1, h⟩ := bd_i h
      refine g_callVv hC hZ (hA0 2 (by decide) (by decide)) kclX0 ly1_0 m_X0_copyFrom q1357 (Nat.le_of_ble_eq_true rfl) [vr E (r0 + 1) 0] rfl (fun l => c_X0_copyFrom_p1_0_1_0 l (hA0 2 (by decide) (by decide)) (hA0 1 (by decide) (by decide)) hc1) rfl (Nat.le_of_ble_eq_true rfl) (rfl : 31 + 3 = 34) (xdt tt_X11_mainCauseIn 15 rfl) ?_
      refine g_aload_n hC rfl 0 rfl (rfl : 34 + 1 = 35) (xdt tt_X11_mainCauseIn 16 rfl) ?_
      refine g_getP hC hk0 kclX11 ly3_0 7 (by decide) (rfl : r0 + 2 = (r0 + 2)) rfl q32 (rfl : 35 + 3 = 38) (xdt tt_X11_mainCauseIn 17 rfl) ?_
      refine g_iload_n hC rfl 1 rfl (rfl : 38 + 1 = 39) (xdt tt_X11_mainCauseIn 18 rfl) ?_
      obtain ⟨v5, S4, hc3, h⟩ := bd2_i h
      refine g_callVi hC hZ (hA0 2 (by decide) (by decide)) kclX0 ly1_0 m_X0_decodeFor q1025 (Nat.le_of_ble_eq_true rfl) [vi a1] rfl (fun l => c_X0_decodeFor_p1_0 l (hA0 2 (by decide) (by decide)) hc3) rfl (Nat.le_of_ble_eq_true rfl) (rfl : 39 + 3 = 42) (xdt tt_X11_mainCauseIn 19 rfl) ?_
      refine g_pop hC rfl (rfl : 42 + 1 = 43) (xdt tt_X11_mainCauseIn 20 rfl) ?_
      refine g_aload_n hC rfl 0 rfl (rfl : 43 + 1 = 44) (xdt tt_X11_mainCauseIn 21 rfl) ?_
      refine g_getP hC hk0 kclX11 ly3_0 7 (by decide) (rfl : r0 + 2 = (r0 + 2)) rfl q32 (rfl : 44 + 3 = 47) (xdt tt_X11_mainCauseIn 22 rfl) ?_
      refine g_getP hC (hA0 2 (by decide) (by decide)) kclX0 ly1_0 7 (by decide) (rfl : (r0 + 2) + 0 = (r0 + 2)) rfl q590 (rfl : 47 + 3 = 50) (xdt tt_X11_mainCauseIn 23 rfl) ?_
      refine g_aload_n hC rfl 0 rfl (rfl : 50 + 1 = 51) (xdt tt_X11_mainCauseIn 24 rfl) ?_
      refine g_getP hC hk0 kclX11 ly3_0 6 (by decide) (rfl : r0 + 1 = (r0 + 1)) rfl q31 (rfl : 51 + 3 = 54) (xdt tt_X11_mainCauseIn 25 rfl) ?_
      refine g_getP hC (hA0 1 (by decide) (by decide)) kclX0 ly1_0 7 (by decide) (rfl : (r0 + 1) + 0 = (r0 + 1)) rfl q590 (rfl : 54 + 3 = 57) (xdt tt_X11_mainCauseIn 26 rfl) ?_
      refine g_getP hC (hA0 1 (by decide) (by decide)) kclX9 ly1_14 1 (by decide) (rfl : (r0 + 1) + 0 = (r0 + 1)) rfl q864 (rfl : 57 + 3 = 60) (xdt tt_X11_mainCauseIn 27 rfl) ?_
      obtain ⟨v8, S7, hc6, h⟩ := bd2_i h
      refine g_callVi hC hZ (hA0 2 (by decide) (by decide)) kclX9 ly1_14 m_X9_mostUnusedSince q878 (Nat.le_of_ble_eq_true rfl) [vr E (r0 + 1) 16] rfl (fun l => c_X9_mostUnusedSince_p1_14_1_16 l (hA0 2 (by decide) (by decide)) (hA0 1 (by decide) (by decide)) hc6) rfl (Nat.le_of_ble_eq_true rfl) (rfl : 60 + 3 = 63) (xdt tt_X11_mainCauseIn 28 rfl) ?_
      cases h
      exact g_iret hC hE (xdt tt_X11_mainCauseIn 29 rfl)
    · replace h := (if_neg hc9).symm.trans h
      cases h
def f_X11_ruleGain_p3_0 (S : xSt) (r0 : Nat) (a1 : Int) (a2 : Int) (a3 : Int) : Option (Int × xSt) :=
  bd2 (f_X11_isRule S a1 a2) fun v3 S2 =>
  if ¬ wr v3 = 0 then
    (if wr a3 < wr 1 then
      (none)
    else
      (if wr a3 ≤ wr 500 then
        (bd2 (f_X8_has_p1_2 S2 (r0 + 1) a1 a2) fun v7 S6 =>
        if wr v7 = 0 then
          (bd (f_X0_copyFrom_p1_0_1_0 S6 (r0 + 2) (r0 + 1)) fun S10 =>
          bd2 (f_X0_decodeFor_p1_0 S10 (r0 + 2) a3) fun v13 S12 =>
          bd (f_X0_copyFrom_p1_0_1_0 S12 (r0 + 2) (r0 + 1)) fun S15 =>
          bd (f_X8_append_p1_2 S15 (r0 + 2) a1 a2) fun S17 =>
          bd2 (f_X0_decodeFor_p1_0 S17 (r0 + 2) a3) fun v20 S19 =>
          some ((v20 - v13), S19))
        else
          (some (0, S6)))
      else
        (none)))
  else
    (none)
set_option maxRecDepth 100000 in
set_option maxHeartbeats 4000000 in
theorem c_X11_ruleGain_p3_0 (l : Launch) {E : xE} {S S' : xSt} {r0 : Nat} {a1 : Int} {a2 : Int} {a3 : Int} (hk0 : xkd E r0 = 3) (hA0 : xFam E r0) {v : Int} (h : f_X11_ruleGain_p3_0 S r0 a1 a2 a3 = some (v, S')) : Met l yX11_ruleGain (xws yX11_ruleGain cX11_ruleGain 5 (some .int)) (rmD 7) (YPc E [vr E r0 0, vi a1, vi a2, vi a3] S) (YQi E v S') 0 0 (xA E) := by
  unfold f_X11_ruleGain_p3_0 at h
  refine met_i (by decide +kernel) (Nat.le_of_ble_eq_true rfl) (fun K hC hZ hE => ?_)
  have hC : xOK K cX11_ruleGain RX11 5 (rmE 7 0) := hC
  show WG K E 0 [(0, vr E r0 0), (1, vi a1), (2, vi a2), (3, vi a3)] [] S
  refine g_iload_n hC rfl 1 rfl (rfl : 0 + 1 = 1) (xdt tt_X11_ruleGain 0 rfl) ?_
  refine g_iload_n hC rfl 2 rfl (rfl : 1 + 1 = 2) (xdt tt_X11_ruleGain 1 rfl) ?_
  obtain ⟨v3, S2, hc1, h⟩ := bd2_i h
  refine g_callSz hC hZ m_X11_isRule q1288 (Nat.le_of_ble_eq_true rfl) [vi a1, vi a2] rfl (fun l => c_X11_isRule l hc1) rfl (Nat.le_of_ble_eq_true rfl) (rfl : 2 + 3 = 5) (xdt tt_X11_ruleGain 2 rfl) (fun hb4 => ?_)
  refine g_if_ne hC (show ((5 : Nat) : Int) + 14 = ((19 : Nat) : Int) by decide) (rfl : 5 + 3 = 8) (xdt tt_X11_ruleGain 3 rfl) (fun hc24 => ?_) (fun hc24 => ?_)
  · replace h := (if_pos hc24).symm.trans h
    refine g_iload_n hC rfl 3 rfl (rfl : 19 + 1 = 20) (xdt tt_X11_ruleGain 9 rfl) ?_
    refine g_iconst hC (rfl : 20 + 1 = 21) (xdt tt_X11_ruleGain 10 rfl) ?_
    refine g_icmp_lt hC (show ((21 : Nat) : Int) + 10 = ((31 : Nat) : Int) by decide) (rfl : 21 + 3 = 24) (xdt tt_X11_ruleGain 11 rfl) (fun hc23 => ?_) (fun hc23 => ?_)
    · replace h := (if_pos hc23).symm.trans h
      cases h
    · replace h := (if_neg hc23).symm.trans h
      refine g_iload_n hC rfl 3 rfl (rfl : 24 + 1 = 25) (xdt tt_X11_ruleGain 12 rfl) ?_
      refine g_sipush hC (by decide) (rfl : 25 + 3 = 28) (xdt tt_X11_ruleGain 13 rfl) ?_
      refine g_icmp_le hC (show ((28 : Nat) : Int) + 14 = ((42 : Nat) : Int) by decide) (rfl : 28 + 3 = 31) (xdt tt_X11_ruleGain 14 rfl) (fun hc22 => ?_) (fun hc22 => ?_)
      · replace h := (if_pos hc22).symm.trans h
        refine g_aload_n hC rfl 0 rfl (rfl : 42 + 1 = 43) (xdt tt_X11_ruleGain 20 rfl) ?_
        refine g_getP hC hk0 kclX11 ly3_0 6 (by decide) (rfl : r0 + 1 = (r0 + 1)) rfl q31 (rfl : 43 + 3 = 46) (xdt tt_X11_ruleGain 21 rfl) ?_
        refine g_getP hC (hA0 1 (by decide) (by decide)) kclX0 ly1_0 2 (by decide) (rfl : (r0 + 1) + 0 = (r0 + 1)) rfl q592 (rfl : 46 + 3 = 49) (xdt tt_X11_ruleGain 22 rfl) ?_
        refine g_iload_n hC rfl 1 rfl (rfl : 49 + 1 = 50) (xdt tt_X11_ruleGain 23 rfl) ?_
        refine g_iload_n hC rfl 2 rfl (rfl : 50 + 1 = 51) (xdt tt_X11_ruleGain 24 rfl) ?_
        obtain ⟨v7, S6, hc5, h⟩ := bd2_i h
        refine g_callVz hC hZ (hA0 1 (by decide) (by decide)) kclX8 ly1_2 m_X8_has q1291 (Nat.le_of_ble_eq_true rfl) [vi a1, vi a2] rfl (fun l => c_X8_has_p1_2 l (hA0 1 (by decide) (by decide)) hc5) rfl (Nat.le_of_ble_eq_true rfl) (rfl : 51 + 3 = 54) (xdt tt_X11_ruleGain 25 rfl) (fun hb8 => ?_)
        refine g_if_eq hC (show ((54 : Nat) : Int) + 5 = ((59 : Nat) : Int) by decide) (rfl : 54 + 3 = 57) (xdt tt_X11_ruleGain 26 rfl) (fun hc21 => ?_) (fun hc21 => ?_)
        · replace h := (if_pos hc21).symm.trans h
          refine g_aload_n hC rfl 0 rfl (rfl : 59 + 1 = 60) (xdt tt_X11_ruleGain 29 rfl) ?_
          refine g_getP hC hk0 kclX11 ly3_0 7 (by decide) (rfl : r0 + 2 = (r0 + 2)) rfl q32 (rfl : 60 + 3 = 63) (xdt tt_X11_ruleGain 30 rfl) ?_
          refine g_aload_n hC rfl 0 rfl (rfl : 63 + 1 = 64) (xdt tt_X11_ruleGain 31 rfl) ?_
          refine g_getP hC hk0 kclX11 ly3_0 6 (by decide) (rfl : r0 + 1 = (r0 + 1)) rfl q31 (rfl : 64 + 3 = 67) (xdt tt_X11_ruleGain 32 rfl) ?_
          obtain ⟨S10, hc9, h⟩ := bd_i h
          refine g_callVv hC hZ (hA0 2 (by decide) (by decide)) kclX0 ly1_0 m_X0_copyFrom q1357 (Nat.le_of_ble_eq_true rfl) [vr E (r0 + 1) 0] rfl (fun l => c_X0_copyFrom_p1_0_1_0 l (hA0 2 (by decide) (by decide)) (hA0 1 (by decide) (by decide)) hc9) rfl (Nat.le_of_ble_eq_true rfl) (rfl : 67 + 3 = 70) (xdt tt_X11_ruleGain 33 rfl) ?_
          refine g_aload_n hC rfl 0 rfl (rfl : 70 + 1 = 71) (xdt tt_X11_ruleGain 34 rfl) ?_
          refine g_getP hC hk0 kclX11 ly3_0 7 (by decide) (rfl : r0 + 2 = (r0 + 2)) rfl q32 (rfl : 71 + 3 = 74) (xdt tt_X11_ruleGain 35 rfl) ?_
          refine g_iload_n hC rfl 3 rfl (rfl : 74 + 1 = 75) (xdt tt_X11_ruleGain 36 rfl) ?_
          obtain ⟨v13, S12, hc11, h⟩ := bd2_i h
          refine g_callVi hC hZ (hA0 2 (by decide) (by decide)) kclX0 ly1_0 m_X0_decodeFor q1025 (Nat.le_of_ble_eq_true rfl) [vi a3] rfl (fun l => c_X0_decodeFor_p1_0 l (hA0 2 (by decide) (by decide)) hc11) rfl (Nat.le_of_ble_eq_true rfl) (rfl : 75 + 3 = 78) (xdt tt_X11_ruleGain 37 rfl) ?_
          refine g_istore hC (by decide) (lv' := [(4, vi v13), (0, vr E r0 0), (1, vi a1), (2, vi a2), (3, vi a3)]) rfl (rfl : 78 + 2 = 80) (xdt tt_X11_ruleGain 38 rfl) ?_
          refine g_aload_n hC rfl 1 rfl (rfl : 80 + 1 = 81) (xdt tt_X11_ruleGain 39 rfl) ?_
          refine g_getP hC hk0 kclX11 ly3_0 7 (by decide) (rfl : r0 + 2 = (r0 + 2)) rfl q32 (rfl : 81 + 3 = 84) (xdt tt_X11_ruleGain 40 rfl) ?_
          refine g_aload_n hC rfl 1 rfl (rfl : 84 + 1 = 85) (xdt tt_X11_ruleGain 41 rfl) ?_
          refine g_getP hC hk0 kclX11 ly3_0 6 (by decide) (rfl : r0 + 1 = (r0 + 1)) rfl q31 (rfl : 85 + 3 = 88) (xdt tt_X11_ruleGain 42 rfl) ?_
          obtain ⟨S15, hc14, h⟩ := bd_i h
          refine g_callVv hC hZ (hA0 2 (by decide) (by decide)) kclX0 ly1_0 m_X0_copyFrom q1357 (Nat.le_of_ble_eq_true rfl) [vr E (r0 + 1) 0] rfl (fun l => c_X0_copyFrom_p1_0_1_0 l (hA0 2 (by decide) (by decide)) (hA0 1 (by decide) (by decide)) hc14) rfl (Nat.le_of_ble_eq_true rfl) (rfl : 88 + 3 = 91) (xdt tt_X11_ruleGain 43 rfl) ?_
          refine g_aload_n hC rfl 1 rfl (rfl : 91 + 1 = 92) (xdt tt_X11_ruleGain 44 rfl) ?_
          refine g_getP hC hk0 kclX11 ly3_0 7 (by decide) (rfl : r0 + 2 = (r0 + 2)) rfl q32 (rfl : 92 + 3 = 95) (xdt tt_X11_ruleGain 45 rfl) ?_
          refine g_getP hC (hA0 2 (by decide) (by decide)) kclX0 ly1_0 2 (by decide) (rfl : (r0 + 2) + 0 = (r0 + 2)) rfl q592 (rfl : 95 + 3 = 98) (xdt tt_X11_ruleGain 46 rfl) ?_
          refine g_iload_n hC rfl 2 rfl (rfl : 98 + 1 = 99) (xdt tt_X11_ruleGain 47 rfl) ?_
          refine g_iload_n hC rfl 3 rfl (rfl : 99 + 1 = 100) (xdt tt_X11_ruleGain 48 rfl) ?_
          obtain ⟨S17, hc16, h⟩ := bd_i h
          refine g_callVv hC hZ (hA0 2 (by decide) (by decide)) kclX8 ly1_2 m_X8_append q1292 (Nat.le_of_ble_eq_true rfl) [vi a1, vi a2] rfl (fun l => c_X8_append_p1_2 l (hA0 2 (by decide) (by decide)) hc16) rfl (Nat.le_of_ble_eq_true rfl) (rfl : 100 + 3 = 103) (xdt tt_X11_ruleGain 49 rfl) ?_
          refine g_aload_n hC rfl 1 rfl (rfl : 103 + 1 = 104) (xdt tt_X11_ruleGain 50 rfl) ?_
          refine g_getP hC hk0 kclX11 ly3_0 7 (by decide) (rfl : r0 + 2 = (r0 + 2)) rfl q32 (rfl : 104 + 3 = 107) (xdt tt_X11_ruleGain 51 rfl) ?_
          refine g_iload_n hC rfl 4 rfl (rfl : 107 + 1 = 108) (xdt tt_X11_ruleGain 52 rfl) ?_
          obtain ⟨v20, S19, hc18, h⟩ := bd2_i h
          refine g_callVi hC hZ (hA0 2 (by decide) (by decide)) kclX0 ly1_0 m_X0_decodeFor q1025 (Nat.le_of_ble_eq_true rfl) [vi a3] rfl (fun l => c_X0_decodeFor_p1_0 l (hA0 2 (by decide) (by decide)) hc18) rfl (Nat.le_of_ble_eq_true rfl) (rfl : 108 + 3 = 111) (xdt tt_X11_ruleGain 53 rfl) ?_
          refine g_iload hC 0 rfl (rfl : 111 + 2 = 113) (xdt tt_X11_ruleGain 54 rfl) ?_
          refine g_isub hC (rfl : 113 + 1 = 114) (xdt tt_X11_ruleGain 55 rfl) ?_
          cases h
          exact g_iret hC hE (xdt tt_X11_ruleGain 56 rfl)
        · replace h := (if_neg hc21).symm.trans h
          refine g_iconst hC (rfl : 57 + 1 = 58) (xdt tt_X11_ruleGain 27 rfl) ?_
          cases h
          exact g_iret hC hE (xdt tt_X11_ruleGain 28 rfl)
      · replace h := (if_neg hc22).symm.trans h
        cases h
  · replace h := (if_neg hc24).symm.trans h
    cases h
def f_X2_clear_p3_6 (S : xSt) (r0 : Nat) : Option (xSt) :=
  lt1 (wI S r0 6 1 0) fun S1 =>
  some S1
set_option maxRecDepth 100000 in
set_option maxHeartbeats 4000000 in
theorem c_X2_clear_p3_6 (l : Launch) {E : xE} {S S' : xSt} {r0 : Nat} (hk0 : xkd E r0 = 3) (hA0 : xFam E r0) (h : f_X2_clear_p3_6 S r0 = some S') : Met l yX2_clear (xws yX2_clear cX2_clear 1 none) (rmD 1) (YPc E [vr E r0 6] S) (YQv E S') 0 0 (xA E) := by
  unfold f_X2_clear_p3_6 at h
  refine met_v (by decide +kernel) (Nat.le_of_ble_eq_true rfl) (fun K hC hZ hE => ?_)
  have hC : xOK K cX2_clear RX2 1 (rmE 1 0) := hC
  show WG K E 0 [(0, vr E r0 6)] [] S
  refine g_aload_n hC rfl 0 rfl (rfl : 0 + 1 = 1) (xdt tt_X2_clear 0 rfl) ?_
  refine g_iconst hC (rfl : 1 + 1 = 2) (xdt tt_X2_clear 1 rfl) ?_
  obtain ⟨S1, hS1, h⟩ := lt1_i h
  refine g_putI hC hk0 kclX2 ly3_6 1 (by decide) rfl rfl rfl q1507 hS1 (rfl : 2 + 3 = 5) (xdt tt_X2_clear 2 rfl) ?_
  cases h
  exact g_vret hC hE (xdt tt_X2_clear 3 rfl)
def f_X2_addByte_p3_6 (S : xSt) (r0 : Nat) (a1 : Int) : Option (xSt) :=
  if wr (gI S r0 6 1) < 0 then
    (some S)
  else
    (if wr 32 ≤ wr (gI S r0 6 1) then
      (some S)
    else
      (ckI (gI S r0 6 1) 32 <|
      lt1 (wI S r0 7 (wr (gI S r0 6 1)).toNat (wb (wb a1))) fun S2 =>
      lt1 (wI S2 r0 6 1 ((gI S2 r0 6 1) + 1)) fun S3 =>
      some S3))
set_option maxRecDepth 100000 in
set_option maxHeartbeats 4000000 in
theorem c_X2_addByte_p3_6 (l : Launch) {E : xE} {S S' : xSt} {r0 : Nat} {a1 : Int} (hk0 : xkd E r0 = 3) (hA0 : xFam E r0) (h : f_X2_addByte_p3_6 S r0 a1 = some S') : Met l yX2_addByte (xws yX2_addByte cX2_addByte 2 none) (rmD 1) (YPc E [vr E r0 6, vi a1] S) (YQv E S') 0 0 (xA E) := by
  unfold f_X2_addByte_p3_6 at h
  refine met_v (by decide +kernel) (Nat.le_of_ble_eq_true rfl) (fun K hC hZ hE => ?_)
  have hC : xOK K cX2_addByte RX2 2 (rmE 1 0) := hC
  show WG K E 0 [(0, vr E r0 6), (1, vi a1)] [] S
  refine g_aload_n hC rfl 0 rfl (rfl : 0 + 1 = 1) (xdt tt_X2_addByte 0 rfl) ?_
  refine g_getI hC hk0 kclX2 ly3_6 1 (by decide) rfl q1507 (rfl : 1 + 3 = 4) (xdt tt_X2_addByte 1 rfl) ?_
  refine g_if_lt hC (show ((4 : Nat) : Int) + 36 = ((40 : Nat) : Int) by decide) (rfl : 4 + 3 = 7) (xdt tt_X2_addByte 2 rfl) (fun hc5 => ?_) (fun hc5 => ?_)
  · replace h := (if_pos hc5).symm.trans h
    cases h
    exact g_vret hC hE (xdt tt_X2_addByte 22 rfl)
  · replace h := (if_neg hc5).symm.trans h
    refine g_aload_n hC rfl 0 rfl (rfl : 7 + 1 = 8) (xdt tt_X2_addByte 3 rfl) ?_
    refine g_getI hC hk0 kclX2 ly3_6 1 (by decide) rfl q1507 (rfl : 8 + 3 = 11) (xdt tt_X2_addByte 4 rfl) ?_
    refine g_aload_n hC rfl 0 rfl (rfl : 11 + 1 = 12) (xdt tt_X2_addByte 5 rfl) ?_
    refine g_getP hC hk0 kclX2 ly3_6 0 (by decide) (rfl : r0 + 0 = r0) rfl q90 (rfl : 12 + 3 = 15) (xdt tt_X2_addByte 6 rfl) ?_
    refine g_alen hC hk0 ly3_7 (z := 32) (by decide) (rfl : 15 + 1 = 16) (xdt tt_X2_addByte 7 rfl) ?_
    refine g_icmp_ge hC (show ((16 : Nat) : Int) + 24 = ((40 : Nat) : Int) by decide) (rfl : 16 + 3 = 19) (xdt tt_X2_addByte 8 rfl) (fun hc4 => ?_) (fun hc4 => ?_)
    · replace h := (if_pos hc4).symm.trans h
      cases h
      exact g_vret hC hE (xdt tt_X2_addByte 22 rfl)
    · replace h := (if_neg hc4).symm.trans h
      refine g_aload_n hC rfl 0 rfl (rfl : 19 + 1 = 20) (xdt tt_X2_addByte 9 rfl) ?_
      refine g_getP hC hk0 kclX2 ly3_6 0 (by decide) (rfl : r0 + 0 = r0) rfl q90 (rfl : 20 + 3 = 23) (xdt tt_X2_addByte 10 rfl) ?_
      refine g_aload_n hC rfl 0 rfl (rfl : 23 + 1 = 24) (xdt tt_X2_addByte 11 rfl) ?_
      refine g_getI hC hk0 kclX2 ly3_6 1 (by decide) rfl q1507 (rfl : 24 + 3 = 27) (xdt tt_X2_addByte 12 rfl) ?_
      refine g_iload_n hC rfl 1 rfl (rfl : 27 + 1 = 28) (xdt tt_X2_addByte 13 rfl) ?_
      refine g_i2b hC (rfl : 28 + 1 = 29) (xdt tt_X2_addByte 14 rfl) ?_
      obtain ⟨hi1, h⟩ := ckI_i h
      obtain ⟨S2, hS2, h⟩ := lt1_i h
      refine g_bast hC hk0 ly3_7 hi1 rfl hS2 (rfl : 29 + 1 = 30) (xdt tt_X2_addByte 15 rfl) ?_
      refine g_aload_n hC rfl 0 rfl (rfl : 30 + 1 = 31) (xdt tt_X2_addByte 16 rfl) ?_
      refine g_dup hC rfl (rfl : 31 + 1 = 32) (xdt tt_X2_addByte 17 rfl) ?_
      refine g_getI hC hk0 kclX2 ly3_6 1 (by decide) rfl q1507 (rfl : 32 + 3 = 35) (xdt tt_X2_addByte 18 rfl) ?_
      refine g_iconst hC (rfl : 35 + 1 = 36) (xdt tt_X2_addByte 19 rfl) ?_
      refine g_iadd hC (rfl : 36 + 1 = 37) (xdt tt_X2_addByte 20 rfl) ?_
      obtain ⟨S3, hS3, h⟩ := lt1_i h
      refine g_putI hC hk0 kclX2 ly3_6 1 (by decide) rfl rfl rfl q1507 hS3 (rfl : 37 + 3 = 40) (xdt tt_X2_addByte 21 rfl) ?_
      cases h
      exact g_vret hC hE (xdt tt_X2_addByte 22 rfl)
def f_X2_addNumber_p3_6_b40 (r0 : Nat) (S : xSt) (x1 : Int) : Option (xSt) :=
  bd (f_X2_addByte_p3_6 S r0 (48 + (Int.tmod (wr x1) (wr 10)))) fun S2 =>
  some S2
def f_X2_addNumber_p3_6_b20 (r0 : Nat) (S : xSt) (x1 : Int) : Option (xSt) :=
  if wr x1 < wr 10 then
    (f_X2_addNumber_p3_6_b40 r0 S x1)
  else
    (bd (f_X2_addByte_p3_6 S r0 (48 + (Int.tmod (wr (Int.tdiv (wr x1) (wr 10))) (wr 10)))) fun S4 =>
    f_X2_addNumber_p3_6_b40 r0 S4 x1)
def f_X2_addNumber_p3_6 (S : xSt) (r0 : Nat) (a1 : Int) : Option (xSt) :=
  if wr a1 < wr 100 then
    (f_X2_addNumber_p3_6_b20 r0 S a1)
  else
    (bd (f_X2_addByte_p3_6 S r0 (48 + (Int.tmod (wr (Int.tdiv (wr a1) (wr 100))) (wr 10)))) fun S7 =>
    f_X2_addNumber_p3_6_b20 r0 S7 a1)
set_option maxRecDepth 100000 in
set_option maxHeartbeats 4000000 in
theorem k_X2_addNumber_p3_6_b40 {K : xCtx} {E : xE} {b : Nat} (hC : xOK K cX2_addNumber RX2 2 (rmE 2 b)) (hZ : xZ K) {S' : xSt} (hE : xEnd K E none (YQv E S')) {r0 : Nat} (hk0 : xkd E r0 = 3) (hA0 : xFam E r0) : ∀ (S : xSt) (x1 : Int), f_X2_addNumber_p3_6_b40 r0 S x1 = some S' → WG K E 40 [(0, vr E r0 6), (1, vi x1)] [] S := by
  intro S x1 h
  unfold f_X2_addNumber_p3_6_b40 at h
  refine g_aload_n hC rfl 0 rfl (rfl : 40 + 1 = 41) (xdt tt_X2_addNumber 24 rfl) ?_
  refine g_bipush hC (by decide) (rfl : 41 + 2 = 43) (xdt tt_X2_addNumber 25 rfl) ?_
  refine g_iload_n hC rfl 1 rfl (rfl : 43 + 1 = 44) (xdt tt_X2_addNumber 26 rfl) ?_
  refine g_bipush hC (by decide) (rfl : 44 + 2 = 46) (xdt tt_X2_addNumber 27 rfl) ?_
  refine g_irem hC (by decide) (rfl : 46 + 1 = 47) (xdt tt_X2_addNumber 28 rfl) ?_
  refine g_iadd hC (rfl : 47 + 1 = 48) (xdt tt_X2_addNumber 29 rfl) ?_
  obtain ⟨S2, hc1, h⟩ := bd_i h
  refine g_callVv hC hZ hk0 kclX2 ly3_6 m_X2_addByte q1512 (Nat.le_of_ble_eq_true rfl) [vi (48 + (Int.tmod (wr x1) (wr 10)))] rfl (fun l => c_X2_addByte_p3_6 l hk0 hA0 hc1) rfl (Nat.le_of_ble_eq_true rfl) (rfl : 48 + 3 = 51) (xdt tt_X2_addNumber 30 rfl) ?_
  cases h
  exact g_vret hC hE (xdt tt_X2_addNumber 31 rfl)
set_option maxRecDepth 100000 in
set_option maxHeartbeats 4000000 in
theorem k_X2_addNumber_p3_6_b20 {K : xCtx} {E : xE} {b : Nat} (hC : xOK K cX2_addNumber RX2 2 (rmE 2 b)) (hZ : xZ K) {S' : xSt} (hE : xEnd K E none (YQv E S')) {r0 : Nat} (hk0 : xkd E r0 = 3) (hA0 : xFam E r0) : ∀ (S : xSt) (x1 : Int), f_X2_addNumber_p3_6_b20 r0 S x1 = some S' → WG K E 20 [(0, vr E r0 6), (1, vi x1)] [] S := by
  intro S x1 h
  unfold f_X2_addNumber_p3_6_b20 at h
  refine g_iload_n hC rfl 1 rfl (rfl : 20 + 1 = 21) (xdt tt_X2_addNumber 12 rfl) ?_
  refine g_bipush hC (by decide) (rfl : 21 + 2 = 23) (xdt tt_X2_addNumber 13 rfl) ?_
  refine g_icmp_lt hC (show ((23 : Nat) : Int) + 17 = ((40 : Nat) : Int) by decide) (rfl : 23 + 3 = 26) (xdt tt_X2_addNumber 14 rfl) (fun hc5 => ?_) (fun hc5 => ?_)
  · replace h := (if_pos hc5).symm.trans h
    refine g_sub [0, 1] (lv' := [(0, vr E r0 6), (1, vi x1)]) rfl ?_
    exact k_X2_addNumber_p3_6_b40 hC hZ hE hk0 hA0 _ _ h
  · replace h := (if_neg hc5).symm.trans h
    refine g_aload_n hC rfl 0 rfl (rfl : 26 + 1 = 27) (xdt tt_X2_addNumber 15 rfl) ?_
    refine g_bipush hC (by decide) (rfl : 27 + 2 = 29) (xdt tt_X2_addNumber 16 rfl) ?_
    refine g_iload_n hC rfl 1 rfl (rfl : 29 + 1 = 30) (xdt tt_X2_addNumber 17 rfl) ?_
    refine g_bipush hC (by decide) (rfl : 30 + 2 = 32) (xdt tt_X2_addNumber 18 rfl) ?_
    refine g_idiv hC (by decide) (rfl : 32 + 1 = 33) (xdt tt_X2_addNumber 19 rfl) ?_
    refine g_bipush hC (by decide) (rfl : 33 + 2 = 35) (xdt tt_X2_addNumber 20 rfl) ?_
    refine g_irem hC (by decide) (rfl : 35 + 1 = 36) (xdt tt_X2_addNumber 21 rfl) ?_
    refine g_iadd hC (rfl : 36 + 1 = 37) (xdt tt_X2_addNumber 22 rfl) ?_
    obtain ⟨S4, hc3, h⟩ := bd_i h
    refine g_callVv hC hZ hk0 kclX2 ly3_6 m_X2_addByte q1512 (Nat.le_of_ble_eq_true rfl) [vi (48 + (Int.tmod (wr (Int.tdiv (wr x1) (wr 10))) (wr 10)))] rfl (fun l => c_X2_addByte_p3_6 l hk0 hA0 hc3) rfl (Nat.le_of_ble_eq_true rfl) (rfl : 37 + 3 = 40) (xdt tt_X2_addNumber 23 rfl) ?_
    refine g_sub [0, 1] (lv' := [(0, vr E r0 6), (1, vi x1)]) rfl ?_
    exact k_X2_addNumber_p3_6_b40 hC hZ hE hk0 hA0 _ _ h
set_option maxRecDepth 100000 in
set_option maxHeartbeats 4000000 in
theorem c_X2_addNumber_p3_6 (l : Launch) {E : xE} {S S' : xSt} {r0 : Nat} {a1 : Int} (hk0 : xkd E r0 = 3) (hA0 : xFam E r0) (h : f_X2_addNumber_p3_6 S r0 a1 = some S') : Met l yX2_addNumber (xws yX2_addNumber cX2_addNumber 2 none) (rmD 2) (YPc E [vr E r0 6, vi a1] S) (YQv E S') 0 0 (xA E) := by
  unfold f_X2_addNumber_p3_6 at h
  refine met_v (by decide +kernel) (Nat.le_of_ble_eq_true rfl) (fun K hC hZ hE => ?_)
  have hC : xOK K cX2_addNumber RX2 2 (rmE 2 0) := hC
  show WG K E 0 [(0, vr E r0 6), (1, vi a1)] [] S
  refine g_iload_n hC rfl 1 rfl (rfl : 0 + 1 = 1) (xdt tt_X2_addNumber 0 rfl) ?_
  refine g_bipush hC (by decide) (rfl : 1 + 2 = 3) (xdt tt_X2_addNumber 1 rfl) ?_
  refine g_icmp_lt hC (show ((3 : Nat) : Int) + 17 = ((20 : Nat) : Int) by decide) (rfl : 3 + 3 = 6) (xdt tt_X2_addNumber 2 rfl) (fun hc8 => ?_) (fun hc8 => ?_)
  · replace h := (if_pos hc8).symm.trans h
    refine g_sub [0, 1] (lv' := [(0, vr E r0 6), (1, vi a1)]) rfl ?_
    exact k_X2_addNumber_p3_6_b20 hC hZ hE hk0 hA0 _ _ h
  · replace h := (if_neg hc8).symm.trans h
    refine g_aload_n hC rfl 0 rfl (rfl : 6 + 1 = 7) (xdt tt_X2_addNumber 3 rfl) ?_
    refine g_bipush hC (by decide) (rfl : 7 + 2 = 9) (xdt tt_X2_addNumber 4 rfl) ?_
    refine g_iload_n hC rfl 1 rfl (rfl : 9 + 1 = 10) (xdt tt_X2_addNumber 5 rfl) ?_
    refine g_bipush hC (by decide) (rfl : 10 + 2 = 12) (xdt tt_X2_addNumber 6 rfl) ?_
    refine g_idiv hC (by decide) (rfl : 12 + 1 = 13) (xdt tt_X2_addNumber 7 rfl) ?_
    refine g_bipush hC (by decide) (rfl : 13 + 2 = 15) (xdt tt_X2_addNumber 8 rfl) ?_
    refine g_irem hC (by decide) (rfl : 15 + 1 = 16) (xdt tt_X2_addNumber 9 rfl) ?_
    refine g_iadd hC (rfl : 16 + 1 = 17) (xdt tt_X2_addNumber 10 rfl) ?_
    obtain ⟨S7, hc6, h⟩ := bd_i h
    refine g_callVv hC hZ hk0 kclX2 ly3_6 m_X2_addByte q1512 (Nat.le_of_ble_eq_true rfl) [vi (48 + (Int.tmod (wr (Int.tdiv (wr a1) (wr 100))) (wr 10)))] rfl (fun l => c_X2_addByte_p3_6 l hk0 hA0 hc6) rfl (Nat.le_of_ble_eq_true rfl) (rfl : 17 + 3 = 20) (xdt tt_X2_addNumber 11 rfl) ?_
    refine g_sub [0, 1] (lv' := [(0, vr E r0 6), (1, vi a1)]) rfl ?_
    exact k_X2_addNumber_p3_6_b20 hC hZ hE hk0 hA0 _ _ h
def f_X2_addText_p3_6_b2 (r0 : Nat) (k1 : Nat) : Nat → xSt → Int → Option (xSt)
  | 0, _, _ => none
  | fuel + 1, S, x2 =>
    bd2 (f_J0_length_8abf5 S k1) fun v3 S2 =>
    if wr v3 ≤ wr x2 then
      (some S2)
    else
      (bd2 (f_J0_charAt_5068e S2 k1 x2) fun v6 S5 =>
      bd (f_X2_addByte_p3_6 S5 r0 v6) fun S9 =>
      (f_X2_addText_p3_6_b2 r0 k1 fuel) S9 (x2 + 1))
def f_X2_addText_p3_6 (S : xSt) (r0 : Nat) (k1 : Nat) : Option (xSt) :=
  f_X2_addText_p3_6_b2 r0 k1 (fu S) S 0
set_option maxRecDepth 100000 in
set_option maxHeartbeats 4000000 in
theorem k_X2_addText_p3_6_b2 {K : xCtx} {E : xE} {b : Nat} (hC : xOK K cX2_addText RX2 3 (rmE 6 b)) (hZ : xZ K) {S' : xSt} (hE : xEnd K E none (YQv E S')) {r0 : Nat} {k1 : Nat} (hk0 : xkd E r0 = 3) (hA0 : xFam E r0) (hs1 : k1 < xldc.length) : ∀ (fuel : Nat) (S : xSt) (x2 : Int), f_X2_addText_p3_6_b2 r0 k1 fuel S x2 = some S' → WG K E 2 [(0, vr E r0 6), (1, vs E k1), (2, vi x2)] [] S := by
  intro fuel
  induction fuel with
  | zero => intro S x2 h; cases h
  | succ fuel ih =>
    intro S x2 h
    rw [f_X2_addText_p3_6_b2] at h
    refine g_iload_n hC rfl 2 rfl (rfl : 2 + 1 = 3) (xdt tt_X2_addText 2 rfl) ?_
    refine g_aload_n hC rfl 1 rfl (rfl : 3 + 1 = 4) (xdt tt_X2_addText 3 rfl) ?_
    obtain ⟨v3, S2, hc1, h⟩ := bd2_i h
    refine g_callTi hC hZ hs1 m_J0_length_8abf5 q1521 (Nat.le_of_ble_eq_true rfl) [] rfl (fun l => c_J0_length_8abf5 l hs1 hc1) rfl (Nat.le_of_ble_eq_true rfl) (rfl : 4 + 3 = 7) (xdt tt_X2_addText 4 rfl) ?_
    refine g_icmp_ge hC (show ((7 : Nat) : Int) + 18 = ((25 : Nat) : Int) by decide) (rfl : 7 + 3 = 10) (xdt tt_X2_addText 5 rfl) (fun hc10 => ?_) (fun hc10 => ?_)
    · replace h := (if_pos hc10).symm.trans h
      cases h
      exact g_vret hC hE (xdt tt_X2_addText 13 rfl)
    · replace h := (if_neg hc10).symm.trans h
      refine g_aload_n hC rfl 0 rfl (rfl : 10 + 1 = 11) (xdt tt_X2_addText 6 rfl) ?_
      refine g_aload_n hC rfl 1 rfl (rfl : 11 + 1 = 12) (xdt tt_X2_addText 7 rfl) ?_
      refine g_iload_n hC rfl 2 rfl (rfl : 12 + 1 = 13) (xdt tt_X2_addText 8 rfl) ?_
      obtain ⟨v6, S5, hc4, h⟩ := bd2_i h
      refine g_callTc hC hZ hs1 m_J0_charAt_5068e q1522 (Nat.le_of_ble_eq_true rfl) [vi x2] rfl (fun l => c_J0_charAt_5068e l hs1 hc4) rfl (Nat.le_of_ble_eq_true rfl) (rfl : 13 + 3 = 16) (xdt tt_X2_addText 9 rfl) (fun hb7 => ?_)
      obtain ⟨S9, hc8, h⟩ := bd_i h
      refine g_callVv hC hZ hk0 kclX2 ly3_6 m_X2_addByte q1512 (Nat.le_of_ble_eq_true rfl) [vi v6] rfl (fun l => c_X2_addByte_p3_6 l hk0 hA0 hc8) rfl (Nat.le_of_ble_eq_true rfl) (rfl : 16 + 3 = 19) (xdt tt_X2_addText 10 rfl) ?_
      refine g_iinc hC 2 rfl (by decide) (lv' := [(2, vi (x2 + 1)), (0, vr E r0 6), (1, vs E k1)]) rfl (rfl : 19 + 3 = 22) (xdt tt_X2_addText 11 rfl) ?_
      refine g_goto hC (show ((22 : Nat) : Int) + (-20) = ((2 : Nat) : Int) by decide) (xdt tt_X2_addText 12 rfl) ?_
      refine g_sub [1, 2, 0] (lv' := [(0, vr E r0 6), (1, vs E k1), (2, vi (x2 + 1))]) rfl ?_
      exact ih _ _ h
set_option maxRecDepth 100000 in
set_option maxHeartbeats 4000000 in
theorem c_X2_addText_p3_6 (l : Launch) {E : xE} {S S' : xSt} {r0 : Nat} {k1 : Nat} (hk0 : xkd E r0 = 3) (hA0 : xFam E r0) (hs1 : k1 < xldc.length) (h : f_X2_addText_p3_6 S r0 k1 = some S') : Met l yX2_addText (xws yX2_addText cX2_addText 3 none) (rmD 6) (YPc E [vr E r0 6, vs E k1] S) (YQv E S') 0 0 (xA E) := by
  unfold f_X2_addText_p3_6 at h
  refine met_v (by decide +kernel) (Nat.le_of_ble_eq_true rfl) (fun K hC hZ hE => ?_)
  have hC : xOK K cX2_addText RX2 3 (rmE 6 0) := hC
  show WG K E 0 [(0, vr E r0 6), (1, vs E k1)] [] S
  refine g_iconst hC (rfl : 0 + 1 = 1) (xdt tt_X2_addText 0 rfl) ?_
  refine g_istore_n hC rfl (by decide) (lv' := [(2, vi 0), (0, vr E r0 6), (1, vs E k1)]) rfl (rfl : 1 + 1 = 2) (xdt tt_X2_addText 1 rfl) ?_
  refine g_sub [1, 2, 0] (lv' := [(0, vr E r0 6), (1, vs E k1), (2, vi 0)]) rfl ?_
  exact k_X2_addText_p3_6_b2 hC hZ hE hk0 hA0 hs1 _ _ _ h
def f_X11_printInstruction_p3_0_b134 (r0 : Nat) (S : xSt) (x1 : Int) : Option (Int × xSt) :=
  bd2 (f_X0_fusesWithNext_p1_0 S (r0 + 1) x1) fun v27 S26 =>
  if wr v27 = 0 then
    (some ((gI S26 r0 6 1), S26))
  else
    (bd (f_X2_addByte_p3_6 S26 r0 43) fun S30 =>
    some ((gI S30 r0 6 1), S30))
def f_X11_printInstruction_p3_0_b79 (r0 : Nat) (S : xSt) (x1 : Int) : Option (Int × xSt) :=
  ckP S r0 0 4 2 0 fun rg12 =>
  ckI x1 60 <|
  bd2 (f_X11_wordOfKind S (gI S rg12 5 (wr x1).toNat)) fun v16 S15 =>
  bd (f_X2_addText_p3_6 S15 r0 v16) fun S19 =>
  ckP S19 r0 0 4 2 0 fun rg20 =>
  bd2 (f_X5_isJumpOrBranch_p2_0 S19 rg20 x1) fun v23 S22 =>
  if wr v23 = 0 then
    (f_X11_printInstruction_p3_0_b134 r0 S22 x1)
  else
    (bd (f_X2_addByte_p3_6 S22 r0 32) fun S33 =>
    ckP S33 r0 0 4 2 0 fun rg34 =>
    ckI x1 60 <|
    bd (f_X2_addNumber_p3_6 S33 r0 (gI S33 rg34 11 (wr x1).toNat)) fun S37 =>
    f_X11_printInstruction_p3_0_b134 r0 S37 x1)
def f_X11_printInstruction_p3_0 (S : xSt) (r0 : Nat) (a1 : Int) : Option (Int × xSt) :=
  if wr a1 < 0 then
    (none)
  else
    (ckP S r0 0 4 2 0 fun rg1 =>
    if wr a1 < wr (gI S rg1 0 10) then
      (bd (f_X2_clear_p3_6 S r0) fun S3 =>
      ckP S3 r0 0 4 2 0 fun rg4 =>
      ckI a1 61 <|
      bd (f_X2_addNumber_p3_6 S3 r0 (gI S3 rg4 9 (wr a1).toNat)) fun S7 =>
      bd (f_X2_addByte_p3_6 S7 r0 32) fun S9 =>
      ckP S9 r0 0 4 2 0 fun rg10 =>
      ckI a1 60 <|
      if wr (gI S9 rg10 6 (wr a1).toNat) = 0 then
        (f_X11_printInstruction_p3_0_b79 r0 S9 a1)
      else
        (bd (f_X2_addText_p3_6 S9 r0 40) fun S40 =>
        f_X11_printInstruction_p3_0_b79 r0 S40 a1))
    else
      (none))
set_option maxRecDepth 100000 in
set_option maxHeartbeats 4000000 in
theorem k_X11_printInstruction_p3_0_b134 {K : xCtx} {E : xE} {b : Nat} (hC : xOK K cX11_printInstruction RX11 2 (rmE 7 b)) (hZ : xZ K) {v : Int} {S' : xSt} (hE : xEnd K E (some .int) (YQi E v S')) {r0 : Nat} (hk0 : xkd E r0 = 3) (hA0 : xFam E r0) : ∀ (S : xSt) (x1 : Int), f_X11_printInstruction_p3_0_b134 r0 S x1 = some (v, S') → WG K E 134 [(0, vr E r0 0), (1, vi x1)] [] S := by
  intro S x1 h
  unfold f_X11_printInstruction_p3_0_b134 at h
  refine g_aload_n hC rfl 0 rfl (rfl : 134 + 1 = 135) (xdt tt_X11_printInstruction 63 rfl) ?_
  refine g_getP hC hk0 kclX11 ly3_0 6 (by decide) (rfl : r0 + 1 = (r0 + 1)) rfl q31 (rfl : 135 + 3 = 138) (xdt tt_X11_printInstruction 64 rfl) ?_
  refine g_iload_n hC rfl 1 rfl (rfl : 138 + 1 = 139) (xdt tt_X11_printInstruction 65 rfl) ?_
  obtain ⟨v27, S26, hc25, h⟩ := bd2_i h
  refine g_callVz hC hZ (hA0 1 (by decide) (by decide)) kclX0 ly1_0 m_X0_fusesWithNext q719 (Nat.le_of_ble_eq_true rfl) [vi x1] rfl (fun l => c_X0_fusesWithNext_p1_0 l (hA0 1 (by decide) (by decide)) hc25) rfl (Nat.le_of_ble_eq_true rfl) (rfl : 139 + 3 = 142) (xdt tt_X11_printInstruction 66 rfl) (fun hb28 => ?_)
  refine g_if_eq hC (show ((142 : Nat) : Int) + 12 = ((154 : Nat) : Int) by decide) (rfl : 142 + 3 = 145) (xdt tt_X11_printInstruction 67 rfl) (fun hc31 => ?_) (fun hc31 => ?_)
  · replace h := (if_pos hc31).symm.trans h
    refine g_aload_n hC rfl 0 rfl (rfl : 154 + 1 = 155) (xdt tt_X11_printInstruction 72 rfl) ?_
    refine g_getP hC hk0 kclX11 ly3_0 3 (by decide) (rfl : r0 + 0 = r0) rfl q22 (rfl : 155 + 3 = 158) (xdt tt_X11_printInstruction 73 rfl) ?_
    refine g_getI hC hk0 kclX2 ly3_6 1 (by decide) rfl q1502 (rfl : 158 + 3 = 161) (xdt tt_X11_printInstruction 74 rfl) ?_
    cases h
    exact g_iret hC hE (xdt tt_X11_printInstruction 75 rfl)
  · replace h := (if_neg hc31).symm.trans h
    refine g_aload_n hC rfl 0 rfl (rfl : 145 + 1 = 146) (xdt tt_X11_printInstruction 68 rfl) ?_
    refine g_getP hC hk0 kclX11 ly3_0 3 (by decide) (rfl : r0 + 0 = r0) rfl q22 (rfl : 146 + 3 = 149) (xdt tt_X11_printInstruction 69 rfl) ?_
    refine g_bipush hC (by decide) (rfl : 149 + 2 = 151) (xdt tt_X11_printInstruction 70 rfl) ?_
    obtain ⟨S30, hc29, h⟩ := bd_i h
    refine g_callVv hC hZ hk0 kclX2 ly3_6 m_X2_addByte q1516 (Nat.le_of_ble_eq_true rfl) [vi 43] rfl (fun l => c_X2_addByte_p3_6 l hk0 hA0 hc29) rfl (Nat.le_of_ble_eq_true rfl) (rfl : 151 + 3 = 154) (xdt tt_X11_printInstruction 71 rfl) ?_
    refine g_aload_n hC rfl 0 rfl (rfl : 154 + 1 = 155) (xdt tt_X11_printInstruction 72 rfl) ?_
    refine g_getP hC hk0 kclX11 ly3_0 3 (by decide) (rfl : r0 + 0 = r0) rfl q22 (rfl : 155 + 3 = 158) (xdt tt_X11_printInstruction 73 rfl) ?_
    refine g_getI hC hk0 kclX2 ly3_6 1 (by decide) rfl q1502 (rfl : 158 + 3 = 161) (xdt tt_X11_printInstruction 74 rfl) ?_
    cases h
    exact g_iret hC hE (xdt tt_X11_printInstruction 75 rfl)
set_option maxRecDepth 100000 in
set_option maxHeartbeats 4000000 in
theorem k_X11_printInstruction_p3_0_b79 {K : xCtx} {E : xE} {b : Nat} (hC : xOK K cX11_printInstruction RX11 2 (rmE 7 b)) (hZ : xZ K) {v : Int} {S' : xSt} (hE : xEnd K E (some .int) (YQi E v S')) {r0 : Nat} (hk0 : xkd E r0 = 3) (hA0 : xFam E r0) : ∀ (S : xSt) (x1 : Int), f_X11_printInstruction_p3_0_b79 r0 S x1 = some (v, S') → WG K E 79 [(0, vr E r0 0), (1, vi x1)] [] S := by
  intro S x1 h
  unfold f_X11_printInstruction_p3_0_b79 at h
  refine g_aload_n hC rfl 0 rfl (rfl : 79 + 1 = 80) (xdt tt_X11_printInstruction 37 rfl) ?_
  refine g_getP hC hk0 kclX11 ly3_0 3 (by decide) (rfl : r0 + 0 = r0) rfl q22 (rfl : 80 + 3 = 83) (xdt tt_X11_printInstruction 38 rfl) ?_
  refine g_aload_n hC rfl 0 rfl (rfl : 83 + 1 = 84) (xdt tt_X11_printInstruction 39 rfl) ?_
  obtain ⟨rg12, hrg12, grg12, h⟩ := ckP_i h
  refine g_getV hC hk0 kclX11 ly3_0 4 (by decide) rfl hrg12 grg12 q26 (rfl : 84 + 3 = 87) (xdt tt_X11_printInstruction 40 rfl) (fun krg12 => ?_)
  refine g_getP hC krg12 kclX5 ly2_0 2 (by decide) (rfl : rg12 + 0 = rg12) rfl q625 (rfl : 87 + 3 = 90) (xdt tt_X11_printInstruction 41 rfl) ?_
  refine g_iload_n hC rfl 1 rfl (rfl : 90 + 1 = 91) (xdt tt_X11_printInstruction 42 rfl) ?_
  obtain ⟨hi13, h⟩ := ckI_i h
  refine g_iald hC krg12 ly2_5 hi13 (rfl : 91 + 1 = 92) (xdt tt_X11_printInstruction 43 rfl) (k0 := (wr x1).toNat) rfl ?_
  obtain ⟨v16, S15, hc14, h⟩ := bd2_i h
  refine g_callSa hC hZ m_X11_wordOfKind q1523 (Nat.le_of_ble_eq_true rfl) [vi (gI S rg12 5 (wr x1).toNat)] rfl (fun l => c_X11_wordOfKind l hc14) rfl (Nat.le_of_ble_eq_true rfl) (rfl : 92 + 3 = 95) (xdt tt_X11_printInstruction 44 rfl) (fun hb17 => ?_)
  obtain ⟨S19, hc18, h⟩ := bd_i h
  refine g_callVv hC hZ hk0 kclX2 ly3_6 m_X2_addText q1517 (Nat.le_of_ble_eq_true rfl) [vs E v16] rfl (fun l => c_X2_addText_p3_6 l hk0 hA0 hb17 hc18) rfl (Nat.le_of_ble_eq_true rfl) (rfl : 95 + 3 = 98) (xdt tt_X11_printInstruction 45 rfl) ?_
  refine g_aload_n hC rfl 0 rfl (rfl : 98 + 1 = 99) (xdt tt_X11_printInstruction 46 rfl) ?_
  obtain ⟨rg20, hrg20, grg20, h⟩ := ckP_i h
  refine g_getV hC hk0 kclX11 ly3_0 4 (by decide) rfl hrg20 grg20 q26 (rfl : 99 + 3 = 102) (xdt tt_X11_printInstruction 47 rfl) (fun krg20 => ?_)
  refine g_iload_n hC rfl 1 rfl (rfl : 102 + 1 = 103) (xdt tt_X11_printInstruction 48 rfl) ?_
  obtain ⟨v23, S22, hc21, h⟩ := bd2_i h
  refine g_callVz hC hZ krg20 kclX5 ly2_0 m_X5_isJumpOrBranch q639 (Nat.le_of_ble_eq_true rfl) [vi x1] rfl (fun l => c_X5_isJumpOrBranch_p2_0 l krg20 hc21) rfl (Nat.le_of_ble_eq_true rfl) (rfl : 103 + 3 = 106) (xdt tt_X11_printInstruction 49 rfl) (fun hb24 => ?_)
  refine g_if_eq hC (show ((106 : Nat) : Int) + 28 = ((134 : Nat) : Int) by decide) (rfl : 106 + 3 = 109) (xdt tt_X11_printInstruction 50 rfl) (fun hc38 => ?_) (fun hc38 => ?_)
  · replace h := (if_pos hc38).symm.trans h
    refine g_sub [0, 1] (lv' := [(0, vr E r0 0), (1, vi x1)]) rfl ?_
    exact k_X11_printInstruction_p3_0_b134 hC hZ hE hk0 hA0 _ _ h
  · replace h := (if_neg hc38).symm.trans h
    refine g_aload_n hC rfl 0 rfl (rfl : 109 + 1 = 110) (xdt tt_X11_printInstruction 51 rfl) ?_
    refine g_getP hC hk0 kclX11 ly3_0 3 (by decide) (rfl : r0 + 0 = r0) rfl q22 (rfl : 110 + 3 = 113) (xdt tt_X11_printInstruction 52 rfl) ?_
    refine g_bipush hC (by decide) (rfl : 113 + 2 = 115) (xdt tt_X11_printInstruction 53 rfl) ?_
    obtain ⟨S33, hc32, h⟩ := bd_i h
    refine g_callVv hC hZ hk0 kclX2 ly3_6 m_X2_addByte q1516 (Nat.le_of_ble_eq_true rfl) [vi 32] rfl (fun l => c_X2_addByte_p3_6 l hk0 hA0 hc32) rfl (Nat.le_of_ble_eq_true rfl) (rfl : 115 + 3 = 118) (xdt tt_X11_printInstruction 54 rfl) ?_
    refine g_aload_n hC rfl 0 rfl (rfl : 118 + 1 = 119) (xdt tt_X11_printInstruction 55 rfl) ?_
    refine g_getP hC hk0 kclX11 ly3_0 3 (by decide) (rfl : r0 + 0 = r0) rfl q22 (rfl : 119 + 3 = 122) (xdt tt_X11_printInstruction 56 rfl) ?_
    refine g_aload_n hC rfl 0 rfl (rfl : 122 + 1 = 123) (xdt tt_X11_printInstruction 57 rfl) ?_
    obtain ⟨rg34, hrg34, grg34, h⟩ := ckP_i h
    refine g_getV hC hk0 kclX11 ly3_0 4 (by decide) rfl hrg34 grg34 q26 (rfl : 123 + 3 = 126) (xdt tt_X11_printInstruction 58 rfl) (fun krg34 => ?_)
    refine g_getP hC krg34 kclX5 ly2_0 8 (by decide) (rfl : rg34 + 0 = rg34) rfl q628 (rfl : 126 + 3 = 129) (xdt tt_X11_printInstruction 59 rfl) ?_
    refine g_iload_n hC rfl 1 rfl (rfl : 129 + 1 = 130) (xdt tt_X11_printInstruction 60 rfl) ?_
    obtain ⟨hi35, h⟩ := ckI_i h
    refine g_iald hC krg34 ly2_11 hi35 (rfl : 130 + 1 = 131) (xdt tt_X11_printInstruction 61 rfl) (k0 := (wr x1).toNat) rfl ?_
    obtain ⟨S37, hc36, h⟩ := bd_i h
    refine g_callVv hC hZ hk0 kclX2 ly3_6 m_X2_addNumber q1508 (Nat.le_of_ble_eq_true rfl) [vi (gI S33 rg34 11 (wr x1).toNat)] rfl (fun l => c_X2_addNumber_p3_6 l hk0 hA0 hc36) rfl (Nat.le_of_ble_eq_true rfl) (rfl : 131 + 3 = 134) (xdt tt_X11_printInstruction 62 rfl) ?_
    refine g_sub [0, 1] (lv' := [(0, vr E r0 0), (1, vi x1)]) rfl ?_
    exact k_X11_printInstruction_p3_0_b134 hC hZ hE hk0 hA0 _ _ h
set_option maxRecDepth 100000 in
set_option maxHeartbeats 4000000 in
theorem c_X11_printInstruction_p3_0 (l : Launch) {E : xE} {S S' : xSt} {r0 : Nat} {a1 : Int} (hk0 : xkd E r0 = 3) (hA0 : xFam E r0) {v : Int} (h : f_X11_printInstruction_p3_0 S r0 a1 = some (v, S')) : Met l yX11_printInstruction (xws yX11_printInstruction cX11_printInstruction 2 (some .int)) (rmD 7) (YPc E [vr E r0 0, vi a1] S) (YQi E v S') 0 0 (xA E) := by
  unfold f_X11_printInstruction_p3_0 at h
  refine met_i (by decide +kernel) (Nat.le_of_ble_eq_true rfl) (fun K hC hZ hE => ?_)
  have hC : xOK K cX11_printInstruction RX11 2 (rmE 7 0) := hC
  show WG K E 0 [(0, vr E r0 0), (1, vi a1)] [] S
  refine g_iload_n hC rfl 1 rfl (rfl : 0 + 1 = 1) (xdt tt_X11_printInstruction 0 rfl) ?_
  refine g_if_lt hC (show ((1 : Nat) : Int) + 14 = ((15 : Nat) : Int) by decide) (rfl : 1 + 3 = 4) (xdt tt_X11_printInstruction 1 rfl) (fun hc43 => ?_) (fun hc43 => ?_)
  · replace h := (if_pos hc43).symm.trans h
    cases h
  · replace h := (if_neg hc43).symm.trans h
    refine g_iload_n hC rfl 1 rfl (rfl : 4 + 1 = 5) (xdt tt_X11_printInstruction 2 rfl) ?_
    refine g_aload_n hC rfl 0 rfl (rfl : 5 + 1 = 6) (xdt tt_X11_printInstruction 3 rfl) ?_
    obtain ⟨rg1, hrg1, grg1, h⟩ := ckP_i h
    refine g_getV hC hk0 kclX11 ly3_0 4 (by decide) rfl hrg1 grg1 q26 (rfl : 6 + 3 = 9) (xdt tt_X11_printInstruction 4 rfl) (fun krg1 => ?_)
    refine g_getI hC krg1 kclX5 ly2_0 10 (by decide) rfl q277 (rfl : 9 + 3 = 12) (xdt tt_X11_printInstruction 5 rfl) ?_
    refine g_icmp_lt hC (show ((12 : Nat) : Int) + 13 = ((25 : Nat) : Int) by decide) (rfl : 12 + 3 = 15) (xdt tt_X11_printInstruction 6 rfl) (fun hc42 => ?_) (fun hc42 => ?_)
    · replace h := (if_pos hc42).symm.trans h
      refine g_aload_n hC rfl 0 rfl (rfl : 25 + 1 = 26) (xdt tt_X11_printInstruction 12 rfl) ?_
      refine g_getP hC hk0 kclX11 ly3_0 3 (by decide) (rfl : r0 + 0 = r0) rfl q22 (rfl : 26 + 3 = 29) (xdt tt_X11_printInstruction 13 rfl) ?_
      obtain ⟨S3, hc2, h⟩ := bd_i h
      refine g_callVv hC hZ hk0 kclX2 ly3_6 m_X2_clear q1503 (Nat.le_of_ble_eq_true rfl) [] rfl (fun l => c_X2_clear_p3_6 l hk0 hA0 hc2) rfl (Nat.le_of_ble_eq_true rfl) (rfl : 29 + 3 = 32) (xdt tt_X11_printInstruction 14 rfl) ?_
      refine g_aload_n hC rfl 0 rfl (rfl : 32 + 1 = 33) (xdt tt_X11_printInstruction 15 rfl) ?_
      refine g_getP hC hk0 kclX11 ly3_0 3 (by decide) (rfl : r0 + 0 = r0) rfl q22 (rfl : 33 + 3 = 36) (xdt tt_X11_printInstruction 16 rfl) ?_
      refine g_aload_n hC rfl 0 rfl (rfl : 36 + 1 = 37) (xdt tt_X11_printInstruction 17 rfl) ?_
      obtain ⟨rg4, hrg4, grg4, h⟩ := ckP_i h
      refine g_getV hC hk0 kclX11 ly3_0 4 (by decide) rfl hrg4 grg4 q26 (rfl : 37 + 3 = 40) (xdt tt_X11_printInstruction 18 rfl) (fun krg4 => ?_)
      refine g_getP hC krg4 kclX5 ly2_0 6 (by decide) (rfl : rg4 + 0 = rg4) rfl q626 (rfl : 40 + 3 = 43) (xdt tt_X11_printInstruction 19 rfl) ?_
      refine g_iload_n hC rfl 1 rfl (rfl : 43 + 1 = 44) (xdt tt_X11_printInstruction 20 rfl) ?_
      obtain ⟨hi5, h⟩ := ckI_i h
      refine g_iald hC krg4 ly2_9 hi5 (rfl : 44 + 1 = 45) (xdt tt_X11_printInstruction 21 rfl) (k0 := (wr a1).toNat) rfl ?_
      obtain ⟨S7, hc6, h⟩ := bd_i h
      refine g_callVv hC hZ hk0 kclX2 ly3_6 m_X2_addNumber q1508 (Nat.le_of_ble_eq_true rfl) [vi (gI S3 rg4 9 (wr a1).toNat)] rfl (fun l => c_X2_addNumber_p3_6 l hk0 hA0 hc6) rfl (Nat.le_of_ble_eq_true rfl) (rfl : 45 + 3 = 48) (xdt tt_X11_printInstruction 22 rfl) ?_
      refine g_aload_n hC rfl 0 rfl (rfl : 48 + 1 = 49) (xdt tt_X11_printInstruction 23 rfl) ?_
      refine g_getP hC hk0 kclX11 ly3_0 3 (by decide) (rfl : r0 + 0 = r0) rfl q22 (rfl : 49 + 3 = 52) (xdt tt_X11_printInstruction 24 rfl) ?_
      refine g_bipush hC (by decide) (rfl : 52 + 2 = 54) (xdt tt_X11_printInstruction 25 rfl) ?_
      obtain ⟨S9, hc8, h⟩ := bd_i h
      refine g_callVv hC hZ hk0 kclX2 ly3_6 m_X2_addByte q1516 (Nat.le_of_ble_eq_true rfl) [vi 32] rfl (fun l => c_X2_addByte_p3_6 l hk0 hA0 hc8) rfl (Nat.le_of_ble_eq_true rfl) (rfl : 54 + 3 = 57) (xdt tt_X11_printInstruction 26 rfl) ?_
      refine g_aload_n hC rfl 0 rfl (rfl : 57 + 1 = 58) (xdt tt_X11_printInstruction 27 rfl) ?_
      obtain ⟨rg10, hrg10, grg10, h⟩ := ckP_i h
      refine g_getV hC hk0 kclX11 ly3_0 4 (by decide) rfl hrg10 grg10 q26 (rfl : 58 + 3 = 61) (xdt tt_X11_printInstruction 28 rfl) (fun krg10 => ?_)
      refine g_getP hC krg10 kclX5 ly2_0 3 (by decide) (rfl : rg10 + 0 = rg10) rfl q630 (rfl : 61 + 3 = 64) (xdt tt_X11_printInstruction 29 rfl) ?_
      refine g_iload_n hC rfl 1 rfl (rfl : 64 + 1 = 65) (xdt tt_X11_printInstruction 30 rfl) ?_
      obtain ⟨hi11, h⟩ := ckI_i h
      refine g_zald hC krg10 ly2_6 hi11 (rfl : 65 + 1 = 66) (xdt tt_X11_printInstruction 31 rfl) (k0 := (wr a1).toNat) rfl ?_
      refine g_if_eq hC (show ((66 : Nat) : Int) + 13 = ((79 : Nat) : Int) by decide) (rfl : 66 + 3 = 69) (xdt tt_X11_printInstruction 32 rfl) (fun hc41 => ?_) (fun hc41 => ?_)
      · replace h := (if_pos hc41).symm.trans h
        refine g_sub [0, 1] (lv' := [(0, vr E r0 0), (1, vi a1)]) rfl ?_
        exact k_X11_printInstruction_p3_0_b79 hC hZ hE hk0 hA0 _ _ h
      · replace h := (if_neg hc41).symm.trans h
        refine g_aload_n hC rfl 0 rfl (rfl : 69 + 1 = 70) (xdt tt_X11_printInstruction 33 rfl) ?_
        refine g_getP hC hk0 kclX11 ly3_0 3 (by decide) (rfl : r0 + 0 = r0) rfl q22 (rfl : 70 + 3 = 73) (xdt tt_X11_printInstruction 34 rfl) ?_
        refine g_ldcSW hC 40 rfl rfl (rfl : 73 + 3 = 76) (xdt tt_X11_printInstruction 35 rfl) ?_
        obtain ⟨S40, hc39, h⟩ := bd_i h
        refine g_callVv hC hZ hk0 kclX2 ly3_6 m_X2_addText q1517 (Nat.le_of_ble_eq_true rfl) [vs E 40] rfl (fun l => c_X2_addText_p3_6 l hk0 hA0 (show 40 < xldc.length by decide) hc39) rfl (Nat.le_of_ble_eq_true rfl) (rfl : 76 + 3 = 79) (xdt tt_X11_printInstruction 36 rfl) ?_
        refine g_sub [0, 1] (lv' := [(0, vr E r0 0), (1, vi a1)]) rfl ?_
        exact k_X11_printInstruction_p3_0_b79 hC hZ hE hk0 hA0 _ _ h
    · replace h := (if_neg hc42).symm.trans h
      cases h
def f_X11_outputByte_p3_0 (S : xSt) (r0 : Nat) (a1 : Int) : Option (Int × xSt) :=
  if wr a1 < 0 then
    (some ((-1), S))
  else
    (if wr a1 < wr (gI S r0 6 1) then
      (ckI a1 32 <|
      some ((gI S r0 7 (wr a1).toNat), S))
    else
      (some ((-1), S)))
set_option maxRecDepth 100000 in
set_option maxHeartbeats 4000000 in
theorem c_X11_outputByte_p3_0 (l : Launch) {E : xE} {S S' : xSt} {r0 : Nat} {a1 : Int} (hk0 : xkd E r0 = 3) (hA0 : xFam E r0) {v : Int} (h : f_X11_outputByte_p3_0 S r0 a1 = some (v, S')) : Met l yX11_outputByte (xws yX11_outputByte cX11_outputByte 2 (some .int)) (rmD 1) (YPc E [vr E r0 0, vi a1] S) (YQi E v S') 0 0 (xA E) := by
  unfold f_X11_outputByte_p3_0 at h
  refine met_i (by decide +kernel) (Nat.le_of_ble_eq_true rfl) (fun K hC hZ hE => ?_)
  have hC : xOK K cX11_outputByte RX11 2 (rmE 1 0) := hC
  show WG K E 0 [(0, vr E r0 0), (1, vi a1)] [] S
  refine g_iload_n hC rfl 1 rfl (rfl : 0 + 1 = 1) (xdt tt_X11_outputByte 0 rfl) ?_
  refine g_if_lt hC (show ((1 : Nat) : Int) + 14 = ((15 : Nat) : Int) by decide) (rfl : 1 + 3 = 4) (xdt tt_X11_outputByte 1 rfl) (fun hc3 => ?_) (fun hc3 => ?_)
  · replace h := (if_pos hc3).symm.trans h
    refine g_iconst hC (rfl : 15 + 1 = 16) (xdt tt_X11_outputByte 7 rfl) ?_
    cases h
    exact g_iret hC hE (xdt tt_X11_outputByte 8 rfl)
  · replace h := (if_neg hc3).symm.trans h
    refine g_iload_n hC rfl 1 rfl (rfl : 4 + 1 = 5) (xdt tt_X11_outputByte 2 rfl) ?_
    refine g_aload_n hC rfl 0 rfl (rfl : 5 + 1 = 6) (xdt tt_X11_outputByte 3 rfl) ?_
    refine g_getP hC hk0 kclX11 ly3_0 3 (by decide) (rfl : r0 + 0 = r0) rfl q22 (rfl : 6 + 3 = 9) (xdt tt_X11_outputByte 4 rfl) ?_
    refine g_getI hC hk0 kclX2 ly3_6 1 (by decide) rfl q1502 (rfl : 9 + 3 = 12) (xdt tt_X11_outputByte 5 rfl) ?_
    refine g_icmp_lt hC (show ((12 : Nat) : Int) + 5 = ((17 : Nat) : Int) by decide) (rfl : 12 + 3 = 15) (xdt tt_X11_outputByte 6 rfl) (fun hc2 => ?_) (fun hc2 => ?_)
    · replace h := (if_pos hc2).symm.trans h
      refine g_aload_n hC rfl 0 rfl (rfl : 17 + 1 = 18) (xdt tt_X11_outputByte 9 rfl) ?_
      refine g_getP hC hk0 kclX11 ly3_0 3 (by decide) (rfl : r0 + 0 = r0) rfl q22 (rfl : 18 + 3 = 21) (xdt tt_X11_outputByte 10 rfl) ?_
      refine g_getP hC hk0 kclX2 ly3_6 0 (by decide) (rfl : r0 + 0 = r0) rfl q1545 (rfl : 21 + 3 = 24) (xdt tt_X11_outputByte 11 rfl) ?_
      refine g_iload_n hC rfl 1 rfl (rfl : 24 + 1 = 25) (xdt tt_X11_outputByte 12 rfl) ?_
      obtain ⟨hi1, h⟩ := ckI_i h
      refine g_bald hC hk0 ly3_7 hi1 (rfl : 25 + 1 = 26) (xdt tt_X11_outputByte 13 rfl) (k0 := (wr a1).toNat) rfl ?_
      cases h
      exact g_iret hC hE (xdt tt_X11_outputByte 14 rfl)
    · replace h := (if_neg hc2).symm.trans h
      refine g_iconst hC (rfl : 15 + 1 = 16) (xdt tt_X11_outputByte 7 rfl) ?_
      cases h
      exact g_iret hC hE (xdt tt_X11_outputByte 8 rfl)
def f_X11_saveState_p3_0 (S : xSt) (r0 : Nat) : Option (Int × xSt) :=
  bd (f_X0_copyFrom_p1_0_1_0 S (r0 + 3) (r0 + 1)) fun S2 =>
  lt1 (wI S2 r0 0 9 1) fun S3 =>
  some ((gI S3 (r0 + 1) 15 0), S3)
set_option maxRecDepth 100000 in
set_option maxHeartbeats 4000000 in
theorem c_X11_saveState_p3_0 (l : Launch) {E : xE} {S S' : xSt} {r0 : Nat} (hk0 : xkd E r0 = 3) (hA0 : xFam E r0) {v : Int} (h : f_X11_saveState_p3_0 S r0 = some (v, S')) : Met l yX11_saveState (xws yX11_saveState cX11_saveState 1 (some .int)) (rmD 5) (YPc E [vr E r0 0] S) (YQi E v S') 0 0 (xA E) := by
  unfold f_X11_saveState_p3_0 at h
  refine met_i (by decide +kernel) (Nat.le_of_ble_eq_true rfl) (fun K hC hZ hE => ?_)
  have hC : xOK K cX11_saveState RX11 1 (rmE 5 0) := hC
  show WG K E 0 [(0, vr E r0 0)] [] S
  refine g_aload_n hC rfl 0 rfl (rfl : 0 + 1 = 1) (xdt tt_X11_saveState 0 rfl) ?_
  refine g_getP hC hk0 kclX11 ly3_0 8 (by decide) (rfl : r0 + 3 = (r0 + 3)) rfl q33 (rfl : 1 + 3 = 4) (xdt tt_X11_saveState 1 rfl) ?_
  refine g_aload_n hC rfl 0 rfl (rfl : 4 + 1 = 5) (xdt tt_X11_saveState 2 rfl) ?_
  refine g_getP hC hk0 kclX11 ly3_0 6 (by decide) (rfl : r0 + 1 = (r0 + 1)) rfl q31 (rfl : 5 + 3 = 8) (xdt tt_X11_saveState 3 rfl) ?_
  obtain ⟨S2, hc1, h⟩ := bd_i h
  refine g_callVv hC hZ (hA0 3 (by decide) (by decide)) kclX0 ly1_0 m_X0_copyFrom q1357 (Nat.le_of_ble_eq_true rfl) [vr E (r0 + 1) 0] rfl (fun l => c_X0_copyFrom_p1_0_1_0 l (hA0 3 (by decide) (by decide)) (hA0 1 (by decide) (by decide)) hc1) rfl (Nat.le_of_ble_eq_true rfl) (rfl : 8 + 3 = 11) (xdt tt_X11_saveState 4 rfl) ?_
  refine g_aload_n hC rfl 0 rfl (rfl : 11 + 1 = 12) (xdt tt_X11_saveState 5 rfl) ?_
  refine g_iconst hC (rfl : 12 + 1 = 13) (xdt tt_X11_saveState 6 rfl) ?_
  obtain ⟨S3, hS3, h⟩ := lt1_i h
  refine g_putZ hC hk0 kclX11 ly3_0 9 (by decide) rfl rfl rfl q276 (Or.inr rfl) hS3 (rfl : 13 + 3 = 16) (xdt tt_X11_saveState 7 rfl) ?_
  refine g_aload_n hC rfl 0 rfl (rfl : 16 + 1 = 17) (xdt tt_X11_saveState 8 rfl) ?_
  refine g_getP hC hk0 kclX11 ly3_0 6 (by decide) (rfl : r0 + 1 = (r0 + 1)) rfl q31 (rfl : 17 + 3 = 20) (xdt tt_X11_saveState 9 rfl) ?_
  refine g_getP hC (hA0 1 (by decide) (by decide)) kclX0 ly1_0 7 (by decide) (rfl : (r0 + 1) + 0 = (r0 + 1)) rfl q590 (rfl : 20 + 3 = 23) (xdt tt_X11_saveState 10 rfl) ?_
  refine g_getP hC (hA0 1 (by decide) (by decide)) kclX9 ly1_14 0 (by decide) (rfl : (r0 + 1) + 0 = (r0 + 1)) rfl q591 (rfl : 23 + 3 = 26) (xdt tt_X11_saveState 11 rfl) ?_
  refine g_iconst hC (rfl : 26 + 1 = 27) (xdt tt_X11_saveState 12 rfl) ?_
  refine g_iald hC (hA0 1 (by decide) (by decide)) ly1_15 (by decide) (rfl : 27 + 1 = 28) (xdt tt_X11_saveState 13 rfl) (k0 := 0) (by decide) ?_
  cases h
  exact g_iret hC hE (xdt tt_X11_saveState 14 rfl)
def f_X11_restoreState_p3_0 (S : xSt) (r0 : Nat) : Option (Int × xSt) :=
  if ¬ wr (gI S r0 0 9) = 0 then
    (bd (f_X0_copyFrom_p1_0_1_0 S (r0 + 1) (r0 + 3)) fun S2 =>
    bd (f_X1_forget_p3_8 S2 r0) fun S4 =>
    some ((gI S4 (r0 + 1) 15 0), S4))
  else
    (none)
set_option maxRecDepth 100000 in
set_option maxHeartbeats 4000000 in
theorem c_X11_restoreState_p3_0 (l : Launch) {E : xE} {S S' : xSt} {r0 : Nat} (hk0 : xkd E r0 = 3) (hA0 : xFam E r0) {v : Int} (h : f_X11_restoreState_p3_0 S r0 = some (v, S')) : Met l yX11_restoreState (xws yX11_restoreState cX11_restoreState 1 (some .int)) (rmD 5) (YPc E [vr E r0 0] S) (YQi E v S') 0 0 (xA E) := by
  unfold f_X11_restoreState_p3_0 at h
  refine met_i (by decide +kernel) (Nat.le_of_ble_eq_true rfl) (fun K hC hZ hE => ?_)
  have hC : xOK K cX11_restoreState RX11 1 (rmE 5 0) := hC
  show WG K E 0 [(0, vr E r0 0)] [] S
  refine g_aload_n hC rfl 0 rfl (rfl : 0 + 1 = 1) (xdt tt_X11_restoreState 0 rfl) ?_
  refine g_getI hC hk0 kclX11 ly3_0 9 (by decide) rfl q276 (rfl : 1 + 3 = 4) (xdt tt_X11_restoreState 1 rfl) ?_
  refine g_if_ne hC (show ((4 : Nat) : Int) + 14 = ((18 : Nat) : Int) by decide) (rfl : 4 + 3 = 7) (xdt tt_X11_restoreState 2 rfl) (fun hc5 => ?_) (fun hc5 => ?_)
  · replace h := (if_pos hc5).symm.trans h
    refine g_aload_n hC rfl 0 rfl (rfl : 18 + 1 = 19) (xdt tt_X11_restoreState 8 rfl) ?_
    refine g_getP hC hk0 kclX11 ly3_0 6 (by decide) (rfl : r0 + 1 = (r0 + 1)) rfl q31 (rfl : 19 + 3 = 22) (xdt tt_X11_restoreState 9 rfl) ?_
    refine g_aload_n hC rfl 0 rfl (rfl : 22 + 1 = 23) (xdt tt_X11_restoreState 10 rfl) ?_
    refine g_getP hC hk0 kclX11 ly3_0 8 (by decide) (rfl : r0 + 3 = (r0 + 3)) rfl q33 (rfl : 23 + 3 = 26) (xdt tt_X11_restoreState 11 rfl) ?_
    obtain ⟨S2, hc1, h⟩ := bd_i h
    refine g_callVv hC hZ (hA0 1 (by decide) (by decide)) kclX0 ly1_0 m_X0_copyFrom q1357 (Nat.le_of_ble_eq_true rfl) [vr E (r0 + 3) 0] rfl (fun l => c_X0_copyFrom_p1_0_1_0 l (hA0 1 (by decide) (by decide)) (hA0 3 (by decide) (by decide)) hc1) rfl (Nat.le_of_ble_eq_true rfl) (rfl : 26 + 3 = 29) (xdt tt_X11_restoreState 12 rfl) ?_
    refine g_aload_n hC rfl 0 rfl (rfl : 29 + 1 = 30) (xdt tt_X11_restoreState 13 rfl) ?_
    refine g_getP hC hk0 kclX11 ly3_0 10 (by decide) (rfl : r0 + 0 = r0) rfl q37 (rfl : 30 + 3 = 33) (xdt tt_X11_restoreState 14 rfl) ?_
    obtain ⟨S4, hc3, h⟩ := bd_i h
    refine g_callVv hC hZ hk0 kclX1 ly3_8 m_X1_forget q461 (Nat.le_of_ble_eq_true rfl) [] rfl (fun l => c_X1_forget_p3_8 l hk0 hA0 hc3) rfl (Nat.le_of_ble_eq_true rfl) (rfl : 33 + 3 = 36) (xdt tt_X11_restoreState 15 rfl) ?_
    refine g_aload_n hC rfl 0 rfl (rfl : 36 + 1 = 37) (xdt tt_X11_restoreState 16 rfl) ?_
    refine g_getP hC hk0 kclX11 ly3_0 6 (by decide) (rfl : r0 + 1 = (r0 + 1)) rfl q31 (rfl : 37 + 3 = 40) (xdt tt_X11_restoreState 17 rfl) ?_
    refine g_getP hC (hA0 1 (by decide) (by decide)) kclX0 ly1_0 7 (by decide) (rfl : (r0 + 1) + 0 = (r0 + 1)) rfl q590 (rfl : 40 + 3 = 43) (xdt tt_X11_restoreState 18 rfl) ?_
    refine g_getP hC (hA0 1 (by decide) (by decide)) kclX9 ly1_14 0 (by decide) (rfl : (r0 + 1) + 0 = (r0 + 1)) rfl q591 (rfl : 43 + 3 = 46) (xdt tt_X11_restoreState 19 rfl) ?_
    refine g_iconst hC (rfl : 46 + 1 = 47) (xdt tt_X11_restoreState 20 rfl) ?_
    refine g_iald hC (hA0 1 (by decide) (by decide)) ly1_15 (by decide) (rfl : 47 + 1 = 48) (xdt tt_X11_restoreState 21 rfl) (k0 := 0) (by decide) ?_
    cases h
    exact g_iret hC hE (xdt tt_X11_restoreState 22 rfl)
  · replace h := (if_neg hc5).symm.trans h
    cases h
