def f_X11_append_p3_0_b3 (r0 : Nat) : Nat → xSt → Int → Int → Option (xSt)
  | 0, _, _, _ => none
  | fuel + 1, S, x1, x2 =>
    if wr x2 < 0 then
      (some S)
    else
      (if wr 600 ≤ wr (gI S r0 0 1) then
        (some S)
      else
        (ckI (gI S r0 0 1) 600 <|
        lt1 (wI S r0 1 (wr (gI S r0 0 1)).toNat (wb (wb (iSr x1 x2)))) fun S2 =>
        lt1 (wI S2 r0 0 1 ((gI S2 r0 0 1) + 1)) fun S3 =>
        (f_X11_append_p3_0_b3 r0 fuel) S3 x1 (x2 + (-8))))
def f_X11_append_p3_0 (S : xSt) (r0 : Nat) (a1 : Int) : Option (xSt) :=
  f_X11_append_p3_0_b3 r0 (fu S) S a1 24
set_option maxRecDepth 100000 in
set_option maxHeartbeats 4000000 in
theorem k_X11_append_p3_0_b3 {K : xCtx} {E : xE} {b : Nat} (hC : xOK K cX11_append RX11 3 (rmE 1 b)) (hZ : xZ K) {S' : xSt} (hE : xEnd K E none (YQv E S')) {r0 : Nat} (hk0 : xkd E r0 = 3) (hA0 : xFam E r0) : ∀ (fuel : Nat) (S : xSt) (x1 : Int) (x2 : Int), f_X11_append_p3_0_b3 r0 fuel S x1 x2 = some S' → WG K E 3 [(0, vr E r0 0), (1, vi x1), (2, vi x2)] [] S := by
  intro fuel
  induction fuel with
  | zero => intro S x1 x2 h; cases h
  | succ fuel ih =>
    intro S x1 x2 h
    rw [f_X11_append_p3_0_b3] at h
    refine g_iload_n hC rfl 2 rfl (rfl : 3 + 1 = 4) (xdt tt_X11_append 2 rfl) ?_
    refine g_if_lt hC (show ((4 : Nat) : Int) + 44 = ((48 : Nat) : Int) by decide) (rfl : 4 + 3 = 7) (xdt tt_X11_append 3 rfl) (fun hc5 => ?_) (fun hc5 => ?_)
    · replace h := (if_pos hc5).symm.trans h
      cases h
      exact g_vret hC hE (xdt tt_X11_append 27 rfl)
    · replace h := (if_neg hc5).symm.trans h
      refine g_aload_n hC rfl 0 rfl (rfl : 7 + 1 = 8) (xdt tt_X11_append 4 rfl) ?_
      refine g_getI hC hk0 kclX11 ly3_0 1 (by decide) rfl q473 (rfl : 8 + 3 = 11) (xdt tt_X11_append 5 rfl) ?_
      refine g_aload_n hC rfl 0 rfl (rfl : 11 + 1 = 12) (xdt tt_X11_append 6 rfl) ?_
      refine g_getP hC hk0 kclX11 ly3_0 0 (by decide) (rfl : r0 + 0 = r0) rfl q10 (rfl : 12 + 3 = 15) (xdt tt_X11_append 7 rfl) ?_
      refine g_alen hC hk0 ly3_1 (z := 600) (by decide) (rfl : 15 + 1 = 16) (xdt tt_X11_append 8 rfl) ?_
      refine g_icmp_ge hC (show ((16 : Nat) : Int) + 32 = ((48 : Nat) : Int) by decide) (rfl : 16 + 3 = 19) (xdt tt_X11_append 9 rfl) (fun hc4 => ?_) (fun hc4 => ?_)
      · replace h := (if_pos hc4).symm.trans h
        cases h
        exact g_vret hC hE (xdt tt_X11_append 27 rfl)
      · replace h := (if_neg hc4).symm.trans h
        refine g_aload_n hC rfl 0 rfl (rfl : 19 + 1 = 20) (xdt tt_X11_append 10 rfl) ?_
        refine g_getP hC hk0 kclX11 ly3_0 0 (by decide) (rfl : r0 + 0 = r0) rfl q10 (rfl : 20 + 3 = 23) (xdt tt_X11_append 11 rfl) ?_
        refine g_aload_n hC rfl 0 rfl (rfl : 23 + 1 = 24) (xdt tt_X11_append 12 rfl) ?_
        refine g_getI hC hk0 kclX11 ly3_0 1 (by decide) rfl q473 (rfl : 24 + 3 = 27) (xdt tt_X11_append 13 rfl) ?_
        refine g_iload_n hC rfl 1 rfl (rfl : 27 + 1 = 28) (xdt tt_X11_append 14 rfl) ?_
        refine g_iload_n hC rfl 2 rfl (rfl : 28 + 1 = 29) (xdt tt_X11_append 15 rfl) ?_
        refine g_ishr hC (rfl : 29 + 1 = 30) (xdt tt_X11_append 16 rfl) ?_
        refine g_i2b hC (rfl : 30 + 1 = 31) (xdt tt_X11_append 17 rfl) ?_
        obtain ⟨hi1, h⟩ := ckI_i h
        obtain ⟨S2, hS2, h⟩ := lt1_i h
        refine g_bast hC hk0 ly3_1 hi1 rfl hS2 (rfl : 31 + 1 = 32) (xdt tt_X11_append 18 rfl) ?_
        refine g_aload_n hC rfl 0 rfl (rfl : 32 + 1 = 33) (xdt tt_X11_append 19 rfl) ?_
        refine g_dup hC rfl (rfl : 33 + 1 = 34) (xdt tt_X11_append 20 rfl) ?_
        refine g_getI hC hk0 kclX11 ly3_0 1 (by decide) rfl q473 (rfl : 34 + 3 = 37) (xdt tt_X11_append 21 rfl) ?_
        refine g_iconst hC (rfl : 37 + 1 = 38) (xdt tt_X11_append 22 rfl) ?_
        refine g_iadd hC (rfl : 38 + 1 = 39) (xdt tt_X11_append 23 rfl) ?_
        obtain ⟨S3, hS3, h⟩ := lt1_i h
        refine g_putI hC hk0 kclX11 ly3_0 1 (by decide) rfl rfl rfl q473 hS3 (rfl : 39 + 3 = 42) (xdt tt_X11_append 24 rfl) ?_
        refine g_iinc hC 2 rfl (by decide) (lv' := [(2, vi (x2 + (-8))), (0, vr E r0 0), (1, vi x1)]) rfl (rfl : 42 + 3 = 45) (xdt tt_X11_append 25 rfl) ?_
        refine g_goto hC (show ((45 : Nat) : Int) + (-42) = ((3 : Nat) : Int) by decide) (xdt tt_X11_append 26 rfl) ?_
        refine g_sub [1, 2, 0] (lv' := [(0, vr E r0 0), (1, vi x1), (2, vi (x2 + (-8)))]) rfl ?_
        exact ih _ _ _ h
set_option maxRecDepth 100000 in
set_option maxHeartbeats 4000000 in
theorem c_X11_append_p3_0 (l : Launch) {E : xE} {S S' : xSt} {r0 : Nat} {a1 : Int} (hk0 : xkd E r0 = 3) (hA0 : xFam E r0) (h : f_X11_append_p3_0 S r0 a1 = some S') : Met l yX11_append (xws yX11_append cX11_append 3 none) (rmD 1) (YPc E [vr E r0 0, vi a1] S) (YQv E S') 0 0 (xA E) := by
  unfold f_X11_append_p3_0 at h
  refine met_v (by decide +kernel) (Nat.le_of_ble_eq_true rfl) (fun K hC hZ hE => ?_)
  have hC : xOK K cX11_append RX11 3 (rmE 1 0) := hC
  show WG K E 0 [(0, vr E r0 0), (1, vi a1)] [] S
  refine g_bipush hC (by decide) (rfl : 0 + 2 = 2) (xdt tt_X11_append 0 rfl) ?_
  refine g_istore_n hC rfl (by decide) (lv' := [(2, vi 24), (0, vr E r0 0), (1, vi a1)]) rfl (rfl : 2 + 1 = 3) (xdt tt_X11_append 1 rfl) ?_
  refine g_sub [1, 2, 0] (lv' := [(0, vr E r0 0), (1, vi a1), (2, vi 24)]) rfl ?_
  exact k_X11_append_p3_0_b3 hC hZ hE hk0 hA0 _ _ _ _ h
def f_X11_feed_p3_0 (S : xSt) (r0 : Nat) (a1 : Int) (a2 : Int) (a3 : Int) (a4 : Int) (a5 : Int) : Option (Int × xSt) :=
  if wr ((gI S r0 0 1) + 20) ≤ wr 600 then
    (bd (f_X11_append_p3_0 S r0 a1) fun S2 =>
    bd (f_X11_append_p3_0 S2 r0 a2) fun S4 =>
    bd (f_X11_append_p3_0 S4 r0 a3) fun S6 =>
    bd (f_X11_append_p3_0 S6 r0 a4) fun S8 =>
    bd (f_X11_append_p3_0 S8 r0 a5) fun S10 =>
    some ((gI S10 r0 0 1), S10))
  else
    (some ((-1), S))
set_option maxRecDepth 100000 in
set_option maxHeartbeats 4000000 in
theorem c_X11_feed_p3_0 (l : Launch) {E : xE} {S S' : xSt} {r0 : Nat} {a1 : Int} {a2 : Int} {a3 : Int} {a4 : Int} {a5 : Int} (hk0 : xkd E r0 = 3) (hA0 : xFam E r0) {v : Int} (h : f_X11_feed_p3_0 S r0 a1 a2 a3 a4 a5 = some (v, S')) : Met l yX11_feed (xws yX11_feed cX11_feed 6 (some .int)) (rmD 2) (YPc E [vr E r0 0, vi a1, vi a2, vi a3, vi a4, vi a5] S) (YQi E v S') 0 0 (xA E) := by
  unfold f_X11_feed_p3_0 at h
  refine met_i (by decide +kernel) (Nat.le_of_ble_eq_true rfl) (fun K hC hZ hE => ?_)
  have hC : xOK K cX11_feed RX11 6 (rmE 2 0) := hC
  show WG K E 0 [(0, vr E r0 0), (1, vi a1), (2, vi a2), (3, vi a3), (4, vi a4), (5, vi a5)] [] S
  refine g_aload_n hC rfl 0 rfl (rfl : 0 + 1 = 1) (xdt tt_X11_feed 0 rfl) ?_
  refine g_getI hC hk0 kclX11 ly3_0 1 (by decide) rfl q473 (rfl : 1 + 3 = 4) (xdt tt_X11_feed 1 rfl) ?_
  refine g_bipush hC (by decide) (rfl : 4 + 2 = 6) (xdt tt_X11_feed 2 rfl) ?_
  refine g_iadd hC (rfl : 6 + 1 = 7) (xdt tt_X11_feed 3 rfl) ?_
  refine g_sipush hC (by decide) (rfl : 7 + 3 = 10) (xdt tt_X11_feed 4 rfl) ?_
  refine g_icmp_le hC (show ((10 : Nat) : Int) + 5 = ((15 : Nat) : Int) by decide) (rfl : 10 + 3 = 13) (xdt tt_X11_feed 5 rfl) (fun hc11 => ?_) (fun hc11 => ?_)
  · replace h := (if_pos hc11).symm.trans h
    refine g_aload_n hC rfl 0 rfl (rfl : 15 + 1 = 16) (xdt tt_X11_feed 8 rfl) ?_
    refine g_iload_n hC rfl 1 rfl (rfl : 16 + 1 = 17) (xdt tt_X11_feed 9 rfl) ?_
    obtain ⟨S2, hc1, h⟩ := bd_i h
    refine g_callVv hC hZ hk0 kclX11 ly3_0 m_X11_append q474 (Nat.le_of_ble_eq_true rfl) [vi a1] rfl (fun l => c_X11_append_p3_0 l hk0 hA0 hc1) rfl (Nat.le_of_ble_eq_true rfl) (rfl : 17 + 3 = 20) (xdt tt_X11_feed 10 rfl) ?_
    refine g_aload_n hC rfl 0 rfl (rfl : 20 + 1 = 21) (xdt tt_X11_feed 11 rfl) ?_
    refine g_iload_n hC rfl 2 rfl (rfl : 21 + 1 = 22) (xdt tt_X11_feed 12 rfl) ?_
    obtain ⟨S4, hc3, h⟩ := bd_i h
    refine g_callVv hC hZ hk0 kclX11 ly3_0 m_X11_append q474 (Nat.le_of_ble_eq_true rfl) [vi a2] rfl (fun l => c_X11_append_p3_0 l hk0 hA0 hc3) rfl (Nat.le_of_ble_eq_true rfl) (rfl : 22 + 3 = 25) (xdt tt_X11_feed 13 rfl) ?_
    refine g_aload_n hC rfl 0 rfl (rfl : 25 + 1 = 26) (xdt tt_X11_feed 14 rfl) ?_
    refine g_iload_n hC rfl 3 rfl (rfl : 26 + 1 = 27) (xdt tt_X11_feed 15 rfl) ?_
    obtain ⟨S6, hc5, h⟩ := bd_i h
    refine g_callVv hC hZ hk0 kclX11 ly3_0 m_X11_append q474 (Nat.le_of_ble_eq_true rfl) [vi a3] rfl (fun l => c_X11_append_p3_0 l hk0 hA0 hc5) rfl (Nat.le_of_ble_eq_true rfl) (rfl : 27 + 3 = 30) (xdt tt_X11_feed 16 rfl) ?_
    refine g_aload_n hC rfl 0 rfl (rfl : 30 + 1 = 31) (xdt tt_X11_feed 17 rfl) ?_
    refine g_iload hC 4 rfl (rfl : 31 + 2 = 33) (xdt tt_X11_feed 18 rfl) ?_
    obtain ⟨S8, hc7, h⟩ := bd_i h
    refine g_callVv hC hZ hk0 kclX11 ly3_0 m_X11_append q474 (Nat.le_of_ble_eq_true rfl) [vi a4] rfl (fun l => c_X11_append_p3_0 l hk0 hA0 hc7) rfl (Nat.le_of_ble_eq_true rfl) (rfl : 33 + 3 = 36) (xdt tt_X11_feed 19 rfl) ?_
    refine g_aload_n hC rfl 0 rfl (rfl : 36 + 1 = 37) (xdt tt_X11_feed 20 rfl) ?_
    refine g_iload hC 5 rfl (rfl : 37 + 2 = 39) (xdt tt_X11_feed 21 rfl) ?_
    obtain ⟨S10, hc9, h⟩ := bd_i h
    refine g_callVv hC hZ hk0 kclX11 ly3_0 m_X11_append q474 (Nat.le_of_ble_eq_true rfl) [vi a5] rfl (fun l => c_X11_append_p3_0 l hk0 hA0 hc9) rfl (Nat.le_of_ble_eq_true rfl) (rfl : 39 + 3 = 42) (xdt tt_X11_feed 22 rfl) ?_
    refine g_aload_n hC rfl 0 rfl (rfl : 42 + 1 = 43) (xdt tt_X11_feed 23 rfl) ?_
    refine g_getI hC hk0 kclX11 ly3_0 1 (by decide) rfl q473 (rfl : 43 + 3 = 46) (xdt tt_X11_feed 24 rfl) ?_
    cases h
    exact g_iret hC hE (xdt tt_X11_feed 25 rfl)
  · replace h := (if_neg hc11).symm.trans h
    refine g_iconst hC (rfl : 13 + 1 = 14) (xdt tt_X11_feed 6 rfl) ?_
    cases h
    exact g_iret hC hE (xdt tt_X11_feed 7 rfl)
def f_X11_truncate_p3_0 (S : xSt) (r0 : Nat) (a1 : Int) : Option (Int × xSt) :=
  if wr a1 < 0 then
    (some (0, S))
  else
    (if wr a1 ≤ wr (gI S r0 0 1) then
      (lt1 (wI S r0 0 1 a1) fun S1 =>
      some (1, S1))
    else
      (some (0, S)))
set_option maxRecDepth 100000 in
set_option maxHeartbeats 4000000 in
theorem c_X11_truncate_p3_0 (l : Launch) {E : xE} {S S' : xSt} {r0 : Nat} {a1 : Int} (hk0 : xkd E r0 = 3) (hA0 : xFam E r0) {v : Int} (h : f_X11_truncate_p3_0 S r0 a1 = some (v, S')) : Met l yX11_truncate (xws yX11_truncate cX11_truncate 2 (some .boolean)) (rmD 1) (YPc E [vr E r0 0, vi a1] S) (YQz E v S') 0 0 (xA E) := by
  unfold f_X11_truncate_p3_0 at h
  refine met_z (by decide +kernel) (Nat.le_of_ble_eq_true rfl) (fun K hC hZ hE => ?_)
  have hC : xOK K cX11_truncate RX11 2 (rmE 1 0) := hC
  show WG K E 0 [(0, vr E r0 0), (1, vi a1)] [] S
  refine g_iload_n hC rfl 1 rfl (rfl : 0 + 1 = 1) (xdt tt_X11_truncate 0 rfl) ?_
  refine g_if_lt hC (show ((1 : Nat) : Int) + 11 = ((12 : Nat) : Int) by decide) (rfl : 1 + 3 = 4) (xdt tt_X11_truncate 1 rfl) (fun hc3 => ?_) (fun hc3 => ?_)
  · replace h := (if_pos hc3).symm.trans h
    refine g_iconst hC (rfl : 12 + 1 = 13) (xdt tt_X11_truncate 6 rfl) ?_
    cases h
    exact g_zret hC hE (Or.inl rfl) (xdt tt_X11_truncate 7 rfl)
  · replace h := (if_neg hc3).symm.trans h
    refine g_iload_n hC rfl 1 rfl (rfl : 4 + 1 = 5) (xdt tt_X11_truncate 2 rfl) ?_
    refine g_aload_n hC rfl 0 rfl (rfl : 5 + 1 = 6) (xdt tt_X11_truncate 3 rfl) ?_
    refine g_getI hC hk0 kclX11 ly3_0 1 (by decide) rfl q473 (rfl : 6 + 3 = 9) (xdt tt_X11_truncate 4 rfl) ?_
    refine g_icmp_le hC (show ((9 : Nat) : Int) + 5 = ((14 : Nat) : Int) by decide) (rfl : 9 + 3 = 12) (xdt tt_X11_truncate 5 rfl) (fun hc2 => ?_) (fun hc2 => ?_)
    · replace h := (if_pos hc2).symm.trans h
      refine g_aload_n hC rfl 0 rfl (rfl : 14 + 1 = 15) (xdt tt_X11_truncate 8 rfl) ?_
      refine g_iload_n hC rfl 1 rfl (rfl : 15 + 1 = 16) (xdt tt_X11_truncate 9 rfl) ?_
      obtain ⟨S1, hS1, h⟩ := lt1_i h
      refine g_putI hC hk0 kclX11 ly3_0 1 (by decide) rfl rfl rfl q473 hS1 (rfl : 16 + 3 = 19) (xdt tt_X11_truncate 10 rfl) ?_
      refine g_iconst hC (rfl : 19 + 1 = 20) (xdt tt_X11_truncate 11 rfl) ?_
      cases h
      exact g_zret hC hE (Or.inr rfl) (xdt tt_X11_truncate 12 rfl)
    · replace h := (if_neg hc2).symm.trans h
      refine g_iconst hC (rfl : 12 + 1 = 13) (xdt tt_X11_truncate 6 rfl) ?_
      cases h
      exact g_zret hC hE (Or.inl rfl) (xdt tt_X11_truncate 7 rfl)
def f_X5_clear_p2_0 (S : xSt) (r0 : Nat) : Option (xSt) :=
  lt1 (wA S r0 1 (cpI (tbI 4) (S.2.1 r0 1) (wr 0).toNat (wr 0).toNat (wr 6).toNat)) fun S1 =>
  lt1 (wI S1 r0 2 2 0) fun S2 =>
  lt1 (wI S2 r0 0 10 0) fun S3 =>
  lt1 (wI S3 r0 9 0 0) fun S4 =>
  some S4
set_option maxRecDepth 100000 in
set_option maxHeartbeats 4000000 in
theorem c_X5_clear_p2_0 (l : Launch) {E : xE} {S S' : xSt} {r0 : Nat} (hk0 : xkd E r0 = 2) (h : f_X5_clear_p2_0 S r0 = some S') : Met l yX5_clear (xws yX5_clear cX5_clear 1 none) (rmD 2) (YPc E [vr E r0 0] S) (YQv E S') 0 0 (xA E) := by
  unfold f_X5_clear_p2_0 at h
  refine met_v (by decide +kernel) (Nat.le_of_ble_eq_true rfl) (fun K hC hZ hE => ?_)
  have hC : xOK K cX5_clear RX5 1 (rmE 2 0) := hC
  show WG K E 0 [(0, vr E r0 0)] [] S
  refine g_getsN hC 4 rfl (List.mem_of_getElem? (i := 0) rfl) (rfl : 0 + 3 = 3) (xdt tt_X5_clear 0 rfl) ?_
  refine g_iconst hC (rfl : 3 + 1 = 4) (xdt tt_X5_clear 1 rfl) ?_
  refine g_aload_n hC rfl 0 rfl (rfl : 4 + 1 = 5) (xdt tt_X5_clear 2 rfl) ?_
  refine g_getP hC hk0 kclX5 ly2_0 0 (by decide) (rfl : r0 + 0 = r0) rfl q55 (rfl : 5 + 3 = 8) (xdt tt_X5_clear 3 rfl) ?_
  refine g_iconst hC (rfl : 8 + 1 = 9) (xdt tt_X5_clear 4 rfl) ?_
  refine g_bipush hC (by decide) (rfl : 9 + 2 = 11) (xdt tt_X5_clear 5 rfl) ?_
  obtain ⟨S1, hS1, h⟩ := lt1_i h
  refine g_copyT hC (q := 4) rfl hk0 ly2_1 (by decide) q77 q78 q79 q80 (Nat.le_of_ble_eq_true rfl) (Nat.le_of_ble_eq_true rfl) hS1 (rfl : 11 + 3 = 14) (xdt tt_X5_clear 6 rfl) ?_
  refine g_aload_n hC rfl 0 rfl (rfl : 14 + 1 = 15) (xdt tt_X5_clear 7 rfl) ?_
  refine g_getP hC hk0 kclX5 ly2_0 1 (by decide) (rfl : r0 + 0 = r0) rfl q59 (rfl : 15 + 3 = 18) (xdt tt_X5_clear 8 rfl) ?_
  refine g_iconst hC (rfl : 18 + 1 = 19) (xdt tt_X5_clear 9 rfl) ?_
  obtain ⟨S2, hS2, h⟩ := lt1_i h
  refine g_putI hC hk0 kclX8 ly2_2 2 (by decide) rfl rfl rfl q81 hS2 (rfl : 19 + 3 = 22) (xdt tt_X5_clear 10 rfl) ?_
  refine g_aload_n hC rfl 0 rfl (rfl : 22 + 1 = 23) (xdt tt_X5_clear 11 rfl) ?_
  refine g_iconst hC (rfl : 23 + 1 = 24) (xdt tt_X5_clear 12 rfl) ?_
  obtain ⟨S3, hS3, h⟩ := lt1_i h
  refine g_putI hC hk0 kclX5 ly2_0 10 (by decide) rfl rfl rfl q82 hS3 (rfl : 24 + 3 = 27) (xdt tt_X5_clear 13 rfl) ?_
  refine g_aload_n hC rfl 0 rfl (rfl : 27 + 1 = 28) (xdt tt_X5_clear 14 rfl) ?_
  refine g_getP hC hk0 kclX5 ly2_0 6 (by decide) (rfl : r0 + 0 = r0) rfl q64 (rfl : 28 + 3 = 31) (xdt tt_X5_clear 15 rfl) ?_
  refine g_iconst hC (rfl : 31 + 1 = 32) (xdt tt_X5_clear 16 rfl) ?_
  refine g_iconst hC (rfl : 32 + 1 = 33) (xdt tt_X5_clear 17 rfl) ?_
  obtain ⟨S4, hS4, h⟩ := lt1_i h
  refine g_iast hC hk0 ly2_9 (by decide) (by decide) hS4 (rfl : 33 + 1 = 34) (xdt tt_X5_clear 18 rfl) ?_
  cases h
  exact g_vret hC hE (xdt tt_X5_clear 19 rfl)
def f_X3_begin_p3_2_3_1_2_0_b40 (r0 : Nat) (r1 : Nat) (r3 : Nat) : Nat → xSt → Int → Option (xSt)
  | 0, _, _ => none
  | fuel + 1, S, x4 =>
    if wr 6 ≤ wr x4 then
      (lt1 (wI S r0 2 11 0) fun S9 =>
      lt1 (wI S9 r0 2 12 (-1)) fun S10 =>
      some S10)
    else
      (ckI x4 6 <|
      lt1 (wI S r0 3 (wr x4).toNat 0) fun S12 =>
      (f_X3_begin_p3_2_3_1_2_0_b40 r0 r1 r3 fuel) S12 (x4 + 1))
def f_X3_begin_p3_2_3_1_2_0 (S : xSt) (r0 : Nat) (r1 : Nat) (a2 : Int) (r3 : Nat) : Option (xSt) :=
  lt1 (wP S r0 2 0 (r1, 1)) fun S1 =>
  lt1 (wI S1 r0 2 1 (iMin a2 600)) fun S2 =>
  lt1 (wP S2 r0 2 2 (r3, 0)) fun S3 =>
  ckP S3 r0 2 2 2 0 fun rg4 =>
  bd (f_X5_clear_p2_0 S3 rg4) fun S6 =>
  lt1 (wI S6 r0 2 5 0) fun S7 =>
  lt1 (wI S7 r0 2 10 0) fun S8 =>
  f_X3_begin_p3_2_3_1_2_0_b40 r0 r1 r3 (fu S8) S8 0
set_option maxRecDepth 100000 in
set_option maxHeartbeats 4000000 in
theorem k_X3_begin_p3_2_3_1_2_0_b40 {K : xCtx} {E : xE} {b : Nat} (hC : xOK K cX3_begin RX3 5 (rmE 3 b)) (hZ : xZ K) {S' : xSt} (hE : xEnd K E none (YQv E S')) {r0 : Nat} {r1 : Nat} {r3 : Nat} (hk0 : xkd E r0 = 3) (hA0 : xFam E r0) (hk1 : xkd E r1 = 3) (hA1 : xFam E r1) (hk3 : xkd E r3 = 2) : ∀ (fuel : Nat) (S : xSt) (x4 : Int), f_X3_begin_p3_2_3_1_2_0_b40 r0 r1 r3 fuel S x4 = some S' → WG K E 40 [(0, vr E r0 2), (4, vi x4)] [] S := by
  intro fuel
  induction fuel with
  | zero => intro S x4 h; cases h
  | succ fuel ih =>
    intro S x4 h
    rw [f_X3_begin_p3_2_3_1_2_0_b40] at h
    refine g_iload hC 1 rfl (rfl : 40 + 2 = 42) (xdt tt_X3_begin 23 rfl) ?_
    refine g_bipush hC (by decide) (rfl : 42 + 2 = 44) (xdt tt_X3_begin 24 rfl) ?_
    refine g_icmp_ge hC (show ((44 : Nat) : Int) + 17 = ((61 : Nat) : Int) by decide) (rfl : 44 + 3 = 47) (xdt tt_X3_begin 25 rfl) (fun hc13 => ?_) (fun hc13 => ?_)
    · replace h := (if_pos hc13).symm.trans h
      refine g_aload_n hC rfl 0 rfl (rfl : 61 + 1 = 62) (xdt tt_X3_begin 33 rfl) ?_
      refine g_iconst hC (rfl : 62 + 1 = 63) (xdt tt_X3_begin 34 rfl) ?_
      obtain ⟨S9, hS9, h⟩ := lt1_i h
      refine g_putI hC hk0 kclX3 ly3_2 11 (by decide) rfl rfl rfl q501 hS9 (rfl : 63 + 3 = 66) (xdt tt_X3_begin 35 rfl) ?_
      refine g_aload_n hC rfl 0 rfl (rfl : 66 + 1 = 67) (xdt tt_X3_begin 36 rfl) ?_
      refine g_iconst hC (rfl : 67 + 1 = 68) (xdt tt_X3_begin 37 rfl) ?_
      obtain ⟨S10, hS10, h⟩ := lt1_i h
      refine g_putI hC hk0 kclX3 ly3_2 12 (by decide) rfl rfl rfl q50 hS10 (rfl : 68 + 3 = 71) (xdt tt_X3_begin 38 rfl) ?_
      cases h
      exact g_vret hC hE (xdt tt_X3_begin 39 rfl)
    · replace h := (if_neg hc13).symm.trans h
      refine g_aload_n hC rfl 0 rfl (rfl : 47 + 1 = 48) (xdt tt_X3_begin 26 rfl) ?_
      refine g_getP hC hk0 kclX3 ly3_2 7 (by decide) (rfl : r0 + 0 = r0) rfl q43 (rfl : 48 + 3 = 51) (xdt tt_X3_begin 27 rfl) ?_
      refine g_iload hC 1 rfl (rfl : 51 + 2 = 53) (xdt tt_X3_begin 28 rfl) ?_
      refine g_iconst hC (rfl : 53 + 1 = 54) (xdt tt_X3_begin 29 rfl) ?_
      obtain ⟨hi11, h⟩ := ckI_i h
      obtain ⟨S12, hS12, h⟩ := lt1_i h
      refine g_zast hC hk0 ly3_3 hi11 (Or.inl rfl) rfl hS12 (rfl : 54 + 1 = 55) (xdt tt_X3_begin 30 rfl) ?_
      refine g_iinc hC 1 rfl (by decide) (lv' := [(4, vi (x4 + 1)), (0, vr E r0 2)]) rfl (rfl : 55 + 3 = 58) (xdt tt_X3_begin 31 rfl) ?_
      refine g_goto hC (show ((58 : Nat) : Int) + (-18) = ((40 : Nat) : Int) by decide) (xdt tt_X3_begin 32 rfl) ?_
      refine g_sub [1, 0] (lv' := [(0, vr E r0 2), (4, vi (x4 + 1))]) rfl ?_
      exact ih _ _ h
set_option maxRecDepth 100000 in
set_option maxHeartbeats 4000000 in
theorem c_X3_begin_p3_2_3_1_2_0 (l : Launch) {E : xE} {S S' : xSt} {r0 : Nat} {r1 : Nat} {a2 : Int} {r3 : Nat} (hk0 : xkd E r0 = 3) (hA0 : xFam E r0) (hk1 : xkd E r1 = 3) (hA1 : xFam E r1) (hk3 : xkd E r3 = 2) (h : f_X3_begin_p3_2_3_1_2_0 S r0 r1 a2 r3 = some S') : Met l yX3_begin (xws yX3_begin cX3_begin 5 none) (rmD 3) (YPc E [vr E r0 2, vr E r1 1, vi a2, vr E r3 0] S) (YQv E S') 0 0 (xA E) := by
  unfold f_X3_begin_p3_2_3_1_2_0 at h
  refine met_v (by decide +kernel) (Nat.le_of_ble_eq_true rfl) (fun K hC hZ hE => ?_)
  have hC : xOK K cX3_begin RX3 5 (rmE 3 0) := hC
  show WG K E 0 [(0, vr E r0 2), (1, vr E r1 1), (2, vi a2), (3, vr E r3 0)] [] S
  refine g_aload_n hC rfl 0 rfl (rfl : 0 + 1 = 1) (xdt tt_X3_begin 0 rfl) ?_
  refine g_aload_n hC rfl 1 rfl (rfl : 1 + 1 = 2) (xdt tt_X3_begin 1 rfl) ?_
  obtain ⟨S1, hS1, h⟩ := lt1_i h
  refine g_putV hC hk0 kclX3 ly3_2 0 (by decide) rfl rfl q47 (fun _ => rfl) (fun _ => rfl) (by decide) hS1 (rfl : 2 + 3 = 5) (xdt tt_X3_begin 2 rfl) ?_
  refine g_aload_n hC rfl 0 rfl (rfl : 5 + 1 = 6) (xdt tt_X3_begin 3 rfl) ?_
  refine g_iload_n hC rfl 2 rfl (rfl : 6 + 1 = 7) (xdt tt_X3_begin 4 rfl) ?_
  refine g_aload_n hC rfl 1 rfl (rfl : 7 + 1 = 8) (xdt tt_X3_begin 5 rfl) ?_
  refine g_alen hC hk1 ly3_1 (z := 600) (by decide) (rfl : 8 + 1 = 9) (xdt tt_X3_begin 6 rfl) ?_
  refine g_mmin hC hZ q499 q259 q243 q260 (Nat.le_of_ble_eq_true rfl) (Nat.le_of_ble_eq_true rfl) (rfl : 9 + 3 = 12) (xdt tt_X3_begin 7 rfl) ?_
  obtain ⟨S2, hS2, h⟩ := lt1_i h
  refine g_putI hC hk0 kclX3 ly3_2 1 (by decide) rfl rfl rfl q492 hS2 (rfl : 12 + 3 = 15) (xdt tt_X3_begin 8 rfl) ?_
  refine g_aload_n hC rfl 0 rfl (rfl : 15 + 1 = 16) (xdt tt_X3_begin 9 rfl) ?_
  refine g_aload_n hC rfl 3 rfl (rfl : 16 + 1 = 17) (xdt tt_X3_begin 10 rfl) ?_
  obtain ⟨S3, hS3, h⟩ := lt1_i h
  refine g_putV hC hk0 kclX3 ly3_2 2 (by decide) rfl rfl q49 (fun _ => rfl) (fun _ => rfl) (by decide) hS3 (rfl : 17 + 3 = 20) (xdt tt_X3_begin 11 rfl) ?_
  refine g_aload_n hC rfl 0 rfl (rfl : 20 + 1 = 21) (xdt tt_X3_begin 12 rfl) ?_
  obtain ⟨rg4, hrg4, grg4, h⟩ := ckP_i h
  refine g_getV hC hk0 kclX3 ly3_2 2 (by decide) rfl hrg4 grg4 (by decide) q49 (rfl : 21 + 3 = 24) (xdt tt_X3_begin 13 rfl) (fun krg4 => ?_)
  obtain ⟨S6, hc5, h⟩ := bd_i h
  refine g_callVv hC hZ krg4 kclX5 ly2_0 m_X5_clear q502 (Nat.le_of_ble_eq_true rfl) [] rfl (fun l => c_X5_clear_p2_0 l krg4 hc5) rfl (Nat.le_of_ble_eq_true rfl) (rfl : 24 + 3 = 27) (xdt tt_X3_begin 14 rfl) ?_
  refine g_aload_n hC rfl 0 rfl (rfl : 27 + 1 = 28) (xdt tt_X3_begin 15 rfl) ?_
  refine g_iconst hC (rfl : 28 + 1 = 29) (xdt tt_X3_begin 16 rfl) ?_
  obtain ⟨S7, hS7, h⟩ := lt1_i h
  refine g_putI hC hk0 kclX3 ly3_2 5 (by decide) rfl rfl rfl q500 hS7 (rfl : 29 + 3 = 32) (xdt tt_X3_begin 17 rfl) ?_
  refine g_aload_n hC rfl 0 rfl (rfl : 32 + 1 = 33) (xdt tt_X3_begin 18 rfl) ?_
  refine g_iconst hC (rfl : 33 + 1 = 34) (xdt tt_X3_begin 19 rfl) ?_
  obtain ⟨S8, hS8, h⟩ := lt1_i h
  refine g_putI hC hk0 kclX3 ly3_2 10 (by decide) rfl rfl rfl q494 hS8 (rfl : 34 + 3 = 37) (xdt tt_X3_begin 20 rfl) ?_
  refine g_iconst hC (rfl : 37 + 1 = 38) (xdt tt_X3_begin 21 rfl) ?_
  refine g_istore hC (by decide) (lv' := [(4, vi 0), (0, vr E r0 2), (1, vr E r1 1), (2, vi a2), (3, vr E r3 0)]) rfl (rfl : 38 + 2 = 40) (xdt tt_X3_begin 22 rfl) ?_
  refine g_sub [1, 0] (lv' := [(0, vr E r0 2), (4, vi 0)]) rfl ?_
  exact k_X3_begin_p3_2_3_1_2_0_b40 hC hZ hE hk0 hA0 hk1 hA1 hk3 _ _ _ h
def f_X3_fail_p3_2 (S : xSt) (r0 : Nat) (a1 : Int) : Option (Int × xSt) :=
  lt1 (wI S r0 2 11 a1) fun S1 =>
  lt1 (wI S1 r0 2 12 (gI S1 r0 2 4)) fun S2 =>
  some (0, S2)
set_option maxRecDepth 100000 in
set_option maxHeartbeats 4000000 in
theorem c_X3_fail_p3_2 (l : Launch) {E : xE} {S S' : xSt} {r0 : Nat} {a1 : Int} (hk0 : xkd E r0 = 3) (hA0 : xFam E r0) {v : Int} (h : f_X3_fail_p3_2 S r0 a1 = some (v, S')) : Met l yX3_fail (xws yX3_fail cX3_fail 2 (some .boolean)) (rmD 1) (YPc E [vr E r0 2, vi a1] S) (YQz E v S') 0 0 (xA E) := by
  unfold f_X3_fail_p3_2 at h
  refine met_z (by decide +kernel) (Nat.le_of_ble_eq_true rfl) (fun K hC hZ hE => ?_)
  have hC : xOK K cX3_fail RX3 2 (rmE 1 0) := hC
  show WG K E 0 [(0, vr E r0 2), (1, vi a1)] [] S
  refine g_aload_n hC rfl 0 rfl (rfl : 0 + 1 = 1) (xdt tt_X3_fail 0 rfl) ?_
  refine g_iload_n hC rfl 1 rfl (rfl : 1 + 1 = 2) (xdt tt_X3_fail 1 rfl) ?_
  obtain ⟨S1, hS1, h⟩ := lt1_i h
  refine g_putI hC hk0 kclX3 ly3_2 11 (by decide) rfl rfl rfl q501 hS1 (rfl : 2 + 3 = 5) (xdt tt_X3_fail 2 rfl) ?_
  refine g_aload_n hC rfl 0 rfl (rfl : 5 + 1 = 6) (xdt tt_X3_fail 3 rfl) ?_
  refine g_aload_n hC rfl 0 rfl (rfl : 6 + 1 = 7) (xdt tt_X3_fail 4 rfl) ?_
  refine g_getI hC hk0 kclX3 ly3_2 4 (by decide) rfl q507 (rfl : 7 + 3 = 10) (xdt tt_X3_fail 5 rfl) ?_
  obtain ⟨S2, hS2, h⟩ := lt1_i h
  refine g_putI hC hk0 kclX3 ly3_2 12 (by decide) rfl rfl rfl q50 hS2 (rfl : 10 + 3 = 13) (xdt tt_X3_fail 6 rfl) ?_
  refine g_iconst hC (rfl : 13 + 1 = 14) (xdt tt_X3_fail 7 rfl) ?_
  cases h
  exact g_zret hC hE (Or.inl rfl) (xdt tt_X3_fail 8 rfl)
def f_X3_endOfNumber_p3_2_b71 (r0 : Nat) (S : xSt) (x1 : Int) (x2 : Int) : Option (Int × xSt) :=
  if wr (x1 + 2) < wr x2 then
    (lt1 (wI S r0 2 3 3) fun S2 =>
    some (x2, S2))
  else
    (lt1 (wI S r0 2 3 2) fun S3 =>
    some (x2, S3))
def f_X3_endOfNumber_p3_2_b7 (r0 : Nat) : Nat → xSt → Int → Int → Option (Int × xSt)
  | 0, _, _, _ => none
  | fuel + 1, S, x1, x2 =>
    if wr (gI S r0 2 1) ≤ wr x2 then
      (f_X3_endOfNumber_p3_2_b71 r0 S x1 x2)
    else
      (ckP S r0 2 0 3 1 fun rg5 =>
      ckI x2 600 <|
      if wr (gI S rg5 1 (wr x2).toNat) < wr 48 then
        (f_X3_endOfNumber_p3_2_b71 r0 S x1 x2)
      else
        (ckP S r0 2 0 3 1 fun rg7 =>
        ckI x2 600 <|
        if wr 57 < wr (gI S rg7 1 (wr x2).toNat) then
          (f_X3_endOfNumber_p3_2_b71 r0 S x1 x2)
        else
          (if wr (x1 + 2) ≤ wr x2 then
            ((f_X3_endOfNumber_p3_2_b7 r0 fuel) S x1 (x2 + 1))
          else
            (ckP S r0 2 0 3 1 fun rg9 =>
            ckI x2 600 <|
            lt1 (wI S r0 2 6 (((10 * (gI S r0 2 6)) + (gI S rg9 1 (wr x2).toNat)) - 48)) fun S11 =>
            (f_X3_endOfNumber_p3_2_b7 r0 fuel) S11 x1 (x2 + 1)))))
def f_X3_endOfNumber_p3_2 (S : xSt) (r0 : Nat) (a1 : Int) : Option (Int × xSt) :=
  lt1 (wI S r0 2 6 0) fun S1 =>
  f_X3_endOfNumber_p3_2_b7 r0 (fu S1) S1 a1 a1
set_option maxRecDepth 100000 in
set_option maxHeartbeats 4000000 in
theorem k_X3_endOfNumber_p3_2_b71 {K : xCtx} {E : xE} {b : Nat} (hC : xOK K cX3_endOfNumber RX3 3 (rmE 1 b)) (hZ : xZ K) {v : Int} {S' : xSt} (hE : xEnd K E (some .int) (YQi E v S')) {r0 : Nat} (hk0 : xkd E r0 = 3) (hA0 : xFam E r0) : ∀ (S : xSt) (x1 : Int) (x2 : Int), f_X3_endOfNumber_p3_2_b71 r0 S x1 x2 = some (v, S') → WG K E 71 [(0, vr E r0 2), (1, vi x1), (2, vi x2)] [] S := by
  intro S x1 x2 h
  unfold f_X3_endOfNumber_p3_2_b71 at h
  refine g_aload_n hC rfl 0 rfl (rfl : 71 + 1 = 72) (xdt tt_X3_endOfNumber 41 rfl) ?_
  refine g_iload_n hC rfl 2 rfl (rfl : 72 + 1 = 73) (xdt tt_X3_endOfNumber 42 rfl) ?_
  refine g_iload_n hC rfl 1 rfl (rfl : 73 + 1 = 74) (xdt tt_X3_endOfNumber 43 rfl) ?_
  refine g_iconst hC (rfl : 74 + 1 = 75) (xdt tt_X3_endOfNumber 44 rfl) ?_
  refine g_iadd hC (rfl : 75 + 1 = 76) (xdt tt_X3_endOfNumber 45 rfl) ?_
  refine g_icmp_gt hC (show ((76 : Nat) : Int) + 7 = ((83 : Nat) : Int) by decide) (rfl : 76 + 3 = 79) (xdt tt_X3_endOfNumber 46 rfl) (fun hc4 => ?_) (fun hc4 => ?_)
  · replace h := (if_pos hc4).symm.trans h
    refine g_iconst hC (rfl : 83 + 1 = 84) (xdt tt_X3_endOfNumber 49 rfl) ?_
    obtain ⟨S2, hS2, h⟩ := lt1_i h
    refine g_putI hC hk0 kclX3 ly3_2 3 (by decide) rfl rfl rfl q493 hS2 (rfl : 84 + 3 = 87) (xdt tt_X3_endOfNumber 50 rfl) ?_
    refine g_iload_n hC rfl 2 rfl (rfl : 87 + 1 = 88) (xdt tt_X3_endOfNumber 51 rfl) ?_
    cases h
    exact g_iret hC hE (xdt tt_X3_endOfNumber 52 rfl)
  · replace h := (if_neg hc4).symm.trans h
    refine g_iconst hC (rfl : 79 + 1 = 80) (xdt tt_X3_endOfNumber 47 rfl) ?_
    refine g_goto hC (show ((80 : Nat) : Int) + 4 = ((84 : Nat) : Int) by decide) (xdt tt_X3_endOfNumber 48 rfl) ?_
    obtain ⟨S3, hS3, h⟩ := lt1_i h
    refine g_putI hC hk0 kclX3 ly3_2 3 (by decide) rfl rfl rfl q493 hS3 (rfl : 84 + 3 = 87) (xdt tt_X3_endOfNumber 50 rfl) ?_
    refine g_iload_n hC rfl 2 rfl (rfl : 87 + 1 = 88) (xdt tt_X3_endOfNumber 51 rfl) ?_
    cases h
    exact g_iret hC hE (xdt tt_X3_endOfNumber 52 rfl)
set_option maxRecDepth 100000 in
set_option maxHeartbeats 4000000 in
theorem k_X3_endOfNumber_p3_2_b7 {K : xCtx} {E : xE} {b : Nat} (hC : xOK K cX3_endOfNumber RX3 3 (rmE 1 b)) (hZ : xZ K) {v : Int} {S' : xSt} (hE : xEnd K E (some .int) (YQi E v S')) {r0 : Nat} (hk0 : xkd E r0 = 3) (hA0 : xFam E r0) : ∀ (fuel : Nat) (S : xSt) (x1 : Int) (x2 : Int), f_X3_endOfNumber_p3_2_b7 r0 fuel S x1 x2 = some (v, S') → WG K E 7 [(0, vr E r0 2), (1, vi x1), (2, vi x2)] [] S := by
  intro fuel
  induction fuel with
  | zero => intro S x1 x2 h; cases h
  | succ fuel ih =>
    intro S x1 x2 h
    rw [f_X3_endOfNumber_p3_2_b7] at h
    refine g_iload_n hC rfl 2 rfl (rfl : 7 + 1 = 8) (xdt tt_X3_endOfNumber 5 rfl) ?_
    refine g_aload_n hC rfl 0 rfl (rfl : 8 + 1 = 9) (xdt tt_X3_endOfNumber 6 rfl) ?_
    refine g_getI hC hk0 kclX3 ly3_2 1 (by decide) rfl q492 (rfl : 9 + 3 = 12) (xdt tt_X3_endOfNumber 7 rfl) ?_
    refine g_icmp_ge hC (show ((12 : Nat) : Int) + 59 = ((71 : Nat) : Int) by decide) (rfl : 12 + 3 = 15) (xdt tt_X3_endOfNumber 8 rfl) (fun hc15 => ?_) (fun hc15 => ?_)
    · replace h := (if_pos hc15).symm.trans h
      refine g_sub [0, 1, 2] (lv' := [(0, vr E r0 2), (1, vi x1), (2, vi x2)]) rfl ?_
      exact k_X3_endOfNumber_p3_2_b71 hC hZ hE hk0 hA0 _ _ _ h
    · replace h := (if_neg hc15).symm.trans h
      refine g_aload_n hC rfl 0 rfl (rfl : 15 + 1 = 16) (xdt tt_X3_endOfNumber 9 rfl) ?_
      obtain ⟨rg5, hrg5, grg5, h⟩ := ckP_i h
      refine g_getV hC hk0 kclX3 ly3_2 0 (by decide) rfl hrg5 grg5 (by decide) q47 (rfl : 16 + 3 = 19) (xdt tt_X3_endOfNumber 10 rfl) (fun krg5 => ?_)
      refine g_iload_n hC rfl 2 rfl (rfl : 19 + 1 = 20) (xdt tt_X3_endOfNumber 11 rfl) ?_
      obtain ⟨hi6, h⟩ := ckI_i h
      refine g_bald hC krg5 ly3_1 hi6 (rfl : 20 + 1 = 21) (xdt tt_X3_endOfNumber 12 rfl) (k0 := (wr x2).toNat) rfl ?_
      refine g_bipush hC (by decide) (rfl : 21 + 2 = 23) (xdt tt_X3_endOfNumber 13 rfl) ?_
      refine g_icmp_lt hC (show ((23 : Nat) : Int) + 48 = ((71 : Nat) : Int) by decide) (rfl : 23 + 3 = 26) (xdt tt_X3_endOfNumber 14 rfl) (fun hc14 => ?_) (fun hc14 => ?_)
      · replace h := (if_pos hc14).symm.trans h
        refine g_sub [0, 1, 2] (lv' := [(0, vr E r0 2), (1, vi x1), (2, vi x2)]) rfl ?_
        exact k_X3_endOfNumber_p3_2_b71 hC hZ hE hk0 hA0 _ _ _ h
      · replace h := (if_neg hc14).symm.trans h
        refine g_aload_n hC rfl 0 rfl (rfl : 26 + 1 = 27) (xdt tt_X3_endOfNumber 15 rfl) ?_
        obtain ⟨rg7, hrg7, grg7, h⟩ := ckP_i h
        refine g_getV hC hk0 kclX3 ly3_2 0 (by decide) rfl hrg7 grg7 (by decide) q47 (rfl : 27 + 3 = 30) (xdt tt_X3_endOfNumber 16 rfl) (fun krg7 => ?_)
        refine g_iload_n hC rfl 2 rfl (rfl : 30 + 1 = 31) (xdt tt_X3_endOfNumber 17 rfl) ?_
        obtain ⟨hi8, h⟩ := ckI_i h
        refine g_bald hC krg7 ly3_1 hi8 (rfl : 31 + 1 = 32) (xdt tt_X3_endOfNumber 18 rfl) (k0 := (wr x2).toNat) rfl ?_
        refine g_bipush hC (by decide) (rfl : 32 + 2 = 34) (xdt tt_X3_endOfNumber 19 rfl) ?_
        refine g_icmp_gt hC (show ((34 : Nat) : Int) + 37 = ((71 : Nat) : Int) by decide) (rfl : 34 + 3 = 37) (xdt tt_X3_endOfNumber 20 rfl) (fun hc13 => ?_) (fun hc13 => ?_)
        · replace h := (if_pos hc13).symm.trans h
          refine g_sub [0, 1, 2] (lv' := [(0, vr E r0 2), (1, vi x1), (2, vi x2)]) rfl ?_
          exact k_X3_endOfNumber_p3_2_b71 hC hZ hE hk0 hA0 _ _ _ h
        · replace h := (if_neg hc13).symm.trans h
          refine g_iload_n hC rfl 2 rfl (rfl : 37 + 1 = 38) (xdt tt_X3_endOfNumber 21 rfl) ?_
          refine g_iload_n hC rfl 1 rfl (rfl : 38 + 1 = 39) (xdt tt_X3_endOfNumber 22 rfl) ?_
          refine g_iconst hC (rfl : 39 + 1 = 40) (xdt tt_X3_endOfNumber 23 rfl) ?_
          refine g_iadd hC (rfl : 40 + 1 = 41) (xdt tt_X3_endOfNumber 24 rfl) ?_
          refine g_icmp_ge hC (show ((41 : Nat) : Int) + 24 = ((65 : Nat) : Int) by decide) (rfl : 41 + 3 = 44) (xdt tt_X3_endOfNumber 25 rfl) (fun hc12 => ?_) (fun hc12 => ?_)
          · replace h := (if_pos hc12).symm.trans h
            refine g_iinc hC 2 rfl (by decide) (lv' := [(2, vi (x2 + 1)), (0, vr E r0 2), (1, vi x1)]) rfl (rfl : 65 + 3 = 68) (xdt tt_X3_endOfNumber 39 rfl) ?_
            refine g_goto hC (show ((68 : Nat) : Int) + (-61) = ((7 : Nat) : Int) by decide) (xdt tt_X3_endOfNumber 40 rfl) ?_
            refine g_sub [1, 2, 0] (lv' := [(0, vr E r0 2), (1, vi x1), (2, vi (x2 + 1))]) rfl ?_
            exact ih _ _ _ h
          · replace h := (if_neg hc12).symm.trans h
            refine g_aload_n hC rfl 0 rfl (rfl : 44 + 1 = 45) (xdt tt_X3_endOfNumber 26 rfl) ?_
            refine g_bipush hC (by decide) (rfl : 45 + 2 = 47) (xdt tt_X3_endOfNumber 27 rfl) ?_
            refine g_aload_n hC rfl 0 rfl (rfl : 47 + 1 = 48) (xdt tt_X3_endOfNumber 28 rfl) ?_
            refine g_getI hC hk0 kclX3 ly3_2 6 (by decide) rfl q516 (rfl : 48 + 3 = 51) (xdt tt_X3_endOfNumber 29 rfl) ?_
            refine g_imul hC (rfl : 51 + 1 = 52) (xdt tt_X3_endOfNumber 30 rfl) ?_
            refine g_aload_n hC rfl 0 rfl (rfl : 52 + 1 = 53) (xdt tt_X3_endOfNumber 31 rfl) ?_
            obtain ⟨rg9, hrg9, grg9, h⟩ := ckP_i h
            refine g_getV hC hk0 kclX3 ly3_2 0 (by decide) rfl hrg9 grg9 (by decide) q47 (rfl : 53 + 3 = 56) (xdt tt_X3_endOfNumber 32 rfl) (fun krg9 => ?_)
            refine g_iload_n hC rfl 2 rfl (rfl : 56 + 1 = 57) (xdt tt_X3_endOfNumber 33 rfl) ?_
            obtain ⟨hi10, h⟩ := ckI_i h
            refine g_bald hC krg9 ly3_1 hi10 (rfl : 57 + 1 = 58) (xdt tt_X3_endOfNumber 34 rfl) (k0 := (wr x2).toNat) rfl ?_
            refine g_iadd hC (rfl : 58 + 1 = 59) (xdt tt_X3_endOfNumber 35 rfl) ?_
            refine g_bipush hC (by decide) (rfl : 59 + 2 = 61) (xdt tt_X3_endOfNumber 36 rfl) ?_
            refine g_isub hC (rfl : 61 + 1 = 62) (xdt tt_X3_endOfNumber 37 rfl) ?_
            obtain ⟨S11, hS11, h⟩ := lt1_i h
            refine g_putI hC hk0 kclX3 ly3_2 6 (by decide) rfl rfl rfl q516 hS11 (rfl : 62 + 3 = 65) (xdt tt_X3_endOfNumber 38 rfl) ?_
            refine g_iinc hC 2 rfl (by decide) (lv' := [(2, vi (x2 + 1)), (0, vr E r0 2), (1, vi x1)]) rfl (rfl : 65 + 3 = 68) (xdt tt_X3_endOfNumber 39 rfl) ?_
            refine g_goto hC (show ((68 : Nat) : Int) + (-61) = ((7 : Nat) : Int) by decide) (xdt tt_X3_endOfNumber 40 rfl) ?_
            refine g_sub [1, 2, 0] (lv' := [(0, vr E r0 2), (1, vi x1), (2, vi (x2 + 1))]) rfl ?_
            exact ih _ _ _ h
set_option maxRecDepth 100000 in
set_option maxHeartbeats 4000000 in
theorem c_X3_endOfNumber_p3_2 (l : Launch) {E : xE} {S S' : xSt} {r0 : Nat} {a1 : Int} (hk0 : xkd E r0 = 3) (hA0 : xFam E r0) {v : Int} (h : f_X3_endOfNumber_p3_2 S r0 a1 = some (v, S')) : Met l yX3_endOfNumber (xws yX3_endOfNumber cX3_endOfNumber 3 (some .int)) (rmD 1) (YPc E [vr E r0 2, vi a1] S) (YQi E v S') 0 0 (xA E) := by
  unfold f_X3_endOfNumber_p3_2 at h
  refine met_i (by decide +kernel) (Nat.le_of_ble_eq_true rfl) (fun K hC hZ hE => ?_)
  have hC : xOK K cX3_endOfNumber RX3 3 (rmE 1 0) := hC
  show WG K E 0 [(0, vr E r0 2), (1, vi a1)] [] S
  refine g_iload_n hC rfl 1 rfl (rfl : 0 + 1 = 1) (xdt tt_X3_endOfNumber 0 rfl) ?_
  refine g_istore_n hC rfl (by decide) (lv' := [(2, vi a1), (0, vr E r0 2), (1, vi a1)]) rfl (rfl : 1 + 1 = 2) (xdt tt_X3_endOfNumber 1 rfl) ?_
  refine g_aload_n hC rfl 1 rfl (rfl : 2 + 1 = 3) (xdt tt_X3_endOfNumber 2 rfl) ?_
  refine g_iconst hC (rfl : 3 + 1 = 4) (xdt tt_X3_endOfNumber 3 rfl) ?_
  obtain ⟨S1, hS1, h⟩ := lt1_i h
  refine g_putI hC hk0 kclX3 ly3_2 6 (by decide) rfl rfl rfl q516 hS1 (rfl : 4 + 3 = 7) (xdt tt_X3_endOfNumber 4 rfl) ?_
  refine g_sub [1, 2, 0] (lv' := [(0, vr E r0 2), (1, vi a1), (2, vi a1)]) rfl ?_
  exact k_X3_endOfNumber_p3_2_b7 hC hZ hE hk0 hA0 _ _ _ _ h
def f_X3_endOfWord_p3_2_b2 (r0 : Nat) : Nat → xSt → Int → Option (Int × xSt)
  | 0, _, _ => none
  | fuel + 1, S, x2 =>
    if wr (gI S r0 2 1) ≤ wr x2 then
      (lt1 (wI S r0 2 3 1) fun S1 =>
      some (x2, S1))
    else
      (ckP S r0 2 0 3 1 fun rg2 =>
      ckI x2 600 <|
      if wr (gI S rg2 1 (wr x2).toNat) < wr 97 then
        (lt1 (wI S r0 2 3 1) fun S4 =>
        some (x2, S4))
      else
        (ckP S r0 2 0 3 1 fun rg5 =>
        ckI x2 600 <|
        if wr 122 < wr (gI S rg5 1 (wr x2).toNat) then
          (lt1 (wI S r0 2 3 1) fun S7 =>
          some (x2, S7))
        else
          ((f_X3_endOfWord_p3_2_b2 r0 fuel) S (x2 + 1))))
def f_X3_endOfWord_p3_2 (S : xSt) (r0 : Nat) (a1 : Int) : Option (Int × xSt) :=
  f_X3_endOfWord_p3_2_b2 r0 (fu S) S a1
set_option maxRecDepth 100000 in
set_option maxHeartbeats 4000000 in
theorem k_X3_endOfWord_p3_2_b2 {K : xCtx} {E : xE} {b : Nat} (hC : xOK K cX3_endOfWord RX3 3 (rmE 1 b)) (hZ : xZ K) {v : Int} {S' : xSt} (hE : xEnd K E (some .int) (YQi E v S')) {r0 : Nat} (hk0 : xkd E r0 = 3) (hA0 : xFam E r0) : ∀ (fuel : Nat) (S : xSt) (x2 : Int), f_X3_endOfWord_p3_2_b2 r0 fuel S x2 = some (v, S') → WG K E 2 [(0, vr E r0 2), (2, vi x2)] [] S := by
  intro fuel
  induction fuel with
  | zero => intro S x2 h; cases h
  | succ fuel ih =>
    intro S x2 h
    rw [f_X3_endOfWord_p3_2_b2] at h
    refine g_iload_n hC rfl 1 rfl (rfl : 2 + 1 = 3) (xdt tt_X3_endOfWord 2 rfl) ?_
    refine g_aload_n hC rfl 0 rfl (rfl : 3 + 1 = 4) (xdt tt_X3_endOfWord 3 rfl) ?_
    refine g_getI hC hk0 kclX3 ly3_2 1 (by decide) rfl q492 (rfl : 4 + 3 = 7) (xdt tt_X3_endOfWord 4 rfl) ?_
    refine g_icmp_ge hC (show ((7 : Nat) : Int) + 31 = ((38 : Nat) : Int) by decide) (rfl : 7 + 3 = 10) (xdt tt_X3_endOfWord 5 rfl) (fun hc10 => ?_) (fun hc10 => ?_)
    · replace h := (if_pos hc10).symm.trans h
      refine g_aload_n hC rfl 0 rfl (rfl : 38 + 1 = 39) (xdt tt_X3_endOfWord 20 rfl) ?_
      refine g_iconst hC (rfl : 39 + 1 = 40) (xdt tt_X3_endOfWord 21 rfl) ?_
      obtain ⟨S1, hS1, h⟩ := lt1_i h
      refine g_putI hC hk0 kclX3 ly3_2 3 (by decide) rfl rfl rfl q493 hS1 (rfl : 40 + 3 = 43) (xdt tt_X3_endOfWord 22 rfl) ?_
      refine g_iload_n hC rfl 1 rfl (rfl : 43 + 1 = 44) (xdt tt_X3_endOfWord 23 rfl) ?_
      cases h
      exact g_iret hC hE (xdt tt_X3_endOfWord 24 rfl)
    · replace h := (if_neg hc10).symm.trans h
      refine g_aload_n hC rfl 0 rfl (rfl : 10 + 1 = 11) (xdt tt_X3_endOfWord 6 rfl) ?_
      obtain ⟨rg2, hrg2, grg2, h⟩ := ckP_i h
      refine g_getV hC hk0 kclX3 ly3_2 0 (by decide) rfl hrg2 grg2 (by decide) q47 (rfl : 11 + 3 = 14) (xdt tt_X3_endOfWord 7 rfl) (fun krg2 => ?_)
      refine g_iload_n hC rfl 1 rfl (rfl : 14 + 1 = 15) (xdt tt_X3_endOfWord 8 rfl) ?_
      obtain ⟨hi3, h⟩ := ckI_i h
      refine g_bald hC krg2 ly3_1 hi3 (rfl : 15 + 1 = 16) (xdt tt_X3_endOfWord 9 rfl) (k0 := (wr x2).toNat) rfl ?_
      refine g_bipush hC (by decide) (rfl : 16 + 2 = 18) (xdt tt_X3_endOfWord 10 rfl) ?_
      refine g_icmp_lt hC (show ((18 : Nat) : Int) + 20 = ((38 : Nat) : Int) by decide) (rfl : 18 + 3 = 21) (xdt tt_X3_endOfWord 11 rfl) (fun hc9 => ?_) (fun hc9 => ?_)
      · replace h := (if_pos hc9).symm.trans h
        refine g_aload_n hC rfl 0 rfl (rfl : 38 + 1 = 39) (xdt tt_X3_endOfWord 20 rfl) ?_
        refine g_iconst hC (rfl : 39 + 1 = 40) (xdt tt_X3_endOfWord 21 rfl) ?_
        obtain ⟨S4, hS4, h⟩ := lt1_i h
        refine g_putI hC hk0 kclX3 ly3_2 3 (by decide) rfl rfl rfl q493 hS4 (rfl : 40 + 3 = 43) (xdt tt_X3_endOfWord 22 rfl) ?_
        refine g_iload_n hC rfl 1 rfl (rfl : 43 + 1 = 44) (xdt tt_X3_endOfWord 23 rfl) ?_
        cases h
        exact g_iret hC hE (xdt tt_X3_endOfWord 24 rfl)
      · replace h := (if_neg hc9).symm.trans h
        refine g_aload_n hC rfl 0 rfl (rfl : 21 + 1 = 22) (xdt tt_X3_endOfWord 12 rfl) ?_
        obtain ⟨rg5, hrg5, grg5, h⟩ := ckP_i h
        refine g_getV hC hk0 kclX3 ly3_2 0 (by decide) rfl hrg5 grg5 (by decide) q47 (rfl : 22 + 3 = 25) (xdt tt_X3_endOfWord 13 rfl) (fun krg5 => ?_)
        refine g_iload_n hC rfl 1 rfl (rfl : 25 + 1 = 26) (xdt tt_X3_endOfWord 14 rfl) ?_
        obtain ⟨hi6, h⟩ := ckI_i h
        refine g_bald hC krg5 ly3_1 hi6 (rfl : 26 + 1 = 27) (xdt tt_X3_endOfWord 15 rfl) (k0 := (wr x2).toNat) rfl ?_
        refine g_bipush hC (by decide) (rfl : 27 + 2 = 29) (xdt tt_X3_endOfWord 16 rfl) ?_
        refine g_icmp_gt hC (show ((29 : Nat) : Int) + 9 = ((38 : Nat) : Int) by decide) (rfl : 29 + 3 = 32) (xdt tt_X3_endOfWord 17 rfl) (fun hc8 => ?_) (fun hc8 => ?_)
        · replace h := (if_pos hc8).symm.trans h
          refine g_aload_n hC rfl 0 rfl (rfl : 38 + 1 = 39) (xdt tt_X3_endOfWord 20 rfl) ?_
          refine g_iconst hC (rfl : 39 + 1 = 40) (xdt tt_X3_endOfWord 21 rfl) ?_
          obtain ⟨S7, hS7, h⟩ := lt1_i h
          refine g_putI hC hk0 kclX3 ly3_2 3 (by decide) rfl rfl rfl q493 hS7 (rfl : 40 + 3 = 43) (xdt tt_X3_endOfWord 22 rfl) ?_
          refine g_iload_n hC rfl 1 rfl (rfl : 43 + 1 = 44) (xdt tt_X3_endOfWord 23 rfl) ?_
          cases h
          exact g_iret hC hE (xdt tt_X3_endOfWord 24 rfl)
        · replace h := (if_neg hc8).symm.trans h
          refine g_iinc hC 1 rfl (by decide) (lv' := [(2, vi (x2 + 1)), (0, vr E r0 2)]) rfl (rfl : 32 + 3 = 35) (xdt tt_X3_endOfWord 18 rfl) ?_
          refine g_goto hC (show ((35 : Nat) : Int) + (-33) = ((2 : Nat) : Int) by decide) (xdt tt_X3_endOfWord 19 rfl) ?_
          refine g_sub [1, 0] (lv' := [(0, vr E r0 2), (2, vi (x2 + 1))]) rfl ?_
          exact ih _ _ h
set_option maxRecDepth 100000 in
set_option maxHeartbeats 4000000 in
theorem c_X3_endOfWord_p3_2 (l : Launch) {E : xE} {S S' : xSt} {r0 : Nat} {a1 : Int} (hk0 : xkd E r0 = 3) (hA0 : xFam E r0) {v : Int} (h : f_X3_endOfWord_p3_2 S r0 a1 = some (v, S')) : Met l yX3_endOfWord (xws yX3_endOfWord cX3_endOfWord 3 (some .int)) (rmD 1) (YPc E [vr E r0 2, vi a1] S) (YQi E v S') 0 0 (xA E) := by
  unfold f_X3_endOfWord_p3_2 at h
  refine met_i (by decide +kernel) (Nat.le_of_ble_eq_true rfl) (fun K hC hZ hE => ?_)
  have hC : xOK K cX3_endOfWord RX3 3 (rmE 1 0) := hC
  show WG K E 0 [(0, vr E r0 2), (1, vi a1)] [] S
  refine g_iload_n hC rfl 1 rfl (rfl : 0 + 1 = 1) (xdt tt_X3_endOfWord 0 rfl) ?_
  refine g_istore_n hC rfl (by decide) (lv' := [(2, vi a1), (0, vr E r0 2), (1, vi a1)]) rfl (rfl : 1 + 1 = 2) (xdt tt_X3_endOfWord 1 rfl) ?_
  refine g_sub [1, 0] (lv' := [(0, vr E r0 2), (2, vi a1)]) rfl ?_
  exact k_X3_endOfWord_p3_2_b2 hC hZ hE hk0 hA0 _ _ _ h
def f_X3_readToken_p3_2_b127 (r0 : Nat) (S : xSt) (x1 : Int) (x2 : Int) : Option (xSt) :=
  lt1 (wI S r0 2 3 x2) fun S6 =>
  lt1 (wI S6 r0 2 5 (x1 + 1)) fun S7 =>
  some S7
def f_X3_readToken_p3_2_b108 (r0 : Nat) (S : xSt) (x1 : Int) (x2 : Int) : Option (xSt) :=
  if wr x2 = wr 59 then
    (f_X3_readToken_p3_2_b127 r0 S x1 x2)
  else
    (if wr x2 = wr 40 then
      (f_X3_readToken_p3_2_b127 r0 S x1 x2)
    else
      (if ¬ wr x2 = wr 41 then
        (lt1 (wI S r0 2 3 3) fun S8 =>
        lt1 (wI S8 r0 2 5 (x1 + 1)) fun S9 =>
        some S9)
      else
        (f_X3_readToken_p3_2_b127 r0 S x1 x2)))
def f_X3_readToken_p3_2_b87 (r0 : Nat) (S : xSt) (x1 : Int) (x2 : Int) : Option (xSt) :=
  if wr x2 < wr 48 then
    (f_X3_readToken_p3_2_b108 r0 S x1 x2)
  else
    (if wr 57 < wr x2 then
      (f_X3_readToken_p3_2_b108 r0 S x1 x2)
    else
      (bd2 (f_X3_endOfNumber_p3_2 S r0 x1) fun v15 S14 =>
      lt1 (wI S14 r0 2 5 v15) fun S16 =>
      some S16))
def f_X3_readToken_p3_2_b41 (r0 : Nat) (S : xSt) (x1 : Int) : Option (xSt) :=
  lt1 (wI S r0 2 4 x1) fun S1 =>
  lt1 (wI S1 r0 2 3 0) fun S2 =>
  if wr (gI S2 r0 2 1) ≤ wr x1 then
    (lt1 (wI S2 r0 2 5 x1) fun S3 =>
    some S3)
  else
    (ckP S2 r0 2 0 3 1 fun rg4 =>
    ckI x1 600 <|
    if wr (gI S2 rg4 1 (wr x1).toNat) < wr 97 then
      (f_X3_readToken_p3_2_b87 r0 S2 x1 (gI S2 rg4 1 (wr x1).toNat))
    else
      (if wr 122 < wr (gI S2 rg4 1 (wr x1).toNat) then
        (f_X3_readToken_p3_2_b87 r0 S2 x1 (gI S2 rg4 1 (wr x1).toNat))
      else
        (bd2 (f_X3_endOfWord_p3_2 S2 r0 x1) fun v21 S20 =>
        lt1 (wI S20 r0 2 5 v21) fun S22 =>
        some S22)))
def f_X3_readToken_p3_2_b5 (r0 : Nat) : Nat → xSt → Int → Option (xSt)
  | 0, _, _ => none
  | fuel + 1, S, x1 =>
    if wr (gI S r0 2 1) ≤ wr x1 then
      (f_X3_readToken_p3_2_b41 r0 S x1)
    else
      (ckP S r0 2 0 3 1 fun rg26 =>
      ckI x1 600 <|
      if wr (gI S rg26 1 (wr x1).toNat) = wr 32 then
        ((f_X3_readToken_p3_2_b5 r0 fuel) S (x1 + 1))
      else
        (ckP S r0 2 0 3 1 fun rg28 =>
        ckI x1 600 <|
        if ¬ wr (gI S rg28 1 (wr x1).toNat) = wr 10 then
          (f_X3_readToken_p3_2_b41 r0 S x1)
        else
          ((f_X3_readToken_p3_2_b5 r0 fuel) S (x1 + 1))))
def f_X3_readToken_p3_2 (S : xSt) (r0 : Nat) : Option (xSt) :=
  f_X3_readToken_p3_2_b5 r0 (fu S) S (gI S r0 2 5)
set_option maxRecDepth 100000 in
set_option maxHeartbeats 4000000 in
theorem k_X3_readToken_p3_2_b127 {K : xCtx} {E : xE} {b : Nat} (hC : xOK K cX3_readToken RX3 3 (rmE 2 b)) (hZ : xZ K) {S' : xSt} (hE : xEnd K E none (YQv E S')) {r0 : Nat} (hk0 : xkd E r0 = 3) (hA0 : xFam E r0) : ∀ (S : xSt) (x1 : Int) (x2 : Int), f_X3_readToken_p3_2_b127 r0 S x1 x2 = some S' → WG K E 127 [(0, vr E r0 2), (1, vi x1), (2, vi x2)] [vr E r0 2] S := by
  intro S x1 x2 h
  unfold f_X3_readToken_p3_2_b127 at h
  refine g_iload_n hC rfl 2 rfl (rfl : 127 + 1 = 128) (xdt tt_X3_readToken 68 rfl) ?_
  refine g_goto hC (show ((128 : Nat) : Int) + 4 = ((132 : Nat) : Int) by decide) (xdt tt_X3_readToken 69 rfl) ?_
  obtain ⟨S6, hS6, h⟩ := lt1_i h
  refine g_putI hC hk0 kclX3 ly3_2 3 (by decide) rfl rfl rfl q493 hS6 (rfl : 132 + 3 = 135) (xdt tt_X3_readToken 71 rfl) ?_
  refine g_iinc hC 1 rfl (by decide) (lv' := [(1, vi (x1 + 1)), (0, vr E r0 2), (2, vi x2)]) rfl (rfl : 135 + 3 = 138) (xdt tt_X3_readToken 72 rfl) ?_
  refine g_aload_n hC rfl 1 rfl (rfl : 138 + 1 = 139) (xdt tt_X3_readToken 73 rfl) ?_
  refine g_iload_n hC rfl 0 rfl (rfl : 139 + 1 = 140) (xdt tt_X3_readToken 74 rfl) ?_
  obtain ⟨S7, hS7, h⟩ := lt1_i h
  refine g_putI hC hk0 kclX3 ly3_2 5 (by decide) rfl rfl rfl q500 hS7 (rfl : 140 + 3 = 143) (xdt tt_X3_readToken 75 rfl) ?_
  cases h
  exact g_vret hC hE (xdt tt_X3_readToken 76 rfl)
set_option maxRecDepth 100000 in
set_option maxHeartbeats 4000000 in
theorem k_X3_readToken_p3_2_b108 {K : xCtx} {E : xE} {b : Nat} (hC : xOK K cX3_readToken RX3 3 (rmE 2 b)) (hZ : xZ K) {S' : xSt} (hE : xEnd K E none (YQv E S')) {r0 : Nat} (hk0 : xkd E r0 = 3) (hA0 : xFam E r0) : ∀ (S : xSt) (x1 : Int) (x2 : Int), f_X3_readToken_p3_2_b108 r0 S x1 x2 = some S' → WG K E 108 [(0, vr E r0 2), (1, vi x1), (2, vi x2)] [] S := by
  intro S x1 x2 h
  unfold f_X3_readToken_p3_2_b108 at h
  refine g_aload_n hC rfl 0 rfl (rfl : 108 + 1 = 109) (xdt tt_X3_readToken 58 rfl) ?_
  refine g_iload_n hC rfl 2 rfl (rfl : 109 + 1 = 110) (xdt tt_X3_readToken 59 rfl) ?_
  refine g_bipush hC (by decide) (rfl : 110 + 2 = 112) (xdt tt_X3_readToken 60 rfl) ?_
  refine g_icmp_eq hC (show ((112 : Nat) : Int) + 15 = ((127 : Nat) : Int) by decide) (rfl : 112 + 3 = 115) (xdt tt_X3_readToken 61 rfl) (fun hc12 => ?_) (fun hc12 => ?_)
  · replace h := (if_pos hc12).symm.trans h
    refine g_sub [0, 1, 2] (lv' := [(0, vr E r0 2), (1, vi x1), (2, vi x2)]) rfl ?_
    exact k_X3_readToken_p3_2_b127 hC hZ hE hk0 hA0 _ _ _ h
  · replace h := (if_neg hc12).symm.trans h
    refine g_iload_n hC rfl 2 rfl (rfl : 115 + 1 = 116) (xdt tt_X3_readToken 62 rfl) ?_
    refine g_bipush hC (by decide) (rfl : 116 + 2 = 118) (xdt tt_X3_readToken 63 rfl) ?_
    refine g_icmp_eq hC (show ((118 : Nat) : Int) + 9 = ((127 : Nat) : Int) by decide) (rfl : 118 + 3 = 121) (xdt tt_X3_readToken 64 rfl) (fun hc11 => ?_) (fun hc11 => ?_)
    · replace h := (if_pos hc11).symm.trans h
      refine g_sub [0, 1, 2] (lv' := [(0, vr E r0 2), (1, vi x1), (2, vi x2)]) rfl ?_
      exact k_X3_readToken_p3_2_b127 hC hZ hE hk0 hA0 _ _ _ h
    · replace h := (if_neg hc11).symm.trans h
      refine g_iload_n hC rfl 2 rfl (rfl : 121 + 1 = 122) (xdt tt_X3_readToken 65 rfl) ?_
      refine g_bipush hC (by decide) (rfl : 122 + 2 = 124) (xdt tt_X3_readToken 66 rfl) ?_
      refine g_icmp_ne hC (show ((124 : Nat) : Int) + 7 = ((131 : Nat) : Int) by decide) (rfl : 124 + 3 = 127) (xdt tt_X3_readToken 67 rfl) (fun hc10 => ?_) (fun hc10 => ?_)
      · replace h := (if_pos hc10).symm.trans h
        refine g_iconst hC (rfl : 131 + 1 = 132) (xdt tt_X3_readToken 70 rfl) ?_
        obtain ⟨S8, hS8, h⟩ := lt1_i h
        refine g_putI hC hk0 kclX3 ly3_2 3 (by decide) rfl rfl rfl q493 hS8 (rfl : 132 + 3 = 135) (xdt tt_X3_readToken 71 rfl) ?_
        refine g_iinc hC 1 rfl (by decide) (lv' := [(1, vi (x1 + 1)), (0, vr E r0 2), (2, vi x2)]) rfl (rfl : 135 + 3 = 138) (xdt tt_X3_readToken 72 rfl) ?_
        refine g_aload_n hC rfl 1 rfl (rfl : 138 + 1 = 139) (xdt tt_X3_readToken 73 rfl) ?_
        refine g_iload_n hC rfl 0 rfl (rfl : 139 + 1 = 140) (xdt tt_X3_readToken 74 rfl) ?_
        obtain ⟨S9, hS9, h⟩ := lt1_i h
        refine g_putI hC hk0 kclX3 ly3_2 5 (by decide) rfl rfl rfl q500 hS9 (rfl : 140 + 3 = 143) (xdt tt_X3_readToken 75 rfl) ?_
        cases h
        exact g_vret hC hE (xdt tt_X3_readToken 76 rfl)
      · replace h := (if_neg hc10).symm.trans h
        refine g_sub [0, 1, 2] (lv' := [(0, vr E r0 2), (1, vi x1), (2, vi x2)]) rfl ?_
        exact k_X3_readToken_p3_2_b127 hC hZ hE hk0 hA0 _ _ _ h
set_option maxRecDepth 100000 in
set_option maxHeartbeats 4000000 in
theorem k_X3_readToken_p3_2_b87 {K : xCtx} {E : xE} {b : Nat} (hC : xOK K cX3_readToken RX3 3 (rmE 2 b)) (hZ : xZ K) {S' : xSt} (hE : xEnd K E none (YQv E S')) {r0 : Nat} (hk0 : xkd E r0 = 3) (hA0 : xFam E r0) : ∀ (S : xSt) (x1 : Int) (x2 : Int), f_X3_readToken_p3_2_b87 r0 S x1 x2 = some S' → WG K E 87 [(0, vr E r0 2), (1, vi x1), (2, vi x2)] [] S := by
  intro S x1 x2 h
  unfold f_X3_readToken_p3_2_b87 at h
  refine g_iload_n hC rfl 2 rfl (rfl : 87 + 1 = 88) (xdt tt_X3_readToken 47 rfl) ?_
  refine g_bipush hC (by decide) (rfl : 88 + 2 = 90) (xdt tt_X3_readToken 48 rfl) ?_
  refine g_icmp_lt hC (show ((90 : Nat) : Int) + 18 = ((108 : Nat) : Int) by decide) (rfl : 90 + 3 = 93) (xdt tt_X3_readToken 49 rfl) (fun hc18 => ?_) (fun hc18 => ?_)
  · replace h := (if_pos hc18).symm.trans h
    refine g_sub [0, 1, 2] (lv' := [(0, vr E r0 2), (1, vi x1), (2, vi x2)]) rfl ?_
    exact k_X3_readToken_p3_2_b108 hC hZ hE hk0 hA0 _ _ _ h
  · replace h := (if_neg hc18).symm.trans h
    refine g_iload_n hC rfl 2 rfl (rfl : 93 + 1 = 94) (xdt tt_X3_readToken 50 rfl) ?_
    refine g_bipush hC (by decide) (rfl : 94 + 2 = 96) (xdt tt_X3_readToken 51 rfl) ?_
    refine g_icmp_gt hC (show ((96 : Nat) : Int) + 12 = ((108 : Nat) : Int) by decide) (rfl : 96 + 3 = 99) (xdt tt_X3_readToken 52 rfl) (fun hc17 => ?_) (fun hc17 => ?_)
    · replace h := (if_pos hc17).symm.trans h
      refine g_sub [0, 1, 2] (lv' := [(0, vr E r0 2), (1, vi x1), (2, vi x2)]) rfl ?_
      exact k_X3_readToken_p3_2_b108 hC hZ hE hk0 hA0 _ _ _ h
    · replace h := (if_neg hc17).symm.trans h
      refine g_aload_n hC rfl 0 rfl (rfl : 99 + 1 = 100) (xdt tt_X3_readToken 53 rfl) ?_
      refine g_iload_n hC rfl 1 rfl (rfl : 100 + 1 = 101) (xdt tt_X3_readToken 54 rfl) ?_
      obtain ⟨v15, S14, hc13, h⟩ := bd2_i h
      refine g_callVi hC hZ hk0 kclX3 ly3_2 m_X3_endOfNumber q512 (Nat.le_of_ble_eq_true rfl) [vi x1] rfl (fun l => c_X3_endOfNumber_p3_2 l hk0 hA0 hc13) rfl (Nat.le_of_ble_eq_true rfl) (rfl : 101 + 3 = 104) (xdt tt_X3_readToken 55 rfl) ?_
      refine g_istore_n hC rfl (by decide) (lv' := [(1, vi v15), (0, vr E r0 2), (2, vi x2)]) rfl (rfl : 104 + 1 = 105) (xdt tt_X3_readToken 56 rfl) ?_
      refine g_goto hC (show ((105 : Nat) : Int) + 33 = ((138 : Nat) : Int) by decide) (xdt tt_X3_readToken 57 rfl) ?_
      refine g_aload_n hC rfl 1 rfl (rfl : 138 + 1 = 139) (xdt tt_X3_readToken 73 rfl) ?_
      refine g_iload_n hC rfl 0 rfl (rfl : 139 + 1 = 140) (xdt tt_X3_readToken 74 rfl) ?_
      obtain ⟨S16, hS16, h⟩ := lt1_i h
      refine g_putI hC hk0 kclX3 ly3_2 5 (by decide) rfl rfl rfl q500 hS16 (rfl : 140 + 3 = 143) (xdt tt_X3_readToken 75 rfl) ?_
      cases h
      exact g_vret hC hE (xdt tt_X3_readToken 76 rfl)
set_option maxRecDepth 100000 in
set_option maxHeartbeats 4000000 in
theorem k_X3_readToken_p3_2_b41 {K : xCtx} {E : xE} {b : Nat} (hC : xOK K cX3_readToken RX3 3 (rmE 2 b)) (hZ : xZ K) {S' : xSt} (hE : xEnd K E none (YQv E S')) {r0 : Nat} (hk0 : xkd E r0 = 3) (hA0 : xFam E r0) : ∀ (S : xSt) (x1 : Int), f_X3_readToken_p3_2_b41 r0 S x1 = some S' → WG K E 41 [(0, vr E r0 2), (1, vi x1)] [] S := by
  intro S x1 h
  unfold f_X3_readToken_p3_2_b41 at h
  refine g_aload_n hC rfl 0 rfl (rfl : 41 + 1 = 42) (xdt tt_X3_readToken 21 rfl) ?_
  refine g_iload_n hC rfl 1 rfl (rfl : 42 + 1 = 43) (xdt tt_X3_readToken 22 rfl) ?_
  obtain ⟨S1, hS1, h⟩ := lt1_i h
  refine g_putI hC hk0 kclX3 ly3_2 4 (by decide) rfl rfl rfl q507 hS1 (rfl : 43 + 3 = 46) (xdt tt_X3_readToken 23 rfl) ?_
  refine g_aload_n hC rfl 0 rfl (rfl : 46 + 1 = 47) (xdt tt_X3_readToken 24 rfl) ?_
  refine g_iconst hC (rfl : 47 + 1 = 48) (xdt tt_X3_readToken 25 rfl) ?_
  obtain ⟨S2, hS2, h⟩ := lt1_i h
  refine g_putI hC hk0 kclX3 ly3_2 3 (by decide) rfl rfl rfl q493 hS2 (rfl : 48 + 3 = 51) (xdt tt_X3_readToken 26 rfl) ?_
  refine g_iload_n hC rfl 1 rfl (rfl : 51 + 1 = 52) (xdt tt_X3_readToken 27 rfl) ?_
  refine g_aload_n hC rfl 0 rfl (rfl : 52 + 1 = 53) (xdt tt_X3_readToken 28 rfl) ?_
  refine g_getI hC hk0 kclX3 ly3_2 1 (by decide) rfl q492 (rfl : 53 + 3 = 56) (xdt tt_X3_readToken 29 rfl) ?_
  refine g_icmp_ge hC (show ((56 : Nat) : Int) + 82 = ((138 : Nat) : Int) by decide) (rfl : 56 + 3 = 59) (xdt tt_X3_readToken 30 rfl) (fun hc25 => ?_) (fun hc25 => ?_)
  · replace h := (if_pos hc25).symm.trans h
    refine g_aload_n hC rfl 0 rfl (rfl : 138 + 1 = 139) (xdt tt_X3_readToken 73 rfl) ?_
    refine g_iload_n hC rfl 1 rfl (rfl : 139 + 1 = 140) (xdt tt_X3_readToken 74 rfl) ?_
    obtain ⟨S3, hS3, h⟩ := lt1_i h
    refine g_putI hC hk0 kclX3 ly3_2 5 (by decide) rfl rfl rfl q500 hS3 (rfl : 140 + 3 = 143) (xdt tt_X3_readToken 75 rfl) ?_
    cases h
    exact g_vret hC hE (xdt tt_X3_readToken 76 rfl)
  · replace h := (if_neg hc25).symm.trans h
    refine g_aload_n hC rfl 0 rfl (rfl : 59 + 1 = 60) (xdt tt_X3_readToken 31 rfl) ?_
    obtain ⟨rg4, hrg4, grg4, h⟩ := ckP_i h
    refine g_getV hC hk0 kclX3 ly3_2 0 (by decide) rfl hrg4 grg4 (by decide) q47 (rfl : 60 + 3 = 63) (xdt tt_X3_readToken 32 rfl) (fun krg4 => ?_)
    refine g_iload_n hC rfl 1 rfl (rfl : 63 + 1 = 64) (xdt tt_X3_readToken 33 rfl) ?_
    obtain ⟨hi5, h⟩ := ckI_i h
    refine g_bald hC krg4 ly3_1 hi5 (rfl : 64 + 1 = 65) (xdt tt_X3_readToken 34 rfl) (k0 := (wr x1).toNat) rfl ?_
    refine g_istore_n hC rfl (by decide) (lv' := [(2, vi (gI S2 rg4 1 (wr x1).toNat)), (0, vr E r0 2), (1, vi x1)]) rfl (rfl : 65 + 1 = 66) (xdt tt_X3_readToken 35 rfl) ?_
    refine g_iload_n hC rfl 0 rfl (rfl : 66 + 1 = 67) (xdt tt_X3_readToken 36 rfl) ?_
    refine g_bipush hC (by decide) (rfl : 67 + 2 = 69) (xdt tt_X3_readToken 37 rfl) ?_
    refine g_icmp_lt hC (show ((69 : Nat) : Int) + 18 = ((87 : Nat) : Int) by decide) (rfl : 69 + 3 = 72) (xdt tt_X3_readToken 38 rfl) (fun hc24 => ?_) (fun hc24 => ?_)
    · replace h := (if_pos hc24).symm.trans h
      refine g_sub [1, 2, 0] (lv' := [(0, vr E r0 2), (1, vi x1), (2, vi (gI S2 rg4 1 (wr x1).toNat))]) rfl ?_
      exact k_X3_readToken_p3_2_b87 hC hZ hE hk0 hA0 _ _ _ h
    · replace h := (if_neg hc24).symm.trans h
      refine g_iload_n hC rfl 0 rfl (rfl : 72 + 1 = 73) (xdt tt_X3_readToken 39 rfl) ?_
      refine g_bipush hC (by decide) (rfl : 73 + 2 = 75) (xdt tt_X3_readToken 40 rfl) ?_
      refine g_icmp_gt hC (show ((75 : Nat) : Int) + 12 = ((87 : Nat) : Int) by decide) (rfl : 75 + 3 = 78) (xdt tt_X3_readToken 41 rfl) (fun hc23 => ?_) (fun hc23 => ?_)
      · replace h := (if_pos hc23).symm.trans h
        refine g_sub [1, 2, 0] (lv' := [(0, vr E r0 2), (1, vi x1), (2, vi (gI S2 rg4 1 (wr x1).toNat))]) rfl ?_
        exact k_X3_readToken_p3_2_b87 hC hZ hE hk0 hA0 _ _ _ h
      · replace h := (if_neg hc23).symm.trans h
        refine g_aload_n hC rfl 1 rfl (rfl : 78 + 1 = 79) (xdt tt_X3_readToken 42 rfl) ?_
        refine g_iload_n hC rfl 2 rfl (rfl : 79 + 1 = 80) (xdt tt_X3_readToken 43 rfl) ?_
        obtain ⟨v21, S20, hc19, h⟩ := bd2_i h
        refine g_callVi hC hZ hk0 kclX3 ly3_2 m_X3_endOfWord q508 (Nat.le_of_ble_eq_true rfl) [vi x1] rfl (fun l => c_X3_endOfWord_p3_2 l hk0 hA0 hc19) rfl (Nat.le_of_ble_eq_true rfl) (rfl : 80 + 3 = 83) (xdt tt_X3_readToken 44 rfl) ?_
        refine g_istore_n hC rfl (by decide) (lv' := [(1, vi v21), (2, vi (gI S2 rg4 1 (wr x1).toNat)), (0, vr E r0 2)]) rfl (rfl : 83 + 1 = 84) (xdt tt_X3_readToken 45 rfl) ?_
        refine g_goto hC (show ((84 : Nat) : Int) + 54 = ((138 : Nat) : Int) by decide) (xdt tt_X3_readToken 46 rfl) ?_
        refine g_aload_n hC rfl 2 rfl (rfl : 138 + 1 = 139) (xdt tt_X3_readToken 73 rfl) ?_
        refine g_iload_n hC rfl 0 rfl (rfl : 139 + 1 = 140) (xdt tt_X3_readToken 74 rfl) ?_
        obtain ⟨S22, hS22, h⟩ := lt1_i h
        refine g_putI hC hk0 kclX3 ly3_2 5 (by decide) rfl rfl rfl q500 hS22 (rfl : 140 + 3 = 143) (xdt tt_X3_readToken 75 rfl) ?_
        cases h
        exact g_vret hC hE (xdt tt_X3_readToken 76 rfl)
set_option maxRecDepth 100000 in
set_option maxHeartbeats 4000000 in
theorem k_X3_readToken_p3_2_b5 {K : xCtx} {E : xE} {b : Nat} (hC : xOK K cX3_readToken RX3 3 (rmE 2 b)) (hZ : xZ K) {S' : xSt} (hE : xEnd K E none (YQv E S')) {r0 : Nat} (hk0 : xkd E r0 = 3) (hA0 : xFam E r0) : ∀ (fuel : Nat) (S : xSt) (x1 : Int), f_X3_readToken_p3_2_b5 r0 fuel S x1 = some S' → WG K E 5 [(0, vr E r0 2), (1, vi x1)] [] S := by
  intro fuel
  induction fuel with
  | zero => intro S x1 h; cases h
  | succ fuel ih =>
    intro S x1 h
    rw [f_X3_readToken_p3_2_b5] at h
    refine g_iload_n hC rfl 1 rfl (rfl : 5 + 1 = 6) (xdt tt_X3_readToken 3 rfl) ?_
    refine g_aload_n hC rfl 0 rfl (rfl : 6 + 1 = 7) (xdt tt_X3_readToken 4 rfl) ?_
    refine g_getI hC hk0 kclX3 ly3_2 1 (by decide) rfl q492 (rfl : 7 + 3 = 10) (xdt tt_X3_readToken 5 rfl) ?_
    refine g_icmp_ge hC (show ((10 : Nat) : Int) + 31 = ((41 : Nat) : Int) by decide) (rfl : 10 + 3 = 13) (xdt tt_X3_readToken 6 rfl) (fun hc32 => ?_) (fun hc32 => ?_)
    · replace h := (if_pos hc32).symm.trans h
      refine g_sub [0, 1] (lv' := [(0, vr E r0 2), (1, vi x1)]) rfl ?_
      exact k_X3_readToken_p3_2_b41 hC hZ hE hk0 hA0 _ _ h
    · replace h := (if_neg hc32).symm.trans h
      refine g_aload_n hC rfl 0 rfl (rfl : 13 + 1 = 14) (xdt tt_X3_readToken 7 rfl) ?_
      obtain ⟨rg26, hrg26, grg26, h⟩ := ckP_i h
      refine g_getV hC hk0 kclX3 ly3_2 0 (by decide) rfl hrg26 grg26 (by decide) q47 (rfl : 14 + 3 = 17) (xdt tt_X3_readToken 8 rfl) (fun krg26 => ?_)
      refine g_iload_n hC rfl 1 rfl (rfl : 17 + 1 = 18) (xdt tt_X3_readToken 9 rfl) ?_
      obtain ⟨hi27, h⟩ := ckI_i h
      refine g_bald hC krg26 ly3_1 hi27 (rfl : 18 + 1 = 19) (xdt tt_X3_readToken 10 rfl) (k0 := (wr x1).toNat) rfl ?_
      refine g_bipush hC (by decide) (rfl : 19 + 2 = 21) (xdt tt_X3_readToken 11 rfl) ?_
      refine g_icmp_eq hC (show ((21 : Nat) : Int) + 14 = ((35 : Nat) : Int) by decide) (rfl : 21 + 3 = 24) (xdt tt_X3_readToken 12 rfl) (fun hc31 => ?_) (fun hc31 => ?_)
      · replace h := (if_pos hc31).symm.trans h
        refine g_iinc hC 1 rfl (by decide) (lv' := [(1, vi (x1 + 1)), (0, vr E r0 2)]) rfl (rfl : 35 + 3 = 38) (xdt tt_X3_readToken 19 rfl) ?_
        refine g_goto hC (show ((38 : Nat) : Int) + (-33) = ((5 : Nat) : Int) by decide) (xdt tt_X3_readToken 20 rfl) ?_
        refine g_sub [1, 0] (lv' := [(0, vr E r0 2), (1, vi (x1 + 1))]) rfl ?_
        exact ih _ _ h
      · replace h := (if_neg hc31).symm.trans h
        refine g_aload_n hC rfl 0 rfl (rfl : 24 + 1 = 25) (xdt tt_X3_readToken 13 rfl) ?_
        obtain ⟨rg28, hrg28, grg28, h⟩ := ckP_i h
        refine g_getV hC hk0 kclX3 ly3_2 0 (by decide) rfl hrg28 grg28 (by decide) q47 (rfl : 25 + 3 = 28) (xdt tt_X3_readToken 14 rfl) (fun krg28 => ?_)
        refine g_iload_n hC rfl 1 rfl (rfl : 28 + 1 = 29) (xdt tt_X3_readToken 15 rfl) ?_
        obtain ⟨hi29, h⟩ := ckI_i h
        refine g_bald hC krg28 ly3_1 hi29 (rfl : 29 + 1 = 30) (xdt tt_X3_readToken 16 rfl) (k0 := (wr x1).toNat) rfl ?_
        refine g_bipush hC (by decide) (rfl : 30 + 2 = 32) (xdt tt_X3_readToken 17 rfl) ?_
        refine g_icmp_ne hC (show ((32 : Nat) : Int) + 9 = ((41 : Nat) : Int) by decide) (rfl : 32 + 3 = 35) (xdt tt_X3_readToken 18 rfl) (fun hc30 => ?_) (fun hc30 => ?_)
        · replace h := (if_pos hc30).symm.trans h
          refine g_sub [0, 1] (lv' := [(0, vr E r0 2), (1, vi x1)]) rfl ?_
          exact k_X3_readToken_p3_2_b41 hC hZ hE hk0 hA0 _ _ h
        · replace h := (if_neg hc30).symm.trans h
          refine g_iinc hC 1 rfl (by decide) (lv' := [(1, vi (x1 + 1)), (0, vr E r0 2)]) rfl (rfl : 35 + 3 = 38) (xdt tt_X3_readToken 19 rfl) ?_
          refine g_goto hC (show ((38 : Nat) : Int) + (-33) = ((5 : Nat) : Int) by decide) (xdt tt_X3_readToken 20 rfl) ?_
          refine g_sub [1, 0] (lv' := [(0, vr E r0 2), (1, vi (x1 + 1))]) rfl ?_
          exact ih _ _ h
set_option maxRecDepth 100000 in
set_option maxHeartbeats 4000000 in
theorem c_X3_readToken_p3_2 (l : Launch) {E : xE} {S S' : xSt} {r0 : Nat} (hk0 : xkd E r0 = 3) (hA0 : xFam E r0) (h : f_X3_readToken_p3_2 S r0 = some S') : Met l yX3_readToken (xws yX3_readToken cX3_readToken 3 none) (rmD 2) (YPc E [vr E r0 2] S) (YQv E S') 0 0 (xA E) := by
  unfold f_X3_readToken_p3_2 at h
  refine met_v (by decide +kernel) (Nat.le_of_ble_eq_true rfl) (fun K hC hZ hE => ?_)
  have hC : xOK K cX3_readToken RX3 3 (rmE 2 0) := hC
  show WG K E 0 [(0, vr E r0 2)] [] S
  refine g_aload_n hC rfl 0 rfl (rfl : 0 + 1 = 1) (xdt tt_X3_readToken 0 rfl) ?_
  refine g_getI hC hk0 kclX3 ly3_2 5 (by decide) rfl q500 (rfl : 1 + 3 = 4) (xdt tt_X3_readToken 1 rfl) ?_
  refine g_istore_n hC rfl (by decide) (lv' := [(1, vi (gI S r0 2 5)), (0, vr E r0 2)]) rfl (rfl : 4 + 1 = 5) (xdt tt_X3_readToken 2 rfl) ?_
  refine g_sub [1, 0] (lv' := [(0, vr E r0 2), (1, vi (gI S r0 2 5))]) rfl ?_
  exact k_X3_readToken_p3_2_b5 hC hZ hE hk0 hA0 _ _ _ h
def f_J0_coder_7d493 (S : xSt) (k0 : Nat) : Option (Int × xSt) :=
  some (0, S)
set_option maxRecDepth 100000 in
set_option maxHeartbeats 4000000 in
theorem c_J0_coder_7d493 (l : Launch) {E : xE} {S S' : xSt} {k0 : Nat} (hs0 : k0 < xldc.length) {v : Int} (h : f_J0_coder_7d493 S k0 = some (v, S')) : Met l yJ0_coder_7d493 (xws yJ0_coder_7d493 cJ0_coder_7d493 1 (some .byte)) (rmD 1) (YPc E [vs E k0] S) (YQb E v S') 0 0 (xA E) := by
  unfold f_J0_coder_7d493 at h
  refine met_b (by decide +kernel) (Nat.le_of_ble_eq_true rfl) (fun K hC hZ hE => ?_)
  have hC : xOK K cJ0_coder_7d493 RJ0 1 (rmE 1 0) := hC
  show WG K E 0 [(0, vs E k0)] [] S
  refine g_strS hC q300 (rfl : 0 + 3 = 3) (xdt tt_J0_coder_7d493 0 rfl) ?_
  refine g_if_eq hC (show ((3 : Nat) : Int) + 10 = ((13 : Nat) : Int) by decide) (rfl : 3 + 3 = 6) (xdt tt_J0_coder_7d493 1 rfl) (fun hc => absurd hc (by decide)) (fun _ => ?_)
  refine g_aload_n hC rfl 0 rfl (rfl : 6 + 1 = 7) (xdt tt_J0_coder_7d493 2 rfl) ?_
  refine g_strC hC hs0 q301 (rfl : 7 + 3 = 10) (xdt tt_J0_coder_7d493 3 rfl) ?_
  refine g_goto hC (show ((10 : Nat) : Int) + 4 = ((14 : Nat) : Int) by decide) (xdt tt_J0_coder_7d493 4 rfl) ?_
  cases h
  exact g_bret hC hE rfl (xdt tt_J0_coder_7d493 6 rfl)
def f_J0_length_8abf5 (S : xSt) (k0 : Nat) : Option (Int × xSt) :=
  bd2 (f_J0_coder_7d493 S k0) fun v3 S2 =>
  some ((iSr ((xln k0 : Nat) : Int) v3), S2)
set_option maxRecDepth 100000 in
set_option maxHeartbeats 4000000 in
theorem c_J0_length_8abf5 (l : Launch) {E : xE} {S S' : xSt} {k0 : Nat} (hs0 : k0 < xldc.length) {v : Int} (h : f_J0_length_8abf5 S k0 = some (v, S')) : Met l yJ0_length_8abf5 (xws yJ0_length_8abf5 cJ0_length_8abf5 1 (some .int)) (rmD 2) (YPc E [vs E k0] S) (YQi E v S') 0 0 (xA E) := by
  unfold f_J0_length_8abf5 at h
  refine met_i (by decide +kernel) (Nat.le_of_ble_eq_true rfl) (fun K hC hZ hE => ?_)
  have hC : xOK K cJ0_length_8abf5 RJ0 1 (rmE 2 0) := hC
  show WG K E 0 [(0, vs E k0)] [] S
  refine g_aload_n hC rfl 0 rfl (rfl : 0 + 1 = 1) (xdt tt_J0_length_8abf5 0 rfl) ?_
  refine g_strV hC hs0 q295 (rfl : 1 + 3 = 4) (xdt tt_J0_length_8abf5 1 rfl) ?_
  refine g_vlen hC hs0 (rfl : 4 + 1 = 5) (xdt tt_J0_length_8abf5 2 rfl) ?_
  refine g_aload_n hC rfl 0 rfl (rfl : 5 + 1 = 6) (xdt tt_J0_length_8abf5 3 rfl) ?_
  obtain ⟨v3, S2, hc1, h⟩ := bd2_i h
  refine g_callTb hC hZ hs0 m_J0_coder_7d493 q296 (Nat.le_of_ble_eq_true rfl) [] rfl (fun l => c_J0_coder_7d493 l hs0 hc1) rfl (Nat.le_of_ble_eq_true rfl) (rfl : 6 + 3 = 9) (xdt tt_J0_length_8abf5 4 rfl) (fun hb4 => ?_)
  refine g_ishr hC (rfl : 9 + 1 = 10) (xdt tt_J0_length_8abf5 5 rfl) ?_
  cases h
  exact g_iret hC hE (xdt tt_J0_length_8abf5 6 rfl)
def f_J0_isLatin1_aae02 (S : xSt) (k0 : Nat) : Option (Int × xSt) :=
  some (1, S)
set_option maxRecDepth 100000 in
set_option maxHeartbeats 4000000 in
theorem c_J0_isLatin1_aae02 (l : Launch) {E : xE} {S S' : xSt} {k0 : Nat} (hs0 : k0 < xldc.length) {v : Int} (h : f_J0_isLatin1_aae02 S k0 = some (v, S')) : Met l yJ0_isLatin1_aae02 (xws yJ0_isLatin1_aae02 cJ0_isLatin1_aae02 1 (some .boolean)) (rmD 1) (YPc E [vs E k0] S) (YQz E v S') 0 0 (xA E) := by
  unfold f_J0_isLatin1_aae02 at h
  refine met_z (by decide +kernel) (Nat.le_of_ble_eq_true rfl) (fun K hC hZ hE => ?_)
  have hC : xOK K cJ0_isLatin1_aae02 RJ0 1 (rmE 1 0) := hC
  show WG K E 0 [(0, vs E k0)] [] S
  refine g_strS hC q300 (rfl : 0 + 3 = 3) (xdt tt_J0_isLatin1_aae02 0 rfl) ?_
  refine g_if_eq hC (show ((3 : Nat) : Int) + 14 = ((17 : Nat) : Int) by decide) (rfl : 3 + 3 = 6) (xdt tt_J0_isLatin1_aae02 1 rfl) (fun hc => absurd hc (by decide)) (fun _ => ?_)
  refine g_aload_n hC rfl 0 rfl (rfl : 6 + 1 = 7) (xdt tt_J0_isLatin1_aae02 2 rfl) ?_
  refine g_strC hC hs0 q301 (rfl : 7 + 3 = 10) (xdt tt_J0_isLatin1_aae02 3 rfl) ?_
  refine g_if_ne hC (show ((10 : Nat) : Int) + 7 = ((17 : Nat) : Int) by decide) (rfl : 10 + 3 = 13) (xdt tt_J0_isLatin1_aae02 4 rfl) (fun hc => absurd hc (by decide)) (fun _ => ?_)
  refine g_iconst hC (rfl : 13 + 1 = 14) (xdt tt_J0_isLatin1_aae02 5 rfl) ?_
  refine g_goto hC (show ((14 : Nat) : Int) + 4 = ((18 : Nat) : Int) by decide) (xdt tt_J0_isLatin1_aae02 6 rfl) ?_
  cases h
  exact g_zret hC hE (Or.inr rfl) (xdt tt_J0_isLatin1_aae02 8 rfl)
def f_J2_length_9d52b (S : xSt) (k0 : Nat) : Option (Int × xSt) :=
  some ((iSr ((xln k0 : Nat) : Int) 1), S)
set_option maxRecDepth 100000 in
set_option maxHeartbeats 4000000 in
theorem c_J2_length_9d52b (l : Launch) {E : xE} {S S' : xSt} {k0 : Nat} (hs0 : k0 < xldc.length) {v : Int} (h : f_J2_length_9d52b S k0 = some (v, S')) : Met l yJ2_length_9d52b (xws yJ2_length_9d52b cJ2_length_9d52b 1 (some .int)) (rmD 1) (YPc E [vv E k0] S) (YQi E v S') 0 0 (xA E) := by
  unfold f_J2_length_9d52b at h
  refine met_i (by decide +kernel) (Nat.le_of_ble_eq_true rfl) (fun K hC hZ hE => ?_)
  have hC : xOK K cJ2_length_9d52b RJ2 1 (rmE 1 0) := hC
  show WG K E 0 [(0, vv E k0)] [] S
  refine g_aload_n hC rfl 0 rfl (rfl : 0 + 1 = 1) (xdt tt_J2_length_9d52b 0 rfl) ?_
  refine g_vlen hC hs0 (rfl : 1 + 1 = 2) (xdt tt_J2_length_9d52b 1 rfl) ?_
  refine g_iconst hC (rfl : 2 + 1 = 3) (xdt tt_J2_length_9d52b 2 rfl) ?_
  refine g_ishr hC (rfl : 3 + 1 = 4) (xdt tt_J2_length_9d52b 3 rfl) ?_
  cases h
  exact g_iret hC hE (xdt tt_J2_length_9d52b 4 rfl)
def f_J3_checkIndex_8e157 (S : xSt) (a0 : Int) (a1 : Int) : Option (Int × xSt) :=
  if wr a0 < 0 then
    (none)
  else
    (if wr a0 < wr a1 then
      (some (a0, S))
    else
      (none))
set_option maxRecDepth 100000 in
set_option maxHeartbeats 4000000 in
theorem c_J3_checkIndex_8e157 (l : Launch) {E : xE} {S S' : xSt} {a0 : Int} {a1 : Int} {w2 : Value} (hw2 : w2 = .null ∨ ∃ a : Nat, w2 = .ref a) {v : Int} (h : f_J3_checkIndex_8e157 S a0 a1 = some (v, S')) : Met l yJ3_checkIndex_8e157 (xws yJ3_checkIndex_8e157 cJ3_checkIndex_8e157 3 (some .int)) (rmD 1) (YPc E [vi a0, vi a1, w2] S) (YQi E v S') 0 0 (xA E) := by
  unfold f_J3_checkIndex_8e157 at h
  refine met_i (by decide +kernel) (by rcases hw2 with rfl | ⟨a, rfl⟩ <;> exact Nat.le_of_ble_eq_true rfl) (fun K hC hZ hE => ?_)
  have hC : xOK K cJ3_checkIndex_8e157 RJ3 3 (rmE 1 0) := hC
  show WG K E 0 [(0, vi a0), (1, vi a1), (2, w2)] [] S
  refine g_iload_n hC rfl 0 rfl (rfl : 0 + 1 = 1) (xdt tt_J3_checkIndex_8e157 0 rfl) ?_
  refine g_if_lt hC (show ((1 : Nat) : Int) + 8 = ((9 : Nat) : Int) by decide) (rfl : 1 + 3 = 4) (xdt tt_J3_checkIndex_8e157 1 rfl) (fun hc2 => ?_) (fun hc2 => ?_)
  · replace h := (if_pos hc2).symm.trans h
    cases h
  · replace h := (if_neg hc2).symm.trans h
    refine g_iload_n hC rfl 0 rfl (rfl : 4 + 1 = 5) (xdt tt_J3_checkIndex_8e157 2 rfl) ?_
    refine g_iload_n hC rfl 1 rfl (rfl : 5 + 1 = 6) (xdt tt_J3_checkIndex_8e157 3 rfl) ?_
    refine g_icmp_lt hC (show ((6 : Nat) : Int) + 10 = ((16 : Nat) : Int) by decide) (rfl : 6 + 3 = 9) (xdt tt_J3_checkIndex_8e157 4 rfl) (fun hc1 => ?_) (fun hc1 => ?_)
    · replace h := (if_pos hc1).symm.trans h
      refine g_iload_n hC rfl 0 rfl (rfl : 16 + 1 = 17) (xdt tt_J3_checkIndex_8e157 10 rfl) ?_
      cases h
      exact g_iret hC hE (xdt tt_J3_checkIndex_8e157 11 rfl)
    · replace h := (if_neg hc1).symm.trans h
      cases h
def f_J0_checkIndex_df160 (S : xSt) (a0 : Int) (a1 : Int) : Option (xSt) :=
  bd2 (f_J3_checkIndex_8e157 S a0 a1) fun v4 S3 =>
  some S3
set_option maxRecDepth 100000 in
set_option maxHeartbeats 4000000 in
theorem c_J0_checkIndex_df160 (l : Launch) {E : xE} {S S' : xSt} {a0 : Int} {a1 : Int} (h : f_J0_checkIndex_df160 S a0 a1 = some S') : Met l yJ0_checkIndex_df160 (xws yJ0_checkIndex_df160 cJ0_checkIndex_df160 2 none) (rmD 2) (YPc E [vi a0, vi a1] S) (YQv E S') 0 0 (xA E) := by
  unfold f_J0_checkIndex_df160 at h
  refine met_v (by decide +kernel) (Nat.le_of_ble_eq_true rfl) (fun K hC hZ hE => ?_)
  have hC : xOK K cJ0_checkIndex_df160 RJ0 2 (rmE 2 0) := hC
  show WG K E 0 [(0, vi a0), (1, vi a1)] [] S
  refine g_iload_n hC rfl 0 rfl (rfl : 0 + 1 = 1) (xdt tt_J0_checkIndex_df160 0 rfl) ?_
  refine g_iload_n hC rfl 1 rfl (rfl : 1 + 1 = 2) (xdt tt_J0_checkIndex_df160 1 rfl) ?_
  refine g_getsQ hC q281 (rfl : 2 + 3 = 5) (xdt tt_J0_checkIndex_df160 2 rfl) (fun w1 hw1 => ?_)
  obtain ⟨v4, S3, hc2, h⟩ := bd2_i h
  refine g_callSi hC hZ m_J3_checkIndex_8e157 q393 (Nat.le_of_ble_eq_true rfl) [vi a0, vi a1, w1] rfl (fun l => c_J3_checkIndex_8e157 l hw1 hc2) rfl (Nat.le_of_ble_eq_true rfl) (rfl : 5 + 3 = 8) (xdt tt_J0_checkIndex_df160 3 rfl) ?_
  refine g_pop hC rfl (rfl : 8 + 1 = 9) (xdt tt_J0_checkIndex_df160 4 rfl) ?_
  cases h
  exact g_vret hC hE (xdt tt_J0_checkIndex_df160 5 rfl)
def f_J2_checkIndex_2214a (S : xSt) (a0 : Int) (k1 : Nat) : Option (xSt) :=
  bd2 (f_J2_length_9d52b S k1) fun v3 S2 =>
  bd (f_J0_checkIndex_df160 S2 a0 v3) fun S5 =>
  some S5
set_option maxRecDepth 100000 in
set_option maxHeartbeats 4000000 in
theorem c_J2_checkIndex_2214a (l : Launch) {E : xE} {S S' : xSt} {a0 : Int} {k1 : Nat} (hs1 : k1 < xldc.length) (h : f_J2_checkIndex_2214a S a0 k1 = some S') : Met l yJ2_checkIndex_2214a (xws yJ2_checkIndex_2214a cJ2_checkIndex_2214a 2 none) (rmD 3) (YPc E [vi a0, vv E k1] S) (YQv E S') 0 0 (xA E) := by
  unfold f_J2_checkIndex_2214a at h
  refine met_v (by decide +kernel) (Nat.le_of_ble_eq_true rfl) (fun K hC hZ hE => ?_)
  have hC : xOK K cJ2_checkIndex_2214a RJ2 2 (rmE 3 0) := hC
  show WG K E 0 [(0, vi a0), (1, vv E k1)] [] S
  refine g_iload_n hC rfl 0 rfl (rfl : 0 + 1 = 1) (xdt tt_J2_checkIndex_2214a 0 rfl) ?_
  refine g_aload_n hC rfl 1 rfl (rfl : 1 + 1 = 2) (xdt tt_J2_checkIndex_2214a 1 rfl) ?_
  obtain ⟨v3, S2, hc1, h⟩ := bd2_i h
  refine g_callSi hC hZ m_J2_length_9d52b q274 (Nat.le_of_ble_eq_true rfl) [vv E k1] rfl (fun l => c_J2_length_9d52b l hs1 hc1) rfl (Nat.le_of_ble_eq_true rfl) (rfl : 2 + 3 = 5) (xdt tt_J2_checkIndex_2214a 2 rfl) ?_
  obtain ⟨S5, hc4, h⟩ := bd_i h
  refine g_callSv hC hZ m_J0_checkIndex_df160 q390 (Nat.le_of_ble_eq_true rfl) [vi a0, vi v3] rfl (fun l => c_J0_checkIndex_df160 l hc4) rfl (Nat.le_of_ble_eq_true rfl) (rfl : 5 + 3 = 8) (xdt tt_J2_checkIndex_2214a 3 rfl) ?_
  cases h
  exact g_vret hC hE (xdt tt_J2_checkIndex_2214a 4 rfl)
def f_J2_getChar_3b067 (S : xSt) (k0 : Nat) (a1 : Int) : Option (Int × xSt) :=
  none
set_option maxRecDepth 100000 in
set_option maxHeartbeats 4000000 in
theorem c_J2_getChar_3b067 (l : Launch) {E : xE} {S S' : xSt} {k0 : Nat} {a1 : Int} (hs0 : k0 < xldc.length) {v : Int} (h : f_J2_getChar_3b067 S k0 a1 = some (v, S')) : Met l yJ2_getChar_3b067 (xws yJ2_getChar_3b067 cJ2_getChar_3b067 2 (some .char)) (rmD 1) (YPc E [vv E k0, vi a1] S) (YQc E v S') 0 0 (xA E) := by
  unfold f_J2_getChar_3b067 at h
  refine met_c (by decide +kernel) (Nat.le_of_ble_eq_true rfl) (fun K hC hZ hE => ?_)
  have hC : xOK K cJ2_getChar_3b067 RJ2 2 (rmE 1 0) := hC
  show WG K E 0 [(0, vv E k0), (1, vi a1)] [] S
  cases h
def f_J2_charAt_3b067 (S : xSt) (k0 : Nat) (a1 : Int) : Option (Int × xSt) :=
  bd (f_J2_checkIndex_2214a S a1 k0) fun S2 =>
  bd2 (f_J2_getChar_3b067 S2 k0 a1) fun v5 S4 =>
  some (v5, S4)
set_option maxRecDepth 100000 in
set_option maxHeartbeats 4000000 in
theorem c_J2_charAt_3b067 (l : Launch) {E : xE} {S S' : xSt} {k0 : Nat} {a1 : Int} (hs0 : k0 < xldc.length) {v : Int} (h : f_J2_charAt_3b067 S k0 a1 = some (v, S')) : Met l yJ2_charAt_3b067 (xws yJ2_charAt_3b067 cJ2_charAt_3b067 2 (some .char)) (rmD 4) (YPc E [vv E k0, vi a1] S) (YQc E v S') 0 0 (xA E) := by
  unfold f_J2_charAt_3b067 at h
  refine met_c (by decide +kernel) (Nat.le_of_ble_eq_true rfl) (fun K hC hZ hE => ?_)
  have hC : xOK K cJ2_charAt_3b067 RJ2 2 (rmE 4 0) := hC
  show WG K E 0 [(0, vv E k0), (1, vi a1)] [] S
  refine g_iload_n hC rfl 1 rfl (rfl : 0 + 1 = 1) (xdt tt_J2_charAt_3b067 0 rfl) ?_
  refine g_aload_n hC rfl 0 rfl (rfl : 1 + 1 = 2) (xdt tt_J2_charAt_3b067 1 rfl) ?_
  obtain ⟨S2, hc1, h⟩ := bd_i h
  refine g_callSv hC hZ m_J2_checkIndex_2214a q387 (Nat.le_of_ble_eq_true rfl) [vi a1, vv E k0] rfl (fun l => c_J2_checkIndex_2214a l hs0 hc1) rfl (Nat.le_of_ble_eq_true rfl) (rfl : 2 + 3 = 5) (xdt tt_J2_charAt_3b067 2 rfl) ?_
  refine g_aload_n hC rfl 0 rfl (rfl : 5 + 1 = 6) (xdt tt_J2_charAt_3b067 3 rfl) ?_
  refine g_iload_n hC rfl 1 rfl (rfl : 6 + 1 = 7) (xdt tt_J2_charAt_3b067 4 rfl) ?_
  obtain ⟨v5, S4, hc3, h⟩ := bd2_i h
  refine g_callSc hC hZ m_J2_getChar_3b067 q440 (Nat.le_of_ble_eq_true rfl) [vv E k0, vi a1] rfl (fun l => c_J2_getChar_3b067 l hs0 hc3) rfl (Nat.le_of_ble_eq_true rfl) (rfl : 7 + 3 = 10) (xdt tt_J2_charAt_3b067 5 rfl) (fun hb6 => ?_)
  cases h
  exact g_cret hC hE hb6 (xdt tt_J2_charAt_3b067 6 rfl)
def f_J1_charAt_3b067 (S : xSt) (k0 : Nat) (a1 : Int) : Option (Int × xSt) :=
  bd (f_J0_checkIndex_df160 S a1 ((xln k0 : Nat) : Int)) fun S2 =>
  ckI a1 (xln k0) <|
  some ((iCh (iA (xby k0 (wr a1).toNat) 255)), S2)
set_option maxRecDepth 100000 in
set_option maxHeartbeats 4000000 in
theorem c_J1_charAt_3b067 (l : Launch) {E : xE} {S S' : xSt} {k0 : Nat} {a1 : Int} (hs0 : k0 < xldc.length) {v : Int} (h : f_J1_charAt_3b067 S k0 a1 = some (v, S')) : Met l yJ1_charAt_3b067 (xws yJ1_charAt_3b067 cJ1_charAt_3b067 2 (some .char)) (rmD 3) (YPc E [vv E k0, vi a1] S) (YQc E v S') 0 0 (xA E) := by
  unfold f_J1_charAt_3b067 at h
  refine met_c (by decide +kernel) (Nat.le_of_ble_eq_true rfl) (fun K hC hZ hE => ?_)
  have hC : xOK K cJ1_charAt_3b067 RJ1 2 (rmE 3 0) := hC
  show WG K E 0 [(0, vv E k0), (1, vi a1)] [] S
  refine g_iload_n hC rfl 1 rfl (rfl : 0 + 1 = 1) (xdt tt_J1_charAt_3b067 0 rfl) ?_
  refine g_aload_n hC rfl 0 rfl (rfl : 1 + 1 = 2) (xdt tt_J1_charAt_3b067 1 rfl) ?_
  refine g_vlen hC hs0 (rfl : 2 + 1 = 3) (xdt tt_J1_charAt_3b067 2 rfl) ?_
  obtain ⟨S2, hc1, h⟩ := bd_i h
  refine g_callSv hC hZ m_J0_checkIndex_df160 q465 (Nat.le_of_ble_eq_true rfl) [vi a1, vi ((xln k0 : Nat) : Int)] rfl (fun l => c_J0_checkIndex_df160 l hc1) rfl (Nat.le_of_ble_eq_true rfl) (rfl : 3 + 3 = 6) (xdt tt_J1_charAt_3b067 3 rfl) ?_
  refine g_aload_n hC rfl 0 rfl (rfl : 6 + 1 = 7) (xdt tt_J1_charAt_3b067 4 rfl) ?_
  refine g_iload_n hC rfl 1 rfl (rfl : 7 + 1 = 8) (xdt tt_J1_charAt_3b067 5 rfl) ?_
  obtain ⟨hi3, h⟩ := ckI_i h
  refine g_vald hC hs0 hi3 (rfl : 8 + 1 = 9) (xdt tt_J1_charAt_3b067 6 rfl) (k0 := (wr a1).toNat) rfl ?_
  refine g_sipush hC (by decide) (rfl : 9 + 3 = 12) (xdt tt_J1_charAt_3b067 7 rfl) ?_
  refine g_iand hC (rfl : 12 + 1 = 13) (xdt tt_J1_charAt_3b067 8 rfl) ?_
  refine g_i2c hC (rfl : 13 + 1 = 14) (xdt tt_J1_charAt_3b067 9 rfl) ?_
  cases h
  exact g_cret hC hE (nar_ch _) (xdt tt_J1_charAt_3b067 10 rfl)
def f_J0_charAt_5068e (S : xSt) (k0 : Nat) (a1 : Int) : Option (Int × xSt) :=
  bd2 (f_J0_isLatin1_aae02 S k0) fun v3 S2 =>
  if wr v3 = 0 then
    (bd2 (f_J2_charAt_3b067 S2 k0 a1) fun v7 S6 =>
    some (v7, S6))
  else
    (bd2 (f_J1_charAt_3b067 S2 k0 a1) fun v11 S10 =>
    some (v11, S10))
set_option maxRecDepth 100000 in
set_option maxHeartbeats 4000000 in
theorem c_J0_charAt_5068e (l : Launch) {E : xE} {S S' : xSt} {k0 : Nat} {a1 : Int} (hs0 : k0 < xldc.length) {v : Int} (h : f_J0_charAt_5068e S k0 a1 = some (v, S')) : Met l yJ0_charAt_5068e (xws yJ0_charAt_5068e cJ0_charAt_5068e 2 (some .char)) (rmD 5) (YPc E [vs E k0, vi a1] S) (YQc E v S') 0 0 (xA E) := by
  unfold f_J0_charAt_5068e at h
  refine met_c (by decide +kernel) (Nat.le_of_ble_eq_true rfl) (fun K hC hZ hE => ?_)
  have hC : xOK K cJ0_charAt_5068e RJ0 2 (rmE 5 0) := hC
  show WG K E 0 [(0, vs E k0), (1, vi a1)] [] S
  refine g_aload_n hC rfl 0 rfl (rfl : 0 + 1 = 1) (xdt tt_J0_charAt_5068e 0 rfl) ?_
  obtain ⟨v3, S2, hc1, h⟩ := bd2_i h
  refine g_callTz hC hZ hs0 m_J0_isLatin1_aae02 q458 (Nat.le_of_ble_eq_true rfl) [] rfl (fun l => c_J0_isLatin1_aae02 l hs0 hc1) rfl (Nat.le_of_ble_eq_true rfl) (rfl : 1 + 3 = 4) (xdt tt_J0_charAt_5068e 1 rfl) (fun hb4 => ?_)
  refine g_if_eq hC (show ((4 : Nat) : Int) + 12 = ((16 : Nat) : Int) by decide) (rfl : 4 + 3 = 7) (xdt tt_J0_charAt_5068e 2 rfl) (fun hc13 => ?_) (fun hc13 => ?_)
  · replace h := (if_pos hc13).symm.trans h
    refine g_aload_n hC rfl 0 rfl (rfl : 16 + 1 = 17) (xdt tt_J0_charAt_5068e 8 rfl) ?_
    refine g_strV hC hs0 q295 (rfl : 17 + 3 = 20) (xdt tt_J0_charAt_5068e 9 rfl) ?_
    refine g_iload_n hC rfl 1 rfl (rfl : 20 + 1 = 21) (xdt tt_J0_charAt_5068e 10 rfl) ?_
    obtain ⟨v7, S6, hc5, h⟩ := bd2_i h
    refine g_callSc hC hZ m_J2_charAt_3b067 q466 (Nat.le_of_ble_eq_true rfl) [vv E k0, vi a1] rfl (fun l => c_J2_charAt_3b067 l hs0 hc5) rfl (Nat.le_of_ble_eq_true rfl) (rfl : 21 + 3 = 24) (xdt tt_J0_charAt_5068e 11 rfl) (fun hb8 => ?_)
    cases h
    exact g_cret hC hE hb8 (xdt tt_J0_charAt_5068e 12 rfl)
  · replace h := (if_neg hc13).symm.trans h
    refine g_aload_n hC rfl 0 rfl (rfl : 7 + 1 = 8) (xdt tt_J0_charAt_5068e 3 rfl) ?_
    refine g_strV hC hs0 q295 (rfl : 8 + 3 = 11) (xdt tt_J0_charAt_5068e 4 rfl) ?_
    refine g_iload_n hC rfl 1 rfl (rfl : 11 + 1 = 12) (xdt tt_J0_charAt_5068e 5 rfl) ?_
    obtain ⟨v11, S10, hc9, h⟩ := bd2_i h
    refine g_callSc hC hZ m_J1_charAt_3b067 q462 (Nat.le_of_ble_eq_true rfl) [vv E k0, vi a1] rfl (fun l => c_J1_charAt_3b067 l hs0 hc9) rfl (Nat.le_of_ble_eq_true rfl) (rfl : 12 + 3 = 15) (xdt tt_J0_charAt_5068e 6 rfl) (fun hb12 => ?_)
    cases h
    exact g_cret hC hE hb12 (xdt tt_J0_charAt_5068e 7 rfl)
def f_X3_tokenIs_p3_2_b28 (r0 : Nat) (k1 : Nat) : Nat → xSt → Int → Option (Int × xSt)
  | 0, _, _ => none
  | fuel + 1, S, x2 =>
    bd2 (f_J0_length_8abf5 S k1) fun v6 S5 =>
    if wr v6 ≤ wr x2 then
      (some (1, S5))
    else
      (ckP S5 r0 2 0 3 1 fun rg7 =>
      ckI ((gI S5 r0 2 4) + x2) 600 <|
      bd2 (f_J0_charAt_5068e S5 k1 x2) fun v11 S10 =>
      if wr (gI S5 rg7 1 (wr ((gI S5 r0 2 4) + x2)).toNat) = wr v11 then
        ((f_X3_tokenIs_p3_2_b28 r0 k1 fuel) S10 (x2 + 1))
      else
        (some (0, S10)))
def f_X3_tokenIs_p3_2 (S : xSt) (r0 : Nat) (k1 : Nat) : Option (Int × xSt) :=
  if ¬ wr (gI S r0 2 3) = wr 1 then
    (some (0, S))
  else
    (bd2 (f_J0_length_8abf5 S k1) fun v3 S2 =>
    if wr ((gI S r0 2 5) - (gI S r0 2 4)) = wr v3 then
      (f_X3_tokenIs_p3_2_b28 r0 k1 (fu S2) S2 0)
    else
      (some (0, S2)))
set_option maxRecDepth 100000 in
set_option maxHeartbeats 4000000 in
theorem k_X3_tokenIs_p3_2_b28 {K : xCtx} {E : xE} {b : Nat} (hC : xOK K cX3_tokenIs RX3 3 (rmE 6 b)) (hZ : xZ K) {v : Int} {S' : xSt} (hE : xEnd K E (some .boolean) (YQz E v S')) {r0 : Nat} {k1 : Nat} (hk0 : xkd E r0 = 3) (hA0 : xFam E r0) (hs1 : k1 < xldc.length) : ∀ (fuel : Nat) (S : xSt) (x2 : Int), f_X3_tokenIs_p3_2_b28 r0 k1 fuel S x2 = some (v, S') → WG K E 28 [(0, vr E r0 2), (1, vs E k1), (2, vi x2)] [] S := by
  intro fuel
  induction fuel with
  | zero => intro S x2 h; cases h
  | succ fuel ih =>
    intro S x2 h
    rw [f_X3_tokenIs_p3_2_b28] at h
    refine g_iload_n hC rfl 2 rfl (rfl : 28 + 1 = 29) (xdt tt_X3_tokenIs 16 rfl) ?_
    refine g_aload_n hC rfl 1 rfl (rfl : 29 + 1 = 30) (xdt tt_X3_tokenIs 17 rfl) ?_
    obtain ⟨v6, S5, hc4, h⟩ := bd2_i h
    refine g_callTi hC hZ hs1 m_J0_length_8abf5 q560 (Nat.le_of_ble_eq_true rfl) [] rfl (fun l => c_J0_length_8abf5 l hs1 hc4) rfl (Nat.le_of_ble_eq_true rfl) (rfl : 30 + 3 = 33) (xdt tt_X3_tokenIs 18 rfl) ?_
    refine g_icmp_ge hC (show ((33 : Nat) : Int) + 30 = ((63 : Nat) : Int) by decide) (rfl : 33 + 3 = 36) (xdt tt_X3_tokenIs 19 rfl) (fun hc14 => ?_) (fun hc14 => ?_)
    · replace h := (if_pos hc14).symm.trans h
      refine g_iconst hC (rfl : 63 + 1 = 64) (xdt tt_X3_tokenIs 35 rfl) ?_
      cases h
      exact g_zret hC hE (Or.inr rfl) (xdt tt_X3_tokenIs 36 rfl)
    · replace h := (if_neg hc14).symm.trans h
      refine g_aload_n hC rfl 0 rfl (rfl : 36 + 1 = 37) (xdt tt_X3_tokenIs 20 rfl) ?_
      obtain ⟨rg7, hrg7, grg7, h⟩ := ckP_i h
      refine g_getV hC hk0 kclX3 ly3_2 0 (by decide) rfl hrg7 grg7 (by decide) q47 (rfl : 37 + 3 = 40) (xdt tt_X3_tokenIs 21 rfl) (fun krg7 => ?_)
      refine g_aload_n hC rfl 0 rfl (rfl : 40 + 1 = 41) (xdt tt_X3_tokenIs 22 rfl) ?_
      refine g_getI hC hk0 kclX3 ly3_2 4 (by decide) rfl q507 (rfl : 41 + 3 = 44) (xdt tt_X3_tokenIs 23 rfl) ?_
      refine g_iload_n hC rfl 2 rfl (rfl : 44 + 1 = 45) (xdt tt_X3_tokenIs 24 rfl) ?_
      refine g_iadd hC (rfl : 45 + 1 = 46) (xdt tt_X3_tokenIs 25 rfl) ?_
      obtain ⟨hi8, h⟩ := ckI_i h
      refine g_bald hC krg7 ly3_1 hi8 (rfl : 46 + 1 = 47) (xdt tt_X3_tokenIs 26 rfl) (k0 := (wr ((gI S5 r0 2 4) + x2)).toNat) rfl ?_
      refine g_aload_n hC rfl 1 rfl (rfl : 47 + 1 = 48) (xdt tt_X3_tokenIs 27 rfl) ?_
      refine g_iload_n hC rfl 2 rfl (rfl : 48 + 1 = 49) (xdt tt_X3_tokenIs 28 rfl) ?_
      obtain ⟨v11, S10, hc9, h⟩ := bd2_i h
      refine g_callTc hC hZ hs1 m_J0_charAt_5068e q561 (Nat.le_of_ble_eq_true rfl) [vi x2] rfl (fun l => c_J0_charAt_5068e l hs1 hc9) rfl (Nat.le_of_ble_eq_true rfl) (rfl : 49 + 3 = 52) (xdt tt_X3_tokenIs 29 rfl) (fun hb12 => ?_)
      refine g_icmp_eq hC (show ((52 : Nat) : Int) + 5 = ((57 : Nat) : Int) by decide) (rfl : 52 + 3 = 55) (xdt tt_X3_tokenIs 30 rfl) (fun hc13 => ?_) (fun hc13 => ?_)
      · replace h := (if_pos hc13).symm.trans h
        refine g_iinc hC 2 rfl (by decide) (lv' := [(2, vi (x2 + 1)), (0, vr E r0 2), (1, vs E k1)]) rfl (rfl : 57 + 3 = 60) (xdt tt_X3_tokenIs 33 rfl) ?_
        refine g_goto hC (show ((60 : Nat) : Int) + (-32) = ((28 : Nat) : Int) by decide) (xdt tt_X3_tokenIs 34 rfl) ?_
        refine g_sub [1, 2, 0] (lv' := [(0, vr E r0 2), (1, vs E k1), (2, vi (x2 + 1))]) rfl ?_
        exact ih _ _ h
      · replace h := (if_neg hc13).symm.trans h
        refine g_iconst hC (rfl : 55 + 1 = 56) (xdt tt_X3_tokenIs 31 rfl) ?_
        cases h
        exact g_zret hC hE (Or.inl rfl) (xdt tt_X3_tokenIs 32 rfl)
set_option maxRecDepth 100000 in
set_option maxHeartbeats 4000000 in
theorem c_X3_tokenIs_p3_2 (l : Launch) {E : xE} {S S' : xSt} {r0 : Nat} {k1 : Nat} (hk0 : xkd E r0 = 3) (hA0 : xFam E r0) (hs1 : k1 < xldc.length) {v : Int} (h : f_X3_tokenIs_p3_2 S r0 k1 = some (v, S')) : Met l yX3_tokenIs (xws yX3_tokenIs cX3_tokenIs 3 (some .boolean)) (rmD 6) (YPc E [vr E r0 2, vs E k1] S) (YQz E v S') 0 0 (xA E) := by
  unfold f_X3_tokenIs_p3_2 at h
  refine met_z (by decide +kernel) (Nat.le_of_ble_eq_true rfl) (fun K hC hZ hE => ?_)
  have hC : xOK K cX3_tokenIs RX3 3 (rmE 6 0) := hC
  show WG K E 0 [(0, vr E r0 2), (1, vs E k1)] [] S
  refine g_aload_n hC rfl 0 rfl (rfl : 0 + 1 = 1) (xdt tt_X3_tokenIs 0 rfl) ?_
  refine g_getI hC hk0 kclX3 ly3_2 3 (by decide) rfl q493 (rfl : 1 + 3 = 4) (xdt tt_X3_tokenIs 1 rfl) ?_
  refine g_iconst hC (rfl : 4 + 1 = 5) (xdt tt_X3_tokenIs 2 rfl) ?_
  refine g_icmp_ne hC (show ((5 : Nat) : Int) + 19 = ((24 : Nat) : Int) by decide) (rfl : 5 + 3 = 8) (xdt tt_X3_tokenIs 3 rfl) (fun hc16 => ?_) (fun hc16 => ?_)
  · replace h := (if_pos hc16).symm.trans h
    refine g_iconst hC (rfl : 24 + 1 = 25) (xdt tt_X3_tokenIs 12 rfl) ?_
    cases h
    exact g_zret hC hE (Or.inl rfl) (xdt tt_X3_tokenIs 13 rfl)
  · replace h := (if_neg hc16).symm.trans h
    refine g_aload_n hC rfl 0 rfl (rfl : 8 + 1 = 9) (xdt tt_X3_tokenIs 4 rfl) ?_
    refine g_getI hC hk0 kclX3 ly3_2 5 (by decide) rfl q500 (rfl : 9 + 3 = 12) (xdt tt_X3_tokenIs 5 rfl) ?_
    refine g_aload_n hC rfl 0 rfl (rfl : 12 + 1 = 13) (xdt tt_X3_tokenIs 6 rfl) ?_
    refine g_getI hC hk0 kclX3 ly3_2 4 (by decide) rfl q507 (rfl : 13 + 3 = 16) (xdt tt_X3_tokenIs 7 rfl) ?_
    refine g_isub hC (rfl : 16 + 1 = 17) (xdt tt_X3_tokenIs 8 rfl) ?_
    refine g_aload_n hC rfl 1 rfl (rfl : 17 + 1 = 18) (xdt tt_X3_tokenIs 9 rfl) ?_
    obtain ⟨v3, S2, hc1, h⟩ := bd2_i h
    refine g_callTi hC hZ hs1 m_J0_length_8abf5 q560 (Nat.le_of_ble_eq_true rfl) [] rfl (fun l => c_J0_length_8abf5 l hs1 hc1) rfl (Nat.le_of_ble_eq_true rfl) (rfl : 18 + 3 = 21) (xdt tt_X3_tokenIs 10 rfl) ?_
    refine g_icmp_eq hC (show ((21 : Nat) : Int) + 5 = ((26 : Nat) : Int) by decide) (rfl : 21 + 3 = 24) (xdt tt_X3_tokenIs 11 rfl) (fun hc15 => ?_) (fun hc15 => ?_)
    · replace h := (if_pos hc15).symm.trans h
      refine g_iconst hC (rfl : 26 + 1 = 27) (xdt tt_X3_tokenIs 14 rfl) ?_
      refine g_istore_n hC rfl (by decide) (lv' := [(2, vi 0), (0, vr E r0 2), (1, vs E k1)]) rfl (rfl : 27 + 1 = 28) (xdt tt_X3_tokenIs 15 rfl) ?_
      refine g_sub [1, 2, 0] (lv' := [(0, vr E r0 2), (1, vs E k1), (2, vi 0)]) rfl ?_
      exact k_X3_tokenIs_p3_2_b28 hC hZ hE hk0 hA0 hs1 _ _ _ h
    · replace h := (if_neg hc15).symm.trans h
      refine g_iconst hC (rfl : 24 + 1 = 25) (xdt tt_X3_tokenIs 12 rfl) ?_
      cases h
      exact g_zret hC hE (Or.inl rfl) (xdt tt_X3_tokenIs 13 rfl)
def f_X11_wordOfSetting (S : xSt) (a0 : Int) : Option (Nat × xSt) :=
  if wr a0 < 0 ∨ 4 < wr a0 then
    (some (23, S))
  else
  if wr a0 = 0 then
    (some (18, S))
  else
  if wr a0 = 1 then
    (some (19, S))
  else
  if wr a0 = 2 then
    (some (20, S))
  else
  if wr a0 = 3 then
    (some (21, S))
  else
  if wr a0 = 4 then
    (some (22, S))
  else
  none
set_option maxRecDepth 100000 in
set_option maxHeartbeats 4000000 in
theorem c_X11_wordOfSetting (l : Launch) {E : xE} {S S' : xSt} {a0 : Int} {v : Nat} (h : f_X11_wordOfSetting S a0 = some (v, S')) : Met l yX11_wordOfSetting (xws yX11_wordOfSetting cX11_wordOfSetting 1 (some (.object "java/lang/String"))) (rmD 1) (YPc E [vi a0] S) (YQa E v S') 0 0 (xA E) := by
  unfold f_X11_wordOfSetting at h
  refine met_a (by decide +kernel) (Nat.le_of_ble_eq_true rfl) (fun K hC hZ hE => ?_)
  have hC : xOK K cX11_wordOfSetting RX11 1 (rmE 1 0) := hC
  show WG K E 0 [(0, vi a0)] [] S
  refine g_iload_n hC rfl 0 rfl (rfl : 0 + 1 = 1) (xdt tt_X11_wordOfSetting 0 rfl) ?_
  by_cases hs1 : wr a0 < 0 ∨ 4 < wr a0
  · replace h := (if_pos hs1).symm.trans h
    refine g_tabOut hC (xdt tt_X11_wordOfSetting 1 rfl) hs1 (show ((1 : Nat) : Int) + 55 = ((56 : Nat) : Int) by decide) ?_
    refine g_ldcSW hC 23 rfl rfl (rfl : 56 + 3 = 59) (xdt tt_X11_wordOfSetting 12 rfl) ?_
    cases h
    exact g_aret hC hE (show 23 < xldc.length by decide) (xdt tt_X11_wordOfSetting 13 rfl)
  · replace h := (if_neg hs1).symm.trans h
    by_cases hv2 : wr a0 = 0
    · replace h := (if_pos hv2).symm.trans h
      refine g_tabIn hC (xdt tt_X11_wordOfSetting 1 rfl) (fun z => hs1 (Or.inl z)) (fun z => hs1 (Or.inr z)) (off := 35) (by rw [hv2]; rfl) (show ((1 : Nat) : Int) + 35 = ((36 : Nat) : Int) by decide) ?_
      refine g_ldcSW hC 18 rfl rfl (rfl : 36 + 3 = 39) (xdt tt_X11_wordOfSetting 2 rfl) ?_
      cases h
      exact g_aret hC hE (show 18 < xldc.length by decide) (xdt tt_X11_wordOfSetting 3 rfl)
    · replace h := (if_neg hv2).symm.trans h
      by_cases hv3 : wr a0 = 1
      · replace h := (if_pos hv3).symm.trans h
        refine g_tabIn hC (xdt tt_X11_wordOfSetting 1 rfl) (fun z => hs1 (Or.inl z)) (fun z => hs1 (Or.inr z)) (off := 39) (by rw [hv3]; rfl) (show ((1 : Nat) : Int) + 39 = ((40 : Nat) : Int) by decide) ?_
        refine g_ldcSW hC 19 rfl rfl (rfl : 40 + 3 = 43) (xdt tt_X11_wordOfSetting 4 rfl) ?_
        cases h
        exact g_aret hC hE (show 19 < xldc.length by decide) (xdt tt_X11_wordOfSetting 5 rfl)
      · replace h := (if_neg hv3).symm.trans h
        by_cases hv4 : wr a0 = 2
        · replace h := (if_pos hv4).symm.trans h
          refine g_tabIn hC (xdt tt_X11_wordOfSetting 1 rfl) (fun z => hs1 (Or.inl z)) (fun z => hs1 (Or.inr z)) (off := 43) (by rw [hv4]; rfl) (show ((1 : Nat) : Int) + 43 = ((44 : Nat) : Int) by decide) ?_
          refine g_ldcSW hC 20 rfl rfl (rfl : 44 + 3 = 47) (xdt tt_X11_wordOfSetting 6 rfl) ?_
          cases h
          exact g_aret hC hE (show 20 < xldc.length by decide) (xdt tt_X11_wordOfSetting 7 rfl)
        · replace h := (if_neg hv4).symm.trans h
          by_cases hv5 : wr a0 = 3
          · replace h := (if_pos hv5).symm.trans h
            refine g_tabIn hC (xdt tt_X11_wordOfSetting 1 rfl) (fun z => hs1 (Or.inl z)) (fun z => hs1 (Or.inr z)) (off := 47) (by rw [hv5]; rfl) (show ((1 : Nat) : Int) + 47 = ((48 : Nat) : Int) by decide) ?_
            refine g_ldcSW hC 21 rfl rfl (rfl : 48 + 3 = 51) (xdt tt_X11_wordOfSetting 8 rfl) ?_
            cases h
            exact g_aret hC hE (show 21 < xldc.length by decide) (xdt tt_X11_wordOfSetting 9 rfl)
          · replace h := (if_neg hv5).symm.trans h
            by_cases hv6 : wr a0 = 4
            · replace h := (if_pos hv6).symm.trans h
              refine g_tabIn hC (xdt tt_X11_wordOfSetting 1 rfl) (fun z => hs1 (Or.inl z)) (fun z => hs1 (Or.inr z)) (off := 51) (by rw [hv6]; rfl) (show ((1 : Nat) : Int) + 51 = ((52 : Nat) : Int) by decide) ?_
              refine g_ldcSW hC 22 rfl rfl (rfl : 52 + 3 = 55) (xdt tt_X11_wordOfSetting 10 rfl) ?_
              cases h
              exact g_aret hC hE (show 22 < xldc.length by decide) (xdt tt_X11_wordOfSetting 11 rfl)
            · replace h := (if_neg hv6).symm.trans h
              cases h
def f_X3_settingOfToken_p3_2_b2 (r0 : Nat) : Nat → xSt → Int → Option (Int × xSt)
  | 0, _, _ => none
  | fuel + 1, S, x1 =>
    if wr 6 ≤ wr x1 then
      (some ((-1), S))
    else
      (bd2 (f_X11_wordOfSetting S x1) fun v3 S2 =>
      bd2 (f_X3_tokenIs_p3_2 S2 r0 v3) fun v7 S6 =>
      if wr v7 = 0 then
        ((f_X3_settingOfToken_p3_2_b2 r0 fuel) S6 (x1 + 1))
      else
        (some (x1, S6)))
def f_X3_settingOfToken_p3_2 (S : xSt) (r0 : Nat) : Option (Int × xSt) :=
  f_X3_settingOfToken_p3_2_b2 r0 (fu S) S 0
set_option maxRecDepth 100000 in
set_option maxHeartbeats 4000000 in
theorem k_X3_settingOfToken_p3_2_b2 {K : xCtx} {E : xE} {b : Nat} (hC : xOK K cX3_settingOfToken RX3 2 (rmE 7 b)) (hZ : xZ K) {v : Int} {S' : xSt} (hE : xEnd K E (some .int) (YQi E v S')) {r0 : Nat} (hk0 : xkd E r0 = 3) (hA0 : xFam E r0) : ∀ (fuel : Nat) (S : xSt) (x1 : Int), f_X3_settingOfToken_p3_2_b2 r0 fuel S x1 = some (v, S') → WG K E 2 [(0, vr E r0 2), (1, vi x1)] [] S := by
  intro fuel
  induction fuel with
  | zero => intro S x1 h; cases h
  | succ fuel ih =>
    intro S x1 h
    rw [f_X3_settingOfToken_p3_2_b2] at h
    refine g_iload_n hC rfl 1 rfl (rfl : 2 + 1 = 3) (xdt tt_X3_settingOfToken 2 rfl) ?_
    refine g_bipush hC (by decide) (rfl : 3 + 2 = 5) (xdt tt_X3_settingOfToken 3 rfl) ?_
    refine g_icmp_ge hC (show ((5 : Nat) : Int) + 22 = ((27 : Nat) : Int) by decide) (rfl : 5 + 3 = 8) (xdt tt_X3_settingOfToken 4 rfl) (fun hc10 => ?_) (fun hc10 => ?_)
    · replace h := (if_pos hc10).symm.trans h
      refine g_iconst hC (rfl : 27 + 1 = 28) (xdt tt_X3_settingOfToken 14 rfl) ?_
      cases h
      exact g_iret hC hE (xdt tt_X3_settingOfToken 15 rfl)
    · replace h := (if_neg hc10).symm.trans h
      refine g_aload_n hC rfl 0 rfl (rfl : 8 + 1 = 9) (xdt tt_X3_settingOfToken 5 rfl) ?_
      refine g_iload_n hC rfl 1 rfl (rfl : 9 + 1 = 10) (xdt tt_X3_settingOfToken 6 rfl) ?_
      obtain ⟨v3, S2, hc1, h⟩ := bd2_i h
      refine g_callNa hC hZ m_X11_wordOfSetting (List.mem_of_getElem? (i := 11) rfl) (Nat.le_of_ble_eq_true rfl) [vi x1] rfl (fun l => c_X11_wordOfSetting l hc1) rfl (Nat.le_of_ble_eq_true rfl) (rfl : 10 + 3 = 13) (xdt tt_X3_settingOfToken 7 rfl) (fun hb4 => ?_)
      obtain ⟨v7, S6, hc5, h⟩ := bd2_i h
      refine g_callVz hC hZ hk0 kclX3 ly3_2 m_X3_tokenIs q556 (Nat.le_of_ble_eq_true rfl) [vs E v3] rfl (fun l => c_X3_tokenIs_p3_2 l hk0 hA0 hb4 hc5) rfl (Nat.le_of_ble_eq_true rfl) (rfl : 13 + 3 = 16) (xdt tt_X3_settingOfToken 8 rfl) (fun hb8 => ?_)
      refine g_if_eq hC (show ((16 : Nat) : Int) + 5 = ((21 : Nat) : Int) by decide) (rfl : 16 + 3 = 19) (xdt tt_X3_settingOfToken 9 rfl) (fun hc9 => ?_) (fun hc9 => ?_)
      · replace h := (if_pos hc9).symm.trans h
        refine g_iinc hC 1 rfl (by decide) (lv' := [(1, vi (x1 + 1)), (0, vr E r0 2)]) rfl (rfl : 21 + 3 = 24) (xdt tt_X3_settingOfToken 12 rfl) ?_
        refine g_goto hC (show ((24 : Nat) : Int) + (-22) = ((2 : Nat) : Int) by decide) (xdt tt_X3_settingOfToken 13 rfl) ?_
        refine g_sub [1, 0] (lv' := [(0, vr E r0 2), (1, vi (x1 + 1))]) rfl ?_
        exact ih _ _ h
      · replace h := (if_neg hc9).symm.trans h
        refine g_iload_n hC rfl 1 rfl (rfl : 19 + 1 = 20) (xdt tt_X3_settingOfToken 10 rfl) ?_
        cases h
        exact g_iret hC hE (xdt tt_X3_settingOfToken 11 rfl)
set_option maxRecDepth 100000 in
set_option maxHeartbeats 4000000 in
theorem c_X3_settingOfToken_p3_2 (l : Launch) {E : xE} {S S' : xSt} {r0 : Nat} (hk0 : xkd E r0 = 3) (hA0 : xFam E r0) {v : Int} (h : f_X3_settingOfToken_p3_2 S r0 = some (v, S')) : Met l yX3_settingOfToken (xws yX3_settingOfToken cX3_settingOfToken 2 (some .int)) (rmD 7) (YPc E [vr E r0 2] S) (YQi E v S') 0 0 (xA E) := by
  unfold f_X3_settingOfToken_p3_2 at h
  refine met_i (by decide +kernel) (Nat.le_of_ble_eq_true rfl) (fun K hC hZ hE => ?_)
  have hC : xOK K cX3_settingOfToken RX3 2 (rmE 7 0) := hC
  show WG K E 0 [(0, vr E r0 2)] [] S
  refine g_iconst hC (rfl : 0 + 1 = 1) (xdt tt_X3_settingOfToken 0 rfl) ?_
  refine g_istore_n hC rfl (by decide) (lv' := [(1, vi 0), (0, vr E r0 2)]) rfl (rfl : 1 + 1 = 2) (xdt tt_X3_settingOfToken 1 rfl) ?_
  refine g_sub [1, 0] (lv' := [(0, vr E r0 2), (1, vi 0)]) rfl ?_
  exact k_X3_settingOfToken_p3_2_b2 hC hZ hE hk0 hA0 _ _ _ h
def f_X11_wordOfKind (S : xSt) (a0 : Int) : Option (Nat × xSt) :=
  if wr a0 < 0 ∨ 8 < wr a0 then
    (some (17, S))
  else
  if wr a0 = 0 then
    (some (8, S))
  else
  if wr a0 = 1 then
    (some (9, S))
  else
  if wr a0 = 2 then
    (some (10, S))
  else
  if wr a0 = 3 then
    (some (11, S))
  else
  if wr a0 = 4 then
    (some (12, S))
  else
  if wr a0 = 5 then
    (some (13, S))
  else
  if wr a0 = 6 then
    (some (14, S))
  else
  if wr a0 = 7 then
    (some (15, S))
  else
  if wr a0 = 8 then
    (some (16, S))
  else
  none
set_option maxRecDepth 100000 in
set_option maxHeartbeats 4000000 in
theorem c_X11_wordOfKind (l : Launch) {E : xE} {S S' : xSt} {a0 : Int} {v : Nat} (h : f_X11_wordOfKind S a0 = some (v, S')) : Met l yX11_wordOfKind (xws yX11_wordOfKind cX11_wordOfKind 1 (some (.object "java/lang/String"))) (rmD 1) (YPc E [vi a0] S) (YQa E v S') 0 0 (xA E) := by
  unfold f_X11_wordOfKind at h
  refine met_a (by decide +kernel) (Nat.le_of_ble_eq_true rfl) (fun K hC hZ hE => ?_)
  have hC : xOK K cX11_wordOfKind RX11 1 (rmE 1 0) := hC
  show WG K E 0 [(0, vi a0)] [] S
  refine g_iload_n hC rfl 0 rfl (rfl : 0 + 1 = 1) (xdt tt_X11_wordOfKind 0 rfl) ?_
  by_cases hs1 : wr a0 < 0 ∨ 8 < wr a0
  · replace h := (if_pos hs1).symm.trans h
    refine g_tabOut hC (xdt tt_X11_wordOfKind 1 rfl) hs1 (show ((1 : Nat) : Int) + 87 = ((88 : Nat) : Int) by decide) ?_
    refine g_ldcSW hC 17 rfl rfl (rfl : 88 + 3 = 91) (xdt tt_X11_wordOfKind 20 rfl) ?_
    cases h
    exact g_aret hC hE (show 17 < xldc.length by decide) (xdt tt_X11_wordOfKind 21 rfl)
  · replace h := (if_neg hs1).symm.trans h
    by_cases hv2 : wr a0 = 0
    · replace h := (if_pos hv2).symm.trans h
      refine g_tabIn hC (xdt tt_X11_wordOfKind 1 rfl) (fun z => hs1 (Or.inl z)) (fun z => hs1 (Or.inr z)) (off := 51) (by rw [hv2]; rfl) (show ((1 : Nat) : Int) + 51 = ((52 : Nat) : Int) by decide) ?_
      refine g_ldcSW hC 8 rfl rfl (rfl : 52 + 3 = 55) (xdt tt_X11_wordOfKind 2 rfl) ?_
      cases h
      exact g_aret hC hE (show 8 < xldc.length by decide) (xdt tt_X11_wordOfKind 3 rfl)
    · replace h := (if_neg hv2).symm.trans h
      by_cases hv3 : wr a0 = 1
      · replace h := (if_pos hv3).symm.trans h
        refine g_tabIn hC (xdt tt_X11_wordOfKind 1 rfl) (fun z => hs1 (Or.inl z)) (fun z => hs1 (Or.inr z)) (off := 55) (by rw [hv3]; rfl) (show ((1 : Nat) : Int) + 55 = ((56 : Nat) : Int) by decide) ?_
        refine g_ldcSW hC 9 rfl rfl (rfl : 56 + 3 = 59) (xdt tt_X11_wordOfKind 4 rfl) ?_
        cases h
        exact g_aret hC hE (show 9 < xldc.length by decide) (xdt tt_X11_wordOfKind 5 rfl)
      · replace h := (if_neg hv3).symm.trans h
        by_cases hv4 : wr a0 = 2
        · replace h := (if_pos hv4).symm.trans h
          refine g_tabIn hC (xdt tt_X11_wordOfKind 1 rfl) (fun z => hs1 (Or.inl z)) (fun z => hs1 (Or.inr z)) (off := 59) (by rw [hv4]; rfl) (show ((1 : Nat) : Int) + 59 = ((60 : Nat) : Int) by decide) ?_
          refine g_ldcSW hC 10 rfl rfl (rfl : 60 + 3 = 63) (xdt tt_X11_wordOfKind 6 rfl) ?_
          cases h
          exact g_aret hC hE (show 10 < xldc.length by decide) (xdt tt_X11_wordOfKind 7 rfl)
        · replace h := (if_neg hv4).symm.trans h
          by_cases hv5 : wr a0 = 3
          · replace h := (if_pos hv5).symm.trans h
            refine g_tabIn hC (xdt tt_X11_wordOfKind 1 rfl) (fun z => hs1 (Or.inl z)) (fun z => hs1 (Or.inr z)) (off := 63) (by rw [hv5]; rfl) (show ((1 : Nat) : Int) + 63 = ((64 : Nat) : Int) by decide) ?_
            refine g_ldcSW hC 11 rfl rfl (rfl : 64 + 3 = 67) (xdt tt_X11_wordOfKind 8 rfl) ?_
            cases h
            exact g_aret hC hE (show 11 < xldc.length by decide) (xdt tt_X11_wordOfKind 9 rfl)
          · replace h := (if_neg hv5).symm.trans h
            by_cases hv6 : wr a0 = 4
            · replace h := (if_pos hv6).symm.trans h
              refine g_tabIn hC (xdt tt_X11_wordOfKind 1 rfl) (fun z => hs1 (Or.inl z)) (fun z => hs1 (Or.inr z)) (off := 67) (by rw [hv6]; rfl) (show ((1 : Nat) : Int) + 67 = ((68 : Nat) : Int) by decide) ?_
              refine g_ldcSW hC 12 rfl rfl (rfl : 68 + 3 = 71) (xdt tt_X11_wordOfKind 10 rfl) ?_
              cases h
              exact g_aret hC hE (show 12 < xldc.length by decide) (xdt tt_X11_wordOfKind 11 rfl)
            · replace h := (if_neg hv6).symm.trans h
              by_cases hv7 : wr a0 = 5
              · replace h := (if_pos hv7).symm.trans h
                refine g_tabIn hC (xdt tt_X11_wordOfKind 1 rfl) (fun z => hs1 (Or.inl z)) (fun z => hs1 (Or.inr z)) (off := 71) (by rw [hv7]; rfl) (show ((1 : Nat) : Int) + 71 = ((72 : Nat) : Int) by decide) ?_
                refine g_ldcSW hC 13 rfl rfl (rfl : 72 + 3 = 75) (xdt tt_X11_wordOfKind 12 rfl) ?_
                cases h
                exact g_aret hC hE (show 13 < xldc.length by decide) (xdt tt_X11_wordOfKind 13 rfl)
              · replace h := (if_neg hv7).symm.trans h
                by_cases hv8 : wr a0 = 6
                · replace h := (if_pos hv8).symm.trans h
                  refine g_tabIn hC (xdt tt_X11_wordOfKind 1 rfl) (fun z => hs1 (Or.inl z)) (fun z => hs1 (Or.inr z)) (off := 75) (by rw [hv8]; rfl) (show ((1 : Nat) : Int) + 75 = ((76 : Nat) : Int) by decide) ?_
                  refine g_ldcSW hC 14 rfl rfl (rfl : 76 + 3 = 79) (xdt tt_X11_wordOfKind 14 rfl) ?_
                  cases h
                  exact g_aret hC hE (show 14 < xldc.length by decide) (xdt tt_X11_wordOfKind 15 rfl)
                · replace h := (if_neg hv8).symm.trans h
                  by_cases hv9 : wr a0 = 7
                  · replace h := (if_pos hv9).symm.trans h
                    refine g_tabIn hC (xdt tt_X11_wordOfKind 1 rfl) (fun z => hs1 (Or.inl z)) (fun z => hs1 (Or.inr z)) (off := 79) (by rw [hv9]; rfl) (show ((1 : Nat) : Int) + 79 = ((80 : Nat) : Int) by decide) ?_
                    refine g_ldcSW hC 15 rfl rfl (rfl : 80 + 3 = 83) (xdt tt_X11_wordOfKind 16 rfl) ?_
                    cases h
                    exact g_aret hC hE (show 15 < xldc.length by decide) (xdt tt_X11_wordOfKind 17 rfl)
                  · replace h := (if_neg hv9).symm.trans h
                    by_cases hv10 : wr a0 = 8
                    · replace h := (if_pos hv10).symm.trans h
                      refine g_tabIn hC (xdt tt_X11_wordOfKind 1 rfl) (fun z => hs1 (Or.inl z)) (fun z => hs1 (Or.inr z)) (off := 83) (by rw [hv10]; rfl) (show ((1 : Nat) : Int) + 83 = ((84 : Nat) : Int) by decide) ?_
                      refine g_ldcSW hC 16 rfl rfl (rfl : 84 + 3 = 87) (xdt tt_X11_wordOfKind 18 rfl) ?_
                      cases h
                      exact g_aret hC hE (show 16 < xldc.length by decide) (xdt tt_X11_wordOfKind 19 rfl)
                    · replace h := (if_neg hv10).symm.trans h
                      cases h
def f_X3_kindOfToken_p3_2_b2 (r0 : Nat) : Nat → xSt → Int → Option (Int × xSt)
  | 0, _, _ => none
  | fuel + 1, S, x1 =>
    if wr 10 ≤ wr x1 then
      (some ((-1), S))
    else
      (bd2 (f_X11_wordOfKind S x1) fun v3 S2 =>
      bd2 (f_X3_tokenIs_p3_2 S2 r0 v3) fun v7 S6 =>
      if wr v7 = 0 then
        ((f_X3_kindOfToken_p3_2_b2 r0 fuel) S6 (x1 + 1))
      else
        (some (x1, S6)))
def f_X3_kindOfToken_p3_2 (S : xSt) (r0 : Nat) : Option (Int × xSt) :=
  f_X3_kindOfToken_p3_2_b2 r0 (fu S) S 0
set_option maxRecDepth 100000 in
set_option maxHeartbeats 4000000 in
theorem k_X3_kindOfToken_p3_2_b2 {K : xCtx} {E : xE} {b : Nat} (hC : xOK K cX3_kindOfToken RX3 2 (rmE 7 b)) (hZ : xZ K) {v : Int} {S' : xSt} (hE : xEnd K E (some .int) (YQi E v S')) {r0 : Nat} (hk0 : xkd E r0 = 3) (hA0 : xFam E r0) : ∀ (fuel : Nat) (S : xSt) (x1 : Int), f_X3_kindOfToken_p3_2_b2 r0 fuel S x1 = some (v, S') → WG K E 2 [(0, vr E r0 2), (1, vi x1)] [] S := by
  intro fuel
  induction fuel with
  | zero => intro S x1 h; cases h
  | succ fuel ih =>
    intro S x1 h
    rw [f_X3_kindOfToken_p3_2_b2] at h
    refine g_iload_n hC rfl 1 rfl (rfl : 2 + 1 = 3) (xdt tt_X3_kindOfToken 2 rfl) ?_
    refine g_bipush hC (by decide) (rfl : 3 + 2 = 5) (xdt tt_X3_kindOfToken 3 rfl) ?_
    refine g_icmp_ge hC (show ((5 : Nat) : Int) + 22 = ((27 : Nat) : Int) by decide) (rfl : 5 + 3 = 8) (xdt tt_X3_kindOfToken 4 rfl) (fun hc10 => ?_) (fun hc10 => ?_)
    · replace h := (if_pos hc10).symm.trans h
      refine g_iconst hC (rfl : 27 + 1 = 28) (xdt tt_X3_kindOfToken 14 rfl) ?_
      cases h
      exact g_iret hC hE (xdt tt_X3_kindOfToken 15 rfl)
    · replace h := (if_neg hc10).symm.trans h
      refine g_aload_n hC rfl 0 rfl (rfl : 8 + 1 = 9) (xdt tt_X3_kindOfToken 5 rfl) ?_
      refine g_iload_n hC rfl 1 rfl (rfl : 9 + 1 = 10) (xdt tt_X3_kindOfToken 6 rfl) ?_
      obtain ⟨v3, S2, hc1, h⟩ := bd2_i h
      refine g_callNa hC hZ m_X11_wordOfKind (List.mem_of_getElem? (i := 10) rfl) (Nat.le_of_ble_eq_true rfl) [vi x1] rfl (fun l => c_X11_wordOfKind l hc1) rfl (Nat.le_of_ble_eq_true rfl) (rfl : 10 + 3 = 13) (xdt tt_X3_kindOfToken 7 rfl) (fun hb4 => ?_)
      obtain ⟨v7, S6, hc5, h⟩ := bd2_i h
      refine g_callVz hC hZ hk0 kclX3 ly3_2 m_X3_tokenIs q556 (Nat.le_of_ble_eq_true rfl) [vs E v3] rfl (fun l => c_X3_tokenIs_p3_2 l hk0 hA0 hb4 hc5) rfl (Nat.le_of_ble_eq_true rfl) (rfl : 13 + 3 = 16) (xdt tt_X3_kindOfToken 8 rfl) (fun hb8 => ?_)
      refine g_if_eq hC (show ((16 : Nat) : Int) + 5 = ((21 : Nat) : Int) by decide) (rfl : 16 + 3 = 19) (xdt tt_X3_kindOfToken 9 rfl) (fun hc9 => ?_) (fun hc9 => ?_)
      · replace h := (if_pos hc9).symm.trans h
        refine g_iinc hC 1 rfl (by decide) (lv' := [(1, vi (x1 + 1)), (0, vr E r0 2)]) rfl (rfl : 21 + 3 = 24) (xdt tt_X3_kindOfToken 12 rfl) ?_
        refine g_goto hC (show ((24 : Nat) : Int) + (-22) = ((2 : Nat) : Int) by decide) (xdt tt_X3_kindOfToken 13 rfl) ?_
        refine g_sub [1, 0] (lv' := [(0, vr E r0 2), (1, vi (x1 + 1))]) rfl ?_
        exact ih _ _ h
      · replace h := (if_neg hc9).symm.trans h
        refine g_iload_n hC rfl 1 rfl (rfl : 19 + 1 = 20) (xdt tt_X3_kindOfToken 10 rfl) ?_
        cases h
        exact g_iret hC hE (xdt tt_X3_kindOfToken 11 rfl)
set_option maxRecDepth 100000 in
set_option maxHeartbeats 4000000 in
theorem c_X3_kindOfToken_p3_2 (l : Launch) {E : xE} {S S' : xSt} {r0 : Nat} (hk0 : xkd E r0 = 3) (hA0 : xFam E r0) {v : Int} (h : f_X3_kindOfToken_p3_2 S r0 = some (v, S')) : Met l yX3_kindOfToken (xws yX3_kindOfToken cX3_kindOfToken 2 (some .int)) (rmD 7) (YPc E [vr E r0 2] S) (YQi E v S') 0 0 (xA E) := by
  unfold f_X3_kindOfToken_p3_2 at h
  refine met_i (by decide +kernel) (Nat.le_of_ble_eq_true rfl) (fun K hC hZ hE => ?_)
  have hC : xOK K cX3_kindOfToken RX3 2 (rmE 7 0) := hC
  show WG K E 0 [(0, vr E r0 2)] [] S
  refine g_iconst hC (rfl : 0 + 1 = 1) (xdt tt_X3_kindOfToken 0 rfl) ?_
  refine g_istore_n hC rfl (by decide) (lv' := [(1, vi 0), (0, vr E r0 2)]) rfl (rfl : 1 + 1 = 2) (xdt tt_X3_kindOfToken 1 rfl) ?_
  refine g_sub [1, 0] (lv' := [(0, vr E r0 2), (1, vi 0)]) rfl ?_
  exact k_X3_kindOfToken_p3_2_b2 hC hZ hE hk0 hA0 _ _ _ h
def f_X5_append_p2_0 (S : xSt) (r0 : Nat) (a1 : Int) (a2 : Int) (a3 : Int) (a4 : Int) : Option (xSt) :=
  if wr (gI S r0 0 10) < 0 then
    (some S)
  else
    (if wr 60 ≤ wr (gI S r0 0 10) then
      (some S)
    else
      (ckI (gI S r0 0 10) 60 <|
      lt1 (wI S r0 5 (wr (gI S r0 0 10)).toNat a1) fun S2 =>
      ckI (gI S2 r0 0 10) 60 <|
      ckB a2 <|
      lt1 (wI S2 r0 6 (wr (gI S2 r0 0 10)).toNat a2) fun S5 =>
      ckI (gI S5 r0 0 10) 60 <|
      lt1 (wI S5 r0 7 (wr (gI S5 r0 0 10)).toNat a3) fun S7 =>
      ckI (gI S7 r0 0 10) 60 <|
      lt1 (wI S7 r0 8 (wr (gI S7 r0 0 10)).toNat a4) fun S9 =>
      lt1 (wI S9 r0 0 10 ((gI S9 r0 0 10) + 1)) fun S10 =>
      some S10))
set_option maxRecDepth 100000 in
set_option maxHeartbeats 4000000 in
theorem c_X5_append_p2_0 (l : Launch) {E : xE} {S S' : xSt} {r0 : Nat} {a1 : Int} {a2 : Int} {a3 : Int} {a4 : Int} (hk0 : xkd E r0 = 2) (h : f_X5_append_p2_0 S r0 a1 a2 a3 a4 = some S') : Met l yX5_append (xws yX5_append cX5_append 5 none) (rmD 1) (YPc E [vr E r0 0, vi a1, vi a2, vi a3, vi a4] S) (YQv E S') 0 0 (xA E) := by
  unfold f_X5_append_p2_0 at h
  refine met_v (by decide +kernel) (Nat.le_of_ble_eq_true rfl) (fun K hC hZ hE => ?_)
  have hC : xOK K cX5_append RX5 5 (rmE 1 0) := hC
  show WG K E 0 [(0, vr E r0 0), (1, vi a1), (2, vi a2), (3, vi a3), (4, vi a4)] [] S
  refine g_aload_n hC rfl 0 rfl (rfl : 0 + 1 = 1) (xdt tt_X5_append 0 rfl) ?_
  refine g_getI hC hk0 kclX5 ly2_0 10 (by decide) rfl q82 (rfl : 1 + 3 = 4) (xdt tt_X5_append 1 rfl) ?_
  refine g_if_lt hC (show ((4 : Nat) : Int) + 63 = ((67 : Nat) : Int) by decide) (rfl : 4 + 3 = 7) (xdt tt_X5_append 2 rfl) (fun hc12 => ?_) (fun hc12 => ?_)
  · replace h := (if_pos hc12).symm.trans h
    cases h
    exact g_vret hC hE (xdt tt_X5_append 37 rfl)
  · replace h := (if_neg hc12).symm.trans h
    refine g_aload_n hC rfl 0 rfl (rfl : 7 + 1 = 8) (xdt tt_X5_append 3 rfl) ?_
    refine g_getI hC hk0 kclX5 ly2_0 10 (by decide) rfl q82 (rfl : 8 + 3 = 11) (xdt tt_X5_append 4 rfl) ?_
    refine g_bipush hC (by decide) (rfl : 11 + 2 = 13) (xdt tt_X5_append 5 rfl) ?_
    refine g_icmp_ge hC (show ((13 : Nat) : Int) + 54 = ((67 : Nat) : Int) by decide) (rfl : 13 + 3 = 16) (xdt tt_X5_append 6 rfl) (fun hc11 => ?_) (fun hc11 => ?_)
    · replace h := (if_pos hc11).symm.trans h
      cases h
      exact g_vret hC hE (xdt tt_X5_append 37 rfl)
    · replace h := (if_neg hc11).symm.trans h
      refine g_aload_n hC rfl 0 rfl (rfl : 16 + 1 = 17) (xdt tt_X5_append 7 rfl) ?_
      refine g_getP hC hk0 kclX5 ly2_0 2 (by decide) (rfl : r0 + 0 = r0) rfl q60 (rfl : 17 + 3 = 20) (xdt tt_X5_append 8 rfl) ?_
      refine g_aload_n hC rfl 0 rfl (rfl : 20 + 1 = 21) (xdt tt_X5_append 9 rfl) ?_
      refine g_getI hC hk0 kclX5 ly2_0 10 (by decide) rfl q82 (rfl : 21 + 3 = 24) (xdt tt_X5_append 10 rfl) ?_
      refine g_iload_n hC rfl 1 rfl (rfl : 24 + 1 = 25) (xdt tt_X5_append 11 rfl) ?_
      obtain ⟨hi1, h⟩ := ckI_i h
      obtain ⟨S2, hS2, h⟩ := lt1_i h
      refine g_iast hC hk0 ly2_5 hi1 rfl hS2 (rfl : 25 + 1 = 26) (xdt tt_X5_append 12 rfl) ?_
      refine g_aload_n hC rfl 0 rfl (rfl : 26 + 1 = 27) (xdt tt_X5_append 13 rfl) ?_
      refine g_getP hC hk0 kclX5 ly2_0 3 (by decide) (rfl : r0 + 0 = r0) rfl q61 (rfl : 27 + 3 = 30) (xdt tt_X5_append 14 rfl) ?_
      refine g_aload_n hC rfl 0 rfl (rfl : 30 + 1 = 31) (xdt tt_X5_append 15 rfl) ?_
      refine g_getI hC hk0 kclX5 ly2_0 10 (by decide) rfl q82 (rfl : 31 + 3 = 34) (xdt tt_X5_append 16 rfl) ?_
      refine g_iload_n hC rfl 2 rfl (rfl : 34 + 1 = 35) (xdt tt_X5_append 17 rfl) ?_
      obtain ⟨hi3, h⟩ := ckI_i h
      obtain ⟨hb4, h⟩ := ckB_i h
      obtain ⟨S5, hS5, h⟩ := lt1_i h
      refine g_zast hC hk0 ly2_6 hi3 hb4 rfl hS5 (rfl : 35 + 1 = 36) (xdt tt_X5_append 18 rfl) ?_
      refine g_aload_n hC rfl 0 rfl (rfl : 36 + 1 = 37) (xdt tt_X5_append 19 rfl) ?_
      refine g_getP hC hk0 kclX5 ly2_0 4 (by decide) (rfl : r0 + 0 = r0) rfl q62 (rfl : 37 + 3 = 40) (xdt tt_X5_append 20 rfl) ?_
      refine g_aload_n hC rfl 0 rfl (rfl : 40 + 1 = 41) (xdt tt_X5_append 21 rfl) ?_
      refine g_getI hC hk0 kclX5 ly2_0 10 (by decide) rfl q82 (rfl : 41 + 3 = 44) (xdt tt_X5_append 22 rfl) ?_
      refine g_iload_n hC rfl 3 rfl (rfl : 44 + 1 = 45) (xdt tt_X5_append 23 rfl) ?_
      obtain ⟨hi6, h⟩ := ckI_i h
      obtain ⟨S7, hS7, h⟩ := lt1_i h
      refine g_iast hC hk0 ly2_7 hi6 rfl hS7 (rfl : 45 + 1 = 46) (xdt tt_X5_append 24 rfl) ?_
      refine g_aload_n hC rfl 0 rfl (rfl : 46 + 1 = 47) (xdt tt_X5_append 25 rfl) ?_
      refine g_getP hC hk0 kclX5 ly2_0 5 (by decide) (rfl : r0 + 0 = r0) rfl q63 (rfl : 47 + 3 = 50) (xdt tt_X5_append 26 rfl) ?_
      refine g_aload_n hC rfl 0 rfl (rfl : 50 + 1 = 51) (xdt tt_X5_append 27 rfl) ?_
      refine g_getI hC hk0 kclX5 ly2_0 10 (by decide) rfl q82 (rfl : 51 + 3 = 54) (xdt tt_X5_append 28 rfl) ?_
      refine g_iload hC 4 rfl (rfl : 54 + 2 = 56) (xdt tt_X5_append 29 rfl) ?_
      obtain ⟨hi8, h⟩ := ckI_i h
      obtain ⟨S9, hS9, h⟩ := lt1_i h
      refine g_iast hC hk0 ly2_8 hi8 rfl hS9 (rfl : 56 + 1 = 57) (xdt tt_X5_append 30 rfl) ?_
      refine g_aload_n hC rfl 0 rfl (rfl : 57 + 1 = 58) (xdt tt_X5_append 31 rfl) ?_
      refine g_dup hC rfl (rfl : 58 + 1 = 59) (xdt tt_X5_append 32 rfl) ?_
      refine g_getI hC hk0 kclX5 ly2_0 10 (by decide) rfl q82 (rfl : 59 + 3 = 62) (xdt tt_X5_append 33 rfl) ?_
      refine g_iconst hC (rfl : 62 + 1 = 63) (xdt tt_X5_append 34 rfl) ?_
      refine g_iadd hC (rfl : 63 + 1 = 64) (xdt tt_X5_append 35 rfl) ?_
      obtain ⟨S10, hS10, h⟩ := lt1_i h
      refine g_putI hC hk0 kclX5 ly2_0 10 (by decide) rfl rfl rfl q82 hS10 (rfl : 64 + 3 = 67) (xdt tt_X5_append 36 rfl) ?_
      cases h
      exact g_vret hC hE (xdt tt_X5_append 37 rfl)
def f_X3_readNumber_p3_2 (S : xSt) (r0 : Nat) (a1 : Int) (a2 : Int) : Option (Int × xSt) :=
  bd (f_X3_readToken_p3_2 S r0) fun S2 =>
  if wr (gI S2 r0 2 3) = wr 2 then
    (if wr (gI S2 r0 2 6) < wr a1 then
      (bd2 (f_X3_fail_p3_2 S2 r0 2) fun v5 S4 =>
      some ((-1), S4))
    else
      (if wr (gI S2 r0 2 6) ≤ wr a2 then
        (some ((gI S2 r0 2 6), S2))
      else
        (bd2 (f_X3_fail_p3_2 S2 r0 2) fun v9 S8 =>
        some ((-1), S8))))
  else
    (bd2 (f_X3_fail_p3_2 S2 r0 1) fun v15 S14 =>
    some ((-1), S14))
set_option maxRecDepth 100000 in
set_option maxHeartbeats 4000000 in
theorem c_X3_readNumber_p3_2 (l : Launch) {E : xE} {S S' : xSt} {r0 : Nat} {a1 : Int} {a2 : Int} (hk0 : xkd E r0 = 3) (hA0 : xFam E r0) {v : Int} (h : f_X3_readNumber_p3_2 S r0 a1 a2 = some (v, S')) : Met l yX3_readNumber (xws yX3_readNumber cX3_readNumber 3 (some .int)) (rmD 3) (YPc E [vr E r0 2, vi a1, vi a2] S) (YQi E v S') 0 0 (xA E) := by
  unfold f_X3_readNumber_p3_2 at h
  refine met_i (by decide +kernel) (Nat.le_of_ble_eq_true rfl) (fun K hC hZ hE => ?_)
  have hC : xOK K cX3_readNumber RX3 3 (rmE 3 0) := hC
  show WG K E 0 [(0, vr E r0 2), (1, vi a1), (2, vi a2)] [] S
  refine g_aload_n hC rfl 0 rfl (rfl : 0 + 1 = 1) (xdt tt_X3_readNumber 0 rfl) ?_
  obtain ⟨S2, hc1, h⟩ := bd_i h
  refine g_callVv hC hZ hk0 kclX3 ly3_2 m_X3_readToken q503 (Nat.le_of_ble_eq_true rfl) [] rfl (fun l => c_X3_readToken_p3_2 l hk0 hA0 hc1) rfl (Nat.le_of_ble_eq_true rfl) (rfl : 1 + 3 = 4) (xdt tt_X3_readNumber 1 rfl) ?_
  refine g_aload_n hC rfl 0 rfl (rfl : 4 + 1 = 5) (xdt tt_X3_readNumber 2 rfl) ?_
  refine g_getI hC hk0 kclX3 ly3_2 3 (by decide) rfl q493 (rfl : 5 + 3 = 8) (xdt tt_X3_readNumber 3 rfl) ?_
  refine g_iconst hC (rfl : 8 + 1 = 9) (xdt tt_X3_readNumber 4 rfl) ?_
  refine g_icmp_eq hC (show ((9 : Nat) : Int) + 11 = ((20 : Nat) : Int) by decide) (rfl : 9 + 3 = 12) (xdt tt_X3_readNumber 5 rfl) (fun hc17 => ?_) (fun hc17 => ?_)
  · replace h := (if_pos hc17).symm.trans h
    refine g_aload_n hC rfl 0 rfl (rfl : 20 + 1 = 21) (xdt tt_X3_readNumber 12 rfl) ?_
    refine g_getI hC hk0 kclX3 ly3_2 6 (by decide) rfl q516 (rfl : 21 + 3 = 24) (xdt tt_X3_readNumber 13 rfl) ?_
    refine g_iload_n hC rfl 1 rfl (rfl : 24 + 1 = 25) (xdt tt_X3_readNumber 14 rfl) ?_
    refine g_icmp_lt hC (show ((25 : Nat) : Int) + 11 = ((36 : Nat) : Int) by decide) (rfl : 25 + 3 = 28) (xdt tt_X3_readNumber 15 rfl) (fun hc12 => ?_) (fun hc12 => ?_)
    · replace h := (if_pos hc12).symm.trans h
      refine g_aload_n hC rfl 0 rfl (rfl : 36 + 1 = 37) (xdt tt_X3_readNumber 20 rfl) ?_
      refine g_iconst hC (rfl : 37 + 1 = 38) (xdt tt_X3_readNumber 21 rfl) ?_
      obtain ⟨v5, S4, hc3, h⟩ := bd2_i h
      refine g_callVz hC hZ hk0 kclX3 ly3_2 m_X3_fail q540 (Nat.le_of_ble_eq_true rfl) [vi 2] rfl (fun l => c_X3_fail_p3_2 l hk0 hA0 hc3) rfl (Nat.le_of_ble_eq_true rfl) (rfl : 38 + 3 = 41) (xdt tt_X3_readNumber 22 rfl) (fun hb6 => ?_)
      refine g_pop hC rfl (rfl : 41 + 1 = 42) (xdt tt_X3_readNumber 23 rfl) ?_
      refine g_iconst hC (rfl : 42 + 1 = 43) (xdt tt_X3_readNumber 24 rfl) ?_
      cases h
      exact g_iret hC hE (xdt tt_X3_readNumber 25 rfl)
    · replace h := (if_neg hc12).symm.trans h
      refine g_aload_n hC rfl 0 rfl (rfl : 28 + 1 = 29) (xdt tt_X3_readNumber 16 rfl) ?_
      refine g_getI hC hk0 kclX3 ly3_2 6 (by decide) rfl q516 (rfl : 29 + 3 = 32) (xdt tt_X3_readNumber 17 rfl) ?_
      refine g_iload_n hC rfl 2 rfl (rfl : 32 + 1 = 33) (xdt tt_X3_readNumber 18 rfl) ?_
      refine g_icmp_le hC (show ((33 : Nat) : Int) + 11 = ((44 : Nat) : Int) by decide) (rfl : 33 + 3 = 36) (xdt tt_X3_readNumber 19 rfl) (fun hc11 => ?_) (fun hc11 => ?_)
      · replace h := (if_pos hc11).symm.trans h
        refine g_aload_n hC rfl 0 rfl (rfl : 44 + 1 = 45) (xdt tt_X3_readNumber 26 rfl) ?_
        refine g_getI hC hk0 kclX3 ly3_2 6 (by decide) rfl q516 (rfl : 45 + 3 = 48) (xdt tt_X3_readNumber 27 rfl) ?_
        cases h
        exact g_iret hC hE (xdt tt_X3_readNumber 28 rfl)
      · replace h := (if_neg hc11).symm.trans h
        refine g_aload_n hC rfl 0 rfl (rfl : 36 + 1 = 37) (xdt tt_X3_readNumber 20 rfl) ?_
        refine g_iconst hC (rfl : 37 + 1 = 38) (xdt tt_X3_readNumber 21 rfl) ?_
        obtain ⟨v9, S8, hc7, h⟩ := bd2_i h
        refine g_callVz hC hZ hk0 kclX3 ly3_2 m_X3_fail q540 (Nat.le_of_ble_eq_true rfl) [vi 2] rfl (fun l => c_X3_fail_p3_2 l hk0 hA0 hc7) rfl (Nat.le_of_ble_eq_true rfl) (rfl : 38 + 3 = 41) (xdt tt_X3_readNumber 22 rfl) (fun hb10 => ?_)
        refine g_pop hC rfl (rfl : 41 + 1 = 42) (xdt tt_X3_readNumber 23 rfl) ?_
        refine g_iconst hC (rfl : 42 + 1 = 43) (xdt tt_X3_readNumber 24 rfl) ?_
        cases h
        exact g_iret hC hE (xdt tt_X3_readNumber 25 rfl)
  · replace h := (if_neg hc17).symm.trans h
    refine g_aload_n hC rfl 0 rfl (rfl : 12 + 1 = 13) (xdt tt_X3_readNumber 6 rfl) ?_
    refine g_iconst hC (rfl : 13 + 1 = 14) (xdt tt_X3_readNumber 7 rfl) ?_
    obtain ⟨v15, S14, hc13, h⟩ := bd2_i h
    refine g_callVz hC hZ hk0 kclX3 ly3_2 m_X3_fail q540 (Nat.le_of_ble_eq_true rfl) [vi 1] rfl (fun l => c_X3_fail_p3_2 l hk0 hA0 hc13) rfl (Nat.le_of_ble_eq_true rfl) (rfl : 14 + 3 = 17) (xdt tt_X3_readNumber 8 rfl) (fun hb16 => ?_)
    refine g_pop hC rfl (rfl : 17 + 1 = 18) (xdt tt_X3_readNumber 9 rfl) ?_
    refine g_iconst hC (rfl : 18 + 1 = 19) (xdt tt_X3_readNumber 10 rfl) ?_
    cases h
    exact g_iret hC hE (xdt tt_X3_readNumber 11 rfl)
def f_X3_readTimes_p3_2 (S : xSt) (r0 : Nat) : Option (Int × xSt) :=
  bd (f_X3_readToken_p3_2 S r0) fun S2 =>
  bd2 (f_X3_tokenIs_p3_2 S2 r0 27) fun v5 S4 =>
  if ¬ wr v5 = 0 then
    (bd2 (f_X3_readNumber_p3_2 S4 r0 1 99) fun v9 S8 =>
    some (v9, S8))
  else
    (bd2 (f_X3_fail_p3_2 S4 r0 1) fun v12 S11 =>
    some ((-1), S11))
set_option maxRecDepth 100000 in
set_option maxHeartbeats 4000000 in
theorem c_X3_readTimes_p3_2 (l : Launch) {E : xE} {S S' : xSt} {r0 : Nat} (hk0 : xkd E r0 = 3) (hA0 : xFam E r0) {v : Int} (h : f_X3_readTimes_p3_2 S r0 = some (v, S')) : Met l yX3_readTimes (xws yX3_readTimes cX3_readTimes 1 (some .int)) (rmD 7) (YPc E [vr E r0 2] S) (YQi E v S') 0 0 (xA E) := by
  unfold f_X3_readTimes_p3_2 at h
  refine met_i (by decide +kernel) (Nat.le_of_ble_eq_true rfl) (fun K hC hZ hE => ?_)
  have hC : xOK K cX3_readTimes RX3 1 (rmE 7 0) := hC
  show WG K E 0 [(0, vr E r0 2)] [] S
  refine g_aload_n hC rfl 0 rfl (rfl : 0 + 1 = 1) (xdt tt_X3_readTimes 0 rfl) ?_
  obtain ⟨S2, hc1, h⟩ := bd_i h
  refine g_callVv hC hZ hk0 kclX3 ly3_2 m_X3_readToken q503 (Nat.le_of_ble_eq_true rfl) [] rfl (fun l => c_X3_readToken_p3_2 l hk0 hA0 hc1) rfl (Nat.le_of_ble_eq_true rfl) (rfl : 1 + 3 = 4) (xdt tt_X3_readTimes 1 rfl) ?_
  refine g_aload_n hC rfl 0 rfl (rfl : 4 + 1 = 5) (xdt tt_X3_readTimes 2 rfl) ?_
  refine g_ldcS hC 27 rfl rfl (rfl : 5 + 2 = 7) (xdt tt_X3_readTimes 3 rfl) ?_
  obtain ⟨v5, S4, hc3, h⟩ := bd2_i h
  refine g_callVz hC hZ hk0 kclX3 ly3_2 m_X3_tokenIs q556 (Nat.le_of_ble_eq_true rfl) [vs E 27] rfl (fun l => c_X3_tokenIs_p3_2 l hk0 hA0 (show 27 < xldc.length by decide) hc3) rfl (Nat.le_of_ble_eq_true rfl) (rfl : 7 + 3 = 10) (xdt tt_X3_readTimes 4 rfl) (fun hb6 => ?_)
  refine g_if_ne hC (show ((10 : Nat) : Int) + 11 = ((21 : Nat) : Int) by decide) (rfl : 10 + 3 = 13) (xdt tt_X3_readTimes 5 rfl) (fun hc14 => ?_) (fun hc14 => ?_)
  · replace h := (if_pos hc14).symm.trans h
    refine g_aload_n hC rfl 0 rfl (rfl : 21 + 1 = 22) (xdt tt_X3_readTimes 12 rfl) ?_
    refine g_iconst hC (rfl : 22 + 1 = 23) (xdt tt_X3_readTimes 13 rfl) ?_
    refine g_bipush hC (by decide) (rfl : 23 + 2 = 25) (xdt tt_X3_readTimes 14 rfl) ?_
    obtain ⟨v9, S8, hc7, h⟩ := bd2_i h
    refine g_callVi hC hZ hk0 kclX3 ly3_2 m_X3_readNumber q566 (Nat.le_of_ble_eq_true rfl) [vi 1, vi 99] rfl (fun l => c_X3_readNumber_p3_2 l hk0 hA0 hc7) rfl (Nat.le_of_ble_eq_true rfl) (rfl : 25 + 3 = 28) (xdt tt_X3_readTimes 15 rfl) ?_
    cases h
    exact g_iret hC hE (xdt tt_X3_readTimes 16 rfl)
  · replace h := (if_neg hc14).symm.trans h
    refine g_aload_n hC rfl 0 rfl (rfl : 13 + 1 = 14) (xdt tt_X3_readTimes 6 rfl) ?_
    refine g_iconst hC (rfl : 14 + 1 = 15) (xdt tt_X3_readTimes 7 rfl) ?_
    obtain ⟨v12, S11, hc10, h⟩ := bd2_i h
    refine g_callVz hC hZ hk0 kclX3 ly3_2 m_X3_fail q540 (Nat.le_of_ble_eq_true rfl) [vi 1] rfl (fun l => c_X3_fail_p3_2 l hk0 hA0 hc10) rfl (Nat.le_of_ble_eq_true rfl) (rfl : 15 + 3 = 18) (xdt tt_X3_readTimes 8 rfl) (fun hb13 => ?_)
    refine g_pop hC rfl (rfl : 18 + 1 = 19) (xdt tt_X3_readTimes 9 rfl) ?_
    refine g_iconst hC (rfl : 19 + 1 = 20) (xdt tt_X3_readTimes 10 rfl) ?_
    cases h
    exact g_iret hC hE (xdt tt_X3_readTimes 11 rfl)
def f_X3_readTarget_p3_2 (S : xSt) (r0 : Nat) : Option (Int × xSt) :=
  bd (f_X3_readToken_p3_2 S r0) fun S2 =>
  bd2 (f_X3_tokenIs_p3_2 S2 r0 25) fun v5 S4 =>
  if wr v5 = 0 then
    (bd2 (f_X3_tokenIs_p3_2 S4 r0 26) fun v9 S8 =>
    if wr v9 = 0 then
      (bd2 (f_X3_fail_p3_2 S8 r0 1) fun v13 S12 =>
      some (0, S12))
    else
      (bd2 (f_X3_readNumber_p3_2 S8 r0 0 9) fun v17 S16 =>
      if ¬ wr v17 = wr (-1) then
        (some ((v17 + 1), S16))
      else
        (some (0, S16))))
  else
    (ckP S4 r0 2 2 2 0 fun rg20 =>
    bd2 (f_X3_readNumber_p3_2 S4 r0 1 (gI S4 rg20 0 10)) fun v23 S22 =>
    if ¬ wr v23 = wr (-1) then
      (some ((-v23), S22))
    else
      (some (0, S22)))
set_option maxRecDepth 100000 in
set_option maxHeartbeats 4000000 in
theorem c_X3_readTarget_p3_2 (l : Launch) {E : xE} {S S' : xSt} {r0 : Nat} (hk0 : xkd E r0 = 3) (hA0 : xFam E r0) {v : Int} (h : f_X3_readTarget_p3_2 S r0 = some (v, S')) : Met l yX3_readTarget (xws yX3_readTarget cX3_readTarget 2 (some .int)) (rmD 7) (YPc E [vr E r0 2] S) (YQi E v S') 0 0 (xA E) := by
  unfold f_X3_readTarget_p3_2 at h
  refine met_i (by decide +kernel) (Nat.le_of_ble_eq_true rfl) (fun K hC hZ hE => ?_)
  have hC : xOK K cX3_readTarget RX3 2 (rmE 7 0) := hC
  show WG K E 0 [(0, vr E r0 2)] [] S
  refine g_aload_n hC rfl 0 rfl (rfl : 0 + 1 = 1) (xdt tt_X3_readTarget 0 rfl) ?_
  obtain ⟨S2, hc1, h⟩ := bd_i h
  refine g_callVv hC hZ hk0 kclX3 ly3_2 m_X3_readToken q503 (Nat.le_of_ble_eq_true rfl) [] rfl (fun l => c_X3_readToken_p3_2 l hk0 hA0 hc1) rfl (Nat.le_of_ble_eq_true rfl) (rfl : 1 + 3 = 4) (xdt tt_X3_readTarget 1 rfl) ?_
  refine g_aload_n hC rfl 0 rfl (rfl : 4 + 1 = 5) (xdt tt_X3_readTarget 2 rfl) ?_
  refine g_ldcS hC 25 rfl rfl (rfl : 5 + 2 = 7) (xdt tt_X3_readTarget 3 rfl) ?_
  obtain ⟨v5, S4, hc3, h⟩ := bd2_i h
  refine g_callVz hC hZ hk0 kclX3 ly3_2 m_X3_tokenIs q556 (Nat.le_of_ble_eq_true rfl) [vs E 25] rfl (fun l => c_X3_tokenIs_p3_2 l hk0 hA0 (show 25 < xldc.length by decide) hc3) rfl (Nat.le_of_ble_eq_true rfl) (rfl : 7 + 3 = 10) (xdt tt_X3_readTarget 4 rfl) (fun hb6 => ?_)
  refine g_if_eq hC (show ((10 : Nat) : Int) + 28 = ((38 : Nat) : Int) by decide) (rfl : 10 + 3 = 13) (xdt tt_X3_readTarget 5 rfl) (fun hc25 => ?_) (fun hc25 => ?_)
  · replace h := (if_pos hc25).symm.trans h
    refine g_aload_n hC rfl 0 rfl (rfl : 38 + 1 = 39) (xdt tt_X3_readTarget 21 rfl) ?_
    refine g_ldcS hC 26 rfl rfl (rfl : 39 + 2 = 41) (xdt tt_X3_readTarget 22 rfl) ?_
    obtain ⟨v9, S8, hc7, h⟩ := bd2_i h
    refine g_callVz hC hZ hk0 kclX3 ly3_2 m_X3_tokenIs q556 (Nat.le_of_ble_eq_true rfl) [vs E 26] rfl (fun l => c_X3_tokenIs_p3_2 l hk0 hA0 (show 26 < xldc.length by decide) hc7) rfl (Nat.le_of_ble_eq_true rfl) (rfl : 41 + 3 = 44) (xdt tt_X3_readTarget 23 rfl) (fun hb10 => ?_)
    refine g_if_eq hC (show ((44 : Nat) : Int) + 24 = ((68 : Nat) : Int) by decide) (rfl : 44 + 3 = 47) (xdt tt_X3_readTarget 24 rfl) (fun hc19 => ?_) (fun hc19 => ?_)
    · replace h := (if_pos hc19).symm.trans h
      refine g_aload_n hC rfl 0 rfl (rfl : 68 + 1 = 69) (xdt tt_X3_readTarget 39 rfl) ?_
      refine g_iconst hC (rfl : 69 + 1 = 70) (xdt tt_X3_readTarget 40 rfl) ?_
      obtain ⟨v13, S12, hc11, h⟩ := bd2_i h
      refine g_callVz hC hZ hk0 kclX3 ly3_2 m_X3_fail q540 (Nat.le_of_ble_eq_true rfl) [vi 1] rfl (fun l => c_X3_fail_p3_2 l hk0 hA0 hc11) rfl (Nat.le_of_ble_eq_true rfl) (rfl : 70 + 3 = 73) (xdt tt_X3_readTarget 41 rfl) (fun hb14 => ?_)
      refine g_pop hC rfl (rfl : 73 + 1 = 74) (xdt tt_X3_readTarget 42 rfl) ?_
      refine g_iconst hC (rfl : 74 + 1 = 75) (xdt tt_X3_readTarget 43 rfl) ?_
      cases h
      exact g_iret hC hE (xdt tt_X3_readTarget 44 rfl)
    · replace h := (if_neg hc19).symm.trans h
      refine g_aload_n hC rfl 0 rfl (rfl : 47 + 1 = 48) (xdt tt_X3_readTarget 25 rfl) ?_
      refine g_iconst hC (rfl : 48 + 1 = 49) (xdt tt_X3_readTarget 26 rfl) ?_
      refine g_bipush hC (by decide) (rfl : 49 + 2 = 51) (xdt tt_X3_readTarget 27 rfl) ?_
      obtain ⟨v17, S16, hc15, h⟩ := bd2_i h
      refine g_callVi hC hZ hk0 kclX3 ly3_2 m_X3_readNumber q566 (Nat.le_of_ble_eq_true rfl) [vi 0, vi 9] rfl (fun l => c_X3_readNumber_p3_2 l hk0 hA0 hc15) rfl (Nat.le_of_ble_eq_true rfl) (rfl : 51 + 3 = 54) (xdt tt_X3_readTarget 28 rfl) ?_
      refine g_istore_n hC rfl (by decide) (lv' := [(1, vi v17), (0, vr E r0 2)]) rfl (rfl : 54 + 1 = 55) (xdt tt_X3_readTarget 29 rfl) ?_
      refine g_iload_n hC rfl 0 rfl (rfl : 55 + 1 = 56) (xdt tt_X3_readTarget 30 rfl) ?_
      refine g_iconst hC (rfl : 56 + 1 = 57) (xdt tt_X3_readTarget 31 rfl) ?_
      refine g_icmp_ne hC (show ((57 : Nat) : Int) + 7 = ((64 : Nat) : Int) by decide) (rfl : 57 + 3 = 60) (xdt tt_X3_readTarget 32 rfl) (fun hc18 => ?_) (fun hc18 => ?_)
      · replace h := (if_pos hc18).symm.trans h
        refine g_iload_n hC rfl 0 rfl (rfl : 64 + 1 = 65) (xdt tt_X3_readTarget 35 rfl) ?_
        refine g_iconst hC (rfl : 65 + 1 = 66) (xdt tt_X3_readTarget 36 rfl) ?_
        refine g_iadd hC (rfl : 66 + 1 = 67) (xdt tt_X3_readTarget 37 rfl) ?_
        cases h
        exact g_iret hC hE (xdt tt_X3_readTarget 38 rfl)
      · replace h := (if_neg hc18).symm.trans h
        refine g_iconst hC (rfl : 60 + 1 = 61) (xdt tt_X3_readTarget 33 rfl) ?_
        refine g_goto hC (show ((61 : Nat) : Int) + 6 = ((67 : Nat) : Int) by decide) (xdt tt_X3_readTarget 34 rfl) ?_
        cases h
        exact g_iret hC hE (xdt tt_X3_readTarget 38 rfl)
  · replace h := (if_neg hc25).symm.trans h
    refine g_aload_n hC rfl 0 rfl (rfl : 13 + 1 = 14) (xdt tt_X3_readTarget 6 rfl) ?_
    refine g_iconst hC (rfl : 14 + 1 = 15) (xdt tt_X3_readTarget 7 rfl) ?_
    refine g_aload_n hC rfl 0 rfl (rfl : 15 + 1 = 16) (xdt tt_X3_readTarget 8 rfl) ?_
    obtain ⟨rg20, hrg20, grg20, h⟩ := ckP_i h
    refine g_getV hC hk0 kclX3 ly3_2 2 (by decide) rfl hrg20 grg20 (by decide) q49 (rfl : 16 + 3 = 19) (xdt tt_X3_readTarget 9 rfl) (fun krg20 => ?_)
    refine g_getI hC krg20 kclX5 ly2_0 10 (by decide) rfl q539 (rfl : 19 + 3 = 22) (xdt tt_X3_readTarget 10 rfl) ?_
    obtain ⟨v23, S22, hc21, h⟩ := bd2_i h
    refine g_callVi hC hZ hk0 kclX3 ly3_2 m_X3_readNumber q566 (Nat.le_of_ble_eq_true rfl) [vi 1, vi (gI S4 rg20 0 10)] rfl (fun l => c_X3_readNumber_p3_2 l hk0 hA0 hc21) rfl (Nat.le_of_ble_eq_true rfl) (rfl : 22 + 3 = 25) (xdt tt_X3_readTarget 11 rfl) ?_
    refine g_istore_n hC rfl (by decide) (lv' := [(1, vi v23), (0, vr E r0 2)]) rfl (rfl : 25 + 1 = 26) (xdt tt_X3_readTarget 12 rfl) ?_
    refine g_iload_n hC rfl 0 rfl (rfl : 26 + 1 = 27) (xdt tt_X3_readTarget 13 rfl) ?_
    refine g_iconst hC (rfl : 27 + 1 = 28) (xdt tt_X3_readTarget 14 rfl) ?_
    refine g_icmp_ne hC (show ((28 : Nat) : Int) + 7 = ((35 : Nat) : Int) by decide) (rfl : 28 + 3 = 31) (xdt tt_X3_readTarget 15 rfl) (fun hc24 => ?_) (fun hc24 => ?_)
    · replace h := (if_pos hc24).symm.trans h
      refine g_iload_n hC rfl 0 rfl (rfl : 35 + 1 = 36) (xdt tt_X3_readTarget 18 rfl) ?_
      refine g_ineg hC (rfl : 36 + 1 = 37) (xdt tt_X3_readTarget 19 rfl) ?_
      cases h
      exact g_iret hC hE (xdt tt_X3_readTarget 20 rfl)
    · replace h := (if_neg hc24).symm.trans h
      refine g_iconst hC (rfl : 31 + 1 = 32) (xdt tt_X3_readTarget 16 rfl) ?_
      refine g_goto hC (show ((32 : Nat) : Int) + 5 = ((37 : Nat) : Int) by decide) (xdt tt_X3_readTarget 17 rfl) ?_
      cases h
      exact g_iret hC hE (xdt tt_X3_readTarget 20 rfl)
def f_X3_readInstruction_p3_2_b102 (r0 : Nat) (S : xSt) (x1 : Int) (x2 : Int) (x3 : Int) (s0 : Int) : Option (Int × xSt) :=
  if ¬ wr s0 = wr (-1) then
    (ckP S r0 2 2 2 0 fun rg9 =>
    bd (f_X5_append_p2_0 S rg9 x2 x1 x3 s0) fun S11 =>
    some (1, S11))
  else
    (some (0, S))
def f_X3_readInstruction_p3_2_b81 (r0 : Nat) (S : xSt) (x1 : Int) (x2 : Int) (s0 : Int) : Option (Int × xSt) :=
  if ¬ wr s0 = 0 then
    (if ¬ wr x2 = wr 9 then
      (f_X3_readInstruction_p3_2_b102 r0 S x1 x2 s0 0)
    else
      (bd2 (f_X3_readTimes_p3_2 S r0) fun v15 S14 =>
      f_X3_readInstruction_p3_2_b102 r0 S14 x1 x2 s0 v15))
  else
    (some (0, S))
def f_X3_readInstruction_p3_2_b51 (r0 : Nat) (S : xSt) (x1 : Int) : Option (Int × xSt) :=
  bd2 (f_X3_kindOfToken_p3_2 S r0) fun v8 S7 =>
  if ¬ wr v8 = wr (-1) then
    (if wr v8 < wr 8 then
      (f_X3_readInstruction_p3_2_b81 r0 S7 x1 v8 (-1))
    else
      (bd2 (f_X3_readTarget_p3_2 S7 r0) fun v20 S19 =>
      f_X3_readInstruction_p3_2_b81 r0 S19 x1 v8 v20))
  else
    (bd2 (f_X3_fail_p3_2 S7 r0 1) fun v24 S23 =>
    some (v24, S23))
def f_X3_readInstruction_p3_2_b25 (r0 : Nat) (S : xSt) (x1 : Int) : Option (Int × xSt) :=
  ckP S r0 2 2 2 0 fun rg5 =>
  if wr (gI S rg5 0 10) < wr 60 then
    (if wr x1 = 0 then
      (f_X3_readInstruction_p3_2_b51 r0 S x1)
    else
      (bd (f_X3_readToken_p3_2 S r0) fun S28 =>
      f_X3_readInstruction_p3_2_b51 r0 S28 x1))
  else
    (bd2 (f_X3_fail_p3_2 S r0 4) fun v32 S31 =>
    some (v32, S31))
def f_X3_readInstruction_p3_2 (S : xSt) (r0 : Nat) : Option (Int × xSt) :=
  bd2 (f_X3_tokenIs_p3_2 S r0 24) fun v3 S2 =>
  if ¬ wr v3 = 0 then
    (f_X3_readInstruction_p3_2_b25 r0 S2 v3)
  else
    (bd2 (f_X3_kindOfToken_p3_2 S2 r0) fun v37 S36 =>
    if ¬ wr v37 = wr (-1) then
      (f_X3_readInstruction_p3_2_b25 r0 S36 v3)
    else
      (bd2 (f_X3_fail_p3_2 S36 r0 1) fun v40 S39 =>
      some (v40, S39)))
set_option maxRecDepth 100000 in
set_option maxHeartbeats 4000000 in
theorem k_X3_readInstruction_p3_2_b102 {K : xCtx} {E : xE} {b : Nat} (hC : xOK K cX3_readInstruction RX3 5 (rmE 8 b)) (hZ : xZ K) {v : Int} {S' : xSt} (hE : xEnd K E (some .boolean) (YQz E v S')) {r0 : Nat} (hk0 : xkd E r0 = 3) (hA0 : xFam E r0) : ∀ (S : xSt) (x1 : Int) (x2 : Int) (x3 : Int) (s0 : Int), f_X3_readInstruction_p3_2_b102 r0 S x1 x2 x3 s0 = some (v, S') → WG K E 102 [(0, vr E r0 2), (1, vi x1), (2, vi x2), (3, vi x3)] [vi s0] S := by
  intro S x1 x2 x3 s0 h
  unfold f_X3_readInstruction_p3_2_b102 at h
  refine g_istore hC (by decide) (lv' := [(4, vi s0), (0, vr E r0 2), (1, vi x1), (2, vi x2), (3, vi x3)]) rfl (rfl : 102 + 2 = 104) (xdt tt_X3_readInstruction 56 rfl) ?_
  refine g_iload hC 0 rfl (rfl : 104 + 2 = 106) (xdt tt_X3_readInstruction 57 rfl) ?_
  refine g_iconst hC (rfl : 106 + 1 = 107) (xdt tt_X3_readInstruction 58 rfl) ?_
  refine g_icmp_ne hC (show ((107 : Nat) : Int) + 5 = ((112 : Nat) : Int) by decide) (rfl : 107 + 3 = 110) (xdt tt_X3_readInstruction 59 rfl) (fun hc12 => ?_) (fun hc12 => ?_)
  · replace h := (if_pos hc12).symm.trans h
    refine g_aload_n hC rfl 1 rfl (rfl : 112 + 1 = 113) (xdt tt_X3_readInstruction 62 rfl) ?_
    obtain ⟨rg9, hrg9, grg9, h⟩ := ckP_i h
    refine g_getV hC hk0 kclX3 ly3_2 2 (by decide) rfl hrg9 grg9 (by decide) q49 (rfl : 113 + 3 = 116) (xdt tt_X3_readInstruction 63 rfl) (fun krg9 => ?_)
    refine g_iload_n hC rfl 3 rfl (rfl : 116 + 1 = 117) (xdt tt_X3_readInstruction 64 rfl) ?_
    refine g_iload_n hC rfl 2 rfl (rfl : 117 + 1 = 118) (xdt tt_X3_readInstruction 65 rfl) ?_
    refine g_iload_n hC rfl 4 rfl (rfl : 118 + 1 = 119) (xdt tt_X3_readInstruction 66 rfl) ?_
    refine g_iload hC 0 rfl (rfl : 119 + 2 = 121) (xdt tt_X3_readInstruction 67 rfl) ?_
    obtain ⟨S11, hc10, h⟩ := bd_i h
    refine g_callVv hC hZ krg9 kclX5 ly2_0 m_X5_append q617 (Nat.le_of_ble_eq_true rfl) [vi x2, vi x1, vi x3, vi s0] rfl (fun l => c_X5_append_p2_0 l krg9 hc10) rfl (Nat.le_of_ble_eq_true rfl) (rfl : 121 + 3 = 124) (xdt tt_X3_readInstruction 68 rfl) ?_
    refine g_iconst hC (rfl : 124 + 1 = 125) (xdt tt_X3_readInstruction 69 rfl) ?_
    cases h
    exact g_zret hC hE (Or.inr rfl) (xdt tt_X3_readInstruction 70 rfl)
  · replace h := (if_neg hc12).symm.trans h
    refine g_iconst hC (rfl : 110 + 1 = 111) (xdt tt_X3_readInstruction 60 rfl) ?_
    cases h
    exact g_zret hC hE (Or.inl rfl) (xdt tt_X3_readInstruction 61 rfl)
set_option maxRecDepth 100000 in
set_option maxHeartbeats 4000000 in
theorem k_X3_readInstruction_p3_2_b81 {K : xCtx} {E : xE} {b : Nat} (hC : xOK K cX3_readInstruction RX3 5 (rmE 8 b)) (hZ : xZ K) {v : Int} {S' : xSt} (hE : xEnd K E (some .boolean) (YQz E v S')) {r0 : Nat} (hk0 : xkd E r0 = 3) (hA0 : xFam E r0) : ∀ (S : xSt) (x1 : Int) (x2 : Int) (s0 : Int), f_X3_readInstruction_p3_2_b81 r0 S x1 x2 s0 = some (v, S') → WG K E 81 [(0, vr E r0 2), (1, vi x1), (2, vi x2)] [vi s0] S := by
  intro S x1 x2 s0 h
  unfold f_X3_readInstruction_p3_2_b81 at h
  refine g_istore_n hC rfl (by decide) (lv' := [(3, vi s0), (0, vr E r0 2), (1, vi x1), (2, vi x2)]) rfl (rfl : 81 + 1 = 82) (xdt tt_X3_readInstruction 44 rfl) ?_
  refine g_iload_n hC rfl 0 rfl (rfl : 82 + 1 = 83) (xdt tt_X3_readInstruction 45 rfl) ?_
  refine g_if_ne hC (show ((83 : Nat) : Int) + 5 = ((88 : Nat) : Int) by decide) (rfl : 83 + 3 = 86) (xdt tt_X3_readInstruction 46 rfl) (fun hc17 => ?_) (fun hc17 => ?_)
  · replace h := (if_pos hc17).symm.trans h
    refine g_iload_n hC rfl 3 rfl (rfl : 88 + 1 = 89) (xdt tt_X3_readInstruction 49 rfl) ?_
    refine g_bipush hC (by decide) (rfl : 89 + 2 = 91) (xdt tt_X3_readInstruction 50 rfl) ?_
    refine g_icmp_ne hC (show ((91 : Nat) : Int) + 10 = ((101 : Nat) : Int) by decide) (rfl : 91 + 3 = 94) (xdt tt_X3_readInstruction 51 rfl) (fun hc16 => ?_) (fun hc16 => ?_)
    · replace h := (if_pos hc16).symm.trans h
      refine g_iconst hC (rfl : 101 + 1 = 102) (xdt tt_X3_readInstruction 55 rfl) ?_
      refine g_sub [1, 2, 3, 0] (lv' := [(0, vr E r0 2), (1, vi x1), (2, vi x2), (3, vi s0)]) rfl ?_
      exact k_X3_readInstruction_p3_2_b102 hC hZ hE hk0 hA0 _ _ _ _ _ h
    · replace h := (if_neg hc16).symm.trans h
      refine g_aload_n hC rfl 1 rfl (rfl : 94 + 1 = 95) (xdt tt_X3_readInstruction 52 rfl) ?_
      obtain ⟨v15, S14, hc13, h⟩ := bd2_i h
      refine g_callVi hC hZ hk0 kclX3 ly3_2 m_X3_readTimes q613 (Nat.le_of_ble_eq_true rfl) [] rfl (fun l => c_X3_readTimes_p3_2 l hk0 hA0 hc13) rfl (Nat.le_of_ble_eq_true rfl) (rfl : 95 + 3 = 98) (xdt tt_X3_readInstruction 53 rfl) ?_
      refine g_goto hC (show ((98 : Nat) : Int) + 4 = ((102 : Nat) : Int) by decide) (xdt tt_X3_readInstruction 54 rfl) ?_
      refine g_sub [1, 2, 3, 0] (lv' := [(0, vr E r0 2), (1, vi x1), (2, vi x2), (3, vi s0)]) rfl ?_
      exact k_X3_readInstruction_p3_2_b102 hC hZ hE hk0 hA0 _ _ _ _ _ h
  · replace h := (if_neg hc17).symm.trans h
    refine g_iconst hC (rfl : 86 + 1 = 87) (xdt tt_X3_readInstruction 47 rfl) ?_
    cases h
    exact g_zret hC hE (Or.inl rfl) (xdt tt_X3_readInstruction 48 rfl)
set_option maxRecDepth 100000 in
set_option maxHeartbeats 4000000 in
theorem k_X3_readInstruction_p3_2_b51 {K : xCtx} {E : xE} {b : Nat} (hC : xOK K cX3_readInstruction RX3 5 (rmE 8 b)) (hZ : xZ K) {v : Int} {S' : xSt} (hE : xEnd K E (some .boolean) (YQz E v S')) {r0 : Nat} (hk0 : xkd E r0 = 3) (hA0 : xFam E r0) : ∀ (S : xSt) (x1 : Int), f_X3_readInstruction_p3_2_b51 r0 S x1 = some (v, S') → WG K E 51 [(0, vr E r0 2), (1, vi x1)] [] S := by
  intro S x1 h
  unfold f_X3_readInstruction_p3_2_b51 at h
  refine g_aload_n hC rfl 0 rfl (rfl : 51 + 1 = 52) (xdt tt_X3_readInstruction 27 rfl) ?_
  obtain ⟨v8, S7, hc6, h⟩ := bd2_i h
  refine g_callVi hC hZ hk0 kclX3 ly3_2 m_X3_kindOfToken q576 (Nat.le_of_ble_eq_true rfl) [] rfl (fun l => c_X3_kindOfToken_p3_2 l hk0 hA0 hc6) rfl (Nat.le_of_ble_eq_true rfl) (rfl : 52 + 3 = 55) (xdt tt_X3_readInstruction 28 rfl) ?_
  refine g_istore_n hC rfl (by decide) (lv' := [(2, vi v8), (0, vr E r0 2), (1, vi x1)]) rfl (rfl : 55 + 1 = 56) (xdt tt_X3_readInstruction 29 rfl) ?_
  refine g_iload_n hC rfl 0 rfl (rfl : 56 + 1 = 57) (xdt tt_X3_readInstruction 30 rfl) ?_
  refine g_iconst hC (rfl : 57 + 1 = 58) (xdt tt_X3_readInstruction 31 rfl) ?_
  refine g_icmp_ne hC (show ((58 : Nat) : Int) + 9 = ((67 : Nat) : Int) by decide) (rfl : 58 + 3 = 61) (xdt tt_X3_readInstruction 32 rfl) (fun hc26 => ?_) (fun hc26 => ?_)
  · replace h := (if_pos hc26).symm.trans h
    refine g_iload_n hC rfl 0 rfl (rfl : 67 + 1 = 68) (xdt tt_X3_readInstruction 37 rfl) ?_
    refine g_bipush hC (by decide) (rfl : 68 + 2 = 70) (xdt tt_X3_readInstruction 38 rfl) ?_
    refine g_icmp_lt hC (show ((70 : Nat) : Int) + 10 = ((80 : Nat) : Int) by decide) (rfl : 70 + 3 = 73) (xdt tt_X3_readInstruction 39 rfl) (fun hc21 => ?_) (fun hc21 => ?_)
    · replace h := (if_pos hc21).symm.trans h
      refine g_iconst hC (rfl : 80 + 1 = 81) (xdt tt_X3_readInstruction 43 rfl) ?_
      refine g_sub [1, 2, 0] (lv' := [(0, vr E r0 2), (1, vi x1), (2, vi v8)]) rfl ?_
      exact k_X3_readInstruction_p3_2_b81 hC hZ hE hk0 hA0 _ _ _ _ h
    · replace h := (if_neg hc21).symm.trans h
      refine g_aload_n hC rfl 1 rfl (rfl : 73 + 1 = 74) (xdt tt_X3_readInstruction 40 rfl) ?_
      obtain ⟨v20, S19, hc18, h⟩ := bd2_i h
      refine g_callVi hC hZ hk0 kclX3 ly3_2 m_X3_readTarget q609 (Nat.le_of_ble_eq_true rfl) [] rfl (fun l => c_X3_readTarget_p3_2 l hk0 hA0 hc18) rfl (Nat.le_of_ble_eq_true rfl) (rfl : 74 + 3 = 77) (xdt tt_X3_readInstruction 41 rfl) ?_
      refine g_goto hC (show ((77 : Nat) : Int) + 4 = ((81 : Nat) : Int) by decide) (xdt tt_X3_readInstruction 42 rfl) ?_
      refine g_sub [1, 2, 0] (lv' := [(0, vr E r0 2), (1, vi x1), (2, vi v8)]) rfl ?_
      exact k_X3_readInstruction_p3_2_b81 hC hZ hE hk0 hA0 _ _ _ _ h
  · replace h := (if_neg hc26).symm.trans h
    refine g_aload_n hC rfl 1 rfl (rfl : 61 + 1 = 62) (xdt tt_X3_readInstruction 33 rfl) ?_
    refine g_iconst hC (rfl : 62 + 1 = 63) (xdt tt_X3_readInstruction 34 rfl) ?_
    obtain ⟨v24, S23, hc22, h⟩ := bd2_i h
    refine g_callVz hC hZ hk0 kclX3 ly3_2 m_X3_fail q540 (Nat.le_of_ble_eq_true rfl) [vi 1] rfl (fun l => c_X3_fail_p3_2 l hk0 hA0 hc22) rfl (Nat.le_of_ble_eq_true rfl) (rfl : 63 + 3 = 66) (xdt tt_X3_readInstruction 35 rfl) (fun hb25 => ?_)
    cases h
    exact g_zret hC hE hb25 (xdt tt_X3_readInstruction 36 rfl)
set_option maxRecDepth 100000 in
set_option maxHeartbeats 4000000 in
theorem k_X3_readInstruction_p3_2_b25 {K : xCtx} {E : xE} {b : Nat} (hC : xOK K cX3_readInstruction RX3 5 (rmE 8 b)) (hZ : xZ K) {v : Int} {S' : xSt} (hE : xEnd K E (some .boolean) (YQz E v S')) {r0 : Nat} (hk0 : xkd E r0 = 3) (hA0 : xFam E r0) : ∀ (S : xSt) (x1 : Int), f_X3_readInstruction_p3_2_b25 r0 S x1 = some (v, S') → WG K E 25 [(0, vr E r0 2), (1, vi x1)] [] S := by
  intro S x1 h
  unfold f_X3_readInstruction_p3_2_b25 at h
  refine g_aload_n hC rfl 0 rfl (rfl : 25 + 1 = 26) (xdt tt_X3_readInstruction 14 rfl) ?_
  obtain ⟨rg5, hrg5, grg5, h⟩ := ckP_i h
  refine g_getV hC hk0 kclX3 ly3_2 2 (by decide) rfl hrg5 grg5 (by decide) q49 (rfl : 26 + 3 = 29) (xdt tt_X3_readInstruction 15 rfl) (fun krg5 => ?_)
  refine g_getI hC krg5 kclX5 ly2_0 10 (by decide) rfl q539 (rfl : 29 + 3 = 32) (xdt tt_X3_readInstruction 16 rfl) ?_
  refine g_bipush hC (by decide) (rfl : 32 + 2 = 34) (xdt tt_X3_readInstruction 17 rfl) ?_
  refine g_icmp_lt hC (show ((34 : Nat) : Int) + 9 = ((43 : Nat) : Int) by decide) (rfl : 34 + 3 = 37) (xdt tt_X3_readInstruction 18 rfl) (fun hc34 => ?_) (fun hc34 => ?_)
  · replace h := (if_pos hc34).symm.trans h
    refine g_iload_n hC rfl 1 rfl (rfl : 43 + 1 = 44) (xdt tt_X3_readInstruction 23 rfl) ?_
    refine g_if_eq hC (show ((44 : Nat) : Int) + 7 = ((51 : Nat) : Int) by decide) (rfl : 44 + 3 = 47) (xdt tt_X3_readInstruction 24 rfl) (fun hc29 => ?_) (fun hc29 => ?_)
    · replace h := (if_pos hc29).symm.trans h
      refine g_sub [0, 1] (lv' := [(0, vr E r0 2), (1, vi x1)]) rfl ?_
      exact k_X3_readInstruction_p3_2_b51 hC hZ hE hk0 hA0 _ _ h
    · replace h := (if_neg hc29).symm.trans h
      refine g_aload_n hC rfl 0 rfl (rfl : 47 + 1 = 48) (xdt tt_X3_readInstruction 25 rfl) ?_
      obtain ⟨S28, hc27, h⟩ := bd_i h
      refine g_callVv hC hZ hk0 kclX3 ly3_2 m_X3_readToken q503 (Nat.le_of_ble_eq_true rfl) [] rfl (fun l => c_X3_readToken_p3_2 l hk0 hA0 hc27) rfl (Nat.le_of_ble_eq_true rfl) (rfl : 48 + 3 = 51) (xdt tt_X3_readInstruction 26 rfl) ?_
      refine g_sub [0, 1] (lv' := [(0, vr E r0 2), (1, vi x1)]) rfl ?_
      exact k_X3_readInstruction_p3_2_b51 hC hZ hE hk0 hA0 _ _ h
  · replace h := (if_neg hc34).symm.trans h
    refine g_aload_n hC rfl 0 rfl (rfl : 37 + 1 = 38) (xdt tt_X3_readInstruction 19 rfl) ?_
    refine g_iconst hC (rfl : 38 + 1 = 39) (xdt tt_X3_readInstruction 20 rfl) ?_
    obtain ⟨v32, S31, hc30, h⟩ := bd2_i h
    refine g_callVz hC hZ hk0 kclX3 ly3_2 m_X3_fail q540 (Nat.le_of_ble_eq_true rfl) [vi 4] rfl (fun l => c_X3_fail_p3_2 l hk0 hA0 hc30) rfl (Nat.le_of_ble_eq_true rfl) (rfl : 39 + 3 = 42) (xdt tt_X3_readInstruction 21 rfl) (fun hb33 => ?_)
    cases h
    exact g_zret hC hE hb33 (xdt tt_X3_readInstruction 22 rfl)
set_option maxRecDepth 100000 in
set_option maxHeartbeats 4000000 in
theorem c_X3_readInstruction_p3_2 (l : Launch) {E : xE} {S S' : xSt} {r0 : Nat} (hk0 : xkd E r0 = 3) (hA0 : xFam E r0) {v : Int} (h : f_X3_readInstruction_p3_2 S r0 = some (v, S')) : Met l yX3_readInstruction (xws yX3_readInstruction cX3_readInstruction 5 (some .boolean)) (rmD 8) (YPc E [vr E r0 2] S) (YQz E v S') 0 0 (xA E) := by
  unfold f_X3_readInstruction_p3_2 at h
  refine met_z (by decide +kernel) (Nat.le_of_ble_eq_true rfl) (fun K hC hZ hE => ?_)
  have hC : xOK K cX3_readInstruction RX3 5 (rmE 8 0) := hC
  show WG K E 0 [(0, vr E r0 2)] [] S
  refine g_aload_n hC rfl 0 rfl (rfl : 0 + 1 = 1) (xdt tt_X3_readInstruction 0 rfl) ?_
  refine g_ldcS hC 24 rfl rfl (rfl : 1 + 2 = 3) (xdt tt_X3_readInstruction 1 rfl) ?_
  obtain ⟨v3, S2, hc1, h⟩ := bd2_i h
  refine g_callVz hC hZ hk0 kclX3 ly3_2 m_X3_tokenIs q556 (Nat.le_of_ble_eq_true rfl) [vs E 24] rfl (fun l => c_X3_tokenIs_p3_2 l hk0 hA0 (show 24 < xldc.length by decide) hc1) rfl (Nat.le_of_ble_eq_true rfl) (rfl : 3 + 3 = 6) (xdt tt_X3_readInstruction 2 rfl) (fun hb4 => ?_)
  refine g_istore_n hC rfl (by decide) (lv' := [(1, vi v3), (0, vr E r0 2)]) rfl (rfl : 6 + 1 = 7) (xdt tt_X3_readInstruction 3 rfl) ?_
  refine g_iload_n hC rfl 0 rfl (rfl : 7 + 1 = 8) (xdt tt_X3_readInstruction 4 rfl) ?_
  refine g_if_ne hC (show ((8 : Nat) : Int) + 17 = ((25 : Nat) : Int) by decide) (rfl : 8 + 3 = 11) (xdt tt_X3_readInstruction 5 rfl) (fun hc43 => ?_) (fun hc43 => ?_)
  · replace h := (if_pos hc43).symm.trans h
    refine g_sub [1, 0] (lv' := [(0, vr E r0 2), (1, vi v3)]) rfl ?_
    exact k_X3_readInstruction_p3_2_b25 hC hZ hE hk0 hA0 _ _ h
  · replace h := (if_neg hc43).symm.trans h
    refine g_aload_n hC rfl 1 rfl (rfl : 11 + 1 = 12) (xdt tt_X3_readInstruction 6 rfl) ?_
    obtain ⟨v37, S36, hc35, h⟩ := bd2_i h
    refine g_callVi hC hZ hk0 kclX3 ly3_2 m_X3_kindOfToken q576 (Nat.le_of_ble_eq_true rfl) [] rfl (fun l => c_X3_kindOfToken_p3_2 l hk0 hA0 hc35) rfl (Nat.le_of_ble_eq_true rfl) (rfl : 12 + 3 = 15) (xdt tt_X3_readInstruction 7 rfl) ?_
    refine g_iconst hC (rfl : 15 + 1 = 16) (xdt tt_X3_readInstruction 8 rfl) ?_
    refine g_icmp_ne hC (show ((16 : Nat) : Int) + 9 = ((25 : Nat) : Int) by decide) (rfl : 16 + 3 = 19) (xdt tt_X3_readInstruction 9 rfl) (fun hc42 => ?_) (fun hc42 => ?_)
    · replace h := (if_pos hc42).symm.trans h
      refine g_sub [1, 0] (lv' := [(0, vr E r0 2), (1, vi v3)]) rfl ?_
      exact k_X3_readInstruction_p3_2_b25 hC hZ hE hk0 hA0 _ _ h
    · replace h := (if_neg hc42).symm.trans h
      refine g_aload_n hC rfl 1 rfl (rfl : 19 + 1 = 20) (xdt tt_X3_readInstruction 10 rfl) ?_
      refine g_iconst hC (rfl : 20 + 1 = 21) (xdt tt_X3_readInstruction 11 rfl) ?_
      obtain ⟨v40, S39, hc38, h⟩ := bd2_i h
      refine g_callVz hC hZ hk0 kclX3 ly3_2 m_X3_fail q540 (Nat.le_of_ble_eq_true rfl) [vi 1] rfl (fun l => c_X3_fail_p3_2 l hk0 hA0 hc38) rfl (Nat.le_of_ble_eq_true rfl) (rfl : 21 + 3 = 24) (xdt tt_X3_readInstruction 12 rfl) (fun hb41 => ?_)
      cases h
      exact g_zret hC hE hb41 (xdt tt_X3_readInstruction 13 rfl)
def f_X3_readSign_p3_2 (S : xSt) (r0 : Nat) (a1 : Int) : Option (Int × xSt) :=
  bd (f_X3_readToken_p3_2 S r0) fun S2 =>
  if wr (gI S2 r0 2 3) = wr a1 then
    (some (1, S2))
  else
    (bd2 (f_X3_fail_p3_2 S2 r0 1) fun v5 S4 =>
    if wr v5 = 0 then
      (some (0, S4))
    else
      (some (1, S4)))
set_option maxRecDepth 100000 in
set_option maxHeartbeats 4000000 in
theorem c_X3_readSign_p3_2 (l : Launch) {E : xE} {S S' : xSt} {r0 : Nat} {a1 : Int} (hk0 : xkd E r0 = 3) (hA0 : xFam E r0) {v : Int} (h : f_X3_readSign_p3_2 S r0 a1 = some (v, S')) : Met l yX3_readSign (xws yX3_readSign cX3_readSign 2 (some .boolean)) (rmD 3) (YPc E [vr E r0 2, vi a1] S) (YQz E v S') 0 0 (xA E) := by
  unfold f_X3_readSign_p3_2 at h
  refine met_z (by decide +kernel) (Nat.le_of_ble_eq_true rfl) (fun K hC hZ hE => ?_)
  have hC : xOK K cX3_readSign RX3 2 (rmE 3 0) := hC
  show WG K E 0 [(0, vr E r0 2), (1, vi a1)] [] S
  refine g_aload_n hC rfl 0 rfl (rfl : 0 + 1 = 1) (xdt tt_X3_readSign 0 rfl) ?_
  obtain ⟨S2, hc1, h⟩ := bd_i h
  refine g_callVv hC hZ hk0 kclX3 ly3_2 m_X3_readToken q503 (Nat.le_of_ble_eq_true rfl) [] rfl (fun l => c_X3_readToken_p3_2 l hk0 hA0 hc1) rfl (Nat.le_of_ble_eq_true rfl) (rfl : 1 + 3 = 4) (xdt tt_X3_readSign 1 rfl) ?_
  refine g_aload_n hC rfl 0 rfl (rfl : 4 + 1 = 5) (xdt tt_X3_readSign 2 rfl) ?_
  refine g_getI hC hk0 kclX3 ly3_2 3 (by decide) rfl q493 (rfl : 5 + 3 = 8) (xdt tt_X3_readSign 3 rfl) ?_
  refine g_iload_n hC rfl 1 rfl (rfl : 8 + 1 = 9) (xdt tt_X3_readSign 4 rfl) ?_
  refine g_icmp_eq hC (show ((9 : Nat) : Int) + 11 = ((20 : Nat) : Int) by decide) (rfl : 9 + 3 = 12) (xdt tt_X3_readSign 5 rfl) (fun hc8 => ?_) (fun hc8 => ?_)
  · replace h := (if_pos hc8).symm.trans h
    refine g_iconst hC (rfl : 20 + 1 = 21) (xdt tt_X3_readSign 10 rfl) ?_
    refine g_goto hC (show ((21 : Nat) : Int) + 4 = ((25 : Nat) : Int) by decide) (xdt tt_X3_readSign 11 rfl) ?_
    cases h
    exact g_zret hC hE (Or.inr rfl) (xdt tt_X3_readSign 13 rfl)
  · replace h := (if_neg hc8).symm.trans h
    refine g_aload_n hC rfl 0 rfl (rfl : 12 + 1 = 13) (xdt tt_X3_readSign 6 rfl) ?_
    refine g_iconst hC (rfl : 13 + 1 = 14) (xdt tt_X3_readSign 7 rfl) ?_
    obtain ⟨v5, S4, hc3, h⟩ := bd2_i h
    refine g_callVz hC hZ hk0 kclX3 ly3_2 m_X3_fail q540 (Nat.le_of_ble_eq_true rfl) [vi 1] rfl (fun l => c_X3_fail_p3_2 l hk0 hA0 hc3) rfl (Nat.le_of_ble_eq_true rfl) (rfl : 14 + 3 = 17) (xdt tt_X3_readSign 8 rfl) (fun hb6 => ?_)
    refine g_if_eq hC (show ((17 : Nat) : Int) + 7 = ((24 : Nat) : Int) by decide) (rfl : 17 + 3 = 20) (xdt tt_X3_readSign 9 rfl) (fun hc7 => ?_) (fun hc7 => ?_)
    · replace h := (if_pos hc7).symm.trans h
      refine g_iconst hC (rfl : 24 + 1 = 25) (xdt tt_X3_readSign 12 rfl) ?_
      cases h
      exact g_zret hC hE (Or.inl rfl) (xdt tt_X3_readSign 13 rfl)
    · replace h := (if_neg hc7).symm.trans h
      refine g_iconst hC (rfl : 20 + 1 = 21) (xdt tt_X3_readSign 10 rfl) ?_
      refine g_goto hC (show ((21 : Nat) : Int) + 4 = ((25 : Nat) : Int) by decide) (xdt tt_X3_readSign 11 rfl) ?_
      cases h
      exact g_zret hC hE (Or.inr rfl) (xdt tt_X3_readSign 13 rfl)
def f_X11_isAllowed (S : xSt) (a0 : Int) (a1 : Int) : Option (Int × xSt) :=
  if wr a0 < 0 then
    (some (0, S))
  else
    (if wr a0 < wr 6 then
      (if ¬ wr a0 = wr 1 then
        (ckI a0 6 <|
        if wr a1 < wr (tbI 2 (wr a0).toNat) then
          (some (0, S))
        else
          (ckI a0 6 <|
          if wr (tbI 0 (wr a0).toNat) < wr a1 then
            (some (0, S))
          else
            (some (1, S))))
      else
        (if wr a1 = wr 8 then
          (some (1, S))
        else
          (if wr a1 = wr 16 then
            (some (1, S))
          else
            (if ¬ wr a1 = wr 32 then
              (some (0, S))
            else
              (some (1, S))))))
    else
      (some (0, S)))
set_option maxRecDepth 100000 in
set_option maxHeartbeats 4000000 in
theorem c_X11_isAllowed (l : Launch) {E : xE} {S S' : xSt} {a0 : Int} {a1 : Int} {v : Int} (h : f_X11_isAllowed S a0 a1 = some (v, S')) : Met l yX11_isAllowed (xws yX11_isAllowed cX11_isAllowed 2 (some .boolean)) (rmD 1) (YPc E [vi a0, vi a1] S) (YQz E v S') 0 0 (xA E) := by
  unfold f_X11_isAllowed at h
  refine met_z (by decide +kernel) (Nat.le_of_ble_eq_true rfl) (fun K hC hZ hE => ?_)
  have hC : xOK K cX11_isAllowed RX11 2 (rmE 1 0) := hC
  show WG K E 0 [(0, vi a0), (1, vi a1)] [] S
  refine g_iload_n hC rfl 0 rfl (rfl : 0 + 1 = 1) (xdt tt_X11_isAllowed 0 rfl) ?_
  refine g_if_lt hC (show ((1 : Nat) : Int) + 9 = ((10 : Nat) : Int) by decide) (rfl : 1 + 3 = 4) (xdt tt_X11_isAllowed 1 rfl) (fun hc10 => ?_) (fun hc10 => ?_)
  · replace h := (if_pos hc10).symm.trans h
    refine g_iconst hC (rfl : 10 + 1 = 11) (xdt tt_X11_isAllowed 5 rfl) ?_
    cases h
    exact g_zret hC hE (Or.inl rfl) (xdt tt_X11_isAllowed 6 rfl)
  · replace h := (if_neg hc10).symm.trans h
    refine g_iload_n hC rfl 0 rfl (rfl : 4 + 1 = 5) (xdt tt_X11_isAllowed 2 rfl) ?_
    refine g_bipush hC (by decide) (rfl : 5 + 2 = 7) (xdt tt_X11_isAllowed 3 rfl) ?_
    refine g_icmp_lt hC (show ((7 : Nat) : Int) + 5 = ((12 : Nat) : Int) by decide) (rfl : 7 + 3 = 10) (xdt tt_X11_isAllowed 4 rfl) (fun hc9 => ?_) (fun hc9 => ?_)
    · replace h := (if_pos hc9).symm.trans h
      refine g_iload_n hC rfl 0 rfl (rfl : 12 + 1 = 13) (xdt tt_X11_isAllowed 7 rfl) ?_
      refine g_iconst hC (rfl : 13 + 1 = 14) (xdt tt_X11_isAllowed 8 rfl) ?_
      refine g_icmp_ne hC (show ((14 : Nat) : Int) + 27 = ((41 : Nat) : Int) by decide) (rfl : 14 + 3 = 17) (xdt tt_X11_isAllowed 9 rfl) (fun hc8 => ?_) (fun hc8 => ?_)
      · replace h := (if_pos hc8).symm.trans h
        refine g_iload_n hC rfl 1 rfl (rfl : 41 + 1 = 42) (xdt tt_X11_isAllowed 23 rfl) ?_
        refine g_gets hC 2 rfl q603 (rfl : 42 + 3 = 45) (xdt tt_X11_isAllowed 24 rfl) ?_
        refine g_iload_n hC rfl 0 rfl (rfl : 45 + 1 = 46) (xdt tt_X11_isAllowed 25 rfl) ?_
        obtain ⟨hi1, h⟩ := ckI_i h
        refine g_tald hC (q := 2) rfl rfl hi1 (rfl : 46 + 1 = 47) (xdt tt_X11_isAllowed 26 rfl) (k0 := (wr a0).toNat) rfl ?_
        refine g_icmp_lt hC (show ((47 : Nat) : Int) + 16 = ((63 : Nat) : Int) by decide) (rfl : 47 + 3 = 50) (xdt tt_X11_isAllowed 27 rfl) (fun hc4 => ?_) (fun hc4 => ?_)
        · replace h := (if_pos hc4).symm.trans h
          refine g_iconst hC (rfl : 63 + 1 = 64) (xdt tt_X11_isAllowed 35 rfl) ?_
          cases h
          exact g_zret hC hE (Or.inl rfl) (xdt tt_X11_isAllowed 36 rfl)
        · replace h := (if_neg hc4).symm.trans h
          refine g_iload_n hC rfl 1 rfl (rfl : 50 + 1 = 51) (xdt tt_X11_isAllowed 28 rfl) ?_
          refine g_gets hC 0 rfl q604 (rfl : 51 + 3 = 54) (xdt tt_X11_isAllowed 29 rfl) ?_
          refine g_iload_n hC rfl 0 rfl (rfl : 54 + 1 = 55) (xdt tt_X11_isAllowed 30 rfl) ?_
          obtain ⟨hi2, h⟩ := ckI_i h
          refine g_tald hC (q := 0) rfl rfl hi2 (rfl : 55 + 1 = 56) (xdt tt_X11_isAllowed 31 rfl) (k0 := (wr a0).toNat) rfl ?_
          refine g_icmp_gt hC (show ((56 : Nat) : Int) + 7 = ((63 : Nat) : Int) by decide) (rfl : 56 + 3 = 59) (xdt tt_X11_isAllowed 32 rfl) (fun hc3 => ?_) (fun hc3 => ?_)
          · replace h := (if_pos hc3).symm.trans h
            refine g_iconst hC (rfl : 63 + 1 = 64) (xdt tt_X11_isAllowed 35 rfl) ?_
            cases h
            exact g_zret hC hE (Or.inl rfl) (xdt tt_X11_isAllowed 36 rfl)
          · replace h := (if_neg hc3).symm.trans h
            refine g_iconst hC (rfl : 59 + 1 = 60) (xdt tt_X11_isAllowed 33 rfl) ?_
            refine g_goto hC (show ((60 : Nat) : Int) + 4 = ((64 : Nat) : Int) by decide) (xdt tt_X11_isAllowed 34 rfl) ?_
            cases h
            exact g_zret hC hE (Or.inr rfl) (xdt tt_X11_isAllowed 36 rfl)
      · replace h := (if_neg hc8).symm.trans h
        refine g_iload_n hC rfl 1 rfl (rfl : 17 + 1 = 18) (xdt tt_X11_isAllowed 10 rfl) ?_
        refine g_bipush hC (by decide) (rfl : 18 + 2 = 20) (xdt tt_X11_isAllowed 11 rfl) ?_
        refine g_icmp_eq hC (show ((20 : Nat) : Int) + 15 = ((35 : Nat) : Int) by decide) (rfl : 20 + 3 = 23) (xdt tt_X11_isAllowed 12 rfl) (fun hc7 => ?_) (fun hc7 => ?_)
        · replace h := (if_pos hc7).symm.trans h
          refine g_iconst hC (rfl : 35 + 1 = 36) (xdt tt_X11_isAllowed 19 rfl) ?_
          refine g_goto hC (show ((36 : Nat) : Int) + 4 = ((40 : Nat) : Int) by decide) (xdt tt_X11_isAllowed 20 rfl) ?_
          cases h
          exact g_zret hC hE (Or.inr rfl) (xdt tt_X11_isAllowed 22 rfl)
        · replace h := (if_neg hc7).symm.trans h
          refine g_iload_n hC rfl 1 rfl (rfl : 23 + 1 = 24) (xdt tt_X11_isAllowed 13 rfl) ?_
          refine g_bipush hC (by decide) (rfl : 24 + 2 = 26) (xdt tt_X11_isAllowed 14 rfl) ?_
          refine g_icmp_eq hC (show ((26 : Nat) : Int) + 9 = ((35 : Nat) : Int) by decide) (rfl : 26 + 3 = 29) (xdt tt_X11_isAllowed 15 rfl) (fun hc6 => ?_) (fun hc6 => ?_)
          · replace h := (if_pos hc6).symm.trans h
            refine g_iconst hC (rfl : 35 + 1 = 36) (xdt tt_X11_isAllowed 19 rfl) ?_
            refine g_goto hC (show ((36 : Nat) : Int) + 4 = ((40 : Nat) : Int) by decide) (xdt tt_X11_isAllowed 20 rfl) ?_
            cases h
            exact g_zret hC hE (Or.inr rfl) (xdt tt_X11_isAllowed 22 rfl)
          · replace h := (if_neg hc6).symm.trans h
            refine g_iload_n hC rfl 1 rfl (rfl : 29 + 1 = 30) (xdt tt_X11_isAllowed 16 rfl) ?_
            refine g_bipush hC (by decide) (rfl : 30 + 2 = 32) (xdt tt_X11_isAllowed 17 rfl) ?_
            refine g_icmp_ne hC (show ((32 : Nat) : Int) + 7 = ((39 : Nat) : Int) by decide) (rfl : 32 + 3 = 35) (xdt tt_X11_isAllowed 18 rfl) (fun hc5 => ?_) (fun hc5 => ?_)
            · replace h := (if_pos hc5).symm.trans h
              refine g_iconst hC (rfl : 39 + 1 = 40) (xdt tt_X11_isAllowed 21 rfl) ?_
              cases h
              exact g_zret hC hE (Or.inl rfl) (xdt tt_X11_isAllowed 22 rfl)
            · replace h := (if_neg hc5).symm.trans h
              refine g_iconst hC (rfl : 35 + 1 = 36) (xdt tt_X11_isAllowed 19 rfl) ?_
              refine g_goto hC (show ((36 : Nat) : Int) + 4 = ((40 : Nat) : Int) by decide) (xdt tt_X11_isAllowed 20 rfl) ?_
              cases h
              exact g_zret hC hE (Or.inr rfl) (xdt tt_X11_isAllowed 22 rfl)
    · replace h := (if_neg hc9).symm.trans h
      refine g_iconst hC (rfl : 10 + 1 = 11) (xdt tt_X11_isAllowed 5 rfl) ?_
      cases h
      exact g_zret hC hE (Or.inl rfl) (xdt tt_X11_isAllowed 6 rfl)
