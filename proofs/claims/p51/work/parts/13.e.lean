def f_X0_mark_p1_0_b81 (r0 : Nat) (S : xSt) (x1 : Int) (x2 : Int) : Option (Int × xSt) :=
  if ¬ wr x2 = 0 then
    (some (0, S))
  else
    (ckP S r0 0 0 2 0 fun rg11 =>
    ckI x1 60 <|
    if ¬ wr (gI S rg11 6 (wr x1).toNat) = 0 then
      (some (0, S))
    else
      (some (1, S)))
def f_X0_mark_p1_0_b64 (r0 : Nat) (S : xSt) (x1 : Int) (x2 : Int) : Option (Int × xSt) :=
  ckP S r0 0 0 2 0 fun rg9 =>
  ckI x1 60 <|
  if wr (gI S rg9 6 (wr x1).toNat) = 0 then
    (f_X0_mark_p1_0_b81 r0 S x1 x2)
  else
    (lt1 (wI S r0 0 16 3) fun S15 =>
    f_X0_mark_p1_0_b81 r0 S15 x1 x2)
def f_X0_mark_p1_0 (S : xSt) (r0 : Nat) : Option (Int × xSt) :=
  if wr (gI S r0 0 10) < 0 then
    (some (0, S))
  else
    (ckP S r0 0 0 2 0 fun rg1 =>
    if wr (gI S r0 0 10) < wr (gI S rg1 0 10) then
      (bd2 (f_X0_predictsTaken_p1_0 S r0 (gI S r0 0 10)) fun v4 S3 =>
      bd (f_X6_append_p1_5 S3 r0 (gI S r0 0 10) v4) fun S7 =>
      if wr v4 = 0 then
        (lt1 (wI S7 r0 0 10 ((gI S r0 0 10) + 1)) fun S8 =>
        f_X0_mark_p1_0_b64 r0 S8 (gI S r0 0 10) v4)
      else
        (ckP S7 r0 0 0 2 0 fun rg17 =>
        ckI (gI S r0 0 10) 60 <|
        bd (f_X0_setPlace_p1_0 S7 r0 (gI S7 rg17 11 (wr (gI S r0 0 10)).toNat)) fun S20 =>
        f_X0_mark_p1_0_b64 r0 S20 (gI S r0 0 10) v4))
    else
      (some (0, S)))
set_option maxRecDepth 100000 in
set_option maxHeartbeats 4000000 in
theorem k_X0_mark_p1_0_b81 {K : xCtx} {E : xE} {b : Nat} (hC : xOK K cX0_mark RX0 3 (rmE 2 b)) (hZ : xZ K) {v : Int} {S' : xSt} (hE : xEnd K E (some .boolean) (YQz E v S')) {r0 : Nat} (hk0 : xkd E r0 = 1) : ∀ (S : xSt) (x1 : Int) (x2 : Int), f_X0_mark_p1_0_b81 r0 S x1 x2 = some (v, S') → WG K E 81 [(0, vr E r0 0), (1, vi x1), (2, vi x2)] [] S := by
  intro S x1 x2 h
  unfold f_X0_mark_p1_0_b81 at h
  refine g_iload_n hC rfl 2 rfl (rfl : 81 + 1 = 82) (xdt tt_X0_mark 45 rfl) ?_
  refine g_if_ne hC (show ((82 : Nat) : Int) + 19 = ((101 : Nat) : Int) by decide) (rfl : 82 + 3 = 85) (xdt tt_X0_mark 46 rfl) (fun hc14 => ?_) (fun hc14 => ?_)
  · replace h := (if_pos hc14).symm.trans h
    refine g_iconst hC (rfl : 101 + 1 = 102) (xdt tt_X0_mark 55 rfl) ?_
    cases h
    exact g_zret hC hE (Or.inl rfl) (xdt tt_X0_mark 56 rfl)
  · replace h := (if_neg hc14).symm.trans h
    refine g_aload_n hC rfl 0 rfl (rfl : 85 + 1 = 86) (xdt tt_X0_mark 47 rfl) ?_
    obtain ⟨rg11, hrg11, grg11, h⟩ := ckP_i h
    refine g_getV hC hk0 kclX0 ly1_0 0 (by decide) rfl hrg11 grg11 (by decide) q142 (rfl : 86 + 3 = 89) (xdt tt_X0_mark 48 rfl) (fun krg11 => ?_)
    refine g_getP hC krg11 kclX5 ly2_0 3 (by decide) (rfl : rg11 + 0 = rg11) rfl q715 (rfl : 89 + 3 = 92) (xdt tt_X0_mark 49 rfl) ?_
    refine g_iload_n hC rfl 1 rfl (rfl : 92 + 1 = 93) (xdt tt_X0_mark 50 rfl) ?_
    obtain ⟨hi12, h⟩ := ckI_i h
    refine g_zald hC krg11 ly2_6 hi12 (rfl : 93 + 1 = 94) (xdt tt_X0_mark 51 rfl) (k0 := (wr x1).toNat) rfl ?_
    refine g_if_ne hC (show ((94 : Nat) : Int) + 7 = ((101 : Nat) : Int) by decide) (rfl : 94 + 3 = 97) (xdt tt_X0_mark 52 rfl) (fun hc13 => ?_) (fun hc13 => ?_)
    · replace h := (if_pos hc13).symm.trans h
      refine g_iconst hC (rfl : 101 + 1 = 102) (xdt tt_X0_mark 55 rfl) ?_
      cases h
      exact g_zret hC hE (Or.inl rfl) (xdt tt_X0_mark 56 rfl)
    · replace h := (if_neg hc13).symm.trans h
      refine g_iconst hC (rfl : 97 + 1 = 98) (xdt tt_X0_mark 53 rfl) ?_
      refine g_goto hC (show ((98 : Nat) : Int) + 4 = ((102 : Nat) : Int) by decide) (xdt tt_X0_mark 54 rfl) ?_
      cases h
      exact g_zret hC hE (Or.inr rfl) (xdt tt_X0_mark 56 rfl)
set_option maxRecDepth 100000 in
set_option maxHeartbeats 4000000 in
theorem k_X0_mark_p1_0_b64 {K : xCtx} {E : xE} {b : Nat} (hC : xOK K cX0_mark RX0 3 (rmE 2 b)) (hZ : xZ K) {v : Int} {S' : xSt} (hE : xEnd K E (some .boolean) (YQz E v S')) {r0 : Nat} (hk0 : xkd E r0 = 1) : ∀ (S : xSt) (x1 : Int) (x2 : Int), f_X0_mark_p1_0_b64 r0 S x1 x2 = some (v, S') → WG K E 64 [(0, vr E r0 0), (1, vi x1), (2, vi x2)] [] S := by
  intro S x1 x2 h
  unfold f_X0_mark_p1_0_b64 at h
  refine g_aload_n hC rfl 0 rfl (rfl : 64 + 1 = 65) (xdt tt_X0_mark 36 rfl) ?_
  obtain ⟨rg9, hrg9, grg9, h⟩ := ckP_i h
  refine g_getV hC hk0 kclX0 ly1_0 0 (by decide) rfl hrg9 grg9 (by decide) q142 (rfl : 65 + 3 = 68) (xdt tt_X0_mark 37 rfl) (fun krg9 => ?_)
  refine g_getP hC krg9 kclX5 ly2_0 3 (by decide) (rfl : rg9 + 0 = rg9) rfl q715 (rfl : 68 + 3 = 71) (xdt tt_X0_mark 38 rfl) ?_
  refine g_iload_n hC rfl 1 rfl (rfl : 71 + 1 = 72) (xdt tt_X0_mark 39 rfl) ?_
  obtain ⟨hi10, h⟩ := ckI_i h
  refine g_zald hC krg9 ly2_6 hi10 (rfl : 72 + 1 = 73) (xdt tt_X0_mark 40 rfl) (k0 := (wr x1).toNat) rfl ?_
  refine g_if_eq hC (show ((73 : Nat) : Int) + 8 = ((81 : Nat) : Int) by decide) (rfl : 73 + 3 = 76) (xdt tt_X0_mark 41 rfl) (fun hc16 => ?_) (fun hc16 => ?_)
  · replace h := (if_pos hc16).symm.trans h
    refine g_sub [0, 1, 2] (lv' := [(0, vr E r0 0), (1, vi x1), (2, vi x2)]) rfl ?_
    exact k_X0_mark_p1_0_b81 hC hZ hE hk0 _ _ _ h
  · replace h := (if_neg hc16).symm.trans h
    refine g_aload_n hC rfl 0 rfl (rfl : 76 + 1 = 77) (xdt tt_X0_mark 42 rfl) ?_
    refine g_iconst hC (rfl : 77 + 1 = 78) (xdt tt_X0_mark 43 rfl) ?_
    obtain ⟨S15, hS15, h⟩ := lt1_i h
    refine g_putI hC hk0 kclX0 ly1_0 16 (by decide) rfl rfl rfl q156 hS15 (rfl : 78 + 3 = 81) (xdt tt_X0_mark 44 rfl) ?_
    refine g_sub [0, 1, 2] (lv' := [(0, vr E r0 0), (1, vi x1), (2, vi x2)]) rfl ?_
    exact k_X0_mark_p1_0_b81 hC hZ hE hk0 _ _ _ h
set_option maxRecDepth 100000 in
set_option maxHeartbeats 4000000 in
theorem c_X0_mark_p1_0 (l : Launch) {E : xE} {S S' : xSt} {r0 : Nat} (hk0 : xkd E r0 = 1) {v : Int} (h : f_X0_mark_p1_0 S r0 = some (v, S')) : Met l yX0_mark (xws yX0_mark cX0_mark 3 (some .boolean)) (rmD 2) (YPc E [vr E r0 0] S) (YQz E v S') 0 0 (xA E) := by
  unfold f_X0_mark_p1_0 at h
  refine met_z (by decide +kernel) (Nat.le_of_ble_eq_true rfl) (fun K hC hZ hE => ?_)
  have hC : xOK K cX0_mark RX0 3 (rmE 2 0) := hC
  show WG K E 0 [(0, vr E r0 0)] [] S
  refine g_aload_n hC rfl 0 rfl (rfl : 0 + 1 = 1) (xdt tt_X0_mark 0 rfl) ?_
  refine g_getI hC hk0 kclX0 ly1_0 10 (by decide) rfl q150 (rfl : 1 + 3 = 4) (xdt tt_X0_mark 1 rfl) ?_
  refine g_istore_n hC rfl (by decide) (lv' := [(1, vi (gI S r0 0 10)), (0, vr E r0 0)]) rfl (rfl : 4 + 1 = 5) (xdt tt_X0_mark 2 rfl) ?_
  refine g_iload_n hC rfl 0 rfl (rfl : 5 + 1 = 6) (xdt tt_X0_mark 3 rfl) ?_
  refine g_if_lt hC (show ((6 : Nat) : Int) + 14 = ((20 : Nat) : Int) by decide) (rfl : 6 + 3 = 9) (xdt tt_X0_mark 4 rfl) (fun hc23 => ?_) (fun hc23 => ?_)
  · replace h := (if_pos hc23).symm.trans h
    refine g_iconst hC (rfl : 20 + 1 = 21) (xdt tt_X0_mark 10 rfl) ?_
    cases h
    exact g_zret hC hE (Or.inl rfl) (xdt tt_X0_mark 11 rfl)
  · replace h := (if_neg hc23).symm.trans h
    refine g_iload_n hC rfl 0 rfl (rfl : 9 + 1 = 10) (xdt tt_X0_mark 5 rfl) ?_
    refine g_aload_n hC rfl 1 rfl (rfl : 10 + 1 = 11) (xdt tt_X0_mark 6 rfl) ?_
    obtain ⟨rg1, hrg1, grg1, h⟩ := ckP_i h
    refine g_getV hC hk0 kclX0 ly1_0 0 (by decide) rfl hrg1 grg1 (by decide) q142 (rfl : 11 + 3 = 14) (xdt tt_X0_mark 7 rfl) (fun krg1 => ?_)
    refine g_getI hC krg1 kclX5 ly2_0 10 (by decide) rfl q714 (rfl : 14 + 3 = 17) (xdt tt_X0_mark 8 rfl) ?_
    refine g_icmp_lt hC (show ((17 : Nat) : Int) + 5 = ((22 : Nat) : Int) by decide) (rfl : 17 + 3 = 20) (xdt tt_X0_mark 9 rfl) (fun hc22 => ?_) (fun hc22 => ?_)
    · replace h := (if_pos hc22).symm.trans h
      refine g_aload_n hC rfl 1 rfl (rfl : 22 + 1 = 23) (xdt tt_X0_mark 12 rfl) ?_
      refine g_iload_n hC rfl 0 rfl (rfl : 23 + 1 = 24) (xdt tt_X0_mark 13 rfl) ?_
      obtain ⟨v4, S3, hc2, h⟩ := bd2_i h
      refine g_callVz hC hZ hk0 kclX0 ly1_0 m_X0_predictsTaken q820 (Nat.le_of_ble_eq_true rfl) [vi (gI S r0 0 10)] rfl (fun l => c_X0_predictsTaken_p1_0 l hk0 hc2) rfl (Nat.le_of_ble_eq_true rfl) (rfl : 24 + 3 = 27) (xdt tt_X0_mark 14 rfl) (fun hb5 => ?_)
      refine g_istore_n hC rfl (by decide) (lv' := [(2, vi v4), (1, vi (gI S r0 0 10)), (0, vr E r0 0)]) rfl (rfl : 27 + 1 = 28) (xdt tt_X0_mark 15 rfl) ?_
      refine g_aload_n hC rfl 2 rfl (rfl : 28 + 1 = 29) (xdt tt_X0_mark 16 rfl) ?_
      refine g_getP hC hk0 kclX0 ly1_0 3 (by decide) (rfl : r0 + 0 = r0) rfl q98 (rfl : 29 + 3 = 32) (xdt tt_X0_mark 17 rfl) ?_
      refine g_iload_n hC rfl 1 rfl (rfl : 32 + 1 = 33) (xdt tt_X0_mark 18 rfl) ?_
      refine g_iload_n hC rfl 0 rfl (rfl : 33 + 1 = 34) (xdt tt_X0_mark 19 rfl) ?_
      obtain ⟨S7, hc6, h⟩ := bd_i h
      refine g_callVv hC hZ hk0 kclX6 ly1_5 m_X6_append q824 (Nat.le_of_ble_eq_true rfl) [vi (gI S r0 0 10), vi v4] rfl (fun l => c_X6_append_p1_5 l hk0 hc6) rfl (Nat.le_of_ble_eq_true rfl) (rfl : 34 + 3 = 37) (xdt tt_X0_mark 20 rfl) ?_
      refine g_iload_n hC rfl 0 rfl (rfl : 37 + 1 = 38) (xdt tt_X0_mark 21 rfl) ?_
      refine g_if_eq hC (show ((38 : Nat) : Int) + 19 = ((57 : Nat) : Int) by decide) (rfl : 38 + 3 = 41) (xdt tt_X0_mark 22 rfl) (fun hc21 => ?_) (fun hc21 => ?_)
      · replace h := (if_pos hc21).symm.trans h
        refine g_aload_n hC rfl 2 rfl (rfl : 57 + 1 = 58) (xdt tt_X0_mark 31 rfl) ?_
        refine g_iload_n hC rfl 1 rfl (rfl : 58 + 1 = 59) (xdt tt_X0_mark 32 rfl) ?_
        refine g_iconst hC (rfl : 59 + 1 = 60) (xdt tt_X0_mark 33 rfl) ?_
        refine g_iadd hC (rfl : 60 + 1 = 61) (xdt tt_X0_mark 34 rfl) ?_
        obtain ⟨S8, hS8, h⟩ := lt1_i h
        refine g_putI hC hk0 kclX0 ly1_0 10 (by decide) rfl rfl rfl q150 hS8 (rfl : 61 + 3 = 64) (xdt tt_X0_mark 35 rfl) ?_
        refine g_sub [2, 1, 0] (lv' := [(0, vr E r0 0), (1, vi (gI S r0 0 10)), (2, vi v4)]) rfl ?_
        exact k_X0_mark_p1_0_b64 hC hZ hE hk0 _ _ _ h
      · replace h := (if_neg hc21).symm.trans h
        refine g_aload_n hC rfl 2 rfl (rfl : 41 + 1 = 42) (xdt tt_X0_mark 23 rfl) ?_
        refine g_aload_n hC rfl 2 rfl (rfl : 42 + 1 = 43) (xdt tt_X0_mark 24 rfl) ?_
        obtain ⟨rg17, hrg17, grg17, h⟩ := ckP_i h
        refine g_getV hC hk0 kclX0 ly1_0 0 (by decide) rfl hrg17 grg17 (by decide) q142 (rfl : 43 + 3 = 46) (xdt tt_X0_mark 25 rfl) (fun krg17 => ?_)
        refine g_getP hC krg17 kclX5 ly2_0 8 (by decide) (rfl : rg17 + 0 = rg17) rfl q768 (rfl : 46 + 3 = 49) (xdt tt_X0_mark 26 rfl) ?_
        refine g_iload_n hC rfl 1 rfl (rfl : 49 + 1 = 50) (xdt tt_X0_mark 27 rfl) ?_
        obtain ⟨hi18, h⟩ := ckI_i h
        refine g_iald hC krg17 ly2_11 hi18 (rfl : 50 + 1 = 51) (xdt tt_X0_mark 28 rfl) (k0 := (wr (gI S r0 0 10)).toNat) rfl ?_
        obtain ⟨S20, hc19, h⟩ := bd_i h
        refine g_callVv hC hZ hk0 kclX0 ly1_0 m_X0_setPlace q776 (Nat.le_of_ble_eq_true rfl) [vi (gI S7 rg17 11 (wr (gI S r0 0 10)).toNat)] rfl (fun l => c_X0_setPlace_p1_0 l hk0 hc19) rfl (Nat.le_of_ble_eq_true rfl) (rfl : 51 + 3 = 54) (xdt tt_X0_mark 29 rfl) ?_
        refine g_goto hC (show ((54 : Nat) : Int) + 10 = ((64 : Nat) : Int) by decide) (xdt tt_X0_mark 30 rfl) ?_
        refine g_sub [2, 1, 0] (lv' := [(0, vr E r0 0), (1, vi (gI S r0 0 10)), (2, vi v4)]) rfl ?_
        exact k_X0_mark_p1_0_b64 hC hZ hE hk0 _ _ _ h
    · replace h := (if_neg hc22).symm.trans h
      refine g_iconst hC (rfl : 20 + 1 = 21) (xdt tt_X0_mark 10 rfl) ?_
      cases h
      exact g_zret hC hE (Or.inl rfl) (xdt tt_X0_mark 11 rfl)
def f_X0_fetch_p1_0_b51 (r0 : Nat) : Nat → xSt → Int → Int → Option (xSt)
  | 0, _, _, _ => none
  | fuel + 1, S, x1, x2 =>
    if wr x1 = 0 then
      (some S)
    else
      (if wr 20 < wr x2 then
        (some S)
      else
        (bd2 (f_X0_canMark_p1_0 S r0) fun v6 S5 =>
        if wr v6 = 0 then
          ((f_X0_fetch_p1_0_b51 r0 fuel) S5 0 (x2 + 1))
        else
          (bd2 (f_X0_mark_p1_0 S5 r0) fun v10 S9 =>
          if wr v10 = 0 then
            ((f_X0_fetch_p1_0_b51 r0 fuel) S9 0 (x2 + 1))
          else
            ((f_X0_fetch_p1_0_b51 r0 fuel) S9 1 (x2 + 1)))))
def f_X0_fetch_p1_0 (S : xSt) (r0 : Nat) : Option (xSt) :=
  if ¬ wr (gI S r0 8 0) = 0 then
    (some S)
  else
    (ckP S r0 0 0 2 0 fun rg1 =>
    if wr (gI S r0 0 10) < wr (gI S rg1 0 10) then
      (if wr (gI S r0 0 16) ≤ 0 then
        (bd (f_X0_readWindow_p1_0 S r0) fun S3 =>
        f_X0_fetch_p1_0_b51 r0 (fu S3) S3 1 0)
      else
        (lt1 (wI S r0 0 16 ((gI S r0 0 16) - 1)) fun S16 =>
        some S16))
    else
      (some S))
set_option maxRecDepth 100000 in
set_option maxHeartbeats 4000000 in
theorem k_X0_fetch_p1_0_b51 {K : xCtx} {E : xE} {b : Nat} (hC : xOK K cX0_fetch RX0 3 (rmE 3 b)) (hZ : xZ K) {S' : xSt} (hE : xEnd K E none (YQv E S')) {r0 : Nat} (hk0 : xkd E r0 = 1) : ∀ (fuel : Nat) (S : xSt) (x1 : Int) (x2 : Int), f_X0_fetch_p1_0_b51 r0 fuel S x1 x2 = some S' → WG K E 51 [(0, vr E r0 0), (1, vi x1), (2, vi x2)] [] S := by
  intro fuel
  induction fuel with
  | zero => intro S x1 x2 h; cases h
  | succ fuel ih =>
    intro S x1 x2 h
    rw [f_X0_fetch_p1_0_b51] at h
    refine g_iload_n hC rfl 1 rfl (rfl : 51 + 1 = 52) (xdt tt_X0_fetch 27 rfl) ?_
    refine g_if_eq hC (show ((52 : Nat) : Int) + 35 = ((87 : Nat) : Int) by decide) (rfl : 52 + 3 = 55) (xdt tt_X0_fetch 28 rfl) (fun hc15 => ?_) (fun hc15 => ?_)
    · replace h := (if_pos hc15).symm.trans h
      cases h
      exact g_vret hC hE (xdt tt_X0_fetch 44 rfl)
    · replace h := (if_neg hc15).symm.trans h
      refine g_iload_n hC rfl 2 rfl (rfl : 55 + 1 = 56) (xdt tt_X0_fetch 29 rfl) ?_
      refine g_bipush hC (by decide) (rfl : 56 + 2 = 58) (xdt tt_X0_fetch 30 rfl) ?_
      refine g_icmp_gt hC (show ((58 : Nat) : Int) + 29 = ((87 : Nat) : Int) by decide) (rfl : 58 + 3 = 61) (xdt tt_X0_fetch 31 rfl) (fun hc14 => ?_) (fun hc14 => ?_)
      · replace h := (if_pos hc14).symm.trans h
        cases h
        exact g_vret hC hE (xdt tt_X0_fetch 44 rfl)
      · replace h := (if_neg hc14).symm.trans h
        refine g_aload_n hC rfl 0 rfl (rfl : 61 + 1 = 62) (xdt tt_X0_fetch 32 rfl) ?_
        obtain ⟨v6, S5, hc4, h⟩ := bd2_i h
        refine g_callVz hC hZ hk0 kclX0 ly1_0 m_X0_canMark q812 (Nat.le_of_ble_eq_true rfl) [] rfl (fun l => c_X0_canMark_p1_0 l hk0 hc4) rfl (Nat.le_of_ble_eq_true rfl) (rfl : 62 + 3 = 65) (xdt tt_X0_fetch 33 rfl) (fun hb7 => ?_)
        refine g_if_eq hC (show ((65 : Nat) : Int) + 14 = ((79 : Nat) : Int) by decide) (rfl : 65 + 3 = 68) (xdt tt_X0_fetch 34 rfl) (fun hc13 => ?_) (fun hc13 => ?_)
        · replace h := (if_pos hc13).symm.trans h
          refine g_iconst hC (rfl : 79 + 1 = 80) (xdt tt_X0_fetch 40 rfl) ?_
          refine g_istore_n hC rfl (by decide) (lv' := [(1, vi 0), (0, vr E r0 0), (2, vi x2)]) rfl (rfl : 80 + 1 = 81) (xdt tt_X0_fetch 41 rfl) ?_
          refine g_iinc hC 2 rfl (by decide) (lv' := [(2, vi (x2 + 1)), (1, vi 0), (0, vr E r0 0)]) rfl (rfl : 81 + 3 = 84) (xdt tt_X0_fetch 42 rfl) ?_
          refine g_goto hC (show ((84 : Nat) : Int) + (-33) = ((51 : Nat) : Int) by decide) (xdt tt_X0_fetch 43 rfl) ?_
          refine g_sub [2, 1, 0] (lv' := [(0, vr E r0 0), (1, vi 0), (2, vi (x2 + 1))]) rfl ?_
          exact ih _ _ _ h
        · replace h := (if_neg hc13).symm.trans h
          refine g_aload_n hC rfl 0 rfl (rfl : 68 + 1 = 69) (xdt tt_X0_fetch 35 rfl) ?_
          obtain ⟨v10, S9, hc8, h⟩ := bd2_i h
          refine g_callVz hC hZ hk0 kclX0 ly1_0 m_X0_mark q816 (Nat.le_of_ble_eq_true rfl) [] rfl (fun l => c_X0_mark_p1_0 l hk0 hc8) rfl (Nat.le_of_ble_eq_true rfl) (rfl : 69 + 3 = 72) (xdt tt_X0_fetch 36 rfl) (fun hb11 => ?_)
          refine g_if_eq hC (show ((72 : Nat) : Int) + 7 = ((79 : Nat) : Int) by decide) (rfl : 72 + 3 = 75) (xdt tt_X0_fetch 37 rfl) (fun hc12 => ?_) (fun hc12 => ?_)
          · replace h := (if_pos hc12).symm.trans h
            refine g_iconst hC (rfl : 79 + 1 = 80) (xdt tt_X0_fetch 40 rfl) ?_
            refine g_istore_n hC rfl (by decide) (lv' := [(1, vi 0), (0, vr E r0 0), (2, vi x2)]) rfl (rfl : 80 + 1 = 81) (xdt tt_X0_fetch 41 rfl) ?_
            refine g_iinc hC 2 rfl (by decide) (lv' := [(2, vi (x2 + 1)), (1, vi 0), (0, vr E r0 0)]) rfl (rfl : 81 + 3 = 84) (xdt tt_X0_fetch 42 rfl) ?_
            refine g_goto hC (show ((84 : Nat) : Int) + (-33) = ((51 : Nat) : Int) by decide) (xdt tt_X0_fetch 43 rfl) ?_
            refine g_sub [2, 1, 0] (lv' := [(0, vr E r0 0), (1, vi 0), (2, vi (x2 + 1))]) rfl ?_
            exact ih _ _ _ h
          · replace h := (if_neg hc12).symm.trans h
            refine g_iconst hC (rfl : 75 + 1 = 76) (xdt tt_X0_fetch 38 rfl) ?_
            refine g_goto hC (show ((76 : Nat) : Int) + 4 = ((80 : Nat) : Int) by decide) (xdt tt_X0_fetch 39 rfl) ?_
            refine g_istore_n hC rfl (by decide) (lv' := [(1, vi 1), (0, vr E r0 0), (2, vi x2)]) rfl (rfl : 80 + 1 = 81) (xdt tt_X0_fetch 41 rfl) ?_
            refine g_iinc hC 2 rfl (by decide) (lv' := [(2, vi (x2 + 1)), (1, vi 1), (0, vr E r0 0)]) rfl (rfl : 81 + 3 = 84) (xdt tt_X0_fetch 42 rfl) ?_
            refine g_goto hC (show ((84 : Nat) : Int) + (-33) = ((51 : Nat) : Int) by decide) (xdt tt_X0_fetch 43 rfl) ?_
            refine g_sub [2, 1, 0] (lv' := [(0, vr E r0 0), (1, vi 1), (2, vi (x2 + 1))]) rfl ?_
            exact ih _ _ _ h
set_option maxRecDepth 100000 in
set_option maxHeartbeats 4000000 in
theorem c_X0_fetch_p1_0 (l : Launch) {E : xE} {S S' : xSt} {r0 : Nat} (hk0 : xkd E r0 = 1) (h : f_X0_fetch_p1_0 S r0 = some S') : Met l yX0_fetch (xws yX0_fetch cX0_fetch 3 none) (rmD 3) (YPc E [vr E r0 0] S) (YQv E S') 0 0 (xA E) := by
  unfold f_X0_fetch_p1_0 at h
  refine met_v (by decide +kernel) (Nat.le_of_ble_eq_true rfl) (fun K hC hZ hE => ?_)
  have hC : xOK K cX0_fetch RX0 3 (rmE 3 0) := hC
  show WG K E 0 [(0, vr E r0 0)] [] S
  refine g_aload_n hC rfl 0 rfl (rfl : 0 + 1 = 1) (xdt tt_X0_fetch 0 rfl) ?_
  refine g_getP hC hk0 kclX0 ly1_0 4 (by decide) (rfl : r0 + 0 = r0) rfl q102 (rfl : 1 + 3 = 4) (xdt tt_X0_fetch 1 rfl) ?_
  refine g_getI hC hk0 kclX7 ly1_8 0 (by decide) rfl q147 (rfl : 4 + 3 = 7) (xdt tt_X0_fetch 2 rfl) ?_
  refine g_if_ne hC (show ((7 : Nat) : Int) + 17 = ((24 : Nat) : Int) by decide) (rfl : 7 + 3 = 10) (xdt tt_X0_fetch 3 rfl) (fun hc19 => ?_) (fun hc19 => ?_)
  · replace h := (if_pos hc19).symm.trans h
    cases h
    exact g_vret hC hE (xdt tt_X0_fetch 10 rfl)
  · replace h := (if_neg hc19).symm.trans h
    refine g_aload_n hC rfl 0 rfl (rfl : 10 + 1 = 11) (xdt tt_X0_fetch 4 rfl) ?_
    refine g_getI hC hk0 kclX0 ly1_0 10 (by decide) rfl q150 (rfl : 11 + 3 = 14) (xdt tt_X0_fetch 5 rfl) ?_
    refine g_aload_n hC rfl 0 rfl (rfl : 14 + 1 = 15) (xdt tt_X0_fetch 6 rfl) ?_
    obtain ⟨rg1, hrg1, grg1, h⟩ := ckP_i h
    refine g_getV hC hk0 kclX0 ly1_0 0 (by decide) rfl hrg1 grg1 (by decide) q142 (rfl : 15 + 3 = 18) (xdt tt_X0_fetch 7 rfl) (fun krg1 => ?_)
    refine g_getI hC krg1 kclX5 ly2_0 10 (by decide) rfl q714 (rfl : 18 + 3 = 21) (xdt tt_X0_fetch 8 rfl) ?_
    refine g_icmp_lt hC (show ((21 : Nat) : Int) + 4 = ((25 : Nat) : Int) by decide) (rfl : 21 + 3 = 24) (xdt tt_X0_fetch 9 rfl) (fun hc18 => ?_) (fun hc18 => ?_)
    · replace h := (if_pos hc18).symm.trans h
      refine g_aload_n hC rfl 0 rfl (rfl : 25 + 1 = 26) (xdt tt_X0_fetch 11 rfl) ?_
      refine g_getI hC hk0 kclX0 ly1_0 16 (by decide) rfl q156 (rfl : 26 + 3 = 29) (xdt tt_X0_fetch 12 rfl) ?_
      refine g_if_le hC (show ((29 : Nat) : Int) + 14 = ((43 : Nat) : Int) by decide) (rfl : 29 + 3 = 32) (xdt tt_X0_fetch 13 rfl) (fun hc17 => ?_) (fun hc17 => ?_)
      · replace h := (if_pos hc17).symm.trans h
        refine g_aload_n hC rfl 0 rfl (rfl : 43 + 1 = 44) (xdt tt_X0_fetch 21 rfl) ?_
        obtain ⟨S3, hc2, h⟩ := bd_i h
        refine g_callVv hC hZ hk0 kclX0 ly1_0 m_X0_readWindow q804 (Nat.le_of_ble_eq_true rfl) [] rfl (fun l => c_X0_readWindow_p1_0 l hk0 hc2) rfl (Nat.le_of_ble_eq_true rfl) (rfl : 44 + 3 = 47) (xdt tt_X0_fetch 22 rfl) ?_
        refine g_iconst hC (rfl : 47 + 1 = 48) (xdt tt_X0_fetch 23 rfl) ?_
        refine g_istore_n hC rfl (by decide) (lv' := [(1, vi 1), (0, vr E r0 0)]) rfl (rfl : 48 + 1 = 49) (xdt tt_X0_fetch 24 rfl) ?_
        refine g_iconst hC (rfl : 49 + 1 = 50) (xdt tt_X0_fetch 25 rfl) ?_
        refine g_istore_n hC rfl (by decide) (lv' := [(2, vi 0), (1, vi 1), (0, vr E r0 0)]) rfl (rfl : 50 + 1 = 51) (xdt tt_X0_fetch 26 rfl) ?_
        refine g_sub [2, 1, 0] (lv' := [(0, vr E r0 0), (1, vi 1), (2, vi 0)]) rfl ?_
        exact k_X0_fetch_p1_0_b51 hC hZ hE hk0 _ _ _ _ h
      · replace h := (if_neg hc17).symm.trans h
        refine g_aload_n hC rfl 0 rfl (rfl : 32 + 1 = 33) (xdt tt_X0_fetch 14 rfl) ?_
        refine g_dup hC rfl (rfl : 33 + 1 = 34) (xdt tt_X0_fetch 15 rfl) ?_
        refine g_getI hC hk0 kclX0 ly1_0 16 (by decide) rfl q156 (rfl : 34 + 3 = 37) (xdt tt_X0_fetch 16 rfl) ?_
        refine g_iconst hC (rfl : 37 + 1 = 38) (xdt tt_X0_fetch 17 rfl) ?_
        refine g_isub hC (rfl : 38 + 1 = 39) (xdt tt_X0_fetch 18 rfl) ?_
        obtain ⟨S16, hS16, h⟩ := lt1_i h
        refine g_putI hC hk0 kclX0 ly1_0 16 (by decide) rfl rfl rfl q156 hS16 (rfl : 39 + 3 = 42) (xdt tt_X0_fetch 19 rfl) ?_
        cases h
        exact g_vret hC hE (xdt tt_X0_fetch 20 rfl)
    · replace h := (if_neg hc18).symm.trans h
      cases h
      exact g_vret hC hE (xdt tt_X0_fetch 10 rfl)
def f_X0_passCycle_p1_0 (S : xSt) (r0 : Nat) : Option (xSt) :=
  lt1 (wI S r0 15 0 ((gI S r0 15 0) + 1)) fun S1 =>
  bd (f_X0_takeOps_p1_0 S1 r0) fun S3 =>
  bd (f_X0_decodeLanes_p1_0 S3 r0) fun S5 =>
  bd (f_X0_fetch_p1_0 S5 r0) fun S7 =>
  some S7
set_option maxRecDepth 100000 in
set_option maxHeartbeats 4000000 in
theorem c_X0_passCycle_p1_0 (l : Launch) {E : xE} {S S' : xSt} {r0 : Nat} (hk0 : xkd E r0 = 1) (h : f_X0_passCycle_p1_0 S r0 = some S') : Met l yX0_passCycle (xws yX0_passCycle cX0_passCycle 1 none) (rmD 5) (YPc E [vr E r0 0] S) (YQv E S') 0 0 (xA E) := by
  unfold f_X0_passCycle_p1_0 at h
  refine met_v (by decide +kernel) (Nat.le_of_ble_eq_true rfl) (fun K hC hZ hE => ?_)
  have hC : xOK K cX0_passCycle RX0 1 (rmE 5 0) := hC
  show WG K E 0 [(0, vr E r0 0)] [] S
  refine g_aload_n hC rfl 0 rfl (rfl : 0 + 1 = 1) (xdt tt_X0_passCycle 0 rfl) ?_
  refine g_getP hC hk0 kclX0 ly1_0 7 (by decide) (rfl : r0 + 0 = r0) rfl q112 (rfl : 1 + 3 = 4) (xdt tt_X0_passCycle 1 rfl) ?_
  refine g_getP hC hk0 kclX9 ly1_14 0 (by decide) (rfl : r0 + 0 = r0) rfl q689 (rfl : 4 + 3 = 7) (xdt tt_X0_passCycle 2 rfl) ?_
  refine g_iconst hC (rfl : 7 + 1 = 8) (xdt tt_X0_passCycle 3 rfl) ?_
  refine g_dup2 hC rfl rfl (rfl : 8 + 1 = 9) (xdt tt_X0_passCycle 4 rfl) ?_
  refine g_iald hC hk0 ly1_15 (by decide) (rfl : 9 + 1 = 10) (xdt tt_X0_passCycle 5 rfl) (k0 := 0) (by decide) ?_
  refine g_iconst hC (rfl : 10 + 1 = 11) (xdt tt_X0_passCycle 6 rfl) ?_
  refine g_iadd hC (rfl : 11 + 1 = 12) (xdt tt_X0_passCycle 7 rfl) ?_
  obtain ⟨S1, hS1, h⟩ := lt1_i h
  refine g_iast hC hk0 ly1_15 (by decide) (by decide) hS1 (rfl : 12 + 1 = 13) (xdt tt_X0_passCycle 8 rfl) ?_
  refine g_aload_n hC rfl 0 rfl (rfl : 13 + 1 = 14) (xdt tt_X0_passCycle 9 rfl) ?_
  obtain ⟨S3, hc2, h⟩ := bd_i h
  refine g_callVv hC hZ hk0 kclX0 ly1_0 m_X0_takeOps q690 (Nat.le_of_ble_eq_true rfl) [] rfl (fun l => c_X0_takeOps_p1_0 l hk0 hc2) rfl (Nat.le_of_ble_eq_true rfl) (rfl : 14 + 3 = 17) (xdt tt_X0_passCycle 10 rfl) ?_
  refine g_aload_n hC rfl 0 rfl (rfl : 17 + 1 = 18) (xdt tt_X0_passCycle 11 rfl) ?_
  obtain ⟨S5, hc4, h⟩ := bd_i h
  refine g_callVv hC hZ hk0 kclX0 ly1_0 m_X0_decodeLanes q695 (Nat.le_of_ble_eq_true rfl) [] rfl (fun l => c_X0_decodeLanes_p1_0 l hk0 hc4) rfl (Nat.le_of_ble_eq_true rfl) (rfl : 18 + 3 = 21) (xdt tt_X0_passCycle 12 rfl) ?_
  refine g_aload_n hC rfl 0 rfl (rfl : 21 + 1 = 22) (xdt tt_X0_passCycle 13 rfl) ?_
  obtain ⟨S7, hc6, h⟩ := bd_i h
  refine g_callVv hC hZ hk0 kclX0 ly1_0 m_X0_fetch q800 (Nat.le_of_ble_eq_true rfl) [] rfl (fun l => c_X0_fetch_p1_0 l hk0 hc6) rfl (Nat.le_of_ble_eq_true rfl) (rfl : 22 + 3 = 25) (xdt tt_X0_passCycle 14 rfl) ?_
  cases h
  exact g_vret hC hE (xdt tt_X0_passCycle 15 rfl)
def f_X0_decodeFor_p1_0_b12 (r0 : Nat) : Nat → xSt → Int → Int → Int → Option (Int × xSt)
  | 0, _, _, _, _ => none
  | fuel + 1, S, x1, x2, x3 =>
    if wr x1 ≤ wr x3 then
      (some (((gI S r0 15 1) - x2), S))
    else
      (bd (f_X0_passCycle_p1_0 S r0) fun S2 =>
      (f_X0_decodeFor_p1_0_b12 r0 fuel) S2 x1 x2 (x3 + 1))
def f_X0_decodeFor_p1_0 (S : xSt) (r0 : Nat) (a1 : Int) : Option (Int × xSt) :=
  f_X0_decodeFor_p1_0_b12 r0 (fu S) S a1 (gI S r0 15 1) 0
set_option maxRecDepth 100000 in
set_option maxHeartbeats 4000000 in
theorem k_X0_decodeFor_p1_0_b12 {K : xCtx} {E : xE} {b : Nat} (hC : xOK K cX0_decodeFor RX0 4 (rmE 6 b)) (hZ : xZ K) {v : Int} {S' : xSt} (hE : xEnd K E (some .int) (YQi E v S')) {r0 : Nat} (hk0 : xkd E r0 = 1) : ∀ (fuel : Nat) (S : xSt) (x1 : Int) (x2 : Int) (x3 : Int), f_X0_decodeFor_p1_0_b12 r0 fuel S x1 x2 x3 = some (v, S') → WG K E 12 [(0, vr E r0 0), (1, vi x1), (2, vi x2), (3, vi x3)] [] S := by
  intro fuel
  induction fuel with
  | zero => intro S x1 x2 x3 h; cases h
  | succ fuel ih =>
    intro S x1 x2 x3 h
    rw [f_X0_decodeFor_p1_0_b12] at h
    refine g_iload_n hC rfl 3 rfl (rfl : 12 + 1 = 13) (xdt tt_X0_decodeFor 8 rfl) ?_
    refine g_iload_n hC rfl 1 rfl (rfl : 13 + 1 = 14) (xdt tt_X0_decodeFor 9 rfl) ?_
    refine g_icmp_ge hC (show ((14 : Nat) : Int) + 13 = ((27 : Nat) : Int) by decide) (rfl : 14 + 3 = 17) (xdt tt_X0_decodeFor 10 rfl) (fun hc3 => ?_) (fun hc3 => ?_)
    · replace h := (if_pos hc3).symm.trans h
      refine g_aload_n hC rfl 0 rfl (rfl : 27 + 1 = 28) (xdt tt_X0_decodeFor 15 rfl) ?_
      refine g_getP hC hk0 kclX0 ly1_0 7 (by decide) (rfl : r0 + 0 = r0) rfl q112 (rfl : 28 + 3 = 31) (xdt tt_X0_decodeFor 16 rfl) ?_
      refine g_getP hC hk0 kclX9 ly1_14 0 (by decide) (rfl : r0 + 0 = r0) rfl q689 (rfl : 31 + 3 = 34) (xdt tt_X0_decodeFor 17 rfl) ?_
      refine g_iconst hC (rfl : 34 + 1 = 35) (xdt tt_X0_decodeFor 18 rfl) ?_
      refine g_iald hC hk0 ly1_15 (by decide) (rfl : 35 + 1 = 36) (xdt tt_X0_decodeFor 19 rfl) (k0 := 1) (by decide) ?_
      refine g_iload_n hC rfl 2 rfl (rfl : 36 + 1 = 37) (xdt tt_X0_decodeFor 20 rfl) ?_
      refine g_isub hC (rfl : 37 + 1 = 38) (xdt tt_X0_decodeFor 21 rfl) ?_
      cases h
      exact g_iret hC hE (xdt tt_X0_decodeFor 22 rfl)
    · replace h := (if_neg hc3).symm.trans h
      refine g_aload_n hC rfl 0 rfl (rfl : 17 + 1 = 18) (xdt tt_X0_decodeFor 11 rfl) ?_
      obtain ⟨S2, hc1, h⟩ := bd_i h
      refine g_callVv hC hZ hk0 kclX0 ly1_0 m_X0_passCycle q836 (Nat.le_of_ble_eq_true rfl) [] rfl (fun l => c_X0_passCycle_p1_0 l hk0 hc1) rfl (Nat.le_of_ble_eq_true rfl) (rfl : 18 + 3 = 21) (xdt tt_X0_decodeFor 12 rfl) ?_
      refine g_iinc hC 3 rfl (by decide) (lv' := [(3, vi (x3 + 1)), (0, vr E r0 0), (1, vi x1), (2, vi x2)]) rfl (rfl : 21 + 3 = 24) (xdt tt_X0_decodeFor 13 rfl) ?_
      refine g_goto hC (show ((24 : Nat) : Int) + (-12) = ((12 : Nat) : Int) by decide) (xdt tt_X0_decodeFor 14 rfl) ?_
      refine g_sub [1, 2, 3, 0] (lv' := [(0, vr E r0 0), (1, vi x1), (2, vi x2), (3, vi (x3 + 1))]) rfl ?_
      exact ih _ _ _ _ h
set_option maxRecDepth 100000 in
set_option maxHeartbeats 4000000 in
theorem c_X0_decodeFor_p1_0 (l : Launch) {E : xE} {S S' : xSt} {r0 : Nat} {a1 : Int} (hk0 : xkd E r0 = 1) {v : Int} (h : f_X0_decodeFor_p1_0 S r0 a1 = some (v, S')) : Met l yX0_decodeFor (xws yX0_decodeFor cX0_decodeFor 4 (some .int)) (rmD 6) (YPc E [vr E r0 0, vi a1] S) (YQi E v S') 0 0 (xA E) := by
  unfold f_X0_decodeFor_p1_0 at h
  refine met_i (by decide +kernel) (Nat.le_of_ble_eq_true rfl) (fun K hC hZ hE => ?_)
  have hC : xOK K cX0_decodeFor RX0 4 (rmE 6 0) := hC
  show WG K E 0 [(0, vr E r0 0), (1, vi a1)] [] S
  refine g_aload_n hC rfl 0 rfl (rfl : 0 + 1 = 1) (xdt tt_X0_decodeFor 0 rfl) ?_
  refine g_getP hC hk0 kclX0 ly1_0 7 (by decide) (rfl : r0 + 0 = r0) rfl q112 (rfl : 1 + 3 = 4) (xdt tt_X0_decodeFor 1 rfl) ?_
  refine g_getP hC hk0 kclX9 ly1_14 0 (by decide) (rfl : r0 + 0 = r0) rfl q689 (rfl : 4 + 3 = 7) (xdt tt_X0_decodeFor 2 rfl) ?_
  refine g_iconst hC (rfl : 7 + 1 = 8) (xdt tt_X0_decodeFor 3 rfl) ?_
  refine g_iald hC hk0 ly1_15 (by decide) (rfl : 8 + 1 = 9) (xdt tt_X0_decodeFor 4 rfl) (k0 := 1) (by decide) ?_
  refine g_istore_n hC rfl (by decide) (lv' := [(2, vi (gI S r0 15 1)), (0, vr E r0 0), (1, vi a1)]) rfl (rfl : 9 + 1 = 10) (xdt tt_X0_decodeFor 5 rfl) ?_
  refine g_iconst hC (rfl : 10 + 1 = 11) (xdt tt_X0_decodeFor 6 rfl) ?_
  refine g_istore_n hC rfl (by decide) (lv' := [(3, vi 0), (2, vi (gI S r0 15 1)), (0, vr E r0 0), (1, vi a1)]) rfl (rfl : 11 + 1 = 12) (xdt tt_X0_decodeFor 7 rfl) ?_
  refine g_sub [2, 3, 1, 0] (lv' := [(0, vr E r0 0), (1, vi a1), (2, vi (gI S r0 15 1)), (3, vi 0)]) rfl ?_
  exact k_X0_decodeFor_p1_0_b12 hC hZ hE hk0 _ _ _ _ _ h
def f_X11_run_p3_0 (S : xSt) (r0 : Nat) (a1 : Int) : Option (Int × xSt) :=
  if wr a1 < wr 1 then
    (none)
  else
    (if wr a1 ≤ wr 500 then
      (bd (f_X1_remember_p3_8_1_0 S r0 (r0 + 1)) fun S2 =>
      bd2 (f_X0_decodeFor_p1_0 S2 (r0 + 1) a1) fun v5 S4 =>
      some (v5, S4))
    else
      (none))
set_option maxRecDepth 100000 in
set_option maxHeartbeats 4000000 in
theorem c_X11_run_p3_0 (l : Launch) {E : xE} {S S' : xSt} {r0 : Nat} {a1 : Int} (hk0 : xkd E r0 = 3) (hA0 : xFam E r0) {v : Int} (h : f_X11_run_p3_0 S r0 a1 = some (v, S')) : Met l yX11_run (xws yX11_run cX11_run 2 (some .int)) (rmD 7) (YPc E [vr E r0 0, vi a1] S) (YQi E v S') 0 0 (xA E) := by
  unfold f_X11_run_p3_0 at h
  refine met_i (by decide +kernel) (Nat.le_of_ble_eq_true rfl) (fun K hC hZ hE => ?_)
  have hC : xOK K cX11_run RX11 2 (rmE 7 0) := hC
  show WG K E 0 [(0, vr E r0 0), (1, vi a1)] [] S
  refine g_iload_n hC rfl 1 rfl (rfl : 0 + 1 = 1) (xdt tt_X11_run 0 rfl) ?_
  refine g_iconst hC (rfl : 1 + 1 = 2) (xdt tt_X11_run 1 rfl) ?_
  refine g_icmp_lt hC (show ((2 : Nat) : Int) + 10 = ((12 : Nat) : Int) by decide) (rfl : 2 + 3 = 5) (xdt tt_X11_run 2 rfl) (fun hc7 => ?_) (fun hc7 => ?_)
  · replace h := (if_pos hc7).symm.trans h
    cases h
  · replace h := (if_neg hc7).symm.trans h
    refine g_iload_n hC rfl 1 rfl (rfl : 5 + 1 = 6) (xdt tt_X11_run 3 rfl) ?_
    refine g_sipush hC (by decide) (rfl : 6 + 3 = 9) (xdt tt_X11_run 4 rfl) ?_
    refine g_icmp_le hC (show ((9 : Nat) : Int) + 14 = ((23 : Nat) : Int) by decide) (rfl : 9 + 3 = 12) (xdt tt_X11_run 5 rfl) (fun hc6 => ?_) (fun hc6 => ?_)
    · replace h := (if_pos hc6).symm.trans h
      refine g_aload_n hC rfl 0 rfl (rfl : 23 + 1 = 24) (xdt tt_X11_run 11 rfl) ?_
      refine g_getP hC hk0 kclX11 ly3_0 10 (by decide) (rfl : r0 + 0 = r0) rfl q33 (rfl : 24 + 3 = 27) (xdt tt_X11_run 12 rfl) ?_
      refine g_aload_n hC rfl 0 rfl (rfl : 27 + 1 = 28) (xdt tt_X11_run 13 rfl) ?_
      refine g_getP hC hk0 kclX11 ly3_0 6 (by decide) (rfl : r0 + 1 = (r0 + 1)) rfl q27 (rfl : 28 + 3 = 31) (xdt tt_X11_run 14 rfl) ?_
      obtain ⟨S2, hc1, h⟩ := bd_i h
      refine g_callVv hC hZ hk0 kclX1 ly3_8 m_X1_remember q634 (Nat.le_of_ble_eq_true rfl) [vr E (r0 + 1) 0] rfl (fun l => c_X1_remember_p3_8_1_0 l hk0 hA0 (hA0 1 (by decide) (by decide)) hc1) rfl (Nat.le_of_ble_eq_true rfl) (rfl : 31 + 3 = 34) (xdt tt_X11_run 15 rfl) ?_
      refine g_aload_n hC rfl 0 rfl (rfl : 34 + 1 = 35) (xdt tt_X11_run 16 rfl) ?_
      refine g_getP hC hk0 kclX11 ly3_0 6 (by decide) (rfl : r0 + 1 = (r0 + 1)) rfl q27 (rfl : 35 + 3 = 38) (xdt tt_X11_run 17 rfl) ?_
      refine g_iload_n hC rfl 1 rfl (rfl : 38 + 1 = 39) (xdt tt_X11_run 18 rfl) ?_
      obtain ⟨v5, S4, hc3, h⟩ := bd2_i h
      refine g_callVi hC hZ (hA0 1 (by decide) (by decide)) kclX0 ly1_0 m_X0_decodeFor q832 (Nat.le_of_ble_eq_true rfl) [vi a1] rfl (fun l => c_X0_decodeFor_p1_0 l (hA0 1 (by decide) (by decide)) hc3) rfl (Nat.le_of_ble_eq_true rfl) (rfl : 39 + 3 = 42) (xdt tt_X11_run 19 rfl) ?_
      cases h
      exact g_iret hC hE (xdt tt_X11_run 20 rfl)
    · replace h := (if_neg hc6).symm.trans h
      cases h
def f_X11_runTo_p3_0_b35 (r0 : Nat) : Nat → xSt → Int → Int → Option (Int × xSt)
  | 0, _, _, _ => none
  | fuel + 1, S, x1, x2 =>
    if wr 500 ≤ wr x2 then
      (some (x2, S))
    else
      (if wr x1 ≤ wr (gI S (r0 + 1) 15 1) then
        (some (x2, S))
      else
        (bd (f_X0_passCycle_p1_0 S (r0 + 1)) fun S4 =>
        (f_X11_runTo_p3_0_b35 r0 fuel) S4 x1 (x2 + 1)))
def f_X11_runTo_p3_0 (S : xSt) (r0 : Nat) (a1 : Int) : Option (Int × xSt) :=
  if wr a1 < 0 then
    (none)
  else
    (if wr a1 ≤ wr 9999 then
      (bd (f_X1_remember_p3_8_1_0 S r0 (r0 + 1)) fun S2 =>
      f_X11_runTo_p3_0_b35 r0 (fu S2) S2 a1 0)
    else
      (none))
set_option maxRecDepth 100000 in
set_option maxHeartbeats 4000000 in
theorem k_X11_runTo_p3_0_b35 {K : xCtx} {E : xE} {b : Nat} (hC : xOK K cX11_runTo RX11 3 (rmE 6 b)) (hZ : xZ K) {v : Int} {S' : xSt} (hE : xEnd K E (some .int) (YQi E v S')) {r0 : Nat} (hk0 : xkd E r0 = 3) (hA0 : xFam E r0) : ∀ (fuel : Nat) (S : xSt) (x1 : Int) (x2 : Int), f_X11_runTo_p3_0_b35 r0 fuel S x1 x2 = some (v, S') → WG K E 35 [(0, vr E r0 0), (1, vi x1), (2, vi x2)] [] S := by
  intro fuel
  induction fuel with
  | zero => intro S x1 x2 h; cases h
  | succ fuel ih =>
    intro S x1 x2 h
    rw [f_X11_runTo_p3_0_b35] at h
    refine g_iload_n hC rfl 2 rfl (rfl : 35 + 1 = 36) (xdt tt_X11_runTo 17 rfl) ?_
    refine g_sipush hC (by decide) (rfl : 36 + 3 = 39) (xdt tt_X11_runTo 18 rfl) ?_
    refine g_icmp_ge hC (show ((39 : Nat) : Int) + 32 = ((71 : Nat) : Int) by decide) (rfl : 39 + 3 = 42) (xdt tt_X11_runTo 19 rfl) (fun hc6 => ?_) (fun hc6 => ?_)
    · replace h := (if_pos hc6).symm.trans h
      refine g_iload_n hC rfl 2 rfl (rfl : 71 + 1 = 72) (xdt tt_X11_runTo 33 rfl) ?_
      cases h
      exact g_iret hC hE (xdt tt_X11_runTo 34 rfl)
    · replace h := (if_neg hc6).symm.trans h
      refine g_aload_n hC rfl 0 rfl (rfl : 42 + 1 = 43) (xdt tt_X11_runTo 20 rfl) ?_
      refine g_getP hC hk0 kclX11 ly3_0 6 (by decide) (rfl : r0 + 1 = (r0 + 1)) rfl q27 (rfl : 43 + 3 = 46) (xdt tt_X11_runTo 21 rfl) ?_
      refine g_getP hC (hA0 1 (by decide) (by decide)) kclX0 ly1_0 7 (by decide) (rfl : (r0 + 1) + 0 = (r0 + 1)) rfl q683 (rfl : 46 + 3 = 49) (xdt tt_X11_runTo 22 rfl) ?_
      refine g_getP hC (hA0 1 (by decide) (by decide)) kclX9 ly1_14 0 (by decide) (rfl : (r0 + 1) + 0 = (r0 + 1)) rfl q684 (rfl : 49 + 3 = 52) (xdt tt_X11_runTo 23 rfl) ?_
      refine g_iconst hC (rfl : 52 + 1 = 53) (xdt tt_X11_runTo 24 rfl) ?_
      refine g_iald hC (hA0 1 (by decide) (by decide)) ly1_15 (by decide) (rfl : 53 + 1 = 54) (xdt tt_X11_runTo 25 rfl) (k0 := 1) (by decide) ?_
      refine g_iload_n hC rfl 1 rfl (rfl : 54 + 1 = 55) (xdt tt_X11_runTo 26 rfl) ?_
      refine g_icmp_ge hC (show ((55 : Nat) : Int) + 16 = ((71 : Nat) : Int) by decide) (rfl : 55 + 3 = 58) (xdt tt_X11_runTo 27 rfl) (fun hc5 => ?_) (fun hc5 => ?_)
      · replace h := (if_pos hc5).symm.trans h
        refine g_iload_n hC rfl 2 rfl (rfl : 71 + 1 = 72) (xdt tt_X11_runTo 33 rfl) ?_
        cases h
        exact g_iret hC hE (xdt tt_X11_runTo 34 rfl)
      · replace h := (if_neg hc5).symm.trans h
        refine g_aload_n hC rfl 0 rfl (rfl : 58 + 1 = 59) (xdt tt_X11_runTo 28 rfl) ?_
        refine g_getP hC hk0 kclX11 ly3_0 6 (by decide) (rfl : r0 + 1 = (r0 + 1)) rfl q27 (rfl : 59 + 3 = 62) (xdt tt_X11_runTo 29 rfl) ?_
        obtain ⟨S4, hc3, h⟩ := bd_i h
        refine g_callVv hC hZ (hA0 1 (by decide) (by decide)) kclX0 ly1_0 m_X0_passCycle q685 (Nat.le_of_ble_eq_true rfl) [] rfl (fun l => c_X0_passCycle_p1_0 l (hA0 1 (by decide) (by decide)) hc3) rfl (Nat.le_of_ble_eq_true rfl) (rfl : 62 + 3 = 65) (xdt tt_X11_runTo 30 rfl) ?_
        refine g_iinc hC 2 rfl (by decide) (lv' := [(2, vi (x2 + 1)), (0, vr E r0 0), (1, vi x1)]) rfl (rfl : 65 + 3 = 68) (xdt tt_X11_runTo 31 rfl) ?_
        refine g_goto hC (show ((68 : Nat) : Int) + (-33) = ((35 : Nat) : Int) by decide) (xdt tt_X11_runTo 32 rfl) ?_
        refine g_sub [1, 2, 0] (lv' := [(0, vr E r0 0), (1, vi x1), (2, vi (x2 + 1))]) rfl ?_
        exact ih _ _ _ h
set_option maxRecDepth 100000 in
set_option maxHeartbeats 4000000 in
theorem c_X11_runTo_p3_0 (l : Launch) {E : xE} {S S' : xSt} {r0 : Nat} {a1 : Int} (hk0 : xkd E r0 = 3) (hA0 : xFam E r0) {v : Int} (h : f_X11_runTo_p3_0 S r0 a1 = some (v, S')) : Met l yX11_runTo (xws yX11_runTo cX11_runTo 3 (some .int)) (rmD 6) (YPc E [vr E r0 0, vi a1] S) (YQi E v S') 0 0 (xA E) := by
  unfold f_X11_runTo_p3_0 at h
  refine met_i (by decide +kernel) (Nat.le_of_ble_eq_true rfl) (fun K hC hZ hE => ?_)
  have hC : xOK K cX11_runTo RX11 3 (rmE 6 0) := hC
  show WG K E 0 [(0, vr E r0 0), (1, vi a1)] [] S
  refine g_iload_n hC rfl 1 rfl (rfl : 0 + 1 = 1) (xdt tt_X11_runTo 0 rfl) ?_
  refine g_if_lt hC (show ((1 : Nat) : Int) + 10 = ((11 : Nat) : Int) by decide) (rfl : 1 + 3 = 4) (xdt tt_X11_runTo 1 rfl) (fun hc8 => ?_) (fun hc8 => ?_)
  · replace h := (if_pos hc8).symm.trans h
    cases h
  · replace h := (if_neg hc8).symm.trans h
    refine g_iload_n hC rfl 1 rfl (rfl : 4 + 1 = 5) (xdt tt_X11_runTo 2 rfl) ?_
    refine g_sipush hC (by decide) (rfl : 5 + 3 = 8) (xdt tt_X11_runTo 3 rfl) ?_
    refine g_icmp_le hC (show ((8 : Nat) : Int) + 14 = ((22 : Nat) : Int) by decide) (rfl : 8 + 3 = 11) (xdt tt_X11_runTo 4 rfl) (fun hc7 => ?_) (fun hc7 => ?_)
    · replace h := (if_pos hc7).symm.trans h
      refine g_aload_n hC rfl 0 rfl (rfl : 22 + 1 = 23) (xdt tt_X11_runTo 10 rfl) ?_
      refine g_getP hC hk0 kclX11 ly3_0 10 (by decide) (rfl : r0 + 0 = r0) rfl q33 (rfl : 23 + 3 = 26) (xdt tt_X11_runTo 11 rfl) ?_
      refine g_aload_n hC rfl 0 rfl (rfl : 26 + 1 = 27) (xdt tt_X11_runTo 12 rfl) ?_
      refine g_getP hC hk0 kclX11 ly3_0 6 (by decide) (rfl : r0 + 1 = (r0 + 1)) rfl q27 (rfl : 27 + 3 = 30) (xdt tt_X11_runTo 13 rfl) ?_
      obtain ⟨S2, hc1, h⟩ := bd_i h
      refine g_callVv hC hZ hk0 kclX1 ly3_8 m_X1_remember q634 (Nat.le_of_ble_eq_true rfl) [vr E (r0 + 1) 0] rfl (fun l => c_X1_remember_p3_8_1_0 l hk0 hA0 (hA0 1 (by decide) (by decide)) hc1) rfl (Nat.le_of_ble_eq_true rfl) (rfl : 30 + 3 = 33) (xdt tt_X11_runTo 14 rfl) ?_
      refine g_iconst hC (rfl : 33 + 1 = 34) (xdt tt_X11_runTo 15 rfl) ?_
      refine g_istore_n hC rfl (by decide) (lv' := [(2, vi 0), (0, vr E r0 0), (1, vi a1)]) rfl (rfl : 34 + 1 = 35) (xdt tt_X11_runTo 16 rfl) ?_
      refine g_sub [1, 2, 0] (lv' := [(0, vr E r0 0), (1, vi a1), (2, vi 0)]) rfl ?_
      exact k_X11_runTo_p3_0_b35 hC hZ hE hk0 hA0 _ _ _ _ h
    · replace h := (if_neg hc7).symm.trans h
      cases h
def f_X11_stall_p3_0 (S : xSt) (r0 : Nat) (a1 : Int) : Option (Int × xSt) :=
  if wr a1 < 0 then
    (none)
  else
    (if wr a1 ≤ wr 99 then
      (bd (f_X1_remember_p3_8_1_0 S r0 (r0 + 1)) fun S2 =>
      lt1 (wI S2 (r0 + 1) 0 17 a1) fun S3 =>
      some ((gI S2 (r0 + 1) 0 17), S3))
    else
      (none))
set_option maxRecDepth 100000 in
set_option maxHeartbeats 4000000 in
theorem c_X11_stall_p3_0 (l : Launch) {E : xE} {S S' : xSt} {r0 : Nat} {a1 : Int} (hk0 : xkd E r0 = 3) (hA0 : xFam E r0) {v : Int} (h : f_X11_stall_p3_0 S r0 a1 = some (v, S')) : Met l yX11_stall (xws yX11_stall cX11_stall 3 (some .int)) (rmD 6) (YPc E [vr E r0 0, vi a1] S) (YQi E v S') 0 0 (xA E) := by
  unfold f_X11_stall_p3_0 at h
  refine met_i (by decide +kernel) (Nat.le_of_ble_eq_true rfl) (fun K hC hZ hE => ?_)
  have hC : xOK K cX11_stall RX11 3 (rmE 6 0) := hC
  show WG K E 0 [(0, vr E r0 0), (1, vi a1)] [] S
  refine g_iload_n hC rfl 1 rfl (rfl : 0 + 1 = 1) (xdt tt_X11_stall 0 rfl) ?_
  refine g_if_lt hC (show ((1 : Nat) : Int) + 9 = ((10 : Nat) : Int) by decide) (rfl : 1 + 3 = 4) (xdt tt_X11_stall 1 rfl) (fun hc5 => ?_) (fun hc5 => ?_)
  · replace h := (if_pos hc5).symm.trans h
    cases h
  · replace h := (if_neg hc5).symm.trans h
    refine g_iload_n hC rfl 1 rfl (rfl : 4 + 1 = 5) (xdt tt_X11_stall 2 rfl) ?_
    refine g_bipush hC (by decide) (rfl : 5 + 2 = 7) (xdt tt_X11_stall 3 rfl) ?_
    refine g_icmp_le hC (show ((7 : Nat) : Int) + 14 = ((21 : Nat) : Int) by decide) (rfl : 7 + 3 = 10) (xdt tt_X11_stall 4 rfl) (fun hc4 => ?_) (fun hc4 => ?_)
    · replace h := (if_pos hc4).symm.trans h
      refine g_aload_n hC rfl 0 rfl (rfl : 21 + 1 = 22) (xdt tt_X11_stall 10 rfl) ?_
      refine g_getP hC hk0 kclX11 ly3_0 10 (by decide) (rfl : r0 + 0 = r0) rfl q33 (rfl : 22 + 3 = 25) (xdt tt_X11_stall 11 rfl) ?_
      refine g_aload_n hC rfl 0 rfl (rfl : 25 + 1 = 26) (xdt tt_X11_stall 12 rfl) ?_
      refine g_getP hC hk0 kclX11 ly3_0 6 (by decide) (rfl : r0 + 1 = (r0 + 1)) rfl q27 (rfl : 26 + 3 = 29) (xdt tt_X11_stall 13 rfl) ?_
      obtain ⟨S2, hc1, h⟩ := bd_i h
      refine g_callVv hC hZ hk0 kclX1 ly3_8 m_X1_remember q634 (Nat.le_of_ble_eq_true rfl) [vr E (r0 + 1) 0] rfl (fun l => c_X1_remember_p3_8_1_0 l hk0 hA0 (hA0 1 (by decide) (by decide)) hc1) rfl (Nat.le_of_ble_eq_true rfl) (rfl : 29 + 3 = 32) (xdt tt_X11_stall 14 rfl) ?_
      refine g_aload_n hC rfl 0 rfl (rfl : 32 + 1 = 33) (xdt tt_X11_stall 15 rfl) ?_
      refine g_getP hC hk0 kclX11 ly3_0 6 (by decide) (rfl : r0 + 1 = (r0 + 1)) rfl q27 (rfl : 33 + 3 = 36) (xdt tt_X11_stall 16 rfl) ?_
      refine g_getI hC (hA0 1 (by decide) (by decide)) kclX0 ly1_0 17 (by decide) rfl q633 (rfl : 36 + 3 = 39) (xdt tt_X11_stall 17 rfl) ?_
      refine g_istore_n hC rfl (by decide) (lv' := [(2, vi (gI S2 (r0 + 1) 0 17)), (0, vr E r0 0), (1, vi a1)]) rfl (rfl : 39 + 1 = 40) (xdt tt_X11_stall 18 rfl) ?_
      refine g_aload_n hC rfl 1 rfl (rfl : 40 + 1 = 41) (xdt tt_X11_stall 19 rfl) ?_
      refine g_getP hC hk0 kclX11 ly3_0 6 (by decide) (rfl : r0 + 1 = (r0 + 1)) rfl q27 (rfl : 41 + 3 = 44) (xdt tt_X11_stall 20 rfl) ?_
      refine g_iload_n hC rfl 2 rfl (rfl : 44 + 1 = 45) (xdt tt_X11_stall 21 rfl) ?_
      obtain ⟨S3, hS3, h⟩ := lt1_i h
      refine g_putI hC (hA0 1 (by decide) (by decide)) kclX0 ly1_0 17 (by decide) rfl rfl rfl q633 hS3 (rfl : 45 + 3 = 48) (xdt tt_X11_stall 22 rfl) ?_
      refine g_iload_n hC rfl 0 rfl (rfl : 48 + 1 = 49) (xdt tt_X11_stall 23 rfl) ?_
      cases h
      exact g_iret hC hE (xdt tt_X11_stall 24 rfl)
    · replace h := (if_neg hc4).symm.trans h
      cases h
def f_X11_set_p3_0_b29 (r0 : Nat) (S : xSt) (x2 : Int) (x3 : Int) : Option (Int × xSt) :=
  bd2 (f_X11_isAllowed S x3 x2) fun v3 S2 =>
  if ¬ wr v3 = 0 then
    (bd (f_X1_remember_p3_8_1_0 S2 r0 (r0 + 1)) fun S6 =>
    ckI x3 6 <|
    ckI x3 6 <|
    lt1 (wI S6 (r0 + 1) 1 (wr x3).toNat x2) fun S9 =>
    some ((gI S6 (r0 + 1) 1 (wr x3).toNat), S9))
  else
    (none)
def f_X11_set_p3_0 (S : xSt) (r0 : Nat) (a1 : Int) (a2 : Int) : Option (Int × xSt) :=
  if wr (a1 - 2) = 0 then
    (f_X11_set_p3_0_b29 r0 S a2 (a1 - 2))
  else
    (if wr (a1 - 2) = wr 4 then
      (f_X11_set_p3_0_b29 r0 S a2 (a1 - 2))
    else
      (if wr (a1 - 2) = wr 5 then
        (f_X11_set_p3_0_b29 r0 S a2 (a1 - 2))
      else
        (none)))
set_option maxRecDepth 100000 in
set_option maxHeartbeats 4000000 in
theorem k_X11_set_p3_0_b29 {K : xCtx} {E : xE} {b : Nat} (hC : xOK K cX11_set RX11 5 (rmE 6 b)) (hZ : xZ K) {v : Int} {S' : xSt} (hE : xEnd K E (some .int) (YQi E v S')) {r0 : Nat} (hk0 : xkd E r0 = 3) (hA0 : xFam E r0) : ∀ (S : xSt) (x2 : Int) (x3 : Int), f_X11_set_p3_0_b29 r0 S x2 x3 = some (v, S') → WG K E 29 [(0, vr E r0 0), (2, vi x2), (3, vi x3)] [] S := by
  intro S x2 x3 h
  unfold f_X11_set_p3_0_b29 at h
  refine g_iload_n hC rfl 2 rfl (rfl : 29 + 1 = 30) (xdt tt_X11_set 17 rfl) ?_
  refine g_iload_n hC rfl 1 rfl (rfl : 30 + 1 = 31) (xdt tt_X11_set 18 rfl) ?_
  obtain ⟨v3, S2, hc1, h⟩ := bd2_i h
  refine g_callSz hC hZ m_X11_isAllowed q678 (Nat.le_of_ble_eq_true rfl) [vi x3, vi x2] rfl (fun l => c_X11_isAllowed l hc1) rfl (Nat.le_of_ble_eq_true rfl) (rfl : 31 + 3 = 34) (xdt tt_X11_set 19 rfl) (fun hb4 => ?_)
  refine g_if_ne hC (show ((34 : Nat) : Int) + 14 = ((48 : Nat) : Int) by decide) (rfl : 34 + 3 = 37) (xdt tt_X11_set 20 rfl) (fun hc10 => ?_) (fun hc10 => ?_)
  · replace h := (if_pos hc10).symm.trans h
    refine g_aload_n hC rfl 0 rfl (rfl : 48 + 1 = 49) (xdt tt_X11_set 26 rfl) ?_
    refine g_getP hC hk0 kclX11 ly3_0 10 (by decide) (rfl : r0 + 0 = r0) rfl q33 (rfl : 49 + 3 = 52) (xdt tt_X11_set 27 rfl) ?_
    refine g_aload_n hC rfl 0 rfl (rfl : 52 + 1 = 53) (xdt tt_X11_set 28 rfl) ?_
    refine g_getP hC hk0 kclX11 ly3_0 6 (by decide) (rfl : r0 + 1 = (r0 + 1)) rfl q27 (rfl : 53 + 3 = 56) (xdt tt_X11_set 29 rfl) ?_
    obtain ⟨S6, hc5, h⟩ := bd_i h
    refine g_callVv hC hZ hk0 kclX1 ly3_8 m_X1_remember q634 (Nat.le_of_ble_eq_true rfl) [vr E (r0 + 1) 0] rfl (fun l => c_X1_remember_p3_8_1_0 l hk0 hA0 (hA0 1 (by decide) (by decide)) hc5) rfl (Nat.le_of_ble_eq_true rfl) (rfl : 56 + 3 = 59) (xdt tt_X11_set 30 rfl) ?_
    refine g_aload_n hC rfl 0 rfl (rfl : 59 + 1 = 60) (xdt tt_X11_set 31 rfl) ?_
    refine g_getP hC hk0 kclX11 ly3_0 6 (by decide) (rfl : r0 + 1 = (r0 + 1)) rfl q27 (rfl : 60 + 3 = 63) (xdt tt_X11_set 32 rfl) ?_
    refine g_getP hC (hA0 1 (by decide) (by decide)) kclX0 ly1_0 1 (by decide) (rfl : (r0 + 1) + 0 = (r0 + 1)) rfl q677 (rfl : 63 + 3 = 66) (xdt tt_X11_set 33 rfl) ?_
    refine g_iload_n hC rfl 2 rfl (rfl : 66 + 1 = 67) (xdt tt_X11_set 34 rfl) ?_
    obtain ⟨hi7, h⟩ := ckI_i h
    refine g_iald hC (hA0 1 (by decide) (by decide)) ly1_1 hi7 (rfl : 67 + 1 = 68) (xdt tt_X11_set 35 rfl) (k0 := (wr x3).toNat) rfl ?_
    refine g_istore hC (by decide) (lv' := [(4, vi (gI S6 (r0 + 1) 1 (wr x3).toNat)), (0, vr E r0 0), (2, vi x2), (3, vi x3)]) rfl (rfl : 68 + 2 = 70) (xdt tt_X11_set 36 rfl) ?_
    refine g_aload_n hC rfl 1 rfl (rfl : 70 + 1 = 71) (xdt tt_X11_set 37 rfl) ?_
    refine g_getP hC hk0 kclX11 ly3_0 6 (by decide) (rfl : r0 + 1 = (r0 + 1)) rfl q27 (rfl : 71 + 3 = 74) (xdt tt_X11_set 38 rfl) ?_
    refine g_getP hC (hA0 1 (by decide) (by decide)) kclX0 ly1_0 1 (by decide) (rfl : (r0 + 1) + 0 = (r0 + 1)) rfl q677 (rfl : 74 + 3 = 77) (xdt tt_X11_set 39 rfl) ?_
    refine g_iload_n hC rfl 3 rfl (rfl : 77 + 1 = 78) (xdt tt_X11_set 40 rfl) ?_
    refine g_iload_n hC rfl 2 rfl (rfl : 78 + 1 = 79) (xdt tt_X11_set 41 rfl) ?_
    obtain ⟨hi8, h⟩ := ckI_i h
    obtain ⟨S9, hS9, h⟩ := lt1_i h
    refine g_iast hC (hA0 1 (by decide) (by decide)) ly1_1 hi8 rfl hS9 (rfl : 79 + 1 = 80) (xdt tt_X11_set 42 rfl) ?_
    refine g_iload hC 0 rfl (rfl : 80 + 2 = 82) (xdt tt_X11_set 43 rfl) ?_
    cases h
    exact g_iret hC hE (xdt tt_X11_set 44 rfl)
  · replace h := (if_neg hc10).symm.trans h
    cases h
set_option maxRecDepth 100000 in
set_option maxHeartbeats 4000000 in
theorem c_X11_set_p3_0 (l : Launch) {E : xE} {S S' : xSt} {r0 : Nat} {a1 : Int} {a2 : Int} (hk0 : xkd E r0 = 3) (hA0 : xFam E r0) {v : Int} (h : f_X11_set_p3_0 S r0 a1 a2 = some (v, S')) : Met l yX11_set (xws yX11_set cX11_set 5 (some .int)) (rmD 6) (YPc E [vr E r0 0, vi a1, vi a2] S) (YQi E v S') 0 0 (xA E) := by
  unfold f_X11_set_p3_0 at h
  refine met_i (by decide +kernel) (Nat.le_of_ble_eq_true rfl) (fun K hC hZ hE => ?_)
  have hC : xOK K cX11_set RX11 5 (rmE 6 0) := hC
  show WG K E 0 [(0, vr E r0 0), (1, vi a1), (2, vi a2)] [] S
  refine g_iload_n hC rfl 1 rfl (rfl : 0 + 1 = 1) (xdt tt_X11_set 0 rfl) ?_
  refine g_iconst hC (rfl : 1 + 1 = 2) (xdt tt_X11_set 1 rfl) ?_
  refine g_isub hC (rfl : 2 + 1 = 3) (xdt tt_X11_set 2 rfl) ?_
  refine g_istore_n hC rfl (by decide) (lv' := [(3, vi (a1 - 2)), (0, vr E r0 0), (1, vi a1), (2, vi a2)]) rfl (rfl : 3 + 1 = 4) (xdt tt_X11_set 3 rfl) ?_
  refine g_iload_n hC rfl 0 rfl (rfl : 4 + 1 = 5) (xdt tt_X11_set 4 rfl) ?_
  refine g_if_eq hC (show ((5 : Nat) : Int) + 24 = ((29 : Nat) : Int) by decide) (rfl : 5 + 3 = 8) (xdt tt_X11_set 5 rfl) (fun hc13 => ?_) (fun hc13 => ?_)
  · replace h := (if_pos hc13).symm.trans h
    refine g_sub [1, 3, 0] (lv' := [(0, vr E r0 0), (2, vi a2), (3, vi (a1 - 2))]) rfl ?_
    exact k_X11_set_p3_0_b29 hC hZ hE hk0 hA0 _ _ _ h
  · replace h := (if_neg hc13).symm.trans h
    refine g_iload_n hC rfl 0 rfl (rfl : 8 + 1 = 9) (xdt tt_X11_set 6 rfl) ?_
    refine g_iconst hC (rfl : 9 + 1 = 10) (xdt tt_X11_set 7 rfl) ?_
    refine g_icmp_eq hC (show ((10 : Nat) : Int) + 19 = ((29 : Nat) : Int) by decide) (rfl : 10 + 3 = 13) (xdt tt_X11_set 8 rfl) (fun hc12 => ?_) (fun hc12 => ?_)
    · replace h := (if_pos hc12).symm.trans h
      refine g_sub [1, 3, 0] (lv' := [(0, vr E r0 0), (2, vi a2), (3, vi (a1 - 2))]) rfl ?_
      exact k_X11_set_p3_0_b29 hC hZ hE hk0 hA0 _ _ _ h
    · replace h := (if_neg hc12).symm.trans h
      refine g_iload_n hC rfl 0 rfl (rfl : 13 + 1 = 14) (xdt tt_X11_set 9 rfl) ?_
      refine g_iconst hC (rfl : 14 + 1 = 15) (xdt tt_X11_set 10 rfl) ?_
      refine g_icmp_eq hC (show ((15 : Nat) : Int) + 14 = ((29 : Nat) : Int) by decide) (rfl : 15 + 3 = 18) (xdt tt_X11_set 11 rfl) (fun hc11 => ?_) (fun hc11 => ?_)
      · replace h := (if_pos hc11).symm.trans h
        refine g_sub [1, 3, 0] (lv' := [(0, vr E r0 0), (2, vi a2), (3, vi (a1 - 2))]) rfl ?_
        exact k_X11_set_p3_0_b29 hC hZ hE hk0 hA0 _ _ _ h
      · replace h := (if_neg hc11).symm.trans h
        cases h
def f_X1_takeBack_p3_8_1_0 (S : xSt) (r0 : Nat) (r1 : Nat) : Option (xSt) :=
  if wr (gI S r0 8 2) ≤ 0 then
    (some S)
  else
    (if wr (Int.tmod (wr (((gI S r0 8 1) + (gI S r0 8 2)) - 1)) (wr 6)) < 0 then
      (some S)
    else
      (if wr (Int.tmod (wr (((gI S r0 8 1) + (gI S r0 8 2)) - 1)) (wr 6)) < wr 6 then
        (ckI (Int.tmod (wr (((gI S r0 8 1) + (gI S r0 8 2)) - 1)) (wr 6)) 6 <|
        bd (f_X0_copyFrom_p1_0_1_0 S r1 (r0 + (4 + (wr (Int.tmod (wr (((gI S r0 8 1) + (gI S r0 8 2)) - 1)) (wr 6))).toNat))) fun S3 =>
        lt1 (wI S3 r0 8 2 ((gI S3 r0 8 2) - 1)) fun S4 =>
        some S4)
      else
        (some S)))
set_option maxRecDepth 100000 in
set_option maxHeartbeats 4000000 in
theorem c_X1_takeBack_p3_8_1_0 (l : Launch) {E : xE} {S S' : xSt} {r0 : Nat} {r1 : Nat} (hk0 : xkd E r0 = 3) (hA0 : xFam E r0) (hk1 : xkd E r1 = 1) (h : f_X1_takeBack_p3_8_1_0 S r0 r1 = some S') : Met l yX1_takeBack (xws yX1_takeBack cX1_takeBack 3 none) (rmD 5) (YPc E [vr E r0 8, vr E r1 0] S) (YQv E S') 0 0 (xA E) := by
  unfold f_X1_takeBack_p3_8_1_0 at h
  refine met_v (by decide +kernel) (Nat.le_of_ble_eq_true rfl) (fun K hC hZ hE => ?_)
  have hC : xOK K cX1_takeBack RX1 3 (rmE 5 0) := hC
  show WG K E 0 [(0, vr E r0 8), (1, vr E r1 0)] [] S
  refine g_aload_n hC rfl 0 rfl (rfl : 0 + 1 = 1) (xdt tt_X1_takeBack 0 rfl) ?_
  refine g_getI hC hk0 kclX1 ly3_8 1 (by decide) rfl q638 (rfl : 1 + 3 = 4) (xdt tt_X1_takeBack 1 rfl) ?_
  refine g_aload_n hC rfl 0 rfl (rfl : 4 + 1 = 5) (xdt tt_X1_takeBack 2 rfl) ?_
  refine g_getI hC hk0 kclX1 ly3_8 2 (by decide) rfl q623 (rfl : 5 + 3 = 8) (xdt tt_X1_takeBack 3 rfl) ?_
  refine g_iadd hC (rfl : 8 + 1 = 9) (xdt tt_X1_takeBack 4 rfl) ?_
  refine g_iconst hC (rfl : 9 + 1 = 10) (xdt tt_X1_takeBack 5 rfl) ?_
  refine g_isub hC (rfl : 10 + 1 = 11) (xdt tt_X1_takeBack 6 rfl) ?_
  refine g_bipush hC (by decide) (rfl : 11 + 2 = 13) (xdt tt_X1_takeBack 7 rfl) ?_
  refine g_irem hC (by decide) (rfl : 13 + 1 = 14) (xdt tt_X1_takeBack 8 rfl) ?_
  refine g_istore_n hC rfl (by decide) (lv' := [(2, vi (Int.tmod (wr (((gI S r0 8 1) + (gI S r0 8 2)) - 1)) (wr 6))), (0, vr E r0 8), (1, vr E r1 0)]) rfl (rfl : 14 + 1 = 15) (xdt tt_X1_takeBack 9 rfl) ?_
  refine g_aload_n hC rfl 1 rfl (rfl : 15 + 1 = 16) (xdt tt_X1_takeBack 10 rfl) ?_
  refine g_getI hC hk0 kclX1 ly3_8 2 (by decide) rfl q623 (rfl : 16 + 3 = 19) (xdt tt_X1_takeBack 11 rfl) ?_
  refine g_if_le hC (show ((19 : Nat) : Int) + 16 = ((35 : Nat) : Int) by decide) (rfl : 19 + 3 = 22) (xdt tt_X1_takeBack 12 rfl) (fun hc7 => ?_) (fun hc7 => ?_)
  · replace h := (if_pos hc7).symm.trans h
    cases h
    exact g_vret hC hE (xdt tt_X1_takeBack 20 rfl)
  · replace h := (if_neg hc7).symm.trans h
    refine g_iload_n hC rfl 0 rfl (rfl : 22 + 1 = 23) (xdt tt_X1_takeBack 13 rfl) ?_
    refine g_if_lt hC (show ((23 : Nat) : Int) + 12 = ((35 : Nat) : Int) by decide) (rfl : 23 + 3 = 26) (xdt tt_X1_takeBack 14 rfl) (fun hc6 => ?_) (fun hc6 => ?_)
    · replace h := (if_pos hc6).symm.trans h
      cases h
      exact g_vret hC hE (xdt tt_X1_takeBack 20 rfl)
    · replace h := (if_neg hc6).symm.trans h
      refine g_iload_n hC rfl 0 rfl (rfl : 26 + 1 = 27) (xdt tt_X1_takeBack 15 rfl) ?_
      refine g_aload_n hC rfl 1 rfl (rfl : 27 + 1 = 28) (xdt tt_X1_takeBack 16 rfl) ?_
      refine g_getP hC hk0 kclX1 ly3_8 0 (by decide) (rfl : r0 + 0 = r0) rfl q186 (rfl : 28 + 3 = 31) (xdt tt_X1_takeBack 17 rfl) ?_
      refine g_alenR hC hk0 ly3_9 (z := 6) (by decide) (rfl : 31 + 1 = 32) (xdt tt_X1_takeBack 18 rfl) ?_
      refine g_icmp_lt hC (show ((32 : Nat) : Int) + 4 = ((36 : Nat) : Int) by decide) (rfl : 32 + 3 = 35) (xdt tt_X1_takeBack 19 rfl) (fun hc5 => ?_) (fun hc5 => ?_)
      · replace h := (if_pos hc5).symm.trans h
        refine g_aload_n hC rfl 2 rfl (rfl : 36 + 1 = 37) (xdt tt_X1_takeBack 21 rfl) ?_
        refine g_aload_n hC rfl 1 rfl (rfl : 37 + 1 = 38) (xdt tt_X1_takeBack 22 rfl) ?_
        refine g_getP hC hk0 kclX1 ly3_8 0 (by decide) (rfl : r0 + 0 = r0) rfl q186 (rfl : 38 + 3 = 41) (xdt tt_X1_takeBack 23 rfl) ?_
        refine g_iload_n hC rfl 0 rfl (rfl : 41 + 1 = 42) (xdt tt_X1_takeBack 24 rfl) ?_
        obtain ⟨hi1, h⟩ := ckI_i h
        refine g_aald hC hk0 ly3_9 rfl hi1 (xhist hi1) (rfl : _ = (r0 + (4 + (wr (Int.tmod (wr (((gI S r0 8 1) + (gI S r0 8 2)) - 1)) (wr 6))).toNat))) (rfl : 42 + 1 = 43) (xdt tt_X1_takeBack 25 rfl) ?_
        obtain ⟨S3, hc2, h⟩ := bd_i h
        refine g_callVv hC hZ hk1 kclX0 ly1_0 m_X0_copyFrom q639 (Nat.le_of_ble_eq_true rfl) [vr E (r0 + (4 + (wr (Int.tmod (wr (((gI S r0 8 1) + (gI S r0 8 2)) - 1)) (wr 6))).toNat)) 0] rfl (fun l => c_X0_copyFrom_p1_0_1_0 l hk1 (hA0 (4 + (wr (Int.tmod (wr (((gI S r0 8 1) + (gI S r0 8 2)) - 1)) (wr 6))).toNat) (by omega) (by omega)) hc2) rfl (Nat.le_of_ble_eq_true rfl) (rfl : 43 + 3 = 46) (xdt tt_X1_takeBack 26 rfl) ?_
        refine g_aload_n hC rfl 1 rfl (rfl : 46 + 1 = 47) (xdt tt_X1_takeBack 27 rfl) ?_
        refine g_dup hC rfl (rfl : 47 + 1 = 48) (xdt tt_X1_takeBack 28 rfl) ?_
        refine g_getI hC hk0 kclX1 ly3_8 2 (by decide) rfl q623 (rfl : 48 + 3 = 51) (xdt tt_X1_takeBack 29 rfl) ?_
        refine g_iconst hC (rfl : 51 + 1 = 52) (xdt tt_X1_takeBack 30 rfl) ?_
        refine g_isub hC (rfl : 52 + 1 = 53) (xdt tt_X1_takeBack 31 rfl) ?_
        obtain ⟨S4, hS4, h⟩ := lt1_i h
        refine g_putI hC hk0 kclX1 ly3_8 2 (by decide) rfl rfl rfl q623 hS4 (rfl : 53 + 3 = 56) (xdt tt_X1_takeBack 32 rfl) ?_
        cases h
        exact g_vret hC hE (xdt tt_X1_takeBack 33 rfl)
      · replace h := (if_neg hc5).symm.trans h
        cases h
        exact g_vret hC hE (xdt tt_X1_takeBack 20 rfl)
def f_X11_undo_p3_0 (S : xSt) (r0 : Nat) : Option (Int × xSt) :=
  if 0 < wr (gI S r0 8 2) then
    (bd (f_X1_takeBack_p3_8_1_0 S r0 (r0 + 1)) fun S2 =>
    some ((gI S2 r0 8 2), S2))
  else
    (none)
set_option maxRecDepth 100000 in
set_option maxHeartbeats 4000000 in
theorem c_X11_undo_p3_0 (l : Launch) {E : xE} {S S' : xSt} {r0 : Nat} (hk0 : xkd E r0 = 3) (hA0 : xFam E r0) {v : Int} (h : f_X11_undo_p3_0 S r0 = some (v, S')) : Met l yX11_undo (xws yX11_undo cX11_undo 1 (some .int)) (rmD 6) (YPc E [vr E r0 0] S) (YQi E v S') 0 0 (xA E) := by
  unfold f_X11_undo_p3_0 at h
  refine met_i (by decide +kernel) (Nat.le_of_ble_eq_true rfl) (fun K hC hZ hE => ?_)
  have hC : xOK K cX11_undo RX11 1 (rmE 6 0) := hC
  show WG K E 0 [(0, vr E r0 0)] [] S
  refine g_aload_n hC rfl 0 rfl (rfl : 0 + 1 = 1) (xdt tt_X11_undo 0 rfl) ?_
  refine g_getP hC hk0 kclX11 ly3_0 10 (by decide) (rfl : r0 + 0 = r0) rfl q33 (rfl : 1 + 3 = 4) (xdt tt_X11_undo 1 rfl) ?_
  refine g_getI hC hk0 kclX1 ly3_8 2 (by decide) rfl q849 (rfl : 4 + 3 = 7) (xdt tt_X11_undo 2 rfl) ?_
  refine g_if_gt hC (show ((7 : Nat) : Int) + 14 = ((21 : Nat) : Int) by decide) (rfl : 7 + 3 = 10) (xdt tt_X11_undo 3 rfl) (fun hc3 => ?_) (fun hc3 => ?_)
  · replace h := (if_pos hc3).symm.trans h
    refine g_aload_n hC rfl 0 rfl (rfl : 21 + 1 = 22) (xdt tt_X11_undo 9 rfl) ?_
    refine g_getP hC hk0 kclX11 ly3_0 10 (by decide) (rfl : r0 + 0 = r0) rfl q33 (rfl : 22 + 3 = 25) (xdt tt_X11_undo 10 rfl) ?_
    refine g_aload_n hC rfl 0 rfl (rfl : 25 + 1 = 26) (xdt tt_X11_undo 11 rfl) ?_
    refine g_getP hC hk0 kclX11 ly3_0 6 (by decide) (rfl : r0 + 1 = (r0 + 1)) rfl q27 (rfl : 26 + 3 = 29) (xdt tt_X11_undo 12 rfl) ?_
    obtain ⟨S2, hc1, h⟩ := bd_i h
    refine g_callVv hC hZ hk0 kclX1 ly3_8 m_X1_takeBack q941 (Nat.le_of_ble_eq_true rfl) [vr E (r0 + 1) 0] rfl (fun l => c_X1_takeBack_p3_8_1_0 l hk0 hA0 (hA0 1 (by decide) (by decide)) hc1) rfl (Nat.le_of_ble_eq_true rfl) (rfl : 29 + 3 = 32) (xdt tt_X11_undo 13 rfl) ?_
    refine g_aload_n hC rfl 0 rfl (rfl : 32 + 1 = 33) (xdt tt_X11_undo 14 rfl) ?_
    refine g_getP hC hk0 kclX11 ly3_0 10 (by decide) (rfl : r0 + 0 = r0) rfl q33 (rfl : 33 + 3 = 36) (xdt tt_X11_undo 15 rfl) ?_
    refine g_getI hC hk0 kclX1 ly3_8 2 (by decide) rfl q849 (rfl : 36 + 3 = 39) (xdt tt_X11_undo 16 rfl) ?_
    cases h
    exact g_iret hC hE (xdt tt_X11_undo 17 rfl)
  · replace h := (if_neg hc3).symm.trans h
    cases h
def f_X11_cyclesTo_p3_0_b51 (r0 : Nat) : Nat → xSt → Int → Int → Option (Int × xSt)
  | 0, _, _, _ => none
  | fuel + 1, S, x2, x3 =>
    if wr 500 < wr x3 then
      (some ((-1), S))
    else
      (bd (f_X0_passCycle_p1_0 S (r0 + 2)) fun S4 =>
      if wr (gI S4 (r0 + 2) 15 1) < wr x2 then
        ((f_X11_cyclesTo_p3_0_b51 r0 fuel) S4 x2 (x3 + 1))
      else
        (some (x3, S4)))
def f_X11_cyclesTo_p3_0 (S : xSt) (r0 : Nat) (a1 : Int) : Option (Int × xSt) :=
  if wr a1 < wr 1 then
    (none)
  else
    (if wr a1 ≤ wr 999 then
      (bd (f_X0_copyFrom_p1_0_1_0 S (r0 + 2) (r0 + 1)) fun S2 =>
      f_X11_cyclesTo_p3_0_b51 r0 (fu S2) S2 ((gI S2 (r0 + 1) 15 1) + a1) 1)
    else
      (none))
set_option maxRecDepth 100000 in
set_option maxHeartbeats 4000000 in
theorem k_X11_cyclesTo_p3_0_b51 {K : xCtx} {E : xE} {b : Nat} (hC : xOK K cX11_cyclesTo RX11 4 (rmE 6 b)) (hZ : xZ K) {v : Int} {S' : xSt} (hE : xEnd K E (some .int) (YQi E v S')) {r0 : Nat} (hk0 : xkd E r0 = 3) (hA0 : xFam E r0) : ∀ (fuel : Nat) (S : xSt) (x2 : Int) (x3 : Int), f_X11_cyclesTo_p3_0_b51 r0 fuel S x2 x3 = some (v, S') → WG K E 51 [(0, vr E r0 0), (2, vi x2), (3, vi x3)] [] S := by
  intro fuel
  induction fuel with
  | zero => intro S x2 x3 h; cases h
  | succ fuel ih =>
    intro S x2 x3 h
    rw [f_X11_cyclesTo_p3_0_b51] at h
    refine g_iload_n hC rfl 2 rfl (rfl : 51 + 1 = 52) (xdt tt_X11_cyclesTo 27 rfl) ?_
    refine g_sipush hC (by decide) (rfl : 52 + 3 = 55) (xdt tt_X11_cyclesTo 28 rfl) ?_
    refine g_icmp_gt hC (show ((55 : Nat) : Int) + 34 = ((89 : Nat) : Int) by decide) (rfl : 55 + 3 = 58) (xdt tt_X11_cyclesTo 29 rfl) (fun hc6 => ?_) (fun hc6 => ?_)
    · replace h := (if_pos hc6).symm.trans h
      refine g_iconst hC (rfl : 89 + 1 = 90) (xdt tt_X11_cyclesTo 45 rfl) ?_
      cases h
      exact g_iret hC hE (xdt tt_X11_cyclesTo 46 rfl)
    · replace h := (if_neg hc6).symm.trans h
      refine g_aload_n hC rfl 0 rfl (rfl : 58 + 1 = 59) (xdt tt_X11_cyclesTo 30 rfl) ?_
      refine g_getP hC hk0 kclX11 ly3_0 7 (by decide) (rfl : r0 + 2 = (r0 + 2)) rfl q28 (rfl : 59 + 3 = 62) (xdt tt_X11_cyclesTo 31 rfl) ?_
      obtain ⟨S4, hc3, h⟩ := bd_i h
      refine g_callVv hC hZ (hA0 2 (by decide) (by decide)) kclX0 ly1_0 m_X0_passCycle q685 (Nat.le_of_ble_eq_true rfl) [] rfl (fun l => c_X0_passCycle_p1_0 l (hA0 2 (by decide) (by decide)) hc3) rfl (Nat.le_of_ble_eq_true rfl) (rfl : 62 + 3 = 65) (xdt tt_X11_cyclesTo 32 rfl) ?_
      refine g_aload_n hC rfl 0 rfl (rfl : 65 + 1 = 66) (xdt tt_X11_cyclesTo 33 rfl) ?_
      refine g_getP hC hk0 kclX11 ly3_0 7 (by decide) (rfl : r0 + 2 = (r0 + 2)) rfl q28 (rfl : 66 + 3 = 69) (xdt tt_X11_cyclesTo 34 rfl) ?_
      refine g_getP hC (hA0 2 (by decide) (by decide)) kclX0 ly1_0 7 (by decide) (rfl : (r0 + 2) + 0 = (r0 + 2)) rfl q683 (rfl : 69 + 3 = 72) (xdt tt_X11_cyclesTo 35 rfl) ?_
      refine g_getP hC (hA0 2 (by decide) (by decide)) kclX9 ly1_14 0 (by decide) (rfl : (r0 + 2) + 0 = (r0 + 2)) rfl q684 (rfl : 72 + 3 = 75) (xdt tt_X11_cyclesTo 36 rfl) ?_
      refine g_iconst hC (rfl : 75 + 1 = 76) (xdt tt_X11_cyclesTo 37 rfl) ?_
      refine g_iald hC (hA0 2 (by decide) (by decide)) ly1_15 (by decide) (rfl : 76 + 1 = 77) (xdt tt_X11_cyclesTo 38 rfl) (k0 := 1) (by decide) ?_
      refine g_iload_n hC rfl 1 rfl (rfl : 77 + 1 = 78) (xdt tt_X11_cyclesTo 39 rfl) ?_
      refine g_icmp_lt hC (show ((78 : Nat) : Int) + 5 = ((83 : Nat) : Int) by decide) (rfl : 78 + 3 = 81) (xdt tt_X11_cyclesTo 40 rfl) (fun hc5 => ?_) (fun hc5 => ?_)
      · replace h := (if_pos hc5).symm.trans h
        refine g_iinc hC 2 rfl (by decide) (lv' := [(3, vi (x3 + 1)), (0, vr E r0 0), (2, vi x2)]) rfl (rfl : 83 + 3 = 86) (xdt tt_X11_cyclesTo 43 rfl) ?_
        refine g_goto hC (show ((86 : Nat) : Int) + (-35) = ((51 : Nat) : Int) by decide) (xdt tt_X11_cyclesTo 44 rfl) ?_
        refine g_sub [1, 2, 0] (lv' := [(0, vr E r0 0), (2, vi x2), (3, vi (x3 + 1))]) rfl ?_
        exact ih _ _ _ h
      · replace h := (if_neg hc5).symm.trans h
        refine g_iload_n hC rfl 2 rfl (rfl : 81 + 1 = 82) (xdt tt_X11_cyclesTo 41 rfl) ?_
        cases h
        exact g_iret hC hE (xdt tt_X11_cyclesTo 42 rfl)
set_option maxRecDepth 100000 in
set_option maxHeartbeats 4000000 in
theorem c_X11_cyclesTo_p3_0 (l : Launch) {E : xE} {S S' : xSt} {r0 : Nat} {a1 : Int} (hk0 : xkd E r0 = 3) (hA0 : xFam E r0) {v : Int} (h : f_X11_cyclesTo_p3_0 S r0 a1 = some (v, S')) : Met l yX11_cyclesTo (xws yX11_cyclesTo cX11_cyclesTo 4 (some .int)) (rmD 6) (YPc E [vr E r0 0, vi a1] S) (YQi E v S') 0 0 (xA E) := by
  unfold f_X11_cyclesTo_p3_0 at h
  refine met_i (by decide +kernel) (Nat.le_of_ble_eq_true rfl) (fun K hC hZ hE => ?_)
  have hC : xOK K cX11_cyclesTo RX11 4 (rmE 6 0) := hC
  show WG K E 0 [(0, vr E r0 0), (1, vi a1)] [] S
  refine g_iload_n hC rfl 1 rfl (rfl : 0 + 1 = 1) (xdt tt_X11_cyclesTo 0 rfl) ?_
  refine g_iconst hC (rfl : 1 + 1 = 2) (xdt tt_X11_cyclesTo 1 rfl) ?_
  refine g_icmp_lt hC (show ((2 : Nat) : Int) + 10 = ((12 : Nat) : Int) by decide) (rfl : 2 + 3 = 5) (xdt tt_X11_cyclesTo 2 rfl) (fun hc8 => ?_) (fun hc8 => ?_)
  · replace h := (if_pos hc8).symm.trans h
    cases h
  · replace h := (if_neg hc8).symm.trans h
    refine g_iload_n hC rfl 1 rfl (rfl : 5 + 1 = 6) (xdt tt_X11_cyclesTo 3 rfl) ?_
    refine g_sipush hC (by decide) (rfl : 6 + 3 = 9) (xdt tt_X11_cyclesTo 4 rfl) ?_
    refine g_icmp_le hC (show ((9 : Nat) : Int) + 14 = ((23 : Nat) : Int) by decide) (rfl : 9 + 3 = 12) (xdt tt_X11_cyclesTo 5 rfl) (fun hc7 => ?_) (fun hc7 => ?_)
    · replace h := (if_pos hc7).symm.trans h
      refine g_aload_n hC rfl 0 rfl (rfl : 23 + 1 = 24) (xdt tt_X11_cyclesTo 11 rfl) ?_
      refine g_getP hC hk0 kclX11 ly3_0 7 (by decide) (rfl : r0 + 2 = (r0 + 2)) rfl q28 (rfl : 24 + 3 = 27) (xdt tt_X11_cyclesTo 12 rfl) ?_
      refine g_aload_n hC rfl 0 rfl (rfl : 27 + 1 = 28) (xdt tt_X11_cyclesTo 13 rfl) ?_
      refine g_getP hC hk0 kclX11 ly3_0 6 (by decide) (rfl : r0 + 1 = (r0 + 1)) rfl q27 (rfl : 28 + 3 = 31) (xdt tt_X11_cyclesTo 14 rfl) ?_
      obtain ⟨S2, hc1, h⟩ := bd_i h
      refine g_callVv hC hZ (hA0 2 (by decide) (by decide)) kclX0 ly1_0 m_X0_copyFrom q925 (Nat.le_of_ble_eq_true rfl) [vr E (r0 + 1) 0] rfl (fun l => c_X0_copyFrom_p1_0_1_0 l (hA0 2 (by decide) (by decide)) (hA0 1 (by decide) (by decide)) hc1) rfl (Nat.le_of_ble_eq_true rfl) (rfl : 31 + 3 = 34) (xdt tt_X11_cyclesTo 15 rfl) ?_
      refine g_aload_n hC rfl 0 rfl (rfl : 34 + 1 = 35) (xdt tt_X11_cyclesTo 16 rfl) ?_
      refine g_getP hC hk0 kclX11 ly3_0 6 (by decide) (rfl : r0 + 1 = (r0 + 1)) rfl q27 (rfl : 35 + 3 = 38) (xdt tt_X11_cyclesTo 17 rfl) ?_
      refine g_getP hC (hA0 1 (by decide) (by decide)) kclX0 ly1_0 7 (by decide) (rfl : (r0 + 1) + 0 = (r0 + 1)) rfl q683 (rfl : 38 + 3 = 41) (xdt tt_X11_cyclesTo 18 rfl) ?_
      refine g_getP hC (hA0 1 (by decide) (by decide)) kclX9 ly1_14 0 (by decide) (rfl : (r0 + 1) + 0 = (r0 + 1)) rfl q684 (rfl : 41 + 3 = 44) (xdt tt_X11_cyclesTo 19 rfl) ?_
      refine g_iconst hC (rfl : 44 + 1 = 45) (xdt tt_X11_cyclesTo 20 rfl) ?_
      refine g_iald hC (hA0 1 (by decide) (by decide)) ly1_15 (by decide) (rfl : 45 + 1 = 46) (xdt tt_X11_cyclesTo 21 rfl) (k0 := 1) (by decide) ?_
      refine g_iload_n hC rfl 1 rfl (rfl : 46 + 1 = 47) (xdt tt_X11_cyclesTo 22 rfl) ?_
      refine g_iadd hC (rfl : 47 + 1 = 48) (xdt tt_X11_cyclesTo 23 rfl) ?_
      refine g_istore_n hC rfl (by decide) (lv' := [(2, vi ((gI S2 (r0 + 1) 15 1) + a1)), (0, vr E r0 0), (1, vi a1)]) rfl (rfl : 48 + 1 = 49) (xdt tt_X11_cyclesTo 24 rfl) ?_
      refine g_iconst hC (rfl : 49 + 1 = 50) (xdt tt_X11_cyclesTo 25 rfl) ?_
      refine g_istore_n hC rfl (by decide) (lv' := [(3, vi 1), (2, vi ((gI S2 (r0 + 1) 15 1) + a1)), (0, vr E r0 0), (1, vi a1)]) rfl (rfl : 50 + 1 = 51) (xdt tt_X11_cyclesTo 26 rfl) ?_
      refine g_sub [2, 1, 0] (lv' := [(0, vr E r0 0), (2, vi ((gI S2 (r0 + 1) 15 1) + a1)), (3, vi 1)]) rfl ?_
      exact k_X11_cyclesTo_p3_0_b51 hC hZ hE hk0 hA0 _ _ _ _ h
    · replace h := (if_neg hc7).symm.trans h
      cases h
def f_X11_bubblesIn_p3_0 (S : xSt) (r0 : Nat) (a1 : Int) (a2 : Int) : Option (Int × xSt) :=
  if wr a1 < wr 1 then
    (none)
  else
    (if wr a1 ≤ wr 500 then
      (if wr a2 < wr 1 then
        (none)
      else
        (if wr a2 ≤ wr 8 then
          (bd (f_X0_copyFrom_p1_0_1_0 S (r0 + 2) (r0 + 1)) fun S2 =>
          bd2 (f_X0_decodeFor_p1_0 S2 (r0 + 2) a1) fun v5 S4 =>
          ckI a2 9 <|
          ckI a2 9 <|
          some (((gI S4 (r0 + 2) 16 (wr a2).toNat) - (gI S4 (r0 + 1) 16 (wr a2).toNat)), S4))
        else
          (none)))
    else
      (none))
set_option maxRecDepth 100000 in
set_option maxHeartbeats 4000000 in
theorem c_X11_bubblesIn_p3_0 (l : Launch) {E : xE} {S S' : xSt} {r0 : Nat} {a1 : Int} {a2 : Int} (hk0 : xkd E r0 = 3) (hA0 : xFam E r0) {v : Int} (h : f_X11_bubblesIn_p3_0 S r0 a1 a2 = some (v, S')) : Met l yX11_bubblesIn (xws yX11_bubblesIn cX11_bubblesIn 3 (some .int)) (rmD 7) (YPc E [vr E r0 0, vi a1, vi a2] S) (YQi E v S') 0 0 (xA E) := by
  unfold f_X11_bubblesIn_p3_0 at h
  refine met_i (by decide +kernel) (Nat.le_of_ble_eq_true rfl) (fun K hC hZ hE => ?_)
  have hC : xOK K cX11_bubblesIn RX11 3 (rmE 7 0) := hC
  show WG K E 0 [(0, vr E r0 0), (1, vi a1), (2, vi a2)] [] S
  refine g_iload_n hC rfl 1 rfl (rfl : 0 + 1 = 1) (xdt tt_X11_bubblesIn 0 rfl) ?_
  refine g_iconst hC (rfl : 1 + 1 = 2) (xdt tt_X11_bubblesIn 1 rfl) ?_
  refine g_icmp_lt hC (show ((2 : Nat) : Int) + 10 = ((12 : Nat) : Int) by decide) (rfl : 2 + 3 = 5) (xdt tt_X11_bubblesIn 2 rfl) (fun hc11 => ?_) (fun hc11 => ?_)
  · replace h := (if_pos hc11).symm.trans h
    cases h
  · replace h := (if_neg hc11).symm.trans h
    refine g_iload_n hC rfl 1 rfl (rfl : 5 + 1 = 6) (xdt tt_X11_bubblesIn 3 rfl) ?_
    refine g_sipush hC (by decide) (rfl : 6 + 3 = 9) (xdt tt_X11_bubblesIn 4 rfl) ?_
    refine g_icmp_le hC (show ((9 : Nat) : Int) + 14 = ((23 : Nat) : Int) by decide) (rfl : 9 + 3 = 12) (xdt tt_X11_bubblesIn 5 rfl) (fun hc10 => ?_) (fun hc10 => ?_)
    · replace h := (if_pos hc10).symm.trans h
      refine g_iload_n hC rfl 2 rfl (rfl : 23 + 1 = 24) (xdt tt_X11_bubblesIn 11 rfl) ?_
      refine g_iconst hC (rfl : 24 + 1 = 25) (xdt tt_X11_bubblesIn 12 rfl) ?_
      refine g_icmp_lt hC (show ((25 : Nat) : Int) + 9 = ((34 : Nat) : Int) by decide) (rfl : 25 + 3 = 28) (xdt tt_X11_bubblesIn 13 rfl) (fun hc9 => ?_) (fun hc9 => ?_)
      · replace h := (if_pos hc9).symm.trans h
        cases h
      · replace h := (if_neg hc9).symm.trans h
        refine g_iload_n hC rfl 2 rfl (rfl : 28 + 1 = 29) (xdt tt_X11_bubblesIn 14 rfl) ?_
        refine g_bipush hC (by decide) (rfl : 29 + 2 = 31) (xdt tt_X11_bubblesIn 15 rfl) ?_
        refine g_icmp_le hC (show ((31 : Nat) : Int) + 13 = ((44 : Nat) : Int) by decide) (rfl : 31 + 3 = 34) (xdt tt_X11_bubblesIn 16 rfl) (fun hc8 => ?_) (fun hc8 => ?_)
        · replace h := (if_pos hc8).symm.trans h
          refine g_aload_n hC rfl 0 rfl (rfl : 44 + 1 = 45) (xdt tt_X11_bubblesIn 22 rfl) ?_
          refine g_getP hC hk0 kclX11 ly3_0 7 (by decide) (rfl : r0 + 2 = (r0 + 2)) rfl q28 (rfl : 45 + 3 = 48) (xdt tt_X11_bubblesIn 23 rfl) ?_
          refine g_aload_n hC rfl 0 rfl (rfl : 48 + 1 = 49) (xdt tt_X11_bubblesIn 24 rfl) ?_
          refine g_getP hC hk0 kclX11 ly3_0 6 (by decide) (rfl : r0 + 1 = (r0 + 1)) rfl q27 (rfl : 49 + 3 = 52) (xdt tt_X11_bubblesIn 25 rfl) ?_
          obtain ⟨S2, hc1, h⟩ := bd_i h
          refine g_callVv hC hZ (hA0 2 (by decide) (by decide)) kclX0 ly1_0 m_X0_copyFrom q925 (Nat.le_of_ble_eq_true rfl) [vr E (r0 + 1) 0] rfl (fun l => c_X0_copyFrom_p1_0_1_0 l (hA0 2 (by decide) (by decide)) (hA0 1 (by decide) (by decide)) hc1) rfl (Nat.le_of_ble_eq_true rfl) (rfl : 52 + 3 = 55) (xdt tt_X11_bubblesIn 26 rfl) ?_
          refine g_aload_n hC rfl 0 rfl (rfl : 55 + 1 = 56) (xdt tt_X11_bubblesIn 27 rfl) ?_
          refine g_getP hC hk0 kclX11 ly3_0 7 (by decide) (rfl : r0 + 2 = (r0 + 2)) rfl q28 (rfl : 56 + 3 = 59) (xdt tt_X11_bubblesIn 28 rfl) ?_
          refine g_iload_n hC rfl 1 rfl (rfl : 59 + 1 = 60) (xdt tt_X11_bubblesIn 29 rfl) ?_
          obtain ⟨v5, S4, hc3, h⟩ := bd2_i h
          refine g_callVi hC hZ (hA0 2 (by decide) (by decide)) kclX0 ly1_0 m_X0_decodeFor q832 (Nat.le_of_ble_eq_true rfl) [vi a1] rfl (fun l => c_X0_decodeFor_p1_0 l (hA0 2 (by decide) (by decide)) hc3) rfl (Nat.le_of_ble_eq_true rfl) (rfl : 60 + 3 = 63) (xdt tt_X11_bubblesIn 30 rfl) ?_
          refine g_pop hC rfl (rfl : 63 + 1 = 64) (xdt tt_X11_bubblesIn 31 rfl) ?_
          refine g_aload_n hC rfl 0 rfl (rfl : 64 + 1 = 65) (xdt tt_X11_bubblesIn 32 rfl) ?_
          refine g_getP hC hk0 kclX11 ly3_0 7 (by decide) (rfl : r0 + 2 = (r0 + 2)) rfl q28 (rfl : 65 + 3 = 68) (xdt tt_X11_bubblesIn 33 rfl) ?_
          refine g_getP hC (hA0 2 (by decide) (by decide)) kclX0 ly1_0 7 (by decide) (rfl : (r0 + 2) + 0 = (r0 + 2)) rfl q683 (rfl : 68 + 3 = 71) (xdt tt_X11_bubblesIn 34 rfl) ?_
          refine g_getP hC (hA0 2 (by decide) (by decide)) kclX9 ly1_14 1 (by decide) (rfl : (r0 + 2) + 0 = (r0 + 2)) rfl q920 (rfl : 71 + 3 = 74) (xdt tt_X11_bubblesIn 35 rfl) ?_
          refine g_iload_n hC rfl 2 rfl (rfl : 74 + 1 = 75) (xdt tt_X11_bubblesIn 36 rfl) ?_
          obtain ⟨hi6, h⟩ := ckI_i h
          refine g_iald hC (hA0 2 (by decide) (by decide)) ly1_16 hi6 (rfl : 75 + 1 = 76) (xdt tt_X11_bubblesIn 37 rfl) (k0 := (wr a2).toNat) rfl ?_
          refine g_aload_n hC rfl 0 rfl (rfl : 76 + 1 = 77) (xdt tt_X11_bubblesIn 38 rfl) ?_
          refine g_getP hC hk0 kclX11 ly3_0 6 (by decide) (rfl : r0 + 1 = (r0 + 1)) rfl q27 (rfl : 77 + 3 = 80) (xdt tt_X11_bubblesIn 39 rfl) ?_
          refine g_getP hC (hA0 1 (by decide) (by decide)) kclX0 ly1_0 7 (by decide) (rfl : (r0 + 1) + 0 = (r0 + 1)) rfl q683 (rfl : 80 + 3 = 83) (xdt tt_X11_bubblesIn 40 rfl) ?_
          refine g_getP hC (hA0 1 (by decide) (by decide)) kclX9 ly1_14 1 (by decide) (rfl : (r0 + 1) + 0 = (r0 + 1)) rfl q920 (rfl : 83 + 3 = 86) (xdt tt_X11_bubblesIn 41 rfl) ?_
          refine g_iload_n hC rfl 2 rfl (rfl : 86 + 1 = 87) (xdt tt_X11_bubblesIn 42 rfl) ?_
          obtain ⟨hi7, h⟩ := ckI_i h
          refine g_iald hC (hA0 1 (by decide) (by decide)) ly1_16 hi7 (rfl : 87 + 1 = 88) (xdt tt_X11_bubblesIn 43 rfl) (k0 := (wr a2).toNat) rfl ?_
          refine g_isub hC (rfl : 88 + 1 = 89) (xdt tt_X11_bubblesIn 44 rfl) ?_
          cases h
          exact g_iret hC hE (xdt tt_X11_bubblesIn 45 rfl)
        · replace h := (if_neg hc8).symm.trans h
          cases h
    · replace h := (if_neg hc10).symm.trans h
      cases h
def f_X11_roomNeeded_p3_0_b44 (r0 : Nat) : Nat → xSt → Int → Int → Int → Option (Int × xSt)
  | 0, _, _, _, _ => none
  | fuel + 1, S, x1, x2, x3 =>
    if wr x1 ≤ wr x3 then
      (some (x2, S))
    else
      (bd (f_X0_passCycle_p1_0 S (r0 + 2)) fun S4 =>
      (f_X11_roomNeeded_p3_0_b44 r0 fuel) S4 x1 (iMax x2 (gI S4 (r0 + 2) 0 14)) (x3 + 1))
def f_X11_roomNeeded_p3_0 (S : xSt) (r0 : Nat) (a1 : Int) : Option (Int × xSt) :=
  if wr a1 < wr 1 then
    (none)
  else
    (if wr a1 ≤ wr 500 then
      (bd (f_X0_copyFrom_p1_0_1_0 S (r0 + 2) (r0 + 1)) fun S2 =>
      f_X11_roomNeeded_p3_0_b44 r0 (fu S2) S2 a1 (gI S2 (r0 + 2) 0 14) 0)
    else
      (none))
set_option maxRecDepth 100000 in
set_option maxHeartbeats 4000000 in
theorem k_X11_roomNeeded_p3_0_b44 {K : xCtx} {E : xE} {b : Nat} (hC : xOK K cX11_roomNeeded RX11 4 (rmE 6 b)) (hZ : xZ K) {v : Int} {S' : xSt} (hE : xEnd K E (some .int) (YQi E v S')) {r0 : Nat} (hk0 : xkd E r0 = 3) (hA0 : xFam E r0) : ∀ (fuel : Nat) (S : xSt) (x1 : Int) (x2 : Int) (x3 : Int), f_X11_roomNeeded_p3_0_b44 r0 fuel S x1 x2 x3 = some (v, S') → WG K E 44 [(0, vr E r0 0), (1, vi x1), (2, vi x2), (3, vi x3)] [] S := by
  intro fuel
  induction fuel with
  | zero => intro S x1 x2 x3 h; cases h
  | succ fuel ih =>
    intro S x1 x2 x3 h
    rw [f_X11_roomNeeded_p3_0_b44] at h
    refine g_iload_n hC rfl 3 rfl (rfl : 44 + 1 = 45) (xdt tt_X11_roomNeeded 22 rfl) ?_
    refine g_iload_n hC rfl 1 rfl (rfl : 45 + 1 = 46) (xdt tt_X11_roomNeeded 23 rfl) ?_
    refine g_icmp_ge hC (show ((46 : Nat) : Int) + 28 = ((74 : Nat) : Int) by decide) (rfl : 46 + 3 = 49) (xdt tt_X11_roomNeeded 24 rfl) (fun hc5 => ?_) (fun hc5 => ?_)
    · replace h := (if_pos hc5).symm.trans h
      refine g_iload_n hC rfl 2 rfl (rfl : 74 + 1 = 75) (xdt tt_X11_roomNeeded 36 rfl) ?_
      cases h
      exact g_iret hC hE (xdt tt_X11_roomNeeded 37 rfl)
    · replace h := (if_neg hc5).symm.trans h
      refine g_aload_n hC rfl 0 rfl (rfl : 49 + 1 = 50) (xdt tt_X11_roomNeeded 25 rfl) ?_
      refine g_getP hC hk0 kclX11 ly3_0 7 (by decide) (rfl : r0 + 2 = (r0 + 2)) rfl q28 (rfl : 50 + 3 = 53) (xdt tt_X11_roomNeeded 26 rfl) ?_
      obtain ⟨S4, hc3, h⟩ := bd_i h
      refine g_callVv hC hZ (hA0 2 (by decide) (by decide)) kclX0 ly1_0 m_X0_passCycle q685 (Nat.le_of_ble_eq_true rfl) [] rfl (fun l => c_X0_passCycle_p1_0 l (hA0 2 (by decide) (by decide)) hc3) rfl (Nat.le_of_ble_eq_true rfl) (rfl : 53 + 3 = 56) (xdt tt_X11_roomNeeded 27 rfl) ?_
      refine g_iload_n hC rfl 2 rfl (rfl : 56 + 1 = 57) (xdt tt_X11_roomNeeded 28 rfl) ?_
      refine g_aload_n hC rfl 0 rfl (rfl : 57 + 1 = 58) (xdt tt_X11_roomNeeded 29 rfl) ?_
      refine g_getP hC hk0 kclX11 ly3_0 7 (by decide) (rfl : r0 + 2 = (r0 + 2)) rfl q28 (rfl : 58 + 3 = 61) (xdt tt_X11_roomNeeded 30 rfl) ?_
      refine g_getI hC (hA0 2 (by decide) (by decide)) kclX0 ly1_0 14 (by decide) rfl q843 (rfl : 61 + 3 = 64) (xdt tt_X11_roomNeeded 31 rfl) ?_
      refine g_mmax hC hZ q930 q242 q243 q244 (Nat.le_of_ble_eq_true rfl) (Nat.le_of_ble_eq_true rfl) (rfl : 64 + 3 = 67) (xdt tt_X11_roomNeeded 32 rfl) ?_
      refine g_istore_n hC rfl (by decide) (lv' := [(2, vi (iMax x2 (gI S4 (r0 + 2) 0 14))), (0, vr E r0 0), (1, vi x1), (3, vi x3)]) rfl (rfl : 67 + 1 = 68) (xdt tt_X11_roomNeeded 33 rfl) ?_
      refine g_iinc hC 3 rfl (by decide) (lv' := [(3, vi (x3 + 1)), (2, vi (iMax x2 (gI S4 (r0 + 2) 0 14))), (0, vr E r0 0), (1, vi x1)]) rfl (rfl : 68 + 3 = 71) (xdt tt_X11_roomNeeded 34 rfl) ?_
      refine g_goto hC (show ((71 : Nat) : Int) + (-27) = ((44 : Nat) : Int) by decide) (xdt tt_X11_roomNeeded 35 rfl) ?_
      refine g_sub [2, 3, 1, 0] (lv' := [(0, vr E r0 0), (1, vi x1), (2, vi (iMax x2 (gI S4 (r0 + 2) 0 14))), (3, vi (x3 + 1))]) rfl ?_
      exact ih _ _ _ _ h
set_option maxRecDepth 100000 in
set_option maxHeartbeats 4000000 in
theorem c_X11_roomNeeded_p3_0 (l : Launch) {E : xE} {S S' : xSt} {r0 : Nat} {a1 : Int} (hk0 : xkd E r0 = 3) (hA0 : xFam E r0) {v : Int} (h : f_X11_roomNeeded_p3_0 S r0 a1 = some (v, S')) : Met l yX11_roomNeeded (xws yX11_roomNeeded cX11_roomNeeded 4 (some .int)) (rmD 6) (YPc E [vr E r0 0, vi a1] S) (YQi E v S') 0 0 (xA E) := by
  unfold f_X11_roomNeeded_p3_0 at h
  refine met_i (by decide +kernel) (Nat.le_of_ble_eq_true rfl) (fun K hC hZ hE => ?_)
  have hC : xOK K cX11_roomNeeded RX11 4 (rmE 6 0) := hC
  show WG K E 0 [(0, vr E r0 0), (1, vi a1)] [] S
  refine g_iload_n hC rfl 1 rfl (rfl : 0 + 1 = 1) (xdt tt_X11_roomNeeded 0 rfl) ?_
  refine g_iconst hC (rfl : 1 + 1 = 2) (xdt tt_X11_roomNeeded 1 rfl) ?_
  refine g_icmp_lt hC (show ((2 : Nat) : Int) + 10 = ((12 : Nat) : Int) by decide) (rfl : 2 + 3 = 5) (xdt tt_X11_roomNeeded 2 rfl) (fun hc7 => ?_) (fun hc7 => ?_)
  · replace h := (if_pos hc7).symm.trans h
    cases h
  · replace h := (if_neg hc7).symm.trans h
    refine g_iload_n hC rfl 1 rfl (rfl : 5 + 1 = 6) (xdt tt_X11_roomNeeded 3 rfl) ?_
    refine g_sipush hC (by decide) (rfl : 6 + 3 = 9) (xdt tt_X11_roomNeeded 4 rfl) ?_
    refine g_icmp_le hC (show ((9 : Nat) : Int) + 14 = ((23 : Nat) : Int) by decide) (rfl : 9 + 3 = 12) (xdt tt_X11_roomNeeded 5 rfl) (fun hc6 => ?_) (fun hc6 => ?_)
    · replace h := (if_pos hc6).symm.trans h
      refine g_aload_n hC rfl 0 rfl (rfl : 23 + 1 = 24) (xdt tt_X11_roomNeeded 11 rfl) ?_
      refine g_getP hC hk0 kclX11 ly3_0 7 (by decide) (rfl : r0 + 2 = (r0 + 2)) rfl q28 (rfl : 24 + 3 = 27) (xdt tt_X11_roomNeeded 12 rfl) ?_
      refine g_aload_n hC rfl 0 rfl (rfl : 27 + 1 = 28) (xdt tt_X11_roomNeeded 13 rfl) ?_
      refine g_getP hC hk0 kclX11 ly3_0 6 (by decide) (rfl : r0 + 1 = (r0 + 1)) rfl q27 (rfl : 28 + 3 = 31) (xdt tt_X11_roomNeeded 14 rfl) ?_
      obtain ⟨S2, hc1, h⟩ := bd_i h
      refine g_callVv hC hZ (hA0 2 (by decide) (by decide)) kclX0 ly1_0 m_X0_copyFrom q925 (Nat.le_of_ble_eq_true rfl) [vr E (r0 + 1) 0] rfl (fun l => c_X0_copyFrom_p1_0_1_0 l (hA0 2 (by decide) (by decide)) (hA0 1 (by decide) (by decide)) hc1) rfl (Nat.le_of_ble_eq_true rfl) (rfl : 31 + 3 = 34) (xdt tt_X11_roomNeeded 15 rfl) ?_
      refine g_aload_n hC rfl 0 rfl (rfl : 34 + 1 = 35) (xdt tt_X11_roomNeeded 16 rfl) ?_
      refine g_getP hC hk0 kclX11 ly3_0 7 (by decide) (rfl : r0 + 2 = (r0 + 2)) rfl q28 (rfl : 35 + 3 = 38) (xdt tt_X11_roomNeeded 17 rfl) ?_
      refine g_getI hC (hA0 2 (by decide) (by decide)) kclX0 ly1_0 14 (by decide) rfl q843 (rfl : 38 + 3 = 41) (xdt tt_X11_roomNeeded 18 rfl) ?_
      refine g_istore_n hC rfl (by decide) (lv' := [(2, vi (gI S2 (r0 + 2) 0 14)), (0, vr E r0 0), (1, vi a1)]) rfl (rfl : 41 + 1 = 42) (xdt tt_X11_roomNeeded 19 rfl) ?_
      refine g_iconst hC (rfl : 42 + 1 = 43) (xdt tt_X11_roomNeeded 20 rfl) ?_
      refine g_istore_n hC rfl (by decide) (lv' := [(3, vi 0), (2, vi (gI S2 (r0 + 2) 0 14)), (0, vr E r0 0), (1, vi a1)]) rfl (rfl : 43 + 1 = 44) (xdt tt_X11_roomNeeded 21 rfl) ?_
      refine g_sub [2, 3, 1, 0] (lv' := [(0, vr E r0 0), (1, vi a1), (2, vi (gI S2 (r0 + 2) 0 14)), (3, vi 0)]) rfl ?_
      exact k_X11_roomNeeded_p3_0_b44 hC hZ hE hk0 hA0 _ _ _ _ _ h
    · replace h := (if_neg hc6).symm.trans h
      cases h
def f_X11_saveState_p3_0 (S : xSt) (r0 : Nat) : Option (Int × xSt) :=
  bd (f_X0_copyFrom_p1_0_1_0 S (r0 + 3) (r0 + 1)) fun S2 =>
  lt1 (wI S2 r0 0 9 1) fun S3 =>
  some ((gI S3 (r0 + 1) 15 0), S3)
set_option maxRecDepth 100000 in
set_option maxHeartbeats 4000000 in
theorem c_X11_saveState_p3_0 (l : Launch) {E : xE} {S S' : xSt} {r0 : Nat} (hk0 : xkd E r0 = 3) (hA0 : xFam E r0) {v : Int} (h : f_X11_saveState_p3_0 S r0 = some (v, S')) : Met l yX11_saveState (xws yX11_saveState cX11_saveState 1 (some .int)) (rmD 5) (YPc E [vr E r0 0] S) (YQi E v S') 0 0 (xA E) := by
  unfold f_X11_saveState_p3_0 at h
  refine met_i (by decide +kernel) (Nat.le_of_ble_eq_true rfl) (fun K hC hZ hE => ?_)
  have hC : xOK K cX11_saveState RX11 1 (rmE 5 0) := hC
  show WG K E 0 [(0, vr E r0 0)] [] S
  refine g_aload_n hC rfl 0 rfl (rfl : 0 + 1 = 1) (xdt tt_X11_saveState 0 rfl) ?_
  refine g_getP hC hk0 kclX11 ly3_0 8 (by decide) (rfl : r0 + 3 = (r0 + 3)) rfl q29 (rfl : 1 + 3 = 4) (xdt tt_X11_saveState 1 rfl) ?_
  refine g_aload_n hC rfl 0 rfl (rfl : 4 + 1 = 5) (xdt tt_X11_saveState 2 rfl) ?_
  refine g_getP hC hk0 kclX11 ly3_0 6 (by decide) (rfl : r0 + 1 = (r0 + 1)) rfl q27 (rfl : 5 + 3 = 8) (xdt tt_X11_saveState 3 rfl) ?_
  obtain ⟨S2, hc1, h⟩ := bd_i h
  refine g_callVv hC hZ (hA0 3 (by decide) (by decide)) kclX0 ly1_0 m_X0_copyFrom q925 (Nat.le_of_ble_eq_true rfl) [vr E (r0 + 1) 0] rfl (fun l => c_X0_copyFrom_p1_0_1_0 l (hA0 3 (by decide) (by decide)) (hA0 1 (by decide) (by decide)) hc1) rfl (Nat.le_of_ble_eq_true rfl) (rfl : 8 + 3 = 11) (xdt tt_X11_saveState 4 rfl) ?_
  refine g_aload_n hC rfl 0 rfl (rfl : 11 + 1 = 12) (xdt tt_X11_saveState 5 rfl) ?_
  refine g_iconst hC (rfl : 12 + 1 = 13) (xdt tt_X11_saveState 6 rfl) ?_
  obtain ⟨S3, hS3, h⟩ := lt1_i h
  refine g_putZ hC hk0 kclX11 ly3_0 9 (by decide) rfl rfl rfl q486 (Or.inr rfl) hS3 (rfl : 13 + 3 = 16) (xdt tt_X11_saveState 7 rfl) ?_
  refine g_aload_n hC rfl 0 rfl (rfl : 16 + 1 = 17) (xdt tt_X11_saveState 8 rfl) ?_
  refine g_getP hC hk0 kclX11 ly3_0 6 (by decide) (rfl : r0 + 1 = (r0 + 1)) rfl q27 (rfl : 17 + 3 = 20) (xdt tt_X11_saveState 9 rfl) ?_
  refine g_getP hC (hA0 1 (by decide) (by decide)) kclX0 ly1_0 7 (by decide) (rfl : (r0 + 1) + 0 = (r0 + 1)) rfl q683 (rfl : 20 + 3 = 23) (xdt tt_X11_saveState 10 rfl) ?_
  refine g_getP hC (hA0 1 (by decide) (by decide)) kclX9 ly1_14 0 (by decide) (rfl : (r0 + 1) + 0 = (r0 + 1)) rfl q684 (rfl : 23 + 3 = 26) (xdt tt_X11_saveState 11 rfl) ?_
  refine g_iconst hC (rfl : 26 + 1 = 27) (xdt tt_X11_saveState 12 rfl) ?_
  refine g_iald hC (hA0 1 (by decide) (by decide)) ly1_15 (by decide) (rfl : 27 + 1 = 28) (xdt tt_X11_saveState 13 rfl) (k0 := 0) (by decide) ?_
  cases h
  exact g_iret hC hE (xdt tt_X11_saveState 14 rfl)
def f_X11_restoreState_p3_0 (S : xSt) (r0 : Nat) : Option (Int × xSt) :=
  if ¬ wr (gI S r0 0 9) = 0 then
    (bd (f_X0_copyFrom_p1_0_1_0 S (r0 + 1) (r0 + 3)) fun S2 =>
    bd (f_X1_forget_p3_8 S2 r0) fun S4 =>
    some ((gI S4 (r0 + 1) 15 0), S4))
  else
    (none)
set_option maxRecDepth 100000 in
set_option maxHeartbeats 4000000 in
theorem c_X11_restoreState_p3_0 (l : Launch) {E : xE} {S S' : xSt} {r0 : Nat} (hk0 : xkd E r0 = 3) (hA0 : xFam E r0) {v : Int} (h : f_X11_restoreState_p3_0 S r0 = some (v, S')) : Met l yX11_restoreState (xws yX11_restoreState cX11_restoreState 1 (some .int)) (rmD 5) (YPc E [vr E r0 0] S) (YQi E v S') 0 0 (xA E) := by
  unfold f_X11_restoreState_p3_0 at h
  refine met_i (by decide +kernel) (Nat.le_of_ble_eq_true rfl) (fun K hC hZ hE => ?_)
  have hC : xOK K cX11_restoreState RX11 1 (rmE 5 0) := hC
  show WG K E 0 [(0, vr E r0 0)] [] S
  refine g_aload_n hC rfl 0 rfl (rfl : 0 + 1 = 1) (xdt tt_X11_restoreState 0 rfl) ?_
  refine g_getI hC hk0 kclX11 ly3_0 9 (by decide) rfl q486 (rfl : 1 + 3 = 4) (xdt tt_X11_restoreState 1 rfl) ?_
  refine g_if_ne hC (show ((4 : Nat) : Int) + 14 = ((18 : Nat) : Int) by decide) (rfl : 4 + 3 = 7) (xdt tt_X11_restoreState 2 rfl) (fun hc5 => ?_) (fun hc5 => ?_)
  · replace h := (if_pos hc5).symm.trans h
    refine g_aload_n hC rfl 0 rfl (rfl : 18 + 1 = 19) (xdt tt_X11_restoreState 8 rfl) ?_
    refine g_getP hC hk0 kclX11 ly3_0 6 (by decide) (rfl : r0 + 1 = (r0 + 1)) rfl q27 (rfl : 19 + 3 = 22) (xdt tt_X11_restoreState 9 rfl) ?_
    refine g_aload_n hC rfl 0 rfl (rfl : 22 + 1 = 23) (xdt tt_X11_restoreState 10 rfl) ?_
    refine g_getP hC hk0 kclX11 ly3_0 8 (by decide) (rfl : r0 + 3 = (r0 + 3)) rfl q29 (rfl : 23 + 3 = 26) (xdt tt_X11_restoreState 11 rfl) ?_
    obtain ⟨S2, hc1, h⟩ := bd_i h
    refine g_callVv hC hZ (hA0 1 (by decide) (by decide)) kclX0 ly1_0 m_X0_copyFrom q925 (Nat.le_of_ble_eq_true rfl) [vr E (r0 + 3) 0] rfl (fun l => c_X0_copyFrom_p1_0_1_0 l (hA0 1 (by decide) (by decide)) (hA0 3 (by decide) (by decide)) hc1) rfl (Nat.le_of_ble_eq_true rfl) (rfl : 26 + 3 = 29) (xdt tt_X11_restoreState 12 rfl) ?_
    refine g_aload_n hC rfl 0 rfl (rfl : 29 + 1 = 30) (xdt tt_X11_restoreState 13 rfl) ?_
    refine g_getP hC hk0 kclX11 ly3_0 10 (by decide) (rfl : r0 + 0 = r0) rfl q33 (rfl : 30 + 3 = 33) (xdt tt_X11_restoreState 14 rfl) ?_
    obtain ⟨S4, hc3, h⟩ := bd_i h
    refine g_callVv hC hZ hk0 kclX1 ly3_8 m_X1_forget q619 (Nat.le_of_ble_eq_true rfl) [] rfl (fun l => c_X1_forget_p3_8 l hk0 hA0 hc3) rfl (Nat.le_of_ble_eq_true rfl) (rfl : 33 + 3 = 36) (xdt tt_X11_restoreState 15 rfl) ?_
    refine g_aload_n hC rfl 0 rfl (rfl : 36 + 1 = 37) (xdt tt_X11_restoreState 16 rfl) ?_
    refine g_getP hC hk0 kclX11 ly3_0 6 (by decide) (rfl : r0 + 1 = (r0 + 1)) rfl q27 (rfl : 37 + 3 = 40) (xdt tt_X11_restoreState 17 rfl) ?_
    refine g_getP hC (hA0 1 (by decide) (by decide)) kclX0 ly1_0 7 (by decide) (rfl : (r0 + 1) + 0 = (r0 + 1)) rfl q683 (rfl : 40 + 3 = 43) (xdt tt_X11_restoreState 18 rfl) ?_
    refine g_getP hC (hA0 1 (by decide) (by decide)) kclX9 ly1_14 0 (by decide) (rfl : (r0 + 1) + 0 = (r0 + 1)) rfl q684 (rfl : 43 + 3 = 46) (xdt tt_X11_restoreState 19 rfl) ?_
    refine g_iconst hC (rfl : 46 + 1 = 47) (xdt tt_X11_restoreState 20 rfl) ?_
    refine g_iald hC (hA0 1 (by decide) (by decide)) ly1_15 (by decide) (rfl : 47 + 1 = 48) (xdt tt_X11_restoreState 21 rfl) (k0 := 0) (by decide) ?_
    cases h
    exact g_iret hC hE (xdt tt_X11_restoreState 22 rfl)
  · replace h := (if_neg hc5).symm.trans h
    cases h
def f_L_cell (S : xSt) (n0 : Nat) (q0 : Nat → Int) (a1 : Int) : Option (Int × xSt) :=
  if wr (n0 : Int) ≤ wr a1 then
    (some (((1013904223 * a1) + 73), S))
  else
    (ckI a1 n0 <|
    some ((q0 (wr a1).toNat), S))
set_option maxRecDepth 100000 in
set_option maxHeartbeats 4000000 in
theorem c_L_cell (l : Launch) {E : xE} {S S' : xSt} {n0 : Nat} {q0 : Nat → Int} {a1 : Int} (hq0 : xsL E = n0 ∧ xsc E = q0) {v : Int} (h : f_L_cell S n0 q0 a1 = some (v, S')) : Met l yL_cell (xws yL_cell cL_cell 2 (some .int)) (rmD 1) (YPc E [.ref (xsb E), vi a1] S) (YQi E v S') 0 0 (xA E) := by
  unfold f_L_cell at h
  refine met_i (by decide +kernel) (Nat.le_of_ble_eq_true rfl) (fun K hC hZ hE => ?_)
  have hC : xOK K cL_cell RL 2 (rmE 1 0) := hC
  show WG K E 0 [(0, .ref (xsb E)), (1, vi a1)] [] S
  refine g_iload_n hC rfl 1 rfl (rfl : 0 + 1 = 1) (xdt tt_L_cell 0 rfl) ?_
  refine g_aload_n hC rfl 0 rfl (rfl : 1 + 1 = 2) (xdt tt_L_cell 1 rfl) ?_
  refine g_qlen hC hq0 (rfl : 2 + 1 = 3) (xdt tt_L_cell 2 rfl) ?_
  refine g_icmp_ge hC (show ((3 : Nat) : Int) + 9 = ((12 : Nat) : Int) by decide) (rfl : 3 + 3 = 6) (xdt tt_L_cell 3 rfl) (fun hc2 => ?_) (fun hc2 => ?_)
  · replace h := (if_pos hc2).symm.trans h
    refine g_ldcI hC (z := 1013904223) q344 (rfl : 12 + 2 = 14) (xdt tt_L_cell 8 rfl) ?_
    refine g_iload_n hC rfl 1 rfl (rfl : 14 + 1 = 15) (xdt tt_L_cell 9 rfl) ?_
    refine g_imul hC (rfl : 15 + 1 = 16) (xdt tt_L_cell 10 rfl) ?_
    refine g_bipush hC (by decide) (rfl : 16 + 2 = 18) (xdt tt_L_cell 11 rfl) ?_
    refine g_iadd hC (rfl : 18 + 1 = 19) (xdt tt_L_cell 12 rfl) ?_
    cases h
    exact g_iret hC hE (xdt tt_L_cell 13 rfl)
  · replace h := (if_neg hc2).symm.trans h
    refine g_aload_n hC rfl 0 rfl (rfl : 6 + 1 = 7) (xdt tt_L_cell 4 rfl) ?_
    refine g_iload_n hC rfl 1 rfl (rfl : 7 + 1 = 8) (xdt tt_L_cell 5 rfl) ?_
    obtain ⟨hi1, h⟩ := ckI_i h
    refine g_qld hC hq0 hi1 (rfl : 8 + 1 = 9) (xdt tt_L_cell 6 rfl) (k0 := (wr a1).toNat) rfl ?_
    refine g_goto hC (show ((9 : Nat) : Int) + 10 = ((19 : Nat) : Int) by decide) (xdt tt_L_cell 7 rfl) ?_
    cases h
    exact g_iret hC hE (xdt tt_L_cell 13 rfl)
def f_L_draw (S : xSt) (n0 : Nat) (q0 : Nat → Int) (a1 : Int) (a2 : Int) (a3 : Int) : Option (Int × xSt) :=
  bd2 (f_L_cell S n0 q0 a1) fun v3 S2 =>
  ckZ ((a3 - a2) + 1) <|
  some ((a2 + (Int.tmod (wr (iA v3 2147483647)) (wr ((a3 - a2) + 1)))), S2)
set_option maxRecDepth 100000 in
set_option maxHeartbeats 4000000 in
theorem c_L_draw (l : Launch) {E : xE} {S S' : xSt} {n0 : Nat} {q0 : Nat → Int} {a1 : Int} {a2 : Int} {a3 : Int} (hq0 : xsL E = n0 ∧ xsc E = q0) {v : Int} (h : f_L_draw S n0 q0 a1 a2 a3 = some (v, S')) : Met l yL_draw (xws yL_draw cL_draw 4 (some .int)) (rmD 2) (YPc E [.ref (xsb E), vi a1, vi a2, vi a3] S) (YQi E v S') 0 0 (xA E) := by
  unfold f_L_draw at h
  refine met_i (by decide +kernel) (Nat.le_of_ble_eq_true rfl) (fun K hC hZ hE => ?_)
  have hC : xOK K cL_draw RL 4 (rmE 2 0) := hC
  show WG K E 0 [(0, .ref (xsb E)), (1, vi a1), (2, vi a2), (3, vi a3)] [] S
  refine g_iload_n hC rfl 2 rfl (rfl : 0 + 1 = 1) (xdt tt_L_draw 0 rfl) ?_
  refine g_aload_n hC rfl 0 rfl (rfl : 1 + 1 = 2) (xdt tt_L_draw 1 rfl) ?_
  refine g_iload_n hC rfl 1 rfl (rfl : 2 + 1 = 3) (xdt tt_L_draw 2 rfl) ?_
  obtain ⟨v3, S2, hc1, h⟩ := bd2_i h
  refine g_callSi hC hZ m_L_cell q341 (Nat.le_of_ble_eq_true rfl) [.ref (xsb E), vi a1] rfl (fun l => c_L_cell l hq0 hc1) rfl (Nat.le_of_ble_eq_true rfl) (rfl : 3 + 3 = 6) (xdt tt_L_draw 3 rfl) ?_
  refine g_ldcI hC (z := 2147483647) q340 (rfl : 6 + 2 = 8) (xdt tt_L_draw 4 rfl) ?_
  refine g_iand hC (rfl : 8 + 1 = 9) (xdt tt_L_draw 5 rfl) ?_
  refine g_iload_n hC rfl 3 rfl (rfl : 9 + 1 = 10) (xdt tt_L_draw 6 rfl) ?_
  refine g_iload_n hC rfl 2 rfl (rfl : 10 + 1 = 11) (xdt tt_L_draw 7 rfl) ?_
  refine g_isub hC (rfl : 11 + 1 = 12) (xdt tt_L_draw 8 rfl) ?_
  refine g_iconst hC (rfl : 12 + 1 = 13) (xdt tt_L_draw 9 rfl) ?_
  refine g_iadd hC (rfl : 13 + 1 = 14) (xdt tt_L_draw 10 rfl) ?_
  obtain ⟨hz4, h⟩ := ckZ_i h
  refine g_irem hC hz4 (rfl : 14 + 1 = 15) (xdt tt_L_draw 11 rfl) ?_
  refine g_iadd hC (rfl : 15 + 1 = 16) (xdt tt_L_draw 12 rfl) ?_
  cases h
  exact g_iret hC hE (xdt tt_L_draw 13 rfl)
def f_L_kind (S : xSt) (a0 : Int) : Option (Nat × xSt) :=
  if wr a0 < 0 ∨ 6 < wr a0 then
    (some (42, S))
  else
  if wr a0 = 0 then
    (some (35, S))
  else
  if wr a0 = 1 then
    (some (36, S))
  else
  if wr a0 = 2 then
    (some (37, S))
  else
  if wr a0 = 3 then
    (some (38, S))
  else
  if wr a0 = 4 then
    (some (39, S))
  else
  if wr a0 = 5 then
    (some (40, S))
  else
  if wr a0 = 6 then
    (some (41, S))
  else
  none
set_option maxRecDepth 100000 in
set_option maxHeartbeats 4000000 in
theorem c_L_kind (l : Launch) {E : xE} {S S' : xSt} {a0 : Int} {v : Nat} (h : f_L_kind S a0 = some (v, S')) : Met l yL_kind (xws yL_kind cL_kind 1 (some (.object "java/lang/String"))) (rmD 1) (YPc E [vi a0] S) (YQa E v S') 0 0 (xA E) := by
  unfold f_L_kind at h
  refine met_a (by decide +kernel) (Nat.le_of_ble_eq_true rfl) (fun K hC hZ hE => ?_)
  have hC : xOK K cL_kind RL 1 (rmE 1 0) := hC
  show WG K E 0 [(0, vi a0)] [] S
  refine g_iload_n hC rfl 0 rfl (rfl : 0 + 1 = 1) (xdt tt_L_kind 0 rfl) ?_
  by_cases hs1 : wr a0 < 0 ∨ 6 < wr a0
  · replace h := (if_pos hs1).symm.trans h
    refine g_tabOut hC (xdt tt_L_kind 1 rfl) hs1 (show ((1 : Nat) : Int) + 64 = ((65 : Nat) : Int) by decide) ?_
    refine g_ldcS hC 42 rfl rfl (rfl : 65 + 2 = 67) (xdt tt_L_kind 16 rfl) ?_
    cases h
    exact g_aret hC hE (show 42 < xldc.length by decide) (xdt tt_L_kind 17 rfl)
  · replace h := (if_neg hs1).symm.trans h
    by_cases hv2 : wr a0 = 0
    · replace h := (if_pos hv2).symm.trans h
      refine g_tabIn hC (xdt tt_L_kind 1 rfl) (fun z => hs1 (Or.inl z)) (fun z => hs1 (Or.inr z)) (off := 43) (by rw [hv2]; rfl) (show ((1 : Nat) : Int) + 43 = ((44 : Nat) : Int) by decide) ?_
      refine g_ldcS hC 35 rfl rfl (rfl : 44 + 2 = 46) (xdt tt_L_kind 2 rfl) ?_
      cases h
      exact g_aret hC hE (show 35 < xldc.length by decide) (xdt tt_L_kind 3 rfl)
    · replace h := (if_neg hv2).symm.trans h
      by_cases hv3 : wr a0 = 1
      · replace h := (if_pos hv3).symm.trans h
        refine g_tabIn hC (xdt tt_L_kind 1 rfl) (fun z => hs1 (Or.inl z)) (fun z => hs1 (Or.inr z)) (off := 46) (by rw [hv3]; rfl) (show ((1 : Nat) : Int) + 46 = ((47 : Nat) : Int) by decide) ?_
        refine g_ldcS hC 36 rfl rfl (rfl : 47 + 2 = 49) (xdt tt_L_kind 4 rfl) ?_
        cases h
        exact g_aret hC hE (show 36 < xldc.length by decide) (xdt tt_L_kind 5 rfl)
      · replace h := (if_neg hv3).symm.trans h
        by_cases hv4 : wr a0 = 2
        · replace h := (if_pos hv4).symm.trans h
          refine g_tabIn hC (xdt tt_L_kind 1 rfl) (fun z => hs1 (Or.inl z)) (fun z => hs1 (Or.inr z)) (off := 49) (by rw [hv4]; rfl) (show ((1 : Nat) : Int) + 49 = ((50 : Nat) : Int) by decide) ?_
          refine g_ldcS hC 37 rfl rfl (rfl : 50 + 2 = 52) (xdt tt_L_kind 6 rfl) ?_
          cases h
          exact g_aret hC hE (show 37 < xldc.length by decide) (xdt tt_L_kind 7 rfl)
        · replace h := (if_neg hv4).symm.trans h
          by_cases hv5 : wr a0 = 3
          · replace h := (if_pos hv5).symm.trans h
            refine g_tabIn hC (xdt tt_L_kind 1 rfl) (fun z => hs1 (Or.inl z)) (fun z => hs1 (Or.inr z)) (off := 52) (by rw [hv5]; rfl) (show ((1 : Nat) : Int) + 52 = ((53 : Nat) : Int) by decide) ?_
            refine g_ldcS hC 38 rfl rfl (rfl : 53 + 2 = 55) (xdt tt_L_kind 8 rfl) ?_
            cases h
            exact g_aret hC hE (show 38 < xldc.length by decide) (xdt tt_L_kind 9 rfl)
          · replace h := (if_neg hv5).symm.trans h
            by_cases hv6 : wr a0 = 4
            · replace h := (if_pos hv6).symm.trans h
              refine g_tabIn hC (xdt tt_L_kind 1 rfl) (fun z => hs1 (Or.inl z)) (fun z => hs1 (Or.inr z)) (off := 55) (by rw [hv6]; rfl) (show ((1 : Nat) : Int) + 55 = ((56 : Nat) : Int) by decide) ?_
              refine g_ldcS hC 39 rfl rfl (rfl : 56 + 2 = 58) (xdt tt_L_kind 10 rfl) ?_
              cases h
              exact g_aret hC hE (show 39 < xldc.length by decide) (xdt tt_L_kind 11 rfl)
            · replace h := (if_neg hv6).symm.trans h
              by_cases hv7 : wr a0 = 5
              · replace h := (if_pos hv7).symm.trans h
                refine g_tabIn hC (xdt tt_L_kind 1 rfl) (fun z => hs1 (Or.inl z)) (fun z => hs1 (Or.inr z)) (off := 58) (by rw [hv7]; rfl) (show ((1 : Nat) : Int) + 58 = ((59 : Nat) : Int) by decide) ?_
                refine g_ldcS hC 40 rfl rfl (rfl : 59 + 2 = 61) (xdt tt_L_kind 12 rfl) ?_
                cases h
                exact g_aret hC hE (show 40 < xldc.length by decide) (xdt tt_L_kind 13 rfl)
              · replace h := (if_neg hv7).symm.trans h
                by_cases hv8 : wr a0 = 6
                · replace h := (if_pos hv8).symm.trans h
                  refine g_tabIn hC (xdt tt_L_kind 1 rfl) (fun z => hs1 (Or.inl z)) (fun z => hs1 (Or.inr z)) (off := 61) (by rw [hv8]; rfl) (show ((1 : Nat) : Int) + 61 = ((62 : Nat) : Int) by decide) ?_
                  refine g_ldcS hC 41 rfl rfl (rfl : 62 + 2 = 64) (xdt tt_L_kind 14 rfl) ?_
                  cases h
                  exact g_aret hC hE (show 41 < xldc.length by decide) (xdt tt_L_kind 15 rfl)
                · replace h := (if_neg hv8).symm.trans h
                  cases h
def f_L_act_p3_0 (S : xSt) (r0 : Nat) (n1 : Nat) (q1 : Nat → Int) (a2 : Int) : Option (xSt) :=
  bd2 (f_L_draw S n1 q1 (3 * a2) 0 5) fun v3 S2 =>
  if wr v3 < 0 ∨ 3 < wr v3 then
    (bd2 (f_L_draw S2 n1 q1 ((3 * a2) + 1) 1 15) fun v7 S6 =>
    bd2 (f_X11_run_p3_0 S6 r0 v7) fun v10 S9 =>
    some S9)
  else
  if wr v3 = 0 then
    (bd2 (f_L_draw S2 n1 q1 ((3 * a2) + 1) 0 9) fun v13 S12 =>
    bd2 (f_X11_stall_p3_0 S12 r0 v13) fun v16 S15 =>
    some S15)
  else
  if wr v3 = 1 then
    (bd2 (f_L_draw S2 n1 q1 ((3 * a2) + 1) 1 6) fun v20 S19 =>
    bd2 (f_X11_set_p3_0 S19 r0 2 v20) fun v23 S22 =>
    some S22)
  else
  if wr v3 = 2 then
    (bd2 (f_L_draw S2 n1 q1 ((3 * a2) + 1) 0 30) fun v27 S26 =>
    bd2 (f_X11_set_p3_0 S26 r0 7 v27) fun v30 S29 =>
    some S29)
  else
  if wr v3 = 3 then
    (bd2 (f_L_draw S2 n1 q1 ((3 * a2) + 1) 0 60) fun v34 S33 =>
    bd2 (f_X11_runTo_p3_0 S33 r0 v34) fun v37 S36 =>
    some S36)
  else
  none
set_option maxRecDepth 100000 in
set_option maxHeartbeats 4000000 in
theorem c_L_act_p3_0 (l : Launch) {E : xE} {S S' : xSt} {r0 : Nat} {n1 : Nat} {q1 : Nat → Int} {a2 : Int} (hk0 : xkd E r0 = 3) (hA0 : xFam E r0) (hq1 : xsL E = n1 ∧ xsc E = q1) (h : f_L_act_p3_0 S r0 n1 q1 a2 = some S') : Met l yL_act (xws yL_act cL_act 4 none) (rmD 8) (YPc E [vr E r0 0, .ref (xsb E), vi a2] S) (YQv E S') 0 0 (xA E) := by
  unfold f_L_act_p3_0 at h
  refine met_v (by decide +kernel) (Nat.le_of_ble_eq_true rfl) (fun K hC hZ hE => ?_)
  have hC : xOK K cL_act RL 4 (rmE 8 0) := hC
  show WG K E 0 [(0, vr E r0 0), (1, .ref (xsb E)), (2, vi a2)] [] S
  refine g_iconst hC (rfl : 0 + 1 = 1) (xdt tt_L_act 0 rfl) ?_
  refine g_istore_n hC rfl (by decide) (lv' := [(3, vi 0), (0, vr E r0 0), (1, .ref (xsb E)), (2, vi a2)]) rfl (rfl : 1 + 1 = 2) (xdt tt_L_act 1 rfl) ?_
  refine g_aload_n hC rfl 2 rfl (rfl : 2 + 1 = 3) (xdt tt_L_act 2 rfl) ?_
  refine g_iconst hC (rfl : 3 + 1 = 4) (xdt tt_L_act 3 rfl) ?_
  refine g_iload_n hC rfl 3 rfl (rfl : 4 + 1 = 5) (xdt tt_L_act 4 rfl) ?_
  refine g_imul hC (rfl : 5 + 1 = 6) (xdt tt_L_act 5 rfl) ?_
  refine g_iconst hC (rfl : 6 + 1 = 7) (xdt tt_L_act 6 rfl) ?_
  refine g_iconst hC (rfl : 7 + 1 = 8) (xdt tt_L_act 7 rfl) ?_
  obtain ⟨v3, S2, hc1, h⟩ := bd2_i h
  refine g_callSi hC hZ m_L_draw q337 (Nat.le_of_ble_eq_true rfl) [.ref (xsb E), vi (3 * a2), vi 0, vi 5] rfl (fun l => c_L_draw l hq1 hc1) rfl (Nat.le_of_ble_eq_true rfl) (rfl : 8 + 3 = 11) (xdt tt_L_act 8 rfl) ?_
  by_cases hs4 : wr v3 < 0 ∨ 3 < wr v3
  · replace h := (if_pos hs4).symm.trans h
    refine g_tabOut hC (xdt tt_L_act 9 rfl) hs4 (show ((11 : Nat) : Int) + 112 = ((123 : Nat) : Int) by decide) ?_
    refine g_aload_n hC rfl 1 rfl (rfl : 123 + 1 = 124) (xdt tt_L_act 64 rfl) ?_
    refine g_aload_n hC rfl 2 rfl (rfl : 124 + 1 = 125) (xdt tt_L_act 65 rfl) ?_
    refine g_iconst hC (rfl : 125 + 1 = 126) (xdt tt_L_act 66 rfl) ?_
    refine g_iload_n hC rfl 3 rfl (rfl : 126 + 1 = 127) (xdt tt_L_act 67 rfl) ?_
    refine g_imul hC (rfl : 127 + 1 = 128) (xdt tt_L_act 68 rfl) ?_
    refine g_iconst hC (rfl : 128 + 1 = 129) (xdt tt_L_act 69 rfl) ?_
    refine g_iadd hC (rfl : 129 + 1 = 130) (xdt tt_L_act 70 rfl) ?_
    refine g_iconst hC (rfl : 130 + 1 = 131) (xdt tt_L_act 71 rfl) ?_
    refine g_bipush hC (by decide) (rfl : 131 + 2 = 133) (xdt tt_L_act 72 rfl) ?_
    obtain ⟨v7, S6, hc5, h⟩ := bd2_i h
    refine g_callSi hC hZ m_L_draw q337 (Nat.le_of_ble_eq_true rfl) [.ref (xsb E), vi ((3 * a2) + 1), vi 1, vi 15] rfl (fun l => c_L_draw l hq1 hc5) rfl (Nat.le_of_ble_eq_true rfl) (rfl : 133 + 3 = 136) (xdt tt_L_act 73 rfl) ?_
    obtain ⟨v10, S9, hc8, h⟩ := bd2_i h
    refine g_callVi hC hZ hk0 kclX11 ly3_0 m_X11_run q828 (Nat.le_of_ble_eq_true rfl) [vi v7] rfl (fun l => c_X11_run_p3_0 l hk0 hA0 hc8) rfl (Nat.le_of_ble_eq_true rfl) (rfl : 136 + 3 = 139) (xdt tt_L_act 74 rfl) ?_
    refine g_istore_n hC rfl (by decide) (lv' := [(3, vi v10), (0, vr E r0 0), (1, .ref (xsb E)), (2, vi a2)]) rfl (rfl : 139 + 1 = 140) (xdt tt_L_act 75 rfl) ?_
    cases h
    exact g_vret hC hE (xdt tt_L_act 76 rfl)
  · replace h := (if_neg hs4).symm.trans h
    by_cases hv17 : wr v3 = 0
    · replace h := (if_pos hv17).symm.trans h
      refine g_tabIn hC (xdt tt_L_act 9 rfl) (fun z => hs4 (Or.inl z)) (fun z => hs4 (Or.inr z)) (off := 29) (by rw [hv17]; rfl) (show ((11 : Nat) : Int) + 29 = ((40 : Nat) : Int) by decide) ?_
      refine g_aload_n hC rfl 1 rfl (rfl : 40 + 1 = 41) (xdt tt_L_act 10 rfl) ?_
      refine g_aload_n hC rfl 2 rfl (rfl : 41 + 1 = 42) (xdt tt_L_act 11 rfl) ?_
      refine g_iconst hC (rfl : 42 + 1 = 43) (xdt tt_L_act 12 rfl) ?_
      refine g_iload_n hC rfl 3 rfl (rfl : 43 + 1 = 44) (xdt tt_L_act 13 rfl) ?_
      refine g_imul hC (rfl : 44 + 1 = 45) (xdt tt_L_act 14 rfl) ?_
      refine g_iconst hC (rfl : 45 + 1 = 46) (xdt tt_L_act 15 rfl) ?_
      refine g_iadd hC (rfl : 46 + 1 = 47) (xdt tt_L_act 16 rfl) ?_
      refine g_iconst hC (rfl : 47 + 1 = 48) (xdt tt_L_act 17 rfl) ?_
      refine g_bipush hC (by decide) (rfl : 48 + 2 = 50) (xdt tt_L_act 18 rfl) ?_
      obtain ⟨v13, S12, hc11, h⟩ := bd2_i h
      refine g_callSi hC hZ m_L_draw q337 (Nat.le_of_ble_eq_true rfl) [.ref (xsb E), vi ((3 * a2) + 1), vi 0, vi 9] rfl (fun l => c_L_draw l hq1 hc11) rfl (Nat.le_of_ble_eq_true rfl) (rfl : 50 + 3 = 53) (xdt tt_L_act 19 rfl) ?_
      obtain ⟨v16, S15, hc14, h⟩ := bd2_i h
      refine g_callVi hC hZ hk0 kclX11 ly3_0 m_X11_stall q627 (Nat.le_of_ble_eq_true rfl) [vi v13] rfl (fun l => c_X11_stall_p3_0 l hk0 hA0 hc14) rfl (Nat.le_of_ble_eq_true rfl) (rfl : 53 + 3 = 56) (xdt tt_L_act 20 rfl) ?_
      refine g_istore_n hC rfl (by decide) (lv' := [(3, vi v16), (0, vr E r0 0), (1, .ref (xsb E)), (2, vi a2)]) rfl (rfl : 56 + 1 = 57) (xdt tt_L_act 21 rfl) ?_
      refine g_goto hC (show ((57 : Nat) : Int) + 83 = ((140 : Nat) : Int) by decide) (xdt tt_L_act 22 rfl) ?_
      cases h
      exact g_vret hC hE (xdt tt_L_act 76 rfl)
    · replace h := (if_neg hv17).symm.trans h
      by_cases hv24 : wr v3 = 1
      · replace h := (if_pos hv24).symm.trans h
        refine g_tabIn hC (xdt tt_L_act 9 rfl) (fun z => hs4 (Or.inl z)) (fun z => hs4 (Or.inr z)) (off := 49) (by rw [hv24]; rfl) (show ((11 : Nat) : Int) + 49 = ((60 : Nat) : Int) by decide) ?_
        refine g_aload_n hC rfl 1 rfl (rfl : 60 + 1 = 61) (xdt tt_L_act 23 rfl) ?_
        refine g_iconst hC (rfl : 61 + 1 = 62) (xdt tt_L_act 24 rfl) ?_
        refine g_aload_n hC rfl 2 rfl (rfl : 62 + 1 = 63) (xdt tt_L_act 25 rfl) ?_
        refine g_iconst hC (rfl : 63 + 1 = 64) (xdt tt_L_act 26 rfl) ?_
        refine g_iload_n hC rfl 3 rfl (rfl : 64 + 1 = 65) (xdt tt_L_act 27 rfl) ?_
        refine g_imul hC (rfl : 65 + 1 = 66) (xdt tt_L_act 28 rfl) ?_
        refine g_iconst hC (rfl : 66 + 1 = 67) (xdt tt_L_act 29 rfl) ?_
        refine g_iadd hC (rfl : 67 + 1 = 68) (xdt tt_L_act 30 rfl) ?_
        refine g_iconst hC (rfl : 68 + 1 = 69) (xdt tt_L_act 31 rfl) ?_
        refine g_bipush hC (by decide) (rfl : 69 + 2 = 71) (xdt tt_L_act 32 rfl) ?_
        obtain ⟨v20, S19, hc18, h⟩ := bd2_i h
        refine g_callSi hC hZ m_L_draw q337 (Nat.le_of_ble_eq_true rfl) [.ref (xsb E), vi ((3 * a2) + 1), vi 1, vi 6] rfl (fun l => c_L_draw l hq1 hc18) rfl (Nat.le_of_ble_eq_true rfl) (rfl : 71 + 3 = 74) (xdt tt_L_act 33 rfl) ?_
        obtain ⟨v23, S22, hc21, h⟩ := bd2_i h
        refine g_callVi hC hZ hk0 kclX11 ly3_0 m_X11_set q673 (Nat.le_of_ble_eq_true rfl) [vi 2, vi v20] rfl (fun l => c_X11_set_p3_0 l hk0 hA0 hc21) rfl (Nat.le_of_ble_eq_true rfl) (rfl : 74 + 3 = 77) (xdt tt_L_act 34 rfl) ?_
        refine g_istore_n hC rfl (by decide) (lv' := [(3, vi v23), (0, vr E r0 0), (1, .ref (xsb E)), (2, vi a2)]) rfl (rfl : 77 + 1 = 78) (xdt tt_L_act 35 rfl) ?_
        refine g_goto hC (show ((78 : Nat) : Int) + 62 = ((140 : Nat) : Int) by decide) (xdt tt_L_act 36 rfl) ?_
        cases h
        exact g_vret hC hE (xdt tt_L_act 76 rfl)
      · replace h := (if_neg hv24).symm.trans h
        by_cases hv31 : wr v3 = 2
        · replace h := (if_pos hv31).symm.trans h
          refine g_tabIn hC (xdt tt_L_act 9 rfl) (fun z => hs4 (Or.inl z)) (fun z => hs4 (Or.inr z)) (off := 70) (by rw [hv31]; rfl) (show ((11 : Nat) : Int) + 70 = ((81 : Nat) : Int) by decide) ?_
          refine g_aload_n hC rfl 1 rfl (rfl : 81 + 1 = 82) (xdt tt_L_act 37 rfl) ?_
          refine g_bipush hC (by decide) (rfl : 82 + 2 = 84) (xdt tt_L_act 38 rfl) ?_
          refine g_aload_n hC rfl 2 rfl (rfl : 84 + 1 = 85) (xdt tt_L_act 39 rfl) ?_
          refine g_iconst hC (rfl : 85 + 1 = 86) (xdt tt_L_act 40 rfl) ?_
          refine g_iload_n hC rfl 3 rfl (rfl : 86 + 1 = 87) (xdt tt_L_act 41 rfl) ?_
          refine g_imul hC (rfl : 87 + 1 = 88) (xdt tt_L_act 42 rfl) ?_
          refine g_iconst hC (rfl : 88 + 1 = 89) (xdt tt_L_act 43 rfl) ?_
          refine g_iadd hC (rfl : 89 + 1 = 90) (xdt tt_L_act 44 rfl) ?_
          refine g_iconst hC (rfl : 90 + 1 = 91) (xdt tt_L_act 45 rfl) ?_
          refine g_bipush hC (by decide) (rfl : 91 + 2 = 93) (xdt tt_L_act 46 rfl) ?_
          obtain ⟨v27, S26, hc25, h⟩ := bd2_i h
          refine g_callSi hC hZ m_L_draw q337 (Nat.le_of_ble_eq_true rfl) [.ref (xsb E), vi ((3 * a2) + 1), vi 0, vi 30] rfl (fun l => c_L_draw l hq1 hc25) rfl (Nat.le_of_ble_eq_true rfl) (rfl : 93 + 3 = 96) (xdt tt_L_act 47 rfl) ?_
          obtain ⟨v30, S29, hc28, h⟩ := bd2_i h
          refine g_callVi hC hZ hk0 kclX11 ly3_0 m_X11_set q673 (Nat.le_of_ble_eq_true rfl) [vi 7, vi v27] rfl (fun l => c_X11_set_p3_0 l hk0 hA0 hc28) rfl (Nat.le_of_ble_eq_true rfl) (rfl : 96 + 3 = 99) (xdt tt_L_act 48 rfl) ?_
          refine g_istore_n hC rfl (by decide) (lv' := [(3, vi v30), (0, vr E r0 0), (1, .ref (xsb E)), (2, vi a2)]) rfl (rfl : 99 + 1 = 100) (xdt tt_L_act 49 rfl) ?_
          refine g_goto hC (show ((100 : Nat) : Int) + 40 = ((140 : Nat) : Int) by decide) (xdt tt_L_act 50 rfl) ?_
          cases h
          exact g_vret hC hE (xdt tt_L_act 76 rfl)
        · replace h := (if_neg hv31).symm.trans h
          by_cases hv38 : wr v3 = 3
          · replace h := (if_pos hv38).symm.trans h
            refine g_tabIn hC (xdt tt_L_act 9 rfl) (fun z => hs4 (Or.inl z)) (fun z => hs4 (Or.inr z)) (off := 92) (by rw [hv38]; rfl) (show ((11 : Nat) : Int) + 92 = ((103 : Nat) : Int) by decide) ?_
            refine g_aload_n hC rfl 1 rfl (rfl : 103 + 1 = 104) (xdt tt_L_act 51 rfl) ?_
            refine g_aload_n hC rfl 2 rfl (rfl : 104 + 1 = 105) (xdt tt_L_act 52 rfl) ?_
            refine g_iconst hC (rfl : 105 + 1 = 106) (xdt tt_L_act 53 rfl) ?_
            refine g_iload_n hC rfl 3 rfl (rfl : 106 + 1 = 107) (xdt tt_L_act 54 rfl) ?_
            refine g_imul hC (rfl : 107 + 1 = 108) (xdt tt_L_act 55 rfl) ?_
            refine g_iconst hC (rfl : 108 + 1 = 109) (xdt tt_L_act 56 rfl) ?_
            refine g_iadd hC (rfl : 109 + 1 = 110) (xdt tt_L_act 57 rfl) ?_
            refine g_iconst hC (rfl : 110 + 1 = 111) (xdt tt_L_act 58 rfl) ?_
            refine g_bipush hC (by decide) (rfl : 111 + 2 = 113) (xdt tt_L_act 59 rfl) ?_
            obtain ⟨v34, S33, hc32, h⟩ := bd2_i h
            refine g_callSi hC hZ m_L_draw q337 (Nat.le_of_ble_eq_true rfl) [.ref (xsb E), vi ((3 * a2) + 1), vi 0, vi 60] rfl (fun l => c_L_draw l hq1 hc32) rfl (Nat.le_of_ble_eq_true rfl) (rfl : 113 + 3 = 116) (xdt tt_L_act 60 rfl) ?_
            obtain ⟨v37, S36, hc35, h⟩ := bd2_i h
            refine g_callVi hC hZ hk0 kclX11 ly3_0 m_X11_runTo q679 (Nat.le_of_ble_eq_true rfl) [vi v34] rfl (fun l => c_X11_runTo_p3_0 l hk0 hA0 hc35) rfl (Nat.le_of_ble_eq_true rfl) (rfl : 116 + 3 = 119) (xdt tt_L_act 61 rfl) ?_
            refine g_istore_n hC rfl (by decide) (lv' := [(3, vi v37), (0, vr E r0 0), (1, .ref (xsb E)), (2, vi a2)]) rfl (rfl : 119 + 1 = 120) (xdt tt_L_act 62 rfl) ?_
            refine g_goto hC (show ((120 : Nat) : Int) + 20 = ((140 : Nat) : Int) by decide) (xdt tt_L_act 63 rfl) ?_
            cases h
            exact g_vret hC hE (xdt tt_L_act 76 rfl)
          · replace h := (if_neg hv38).symm.trans h
            cases h
def f_L_allBubbles_p3_0_b4 (r0 : Nat) : Nat → xSt → Int → Int → Option (Int × xSt)
  | 0, _, _, _ => none
  | fuel + 1, S, x1, x2 =>
    if wr 8 < wr x2 then
      (some (x1, S))
    else
      (bd2 (f_X11_bubbles_p3_0 S r0 x2) fun v3 S2 =>
      (f_L_allBubbles_p3_0_b4 r0 fuel) S2 (x1 + v3) (x2 + 1))
def f_L_allBubbles_p3_0 (S : xSt) (r0 : Nat) : Option (Int × xSt) :=
  f_L_allBubbles_p3_0_b4 r0 (fu S) S 0 1
set_option maxRecDepth 100000 in
set_option maxHeartbeats 4000000 in
theorem k_L_allBubbles_p3_0_b4 {K : xCtx} {E : xE} {b : Nat} (hC : xOK K cL_allBubbles RL 3 (rmE 2 b)) (hZ : xZ K) {v : Int} {S' : xSt} (hE : xEnd K E (some .int) (YQi E v S')) {r0 : Nat} (hk0 : xkd E r0 = 3) (hA0 : xFam E r0) : ∀ (fuel : Nat) (S : xSt) (x1 : Int) (x2 : Int), f_L_allBubbles_p3_0_b4 r0 fuel S x1 x2 = some (v, S') → WG K E 4 [(0, vr E r0 0), (1, vi x1), (2, vi x2)] [] S := by
  intro fuel
  induction fuel with
  | zero => intro S x1 x2 h; cases h
  | succ fuel ih =>
    intro S x1 x2 h
    rw [f_L_allBubbles_p3_0_b4] at h
    refine g_iload_n hC rfl 2 rfl (rfl : 4 + 1 = 5) (xdt tt_L_allBubbles 4 rfl) ?_
    refine g_bipush hC (by decide) (rfl : 5 + 2 = 7) (xdt tt_L_allBubbles 5 rfl) ?_
    refine g_icmp_gt hC (show ((7 : Nat) : Int) + 17 = ((24 : Nat) : Int) by decide) (rfl : 7 + 3 = 10) (xdt tt_L_allBubbles 6 rfl) (fun hc4 => ?_) (fun hc4 => ?_)
    · replace h := (if_pos hc4).symm.trans h
      refine g_iload_n hC rfl 1 rfl (rfl : 24 + 1 = 25) (xdt tt_L_allBubbles 15 rfl) ?_
      cases h
      exact g_iret hC hE (xdt tt_L_allBubbles 16 rfl)
    · replace h := (if_neg hc4).symm.trans h
      refine g_iload_n hC rfl 1 rfl (rfl : 10 + 1 = 11) (xdt tt_L_allBubbles 7 rfl) ?_
      refine g_aload_n hC rfl 0 rfl (rfl : 11 + 1 = 12) (xdt tt_L_allBubbles 8 rfl) ?_
      refine g_iload_n hC rfl 2 rfl (rfl : 12 + 1 = 13) (xdt tt_L_allBubbles 9 rfl) ?_
      obtain ⟨v3, S2, hc1, h⟩ := bd2_i h
      refine g_callVi hC hZ hk0 kclX11 ly3_0 m_X11_bubbles q916 (Nat.le_of_ble_eq_true rfl) [vi x2] rfl (fun l => c_X11_bubbles_p3_0 l hk0 hA0 hc1) rfl (Nat.le_of_ble_eq_true rfl) (rfl : 13 + 3 = 16) (xdt tt_L_allBubbles 10 rfl) ?_
      refine g_iadd hC (rfl : 16 + 1 = 17) (xdt tt_L_allBubbles 11 rfl) ?_
      refine g_istore_n hC rfl (by decide) (lv' := [(1, vi (x1 + v3)), (0, vr E r0 0), (2, vi x2)]) rfl (rfl : 17 + 1 = 18) (xdt tt_L_allBubbles 12 rfl) ?_
      refine g_iinc hC 2 rfl (by decide) (lv' := [(2, vi (x2 + 1)), (1, vi (x1 + v3)), (0, vr E r0 0)]) rfl (rfl : 18 + 3 = 21) (xdt tt_L_allBubbles 13 rfl) ?_
      refine g_goto hC (show ((21 : Nat) : Int) + (-17) = ((4 : Nat) : Int) by decide) (xdt tt_L_allBubbles 14 rfl) ?_
      refine g_sub [2, 1, 0] (lv' := [(0, vr E r0 0), (1, vi (x1 + v3)), (2, vi (x2 + 1))]) rfl ?_
      exact ih _ _ _ h
set_option maxRecDepth 100000 in
set_option maxHeartbeats 4000000 in
theorem c_L_allBubbles_p3_0 (l : Launch) {E : xE} {S S' : xSt} {r0 : Nat} (hk0 : xkd E r0 = 3) (hA0 : xFam E r0) {v : Int} (h : f_L_allBubbles_p3_0 S r0 = some (v, S')) : Met l yL_allBubbles (xws yL_allBubbles cL_allBubbles 3 (some .int)) (rmD 2) (YPc E [vr E r0 0] S) (YQi E v S') 0 0 (xA E) := by
  unfold f_L_allBubbles_p3_0 at h
  refine met_i (by decide +kernel) (Nat.le_of_ble_eq_true rfl) (fun K hC hZ hE => ?_)
  have hC : xOK K cL_allBubbles RL 3 (rmE 2 0) := hC
  show WG K E 0 [(0, vr E r0 0)] [] S
  refine g_iconst hC (rfl : 0 + 1 = 1) (xdt tt_L_allBubbles 0 rfl) ?_
  refine g_istore_n hC rfl (by decide) (lv' := [(1, vi 0), (0, vr E r0 0)]) rfl (rfl : 1 + 1 = 2) (xdt tt_L_allBubbles 1 rfl) ?_
  refine g_iconst hC (rfl : 2 + 1 = 3) (xdt tt_L_allBubbles 2 rfl) ?_
  refine g_istore_n hC rfl (by decide) (lv' := [(2, vi 1), (1, vi 0), (0, vr E r0 0)]) rfl (rfl : 3 + 1 = 4) (xdt tt_L_allBubbles 3 rfl) ?_
  refine g_sub [2, 1, 0] (lv' := [(0, vr E r0 0), (1, vi 0), (2, vi 1)]) rfl ?_
  exact k_L_allBubbles_p3_0_b4 hC hZ hE hk0 hA0 _ _ _ _ h
def f_L_isSound_p3_0_b70 (r0 : Nat) : Nat → xSt → Int → Int → Int → Option (Int × xSt)
  | 0, _, _, _, _ => none
  | fuel + 1, S, x1, x2, x3 =>
    if wr 10 ≤ wr x3 then
      (bd2 (f_X11_count_p3_0 S r0 10) fun v6 S5 =>
      bd2 (f_X11_agrees_p3_0 S5 r0) fun v9 S8 =>
      if wr v9 = 0 then
        (some (0, S8))
      else
        (if ¬ wr x1 = wr v6 then
          (some (0, S8))
        else
          (if ¬ wr x2 = wr v6 then
            (some (0, S8))
          else
            (bd2 (f_X11_count_p3_0 S8 r0 11) fun v13 S12 =>
            bd2 (f_X11_count_p3_0 S12 r0 18) fun v16 S15 =>
            if wr v13 < wr v16 then
              (some (0, S15))
            else
              (bd2 (f_X11_count_p3_0 S15 r0 17) fun v19 S18 =>
              if wr v6 < wr v19 then
                (some (0, S18))
              else
                (bd2 (f_X11_count_p3_0 S18 r0 12) fun v22 S21 =>
                if wr v6 < wr (2 * v22) then
                  (some (0, S21))
                else
                  (bd2 (f_X11_count_p3_0 S21 r0 18) fun v25 S24 =>
                  bd2 (f_X11_count_p3_0 S24 r0 5) fun v28 S27 =>
                  if wr v28 < wr v25 then
                    (some (0, S27))
                  else
                    (bd2 (f_X11_count_p3_0 S27 r0 19) fun v31 S30 =>
                    bd2 (f_X11_count_p3_0 S30 r0 4) fun v34 S33 =>
                    if wr v31 ≤ wr v34 then
                      (if wr v6 = 0 then
                        (some (1, S33))
                      else
                        (bd2 (f_X11_decoded_p3_0 S33 r0 0) fun v37 S36 =>
                        bd2 (f_X11_plain_p3_0 S36 r0 (v6 - 1)) fun v40 S39 =>
                        if ¬ wr v37 = wr v40 then
                          (some (0, S39))
                        else
                          (bd2 (f_X11_decoded_p3_0 S39 r0 0) fun v43 S42 =>
                          bd2 (f_X11_times_p3_0 S42 r0 v43) fun v46 S45 =>
                          if wr v46 ≤ 0 then
                            (some (0, S45))
                          else
                            (some (1, S45)))))
                    else
                      (some (0, S33))))))))))
    else
      (bd2 (f_X11_ofKind_p3_0 S r0 x3 1) fun v60 S59 =>
      (f_L_isSound_p3_0_b70 r0 fuel) S59 x1 (x2 + v60) (x3 + 1))
def f_L_isSound_p3_0_b4 (r0 : Nat) : Nat → xSt → Int → Int → Option (Int × xSt)
  | 0, _, _, _ => none
  | fuel + 1, S, x1, x2 =>
    bd2 (f_X11_count_p3_0 S r0 0) fun v3 S2 =>
    if wr v3 ≤ wr x2 then
      (f_L_isSound_p3_0_b70 r0 (fu S2) S2 x1 0 0)
    else
      (bd2 (f_X11_times_p3_0 S2 r0 x2) fun v64 S63 =>
      bd2 (f_X11_instruction_p3_0 S63 r0 x2 1) fun v67 S66 =>
      bd2 (f_X11_at_p3_0 S66 r0 v67) fun v70 S69 =>
      if ¬ wr v70 = wr x2 then
        (some (0, S69))
      else
        (bd2 (f_X11_instruction_p3_0 S69 r0 x2 1) fun v73 S72 =>
        bd2 (f_X11_instruction_p3_0 S72 r0 x2 2) fun v76 S75 =>
        bd2 (f_X11_at_p3_0 S75 r0 ((v73 + v76) - 1)) fun v79 S78 =>
        if wr v79 = wr x2 then
          ((f_L_isSound_p3_0_b4 r0 fuel) S78 (x1 + v64) (x2 + 1))
        else
          (some (0, S78))))
def f_L_isSound_p3_0 (S : xSt) (r0 : Nat) : Option (Int × xSt) :=
  f_L_isSound_p3_0_b4 r0 (fu S) S 0 0
set_option maxRecDepth 100000 in
set_option maxHeartbeats 4000000 in
theorem k_L_isSound_p3_0_b70 {K : xCtx} {E : xE} {b : Nat} (hC : xOK K cL_isSound RL 4 (rmE 4 b)) (hZ : xZ K) {v : Int} {S' : xSt} (hE : xEnd K E (some .boolean) (YQz E v S')) {r0 : Nat} (hk0 : xkd E r0 = 3) (hA0 : xFam E r0) : ∀ (fuel : Nat) (S : xSt) (x1 : Int) (x2 : Int) (x3 : Int), f_L_isSound_p3_0_b70 r0 fuel S x1 x2 x3 = some (v, S') → WG K E 70 [(0, vr E r0 0), (1, vi x1), (2, vi x2), (3, vi x3)] [] S := by
  intro fuel
  induction fuel with
  | zero => intro S x1 x2 x3 h; cases h
  | succ fuel ih =>
    intro S x1 x2 x3 h
    rw [f_L_isSound_p3_0_b70] at h
    refine g_iload_n hC rfl 3 rfl (rfl : 70 + 1 = 71) (xdt tt_L_isSound 46 rfl) ?_
    refine g_bipush hC (by decide) (rfl : 71 + 2 = 73) (xdt tt_L_isSound 47 rfl) ?_
    refine g_icmp_ge hC (show ((73 : Nat) : Int) + 18 = ((91 : Nat) : Int) by decide) (rfl : 73 + 3 = 76) (xdt tt_L_isSound 48 rfl) (fun hc61 => ?_) (fun hc61 => ?_)
    · replace h := (if_pos hc61).symm.trans h
      refine g_aload_n hC rfl 0 rfl (rfl : 91 + 1 = 92) (xdt tt_L_isSound 58 rfl) ?_
      refine g_bipush hC (by decide) (rfl : 92 + 2 = 94) (xdt tt_L_isSound 59 rfl) ?_
      obtain ⟨v6, S5, hc4, h⟩ := bd2_i h
      refine g_callVi hC hZ hk0 kclX11 ly3_0 m_X11_count q837 (Nat.le_of_ble_eq_true rfl) [vi 10] rfl (fun l => c_X11_count_p3_0 l hk0 hA0 hc4) rfl (Nat.le_of_ble_eq_true rfl) (rfl : 94 + 3 = 97) (xdt tt_L_isSound 60 rfl) ?_
      refine g_istore_n hC rfl (by decide) (lv' := [(3, vi v6), (0, vr E r0 0), (1, vi x1), (2, vi x2)]) rfl (rfl : 97 + 1 = 98) (xdt tt_L_isSound 61 rfl) ?_
      refine g_aload_n hC rfl 1 rfl (rfl : 98 + 1 = 99) (xdt tt_L_isSound 62 rfl) ?_
      obtain ⟨v9, S8, hc7, h⟩ := bd2_i h
      refine g_callVz hC hZ hk0 kclX11 ly3_0 m_X11_agrees q894 (Nat.le_of_ble_eq_true rfl) [] rfl (fun l => c_X11_agrees_p3_0 l hk0 hA0 hc7) rfl (Nat.le_of_ble_eq_true rfl) (rfl : 99 + 3 = 102) (xdt tt_L_isSound 63 rfl) (fun hb10 => ?_)
      refine g_if_eq hC (show ((102 : Nat) : Int) + 78 = ((180 : Nat) : Int) by decide) (rfl : 102 + 3 = 105) (xdt tt_L_isSound 64 rfl) (fun hc57 => ?_) (fun hc57 => ?_)
      · replace h := (if_pos hc57).symm.trans h
        refine g_iconst hC (rfl : 180 + 1 = 181) (xdt tt_L_isSound 104 rfl) ?_
        cases h
        exact g_zret hC hE (Or.inl rfl) (xdt tt_L_isSound 105 rfl)
      · replace h := (if_neg hc57).symm.trans h
        refine g_iload_n hC rfl 2 rfl (rfl : 105 + 1 = 106) (xdt tt_L_isSound 65 rfl) ?_
        refine g_iload_n hC rfl 0 rfl (rfl : 106 + 1 = 107) (xdt tt_L_isSound 66 rfl) ?_
        refine g_icmp_ne hC (show ((107 : Nat) : Int) + 73 = ((180 : Nat) : Int) by decide) (rfl : 107 + 3 = 110) (xdt tt_L_isSound 67 rfl) (fun hc56 => ?_) (fun hc56 => ?_)
        · replace h := (if_pos hc56).symm.trans h
          refine g_iconst hC (rfl : 180 + 1 = 181) (xdt tt_L_isSound 104 rfl) ?_
          cases h
          exact g_zret hC hE (Or.inl rfl) (xdt tt_L_isSound 105 rfl)
        · replace h := (if_neg hc56).symm.trans h
          refine g_iload_n hC rfl 3 rfl (rfl : 110 + 1 = 111) (xdt tt_L_isSound 68 rfl) ?_
          refine g_iload_n hC rfl 0 rfl (rfl : 111 + 1 = 112) (xdt tt_L_isSound 69 rfl) ?_
          refine g_icmp_ne hC (show ((112 : Nat) : Int) + 68 = ((180 : Nat) : Int) by decide) (rfl : 112 + 3 = 115) (xdt tt_L_isSound 70 rfl) (fun hc55 => ?_) (fun hc55 => ?_)
          · replace h := (if_pos hc55).symm.trans h
            refine g_iconst hC (rfl : 180 + 1 = 181) (xdt tt_L_isSound 104 rfl) ?_
            cases h
            exact g_zret hC hE (Or.inl rfl) (xdt tt_L_isSound 105 rfl)
          · replace h := (if_neg hc55).symm.trans h
            refine g_aload_n hC rfl 1 rfl (rfl : 115 + 1 = 116) (xdt tt_L_isSound 71 rfl) ?_
            refine g_bipush hC (by decide) (rfl : 116 + 2 = 118) (xdt tt_L_isSound 72 rfl) ?_
            obtain ⟨v13, S12, hc11, h⟩ := bd2_i h
            refine g_callVi hC hZ hk0 kclX11 ly3_0 m_X11_count q837 (Nat.le_of_ble_eq_true rfl) [vi 11] rfl (fun l => c_X11_count_p3_0 l hk0 hA0 hc11) rfl (Nat.le_of_ble_eq_true rfl) (rfl : 118 + 3 = 121) (xdt tt_L_isSound 73 rfl) ?_
            refine g_aload_n hC rfl 1 rfl (rfl : 121 + 1 = 122) (xdt tt_L_isSound 74 rfl) ?_
            refine g_bipush hC (by decide) (rfl : 122 + 2 = 124) (xdt tt_L_isSound 75 rfl) ?_
            obtain ⟨v16, S15, hc14, h⟩ := bd2_i h
            refine g_callVi hC hZ hk0 kclX11 ly3_0 m_X11_count q837 (Nat.le_of_ble_eq_true rfl) [vi 18] rfl (fun l => c_X11_count_p3_0 l hk0 hA0 hc14) rfl (Nat.le_of_ble_eq_true rfl) (rfl : 124 + 3 = 127) (xdt tt_L_isSound 76 rfl) ?_
            refine g_icmp_lt hC (show ((127 : Nat) : Int) + 53 = ((180 : Nat) : Int) by decide) (rfl : 127 + 3 = 130) (xdt tt_L_isSound 77 rfl) (fun hc54 => ?_) (fun hc54 => ?_)
            · replace h := (if_pos hc54).symm.trans h
              refine g_iconst hC (rfl : 180 + 1 = 181) (xdt tt_L_isSound 104 rfl) ?_
              cases h
              exact g_zret hC hE (Or.inl rfl) (xdt tt_L_isSound 105 rfl)
            · replace h := (if_neg hc54).symm.trans h
              refine g_aload_n hC rfl 1 rfl (rfl : 130 + 1 = 131) (xdt tt_L_isSound 78 rfl) ?_
              refine g_bipush hC (by decide) (rfl : 131 + 2 = 133) (xdt tt_L_isSound 79 rfl) ?_
              obtain ⟨v19, S18, hc17, h⟩ := bd2_i h
              refine g_callVi hC hZ hk0 kclX11 ly3_0 m_X11_count q837 (Nat.le_of_ble_eq_true rfl) [vi 17] rfl (fun l => c_X11_count_p3_0 l hk0 hA0 hc17) rfl (Nat.le_of_ble_eq_true rfl) (rfl : 133 + 3 = 136) (xdt tt_L_isSound 80 rfl) ?_
              refine g_iload_n hC rfl 0 rfl (rfl : 136 + 1 = 137) (xdt tt_L_isSound 81 rfl) ?_
              refine g_icmp_gt hC (show ((137 : Nat) : Int) + 43 = ((180 : Nat) : Int) by decide) (rfl : 137 + 3 = 140) (xdt tt_L_isSound 82 rfl) (fun hc53 => ?_) (fun hc53 => ?_)
              · replace h := (if_pos hc53).symm.trans h
                refine g_iconst hC (rfl : 180 + 1 = 181) (xdt tt_L_isSound 104 rfl) ?_
                cases h
                exact g_zret hC hE (Or.inl rfl) (xdt tt_L_isSound 105 rfl)
              · replace h := (if_neg hc53).symm.trans h
                refine g_iconst hC (rfl : 140 + 1 = 141) (xdt tt_L_isSound 83 rfl) ?_
                refine g_aload_n hC rfl 1 rfl (rfl : 141 + 1 = 142) (xdt tt_L_isSound 84 rfl) ?_
                refine g_bipush hC (by decide) (rfl : 142 + 2 = 144) (xdt tt_L_isSound 85 rfl) ?_
                obtain ⟨v22, S21, hc20, h⟩ := bd2_i h
                refine g_callVi hC hZ hk0 kclX11 ly3_0 m_X11_count q837 (Nat.le_of_ble_eq_true rfl) [vi 12] rfl (fun l => c_X11_count_p3_0 l hk0 hA0 hc20) rfl (Nat.le_of_ble_eq_true rfl) (rfl : 144 + 3 = 147) (xdt tt_L_isSound 86 rfl) ?_
                refine g_imul hC (rfl : 147 + 1 = 148) (xdt tt_L_isSound 87 rfl) ?_
                refine g_iload_n hC rfl 0 rfl (rfl : 148 + 1 = 149) (xdt tt_L_isSound 88 rfl) ?_
                refine g_icmp_gt hC (show ((149 : Nat) : Int) + 31 = ((180 : Nat) : Int) by decide) (rfl : 149 + 3 = 152) (xdt tt_L_isSound 89 rfl) (fun hc52 => ?_) (fun hc52 => ?_)
                · replace h := (if_pos hc52).symm.trans h
                  refine g_iconst hC (rfl : 180 + 1 = 181) (xdt tt_L_isSound 104 rfl) ?_
                  cases h
                  exact g_zret hC hE (Or.inl rfl) (xdt tt_L_isSound 105 rfl)
                · replace h := (if_neg hc52).symm.trans h
                  refine g_aload_n hC rfl 1 rfl (rfl : 152 + 1 = 153) (xdt tt_L_isSound 90 rfl) ?_
                  refine g_bipush hC (by decide) (rfl : 153 + 2 = 155) (xdt tt_L_isSound 91 rfl) ?_
                  obtain ⟨v25, S24, hc23, h⟩ := bd2_i h
                  refine g_callVi hC hZ hk0 kclX11 ly3_0 m_X11_count q837 (Nat.le_of_ble_eq_true rfl) [vi 18] rfl (fun l => c_X11_count_p3_0 l hk0 hA0 hc23) rfl (Nat.le_of_ble_eq_true rfl) (rfl : 155 + 3 = 158) (xdt tt_L_isSound 92 rfl) ?_
                  refine g_aload_n hC rfl 1 rfl (rfl : 158 + 1 = 159) (xdt tt_L_isSound 93 rfl) ?_
                  refine g_iconst hC (rfl : 159 + 1 = 160) (xdt tt_L_isSound 94 rfl) ?_
                  obtain ⟨v28, S27, hc26, h⟩ := bd2_i h
                  refine g_callVi hC hZ hk0 kclX11 ly3_0 m_X11_count q837 (Nat.le_of_ble_eq_true rfl) [vi 5] rfl (fun l => c_X11_count_p3_0 l hk0 hA0 hc26) rfl (Nat.le_of_ble_eq_true rfl) (rfl : 160 + 3 = 163) (xdt tt_L_isSound 95 rfl) ?_
                  refine g_icmp_gt hC (show ((163 : Nat) : Int) + 17 = ((180 : Nat) : Int) by decide) (rfl : 163 + 3 = 166) (xdt tt_L_isSound 96 rfl) (fun hc51 => ?_) (fun hc51 => ?_)
                  · replace h := (if_pos hc51).symm.trans h
                    refine g_iconst hC (rfl : 180 + 1 = 181) (xdt tt_L_isSound 104 rfl) ?_
                    cases h
                    exact g_zret hC hE (Or.inl rfl) (xdt tt_L_isSound 105 rfl)
                  · replace h := (if_neg hc51).symm.trans h
                    refine g_aload_n hC rfl 1 rfl (rfl : 166 + 1 = 167) (xdt tt_L_isSound 97 rfl) ?_
                    refine g_bipush hC (by decide) (rfl : 167 + 2 = 169) (xdt tt_L_isSound 98 rfl) ?_
                    obtain ⟨v31, S30, hc29, h⟩ := bd2_i h
                    refine g_callVi hC hZ hk0 kclX11 ly3_0 m_X11_count q837 (Nat.le_of_ble_eq_true rfl) [vi 19] rfl (fun l => c_X11_count_p3_0 l hk0 hA0 hc29) rfl (Nat.le_of_ble_eq_true rfl) (rfl : 169 + 3 = 172) (xdt tt_L_isSound 99 rfl) ?_
                    refine g_aload_n hC rfl 1 rfl (rfl : 172 + 1 = 173) (xdt tt_L_isSound 100 rfl) ?_
                    refine g_iconst hC (rfl : 173 + 1 = 174) (xdt tt_L_isSound 101 rfl) ?_
                    obtain ⟨v34, S33, hc32, h⟩ := bd2_i h
                    refine g_callVi hC hZ hk0 kclX11 ly3_0 m_X11_count q837 (Nat.le_of_ble_eq_true rfl) [vi 4] rfl (fun l => c_X11_count_p3_0 l hk0 hA0 hc32) rfl (Nat.le_of_ble_eq_true rfl) (rfl : 174 + 3 = 177) (xdt tt_L_isSound 102 rfl) ?_
                    refine g_icmp_le hC (show ((177 : Nat) : Int) + 5 = ((182 : Nat) : Int) by decide) (rfl : 177 + 3 = 180) (xdt tt_L_isSound 103 rfl) (fun hc50 => ?_) (fun hc50 => ?_)
                    · replace h := (if_pos hc50).symm.trans h
                      refine g_iload_n hC rfl 0 rfl (rfl : 182 + 1 = 183) (xdt tt_L_isSound 106 rfl) ?_
                      refine g_if_eq hC (show ((183 : Nat) : Int) + 30 = ((213 : Nat) : Int) by decide) (rfl : 183 + 3 = 186) (xdt tt_L_isSound 107 rfl) (fun hc49 => ?_) (fun hc49 => ?_)
                      · replace h := (if_pos hc49).symm.trans h
                        refine g_iconst hC (rfl : 213 + 1 = 214) (xdt tt_L_isSound 123 rfl) ?_
                        refine g_goto hC (show ((214 : Nat) : Int) + 4 = ((218 : Nat) : Int) by decide) (xdt tt_L_isSound 124 rfl) ?_
                        cases h
                        exact g_zret hC hE (Or.inr rfl) (xdt tt_L_isSound 126 rfl)
                      · replace h := (if_neg hc49).symm.trans h
                        refine g_aload_n hC rfl 1 rfl (rfl : 186 + 1 = 187) (xdt tt_L_isSound 108 rfl) ?_
                        refine g_iconst hC (rfl : 187 + 1 = 188) (xdt tt_L_isSound 109 rfl) ?_
                        obtain ⟨v37, S36, hc35, h⟩ := bd2_i h
                        refine g_callVi hC hZ hk0 kclX11 ly3_0 m_X11_decoded q900 (Nat.le_of_ble_eq_true rfl) [vi 0] rfl (fun l => c_X11_decoded_p3_0 l hk0 hA0 hc35) rfl (Nat.le_of_ble_eq_true rfl) (rfl : 188 + 3 = 191) (xdt tt_L_isSound 110 rfl) ?_
                        refine g_aload_n hC rfl 1 rfl (rfl : 191 + 1 = 192) (xdt tt_L_isSound 111 rfl) ?_
                        refine g_iload_n hC rfl 0 rfl (rfl : 192 + 1 = 193) (xdt tt_L_isSound 112 rfl) ?_
                        refine g_iconst hC (rfl : 193 + 1 = 194) (xdt tt_L_isSound 113 rfl) ?_
                        refine g_isub hC (rfl : 194 + 1 = 195) (xdt tt_L_isSound 114 rfl) ?_
                        obtain ⟨v40, S39, hc38, h⟩ := bd2_i h
                        refine g_callVi hC hZ hk0 kclX11 ly3_0 m_X11_plain q907 (Nat.le_of_ble_eq_true rfl) [vi (v6 - 1)] rfl (fun l => c_X11_plain_p3_0 l hk0 hA0 hc38) rfl (Nat.le_of_ble_eq_true rfl) (rfl : 195 + 3 = 198) (xdt tt_L_isSound 115 rfl) ?_
                        refine g_icmp_ne hC (show ((198 : Nat) : Int) + 19 = ((217 : Nat) : Int) by decide) (rfl : 198 + 3 = 201) (xdt tt_L_isSound 116 rfl) (fun hc48 => ?_) (fun hc48 => ?_)
                        · replace h := (if_pos hc48).symm.trans h
                          refine g_iconst hC (rfl : 217 + 1 = 218) (xdt tt_L_isSound 125 rfl) ?_
                          cases h
                          exact g_zret hC hE (Or.inl rfl) (xdt tt_L_isSound 126 rfl)
                        · replace h := (if_neg hc48).symm.trans h
                          refine g_aload_n hC rfl 1 rfl (rfl : 201 + 1 = 202) (xdt tt_L_isSound 117 rfl) ?_
                          refine g_aload_n hC rfl 1 rfl (rfl : 202 + 1 = 203) (xdt tt_L_isSound 118 rfl) ?_
                          refine g_iconst hC (rfl : 203 + 1 = 204) (xdt tt_L_isSound 119 rfl) ?_
                          obtain ⟨v43, S42, hc41, h⟩ := bd2_i h
                          refine g_callVi hC hZ hk0 kclX11 ly3_0 m_X11_decoded q900 (Nat.le_of_ble_eq_true rfl) [vi 0] rfl (fun l => c_X11_decoded_p3_0 l hk0 hA0 hc41) rfl (Nat.le_of_ble_eq_true rfl) (rfl : 204 + 3 = 207) (xdt tt_L_isSound 120 rfl) ?_
                          obtain ⟨v46, S45, hc44, h⟩ := bd2_i h
                          refine g_callVi hC hZ hk0 kclX11 ly3_0 m_X11_times q858 (Nat.le_of_ble_eq_true rfl) [vi v43] rfl (fun l => c_X11_times_p3_0 l hk0 hA0 hc44) rfl (Nat.le_of_ble_eq_true rfl) (rfl : 207 + 3 = 210) (xdt tt_L_isSound 121 rfl) ?_
                          refine g_if_le hC (show ((210 : Nat) : Int) + 7 = ((217 : Nat) : Int) by decide) (rfl : 210 + 3 = 213) (xdt tt_L_isSound 122 rfl) (fun hc47 => ?_) (fun hc47 => ?_)
                          · replace h := (if_pos hc47).symm.trans h
                            refine g_iconst hC (rfl : 217 + 1 = 218) (xdt tt_L_isSound 125 rfl) ?_
                            cases h
                            exact g_zret hC hE (Or.inl rfl) (xdt tt_L_isSound 126 rfl)
                          · replace h := (if_neg hc47).symm.trans h
                            refine g_iconst hC (rfl : 213 + 1 = 214) (xdt tt_L_isSound 123 rfl) ?_
                            refine g_goto hC (show ((214 : Nat) : Int) + 4 = ((218 : Nat) : Int) by decide) (xdt tt_L_isSound 124 rfl) ?_
                            cases h
                            exact g_zret hC hE (Or.inr rfl) (xdt tt_L_isSound 126 rfl)
                    · replace h := (if_neg hc50).symm.trans h
                      refine g_iconst hC (rfl : 180 + 1 = 181) (xdt tt_L_isSound 104 rfl) ?_
                      cases h
                      exact g_zret hC hE (Or.inl rfl) (xdt tt_L_isSound 105 rfl)
    · replace h := (if_neg hc61).symm.trans h
      refine g_iload_n hC rfl 2 rfl (rfl : 76 + 1 = 77) (xdt tt_L_isSound 49 rfl) ?_
      refine g_aload_n hC rfl 0 rfl (rfl : 77 + 1 = 78) (xdt tt_L_isSound 50 rfl) ?_
      refine g_iload_n hC rfl 3 rfl (rfl : 78 + 1 = 79) (xdt tt_L_isSound 51 rfl) ?_
      refine g_iconst hC (rfl : 79 + 1 = 80) (xdt tt_L_isSound 52 rfl) ?_
      obtain ⟨v60, S59, hc58, h⟩ := bd2_i h
      refine g_callVi hC hZ hk0 kclX11 ly3_0 m_X11_ofKind q890 (Nat.le_of_ble_eq_true rfl) [vi x3, vi 1] rfl (fun l => c_X11_ofKind_p3_0 l hk0 hA0 hc58) rfl (Nat.le_of_ble_eq_true rfl) (rfl : 80 + 3 = 83) (xdt tt_L_isSound 53 rfl) ?_
      refine g_iadd hC (rfl : 83 + 1 = 84) (xdt tt_L_isSound 54 rfl) ?_
      refine g_istore_n hC rfl (by decide) (lv' := [(2, vi (x2 + v60)), (0, vr E r0 0), (1, vi x1), (3, vi x3)]) rfl (rfl : 84 + 1 = 85) (xdt tt_L_isSound 55 rfl) ?_
      refine g_iinc hC 3 rfl (by decide) (lv' := [(3, vi (x3 + 1)), (2, vi (x2 + v60)), (0, vr E r0 0), (1, vi x1)]) rfl (rfl : 85 + 3 = 88) (xdt tt_L_isSound 56 rfl) ?_
      refine g_goto hC (show ((88 : Nat) : Int) + (-18) = ((70 : Nat) : Int) by decide) (xdt tt_L_isSound 57 rfl) ?_
      refine g_sub [2, 3, 1, 0] (lv' := [(0, vr E r0 0), (1, vi x1), (2, vi (x2 + v60)), (3, vi (x3 + 1))]) rfl ?_
      exact ih _ _ _ _ h
set_option maxRecDepth 100000 in
set_option maxHeartbeats 4000000 in
theorem k_L_isSound_p3_0_b4 {K : xCtx} {E : xE} {b : Nat} (hC : xOK K cL_isSound RL 4 (rmE 4 b)) (hZ : xZ K) {v : Int} {S' : xSt} (hE : xEnd K E (some .boolean) (YQz E v S')) {r0 : Nat} (hk0 : xkd E r0 = 3) (hA0 : xFam E r0) : ∀ (fuel : Nat) (S : xSt) (x1 : Int) (x2 : Int), f_L_isSound_p3_0_b4 r0 fuel S x1 x2 = some (v, S') → WG K E 4 [(0, vr E r0 0), (1, vi x1), (2, vi x2)] [] S := by
  intro fuel
  induction fuel with
  | zero => intro S x1 x2 h; cases h
  | succ fuel ih =>
    intro S x1 x2 h
    rw [f_L_isSound_p3_0_b4] at h
    refine g_iload_n hC rfl 2 rfl (rfl : 4 + 1 = 5) (xdt tt_L_isSound 4 rfl) ?_
    refine g_aload_n hC rfl 0 rfl (rfl : 5 + 1 = 6) (xdt tt_L_isSound 5 rfl) ?_
    refine g_iconst hC (rfl : 6 + 1 = 7) (xdt tt_L_isSound 6 rfl) ?_
    obtain ⟨v3, S2, hc1, h⟩ := bd2_i h
    refine g_callVi hC hZ hk0 kclX11 ly3_0 m_X11_count q837 (Nat.le_of_ble_eq_true rfl) [vi 0] rfl (fun l => c_X11_count_p3_0 l hk0 hA0 hc1) rfl (Nat.le_of_ble_eq_true rfl) (rfl : 7 + 3 = 10) (xdt tt_L_isSound 7 rfl) ?_
    refine g_icmp_ge hC (show ((10 : Nat) : Int) + 56 = ((66 : Nat) : Int) by decide) (rfl : 10 + 3 = 13) (xdt tt_L_isSound 8 rfl) (fun hc82 => ?_) (fun hc82 => ?_)
    · replace h := (if_pos hc82).symm.trans h
      refine g_iconst hC (rfl : 66 + 1 = 67) (xdt tt_L_isSound 42 rfl) ?_
      refine g_istore_n hC rfl (by decide) (lv' := [(2, vi 0), (0, vr E r0 0), (1, vi x1)]) rfl (rfl : 67 + 1 = 68) (xdt tt_L_isSound 43 rfl) ?_
      refine g_iconst hC (rfl : 68 + 1 = 69) (xdt tt_L_isSound 44 rfl) ?_
      refine g_istore_n hC rfl (by decide) (lv' := [(3, vi 0), (2, vi 0), (0, vr E r0 0), (1, vi x1)]) rfl (rfl : 69 + 1 = 70) (xdt tt_L_isSound 45 rfl) ?_
      refine g_sub [2, 3, 1, 0] (lv' := [(0, vr E r0 0), (1, vi x1), (2, vi 0), (3, vi 0)]) rfl ?_
      exact k_L_isSound_p3_0_b70 hC hZ hE hk0 hA0 _ _ _ _ _ h
    · replace h := (if_neg hc82).symm.trans h
      refine g_iload_n hC rfl 1 rfl (rfl : 13 + 1 = 14) (xdt tt_L_isSound 9 rfl) ?_
      refine g_aload_n hC rfl 0 rfl (rfl : 14 + 1 = 15) (xdt tt_L_isSound 10 rfl) ?_
      refine g_iload_n hC rfl 2 rfl (rfl : 15 + 1 = 16) (xdt tt_L_isSound 11 rfl) ?_
      obtain ⟨v64, S63, hc62, h⟩ := bd2_i h
      refine g_callVi hC hZ hk0 kclX11 ly3_0 m_X11_times q858 (Nat.le_of_ble_eq_true rfl) [vi x2] rfl (fun l => c_X11_times_p3_0 l hk0 hA0 hc62) rfl (Nat.le_of_ble_eq_true rfl) (rfl : 16 + 3 = 19) (xdt tt_L_isSound 12 rfl) ?_
      refine g_iadd hC (rfl : 19 + 1 = 20) (xdt tt_L_isSound 13 rfl) ?_
      refine g_istore_n hC rfl (by decide) (lv' := [(1, vi (x1 + v64)), (0, vr E r0 0), (2, vi x2)]) rfl (rfl : 20 + 1 = 21) (xdt tt_L_isSound 14 rfl) ?_
      refine g_aload_n hC rfl 1 rfl (rfl : 21 + 1 = 22) (xdt tt_L_isSound 15 rfl) ?_
      refine g_aload_n hC rfl 1 rfl (rfl : 22 + 1 = 23) (xdt tt_L_isSound 16 rfl) ?_
      refine g_iload_n hC rfl 2 rfl (rfl : 23 + 1 = 24) (xdt tt_L_isSound 17 rfl) ?_
      refine g_iconst hC (rfl : 24 + 1 = 25) (xdt tt_L_isSound 18 rfl) ?_
      obtain ⟨v67, S66, hc65, h⟩ := bd2_i h
      refine g_callVi hC hZ hk0 kclX11 ly3_0 m_X11_instruction q865 (Nat.le_of_ble_eq_true rfl) [vi x2, vi 1] rfl (fun l => c_X11_instruction_p3_0 l hk0 hA0 hc65) rfl (Nat.le_of_ble_eq_true rfl) (rfl : 25 + 3 = 28) (xdt tt_L_isSound 19 rfl) ?_
      obtain ⟨v70, S69, hc68, h⟩ := bd2_i h
      refine g_callVi hC hZ hk0 kclX11 ly3_0 m_X11_at q885 (Nat.le_of_ble_eq_true rfl) [vi v67] rfl (fun l => c_X11_at_p3_0 l hk0 hA0 hc68) rfl (Nat.le_of_ble_eq_true rfl) (rfl : 28 + 3 = 31) (xdt tt_L_isSound 20 rfl) ?_
      refine g_iload_n hC rfl 2 rfl (rfl : 31 + 1 = 32) (xdt tt_L_isSound 21 rfl) ?_
      refine g_icmp_ne hC (show ((32 : Nat) : Int) + 26 = ((58 : Nat) : Int) by decide) (rfl : 32 + 3 = 35) (xdt tt_L_isSound 22 rfl) (fun hc81 => ?_) (fun hc81 => ?_)
      · replace h := (if_pos hc81).symm.trans h
        refine g_iconst hC (rfl : 58 + 1 = 59) (xdt tt_L_isSound 38 rfl) ?_
        cases h
        exact g_zret hC hE (Or.inl rfl) (xdt tt_L_isSound 39 rfl)
      · replace h := (if_neg hc81).symm.trans h
        refine g_aload_n hC rfl 1 rfl (rfl : 35 + 1 = 36) (xdt tt_L_isSound 23 rfl) ?_
        refine g_aload_n hC rfl 1 rfl (rfl : 36 + 1 = 37) (xdt tt_L_isSound 24 rfl) ?_
        refine g_iload_n hC rfl 2 rfl (rfl : 37 + 1 = 38) (xdt tt_L_isSound 25 rfl) ?_
        refine g_iconst hC (rfl : 38 + 1 = 39) (xdt tt_L_isSound 26 rfl) ?_
        obtain ⟨v73, S72, hc71, h⟩ := bd2_i h
        refine g_callVi hC hZ hk0 kclX11 ly3_0 m_X11_instruction q865 (Nat.le_of_ble_eq_true rfl) [vi x2, vi 1] rfl (fun l => c_X11_instruction_p3_0 l hk0 hA0 hc71) rfl (Nat.le_of_ble_eq_true rfl) (rfl : 39 + 3 = 42) (xdt tt_L_isSound 27 rfl) ?_
        refine g_aload_n hC rfl 1 rfl (rfl : 42 + 1 = 43) (xdt tt_L_isSound 28 rfl) ?_
        refine g_iload_n hC rfl 2 rfl (rfl : 43 + 1 = 44) (xdt tt_L_isSound 29 rfl) ?_
        refine g_iconst hC (rfl : 44 + 1 = 45) (xdt tt_L_isSound 30 rfl) ?_
        obtain ⟨v76, S75, hc74, h⟩ := bd2_i h
        refine g_callVi hC hZ hk0 kclX11 ly3_0 m_X11_instruction q865 (Nat.le_of_ble_eq_true rfl) [vi x2, vi 2] rfl (fun l => c_X11_instruction_p3_0 l hk0 hA0 hc74) rfl (Nat.le_of_ble_eq_true rfl) (rfl : 45 + 3 = 48) (xdt tt_L_isSound 31 rfl) ?_
        refine g_iadd hC (rfl : 48 + 1 = 49) (xdt tt_L_isSound 32 rfl) ?_
        refine g_iconst hC (rfl : 49 + 1 = 50) (xdt tt_L_isSound 33 rfl) ?_
        refine g_isub hC (rfl : 50 + 1 = 51) (xdt tt_L_isSound 34 rfl) ?_
        obtain ⟨v79, S78, hc77, h⟩ := bd2_i h
        refine g_callVi hC hZ hk0 kclX11 ly3_0 m_X11_at q885 (Nat.le_of_ble_eq_true rfl) [vi ((v73 + v76) - 1)] rfl (fun l => c_X11_at_p3_0 l hk0 hA0 hc77) rfl (Nat.le_of_ble_eq_true rfl) (rfl : 51 + 3 = 54) (xdt tt_L_isSound 35 rfl) ?_
        refine g_iload_n hC rfl 2 rfl (rfl : 54 + 1 = 55) (xdt tt_L_isSound 36 rfl) ?_
        refine g_icmp_eq hC (show ((55 : Nat) : Int) + 5 = ((60 : Nat) : Int) by decide) (rfl : 55 + 3 = 58) (xdt tt_L_isSound 37 rfl) (fun hc80 => ?_) (fun hc80 => ?_)
        · replace h := (if_pos hc80).symm.trans h
          refine g_iinc hC 2 rfl (by decide) (lv' := [(2, vi (x2 + 1)), (1, vi (x1 + v64)), (0, vr E r0 0)]) rfl (rfl : 60 + 3 = 63) (xdt tt_L_isSound 40 rfl) ?_
          refine g_goto hC (show ((63 : Nat) : Int) + (-59) = ((4 : Nat) : Int) by decide) (xdt tt_L_isSound 41 rfl) ?_
          refine g_sub [2, 1, 0] (lv' := [(0, vr E r0 0), (1, vi (x1 + v64)), (2, vi (x2 + 1))]) rfl ?_
          exact ih _ _ _ h
        · replace h := (if_neg hc80).symm.trans h
          refine g_iconst hC (rfl : 58 + 1 = 59) (xdt tt_L_isSound 38 rfl) ?_
          cases h
          exact g_zret hC hE (Or.inl rfl) (xdt tt_L_isSound 39 rfl)
set_option maxRecDepth 100000 in
set_option maxHeartbeats 4000000 in
theorem c_L_isSound_p3_0 (l : Launch) {E : xE} {S S' : xSt} {r0 : Nat} (hk0 : xkd E r0 = 3) (hA0 : xFam E r0) {v : Int} (h : f_L_isSound_p3_0 S r0 = some (v, S')) : Met l yL_isSound (xws yL_isSound cL_isSound 4 (some .boolean)) (rmD 4) (YPc E [vr E r0 0] S) (YQz E v S') 0 0 (xA E) := by
  unfold f_L_isSound_p3_0 at h
  refine met_z (by decide +kernel) (Nat.le_of_ble_eq_true rfl) (fun K hC hZ hE => ?_)
  have hC : xOK K cL_isSound RL 4 (rmE 4 0) := hC
  show WG K E 0 [(0, vr E r0 0)] [] S
  refine g_iconst hC (rfl : 0 + 1 = 1) (xdt tt_L_isSound 0 rfl) ?_
  refine g_istore_n hC rfl (by decide) (lv' := [(1, vi 0), (0, vr E r0 0)]) rfl (rfl : 1 + 1 = 2) (xdt tt_L_isSound 1 rfl) ?_
  refine g_iconst hC (rfl : 2 + 1 = 3) (xdt tt_L_isSound 2 rfl) ?_
  refine g_istore_n hC rfl (by decide) (lv' := [(2, vi 0), (1, vi 0), (0, vr E r0 0)]) rfl (rfl : 3 + 1 = 4) (xdt tt_L_isSound 3 rfl) ?_
  refine g_sub [2, 1, 0] (lv' := [(0, vr E r0 0), (1, vi 0), (2, vi 0)]) rfl ?_
  exact k_L_isSound_p3_0_b4 hC hZ hE hk0 hA0 _ _ _ _ h
def f_J0_coder_7d493_pS_0 (S : xSt) (r0 : Nat) (m0 : Nat) : Option (Int × xSt) :=
  ck0 (gI S r0 0 1) <|
  some (0, S)
set_option maxRecDepth 100000 in
set_option maxHeartbeats 4000000 in
theorem c_J0_coder_7d493_pS_0 (l : Launch) {E : xE} {S S' : xSt} {r0 : Nat} {m0 : Nat} (hk0 : xkd E r0 = 100 + m0) {v : Int} (h : f_J0_coder_7d493_pS_0 S r0 m0 = some (v, S')) : Met l yJ0_coder_7d493 (xws yJ0_coder_7d493 cJ0_coder_7d493 1 (some .byte)) (rmD 1) (YPc E [vr E r0 0] S) (YQb E v S') 0 0 (xA E) := by
  unfold f_J0_coder_7d493_pS_0 at h
  refine met_b (by decide +kernel) (Nat.le_of_ble_eq_true rfl) (fun K hC hZ hE => ?_)
  have hC : xOK K cJ0_coder_7d493 RJ0 1 (rmE 1 0) := hC
  show WG K E 0 [(0, vr E r0 0)] [] S
  refine g_strS hC q300 (rfl : 0 + 3 = 3) (xdt tt_J0_coder_7d493 0 rfl) ?_
  refine g_if_eq hC (show ((3 : Nat) : Int) + 10 = ((13 : Nat) : Int) by decide) (rfl : 3 + 3 = 6) (xdt tt_J0_coder_7d493 1 rfl) (fun hc => absurd hc (by decide)) (fun _ => ?_)
  refine g_aload_n hC rfl 0 rfl (rfl : 6 + 1 = 7) (xdt tt_J0_coder_7d493 2 rfl) ?_
  refine g_getI hC hk0 kclJ0 lyS_0 1 (by decide) rfl q301 (rfl : 7 + 3 = 10) (xdt tt_J0_coder_7d493 3 rfl) ?_
  obtain ⟨hz1, h⟩ := ck0_i h
  refine g_eqi hz1.symm ?_
  refine g_goto hC (show ((10 : Nat) : Int) + 4 = ((14 : Nat) : Int) by decide) (xdt tt_J0_coder_7d493 4 rfl) ?_
  cases h
  exact g_bret hC hE rfl (xdt tt_J0_coder_7d493 6 rfl)
def f_J0_length_8abf5_pS_0 (S : xSt) (r0 : Nat) (m0 : Nat) : Option (Int × xSt) :=
  bd2 (f_J0_coder_7d493_pS_0 S r0 m0) fun v3 S2 =>
  some ((iSr (m0 : Int) v3), S2)
set_option maxRecDepth 100000 in
set_option maxHeartbeats 4000000 in
theorem c_J0_length_8abf5_pS_0 (l : Launch) {E : xE} {S S' : xSt} {r0 : Nat} {m0 : Nat} (hk0 : xkd E r0 = 100 + m0) {v : Int} (h : f_J0_length_8abf5_pS_0 S r0 m0 = some (v, S')) : Met l yJ0_length_8abf5 (xws yJ0_length_8abf5 cJ0_length_8abf5 1 (some .int)) (rmD 2) (YPc E [vr E r0 0] S) (YQi E v S') 0 0 (xA E) := by
  unfold f_J0_length_8abf5_pS_0 at h
  refine met_i (by decide +kernel) (Nat.le_of_ble_eq_true rfl) (fun K hC hZ hE => ?_)
  have hC : xOK K cJ0_length_8abf5 RJ0 1 (rmE 2 0) := hC
  show WG K E 0 [(0, vr E r0 0)] [] S
  refine g_aload_n hC rfl 0 rfl (rfl : 0 + 1 = 1) (xdt tt_J0_length_8abf5 0 rfl) ?_
  refine g_getP hC hk0 kclJ0 lyS_0 0 (by decide) (rfl : r0 + 0 = r0) rfl q295 (rfl : 1 + 3 = 4) (xdt tt_J0_length_8abf5 1 rfl) ?_
  refine g_alen hC hk0 lyS_1 (z := (m0 : Int)) rfl (rfl : 4 + 1 = 5) (xdt tt_J0_length_8abf5 2 rfl) ?_
  refine g_aload_n hC rfl 0 rfl (rfl : 5 + 1 = 6) (xdt tt_J0_length_8abf5 3 rfl) ?_
  obtain ⟨v3, S2, hc1, h⟩ := bd2_i h
  refine g_callVb hC hZ hk0 kclJ0 lyS_0 m_J0_coder_7d493 q296 (Nat.le_of_ble_eq_true rfl) [] rfl (fun l => c_J0_coder_7d493_pS_0 l hk0 hc1) rfl (Nat.le_of_ble_eq_true rfl) (rfl : 6 + 3 = 9) (xdt tt_J0_length_8abf5 4 rfl) (fun hb4 => ?_)
  refine g_ishr hC (rfl : 9 + 1 = 10) (xdt tt_J0_length_8abf5 5 rfl) ?_
  cases h
  exact g_iret hC hE (xdt tt_J0_length_8abf5 6 rfl)
def f_J0_isLatin1_aae02_pS_0 (S : xSt) (r0 : Nat) (m0 : Nat) : Option (Int × xSt) :=
  ck0 (gI S r0 0 1) <|
  some (1, S)
set_option maxRecDepth 100000 in
set_option maxHeartbeats 4000000 in
theorem c_J0_isLatin1_aae02_pS_0 (l : Launch) {E : xE} {S S' : xSt} {r0 : Nat} {m0 : Nat} (hk0 : xkd E r0 = 100 + m0) {v : Int} (h : f_J0_isLatin1_aae02_pS_0 S r0 m0 = some (v, S')) : Met l yJ0_isLatin1_aae02 (xws yJ0_isLatin1_aae02 cJ0_isLatin1_aae02 1 (some .boolean)) (rmD 1) (YPc E [vr E r0 0] S) (YQz E v S') 0 0 (xA E) := by
  unfold f_J0_isLatin1_aae02_pS_0 at h
  refine met_z (by decide +kernel) (Nat.le_of_ble_eq_true rfl) (fun K hC hZ hE => ?_)
  have hC : xOK K cJ0_isLatin1_aae02 RJ0 1 (rmE 1 0) := hC
  show WG K E 0 [(0, vr E r0 0)] [] S
  refine g_strS hC q300 (rfl : 0 + 3 = 3) (xdt tt_J0_isLatin1_aae02 0 rfl) ?_
  refine g_if_eq hC (show ((3 : Nat) : Int) + 14 = ((17 : Nat) : Int) by decide) (rfl : 3 + 3 = 6) (xdt tt_J0_isLatin1_aae02 1 rfl) (fun hc => absurd hc (by decide)) (fun _ => ?_)
  refine g_aload_n hC rfl 0 rfl (rfl : 6 + 1 = 7) (xdt tt_J0_isLatin1_aae02 2 rfl) ?_
  refine g_getI hC hk0 kclJ0 lyS_0 1 (by decide) rfl q301 (rfl : 7 + 3 = 10) (xdt tt_J0_isLatin1_aae02 3 rfl) ?_
  obtain ⟨hz1, h⟩ := ck0_i h
  refine g_eqi hz1.symm ?_
  refine g_if_ne hC (show ((10 : Nat) : Int) + 7 = ((17 : Nat) : Int) by decide) (rfl : 10 + 3 = 13) (xdt tt_J0_isLatin1_aae02 4 rfl) (fun hc => absurd hc (by decide)) (fun _ => ?_)
  refine g_iconst hC (rfl : 13 + 1 = 14) (xdt tt_J0_isLatin1_aae02 5 rfl) ?_
  refine g_goto hC (show ((14 : Nat) : Int) + 4 = ((18 : Nat) : Int) by decide) (xdt tt_J0_isLatin1_aae02 6 rfl) ?_
  cases h
  exact g_zret hC hE (Or.inr rfl) (xdt tt_J0_isLatin1_aae02 8 rfl)
def f_J2_length_9d52b_pS_1 (S : xSt) (r0 : Nat) (m0 : Nat) : Option (Int × xSt) :=
  some ((iSr (m0 : Int) 1), S)
set_option maxRecDepth 100000 in
set_option maxHeartbeats 4000000 in
theorem c_J2_length_9d52b_pS_1 (l : Launch) {E : xE} {S S' : xSt} {r0 : Nat} {m0 : Nat} (hk0 : xkd E r0 = 100 + m0) {v : Int} (h : f_J2_length_9d52b_pS_1 S r0 m0 = some (v, S')) : Met l yJ2_length_9d52b (xws yJ2_length_9d52b cJ2_length_9d52b 1 (some .int)) (rmD 1) (YPc E [vr E r0 1] S) (YQi E v S') 0 0 (xA E) := by
  unfold f_J2_length_9d52b_pS_1 at h
  refine met_i (by decide +kernel) (Nat.le_of_ble_eq_true rfl) (fun K hC hZ hE => ?_)
  have hC : xOK K cJ2_length_9d52b RJ2 1 (rmE 1 0) := hC
  show WG K E 0 [(0, vr E r0 1)] [] S
  refine g_aload_n hC rfl 0 rfl (rfl : 0 + 1 = 1) (xdt tt_J2_length_9d52b 0 rfl) ?_
  refine g_alen hC hk0 lyS_1 (z := (m0 : Int)) rfl (rfl : 1 + 1 = 2) (xdt tt_J2_length_9d52b 1 rfl) ?_
  refine g_iconst hC (rfl : 2 + 1 = 3) (xdt tt_J2_length_9d52b 2 rfl) ?_
  refine g_ishr hC (rfl : 3 + 1 = 4) (xdt tt_J2_length_9d52b 3 rfl) ?_
  cases h
  exact g_iret hC hE (xdt tt_J2_length_9d52b 4 rfl)
def f_J2_checkIndex_2214a_pS_1 (S : xSt) (a0 : Int) (r1 : Nat) (m1 : Nat) : Option (xSt) :=
  bd2 (f_J2_length_9d52b_pS_1 S r1 m1) fun v3 S2 =>
  bd (f_J0_checkIndex_df160 S2 a0 v3) fun S5 =>
  some S5
set_option maxRecDepth 100000 in
set_option maxHeartbeats 4000000 in
theorem c_J2_checkIndex_2214a_pS_1 (l : Launch) {E : xE} {S S' : xSt} {a0 : Int} {r1 : Nat} {m1 : Nat} (hk1 : xkd E r1 = 100 + m1) (h : f_J2_checkIndex_2214a_pS_1 S a0 r1 m1 = some S') : Met l yJ2_checkIndex_2214a (xws yJ2_checkIndex_2214a cJ2_checkIndex_2214a 2 none) (rmD 3) (YPc E [vi a0, vr E r1 1] S) (YQv E S') 0 0 (xA E) := by
  unfold f_J2_checkIndex_2214a_pS_1 at h
  refine met_v (by decide +kernel) (Nat.le_of_ble_eq_true rfl) (fun K hC hZ hE => ?_)
  have hC : xOK K cJ2_checkIndex_2214a RJ2 2 (rmE 3 0) := hC
  show WG K E 0 [(0, vi a0), (1, vr E r1 1)] [] S
  refine g_iload_n hC rfl 0 rfl (rfl : 0 + 1 = 1) (xdt tt_J2_checkIndex_2214a 0 rfl) ?_
  refine g_aload_n hC rfl 1 rfl (rfl : 1 + 1 = 2) (xdt tt_J2_checkIndex_2214a 1 rfl) ?_
  obtain ⟨v3, S2, hc1, h⟩ := bd2_i h
  refine g_callSi hC hZ m_J2_length_9d52b q274 (Nat.le_of_ble_eq_true rfl) [vr E r1 1] rfl (fun l => c_J2_length_9d52b_pS_1 l hk1 hc1) rfl (Nat.le_of_ble_eq_true rfl) (rfl : 2 + 3 = 5) (xdt tt_J2_checkIndex_2214a 2 rfl) ?_
  obtain ⟨S5, hc4, h⟩ := bd_i h
  refine g_callSv hC hZ m_J0_checkIndex_df160 q390 (Nat.le_of_ble_eq_true rfl) [vi a0, vi v3] rfl (fun l => c_J0_checkIndex_df160 l hc4) rfl (Nat.le_of_ble_eq_true rfl) (rfl : 5 + 3 = 8) (xdt tt_J2_checkIndex_2214a 3 rfl) ?_
  cases h
  exact g_vret hC hE (xdt tt_J2_checkIndex_2214a 4 rfl)
def f_J2_getChar_3b067_pS_1 (S : xSt) (r0 : Nat) (m0 : Nat) (a1 : Int) : Option (Int × xSt) :=
  none
set_option maxRecDepth 100000 in
set_option maxHeartbeats 4000000 in
theorem c_J2_getChar_3b067_pS_1 (l : Launch) {E : xE} {S S' : xSt} {r0 : Nat} {m0 : Nat} {a1 : Int} (hk0 : xkd E r0 = 100 + m0) {v : Int} (h : f_J2_getChar_3b067_pS_1 S r0 m0 a1 = some (v, S')) : Met l yJ2_getChar_3b067 (xws yJ2_getChar_3b067 cJ2_getChar_3b067 2 (some .char)) (rmD 1) (YPc E [vr E r0 1, vi a1] S) (YQc E v S') 0 0 (xA E) := by
  unfold f_J2_getChar_3b067_pS_1 at h
  refine met_c (by decide +kernel) (Nat.le_of_ble_eq_true rfl) (fun K hC hZ hE => ?_)
  have hC : xOK K cJ2_getChar_3b067 RJ2 2 (rmE 1 0) := hC
  show WG K E 0 [(0, vr E r0 1), (1, vi a1)] [] S
  cases h
def f_J2_charAt_3b067_pS_1 (S : xSt) (r0 : Nat) (m0 : Nat) (a1 : Int) : Option (Int × xSt) :=
  bd (f_J2_checkIndex_2214a_pS_1 S a1 r0 m0) fun S2 =>
  bd2 (f_J2_getChar_3b067_pS_1 S2 r0 m0 a1) fun v5 S4 =>
  some (v5, S4)
set_option maxRecDepth 100000 in
set_option maxHeartbeats 4000000 in
theorem c_J2_charAt_3b067_pS_1 (l : Launch) {E : xE} {S S' : xSt} {r0 : Nat} {m0 : Nat} {a1 : Int} (hk0 : xkd E r0 = 100 + m0) {v : Int} (h : f_J2_charAt_3b067_pS_1 S r0 m0 a1 = some (v, S')) : Met l yJ2_charAt_3b067 (xws yJ2_charAt_3b067 cJ2_charAt_3b067 2 (some .char)) (rmD 4) (YPc E [vr E r0 1, vi a1] S) (YQc E v S') 0 0 (xA E) := by
  unfold f_J2_charAt_3b067_pS_1 at h
  refine met_c (by decide +kernel) (Nat.le_of_ble_eq_true rfl) (fun K hC hZ hE => ?_)
  have hC : xOK K cJ2_charAt_3b067 RJ2 2 (rmE 4 0) := hC
  show WG K E 0 [(0, vr E r0 1), (1, vi a1)] [] S
  refine g_iload_n hC rfl 1 rfl (rfl : 0 + 1 = 1) (xdt tt_J2_charAt_3b067 0 rfl) ?_
  refine g_aload_n hC rfl 0 rfl (rfl : 1 + 1 = 2) (xdt tt_J2_charAt_3b067 1 rfl) ?_
  obtain ⟨S2, hc1, h⟩ := bd_i h
  refine g_callSv hC hZ m_J2_checkIndex_2214a q387 (Nat.le_of_ble_eq_true rfl) [vi a1, vr E r0 1] rfl (fun l => c_J2_checkIndex_2214a_pS_1 l hk0 hc1) rfl (Nat.le_of_ble_eq_true rfl) (rfl : 2 + 3 = 5) (xdt tt_J2_charAt_3b067 2 rfl) ?_
  refine g_aload_n hC rfl 0 rfl (rfl : 5 + 1 = 6) (xdt tt_J2_charAt_3b067 3 rfl) ?_
  refine g_iload_n hC rfl 1 rfl (rfl : 6 + 1 = 7) (xdt tt_J2_charAt_3b067 4 rfl) ?_
  obtain ⟨v5, S4, hc3, h⟩ := bd2_i h
  refine g_callSc hC hZ m_J2_getChar_3b067 q440 (Nat.le_of_ble_eq_true rfl) [vr E r0 1, vi a1] rfl (fun l => c_J2_getChar_3b067_pS_1 l hk0 hc3) rfl (Nat.le_of_ble_eq_true rfl) (rfl : 7 + 3 = 10) (xdt tt_J2_charAt_3b067 5 rfl) (fun hb6 => ?_)
  cases h
  exact g_cret hC hE hb6 (xdt tt_J2_charAt_3b067 6 rfl)
def f_J1_charAt_3b067_pS_1 (S : xSt) (r0 : Nat) (m0 : Nat) (a1 : Int) : Option (Int × xSt) :=
  bd (f_J0_checkIndex_df160 S a1 (m0 : Int)) fun S2 =>
  ckI a1 m0 <|
  some ((iCh (iA (gI S2 r0 1 (wr a1).toNat) 255)), S2)
set_option maxRecDepth 100000 in
set_option maxHeartbeats 4000000 in
theorem c_J1_charAt_3b067_pS_1 (l : Launch) {E : xE} {S S' : xSt} {r0 : Nat} {m0 : Nat} {a1 : Int} (hk0 : xkd E r0 = 100 + m0) {v : Int} (h : f_J1_charAt_3b067_pS_1 S r0 m0 a1 = some (v, S')) : Met l yJ1_charAt_3b067 (xws yJ1_charAt_3b067 cJ1_charAt_3b067 2 (some .char)) (rmD 3) (YPc E [vr E r0 1, vi a1] S) (YQc E v S') 0 0 (xA E) := by
  unfold f_J1_charAt_3b067_pS_1 at h
  refine met_c (by decide +kernel) (Nat.le_of_ble_eq_true rfl) (fun K hC hZ hE => ?_)
  have hC : xOK K cJ1_charAt_3b067 RJ1 2 (rmE 3 0) := hC
  show WG K E 0 [(0, vr E r0 1), (1, vi a1)] [] S
  refine g_iload_n hC rfl 1 rfl (rfl : 0 + 1 = 1) (xdt tt_J1_charAt_3b067 0 rfl) ?_
  refine g_aload_n hC rfl 0 rfl (rfl : 1 + 1 = 2) (xdt tt_J1_charAt_3b067 1 rfl) ?_
  refine g_alen hC hk0 lyS_1 (z := (m0 : Int)) rfl (rfl : 2 + 1 = 3) (xdt tt_J1_charAt_3b067 2 rfl) ?_
  obtain ⟨S2, hc1, h⟩ := bd_i h
  refine g_callSv hC hZ m_J0_checkIndex_df160 q465 (Nat.le_of_ble_eq_true rfl) [vi a1, vi (m0 : Int)] rfl (fun l => c_J0_checkIndex_df160 l hc1) rfl (Nat.le_of_ble_eq_true rfl) (rfl : 3 + 3 = 6) (xdt tt_J1_charAt_3b067 3 rfl) ?_
  refine g_aload_n hC rfl 0 rfl (rfl : 6 + 1 = 7) (xdt tt_J1_charAt_3b067 4 rfl) ?_
  refine g_iload_n hC rfl 1 rfl (rfl : 7 + 1 = 8) (xdt tt_J1_charAt_3b067 5 rfl) ?_
  obtain ⟨hi3, h⟩ := ckI_i h
  refine g_bald hC hk0 lyS_1 hi3 (rfl : 8 + 1 = 9) (xdt tt_J1_charAt_3b067 6 rfl) (k0 := (wr a1).toNat) rfl ?_
  refine g_sipush hC (by decide) (rfl : 9 + 3 = 12) (xdt tt_J1_charAt_3b067 7 rfl) ?_
  refine g_iand hC (rfl : 12 + 1 = 13) (xdt tt_J1_charAt_3b067 8 rfl) ?_
  refine g_i2c hC (rfl : 13 + 1 = 14) (xdt tt_J1_charAt_3b067 9 rfl) ?_
  cases h
  exact g_cret hC hE (nar_ch _) (xdt tt_J1_charAt_3b067 10 rfl)
def f_J0_charAt_5068e_pS_0 (S : xSt) (r0 : Nat) (m0 : Nat) (a1 : Int) : Option (Int × xSt) :=
  bd2 (f_J0_isLatin1_aae02_pS_0 S r0 m0) fun v3 S2 =>
  if wr v3 = 0 then
    (bd2 (f_J2_charAt_3b067_pS_1 S2 r0 m0 a1) fun v7 S6 =>
    some (v7, S6))
  else
    (bd2 (f_J1_charAt_3b067_pS_1 S2 r0 m0 a1) fun v11 S10 =>
    some (v11, S10))
set_option maxRecDepth 100000 in
set_option maxHeartbeats 4000000 in
theorem c_J0_charAt_5068e_pS_0 (l : Launch) {E : xE} {S S' : xSt} {r0 : Nat} {m0 : Nat} {a1 : Int} (hk0 : xkd E r0 = 100 + m0) {v : Int} (h : f_J0_charAt_5068e_pS_0 S r0 m0 a1 = some (v, S')) : Met l yJ0_charAt_5068e (xws yJ0_charAt_5068e cJ0_charAt_5068e 2 (some .char)) (rmD 5) (YPc E [vr E r0 0, vi a1] S) (YQc E v S') 0 0 (xA E) := by
  unfold f_J0_charAt_5068e_pS_0 at h
  refine met_c (by decide +kernel) (Nat.le_of_ble_eq_true rfl) (fun K hC hZ hE => ?_)
  have hC : xOK K cJ0_charAt_5068e RJ0 2 (rmE 5 0) := hC
  show WG K E 0 [(0, vr E r0 0), (1, vi a1)] [] S
  refine g_aload_n hC rfl 0 rfl (rfl : 0 + 1 = 1) (xdt tt_J0_charAt_5068e 0 rfl) ?_
  obtain ⟨v3, S2, hc1, h⟩ := bd2_i h
  refine g_callVz hC hZ hk0 kclJ0 lyS_0 m_J0_isLatin1_aae02 q458 (Nat.le_of_ble_eq_true rfl) [] rfl (fun l => c_J0_isLatin1_aae02_pS_0 l hk0 hc1) rfl (Nat.le_of_ble_eq_true rfl) (rfl : 1 + 3 = 4) (xdt tt_J0_charAt_5068e 1 rfl) (fun hb4 => ?_)
  refine g_if_eq hC (show ((4 : Nat) : Int) + 12 = ((16 : Nat) : Int) by decide) (rfl : 4 + 3 = 7) (xdt tt_J0_charAt_5068e 2 rfl) (fun hc13 => ?_) (fun hc13 => ?_)
  · replace h := (if_pos hc13).symm.trans h
    refine g_aload_n hC rfl 0 rfl (rfl : 16 + 1 = 17) (xdt tt_J0_charAt_5068e 8 rfl) ?_
    refine g_getP hC hk0 kclJ0 lyS_0 0 (by decide) (rfl : r0 + 0 = r0) rfl q295 (rfl : 17 + 3 = 20) (xdt tt_J0_charAt_5068e 9 rfl) ?_
    refine g_iload_n hC rfl 1 rfl (rfl : 20 + 1 = 21) (xdt tt_J0_charAt_5068e 10 rfl) ?_
    obtain ⟨v7, S6, hc5, h⟩ := bd2_i h
    refine g_callSc hC hZ m_J2_charAt_3b067 q466 (Nat.le_of_ble_eq_true rfl) [vr E r0 1, vi a1] rfl (fun l => c_J2_charAt_3b067_pS_1 l hk0 hc5) rfl (Nat.le_of_ble_eq_true rfl) (rfl : 21 + 3 = 24) (xdt tt_J0_charAt_5068e 11 rfl) (fun hb8 => ?_)
    cases h
    exact g_cret hC hE hb8 (xdt tt_J0_charAt_5068e 12 rfl)
  · replace h := (if_neg hc13).symm.trans h
    refine g_aload_n hC rfl 0 rfl (rfl : 7 + 1 = 8) (xdt tt_J0_charAt_5068e 3 rfl) ?_
    refine g_getP hC hk0 kclJ0 lyS_0 0 (by decide) (rfl : r0 + 0 = r0) rfl q295 (rfl : 8 + 3 = 11) (xdt tt_J0_charAt_5068e 4 rfl) ?_
    refine g_iload_n hC rfl 1 rfl (rfl : 11 + 1 = 12) (xdt tt_J0_charAt_5068e 5 rfl) ?_
    obtain ⟨v11, S10, hc9, h⟩ := bd2_i h
    refine g_callSc hC hZ m_J1_charAt_3b067 q462 (Nat.le_of_ble_eq_true rfl) [vr E r0 1, vi a1] rfl (fun l => c_J1_charAt_3b067_pS_1 l hk0 hc9) rfl (Nat.le_of_ble_eq_true rfl) (rfl : 12 + 3 = 15) (xdt tt_J0_charAt_5068e 6 rfl) (fun hb12 => ?_)
    cases h
    exact g_cret hC hE hb12 (xdt tt_J0_charAt_5068e 7 rfl)
