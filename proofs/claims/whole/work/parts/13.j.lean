def f_X6_append_p1_5 (S : xSt) (r0 : Nat) (a1 : Int) (a2 : Int) : Option (xSt) :=
  if wr (gI S r0 5 2) < 0 then
    (some S)
  else
    (if wr 20 ≤ wr (gI S r0 5 2) then
      (some S)
    else
      (ckI (gI S r0 5 2) 20 <|
      lt1 (wI S r0 6 (wr (gI S r0 5 2)).toNat a1) fun S2 =>
      ckI (gI S2 r0 5 2) 20 <|
      ckB a2 <|
      lt1 (wI S2 r0 7 (wr (gI S2 r0 5 2)).toNat a2) fun S5 =>
      lt1 (wI S5 r0 5 2 ((gI S5 r0 5 2) + 1)) fun S6 =>
      some S6))
set_option maxRecDepth 100000 in
set_option maxHeartbeats 4000000 in
theorem c_X6_append_p1_5 (l : Launch) {E : xE} {S S' : xSt} {r0 : Nat} {a1 : Int} {a2 : Int} (hk0 : xkd E r0 = 1) (h : f_X6_append_p1_5 S r0 a1 a2 = some S') : Met l yX6_append (xws yX6_append cX6_append 3 none) (rmD 1) (YPc E [vr E r0 5, vi a1, vi a2] S) (YQv E S') 0 0 (xA E) := by
  unfold f_X6_append_p1_5 at h
  refine met_v (by decide +kernel) (Nat.le_of_ble_eq_true rfl) (fun K hC hZ hE => ?_)
  have hC : xOK K cX6_append RX6 3 (rmE 1 0) := hC
  show WG K E 0 [(0, vr E r0 5), (1, vi a1), (2, vi a2)] [] S
  refine g_aload_n hC rfl 0 rfl (rfl : 0 + 1 = 1) (xdt tt_X6_append 0 rfl) ?_
  refine g_getI hC hk0 kclX6 ly1_5 2 (by decide) rfl q1000 (rfl : 1 + 3 = 4) (xdt tt_X6_append 1 rfl) ?_
  refine g_if_lt hC (show ((4 : Nat) : Int) + 42 = ((46 : Nat) : Int) by decide) (rfl : 4 + 3 = 7) (xdt tt_X6_append 2 rfl) (fun hc8 => ?_) (fun hc8 => ?_)
  · replace h := (if_pos hc8).symm.trans h
    cases h
    exact g_vret hC hE (xdt tt_X6_append 25 rfl)
  · replace h := (if_neg hc8).symm.trans h
    refine g_aload_n hC rfl 0 rfl (rfl : 7 + 1 = 8) (xdt tt_X6_append 3 rfl) ?_
    refine g_getI hC hk0 kclX6 ly1_5 2 (by decide) rfl q1000 (rfl : 8 + 3 = 11) (xdt tt_X6_append 4 rfl) ?_
    refine g_bipush hC (by decide) (rfl : 11 + 2 = 13) (xdt tt_X6_append 5 rfl) ?_
    refine g_icmp_ge hC (show ((13 : Nat) : Int) + 33 = ((46 : Nat) : Int) by decide) (rfl : 13 + 3 = 16) (xdt tt_X6_append 6 rfl) (fun hc7 => ?_) (fun hc7 => ?_)
    · replace h := (if_pos hc7).symm.trans h
      cases h
      exact g_vret hC hE (xdt tt_X6_append 25 rfl)
    · replace h := (if_neg hc7).symm.trans h
      refine g_aload_n hC rfl 0 rfl (rfl : 16 + 1 = 17) (xdt tt_X6_append 7 rfl) ?_
      refine g_getP hC hk0 kclX6 ly1_5 0 (by decide) (rfl : r0 + 0 = r0) rfl q121 (rfl : 17 + 3 = 20) (xdt tt_X6_append 8 rfl) ?_
      refine g_aload_n hC rfl 0 rfl (rfl : 20 + 1 = 21) (xdt tt_X6_append 9 rfl) ?_
      refine g_getI hC hk0 kclX6 ly1_5 2 (by decide) rfl q1000 (rfl : 21 + 3 = 24) (xdt tt_X6_append 10 rfl) ?_
      refine g_iload_n hC rfl 1 rfl (rfl : 24 + 1 = 25) (xdt tt_X6_append 11 rfl) ?_
      obtain ⟨hi1, h⟩ := ckI_i h
      obtain ⟨S2, hS2, h⟩ := lt1_i h
      refine g_iast hC hk0 ly1_6 hi1 rfl hS2 (rfl : 25 + 1 = 26) (xdt tt_X6_append 12 rfl) ?_
      refine g_aload_n hC rfl 0 rfl (rfl : 26 + 1 = 27) (xdt tt_X6_append 13 rfl) ?_
      refine g_getP hC hk0 kclX6 ly1_5 1 (by decide) (rfl : r0 + 0 = r0) rfl q122 (rfl : 27 + 3 = 30) (xdt tt_X6_append 14 rfl) ?_
      refine g_aload_n hC rfl 0 rfl (rfl : 30 + 1 = 31) (xdt tt_X6_append 15 rfl) ?_
      refine g_getI hC hk0 kclX6 ly1_5 2 (by decide) rfl q1000 (rfl : 31 + 3 = 34) (xdt tt_X6_append 16 rfl) ?_
      refine g_iload_n hC rfl 2 rfl (rfl : 34 + 1 = 35) (xdt tt_X6_append 17 rfl) ?_
      obtain ⟨hi3, h⟩ := ckI_i h
      obtain ⟨hb4, h⟩ := ckB_i h
      obtain ⟨S5, hS5, h⟩ := lt1_i h
      refine g_zast hC hk0 ly1_7 hi3 hb4 rfl hS5 (rfl : 35 + 1 = 36) (xdt tt_X6_append 18 rfl) ?_
      refine g_aload_n hC rfl 0 rfl (rfl : 36 + 1 = 37) (xdt tt_X6_append 19 rfl) ?_
      refine g_dup hC rfl (rfl : 37 + 1 = 38) (xdt tt_X6_append 20 rfl) ?_
      refine g_getI hC hk0 kclX6 ly1_5 2 (by decide) rfl q1000 (rfl : 38 + 3 = 41) (xdt tt_X6_append 21 rfl) ?_
      refine g_iconst hC (rfl : 41 + 1 = 42) (xdt tt_X6_append 22 rfl) ?_
      refine g_iadd hC (rfl : 42 + 1 = 43) (xdt tt_X6_append 23 rfl) ?_
      obtain ⟨S6, hS6, h⟩ := lt1_i h
      refine g_putI hC hk0 kclX6 ly1_5 2 (by decide) rfl rfl rfl q1000 hS6 (rfl : 43 + 3 = 46) (xdt tt_X6_append 24 rfl) ?_
      cases h
      exact g_vret hC hE (xdt tt_X6_append 25 rfl)
def f_X0_mark_p1_0_b81 (r0 : Nat) (S : xSt) (x1 : Int) (x2 : Int) : Option (Int × xSt) :=
  if ¬ wr x2 = 0 then
    (some (0, S))
  else
    (ckP S r0 0 0 2 0 fun rg11 =>
    ckI x1 60 <|
    if ¬ wr (gI S rg11 6 (wr x1).toNat) = 0 then
      (some (0, S))
    else
      (some (1, S)))
def f_X0_mark_p1_0_b64 (r0 : Nat) (S : xSt) (x1 : Int) (x2 : Int) : Option (Int × xSt) :=
  ckP S r0 0 0 2 0 fun rg9 =>
  ckI x1 60 <|
  if wr (gI S rg9 6 (wr x1).toNat) = 0 then
    (f_X0_mark_p1_0_b81 r0 S x1 x2)
  else
    (lt1 (wI S r0 0 16 3) fun S15 =>
    f_X0_mark_p1_0_b81 r0 S15 x1 x2)
def f_X0_mark_p1_0 (S : xSt) (r0 : Nat) : Option (Int × xSt) :=
  if wr (gI S r0 0 10) < 0 then
    (some (0, S))
  else
    (ckP S r0 0 0 2 0 fun rg1 =>
    if wr (gI S r0 0 10) < wr (gI S rg1 0 10) then
      (bd2 (f_X0_predictsTaken_p1_0 S r0 (gI S r0 0 10)) fun v4 S3 =>
      bd (f_X6_append_p1_5 S3 r0 (gI S r0 0 10) v4) fun S7 =>
      if wr v4 = 0 then
        (lt1 (wI S7 r0 0 10 ((gI S r0 0 10) + 1)) fun S8 =>
        f_X0_mark_p1_0_b64 r0 S8 (gI S r0 0 10) v4)
      else
        (ckP S7 r0 0 0 2 0 fun rg17 =>
        ckI (gI S r0 0 10) 60 <|
        bd (f_X0_setPlace_p1_0 S7 r0 (gI S7 rg17 11 (wr (gI S r0 0 10)).toNat)) fun S20 =>
        f_X0_mark_p1_0_b64 r0 S20 (gI S r0 0 10) v4))
    else
      (some (0, S)))
set_option maxRecDepth 100000 in
set_option maxHeartbeats 4000000 in
theorem k_X0_mark_p1_0_b81 {K : xCtx} {E : xE} {b : Nat} (hC : xOK K cX0_mark RX0 3 (rmE 2 b)) (hZ : xZ K) {v : Int} {S' : xSt} (hE : xEnd K E (some .boolean) (YQz E v S')) {r0 : Nat} (hk0 : xkd E r0 = 1) : ∀ (S : xSt) (x1 : Int) (x2 : Int), f_X0_mark_p1_0_b81 r0 S x1 x2 = some (v, S') → WG K E 81 [(0, vr E r0 0), (1, vi x1), (2, vi x2)] [] S := by
  intro S x1 x2 h
  unfold f_X0_mark_p1_0_b81 at h
  refine g_iload_n hC rfl 2 rfl (rfl : 81 + 1 = 82) (xdt tt_X0_mark 45 rfl) ?_
  refine g_if_ne hC (show ((82 : Nat) : Int) + 19 = ((101 : Nat) : Int) by decide) (rfl : 82 + 3 = 85) (xdt tt_X0_mark 46 rfl) (fun hc14 => ?_) (fun hc14 => ?_)
  · replace h := (if_pos hc14).symm.trans h
    refine g_iconst hC (rfl : 101 + 1 = 102) (xdt tt_X0_mark 55 rfl) ?_
    cases h
    exact g_zret hC hE (Or.inl rfl) (xdt tt_X0_mark 56 rfl)
  · replace h := (if_neg hc14).symm.trans h
    refine g_aload_n hC rfl 0 rfl (rfl : 85 + 1 = 86) (xdt tt_X0_mark 47 rfl) ?_
    obtain ⟨rg11, hrg11, grg11, h⟩ := ckP_i h
    refine g_getV hC hk0 kclX0 ly1_0 0 (by decide) rfl hrg11 grg11 (by decide) q146 (rfl : 86 + 3 = 89) (xdt tt_X0_mark 48 rfl) (fun krg11 => ?_)
    refine g_getP hC krg11 kclX5 ly2_0 3 (by decide) (rfl : rg11 + 0 = rg11) rfl q723 (rfl : 89 + 3 = 92) (xdt tt_X0_mark 49 rfl) ?_
    refine g_iload_n hC rfl 1 rfl (rfl : 92 + 1 = 93) (xdt tt_X0_mark 50 rfl) ?_
    obtain ⟨hi12, h⟩ := ckI_i h
    refine g_zald hC krg11 ly2_6 hi12 (rfl : 93 + 1 = 94) (xdt tt_X0_mark 51 rfl) (k0 := (wr x1).toNat) rfl ?_
    refine g_if_ne hC (show ((94 : Nat) : Int) + 7 = ((101 : Nat) : Int) by decide) (rfl : 94 + 3 = 97) (xdt tt_X0_mark 52 rfl) (fun hc13 => ?_) (fun hc13 => ?_)
    · replace h := (if_pos hc13).symm.trans h
      refine g_iconst hC (rfl : 101 + 1 = 102) (xdt tt_X0_mark 55 rfl) ?_
      cases h
      exact g_zret hC hE (Or.inl rfl) (xdt tt_X0_mark 56 rfl)
    · replace h := (if_neg hc13).symm.trans h
      refine g_iconst hC (rfl : 97 + 1 = 98) (xdt tt_X0_mark 53 rfl) ?_
      refine g_goto hC (show ((98 : Nat) : Int) + 4 = ((102 : Nat) : Int) by decide) (xdt tt_X0_mark 54 rfl) ?_
      cases h
      exact g_zret hC hE (Or.inr rfl) (xdt tt_X0_mark 56 rfl)
set_option maxRecDepth 100000 in
set_option maxHeartbeats 4000000 in
theorem k_X0_mark_p1_0_b64 {K : xCtx} {E : xE} {b : Nat} (hC : xOK K cX0_mark RX0 3 (rmE 2 b)) (hZ : xZ K) {v : Int} {S' : xSt} (hE : xEnd K E (some .boolean) (YQz E v S')) {r0 : Nat} (hk0 : xkd E r0 = 1) : ∀ (S : xSt) (x1 : Int) (x2 : Int), f_X0_mark_p1_0_b64 r0 S x1 x2 = some (v, S') → WG K E 64 [(0, vr E r0 0), (1, vi x1), (2, vi x2)] [] S := by
  intro S x1 x2 h
  unfold f_X0_mark_p1_0_b64 at h
  refine g_aload_n hC rfl 0 rfl (rfl : 64 + 1 = 65) (xdt tt_X0_mark 36 rfl) ?_
  obtain ⟨rg9, hrg9, grg9, h⟩ := ckP_i h
  refine g_getV hC hk0 kclX0 ly1_0 0 (by decide) rfl hrg9 grg9 (by decide) q146 (rfl : 65 + 3 = 68) (xdt tt_X0_mark 37 rfl) (fun krg9 => ?_)
  refine g_getP hC krg9 kclX5 ly2_0 3 (by decide) (rfl : rg9 + 0 = rg9) rfl q723 (rfl : 68 + 3 = 71) (xdt tt_X0_mark 38 rfl) ?_
  refine g_iload_n hC rfl 1 rfl (rfl : 71 + 1 = 72) (xdt tt_X0_mark 39 rfl) ?_
  obtain ⟨hi10, h⟩ := ckI_i h
  refine g_zald hC krg9 ly2_6 hi10 (rfl : 72 + 1 = 73) (xdt tt_X0_mark 40 rfl) (k0 := (wr x1).toNat) rfl ?_
  refine g_if_eq hC (show ((73 : Nat) : Int) + 8 = ((81 : Nat) : Int) by decide) (rfl : 73 + 3 = 76) (xdt tt_X0_mark 41 rfl) (fun hc16 => ?_) (fun hc16 => ?_)
  · replace h := (if_pos hc16).symm.trans h
    refine g_sub [0, 1, 2] (lv' := [(0, vr E r0 0), (1, vi x1), (2, vi x2)]) rfl ?_
    exact k_X0_mark_p1_0_b81 hC hZ hE hk0 _ _ _ h
  · replace h := (if_neg hc16).symm.trans h
    refine g_aload_n hC rfl 0 rfl (rfl : 76 + 1 = 77) (xdt tt_X0_mark 42 rfl) ?_
    refine g_iconst hC (rfl : 77 + 1 = 78) (xdt tt_X0_mark 43 rfl) ?_
    obtain ⟨S15, hS15, h⟩ := lt1_i h
    refine g_putI hC hk0 kclX0 ly1_0 16 (by decide) rfl rfl rfl q160 hS15 (rfl : 78 + 3 = 81) (xdt tt_X0_mark 44 rfl) ?_
    refine g_sub [0, 1, 2] (lv' := [(0, vr E r0 0), (1, vi x1), (2, vi x2)]) rfl ?_
    exact k_X0_mark_p1_0_b81 hC hZ hE hk0 _ _ _ h
set_option maxRecDepth 100000 in
set_option maxHeartbeats 4000000 in
theorem c_X0_mark_p1_0 (l : Launch) {E : xE} {S S' : xSt} {r0 : Nat} (hk0 : xkd E r0 = 1) {v : Int} (h : f_X0_mark_p1_0 S r0 = some (v, S')) : Met l yX0_mark (xws yX0_mark cX0_mark 3 (some .boolean)) (rmD 2) (YPc E [vr E r0 0] S) (YQz E v S') 0 0 (xA E) := by
  unfold f_X0_mark_p1_0 at h
  refine met_z (by decide +kernel) (Nat.le_of_ble_eq_true rfl) (fun K hC hZ hE => ?_)
  have hC : xOK K cX0_mark RX0 3 (rmE 2 0) := hC
  show WG K E 0 [(0, vr E r0 0)] [] S
  refine g_aload_n hC rfl 0 rfl (rfl : 0 + 1 = 1) (xdt tt_X0_mark 0 rfl) ?_
  refine g_getI hC hk0 kclX0 ly1_0 10 (by decide) rfl q154 (rfl : 1 + 3 = 4) (xdt tt_X0_mark 1 rfl) ?_
  refine g_istore_n hC rfl (by decide) (lv' := [(1, vi (gI S r0 0 10)), (0, vr E r0 0)]) rfl (rfl : 4 + 1 = 5) (xdt tt_X0_mark 2 rfl) ?_
  refine g_iload_n hC rfl 0 rfl (rfl : 5 + 1 = 6) (xdt tt_X0_mark 3 rfl) ?_
  refine g_if_lt hC (show ((6 : Nat) : Int) + 14 = ((20 : Nat) : Int) by decide) (rfl : 6 + 3 = 9) (xdt tt_X0_mark 4 rfl) (fun hc23 => ?_) (fun hc23 => ?_)
  · replace h := (if_pos hc23).symm.trans h
    refine g_iconst hC (rfl : 20 + 1 = 21) (xdt tt_X0_mark 10 rfl) ?_
    cases h
    exact g_zret hC hE (Or.inl rfl) (xdt tt_X0_mark 11 rfl)
  · replace h := (if_neg hc23).symm.trans h
    refine g_iload_n hC rfl 0 rfl (rfl : 9 + 1 = 10) (xdt tt_X0_mark 5 rfl) ?_
    refine g_aload_n hC rfl 1 rfl (rfl : 10 + 1 = 11) (xdt tt_X0_mark 6 rfl) ?_
    obtain ⟨rg1, hrg1, grg1, h⟩ := ckP_i h
    refine g_getV hC hk0 kclX0 ly1_0 0 (by decide) rfl hrg1 grg1 (by decide) q146 (rfl : 11 + 3 = 14) (xdt tt_X0_mark 7 rfl) (fun krg1 => ?_)
    refine g_getI hC krg1 kclX5 ly2_0 10 (by decide) rfl q644 (rfl : 14 + 3 = 17) (xdt tt_X0_mark 8 rfl) ?_
    refine g_icmp_lt hC (show ((17 : Nat) : Int) + 5 = ((22 : Nat) : Int) by decide) (rfl : 17 + 3 = 20) (xdt tt_X0_mark 9 rfl) (fun hc22 => ?_) (fun hc22 => ?_)
    · replace h := (if_pos hc22).symm.trans h
      refine g_aload_n hC rfl 1 rfl (rfl : 22 + 1 = 23) (xdt tt_X0_mark 12 rfl) ?_
      refine g_iload_n hC rfl 0 rfl (rfl : 23 + 1 = 24) (xdt tt_X0_mark 13 rfl) ?_
      obtain ⟨v4, S3, hc2, h⟩ := bd2_i h
      refine g_callVz hC hZ hk0 kclX0 ly1_0 m_X0_predictsTaken q1133 (Nat.le_of_ble_eq_true rfl) [vi (gI S r0 0 10)] rfl (fun l => c_X0_predictsTaken_p1_0 l hk0 hc2) rfl (Nat.le_of_ble_eq_true rfl) (rfl : 24 + 3 = 27) (xdt tt_X0_mark 14 rfl) (fun hb5 => ?_)
      refine g_istore_n hC rfl (by decide) (lv' := [(2, vi v4), (1, vi (gI S r0 0 10)), (0, vr E r0 0)]) rfl (rfl : 27 + 1 = 28) (xdt tt_X0_mark 15 rfl) ?_
      refine g_aload_n hC rfl 2 rfl (rfl : 28 + 1 = 29) (xdt tt_X0_mark 16 rfl) ?_
      refine g_getP hC hk0 kclX0 ly1_0 3 (by decide) (rfl : r0 + 0 = r0) rfl q102 (rfl : 29 + 3 = 32) (xdt tt_X0_mark 17 rfl) ?_
      refine g_iload_n hC rfl 1 rfl (rfl : 32 + 1 = 33) (xdt tt_X0_mark 18 rfl) ?_
      refine g_iload_n hC rfl 0 rfl (rfl : 33 + 1 = 34) (xdt tt_X0_mark 19 rfl) ?_
      obtain ⟨S7, hc6, h⟩ := bd_i h
      refine g_callVv hC hZ hk0 kclX6 ly1_5 m_X6_append q1134 (Nat.le_of_ble_eq_true rfl) [vi (gI S r0 0 10), vi v4] rfl (fun l => c_X6_append_p1_5 l hk0 hc6) rfl (Nat.le_of_ble_eq_true rfl) (rfl : 34 + 3 = 37) (xdt tt_X0_mark 20 rfl) ?_
      refine g_iload_n hC rfl 0 rfl (rfl : 37 + 1 = 38) (xdt tt_X0_mark 21 rfl) ?_
      refine g_if_eq hC (show ((38 : Nat) : Int) + 19 = ((57 : Nat) : Int) by decide) (rfl : 38 + 3 = 41) (xdt tt_X0_mark 22 rfl) (fun hc21 => ?_) (fun hc21 => ?_)
      · replace h := (if_pos hc21).symm.trans h
        refine g_aload_n hC rfl 2 rfl (rfl : 57 + 1 = 58) (xdt tt_X0_mark 31 rfl) ?_
        refine g_iload_n hC rfl 1 rfl (rfl : 58 + 1 = 59) (xdt tt_X0_mark 32 rfl) ?_
        refine g_iconst hC (rfl : 59 + 1 = 60) (xdt tt_X0_mark 33 rfl) ?_
        refine g_iadd hC (rfl : 60 + 1 = 61) (xdt tt_X0_mark 34 rfl) ?_
        obtain ⟨S8, hS8, h⟩ := lt1_i h
        refine g_putI hC hk0 kclX0 ly1_0 10 (by decide) rfl rfl rfl q154 hS8 (rfl : 61 + 3 = 64) (xdt tt_X0_mark 35 rfl) ?_
        refine g_sub [2, 1, 0] (lv' := [(0, vr E r0 0), (1, vi (gI S r0 0 10)), (2, vi v4)]) rfl ?_
        exact k_X0_mark_p1_0_b64 hC hZ hE hk0 _ _ _ h
      · replace h := (if_neg hc21).symm.trans h
        refine g_aload_n hC rfl 2 rfl (rfl : 41 + 1 = 42) (xdt tt_X0_mark 23 rfl) ?_
        refine g_aload_n hC rfl 2 rfl (rfl : 42 + 1 = 43) (xdt tt_X0_mark 24 rfl) ?_
        obtain ⟨rg17, hrg17, grg17, h⟩ := ckP_i h
        refine g_getV hC hk0 kclX0 ly1_0 0 (by decide) rfl hrg17 grg17 (by decide) q146 (rfl : 43 + 3 = 46) (xdt tt_X0_mark 25 rfl) (fun krg17 => ?_)
        refine g_getP hC krg17 kclX5 ly2_0 8 (by decide) (rfl : rg17 + 0 = rg17) rfl q1088 (rfl : 46 + 3 = 49) (xdt tt_X0_mark 26 rfl) ?_
        refine g_iload_n hC rfl 1 rfl (rfl : 49 + 1 = 50) (xdt tt_X0_mark 27 rfl) ?_
        obtain ⟨hi18, h⟩ := ckI_i h
        refine g_iald hC krg17 ly2_11 hi18 (rfl : 50 + 1 = 51) (xdt tt_X0_mark 28 rfl) (k0 := (wr (gI S r0 0 10)).toNat) rfl ?_
        obtain ⟨S20, hc19, h⟩ := bd_i h
        refine g_callVv hC hZ hk0 kclX0 ly1_0 m_X0_setPlace q1095 (Nat.le_of_ble_eq_true rfl) [vi (gI S7 rg17 11 (wr (gI S r0 0 10)).toNat)] rfl (fun l => c_X0_setPlace_p1_0 l hk0 hc19) rfl (Nat.le_of_ble_eq_true rfl) (rfl : 51 + 3 = 54) (xdt tt_X0_mark 29 rfl) ?_
        refine g_goto hC (show ((54 : Nat) : Int) + 10 = ((64 : Nat) : Int) by decide) (xdt tt_X0_mark 30 rfl) ?_
        refine g_sub [2, 1, 0] (lv' := [(0, vr E r0 0), (1, vi (gI S r0 0 10)), (2, vi v4)]) rfl ?_
        exact k_X0_mark_p1_0_b64 hC hZ hE hk0 _ _ _ h
    · replace h := (if_neg hc22).symm.trans h
      refine g_iconst hC (rfl : 20 + 1 = 21) (xdt tt_X0_mark 10 rfl) ?_
      cases h
      exact g_zret hC hE (Or.inl rfl) (xdt tt_X0_mark 11 rfl)
def f_X0_fetch_p1_0_b51 (r0 : Nat) : Nat → xSt → Int → Int → Option (xSt)
  | 0, _, _, _ => none
  | fuel + 1, S, x1, x2 =>
    if wr x1 = 0 then
      (some S)
    else
      (if wr 20 < wr x2 then
        (some S)
      else
        (bd2 (f_X0_canMark_p1_0 S r0) fun v6 S5 =>
        if wr v6 = 0 then
          ((f_X0_fetch_p1_0_b51 r0 fuel) S5 0 (x2 + 1))
        else
          (bd2 (f_X0_mark_p1_0 S5 r0) fun v10 S9 =>
          if wr v10 = 0 then
            ((f_X0_fetch_p1_0_b51 r0 fuel) S9 0 (x2 + 1))
          else
            ((f_X0_fetch_p1_0_b51 r0 fuel) S9 1 (x2 + 1)))))
def f_X0_fetch_p1_0 (S : xSt) (r0 : Nat) : Option (xSt) :=
  if ¬ wr (gI S r0 8 0) = 0 then
    (some S)
  else
    (ckP S r0 0 0 2 0 fun rg1 =>
    if wr (gI S r0 0 10) < wr (gI S rg1 0 10) then
      (if wr (gI S r0 0 16) ≤ 0 then
        (bd (f_X0_readWindow_p1_0 S r0) fun S3 =>
        f_X0_fetch_p1_0_b51 r0 (fu S3) S3 1 0)
      else
        (lt1 (wI S r0 0 16 ((gI S r0 0 16) - 1)) fun S16 =>
        some S16))
    else
      (some S))
set_option maxRecDepth 100000 in
set_option maxHeartbeats 4000000 in
theorem k_X0_fetch_p1_0_b51 {K : xCtx} {E : xE} {b : Nat} (hC : xOK K cX0_fetch RX0 3 (rmE 3 b)) (hZ : xZ K) {S' : xSt} (hE : xEnd K E none (YQv E S')) {r0 : Nat} (hk0 : xkd E r0 = 1) : ∀ (fuel : Nat) (S : xSt) (x1 : Int) (x2 : Int), f_X0_fetch_p1_0_b51 r0 fuel S x1 x2 = some S' → WG K E 51 [(0, vr E r0 0), (1, vi x1), (2, vi x2)] [] S := by
  intro fuel
  induction fuel with
  | zero => intro S x1 x2 h; cases h
  | succ fuel ih =>
    intro S x1 x2 h
    rw [f_X0_fetch_p1_0_b51] at h
    refine g_iload_n hC rfl 1 rfl (rfl : 51 + 1 = 52) (xdt tt_X0_fetch 27 rfl) ?_
    refine g_if_eq hC (show ((52 : Nat) : Int) + 35 = ((87 : Nat) : Int) by decide) (rfl : 52 + 3 = 55) (xdt tt_X0_fetch 28 rfl) (fun hc15 => ?_) (fun hc15 => ?_)
    · replace h := (if_pos hc15).symm.trans h
      cases h
      exact g_vret hC hE (xdt tt_X0_fetch 44 rfl)
    · replace h := (if_neg hc15).symm.trans h
      refine g_iload_n hC rfl 2 rfl (rfl : 55 + 1 = 56) (xdt tt_X0_fetch 29 rfl) ?_
      refine g_bipush hC (by decide) (rfl : 56 + 2 = 58) (xdt tt_X0_fetch 30 rfl) ?_
      refine g_icmp_gt hC (show ((58 : Nat) : Int) + 29 = ((87 : Nat) : Int) by decide) (rfl : 58 + 3 = 61) (xdt tt_X0_fetch 31 rfl) (fun hc14 => ?_) (fun hc14 => ?_)
      · replace h := (if_pos hc14).symm.trans h
        cases h
        exact g_vret hC hE (xdt tt_X0_fetch 44 rfl)
      · replace h := (if_neg hc14).symm.trans h
        refine g_aload_n hC rfl 0 rfl (rfl : 61 + 1 = 62) (xdt tt_X0_fetch 32 rfl) ?_
        obtain ⟨v6, S5, hc4, h⟩ := bd2_i h
        refine g_callVz hC hZ hk0 kclX0 ly1_0 m_X0_canMark q1125 (Nat.le_of_ble_eq_true rfl) [] rfl (fun l => c_X0_canMark_p1_0 l hk0 hc4) rfl (Nat.le_of_ble_eq_true rfl) (rfl : 62 + 3 = 65) (xdt tt_X0_fetch 33 rfl) (fun hb7 => ?_)
        refine g_if_eq hC (show ((65 : Nat) : Int) + 14 = ((79 : Nat) : Int) by decide) (rfl : 65 + 3 = 68) (xdt tt_X0_fetch 34 rfl) (fun hc13 => ?_) (fun hc13 => ?_)
        · replace h := (if_pos hc13).symm.trans h
          refine g_iconst hC (rfl : 79 + 1 = 80) (xdt tt_X0_fetch 40 rfl) ?_
          refine g_istore_n hC rfl (by decide) (lv' := [(1, vi 0), (0, vr E r0 0), (2, vi x2)]) rfl (rfl : 80 + 1 = 81) (xdt tt_X0_fetch 41 rfl) ?_
          refine g_iinc hC 2 rfl (by decide) (lv' := [(2, vi (x2 + 1)), (1, vi 0), (0, vr E r0 0)]) rfl (rfl : 81 + 3 = 84) (xdt tt_X0_fetch 42 rfl) ?_
          refine g_goto hC (show ((84 : Nat) : Int) + (-33) = ((51 : Nat) : Int) by decide) (xdt tt_X0_fetch 43 rfl) ?_
          refine g_sub [2, 1, 0] (lv' := [(0, vr E r0 0), (1, vi 0), (2, vi (x2 + 1))]) rfl ?_
          exact ih _ _ _ h
        · replace h := (if_neg hc13).symm.trans h
          refine g_aload_n hC rfl 0 rfl (rfl : 68 + 1 = 69) (xdt tt_X0_fetch 35 rfl) ?_
          obtain ⟨v10, S9, hc8, h⟩ := bd2_i h
          refine g_callVz hC hZ hk0 kclX0 ly1_0 m_X0_mark q1129 (Nat.le_of_ble_eq_true rfl) [] rfl (fun l => c_X0_mark_p1_0 l hk0 hc8) rfl (Nat.le_of_ble_eq_true rfl) (rfl : 69 + 3 = 72) (xdt tt_X0_fetch 36 rfl) (fun hb11 => ?_)
          refine g_if_eq hC (show ((72 : Nat) : Int) + 7 = ((79 : Nat) : Int) by decide) (rfl : 72 + 3 = 75) (xdt tt_X0_fetch 37 rfl) (fun hc12 => ?_) (fun hc12 => ?_)
          · replace h := (if_pos hc12).symm.trans h
            refine g_iconst hC (rfl : 79 + 1 = 80) (xdt tt_X0_fetch 40 rfl) ?_
            refine g_istore_n hC rfl (by decide) (lv' := [(1, vi 0), (0, vr E r0 0), (2, vi x2)]) rfl (rfl : 80 + 1 = 81) (xdt tt_X0_fetch 41 rfl) ?_
            refine g_iinc hC 2 rfl (by decide) (lv' := [(2, vi (x2 + 1)), (1, vi 0), (0, vr E r0 0)]) rfl (rfl : 81 + 3 = 84) (xdt tt_X0_fetch 42 rfl) ?_
            refine g_goto hC (show ((84 : Nat) : Int) + (-33) = ((51 : Nat) : Int) by decide) (xdt tt_X0_fetch 43 rfl) ?_
            refine g_sub [2, 1, 0] (lv' := [(0, vr E r0 0), (1, vi 0), (2, vi (x2 + 1))]) rfl ?_
            exact ih _ _ _ h
          · replace h := (if_neg hc12).symm.trans h
            refine g_iconst hC (rfl : 75 + 1 = 76) (xdt tt_X0_fetch 38 rfl) ?_
            refine g_goto hC (show ((76 : Nat) : Int) + 4 = ((80 : Nat) : Int) by decide) (xdt tt_X0_fetch 39 rfl) ?_
            refine g_istore_n hC rfl (by decide) (lv' := [(1, vi 1), (0, vr E r0 0), (2, vi x2)]) rfl (rfl : 80 + 1 = 81) (xdt tt_X0_fetch 41 rfl) ?_
            refine g_iinc hC 2 rfl (by decide) (lv' := [(2, vi (x2 + 1)), (1, vi 1), (0, vr E r0 0)]) rfl (rfl : 81 + 3 = 84) (xdt tt_X0_fetch 42 rfl) ?_
            refine g_goto hC (show ((84 : Nat) : Int) + (-33) = ((51 : Nat) : Int) by decide) (xdt tt_X0_fetch 43 rfl) ?_
            refine g_sub [2, 1, 0] (lv' := [(0, vr E r0 0), (1, vi 1), (2, vi (x2 + 1))]) rfl ?_
            exact ih _ _ _ h
set_option maxRecDepth 100000 in
set_option maxHeartbeats 4000000 in
theorem c_X0_fetch_p1_0 (l : Launch) {E : xE} {S S' : xSt} {r0 : Nat} (hk0 : xkd E r0 = 1) (h : f_X0_fetch_p1_0 S r0 = some S') : Met l yX0_fetch (xws yX0_fetch cX0_fetch 3 none) (rmD 3) (YPc E [vr E r0 0] S) (YQv E S') 0 0 (xA E) := by
  unfold f_X0_fetch_p1_0 at h
  refine met_v (by decide +kernel) (Nat.le_of_ble_eq_true rfl) (fun K hC hZ hE => ?_)
  have hC : xOK K cX0_fetch RX0 3 (rmE 3 0) := hC
  show WG K E 0 [(0, vr E r0 0)] [] S
  refine g_aload_n hC rfl 0 rfl (rfl : 0 + 1 = 1) (xdt tt_X0_fetch 0 rfl) ?_
  refine g_getP hC hk0 kclX0 ly1_0 4 (by decide) (rfl : r0 + 0 = r0) rfl q106 (rfl : 1 + 3 = 4) (xdt tt_X0_fetch 1 rfl) ?_
  refine g_getI hC hk0 kclX7 ly1_8 0 (by decide) rfl q151 (rfl : 4 + 3 = 7) (xdt tt_X0_fetch 2 rfl) ?_
  refine g_if_ne hC (show ((7 : Nat) : Int) + 17 = ((24 : Nat) : Int) by decide) (rfl : 7 + 3 = 10) (xdt tt_X0_fetch 3 rfl) (fun hc19 => ?_) (fun hc19 => ?_)
  · replace h := (if_pos hc19).symm.trans h
    cases h
    exact g_vret hC hE (xdt tt_X0_fetch 10 rfl)
  · replace h := (if_neg hc19).symm.trans h
    refine g_aload_n hC rfl 0 rfl (rfl : 10 + 1 = 11) (xdt tt_X0_fetch 4 rfl) ?_
    refine g_getI hC hk0 kclX0 ly1_0 10 (by decide) rfl q154 (rfl : 11 + 3 = 14) (xdt tt_X0_fetch 5 rfl) ?_
    refine g_aload_n hC rfl 0 rfl (rfl : 14 + 1 = 15) (xdt tt_X0_fetch 6 rfl) ?_
    obtain ⟨rg1, hrg1, grg1, h⟩ := ckP_i h
    refine g_getV hC hk0 kclX0 ly1_0 0 (by decide) rfl hrg1 grg1 (by decide) q146 (rfl : 15 + 3 = 18) (xdt tt_X0_fetch 7 rfl) (fun krg1 => ?_)
    refine g_getI hC krg1 kclX5 ly2_0 10 (by decide) rfl q644 (rfl : 18 + 3 = 21) (xdt tt_X0_fetch 8 rfl) ?_
    refine g_icmp_lt hC (show ((21 : Nat) : Int) + 4 = ((25 : Nat) : Int) by decide) (rfl : 21 + 3 = 24) (xdt tt_X0_fetch 9 rfl) (fun hc18 => ?_) (fun hc18 => ?_)
    · replace h := (if_pos hc18).symm.trans h
      refine g_aload_n hC rfl 0 rfl (rfl : 25 + 1 = 26) (xdt tt_X0_fetch 11 rfl) ?_
      refine g_getI hC hk0 kclX0 ly1_0 16 (by decide) rfl q160 (rfl : 26 + 3 = 29) (xdt tt_X0_fetch 12 rfl) ?_
      refine g_if_le hC (show ((29 : Nat) : Int) + 14 = ((43 : Nat) : Int) by decide) (rfl : 29 + 3 = 32) (xdt tt_X0_fetch 13 rfl) (fun hc17 => ?_) (fun hc17 => ?_)
      · replace h := (if_pos hc17).symm.trans h
        refine g_aload_n hC rfl 0 rfl (rfl : 43 + 1 = 44) (xdt tt_X0_fetch 21 rfl) ?_
        obtain ⟨S3, hc2, h⟩ := bd_i h
        refine g_callVv hC hZ hk0 kclX0 ly1_0 m_X0_readWindow q1120 (Nat.le_of_ble_eq_true rfl) [] rfl (fun l => c_X0_readWindow_p1_0 l hk0 hc2) rfl (Nat.le_of_ble_eq_true rfl) (rfl : 44 + 3 = 47) (xdt tt_X0_fetch 22 rfl) ?_
        refine g_iconst hC (rfl : 47 + 1 = 48) (xdt tt_X0_fetch 23 rfl) ?_
        refine g_istore_n hC rfl (by decide) (lv' := [(1, vi 1), (0, vr E r0 0)]) rfl (rfl : 48 + 1 = 49) (xdt tt_X0_fetch 24 rfl) ?_
        refine g_iconst hC (rfl : 49 + 1 = 50) (xdt tt_X0_fetch 25 rfl) ?_
        refine g_istore_n hC rfl (by decide) (lv' := [(2, vi 0), (1, vi 1), (0, vr E r0 0)]) rfl (rfl : 50 + 1 = 51) (xdt tt_X0_fetch 26 rfl) ?_
        refine g_sub [2, 1, 0] (lv' := [(0, vr E r0 0), (1, vi 1), (2, vi 0)]) rfl ?_
        exact k_X0_fetch_p1_0_b51 hC hZ hE hk0 _ _ _ _ h
      · replace h := (if_neg hc17).symm.trans h
        refine g_aload_n hC rfl 0 rfl (rfl : 32 + 1 = 33) (xdt tt_X0_fetch 14 rfl) ?_
        refine g_dup hC rfl (rfl : 33 + 1 = 34) (xdt tt_X0_fetch 15 rfl) ?_
        refine g_getI hC hk0 kclX0 ly1_0 16 (by decide) rfl q160 (rfl : 34 + 3 = 37) (xdt tt_X0_fetch 16 rfl) ?_
        refine g_iconst hC (rfl : 37 + 1 = 38) (xdt tt_X0_fetch 17 rfl) ?_
        refine g_isub hC (rfl : 38 + 1 = 39) (xdt tt_X0_fetch 18 rfl) ?_
        obtain ⟨S16, hS16, h⟩ := lt1_i h
        refine g_putI hC hk0 kclX0 ly1_0 16 (by decide) rfl rfl rfl q160 hS16 (rfl : 39 + 3 = 42) (xdt tt_X0_fetch 19 rfl) ?_
        cases h
        exact g_vret hC hE (xdt tt_X0_fetch 20 rfl)
    · replace h := (if_neg hc18).symm.trans h
      cases h
      exact g_vret hC hE (xdt tt_X0_fetch 10 rfl)
def f_X0_passCycle_p1_0 (S : xSt) (r0 : Nat) : Option (xSt) :=
  lt1 (wI S r0 15 0 ((gI S r0 15 0) + 1)) fun S1 =>
  bd (f_X0_takeOps_p1_0 S1 r0) fun S3 =>
  bd (f_X0_decodeLanes_p1_0 S3 r0) fun S5 =>
  bd (f_X0_fetch_p1_0 S5 r0) fun S7 =>
  some S7
set_option maxRecDepth 100000 in
set_option maxHeartbeats 4000000 in
theorem c_X0_passCycle_p1_0 (l : Launch) {E : xE} {S S' : xSt} {r0 : Nat} (hk0 : xkd E r0 = 1) (h : f_X0_passCycle_p1_0 S r0 = some S') : Met l yX0_passCycle (xws yX0_passCycle cX0_passCycle 1 none) (rmD 5) (YPc E [vr E r0 0] S) (YQv E S') 0 0 (xA E) := by
  unfold f_X0_passCycle_p1_0 at h
  refine met_v (by decide +kernel) (Nat.le_of_ble_eq_true rfl) (fun K hC hZ hE => ?_)
  have hC : xOK K cX0_passCycle RX0 1 (rmE 5 0) := hC
  show WG K E 0 [(0, vr E r0 0)] [] S
  refine g_aload_n hC rfl 0 rfl (rfl : 0 + 1 = 1) (xdt tt_X0_passCycle 0 rfl) ?_
  refine g_getP hC hk0 kclX0 ly1_0 7 (by decide) (rfl : r0 + 0 = r0) rfl q116 (rfl : 1 + 3 = 4) (xdt tt_X0_passCycle 1 rfl) ?_
  refine g_getP hC hk0 kclX9 ly1_14 0 (by decide) (rfl : r0 + 0 = r0) rfl q1029 (rfl : 4 + 3 = 7) (xdt tt_X0_passCycle 2 rfl) ?_
  refine g_iconst hC (rfl : 7 + 1 = 8) (xdt tt_X0_passCycle 3 rfl) ?_
  refine g_dup2 hC rfl rfl (rfl : 8 + 1 = 9) (xdt tt_X0_passCycle 4 rfl) ?_
  refine g_iald hC hk0 ly1_15 (by decide) (rfl : 9 + 1 = 10) (xdt tt_X0_passCycle 5 rfl) (k0 := 0) (by decide) ?_
  refine g_iconst hC (rfl : 10 + 1 = 11) (xdt tt_X0_passCycle 6 rfl) ?_
  refine g_iadd hC (rfl : 11 + 1 = 12) (xdt tt_X0_passCycle 7 rfl) ?_
  obtain ⟨S1, hS1, h⟩ := lt1_i h
  refine g_iast hC hk0 ly1_15 (by decide) (by decide) hS1 (rfl : 12 + 1 = 13) (xdt tt_X0_passCycle 8 rfl) ?_
  refine g_aload_n hC rfl 0 rfl (rfl : 13 + 1 = 14) (xdt tt_X0_passCycle 9 rfl) ?_
  obtain ⟨S3, hc2, h⟩ := bd_i h
  refine g_callVv hC hZ hk0 kclX0 ly1_0 m_X0_takeOps q1034 (Nat.le_of_ble_eq_true rfl) [] rfl (fun l => c_X0_takeOps_p1_0 l hk0 hc2) rfl (Nat.le_of_ble_eq_true rfl) (rfl : 14 + 3 = 17) (xdt tt_X0_passCycle 10 rfl) ?_
  refine g_aload_n hC rfl 0 rfl (rfl : 17 + 1 = 18) (xdt tt_X0_passCycle 11 rfl) ?_
  obtain ⟨S5, hc4, h⟩ := bd_i h
  refine g_callVv hC hZ hk0 kclX0 ly1_0 m_X0_decodeLanes q1039 (Nat.le_of_ble_eq_true rfl) [] rfl (fun l => c_X0_decodeLanes_p1_0 l hk0 hc4) rfl (Nat.le_of_ble_eq_true rfl) (rfl : 18 + 3 = 21) (xdt tt_X0_passCycle 12 rfl) ?_
  refine g_aload_n hC rfl 0 rfl (rfl : 21 + 1 = 22) (xdt tt_X0_passCycle 13 rfl) ?_
  obtain ⟨S7, hc6, h⟩ := bd_i h
  refine g_callVv hC hZ hk0 kclX0 ly1_0 m_X0_fetch q1116 (Nat.le_of_ble_eq_true rfl) [] rfl (fun l => c_X0_fetch_p1_0 l hk0 hc6) rfl (Nat.le_of_ble_eq_true rfl) (rfl : 22 + 3 = 25) (xdt tt_X0_passCycle 14 rfl) ?_
  cases h
  exact g_vret hC hE (xdt tt_X0_passCycle 15 rfl)
def f_X0_decodeFor_p1_0_b12 (r0 : Nat) : Nat → xSt → Int → Int → Int → Option (Int × xSt)
  | 0, _, _, _, _ => none
  | fuel + 1, S, x1, x2, x3 =>
    if wr x1 ≤ wr x3 then
      (some (((gI S r0 15 1) - x2), S))
    else
      (bd (f_X0_passCycle_p1_0 S r0) fun S2 =>
      (f_X0_decodeFor_p1_0_b12 r0 fuel) S2 x1 x2 (x3 + 1))
def f_X0_decodeFor_p1_0 (S : xSt) (r0 : Nat) (a1 : Int) : Option (Int × xSt) :=
  f_X0_decodeFor_p1_0_b12 r0 (fu S) S a1 (gI S r0 15 1) 0
set_option maxRecDepth 100000 in
set_option maxHeartbeats 4000000 in
theorem k_X0_decodeFor_p1_0_b12 {K : xCtx} {E : xE} {b : Nat} (hC : xOK K cX0_decodeFor RX0 4 (rmE 6 b)) (hZ : xZ K) {v : Int} {S' : xSt} (hE : xEnd K E (some .int) (YQi E v S')) {r0 : Nat} (hk0 : xkd E r0 = 1) : ∀ (fuel : Nat) (S : xSt) (x1 : Int) (x2 : Int) (x3 : Int), f_X0_decodeFor_p1_0_b12 r0 fuel S x1 x2 x3 = some (v, S') → WG K E 12 [(0, vr E r0 0), (1, vi x1), (2, vi x2), (3, vi x3)] [] S := by
  intro fuel
  induction fuel with
  | zero => intro S x1 x2 x3 h; cases h
  | succ fuel ih =>
    intro S x1 x2 x3 h
    rw [f_X0_decodeFor_p1_0_b12] at h
    refine g_iload_n hC rfl 3 rfl (rfl : 12 + 1 = 13) (xdt tt_X0_decodeFor 8 rfl) ?_
    refine g_iload_n hC rfl 1 rfl (rfl : 13 + 1 = 14) (xdt tt_X0_decodeFor 9 rfl) ?_
    refine g_icmp_ge hC (show ((14 : Nat) : Int) + 13 = ((27 : Nat) : Int) by decide) (rfl : 14 + 3 = 17) (xdt tt_X0_decodeFor 10 rfl) (fun hc3 => ?_) (fun hc3 => ?_)
    · replace h := (if_pos hc3).symm.trans h
      refine g_aload_n hC rfl 0 rfl (rfl : 27 + 1 = 28) (xdt tt_X0_decodeFor 15 rfl) ?_
      refine g_getP hC hk0 kclX0 ly1_0 7 (by decide) (rfl : r0 + 0 = r0) rfl q116 (rfl : 28 + 3 = 31) (xdt tt_X0_decodeFor 16 rfl) ?_
      refine g_getP hC hk0 kclX9 ly1_14 0 (by decide) (rfl : r0 + 0 = r0) rfl q1029 (rfl : 31 + 3 = 34) (xdt tt_X0_decodeFor 17 rfl) ?_
      refine g_iconst hC (rfl : 34 + 1 = 35) (xdt tt_X0_decodeFor 18 rfl) ?_
      refine g_iald hC hk0 ly1_15 (by decide) (rfl : 35 + 1 = 36) (xdt tt_X0_decodeFor 19 rfl) (k0 := 1) (by decide) ?_
      refine g_iload_n hC rfl 2 rfl (rfl : 36 + 1 = 37) (xdt tt_X0_decodeFor 20 rfl) ?_
      refine g_isub hC (rfl : 37 + 1 = 38) (xdt tt_X0_decodeFor 21 rfl) ?_
      cases h
      exact g_iret hC hE (xdt tt_X0_decodeFor 22 rfl)
    · replace h := (if_neg hc3).symm.trans h
      refine g_aload_n hC rfl 0 rfl (rfl : 17 + 1 = 18) (xdt tt_X0_decodeFor 11 rfl) ?_
      obtain ⟨S2, hc1, h⟩ := bd_i h
      refine g_callVv hC hZ hk0 kclX0 ly1_0 m_X0_passCycle q1030 (Nat.le_of_ble_eq_true rfl) [] rfl (fun l => c_X0_passCycle_p1_0 l hk0 hc1) rfl (Nat.le_of_ble_eq_true rfl) (rfl : 18 + 3 = 21) (xdt tt_X0_decodeFor 12 rfl) ?_
      refine g_iinc hC 3 rfl (by decide) (lv' := [(3, vi (x3 + 1)), (0, vr E r0 0), (1, vi x1), (2, vi x2)]) rfl (rfl : 21 + 3 = 24) (xdt tt_X0_decodeFor 13 rfl) ?_
      refine g_goto hC (show ((24 : Nat) : Int) + (-12) = ((12 : Nat) : Int) by decide) (xdt tt_X0_decodeFor 14 rfl) ?_
      refine g_sub [1, 2, 3, 0] (lv' := [(0, vr E r0 0), (1, vi x1), (2, vi x2), (3, vi (x3 + 1))]) rfl ?_
      exact ih _ _ _ _ h
set_option maxRecDepth 100000 in
set_option maxHeartbeats 4000000 in
theorem c_X0_decodeFor_p1_0 (l : Launch) {E : xE} {S S' : xSt} {r0 : Nat} {a1 : Int} (hk0 : xkd E r0 = 1) {v : Int} (h : f_X0_decodeFor_p1_0 S r0 a1 = some (v, S')) : Met l yX0_decodeFor (xws yX0_decodeFor cX0_decodeFor 4 (some .int)) (rmD 6) (YPc E [vr E r0 0, vi a1] S) (YQi E v S') 0 0 (xA E) := by
  unfold f_X0_decodeFor_p1_0 at h
  refine met_i (by decide +kernel) (Nat.le_of_ble_eq_true rfl) (fun K hC hZ hE => ?_)
  have hC : xOK K cX0_decodeFor RX0 4 (rmE 6 0) := hC
  show WG K E 0 [(0, vr E r0 0), (1, vi a1)] [] S
  refine g_aload_n hC rfl 0 rfl (rfl : 0 + 1 = 1) (xdt tt_X0_decodeFor 0 rfl) ?_
  refine g_getP hC hk0 kclX0 ly1_0 7 (by decide) (rfl : r0 + 0 = r0) rfl q116 (rfl : 1 + 3 = 4) (xdt tt_X0_decodeFor 1 rfl) ?_
  refine g_getP hC hk0 kclX9 ly1_14 0 (by decide) (rfl : r0 + 0 = r0) rfl q1029 (rfl : 4 + 3 = 7) (xdt tt_X0_decodeFor 2 rfl) ?_
  refine g_iconst hC (rfl : 7 + 1 = 8) (xdt tt_X0_decodeFor 3 rfl) ?_
  refine g_iald hC hk0 ly1_15 (by decide) (rfl : 8 + 1 = 9) (xdt tt_X0_decodeFor 4 rfl) (k0 := 1) (by decide) ?_
  refine g_istore_n hC rfl (by decide) (lv' := [(2, vi (gI S r0 15 1)), (0, vr E r0 0), (1, vi a1)]) rfl (rfl : 9 + 1 = 10) (xdt tt_X0_decodeFor 5 rfl) ?_
  refine g_iconst hC (rfl : 10 + 1 = 11) (xdt tt_X0_decodeFor 6 rfl) ?_
  refine g_istore_n hC rfl (by decide) (lv' := [(3, vi 0), (2, vi (gI S r0 15 1)), (0, vr E r0 0), (1, vi a1)]) rfl (rfl : 11 + 1 = 12) (xdt tt_X0_decodeFor 7 rfl) ?_
  refine g_sub [2, 3, 1, 0] (lv' := [(0, vr E r0 0), (1, vi a1), (2, vi (gI S r0 15 1)), (3, vi 0)]) rfl ?_
  exact k_X0_decodeFor_p1_0_b12 hC hZ hE hk0 _ _ _ _ _ h
def f_X11_isRule (S : xSt) (a0 : Int) (a1 : Int) : Option (Int × xSt) :=
  if wr a0 < 0 then
    (some (0, S))
  else
    (if wr 8 ≤ wr a0 then
      (some (0, S))
    else
      (if wr a1 < 0 then
        (some (0, S))
      else
        (if wr 10 ≤ wr a1 then
          (some (0, S))
        else
          (some (1, S)))))
set_option maxRecDepth 100000 in
set_option maxHeartbeats 4000000 in
theorem c_X11_isRule (l : Launch) {E : xE} {S S' : xSt} {a0 : Int} {a1 : Int} {v : Int} (h : f_X11_isRule S a0 a1 = some (v, S')) : Met l yX11_isRule (xws yX11_isRule cX11_isRule 2 (some .boolean)) (rmD 1) (YPc E [vi a0, vi a1] S) (YQz E v S') 0 0 (xA E) := by
  unfold f_X11_isRule at h
  refine met_z (by decide +kernel) (Nat.le_of_ble_eq_true rfl) (fun K hC hZ hE => ?_)
  have hC : xOK K cX11_isRule RX11 2 (rmE 1 0) := hC
  show WG K E 0 [(0, vi a0), (1, vi a1)] [] S
  refine g_iload_n hC rfl 0 rfl (rfl : 0 + 1 = 1) (xdt tt_X11_isRule 0 rfl) ?_
  refine g_if_lt hC (show ((1 : Nat) : Int) + 23 = ((24 : Nat) : Int) by decide) (rfl : 1 + 3 = 4) (xdt tt_X11_isRule 1 rfl) (fun hc4 => ?_) (fun hc4 => ?_)
  · replace h := (if_pos hc4).symm.trans h
    refine g_iconst hC (rfl : 24 + 1 = 25) (xdt tt_X11_isRule 12 rfl) ?_
    cases h
    exact g_zret hC hE (Or.inl rfl) (xdt tt_X11_isRule 13 rfl)
  · replace h := (if_neg hc4).symm.trans h
    refine g_iload_n hC rfl 0 rfl (rfl : 4 + 1 = 5) (xdt tt_X11_isRule 2 rfl) ?_
    refine g_bipush hC (by decide) (rfl : 5 + 2 = 7) (xdt tt_X11_isRule 3 rfl) ?_
    refine g_icmp_ge hC (show ((7 : Nat) : Int) + 17 = ((24 : Nat) : Int) by decide) (rfl : 7 + 3 = 10) (xdt tt_X11_isRule 4 rfl) (fun hc3 => ?_) (fun hc3 => ?_)
    · replace h := (if_pos hc3).symm.trans h
      refine g_iconst hC (rfl : 24 + 1 = 25) (xdt tt_X11_isRule 12 rfl) ?_
      cases h
      exact g_zret hC hE (Or.inl rfl) (xdt tt_X11_isRule 13 rfl)
    · replace h := (if_neg hc3).symm.trans h
      refine g_iload_n hC rfl 1 rfl (rfl : 10 + 1 = 11) (xdt tt_X11_isRule 5 rfl) ?_
      refine g_if_lt hC (show ((11 : Nat) : Int) + 13 = ((24 : Nat) : Int) by decide) (rfl : 11 + 3 = 14) (xdt tt_X11_isRule 6 rfl) (fun hc2 => ?_) (fun hc2 => ?_)
      · replace h := (if_pos hc2).symm.trans h
        refine g_iconst hC (rfl : 24 + 1 = 25) (xdt tt_X11_isRule 12 rfl) ?_
        cases h
        exact g_zret hC hE (Or.inl rfl) (xdt tt_X11_isRule 13 rfl)
      · replace h := (if_neg hc2).symm.trans h
        refine g_iload_n hC rfl 1 rfl (rfl : 14 + 1 = 15) (xdt tt_X11_isRule 7 rfl) ?_
        refine g_bipush hC (by decide) (rfl : 15 + 2 = 17) (xdt tt_X11_isRule 8 rfl) ?_
        refine g_icmp_ge hC (show ((17 : Nat) : Int) + 7 = ((24 : Nat) : Int) by decide) (rfl : 17 + 3 = 20) (xdt tt_X11_isRule 9 rfl) (fun hc1 => ?_) (fun hc1 => ?_)
        · replace h := (if_pos hc1).symm.trans h
          refine g_iconst hC (rfl : 24 + 1 = 25) (xdt tt_X11_isRule 12 rfl) ?_
          cases h
          exact g_zret hC hE (Or.inl rfl) (xdt tt_X11_isRule 13 rfl)
        · replace h := (if_neg hc1).symm.trans h
          refine g_iconst hC (rfl : 20 + 1 = 21) (xdt tt_X11_isRule 10 rfl) ?_
          refine g_goto hC (show ((21 : Nat) : Int) + 4 = ((25 : Nat) : Int) by decide) (xdt tt_X11_isRule 11 rfl) ?_
          cases h
          exact g_zret hC hE (Or.inr rfl) (xdt tt_X11_isRule 13 rfl)
def f_X8_append_p1_2 (S : xSt) (r0 : Nat) (a1 : Int) (a2 : Int) : Option (xSt) :=
  if wr (gI S r0 2 2) < 0 then
    (some S)
  else
    (if wr 7 ≤ wr (gI S r0 2 2) then
      (some S)
    else
      (ckI (gI S r0 2 2) 7 <|
      lt1 (wI S r0 3 (wr (gI S r0 2 2)).toNat a1) fun S2 =>
      ckI (gI S2 r0 2 2) 7 <|
      lt1 (wI S2 r0 4 (wr (gI S2 r0 2 2)).toNat a2) fun S4 =>
      lt1 (wI S4 r0 2 2 ((gI S4 r0 2 2) + 1)) fun S5 =>
      some S5))
set_option maxRecDepth 100000 in
set_option maxHeartbeats 4000000 in
theorem c_X8_append_p1_2 (l : Launch) {E : xE} {S S' : xSt} {r0 : Nat} {a1 : Int} {a2 : Int} (hk0 : xkd E r0 = 1) (h : f_X8_append_p1_2 S r0 a1 a2 = some S') : Met l yX8_append (xws yX8_append cX8_append 3 none) (rmD 1) (YPc E [vr E r0 2, vi a1, vi a2] S) (YQv E S') 0 0 (xA E) := by
  unfold f_X8_append_p1_2 at h
  refine met_v (by decide +kernel) (Nat.le_of_ble_eq_true rfl) (fun K hC hZ hE => ?_)
  have hC : xOK K cX8_append RX8 3 (rmE 1 0) := hC
  show WG K E 0 [(0, vr E r0 2), (1, vi a1), (2, vi a2)] [] S
  refine g_aload_n hC rfl 0 rfl (rfl : 0 + 1 = 1) (xdt tt_X8_append 0 rfl) ?_
  refine g_getI hC hk0 kclX8 ly1_2 2 (by decide) rfl q167 (rfl : 1 + 3 = 4) (xdt tt_X8_append 1 rfl) ?_
  refine g_if_lt hC (show ((4 : Nat) : Int) + 45 = ((49 : Nat) : Int) by decide) (rfl : 4 + 3 = 7) (xdt tt_X8_append 2 rfl) (fun hc7 => ?_) (fun hc7 => ?_)
  · replace h := (if_pos hc7).symm.trans h
    cases h
    exact g_vret hC hE (xdt tt_X8_append 27 rfl)
  · replace h := (if_neg hc7).symm.trans h
    refine g_aload_n hC rfl 0 rfl (rfl : 7 + 1 = 8) (xdt tt_X8_append 3 rfl) ?_
    refine g_getI hC hk0 kclX8 ly1_2 2 (by decide) rfl q167 (rfl : 8 + 3 = 11) (xdt tt_X8_append 4 rfl) ?_
    refine g_aload_n hC rfl 0 rfl (rfl : 11 + 1 = 12) (xdt tt_X8_append 5 rfl) ?_
    refine g_getP hC hk0 kclX8 ly1_2 0 (by decide) (rfl : r0 + 0 = r0) rfl q75 (rfl : 12 + 3 = 15) (xdt tt_X8_append 6 rfl) ?_
    refine g_alen hC hk0 ly1_3 (z := 7) (by decide) (rfl : 15 + 1 = 16) (xdt tt_X8_append 7 rfl) ?_
    refine g_icmp_ge hC (show ((16 : Nat) : Int) + 33 = ((49 : Nat) : Int) by decide) (rfl : 16 + 3 = 19) (xdt tt_X8_append 8 rfl) (fun hc6 => ?_) (fun hc6 => ?_)
    · replace h := (if_pos hc6).symm.trans h
      cases h
      exact g_vret hC hE (xdt tt_X8_append 27 rfl)
    · replace h := (if_neg hc6).symm.trans h
      refine g_aload_n hC rfl 0 rfl (rfl : 19 + 1 = 20) (xdt tt_X8_append 9 rfl) ?_
      refine g_getP hC hk0 kclX8 ly1_2 0 (by decide) (rfl : r0 + 0 = r0) rfl q75 (rfl : 20 + 3 = 23) (xdt tt_X8_append 10 rfl) ?_
      refine g_aload_n hC rfl 0 rfl (rfl : 23 + 1 = 24) (xdt tt_X8_append 11 rfl) ?_
      refine g_getI hC hk0 kclX8 ly1_2 2 (by decide) rfl q167 (rfl : 24 + 3 = 27) (xdt tt_X8_append 12 rfl) ?_
      refine g_iload_n hC rfl 1 rfl (rfl : 27 + 1 = 28) (xdt tt_X8_append 13 rfl) ?_
      obtain ⟨hi1, h⟩ := ckI_i h
      obtain ⟨S2, hS2, h⟩ := lt1_i h
      refine g_iast hC hk0 ly1_3 hi1 rfl hS2 (rfl : 28 + 1 = 29) (xdt tt_X8_append 14 rfl) ?_
      refine g_aload_n hC rfl 0 rfl (rfl : 29 + 1 = 30) (xdt tt_X8_append 15 rfl) ?_
      refine g_getP hC hk0 kclX8 ly1_2 1 (by decide) (rfl : r0 + 0 = r0) rfl q76 (rfl : 30 + 3 = 33) (xdt tt_X8_append 16 rfl) ?_
      refine g_aload_n hC rfl 0 rfl (rfl : 33 + 1 = 34) (xdt tt_X8_append 17 rfl) ?_
      refine g_getI hC hk0 kclX8 ly1_2 2 (by decide) rfl q167 (rfl : 34 + 3 = 37) (xdt tt_X8_append 18 rfl) ?_
      refine g_iload_n hC rfl 2 rfl (rfl : 37 + 1 = 38) (xdt tt_X8_append 19 rfl) ?_
      obtain ⟨hi3, h⟩ := ckI_i h
      obtain ⟨S4, hS4, h⟩ := lt1_i h
      refine g_iast hC hk0 ly1_4 hi3 rfl hS4 (rfl : 38 + 1 = 39) (xdt tt_X8_append 20 rfl) ?_
      refine g_aload_n hC rfl 0 rfl (rfl : 39 + 1 = 40) (xdt tt_X8_append 21 rfl) ?_
      refine g_dup hC rfl (rfl : 40 + 1 = 41) (xdt tt_X8_append 22 rfl) ?_
      refine g_getI hC hk0 kclX8 ly1_2 2 (by decide) rfl q167 (rfl : 41 + 3 = 44) (xdt tt_X8_append 23 rfl) ?_
      refine g_iconst hC (rfl : 44 + 1 = 45) (xdt tt_X8_append 24 rfl) ?_
      refine g_iadd hC (rfl : 45 + 1 = 46) (xdt tt_X8_append 25 rfl) ?_
      obtain ⟨S5, hS5, h⟩ := lt1_i h
      refine g_putI hC hk0 kclX8 ly1_2 2 (by decide) rfl rfl rfl q167 hS5 (rfl : 46 + 3 = 49) (xdt tt_X8_append 26 rfl) ?_
      cases h
      exact g_vret hC hE (xdt tt_X8_append 27 rfl)
def f_X8_takeOut_p1_2_b17 (r0 : Nat) : Nat → xSt → Int → Option (xSt)
  | 0, _, _ => none
  | fuel + 1, S, x2 =>
    if wr (gI S r0 2 2) ≤ wr x2 then
      (lt1 (wI S r0 2 2 ((gI S r0 2 2) - 1)) fun S1 =>
      some S1)
    else
      (ckI x2 7 <|
      ckI (x2 - 1) 7 <|
      lt1 (wI S r0 3 (wr (x2 - 1)).toNat (gI S r0 3 (wr x2).toNat)) fun S4 =>
      ckI x2 7 <|
      ckI (x2 - 1) 7 <|
      lt1 (wI S4 r0 4 (wr (x2 - 1)).toNat (gI S4 r0 4 (wr x2).toNat)) fun S7 =>
      (f_X8_takeOut_p1_2_b17 r0 fuel) S7 (x2 + 1))
def f_X8_takeOut_p1_2 (S : xSt) (r0 : Nat) (a1 : Int) : Option (xSt) :=
  if wr a1 < 0 then
    (some S)
  else
    (if wr a1 < wr (gI S r0 2 2) then
      (f_X8_takeOut_p1_2_b17 r0 (fu S) S (a1 + 1))
    else
      (some S))
set_option maxRecDepth 100000 in
set_option maxHeartbeats 4000000 in
theorem k_X8_takeOut_p1_2_b17 {K : xCtx} {E : xE} {b : Nat} (hC : xOK K cX8_takeOut RX8 3 (rmE 1 b)) (hZ : xZ K) {S' : xSt} (hE : xEnd K E none (YQv E S')) {r0 : Nat} (hk0 : xkd E r0 = 1) : ∀ (fuel : Nat) (S : xSt) (x2 : Int), f_X8_takeOut_p1_2_b17 r0 fuel S x2 = some S' → WG K E 17 [(0, vr E r0 2), (2, vi x2)] [] S := by
  intro fuel
  induction fuel with
  | zero => intro S x2 h; cases h
  | succ fuel ih =>
    intro S x2 h
    rw [f_X8_takeOut_p1_2_b17] at h
    refine g_iload_n hC rfl 1 rfl (rfl : 17 + 1 = 18) (xdt tt_X8_takeOut 11 rfl) ?_
    refine g_aload_n hC rfl 0 rfl (rfl : 18 + 1 = 19) (xdt tt_X8_takeOut 12 rfl) ?_
    refine g_getI hC hk0 kclX8 ly1_2 2 (by decide) rfl q167 (rfl : 19 + 3 = 22) (xdt tt_X8_takeOut 13 rfl) ?_
    refine g_icmp_ge hC (show ((22 : Nat) : Int) + 37 = ((59 : Nat) : Int) by decide) (rfl : 22 + 3 = 25) (xdt tt_X8_takeOut 14 rfl) (fun hc8 => ?_) (fun hc8 => ?_)
    · replace h := (if_pos hc8).symm.trans h
      refine g_aload_n hC rfl 0 rfl (rfl : 59 + 1 = 60) (xdt tt_X8_takeOut 37 rfl) ?_
      refine g_dup hC rfl (rfl : 60 + 1 = 61) (xdt tt_X8_takeOut 38 rfl) ?_
      refine g_getI hC hk0 kclX8 ly1_2 2 (by decide) rfl q167 (rfl : 61 + 3 = 64) (xdt tt_X8_takeOut 39 rfl) ?_
      refine g_iconst hC (rfl : 64 + 1 = 65) (xdt tt_X8_takeOut 40 rfl) ?_
      refine g_isub hC (rfl : 65 + 1 = 66) (xdt tt_X8_takeOut 41 rfl) ?_
      obtain ⟨S1, hS1, h⟩ := lt1_i h
      refine g_putI hC hk0 kclX8 ly1_2 2 (by decide) rfl rfl rfl q167 hS1 (rfl : 66 + 3 = 69) (xdt tt_X8_takeOut 42 rfl) ?_
      cases h
      exact g_vret hC hE (xdt tt_X8_takeOut 43 rfl)
    · replace h := (if_neg hc8).symm.trans h
      refine g_aload_n hC rfl 0 rfl (rfl : 25 + 1 = 26) (xdt tt_X8_takeOut 15 rfl) ?_
      refine g_getP hC hk0 kclX8 ly1_2 0 (by decide) (rfl : r0 + 0 = r0) rfl q75 (rfl : 26 + 3 = 29) (xdt tt_X8_takeOut 16 rfl) ?_
      refine g_iload_n hC rfl 1 rfl (rfl : 29 + 1 = 30) (xdt tt_X8_takeOut 17 rfl) ?_
      refine g_iconst hC (rfl : 30 + 1 = 31) (xdt tt_X8_takeOut 18 rfl) ?_
      refine g_isub hC (rfl : 31 + 1 = 32) (xdt tt_X8_takeOut 19 rfl) ?_
      refine g_aload_n hC rfl 0 rfl (rfl : 32 + 1 = 33) (xdt tt_X8_takeOut 20 rfl) ?_
      refine g_getP hC hk0 kclX8 ly1_2 0 (by decide) (rfl : r0 + 0 = r0) rfl q75 (rfl : 33 + 3 = 36) (xdt tt_X8_takeOut 21 rfl) ?_
      refine g_iload_n hC rfl 1 rfl (rfl : 36 + 1 = 37) (xdt tt_X8_takeOut 22 rfl) ?_
      obtain ⟨hi2, h⟩ := ckI_i h
      refine g_iald hC hk0 ly1_3 hi2 (rfl : 37 + 1 = 38) (xdt tt_X8_takeOut 23 rfl) (k0 := (wr x2).toNat) rfl ?_
      obtain ⟨hi3, h⟩ := ckI_i h
      obtain ⟨S4, hS4, h⟩ := lt1_i h
      refine g_iast hC hk0 ly1_3 hi3 rfl hS4 (rfl : 38 + 1 = 39) (xdt tt_X8_takeOut 24 rfl) ?_
      refine g_aload_n hC rfl 0 rfl (rfl : 39 + 1 = 40) (xdt tt_X8_takeOut 25 rfl) ?_
      refine g_getP hC hk0 kclX8 ly1_2 1 (by decide) (rfl : r0 + 0 = r0) rfl q76 (rfl : 40 + 3 = 43) (xdt tt_X8_takeOut 26 rfl) ?_
      refine g_iload_n hC rfl 1 rfl (rfl : 43 + 1 = 44) (xdt tt_X8_takeOut 27 rfl) ?_
      refine g_iconst hC (rfl : 44 + 1 = 45) (xdt tt_X8_takeOut 28 rfl) ?_
      refine g_isub hC (rfl : 45 + 1 = 46) (xdt tt_X8_takeOut 29 rfl) ?_
      refine g_aload_n hC rfl 0 rfl (rfl : 46 + 1 = 47) (xdt tt_X8_takeOut 30 rfl) ?_
      refine g_getP hC hk0 kclX8 ly1_2 1 (by decide) (rfl : r0 + 0 = r0) rfl q76 (rfl : 47 + 3 = 50) (xdt tt_X8_takeOut 31 rfl) ?_
      refine g_iload_n hC rfl 1 rfl (rfl : 50 + 1 = 51) (xdt tt_X8_takeOut 32 rfl) ?_
      obtain ⟨hi5, h⟩ := ckI_i h
      refine g_iald hC hk0 ly1_4 hi5 (rfl : 51 + 1 = 52) (xdt tt_X8_takeOut 33 rfl) (k0 := (wr x2).toNat) rfl ?_
      obtain ⟨hi6, h⟩ := ckI_i h
      obtain ⟨S7, hS7, h⟩ := lt1_i h
      refine g_iast hC hk0 ly1_4 hi6 rfl hS7 (rfl : 52 + 1 = 53) (xdt tt_X8_takeOut 34 rfl) ?_
      refine g_iinc hC 1 rfl (by decide) (lv' := [(2, vi (x2 + 1)), (0, vr E r0 2)]) rfl (rfl : 53 + 3 = 56) (xdt tt_X8_takeOut 35 rfl) ?_
      refine g_goto hC (show ((56 : Nat) : Int) + (-39) = ((17 : Nat) : Int) by decide) (xdt tt_X8_takeOut 36 rfl) ?_
      refine g_sub [1, 0] (lv' := [(0, vr E r0 2), (2, vi (x2 + 1))]) rfl ?_
      exact ih _ _ h
set_option maxRecDepth 100000 in
set_option maxHeartbeats 4000000 in
theorem c_X8_takeOut_p1_2 (l : Launch) {E : xE} {S S' : xSt} {r0 : Nat} {a1 : Int} (hk0 : xkd E r0 = 1) (h : f_X8_takeOut_p1_2 S r0 a1 = some S') : Met l yX8_takeOut (xws yX8_takeOut cX8_takeOut 3 none) (rmD 1) (YPc E [vr E r0 2, vi a1] S) (YQv E S') 0 0 (xA E) := by
  unfold f_X8_takeOut_p1_2 at h
  refine met_v (by decide +kernel) (Nat.le_of_ble_eq_true rfl) (fun K hC hZ hE => ?_)
  have hC : xOK K cX8_takeOut RX8 3 (rmE 1 0) := hC
  show WG K E 0 [(0, vr E r0 2), (1, vi a1)] [] S
  refine g_iload_n hC rfl 1 rfl (rfl : 0 + 1 = 1) (xdt tt_X8_takeOut 0 rfl) ?_
  refine g_if_lt hC (show ((1 : Nat) : Int) + 11 = ((12 : Nat) : Int) by decide) (rfl : 1 + 3 = 4) (xdt tt_X8_takeOut 1 rfl) (fun hc10 => ?_) (fun hc10 => ?_)
  · replace h := (if_pos hc10).symm.trans h
    cases h
    exact g_vret hC hE (xdt tt_X8_takeOut 6 rfl)
  · replace h := (if_neg hc10).symm.trans h
    refine g_iload_n hC rfl 1 rfl (rfl : 4 + 1 = 5) (xdt tt_X8_takeOut 2 rfl) ?_
    refine g_aload_n hC rfl 0 rfl (rfl : 5 + 1 = 6) (xdt tt_X8_takeOut 3 rfl) ?_
    refine g_getI hC hk0 kclX8 ly1_2 2 (by decide) rfl q167 (rfl : 6 + 3 = 9) (xdt tt_X8_takeOut 4 rfl) ?_
    refine g_icmp_lt hC (show ((9 : Nat) : Int) + 4 = ((13 : Nat) : Int) by decide) (rfl : 9 + 3 = 12) (xdt tt_X8_takeOut 5 rfl) (fun hc9 => ?_) (fun hc9 => ?_)
    · replace h := (if_pos hc9).symm.trans h
      refine g_iload_n hC rfl 1 rfl (rfl : 13 + 1 = 14) (xdt tt_X8_takeOut 7 rfl) ?_
      refine g_iconst hC (rfl : 14 + 1 = 15) (xdt tt_X8_takeOut 8 rfl) ?_
      refine g_iadd hC (rfl : 15 + 1 = 16) (xdt tt_X8_takeOut 9 rfl) ?_
      refine g_istore_n hC rfl (by decide) (lv' := [(2, vi (a1 + 1)), (0, vr E r0 2), (1, vi a1)]) rfl (rfl : 16 + 1 = 17) (xdt tt_X8_takeOut 10 rfl) ?_
      refine g_sub [1, 0] (lv' := [(0, vr E r0 2), (2, vi (a1 + 1))]) rfl ?_
      exact k_X8_takeOut_p1_2_b17 hC hZ hE hk0 _ _ _ h
    · replace h := (if_neg hc9).symm.trans h
      cases h
      exact g_vret hC hE (xdt tt_X8_takeOut 6 rfl)
def f_X1_takeBack_p3_8_1_0 (S : xSt) (r0 : Nat) (r1 : Nat) : Option (xSt) :=
  if wr (gI S r0 8 2) ≤ 0 then
    (some S)
  else
    (if wr (Int.tmod (wr (((gI S r0 8 1) + (gI S r0 8 2)) - 1)) (wr 6)) < 0 then
      (some S)
    else
      (if wr (Int.tmod (wr (((gI S r0 8 1) + (gI S r0 8 2)) - 1)) (wr 6)) < wr 6 then
        (ckI (Int.tmod (wr (((gI S r0 8 1) + (gI S r0 8 2)) - 1)) (wr 6)) 6 <|
        bd (f_X0_copyFrom_p1_0_1_0 S r1 (r0 + (4 + (wr (Int.tmod (wr (((gI S r0 8 1) + (gI S r0 8 2)) - 1)) (wr 6))).toNat))) fun S3 =>
        lt1 (wI S3 r0 8 2 ((gI S3 r0 8 2) - 1)) fun S4 =>
        some S4)
      else
        (some S)))
set_option maxRecDepth 100000 in
set_option maxHeartbeats 4000000 in
theorem c_X1_takeBack_p3_8_1_0 (l : Launch) {E : xE} {S S' : xSt} {r0 : Nat} {r1 : Nat} (hk0 : xkd E r0 = 3) (hA0 : xFam E r0) (hk1 : xkd E r1 = 1) (h : f_X1_takeBack_p3_8_1_0 S r0 r1 = some S') : Met l yX1_takeBack (xws yX1_takeBack cX1_takeBack 3 none) (rmD 5) (YPc E [vr E r0 8, vr E r1 0] S) (YQv E S') 0 0 (xA E) := by
  unfold f_X1_takeBack_p3_8_1_0 at h
  refine met_v (by decide +kernel) (Nat.le_of_ble_eq_true rfl) (fun K hC hZ hE => ?_)
  have hC : xOK K cX1_takeBack RX1 3 (rmE 5 0) := hC
  show WG K E 0 [(0, vr E r0 8), (1, vr E r1 0)] [] S
  refine g_aload_n hC rfl 0 rfl (rfl : 0 + 1 = 1) (xdt tt_X1_takeBack 0 rfl) ?_
  refine g_getI hC hk0 kclX1 ly3_8 1 (by decide) rfl q990 (rfl : 1 + 3 = 4) (xdt tt_X1_takeBack 1 rfl) ?_
  refine g_aload_n hC rfl 0 rfl (rfl : 4 + 1 = 5) (xdt tt_X1_takeBack 2 rfl) ?_
  refine g_getI hC hk0 kclX1 ly3_8 2 (by decide) rfl q465 (rfl : 5 + 3 = 8) (xdt tt_X1_takeBack 3 rfl) ?_
  refine g_iadd hC (rfl : 8 + 1 = 9) (xdt tt_X1_takeBack 4 rfl) ?_
  refine g_iconst hC (rfl : 9 + 1 = 10) (xdt tt_X1_takeBack 5 rfl) ?_
  refine g_isub hC (rfl : 10 + 1 = 11) (xdt tt_X1_takeBack 6 rfl) ?_
  refine g_bipush hC (by decide) (rfl : 11 + 2 = 13) (xdt tt_X1_takeBack 7 rfl) ?_
  refine g_irem hC (by decide) (rfl : 13 + 1 = 14) (xdt tt_X1_takeBack 8 rfl) ?_
  refine g_istore_n hC rfl (by decide) (lv' := [(2, vi (Int.tmod (wr (((gI S r0 8 1) + (gI S r0 8 2)) - 1)) (wr 6))), (0, vr E r0 8), (1, vr E r1 0)]) rfl (rfl : 14 + 1 = 15) (xdt tt_X1_takeBack 9 rfl) ?_
  refine g_aload_n hC rfl 1 rfl (rfl : 15 + 1 = 16) (xdt tt_X1_takeBack 10 rfl) ?_
  refine g_getI hC hk0 kclX1 ly3_8 2 (by decide) rfl q465 (rfl : 16 + 3 = 19) (xdt tt_X1_takeBack 11 rfl) ?_
  refine g_if_le hC (show ((19 : Nat) : Int) + 16 = ((35 : Nat) : Int) by decide) (rfl : 19 + 3 = 22) (xdt tt_X1_takeBack 12 rfl) (fun hc7 => ?_) (fun hc7 => ?_)
  · replace h := (if_pos hc7).symm.trans h
    cases h
    exact g_vret hC hE (xdt tt_X1_takeBack 20 rfl)
  · replace h := (if_neg hc7).symm.trans h
    refine g_iload_n hC rfl 0 rfl (rfl : 22 + 1 = 23) (xdt tt_X1_takeBack 13 rfl) ?_
    refine g_if_lt hC (show ((23 : Nat) : Int) + 12 = ((35 : Nat) : Int) by decide) (rfl : 23 + 3 = 26) (xdt tt_X1_takeBack 14 rfl) (fun hc6 => ?_) (fun hc6 => ?_)
    · replace h := (if_pos hc6).symm.trans h
      cases h
      exact g_vret hC hE (xdt tt_X1_takeBack 20 rfl)
    · replace h := (if_neg hc6).symm.trans h
      refine g_iload_n hC rfl 0 rfl (rfl : 26 + 1 = 27) (xdt tt_X1_takeBack 15 rfl) ?_
      refine g_aload_n hC rfl 1 rfl (rfl : 27 + 1 = 28) (xdt tt_X1_takeBack 16 rfl) ?_
      refine g_getP hC hk0 kclX1 ly3_8 0 (by decide) (rfl : r0 + 0 = r0) rfl q190 (rfl : 28 + 3 = 31) (xdt tt_X1_takeBack 17 rfl) ?_
      refine g_alenR hC hk0 ly3_9 (z := 6) (by decide) (rfl : 31 + 1 = 32) (xdt tt_X1_takeBack 18 rfl) ?_
      refine g_icmp_lt hC (show ((32 : Nat) : Int) + 4 = ((36 : Nat) : Int) by decide) (rfl : 32 + 3 = 35) (xdt tt_X1_takeBack 19 rfl) (fun hc5 => ?_) (fun hc5 => ?_)
      · replace h := (if_pos hc5).symm.trans h
        refine g_aload_n hC rfl 2 rfl (rfl : 36 + 1 = 37) (xdt tt_X1_takeBack 21 rfl) ?_
        refine g_aload_n hC rfl 1 rfl (rfl : 37 + 1 = 38) (xdt tt_X1_takeBack 22 rfl) ?_
        refine g_getP hC hk0 kclX1 ly3_8 0 (by decide) (rfl : r0 + 0 = r0) rfl q190 (rfl : 38 + 3 = 41) (xdt tt_X1_takeBack 23 rfl) ?_
        refine g_iload_n hC rfl 0 rfl (rfl : 41 + 1 = 42) (xdt tt_X1_takeBack 24 rfl) ?_
        obtain ⟨hi1, h⟩ := ckI_i h
        refine g_aald hC hk0 ly3_9 rfl hi1 (xhist hi1) (rfl : _ = (r0 + (4 + (wr (Int.tmod (wr (((gI S r0 8 1) + (gI S r0 8 2)) - 1)) (wr 6))).toNat))) (rfl : 42 + 1 = 43) (xdt tt_X1_takeBack 25 rfl) ?_
        obtain ⟨S3, hc2, h⟩ := bd_i h
        refine g_callVv hC hZ hk1 kclX0 ly1_0 m_X0_copyFrom q991 (Nat.le_of_ble_eq_true rfl) [vr E (r0 + (4 + (wr (Int.tmod (wr (((gI S r0 8 1) + (gI S r0 8 2)) - 1)) (wr 6))).toNat)) 0] rfl (fun l => c_X0_copyFrom_p1_0_1_0 l hk1 (hA0 (4 + (wr (Int.tmod (wr (((gI S r0 8 1) + (gI S r0 8 2)) - 1)) (wr 6))).toNat) (by omega) (by omega)) hc2) rfl (Nat.le_of_ble_eq_true rfl) (rfl : 43 + 3 = 46) (xdt tt_X1_takeBack 26 rfl) ?_
        refine g_aload_n hC rfl 1 rfl (rfl : 46 + 1 = 47) (xdt tt_X1_takeBack 27 rfl) ?_
        refine g_dup hC rfl (rfl : 47 + 1 = 48) (xdt tt_X1_takeBack 28 rfl) ?_
        refine g_getI hC hk0 kclX1 ly3_8 2 (by decide) rfl q465 (rfl : 48 + 3 = 51) (xdt tt_X1_takeBack 29 rfl) ?_
        refine g_iconst hC (rfl : 51 + 1 = 52) (xdt tt_X1_takeBack 30 rfl) ?_
        refine g_isub hC (rfl : 52 + 1 = 53) (xdt tt_X1_takeBack 31 rfl) ?_
        obtain ⟨S4, hS4, h⟩ := lt1_i h
        refine g_putI hC hk0 kclX1 ly3_8 2 (by decide) rfl rfl rfl q465 hS4 (rfl : 53 + 3 = 56) (xdt tt_X1_takeBack 32 rfl) ?_
        cases h
        exact g_vret hC hE (xdt tt_X1_takeBack 33 rfl)
      · replace h := (if_neg hc5).symm.trans h
        cases h
        exact g_vret hC hE (xdt tt_X1_takeBack 20 rfl)
def f_X11_bestValue_p3_0_b24 (r0 : Nat) : Nat → xSt → Int → Int → Int → Int → Int → Option (Int × xSt)
  | 0, _, _, _, _, _, _ => none
  | fuel + 1, S, x1, x2, x3, x4, x5 =>
    ckI x1 6 <|
    if wr (tbI 0 (wr x1).toNat) < wr x5 then
      (some (x3, S))
    else
      (bd (f_X0_copyFrom_p1_0_1_0 S (r0 + 2) (r0 + 1)) fun S4 =>
      ckI x1 6 <|
      lt1 (wI S4 (r0 + 2) 1 (wr x1).toNat x5) fun S6 =>
      bd2 (f_X0_decodeFor_p1_0 S6 (r0 + 2) x2) fun v9 S8 =>
      if wr v9 ≤ wr x4 then
        ((f_X11_bestValue_p3_0_b24 r0 fuel) S8 x1 x2 x3 x4 (x5 + 1))
      else
        ((f_X11_bestValue_p3_0_b24 r0 fuel) S8 x1 x2 x5 v9 (x5 + 1)))
def f_X11_bestValue_p3_0 (S : xSt) (r0 : Nat) (a1 : Int) (a2 : Int) : Option (Int × xSt) :=
  if wr a1 < 0 then
    (some ((-1), S))
  else
    (if wr a1 < wr 6 then
      (ckI a1 6 <|
      f_X11_bestValue_p3_0_b24 r0 (fu S) S a1 a2 (-1) (-1) (tbI 2 (wr a1).toNat))
    else
      (some ((-1), S)))
set_option maxRecDepth 100000 in
set_option maxHeartbeats 4000000 in
theorem k_X11_bestValue_p3_0_b24 {K : xCtx} {E : xE} {b : Nat} (hC : xOK K cX11_bestValue RX11 7 (rmE 7 b)) (hZ : xZ K) {v : Int} {S' : xSt} (hE : xEnd K E (some .int) (YQi E v S')) {r0 : Nat} (hk0 : xkd E r0 = 3) (hA0 : xFam E r0) : ∀ (fuel : Nat) (S : xSt) (x1 : Int) (x2 : Int) (x3 : Int) (x4 : Int) (x5 : Int), f_X11_bestValue_p3_0_b24 r0 fuel S x1 x2 x3 x4 x5 = some (v, S') → WG K E 24 [(0, vr E r0 0), (1, vi x1), (2, vi x2), (3, vi x3), (4, vi x4), (5, vi x5)] [] S := by
  intro fuel
  induction fuel with
  | zero => intro S x1 x2 x3 x4 x5 h; cases h
  | succ fuel ih =>
    intro S x1 x2 x3 x4 x5 h
    rw [f_X11_bestValue_p3_0_b24] at h
    refine g_iload hC 5 rfl (rfl : 24 + 2 = 26) (xdt tt_X11_bestValue 15 rfl) ?_
    refine g_gets hC 0 rfl q446 (rfl : 26 + 3 = 29) (xdt tt_X11_bestValue 16 rfl) ?_
    refine g_iload_n hC rfl 1 rfl (rfl : 29 + 1 = 30) (xdt tt_X11_bestValue 17 rfl) ?_
    obtain ⟨hi2, h⟩ := ckI_i h
    refine g_tald hC (q := 0) rfl rfl hi2 (rfl : 30 + 1 = 31) (xdt tt_X11_bestValue 18 rfl) (k0 := (wr x1).toNat) rfl ?_
    refine g_icmp_gt hC (show ((31 : Nat) : Int) + 55 = ((86 : Nat) : Int) by decide) (rfl : 31 + 3 = 34) (xdt tt_X11_bestValue 19 rfl) (fun hc11 => ?_) (fun hc11 => ?_)
    · replace h := (if_pos hc11).symm.trans h
      refine g_iload_n hC rfl 3 rfl (rfl : 86 + 1 = 87) (xdt tt_X11_bestValue 45 rfl) ?_
      cases h
      exact g_iret hC hE (xdt tt_X11_bestValue 46 rfl)
    · replace h := (if_neg hc11).symm.trans h
      refine g_aload_n hC rfl 0 rfl (rfl : 34 + 1 = 35) (xdt tt_X11_bestValue 20 rfl) ?_
      refine g_getP hC hk0 kclX11 ly3_0 7 (by decide) (rfl : r0 + 2 = (r0 + 2)) rfl q32 (rfl : 35 + 3 = 38) (xdt tt_X11_bestValue 21 rfl) ?_
      refine g_aload_n hC rfl 0 rfl (rfl : 38 + 1 = 39) (xdt tt_X11_bestValue 22 rfl) ?_
      refine g_getP hC hk0 kclX11 ly3_0 6 (by decide) (rfl : r0 + 1 = (r0 + 1)) rfl q31 (rfl : 39 + 3 = 42) (xdt tt_X11_bestValue 23 rfl) ?_
      obtain ⟨S4, hc3, h⟩ := bd_i h
      refine g_callVv hC hZ (hA0 2 (by decide) (by decide)) kclX0 ly1_0 m_X0_copyFrom q1357 (Nat.le_of_ble_eq_true rfl) [vr E (r0 + 1) 0] rfl (fun l => c_X0_copyFrom_p1_0_1_0 l (hA0 2 (by decide) (by decide)) (hA0 1 (by decide) (by decide)) hc3) rfl (Nat.le_of_ble_eq_true rfl) (rfl : 42 + 3 = 45) (xdt tt_X11_bestValue 24 rfl) ?_
      refine g_aload_n hC rfl 0 rfl (rfl : 45 + 1 = 46) (xdt tt_X11_bestValue 25 rfl) ?_
      refine g_getP hC hk0 kclX11 ly3_0 7 (by decide) (rfl : r0 + 2 = (r0 + 2)) rfl q32 (rfl : 46 + 3 = 49) (xdt tt_X11_bestValue 26 rfl) ?_
      refine g_getP hC (hA0 2 (by decide) (by decide)) kclX0 ly1_0 1 (by decide) (rfl : (r0 + 2) + 0 = (r0 + 2)) rfl q589 (rfl : 49 + 3 = 52) (xdt tt_X11_bestValue 27 rfl) ?_
      refine g_iload_n hC rfl 1 rfl (rfl : 52 + 1 = 53) (xdt tt_X11_bestValue 28 rfl) ?_
      refine g_iload hC 5 rfl (rfl : 53 + 2 = 55) (xdt tt_X11_bestValue 29 rfl) ?_
      obtain ⟨hi5, h⟩ := ckI_i h
      obtain ⟨S6, hS6, h⟩ := lt1_i h
      refine g_iast hC (hA0 2 (by decide) (by decide)) ly1_1 hi5 rfl hS6 (rfl : 55 + 1 = 56) (xdt tt_X11_bestValue 30 rfl) ?_
      refine g_aload_n hC rfl 0 rfl (rfl : 56 + 1 = 57) (xdt tt_X11_bestValue 31 rfl) ?_
      refine g_getP hC hk0 kclX11 ly3_0 7 (by decide) (rfl : r0 + 2 = (r0 + 2)) rfl q32 (rfl : 57 + 3 = 60) (xdt tt_X11_bestValue 32 rfl) ?_
      refine g_iload_n hC rfl 2 rfl (rfl : 60 + 1 = 61) (xdt tt_X11_bestValue 33 rfl) ?_
      obtain ⟨v9, S8, hc7, h⟩ := bd2_i h
      refine g_callVi hC hZ (hA0 2 (by decide) (by decide)) kclX0 ly1_0 m_X0_decodeFor q1025 (Nat.le_of_ble_eq_true rfl) [vi x2] rfl (fun l => c_X0_decodeFor_p1_0 l (hA0 2 (by decide) (by decide)) hc7) rfl (Nat.le_of_ble_eq_true rfl) (rfl : 61 + 3 = 64) (xdt tt_X11_bestValue 34 rfl) ?_
      refine g_istore hC (by decide) (lv' := [(6, vi v9), (0, vr E r0 0), (1, vi x1), (2, vi x2), (3, vi x3), (4, vi x4), (5, vi x5)]) rfl (rfl : 64 + 2 = 66) (xdt tt_X11_bestValue 35 rfl) ?_
      refine g_iload hC 0 rfl (rfl : 66 + 2 = 68) (xdt tt_X11_bestValue 36 rfl) ?_
      refine g_iload hC 5 rfl (rfl : 68 + 2 = 70) (xdt tt_X11_bestValue 37 rfl) ?_
      refine g_icmp_le hC (show ((70 : Nat) : Int) + 10 = ((80 : Nat) : Int) by decide) (rfl : 70 + 3 = 73) (xdt tt_X11_bestValue 38 rfl) (fun hc10 => ?_) (fun hc10 => ?_)
      · replace h := (if_pos hc10).symm.trans h
        refine g_iinc hC 6 rfl (by decide) (lv' := [(5, vi (x5 + 1)), (6, vi v9), (0, vr E r0 0), (1, vi x1), (2, vi x2), (3, vi x3), (4, vi x4)]) rfl (rfl : 80 + 3 = 83) (xdt tt_X11_bestValue 43 rfl) ?_
        refine g_goto hC (show ((83 : Nat) : Int) + (-59) = ((24 : Nat) : Int) by decide) (xdt tt_X11_bestValue 44 rfl) ?_
        refine g_sub [2, 3, 4, 5, 6, 0] (lv' := [(0, vr E r0 0), (1, vi x1), (2, vi x2), (3, vi x3), (4, vi x4), (5, vi (x5 + 1))]) rfl ?_
        exact ih _ _ _ _ _ _ h
      · replace h := (if_neg hc10).symm.trans h
        refine g_iload hC 0 rfl (rfl : 73 + 2 = 75) (xdt tt_X11_bestValue 39 rfl) ?_
        refine g_istore hC (by decide) (lv' := [(4, vi v9), (6, vi v9), (0, vr E r0 0), (1, vi x1), (2, vi x2), (3, vi x3), (5, vi x5)]) rfl (rfl : 75 + 2 = 77) (xdt tt_X11_bestValue 40 rfl) ?_
        refine g_iload hC 6 rfl (rfl : 77 + 2 = 79) (xdt tt_X11_bestValue 41 rfl) ?_
        refine g_istore_n hC rfl (by decide) (lv' := [(3, vi x5), (4, vi v9), (6, vi v9), (0, vr E r0 0), (1, vi x1), (2, vi x2), (5, vi x5)]) rfl (rfl : 79 + 1 = 80) (xdt tt_X11_bestValue 42 rfl) ?_
        refine g_iinc hC 6 rfl (by decide) (lv' := [(5, vi (x5 + 1)), (3, vi x5), (4, vi v9), (6, vi v9), (0, vr E r0 0), (1, vi x1), (2, vi x2)]) rfl (rfl : 80 + 3 = 83) (xdt tt_X11_bestValue 43 rfl) ?_
        refine g_goto hC (show ((83 : Nat) : Int) + (-59) = ((24 : Nat) : Int) by decide) (xdt tt_X11_bestValue 44 rfl) ?_
        refine g_sub [4, 5, 6, 1, 2, 0] (lv' := [(0, vr E r0 0), (1, vi x1), (2, vi x2), (3, vi x5), (4, vi v9), (5, vi (x5 + 1))]) rfl ?_
        exact ih _ _ _ _ _ _ h
set_option maxRecDepth 100000 in
set_option maxHeartbeats 4000000 in
theorem c_X11_bestValue_p3_0 (l : Launch) {E : xE} {S S' : xSt} {r0 : Nat} {a1 : Int} {a2 : Int} (hk0 : xkd E r0 = 3) (hA0 : xFam E r0) {v : Int} (h : f_X11_bestValue_p3_0 S r0 a1 a2 = some (v, S')) : Met l yX11_bestValue (xws yX11_bestValue cX11_bestValue 7 (some .int)) (rmD 7) (YPc E [vr E r0 0, vi a1, vi a2] S) (YQi E v S') 0 0 (xA E) := by
  unfold f_X11_bestValue_p3_0 at h
  refine met_i (by decide +kernel) (Nat.le_of_ble_eq_true rfl) (fun K hC hZ hE => ?_)
  have hC : xOK K cX11_bestValue RX11 7 (rmE 7 0) := hC
  show WG K E 0 [(0, vr E r0 0), (1, vi a1), (2, vi a2)] [] S
  refine g_iload_n hC rfl 1 rfl (rfl : 0 + 1 = 1) (xdt tt_X11_bestValue 0 rfl) ?_
  refine g_if_lt hC (show ((1 : Nat) : Int) + 9 = ((10 : Nat) : Int) by decide) (rfl : 1 + 3 = 4) (xdt tt_X11_bestValue 1 rfl) (fun hc13 => ?_) (fun hc13 => ?_)
  · replace h := (if_pos hc13).symm.trans h
    refine g_iconst hC (rfl : 10 + 1 = 11) (xdt tt_X11_bestValue 5 rfl) ?_
    cases h
    exact g_iret hC hE (xdt tt_X11_bestValue 6 rfl)
  · replace h := (if_neg hc13).symm.trans h
    refine g_iload_n hC rfl 1 rfl (rfl : 4 + 1 = 5) (xdt tt_X11_bestValue 2 rfl) ?_
    refine g_bipush hC (by decide) (rfl : 5 + 2 = 7) (xdt tt_X11_bestValue 3 rfl) ?_
    refine g_icmp_lt hC (show ((7 : Nat) : Int) + 5 = ((12 : Nat) : Int) by decide) (rfl : 7 + 3 = 10) (xdt tt_X11_bestValue 4 rfl) (fun hc12 => ?_) (fun hc12 => ?_)
    · replace h := (if_pos hc12).symm.trans h
      refine g_iconst hC (rfl : 12 + 1 = 13) (xdt tt_X11_bestValue 7 rfl) ?_
      refine g_istore_n hC rfl (by decide) (lv' := [(3, vi (-1)), (0, vr E r0 0), (1, vi a1), (2, vi a2)]) rfl (rfl : 13 + 1 = 14) (xdt tt_X11_bestValue 8 rfl) ?_
      refine g_iconst hC (rfl : 14 + 1 = 15) (xdt tt_X11_bestValue 9 rfl) ?_
      refine g_istore hC (by decide) (lv' := [(4, vi (-1)), (3, vi (-1)), (0, vr E r0 0), (1, vi a1), (2, vi a2)]) rfl (rfl : 15 + 2 = 17) (xdt tt_X11_bestValue 10 rfl) ?_
      refine g_gets hC 2 rfl q445 (rfl : 17 + 3 = 20) (xdt tt_X11_bestValue 11 rfl) ?_
      refine g_iload_n hC rfl 3 rfl (rfl : 20 + 1 = 21) (xdt tt_X11_bestValue 12 rfl) ?_
      obtain ⟨hi1, h⟩ := ckI_i h
      refine g_tald hC (q := 2) rfl rfl hi1 (rfl : 21 + 1 = 22) (xdt tt_X11_bestValue 13 rfl) (k0 := (wr a1).toNat) rfl ?_
      refine g_istore hC (by decide) (lv' := [(5, vi (tbI 2 (wr a1).toNat)), (4, vi (-1)), (3, vi (-1)), (0, vr E r0 0), (1, vi a1), (2, vi a2)]) rfl (rfl : 22 + 2 = 24) (xdt tt_X11_bestValue 14 rfl) ?_
      refine g_sub [3, 4, 5, 2, 1, 0] (lv' := [(0, vr E r0 0), (1, vi a1), (2, vi a2), (3, vi (-1)), (4, vi (-1)), (5, vi (tbI 2 (wr a1).toNat))]) rfl ?_
      exact k_X11_bestValue_p3_0_b24 hC hZ hE hk0 hA0 _ _ _ _ _ _ _ h
    · replace h := (if_neg hc12).symm.trans h
      refine g_iconst hC (rfl : 10 + 1 = 11) (xdt tt_X11_bestValue 5 rfl) ?_
      cases h
      exact g_iret hC hE (xdt tt_X11_bestValue 6 rfl)
def f_X9_mostUnusedSince_p1_14_1_16_b7 (r0 : Nat) (r1 : Nat) : Nat → xSt → Int → Int → Int → Option (Int × xSt)
  | 0, _, _, _, _ => none
  | fuel + 1, S, x2, x3, x4 =>
    if wr 8 < wr x4 then
      (some (x2, S))
    else
      (if wr 9 ≤ wr x4 then
        (some (x2, S))
      else
        (ckI x4 9 <|
        ckI x4 9 <|
        if wr ((gI S r0 16 (wr x4).toNat) - (gI S r1 16 (wr x4).toNat)) ≤ wr x3 then
          ((f_X9_mostUnusedSince_p1_14_1_16_b7 r0 r1 fuel) S x2 x3 (x4 + 1))
        else
          ((f_X9_mostUnusedSince_p1_14_1_16_b7 r0 r1 fuel) S x4 ((gI S r0 16 (wr x4).toNat) - (gI S r1 16 (wr x4).toNat)) (x4 + 1))))
def f_X9_mostUnusedSince_p1_14_1_16 (S : xSt) (r0 : Nat) (r1 : Nat) : Option (Int × xSt) :=
  f_X9_mostUnusedSince_p1_14_1_16_b7 r0 r1 (fu S) S (-1) 0 1
set_option maxRecDepth 100000 in
set_option maxHeartbeats 4000000 in
theorem k_X9_mostUnusedSince_p1_14_1_16_b7 {K : xCtx} {E : xE} {b : Nat} (hC : xOK K cX9_mostUnusedSince RX9 6 (rmE 1 b)) (hZ : xZ K) {v : Int} {S' : xSt} (hE : xEnd K E (some .int) (YQi E v S')) {r0 : Nat} {r1 : Nat} (hk0 : xkd E r0 = 1) (hk1 : xkd E r1 = 1) : ∀ (fuel : Nat) (S : xSt) (x2 : Int) (x3 : Int) (x4 : Int), f_X9_mostUnusedSince_p1_14_1_16_b7 r0 r1 fuel S x2 x3 x4 = some (v, S') → WG K E 7 [(0, vr E r0 14), (1, vr E r1 16), (2, vi x2), (3, vi x3), (4, vi x4)] [] S := by
  intro fuel
  induction fuel with
  | zero => intro S x2 x3 x4 h; cases h
  | succ fuel ih =>
    intro S x2 x3 x4 h
    rw [f_X9_mostUnusedSince_p1_14_1_16_b7] at h
    refine g_iload hC 4 rfl (rfl : 7 + 2 = 9) (xdt tt_X9_mostUnusedSince 6 rfl) ?_
    refine g_bipush hC (by decide) (rfl : 9 + 2 = 11) (xdt tt_X9_mostUnusedSince 7 rfl) ?_
    refine g_icmp_gt hC (show ((11 : Nat) : Int) + 42 = ((53 : Nat) : Int) by decide) (rfl : 11 + 3 = 14) (xdt tt_X9_mostUnusedSince 8 rfl) (fun hc5 => ?_) (fun hc5 => ?_)
    · replace h := (if_pos hc5).symm.trans h
      refine g_iload_n hC rfl 2 rfl (rfl : 53 + 1 = 54) (xdt tt_X9_mostUnusedSince 31 rfl) ?_
      cases h
      exact g_iret hC hE (xdt tt_X9_mostUnusedSince 32 rfl)
    · replace h := (if_neg hc5).symm.trans h
      refine g_iload hC 4 rfl (rfl : 14 + 2 = 16) (xdt tt_X9_mostUnusedSince 9 rfl) ?_
      refine g_aload_n hC rfl 1 rfl (rfl : 16 + 1 = 17) (xdt tt_X9_mostUnusedSince 10 rfl) ?_
      refine g_alen hC hk1 ly1_16 (z := 9) (by decide) (rfl : 17 + 1 = 18) (xdt tt_X9_mostUnusedSince 11 rfl) ?_
      refine g_icmp_ge hC (show ((18 : Nat) : Int) + 35 = ((53 : Nat) : Int) by decide) (rfl : 18 + 3 = 21) (xdt tt_X9_mostUnusedSince 12 rfl) (fun hc4 => ?_) (fun hc4 => ?_)
      · replace h := (if_pos hc4).symm.trans h
        refine g_iload_n hC rfl 2 rfl (rfl : 53 + 1 = 54) (xdt tt_X9_mostUnusedSince 31 rfl) ?_
        cases h
        exact g_iret hC hE (xdt tt_X9_mostUnusedSince 32 rfl)
      · replace h := (if_neg hc4).symm.trans h
        refine g_aload_n hC rfl 0 rfl (rfl : 21 + 1 = 22) (xdt tt_X9_mostUnusedSince 13 rfl) ?_
        refine g_getP hC hk0 kclX9 ly1_14 1 (by decide) (rfl : r0 + 0 = r0) rfl q139 (rfl : 22 + 3 = 25) (xdt tt_X9_mostUnusedSince 14 rfl) ?_
        refine g_iload hC 4 rfl (rfl : 25 + 2 = 27) (xdt tt_X9_mostUnusedSince 15 rfl) ?_
        obtain ⟨hi1, h⟩ := ckI_i h
        refine g_iald hC hk0 ly1_16 hi1 (rfl : 27 + 1 = 28) (xdt tt_X9_mostUnusedSince 16 rfl) (k0 := (wr x4).toNat) rfl ?_
        refine g_aload_n hC rfl 1 rfl (rfl : 28 + 1 = 29) (xdt tt_X9_mostUnusedSince 17 rfl) ?_
        refine g_iload hC 4 rfl (rfl : 29 + 2 = 31) (xdt tt_X9_mostUnusedSince 18 rfl) ?_
        obtain ⟨hi2, h⟩ := ckI_i h
        refine g_iald hC hk1 ly1_16 hi2 (rfl : 31 + 1 = 32) (xdt tt_X9_mostUnusedSince 19 rfl) (k0 := (wr x4).toNat) rfl ?_
        refine g_isub hC (rfl : 32 + 1 = 33) (xdt tt_X9_mostUnusedSince 20 rfl) ?_
        refine g_istore hC (by decide) (lv' := [(5, vi ((gI S r0 16 (wr x4).toNat) - (gI S r1 16 (wr x4).toNat))), (0, vr E r0 14), (1, vr E r1 16), (2, vi x2), (3, vi x3), (4, vi x4)]) rfl (rfl : 33 + 2 = 35) (xdt tt_X9_mostUnusedSince 21 rfl) ?_
        refine g_iload hC 0 rfl (rfl : 35 + 2 = 37) (xdt tt_X9_mostUnusedSince 22 rfl) ?_
        refine g_iload_n hC rfl 4 rfl (rfl : 37 + 1 = 38) (xdt tt_X9_mostUnusedSince 23 rfl) ?_
        refine g_icmp_le hC (show ((38 : Nat) : Int) + 9 = ((47 : Nat) : Int) by decide) (rfl : 38 + 3 = 41) (xdt tt_X9_mostUnusedSince 24 rfl) (fun hc3 => ?_) (fun hc3 => ?_)
        · replace h := (if_pos hc3).symm.trans h
          refine g_iinc hC 5 rfl (by decide) (lv' := [(4, vi (x4 + 1)), (5, vi ((gI S r0 16 (wr x4).toNat) - (gI S r1 16 (wr x4).toNat))), (0, vr E r0 14), (1, vr E r1 16), (2, vi x2), (3, vi x3)]) rfl (rfl : 47 + 3 = 50) (xdt tt_X9_mostUnusedSince 29 rfl) ?_
          refine g_goto hC (show ((50 : Nat) : Int) + (-43) = ((7 : Nat) : Int) by decide) (xdt tt_X9_mostUnusedSince 30 rfl) ?_
          refine g_sub [2, 3, 4, 5, 0] (lv' := [(0, vr E r0 14), (1, vr E r1 16), (2, vi x2), (3, vi x3), (4, vi (x4 + 1))]) rfl ?_
          exact ih _ _ _ _ h
        · replace h := (if_neg hc3).symm.trans h
          refine g_iload hC 0 rfl (rfl : 41 + 2 = 43) (xdt tt_X9_mostUnusedSince 25 rfl) ?_
          refine g_istore_n hC rfl (by decide) (lv' := [(3, vi ((gI S r0 16 (wr x4).toNat) - (gI S r1 16 (wr x4).toNat))), (5, vi ((gI S r0 16 (wr x4).toNat) - (gI S r1 16 (wr x4).toNat))), (0, vr E r0 14), (1, vr E r1 16), (2, vi x2), (4, vi x4)]) rfl (rfl : 43 + 1 = 44) (xdt tt_X9_mostUnusedSince 26 rfl) ?_
          refine g_iload hC 5 rfl (rfl : 44 + 2 = 46) (xdt tt_X9_mostUnusedSince 27 rfl) ?_
          refine g_istore_n hC rfl (by decide) (lv' := [(2, vi x4), (3, vi ((gI S r0 16 (wr x4).toNat) - (gI S r1 16 (wr x4).toNat))), (5, vi ((gI S r0 16 (wr x4).toNat) - (gI S r1 16 (wr x4).toNat))), (0, vr E r0 14), (1, vr E r1 16), (4, vi x4)]) rfl (rfl : 46 + 1 = 47) (xdt tt_X9_mostUnusedSince 28 rfl) ?_
          refine g_iinc hC 5 rfl (by decide) (lv' := [(4, vi (x4 + 1)), (2, vi x4), (3, vi ((gI S r0 16 (wr x4).toNat) - (gI S r1 16 (wr x4).toNat))), (5, vi ((gI S r0 16 (wr x4).toNat) - (gI S r1 16 (wr x4).toNat))), (0, vr E r0 14), (1, vr E r1 16)]) rfl (rfl : 47 + 3 = 50) (xdt tt_X9_mostUnusedSince 29 rfl) ?_
          refine g_goto hC (show ((50 : Nat) : Int) + (-43) = ((7 : Nat) : Int) by decide) (xdt tt_X9_mostUnusedSince 30 rfl) ?_
          refine g_sub [4, 5, 1, 2, 0] (lv' := [(0, vr E r0 14), (1, vr E r1 16), (2, vi x4), (3, vi ((gI S r0 16 (wr x4).toNat) - (gI S r1 16 (wr x4).toNat))), (4, vi (x4 + 1))]) rfl ?_
          exact ih _ _ _ _ h
set_option maxRecDepth 100000 in
set_option maxHeartbeats 4000000 in
theorem c_X9_mostUnusedSince_p1_14_1_16 (l : Launch) {E : xE} {S S' : xSt} {r0 : Nat} {r1 : Nat} (hk0 : xkd E r0 = 1) (hk1 : xkd E r1 = 1) {v : Int} (h : f_X9_mostUnusedSince_p1_14_1_16 S r0 r1 = some (v, S')) : Met l yX9_mostUnusedSince (xws yX9_mostUnusedSince cX9_mostUnusedSince 6 (some .int)) (rmD 1) (YPc E [vr E r0 14, vr E r1 16] S) (YQi E v S') 0 0 (xA E) := by
  unfold f_X9_mostUnusedSince_p1_14_1_16 at h
  refine met_i (by decide +kernel) (Nat.le_of_ble_eq_true rfl) (fun K hC hZ hE => ?_)
  have hC : xOK K cX9_mostUnusedSince RX9 6 (rmE 1 0) := hC
  show WG K E 0 [(0, vr E r0 14), (1, vr E r1 16)] [] S
  refine g_iconst hC (rfl : 0 + 1 = 1) (xdt tt_X9_mostUnusedSince 0 rfl) ?_
  refine g_istore_n hC rfl (by decide) (lv' := [(2, vi (-1)), (0, vr E r0 14), (1, vr E r1 16)]) rfl (rfl : 1 + 1 = 2) (xdt tt_X9_mostUnusedSince 1 rfl) ?_
  refine g_iconst hC (rfl : 2 + 1 = 3) (xdt tt_X9_mostUnusedSince 2 rfl) ?_
  refine g_istore_n hC rfl (by decide) (lv' := [(3, vi 0), (2, vi (-1)), (0, vr E r0 14), (1, vr E r1 16)]) rfl (rfl : 3 + 1 = 4) (xdt tt_X9_mostUnusedSince 3 rfl) ?_
  refine g_iconst hC (rfl : 4 + 1 = 5) (xdt tt_X9_mostUnusedSince 4 rfl) ?_
  refine g_istore hC (by decide) (lv' := [(4, vi 1), (3, vi 0), (2, vi (-1)), (0, vr E r0 14), (1, vr E r1 16)]) rfl (rfl : 5 + 2 = 7) (xdt tt_X9_mostUnusedSince 5 rfl) ?_
  refine g_sub [3, 4, 2, 1, 0] (lv' := [(0, vr E r0 14), (1, vr E r1 16), (2, vi (-1)), (3, vi 0), (4, vi 1)]) rfl ?_
  exact k_X9_mostUnusedSince_p1_14_1_16_b7 hC hZ hE hk0 hk1 _ _ _ _ _ h
def f_X2_clear_p3_6 (S : xSt) (r0 : Nat) : Option (xSt) :=
  lt1 (wI S r0 6 1 0) fun S1 =>
  some S1
set_option maxRecDepth 100000 in
set_option maxHeartbeats 4000000 in
theorem c_X2_clear_p3_6 (l : Launch) {E : xE} {S S' : xSt} {r0 : Nat} (hk0 : xkd E r0 = 3) (hA0 : xFam E r0) (h : f_X2_clear_p3_6 S r0 = some S') : Met l yX2_clear (xws yX2_clear cX2_clear 1 none) (rmD 1) (YPc E [vr E r0 6] S) (YQv E S') 0 0 (xA E) := by
  unfold f_X2_clear_p3_6 at h
  refine met_v (by decide +kernel) (Nat.le_of_ble_eq_true rfl) (fun K hC hZ hE => ?_)
  have hC : xOK K cX2_clear RX2 1 (rmE 1 0) := hC
  show WG K E 0 [(0, vr E r0 6)] [] S
  refine g_aload_n hC rfl 0 rfl (rfl : 0 + 1 = 1) (xdt tt_X2_clear 0 rfl) ?_
  refine g_iconst hC (rfl : 1 + 1 = 2) (xdt tt_X2_clear 1 rfl) ?_
  obtain ⟨S1, hS1, h⟩ := lt1_i h
  refine g_putI hC hk0 kclX2 ly3_6 1 (by decide) rfl rfl rfl q1507 hS1 (rfl : 2 + 3 = 5) (xdt tt_X2_clear 2 rfl) ?_
  cases h
  exact g_vret hC hE (xdt tt_X2_clear 3 rfl)
def f_X2_addByte_p3_6 (S : xSt) (r0 : Nat) (a1 : Int) : Option (xSt) :=
  if wr (gI S r0 6 1) < 0 then
    (some S)
  else
    (if wr 32 ≤ wr (gI S r0 6 1) then
      (some S)
    else
      (ckI (gI S r0 6 1) 32 <|
      lt1 (wI S r0 7 (wr (gI S r0 6 1)).toNat (wb (wb a1))) fun S2 =>
      lt1 (wI S2 r0 6 1 ((gI S2 r0 6 1) + 1)) fun S3 =>
      some S3))
set_option maxRecDepth 100000 in
set_option maxHeartbeats 4000000 in
theorem c_X2_addByte_p3_6 (l : Launch) {E : xE} {S S' : xSt} {r0 : Nat} {a1 : Int} (hk0 : xkd E r0 = 3) (hA0 : xFam E r0) (h : f_X2_addByte_p3_6 S r0 a1 = some S') : Met l yX2_addByte (xws yX2_addByte cX2_addByte 2 none) (rmD 1) (YPc E [vr E r0 6, vi a1] S) (YQv E S') 0 0 (xA E) := by
  unfold f_X2_addByte_p3_6 at h
  refine met_v (by decide +kernel) (Nat.le_of_ble_eq_true rfl) (fun K hC hZ hE => ?_)
  have hC : xOK K cX2_addByte RX2 2 (rmE 1 0) := hC
  show WG K E 0 [(0, vr E r0 6), (1, vi a1)] [] S
  refine g_aload_n hC rfl 0 rfl (rfl : 0 + 1 = 1) (xdt tt_X2_addByte 0 rfl) ?_
  refine g_getI hC hk0 kclX2 ly3_6 1 (by decide) rfl q1507 (rfl : 1 + 3 = 4) (xdt tt_X2_addByte 1 rfl) ?_
  refine g_if_lt hC (show ((4 : Nat) : Int) + 36 = ((40 : Nat) : Int) by decide) (rfl : 4 + 3 = 7) (xdt tt_X2_addByte 2 rfl) (fun hc5 => ?_) (fun hc5 => ?_)
  · replace h := (if_pos hc5).symm.trans h
    cases h
    exact g_vret hC hE (xdt tt_X2_addByte 22 rfl)
  · replace h := (if_neg hc5).symm.trans h
    refine g_aload_n hC rfl 0 rfl (rfl : 7 + 1 = 8) (xdt tt_X2_addByte 3 rfl) ?_
    refine g_getI hC hk0 kclX2 ly3_6 1 (by decide) rfl q1507 (rfl : 8 + 3 = 11) (xdt tt_X2_addByte 4 rfl) ?_
    refine g_aload_n hC rfl 0 rfl (rfl : 11 + 1 = 12) (xdt tt_X2_addByte 5 rfl) ?_
    refine g_getP hC hk0 kclX2 ly3_6 0 (by decide) (rfl : r0 + 0 = r0) rfl q90 (rfl : 12 + 3 = 15) (xdt tt_X2_addByte 6 rfl) ?_
    refine g_alen hC hk0 ly3_7 (z := 32) (by decide) (rfl : 15 + 1 = 16) (xdt tt_X2_addByte 7 rfl) ?_
    refine g_icmp_ge hC (show ((16 : Nat) : Int) + 24 = ((40 : Nat) : Int) by decide) (rfl : 16 + 3 = 19) (xdt tt_X2_addByte 8 rfl) (fun hc4 => ?_) (fun hc4 => ?_)
    · replace h := (if_pos hc4).symm.trans h
      cases h
      exact g_vret hC hE (xdt tt_X2_addByte 22 rfl)
    · replace h := (if_neg hc4).symm.trans h
      refine g_aload_n hC rfl 0 rfl (rfl : 19 + 1 = 20) (xdt tt_X2_addByte 9 rfl) ?_
      refine g_getP hC hk0 kclX2 ly3_6 0 (by decide) (rfl : r0 + 0 = r0) rfl q90 (rfl : 20 + 3 = 23) (xdt tt_X2_addByte 10 rfl) ?_
      refine g_aload_n hC rfl 0 rfl (rfl : 23 + 1 = 24) (xdt tt_X2_addByte 11 rfl) ?_
      refine g_getI hC hk0 kclX2 ly3_6 1 (by decide) rfl q1507 (rfl : 24 + 3 = 27) (xdt tt_X2_addByte 12 rfl) ?_
      refine g_iload_n hC rfl 1 rfl (rfl : 27 + 1 = 28) (xdt tt_X2_addByte 13 rfl) ?_
      refine g_i2b hC (rfl : 28 + 1 = 29) (xdt tt_X2_addByte 14 rfl) ?_
      obtain ⟨hi1, h⟩ := ckI_i h
      obtain ⟨S2, hS2, h⟩ := lt1_i h
      refine g_bast hC hk0 ly3_7 hi1 rfl hS2 (rfl : 29 + 1 = 30) (xdt tt_X2_addByte 15 rfl) ?_
      refine g_aload_n hC rfl 0 rfl (rfl : 30 + 1 = 31) (xdt tt_X2_addByte 16 rfl) ?_
      refine g_dup hC rfl (rfl : 31 + 1 = 32) (xdt tt_X2_addByte 17 rfl) ?_
      refine g_getI hC hk0 kclX2 ly3_6 1 (by decide) rfl q1507 (rfl : 32 + 3 = 35) (xdt tt_X2_addByte 18 rfl) ?_
      refine g_iconst hC (rfl : 35 + 1 = 36) (xdt tt_X2_addByte 19 rfl) ?_
      refine g_iadd hC (rfl : 36 + 1 = 37) (xdt tt_X2_addByte 20 rfl) ?_
      obtain ⟨S3, hS3, h⟩ := lt1_i h
      refine g_putI hC hk0 kclX2 ly3_6 1 (by decide) rfl rfl rfl q1507 hS3 (rfl : 37 + 3 = 40) (xdt tt_X2_addByte 21 rfl) ?_
      cases h
      exact g_vret hC hE (xdt tt_X2_addByte 22 rfl)
def f_X2_addNumber_p3_6_b40 (r0 : Nat) (S : xSt) (x1 : Int) : Option (xSt) :=
  bd (f_X2_addByte_p3_6 S r0 (48 + (Int.tmod (wr x1) (wr 10)))) fun S2 =>
  some S2
def f_X2_addNumber_p3_6_b20 (r0 : Nat) (S : xSt) (x1 : Int) : Option (xSt) :=
  if wr x1 < wr 10 then
    (f_X2_addNumber_p3_6_b40 r0 S x1)
  else
    (bd (f_X2_addByte_p3_6 S r0 (48 + (Int.tmod (wr (Int.tdiv (wr x1) (wr 10))) (wr 10)))) fun S4 =>
    f_X2_addNumber_p3_6_b40 r0 S4 x1)
def f_X2_addNumber_p3_6 (S : xSt) (r0 : Nat) (a1 : Int) : Option (xSt) :=
  if wr a1 < wr 100 then
    (f_X2_addNumber_p3_6_b20 r0 S a1)
  else
    (bd (f_X2_addByte_p3_6 S r0 (48 + (Int.tmod (wr (Int.tdiv (wr a1) (wr 100))) (wr 10)))) fun S7 =>
    f_X2_addNumber_p3_6_b20 r0 S7 a1)
set_option maxRecDepth 100000 in
set_option maxHeartbeats 4000000 in
theorem k_X2_addNumber_p3_6_b40 {K : xCtx} {E : xE} {b : Nat} (hC : xOK K cX2_addNumber RX2 2 (rmE 2 b)) (hZ : xZ K) {S' : xSt} (hE : xEnd K E none (YQv E S')) {r0 : Nat} (hk0 : xkd E r0 = 3) (hA0 : xFam E r0) : ∀ (S : xSt) (x1 : Int), f_X2_addNumber_p3_6_b40 r0 S x1 = some S' → WG K E 40 [(0, vr E r0 6), (1, vi x1)] [] S := by
  intro S x1 h
  unfold f_X2_addNumber_p3_6_b40 at h
  refine g_aload_n hC rfl 0 rfl (rfl : 40 + 1 = 41) (xdt tt_X2_addNumber 24 rfl) ?_
  refine g_bipush hC (by decide) (rfl : 41 + 2 = 43) (xdt tt_X2_addNumber 25 rfl) ?_
  refine g_iload_n hC rfl 1 rfl (rfl : 43 + 1 = 44) (xdt tt_X2_addNumber 26 rfl) ?_
  refine g_bipush hC (by decide) (rfl : 44 + 2 = 46) (xdt tt_X2_addNumber 27 rfl) ?_
  refine g_irem hC (by decide) (rfl : 46 + 1 = 47) (xdt tt_X2_addNumber 28 rfl) ?_
  refine g_iadd hC (rfl : 47 + 1 = 48) (xdt tt_X2_addNumber 29 rfl) ?_
  obtain ⟨S2, hc1, h⟩ := bd_i h
  refine g_callVv hC hZ hk0 kclX2 ly3_6 m_X2_addByte q1512 (Nat.le_of_ble_eq_true rfl) [vi (48 + (Int.tmod (wr x1) (wr 10)))] rfl (fun l => c_X2_addByte_p3_6 l hk0 hA0 hc1) rfl (Nat.le_of_ble_eq_true rfl) (rfl : 48 + 3 = 51) (xdt tt_X2_addNumber 30 rfl) ?_
  cases h
  exact g_vret hC hE (xdt tt_X2_addNumber 31 rfl)
set_option maxRecDepth 100000 in
set_option maxHeartbeats 4000000 in
theorem k_X2_addNumber_p3_6_b20 {K : xCtx} {E : xE} {b : Nat} (hC : xOK K cX2_addNumber RX2 2 (rmE 2 b)) (hZ : xZ K) {S' : xSt} (hE : xEnd K E none (YQv E S')) {r0 : Nat} (hk0 : xkd E r0 = 3) (hA0 : xFam E r0) : ∀ (S : xSt) (x1 : Int), f_X2_addNumber_p3_6_b20 r0 S x1 = some S' → WG K E 20 [(0, vr E r0 6), (1, vi x1)] [] S := by
  intro S x1 h
  unfold f_X2_addNumber_p3_6_b20 at h
  refine g_iload_n hC rfl 1 rfl (rfl : 20 + 1 = 21) (xdt tt_X2_addNumber 12 rfl) ?_
  refine g_bipush hC (by decide) (rfl : 21 + 2 = 23) (xdt tt_X2_addNumber 13 rfl) ?_
  refine g_icmp_lt hC (show ((23 : Nat) : Int) + 17 = ((40 : Nat) : Int) by decide) (rfl : 23 + 3 = 26) (xdt tt_X2_addNumber 14 rfl) (fun hc5 => ?_) (fun hc5 => ?_)
  · replace h := (if_pos hc5).symm.trans h
    refine g_sub [0, 1] (lv' := [(0, vr E r0 6), (1, vi x1)]) rfl ?_
    exact k_X2_addNumber_p3_6_b40 hC hZ hE hk0 hA0 _ _ h
  · replace h := (if_neg hc5).symm.trans h
    refine g_aload_n hC rfl 0 rfl (rfl : 26 + 1 = 27) (xdt tt_X2_addNumber 15 rfl) ?_
    refine g_bipush hC (by decide) (rfl : 27 + 2 = 29) (xdt tt_X2_addNumber 16 rfl) ?_
    refine g_iload_n hC rfl 1 rfl (rfl : 29 + 1 = 30) (xdt tt_X2_addNumber 17 rfl) ?_
    refine g_bipush hC (by decide) (rfl : 30 + 2 = 32) (xdt tt_X2_addNumber 18 rfl) ?_
    refine g_idiv hC (by decide) (rfl : 32 + 1 = 33) (xdt tt_X2_addNumber 19 rfl) ?_
    refine g_bipush hC (by decide) (rfl : 33 + 2 = 35) (xdt tt_X2_addNumber 20 rfl) ?_
    refine g_irem hC (by decide) (rfl : 35 + 1 = 36) (xdt tt_X2_addNumber 21 rfl) ?_
    refine g_iadd hC (rfl : 36 + 1 = 37) (xdt tt_X2_addNumber 22 rfl) ?_
    obtain ⟨S4, hc3, h⟩ := bd_i h
    refine g_callVv hC hZ hk0 kclX2 ly3_6 m_X2_addByte q1512 (Nat.le_of_ble_eq_true rfl) [vi (48 + (Int.tmod (wr (Int.tdiv (wr x1) (wr 10))) (wr 10)))] rfl (fun l => c_X2_addByte_p3_6 l hk0 hA0 hc3) rfl (Nat.le_of_ble_eq_true rfl) (rfl : 37 + 3 = 40) (xdt tt_X2_addNumber 23 rfl) ?_
    refine g_sub [0, 1] (lv' := [(0, vr E r0 6), (1, vi x1)]) rfl ?_
    exact k_X2_addNumber_p3_6_b40 hC hZ hE hk0 hA0 _ _ h
set_option maxRecDepth 100000 in
set_option maxHeartbeats 4000000 in
theorem c_X2_addNumber_p3_6 (l : Launch) {E : xE} {S S' : xSt} {r0 : Nat} {a1 : Int} (hk0 : xkd E r0 = 3) (hA0 : xFam E r0) (h : f_X2_addNumber_p3_6 S r0 a1 = some S') : Met l yX2_addNumber (xws yX2_addNumber cX2_addNumber 2 none) (rmD 2) (YPc E [vr E r0 6, vi a1] S) (YQv E S') 0 0 (xA E) := by
  unfold f_X2_addNumber_p3_6 at h
  refine met_v (by decide +kernel) (Nat.le_of_ble_eq_true rfl) (fun K hC hZ hE => ?_)
  have hC : xOK K cX2_addNumber RX2 2 (rmE 2 0) := hC
  show WG K E 0 [(0, vr E r0 6), (1, vi a1)] [] S
  refine g_iload_n hC rfl 1 rfl (rfl : 0 + 1 = 1) (xdt tt_X2_addNumber 0 rfl) ?_
  refine g_bipush hC (by decide) (rfl : 1 + 2 = 3) (xdt tt_X2_addNumber 1 rfl) ?_
  refine g_icmp_lt hC (show ((3 : Nat) : Int) + 17 = ((20 : Nat) : Int) by decide) (rfl : 3 + 3 = 6) (xdt tt_X2_addNumber 2 rfl) (fun hc8 => ?_) (fun hc8 => ?_)
  · replace h := (if_pos hc8).symm.trans h
    refine g_sub [0, 1] (lv' := [(0, vr E r0 6), (1, vi a1)]) rfl ?_
    exact k_X2_addNumber_p3_6_b20 hC hZ hE hk0 hA0 _ _ h
  · replace h := (if_neg hc8).symm.trans h
    refine g_aload_n hC rfl 0 rfl (rfl : 6 + 1 = 7) (xdt tt_X2_addNumber 3 rfl) ?_
    refine g_bipush hC (by decide) (rfl : 7 + 2 = 9) (xdt tt_X2_addNumber 4 rfl) ?_
    refine g_iload_n hC rfl 1 rfl (rfl : 9 + 1 = 10) (xdt tt_X2_addNumber 5 rfl) ?_
    refine g_bipush hC (by decide) (rfl : 10 + 2 = 12) (xdt tt_X2_addNumber 6 rfl) ?_
    refine g_idiv hC (by decide) (rfl : 12 + 1 = 13) (xdt tt_X2_addNumber 7 rfl) ?_
    refine g_bipush hC (by decide) (rfl : 13 + 2 = 15) (xdt tt_X2_addNumber 8 rfl) ?_
    refine g_irem hC (by decide) (rfl : 15 + 1 = 16) (xdt tt_X2_addNumber 9 rfl) ?_
    refine g_iadd hC (rfl : 16 + 1 = 17) (xdt tt_X2_addNumber 10 rfl) ?_
    obtain ⟨S7, hc6, h⟩ := bd_i h
    refine g_callVv hC hZ hk0 kclX2 ly3_6 m_X2_addByte q1512 (Nat.le_of_ble_eq_true rfl) [vi (48 + (Int.tmod (wr (Int.tdiv (wr a1) (wr 100))) (wr 10)))] rfl (fun l => c_X2_addByte_p3_6 l hk0 hA0 hc6) rfl (Nat.le_of_ble_eq_true rfl) (rfl : 17 + 3 = 20) (xdt tt_X2_addNumber 11 rfl) ?_
    refine g_sub [0, 1] (lv' := [(0, vr E r0 6), (1, vi a1)]) rfl ?_
    exact k_X2_addNumber_p3_6_b20 hC hZ hE hk0 hA0 _ _ h
def f_X2_addText_p3_6_b2 (r0 : Nat) (k1 : Nat) : Nat → xSt → Int → Option (xSt)
  | 0, _, _ => none
  | fuel + 1, S, x2 =>
    bd2 (f_J0_length_8abf5 S k1) fun v3 S2 =>
    if wr v3 ≤ wr x2 then
      (some S2)
    else
      (bd2 (f_J0_charAt_5068e S2 k1 x2) fun v6 S5 =>
      bd (f_X2_addByte_p3_6 S5 r0 v6) fun S9 =>
      (f_X2_addText_p3_6_b2 r0 k1 fuel) S9 (x2 + 1))
def f_X2_addText_p3_6 (S : xSt) (r0 : Nat) (k1 : Nat) : Option (xSt) :=
  f_X2_addText_p3_6_b2 r0 k1 (fu S) S 0
set_option maxRecDepth 100000 in
set_option maxHeartbeats 4000000 in
theorem k_X2_addText_p3_6_b2 {K : xCtx} {E : xE} {b : Nat} (hC : xOK K cX2_addText RX2 3 (rmE 6 b)) (hZ : xZ K) {S' : xSt} (hE : xEnd K E none (YQv E S')) {r0 : Nat} {k1 : Nat} (hk0 : xkd E r0 = 3) (hA0 : xFam E r0) (hs1 : k1 < xldc.length) : ∀ (fuel : Nat) (S : xSt) (x2 : Int), f_X2_addText_p3_6_b2 r0 k1 fuel S x2 = some S' → WG K E 2 [(0, vr E r0 6), (1, vs E k1), (2, vi x2)] [] S := by
  intro fuel
  induction fuel with
  | zero => intro S x2 h; cases h
  | succ fuel ih =>
    intro S x2 h
    rw [f_X2_addText_p3_6_b2] at h
    refine g_iload_n hC rfl 2 rfl (rfl : 2 + 1 = 3) (xdt tt_X2_addText 2 rfl) ?_
    refine g_aload_n hC rfl 1 rfl (rfl : 3 + 1 = 4) (xdt tt_X2_addText 3 rfl) ?_
    obtain ⟨v3, S2, hc1, h⟩ := bd2_i h
    refine g_callTi hC hZ hs1 m_J0_length_8abf5 q1521 (Nat.le_of_ble_eq_true rfl) [] rfl (fun l => c_J0_length_8abf5 l hs1 hc1) rfl (Nat.le_of_ble_eq_true rfl) (rfl : 4 + 3 = 7) (xdt tt_X2_addText 4 rfl) ?_
    refine g_icmp_ge hC (show ((7 : Nat) : Int) + 18 = ((25 : Nat) : Int) by decide) (rfl : 7 + 3 = 10) (xdt tt_X2_addText 5 rfl) (fun hc10 => ?_) (fun hc10 => ?_)
    · replace h := (if_pos hc10).symm.trans h
      cases h
      exact g_vret hC hE (xdt tt_X2_addText 13 rfl)
    · replace h := (if_neg hc10).symm.trans h
      refine g_aload_n hC rfl 0 rfl (rfl : 10 + 1 = 11) (xdt tt_X2_addText 6 rfl) ?_
      refine g_aload_n hC rfl 1 rfl (rfl : 11 + 1 = 12) (xdt tt_X2_addText 7 rfl) ?_
      refine g_iload_n hC rfl 2 rfl (rfl : 12 + 1 = 13) (xdt tt_X2_addText 8 rfl) ?_
      obtain ⟨v6, S5, hc4, h⟩ := bd2_i h
      refine g_callTc hC hZ hs1 m_J0_charAt_5068e q1522 (Nat.le_of_ble_eq_true rfl) [vi x2] rfl (fun l => c_J0_charAt_5068e l hs1 hc4) rfl (Nat.le_of_ble_eq_true rfl) (rfl : 13 + 3 = 16) (xdt tt_X2_addText 9 rfl) (fun hb7 => ?_)
      obtain ⟨S9, hc8, h⟩ := bd_i h
      refine g_callVv hC hZ hk0 kclX2 ly3_6 m_X2_addByte q1512 (Nat.le_of_ble_eq_true rfl) [vi v6] rfl (fun l => c_X2_addByte_p3_6 l hk0 hA0 hc8) rfl (Nat.le_of_ble_eq_true rfl) (rfl : 16 + 3 = 19) (xdt tt_X2_addText 10 rfl) ?_
      refine g_iinc hC 2 rfl (by decide) (lv' := [(2, vi (x2 + 1)), (0, vr E r0 6), (1, vs E k1)]) rfl (rfl : 19 + 3 = 22) (xdt tt_X2_addText 11 rfl) ?_
      refine g_goto hC (show ((22 : Nat) : Int) + (-20) = ((2 : Nat) : Int) by decide) (xdt tt_X2_addText 12 rfl) ?_
      refine g_sub [1, 2, 0] (lv' := [(0, vr E r0 6), (1, vs E k1), (2, vi (x2 + 1))]) rfl ?_
      exact ih _ _ h
set_option maxRecDepth 100000 in
set_option maxHeartbeats 4000000 in
theorem c_X2_addText_p3_6 (l : Launch) {E : xE} {S S' : xSt} {r0 : Nat} {k1 : Nat} (hk0 : xkd E r0 = 3) (hA0 : xFam E r0) (hs1 : k1 < xldc.length) (h : f_X2_addText_p3_6 S r0 k1 = some S') : Met l yX2_addText (xws yX2_addText cX2_addText 3 none) (rmD 6) (YPc E [vr E r0 6, vs E k1] S) (YQv E S') 0 0 (xA E) := by
  unfold f_X2_addText_p3_6 at h
  refine met_v (by decide +kernel) (Nat.le_of_ble_eq_true rfl) (fun K hC hZ hE => ?_)
  have hC : xOK K cX2_addText RX2 3 (rmE 6 0) := hC
  show WG K E 0 [(0, vr E r0 6), (1, vs E k1)] [] S
  refine g_iconst hC (rfl : 0 + 1 = 1) (xdt tt_X2_addText 0 rfl) ?_
  refine g_istore_n hC rfl (by decide) (lv' := [(2, vi 0), (0, vr E r0 6), (1, vs E k1)]) rfl (rfl : 1 + 1 = 2) (xdt tt_X2_addText 1 rfl) ?_
  refine g_sub [1, 2, 0] (lv' := [(0, vr E r0 6), (1, vs E k1), (2, vi 0)]) rfl ?_
  exact k_X2_addText_p3_6_b2 hC hZ hE hk0 hA0 hs1 _ _ _ h
def f_X11_outputByte_p3_0 (S : xSt) (r0 : Nat) (a1 : Int) : Option (Int × xSt) :=
  if wr a1 < 0 then
    (some ((-1), S))
  else
    (if wr a1 < wr (gI S r0 6 1) then
      (ckI a1 32 <|
      some ((gI S r0 7 (wr a1).toNat), S))
    else
      (some ((-1), S)))
set_option maxRecDepth 100000 in
set_option maxHeartbeats 4000000 in
theorem c_X11_outputByte_p3_0 (l : Launch) {E : xE} {S S' : xSt} {r0 : Nat} {a1 : Int} (hk0 : xkd E r0 = 3) (hA0 : xFam E r0) {v : Int} (h : f_X11_outputByte_p3_0 S r0 a1 = some (v, S')) : Met l yX11_outputByte (xws yX11_outputByte cX11_outputByte 2 (some .int)) (rmD 1) (YPc E [vr E r0 0, vi a1] S) (YQi E v S') 0 0 (xA E) := by
  unfold f_X11_outputByte_p3_0 at h
  refine met_i (by decide +kernel) (Nat.le_of_ble_eq_true rfl) (fun K hC hZ hE => ?_)
  have hC : xOK K cX11_outputByte RX11 2 (rmE 1 0) := hC
  show WG K E 0 [(0, vr E r0 0), (1, vi a1)] [] S
  refine g_iload_n hC rfl 1 rfl (rfl : 0 + 1 = 1) (xdt tt_X11_outputByte 0 rfl) ?_
  refine g_if_lt hC (show ((1 : Nat) : Int) + 14 = ((15 : Nat) : Int) by decide) (rfl : 1 + 3 = 4) (xdt tt_X11_outputByte 1 rfl) (fun hc3 => ?_) (fun hc3 => ?_)
  · replace h := (if_pos hc3).symm.trans h
    refine g_iconst hC (rfl : 15 + 1 = 16) (xdt tt_X11_outputByte 7 rfl) ?_
    cases h
    exact g_iret hC hE (xdt tt_X11_outputByte 8 rfl)
  · replace h := (if_neg hc3).symm.trans h
    refine g_iload_n hC rfl 1 rfl (rfl : 4 + 1 = 5) (xdt tt_X11_outputByte 2 rfl) ?_
    refine g_aload_n hC rfl 0 rfl (rfl : 5 + 1 = 6) (xdt tt_X11_outputByte 3 rfl) ?_
    refine g_getP hC hk0 kclX11 ly3_0 3 (by decide) (rfl : r0 + 0 = r0) rfl q22 (rfl : 6 + 3 = 9) (xdt tt_X11_outputByte 4 rfl) ?_
    refine g_getI hC hk0 kclX2 ly3_6 1 (by decide) rfl q1502 (rfl : 9 + 3 = 12) (xdt tt_X11_outputByte 5 rfl) ?_
    refine g_icmp_lt hC (show ((12 : Nat) : Int) + 5 = ((17 : Nat) : Int) by decide) (rfl : 12 + 3 = 15) (xdt tt_X11_outputByte 6 rfl) (fun hc2 => ?_) (fun hc2 => ?_)
    · replace h := (if_pos hc2).symm.trans h
      refine g_aload_n hC rfl 0 rfl (rfl : 17 + 1 = 18) (xdt tt_X11_outputByte 9 rfl) ?_
      refine g_getP hC hk0 kclX11 ly3_0 3 (by decide) (rfl : r0 + 0 = r0) rfl q22 (rfl : 18 + 3 = 21) (xdt tt_X11_outputByte 10 rfl) ?_
      refine g_getP hC hk0 kclX2 ly3_6 0 (by decide) (rfl : r0 + 0 = r0) rfl q1545 (rfl : 21 + 3 = 24) (xdt tt_X11_outputByte 11 rfl) ?_
      refine g_iload_n hC rfl 1 rfl (rfl : 24 + 1 = 25) (xdt tt_X11_outputByte 12 rfl) ?_
      obtain ⟨hi1, h⟩ := ckI_i h
      refine g_bald hC hk0 ly3_7 hi1 (rfl : 25 + 1 = 26) (xdt tt_X11_outputByte 13 rfl) (k0 := (wr a1).toNat) rfl ?_
      cases h
      exact g_iret hC hE (xdt tt_X11_outputByte 14 rfl)
    · replace h := (if_neg hc2).symm.trans h
      refine g_iconst hC (rfl : 15 + 1 = 16) (xdt tt_X11_outputByte 7 rfl) ?_
      cases h
      exact g_iret hC hE (xdt tt_X11_outputByte 8 rfl)
def f_X11_saveState_p3_0 (S : xSt) (r0 : Nat) : Option (Int × xSt) :=
  bd (f_X0_copyFrom_p1_0_1_0 S (r0 + 3) (r0 + 1)) fun S2 =>
  lt1 (wI S2 r0 0 9 1) fun S3 =>
  some ((gI S3 (r0 + 1) 15 0), S3)
set_option maxRecDepth 100000 in
set_option maxHeartbeats 4000000 in
theorem c_X11_saveState_p3_0 (l : Launch) {E : xE} {S S' : xSt} {r0 : Nat} (hk0 : xkd E r0 = 3) (hA0 : xFam E r0) {v : Int} (h : f_X11_saveState_p3_0 S r0 = some (v, S')) : Met l yX11_saveState (xws yX11_saveState cX11_saveState 1 (some .int)) (rmD 5) (YPc E [vr E r0 0] S) (YQi E v S') 0 0 (xA E) := by
  unfold f_X11_saveState_p3_0 at h
  refine met_i (by decide +kernel) (Nat.le_of_ble_eq_true rfl) (fun K hC hZ hE => ?_)
  have hC : xOK K cX11_saveState RX11 1 (rmE 5 0) := hC
  show WG K E 0 [(0, vr E r0 0)] [] S
  refine g_aload_n hC rfl 0 rfl (rfl : 0 + 1 = 1) (xdt tt_X11_saveState 0 rfl) ?_
  refine g_getP hC hk0 kclX11 ly3_0 8 (by decide) (rfl : r0 + 3 = (r0 + 3)) rfl q33 (rfl : 1 + 3 = 4) (xdt tt_X11_saveState 1 rfl) ?_
  refine g_aload_n hC rfl 0 rfl (rfl : 4 + 1 = 5) (xdt tt_X11_saveState 2 rfl) ?_
  refine g_getP hC hk0 kclX11 ly3_0 6 (by decide) (rfl : r0 + 1 = (r0 + 1)) rfl q31 (rfl : 5 + 3 = 8) (xdt tt_X11_saveState 3 rfl) ?_
  obtain ⟨S2, hc1, h⟩ := bd_i h
  refine g_callVv hC hZ (hA0 3 (by decide) (by decide)) kclX0 ly1_0 m_X0_copyFrom q1357 (Nat.le_of_ble_eq_true rfl) [vr E (r0 + 1) 0] rfl (fun l => c_X0_copyFrom_p1_0_1_0 l (hA0 3 (by decide) (by decide)) (hA0 1 (by decide) (by decide)) hc1) rfl (Nat.le_of_ble_eq_true rfl) (rfl : 8 + 3 = 11) (xdt tt_X11_saveState 4 rfl) ?_
  refine g_aload_n hC rfl 0 rfl (rfl : 11 + 1 = 12) (xdt tt_X11_saveState 5 rfl) ?_
  refine g_iconst hC (rfl : 12 + 1 = 13) (xdt tt_X11_saveState 6 rfl) ?_
  obtain ⟨S3, hS3, h⟩ := lt1_i h
  refine g_putZ hC hk0 kclX11 ly3_0 9 (by decide) rfl rfl rfl q276 (Or.inr rfl) hS3 (rfl : 13 + 3 = 16) (xdt tt_X11_saveState 7 rfl) ?_
  refine g_aload_n hC rfl 0 rfl (rfl : 16 + 1 = 17) (xdt tt_X11_saveState 8 rfl) ?_
  refine g_getP hC hk0 kclX11 ly3_0 6 (by decide) (rfl : r0 + 1 = (r0 + 1)) rfl q31 (rfl : 17 + 3 = 20) (xdt tt_X11_saveState 9 rfl) ?_
  refine g_getP hC (hA0 1 (by decide) (by decide)) kclX0 ly1_0 7 (by decide) (rfl : (r0 + 1) + 0 = (r0 + 1)) rfl q590 (rfl : 20 + 3 = 23) (xdt tt_X11_saveState 10 rfl) ?_
  refine g_getP hC (hA0 1 (by decide) (by decide)) kclX9 ly1_14 0 (by decide) (rfl : (r0 + 1) + 0 = (r0 + 1)) rfl q591 (rfl : 23 + 3 = 26) (xdt tt_X11_saveState 11 rfl) ?_
  refine g_iconst hC (rfl : 26 + 1 = 27) (xdt tt_X11_saveState 12 rfl) ?_
  refine g_iald hC (hA0 1 (by decide) (by decide)) ly1_15 (by decide) (rfl : 27 + 1 = 28) (xdt tt_X11_saveState 13 rfl) (k0 := 0) (by decide) ?_
  cases h
  exact g_iret hC hE (xdt tt_X11_saveState 14 rfl)
