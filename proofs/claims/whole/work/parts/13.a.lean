def f_X12_thrown_p4_0 (S : xSt) (r0 : Nat) : Option (Int × xSt) :=
  some ((gI S r0 0 0), S)
set_option maxRecDepth 100000 in
set_option maxHeartbeats 4000000 in
theorem c_X12_thrown_p4_0 (l : Launch) {E : xE} {S S' : xSt} {r0 : Nat} (hk0 : xkd E r0 = 4) {v : Int} (h : f_X12_thrown_p4_0 S r0 = some (v, S')) : Met l yX12_thrown (xws yX12_thrown cX12_thrown 1 (some .int)) (rmD 1) (YPc E [vr E r0 0] S) (YQi E v S') 0 0 (xA E) := by
  unfold f_X12_thrown_p4_0 at h
  refine met_i (by decide +kernel) (Nat.le_of_ble_eq_true rfl) (fun K hC hZ hE => ?_)
  have hC : xOK K cX12_thrown RX12 1 (rmE 1 0) := hC
  show WG K E 0 [(0, vr E r0 0)] [] S
  refine g_aload_n hC rfl 0 rfl (rfl : 0 + 1 = 1) (xdt tt_X12_thrown 0 rfl) ?_
  refine g_getI hC hk0 kclX12 ly4_0 0 (by decide) rfl q259 (rfl : 1 + 3 = 4) (xdt tt_X12_thrown 1 rfl) ?_
  cases h
  exact g_iret hC hE (xdt tt_X12_thrown 2 rfl)
def f_X12_is_p4_0 (S : xSt) (r0 : Nat) (a1 : Int) : Option (Int × xSt) :=
  if wr a1 = 0 then
    (lt1 (wI S r0 0 0 1) fun S1 =>
    ckB a1 <|
    some (a1, S1))
  else
    (lt1 (wI S r0 0 0 0) fun S3 =>
    ckB a1 <|
    some (a1, S3))
set_option maxRecDepth 100000 in
set_option maxHeartbeats 4000000 in
theorem c_X12_is_p4_0 (l : Launch) {E : xE} {S S' : xSt} {r0 : Nat} {a1 : Int} (hk0 : xkd E r0 = 4) {v : Int} (h : f_X12_is_p4_0 S r0 a1 = some (v, S')) : Met l yX12_is (xws yX12_is cX12_is 2 (some .boolean)) (rmD 1) (YPc E [vr E r0 0, vi a1] S) (YQz E v S') 0 0 (xA E) := by
  unfold f_X12_is_p4_0 at h
  refine met_z (by decide +kernel) (Nat.le_of_ble_eq_true rfl) (fun K hC hZ hE => ?_)
  have hC : xOK K cX12_is RX12 2 (rmE 1 0) := hC
  show WG K E 0 [(0, vr E r0 0), (1, vi a1)] [] S
  refine g_aload_n hC rfl 0 rfl (rfl : 0 + 1 = 1) (xdt tt_X12_is 0 rfl) ?_
  refine g_iload_n hC rfl 1 rfl (rfl : 1 + 1 = 2) (xdt tt_X12_is 1 rfl) ?_
  refine g_if_eq hC (show ((2 : Nat) : Int) + 7 = ((9 : Nat) : Int) by decide) (rfl : 2 + 3 = 5) (xdt tt_X12_is 2 rfl) (fun hc5 => ?_) (fun hc5 => ?_)
  · replace h := (if_pos hc5).symm.trans h
    refine g_iconst hC (rfl : 9 + 1 = 10) (xdt tt_X12_is 5 rfl) ?_
    obtain ⟨S1, hS1, h⟩ := lt1_i h
    refine g_putI hC hk0 kclX12 ly4_0 0 (by decide) rfl rfl rfl q259 hS1 (rfl : 10 + 3 = 13) (xdt tt_X12_is 6 rfl) ?_
    refine g_iload_n hC rfl 1 rfl (rfl : 13 + 1 = 14) (xdt tt_X12_is 7 rfl) ?_
    obtain ⟨hb2, h⟩ := ckB_i h
    cases h
    exact g_zret hC hE hb2 (xdt tt_X12_is 8 rfl)
  · replace h := (if_neg hc5).symm.trans h
    refine g_iconst hC (rfl : 5 + 1 = 6) (xdt tt_X12_is 3 rfl) ?_
    refine g_goto hC (show ((6 : Nat) : Int) + 4 = ((10 : Nat) : Int) by decide) (xdt tt_X12_is 4 rfl) ?_
    obtain ⟨S3, hS3, h⟩ := lt1_i h
    refine g_putI hC hk0 kclX12 ly4_0 0 (by decide) rfl rfl rfl q259 hS3 (rfl : 10 + 3 = 13) (xdt tt_X12_is 6 rfl) ?_
    refine g_iload_n hC rfl 1 rfl (rfl : 13 + 1 = 14) (xdt tt_X12_is 7 rfl) ?_
    obtain ⟨hb4, h⟩ := ckB_i h
    cases h
    exact g_zret hC hE hb4 (xdt tt_X12_is 8 rfl)
def f_X12_may_p4_0 (S : xSt) (r0 : Nat) (a1 : Int) (a2 : Int) : Option (Int × xSt) :=
  if wr a1 = 0 then
    (lt1 (wI S r0 0 0 a2) fun S1 =>
    ckB a1 <|
    some (a1, S1))
  else
    (lt1 (wI S r0 0 0 0) fun S3 =>
    ckB a1 <|
    some (a1, S3))
set_option maxRecDepth 100000 in
set_option maxHeartbeats 4000000 in
theorem c_X12_may_p4_0 (l : Launch) {E : xE} {S S' : xSt} {r0 : Nat} {a1 : Int} {a2 : Int} (hk0 : xkd E r0 = 4) {v : Int} (h : f_X12_may_p4_0 S r0 a1 a2 = some (v, S')) : Met l yX12_may (xws yX12_may cX12_may 3 (some .boolean)) (rmD 1) (YPc E [vr E r0 0, vi a1, vi a2] S) (YQz E v S') 0 0 (xA E) := by
  unfold f_X12_may_p4_0 at h
  refine met_z (by decide +kernel) (Nat.le_of_ble_eq_true rfl) (fun K hC hZ hE => ?_)
  have hC : xOK K cX12_may RX12 3 (rmE 1 0) := hC
  show WG K E 0 [(0, vr E r0 0), (1, vi a1), (2, vi a2)] [] S
  refine g_aload_n hC rfl 0 rfl (rfl : 0 + 1 = 1) (xdt tt_X12_may 0 rfl) ?_
  refine g_iload_n hC rfl 1 rfl (rfl : 1 + 1 = 2) (xdt tt_X12_may 1 rfl) ?_
  refine g_if_eq hC (show ((2 : Nat) : Int) + 7 = ((9 : Nat) : Int) by decide) (rfl : 2 + 3 = 5) (xdt tt_X12_may 2 rfl) (fun hc5 => ?_) (fun hc5 => ?_)
  · replace h := (if_pos hc5).symm.trans h
    refine g_iload_n hC rfl 2 rfl (rfl : 9 + 1 = 10) (xdt tt_X12_may 5 rfl) ?_
    obtain ⟨S1, hS1, h⟩ := lt1_i h
    refine g_putI hC hk0 kclX12 ly4_0 0 (by decide) rfl rfl rfl q259 hS1 (rfl : 10 + 3 = 13) (xdt tt_X12_may 6 rfl) ?_
    refine g_iload_n hC rfl 1 rfl (rfl : 13 + 1 = 14) (xdt tt_X12_may 7 rfl) ?_
    obtain ⟨hb2, h⟩ := ckB_i h
    cases h
    exact g_zret hC hE hb2 (xdt tt_X12_may 8 rfl)
  · replace h := (if_neg hc5).symm.trans h
    refine g_iconst hC (rfl : 5 + 1 = 6) (xdt tt_X12_may 3 rfl) ?_
    refine g_goto hC (show ((6 : Nat) : Int) + 4 = ((10 : Nat) : Int) by decide) (xdt tt_X12_may 4 rfl) ?_
    obtain ⟨S3, hS3, h⟩ := lt1_i h
    refine g_putI hC hk0 kclX12 ly4_0 0 (by decide) rfl rfl rfl q259 hS3 (rfl : 10 + 3 = 13) (xdt tt_X12_may 6 rfl) ?_
    refine g_iload_n hC rfl 1 rfl (rfl : 13 + 1 = 14) (xdt tt_X12_may 7 rfl) ?_
    obtain ⟨hb4, h⟩ := ckB_i h
    cases h
    exact g_zret hC hE hb4 (xdt tt_X12_may 8 rfl)
def f_X12_clears_p4_0_b30 (r0 : Nat) : Nat → xSt → Int → Option (xSt)
  | 0, _, _ => none
  | fuel + 1, S, x1 =>
    if wr 363 ≤ wr x1 then
      (lt1 (wI S r0 7 0 4) fun S6 =>
      lt1 (wI S6 r0 7 1 4) fun S7 =>
      lt1 (wI S7 r0 7 15 (-1)) fun S8 =>
      some S8)
    else
      (ckI x1 363 <|
      lt1 (wI S r0 7 (wr x1).toNat 0) fun S10 =>
      (f_X12_clears_p4_0_b30 r0 fuel) S10 (x1 + 1))
def f_X12_clears_p4_0 (S : xSt) (r0 : Nat) : Option (xSt) :=
  lt1 (wI S r0 0 31 0) fun S1 =>
  lt1 (wI S1 r0 0 32 0) fun S2 =>
  lt1 (wI S2 r0 0 33 16) fun S3 =>
  lt1 (wI S3 r0 0 34 8) fun S4 =>
  lt1 (wI S4 r0 0 35 16) fun S5 =>
  f_X12_clears_p4_0_b30 r0 (fu S5) S5 0
set_option maxRecDepth 100000 in
set_option maxHeartbeats 4000000 in
theorem k_X12_clears_p4_0_b30 {K : xCtx} {E : xE} {b : Nat} (hC : xOK K cX12_clears RX12 2 (rmE 1 b)) (hZ : xZ K) {S' : xSt} (hE : xEnd K E none (YQv E S')) {r0 : Nat} (hk0 : xkd E r0 = 4) : ∀ (fuel : Nat) (S : xSt) (x1 : Int), f_X12_clears_p4_0_b30 r0 fuel S x1 = some S' → WG K E 30 [(0, vr E r0 0), (1, vi x1)] [] S := by
  intro fuel
  induction fuel with
  | zero => intro S x1 h; cases h
  | succ fuel ih =>
    intro S x1 h
    rw [f_X12_clears_p4_0_b30] at h
    refine g_iload_n hC rfl 1 rfl (rfl : 30 + 1 = 31) (xdt tt_X12_clears 17 rfl) ?_
    refine g_sipush hC (by decide) (rfl : 31 + 3 = 34) (xdt tt_X12_clears 18 rfl) ?_
    refine g_icmp_ge hC (show ((34 : Nat) : Int) + 16 = ((50 : Nat) : Int) by decide) (rfl : 34 + 3 = 37) (xdt tt_X12_clears 19 rfl) (fun hc11 => ?_) (fun hc11 => ?_)
    · replace h := (if_pos hc11).symm.trans h
      refine g_aload_n hC rfl 0 rfl (rfl : 50 + 1 = 51) (xdt tt_X12_clears 27 rfl) ?_
      refine g_getP hC hk0 kclX12 ly4_0 11 (by decide) (rfl : r0 + 0 = r0) rfl q202 (rfl : 51 + 3 = 54) (xdt tt_X12_clears 28 rfl) ?_
      refine g_iconst hC (rfl : 54 + 1 = 55) (xdt tt_X12_clears 29 rfl) ?_
      refine g_iconst hC (rfl : 55 + 1 = 56) (xdt tt_X12_clears 30 rfl) ?_
      obtain ⟨S6, hS6, h⟩ := lt1_i h
      refine g_iast hC hk0 ly4_7 (by decide) (by decide) hS6 (rfl : 56 + 1 = 57) (xdt tt_X12_clears 31 rfl) ?_
      refine g_aload_n hC rfl 0 rfl (rfl : 57 + 1 = 58) (xdt tt_X12_clears 32 rfl) ?_
      refine g_getP hC hk0 kclX12 ly4_0 11 (by decide) (rfl : r0 + 0 = r0) rfl q202 (rfl : 58 + 3 = 61) (xdt tt_X12_clears 33 rfl) ?_
      refine g_iconst hC (rfl : 61 + 1 = 62) (xdt tt_X12_clears 34 rfl) ?_
      refine g_iconst hC (rfl : 62 + 1 = 63) (xdt tt_X12_clears 35 rfl) ?_
      obtain ⟨S7, hS7, h⟩ := lt1_i h
      refine g_iast hC hk0 ly4_7 (by decide) (by decide) hS7 (rfl : 63 + 1 = 64) (xdt tt_X12_clears 36 rfl) ?_
      refine g_aload_n hC rfl 0 rfl (rfl : 64 + 1 = 65) (xdt tt_X12_clears 37 rfl) ?_
      refine g_getP hC hk0 kclX12 ly4_0 11 (by decide) (rfl : r0 + 0 = r0) rfl q202 (rfl : 65 + 3 = 68) (xdt tt_X12_clears 38 rfl) ?_
      refine g_bipush hC (by decide) (rfl : 68 + 2 = 70) (xdt tt_X12_clears 39 rfl) ?_
      refine g_iconst hC (rfl : 70 + 1 = 71) (xdt tt_X12_clears 40 rfl) ?_
      obtain ⟨S8, hS8, h⟩ := lt1_i h
      refine g_iast hC hk0 ly4_7 (by decide) (by decide) hS8 (rfl : 71 + 1 = 72) (xdt tt_X12_clears 41 rfl) ?_
      cases h
      exact g_vret hC hE (xdt tt_X12_clears 42 rfl)
    · replace h := (if_neg hc11).symm.trans h
      refine g_aload_n hC rfl 0 rfl (rfl : 37 + 1 = 38) (xdt tt_X12_clears 20 rfl) ?_
      refine g_getP hC hk0 kclX12 ly4_0 11 (by decide) (rfl : r0 + 0 = r0) rfl q202 (rfl : 38 + 3 = 41) (xdt tt_X12_clears 21 rfl) ?_
      refine g_iload_n hC rfl 1 rfl (rfl : 41 + 1 = 42) (xdt tt_X12_clears 22 rfl) ?_
      refine g_iconst hC (rfl : 42 + 1 = 43) (xdt tt_X12_clears 23 rfl) ?_
      obtain ⟨hi9, h⟩ := ckI_i h
      obtain ⟨S10, hS10, h⟩ := lt1_i h
      refine g_iast hC hk0 ly4_7 hi9 rfl hS10 (rfl : 43 + 1 = 44) (xdt tt_X12_clears 24 rfl) ?_
      refine g_iinc hC 1 rfl (by decide) (lv' := [(1, vi (x1 + 1)), (0, vr E r0 0)]) rfl (rfl : 44 + 3 = 47) (xdt tt_X12_clears 25 rfl) ?_
      refine g_goto hC (show ((47 : Nat) : Int) + (-17) = ((30 : Nat) : Int) by decide) (xdt tt_X12_clears 26 rfl) ?_
      refine g_sub [1, 0] (lv' := [(0, vr E r0 0), (1, vi (x1 + 1))]) rfl ?_
      exact ih _ _ h
set_option maxRecDepth 100000 in
set_option maxHeartbeats 4000000 in
theorem c_X12_clears_p4_0 (l : Launch) {E : xE} {S S' : xSt} {r0 : Nat} (hk0 : xkd E r0 = 4) (h : f_X12_clears_p4_0 S r0 = some S') : Met l yX12_clears (xws yX12_clears cX12_clears 2 none) (rmD 1) (YPc E [vr E r0 0] S) (YQv E S') 0 0 (xA E) := by
  unfold f_X12_clears_p4_0 at h
  refine met_v (by decide +kernel) (Nat.le_of_ble_eq_true rfl) (fun K hC hZ hE => ?_)
  have hC : xOK K cX12_clears RX12 2 (rmE 1 0) := hC
  show WG K E 0 [(0, vr E r0 0)] [] S
  refine g_aload_n hC rfl 0 rfl (rfl : 0 + 1 = 1) (xdt tt_X12_clears 0 rfl) ?_
  refine g_iconst hC (rfl : 1 + 1 = 2) (xdt tt_X12_clears 1 rfl) ?_
  obtain ⟨S1, hS1, h⟩ := lt1_i h
  refine g_putI hC hk0 kclX12 ly4_0 31 (by decide) rfl rfl rfl q219 hS1 (rfl : 2 + 3 = 5) (xdt tt_X12_clears 2 rfl) ?_
  refine g_aload_n hC rfl 0 rfl (rfl : 5 + 1 = 6) (xdt tt_X12_clears 3 rfl) ?_
  refine g_iconst hC (rfl : 6 + 1 = 7) (xdt tt_X12_clears 4 rfl) ?_
  obtain ⟨S2, hS2, h⟩ := lt1_i h
  refine g_putI hC hk0 kclX12 ly4_0 32 (by decide) rfl rfl rfl q220 hS2 (rfl : 7 + 3 = 10) (xdt tt_X12_clears 5 rfl) ?_
  refine g_aload_n hC rfl 0 rfl (rfl : 10 + 1 = 11) (xdt tt_X12_clears 6 rfl) ?_
  refine g_bipush hC (by decide) (rfl : 11 + 2 = 13) (xdt tt_X12_clears 7 rfl) ?_
  obtain ⟨S3, hS3, h⟩ := lt1_i h
  refine g_putI hC hk0 kclX12 ly4_0 33 (by decide) rfl rfl rfl q221 hS3 (rfl : 13 + 3 = 16) (xdt tt_X12_clears 8 rfl) ?_
  refine g_aload_n hC rfl 0 rfl (rfl : 16 + 1 = 17) (xdt tt_X12_clears 9 rfl) ?_
  refine g_bipush hC (by decide) (rfl : 17 + 2 = 19) (xdt tt_X12_clears 10 rfl) ?_
  obtain ⟨S4, hS4, h⟩ := lt1_i h
  refine g_putI hC hk0 kclX12 ly4_0 34 (by decide) rfl rfl rfl q222 hS4 (rfl : 19 + 3 = 22) (xdt tt_X12_clears 11 rfl) ?_
  refine g_aload_n hC rfl 0 rfl (rfl : 22 + 1 = 23) (xdt tt_X12_clears 12 rfl) ?_
  refine g_bipush hC (by decide) (rfl : 23 + 2 = 25) (xdt tt_X12_clears 13 rfl) ?_
  obtain ⟨S5, hS5, h⟩ := lt1_i h
  refine g_putI hC hk0 kclX12 ly4_0 35 (by decide) rfl rfl rfl q223 hS5 (rfl : 25 + 3 = 28) (xdt tt_X12_clears 14 rfl) ?_
  refine g_iconst hC (rfl : 28 + 1 = 29) (xdt tt_X12_clears 15 rfl) ?_
  refine g_istore_n hC rfl (by decide) (lv' := [(1, vi 0), (0, vr E r0 0)]) rfl (rfl : 29 + 1 = 30) (xdt tt_X12_clears 16 rfl) ?_
  refine g_sub [1, 0] (lv' := [(0, vr E r0 0), (1, vi 0)]) rfl ?_
  exact k_X12_clears_p4_0_b30 hC hZ hE hk0 _ _ _ h
def f_X12_copies_p4_7_4_6_b2 (r0 : Nat) (r1 : Nat) : Nat → xSt → Int → Option (xSt)
  | 0, _, _ => none
  | fuel + 1, S, x2 =>
    if wr 363 ≤ wr x2 then
      (some S)
    else
      (ckI x2 363 <|
      ckI x2 363 <|
      lt1 (wI S r1 6 (wr x2).toNat (gI S r0 7 (wr x2).toNat)) fun S3 =>
      (f_X12_copies_p4_7_4_6_b2 r0 r1 fuel) S3 (x2 + 1))
def f_X12_copies_p4_7_4_6 (S : xSt) (r0 : Nat) (r1 : Nat) : Option (xSt) :=
  f_X12_copies_p4_7_4_6_b2 r0 r1 (fu S) S 0
set_option maxRecDepth 100000 in
set_option maxHeartbeats 4000000 in
theorem k_X12_copies_p4_7_4_6_b2 {K : xCtx} {E : xE} {b : Nat} (hC : xOK K cX12_copies RX12 3 (rmE 1 b)) (hZ : xZ K) {S' : xSt} (hE : xEnd K E none (YQv E S')) {r0 : Nat} {r1 : Nat} (hk0 : xkd E r0 = 4) (hk1 : xkd E r1 = 4) : ∀ (fuel : Nat) (S : xSt) (x2 : Int), f_X12_copies_p4_7_4_6_b2 r0 r1 fuel S x2 = some S' → WG K E 2 [(0, vr E r0 7), (1, vr E r1 6), (2, vi x2)] [] S := by
  intro fuel
  induction fuel with
  | zero => intro S x2 h; cases h
  | succ fuel ih =>
    intro S x2 h
    rw [f_X12_copies_p4_7_4_6_b2] at h
    refine g_iload_n hC rfl 2 rfl (rfl : 2 + 1 = 3) (xdt tt_X12_copies 2 rfl) ?_
    refine g_sipush hC (by decide) (rfl : 3 + 3 = 6) (xdt tt_X12_copies 3 rfl) ?_
    refine g_icmp_ge hC (show ((6 : Nat) : Int) + 15 = ((21 : Nat) : Int) by decide) (rfl : 6 + 3 = 9) (xdt tt_X12_copies 4 rfl) (fun hc4 => ?_) (fun hc4 => ?_)
    · replace h := (if_pos hc4).symm.trans h
      cases h
      exact g_vret hC hE (xdt tt_X12_copies 13 rfl)
    · replace h := (if_neg hc4).symm.trans h
      refine g_aload_n hC rfl 1 rfl (rfl : 9 + 1 = 10) (xdt tt_X12_copies 5 rfl) ?_
      refine g_iload_n hC rfl 2 rfl (rfl : 10 + 1 = 11) (xdt tt_X12_copies 6 rfl) ?_
      refine g_aload_n hC rfl 0 rfl (rfl : 11 + 1 = 12) (xdt tt_X12_copies 7 rfl) ?_
      refine g_iload_n hC rfl 2 rfl (rfl : 12 + 1 = 13) (xdt tt_X12_copies 8 rfl) ?_
      obtain ⟨hi1, h⟩ := ckI_i h
      refine g_iald hC hk0 ly4_7 hi1 (rfl : 13 + 1 = 14) (xdt tt_X12_copies 9 rfl) (k0 := (wr x2).toNat) rfl ?_
      obtain ⟨hi2, h⟩ := ckI_i h
      obtain ⟨S3, hS3, h⟩ := lt1_i h
      refine g_iast hC hk1 ly4_6 hi2 rfl hS3 (rfl : 14 + 1 = 15) (xdt tt_X12_copies 10 rfl) ?_
      refine g_iinc hC 2 rfl (by decide) (lv' := [(2, vi (x2 + 1)), (0, vr E r0 7), (1, vr E r1 6)]) rfl (rfl : 15 + 3 = 18) (xdt tt_X12_copies 11 rfl) ?_
      refine g_goto hC (show ((18 : Nat) : Int) + (-16) = ((2 : Nat) : Int) by decide) (xdt tt_X12_copies 12 rfl) ?_
      refine g_sub [1, 2, 0] (lv' := [(0, vr E r0 7), (1, vr E r1 6), (2, vi (x2 + 1))]) rfl ?_
      exact ih _ _ h
set_option maxRecDepth 100000 in
set_option maxHeartbeats 4000000 in
theorem c_X12_copies_p4_7_4_6 (l : Launch) {E : xE} {S S' : xSt} {r0 : Nat} {r1 : Nat} (hk0 : xkd E r0 = 4) (hk1 : xkd E r1 = 4) (h : f_X12_copies_p4_7_4_6 S r0 r1 = some S') : Met l yX12_copies (xws yX12_copies cX12_copies 3 none) (rmD 1) (YPc E [vr E r0 7, vr E r1 6] S) (YQv E S') 0 0 (xA E) := by
  unfold f_X12_copies_p4_7_4_6 at h
  refine met_v (by decide +kernel) (Nat.le_of_ble_eq_true rfl) (fun K hC hZ hE => ?_)
  have hC : xOK K cX12_copies RX12 3 (rmE 1 0) := hC
  show WG K E 0 [(0, vr E r0 7), (1, vr E r1 6)] [] S
  refine g_iconst hC (rfl : 0 + 1 = 1) (xdt tt_X12_copies 0 rfl) ?_
  refine g_istore_n hC rfl (by decide) (lv' := [(2, vi 0), (0, vr E r0 7), (1, vr E r1 6)]) rfl (rfl : 1 + 1 = 2) (xdt tt_X12_copies 1 rfl) ?_
  refine g_sub [1, 2, 0] (lv' := [(0, vr E r0 7), (1, vr E r1 6), (2, vi 0)]) rfl ?_
  exact k_X12_copies_p4_7_4_6_b2 hC hZ hE hk0 hk1 _ _ _ h
def f_X12_lengthOf_p4_0 (S : xSt) (r0 : Nat) (a1 : Int) : Option (Int × xSt) :=
  ckI a1 60 <|
  ckI (gI S r0 1 (wr a1).toNat) 10 <|
  ckI a1 60 <|
  some (((tbI 6 (wr (gI S r0 1 (wr a1).toNat)).toNat) + (gI S r0 2 (wr a1).toNat)), S)
set_option maxRecDepth 100000 in
set_option maxHeartbeats 4000000 in
theorem c_X12_lengthOf_p4_0 (l : Launch) {E : xE} {S S' : xSt} {r0 : Nat} {a1 : Int} (hk0 : xkd E r0 = 4) {v : Int} (h : f_X12_lengthOf_p4_0 S r0 a1 = some (v, S')) : Met l yX12_lengthOf (xws yX12_lengthOf cX12_lengthOf 2 (some .int)) (rmD 1) (YPc E [vr E r0 0, vi a1] S) (YQi E v S') 0 0 (xA E) := by
  unfold f_X12_lengthOf_p4_0 at h
  refine met_i (by decide +kernel) (Nat.le_of_ble_eq_true rfl) (fun K hC hZ hE => ?_)
  have hC : xOK K cX12_lengthOf RX12 2 (rmE 1 0) := hC
  show WG K E 0 [(0, vr E r0 0), (1, vi a1)] [] S
  refine g_gets hC 6 rfl q242 (rfl : 0 + 3 = 3) (xdt tt_X12_lengthOf 0 rfl) ?_
  refine g_aload_n hC rfl 0 rfl (rfl : 3 + 1 = 4) (xdt tt_X12_lengthOf 1 rfl) ?_
  refine g_getP hC hk0 kclX12 ly4_0 5 (by decide) (rfl : r0 + 0 = r0) rfl q196 (rfl : 4 + 3 = 7) (xdt tt_X12_lengthOf 2 rfl) ?_
  refine g_iload_n hC rfl 1 rfl (rfl : 7 + 1 = 8) (xdt tt_X12_lengthOf 3 rfl) ?_
  obtain ⟨hi1, h⟩ := ckI_i h
  refine g_iald hC hk0 ly4_1 hi1 (rfl : 8 + 1 = 9) (xdt tt_X12_lengthOf 4 rfl) (k0 := (wr a1).toNat) rfl ?_
  obtain ⟨hi2, h⟩ := ckI_i h
  refine g_tald hC (q := 6) rfl rfl hi2 (rfl : 9 + 1 = 10) (xdt tt_X12_lengthOf 5 rfl) (k0 := (wr (gI S r0 1 (wr a1).toNat)).toNat) rfl ?_
  refine g_aload_n hC rfl 0 rfl (rfl : 10 + 1 = 11) (xdt tt_X12_lengthOf 6 rfl) ?_
  refine g_getP hC hk0 kclX12 ly4_0 6 (by decide) (rfl : r0 + 0 = r0) rfl q197 (rfl : 11 + 3 = 14) (xdt tt_X12_lengthOf 7 rfl) ?_
  refine g_iload_n hC rfl 1 rfl (rfl : 14 + 1 = 15) (xdt tt_X12_lengthOf 8 rfl) ?_
  obtain ⟨hi3, h⟩ := ckI_i h
  refine g_iald hC hk0 ly4_2 hi3 (rfl : 15 + 1 = 16) (xdt tt_X12_lengthOf 9 rfl) (k0 := (wr a1).toNat) rfl ?_
  refine g_iadd hC (rfl : 16 + 1 = 17) (xdt tt_X12_lengthOf 10 rfl) ?_
  cases h
  exact g_iret hC hE (xdt tt_X12_lengthOf 11 rfl)
def f_X12_targetOf_p4_0 (S : xSt) (r0 : Nat) (a1 : Int) : Option (Int × xSt) :=
  ckI a1 60 <|
  if wr 8 ≤ wr (gI S r0 14 (wr a1).toNat) then
    (ckI a1 60 <|
    if wr (a1 + (gI S r0 16 (wr a1).toNat)) ≤ wr (gI S r0 0 1) then
      (some ((a1 + (gI S r0 16 (wr a1).toNat)), S))
    else
      (some ((gI S r0 0 1), S)))
  else
    (some ((-1), S))
set_option maxRecDepth 100000 in
set_option maxHeartbeats 4000000 in
theorem c_X12_targetOf_p4_0 (l : Launch) {E : xE} {S S' : xSt} {r0 : Nat} {a1 : Int} (hk0 : xkd E r0 = 4) {v : Int} (h : f_X12_targetOf_p4_0 S r0 a1 = some (v, S')) : Met l yX12_targetOf (xws yX12_targetOf cX12_targetOf 3 (some .int)) (rmD 1) (YPc E [vr E r0 0, vi a1] S) (YQi E v S') 0 0 (xA E) := by
  unfold f_X12_targetOf_p4_0 at h
  refine met_i (by decide +kernel) (Nat.le_of_ble_eq_true rfl) (fun K hC hZ hE => ?_)
  have hC : xOK K cX12_targetOf RX12 3 (rmE 1 0) := hC
  show WG K E 0 [(0, vr E r0 0), (1, vi a1)] [] S
  refine g_aload_n hC rfl 0 rfl (rfl : 0 + 1 = 1) (xdt tt_X12_targetOf 0 rfl) ?_
  refine g_getP hC hk0 kclX12 ly4_0 36 (by decide) (rfl : r0 + 0 = r0) rfl q210 (rfl : 1 + 3 = 4) (xdt tt_X12_targetOf 1 rfl) ?_
  refine g_iload_n hC rfl 1 rfl (rfl : 4 + 1 = 5) (xdt tt_X12_targetOf 2 rfl) ?_
  obtain ⟨hi1, h⟩ := ckI_i h
  refine g_iald hC hk0 ly4_14 hi1 (rfl : 5 + 1 = 6) (xdt tt_X12_targetOf 3 rfl) (k0 := (wr a1).toNat) rfl ?_
  refine g_bipush hC (by decide) (rfl : 6 + 2 = 8) (xdt tt_X12_targetOf 4 rfl) ?_
  refine g_icmp_ge hC (show ((8 : Nat) : Int) + 5 = ((13 : Nat) : Int) by decide) (rfl : 8 + 3 = 11) (xdt tt_X12_targetOf 5 rfl) (fun hc4 => ?_) (fun hc4 => ?_)
  · replace h := (if_pos hc4).symm.trans h
    refine g_iload_n hC rfl 1 rfl (rfl : 13 + 1 = 14) (xdt tt_X12_targetOf 8 rfl) ?_
    refine g_aload_n hC rfl 0 rfl (rfl : 14 + 1 = 15) (xdt tt_X12_targetOf 9 rfl) ?_
    refine g_getP hC hk0 kclX12 ly4_0 38 (by decide) (rfl : r0 + 0 = r0) rfl q212 (rfl : 15 + 3 = 18) (xdt tt_X12_targetOf 10 rfl) ?_
    refine g_iload_n hC rfl 1 rfl (rfl : 18 + 1 = 19) (xdt tt_X12_targetOf 11 rfl) ?_
    obtain ⟨hi2, h⟩ := ckI_i h
    refine g_iald hC hk0 ly4_16 hi2 (rfl : 19 + 1 = 20) (xdt tt_X12_targetOf 12 rfl) (k0 := (wr a1).toNat) rfl ?_
    refine g_iadd hC (rfl : 20 + 1 = 21) (xdt tt_X12_targetOf 13 rfl) ?_
    refine g_istore_n hC rfl (by decide) (lv' := [(2, vi (a1 + (gI S r0 16 (wr a1).toNat))), (0, vr E r0 0), (1, vi a1)]) rfl (rfl : 21 + 1 = 22) (xdt tt_X12_targetOf 14 rfl) ?_
    refine g_iload_n hC rfl 0 rfl (rfl : 22 + 1 = 23) (xdt tt_X12_targetOf 15 rfl) ?_
    refine g_aload_n hC rfl 1 rfl (rfl : 23 + 1 = 24) (xdt tt_X12_targetOf 16 rfl) ?_
    refine g_getI hC hk0 kclX12 ly4_0 1 (by decide) rfl q228 (rfl : 24 + 3 = 27) (xdt tt_X12_targetOf 17 rfl) ?_
    refine g_icmp_le hC (show ((27 : Nat) : Int) + 10 = ((37 : Nat) : Int) by decide) (rfl : 27 + 3 = 30) (xdt tt_X12_targetOf 18 rfl) (fun hc3 => ?_) (fun hc3 => ?_)
    · replace h := (if_pos hc3).symm.trans h
      refine g_iload_n hC rfl 0 rfl (rfl : 37 + 1 = 38) (xdt tt_X12_targetOf 22 rfl) ?_
      cases h
      exact g_iret hC hE (xdt tt_X12_targetOf 23 rfl)
    · replace h := (if_neg hc3).symm.trans h
      refine g_aload_n hC rfl 1 rfl (rfl : 30 + 1 = 31) (xdt tt_X12_targetOf 19 rfl) ?_
      refine g_getI hC hk0 kclX12 ly4_0 1 (by decide) rfl q228 (rfl : 31 + 3 = 34) (xdt tt_X12_targetOf 20 rfl) ?_
      refine g_goto hC (show ((34 : Nat) : Int) + 4 = ((38 : Nat) : Int) by decide) (xdt tt_X12_targetOf 21 rfl) ?_
      cases h
      exact g_iret hC hE (xdt tt_X12_targetOf 23 rfl)
  · replace h := (if_neg hc4).symm.trans h
    refine g_iconst hC (rfl : 11 + 1 = 12) (xdt tt_X12_targetOf 6 rfl) ?_
    cases h
    exact g_iret hC hE (xdt tt_X12_targetOf 7 rfl)
def f_X12_takesDraft_p4_0_b104 (r0 : Nat) : Nat → xSt → Int → Option (xSt)
  | 0, _, _ => none
  | fuel + 1, S, x1 =>
    if wr (gI S r0 0 1) ≤ wr x1 then
      (bd (f_X12_copies_p4_7_4_6 S r0 r0) fun S7 =>
      lt1 (wI S7 r0 0 16 0) fun S8 =>
      lt1 (wI S8 r0 0 17 0) fun S9 =>
      some S9)
    else
      (ckI x1 61 <|
      bd2 (f_X12_lengthOf_p4_0 S r0 x1) fun v13 S12 =>
      ckI (x1 + 1) 61 <|
      lt1 (wI S12 r0 5 (wr (x1 + 1)).toNat ((gI S r0 5 (wr x1).toNat) + v13)) fun S15 =>
      (f_X12_takesDraft_p4_0_b104 r0 fuel) S15 (x1 + 1))
def f_X12_takesDraft_p4_0_b34 (r0 : Nat) : Nat → xSt → Int → Option (xSt)
  | 0, _, _ => none
  | fuel + 1, S, x1 =>
    if wr (gI S r0 0 1) ≤ wr x1 then
      (lt1 (wI S r0 5 0 0) fun S5 =>
      f_X12_takesDraft_p4_0_b104 r0 (fu S5) S5 0)
    else
      (ckI x1 60 <|
      ckI x1 60 <|
      lt1 (wI S r0 1 (wr x1).toNat (gI S r0 14 (wr x1).toNat)) fun S19 =>
      ckI x1 60 <|
      ckI x1 60 <|
      lt1 (wI S19 r0 2 (wr x1).toNat (gI S19 r0 15 (wr x1).toNat)) fun S22 =>
      bd2 (f_X12_targetOf_p4_0 S22 r0 x1) fun v25 S24 =>
      ckI x1 60 <|
      lt1 (wI S24 r0 3 (wr x1).toNat v25) fun S27 =>
      ckI x1 60 <|
      ckI x1 60 <|
      lt1 (wI S27 r0 4 (wr x1).toNat (gI S27 r0 17 (wr x1).toNat)) fun S30 =>
      (f_X12_takesDraft_p4_0_b34 r0 fuel) S30 (x1 + 1))
def f_X12_takesDraft_p4_0 (S : xSt) (r0 : Nat) : Option (xSt) :=
  lt1 (wI S r0 0 1 (gI S r0 0 31)) fun S1 =>
  lt1 (wI S1 r0 0 2 (gI S1 r0 0 33)) fun S2 =>
  lt1 (wI S2 r0 0 3 (gI S2 r0 0 34)) fun S3 =>
  lt1 (wI S3 r0 0 4 (gI S3 r0 0 35)) fun S4 =>
  f_X12_takesDraft_p4_0_b34 r0 (fu S4) S4 0
set_option maxRecDepth 100000 in
set_option maxHeartbeats 4000000 in
theorem k_X12_takesDraft_p4_0_b104 {K : xCtx} {E : xE} {b : Nat} (hC : xOK K cX12_takesDraft RX12 2 (rmE 2 b)) (hZ : xZ K) {S' : xSt} (hE : xEnd K E none (YQv E S')) {r0 : Nat} (hk0 : xkd E r0 = 4) : ∀ (fuel : Nat) (S : xSt) (x1 : Int), f_X12_takesDraft_p4_0_b104 r0 fuel S x1 = some S' → WG K E 104 [(0, vr E r0 0), (1, vi x1)] [] S := by
  intro fuel
  induction fuel with
  | zero => intro S x1 h; cases h
  | succ fuel ih =>
    intro S x1 h
    rw [f_X12_takesDraft_p4_0_b104] at h
    refine g_iload_n hC rfl 1 rfl (rfl : 104 + 1 = 105) (xdt tt_X12_takesDraft 62 rfl) ?_
    refine g_aload_n hC rfl 0 rfl (rfl : 105 + 1 = 106) (xdt tt_X12_takesDraft 63 rfl) ?_
    refine g_getI hC hk0 kclX12 ly4_0 1 (by decide) rfl q228 (rfl : 106 + 3 = 109) (xdt tt_X12_takesDraft 64 rfl) ?_
    refine g_icmp_ge hC (show ((109 : Nat) : Int) + 29 = ((138 : Nat) : Int) by decide) (rfl : 109 + 3 = 112) (xdt tt_X12_takesDraft 65 rfl) (fun hc16 => ?_) (fun hc16 => ?_)
    · replace h := (if_pos hc16).symm.trans h
      refine g_aload_n hC rfl 0 rfl (rfl : 138 + 1 = 139) (xdt tt_X12_takesDraft 82 rfl) ?_
      refine g_getP hC hk0 kclX12 ly4_0 11 (by decide) (rfl : r0 + 0 = r0) rfl q202 (rfl : 139 + 3 = 142) (xdt tt_X12_takesDraft 83 rfl) ?_
      refine g_aload_n hC rfl 0 rfl (rfl : 142 + 1 = 143) (xdt tt_X12_takesDraft 84 rfl) ?_
      refine g_getP hC hk0 kclX12 ly4_0 10 (by decide) (rfl : r0 + 0 = r0) rfl q201 (rfl : 143 + 3 = 146) (xdt tt_X12_takesDraft 85 rfl) ?_
      obtain ⟨S7, hc6, h⟩ := bd_i h
      refine g_callSv hC hZ m_X12_copies q243 (Nat.le_of_ble_eq_true rfl) [vr E r0 7, vr E r0 6] rfl (fun l => c_X12_copies_p4_7_4_6 l hk0 hk0 hc6) rfl (Nat.le_of_ble_eq_true rfl) (rfl : 146 + 3 = 149) (xdt tt_X12_takesDraft 86 rfl) ?_
      refine g_aload_n hC rfl 0 rfl (rfl : 149 + 1 = 150) (xdt tt_X12_takesDraft 87 rfl) ?_
      refine g_iconst hC (rfl : 150 + 1 = 151) (xdt tt_X12_takesDraft 88 rfl) ?_
      obtain ⟨S8, hS8, h⟩ := lt1_i h
      refine g_putI hC hk0 kclX12 ly4_0 16 (by decide) rfl rfl rfl q232 hS8 (rfl : 151 + 3 = 154) (xdt tt_X12_takesDraft 89 rfl) ?_
      refine g_aload_n hC rfl 0 rfl (rfl : 154 + 1 = 155) (xdt tt_X12_takesDraft 90 rfl) ?_
      refine g_iconst hC (rfl : 155 + 1 = 156) (xdt tt_X12_takesDraft 91 rfl) ?_
      obtain ⟨S9, hS9, h⟩ := lt1_i h
      refine g_putZ hC hk0 kclX12 ly4_0 17 (by decide) rfl rfl rfl q233 (Or.inl rfl) hS9 (rfl : 156 + 3 = 159) (xdt tt_X12_takesDraft 92 rfl) ?_
      cases h
      exact g_vret hC hE (xdt tt_X12_takesDraft 93 rfl)
    · replace h := (if_neg hc16).symm.trans h
      refine g_aload_n hC rfl 0 rfl (rfl : 112 + 1 = 113) (xdt tt_X12_takesDraft 66 rfl) ?_
      refine g_getP hC hk0 kclX12 ly4_0 9 (by decide) (rfl : r0 + 0 = r0) rfl q200 (rfl : 113 + 3 = 116) (xdt tt_X12_takesDraft 67 rfl) ?_
      refine g_iload_n hC rfl 1 rfl (rfl : 116 + 1 = 117) (xdt tt_X12_takesDraft 68 rfl) ?_
      refine g_iconst hC (rfl : 117 + 1 = 118) (xdt tt_X12_takesDraft 69 rfl) ?_
      refine g_iadd hC (rfl : 118 + 1 = 119) (xdt tt_X12_takesDraft 70 rfl) ?_
      refine g_aload_n hC rfl 0 rfl (rfl : 119 + 1 = 120) (xdt tt_X12_takesDraft 71 rfl) ?_
      refine g_getP hC hk0 kclX12 ly4_0 9 (by decide) (rfl : r0 + 0 = r0) rfl q200 (rfl : 120 + 3 = 123) (xdt tt_X12_takesDraft 72 rfl) ?_
      refine g_iload_n hC rfl 1 rfl (rfl : 123 + 1 = 124) (xdt tt_X12_takesDraft 73 rfl) ?_
      obtain ⟨hi10, h⟩ := ckI_i h
      refine g_iald hC hk0 ly4_5 hi10 (rfl : 124 + 1 = 125) (xdt tt_X12_takesDraft 74 rfl) (k0 := (wr x1).toNat) rfl ?_
      refine g_aload_n hC rfl 0 rfl (rfl : 125 + 1 = 126) (xdt tt_X12_takesDraft 75 rfl) ?_
      refine g_iload_n hC rfl 1 rfl (rfl : 126 + 1 = 127) (xdt tt_X12_takesDraft 76 rfl) ?_
      obtain ⟨v13, S12, hc11, h⟩ := bd2_i h
      refine g_callVi hC hZ hk0 kclX12 ly4_0 m_X12_lengthOf q238 (Nat.le_of_ble_eq_true rfl) [vi x1] rfl (fun l => c_X12_lengthOf_p4_0 l hk0 hc11) rfl (Nat.le_of_ble_eq_true rfl) (rfl : 127 + 3 = 130) (xdt tt_X12_takesDraft 77 rfl) ?_
      refine g_iadd hC (rfl : 130 + 1 = 131) (xdt tt_X12_takesDraft 78 rfl) ?_
      obtain ⟨hi14, h⟩ := ckI_i h
      obtain ⟨S15, hS15, h⟩ := lt1_i h
      refine g_iast hC hk0 ly4_5 hi14 rfl hS15 (rfl : 131 + 1 = 132) (xdt tt_X12_takesDraft 79 rfl) ?_
      refine g_iinc hC 1 rfl (by decide) (lv' := [(1, vi (x1 + 1)), (0, vr E r0 0)]) rfl (rfl : 132 + 3 = 135) (xdt tt_X12_takesDraft 80 rfl) ?_
      refine g_goto hC (show ((135 : Nat) : Int) + (-31) = ((104 : Nat) : Int) by decide) (xdt tt_X12_takesDraft 81 rfl) ?_
      refine g_sub [1, 0] (lv' := [(0, vr E r0 0), (1, vi (x1 + 1))]) rfl ?_
      exact ih _ _ h
set_option maxRecDepth 100000 in
set_option maxHeartbeats 4000000 in
theorem k_X12_takesDraft_p4_0_b34 {K : xCtx} {E : xE} {b : Nat} (hC : xOK K cX12_takesDraft RX12 2 (rmE 2 b)) (hZ : xZ K) {S' : xSt} (hE : xEnd K E none (YQv E S')) {r0 : Nat} (hk0 : xkd E r0 = 4) : ∀ (fuel : Nat) (S : xSt) (x1 : Int), f_X12_takesDraft_p4_0_b34 r0 fuel S x1 = some S' → WG K E 34 [(0, vr E r0 0), (1, vi x1)] [] S := by
  intro fuel
  induction fuel with
  | zero => intro S x1 h; cases h
  | succ fuel ih =>
    intro S x1 h
    rw [f_X12_takesDraft_p4_0_b34] at h
    refine g_iload_n hC rfl 1 rfl (rfl : 34 + 1 = 35) (xdt tt_X12_takesDraft 18 rfl) ?_
    refine g_aload_n hC rfl 0 rfl (rfl : 35 + 1 = 36) (xdt tt_X12_takesDraft 19 rfl) ?_
    refine g_getI hC hk0 kclX12 ly4_0 1 (by decide) rfl q228 (rfl : 36 + 3 = 39) (xdt tt_X12_takesDraft 20 rfl) ?_
    refine g_icmp_ge hC (show ((39 : Nat) : Int) + 56 = ((95 : Nat) : Int) by decide) (rfl : 39 + 3 = 42) (xdt tt_X12_takesDraft 21 rfl) (fun hc31 => ?_) (fun hc31 => ?_)
    · replace h := (if_pos hc31).symm.trans h
      refine g_aload_n hC rfl 0 rfl (rfl : 95 + 1 = 96) (xdt tt_X12_takesDraft 55 rfl) ?_
      refine g_getP hC hk0 kclX12 ly4_0 9 (by decide) (rfl : r0 + 0 = r0) rfl q200 (rfl : 96 + 3 = 99) (xdt tt_X12_takesDraft 56 rfl) ?_
      refine g_iconst hC (rfl : 99 + 1 = 100) (xdt tt_X12_takesDraft 57 rfl) ?_
      refine g_iconst hC (rfl : 100 + 1 = 101) (xdt tt_X12_takesDraft 58 rfl) ?_
      obtain ⟨S5, hS5, h⟩ := lt1_i h
      refine g_iast hC hk0 ly4_5 (by decide) (by decide) hS5 (rfl : 101 + 1 = 102) (xdt tt_X12_takesDraft 59 rfl) ?_
      refine g_iconst hC (rfl : 102 + 1 = 103) (xdt tt_X12_takesDraft 60 rfl) ?_
      refine g_istore_n hC rfl (by decide) (lv' := [(1, vi 0), (0, vr E r0 0)]) rfl (rfl : 103 + 1 = 104) (xdt tt_X12_takesDraft 61 rfl) ?_
      refine g_sub [1, 0] (lv' := [(0, vr E r0 0), (1, vi 0)]) rfl ?_
      exact k_X12_takesDraft_p4_0_b104 hC hZ hE hk0 _ _ _ h
    · replace h := (if_neg hc31).symm.trans h
      refine g_aload_n hC rfl 0 rfl (rfl : 42 + 1 = 43) (xdt tt_X12_takesDraft 22 rfl) ?_
      refine g_getP hC hk0 kclX12 ly4_0 5 (by decide) (rfl : r0 + 0 = r0) rfl q196 (rfl : 43 + 3 = 46) (xdt tt_X12_takesDraft 23 rfl) ?_
      refine g_iload_n hC rfl 1 rfl (rfl : 46 + 1 = 47) (xdt tt_X12_takesDraft 24 rfl) ?_
      refine g_aload_n hC rfl 0 rfl (rfl : 47 + 1 = 48) (xdt tt_X12_takesDraft 25 rfl) ?_
      refine g_getP hC hk0 kclX12 ly4_0 36 (by decide) (rfl : r0 + 0 = r0) rfl q210 (rfl : 48 + 3 = 51) (xdt tt_X12_takesDraft 26 rfl) ?_
      refine g_iload_n hC rfl 1 rfl (rfl : 51 + 1 = 52) (xdt tt_X12_takesDraft 27 rfl) ?_
      obtain ⟨hi17, h⟩ := ckI_i h
      refine g_iald hC hk0 ly4_14 hi17 (rfl : 52 + 1 = 53) (xdt tt_X12_takesDraft 28 rfl) (k0 := (wr x1).toNat) rfl ?_
      obtain ⟨hi18, h⟩ := ckI_i h
      obtain ⟨S19, hS19, h⟩ := lt1_i h
      refine g_iast hC hk0 ly4_1 hi18 rfl hS19 (rfl : 53 + 1 = 54) (xdt tt_X12_takesDraft 29 rfl) ?_
      refine g_aload_n hC rfl 0 rfl (rfl : 54 + 1 = 55) (xdt tt_X12_takesDraft 30 rfl) ?_
      refine g_getP hC hk0 kclX12 ly4_0 6 (by decide) (rfl : r0 + 0 = r0) rfl q197 (rfl : 55 + 3 = 58) (xdt tt_X12_takesDraft 31 rfl) ?_
      refine g_iload_n hC rfl 1 rfl (rfl : 58 + 1 = 59) (xdt tt_X12_takesDraft 32 rfl) ?_
      refine g_aload_n hC rfl 0 rfl (rfl : 59 + 1 = 60) (xdt tt_X12_takesDraft 33 rfl) ?_
      refine g_getP hC hk0 kclX12 ly4_0 37 (by decide) (rfl : r0 + 0 = r0) rfl q211 (rfl : 60 + 3 = 63) (xdt tt_X12_takesDraft 34 rfl) ?_
      refine g_iload_n hC rfl 1 rfl (rfl : 63 + 1 = 64) (xdt tt_X12_takesDraft 35 rfl) ?_
      obtain ⟨hi20, h⟩ := ckI_i h
      refine g_iald hC hk0 ly4_15 hi20 (rfl : 64 + 1 = 65) (xdt tt_X12_takesDraft 36 rfl) (k0 := (wr x1).toNat) rfl ?_
      obtain ⟨hi21, h⟩ := ckI_i h
      obtain ⟨S22, hS22, h⟩ := lt1_i h
      refine g_iast hC hk0 ly4_2 hi21 rfl hS22 (rfl : 65 + 1 = 66) (xdt tt_X12_takesDraft 37 rfl) ?_
      refine g_aload_n hC rfl 0 rfl (rfl : 66 + 1 = 67) (xdt tt_X12_takesDraft 38 rfl) ?_
      refine g_getP hC hk0 kclX12 ly4_0 7 (by decide) (rfl : r0 + 0 = r0) rfl q198 (rfl : 67 + 3 = 70) (xdt tt_X12_takesDraft 39 rfl) ?_
      refine g_iload_n hC rfl 1 rfl (rfl : 70 + 1 = 71) (xdt tt_X12_takesDraft 40 rfl) ?_
      refine g_aload_n hC rfl 0 rfl (rfl : 71 + 1 = 72) (xdt tt_X12_takesDraft 41 rfl) ?_
      refine g_iload_n hC rfl 1 rfl (rfl : 72 + 1 = 73) (xdt tt_X12_takesDraft 42 rfl) ?_
      obtain ⟨v25, S24, hc23, h⟩ := bd2_i h
      refine g_callVi hC hZ hk0 kclX12 ly4_0 m_X12_targetOf q234 (Nat.le_of_ble_eq_true rfl) [vi x1] rfl (fun l => c_X12_targetOf_p4_0 l hk0 hc23) rfl (Nat.le_of_ble_eq_true rfl) (rfl : 73 + 3 = 76) (xdt tt_X12_takesDraft 43 rfl) ?_
      obtain ⟨hi26, h⟩ := ckI_i h
      obtain ⟨S27, hS27, h⟩ := lt1_i h
      refine g_iast hC hk0 ly4_3 hi26 rfl hS27 (rfl : 76 + 1 = 77) (xdt tt_X12_takesDraft 44 rfl) ?_
      refine g_aload_n hC rfl 0 rfl (rfl : 77 + 1 = 78) (xdt tt_X12_takesDraft 45 rfl) ?_
      refine g_getP hC hk0 kclX12 ly4_0 8 (by decide) (rfl : r0 + 0 = r0) rfl q199 (rfl : 78 + 3 = 81) (xdt tt_X12_takesDraft 46 rfl) ?_
      refine g_iload_n hC rfl 1 rfl (rfl : 81 + 1 = 82) (xdt tt_X12_takesDraft 47 rfl) ?_
      refine g_aload_n hC rfl 0 rfl (rfl : 82 + 1 = 83) (xdt tt_X12_takesDraft 48 rfl) ?_
      refine g_getP hC hk0 kclX12 ly4_0 39 (by decide) (rfl : r0 + 0 = r0) rfl q213 (rfl : 83 + 3 = 86) (xdt tt_X12_takesDraft 49 rfl) ?_
      refine g_iload_n hC rfl 1 rfl (rfl : 86 + 1 = 87) (xdt tt_X12_takesDraft 50 rfl) ?_
      obtain ⟨hi28, h⟩ := ckI_i h
      refine g_iald hC hk0 ly4_17 hi28 (rfl : 87 + 1 = 88) (xdt tt_X12_takesDraft 51 rfl) (k0 := (wr x1).toNat) rfl ?_
      obtain ⟨hi29, h⟩ := ckI_i h
      obtain ⟨S30, hS30, h⟩ := lt1_i h
      refine g_iast hC hk0 ly4_4 hi29 rfl hS30 (rfl : 88 + 1 = 89) (xdt tt_X12_takesDraft 52 rfl) ?_
      refine g_iinc hC 1 rfl (by decide) (lv' := [(1, vi (x1 + 1)), (0, vr E r0 0)]) rfl (rfl : 89 + 3 = 92) (xdt tt_X12_takesDraft 53 rfl) ?_
      refine g_goto hC (show ((92 : Nat) : Int) + (-58) = ((34 : Nat) : Int) by decide) (xdt tt_X12_takesDraft 54 rfl) ?_
      refine g_sub [1, 0] (lv' := [(0, vr E r0 0), (1, vi (x1 + 1))]) rfl ?_
      exact ih _ _ h
set_option maxRecDepth 100000 in
set_option maxHeartbeats 4000000 in
theorem c_X12_takesDraft_p4_0 (l : Launch) {E : xE} {S S' : xSt} {r0 : Nat} (hk0 : xkd E r0 = 4) (h : f_X12_takesDraft_p4_0 S r0 = some S') : Met l yX12_takesDraft (xws yX12_takesDraft cX12_takesDraft 2 none) (rmD 2) (YPc E [vr E r0 0] S) (YQv E S') 0 0 (xA E) := by
  unfold f_X12_takesDraft_p4_0 at h
  refine met_v (by decide +kernel) (Nat.le_of_ble_eq_true rfl) (fun K hC hZ hE => ?_)
  have hC : xOK K cX12_takesDraft RX12 2 (rmE 2 0) := hC
  show WG K E 0 [(0, vr E r0 0)] [] S
  refine g_aload_n hC rfl 0 rfl (rfl : 0 + 1 = 1) (xdt tt_X12_takesDraft 0 rfl) ?_
  refine g_aload_n hC rfl 0 rfl (rfl : 1 + 1 = 2) (xdt tt_X12_takesDraft 1 rfl) ?_
  refine g_getI hC hk0 kclX12 ly4_0 31 (by decide) rfl q219 (rfl : 2 + 3 = 5) (xdt tt_X12_takesDraft 2 rfl) ?_
  obtain ⟨S1, hS1, h⟩ := lt1_i h
  refine g_putI hC hk0 kclX12 ly4_0 1 (by decide) rfl rfl rfl q228 hS1 (rfl : 5 + 3 = 8) (xdt tt_X12_takesDraft 3 rfl) ?_
  refine g_aload_n hC rfl 0 rfl (rfl : 8 + 1 = 9) (xdt tt_X12_takesDraft 4 rfl) ?_
  refine g_aload_n hC rfl 0 rfl (rfl : 9 + 1 = 10) (xdt tt_X12_takesDraft 5 rfl) ?_
  refine g_getI hC hk0 kclX12 ly4_0 33 (by decide) rfl q221 (rfl : 10 + 3 = 13) (xdt tt_X12_takesDraft 6 rfl) ?_
  obtain ⟨S2, hS2, h⟩ := lt1_i h
  refine g_putI hC hk0 kclX12 ly4_0 2 (by decide) rfl rfl rfl q229 hS2 (rfl : 13 + 3 = 16) (xdt tt_X12_takesDraft 7 rfl) ?_
  refine g_aload_n hC rfl 0 rfl (rfl : 16 + 1 = 17) (xdt tt_X12_takesDraft 8 rfl) ?_
  refine g_aload_n hC rfl 0 rfl (rfl : 17 + 1 = 18) (xdt tt_X12_takesDraft 9 rfl) ?_
  refine g_getI hC hk0 kclX12 ly4_0 34 (by decide) rfl q222 (rfl : 18 + 3 = 21) (xdt tt_X12_takesDraft 10 rfl) ?_
  obtain ⟨S3, hS3, h⟩ := lt1_i h
  refine g_putI hC hk0 kclX12 ly4_0 3 (by decide) rfl rfl rfl q230 hS3 (rfl : 21 + 3 = 24) (xdt tt_X12_takesDraft 11 rfl) ?_
  refine g_aload_n hC rfl 0 rfl (rfl : 24 + 1 = 25) (xdt tt_X12_takesDraft 12 rfl) ?_
  refine g_aload_n hC rfl 0 rfl (rfl : 25 + 1 = 26) (xdt tt_X12_takesDraft 13 rfl) ?_
  refine g_getI hC hk0 kclX12 ly4_0 35 (by decide) rfl q223 (rfl : 26 + 3 = 29) (xdt tt_X12_takesDraft 14 rfl) ?_
  obtain ⟨S4, hS4, h⟩ := lt1_i h
  refine g_putI hC hk0 kclX12 ly4_0 4 (by decide) rfl rfl rfl q231 hS4 (rfl : 29 + 3 = 32) (xdt tt_X12_takesDraft 15 rfl) ?_
  refine g_iconst hC (rfl : 32 + 1 = 33) (xdt tt_X12_takesDraft 16 rfl) ?_
  refine g_istore_n hC rfl (by decide) (lv' := [(1, vi 0), (0, vr E r0 0)]) rfl (rfl : 33 + 1 = 34) (xdt tt_X12_takesDraft 17 rfl) ?_
  refine g_sub [1, 0] (lv' := [(0, vr E r0 0), (1, vi 0)]) rfl ?_
  exact k_X12_takesDraft_p4_0_b34 hC hZ hE hk0 _ _ _ h
def f_X12_copies_p4_6_4_8_b2 (r0 : Nat) (r1 : Nat) : Nat → xSt → Int → Option (xSt)
  | 0, _, _ => none
  | fuel + 1, S, x2 =>
    if wr 363 ≤ wr x2 then
      (some S)
    else
      (ckI x2 363 <|
      ckI x2 363 <|
      lt1 (wI S r1 8 (wr x2).toNat (gI S r0 6 (wr x2).toNat)) fun S3 =>
      (f_X12_copies_p4_6_4_8_b2 r0 r1 fuel) S3 (x2 + 1))
def f_X12_copies_p4_6_4_8 (S : xSt) (r0 : Nat) (r1 : Nat) : Option (xSt) :=
  f_X12_copies_p4_6_4_8_b2 r0 r1 (fu S) S 0
set_option maxRecDepth 100000 in
set_option maxHeartbeats 4000000 in
theorem k_X12_copies_p4_6_4_8_b2 {K : xCtx} {E : xE} {b : Nat} (hC : xOK K cX12_copies RX12 3 (rmE 1 b)) (hZ : xZ K) {S' : xSt} (hE : xEnd K E none (YQv E S')) {r0 : Nat} {r1 : Nat} (hk0 : xkd E r0 = 4) (hk1 : xkd E r1 = 4) : ∀ (fuel : Nat) (S : xSt) (x2 : Int), f_X12_copies_p4_6_4_8_b2 r0 r1 fuel S x2 = some S' → WG K E 2 [(0, vr E r0 6), (1, vr E r1 8), (2, vi x2)] [] S := by
  intro fuel
  induction fuel with
  | zero => intro S x2 h; cases h
  | succ fuel ih =>
    intro S x2 h
    rw [f_X12_copies_p4_6_4_8_b2] at h
    refine g_iload_n hC rfl 2 rfl (rfl : 2 + 1 = 3) (xdt tt_X12_copies 2 rfl) ?_
    refine g_sipush hC (by decide) (rfl : 3 + 3 = 6) (xdt tt_X12_copies 3 rfl) ?_
    refine g_icmp_ge hC (show ((6 : Nat) : Int) + 15 = ((21 : Nat) : Int) by decide) (rfl : 6 + 3 = 9) (xdt tt_X12_copies 4 rfl) (fun hc4 => ?_) (fun hc4 => ?_)
    · replace h := (if_pos hc4).symm.trans h
      cases h
      exact g_vret hC hE (xdt tt_X12_copies 13 rfl)
    · replace h := (if_neg hc4).symm.trans h
      refine g_aload_n hC rfl 1 rfl (rfl : 9 + 1 = 10) (xdt tt_X12_copies 5 rfl) ?_
      refine g_iload_n hC rfl 2 rfl (rfl : 10 + 1 = 11) (xdt tt_X12_copies 6 rfl) ?_
      refine g_aload_n hC rfl 0 rfl (rfl : 11 + 1 = 12) (xdt tt_X12_copies 7 rfl) ?_
      refine g_iload_n hC rfl 2 rfl (rfl : 12 + 1 = 13) (xdt tt_X12_copies 8 rfl) ?_
      obtain ⟨hi1, h⟩ := ckI_i h
      refine g_iald hC hk0 ly4_6 hi1 (rfl : 13 + 1 = 14) (xdt tt_X12_copies 9 rfl) (k0 := (wr x2).toNat) rfl ?_
      obtain ⟨hi2, h⟩ := ckI_i h
      obtain ⟨S3, hS3, h⟩ := lt1_i h
      refine g_iast hC hk1 ly4_8 hi2 rfl hS3 (rfl : 14 + 1 = 15) (xdt tt_X12_copies 10 rfl) ?_
      refine g_iinc hC 2 rfl (by decide) (lv' := [(2, vi (x2 + 1)), (0, vr E r0 6), (1, vr E r1 8)]) rfl (rfl : 15 + 3 = 18) (xdt tt_X12_copies 11 rfl) ?_
      refine g_goto hC (show ((18 : Nat) : Int) + (-16) = ((2 : Nat) : Int) by decide) (xdt tt_X12_copies 12 rfl) ?_
      refine g_sub [1, 2, 0] (lv' := [(0, vr E r0 6), (1, vr E r1 8), (2, vi (x2 + 1))]) rfl ?_
      exact ih _ _ h
set_option maxRecDepth 100000 in
set_option maxHeartbeats 4000000 in
theorem c_X12_copies_p4_6_4_8 (l : Launch) {E : xE} {S S' : xSt} {r0 : Nat} {r1 : Nat} (hk0 : xkd E r0 = 4) (hk1 : xkd E r1 = 4) (h : f_X12_copies_p4_6_4_8 S r0 r1 = some S') : Met l yX12_copies (xws yX12_copies cX12_copies 3 none) (rmD 1) (YPc E [vr E r0 6, vr E r1 8] S) (YQv E S') 0 0 (xA E) := by
  unfold f_X12_copies_p4_6_4_8 at h
  refine met_v (by decide +kernel) (Nat.le_of_ble_eq_true rfl) (fun K hC hZ hE => ?_)
  have hC : xOK K cX12_copies RX12 3 (rmE 1 0) := hC
  show WG K E 0 [(0, vr E r0 6), (1, vr E r1 8)] [] S
  refine g_iconst hC (rfl : 0 + 1 = 1) (xdt tt_X12_copies 0 rfl) ?_
  refine g_istore_n hC rfl (by decide) (lv' := [(2, vi 0), (0, vr E r0 6), (1, vr E r1 8)]) rfl (rfl : 1 + 1 = 2) (xdt tt_X12_copies 1 rfl) ?_
  refine g_sub [1, 2, 0] (lv' := [(0, vr E r0 6), (1, vr E r1 8), (2, vi 0)]) rfl ?_
  exact k_X12_copies_p4_6_4_8_b2 hC hZ hE hk0 hk1 _ _ _ h
def f_X12_starts_p4_0 (S : xSt) (r0 : Nat) : Option (xSt) :=
  bd (f_X12_copies_p4_6_4_8 S r0 r0) fun S2 =>
  some S2
set_option maxRecDepth 100000 in
set_option maxHeartbeats 4000000 in
theorem c_X12_starts_p4_0 (l : Launch) {E : xE} {S S' : xSt} {r0 : Nat} (hk0 : xkd E r0 = 4) (h : f_X12_starts_p4_0 S r0 = some S') : Met l yX12_starts (xws yX12_starts cX12_starts 1 none) (rmD 2) (YPc E [vr E r0 0] S) (YQv E S') 0 0 (xA E) := by
  unfold f_X12_starts_p4_0 at h
  refine met_v (by decide +kernel) (Nat.le_of_ble_eq_true rfl) (fun K hC hZ hE => ?_)
  have hC : xOK K cX12_starts RX12 1 (rmE 2 0) := hC
  show WG K E 0 [(0, vr E r0 0)] [] S
  refine g_aload_n hC rfl 0 rfl (rfl : 0 + 1 = 1) (xdt tt_X12_starts 0 rfl) ?_
  refine g_getP hC hk0 kclX12 ly4_0 10 (by decide) (rfl : r0 + 0 = r0) rfl q201 (rfl : 1 + 3 = 4) (xdt tt_X12_starts 1 rfl) ?_
  refine g_aload_n hC rfl 0 rfl (rfl : 4 + 1 = 5) (xdt tt_X12_starts 2 rfl) ?_
  refine g_getP hC hk0 kclX12 ly4_0 12 (by decide) (rfl : r0 + 0 = r0) rfl q203 (rfl : 5 + 3 = 8) (xdt tt_X12_starts 3 rfl) ?_
  obtain ⟨S2, hc1, h⟩ := bd_i h
  refine g_callSv hC hZ m_X12_copies q243 (Nat.le_of_ble_eq_true rfl) [vr E r0 6, vr E r0 8] rfl (fun l => c_X12_copies_p4_6_4_8 l hk0 hk0 hc1) rfl (Nat.le_of_ble_eq_true rfl) (rfl : 8 + 3 = 11) (xdt tt_X12_starts 4 rfl) ?_
  cases h
  exact g_vret hC hE (xdt tt_X12_starts 5 rfl)
def f_X12_done_p4_0_b52 (r0 : Nat) : Nat → xSt → Int → Int → Option (Int × xSt)
  | 0, _, _, _ => none
  | fuel + 1, S, x1, x2 =>
    if wr 363 ≤ wr x2 then
      (lt1 (wI S r0 0 16 ((gI S r0 0 16) + 1)) fun S1 =>
      some (x1, S1))
    else
      (ckI x2 363 <|
      ckI ((363 * (gI S r0 0 16)) + x2) 2178 <|
      lt1 (wI S r0 11 (wr ((363 * (gI S r0 0 16)) + x2)).toNat (gI S r0 8 (wr x2).toNat)) fun S4 =>
      (f_X12_done_p4_0_b52 r0 fuel) S4 x1 (x2 + 1))
def f_X12_done_p4_0_b11 (r0 : Nat) : Nat → xSt → Int → Int → Option (Int × xSt)
  | 0, _, _, _ => none
  | fuel + 1, S, x1, x2 =>
    if wr 1815 ≤ wr x2 then
      (lt1 (wI S r0 0 16 ((gI S r0 0 16) - 1)) fun S6 =>
      f_X12_done_p4_0_b52 r0 (fu S6) S6 x1 0)
    else
      (ckI (x2 + 363) 2178 <|
      ckI x2 2178 <|
      lt1 (wI S r0 11 (wr x2).toNat (gI S r0 11 (wr (x2 + 363)).toNat)) fun S9 =>
      (f_X12_done_p4_0_b11 r0 fuel) S9 x1 (x2 + 1))
def f_X12_done_p4_0 (S : xSt) (r0 : Nat) (a1 : Int) : Option (Int × xSt) :=
  if ¬ wr (gI S r0 0 16) = wr 6 then
    (f_X12_done_p4_0_b52 r0 (fu S) S a1 0)
  else
    (f_X12_done_p4_0_b11 r0 (fu S) S a1 0)
set_option maxRecDepth 100000 in
set_option maxHeartbeats 4000000 in
theorem k_X12_done_p4_0_b52 {K : xCtx} {E : xE} {b : Nat} (hC : xOK K cX12_done RX12 3 (rmE 1 b)) (hZ : xZ K) {v : Int} {S' : xSt} (hE : xEnd K E (some .int) (YQi E v S')) {r0 : Nat} (hk0 : xkd E r0 = 4) : ∀ (fuel : Nat) (S : xSt) (x1 : Int) (x2 : Int), f_X12_done_p4_0_b52 r0 fuel S x1 x2 = some (v, S') → WG K E 52 [(0, vr E r0 0), (1, vi x1), (2, vi x2)] [] S := by
  intro fuel
  induction fuel with
  | zero => intro S x1 x2 h; cases h
  | succ fuel ih =>
    intro S x1 x2 h
    rw [f_X12_done_p4_0_b52] at h
    refine g_iload_n hC rfl 2 rfl (rfl : 52 + 1 = 53) (xdt tt_X12_done 29 rfl) ?_
    refine g_sipush hC (by decide) (rfl : 53 + 3 = 56) (xdt tt_X12_done 30 rfl) ?_
    refine g_icmp_ge hC (show ((56 : Nat) : Int) + 30 = ((86 : Nat) : Int) by decide) (rfl : 56 + 3 = 59) (xdt tt_X12_done 31 rfl) (fun hc5 => ?_) (fun hc5 => ?_)
    · replace h := (if_pos hc5).symm.trans h
      refine g_aload_n hC rfl 0 rfl (rfl : 86 + 1 = 87) (xdt tt_X12_done 47 rfl) ?_
      refine g_aload_n hC rfl 0 rfl (rfl : 87 + 1 = 88) (xdt tt_X12_done 48 rfl) ?_
      refine g_getI hC hk0 kclX12 ly4_0 16 (by decide) rfl q232 (rfl : 88 + 3 = 91) (xdt tt_X12_done 49 rfl) ?_
      refine g_iconst hC (rfl : 91 + 1 = 92) (xdt tt_X12_done 50 rfl) ?_
      refine g_iadd hC (rfl : 92 + 1 = 93) (xdt tt_X12_done 51 rfl) ?_
      obtain ⟨S1, hS1, h⟩ := lt1_i h
      refine g_putI hC hk0 kclX12 ly4_0 16 (by decide) rfl rfl rfl q232 hS1 (rfl : 93 + 3 = 96) (xdt tt_X12_done 52 rfl) ?_
      refine g_iload_n hC rfl 1 rfl (rfl : 96 + 1 = 97) (xdt tt_X12_done 53 rfl) ?_
      cases h
      exact g_iret hC hE (xdt tt_X12_done 54 rfl)
    · replace h := (if_neg hc5).symm.trans h
      refine g_aload_n hC rfl 0 rfl (rfl : 59 + 1 = 60) (xdt tt_X12_done 32 rfl) ?_
      refine g_getP hC hk0 kclX12 ly4_0 15 (by decide) (rfl : r0 + 0 = r0) rfl q206 (rfl : 60 + 3 = 63) (xdt tt_X12_done 33 rfl) ?_
      refine g_sipush hC (by decide) (rfl : 63 + 3 = 66) (xdt tt_X12_done 34 rfl) ?_
      refine g_aload_n hC rfl 0 rfl (rfl : 66 + 1 = 67) (xdt tt_X12_done 35 rfl) ?_
      refine g_getI hC hk0 kclX12 ly4_0 16 (by decide) rfl q232 (rfl : 67 + 3 = 70) (xdt tt_X12_done 36 rfl) ?_
      refine g_imul hC (rfl : 70 + 1 = 71) (xdt tt_X12_done 37 rfl) ?_
      refine g_iload_n hC rfl 2 rfl (rfl : 71 + 1 = 72) (xdt tt_X12_done 38 rfl) ?_
      refine g_iadd hC (rfl : 72 + 1 = 73) (xdt tt_X12_done 39 rfl) ?_
      refine g_aload_n hC rfl 0 rfl (rfl : 73 + 1 = 74) (xdt tt_X12_done 40 rfl) ?_
      refine g_getP hC hk0 kclX12 ly4_0 12 (by decide) (rfl : r0 + 0 = r0) rfl q203 (rfl : 74 + 3 = 77) (xdt tt_X12_done 41 rfl) ?_
      refine g_iload_n hC rfl 2 rfl (rfl : 77 + 1 = 78) (xdt tt_X12_done 42 rfl) ?_
      obtain ⟨hi2, h⟩ := ckI_i h
      refine g_iald hC hk0 ly4_8 hi2 (rfl : 78 + 1 = 79) (xdt tt_X12_done 43 rfl) (k0 := (wr x2).toNat) rfl ?_
      obtain ⟨hi3, h⟩ := ckI_i h
      obtain ⟨S4, hS4, h⟩ := lt1_i h
      refine g_iast hC hk0 ly4_11 hi3 rfl hS4 (rfl : 79 + 1 = 80) (xdt tt_X12_done 44 rfl) ?_
      refine g_iinc hC 2 rfl (by decide) (lv' := [(2, vi (x2 + 1)), (0, vr E r0 0), (1, vi x1)]) rfl (rfl : 80 + 3 = 83) (xdt tt_X12_done 45 rfl) ?_
      refine g_goto hC (show ((83 : Nat) : Int) + (-31) = ((52 : Nat) : Int) by decide) (xdt tt_X12_done 46 rfl) ?_
      refine g_sub [1, 2, 0] (lv' := [(0, vr E r0 0), (1, vi x1), (2, vi (x2 + 1))]) rfl ?_
      exact ih _ _ _ h
set_option maxRecDepth 100000 in
set_option maxHeartbeats 4000000 in
theorem k_X12_done_p4_0_b11 {K : xCtx} {E : xE} {b : Nat} (hC : xOK K cX12_done RX12 3 (rmE 1 b)) (hZ : xZ K) {v : Int} {S' : xSt} (hE : xEnd K E (some .int) (YQi E v S')) {r0 : Nat} (hk0 : xkd E r0 = 4) : ∀ (fuel : Nat) (S : xSt) (x1 : Int) (x2 : Int), f_X12_done_p4_0_b11 r0 fuel S x1 x2 = some (v, S') → WG K E 11 [(0, vr E r0 0), (1, vi x1), (2, vi x2)] [] S := by
  intro fuel
  induction fuel with
  | zero => intro S x1 x2 h; cases h
  | succ fuel ih =>
    intro S x1 x2 h
    rw [f_X12_done_p4_0_b11] at h
    refine g_iload_n hC rfl 2 rfl (rfl : 11 + 1 = 12) (xdt tt_X12_done 6 rfl) ?_
    refine g_sipush hC (by decide) (rfl : 12 + 3 = 15) (xdt tt_X12_done 7 rfl) ?_
    refine g_icmp_ge hC (show ((15 : Nat) : Int) + 25 = ((40 : Nat) : Int) by decide) (rfl : 15 + 3 = 18) (xdt tt_X12_done 8 rfl) (fun hc10 => ?_) (fun hc10 => ?_)
    · replace h := (if_pos hc10).symm.trans h
      refine g_aload_n hC rfl 0 rfl (rfl : 40 + 1 = 41) (xdt tt_X12_done 21 rfl) ?_
      refine g_aload_n hC rfl 0 rfl (rfl : 41 + 1 = 42) (xdt tt_X12_done 22 rfl) ?_
      refine g_getI hC hk0 kclX12 ly4_0 16 (by decide) rfl q232 (rfl : 42 + 3 = 45) (xdt tt_X12_done 23 rfl) ?_
      refine g_iconst hC (rfl : 45 + 1 = 46) (xdt tt_X12_done 24 rfl) ?_
      refine g_isub hC (rfl : 46 + 1 = 47) (xdt tt_X12_done 25 rfl) ?_
      obtain ⟨S6, hS6, h⟩ := lt1_i h
      refine g_putI hC hk0 kclX12 ly4_0 16 (by decide) rfl rfl rfl q232 hS6 (rfl : 47 + 3 = 50) (xdt tt_X12_done 26 rfl) ?_
      refine g_iconst hC (rfl : 50 + 1 = 51) (xdt tt_X12_done 27 rfl) ?_
      refine g_istore_n hC rfl (by decide) (lv' := [(2, vi 0), (0, vr E r0 0), (1, vi x1)]) rfl (rfl : 51 + 1 = 52) (xdt tt_X12_done 28 rfl) ?_
      refine g_sub [1, 2, 0] (lv' := [(0, vr E r0 0), (1, vi x1), (2, vi 0)]) rfl ?_
      exact k_X12_done_p4_0_b52 hC hZ hE hk0 _ _ _ _ h
    · replace h := (if_neg hc10).symm.trans h
      refine g_aload_n hC rfl 0 rfl (rfl : 18 + 1 = 19) (xdt tt_X12_done 9 rfl) ?_
      refine g_getP hC hk0 kclX12 ly4_0 15 (by decide) (rfl : r0 + 0 = r0) rfl q206 (rfl : 19 + 3 = 22) (xdt tt_X12_done 10 rfl) ?_
      refine g_iload_n hC rfl 2 rfl (rfl : 22 + 1 = 23) (xdt tt_X12_done 11 rfl) ?_
      refine g_aload_n hC rfl 0 rfl (rfl : 23 + 1 = 24) (xdt tt_X12_done 12 rfl) ?_
      refine g_getP hC hk0 kclX12 ly4_0 15 (by decide) (rfl : r0 + 0 = r0) rfl q206 (rfl : 24 + 3 = 27) (xdt tt_X12_done 13 rfl) ?_
      refine g_iload_n hC rfl 2 rfl (rfl : 27 + 1 = 28) (xdt tt_X12_done 14 rfl) ?_
      refine g_sipush hC (by decide) (rfl : 28 + 3 = 31) (xdt tt_X12_done 15 rfl) ?_
      refine g_iadd hC (rfl : 31 + 1 = 32) (xdt tt_X12_done 16 rfl) ?_
      obtain ⟨hi7, h⟩ := ckI_i h
      refine g_iald hC hk0 ly4_11 hi7 (rfl : 32 + 1 = 33) (xdt tt_X12_done 17 rfl) (k0 := (wr (x2 + 363)).toNat) rfl ?_
      obtain ⟨hi8, h⟩ := ckI_i h
      obtain ⟨S9, hS9, h⟩ := lt1_i h
      refine g_iast hC hk0 ly4_11 hi8 rfl hS9 (rfl : 33 + 1 = 34) (xdt tt_X12_done 18 rfl) ?_
      refine g_iinc hC 2 rfl (by decide) (lv' := [(2, vi (x2 + 1)), (0, vr E r0 0), (1, vi x1)]) rfl (rfl : 34 + 3 = 37) (xdt tt_X12_done 19 rfl) ?_
      refine g_goto hC (show ((37 : Nat) : Int) + (-26) = ((11 : Nat) : Int) by decide) (xdt tt_X12_done 20 rfl) ?_
      refine g_sub [1, 2, 0] (lv' := [(0, vr E r0 0), (1, vi x1), (2, vi (x2 + 1))]) rfl ?_
      exact ih _ _ _ h
set_option maxRecDepth 100000 in
set_option maxHeartbeats 4000000 in
theorem c_X12_done_p4_0 (l : Launch) {E : xE} {S S' : xSt} {r0 : Nat} {a1 : Int} (hk0 : xkd E r0 = 4) {v : Int} (h : f_X12_done_p4_0 S r0 a1 = some (v, S')) : Met l yX12_done (xws yX12_done cX12_done 3 (some .int)) (rmD 1) (YPc E [vr E r0 0, vi a1] S) (YQi E v S') 0 0 (xA E) := by
  unfold f_X12_done_p4_0 at h
  refine met_i (by decide +kernel) (Nat.le_of_ble_eq_true rfl) (fun K hC hZ hE => ?_)
  have hC : xOK K cX12_done RX12 3 (rmE 1 0) := hC
  show WG K E 0 [(0, vr E r0 0), (1, vi a1)] [] S
  refine g_aload_n hC rfl 0 rfl (rfl : 0 + 1 = 1) (xdt tt_X12_done 0 rfl) ?_
  refine g_getI hC hk0 kclX12 ly4_0 16 (by decide) rfl q232 (rfl : 1 + 3 = 4) (xdt tt_X12_done 1 rfl) ?_
  refine g_bipush hC (by decide) (rfl : 4 + 2 = 6) (xdt tt_X12_done 2 rfl) ?_
  refine g_icmp_ne hC (show ((6 : Nat) : Int) + 44 = ((50 : Nat) : Int) by decide) (rfl : 6 + 3 = 9) (xdt tt_X12_done 3 rfl) (fun hc11 => ?_) (fun hc11 => ?_)
  · replace h := (if_pos hc11).symm.trans h
    refine g_iconst hC (rfl : 50 + 1 = 51) (xdt tt_X12_done 27 rfl) ?_
    refine g_istore_n hC rfl (by decide) (lv' := [(2, vi 0), (0, vr E r0 0), (1, vi a1)]) rfl (rfl : 51 + 1 = 52) (xdt tt_X12_done 28 rfl) ?_
    refine g_sub [1, 2, 0] (lv' := [(0, vr E r0 0), (1, vi a1), (2, vi 0)]) rfl ?_
    exact k_X12_done_p4_0_b52 hC hZ hE hk0 _ _ _ _ h
  · replace h := (if_neg hc11).symm.trans h
    refine g_iconst hC (rfl : 9 + 1 = 10) (xdt tt_X12_done 4 rfl) ?_
    refine g_istore_n hC rfl (by decide) (lv' := [(2, vi 0), (0, vr E r0 0), (1, vi a1)]) rfl (rfl : 10 + 1 = 11) (xdt tt_X12_done 5 rfl) ?_
    refine g_sub [1, 2, 0] (lv' := [(0, vr E r0 0), (1, vi a1), (2, vi 0)]) rfl ?_
    exact k_X12_done_p4_0_b11 hC hZ hE hk0 _ _ _ _ h
def f_X12_undo_p4_0_b33 (r0 : Nat) : Nat → xSt → Int → Option (Int × xSt)
  | 0, _, _ => none
  | fuel + 1, S, x1 =>
    if wr 363 ≤ wr x1 then
      (some ((gI S r0 0 16), S))
    else
      (ckI ((363 * (gI S r0 0 16)) + x1) 2178 <|
      ckI x1 363 <|
      lt1 (wI S r0 6 (wr x1).toNat (gI S r0 11 (wr ((363 * (gI S r0 0 16)) + x1)).toNat)) fun S8 =>
      (f_X12_undo_p4_0_b33 r0 fuel) S8 (x1 + 1))
def f_X12_undo_p4_0_b13 (r0 : Nat) (S : xSt) (s0 : Int) : Option (Int × xSt) :=
  bd2 (f_X12_is_p4_0 S r0 s0) fun v3 S2 =>
  if ¬ wr v3 = 0 then
    (lt1 (wI S2 r0 0 16 ((gI S2 r0 0 16) - 1)) fun S5 =>
    f_X12_undo_p4_0_b33 r0 (fu S5) S5 0)
  else
    (some (0, S2))
def f_X12_undo_p4_0 (S : xSt) (r0 : Nat) : Option (Int × xSt) :=
  if wr (gI S r0 0 16) ≤ 0 then
    (f_X12_undo_p4_0_b13 r0 S 0)
  else
    (f_X12_undo_p4_0_b13 r0 S 1)
set_option maxRecDepth 100000 in
set_option maxHeartbeats 4000000 in
theorem k_X12_undo_p4_0_b33 {K : xCtx} {E : xE} {b : Nat} (hC : xOK K cX12_undo RX12 2 (rmE 2 b)) (hZ : xZ K) {v : Int} {S' : xSt} (hE : xEnd K E (some .int) (YQi E v S')) {r0 : Nat} (hk0 : xkd E r0 = 4) : ∀ (fuel : Nat) (S : xSt) (x1 : Int), f_X12_undo_p4_0_b33 r0 fuel S x1 = some (v, S') → WG K E 33 [(0, vr E r0 0), (1, vi x1)] [] S := by
  intro fuel
  induction fuel with
  | zero => intro S x1 h; cases h
  | succ fuel ih =>
    intro S x1 h
    rw [f_X12_undo_p4_0_b33] at h
    refine g_iload_n hC rfl 1 rfl (rfl : 33 + 1 = 34) (xdt tt_X12_undo 19 rfl) ?_
    refine g_sipush hC (by decide) (rfl : 34 + 3 = 37) (xdt tt_X12_undo 20 rfl) ?_
    refine g_icmp_ge hC (show ((37 : Nat) : Int) + 30 = ((67 : Nat) : Int) by decide) (rfl : 37 + 3 = 40) (xdt tt_X12_undo 21 rfl) (fun hc9 => ?_) (fun hc9 => ?_)
    · replace h := (if_pos hc9).symm.trans h
      refine g_aload_n hC rfl 0 rfl (rfl : 67 + 1 = 68) (xdt tt_X12_undo 37 rfl) ?_
      refine g_getI hC hk0 kclX12 ly4_0 16 (by decide) rfl q232 (rfl : 68 + 3 = 71) (xdt tt_X12_undo 38 rfl) ?_
      cases h
      exact g_iret hC hE (xdt tt_X12_undo 39 rfl)
    · replace h := (if_neg hc9).symm.trans h
      refine g_aload_n hC rfl 0 rfl (rfl : 40 + 1 = 41) (xdt tt_X12_undo 22 rfl) ?_
      refine g_getP hC hk0 kclX12 ly4_0 10 (by decide) (rfl : r0 + 0 = r0) rfl q201 (rfl : 41 + 3 = 44) (xdt tt_X12_undo 23 rfl) ?_
      refine g_iload_n hC rfl 1 rfl (rfl : 44 + 1 = 45) (xdt tt_X12_undo 24 rfl) ?_
      refine g_aload_n hC rfl 0 rfl (rfl : 45 + 1 = 46) (xdt tt_X12_undo 25 rfl) ?_
      refine g_getP hC hk0 kclX12 ly4_0 15 (by decide) (rfl : r0 + 0 = r0) rfl q206 (rfl : 46 + 3 = 49) (xdt tt_X12_undo 26 rfl) ?_
      refine g_sipush hC (by decide) (rfl : 49 + 3 = 52) (xdt tt_X12_undo 27 rfl) ?_
      refine g_aload_n hC rfl 0 rfl (rfl : 52 + 1 = 53) (xdt tt_X12_undo 28 rfl) ?_
      refine g_getI hC hk0 kclX12 ly4_0 16 (by decide) rfl q232 (rfl : 53 + 3 = 56) (xdt tt_X12_undo 29 rfl) ?_
      refine g_imul hC (rfl : 56 + 1 = 57) (xdt tt_X12_undo 30 rfl) ?_
      refine g_iload_n hC rfl 1 rfl (rfl : 57 + 1 = 58) (xdt tt_X12_undo 31 rfl) ?_
      refine g_iadd hC (rfl : 58 + 1 = 59) (xdt tt_X12_undo 32 rfl) ?_
      obtain ⟨hi6, h⟩ := ckI_i h
      refine g_iald hC hk0 ly4_11 hi6 (rfl : 59 + 1 = 60) (xdt tt_X12_undo 33 rfl) (k0 := (wr ((363 * (gI S r0 0 16)) + x1)).toNat) rfl ?_
      obtain ⟨hi7, h⟩ := ckI_i h
      obtain ⟨S8, hS8, h⟩ := lt1_i h
      refine g_iast hC hk0 ly4_6 hi7 rfl hS8 (rfl : 60 + 1 = 61) (xdt tt_X12_undo 34 rfl) ?_
      refine g_iinc hC 1 rfl (by decide) (lv' := [(1, vi (x1 + 1)), (0, vr E r0 0)]) rfl (rfl : 61 + 3 = 64) (xdt tt_X12_undo 35 rfl) ?_
      refine g_goto hC (show ((64 : Nat) : Int) + (-31) = ((33 : Nat) : Int) by decide) (xdt tt_X12_undo 36 rfl) ?_
      refine g_sub [1, 0] (lv' := [(0, vr E r0 0), (1, vi (x1 + 1))]) rfl ?_
      exact ih _ _ h
set_option maxRecDepth 100000 in
set_option maxHeartbeats 4000000 in
theorem k_X12_undo_p4_0_b13 {K : xCtx} {E : xE} {b : Nat} (hC : xOK K cX12_undo RX12 2 (rmE 2 b)) (hZ : xZ K) {v : Int} {S' : xSt} (hE : xEnd K E (some .int) (YQi E v S')) {r0 : Nat} (hk0 : xkd E r0 = 4) : ∀ (S : xSt) (s0 : Int), f_X12_undo_p4_0_b13 r0 S s0 = some (v, S') → WG K E 13 [(0, vr E r0 0)] [vi s0, vr E r0 0] S := by
  intro S s0 h
  unfold f_X12_undo_p4_0_b13 at h
  obtain ⟨v3, S2, hc1, h⟩ := bd2_i h
  refine g_callVz hC hZ hk0 kclX12 ly4_0 m_X12_is q655 (Nat.le_of_ble_eq_true rfl) [vi s0] rfl (fun l => c_X12_is_p4_0 l hk0 hc1) rfl (Nat.le_of_ble_eq_true rfl) (rfl : 13 + 3 = 16) (xdt tt_X12_undo 7 rfl) (fun hb4 => ?_)
  refine g_if_ne hC (show ((16 : Nat) : Int) + 5 = ((21 : Nat) : Int) by decide) (rfl : 16 + 3 = 19) (xdt tt_X12_undo 8 rfl) (fun hc10 => ?_) (fun hc10 => ?_)
  · replace h := (if_pos hc10).symm.trans h
    refine g_aload_n hC rfl 0 rfl (rfl : 21 + 1 = 22) (xdt tt_X12_undo 11 rfl) ?_
    refine g_aload_n hC rfl 0 rfl (rfl : 22 + 1 = 23) (xdt tt_X12_undo 12 rfl) ?_
    refine g_getI hC hk0 kclX12 ly4_0 16 (by decide) rfl q232 (rfl : 23 + 3 = 26) (xdt tt_X12_undo 13 rfl) ?_
    refine g_iconst hC (rfl : 26 + 1 = 27) (xdt tt_X12_undo 14 rfl) ?_
    refine g_isub hC (rfl : 27 + 1 = 28) (xdt tt_X12_undo 15 rfl) ?_
    obtain ⟨S5, hS5, h⟩ := lt1_i h
    refine g_putI hC hk0 kclX12 ly4_0 16 (by decide) rfl rfl rfl q232 hS5 (rfl : 28 + 3 = 31) (xdt tt_X12_undo 16 rfl) ?_
    refine g_iconst hC (rfl : 31 + 1 = 32) (xdt tt_X12_undo 17 rfl) ?_
    refine g_istore_n hC rfl (by decide) (lv' := [(1, vi 0), (0, vr E r0 0)]) rfl (rfl : 32 + 1 = 33) (xdt tt_X12_undo 18 rfl) ?_
    refine g_sub [1, 0] (lv' := [(0, vr E r0 0), (1, vi 0)]) rfl ?_
    exact k_X12_undo_p4_0_b33 hC hZ hE hk0 _ _ _ h
  · replace h := (if_neg hc10).symm.trans h
    refine g_iconst hC (rfl : 19 + 1 = 20) (xdt tt_X12_undo 9 rfl) ?_
    cases h
    exact g_iret hC hE (xdt tt_X12_undo 10 rfl)
set_option maxRecDepth 100000 in
set_option maxHeartbeats 4000000 in
theorem c_X12_undo_p4_0 (l : Launch) {E : xE} {S S' : xSt} {r0 : Nat} (hk0 : xkd E r0 = 4) {v : Int} (h : f_X12_undo_p4_0 S r0 = some (v, S')) : Met l yX12_undo (xws yX12_undo cX12_undo 2 (some .int)) (rmD 2) (YPc E [vr E r0 0] S) (YQi E v S') 0 0 (xA E) := by
  unfold f_X12_undo_p4_0 at h
  refine met_i (by decide +kernel) (Nat.le_of_ble_eq_true rfl) (fun K hC hZ hE => ?_)
  have hC : xOK K cX12_undo RX12 2 (rmE 2 0) := hC
  show WG K E 0 [(0, vr E r0 0)] [] S
  refine g_aload_n hC rfl 0 rfl (rfl : 0 + 1 = 1) (xdt tt_X12_undo 0 rfl) ?_
  refine g_aload_n hC rfl 0 rfl (rfl : 1 + 1 = 2) (xdt tt_X12_undo 1 rfl) ?_
  refine g_getI hC hk0 kclX12 ly4_0 16 (by decide) rfl q232 (rfl : 2 + 3 = 5) (xdt tt_X12_undo 2 rfl) ?_
  refine g_if_le hC (show ((5 : Nat) : Int) + 7 = ((12 : Nat) : Int) by decide) (rfl : 5 + 3 = 8) (xdt tt_X12_undo 3 rfl) (fun hc11 => ?_) (fun hc11 => ?_)
  · replace h := (if_pos hc11).symm.trans h
    refine g_iconst hC (rfl : 12 + 1 = 13) (xdt tt_X12_undo 6 rfl) ?_
    refine g_sub [0] (lv' := [(0, vr E r0 0)]) rfl ?_
    exact k_X12_undo_p4_0_b13 hC hZ hE hk0 _ _ h
  · replace h := (if_neg hc11).symm.trans h
    refine g_iconst hC (rfl : 8 + 1 = 9) (xdt tt_X12_undo 4 rfl) ?_
    refine g_goto hC (show ((9 : Nat) : Int) + 4 = ((13 : Nat) : Int) by decide) (xdt tt_X12_undo 5 rfl) ?_
    refine g_sub [0] (lv' := [(0, vr E r0 0)]) rfl ?_
    exact k_X12_undo_p4_0_b13 hC hZ hE hk0 _ _ h
def f_X12_copies_p4_6_4_10_b2 (r0 : Nat) (r1 : Nat) : Nat → xSt → Int → Option (xSt)
  | 0, _, _ => none
  | fuel + 1, S, x2 =>
    if wr 363 ≤ wr x2 then
      (some S)
    else
      (ckI x2 363 <|
      ckI x2 363 <|
      lt1 (wI S r1 10 (wr x2).toNat (gI S r0 6 (wr x2).toNat)) fun S3 =>
      (f_X12_copies_p4_6_4_10_b2 r0 r1 fuel) S3 (x2 + 1))
def f_X12_copies_p4_6_4_10 (S : xSt) (r0 : Nat) (r1 : Nat) : Option (xSt) :=
  f_X12_copies_p4_6_4_10_b2 r0 r1 (fu S) S 0
set_option maxRecDepth 100000 in
set_option maxHeartbeats 4000000 in
theorem k_X12_copies_p4_6_4_10_b2 {K : xCtx} {E : xE} {b : Nat} (hC : xOK K cX12_copies RX12 3 (rmE 1 b)) (hZ : xZ K) {S' : xSt} (hE : xEnd K E none (YQv E S')) {r0 : Nat} {r1 : Nat} (hk0 : xkd E r0 = 4) (hk1 : xkd E r1 = 4) : ∀ (fuel : Nat) (S : xSt) (x2 : Int), f_X12_copies_p4_6_4_10_b2 r0 r1 fuel S x2 = some S' → WG K E 2 [(0, vr E r0 6), (1, vr E r1 10), (2, vi x2)] [] S := by
  intro fuel
  induction fuel with
  | zero => intro S x2 h; cases h
  | succ fuel ih =>
    intro S x2 h
    rw [f_X12_copies_p4_6_4_10_b2] at h
    refine g_iload_n hC rfl 2 rfl (rfl : 2 + 1 = 3) (xdt tt_X12_copies 2 rfl) ?_
    refine g_sipush hC (by decide) (rfl : 3 + 3 = 6) (xdt tt_X12_copies 3 rfl) ?_
    refine g_icmp_ge hC (show ((6 : Nat) : Int) + 15 = ((21 : Nat) : Int) by decide) (rfl : 6 + 3 = 9) (xdt tt_X12_copies 4 rfl) (fun hc4 => ?_) (fun hc4 => ?_)
    · replace h := (if_pos hc4).symm.trans h
      cases h
      exact g_vret hC hE (xdt tt_X12_copies 13 rfl)
    · replace h := (if_neg hc4).symm.trans h
      refine g_aload_n hC rfl 1 rfl (rfl : 9 + 1 = 10) (xdt tt_X12_copies 5 rfl) ?_
      refine g_iload_n hC rfl 2 rfl (rfl : 10 + 1 = 11) (xdt tt_X12_copies 6 rfl) ?_
      refine g_aload_n hC rfl 0 rfl (rfl : 11 + 1 = 12) (xdt tt_X12_copies 7 rfl) ?_
      refine g_iload_n hC rfl 2 rfl (rfl : 12 + 1 = 13) (xdt tt_X12_copies 8 rfl) ?_
      obtain ⟨hi1, h⟩ := ckI_i h
      refine g_iald hC hk0 ly4_6 hi1 (rfl : 13 + 1 = 14) (xdt tt_X12_copies 9 rfl) (k0 := (wr x2).toNat) rfl ?_
      obtain ⟨hi2, h⟩ := ckI_i h
      obtain ⟨S3, hS3, h⟩ := lt1_i h
      refine g_iast hC hk1 ly4_10 hi2 rfl hS3 (rfl : 14 + 1 = 15) (xdt tt_X12_copies 10 rfl) ?_
      refine g_iinc hC 2 rfl (by decide) (lv' := [(2, vi (x2 + 1)), (0, vr E r0 6), (1, vr E r1 10)]) rfl (rfl : 15 + 3 = 18) (xdt tt_X12_copies 11 rfl) ?_
      refine g_goto hC (show ((18 : Nat) : Int) + (-16) = ((2 : Nat) : Int) by decide) (xdt tt_X12_copies 12 rfl) ?_
      refine g_sub [1, 2, 0] (lv' := [(0, vr E r0 6), (1, vr E r1 10), (2, vi (x2 + 1))]) rfl ?_
      exact ih _ _ h
set_option maxRecDepth 100000 in
set_option maxHeartbeats 4000000 in
theorem c_X12_copies_p4_6_4_10 (l : Launch) {E : xE} {S S' : xSt} {r0 : Nat} {r1 : Nat} (hk0 : xkd E r0 = 4) (hk1 : xkd E r1 = 4) (h : f_X12_copies_p4_6_4_10 S r0 r1 = some S') : Met l yX12_copies (xws yX12_copies cX12_copies 3 none) (rmD 1) (YPc E [vr E r0 6, vr E r1 10] S) (YQv E S') 0 0 (xA E) := by
  unfold f_X12_copies_p4_6_4_10 at h
  refine met_v (by decide +kernel) (Nat.le_of_ble_eq_true rfl) (fun K hC hZ hE => ?_)
  have hC : xOK K cX12_copies RX12 3 (rmE 1 0) := hC
  show WG K E 0 [(0, vr E r0 6), (1, vr E r1 10)] [] S
  refine g_iconst hC (rfl : 0 + 1 = 1) (xdt tt_X12_copies 0 rfl) ?_
  refine g_istore_n hC rfl (by decide) (lv' := [(2, vi 0), (0, vr E r0 6), (1, vr E r1 10)]) rfl (rfl : 1 + 1 = 2) (xdt tt_X12_copies 1 rfl) ?_
  refine g_sub [1, 2, 0] (lv' := [(0, vr E r0 6), (1, vr E r1 10), (2, vi 0)]) rfl ?_
  exact k_X12_copies_p4_6_4_10_b2 hC hZ hE hk0 hk1 _ _ _ h
def f_X12_saveState_p4_0 (S : xSt) (r0 : Nat) : Option (Int × xSt) :=
  lt1 (wI S r0 0 0 0) fun S1 =>
  bd (f_X12_copies_p4_6_4_10 S1 r0 r0) fun S3 =>
  lt1 (wI S3 r0 0 17 1) fun S4 =>
  some ((gI S4 r0 6 16), S4)
set_option maxRecDepth 100000 in
set_option maxHeartbeats 4000000 in
theorem c_X12_saveState_p4_0 (l : Launch) {E : xE} {S S' : xSt} {r0 : Nat} (hk0 : xkd E r0 = 4) {v : Int} (h : f_X12_saveState_p4_0 S r0 = some (v, S')) : Met l yX12_saveState (xws yX12_saveState cX12_saveState 1 (some .int)) (rmD 2) (YPc E [vr E r0 0] S) (YQi E v S') 0 0 (xA E) := by
  unfold f_X12_saveState_p4_0 at h
  refine met_i (by decide +kernel) (Nat.le_of_ble_eq_true rfl) (fun K hC hZ hE => ?_)
  have hC : xOK K cX12_saveState RX12 1 (rmE 2 0) := hC
  show WG K E 0 [(0, vr E r0 0)] [] S
  refine g_aload_n hC rfl 0 rfl (rfl : 0 + 1 = 1) (xdt tt_X12_saveState 0 rfl) ?_
  refine g_iconst hC (rfl : 1 + 1 = 2) (xdt tt_X12_saveState 1 rfl) ?_
  obtain ⟨S1, hS1, h⟩ := lt1_i h
  refine g_putI hC hk0 kclX12 ly4_0 0 (by decide) rfl rfl rfl q259 hS1 (rfl : 2 + 3 = 5) (xdt tt_X12_saveState 2 rfl) ?_
  refine g_aload_n hC rfl 0 rfl (rfl : 5 + 1 = 6) (xdt tt_X12_saveState 3 rfl) ?_
  refine g_getP hC hk0 kclX12 ly4_0 10 (by decide) (rfl : r0 + 0 = r0) rfl q201 (rfl : 6 + 3 = 9) (xdt tt_X12_saveState 4 rfl) ?_
  refine g_aload_n hC rfl 0 rfl (rfl : 9 + 1 = 10) (xdt tt_X12_saveState 5 rfl) ?_
  refine g_getP hC hk0 kclX12 ly4_0 14 (by decide) (rfl : r0 + 0 = r0) rfl q205 (rfl : 10 + 3 = 13) (xdt tt_X12_saveState 6 rfl) ?_
  obtain ⟨S3, hc2, h⟩ := bd_i h
  refine g_callSv hC hZ m_X12_copies q243 (Nat.le_of_ble_eq_true rfl) [vr E r0 6, vr E r0 10] rfl (fun l => c_X12_copies_p4_6_4_10 l hk0 hk0 hc2) rfl (Nat.le_of_ble_eq_true rfl) (rfl : 13 + 3 = 16) (xdt tt_X12_saveState 7 rfl) ?_
  refine g_aload_n hC rfl 0 rfl (rfl : 16 + 1 = 17) (xdt tt_X12_saveState 8 rfl) ?_
  refine g_iconst hC (rfl : 17 + 1 = 18) (xdt tt_X12_saveState 9 rfl) ?_
  obtain ⟨S4, hS4, h⟩ := lt1_i h
  refine g_putZ hC hk0 kclX12 ly4_0 17 (by decide) rfl rfl rfl q233 (Or.inr rfl) hS4 (rfl : 18 + 3 = 21) (xdt tt_X12_saveState 10 rfl) ?_
  refine g_aload_n hC rfl 0 rfl (rfl : 21 + 1 = 22) (xdt tt_X12_saveState 11 rfl) ?_
  refine g_getP hC hk0 kclX12 ly4_0 10 (by decide) (rfl : r0 + 0 = r0) rfl q201 (rfl : 22 + 3 = 25) (xdt tt_X12_saveState 12 rfl) ?_
  refine g_bipush hC (by decide) (rfl : 25 + 2 = 27) (xdt tt_X12_saveState 13 rfl) ?_
  refine g_iald hC hk0 ly4_6 (by decide) (rfl : 27 + 1 = 28) (xdt tt_X12_saveState 14 rfl) (k0 := 16) (by decide) ?_
  cases h
  exact g_iret hC hE (xdt tt_X12_saveState 15 rfl)
def f_X12_copies_p4_10_4_6_b2 (r0 : Nat) (r1 : Nat) : Nat → xSt → Int → Option (xSt)
  | 0, _, _ => none
  | fuel + 1, S, x2 =>
    if wr 363 ≤ wr x2 then
      (some S)
    else
      (ckI x2 363 <|
      ckI x2 363 <|
      lt1 (wI S r1 6 (wr x2).toNat (gI S r0 10 (wr x2).toNat)) fun S3 =>
      (f_X12_copies_p4_10_4_6_b2 r0 r1 fuel) S3 (x2 + 1))
def f_X12_copies_p4_10_4_6 (S : xSt) (r0 : Nat) (r1 : Nat) : Option (xSt) :=
  f_X12_copies_p4_10_4_6_b2 r0 r1 (fu S) S 0
set_option maxRecDepth 100000 in
set_option maxHeartbeats 4000000 in
theorem k_X12_copies_p4_10_4_6_b2 {K : xCtx} {E : xE} {b : Nat} (hC : xOK K cX12_copies RX12 3 (rmE 1 b)) (hZ : xZ K) {S' : xSt} (hE : xEnd K E none (YQv E S')) {r0 : Nat} {r1 : Nat} (hk0 : xkd E r0 = 4) (hk1 : xkd E r1 = 4) : ∀ (fuel : Nat) (S : xSt) (x2 : Int), f_X12_copies_p4_10_4_6_b2 r0 r1 fuel S x2 = some S' → WG K E 2 [(0, vr E r0 10), (1, vr E r1 6), (2, vi x2)] [] S := by
  intro fuel
  induction fuel with
  | zero => intro S x2 h; cases h
  | succ fuel ih =>
    intro S x2 h
    rw [f_X12_copies_p4_10_4_6_b2] at h
    refine g_iload_n hC rfl 2 rfl (rfl : 2 + 1 = 3) (xdt tt_X12_copies 2 rfl) ?_
    refine g_sipush hC (by decide) (rfl : 3 + 3 = 6) (xdt tt_X12_copies 3 rfl) ?_
    refine g_icmp_ge hC (show ((6 : Nat) : Int) + 15 = ((21 : Nat) : Int) by decide) (rfl : 6 + 3 = 9) (xdt tt_X12_copies 4 rfl) (fun hc4 => ?_) (fun hc4 => ?_)
    · replace h := (if_pos hc4).symm.trans h
      cases h
      exact g_vret hC hE (xdt tt_X12_copies 13 rfl)
    · replace h := (if_neg hc4).symm.trans h
      refine g_aload_n hC rfl 1 rfl (rfl : 9 + 1 = 10) (xdt tt_X12_copies 5 rfl) ?_
      refine g_iload_n hC rfl 2 rfl (rfl : 10 + 1 = 11) (xdt tt_X12_copies 6 rfl) ?_
      refine g_aload_n hC rfl 0 rfl (rfl : 11 + 1 = 12) (xdt tt_X12_copies 7 rfl) ?_
      refine g_iload_n hC rfl 2 rfl (rfl : 12 + 1 = 13) (xdt tt_X12_copies 8 rfl) ?_
      obtain ⟨hi1, h⟩ := ckI_i h
      refine g_iald hC hk0 ly4_10 hi1 (rfl : 13 + 1 = 14) (xdt tt_X12_copies 9 rfl) (k0 := (wr x2).toNat) rfl ?_
      obtain ⟨hi2, h⟩ := ckI_i h
      obtain ⟨S3, hS3, h⟩ := lt1_i h
      refine g_iast hC hk1 ly4_6 hi2 rfl hS3 (rfl : 14 + 1 = 15) (xdt tt_X12_copies 10 rfl) ?_
      refine g_iinc hC 2 rfl (by decide) (lv' := [(2, vi (x2 + 1)), (0, vr E r0 10), (1, vr E r1 6)]) rfl (rfl : 15 + 3 = 18) (xdt tt_X12_copies 11 rfl) ?_
      refine g_goto hC (show ((18 : Nat) : Int) + (-16) = ((2 : Nat) : Int) by decide) (xdt tt_X12_copies 12 rfl) ?_
      refine g_sub [1, 2, 0] (lv' := [(0, vr E r0 10), (1, vr E r1 6), (2, vi (x2 + 1))]) rfl ?_
      exact ih _ _ h
set_option maxRecDepth 100000 in
set_option maxHeartbeats 4000000 in
theorem c_X12_copies_p4_10_4_6 (l : Launch) {E : xE} {S S' : xSt} {r0 : Nat} {r1 : Nat} (hk0 : xkd E r0 = 4) (hk1 : xkd E r1 = 4) (h : f_X12_copies_p4_10_4_6 S r0 r1 = some S') : Met l yX12_copies (xws yX12_copies cX12_copies 3 none) (rmD 1) (YPc E [vr E r0 10, vr E r1 6] S) (YQv E S') 0 0 (xA E) := by
  unfold f_X12_copies_p4_10_4_6 at h
  refine met_v (by decide +kernel) (Nat.le_of_ble_eq_true rfl) (fun K hC hZ hE => ?_)
  have hC : xOK K cX12_copies RX12 3 (rmE 1 0) := hC
  show WG K E 0 [(0, vr E r0 10), (1, vr E r1 6)] [] S
  refine g_iconst hC (rfl : 0 + 1 = 1) (xdt tt_X12_copies 0 rfl) ?_
  refine g_istore_n hC rfl (by decide) (lv' := [(2, vi 0), (0, vr E r0 10), (1, vr E r1 6)]) rfl (rfl : 1 + 1 = 2) (xdt tt_X12_copies 1 rfl) ?_
  refine g_sub [1, 2, 0] (lv' := [(0, vr E r0 10), (1, vr E r1 6), (2, vi 0)]) rfl ?_
  exact k_X12_copies_p4_10_4_6_b2 hC hZ hE hk0 hk1 _ _ _ h
def f_X12_restoreState_p4_0 (S : xSt) (r0 : Nat) : Option (Int × xSt) :=
  bd2 (f_X12_is_p4_0 S r0 (gI S r0 0 17)) fun v3 S2 =>
  if ¬ wr v3 = 0 then
    (bd (f_X12_copies_p4_10_4_6 S2 r0 r0) fun S6 =>
    lt1 (wI S6 r0 0 16 0) fun S7 =>
    some ((gI S7 r0 6 16), S7))
  else
    (some (0, S2))
set_option maxRecDepth 100000 in
set_option maxHeartbeats 4000000 in
theorem c_X12_restoreState_p4_0 (l : Launch) {E : xE} {S S' : xSt} {r0 : Nat} (hk0 : xkd E r0 = 4) {v : Int} (h : f_X12_restoreState_p4_0 S r0 = some (v, S')) : Met l yX12_restoreState (xws yX12_restoreState cX12_restoreState 1 (some .int)) (rmD 2) (YPc E [vr E r0 0] S) (YQi E v S') 0 0 (xA E) := by
  unfold f_X12_restoreState_p4_0 at h
  refine met_i (by decide +kernel) (Nat.le_of_ble_eq_true rfl) (fun K hC hZ hE => ?_)
  have hC : xOK K cX12_restoreState RX12 1 (rmE 2 0) := hC
  show WG K E 0 [(0, vr E r0 0)] [] S
  refine g_aload_n hC rfl 0 rfl (rfl : 0 + 1 = 1) (xdt tt_X12_restoreState 0 rfl) ?_
  refine g_aload_n hC rfl 0 rfl (rfl : 1 + 1 = 2) (xdt tt_X12_restoreState 1 rfl) ?_
  refine g_getI hC hk0 kclX12 ly4_0 17 (by decide) rfl q233 (rfl : 2 + 3 = 5) (xdt tt_X12_restoreState 2 rfl) ?_
  obtain ⟨v3, S2, hc1, h⟩ := bd2_i h
  refine g_callVz hC hZ hk0 kclX12 ly4_0 m_X12_is q655 (Nat.le_of_ble_eq_true rfl) [vi (gI S r0 0 17)] rfl (fun l => c_X12_is_p4_0 l hk0 hc1) rfl (Nat.le_of_ble_eq_true rfl) (rfl : 5 + 3 = 8) (xdt tt_X12_restoreState 3 rfl) (fun hb4 => ?_)
  refine g_if_ne hC (show ((8 : Nat) : Int) + 5 = ((13 : Nat) : Int) by decide) (rfl : 8 + 3 = 11) (xdt tt_X12_restoreState 4 rfl) (fun hc8 => ?_) (fun hc8 => ?_)
  · replace h := (if_pos hc8).symm.trans h
    refine g_aload_n hC rfl 0 rfl (rfl : 13 + 1 = 14) (xdt tt_X12_restoreState 7 rfl) ?_
    refine g_getP hC hk0 kclX12 ly4_0 14 (by decide) (rfl : r0 + 0 = r0) rfl q205 (rfl : 14 + 3 = 17) (xdt tt_X12_restoreState 8 rfl) ?_
    refine g_aload_n hC rfl 0 rfl (rfl : 17 + 1 = 18) (xdt tt_X12_restoreState 9 rfl) ?_
    refine g_getP hC hk0 kclX12 ly4_0 10 (by decide) (rfl : r0 + 0 = r0) rfl q201 (rfl : 18 + 3 = 21) (xdt tt_X12_restoreState 10 rfl) ?_
    obtain ⟨S6, hc5, h⟩ := bd_i h
    refine g_callSv hC hZ m_X12_copies q243 (Nat.le_of_ble_eq_true rfl) [vr E r0 10, vr E r0 6] rfl (fun l => c_X12_copies_p4_10_4_6 l hk0 hk0 hc5) rfl (Nat.le_of_ble_eq_true rfl) (rfl : 21 + 3 = 24) (xdt tt_X12_restoreState 11 rfl) ?_
    refine g_aload_n hC rfl 0 rfl (rfl : 24 + 1 = 25) (xdt tt_X12_restoreState 12 rfl) ?_
    refine g_iconst hC (rfl : 25 + 1 = 26) (xdt tt_X12_restoreState 13 rfl) ?_
    obtain ⟨S7, hS7, h⟩ := lt1_i h
    refine g_putI hC hk0 kclX12 ly4_0 16 (by decide) rfl rfl rfl q232 hS7 (rfl : 26 + 3 = 29) (xdt tt_X12_restoreState 14 rfl) ?_
    refine g_aload_n hC rfl 0 rfl (rfl : 29 + 1 = 30) (xdt tt_X12_restoreState 15 rfl) ?_
    refine g_getP hC hk0 kclX12 ly4_0 10 (by decide) (rfl : r0 + 0 = r0) rfl q201 (rfl : 30 + 3 = 33) (xdt tt_X12_restoreState 16 rfl) ?_
    refine g_bipush hC (by decide) (rfl : 33 + 2 = 35) (xdt tt_X12_restoreState 17 rfl) ?_
    refine g_iald hC hk0 ly4_6 (by decide) (rfl : 35 + 1 = 36) (xdt tt_X12_restoreState 18 rfl) (k0 := 16) (by decide) ?_
    cases h
    exact g_iret hC hE (xdt tt_X12_restoreState 19 rfl)
  · replace h := (if_neg hc8).symm.trans h
    refine g_iconst hC (rfl : 11 + 1 = 12) (xdt tt_X12_restoreState 5 rfl) ?_
    cases h
    exact g_iret hC hE (xdt tt_X12_restoreState 6 rfl)
def f_X12_copies_p4_6_4_9_b2 (r0 : Nat) (r1 : Nat) : Nat → xSt → Int → Option (xSt)
  | 0, _, _ => none
  | fuel + 1, S, x2 =>
    if wr 363 ≤ wr x2 then
      (some S)
    else
      (ckI x2 363 <|
      ckI x2 363 <|
      lt1 (wI S r1 9 (wr x2).toNat (gI S r0 6 (wr x2).toNat)) fun S3 =>
      (f_X12_copies_p4_6_4_9_b2 r0 r1 fuel) S3 (x2 + 1))
def f_X12_copies_p4_6_4_9 (S : xSt) (r0 : Nat) (r1 : Nat) : Option (xSt) :=
  f_X12_copies_p4_6_4_9_b2 r0 r1 (fu S) S 0
set_option maxRecDepth 100000 in
set_option maxHeartbeats 4000000 in
theorem k_X12_copies_p4_6_4_9_b2 {K : xCtx} {E : xE} {b : Nat} (hC : xOK K cX12_copies RX12 3 (rmE 1 b)) (hZ : xZ K) {S' : xSt} (hE : xEnd K E none (YQv E S')) {r0 : Nat} {r1 : Nat} (hk0 : xkd E r0 = 4) (hk1 : xkd E r1 = 4) : ∀ (fuel : Nat) (S : xSt) (x2 : Int), f_X12_copies_p4_6_4_9_b2 r0 r1 fuel S x2 = some S' → WG K E 2 [(0, vr E r0 6), (1, vr E r1 9), (2, vi x2)] [] S := by
  intro fuel
  induction fuel with
  | zero => intro S x2 h; cases h
  | succ fuel ih =>
    intro S x2 h
    rw [f_X12_copies_p4_6_4_9_b2] at h
    refine g_iload_n hC rfl 2 rfl (rfl : 2 + 1 = 3) (xdt tt_X12_copies 2 rfl) ?_
    refine g_sipush hC (by decide) (rfl : 3 + 3 = 6) (xdt tt_X12_copies 3 rfl) ?_
    refine g_icmp_ge hC (show ((6 : Nat) : Int) + 15 = ((21 : Nat) : Int) by decide) (rfl : 6 + 3 = 9) (xdt tt_X12_copies 4 rfl) (fun hc4 => ?_) (fun hc4 => ?_)
    · replace h := (if_pos hc4).symm.trans h
      cases h
      exact g_vret hC hE (xdt tt_X12_copies 13 rfl)
    · replace h := (if_neg hc4).symm.trans h
      refine g_aload_n hC rfl 1 rfl (rfl : 9 + 1 = 10) (xdt tt_X12_copies 5 rfl) ?_
      refine g_iload_n hC rfl 2 rfl (rfl : 10 + 1 = 11) (xdt tt_X12_copies 6 rfl) ?_
      refine g_aload_n hC rfl 0 rfl (rfl : 11 + 1 = 12) (xdt tt_X12_copies 7 rfl) ?_
      refine g_iload_n hC rfl 2 rfl (rfl : 12 + 1 = 13) (xdt tt_X12_copies 8 rfl) ?_
      obtain ⟨hi1, h⟩ := ckI_i h
      refine g_iald hC hk0 ly4_6 hi1 (rfl : 13 + 1 = 14) (xdt tt_X12_copies 9 rfl) (k0 := (wr x2).toNat) rfl ?_
      obtain ⟨hi2, h⟩ := ckI_i h
      obtain ⟨S3, hS3, h⟩ := lt1_i h
      refine g_iast hC hk1 ly4_9 hi2 rfl hS3 (rfl : 14 + 1 = 15) (xdt tt_X12_copies 10 rfl) ?_
      refine g_iinc hC 2 rfl (by decide) (lv' := [(2, vi (x2 + 1)), (0, vr E r0 6), (1, vr E r1 9)]) rfl (rfl : 15 + 3 = 18) (xdt tt_X12_copies 11 rfl) ?_
      refine g_goto hC (show ((18 : Nat) : Int) + (-16) = ((2 : Nat) : Int) by decide) (xdt tt_X12_copies 12 rfl) ?_
      refine g_sub [1, 2, 0] (lv' := [(0, vr E r0 6), (1, vr E r1 9), (2, vi (x2 + 1))]) rfl ?_
      exact ih _ _ h
set_option maxRecDepth 100000 in
set_option maxHeartbeats 4000000 in
theorem c_X12_copies_p4_6_4_9 (l : Launch) {E : xE} {S S' : xSt} {r0 : Nat} {r1 : Nat} (hk0 : xkd E r0 = 4) (hk1 : xkd E r1 = 4) (h : f_X12_copies_p4_6_4_9 S r0 r1 = some S') : Met l yX12_copies (xws yX12_copies cX12_copies 3 none) (rmD 1) (YPc E [vr E r0 6, vr E r1 9] S) (YQv E S') 0 0 (xA E) := by
  unfold f_X12_copies_p4_6_4_9 at h
  refine met_v (by decide +kernel) (Nat.le_of_ble_eq_true rfl) (fun K hC hZ hE => ?_)
  have hC : xOK K cX12_copies RX12 3 (rmE 1 0) := hC
  show WG K E 0 [(0, vr E r0 6), (1, vr E r1 9)] [] S
  refine g_iconst hC (rfl : 0 + 1 = 1) (xdt tt_X12_copies 0 rfl) ?_
  refine g_istore_n hC rfl (by decide) (lv' := [(2, vi 0), (0, vr E r0 6), (1, vr E r1 9)]) rfl (rfl : 1 + 1 = 2) (xdt tt_X12_copies 1 rfl) ?_
  refine g_sub [1, 2, 0] (lv' := [(0, vr E r0 6), (1, vr E r1 9), (2, vi 0)]) rfl ?_
  exact k_X12_copies_p4_6_4_9_b2 hC hZ hE hk0 hk1 _ _ _ h
def f_X12_tries_p4_0 (S : xSt) (r0 : Nat) : Option (xSt) :=
  bd (f_X12_copies_p4_6_4_9 S r0 r0) fun S2 =>
  some S2
set_option maxRecDepth 100000 in
set_option maxHeartbeats 4000000 in
theorem c_X12_tries_p4_0 (l : Launch) {E : xE} {S S' : xSt} {r0 : Nat} (hk0 : xkd E r0 = 4) (h : f_X12_tries_p4_0 S r0 = some S') : Met l yX12_tries (xws yX12_tries cX12_tries 1 none) (rmD 2) (YPc E [vr E r0 0] S) (YQv E S') 0 0 (xA E) := by
  unfold f_X12_tries_p4_0 at h
  refine met_v (by decide +kernel) (Nat.le_of_ble_eq_true rfl) (fun K hC hZ hE => ?_)
  have hC : xOK K cX12_tries RX12 1 (rmE 2 0) := hC
  show WG K E 0 [(0, vr E r0 0)] [] S
  refine g_aload_n hC rfl 0 rfl (rfl : 0 + 1 = 1) (xdt tt_X12_tries 0 rfl) ?_
  refine g_getP hC hk0 kclX12 ly4_0 10 (by decide) (rfl : r0 + 0 = r0) rfl q201 (rfl : 1 + 3 = 4) (xdt tt_X12_tries 1 rfl) ?_
  refine g_aload_n hC rfl 0 rfl (rfl : 4 + 1 = 5) (xdt tt_X12_tries 2 rfl) ?_
  refine g_getP hC hk0 kclX12 ly4_0 13 (by decide) (rfl : r0 + 0 = r0) rfl q204 (rfl : 5 + 3 = 8) (xdt tt_X12_tries 3 rfl) ?_
  obtain ⟨S2, hc1, h⟩ := bd_i h
  refine g_callSv hC hZ m_X12_copies q243 (Nat.le_of_ble_eq_true rfl) [vr E r0 6, vr E r0 9] rfl (fun l => c_X12_copies_p4_6_4_9 l hk0 hk0 hc1) rfl (Nat.le_of_ble_eq_true rfl) (rfl : 8 + 3 = 11) (xdt tt_X12_tries 4 rfl) ?_
  cases h
  exact g_vret hC hE (xdt tt_X12_tries 5 rfl)
def f_X12_copies_p4_9_4_6_b2 (r0 : Nat) (r1 : Nat) : Nat → xSt → Int → Option (xSt)
  | 0, _, _ => none
  | fuel + 1, S, x2 =>
    if wr 363 ≤ wr x2 then
      (some S)
    else
      (ckI x2 363 <|
      ckI x2 363 <|
      lt1 (wI S r1 6 (wr x2).toNat (gI S r0 9 (wr x2).toNat)) fun S3 =>
      (f_X12_copies_p4_9_4_6_b2 r0 r1 fuel) S3 (x2 + 1))
def f_X12_copies_p4_9_4_6 (S : xSt) (r0 : Nat) (r1 : Nat) : Option (xSt) :=
  f_X12_copies_p4_9_4_6_b2 r0 r1 (fu S) S 0
set_option maxRecDepth 100000 in
set_option maxHeartbeats 4000000 in
theorem k_X12_copies_p4_9_4_6_b2 {K : xCtx} {E : xE} {b : Nat} (hC : xOK K cX12_copies RX12 3 (rmE 1 b)) (hZ : xZ K) {S' : xSt} (hE : xEnd K E none (YQv E S')) {r0 : Nat} {r1 : Nat} (hk0 : xkd E r0 = 4) (hk1 : xkd E r1 = 4) : ∀ (fuel : Nat) (S : xSt) (x2 : Int), f_X12_copies_p4_9_4_6_b2 r0 r1 fuel S x2 = some S' → WG K E 2 [(0, vr E r0 9), (1, vr E r1 6), (2, vi x2)] [] S := by
  intro fuel
  induction fuel with
  | zero => intro S x2 h; cases h
  | succ fuel ih =>
    intro S x2 h
    rw [f_X12_copies_p4_9_4_6_b2] at h
    refine g_iload_n hC rfl 2 rfl (rfl : 2 + 1 = 3) (xdt tt_X12_copies 2 rfl) ?_
    refine g_sipush hC (by decide) (rfl : 3 + 3 = 6) (xdt tt_X12_copies 3 rfl) ?_
    refine g_icmp_ge hC (show ((6 : Nat) : Int) + 15 = ((21 : Nat) : Int) by decide) (rfl : 6 + 3 = 9) (xdt tt_X12_copies 4 rfl) (fun hc4 => ?_) (fun hc4 => ?_)
    · replace h := (if_pos hc4).symm.trans h
      cases h
      exact g_vret hC hE (xdt tt_X12_copies 13 rfl)
    · replace h := (if_neg hc4).symm.trans h
      refine g_aload_n hC rfl 1 rfl (rfl : 9 + 1 = 10) (xdt tt_X12_copies 5 rfl) ?_
      refine g_iload_n hC rfl 2 rfl (rfl : 10 + 1 = 11) (xdt tt_X12_copies 6 rfl) ?_
      refine g_aload_n hC rfl 0 rfl (rfl : 11 + 1 = 12) (xdt tt_X12_copies 7 rfl) ?_
      refine g_iload_n hC rfl 2 rfl (rfl : 12 + 1 = 13) (xdt tt_X12_copies 8 rfl) ?_
      obtain ⟨hi1, h⟩ := ckI_i h
      refine g_iald hC hk0 ly4_9 hi1 (rfl : 13 + 1 = 14) (xdt tt_X12_copies 9 rfl) (k0 := (wr x2).toNat) rfl ?_
      obtain ⟨hi2, h⟩ := ckI_i h
      obtain ⟨S3, hS3, h⟩ := lt1_i h
      refine g_iast hC hk1 ly4_6 hi2 rfl hS3 (rfl : 14 + 1 = 15) (xdt tt_X12_copies 10 rfl) ?_
      refine g_iinc hC 2 rfl (by decide) (lv' := [(2, vi (x2 + 1)), (0, vr E r0 9), (1, vr E r1 6)]) rfl (rfl : 15 + 3 = 18) (xdt tt_X12_copies 11 rfl) ?_
      refine g_goto hC (show ((18 : Nat) : Int) + (-16) = ((2 : Nat) : Int) by decide) (xdt tt_X12_copies 12 rfl) ?_
      refine g_sub [1, 2, 0] (lv' := [(0, vr E r0 9), (1, vr E r1 6), (2, vi (x2 + 1))]) rfl ?_
      exact ih _ _ h
set_option maxRecDepth 100000 in
set_option maxHeartbeats 4000000 in
theorem c_X12_copies_p4_9_4_6 (l : Launch) {E : xE} {S S' : xSt} {r0 : Nat} {r1 : Nat} (hk0 : xkd E r0 = 4) (hk1 : xkd E r1 = 4) (h : f_X12_copies_p4_9_4_6 S r0 r1 = some S') : Met l yX12_copies (xws yX12_copies cX12_copies 3 none) (rmD 1) (YPc E [vr E r0 9, vr E r1 6] S) (YQv E S') 0 0 (xA E) := by
  unfold f_X12_copies_p4_9_4_6 at h
  refine met_v (by decide +kernel) (Nat.le_of_ble_eq_true rfl) (fun K hC hZ hE => ?_)
  have hC : xOK K cX12_copies RX12 3 (rmE 1 0) := hC
  show WG K E 0 [(0, vr E r0 9), (1, vr E r1 6)] [] S
  refine g_iconst hC (rfl : 0 + 1 = 1) (xdt tt_X12_copies 0 rfl) ?_
  refine g_istore_n hC rfl (by decide) (lv' := [(2, vi 0), (0, vr E r0 9), (1, vr E r1 6)]) rfl (rfl : 1 + 1 = 2) (xdt tt_X12_copies 1 rfl) ?_
  refine g_sub [1, 2, 0] (lv' := [(0, vr E r0 9), (1, vr E r1 6), (2, vi 0)]) rfl ?_
  exact k_X12_copies_p4_9_4_6_b2 hC hZ hE hk0 hk1 _ _ _ h
def f_X12_laysBack_p4_0 (S : xSt) (r0 : Nat) (a1 : Int) : Option (Int × xSt) :=
  bd (f_X12_copies_p4_9_4_6 S r0 r0) fun S2 =>
  some (a1, S2)
set_option maxRecDepth 100000 in
set_option maxHeartbeats 4000000 in
theorem c_X12_laysBack_p4_0 (l : Launch) {E : xE} {S S' : xSt} {r0 : Nat} {a1 : Int} (hk0 : xkd E r0 = 4) {v : Int} (h : f_X12_laysBack_p4_0 S r0 a1 = some (v, S')) : Met l yX12_laysBack (xws yX12_laysBack cX12_laysBack 2 (some .int)) (rmD 2) (YPc E [vr E r0 0, vi a1] S) (YQi E v S') 0 0 (xA E) := by
  unfold f_X12_laysBack_p4_0 at h
  refine met_i (by decide +kernel) (Nat.le_of_ble_eq_true rfl) (fun K hC hZ hE => ?_)
  have hC : xOK K cX12_laysBack RX12 2 (rmE 2 0) := hC
  show WG K E 0 [(0, vr E r0 0), (1, vi a1)] [] S
  refine g_aload_n hC rfl 0 rfl (rfl : 0 + 1 = 1) (xdt tt_X12_laysBack 0 rfl) ?_
  refine g_getP hC hk0 kclX12 ly4_0 13 (by decide) (rfl : r0 + 0 = r0) rfl q204 (rfl : 1 + 3 = 4) (xdt tt_X12_laysBack 1 rfl) ?_
  refine g_aload_n hC rfl 0 rfl (rfl : 4 + 1 = 5) (xdt tt_X12_laysBack 2 rfl) ?_
  refine g_getP hC hk0 kclX12 ly4_0 10 (by decide) (rfl : r0 + 0 = r0) rfl q201 (rfl : 5 + 3 = 8) (xdt tt_X12_laysBack 3 rfl) ?_
  obtain ⟨S2, hc1, h⟩ := bd_i h
  refine g_callSv hC hZ m_X12_copies q243 (Nat.le_of_ble_eq_true rfl) [vr E r0 9, vr E r0 6] rfl (fun l => c_X12_copies_p4_9_4_6 l hk0 hk0 hc1) rfl (Nat.le_of_ble_eq_true rfl) (rfl : 8 + 3 = 11) (xdt tt_X12_laysBack 4 rfl) ?_
  refine g_iload_n hC rfl 1 rfl (rfl : 11 + 1 = 12) (xdt tt_X12_laysBack 5 rfl) ?_
  cases h
  exact g_iret hC hE (xdt tt_X12_laysBack 6 rfl)
def f_X12_opsOf_p4_0 (S : xSt) (r0 : Nat) (a1 : Int) : Option (Int × xSt) :=
  ckI a1 60 <|
  ckI (gI S r0 1 (wr a1).toNat) 10 <|
  some ((tbI 7 (wr (gI S r0 1 (wr a1).toNat)).toNat), S)
set_option maxRecDepth 100000 in
set_option maxHeartbeats 4000000 in
theorem c_X12_opsOf_p4_0 (l : Launch) {E : xE} {S S' : xSt} {r0 : Nat} {a1 : Int} (hk0 : xkd E r0 = 4) {v : Int} (h : f_X12_opsOf_p4_0 S r0 a1 = some (v, S')) : Met l yX12_opsOf (xws yX12_opsOf cX12_opsOf 2 (some .int)) (rmD 1) (YPc E [vr E r0 0, vi a1] S) (YQi E v S') 0 0 (xA E) := by
  unfold f_X12_opsOf_p4_0 at h
  refine met_i (by decide +kernel) (Nat.le_of_ble_eq_true rfl) (fun K hC hZ hE => ?_)
  have hC : xOK K cX12_opsOf RX12 2 (rmE 1 0) := hC
  show WG K E 0 [(0, vr E r0 0), (1, vi a1)] [] S
  refine g_gets hC 7 rfl q663 (rfl : 0 + 3 = 3) (xdt tt_X12_opsOf 0 rfl) ?_
  refine g_aload_n hC rfl 0 rfl (rfl : 3 + 1 = 4) (xdt tt_X12_opsOf 1 rfl) ?_
  refine g_getP hC hk0 kclX12 ly4_0 5 (by decide) (rfl : r0 + 0 = r0) rfl q196 (rfl : 4 + 3 = 7) (xdt tt_X12_opsOf 2 rfl) ?_
  refine g_iload_n hC rfl 1 rfl (rfl : 7 + 1 = 8) (xdt tt_X12_opsOf 3 rfl) ?_
  obtain ⟨hi1, h⟩ := ckI_i h
  refine g_iald hC hk0 ly4_1 hi1 (rfl : 8 + 1 = 9) (xdt tt_X12_opsOf 4 rfl) (k0 := (wr a1).toNat) rfl ?_
  obtain ⟨hi2, h⟩ := ckI_i h
  refine g_tald hC (q := 7) rfl rfl hi2 (rfl : 9 + 1 = 10) (xdt tt_X12_opsOf 5 rfl) (k0 := (wr (gI S r0 1 (wr a1).toNat)).toNat) rfl ?_
  cases h
  exact g_iret hC hE (xdt tt_X12_opsOf 6 rfl)
def f_X12_doesTurn_p4_0 (S : xSt) (r0 : Nat) (a1 : Int) : Option (Int × xSt) :=
  ckI a1 60 <|
  if wr (gI S r0 1 (wr a1).toNat) < wr 8 then
    (some (0, S))
  else
    (some (1, S))
set_option maxRecDepth 100000 in
set_option maxHeartbeats 4000000 in
theorem c_X12_doesTurn_p4_0 (l : Launch) {E : xE} {S S' : xSt} {r0 : Nat} {a1 : Int} (hk0 : xkd E r0 = 4) {v : Int} (h : f_X12_doesTurn_p4_0 S r0 a1 = some (v, S')) : Met l yX12_doesTurn (xws yX12_doesTurn cX12_doesTurn 2 (some .boolean)) (rmD 1) (YPc E [vr E r0 0, vi a1] S) (YQz E v S') 0 0 (xA E) := by
  unfold f_X12_doesTurn_p4_0 at h
  refine met_z (by decide +kernel) (Nat.le_of_ble_eq_true rfl) (fun K hC hZ hE => ?_)
  have hC : xOK K cX12_doesTurn RX12 2 (rmE 1 0) := hC
  show WG K E 0 [(0, vr E r0 0), (1, vi a1)] [] S
  refine g_aload_n hC rfl 0 rfl (rfl : 0 + 1 = 1) (xdt tt_X12_doesTurn 0 rfl) ?_
  refine g_getP hC hk0 kclX12 ly4_0 5 (by decide) (rfl : r0 + 0 = r0) rfl q196 (rfl : 1 + 3 = 4) (xdt tt_X12_doesTurn 1 rfl) ?_
  refine g_iload_n hC rfl 1 rfl (rfl : 4 + 1 = 5) (xdt tt_X12_doesTurn 2 rfl) ?_
  obtain ⟨hi1, h⟩ := ckI_i h
  refine g_iald hC hk0 ly4_1 hi1 (rfl : 5 + 1 = 6) (xdt tt_X12_doesTurn 3 rfl) (k0 := (wr a1).toNat) rfl ?_
  refine g_bipush hC (by decide) (rfl : 6 + 2 = 8) (xdt tt_X12_doesTurn 4 rfl) ?_
  refine g_icmp_lt hC (show ((8 : Nat) : Int) + 7 = ((15 : Nat) : Int) by decide) (rfl : 8 + 3 = 11) (xdt tt_X12_doesTurn 5 rfl) (fun hc2 => ?_) (fun hc2 => ?_)
  · replace h := (if_pos hc2).symm.trans h
    refine g_iconst hC (rfl : 15 + 1 = 16) (xdt tt_X12_doesTurn 8 rfl) ?_
    cases h
    exact g_zret hC hE (Or.inl rfl) (xdt tt_X12_doesTurn 9 rfl)
  · replace h := (if_neg hc2).symm.trans h
    refine g_iconst hC (rfl : 11 + 1 = 12) (xdt tt_X12_doesTurn 6 rfl) ?_
    refine g_goto hC (show ((12 : Nat) : Int) + 4 = ((16 : Nat) : Int) by decide) (xdt tt_X12_doesTurn 7 rfl) ?_
    cases h
    exact g_zret hC hE (Or.inr rfl) (xdt tt_X12_doesTurn 9 rfl)
def f_X12_windowOf_p4_0 (S : xSt) (r0 : Nat) (a1 : Int) : Option (Int × xSt) :=
  ckZ (gI S r0 0 2) <|
  some ((Int.tdiv (wr a1) (wr (gI S r0 0 2))), S)
set_option maxRecDepth 100000 in
set_option maxHeartbeats 4000000 in
theorem c_X12_windowOf_p4_0 (l : Launch) {E : xE} {S S' : xSt} {r0 : Nat} {a1 : Int} (hk0 : xkd E r0 = 4) {v : Int} (h : f_X12_windowOf_p4_0 S r0 a1 = some (v, S')) : Met l yX12_windowOf (xws yX12_windowOf cX12_windowOf 2 (some .int)) (rmD 1) (YPc E [vr E r0 0, vi a1] S) (YQi E v S') 0 0 (xA E) := by
  unfold f_X12_windowOf_p4_0 at h
  refine met_i (by decide +kernel) (Nat.le_of_ble_eq_true rfl) (fun K hC hZ hE => ?_)
  have hC : xOK K cX12_windowOf RX12 2 (rmE 1 0) := hC
  show WG K E 0 [(0, vr E r0 0), (1, vi a1)] [] S
  refine g_iload_n hC rfl 1 rfl (rfl : 0 + 1 = 1) (xdt tt_X12_windowOf 0 rfl) ?_
  refine g_aload_n hC rfl 0 rfl (rfl : 1 + 1 = 2) (xdt tt_X12_windowOf 1 rfl) ?_
  refine g_getI hC hk0 kclX12 ly4_0 2 (by decide) rfl q229 (rfl : 2 + 3 = 5) (xdt tt_X12_windowOf 2 rfl) ?_
  obtain ⟨hz1, h⟩ := ckZ_i h
  refine g_idiv hC hz1 (rfl : 5 + 1 = 6) (xdt tt_X12_windowOf 3 rfl) ?_
  cases h
  exact g_iret hC hE (xdt tt_X12_windowOf 4 rfl)
def f_X12_hasRule_p4_0_b2 (r0 : Nat) : Nat → xSt → Int → Int → Int → Option (Int × xSt)
  | 0, _, _, _, _ => none
  | fuel + 1, S, x1, x2, x3 =>
    if wr (gI S r0 6 34) ≤ wr x3 then
      (some (0, S))
    else
      (ckI (35 + x3) 363 <|
      if ¬ wr (gI S r0 6 (wr (35 + x3)).toNat) = wr ((10 * x1) + x2) then
        ((f_X12_hasRule_p4_0_b2 r0 fuel) S x1 x2 (x3 + 1))
      else
        (some (1, S)))
def f_X12_hasRule_p4_0 (S : xSt) (r0 : Nat) (a1 : Int) (a2 : Int) : Option (Int × xSt) :=
  f_X12_hasRule_p4_0_b2 r0 (fu S) S a1 a2 0
set_option maxRecDepth 100000 in
set_option maxHeartbeats 4000000 in
theorem k_X12_hasRule_p4_0_b2 {K : xCtx} {E : xE} {b : Nat} (hC : xOK K cX12_hasRule RX12 4 (rmE 1 b)) (hZ : xZ K) {v : Int} {S' : xSt} (hE : xEnd K E (some .boolean) (YQz E v S')) {r0 : Nat} (hk0 : xkd E r0 = 4) : ∀ (fuel : Nat) (S : xSt) (x1 : Int) (x2 : Int) (x3 : Int), f_X12_hasRule_p4_0_b2 r0 fuel S x1 x2 x3 = some (v, S') → WG K E 2 [(0, vr E r0 0), (1, vi x1), (2, vi x2), (3, vi x3)] [] S := by
  intro fuel
  induction fuel with
  | zero => intro S x1 x2 x3 h; cases h
  | succ fuel ih =>
    intro S x1 x2 x3 h
    rw [f_X12_hasRule_p4_0_b2] at h
    refine g_iload_n hC rfl 3 rfl (rfl : 2 + 1 = 3) (xdt tt_X12_hasRule 2 rfl) ?_
    refine g_aload_n hC rfl 0 rfl (rfl : 3 + 1 = 4) (xdt tt_X12_hasRule 3 rfl) ?_
    refine g_getP hC hk0 kclX12 ly4_0 10 (by decide) (rfl : r0 + 0 = r0) rfl q201 (rfl : 4 + 3 = 7) (xdt tt_X12_hasRule 4 rfl) ?_
    refine g_bipush hC (by decide) (rfl : 7 + 2 = 9) (xdt tt_X12_hasRule 5 rfl) ?_
    refine g_iald hC hk0 ly4_6 (by decide) (rfl : 9 + 1 = 10) (xdt tt_X12_hasRule 6 rfl) (k0 := 34) (by decide) ?_
    refine g_icmp_ge hC (show ((10 : Nat) : Int) + 29 = ((39 : Nat) : Int) by decide) (rfl : 10 + 3 = 13) (xdt tt_X12_hasRule 7 rfl) (fun hc3 => ?_) (fun hc3 => ?_)
    · replace h := (if_pos hc3).symm.trans h
      refine g_iconst hC (rfl : 39 + 1 = 40) (xdt tt_X12_hasRule 24 rfl) ?_
      cases h
      exact g_zret hC hE (Or.inl rfl) (xdt tt_X12_hasRule 25 rfl)
    · replace h := (if_neg hc3).symm.trans h
      refine g_aload_n hC rfl 0 rfl (rfl : 13 + 1 = 14) (xdt tt_X12_hasRule 8 rfl) ?_
      refine g_getP hC hk0 kclX12 ly4_0 10 (by decide) (rfl : r0 + 0 = r0) rfl q201 (rfl : 14 + 3 = 17) (xdt tt_X12_hasRule 9 rfl) ?_
      refine g_bipush hC (by decide) (rfl : 17 + 2 = 19) (xdt tt_X12_hasRule 10 rfl) ?_
      refine g_iload_n hC rfl 3 rfl (rfl : 19 + 1 = 20) (xdt tt_X12_hasRule 11 rfl) ?_
      refine g_iadd hC (rfl : 20 + 1 = 21) (xdt tt_X12_hasRule 12 rfl) ?_
      obtain ⟨hi1, h⟩ := ckI_i h
      refine g_iald hC hk0 ly4_6 hi1 (rfl : 21 + 1 = 22) (xdt tt_X12_hasRule 13 rfl) (k0 := (wr (35 + x3)).toNat) rfl ?_
      refine g_bipush hC (by decide) (rfl : 22 + 2 = 24) (xdt tt_X12_hasRule 14 rfl) ?_
      refine g_iload_n hC rfl 1 rfl (rfl : 24 + 1 = 25) (xdt tt_X12_hasRule 15 rfl) ?_
      refine g_imul hC (rfl : 25 + 1 = 26) (xdt tt_X12_hasRule 16 rfl) ?_
      refine g_iload_n hC rfl 2 rfl (rfl : 26 + 1 = 27) (xdt tt_X12_hasRule 17 rfl) ?_
      refine g_iadd hC (rfl : 27 + 1 = 28) (xdt tt_X12_hasRule 18 rfl) ?_
      refine g_icmp_ne hC (show ((28 : Nat) : Int) + 5 = ((33 : Nat) : Int) by decide) (rfl : 28 + 3 = 31) (xdt tt_X12_hasRule 19 rfl) (fun hc2 => ?_) (fun hc2 => ?_)
      · replace h := (if_pos hc2).symm.trans h
        refine g_iinc hC 3 rfl (by decide) (lv' := [(3, vi (x3 + 1)), (0, vr E r0 0), (1, vi x1), (2, vi x2)]) rfl (rfl : 33 + 3 = 36) (xdt tt_X12_hasRule 22 rfl) ?_
        refine g_goto hC (show ((36 : Nat) : Int) + (-34) = ((2 : Nat) : Int) by decide) (xdt tt_X12_hasRule 23 rfl) ?_
        refine g_sub [1, 2, 3, 0] (lv' := [(0, vr E r0 0), (1, vi x1), (2, vi x2), (3, vi (x3 + 1))]) rfl ?_
        exact ih _ _ _ _ h
      · replace h := (if_neg hc2).symm.trans h
        refine g_iconst hC (rfl : 31 + 1 = 32) (xdt tt_X12_hasRule 20 rfl) ?_
        cases h
        exact g_zret hC hE (Or.inr rfl) (xdt tt_X12_hasRule 21 rfl)
set_option maxRecDepth 100000 in
set_option maxHeartbeats 4000000 in
theorem c_X12_hasRule_p4_0 (l : Launch) {E : xE} {S S' : xSt} {r0 : Nat} {a1 : Int} {a2 : Int} (hk0 : xkd E r0 = 4) {v : Int} (h : f_X12_hasRule_p4_0 S r0 a1 a2 = some (v, S')) : Met l yX12_hasRule (xws yX12_hasRule cX12_hasRule 4 (some .boolean)) (rmD 1) (YPc E [vr E r0 0, vi a1, vi a2] S) (YQz E v S') 0 0 (xA E) := by
  unfold f_X12_hasRule_p4_0 at h
  refine met_z (by decide +kernel) (Nat.le_of_ble_eq_true rfl) (fun K hC hZ hE => ?_)
  have hC : xOK K cX12_hasRule RX12 4 (rmE 1 0) := hC
  show WG K E 0 [(0, vr E r0 0), (1, vi a1), (2, vi a2)] [] S
  refine g_iconst hC (rfl : 0 + 1 = 1) (xdt tt_X12_hasRule 0 rfl) ?_
  refine g_istore_n hC rfl (by decide) (lv' := [(3, vi 0), (0, vr E r0 0), (1, vi a1), (2, vi a2)]) rfl (rfl : 1 + 1 = 2) (xdt tt_X12_hasRule 1 rfl) ?_
  refine g_sub [1, 2, 3, 0] (lv' := [(0, vr E r0 0), (1, vi a1), (2, vi a2), (3, vi 0)]) rfl ?_
  exact k_X12_hasRule_p4_0_b2 hC hZ hE hk0 _ _ _ _ _ h
def f_X12_doesFuse_p4_0 (S : xSt) (r0 : Nat) (a1 : Int) : Option (Int × xSt) :=
  if wr (gI S r0 0 1) ≤ wr (a1 + 1) then
    (some (0, S))
  else
    (ckI a1 60 <|
    ckI (a1 + 1) 60 <|
    bd2 (f_X12_hasRule_p4_0 S r0 (gI S r0 1 (wr a1).toNat) (gI S r0 1 (wr (a1 + 1)).toNat)) fun v5 S4 =>
    if ¬ wr v5 = 0 then
      (ckI a1 60 <|
      if wr (gI S4 r0 2 (wr a1).toNat) = wr 1 then
        (some (0, S4))
      else
        (ckI (a1 + 1) 60 <|
        if ¬ wr (gI S4 r0 2 (wr (a1 + 1)).toNat) = wr 1 then
          (ckI a1 61 <|
          bd2 (f_X12_windowOf_p4_0 S4 r0 (gI S4 r0 5 (wr a1).toNat)) fun v12 S11 =>
          ckI (a1 + 1) 61 <|
          bd2 (f_X12_windowOf_p4_0 S11 r0 (gI S11 r0 5 (wr (a1 + 1)).toNat)) fun v16 S15 =>
          if ¬ wr v12 = wr v16 then
            (some (0, S15))
          else
            (some (1, S15)))
        else
          (some (0, S4))))
    else
      (some (0, S4)))
set_option maxRecDepth 100000 in
set_option maxHeartbeats 4000000 in
theorem c_X12_doesFuse_p4_0 (l : Launch) {E : xE} {S S' : xSt} {r0 : Nat} {a1 : Int} (hk0 : xkd E r0 = 4) {v : Int} (h : f_X12_doesFuse_p4_0 S r0 a1 = some (v, S')) : Met l yX12_doesFuse (xws yX12_doesFuse cX12_doesFuse 2 (some .boolean)) (rmD 2) (YPc E [vr E r0 0, vi a1] S) (YQz E v S') 0 0 (xA E) := by
  unfold f_X12_doesFuse_p4_0 at h
  refine met_z (by decide +kernel) (Nat.le_of_ble_eq_true rfl) (fun K hC hZ hE => ?_)
  have hC : xOK K cX12_doesFuse RX12 2 (rmE 2 0) := hC
  show WG K E 0 [(0, vr E r0 0), (1, vi a1)] [] S
  refine g_iload_n hC rfl 1 rfl (rfl : 0 + 1 = 1) (xdt tt_X12_doesFuse 0 rfl) ?_
  refine g_iconst hC (rfl : 1 + 1 = 2) (xdt tt_X12_doesFuse 1 rfl) ?_
  refine g_iadd hC (rfl : 2 + 1 = 3) (xdt tt_X12_doesFuse 2 rfl) ?_
  refine g_aload_n hC rfl 0 rfl (rfl : 3 + 1 = 4) (xdt tt_X12_doesFuse 3 rfl) ?_
  refine g_getI hC hk0 kclX12 ly4_0 1 (by decide) rfl q228 (rfl : 4 + 3 = 7) (xdt tt_X12_doesFuse 4 rfl) ?_
  refine g_icmp_ge hC (show ((7 : Nat) : Int) + 24 = ((31 : Nat) : Int) by decide) (rfl : 7 + 3 = 10) (xdt tt_X12_doesFuse 5 rfl) (fun hc21 => ?_) (fun hc21 => ?_)
  · replace h := (if_pos hc21).symm.trans h
    refine g_iconst hC (rfl : 31 + 1 = 32) (xdt tt_X12_doesFuse 19 rfl) ?_
    cases h
    exact g_zret hC hE (Or.inl rfl) (xdt tt_X12_doesFuse 20 rfl)
  · replace h := (if_neg hc21).symm.trans h
    refine g_aload_n hC rfl 0 rfl (rfl : 10 + 1 = 11) (xdt tt_X12_doesFuse 6 rfl) ?_
    refine g_aload_n hC rfl 0 rfl (rfl : 11 + 1 = 12) (xdt tt_X12_doesFuse 7 rfl) ?_
    refine g_getP hC hk0 kclX12 ly4_0 5 (by decide) (rfl : r0 + 0 = r0) rfl q196 (rfl : 12 + 3 = 15) (xdt tt_X12_doesFuse 8 rfl) ?_
    refine g_iload_n hC rfl 1 rfl (rfl : 15 + 1 = 16) (xdt tt_X12_doesFuse 9 rfl) ?_
    obtain ⟨hi1, h⟩ := ckI_i h
    refine g_iald hC hk0 ly4_1 hi1 (rfl : 16 + 1 = 17) (xdt tt_X12_doesFuse 10 rfl) (k0 := (wr a1).toNat) rfl ?_
    refine g_aload_n hC rfl 0 rfl (rfl : 17 + 1 = 18) (xdt tt_X12_doesFuse 11 rfl) ?_
    refine g_getP hC hk0 kclX12 ly4_0 5 (by decide) (rfl : r0 + 0 = r0) rfl q196 (rfl : 18 + 3 = 21) (xdt tt_X12_doesFuse 12 rfl) ?_
    refine g_iload_n hC rfl 1 rfl (rfl : 21 + 1 = 22) (xdt tt_X12_doesFuse 13 rfl) ?_
    refine g_iconst hC (rfl : 22 + 1 = 23) (xdt tt_X12_doesFuse 14 rfl) ?_
    refine g_iadd hC (rfl : 23 + 1 = 24) (xdt tt_X12_doesFuse 15 rfl) ?_
    obtain ⟨hi2, h⟩ := ckI_i h
    refine g_iald hC hk0 ly4_1 hi2 (rfl : 24 + 1 = 25) (xdt tt_X12_doesFuse 16 rfl) (k0 := (wr (a1 + 1)).toNat) rfl ?_
    obtain ⟨v5, S4, hc3, h⟩ := bd2_i h
    refine g_callVz hC hZ hk0 kclX12 ly4_0 m_X12_hasRule q735 (Nat.le_of_ble_eq_true rfl) [vi (gI S r0 1 (wr a1).toNat), vi (gI S r0 1 (wr (a1 + 1)).toNat)] rfl (fun l => c_X12_hasRule_p4_0 l hk0 hc3) rfl (Nat.le_of_ble_eq_true rfl) (rfl : 25 + 3 = 28) (xdt tt_X12_doesFuse 17 rfl) (fun hb6 => ?_)
    refine g_if_ne hC (show ((28 : Nat) : Int) + 5 = ((33 : Nat) : Int) by decide) (rfl : 28 + 3 = 31) (xdt tt_X12_doesFuse 18 rfl) (fun hc20 => ?_) (fun hc20 => ?_)
    · replace h := (if_pos hc20).symm.trans h
      refine g_aload_n hC rfl 0 rfl (rfl : 33 + 1 = 34) (xdt tt_X12_doesFuse 21 rfl) ?_
      refine g_getP hC hk0 kclX12 ly4_0 6 (by decide) (rfl : r0 + 0 = r0) rfl q197 (rfl : 34 + 3 = 37) (xdt tt_X12_doesFuse 22 rfl) ?_
      refine g_iload_n hC rfl 1 rfl (rfl : 37 + 1 = 38) (xdt tt_X12_doesFuse 23 rfl) ?_
      obtain ⟨hi7, h⟩ := ckI_i h
      refine g_iald hC hk0 ly4_2 hi7 (rfl : 38 + 1 = 39) (xdt tt_X12_doesFuse 24 rfl) (k0 := (wr a1).toNat) rfl ?_
      refine g_iconst hC (rfl : 39 + 1 = 40) (xdt tt_X12_doesFuse 25 rfl) ?_
      refine g_icmp_eq hC (show ((40 : Nat) : Int) + 15 = ((55 : Nat) : Int) by decide) (rfl : 40 + 3 = 43) (xdt tt_X12_doesFuse 26 rfl) (fun hc19 => ?_) (fun hc19 => ?_)
      · replace h := (if_pos hc19).symm.trans h
        refine g_iconst hC (rfl : 55 + 1 = 56) (xdt tt_X12_doesFuse 35 rfl) ?_
        cases h
        exact g_zret hC hE (Or.inl rfl) (xdt tt_X12_doesFuse 36 rfl)
      · replace h := (if_neg hc19).symm.trans h
        refine g_aload_n hC rfl 0 rfl (rfl : 43 + 1 = 44) (xdt tt_X12_doesFuse 27 rfl) ?_
        refine g_getP hC hk0 kclX12 ly4_0 6 (by decide) (rfl : r0 + 0 = r0) rfl q197 (rfl : 44 + 3 = 47) (xdt tt_X12_doesFuse 28 rfl) ?_
        refine g_iload_n hC rfl 1 rfl (rfl : 47 + 1 = 48) (xdt tt_X12_doesFuse 29 rfl) ?_
        refine g_iconst hC (rfl : 48 + 1 = 49) (xdt tt_X12_doesFuse 30 rfl) ?_
        refine g_iadd hC (rfl : 49 + 1 = 50) (xdt tt_X12_doesFuse 31 rfl) ?_
        obtain ⟨hi8, h⟩ := ckI_i h
        refine g_iald hC hk0 ly4_2 hi8 (rfl : 50 + 1 = 51) (xdt tt_X12_doesFuse 32 rfl) (k0 := (wr (a1 + 1)).toNat) rfl ?_
        refine g_iconst hC (rfl : 51 + 1 = 52) (xdt tt_X12_doesFuse 33 rfl) ?_
        refine g_icmp_ne hC (show ((52 : Nat) : Int) + 5 = ((57 : Nat) : Int) by decide) (rfl : 52 + 3 = 55) (xdt tt_X12_doesFuse 34 rfl) (fun hc18 => ?_) (fun hc18 => ?_)
        · replace h := (if_pos hc18).symm.trans h
          refine g_aload_n hC rfl 0 rfl (rfl : 57 + 1 = 58) (xdt tt_X12_doesFuse 37 rfl) ?_
          refine g_aload_n hC rfl 0 rfl (rfl : 58 + 1 = 59) (xdt tt_X12_doesFuse 38 rfl) ?_
          refine g_getP hC hk0 kclX12 ly4_0 9 (by decide) (rfl : r0 + 0 = r0) rfl q200 (rfl : 59 + 3 = 62) (xdt tt_X12_doesFuse 39 rfl) ?_
          refine g_iload_n hC rfl 1 rfl (rfl : 62 + 1 = 63) (xdt tt_X12_doesFuse 40 rfl) ?_
          obtain ⟨hi9, h⟩ := ckI_i h
          refine g_iald hC hk0 ly4_5 hi9 (rfl : 63 + 1 = 64) (xdt tt_X12_doesFuse 41 rfl) (k0 := (wr a1).toNat) rfl ?_
          obtain ⟨v12, S11, hc10, h⟩ := bd2_i h
          refine g_callVi hC hZ hk0 kclX12 ly4_0 m_X12_windowOf q708 (Nat.le_of_ble_eq_true rfl) [vi (gI S4 r0 5 (wr a1).toNat)] rfl (fun l => c_X12_windowOf_p4_0 l hk0 hc10) rfl (Nat.le_of_ble_eq_true rfl) (rfl : 64 + 3 = 67) (xdt tt_X12_doesFuse 42 rfl) ?_
          refine g_aload_n hC rfl 0 rfl (rfl : 67 + 1 = 68) (xdt tt_X12_doesFuse 43 rfl) ?_
          refine g_aload_n hC rfl 0 rfl (rfl : 68 + 1 = 69) (xdt tt_X12_doesFuse 44 rfl) ?_
          refine g_getP hC hk0 kclX12 ly4_0 9 (by decide) (rfl : r0 + 0 = r0) rfl q200 (rfl : 69 + 3 = 72) (xdt tt_X12_doesFuse 45 rfl) ?_
          refine g_iload_n hC rfl 1 rfl (rfl : 72 + 1 = 73) (xdt tt_X12_doesFuse 46 rfl) ?_
          refine g_iconst hC (rfl : 73 + 1 = 74) (xdt tt_X12_doesFuse 47 rfl) ?_
          refine g_iadd hC (rfl : 74 + 1 = 75) (xdt tt_X12_doesFuse 48 rfl) ?_
          obtain ⟨hi13, h⟩ := ckI_i h
          refine g_iald hC hk0 ly4_5 hi13 (rfl : 75 + 1 = 76) (xdt tt_X12_doesFuse 49 rfl) (k0 := (wr (a1 + 1)).toNat) rfl ?_
          obtain ⟨v16, S15, hc14, h⟩ := bd2_i h
          refine g_callVi hC hZ hk0 kclX12 ly4_0 m_X12_windowOf q708 (Nat.le_of_ble_eq_true rfl) [vi (gI S11 r0 5 (wr (a1 + 1)).toNat)] rfl (fun l => c_X12_windowOf_p4_0 l hk0 hc14) rfl (Nat.le_of_ble_eq_true rfl) (rfl : 76 + 3 = 79) (xdt tt_X12_doesFuse 50 rfl) ?_
          refine g_icmp_ne hC (show ((79 : Nat) : Int) + 7 = ((86 : Nat) : Int) by decide) (rfl : 79 + 3 = 82) (xdt tt_X12_doesFuse 51 rfl) (fun hc17 => ?_) (fun hc17 => ?_)
          · replace h := (if_pos hc17).symm.trans h
            refine g_iconst hC (rfl : 86 + 1 = 87) (xdt tt_X12_doesFuse 54 rfl) ?_
            cases h
            exact g_zret hC hE (Or.inl rfl) (xdt tt_X12_doesFuse 55 rfl)
          · replace h := (if_neg hc17).symm.trans h
            refine g_iconst hC (rfl : 82 + 1 = 83) (xdt tt_X12_doesFuse 52 rfl) ?_
            refine g_goto hC (show ((83 : Nat) : Int) + 4 = ((87 : Nat) : Int) by decide) (xdt tt_X12_doesFuse 53 rfl) ?_
            cases h
            exact g_zret hC hE (Or.inr rfl) (xdt tt_X12_doesFuse 55 rfl)
        · replace h := (if_neg hc18).symm.trans h
          refine g_iconst hC (rfl : 55 + 1 = 56) (xdt tt_X12_doesFuse 35 rfl) ?_
          cases h
          exact g_zret hC hE (Or.inl rfl) (xdt tt_X12_doesFuse 36 rfl)
    · replace h := (if_neg hc20).symm.trans h
      refine g_iconst hC (rfl : 31 + 1 = 32) (xdt tt_X12_doesFuse 19 rfl) ?_
      cases h
      exact g_zret hC hE (Or.inl rfl) (xdt tt_X12_doesFuse 20 rfl)
def f_X12_opsOfLoop_p4_0_b5 (r0 : Nat) : Nat → xSt → Int → Int → Int → Option (Int × xSt)
  | 0, _, _, _, _ => none
  | fuel + 1, S, x2, x3, x4 =>
    if wr x2 < wr x4 then
      (some (x3, S))
    else
      (bd2 (f_X12_opsOf_p4_0 S r0 x4) fun v3 S2 =>
      (f_X12_opsOfLoop_p4_0_b5 r0 fuel) S2 x2 (x3 + v3) (x4 + 1))
def f_X12_opsOfLoop_p4_0 (S : xSt) (r0 : Nat) (a1 : Int) (a2 : Int) : Option (Int × xSt) :=
  f_X12_opsOfLoop_p4_0_b5 r0 (fu S) S a2 0 a1
set_option maxRecDepth 100000 in
set_option maxHeartbeats 4000000 in
theorem k_X12_opsOfLoop_p4_0_b5 {K : xCtx} {E : xE} {b : Nat} (hC : xOK K cX12_opsOfLoop RX12 5 (rmE 2 b)) (hZ : xZ K) {v : Int} {S' : xSt} (hE : xEnd K E (some .int) (YQi E v S')) {r0 : Nat} (hk0 : xkd E r0 = 4) : ∀ (fuel : Nat) (S : xSt) (x2 : Int) (x3 : Int) (x4 : Int), f_X12_opsOfLoop_p4_0_b5 r0 fuel S x2 x3 x4 = some (v, S') → WG K E 5 [(0, vr E r0 0), (2, vi x2), (3, vi x3), (4, vi x4)] [] S := by
  intro fuel
  induction fuel with
  | zero => intro S x2 x3 x4 h; cases h
  | succ fuel ih =>
    intro S x2 x3 x4 h
    rw [f_X12_opsOfLoop_p4_0_b5] at h
    refine g_iload hC 3 rfl (rfl : 5 + 2 = 7) (xdt tt_X12_opsOfLoop 4 rfl) ?_
    refine g_iload_n hC rfl 1 rfl (rfl : 7 + 1 = 8) (xdt tt_X12_opsOfLoop 5 rfl) ?_
    refine g_icmp_gt hC (show ((8 : Nat) : Int) + 18 = ((26 : Nat) : Int) by decide) (rfl : 8 + 3 = 11) (xdt tt_X12_opsOfLoop 6 rfl) (fun hc4 => ?_) (fun hc4 => ?_)
    · replace h := (if_pos hc4).symm.trans h
      refine g_iload_n hC rfl 2 rfl (rfl : 26 + 1 = 27) (xdt tt_X12_opsOfLoop 15 rfl) ?_
      cases h
      exact g_iret hC hE (xdt tt_X12_opsOfLoop 16 rfl)
    · replace h := (if_neg hc4).symm.trans h
      refine g_iload_n hC rfl 2 rfl (rfl : 11 + 1 = 12) (xdt tt_X12_opsOfLoop 7 rfl) ?_
      refine g_aload_n hC rfl 0 rfl (rfl : 12 + 1 = 13) (xdt tt_X12_opsOfLoop 8 rfl) ?_
      refine g_iload hC 3 rfl (rfl : 13 + 2 = 15) (xdt tt_X12_opsOfLoop 9 rfl) ?_
      obtain ⟨v3, S2, hc1, h⟩ := bd2_i h
      refine g_callVi hC hZ hk0 kclX12 ly4_0 m_X12_opsOf q659 (Nat.le_of_ble_eq_true rfl) [vi x4] rfl (fun l => c_X12_opsOf_p4_0 l hk0 hc1) rfl (Nat.le_of_ble_eq_true rfl) (rfl : 15 + 3 = 18) (xdt tt_X12_opsOfLoop 10 rfl) ?_
      refine g_iadd hC (rfl : 18 + 1 = 19) (xdt tt_X12_opsOfLoop 11 rfl) ?_
      refine g_istore_n hC rfl (by decide) (lv' := [(3, vi (x3 + v3)), (0, vr E r0 0), (2, vi x2), (4, vi x4)]) rfl (rfl : 19 + 1 = 20) (xdt tt_X12_opsOfLoop 12 rfl) ?_
      refine g_iinc hC 3 rfl (by decide) (lv' := [(4, vi (x4 + 1)), (3, vi (x3 + v3)), (0, vr E r0 0), (2, vi x2)]) rfl (rfl : 20 + 3 = 23) (xdt tt_X12_opsOfLoop 13 rfl) ?_
      refine g_goto hC (show ((23 : Nat) : Int) + (-18) = ((5 : Nat) : Int) by decide) (xdt tt_X12_opsOfLoop 14 rfl) ?_
      refine g_sub [2, 3, 1, 0] (lv' := [(0, vr E r0 0), (2, vi x2), (3, vi (x3 + v3)), (4, vi (x4 + 1))]) rfl ?_
      exact ih _ _ _ _ h
set_option maxRecDepth 100000 in
set_option maxHeartbeats 4000000 in
theorem c_X12_opsOfLoop_p4_0 (l : Launch) {E : xE} {S S' : xSt} {r0 : Nat} {a1 : Int} {a2 : Int} (hk0 : xkd E r0 = 4) {v : Int} (h : f_X12_opsOfLoop_p4_0 S r0 a1 a2 = some (v, S')) : Met l yX12_opsOfLoop (xws yX12_opsOfLoop cX12_opsOfLoop 5 (some .int)) (rmD 2) (YPc E [vr E r0 0, vi a1, vi a2] S) (YQi E v S') 0 0 (xA E) := by
  unfold f_X12_opsOfLoop_p4_0 at h
  refine met_i (by decide +kernel) (Nat.le_of_ble_eq_true rfl) (fun K hC hZ hE => ?_)
  have hC : xOK K cX12_opsOfLoop RX12 5 (rmE 2 0) := hC
  show WG K E 0 [(0, vr E r0 0), (1, vi a1), (2, vi a2)] [] S
  refine g_iconst hC (rfl : 0 + 1 = 1) (xdt tt_X12_opsOfLoop 0 rfl) ?_
  refine g_istore_n hC rfl (by decide) (lv' := [(3, vi 0), (0, vr E r0 0), (1, vi a1), (2, vi a2)]) rfl (rfl : 1 + 1 = 2) (xdt tt_X12_opsOfLoop 1 rfl) ?_
  refine g_iload_n hC rfl 2 rfl (rfl : 2 + 1 = 3) (xdt tt_X12_opsOfLoop 2 rfl) ?_
  refine g_istore hC (by decide) (lv' := [(4, vi a1), (3, vi 0), (0, vr E r0 0), (1, vi a1), (2, vi a2)]) rfl (rfl : 3 + 2 = 5) (xdt tt_X12_opsOfLoop 3 rfl) ?_
  refine g_sub [2, 4, 1, 0] (lv' := [(0, vr E r0 0), (2, vi a2), (3, vi 0), (4, vi a1)]) rfl ?_
  exact k_X12_opsOfLoop_p4_0_b5 hC hZ hE hk0 _ _ _ _ _ h
def f_X12_isLoop_p4_0_b27 (r0 : Nat) : Nat → xSt → Int → Int → Option (Int × xSt)
  | 0, _, _, _ => none
  | fuel + 1, S, x1, x2 =>
    if wr x1 ≤ wr x2 then
      (ckI x1 60 <|
      bd2 (f_X12_opsOfLoop_p4_0 S r0 (gI S r0 3 (wr x1).toNat) x1) fun v10 S9 =>
      if wr (gI S9 r0 6 2) < wr v10 then
        (some (0, S9))
      else
        (some (1, S9)))
    else
      (bd2 (f_X12_doesTurn_p4_0 S r0 x2) fun v14 S13 =>
      if wr v14 = 0 then
        ((f_X12_isLoop_p4_0_b27 r0 fuel) S13 x1 (x2 + 1))
      else
        (some (0, S13)))
def f_X12_isLoop_p4_0 (S : xSt) (r0 : Nat) (a1 : Int) : Option (Int × xSt) :=
  bd2 (f_X12_doesTurn_p4_0 S r0 a1) fun v3 S2 =>
  if wr v3 = 0 then
    (some (0, S2))
  else
    (ckI a1 60 <|
    if wr (gI S2 r0 3 (wr a1).toNat) ≤ wr a1 then
      (ckI a1 60 <|
      f_X12_isLoop_p4_0_b27 r0 (fu S2) S2 a1 (gI S2 r0 3 (wr a1).toNat))
    else
      (some (0, S2)))
set_option maxRecDepth 100000 in
set_option maxHeartbeats 4000000 in
theorem k_X12_isLoop_p4_0_b27 {K : xCtx} {E : xE} {b : Nat} (hC : xOK K cX12_isLoop RX12 3 (rmE 3 b)) (hZ : xZ K) {v : Int} {S' : xSt} (hE : xEnd K E (some .boolean) (YQz E v S')) {r0 : Nat} (hk0 : xkd E r0 = 4) : ∀ (fuel : Nat) (S : xSt) (x1 : Int) (x2 : Int), f_X12_isLoop_p4_0_b27 r0 fuel S x1 x2 = some (v, S') → WG K E 27 [(0, vr E r0 0), (1, vi x1), (2, vi x2)] [] S := by
  intro fuel
  induction fuel with
  | zero => intro S x1 x2 h; cases h
  | succ fuel ih =>
    intro S x1 x2 h
    rw [f_X12_isLoop_p4_0_b27] at h
    refine g_iload_n hC rfl 2 rfl (rfl : 27 + 1 = 28) (xdt tt_X12_isLoop 17 rfl) ?_
    refine g_iload_n hC rfl 1 rfl (rfl : 28 + 1 = 29) (xdt tt_X12_isLoop 18 rfl) ?_
    refine g_icmp_ge hC (show ((29 : Nat) : Int) + 19 = ((48 : Nat) : Int) by decide) (rfl : 29 + 3 = 32) (xdt tt_X12_isLoop 19 rfl) (fun hc17 => ?_) (fun hc17 => ?_)
    · replace h := (if_pos hc17).symm.trans h
      refine g_aload_n hC rfl 0 rfl (rfl : 48 + 1 = 49) (xdt tt_X12_isLoop 28 rfl) ?_
      refine g_aload_n hC rfl 0 rfl (rfl : 49 + 1 = 50) (xdt tt_X12_isLoop 29 rfl) ?_
      refine g_getP hC hk0 kclX12 ly4_0 7 (by decide) (rfl : r0 + 0 = r0) rfl q198 (rfl : 50 + 3 = 53) (xdt tt_X12_isLoop 30 rfl) ?_
      refine g_iload_n hC rfl 1 rfl (rfl : 53 + 1 = 54) (xdt tt_X12_isLoop 31 rfl) ?_
      obtain ⟨hi7, h⟩ := ckI_i h
      refine g_iald hC hk0 ly4_3 hi7 (rfl : 54 + 1 = 55) (xdt tt_X12_isLoop 32 rfl) (k0 := (wr x1).toNat) rfl ?_
      refine g_iload_n hC rfl 1 rfl (rfl : 55 + 1 = 56) (xdt tt_X12_isLoop 33 rfl) ?_
      obtain ⟨v10, S9, hc8, h⟩ := bd2_i h
      refine g_callVi hC hZ hk0 kclX12 ly4_0 m_X12_opsOfLoop q759 (Nat.le_of_ble_eq_true rfl) [vi (gI S r0 3 (wr x1).toNat), vi x1] rfl (fun l => c_X12_opsOfLoop_p4_0 l hk0 hc8) rfl (Nat.le_of_ble_eq_true rfl) (rfl : 56 + 3 = 59) (xdt tt_X12_isLoop 34 rfl) ?_
      refine g_aload_n hC rfl 0 rfl (rfl : 59 + 1 = 60) (xdt tt_X12_isLoop 35 rfl) ?_
      refine g_getP hC hk0 kclX12 ly4_0 10 (by decide) (rfl : r0 + 0 = r0) rfl q201 (rfl : 60 + 3 = 63) (xdt tt_X12_isLoop 36 rfl) ?_
      refine g_iconst hC (rfl : 63 + 1 = 64) (xdt tt_X12_isLoop 37 rfl) ?_
      refine g_iald hC hk0 ly4_6 (by decide) (rfl : 64 + 1 = 65) (xdt tt_X12_isLoop 38 rfl) (k0 := 2) (by decide) ?_
      refine g_icmp_gt hC (show ((65 : Nat) : Int) + 7 = ((72 : Nat) : Int) by decide) (rfl : 65 + 3 = 68) (xdt tt_X12_isLoop 39 rfl) (fun hc11 => ?_) (fun hc11 => ?_)
      · replace h := (if_pos hc11).symm.trans h
        refine g_iconst hC (rfl : 72 + 1 = 73) (xdt tt_X12_isLoop 42 rfl) ?_
        cases h
        exact g_zret hC hE (Or.inl rfl) (xdt tt_X12_isLoop 43 rfl)
      · replace h := (if_neg hc11).symm.trans h
        refine g_iconst hC (rfl : 68 + 1 = 69) (xdt tt_X12_isLoop 40 rfl) ?_
        refine g_goto hC (show ((69 : Nat) : Int) + 4 = ((73 : Nat) : Int) by decide) (xdt tt_X12_isLoop 41 rfl) ?_
        cases h
        exact g_zret hC hE (Or.inr rfl) (xdt tt_X12_isLoop 43 rfl)
    · replace h := (if_neg hc17).symm.trans h
      refine g_aload_n hC rfl 0 rfl (rfl : 32 + 1 = 33) (xdt tt_X12_isLoop 20 rfl) ?_
      refine g_iload_n hC rfl 2 rfl (rfl : 33 + 1 = 34) (xdt tt_X12_isLoop 21 rfl) ?_
      obtain ⟨v14, S13, hc12, h⟩ := bd2_i h
      refine g_callVz hC hZ hk0 kclX12 ly4_0 m_X12_doesTurn q664 (Nat.le_of_ble_eq_true rfl) [vi x2] rfl (fun l => c_X12_doesTurn_p4_0 l hk0 hc12) rfl (Nat.le_of_ble_eq_true rfl) (rfl : 34 + 3 = 37) (xdt tt_X12_isLoop 22 rfl) (fun hb15 => ?_)
      refine g_if_eq hC (show ((37 : Nat) : Int) + 5 = ((42 : Nat) : Int) by decide) (rfl : 37 + 3 = 40) (xdt tt_X12_isLoop 23 rfl) (fun hc16 => ?_) (fun hc16 => ?_)
      · replace h := (if_pos hc16).symm.trans h
        refine g_iinc hC 2 rfl (by decide) (lv' := [(2, vi (x2 + 1)), (0, vr E r0 0), (1, vi x1)]) rfl (rfl : 42 + 3 = 45) (xdt tt_X12_isLoop 26 rfl) ?_
        refine g_goto hC (show ((45 : Nat) : Int) + (-18) = ((27 : Nat) : Int) by decide) (xdt tt_X12_isLoop 27 rfl) ?_
        refine g_sub [1, 2, 0] (lv' := [(0, vr E r0 0), (1, vi x1), (2, vi (x2 + 1))]) rfl ?_
        exact ih _ _ _ h
      · replace h := (if_neg hc16).symm.trans h
        refine g_iconst hC (rfl : 40 + 1 = 41) (xdt tt_X12_isLoop 24 rfl) ?_
        cases h
        exact g_zret hC hE (Or.inl rfl) (xdt tt_X12_isLoop 25 rfl)
set_option maxRecDepth 100000 in
set_option maxHeartbeats 4000000 in
theorem c_X12_isLoop_p4_0 (l : Launch) {E : xE} {S S' : xSt} {r0 : Nat} {a1 : Int} (hk0 : xkd E r0 = 4) {v : Int} (h : f_X12_isLoop_p4_0 S r0 a1 = some (v, S')) : Met l yX12_isLoop (xws yX12_isLoop cX12_isLoop 3 (some .boolean)) (rmD 3) (YPc E [vr E r0 0, vi a1] S) (YQz E v S') 0 0 (xA E) := by
  unfold f_X12_isLoop_p4_0 at h
  refine met_z (by decide +kernel) (Nat.le_of_ble_eq_true rfl) (fun K hC hZ hE => ?_)
  have hC : xOK K cX12_isLoop RX12 3 (rmE 3 0) := hC
  show WG K E 0 [(0, vr E r0 0), (1, vi a1)] [] S
  refine g_aload_n hC rfl 0 rfl (rfl : 0 + 1 = 1) (xdt tt_X12_isLoop 0 rfl) ?_
  refine g_iload_n hC rfl 1 rfl (rfl : 1 + 1 = 2) (xdt tt_X12_isLoop 1 rfl) ?_
  obtain ⟨v3, S2, hc1, h⟩ := bd2_i h
  refine g_callVz hC hZ hk0 kclX12 ly4_0 m_X12_doesTurn q664 (Nat.le_of_ble_eq_true rfl) [vi a1] rfl (fun l => c_X12_doesTurn_p4_0 l hk0 hc1) rfl (Nat.le_of_ble_eq_true rfl) (rfl : 2 + 3 = 5) (xdt tt_X12_isLoop 2 rfl) (fun hb4 => ?_)
  refine g_if_eq hC (show ((5 : Nat) : Int) + 13 = ((18 : Nat) : Int) by decide) (rfl : 5 + 3 = 8) (xdt tt_X12_isLoop 3 rfl) (fun hc19 => ?_) (fun hc19 => ?_)
  · replace h := (if_pos hc19).symm.trans h
    refine g_iconst hC (rfl : 18 + 1 = 19) (xdt tt_X12_isLoop 10 rfl) ?_
    cases h
    exact g_zret hC hE (Or.inl rfl) (xdt tt_X12_isLoop 11 rfl)
  · replace h := (if_neg hc19).symm.trans h
    refine g_aload_n hC rfl 0 rfl (rfl : 8 + 1 = 9) (xdt tt_X12_isLoop 4 rfl) ?_
    refine g_getP hC hk0 kclX12 ly4_0 7 (by decide) (rfl : r0 + 0 = r0) rfl q198 (rfl : 9 + 3 = 12) (xdt tt_X12_isLoop 5 rfl) ?_
    refine g_iload_n hC rfl 1 rfl (rfl : 12 + 1 = 13) (xdt tt_X12_isLoop 6 rfl) ?_
    obtain ⟨hi5, h⟩ := ckI_i h
    refine g_iald hC hk0 ly4_3 hi5 (rfl : 13 + 1 = 14) (xdt tt_X12_isLoop 7 rfl) (k0 := (wr a1).toNat) rfl ?_
    refine g_iload_n hC rfl 1 rfl (rfl : 14 + 1 = 15) (xdt tt_X12_isLoop 8 rfl) ?_
    refine g_icmp_le hC (show ((15 : Nat) : Int) + 5 = ((20 : Nat) : Int) by decide) (rfl : 15 + 3 = 18) (xdt tt_X12_isLoop 9 rfl) (fun hc18 => ?_) (fun hc18 => ?_)
    · replace h := (if_pos hc18).symm.trans h
      refine g_aload_n hC rfl 0 rfl (rfl : 20 + 1 = 21) (xdt tt_X12_isLoop 12 rfl) ?_
      refine g_getP hC hk0 kclX12 ly4_0 7 (by decide) (rfl : r0 + 0 = r0) rfl q198 (rfl : 21 + 3 = 24) (xdt tt_X12_isLoop 13 rfl) ?_
      refine g_iload_n hC rfl 1 rfl (rfl : 24 + 1 = 25) (xdt tt_X12_isLoop 14 rfl) ?_
      obtain ⟨hi6, h⟩ := ckI_i h
      refine g_iald hC hk0 ly4_3 hi6 (rfl : 25 + 1 = 26) (xdt tt_X12_isLoop 15 rfl) (k0 := (wr a1).toNat) rfl ?_
      refine g_istore_n hC rfl (by decide) (lv' := [(2, vi (gI S2 r0 3 (wr a1).toNat)), (0, vr E r0 0), (1, vi a1)]) rfl (rfl : 26 + 1 = 27) (xdt tt_X12_isLoop 16 rfl) ?_
      refine g_sub [1, 2, 0] (lv' := [(0, vr E r0 0), (1, vi a1), (2, vi (gI S2 r0 3 (wr a1).toNat))]) rfl ?_
      exact k_X12_isLoop_p4_0_b27 hC hZ hE hk0 _ _ _ _ h
    · replace h := (if_neg hc18).symm.trans h
      refine g_iconst hC (rfl : 18 + 1 = 19) (xdt tt_X12_isLoop 10 rfl) ?_
      cases h
      exact g_zret hC hE (Or.inl rfl) (xdt tt_X12_isLoop 11 rfl)
def f_X12_predicts_p4_0 (S : xSt) (r0 : Nat) (a1 : Int) : Option (Int × xSt) :=
  ckI a1 60 <|
  if wr (gI S r0 1 (wr a1).toNat) = wr 8 then
    (some (1, S))
  else
    (ckI a1 60 <|
    if ¬ wr (gI S r0 1 (wr a1).toNat) = wr 9 then
      (some (0, S))
    else
      (ckI (143 + a1) 363 <|
      if ¬ wr (gI S r0 6 (wr (143 + a1)).toNat) = wr 1 then
        (some (0, S))
      else
        (some (1, S))))
set_option maxRecDepth 100000 in
set_option maxHeartbeats 4000000 in
theorem c_X12_predicts_p4_0 (l : Launch) {E : xE} {S S' : xSt} {r0 : Nat} {a1 : Int} (hk0 : xkd E r0 = 4) {v : Int} (h : f_X12_predicts_p4_0 S r0 a1 = some (v, S')) : Met l yX12_predicts (xws yX12_predicts cX12_predicts 2 (some .boolean)) (rmD 1) (YPc E [vr E r0 0, vi a1] S) (YQz E v S') 0 0 (xA E) := by
  unfold f_X12_predicts_p4_0 at h
  refine met_z (by decide +kernel) (Nat.le_of_ble_eq_true rfl) (fun K hC hZ hE => ?_)
  have hC : xOK K cX12_predicts RX12 2 (rmE 1 0) := hC
  show WG K E 0 [(0, vr E r0 0), (1, vi a1)] [] S
  refine g_aload_n hC rfl 0 rfl (rfl : 0 + 1 = 1) (xdt tt_X12_predicts 0 rfl) ?_
  refine g_getP hC hk0 kclX12 ly4_0 5 (by decide) (rfl : r0 + 0 = r0) rfl q196 (rfl : 1 + 3 = 4) (xdt tt_X12_predicts 1 rfl) ?_
  refine g_iload_n hC rfl 1 rfl (rfl : 4 + 1 = 5) (xdt tt_X12_predicts 2 rfl) ?_
  obtain ⟨hi1, h⟩ := ckI_i h
  refine g_iald hC hk0 ly4_1 hi1 (rfl : 5 + 1 = 6) (xdt tt_X12_predicts 3 rfl) (k0 := (wr a1).toNat) rfl ?_
  refine g_bipush hC (by decide) (rfl : 6 + 2 = 8) (xdt tt_X12_predicts 4 rfl) ?_
  refine g_icmp_eq hC (show ((8 : Nat) : Int) + 28 = ((36 : Nat) : Int) by decide) (rfl : 8 + 3 = 11) (xdt tt_X12_predicts 5 rfl) (fun hc6 => ?_) (fun hc6 => ?_)
  · replace h := (if_pos hc6).symm.trans h
    refine g_iconst hC (rfl : 36 + 1 = 37) (xdt tt_X12_predicts 20 rfl) ?_
    refine g_goto hC (show ((37 : Nat) : Int) + 4 = ((41 : Nat) : Int) by decide) (xdt tt_X12_predicts 21 rfl) ?_
    cases h
    exact g_zret hC hE (Or.inr rfl) (xdt tt_X12_predicts 23 rfl)
  · replace h := (if_neg hc6).symm.trans h
    refine g_aload_n hC rfl 0 rfl (rfl : 11 + 1 = 12) (xdt tt_X12_predicts 6 rfl) ?_
    refine g_getP hC hk0 kclX12 ly4_0 5 (by decide) (rfl : r0 + 0 = r0) rfl q196 (rfl : 12 + 3 = 15) (xdt tt_X12_predicts 7 rfl) ?_
    refine g_iload_n hC rfl 1 rfl (rfl : 15 + 1 = 16) (xdt tt_X12_predicts 8 rfl) ?_
    obtain ⟨hi2, h⟩ := ckI_i h
    refine g_iald hC hk0 ly4_1 hi2 (rfl : 16 + 1 = 17) (xdt tt_X12_predicts 9 rfl) (k0 := (wr a1).toNat) rfl ?_
    refine g_bipush hC (by decide) (rfl : 17 + 2 = 19) (xdt tt_X12_predicts 10 rfl) ?_
    refine g_icmp_ne hC (show ((19 : Nat) : Int) + 21 = ((40 : Nat) : Int) by decide) (rfl : 19 + 3 = 22) (xdt tt_X12_predicts 11 rfl) (fun hc5 => ?_) (fun hc5 => ?_)
    · replace h := (if_pos hc5).symm.trans h
      refine g_iconst hC (rfl : 40 + 1 = 41) (xdt tt_X12_predicts 22 rfl) ?_
      cases h
      exact g_zret hC hE (Or.inl rfl) (xdt tt_X12_predicts 23 rfl)
    · replace h := (if_neg hc5).symm.trans h
      refine g_aload_n hC rfl 0 rfl (rfl : 22 + 1 = 23) (xdt tt_X12_predicts 12 rfl) ?_
      refine g_getP hC hk0 kclX12 ly4_0 10 (by decide) (rfl : r0 + 0 = r0) rfl q201 (rfl : 23 + 3 = 26) (xdt tt_X12_predicts 13 rfl) ?_
      refine g_sipush hC (by decide) (rfl : 26 + 3 = 29) (xdt tt_X12_predicts 14 rfl) ?_
      refine g_iload_n hC rfl 1 rfl (rfl : 29 + 1 = 30) (xdt tt_X12_predicts 15 rfl) ?_
      refine g_iadd hC (rfl : 30 + 1 = 31) (xdt tt_X12_predicts 16 rfl) ?_
      obtain ⟨hi3, h⟩ := ckI_i h
      refine g_iald hC hk0 ly4_6 hi3 (rfl : 31 + 1 = 32) (xdt tt_X12_predicts 17 rfl) (k0 := (wr (143 + a1)).toNat) rfl ?_
      refine g_iconst hC (rfl : 32 + 1 = 33) (xdt tt_X12_predicts 18 rfl) ?_
      refine g_icmp_ne hC (show ((33 : Nat) : Int) + 7 = ((40 : Nat) : Int) by decide) (rfl : 33 + 3 = 36) (xdt tt_X12_predicts 19 rfl) (fun hc4 => ?_) (fun hc4 => ?_)
      · replace h := (if_pos hc4).symm.trans h
        refine g_iconst hC (rfl : 40 + 1 = 41) (xdt tt_X12_predicts 22 rfl) ?_
        cases h
        exact g_zret hC hE (Or.inl rfl) (xdt tt_X12_predicts 23 rfl)
      · replace h := (if_neg hc4).symm.trans h
        refine g_iconst hC (rfl : 36 + 1 = 37) (xdt tt_X12_predicts 20 rfl) ?_
        refine g_goto hC (show ((37 : Nat) : Int) + 4 = ((41 : Nat) : Int) by decide) (xdt tt_X12_predicts 21 rfl) ?_
        cases h
        exact g_zret hC hE (Or.inr rfl) (xdt tt_X12_predicts 23 rfl)
def f_X12_takesAway_p4_0 (S : xSt) (r0 : Nat) : Option (xSt) :=
  if wr (gI S r0 6 7) ≤ 0 then
    (if wr (gI S r0 6 6) ≤ wr (gI S r0 6 1) then
      (lt1 (wI S r0 6 6 0) fun S1 =>
      some S1)
    else
      (lt1 (wI S r0 6 6 ((gI S r0 6 6) - (gI S r0 6 1))) fun S2 =>
      some S2))
  else
    (lt1 (wI S r0 6 7 ((gI S r0 6 7) - 1)) fun S4 =>
    some S4)
set_option maxRecDepth 100000 in
set_option maxHeartbeats 4000000 in
theorem c_X12_takesAway_p4_0 (l : Launch) {E : xE} {S S' : xSt} {r0 : Nat} (hk0 : xkd E r0 = 4) (h : f_X12_takesAway_p4_0 S r0 = some S') : Met l yX12_takesAway (xws yX12_takesAway cX12_takesAway 1 none) (rmD 1) (YPc E [vr E r0 0] S) (YQv E S') 0 0 (xA E) := by
  unfold f_X12_takesAway_p4_0 at h
  refine met_v (by decide +kernel) (Nat.le_of_ble_eq_true rfl) (fun K hC hZ hE => ?_)
  have hC : xOK K cX12_takesAway RX12 1 (rmE 1 0) := hC
  show WG K E 0 [(0, vr E r0 0)] [] S
  refine g_aload_n hC rfl 0 rfl (rfl : 0 + 1 = 1) (xdt tt_X12_takesAway 0 rfl) ?_
  refine g_getP hC hk0 kclX12 ly4_0 10 (by decide) (rfl : r0 + 0 = r0) rfl q201 (rfl : 1 + 3 = 4) (xdt tt_X12_takesAway 1 rfl) ?_
  refine g_bipush hC (by decide) (rfl : 4 + 2 = 6) (xdt tt_X12_takesAway 2 rfl) ?_
  refine g_iald hC hk0 ly4_6 (by decide) (rfl : 6 + 1 = 7) (xdt tt_X12_takesAway 3 rfl) (k0 := 7) (by decide) ?_
  refine g_if_le hC (show ((7 : Nat) : Int) + 20 = ((27 : Nat) : Int) by decide) (rfl : 7 + 3 = 10) (xdt tt_X12_takesAway 4 rfl) (fun hc5 => ?_) (fun hc5 => ?_)
  · replace h := (if_pos hc5).symm.trans h
    refine g_aload_n hC rfl 0 rfl (rfl : 27 + 1 = 28) (xdt tt_X12_takesAway 16 rfl) ?_
    refine g_getP hC hk0 kclX12 ly4_0 10 (by decide) (rfl : r0 + 0 = r0) rfl q201 (rfl : 28 + 3 = 31) (xdt tt_X12_takesAway 17 rfl) ?_
    refine g_bipush hC (by decide) (rfl : 31 + 2 = 33) (xdt tt_X12_takesAway 18 rfl) ?_
    refine g_aload_n hC rfl 0 rfl (rfl : 33 + 1 = 34) (xdt tt_X12_takesAway 19 rfl) ?_
    refine g_getP hC hk0 kclX12 ly4_0 10 (by decide) (rfl : r0 + 0 = r0) rfl q201 (rfl : 34 + 3 = 37) (xdt tt_X12_takesAway 20 rfl) ?_
    refine g_bipush hC (by decide) (rfl : 37 + 2 = 39) (xdt tt_X12_takesAway 21 rfl) ?_
    refine g_iald hC hk0 ly4_6 (by decide) (rfl : 39 + 1 = 40) (xdt tt_X12_takesAway 22 rfl) (k0 := 6) (by decide) ?_
    refine g_aload_n hC rfl 0 rfl (rfl : 40 + 1 = 41) (xdt tt_X12_takesAway 23 rfl) ?_
    refine g_getP hC hk0 kclX12 ly4_0 10 (by decide) (rfl : r0 + 0 = r0) rfl q201 (rfl : 41 + 3 = 44) (xdt tt_X12_takesAway 24 rfl) ?_
    refine g_iconst hC (rfl : 44 + 1 = 45) (xdt tt_X12_takesAway 25 rfl) ?_
    refine g_iald hC hk0 ly4_6 (by decide) (rfl : 45 + 1 = 46) (xdt tt_X12_takesAway 26 rfl) (k0 := 1) (by decide) ?_
    refine g_icmp_le hC (show ((46 : Nat) : Int) + 20 = ((66 : Nat) : Int) by decide) (rfl : 46 + 3 = 49) (xdt tt_X12_takesAway 27 rfl) (fun hc3 => ?_) (fun hc3 => ?_)
    · replace h := (if_pos hc3).symm.trans h
      refine g_iconst hC (rfl : 66 + 1 = 67) (xdt tt_X12_takesAway 38 rfl) ?_
      obtain ⟨S1, hS1, h⟩ := lt1_i h
      refine g_iast hC hk0 ly4_6 (by decide) (by decide) hS1 (rfl : 67 + 1 = 68) (xdt tt_X12_takesAway 39 rfl) ?_
      cases h
      exact g_vret hC hE (xdt tt_X12_takesAway 40 rfl)
    · replace h := (if_neg hc3).symm.trans h
      refine g_aload_n hC rfl 0 rfl (rfl : 49 + 1 = 50) (xdt tt_X12_takesAway 28 rfl) ?_
      refine g_getP hC hk0 kclX12 ly4_0 10 (by decide) (rfl : r0 + 0 = r0) rfl q201 (rfl : 50 + 3 = 53) (xdt tt_X12_takesAway 29 rfl) ?_
      refine g_bipush hC (by decide) (rfl : 53 + 2 = 55) (xdt tt_X12_takesAway 30 rfl) ?_
      refine g_iald hC hk0 ly4_6 (by decide) (rfl : 55 + 1 = 56) (xdt tt_X12_takesAway 31 rfl) (k0 := 6) (by decide) ?_
      refine g_aload_n hC rfl 0 rfl (rfl : 56 + 1 = 57) (xdt tt_X12_takesAway 32 rfl) ?_
      refine g_getP hC hk0 kclX12 ly4_0 10 (by decide) (rfl : r0 + 0 = r0) rfl q201 (rfl : 57 + 3 = 60) (xdt tt_X12_takesAway 33 rfl) ?_
      refine g_iconst hC (rfl : 60 + 1 = 61) (xdt tt_X12_takesAway 34 rfl) ?_
      refine g_iald hC hk0 ly4_6 (by decide) (rfl : 61 + 1 = 62) (xdt tt_X12_takesAway 35 rfl) (k0 := 1) (by decide) ?_
      refine g_isub hC (rfl : 62 + 1 = 63) (xdt tt_X12_takesAway 36 rfl) ?_
      refine g_goto hC (show ((63 : Nat) : Int) + 4 = ((67 : Nat) : Int) by decide) (xdt tt_X12_takesAway 37 rfl) ?_
      obtain ⟨S2, hS2, h⟩ := lt1_i h
      refine g_iast hC hk0 ly4_6 (by decide) (by decide) hS2 (rfl : 67 + 1 = 68) (xdt tt_X12_takesAway 39 rfl) ?_
      cases h
      exact g_vret hC hE (xdt tt_X12_takesAway 40 rfl)
  · replace h := (if_neg hc5).symm.trans h
    refine g_aload_n hC rfl 0 rfl (rfl : 10 + 1 = 11) (xdt tt_X12_takesAway 5 rfl) ?_
    refine g_getP hC hk0 kclX12 ly4_0 10 (by decide) (rfl : r0 + 0 = r0) rfl q201 (rfl : 11 + 3 = 14) (xdt tt_X12_takesAway 6 rfl) ?_
    refine g_bipush hC (by decide) (rfl : 14 + 2 = 16) (xdt tt_X12_takesAway 7 rfl) ?_
    refine g_aload_n hC rfl 0 rfl (rfl : 16 + 1 = 17) (xdt tt_X12_takesAway 8 rfl) ?_
    refine g_getP hC hk0 kclX12 ly4_0 10 (by decide) (rfl : r0 + 0 = r0) rfl q201 (rfl : 17 + 3 = 20) (xdt tt_X12_takesAway 9 rfl) ?_
    refine g_bipush hC (by decide) (rfl : 20 + 2 = 22) (xdt tt_X12_takesAway 10 rfl) ?_
    refine g_iald hC hk0 ly4_6 (by decide) (rfl : 22 + 1 = 23) (xdt tt_X12_takesAway 11 rfl) (k0 := 7) (by decide) ?_
    refine g_iconst hC (rfl : 23 + 1 = 24) (xdt tt_X12_takesAway 12 rfl) ?_
    refine g_isub hC (rfl : 24 + 1 = 25) (xdt tt_X12_takesAway 13 rfl) ?_
    obtain ⟨S4, hS4, h⟩ := lt1_i h
    refine g_iast hC hk0 ly4_6 (by decide) (by decide) hS4 (rfl : 25 + 1 = 26) (xdt tt_X12_takesAway 14 rfl) ?_
    cases h
    exact g_vret hC hE (xdt tt_X12_takesAway 15 rfl)
def f_X12_wastes_p4_0 (S : xSt) (r0 : Nat) (a1 : Int) (a2 : Int) : Option (xSt) :=
  if wr (gI S r0 6 0) ≤ wr a1 then
    (some S)
  else
    (ckI (25 + a2) 363 <|
    ckI (25 + a2) 363 <|
    lt1 (wI S r0 6 (wr (25 + a2)).toNat (((gI S r0 6 (wr (25 + a2)).toNat) + (gI S r0 6 0)) - a1)) fun S3 =>
    some S3)
set_option maxRecDepth 100000 in
set_option maxHeartbeats 4000000 in
theorem c_X12_wastes_p4_0 (l : Launch) {E : xE} {S S' : xSt} {r0 : Nat} {a1 : Int} {a2 : Int} (hk0 : xkd E r0 = 4) (h : f_X12_wastes_p4_0 S r0 a1 a2 = some S') : Met l yX12_wastes (xws yX12_wastes cX12_wastes 3 none) (rmD 1) (YPc E [vr E r0 0, vi a1, vi a2] S) (YQv E S') 0 0 (xA E) := by
  unfold f_X12_wastes_p4_0 at h
  refine met_v (by decide +kernel) (Nat.le_of_ble_eq_true rfl) (fun K hC hZ hE => ?_)
  have hC : xOK K cX12_wastes RX12 3 (rmE 1 0) := hC
  show WG K E 0 [(0, vr E r0 0), (1, vi a1), (2, vi a2)] [] S
  refine g_iload_n hC rfl 1 rfl (rfl : 0 + 1 = 1) (xdt tt_X12_wastes 0 rfl) ?_
  refine g_aload_n hC rfl 0 rfl (rfl : 1 + 1 = 2) (xdt tt_X12_wastes 1 rfl) ?_
  refine g_getP hC hk0 kclX12 ly4_0 10 (by decide) (rfl : r0 + 0 = r0) rfl q201 (rfl : 2 + 3 = 5) (xdt tt_X12_wastes 2 rfl) ?_
  refine g_iconst hC (rfl : 5 + 1 = 6) (xdt tt_X12_wastes 3 rfl) ?_
  refine g_iald hC hk0 ly4_6 (by decide) (rfl : 6 + 1 = 7) (xdt tt_X12_wastes 4 rfl) (k0 := 0) (by decide) ?_
  refine g_icmp_ge hC (show ((7 : Nat) : Int) + 30 = ((37 : Nat) : Int) by decide) (rfl : 7 + 3 = 10) (xdt tt_X12_wastes 5 rfl) (fun hc4 => ?_) (fun hc4 => ?_)
  · replace h := (if_pos hc4).symm.trans h
    cases h
    exact g_vret hC hE (xdt tt_X12_wastes 25 rfl)
  · replace h := (if_neg hc4).symm.trans h
    refine g_aload_n hC rfl 0 rfl (rfl : 10 + 1 = 11) (xdt tt_X12_wastes 6 rfl) ?_
    refine g_getP hC hk0 kclX12 ly4_0 10 (by decide) (rfl : r0 + 0 = r0) rfl q201 (rfl : 11 + 3 = 14) (xdt tt_X12_wastes 7 rfl) ?_
    refine g_bipush hC (by decide) (rfl : 14 + 2 = 16) (xdt tt_X12_wastes 8 rfl) ?_
    refine g_iload_n hC rfl 2 rfl (rfl : 16 + 1 = 17) (xdt tt_X12_wastes 9 rfl) ?_
    refine g_iadd hC (rfl : 17 + 1 = 18) (xdt tt_X12_wastes 10 rfl) ?_
    refine g_aload_n hC rfl 0 rfl (rfl : 18 + 1 = 19) (xdt tt_X12_wastes 11 rfl) ?_
    refine g_getP hC hk0 kclX12 ly4_0 10 (by decide) (rfl : r0 + 0 = r0) rfl q201 (rfl : 19 + 3 = 22) (xdt tt_X12_wastes 12 rfl) ?_
    refine g_bipush hC (by decide) (rfl : 22 + 2 = 24) (xdt tt_X12_wastes 13 rfl) ?_
    refine g_iload_n hC rfl 2 rfl (rfl : 24 + 1 = 25) (xdt tt_X12_wastes 14 rfl) ?_
    refine g_iadd hC (rfl : 25 + 1 = 26) (xdt tt_X12_wastes 15 rfl) ?_
    obtain ⟨hi1, h⟩ := ckI_i h
    refine g_iald hC hk0 ly4_6 hi1 (rfl : 26 + 1 = 27) (xdt tt_X12_wastes 16 rfl) (k0 := (wr (25 + a2)).toNat) rfl ?_
    refine g_aload_n hC rfl 0 rfl (rfl : 27 + 1 = 28) (xdt tt_X12_wastes 17 rfl) ?_
    refine g_getP hC hk0 kclX12 ly4_0 10 (by decide) (rfl : r0 + 0 = r0) rfl q201 (rfl : 28 + 3 = 31) (xdt tt_X12_wastes 18 rfl) ?_
    refine g_iconst hC (rfl : 31 + 1 = 32) (xdt tt_X12_wastes 19 rfl) ?_
    refine g_iald hC hk0 ly4_6 (by decide) (rfl : 32 + 1 = 33) (xdt tt_X12_wastes 20 rfl) (k0 := 0) (by decide) ?_
    refine g_iadd hC (rfl : 33 + 1 = 34) (xdt tt_X12_wastes 21 rfl) ?_
    refine g_iload_n hC rfl 1 rfl (rfl : 34 + 1 = 35) (xdt tt_X12_wastes 22 rfl) ?_
    refine g_isub hC (rfl : 35 + 1 = 36) (xdt tt_X12_wastes 23 rfl) ?_
    obtain ⟨hi2, h⟩ := ckI_i h
    obtain ⟨S3, hS3, h⟩ := lt1_i h
    refine g_iast hC hk0 ly4_6 hi2 rfl hS3 (rfl : 36 + 1 = 37) (xdt tt_X12_wastes 24 rfl) ?_
    cases h
    exact g_vret hC hE (xdt tt_X12_wastes 25 rfl)
def f_X12_isReplayed_p4_0 (S : xSt) (r0 : Nat) : Option (Int × xSt) :=
  if ¬ wr (gI S r0 6 11) = wr 1 then
    (some (0, S))
  else
    (some (1, S))
set_option maxRecDepth 100000 in
set_option maxHeartbeats 4000000 in
theorem c_X12_isReplayed_p4_0 (l : Launch) {E : xE} {S S' : xSt} {r0 : Nat} (hk0 : xkd E r0 = 4) {v : Int} (h : f_X12_isReplayed_p4_0 S r0 = some (v, S')) : Met l yX12_isReplayed (xws yX12_isReplayed cX12_isReplayed 1 (some .boolean)) (rmD 1) (YPc E [vr E r0 0] S) (YQz E v S') 0 0 (xA E) := by
  unfold f_X12_isReplayed_p4_0 at h
  refine met_z (by decide +kernel) (Nat.le_of_ble_eq_true rfl) (fun K hC hZ hE => ?_)
  have hC : xOK K cX12_isReplayed RX12 1 (rmE 1 0) := hC
  show WG K E 0 [(0, vr E r0 0)] [] S
  refine g_aload_n hC rfl 0 rfl (rfl : 0 + 1 = 1) (xdt tt_X12_isReplayed 0 rfl) ?_
  refine g_getP hC hk0 kclX12 ly4_0 10 (by decide) (rfl : r0 + 0 = r0) rfl q201 (rfl : 1 + 3 = 4) (xdt tt_X12_isReplayed 1 rfl) ?_
  refine g_bipush hC (by decide) (rfl : 4 + 2 = 6) (xdt tt_X12_isReplayed 2 rfl) ?_
  refine g_iald hC hk0 ly4_6 (by decide) (rfl : 6 + 1 = 7) (xdt tt_X12_isReplayed 3 rfl) (k0 := 11) (by decide) ?_
  refine g_iconst hC (rfl : 7 + 1 = 8) (xdt tt_X12_isReplayed 4 rfl) ?_
  refine g_icmp_ne hC (show ((8 : Nat) : Int) + 7 = ((15 : Nat) : Int) by decide) (rfl : 8 + 3 = 11) (xdt tt_X12_isReplayed 5 rfl) (fun hc1 => ?_) (fun hc1 => ?_)
  · replace h := (if_pos hc1).symm.trans h
    refine g_iconst hC (rfl : 15 + 1 = 16) (xdt tt_X12_isReplayed 8 rfl) ?_
    cases h
    exact g_zret hC hE (Or.inl rfl) (xdt tt_X12_isReplayed 9 rfl)
  · replace h := (if_neg hc1).symm.trans h
    refine g_iconst hC (rfl : 11 + 1 = 12) (xdt tt_X12_isReplayed 6 rfl) ?_
    refine g_goto hC (show ((12 : Nat) : Int) + 4 = ((16 : Nat) : Int) by decide) (xdt tt_X12_isReplayed 7 rfl) ?_
    cases h
    exact g_zret hC hE (Or.inr rfl) (xdt tt_X12_isReplayed 9 rfl)
def f_X12_causeOfEmpty_p4_0 (S : xSt) (r0 : Nat) : Option (Int × xSt) :=
  if ¬ wr (gI S r0 6 3) = wr (gI S r0 0 1) then
    (if wr (gI S r0 6 9) ≤ 0 then
      (if ¬ wr (gI S r0 6 10) = wr 1 then
        (some (1, S))
      else
        (some (2, S)))
    else
      (some (3, S)))
  else
    (some (8, S))
set_option maxRecDepth 100000 in
set_option maxHeartbeats 4000000 in
theorem c_X12_causeOfEmpty_p4_0 (l : Launch) {E : xE} {S S' : xSt} {r0 : Nat} (hk0 : xkd E r0 = 4) {v : Int} (h : f_X12_causeOfEmpty_p4_0 S r0 = some (v, S')) : Met l yX12_causeOfEmpty (xws yX12_causeOfEmpty cX12_causeOfEmpty 1 (some .int)) (rmD 1) (YPc E [vr E r0 0] S) (YQi E v S') 0 0 (xA E) := by
  unfold f_X12_causeOfEmpty_p4_0 at h
  refine met_i (by decide +kernel) (Nat.le_of_ble_eq_true rfl) (fun K hC hZ hE => ?_)
  have hC : xOK K cX12_causeOfEmpty RX12 1 (rmE 1 0) := hC
  show WG K E 0 [(0, vr E r0 0)] [] S
  refine g_aload_n hC rfl 0 rfl (rfl : 0 + 1 = 1) (xdt tt_X12_causeOfEmpty 0 rfl) ?_
  refine g_getP hC hk0 kclX12 ly4_0 10 (by decide) (rfl : r0 + 0 = r0) rfl q201 (rfl : 1 + 3 = 4) (xdt tt_X12_causeOfEmpty 1 rfl) ?_
  refine g_iconst hC (rfl : 4 + 1 = 5) (xdt tt_X12_causeOfEmpty 2 rfl) ?_
  refine g_iald hC hk0 ly4_6 (by decide) (rfl : 5 + 1 = 6) (xdt tt_X12_causeOfEmpty 3 rfl) (k0 := 3) (by decide) ?_
  refine g_aload_n hC rfl 0 rfl (rfl : 6 + 1 = 7) (xdt tt_X12_causeOfEmpty 4 rfl) ?_
  refine g_getI hC hk0 kclX12 ly4_0 1 (by decide) rfl q228 (rfl : 7 + 3 = 10) (xdt tt_X12_causeOfEmpty 5 rfl) ?_
  refine g_icmp_ne hC (show ((10 : Nat) : Int) + 6 = ((16 : Nat) : Int) by decide) (rfl : 10 + 3 = 13) (xdt tt_X12_causeOfEmpty 6 rfl) (fun hc3 => ?_) (fun hc3 => ?_)
  · replace h := (if_pos hc3).symm.trans h
    refine g_aload_n hC rfl 0 rfl (rfl : 16 + 1 = 17) (xdt tt_X12_causeOfEmpty 9 rfl) ?_
    refine g_getP hC hk0 kclX12 ly4_0 10 (by decide) (rfl : r0 + 0 = r0) rfl q201 (rfl : 17 + 3 = 20) (xdt tt_X12_causeOfEmpty 10 rfl) ?_
    refine g_bipush hC (by decide) (rfl : 20 + 2 = 22) (xdt tt_X12_causeOfEmpty 11 rfl) ?_
    refine g_iald hC hk0 ly4_6 (by decide) (rfl : 22 + 1 = 23) (xdt tt_X12_causeOfEmpty 12 rfl) (k0 := 9) (by decide) ?_
    refine g_if_le hC (show ((23 : Nat) : Int) + 5 = ((28 : Nat) : Int) by decide) (rfl : 23 + 3 = 26) (xdt tt_X12_causeOfEmpty 13 rfl) (fun hc2 => ?_) (fun hc2 => ?_)
    · replace h := (if_pos hc2).symm.trans h
      refine g_aload_n hC rfl 0 rfl (rfl : 28 + 1 = 29) (xdt tt_X12_causeOfEmpty 16 rfl) ?_
      refine g_getP hC hk0 kclX12 ly4_0 10 (by decide) (rfl : r0 + 0 = r0) rfl q201 (rfl : 29 + 3 = 32) (xdt tt_X12_causeOfEmpty 17 rfl) ?_
      refine g_bipush hC (by decide) (rfl : 32 + 2 = 34) (xdt tt_X12_causeOfEmpty 18 rfl) ?_
      refine g_iald hC hk0 ly4_6 (by decide) (rfl : 34 + 1 = 35) (xdt tt_X12_causeOfEmpty 19 rfl) (k0 := 10) (by decide) ?_
      refine g_iconst hC (rfl : 35 + 1 = 36) (xdt tt_X12_causeOfEmpty 20 rfl) ?_
      refine g_icmp_ne hC (show ((36 : Nat) : Int) + 7 = ((43 : Nat) : Int) by decide) (rfl : 36 + 3 = 39) (xdt tt_X12_causeOfEmpty 21 rfl) (fun hc1 => ?_) (fun hc1 => ?_)
      · replace h := (if_pos hc1).symm.trans h
        refine g_iconst hC (rfl : 43 + 1 = 44) (xdt tt_X12_causeOfEmpty 24 rfl) ?_
        cases h
        exact g_iret hC hE (xdt tt_X12_causeOfEmpty 25 rfl)
      · replace h := (if_neg hc1).symm.trans h
        refine g_iconst hC (rfl : 39 + 1 = 40) (xdt tt_X12_causeOfEmpty 22 rfl) ?_
        refine g_goto hC (show ((40 : Nat) : Int) + 4 = ((44 : Nat) : Int) by decide) (xdt tt_X12_causeOfEmpty 23 rfl) ?_
        cases h
        exact g_iret hC hE (xdt tt_X12_causeOfEmpty 25 rfl)
    · replace h := (if_neg hc2).symm.trans h
      refine g_iconst hC (rfl : 26 + 1 = 27) (xdt tt_X12_causeOfEmpty 14 rfl) ?_
      cases h
      exact g_iret hC hE (xdt tt_X12_causeOfEmpty 15 rfl)
  · replace h := (if_neg hc3).symm.trans h
    refine g_bipush hC (by decide) (rfl : 13 + 2 = 15) (xdt tt_X12_causeOfEmpty 7 rfl) ?_
    cases h
    exact g_iret hC hE (xdt tt_X12_causeOfEmpty 8 rfl)
def f_X12_head_p4_0 (S : xSt) (r0 : Nat) : Option (Int × xSt) :=
  bd2 (f_X12_isReplayed_p4_0 S r0) fun v3 S2 =>
  if wr v3 = 0 then
    (some ((gI S2 r0 6 43), S2))
  else
    (some ((gI S2 r0 6 14), S2))
set_option maxRecDepth 100000 in
set_option maxHeartbeats 4000000 in
theorem c_X12_head_p4_0 (l : Launch) {E : xE} {S S' : xSt} {r0 : Nat} (hk0 : xkd E r0 = 4) {v : Int} (h : f_X12_head_p4_0 S r0 = some (v, S')) : Met l yX12_head (xws yX12_head cX12_head 1 (some .int)) (rmD 2) (YPc E [vr E r0 0] S) (YQi E v S') 0 0 (xA E) := by
  unfold f_X12_head_p4_0 at h
  refine met_i (by decide +kernel) (Nat.le_of_ble_eq_true rfl) (fun K hC hZ hE => ?_)
  have hC : xOK K cX12_head RX12 1 (rmE 2 0) := hC
  show WG K E 0 [(0, vr E r0 0)] [] S
  refine g_aload_n hC rfl 0 rfl (rfl : 0 + 1 = 1) (xdt tt_X12_head 0 rfl) ?_
  obtain ⟨v3, S2, hc1, h⟩ := bd2_i h
  refine g_callVz hC hZ hk0 kclX12 ly4_0 m_X12_isReplayed q844 (Nat.le_of_ble_eq_true rfl) [] rfl (fun l => c_X12_isReplayed_p4_0 l hk0 hc1) rfl (Nat.le_of_ble_eq_true rfl) (rfl : 1 + 3 = 4) (xdt tt_X12_head 1 rfl) (fun hb4 => ?_)
  refine g_if_eq hC (show ((4 : Nat) : Int) + 13 = ((17 : Nat) : Int) by decide) (rfl : 4 + 3 = 7) (xdt tt_X12_head 2 rfl) (fun hc5 => ?_) (fun hc5 => ?_)
  · replace h := (if_pos hc5).symm.trans h
    refine g_aload_n hC rfl 0 rfl (rfl : 17 + 1 = 18) (xdt tt_X12_head 8 rfl) ?_
    refine g_getP hC hk0 kclX12 ly4_0 10 (by decide) (rfl : r0 + 0 = r0) rfl q201 (rfl : 18 + 3 = 21) (xdt tt_X12_head 9 rfl) ?_
    refine g_bipush hC (by decide) (rfl : 21 + 2 = 23) (xdt tt_X12_head 10 rfl) ?_
    refine g_iald hC hk0 ly4_6 (by decide) (rfl : 23 + 1 = 24) (xdt tt_X12_head 11 rfl) (k0 := 43) (by decide) ?_
    cases h
    exact g_iret hC hE (xdt tt_X12_head 12 rfl)
  · replace h := (if_neg hc5).symm.trans h
    refine g_aload_n hC rfl 0 rfl (rfl : 7 + 1 = 8) (xdt tt_X12_head 3 rfl) ?_
    refine g_getP hC hk0 kclX12 ly4_0 10 (by decide) (rfl : r0 + 0 = r0) rfl q201 (rfl : 8 + 3 = 11) (xdt tt_X12_head 4 rfl) ?_
    refine g_bipush hC (by decide) (rfl : 11 + 2 = 13) (xdt tt_X12_head 5 rfl) ?_
    refine g_iald hC hk0 ly4_6 (by decide) (rfl : 13 + 1 = 14) (xdt tt_X12_head 6 rfl) (k0 := 14) (by decide) ?_
    refine g_goto hC (show ((14 : Nat) : Int) + 10 = ((24 : Nat) : Int) by decide) (xdt tt_X12_head 7 rfl) ?_
    cases h
    exact g_iret hC hE (xdt tt_X12_head 12 rfl)
def f_X12_isHeadFused_p4_0_b60 (r0 : Nat) (S : xSt) (x1 : Int) (s0 : Int) : Option (Int × xSt) :=
  if wr s0 = 0 then
    (some (0, S))
  else
    (bd2 (f_X12_doesFuse_p4_0 S r0 x1) fun v10 S9 =>
    if wr v10 = 0 then
      (some (0, S9))
    else
      (some (1, S9)))
def f_X12_isHeadFused_p4_0_b59 (r0 : Nat) (S : xSt) (x1 : Int) : Option (Int × xSt) :=
  f_X12_isHeadFused_p4_0_b60 r0 S x1 0
def f_X12_isHeadFused_p4_0 (S : xSt) (r0 : Nat) : Option (Int × xSt) :=
  bd2 (f_X12_head_p4_0 S r0) fun v3 S2 =>
  bd2 (f_X12_isReplayed_p4_0 S2 r0) fun v6 S5 =>
  if wr v6 = 0 then
    (if wr (gI S5 r0 6 42) ≤ wr 1 then
      (f_X12_isHeadFused_p4_0_b59 r0 S5 v3)
    else
      (if ¬ wr (gI S5 r0 6 44) = wr (v3 + 1) then
        (f_X12_isHeadFused_p4_0_b59 r0 S5 v3)
      else
        (f_X12_isHeadFused_p4_0_b60 r0 S5 v3 1)))
  else
    (if wr (gI S5 r0 6 13) ≤ wr v3 then
      (f_X12_isHeadFused_p4_0_b60 r0 S5 v3 0)
    else
      (f_X12_isHeadFused_p4_0_b60 r0 S5 v3 1))
set_option maxRecDepth 100000 in
set_option maxHeartbeats 4000000 in
theorem k_X12_isHeadFused_p4_0_b60 {K : xCtx} {E : xE} {b : Nat} (hC : xOK K cX12_isHeadFused RX12 3 (rmE 3 b)) (hZ : xZ K) {v : Int} {S' : xSt} (hE : xEnd K E (some .boolean) (YQz E v S')) {r0 : Nat} (hk0 : xkd E r0 = 4) : ∀ (S : xSt) (x1 : Int) (s0 : Int), f_X12_isHeadFused_p4_0_b60 r0 S x1 s0 = some (v, S') → WG K E 60 [(0, vr E r0 0), (1, vi x1)] [vi s0] S := by
  intro S x1 s0 h
  unfold f_X12_isHeadFused_p4_0_b60 at h
  refine g_istore_n hC rfl (by decide) (lv' := [(2, vi s0), (0, vr E r0 0), (1, vi x1)]) rfl (rfl : 60 + 1 = 61) (xdt tt_X12_isHeadFused 33 rfl) ?_
  refine g_iload_n hC rfl 0 rfl (rfl : 61 + 1 = 62) (xdt tt_X12_isHeadFused 34 rfl) ?_
  refine g_if_eq hC (show ((62 : Nat) : Int) + 15 = ((77 : Nat) : Int) by decide) (rfl : 62 + 3 = 65) (xdt tt_X12_isHeadFused 35 rfl) (fun hc13 => ?_) (fun hc13 => ?_)
  · replace h := (if_pos hc13).symm.trans h
    refine g_iconst hC (rfl : 77 + 1 = 78) (xdt tt_X12_isHeadFused 42 rfl) ?_
    cases h
    exact g_zret hC hE (Or.inl rfl) (xdt tt_X12_isHeadFused 43 rfl)
  · replace h := (if_neg hc13).symm.trans h
    refine g_aload_n hC rfl 1 rfl (rfl : 65 + 1 = 66) (xdt tt_X12_isHeadFused 36 rfl) ?_
    refine g_iload_n hC rfl 2 rfl (rfl : 66 + 1 = 67) (xdt tt_X12_isHeadFused 37 rfl) ?_
    obtain ⟨v10, S9, hc8, h⟩ := bd2_i h
    refine g_callVz hC hZ hk0 kclX12 ly4_0 m_X12_doesFuse q731 (Nat.le_of_ble_eq_true rfl) [vi x1] rfl (fun l => c_X12_doesFuse_p4_0 l hk0 hc8) rfl (Nat.le_of_ble_eq_true rfl) (rfl : 67 + 3 = 70) (xdt tt_X12_isHeadFused 38 rfl) (fun hb11 => ?_)
    refine g_if_eq hC (show ((70 : Nat) : Int) + 7 = ((77 : Nat) : Int) by decide) (rfl : 70 + 3 = 73) (xdt tt_X12_isHeadFused 39 rfl) (fun hc12 => ?_) (fun hc12 => ?_)
    · replace h := (if_pos hc12).symm.trans h
      refine g_iconst hC (rfl : 77 + 1 = 78) (xdt tt_X12_isHeadFused 42 rfl) ?_
      cases h
      exact g_zret hC hE (Or.inl rfl) (xdt tt_X12_isHeadFused 43 rfl)
    · replace h := (if_neg hc12).symm.trans h
      refine g_iconst hC (rfl : 73 + 1 = 74) (xdt tt_X12_isHeadFused 40 rfl) ?_
      refine g_goto hC (show ((74 : Nat) : Int) + 4 = ((78 : Nat) : Int) by decide) (xdt tt_X12_isHeadFused 41 rfl) ?_
      cases h
      exact g_zret hC hE (Or.inr rfl) (xdt tt_X12_isHeadFused 43 rfl)
set_option maxRecDepth 100000 in
set_option maxHeartbeats 4000000 in
theorem k_X12_isHeadFused_p4_0_b59 {K : xCtx} {E : xE} {b : Nat} (hC : xOK K cX12_isHeadFused RX12 3 (rmE 3 b)) (hZ : xZ K) {v : Int} {S' : xSt} (hE : xEnd K E (some .boolean) (YQz E v S')) {r0 : Nat} (hk0 : xkd E r0 = 4) : ∀ (S : xSt) (x1 : Int), f_X12_isHeadFused_p4_0_b59 r0 S x1 = some (v, S') → WG K E 59 [(0, vr E r0 0), (1, vi x1)] [] S := by
  intro S x1 h
  unfold f_X12_isHeadFused_p4_0_b59 at h
  refine g_iconst hC (rfl : 59 + 1 = 60) (xdt tt_X12_isHeadFused 32 rfl) ?_
  refine g_sub [0, 1] (lv' := [(0, vr E r0 0), (1, vi x1)]) rfl ?_
  exact k_X12_isHeadFused_p4_0_b60 hC hZ hE hk0 _ _ _ h
set_option maxRecDepth 100000 in
set_option maxHeartbeats 4000000 in
theorem c_X12_isHeadFused_p4_0 (l : Launch) {E : xE} {S S' : xSt} {r0 : Nat} (hk0 : xkd E r0 = 4) {v : Int} (h : f_X12_isHeadFused_p4_0 S r0 = some (v, S')) : Met l yX12_isHeadFused (xws yX12_isHeadFused cX12_isHeadFused 3 (some .boolean)) (rmD 3) (YPc E [vr E r0 0] S) (YQz E v S') 0 0 (xA E) := by
  unfold f_X12_isHeadFused_p4_0 at h
  refine met_z (by decide +kernel) (Nat.le_of_ble_eq_true rfl) (fun K hC hZ hE => ?_)
  have hC : xOK K cX12_isHeadFused RX12 3 (rmE 3 0) := hC
  show WG K E 0 [(0, vr E r0 0)] [] S
  refine g_aload_n hC rfl 0 rfl (rfl : 0 + 1 = 1) (xdt tt_X12_isHeadFused 0 rfl) ?_
  obtain ⟨v3, S2, hc1, h⟩ := bd2_i h
  refine g_callVi hC hZ hk0 kclX12 ly4_0 m_X12_head q1178 (Nat.le_of_ble_eq_true rfl) [] rfl (fun l => c_X12_head_p4_0 l hk0 hc1) rfl (Nat.le_of_ble_eq_true rfl) (rfl : 1 + 3 = 4) (xdt tt_X12_isHeadFused 1 rfl) ?_
  refine g_istore_n hC rfl (by decide) (lv' := [(1, vi v3), (0, vr E r0 0)]) rfl (rfl : 4 + 1 = 5) (xdt tt_X12_isHeadFused 2 rfl) ?_
  refine g_aload_n hC rfl 1 rfl (rfl : 5 + 1 = 6) (xdt tt_X12_isHeadFused 3 rfl) ?_
  obtain ⟨v6, S5, hc4, h⟩ := bd2_i h
  refine g_callVz hC hZ hk0 kclX12 ly4_0 m_X12_isReplayed q844 (Nat.le_of_ble_eq_true rfl) [] rfl (fun l => c_X12_isReplayed_p4_0 l hk0 hc4) rfl (Nat.le_of_ble_eq_true rfl) (rfl : 6 + 3 = 9) (xdt tt_X12_isHeadFused 4 rfl) (fun hb7 => ?_)
  refine g_if_eq hC (show ((9 : Nat) : Int) + 22 = ((31 : Nat) : Int) by decide) (rfl : 9 + 3 = 12) (xdt tt_X12_isHeadFused 5 rfl) (fun hc17 => ?_) (fun hc17 => ?_)
  · replace h := (if_pos hc17).symm.trans h
    refine g_aload_n hC rfl 1 rfl (rfl : 31 + 1 = 32) (xdt tt_X12_isHeadFused 16 rfl) ?_
    refine g_getP hC hk0 kclX12 ly4_0 10 (by decide) (rfl : r0 + 0 = r0) rfl q201 (rfl : 32 + 3 = 35) (xdt tt_X12_isHeadFused 17 rfl) ?_
    refine g_bipush hC (by decide) (rfl : 35 + 2 = 37) (xdt tt_X12_isHeadFused 18 rfl) ?_
    refine g_iald hC hk0 ly4_6 (by decide) (rfl : 37 + 1 = 38) (xdt tt_X12_isHeadFused 19 rfl) (k0 := 42) (by decide) ?_
    refine g_iconst hC (rfl : 38 + 1 = 39) (xdt tt_X12_isHeadFused 20 rfl) ?_
    refine g_icmp_le hC (show ((39 : Nat) : Int) + 20 = ((59 : Nat) : Int) by decide) (rfl : 39 + 3 = 42) (xdt tt_X12_isHeadFused 21 rfl) (fun hc15 => ?_) (fun hc15 => ?_)
    · replace h := (if_pos hc15).symm.trans h
      refine g_sub [1, 0] (lv' := [(0, vr E r0 0), (1, vi v3)]) rfl ?_
      exact k_X12_isHeadFused_p4_0_b59 hC hZ hE hk0 _ _ h
    · replace h := (if_neg hc15).symm.trans h
      refine g_aload_n hC rfl 1 rfl (rfl : 42 + 1 = 43) (xdt tt_X12_isHeadFused 22 rfl) ?_
      refine g_getP hC hk0 kclX12 ly4_0 10 (by decide) (rfl : r0 + 0 = r0) rfl q201 (rfl : 43 + 3 = 46) (xdt tt_X12_isHeadFused 23 rfl) ?_
      refine g_bipush hC (by decide) (rfl : 46 + 2 = 48) (xdt tt_X12_isHeadFused 24 rfl) ?_
      refine g_iald hC hk0 ly4_6 (by decide) (rfl : 48 + 1 = 49) (xdt tt_X12_isHeadFused 25 rfl) (k0 := 44) (by decide) ?_
      refine g_iload_n hC rfl 0 rfl (rfl : 49 + 1 = 50) (xdt tt_X12_isHeadFused 26 rfl) ?_
      refine g_iconst hC (rfl : 50 + 1 = 51) (xdt tt_X12_isHeadFused 27 rfl) ?_
      refine g_iadd hC (rfl : 51 + 1 = 52) (xdt tt_X12_isHeadFused 28 rfl) ?_
      refine g_icmp_ne hC (show ((52 : Nat) : Int) + 7 = ((59 : Nat) : Int) by decide) (rfl : 52 + 3 = 55) (xdt tt_X12_isHeadFused 29 rfl) (fun hc14 => ?_) (fun hc14 => ?_)
      · replace h := (if_pos hc14).symm.trans h
        refine g_sub [1, 0] (lv' := [(0, vr E r0 0), (1, vi v3)]) rfl ?_
        exact k_X12_isHeadFused_p4_0_b59 hC hZ hE hk0 _ _ h
      · replace h := (if_neg hc14).symm.trans h
        refine g_iconst hC (rfl : 55 + 1 = 56) (xdt tt_X12_isHeadFused 30 rfl) ?_
        refine g_goto hC (show ((56 : Nat) : Int) + 4 = ((60 : Nat) : Int) by decide) (xdt tt_X12_isHeadFused 31 rfl) ?_
        refine g_sub [1, 0] (lv' := [(0, vr E r0 0), (1, vi v3)]) rfl ?_
        exact k_X12_isHeadFused_p4_0_b60 hC hZ hE hk0 _ _ _ h
  · replace h := (if_neg hc17).symm.trans h
    refine g_iload_n hC rfl 0 rfl (rfl : 12 + 1 = 13) (xdt tt_X12_isHeadFused 6 rfl) ?_
    refine g_aload_n hC rfl 1 rfl (rfl : 13 + 1 = 14) (xdt tt_X12_isHeadFused 7 rfl) ?_
    refine g_getP hC hk0 kclX12 ly4_0 10 (by decide) (rfl : r0 + 0 = r0) rfl q201 (rfl : 14 + 3 = 17) (xdt tt_X12_isHeadFused 8 rfl) ?_
    refine g_bipush hC (by decide) (rfl : 17 + 2 = 19) (xdt tt_X12_isHeadFused 9 rfl) ?_
    refine g_iald hC hk0 ly4_6 (by decide) (rfl : 19 + 1 = 20) (xdt tt_X12_isHeadFused 10 rfl) (k0 := 13) (by decide) ?_
    refine g_icmp_ge hC (show ((20 : Nat) : Int) + 7 = ((27 : Nat) : Int) by decide) (rfl : 20 + 3 = 23) (xdt tt_X12_isHeadFused 11 rfl) (fun hc16 => ?_) (fun hc16 => ?_)
    · replace h := (if_pos hc16).symm.trans h
      refine g_iconst hC (rfl : 27 + 1 = 28) (xdt tt_X12_isHeadFused 14 rfl) ?_
      refine g_goto hC (show ((28 : Nat) : Int) + 32 = ((60 : Nat) : Int) by decide) (xdt tt_X12_isHeadFused 15 rfl) ?_
      refine g_sub [1, 0] (lv' := [(0, vr E r0 0), (1, vi v3)]) rfl ?_
      exact k_X12_isHeadFused_p4_0_b60 hC hZ hE hk0 _ _ _ h
    · replace h := (if_neg hc16).symm.trans h
      refine g_iconst hC (rfl : 23 + 1 = 24) (xdt tt_X12_isHeadFused 12 rfl) ?_
      refine g_goto hC (show ((24 : Nat) : Int) + 36 = ((60 : Nat) : Int) by decide) (xdt tt_X12_isHeadFused 13 rfl) ?_
      refine g_sub [1, 0] (lv' := [(0, vr E r0 0), (1, vi v3)]) rfl ?_
      exact k_X12_isHeadFused_p4_0_b60 hC hZ hE hk0 _ _ _ h
def f_X12_leavesQueue_p4_0_b18 (r0 : Nat) : Nat → xSt → Int → Option (xSt)
  | 0, _, _ => none
  | fuel + 1, S, x1 =>
    if wr (gI S r0 6 42) ≤ wr x1 then
      (some S)
    else
      (ckI ((43 + x1) + 1) 363 <|
      ckI (43 + x1) 363 <|
      lt1 (wI S r0 6 (wr (43 + x1)).toNat (gI S r0 6 (wr ((43 + x1) + 1)).toNat)) fun S4 =>
      ckI ((63 + x1) + 1) 363 <|
      ckI (63 + x1) 363 <|
      lt1 (wI S4 r0 6 (wr (63 + x1)).toNat (gI S4 r0 6 (wr ((63 + x1) + 1)).toNat)) fun S7 =>
      (f_X12_leavesQueue_p4_0_b18 r0 fuel) S7 (x1 + 1))
def f_X12_leavesQueue_p4_0 (S : xSt) (r0 : Nat) : Option (xSt) :=
  lt1 (wI S r0 6 42 ((gI S r0 6 42) - 1)) fun S1 =>
  f_X12_leavesQueue_p4_0_b18 r0 (fu S1) S1 0
set_option maxRecDepth 100000 in
set_option maxHeartbeats 4000000 in
theorem k_X12_leavesQueue_p4_0_b18 {K : xCtx} {E : xE} {b : Nat} (hC : xOK K cX12_leavesQueue RX12 2 (rmE 1 b)) (hZ : xZ K) {S' : xSt} (hE : xEnd K E none (YQv E S')) {r0 : Nat} (hk0 : xkd E r0 = 4) : ∀ (fuel : Nat) (S : xSt) (x1 : Int), f_X12_leavesQueue_p4_0_b18 r0 fuel S x1 = some S' → WG K E 18 [(0, vr E r0 0), (1, vi x1)] [] S := by
  intro fuel
  induction fuel with
  | zero => intro S x1 h; cases h
  | succ fuel ih =>
    intro S x1 h
    rw [f_X12_leavesQueue_p4_0_b18] at h
    refine g_iload_n hC rfl 1 rfl (rfl : 18 + 1 = 19) (xdt tt_X12_leavesQueue 12 rfl) ?_
    refine g_aload_n hC rfl 0 rfl (rfl : 19 + 1 = 20) (xdt tt_X12_leavesQueue 13 rfl) ?_
    refine g_getP hC hk0 kclX12 ly4_0 10 (by decide) (rfl : r0 + 0 = r0) rfl q201 (rfl : 20 + 3 = 23) (xdt tt_X12_leavesQueue 14 rfl) ?_
    refine g_bipush hC (by decide) (rfl : 23 + 2 = 25) (xdt tt_X12_leavesQueue 15 rfl) ?_
    refine g_iald hC hk0 ly4_6 (by decide) (rfl : 25 + 1 = 26) (xdt tt_X12_leavesQueue 16 rfl) (k0 := 42) (by decide) ?_
    refine g_icmp_ge hC (show ((26 : Nat) : Int) + 49 = ((75 : Nat) : Int) by decide) (rfl : 26 + 3 = 29) (xdt tt_X12_leavesQueue 17 rfl) (fun hc8 => ?_) (fun hc8 => ?_)
    · replace h := (if_pos hc8).symm.trans h
      cases h
      exact g_vret hC hE (xdt tt_X12_leavesQueue 48 rfl)
    · replace h := (if_neg hc8).symm.trans h
      refine g_aload_n hC rfl 0 rfl (rfl : 29 + 1 = 30) (xdt tt_X12_leavesQueue 18 rfl) ?_
      refine g_getP hC hk0 kclX12 ly4_0 10 (by decide) (rfl : r0 + 0 = r0) rfl q201 (rfl : 30 + 3 = 33) (xdt tt_X12_leavesQueue 19 rfl) ?_
      refine g_bipush hC (by decide) (rfl : 33 + 2 = 35) (xdt tt_X12_leavesQueue 20 rfl) ?_
      refine g_iload_n hC rfl 1 rfl (rfl : 35 + 1 = 36) (xdt tt_X12_leavesQueue 21 rfl) ?_
      refine g_iadd hC (rfl : 36 + 1 = 37) (xdt tt_X12_leavesQueue 22 rfl) ?_
      refine g_aload_n hC rfl 0 rfl (rfl : 37 + 1 = 38) (xdt tt_X12_leavesQueue 23 rfl) ?_
      refine g_getP hC hk0 kclX12 ly4_0 10 (by decide) (rfl : r0 + 0 = r0) rfl q201 (rfl : 38 + 3 = 41) (xdt tt_X12_leavesQueue 24 rfl) ?_
      refine g_bipush hC (by decide) (rfl : 41 + 2 = 43) (xdt tt_X12_leavesQueue 25 rfl) ?_
      refine g_iload_n hC rfl 1 rfl (rfl : 43 + 1 = 44) (xdt tt_X12_leavesQueue 26 rfl) ?_
      refine g_iadd hC (rfl : 44 + 1 = 45) (xdt tt_X12_leavesQueue 27 rfl) ?_
      refine g_iconst hC (rfl : 45 + 1 = 46) (xdt tt_X12_leavesQueue 28 rfl) ?_
      refine g_iadd hC (rfl : 46 + 1 = 47) (xdt tt_X12_leavesQueue 29 rfl) ?_
      obtain ⟨hi2, h⟩ := ckI_i h
      refine g_iald hC hk0 ly4_6 hi2 (rfl : 47 + 1 = 48) (xdt tt_X12_leavesQueue 30 rfl) (k0 := (wr ((43 + x1) + 1)).toNat) rfl ?_
      obtain ⟨hi3, h⟩ := ckI_i h
      obtain ⟨S4, hS4, h⟩ := lt1_i h
      refine g_iast hC hk0 ly4_6 hi3 rfl hS4 (rfl : 48 + 1 = 49) (xdt tt_X12_leavesQueue 31 rfl) ?_
      refine g_aload_n hC rfl 0 rfl (rfl : 49 + 1 = 50) (xdt tt_X12_leavesQueue 32 rfl) ?_
      refine g_getP hC hk0 kclX12 ly4_0 10 (by decide) (rfl : r0 + 0 = r0) rfl q201 (rfl : 50 + 3 = 53) (xdt tt_X12_leavesQueue 33 rfl) ?_
      refine g_bipush hC (by decide) (rfl : 53 + 2 = 55) (xdt tt_X12_leavesQueue 34 rfl) ?_
      refine g_iload_n hC rfl 1 rfl (rfl : 55 + 1 = 56) (xdt tt_X12_leavesQueue 35 rfl) ?_
      refine g_iadd hC (rfl : 56 + 1 = 57) (xdt tt_X12_leavesQueue 36 rfl) ?_
      refine g_aload_n hC rfl 0 rfl (rfl : 57 + 1 = 58) (xdt tt_X12_leavesQueue 37 rfl) ?_
      refine g_getP hC hk0 kclX12 ly4_0 10 (by decide) (rfl : r0 + 0 = r0) rfl q201 (rfl : 58 + 3 = 61) (xdt tt_X12_leavesQueue 38 rfl) ?_
      refine g_bipush hC (by decide) (rfl : 61 + 2 = 63) (xdt tt_X12_leavesQueue 39 rfl) ?_
      refine g_iload_n hC rfl 1 rfl (rfl : 63 + 1 = 64) (xdt tt_X12_leavesQueue 40 rfl) ?_
      refine g_iadd hC (rfl : 64 + 1 = 65) (xdt tt_X12_leavesQueue 41 rfl) ?_
      refine g_iconst hC (rfl : 65 + 1 = 66) (xdt tt_X12_leavesQueue 42 rfl) ?_
      refine g_iadd hC (rfl : 66 + 1 = 67) (xdt tt_X12_leavesQueue 43 rfl) ?_
      obtain ⟨hi5, h⟩ := ckI_i h
      refine g_iald hC hk0 ly4_6 hi5 (rfl : 67 + 1 = 68) (xdt tt_X12_leavesQueue 44 rfl) (k0 := (wr ((63 + x1) + 1)).toNat) rfl ?_
      obtain ⟨hi6, h⟩ := ckI_i h
      obtain ⟨S7, hS7, h⟩ := lt1_i h
      refine g_iast hC hk0 ly4_6 hi6 rfl hS7 (rfl : 68 + 1 = 69) (xdt tt_X12_leavesQueue 45 rfl) ?_
      refine g_iinc hC 1 rfl (by decide) (lv' := [(1, vi (x1 + 1)), (0, vr E r0 0)]) rfl (rfl : 69 + 3 = 72) (xdt tt_X12_leavesQueue 46 rfl) ?_
      refine g_goto hC (show ((72 : Nat) : Int) + (-54) = ((18 : Nat) : Int) by decide) (xdt tt_X12_leavesQueue 47 rfl) ?_
      refine g_sub [1, 0] (lv' := [(0, vr E r0 0), (1, vi (x1 + 1))]) rfl ?_
      exact ih _ _ h
set_option maxRecDepth 100000 in
set_option maxHeartbeats 4000000 in
theorem c_X12_leavesQueue_p4_0 (l : Launch) {E : xE} {S S' : xSt} {r0 : Nat} (hk0 : xkd E r0 = 4) (h : f_X12_leavesQueue_p4_0 S r0 = some S') : Met l yX12_leavesQueue (xws yX12_leavesQueue cX12_leavesQueue 2 none) (rmD 1) (YPc E [vr E r0 0] S) (YQv E S') 0 0 (xA E) := by
  unfold f_X12_leavesQueue_p4_0 at h
  refine met_v (by decide +kernel) (Nat.le_of_ble_eq_true rfl) (fun K hC hZ hE => ?_)
  have hC : xOK K cX12_leavesQueue RX12 2 (rmE 1 0) := hC
  show WG K E 0 [(0, vr E r0 0)] [] S
  refine g_aload_n hC rfl 0 rfl (rfl : 0 + 1 = 1) (xdt tt_X12_leavesQueue 0 rfl) ?_
  refine g_getP hC hk0 kclX12 ly4_0 10 (by decide) (rfl : r0 + 0 = r0) rfl q201 (rfl : 1 + 3 = 4) (xdt tt_X12_leavesQueue 1 rfl) ?_
  refine g_bipush hC (by decide) (rfl : 4 + 2 = 6) (xdt tt_X12_leavesQueue 2 rfl) ?_
  refine g_aload_n hC rfl 0 rfl (rfl : 6 + 1 = 7) (xdt tt_X12_leavesQueue 3 rfl) ?_
  refine g_getP hC hk0 kclX12 ly4_0 10 (by decide) (rfl : r0 + 0 = r0) rfl q201 (rfl : 7 + 3 = 10) (xdt tt_X12_leavesQueue 4 rfl) ?_
  refine g_bipush hC (by decide) (rfl : 10 + 2 = 12) (xdt tt_X12_leavesQueue 5 rfl) ?_
  refine g_iald hC hk0 ly4_6 (by decide) (rfl : 12 + 1 = 13) (xdt tt_X12_leavesQueue 6 rfl) (k0 := 42) (by decide) ?_
  refine g_iconst hC (rfl : 13 + 1 = 14) (xdt tt_X12_leavesQueue 7 rfl) ?_
  refine g_isub hC (rfl : 14 + 1 = 15) (xdt tt_X12_leavesQueue 8 rfl) ?_
  obtain ⟨S1, hS1, h⟩ := lt1_i h
  refine g_iast hC hk0 ly4_6 (by decide) (by decide) hS1 (rfl : 15 + 1 = 16) (xdt tt_X12_leavesQueue 9 rfl) ?_
  refine g_iconst hC (rfl : 16 + 1 = 17) (xdt tt_X12_leavesQueue 10 rfl) ?_
  refine g_istore_n hC rfl (by decide) (lv' := [(1, vi 0), (0, vr E r0 0)]) rfl (rfl : 17 + 1 = 18) (xdt tt_X12_leavesQueue 11 rfl) ?_
  refine g_sub [1, 0] (lv' := [(0, vr E r0 0), (1, vi 0)]) rfl ?_
  exact k_X12_leavesQueue_p4_0_b18 hC hZ hE hk0 _ _ _ h
def f_X12_empties_p4_0 (S : xSt) (r0 : Nat) : Option (xSt) :=
  lt1 (wI S r0 6 42 0) fun S1 =>
  lt1 (wI S1 r0 6 10 0) fun S2 =>
  lt1 (wI S2 r0 6 9 0) fun S3 =>
  some S3
set_option maxRecDepth 100000 in
set_option maxHeartbeats 4000000 in
theorem c_X12_empties_p4_0 (l : Launch) {E : xE} {S S' : xSt} {r0 : Nat} (hk0 : xkd E r0 = 4) (h : f_X12_empties_p4_0 S r0 = some S') : Met l yX12_empties (xws yX12_empties cX12_empties 1 none) (rmD 1) (YPc E [vr E r0 0] S) (YQv E S') 0 0 (xA E) := by
  unfold f_X12_empties_p4_0 at h
  refine met_v (by decide +kernel) (Nat.le_of_ble_eq_true rfl) (fun K hC hZ hE => ?_)
  have hC : xOK K cX12_empties RX12 1 (rmE 1 0) := hC
  show WG K E 0 [(0, vr E r0 0)] [] S
  refine g_aload_n hC rfl 0 rfl (rfl : 0 + 1 = 1) (xdt tt_X12_empties 0 rfl) ?_
  refine g_getP hC hk0 kclX12 ly4_0 10 (by decide) (rfl : r0 + 0 = r0) rfl q201 (rfl : 1 + 3 = 4) (xdt tt_X12_empties 1 rfl) ?_
  refine g_bipush hC (by decide) (rfl : 4 + 2 = 6) (xdt tt_X12_empties 2 rfl) ?_
  refine g_iconst hC (rfl : 6 + 1 = 7) (xdt tt_X12_empties 3 rfl) ?_
  obtain ⟨S1, hS1, h⟩ := lt1_i h
  refine g_iast hC hk0 ly4_6 (by decide) (by decide) hS1 (rfl : 7 + 1 = 8) (xdt tt_X12_empties 4 rfl) ?_
  refine g_aload_n hC rfl 0 rfl (rfl : 8 + 1 = 9) (xdt tt_X12_empties 5 rfl) ?_
  refine g_getP hC hk0 kclX12 ly4_0 10 (by decide) (rfl : r0 + 0 = r0) rfl q201 (rfl : 9 + 3 = 12) (xdt tt_X12_empties 6 rfl) ?_
  refine g_bipush hC (by decide) (rfl : 12 + 2 = 14) (xdt tt_X12_empties 7 rfl) ?_
  refine g_iconst hC (rfl : 14 + 1 = 15) (xdt tt_X12_empties 8 rfl) ?_
  obtain ⟨S2, hS2, h⟩ := lt1_i h
  refine g_iast hC hk0 ly4_6 (by decide) (by decide) hS2 (rfl : 15 + 1 = 16) (xdt tt_X12_empties 9 rfl) ?_
  refine g_aload_n hC rfl 0 rfl (rfl : 16 + 1 = 17) (xdt tt_X12_empties 10 rfl) ?_
  refine g_getP hC hk0 kclX12 ly4_0 10 (by decide) (rfl : r0 + 0 = r0) rfl q201 (rfl : 17 + 3 = 20) (xdt tt_X12_empties 11 rfl) ?_
  refine g_bipush hC (by decide) (rfl : 20 + 2 = 22) (xdt tt_X12_empties 12 rfl) ?_
  refine g_iconst hC (rfl : 22 + 1 = 23) (xdt tt_X12_empties 13 rfl) ?_
  obtain ⟨S3, hS3, h⟩ := lt1_i h
  refine g_iast hC hk0 ly4_6 (by decide) (by decide) hS3 (rfl : 23 + 1 = 24) (xdt tt_X12_empties 14 rfl) ?_
  cases h
  exact g_vret hC hE (xdt tt_X12_empties 15 rfl)
def f_X12_sets_p4_0 (S : xSt) (r0 : Nat) (a1 : Int) : Option (xSt) :=
  lt1 (wI S r0 6 3 a1) fun S1 =>
  lt1 (wI S1 r0 6 4 1) fun S2 =>
  some S2
set_option maxRecDepth 100000 in
set_option maxHeartbeats 4000000 in
theorem c_X12_sets_p4_0 (l : Launch) {E : xE} {S S' : xSt} {r0 : Nat} {a1 : Int} (hk0 : xkd E r0 = 4) (h : f_X12_sets_p4_0 S r0 a1 = some S') : Met l yX12_sets (xws yX12_sets cX12_sets 2 none) (rmD 1) (YPc E [vr E r0 0, vi a1] S) (YQv E S') 0 0 (xA E) := by
  unfold f_X12_sets_p4_0 at h
  refine met_v (by decide +kernel) (Nat.le_of_ble_eq_true rfl) (fun K hC hZ hE => ?_)
  have hC : xOK K cX12_sets RX12 2 (rmE 1 0) := hC
  show WG K E 0 [(0, vr E r0 0), (1, vi a1)] [] S
  refine g_aload_n hC rfl 0 rfl (rfl : 0 + 1 = 1) (xdt tt_X12_sets 0 rfl) ?_
  refine g_getP hC hk0 kclX12 ly4_0 10 (by decide) (rfl : r0 + 0 = r0) rfl q201 (rfl : 1 + 3 = 4) (xdt tt_X12_sets 1 rfl) ?_
  refine g_iconst hC (rfl : 4 + 1 = 5) (xdt tt_X12_sets 2 rfl) ?_
  refine g_iload_n hC rfl 1 rfl (rfl : 5 + 1 = 6) (xdt tt_X12_sets 3 rfl) ?_
  obtain ⟨S1, hS1, h⟩ := lt1_i h
  refine g_iast hC hk0 ly4_6 (by decide) (by decide) hS1 (rfl : 6 + 1 = 7) (xdt tt_X12_sets 4 rfl) ?_
  refine g_aload_n hC rfl 0 rfl (rfl : 7 + 1 = 8) (xdt tt_X12_sets 5 rfl) ?_
  refine g_getP hC hk0 kclX12 ly4_0 10 (by decide) (rfl : r0 + 0 = r0) rfl q201 (rfl : 8 + 3 = 11) (xdt tt_X12_sets 6 rfl) ?_
  refine g_iconst hC (rfl : 11 + 1 = 12) (xdt tt_X12_sets 7 rfl) ?_
  refine g_iconst hC (rfl : 12 + 1 = 13) (xdt tt_X12_sets 8 rfl) ?_
  obtain ⟨S2, hS2, h⟩ := lt1_i h
  refine g_iast hC hk0 ly4_6 (by decide) (by decide) hS2 (rfl : 13 + 1 = 14) (xdt tt_X12_sets 9 rfl) ?_
  cases h
  exact g_vret hC hE (xdt tt_X12_sets 10 rfl)
