def f_X12_isLoopable_p4_0 (S : xSt) (r0 : Nat) (a1 : Int) : Option (Int × xSt) :=
  bd2 (f_X12_isNumber_p4_0 S r0 a1) fun v3 S2 =>
  bd2 (f_X12_is_p4_0 S2 r0 v3) fun v7 S6 =>
  if wr v7 = 0 then
    (some (0, S6))
  else
    (bd2 (f_X12_isLoop_p4_0 S6 r0 a1) fun v11 S10 =>
    if wr v11 = 0 then
      (some (0, S10))
    else
      (some (1, S10)))
set_option maxRecDepth 100000 in
set_option maxHeartbeats 4000000 in
theorem c_X12_isLoopable_p4_0 (l : Launch) {E : xE} {S S' : xSt} {r0 : Nat} {a1 : Int} (hk0 : xkd E r0 = 4) {v : Int} (h : f_X12_isLoopable_p4_0 S r0 a1 = some (v, S')) : Met l yX12_isLoopable (xws yX12_isLoopable cX12_isLoopable 2 (some .boolean)) (rmD 4) (YPc E [vr E r0 0, vi a1] S) (YQz E v S') 0 0 (xA E) := by
  unfold f_X12_isLoopable_p4_0 at h
  refine met_z (by decide +kernel) (Nat.le_of_ble_eq_true rfl) (fun K hC hZ hE => ?_)
  have hC : xOK K cX12_isLoopable RX12 2 (rmE 4 0) := hC
  show WG K E 0 [(0, vr E r0 0), (1, vi a1)] [] S
  refine g_aload_n hC rfl 0 rfl (rfl : 0 + 1 = 1) (xdt tt_X12_isLoopable 0 rfl) ?_
  refine g_aload_n hC rfl 0 rfl (rfl : 1 + 1 = 2) (xdt tt_X12_isLoopable 1 rfl) ?_
  refine g_iload_n hC rfl 1 rfl (rfl : 2 + 1 = 3) (xdt tt_X12_isLoopable 2 rfl) ?_
  obtain ⟨v3, S2, hc1, h⟩ := bd2_i h
  refine g_callVz hC hZ hk0 kclX12 ly4_0 m_X12_isNumber q651 (Nat.le_of_ble_eq_true rfl) [vi a1] rfl (fun l => c_X12_isNumber_p4_0 l hk0 hc1) rfl (Nat.le_of_ble_eq_true rfl) (rfl : 3 + 3 = 6) (xdt tt_X12_isLoopable 3 rfl) (fun hb4 => ?_)
  obtain ⟨v7, S6, hc5, h⟩ := bd2_i h
  refine g_callVz hC hZ hk0 kclX12 ly4_0 m_X12_is q655 (Nat.le_of_ble_eq_true rfl) [vi v3] rfl (fun l => c_X12_is_p4_0 l hk0 hc5) rfl (Nat.le_of_ble_eq_true rfl) (rfl : 6 + 3 = 9) (xdt tt_X12_isLoopable 4 rfl) (fun hb8 => ?_)
  refine g_if_eq hC (show ((9 : Nat) : Int) + 15 = ((24 : Nat) : Int) by decide) (rfl : 9 + 3 = 12) (xdt tt_X12_isLoopable 5 rfl) (fun hc14 => ?_) (fun hc14 => ?_)
  · replace h := (if_pos hc14).symm.trans h
    refine g_iconst hC (rfl : 24 + 1 = 25) (xdt tt_X12_isLoopable 12 rfl) ?_
    cases h
    exact g_zret hC hE (Or.inl rfl) (xdt tt_X12_isLoopable 13 rfl)
  · replace h := (if_neg hc14).symm.trans h
    refine g_aload_n hC rfl 0 rfl (rfl : 12 + 1 = 13) (xdt tt_X12_isLoopable 6 rfl) ?_
    refine g_iload_n hC rfl 1 rfl (rfl : 13 + 1 = 14) (xdt tt_X12_isLoopable 7 rfl) ?_
    obtain ⟨v11, S10, hc9, h⟩ := bd2_i h
    refine g_callVz hC hZ hk0 kclX12 ly4_0 m_X12_isLoop q755 (Nat.le_of_ble_eq_true rfl) [vi a1] rfl (fun l => c_X12_isLoop_p4_0 l hk0 hc9) rfl (Nat.le_of_ble_eq_true rfl) (rfl : 14 + 3 = 17) (xdt tt_X12_isLoopable 8 rfl) (fun hb12 => ?_)
    refine g_if_eq hC (show ((17 : Nat) : Int) + 7 = ((24 : Nat) : Int) by decide) (rfl : 17 + 3 = 20) (xdt tt_X12_isLoopable 9 rfl) (fun hc13 => ?_) (fun hc13 => ?_)
    · replace h := (if_pos hc13).symm.trans h
      refine g_iconst hC (rfl : 24 + 1 = 25) (xdt tt_X12_isLoopable 12 rfl) ?_
      cases h
      exact g_zret hC hE (Or.inl rfl) (xdt tt_X12_isLoopable 13 rfl)
    · replace h := (if_neg hc13).symm.trans h
      refine g_iconst hC (rfl : 20 + 1 = 21) (xdt tt_X12_isLoopable 10 rfl) ?_
      refine g_goto hC (show ((21 : Nat) : Int) + 4 = ((25 : Nat) : Int) by decide) (xdt tt_X12_isLoopable 11 rfl) ?_
      cases h
      exact g_zret hC hE (Or.inr rfl) (xdt tt_X12_isLoopable 13 rfl)
def f_X12_fusable_p4_0_b9 (r0 : Nat) : Nat → xSt → Int → Int → Option (Int × xSt)
  | 0, _, _, _ => none
  | fuel + 1, S, x1, x2 =>
    if wr (gI S r0 0 1) ≤ wr x2 then
      (some (x1, S))
    else
      (bd2 (f_X12_doesFuse_p4_0 S r0 x2) fun v4 S3 =>
      if ¬ wr v4 = 0 then
        ((f_X12_fusable_p4_0_b9 r0 fuel) S3 (x1 + 1) (x2 + 1))
      else
        ((f_X12_fusable_p4_0_b9 r0 fuel) S3 x1 (x2 + 1)))
def f_X12_fusable_p4_0 (S : xSt) (r0 : Nat) : Option (Int × xSt) :=
  lt1 (wI S r0 0 0 0) fun S1 =>
  f_X12_fusable_p4_0_b9 r0 (fu S1) S1 0 0
set_option maxRecDepth 100000 in
set_option maxHeartbeats 4000000 in
theorem k_X12_fusable_p4_0_b9 {K : xCtx} {E : xE} {b : Nat} (hC : xOK K cX12_fusable RX12 3 (rmE 3 b)) (hZ : xZ K) {v : Int} {S' : xSt} (hE : xEnd K E (some .int) (YQi E v S')) {r0 : Nat} (hk0 : xkd E r0 = 4) : ∀ (fuel : Nat) (S : xSt) (x1 : Int) (x2 : Int), f_X12_fusable_p4_0_b9 r0 fuel S x1 x2 = some (v, S') → WG K E 9 [(0, vr E r0 0), (1, vi x1), (2, vi x2)] [] S := by
  intro fuel
  induction fuel with
  | zero => intro S x1 x2 h; cases h
  | succ fuel ih =>
    intro S x1 x2 h
    rw [f_X12_fusable_p4_0_b9] at h
    refine g_iload_n hC rfl 2 rfl (rfl : 9 + 1 = 10) (xdt tt_X12_fusable 7 rfl) ?_
    refine g_aload_n hC rfl 0 rfl (rfl : 10 + 1 = 11) (xdt tt_X12_fusable 8 rfl) ?_
    refine g_getI hC hk0 kclX12 ly4_0 1 (by decide) rfl q228 (rfl : 11 + 3 = 14) (xdt tt_X12_fusable 9 rfl) ?_
    refine g_icmp_ge hC (show ((14 : Nat) : Int) + 24 = ((38 : Nat) : Int) by decide) (rfl : 14 + 3 = 17) (xdt tt_X12_fusable 10 rfl) (fun hc7 => ?_) (fun hc7 => ?_)
    · replace h := (if_pos hc7).symm.trans h
      refine g_iload_n hC rfl 1 rfl (rfl : 38 + 1 = 39) (xdt tt_X12_fusable 22 rfl) ?_
      cases h
      exact g_iret hC hE (xdt tt_X12_fusable 23 rfl)
    · replace h := (if_neg hc7).symm.trans h
      refine g_aload_n hC rfl 0 rfl (rfl : 17 + 1 = 18) (xdt tt_X12_fusable 11 rfl) ?_
      refine g_iload_n hC rfl 2 rfl (rfl : 18 + 1 = 19) (xdt tt_X12_fusable 12 rfl) ?_
      obtain ⟨v4, S3, hc2, h⟩ := bd2_i h
      refine g_callVz hC hZ hk0 kclX12 ly4_0 m_X12_doesFuse q731 (Nat.le_of_ble_eq_true rfl) [vi x2] rfl (fun l => c_X12_doesFuse_p4_0 l hk0 hc2) rfl (Nat.le_of_ble_eq_true rfl) (rfl : 19 + 3 = 22) (xdt tt_X12_fusable 13 rfl) (fun hb5 => ?_)
      refine g_if_ne hC (show ((22 : Nat) : Int) + 6 = ((28 : Nat) : Int) by decide) (rfl : 22 + 3 = 25) (xdt tt_X12_fusable 14 rfl) (fun hc6 => ?_) (fun hc6 => ?_)
      · replace h := (if_pos hc6).symm.trans h
        refine g_iload_n hC rfl 1 rfl (rfl : 28 + 1 = 29) (xdt tt_X12_fusable 16 rfl) ?_
        refine g_iconst hC (rfl : 29 + 1 = 30) (xdt tt_X12_fusable 17 rfl) ?_
        refine g_iadd hC (rfl : 30 + 1 = 31) (xdt tt_X12_fusable 18 rfl) ?_
        refine g_istore_n hC rfl (by decide) (lv' := [(1, vi (x1 + 1)), (0, vr E r0 0), (2, vi x2)]) rfl (rfl : 31 + 1 = 32) (xdt tt_X12_fusable 19 rfl) ?_
        refine g_iinc hC 2 rfl (by decide) (lv' := [(2, vi (x2 + 1)), (1, vi (x1 + 1)), (0, vr E r0 0)]) rfl (rfl : 32 + 3 = 35) (xdt tt_X12_fusable 20 rfl) ?_
        refine g_goto hC (show ((35 : Nat) : Int) + (-26) = ((9 : Nat) : Int) by decide) (xdt tt_X12_fusable 21 rfl) ?_
        refine g_sub [2, 1, 0] (lv' := [(0, vr E r0 0), (1, vi (x1 + 1)), (2, vi (x2 + 1))]) rfl ?_
        exact ih _ _ _ h
      · replace h := (if_neg hc6).symm.trans h
        refine g_goto hC (show ((25 : Nat) : Int) + 7 = ((32 : Nat) : Int) by decide) (xdt tt_X12_fusable 15 rfl) ?_
        refine g_iinc hC 2 rfl (by decide) (lv' := [(2, vi (x2 + 1)), (0, vr E r0 0), (1, vi x1)]) rfl (rfl : 32 + 3 = 35) (xdt tt_X12_fusable 20 rfl) ?_
        refine g_goto hC (show ((35 : Nat) : Int) + (-26) = ((9 : Nat) : Int) by decide) (xdt tt_X12_fusable 21 rfl) ?_
        refine g_sub [1, 2, 0] (lv' := [(0, vr E r0 0), (1, vi x1), (2, vi (x2 + 1))]) rfl ?_
        exact ih _ _ _ h
set_option maxRecDepth 100000 in
set_option maxHeartbeats 4000000 in
theorem c_X12_fusable_p4_0 (l : Launch) {E : xE} {S S' : xSt} {r0 : Nat} (hk0 : xkd E r0 = 4) {v : Int} (h : f_X12_fusable_p4_0 S r0 = some (v, S')) : Met l yX12_fusable (xws yX12_fusable cX12_fusable 3 (some .int)) (rmD 3) (YPc E [vr E r0 0] S) (YQi E v S') 0 0 (xA E) := by
  unfold f_X12_fusable_p4_0 at h
  refine met_i (by decide +kernel) (Nat.le_of_ble_eq_true rfl) (fun K hC hZ hE => ?_)
  have hC : xOK K cX12_fusable RX12 3 (rmE 3 0) := hC
  show WG K E 0 [(0, vr E r0 0)] [] S
  refine g_aload_n hC rfl 0 rfl (rfl : 0 + 1 = 1) (xdt tt_X12_fusable 0 rfl) ?_
  refine g_iconst hC (rfl : 1 + 1 = 2) (xdt tt_X12_fusable 1 rfl) ?_
  obtain ⟨S1, hS1, h⟩ := lt1_i h
  refine g_putI hC hk0 kclX12 ly4_0 0 (by decide) rfl rfl rfl q259 hS1 (rfl : 2 + 3 = 5) (xdt tt_X12_fusable 2 rfl) ?_
  refine g_iconst hC (rfl : 5 + 1 = 6) (xdt tt_X12_fusable 3 rfl) ?_
  refine g_istore_n hC rfl (by decide) (lv' := [(1, vi 0), (0, vr E r0 0)]) rfl (rfl : 6 + 1 = 7) (xdt tt_X12_fusable 4 rfl) ?_
  refine g_iconst hC (rfl : 7 + 1 = 8) (xdt tt_X12_fusable 5 rfl) ?_
  refine g_istore_n hC rfl (by decide) (lv' := [(2, vi 0), (1, vi 0), (0, vr E r0 0)]) rfl (rfl : 8 + 1 = 9) (xdt tt_X12_fusable 6 rfl) ?_
  refine g_sub [2, 1, 0] (lv' := [(0, vr E r0 0), (1, vi 0), (2, vi 0)]) rfl ?_
  exact k_X12_fusable_p4_0_b9 hC hZ hE hk0 _ _ _ _ h
def f_X12_crossing_p4_0_b9 (r0 : Nat) : Nat → xSt → Int → Int → Option (Int × xSt)
  | 0, _, _, _ => none
  | fuel + 1, S, x1, x2 =>
    if wr (gI S r0 0 1) ≤ wr x2 then
      (some (x1, S))
    else
      (bd2 (f_X12_doesCross_p4_0 S r0 x2) fun v4 S3 =>
      if wr v4 = 0 then
        ((f_X12_crossing_p4_0_b9 r0 fuel) S3 x1 (x2 + 1))
      else
        ((f_X12_crossing_p4_0_b9 r0 fuel) S3 (x1 + 1) (x2 + 1)))
def f_X12_crossing_p4_0 (S : xSt) (r0 : Nat) : Option (Int × xSt) :=
  lt1 (wI S r0 0 0 0) fun S1 =>
  f_X12_crossing_p4_0_b9 r0 (fu S1) S1 0 0
set_option maxRecDepth 100000 in
set_option maxHeartbeats 4000000 in
theorem k_X12_crossing_p4_0_b9 {K : xCtx} {E : xE} {b : Nat} (hC : xOK K cX12_crossing RX12 3 (rmE 3 b)) (hZ : xZ K) {v : Int} {S' : xSt} (hE : xEnd K E (some .int) (YQi E v S')) {r0 : Nat} (hk0 : xkd E r0 = 4) : ∀ (fuel : Nat) (S : xSt) (x1 : Int) (x2 : Int), f_X12_crossing_p4_0_b9 r0 fuel S x1 x2 = some (v, S') → WG K E 9 [(0, vr E r0 0), (1, vi x1), (2, vi x2)] [] S := by
  intro fuel
  induction fuel with
  | zero => intro S x1 x2 h; cases h
  | succ fuel ih =>
    intro S x1 x2 h
    rw [f_X12_crossing_p4_0_b9] at h
    refine g_iload_n hC rfl 2 rfl (rfl : 9 + 1 = 10) (xdt tt_X12_crossing 7 rfl) ?_
    refine g_aload_n hC rfl 0 rfl (rfl : 10 + 1 = 11) (xdt tt_X12_crossing 8 rfl) ?_
    refine g_getI hC hk0 kclX12 ly4_0 1 (by decide) rfl q228 (rfl : 11 + 3 = 14) (xdt tt_X12_crossing 9 rfl) ?_
    refine g_icmp_ge hC (show ((14 : Nat) : Int) + 21 = ((35 : Nat) : Int) by decide) (rfl : 14 + 3 = 17) (xdt tt_X12_crossing 10 rfl) (fun hc7 => ?_) (fun hc7 => ?_)
    · replace h := (if_pos hc7).symm.trans h
      refine g_iload_n hC rfl 1 rfl (rfl : 35 + 1 = 36) (xdt tt_X12_crossing 21 rfl) ?_
      cases h
      exact g_iret hC hE (xdt tt_X12_crossing 22 rfl)
    · replace h := (if_neg hc7).symm.trans h
      refine g_aload_n hC rfl 0 rfl (rfl : 17 + 1 = 18) (xdt tt_X12_crossing 11 rfl) ?_
      refine g_iload_n hC rfl 2 rfl (rfl : 18 + 1 = 19) (xdt tt_X12_crossing 12 rfl) ?_
      obtain ⟨v4, S3, hc2, h⟩ := bd2_i h
      refine g_callVz hC hZ hk0 kclX12 ly4_0 m_X12_doesCross q704 (Nat.le_of_ble_eq_true rfl) [vi x2] rfl (fun l => c_X12_doesCross_p4_0 l hk0 hc2) rfl (Nat.le_of_ble_eq_true rfl) (rfl : 19 + 3 = 22) (xdt tt_X12_crossing 13 rfl) (fun hb5 => ?_)
      refine g_if_eq hC (show ((22 : Nat) : Int) + 7 = ((29 : Nat) : Int) by decide) (rfl : 22 + 3 = 25) (xdt tt_X12_crossing 14 rfl) (fun hc6 => ?_) (fun hc6 => ?_)
      · replace h := (if_pos hc6).symm.trans h
        refine g_iinc hC 2 rfl (by decide) (lv' := [(2, vi (x2 + 1)), (0, vr E r0 0), (1, vi x1)]) rfl (rfl : 29 + 3 = 32) (xdt tt_X12_crossing 19 rfl) ?_
        refine g_goto hC (show ((32 : Nat) : Int) + (-23) = ((9 : Nat) : Int) by decide) (xdt tt_X12_crossing 20 rfl) ?_
        refine g_sub [1, 2, 0] (lv' := [(0, vr E r0 0), (1, vi x1), (2, vi (x2 + 1))]) rfl ?_
        exact ih _ _ _ h
      · replace h := (if_neg hc6).symm.trans h
        refine g_iload_n hC rfl 1 rfl (rfl : 25 + 1 = 26) (xdt tt_X12_crossing 15 rfl) ?_
        refine g_iconst hC (rfl : 26 + 1 = 27) (xdt tt_X12_crossing 16 rfl) ?_
        refine g_iadd hC (rfl : 27 + 1 = 28) (xdt tt_X12_crossing 17 rfl) ?_
        refine g_istore_n hC rfl (by decide) (lv' := [(1, vi (x1 + 1)), (0, vr E r0 0), (2, vi x2)]) rfl (rfl : 28 + 1 = 29) (xdt tt_X12_crossing 18 rfl) ?_
        refine g_iinc hC 2 rfl (by decide) (lv' := [(2, vi (x2 + 1)), (1, vi (x1 + 1)), (0, vr E r0 0)]) rfl (rfl : 29 + 3 = 32) (xdt tt_X12_crossing 19 rfl) ?_
        refine g_goto hC (show ((32 : Nat) : Int) + (-23) = ((9 : Nat) : Int) by decide) (xdt tt_X12_crossing 20 rfl) ?_
        refine g_sub [2, 1, 0] (lv' := [(0, vr E r0 0), (1, vi (x1 + 1)), (2, vi (x2 + 1))]) rfl ?_
        exact ih _ _ _ h
set_option maxRecDepth 100000 in
set_option maxHeartbeats 4000000 in
theorem c_X12_crossing_p4_0 (l : Launch) {E : xE} {S S' : xSt} {r0 : Nat} (hk0 : xkd E r0 = 4) {v : Int} (h : f_X12_crossing_p4_0 S r0 = some (v, S')) : Met l yX12_crossing (xws yX12_crossing cX12_crossing 3 (some .int)) (rmD 3) (YPc E [vr E r0 0] S) (YQi E v S') 0 0 (xA E) := by
  unfold f_X12_crossing_p4_0 at h
  refine met_i (by decide +kernel) (Nat.le_of_ble_eq_true rfl) (fun K hC hZ hE => ?_)
  have hC : xOK K cX12_crossing RX12 3 (rmE 3 0) := hC
  show WG K E 0 [(0, vr E r0 0)] [] S
  refine g_aload_n hC rfl 0 rfl (rfl : 0 + 1 = 1) (xdt tt_X12_crossing 0 rfl) ?_
  refine g_iconst hC (rfl : 1 + 1 = 2) (xdt tt_X12_crossing 1 rfl) ?_
  obtain ⟨S1, hS1, h⟩ := lt1_i h
  refine g_putI hC hk0 kclX12 ly4_0 0 (by decide) rfl rfl rfl q259 hS1 (rfl : 2 + 3 = 5) (xdt tt_X12_crossing 2 rfl) ?_
  refine g_iconst hC (rfl : 5 + 1 = 6) (xdt tt_X12_crossing 3 rfl) ?_
  refine g_istore_n hC rfl (by decide) (lv' := [(1, vi 0), (0, vr E r0 0)]) rfl (rfl : 6 + 1 = 7) (xdt tt_X12_crossing 4 rfl) ?_
  refine g_iconst hC (rfl : 7 + 1 = 8) (xdt tt_X12_crossing 5 rfl) ?_
  refine g_istore_n hC rfl (by decide) (lv' := [(2, vi 0), (1, vi 0), (0, vr E r0 0)]) rfl (rfl : 8 + 1 = 9) (xdt tt_X12_crossing 6 rfl) ?_
  refine g_sub [2, 1, 0] (lv' := [(0, vr E r0 0), (1, vi 0), (2, vi 0)]) rfl ?_
  exact k_X12_crossing_p4_0_b9 hC hZ hE hk0 _ _ _ _ h
def f_X12_ofKind_p4_0_b23 (r0 : Nat) : Nat → xSt → Int → Int → Int → Int → Option (Int × xSt)
  | 0, _, _, _, _, _ => none
  | fuel + 1, S, x1, x2, x3, x4 =>
    if wr (gI S r0 0 1) ≤ wr x4 then
      (some (x3, S))
    else
      (ckI x4 60 <|
      if ¬ wr (gI S r0 1 (wr x4).toNat) = wr x1 then
        ((f_X12_ofKind_p4_0_b23 r0 fuel) S x1 x2 x3 (x4 + 1))
      else
        (if wr x2 = 0 then
          ((f_X12_ofKind_p4_0_b23 r0 fuel) S x1 x2 (x3 + 1) (x4 + 1))
        else
          (ckI (203 + x4) 363 <|
          (f_X12_ofKind_p4_0_b23 r0 fuel) S x1 x2 (x3 + (gI S r0 6 (wr (203 + x4)).toNat)) (x4 + 1))))
def f_X12_ofKind_p4_0 (S : xSt) (r0 : Nat) (a1 : Int) (a2 : Int) : Option (Int × xSt) :=
  bd2 (f_X12_isIn S (wr a1) 0 9) fun v3 S2 =>
  bd2 (f_X12_is_p4_0 S2 r0 v3) fun v7 S6 =>
  if ¬ wr v7 = 0 then
    (f_X12_ofKind_p4_0_b23 r0 (fu S6) S6 a1 a2 0 0)
  else
    (some (0, S6))
set_option maxRecDepth 100000 in
set_option maxHeartbeats 4000000 in
theorem k_X12_ofKind_p4_0_b23 {K : xCtx} {E : xE} {b : Nat} (hC : xOK K cX12_ofKind RX12 5 (rmE 2 b)) (hZ : xZ K) {v : Int} {S' : xSt} (hE : xEnd K E (some .int) (YQi E v S')) {r0 : Nat} (hk0 : xkd E r0 = 4) : ∀ (fuel : Nat) (S : xSt) (x1 : Int) (x2 : Int) (x3 : Int) (x4 : Int), f_X12_ofKind_p4_0_b23 r0 fuel S x1 x2 x3 x4 = some (v, S') → WG K E 23 [(0, vr E r0 0), (1, vi x1), (2, vi x2), (3, vi x3), (4, vi x4)] [] S := by
  intro fuel
  induction fuel with
  | zero => intro S x1 x2 x3 x4 h; cases h
  | succ fuel ih =>
    intro S x1 x2 x3 x4 h
    rw [f_X12_ofKind_p4_0_b23] at h
    refine g_iload hC 4 rfl (rfl : 23 + 2 = 25) (xdt tt_X12_ofKind 14 rfl) ?_
    refine g_aload_n hC rfl 0 rfl (rfl : 25 + 1 = 26) (xdt tt_X12_ofKind 15 rfl) ?_
    refine g_getI hC hk0 kclX12 ly4_0 1 (by decide) rfl q228 (rfl : 26 + 3 = 29) (xdt tt_X12_ofKind 16 rfl) ?_
    refine g_icmp_ge hC (show ((29 : Nat) : Int) + 42 = ((71 : Nat) : Int) by decide) (rfl : 29 + 3 = 32) (xdt tt_X12_ofKind 17 rfl) (fun hc13 => ?_) (fun hc13 => ?_)
    · replace h := (if_pos hc13).symm.trans h
      refine g_iload_n hC rfl 3 rfl (rfl : 71 + 1 = 72) (xdt tt_X12_ofKind 39 rfl) ?_
      cases h
      exact g_iret hC hE (xdt tt_X12_ofKind 40 rfl)
    · replace h := (if_neg hc13).symm.trans h
      refine g_aload_n hC rfl 0 rfl (rfl : 32 + 1 = 33) (xdt tt_X12_ofKind 18 rfl) ?_
      refine g_getP hC hk0 kclX12 ly4_0 5 (by decide) (rfl : r0 + 0 = r0) rfl q196 (rfl : 33 + 3 = 36) (xdt tt_X12_ofKind 19 rfl) ?_
      refine g_iload hC 4 rfl (rfl : 36 + 2 = 38) (xdt tt_X12_ofKind 20 rfl) ?_
      obtain ⟨hi9, h⟩ := ckI_i h
      refine g_iald hC hk0 ly4_1 hi9 (rfl : 38 + 1 = 39) (xdt tt_X12_ofKind 21 rfl) (k0 := (wr x4).toNat) rfl ?_
      refine g_iload_n hC rfl 1 rfl (rfl : 39 + 1 = 40) (xdt tt_X12_ofKind 22 rfl) ?_
      refine g_icmp_ne hC (show ((40 : Nat) : Int) + 25 = ((65 : Nat) : Int) by decide) (rfl : 40 + 3 = 43) (xdt tt_X12_ofKind 23 rfl) (fun hc12 => ?_) (fun hc12 => ?_)
      · replace h := (if_pos hc12).symm.trans h
        refine g_iinc hC 4 rfl (by decide) (lv' := [(4, vi (x4 + 1)), (0, vr E r0 0), (1, vi x1), (2, vi x2), (3, vi x3)]) rfl (rfl : 65 + 3 = 68) (xdt tt_X12_ofKind 37 rfl) ?_
        refine g_goto hC (show ((68 : Nat) : Int) + (-45) = ((23 : Nat) : Int) by decide) (xdt tt_X12_ofKind 38 rfl) ?_
        refine g_sub [1, 2, 3, 4, 0] (lv' := [(0, vr E r0 0), (1, vi x1), (2, vi x2), (3, vi x3), (4, vi (x4 + 1))]) rfl ?_
        exact ih _ _ _ _ _ h
      · replace h := (if_neg hc12).symm.trans h
        refine g_iload_n hC rfl 3 rfl (rfl : 43 + 1 = 44) (xdt tt_X12_ofKind 24 rfl) ?_
        refine g_iload_n hC rfl 2 rfl (rfl : 44 + 1 = 45) (xdt tt_X12_ofKind 25 rfl) ?_
        refine g_if_eq hC (show ((45 : Nat) : Int) + 17 = ((62 : Nat) : Int) by decide) (rfl : 45 + 3 = 48) (xdt tt_X12_ofKind 26 rfl) (fun hc11 => ?_) (fun hc11 => ?_)
        · replace h := (if_pos hc11).symm.trans h
          refine g_iconst hC (rfl : 62 + 1 = 63) (xdt tt_X12_ofKind 34 rfl) ?_
          refine g_iadd hC (rfl : 63 + 1 = 64) (xdt tt_X12_ofKind 35 rfl) ?_
          refine g_istore_n hC rfl (by decide) (lv' := [(3, vi (x3 + 1)), (0, vr E r0 0), (1, vi x1), (2, vi x2), (4, vi x4)]) rfl (rfl : 64 + 1 = 65) (xdt tt_X12_ofKind 36 rfl) ?_
          refine g_iinc hC 4 rfl (by decide) (lv' := [(4, vi (x4 + 1)), (3, vi (x3 + 1)), (0, vr E r0 0), (1, vi x1), (2, vi x2)]) rfl (rfl : 65 + 3 = 68) (xdt tt_X12_ofKind 37 rfl) ?_
          refine g_goto hC (show ((68 : Nat) : Int) + (-45) = ((23 : Nat) : Int) by decide) (xdt tt_X12_ofKind 38 rfl) ?_
          refine g_sub [2, 3, 4, 1, 0] (lv' := [(0, vr E r0 0), (1, vi x1), (2, vi x2), (3, vi (x3 + 1)), (4, vi (x4 + 1))]) rfl ?_
          exact ih _ _ _ _ _ h
        · replace h := (if_neg hc11).symm.trans h
          refine g_aload_n hC rfl 0 rfl (rfl : 48 + 1 = 49) (xdt tt_X12_ofKind 27 rfl) ?_
          refine g_getP hC hk0 kclX12 ly4_0 10 (by decide) (rfl : r0 + 0 = r0) rfl q201 (rfl : 49 + 3 = 52) (xdt tt_X12_ofKind 28 rfl) ?_
          refine g_sipush hC (by decide) (rfl : 52 + 3 = 55) (xdt tt_X12_ofKind 29 rfl) ?_
          refine g_iload hC 4 rfl (rfl : 55 + 2 = 57) (xdt tt_X12_ofKind 30 rfl) ?_
          refine g_iadd hC (rfl : 57 + 1 = 58) (xdt tt_X12_ofKind 31 rfl) ?_
          obtain ⟨hi10, h⟩ := ckI_i h
          refine g_iald hC hk0 ly4_6 hi10 (rfl : 58 + 1 = 59) (xdt tt_X12_ofKind 32 rfl) (k0 := (wr (203 + x4)).toNat) rfl ?_
          refine g_goto hC (show ((59 : Nat) : Int) + 4 = ((63 : Nat) : Int) by decide) (xdt tt_X12_ofKind 33 rfl) ?_
          refine g_iadd hC (rfl : 63 + 1 = 64) (xdt tt_X12_ofKind 35 rfl) ?_
          refine g_istore_n hC rfl (by decide) (lv' := [(3, vi (x3 + (gI S r0 6 (wr (203 + x4)).toNat))), (0, vr E r0 0), (1, vi x1), (2, vi x2), (4, vi x4)]) rfl (rfl : 64 + 1 = 65) (xdt tt_X12_ofKind 36 rfl) ?_
          refine g_iinc hC 4 rfl (by decide) (lv' := [(4, vi (x4 + 1)), (3, vi (x3 + (gI S r0 6 (wr (203 + x4)).toNat))), (0, vr E r0 0), (1, vi x1), (2, vi x2)]) rfl (rfl : 65 + 3 = 68) (xdt tt_X12_ofKind 37 rfl) ?_
          refine g_goto hC (show ((68 : Nat) : Int) + (-45) = ((23 : Nat) : Int) by decide) (xdt tt_X12_ofKind 38 rfl) ?_
          refine g_sub [2, 3, 4, 1, 0] (lv' := [(0, vr E r0 0), (1, vi x1), (2, vi x2), (3, vi (x3 + (gI S r0 6 (wr (203 + x4)).toNat))), (4, vi (x4 + 1))]) rfl ?_
          exact ih _ _ _ _ _ h
set_option maxRecDepth 100000 in
set_option maxHeartbeats 4000000 in
theorem c_X12_ofKind_p4_0 (l : Launch) {E : xE} {S S' : xSt} {r0 : Nat} {a1 : Int} {a2 : Int} (hk0 : xkd E r0 = 4) {v : Int} (h : f_X12_ofKind_p4_0 S r0 a1 a2 = some (v, S')) : Met l yX12_ofKind (xws yX12_ofKind cX12_ofKind 5 (some .int)) (rmD 2) (YPc E [vr E r0 0, vi a1, vi a2] S) (YQi E v S') 0 0 (xA E) := by
  unfold f_X12_ofKind_p4_0 at h
  refine met_i (by decide +kernel) (Nat.le_of_ble_eq_true rfl) (fun K hC hZ hE => ?_)
  have hC : xOK K cX12_ofKind RX12 5 (rmE 2 0) := hC
  show WG K E 0 [(0, vr E r0 0), (1, vi a1), (2, vi a2)] [] S
  refine g_aload_n hC rfl 0 rfl (rfl : 0 + 1 = 1) (xdt tt_X12_ofKind 0 rfl) ?_
  refine g_iload_n hC rfl 1 rfl (rfl : 1 + 1 = 2) (xdt tt_X12_ofKind 1 rfl) ?_
  refine g_i2l hC (rfl : 2 + 1 = 3) (xdt tt_X12_ofKind 2 rfl) ?_
  refine g_lconst hC (z := 0) (by decide) (rfl : 3 + 1 = 4) (xdt tt_X12_ofKind 3 rfl) ?_
  refine g_ldc2 hC (z := 9) q514 (rfl : 4 + 3 = 7) (xdt tt_X12_ofKind 4 rfl) ?_
  obtain ⟨v3, S2, hc1, h⟩ := bd2_i h
  refine g_callSz hC hZ m_X12_isIn q269 (Nat.le_of_ble_eq_true rfl) [vl (wr a1), vl 0, vl 9] rfl (fun l => c_X12_isIn l hc1) rfl (Nat.le_of_ble_eq_true rfl) (rfl : 7 + 3 = 10) (xdt tt_X12_ofKind 5 rfl) (fun hb4 => ?_)
  obtain ⟨v7, S6, hc5, h⟩ := bd2_i h
  refine g_callVz hC hZ hk0 kclX12 ly4_0 m_X12_is q655 (Nat.le_of_ble_eq_true rfl) [vi v3] rfl (fun l => c_X12_is_p4_0 l hk0 hc5) rfl (Nat.le_of_ble_eq_true rfl) (rfl : 10 + 3 = 13) (xdt tt_X12_ofKind 6 rfl) (fun hb8 => ?_)
  refine g_if_ne hC (show ((13 : Nat) : Int) + 5 = ((18 : Nat) : Int) by decide) (rfl : 13 + 3 = 16) (xdt tt_X12_ofKind 7 rfl) (fun hc14 => ?_) (fun hc14 => ?_)
  · replace h := (if_pos hc14).symm.trans h
    refine g_iconst hC (rfl : 18 + 1 = 19) (xdt tt_X12_ofKind 10 rfl) ?_
    refine g_istore_n hC rfl (by decide) (lv' := [(3, vi 0), (0, vr E r0 0), (1, vi a1), (2, vi a2)]) rfl (rfl : 19 + 1 = 20) (xdt tt_X12_ofKind 11 rfl) ?_
    refine g_iconst hC (rfl : 20 + 1 = 21) (xdt tt_X12_ofKind 12 rfl) ?_
    refine g_istore hC (by decide) (lv' := [(4, vi 0), (3, vi 0), (0, vr E r0 0), (1, vi a1), (2, vi a2)]) rfl (rfl : 21 + 2 = 23) (xdt tt_X12_ofKind 13 rfl) ?_
    refine g_sub [2, 3, 4, 1, 0] (lv' := [(0, vr E r0 0), (1, vi a1), (2, vi a2), (3, vi 0), (4, vi 0)]) rfl ?_
    exact k_X12_ofKind_p4_0_b23 hC hZ hE hk0 _ _ _ _ _ _ h
  · replace h := (if_neg hc14).symm.trans h
    refine g_iconst hC (rfl : 16 + 1 = 17) (xdt tt_X12_ofKind 8 rfl) ?_
    cases h
    exact g_iret hC hE (xdt tt_X12_ofKind 9 rfl)
def f_X12_rule_p4_0 (S : xSt) (r0 : Nat) (a1 : Int) (a2 : Int) : Option (Int × xSt) :=
  bd2 (f_X12_isRule_p4_0 S r0 a1) fun v3 S2 =>
  bd2 (f_X12_is_p4_0 S2 r0 v3) fun v7 S6 =>
  if ¬ wr v7 = 0 then
    (if wr a2 = 0 then
      (ckI (35 + a1) 363 <|
      some ((Int.tdiv (wr (gI S6 r0 6 (wr (35 + a1)).toNat)) (wr 10)), S6))
    else
      (ckI (35 + a1) 363 <|
      some ((Int.tmod (wr (gI S6 r0 6 (wr (35 + a1)).toNat)) (wr 10)), S6)))
  else
    (some (0, S6))
set_option maxRecDepth 100000 in
set_option maxHeartbeats 4000000 in
theorem c_X12_rule_p4_0 (l : Launch) {E : xE} {S S' : xSt} {r0 : Nat} {a1 : Int} {a2 : Int} (hk0 : xkd E r0 = 4) {v : Int} (h : f_X12_rule_p4_0 S r0 a1 a2 = some (v, S')) : Met l yX12_rule (xws yX12_rule cX12_rule 3 (some .int)) (rmD 3) (YPc E [vr E r0 0, vi a1, vi a2] S) (YQi E v S') 0 0 (xA E) := by
  unfold f_X12_rule_p4_0 at h
  refine met_i (by decide +kernel) (Nat.le_of_ble_eq_true rfl) (fun K hC hZ hE => ?_)
  have hC : xOK K cX12_rule RX12 3 (rmE 3 0) := hC
  show WG K E 0 [(0, vr E r0 0), (1, vi a1), (2, vi a2)] [] S
  refine g_aload_n hC rfl 0 rfl (rfl : 0 + 1 = 1) (xdt tt_X12_rule 0 rfl) ?_
  refine g_aload_n hC rfl 0 rfl (rfl : 1 + 1 = 2) (xdt tt_X12_rule 1 rfl) ?_
  refine g_iload_n hC rfl 1 rfl (rfl : 2 + 1 = 3) (xdt tt_X12_rule 2 rfl) ?_
  obtain ⟨v3, S2, hc1, h⟩ := bd2_i h
  refine g_callVz hC hZ hk0 kclX12 ly4_0 m_X12_isRule q807 (Nat.le_of_ble_eq_true rfl) [vi a1] rfl (fun l => c_X12_isRule_p4_0 l hk0 hc1) rfl (Nat.le_of_ble_eq_true rfl) (rfl : 3 + 3 = 6) (xdt tt_X12_rule 3 rfl) (fun hb4 => ?_)
  obtain ⟨v7, S6, hc5, h⟩ := bd2_i h
  refine g_callVz hC hZ hk0 kclX12 ly4_0 m_X12_is q655 (Nat.le_of_ble_eq_true rfl) [vi v3] rfl (fun l => c_X12_is_p4_0 l hk0 hc5) rfl (Nat.le_of_ble_eq_true rfl) (rfl : 6 + 3 = 9) (xdt tt_X12_rule 4 rfl) (fun hb8 => ?_)
  refine g_if_ne hC (show ((9 : Nat) : Int) + 5 = ((14 : Nat) : Int) by decide) (rfl : 9 + 3 = 12) (xdt tt_X12_rule 5 rfl) (fun hc12 => ?_) (fun hc12 => ?_)
  · replace h := (if_pos hc12).symm.trans h
    refine g_iload_n hC rfl 2 rfl (rfl : 14 + 1 = 15) (xdt tt_X12_rule 8 rfl) ?_
    refine g_if_eq hC (show ((15 : Nat) : Int) + 18 = ((33 : Nat) : Int) by decide) (rfl : 15 + 3 = 18) (xdt tt_X12_rule 9 rfl) (fun hc11 => ?_) (fun hc11 => ?_)
    · replace h := (if_pos hc11).symm.trans h
      refine g_aload_n hC rfl 0 rfl (rfl : 33 + 1 = 34) (xdt tt_X12_rule 19 rfl) ?_
      refine g_getP hC hk0 kclX12 ly4_0 10 (by decide) (rfl : r0 + 0 = r0) rfl q201 (rfl : 34 + 3 = 37) (xdt tt_X12_rule 20 rfl) ?_
      refine g_bipush hC (by decide) (rfl : 37 + 2 = 39) (xdt tt_X12_rule 21 rfl) ?_
      refine g_iload_n hC rfl 1 rfl (rfl : 39 + 1 = 40) (xdt tt_X12_rule 22 rfl) ?_
      refine g_iadd hC (rfl : 40 + 1 = 41) (xdt tt_X12_rule 23 rfl) ?_
      obtain ⟨hi9, h⟩ := ckI_i h
      refine g_iald hC hk0 ly4_6 hi9 (rfl : 41 + 1 = 42) (xdt tt_X12_rule 24 rfl) (k0 := (wr (35 + a1)).toNat) rfl ?_
      refine g_bipush hC (by decide) (rfl : 42 + 2 = 44) (xdt tt_X12_rule 25 rfl) ?_
      refine g_idiv hC (by decide) (rfl : 44 + 1 = 45) (xdt tt_X12_rule 26 rfl) ?_
      cases h
      exact g_iret hC hE (xdt tt_X12_rule 27 rfl)
    · replace h := (if_neg hc11).symm.trans h
      refine g_aload_n hC rfl 0 rfl (rfl : 18 + 1 = 19) (xdt tt_X12_rule 10 rfl) ?_
      refine g_getP hC hk0 kclX12 ly4_0 10 (by decide) (rfl : r0 + 0 = r0) rfl q201 (rfl : 19 + 3 = 22) (xdt tt_X12_rule 11 rfl) ?_
      refine g_bipush hC (by decide) (rfl : 22 + 2 = 24) (xdt tt_X12_rule 12 rfl) ?_
      refine g_iload_n hC rfl 1 rfl (rfl : 24 + 1 = 25) (xdt tt_X12_rule 13 rfl) ?_
      refine g_iadd hC (rfl : 25 + 1 = 26) (xdt tt_X12_rule 14 rfl) ?_
      obtain ⟨hi10, h⟩ := ckI_i h
      refine g_iald hC hk0 ly4_6 hi10 (rfl : 26 + 1 = 27) (xdt tt_X12_rule 15 rfl) (k0 := (wr (35 + a1)).toNat) rfl ?_
      refine g_bipush hC (by decide) (rfl : 27 + 2 = 29) (xdt tt_X12_rule 16 rfl) ?_
      refine g_irem hC (by decide) (rfl : 29 + 1 = 30) (xdt tt_X12_rule 17 rfl) ?_
      refine g_goto hC (show ((30 : Nat) : Int) + 15 = ((45 : Nat) : Int) by decide) (xdt tt_X12_rule 18 rfl) ?_
      cases h
      exact g_iret hC hE (xdt tt_X12_rule 27 rfl)
  · replace h := (if_neg hc12).symm.trans h
    refine g_iconst hC (rfl : 12 + 1 = 13) (xdt tt_X12_rule 6 rfl) ?_
    cases h
    exact g_iret hC hE (xdt tt_X12_rule 7 rfl)
def f_X12_queueAt_p4_0 (S : xSt) (r0 : Nat) (a1 : Int) : Option (Int × xSt) :=
  bd2 (f_X12_isIn S (wr a1) 0 (wr ((gI S r0 6 42) - 1))) fun v3 S2 =>
  bd2 (f_X12_is_p4_0 S2 r0 v3) fun v7 S6 =>
  if wr v7 = 0 then
    (some (0, S6))
  else
    (ckI (43 + a1) 363 <|
    some ((gI S6 r0 6 (wr (43 + a1)).toNat), S6))
set_option maxRecDepth 100000 in
set_option maxHeartbeats 4000000 in
theorem c_X12_queueAt_p4_0 (l : Launch) {E : xE} {S S' : xSt} {r0 : Nat} {a1 : Int} (hk0 : xkd E r0 = 4) {v : Int} (h : f_X12_queueAt_p4_0 S r0 a1 = some (v, S')) : Met l yX12_queueAt (xws yX12_queueAt cX12_queueAt 2 (some .int)) (rmD 2) (YPc E [vr E r0 0, vi a1] S) (YQi E v S') 0 0 (xA E) := by
  unfold f_X12_queueAt_p4_0 at h
  refine met_i (by decide +kernel) (Nat.le_of_ble_eq_true rfl) (fun K hC hZ hE => ?_)
  have hC : xOK K cX12_queueAt RX12 2 (rmE 2 0) := hC
  show WG K E 0 [(0, vr E r0 0), (1, vi a1)] [] S
  refine g_aload_n hC rfl 0 rfl (rfl : 0 + 1 = 1) (xdt tt_X12_queueAt 0 rfl) ?_
  refine g_iload_n hC rfl 1 rfl (rfl : 1 + 1 = 2) (xdt tt_X12_queueAt 1 rfl) ?_
  refine g_i2l hC (rfl : 2 + 1 = 3) (xdt tt_X12_queueAt 2 rfl) ?_
  refine g_lconst hC (z := 0) (by decide) (rfl : 3 + 1 = 4) (xdt tt_X12_queueAt 3 rfl) ?_
  refine g_aload_n hC rfl 0 rfl (rfl : 4 + 1 = 5) (xdt tt_X12_queueAt 4 rfl) ?_
  refine g_getP hC hk0 kclX12 ly4_0 10 (by decide) (rfl : r0 + 0 = r0) rfl q201 (rfl : 5 + 3 = 8) (xdt tt_X12_queueAt 5 rfl) ?_
  refine g_bipush hC (by decide) (rfl : 8 + 2 = 10) (xdt tt_X12_queueAt 6 rfl) ?_
  refine g_iald hC hk0 ly4_6 (by decide) (rfl : 10 + 1 = 11) (xdt tt_X12_queueAt 7 rfl) (k0 := 42) (by decide) ?_
  refine g_iconst hC (rfl : 11 + 1 = 12) (xdt tt_X12_queueAt 8 rfl) ?_
  refine g_isub hC (rfl : 12 + 1 = 13) (xdt tt_X12_queueAt 9 rfl) ?_
  refine g_i2l hC (rfl : 13 + 1 = 14) (xdt tt_X12_queueAt 10 rfl) ?_
  obtain ⟨v3, S2, hc1, h⟩ := bd2_i h
  refine g_callSz hC hZ m_X12_isIn q269 (Nat.le_of_ble_eq_true rfl) [vl (wr a1), vl 0, vl (wr ((gI S r0 6 42) - 1))] rfl (fun l => c_X12_isIn l hc1) rfl (Nat.le_of_ble_eq_true rfl) (rfl : 14 + 3 = 17) (xdt tt_X12_queueAt 11 rfl) (fun hb4 => ?_)
  obtain ⟨v7, S6, hc5, h⟩ := bd2_i h
  refine g_callVz hC hZ hk0 kclX12 ly4_0 m_X12_is q655 (Nat.le_of_ble_eq_true rfl) [vi v3] rfl (fun l => c_X12_is_p4_0 l hk0 hc5) rfl (Nat.le_of_ble_eq_true rfl) (rfl : 17 + 3 = 20) (xdt tt_X12_queueAt 12 rfl) (fun hb8 => ?_)
  refine g_if_eq hC (show ((20 : Nat) : Int) + 15 = ((35 : Nat) : Int) by decide) (rfl : 20 + 3 = 23) (xdt tt_X12_queueAt 13 rfl) (fun hc10 => ?_) (fun hc10 => ?_)
  · replace h := (if_pos hc10).symm.trans h
    refine g_iconst hC (rfl : 35 + 1 = 36) (xdt tt_X12_queueAt 21 rfl) ?_
    cases h
    exact g_iret hC hE (xdt tt_X12_queueAt 22 rfl)
  · replace h := (if_neg hc10).symm.trans h
    refine g_aload_n hC rfl 0 rfl (rfl : 23 + 1 = 24) (xdt tt_X12_queueAt 14 rfl) ?_
    refine g_getP hC hk0 kclX12 ly4_0 10 (by decide) (rfl : r0 + 0 = r0) rfl q201 (rfl : 24 + 3 = 27) (xdt tt_X12_queueAt 15 rfl) ?_
    refine g_bipush hC (by decide) (rfl : 27 + 2 = 29) (xdt tt_X12_queueAt 16 rfl) ?_
    refine g_iload_n hC rfl 1 rfl (rfl : 29 + 1 = 30) (xdt tt_X12_queueAt 17 rfl) ?_
    refine g_iadd hC (rfl : 30 + 1 = 31) (xdt tt_X12_queueAt 18 rfl) ?_
    obtain ⟨hi9, h⟩ := ckI_i h
    refine g_iald hC hk0 ly4_6 hi9 (rfl : 31 + 1 = 32) (xdt tt_X12_queueAt 19 rfl) (k0 := (wr (43 + a1)).toNat) rfl ?_
    refine g_goto hC (show ((32 : Nat) : Int) + 4 = ((36 : Nat) : Int) by decide) (xdt tt_X12_queueAt 20 rfl) ?_
    cases h
    exact g_iret hC hE (xdt tt_X12_queueAt 22 rfl)
def f_X12_loop_p4_0 (S : xSt) (r0 : Nat) (a1 : Int) : Option (Int × xSt) :=
  bd2 (f_X12_isIn S (wr a1) 0 3) fun v3 S2 =>
  bd2 (f_X12_is_p4_0 S2 r0 v3) fun v7 S6 =>
  if ¬ wr v7 = 0 then
    (bd2 (f_X12_isReplayed_p4_0 S6 r0) fun v11 S10 =>
    if ¬ wr v11 = 0 then
      (if wr a1 < 0 ∨ 2 < wr a1 then
        (bd2 (f_X12_opsOfLoop_p4_0 S10 r0 (gI S10 r0 6 12) (gI S10 r0 6 13)) fun v16 S15 =>
        some (v16, S15))
      else
      if wr a1 = 0 then
        (some ((gI S10 r0 6 12), S10))
      else
      if wr a1 = 1 then
        (some ((gI S10 r0 6 13), S10))
      else
      if wr a1 = 2 then
        (some ((gI S10 r0 6 14), S10))
      else
      none)
    else
      (some ((-1), S10)))
  else
    (some (0, S6))
set_option maxRecDepth 100000 in
set_option maxHeartbeats 4000000 in
theorem c_X12_loop_p4_0 (l : Launch) {E : xE} {S S' : xSt} {r0 : Nat} {a1 : Int} (hk0 : xkd E r0 = 4) {v : Int} (h : f_X12_loop_p4_0 S r0 a1 = some (v, S')) : Met l yX12_loop (xws yX12_loop cX12_loop 2 (some .int)) (rmD 3) (YPc E [vr E r0 0, vi a1] S) (YQi E v S') 0 0 (xA E) := by
  unfold f_X12_loop_p4_0 at h
  refine met_i (by decide +kernel) (Nat.le_of_ble_eq_true rfl) (fun K hC hZ hE => ?_)
  have hC : xOK K cX12_loop RX12 2 (rmE 3 0) := hC
  show WG K E 0 [(0, vr E r0 0), (1, vi a1)] [] S
  refine g_aload_n hC rfl 0 rfl (rfl : 0 + 1 = 1) (xdt tt_X12_loop 0 rfl) ?_
  refine g_iload_n hC rfl 1 rfl (rfl : 1 + 1 = 2) (xdt tt_X12_loop 1 rfl) ?_
  refine g_i2l hC (rfl : 2 + 1 = 3) (xdt tt_X12_loop 2 rfl) ?_
  refine g_lconst hC (z := 0) (by decide) (rfl : 3 + 1 = 4) (xdt tt_X12_loop 3 rfl) ?_
  refine g_ldc2 hC (z := 3) q843 (rfl : 4 + 3 = 7) (xdt tt_X12_loop 4 rfl) ?_
  obtain ⟨v3, S2, hc1, h⟩ := bd2_i h
  refine g_callSz hC hZ m_X12_isIn q269 (Nat.le_of_ble_eq_true rfl) [vl (wr a1), vl 0, vl 3] rfl (fun l => c_X12_isIn l hc1) rfl (Nat.le_of_ble_eq_true rfl) (rfl : 7 + 3 = 10) (xdt tt_X12_loop 5 rfl) (fun hb4 => ?_)
  obtain ⟨v7, S6, hc5, h⟩ := bd2_i h
  refine g_callVz hC hZ hk0 kclX12 ly4_0 m_X12_is q655 (Nat.le_of_ble_eq_true rfl) [vi v3] rfl (fun l => c_X12_is_p4_0 l hk0 hc5) rfl (Nat.le_of_ble_eq_true rfl) (rfl : 10 + 3 = 13) (xdt tt_X12_loop 6 rfl) (fun hb8 => ?_)
  refine g_if_ne hC (show ((13 : Nat) : Int) + 5 = ((18 : Nat) : Int) by decide) (rfl : 13 + 3 = 16) (xdt tt_X12_loop 7 rfl) (fun hc21 => ?_) (fun hc21 => ?_)
  · replace h := (if_pos hc21).symm.trans h
    refine g_aload_n hC rfl 0 rfl (rfl : 18 + 1 = 19) (xdt tt_X12_loop 10 rfl) ?_
    obtain ⟨v11, S10, hc9, h⟩ := bd2_i h
    refine g_callVz hC hZ hk0 kclX12 ly4_0 m_X12_isReplayed q844 (Nat.le_of_ble_eq_true rfl) [] rfl (fun l => c_X12_isReplayed_p4_0 l hk0 hc9) rfl (Nat.le_of_ble_eq_true rfl) (rfl : 19 + 3 = 22) (xdt tt_X12_loop 11 rfl) (fun hb12 => ?_)
    refine g_if_ne hC (show ((22 : Nat) : Int) + 5 = ((27 : Nat) : Int) by decide) (rfl : 22 + 3 = 25) (xdt tt_X12_loop 12 rfl) (fun hc20 => ?_) (fun hc20 => ?_)
    · replace h := (if_pos hc20).symm.trans h
      refine g_iload_n hC rfl 1 rfl (rfl : 27 + 1 = 28) (xdt tt_X12_loop 15 rfl) ?_
      by_cases hs13 : wr a1 < 0 ∨ 2 < wr a1
      · replace h := (if_pos hs13).symm.trans h
        refine g_tabOut hC (xdt tt_X12_loop 16 rfl) hs13 (show ((28 : Nat) : Int) + 52 = ((80 : Nat) : Int) by decide) ?_
        refine g_aload_n hC rfl 0 rfl (rfl : 80 + 1 = 81) (xdt tt_X12_loop 32 rfl) ?_
        refine g_aload_n hC rfl 0 rfl (rfl : 81 + 1 = 82) (xdt tt_X12_loop 33 rfl) ?_
        refine g_getP hC hk0 kclX12 ly4_0 10 (by decide) (rfl : r0 + 0 = r0) rfl q201 (rfl : 82 + 3 = 85) (xdt tt_X12_loop 34 rfl) ?_
        refine g_bipush hC (by decide) (rfl : 85 + 2 = 87) (xdt tt_X12_loop 35 rfl) ?_
        refine g_iald hC hk0 ly4_6 (by decide) (rfl : 87 + 1 = 88) (xdt tt_X12_loop 36 rfl) (k0 := 12) (by decide) ?_
        refine g_aload_n hC rfl 0 rfl (rfl : 88 + 1 = 89) (xdt tt_X12_loop 37 rfl) ?_
        refine g_getP hC hk0 kclX12 ly4_0 10 (by decide) (rfl : r0 + 0 = r0) rfl q201 (rfl : 89 + 3 = 92) (xdt tt_X12_loop 38 rfl) ?_
        refine g_bipush hC (by decide) (rfl : 92 + 2 = 94) (xdt tt_X12_loop 39 rfl) ?_
        refine g_iald hC hk0 ly4_6 (by decide) (rfl : 94 + 1 = 95) (xdt tt_X12_loop 40 rfl) (k0 := 13) (by decide) ?_
        obtain ⟨v16, S15, hc14, h⟩ := bd2_i h
        refine g_callVi hC hZ hk0 kclX12 ly4_0 m_X12_opsOfLoop q759 (Nat.le_of_ble_eq_true rfl) [vi (gI S10 r0 6 12), vi (gI S10 r0 6 13)] rfl (fun l => c_X12_opsOfLoop_p4_0 l hk0 hc14) rfl (Nat.le_of_ble_eq_true rfl) (rfl : 95 + 3 = 98) (xdt tt_X12_loop 41 rfl) ?_
        cases h
        exact g_iret hC hE (xdt tt_X12_loop 42 rfl)
      · replace h := (if_neg hs13).symm.trans h
        by_cases hv17 : wr a1 = 0
        · replace h := (if_pos hv17).symm.trans h
          refine g_tabIn hC (xdt tt_X12_loop 16 rfl) (fun z => hs13 (Or.inl z)) (fun z => hs13 (Or.inr z)) (off := 28) (by rw [hv17]; rfl) (show ((28 : Nat) : Int) + 28 = ((56 : Nat) : Int) by decide) ?_
          refine g_aload_n hC rfl 0 rfl (rfl : 56 + 1 = 57) (xdt tt_X12_loop 17 rfl) ?_
          refine g_getP hC hk0 kclX12 ly4_0 10 (by decide) (rfl : r0 + 0 = r0) rfl q201 (rfl : 57 + 3 = 60) (xdt tt_X12_loop 18 rfl) ?_
          refine g_bipush hC (by decide) (rfl : 60 + 2 = 62) (xdt tt_X12_loop 19 rfl) ?_
          refine g_iald hC hk0 ly4_6 (by decide) (rfl : 62 + 1 = 63) (xdt tt_X12_loop 20 rfl) (k0 := 12) (by decide) ?_
          cases h
          exact g_iret hC hE (xdt tt_X12_loop 21 rfl)
        · replace h := (if_neg hv17).symm.trans h
          by_cases hv18 : wr a1 = 1
          · replace h := (if_pos hv18).symm.trans h
            refine g_tabIn hC (xdt tt_X12_loop 16 rfl) (fun z => hs13 (Or.inl z)) (fun z => hs13 (Or.inr z)) (off := 36) (by rw [hv18]; rfl) (show ((28 : Nat) : Int) + 36 = ((64 : Nat) : Int) by decide) ?_
            refine g_aload_n hC rfl 0 rfl (rfl : 64 + 1 = 65) (xdt tt_X12_loop 22 rfl) ?_
            refine g_getP hC hk0 kclX12 ly4_0 10 (by decide) (rfl : r0 + 0 = r0) rfl q201 (rfl : 65 + 3 = 68) (xdt tt_X12_loop 23 rfl) ?_
            refine g_bipush hC (by decide) (rfl : 68 + 2 = 70) (xdt tt_X12_loop 24 rfl) ?_
            refine g_iald hC hk0 ly4_6 (by decide) (rfl : 70 + 1 = 71) (xdt tt_X12_loop 25 rfl) (k0 := 13) (by decide) ?_
            cases h
            exact g_iret hC hE (xdt tt_X12_loop 26 rfl)
          · replace h := (if_neg hv18).symm.trans h
            by_cases hv19 : wr a1 = 2
            · replace h := (if_pos hv19).symm.trans h
              refine g_tabIn hC (xdt tt_X12_loop 16 rfl) (fun z => hs13 (Or.inl z)) (fun z => hs13 (Or.inr z)) (off := 44) (by rw [hv19]; rfl) (show ((28 : Nat) : Int) + 44 = ((72 : Nat) : Int) by decide) ?_
              refine g_aload_n hC rfl 0 rfl (rfl : 72 + 1 = 73) (xdt tt_X12_loop 27 rfl) ?_
              refine g_getP hC hk0 kclX12 ly4_0 10 (by decide) (rfl : r0 + 0 = r0) rfl q201 (rfl : 73 + 3 = 76) (xdt tt_X12_loop 28 rfl) ?_
              refine g_bipush hC (by decide) (rfl : 76 + 2 = 78) (xdt tt_X12_loop 29 rfl) ?_
              refine g_iald hC hk0 ly4_6 (by decide) (rfl : 78 + 1 = 79) (xdt tt_X12_loop 30 rfl) (k0 := 14) (by decide) ?_
              cases h
              exact g_iret hC hE (xdt tt_X12_loop 31 rfl)
            · replace h := (if_neg hv19).symm.trans h
              cases h
    · replace h := (if_neg hc20).symm.trans h
      refine g_iconst hC (rfl : 25 + 1 = 26) (xdt tt_X12_loop 13 rfl) ?_
      cases h
      exact g_iret hC hE (xdt tt_X12_loop 14 rfl)
  · replace h := (if_neg hc21).symm.trans h
    refine g_iconst hC (rfl : 16 + 1 = 17) (xdt tt_X12_loop 8 rfl) ?_
    cases h
    exact g_iret hC hE (xdt tt_X12_loop 9 rfl)
def f_X12_isCut_p4_0 (S : xSt) (r0 : Nat) : Option (Int × xSt) :=
  lt1 (wI S r0 0 0 0) fun S1 =>
  if ¬ wr (gI S1 r0 6 10) = wr 1 then
    (some (0, S1))
  else
    (some (1, S1))
set_option maxRecDepth 100000 in
set_option maxHeartbeats 4000000 in
theorem c_X12_isCut_p4_0 (l : Launch) {E : xE} {S S' : xSt} {r0 : Nat} (hk0 : xkd E r0 = 4) {v : Int} (h : f_X12_isCut_p4_0 S r0 = some (v, S')) : Met l yX12_isCut (xws yX12_isCut cX12_isCut 1 (some .boolean)) (rmD 1) (YPc E [vr E r0 0] S) (YQz E v S') 0 0 (xA E) := by
  unfold f_X12_isCut_p4_0 at h
  refine met_z (by decide +kernel) (Nat.le_of_ble_eq_true rfl) (fun K hC hZ hE => ?_)
  have hC : xOK K cX12_isCut RX12 1 (rmE 1 0) := hC
  show WG K E 0 [(0, vr E r0 0)] [] S
  refine g_aload_n hC rfl 0 rfl (rfl : 0 + 1 = 1) (xdt tt_X12_isCut 0 rfl) ?_
  refine g_iconst hC (rfl : 1 + 1 = 2) (xdt tt_X12_isCut 1 rfl) ?_
  obtain ⟨S1, hS1, h⟩ := lt1_i h
  refine g_putI hC hk0 kclX12 ly4_0 0 (by decide) rfl rfl rfl q259 hS1 (rfl : 2 + 3 = 5) (xdt tt_X12_isCut 2 rfl) ?_
  refine g_aload_n hC rfl 0 rfl (rfl : 5 + 1 = 6) (xdt tt_X12_isCut 3 rfl) ?_
  refine g_getP hC hk0 kclX12 ly4_0 10 (by decide) (rfl : r0 + 0 = r0) rfl q201 (rfl : 6 + 3 = 9) (xdt tt_X12_isCut 4 rfl) ?_
  refine g_bipush hC (by decide) (rfl : 9 + 2 = 11) (xdt tt_X12_isCut 5 rfl) ?_
  refine g_iald hC hk0 ly4_6 (by decide) (rfl : 11 + 1 = 12) (xdt tt_X12_isCut 6 rfl) (k0 := 10) (by decide) ?_
  refine g_iconst hC (rfl : 12 + 1 = 13) (xdt tt_X12_isCut 7 rfl) ?_
  refine g_icmp_ne hC (show ((13 : Nat) : Int) + 7 = ((20 : Nat) : Int) by decide) (rfl : 13 + 3 = 16) (xdt tt_X12_isCut 8 rfl) (fun hc2 => ?_) (fun hc2 => ?_)
  · replace h := (if_pos hc2).symm.trans h
    refine g_iconst hC (rfl : 20 + 1 = 21) (xdt tt_X12_isCut 11 rfl) ?_
    cases h
    exact g_zret hC hE (Or.inl rfl) (xdt tt_X12_isCut 12 rfl)
  · replace h := (if_neg hc2).symm.trans h
    refine g_iconst hC (rfl : 16 + 1 = 17) (xdt tt_X12_isCut 9 rfl) ?_
    refine g_goto hC (show ((17 : Nat) : Int) + 4 = ((21 : Nat) : Int) by decide) (xdt tt_X12_isCut 10 rfl) ?_
    cases h
    exact g_zret hC hE (Or.inr rfl) (xdt tt_X12_isCut 12 rfl)
def f_X12_bubbles_p4_0 (S : xSt) (r0 : Nat) (a1 : Int) : Option (Int × xSt) :=
  bd2 (f_X12_isCause S a1) fun v3 S2 =>
  bd2 (f_X12_is_p4_0 S2 r0 v3) fun v7 S6 =>
  if wr v7 = 0 then
    (some (0, S6))
  else
    (ckI (25 + a1) 363 <|
    some ((gI S6 r0 6 (wr (25 + a1)).toNat), S6))
set_option maxRecDepth 100000 in
set_option maxHeartbeats 4000000 in
theorem c_X12_bubbles_p4_0 (l : Launch) {E : xE} {S S' : xSt} {r0 : Nat} {a1 : Int} (hk0 : xkd E r0 = 4) {v : Int} (h : f_X12_bubbles_p4_0 S r0 a1 = some (v, S')) : Met l yX12_bubbles (xws yX12_bubbles cX12_bubbles 2 (some .int)) (rmD 3) (YPc E [vr E r0 0, vi a1] S) (YQi E v S') 0 0 (xA E) := by
  unfold f_X12_bubbles_p4_0 at h
  refine met_i (by decide +kernel) (Nat.le_of_ble_eq_true rfl) (fun K hC hZ hE => ?_)
  have hC : xOK K cX12_bubbles RX12 2 (rmE 3 0) := hC
  show WG K E 0 [(0, vr E r0 0), (1, vi a1)] [] S
  refine g_aload_n hC rfl 0 rfl (rfl : 0 + 1 = 1) (xdt tt_X12_bubbles 0 rfl) ?_
  refine g_iload_n hC rfl 1 rfl (rfl : 1 + 1 = 2) (xdt tt_X12_bubbles 1 rfl) ?_
  obtain ⟨v3, S2, hc1, h⟩ := bd2_i h
  refine g_callSz hC hZ m_X12_isCause q869 (Nat.le_of_ble_eq_true rfl) [vi a1] rfl (fun l => c_X12_isCause l hc1) rfl (Nat.le_of_ble_eq_true rfl) (rfl : 2 + 3 = 5) (xdt tt_X12_bubbles 2 rfl) (fun hb4 => ?_)
  obtain ⟨v7, S6, hc5, h⟩ := bd2_i h
  refine g_callVz hC hZ hk0 kclX12 ly4_0 m_X12_is q655 (Nat.le_of_ble_eq_true rfl) [vi v3] rfl (fun l => c_X12_is_p4_0 l hk0 hc5) rfl (Nat.le_of_ble_eq_true rfl) (rfl : 5 + 3 = 8) (xdt tt_X12_bubbles 3 rfl) (fun hb8 => ?_)
  refine g_if_eq hC (show ((8 : Nat) : Int) + 15 = ((23 : Nat) : Int) by decide) (rfl : 8 + 3 = 11) (xdt tt_X12_bubbles 4 rfl) (fun hc10 => ?_) (fun hc10 => ?_)
  · replace h := (if_pos hc10).symm.trans h
    refine g_iconst hC (rfl : 23 + 1 = 24) (xdt tt_X12_bubbles 12 rfl) ?_
    cases h
    exact g_iret hC hE (xdt tt_X12_bubbles 13 rfl)
  · replace h := (if_neg hc10).symm.trans h
    refine g_aload_n hC rfl 0 rfl (rfl : 11 + 1 = 12) (xdt tt_X12_bubbles 5 rfl) ?_
    refine g_getP hC hk0 kclX12 ly4_0 10 (by decide) (rfl : r0 + 0 = r0) rfl q201 (rfl : 12 + 3 = 15) (xdt tt_X12_bubbles 6 rfl) ?_
    refine g_bipush hC (by decide) (rfl : 15 + 2 = 17) (xdt tt_X12_bubbles 7 rfl) ?_
    refine g_iload_n hC rfl 1 rfl (rfl : 17 + 1 = 18) (xdt tt_X12_bubbles 8 rfl) ?_
    refine g_iadd hC (rfl : 18 + 1 = 19) (xdt tt_X12_bubbles 9 rfl) ?_
    obtain ⟨hi9, h⟩ := ckI_i h
    refine g_iald hC hk0 ly4_6 hi9 (rfl : 19 + 1 = 20) (xdt tt_X12_bubbles 10 rfl) (k0 := (wr (25 + a1)).toNat) rfl ?_
    refine g_goto hC (show ((20 : Nat) : Int) + 4 = ((24 : Nat) : Int) by decide) (xdt tt_X12_bubbles 11 rfl) ?_
    cases h
    exact g_iret hC hE (xdt tt_X12_bubbles 13 rfl)
def f_X12_mainCause_p4_0_b11 (r0 : Nat) : Nat → xSt → Int → Int → Int → Option (Int × xSt)
  | 0, _, _, _, _ => none
  | fuel + 1, S, x1, x2, x3 =>
    if wr 8 < wr x3 then
      (some (x1, S))
    else
      (ckI (25 + x3) 363 <|
      if wr x2 < wr (gI S r0 6 (wr (25 + x3)).toNat) then
        (ckI (25 + x3) 363 <|
        (f_X12_mainCause_p4_0_b11 r0 fuel) S x3 (gI S r0 6 (wr (25 + x3)).toNat) (x3 + 1))
      else
        ((f_X12_mainCause_p4_0_b11 r0 fuel) S x1 x2 (x3 + 1)))
def f_X12_mainCause_p4_0 (S : xSt) (r0 : Nat) : Option (Int × xSt) :=
  lt1 (wI S r0 0 0 0) fun S1 =>
  f_X12_mainCause_p4_0_b11 r0 (fu S1) S1 (-1) 0 1
set_option maxRecDepth 100000 in
set_option maxHeartbeats 4000000 in
theorem k_X12_mainCause_p4_0_b11 {K : xCtx} {E : xE} {b : Nat} (hC : xOK K cX12_mainCause RX12 4 (rmE 1 b)) (hZ : xZ K) {v : Int} {S' : xSt} (hE : xEnd K E (some .int) (YQi E v S')) {r0 : Nat} (hk0 : xkd E r0 = 4) : ∀ (fuel : Nat) (S : xSt) (x1 : Int) (x2 : Int) (x3 : Int), f_X12_mainCause_p4_0_b11 r0 fuel S x1 x2 x3 = some (v, S') → WG K E 11 [(0, vr E r0 0), (1, vi x1), (2, vi x2), (3, vi x3)] [] S := by
  intro fuel
  induction fuel with
  | zero => intro S x1 x2 x3 h; cases h
  | succ fuel ih =>
    intro S x1 x2 x3 h
    rw [f_X12_mainCause_p4_0_b11] at h
    refine g_iload_n hC rfl 3 rfl (rfl : 11 + 1 = 12) (xdt tt_X12_mainCause 9 rfl) ?_
    refine g_bipush hC (by decide) (rfl : 12 + 2 = 14) (xdt tt_X12_mainCause 10 rfl) ?_
    refine g_icmp_gt hC (show ((14 : Nat) : Int) + 37 = ((51 : Nat) : Int) by decide) (rfl : 14 + 3 = 17) (xdt tt_X12_mainCause 11 rfl) (fun hc5 => ?_) (fun hc5 => ?_)
    · replace h := (if_pos hc5).symm.trans h
      refine g_iload_n hC rfl 1 rfl (rfl : 51 + 1 = 52) (xdt tt_X12_mainCause 32 rfl) ?_
      cases h
      exact g_iret hC hE (xdt tt_X12_mainCause 33 rfl)
    · replace h := (if_neg hc5).symm.trans h
      refine g_aload_n hC rfl 0 rfl (rfl : 17 + 1 = 18) (xdt tt_X12_mainCause 12 rfl) ?_
      refine g_getP hC hk0 kclX12 ly4_0 10 (by decide) (rfl : r0 + 0 = r0) rfl q201 (rfl : 18 + 3 = 21) (xdt tt_X12_mainCause 13 rfl) ?_
      refine g_bipush hC (by decide) (rfl : 21 + 2 = 23) (xdt tt_X12_mainCause 14 rfl) ?_
      refine g_iload_n hC rfl 3 rfl (rfl : 23 + 1 = 24) (xdt tt_X12_mainCause 15 rfl) ?_
      refine g_iadd hC (rfl : 24 + 1 = 25) (xdt tt_X12_mainCause 16 rfl) ?_
      obtain ⟨hi2, h⟩ := ckI_i h
      refine g_iald hC hk0 ly4_6 hi2 (rfl : 25 + 1 = 26) (xdt tt_X12_mainCause 17 rfl) (k0 := (wr (25 + x3)).toNat) rfl ?_
      refine g_iload_n hC rfl 2 rfl (rfl : 26 + 1 = 27) (xdt tt_X12_mainCause 18 rfl) ?_
      refine g_icmp_gt hC (show ((27 : Nat) : Int) + 6 = ((33 : Nat) : Int) by decide) (rfl : 27 + 3 = 30) (xdt tt_X12_mainCause 19 rfl) (fun hc4 => ?_) (fun hc4 => ?_)
      · replace h := (if_pos hc4).symm.trans h
        refine g_iload_n hC rfl 3 rfl (rfl : 33 + 1 = 34) (xdt tt_X12_mainCause 21 rfl) ?_
        refine g_istore_n hC rfl (by decide) (lv' := [(1, vi x3), (0, vr E r0 0), (2, vi x2), (3, vi x3)]) rfl (rfl : 34 + 1 = 35) (xdt tt_X12_mainCause 22 rfl) ?_
        refine g_aload_n hC rfl 1 rfl (rfl : 35 + 1 = 36) (xdt tt_X12_mainCause 23 rfl) ?_
        refine g_getP hC hk0 kclX12 ly4_0 10 (by decide) (rfl : r0 + 0 = r0) rfl q201 (rfl : 36 + 3 = 39) (xdt tt_X12_mainCause 24 rfl) ?_
        refine g_bipush hC (by decide) (rfl : 39 + 2 = 41) (xdt tt_X12_mainCause 25 rfl) ?_
        refine g_iload_n hC rfl 3 rfl (rfl : 41 + 1 = 42) (xdt tt_X12_mainCause 26 rfl) ?_
        refine g_iadd hC (rfl : 42 + 1 = 43) (xdt tt_X12_mainCause 27 rfl) ?_
        obtain ⟨hi3, h⟩ := ckI_i h
        refine g_iald hC hk0 ly4_6 hi3 (rfl : 43 + 1 = 44) (xdt tt_X12_mainCause 28 rfl) (k0 := (wr (25 + x3)).toNat) rfl ?_
        refine g_istore_n hC rfl (by decide) (lv' := [(2, vi (gI S r0 6 (wr (25 + x3)).toNat)), (1, vi x3), (0, vr E r0 0), (3, vi x3)]) rfl (rfl : 44 + 1 = 45) (xdt tt_X12_mainCause 29 rfl) ?_
        refine g_iinc hC 3 rfl (by decide) (lv' := [(3, vi (x3 + 1)), (2, vi (gI S r0 6 (wr (25 + x3)).toNat)), (1, vi x3), (0, vr E r0 0)]) rfl (rfl : 45 + 3 = 48) (xdt tt_X12_mainCause 30 rfl) ?_
        refine g_goto hC (show ((48 : Nat) : Int) + (-37) = ((11 : Nat) : Int) by decide) (xdt tt_X12_mainCause 31 rfl) ?_
        refine g_sub [3, 2, 1, 0] (lv' := [(0, vr E r0 0), (1, vi x3), (2, vi (gI S r0 6 (wr (25 + x3)).toNat)), (3, vi (x3 + 1))]) rfl ?_
        exact ih _ _ _ _ h
      · replace h := (if_neg hc4).symm.trans h
        refine g_goto hC (show ((30 : Nat) : Int) + 15 = ((45 : Nat) : Int) by decide) (xdt tt_X12_mainCause 20 rfl) ?_
        refine g_iinc hC 3 rfl (by decide) (lv' := [(3, vi (x3 + 1)), (0, vr E r0 0), (1, vi x1), (2, vi x2)]) rfl (rfl : 45 + 3 = 48) (xdt tt_X12_mainCause 30 rfl) ?_
        refine g_goto hC (show ((48 : Nat) : Int) + (-37) = ((11 : Nat) : Int) by decide) (xdt tt_X12_mainCause 31 rfl) ?_
        refine g_sub [1, 2, 3, 0] (lv' := [(0, vr E r0 0), (1, vi x1), (2, vi x2), (3, vi (x3 + 1))]) rfl ?_
        exact ih _ _ _ _ h
set_option maxRecDepth 100000 in
set_option maxHeartbeats 4000000 in
theorem c_X12_mainCause_p4_0 (l : Launch) {E : xE} {S S' : xSt} {r0 : Nat} (hk0 : xkd E r0 = 4) {v : Int} (h : f_X12_mainCause_p4_0 S r0 = some (v, S')) : Met l yX12_mainCause (xws yX12_mainCause cX12_mainCause 4 (some .int)) (rmD 1) (YPc E [vr E r0 0] S) (YQi E v S') 0 0 (xA E) := by
  unfold f_X12_mainCause_p4_0 at h
  refine met_i (by decide +kernel) (Nat.le_of_ble_eq_true rfl) (fun K hC hZ hE => ?_)
  have hC : xOK K cX12_mainCause RX12 4 (rmE 1 0) := hC
  show WG K E 0 [(0, vr E r0 0)] [] S
  refine g_aload_n hC rfl 0 rfl (rfl : 0 + 1 = 1) (xdt tt_X12_mainCause 0 rfl) ?_
  refine g_iconst hC (rfl : 1 + 1 = 2) (xdt tt_X12_mainCause 1 rfl) ?_
  obtain ⟨S1, hS1, h⟩ := lt1_i h
  refine g_putI hC hk0 kclX12 ly4_0 0 (by decide) rfl rfl rfl q259 hS1 (rfl : 2 + 3 = 5) (xdt tt_X12_mainCause 2 rfl) ?_
  refine g_iconst hC (rfl : 5 + 1 = 6) (xdt tt_X12_mainCause 3 rfl) ?_
  refine g_istore_n hC rfl (by decide) (lv' := [(1, vi (-1)), (0, vr E r0 0)]) rfl (rfl : 6 + 1 = 7) (xdt tt_X12_mainCause 4 rfl) ?_
  refine g_iconst hC (rfl : 7 + 1 = 8) (xdt tt_X12_mainCause 5 rfl) ?_
  refine g_istore_n hC rfl (by decide) (lv' := [(2, vi 0), (1, vi (-1)), (0, vr E r0 0)]) rfl (rfl : 8 + 1 = 9) (xdt tt_X12_mainCause 6 rfl) ?_
  refine g_iconst hC (rfl : 9 + 1 = 10) (xdt tt_X12_mainCause 7 rfl) ?_
  refine g_istore_n hC rfl (by decide) (lv' := [(3, vi 1), (2, vi 0), (1, vi (-1)), (0, vr E r0 0)]) rfl (rfl : 10 + 1 = 11) (xdt tt_X12_mainCause 8 rfl) ?_
  refine g_sub [3, 2, 1, 0] (lv' := [(0, vr E r0 0), (1, vi (-1)), (2, vi 0), (3, vi 1)]) rfl ?_
  exact k_X12_mainCause_p4_0_b11 hC hZ hE hk0 _ _ _ _ _ h
def f_X12_isLatest_p4_0 (S : xSt) (r0 : Nat) (a1 : Int) : Option (Int × xSt) :=
  bd2 (f_X12_isIn S (wr a1) 0 99) fun v3 S2 =>
  if wr v3 = 0 then
    (some (0, S2))
  else
    (if wr (gI S2 r0 6 17) ≤ wr a1 then
      (some (0, S2))
    else
      (some (1, S2)))
set_option maxRecDepth 100000 in
set_option maxHeartbeats 4000000 in
theorem c_X12_isLatest_p4_0 (l : Launch) {E : xE} {S S' : xSt} {r0 : Nat} {a1 : Int} (hk0 : xkd E r0 = 4) {v : Int} (h : f_X12_isLatest_p4_0 S r0 a1 = some (v, S')) : Met l yX12_isLatest (xws yX12_isLatest cX12_isLatest 2 (some .boolean)) (rmD 2) (YPc E [vr E r0 0, vi a1] S) (YQz E v S') 0 0 (xA E) := by
  unfold f_X12_isLatest_p4_0 at h
  refine met_z (by decide +kernel) (Nat.le_of_ble_eq_true rfl) (fun K hC hZ hE => ?_)
  have hC : xOK K cX12_isLatest RX12 2 (rmE 2 0) := hC
  show WG K E 0 [(0, vr E r0 0), (1, vi a1)] [] S
  refine g_iload_n hC rfl 1 rfl (rfl : 0 + 1 = 1) (xdt tt_X12_isLatest 0 rfl) ?_
  refine g_i2l hC (rfl : 1 + 1 = 2) (xdt tt_X12_isLatest 1 rfl) ?_
  refine g_lconst hC (z := 0) (by decide) (rfl : 2 + 1 = 3) (xdt tt_X12_isLatest 2 rfl) ?_
  refine g_ldc2 hC (z := 99) q902 (rfl : 3 + 3 = 6) (xdt tt_X12_isLatest 3 rfl) ?_
  obtain ⟨v3, S2, hc1, h⟩ := bd2_i h
  refine g_callSz hC hZ m_X12_isIn q269 (Nat.le_of_ble_eq_true rfl) [vl (wr a1), vl 0, vl 99] rfl (fun l => c_X12_isIn l hc1) rfl (Nat.le_of_ble_eq_true rfl) (rfl : 6 + 3 = 9) (xdt tt_X12_isLatest 4 rfl) (fun hb4 => ?_)
  refine g_if_eq hC (show ((9 : Nat) : Int) + 18 = ((27 : Nat) : Int) by decide) (rfl : 9 + 3 = 12) (xdt tt_X12_isLatest 5 rfl) (fun hc6 => ?_) (fun hc6 => ?_)
  · replace h := (if_pos hc6).symm.trans h
    refine g_iconst hC (rfl : 27 + 1 = 28) (xdt tt_X12_isLatest 14 rfl) ?_
    cases h
    exact g_zret hC hE (Or.inl rfl) (xdt tt_X12_isLatest 15 rfl)
  · replace h := (if_neg hc6).symm.trans h
    refine g_iload_n hC rfl 1 rfl (rfl : 12 + 1 = 13) (xdt tt_X12_isLatest 6 rfl) ?_
    refine g_aload_n hC rfl 0 rfl (rfl : 13 + 1 = 14) (xdt tt_X12_isLatest 7 rfl) ?_
    refine g_getP hC hk0 kclX12 ly4_0 10 (by decide) (rfl : r0 + 0 = r0) rfl q201 (rfl : 14 + 3 = 17) (xdt tt_X12_isLatest 8 rfl) ?_
    refine g_bipush hC (by decide) (rfl : 17 + 2 = 19) (xdt tt_X12_isLatest 9 rfl) ?_
    refine g_iald hC hk0 ly4_6 (by decide) (rfl : 19 + 1 = 20) (xdt tt_X12_isLatest 10 rfl) (k0 := 17) (by decide) ?_
    refine g_icmp_ge hC (show ((20 : Nat) : Int) + 7 = ((27 : Nat) : Int) by decide) (rfl : 20 + 3 = 23) (xdt tt_X12_isLatest 11 rfl) (fun hc5 => ?_) (fun hc5 => ?_)
    · replace h := (if_pos hc5).symm.trans h
      refine g_iconst hC (rfl : 27 + 1 = 28) (xdt tt_X12_isLatest 14 rfl) ?_
      cases h
      exact g_zret hC hE (Or.inl rfl) (xdt tt_X12_isLatest 15 rfl)
    · replace h := (if_neg hc5).symm.trans h
      refine g_iconst hC (rfl : 23 + 1 = 24) (xdt tt_X12_isLatest 12 rfl) ?_
      refine g_goto hC (show ((24 : Nat) : Int) + 4 = ((28 : Nat) : Int) by decide) (xdt tt_X12_isLatest 13 rfl) ?_
      cases h
      exact g_zret hC hE (Or.inr rfl) (xdt tt_X12_isLatest 15 rfl)
def f_X12_latest_p4_0 (S : xSt) (r0 : Nat) (a1 : Int) : Option (Int × xSt) :=
  ckI (263 + (Int.tmod (wr (((gI S r0 6 17) - 1) - a1)) (wr 100))) 363 <|
  some ((gI S r0 6 (wr (263 + (Int.tmod (wr (((gI S r0 6 17) - 1) - a1)) (wr 100)))).toNat), S)
set_option maxRecDepth 100000 in
set_option maxHeartbeats 4000000 in
theorem c_X12_latest_p4_0 (l : Launch) {E : xE} {S S' : xSt} {r0 : Nat} {a1 : Int} (hk0 : xkd E r0 = 4) {v : Int} (h : f_X12_latest_p4_0 S r0 a1 = some (v, S')) : Met l yX12_latest (xws yX12_latest cX12_latest 2 (some .int)) (rmD 1) (YPc E [vr E r0 0, vi a1] S) (YQi E v S') 0 0 (xA E) := by
  unfold f_X12_latest_p4_0 at h
  refine met_i (by decide +kernel) (Nat.le_of_ble_eq_true rfl) (fun K hC hZ hE => ?_)
  have hC : xOK K cX12_latest RX12 2 (rmE 1 0) := hC
  show WG K E 0 [(0, vr E r0 0), (1, vi a1)] [] S
  refine g_aload_n hC rfl 0 rfl (rfl : 0 + 1 = 1) (xdt tt_X12_latest 0 rfl) ?_
  refine g_getP hC hk0 kclX12 ly4_0 10 (by decide) (rfl : r0 + 0 = r0) rfl q201 (rfl : 1 + 3 = 4) (xdt tt_X12_latest 1 rfl) ?_
  refine g_sipush hC (by decide) (rfl : 4 + 3 = 7) (xdt tt_X12_latest 2 rfl) ?_
  refine g_aload_n hC rfl 0 rfl (rfl : 7 + 1 = 8) (xdt tt_X12_latest 3 rfl) ?_
  refine g_getP hC hk0 kclX12 ly4_0 10 (by decide) (rfl : r0 + 0 = r0) rfl q201 (rfl : 8 + 3 = 11) (xdt tt_X12_latest 4 rfl) ?_
  refine g_bipush hC (by decide) (rfl : 11 + 2 = 13) (xdt tt_X12_latest 5 rfl) ?_
  refine g_iald hC hk0 ly4_6 (by decide) (rfl : 13 + 1 = 14) (xdt tt_X12_latest 6 rfl) (k0 := 17) (by decide) ?_
  refine g_iconst hC (rfl : 14 + 1 = 15) (xdt tt_X12_latest 7 rfl) ?_
  refine g_isub hC (rfl : 15 + 1 = 16) (xdt tt_X12_latest 8 rfl) ?_
  refine g_iload_n hC rfl 1 rfl (rfl : 16 + 1 = 17) (xdt tt_X12_latest 9 rfl) ?_
  refine g_isub hC (rfl : 17 + 1 = 18) (xdt tt_X12_latest 10 rfl) ?_
  refine g_bipush hC (by decide) (rfl : 18 + 2 = 20) (xdt tt_X12_latest 11 rfl) ?_
  refine g_irem hC (by decide) (rfl : 20 + 1 = 21) (xdt tt_X12_latest 12 rfl) ?_
  refine g_iadd hC (rfl : 21 + 1 = 22) (xdt tt_X12_latest 13 rfl) ?_
  obtain ⟨hi1, h⟩ := ckI_i h
  refine g_iald hC hk0 ly4_6 hi1 (rfl : 22 + 1 = 23) (xdt tt_X12_latest 14 rfl) (k0 := (wr (263 + (Int.tmod (wr (((gI S r0 6 17) - 1) - a1)) (wr 100)))).toNat) rfl ?_
  cases h
  exact g_iret hC hE (xdt tt_X12_latest 15 rfl)
def f_X12_decoded_p4_0 (S : xSt) (r0 : Nat) (a1 : Int) : Option (Int × xSt) :=
  bd2 (f_X12_isLatest_p4_0 S r0 a1) fun v3 S2 =>
  bd2 (f_X12_is_p4_0 S2 r0 v3) fun v7 S6 =>
  if wr v7 = 0 then
    (some (0, S6))
  else
    (bd2 (f_X12_latest_p4_0 S6 r0 a1) fun v11 S10 =>
    some (v11, S10))
set_option maxRecDepth 100000 in
set_option maxHeartbeats 4000000 in
theorem c_X12_decoded_p4_0 (l : Launch) {E : xE} {S S' : xSt} {r0 : Nat} {a1 : Int} (hk0 : xkd E r0 = 4) {v : Int} (h : f_X12_decoded_p4_0 S r0 a1 = some (v, S')) : Met l yX12_decoded (xws yX12_decoded cX12_decoded 2 (some .int)) (rmD 3) (YPc E [vr E r0 0, vi a1] S) (YQi E v S') 0 0 (xA E) := by
  unfold f_X12_decoded_p4_0 at h
  refine met_i (by decide +kernel) (Nat.le_of_ble_eq_true rfl) (fun K hC hZ hE => ?_)
  have hC : xOK K cX12_decoded RX12 2 (rmE 3 0) := hC
  show WG K E 0 [(0, vr E r0 0), (1, vi a1)] [] S
  refine g_aload_n hC rfl 0 rfl (rfl : 0 + 1 = 1) (xdt tt_X12_decoded 0 rfl) ?_
  refine g_aload_n hC rfl 0 rfl (rfl : 1 + 1 = 2) (xdt tt_X12_decoded 1 rfl) ?_
  refine g_iload_n hC rfl 1 rfl (rfl : 2 + 1 = 3) (xdt tt_X12_decoded 2 rfl) ?_
  obtain ⟨v3, S2, hc1, h⟩ := bd2_i h
  refine g_callVz hC hZ hk0 kclX12 ly4_0 m_X12_isLatest q898 (Nat.le_of_ble_eq_true rfl) [vi a1] rfl (fun l => c_X12_isLatest_p4_0 l hk0 hc1) rfl (Nat.le_of_ble_eq_true rfl) (rfl : 3 + 3 = 6) (xdt tt_X12_decoded 3 rfl) (fun hb4 => ?_)
  obtain ⟨v7, S6, hc5, h⟩ := bd2_i h
  refine g_callVz hC hZ hk0 kclX12 ly4_0 m_X12_is q655 (Nat.le_of_ble_eq_true rfl) [vi v3] rfl (fun l => c_X12_is_p4_0 l hk0 hc5) rfl (Nat.le_of_ble_eq_true rfl) (rfl : 6 + 3 = 9) (xdt tt_X12_decoded 4 rfl) (fun hb8 => ?_)
  refine g_if_eq hC (show ((9 : Nat) : Int) + 11 = ((20 : Nat) : Int) by decide) (rfl : 9 + 3 = 12) (xdt tt_X12_decoded 5 rfl) (fun hc12 => ?_) (fun hc12 => ?_)
  · replace h := (if_pos hc12).symm.trans h
    refine g_iconst hC (rfl : 20 + 1 = 21) (xdt tt_X12_decoded 10 rfl) ?_
    cases h
    exact g_iret hC hE (xdt tt_X12_decoded 11 rfl)
  · replace h := (if_neg hc12).symm.trans h
    refine g_aload_n hC rfl 0 rfl (rfl : 12 + 1 = 13) (xdt tt_X12_decoded 6 rfl) ?_
    refine g_iload_n hC rfl 1 rfl (rfl : 13 + 1 = 14) (xdt tt_X12_decoded 7 rfl) ?_
    obtain ⟨v11, S10, hc9, h⟩ := bd2_i h
    refine g_callVi hC hZ hk0 kclX12 ly4_0 m_X12_latest q903 (Nat.le_of_ble_eq_true rfl) [vi a1] rfl (fun l => c_X12_latest_p4_0 l hk0 hc9) rfl (Nat.le_of_ble_eq_true rfl) (rfl : 14 + 3 = 17) (xdt tt_X12_decoded 8 rfl) ?_
    refine g_goto hC (show ((17 : Nat) : Int) + 4 = ((21 : Nat) : Int) by decide) (xdt tt_X12_decoded 9 rfl) ?_
    cases h
    exact g_iret hC hE (xdt tt_X12_decoded 11 rfl)
def f_X12_plainBegins_p4_0_b2 (r0 : Nat) : Nat → xSt → Int → Option (xSt)
  | 0, _, _ => none
  | fuel + 1, S, x1 =>
    if wr 60 ≤ wr x1 then
      (lt1 (wI S r0 0 19 0) fun S1 =>
      some S1)
    else
      (ckI x1 60 <|
      lt1 (wI S r0 12 (wr x1).toNat 0) fun S3 =>
      (f_X12_plainBegins_p4_0_b2 r0 fuel) S3 (x1 + 1))
def f_X12_plainBegins_p4_0 (S : xSt) (r0 : Nat) : Option (xSt) :=
  f_X12_plainBegins_p4_0_b2 r0 (fu S) S 0
set_option maxRecDepth 100000 in
set_option maxHeartbeats 4000000 in
theorem k_X12_plainBegins_p4_0_b2 {K : xCtx} {E : xE} {b : Nat} (hC : xOK K cX12_plainBegins RX12 2 (rmE 1 b)) (hZ : xZ K) {S' : xSt} (hE : xEnd K E none (YQv E S')) {r0 : Nat} (hk0 : xkd E r0 = 4) : ∀ (fuel : Nat) (S : xSt) (x1 : Int), f_X12_plainBegins_p4_0_b2 r0 fuel S x1 = some S' → WG K E 2 [(0, vr E r0 0), (1, vi x1)] [] S := by
  intro fuel
  induction fuel with
  | zero => intro S x1 h; cases h
  | succ fuel ih =>
    intro S x1 h
    rw [f_X12_plainBegins_p4_0_b2] at h
    refine g_iload_n hC rfl 1 rfl (rfl : 2 + 1 = 3) (xdt tt_X12_plainBegins 2 rfl) ?_
    refine g_bipush hC (by decide) (rfl : 3 + 2 = 5) (xdt tt_X12_plainBegins 3 rfl) ?_
    refine g_icmp_ge hC (show ((5 : Nat) : Int) + 16 = ((21 : Nat) : Int) by decide) (rfl : 5 + 3 = 8) (xdt tt_X12_plainBegins 4 rfl) (fun hc4 => ?_) (fun hc4 => ?_)
    · replace h := (if_pos hc4).symm.trans h
      refine g_aload_n hC rfl 0 rfl (rfl : 21 + 1 = 22) (xdt tt_X12_plainBegins 12 rfl) ?_
      refine g_iconst hC (rfl : 22 + 1 = 23) (xdt tt_X12_plainBegins 13 rfl) ?_
      obtain ⟨S1, hS1, h⟩ := lt1_i h
      refine g_putI hC hk0 kclX12 ly4_0 19 (by decide) rfl rfl rfl q933 hS1 (rfl : 23 + 3 = 26) (xdt tt_X12_plainBegins 14 rfl) ?_
      cases h
      exact g_vret hC hE (xdt tt_X12_plainBegins 15 rfl)
    · replace h := (if_neg hc4).symm.trans h
      refine g_aload_n hC rfl 0 rfl (rfl : 8 + 1 = 9) (xdt tt_X12_plainBegins 5 rfl) ?_
      refine g_getP hC hk0 kclX12 ly4_0 18 (by decide) (rfl : r0 + 0 = r0) rfl q207 (rfl : 9 + 3 = 12) (xdt tt_X12_plainBegins 6 rfl) ?_
      refine g_iload_n hC rfl 1 rfl (rfl : 12 + 1 = 13) (xdt tt_X12_plainBegins 7 rfl) ?_
      refine g_iconst hC (rfl : 13 + 1 = 14) (xdt tt_X12_plainBegins 8 rfl) ?_
      obtain ⟨hi2, h⟩ := ckI_i h
      obtain ⟨S3, hS3, h⟩ := lt1_i h
      refine g_iast hC hk0 ly4_12 hi2 rfl hS3 (rfl : 14 + 1 = 15) (xdt tt_X12_plainBegins 9 rfl) ?_
      refine g_iinc hC 1 rfl (by decide) (lv' := [(1, vi (x1 + 1)), (0, vr E r0 0)]) rfl (rfl : 15 + 3 = 18) (xdt tt_X12_plainBegins 10 rfl) ?_
      refine g_goto hC (show ((18 : Nat) : Int) + (-16) = ((2 : Nat) : Int) by decide) (xdt tt_X12_plainBegins 11 rfl) ?_
      refine g_sub [1, 0] (lv' := [(0, vr E r0 0), (1, vi (x1 + 1))]) rfl ?_
      exact ih _ _ h
set_option maxRecDepth 100000 in
set_option maxHeartbeats 4000000 in
theorem c_X12_plainBegins_p4_0 (l : Launch) {E : xE} {S S' : xSt} {r0 : Nat} (hk0 : xkd E r0 = 4) (h : f_X12_plainBegins_p4_0 S r0 = some S') : Met l yX12_plainBegins (xws yX12_plainBegins cX12_plainBegins 2 none) (rmD 1) (YPc E [vr E r0 0] S) (YQv E S') 0 0 (xA E) := by
  unfold f_X12_plainBegins_p4_0 at h
  refine met_v (by decide +kernel) (Nat.le_of_ble_eq_true rfl) (fun K hC hZ hE => ?_)
  have hC : xOK K cX12_plainBegins RX12 2 (rmE 1 0) := hC
  show WG K E 0 [(0, vr E r0 0)] [] S
  refine g_iconst hC (rfl : 0 + 1 = 1) (xdt tt_X12_plainBegins 0 rfl) ?_
  refine g_istore_n hC rfl (by decide) (lv' := [(1, vi 0), (0, vr E r0 0)]) rfl (rfl : 1 + 1 = 2) (xdt tt_X12_plainBegins 1 rfl) ?_
  refine g_sub [1, 0] (lv' := [(0, vr E r0 0), (1, vi 0)]) rfl ?_
  exact k_X12_plainBegins_p4_0_b2 hC hZ hE hk0 _ _ _ h
def f_X12_plainGoesOn_p4_0_b82 (r0 : Nat) (S : xSt) (x1 : Int) : Option (xSt) :=
  ckI x1 60 <|
  lt1 (wI S r0 12 (wr x1).toNat 0) fun S4 =>
  lt1 (wI S4 r0 0 19 (x1 + 1)) fun S5 =>
  some S5
def f_X12_plainGoesOn_p4_0 (S : xSt) (r0 : Nat) : Option (xSt) :=
  ckI (gI S r0 0 19) 60 <|
  if ¬ wr (gI S r0 1 (wr (gI S r0 0 19)).toNat) = wr 8 then
    (ckI (gI S r0 0 19) 60 <|
    if ¬ wr (gI S r0 1 (wr (gI S r0 0 19)).toNat) = wr 9 then
      (f_X12_plainGoesOn_p4_0_b82 r0 S (gI S r0 0 19))
    else
      (ckI (gI S r0 0 19) 60 <|
      ckI (gI S r0 0 19) 60 <|
      if wr (gI S r0 4 (wr (gI S r0 0 19)).toNat) ≤ wr (gI S r0 12 (wr (gI S r0 0 19)).toNat) then
        (f_X12_plainGoesOn_p4_0_b82 r0 S (gI S r0 0 19))
      else
        (ckI (gI S r0 0 19) 60 <|
        ckI (gI S r0 0 19) 60 <|
        lt1 (wI S r0 12 (wr (gI S r0 0 19)).toNat ((gI S r0 12 (wr (gI S r0 0 19)).toNat) + 1)) fun S10 =>
        ckI (gI S r0 0 19) 60 <|
        lt1 (wI S10 r0 0 19 (gI S10 r0 3 (wr (gI S r0 0 19)).toNat)) fun S12 =>
        some S12)))
  else
    (ckI (gI S r0 0 19) 60 <|
    lt1 (wI S r0 0 19 (gI S r0 3 (wr (gI S r0 0 19)).toNat)) fun S16 =>
    some S16)
set_option maxRecDepth 100000 in
set_option maxHeartbeats 4000000 in
theorem k_X12_plainGoesOn_p4_0_b82 {K : xCtx} {E : xE} {b : Nat} (hC : xOK K cX12_plainGoesOn RX12 2 (rmE 1 b)) (hZ : xZ K) {S' : xSt} (hE : xEnd K E none (YQv E S')) {r0 : Nat} (hk0 : xkd E r0 = 4) : ∀ (S : xSt) (x1 : Int), f_X12_plainGoesOn_p4_0_b82 r0 S x1 = some S' → WG K E 82 [(0, vr E r0 0), (1, vi x1)] [] S := by
  intro S x1 h
  unfold f_X12_plainGoesOn_p4_0_b82 at h
  refine g_aload_n hC rfl 0 rfl (rfl : 82 + 1 = 83) (xdt tt_X12_plainGoesOn 48 rfl) ?_
  refine g_getP hC hk0 kclX12 ly4_0 18 (by decide) (rfl : r0 + 0 = r0) rfl q207 (rfl : 83 + 3 = 86) (xdt tt_X12_plainGoesOn 49 rfl) ?_
  refine g_iload_n hC rfl 1 rfl (rfl : 86 + 1 = 87) (xdt tt_X12_plainGoesOn 50 rfl) ?_
  refine g_iconst hC (rfl : 87 + 1 = 88) (xdt tt_X12_plainGoesOn 51 rfl) ?_
  obtain ⟨hi3, h⟩ := ckI_i h
  obtain ⟨S4, hS4, h⟩ := lt1_i h
  refine g_iast hC hk0 ly4_12 hi3 rfl hS4 (rfl : 88 + 1 = 89) (xdt tt_X12_plainGoesOn 52 rfl) ?_
  refine g_aload_n hC rfl 0 rfl (rfl : 89 + 1 = 90) (xdt tt_X12_plainGoesOn 53 rfl) ?_
  refine g_iload_n hC rfl 1 rfl (rfl : 90 + 1 = 91) (xdt tt_X12_plainGoesOn 54 rfl) ?_
  refine g_iconst hC (rfl : 91 + 1 = 92) (xdt tt_X12_plainGoesOn 55 rfl) ?_
  refine g_iadd hC (rfl : 92 + 1 = 93) (xdt tt_X12_plainGoesOn 56 rfl) ?_
  obtain ⟨S5, hS5, h⟩ := lt1_i h
  refine g_putI hC hk0 kclX12 ly4_0 19 (by decide) rfl rfl rfl q933 hS5 (rfl : 93 + 3 = 96) (xdt tt_X12_plainGoesOn 57 rfl) ?_
  cases h
  exact g_vret hC hE (xdt tt_X12_plainGoesOn 58 rfl)
set_option maxRecDepth 100000 in
set_option maxHeartbeats 4000000 in
theorem c_X12_plainGoesOn_p4_0 (l : Launch) {E : xE} {S S' : xSt} {r0 : Nat} (hk0 : xkd E r0 = 4) (h : f_X12_plainGoesOn_p4_0 S r0 = some S') : Met l yX12_plainGoesOn (xws yX12_plainGoesOn cX12_plainGoesOn 2 none) (rmD 1) (YPc E [vr E r0 0] S) (YQv E S') 0 0 (xA E) := by
  unfold f_X12_plainGoesOn_p4_0 at h
  refine met_v (by decide +kernel) (Nat.le_of_ble_eq_true rfl) (fun K hC hZ hE => ?_)
  have hC : xOK K cX12_plainGoesOn RX12 2 (rmE 1 0) := hC
  show WG K E 0 [(0, vr E r0 0)] [] S
  refine g_aload_n hC rfl 0 rfl (rfl : 0 + 1 = 1) (xdt tt_X12_plainGoesOn 0 rfl) ?_
  refine g_getI hC hk0 kclX12 ly4_0 19 (by decide) rfl q933 (rfl : 1 + 3 = 4) (xdt tt_X12_plainGoesOn 1 rfl) ?_
  refine g_istore_n hC rfl (by decide) (lv' := [(1, vi (gI S r0 0 19)), (0, vr E r0 0)]) rfl (rfl : 4 + 1 = 5) (xdt tt_X12_plainGoesOn 2 rfl) ?_
  refine g_aload_n hC rfl 1 rfl (rfl : 5 + 1 = 6) (xdt tt_X12_plainGoesOn 3 rfl) ?_
  refine g_getP hC hk0 kclX12 ly4_0 5 (by decide) (rfl : r0 + 0 = r0) rfl q196 (rfl : 6 + 3 = 9) (xdt tt_X12_plainGoesOn 4 rfl) ?_
  refine g_iload_n hC rfl 0 rfl (rfl : 9 + 1 = 10) (xdt tt_X12_plainGoesOn 5 rfl) ?_
  obtain ⟨hi1, h⟩ := ckI_i h
  refine g_iald hC hk0 ly4_1 hi1 (rfl : 10 + 1 = 11) (xdt tt_X12_plainGoesOn 6 rfl) (k0 := (wr (gI S r0 0 19)).toNat) rfl ?_
  refine g_bipush hC (by decide) (rfl : 11 + 2 = 13) (xdt tt_X12_plainGoesOn 7 rfl) ?_
  refine g_icmp_ne hC (show ((13 : Nat) : Int) + 16 = ((29 : Nat) : Int) by decide) (rfl : 13 + 3 = 16) (xdt tt_X12_plainGoesOn 8 rfl) (fun hc17 => ?_) (fun hc17 => ?_)
  · replace h := (if_pos hc17).symm.trans h
    refine g_aload_n hC rfl 1 rfl (rfl : 29 + 1 = 30) (xdt tt_X12_plainGoesOn 16 rfl) ?_
    refine g_getP hC hk0 kclX12 ly4_0 5 (by decide) (rfl : r0 + 0 = r0) rfl q196 (rfl : 30 + 3 = 33) (xdt tt_X12_plainGoesOn 17 rfl) ?_
    refine g_iload_n hC rfl 0 rfl (rfl : 33 + 1 = 34) (xdt tt_X12_plainGoesOn 18 rfl) ?_
    obtain ⟨hi2, h⟩ := ckI_i h
    refine g_iald hC hk0 ly4_1 hi2 (rfl : 34 + 1 = 35) (xdt tt_X12_plainGoesOn 19 rfl) (k0 := (wr (gI S r0 0 19)).toNat) rfl ?_
    refine g_bipush hC (by decide) (rfl : 35 + 2 = 37) (xdt tt_X12_plainGoesOn 20 rfl) ?_
    refine g_icmp_ne hC (show ((37 : Nat) : Int) + 45 = ((82 : Nat) : Int) by decide) (rfl : 37 + 3 = 40) (xdt tt_X12_plainGoesOn 21 rfl) (fun hc14 => ?_) (fun hc14 => ?_)
    · replace h := (if_pos hc14).symm.trans h
      refine g_sub [1, 0] (lv' := [(0, vr E r0 0), (1, vi (gI S r0 0 19))]) rfl ?_
      exact k_X12_plainGoesOn_p4_0_b82 hC hZ hE hk0 _ _ h
    · replace h := (if_neg hc14).symm.trans h
      refine g_aload_n hC rfl 1 rfl (rfl : 40 + 1 = 41) (xdt tt_X12_plainGoesOn 22 rfl) ?_
      refine g_getP hC hk0 kclX12 ly4_0 18 (by decide) (rfl : r0 + 0 = r0) rfl q207 (rfl : 41 + 3 = 44) (xdt tt_X12_plainGoesOn 23 rfl) ?_
      refine g_iload_n hC rfl 0 rfl (rfl : 44 + 1 = 45) (xdt tt_X12_plainGoesOn 24 rfl) ?_
      obtain ⟨hi6, h⟩ := ckI_i h
      refine g_iald hC hk0 ly4_12 hi6 (rfl : 45 + 1 = 46) (xdt tt_X12_plainGoesOn 25 rfl) (k0 := (wr (gI S r0 0 19)).toNat) rfl ?_
      refine g_aload_n hC rfl 1 rfl (rfl : 46 + 1 = 47) (xdt tt_X12_plainGoesOn 26 rfl) ?_
      refine g_getP hC hk0 kclX12 ly4_0 8 (by decide) (rfl : r0 + 0 = r0) rfl q199 (rfl : 47 + 3 = 50) (xdt tt_X12_plainGoesOn 27 rfl) ?_
      refine g_iload_n hC rfl 0 rfl (rfl : 50 + 1 = 51) (xdt tt_X12_plainGoesOn 28 rfl) ?_
      obtain ⟨hi7, h⟩ := ckI_i h
      refine g_iald hC hk0 ly4_4 hi7 (rfl : 51 + 1 = 52) (xdt tt_X12_plainGoesOn 29 rfl) (k0 := (wr (gI S r0 0 19)).toNat) rfl ?_
      refine g_icmp_ge hC (show ((52 : Nat) : Int) + 30 = ((82 : Nat) : Int) by decide) (rfl : 52 + 3 = 55) (xdt tt_X12_plainGoesOn 30 rfl) (fun hc13 => ?_) (fun hc13 => ?_)
      · replace h := (if_pos hc13).symm.trans h
        refine g_sub [1, 0] (lv' := [(0, vr E r0 0), (1, vi (gI S r0 0 19))]) rfl ?_
        exact k_X12_plainGoesOn_p4_0_b82 hC hZ hE hk0 _ _ h
      · replace h := (if_neg hc13).symm.trans h
        refine g_aload_n hC rfl 1 rfl (rfl : 55 + 1 = 56) (xdt tt_X12_plainGoesOn 31 rfl) ?_
        refine g_getP hC hk0 kclX12 ly4_0 18 (by decide) (rfl : r0 + 0 = r0) rfl q207 (rfl : 56 + 3 = 59) (xdt tt_X12_plainGoesOn 32 rfl) ?_
        refine g_iload_n hC rfl 0 rfl (rfl : 59 + 1 = 60) (xdt tt_X12_plainGoesOn 33 rfl) ?_
        refine g_aload_n hC rfl 1 rfl (rfl : 60 + 1 = 61) (xdt tt_X12_plainGoesOn 34 rfl) ?_
        refine g_getP hC hk0 kclX12 ly4_0 18 (by decide) (rfl : r0 + 0 = r0) rfl q207 (rfl : 61 + 3 = 64) (xdt tt_X12_plainGoesOn 35 rfl) ?_
        refine g_iload_n hC rfl 0 rfl (rfl : 64 + 1 = 65) (xdt tt_X12_plainGoesOn 36 rfl) ?_
        obtain ⟨hi8, h⟩ := ckI_i h
        refine g_iald hC hk0 ly4_12 hi8 (rfl : 65 + 1 = 66) (xdt tt_X12_plainGoesOn 37 rfl) (k0 := (wr (gI S r0 0 19)).toNat) rfl ?_
        refine g_iconst hC (rfl : 66 + 1 = 67) (xdt tt_X12_plainGoesOn 38 rfl) ?_
        refine g_iadd hC (rfl : 67 + 1 = 68) (xdt tt_X12_plainGoesOn 39 rfl) ?_
        obtain ⟨hi9, h⟩ := ckI_i h
        obtain ⟨S10, hS10, h⟩ := lt1_i h
        refine g_iast hC hk0 ly4_12 hi9 rfl hS10 (rfl : 68 + 1 = 69) (xdt tt_X12_plainGoesOn 40 rfl) ?_
        refine g_aload_n hC rfl 1 rfl (rfl : 69 + 1 = 70) (xdt tt_X12_plainGoesOn 41 rfl) ?_
        refine g_aload_n hC rfl 1 rfl (rfl : 70 + 1 = 71) (xdt tt_X12_plainGoesOn 42 rfl) ?_
        refine g_getP hC hk0 kclX12 ly4_0 7 (by decide) (rfl : r0 + 0 = r0) rfl q198 (rfl : 71 + 3 = 74) (xdt tt_X12_plainGoesOn 43 rfl) ?_
        refine g_iload_n hC rfl 0 rfl (rfl : 74 + 1 = 75) (xdt tt_X12_plainGoesOn 44 rfl) ?_
        obtain ⟨hi11, h⟩ := ckI_i h
        refine g_iald hC hk0 ly4_3 hi11 (rfl : 75 + 1 = 76) (xdt tt_X12_plainGoesOn 45 rfl) (k0 := (wr (gI S r0 0 19)).toNat) rfl ?_
        obtain ⟨S12, hS12, h⟩ := lt1_i h
        refine g_putI hC hk0 kclX12 ly4_0 19 (by decide) rfl rfl rfl q933 hS12 (rfl : 76 + 3 = 79) (xdt tt_X12_plainGoesOn 46 rfl) ?_
        refine g_goto hC (show ((79 : Nat) : Int) + 17 = ((96 : Nat) : Int) by decide) (xdt tt_X12_plainGoesOn 47 rfl) ?_
        cases h
        exact g_vret hC hE (xdt tt_X12_plainGoesOn 58 rfl)
  · replace h := (if_neg hc17).symm.trans h
    refine g_aload_n hC rfl 1 rfl (rfl : 16 + 1 = 17) (xdt tt_X12_plainGoesOn 9 rfl) ?_
    refine g_aload_n hC rfl 1 rfl (rfl : 17 + 1 = 18) (xdt tt_X12_plainGoesOn 10 rfl) ?_
    refine g_getP hC hk0 kclX12 ly4_0 7 (by decide) (rfl : r0 + 0 = r0) rfl q198 (rfl : 18 + 3 = 21) (xdt tt_X12_plainGoesOn 11 rfl) ?_
    refine g_iload_n hC rfl 0 rfl (rfl : 21 + 1 = 22) (xdt tt_X12_plainGoesOn 12 rfl) ?_
    obtain ⟨hi15, h⟩ := ckI_i h
    refine g_iald hC hk0 ly4_3 hi15 (rfl : 22 + 1 = 23) (xdt tt_X12_plainGoesOn 13 rfl) (k0 := (wr (gI S r0 0 19)).toNat) rfl ?_
    obtain ⟨S16, hS16, h⟩ := lt1_i h
    refine g_putI hC hk0 kclX12 ly4_0 19 (by decide) rfl rfl rfl q933 hS16 (rfl : 23 + 3 = 26) (xdt tt_X12_plainGoesOn 14 rfl) ?_
    refine g_goto hC (show ((26 : Nat) : Int) + 70 = ((96 : Nat) : Int) by decide) (xdt tt_X12_plainGoesOn 15 rfl) ?_
    cases h
    exact g_vret hC hE (xdt tt_X12_plainGoesOn 58 rfl)
def f_X12_plain_p4_0_b50 (r0 : Nat) (S : xSt) : Option (Int × xSt) :=
  if wr (gI S r0 0 1) ≤ wr (gI S r0 0 19) then
    (some ((-1), S))
  else
    (some ((gI S r0 0 19), S))
def f_X12_plain_p4_0_b24 (r0 : Nat) : Nat → xSt → Int → Int → Option (Int × xSt)
  | 0, _, _, _ => none
  | fuel + 1, S, x1, x2 =>
    if wr x1 ≤ wr x2 then
      (f_X12_plain_p4_0_b50 r0 S)
    else
      (if wr (gI S r0 0 1) ≤ wr (gI S r0 0 19) then
        (f_X12_plain_p4_0_b50 r0 S)
      else
        (bd (f_X12_plainGoesOn_p4_0 S r0) fun S13 =>
        (f_X12_plain_p4_0_b24 r0 fuel) S13 x1 (x2 + 1)))
def f_X12_plain_p4_0 (S : xSt) (r0 : Nat) (a1 : Int) : Option (Int × xSt) :=
  bd2 (f_X12_isIn S (wr a1) 0 9999) fun v3 S2 =>
  bd2 (f_X12_is_p4_0 S2 r0 v3) fun v7 S6 =>
  if ¬ wr v7 = 0 then
    (bd (f_X12_plainBegins_p4_0 S6 r0) fun S10 =>
    f_X12_plain_p4_0_b24 r0 (fu S10) S10 a1 0)
  else
    (some (0, S6))
set_option maxRecDepth 100000 in
set_option maxHeartbeats 4000000 in
theorem k_X12_plain_p4_0_b50 {K : xCtx} {E : xE} {b : Nat} (hC : xOK K cX12_plain RX12 3 (rmE 2 b)) (hZ : xZ K) {v : Int} {S' : xSt} (hE : xEnd K E (some .int) (YQi E v S')) {r0 : Nat} (hk0 : xkd E r0 = 4) : ∀ (S : xSt) , f_X12_plain_p4_0_b50 r0 S = some (v, S') → WG K E 50 [(0, vr E r0 0)] [] S := by
  intro S h
  unfold f_X12_plain_p4_0_b50 at h
  refine g_aload_n hC rfl 0 rfl (rfl : 50 + 1 = 51) (xdt tt_X12_plain 26 rfl) ?_
  refine g_getI hC hk0 kclX12 ly4_0 19 (by decide) rfl q933 (rfl : 51 + 3 = 54) (xdt tt_X12_plain 27 rfl) ?_
  refine g_aload_n hC rfl 0 rfl (rfl : 54 + 1 = 55) (xdt tt_X12_plain 28 rfl) ?_
  refine g_getI hC hk0 kclX12 ly4_0 1 (by decide) rfl q228 (rfl : 55 + 3 = 58) (xdt tt_X12_plain 29 rfl) ?_
  refine g_icmp_ge hC (show ((58 : Nat) : Int) + 10 = ((68 : Nat) : Int) by decide) (rfl : 58 + 3 = 61) (xdt tt_X12_plain 30 rfl) (fun hc11 => ?_) (fun hc11 => ?_)
  · replace h := (if_pos hc11).symm.trans h
    refine g_iconst hC (rfl : 68 + 1 = 69) (xdt tt_X12_plain 34 rfl) ?_
    cases h
    exact g_iret hC hE (xdt tt_X12_plain 35 rfl)
  · replace h := (if_neg hc11).symm.trans h
    refine g_aload_n hC rfl 0 rfl (rfl : 61 + 1 = 62) (xdt tt_X12_plain 31 rfl) ?_
    refine g_getI hC hk0 kclX12 ly4_0 19 (by decide) rfl q933 (rfl : 62 + 3 = 65) (xdt tt_X12_plain 32 rfl) ?_
    refine g_goto hC (show ((65 : Nat) : Int) + 4 = ((69 : Nat) : Int) by decide) (xdt tt_X12_plain 33 rfl) ?_
    cases h
    exact g_iret hC hE (xdt tt_X12_plain 35 rfl)
set_option maxRecDepth 100000 in
set_option maxHeartbeats 4000000 in
theorem k_X12_plain_p4_0_b24 {K : xCtx} {E : xE} {b : Nat} (hC : xOK K cX12_plain RX12 3 (rmE 2 b)) (hZ : xZ K) {v : Int} {S' : xSt} (hE : xEnd K E (some .int) (YQi E v S')) {r0 : Nat} (hk0 : xkd E r0 = 4) : ∀ (fuel : Nat) (S : xSt) (x1 : Int) (x2 : Int), f_X12_plain_p4_0_b24 r0 fuel S x1 x2 = some (v, S') → WG K E 24 [(0, vr E r0 0), (1, vi x1), (2, vi x2)] [] S := by
  intro fuel
  induction fuel with
  | zero => intro S x1 x2 h; cases h
  | succ fuel ih =>
    intro S x1 x2 h
    rw [f_X12_plain_p4_0_b24] at h
    refine g_iload_n hC rfl 2 rfl (rfl : 24 + 1 = 25) (xdt tt_X12_plain 14 rfl) ?_
    refine g_iload_n hC rfl 1 rfl (rfl : 25 + 1 = 26) (xdt tt_X12_plain 15 rfl) ?_
    refine g_icmp_ge hC (show ((26 : Nat) : Int) + 24 = ((50 : Nat) : Int) by decide) (rfl : 26 + 3 = 29) (xdt tt_X12_plain 16 rfl) (fun hc15 => ?_) (fun hc15 => ?_)
    · replace h := (if_pos hc15).symm.trans h
      refine g_sub [0] (lv' := [(0, vr E r0 0)]) rfl ?_
      exact k_X12_plain_p4_0_b50 hC hZ hE hk0 _ h
    · replace h := (if_neg hc15).symm.trans h
      refine g_aload_n hC rfl 0 rfl (rfl : 29 + 1 = 30) (xdt tt_X12_plain 17 rfl) ?_
      refine g_getI hC hk0 kclX12 ly4_0 19 (by decide) rfl q933 (rfl : 30 + 3 = 33) (xdt tt_X12_plain 18 rfl) ?_
      refine g_aload_n hC rfl 0 rfl (rfl : 33 + 1 = 34) (xdt tt_X12_plain 19 rfl) ?_
      refine g_getI hC hk0 kclX12 ly4_0 1 (by decide) rfl q228 (rfl : 34 + 3 = 37) (xdt tt_X12_plain 20 rfl) ?_
      refine g_icmp_ge hC (show ((37 : Nat) : Int) + 13 = ((50 : Nat) : Int) by decide) (rfl : 37 + 3 = 40) (xdt tt_X12_plain 21 rfl) (fun hc14 => ?_) (fun hc14 => ?_)
      · replace h := (if_pos hc14).symm.trans h
        refine g_sub [0] (lv' := [(0, vr E r0 0)]) rfl ?_
        exact k_X12_plain_p4_0_b50 hC hZ hE hk0 _ h
      · replace h := (if_neg hc14).symm.trans h
        refine g_aload_n hC rfl 0 rfl (rfl : 40 + 1 = 41) (xdt tt_X12_plain 22 rfl) ?_
        obtain ⟨S13, hc12, h⟩ := bd_i h
        refine g_callVv hC hZ hk0 kclX12 ly4_0 m_X12_plainGoesOn q938 (Nat.le_of_ble_eq_true rfl) [] rfl (fun l => c_X12_plainGoesOn_p4_0 l hk0 hc12) rfl (Nat.le_of_ble_eq_true rfl) (rfl : 41 + 3 = 44) (xdt tt_X12_plain 23 rfl) ?_
        refine g_iinc hC 2 rfl (by decide) (lv' := [(2, vi (x2 + 1)), (0, vr E r0 0), (1, vi x1)]) rfl (rfl : 44 + 3 = 47) (xdt tt_X12_plain 24 rfl) ?_
        refine g_goto hC (show ((47 : Nat) : Int) + (-23) = ((24 : Nat) : Int) by decide) (xdt tt_X12_plain 25 rfl) ?_
        refine g_sub [1, 2, 0] (lv' := [(0, vr E r0 0), (1, vi x1), (2, vi (x2 + 1))]) rfl ?_
        exact ih _ _ _ h
set_option maxRecDepth 100000 in
set_option maxHeartbeats 4000000 in
theorem c_X12_plain_p4_0 (l : Launch) {E : xE} {S S' : xSt} {r0 : Nat} {a1 : Int} (hk0 : xkd E r0 = 4) {v : Int} (h : f_X12_plain_p4_0 S r0 a1 = some (v, S')) : Met l yX12_plain (xws yX12_plain cX12_plain 3 (some .int)) (rmD 2) (YPc E [vr E r0 0, vi a1] S) (YQi E v S') 0 0 (xA E) := by
  unfold f_X12_plain_p4_0 at h
  refine met_i (by decide +kernel) (Nat.le_of_ble_eq_true rfl) (fun K hC hZ hE => ?_)
  have hC : xOK K cX12_plain RX12 3 (rmE 2 0) := hC
  show WG K E 0 [(0, vr E r0 0), (1, vi a1)] [] S
  refine g_aload_n hC rfl 0 rfl (rfl : 0 + 1 = 1) (xdt tt_X12_plain 0 rfl) ?_
  refine g_iload_n hC rfl 1 rfl (rfl : 1 + 1 = 2) (xdt tt_X12_plain 1 rfl) ?_
  refine g_i2l hC (rfl : 2 + 1 = 3) (xdt tt_X12_plain 2 rfl) ?_
  refine g_lconst hC (z := 0) (by decide) (rfl : 3 + 1 = 4) (xdt tt_X12_plain 3 rfl) ?_
  refine g_ldc2 hC (z := 9999) q932 (rfl : 4 + 3 = 7) (xdt tt_X12_plain 4 rfl) ?_
  obtain ⟨v3, S2, hc1, h⟩ := bd2_i h
  refine g_callSz hC hZ m_X12_isIn q269 (Nat.le_of_ble_eq_true rfl) [vl (wr a1), vl 0, vl 9999] rfl (fun l => c_X12_isIn l hc1) rfl (Nat.le_of_ble_eq_true rfl) (rfl : 7 + 3 = 10) (xdt tt_X12_plain 5 rfl) (fun hb4 => ?_)
  obtain ⟨v7, S6, hc5, h⟩ := bd2_i h
  refine g_callVz hC hZ hk0 kclX12 ly4_0 m_X12_is q655 (Nat.le_of_ble_eq_true rfl) [vi v3] rfl (fun l => c_X12_is_p4_0 l hk0 hc5) rfl (Nat.le_of_ble_eq_true rfl) (rfl : 10 + 3 = 13) (xdt tt_X12_plain 6 rfl) (fun hb8 => ?_)
  refine g_if_ne hC (show ((13 : Nat) : Int) + 5 = ((18 : Nat) : Int) by decide) (rfl : 13 + 3 = 16) (xdt tt_X12_plain 7 rfl) (fun hc16 => ?_) (fun hc16 => ?_)
  · replace h := (if_pos hc16).symm.trans h
    refine g_aload_n hC rfl 0 rfl (rfl : 18 + 1 = 19) (xdt tt_X12_plain 10 rfl) ?_
    obtain ⟨S10, hc9, h⟩ := bd_i h
    refine g_callVv hC hZ hk0 kclX12 ly4_0 m_X12_plainBegins q934 (Nat.le_of_ble_eq_true rfl) [] rfl (fun l => c_X12_plainBegins_p4_0 l hk0 hc9) rfl (Nat.le_of_ble_eq_true rfl) (rfl : 19 + 3 = 22) (xdt tt_X12_plain 11 rfl) ?_
    refine g_iconst hC (rfl : 22 + 1 = 23) (xdt tt_X12_plain 12 rfl) ?_
    refine g_istore_n hC rfl (by decide) (lv' := [(2, vi 0), (0, vr E r0 0), (1, vi a1)]) rfl (rfl : 23 + 1 = 24) (xdt tt_X12_plain 13 rfl) ?_
    refine g_sub [1, 2, 0] (lv' := [(0, vr E r0 0), (1, vi a1), (2, vi 0)]) rfl ?_
    exact k_X12_plain_p4_0_b24 hC hZ hE hk0 _ _ _ _ h
  · replace h := (if_neg hc16).symm.trans h
    refine g_iconst hC (rfl : 16 + 1 = 17) (xdt tt_X12_plain 8 rfl) ?_
    cases h
    exact g_iret hC hE (xdt tt_X12_plain 9 rfl)
def f_X12_agrees_p4_0_b11 (r0 : Nat) : Nat → xSt → Int → Option (Int × xSt)
  | 0, _, _ => none
  | fuel + 1, S, x1 =>
    if wr (gI S r0 6 17) ≤ wr x1 then
      (some (1, S))
    else
      (if ¬ wr (gI S r0 0 19) = wr (gI S r0 0 1) then
        (if wr 100 ≤ wr (((gI S r0 6 17) - 1) - x1) then
          (bd (f_X12_plainGoesOn_p4_0 S r0) fun S5 =>
          (f_X12_agrees_p4_0_b11 r0 fuel) S5 (x1 + 1))
        else
          (bd2 (f_X12_latest_p4_0 S r0 (((gI S r0 6 17) - 1) - x1)) fun v8 S7 =>
          if wr v8 = wr (gI S7 r0 0 19) then
            (bd (f_X12_plainGoesOn_p4_0 S7 r0) fun S10 =>
            (f_X12_agrees_p4_0_b11 r0 fuel) S10 (x1 + 1))
          else
            (some (0, S7))))
      else
        (some (0, S)))
def f_X12_agrees_p4_0 (S : xSt) (r0 : Nat) : Option (Int × xSt) :=
  lt1 (wI S r0 0 0 0) fun S1 =>
  bd (f_X12_plainBegins_p4_0 S1 r0) fun S3 =>
  f_X12_agrees_p4_0_b11 r0 (fu S3) S3 0
set_option maxRecDepth 100000 in
set_option maxHeartbeats 4000000 in
theorem k_X12_agrees_p4_0_b11 {K : xCtx} {E : xE} {b : Nat} (hC : xOK K cX12_agrees RX12 3 (rmE 2 b)) (hZ : xZ K) {v : Int} {S' : xSt} (hE : xEnd K E (some .boolean) (YQz E v S')) {r0 : Nat} (hk0 : xkd E r0 = 4) : ∀ (fuel : Nat) (S : xSt) (x1 : Int), f_X12_agrees_p4_0_b11 r0 fuel S x1 = some (v, S') → WG K E 11 [(0, vr E r0 0), (1, vi x1)] [] S := by
  intro fuel
  induction fuel with
  | zero => intro S x1 h; cases h
  | succ fuel ih =>
    intro S x1 h
    rw [f_X12_agrees_p4_0_b11] at h
    refine g_iload_n hC rfl 1 rfl (rfl : 11 + 1 = 12) (xdt tt_X12_agrees 7 rfl) ?_
    refine g_aload_n hC rfl 0 rfl (rfl : 12 + 1 = 13) (xdt tt_X12_agrees 8 rfl) ?_
    refine g_getP hC hk0 kclX12 ly4_0 10 (by decide) (rfl : r0 + 0 = r0) rfl q201 (rfl : 13 + 3 = 16) (xdt tt_X12_agrees 9 rfl) ?_
    refine g_bipush hC (by decide) (rfl : 16 + 2 = 18) (xdt tt_X12_agrees 10 rfl) ?_
    refine g_iald hC hk0 ly4_6 (by decide) (rfl : 18 + 1 = 19) (xdt tt_X12_agrees 11 rfl) (k0 := 17) (by decide) ?_
    refine g_icmp_ge hC (show ((19 : Nat) : Int) + 58 = ((77 : Nat) : Int) by decide) (rfl : 19 + 3 = 22) (xdt tt_X12_agrees 12 rfl) (fun hc14 => ?_) (fun hc14 => ?_)
    · replace h := (if_pos hc14).symm.trans h
      refine g_iconst hC (rfl : 77 + 1 = 78) (xdt tt_X12_agrees 44 rfl) ?_
      cases h
      exact g_zret hC hE (Or.inr rfl) (xdt tt_X12_agrees 45 rfl)
    · replace h := (if_neg hc14).symm.trans h
      refine g_aload_n hC rfl 0 rfl (rfl : 22 + 1 = 23) (xdt tt_X12_agrees 13 rfl) ?_
      refine g_getI hC hk0 kclX12 ly4_0 19 (by decide) rfl q933 (rfl : 23 + 3 = 26) (xdt tt_X12_agrees 14 rfl) ?_
      refine g_aload_n hC rfl 0 rfl (rfl : 26 + 1 = 27) (xdt tt_X12_agrees 15 rfl) ?_
      refine g_getI hC hk0 kclX12 ly4_0 1 (by decide) rfl q228 (rfl : 27 + 3 = 30) (xdt tt_X12_agrees 16 rfl) ?_
      refine g_icmp_ne hC (show ((30 : Nat) : Int) + 5 = ((35 : Nat) : Int) by decide) (rfl : 30 + 3 = 33) (xdt tt_X12_agrees 17 rfl) (fun hc13 => ?_) (fun hc13 => ?_)
      · replace h := (if_pos hc13).symm.trans h
        refine g_aload_n hC rfl 0 rfl (rfl : 35 + 1 = 36) (xdt tt_X12_agrees 20 rfl) ?_
        refine g_getP hC hk0 kclX12 ly4_0 10 (by decide) (rfl : r0 + 0 = r0) rfl q201 (rfl : 36 + 3 = 39) (xdt tt_X12_agrees 21 rfl) ?_
        refine g_bipush hC (by decide) (rfl : 39 + 2 = 41) (xdt tt_X12_agrees 22 rfl) ?_
        refine g_iald hC hk0 ly4_6 (by decide) (rfl : 41 + 1 = 42) (xdt tt_X12_agrees 23 rfl) (k0 := 17) (by decide) ?_
        refine g_iconst hC (rfl : 42 + 1 = 43) (xdt tt_X12_agrees 24 rfl) ?_
        refine g_isub hC (rfl : 43 + 1 = 44) (xdt tt_X12_agrees 25 rfl) ?_
        refine g_iload_n hC rfl 1 rfl (rfl : 44 + 1 = 45) (xdt tt_X12_agrees 26 rfl) ?_
        refine g_isub hC (rfl : 45 + 1 = 46) (xdt tt_X12_agrees 27 rfl) ?_
        refine g_istore_n hC rfl (by decide) (lv' := [(2, vi (((gI S r0 6 17) - 1) - x1)), (0, vr E r0 0), (1, vi x1)]) rfl (rfl : 46 + 1 = 47) (xdt tt_X12_agrees 28 rfl) ?_
        refine g_iload_n hC rfl 0 rfl (rfl : 47 + 1 = 48) (xdt tt_X12_agrees 29 rfl) ?_
        refine g_bipush hC (by decide) (rfl : 48 + 2 = 50) (xdt tt_X12_agrees 30 rfl) ?_
        refine g_icmp_ge hC (show ((50 : Nat) : Int) + 17 = ((67 : Nat) : Int) by decide) (rfl : 50 + 3 = 53) (xdt tt_X12_agrees 31 rfl) (fun hc12 => ?_) (fun hc12 => ?_)
        · replace h := (if_pos hc12).symm.trans h
          refine g_aload_n hC rfl 1 rfl (rfl : 67 + 1 = 68) (xdt tt_X12_agrees 40 rfl) ?_
          obtain ⟨S5, hc4, h⟩ := bd_i h
          refine g_callVv hC hZ hk0 kclX12 ly4_0 m_X12_plainGoesOn q938 (Nat.le_of_ble_eq_true rfl) [] rfl (fun l => c_X12_plainGoesOn_p4_0 l hk0 hc4) rfl (Nat.le_of_ble_eq_true rfl) (rfl : 68 + 3 = 71) (xdt tt_X12_agrees 41 rfl) ?_
          refine g_iinc hC 2 rfl (by decide) (lv' := [(1, vi (x1 + 1)), (2, vi (((gI S r0 6 17) - 1) - x1)), (0, vr E r0 0)]) rfl (rfl : 71 + 3 = 74) (xdt tt_X12_agrees 42 rfl) ?_
          refine g_goto hC (show ((74 : Nat) : Int) + (-63) = ((11 : Nat) : Int) by decide) (xdt tt_X12_agrees 43 rfl) ?_
          refine g_sub [2, 0] (lv' := [(0, vr E r0 0), (1, vi (x1 + 1))]) rfl ?_
          exact ih _ _ h
        · replace h := (if_neg hc12).symm.trans h
          refine g_aload_n hC rfl 1 rfl (rfl : 53 + 1 = 54) (xdt tt_X12_agrees 32 rfl) ?_
          refine g_iload_n hC rfl 0 rfl (rfl : 54 + 1 = 55) (xdt tt_X12_agrees 33 rfl) ?_
          obtain ⟨v8, S7, hc6, h⟩ := bd2_i h
          refine g_callVi hC hZ hk0 kclX12 ly4_0 m_X12_latest q903 (Nat.le_of_ble_eq_true rfl) [vi (((gI S r0 6 17) - 1) - x1)] rfl (fun l => c_X12_latest_p4_0 l hk0 hc6) rfl (Nat.le_of_ble_eq_true rfl) (rfl : 55 + 3 = 58) (xdt tt_X12_agrees 34 rfl) ?_
          refine g_aload_n hC rfl 1 rfl (rfl : 58 + 1 = 59) (xdt tt_X12_agrees 35 rfl) ?_
          refine g_getI hC hk0 kclX12 ly4_0 19 (by decide) rfl q933 (rfl : 59 + 3 = 62) (xdt tt_X12_agrees 36 rfl) ?_
          refine g_icmp_eq hC (show ((62 : Nat) : Int) + 5 = ((67 : Nat) : Int) by decide) (rfl : 62 + 3 = 65) (xdt tt_X12_agrees 37 rfl) (fun hc11 => ?_) (fun hc11 => ?_)
          · replace h := (if_pos hc11).symm.trans h
            refine g_aload_n hC rfl 1 rfl (rfl : 67 + 1 = 68) (xdt tt_X12_agrees 40 rfl) ?_
            obtain ⟨S10, hc9, h⟩ := bd_i h
            refine g_callVv hC hZ hk0 kclX12 ly4_0 m_X12_plainGoesOn q938 (Nat.le_of_ble_eq_true rfl) [] rfl (fun l => c_X12_plainGoesOn_p4_0 l hk0 hc9) rfl (Nat.le_of_ble_eq_true rfl) (rfl : 68 + 3 = 71) (xdt tt_X12_agrees 41 rfl) ?_
            refine g_iinc hC 2 rfl (by decide) (lv' := [(1, vi (x1 + 1)), (2, vi (((gI S r0 6 17) - 1) - x1)), (0, vr E r0 0)]) rfl (rfl : 71 + 3 = 74) (xdt tt_X12_agrees 42 rfl) ?_
            refine g_goto hC (show ((74 : Nat) : Int) + (-63) = ((11 : Nat) : Int) by decide) (xdt tt_X12_agrees 43 rfl) ?_
            refine g_sub [2, 0] (lv' := [(0, vr E r0 0), (1, vi (x1 + 1))]) rfl ?_
            exact ih _ _ h
          · replace h := (if_neg hc11).symm.trans h
            refine g_iconst hC (rfl : 65 + 1 = 66) (xdt tt_X12_agrees 38 rfl) ?_
            cases h
            exact g_zret hC hE (Or.inl rfl) (xdt tt_X12_agrees 39 rfl)
      · replace h := (if_neg hc13).symm.trans h
        refine g_iconst hC (rfl : 33 + 1 = 34) (xdt tt_X12_agrees 18 rfl) ?_
        cases h
        exact g_zret hC hE (Or.inl rfl) (xdt tt_X12_agrees 19 rfl)
set_option maxRecDepth 100000 in
set_option maxHeartbeats 4000000 in
theorem c_X12_agrees_p4_0 (l : Launch) {E : xE} {S S' : xSt} {r0 : Nat} (hk0 : xkd E r0 = 4) {v : Int} (h : f_X12_agrees_p4_0 S r0 = some (v, S')) : Met l yX12_agrees (xws yX12_agrees cX12_agrees 3 (some .boolean)) (rmD 2) (YPc E [vr E r0 0] S) (YQz E v S') 0 0 (xA E) := by
  unfold f_X12_agrees_p4_0 at h
  refine met_z (by decide +kernel) (Nat.le_of_ble_eq_true rfl) (fun K hC hZ hE => ?_)
  have hC : xOK K cX12_agrees RX12 3 (rmE 2 0) := hC
  show WG K E 0 [(0, vr E r0 0)] [] S
  refine g_aload_n hC rfl 0 rfl (rfl : 0 + 1 = 1) (xdt tt_X12_agrees 0 rfl) ?_
  refine g_iconst hC (rfl : 1 + 1 = 2) (xdt tt_X12_agrees 1 rfl) ?_
  obtain ⟨S1, hS1, h⟩ := lt1_i h
  refine g_putI hC hk0 kclX12 ly4_0 0 (by decide) rfl rfl rfl q259 hS1 (rfl : 2 + 3 = 5) (xdt tt_X12_agrees 2 rfl) ?_
  refine g_aload_n hC rfl 0 rfl (rfl : 5 + 1 = 6) (xdt tt_X12_agrees 3 rfl) ?_
  obtain ⟨S3, hc2, h⟩ := bd_i h
  refine g_callVv hC hZ hk0 kclX12 ly4_0 m_X12_plainBegins q934 (Nat.le_of_ble_eq_true rfl) [] rfl (fun l => c_X12_plainBegins_p4_0 l hk0 hc2) rfl (Nat.le_of_ble_eq_true rfl) (rfl : 6 + 3 = 9) (xdt tt_X12_agrees 4 rfl) ?_
  refine g_iconst hC (rfl : 9 + 1 = 10) (xdt tt_X12_agrees 5 rfl) ?_
  refine g_istore_n hC rfl (by decide) (lv' := [(1, vi 0), (0, vr E r0 0)]) rfl (rfl : 10 + 1 = 11) (xdt tt_X12_agrees 6 rfl) ?_
  refine g_sub [1, 0] (lv' := [(0, vr E r0 0), (1, vi 0)]) rfl ?_
  exact k_X12_agrees_p4_0_b11 hC hZ hE hk0 _ _ _ h
def f_X12_times_p4_0 (S : xSt) (r0 : Nat) (a1 : Int) : Option (Int × xSt) :=
  bd2 (f_X12_isNumber_p4_0 S r0 a1) fun v3 S2 =>
  bd2 (f_X12_is_p4_0 S2 r0 v3) fun v7 S6 =>
  if wr v7 = 0 then
    (some (0, S6))
  else
    (ckI (203 + a1) 363 <|
    some ((gI S6 r0 6 (wr (203 + a1)).toNat), S6))
set_option maxRecDepth 100000 in
set_option maxHeartbeats 4000000 in
theorem c_X12_times_p4_0 (l : Launch) {E : xE} {S S' : xSt} {r0 : Nat} {a1 : Int} (hk0 : xkd E r0 = 4) {v : Int} (h : f_X12_times_p4_0 S r0 a1 = some (v, S')) : Met l yX12_times (xws yX12_times cX12_times 2 (some .int)) (rmD 3) (YPc E [vr E r0 0, vi a1] S) (YQi E v S') 0 0 (xA E) := by
  unfold f_X12_times_p4_0 at h
  refine met_i (by decide +kernel) (Nat.le_of_ble_eq_true rfl) (fun K hC hZ hE => ?_)
  have hC : xOK K cX12_times RX12 2 (rmE 3 0) := hC
  show WG K E 0 [(0, vr E r0 0), (1, vi a1)] [] S
  refine g_aload_n hC rfl 0 rfl (rfl : 0 + 1 = 1) (xdt tt_X12_times 0 rfl) ?_
  refine g_aload_n hC rfl 0 rfl (rfl : 1 + 1 = 2) (xdt tt_X12_times 1 rfl) ?_
  refine g_iload_n hC rfl 1 rfl (rfl : 2 + 1 = 3) (xdt tt_X12_times 2 rfl) ?_
  obtain ⟨v3, S2, hc1, h⟩ := bd2_i h
  refine g_callVz hC hZ hk0 kclX12 ly4_0 m_X12_isNumber q651 (Nat.le_of_ble_eq_true rfl) [vi a1] rfl (fun l => c_X12_isNumber_p4_0 l hk0 hc1) rfl (Nat.le_of_ble_eq_true rfl) (rfl : 3 + 3 = 6) (xdt tt_X12_times 3 rfl) (fun hb4 => ?_)
  obtain ⟨v7, S6, hc5, h⟩ := bd2_i h
  refine g_callVz hC hZ hk0 kclX12 ly4_0 m_X12_is q655 (Nat.le_of_ble_eq_true rfl) [vi v3] rfl (fun l => c_X12_is_p4_0 l hk0 hc5) rfl (Nat.le_of_ble_eq_true rfl) (rfl : 6 + 3 = 9) (xdt tt_X12_times 4 rfl) (fun hb8 => ?_)
  refine g_if_eq hC (show ((9 : Nat) : Int) + 16 = ((25 : Nat) : Int) by decide) (rfl : 9 + 3 = 12) (xdt tt_X12_times 5 rfl) (fun hc10 => ?_) (fun hc10 => ?_)
  · replace h := (if_pos hc10).symm.trans h
    refine g_iconst hC (rfl : 25 + 1 = 26) (xdt tt_X12_times 13 rfl) ?_
    cases h
    exact g_iret hC hE (xdt tt_X12_times 14 rfl)
  · replace h := (if_neg hc10).symm.trans h
    refine g_aload_n hC rfl 0 rfl (rfl : 12 + 1 = 13) (xdt tt_X12_times 6 rfl) ?_
    refine g_getP hC hk0 kclX12 ly4_0 10 (by decide) (rfl : r0 + 0 = r0) rfl q201 (rfl : 13 + 3 = 16) (xdt tt_X12_times 7 rfl) ?_
    refine g_sipush hC (by decide) (rfl : 16 + 3 = 19) (xdt tt_X12_times 8 rfl) ?_
    refine g_iload_n hC rfl 1 rfl (rfl : 19 + 1 = 20) (xdt tt_X12_times 9 rfl) ?_
    refine g_iadd hC (rfl : 20 + 1 = 21) (xdt tt_X12_times 10 rfl) ?_
    obtain ⟨hi9, h⟩ := ckI_i h
    refine g_iald hC hk0 ly4_6 hi9 (rfl : 21 + 1 = 22) (xdt tt_X12_times 11 rfl) (k0 := (wr (203 + a1)).toNat) rfl ?_
    refine g_goto hC (show ((22 : Nat) : Int) + 4 = ((26 : Nat) : Int) by decide) (xdt tt_X12_times 12 rfl) ?_
    cases h
    exact g_iret hC hE (xdt tt_X12_times 14 rfl)
def f_X12_perCycle_p4_0 (S : xSt) (r0 : Nat) : Option (UInt64 × xSt) :=
  lt1 (wI S r0 0 0 0) fun S1 =>
  if ¬ wr (gI S1 r0 6 16) = 0 then
    (ckNd (FP.ddiv (FP.i2d (Int32.ofInt (gI S1 r0 6 17))) (FP.i2d (Int32.ofInt (gI S1 r0 6 16)))) <|
    some ((FP.ddiv (FP.i2d (Int32.ofInt (gI S1 r0 6 17))) (FP.i2d (Int32.ofInt (gI S1 r0 6 16)))), S1))
  else
    (some (0, S1))
set_option maxRecDepth 100000 in
set_option maxHeartbeats 4000000 in
theorem c_X12_perCycle_p4_0 (l : Launch) {E : xE} {S S' : xSt} {r0 : Nat} (hk0 : xkd E r0 = 4) {v : UInt64} (h : f_X12_perCycle_p4_0 S r0 = some (v, S')) : Met l yX12_perCycle (xws yX12_perCycle cX12_perCycle 1 (some .double)) (rmD 1) (YPc E [vr E r0 0] S) (YQd E v S') 0 0 (xA E) := by
  unfold f_X12_perCycle_p4_0 at h
  refine met_d (by decide +kernel) (Nat.le_of_ble_eq_true rfl) (fun K hC hZ hE => ?_)
  have hC : xOK K cX12_perCycle RX12 1 (rmE 1 0) := hC
  show WG K E 0 [(0, vr E r0 0)] [] S
  refine g_aload_n hC rfl 0 rfl (rfl : 0 + 1 = 1) (xdt tt_X12_perCycle 0 rfl) ?_
  refine g_iconst hC (rfl : 1 + 1 = 2) (xdt tt_X12_perCycle 1 rfl) ?_
  obtain ⟨S1, hS1, h⟩ := lt1_i h
  refine g_putI hC hk0 kclX12 ly4_0 0 (by decide) rfl rfl rfl q259 hS1 (rfl : 2 + 3 = 5) (xdt tt_X12_perCycle 2 rfl) ?_
  refine g_aload_n hC rfl 0 rfl (rfl : 5 + 1 = 6) (xdt tt_X12_perCycle 3 rfl) ?_
  refine g_getP hC hk0 kclX12 ly4_0 10 (by decide) (rfl : r0 + 0 = r0) rfl q201 (rfl : 6 + 3 = 9) (xdt tt_X12_perCycle 4 rfl) ?_
  refine g_bipush hC (by decide) (rfl : 9 + 2 = 11) (xdt tt_X12_perCycle 5 rfl) ?_
  refine g_iald hC hk0 ly4_6 (by decide) (rfl : 11 + 1 = 12) (xdt tt_X12_perCycle 6 rfl) (k0 := 16) (by decide) ?_
  refine g_if_ne hC (show ((12 : Nat) : Int) + 7 = ((19 : Nat) : Int) by decide) (rfl : 12 + 3 = 15) (xdt tt_X12_perCycle 7 rfl) (fun hc3 => ?_) (fun hc3 => ?_)
  · replace h := (if_pos hc3).symm.trans h
    refine g_aload_n hC rfl 0 rfl (rfl : 19 + 1 = 20) (xdt tt_X12_perCycle 10 rfl) ?_
    refine g_getP hC hk0 kclX12 ly4_0 10 (by decide) (rfl : r0 + 0 = r0) rfl q201 (rfl : 20 + 3 = 23) (xdt tt_X12_perCycle 11 rfl) ?_
    refine g_bipush hC (by decide) (rfl : 23 + 2 = 25) (xdt tt_X12_perCycle 12 rfl) ?_
    refine g_iald hC hk0 ly4_6 (by decide) (rfl : 25 + 1 = 26) (xdt tt_X12_perCycle 13 rfl) (k0 := 17) (by decide) ?_
    refine g_i2d hC (rfl : 26 + 1 = 27) (xdt tt_X12_perCycle 14 rfl) ?_
    refine g_aload_n hC rfl 0 rfl (rfl : 27 + 1 = 28) (xdt tt_X12_perCycle 15 rfl) ?_
    refine g_getP hC hk0 kclX12 ly4_0 10 (by decide) (rfl : r0 + 0 = r0) rfl q201 (rfl : 28 + 3 = 31) (xdt tt_X12_perCycle 16 rfl) ?_
    refine g_bipush hC (by decide) (rfl : 31 + 2 = 33) (xdt tt_X12_perCycle 17 rfl) ?_
    refine g_iald hC hk0 ly4_6 (by decide) (rfl : 33 + 1 = 34) (xdt tt_X12_perCycle 18 rfl) (k0 := 16) (by decide) ?_
    refine g_i2d hC (rfl : 34 + 1 = 35) (xdt tt_X12_perCycle 19 rfl) ?_
    obtain ⟨hn2, h⟩ := ckNd_i h
    refine g_ddiv hC hn2 (rfl : 35 + 1 = 36) (xdt tt_X12_perCycle 20 rfl) ?_
    cases h
    exact g_dret hC hE (xdt tt_X12_perCycle 21 rfl)
  · replace h := (if_neg hc3).symm.trans h
    refine g_dconst0 hC (rfl : 15 + 1 = 16) (xdt tt_X12_perCycle 8 rfl) ?_
    refine g_goto hC (show ((16 : Nat) : Int) + 20 = ((36 : Nat) : Int) by decide) (xdt tt_X12_perCycle 9 rfl) ?_
    cases h
    exact g_dret hC hE (xdt tt_X12_perCycle 21 rfl)
def f_X12_fusedShare_p4_0 (S : xSt) (r0 : Nat) : Option (UInt32 × xSt) :=
  lt1 (wI S r0 0 0 0) fun S1 =>
  if ¬ wr (gI S1 r0 6 17) = 0 then
    (ckNf (FP.fdiv (FP.i2f (Int32.ofInt (2 * (gI S1 r0 6 19)))) (FP.i2f (Int32.ofInt (gI S1 r0 6 17)))) <|
    some ((FP.fdiv (FP.i2f (Int32.ofInt (2 * (gI S1 r0 6 19)))) (FP.i2f (Int32.ofInt (gI S1 r0 6 17)))), S1))
  else
    (some (0, S1))
set_option maxRecDepth 100000 in
set_option maxHeartbeats 4000000 in
theorem c_X12_fusedShare_p4_0 (l : Launch) {E : xE} {S S' : xSt} {r0 : Nat} (hk0 : xkd E r0 = 4) {v : UInt32} (h : f_X12_fusedShare_p4_0 S r0 = some (v, S')) : Met l yX12_fusedShare (xws yX12_fusedShare cX12_fusedShare 1 (some .float)) (rmD 1) (YPc E [vr E r0 0] S) (YQf E v S') 0 0 (xA E) := by
  unfold f_X12_fusedShare_p4_0 at h
  refine met_f (by decide +kernel) (Nat.le_of_ble_eq_true rfl) (fun K hC hZ hE => ?_)
  have hC : xOK K cX12_fusedShare RX12 1 (rmE 1 0) := hC
  show WG K E 0 [(0, vr E r0 0)] [] S
  refine g_aload_n hC rfl 0 rfl (rfl : 0 + 1 = 1) (xdt tt_X12_fusedShare 0 rfl) ?_
  refine g_iconst hC (rfl : 1 + 1 = 2) (xdt tt_X12_fusedShare 1 rfl) ?_
  obtain ⟨S1, hS1, h⟩ := lt1_i h
  refine g_putI hC hk0 kclX12 ly4_0 0 (by decide) rfl rfl rfl q259 hS1 (rfl : 2 + 3 = 5) (xdt tt_X12_fusedShare 2 rfl) ?_
  refine g_aload_n hC rfl 0 rfl (rfl : 5 + 1 = 6) (xdt tt_X12_fusedShare 3 rfl) ?_
  refine g_getP hC hk0 kclX12 ly4_0 10 (by decide) (rfl : r0 + 0 = r0) rfl q201 (rfl : 6 + 3 = 9) (xdt tt_X12_fusedShare 4 rfl) ?_
  refine g_bipush hC (by decide) (rfl : 9 + 2 = 11) (xdt tt_X12_fusedShare 5 rfl) ?_
  refine g_iald hC hk0 ly4_6 (by decide) (rfl : 11 + 1 = 12) (xdt tt_X12_fusedShare 6 rfl) (k0 := 17) (by decide) ?_
  refine g_if_ne hC (show ((12 : Nat) : Int) + 7 = ((19 : Nat) : Int) by decide) (rfl : 12 + 3 = 15) (xdt tt_X12_fusedShare 7 rfl) (fun hc3 => ?_) (fun hc3 => ?_)
  · replace h := (if_pos hc3).symm.trans h
    refine g_iconst hC (rfl : 19 + 1 = 20) (xdt tt_X12_fusedShare 10 rfl) ?_
    refine g_aload_n hC rfl 0 rfl (rfl : 20 + 1 = 21) (xdt tt_X12_fusedShare 11 rfl) ?_
    refine g_getP hC hk0 kclX12 ly4_0 10 (by decide) (rfl : r0 + 0 = r0) rfl q201 (rfl : 21 + 3 = 24) (xdt tt_X12_fusedShare 12 rfl) ?_
    refine g_bipush hC (by decide) (rfl : 24 + 2 = 26) (xdt tt_X12_fusedShare 13 rfl) ?_
    refine g_iald hC hk0 ly4_6 (by decide) (rfl : 26 + 1 = 27) (xdt tt_X12_fusedShare 14 rfl) (k0 := 19) (by decide) ?_
    refine g_imul hC (rfl : 27 + 1 = 28) (xdt tt_X12_fusedShare 15 rfl) ?_
    refine g_i2f hC (rfl : 28 + 1 = 29) (xdt tt_X12_fusedShare 16 rfl) ?_
    refine g_aload_n hC rfl 0 rfl (rfl : 29 + 1 = 30) (xdt tt_X12_fusedShare 17 rfl) ?_
    refine g_getP hC hk0 kclX12 ly4_0 10 (by decide) (rfl : r0 + 0 = r0) rfl q201 (rfl : 30 + 3 = 33) (xdt tt_X12_fusedShare 18 rfl) ?_
    refine g_bipush hC (by decide) (rfl : 33 + 2 = 35) (xdt tt_X12_fusedShare 19 rfl) ?_
    refine g_iald hC hk0 ly4_6 (by decide) (rfl : 35 + 1 = 36) (xdt tt_X12_fusedShare 20 rfl) (k0 := 17) (by decide) ?_
    refine g_i2f hC (rfl : 36 + 1 = 37) (xdt tt_X12_fusedShare 21 rfl) ?_
    obtain ⟨hn2, h⟩ := ckNf_i h
    refine g_fdiv hC hn2 (rfl : 37 + 1 = 38) (xdt tt_X12_fusedShare 22 rfl) ?_
    cases h
    exact g_fret hC hE (xdt tt_X12_fusedShare 23 rfl)
  · replace h := (if_neg hc3).symm.trans h
    refine g_fconst0 hC (rfl : 15 + 1 = 16) (xdt tt_X12_fusedShare 8 rfl) ?_
    refine g_goto hC (show ((16 : Nat) : Int) + 22 = ((38 : Nat) : Int) by decide) (xdt tt_X12_fusedShare 9 rfl) ?_
    cases h
    exact g_fret hC hE (xdt tt_X12_fusedShare 23 rfl)
def f_X12_feed_p4_0_b76 (c23 : xSt → Int → Int → Int → Int → Int → Int → Option (Int × xSt)) (r0 : Nat) (S : xSt) (x1 : Int) (x2 : Int) (x3 : Int) (x4 : Int) (x5 : Int) (x6 : Int) (s0 : Int) : Option (Int × xSt) :=
  ckI (gI S r0 0 21) 600 <|
  lt1 (wI S r0 13 (wr (gI S r0 0 21)).toNat (wb (wb (iSr s0 (24 - (8 * (Int.tmod (wr x6) (wr 4)))))))) fun S3 =>
  lt1 (wI S3 r0 0 21 ((gI S3 r0 0 21) + 1)) fun S4 =>
  c23 S4 x1 x2 x3 x4 x5 (x6 + 1)
def f_X12_feed_p4_0_b23 (r0 : Nat) : Nat → xSt → Int → Int → Int → Int → Int → Int → Option (Int × xSt)
  | 0, _, _, _, _, _, _, _ => none
  | fuel + 1, S, x1, x2, x3, x4, x5, x6 =>
    if wr 20 ≤ wr x6 then
      (some ((gI S r0 0 21), S))
    else
      (if wr 4 ≤ wr x6 then
        (if wr 8 ≤ wr x6 then
          (if wr 12 ≤ wr x6 then
            (if wr 16 ≤ wr x6 then
              (f_X12_feed_p4_0_b76 ((f_X12_feed_p4_0_b23 r0 fuel)) r0 S x1 x2 x3 x4 x5 x6 x5)
            else
              (f_X12_feed_p4_0_b76 ((f_X12_feed_p4_0_b23 r0 fuel)) r0 S x1 x2 x3 x4 x5 x6 x4))
          else
            (f_X12_feed_p4_0_b76 ((f_X12_feed_p4_0_b23 r0 fuel)) r0 S x1 x2 x3 x4 x5 x6 x3))
        else
          (f_X12_feed_p4_0_b76 ((f_X12_feed_p4_0_b23 r0 fuel)) r0 S x1 x2 x3 x4 x5 x6 x2))
      else
        (f_X12_feed_p4_0_b76 ((f_X12_feed_p4_0_b23 r0 fuel)) r0 S x1 x2 x3 x4 x5 x6 x1))
def f_X12_feed_p4_0 (S : xSt) (r0 : Nat) (a1 : Int) (a2 : Int) (a3 : Int) (a4 : Int) (a5 : Int) : Option (Int × xSt) :=
  lt1 (wI S r0 0 0 0) fun S1 =>
  if wr ((gI S1 r0 0 21) + 20) ≤ wr 600 then
    (f_X12_feed_p4_0_b23 r0 (fu S1) S1 a1 a2 a3 a4 a5 0)
  else
    (some ((-1), S1))
set_option maxRecDepth 100000 in
set_option maxHeartbeats 4000000 in
theorem k_X12_feed_p4_0_b76 {K : xCtx} {E : xE} {b : Nat} (hC : xOK K cX12_feed RX12 8 (rmE 1 b)) (hZ : xZ K) {v : Int} {S' : xSt} (hE : xEnd K E (some .int) (YQi E v S')) {r0 : Nat} (hk0 : xkd E r0 = 4) {c23 : xSt → Int → Int → Int → Int → Int → Int → Option (Int × xSt)} (hrec23 : ∀ (S : xSt) (x1 : Int) (x2 : Int) (x3 : Int) (x4 : Int) (x5 : Int) (x6 : Int), c23 S x1 x2 x3 x4 x5 x6 = some (v, S') → WG K E 23 [(0, vr E r0 0), (1, vi x1), (2, vi x2), (3, vi x3), (4, vi x4), (5, vi x5), (6, vi x6)] [] S) : ∀ (S : xSt) (x1 : Int) (x2 : Int) (x3 : Int) (x4 : Int) (x5 : Int) (x6 : Int) (s0 : Int), f_X12_feed_p4_0_b76 c23 r0 S x1 x2 x3 x4 x5 x6 s0 = some (v, S') → WG K E 76 [(0, vr E r0 0), (1, vi x1), (2, vi x2), (3, vi x3), (4, vi x4), (5, vi x5), (6, vi x6)] [vi s0] S := by
  intro S x1 x2 x3 x4 x5 x6 s0 h
  unfold f_X12_feed_p4_0_b76 at h
  refine g_istore hC (by decide) (lv' := [(7, vi s0), (0, vr E r0 0), (1, vi x1), (2, vi x2), (3, vi x3), (4, vi x4), (5, vi x5), (6, vi x6)]) rfl (rfl : 76 + 2 = 78) (xdt tt_X12_feed 37 rfl) ?_
  refine g_aload_n hC rfl 1 rfl (rfl : 78 + 1 = 79) (xdt tt_X12_feed 38 rfl) ?_
  refine g_getP hC hk0 kclX12 ly4_0 20 (by decide) (rfl : r0 + 0 = r0) rfl q208 (rfl : 79 + 3 = 82) (xdt tt_X12_feed 39 rfl) ?_
  refine g_aload_n hC rfl 1 rfl (rfl : 82 + 1 = 83) (xdt tt_X12_feed 40 rfl) ?_
  refine g_getI hC hk0 kclX12 ly4_0 21 (by decide) rfl q260 (rfl : 83 + 3 = 86) (xdt tt_X12_feed 41 rfl) ?_
  refine g_iload hC 0 rfl (rfl : 86 + 2 = 88) (xdt tt_X12_feed 42 rfl) ?_
  refine g_bipush hC (by decide) (rfl : 88 + 2 = 90) (xdt tt_X12_feed 43 rfl) ?_
  refine g_bipush hC (by decide) (rfl : 90 + 2 = 92) (xdt tt_X12_feed 44 rfl) ?_
  refine g_iload hC 7 rfl (rfl : 92 + 2 = 94) (xdt tt_X12_feed 45 rfl) ?_
  refine g_iconst hC (rfl : 94 + 1 = 95) (xdt tt_X12_feed 46 rfl) ?_
  refine g_irem hC (by decide) (rfl : 95 + 1 = 96) (xdt tt_X12_feed 47 rfl) ?_
  refine g_imul hC (rfl : 96 + 1 = 97) (xdt tt_X12_feed 48 rfl) ?_
  refine g_isub hC (rfl : 97 + 1 = 98) (xdt tt_X12_feed 49 rfl) ?_
  refine g_ishr hC (rfl : 98 + 1 = 99) (xdt tt_X12_feed 50 rfl) ?_
  refine g_i2b hC (rfl : 99 + 1 = 100) (xdt tt_X12_feed 51 rfl) ?_
  obtain ⟨hi2, h⟩ := ckI_i h
  obtain ⟨S3, hS3, h⟩ := lt1_i h
  refine g_bast hC hk0 ly4_13 hi2 rfl hS3 (rfl : 100 + 1 = 101) (xdt tt_X12_feed 52 rfl) ?_
  refine g_aload_n hC rfl 1 rfl (rfl : 101 + 1 = 102) (xdt tt_X12_feed 53 rfl) ?_
  refine g_aload_n hC rfl 1 rfl (rfl : 102 + 1 = 103) (xdt tt_X12_feed 54 rfl) ?_
  refine g_getI hC hk0 kclX12 ly4_0 21 (by decide) rfl q260 (rfl : 103 + 3 = 106) (xdt tt_X12_feed 55 rfl) ?_
  refine g_iconst hC (rfl : 106 + 1 = 107) (xdt tt_X12_feed 56 rfl) ?_
  refine g_iadd hC (rfl : 107 + 1 = 108) (xdt tt_X12_feed 57 rfl) ?_
  obtain ⟨S4, hS4, h⟩ := lt1_i h
  refine g_putI hC hk0 kclX12 ly4_0 21 (by decide) rfl rfl rfl q260 hS4 (rfl : 108 + 3 = 111) (xdt tt_X12_feed 58 rfl) ?_
  refine g_iinc hC 7 rfl (by decide) (lv' := [(6, vi (x6 + 1)), (7, vi s0), (0, vr E r0 0), (1, vi x1), (2, vi x2), (3, vi x3), (4, vi x4), (5, vi x5)]) rfl (rfl : 111 + 3 = 114) (xdt tt_X12_feed 59 rfl) ?_
  refine g_goto hC (show ((114 : Nat) : Int) + (-91) = ((23 : Nat) : Int) by decide) (xdt tt_X12_feed 60 rfl) ?_
  refine g_sub [2, 3, 4, 5, 6, 7, 0] (lv' := [(0, vr E r0 0), (1, vi x1), (2, vi x2), (3, vi x3), (4, vi x4), (5, vi x5), (6, vi (x6 + 1))]) rfl ?_
  exact hrec23 _ _ _ _ _ _ _ h
set_option maxRecDepth 100000 in
set_option maxHeartbeats 4000000 in
theorem k_X12_feed_p4_0_b23 {K : xCtx} {E : xE} {b : Nat} (hC : xOK K cX12_feed RX12 8 (rmE 1 b)) (hZ : xZ K) {v : Int} {S' : xSt} (hE : xEnd K E (some .int) (YQi E v S')) {r0 : Nat} (hk0 : xkd E r0 = 4) : ∀ (fuel : Nat) (S : xSt) (x1 : Int) (x2 : Int) (x3 : Int) (x4 : Int) (x5 : Int) (x6 : Int), f_X12_feed_p4_0_b23 r0 fuel S x1 x2 x3 x4 x5 x6 = some (v, S') → WG K E 23 [(0, vr E r0 0), (1, vi x1), (2, vi x2), (3, vi x3), (4, vi x4), (5, vi x5), (6, vi x6)] [] S := by
  intro fuel
  induction fuel with
  | zero => intro S x1 x2 x3 x4 x5 x6 h; cases h
  | succ fuel ih =>
    intro S x1 x2 x3 x4 x5 x6 h
    rw [f_X12_feed_p4_0_b23] at h
    refine g_iload hC 6 rfl (rfl : 23 + 2 = 25) (xdt tt_X12_feed 13 rfl) ?_
    refine g_bipush hC (by decide) (rfl : 25 + 2 = 27) (xdt tt_X12_feed 14 rfl) ?_
    refine g_icmp_ge hC (show ((27 : Nat) : Int) + 90 = ((117 : Nat) : Int) by decide) (rfl : 27 + 3 = 30) (xdt tt_X12_feed 15 rfl) (fun hc9 => ?_) (fun hc9 => ?_)
    · replace h := (if_pos hc9).symm.trans h
      refine g_aload_n hC rfl 0 rfl (rfl : 117 + 1 = 118) (xdt tt_X12_feed 61 rfl) ?_
      refine g_getI hC hk0 kclX12 ly4_0 21 (by decide) rfl q260 (rfl : 118 + 3 = 121) (xdt tt_X12_feed 62 rfl) ?_
      cases h
      exact g_iret hC hE (xdt tt_X12_feed 63 rfl)
    · replace h := (if_neg hc9).symm.trans h
      refine g_iload hC 6 rfl (rfl : 30 + 2 = 32) (xdt tt_X12_feed 16 rfl) ?_
      refine g_iconst hC (rfl : 32 + 1 = 33) (xdt tt_X12_feed 17 rfl) ?_
      refine g_icmp_ge hC (show ((33 : Nat) : Int) + 7 = ((40 : Nat) : Int) by decide) (rfl : 33 + 3 = 36) (xdt tt_X12_feed 18 rfl) (fun hc8 => ?_) (fun hc8 => ?_)
      · replace h := (if_pos hc8).symm.trans h
        refine g_iload hC 6 rfl (rfl : 40 + 2 = 42) (xdt tt_X12_feed 21 rfl) ?_
        refine g_bipush hC (by decide) (rfl : 42 + 2 = 44) (xdt tt_X12_feed 22 rfl) ?_
        refine g_icmp_ge hC (show ((44 : Nat) : Int) + 7 = ((51 : Nat) : Int) by decide) (rfl : 44 + 3 = 47) (xdt tt_X12_feed 23 rfl) (fun hc7 => ?_) (fun hc7 => ?_)
        · replace h := (if_pos hc7).symm.trans h
          refine g_iload hC 6 rfl (rfl : 51 + 2 = 53) (xdt tt_X12_feed 26 rfl) ?_
          refine g_bipush hC (by decide) (rfl : 53 + 2 = 55) (xdt tt_X12_feed 27 rfl) ?_
          refine g_icmp_ge hC (show ((55 : Nat) : Int) + 7 = ((62 : Nat) : Int) by decide) (rfl : 55 + 3 = 58) (xdt tt_X12_feed 28 rfl) (fun hc6 => ?_) (fun hc6 => ?_)
          · replace h := (if_pos hc6).symm.trans h
            refine g_iload hC 6 rfl (rfl : 62 + 2 = 64) (xdt tt_X12_feed 31 rfl) ?_
            refine g_bipush hC (by decide) (rfl : 64 + 2 = 66) (xdt tt_X12_feed 32 rfl) ?_
            refine g_icmp_ge hC (show ((66 : Nat) : Int) + 8 = ((74 : Nat) : Int) by decide) (rfl : 66 + 3 = 69) (xdt tt_X12_feed 33 rfl) (fun hc5 => ?_) (fun hc5 => ?_)
            · replace h := (if_pos hc5).symm.trans h
              refine g_iload hC 5 rfl (rfl : 74 + 2 = 76) (xdt tt_X12_feed 36 rfl) ?_
              refine g_sub [0, 1, 2, 3, 4, 5, 6] (lv' := [(0, vr E r0 0), (1, vi x1), (2, vi x2), (3, vi x3), (4, vi x4), (5, vi x5), (6, vi x6)]) rfl ?_
              exact k_X12_feed_p4_0_b76 hC hZ hE hk0 ih _ _ _ _ _ _ _ _ h
            · replace h := (if_neg hc5).symm.trans h
              refine g_iload hC 4 rfl (rfl : 69 + 2 = 71) (xdt tt_X12_feed 34 rfl) ?_
              refine g_goto hC (show ((71 : Nat) : Int) + 5 = ((76 : Nat) : Int) by decide) (xdt tt_X12_feed 35 rfl) ?_
              refine g_sub [0, 1, 2, 3, 4, 5, 6] (lv' := [(0, vr E r0 0), (1, vi x1), (2, vi x2), (3, vi x3), (4, vi x4), (5, vi x5), (6, vi x6)]) rfl ?_
              exact k_X12_feed_p4_0_b76 hC hZ hE hk0 ih _ _ _ _ _ _ _ _ h
          · replace h := (if_neg hc6).symm.trans h
            refine g_iload_n hC rfl 3 rfl (rfl : 58 + 1 = 59) (xdt tt_X12_feed 29 rfl) ?_
            refine g_goto hC (show ((59 : Nat) : Int) + 17 = ((76 : Nat) : Int) by decide) (xdt tt_X12_feed 30 rfl) ?_
            refine g_sub [0, 1, 2, 3, 4, 5, 6] (lv' := [(0, vr E r0 0), (1, vi x1), (2, vi x2), (3, vi x3), (4, vi x4), (5, vi x5), (6, vi x6)]) rfl ?_
            exact k_X12_feed_p4_0_b76 hC hZ hE hk0 ih _ _ _ _ _ _ _ _ h
        · replace h := (if_neg hc7).symm.trans h
          refine g_iload_n hC rfl 2 rfl (rfl : 47 + 1 = 48) (xdt tt_X12_feed 24 rfl) ?_
          refine g_goto hC (show ((48 : Nat) : Int) + 28 = ((76 : Nat) : Int) by decide) (xdt tt_X12_feed 25 rfl) ?_
          refine g_sub [0, 1, 2, 3, 4, 5, 6] (lv' := [(0, vr E r0 0), (1, vi x1), (2, vi x2), (3, vi x3), (4, vi x4), (5, vi x5), (6, vi x6)]) rfl ?_
          exact k_X12_feed_p4_0_b76 hC hZ hE hk0 ih _ _ _ _ _ _ _ _ h
      · replace h := (if_neg hc8).symm.trans h
        refine g_iload_n hC rfl 1 rfl (rfl : 36 + 1 = 37) (xdt tt_X12_feed 19 rfl) ?_
        refine g_goto hC (show ((37 : Nat) : Int) + 39 = ((76 : Nat) : Int) by decide) (xdt tt_X12_feed 20 rfl) ?_
        refine g_sub [0, 1, 2, 3, 4, 5, 6] (lv' := [(0, vr E r0 0), (1, vi x1), (2, vi x2), (3, vi x3), (4, vi x4), (5, vi x5), (6, vi x6)]) rfl ?_
        exact k_X12_feed_p4_0_b76 hC hZ hE hk0 ih _ _ _ _ _ _ _ _ h
set_option maxRecDepth 100000 in
set_option maxHeartbeats 4000000 in
theorem c_X12_feed_p4_0 (l : Launch) {E : xE} {S S' : xSt} {r0 : Nat} {a1 : Int} {a2 : Int} {a3 : Int} {a4 : Int} {a5 : Int} (hk0 : xkd E r0 = 4) {v : Int} (h : f_X12_feed_p4_0 S r0 a1 a2 a3 a4 a5 = some (v, S')) : Met l yX12_feed (xws yX12_feed cX12_feed 8 (some .int)) (rmD 1) (YPc E [vr E r0 0, vi a1, vi a2, vi a3, vi a4, vi a5] S) (YQi E v S') 0 0 (xA E) := by
  unfold f_X12_feed_p4_0 at h
  refine met_i (by decide +kernel) (Nat.le_of_ble_eq_true rfl) (fun K hC hZ hE => ?_)
  have hC : xOK K cX12_feed RX12 8 (rmE 1 0) := hC
  show WG K E 0 [(0, vr E r0 0), (1, vi a1), (2, vi a2), (3, vi a3), (4, vi a4), (5, vi a5)] [] S
  refine g_aload_n hC rfl 0 rfl (rfl : 0 + 1 = 1) (xdt tt_X12_feed 0 rfl) ?_
  refine g_iconst hC (rfl : 1 + 1 = 2) (xdt tt_X12_feed 1 rfl) ?_
  obtain ⟨S1, hS1, h⟩ := lt1_i h
  refine g_putI hC hk0 kclX12 ly4_0 0 (by decide) rfl rfl rfl q259 hS1 (rfl : 2 + 3 = 5) (xdt tt_X12_feed 2 rfl) ?_
  refine g_aload_n hC rfl 0 rfl (rfl : 5 + 1 = 6) (xdt tt_X12_feed 3 rfl) ?_
  refine g_getI hC hk0 kclX12 ly4_0 21 (by decide) rfl q260 (rfl : 6 + 3 = 9) (xdt tt_X12_feed 4 rfl) ?_
  refine g_bipush hC (by decide) (rfl : 9 + 2 = 11) (xdt tt_X12_feed 5 rfl) ?_
  refine g_iadd hC (rfl : 11 + 1 = 12) (xdt tt_X12_feed 6 rfl) ?_
  refine g_sipush hC (by decide) (rfl : 12 + 3 = 15) (xdt tt_X12_feed 7 rfl) ?_
  refine g_icmp_le hC (show ((15 : Nat) : Int) + 5 = ((20 : Nat) : Int) by decide) (rfl : 15 + 3 = 18) (xdt tt_X12_feed 8 rfl) (fun hc10 => ?_) (fun hc10 => ?_)
  · replace h := (if_pos hc10).symm.trans h
    refine g_iconst hC (rfl : 20 + 1 = 21) (xdt tt_X12_feed 11 rfl) ?_
    refine g_istore hC (by decide) (lv' := [(6, vi 0), (0, vr E r0 0), (1, vi a1), (2, vi a2), (3, vi a3), (4, vi a4), (5, vi a5)]) rfl (rfl : 21 + 2 = 23) (xdt tt_X12_feed 12 rfl) ?_
    refine g_sub [1, 2, 3, 4, 5, 6, 0] (lv' := [(0, vr E r0 0), (1, vi a1), (2, vi a2), (3, vi a3), (4, vi a4), (5, vi a5), (6, vi 0)]) rfl ?_
    exact k_X12_feed_p4_0_b23 hC hZ hE hk0 _ _ _ _ _ _ _ _ h
  · replace h := (if_neg hc10).symm.trans h
    refine g_iconst hC (rfl : 18 + 1 = 19) (xdt tt_X12_feed 9 rfl) ?_
    cases h
    exact g_iret hC hE (xdt tt_X12_feed 10 rfl)
def f_X12_truncate_p4_0 (S : xSt) (r0 : Nat) (a1 : Int) : Option (Int × xSt) :=
  lt1 (wI S r0 0 0 0) fun S1 =>
  bd2 (f_X12_isIn S1 (wr a1) 0 (wr (gI S1 r0 0 21))) fun v4 S3 =>
  if ¬ wr v4 = 0 then
    (lt1 (wI S3 r0 0 21 a1) fun S6 =>
    some (1, S6))
  else
    (some (0, S3))
set_option maxRecDepth 100000 in
set_option maxHeartbeats 4000000 in
theorem c_X12_truncate_p4_0 (l : Launch) {E : xE} {S S' : xSt} {r0 : Nat} {a1 : Int} (hk0 : xkd E r0 = 4) {v : Int} (h : f_X12_truncate_p4_0 S r0 a1 = some (v, S')) : Met l yX12_truncate (xws yX12_truncate cX12_truncate 2 (some .boolean)) (rmD 2) (YPc E [vr E r0 0, vi a1] S) (YQz E v S') 0 0 (xA E) := by
  unfold f_X12_truncate_p4_0 at h
  refine met_z (by decide +kernel) (Nat.le_of_ble_eq_true rfl) (fun K hC hZ hE => ?_)
  have hC : xOK K cX12_truncate RX12 2 (rmE 2 0) := hC
  show WG K E 0 [(0, vr E r0 0), (1, vi a1)] [] S
  refine g_aload_n hC rfl 0 rfl (rfl : 0 + 1 = 1) (xdt tt_X12_truncate 0 rfl) ?_
  refine g_iconst hC (rfl : 1 + 1 = 2) (xdt tt_X12_truncate 1 rfl) ?_
  obtain ⟨S1, hS1, h⟩ := lt1_i h
  refine g_putI hC hk0 kclX12 ly4_0 0 (by decide) rfl rfl rfl q259 hS1 (rfl : 2 + 3 = 5) (xdt tt_X12_truncate 2 rfl) ?_
  refine g_iload_n hC rfl 1 rfl (rfl : 5 + 1 = 6) (xdt tt_X12_truncate 3 rfl) ?_
  refine g_i2l hC (rfl : 6 + 1 = 7) (xdt tt_X12_truncate 4 rfl) ?_
  refine g_lconst hC (z := 0) (by decide) (rfl : 7 + 1 = 8) (xdt tt_X12_truncate 5 rfl) ?_
  refine g_aload_n hC rfl 0 rfl (rfl : 8 + 1 = 9) (xdt tt_X12_truncate 6 rfl) ?_
  refine g_getI hC hk0 kclX12 ly4_0 21 (by decide) rfl q260 (rfl : 9 + 3 = 12) (xdt tt_X12_truncate 7 rfl) ?_
  refine g_i2l hC (rfl : 12 + 1 = 13) (xdt tt_X12_truncate 8 rfl) ?_
  obtain ⟨v4, S3, hc2, h⟩ := bd2_i h
  refine g_callSz hC hZ m_X12_isIn q269 (Nat.le_of_ble_eq_true rfl) [vl (wr a1), vl 0, vl (wr (gI S1 r0 0 21))] rfl (fun l => c_X12_isIn l hc2) rfl (Nat.le_of_ble_eq_true rfl) (rfl : 13 + 3 = 16) (xdt tt_X12_truncate 9 rfl) (fun hb5 => ?_)
  refine g_if_ne hC (show ((16 : Nat) : Int) + 5 = ((21 : Nat) : Int) by decide) (rfl : 16 + 3 = 19) (xdt tt_X12_truncate 10 rfl) (fun hc7 => ?_) (fun hc7 => ?_)
  · replace h := (if_pos hc7).symm.trans h
    refine g_aload_n hC rfl 0 rfl (rfl : 21 + 1 = 22) (xdt tt_X12_truncate 13 rfl) ?_
    refine g_iload_n hC rfl 1 rfl (rfl : 22 + 1 = 23) (xdt tt_X12_truncate 14 rfl) ?_
    obtain ⟨S6, hS6, h⟩ := lt1_i h
    refine g_putI hC hk0 kclX12 ly4_0 21 (by decide) rfl rfl rfl q260 hS6 (rfl : 23 + 3 = 26) (xdt tt_X12_truncate 15 rfl) ?_
    refine g_iconst hC (rfl : 26 + 1 = 27) (xdt tt_X12_truncate 16 rfl) ?_
    cases h
    exact g_zret hC hE (Or.inr rfl) (xdt tt_X12_truncate 17 rfl)
  · replace h := (if_neg hc7).symm.trans h
    refine g_iconst hC (rfl : 19 + 1 = 20) (xdt tt_X12_truncate 11 rfl) ?_
    cases h
    exact g_zret hC hE (Or.inl rfl) (xdt tt_X12_truncate 12 rfl)
def f_X12_here_p4_0 (S : xSt) (r0 : Nat) (a1 : Int) : Option (Int × xSt) :=
  if wr (gI S r0 0 22) ≤ wr a1 then
    (some ((-1), S))
  else
    (ckI a1 600 <|
    some ((iA (gI S r0 13 (wr a1).toNat) 255), S))
set_option maxRecDepth 100000 in
set_option maxHeartbeats 4000000 in
theorem c_X12_here_p4_0 (l : Launch) {E : xE} {S S' : xSt} {r0 : Nat} {a1 : Int} (hk0 : xkd E r0 = 4) {v : Int} (h : f_X12_here_p4_0 S r0 a1 = some (v, S')) : Met l yX12_here (xws yX12_here cX12_here 2 (some .int)) (rmD 1) (YPc E [vr E r0 0, vi a1] S) (YQi E v S') 0 0 (xA E) := by
  unfold f_X12_here_p4_0 at h
  refine met_i (by decide +kernel) (Nat.le_of_ble_eq_true rfl) (fun K hC hZ hE => ?_)
  have hC : xOK K cX12_here RX12 2 (rmE 1 0) := hC
  show WG K E 0 [(0, vr E r0 0), (1, vi a1)] [] S
  refine g_iload_n hC rfl 1 rfl (rfl : 0 + 1 = 1) (xdt tt_X12_here 0 rfl) ?_
  refine g_aload_n hC rfl 0 rfl (rfl : 1 + 1 = 2) (xdt tt_X12_here 1 rfl) ?_
  refine g_getI hC hk0 kclX12 ly4_0 22 (by decide) rfl q476 (rfl : 2 + 3 = 5) (xdt tt_X12_here 2 rfl) ?_
  refine g_icmp_ge hC (show ((5 : Nat) : Int) + 16 = ((21 : Nat) : Int) by decide) (rfl : 5 + 3 = 8) (xdt tt_X12_here 3 rfl) (fun hc2 => ?_) (fun hc2 => ?_)
  · replace h := (if_pos hc2).symm.trans h
    refine g_iconst hC (rfl : 21 + 1 = 22) (xdt tt_X12_here 11 rfl) ?_
    cases h
    exact g_iret hC hE (xdt tt_X12_here 12 rfl)
  · replace h := (if_neg hc2).symm.trans h
    refine g_aload_n hC rfl 0 rfl (rfl : 8 + 1 = 9) (xdt tt_X12_here 4 rfl) ?_
    refine g_getP hC hk0 kclX12 ly4_0 20 (by decide) (rfl : r0 + 0 = r0) rfl q208 (rfl : 9 + 3 = 12) (xdt tt_X12_here 5 rfl) ?_
    refine g_iload_n hC rfl 1 rfl (rfl : 12 + 1 = 13) (xdt tt_X12_here 6 rfl) ?_
    obtain ⟨hi1, h⟩ := ckI_i h
    refine g_bald hC hk0 ly4_13 hi1 (rfl : 13 + 1 = 14) (xdt tt_X12_here 7 rfl) (k0 := (wr a1).toNat) rfl ?_
    refine g_sipush hC (by decide) (rfl : 14 + 3 = 17) (xdt tt_X12_here 8 rfl) ?_
    refine g_iand hC (rfl : 17 + 1 = 18) (xdt tt_X12_here 9 rfl) ?_
    refine g_goto hC (show ((18 : Nat) : Int) + 4 = ((22 : Nat) : Int) by decide) (xdt tt_X12_here 10 rfl) ?_
    cases h
    exact g_iret hC hE (xdt tt_X12_here 12 rfl)
def f_J0_coder_7d493 (S : xSt) (k0 : Nat) : Option (Int × xSt) :=
  some (0, S)
set_option maxRecDepth 100000 in
set_option maxHeartbeats 4000000 in
theorem c_J0_coder_7d493 (l : Launch) {E : xE} {S S' : xSt} {k0 : Nat} (hs0 : k0 < xldc.length) {v : Int} (h : f_J0_coder_7d493 S k0 = some (v, S')) : Met l yJ0_coder_7d493 (xws yJ0_coder_7d493 cJ0_coder_7d493 1 (some .byte)) (rmD 1) (YPc E [vs E k0] S) (YQb E v S') 0 0 (xA E) := by
  unfold f_J0_coder_7d493 at h
  refine met_b (by decide +kernel) (Nat.le_of_ble_eq_true rfl) (fun K hC hZ hE => ?_)
  have hC : xOK K cJ0_coder_7d493 RJ0 1 (rmE 1 0) := hC
  show WG K E 0 [(0, vs E k0)] [] S
  refine g_strS hC q365 (rfl : 0 + 3 = 3) (xdt tt_J0_coder_7d493 0 rfl) ?_
  refine g_if_eq hC (show ((3 : Nat) : Int) + 10 = ((13 : Nat) : Int) by decide) (rfl : 3 + 3 = 6) (xdt tt_J0_coder_7d493 1 rfl) (fun hc => absurd hc (by decide)) (fun _ => ?_)
  refine g_aload_n hC rfl 0 rfl (rfl : 6 + 1 = 7) (xdt tt_J0_coder_7d493 2 rfl) ?_
  refine g_strC hC hs0 q366 (rfl : 7 + 3 = 10) (xdt tt_J0_coder_7d493 3 rfl) ?_
  refine g_goto hC (show ((10 : Nat) : Int) + 4 = ((14 : Nat) : Int) by decide) (xdt tt_J0_coder_7d493 4 rfl) ?_
  cases h
  exact g_bret hC hE rfl (xdt tt_J0_coder_7d493 6 rfl)
def f_J0_length_8abf5 (S : xSt) (k0 : Nat) : Option (Int × xSt) :=
  bd2 (f_J0_coder_7d493 S k0) fun v3 S2 =>
  some ((iSr ((xln k0 : Nat) : Int) v3), S2)
set_option maxRecDepth 100000 in
set_option maxHeartbeats 4000000 in
theorem c_J0_length_8abf5 (l : Launch) {E : xE} {S S' : xSt} {k0 : Nat} (hs0 : k0 < xldc.length) {v : Int} (h : f_J0_length_8abf5 S k0 = some (v, S')) : Met l yJ0_length_8abf5 (xws yJ0_length_8abf5 cJ0_length_8abf5 1 (some .int)) (rmD 2) (YPc E [vs E k0] S) (YQi E v S') 0 0 (xA E) := by
  unfold f_J0_length_8abf5 at h
  refine met_i (by decide +kernel) (Nat.le_of_ble_eq_true rfl) (fun K hC hZ hE => ?_)
  have hC : xOK K cJ0_length_8abf5 RJ0 1 (rmE 2 0) := hC
  show WG K E 0 [(0, vs E k0)] [] S
  refine g_aload_n hC rfl 0 rfl (rfl : 0 + 1 = 1) (xdt tt_J0_length_8abf5 0 rfl) ?_
  refine g_strV hC hs0 q360 (rfl : 1 + 3 = 4) (xdt tt_J0_length_8abf5 1 rfl) ?_
  refine g_vlen hC hs0 (rfl : 4 + 1 = 5) (xdt tt_J0_length_8abf5 2 rfl) ?_
  refine g_aload_n hC rfl 0 rfl (rfl : 5 + 1 = 6) (xdt tt_J0_length_8abf5 3 rfl) ?_
  obtain ⟨v3, S2, hc1, h⟩ := bd2_i h
  refine g_callTb hC hZ hs0 m_J0_coder_7d493 q361 (Nat.le_of_ble_eq_true rfl) [] rfl (fun l => c_J0_coder_7d493 l hs0 hc1) rfl (Nat.le_of_ble_eq_true rfl) (rfl : 6 + 3 = 9) (xdt tt_J0_length_8abf5 4 rfl) (fun hb4 => ?_)
  refine g_ishr hC (rfl : 9 + 1 = 10) (xdt tt_J0_length_8abf5 5 rfl) ?_
  cases h
  exact g_iret hC hE (xdt tt_J0_length_8abf5 6 rfl)
def f_J0_isLatin1_aae02 (S : xSt) (k0 : Nat) : Option (Int × xSt) :=
  some (1, S)
set_option maxRecDepth 100000 in
set_option maxHeartbeats 4000000 in
theorem c_J0_isLatin1_aae02 (l : Launch) {E : xE} {S S' : xSt} {k0 : Nat} (hs0 : k0 < xldc.length) {v : Int} (h : f_J0_isLatin1_aae02 S k0 = some (v, S')) : Met l yJ0_isLatin1_aae02 (xws yJ0_isLatin1_aae02 cJ0_isLatin1_aae02 1 (some .boolean)) (rmD 1) (YPc E [vs E k0] S) (YQz E v S') 0 0 (xA E) := by
  unfold f_J0_isLatin1_aae02 at h
  refine met_z (by decide +kernel) (Nat.le_of_ble_eq_true rfl) (fun K hC hZ hE => ?_)
  have hC : xOK K cJ0_isLatin1_aae02 RJ0 1 (rmE 1 0) := hC
  show WG K E 0 [(0, vs E k0)] [] S
  refine g_strS hC q365 (rfl : 0 + 3 = 3) (xdt tt_J0_isLatin1_aae02 0 rfl) ?_
  refine g_if_eq hC (show ((3 : Nat) : Int) + 14 = ((17 : Nat) : Int) by decide) (rfl : 3 + 3 = 6) (xdt tt_J0_isLatin1_aae02 1 rfl) (fun hc => absurd hc (by decide)) (fun _ => ?_)
  refine g_aload_n hC rfl 0 rfl (rfl : 6 + 1 = 7) (xdt tt_J0_isLatin1_aae02 2 rfl) ?_
  refine g_strC hC hs0 q366 (rfl : 7 + 3 = 10) (xdt tt_J0_isLatin1_aae02 3 rfl) ?_
  refine g_if_ne hC (show ((10 : Nat) : Int) + 7 = ((17 : Nat) : Int) by decide) (rfl : 10 + 3 = 13) (xdt tt_J0_isLatin1_aae02 4 rfl) (fun hc => absurd hc (by decide)) (fun _ => ?_)
  refine g_iconst hC (rfl : 13 + 1 = 14) (xdt tt_J0_isLatin1_aae02 5 rfl) ?_
  refine g_goto hC (show ((14 : Nat) : Int) + 4 = ((18 : Nat) : Int) by decide) (xdt tt_J0_isLatin1_aae02 6 rfl) ?_
  cases h
  exact g_zret hC hE (Or.inr rfl) (xdt tt_J0_isLatin1_aae02 8 rfl)
def f_J2_length_9d52b (S : xSt) (k0 : Nat) : Option (Int × xSt) :=
  some ((iSr ((xln k0 : Nat) : Int) 1), S)
set_option maxRecDepth 100000 in
set_option maxHeartbeats 4000000 in
theorem c_J2_length_9d52b (l : Launch) {E : xE} {S S' : xSt} {k0 : Nat} (hs0 : k0 < xldc.length) {v : Int} (h : f_J2_length_9d52b S k0 = some (v, S')) : Met l yJ2_length_9d52b (xws yJ2_length_9d52b cJ2_length_9d52b 1 (some .int)) (rmD 1) (YPc E [vv E k0] S) (YQi E v S') 0 0 (xA E) := by
  unfold f_J2_length_9d52b at h
  refine met_i (by decide +kernel) (Nat.le_of_ble_eq_true rfl) (fun K hC hZ hE => ?_)
  have hC : xOK K cJ2_length_9d52b RJ2 1 (rmE 1 0) := hC
  show WG K E 0 [(0, vv E k0)] [] S
  refine g_aload_n hC rfl 0 rfl (rfl : 0 + 1 = 1) (xdt tt_J2_length_9d52b 0 rfl) ?_
  refine g_vlen hC hs0 (rfl : 1 + 1 = 2) (xdt tt_J2_length_9d52b 1 rfl) ?_
  refine g_iconst hC (rfl : 2 + 1 = 3) (xdt tt_J2_length_9d52b 2 rfl) ?_
  refine g_ishr hC (rfl : 3 + 1 = 4) (xdt tt_J2_length_9d52b 3 rfl) ?_
  cases h
  exact g_iret hC hE (xdt tt_J2_length_9d52b 4 rfl)
def f_J3_checkIndex_8e157 (S : xSt) (a0 : Int) (a1 : Int) : Option (Int × xSt) :=
  if wr a0 < 0 then
    (none)
  else
    (if wr a0 < wr a1 then
      (some (a0, S))
    else
      (none))
set_option maxRecDepth 100000 in
set_option maxHeartbeats 4000000 in
theorem c_J3_checkIndex_8e157 (l : Launch) {E : xE} {S S' : xSt} {a0 : Int} {a1 : Int} {w2 : Value} (hw2 : w2 = .null ∨ ∃ a : Nat, w2 = .ref a) {v : Int} (h : f_J3_checkIndex_8e157 S a0 a1 = some (v, S')) : Met l yJ3_checkIndex_8e157 (xws yJ3_checkIndex_8e157 cJ3_checkIndex_8e157 3 (some .int)) (rmD 1) (YPc E [vi a0, vi a1, w2] S) (YQi E v S') 0 0 (xA E) := by
  unfold f_J3_checkIndex_8e157 at h
  refine met_i (by decide +kernel) (by rcases hw2 with rfl | ⟨a, rfl⟩ <;> exact Nat.le_of_ble_eq_true rfl) (fun K hC hZ hE => ?_)
  have hC : xOK K cJ3_checkIndex_8e157 RJ3 3 (rmE 1 0) := hC
  show WG K E 0 [(0, vi a0), (1, vi a1), (2, w2)] [] S
  refine g_iload_n hC rfl 0 rfl (rfl : 0 + 1 = 1) (xdt tt_J3_checkIndex_8e157 0 rfl) ?_
  refine g_if_lt hC (show ((1 : Nat) : Int) + 8 = ((9 : Nat) : Int) by decide) (rfl : 1 + 3 = 4) (xdt tt_J3_checkIndex_8e157 1 rfl) (fun hc2 => ?_) (fun hc2 => ?_)
  · replace h := (if_pos hc2).symm.trans h
    cases h
  · replace h := (if_neg hc2).symm.trans h
    refine g_iload_n hC rfl 0 rfl (rfl : 4 + 1 = 5) (xdt tt_J3_checkIndex_8e157 2 rfl) ?_
    refine g_iload_n hC rfl 1 rfl (rfl : 5 + 1 = 6) (xdt tt_J3_checkIndex_8e157 3 rfl) ?_
    refine g_icmp_lt hC (show ((6 : Nat) : Int) + 10 = ((16 : Nat) : Int) by decide) (rfl : 6 + 3 = 9) (xdt tt_J3_checkIndex_8e157 4 rfl) (fun hc1 => ?_) (fun hc1 => ?_)
    · replace h := (if_pos hc1).symm.trans h
      refine g_iload_n hC rfl 0 rfl (rfl : 16 + 1 = 17) (xdt tt_J3_checkIndex_8e157 10 rfl) ?_
      cases h
      exact g_iret hC hE (xdt tt_J3_checkIndex_8e157 11 rfl)
    · replace h := (if_neg hc1).symm.trans h
      cases h
def f_J0_checkIndex_df160 (S : xSt) (a0 : Int) (a1 : Int) : Option (xSt) :=
  bd2 (f_J3_checkIndex_8e157 S a0 a1) fun v4 S3 =>
  some S3
set_option maxRecDepth 100000 in
set_option maxHeartbeats 4000000 in
theorem c_J0_checkIndex_df160 (l : Launch) {E : xE} {S S' : xSt} {a0 : Int} {a1 : Int} (h : f_J0_checkIndex_df160 S a0 a1 = some S') : Met l yJ0_checkIndex_df160 (xws yJ0_checkIndex_df160 cJ0_checkIndex_df160 2 none) (rmD 2) (YPc E [vi a0, vi a1] S) (YQv E S') 0 0 (xA E) := by
  unfold f_J0_checkIndex_df160 at h
  refine met_v (by decide +kernel) (Nat.le_of_ble_eq_true rfl) (fun K hC hZ hE => ?_)
  have hC : xOK K cJ0_checkIndex_df160 RJ0 2 (rmE 2 0) := hC
  show WG K E 0 [(0, vi a0), (1, vi a1)] [] S
  refine g_iload_n hC rfl 0 rfl (rfl : 0 + 1 = 1) (xdt tt_J0_checkIndex_df160 0 rfl) ?_
  refine g_iload_n hC rfl 1 rfl (rfl : 1 + 1 = 2) (xdt tt_J0_checkIndex_df160 1 rfl) ?_
  refine g_getsQ hC q382 (rfl : 2 + 3 = 5) (xdt tt_J0_checkIndex_df160 2 rfl) (fun w1 hw1 => ?_)
  obtain ⟨v4, S3, hc2, h⟩ := bd2_i h
  refine g_callSi hC hZ m_J3_checkIndex_8e157 q383 (Nat.le_of_ble_eq_true rfl) [vi a0, vi a1, w1] rfl (fun l => c_J3_checkIndex_8e157 l hw1 hc2) rfl (Nat.le_of_ble_eq_true rfl) (rfl : 5 + 3 = 8) (xdt tt_J0_checkIndex_df160 3 rfl) ?_
  refine g_pop hC rfl (rfl : 8 + 1 = 9) (xdt tt_J0_checkIndex_df160 4 rfl) ?_
  cases h
  exact g_vret hC hE (xdt tt_J0_checkIndex_df160 5 rfl)
def f_J2_checkIndex_2214a (S : xSt) (a0 : Int) (k1 : Nat) : Option (xSt) :=
  bd2 (f_J2_length_9d52b S k1) fun v3 S2 =>
  bd (f_J0_checkIndex_df160 S2 a0 v3) fun S5 =>
  some S5
set_option maxRecDepth 100000 in
set_option maxHeartbeats 4000000 in
theorem c_J2_checkIndex_2214a (l : Launch) {E : xE} {S S' : xSt} {a0 : Int} {k1 : Nat} (hs1 : k1 < xldc.length) (h : f_J2_checkIndex_2214a S a0 k1 = some S') : Met l yJ2_checkIndex_2214a (xws yJ2_checkIndex_2214a cJ2_checkIndex_2214a 2 none) (rmD 3) (YPc E [vi a0, vv E k1] S) (YQv E S') 0 0 (xA E) := by
  unfold f_J2_checkIndex_2214a at h
  refine met_v (by decide +kernel) (Nat.le_of_ble_eq_true rfl) (fun K hC hZ hE => ?_)
  have hC : xOK K cJ2_checkIndex_2214a RJ2 2 (rmE 3 0) := hC
  show WG K E 0 [(0, vi a0), (1, vv E k1)] [] S
  refine g_iload_n hC rfl 0 rfl (rfl : 0 + 1 = 1) (xdt tt_J2_checkIndex_2214a 0 rfl) ?_
  refine g_aload_n hC rfl 1 rfl (rfl : 1 + 1 = 2) (xdt tt_J2_checkIndex_2214a 1 rfl) ?_
  obtain ⟨v3, S2, hc1, h⟩ := bd2_i h
  refine g_callSi hC hZ m_J2_length_9d52b q394 (Nat.le_of_ble_eq_true rfl) [vv E k1] rfl (fun l => c_J2_length_9d52b l hs1 hc1) rfl (Nat.le_of_ble_eq_true rfl) (rfl : 2 + 3 = 5) (xdt tt_J2_checkIndex_2214a 2 rfl) ?_
  obtain ⟨S5, hc4, h⟩ := bd_i h
  refine g_callSv hC hZ m_J0_checkIndex_df160 q397 (Nat.le_of_ble_eq_true rfl) [vi a0, vi v3] rfl (fun l => c_J0_checkIndex_df160 l hc4) rfl (Nat.le_of_ble_eq_true rfl) (rfl : 5 + 3 = 8) (xdt tt_J2_checkIndex_2214a 3 rfl) ?_
  cases h
  exact g_vret hC hE (xdt tt_J2_checkIndex_2214a 4 rfl)
def f_J2_getChar_3b067 (S : xSt) (k0 : Nat) (a1 : Int) : Option (Int × xSt) :=
  none
set_option maxRecDepth 100000 in
set_option maxHeartbeats 4000000 in
theorem c_J2_getChar_3b067 (l : Launch) {E : xE} {S S' : xSt} {k0 : Nat} {a1 : Int} (hs0 : k0 < xldc.length) {v : Int} (h : f_J2_getChar_3b067 S k0 a1 = some (v, S')) : Met l yJ2_getChar_3b067 (xws yJ2_getChar_3b067 cJ2_getChar_3b067 2 (some .char)) (rmD 1) (YPc E [vv E k0, vi a1] S) (YQc E v S') 0 0 (xA E) := by
  unfold f_J2_getChar_3b067 at h
  refine met_c (by decide +kernel) (Nat.le_of_ble_eq_true rfl) (fun K hC hZ hE => ?_)
  have hC : xOK K cJ2_getChar_3b067 RJ2 2 (rmE 1 0) := hC
  show WG K E 0 [(0, vv E k0), (1, vi a1)] [] S
  cases h
def f_J2_charAt_3b067 (S : xSt) (k0 : Nat) (a1 : Int) : Option (Int × xSt) :=
  bd (f_J2_checkIndex_2214a S a1 k0) fun S2 =>
  bd2 (f_J2_getChar_3b067 S2 k0 a1) fun v5 S4 =>
  some (v5, S4)
set_option maxRecDepth 100000 in
set_option maxHeartbeats 4000000 in
theorem c_J2_charAt_3b067 (l : Launch) {E : xE} {S S' : xSt} {k0 : Nat} {a1 : Int} (hs0 : k0 < xldc.length) {v : Int} (h : f_J2_charAt_3b067 S k0 a1 = some (v, S')) : Met l yJ2_charAt_3b067 (xws yJ2_charAt_3b067 cJ2_charAt_3b067 2 (some .char)) (rmD 4) (YPc E [vv E k0, vi a1] S) (YQc E v S') 0 0 (xA E) := by
  unfold f_J2_charAt_3b067 at h
  refine met_c (by decide +kernel) (Nat.le_of_ble_eq_true rfl) (fun K hC hZ hE => ?_)
  have hC : xOK K cJ2_charAt_3b067 RJ2 2 (rmE 4 0) := hC
  show WG K E 0 [(0, vv E k0), (1, vi a1)] [] S
  refine g_iload_n hC rfl 1 rfl (rfl : 0 + 1 = 1) (xdt tt_J2_charAt_3b067 0 rfl) ?_
  refine g_aload_n hC rfl 0 rfl (rfl : 1 + 1 = 2) (xdt tt_J2_charAt_3b067 1 rfl) ?_
  obtain ⟨S2, hc1, h⟩ := bd_i h
  refine g_callSv hC hZ m_J2_checkIndex_2214a q391 (Nat.le_of_ble_eq_true rfl) [vi a1, vv E k0] rfl (fun l => c_J2_checkIndex_2214a l hs0 hc1) rfl (Nat.le_of_ble_eq_true rfl) (rfl : 2 + 3 = 5) (xdt tt_J2_charAt_3b067 2 rfl) ?_
  refine g_aload_n hC rfl 0 rfl (rfl : 5 + 1 = 6) (xdt tt_J2_charAt_3b067 3 rfl) ?_
  refine g_iload_n hC rfl 1 rfl (rfl : 6 + 1 = 7) (xdt tt_J2_charAt_3b067 4 rfl) ?_
  obtain ⟨v5, S4, hc3, h⟩ := bd2_i h
  refine g_callSc hC hZ m_J2_getChar_3b067 q398 (Nat.le_of_ble_eq_true rfl) [vv E k0, vi a1] rfl (fun l => c_J2_getChar_3b067 l hs0 hc3) rfl (Nat.le_of_ble_eq_true rfl) (rfl : 7 + 3 = 10) (xdt tt_J2_charAt_3b067 5 rfl) (fun hb6 => ?_)
  cases h
  exact g_cret hC hE hb6 (xdt tt_J2_charAt_3b067 6 rfl)
def f_J1_charAt_3b067 (S : xSt) (k0 : Nat) (a1 : Int) : Option (Int × xSt) :=
  bd (f_J0_checkIndex_df160 S a1 ((xln k0 : Nat) : Int)) fun S2 =>
  ckI a1 (xln k0) <|
  some ((iCh (iA (xby k0 (wr a1).toNat) 255)), S2)
set_option maxRecDepth 100000 in
set_option maxHeartbeats 4000000 in
theorem c_J1_charAt_3b067 (l : Launch) {E : xE} {S S' : xSt} {k0 : Nat} {a1 : Int} (hs0 : k0 < xldc.length) {v : Int} (h : f_J1_charAt_3b067 S k0 a1 = some (v, S')) : Met l yJ1_charAt_3b067 (xws yJ1_charAt_3b067 cJ1_charAt_3b067 2 (some .char)) (rmD 3) (YPc E [vv E k0, vi a1] S) (YQc E v S') 0 0 (xA E) := by
  unfold f_J1_charAt_3b067 at h
  refine met_c (by decide +kernel) (Nat.le_of_ble_eq_true rfl) (fun K hC hZ hE => ?_)
  have hC : xOK K cJ1_charAt_3b067 RJ1 2 (rmE 3 0) := hC
  show WG K E 0 [(0, vv E k0), (1, vi a1)] [] S
  refine g_iload_n hC rfl 1 rfl (rfl : 0 + 1 = 1) (xdt tt_J1_charAt_3b067 0 rfl) ?_
  refine g_aload_n hC rfl 0 rfl (rfl : 1 + 1 = 2) (xdt tt_J1_charAt_3b067 1 rfl) ?_
  refine g_vlen hC hs0 (rfl : 2 + 1 = 3) (xdt tt_J1_charAt_3b067 2 rfl) ?_
  obtain ⟨S2, hc1, h⟩ := bd_i h
  refine g_callSv hC hZ m_J0_checkIndex_df160 q379 (Nat.le_of_ble_eq_true rfl) [vi a1, vi ((xln k0 : Nat) : Int)] rfl (fun l => c_J0_checkIndex_df160 l hc1) rfl (Nat.le_of_ble_eq_true rfl) (rfl : 3 + 3 = 6) (xdt tt_J1_charAt_3b067 3 rfl) ?_
  refine g_aload_n hC rfl 0 rfl (rfl : 6 + 1 = 7) (xdt tt_J1_charAt_3b067 4 rfl) ?_
  refine g_iload_n hC rfl 1 rfl (rfl : 7 + 1 = 8) (xdt tt_J1_charAt_3b067 5 rfl) ?_
  obtain ⟨hi3, h⟩ := ckI_i h
  refine g_vald hC hs0 hi3 (rfl : 8 + 1 = 9) (xdt tt_J1_charAt_3b067 6 rfl) (k0 := (wr a1).toNat) rfl ?_
  refine g_sipush hC (by decide) (rfl : 9 + 3 = 12) (xdt tt_J1_charAt_3b067 7 rfl) ?_
  refine g_iand hC (rfl : 12 + 1 = 13) (xdt tt_J1_charAt_3b067 8 rfl) ?_
  refine g_i2c hC (rfl : 13 + 1 = 14) (xdt tt_J1_charAt_3b067 9 rfl) ?_
  cases h
  exact g_cret hC hE (nar_ch (iA (xby k0 (wr a1).toNat) 255)) (xdt tt_J1_charAt_3b067 10 rfl)
def f_J0_charAt_5068e (S : xSt) (k0 : Nat) (a1 : Int) : Option (Int × xSt) :=
  bd2 (f_J0_isLatin1_aae02 S k0) fun v3 S2 =>
  if wr v3 = 0 then
    (bd2 (f_J2_charAt_3b067 S2 k0 a1) fun v7 S6 =>
    some (v7, S6))
  else
    (bd2 (f_J1_charAt_3b067 S2 k0 a1) fun v11 S10 =>
    some (v11, S10))
set_option maxRecDepth 100000 in
set_option maxHeartbeats 4000000 in
theorem c_J0_charAt_5068e (l : Launch) {E : xE} {S S' : xSt} {k0 : Nat} {a1 : Int} (hs0 : k0 < xldc.length) {v : Int} (h : f_J0_charAt_5068e S k0 a1 = some (v, S')) : Met l yJ0_charAt_5068e (xws yJ0_charAt_5068e cJ0_charAt_5068e 2 (some .char)) (rmD 5) (YPc E [vs E k0, vi a1] S) (YQc E v S') 0 0 (xA E) := by
  unfold f_J0_charAt_5068e at h
  refine met_c (by decide +kernel) (Nat.le_of_ble_eq_true rfl) (fun K hC hZ hE => ?_)
  have hC : xOK K cJ0_charAt_5068e RJ0 2 (rmE 5 0) := hC
  show WG K E 0 [(0, vs E k0), (1, vi a1)] [] S
  refine g_aload_n hC rfl 0 rfl (rfl : 0 + 1 = 1) (xdt tt_J0_charAt_5068e 0 rfl) ?_
  obtain ⟨v3, S2, hc1, h⟩ := bd2_i h
  refine g_callTz hC hZ hs0 m_J0_isLatin1_aae02 q371 (Nat.le_of_ble_eq_true rfl) [] rfl (fun l => c_J0_isLatin1_aae02 l hs0 hc1) rfl (Nat.le_of_ble_eq_true rfl) (rfl : 1 + 3 = 4) (xdt tt_J0_charAt_5068e 1 rfl) (fun hb4 => ?_)
  refine g_if_eq hC (show ((4 : Nat) : Int) + 12 = ((16 : Nat) : Int) by decide) (rfl : 4 + 3 = 7) (xdt tt_J0_charAt_5068e 2 rfl) (fun hc13 => ?_) (fun hc13 => ?_)
  · replace h := (if_pos hc13).symm.trans h
    refine g_aload_n hC rfl 0 rfl (rfl : 16 + 1 = 17) (xdt tt_J0_charAt_5068e 8 rfl) ?_
    refine g_strV hC hs0 q360 (rfl : 17 + 3 = 20) (xdt tt_J0_charAt_5068e 9 rfl) ?_
    refine g_iload_n hC rfl 1 rfl (rfl : 20 + 1 = 21) (xdt tt_J0_charAt_5068e 10 rfl) ?_
    obtain ⟨v7, S6, hc5, h⟩ := bd2_i h
    refine g_callSc hC hZ m_J2_charAt_3b067 q387 (Nat.le_of_ble_eq_true rfl) [vv E k0, vi a1] rfl (fun l => c_J2_charAt_3b067 l hs0 hc5) rfl (Nat.le_of_ble_eq_true rfl) (rfl : 21 + 3 = 24) (xdt tt_J0_charAt_5068e 11 rfl) (fun hb8 => ?_)
    cases h
    exact g_cret hC hE hb8 (xdt tt_J0_charAt_5068e 12 rfl)
  · replace h := (if_neg hc13).symm.trans h
    refine g_aload_n hC rfl 0 rfl (rfl : 7 + 1 = 8) (xdt tt_J0_charAt_5068e 3 rfl) ?_
    refine g_strV hC hs0 q360 (rfl : 8 + 3 = 11) (xdt tt_J0_charAt_5068e 4 rfl) ?_
    refine g_iload_n hC rfl 1 rfl (rfl : 11 + 1 = 12) (xdt tt_J0_charAt_5068e 5 rfl) ?_
    obtain ⟨v11, S10, hc9, h⟩ := bd2_i h
    refine g_callSc hC hZ m_J1_charAt_3b067 q375 (Nat.le_of_ble_eq_true rfl) [vv E k0, vi a1] rfl (fun l => c_J1_charAt_3b067 l hs0 hc9) rfl (Nat.le_of_ble_eq_true rfl) (rfl : 12 + 3 = 15) (xdt tt_J0_charAt_5068e 6 rfl) (fun hb12 => ?_)
    cases h
    exact g_cret hC hE hb12 (xdt tt_J0_charAt_5068e 7 rfl)
def f_X12_wordHere_p4_0_b102 (c4 : xSt → Int → Int → Option (Int × xSt)) (r0 : Nat) : Nat → xSt → Int → Int → Option (Int × xSt)
  | 0, _, _, _ => none
  | fuel + 1, S, x1, x2 =>
    bd2 (f_J0_charAt_5068e S 42 x2) fun v14 S13 =>
    if wr v14 = wr 32 then
      (c4 S13 (x1 + 1) (x2 + 1))
    else
      ((f_X12_wordHere_p4_0_b102 c4 r0 fuel) S13 x1 (x2 + 1))
def f_X12_wordHere_p4_0_b73 (c4 : xSt → Int → Int → Option (Int × xSt)) (r0 : Nat) (S : xSt) (x1 : Int) (x2 : Int) (x3 : Int) : Option (Int × xSt) :=
  bd2 (f_J0_charAt_5068e S 42 (x2 + x3)) fun v10 S9 =>
  if ¬ wr v10 = wr 32 then
    (f_X12_wordHere_p4_0_b102 (c4) r0 (fu S9) S9 x1 x2)
  else
    (if ¬ wr ((gI S9 r0 0 24) + x3) = wr (gI S9 r0 0 23) then
      (f_X12_wordHere_p4_0_b102 (c4) r0 (fu S9) S9 x1 x2)
    else
      (some (x1, S9)))
def f_X12_wordHere_p4_0_b16 (c4 : xSt → Int → Int → Option (Int × xSt)) (r0 : Nat) : Nat → xSt → Int → Int → Int → Option (Int × xSt)
  | 0, _, _, _, _ => none
  | fuel + 1, S, x1, x2, x3 =>
    bd2 (f_J0_charAt_5068e S 42 (x2 + x3)) fun v6 S5 =>
    if wr v6 = wr 32 then
      (f_X12_wordHere_p4_0_b73 (c4) r0 S5 x1 x2 x3)
    else
      (if wr (gI S5 r0 0 23) ≤ wr ((gI S5 r0 0 24) + x3) then
        (f_X12_wordHere_p4_0_b73 (c4) r0 S5 x1 x2 x3)
      else
        (ckI ((gI S5 r0 0 24) + x3) 600 <|
        bd2 (f_J0_charAt_5068e S5 42 (x2 + x3)) fun v22 S21 =>
        if ¬ wr (gI S5 r0 13 (wr ((gI S5 r0 0 24) + x3)).toNat) = wr v22 then
          (f_X12_wordHere_p4_0_b73 (c4) r0 S21 x1 x2 x3)
        else
          ((f_X12_wordHere_p4_0_b16 c4 r0 fuel) S21 x1 x2 (x3 + 1))))
def f_X12_wordHere_p4_0_b4 (r0 : Nat) : Nat → xSt → Int → Int → Option (Int × xSt)
  | 0, _, _, _ => none
  | fuel + 1, S, x1, x2 =>
    bd2 (f_J0_length_8abf5 S 42) fun v3 S2 =>
    if wr v3 ≤ wr x2 then
      (some ((-1), S2))
    else
      (f_X12_wordHere_p4_0_b16 ((f_X12_wordHere_p4_0_b4 r0 fuel)) r0 (fu S2) S2 x1 x2 0)
def f_X12_wordHere_p4_0 (S : xSt) (r0 : Nat) : Option (Int × xSt) :=
  f_X12_wordHere_p4_0_b4 r0 (fu S) S 0 0
set_option maxRecDepth 100000 in
set_option maxHeartbeats 4000000 in
theorem k_X12_wordHere_p4_0_b102 {K : xCtx} {E : xE} {b : Nat} (hC : xOK K cX12_wordHere RX12 4 (rmE 6 b)) (hZ : xZ K) {v : Int} {S' : xSt} (hE : xEnd K E (some .int) (YQi E v S')) {r0 : Nat} (hk0 : xkd E r0 = 4) {c4 : xSt → Int → Int → Option (Int × xSt)} (hrec4 : ∀ (S : xSt) (x1 : Int) (x2 : Int), c4 S x1 x2 = some (v, S') → WG K E 4 [(0, vr E r0 0), (1, vi x1), (2, vi x2)] [] S) : ∀ (fuel : Nat) (S : xSt) (x1 : Int) (x2 : Int), f_X12_wordHere_p4_0_b102 c4 r0 fuel S x1 x2 = some (v, S') → WG K E 102 [(0, vr E r0 0), (1, vi x1), (2, vi x2)] [] S := by
  intro fuel
  induction fuel with
  | zero => intro S x1 x2 h; cases h
  | succ fuel ih =>
    intro S x1 x2 h
    rw [f_X12_wordHere_p4_0_b102] at h
    refine g_ldcSW hC 42 rfl rfl (rfl : 102 + 3 = 105) (xdt tt_X12_wordHere 58 rfl) ?_
    refine g_iload_n hC rfl 2 rfl (rfl : 105 + 1 = 106) (xdt tt_X12_wordHere 59 rfl) ?_
    obtain ⟨v14, S13, hc12, h⟩ := bd2_i h
    refine g_callTc hC hZ (show 42 < xldc.length by decide) m_J0_charAt_5068e q499 (Nat.le_of_ble_eq_true rfl) [vi x2] rfl (fun l => c_J0_charAt_5068e l (show 42 < xldc.length by decide) hc12) rfl (Nat.le_of_ble_eq_true rfl) (rfl : 106 + 3 = 109) (xdt tt_X12_wordHere 60 rfl) (fun hb15 => ?_)
    refine g_bipush hC (by decide) (rfl : 109 + 2 = 111) (xdt tt_X12_wordHere 61 rfl) ?_
    refine g_icmp_eq hC (show ((111 : Nat) : Int) + 10 = ((121 : Nat) : Int) by decide) (rfl : 111 + 3 = 114) (xdt tt_X12_wordHere 62 rfl) (fun hc16 => ?_) (fun hc16 => ?_)
    · replace h := (if_pos hc16).symm.trans h
      refine g_iload_n hC rfl 2 rfl (rfl : 121 + 1 = 122) (xdt tt_X12_wordHere 68 rfl) ?_
      refine g_iconst hC (rfl : 122 + 1 = 123) (xdt tt_X12_wordHere 69 rfl) ?_
      refine g_iadd hC (rfl : 123 + 1 = 124) (xdt tt_X12_wordHere 70 rfl) ?_
      refine g_istore_n hC rfl (by decide) (lv' := [(2, vi (x2 + 1)), (0, vr E r0 0), (1, vi x1)]) rfl (rfl : 124 + 1 = 125) (xdt tt_X12_wordHere 71 rfl) ?_
      refine g_iload_n hC rfl 2 rfl (rfl : 125 + 1 = 126) (xdt tt_X12_wordHere 72 rfl) ?_
      refine g_iconst hC (rfl : 126 + 1 = 127) (xdt tt_X12_wordHere 73 rfl) ?_
      refine g_iadd hC (rfl : 127 + 1 = 128) (xdt tt_X12_wordHere 74 rfl) ?_
      refine g_istore_n hC rfl (by decide) (lv' := [(1, vi (x1 + 1)), (2, vi (x2 + 1)), (0, vr E r0 0)]) rfl (rfl : 128 + 1 = 129) (xdt tt_X12_wordHere 75 rfl) ?_
      refine g_goto hC (show ((129 : Nat) : Int) + (-125) = ((4 : Nat) : Int) by decide) (xdt tt_X12_wordHere 76 rfl) ?_
      refine g_sub [2, 0, 1] (lv' := [(0, vr E r0 0), (1, vi (x1 + 1)), (2, vi (x2 + 1))]) rfl ?_
      exact hrec4 _ _ _ h
    · replace h := (if_neg hc16).symm.trans h
      refine g_iload_n hC rfl 2 rfl (rfl : 114 + 1 = 115) (xdt tt_X12_wordHere 63 rfl) ?_
      refine g_iconst hC (rfl : 115 + 1 = 116) (xdt tt_X12_wordHere 64 rfl) ?_
      refine g_iadd hC (rfl : 116 + 1 = 117) (xdt tt_X12_wordHere 65 rfl) ?_
      refine g_istore_n hC rfl (by decide) (lv' := [(2, vi (x2 + 1)), (0, vr E r0 0), (1, vi x1)]) rfl (rfl : 117 + 1 = 118) (xdt tt_X12_wordHere 66 rfl) ?_
      refine g_goto hC (show ((118 : Nat) : Int) + (-16) = ((102 : Nat) : Int) by decide) (xdt tt_X12_wordHere 67 rfl) ?_
      refine g_sub [1, 2, 0] (lv' := [(0, vr E r0 0), (1, vi x1), (2, vi (x2 + 1))]) rfl ?_
      exact ih _ _ _ h
set_option maxRecDepth 100000 in
set_option maxHeartbeats 4000000 in
theorem k_X12_wordHere_p4_0_b73 {K : xCtx} {E : xE} {b : Nat} (hC : xOK K cX12_wordHere RX12 4 (rmE 6 b)) (hZ : xZ K) {v : Int} {S' : xSt} (hE : xEnd K E (some .int) (YQi E v S')) {r0 : Nat} (hk0 : xkd E r0 = 4) {c4 : xSt → Int → Int → Option (Int × xSt)} (hrec4 : ∀ (S : xSt) (x1 : Int) (x2 : Int), c4 S x1 x2 = some (v, S') → WG K E 4 [(0, vr E r0 0), (1, vi x1), (2, vi x2)] [] S) : ∀ (S : xSt) (x1 : Int) (x2 : Int) (x3 : Int), f_X12_wordHere_p4_0_b73 c4 r0 S x1 x2 x3 = some (v, S') → WG K E 73 [(0, vr E r0 0), (1, vi x1), (2, vi x2), (3, vi x3)] [] S := by
  intro S x1 x2 x3 h
  unfold f_X12_wordHere_p4_0_b73 at h
  refine g_ldcSW hC 42 rfl rfl (rfl : 73 + 3 = 76) (xdt tt_X12_wordHere 42 rfl) ?_
  refine g_iload_n hC rfl 2 rfl (rfl : 76 + 1 = 77) (xdt tt_X12_wordHere 43 rfl) ?_
  refine g_iload_n hC rfl 3 rfl (rfl : 77 + 1 = 78) (xdt tt_X12_wordHere 44 rfl) ?_
  refine g_iadd hC (rfl : 78 + 1 = 79) (xdt tt_X12_wordHere 45 rfl) ?_
  obtain ⟨v10, S9, hc8, h⟩ := bd2_i h
  refine g_callTc hC hZ (show 42 < xldc.length by decide) m_J0_charAt_5068e q499 (Nat.le_of_ble_eq_true rfl) [vi (x2 + x3)] rfl (fun l => c_J0_charAt_5068e l (show 42 < xldc.length by decide) hc8) rfl (Nat.le_of_ble_eq_true rfl) (rfl : 79 + 3 = 82) (xdt tt_X12_wordHere 46 rfl) (fun hb11 => ?_)
  refine g_bipush hC (by decide) (rfl : 82 + 2 = 84) (xdt tt_X12_wordHere 47 rfl) ?_
  refine g_icmp_ne hC (show ((84 : Nat) : Int) + 18 = ((102 : Nat) : Int) by decide) (rfl : 84 + 3 = 87) (xdt tt_X12_wordHere 48 rfl) (fun hc18 => ?_) (fun hc18 => ?_)
  · replace h := (if_pos hc18).symm.trans h
    refine g_sub [0, 1, 2] (lv' := [(0, vr E r0 0), (1, vi x1), (2, vi x2)]) rfl ?_
    exact k_X12_wordHere_p4_0_b102 hC hZ hE hk0 hrec4 _ _ _ _ h
  · replace h := (if_neg hc18).symm.trans h
    refine g_aload_n hC rfl 0 rfl (rfl : 87 + 1 = 88) (xdt tt_X12_wordHere 49 rfl) ?_
    refine g_getI hC hk0 kclX12 ly4_0 24 (by decide) rfl q482 (rfl : 88 + 3 = 91) (xdt tt_X12_wordHere 50 rfl) ?_
    refine g_iload_n hC rfl 3 rfl (rfl : 91 + 1 = 92) (xdt tt_X12_wordHere 51 rfl) ?_
    refine g_iadd hC (rfl : 92 + 1 = 93) (xdt tt_X12_wordHere 52 rfl) ?_
    refine g_aload_n hC rfl 0 rfl (rfl : 93 + 1 = 94) (xdt tt_X12_wordHere 53 rfl) ?_
    refine g_getI hC hk0 kclX12 ly4_0 23 (by decide) rfl q477 (rfl : 94 + 3 = 97) (xdt tt_X12_wordHere 54 rfl) ?_
    refine g_icmp_ne hC (show ((97 : Nat) : Int) + 5 = ((102 : Nat) : Int) by decide) (rfl : 97 + 3 = 100) (xdt tt_X12_wordHere 55 rfl) (fun hc17 => ?_) (fun hc17 => ?_)
    · replace h := (if_pos hc17).symm.trans h
      refine g_sub [0, 1, 2] (lv' := [(0, vr E r0 0), (1, vi x1), (2, vi x2)]) rfl ?_
      exact k_X12_wordHere_p4_0_b102 hC hZ hE hk0 hrec4 _ _ _ _ h
    · replace h := (if_neg hc17).symm.trans h
      refine g_iload_n hC rfl 1 rfl (rfl : 100 + 1 = 101) (xdt tt_X12_wordHere 56 rfl) ?_
      cases h
      exact g_iret hC hE (xdt tt_X12_wordHere 57 rfl)
set_option maxRecDepth 100000 in
set_option maxHeartbeats 4000000 in
theorem k_X12_wordHere_p4_0_b16 {K : xCtx} {E : xE} {b : Nat} (hC : xOK K cX12_wordHere RX12 4 (rmE 6 b)) (hZ : xZ K) {v : Int} {S' : xSt} (hE : xEnd K E (some .int) (YQi E v S')) {r0 : Nat} (hk0 : xkd E r0 = 4) {c4 : xSt → Int → Int → Option (Int × xSt)} (hrec4 : ∀ (S : xSt) (x1 : Int) (x2 : Int), c4 S x1 x2 = some (v, S') → WG K E 4 [(0, vr E r0 0), (1, vi x1), (2, vi x2)] [] S) : ∀ (fuel : Nat) (S : xSt) (x1 : Int) (x2 : Int) (x3 : Int), f_X12_wordHere_p4_0_b16 c4 r0 fuel S x1 x2 x3 = some (v, S') → WG K E 16 [(0, vr E r0 0), (1, vi x1), (2, vi x2), (3, vi x3)] [] S := by
  intro fuel
  induction fuel with
  | zero => intro S x1 x2 x3 h; cases h
  | succ fuel ih =>
    intro S x1 x2 x3 h
    rw [f_X12_wordHere_p4_0_b16] at h
    refine g_ldcSW hC 42 rfl rfl (rfl : 16 + 3 = 19) (xdt tt_X12_wordHere 10 rfl) ?_
    refine g_iload_n hC rfl 2 rfl (rfl : 19 + 1 = 20) (xdt tt_X12_wordHere 11 rfl) ?_
    refine g_iload_n hC rfl 3 rfl (rfl : 20 + 1 = 21) (xdt tt_X12_wordHere 12 rfl) ?_
    refine g_iadd hC (rfl : 21 + 1 = 22) (xdt tt_X12_wordHere 13 rfl) ?_
    obtain ⟨v6, S5, hc4, h⟩ := bd2_i h
    refine g_callTc hC hZ (show 42 < xldc.length by decide) m_J0_charAt_5068e q499 (Nat.le_of_ble_eq_true rfl) [vi (x2 + x3)] rfl (fun l => c_J0_charAt_5068e l (show 42 < xldc.length by decide) hc4) rfl (Nat.le_of_ble_eq_true rfl) (rfl : 22 + 3 = 25) (xdt tt_X12_wordHere 14 rfl) (fun hb7 => ?_)
    refine g_bipush hC (by decide) (rfl : 25 + 2 = 27) (xdt tt_X12_wordHere 15 rfl) ?_
    refine g_icmp_eq hC (show ((27 : Nat) : Int) + 46 = ((73 : Nat) : Int) by decide) (rfl : 27 + 3 = 30) (xdt tt_X12_wordHere 16 rfl) (fun hc26 => ?_) (fun hc26 => ?_)
    · replace h := (if_pos hc26).symm.trans h
      refine g_sub [0, 1, 2, 3] (lv' := [(0, vr E r0 0), (1, vi x1), (2, vi x2), (3, vi x3)]) rfl ?_
      exact k_X12_wordHere_p4_0_b73 hC hZ hE hk0 hrec4 _ _ _ _ h
    · replace h := (if_neg hc26).symm.trans h
      refine g_aload_n hC rfl 0 rfl (rfl : 30 + 1 = 31) (xdt tt_X12_wordHere 17 rfl) ?_
      refine g_getI hC hk0 kclX12 ly4_0 24 (by decide) rfl q482 (rfl : 31 + 3 = 34) (xdt tt_X12_wordHere 18 rfl) ?_
      refine g_iload_n hC rfl 3 rfl (rfl : 34 + 1 = 35) (xdt tt_X12_wordHere 19 rfl) ?_
      refine g_iadd hC (rfl : 35 + 1 = 36) (xdt tt_X12_wordHere 20 rfl) ?_
      refine g_aload_n hC rfl 0 rfl (rfl : 36 + 1 = 37) (xdt tt_X12_wordHere 21 rfl) ?_
      refine g_getI hC hk0 kclX12 ly4_0 23 (by decide) rfl q477 (rfl : 37 + 3 = 40) (xdt tt_X12_wordHere 22 rfl) ?_
      refine g_icmp_ge hC (show ((40 : Nat) : Int) + 33 = ((73 : Nat) : Int) by decide) (rfl : 40 + 3 = 43) (xdt tt_X12_wordHere 23 rfl) (fun hc25 => ?_) (fun hc25 => ?_)
      · replace h := (if_pos hc25).symm.trans h
        refine g_sub [0, 1, 2, 3] (lv' := [(0, vr E r0 0), (1, vi x1), (2, vi x2), (3, vi x3)]) rfl ?_
        exact k_X12_wordHere_p4_0_b73 hC hZ hE hk0 hrec4 _ _ _ _ h
      · replace h := (if_neg hc25).symm.trans h
        refine g_aload_n hC rfl 0 rfl (rfl : 43 + 1 = 44) (xdt tt_X12_wordHere 24 rfl) ?_
        refine g_getP hC hk0 kclX12 ly4_0 20 (by decide) (rfl : r0 + 0 = r0) rfl q208 (rfl : 44 + 3 = 47) (xdt tt_X12_wordHere 25 rfl) ?_
        refine g_aload_n hC rfl 0 rfl (rfl : 47 + 1 = 48) (xdt tt_X12_wordHere 26 rfl) ?_
        refine g_getI hC hk0 kclX12 ly4_0 24 (by decide) rfl q482 (rfl : 48 + 3 = 51) (xdt tt_X12_wordHere 27 rfl) ?_
        refine g_iload_n hC rfl 3 rfl (rfl : 51 + 1 = 52) (xdt tt_X12_wordHere 28 rfl) ?_
        refine g_iadd hC (rfl : 52 + 1 = 53) (xdt tt_X12_wordHere 29 rfl) ?_
        obtain ⟨hi19, h⟩ := ckI_i h
        refine g_bald hC hk0 ly4_13 hi19 (rfl : 53 + 1 = 54) (xdt tt_X12_wordHere 30 rfl) (k0 := (wr ((gI S5 r0 0 24) + x3)).toNat) rfl ?_
        refine g_ldcSW hC 42 rfl rfl (rfl : 54 + 3 = 57) (xdt tt_X12_wordHere 31 rfl) ?_
        refine g_iload_n hC rfl 2 rfl (rfl : 57 + 1 = 58) (xdt tt_X12_wordHere 32 rfl) ?_
        refine g_iload_n hC rfl 3 rfl (rfl : 58 + 1 = 59) (xdt tt_X12_wordHere 33 rfl) ?_
        refine g_iadd hC (rfl : 59 + 1 = 60) (xdt tt_X12_wordHere 34 rfl) ?_
        obtain ⟨v22, S21, hc20, h⟩ := bd2_i h
        refine g_callTc hC hZ (show 42 < xldc.length by decide) m_J0_charAt_5068e q499 (Nat.le_of_ble_eq_true rfl) [vi (x2 + x3)] rfl (fun l => c_J0_charAt_5068e l (show 42 < xldc.length by decide) hc20) rfl (Nat.le_of_ble_eq_true rfl) (rfl : 60 + 3 = 63) (xdt tt_X12_wordHere 35 rfl) (fun hb23 => ?_)
        refine g_icmp_ne hC (show ((63 : Nat) : Int) + 10 = ((73 : Nat) : Int) by decide) (rfl : 63 + 3 = 66) (xdt tt_X12_wordHere 36 rfl) (fun hc24 => ?_) (fun hc24 => ?_)
        · replace h := (if_pos hc24).symm.trans h
          refine g_sub [0, 1, 2, 3] (lv' := [(0, vr E r0 0), (1, vi x1), (2, vi x2), (3, vi x3)]) rfl ?_
          exact k_X12_wordHere_p4_0_b73 hC hZ hE hk0 hrec4 _ _ _ _ h
        · replace h := (if_neg hc24).symm.trans h
          refine g_iload_n hC rfl 3 rfl (rfl : 66 + 1 = 67) (xdt tt_X12_wordHere 37 rfl) ?_
          refine g_iconst hC (rfl : 67 + 1 = 68) (xdt tt_X12_wordHere 38 rfl) ?_
          refine g_iadd hC (rfl : 68 + 1 = 69) (xdt tt_X12_wordHere 39 rfl) ?_
          refine g_istore_n hC rfl (by decide) (lv' := [(3, vi (x3 + 1)), (0, vr E r0 0), (1, vi x1), (2, vi x2)]) rfl (rfl : 69 + 1 = 70) (xdt tt_X12_wordHere 40 rfl) ?_
          refine g_goto hC (show ((70 : Nat) : Int) + (-54) = ((16 : Nat) : Int) by decide) (xdt tt_X12_wordHere 41 rfl) ?_
          refine g_sub [1, 2, 3, 0] (lv' := [(0, vr E r0 0), (1, vi x1), (2, vi x2), (3, vi (x3 + 1))]) rfl ?_
          exact ih _ _ _ _ h
set_option maxRecDepth 100000 in
set_option maxHeartbeats 4000000 in
theorem k_X12_wordHere_p4_0_b4 {K : xCtx} {E : xE} {b : Nat} (hC : xOK K cX12_wordHere RX12 4 (rmE 6 b)) (hZ : xZ K) {v : Int} {S' : xSt} (hE : xEnd K E (some .int) (YQi E v S')) {r0 : Nat} (hk0 : xkd E r0 = 4) : ∀ (fuel : Nat) (S : xSt) (x1 : Int) (x2 : Int), f_X12_wordHere_p4_0_b4 r0 fuel S x1 x2 = some (v, S') → WG K E 4 [(0, vr E r0 0), (1, vi x1), (2, vi x2)] [] S := by
  intro fuel
  induction fuel with
  | zero => intro S x1 x2 h; cases h
  | succ fuel ih =>
    intro S x1 x2 h
    rw [f_X12_wordHere_p4_0_b4] at h
    refine g_iload_n hC rfl 2 rfl (rfl : 4 + 1 = 5) (xdt tt_X12_wordHere 4 rfl) ?_
    refine g_ldcSW hC 42 rfl rfl (rfl : 5 + 3 = 8) (xdt tt_X12_wordHere 5 rfl) ?_
    obtain ⟨v3, S2, hc1, h⟩ := bd2_i h
    refine g_callTi hC hZ (show 42 < xldc.length by decide) m_J0_length_8abf5 q498 (Nat.le_of_ble_eq_true rfl) [] rfl (fun l => c_J0_length_8abf5 l (show 42 < xldc.length by decide) hc1) rfl (Nat.le_of_ble_eq_true rfl) (rfl : 8 + 3 = 11) (xdt tt_X12_wordHere 6 rfl) ?_
    refine g_icmp_ge hC (show ((11 : Nat) : Int) + 121 = ((132 : Nat) : Int) by decide) (rfl : 11 + 3 = 14) (xdt tt_X12_wordHere 7 rfl) (fun hc27 => ?_) (fun hc27 => ?_)
    · replace h := (if_pos hc27).symm.trans h
      refine g_iconst hC (rfl : 132 + 1 = 133) (xdt tt_X12_wordHere 77 rfl) ?_
      cases h
      exact g_iret hC hE (xdt tt_X12_wordHere 78 rfl)
    · replace h := (if_neg hc27).symm.trans h
      refine g_iconst hC (rfl : 14 + 1 = 15) (xdt tt_X12_wordHere 8 rfl) ?_
      refine g_istore_n hC rfl (by decide) (lv' := [(3, vi 0), (0, vr E r0 0), (1, vi x1), (2, vi x2)]) rfl (rfl : 15 + 1 = 16) (xdt tt_X12_wordHere 9 rfl) ?_
      refine g_sub [1, 2, 3, 0] (lv' := [(0, vr E r0 0), (1, vi x1), (2, vi x2), (3, vi 0)]) rfl ?_
      exact k_X12_wordHere_p4_0_b16 hC hZ hE hk0 ih _ _ _ _ _ h
set_option maxRecDepth 100000 in
set_option maxHeartbeats 4000000 in
theorem c_X12_wordHere_p4_0 (l : Launch) {E : xE} {S S' : xSt} {r0 : Nat} (hk0 : xkd E r0 = 4) {v : Int} (h : f_X12_wordHere_p4_0 S r0 = some (v, S')) : Met l yX12_wordHere (xws yX12_wordHere cX12_wordHere 4 (some .int)) (rmD 6) (YPc E [vr E r0 0] S) (YQi E v S') 0 0 (xA E) := by
  unfold f_X12_wordHere_p4_0 at h
  refine met_i (by decide +kernel) (Nat.le_of_ble_eq_true rfl) (fun K hC hZ hE => ?_)
  have hC : xOK K cX12_wordHere RX12 4 (rmE 6 0) := hC
  show WG K E 0 [(0, vr E r0 0)] [] S
  refine g_iconst hC (rfl : 0 + 1 = 1) (xdt tt_X12_wordHere 0 rfl) ?_
  refine g_istore_n hC rfl (by decide) (lv' := [(1, vi 0), (0, vr E r0 0)]) rfl (rfl : 1 + 1 = 2) (xdt tt_X12_wordHere 1 rfl) ?_
  refine g_iconst hC (rfl : 2 + 1 = 3) (xdt tt_X12_wordHere 2 rfl) ?_
  refine g_istore_n hC rfl (by decide) (lv' := [(2, vi 0), (1, vi 0), (0, vr E r0 0)]) rfl (rfl : 3 + 1 = 4) (xdt tt_X12_wordHere 3 rfl) ?_
  refine g_sub [2, 1, 0] (lv' := [(0, vr E r0 0), (1, vi 0), (2, vi 0)]) rfl ?_
  exact k_X12_wordHere_p4_0_b4 hC hZ hE hk0 _ _ _ _ h
