def f_X12_addRule_p4_0_b39 (r0 : Nat) (S : xSt) (x1 : Int) (x2 : Int) (s0 : Int) : Option (Int × xSt) :=
  bd2 (f_X12_may_p4_0 S r0 s0 2) fun v15 S14 =>
  if ¬ wr v15 = 0 then
    (bd (f_X12_starts_p4_0 S14 r0) fun S18 =>
    bd2 (f_X12_adds_p4_0 S18 r0 x1 x2) fun v21 S20 =>
    bd2 (f_X12_done_p4_0 S20 r0 v21) fun v24 S23 =>
    some (v24, S23))
  else
    (some (0, S14))
def f_X12_addRule_p4_0_b38 (r0 : Nat) (S : xSt) (x1 : Int) (x2 : Int) : Option (Int × xSt) :=
  f_X12_addRule_p4_0_b39 r0 S x1 x2 0
def f_X12_addRule_p4_0 (S : xSt) (r0 : Nat) (a1 : Int) (a2 : Int) : Option (Int × xSt) :=
  bd2 (f_X12_areKinds S a1 a2) fun v3 S2 =>
  bd2 (f_X12_is_p4_0 S2 r0 v3) fun v7 S6 =>
  if wr v7 = 0 then
    (some (0, S6))
  else
    (bd2 (f_X12_hasRule_p4_0 S6 r0 a1 a2) fun v11 S10 =>
    if ¬ wr v11 = 0 then
      (f_X12_addRule_p4_0_b38 r0 S10 a1 a2)
    else
      (if wr 6 ≤ wr (gI S10 r0 6 34) then
        (f_X12_addRule_p4_0_b38 r0 S10 a1 a2)
      else
        (f_X12_addRule_p4_0_b39 r0 S10 a1 a2 1)))
set_option maxRecDepth 100000 in
set_option maxHeartbeats 4000000 in
theorem k_X12_addRule_p4_0_b39 {K : xCtx} {E : xE} {b : Nat} (hC : xOK K cX12_addRule RX12 3 (rmE 3 b)) (hZ : xZ K) {v : Int} {S' : xSt} (hE : xEnd K E (some .int) (YQi E v S')) {r0 : Nat} (hk0 : xkd E r0 = 4) : ∀ (S : xSt) (x1 : Int) (x2 : Int) (s0 : Int), f_X12_addRule_p4_0_b39 r0 S x1 x2 s0 = some (v, S') → WG K E 39 [(0, vr E r0 0), (1, vi x1), (2, vi x2)] [vi s0, vr E r0 0] S := by
  intro S x1 x2 s0 h
  unfold f_X12_addRule_p4_0_b39 at h
  refine g_iconst hC (rfl : 39 + 1 = 40) (xdt tt_X12_addRule 21 rfl) ?_
  obtain ⟨v15, S14, hc13, h⟩ := bd2_i h
  refine g_callVz hC hZ hk0 kclX12 ly4_0 m_X12_may q1300 (Nat.le_of_ble_eq_true rfl) [vi s0, vi 2] rfl (fun l => c_X12_may_p4_0 l hk0 hc13) rfl (Nat.le_of_ble_eq_true rfl) (rfl : 40 + 3 = 43) (xdt tt_X12_addRule 22 rfl) (fun hb16 => ?_)
  refine g_if_ne hC (show ((43 : Nat) : Int) + 5 = ((48 : Nat) : Int) by decide) (rfl : 43 + 3 = 46) (xdt tt_X12_addRule 23 rfl) (fun hc25 => ?_) (fun hc25 => ?_)
  · replace h := (if_pos hc25).symm.trans h
    refine g_aload_n hC rfl 0 rfl (rfl : 48 + 1 = 49) (xdt tt_X12_addRule 26 rfl) ?_
    obtain ⟨S18, hc17, h⟩ := bd_i h
    refine g_callVv hC hZ hk0 kclX12 ly4_0 m_X12_starts q1146 (Nat.le_of_ble_eq_true rfl) [] rfl (fun l => c_X12_starts_p4_0 l hk0 hc17) rfl (Nat.le_of_ble_eq_true rfl) (rfl : 49 + 3 = 52) (xdt tt_X12_addRule 27 rfl) ?_
    refine g_aload_n hC rfl 0 rfl (rfl : 52 + 1 = 53) (xdt tt_X12_addRule 28 rfl) ?_
    refine g_aload_n hC rfl 0 rfl (rfl : 53 + 1 = 54) (xdt tt_X12_addRule 29 rfl) ?_
    refine g_iload_n hC rfl 1 rfl (rfl : 54 + 1 = 55) (xdt tt_X12_addRule 30 rfl) ?_
    refine g_iload_n hC rfl 2 rfl (rfl : 55 + 1 = 56) (xdt tt_X12_addRule 31 rfl) ?_
    obtain ⟨v21, S20, hc19, h⟩ := bd2_i h
    refine g_callVi hC hZ hk0 kclX12 ly4_0 m_X12_adds q1304 (Nat.le_of_ble_eq_true rfl) [vi x1, vi x2] rfl (fun l => c_X12_adds_p4_0 l hk0 hc19) rfl (Nat.le_of_ble_eq_true rfl) (rfl : 56 + 3 = 59) (xdt tt_X12_addRule 32 rfl) ?_
    obtain ⟨v24, S23, hc22, h⟩ := bd2_i h
    refine g_callVi hC hZ hk0 kclX12 ly4_0 m_X12_done q1230 (Nat.le_of_ble_eq_true rfl) [vi v21] rfl (fun l => c_X12_done_p4_0 l hk0 hc22) rfl (Nat.le_of_ble_eq_true rfl) (rfl : 59 + 3 = 62) (xdt tt_X12_addRule 33 rfl) ?_
    cases h
    exact g_iret hC hE (xdt tt_X12_addRule 34 rfl)
  · replace h := (if_neg hc25).symm.trans h
    refine g_iconst hC (rfl : 46 + 1 = 47) (xdt tt_X12_addRule 24 rfl) ?_
    cases h
    exact g_iret hC hE (xdt tt_X12_addRule 25 rfl)
set_option maxRecDepth 100000 in
set_option maxHeartbeats 4000000 in
theorem k_X12_addRule_p4_0_b38 {K : xCtx} {E : xE} {b : Nat} (hC : xOK K cX12_addRule RX12 3 (rmE 3 b)) (hZ : xZ K) {v : Int} {S' : xSt} (hE : xEnd K E (some .int) (YQi E v S')) {r0 : Nat} (hk0 : xkd E r0 = 4) : ∀ (S : xSt) (x1 : Int) (x2 : Int), f_X12_addRule_p4_0_b38 r0 S x1 x2 = some (v, S') → WG K E 38 [(0, vr E r0 0), (1, vi x1), (2, vi x2)] [vr E r0 0] S := by
  intro S x1 x2 h
  unfold f_X12_addRule_p4_0_b38 at h
  refine g_iconst hC (rfl : 38 + 1 = 39) (xdt tt_X12_addRule 20 rfl) ?_
  refine g_sub [0, 1, 2] (lv' := [(0, vr E r0 0), (1, vi x1), (2, vi x2)]) rfl ?_
  exact k_X12_addRule_p4_0_b39 hC hZ hE hk0 _ _ _ _ h
set_option maxRecDepth 100000 in
set_option maxHeartbeats 4000000 in
theorem c_X12_addRule_p4_0 (l : Launch) {E : xE} {S S' : xSt} {r0 : Nat} {a1 : Int} {a2 : Int} (hk0 : xkd E r0 = 4) {v : Int} (h : f_X12_addRule_p4_0 S r0 a1 a2 = some (v, S')) : Met l yX12_addRule (xws yX12_addRule cX12_addRule 3 (some .int)) (rmD 3) (YPc E [vr E r0 0, vi a1, vi a2] S) (YQi E v S') 0 0 (xA E) := by
  unfold f_X12_addRule_p4_0 at h
  refine met_i (by decide +kernel) (Nat.le_of_ble_eq_true rfl) (fun K hC hZ hE => ?_)
  have hC : xOK K cX12_addRule RX12 3 (rmE 3 0) := hC
  show WG K E 0 [(0, vr E r0 0), (1, vi a1), (2, vi a2)] [] S
  refine g_aload_n hC rfl 0 rfl (rfl : 0 + 1 = 1) (xdt tt_X12_addRule 0 rfl) ?_
  refine g_iload_n hC rfl 1 rfl (rfl : 1 + 1 = 2) (xdt tt_X12_addRule 1 rfl) ?_
  refine g_iload_n hC rfl 2 rfl (rfl : 2 + 1 = 3) (xdt tt_X12_addRule 2 rfl) ?_
  obtain ⟨v3, S2, hc1, h⟩ := bd2_i h
  refine g_callSz hC hZ m_X12_areKinds q1297 (Nat.le_of_ble_eq_true rfl) [vi a1, vi a2] rfl (fun l => c_X12_areKinds l hc1) rfl (Nat.le_of_ble_eq_true rfl) (rfl : 3 + 3 = 6) (xdt tt_X12_addRule 3 rfl) (fun hb4 => ?_)
  obtain ⟨v7, S6, hc5, h⟩ := bd2_i h
  refine g_callVz hC hZ hk0 kclX12 ly4_0 m_X12_is q655 (Nat.le_of_ble_eq_true rfl) [vi v3] rfl (fun l => c_X12_is_p4_0 l hk0 hc5) rfl (Nat.le_of_ble_eq_true rfl) (rfl : 6 + 3 = 9) (xdt tt_X12_addRule 4 rfl) (fun hb8 => ?_)
  refine g_if_eq hC (show ((9 : Nat) : Int) + 37 = ((46 : Nat) : Int) by decide) (rfl : 9 + 3 = 12) (xdt tt_X12_addRule 5 rfl) (fun hc28 => ?_) (fun hc28 => ?_)
  · replace h := (if_pos hc28).symm.trans h
    refine g_iconst hC (rfl : 46 + 1 = 47) (xdt tt_X12_addRule 24 rfl) ?_
    cases h
    exact g_iret hC hE (xdt tt_X12_addRule 25 rfl)
  · replace h := (if_neg hc28).symm.trans h
    refine g_aload_n hC rfl 0 rfl (rfl : 12 + 1 = 13) (xdt tt_X12_addRule 6 rfl) ?_
    refine g_aload_n hC rfl 0 rfl (rfl : 13 + 1 = 14) (xdt tt_X12_addRule 7 rfl) ?_
    refine g_iload_n hC rfl 1 rfl (rfl : 14 + 1 = 15) (xdt tt_X12_addRule 8 rfl) ?_
    refine g_iload_n hC rfl 2 rfl (rfl : 15 + 1 = 16) (xdt tt_X12_addRule 9 rfl) ?_
    obtain ⟨v11, S10, hc9, h⟩ := bd2_i h
    refine g_callVz hC hZ hk0 kclX12 ly4_0 m_X12_hasRule q735 (Nat.le_of_ble_eq_true rfl) [vi a1, vi a2] rfl (fun l => c_X12_hasRule_p4_0 l hk0 hc9) rfl (Nat.le_of_ble_eq_true rfl) (rfl : 16 + 3 = 19) (xdt tt_X12_addRule 10 rfl) (fun hb12 => ?_)
    refine g_if_ne hC (show ((19 : Nat) : Int) + 19 = ((38 : Nat) : Int) by decide) (rfl : 19 + 3 = 22) (xdt tt_X12_addRule 11 rfl) (fun hc27 => ?_) (fun hc27 => ?_)
    · replace h := (if_pos hc27).symm.trans h
      refine g_sub [0, 1, 2] (lv' := [(0, vr E r0 0), (1, vi a1), (2, vi a2)]) rfl ?_
      exact k_X12_addRule_p4_0_b38 hC hZ hE hk0 _ _ _ h
    · replace h := (if_neg hc27).symm.trans h
      refine g_aload_n hC rfl 0 rfl (rfl : 22 + 1 = 23) (xdt tt_X12_addRule 12 rfl) ?_
      refine g_getP hC hk0 kclX12 ly4_0 10 (by decide) (rfl : r0 + 0 = r0) rfl q201 (rfl : 23 + 3 = 26) (xdt tt_X12_addRule 13 rfl) ?_
      refine g_bipush hC (by decide) (rfl : 26 + 2 = 28) (xdt tt_X12_addRule 14 rfl) ?_
      refine g_iald hC hk0 ly4_6 (by decide) (rfl : 28 + 1 = 29) (xdt tt_X12_addRule 15 rfl) (k0 := 34) (by decide) ?_
      refine g_bipush hC (by decide) (rfl : 29 + 2 = 31) (xdt tt_X12_addRule 16 rfl) ?_
      refine g_icmp_ge hC (show ((31 : Nat) : Int) + 7 = ((38 : Nat) : Int) by decide) (rfl : 31 + 3 = 34) (xdt tt_X12_addRule 17 rfl) (fun hc26 => ?_) (fun hc26 => ?_)
      · replace h := (if_pos hc26).symm.trans h
        refine g_sub [0, 1, 2] (lv' := [(0, vr E r0 0), (1, vi a1), (2, vi a2)]) rfl ?_
        exact k_X12_addRule_p4_0_b38 hC hZ hE hk0 _ _ _ h
      · replace h := (if_neg hc26).symm.trans h
        refine g_iconst hC (rfl : 34 + 1 = 35) (xdt tt_X12_addRule 18 rfl) ?_
        refine g_goto hC (show ((35 : Nat) : Int) + 4 = ((39 : Nat) : Int) by decide) (xdt tt_X12_addRule 19 rfl) ?_
        refine g_sub [0, 1, 2] (lv' := [(0, vr E r0 0), (1, vi a1), (2, vi a2)]) rfl ?_
        exact k_X12_addRule_p4_0_b39 hC hZ hE hk0 _ _ _ _ h
def f_X12_isRule_p4_0 (S : xSt) (r0 : Nat) (a1 : Int) : Option (Int × xSt) :=
  bd2 (f_X12_isIn S (wr a1) 0 (wr ((gI S r0 6 34) - 1))) fun v3 S2 =>
  some (v3, S2)
set_option maxRecDepth 100000 in
set_option maxHeartbeats 4000000 in
theorem c_X12_isRule_p4_0 (l : Launch) {E : xE} {S S' : xSt} {r0 : Nat} {a1 : Int} (hk0 : xkd E r0 = 4) {v : Int} (h : f_X12_isRule_p4_0 S r0 a1 = some (v, S')) : Met l yX12_isRule (xws yX12_isRule cX12_isRule 2 (some .boolean)) (rmD 2) (YPc E [vr E r0 0, vi a1] S) (YQz E v S') 0 0 (xA E) := by
  unfold f_X12_isRule_p4_0 at h
  refine met_z (by decide +kernel) (Nat.le_of_ble_eq_true rfl) (fun K hC hZ hE => ?_)
  have hC : xOK K cX12_isRule RX12 2 (rmE 2 0) := hC
  show WG K E 0 [(0, vr E r0 0), (1, vi a1)] [] S
  refine g_iload_n hC rfl 1 rfl (rfl : 0 + 1 = 1) (xdt tt_X12_isRule 0 rfl) ?_
  refine g_i2l hC (rfl : 1 + 1 = 2) (xdt tt_X12_isRule 1 rfl) ?_
  refine g_lconst hC (z := 0) (by decide) (rfl : 2 + 1 = 3) (xdt tt_X12_isRule 2 rfl) ?_
  refine g_aload_n hC rfl 0 rfl (rfl : 3 + 1 = 4) (xdt tt_X12_isRule 3 rfl) ?_
  refine g_getP hC hk0 kclX12 ly4_0 10 (by decide) (rfl : r0 + 0 = r0) rfl q201 (rfl : 4 + 3 = 7) (xdt tt_X12_isRule 4 rfl) ?_
  refine g_bipush hC (by decide) (rfl : 7 + 2 = 9) (xdt tt_X12_isRule 5 rfl) ?_
  refine g_iald hC hk0 ly4_6 (by decide) (rfl : 9 + 1 = 10) (xdt tt_X12_isRule 6 rfl) (k0 := 34) (by decide) ?_
  refine g_iconst hC (rfl : 10 + 1 = 11) (xdt tt_X12_isRule 7 rfl) ?_
  refine g_isub hC (rfl : 11 + 1 = 12) (xdt tt_X12_isRule 8 rfl) ?_
  refine g_i2l hC (rfl : 12 + 1 = 13) (xdt tt_X12_isRule 9 rfl) ?_
  obtain ⟨v3, S2, hc1, h⟩ := bd2_i h
  refine g_callSz hC hZ m_X12_isIn q269 (Nat.le_of_ble_eq_true rfl) [vl (wr a1), vl 0, vl (wr ((gI S r0 6 34) - 1))] rfl (fun l => c_X12_isIn l hc1) rfl (Nat.le_of_ble_eq_true rfl) (rfl : 13 + 3 = 16) (xdt tt_X12_isRule 10 rfl) (fun hb4 => ?_)
  cases h
  exact g_zret hC hE hb4 (xdt tt_X12_isRule 11 rfl)
def f_X12_removeRule_p4_0_b46 (r0 : Nat) : Nat → xSt → Int → Int → Option (Int × xSt)
  | 0, _, _, _ => none
  | fuel + 1, S, x2, x3 =>
    if wr (gI S r0 6 34) ≤ wr x3 then
      (ckI (35 + (gI S r0 6 34)) 363 <|
      lt1 (wI S r0 6 (wr (35 + (gI S r0 6 34))).toNat 0) fun S14 =>
      bd2 (f_X12_done_p4_0 S14 r0 x2) fun v17 S16 =>
      some (v17, S16))
    else
      (ckI ((35 + x3) + 1) 363 <|
      ckI (35 + x3) 363 <|
      lt1 (wI S r0 6 (wr (35 + x3)).toNat (gI S r0 6 (wr ((35 + x3) + 1)).toNat)) fun S20 =>
      (f_X12_removeRule_p4_0_b46 r0 fuel) S20 x2 (x3 + 1))
def f_X12_removeRule_p4_0 (S : xSt) (r0 : Nat) (a1 : Int) : Option (Int × xSt) :=
  bd2 (f_X12_isRule_p4_0 S r0 a1) fun v3 S2 =>
  bd2 (f_X12_is_p4_0 S2 r0 v3) fun v7 S6 =>
  if ¬ wr v7 = 0 then
    (bd (f_X12_starts_p4_0 S6 r0) fun S10 =>
    ckI (35 + a1) 363 <|
    lt1 (wI S10 r0 6 34 ((gI S10 r0 6 34) - 1)) fun S12 =>
    f_X12_removeRule_p4_0_b46 r0 (fu S12) S12 (gI S10 r0 6 (wr (35 + a1)).toNat) a1)
  else
    (some (0, S6))
set_option maxRecDepth 100000 in
set_option maxHeartbeats 4000000 in
theorem k_X12_removeRule_p4_0_b46 {K : xCtx} {E : xE} {b : Nat} (hC : xOK K cX12_removeRule RX12 4 (rmE 3 b)) (hZ : xZ K) {v : Int} {S' : xSt} (hE : xEnd K E (some .int) (YQi E v S')) {r0 : Nat} (hk0 : xkd E r0 = 4) : ∀ (fuel : Nat) (S : xSt) (x2 : Int) (x3 : Int), f_X12_removeRule_p4_0_b46 r0 fuel S x2 x3 = some (v, S') → WG K E 46 [(0, vr E r0 0), (2, vi x2), (3, vi x3)] [] S := by
  intro fuel
  induction fuel with
  | zero => intro S x2 x3 h; cases h
  | succ fuel ih =>
    intro S x2 x3 h
    rw [f_X12_removeRule_p4_0_b46] at h
    refine g_iload_n hC rfl 2 rfl (rfl : 46 + 1 = 47) (xdt tt_X12_removeRule 29 rfl) ?_
    refine g_aload_n hC rfl 0 rfl (rfl : 47 + 1 = 48) (xdt tt_X12_removeRule 30 rfl) ?_
    refine g_getP hC hk0 kclX12 ly4_0 10 (by decide) (rfl : r0 + 0 = r0) rfl q201 (rfl : 48 + 3 = 51) (xdt tt_X12_removeRule 31 rfl) ?_
    refine g_bipush hC (by decide) (rfl : 51 + 2 = 53) (xdt tt_X12_removeRule 32 rfl) ?_
    refine g_iald hC hk0 ly4_6 (by decide) (rfl : 53 + 1 = 54) (xdt tt_X12_removeRule 33 rfl) (k0 := 34) (by decide) ?_
    refine g_icmp_ge hC (show ((54 : Nat) : Int) + 29 = ((83 : Nat) : Int) by decide) (rfl : 54 + 3 = 57) (xdt tt_X12_removeRule 34 rfl) (fun hc21 => ?_) (fun hc21 => ?_)
    · replace h := (if_pos hc21).symm.trans h
      refine g_aload_n hC rfl 0 rfl (rfl : 83 + 1 = 84) (xdt tt_X12_removeRule 51 rfl) ?_
      refine g_getP hC hk0 kclX12 ly4_0 10 (by decide) (rfl : r0 + 0 = r0) rfl q201 (rfl : 84 + 3 = 87) (xdt tt_X12_removeRule 52 rfl) ?_
      refine g_bipush hC (by decide) (rfl : 87 + 2 = 89) (xdt tt_X12_removeRule 53 rfl) ?_
      refine g_aload_n hC rfl 0 rfl (rfl : 89 + 1 = 90) (xdt tt_X12_removeRule 54 rfl) ?_
      refine g_getP hC hk0 kclX12 ly4_0 10 (by decide) (rfl : r0 + 0 = r0) rfl q201 (rfl : 90 + 3 = 93) (xdt tt_X12_removeRule 55 rfl) ?_
      refine g_bipush hC (by decide) (rfl : 93 + 2 = 95) (xdt tt_X12_removeRule 56 rfl) ?_
      refine g_iald hC hk0 ly4_6 (by decide) (rfl : 95 + 1 = 96) (xdt tt_X12_removeRule 57 rfl) (k0 := 34) (by decide) ?_
      refine g_iadd hC (rfl : 96 + 1 = 97) (xdt tt_X12_removeRule 58 rfl) ?_
      refine g_iconst hC (rfl : 97 + 1 = 98) (xdt tt_X12_removeRule 59 rfl) ?_
      obtain ⟨hi13, h⟩ := ckI_i h
      obtain ⟨S14, hS14, h⟩ := lt1_i h
      refine g_iast hC hk0 ly4_6 hi13 rfl hS14 (rfl : 98 + 1 = 99) (xdt tt_X12_removeRule 60 rfl) ?_
      refine g_aload_n hC rfl 0 rfl (rfl : 99 + 1 = 100) (xdt tt_X12_removeRule 61 rfl) ?_
      refine g_iload_n hC rfl 1 rfl (rfl : 100 + 1 = 101) (xdt tt_X12_removeRule 62 rfl) ?_
      obtain ⟨v17, S16, hc15, h⟩ := bd2_i h
      refine g_callVi hC hZ hk0 kclX12 ly4_0 m_X12_done q1230 (Nat.le_of_ble_eq_true rfl) [vi x2] rfl (fun l => c_X12_done_p4_0 l hk0 hc15) rfl (Nat.le_of_ble_eq_true rfl) (rfl : 101 + 3 = 104) (xdt tt_X12_removeRule 63 rfl) ?_
      cases h
      exact g_iret hC hE (xdt tt_X12_removeRule 64 rfl)
    · replace h := (if_neg hc21).symm.trans h
      refine g_aload_n hC rfl 0 rfl (rfl : 57 + 1 = 58) (xdt tt_X12_removeRule 35 rfl) ?_
      refine g_getP hC hk0 kclX12 ly4_0 10 (by decide) (rfl : r0 + 0 = r0) rfl q201 (rfl : 58 + 3 = 61) (xdt tt_X12_removeRule 36 rfl) ?_
      refine g_bipush hC (by decide) (rfl : 61 + 2 = 63) (xdt tt_X12_removeRule 37 rfl) ?_
      refine g_iload_n hC rfl 2 rfl (rfl : 63 + 1 = 64) (xdt tt_X12_removeRule 38 rfl) ?_
      refine g_iadd hC (rfl : 64 + 1 = 65) (xdt tt_X12_removeRule 39 rfl) ?_
      refine g_aload_n hC rfl 0 rfl (rfl : 65 + 1 = 66) (xdt tt_X12_removeRule 40 rfl) ?_
      refine g_getP hC hk0 kclX12 ly4_0 10 (by decide) (rfl : r0 + 0 = r0) rfl q201 (rfl : 66 + 3 = 69) (xdt tt_X12_removeRule 41 rfl) ?_
      refine g_bipush hC (by decide) (rfl : 69 + 2 = 71) (xdt tt_X12_removeRule 42 rfl) ?_
      refine g_iload_n hC rfl 2 rfl (rfl : 71 + 1 = 72) (xdt tt_X12_removeRule 43 rfl) ?_
      refine g_iadd hC (rfl : 72 + 1 = 73) (xdt tt_X12_removeRule 44 rfl) ?_
      refine g_iconst hC (rfl : 73 + 1 = 74) (xdt tt_X12_removeRule 45 rfl) ?_
      refine g_iadd hC (rfl : 74 + 1 = 75) (xdt tt_X12_removeRule 46 rfl) ?_
      obtain ⟨hi18, h⟩ := ckI_i h
      refine g_iald hC hk0 ly4_6 hi18 (rfl : 75 + 1 = 76) (xdt tt_X12_removeRule 47 rfl) (k0 := (wr ((35 + x3) + 1)).toNat) rfl ?_
      obtain ⟨hi19, h⟩ := ckI_i h
      obtain ⟨S20, hS20, h⟩ := lt1_i h
      refine g_iast hC hk0 ly4_6 hi19 rfl hS20 (rfl : 76 + 1 = 77) (xdt tt_X12_removeRule 48 rfl) ?_
      refine g_iinc hC 2 rfl (by decide) (lv' := [(3, vi (x3 + 1)), (0, vr E r0 0), (2, vi x2)]) rfl (rfl : 77 + 3 = 80) (xdt tt_X12_removeRule 49 rfl) ?_
      refine g_goto hC (show ((80 : Nat) : Int) + (-34) = ((46 : Nat) : Int) by decide) (xdt tt_X12_removeRule 50 rfl) ?_
      refine g_sub [1, 2, 0] (lv' := [(0, vr E r0 0), (2, vi x2), (3, vi (x3 + 1))]) rfl ?_
      exact ih _ _ _ h
set_option maxRecDepth 100000 in
set_option maxHeartbeats 4000000 in
theorem c_X12_removeRule_p4_0 (l : Launch) {E : xE} {S S' : xSt} {r0 : Nat} {a1 : Int} (hk0 : xkd E r0 = 4) {v : Int} (h : f_X12_removeRule_p4_0 S r0 a1 = some (v, S')) : Met l yX12_removeRule (xws yX12_removeRule cX12_removeRule 4 (some .int)) (rmD 3) (YPc E [vr E r0 0, vi a1] S) (YQi E v S') 0 0 (xA E) := by
  unfold f_X12_removeRule_p4_0 at h
  refine met_i (by decide +kernel) (Nat.le_of_ble_eq_true rfl) (fun K hC hZ hE => ?_)
  have hC : xOK K cX12_removeRule RX12 4 (rmE 3 0) := hC
  show WG K E 0 [(0, vr E r0 0), (1, vi a1)] [] S
  refine g_aload_n hC rfl 0 rfl (rfl : 0 + 1 = 1) (xdt tt_X12_removeRule 0 rfl) ?_
  refine g_aload_n hC rfl 0 rfl (rfl : 1 + 1 = 2) (xdt tt_X12_removeRule 1 rfl) ?_
  refine g_iload_n hC rfl 1 rfl (rfl : 2 + 1 = 3) (xdt tt_X12_removeRule 2 rfl) ?_
  obtain ⟨v3, S2, hc1, h⟩ := bd2_i h
  refine g_callVz hC hZ hk0 kclX12 ly4_0 m_X12_isRule q807 (Nat.le_of_ble_eq_true rfl) [vi a1] rfl (fun l => c_X12_isRule_p4_0 l hk0 hc1) rfl (Nat.le_of_ble_eq_true rfl) (rfl : 3 + 3 = 6) (xdt tt_X12_removeRule 3 rfl) (fun hb4 => ?_)
  obtain ⟨v7, S6, hc5, h⟩ := bd2_i h
  refine g_callVz hC hZ hk0 kclX12 ly4_0 m_X12_is q655 (Nat.le_of_ble_eq_true rfl) [vi v3] rfl (fun l => c_X12_is_p4_0 l hk0 hc5) rfl (Nat.le_of_ble_eq_true rfl) (rfl : 6 + 3 = 9) (xdt tt_X12_removeRule 4 rfl) (fun hb8 => ?_)
  refine g_if_ne hC (show ((9 : Nat) : Int) + 5 = ((14 : Nat) : Int) by decide) (rfl : 9 + 3 = 12) (xdt tt_X12_removeRule 5 rfl) (fun hc22 => ?_) (fun hc22 => ?_)
  · replace h := (if_pos hc22).symm.trans h
    refine g_aload_n hC rfl 0 rfl (rfl : 14 + 1 = 15) (xdt tt_X12_removeRule 8 rfl) ?_
    obtain ⟨S10, hc9, h⟩ := bd_i h
    refine g_callVv hC hZ hk0 kclX12 ly4_0 m_X12_starts q1146 (Nat.le_of_ble_eq_true rfl) [] rfl (fun l => c_X12_starts_p4_0 l hk0 hc9) rfl (Nat.le_of_ble_eq_true rfl) (rfl : 15 + 3 = 18) (xdt tt_X12_removeRule 9 rfl) ?_
    refine g_aload_n hC rfl 0 rfl (rfl : 18 + 1 = 19) (xdt tt_X12_removeRule 10 rfl) ?_
    refine g_getP hC hk0 kclX12 ly4_0 10 (by decide) (rfl : r0 + 0 = r0) rfl q201 (rfl : 19 + 3 = 22) (xdt tt_X12_removeRule 11 rfl) ?_
    refine g_bipush hC (by decide) (rfl : 22 + 2 = 24) (xdt tt_X12_removeRule 12 rfl) ?_
    refine g_iload_n hC rfl 1 rfl (rfl : 24 + 1 = 25) (xdt tt_X12_removeRule 13 rfl) ?_
    refine g_iadd hC (rfl : 25 + 1 = 26) (xdt tt_X12_removeRule 14 rfl) ?_
    obtain ⟨hi11, h⟩ := ckI_i h
    refine g_iald hC hk0 ly4_6 hi11 (rfl : 26 + 1 = 27) (xdt tt_X12_removeRule 15 rfl) (k0 := (wr (35 + a1)).toNat) rfl ?_
    refine g_istore_n hC rfl (by decide) (lv' := [(2, vi (gI S10 r0 6 (wr (35 + a1)).toNat)), (0, vr E r0 0), (1, vi a1)]) rfl (rfl : 27 + 1 = 28) (xdt tt_X12_removeRule 16 rfl) ?_
    refine g_aload_n hC rfl 1 rfl (rfl : 28 + 1 = 29) (xdt tt_X12_removeRule 17 rfl) ?_
    refine g_getP hC hk0 kclX12 ly4_0 10 (by decide) (rfl : r0 + 0 = r0) rfl q201 (rfl : 29 + 3 = 32) (xdt tt_X12_removeRule 18 rfl) ?_
    refine g_bipush hC (by decide) (rfl : 32 + 2 = 34) (xdt tt_X12_removeRule 19 rfl) ?_
    refine g_aload_n hC rfl 1 rfl (rfl : 34 + 1 = 35) (xdt tt_X12_removeRule 20 rfl) ?_
    refine g_getP hC hk0 kclX12 ly4_0 10 (by decide) (rfl : r0 + 0 = r0) rfl q201 (rfl : 35 + 3 = 38) (xdt tt_X12_removeRule 21 rfl) ?_
    refine g_bipush hC (by decide) (rfl : 38 + 2 = 40) (xdt tt_X12_removeRule 22 rfl) ?_
    refine g_iald hC hk0 ly4_6 (by decide) (rfl : 40 + 1 = 41) (xdt tt_X12_removeRule 23 rfl) (k0 := 34) (by decide) ?_
    refine g_iconst hC (rfl : 41 + 1 = 42) (xdt tt_X12_removeRule 24 rfl) ?_
    refine g_isub hC (rfl : 42 + 1 = 43) (xdt tt_X12_removeRule 25 rfl) ?_
    obtain ⟨S12, hS12, h⟩ := lt1_i h
    refine g_iast hC hk0 ly4_6 (by decide) (by decide) hS12 (rfl : 43 + 1 = 44) (xdt tt_X12_removeRule 26 rfl) ?_
    refine g_iload_n hC rfl 2 rfl (rfl : 44 + 1 = 45) (xdt tt_X12_removeRule 27 rfl) ?_
    refine g_istore_n hC rfl (by decide) (lv' := [(3, vi a1), (2, vi (gI S10 r0 6 (wr (35 + a1)).toNat)), (0, vr E r0 0), (1, vi a1)]) rfl (rfl : 45 + 1 = 46) (xdt tt_X12_removeRule 28 rfl) ?_
    refine g_sub [2, 1, 0] (lv' := [(0, vr E r0 0), (2, vi (gI S10 r0 6 (wr (35 + a1)).toNat)), (3, vi a1)]) rfl ?_
    exact k_X12_removeRule_p4_0_b46 hC hZ hE hk0 _ _ _ _ h
  · replace h := (if_neg hc22).symm.trans h
    refine g_iconst hC (rfl : 12 + 1 = 13) (xdt tt_X12_removeRule 6 rfl) ?_
    cases h
    exact g_iret hC hE (xdt tt_X12_removeRule 7 rfl)
def f_X12_isNumber_p4_0 (S : xSt) (r0 : Nat) (a1 : Int) : Option (Int × xSt) :=
  bd2 (f_X12_isIn S (wr a1) 0 (wr ((gI S r0 0 1) - 1))) fun v3 S2 =>
  some (v3, S2)
set_option maxRecDepth 100000 in
set_option maxHeartbeats 4000000 in
theorem c_X12_isNumber_p4_0 (l : Launch) {E : xE} {S S' : xSt} {r0 : Nat} {a1 : Int} (hk0 : xkd E r0 = 4) {v : Int} (h : f_X12_isNumber_p4_0 S r0 a1 = some (v, S')) : Met l yX12_isNumber (xws yX12_isNumber cX12_isNumber 2 (some .boolean)) (rmD 2) (YPc E [vr E r0 0, vi a1] S) (YQz E v S') 0 0 (xA E) := by
  unfold f_X12_isNumber_p4_0 at h
  refine met_z (by decide +kernel) (Nat.le_of_ble_eq_true rfl) (fun K hC hZ hE => ?_)
  have hC : xOK K cX12_isNumber RX12 2 (rmE 2 0) := hC
  show WG K E 0 [(0, vr E r0 0), (1, vi a1)] [] S
  refine g_iload_n hC rfl 1 rfl (rfl : 0 + 1 = 1) (xdt tt_X12_isNumber 0 rfl) ?_
  refine g_i2l hC (rfl : 1 + 1 = 2) (xdt tt_X12_isNumber 1 rfl) ?_
  refine g_lconst hC (z := 0) (by decide) (rfl : 2 + 1 = 3) (xdt tt_X12_isNumber 2 rfl) ?_
  refine g_aload_n hC rfl 0 rfl (rfl : 3 + 1 = 4) (xdt tt_X12_isNumber 3 rfl) ?_
  refine g_getI hC hk0 kclX12 ly4_0 1 (by decide) rfl q228 (rfl : 4 + 3 = 7) (xdt tt_X12_isNumber 4 rfl) ?_
  refine g_iconst hC (rfl : 7 + 1 = 8) (xdt tt_X12_isNumber 5 rfl) ?_
  refine g_isub hC (rfl : 8 + 1 = 9) (xdt tt_X12_isNumber 6 rfl) ?_
  refine g_i2l hC (rfl : 9 + 1 = 10) (xdt tt_X12_isNumber 7 rfl) ?_
  obtain ⟨v3, S2, hc1, h⟩ := bd2_i h
  refine g_callSz hC hZ m_X12_isIn q269 (Nat.le_of_ble_eq_true rfl) [vl (wr a1), vl 0, vl (wr ((gI S r0 0 1) - 1))] rfl (fun l => c_X12_isIn l hc1) rfl (Nat.le_of_ble_eq_true rfl) (rfl : 10 + 3 = 13) (xdt tt_X12_isNumber 8 rfl) (fun hb4 => ?_)
  cases h
  exact g_zret hC hE hb4 (xdt tt_X12_isNumber 9 rfl)
def f_X12_redirect_p4_0 (S : xSt) (r0 : Nat) (a1 : Int) : Option (Int × xSt) :=
  bd2 (f_X12_isNumber_p4_0 S r0 a1) fun v3 S2 =>
  bd2 (f_X12_is_p4_0 S2 r0 v3) fun v7 S6 =>
  if ¬ wr v7 = 0 then
    (bd (f_X12_starts_p4_0 S6 r0) fun S10 =>
    bd (f_X12_empties_p4_0 S10 r0) fun S12 =>
    lt1 (wI S12 r0 6 11 0) fun S13 =>
    bd (f_X12_sets_p4_0 S13 r0 a1) fun S15 =>
    lt1 (wI S15 r0 6 8 4) fun S16 =>
    bd2 (f_X12_done_p4_0 S16 r0 (gI S10 r0 6 42)) fun v19 S18 =>
    some (v19, S18))
  else
    (some (0, S6))
set_option maxRecDepth 100000 in
set_option maxHeartbeats 4000000 in
theorem c_X12_redirect_p4_0 (l : Launch) {E : xE} {S S' : xSt} {r0 : Nat} {a1 : Int} (hk0 : xkd E r0 = 4) {v : Int} (h : f_X12_redirect_p4_0 S r0 a1 = some (v, S')) : Met l yX12_redirect (xws yX12_redirect cX12_redirect 3 (some .int)) (rmD 3) (YPc E [vr E r0 0, vi a1] S) (YQi E v S') 0 0 (xA E) := by
  unfold f_X12_redirect_p4_0 at h
  refine met_i (by decide +kernel) (Nat.le_of_ble_eq_true rfl) (fun K hC hZ hE => ?_)
  have hC : xOK K cX12_redirect RX12 3 (rmE 3 0) := hC
  show WG K E 0 [(0, vr E r0 0), (1, vi a1)] [] S
  refine g_aload_n hC rfl 0 rfl (rfl : 0 + 1 = 1) (xdt tt_X12_redirect 0 rfl) ?_
  refine g_aload_n hC rfl 0 rfl (rfl : 1 + 1 = 2) (xdt tt_X12_redirect 1 rfl) ?_
  refine g_iload_n hC rfl 1 rfl (rfl : 2 + 1 = 3) (xdt tt_X12_redirect 2 rfl) ?_
  obtain ⟨v3, S2, hc1, h⟩ := bd2_i h
  refine g_callVz hC hZ hk0 kclX12 ly4_0 m_X12_isNumber q651 (Nat.le_of_ble_eq_true rfl) [vi a1] rfl (fun l => c_X12_isNumber_p4_0 l hk0 hc1) rfl (Nat.le_of_ble_eq_true rfl) (rfl : 3 + 3 = 6) (xdt tt_X12_redirect 3 rfl) (fun hb4 => ?_)
  obtain ⟨v7, S6, hc5, h⟩ := bd2_i h
  refine g_callVz hC hZ hk0 kclX12 ly4_0 m_X12_is q655 (Nat.le_of_ble_eq_true rfl) [vi v3] rfl (fun l => c_X12_is_p4_0 l hk0 hc5) rfl (Nat.le_of_ble_eq_true rfl) (rfl : 6 + 3 = 9) (xdt tt_X12_redirect 4 rfl) (fun hb8 => ?_)
  refine g_if_ne hC (show ((9 : Nat) : Int) + 5 = ((14 : Nat) : Int) by decide) (rfl : 9 + 3 = 12) (xdt tt_X12_redirect 5 rfl) (fun hc20 => ?_) (fun hc20 => ?_)
  · replace h := (if_pos hc20).symm.trans h
    refine g_aload_n hC rfl 0 rfl (rfl : 14 + 1 = 15) (xdt tt_X12_redirect 8 rfl) ?_
    obtain ⟨S10, hc9, h⟩ := bd_i h
    refine g_callVv hC hZ hk0 kclX12 ly4_0 m_X12_starts q1146 (Nat.le_of_ble_eq_true rfl) [] rfl (fun l => c_X12_starts_p4_0 l hk0 hc9) rfl (Nat.le_of_ble_eq_true rfl) (rfl : 15 + 3 = 18) (xdt tt_X12_redirect 9 rfl) ?_
    refine g_aload_n hC rfl 0 rfl (rfl : 18 + 1 = 19) (xdt tt_X12_redirect 10 rfl) ?_
    refine g_getP hC hk0 kclX12 ly4_0 10 (by decide) (rfl : r0 + 0 = r0) rfl q201 (rfl : 19 + 3 = 22) (xdt tt_X12_redirect 11 rfl) ?_
    refine g_bipush hC (by decide) (rfl : 22 + 2 = 24) (xdt tt_X12_redirect 12 rfl) ?_
    refine g_iald hC hk0 ly4_6 (by decide) (rfl : 24 + 1 = 25) (xdt tt_X12_redirect 13 rfl) (k0 := 42) (by decide) ?_
    refine g_istore_n hC rfl (by decide) (lv' := [(2, vi (gI S10 r0 6 42)), (0, vr E r0 0), (1, vi a1)]) rfl (rfl : 25 + 1 = 26) (xdt tt_X12_redirect 14 rfl) ?_
    refine g_aload_n hC rfl 1 rfl (rfl : 26 + 1 = 27) (xdt tt_X12_redirect 15 rfl) ?_
    obtain ⟨S12, hc11, h⟩ := bd_i h
    refine g_callVv hC hZ hk0 kclX12 ly4_0 m_X12_empties q1214 (Nat.le_of_ble_eq_true rfl) [] rfl (fun l => c_X12_empties_p4_0 l hk0 hc11) rfl (Nat.le_of_ble_eq_true rfl) (rfl : 27 + 3 = 30) (xdt tt_X12_redirect 16 rfl) ?_
    refine g_aload_n hC rfl 1 rfl (rfl : 30 + 1 = 31) (xdt tt_X12_redirect 17 rfl) ?_
    refine g_getP hC hk0 kclX12 ly4_0 10 (by decide) (rfl : r0 + 0 = r0) rfl q201 (rfl : 31 + 3 = 34) (xdt tt_X12_redirect 18 rfl) ?_
    refine g_bipush hC (by decide) (rfl : 34 + 2 = 36) (xdt tt_X12_redirect 19 rfl) ?_
    refine g_iconst hC (rfl : 36 + 1 = 37) (xdt tt_X12_redirect 20 rfl) ?_
    obtain ⟨S13, hS13, h⟩ := lt1_i h
    refine g_iast hC hk0 ly4_6 (by decide) (by decide) hS13 (rfl : 37 + 1 = 38) (xdt tt_X12_redirect 21 rfl) ?_
    refine g_aload_n hC rfl 1 rfl (rfl : 38 + 1 = 39) (xdt tt_X12_redirect 22 rfl) ?_
    refine g_iload_n hC rfl 2 rfl (rfl : 39 + 1 = 40) (xdt tt_X12_redirect 23 rfl) ?_
    obtain ⟨S15, hc14, h⟩ := bd_i h
    refine g_callVv hC hZ hk0 kclX12 ly4_0 m_X12_sets q1206 (Nat.le_of_ble_eq_true rfl) [vi a1] rfl (fun l => c_X12_sets_p4_0 l hk0 hc14) rfl (Nat.le_of_ble_eq_true rfl) (rfl : 40 + 3 = 43) (xdt tt_X12_redirect 24 rfl) ?_
    refine g_aload_n hC rfl 1 rfl (rfl : 43 + 1 = 44) (xdt tt_X12_redirect 25 rfl) ?_
    refine g_getP hC hk0 kclX12 ly4_0 10 (by decide) (rfl : r0 + 0 = r0) rfl q201 (rfl : 44 + 3 = 47) (xdt tt_X12_redirect 26 rfl) ?_
    refine g_bipush hC (by decide) (rfl : 47 + 2 = 49) (xdt tt_X12_redirect 27 rfl) ?_
    refine g_iconst hC (rfl : 49 + 1 = 50) (xdt tt_X12_redirect 28 rfl) ?_
    obtain ⟨S16, hS16, h⟩ := lt1_i h
    refine g_iast hC hk0 ly4_6 (by decide) (by decide) hS16 (rfl : 50 + 1 = 51) (xdt tt_X12_redirect 29 rfl) ?_
    refine g_aload_n hC rfl 1 rfl (rfl : 51 + 1 = 52) (xdt tt_X12_redirect 30 rfl) ?_
    refine g_iload_n hC rfl 0 rfl (rfl : 52 + 1 = 53) (xdt tt_X12_redirect 31 rfl) ?_
    obtain ⟨v19, S18, hc17, h⟩ := bd2_i h
    refine g_callVi hC hZ hk0 kclX12 ly4_0 m_X12_done q1230 (Nat.le_of_ble_eq_true rfl) [vi (gI S10 r0 6 42)] rfl (fun l => c_X12_done_p4_0 l hk0 hc17) rfl (Nat.le_of_ble_eq_true rfl) (rfl : 53 + 3 = 56) (xdt tt_X12_redirect 32 rfl) ?_
    cases h
    exact g_iret hC hE (xdt tt_X12_redirect 33 rfl)
  · replace h := (if_neg hc20).symm.trans h
    refine g_iconst hC (rfl : 12 + 1 = 13) (xdt tt_X12_redirect 6 rfl) ?_
    cases h
    exact g_iret hC hE (xdt tt_X12_redirect 7 rfl)
def f_X12_cyclesTo_p4_0 (S : xSt) (r0 : Nat) (a1 : Int) : Option (Int × xSt) :=
  bd2 (f_X12_isIn S (wr a1) 1 999) fun v3 S2 =>
  bd2 (f_X12_is_p4_0 S2 r0 v3) fun v7 S6 =>
  if ¬ wr v7 = 0 then
    (bd (f_X12_tries_p4_0 S6 r0) fun S10 =>
    bd2 (f_X12_runsTo_p4_0 S10 r0 ((gI S10 r0 6 17) + a1)) fun v13 S12 =>
    if wr (gI S12 r0 6 17) < wr ((gI S10 r0 6 17) + a1) then
      (bd2 (f_X12_laysBack_p4_0 S12 r0 (-1)) fun v16 S15 =>
      some (v16, S15))
    else
      (bd2 (f_X12_laysBack_p4_0 S12 r0 v13) fun v19 S18 =>
      some (v19, S18)))
  else
    (some (0, S6))
set_option maxRecDepth 100000 in
set_option maxHeartbeats 4000000 in
theorem c_X12_cyclesTo_p4_0 (l : Launch) {E : xE} {S S' : xSt} {r0 : Nat} {a1 : Int} (hk0 : xkd E r0 = 4) {v : Int} (h : f_X12_cyclesTo_p4_0 S r0 a1 = some (v, S')) : Met l yX12_cyclesTo (xws yX12_cyclesTo cX12_cyclesTo 4 (some .int)) (rmD 9) (YPc E [vr E r0 0, vi a1] S) (YQi E v S') 0 0 (xA E) := by
  unfold f_X12_cyclesTo_p4_0 at h
  refine met_i (by decide +kernel) (Nat.le_of_ble_eq_true rfl) (fun K hC hZ hE => ?_)
  have hC : xOK K cX12_cyclesTo RX12 4 (rmE 9 0) := hC
  show WG K E 0 [(0, vr E r0 0), (1, vi a1)] [] S
  refine g_aload_n hC rfl 0 rfl (rfl : 0 + 1 = 1) (xdt tt_X12_cyclesTo 0 rfl) ?_
  refine g_iload_n hC rfl 1 rfl (rfl : 1 + 1 = 2) (xdt tt_X12_cyclesTo 1 rfl) ?_
  refine g_i2l hC (rfl : 2 + 1 = 3) (xdt tt_X12_cyclesTo 2 rfl) ?_
  refine g_lconst hC (z := 1) (by decide) (rfl : 3 + 1 = 4) (xdt tt_X12_cyclesTo 3 rfl) ?_
  refine g_ldc2 hC (z := 999) q1362 (rfl : 4 + 3 = 7) (xdt tt_X12_cyclesTo 4 rfl) ?_
  obtain ⟨v3, S2, hc1, h⟩ := bd2_i h
  refine g_callSz hC hZ m_X12_isIn q269 (Nat.le_of_ble_eq_true rfl) [vl (wr a1), vl 1, vl 999] rfl (fun l => c_X12_isIn l hc1) rfl (Nat.le_of_ble_eq_true rfl) (rfl : 7 + 3 = 10) (xdt tt_X12_cyclesTo 5 rfl) (fun hb4 => ?_)
  obtain ⟨v7, S6, hc5, h⟩ := bd2_i h
  refine g_callVz hC hZ hk0 kclX12 ly4_0 m_X12_is q655 (Nat.le_of_ble_eq_true rfl) [vi v3] rfl (fun l => c_X12_is_p4_0 l hk0 hc5) rfl (Nat.le_of_ble_eq_true rfl) (rfl : 10 + 3 = 13) (xdt tt_X12_cyclesTo 6 rfl) (fun hb8 => ?_)
  refine g_if_ne hC (show ((13 : Nat) : Int) + 5 = ((18 : Nat) : Int) by decide) (rfl : 13 + 3 = 16) (xdt tt_X12_cyclesTo 7 rfl) (fun hc21 => ?_) (fun hc21 => ?_)
  · replace h := (if_pos hc21).symm.trans h
    refine g_aload_n hC rfl 0 rfl (rfl : 18 + 1 = 19) (xdt tt_X12_cyclesTo 10 rfl) ?_
    obtain ⟨S10, hc9, h⟩ := bd_i h
    refine g_callVv hC hZ hk0 kclX12 ly4_0 m_X12_tries q1363 (Nat.le_of_ble_eq_true rfl) [] rfl (fun l => c_X12_tries_p4_0 l hk0 hc9) rfl (Nat.le_of_ble_eq_true rfl) (rfl : 19 + 3 = 22) (xdt tt_X12_cyclesTo 11 rfl) ?_
    refine g_aload_n hC rfl 0 rfl (rfl : 22 + 1 = 23) (xdt tt_X12_cyclesTo 12 rfl) ?_
    refine g_getP hC hk0 kclX12 ly4_0 10 (by decide) (rfl : r0 + 0 = r0) rfl q201 (rfl : 23 + 3 = 26) (xdt tt_X12_cyclesTo 13 rfl) ?_
    refine g_bipush hC (by decide) (rfl : 26 + 2 = 28) (xdt tt_X12_cyclesTo 14 rfl) ?_
    refine g_iald hC hk0 ly4_6 (by decide) (rfl : 28 + 1 = 29) (xdt tt_X12_cyclesTo 15 rfl) (k0 := 17) (by decide) ?_
    refine g_iload_n hC rfl 1 rfl (rfl : 29 + 1 = 30) (xdt tt_X12_cyclesTo 16 rfl) ?_
    refine g_iadd hC (rfl : 30 + 1 = 31) (xdt tt_X12_cyclesTo 17 rfl) ?_
    refine g_istore_n hC rfl (by decide) (lv' := [(2, vi ((gI S10 r0 6 17) + a1)), (0, vr E r0 0), (1, vi a1)]) rfl (rfl : 31 + 1 = 32) (xdt tt_X12_cyclesTo 18 rfl) ?_
    refine g_aload_n hC rfl 1 rfl (rfl : 32 + 1 = 33) (xdt tt_X12_cyclesTo 19 rfl) ?_
    refine g_iload_n hC rfl 0 rfl (rfl : 33 + 1 = 34) (xdt tt_X12_cyclesTo 20 rfl) ?_
    obtain ⟨v13, S12, hc11, h⟩ := bd2_i h
    refine g_callVi hC hZ hk0 kclX12 ly4_0 m_X12_runsTo q1246 (Nat.le_of_ble_eq_true rfl) [vi ((gI S10 r0 6 17) + a1)] rfl (fun l => c_X12_runsTo_p4_0 l hk0 hc11) rfl (Nat.le_of_ble_eq_true rfl) (rfl : 34 + 3 = 37) (xdt tt_X12_cyclesTo 21 rfl) ?_
    refine g_istore_n hC rfl (by decide) (lv' := [(3, vi v13), (2, vi ((gI S10 r0 6 17) + a1)), (0, vr E r0 0), (1, vi a1)]) rfl (rfl : 37 + 1 = 38) (xdt tt_X12_cyclesTo 22 rfl) ?_
    refine g_aload_n hC rfl 2 rfl (rfl : 38 + 1 = 39) (xdt tt_X12_cyclesTo 23 rfl) ?_
    refine g_aload_n hC rfl 2 rfl (rfl : 39 + 1 = 40) (xdt tt_X12_cyclesTo 24 rfl) ?_
    refine g_getP hC hk0 kclX12 ly4_0 10 (by decide) (rfl : r0 + 0 = r0) rfl q201 (rfl : 40 + 3 = 43) (xdt tt_X12_cyclesTo 25 rfl) ?_
    refine g_bipush hC (by decide) (rfl : 43 + 2 = 45) (xdt tt_X12_cyclesTo 26 rfl) ?_
    refine g_iald hC hk0 ly4_6 (by decide) (rfl : 45 + 1 = 46) (xdt tt_X12_cyclesTo 27 rfl) (k0 := 17) (by decide) ?_
    refine g_iload_n hC rfl 1 rfl (rfl : 46 + 1 = 47) (xdt tt_X12_cyclesTo 28 rfl) ?_
    refine g_icmp_lt hC (show ((47 : Nat) : Int) + 7 = ((54 : Nat) : Int) by decide) (rfl : 47 + 3 = 50) (xdt tt_X12_cyclesTo 29 rfl) (fun hc20 => ?_) (fun hc20 => ?_)
    · replace h := (if_pos hc20).symm.trans h
      refine g_iconst hC (rfl : 54 + 1 = 55) (xdt tt_X12_cyclesTo 32 rfl) ?_
      obtain ⟨v16, S15, hc14, h⟩ := bd2_i h
      refine g_callVi hC hZ hk0 kclX12 ly4_0 m_X12_laysBack q1367 (Nat.le_of_ble_eq_true rfl) [vi (-1)] rfl (fun l => c_X12_laysBack_p4_0 l hk0 hc14) rfl (Nat.le_of_ble_eq_true rfl) (rfl : 55 + 3 = 58) (xdt tt_X12_cyclesTo 33 rfl) ?_
      cases h
      exact g_iret hC hE (xdt tt_X12_cyclesTo 34 rfl)
    · replace h := (if_neg hc20).symm.trans h
      refine g_iload_n hC rfl 0 rfl (rfl : 50 + 1 = 51) (xdt tt_X12_cyclesTo 30 rfl) ?_
      refine g_goto hC (show ((51 : Nat) : Int) + 4 = ((55 : Nat) : Int) by decide) (xdt tt_X12_cyclesTo 31 rfl) ?_
      obtain ⟨v19, S18, hc17, h⟩ := bd2_i h
      refine g_callVi hC hZ hk0 kclX12 ly4_0 m_X12_laysBack q1367 (Nat.le_of_ble_eq_true rfl) [vi v13] rfl (fun l => c_X12_laysBack_p4_0 l hk0 hc17) rfl (Nat.le_of_ble_eq_true rfl) (rfl : 55 + 3 = 58) (xdt tt_X12_cyclesTo 33 rfl) ?_
      cases h
      exact g_iret hC hE (xdt tt_X12_cyclesTo 34 rfl)
  · replace h := (if_neg hc21).symm.trans h
    refine g_iconst hC (rfl : 16 + 1 = 17) (xdt tt_X12_cyclesTo 8 rfl) ?_
    cases h
    exact g_iret hC hE (xdt tt_X12_cyclesTo 9 rfl)
def f_X12_bubblesWithin_p4_0_b17 (r0 : Nat) : Nat → xSt → Int → Int → Int → Int → Option (Int × xSt)
  | 0, _, _, _, _, _ => none
  | fuel + 1, S, x1, x2, x3, x4 =>
    if wr x1 ≤ wr x4 then
      (ckI (25 + x2) 363 <|
      bd2 (f_X12_laysBack_p4_0 S r0 ((gI S r0 6 (wr (25 + x2)).toNat) - x3)) fun v7 S6 =>
      some (v7, S6))
    else
      (bd (f_X12_cycles_p4_0 S r0) fun S9 =>
      (f_X12_bubblesWithin_p4_0_b17 r0 fuel) S9 x1 x2 x3 (x4 + 1))
def f_X12_bubblesWithin_p4_0 (S : xSt) (r0 : Nat) (a1 : Int) (a2 : Int) : Option (Int × xSt) :=
  bd (f_X12_tries_p4_0 S r0) fun S2 =>
  ckI (25 + a2) 363 <|
  f_X12_bubblesWithin_p4_0_b17 r0 (fu S2) S2 a1 a2 (gI S2 r0 6 (wr (25 + a2)).toNat) 0
set_option maxRecDepth 100000 in
set_option maxHeartbeats 4000000 in
theorem k_X12_bubblesWithin_p4_0_b17 {K : xCtx} {E : xE} {b : Nat} (hC : xOK K cX12_bubblesWithin RX12 5 (rmE 8 b)) (hZ : xZ K) {v : Int} {S' : xSt} (hE : xEnd K E (some .int) (YQi E v S')) {r0 : Nat} (hk0 : xkd E r0 = 4) : ∀ (fuel : Nat) (S : xSt) (x1 : Int) (x2 : Int) (x3 : Int) (x4 : Int), f_X12_bubblesWithin_p4_0_b17 r0 fuel S x1 x2 x3 x4 = some (v, S') → WG K E 17 [(0, vr E r0 0), (1, vi x1), (2, vi x2), (3, vi x3), (4, vi x4)] [] S := by
  intro fuel
  induction fuel with
  | zero => intro S x1 x2 x3 x4 h; cases h
  | succ fuel ih =>
    intro S x1 x2 x3 x4 h
    rw [f_X12_bubblesWithin_p4_0_b17] at h
    refine g_iload hC 4 rfl (rfl : 17 + 2 = 19) (xdt tt_X12_bubblesWithin 11 rfl) ?_
    refine g_iload_n hC rfl 1 rfl (rfl : 19 + 1 = 20) (xdt tt_X12_bubblesWithin 12 rfl) ?_
    refine g_icmp_ge hC (show ((20 : Nat) : Int) + 13 = ((33 : Nat) : Int) by decide) (rfl : 20 + 3 = 23) (xdt tt_X12_bubblesWithin 13 rfl) (fun hc10 => ?_) (fun hc10 => ?_)
    · replace h := (if_pos hc10).symm.trans h
      refine g_aload_n hC rfl 0 rfl (rfl : 33 + 1 = 34) (xdt tt_X12_bubblesWithin 18 rfl) ?_
      refine g_aload_n hC rfl 0 rfl (rfl : 34 + 1 = 35) (xdt tt_X12_bubblesWithin 19 rfl) ?_
      refine g_getP hC hk0 kclX12 ly4_0 10 (by decide) (rfl : r0 + 0 = r0) rfl q201 (rfl : 35 + 3 = 38) (xdt tt_X12_bubblesWithin 20 rfl) ?_
      refine g_bipush hC (by decide) (rfl : 38 + 2 = 40) (xdt tt_X12_bubblesWithin 21 rfl) ?_
      refine g_iload_n hC rfl 2 rfl (rfl : 40 + 1 = 41) (xdt tt_X12_bubblesWithin 22 rfl) ?_
      refine g_iadd hC (rfl : 41 + 1 = 42) (xdt tt_X12_bubblesWithin 23 rfl) ?_
      obtain ⟨hi4, h⟩ := ckI_i h
      refine g_iald hC hk0 ly4_6 hi4 (rfl : 42 + 1 = 43) (xdt tt_X12_bubblesWithin 24 rfl) (k0 := (wr (25 + x2)).toNat) rfl ?_
      refine g_iload_n hC rfl 3 rfl (rfl : 43 + 1 = 44) (xdt tt_X12_bubblesWithin 25 rfl) ?_
      refine g_isub hC (rfl : 44 + 1 = 45) (xdt tt_X12_bubblesWithin 26 rfl) ?_
      obtain ⟨v7, S6, hc5, h⟩ := bd2_i h
      refine g_callVi hC hZ hk0 kclX12 ly4_0 m_X12_laysBack q1367 (Nat.le_of_ble_eq_true rfl) [vi ((gI S r0 6 (wr (25 + x2)).toNat) - x3)] rfl (fun l => c_X12_laysBack_p4_0 l hk0 hc5) rfl (Nat.le_of_ble_eq_true rfl) (rfl : 45 + 3 = 48) (xdt tt_X12_bubblesWithin 27 rfl) ?_
      cases h
      exact g_iret hC hE (xdt tt_X12_bubblesWithin 28 rfl)
    · replace h := (if_neg hc10).symm.trans h
      refine g_aload_n hC rfl 0 rfl (rfl : 23 + 1 = 24) (xdt tt_X12_bubblesWithin 14 rfl) ?_
      obtain ⟨S9, hc8, h⟩ := bd_i h
      refine g_callVv hC hZ hk0 kclX12 ly4_0 m_X12_cycles q1150 (Nat.le_of_ble_eq_true rfl) [] rfl (fun l => c_X12_cycles_p4_0 l hk0 hc8) rfl (Nat.le_of_ble_eq_true rfl) (rfl : 24 + 3 = 27) (xdt tt_X12_bubblesWithin 15 rfl) ?_
      refine g_iinc hC 4 rfl (by decide) (lv' := [(4, vi (x4 + 1)), (0, vr E r0 0), (1, vi x1), (2, vi x2), (3, vi x3)]) rfl (rfl : 27 + 3 = 30) (xdt tt_X12_bubblesWithin 16 rfl) ?_
      refine g_goto hC (show ((30 : Nat) : Int) + (-13) = ((17 : Nat) : Int) by decide) (xdt tt_X12_bubblesWithin 17 rfl) ?_
      refine g_sub [1, 2, 3, 4, 0] (lv' := [(0, vr E r0 0), (1, vi x1), (2, vi x2), (3, vi x3), (4, vi (x4 + 1))]) rfl ?_
      exact ih _ _ _ _ _ h
set_option maxRecDepth 100000 in
set_option maxHeartbeats 4000000 in
theorem c_X12_bubblesWithin_p4_0 (l : Launch) {E : xE} {S S' : xSt} {r0 : Nat} {a1 : Int} {a2 : Int} (hk0 : xkd E r0 = 4) {v : Int} (h : f_X12_bubblesWithin_p4_0 S r0 a1 a2 = some (v, S')) : Met l yX12_bubblesWithin (xws yX12_bubblesWithin cX12_bubblesWithin 5 (some .int)) (rmD 8) (YPc E [vr E r0 0, vi a1, vi a2] S) (YQi E v S') 0 0 (xA E) := by
  unfold f_X12_bubblesWithin_p4_0 at h
  refine met_i (by decide +kernel) (Nat.le_of_ble_eq_true rfl) (fun K hC hZ hE => ?_)
  have hC : xOK K cX12_bubblesWithin RX12 5 (rmE 8 0) := hC
  show WG K E 0 [(0, vr E r0 0), (1, vi a1), (2, vi a2)] [] S
  refine g_aload_n hC rfl 0 rfl (rfl : 0 + 1 = 1) (xdt tt_X12_bubblesWithin 0 rfl) ?_
  obtain ⟨S2, hc1, h⟩ := bd_i h
  refine g_callVv hC hZ hk0 kclX12 ly4_0 m_X12_tries q1363 (Nat.le_of_ble_eq_true rfl) [] rfl (fun l => c_X12_tries_p4_0 l hk0 hc1) rfl (Nat.le_of_ble_eq_true rfl) (rfl : 1 + 3 = 4) (xdt tt_X12_bubblesWithin 1 rfl) ?_
  refine g_aload_n hC rfl 0 rfl (rfl : 4 + 1 = 5) (xdt tt_X12_bubblesWithin 2 rfl) ?_
  refine g_getP hC hk0 kclX12 ly4_0 10 (by decide) (rfl : r0 + 0 = r0) rfl q201 (rfl : 5 + 3 = 8) (xdt tt_X12_bubblesWithin 3 rfl) ?_
  refine g_bipush hC (by decide) (rfl : 8 + 2 = 10) (xdt tt_X12_bubblesWithin 4 rfl) ?_
  refine g_iload_n hC rfl 2 rfl (rfl : 10 + 1 = 11) (xdt tt_X12_bubblesWithin 5 rfl) ?_
  refine g_iadd hC (rfl : 11 + 1 = 12) (xdt tt_X12_bubblesWithin 6 rfl) ?_
  obtain ⟨hi3, h⟩ := ckI_i h
  refine g_iald hC hk0 ly4_6 hi3 (rfl : 12 + 1 = 13) (xdt tt_X12_bubblesWithin 7 rfl) (k0 := (wr (25 + a2)).toNat) rfl ?_
  refine g_istore_n hC rfl (by decide) (lv' := [(3, vi (gI S2 r0 6 (wr (25 + a2)).toNat)), (0, vr E r0 0), (1, vi a1), (2, vi a2)]) rfl (rfl : 13 + 1 = 14) (xdt tt_X12_bubblesWithin 8 rfl) ?_
  refine g_iconst hC (rfl : 14 + 1 = 15) (xdt tt_X12_bubblesWithin 9 rfl) ?_
  refine g_istore hC (by decide) (lv' := [(4, vi 0), (3, vi (gI S2 r0 6 (wr (25 + a2)).toNat)), (0, vr E r0 0), (1, vi a1), (2, vi a2)]) rfl (rfl : 15 + 2 = 17) (xdt tt_X12_bubblesWithin 10 rfl) ?_
  refine g_sub [2, 3, 4, 1, 0] (lv' := [(0, vr E r0 0), (1, vi a1), (2, vi a2), (3, vi (gI S2 r0 6 (wr (25 + a2)).toNat)), (4, vi 0)]) rfl ?_
  exact k_X12_bubblesWithin_p4_0_b17 hC hZ hE hk0 _ _ _ _ _ _ h
def f_X12_isCause (S : xSt) (a0 : Int) : Option (Int × xSt) :=
  bd2 (f_X12_isIn S (wr a0) 1 8) fun v3 S2 =>
  some (v3, S2)
set_option maxRecDepth 100000 in
set_option maxHeartbeats 4000000 in
theorem c_X12_isCause (l : Launch) {E : xE} {S S' : xSt} {a0 : Int} {v : Int} (h : f_X12_isCause S a0 = some (v, S')) : Met l yX12_isCause (xws yX12_isCause cX12_isCause 1 (some .boolean)) (rmD 2) (YPc E [vi a0] S) (YQz E v S') 0 0 (xA E) := by
  unfold f_X12_isCause at h
  refine met_z (by decide +kernel) (Nat.le_of_ble_eq_true rfl) (fun K hC hZ hE => ?_)
  have hC : xOK K cX12_isCause RX12 1 (rmE 2 0) := hC
  show WG K E 0 [(0, vi a0)] [] S
  refine g_iload_n hC rfl 0 rfl (rfl : 0 + 1 = 1) (xdt tt_X12_isCause 0 rfl) ?_
  refine g_i2l hC (rfl : 1 + 1 = 2) (xdt tt_X12_isCause 1 rfl) ?_
  refine g_lconst hC (z := 1) (by decide) (rfl : 2 + 1 = 3) (xdt tt_X12_isCause 2 rfl) ?_
  refine g_ldc2 hC (z := 8) q872 (rfl : 3 + 3 = 6) (xdt tt_X12_isCause 3 rfl) ?_
  obtain ⟨v3, S2, hc1, h⟩ := bd2_i h
  refine g_callSz hC hZ m_X12_isIn q269 (Nat.le_of_ble_eq_true rfl) [vl (wr a0), vl 1, vl 8] rfl (fun l => c_X12_isIn l hc1) rfl (Nat.le_of_ble_eq_true rfl) (rfl : 6 + 3 = 9) (xdt tt_X12_isCause 4 rfl) (fun hb4 => ?_)
  cases h
  exact g_zret hC hE hb4 (xdt tt_X12_isCause 5 rfl)
def f_X12_nextBubbles_p4_0 (S : xSt) (r0 : Nat) (a1 : Int) : Option (Int × xSt) :=
  bd2 (f_X12_isCause S a1) fun v3 S2 =>
  bd2 (f_X12_is_p4_0 S2 r0 v3) fun v7 S6 =>
  if wr v7 = 0 then
    (some (0, S6))
  else
    (bd2 (f_X12_bubblesWithin_p4_0 S6 r0 1 a1) fun v11 S10 =>
    some (v11, S10))
set_option maxRecDepth 100000 in
set_option maxHeartbeats 4000000 in
theorem c_X12_nextBubbles_p4_0 (l : Launch) {E : xE} {S S' : xSt} {r0 : Nat} {a1 : Int} (hk0 : xkd E r0 = 4) {v : Int} (h : f_X12_nextBubbles_p4_0 S r0 a1 = some (v, S')) : Met l yX12_nextBubbles (xws yX12_nextBubbles cX12_nextBubbles 2 (some .int)) (rmD 9) (YPc E [vr E r0 0, vi a1] S) (YQi E v S') 0 0 (xA E) := by
  unfold f_X12_nextBubbles_p4_0 at h
  refine met_i (by decide +kernel) (Nat.le_of_ble_eq_true rfl) (fun K hC hZ hE => ?_)
  have hC : xOK K cX12_nextBubbles RX12 2 (rmE 9 0) := hC
  show WG K E 0 [(0, vr E r0 0), (1, vi a1)] [] S
  refine g_aload_n hC rfl 0 rfl (rfl : 0 + 1 = 1) (xdt tt_X12_nextBubbles 0 rfl) ?_
  refine g_iload_n hC rfl 1 rfl (rfl : 1 + 1 = 2) (xdt tt_X12_nextBubbles 1 rfl) ?_
  obtain ⟨v3, S2, hc1, h⟩ := bd2_i h
  refine g_callSz hC hZ m_X12_isCause q869 (Nat.le_of_ble_eq_true rfl) [vi a1] rfl (fun l => c_X12_isCause l hc1) rfl (Nat.le_of_ble_eq_true rfl) (rfl : 2 + 3 = 5) (xdt tt_X12_nextBubbles 2 rfl) (fun hb4 => ?_)
  obtain ⟨v7, S6, hc5, h⟩ := bd2_i h
  refine g_callVz hC hZ hk0 kclX12 ly4_0 m_X12_is q655 (Nat.le_of_ble_eq_true rfl) [vi v3] rfl (fun l => c_X12_is_p4_0 l hk0 hc5) rfl (Nat.le_of_ble_eq_true rfl) (rfl : 5 + 3 = 8) (xdt tt_X12_nextBubbles 3 rfl) (fun hb8 => ?_)
  refine g_if_eq hC (show ((8 : Nat) : Int) + 12 = ((20 : Nat) : Int) by decide) (rfl : 8 + 3 = 11) (xdt tt_X12_nextBubbles 4 rfl) (fun hc12 => ?_) (fun hc12 => ?_)
  · replace h := (if_pos hc12).symm.trans h
    refine g_iconst hC (rfl : 20 + 1 = 21) (xdt tt_X12_nextBubbles 10 rfl) ?_
    cases h
    exact g_iret hC hE (xdt tt_X12_nextBubbles 11 rfl)
  · replace h := (if_neg hc12).symm.trans h
    refine g_aload_n hC rfl 0 rfl (rfl : 11 + 1 = 12) (xdt tt_X12_nextBubbles 5 rfl) ?_
    refine g_iconst hC (rfl : 12 + 1 = 13) (xdt tt_X12_nextBubbles 6 rfl) ?_
    refine g_iload_n hC rfl 1 rfl (rfl : 13 + 1 = 14) (xdt tt_X12_nextBubbles 7 rfl) ?_
    obtain ⟨v11, S10, hc9, h⟩ := bd2_i h
    refine g_callVi hC hZ hk0 kclX12 ly4_0 m_X12_bubblesWithin q1382 (Nat.le_of_ble_eq_true rfl) [vi 1, vi a1] rfl (fun l => c_X12_bubblesWithin_p4_0 l hk0 hc9) rfl (Nat.le_of_ble_eq_true rfl) (rfl : 14 + 3 = 17) (xdt tt_X12_nextBubbles 8 rfl) ?_
    refine g_goto hC (show ((17 : Nat) : Int) + 4 = ((21 : Nat) : Int) by decide) (xdt tt_X12_nextBubbles 9 rfl) ?_
    cases h
    exact g_iret hC hE (xdt tt_X12_nextBubbles 11 rfl)
def f_X12_bubblesIn_p4_0_b20 (r0 : Nat) (S : xSt) (x1 : Int) (x2 : Int) (s0 : Int) : Option (Int × xSt) :=
  bd2 (f_X12_is_p4_0 S r0 s0) fun v7 S6 =>
  if wr v7 = 0 then
    (some (0, S6))
  else
    (bd2 (f_X12_bubblesWithin_p4_0 S6 r0 x1 x2) fun v11 S10 =>
    some (v11, S10))
def f_X12_bubblesIn_p4_0_b19 (r0 : Nat) (S : xSt) (x1 : Int) (x2 : Int) : Option (Int × xSt) :=
  f_X12_bubblesIn_p4_0_b20 r0 S x1 x2 0
def f_X12_bubblesIn_p4_0 (S : xSt) (r0 : Nat) (a1 : Int) (a2 : Int) : Option (Int × xSt) :=
  bd2 (f_X12_isCycles S a1) fun v3 S2 =>
  if wr v3 = 0 then
    (f_X12_bubblesIn_p4_0_b19 r0 S2 a1 a2)
  else
    (bd2 (f_X12_isCause S2 a2) fun v15 S14 =>
    if wr v15 = 0 then
      (f_X12_bubblesIn_p4_0_b19 r0 S14 a1 a2)
    else
      (f_X12_bubblesIn_p4_0_b20 r0 S14 a1 a2 1))
set_option maxRecDepth 100000 in
set_option maxHeartbeats 4000000 in
theorem k_X12_bubblesIn_p4_0_b20 {K : xCtx} {E : xE} {b : Nat} (hC : xOK K cX12_bubblesIn RX12 3 (rmE 9 b)) (hZ : xZ K) {v : Int} {S' : xSt} (hE : xEnd K E (some .int) (YQi E v S')) {r0 : Nat} (hk0 : xkd E r0 = 4) : ∀ (S : xSt) (x1 : Int) (x2 : Int) (s0 : Int), f_X12_bubblesIn_p4_0_b20 r0 S x1 x2 s0 = some (v, S') → WG K E 20 [(0, vr E r0 0), (1, vi x1), (2, vi x2)] [vi s0, vr E r0 0] S := by
  intro S x1 x2 s0 h
  unfold f_X12_bubblesIn_p4_0_b20 at h
  obtain ⟨v7, S6, hc5, h⟩ := bd2_i h
  refine g_callVz hC hZ hk0 kclX12 ly4_0 m_X12_is q655 (Nat.le_of_ble_eq_true rfl) [vi s0] rfl (fun l => c_X12_is_p4_0 l hk0 hc5) rfl (Nat.le_of_ble_eq_true rfl) (rfl : 20 + 3 = 23) (xdt tt_X12_bubblesIn 10 rfl) (fun hb8 => ?_)
  refine g_if_eq hC (show ((23 : Nat) : Int) + 12 = ((35 : Nat) : Int) by decide) (rfl : 23 + 3 = 26) (xdt tt_X12_bubblesIn 11 rfl) (fun hc12 => ?_) (fun hc12 => ?_)
  · replace h := (if_pos hc12).symm.trans h
    refine g_iconst hC (rfl : 35 + 1 = 36) (xdt tt_X12_bubblesIn 17 rfl) ?_
    cases h
    exact g_iret hC hE (xdt tt_X12_bubblesIn 18 rfl)
  · replace h := (if_neg hc12).symm.trans h
    refine g_aload_n hC rfl 0 rfl (rfl : 26 + 1 = 27) (xdt tt_X12_bubblesIn 12 rfl) ?_
    refine g_iload_n hC rfl 1 rfl (rfl : 27 + 1 = 28) (xdt tt_X12_bubblesIn 13 rfl) ?_
    refine g_iload_n hC rfl 2 rfl (rfl : 28 + 1 = 29) (xdt tt_X12_bubblesIn 14 rfl) ?_
    obtain ⟨v11, S10, hc9, h⟩ := bd2_i h
    refine g_callVi hC hZ hk0 kclX12 ly4_0 m_X12_bubblesWithin q1382 (Nat.le_of_ble_eq_true rfl) [vi x1, vi x2] rfl (fun l => c_X12_bubblesWithin_p4_0 l hk0 hc9) rfl (Nat.le_of_ble_eq_true rfl) (rfl : 29 + 3 = 32) (xdt tt_X12_bubblesIn 15 rfl) ?_
    refine g_goto hC (show ((32 : Nat) : Int) + 4 = ((36 : Nat) : Int) by decide) (xdt tt_X12_bubblesIn 16 rfl) ?_
    cases h
    exact g_iret hC hE (xdt tt_X12_bubblesIn 18 rfl)
set_option maxRecDepth 100000 in
set_option maxHeartbeats 4000000 in
theorem k_X12_bubblesIn_p4_0_b19 {K : xCtx} {E : xE} {b : Nat} (hC : xOK K cX12_bubblesIn RX12 3 (rmE 9 b)) (hZ : xZ K) {v : Int} {S' : xSt} (hE : xEnd K E (some .int) (YQi E v S')) {r0 : Nat} (hk0 : xkd E r0 = 4) : ∀ (S : xSt) (x1 : Int) (x2 : Int), f_X12_bubblesIn_p4_0_b19 r0 S x1 x2 = some (v, S') → WG K E 19 [(0, vr E r0 0), (1, vi x1), (2, vi x2)] [vr E r0 0] S := by
  intro S x1 x2 h
  unfold f_X12_bubblesIn_p4_0_b19 at h
  refine g_iconst hC (rfl : 19 + 1 = 20) (xdt tt_X12_bubblesIn 9 rfl) ?_
  refine g_sub [0, 1, 2] (lv' := [(0, vr E r0 0), (1, vi x1), (2, vi x2)]) rfl ?_
  exact k_X12_bubblesIn_p4_0_b20 hC hZ hE hk0 _ _ _ _ h
set_option maxRecDepth 100000 in
set_option maxHeartbeats 4000000 in
theorem c_X12_bubblesIn_p4_0 (l : Launch) {E : xE} {S S' : xSt} {r0 : Nat} {a1 : Int} {a2 : Int} (hk0 : xkd E r0 = 4) {v : Int} (h : f_X12_bubblesIn_p4_0 S r0 a1 a2 = some (v, S')) : Met l yX12_bubblesIn (xws yX12_bubblesIn cX12_bubblesIn 3 (some .int)) (rmD 9) (YPc E [vr E r0 0, vi a1, vi a2] S) (YQi E v S') 0 0 (xA E) := by
  unfold f_X12_bubblesIn_p4_0 at h
  refine met_i (by decide +kernel) (Nat.le_of_ble_eq_true rfl) (fun K hC hZ hE => ?_)
  have hC : xOK K cX12_bubblesIn RX12 3 (rmE 9 0) := hC
  show WG K E 0 [(0, vr E r0 0), (1, vi a1), (2, vi a2)] [] S
  refine g_aload_n hC rfl 0 rfl (rfl : 0 + 1 = 1) (xdt tt_X12_bubblesIn 0 rfl) ?_
  refine g_iload_n hC rfl 1 rfl (rfl : 1 + 1 = 2) (xdt tt_X12_bubblesIn 1 rfl) ?_
  obtain ⟨v3, S2, hc1, h⟩ := bd2_i h
  refine g_callSz hC hZ m_X12_isCycles q1142 (Nat.le_of_ble_eq_true rfl) [vi a1] rfl (fun l => c_X12_isCycles l hc1) rfl (Nat.le_of_ble_eq_true rfl) (rfl : 2 + 3 = 5) (xdt tt_X12_bubblesIn 2 rfl) (fun hb4 => ?_)
  refine g_if_eq hC (show ((5 : Nat) : Int) + 14 = ((19 : Nat) : Int) by decide) (rfl : 5 + 3 = 8) (xdt tt_X12_bubblesIn 3 rfl) (fun hc18 => ?_) (fun hc18 => ?_)
  · replace h := (if_pos hc18).symm.trans h
    refine g_sub [0, 1, 2] (lv' := [(0, vr E r0 0), (1, vi a1), (2, vi a2)]) rfl ?_
    exact k_X12_bubblesIn_p4_0_b19 hC hZ hE hk0 _ _ _ h
  · replace h := (if_neg hc18).symm.trans h
    refine g_iload_n hC rfl 2 rfl (rfl : 8 + 1 = 9) (xdt tt_X12_bubblesIn 4 rfl) ?_
    obtain ⟨v15, S14, hc13, h⟩ := bd2_i h
    refine g_callSz hC hZ m_X12_isCause q869 (Nat.le_of_ble_eq_true rfl) [vi a2] rfl (fun l => c_X12_isCause l hc13) rfl (Nat.le_of_ble_eq_true rfl) (rfl : 9 + 3 = 12) (xdt tt_X12_bubblesIn 5 rfl) (fun hb16 => ?_)
    refine g_if_eq hC (show ((12 : Nat) : Int) + 7 = ((19 : Nat) : Int) by decide) (rfl : 12 + 3 = 15) (xdt tt_X12_bubblesIn 6 rfl) (fun hc17 => ?_) (fun hc17 => ?_)
    · replace h := (if_pos hc17).symm.trans h
      refine g_sub [0, 1, 2] (lv' := [(0, vr E r0 0), (1, vi a1), (2, vi a2)]) rfl ?_
      exact k_X12_bubblesIn_p4_0_b19 hC hZ hE hk0 _ _ _ h
    · replace h := (if_neg hc17).symm.trans h
      refine g_iconst hC (rfl : 15 + 1 = 16) (xdt tt_X12_bubblesIn 7 rfl) ?_
      refine g_goto hC (show ((16 : Nat) : Int) + 4 = ((20 : Nat) : Int) by decide) (xdt tt_X12_bubblesIn 8 rfl) ?_
      refine g_sub [0, 1, 2] (lv' := [(0, vr E r0 0), (1, vi a1), (2, vi a2)]) rfl ?_
      exact k_X12_bubblesIn_p4_0_b20 hC hZ hE hk0 _ _ _ _ h
def f_X12_roomNeeded_p4_0_b27 (r0 : Nat) : Nat → xSt → Int → Int → Int → Option (Int × xSt)
  | 0, _, _, _, _ => none
  | fuel + 1, S, x1, x2, x3 =>
    if wr x1 ≤ wr x3 then
      (bd2 (f_X12_laysBack_p4_0 S r0 x2) fun v13 S12 =>
      some (v13, S12))
    else
      (bd (f_X12_cycles_p4_0 S r0) fun S15 =>
      if wr (gI S15 r0 6 6) ≤ wr x2 then
        ((f_X12_roomNeeded_p4_0_b27 r0 fuel) S15 x1 x2 (x3 + 1))
      else
        ((f_X12_roomNeeded_p4_0_b27 r0 fuel) S15 x1 (gI S15 r0 6 6) (x3 + 1)))
def f_X12_roomNeeded_p4_0 (S : xSt) (r0 : Nat) (a1 : Int) : Option (Int × xSt) :=
  bd2 (f_X12_isCycles S a1) fun v3 S2 =>
  bd2 (f_X12_is_p4_0 S2 r0 v3) fun v7 S6 =>
  if ¬ wr v7 = 0 then
    (bd (f_X12_tries_p4_0 S6 r0) fun S10 =>
    f_X12_roomNeeded_p4_0_b27 r0 (fu S10) S10 a1 (gI S10 r0 6 6) 0)
  else
    (some (0, S6))
set_option maxRecDepth 100000 in
set_option maxHeartbeats 4000000 in
theorem k_X12_roomNeeded_p4_0_b27 {K : xCtx} {E : xE} {b : Nat} (hC : xOK K cX12_roomNeeded RX12 4 (rmE 8 b)) (hZ : xZ K) {v : Int} {S' : xSt} (hE : xEnd K E (some .int) (YQi E v S')) {r0 : Nat} (hk0 : xkd E r0 = 4) : ∀ (fuel : Nat) (S : xSt) (x1 : Int) (x2 : Int) (x3 : Int), f_X12_roomNeeded_p4_0_b27 r0 fuel S x1 x2 x3 = some (v, S') → WG K E 27 [(0, vr E r0 0), (1, vi x1), (2, vi x2), (3, vi x3)] [] S := by
  intro fuel
  induction fuel with
  | zero => intro S x1 x2 x3 h; cases h
  | succ fuel ih =>
    intro S x1 x2 x3 h
    rw [f_X12_roomNeeded_p4_0_b27] at h
    refine g_iload_n hC rfl 3 rfl (rfl : 27 + 1 = 28) (xdt tt_X12_roomNeeded 16 rfl) ?_
    refine g_iload_n hC rfl 1 rfl (rfl : 28 + 1 = 29) (xdt tt_X12_roomNeeded 17 rfl) ?_
    refine g_icmp_ge hC (show ((29 : Nat) : Int) + 32 = ((61 : Nat) : Int) by decide) (rfl : 29 + 3 = 32) (xdt tt_X12_roomNeeded 18 rfl) (fun hc17 => ?_) (fun hc17 => ?_)
    · replace h := (if_pos hc17).symm.trans h
      refine g_aload_n hC rfl 0 rfl (rfl : 61 + 1 = 62) (xdt tt_X12_roomNeeded 34 rfl) ?_
      refine g_iload_n hC rfl 2 rfl (rfl : 62 + 1 = 63) (xdt tt_X12_roomNeeded 35 rfl) ?_
      obtain ⟨v13, S12, hc11, h⟩ := bd2_i h
      refine g_callVi hC hZ hk0 kclX12 ly4_0 m_X12_laysBack q1367 (Nat.le_of_ble_eq_true rfl) [vi x2] rfl (fun l => c_X12_laysBack_p4_0 l hk0 hc11) rfl (Nat.le_of_ble_eq_true rfl) (rfl : 63 + 3 = 66) (xdt tt_X12_roomNeeded 36 rfl) ?_
      cases h
      exact g_iret hC hE (xdt tt_X12_roomNeeded 37 rfl)
    · replace h := (if_neg hc17).symm.trans h
      refine g_aload_n hC rfl 0 rfl (rfl : 32 + 1 = 33) (xdt tt_X12_roomNeeded 19 rfl) ?_
      obtain ⟨S15, hc14, h⟩ := bd_i h
      refine g_callVv hC hZ hk0 kclX12 ly4_0 m_X12_cycles q1150 (Nat.le_of_ble_eq_true rfl) [] rfl (fun l => c_X12_cycles_p4_0 l hk0 hc14) rfl (Nat.le_of_ble_eq_true rfl) (rfl : 33 + 3 = 36) (xdt tt_X12_roomNeeded 20 rfl) ?_
      refine g_aload_n hC rfl 0 rfl (rfl : 36 + 1 = 37) (xdt tt_X12_roomNeeded 21 rfl) ?_
      refine g_getP hC hk0 kclX12 ly4_0 10 (by decide) (rfl : r0 + 0 = r0) rfl q201 (rfl : 37 + 3 = 40) (xdt tt_X12_roomNeeded 22 rfl) ?_
      refine g_bipush hC (by decide) (rfl : 40 + 2 = 42) (xdt tt_X12_roomNeeded 23 rfl) ?_
      refine g_iald hC hk0 ly4_6 (by decide) (rfl : 42 + 1 = 43) (xdt tt_X12_roomNeeded 24 rfl) (k0 := 6) (by decide) ?_
      refine g_iload_n hC rfl 2 rfl (rfl : 43 + 1 = 44) (xdt tt_X12_roomNeeded 25 rfl) ?_
      refine g_icmp_le hC (show ((44 : Nat) : Int) + 11 = ((55 : Nat) : Int) by decide) (rfl : 44 + 3 = 47) (xdt tt_X12_roomNeeded 26 rfl) (fun hc16 => ?_) (fun hc16 => ?_)
      · replace h := (if_pos hc16).symm.trans h
        refine g_iinc hC 3 rfl (by decide) (lv' := [(3, vi (x3 + 1)), (0, vr E r0 0), (1, vi x1), (2, vi x2)]) rfl (rfl : 55 + 3 = 58) (xdt tt_X12_roomNeeded 32 rfl) ?_
        refine g_goto hC (show ((58 : Nat) : Int) + (-31) = ((27 : Nat) : Int) by decide) (xdt tt_X12_roomNeeded 33 rfl) ?_
        refine g_sub [1, 2, 3, 0] (lv' := [(0, vr E r0 0), (1, vi x1), (2, vi x2), (3, vi (x3 + 1))]) rfl ?_
        exact ih _ _ _ _ h
      · replace h := (if_neg hc16).symm.trans h
        refine g_aload_n hC rfl 0 rfl (rfl : 47 + 1 = 48) (xdt tt_X12_roomNeeded 27 rfl) ?_
        refine g_getP hC hk0 kclX12 ly4_0 10 (by decide) (rfl : r0 + 0 = r0) rfl q201 (rfl : 48 + 3 = 51) (xdt tt_X12_roomNeeded 28 rfl) ?_
        refine g_bipush hC (by decide) (rfl : 51 + 2 = 53) (xdt tt_X12_roomNeeded 29 rfl) ?_
        refine g_iald hC hk0 ly4_6 (by decide) (rfl : 53 + 1 = 54) (xdt tt_X12_roomNeeded 30 rfl) (k0 := 6) (by decide) ?_
        refine g_istore_n hC rfl (by decide) (lv' := [(2, vi (gI S15 r0 6 6)), (0, vr E r0 0), (1, vi x1), (3, vi x3)]) rfl (rfl : 54 + 1 = 55) (xdt tt_X12_roomNeeded 31 rfl) ?_
        refine g_iinc hC 3 rfl (by decide) (lv' := [(3, vi (x3 + 1)), (2, vi (gI S15 r0 6 6)), (0, vr E r0 0), (1, vi x1)]) rfl (rfl : 55 + 3 = 58) (xdt tt_X12_roomNeeded 32 rfl) ?_
        refine g_goto hC (show ((58 : Nat) : Int) + (-31) = ((27 : Nat) : Int) by decide) (xdt tt_X12_roomNeeded 33 rfl) ?_
        refine g_sub [2, 3, 1, 0] (lv' := [(0, vr E r0 0), (1, vi x1), (2, vi (gI S15 r0 6 6)), (3, vi (x3 + 1))]) rfl ?_
        exact ih _ _ _ _ h
set_option maxRecDepth 100000 in
set_option maxHeartbeats 4000000 in
theorem c_X12_roomNeeded_p4_0 (l : Launch) {E : xE} {S S' : xSt} {r0 : Nat} {a1 : Int} (hk0 : xkd E r0 = 4) {v : Int} (h : f_X12_roomNeeded_p4_0 S r0 a1 = some (v, S')) : Met l yX12_roomNeeded (xws yX12_roomNeeded cX12_roomNeeded 4 (some .int)) (rmD 8) (YPc E [vr E r0 0, vi a1] S) (YQi E v S') 0 0 (xA E) := by
  unfold f_X12_roomNeeded_p4_0 at h
  refine met_i (by decide +kernel) (Nat.le_of_ble_eq_true rfl) (fun K hC hZ hE => ?_)
  have hC : xOK K cX12_roomNeeded RX12 4 (rmE 8 0) := hC
  show WG K E 0 [(0, vr E r0 0), (1, vi a1)] [] S
  refine g_aload_n hC rfl 0 rfl (rfl : 0 + 1 = 1) (xdt tt_X12_roomNeeded 0 rfl) ?_
  refine g_iload_n hC rfl 1 rfl (rfl : 1 + 1 = 2) (xdt tt_X12_roomNeeded 1 rfl) ?_
  obtain ⟨v3, S2, hc1, h⟩ := bd2_i h
  refine g_callSz hC hZ m_X12_isCycles q1142 (Nat.le_of_ble_eq_true rfl) [vi a1] rfl (fun l => c_X12_isCycles l hc1) rfl (Nat.le_of_ble_eq_true rfl) (rfl : 2 + 3 = 5) (xdt tt_X12_roomNeeded 2 rfl) (fun hb4 => ?_)
  obtain ⟨v7, S6, hc5, h⟩ := bd2_i h
  refine g_callVz hC hZ hk0 kclX12 ly4_0 m_X12_is q655 (Nat.le_of_ble_eq_true rfl) [vi v3] rfl (fun l => c_X12_is_p4_0 l hk0 hc5) rfl (Nat.le_of_ble_eq_true rfl) (rfl : 5 + 3 = 8) (xdt tt_X12_roomNeeded 3 rfl) (fun hb8 => ?_)
  refine g_if_ne hC (show ((8 : Nat) : Int) + 5 = ((13 : Nat) : Int) by decide) (rfl : 8 + 3 = 11) (xdt tt_X12_roomNeeded 4 rfl) (fun hc18 => ?_) (fun hc18 => ?_)
  · replace h := (if_pos hc18).symm.trans h
    refine g_aload_n hC rfl 0 rfl (rfl : 13 + 1 = 14) (xdt tt_X12_roomNeeded 7 rfl) ?_
    obtain ⟨S10, hc9, h⟩ := bd_i h
    refine g_callVv hC hZ hk0 kclX12 ly4_0 m_X12_tries q1363 (Nat.le_of_ble_eq_true rfl) [] rfl (fun l => c_X12_tries_p4_0 l hk0 hc9) rfl (Nat.le_of_ble_eq_true rfl) (rfl : 14 + 3 = 17) (xdt tt_X12_roomNeeded 8 rfl) ?_
    refine g_aload_n hC rfl 0 rfl (rfl : 17 + 1 = 18) (xdt tt_X12_roomNeeded 9 rfl) ?_
    refine g_getP hC hk0 kclX12 ly4_0 10 (by decide) (rfl : r0 + 0 = r0) rfl q201 (rfl : 18 + 3 = 21) (xdt tt_X12_roomNeeded 10 rfl) ?_
    refine g_bipush hC (by decide) (rfl : 21 + 2 = 23) (xdt tt_X12_roomNeeded 11 rfl) ?_
    refine g_iald hC hk0 ly4_6 (by decide) (rfl : 23 + 1 = 24) (xdt tt_X12_roomNeeded 12 rfl) (k0 := 6) (by decide) ?_
    refine g_istore_n hC rfl (by decide) (lv' := [(2, vi (gI S10 r0 6 6)), (0, vr E r0 0), (1, vi a1)]) rfl (rfl : 24 + 1 = 25) (xdt tt_X12_roomNeeded 13 rfl) ?_
    refine g_iconst hC (rfl : 25 + 1 = 26) (xdt tt_X12_roomNeeded 14 rfl) ?_
    refine g_istore_n hC rfl (by decide) (lv' := [(3, vi 0), (2, vi (gI S10 r0 6 6)), (0, vr E r0 0), (1, vi a1)]) rfl (rfl : 26 + 1 = 27) (xdt tt_X12_roomNeeded 15 rfl) ?_
    refine g_sub [2, 3, 1, 0] (lv' := [(0, vr E r0 0), (1, vi a1), (2, vi (gI S10 r0 6 6)), (3, vi 0)]) rfl ?_
    exact k_X12_roomNeeded_p4_0_b27 hC hZ hE hk0 _ _ _ _ _ h
  · replace h := (if_neg hc18).symm.trans h
    refine g_iconst hC (rfl : 11 + 1 = 12) (xdt tt_X12_roomNeeded 5 rfl) ?_
    cases h
    exact g_iret hC hE (xdt tt_X12_roomNeeded 6 rfl)
def f_X12_decodedIn_p4_0_b10 (r0 : Nat) : Nat → xSt → Int → Int → Int → Option (Int × xSt)
  | 0, _, _, _, _ => none
  | fuel + 1, S, x1, x2, x3 =>
    if wr x1 ≤ wr x3 then
      (bd2 (f_X12_laysBack_p4_0 S r0 ((gI S r0 6 17) - x2)) fun v3 S2 =>
      some (v3, S2))
    else
      (bd (f_X12_cycles_p4_0 S r0) fun S5 =>
      (f_X12_decodedIn_p4_0_b10 r0 fuel) S5 x1 x2 (x3 + 1))
def f_X12_decodedIn_p4_0 (S : xSt) (r0 : Nat) (a1 : Int) : Option (Int × xSt) :=
  f_X12_decodedIn_p4_0_b10 r0 (fu S) S a1 (gI S r0 6 17) 0
set_option maxRecDepth 100000 in
set_option maxHeartbeats 4000000 in
theorem k_X12_decodedIn_p4_0_b10 {K : xCtx} {E : xE} {b : Nat} (hC : xOK K cX12_decodedIn RX12 4 (rmE 8 b)) (hZ : xZ K) {v : Int} {S' : xSt} (hE : xEnd K E (some .int) (YQi E v S')) {r0 : Nat} (hk0 : xkd E r0 = 4) : ∀ (fuel : Nat) (S : xSt) (x1 : Int) (x2 : Int) (x3 : Int), f_X12_decodedIn_p4_0_b10 r0 fuel S x1 x2 x3 = some (v, S') → WG K E 10 [(0, vr E r0 0), (1, vi x1), (2, vi x2), (3, vi x3)] [] S := by
  intro fuel
  induction fuel with
  | zero => intro S x1 x2 x3 h; cases h
  | succ fuel ih =>
    intro S x1 x2 x3 h
    rw [f_X12_decodedIn_p4_0_b10] at h
    refine g_iload_n hC rfl 3 rfl (rfl : 10 + 1 = 11) (xdt tt_X12_decodedIn 7 rfl) ?_
    refine g_iload_n hC rfl 1 rfl (rfl : 11 + 1 = 12) (xdt tt_X12_decodedIn 8 rfl) ?_
    refine g_icmp_ge hC (show ((12 : Nat) : Int) + 13 = ((25 : Nat) : Int) by decide) (rfl : 12 + 3 = 15) (xdt tt_X12_decodedIn 9 rfl) (fun hc6 => ?_) (fun hc6 => ?_)
    · replace h := (if_pos hc6).symm.trans h
      refine g_aload_n hC rfl 0 rfl (rfl : 25 + 1 = 26) (xdt tt_X12_decodedIn 14 rfl) ?_
      refine g_aload_n hC rfl 0 rfl (rfl : 26 + 1 = 27) (xdt tt_X12_decodedIn 15 rfl) ?_
      refine g_getP hC hk0 kclX12 ly4_0 10 (by decide) (rfl : r0 + 0 = r0) rfl q201 (rfl : 27 + 3 = 30) (xdt tt_X12_decodedIn 16 rfl) ?_
      refine g_bipush hC (by decide) (rfl : 30 + 2 = 32) (xdt tt_X12_decodedIn 17 rfl) ?_
      refine g_iald hC hk0 ly4_6 (by decide) (rfl : 32 + 1 = 33) (xdt tt_X12_decodedIn 18 rfl) (k0 := 17) (by decide) ?_
      refine g_iload_n hC rfl 2 rfl (rfl : 33 + 1 = 34) (xdt tt_X12_decodedIn 19 rfl) ?_
      refine g_isub hC (rfl : 34 + 1 = 35) (xdt tt_X12_decodedIn 20 rfl) ?_
      obtain ⟨v3, S2, hc1, h⟩ := bd2_i h
      refine g_callVi hC hZ hk0 kclX12 ly4_0 m_X12_laysBack q1367 (Nat.le_of_ble_eq_true rfl) [vi ((gI S r0 6 17) - x2)] rfl (fun l => c_X12_laysBack_p4_0 l hk0 hc1) rfl (Nat.le_of_ble_eq_true rfl) (rfl : 35 + 3 = 38) (xdt tt_X12_decodedIn 21 rfl) ?_
      cases h
      exact g_iret hC hE (xdt tt_X12_decodedIn 22 rfl)
    · replace h := (if_neg hc6).symm.trans h
      refine g_aload_n hC rfl 0 rfl (rfl : 15 + 1 = 16) (xdt tt_X12_decodedIn 10 rfl) ?_
      obtain ⟨S5, hc4, h⟩ := bd_i h
      refine g_callVv hC hZ hk0 kclX12 ly4_0 m_X12_cycles q1150 (Nat.le_of_ble_eq_true rfl) [] rfl (fun l => c_X12_cycles_p4_0 l hk0 hc4) rfl (Nat.le_of_ble_eq_true rfl) (rfl : 16 + 3 = 19) (xdt tt_X12_decodedIn 11 rfl) ?_
      refine g_iinc hC 3 rfl (by decide) (lv' := [(3, vi (x3 + 1)), (0, vr E r0 0), (1, vi x1), (2, vi x2)]) rfl (rfl : 19 + 3 = 22) (xdt tt_X12_decodedIn 12 rfl) ?_
      refine g_goto hC (show ((22 : Nat) : Int) + (-12) = ((10 : Nat) : Int) by decide) (xdt tt_X12_decodedIn 13 rfl) ?_
      refine g_sub [1, 2, 3, 0] (lv' := [(0, vr E r0 0), (1, vi x1), (2, vi x2), (3, vi (x3 + 1))]) rfl ?_
      exact ih _ _ _ _ h
set_option maxRecDepth 100000 in
set_option maxHeartbeats 4000000 in
theorem c_X12_decodedIn_p4_0 (l : Launch) {E : xE} {S S' : xSt} {r0 : Nat} {a1 : Int} (hk0 : xkd E r0 = 4) {v : Int} (h : f_X12_decodedIn_p4_0 S r0 a1 = some (v, S')) : Met l yX12_decodedIn (xws yX12_decodedIn cX12_decodedIn 4 (some .int)) (rmD 8) (YPc E [vr E r0 0, vi a1] S) (YQi E v S') 0 0 (xA E) := by
  unfold f_X12_decodedIn_p4_0 at h
  refine met_i (by decide +kernel) (Nat.le_of_ble_eq_true rfl) (fun K hC hZ hE => ?_)
  have hC : xOK K cX12_decodedIn RX12 4 (rmE 8 0) := hC
  show WG K E 0 [(0, vr E r0 0), (1, vi a1)] [] S
  refine g_aload_n hC rfl 0 rfl (rfl : 0 + 1 = 1) (xdt tt_X12_decodedIn 0 rfl) ?_
  refine g_getP hC hk0 kclX12 ly4_0 10 (by decide) (rfl : r0 + 0 = r0) rfl q201 (rfl : 1 + 3 = 4) (xdt tt_X12_decodedIn 1 rfl) ?_
  refine g_bipush hC (by decide) (rfl : 4 + 2 = 6) (xdt tt_X12_decodedIn 2 rfl) ?_
  refine g_iald hC hk0 ly4_6 (by decide) (rfl : 6 + 1 = 7) (xdt tt_X12_decodedIn 3 rfl) (k0 := 17) (by decide) ?_
  refine g_istore_n hC rfl (by decide) (lv' := [(2, vi (gI S r0 6 17)), (0, vr E r0 0), (1, vi a1)]) rfl (rfl : 7 + 1 = 8) (xdt tt_X12_decodedIn 4 rfl) ?_
  refine g_iconst hC (rfl : 8 + 1 = 9) (xdt tt_X12_decodedIn 5 rfl) ?_
  refine g_istore_n hC rfl (by decide) (lv' := [(3, vi 0), (2, vi (gI S r0 6 17)), (0, vr E r0 0), (1, vi a1)]) rfl (rfl : 9 + 1 = 10) (xdt tt_X12_decodedIn 6 rfl) ?_
  refine g_sub [2, 3, 1, 0] (lv' := [(0, vr E r0 0), (1, vi a1), (2, vi (gI S r0 6 17)), (3, vi 0)]) rfl ?_
  exact k_X12_decodedIn_p4_0_b10 hC hZ hE hk0 _ _ _ _ _ h
def f_X12_decodedWith_p4_0 (S : xSt) (r0 : Nat) (a1 : Int) (a2 : Int) (a3 : Int) : Option (Int × xSt) :=
  bd (f_X12_tries_p4_0 S r0) fun S2 =>
  ckI a1 363 <|
  lt1 (wI S2 r0 6 (wr a1).toNat a2) fun S4 =>
  bd2 (f_X12_decodedIn_p4_0 S4 r0 a3) fun v7 S6 =>
  some (v7, S6)
set_option maxRecDepth 100000 in
set_option maxHeartbeats 4000000 in
theorem c_X12_decodedWith_p4_0 (l : Launch) {E : xE} {S S' : xSt} {r0 : Nat} {a1 : Int} {a2 : Int} {a3 : Int} (hk0 : xkd E r0 = 4) {v : Int} (h : f_X12_decodedWith_p4_0 S r0 a1 a2 a3 = some (v, S')) : Met l yX12_decodedWith (xws yX12_decodedWith cX12_decodedWith 4 (some .int)) (rmD 9) (YPc E [vr E r0 0, vi a1, vi a2, vi a3] S) (YQi E v S') 0 0 (xA E) := by
  unfold f_X12_decodedWith_p4_0 at h
  refine met_i (by decide +kernel) (Nat.le_of_ble_eq_true rfl) (fun K hC hZ hE => ?_)
  have hC : xOK K cX12_decodedWith RX12 4 (rmE 9 0) := hC
  show WG K E 0 [(0, vr E r0 0), (1, vi a1), (2, vi a2), (3, vi a3)] [] S
  refine g_aload_n hC rfl 0 rfl (rfl : 0 + 1 = 1) (xdt tt_X12_decodedWith 0 rfl) ?_
  obtain ⟨S2, hc1, h⟩ := bd_i h
  refine g_callVv hC hZ hk0 kclX12 ly4_0 m_X12_tries q1363 (Nat.le_of_ble_eq_true rfl) [] rfl (fun l => c_X12_tries_p4_0 l hk0 hc1) rfl (Nat.le_of_ble_eq_true rfl) (rfl : 1 + 3 = 4) (xdt tt_X12_decodedWith 1 rfl) ?_
  refine g_aload_n hC rfl 0 rfl (rfl : 4 + 1 = 5) (xdt tt_X12_decodedWith 2 rfl) ?_
  refine g_getP hC hk0 kclX12 ly4_0 10 (by decide) (rfl : r0 + 0 = r0) rfl q201 (rfl : 5 + 3 = 8) (xdt tt_X12_decodedWith 3 rfl) ?_
  refine g_iload_n hC rfl 1 rfl (rfl : 8 + 1 = 9) (xdt tt_X12_decodedWith 4 rfl) ?_
  refine g_iload_n hC rfl 2 rfl (rfl : 9 + 1 = 10) (xdt tt_X12_decodedWith 5 rfl) ?_
  obtain ⟨hi3, h⟩ := ckI_i h
  obtain ⟨S4, hS4, h⟩ := lt1_i h
  refine g_iast hC hk0 ly4_6 hi3 rfl hS4 (rfl : 10 + 1 = 11) (xdt tt_X12_decodedWith 6 rfl) ?_
  refine g_aload_n hC rfl 0 rfl (rfl : 11 + 1 = 12) (xdt tt_X12_decodedWith 7 rfl) ?_
  refine g_iload_n hC rfl 3 rfl (rfl : 12 + 1 = 13) (xdt tt_X12_decodedWith 8 rfl) ?_
  obtain ⟨v7, S6, hc5, h⟩ := bd2_i h
  refine g_callVi hC hZ hk0 kclX12 ly4_0 m_X12_decodedIn q1432 (Nat.le_of_ble_eq_true rfl) [vi a3] rfl (fun l => c_X12_decodedIn_p4_0 l hk0 hc5) rfl (Nat.le_of_ble_eq_true rfl) (rfl : 13 + 3 = 16) (xdt tt_X12_decodedWith 9 rfl) ?_
  cases h
  exact g_iret hC hE (xdt tt_X12_decodedWith 10 rfl)
def f_X12_decodedByRule_p4_0 (S : xSt) (r0 : Nat) (a1 : Int) (a2 : Int) (a3 : Int) : Option (Int × xSt) :=
  bd (f_X12_tries_p4_0 S r0) fun S2 =>
  bd2 (f_X12_adds_p4_0 S2 r0 a1 a2) fun v5 S4 =>
  bd2 (f_X12_decodedIn_p4_0 S4 r0 a3) fun v8 S7 =>
  some (v8, S7)
set_option maxRecDepth 100000 in
set_option maxHeartbeats 4000000 in
theorem c_X12_decodedByRule_p4_0 (l : Launch) {E : xE} {S S' : xSt} {r0 : Nat} {a1 : Int} {a2 : Int} {a3 : Int} (hk0 : xkd E r0 = 4) {v : Int} (h : f_X12_decodedByRule_p4_0 S r0 a1 a2 a3 = some (v, S')) : Met l yX12_decodedByRule (xws yX12_decodedByRule cX12_decodedByRule 5 (some .int)) (rmD 9) (YPc E [vr E r0 0, vi a1, vi a2, vi a3] S) (YQi E v S') 0 0 (xA E) := by
  unfold f_X12_decodedByRule_p4_0 at h
  refine met_i (by decide +kernel) (Nat.le_of_ble_eq_true rfl) (fun K hC hZ hE => ?_)
  have hC : xOK K cX12_decodedByRule RX12 5 (rmE 9 0) := hC
  show WG K E 0 [(0, vr E r0 0), (1, vi a1), (2, vi a2), (3, vi a3)] [] S
  refine g_aload_n hC rfl 0 rfl (rfl : 0 + 1 = 1) (xdt tt_X12_decodedByRule 0 rfl) ?_
  obtain ⟨S2, hc1, h⟩ := bd_i h
  refine g_callVv hC hZ hk0 kclX12 ly4_0 m_X12_tries q1363 (Nat.le_of_ble_eq_true rfl) [] rfl (fun l => c_X12_tries_p4_0 l hk0 hc1) rfl (Nat.le_of_ble_eq_true rfl) (rfl : 1 + 3 = 4) (xdt tt_X12_decodedByRule 1 rfl) ?_
  refine g_aload_n hC rfl 0 rfl (rfl : 4 + 1 = 5) (xdt tt_X12_decodedByRule 2 rfl) ?_
  refine g_iload_n hC rfl 1 rfl (rfl : 5 + 1 = 6) (xdt tt_X12_decodedByRule 3 rfl) ?_
  refine g_iload_n hC rfl 2 rfl (rfl : 6 + 1 = 7) (xdt tt_X12_decodedByRule 4 rfl) ?_
  obtain ⟨v5, S4, hc3, h⟩ := bd2_i h
  refine g_callVi hC hZ hk0 kclX12 ly4_0 m_X12_adds q1304 (Nat.le_of_ble_eq_true rfl) [vi a1, vi a2] rfl (fun l => c_X12_adds_p4_0 l hk0 hc3) rfl (Nat.le_of_ble_eq_true rfl) (rfl : 7 + 3 = 10) (xdt tt_X12_decodedByRule 5 rfl) ?_
  refine g_istore hC (by decide) (lv' := [(4, vi v5), (0, vr E r0 0), (1, vi a1), (2, vi a2), (3, vi a3)]) rfl (rfl : 10 + 2 = 12) (xdt tt_X12_decodedByRule 6 rfl) ?_
  refine g_aload_n hC rfl 1 rfl (rfl : 12 + 1 = 13) (xdt tt_X12_decodedByRule 7 rfl) ?_
  refine g_iload_n hC rfl 4 rfl (rfl : 13 + 1 = 14) (xdt tt_X12_decodedByRule 8 rfl) ?_
  obtain ⟨v8, S7, hc6, h⟩ := bd2_i h
  refine g_callVi hC hZ hk0 kclX12 ly4_0 m_X12_decodedIn q1432 (Nat.le_of_ble_eq_true rfl) [vi a3] rfl (fun l => c_X12_decodedIn_p4_0 l hk0 hc6) rfl (Nat.le_of_ble_eq_true rfl) (rfl : 14 + 3 = 17) (xdt tt_X12_decodedByRule 9 rfl) ?_
  cases h
  exact g_iret hC hE (xdt tt_X12_decodedByRule 10 rfl)
def f_X12_bestOf_p4_0_b9 (r0 : Nat) : Nat → xSt → Int → Int → Int → Int → Int → Int → Option (Int × xSt)
  | 0, _, _, _, _, _, _, _ => none
  | fuel + 1, S, x1, x3, x4, x5, x6, x7 =>
    if wr x3 < wr x7 then
      (some (x5, S))
    else
      (bd2 (f_X12_decodedWith_p4_0 S r0 x1 x7 x4) fun v3 S2 =>
      if wr x6 < wr v3 then
        ((f_X12_bestOf_p4_0_b9 r0 fuel) S2 x1 x3 x4 x7 v3 (x7 + 1))
      else
        ((f_X12_bestOf_p4_0_b9 r0 fuel) S2 x1 x3 x4 x5 x6 (x7 + 1)))
def f_X12_bestOf_p4_0 (S : xSt) (r0 : Nat) (a1 : Int) (a2 : Int) (a3 : Int) (a4 : Int) : Option (Int × xSt) :=
  f_X12_bestOf_p4_0_b9 r0 (fu S) S a1 a3 a4 a2 (-1) a2
set_option maxRecDepth 100000 in
set_option maxHeartbeats 4000000 in
theorem k_X12_bestOf_p4_0_b9 {K : xCtx} {E : xE} {b : Nat} (hC : xOK K cX12_bestOf RX12 9 (rmE 10 b)) (hZ : xZ K) {v : Int} {S' : xSt} (hE : xEnd K E (some .int) (YQi E v S')) {r0 : Nat} (hk0 : xkd E r0 = 4) : ∀ (fuel : Nat) (S : xSt) (x1 : Int) (x3 : Int) (x4 : Int) (x5 : Int) (x6 : Int) (x7 : Int), f_X12_bestOf_p4_0_b9 r0 fuel S x1 x3 x4 x5 x6 x7 = some (v, S') → WG K E 9 [(0, vr E r0 0), (1, vi x1), (3, vi x3), (4, vi x4), (5, vi x5), (6, vi x6), (7, vi x7)] [] S := by
  intro fuel
  induction fuel with
  | zero => intro S x1 x3 x4 x5 x6 x7 h; cases h
  | succ fuel ih =>
    intro S x1 x3 x4 x5 x6 x7 h
    rw [f_X12_bestOf_p4_0_b9] at h
    refine g_iload hC 6 rfl (rfl : 9 + 2 = 11) (xdt tt_X12_bestOf 6 rfl) ?_
    refine g_iload_n hC rfl 2 rfl (rfl : 11 + 1 = 12) (xdt tt_X12_bestOf 7 rfl) ?_
    refine g_icmp_gt hC (show ((12 : Nat) : Int) + 38 = ((50 : Nat) : Int) by decide) (rfl : 12 + 3 = 15) (xdt tt_X12_bestOf 8 rfl) (fun hc5 => ?_) (fun hc5 => ?_)
    · replace h := (if_pos hc5).symm.trans h
      refine g_iload hC 4 rfl (rfl : 50 + 2 = 52) (xdt tt_X12_bestOf 25 rfl) ?_
      cases h
      exact g_iret hC hE (xdt tt_X12_bestOf 26 rfl)
    · replace h := (if_neg hc5).symm.trans h
      refine g_aload_n hC rfl 0 rfl (rfl : 15 + 1 = 16) (xdt tt_X12_bestOf 9 rfl) ?_
      refine g_iload_n hC rfl 1 rfl (rfl : 16 + 1 = 17) (xdt tt_X12_bestOf 10 rfl) ?_
      refine g_iload hC 6 rfl (rfl : 17 + 2 = 19) (xdt tt_X12_bestOf 11 rfl) ?_
      refine g_iload hC 3 rfl (rfl : 19 + 2 = 21) (xdt tt_X12_bestOf 12 rfl) ?_
      obtain ⟨v3, S2, hc1, h⟩ := bd2_i h
      refine g_callVi hC hZ hk0 kclX12 ly4_0 m_X12_decodedWith q1428 (Nat.le_of_ble_eq_true rfl) [vi x1, vi x7, vi x4] rfl (fun l => c_X12_decodedWith_p4_0 l hk0 hc1) rfl (Nat.le_of_ble_eq_true rfl) (rfl : 21 + 3 = 24) (xdt tt_X12_bestOf 13 rfl) ?_
      refine g_istore hC (by decide) (lv' := [(8, vi v3), (0, vr E r0 0), (1, vi x1), (3, vi x3), (4, vi x4), (5, vi x5), (6, vi x6), (7, vi x7)]) rfl (rfl : 24 + 2 = 26) (xdt tt_X12_bestOf 14 rfl) ?_
      refine g_iload hC 0 rfl (rfl : 26 + 2 = 28) (xdt tt_X12_bestOf 15 rfl) ?_
      refine g_iload hC 6 rfl (rfl : 28 + 2 = 30) (xdt tt_X12_bestOf 16 rfl) ?_
      refine g_icmp_gt hC (show ((30 : Nat) : Int) + 6 = ((36 : Nat) : Int) by decide) (rfl : 30 + 3 = 33) (xdt tt_X12_bestOf 17 rfl) (fun hc4 => ?_) (fun hc4 => ?_)
      · replace h := (if_pos hc4).symm.trans h
        refine g_iload hC 7 rfl (rfl : 36 + 2 = 38) (xdt tt_X12_bestOf 19 rfl) ?_
        refine g_istore hC (by decide) (lv' := [(5, vi x7), (8, vi v3), (0, vr E r0 0), (1, vi x1), (3, vi x3), (4, vi x4), (6, vi x6), (7, vi x7)]) rfl (rfl : 38 + 2 = 40) (xdt tt_X12_bestOf 20 rfl) ?_
        refine g_iload hC 1 rfl (rfl : 40 + 2 = 42) (xdt tt_X12_bestOf 21 rfl) ?_
        refine g_istore hC (by decide) (lv' := [(6, vi v3), (5, vi x7), (8, vi v3), (0, vr E r0 0), (1, vi x1), (3, vi x3), (4, vi x4), (7, vi x7)]) rfl (rfl : 42 + 2 = 44) (xdt tt_X12_bestOf 22 rfl) ?_
        refine g_iinc hC 7 rfl (by decide) (lv' := [(7, vi (x7 + 1)), (6, vi v3), (5, vi x7), (8, vi v3), (0, vr E r0 0), (1, vi x1), (3, vi x3), (4, vi x4)]) rfl (rfl : 44 + 3 = 47) (xdt tt_X12_bestOf 23 rfl) ?_
        refine g_goto hC (show ((47 : Nat) : Int) + (-38) = ((9 : Nat) : Int) by decide) (xdt tt_X12_bestOf 24 rfl) ?_
        refine g_sub [4, 5, 6, 7, 2, 1, 0] (lv' := [(0, vr E r0 0), (1, vi x1), (3, vi x3), (4, vi x4), (5, vi x7), (6, vi v3), (7, vi (x7 + 1))]) rfl ?_
        exact ih _ _ _ _ _ _ _ h
      · replace h := (if_neg hc4).symm.trans h
        refine g_goto hC (show ((33 : Nat) : Int) + 11 = ((44 : Nat) : Int) by decide) (xdt tt_X12_bestOf 18 rfl) ?_
        refine g_iinc hC 7 rfl (by decide) (lv' := [(7, vi (x7 + 1)), (8, vi v3), (0, vr E r0 0), (1, vi x1), (3, vi x3), (4, vi x4), (5, vi x5), (6, vi x6)]) rfl (rfl : 44 + 3 = 47) (xdt tt_X12_bestOf 23 rfl) ?_
        refine g_goto hC (show ((47 : Nat) : Int) + (-38) = ((9 : Nat) : Int) by decide) (xdt tt_X12_bestOf 24 rfl) ?_
        refine g_sub [2, 3, 4, 5, 6, 7, 0] (lv' := [(0, vr E r0 0), (1, vi x1), (3, vi x3), (4, vi x4), (5, vi x5), (6, vi x6), (7, vi (x7 + 1))]) rfl ?_
        exact ih _ _ _ _ _ _ _ h
set_option maxRecDepth 100000 in
set_option maxHeartbeats 4000000 in
theorem c_X12_bestOf_p4_0 (l : Launch) {E : xE} {S S' : xSt} {r0 : Nat} {a1 : Int} {a2 : Int} {a3 : Int} {a4 : Int} (hk0 : xkd E r0 = 4) {v : Int} (h : f_X12_bestOf_p4_0 S r0 a1 a2 a3 a4 = some (v, S')) : Met l yX12_bestOf (xws yX12_bestOf cX12_bestOf 9 (some .int)) (rmD 10) (YPc E [vr E r0 0, vi a1, vi a2, vi a3, vi a4] S) (YQi E v S') 0 0 (xA E) := by
  unfold f_X12_bestOf_p4_0 at h
  refine met_i (by decide +kernel) (Nat.le_of_ble_eq_true rfl) (fun K hC hZ hE => ?_)
  have hC : xOK K cX12_bestOf RX12 9 (rmE 10 0) := hC
  show WG K E 0 [(0, vr E r0 0), (1, vi a1), (2, vi a2), (3, vi a3), (4, vi a4)] [] S
  refine g_iload_n hC rfl 2 rfl (rfl : 0 + 1 = 1) (xdt tt_X12_bestOf 0 rfl) ?_
  refine g_istore hC (by decide) (lv' := [(5, vi a2), (0, vr E r0 0), (1, vi a1), (2, vi a2), (3, vi a3), (4, vi a4)]) rfl (rfl : 1 + 2 = 3) (xdt tt_X12_bestOf 1 rfl) ?_
  refine g_iconst hC (rfl : 3 + 1 = 4) (xdt tt_X12_bestOf 2 rfl) ?_
  refine g_istore hC (by decide) (lv' := [(6, vi (-1)), (5, vi a2), (0, vr E r0 0), (1, vi a1), (2, vi a2), (3, vi a3), (4, vi a4)]) rfl (rfl : 4 + 2 = 6) (xdt tt_X12_bestOf 3 rfl) ?_
  refine g_iload_n hC rfl 4 rfl (rfl : 6 + 1 = 7) (xdt tt_X12_bestOf 4 rfl) ?_
  refine g_istore hC (by decide) (lv' := [(7, vi a2), (6, vi (-1)), (5, vi a2), (0, vr E r0 0), (1, vi a1), (2, vi a2), (3, vi a3), (4, vi a4)]) rfl (rfl : 7 + 2 = 9) (xdt tt_X12_bestOf 5 rfl) ?_
  refine g_sub [3, 4, 6, 7, 2, 1, 0] (lv' := [(0, vr E r0 0), (1, vi a1), (3, vi a3), (4, vi a4), (5, vi a2), (6, vi (-1)), (7, vi a2)]) rfl ?_
  exact k_X12_bestOf_p4_0_b9 hC hZ hE hk0 _ _ _ _ _ _ _ _ h
def f_X12_bestLanes_p4_0 (S : xSt) (r0 : Nat) (a1 : Int) : Option (Int × xSt) :=
  bd2 (f_X12_isCycles S a1) fun v3 S2 =>
  bd2 (f_X12_is_p4_0 S2 r0 v3) fun v7 S6 =>
  if ¬ wr v7 = 0 then
    (bd2 (f_X12_bestOf_p4_0 S6 r0 0 1 6 a1) fun v11 S10 =>
    some (v11, S10))
  else
    (some (0, S6))
set_option maxRecDepth 100000 in
set_option maxHeartbeats 4000000 in
theorem c_X12_bestLanes_p4_0 (l : Launch) {E : xE} {S S' : xSt} {r0 : Nat} {a1 : Int} (hk0 : xkd E r0 = 4) {v : Int} (h : f_X12_bestLanes_p4_0 S r0 a1 = some (v, S')) : Met l yX12_bestLanes (xws yX12_bestLanes cX12_bestLanes 2 (some .int)) (rmD 11) (YPc E [vr E r0 0, vi a1] S) (YQi E v S') 0 0 (xA E) := by
  unfold f_X12_bestLanes_p4_0 at h
  refine met_i (by decide +kernel) (Nat.le_of_ble_eq_true rfl) (fun K hC hZ hE => ?_)
  have hC : xOK K cX12_bestLanes RX12 2 (rmE 11 0) := hC
  show WG K E 0 [(0, vr E r0 0), (1, vi a1)] [] S
  refine g_aload_n hC rfl 0 rfl (rfl : 0 + 1 = 1) (xdt tt_X12_bestLanes 0 rfl) ?_
  refine g_iload_n hC rfl 1 rfl (rfl : 1 + 1 = 2) (xdt tt_X12_bestLanes 1 rfl) ?_
  obtain ⟨v3, S2, hc1, h⟩ := bd2_i h
  refine g_callSz hC hZ m_X12_isCycles q1142 (Nat.le_of_ble_eq_true rfl) [vi a1] rfl (fun l => c_X12_isCycles l hc1) rfl (Nat.le_of_ble_eq_true rfl) (rfl : 2 + 3 = 5) (xdt tt_X12_bestLanes 2 rfl) (fun hb4 => ?_)
  obtain ⟨v7, S6, hc5, h⟩ := bd2_i h
  refine g_callVz hC hZ hk0 kclX12 ly4_0 m_X12_is q655 (Nat.le_of_ble_eq_true rfl) [vi v3] rfl (fun l => c_X12_is_p4_0 l hk0 hc5) rfl (Nat.le_of_ble_eq_true rfl) (rfl : 5 + 3 = 8) (xdt tt_X12_bestLanes 3 rfl) (fun hb8 => ?_)
  refine g_if_ne hC (show ((8 : Nat) : Int) + 5 = ((13 : Nat) : Int) by decide) (rfl : 8 + 3 = 11) (xdt tt_X12_bestLanes 4 rfl) (fun hc12 => ?_) (fun hc12 => ?_)
  · replace h := (if_pos hc12).symm.trans h
    refine g_aload_n hC rfl 0 rfl (rfl : 13 + 1 = 14) (xdt tt_X12_bestLanes 7 rfl) ?_
    refine g_iconst hC (rfl : 14 + 1 = 15) (xdt tt_X12_bestLanes 8 rfl) ?_
    refine g_iconst hC (rfl : 15 + 1 = 16) (xdt tt_X12_bestLanes 9 rfl) ?_
    refine g_bipush hC (by decide) (rfl : 16 + 2 = 18) (xdt tt_X12_bestLanes 10 rfl) ?_
    refine g_iload_n hC rfl 1 rfl (rfl : 18 + 1 = 19) (xdt tt_X12_bestLanes 11 rfl) ?_
    obtain ⟨v11, S10, hc9, h⟩ := bd2_i h
    refine g_callVi hC hZ hk0 kclX12 ly4_0 m_X12_bestOf q1424 (Nat.le_of_ble_eq_true rfl) [vi 0, vi 1, vi 6, vi a1] rfl (fun l => c_X12_bestOf_p4_0 l hk0 hc9) rfl (Nat.le_of_ble_eq_true rfl) (rfl : 19 + 3 = 22) (xdt tt_X12_bestLanes 12 rfl) ?_
    cases h
    exact g_iret hC hE (xdt tt_X12_bestLanes 13 rfl)
  · replace h := (if_neg hc12).symm.trans h
    refine g_iconst hC (rfl : 11 + 1 = 12) (xdt tt_X12_bestLanes 5 rfl) ?_
    cases h
    exact g_iret hC hE (xdt tt_X12_bestLanes 6 rfl)
def f_X12_bestRate_p4_0 (S : xSt) (r0 : Nat) (a1 : Int) : Option (Int × xSt) :=
  bd2 (f_X12_isCycles S a1) fun v3 S2 =>
  bd2 (f_X12_is_p4_0 S2 r0 v3) fun v7 S6 =>
  if ¬ wr v7 = 0 then
    (bd2 (f_X12_bestOf_p4_0 S6 r0 1 1 8 a1) fun v11 S10 =>
    some (v11, S10))
  else
    (some (0, S6))
set_option maxRecDepth 100000 in
set_option maxHeartbeats 4000000 in
theorem c_X12_bestRate_p4_0 (l : Launch) {E : xE} {S S' : xSt} {r0 : Nat} {a1 : Int} (hk0 : xkd E r0 = 4) {v : Int} (h : f_X12_bestRate_p4_0 S r0 a1 = some (v, S')) : Met l yX12_bestRate (xws yX12_bestRate cX12_bestRate 2 (some .int)) (rmD 11) (YPc E [vr E r0 0, vi a1] S) (YQi E v S') 0 0 (xA E) := by
  unfold f_X12_bestRate_p4_0 at h
  refine met_i (by decide +kernel) (Nat.le_of_ble_eq_true rfl) (fun K hC hZ hE => ?_)
  have hC : xOK K cX12_bestRate RX12 2 (rmE 11 0) := hC
  show WG K E 0 [(0, vr E r0 0), (1, vi a1)] [] S
  refine g_aload_n hC rfl 0 rfl (rfl : 0 + 1 = 1) (xdt tt_X12_bestRate 0 rfl) ?_
  refine g_iload_n hC rfl 1 rfl (rfl : 1 + 1 = 2) (xdt tt_X12_bestRate 1 rfl) ?_
  obtain ⟨v3, S2, hc1, h⟩ := bd2_i h
  refine g_callSz hC hZ m_X12_isCycles q1142 (Nat.le_of_ble_eq_true rfl) [vi a1] rfl (fun l => c_X12_isCycles l hc1) rfl (Nat.le_of_ble_eq_true rfl) (rfl : 2 + 3 = 5) (xdt tt_X12_bestRate 2 rfl) (fun hb4 => ?_)
  obtain ⟨v7, S6, hc5, h⟩ := bd2_i h
  refine g_callVz hC hZ hk0 kclX12 ly4_0 m_X12_is q655 (Nat.le_of_ble_eq_true rfl) [vi v3] rfl (fun l => c_X12_is_p4_0 l hk0 hc5) rfl (Nat.le_of_ble_eq_true rfl) (rfl : 5 + 3 = 8) (xdt tt_X12_bestRate 3 rfl) (fun hb8 => ?_)
  refine g_if_ne hC (show ((8 : Nat) : Int) + 5 = ((13 : Nat) : Int) by decide) (rfl : 8 + 3 = 11) (xdt tt_X12_bestRate 4 rfl) (fun hc12 => ?_) (fun hc12 => ?_)
  · replace h := (if_pos hc12).symm.trans h
    refine g_aload_n hC rfl 0 rfl (rfl : 13 + 1 = 14) (xdt tt_X12_bestRate 7 rfl) ?_
    refine g_iconst hC (rfl : 14 + 1 = 15) (xdt tt_X12_bestRate 8 rfl) ?_
    refine g_iconst hC (rfl : 15 + 1 = 16) (xdt tt_X12_bestRate 9 rfl) ?_
    refine g_bipush hC (by decide) (rfl : 16 + 2 = 18) (xdt tt_X12_bestRate 10 rfl) ?_
    refine g_iload_n hC rfl 1 rfl (rfl : 18 + 1 = 19) (xdt tt_X12_bestRate 11 rfl) ?_
    obtain ⟨v11, S10, hc9, h⟩ := bd2_i h
    refine g_callVi hC hZ hk0 kclX12 ly4_0 m_X12_bestOf q1424 (Nat.le_of_ble_eq_true rfl) [vi 1, vi 1, vi 8, vi a1] rfl (fun l => c_X12_bestOf_p4_0 l hk0 hc9) rfl (Nat.le_of_ble_eq_true rfl) (rfl : 19 + 3 = 22) (xdt tt_X12_bestRate 12 rfl) ?_
    cases h
    exact g_iret hC hE (xdt tt_X12_bestRate 13 rfl)
  · replace h := (if_neg hc12).symm.trans h
    refine g_iconst hC (rfl : 11 + 1 = 12) (xdt tt_X12_bestRate 5 rfl) ?_
    cases h
    exact g_iret hC hE (xdt tt_X12_bestRate 6 rfl)
def f_X12_bestLoop_p4_0 (S : xSt) (r0 : Nat) (a1 : Int) : Option (Int × xSt) :=
  bd2 (f_X12_isCycles S a1) fun v3 S2 =>
  bd2 (f_X12_is_p4_0 S2 r0 v3) fun v7 S6 =>
  if ¬ wr v7 = 0 then
    (bd2 (f_X12_bestOf_p4_0 S6 r0 2 0 30 a1) fun v11 S10 =>
    some (v11, S10))
  else
    (some (0, S6))
set_option maxRecDepth 100000 in
set_option maxHeartbeats 4000000 in
theorem c_X12_bestLoop_p4_0 (l : Launch) {E : xE} {S S' : xSt} {r0 : Nat} {a1 : Int} (hk0 : xkd E r0 = 4) {v : Int} (h : f_X12_bestLoop_p4_0 S r0 a1 = some (v, S')) : Met l yX12_bestLoop (xws yX12_bestLoop cX12_bestLoop 2 (some .int)) (rmD 11) (YPc E [vr E r0 0, vi a1] S) (YQi E v S') 0 0 (xA E) := by
  unfold f_X12_bestLoop_p4_0 at h
  refine met_i (by decide +kernel) (Nat.le_of_ble_eq_true rfl) (fun K hC hZ hE => ?_)
  have hC : xOK K cX12_bestLoop RX12 2 (rmE 11 0) := hC
  show WG K E 0 [(0, vr E r0 0), (1, vi a1)] [] S
  refine g_aload_n hC rfl 0 rfl (rfl : 0 + 1 = 1) (xdt tt_X12_bestLoop 0 rfl) ?_
  refine g_iload_n hC rfl 1 rfl (rfl : 1 + 1 = 2) (xdt tt_X12_bestLoop 1 rfl) ?_
  obtain ⟨v3, S2, hc1, h⟩ := bd2_i h
  refine g_callSz hC hZ m_X12_isCycles q1142 (Nat.le_of_ble_eq_true rfl) [vi a1] rfl (fun l => c_X12_isCycles l hc1) rfl (Nat.le_of_ble_eq_true rfl) (rfl : 2 + 3 = 5) (xdt tt_X12_bestLoop 2 rfl) (fun hb4 => ?_)
  obtain ⟨v7, S6, hc5, h⟩ := bd2_i h
  refine g_callVz hC hZ hk0 kclX12 ly4_0 m_X12_is q655 (Nat.le_of_ble_eq_true rfl) [vi v3] rfl (fun l => c_X12_is_p4_0 l hk0 hc5) rfl (Nat.le_of_ble_eq_true rfl) (rfl : 5 + 3 = 8) (xdt tt_X12_bestLoop 3 rfl) (fun hb8 => ?_)
  refine g_if_ne hC (show ((8 : Nat) : Int) + 5 = ((13 : Nat) : Int) by decide) (rfl : 8 + 3 = 11) (xdt tt_X12_bestLoop 4 rfl) (fun hc12 => ?_) (fun hc12 => ?_)
  · replace h := (if_pos hc12).symm.trans h
    refine g_aload_n hC rfl 0 rfl (rfl : 13 + 1 = 14) (xdt tt_X12_bestLoop 7 rfl) ?_
    refine g_iconst hC (rfl : 14 + 1 = 15) (xdt tt_X12_bestLoop 8 rfl) ?_
    refine g_iconst hC (rfl : 15 + 1 = 16) (xdt tt_X12_bestLoop 9 rfl) ?_
    refine g_bipush hC (by decide) (rfl : 16 + 2 = 18) (xdt tt_X12_bestLoop 10 rfl) ?_
    refine g_iload_n hC rfl 1 rfl (rfl : 18 + 1 = 19) (xdt tt_X12_bestLoop 11 rfl) ?_
    obtain ⟨v11, S10, hc9, h⟩ := bd2_i h
    refine g_callVi hC hZ hk0 kclX12 ly4_0 m_X12_bestOf q1424 (Nat.le_of_ble_eq_true rfl) [vi 2, vi 0, vi 30, vi a1] rfl (fun l => c_X12_bestOf_p4_0 l hk0 hc9) rfl (Nat.le_of_ble_eq_true rfl) (rfl : 19 + 3 = 22) (xdt tt_X12_bestLoop 12 rfl) ?_
    cases h
    exact g_iret hC hE (xdt tt_X12_bestLoop 13 rfl)
  · replace h := (if_neg hc12).symm.trans h
    refine g_iconst hC (rfl : 11 + 1 = 12) (xdt tt_X12_bestLoop 5 rfl) ?_
    cases h
    exact g_iret hC hE (xdt tt_X12_bestLoop 6 rfl)
def f_X12_cyclesUntil_p4_0_b82 (r0 : Nat) (S : xSt) (x3 : Int) (s0 : Int) : Option (Int × xSt) :=
  if wr s0 = 0 then
    (bd2 (f_X12_laysBack_p4_0 S r0 (-1)) fun v15 S14 =>
    some (v15, S14))
  else
    (bd2 (f_X12_laysBack_p4_0 S r0 x3) fun v18 S17 =>
    some (v18, S17))
def f_X12_cyclesUntil_p4_0_b63 (r0 : Nat) (S : xSt) (x1 : Int) (x2 : Int) (x3 : Int) : Option (Int × xSt) :=
  ckI (203 + x1) 363 <|
  if wr (gI S r0 6 (wr (203 + x1)).toNat) ≤ wr x2 then
    (f_X12_cyclesUntil_p4_0_b82 r0 S x3 0)
  else
    (f_X12_cyclesUntil_p4_0_b82 r0 S x3 1)
def f_X12_cyclesUntil_p4_0_b31 (r0 : Nat) : Nat → xSt → Int → Int → Int → Option (Int × xSt)
  | 0, _, _, _, _ => none
  | fuel + 1, S, x1, x2, x3 =>
    if wr 500 ≤ wr x3 then
      (f_X12_cyclesUntil_p4_0_b63 r0 S x1 x2 x3)
    else
      (ckI (203 + x1) 363 <|
      if ¬ wr (gI S r0 6 (wr (203 + x1)).toNat) = wr x2 then
        (f_X12_cyclesUntil_p4_0_b63 r0 S x1 x2 x3)
      else
        (bd (f_X12_cycles_p4_0 S r0) fun S23 =>
        (f_X12_cyclesUntil_p4_0_b31 r0 fuel) S23 x1 x2 (x3 + 1)))
def f_X12_cyclesUntil_p4_0 (S : xSt) (r0 : Nat) (a1 : Int) : Option (Int × xSt) :=
  bd2 (f_X12_isNumber_p4_0 S r0 a1) fun v3 S2 =>
  bd2 (f_X12_is_p4_0 S2 r0 v3) fun v7 S6 =>
  if ¬ wr v7 = 0 then
    (bd (f_X12_tries_p4_0 S6 r0) fun S10 =>
    ckI (203 + a1) 363 <|
    f_X12_cyclesUntil_p4_0_b31 r0 (fu S10) S10 a1 (gI S10 r0 6 (wr (203 + a1)).toNat) 0)
  else
    (some (0, S6))
set_option maxRecDepth 100000 in
set_option maxHeartbeats 4000000 in
theorem k_X12_cyclesUntil_p4_0_b82 {K : xCtx} {E : xE} {b : Nat} (hC : xOK K cX12_cyclesUntil RX12 5 (rmE 8 b)) (hZ : xZ K) {v : Int} {S' : xSt} (hE : xEnd K E (some .int) (YQi E v S')) {r0 : Nat} (hk0 : xkd E r0 = 4) : ∀ (S : xSt) (x3 : Int) (s0 : Int), f_X12_cyclesUntil_p4_0_b82 r0 S x3 s0 = some (v, S') → WG K E 82 [(0, vr E r0 0), (3, vi x3)] [vi s0] S := by
  intro S x3 s0 h
  unfold f_X12_cyclesUntil_p4_0_b82 at h
  refine g_istore hC (by decide) (lv' := [(4, vi s0), (0, vr E r0 0), (3, vi x3)]) rfl (rfl : 82 + 2 = 84) (xdt tt_X12_cyclesUntil 48 rfl) ?_
  refine g_aload_n hC rfl 1 rfl (rfl : 84 + 1 = 85) (xdt tt_X12_cyclesUntil 49 rfl) ?_
  refine g_iload hC 0 rfl (rfl : 85 + 2 = 87) (xdt tt_X12_cyclesUntil 50 rfl) ?_
  refine g_if_eq hC (show ((87 : Nat) : Int) + 7 = ((94 : Nat) : Int) by decide) (rfl : 87 + 3 = 90) (xdt tt_X12_cyclesUntil 51 rfl) (fun hc19 => ?_) (fun hc19 => ?_)
  · replace h := (if_pos hc19).symm.trans h
    refine g_iconst hC (rfl : 94 + 1 = 95) (xdt tt_X12_cyclesUntil 54 rfl) ?_
    obtain ⟨v15, S14, hc13, h⟩ := bd2_i h
    refine g_callVi hC hZ hk0 kclX12 ly4_0 m_X12_laysBack q1367 (Nat.le_of_ble_eq_true rfl) [vi (-1)] rfl (fun l => c_X12_laysBack_p4_0 l hk0 hc13) rfl (Nat.le_of_ble_eq_true rfl) (rfl : 95 + 3 = 98) (xdt tt_X12_cyclesUntil 55 rfl) ?_
    cases h
    exact g_iret hC hE (xdt tt_X12_cyclesUntil 56 rfl)
  · replace h := (if_neg hc19).symm.trans h
    refine g_iload_n hC rfl 2 rfl (rfl : 90 + 1 = 91) (xdt tt_X12_cyclesUntil 52 rfl) ?_
    refine g_goto hC (show ((91 : Nat) : Int) + 4 = ((95 : Nat) : Int) by decide) (xdt tt_X12_cyclesUntil 53 rfl) ?_
    obtain ⟨v18, S17, hc16, h⟩ := bd2_i h
    refine g_callVi hC hZ hk0 kclX12 ly4_0 m_X12_laysBack q1367 (Nat.le_of_ble_eq_true rfl) [vi x3] rfl (fun l => c_X12_laysBack_p4_0 l hk0 hc16) rfl (Nat.le_of_ble_eq_true rfl) (rfl : 95 + 3 = 98) (xdt tt_X12_cyclesUntil 55 rfl) ?_
    cases h
    exact g_iret hC hE (xdt tt_X12_cyclesUntil 56 rfl)
set_option maxRecDepth 100000 in
set_option maxHeartbeats 4000000 in
theorem k_X12_cyclesUntil_p4_0_b63 {K : xCtx} {E : xE} {b : Nat} (hC : xOK K cX12_cyclesUntil RX12 5 (rmE 8 b)) (hZ : xZ K) {v : Int} {S' : xSt} (hE : xEnd K E (some .int) (YQi E v S')) {r0 : Nat} (hk0 : xkd E r0 = 4) : ∀ (S : xSt) (x1 : Int) (x2 : Int) (x3 : Int), f_X12_cyclesUntil_p4_0_b63 r0 S x1 x2 x3 = some (v, S') → WG K E 63 [(0, vr E r0 0), (1, vi x1), (2, vi x2), (3, vi x3)] [] S := by
  intro S x1 x2 x3 h
  unfold f_X12_cyclesUntil_p4_0_b63 at h
  refine g_aload_n hC rfl 0 rfl (rfl : 63 + 1 = 64) (xdt tt_X12_cyclesUntil 37 rfl) ?_
  refine g_getP hC hk0 kclX12 ly4_0 10 (by decide) (rfl : r0 + 0 = r0) rfl q201 (rfl : 64 + 3 = 67) (xdt tt_X12_cyclesUntil 38 rfl) ?_
  refine g_sipush hC (by decide) (rfl : 67 + 3 = 70) (xdt tt_X12_cyclesUntil 39 rfl) ?_
  refine g_iload_n hC rfl 1 rfl (rfl : 70 + 1 = 71) (xdt tt_X12_cyclesUntil 40 rfl) ?_
  refine g_iadd hC (rfl : 71 + 1 = 72) (xdt tt_X12_cyclesUntil 41 rfl) ?_
  obtain ⟨hi12, h⟩ := ckI_i h
  refine g_iald hC hk0 ly4_6 hi12 (rfl : 72 + 1 = 73) (xdt tt_X12_cyclesUntil 42 rfl) (k0 := (wr (203 + x1)).toNat) rfl ?_
  refine g_iload_n hC rfl 2 rfl (rfl : 73 + 1 = 74) (xdt tt_X12_cyclesUntil 43 rfl) ?_
  refine g_icmp_le hC (show ((74 : Nat) : Int) + 7 = ((81 : Nat) : Int) by decide) (rfl : 74 + 3 = 77) (xdt tt_X12_cyclesUntil 44 rfl) (fun hc20 => ?_) (fun hc20 => ?_)
  · replace h := (if_pos hc20).symm.trans h
    refine g_iconst hC (rfl : 81 + 1 = 82) (xdt tt_X12_cyclesUntil 47 rfl) ?_
    refine g_sub [0, 3] (lv' := [(0, vr E r0 0), (3, vi x3)]) rfl ?_
    exact k_X12_cyclesUntil_p4_0_b82 hC hZ hE hk0 _ _ _ h
  · replace h := (if_neg hc20).symm.trans h
    refine g_iconst hC (rfl : 77 + 1 = 78) (xdt tt_X12_cyclesUntil 45 rfl) ?_
    refine g_goto hC (show ((78 : Nat) : Int) + 4 = ((82 : Nat) : Int) by decide) (xdt tt_X12_cyclesUntil 46 rfl) ?_
    refine g_sub [0, 3] (lv' := [(0, vr E r0 0), (3, vi x3)]) rfl ?_
    exact k_X12_cyclesUntil_p4_0_b82 hC hZ hE hk0 _ _ _ h
set_option maxRecDepth 100000 in
set_option maxHeartbeats 4000000 in
theorem k_X12_cyclesUntil_p4_0_b31 {K : xCtx} {E : xE} {b : Nat} (hC : xOK K cX12_cyclesUntil RX12 5 (rmE 8 b)) (hZ : xZ K) {v : Int} {S' : xSt} (hE : xEnd K E (some .int) (YQi E v S')) {r0 : Nat} (hk0 : xkd E r0 = 4) : ∀ (fuel : Nat) (S : xSt) (x1 : Int) (x2 : Int) (x3 : Int), f_X12_cyclesUntil_p4_0_b31 r0 fuel S x1 x2 x3 = some (v, S') → WG K E 31 [(0, vr E r0 0), (1, vi x1), (2, vi x2), (3, vi x3)] [] S := by
  intro fuel
  induction fuel with
  | zero => intro S x1 x2 x3 h; cases h
  | succ fuel ih =>
    intro S x1 x2 x3 h
    rw [f_X12_cyclesUntil_p4_0_b31] at h
    refine g_iload_n hC rfl 3 rfl (rfl : 31 + 1 = 32) (xdt tt_X12_cyclesUntil 19 rfl) ?_
    refine g_sipush hC (by decide) (rfl : 32 + 3 = 35) (xdt tt_X12_cyclesUntil 20 rfl) ?_
    refine g_icmp_ge hC (show ((35 : Nat) : Int) + 28 = ((63 : Nat) : Int) by decide) (rfl : 35 + 3 = 38) (xdt tt_X12_cyclesUntil 21 rfl) (fun hc25 => ?_) (fun hc25 => ?_)
    · replace h := (if_pos hc25).symm.trans h
      refine g_sub [0, 1, 2, 3] (lv' := [(0, vr E r0 0), (1, vi x1), (2, vi x2), (3, vi x3)]) rfl ?_
      exact k_X12_cyclesUntil_p4_0_b63 hC hZ hE hk0 _ _ _ _ h
    · replace h := (if_neg hc25).symm.trans h
      refine g_aload_n hC rfl 0 rfl (rfl : 38 + 1 = 39) (xdt tt_X12_cyclesUntil 22 rfl) ?_
      refine g_getP hC hk0 kclX12 ly4_0 10 (by decide) (rfl : r0 + 0 = r0) rfl q201 (rfl : 39 + 3 = 42) (xdt tt_X12_cyclesUntil 23 rfl) ?_
      refine g_sipush hC (by decide) (rfl : 42 + 3 = 45) (xdt tt_X12_cyclesUntil 24 rfl) ?_
      refine g_iload_n hC rfl 1 rfl (rfl : 45 + 1 = 46) (xdt tt_X12_cyclesUntil 25 rfl) ?_
      refine g_iadd hC (rfl : 46 + 1 = 47) (xdt tt_X12_cyclesUntil 26 rfl) ?_
      obtain ⟨hi21, h⟩ := ckI_i h
      refine g_iald hC hk0 ly4_6 hi21 (rfl : 47 + 1 = 48) (xdt tt_X12_cyclesUntil 27 rfl) (k0 := (wr (203 + x1)).toNat) rfl ?_
      refine g_iload_n hC rfl 2 rfl (rfl : 48 + 1 = 49) (xdt tt_X12_cyclesUntil 28 rfl) ?_
      refine g_icmp_ne hC (show ((49 : Nat) : Int) + 14 = ((63 : Nat) : Int) by decide) (rfl : 49 + 3 = 52) (xdt tt_X12_cyclesUntil 29 rfl) (fun hc24 => ?_) (fun hc24 => ?_)
      · replace h := (if_pos hc24).symm.trans h
        refine g_sub [0, 1, 2, 3] (lv' := [(0, vr E r0 0), (1, vi x1), (2, vi x2), (3, vi x3)]) rfl ?_
        exact k_X12_cyclesUntil_p4_0_b63 hC hZ hE hk0 _ _ _ _ h
      · replace h := (if_neg hc24).symm.trans h
        refine g_aload_n hC rfl 0 rfl (rfl : 52 + 1 = 53) (xdt tt_X12_cyclesUntil 30 rfl) ?_
        obtain ⟨S23, hc22, h⟩ := bd_i h
        refine g_callVv hC hZ hk0 kclX12 ly4_0 m_X12_cycles q1150 (Nat.le_of_ble_eq_true rfl) [] rfl (fun l => c_X12_cycles_p4_0 l hk0 hc22) rfl (Nat.le_of_ble_eq_true rfl) (rfl : 53 + 3 = 56) (xdt tt_X12_cyclesUntil 31 rfl) ?_
        refine g_iload_n hC rfl 3 rfl (rfl : 56 + 1 = 57) (xdt tt_X12_cyclesUntil 32 rfl) ?_
        refine g_iconst hC (rfl : 57 + 1 = 58) (xdt tt_X12_cyclesUntil 33 rfl) ?_
        refine g_iadd hC (rfl : 58 + 1 = 59) (xdt tt_X12_cyclesUntil 34 rfl) ?_
        refine g_istore_n hC rfl (by decide) (lv' := [(3, vi (x3 + 1)), (0, vr E r0 0), (1, vi x1), (2, vi x2)]) rfl (rfl : 59 + 1 = 60) (xdt tt_X12_cyclesUntil 35 rfl) ?_
        refine g_goto hC (show ((60 : Nat) : Int) + (-29) = ((31 : Nat) : Int) by decide) (xdt tt_X12_cyclesUntil 36 rfl) ?_
        refine g_sub [1, 2, 3, 0] (lv' := [(0, vr E r0 0), (1, vi x1), (2, vi x2), (3, vi (x3 + 1))]) rfl ?_
        exact ih _ _ _ _ h
set_option maxRecDepth 100000 in
set_option maxHeartbeats 4000000 in
theorem c_X12_cyclesUntil_p4_0 (l : Launch) {E : xE} {S S' : xSt} {r0 : Nat} {a1 : Int} (hk0 : xkd E r0 = 4) {v : Int} (h : f_X12_cyclesUntil_p4_0 S r0 a1 = some (v, S')) : Met l yX12_cyclesUntil (xws yX12_cyclesUntil cX12_cyclesUntil 5 (some .int)) (rmD 8) (YPc E [vr E r0 0, vi a1] S) (YQi E v S') 0 0 (xA E) := by
  unfold f_X12_cyclesUntil_p4_0 at h
  refine met_i (by decide +kernel) (Nat.le_of_ble_eq_true rfl) (fun K hC hZ hE => ?_)
  have hC : xOK K cX12_cyclesUntil RX12 5 (rmE 8 0) := hC
  show WG K E 0 [(0, vr E r0 0), (1, vi a1)] [] S
  refine g_aload_n hC rfl 0 rfl (rfl : 0 + 1 = 1) (xdt tt_X12_cyclesUntil 0 rfl) ?_
  refine g_aload_n hC rfl 0 rfl (rfl : 1 + 1 = 2) (xdt tt_X12_cyclesUntil 1 rfl) ?_
  refine g_iload_n hC rfl 1 rfl (rfl : 2 + 1 = 3) (xdt tt_X12_cyclesUntil 2 rfl) ?_
  obtain ⟨v3, S2, hc1, h⟩ := bd2_i h
  refine g_callVz hC hZ hk0 kclX12 ly4_0 m_X12_isNumber q651 (Nat.le_of_ble_eq_true rfl) [vi a1] rfl (fun l => c_X12_isNumber_p4_0 l hk0 hc1) rfl (Nat.le_of_ble_eq_true rfl) (rfl : 3 + 3 = 6) (xdt tt_X12_cyclesUntil 3 rfl) (fun hb4 => ?_)
  obtain ⟨v7, S6, hc5, h⟩ := bd2_i h
  refine g_callVz hC hZ hk0 kclX12 ly4_0 m_X12_is q655 (Nat.le_of_ble_eq_true rfl) [vi v3] rfl (fun l => c_X12_is_p4_0 l hk0 hc5) rfl (Nat.le_of_ble_eq_true rfl) (rfl : 6 + 3 = 9) (xdt tt_X12_cyclesUntil 4 rfl) (fun hb8 => ?_)
  refine g_if_ne hC (show ((9 : Nat) : Int) + 5 = ((14 : Nat) : Int) by decide) (rfl : 9 + 3 = 12) (xdt tt_X12_cyclesUntil 5 rfl) (fun hc26 => ?_) (fun hc26 => ?_)
  · replace h := (if_pos hc26).symm.trans h
    refine g_aload_n hC rfl 0 rfl (rfl : 14 + 1 = 15) (xdt tt_X12_cyclesUntil 8 rfl) ?_
    obtain ⟨S10, hc9, h⟩ := bd_i h
    refine g_callVv hC hZ hk0 kclX12 ly4_0 m_X12_tries q1363 (Nat.le_of_ble_eq_true rfl) [] rfl (fun l => c_X12_tries_p4_0 l hk0 hc9) rfl (Nat.le_of_ble_eq_true rfl) (rfl : 15 + 3 = 18) (xdt tt_X12_cyclesUntil 9 rfl) ?_
    refine g_aload_n hC rfl 0 rfl (rfl : 18 + 1 = 19) (xdt tt_X12_cyclesUntil 10 rfl) ?_
    refine g_getP hC hk0 kclX12 ly4_0 10 (by decide) (rfl : r0 + 0 = r0) rfl q201 (rfl : 19 + 3 = 22) (xdt tt_X12_cyclesUntil 11 rfl) ?_
    refine g_sipush hC (by decide) (rfl : 22 + 3 = 25) (xdt tt_X12_cyclesUntil 12 rfl) ?_
    refine g_iload_n hC rfl 1 rfl (rfl : 25 + 1 = 26) (xdt tt_X12_cyclesUntil 13 rfl) ?_
    refine g_iadd hC (rfl : 26 + 1 = 27) (xdt tt_X12_cyclesUntil 14 rfl) ?_
    obtain ⟨hi11, h⟩ := ckI_i h
    refine g_iald hC hk0 ly4_6 hi11 (rfl : 27 + 1 = 28) (xdt tt_X12_cyclesUntil 15 rfl) (k0 := (wr (203 + a1)).toNat) rfl ?_
    refine g_istore_n hC rfl (by decide) (lv' := [(2, vi (gI S10 r0 6 (wr (203 + a1)).toNat)), (0, vr E r0 0), (1, vi a1)]) rfl (rfl : 28 + 1 = 29) (xdt tt_X12_cyclesUntil 16 rfl) ?_
    refine g_iconst hC (rfl : 29 + 1 = 30) (xdt tt_X12_cyclesUntil 17 rfl) ?_
    refine g_istore_n hC rfl (by decide) (lv' := [(3, vi 0), (2, vi (gI S10 r0 6 (wr (203 + a1)).toNat)), (0, vr E r0 0), (1, vi a1)]) rfl (rfl : 30 + 1 = 31) (xdt tt_X12_cyclesUntil 18 rfl) ?_
    refine g_sub [2, 3, 1, 0] (lv' := [(0, vr E r0 0), (1, vi a1), (2, vi (gI S10 r0 6 (wr (203 + a1)).toNat)), (3, vi 0)]) rfl ?_
    exact k_X12_cyclesUntil_p4_0_b31 hC hZ hE hk0 _ _ _ _ _ h
  · replace h := (if_neg hc26).symm.trans h
    refine g_iconst hC (rfl : 12 + 1 = 13) (xdt tt_X12_cyclesUntil 6 rfl) ?_
    cases h
    exact g_iret hC hE (xdt tt_X12_cyclesUntil 7 rfl)
def f_X12_mainCauseIn_p4_0_b41 (r0 : Nat) : Nat → xSt → Int → Int → Int → Option (Int × xSt)
  | 0, _, _, _, _ => none
  | fuel + 1, S, x2, x3, x4 =>
    if wr 8 < wr x4 then
      (bd2 (f_X12_laysBack_p4_0 S r0 x2) fun v13 S12 =>
      some (v13, S12))
    else
      (ckI (25 + x4) 363 <|
      ckI (25 + x4) 363 <|
      if wr x3 < wr ((gI S r0 6 (wr (25 + x4)).toNat) - (gI S r0 9 (wr (25 + x4)).toNat)) then
        ((f_X12_mainCauseIn_p4_0_b41 r0 fuel) S x4 ((gI S r0 6 (wr (25 + x4)).toNat) - (gI S r0 9 (wr (25 + x4)).toNat)) (x4 + 1))
      else
        ((f_X12_mainCauseIn_p4_0_b41 r0 fuel) S x2 x3 (x4 + 1)))
def f_X12_mainCauseIn_p4_0_b19 (r0 : Nat) : Nat → xSt → Int → Int → Option (Int × xSt)
  | 0, _, _, _ => none
  | fuel + 1, S, x1, x2 =>
    if wr x1 ≤ wr x2 then
      (f_X12_mainCauseIn_p4_0_b41 r0 (fu S) S (-1) 0 1)
    else
      (bd (f_X12_cycles_p4_0 S r0) fun S19 =>
      (f_X12_mainCauseIn_p4_0_b19 r0 fuel) S19 x1 (x2 + 1))
def f_X12_mainCauseIn_p4_0 (S : xSt) (r0 : Nat) (a1 : Int) : Option (Int × xSt) :=
  bd2 (f_X12_isCycles S a1) fun v3 S2 =>
  bd2 (f_X12_is_p4_0 S2 r0 v3) fun v7 S6 =>
  if ¬ wr v7 = 0 then
    (bd (f_X12_tries_p4_0 S6 r0) fun S10 =>
    f_X12_mainCauseIn_p4_0_b19 r0 (fu S10) S10 a1 0)
  else
    (some (0, S6))
set_option maxRecDepth 100000 in
set_option maxHeartbeats 4000000 in
theorem k_X12_mainCauseIn_p4_0_b41 {K : xCtx} {E : xE} {b : Nat} (hC : xOK K cX12_mainCauseIn RX12 6 (rmE 8 b)) (hZ : xZ K) {v : Int} {S' : xSt} (hE : xEnd K E (some .int) (YQi E v S')) {r0 : Nat} (hk0 : xkd E r0 = 4) : ∀ (fuel : Nat) (S : xSt) (x2 : Int) (x3 : Int) (x4 : Int), f_X12_mainCauseIn_p4_0_b41 r0 fuel S x2 x3 x4 = some (v, S') → WG K E 41 [(0, vr E r0 0), (2, vi x2), (3, vi x3), (4, vi x4)] [] S := by
  intro fuel
  induction fuel with
  | zero => intro S x2 x3 x4 h; cases h
  | succ fuel ih =>
    intro S x2 x3 x4 h
    rw [f_X12_mainCauseIn_p4_0_b41] at h
    refine g_iload hC 3 rfl (rfl : 41 + 2 = 43) (xdt tt_X12_mainCauseIn 24 rfl) ?_
    refine g_bipush hC (by decide) (rfl : 43 + 2 = 45) (xdt tt_X12_mainCauseIn 25 rfl) ?_
    refine g_icmp_gt hC (show ((45 : Nat) : Int) + 47 = ((92 : Nat) : Int) by decide) (rfl : 45 + 3 = 48) (xdt tt_X12_mainCauseIn 26 rfl) (fun hc17 => ?_) (fun hc17 => ?_)
    · replace h := (if_pos hc17).symm.trans h
      refine g_aload_n hC rfl 0 rfl (rfl : 92 + 1 = 93) (xdt tt_X12_mainCauseIn 51 rfl) ?_
      refine g_iload_n hC rfl 1 rfl (rfl : 93 + 1 = 94) (xdt tt_X12_mainCauseIn 52 rfl) ?_
      obtain ⟨v13, S12, hc11, h⟩ := bd2_i h
      refine g_callVi hC hZ hk0 kclX12 ly4_0 m_X12_laysBack q1367 (Nat.le_of_ble_eq_true rfl) [vi x2] rfl (fun l => c_X12_laysBack_p4_0 l hk0 hc11) rfl (Nat.le_of_ble_eq_true rfl) (rfl : 94 + 3 = 97) (xdt tt_X12_mainCauseIn 53 rfl) ?_
      cases h
      exact g_iret hC hE (xdt tt_X12_mainCauseIn 54 rfl)
    · replace h := (if_neg hc17).symm.trans h
      refine g_aload_n hC rfl 0 rfl (rfl : 48 + 1 = 49) (xdt tt_X12_mainCauseIn 27 rfl) ?_
      refine g_getP hC hk0 kclX12 ly4_0 10 (by decide) (rfl : r0 + 0 = r0) rfl q201 (rfl : 49 + 3 = 52) (xdt tt_X12_mainCauseIn 28 rfl) ?_
      refine g_bipush hC (by decide) (rfl : 52 + 2 = 54) (xdt tt_X12_mainCauseIn 29 rfl) ?_
      refine g_iload hC 3 rfl (rfl : 54 + 2 = 56) (xdt tt_X12_mainCauseIn 30 rfl) ?_
      refine g_iadd hC (rfl : 56 + 1 = 57) (xdt tt_X12_mainCauseIn 31 rfl) ?_
      obtain ⟨hi14, h⟩ := ckI_i h
      refine g_iald hC hk0 ly4_6 hi14 (rfl : 57 + 1 = 58) (xdt tt_X12_mainCauseIn 32 rfl) (k0 := (wr (25 + x4)).toNat) rfl ?_
      refine g_aload_n hC rfl 0 rfl (rfl : 58 + 1 = 59) (xdt tt_X12_mainCauseIn 33 rfl) ?_
      refine g_getP hC hk0 kclX12 ly4_0 13 (by decide) (rfl : r0 + 0 = r0) rfl q204 (rfl : 59 + 3 = 62) (xdt tt_X12_mainCauseIn 34 rfl) ?_
      refine g_bipush hC (by decide) (rfl : 62 + 2 = 64) (xdt tt_X12_mainCauseIn 35 rfl) ?_
      refine g_iload hC 3 rfl (rfl : 64 + 2 = 66) (xdt tt_X12_mainCauseIn 36 rfl) ?_
      refine g_iadd hC (rfl : 66 + 1 = 67) (xdt tt_X12_mainCauseIn 37 rfl) ?_
      obtain ⟨hi15, h⟩ := ckI_i h
      refine g_iald hC hk0 ly4_9 hi15 (rfl : 67 + 1 = 68) (xdt tt_X12_mainCauseIn 38 rfl) (k0 := (wr (25 + x4)).toNat) rfl ?_
      refine g_isub hC (rfl : 68 + 1 = 69) (xdt tt_X12_mainCauseIn 39 rfl) ?_
      refine g_istore hC (by decide) (lv' := [(5, vi ((gI S r0 6 (wr (25 + x4)).toNat) - (gI S r0 9 (wr (25 + x4)).toNat))), (0, vr E r0 0), (2, vi x2), (3, vi x3), (4, vi x4)]) rfl (rfl : 69 + 2 = 71) (xdt tt_X12_mainCauseIn 40 rfl) ?_
      refine g_iload hC 0 rfl (rfl : 71 + 2 = 73) (xdt tt_X12_mainCauseIn 41 rfl) ?_
      refine g_iload_n hC rfl 3 rfl (rfl : 73 + 1 = 74) (xdt tt_X12_mainCauseIn 42 rfl) ?_
      refine g_icmp_gt hC (show ((74 : Nat) : Int) + 6 = ((80 : Nat) : Int) by decide) (rfl : 74 + 3 = 77) (xdt tt_X12_mainCauseIn 43 rfl) (fun hc16 => ?_) (fun hc16 => ?_)
      · replace h := (if_pos hc16).symm.trans h
        refine g_iload hC 4 rfl (rfl : 80 + 2 = 82) (xdt tt_X12_mainCauseIn 45 rfl) ?_
        refine g_istore_n hC rfl (by decide) (lv' := [(2, vi x4), (5, vi ((gI S r0 6 (wr (25 + x4)).toNat) - (gI S r0 9 (wr (25 + x4)).toNat))), (0, vr E r0 0), (3, vi x3), (4, vi x4)]) rfl (rfl : 82 + 1 = 83) (xdt tt_X12_mainCauseIn 46 rfl) ?_
        refine g_iload hC 1 rfl (rfl : 83 + 2 = 85) (xdt tt_X12_mainCauseIn 47 rfl) ?_
        refine g_istore_n hC rfl (by decide) (lv' := [(3, vi ((gI S r0 6 (wr (25 + x4)).toNat) - (gI S r0 9 (wr (25 + x4)).toNat))), (2, vi x4), (5, vi ((gI S r0 6 (wr (25 + x4)).toNat) - (gI S r0 9 (wr (25 + x4)).toNat))), (0, vr E r0 0), (4, vi x4)]) rfl (rfl : 85 + 1 = 86) (xdt tt_X12_mainCauseIn 48 rfl) ?_
        refine g_iinc hC 4 rfl (by decide) (lv' := [(4, vi (x4 + 1)), (3, vi ((gI S r0 6 (wr (25 + x4)).toNat) - (gI S r0 9 (wr (25 + x4)).toNat))), (2, vi x4), (5, vi ((gI S r0 6 (wr (25 + x4)).toNat) - (gI S r0 9 (wr (25 + x4)).toNat))), (0, vr E r0 0)]) rfl (rfl : 86 + 3 = 89) (xdt tt_X12_mainCauseIn 49 rfl) ?_
        refine g_goto hC (show ((89 : Nat) : Int) + (-48) = ((41 : Nat) : Int) by decide) (xdt tt_X12_mainCauseIn 50 rfl) ?_
        refine g_sub [4, 2, 1, 0] (lv' := [(0, vr E r0 0), (2, vi x4), (3, vi ((gI S r0 6 (wr (25 + x4)).toNat) - (gI S r0 9 (wr (25 + x4)).toNat))), (4, vi (x4 + 1))]) rfl ?_
        exact ih _ _ _ _ h
      · replace h := (if_neg hc16).symm.trans h
        refine g_goto hC (show ((77 : Nat) : Int) + 9 = ((86 : Nat) : Int) by decide) (xdt tt_X12_mainCauseIn 44 rfl) ?_
        refine g_iinc hC 4 rfl (by decide) (lv' := [(4, vi (x4 + 1)), (5, vi ((gI S r0 6 (wr (25 + x4)).toNat) - (gI S r0 9 (wr (25 + x4)).toNat))), (0, vr E r0 0), (2, vi x2), (3, vi x3)]) rfl (rfl : 86 + 3 = 89) (xdt tt_X12_mainCauseIn 49 rfl) ?_
        refine g_goto hC (show ((89 : Nat) : Int) + (-48) = ((41 : Nat) : Int) by decide) (xdt tt_X12_mainCauseIn 50 rfl) ?_
        refine g_sub [2, 3, 4, 0] (lv' := [(0, vr E r0 0), (2, vi x2), (3, vi x3), (4, vi (x4 + 1))]) rfl ?_
        exact ih _ _ _ _ h
set_option maxRecDepth 100000 in
set_option maxHeartbeats 4000000 in
theorem k_X12_mainCauseIn_p4_0_b19 {K : xCtx} {E : xE} {b : Nat} (hC : xOK K cX12_mainCauseIn RX12 6 (rmE 8 b)) (hZ : xZ K) {v : Int} {S' : xSt} (hE : xEnd K E (some .int) (YQi E v S')) {r0 : Nat} (hk0 : xkd E r0 = 4) : ∀ (fuel : Nat) (S : xSt) (x1 : Int) (x2 : Int), f_X12_mainCauseIn_p4_0_b19 r0 fuel S x1 x2 = some (v, S') → WG K E 19 [(0, vr E r0 0), (1, vi x1), (2, vi x2)] [] S := by
  intro fuel
  induction fuel with
  | zero => intro S x1 x2 h; cases h
  | succ fuel ih =>
    intro S x1 x2 h
    rw [f_X12_mainCauseIn_p4_0_b19] at h
    refine g_iload_n hC rfl 2 rfl (rfl : 19 + 1 = 20) (xdt tt_X12_mainCauseIn 11 rfl) ?_
    refine g_iload_n hC rfl 1 rfl (rfl : 20 + 1 = 21) (xdt tt_X12_mainCauseIn 12 rfl) ?_
    refine g_icmp_ge hC (show ((21 : Nat) : Int) + 13 = ((34 : Nat) : Int) by decide) (rfl : 21 + 3 = 24) (xdt tt_X12_mainCauseIn 13 rfl) (fun hc20 => ?_) (fun hc20 => ?_)
    · replace h := (if_pos hc20).symm.trans h
      refine g_iconst hC (rfl : 34 + 1 = 35) (xdt tt_X12_mainCauseIn 18 rfl) ?_
      refine g_istore_n hC rfl (by decide) (lv' := [(2, vi (-1)), (0, vr E r0 0), (1, vi x1)]) rfl (rfl : 35 + 1 = 36) (xdt tt_X12_mainCauseIn 19 rfl) ?_
      refine g_iconst hC (rfl : 36 + 1 = 37) (xdt tt_X12_mainCauseIn 20 rfl) ?_
      refine g_istore_n hC rfl (by decide) (lv' := [(3, vi 0), (2, vi (-1)), (0, vr E r0 0), (1, vi x1)]) rfl (rfl : 37 + 1 = 38) (xdt tt_X12_mainCauseIn 21 rfl) ?_
      refine g_iconst hC (rfl : 38 + 1 = 39) (xdt tt_X12_mainCauseIn 22 rfl) ?_
      refine g_istore hC (by decide) (lv' := [(4, vi 1), (3, vi 0), (2, vi (-1)), (0, vr E r0 0), (1, vi x1)]) rfl (rfl : 39 + 2 = 41) (xdt tt_X12_mainCauseIn 23 rfl) ?_
      refine g_sub [3, 2, 1, 0] (lv' := [(0, vr E r0 0), (2, vi (-1)), (3, vi 0), (4, vi 1)]) rfl ?_
      exact k_X12_mainCauseIn_p4_0_b41 hC hZ hE hk0 _ _ _ _ _ h
    · replace h := (if_neg hc20).symm.trans h
      refine g_aload_n hC rfl 0 rfl (rfl : 24 + 1 = 25) (xdt tt_X12_mainCauseIn 14 rfl) ?_
      obtain ⟨S19, hc18, h⟩ := bd_i h
      refine g_callVv hC hZ hk0 kclX12 ly4_0 m_X12_cycles q1150 (Nat.le_of_ble_eq_true rfl) [] rfl (fun l => c_X12_cycles_p4_0 l hk0 hc18) rfl (Nat.le_of_ble_eq_true rfl) (rfl : 25 + 3 = 28) (xdt tt_X12_mainCauseIn 15 rfl) ?_
      refine g_iinc hC 2 rfl (by decide) (lv' := [(2, vi (x2 + 1)), (0, vr E r0 0), (1, vi x1)]) rfl (rfl : 28 + 3 = 31) (xdt tt_X12_mainCauseIn 16 rfl) ?_
      refine g_goto hC (show ((31 : Nat) : Int) + (-12) = ((19 : Nat) : Int) by decide) (xdt tt_X12_mainCauseIn 17 rfl) ?_
      refine g_sub [1, 2, 0] (lv' := [(0, vr E r0 0), (1, vi x1), (2, vi (x2 + 1))]) rfl ?_
      exact ih _ _ _ h
set_option maxRecDepth 100000 in
set_option maxHeartbeats 4000000 in
theorem c_X12_mainCauseIn_p4_0 (l : Launch) {E : xE} {S S' : xSt} {r0 : Nat} {a1 : Int} (hk0 : xkd E r0 = 4) {v : Int} (h : f_X12_mainCauseIn_p4_0 S r0 a1 = some (v, S')) : Met l yX12_mainCauseIn (xws yX12_mainCauseIn cX12_mainCauseIn 6 (some .int)) (rmD 8) (YPc E [vr E r0 0, vi a1] S) (YQi E v S') 0 0 (xA E) := by
  unfold f_X12_mainCauseIn_p4_0 at h
  refine met_i (by decide +kernel) (Nat.le_of_ble_eq_true rfl) (fun K hC hZ hE => ?_)
  have hC : xOK K cX12_mainCauseIn RX12 6 (rmE 8 0) := hC
  show WG K E 0 [(0, vr E r0 0), (1, vi a1)] [] S
  refine g_aload_n hC rfl 0 rfl (rfl : 0 + 1 = 1) (xdt tt_X12_mainCauseIn 0 rfl) ?_
  refine g_iload_n hC rfl 1 rfl (rfl : 1 + 1 = 2) (xdt tt_X12_mainCauseIn 1 rfl) ?_
  obtain ⟨v3, S2, hc1, h⟩ := bd2_i h
  refine g_callSz hC hZ m_X12_isCycles q1142 (Nat.le_of_ble_eq_true rfl) [vi a1] rfl (fun l => c_X12_isCycles l hc1) rfl (Nat.le_of_ble_eq_true rfl) (rfl : 2 + 3 = 5) (xdt tt_X12_mainCauseIn 2 rfl) (fun hb4 => ?_)
  obtain ⟨v7, S6, hc5, h⟩ := bd2_i h
  refine g_callVz hC hZ hk0 kclX12 ly4_0 m_X12_is q655 (Nat.le_of_ble_eq_true rfl) [vi v3] rfl (fun l => c_X12_is_p4_0 l hk0 hc5) rfl (Nat.le_of_ble_eq_true rfl) (rfl : 5 + 3 = 8) (xdt tt_X12_mainCauseIn 3 rfl) (fun hb8 => ?_)
  refine g_if_ne hC (show ((8 : Nat) : Int) + 5 = ((13 : Nat) : Int) by decide) (rfl : 8 + 3 = 11) (xdt tt_X12_mainCauseIn 4 rfl) (fun hc21 => ?_) (fun hc21 => ?_)
  · replace h := (if_pos hc21).symm.trans h
    refine g_aload_n hC rfl 0 rfl (rfl : 13 + 1 = 14) (xdt tt_X12_mainCauseIn 7 rfl) ?_
    obtain ⟨S10, hc9, h⟩ := bd_i h
    refine g_callVv hC hZ hk0 kclX12 ly4_0 m_X12_tries q1363 (Nat.le_of_ble_eq_true rfl) [] rfl (fun l => c_X12_tries_p4_0 l hk0 hc9) rfl (Nat.le_of_ble_eq_true rfl) (rfl : 14 + 3 = 17) (xdt tt_X12_mainCauseIn 8 rfl) ?_
    refine g_iconst hC (rfl : 17 + 1 = 18) (xdt tt_X12_mainCauseIn 9 rfl) ?_
    refine g_istore_n hC rfl (by decide) (lv' := [(2, vi 0), (0, vr E r0 0), (1, vi a1)]) rfl (rfl : 18 + 1 = 19) (xdt tt_X12_mainCauseIn 10 rfl) ?_
    refine g_sub [1, 2, 0] (lv' := [(0, vr E r0 0), (1, vi a1), (2, vi 0)]) rfl ?_
    exact k_X12_mainCauseIn_p4_0_b19 hC hZ hE hk0 _ _ _ _ h
  · replace h := (if_neg hc21).symm.trans h
    refine g_iconst hC (rfl : 11 + 1 = 12) (xdt tt_X12_mainCauseIn 5 rfl) ?_
    cases h
    exact g_iret hC hE (xdt tt_X12_mainCauseIn 6 rfl)
def f_X12_ruleGain_p4_0_b21 (r0 : Nat) (S : xSt) (x1 : Int) (x2 : Int) (x3 : Int) (s0 : Int) : Option (Int × xSt) :=
  bd2 (f_X12_is_p4_0 S r0 s0) fun v7 S6 =>
  if ¬ wr v7 = 0 then
    (bd2 (f_X12_hasRule_p4_0 S6 r0 x1 x2) fun v11 S10 =>
    if wr v11 = 0 then
      (bd2 (f_X12_decodedByRule_p4_0 S10 r0 x1 x2 x3) fun v15 S14 =>
      bd2 (f_X12_decodedWith_p4_0 S14 r0 0 (gI S14 r0 6 0) x3) fun v18 S17 =>
      some ((v15 - v18), S17))
    else
      (some (0, S10)))
  else
    (some (0, S6))
def f_X12_ruleGain_p4_0_b20 (r0 : Nat) (S : xSt) (x1 : Int) (x2 : Int) (x3 : Int) : Option (Int × xSt) :=
  f_X12_ruleGain_p4_0_b21 r0 S x1 x2 x3 0
def f_X12_ruleGain_p4_0 (S : xSt) (r0 : Nat) (a1 : Int) (a2 : Int) (a3 : Int) : Option (Int × xSt) :=
  bd2 (f_X12_areKinds S a1 a2) fun v3 S2 =>
  if wr v3 = 0 then
    (f_X12_ruleGain_p4_0_b20 r0 S2 a1 a2 a3)
  else
    (bd2 (f_X12_isCycles S2 a3) fun v23 S22 =>
    if wr v23 = 0 then
      (f_X12_ruleGain_p4_0_b20 r0 S22 a1 a2 a3)
    else
      (f_X12_ruleGain_p4_0_b21 r0 S22 a1 a2 a3 1))
set_option maxRecDepth 100000 in
set_option maxHeartbeats 4000000 in
theorem k_X12_ruleGain_p4_0_b21 {K : xCtx} {E : xE} {b : Nat} (hC : xOK K cX12_ruleGain RX12 4 (rmE 10 b)) (hZ : xZ K) {v : Int} {S' : xSt} (hE : xEnd K E (some .int) (YQi E v S')) {r0 : Nat} (hk0 : xkd E r0 = 4) : ∀ (S : xSt) (x1 : Int) (x2 : Int) (x3 : Int) (s0 : Int), f_X12_ruleGain_p4_0_b21 r0 S x1 x2 x3 s0 = some (v, S') → WG K E 21 [(0, vr E r0 0), (1, vi x1), (2, vi x2), (3, vi x3)] [vi s0, vr E r0 0] S := by
  intro S x1 x2 x3 s0 h
  unfold f_X12_ruleGain_p4_0_b21 at h
  obtain ⟨v7, S6, hc5, h⟩ := bd2_i h
  refine g_callVz hC hZ hk0 kclX12 ly4_0 m_X12_is q655 (Nat.le_of_ble_eq_true rfl) [vi s0] rfl (fun l => c_X12_is_p4_0 l hk0 hc5) rfl (Nat.le_of_ble_eq_true rfl) (rfl : 21 + 3 = 24) (xdt tt_X12_ruleGain 11 rfl) (fun hb8 => ?_)
  refine g_if_ne hC (show ((24 : Nat) : Int) + 5 = ((29 : Nat) : Int) by decide) (rfl : 24 + 3 = 27) (xdt tt_X12_ruleGain 12 rfl) (fun hc20 => ?_) (fun hc20 => ?_)
  · replace h := (if_pos hc20).symm.trans h
    refine g_aload_n hC rfl 0 rfl (rfl : 29 + 1 = 30) (xdt tt_X12_ruleGain 15 rfl) ?_
    refine g_iload_n hC rfl 1 rfl (rfl : 30 + 1 = 31) (xdt tt_X12_ruleGain 16 rfl) ?_
    refine g_iload_n hC rfl 2 rfl (rfl : 31 + 1 = 32) (xdt tt_X12_ruleGain 17 rfl) ?_
    obtain ⟨v11, S10, hc9, h⟩ := bd2_i h
    refine g_callVz hC hZ hk0 kclX12 ly4_0 m_X12_hasRule q735 (Nat.le_of_ble_eq_true rfl) [vi x1, vi x2] rfl (fun l => c_X12_hasRule_p4_0 l hk0 hc9) rfl (Nat.le_of_ble_eq_true rfl) (rfl : 32 + 3 = 35) (xdt tt_X12_ruleGain 18 rfl) (fun hb12 => ?_)
    refine g_if_eq hC (show ((35 : Nat) : Int) + 5 = ((40 : Nat) : Int) by decide) (rfl : 35 + 3 = 38) (xdt tt_X12_ruleGain 19 rfl) (fun hc19 => ?_) (fun hc19 => ?_)
    · replace h := (if_pos hc19).symm.trans h
      refine g_aload_n hC rfl 0 rfl (rfl : 40 + 1 = 41) (xdt tt_X12_ruleGain 22 rfl) ?_
      refine g_iload_n hC rfl 1 rfl (rfl : 41 + 1 = 42) (xdt tt_X12_ruleGain 23 rfl) ?_
      refine g_iload_n hC rfl 2 rfl (rfl : 42 + 1 = 43) (xdt tt_X12_ruleGain 24 rfl) ?_
      refine g_iload_n hC rfl 3 rfl (rfl : 43 + 1 = 44) (xdt tt_X12_ruleGain 25 rfl) ?_
      obtain ⟨v15, S14, hc13, h⟩ := bd2_i h
      refine g_callVi hC hZ hk0 kclX12 ly4_0 m_X12_decodedByRule q1491 (Nat.le_of_ble_eq_true rfl) [vi x1, vi x2, vi x3] rfl (fun l => c_X12_decodedByRule_p4_0 l hk0 hc13) rfl (Nat.le_of_ble_eq_true rfl) (rfl : 44 + 3 = 47) (xdt tt_X12_ruleGain 26 rfl) ?_
      refine g_aload_n hC rfl 0 rfl (rfl : 47 + 1 = 48) (xdt tt_X12_ruleGain 27 rfl) ?_
      refine g_iconst hC (rfl : 48 + 1 = 49) (xdt tt_X12_ruleGain 28 rfl) ?_
      refine g_aload_n hC rfl 0 rfl (rfl : 49 + 1 = 50) (xdt tt_X12_ruleGain 29 rfl) ?_
      refine g_getP hC hk0 kclX12 ly4_0 10 (by decide) (rfl : r0 + 0 = r0) rfl q201 (rfl : 50 + 3 = 53) (xdt tt_X12_ruleGain 30 rfl) ?_
      refine g_iconst hC (rfl : 53 + 1 = 54) (xdt tt_X12_ruleGain 31 rfl) ?_
      refine g_iald hC hk0 ly4_6 (by decide) (rfl : 54 + 1 = 55) (xdt tt_X12_ruleGain 32 rfl) (k0 := 0) (by decide) ?_
      refine g_iload_n hC rfl 3 rfl (rfl : 55 + 1 = 56) (xdt tt_X12_ruleGain 33 rfl) ?_
      obtain ⟨v18, S17, hc16, h⟩ := bd2_i h
      refine g_callVi hC hZ hk0 kclX12 ly4_0 m_X12_decodedWith q1428 (Nat.le_of_ble_eq_true rfl) [vi 0, vi (gI S14 r0 6 0), vi x3] rfl (fun l => c_X12_decodedWith_p4_0 l hk0 hc16) rfl (Nat.le_of_ble_eq_true rfl) (rfl : 56 + 3 = 59) (xdt tt_X12_ruleGain 34 rfl) ?_
      refine g_isub hC (rfl : 59 + 1 = 60) (xdt tt_X12_ruleGain 35 rfl) ?_
      cases h
      exact g_iret hC hE (xdt tt_X12_ruleGain 36 rfl)
    · replace h := (if_neg hc19).symm.trans h
      refine g_iconst hC (rfl : 38 + 1 = 39) (xdt tt_X12_ruleGain 20 rfl) ?_
      cases h
      exact g_iret hC hE (xdt tt_X12_ruleGain 21 rfl)
  · replace h := (if_neg hc20).symm.trans h
    refine g_iconst hC (rfl : 27 + 1 = 28) (xdt tt_X12_ruleGain 13 rfl) ?_
    cases h
    exact g_iret hC hE (xdt tt_X12_ruleGain 14 rfl)
set_option maxRecDepth 100000 in
set_option maxHeartbeats 4000000 in
theorem k_X12_ruleGain_p4_0_b20 {K : xCtx} {E : xE} {b : Nat} (hC : xOK K cX12_ruleGain RX12 4 (rmE 10 b)) (hZ : xZ K) {v : Int} {S' : xSt} (hE : xEnd K E (some .int) (YQi E v S')) {r0 : Nat} (hk0 : xkd E r0 = 4) : ∀ (S : xSt) (x1 : Int) (x2 : Int) (x3 : Int), f_X12_ruleGain_p4_0_b20 r0 S x1 x2 x3 = some (v, S') → WG K E 20 [(0, vr E r0 0), (1, vi x1), (2, vi x2), (3, vi x3)] [vr E r0 0] S := by
  intro S x1 x2 x3 h
  unfold f_X12_ruleGain_p4_0_b20 at h
  refine g_iconst hC (rfl : 20 + 1 = 21) (xdt tt_X12_ruleGain 10 rfl) ?_
  refine g_sub [0, 1, 2, 3] (lv' := [(0, vr E r0 0), (1, vi x1), (2, vi x2), (3, vi x3)]) rfl ?_
  exact k_X12_ruleGain_p4_0_b21 hC hZ hE hk0 _ _ _ _ _ h
set_option maxRecDepth 100000 in
set_option maxHeartbeats 4000000 in
theorem c_X12_ruleGain_p4_0 (l : Launch) {E : xE} {S S' : xSt} {r0 : Nat} {a1 : Int} {a2 : Int} {a3 : Int} (hk0 : xkd E r0 = 4) {v : Int} (h : f_X12_ruleGain_p4_0 S r0 a1 a2 a3 = some (v, S')) : Met l yX12_ruleGain (xws yX12_ruleGain cX12_ruleGain 4 (some .int)) (rmD 10) (YPc E [vr E r0 0, vi a1, vi a2, vi a3] S) (YQi E v S') 0 0 (xA E) := by
  unfold f_X12_ruleGain_p4_0 at h
  refine met_i (by decide +kernel) (Nat.le_of_ble_eq_true rfl) (fun K hC hZ hE => ?_)
  have hC : xOK K cX12_ruleGain RX12 4 (rmE 10 0) := hC
  show WG K E 0 [(0, vr E r0 0), (1, vi a1), (2, vi a2), (3, vi a3)] [] S
  refine g_aload_n hC rfl 0 rfl (rfl : 0 + 1 = 1) (xdt tt_X12_ruleGain 0 rfl) ?_
  refine g_iload_n hC rfl 1 rfl (rfl : 1 + 1 = 2) (xdt tt_X12_ruleGain 1 rfl) ?_
  refine g_iload_n hC rfl 2 rfl (rfl : 2 + 1 = 3) (xdt tt_X12_ruleGain 2 rfl) ?_
  obtain ⟨v3, S2, hc1, h⟩ := bd2_i h
  refine g_callSz hC hZ m_X12_areKinds q1297 (Nat.le_of_ble_eq_true rfl) [vi a1, vi a2] rfl (fun l => c_X12_areKinds l hc1) rfl (Nat.le_of_ble_eq_true rfl) (rfl : 3 + 3 = 6) (xdt tt_X12_ruleGain 3 rfl) (fun hb4 => ?_)
  refine g_if_eq hC (show ((6 : Nat) : Int) + 14 = ((20 : Nat) : Int) by decide) (rfl : 6 + 3 = 9) (xdt tt_X12_ruleGain 4 rfl) (fun hc26 => ?_) (fun hc26 => ?_)
  · replace h := (if_pos hc26).symm.trans h
    refine g_sub [0, 1, 2, 3] (lv' := [(0, vr E r0 0), (1, vi a1), (2, vi a2), (3, vi a3)]) rfl ?_
    exact k_X12_ruleGain_p4_0_b20 hC hZ hE hk0 _ _ _ _ h
  · replace h := (if_neg hc26).symm.trans h
    refine g_iload_n hC rfl 3 rfl (rfl : 9 + 1 = 10) (xdt tt_X12_ruleGain 5 rfl) ?_
    obtain ⟨v23, S22, hc21, h⟩ := bd2_i h
    refine g_callSz hC hZ m_X12_isCycles q1142 (Nat.le_of_ble_eq_true rfl) [vi a3] rfl (fun l => c_X12_isCycles l hc21) rfl (Nat.le_of_ble_eq_true rfl) (rfl : 10 + 3 = 13) (xdt tt_X12_ruleGain 6 rfl) (fun hb24 => ?_)
    refine g_if_eq hC (show ((13 : Nat) : Int) + 7 = ((20 : Nat) : Int) by decide) (rfl : 13 + 3 = 16) (xdt tt_X12_ruleGain 7 rfl) (fun hc25 => ?_) (fun hc25 => ?_)
    · replace h := (if_pos hc25).symm.trans h
      refine g_sub [0, 1, 2, 3] (lv' := [(0, vr E r0 0), (1, vi a1), (2, vi a2), (3, vi a3)]) rfl ?_
      exact k_X12_ruleGain_p4_0_b20 hC hZ hE hk0 _ _ _ _ h
    · replace h := (if_neg hc25).symm.trans h
      refine g_iconst hC (rfl : 16 + 1 = 17) (xdt tt_X12_ruleGain 8 rfl) ?_
      refine g_goto hC (show ((17 : Nat) : Int) + 4 = ((21 : Nat) : Int) by decide) (xdt tt_X12_ruleGain 9 rfl) ?_
      refine g_sub [0, 1, 2, 3] (lv' := [(0, vr E r0 0), (1, vi a1), (2, vi a2), (3, vi a3)]) rfl ?_
      exact k_X12_ruleGain_p4_0_b21 hC hZ hE hk0 _ _ _ _ _ h
def f_X12_count_p4_0 (S : xSt) (r0 : Nat) (a1 : Int) : Option (Int × xSt) :=
  lt1 (wI S r0 0 0 0) fun S1 =>
  if wr a1 < 0 ∨ 24 < wr a1 then
    (some ((-1), S1))
  else
  if wr a1 = 0 then
    (some ((gI S1 r0 0 1), S1))
  else
  if wr a1 = 1 then
    (ckI (gI S1 r0 0 1) 61 <|
    some ((gI S1 r0 5 (wr (gI S1 r0 0 1)).toNat), S1))
  else
  if wr a1 = 2 then
    (some ((gI S1 r0 6 0), S1))
  else
  if wr a1 = 3 then
    (some ((gI S1 r0 0 2), S1))
  else
  if wr a1 = 4 then
    (some ((gI S1 r0 0 3), S1))
  else
  if wr a1 = 5 then
    (some ((gI S1 r0 0 4), S1))
  else
  if wr a1 = 6 then
    (some ((gI S1 r0 6 1), S1))
  else
  if wr a1 = 7 then
    (some ((gI S1 r0 6 2), S1))
  else
  if wr a1 = 8 then
    (some ((gI S1 r0 6 34), S1))
  else
  if wr a1 = 9 then
    (some ((gI S1 r0 6 16), S1))
  else
  if wr a1 = 10 then
    (some ((gI S1 r0 6 17), S1))
  else
  if wr a1 = 11 then
    (some ((gI S1 r0 6 18), S1))
  else
  if wr a1 = 12 then
    (some ((gI S1 r0 6 19), S1))
  else
  if wr a1 = 13 then
    (some ((gI S1 r0 6 20), S1))
  else
  if wr a1 = 14 then
    (some ((gI S1 r0 6 21), S1))
  else
  if wr a1 = 15 then
    (some ((gI S1 r0 6 22), S1))
  else
  if wr a1 = 16 then
    (some ((gI S1 r0 6 23), S1))
  else
  if wr a1 = 17 then
    (some ((gI S1 r0 6 24), S1))
  else
  if wr a1 = 18 then
    (some ((gI S1 r0 6 6), S1))
  else
  if wr a1 = 19 then
    (some ((gI S1 r0 6 42), S1))
  else
  if wr a1 = 20 then
    (some ((gI S1 r0 6 3), S1))
  else
  if wr a1 = 21 then
    (some ((gI S1 r0 6 8), S1))
  else
  if wr a1 = 22 then
    (some ((gI S1 r0 6 9), S1))
  else
  if wr a1 = 23 then
    (some ((gI S1 r0 6 7), S1))
  else
  if wr a1 = 24 then
    (some ((gI S1 r0 0 16), S1))
  else
  none
set_option maxRecDepth 100000 in
set_option maxHeartbeats 4000000 in
theorem c_X12_count_p4_0 (l : Launch) {E : xE} {S S' : xSt} {r0 : Nat} {a1 : Int} (hk0 : xkd E r0 = 4) {v : Int} (h : f_X12_count_p4_0 S r0 a1 = some (v, S')) : Met l yX12_count (xws yX12_count cX12_count 2 (some .int)) (rmD 1) (YPc E [vr E r0 0, vi a1] S) (YQi E v S') 0 0 (xA E) := by
  unfold f_X12_count_p4_0 at h
  refine met_i (by decide +kernel) (Nat.le_of_ble_eq_true rfl) (fun K hC hZ hE => ?_)
  have hC : xOK K cX12_count RX12 2 (rmE 1 0) := hC
  show WG K E 0 [(0, vr E r0 0), (1, vi a1)] [] S
  refine g_aload_n hC rfl 0 rfl (rfl : 0 + 1 = 1) (xdt tt_X12_count 0 rfl) ?_
  refine g_iconst hC (rfl : 1 + 1 = 2) (xdt tt_X12_count 1 rfl) ?_
  obtain ⟨S1, hS1, h⟩ := lt1_i h
  refine g_putI hC hk0 kclX12 ly4_0 0 (by decide) rfl rfl rfl q259 hS1 (rfl : 2 + 3 = 5) (xdt tt_X12_count 2 rfl) ?_
  refine g_iload_n hC rfl 1 rfl (rfl : 5 + 1 = 6) (xdt tt_X12_count 3 rfl) ?_
  by_cases hs2 : wr a1 < 0 ∨ 24 < wr a1
  · replace h := (if_pos hs2).symm.trans h
    refine g_tabOut hC (xdt tt_X12_count 4 rfl) hs2 (show ((6 : Nat) : Int) + 297 = ((303 : Nat) : Int) by decide) ?_
    refine g_iconst hC (rfl : 303 + 1 = 304) (xdt tt_X12_count 121 rfl) ?_
    cases h
    exact g_iret hC hE (xdt tt_X12_count 122 rfl)
  · replace h := (if_neg hs2).symm.trans h
    by_cases hv3 : wr a1 = 0
    · replace h := (if_pos hv3).symm.trans h
      refine g_tabIn hC (xdt tt_X12_count 4 rfl) (fun z => hs2 (Or.inl z)) (fun z => hs2 (Or.inr z)) (off := 114) (by rw [hv3]; rfl) (show ((6 : Nat) : Int) + 114 = ((120 : Nat) : Int) by decide) ?_
      refine g_aload_n hC rfl 0 rfl (rfl : 120 + 1 = 121) (xdt tt_X12_count 5 rfl) ?_
      refine g_getI hC hk0 kclX12 ly4_0 1 (by decide) rfl q228 (rfl : 121 + 3 = 124) (xdt tt_X12_count 6 rfl) ?_
      cases h
      exact g_iret hC hE (xdt tt_X12_count 7 rfl)
    · replace h := (if_neg hv3).symm.trans h
      by_cases hv5 : wr a1 = 1
      · replace h := (if_pos hv5).symm.trans h
        refine g_tabIn hC (xdt tt_X12_count 4 rfl) (fun z => hs2 (Or.inl z)) (fun z => hs2 (Or.inr z)) (off := 119) (by rw [hv5]; rfl) (show ((6 : Nat) : Int) + 119 = ((125 : Nat) : Int) by decide) ?_
        refine g_aload_n hC rfl 0 rfl (rfl : 125 + 1 = 126) (xdt tt_X12_count 8 rfl) ?_
        refine g_getP hC hk0 kclX12 ly4_0 9 (by decide) (rfl : r0 + 0 = r0) rfl q200 (rfl : 126 + 3 = 129) (xdt tt_X12_count 9 rfl) ?_
        refine g_aload_n hC rfl 0 rfl (rfl : 129 + 1 = 130) (xdt tt_X12_count 10 rfl) ?_
        refine g_getI hC hk0 kclX12 ly4_0 1 (by decide) rfl q228 (rfl : 130 + 3 = 133) (xdt tt_X12_count 11 rfl) ?_
        obtain ⟨hi4, h⟩ := ckI_i h
        refine g_iald hC hk0 ly4_5 hi4 (rfl : 133 + 1 = 134) (xdt tt_X12_count 12 rfl) (k0 := (wr (gI S1 r0 0 1)).toNat) rfl ?_
        cases h
        exact g_iret hC hE (xdt tt_X12_count 13 rfl)
      · replace h := (if_neg hv5).symm.trans h
        by_cases hv6 : wr a1 = 2
        · replace h := (if_pos hv6).symm.trans h
          refine g_tabIn hC (xdt tt_X12_count 4 rfl) (fun z => hs2 (Or.inl z)) (fun z => hs2 (Or.inr z)) (off := 129) (by rw [hv6]; rfl) (show ((6 : Nat) : Int) + 129 = ((135 : Nat) : Int) by decide) ?_
          refine g_aload_n hC rfl 0 rfl (rfl : 135 + 1 = 136) (xdt tt_X12_count 14 rfl) ?_
          refine g_getP hC hk0 kclX12 ly4_0 10 (by decide) (rfl : r0 + 0 = r0) rfl q201 (rfl : 136 + 3 = 139) (xdt tt_X12_count 15 rfl) ?_
          refine g_iconst hC (rfl : 139 + 1 = 140) (xdt tt_X12_count 16 rfl) ?_
          refine g_iald hC hk0 ly4_6 (by decide) (rfl : 140 + 1 = 141) (xdt tt_X12_count 17 rfl) (k0 := 0) (by decide) ?_
          cases h
          exact g_iret hC hE (xdt tt_X12_count 18 rfl)
        · replace h := (if_neg hv6).symm.trans h
          by_cases hv7 : wr a1 = 3
          · replace h := (if_pos hv7).symm.trans h
            refine g_tabIn hC (xdt tt_X12_count 4 rfl) (fun z => hs2 (Or.inl z)) (fun z => hs2 (Or.inr z)) (off := 136) (by rw [hv7]; rfl) (show ((6 : Nat) : Int) + 136 = ((142 : Nat) : Int) by decide) ?_
            refine g_aload_n hC rfl 0 rfl (rfl : 142 + 1 = 143) (xdt tt_X12_count 19 rfl) ?_
            refine g_getI hC hk0 kclX12 ly4_0 2 (by decide) rfl q229 (rfl : 143 + 3 = 146) (xdt tt_X12_count 20 rfl) ?_
            cases h
            exact g_iret hC hE (xdt tt_X12_count 21 rfl)
          · replace h := (if_neg hv7).symm.trans h
            by_cases hv8 : wr a1 = 4
            · replace h := (if_pos hv8).symm.trans h
              refine g_tabIn hC (xdt tt_X12_count 4 rfl) (fun z => hs2 (Or.inl z)) (fun z => hs2 (Or.inr z)) (off := 141) (by rw [hv8]; rfl) (show ((6 : Nat) : Int) + 141 = ((147 : Nat) : Int) by decide) ?_
              refine g_aload_n hC rfl 0 rfl (rfl : 147 + 1 = 148) (xdt tt_X12_count 22 rfl) ?_
              refine g_getI hC hk0 kclX12 ly4_0 3 (by decide) rfl q230 (rfl : 148 + 3 = 151) (xdt tt_X12_count 23 rfl) ?_
              cases h
              exact g_iret hC hE (xdt tt_X12_count 24 rfl)
            · replace h := (if_neg hv8).symm.trans h
              by_cases hv9 : wr a1 = 5
              · replace h := (if_pos hv9).symm.trans h
                refine g_tabIn hC (xdt tt_X12_count 4 rfl) (fun z => hs2 (Or.inl z)) (fun z => hs2 (Or.inr z)) (off := 146) (by rw [hv9]; rfl) (show ((6 : Nat) : Int) + 146 = ((152 : Nat) : Int) by decide) ?_
                refine g_aload_n hC rfl 0 rfl (rfl : 152 + 1 = 153) (xdt tt_X12_count 25 rfl) ?_
                refine g_getI hC hk0 kclX12 ly4_0 4 (by decide) rfl q231 (rfl : 153 + 3 = 156) (xdt tt_X12_count 26 rfl) ?_
                cases h
                exact g_iret hC hE (xdt tt_X12_count 27 rfl)
              · replace h := (if_neg hv9).symm.trans h
                by_cases hv10 : wr a1 = 6
                · replace h := (if_pos hv10).symm.trans h
                  refine g_tabIn hC (xdt tt_X12_count 4 rfl) (fun z => hs2 (Or.inl z)) (fun z => hs2 (Or.inr z)) (off := 151) (by rw [hv10]; rfl) (show ((6 : Nat) : Int) + 151 = ((157 : Nat) : Int) by decide) ?_
                  refine g_aload_n hC rfl 0 rfl (rfl : 157 + 1 = 158) (xdt tt_X12_count 28 rfl) ?_
                  refine g_getP hC hk0 kclX12 ly4_0 10 (by decide) (rfl : r0 + 0 = r0) rfl q201 (rfl : 158 + 3 = 161) (xdt tt_X12_count 29 rfl) ?_
                  refine g_iconst hC (rfl : 161 + 1 = 162) (xdt tt_X12_count 30 rfl) ?_
                  refine g_iald hC hk0 ly4_6 (by decide) (rfl : 162 + 1 = 163) (xdt tt_X12_count 31 rfl) (k0 := 1) (by decide) ?_
                  cases h
                  exact g_iret hC hE (xdt tt_X12_count 32 rfl)
                · replace h := (if_neg hv10).symm.trans h
                  by_cases hv11 : wr a1 = 7
                  · replace h := (if_pos hv11).symm.trans h
                    refine g_tabIn hC (xdt tt_X12_count 4 rfl) (fun z => hs2 (Or.inl z)) (fun z => hs2 (Or.inr z)) (off := 158) (by rw [hv11]; rfl) (show ((6 : Nat) : Int) + 158 = ((164 : Nat) : Int) by decide) ?_
                    refine g_aload_n hC rfl 0 rfl (rfl : 164 + 1 = 165) (xdt tt_X12_count 33 rfl) ?_
                    refine g_getP hC hk0 kclX12 ly4_0 10 (by decide) (rfl : r0 + 0 = r0) rfl q201 (rfl : 165 + 3 = 168) (xdt tt_X12_count 34 rfl) ?_
                    refine g_iconst hC (rfl : 168 + 1 = 169) (xdt tt_X12_count 35 rfl) ?_
                    refine g_iald hC hk0 ly4_6 (by decide) (rfl : 169 + 1 = 170) (xdt tt_X12_count 36 rfl) (k0 := 2) (by decide) ?_
                    cases h
                    exact g_iret hC hE (xdt tt_X12_count 37 rfl)
                  · replace h := (if_neg hv11).symm.trans h
                    by_cases hv12 : wr a1 = 8
                    · replace h := (if_pos hv12).symm.trans h
                      refine g_tabIn hC (xdt tt_X12_count 4 rfl) (fun z => hs2 (Or.inl z)) (fun z => hs2 (Or.inr z)) (off := 165) (by rw [hv12]; rfl) (show ((6 : Nat) : Int) + 165 = ((171 : Nat) : Int) by decide) ?_
                      refine g_aload_n hC rfl 0 rfl (rfl : 171 + 1 = 172) (xdt tt_X12_count 38 rfl) ?_
                      refine g_getP hC hk0 kclX12 ly4_0 10 (by decide) (rfl : r0 + 0 = r0) rfl q201 (rfl : 172 + 3 = 175) (xdt tt_X12_count 39 rfl) ?_
                      refine g_bipush hC (by decide) (rfl : 175 + 2 = 177) (xdt tt_X12_count 40 rfl) ?_
                      refine g_iald hC hk0 ly4_6 (by decide) (rfl : 177 + 1 = 178) (xdt tt_X12_count 41 rfl) (k0 := 34) (by decide) ?_
                      cases h
                      exact g_iret hC hE (xdt tt_X12_count 42 rfl)
                    · replace h := (if_neg hv12).symm.trans h
                      by_cases hv13 : wr a1 = 9
                      · replace h := (if_pos hv13).symm.trans h
                        refine g_tabIn hC (xdt tt_X12_count 4 rfl) (fun z => hs2 (Or.inl z)) (fun z => hs2 (Or.inr z)) (off := 173) (by rw [hv13]; rfl) (show ((6 : Nat) : Int) + 173 = ((179 : Nat) : Int) by decide) ?_
                        refine g_aload_n hC rfl 0 rfl (rfl : 179 + 1 = 180) (xdt tt_X12_count 43 rfl) ?_
                        refine g_getP hC hk0 kclX12 ly4_0 10 (by decide) (rfl : r0 + 0 = r0) rfl q201 (rfl : 180 + 3 = 183) (xdt tt_X12_count 44 rfl) ?_
                        refine g_bipush hC (by decide) (rfl : 183 + 2 = 185) (xdt tt_X12_count 45 rfl) ?_
                        refine g_iald hC hk0 ly4_6 (by decide) (rfl : 185 + 1 = 186) (xdt tt_X12_count 46 rfl) (k0 := 16) (by decide) ?_
                        cases h
                        exact g_iret hC hE (xdt tt_X12_count 47 rfl)
                      · replace h := (if_neg hv13).symm.trans h
                        by_cases hv14 : wr a1 = 10
                        · replace h := (if_pos hv14).symm.trans h
                          refine g_tabIn hC (xdt tt_X12_count 4 rfl) (fun z => hs2 (Or.inl z)) (fun z => hs2 (Or.inr z)) (off := 181) (by rw [hv14]; rfl) (show ((6 : Nat) : Int) + 181 = ((187 : Nat) : Int) by decide) ?_
                          refine g_aload_n hC rfl 0 rfl (rfl : 187 + 1 = 188) (xdt tt_X12_count 48 rfl) ?_
                          refine g_getP hC hk0 kclX12 ly4_0 10 (by decide) (rfl : r0 + 0 = r0) rfl q201 (rfl : 188 + 3 = 191) (xdt tt_X12_count 49 rfl) ?_
                          refine g_bipush hC (by decide) (rfl : 191 + 2 = 193) (xdt tt_X12_count 50 rfl) ?_
                          refine g_iald hC hk0 ly4_6 (by decide) (rfl : 193 + 1 = 194) (xdt tt_X12_count 51 rfl) (k0 := 17) (by decide) ?_
                          cases h
                          exact g_iret hC hE (xdt tt_X12_count 52 rfl)
                        · replace h := (if_neg hv14).symm.trans h
                          by_cases hv15 : wr a1 = 11
                          · replace h := (if_pos hv15).symm.trans h
                            refine g_tabIn hC (xdt tt_X12_count 4 rfl) (fun z => hs2 (Or.inl z)) (fun z => hs2 (Or.inr z)) (off := 189) (by rw [hv15]; rfl) (show ((6 : Nat) : Int) + 189 = ((195 : Nat) : Int) by decide) ?_
                            refine g_aload_n hC rfl 0 rfl (rfl : 195 + 1 = 196) (xdt tt_X12_count 53 rfl) ?_
                            refine g_getP hC hk0 kclX12 ly4_0 10 (by decide) (rfl : r0 + 0 = r0) rfl q201 (rfl : 196 + 3 = 199) (xdt tt_X12_count 54 rfl) ?_
                            refine g_bipush hC (by decide) (rfl : 199 + 2 = 201) (xdt tt_X12_count 55 rfl) ?_
                            refine g_iald hC hk0 ly4_6 (by decide) (rfl : 201 + 1 = 202) (xdt tt_X12_count 56 rfl) (k0 := 18) (by decide) ?_
                            cases h
                            exact g_iret hC hE (xdt tt_X12_count 57 rfl)
                          · replace h := (if_neg hv15).symm.trans h
                            by_cases hv16 : wr a1 = 12
                            · replace h := (if_pos hv16).symm.trans h
                              refine g_tabIn hC (xdt tt_X12_count 4 rfl) (fun z => hs2 (Or.inl z)) (fun z => hs2 (Or.inr z)) (off := 197) (by rw [hv16]; rfl) (show ((6 : Nat) : Int) + 197 = ((203 : Nat) : Int) by decide) ?_
                              refine g_aload_n hC rfl 0 rfl (rfl : 203 + 1 = 204) (xdt tt_X12_count 58 rfl) ?_
                              refine g_getP hC hk0 kclX12 ly4_0 10 (by decide) (rfl : r0 + 0 = r0) rfl q201 (rfl : 204 + 3 = 207) (xdt tt_X12_count 59 rfl) ?_
                              refine g_bipush hC (by decide) (rfl : 207 + 2 = 209) (xdt tt_X12_count 60 rfl) ?_
                              refine g_iald hC hk0 ly4_6 (by decide) (rfl : 209 + 1 = 210) (xdt tt_X12_count 61 rfl) (k0 := 19) (by decide) ?_
                              cases h
                              exact g_iret hC hE (xdt tt_X12_count 62 rfl)
                            · replace h := (if_neg hv16).symm.trans h
                              by_cases hv17 : wr a1 = 13
                              · replace h := (if_pos hv17).symm.trans h
                                refine g_tabIn hC (xdt tt_X12_count 4 rfl) (fun z => hs2 (Or.inl z)) (fun z => hs2 (Or.inr z)) (off := 205) (by rw [hv17]; rfl) (show ((6 : Nat) : Int) + 205 = ((211 : Nat) : Int) by decide) ?_
                                refine g_aload_n hC rfl 0 rfl (rfl : 211 + 1 = 212) (xdt tt_X12_count 63 rfl) ?_
                                refine g_getP hC hk0 kclX12 ly4_0 10 (by decide) (rfl : r0 + 0 = r0) rfl q201 (rfl : 212 + 3 = 215) (xdt tt_X12_count 64 rfl) ?_
                                refine g_bipush hC (by decide) (rfl : 215 + 2 = 217) (xdt tt_X12_count 65 rfl) ?_
                                refine g_iald hC hk0 ly4_6 (by decide) (rfl : 217 + 1 = 218) (xdt tt_X12_count 66 rfl) (k0 := 20) (by decide) ?_
                                cases h
                                exact g_iret hC hE (xdt tt_X12_count 67 rfl)
                              · replace h := (if_neg hv17).symm.trans h
                                by_cases hv18 : wr a1 = 14
                                · replace h := (if_pos hv18).symm.trans h
                                  refine g_tabIn hC (xdt tt_X12_count 4 rfl) (fun z => hs2 (Or.inl z)) (fun z => hs2 (Or.inr z)) (off := 213) (by rw [hv18]; rfl) (show ((6 : Nat) : Int) + 213 = ((219 : Nat) : Int) by decide) ?_
                                  refine g_aload_n hC rfl 0 rfl (rfl : 219 + 1 = 220) (xdt tt_X12_count 68 rfl) ?_
                                  refine g_getP hC hk0 kclX12 ly4_0 10 (by decide) (rfl : r0 + 0 = r0) rfl q201 (rfl : 220 + 3 = 223) (xdt tt_X12_count 69 rfl) ?_
                                  refine g_bipush hC (by decide) (rfl : 223 + 2 = 225) (xdt tt_X12_count 70 rfl) ?_
                                  refine g_iald hC hk0 ly4_6 (by decide) (rfl : 225 + 1 = 226) (xdt tt_X12_count 71 rfl) (k0 := 21) (by decide) ?_
                                  cases h
                                  exact g_iret hC hE (xdt tt_X12_count 72 rfl)
                                · replace h := (if_neg hv18).symm.trans h
                                  by_cases hv19 : wr a1 = 15
                                  · replace h := (if_pos hv19).symm.trans h
                                    refine g_tabIn hC (xdt tt_X12_count 4 rfl) (fun z => hs2 (Or.inl z)) (fun z => hs2 (Or.inr z)) (off := 221) (by rw [hv19]; rfl) (show ((6 : Nat) : Int) + 221 = ((227 : Nat) : Int) by decide) ?_
                                    refine g_aload_n hC rfl 0 rfl (rfl : 227 + 1 = 228) (xdt tt_X12_count 73 rfl) ?_
                                    refine g_getP hC hk0 kclX12 ly4_0 10 (by decide) (rfl : r0 + 0 = r0) rfl q201 (rfl : 228 + 3 = 231) (xdt tt_X12_count 74 rfl) ?_
                                    refine g_bipush hC (by decide) (rfl : 231 + 2 = 233) (xdt tt_X12_count 75 rfl) ?_
                                    refine g_iald hC hk0 ly4_6 (by decide) (rfl : 233 + 1 = 234) (xdt tt_X12_count 76 rfl) (k0 := 22) (by decide) ?_
                                    cases h
                                    exact g_iret hC hE (xdt tt_X12_count 77 rfl)
                                  · replace h := (if_neg hv19).symm.trans h
                                    by_cases hv20 : wr a1 = 16
                                    · replace h := (if_pos hv20).symm.trans h
                                      refine g_tabIn hC (xdt tt_X12_count 4 rfl) (fun z => hs2 (Or.inl z)) (fun z => hs2 (Or.inr z)) (off := 229) (by rw [hv20]; rfl) (show ((6 : Nat) : Int) + 229 = ((235 : Nat) : Int) by decide) ?_
                                      refine g_aload_n hC rfl 0 rfl (rfl : 235 + 1 = 236) (xdt tt_X12_count 78 rfl) ?_
                                      refine g_getP hC hk0 kclX12 ly4_0 10 (by decide) (rfl : r0 + 0 = r0) rfl q201 (rfl : 236 + 3 = 239) (xdt tt_X12_count 79 rfl) ?_
                                      refine g_bipush hC (by decide) (rfl : 239 + 2 = 241) (xdt tt_X12_count 80 rfl) ?_
                                      refine g_iald hC hk0 ly4_6 (by decide) (rfl : 241 + 1 = 242) (xdt tt_X12_count 81 rfl) (k0 := 23) (by decide) ?_
                                      cases h
                                      exact g_iret hC hE (xdt tt_X12_count 82 rfl)
                                    · replace h := (if_neg hv20).symm.trans h
                                      by_cases hv21 : wr a1 = 17
                                      · replace h := (if_pos hv21).symm.trans h
                                        refine g_tabIn hC (xdt tt_X12_count 4 rfl) (fun z => hs2 (Or.inl z)) (fun z => hs2 (Or.inr z)) (off := 237) (by rw [hv21]; rfl) (show ((6 : Nat) : Int) + 237 = ((243 : Nat) : Int) by decide) ?_
                                        refine g_aload_n hC rfl 0 rfl (rfl : 243 + 1 = 244) (xdt tt_X12_count 83 rfl) ?_
                                        refine g_getP hC hk0 kclX12 ly4_0 10 (by decide) (rfl : r0 + 0 = r0) rfl q201 (rfl : 244 + 3 = 247) (xdt tt_X12_count 84 rfl) ?_
                                        refine g_bipush hC (by decide) (rfl : 247 + 2 = 249) (xdt tt_X12_count 85 rfl) ?_
                                        refine g_iald hC hk0 ly4_6 (by decide) (rfl : 249 + 1 = 250) (xdt tt_X12_count 86 rfl) (k0 := 24) (by decide) ?_
                                        cases h
                                        exact g_iret hC hE (xdt tt_X12_count 87 rfl)
                                      · replace h := (if_neg hv21).symm.trans h
                                        by_cases hv22 : wr a1 = 18
                                        · replace h := (if_pos hv22).symm.trans h
                                          refine g_tabIn hC (xdt tt_X12_count 4 rfl) (fun z => hs2 (Or.inl z)) (fun z => hs2 (Or.inr z)) (off := 245) (by rw [hv22]; rfl) (show ((6 : Nat) : Int) + 245 = ((251 : Nat) : Int) by decide) ?_
                                          refine g_aload_n hC rfl 0 rfl (rfl : 251 + 1 = 252) (xdt tt_X12_count 88 rfl) ?_
                                          refine g_getP hC hk0 kclX12 ly4_0 10 (by decide) (rfl : r0 + 0 = r0) rfl q201 (rfl : 252 + 3 = 255) (xdt tt_X12_count 89 rfl) ?_
                                          refine g_bipush hC (by decide) (rfl : 255 + 2 = 257) (xdt tt_X12_count 90 rfl) ?_
                                          refine g_iald hC hk0 ly4_6 (by decide) (rfl : 257 + 1 = 258) (xdt tt_X12_count 91 rfl) (k0 := 6) (by decide) ?_
                                          cases h
                                          exact g_iret hC hE (xdt tt_X12_count 92 rfl)
                                        · replace h := (if_neg hv22).symm.trans h
                                          by_cases hv23 : wr a1 = 19
                                          · replace h := (if_pos hv23).symm.trans h
                                            refine g_tabIn hC (xdt tt_X12_count 4 rfl) (fun z => hs2 (Or.inl z)) (fun z => hs2 (Or.inr z)) (off := 253) (by rw [hv23]; rfl) (show ((6 : Nat) : Int) + 253 = ((259 : Nat) : Int) by decide) ?_
                                            refine g_aload_n hC rfl 0 rfl (rfl : 259 + 1 = 260) (xdt tt_X12_count 93 rfl) ?_
                                            refine g_getP hC hk0 kclX12 ly4_0 10 (by decide) (rfl : r0 + 0 = r0) rfl q201 (rfl : 260 + 3 = 263) (xdt tt_X12_count 94 rfl) ?_
                                            refine g_bipush hC (by decide) (rfl : 263 + 2 = 265) (xdt tt_X12_count 95 rfl) ?_
                                            refine g_iald hC hk0 ly4_6 (by decide) (rfl : 265 + 1 = 266) (xdt tt_X12_count 96 rfl) (k0 := 42) (by decide) ?_
                                            cases h
                                            exact g_iret hC hE (xdt tt_X12_count 97 rfl)
                                          · replace h := (if_neg hv23).symm.trans h
                                            by_cases hv24 : wr a1 = 20
                                            · replace h := (if_pos hv24).symm.trans h
                                              refine g_tabIn hC (xdt tt_X12_count 4 rfl) (fun z => hs2 (Or.inl z)) (fun z => hs2 (Or.inr z)) (off := 261) (by rw [hv24]; rfl) (show ((6 : Nat) : Int) + 261 = ((267 : Nat) : Int) by decide) ?_
                                              refine g_aload_n hC rfl 0 rfl (rfl : 267 + 1 = 268) (xdt tt_X12_count 98 rfl) ?_
                                              refine g_getP hC hk0 kclX12 ly4_0 10 (by decide) (rfl : r0 + 0 = r0) rfl q201 (rfl : 268 + 3 = 271) (xdt tt_X12_count 99 rfl) ?_
                                              refine g_iconst hC (rfl : 271 + 1 = 272) (xdt tt_X12_count 100 rfl) ?_
                                              refine g_iald hC hk0 ly4_6 (by decide) (rfl : 272 + 1 = 273) (xdt tt_X12_count 101 rfl) (k0 := 3) (by decide) ?_
                                              cases h
                                              exact g_iret hC hE (xdt tt_X12_count 102 rfl)
                                            · replace h := (if_neg hv24).symm.trans h
                                              by_cases hv25 : wr a1 = 21
                                              · replace h := (if_pos hv25).symm.trans h
                                                refine g_tabIn hC (xdt tt_X12_count 4 rfl) (fun z => hs2 (Or.inl z)) (fun z => hs2 (Or.inr z)) (off := 268) (by rw [hv25]; rfl) (show ((6 : Nat) : Int) + 268 = ((274 : Nat) : Int) by decide) ?_
                                                refine g_aload_n hC rfl 0 rfl (rfl : 274 + 1 = 275) (xdt tt_X12_count 103 rfl) ?_
                                                refine g_getP hC hk0 kclX12 ly4_0 10 (by decide) (rfl : r0 + 0 = r0) rfl q201 (rfl : 275 + 3 = 278) (xdt tt_X12_count 104 rfl) ?_
                                                refine g_bipush hC (by decide) (rfl : 278 + 2 = 280) (xdt tt_X12_count 105 rfl) ?_
                                                refine g_iald hC hk0 ly4_6 (by decide) (rfl : 280 + 1 = 281) (xdt tt_X12_count 106 rfl) (k0 := 8) (by decide) ?_
                                                cases h
                                                exact g_iret hC hE (xdt tt_X12_count 107 rfl)
                                              · replace h := (if_neg hv25).symm.trans h
                                                by_cases hv26 : wr a1 = 22
                                                · replace h := (if_pos hv26).symm.trans h
                                                  refine g_tabIn hC (xdt tt_X12_count 4 rfl) (fun z => hs2 (Or.inl z)) (fun z => hs2 (Or.inr z)) (off := 276) (by rw [hv26]; rfl) (show ((6 : Nat) : Int) + 276 = ((282 : Nat) : Int) by decide) ?_
                                                  refine g_aload_n hC rfl 0 rfl (rfl : 282 + 1 = 283) (xdt tt_X12_count 108 rfl) ?_
                                                  refine g_getP hC hk0 kclX12 ly4_0 10 (by decide) (rfl : r0 + 0 = r0) rfl q201 (rfl : 283 + 3 = 286) (xdt tt_X12_count 109 rfl) ?_
                                                  refine g_bipush hC (by decide) (rfl : 286 + 2 = 288) (xdt tt_X12_count 110 rfl) ?_
                                                  refine g_iald hC hk0 ly4_6 (by decide) (rfl : 288 + 1 = 289) (xdt tt_X12_count 111 rfl) (k0 := 9) (by decide) ?_
                                                  cases h
                                                  exact g_iret hC hE (xdt tt_X12_count 112 rfl)
                                                · replace h := (if_neg hv26).symm.trans h
                                                  by_cases hv27 : wr a1 = 23
                                                  · replace h := (if_pos hv27).symm.trans h
                                                    refine g_tabIn hC (xdt tt_X12_count 4 rfl) (fun z => hs2 (Or.inl z)) (fun z => hs2 (Or.inr z)) (off := 284) (by rw [hv27]; rfl) (show ((6 : Nat) : Int) + 284 = ((290 : Nat) : Int) by decide) ?_
                                                    refine g_aload_n hC rfl 0 rfl (rfl : 290 + 1 = 291) (xdt tt_X12_count 113 rfl) ?_
                                                    refine g_getP hC hk0 kclX12 ly4_0 10 (by decide) (rfl : r0 + 0 = r0) rfl q201 (rfl : 291 + 3 = 294) (xdt tt_X12_count 114 rfl) ?_
                                                    refine g_bipush hC (by decide) (rfl : 294 + 2 = 296) (xdt tt_X12_count 115 rfl) ?_
                                                    refine g_iald hC hk0 ly4_6 (by decide) (rfl : 296 + 1 = 297) (xdt tt_X12_count 116 rfl) (k0 := 7) (by decide) ?_
                                                    cases h
                                                    exact g_iret hC hE (xdt tt_X12_count 117 rfl)
                                                  · replace h := (if_neg hv27).symm.trans h
                                                    by_cases hv28 : wr a1 = 24
                                                    · replace h := (if_pos hv28).symm.trans h
                                                      refine g_tabIn hC (xdt tt_X12_count 4 rfl) (fun z => hs2 (Or.inl z)) (fun z => hs2 (Or.inr z)) (off := 292) (by rw [hv28]; rfl) (show ((6 : Nat) : Int) + 292 = ((298 : Nat) : Int) by decide) ?_
                                                      refine g_aload_n hC rfl 0 rfl (rfl : 298 + 1 = 299) (xdt tt_X12_count 118 rfl) ?_
                                                      refine g_getI hC hk0 kclX12 ly4_0 16 (by decide) rfl q232 (rfl : 299 + 3 = 302) (xdt tt_X12_count 119 rfl) ?_
                                                      cases h
                                                      exact g_iret hC hE (xdt tt_X12_count 120 rfl)
                                                    · replace h := (if_neg hv28).symm.trans h
                                                      cases h
def f_X12_instruction_p4_0_b26 (r0 : Nat) (S : xSt) (x1 : Int) (x2 : Int) (s0 : Int) : Option (Int × xSt) :=
  bd2 (f_X12_is_p4_0 S r0 s0) fun v7 S6 =>
  if ¬ wr v7 = 0 then
    (if wr x2 < 0 ∨ 6 < wr x2 then
      (bd2 (f_X12_doesTurn_p4_0 S6 r0 x1) fun v12 S11 =>
      if ¬ wr v12 = 0 then
        (bd2 (f_X12_predicts_p4_0 S11 r0 x1) fun v16 S15 =>
        if wr v16 = 0 then
          (some (0, S15))
        else
          (some (1, S15)))
      else
        (some ((-1), S11)))
    else
    if wr x2 = 0 then
      (ckI x1 60 <|
      some ((gI S6 r0 1 (wr x1).toNat), S6))
    else
    if wr x2 = 1 then
      (ckI x1 61 <|
      some ((gI S6 r0 5 (wr x1).toNat), S6))
    else
    if wr x2 = 2 then
      (bd2 (f_X12_lengthOf_p4_0 S6 r0 x1) fun v26 S25 =>
      some (v26, S25))
    else
    if wr x2 = 3 then
      (bd2 (f_X12_opsOf_p4_0 S6 r0 x1) fun v30 S29 =>
      some (v30, S29))
    else
    if wr x2 = 4 then
      (ckI x1 60 <|
      some ((gI S6 r0 3 (wr x1).toNat), S6))
    else
    if wr x2 = 5 then
      (ckI x1 60 <|
      if ¬ wr (gI S6 r0 1 (wr x1).toNat) = wr 9 then
        (some ((-1), S6))
      else
        (ckI x1 60 <|
        some ((gI S6 r0 4 (wr x1).toNat), S6)))
    else
    if wr x2 = 6 then
      (ckI x1 60 <|
      some ((gI S6 r0 2 (wr x1).toNat), S6))
    else
    none)
  else
    (some (0, S6))
def f_X12_instruction_p4_0_b25 (r0 : Nat) (S : xSt) (x1 : Int) (x2 : Int) : Option (Int × xSt) :=
  f_X12_instruction_p4_0_b26 r0 S x1 x2 0
def f_X12_instruction_p4_0 (S : xSt) (r0 : Nat) (a1 : Int) (a2 : Int) : Option (Int × xSt) :=
  bd2 (f_X12_isNumber_p4_0 S r0 a1) fun v3 S2 =>
  if wr v3 = 0 then
    (f_X12_instruction_p4_0_b25 r0 S2 a1 a2)
  else
    (bd2 (f_X12_isIn S2 (wr a2) 0 7) fun v43 S42 =>
    if wr v43 = 0 then
      (f_X12_instruction_p4_0_b25 r0 S42 a1 a2)
    else
      (f_X12_instruction_p4_0_b26 r0 S42 a1 a2 1))
set_option maxRecDepth 100000 in
set_option maxHeartbeats 4000000 in
theorem k_X12_instruction_p4_0_b26 {K : xCtx} {E : xE} {b : Nat} (hC : xOK K cX12_instruction RX12 3 (rmE 3 b)) (hZ : xZ K) {v : Int} {S' : xSt} (hE : xEnd K E (some .int) (YQi E v S')) {r0 : Nat} (hk0 : xkd E r0 = 4) : ∀ (S : xSt) (x1 : Int) (x2 : Int) (s0 : Int), f_X12_instruction_p4_0_b26 r0 S x1 x2 s0 = some (v, S') → WG K E 26 [(0, vr E r0 0), (1, vi x1), (2, vi x2)] [vi s0, vr E r0 0] S := by
  intro S x1 x2 s0 h
  unfold f_X12_instruction_p4_0_b26 at h
  obtain ⟨v7, S6, hc5, h⟩ := bd2_i h
  refine g_callVz hC hZ hk0 kclX12 ly4_0 m_X12_is q655 (Nat.le_of_ble_eq_true rfl) [vi s0] rfl (fun l => c_X12_is_p4_0 l hk0 hc5) rfl (Nat.le_of_ble_eq_true rfl) (rfl : 26 + 3 = 29) (xdt tt_X12_instruction 14 rfl) (fun hb8 => ?_)
  refine g_if_ne hC (show ((29 : Nat) : Int) + 5 = ((34 : Nat) : Int) by decide) (rfl : 29 + 3 = 32) (xdt tt_X12_instruction 15 rfl) (fun hc40 => ?_) (fun hc40 => ?_)
  · replace h := (if_pos hc40).symm.trans h
    refine g_iload_n hC rfl 2 rfl (rfl : 34 + 1 = 35) (xdt tt_X12_instruction 18 rfl) ?_
    by_cases hs9 : wr x2 < 0 ∨ 6 < wr x2
    · replace h := (if_pos hs9).symm.trans h
      refine g_tabOut hC (xdt tt_X12_instruction 19 rfl) hs9 (show ((35 : Nat) : Int) + 103 = ((138 : Nat) : Int) by decide) ?_
      refine g_aload_n hC rfl 0 rfl (rfl : 138 + 1 = 139) (xdt tt_X12_instruction 61 rfl) ?_
      refine g_iload_n hC rfl 1 rfl (rfl : 139 + 1 = 140) (xdt tt_X12_instruction 62 rfl) ?_
      obtain ⟨v12, S11, hc10, h⟩ := bd2_i h
      refine g_callVz hC hZ hk0 kclX12 ly4_0 m_X12_doesTurn q664 (Nat.le_of_ble_eq_true rfl) [vi x1] rfl (fun l => c_X12_doesTurn_p4_0 l hk0 hc10) rfl (Nat.le_of_ble_eq_true rfl) (rfl : 140 + 3 = 143) (xdt tt_X12_instruction 63 rfl) (fun hb13 => ?_)
      refine g_if_ne hC (show ((143 : Nat) : Int) + 7 = ((150 : Nat) : Int) by decide) (rfl : 143 + 3 = 146) (xdt tt_X12_instruction 64 rfl) (fun hc19 => ?_) (fun hc19 => ?_)
      · replace h := (if_pos hc19).symm.trans h
        refine g_aload_n hC rfl 0 rfl (rfl : 150 + 1 = 151) (xdt tt_X12_instruction 67 rfl) ?_
        refine g_iload_n hC rfl 1 rfl (rfl : 151 + 1 = 152) (xdt tt_X12_instruction 68 rfl) ?_
        obtain ⟨v16, S15, hc14, h⟩ := bd2_i h
        refine g_callVz hC hZ hk0 kclX12 ly4_0 m_X12_predicts q668 (Nat.le_of_ble_eq_true rfl) [vi x1] rfl (fun l => c_X12_predicts_p4_0 l hk0 hc14) rfl (Nat.le_of_ble_eq_true rfl) (rfl : 152 + 3 = 155) (xdt tt_X12_instruction 69 rfl) (fun hb17 => ?_)
        refine g_if_eq hC (show ((155 : Nat) : Int) + 7 = ((162 : Nat) : Int) by decide) (rfl : 155 + 3 = 158) (xdt tt_X12_instruction 70 rfl) (fun hc18 => ?_) (fun hc18 => ?_)
        · replace h := (if_pos hc18).symm.trans h
          refine g_iconst hC (rfl : 162 + 1 = 163) (xdt tt_X12_instruction 73 rfl) ?_
          cases h
          exact g_iret hC hE (xdt tt_X12_instruction 74 rfl)
        · replace h := (if_neg hc18).symm.trans h
          refine g_iconst hC (rfl : 158 + 1 = 159) (xdt tt_X12_instruction 71 rfl) ?_
          refine g_goto hC (show ((159 : Nat) : Int) + 4 = ((163 : Nat) : Int) by decide) (xdt tt_X12_instruction 72 rfl) ?_
          cases h
          exact g_iret hC hE (xdt tt_X12_instruction 74 rfl)
      · replace h := (if_neg hc19).symm.trans h
        refine g_iconst hC (rfl : 146 + 1 = 147) (xdt tt_X12_instruction 65 rfl) ?_
        refine g_goto hC (show ((147 : Nat) : Int) + 16 = ((163 : Nat) : Int) by decide) (xdt tt_X12_instruction 66 rfl) ?_
        cases h
        exact g_iret hC hE (xdt tt_X12_instruction 74 rfl)
    · replace h := (if_neg hs9).symm.trans h
      by_cases hv21 : wr x2 = 0
      · replace h := (if_pos hv21).symm.trans h
        refine g_tabIn hC (xdt tt_X12_instruction 19 rfl) (fun z => hs9 (Or.inl z)) (fun z => hs9 (Or.inr z)) (off := 41) (by rw [hv21]; rfl) (show ((35 : Nat) : Int) + 41 = ((76 : Nat) : Int) by decide) ?_
        refine g_aload_n hC rfl 0 rfl (rfl : 76 + 1 = 77) (xdt tt_X12_instruction 20 rfl) ?_
        refine g_getP hC hk0 kclX12 ly4_0 5 (by decide) (rfl : r0 + 0 = r0) rfl q196 (rfl : 77 + 3 = 80) (xdt tt_X12_instruction 21 rfl) ?_
        refine g_iload_n hC rfl 1 rfl (rfl : 80 + 1 = 81) (xdt tt_X12_instruction 22 rfl) ?_
        obtain ⟨hi20, h⟩ := ckI_i h
        refine g_iald hC hk0 ly4_1 hi20 (rfl : 81 + 1 = 82) (xdt tt_X12_instruction 23 rfl) (k0 := (wr x1).toNat) rfl ?_
        cases h
        exact g_iret hC hE (xdt tt_X12_instruction 24 rfl)
      · replace h := (if_neg hv21).symm.trans h
        by_cases hv23 : wr x2 = 1
        · replace h := (if_pos hv23).symm.trans h
          refine g_tabIn hC (xdt tt_X12_instruction 19 rfl) (fun z => hs9 (Or.inl z)) (fun z => hs9 (Or.inr z)) (off := 48) (by rw [hv23]; rfl) (show ((35 : Nat) : Int) + 48 = ((83 : Nat) : Int) by decide) ?_
          refine g_aload_n hC rfl 0 rfl (rfl : 83 + 1 = 84) (xdt tt_X12_instruction 25 rfl) ?_
          refine g_getP hC hk0 kclX12 ly4_0 9 (by decide) (rfl : r0 + 0 = r0) rfl q200 (rfl : 84 + 3 = 87) (xdt tt_X12_instruction 26 rfl) ?_
          refine g_iload_n hC rfl 1 rfl (rfl : 87 + 1 = 88) (xdt tt_X12_instruction 27 rfl) ?_
          obtain ⟨hi22, h⟩ := ckI_i h
          refine g_iald hC hk0 ly4_5 hi22 (rfl : 88 + 1 = 89) (xdt tt_X12_instruction 28 rfl) (k0 := (wr x1).toNat) rfl ?_
          cases h
          exact g_iret hC hE (xdt tt_X12_instruction 29 rfl)
        · replace h := (if_neg hv23).symm.trans h
          by_cases hv27 : wr x2 = 2
          · replace h := (if_pos hv27).symm.trans h
            refine g_tabIn hC (xdt tt_X12_instruction 19 rfl) (fun z => hs9 (Or.inl z)) (fun z => hs9 (Or.inr z)) (off := 55) (by rw [hv27]; rfl) (show ((35 : Nat) : Int) + 55 = ((90 : Nat) : Int) by decide) ?_
            refine g_aload_n hC rfl 0 rfl (rfl : 90 + 1 = 91) (xdt tt_X12_instruction 30 rfl) ?_
            refine g_iload_n hC rfl 1 rfl (rfl : 91 + 1 = 92) (xdt tt_X12_instruction 31 rfl) ?_
            obtain ⟨v26, S25, hc24, h⟩ := bd2_i h
            refine g_callVi hC hZ hk0 kclX12 ly4_0 m_X12_lengthOf q238 (Nat.le_of_ble_eq_true rfl) [vi x1] rfl (fun l => c_X12_lengthOf_p4_0 l hk0 hc24) rfl (Nat.le_of_ble_eq_true rfl) (rfl : 92 + 3 = 95) (xdt tt_X12_instruction 32 rfl) ?_
            cases h
            exact g_iret hC hE (xdt tt_X12_instruction 33 rfl)
          · replace h := (if_neg hv27).symm.trans h
            by_cases hv31 : wr x2 = 3
            · replace h := (if_pos hv31).symm.trans h
              refine g_tabIn hC (xdt tt_X12_instruction 19 rfl) (fun z => hs9 (Or.inl z)) (fun z => hs9 (Or.inr z)) (off := 61) (by rw [hv31]; rfl) (show ((35 : Nat) : Int) + 61 = ((96 : Nat) : Int) by decide) ?_
              refine g_aload_n hC rfl 0 rfl (rfl : 96 + 1 = 97) (xdt tt_X12_instruction 34 rfl) ?_
              refine g_iload_n hC rfl 1 rfl (rfl : 97 + 1 = 98) (xdt tt_X12_instruction 35 rfl) ?_
              obtain ⟨v30, S29, hc28, h⟩ := bd2_i h
              refine g_callVi hC hZ hk0 kclX12 ly4_0 m_X12_opsOf q659 (Nat.le_of_ble_eq_true rfl) [vi x1] rfl (fun l => c_X12_opsOf_p4_0 l hk0 hc28) rfl (Nat.le_of_ble_eq_true rfl) (rfl : 98 + 3 = 101) (xdt tt_X12_instruction 36 rfl) ?_
              cases h
              exact g_iret hC hE (xdt tt_X12_instruction 37 rfl)
            · replace h := (if_neg hv31).symm.trans h
              by_cases hv33 : wr x2 = 4
              · replace h := (if_pos hv33).symm.trans h
                refine g_tabIn hC (xdt tt_X12_instruction 19 rfl) (fun z => hs9 (Or.inl z)) (fun z => hs9 (Or.inr z)) (off := 67) (by rw [hv33]; rfl) (show ((35 : Nat) : Int) + 67 = ((102 : Nat) : Int) by decide) ?_
                refine g_aload_n hC rfl 0 rfl (rfl : 102 + 1 = 103) (xdt tt_X12_instruction 38 rfl) ?_
                refine g_getP hC hk0 kclX12 ly4_0 7 (by decide) (rfl : r0 + 0 = r0) rfl q198 (rfl : 103 + 3 = 106) (xdt tt_X12_instruction 39 rfl) ?_
                refine g_iload_n hC rfl 1 rfl (rfl : 106 + 1 = 107) (xdt tt_X12_instruction 40 rfl) ?_
                obtain ⟨hi32, h⟩ := ckI_i h
                refine g_iald hC hk0 ly4_3 hi32 (rfl : 107 + 1 = 108) (xdt tt_X12_instruction 41 rfl) (k0 := (wr x1).toNat) rfl ?_
                cases h
                exact g_iret hC hE (xdt tt_X12_instruction 42 rfl)
              · replace h := (if_neg hv33).symm.trans h
                by_cases hv37 : wr x2 = 5
                · replace h := (if_pos hv37).symm.trans h
                  refine g_tabIn hC (xdt tt_X12_instruction 19 rfl) (fun z => hs9 (Or.inl z)) (fun z => hs9 (Or.inr z)) (off := 74) (by rw [hv37]; rfl) (show ((35 : Nat) : Int) + 74 = ((109 : Nat) : Int) by decide) ?_
                  refine g_aload_n hC rfl 0 rfl (rfl : 109 + 1 = 110) (xdt tt_X12_instruction 43 rfl) ?_
                  refine g_getP hC hk0 kclX12 ly4_0 5 (by decide) (rfl : r0 + 0 = r0) rfl q196 (rfl : 110 + 3 = 113) (xdt tt_X12_instruction 44 rfl) ?_
                  refine g_iload_n hC rfl 1 rfl (rfl : 113 + 1 = 114) (xdt tt_X12_instruction 45 rfl) ?_
                  obtain ⟨hi34, h⟩ := ckI_i h
                  refine g_iald hC hk0 ly4_1 hi34 (rfl : 114 + 1 = 115) (xdt tt_X12_instruction 46 rfl) (k0 := (wr x1).toNat) rfl ?_
                  refine g_bipush hC (by decide) (rfl : 115 + 2 = 117) (xdt tt_X12_instruction 47 rfl) ?_
                  refine g_icmp_ne hC (show ((117 : Nat) : Int) + 12 = ((129 : Nat) : Int) by decide) (rfl : 117 + 3 = 120) (xdt tt_X12_instruction 48 rfl) (fun hc36 => ?_) (fun hc36 => ?_)
                  · replace h := (if_pos hc36).symm.trans h
                    refine g_iconst hC (rfl : 129 + 1 = 130) (xdt tt_X12_instruction 54 rfl) ?_
                    cases h
                    exact g_iret hC hE (xdt tt_X12_instruction 55 rfl)
                  · replace h := (if_neg hc36).symm.trans h
                    refine g_aload_n hC rfl 0 rfl (rfl : 120 + 1 = 121) (xdt tt_X12_instruction 49 rfl) ?_
                    refine g_getP hC hk0 kclX12 ly4_0 8 (by decide) (rfl : r0 + 0 = r0) rfl q199 (rfl : 121 + 3 = 124) (xdt tt_X12_instruction 50 rfl) ?_
                    refine g_iload_n hC rfl 1 rfl (rfl : 124 + 1 = 125) (xdt tt_X12_instruction 51 rfl) ?_
                    obtain ⟨hi35, h⟩ := ckI_i h
                    refine g_iald hC hk0 ly4_4 hi35 (rfl : 125 + 1 = 126) (xdt tt_X12_instruction 52 rfl) (k0 := (wr x1).toNat) rfl ?_
                    refine g_goto hC (show ((126 : Nat) : Int) + 4 = ((130 : Nat) : Int) by decide) (xdt tt_X12_instruction 53 rfl) ?_
                    cases h
                    exact g_iret hC hE (xdt tt_X12_instruction 55 rfl)
                · replace h := (if_neg hv37).symm.trans h
                  by_cases hv39 : wr x2 = 6
                  · replace h := (if_pos hv39).symm.trans h
                    refine g_tabIn hC (xdt tt_X12_instruction 19 rfl) (fun z => hs9 (Or.inl z)) (fun z => hs9 (Or.inr z)) (off := 96) (by rw [hv39]; rfl) (show ((35 : Nat) : Int) + 96 = ((131 : Nat) : Int) by decide) ?_
                    refine g_aload_n hC rfl 0 rfl (rfl : 131 + 1 = 132) (xdt tt_X12_instruction 56 rfl) ?_
                    refine g_getP hC hk0 kclX12 ly4_0 6 (by decide) (rfl : r0 + 0 = r0) rfl q197 (rfl : 132 + 3 = 135) (xdt tt_X12_instruction 57 rfl) ?_
                    refine g_iload_n hC rfl 1 rfl (rfl : 135 + 1 = 136) (xdt tt_X12_instruction 58 rfl) ?_
                    obtain ⟨hi38, h⟩ := ckI_i h
                    refine g_iald hC hk0 ly4_2 hi38 (rfl : 136 + 1 = 137) (xdt tt_X12_instruction 59 rfl) (k0 := (wr x1).toNat) rfl ?_
                    cases h
                    exact g_iret hC hE (xdt tt_X12_instruction 60 rfl)
                  · replace h := (if_neg hv39).symm.trans h
                    cases h
  · replace h := (if_neg hc40).symm.trans h
    refine g_iconst hC (rfl : 32 + 1 = 33) (xdt tt_X12_instruction 16 rfl) ?_
    cases h
    exact g_iret hC hE (xdt tt_X12_instruction 17 rfl)
set_option maxRecDepth 100000 in
set_option maxHeartbeats 4000000 in
theorem k_X12_instruction_p4_0_b25 {K : xCtx} {E : xE} {b : Nat} (hC : xOK K cX12_instruction RX12 3 (rmE 3 b)) (hZ : xZ K) {v : Int} {S' : xSt} (hE : xEnd K E (some .int) (YQi E v S')) {r0 : Nat} (hk0 : xkd E r0 = 4) : ∀ (S : xSt) (x1 : Int) (x2 : Int), f_X12_instruction_p4_0_b25 r0 S x1 x2 = some (v, S') → WG K E 25 [(0, vr E r0 0), (1, vi x1), (2, vi x2)] [vr E r0 0] S := by
  intro S x1 x2 h
  unfold f_X12_instruction_p4_0_b25 at h
  refine g_iconst hC (rfl : 25 + 1 = 26) (xdt tt_X12_instruction 13 rfl) ?_
  refine g_sub [0, 1, 2] (lv' := [(0, vr E r0 0), (1, vi x1), (2, vi x2)]) rfl ?_
  exact k_X12_instruction_p4_0_b26 hC hZ hE hk0 _ _ _ _ h
set_option maxRecDepth 100000 in
set_option maxHeartbeats 4000000 in
theorem c_X12_instruction_p4_0 (l : Launch) {E : xE} {S S' : xSt} {r0 : Nat} {a1 : Int} {a2 : Int} (hk0 : xkd E r0 = 4) {v : Int} (h : f_X12_instruction_p4_0 S r0 a1 a2 = some (v, S')) : Met l yX12_instruction (xws yX12_instruction cX12_instruction 3 (some .int)) (rmD 3) (YPc E [vr E r0 0, vi a1, vi a2] S) (YQi E v S') 0 0 (xA E) := by
  unfold f_X12_instruction_p4_0 at h
  refine met_i (by decide +kernel) (Nat.le_of_ble_eq_true rfl) (fun K hC hZ hE => ?_)
  have hC : xOK K cX12_instruction RX12 3 (rmE 3 0) := hC
  show WG K E 0 [(0, vr E r0 0), (1, vi a1), (2, vi a2)] [] S
  refine g_aload_n hC rfl 0 rfl (rfl : 0 + 1 = 1) (xdt tt_X12_instruction 0 rfl) ?_
  refine g_aload_n hC rfl 0 rfl (rfl : 1 + 1 = 2) (xdt tt_X12_instruction 1 rfl) ?_
  refine g_iload_n hC rfl 1 rfl (rfl : 2 + 1 = 3) (xdt tt_X12_instruction 2 rfl) ?_
  obtain ⟨v3, S2, hc1, h⟩ := bd2_i h
  refine g_callVz hC hZ hk0 kclX12 ly4_0 m_X12_isNumber q651 (Nat.le_of_ble_eq_true rfl) [vi a1] rfl (fun l => c_X12_isNumber_p4_0 l hk0 hc1) rfl (Nat.le_of_ble_eq_true rfl) (rfl : 3 + 3 = 6) (xdt tt_X12_instruction 3 rfl) (fun hb4 => ?_)
  refine g_if_eq hC (show ((6 : Nat) : Int) + 19 = ((25 : Nat) : Int) by decide) (rfl : 6 + 3 = 9) (xdt tt_X12_instruction 4 rfl) (fun hc46 => ?_) (fun hc46 => ?_)
  · replace h := (if_pos hc46).symm.trans h
    refine g_sub [0, 1, 2] (lv' := [(0, vr E r0 0), (1, vi a1), (2, vi a2)]) rfl ?_
    exact k_X12_instruction_p4_0_b25 hC hZ hE hk0 _ _ _ h
  · replace h := (if_neg hc46).symm.trans h
    refine g_iload_n hC rfl 2 rfl (rfl : 9 + 1 = 10) (xdt tt_X12_instruction 5 rfl) ?_
    refine g_i2l hC (rfl : 10 + 1 = 11) (xdt tt_X12_instruction 6 rfl) ?_
    refine g_lconst hC (z := 0) (by decide) (rfl : 11 + 1 = 12) (xdt tt_X12_instruction 7 rfl) ?_
    refine g_ldc2 hC (z := 7) q650 (rfl : 12 + 3 = 15) (xdt tt_X12_instruction 8 rfl) ?_
    obtain ⟨v43, S42, hc41, h⟩ := bd2_i h
    refine g_callSz hC hZ m_X12_isIn q269 (Nat.le_of_ble_eq_true rfl) [vl (wr a2), vl 0, vl 7] rfl (fun l => c_X12_isIn l hc41) rfl (Nat.le_of_ble_eq_true rfl) (rfl : 15 + 3 = 18) (xdt tt_X12_instruction 9 rfl) (fun hb44 => ?_)
    refine g_if_eq hC (show ((18 : Nat) : Int) + 7 = ((25 : Nat) : Int) by decide) (rfl : 18 + 3 = 21) (xdt tt_X12_instruction 10 rfl) (fun hc45 => ?_) (fun hc45 => ?_)
    · replace h := (if_pos hc45).symm.trans h
      refine g_sub [0, 1, 2] (lv' := [(0, vr E r0 0), (1, vi a1), (2, vi a2)]) rfl ?_
      exact k_X12_instruction_p4_0_b25 hC hZ hE hk0 _ _ _ h
    · replace h := (if_neg hc45).symm.trans h
      refine g_iconst hC (rfl : 21 + 1 = 22) (xdt tt_X12_instruction 11 rfl) ?_
      refine g_goto hC (show ((22 : Nat) : Int) + 4 = ((26 : Nat) : Int) by decide) (xdt tt_X12_instruction 12 rfl) ?_
      refine g_sub [0, 1, 2] (lv' := [(0, vr E r0 0), (1, vi a1), (2, vi a2)]) rfl ?_
      exact k_X12_instruction_p4_0_b26 hC hZ hE hk0 _ _ _ _ h
def f_X12_at_p4_0_b13 (r0 : Nat) : Nat → xSt → Int → Int → Option (Int × xSt)
  | 0, _, _, _ => none
  | fuel + 1, S, x1, x2 =>
    if wr (gI S r0 0 1) ≤ wr x2 then
      (some ((-1), S))
    else
      (ckI (x2 + 1) 61 <|
      if wr (gI S r0 5 (wr (x2 + 1)).toNat) ≤ wr x1 then
        ((f_X12_at_p4_0_b13 r0 fuel) S x1 (x2 + 1))
      else
        (some (x2, S)))
def f_X12_at_p4_0 (S : xSt) (r0 : Nat) (a1 : Int) : Option (Int × xSt) :=
  lt1 (wI S r0 0 0 0) fun S1 =>
  if 0 ≤ wr a1 then
    (f_X12_at_p4_0_b13 r0 (fu S1) S1 a1 0)
  else
    (some ((-1), S1))
set_option maxRecDepth 100000 in
set_option maxHeartbeats 4000000 in
theorem k_X12_at_p4_0_b13 {K : xCtx} {E : xE} {b : Nat} (hC : xOK K cX12_at RX12 3 (rmE 1 b)) (hZ : xZ K) {v : Int} {S' : xSt} (hE : xEnd K E (some .int) (YQi E v S')) {r0 : Nat} (hk0 : xkd E r0 = 4) : ∀ (fuel : Nat) (S : xSt) (x1 : Int) (x2 : Int), f_X12_at_p4_0_b13 r0 fuel S x1 x2 = some (v, S') → WG K E 13 [(0, vr E r0 0), (1, vi x1), (2, vi x2)] [] S := by
  intro fuel
  induction fuel with
  | zero => intro S x1 x2 h; cases h
  | succ fuel ih =>
    intro S x1 x2 h
    rw [f_X12_at_p4_0_b13] at h
    refine g_iload_n hC rfl 2 rfl (rfl : 13 + 1 = 14) (xdt tt_X12_at 9 rfl) ?_
    refine g_aload_n hC rfl 0 rfl (rfl : 14 + 1 = 15) (xdt tt_X12_at 10 rfl) ?_
    refine g_getI hC hk0 kclX12 ly4_0 1 (by decide) rfl q228 (rfl : 15 + 3 = 18) (xdt tt_X12_at 11 rfl) ?_
    refine g_icmp_ge hC (show ((18 : Nat) : Int) + 23 = ((41 : Nat) : Int) by decide) (rfl : 18 + 3 = 21) (xdt tt_X12_at 12 rfl) (fun hc4 => ?_) (fun hc4 => ?_)
    · replace h := (if_pos hc4).symm.trans h
      refine g_iconst hC (rfl : 41 + 1 = 42) (xdt tt_X12_at 25 rfl) ?_
      cases h
      exact g_iret hC hE (xdt tt_X12_at 26 rfl)
    · replace h := (if_neg hc4).symm.trans h
      refine g_iload_n hC rfl 1 rfl (rfl : 21 + 1 = 22) (xdt tt_X12_at 13 rfl) ?_
      refine g_aload_n hC rfl 0 rfl (rfl : 22 + 1 = 23) (xdt tt_X12_at 14 rfl) ?_
      refine g_getP hC hk0 kclX12 ly4_0 9 (by decide) (rfl : r0 + 0 = r0) rfl q200 (rfl : 23 + 3 = 26) (xdt tt_X12_at 15 rfl) ?_
      refine g_iload_n hC rfl 2 rfl (rfl : 26 + 1 = 27) (xdt tt_X12_at 16 rfl) ?_
      refine g_iconst hC (rfl : 27 + 1 = 28) (xdt tt_X12_at 17 rfl) ?_
      refine g_iadd hC (rfl : 28 + 1 = 29) (xdt tt_X12_at 18 rfl) ?_
      obtain ⟨hi2, h⟩ := ckI_i h
      refine g_iald hC hk0 ly4_5 hi2 (rfl : 29 + 1 = 30) (xdt tt_X12_at 19 rfl) (k0 := (wr (x2 + 1)).toNat) rfl ?_
      refine g_icmp_ge hC (show ((30 : Nat) : Int) + 5 = ((35 : Nat) : Int) by decide) (rfl : 30 + 3 = 33) (xdt tt_X12_at 20 rfl) (fun hc3 => ?_) (fun hc3 => ?_)
      · replace h := (if_pos hc3).symm.trans h
        refine g_iinc hC 2 rfl (by decide) (lv' := [(2, vi (x2 + 1)), (0, vr E r0 0), (1, vi x1)]) rfl (rfl : 35 + 3 = 38) (xdt tt_X12_at 23 rfl) ?_
        refine g_goto hC (show ((38 : Nat) : Int) + (-25) = ((13 : Nat) : Int) by decide) (xdt tt_X12_at 24 rfl) ?_
        refine g_sub [1, 2, 0] (lv' := [(0, vr E r0 0), (1, vi x1), (2, vi (x2 + 1))]) rfl ?_
        exact ih _ _ _ h
      · replace h := (if_neg hc3).symm.trans h
        refine g_iload_n hC rfl 2 rfl (rfl : 33 + 1 = 34) (xdt tt_X12_at 21 rfl) ?_
        cases h
        exact g_iret hC hE (xdt tt_X12_at 22 rfl)
set_option maxRecDepth 100000 in
set_option maxHeartbeats 4000000 in
theorem c_X12_at_p4_0 (l : Launch) {E : xE} {S S' : xSt} {r0 : Nat} {a1 : Int} (hk0 : xkd E r0 = 4) {v : Int} (h : f_X12_at_p4_0 S r0 a1 = some (v, S')) : Met l yX12_at (xws yX12_at cX12_at 3 (some .int)) (rmD 1) (YPc E [vr E r0 0, vi a1] S) (YQi E v S') 0 0 (xA E) := by
  unfold f_X12_at_p4_0 at h
  refine met_i (by decide +kernel) (Nat.le_of_ble_eq_true rfl) (fun K hC hZ hE => ?_)
  have hC : xOK K cX12_at RX12 3 (rmE 1 0) := hC
  show WG K E 0 [(0, vr E r0 0), (1, vi a1)] [] S
  refine g_aload_n hC rfl 0 rfl (rfl : 0 + 1 = 1) (xdt tt_X12_at 0 rfl) ?_
  refine g_iconst hC (rfl : 1 + 1 = 2) (xdt tt_X12_at 1 rfl) ?_
  obtain ⟨S1, hS1, h⟩ := lt1_i h
  refine g_putI hC hk0 kclX12 ly4_0 0 (by decide) rfl rfl rfl q259 hS1 (rfl : 2 + 3 = 5) (xdt tt_X12_at 2 rfl) ?_
  refine g_iload_n hC rfl 1 rfl (rfl : 5 + 1 = 6) (xdt tt_X12_at 3 rfl) ?_
  refine g_if_ge hC (show ((6 : Nat) : Int) + 5 = ((11 : Nat) : Int) by decide) (rfl : 6 + 3 = 9) (xdt tt_X12_at 4 rfl) (fun hc5 => ?_) (fun hc5 => ?_)
  · replace h := (if_pos hc5).symm.trans h
    refine g_iconst hC (rfl : 11 + 1 = 12) (xdt tt_X12_at 7 rfl) ?_
    refine g_istore_n hC rfl (by decide) (lv' := [(2, vi 0), (0, vr E r0 0), (1, vi a1)]) rfl (rfl : 12 + 1 = 13) (xdt tt_X12_at 8 rfl) ?_
    refine g_sub [1, 2, 0] (lv' := [(0, vr E r0 0), (1, vi a1), (2, vi 0)]) rfl ?_
    exact k_X12_at_p4_0_b13 hC hZ hE hk0 _ _ _ _ h
  · replace h := (if_neg hc5).symm.trans h
    refine g_iconst hC (rfl : 9 + 1 = 10) (xdt tt_X12_at 5 rfl) ?_
    cases h
    exact g_iret hC hE (xdt tt_X12_at 6 rfl)
def f_X12_doesCross_p4_0 (S : xSt) (r0 : Nat) (a1 : Int) : Option (Int × xSt) :=
  ckI a1 61 <|
  bd2 (f_X12_windowOf_p4_0 S r0 (gI S r0 5 (wr a1).toNat)) fun v4 S3 =>
  ckI (a1 + 1) 61 <|
  bd2 (f_X12_windowOf_p4_0 S3 r0 ((gI S3 r0 5 (wr (a1 + 1)).toNat) - 1)) fun v8 S7 =>
  if wr v4 = wr v8 then
    (some (0, S7))
  else
    (some (1, S7))
set_option maxRecDepth 100000 in
set_option maxHeartbeats 4000000 in
theorem c_X12_doesCross_p4_0 (l : Launch) {E : xE} {S S' : xSt} {r0 : Nat} {a1 : Int} (hk0 : xkd E r0 = 4) {v : Int} (h : f_X12_doesCross_p4_0 S r0 a1 = some (v, S')) : Met l yX12_doesCross (xws yX12_doesCross cX12_doesCross 2 (some .boolean)) (rmD 2) (YPc E [vr E r0 0, vi a1] S) (YQz E v S') 0 0 (xA E) := by
  unfold f_X12_doesCross_p4_0 at h
  refine met_z (by decide +kernel) (Nat.le_of_ble_eq_true rfl) (fun K hC hZ hE => ?_)
  have hC : xOK K cX12_doesCross RX12 2 (rmE 2 0) := hC
  show WG K E 0 [(0, vr E r0 0), (1, vi a1)] [] S
  refine g_aload_n hC rfl 0 rfl (rfl : 0 + 1 = 1) (xdt tt_X12_doesCross 0 rfl) ?_
  refine g_aload_n hC rfl 0 rfl (rfl : 1 + 1 = 2) (xdt tt_X12_doesCross 1 rfl) ?_
  refine g_getP hC hk0 kclX12 ly4_0 9 (by decide) (rfl : r0 + 0 = r0) rfl q200 (rfl : 2 + 3 = 5) (xdt tt_X12_doesCross 2 rfl) ?_
  refine g_iload_n hC rfl 1 rfl (rfl : 5 + 1 = 6) (xdt tt_X12_doesCross 3 rfl) ?_
  obtain ⟨hi1, h⟩ := ckI_i h
  refine g_iald hC hk0 ly4_5 hi1 (rfl : 6 + 1 = 7) (xdt tt_X12_doesCross 4 rfl) (k0 := (wr a1).toNat) rfl ?_
  obtain ⟨v4, S3, hc2, h⟩ := bd2_i h
  refine g_callVi hC hZ hk0 kclX12 ly4_0 m_X12_windowOf q708 (Nat.le_of_ble_eq_true rfl) [vi (gI S r0 5 (wr a1).toNat)] rfl (fun l => c_X12_windowOf_p4_0 l hk0 hc2) rfl (Nat.le_of_ble_eq_true rfl) (rfl : 7 + 3 = 10) (xdt tt_X12_doesCross 5 rfl) ?_
  refine g_aload_n hC rfl 0 rfl (rfl : 10 + 1 = 11) (xdt tt_X12_doesCross 6 rfl) ?_
  refine g_aload_n hC rfl 0 rfl (rfl : 11 + 1 = 12) (xdt tt_X12_doesCross 7 rfl) ?_
  refine g_getP hC hk0 kclX12 ly4_0 9 (by decide) (rfl : r0 + 0 = r0) rfl q200 (rfl : 12 + 3 = 15) (xdt tt_X12_doesCross 8 rfl) ?_
  refine g_iload_n hC rfl 1 rfl (rfl : 15 + 1 = 16) (xdt tt_X12_doesCross 9 rfl) ?_
  refine g_iconst hC (rfl : 16 + 1 = 17) (xdt tt_X12_doesCross 10 rfl) ?_
  refine g_iadd hC (rfl : 17 + 1 = 18) (xdt tt_X12_doesCross 11 rfl) ?_
  obtain ⟨hi5, h⟩ := ckI_i h
  refine g_iald hC hk0 ly4_5 hi5 (rfl : 18 + 1 = 19) (xdt tt_X12_doesCross 12 rfl) (k0 := (wr (a1 + 1)).toNat) rfl ?_
  refine g_iconst hC (rfl : 19 + 1 = 20) (xdt tt_X12_doesCross 13 rfl) ?_
  refine g_isub hC (rfl : 20 + 1 = 21) (xdt tt_X12_doesCross 14 rfl) ?_
  obtain ⟨v8, S7, hc6, h⟩ := bd2_i h
  refine g_callVi hC hZ hk0 kclX12 ly4_0 m_X12_windowOf q708 (Nat.le_of_ble_eq_true rfl) [vi ((gI S3 r0 5 (wr (a1 + 1)).toNat) - 1)] rfl (fun l => c_X12_windowOf_p4_0 l hk0 hc6) rfl (Nat.le_of_ble_eq_true rfl) (rfl : 21 + 3 = 24) (xdt tt_X12_doesCross 15 rfl) ?_
  refine g_icmp_eq hC (show ((24 : Nat) : Int) + 7 = ((31 : Nat) : Int) by decide) (rfl : 24 + 3 = 27) (xdt tt_X12_doesCross 16 rfl) (fun hc9 => ?_) (fun hc9 => ?_)
  · replace h := (if_pos hc9).symm.trans h
    refine g_iconst hC (rfl : 31 + 1 = 32) (xdt tt_X12_doesCross 19 rfl) ?_
    cases h
    exact g_zret hC hE (Or.inl rfl) (xdt tt_X12_doesCross 20 rfl)
  · replace h := (if_neg hc9).symm.trans h
    refine g_iconst hC (rfl : 27 + 1 = 28) (xdt tt_X12_doesCross 17 rfl) ?_
    refine g_goto hC (show ((28 : Nat) : Int) + 4 = ((32 : Nat) : Int) by decide) (xdt tt_X12_doesCross 18 rfl) ?_
    cases h
    exact g_zret hC hE (Or.inr rfl) (xdt tt_X12_doesCross 20 rfl)
def f_X12_crosses_p4_0 (S : xSt) (r0 : Nat) (a1 : Int) : Option (Int × xSt) :=
  bd2 (f_X12_isNumber_p4_0 S r0 a1) fun v3 S2 =>
  bd2 (f_X12_is_p4_0 S2 r0 v3) fun v7 S6 =>
  if wr v7 = 0 then
    (some (0, S6))
  else
    (bd2 (f_X12_doesCross_p4_0 S6 r0 a1) fun v11 S10 =>
    if wr v11 = 0 then
      (some (0, S10))
    else
      (some (1, S10)))
set_option maxRecDepth 100000 in
set_option maxHeartbeats 4000000 in
theorem c_X12_crosses_p4_0 (l : Launch) {E : xE} {S S' : xSt} {r0 : Nat} {a1 : Int} (hk0 : xkd E r0 = 4) {v : Int} (h : f_X12_crosses_p4_0 S r0 a1 = some (v, S')) : Met l yX12_crosses (xws yX12_crosses cX12_crosses 2 (some .boolean)) (rmD 3) (YPc E [vr E r0 0, vi a1] S) (YQz E v S') 0 0 (xA E) := by
  unfold f_X12_crosses_p4_0 at h
  refine met_z (by decide +kernel) (Nat.le_of_ble_eq_true rfl) (fun K hC hZ hE => ?_)
  have hC : xOK K cX12_crosses RX12 2 (rmE 3 0) := hC
  show WG K E 0 [(0, vr E r0 0), (1, vi a1)] [] S
  refine g_aload_n hC rfl 0 rfl (rfl : 0 + 1 = 1) (xdt tt_X12_crosses 0 rfl) ?_
  refine g_aload_n hC rfl 0 rfl (rfl : 1 + 1 = 2) (xdt tt_X12_crosses 1 rfl) ?_
  refine g_iload_n hC rfl 1 rfl (rfl : 2 + 1 = 3) (xdt tt_X12_crosses 2 rfl) ?_
  obtain ⟨v3, S2, hc1, h⟩ := bd2_i h
  refine g_callVz hC hZ hk0 kclX12 ly4_0 m_X12_isNumber q651 (Nat.le_of_ble_eq_true rfl) [vi a1] rfl (fun l => c_X12_isNumber_p4_0 l hk0 hc1) rfl (Nat.le_of_ble_eq_true rfl) (rfl : 3 + 3 = 6) (xdt tt_X12_crosses 3 rfl) (fun hb4 => ?_)
  obtain ⟨v7, S6, hc5, h⟩ := bd2_i h
  refine g_callVz hC hZ hk0 kclX12 ly4_0 m_X12_is q655 (Nat.le_of_ble_eq_true rfl) [vi v3] rfl (fun l => c_X12_is_p4_0 l hk0 hc5) rfl (Nat.le_of_ble_eq_true rfl) (rfl : 6 + 3 = 9) (xdt tt_X12_crosses 4 rfl) (fun hb8 => ?_)
  refine g_if_eq hC (show ((9 : Nat) : Int) + 15 = ((24 : Nat) : Int) by decide) (rfl : 9 + 3 = 12) (xdt tt_X12_crosses 5 rfl) (fun hc14 => ?_) (fun hc14 => ?_)
  · replace h := (if_pos hc14).symm.trans h
    refine g_iconst hC (rfl : 24 + 1 = 25) (xdt tt_X12_crosses 12 rfl) ?_
    cases h
    exact g_zret hC hE (Or.inl rfl) (xdt tt_X12_crosses 13 rfl)
  · replace h := (if_neg hc14).symm.trans h
    refine g_aload_n hC rfl 0 rfl (rfl : 12 + 1 = 13) (xdt tt_X12_crosses 6 rfl) ?_
    refine g_iload_n hC rfl 1 rfl (rfl : 13 + 1 = 14) (xdt tt_X12_crosses 7 rfl) ?_
    obtain ⟨v11, S10, hc9, h⟩ := bd2_i h
    refine g_callVz hC hZ hk0 kclX12 ly4_0 m_X12_doesCross q704 (Nat.le_of_ble_eq_true rfl) [vi a1] rfl (fun l => c_X12_doesCross_p4_0 l hk0 hc9) rfl (Nat.le_of_ble_eq_true rfl) (rfl : 14 + 3 = 17) (xdt tt_X12_crosses 8 rfl) (fun hb12 => ?_)
    refine g_if_eq hC (show ((17 : Nat) : Int) + 7 = ((24 : Nat) : Int) by decide) (rfl : 17 + 3 = 20) (xdt tt_X12_crosses 9 rfl) (fun hc13 => ?_) (fun hc13 => ?_)
    · replace h := (if_pos hc13).symm.trans h
      refine g_iconst hC (rfl : 24 + 1 = 25) (xdt tt_X12_crosses 12 rfl) ?_
      cases h
      exact g_zret hC hE (Or.inl rfl) (xdt tt_X12_crosses 13 rfl)
    · replace h := (if_neg hc13).symm.trans h
      refine g_iconst hC (rfl : 20 + 1 = 21) (xdt tt_X12_crosses 10 rfl) ?_
      refine g_goto hC (show ((21 : Nat) : Int) + 4 = ((25 : Nat) : Int) by decide) (xdt tt_X12_crosses 11 rfl) ?_
      cases h
      exact g_zret hC hE (Or.inr rfl) (xdt tt_X12_crosses 13 rfl)
def f_X12_fuses_p4_0 (S : xSt) (r0 : Nat) (a1 : Int) : Option (Int × xSt) :=
  bd2 (f_X12_isNumber_p4_0 S r0 a1) fun v3 S2 =>
  bd2 (f_X12_is_p4_0 S2 r0 v3) fun v7 S6 =>
  if wr v7 = 0 then
    (some (0, S6))
  else
    (bd2 (f_X12_doesFuse_p4_0 S6 r0 a1) fun v11 S10 =>
    if wr v11 = 0 then
      (some (0, S10))
    else
      (some (1, S10)))
set_option maxRecDepth 100000 in
set_option maxHeartbeats 4000000 in
theorem c_X12_fuses_p4_0 (l : Launch) {E : xE} {S S' : xSt} {r0 : Nat} {a1 : Int} (hk0 : xkd E r0 = 4) {v : Int} (h : f_X12_fuses_p4_0 S r0 a1 = some (v, S')) : Met l yX12_fuses (xws yX12_fuses cX12_fuses 2 (some .boolean)) (rmD 3) (YPc E [vr E r0 0, vi a1] S) (YQz E v S') 0 0 (xA E) := by
  unfold f_X12_fuses_p4_0 at h
  refine met_z (by decide +kernel) (Nat.le_of_ble_eq_true rfl) (fun K hC hZ hE => ?_)
  have hC : xOK K cX12_fuses RX12 2 (rmE 3 0) := hC
  show WG K E 0 [(0, vr E r0 0), (1, vi a1)] [] S
  refine g_aload_n hC rfl 0 rfl (rfl : 0 + 1 = 1) (xdt tt_X12_fuses 0 rfl) ?_
  refine g_aload_n hC rfl 0 rfl (rfl : 1 + 1 = 2) (xdt tt_X12_fuses 1 rfl) ?_
  refine g_iload_n hC rfl 1 rfl (rfl : 2 + 1 = 3) (xdt tt_X12_fuses 2 rfl) ?_
  obtain ⟨v3, S2, hc1, h⟩ := bd2_i h
  refine g_callVz hC hZ hk0 kclX12 ly4_0 m_X12_isNumber q651 (Nat.le_of_ble_eq_true rfl) [vi a1] rfl (fun l => c_X12_isNumber_p4_0 l hk0 hc1) rfl (Nat.le_of_ble_eq_true rfl) (rfl : 3 + 3 = 6) (xdt tt_X12_fuses 3 rfl) (fun hb4 => ?_)
  obtain ⟨v7, S6, hc5, h⟩ := bd2_i h
  refine g_callVz hC hZ hk0 kclX12 ly4_0 m_X12_is q655 (Nat.le_of_ble_eq_true rfl) [vi v3] rfl (fun l => c_X12_is_p4_0 l hk0 hc5) rfl (Nat.le_of_ble_eq_true rfl) (rfl : 6 + 3 = 9) (xdt tt_X12_fuses 4 rfl) (fun hb8 => ?_)
  refine g_if_eq hC (show ((9 : Nat) : Int) + 15 = ((24 : Nat) : Int) by decide) (rfl : 9 + 3 = 12) (xdt tt_X12_fuses 5 rfl) (fun hc14 => ?_) (fun hc14 => ?_)
  · replace h := (if_pos hc14).symm.trans h
    refine g_iconst hC (rfl : 24 + 1 = 25) (xdt tt_X12_fuses 12 rfl) ?_
    cases h
    exact g_zret hC hE (Or.inl rfl) (xdt tt_X12_fuses 13 rfl)
  · replace h := (if_neg hc14).symm.trans h
    refine g_aload_n hC rfl 0 rfl (rfl : 12 + 1 = 13) (xdt tt_X12_fuses 6 rfl) ?_
    refine g_iload_n hC rfl 1 rfl (rfl : 13 + 1 = 14) (xdt tt_X12_fuses 7 rfl) ?_
    obtain ⟨v11, S10, hc9, h⟩ := bd2_i h
    refine g_callVz hC hZ hk0 kclX12 ly4_0 m_X12_doesFuse q731 (Nat.le_of_ble_eq_true rfl) [vi a1] rfl (fun l => c_X12_doesFuse_p4_0 l hk0 hc9) rfl (Nat.le_of_ble_eq_true rfl) (rfl : 14 + 3 = 17) (xdt tt_X12_fuses 8 rfl) (fun hb12 => ?_)
    refine g_if_eq hC (show ((17 : Nat) : Int) + 7 = ((24 : Nat) : Int) by decide) (rfl : 17 + 3 = 20) (xdt tt_X12_fuses 9 rfl) (fun hc13 => ?_) (fun hc13 => ?_)
    · replace h := (if_pos hc13).symm.trans h
      refine g_iconst hC (rfl : 24 + 1 = 25) (xdt tt_X12_fuses 12 rfl) ?_
      cases h
      exact g_zret hC hE (Or.inl rfl) (xdt tt_X12_fuses 13 rfl)
    · replace h := (if_neg hc13).symm.trans h
      refine g_iconst hC (rfl : 20 + 1 = 21) (xdt tt_X12_fuses 10 rfl) ?_
      refine g_goto hC (show ((21 : Nat) : Int) + 4 = ((25 : Nat) : Int) by decide) (xdt tt_X12_fuses 11 rfl) ?_
      cases h
      exact g_zret hC hE (Or.inr rfl) (xdt tt_X12_fuses 13 rfl)
