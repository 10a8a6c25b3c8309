def f_X12_notes_p4_0 (S : xSt) (r0 : Nat) (a1 : Int) : Option (xSt) :=
  ckI (263 + (Int.tmod (wr (gI S r0 6 17)) (wr 100))) 363 <|
  lt1 (wI S r0 6 (wr (263 + (Int.tmod (wr (gI S r0 6 17)) (wr 100)))).toNat a1) fun S2 =>
  lt1 (wI S2 r0 6 17 ((gI S2 r0 6 17) + 1)) fun S3 =>
  ckI (203 + a1) 363 <|
  ckI (203 + a1) 363 <|
  lt1 (wI S3 r0 6 (wr (203 + a1)).toNat ((gI S3 r0 6 (wr (203 + a1)).toNat) + 1)) fun S6 =>
  bd2 (f_X12_isReplayed_p4_0 S6 r0) fun v9 S8 =>
  if wr v9 = 0 then
    (some S8)
  else
    (lt1 (wI S8 r0 6 24 ((gI S8 r0 6 24) + 1)) fun S11 =>
    some S11)
set_option maxRecDepth 100000 in
set_option maxHeartbeats 4000000 in
theorem c_X12_notes_p4_0 (l : Launch) {E : xE} {S S' : xSt} {r0 : Nat} {a1 : Int} (hk0 : xkd E r0 = 4) (h : f_X12_notes_p4_0 S r0 a1 = some S') : Met l yX12_notes (xws yX12_notes cX12_notes 2 none) (rmD 2) (YPc E [vr E r0 0, vi a1] S) (YQv E S') 0 0 (xA E) := by
  unfold f_X12_notes_p4_0 at h
  refine met_v (by decide +kernel) (Nat.le_of_ble_eq_true rfl) (fun K hC hZ hE => ?_)
  have hC : xOK K cX12_notes RX12 2 (rmE 2 0) := hC
  show WG K E 0 [(0, vr E r0 0), (1, vi a1)] [] S
  refine g_aload_n hC rfl 0 rfl (rfl : 0 + 1 = 1) (xdt tt_X12_notes 0 rfl) ?_
  refine g_getP hC hk0 kclX12 ly4_0 10 (by decide) (rfl : r0 + 0 = r0) rfl q201 (rfl : 1 + 3 = 4) (xdt tt_X12_notes 1 rfl) ?_
  refine g_sipush hC (by decide) (rfl : 4 + 3 = 7) (xdt tt_X12_notes 2 rfl) ?_
  refine g_aload_n hC rfl 0 rfl (rfl : 7 + 1 = 8) (xdt tt_X12_notes 3 rfl) ?_
  refine g_getP hC hk0 kclX12 ly4_0 10 (by decide) (rfl : r0 + 0 = r0) rfl q201 (rfl : 8 + 3 = 11) (xdt tt_X12_notes 4 rfl) ?_
  refine g_bipush hC (by decide) (rfl : 11 + 2 = 13) (xdt tt_X12_notes 5 rfl) ?_
  refine g_iald hC hk0 ly4_6 (by decide) (rfl : 13 + 1 = 14) (xdt tt_X12_notes 6 rfl) (k0 := 17) (by decide) ?_
  refine g_bipush hC (by decide) (rfl : 14 + 2 = 16) (xdt tt_X12_notes 7 rfl) ?_
  refine g_irem hC (by decide) (rfl : 16 + 1 = 17) (xdt tt_X12_notes 8 rfl) ?_
  refine g_iadd hC (rfl : 17 + 1 = 18) (xdt tt_X12_notes 9 rfl) ?_
  refine g_iload_n hC rfl 1 rfl (rfl : 18 + 1 = 19) (xdt tt_X12_notes 10 rfl) ?_
  obtain ⟨hi1, h⟩ := ckI_i h
  obtain ⟨S2, hS2, h⟩ := lt1_i h
  refine g_iast hC hk0 ly4_6 hi1 rfl hS2 (rfl : 19 + 1 = 20) (xdt tt_X12_notes 11 rfl) ?_
  refine g_aload_n hC rfl 0 rfl (rfl : 20 + 1 = 21) (xdt tt_X12_notes 12 rfl) ?_
  refine g_getP hC hk0 kclX12 ly4_0 10 (by decide) (rfl : r0 + 0 = r0) rfl q201 (rfl : 21 + 3 = 24) (xdt tt_X12_notes 13 rfl) ?_
  refine g_bipush hC (by decide) (rfl : 24 + 2 = 26) (xdt tt_X12_notes 14 rfl) ?_
  refine g_aload_n hC rfl 0 rfl (rfl : 26 + 1 = 27) (xdt tt_X12_notes 15 rfl) ?_
  refine g_getP hC hk0 kclX12 ly4_0 10 (by decide) (rfl : r0 + 0 = r0) rfl q201 (rfl : 27 + 3 = 30) (xdt tt_X12_notes 16 rfl) ?_
  refine g_bipush hC (by decide) (rfl : 30 + 2 = 32) (xdt tt_X12_notes 17 rfl) ?_
  refine g_iald hC hk0 ly4_6 (by decide) (rfl : 32 + 1 = 33) (xdt tt_X12_notes 18 rfl) (k0 := 17) (by decide) ?_
  refine g_iconst hC (rfl : 33 + 1 = 34) (xdt tt_X12_notes 19 rfl) ?_
  refine g_iadd hC (rfl : 34 + 1 = 35) (xdt tt_X12_notes 20 rfl) ?_
  obtain ⟨S3, hS3, h⟩ := lt1_i h
  refine g_iast hC hk0 ly4_6 (by decide) (by decide) hS3 (rfl : 35 + 1 = 36) (xdt tt_X12_notes 21 rfl) ?_
  refine g_aload_n hC rfl 0 rfl (rfl : 36 + 1 = 37) (xdt tt_X12_notes 22 rfl) ?_
  refine g_getP hC hk0 kclX12 ly4_0 10 (by decide) (rfl : r0 + 0 = r0) rfl q201 (rfl : 37 + 3 = 40) (xdt tt_X12_notes 23 rfl) ?_
  refine g_sipush hC (by decide) (rfl : 40 + 3 = 43) (xdt tt_X12_notes 24 rfl) ?_
  refine g_iload_n hC rfl 1 rfl (rfl : 43 + 1 = 44) (xdt tt_X12_notes 25 rfl) ?_
  refine g_iadd hC (rfl : 44 + 1 = 45) (xdt tt_X12_notes 26 rfl) ?_
  refine g_aload_n hC rfl 0 rfl (rfl : 45 + 1 = 46) (xdt tt_X12_notes 27 rfl) ?_
  refine g_getP hC hk0 kclX12 ly4_0 10 (by decide) (rfl : r0 + 0 = r0) rfl q201 (rfl : 46 + 3 = 49) (xdt tt_X12_notes 28 rfl) ?_
  refine g_sipush hC (by decide) (rfl : 49 + 3 = 52) (xdt tt_X12_notes 29 rfl) ?_
  refine g_iload_n hC rfl 1 rfl (rfl : 52 + 1 = 53) (xdt tt_X12_notes 30 rfl) ?_
  refine g_iadd hC (rfl : 53 + 1 = 54) (xdt tt_X12_notes 31 rfl) ?_
  obtain ⟨hi4, h⟩ := ckI_i h
  refine g_iald hC hk0 ly4_6 hi4 (rfl : 54 + 1 = 55) (xdt tt_X12_notes 32 rfl) (k0 := (wr (203 + a1)).toNat) rfl ?_
  refine g_iconst hC (rfl : 55 + 1 = 56) (xdt tt_X12_notes 33 rfl) ?_
  refine g_iadd hC (rfl : 56 + 1 = 57) (xdt tt_X12_notes 34 rfl) ?_
  obtain ⟨hi5, h⟩ := ckI_i h
  obtain ⟨S6, hS6, h⟩ := lt1_i h
  refine g_iast hC hk0 ly4_6 hi5 rfl hS6 (rfl : 57 + 1 = 58) (xdt tt_X12_notes 35 rfl) ?_
  refine g_aload_n hC rfl 0 rfl (rfl : 58 + 1 = 59) (xdt tt_X12_notes 36 rfl) ?_
  obtain ⟨v9, S8, hc7, h⟩ := bd2_i h
  refine g_callVz hC hZ hk0 kclX12 ly4_0 m_X12_isReplayed q844 (Nat.le_of_ble_eq_true rfl) [] rfl (fun l => c_X12_isReplayed_p4_0 l hk0 hc7) rfl (Nat.le_of_ble_eq_true rfl) (rfl : 59 + 3 = 62) (xdt tt_X12_notes 37 rfl) (fun hb10 => ?_)
  refine g_if_eq hC (show ((62 : Nat) : Int) + 19 = ((81 : Nat) : Int) by decide) (rfl : 62 + 3 = 65) (xdt tt_X12_notes 38 rfl) (fun hc12 => ?_) (fun hc12 => ?_)
  · replace h := (if_pos hc12).symm.trans h
    cases h
    exact g_vret hC hE (xdt tt_X12_notes 49 rfl)
  · replace h := (if_neg hc12).symm.trans h
    refine g_aload_n hC rfl 0 rfl (rfl : 65 + 1 = 66) (xdt tt_X12_notes 39 rfl) ?_
    refine g_getP hC hk0 kclX12 ly4_0 10 (by decide) (rfl : r0 + 0 = r0) rfl q201 (rfl : 66 + 3 = 69) (xdt tt_X12_notes 40 rfl) ?_
    refine g_bipush hC (by decide) (rfl : 69 + 2 = 71) (xdt tt_X12_notes 41 rfl) ?_
    refine g_aload_n hC rfl 0 rfl (rfl : 71 + 1 = 72) (xdt tt_X12_notes 42 rfl) ?_
    refine g_getP hC hk0 kclX12 ly4_0 10 (by decide) (rfl : r0 + 0 = r0) rfl q201 (rfl : 72 + 3 = 75) (xdt tt_X12_notes 43 rfl) ?_
    refine g_bipush hC (by decide) (rfl : 75 + 2 = 77) (xdt tt_X12_notes 44 rfl) ?_
    refine g_iald hC hk0 ly4_6 (by decide) (rfl : 77 + 1 = 78) (xdt tt_X12_notes 45 rfl) (k0 := 24) (by decide) ?_
    refine g_iconst hC (rfl : 78 + 1 = 79) (xdt tt_X12_notes 46 rfl) ?_
    refine g_iadd hC (rfl : 79 + 1 = 80) (xdt tt_X12_notes 47 rfl) ?_
    obtain ⟨S11, hS11, h⟩ := lt1_i h
    refine g_iast hC hk0 ly4_6 (by decide) (by decide) hS11 (rfl : 80 + 1 = 81) (xdt tt_X12_notes 48 rfl) ?_
    cases h
    exact g_vret hC hE (xdt tt_X12_notes 49 rfl)
def f_X12_turns_p4_0_b73 (r0 : Nat) (S : xSt) (x1 : Int) (x2 : Int) (s0 : Int) (s1 : Int) : Option (Int × xSt) :=
  ckI s1 363 <|
  lt1 (wI S r0 6 (wr s1).toNat s0) fun S5 =>
  if wr x2 = 0 then
    (ckI (143 + x1) 363 <|
    lt1 (wI S5 r0 6 (wr (143 + x1)).toNat 0) fun S7 =>
    ckB x2 <|
    some (x2, S7))
  else
    (ckI (143 + x1) 363 <|
    lt1 (wI S5 r0 6 (wr (143 + x1)).toNat 1) fun S10 =>
    ckB x2 <|
    some (x2, S10))
def f_X12_turns_p4_0_b34 (r0 : Nat) (S : xSt) (x1 : Int) (s0 : Int) : Option (Int × xSt) :=
  ckI x1 60 <|
  if ¬ wr (gI S r0 1 (wr x1).toNat) = wr 9 then
    (ckB s0 <|
    some (s0, S))
  else
    (if wr s0 = 0 then
      (f_X12_turns_p4_0_b73 r0 S x1 s0 0 (83 + x1))
    else
      (ckI (83 + x1) 363 <|
      f_X12_turns_p4_0_b73 r0 S x1 s0 ((gI S r0 6 (wr (83 + x1)).toNat) + 1) (83 + x1)))
def f_X12_turns_p4_0_b29 (r0 : Nat) (S : xSt) (x1 : Int) : Option (Int × xSt) :=
  f_X12_turns_p4_0_b34 r0 S x1 1
def f_X12_turns_p4_0 (S : xSt) (r0 : Nat) (a1 : Int) : Option (Int × xSt) :=
  ckI a1 60 <|
  if wr (gI S r0 1 (wr a1).toNat) = wr 8 then
    (f_X12_turns_p4_0_b29 r0 S a1)
  else
    (ckI (83 + a1) 363 <|
    ckI a1 60 <|
    if wr (gI S r0 4 (wr a1).toNat) ≤ wr (gI S r0 6 (wr (83 + a1)).toNat) then
      (f_X12_turns_p4_0_b34 r0 S a1 0)
    else
      (f_X12_turns_p4_0_b29 r0 S a1))
set_option maxRecDepth 100000 in
set_option maxHeartbeats 4000000 in
theorem k_X12_turns_p4_0_b73 {K : xCtx} {E : xE} {b : Nat} (hC : xOK K cX12_turns RX12 3 (rmE 1 b)) (hZ : xZ K) {v : Int} {S' : xSt} (hE : xEnd K E (some .boolean) (YQz E v S')) {r0 : Nat} (hk0 : xkd E r0 = 4) : ∀ (S : xSt) (x1 : Int) (x2 : Int) (s0 : Int) (s1 : Int), f_X12_turns_p4_0_b73 r0 S x1 x2 s0 s1 = some (v, S') → WG K E 73 [(0, vr E r0 0), (1, vi x1), (2, vi x2)] [vi s0, vi s1, vr E r0 6] S := by
  intro S x1 x2 s0 s1 h
  unfold f_X12_turns_p4_0_b73 at h
  obtain ⟨hi4, h⟩ := ckI_i h
  obtain ⟨S5, hS5, h⟩ := lt1_i h
  refine g_iast hC hk0 ly4_6 hi4 rfl hS5 (rfl : 73 + 1 = 74) (xdt tt_X12_turns 44 rfl) ?_
  refine g_aload_n hC rfl 0 rfl (rfl : 74 + 1 = 75) (xdt tt_X12_turns 45 rfl) ?_
  refine g_getP hC hk0 kclX12 ly4_0 10 (by decide) (rfl : r0 + 0 = r0) rfl q201 (rfl : 75 + 3 = 78) (xdt tt_X12_turns 46 rfl) ?_
  refine g_sipush hC (by decide) (rfl : 78 + 3 = 81) (xdt tt_X12_turns 47 rfl) ?_
  refine g_iload_n hC rfl 1 rfl (rfl : 81 + 1 = 82) (xdt tt_X12_turns 48 rfl) ?_
  refine g_iadd hC (rfl : 82 + 1 = 83) (xdt tt_X12_turns 49 rfl) ?_
  refine g_iload_n hC rfl 2 rfl (rfl : 83 + 1 = 84) (xdt tt_X12_turns 50 rfl) ?_
  refine g_if_eq hC (show ((84 : Nat) : Int) + 7 = ((91 : Nat) : Int) by decide) (rfl : 84 + 3 = 87) (xdt tt_X12_turns 51 rfl) (fun hc12 => ?_) (fun hc12 => ?_)
  · replace h := (if_pos hc12).symm.trans h
    refine g_iconst hC (rfl : 91 + 1 = 92) (xdt tt_X12_turns 54 rfl) ?_
    obtain ⟨hi6, h⟩ := ckI_i h
    obtain ⟨S7, hS7, h⟩ := lt1_i h
    refine g_iast hC hk0 ly4_6 hi6 rfl hS7 (rfl : 92 + 1 = 93) (xdt tt_X12_turns 55 rfl) ?_
    refine g_iload_n hC rfl 2 rfl (rfl : 93 + 1 = 94) (xdt tt_X12_turns 56 rfl) ?_
    obtain ⟨hb8, h⟩ := ckB_i h
    cases h
    exact g_zret hC hE hb8 (xdt tt_X12_turns 57 rfl)
  · replace h := (if_neg hc12).symm.trans h
    refine g_iconst hC (rfl : 87 + 1 = 88) (xdt tt_X12_turns 52 rfl) ?_
    refine g_goto hC (show ((88 : Nat) : Int) + 4 = ((92 : Nat) : Int) by decide) (xdt tt_X12_turns 53 rfl) ?_
    obtain ⟨hi9, h⟩ := ckI_i h
    obtain ⟨S10, hS10, h⟩ := lt1_i h
    refine g_iast hC hk0 ly4_6 hi9 rfl hS10 (rfl : 92 + 1 = 93) (xdt tt_X12_turns 55 rfl) ?_
    refine g_iload_n hC rfl 2 rfl (rfl : 93 + 1 = 94) (xdt tt_X12_turns 56 rfl) ?_
    obtain ⟨hb11, h⟩ := ckB_i h
    cases h
    exact g_zret hC hE hb11 (xdt tt_X12_turns 57 rfl)
set_option maxRecDepth 100000 in
set_option maxHeartbeats 4000000 in
theorem k_X12_turns_p4_0_b34 {K : xCtx} {E : xE} {b : Nat} (hC : xOK K cX12_turns RX12 3 (rmE 1 b)) (hZ : xZ K) {v : Int} {S' : xSt} (hE : xEnd K E (some .boolean) (YQz E v S')) {r0 : Nat} (hk0 : xkd E r0 = 4) : ∀ (S : xSt) (x1 : Int) (s0 : Int), f_X12_turns_p4_0_b34 r0 S x1 s0 = some (v, S') → WG K E 34 [(0, vr E r0 0), (1, vi x1)] [vi s0] S := by
  intro S x1 s0 h
  unfold f_X12_turns_p4_0_b34 at h
  refine g_istore_n hC rfl (by decide) (lv' := [(2, vi s0), (0, vr E r0 0), (1, vi x1)]) rfl (rfl : 34 + 1 = 35) (xdt tt_X12_turns 20 rfl) ?_
  refine g_aload_n hC rfl 1 rfl (rfl : 35 + 1 = 36) (xdt tt_X12_turns 21 rfl) ?_
  refine g_getP hC hk0 kclX12 ly4_0 5 (by decide) (rfl : r0 + 0 = r0) rfl q196 (rfl : 36 + 3 = 39) (xdt tt_X12_turns 22 rfl) ?_
  refine g_iload_n hC rfl 2 rfl (rfl : 39 + 1 = 40) (xdt tt_X12_turns 23 rfl) ?_
  obtain ⟨hi2, h⟩ := ckI_i h
  refine g_iald hC hk0 ly4_1 hi2 (rfl : 40 + 1 = 41) (xdt tt_X12_turns 24 rfl) (k0 := (wr x1).toNat) rfl ?_
  refine g_bipush hC (by decide) (rfl : 41 + 2 = 43) (xdt tt_X12_turns 25 rfl) ?_
  refine g_icmp_ne hC (show ((43 : Nat) : Int) + 50 = ((93 : Nat) : Int) by decide) (rfl : 43 + 3 = 46) (xdt tt_X12_turns 26 rfl) (fun hc15 => ?_) (fun hc15 => ?_)
  · replace h := (if_pos hc15).symm.trans h
    refine g_iload_n hC rfl 0 rfl (rfl : 93 + 1 = 94) (xdt tt_X12_turns 56 rfl) ?_
    obtain ⟨hb3, h⟩ := ckB_i h
    cases h
    exact g_zret hC hE hb3 (xdt tt_X12_turns 57 rfl)
  · replace h := (if_neg hc15).symm.trans h
    refine g_aload_n hC rfl 1 rfl (rfl : 46 + 1 = 47) (xdt tt_X12_turns 27 rfl) ?_
    refine g_getP hC hk0 kclX12 ly4_0 10 (by decide) (rfl : r0 + 0 = r0) rfl q201 (rfl : 47 + 3 = 50) (xdt tt_X12_turns 28 rfl) ?_
    refine g_bipush hC (by decide) (rfl : 50 + 2 = 52) (xdt tt_X12_turns 29 rfl) ?_
    refine g_iload_n hC rfl 2 rfl (rfl : 52 + 1 = 53) (xdt tt_X12_turns 30 rfl) ?_
    refine g_iadd hC (rfl : 53 + 1 = 54) (xdt tt_X12_turns 31 rfl) ?_
    refine g_iload_n hC rfl 0 rfl (rfl : 54 + 1 = 55) (xdt tt_X12_turns 32 rfl) ?_
    refine g_if_eq hC (show ((55 : Nat) : Int) + 17 = ((72 : Nat) : Int) by decide) (rfl : 55 + 3 = 58) (xdt tt_X12_turns 33 rfl) (fun hc14 => ?_) (fun hc14 => ?_)
    · replace h := (if_pos hc14).symm.trans h
      refine g_iconst hC (rfl : 72 + 1 = 73) (xdt tt_X12_turns 43 rfl) ?_
      refine g_sub [1, 2, 0] (lv' := [(0, vr E r0 0), (1, vi x1), (2, vi s0)]) rfl ?_
      exact k_X12_turns_p4_0_b73 hC hZ hE hk0 _ _ _ _ _ h
    · replace h := (if_neg hc14).symm.trans h
      refine g_aload_n hC rfl 1 rfl (rfl : 58 + 1 = 59) (xdt tt_X12_turns 34 rfl) ?_
      refine g_getP hC hk0 kclX12 ly4_0 10 (by decide) (rfl : r0 + 0 = r0) rfl q201 (rfl : 59 + 3 = 62) (xdt tt_X12_turns 35 rfl) ?_
      refine g_bipush hC (by decide) (rfl : 62 + 2 = 64) (xdt tt_X12_turns 36 rfl) ?_
      refine g_iload_n hC rfl 2 rfl (rfl : 64 + 1 = 65) (xdt tt_X12_turns 37 rfl) ?_
      refine g_iadd hC (rfl : 65 + 1 = 66) (xdt tt_X12_turns 38 rfl) ?_
      obtain ⟨hi13, h⟩ := ckI_i h
      refine g_iald hC hk0 ly4_6 hi13 (rfl : 66 + 1 = 67) (xdt tt_X12_turns 39 rfl) (k0 := (wr (83 + x1)).toNat) rfl ?_
      refine g_iconst hC (rfl : 67 + 1 = 68) (xdt tt_X12_turns 40 rfl) ?_
      refine g_iadd hC (rfl : 68 + 1 = 69) (xdt tt_X12_turns 41 rfl) ?_
      refine g_goto hC (show ((69 : Nat) : Int) + 4 = ((73 : Nat) : Int) by decide) (xdt tt_X12_turns 42 rfl) ?_
      refine g_sub [1, 2, 0] (lv' := [(0, vr E r0 0), (1, vi x1), (2, vi s0)]) rfl ?_
      exact k_X12_turns_p4_0_b73 hC hZ hE hk0 _ _ _ _ _ h
set_option maxRecDepth 100000 in
set_option maxHeartbeats 4000000 in
theorem k_X12_turns_p4_0_b29 {K : xCtx} {E : xE} {b : Nat} (hC : xOK K cX12_turns RX12 3 (rmE 1 b)) (hZ : xZ K) {v : Int} {S' : xSt} (hE : xEnd K E (some .boolean) (YQz E v S')) {r0 : Nat} (hk0 : xkd E r0 = 4) : ∀ (S : xSt) (x1 : Int), f_X12_turns_p4_0_b29 r0 S x1 = some (v, S') → WG K E 29 [(0, vr E r0 0), (1, vi x1)] [] S := by
  intro S x1 h
  unfold f_X12_turns_p4_0_b29 at h
  refine g_iconst hC (rfl : 29 + 1 = 30) (xdt tt_X12_turns 17 rfl) ?_
  refine g_goto hC (show ((30 : Nat) : Int) + 4 = ((34 : Nat) : Int) by decide) (xdt tt_X12_turns 18 rfl) ?_
  refine g_sub [0, 1] (lv' := [(0, vr E r0 0), (1, vi x1)]) rfl ?_
  exact k_X12_turns_p4_0_b34 hC hZ hE hk0 _ _ _ h
set_option maxRecDepth 100000 in
set_option maxHeartbeats 4000000 in
theorem c_X12_turns_p4_0 (l : Launch) {E : xE} {S S' : xSt} {r0 : Nat} {a1 : Int} (hk0 : xkd E r0 = 4) {v : Int} (h : f_X12_turns_p4_0 S r0 a1 = some (v, S')) : Met l yX12_turns (xws yX12_turns cX12_turns 3 (some .boolean)) (rmD 1) (YPc E [vr E r0 0, vi a1] S) (YQz E v S') 0 0 (xA E) := by
  unfold f_X12_turns_p4_0 at h
  refine met_z (by decide +kernel) (Nat.le_of_ble_eq_true rfl) (fun K hC hZ hE => ?_)
  have hC : xOK K cX12_turns RX12 3 (rmE 1 0) := hC
  show WG K E 0 [(0, vr E r0 0), (1, vi a1)] [] S
  refine g_aload_n hC rfl 0 rfl (rfl : 0 + 1 = 1) (xdt tt_X12_turns 0 rfl) ?_
  refine g_getP hC hk0 kclX12 ly4_0 5 (by decide) (rfl : r0 + 0 = r0) rfl q196 (rfl : 1 + 3 = 4) (xdt tt_X12_turns 1 rfl) ?_
  refine g_iload_n hC rfl 1 rfl (rfl : 4 + 1 = 5) (xdt tt_X12_turns 2 rfl) ?_
  obtain ⟨hi1, h⟩ := ckI_i h
  refine g_iald hC hk0 ly4_1 hi1 (rfl : 5 + 1 = 6) (xdt tt_X12_turns 3 rfl) (k0 := (wr a1).toNat) rfl ?_
  refine g_bipush hC (by decide) (rfl : 6 + 2 = 8) (xdt tt_X12_turns 4 rfl) ?_
  refine g_icmp_eq hC (show ((8 : Nat) : Int) + 21 = ((29 : Nat) : Int) by decide) (rfl : 8 + 3 = 11) (xdt tt_X12_turns 5 rfl) (fun hc19 => ?_) (fun hc19 => ?_)
  · replace h := (if_pos hc19).symm.trans h
    refine g_sub [0, 1] (lv' := [(0, vr E r0 0), (1, vi a1)]) rfl ?_
    exact k_X12_turns_p4_0_b29 hC hZ hE hk0 _ _ h
  · replace h := (if_neg hc19).symm.trans h
    refine g_aload_n hC rfl 0 rfl (rfl : 11 + 1 = 12) (xdt tt_X12_turns 6 rfl) ?_
    refine g_getP hC hk0 kclX12 ly4_0 10 (by decide) (rfl : r0 + 0 = r0) rfl q201 (rfl : 12 + 3 = 15) (xdt tt_X12_turns 7 rfl) ?_
    refine g_bipush hC (by decide) (rfl : 15 + 2 = 17) (xdt tt_X12_turns 8 rfl) ?_
    refine g_iload_n hC rfl 1 rfl (rfl : 17 + 1 = 18) (xdt tt_X12_turns 9 rfl) ?_
    refine g_iadd hC (rfl : 18 + 1 = 19) (xdt tt_X12_turns 10 rfl) ?_
    obtain ⟨hi16, h⟩ := ckI_i h
    refine g_iald hC hk0 ly4_6 hi16 (rfl : 19 + 1 = 20) (xdt tt_X12_turns 11 rfl) (k0 := (wr (83 + a1)).toNat) rfl ?_
    refine g_aload_n hC rfl 0 rfl (rfl : 20 + 1 = 21) (xdt tt_X12_turns 12 rfl) ?_
    refine g_getP hC hk0 kclX12 ly4_0 8 (by decide) (rfl : r0 + 0 = r0) rfl q199 (rfl : 21 + 3 = 24) (xdt tt_X12_turns 13 rfl) ?_
    refine g_iload_n hC rfl 1 rfl (rfl : 24 + 1 = 25) (xdt tt_X12_turns 14 rfl) ?_
    obtain ⟨hi17, h⟩ := ckI_i h
    refine g_iald hC hk0 ly4_4 hi17 (rfl : 25 + 1 = 26) (xdt tt_X12_turns 15 rfl) (k0 := (wr a1).toNat) rfl ?_
    refine g_icmp_ge hC (show ((26 : Nat) : Int) + 7 = ((33 : Nat) : Int) by decide) (rfl : 26 + 3 = 29) (xdt tt_X12_turns 16 rfl) (fun hc18 => ?_) (fun hc18 => ?_)
    · replace h := (if_pos hc18).symm.trans h
      refine g_iconst hC (rfl : 33 + 1 = 34) (xdt tt_X12_turns 19 rfl) ?_
      refine g_sub [0, 1] (lv' := [(0, vr E r0 0), (1, vi a1)]) rfl ?_
      exact k_X12_turns_p4_0_b34 hC hZ hE hk0 _ _ _ h
    · replace h := (if_neg hc18).symm.trans h
      refine g_sub [0, 1] (lv' := [(0, vr E r0 0), (1, vi a1)]) rfl ?_
      exact k_X12_turns_p4_0_b29 hC hZ hE hk0 _ _ h
def f_X12_stops_p4_0 (S : xSt) (r0 : Nat) (a1 : Int) (a2 : Int) : Option (Int × xSt) :=
  bd (f_X12_wastes_p4_0 S r0 a1 a2) fun S2 =>
  some ((gI S2 r0 6 0), S2)
set_option maxRecDepth 100000 in
set_option maxHeartbeats 4000000 in
theorem c_X12_stops_p4_0 (l : Launch) {E : xE} {S S' : xSt} {r0 : Nat} {a1 : Int} {a2 : Int} (hk0 : xkd E r0 = 4) {v : Int} (h : f_X12_stops_p4_0 S r0 a1 a2 = some (v, S')) : Met l yX12_stops (xws yX12_stops cX12_stops 3 (some .int)) (rmD 2) (YPc E [vr E r0 0, vi a1, vi a2] S) (YQi E v S') 0 0 (xA E) := by
  unfold f_X12_stops_p4_0 at h
  refine met_i (by decide +kernel) (Nat.le_of_ble_eq_true rfl) (fun K hC hZ hE => ?_)
  have hC : xOK K cX12_stops RX12 3 (rmE 2 0) := hC
  show WG K E 0 [(0, vr E r0 0), (1, vi a1), (2, vi a2)] [] S
  refine g_aload_n hC rfl 0 rfl (rfl : 0 + 1 = 1) (xdt tt_X12_stops 0 rfl) ?_
  refine g_iload_n hC rfl 1 rfl (rfl : 1 + 1 = 2) (xdt tt_X12_stops 1 rfl) ?_
  refine g_iload_n hC rfl 2 rfl (rfl : 2 + 1 = 3) (xdt tt_X12_stops 2 rfl) ?_
  obtain ⟨S2, hc1, h⟩ := bd_i h
  refine g_callVv hC hZ hk0 kclX12 ly4_0 m_X12_wastes q1162 (Nat.le_of_ble_eq_true rfl) [vi a1, vi a2] rfl (fun l => c_X12_wastes_p4_0 l hk0 hc1) rfl (Nat.le_of_ble_eq_true rfl) (rfl : 3 + 3 = 6) (xdt tt_X12_stops 3 rfl) ?_
  refine g_aload_n hC rfl 0 rfl (rfl : 6 + 1 = 7) (xdt tt_X12_stops 4 rfl) ?_
  refine g_getP hC hk0 kclX12 ly4_0 10 (by decide) (rfl : r0 + 0 = r0) rfl q201 (rfl : 7 + 3 = 10) (xdt tt_X12_stops 5 rfl) ?_
  refine g_iconst hC (rfl : 10 + 1 = 11) (xdt tt_X12_stops 6 rfl) ?_
  refine g_iald hC hk0 ly4_6 (by decide) (rfl : 11 + 1 = 12) (xdt tt_X12_stops 7 rfl) (k0 := 0) (by decide) ?_
  cases h
  exact g_iret hC hE (xdt tt_X12_stops 8 rfl)
def f_X12_turnsInQueue_p4_0_b82 (r0 : Nat) (S : xSt) (x3 : Int) (s0 : Int) : Option (Int × xSt) :=
  bd (f_X12_sets_p4_0 S r0 s0) fun S34 =>
  lt1 (wI S34 r0 6 8 4) fun S35 =>
  bd2 (f_X12_stops_p4_0 S35 r0 (x3 + 1) 4) fun v38 S37 =>
  some (v38, S37)
def f_X12_turnsInQueue_p4_0_b38 (r0 : Nat) (S : xSt) (x1 : Int) (x2 : Int) (x3 : Int) (x4 : Int) (x5 : Int) : Option (Int × xSt) :=
  if wr x4 = wr x2 then
    (if ¬ wr x4 = 0 then
      (if wr x5 = 0 then
        (bd2 (f_X12_stops_p4_0 S r0 (x3 + 1) 7) fun v7 S6 =>
        some (v7, S6))
      else
        (bd2 (f_X12_isLoop_p4_0 S r0 x1) fun v10 S9 =>
        if wr v10 = 0 then
          (bd2 (f_X12_stops_p4_0 S9 r0 (x3 + 1) 7) fun v14 S13 =>
          some (v14, S13))
        else
          (lt1 (wI S9 r0 6 11 1) fun S15 =>
          ckI x1 60 <|
          lt1 (wI S15 r0 6 12 (gI S15 r0 3 (wr x1).toNat)) fun S17 =>
          lt1 (wI S17 r0 6 13 x1) fun S18 =>
          ckI x1 60 <|
          lt1 (wI S18 r0 6 14 (gI S18 r0 3 (wr x1).toNat)) fun S20 =>
          lt1 (wI S20 r0 6 23 ((gI S20 r0 6 23) + 1)) fun S21 =>
          bd (f_X12_empties_p4_0 S21 r0) fun S23 =>
          bd2 (f_X12_stops_p4_0 S23 r0 (x3 + 1) 7) fun v26 S25 =>
          some (v26, S25))))
    else
      (some ((x3 + 1), S)))
  else
    (lt1 (wI S r0 6 22 ((gI S r0 6 22) + 1)) fun S30 =>
    bd (f_X12_empties_p4_0 S30 r0) fun S32 =>
    if wr x4 = 0 then
      (f_X12_turnsInQueue_p4_0_b82 r0 S32 x3 (x1 + 1))
    else
      (ckI x1 60 <|
      f_X12_turnsInQueue_p4_0_b82 r0 S32 x3 (gI S32 r0 3 (wr x1).toNat)))
def f_X12_turnsInQueue_p4_0_b23 (r0 : Nat) (S : xSt) (x1 : Int) (x2 : Int) (x3 : Int) (x4 : Int) (s0 : Int) : Option (Int × xSt) :=
  if wr x4 = 0 then
    (f_X12_turnsInQueue_p4_0_b38 r0 S x1 x2 x3 x4 s0)
  else
    (lt1 (wI S r0 6 15 x1) fun S42 =>
    f_X12_turnsInQueue_p4_0_b38 r0 S42 x1 x2 x3 x4 s0)
def f_X12_turnsInQueue_p4_0 (S : xSt) (r0 : Nat) (a1 : Int) (a2 : Int) (a3 : Int) : Option (Int × xSt) :=
  bd2 (f_X12_turns_p4_0 S r0 a1) fun v3 S2 =>
  if ¬ wr (gI S2 r0 6 15) = wr a1 then
    (f_X12_turnsInQueue_p4_0_b23 r0 S2 a1 a2 a3 v3 0)
  else
    (f_X12_turnsInQueue_p4_0_b23 r0 S2 a1 a2 a3 v3 1)
set_option maxRecDepth 100000 in
set_option maxHeartbeats 4000000 in
theorem k_X12_turnsInQueue_p4_0_b82 {K : xCtx} {E : xE} {b : Nat} (hC : xOK K cX12_turnsInQueue RX12 6 (rmE 4 b)) (hZ : xZ K) {v : Int} {S' : xSt} (hE : xEnd K E (some .int) (YQi E v S')) {r0 : Nat} (hk0 : xkd E r0 = 4) : ∀ (S : xSt) (x3 : Int) (s0 : Int), f_X12_turnsInQueue_p4_0_b82 r0 S x3 s0 = some (v, S') → WG K E 82 [(0, vr E r0 0), (3, vi x3)] [vi s0, vr E r0 0] S := by
  intro S x3 s0 h
  unfold f_X12_turnsInQueue_p4_0_b82 at h
  obtain ⟨S34, hc33, h⟩ := bd_i h
  refine g_callVv hC hZ hk0 kclX12 ly4_0 m_X12_sets q1206 (Nat.le_of_ble_eq_true rfl) [vi s0] rfl (fun l => c_X12_sets_p4_0 l hk0 hc33) rfl (Nat.le_of_ble_eq_true rfl) (rfl : 82 + 3 = 85) (xdt tt_X12_turnsInQueue 47 rfl) ?_
  refine g_aload_n hC rfl 0 rfl (rfl : 85 + 1 = 86) (xdt tt_X12_turnsInQueue 48 rfl) ?_
  refine g_getP hC hk0 kclX12 ly4_0 10 (by decide) (rfl : r0 + 0 = r0) rfl q201 (rfl : 86 + 3 = 89) (xdt tt_X12_turnsInQueue 49 rfl) ?_
  refine g_bipush hC (by decide) (rfl : 89 + 2 = 91) (xdt tt_X12_turnsInQueue 50 rfl) ?_
  refine g_iconst hC (rfl : 91 + 1 = 92) (xdt tt_X12_turnsInQueue 51 rfl) ?_
  obtain ⟨S35, hS35, h⟩ := lt1_i h
  refine g_iast hC hk0 ly4_6 (by decide) (by decide) hS35 (rfl : 92 + 1 = 93) (xdt tt_X12_turnsInQueue 52 rfl) ?_
  refine g_aload_n hC rfl 0 rfl (rfl : 93 + 1 = 94) (xdt tt_X12_turnsInQueue 53 rfl) ?_
  refine g_iload_n hC rfl 1 rfl (rfl : 94 + 1 = 95) (xdt tt_X12_turnsInQueue 54 rfl) ?_
  refine g_iconst hC (rfl : 95 + 1 = 96) (xdt tt_X12_turnsInQueue 55 rfl) ?_
  refine g_iadd hC (rfl : 96 + 1 = 97) (xdt tt_X12_turnsInQueue 56 rfl) ?_
  refine g_iconst hC (rfl : 97 + 1 = 98) (xdt tt_X12_turnsInQueue 57 rfl) ?_
  obtain ⟨v38, S37, hc36, h⟩ := bd2_i h
  refine g_callVi hC hZ hk0 kclX12 ly4_0 m_X12_stops q1174 (Nat.le_of_ble_eq_true rfl) [vi (x3 + 1), vi 4] rfl (fun l => c_X12_stops_p4_0 l hk0 hc36) rfl (Nat.le_of_ble_eq_true rfl) (rfl : 98 + 3 = 101) (xdt tt_X12_turnsInQueue 58 rfl) ?_
  cases h
  exact g_iret hC hE (xdt tt_X12_turnsInQueue 59 rfl)
set_option maxRecDepth 100000 in
set_option maxHeartbeats 4000000 in
theorem k_X12_turnsInQueue_p4_0_b38 {K : xCtx} {E : xE} {b : Nat} (hC : xOK K cX12_turnsInQueue RX12 6 (rmE 4 b)) (hZ : xZ K) {v : Int} {S' : xSt} (hE : xEnd K E (some .int) (YQi E v S')) {r0 : Nat} (hk0 : xkd E r0 = 4) : ∀ (S : xSt) (x1 : Int) (x2 : Int) (x3 : Int) (x4 : Int) (x5 : Int), f_X12_turnsInQueue_p4_0_b38 r0 S x1 x2 x3 x4 x5 = some (v, S') → WG K E 38 [(0, vr E r0 0), (1, vi x1), (2, vi x2), (3, vi x3), (4, vi x4), (5, vi x5)] [] S := by
  intro S x1 x2 x3 x4 x5 h
  unfold f_X12_turnsInQueue_p4_0_b38 at h
  refine g_iload hC 4 rfl (rfl : 38 + 2 = 40) (xdt tt_X12_turnsInQueue 21 rfl) ?_
  refine g_iload_n hC rfl 2 rfl (rfl : 40 + 1 = 41) (xdt tt_X12_turnsInQueue 22 rfl) ?_
  refine g_icmp_eq hC (show ((41 : Nat) : Int) + 61 = ((102 : Nat) : Int) by decide) (rfl : 41 + 3 = 44) (xdt tt_X12_turnsInQueue 23 rfl) (fun hc41 => ?_) (fun hc41 => ?_)
  · replace h := (if_pos hc41).symm.trans h
    refine g_iload hC 4 rfl (rfl : 102 + 2 = 104) (xdt tt_X12_turnsInQueue 60 rfl) ?_
    refine g_if_ne hC (show ((104 : Nat) : Int) + 7 = ((111 : Nat) : Int) by decide) (rfl : 104 + 3 = 107) (xdt tt_X12_turnsInQueue 61 rfl) (fun hc29 => ?_) (fun hc29 => ?_)
    · replace h := (if_pos hc29).symm.trans h
      refine g_iload hC 5 rfl (rfl : 111 + 2 = 113) (xdt tt_X12_turnsInQueue 66 rfl) ?_
      refine g_if_eq hC (show ((113 : Nat) : Int) + 73 = ((186 : Nat) : Int) by decide) (rfl : 113 + 3 = 116) (xdt tt_X12_turnsInQueue 67 rfl) (fun hc28 => ?_) (fun hc28 => ?_)
      · replace h := (if_pos hc28).symm.trans h
        refine g_aload_n hC rfl 0 rfl (rfl : 186 + 1 = 187) (xdt tt_X12_turnsInQueue 110 rfl) ?_
        refine g_iload_n hC rfl 3 rfl (rfl : 187 + 1 = 188) (xdt tt_X12_turnsInQueue 111 rfl) ?_
        refine g_iconst hC (rfl : 188 + 1 = 189) (xdt tt_X12_turnsInQueue 112 rfl) ?_
        refine g_iadd hC (rfl : 189 + 1 = 190) (xdt tt_X12_turnsInQueue 113 rfl) ?_
        refine g_bipush hC (by decide) (rfl : 190 + 2 = 192) (xdt tt_X12_turnsInQueue 114 rfl) ?_
        obtain ⟨v7, S6, hc5, h⟩ := bd2_i h
        refine g_callVi hC hZ hk0 kclX12 ly4_0 m_X12_stops q1174 (Nat.le_of_ble_eq_true rfl) [vi (x3 + 1), vi 7] rfl (fun l => c_X12_stops_p4_0 l hk0 hc5) rfl (Nat.le_of_ble_eq_true rfl) (rfl : 192 + 3 = 195) (xdt tt_X12_turnsInQueue 115 rfl) ?_
        cases h
        exact g_iret hC hE (xdt tt_X12_turnsInQueue 116 rfl)
      · replace h := (if_neg hc28).symm.trans h
        refine g_aload_n hC rfl 0 rfl (rfl : 116 + 1 = 117) (xdt tt_X12_turnsInQueue 68 rfl) ?_
        refine g_iload_n hC rfl 1 rfl (rfl : 117 + 1 = 118) (xdt tt_X12_turnsInQueue 69 rfl) ?_
        obtain ⟨v10, S9, hc8, h⟩ := bd2_i h
        refine g_callVz hC hZ hk0 kclX12 ly4_0 m_X12_isLoop q755 (Nat.le_of_ble_eq_true rfl) [vi x1] rfl (fun l => c_X12_isLoop_p4_0 l hk0 hc8) rfl (Nat.le_of_ble_eq_true rfl) (rfl : 118 + 3 = 121) (xdt tt_X12_turnsInQueue 70 rfl) (fun hb11 => ?_)
        refine g_if_eq hC (show ((121 : Nat) : Int) + 65 = ((186 : Nat) : Int) by decide) (rfl : 121 + 3 = 124) (xdt tt_X12_turnsInQueue 71 rfl) (fun hc27 => ?_) (fun hc27 => ?_)
        · replace h := (if_pos hc27).symm.trans h
          refine g_aload_n hC rfl 0 rfl (rfl : 186 + 1 = 187) (xdt tt_X12_turnsInQueue 110 rfl) ?_
          refine g_iload_n hC rfl 3 rfl (rfl : 187 + 1 = 188) (xdt tt_X12_turnsInQueue 111 rfl) ?_
          refine g_iconst hC (rfl : 188 + 1 = 189) (xdt tt_X12_turnsInQueue 112 rfl) ?_
          refine g_iadd hC (rfl : 189 + 1 = 190) (xdt tt_X12_turnsInQueue 113 rfl) ?_
          refine g_bipush hC (by decide) (rfl : 190 + 2 = 192) (xdt tt_X12_turnsInQueue 114 rfl) ?_
          obtain ⟨v14, S13, hc12, h⟩ := bd2_i h
          refine g_callVi hC hZ hk0 kclX12 ly4_0 m_X12_stops q1174 (Nat.le_of_ble_eq_true rfl) [vi (x3 + 1), vi 7] rfl (fun l => c_X12_stops_p4_0 l hk0 hc12) rfl (Nat.le_of_ble_eq_true rfl) (rfl : 192 + 3 = 195) (xdt tt_X12_turnsInQueue 115 rfl) ?_
          cases h
          exact g_iret hC hE (xdt tt_X12_turnsInQueue 116 rfl)
        · replace h := (if_neg hc27).symm.trans h
          refine g_aload_n hC rfl 0 rfl (rfl : 124 + 1 = 125) (xdt tt_X12_turnsInQueue 72 rfl) ?_
          refine g_getP hC hk0 kclX12 ly4_0 10 (by decide) (rfl : r0 + 0 = r0) rfl q201 (rfl : 125 + 3 = 128) (xdt tt_X12_turnsInQueue 73 rfl) ?_
          refine g_bipush hC (by decide) (rfl : 128 + 2 = 130) (xdt tt_X12_turnsInQueue 74 rfl) ?_
          refine g_iconst hC (rfl : 130 + 1 = 131) (xdt tt_X12_turnsInQueue 75 rfl) ?_
          obtain ⟨S15, hS15, h⟩ := lt1_i h
          refine g_iast hC hk0 ly4_6 (by decide) (by decide) hS15 (rfl : 131 + 1 = 132) (xdt tt_X12_turnsInQueue 76 rfl) ?_
          refine g_aload_n hC rfl 0 rfl (rfl : 132 + 1 = 133) (xdt tt_X12_turnsInQueue 77 rfl) ?_
          refine g_getP hC hk0 kclX12 ly4_0 10 (by decide) (rfl : r0 + 0 = r0) rfl q201 (rfl : 133 + 3 = 136) (xdt tt_X12_turnsInQueue 78 rfl) ?_
          refine g_bipush hC (by decide) (rfl : 136 + 2 = 138) (xdt tt_X12_turnsInQueue 79 rfl) ?_
          refine g_aload_n hC rfl 0 rfl (rfl : 138 + 1 = 139) (xdt tt_X12_turnsInQueue 80 rfl) ?_
          refine g_getP hC hk0 kclX12 ly4_0 7 (by decide) (rfl : r0 + 0 = r0) rfl q198 (rfl : 139 + 3 = 142) (xdt tt_X12_turnsInQueue 81 rfl) ?_
          refine g_iload_n hC rfl 1 rfl (rfl : 142 + 1 = 143) (xdt tt_X12_turnsInQueue 82 rfl) ?_
          obtain ⟨hi16, h⟩ := ckI_i h
          refine g_iald hC hk0 ly4_3 hi16 (rfl : 143 + 1 = 144) (xdt tt_X12_turnsInQueue 83 rfl) (k0 := (wr x1).toNat) rfl ?_
          obtain ⟨S17, hS17, h⟩ := lt1_i h
          refine g_iast hC hk0 ly4_6 (by decide) (by decide) hS17 (rfl : 144 + 1 = 145) (xdt tt_X12_turnsInQueue 84 rfl) ?_
          refine g_aload_n hC rfl 0 rfl (rfl : 145 + 1 = 146) (xdt tt_X12_turnsInQueue 85 rfl) ?_
          refine g_getP hC hk0 kclX12 ly4_0 10 (by decide) (rfl : r0 + 0 = r0) rfl q201 (rfl : 146 + 3 = 149) (xdt tt_X12_turnsInQueue 86 rfl) ?_
          refine g_bipush hC (by decide) (rfl : 149 + 2 = 151) (xdt tt_X12_turnsInQueue 87 rfl) ?_
          refine g_iload_n hC rfl 1 rfl (rfl : 151 + 1 = 152) (xdt tt_X12_turnsInQueue 88 rfl) ?_
          obtain ⟨S18, hS18, h⟩ := lt1_i h
          refine g_iast hC hk0 ly4_6 (by decide) (by decide) hS18 (rfl : 152 + 1 = 153) (xdt tt_X12_turnsInQueue 89 rfl) ?_
          refine g_aload_n hC rfl 0 rfl (rfl : 153 + 1 = 154) (xdt tt_X12_turnsInQueue 90 rfl) ?_
          refine g_getP hC hk0 kclX12 ly4_0 10 (by decide) (rfl : r0 + 0 = r0) rfl q201 (rfl : 154 + 3 = 157) (xdt tt_X12_turnsInQueue 91 rfl) ?_
          refine g_bipush hC (by decide) (rfl : 157 + 2 = 159) (xdt tt_X12_turnsInQueue 92 rfl) ?_
          refine g_aload_n hC rfl 0 rfl (rfl : 159 + 1 = 160) (xdt tt_X12_turnsInQueue 93 rfl) ?_
          refine g_getP hC hk0 kclX12 ly4_0 7 (by decide) (rfl : r0 + 0 = r0) rfl q198 (rfl : 160 + 3 = 163) (xdt tt_X12_turnsInQueue 94 rfl) ?_
          refine g_iload_n hC rfl 1 rfl (rfl : 163 + 1 = 164) (xdt tt_X12_turnsInQueue 95 rfl) ?_
          obtain ⟨hi19, h⟩ := ckI_i h
          refine g_iald hC hk0 ly4_3 hi19 (rfl : 164 + 1 = 165) (xdt tt_X12_turnsInQueue 96 rfl) (k0 := (wr x1).toNat) rfl ?_
          obtain ⟨S20, hS20, h⟩ := lt1_i h
          refine g_iast hC hk0 ly4_6 (by decide) (by decide) hS20 (rfl : 165 + 1 = 166) (xdt tt_X12_turnsInQueue 97 rfl) ?_
          refine g_aload_n hC rfl 0 rfl (rfl : 166 + 1 = 167) (xdt tt_X12_turnsInQueue 98 rfl) ?_
          refine g_getP hC hk0 kclX12 ly4_0 10 (by decide) (rfl : r0 + 0 = r0) rfl q201 (rfl : 167 + 3 = 170) (xdt tt_X12_turnsInQueue 99 rfl) ?_
          refine g_bipush hC (by decide) (rfl : 170 + 2 = 172) (xdt tt_X12_turnsInQueue 100 rfl) ?_
          refine g_aload_n hC rfl 0 rfl (rfl : 172 + 1 = 173) (xdt tt_X12_turnsInQueue 101 rfl) ?_
          refine g_getP hC hk0 kclX12 ly4_0 10 (by decide) (rfl : r0 + 0 = r0) rfl q201 (rfl : 173 + 3 = 176) (xdt tt_X12_turnsInQueue 102 rfl) ?_
          refine g_bipush hC (by decide) (rfl : 176 + 2 = 178) (xdt tt_X12_turnsInQueue 103 rfl) ?_
          refine g_iald hC hk0 ly4_6 (by decide) (rfl : 178 + 1 = 179) (xdt tt_X12_turnsInQueue 104 rfl) (k0 := 23) (by decide) ?_
          refine g_iconst hC (rfl : 179 + 1 = 180) (xdt tt_X12_turnsInQueue 105 rfl) ?_
          refine g_iadd hC (rfl : 180 + 1 = 181) (xdt tt_X12_turnsInQueue 106 rfl) ?_
          obtain ⟨S21, hS21, h⟩ := lt1_i h
          refine g_iast hC hk0 ly4_6 (by decide) (by decide) hS21 (rfl : 181 + 1 = 182) (xdt tt_X12_turnsInQueue 107 rfl) ?_
          refine g_aload_n hC rfl 0 rfl (rfl : 182 + 1 = 183) (xdt tt_X12_turnsInQueue 108 rfl) ?_
          obtain ⟨S23, hc22, h⟩ := bd_i h
          refine g_callVv hC hZ hk0 kclX12 ly4_0 m_X12_empties q1214 (Nat.le_of_ble_eq_true rfl) [] rfl (fun l => c_X12_empties_p4_0 l hk0 hc22) rfl (Nat.le_of_ble_eq_true rfl) (rfl : 183 + 3 = 186) (xdt tt_X12_turnsInQueue 109 rfl) ?_
          refine g_aload_n hC rfl 0 rfl (rfl : 186 + 1 = 187) (xdt tt_X12_turnsInQueue 110 rfl) ?_
          refine g_iload_n hC rfl 3 rfl (rfl : 187 + 1 = 188) (xdt tt_X12_turnsInQueue 111 rfl) ?_
          refine g_iconst hC (rfl : 188 + 1 = 189) (xdt tt_X12_turnsInQueue 112 rfl) ?_
          refine g_iadd hC (rfl : 189 + 1 = 190) (xdt tt_X12_turnsInQueue 113 rfl) ?_
          refine g_bipush hC (by decide) (rfl : 190 + 2 = 192) (xdt tt_X12_turnsInQueue 114 rfl) ?_
          obtain ⟨v26, S25, hc24, h⟩ := bd2_i h
          refine g_callVi hC hZ hk0 kclX12 ly4_0 m_X12_stops q1174 (Nat.le_of_ble_eq_true rfl) [vi (x3 + 1), vi 7] rfl (fun l => c_X12_stops_p4_0 l hk0 hc24) rfl (Nat.le_of_ble_eq_true rfl) (rfl : 192 + 3 = 195) (xdt tt_X12_turnsInQueue 115 rfl) ?_
          cases h
          exact g_iret hC hE (xdt tt_X12_turnsInQueue 116 rfl)
    · replace h := (if_neg hc29).symm.trans h
      refine g_iload_n hC rfl 3 rfl (rfl : 107 + 1 = 108) (xdt tt_X12_turnsInQueue 62 rfl) ?_
      refine g_iconst hC (rfl : 108 + 1 = 109) (xdt tt_X12_turnsInQueue 63 rfl) ?_
      refine g_iadd hC (rfl : 109 + 1 = 110) (xdt tt_X12_turnsInQueue 64 rfl) ?_
      cases h
      exact g_iret hC hE (xdt tt_X12_turnsInQueue 65 rfl)
  · replace h := (if_neg hc41).symm.trans h
    refine g_aload_n hC rfl 0 rfl (rfl : 44 + 1 = 45) (xdt tt_X12_turnsInQueue 24 rfl) ?_
    refine g_getP hC hk0 kclX12 ly4_0 10 (by decide) (rfl : r0 + 0 = r0) rfl q201 (rfl : 45 + 3 = 48) (xdt tt_X12_turnsInQueue 25 rfl) ?_
    refine g_bipush hC (by decide) (rfl : 48 + 2 = 50) (xdt tt_X12_turnsInQueue 26 rfl) ?_
    refine g_aload_n hC rfl 0 rfl (rfl : 50 + 1 = 51) (xdt tt_X12_turnsInQueue 27 rfl) ?_
    refine g_getP hC hk0 kclX12 ly4_0 10 (by decide) (rfl : r0 + 0 = r0) rfl q201 (rfl : 51 + 3 = 54) (xdt tt_X12_turnsInQueue 28 rfl) ?_
    refine g_bipush hC (by decide) (rfl : 54 + 2 = 56) (xdt tt_X12_turnsInQueue 29 rfl) ?_
    refine g_iald hC hk0 ly4_6 (by decide) (rfl : 56 + 1 = 57) (xdt tt_X12_turnsInQueue 30 rfl) (k0 := 22) (by decide) ?_
    refine g_iconst hC (rfl : 57 + 1 = 58) (xdt tt_X12_turnsInQueue 31 rfl) ?_
    refine g_iadd hC (rfl : 58 + 1 = 59) (xdt tt_X12_turnsInQueue 32 rfl) ?_
    obtain ⟨S30, hS30, h⟩ := lt1_i h
    refine g_iast hC hk0 ly4_6 (by decide) (by decide) hS30 (rfl : 59 + 1 = 60) (xdt tt_X12_turnsInQueue 33 rfl) ?_
    refine g_aload_n hC rfl 0 rfl (rfl : 60 + 1 = 61) (xdt tt_X12_turnsInQueue 34 rfl) ?_
    obtain ⟨S32, hc31, h⟩ := bd_i h
    refine g_callVv hC hZ hk0 kclX12 ly4_0 m_X12_empties q1214 (Nat.le_of_ble_eq_true rfl) [] rfl (fun l => c_X12_empties_p4_0 l hk0 hc31) rfl (Nat.le_of_ble_eq_true rfl) (rfl : 61 + 3 = 64) (xdt tt_X12_turnsInQueue 35 rfl) ?_
    refine g_aload_n hC rfl 0 rfl (rfl : 64 + 1 = 65) (xdt tt_X12_turnsInQueue 36 rfl) ?_
    refine g_iload hC 4 rfl (rfl : 65 + 2 = 67) (xdt tt_X12_turnsInQueue 37 rfl) ?_
    refine g_if_eq hC (show ((67 : Nat) : Int) + 12 = ((79 : Nat) : Int) by decide) (rfl : 67 + 3 = 70) (xdt tt_X12_turnsInQueue 38 rfl) (fun hc40 => ?_) (fun hc40 => ?_)
    · replace h := (if_pos hc40).symm.trans h
      refine g_iload_n hC rfl 1 rfl (rfl : 79 + 1 = 80) (xdt tt_X12_turnsInQueue 44 rfl) ?_
      refine g_iconst hC (rfl : 80 + 1 = 81) (xdt tt_X12_turnsInQueue 45 rfl) ?_
      refine g_iadd hC (rfl : 81 + 1 = 82) (xdt tt_X12_turnsInQueue 46 rfl) ?_
      refine g_sub [0, 3] (lv' := [(0, vr E r0 0), (3, vi x3)]) rfl ?_
      exact k_X12_turnsInQueue_p4_0_b82 hC hZ hE hk0 _ _ _ h
    · replace h := (if_neg hc40).symm.trans h
      refine g_aload_n hC rfl 0 rfl (rfl : 70 + 1 = 71) (xdt tt_X12_turnsInQueue 39 rfl) ?_
      refine g_getP hC hk0 kclX12 ly4_0 7 (by decide) (rfl : r0 + 0 = r0) rfl q198 (rfl : 71 + 3 = 74) (xdt tt_X12_turnsInQueue 40 rfl) ?_
      refine g_iload_n hC rfl 1 rfl (rfl : 74 + 1 = 75) (xdt tt_X12_turnsInQueue 41 rfl) ?_
      obtain ⟨hi39, h⟩ := ckI_i h
      refine g_iald hC hk0 ly4_3 hi39 (rfl : 75 + 1 = 76) (xdt tt_X12_turnsInQueue 42 rfl) (k0 := (wr x1).toNat) rfl ?_
      refine g_goto hC (show ((76 : Nat) : Int) + 6 = ((82 : Nat) : Int) by decide) (xdt tt_X12_turnsInQueue 43 rfl) ?_
      refine g_sub [0, 3] (lv' := [(0, vr E r0 0), (3, vi x3)]) rfl ?_
      exact k_X12_turnsInQueue_p4_0_b82 hC hZ hE hk0 _ _ _ h
set_option maxRecDepth 100000 in
set_option maxHeartbeats 4000000 in
theorem k_X12_turnsInQueue_p4_0_b23 {K : xCtx} {E : xE} {b : Nat} (hC : xOK K cX12_turnsInQueue RX12 6 (rmE 4 b)) (hZ : xZ K) {v : Int} {S' : xSt} (hE : xEnd K E (some .int) (YQi E v S')) {r0 : Nat} (hk0 : xkd E r0 = 4) : ∀ (S : xSt) (x1 : Int) (x2 : Int) (x3 : Int) (x4 : Int) (s0 : Int), f_X12_turnsInQueue_p4_0_b23 r0 S x1 x2 x3 x4 s0 = some (v, S') → WG K E 23 [(0, vr E r0 0), (1, vi x1), (2, vi x2), (3, vi x3), (4, vi x4)] [vi s0] S := by
  intro S x1 x2 x3 x4 s0 h
  unfold f_X12_turnsInQueue_p4_0_b23 at h
  refine g_istore hC (by decide) (lv' := [(5, vi s0), (0, vr E r0 0), (1, vi x1), (2, vi x2), (3, vi x3), (4, vi x4)]) rfl (rfl : 23 + 2 = 25) (xdt tt_X12_turnsInQueue 13 rfl) ?_
  refine g_iload hC 5 rfl (rfl : 25 + 2 = 27) (xdt tt_X12_turnsInQueue 14 rfl) ?_
  refine g_if_eq hC (show ((27 : Nat) : Int) + 11 = ((38 : Nat) : Int) by decide) (rfl : 27 + 3 = 30) (xdt tt_X12_turnsInQueue 15 rfl) (fun hc43 => ?_) (fun hc43 => ?_)
  · replace h := (if_pos hc43).symm.trans h
    refine g_sub [1, 2, 3, 4, 5, 0] (lv' := [(0, vr E r0 0), (1, vi x1), (2, vi x2), (3, vi x3), (4, vi x4), (5, vi s0)]) rfl ?_
    exact k_X12_turnsInQueue_p4_0_b38 hC hZ hE hk0 _ _ _ _ _ _ h
  · replace h := (if_neg hc43).symm.trans h
    refine g_aload_n hC rfl 1 rfl (rfl : 30 + 1 = 31) (xdt tt_X12_turnsInQueue 16 rfl) ?_
    refine g_getP hC hk0 kclX12 ly4_0 10 (by decide) (rfl : r0 + 0 = r0) rfl q201 (rfl : 31 + 3 = 34) (xdt tt_X12_turnsInQueue 17 rfl) ?_
    refine g_bipush hC (by decide) (rfl : 34 + 2 = 36) (xdt tt_X12_turnsInQueue 18 rfl) ?_
    refine g_iload_n hC rfl 2 rfl (rfl : 36 + 1 = 37) (xdt tt_X12_turnsInQueue 19 rfl) ?_
    obtain ⟨S42, hS42, h⟩ := lt1_i h
    refine g_iast hC hk0 ly4_6 (by decide) (by decide) hS42 (rfl : 37 + 1 = 38) (xdt tt_X12_turnsInQueue 20 rfl) ?_
    refine g_sub [1, 2, 3, 4, 5, 0] (lv' := [(0, vr E r0 0), (1, vi x1), (2, vi x2), (3, vi x3), (4, vi x4), (5, vi s0)]) rfl ?_
    exact k_X12_turnsInQueue_p4_0_b38 hC hZ hE hk0 _ _ _ _ _ _ h
set_option maxRecDepth 100000 in
set_option maxHeartbeats 4000000 in
theorem c_X12_turnsInQueue_p4_0 (l : Launch) {E : xE} {S S' : xSt} {r0 : Nat} {a1 : Int} {a2 : Int} {a3 : Int} (hk0 : xkd E r0 = 4) {v : Int} (h : f_X12_turnsInQueue_p4_0 S r0 a1 a2 a3 = some (v, S')) : Met l yX12_turnsInQueue (xws yX12_turnsInQueue cX12_turnsInQueue 6 (some .int)) (rmD 4) (YPc E [vr E r0 0, vi a1, vi a2, vi a3] S) (YQi E v S') 0 0 (xA E) := by
  unfold f_X12_turnsInQueue_p4_0 at h
  refine met_i (by decide +kernel) (Nat.le_of_ble_eq_true rfl) (fun K hC hZ hE => ?_)
  have hC : xOK K cX12_turnsInQueue RX12 6 (rmE 4 0) := hC
  show WG K E 0 [(0, vr E r0 0), (1, vi a1), (2, vi a2), (3, vi a3)] [] S
  refine g_aload_n hC rfl 0 rfl (rfl : 0 + 1 = 1) (xdt tt_X12_turnsInQueue 0 rfl) ?_
  refine g_iload_n hC rfl 1 rfl (rfl : 1 + 1 = 2) (xdt tt_X12_turnsInQueue 1 rfl) ?_
  obtain ⟨v3, S2, hc1, h⟩ := bd2_i h
  refine g_callVz hC hZ hk0 kclX12 ly4_0 m_X12_turns q1202 (Nat.le_of_ble_eq_true rfl) [vi a1] rfl (fun l => c_X12_turns_p4_0 l hk0 hc1) rfl (Nat.le_of_ble_eq_true rfl) (rfl : 2 + 3 = 5) (xdt tt_X12_turnsInQueue 2 rfl) (fun hb4 => ?_)
  refine g_istore hC (by decide) (lv' := [(4, vi v3), (0, vr E r0 0), (1, vi a1), (2, vi a2), (3, vi a3)]) rfl (rfl : 5 + 2 = 7) (xdt tt_X12_turnsInQueue 3 rfl) ?_
  refine g_aload_n hC rfl 1 rfl (rfl : 7 + 1 = 8) (xdt tt_X12_turnsInQueue 4 rfl) ?_
  refine g_getP hC hk0 kclX12 ly4_0 10 (by decide) (rfl : r0 + 0 = r0) rfl q201 (rfl : 8 + 3 = 11) (xdt tt_X12_turnsInQueue 5 rfl) ?_
  refine g_bipush hC (by decide) (rfl : 11 + 2 = 13) (xdt tt_X12_turnsInQueue 6 rfl) ?_
  refine g_iald hC hk0 ly4_6 (by decide) (rfl : 13 + 1 = 14) (xdt tt_X12_turnsInQueue 7 rfl) (k0 := 15) (by decide) ?_
  refine g_iload_n hC rfl 2 rfl (rfl : 14 + 1 = 15) (xdt tt_X12_turnsInQueue 8 rfl) ?_
  refine g_icmp_ne hC (show ((15 : Nat) : Int) + 7 = ((22 : Nat) : Int) by decide) (rfl : 15 + 3 = 18) (xdt tt_X12_turnsInQueue 9 rfl) (fun hc44 => ?_) (fun hc44 => ?_)
  · replace h := (if_pos hc44).symm.trans h
    refine g_iconst hC (rfl : 22 + 1 = 23) (xdt tt_X12_turnsInQueue 12 rfl) ?_
    refine g_sub [1, 2, 3, 4, 0] (lv' := [(0, vr E r0 0), (1, vi a1), (2, vi a2), (3, vi a3), (4, vi v3)]) rfl ?_
    exact k_X12_turnsInQueue_p4_0_b23 hC hZ hE hk0 _ _ _ _ _ _ h
  · replace h := (if_neg hc44).symm.trans h
    refine g_iconst hC (rfl : 18 + 1 = 19) (xdt tt_X12_turnsInQueue 10 rfl) ?_
    refine g_goto hC (show ((19 : Nat) : Int) + 4 = ((23 : Nat) : Int) by decide) (xdt tt_X12_turnsInQueue 11 rfl) ?_
    refine g_sub [1, 2, 3, 4, 0] (lv' := [(0, vr E r0 0), (1, vi a1), (2, vi a2), (3, vi a3), (4, vi v3)]) rfl ?_
    exact k_X12_turnsInQueue_p4_0_b23 hC hZ hE hk0 _ _ _ _ _ _ h
def f_X12_turnsInLoop_p4_0 (S : xSt) (r0 : Nat) (a1 : Int) (a2 : Int) : Option (Int × xSt) :=
  bd2 (f_X12_turns_p4_0 S r0 a1) fun v3 S2 =>
  if wr v3 = 0 then
    (lt1 (wI S2 r0 6 11 0) fun S5 =>
    bd (f_X12_sets_p4_0 S5 r0 (a1 + 1)) fun S7 =>
    bd2 (f_X12_stops_p4_0 S7 r0 (a2 + 1) 7) fun v10 S9 =>
    some (v10, S9))
  else
    (lt1 (wI S2 r0 6 15 a1) fun S11 =>
    lt1 (wI S11 r0 6 14 (gI S11 r0 6 12)) fun S12 =>
    some ((a2 + 1), S12))
set_option maxRecDepth 100000 in
set_option maxHeartbeats 4000000 in
theorem c_X12_turnsInLoop_p4_0 (l : Launch) {E : xE} {S S' : xSt} {r0 : Nat} {a1 : Int} {a2 : Int} (hk0 : xkd E r0 = 4) {v : Int} (h : f_X12_turnsInLoop_p4_0 S r0 a1 a2 = some (v, S')) : Met l yX12_turnsInLoop (xws yX12_turnsInLoop cX12_turnsInLoop 3 (some .int)) (rmD 3) (YPc E [vr E r0 0, vi a1, vi a2] S) (YQi E v S') 0 0 (xA E) := by
  unfold f_X12_turnsInLoop_p4_0 at h
  refine met_i (by decide +kernel) (Nat.le_of_ble_eq_true rfl) (fun K hC hZ hE => ?_)
  have hC : xOK K cX12_turnsInLoop RX12 3 (rmE 3 0) := hC
  show WG K E 0 [(0, vr E r0 0), (1, vi a1), (2, vi a2)] [] S
  refine g_aload_n hC rfl 0 rfl (rfl : 0 + 1 = 1) (xdt tt_X12_turnsInLoop 0 rfl) ?_
  refine g_iload_n hC rfl 1 rfl (rfl : 1 + 1 = 2) (xdt tt_X12_turnsInLoop 1 rfl) ?_
  obtain ⟨v3, S2, hc1, h⟩ := bd2_i h
  refine g_callVz hC hZ hk0 kclX12 ly4_0 m_X12_turns q1202 (Nat.le_of_ble_eq_true rfl) [vi a1] rfl (fun l => c_X12_turns_p4_0 l hk0 hc1) rfl (Nat.le_of_ble_eq_true rfl) (rfl : 2 + 3 = 5) (xdt tt_X12_turnsInLoop 2 rfl) (fun hb4 => ?_)
  refine g_if_eq hC (show ((5 : Nat) : Int) + 29 = ((34 : Nat) : Int) by decide) (rfl : 5 + 3 = 8) (xdt tt_X12_turnsInLoop 3 rfl) (fun hc13 => ?_) (fun hc13 => ?_)
  · replace h := (if_pos hc13).symm.trans h
    refine g_aload_n hC rfl 0 rfl (rfl : 34 + 1 = 35) (xdt tt_X12_turnsInLoop 21 rfl) ?_
    refine g_getP hC hk0 kclX12 ly4_0 10 (by decide) (rfl : r0 + 0 = r0) rfl q201 (rfl : 35 + 3 = 38) (xdt tt_X12_turnsInLoop 22 rfl) ?_
    refine g_bipush hC (by decide) (rfl : 38 + 2 = 40) (xdt tt_X12_turnsInLoop 23 rfl) ?_
    refine g_iconst hC (rfl : 40 + 1 = 41) (xdt tt_X12_turnsInLoop 24 rfl) ?_
    obtain ⟨S5, hS5, h⟩ := lt1_i h
    refine g_iast hC hk0 ly4_6 (by decide) (by decide) hS5 (rfl : 41 + 1 = 42) (xdt tt_X12_turnsInLoop 25 rfl) ?_
    refine g_aload_n hC rfl 0 rfl (rfl : 42 + 1 = 43) (xdt tt_X12_turnsInLoop 26 rfl) ?_
    refine g_iload_n hC rfl 1 rfl (rfl : 43 + 1 = 44) (xdt tt_X12_turnsInLoop 27 rfl) ?_
    refine g_iconst hC (rfl : 44 + 1 = 45) (xdt tt_X12_turnsInLoop 28 rfl) ?_
    refine g_iadd hC (rfl : 45 + 1 = 46) (xdt tt_X12_turnsInLoop 29 rfl) ?_
    obtain ⟨S7, hc6, h⟩ := bd_i h
    refine g_callVv hC hZ hk0 kclX12 ly4_0 m_X12_sets q1206 (Nat.le_of_ble_eq_true rfl) [vi (a1 + 1)] rfl (fun l => c_X12_sets_p4_0 l hk0 hc6) rfl (Nat.le_of_ble_eq_true rfl) (rfl : 46 + 3 = 49) (xdt tt_X12_turnsInLoop 30 rfl) ?_
    refine g_aload_n hC rfl 0 rfl (rfl : 49 + 1 = 50) (xdt tt_X12_turnsInLoop 31 rfl) ?_
    refine g_iload_n hC rfl 2 rfl (rfl : 50 + 1 = 51) (xdt tt_X12_turnsInLoop 32 rfl) ?_
    refine g_iconst hC (rfl : 51 + 1 = 52) (xdt tt_X12_turnsInLoop 33 rfl) ?_
    refine g_iadd hC (rfl : 52 + 1 = 53) (xdt tt_X12_turnsInLoop 34 rfl) ?_
    refine g_bipush hC (by decide) (rfl : 53 + 2 = 55) (xdt tt_X12_turnsInLoop 35 rfl) ?_
    obtain ⟨v10, S9, hc8, h⟩ := bd2_i h
    refine g_callVi hC hZ hk0 kclX12 ly4_0 m_X12_stops q1174 (Nat.le_of_ble_eq_true rfl) [vi (a2 + 1), vi 7] rfl (fun l => c_X12_stops_p4_0 l hk0 hc8) rfl (Nat.le_of_ble_eq_true rfl) (rfl : 55 + 3 = 58) (xdt tt_X12_turnsInLoop 36 rfl) ?_
    cases h
    exact g_iret hC hE (xdt tt_X12_turnsInLoop 37 rfl)
  · replace h := (if_neg hc13).symm.trans h
    refine g_aload_n hC rfl 0 rfl (rfl : 8 + 1 = 9) (xdt tt_X12_turnsInLoop 4 rfl) ?_
    refine g_getP hC hk0 kclX12 ly4_0 10 (by decide) (rfl : r0 + 0 = r0) rfl q201 (rfl : 9 + 3 = 12) (xdt tt_X12_turnsInLoop 5 rfl) ?_
    refine g_bipush hC (by decide) (rfl : 12 + 2 = 14) (xdt tt_X12_turnsInLoop 6 rfl) ?_
    refine g_iload_n hC rfl 1 rfl (rfl : 14 + 1 = 15) (xdt tt_X12_turnsInLoop 7 rfl) ?_
    obtain ⟨S11, hS11, h⟩ := lt1_i h
    refine g_iast hC hk0 ly4_6 (by decide) (by decide) hS11 (rfl : 15 + 1 = 16) (xdt tt_X12_turnsInLoop 8 rfl) ?_
    refine g_aload_n hC rfl 0 rfl (rfl : 16 + 1 = 17) (xdt tt_X12_turnsInLoop 9 rfl) ?_
    refine g_getP hC hk0 kclX12 ly4_0 10 (by decide) (rfl : r0 + 0 = r0) rfl q201 (rfl : 17 + 3 = 20) (xdt tt_X12_turnsInLoop 10 rfl) ?_
    refine g_bipush hC (by decide) (rfl : 20 + 2 = 22) (xdt tt_X12_turnsInLoop 11 rfl) ?_
    refine g_aload_n hC rfl 0 rfl (rfl : 22 + 1 = 23) (xdt tt_X12_turnsInLoop 12 rfl) ?_
    refine g_getP hC hk0 kclX12 ly4_0 10 (by decide) (rfl : r0 + 0 = r0) rfl q201 (rfl : 23 + 3 = 26) (xdt tt_X12_turnsInLoop 13 rfl) ?_
    refine g_bipush hC (by decide) (rfl : 26 + 2 = 28) (xdt tt_X12_turnsInLoop 14 rfl) ?_
    refine g_iald hC hk0 ly4_6 (by decide) (rfl : 28 + 1 = 29) (xdt tt_X12_turnsInLoop 15 rfl) (k0 := 12) (by decide) ?_
    obtain ⟨S12, hS12, h⟩ := lt1_i h
    refine g_iast hC hk0 ly4_6 (by decide) (by decide) hS12 (rfl : 29 + 1 = 30) (xdt tt_X12_turnsInLoop 16 rfl) ?_
    refine g_iload_n hC rfl 2 rfl (rfl : 30 + 1 = 31) (xdt tt_X12_turnsInLoop 17 rfl) ?_
    refine g_iconst hC (rfl : 31 + 1 = 32) (xdt tt_X12_turnsInLoop 18 rfl) ?_
    refine g_iadd hC (rfl : 32 + 1 = 33) (xdt tt_X12_turnsInLoop 19 rfl) ?_
    cases h
    exact g_iret hC hE (xdt tt_X12_turnsInLoop 20 rfl)
def f_X12_passes_p4_0 (S : xSt) (r0 : Nat) (a1 : Int) : Option (xSt) :=
  bd2 (f_X12_isReplayed_p4_0 S r0) fun v3 S2 =>
  if wr v3 = 0 then
    (bd (f_X12_leavesQueue_p4_0 S2 r0) fun S6 =>
    some S6)
  else
    (lt1 (wI S2 r0 6 14 (a1 + 1)) fun S7 =>
    some S7)
set_option maxRecDepth 100000 in
set_option maxHeartbeats 4000000 in
theorem c_X12_passes_p4_0 (l : Launch) {E : xE} {S S' : xSt} {r0 : Nat} {a1 : Int} (hk0 : xkd E r0 = 4) (h : f_X12_passes_p4_0 S r0 a1 = some S') : Met l yX12_passes (xws yX12_passes cX12_passes 2 none) (rmD 2) (YPc E [vr E r0 0, vi a1] S) (YQv E S') 0 0 (xA E) := by
  unfold f_X12_passes_p4_0 at h
  refine met_v (by decide +kernel) (Nat.le_of_ble_eq_true rfl) (fun K hC hZ hE => ?_)
  have hC : xOK K cX12_passes RX12 2 (rmE 2 0) := hC
  show WG K E 0 [(0, vr E r0 0), (1, vi a1)] [] S
  refine g_aload_n hC rfl 0 rfl (rfl : 0 + 1 = 1) (xdt tt_X12_passes 0 rfl) ?_
  obtain ⟨v3, S2, hc1, h⟩ := bd2_i h
  refine g_callVz hC hZ hk0 kclX12 ly4_0 m_X12_isReplayed q844 (Nat.le_of_ble_eq_true rfl) [] rfl (fun l => c_X12_isReplayed_p4_0 l hk0 hc1) rfl (Nat.le_of_ble_eq_true rfl) (rfl : 1 + 3 = 4) (xdt tt_X12_passes 1 rfl) (fun hb4 => ?_)
  refine g_if_eq hC (show ((4 : Nat) : Int) + 16 = ((20 : Nat) : Int) by decide) (rfl : 4 + 3 = 7) (xdt tt_X12_passes 2 rfl) (fun hc8 => ?_) (fun hc8 => ?_)
  · replace h := (if_pos hc8).symm.trans h
    refine g_aload_n hC rfl 0 rfl (rfl : 20 + 1 = 21) (xdt tt_X12_passes 11 rfl) ?_
    obtain ⟨S6, hc5, h⟩ := bd_i h
    refine g_callVv hC hZ hk0 kclX12 ly4_0 m_X12_leavesQueue q1194 (Nat.le_of_ble_eq_true rfl) [] rfl (fun l => c_X12_leavesQueue_p4_0 l hk0 hc5) rfl (Nat.le_of_ble_eq_true rfl) (rfl : 21 + 3 = 24) (xdt tt_X12_passes 12 rfl) ?_
    cases h
    exact g_vret hC hE (xdt tt_X12_passes 13 rfl)
  · replace h := (if_neg hc8).symm.trans h
    refine g_aload_n hC rfl 0 rfl (rfl : 7 + 1 = 8) (xdt tt_X12_passes 3 rfl) ?_
    refine g_getP hC hk0 kclX12 ly4_0 10 (by decide) (rfl : r0 + 0 = r0) rfl q201 (rfl : 8 + 3 = 11) (xdt tt_X12_passes 4 rfl) ?_
    refine g_bipush hC (by decide) (rfl : 11 + 2 = 13) (xdt tt_X12_passes 5 rfl) ?_
    refine g_iload_n hC rfl 1 rfl (rfl : 13 + 1 = 14) (xdt tt_X12_passes 6 rfl) ?_
    refine g_iconst hC (rfl : 14 + 1 = 15) (xdt tt_X12_passes 7 rfl) ?_
    refine g_iadd hC (rfl : 15 + 1 = 16) (xdt tt_X12_passes 8 rfl) ?_
    obtain ⟨S7, hS7, h⟩ := lt1_i h
    refine g_iast hC hk0 ly4_6 (by decide) (by decide) hS7 (rfl : 16 + 1 = 17) (xdt tt_X12_passes 9 rfl) ?_
    refine g_goto hC (show ((17 : Nat) : Int) + 7 = ((24 : Nat) : Int) by decide) (xdt tt_X12_passes 10 rfl) ?_
    cases h
    exact g_vret hC hE (xdt tt_X12_passes 13 rfl)
def f_X12_decodesAt_p4_0_b231 (r0 : Nat) (S : xSt) (x1 : Int) (x5 : Int) (x6 : Int) : Option (Int × xSt) :=
  bd2 (f_X12_doesTurn_p4_0 S r0 x5) fun v19 S18 =>
  if ¬ wr v19 = 0 then
    (bd2 (f_X12_isReplayed_p4_0 S18 r0) fun v23 S22 =>
    if wr v23 = 0 then
      (bd2 (f_X12_turnsInQueue_p4_0 S22 r0 x5 x6 x1) fun v27 S26 =>
      some (v27, S26))
    else
      (bd2 (f_X12_turnsInLoop_p4_0 S22 r0 x5 x1) fun v30 S29 =>
      some (v30, S29)))
  else
    (some ((x1 + 1), S18))
def f_X12_decodesAt_p4_0_b197 (c168 : xSt → Int → Int → Int → Int → Int → Option (Int × xSt)) (r0 : Nat) (S : xSt) (x1 : Int) (x3 : Int) (x5 : Int) (x7 : Int) (s0 : Int) : Option (Int × xSt) :=
  bd (f_X12_passes_p4_0 S r0 x7) fun S38 =>
  c168 S38 x1 x3 x5 s0 (x7 + 1)
def f_X12_decodesAt_p4_0_b168 (r0 : Nat) : Nat → xSt → Int → Int → Int → Int → Int → Option (Int × xSt)
  | 0, _, _, _, _, _, _ => none
  | fuel + 1, S, x1, x3, x5, x6, x7 =>
    if wr x5 < wr x7 then
      (if wr x3 = 0 then
        (f_X12_decodesAt_p4_0_b231 r0 S x1 x5 x6)
      else
        (lt1 (wI S r0 6 19 ((gI S r0 6 19) + 1)) fun S33 =>
        f_X12_decodesAt_p4_0_b231 r0 S33 x1 x5 x6))
    else
      (bd (f_X12_notes_p4_0 S r0 x7) fun S36 =>
      if ¬ wr (gI S36 r0 6 63) = wr 1 then
        (f_X12_decodesAt_p4_0_b197 ((f_X12_decodesAt_p4_0_b168 r0 fuel)) r0 S36 x1 x3 x5 x7 0)
      else
        (f_X12_decodesAt_p4_0_b197 ((f_X12_decodesAt_p4_0_b168 r0 fuel)) r0 S36 x1 x3 x5 x7 1))
def f_X12_decodesAt_p4_0_b160 (r0 : Nat) (S : xSt) (x1 : Int) (x2 : Int) (x3 : Int) (s0 : Int) : Option (Int × xSt) :=
  f_X12_decodesAt_p4_0_b168 r0 (fu S) S x1 x3 s0 0 x2
def f_X12_decodesAt_p4_0_b90 (r0 : Nat) (S : xSt) (x1 : Int) (x2 : Int) (x3 : Int) (x4 : Int) : Option (Int × xSt) :=
  if wr ((gI S r0 6 6) + x4) ≤ wr (gI S r0 0 4) then
    (lt1 (wI S r0 6 6 ((gI S r0 6 6) + x4)) fun S15 =>
    lt1 (wI S15 r0 6 18 ((gI S15 r0 6 18) + x4)) fun S16 =>
    if wr x3 = 0 then
      (f_X12_decodesAt_p4_0_b160 r0 S16 x1 x2 x3 x2)
    else
      (f_X12_decodesAt_p4_0_b160 r0 S16 x1 x2 x3 (x2 + 1)))
  else
    (bd2 (f_X12_stops_p4_0 S r0 x1 6) fun v44 S43 =>
    some (v44, S43))
def f_X12_decodesAt_p4_0_b64 (r0 : Nat) (S : xSt) (x1 : Int) (x2 : Int) (x3 : Int) (s0 : Int) : Option (Int × xSt) :=
  if wr x1 ≤ 0 then
    (f_X12_decodesAt_p4_0_b90 r0 S x1 x2 x3 s0)
  else
    (bd2 (f_X12_isReplayed_p4_0 S r0) fun v48 S47 =>
    if ¬ wr v48 = 0 then
      (f_X12_decodesAt_p4_0_b90 r0 S47 x1 x2 x3 s0)
    else
      (if wr s0 ≤ wr 1 then
        (f_X12_decodesAt_p4_0_b90 r0 S47 x1 x2 x3 s0)
      else
        (bd2 (f_X12_stops_p4_0 S47 r0 x1 5) fun v52 S51 =>
        some (v52, S51))))
def f_X12_decodesAt_p4_0_b27 (r0 : Nat) (S : xSt) (x1 : Int) : Option (Int × xSt) :=
  bd2 (f_X12_head_p4_0 S r0) fun v7 S6 =>
  bd2 (f_X12_isHeadFused_p4_0 S6 r0) fun v10 S9 =>
  if wr v10 = 0 then
    (bd2 (f_X12_opsOf_p4_0 S9 r0 v7) fun v14 S13 =>
    f_X12_decodesAt_p4_0_b64 r0 S13 x1 v7 v10 v14)
  else
    (bd2 (f_X12_opsOf_p4_0 S9 r0 v7) fun v58 S57 =>
    bd2 (f_X12_opsOf_p4_0 S57 r0 (v7 + 1)) fun v61 S60 =>
    f_X12_decodesAt_p4_0_b64 r0 S60 x1 v7 v10 ((v58 + v61) - 1))
def f_X12_decodesAt_p4_0 (S : xSt) (r0 : Nat) (a1 : Int) : Option (Int × xSt) :=
  bd2 (f_X12_isReplayed_p4_0 S r0) fun v3 S2 =>
  if ¬ wr v3 = 0 then
    (f_X12_decodesAt_p4_0_b27 r0 S2 a1)
  else
    (if ¬ wr (gI S2 r0 6 42) = 0 then
      (f_X12_decodesAt_p4_0_b27 r0 S2 a1)
    else
      (bd2 (f_X12_causeOfEmpty_p4_0 S2 r0) fun v65 S64 =>
      bd2 (f_X12_stops_p4_0 S64 r0 a1 v65) fun v68 S67 =>
      some (v68, S67)))
set_option maxRecDepth 100000 in
set_option maxHeartbeats 4000000 in
theorem k_X12_decodesAt_p4_0_b231 {K : xCtx} {E : xE} {b : Nat} (hC : xOK K cX12_decodesAt RX12 8 (rmE 5 b)) (hZ : xZ K) {v : Int} {S' : xSt} (hE : xEnd K E (some .int) (YQi E v S')) {r0 : Nat} (hk0 : xkd E r0 = 4) : ∀ (S : xSt) (x1 : Int) (x5 : Int) (x6 : Int), f_X12_decodesAt_p4_0_b231 r0 S x1 x5 x6 = some (v, S') → WG K E 231 [(0, vr E r0 0), (1, vi x1), (5, vi x5), (6, vi x6)] [] S := by
  intro S x1 x5 x6 h
  unfold f_X12_decodesAt_p4_0_b231 at h
  refine g_aload_n hC rfl 0 rfl (rfl : 231 + 1 = 232) (xdt tt_X12_decodesAt 130 rfl) ?_
  refine g_iload hC 2 rfl (rfl : 232 + 2 = 234) (xdt tt_X12_decodesAt 131 rfl) ?_
  obtain ⟨v19, S18, hc17, h⟩ := bd2_i h
  refine g_callVz hC hZ hk0 kclX12 ly4_0 m_X12_doesTurn q664 (Nat.le_of_ble_eq_true rfl) [vi x5] rfl (fun l => c_X12_doesTurn_p4_0 l hk0 hc17) rfl (Nat.le_of_ble_eq_true rfl) (rfl : 234 + 3 = 237) (xdt tt_X12_decodesAt 132 rfl) (fun hb20 => ?_)
  refine g_if_ne hC (show ((237 : Nat) : Int) + 7 = ((244 : Nat) : Int) by decide) (rfl : 237 + 3 = 240) (xdt tt_X12_decodesAt 133 rfl) (fun hc32 => ?_) (fun hc32 => ?_)
  · replace h := (if_pos hc32).symm.trans h
    refine g_aload_n hC rfl 0 rfl (rfl : 244 + 1 = 245) (xdt tt_X12_decodesAt 138 rfl) ?_
    obtain ⟨v23, S22, hc21, h⟩ := bd2_i h
    refine g_callVz hC hZ hk0 kclX12 ly4_0 m_X12_isReplayed q844 (Nat.le_of_ble_eq_true rfl) [] rfl (fun l => c_X12_isReplayed_p4_0 l hk0 hc21) rfl (Nat.le_of_ble_eq_true rfl) (rfl : 245 + 3 = 248) (xdt tt_X12_decodesAt 139 rfl) (fun hb24 => ?_)
    refine g_if_eq hC (show ((248 : Nat) : Int) + 13 = ((261 : Nat) : Int) by decide) (rfl : 248 + 3 = 251) (xdt tt_X12_decodesAt 140 rfl) (fun hc31 => ?_) (fun hc31 => ?_)
    · replace h := (if_pos hc31).symm.trans h
      refine g_aload_n hC rfl 0 rfl (rfl : 261 + 1 = 262) (xdt tt_X12_decodesAt 146 rfl) ?_
      refine g_iload hC 2 rfl (rfl : 262 + 2 = 264) (xdt tt_X12_decodesAt 147 rfl) ?_
      refine g_iload hC 3 rfl (rfl : 264 + 2 = 266) (xdt tt_X12_decodesAt 148 rfl) ?_
      refine g_iload_n hC rfl 1 rfl (rfl : 266 + 1 = 267) (xdt tt_X12_decodesAt 149 rfl) ?_
      obtain ⟨v27, S26, hc25, h⟩ := bd2_i h
      refine g_callVi hC hZ hk0 kclX12 ly4_0 m_X12_turnsInQueue q1210 (Nat.le_of_ble_eq_true rfl) [vi x5, vi x6, vi x1] rfl (fun l => c_X12_turnsInQueue_p4_0 l hk0 hc25) rfl (Nat.le_of_ble_eq_true rfl) (rfl : 267 + 3 = 270) (xdt tt_X12_decodesAt 150 rfl) ?_
      cases h
      exact g_iret hC hE (xdt tt_X12_decodesAt 151 rfl)
    · replace h := (if_neg hc31).symm.trans h
      refine g_aload_n hC rfl 0 rfl (rfl : 251 + 1 = 252) (xdt tt_X12_decodesAt 141 rfl) ?_
      refine g_iload hC 2 rfl (rfl : 252 + 2 = 254) (xdt tt_X12_decodesAt 142 rfl) ?_
      refine g_iload_n hC rfl 1 rfl (rfl : 254 + 1 = 255) (xdt tt_X12_decodesAt 143 rfl) ?_
      obtain ⟨v30, S29, hc28, h⟩ := bd2_i h
      refine g_callVi hC hZ hk0 kclX12 ly4_0 m_X12_turnsInLoop q1198 (Nat.le_of_ble_eq_true rfl) [vi x5, vi x1] rfl (fun l => c_X12_turnsInLoop_p4_0 l hk0 hc28) rfl (Nat.le_of_ble_eq_true rfl) (rfl : 255 + 3 = 258) (xdt tt_X12_decodesAt 144 rfl) ?_
      refine g_goto hC (show ((258 : Nat) : Int) + 12 = ((270 : Nat) : Int) by decide) (xdt tt_X12_decodesAt 145 rfl) ?_
      cases h
      exact g_iret hC hE (xdt tt_X12_decodesAt 151 rfl)
  · replace h := (if_neg hc32).symm.trans h
    refine g_iload_n hC rfl 1 rfl (rfl : 240 + 1 = 241) (xdt tt_X12_decodesAt 134 rfl) ?_
    refine g_iconst hC (rfl : 241 + 1 = 242) (xdt tt_X12_decodesAt 135 rfl) ?_
    refine g_iadd hC (rfl : 242 + 1 = 243) (xdt tt_X12_decodesAt 136 rfl) ?_
    cases h
    exact g_iret hC hE (xdt tt_X12_decodesAt 137 rfl)
set_option maxRecDepth 100000 in
set_option maxHeartbeats 4000000 in
theorem k_X12_decodesAt_p4_0_b197 {K : xCtx} {E : xE} {b : Nat} (hC : xOK K cX12_decodesAt RX12 8 (rmE 5 b)) (hZ : xZ K) {v : Int} {S' : xSt} (hE : xEnd K E (some .int) (YQi E v S')) {r0 : Nat} (hk0 : xkd E r0 = 4) {c168 : xSt → Int → Int → Int → Int → Int → Option (Int × xSt)} (hrec168 : ∀ (S : xSt) (x1 : Int) (x3 : Int) (x5 : Int) (x6 : Int) (x7 : Int), c168 S x1 x3 x5 x6 x7 = some (v, S') → WG K E 168 [(0, vr E r0 0), (1, vi x1), (3, vi x3), (5, vi x5), (6, vi x6), (7, vi x7)] [] S) : ∀ (S : xSt) (x1 : Int) (x3 : Int) (x5 : Int) (x7 : Int) (s0 : Int), f_X12_decodesAt_p4_0_b197 c168 r0 S x1 x3 x5 x7 s0 = some (v, S') → WG K E 197 [(0, vr E r0 0), (1, vi x1), (3, vi x3), (5, vi x5), (7, vi x7)] [vi s0] S := by
  intro S x1 x3 x5 x7 s0 h
  unfold f_X12_decodesAt_p4_0_b197 at h
  refine g_istore hC (by decide) (lv' := [(6, vi s0), (0, vr E r0 0), (1, vi x1), (3, vi x3), (5, vi x5), (7, vi x7)]) rfl (rfl : 197 + 2 = 199) (xdt tt_X12_decodesAt 112 rfl) ?_
  refine g_aload_n hC rfl 1 rfl (rfl : 199 + 1 = 200) (xdt tt_X12_decodesAt 113 rfl) ?_
  refine g_iload hC 5 rfl (rfl : 200 + 2 = 202) (xdt tt_X12_decodesAt 114 rfl) ?_
  obtain ⟨S38, hc37, h⟩ := bd_i h
  refine g_callVv hC hZ hk0 kclX12 ly4_0 m_X12_passes q1190 (Nat.le_of_ble_eq_true rfl) [vi x7] rfl (fun l => c_X12_passes_p4_0 l hk0 hc37) rfl (Nat.le_of_ble_eq_true rfl) (rfl : 202 + 3 = 205) (xdt tt_X12_decodesAt 115 rfl) ?_
  refine g_iinc hC 5 rfl (by decide) (lv' := [(7, vi (x7 + 1)), (6, vi s0), (0, vr E r0 0), (1, vi x1), (3, vi x3), (5, vi x5)]) rfl (rfl : 205 + 3 = 208) (xdt tt_X12_decodesAt 116 rfl) ?_
  refine g_goto hC (show ((208 : Nat) : Int) + (-40) = ((168 : Nat) : Int) by decide) (xdt tt_X12_decodesAt 117 rfl) ?_
  refine g_sub [2, 3, 4, 5, 1, 0] (lv' := [(0, vr E r0 0), (1, vi x1), (3, vi x3), (5, vi x5), (6, vi s0), (7, vi (x7 + 1))]) rfl ?_
  exact hrec168 _ _ _ _ _ _ h
set_option maxRecDepth 100000 in
set_option maxHeartbeats 4000000 in
theorem k_X12_decodesAt_p4_0_b168 {K : xCtx} {E : xE} {b : Nat} (hC : xOK K cX12_decodesAt RX12 8 (rmE 5 b)) (hZ : xZ K) {v : Int} {S' : xSt} (hE : xEnd K E (some .int) (YQi E v S')) {r0 : Nat} (hk0 : xkd E r0 = 4) : ∀ (fuel : Nat) (S : xSt) (x1 : Int) (x3 : Int) (x5 : Int) (x6 : Int) (x7 : Int), f_X12_decodesAt_p4_0_b168 r0 fuel S x1 x3 x5 x6 x7 = some (v, S') → WG K E 168 [(0, vr E r0 0), (1, vi x1), (3, vi x3), (5, vi x5), (6, vi x6), (7, vi x7)] [] S := by
  intro fuel
  induction fuel with
  | zero => intro S x1 x3 x5 x6 x7 h; cases h
  | succ fuel ih =>
    intro S x1 x3 x5 x6 x7 h
    rw [f_X12_decodesAt_p4_0_b168] at h
    refine g_iload hC 5 rfl (rfl : 168 + 2 = 170) (xdt tt_X12_decodesAt 97 rfl) ?_
    refine g_iload hC 3 rfl (rfl : 170 + 2 = 172) (xdt tt_X12_decodesAt 98 rfl) ?_
    refine g_icmp_gt hC (show ((172 : Nat) : Int) + 39 = ((211 : Nat) : Int) by decide) (rfl : 172 + 3 = 175) (xdt tt_X12_decodesAt 99 rfl) (fun hc40 => ?_) (fun hc40 => ?_)
    · replace h := (if_pos hc40).symm.trans h
      refine g_iload_n hC rfl 2 rfl (rfl : 211 + 1 = 212) (xdt tt_X12_decodesAt 118 rfl) ?_
      refine g_if_eq hC (show ((212 : Nat) : Int) + 19 = ((231 : Nat) : Int) by decide) (rfl : 212 + 3 = 215) (xdt tt_X12_decodesAt 119 rfl) (fun hc34 => ?_) (fun hc34 => ?_)
      · replace h := (if_pos hc34).symm.trans h
        refine g_sub [0, 1, 3, 4] (lv' := [(0, vr E r0 0), (1, vi x1), (5, vi x5), (6, vi x6)]) rfl ?_
        exact k_X12_decodesAt_p4_0_b231 hC hZ hE hk0 _ _ _ _ h
      · replace h := (if_neg hc34).symm.trans h
        refine g_aload_n hC rfl 0 rfl (rfl : 215 + 1 = 216) (xdt tt_X12_decodesAt 120 rfl) ?_
        refine g_getP hC hk0 kclX12 ly4_0 10 (by decide) (rfl : r0 + 0 = r0) rfl q201 (rfl : 216 + 3 = 219) (xdt tt_X12_decodesAt 121 rfl) ?_
        refine g_bipush hC (by decide) (rfl : 219 + 2 = 221) (xdt tt_X12_decodesAt 122 rfl) ?_
        refine g_aload_n hC rfl 0 rfl (rfl : 221 + 1 = 222) (xdt tt_X12_decodesAt 123 rfl) ?_
        refine g_getP hC hk0 kclX12 ly4_0 10 (by decide) (rfl : r0 + 0 = r0) rfl q201 (rfl : 222 + 3 = 225) (xdt tt_X12_decodesAt 124 rfl) ?_
        refine g_bipush hC (by decide) (rfl : 225 + 2 = 227) (xdt tt_X12_decodesAt 125 rfl) ?_
        refine g_iald hC hk0 ly4_6 (by decide) (rfl : 227 + 1 = 228) (xdt tt_X12_decodesAt 126 rfl) (k0 := 19) (by decide) ?_
        refine g_iconst hC (rfl : 228 + 1 = 229) (xdt tt_X12_decodesAt 127 rfl) ?_
        refine g_iadd hC (rfl : 229 + 1 = 230) (xdt tt_X12_decodesAt 128 rfl) ?_
        obtain ⟨S33, hS33, h⟩ := lt1_i h
        refine g_iast hC hk0 ly4_6 (by decide) (by decide) hS33 (rfl : 230 + 1 = 231) (xdt tt_X12_decodesAt 129 rfl) ?_
        refine g_sub [0, 1, 3, 4] (lv' := [(0, vr E r0 0), (1, vi x1), (5, vi x5), (6, vi x6)]) rfl ?_
        exact k_X12_decodesAt_p4_0_b231 hC hZ hE hk0 _ _ _ _ h
    · replace h := (if_neg hc40).symm.trans h
      refine g_aload_n hC rfl 0 rfl (rfl : 175 + 1 = 176) (xdt tt_X12_decodesAt 100 rfl) ?_
      refine g_iload hC 5 rfl (rfl : 176 + 2 = 178) (xdt tt_X12_decodesAt 101 rfl) ?_
      obtain ⟨S36, hc35, h⟩ := bd_i h
      refine g_callVv hC hZ hk0 kclX12 ly4_0 m_X12_notes q1186 (Nat.le_of_ble_eq_true rfl) [vi x7] rfl (fun l => c_X12_notes_p4_0 l hk0 hc35) rfl (Nat.le_of_ble_eq_true rfl) (rfl : 178 + 3 = 181) (xdt tt_X12_decodesAt 102 rfl) ?_
      refine g_aload_n hC rfl 0 rfl (rfl : 181 + 1 = 182) (xdt tt_X12_decodesAt 103 rfl) ?_
      refine g_getP hC hk0 kclX12 ly4_0 10 (by decide) (rfl : r0 + 0 = r0) rfl q201 (rfl : 182 + 3 = 185) (xdt tt_X12_decodesAt 104 rfl) ?_
      refine g_bipush hC (by decide) (rfl : 185 + 2 = 187) (xdt tt_X12_decodesAt 105 rfl) ?_
      refine g_iald hC hk0 ly4_6 (by decide) (rfl : 187 + 1 = 188) (xdt tt_X12_decodesAt 106 rfl) (k0 := 63) (by decide) ?_
      refine g_iconst hC (rfl : 188 + 1 = 189) (xdt tt_X12_decodesAt 107 rfl) ?_
      refine g_icmp_ne hC (show ((189 : Nat) : Int) + 7 = ((196 : Nat) : Int) by decide) (rfl : 189 + 3 = 192) (xdt tt_X12_decodesAt 108 rfl) (fun hc39 => ?_) (fun hc39 => ?_)
      · replace h := (if_pos hc39).symm.trans h
        refine g_iconst hC (rfl : 196 + 1 = 197) (xdt tt_X12_decodesAt 111 rfl) ?_
        refine g_sub [0, 1, 2, 3, 5] (lv' := [(0, vr E r0 0), (1, vi x1), (3, vi x3), (5, vi x5), (7, vi x7)]) rfl ?_
        exact k_X12_decodesAt_p4_0_b197 hC hZ hE hk0 ih _ _ _ _ _ _ h
      · replace h := (if_neg hc39).symm.trans h
        refine g_iconst hC (rfl : 192 + 1 = 193) (xdt tt_X12_decodesAt 109 rfl) ?_
        refine g_goto hC (show ((193 : Nat) : Int) + 4 = ((197 : Nat) : Int) by decide) (xdt tt_X12_decodesAt 110 rfl) ?_
        refine g_sub [0, 1, 2, 3, 5] (lv' := [(0, vr E r0 0), (1, vi x1), (3, vi x3), (5, vi x5), (7, vi x7)]) rfl ?_
        exact k_X12_decodesAt_p4_0_b197 hC hZ hE hk0 ih _ _ _ _ _ _ h
set_option maxRecDepth 100000 in
set_option maxHeartbeats 4000000 in
theorem k_X12_decodesAt_p4_0_b160 {K : xCtx} {E : xE} {b : Nat} (hC : xOK K cX12_decodesAt RX12 8 (rmE 5 b)) (hZ : xZ K) {v : Int} {S' : xSt} (hE : xEnd K E (some .int) (YQi E v S')) {r0 : Nat} (hk0 : xkd E r0 = 4) : ∀ (S : xSt) (x1 : Int) (x2 : Int) (x3 : Int) (s0 : Int), f_X12_decodesAt_p4_0_b160 r0 S x1 x2 x3 s0 = some (v, S') → WG K E 160 [(0, vr E r0 0), (1, vi x1), (2, vi x2), (3, vi x3)] [vi s0] S := by
  intro S x1 x2 x3 s0 h
  unfold f_X12_decodesAt_p4_0_b160 at h
  refine g_istore hC (by decide) (lv' := [(5, vi s0), (0, vr E r0 0), (1, vi x1), (2, vi x2), (3, vi x3)]) rfl (rfl : 160 + 2 = 162) (xdt tt_X12_decodesAt 92 rfl) ?_
  refine g_iconst hC (rfl : 162 + 1 = 163) (xdt tt_X12_decodesAt 93 rfl) ?_
  refine g_istore hC (by decide) (lv' := [(6, vi 0), (5, vi s0), (0, vr E r0 0), (1, vi x1), (2, vi x2), (3, vi x3)]) rfl (rfl : 163 + 2 = 165) (xdt tt_X12_decodesAt 94 rfl) ?_
  refine g_iload_n hC rfl 4 rfl (rfl : 165 + 1 = 166) (xdt tt_X12_decodesAt 95 rfl) ?_
  refine g_istore hC (by decide) (lv' := [(7, vi x2), (6, vi 0), (5, vi s0), (0, vr E r0 0), (1, vi x1), (2, vi x2), (3, vi x3)]) rfl (rfl : 166 + 2 = 168) (xdt tt_X12_decodesAt 96 rfl) ?_
  refine g_sub [3, 4, 6, 2, 1, 0] (lv' := [(0, vr E r0 0), (1, vi x1), (3, vi x3), (5, vi s0), (6, vi 0), (7, vi x2)]) rfl ?_
  exact k_X12_decodesAt_p4_0_b168 hC hZ hE hk0 _ _ _ _ _ _ _ h
set_option maxRecDepth 100000 in
set_option maxHeartbeats 4000000 in
theorem k_X12_decodesAt_p4_0_b90 {K : xCtx} {E : xE} {b : Nat} (hC : xOK K cX12_decodesAt RX12 8 (rmE 5 b)) (hZ : xZ K) {v : Int} {S' : xSt} (hE : xEnd K E (some .int) (YQi E v S')) {r0 : Nat} (hk0 : xkd E r0 = 4) : ∀ (S : xSt) (x1 : Int) (x2 : Int) (x3 : Int) (x4 : Int), f_X12_decodesAt_p4_0_b90 r0 S x1 x2 x3 x4 = some (v, S') → WG K E 90 [(0, vr E r0 0), (1, vi x1), (2, vi x2), (3, vi x3), (4, vi x4)] [] S := by
  intro S x1 x2 x3 x4 h
  unfold f_X12_decodesAt_p4_0_b90 at h
  refine g_aload_n hC rfl 0 rfl (rfl : 90 + 1 = 91) (xdt tt_X12_decodesAt 51 rfl) ?_
  refine g_getP hC hk0 kclX12 ly4_0 10 (by decide) (rfl : r0 + 0 = r0) rfl q201 (rfl : 91 + 3 = 94) (xdt tt_X12_decodesAt 52 rfl) ?_
  refine g_bipush hC (by decide) (rfl : 94 + 2 = 96) (xdt tt_X12_decodesAt 53 rfl) ?_
  refine g_iald hC hk0 ly4_6 (by decide) (rfl : 96 + 1 = 97) (xdt tt_X12_decodesAt 54 rfl) (k0 := 6) (by decide) ?_
  refine g_iload hC 4 rfl (rfl : 97 + 2 = 99) (xdt tt_X12_decodesAt 55 rfl) ?_
  refine g_iadd hC (rfl : 99 + 1 = 100) (xdt tt_X12_decodesAt 56 rfl) ?_
  refine g_aload_n hC rfl 0 rfl (rfl : 100 + 1 = 101) (xdt tt_X12_decodesAt 57 rfl) ?_
  refine g_getI hC hk0 kclX12 ly4_0 4 (by decide) rfl q231 (rfl : 101 + 3 = 104) (xdt tt_X12_decodesAt 58 rfl) ?_
  refine g_icmp_le hC (show ((104 : Nat) : Int) + 11 = ((115 : Nat) : Int) by decide) (rfl : 104 + 3 = 107) (xdt tt_X12_decodesAt 59 rfl) (fun hc45 => ?_) (fun hc45 => ?_)
  · replace h := (if_pos hc45).symm.trans h
    refine g_aload_n hC rfl 0 rfl (rfl : 115 + 1 = 116) (xdt tt_X12_decodesAt 65 rfl) ?_
    refine g_getP hC hk0 kclX12 ly4_0 10 (by decide) (rfl : r0 + 0 = r0) rfl q201 (rfl : 116 + 3 = 119) (xdt tt_X12_decodesAt 66 rfl) ?_
    refine g_bipush hC (by decide) (rfl : 119 + 2 = 121) (xdt tt_X12_decodesAt 67 rfl) ?_
    refine g_aload_n hC rfl 0 rfl (rfl : 121 + 1 = 122) (xdt tt_X12_decodesAt 68 rfl) ?_
    refine g_getP hC hk0 kclX12 ly4_0 10 (by decide) (rfl : r0 + 0 = r0) rfl q201 (rfl : 122 + 3 = 125) (xdt tt_X12_decodesAt 69 rfl) ?_
    refine g_bipush hC (by decide) (rfl : 125 + 2 = 127) (xdt tt_X12_decodesAt 70 rfl) ?_
    refine g_iald hC hk0 ly4_6 (by decide) (rfl : 127 + 1 = 128) (xdt tt_X12_decodesAt 71 rfl) (k0 := 6) (by decide) ?_
    refine g_iload hC 4 rfl (rfl : 128 + 2 = 130) (xdt tt_X12_decodesAt 72 rfl) ?_
    refine g_iadd hC (rfl : 130 + 1 = 131) (xdt tt_X12_decodesAt 73 rfl) ?_
    obtain ⟨S15, hS15, h⟩ := lt1_i h
    refine g_iast hC hk0 ly4_6 (by decide) (by decide) hS15 (rfl : 131 + 1 = 132) (xdt tt_X12_decodesAt 74 rfl) ?_
    refine g_aload_n hC rfl 0 rfl (rfl : 132 + 1 = 133) (xdt tt_X12_decodesAt 75 rfl) ?_
    refine g_getP hC hk0 kclX12 ly4_0 10 (by decide) (rfl : r0 + 0 = r0) rfl q201 (rfl : 133 + 3 = 136) (xdt tt_X12_decodesAt 76 rfl) ?_
    refine g_bipush hC (by decide) (rfl : 136 + 2 = 138) (xdt tt_X12_decodesAt 77 rfl) ?_
    refine g_aload_n hC rfl 0 rfl (rfl : 138 + 1 = 139) (xdt tt_X12_decodesAt 78 rfl) ?_
    refine g_getP hC hk0 kclX12 ly4_0 10 (by decide) (rfl : r0 + 0 = r0) rfl q201 (rfl : 139 + 3 = 142) (xdt tt_X12_decodesAt 79 rfl) ?_
    refine g_bipush hC (by decide) (rfl : 142 + 2 = 144) (xdt tt_X12_decodesAt 80 rfl) ?_
    refine g_iald hC hk0 ly4_6 (by decide) (rfl : 144 + 1 = 145) (xdt tt_X12_decodesAt 81 rfl) (k0 := 18) (by decide) ?_
    refine g_iload hC 4 rfl (rfl : 145 + 2 = 147) (xdt tt_X12_decodesAt 82 rfl) ?_
    refine g_iadd hC (rfl : 147 + 1 = 148) (xdt tt_X12_decodesAt 83 rfl) ?_
    obtain ⟨S16, hS16, h⟩ := lt1_i h
    refine g_iast hC hk0 ly4_6 (by decide) (by decide) hS16 (rfl : 148 + 1 = 149) (xdt tt_X12_decodesAt 84 rfl) ?_
    refine g_iload_n hC rfl 3 rfl (rfl : 149 + 1 = 150) (xdt tt_X12_decodesAt 85 rfl) ?_
    refine g_if_eq hC (show ((150 : Nat) : Int) + 9 = ((159 : Nat) : Int) by decide) (rfl : 150 + 3 = 153) (xdt tt_X12_decodesAt 86 rfl) (fun hc41 => ?_) (fun hc41 => ?_)
    · replace h := (if_pos hc41).symm.trans h
      refine g_iload_n hC rfl 2 rfl (rfl : 159 + 1 = 160) (xdt tt_X12_decodesAt 91 rfl) ?_
      refine g_sub [0, 1, 2, 3] (lv' := [(0, vr E r0 0), (1, vi x1), (2, vi x2), (3, vi x3)]) rfl ?_
      exact k_X12_decodesAt_p4_0_b160 hC hZ hE hk0 _ _ _ _ _ h
    · replace h := (if_neg hc41).symm.trans h
      refine g_iload_n hC rfl 2 rfl (rfl : 153 + 1 = 154) (xdt tt_X12_decodesAt 87 rfl) ?_
      refine g_iconst hC (rfl : 154 + 1 = 155) (xdt tt_X12_decodesAt 88 rfl) ?_
      refine g_iadd hC (rfl : 155 + 1 = 156) (xdt tt_X12_decodesAt 89 rfl) ?_
      refine g_goto hC (show ((156 : Nat) : Int) + 4 = ((160 : Nat) : Int) by decide) (xdt tt_X12_decodesAt 90 rfl) ?_
      refine g_sub [0, 1, 2, 3] (lv' := [(0, vr E r0 0), (1, vi x1), (2, vi x2), (3, vi x3)]) rfl ?_
      exact k_X12_decodesAt_p4_0_b160 hC hZ hE hk0 _ _ _ _ _ h
  · replace h := (if_neg hc45).symm.trans h
    refine g_aload_n hC rfl 0 rfl (rfl : 107 + 1 = 108) (xdt tt_X12_decodesAt 60 rfl) ?_
    refine g_iload_n hC rfl 1 rfl (rfl : 108 + 1 = 109) (xdt tt_X12_decodesAt 61 rfl) ?_
    refine g_bipush hC (by decide) (rfl : 109 + 2 = 111) (xdt tt_X12_decodesAt 62 rfl) ?_
    obtain ⟨v44, S43, hc42, h⟩ := bd2_i h
    refine g_callVi hC hZ hk0 kclX12 ly4_0 m_X12_stops q1174 (Nat.le_of_ble_eq_true rfl) [vi x1, vi 6] rfl (fun l => c_X12_stops_p4_0 l hk0 hc42) rfl (Nat.le_of_ble_eq_true rfl) (rfl : 111 + 3 = 114) (xdt tt_X12_decodesAt 63 rfl) ?_
    cases h
    exact g_iret hC hE (xdt tt_X12_decodesAt 64 rfl)
set_option maxRecDepth 100000 in
set_option maxHeartbeats 4000000 in
theorem k_X12_decodesAt_p4_0_b64 {K : xCtx} {E : xE} {b : Nat} (hC : xOK K cX12_decodesAt RX12 8 (rmE 5 b)) (hZ : xZ K) {v : Int} {S' : xSt} (hE : xEnd K E (some .int) (YQi E v S')) {r0 : Nat} (hk0 : xkd E r0 = 4) : ∀ (S : xSt) (x1 : Int) (x2 : Int) (x3 : Int) (s0 : Int), f_X12_decodesAt_p4_0_b64 r0 S x1 x2 x3 s0 = some (v, S') → WG K E 64 [(0, vr E r0 0), (1, vi x1), (2, vi x2), (3, vi x3)] [vi s0] S := by
  intro S x1 x2 x3 s0 h
  unfold f_X12_decodesAt_p4_0_b64 at h
  refine g_istore hC (by decide) (lv' := [(4, vi s0), (0, vr E r0 0), (1, vi x1), (2, vi x2), (3, vi x3)]) rfl (rfl : 64 + 2 = 66) (xdt tt_X12_decodesAt 37 rfl) ?_
  refine g_iload_n hC rfl 2 rfl (rfl : 66 + 1 = 67) (xdt tt_X12_decodesAt 38 rfl) ?_
  refine g_if_le hC (show ((67 : Nat) : Int) + 23 = ((90 : Nat) : Int) by decide) (rfl : 67 + 3 = 70) (xdt tt_X12_decodesAt 39 rfl) (fun hc55 => ?_) (fun hc55 => ?_)
  · replace h := (if_pos hc55).symm.trans h
    refine g_sub [1, 2, 3, 4, 0] (lv' := [(0, vr E r0 0), (1, vi x1), (2, vi x2), (3, vi x3), (4, vi s0)]) rfl ?_
    exact k_X12_decodesAt_p4_0_b90 hC hZ hE hk0 _ _ _ _ _ h
  · replace h := (if_neg hc55).symm.trans h
    refine g_aload_n hC rfl 1 rfl (rfl : 70 + 1 = 71) (xdt tt_X12_decodesAt 40 rfl) ?_
    obtain ⟨v48, S47, hc46, h⟩ := bd2_i h
    refine g_callVz hC hZ hk0 kclX12 ly4_0 m_X12_isReplayed q844 (Nat.le_of_ble_eq_true rfl) [] rfl (fun l => c_X12_isReplayed_p4_0 l hk0 hc46) rfl (Nat.le_of_ble_eq_true rfl) (rfl : 71 + 3 = 74) (xdt tt_X12_decodesAt 41 rfl) (fun hb49 => ?_)
    refine g_if_ne hC (show ((74 : Nat) : Int) + 16 = ((90 : Nat) : Int) by decide) (rfl : 74 + 3 = 77) (xdt tt_X12_decodesAt 42 rfl) (fun hc54 => ?_) (fun hc54 => ?_)
    · replace h := (if_pos hc54).symm.trans h
      refine g_sub [1, 2, 3, 4, 0] (lv' := [(0, vr E r0 0), (1, vi x1), (2, vi x2), (3, vi x3), (4, vi s0)]) rfl ?_
      exact k_X12_decodesAt_p4_0_b90 hC hZ hE hk0 _ _ _ _ _ h
    · replace h := (if_neg hc54).symm.trans h
      refine g_iload hC 0 rfl (rfl : 77 + 2 = 79) (xdt tt_X12_decodesAt 43 rfl) ?_
      refine g_iconst hC (rfl : 79 + 1 = 80) (xdt tt_X12_decodesAt 44 rfl) ?_
      refine g_icmp_le hC (show ((80 : Nat) : Int) + 10 = ((90 : Nat) : Int) by decide) (rfl : 80 + 3 = 83) (xdt tt_X12_decodesAt 45 rfl) (fun hc53 => ?_) (fun hc53 => ?_)
      · replace h := (if_pos hc53).symm.trans h
        refine g_sub [1, 2, 3, 4, 0] (lv' := [(0, vr E r0 0), (1, vi x1), (2, vi x2), (3, vi x3), (4, vi s0)]) rfl ?_
        exact k_X12_decodesAt_p4_0_b90 hC hZ hE hk0 _ _ _ _ _ h
      · replace h := (if_neg hc53).symm.trans h
        refine g_aload_n hC rfl 1 rfl (rfl : 83 + 1 = 84) (xdt tt_X12_decodesAt 46 rfl) ?_
        refine g_iload_n hC rfl 2 rfl (rfl : 84 + 1 = 85) (xdt tt_X12_decodesAt 47 rfl) ?_
        refine g_iconst hC (rfl : 85 + 1 = 86) (xdt tt_X12_decodesAt 48 rfl) ?_
        obtain ⟨v52, S51, hc50, h⟩ := bd2_i h
        refine g_callVi hC hZ hk0 kclX12 ly4_0 m_X12_stops q1174 (Nat.le_of_ble_eq_true rfl) [vi x1, vi 5] rfl (fun l => c_X12_stops_p4_0 l hk0 hc50) rfl (Nat.le_of_ble_eq_true rfl) (rfl : 86 + 3 = 89) (xdt tt_X12_decodesAt 49 rfl) ?_
        cases h
        exact g_iret hC hE (xdt tt_X12_decodesAt 50 rfl)
set_option maxRecDepth 100000 in
set_option maxHeartbeats 4000000 in
theorem k_X12_decodesAt_p4_0_b27 {K : xCtx} {E : xE} {b : Nat} (hC : xOK K cX12_decodesAt RX12 8 (rmE 5 b)) (hZ : xZ K) {v : Int} {S' : xSt} (hE : xEnd K E (some .int) (YQi E v S')) {r0 : Nat} (hk0 : xkd E r0 = 4) : ∀ (S : xSt) (x1 : Int), f_X12_decodesAt_p4_0_b27 r0 S x1 = some (v, S') → WG K E 27 [(0, vr E r0 0), (1, vi x1)] [] S := by
  intro S x1 h
  unfold f_X12_decodesAt_p4_0_b27 at h
  refine g_aload_n hC rfl 0 rfl (rfl : 27 + 1 = 28) (xdt tt_X12_decodesAt 14 rfl) ?_
  obtain ⟨v7, S6, hc5, h⟩ := bd2_i h
  refine g_callVi hC hZ hk0 kclX12 ly4_0 m_X12_head q1178 (Nat.le_of_ble_eq_true rfl) [] rfl (fun l => c_X12_head_p4_0 l hk0 hc5) rfl (Nat.le_of_ble_eq_true rfl) (rfl : 28 + 3 = 31) (xdt tt_X12_decodesAt 15 rfl) ?_
  refine g_istore_n hC rfl (by decide) (lv' := [(2, vi v7), (0, vr E r0 0), (1, vi x1)]) rfl (rfl : 31 + 1 = 32) (xdt tt_X12_decodesAt 16 rfl) ?_
  refine g_aload_n hC rfl 1 rfl (rfl : 32 + 1 = 33) (xdt tt_X12_decodesAt 17 rfl) ?_
  obtain ⟨v10, S9, hc8, h⟩ := bd2_i h
  refine g_callVz hC hZ hk0 kclX12 ly4_0 m_X12_isHeadFused q1182 (Nat.le_of_ble_eq_true rfl) [] rfl (fun l => c_X12_isHeadFused_p4_0 l hk0 hc8) rfl (Nat.le_of_ble_eq_true rfl) (rfl : 33 + 3 = 36) (xdt tt_X12_decodesAt 18 rfl) (fun hb11 => ?_)
  refine g_istore_n hC rfl (by decide) (lv' := [(3, vi v10), (2, vi v7), (0, vr E r0 0), (1, vi x1)]) rfl (rfl : 36 + 1 = 37) (xdt tt_X12_decodesAt 19 rfl) ?_
  refine g_iload_n hC rfl 0 rfl (rfl : 37 + 1 = 38) (xdt tt_X12_decodesAt 20 rfl) ?_
  refine g_if_eq hC (show ((38 : Nat) : Int) + 21 = ((59 : Nat) : Int) by decide) (rfl : 38 + 3 = 41) (xdt tt_X12_decodesAt 21 rfl) (fun hc62 => ?_) (fun hc62 => ?_)
  · replace h := (if_pos hc62).symm.trans h
    refine g_aload_n hC rfl 2 rfl (rfl : 59 + 1 = 60) (xdt tt_X12_decodesAt 34 rfl) ?_
    refine g_iload_n hC rfl 1 rfl (rfl : 60 + 1 = 61) (xdt tt_X12_decodesAt 35 rfl) ?_
    obtain ⟨v14, S13, hc12, h⟩ := bd2_i h
    refine g_callVi hC hZ hk0 kclX12 ly4_0 m_X12_opsOf q659 (Nat.le_of_ble_eq_true rfl) [vi v7] rfl (fun l => c_X12_opsOf_p4_0 l hk0 hc12) rfl (Nat.le_of_ble_eq_true rfl) (rfl : 61 + 3 = 64) (xdt tt_X12_decodesAt 36 rfl) ?_
    refine g_sub [2, 3, 1, 0] (lv' := [(0, vr E r0 0), (1, vi x1), (2, vi v7), (3, vi v10)]) rfl ?_
    exact k_X12_decodesAt_p4_0_b64 hC hZ hE hk0 _ _ _ _ _ h
  · replace h := (if_neg hc62).symm.trans h
    refine g_aload_n hC rfl 2 rfl (rfl : 41 + 1 = 42) (xdt tt_X12_decodesAt 22 rfl) ?_
    refine g_iload_n hC rfl 1 rfl (rfl : 42 + 1 = 43) (xdt tt_X12_decodesAt 23 rfl) ?_
    obtain ⟨v58, S57, hc56, h⟩ := bd2_i h
    refine g_callVi hC hZ hk0 kclX12 ly4_0 m_X12_opsOf q659 (Nat.le_of_ble_eq_true rfl) [vi v7] rfl (fun l => c_X12_opsOf_p4_0 l hk0 hc56) rfl (Nat.le_of_ble_eq_true rfl) (rfl : 43 + 3 = 46) (xdt tt_X12_decodesAt 24 rfl) ?_
    refine g_aload_n hC rfl 2 rfl (rfl : 46 + 1 = 47) (xdt tt_X12_decodesAt 25 rfl) ?_
    refine g_iload_n hC rfl 1 rfl (rfl : 47 + 1 = 48) (xdt tt_X12_decodesAt 26 rfl) ?_
    refine g_iconst hC (rfl : 48 + 1 = 49) (xdt tt_X12_decodesAt 27 rfl) ?_
    refine g_iadd hC (rfl : 49 + 1 = 50) (xdt tt_X12_decodesAt 28 rfl) ?_
    obtain ⟨v61, S60, hc59, h⟩ := bd2_i h
    refine g_callVi hC hZ hk0 kclX12 ly4_0 m_X12_opsOf q659 (Nat.le_of_ble_eq_true rfl) [vi (v7 + 1)] rfl (fun l => c_X12_opsOf_p4_0 l hk0 hc59) rfl (Nat.le_of_ble_eq_true rfl) (rfl : 50 + 3 = 53) (xdt tt_X12_decodesAt 29 rfl) ?_
    refine g_iadd hC (rfl : 53 + 1 = 54) (xdt tt_X12_decodesAt 30 rfl) ?_
    refine g_iconst hC (rfl : 54 + 1 = 55) (xdt tt_X12_decodesAt 31 rfl) ?_
    refine g_isub hC (rfl : 55 + 1 = 56) (xdt tt_X12_decodesAt 32 rfl) ?_
    refine g_goto hC (show ((56 : Nat) : Int) + 8 = ((64 : Nat) : Int) by decide) (xdt tt_X12_decodesAt 33 rfl) ?_
    refine g_sub [2, 3, 1, 0] (lv' := [(0, vr E r0 0), (1, vi x1), (2, vi v7), (3, vi v10)]) rfl ?_
    exact k_X12_decodesAt_p4_0_b64 hC hZ hE hk0 _ _ _ _ _ h
set_option maxRecDepth 100000 in
set_option maxHeartbeats 4000000 in
theorem c_X12_decodesAt_p4_0 (l : Launch) {E : xE} {S S' : xSt} {r0 : Nat} {a1 : Int} (hk0 : xkd E r0 = 4) {v : Int} (h : f_X12_decodesAt_p4_0 S r0 a1 = some (v, S')) : Met l yX12_decodesAt (xws yX12_decodesAt cX12_decodesAt 8 (some .int)) (rmD 5) (YPc E [vr E r0 0, vi a1] S) (YQi E v S') 0 0 (xA E) := by
  unfold f_X12_decodesAt_p4_0 at h
  refine met_i (by decide +kernel) (Nat.le_of_ble_eq_true rfl) (fun K hC hZ hE => ?_)
  have hC : xOK K cX12_decodesAt RX12 8 (rmE 5 0) := hC
  show WG K E 0 [(0, vr E r0 0), (1, vi a1)] [] S
  refine g_aload_n hC rfl 0 rfl (rfl : 0 + 1 = 1) (xdt tt_X12_decodesAt 0 rfl) ?_
  obtain ⟨v3, S2, hc1, h⟩ := bd2_i h
  refine g_callVz hC hZ hk0 kclX12 ly4_0 m_X12_isReplayed q844 (Nat.le_of_ble_eq_true rfl) [] rfl (fun l => c_X12_isReplayed_p4_0 l hk0 hc1) rfl (Nat.le_of_ble_eq_true rfl) (rfl : 1 + 3 = 4) (xdt tt_X12_decodesAt 1 rfl) (fun hb4 => ?_)
  refine g_if_ne hC (show ((4 : Nat) : Int) + 23 = ((27 : Nat) : Int) by decide) (rfl : 4 + 3 = 7) (xdt tt_X12_decodesAt 2 rfl) (fun hc70 => ?_) (fun hc70 => ?_)
  · replace h := (if_pos hc70).symm.trans h
    refine g_sub [0, 1] (lv' := [(0, vr E r0 0), (1, vi a1)]) rfl ?_
    exact k_X12_decodesAt_p4_0_b27 hC hZ hE hk0 _ _ h
  · replace h := (if_neg hc70).symm.trans h
    refine g_aload_n hC rfl 0 rfl (rfl : 7 + 1 = 8) (xdt tt_X12_decodesAt 3 rfl) ?_
    refine g_getP hC hk0 kclX12 ly4_0 10 (by decide) (rfl : r0 + 0 = r0) rfl q201 (rfl : 8 + 3 = 11) (xdt tt_X12_decodesAt 4 rfl) ?_
    refine g_bipush hC (by decide) (rfl : 11 + 2 = 13) (xdt tt_X12_decodesAt 5 rfl) ?_
    refine g_iald hC hk0 ly4_6 (by decide) (rfl : 13 + 1 = 14) (xdt tt_X12_decodesAt 6 rfl) (k0 := 42) (by decide) ?_
    refine g_if_ne hC (show ((14 : Nat) : Int) + 13 = ((27 : Nat) : Int) by decide) (rfl : 14 + 3 = 17) (xdt tt_X12_decodesAt 7 rfl) (fun hc69 => ?_) (fun hc69 => ?_)
    · replace h := (if_pos hc69).symm.trans h
      refine g_sub [0, 1] (lv' := [(0, vr E r0 0), (1, vi a1)]) rfl ?_
      exact k_X12_decodesAt_p4_0_b27 hC hZ hE hk0 _ _ h
    · replace h := (if_neg hc69).symm.trans h
      refine g_aload_n hC rfl 0 rfl (rfl : 17 + 1 = 18) (xdt tt_X12_decodesAt 8 rfl) ?_
      refine g_iload_n hC rfl 1 rfl (rfl : 18 + 1 = 19) (xdt tt_X12_decodesAt 9 rfl) ?_
      refine g_aload_n hC rfl 0 rfl (rfl : 19 + 1 = 20) (xdt tt_X12_decodesAt 10 rfl) ?_
      obtain ⟨v65, S64, hc63, h⟩ := bd2_i h
      refine g_callVi hC hZ hk0 kclX12 ly4_0 m_X12_causeOfEmpty q1170 (Nat.le_of_ble_eq_true rfl) [] rfl (fun l => c_X12_causeOfEmpty_p4_0 l hk0 hc63) rfl (Nat.le_of_ble_eq_true rfl) (rfl : 20 + 3 = 23) (xdt tt_X12_decodesAt 11 rfl) ?_
      obtain ⟨v68, S67, hc66, h⟩ := bd2_i h
      refine g_callVi hC hZ hk0 kclX12 ly4_0 m_X12_stops q1174 (Nat.le_of_ble_eq_true rfl) [vi a1, vi v65] rfl (fun l => c_X12_stops_p4_0 l hk0 hc66) rfl (Nat.le_of_ble_eq_true rfl) (rfl : 23 + 3 = 26) (xdt tt_X12_decodesAt 12 rfl) ?_
      cases h
      exact g_iret hC hE (xdt tt_X12_decodesAt 13 rfl)
def f_X12_decodes_p4_0_b35 (r0 : Nat) : Nat → xSt → Int → Option (xSt)
  | 0, _, _ => none
  | fuel + 1, S, x1 =>
    if wr (gI S r0 6 0) ≤ wr x1 then
      (some S)
    else
      (bd2 (f_X12_decodesAt_p4_0 S r0 x1) fun v3 S2 =>
      (f_X12_decodes_p4_0_b35 r0 fuel) S2 v3)
def f_X12_decodes_p4_0 (S : xSt) (r0 : Nat) : Option (xSt) :=
  if wr (gI S r0 6 8) ≤ 0 then
    (f_X12_decodes_p4_0_b35 r0 (fu S) S 0)
  else
    (lt1 (wI S r0 6 8 ((gI S r0 6 8) - 1)) fun S5 =>
    bd (f_X12_wastes_p4_0 S5 r0 0 4) fun S7 =>
    some S7)
set_option maxRecDepth 100000 in
set_option maxHeartbeats 4000000 in
theorem k_X12_decodes_p4_0_b35 {K : xCtx} {E : xE} {b : Nat} (hC : xOK K cX12_decodes RX12 2 (rmE 6 b)) (hZ : xZ K) {S' : xSt} (hE : xEnd K E none (YQv E S')) {r0 : Nat} (hk0 : xkd E r0 = 4) : ∀ (fuel : Nat) (S : xSt) (x1 : Int), f_X12_decodes_p4_0_b35 r0 fuel S x1 = some S' → WG K E 35 [(0, vr E r0 0), (1, vi x1)] [] S := by
  intro fuel
  induction fuel with
  | zero => intro S x1 h; cases h
  | succ fuel ih =>
    intro S x1 h
    rw [f_X12_decodes_p4_0_b35] at h
    refine g_iload_n hC rfl 1 rfl (rfl : 35 + 1 = 36) (xdt tt_X12_decodes 22 rfl) ?_
    refine g_aload_n hC rfl 0 rfl (rfl : 36 + 1 = 37) (xdt tt_X12_decodes 23 rfl) ?_
    refine g_getP hC hk0 kclX12 ly4_0 10 (by decide) (rfl : r0 + 0 = r0) rfl q201 (rfl : 37 + 3 = 40) (xdt tt_X12_decodes 24 rfl) ?_
    refine g_iconst hC (rfl : 40 + 1 = 41) (xdt tt_X12_decodes 25 rfl) ?_
    refine g_iald hC hk0 ly4_6 (by decide) (rfl : 41 + 1 = 42) (xdt tt_X12_decodes 26 rfl) (k0 := 0) (by decide) ?_
    refine g_icmp_ge hC (show ((42 : Nat) : Int) + 12 = ((54 : Nat) : Int) by decide) (rfl : 42 + 3 = 45) (xdt tt_X12_decodes 27 rfl) (fun hc4 => ?_) (fun hc4 => ?_)
    · replace h := (if_pos hc4).symm.trans h
      cases h
      exact g_vret hC hE (xdt tt_X12_decodes 33 rfl)
    · replace h := (if_neg hc4).symm.trans h
      refine g_aload_n hC rfl 0 rfl (rfl : 45 + 1 = 46) (xdt tt_X12_decodes 28 rfl) ?_
      refine g_iload_n hC rfl 1 rfl (rfl : 46 + 1 = 47) (xdt tt_X12_decodes 29 rfl) ?_
      obtain ⟨v3, S2, hc1, h⟩ := bd2_i h
      refine g_callVi hC hZ hk0 kclX12 ly4_0 m_X12_decodesAt q1166 (Nat.le_of_ble_eq_true rfl) [vi x1] rfl (fun l => c_X12_decodesAt_p4_0 l hk0 hc1) rfl (Nat.le_of_ble_eq_true rfl) (rfl : 47 + 3 = 50) (xdt tt_X12_decodes 30 rfl) ?_
      refine g_istore_n hC rfl (by decide) (lv' := [(1, vi v3), (0, vr E r0 0)]) rfl (rfl : 50 + 1 = 51) (xdt tt_X12_decodes 31 rfl) ?_
      refine g_goto hC (show ((51 : Nat) : Int) + (-16) = ((35 : Nat) : Int) by decide) (xdt tt_X12_decodes 32 rfl) ?_
      refine g_sub [1, 0] (lv' := [(0, vr E r0 0), (1, vi v3)]) rfl ?_
      exact ih _ _ h
set_option maxRecDepth 100000 in
set_option maxHeartbeats 4000000 in
theorem c_X12_decodes_p4_0 (l : Launch) {E : xE} {S S' : xSt} {r0 : Nat} (hk0 : xkd E r0 = 4) (h : f_X12_decodes_p4_0 S r0 = some S') : Met l yX12_decodes (xws yX12_decodes cX12_decodes 2 none) (rmD 6) (YPc E [vr E r0 0] S) (YQv E S') 0 0 (xA E) := by
  unfold f_X12_decodes_p4_0 at h
  refine met_v (by decide +kernel) (Nat.le_of_ble_eq_true rfl) (fun K hC hZ hE => ?_)
  have hC : xOK K cX12_decodes RX12 2 (rmE 6 0) := hC
  show WG K E 0 [(0, vr E r0 0)] [] S
  refine g_aload_n hC rfl 0 rfl (rfl : 0 + 1 = 1) (xdt tt_X12_decodes 0 rfl) ?_
  refine g_getP hC hk0 kclX12 ly4_0 10 (by decide) (rfl : r0 + 0 = r0) rfl q201 (rfl : 1 + 3 = 4) (xdt tt_X12_decodes 1 rfl) ?_
  refine g_bipush hC (by decide) (rfl : 4 + 2 = 6) (xdt tt_X12_decodes 2 rfl) ?_
  refine g_iald hC hk0 ly4_6 (by decide) (rfl : 6 + 1 = 7) (xdt tt_X12_decodes 3 rfl) (k0 := 8) (by decide) ?_
  refine g_if_le hC (show ((7 : Nat) : Int) + 26 = ((33 : Nat) : Int) by decide) (rfl : 7 + 3 = 10) (xdt tt_X12_decodes 4 rfl) (fun hc8 => ?_) (fun hc8 => ?_)
  · replace h := (if_pos hc8).symm.trans h
    refine g_iconst hC (rfl : 33 + 1 = 34) (xdt tt_X12_decodes 20 rfl) ?_
    refine g_istore_n hC rfl (by decide) (lv' := [(1, vi 0), (0, vr E r0 0)]) rfl (rfl : 34 + 1 = 35) (xdt tt_X12_decodes 21 rfl) ?_
    refine g_sub [1, 0] (lv' := [(0, vr E r0 0), (1, vi 0)]) rfl ?_
    exact k_X12_decodes_p4_0_b35 hC hZ hE hk0 _ _ _ h
  · replace h := (if_neg hc8).symm.trans h
    refine g_aload_n hC rfl 0 rfl (rfl : 10 + 1 = 11) (xdt tt_X12_decodes 5 rfl) ?_
    refine g_getP hC hk0 kclX12 ly4_0 10 (by decide) (rfl : r0 + 0 = r0) rfl q201 (rfl : 11 + 3 = 14) (xdt tt_X12_decodes 6 rfl) ?_
    refine g_bipush hC (by decide) (rfl : 14 + 2 = 16) (xdt tt_X12_decodes 7 rfl) ?_
    refine g_aload_n hC rfl 0 rfl (rfl : 16 + 1 = 17) (xdt tt_X12_decodes 8 rfl) ?_
    refine g_getP hC hk0 kclX12 ly4_0 10 (by decide) (rfl : r0 + 0 = r0) rfl q201 (rfl : 17 + 3 = 20) (xdt tt_X12_decodes 9 rfl) ?_
    refine g_bipush hC (by decide) (rfl : 20 + 2 = 22) (xdt tt_X12_decodes 10 rfl) ?_
    refine g_iald hC hk0 ly4_6 (by decide) (rfl : 22 + 1 = 23) (xdt tt_X12_decodes 11 rfl) (k0 := 8) (by decide) ?_
    refine g_iconst hC (rfl : 23 + 1 = 24) (xdt tt_X12_decodes 12 rfl) ?_
    refine g_isub hC (rfl : 24 + 1 = 25) (xdt tt_X12_decodes 13 rfl) ?_
    obtain ⟨S5, hS5, h⟩ := lt1_i h
    refine g_iast hC hk0 ly4_6 (by decide) (by decide) hS5 (rfl : 25 + 1 = 26) (xdt tt_X12_decodes 14 rfl) ?_
    refine g_aload_n hC rfl 0 rfl (rfl : 26 + 1 = 27) (xdt tt_X12_decodes 15 rfl) ?_
    refine g_iconst hC (rfl : 27 + 1 = 28) (xdt tt_X12_decodes 16 rfl) ?_
    refine g_iconst hC (rfl : 28 + 1 = 29) (xdt tt_X12_decodes 17 rfl) ?_
    obtain ⟨S7, hc6, h⟩ := bd_i h
    refine g_callVv hC hZ hk0 kclX12 ly4_0 m_X12_wastes q1162 (Nat.le_of_ble_eq_true rfl) [vi 0, vi 4] rfl (fun l => c_X12_wastes_p4_0 l hk0 hc6) rfl (Nat.le_of_ble_eq_true rfl) (rfl : 29 + 3 = 32) (xdt tt_X12_decodes 18 rfl) ?_
    cases h
    exact g_vret hC hE (xdt tt_X12_decodes 19 rfl)
def f_X12_reads_p4_0_b93 (r0 : Nat) (S : xSt) : Option (xSt) :=
  lt1 (wI S r0 6 4 0) fun S6 =>
  lt1 (wI S6 r0 6 20 ((gI S6 r0 6 20) + 1)) fun S7 =>
  some S7
def f_X12_reads_p4_0_b71 (r0 : Nat) (S : xSt) (x1 : Int) : Option (xSt) :=
  bd2 (f_X12_windowOf_p4_0 S r0 x1) fun v4 S3 =>
  lt1 (wI S3 r0 6 5 ((gI S r0 0 2) * (v4 + 1))) fun S5 =>
  f_X12_reads_p4_0_b93 r0 S5
def f_X12_reads_p4_0 (S : xSt) (r0 : Nat) : Option (xSt) :=
  ckI (gI S r0 6 3) 61 <|
  if ¬ wr (gI S r0 6 10) = wr 1 then
    (if wr (gI S r0 6 4) = wr 1 then
      (f_X12_reads_p4_0_b71 r0 S (gI S r0 5 (wr (gI S r0 6 3)).toNat))
    else
      (if wr (gI S r0 5 (wr (gI S r0 6 3)).toNat) < wr (gI S r0 6 5) then
        (some S)
      else
        (f_X12_reads_p4_0_b71 r0 S (gI S r0 5 (wr (gI S r0 6 3)).toNat))))
  else
    (lt1 (wI S r0 6 5 ((gI S r0 6 5) + (gI S r0 0 2))) fun S10 =>
    lt1 (wI S10 r0 6 10 0) fun S11 =>
    f_X12_reads_p4_0_b93 r0 S11)
set_option maxRecDepth 100000 in
set_option maxHeartbeats 4000000 in
theorem k_X12_reads_p4_0_b93 {K : xCtx} {E : xE} {b : Nat} (hC : xOK K cX12_reads RX12 2 (rmE 2 b)) (hZ : xZ K) {S' : xSt} (hE : xEnd K E none (YQv E S')) {r0 : Nat} (hk0 : xkd E r0 = 4) : ∀ (S : xSt) , f_X12_reads_p4_0_b93 r0 S = some S' → WG K E 93 [(0, vr E r0 0)] [] S := by
  intro S h
  unfold f_X12_reads_p4_0_b93 at h
  refine g_aload_n hC rfl 0 rfl (rfl : 93 + 1 = 94) (xdt tt_X12_reads 57 rfl) ?_
  refine g_getP hC hk0 kclX12 ly4_0 10 (by decide) (rfl : r0 + 0 = r0) rfl q201 (rfl : 94 + 3 = 97) (xdt tt_X12_reads 58 rfl) ?_
  refine g_iconst hC (rfl : 97 + 1 = 98) (xdt tt_X12_reads 59 rfl) ?_
  refine g_iconst hC (rfl : 98 + 1 = 99) (xdt tt_X12_reads 60 rfl) ?_
  obtain ⟨S6, hS6, h⟩ := lt1_i h
  refine g_iast hC hk0 ly4_6 (by decide) (by decide) hS6 (rfl : 99 + 1 = 100) (xdt tt_X12_reads 61 rfl) ?_
  refine g_aload_n hC rfl 0 rfl (rfl : 100 + 1 = 101) (xdt tt_X12_reads 62 rfl) ?_
  refine g_getP hC hk0 kclX12 ly4_0 10 (by decide) (rfl : r0 + 0 = r0) rfl q201 (rfl : 101 + 3 = 104) (xdt tt_X12_reads 63 rfl) ?_
  refine g_bipush hC (by decide) (rfl : 104 + 2 = 106) (xdt tt_X12_reads 64 rfl) ?_
  refine g_aload_n hC rfl 0 rfl (rfl : 106 + 1 = 107) (xdt tt_X12_reads 65 rfl) ?_
  refine g_getP hC hk0 kclX12 ly4_0 10 (by decide) (rfl : r0 + 0 = r0) rfl q201 (rfl : 107 + 3 = 110) (xdt tt_X12_reads 66 rfl) ?_
  refine g_bipush hC (by decide) (rfl : 110 + 2 = 112) (xdt tt_X12_reads 67 rfl) ?_
  refine g_iald hC hk0 ly4_6 (by decide) (rfl : 112 + 1 = 113) (xdt tt_X12_reads 68 rfl) (k0 := 20) (by decide) ?_
  refine g_iconst hC (rfl : 113 + 1 = 114) (xdt tt_X12_reads 69 rfl) ?_
  refine g_iadd hC (rfl : 114 + 1 = 115) (xdt tt_X12_reads 70 rfl) ?_
  obtain ⟨S7, hS7, h⟩ := lt1_i h
  refine g_iast hC hk0 ly4_6 (by decide) (by decide) hS7 (rfl : 115 + 1 = 116) (xdt tt_X12_reads 71 rfl) ?_
  cases h
  exact g_vret hC hE (xdt tt_X12_reads 72 rfl)
set_option maxRecDepth 100000 in
set_option maxHeartbeats 4000000 in
theorem k_X12_reads_p4_0_b71 {K : xCtx} {E : xE} {b : Nat} (hC : xOK K cX12_reads RX12 2 (rmE 2 b)) (hZ : xZ K) {S' : xSt} (hE : xEnd K E none (YQv E S')) {r0 : Nat} (hk0 : xkd E r0 = 4) : ∀ (S : xSt) (x1 : Int), f_X12_reads_p4_0_b71 r0 S x1 = some S' → WG K E 71 [(0, vr E r0 0), (1, vi x1)] [] S := by
  intro S x1 h
  unfold f_X12_reads_p4_0_b71 at h
  refine g_aload_n hC rfl 0 rfl (rfl : 71 + 1 = 72) (xdt tt_X12_reads 43 rfl) ?_
  refine g_getP hC hk0 kclX12 ly4_0 10 (by decide) (rfl : r0 + 0 = r0) rfl q201 (rfl : 72 + 3 = 75) (xdt tt_X12_reads 44 rfl) ?_
  refine g_iconst hC (rfl : 75 + 1 = 76) (xdt tt_X12_reads 45 rfl) ?_
  refine g_aload_n hC rfl 0 rfl (rfl : 76 + 1 = 77) (xdt tt_X12_reads 46 rfl) ?_
  refine g_getI hC hk0 kclX12 ly4_0 2 (by decide) rfl q229 (rfl : 77 + 3 = 80) (xdt tt_X12_reads 47 rfl) ?_
  refine g_aload_n hC rfl 0 rfl (rfl : 80 + 1 = 81) (xdt tt_X12_reads 48 rfl) ?_
  refine g_iload_n hC rfl 1 rfl (rfl : 81 + 1 = 82) (xdt tt_X12_reads 49 rfl) ?_
  obtain ⟨v4, S3, hc2, h⟩ := bd2_i h
  refine g_callVi hC hZ hk0 kclX12 ly4_0 m_X12_windowOf q708 (Nat.le_of_ble_eq_true rfl) [vi x1] rfl (fun l => c_X12_windowOf_p4_0 l hk0 hc2) rfl (Nat.le_of_ble_eq_true rfl) (rfl : 82 + 3 = 85) (xdt tt_X12_reads 50 rfl) ?_
  refine g_iconst hC (rfl : 85 + 1 = 86) (xdt tt_X12_reads 51 rfl) ?_
  refine g_iadd hC (rfl : 86 + 1 = 87) (xdt tt_X12_reads 52 rfl) ?_
  refine g_imul hC (rfl : 87 + 1 = 88) (xdt tt_X12_reads 53 rfl) ?_
  obtain ⟨S5, hS5, h⟩ := lt1_i h
  refine g_iast hC hk0 ly4_6 (by decide) (by decide) hS5 (rfl : 88 + 1 = 89) (xdt tt_X12_reads 54 rfl) ?_
  refine g_goto hC (show ((89 : Nat) : Int) + 4 = ((93 : Nat) : Int) by decide) (xdt tt_X12_reads 55 rfl) ?_
  refine g_sub [0] (lv' := [(0, vr E r0 0)]) rfl ?_
  exact k_X12_reads_p4_0_b93 hC hZ hE hk0 _ h
set_option maxRecDepth 100000 in
set_option maxHeartbeats 4000000 in
theorem c_X12_reads_p4_0 (l : Launch) {E : xE} {S S' : xSt} {r0 : Nat} (hk0 : xkd E r0 = 4) (h : f_X12_reads_p4_0 S r0 = some S') : Met l yX12_reads (xws yX12_reads cX12_reads 2 none) (rmD 2) (YPc E [vr E r0 0] S) (YQv E S') 0 0 (xA E) := by
  unfold f_X12_reads_p4_0 at h
  refine met_v (by decide +kernel) (Nat.le_of_ble_eq_true rfl) (fun K hC hZ hE => ?_)
  have hC : xOK K cX12_reads RX12 2 (rmE 2 0) := hC
  show WG K E 0 [(0, vr E r0 0)] [] S
  refine g_aload_n hC rfl 0 rfl (rfl : 0 + 1 = 1) (xdt tt_X12_reads 0 rfl) ?_
  refine g_getP hC hk0 kclX12 ly4_0 9 (by decide) (rfl : r0 + 0 = r0) rfl q200 (rfl : 1 + 3 = 4) (xdt tt_X12_reads 1 rfl) ?_
  refine g_aload_n hC rfl 0 rfl (rfl : 4 + 1 = 5) (xdt tt_X12_reads 2 rfl) ?_
  refine g_getP hC hk0 kclX12 ly4_0 10 (by decide) (rfl : r0 + 0 = r0) rfl q201 (rfl : 5 + 3 = 8) (xdt tt_X12_reads 3 rfl) ?_
  refine g_iconst hC (rfl : 8 + 1 = 9) (xdt tt_X12_reads 4 rfl) ?_
  refine g_iald hC hk0 ly4_6 (by decide) (rfl : 9 + 1 = 10) (xdt tt_X12_reads 5 rfl) (k0 := 3) (by decide) ?_
  obtain ⟨hi1, h⟩ := ckI_i h
  refine g_iald hC hk0 ly4_5 hi1 (rfl : 10 + 1 = 11) (xdt tt_X12_reads 6 rfl) (k0 := (wr (gI S r0 6 3)).toNat) rfl ?_
  refine g_istore_n hC rfl (by decide) (lv' := [(1, vi (gI S r0 5 (wr (gI S r0 6 3)).toNat)), (0, vr E r0 0)]) rfl (rfl : 11 + 1 = 12) (xdt tt_X12_reads 7 rfl) ?_
  refine g_aload_n hC rfl 1 rfl (rfl : 12 + 1 = 13) (xdt tt_X12_reads 8 rfl) ?_
  refine g_getP hC hk0 kclX12 ly4_0 10 (by decide) (rfl : r0 + 0 = r0) rfl q201 (rfl : 13 + 3 = 16) (xdt tt_X12_reads 9 rfl) ?_
  refine g_bipush hC (by decide) (rfl : 16 + 2 = 18) (xdt tt_X12_reads 10 rfl) ?_
  refine g_iald hC hk0 ly4_6 (by decide) (rfl : 18 + 1 = 19) (xdt tt_X12_reads 11 rfl) (k0 := 10) (by decide) ?_
  refine g_iconst hC (rfl : 19 + 1 = 20) (xdt tt_X12_reads 12 rfl) ?_
  refine g_icmp_ne hC (show ((20 : Nat) : Int) + 31 = ((51 : Nat) : Int) by decide) (rfl : 20 + 3 = 23) (xdt tt_X12_reads 13 rfl) (fun hc12 => ?_) (fun hc12 => ?_)
  · replace h := (if_pos hc12).symm.trans h
    refine g_aload_n hC rfl 1 rfl (rfl : 51 + 1 = 52) (xdt tt_X12_reads 31 rfl) ?_
    refine g_getP hC hk0 kclX12 ly4_0 10 (by decide) (rfl : r0 + 0 = r0) rfl q201 (rfl : 52 + 3 = 55) (xdt tt_X12_reads 32 rfl) ?_
    refine g_iconst hC (rfl : 55 + 1 = 56) (xdt tt_X12_reads 33 rfl) ?_
    refine g_iald hC hk0 ly4_6 (by decide) (rfl : 56 + 1 = 57) (xdt tt_X12_reads 34 rfl) (k0 := 4) (by decide) ?_
    refine g_iconst hC (rfl : 57 + 1 = 58) (xdt tt_X12_reads 35 rfl) ?_
    refine g_icmp_eq hC (show ((58 : Nat) : Int) + 13 = ((71 : Nat) : Int) by decide) (rfl : 58 + 3 = 61) (xdt tt_X12_reads 36 rfl) (fun hc9 => ?_) (fun hc9 => ?_)
    · replace h := (if_pos hc9).symm.trans h
      refine g_sub [1, 0] (lv' := [(0, vr E r0 0), (1, vi (gI S r0 5 (wr (gI S r0 6 3)).toNat))]) rfl ?_
      exact k_X12_reads_p4_0_b71 hC hZ hE hk0 _ _ h
    · replace h := (if_neg hc9).symm.trans h
      refine g_iload_n hC rfl 0 rfl (rfl : 61 + 1 = 62) (xdt tt_X12_reads 37 rfl) ?_
      refine g_aload_n hC rfl 1 rfl (rfl : 62 + 1 = 63) (xdt tt_X12_reads 38 rfl) ?_
      refine g_getP hC hk0 kclX12 ly4_0 10 (by decide) (rfl : r0 + 0 = r0) rfl q201 (rfl : 63 + 3 = 66) (xdt tt_X12_reads 39 rfl) ?_
      refine g_iconst hC (rfl : 66 + 1 = 67) (xdt tt_X12_reads 40 rfl) ?_
      refine g_iald hC hk0 ly4_6 (by decide) (rfl : 67 + 1 = 68) (xdt tt_X12_reads 41 rfl) (k0 := 5) (by decide) ?_
      refine g_icmp_lt hC (show ((68 : Nat) : Int) + 24 = ((92 : Nat) : Int) by decide) (rfl : 68 + 3 = 71) (xdt tt_X12_reads 42 rfl) (fun hc8 => ?_) (fun hc8 => ?_)
      · replace h := (if_pos hc8).symm.trans h
        cases h
        exact g_vret hC hE (xdt tt_X12_reads 56 rfl)
      · replace h := (if_neg hc8).symm.trans h
        refine g_sub [1, 0] (lv' := [(0, vr E r0 0), (1, vi (gI S r0 5 (wr (gI S r0 6 3)).toNat))]) rfl ?_
        exact k_X12_reads_p4_0_b71 hC hZ hE hk0 _ _ h
  · replace h := (if_neg hc12).symm.trans h
    refine g_aload_n hC rfl 1 rfl (rfl : 23 + 1 = 24) (xdt tt_X12_reads 14 rfl) ?_
    refine g_getP hC hk0 kclX12 ly4_0 10 (by decide) (rfl : r0 + 0 = r0) rfl q201 (rfl : 24 + 3 = 27) (xdt tt_X12_reads 15 rfl) ?_
    refine g_iconst hC (rfl : 27 + 1 = 28) (xdt tt_X12_reads 16 rfl) ?_
    refine g_aload_n hC rfl 1 rfl (rfl : 28 + 1 = 29) (xdt tt_X12_reads 17 rfl) ?_
    refine g_getP hC hk0 kclX12 ly4_0 10 (by decide) (rfl : r0 + 0 = r0) rfl q201 (rfl : 29 + 3 = 32) (xdt tt_X12_reads 18 rfl) ?_
    refine g_iconst hC (rfl : 32 + 1 = 33) (xdt tt_X12_reads 19 rfl) ?_
    refine g_iald hC hk0 ly4_6 (by decide) (rfl : 33 + 1 = 34) (xdt tt_X12_reads 20 rfl) (k0 := 5) (by decide) ?_
    refine g_aload_n hC rfl 1 rfl (rfl : 34 + 1 = 35) (xdt tt_X12_reads 21 rfl) ?_
    refine g_getI hC hk0 kclX12 ly4_0 2 (by decide) rfl q229 (rfl : 35 + 3 = 38) (xdt tt_X12_reads 22 rfl) ?_
    refine g_iadd hC (rfl : 38 + 1 = 39) (xdt tt_X12_reads 23 rfl) ?_
    obtain ⟨S10, hS10, h⟩ := lt1_i h
    refine g_iast hC hk0 ly4_6 (by decide) (by decide) hS10 (rfl : 39 + 1 = 40) (xdt tt_X12_reads 24 rfl) ?_
    refine g_aload_n hC rfl 1 rfl (rfl : 40 + 1 = 41) (xdt tt_X12_reads 25 rfl) ?_
    refine g_getP hC hk0 kclX12 ly4_0 10 (by decide) (rfl : r0 + 0 = r0) rfl q201 (rfl : 41 + 3 = 44) (xdt tt_X12_reads 26 rfl) ?_
    refine g_bipush hC (by decide) (rfl : 44 + 2 = 46) (xdt tt_X12_reads 27 rfl) ?_
    refine g_iconst hC (rfl : 46 + 1 = 47) (xdt tt_X12_reads 28 rfl) ?_
    obtain ⟨S11, hS11, h⟩ := lt1_i h
    refine g_iast hC hk0 ly4_6 (by decide) (by decide) hS11 (rfl : 47 + 1 = 48) (xdt tt_X12_reads 29 rfl) ?_
    refine g_goto hC (show ((48 : Nat) : Int) + 45 = ((93 : Nat) : Int) by decide) (xdt tt_X12_reads 30 rfl) ?_
    refine g_sub [1] (lv' := [(0, vr E r0 0)]) rfl ?_
    exact k_X12_reads_p4_0_b93 hC hZ hE hk0 _ h
def f_X12_marks_p4_0_b194 (r0 : Nat) (S : xSt) (x1 : Int) (x2 : Int) : Option (Int × xSt) :=
  ckI x1 60 <|
  if ¬ wr (gI S r0 2 (wr x1).toNat) = 0 then
    (some (0, S))
  else
    (if ¬ wr x2 = 0 then
      (some (0, S))
    else
      (some (1, S)))
def f_X12_marks_p4_0_b180 (r0 : Nat) (S : xSt) (x1 : Int) (x2 : Int) : Option (Int × xSt) :=
  if wr x2 = 0 then
    (f_X12_marks_p4_0_b194 r0 S x1 x2)
  else
    (ckI x1 60 <|
    bd (f_X12_sets_p4_0 S r0 (gI S r0 3 (wr x1).toNat)) fun S18 =>
    f_X12_marks_p4_0_b194 r0 S18 x1 x2)
def f_X12_marks_p4_0_b136 (r0 : Nat) (S : xSt) (x1 : Int) (x2 : Int) (s0 : Int) (s1 : Int) : Option (Int × xSt) :=
  ckI s1 363 <|
  lt1 (wI S r0 6 (wr s1).toNat s0) fun S9 =>
  lt1 (wI S9 r0 6 42 ((gI S9 r0 6 42) + 1)) fun S10 =>
  lt1 (wI S10 r0 6 3 (x1 + 1)) fun S11 =>
  ckI x1 60 <|
  if ¬ wr (gI S11 r0 2 (wr x1).toNat) = wr 1 then
    (f_X12_marks_p4_0_b180 r0 S11 x1 x2)
  else
    (lt1 (wI S11 r0 6 9 3) fun S20 =>
    f_X12_marks_p4_0_b180 r0 S20 x1 x2)
def f_X12_marks_p4_0 (S : xSt) (r0 : Nat) : Option (Int × xSt) :=
  if wr (gI S r0 6 3) = wr (gI S r0 0 1) then
    (some (0, S))
  else
    (if ¬ wr (gI S r0 6 42) = wr (gI S r0 0 3) then
      (ckI ((gI S r0 6 3) + 1) 61 <|
      if wr (gI S r0 5 (wr ((gI S r0 6 3) + 1)).toNat) ≤ wr (gI S r0 6 5) then
        (bd2 (f_X12_predicts_p4_0 S r0 (gI S r0 6 3)) fun v4 S3 =>
        ckI (43 + (gI S3 r0 6 42)) 363 <|
        lt1 (wI S3 r0 6 (wr (43 + (gI S3 r0 6 42))).toNat (gI S r0 6 3)) fun S7 =>
        if wr v4 = 0 then
          (f_X12_marks_p4_0_b136 r0 S7 (gI S r0 6 3) v4 0 (63 + (gI S7 r0 6 42)))
        else
          (f_X12_marks_p4_0_b136 r0 S7 (gI S r0 6 3) v4 1 (63 + (gI S7 r0 6 42))))
      else
        (ckI (gI S r0 6 3) 61 <|
        if wr (gI S r0 5 (wr (gI S r0 6 3)).toNat) < wr (gI S r0 6 5) then
          (lt1 (wI S r0 6 10 1) fun S24 =>
          lt1 (wI S24 r0 6 21 ((gI S24 r0 6 21) + 1)) fun S25 =>
          some (0, S25))
        else
          (some (0, S))))
    else
      (some (0, S)))
set_option maxRecDepth 100000 in
set_option maxHeartbeats 4000000 in
theorem k_X12_marks_p4_0_b194 {K : xCtx} {E : xE} {b : Nat} (hC : xOK K cX12_marks RX12 3 (rmE 2 b)) (hZ : xZ K) {v : Int} {S' : xSt} (hE : xEnd K E (some .boolean) (YQz E v S')) {r0 : Nat} (hk0 : xkd E r0 = 4) : ∀ (S : xSt) (x1 : Int) (x2 : Int), f_X12_marks_p4_0_b194 r0 S x1 x2 = some (v, S') → WG K E 194 [(0, vr E r0 0), (1, vi x1), (2, vi x2)] [] S := by
  intro S x1 x2 h
  unfold f_X12_marks_p4_0_b194 at h
  refine g_aload_n hC rfl 0 rfl (rfl : 194 + 1 = 195) (xdt tt_X12_marks 121 rfl) ?_
  refine g_getP hC hk0 kclX12 ly4_0 6 (by decide) (rfl : r0 + 0 = r0) rfl q197 (rfl : 195 + 3 = 198) (xdt tt_X12_marks 122 rfl) ?_
  refine g_iload_n hC rfl 1 rfl (rfl : 198 + 1 = 199) (xdt tt_X12_marks 123 rfl) ?_
  obtain ⟨hi13, h⟩ := ckI_i h
  refine g_iald hC hk0 ly4_2 hi13 (rfl : 199 + 1 = 200) (xdt tt_X12_marks 124 rfl) (k0 := (wr x1).toNat) rfl ?_
  refine g_if_ne hC (show ((200 : Nat) : Int) + 11 = ((211 : Nat) : Int) by decide) (rfl : 200 + 3 = 203) (xdt tt_X12_marks 125 rfl) (fun hc15 => ?_) (fun hc15 => ?_)
  · replace h := (if_pos hc15).symm.trans h
    refine g_iconst hC (rfl : 211 + 1 = 212) (xdt tt_X12_marks 130 rfl) ?_
    cases h
    exact g_zret hC hE (Or.inl rfl) (xdt tt_X12_marks 131 rfl)
  · replace h := (if_neg hc15).symm.trans h
    refine g_iload_n hC rfl 2 rfl (rfl : 203 + 1 = 204) (xdt tt_X12_marks 126 rfl) ?_
    refine g_if_ne hC (show ((204 : Nat) : Int) + 7 = ((211 : Nat) : Int) by decide) (rfl : 204 + 3 = 207) (xdt tt_X12_marks 127 rfl) (fun hc14 => ?_) (fun hc14 => ?_)
    · replace h := (if_pos hc14).symm.trans h
      refine g_iconst hC (rfl : 211 + 1 = 212) (xdt tt_X12_marks 130 rfl) ?_
      cases h
      exact g_zret hC hE (Or.inl rfl) (xdt tt_X12_marks 131 rfl)
    · replace h := (if_neg hc14).symm.trans h
      refine g_iconst hC (rfl : 207 + 1 = 208) (xdt tt_X12_marks 128 rfl) ?_
      refine g_goto hC (show ((208 : Nat) : Int) + 4 = ((212 : Nat) : Int) by decide) (xdt tt_X12_marks 129 rfl) ?_
      cases h
      exact g_zret hC hE (Or.inr rfl) (xdt tt_X12_marks 131 rfl)
set_option maxRecDepth 100000 in
set_option maxHeartbeats 4000000 in
theorem k_X12_marks_p4_0_b180 {K : xCtx} {E : xE} {b : Nat} (hC : xOK K cX12_marks RX12 3 (rmE 2 b)) (hZ : xZ K) {v : Int} {S' : xSt} (hE : xEnd K E (some .boolean) (YQz E v S')) {r0 : Nat} (hk0 : xkd E r0 = 4) : ∀ (S : xSt) (x1 : Int) (x2 : Int), f_X12_marks_p4_0_b180 r0 S x1 x2 = some (v, S') → WG K E 180 [(0, vr E r0 0), (1, vi x1), (2, vi x2)] [] S := by
  intro S x1 x2 h
  unfold f_X12_marks_p4_0_b180 at h
  refine g_iload_n hC rfl 2 rfl (rfl : 180 + 1 = 181) (xdt tt_X12_marks 113 rfl) ?_
  refine g_if_eq hC (show ((181 : Nat) : Int) + 13 = ((194 : Nat) : Int) by decide) (rfl : 181 + 3 = 184) (xdt tt_X12_marks 114 rfl) (fun hc19 => ?_) (fun hc19 => ?_)
  · replace h := (if_pos hc19).symm.trans h
    refine g_sub [0, 1, 2] (lv' := [(0, vr E r0 0), (1, vi x1), (2, vi x2)]) rfl ?_
    exact k_X12_marks_p4_0_b194 hC hZ hE hk0 _ _ _ h
  · replace h := (if_neg hc19).symm.trans h
    refine g_aload_n hC rfl 0 rfl (rfl : 184 + 1 = 185) (xdt tt_X12_marks 115 rfl) ?_
    refine g_aload_n hC rfl 0 rfl (rfl : 185 + 1 = 186) (xdt tt_X12_marks 116 rfl) ?_
    refine g_getP hC hk0 kclX12 ly4_0 7 (by decide) (rfl : r0 + 0 = r0) rfl q198 (rfl : 186 + 3 = 189) (xdt tt_X12_marks 117 rfl) ?_
    refine g_iload_n hC rfl 1 rfl (rfl : 189 + 1 = 190) (xdt tt_X12_marks 118 rfl) ?_
    obtain ⟨hi16, h⟩ := ckI_i h
    refine g_iald hC hk0 ly4_3 hi16 (rfl : 190 + 1 = 191) (xdt tt_X12_marks 119 rfl) (k0 := (wr x1).toNat) rfl ?_
    obtain ⟨S18, hc17, h⟩ := bd_i h
    refine g_callVv hC hZ hk0 kclX12 ly4_0 m_X12_sets q1206 (Nat.le_of_ble_eq_true rfl) [vi (gI S r0 3 (wr x1).toNat)] rfl (fun l => c_X12_sets_p4_0 l hk0 hc17) rfl (Nat.le_of_ble_eq_true rfl) (rfl : 191 + 3 = 194) (xdt tt_X12_marks 120 rfl) ?_
    refine g_sub [0, 1, 2] (lv' := [(0, vr E r0 0), (1, vi x1), (2, vi x2)]) rfl ?_
    exact k_X12_marks_p4_0_b194 hC hZ hE hk0 _ _ _ h
set_option maxRecDepth 100000 in
set_option maxHeartbeats 4000000 in
theorem k_X12_marks_p4_0_b136 {K : xCtx} {E : xE} {b : Nat} (hC : xOK K cX12_marks RX12 3 (rmE 2 b)) (hZ : xZ K) {v : Int} {S' : xSt} (hE : xEnd K E (some .boolean) (YQz E v S')) {r0 : Nat} (hk0 : xkd E r0 = 4) : ∀ (S : xSt) (x1 : Int) (x2 : Int) (s0 : Int) (s1 : Int), f_X12_marks_p4_0_b136 r0 S x1 x2 s0 s1 = some (v, S') → WG K E 136 [(0, vr E r0 0), (1, vi x1), (2, vi x2)] [vi s0, vi s1, vr E r0 6] S := by
  intro S x1 x2 s0 s1 h
  unfold f_X12_marks_p4_0_b136 at h
  obtain ⟨hi8, h⟩ := ckI_i h
  obtain ⟨S9, hS9, h⟩ := lt1_i h
  refine g_iast hC hk0 ly4_6 hi8 rfl hS9 (rfl : 136 + 1 = 137) (xdt tt_X12_marks 84 rfl) ?_
  refine g_aload_n hC rfl 0 rfl (rfl : 137 + 1 = 138) (xdt tt_X12_marks 85 rfl) ?_
  refine g_getP hC hk0 kclX12 ly4_0 10 (by decide) (rfl : r0 + 0 = r0) rfl q201 (rfl : 138 + 3 = 141) (xdt tt_X12_marks 86 rfl) ?_
  refine g_bipush hC (by decide) (rfl : 141 + 2 = 143) (xdt tt_X12_marks 87 rfl) ?_
  refine g_aload_n hC rfl 0 rfl (rfl : 143 + 1 = 144) (xdt tt_X12_marks 88 rfl) ?_
  refine g_getP hC hk0 kclX12 ly4_0 10 (by decide) (rfl : r0 + 0 = r0) rfl q201 (rfl : 144 + 3 = 147) (xdt tt_X12_marks 89 rfl) ?_
  refine g_bipush hC (by decide) (rfl : 147 + 2 = 149) (xdt tt_X12_marks 90 rfl) ?_
  refine g_iald hC hk0 ly4_6 (by decide) (rfl : 149 + 1 = 150) (xdt tt_X12_marks 91 rfl) (k0 := 42) (by decide) ?_
  refine g_iconst hC (rfl : 150 + 1 = 151) (xdt tt_X12_marks 92 rfl) ?_
  refine g_iadd hC (rfl : 151 + 1 = 152) (xdt tt_X12_marks 93 rfl) ?_
  obtain ⟨S10, hS10, h⟩ := lt1_i h
  refine g_iast hC hk0 ly4_6 (by decide) (by decide) hS10 (rfl : 152 + 1 = 153) (xdt tt_X12_marks 94 rfl) ?_
  refine g_aload_n hC rfl 0 rfl (rfl : 153 + 1 = 154) (xdt tt_X12_marks 95 rfl) ?_
  refine g_getP hC hk0 kclX12 ly4_0 10 (by decide) (rfl : r0 + 0 = r0) rfl q201 (rfl : 154 + 3 = 157) (xdt tt_X12_marks 96 rfl) ?_
  refine g_iconst hC (rfl : 157 + 1 = 158) (xdt tt_X12_marks 97 rfl) ?_
  refine g_iload_n hC rfl 1 rfl (rfl : 158 + 1 = 159) (xdt tt_X12_marks 98 rfl) ?_
  refine g_iconst hC (rfl : 159 + 1 = 160) (xdt tt_X12_marks 99 rfl) ?_
  refine g_iadd hC (rfl : 160 + 1 = 161) (xdt tt_X12_marks 100 rfl) ?_
  obtain ⟨S11, hS11, h⟩ := lt1_i h
  refine g_iast hC hk0 ly4_6 (by decide) (by decide) hS11 (rfl : 161 + 1 = 162) (xdt tt_X12_marks 101 rfl) ?_
  refine g_aload_n hC rfl 0 rfl (rfl : 162 + 1 = 163) (xdt tt_X12_marks 102 rfl) ?_
  refine g_getP hC hk0 kclX12 ly4_0 6 (by decide) (rfl : r0 + 0 = r0) rfl q197 (rfl : 163 + 3 = 166) (xdt tt_X12_marks 103 rfl) ?_
  refine g_iload_n hC rfl 1 rfl (rfl : 166 + 1 = 167) (xdt tt_X12_marks 104 rfl) ?_
  obtain ⟨hi12, h⟩ := ckI_i h
  refine g_iald hC hk0 ly4_2 hi12 (rfl : 167 + 1 = 168) (xdt tt_X12_marks 105 rfl) (k0 := (wr x1).toNat) rfl ?_
  refine g_iconst hC (rfl : 168 + 1 = 169) (xdt tt_X12_marks 106 rfl) ?_
  refine g_icmp_ne hC (show ((169 : Nat) : Int) + 11 = ((180 : Nat) : Int) by decide) (rfl : 169 + 3 = 172) (xdt tt_X12_marks 107 rfl) (fun hc21 => ?_) (fun hc21 => ?_)
  · replace h := (if_pos hc21).symm.trans h
    refine g_sub [0, 1, 2] (lv' := [(0, vr E r0 0), (1, vi x1), (2, vi x2)]) rfl ?_
    exact k_X12_marks_p4_0_b180 hC hZ hE hk0 _ _ _ h
  · replace h := (if_neg hc21).symm.trans h
    refine g_aload_n hC rfl 0 rfl (rfl : 172 + 1 = 173) (xdt tt_X12_marks 108 rfl) ?_
    refine g_getP hC hk0 kclX12 ly4_0 10 (by decide) (rfl : r0 + 0 = r0) rfl q201 (rfl : 173 + 3 = 176) (xdt tt_X12_marks 109 rfl) ?_
    refine g_bipush hC (by decide) (rfl : 176 + 2 = 178) (xdt tt_X12_marks 110 rfl) ?_
    refine g_iconst hC (rfl : 178 + 1 = 179) (xdt tt_X12_marks 111 rfl) ?_
    obtain ⟨S20, hS20, h⟩ := lt1_i h
    refine g_iast hC hk0 ly4_6 (by decide) (by decide) hS20 (rfl : 179 + 1 = 180) (xdt tt_X12_marks 112 rfl) ?_
    refine g_sub [0, 1, 2] (lv' := [(0, vr E r0 0), (1, vi x1), (2, vi x2)]) rfl ?_
    exact k_X12_marks_p4_0_b180 hC hZ hE hk0 _ _ _ h
set_option maxRecDepth 100000 in
set_option maxHeartbeats 4000000 in
theorem c_X12_marks_p4_0 (l : Launch) {E : xE} {S S' : xSt} {r0 : Nat} (hk0 : xkd E r0 = 4) {v : Int} (h : f_X12_marks_p4_0 S r0 = some (v, S')) : Met l yX12_marks (xws yX12_marks cX12_marks 3 (some .boolean)) (rmD 2) (YPc E [vr E r0 0] S) (YQz E v S') 0 0 (xA E) := by
  unfold f_X12_marks_p4_0 at h
  refine met_z (by decide +kernel) (Nat.le_of_ble_eq_true rfl) (fun K hC hZ hE => ?_)
  have hC : xOK K cX12_marks RX12 3 (rmE 2 0) := hC
  show WG K E 0 [(0, vr E r0 0)] [] S
  refine g_aload_n hC rfl 0 rfl (rfl : 0 + 1 = 1) (xdt tt_X12_marks 0 rfl) ?_
  refine g_getP hC hk0 kclX12 ly4_0 10 (by decide) (rfl : r0 + 0 = r0) rfl q201 (rfl : 1 + 3 = 4) (xdt tt_X12_marks 1 rfl) ?_
  refine g_iconst hC (rfl : 4 + 1 = 5) (xdt tt_X12_marks 2 rfl) ?_
  refine g_iald hC hk0 ly4_6 (by decide) (rfl : 5 + 1 = 6) (xdt tt_X12_marks 3 rfl) (k0 := 3) (by decide) ?_
  refine g_istore_n hC rfl (by decide) (lv' := [(1, vi (gI S r0 6 3)), (0, vr E r0 0)]) rfl (rfl : 6 + 1 = 7) (xdt tt_X12_marks 4 rfl) ?_
  refine g_iload_n hC rfl 0 rfl (rfl : 7 + 1 = 8) (xdt tt_X12_marks 5 rfl) ?_
  refine g_aload_n hC rfl 1 rfl (rfl : 8 + 1 = 9) (xdt tt_X12_marks 6 rfl) ?_
  refine g_getI hC hk0 kclX12 ly4_0 1 (by decide) rfl q228 (rfl : 9 + 3 = 12) (xdt tt_X12_marks 7 rfl) ?_
  refine g_icmp_eq hC (show ((12 : Nat) : Int) + 17 = ((29 : Nat) : Int) by decide) (rfl : 12 + 3 = 15) (xdt tt_X12_marks 8 rfl) (fun hc29 => ?_) (fun hc29 => ?_)
  · replace h := (if_pos hc29).symm.trans h
    refine g_iconst hC (rfl : 29 + 1 = 30) (xdt tt_X12_marks 16 rfl) ?_
    cases h
    exact g_zret hC hE (Or.inl rfl) (xdt tt_X12_marks 17 rfl)
  · replace h := (if_neg hc29).symm.trans h
    refine g_aload_n hC rfl 1 rfl (rfl : 15 + 1 = 16) (xdt tt_X12_marks 9 rfl) ?_
    refine g_getP hC hk0 kclX12 ly4_0 10 (by decide) (rfl : r0 + 0 = r0) rfl q201 (rfl : 16 + 3 = 19) (xdt tt_X12_marks 10 rfl) ?_
    refine g_bipush hC (by decide) (rfl : 19 + 2 = 21) (xdt tt_X12_marks 11 rfl) ?_
    refine g_iald hC hk0 ly4_6 (by decide) (rfl : 21 + 1 = 22) (xdt tt_X12_marks 12 rfl) (k0 := 42) (by decide) ?_
    refine g_aload_n hC rfl 1 rfl (rfl : 22 + 1 = 23) (xdt tt_X12_marks 13 rfl) ?_
    refine g_getI hC hk0 kclX12 ly4_0 3 (by decide) rfl q230 (rfl : 23 + 3 = 26) (xdt tt_X12_marks 14 rfl) ?_
    refine g_icmp_ne hC (show ((26 : Nat) : Int) + 5 = ((31 : Nat) : Int) by decide) (rfl : 26 + 3 = 29) (xdt tt_X12_marks 15 rfl) (fun hc28 => ?_) (fun hc28 => ?_)
    · replace h := (if_pos hc28).symm.trans h
      refine g_aload_n hC rfl 1 rfl (rfl : 31 + 1 = 32) (xdt tt_X12_marks 18 rfl) ?_
      refine g_getP hC hk0 kclX12 ly4_0 9 (by decide) (rfl : r0 + 0 = r0) rfl q200 (rfl : 32 + 3 = 35) (xdt tt_X12_marks 19 rfl) ?_
      refine g_iload_n hC rfl 0 rfl (rfl : 35 + 1 = 36) (xdt tt_X12_marks 20 rfl) ?_
      refine g_iconst hC (rfl : 36 + 1 = 37) (xdt tt_X12_marks 21 rfl) ?_
      refine g_iadd hC (rfl : 37 + 1 = 38) (xdt tt_X12_marks 22 rfl) ?_
      obtain ⟨hi1, h⟩ := ckI_i h
      refine g_iald hC hk0 ly4_5 hi1 (rfl : 38 + 1 = 39) (xdt tt_X12_marks 23 rfl) (k0 := (wr ((gI S r0 6 3) + 1)).toNat) rfl ?_
      refine g_aload_n hC rfl 1 rfl (rfl : 39 + 1 = 40) (xdt tt_X12_marks 24 rfl) ?_
      refine g_getP hC hk0 kclX12 ly4_0 10 (by decide) (rfl : r0 + 0 = r0) rfl q201 (rfl : 40 + 3 = 43) (xdt tt_X12_marks 25 rfl) ?_
      refine g_iconst hC (rfl : 43 + 1 = 44) (xdt tt_X12_marks 26 rfl) ?_
      refine g_iald hC hk0 ly4_6 (by decide) (rfl : 44 + 1 = 45) (xdt tt_X12_marks 27 rfl) (k0 := 5) (by decide) ?_
      refine g_icmp_le hC (show ((45 : Nat) : Int) + 46 = ((91 : Nat) : Int) by decide) (rfl : 45 + 3 = 48) (xdt tt_X12_marks 28 rfl) (fun hc27 => ?_) (fun hc27 => ?_)
      · replace h := (if_pos hc27).symm.trans h
        refine g_aload_n hC rfl 1 rfl (rfl : 91 + 1 = 92) (xdt tt_X12_marks 57 rfl) ?_
        refine g_iload_n hC rfl 0 rfl (rfl : 92 + 1 = 93) (xdt tt_X12_marks 58 rfl) ?_
        obtain ⟨v4, S3, hc2, h⟩ := bd2_i h
        refine g_callVz hC hZ hk0 kclX12 ly4_0 m_X12_predicts q668 (Nat.le_of_ble_eq_true rfl) [vi (gI S r0 6 3)] rfl (fun l => c_X12_predicts_p4_0 l hk0 hc2) rfl (Nat.le_of_ble_eq_true rfl) (rfl : 93 + 3 = 96) (xdt tt_X12_marks 59 rfl) (fun hb5 => ?_)
        refine g_istore_n hC rfl (by decide) (lv' := [(2, vi v4), (1, vi (gI S r0 6 3)), (0, vr E r0 0)]) rfl (rfl : 96 + 1 = 97) (xdt tt_X12_marks 60 rfl) ?_
        refine g_aload_n hC rfl 2 rfl (rfl : 97 + 1 = 98) (xdt tt_X12_marks 61 rfl) ?_
        refine g_getP hC hk0 kclX12 ly4_0 10 (by decide) (rfl : r0 + 0 = r0) rfl q201 (rfl : 98 + 3 = 101) (xdt tt_X12_marks 62 rfl) ?_
        refine g_bipush hC (by decide) (rfl : 101 + 2 = 103) (xdt tt_X12_marks 63 rfl) ?_
        refine g_aload_n hC rfl 2 rfl (rfl : 103 + 1 = 104) (xdt tt_X12_marks 64 rfl) ?_
        refine g_getP hC hk0 kclX12 ly4_0 10 (by decide) (rfl : r0 + 0 = r0) rfl q201 (rfl : 104 + 3 = 107) (xdt tt_X12_marks 65 rfl) ?_
        refine g_bipush hC (by decide) (rfl : 107 + 2 = 109) (xdt tt_X12_marks 66 rfl) ?_
        refine g_iald hC hk0 ly4_6 (by decide) (rfl : 109 + 1 = 110) (xdt tt_X12_marks 67 rfl) (k0 := 42) (by decide) ?_
        refine g_iadd hC (rfl : 110 + 1 = 111) (xdt tt_X12_marks 68 rfl) ?_
        refine g_iload_n hC rfl 1 rfl (rfl : 111 + 1 = 112) (xdt tt_X12_marks 69 rfl) ?_
        obtain ⟨hi6, h⟩ := ckI_i h
        obtain ⟨S7, hS7, h⟩ := lt1_i h
        refine g_iast hC hk0 ly4_6 hi6 rfl hS7 (rfl : 112 + 1 = 113) (xdt tt_X12_marks 70 rfl) ?_
        refine g_aload_n hC rfl 2 rfl (rfl : 113 + 1 = 114) (xdt tt_X12_marks 71 rfl) ?_
        refine g_getP hC hk0 kclX12 ly4_0 10 (by decide) (rfl : r0 + 0 = r0) rfl q201 (rfl : 114 + 3 = 117) (xdt tt_X12_marks 72 rfl) ?_
        refine g_bipush hC (by decide) (rfl : 117 + 2 = 119) (xdt tt_X12_marks 73 rfl) ?_
        refine g_aload_n hC rfl 2 rfl (rfl : 119 + 1 = 120) (xdt tt_X12_marks 74 rfl) ?_
        refine g_getP hC hk0 kclX12 ly4_0 10 (by decide) (rfl : r0 + 0 = r0) rfl q201 (rfl : 120 + 3 = 123) (xdt tt_X12_marks 75 rfl) ?_
        refine g_bipush hC (by decide) (rfl : 123 + 2 = 125) (xdt tt_X12_marks 76 rfl) ?_
        refine g_iald hC hk0 ly4_6 (by decide) (rfl : 125 + 1 = 126) (xdt tt_X12_marks 77 rfl) (k0 := 42) (by decide) ?_
        refine g_iadd hC (rfl : 126 + 1 = 127) (xdt tt_X12_marks 78 rfl) ?_
        refine g_iload_n hC rfl 0 rfl (rfl : 127 + 1 = 128) (xdt tt_X12_marks 79 rfl) ?_
        refine g_if_eq hC (show ((128 : Nat) : Int) + 7 = ((135 : Nat) : Int) by decide) (rfl : 128 + 3 = 131) (xdt tt_X12_marks 80 rfl) (fun hc22 => ?_) (fun hc22 => ?_)
        · replace h := (if_pos hc22).symm.trans h
          refine g_iconst hC (rfl : 135 + 1 = 136) (xdt tt_X12_marks 83 rfl) ?_
          refine g_sub [2, 1, 0] (lv' := [(0, vr E r0 0), (1, vi (gI S r0 6 3)), (2, vi v4)]) rfl ?_
          exact k_X12_marks_p4_0_b136 hC hZ hE hk0 _ _ _ _ _ h
        · replace h := (if_neg hc22).symm.trans h
          refine g_iconst hC (rfl : 131 + 1 = 132) (xdt tt_X12_marks 81 rfl) ?_
          refine g_goto hC (show ((132 : Nat) : Int) + 4 = ((136 : Nat) : Int) by decide) (xdt tt_X12_marks 82 rfl) ?_
          refine g_sub [2, 1, 0] (lv' := [(0, vr E r0 0), (1, vi (gI S r0 6 3)), (2, vi v4)]) rfl ?_
          exact k_X12_marks_p4_0_b136 hC hZ hE hk0 _ _ _ _ _ h
      · replace h := (if_neg hc27).symm.trans h
        refine g_aload_n hC rfl 1 rfl (rfl : 48 + 1 = 49) (xdt tt_X12_marks 29 rfl) ?_
        refine g_getP hC hk0 kclX12 ly4_0 9 (by decide) (rfl : r0 + 0 = r0) rfl q200 (rfl : 49 + 3 = 52) (xdt tt_X12_marks 30 rfl) ?_
        refine g_iload_n hC rfl 0 rfl (rfl : 52 + 1 = 53) (xdt tt_X12_marks 31 rfl) ?_
        obtain ⟨hi23, h⟩ := ckI_i h
        refine g_iald hC hk0 ly4_5 hi23 (rfl : 53 + 1 = 54) (xdt tt_X12_marks 32 rfl) (k0 := (wr (gI S r0 6 3)).toNat) rfl ?_
        refine g_aload_n hC rfl 1 rfl (rfl : 54 + 1 = 55) (xdt tt_X12_marks 33 rfl) ?_
        refine g_getP hC hk0 kclX12 ly4_0 10 (by decide) (rfl : r0 + 0 = r0) rfl q201 (rfl : 55 + 3 = 58) (xdt tt_X12_marks 34 rfl) ?_
        refine g_iconst hC (rfl : 58 + 1 = 59) (xdt tt_X12_marks 35 rfl) ?_
        refine g_iald hC hk0 ly4_6 (by decide) (rfl : 59 + 1 = 60) (xdt tt_X12_marks 36 rfl) (k0 := 5) (by decide) ?_
        refine g_icmp_lt hC (show ((60 : Nat) : Int) + 5 = ((65 : Nat) : Int) by decide) (rfl : 60 + 3 = 63) (xdt tt_X12_marks 37 rfl) (fun hc26 => ?_) (fun hc26 => ?_)
        · replace h := (if_pos hc26).symm.trans h
          refine g_aload_n hC rfl 1 rfl (rfl : 65 + 1 = 66) (xdt tt_X12_marks 40 rfl) ?_
          refine g_getP hC hk0 kclX12 ly4_0 10 (by decide) (rfl : r0 + 0 = r0) rfl q201 (rfl : 66 + 3 = 69) (xdt tt_X12_marks 41 rfl) ?_
          refine g_bipush hC (by decide) (rfl : 69 + 2 = 71) (xdt tt_X12_marks 42 rfl) ?_
          refine g_iconst hC (rfl : 71 + 1 = 72) (xdt tt_X12_marks 43 rfl) ?_
          obtain ⟨S24, hS24, h⟩ := lt1_i h
          refine g_iast hC hk0 ly4_6 (by decide) (by decide) hS24 (rfl : 72 + 1 = 73) (xdt tt_X12_marks 44 rfl) ?_
          refine g_aload_n hC rfl 1 rfl (rfl : 73 + 1 = 74) (xdt tt_X12_marks 45 rfl) ?_
          refine g_getP hC hk0 kclX12 ly4_0 10 (by decide) (rfl : r0 + 0 = r0) rfl q201 (rfl : 74 + 3 = 77) (xdt tt_X12_marks 46 rfl) ?_
          refine g_bipush hC (by decide) (rfl : 77 + 2 = 79) (xdt tt_X12_marks 47 rfl) ?_
          refine g_aload_n hC rfl 1 rfl (rfl : 79 + 1 = 80) (xdt tt_X12_marks 48 rfl) ?_
          refine g_getP hC hk0 kclX12 ly4_0 10 (by decide) (rfl : r0 + 0 = r0) rfl q201 (rfl : 80 + 3 = 83) (xdt tt_X12_marks 49 rfl) ?_
          refine g_bipush hC (by decide) (rfl : 83 + 2 = 85) (xdt tt_X12_marks 50 rfl) ?_
          refine g_iald hC hk0 ly4_6 (by decide) (rfl : 85 + 1 = 86) (xdt tt_X12_marks 51 rfl) (k0 := 21) (by decide) ?_
          refine g_iconst hC (rfl : 86 + 1 = 87) (xdt tt_X12_marks 52 rfl) ?_
          refine g_iadd hC (rfl : 87 + 1 = 88) (xdt tt_X12_marks 53 rfl) ?_
          obtain ⟨S25, hS25, h⟩ := lt1_i h
          refine g_iast hC hk0 ly4_6 (by decide) (by decide) hS25 (rfl : 88 + 1 = 89) (xdt tt_X12_marks 54 rfl) ?_
          refine g_iconst hC (rfl : 89 + 1 = 90) (xdt tt_X12_marks 55 rfl) ?_
          cases h
          exact g_zret hC hE (Or.inl rfl) (xdt tt_X12_marks 56 rfl)
        · replace h := (if_neg hc26).symm.trans h
          refine g_iconst hC (rfl : 63 + 1 = 64) (xdt tt_X12_marks 38 rfl) ?_
          cases h
          exact g_zret hC hE (Or.inl rfl) (xdt tt_X12_marks 39 rfl)
    · replace h := (if_neg hc28).symm.trans h
      refine g_iconst hC (rfl : 29 + 1 = 30) (xdt tt_X12_marks 16 rfl) ?_
      cases h
      exact g_zret hC hE (Or.inl rfl) (xdt tt_X12_marks 17 rfl)
def f_X12_fetches_p4_0_b54 (r0 : Nat) : Nat → xSt → Int → Option (xSt)
  | 0, _, _ => none
  | fuel + 1, S, x1 =>
    if wr x1 = 0 then
      (some S)
    else
      (bd2 (f_X12_marks_p4_0 S r0) fun v9 S8 =>
      (f_X12_fetches_p4_0_b54 r0 fuel) S8 v9)
def f_X12_fetches_p4_0 (S : xSt) (r0 : Nat) : Option (xSt) :=
  bd2 (f_X12_isReplayed_p4_0 S r0) fun v3 S2 =>
  if ¬ wr v3 = 0 then
    (some S2)
  else
    (if ¬ wr (gI S2 r0 6 3) = wr (gI S2 r0 0 1) then
      (if wr (gI S2 r0 6 9) ≤ 0 then
        (bd (f_X12_reads_p4_0 S2 r0) fun S6 =>
        f_X12_fetches_p4_0_b54 r0 (fu S6) S6 1)
      else
        (lt1 (wI S2 r0 6 9 ((gI S2 r0 6 9) - 1)) fun S12 =>
        some S12))
    else
      (some S2))
set_option maxRecDepth 100000 in
set_option maxHeartbeats 4000000 in
theorem k_X12_fetches_p4_0_b54 {K : xCtx} {E : xE} {b : Nat} (hC : xOK K cX12_fetches RX12 2 (rmE 3 b)) (hZ : xZ K) {S' : xSt} (hE : xEnd K E none (YQv E S')) {r0 : Nat} (hk0 : xkd E r0 = 4) : ∀ (fuel : Nat) (S : xSt) (x1 : Int), f_X12_fetches_p4_0_b54 r0 fuel S x1 = some S' → WG K E 54 [(0, vr E r0 0), (1, vi x1)] [] S := by
  intro fuel
  induction fuel with
  | zero => intro S x1 h; cases h
  | succ fuel ih =>
    intro S x1 h
    rw [f_X12_fetches_p4_0_b54] at h
    refine g_iload_n hC rfl 1 rfl (rfl : 54 + 1 = 55) (xdt tt_X12_fetches 31 rfl) ?_
    refine g_if_eq hC (show ((55 : Nat) : Int) + 11 = ((66 : Nat) : Int) by decide) (rfl : 55 + 3 = 58) (xdt tt_X12_fetches 32 rfl) (fun hc11 => ?_) (fun hc11 => ?_)
    · replace h := (if_pos hc11).symm.trans h
      cases h
      exact g_vret hC hE (xdt tt_X12_fetches 37 rfl)
    · replace h := (if_neg hc11).symm.trans h
      refine g_aload_n hC rfl 0 rfl (rfl : 58 + 1 = 59) (xdt tt_X12_fetches 33 rfl) ?_
      obtain ⟨v9, S8, hc7, h⟩ := bd2_i h
      refine g_callVz hC hZ hk0 kclX12 ly4_0 m_X12_marks q1226 (Nat.le_of_ble_eq_true rfl) [] rfl (fun l => c_X12_marks_p4_0 l hk0 hc7) rfl (Nat.le_of_ble_eq_true rfl) (rfl : 59 + 3 = 62) (xdt tt_X12_fetches 34 rfl) (fun hb10 => ?_)
      refine g_istore_n hC rfl (by decide) (lv' := [(1, vi v9), (0, vr E r0 0)]) rfl (rfl : 62 + 1 = 63) (xdt tt_X12_fetches 35 rfl) ?_
      refine g_goto hC (show ((63 : Nat) : Int) + (-9) = ((54 : Nat) : Int) by decide) (xdt tt_X12_fetches 36 rfl) ?_
      refine g_sub [1, 0] (lv' := [(0, vr E r0 0), (1, vi v9)]) rfl ?_
      exact ih _ _ h
set_option maxRecDepth 100000 in
set_option maxHeartbeats 4000000 in
theorem c_X12_fetches_p4_0 (l : Launch) {E : xE} {S S' : xSt} {r0 : Nat} (hk0 : xkd E r0 = 4) (h : f_X12_fetches_p4_0 S r0 = some S') : Met l yX12_fetches (xws yX12_fetches cX12_fetches 2 none) (rmD 3) (YPc E [vr E r0 0] S) (YQv E S') 0 0 (xA E) := by
  unfold f_X12_fetches_p4_0 at h
  refine met_v (by decide +kernel) (Nat.le_of_ble_eq_true rfl) (fun K hC hZ hE => ?_)
  have hC : xOK K cX12_fetches RX12 2 (rmE 3 0) := hC
  show WG K E 0 [(0, vr E r0 0)] [] S
  refine g_aload_n hC rfl 0 rfl (rfl : 0 + 1 = 1) (xdt tt_X12_fetches 0 rfl) ?_
  obtain ⟨v3, S2, hc1, h⟩ := bd2_i h
  refine g_callVz hC hZ hk0 kclX12 ly4_0 m_X12_isReplayed q844 (Nat.le_of_ble_eq_true rfl) [] rfl (fun l => c_X12_isReplayed_p4_0 l hk0 hc1) rfl (Nat.le_of_ble_eq_true rfl) (rfl : 1 + 3 = 4) (xdt tt_X12_fetches 1 rfl) (fun hb4 => ?_)
  refine g_if_ne hC (show ((4 : Nat) : Int) + 16 = ((20 : Nat) : Int) by decide) (rfl : 4 + 3 = 7) (xdt tt_X12_fetches 2 rfl) (fun hc15 => ?_) (fun hc15 => ?_)
  · replace h := (if_pos hc15).symm.trans h
    cases h
    exact g_vret hC hE (xdt tt_X12_fetches 10 rfl)
  · replace h := (if_neg hc15).symm.trans h
    refine g_aload_n hC rfl 0 rfl (rfl : 7 + 1 = 8) (xdt tt_X12_fetches 3 rfl) ?_
    refine g_getP hC hk0 kclX12 ly4_0 10 (by decide) (rfl : r0 + 0 = r0) rfl q201 (rfl : 8 + 3 = 11) (xdt tt_X12_fetches 4 rfl) ?_
    refine g_iconst hC (rfl : 11 + 1 = 12) (xdt tt_X12_fetches 5 rfl) ?_
    refine g_iald hC hk0 ly4_6 (by decide) (rfl : 12 + 1 = 13) (xdt tt_X12_fetches 6 rfl) (k0 := 3) (by decide) ?_
    refine g_aload_n hC rfl 0 rfl (rfl : 13 + 1 = 14) (xdt tt_X12_fetches 7 rfl) ?_
    refine g_getI hC hk0 kclX12 ly4_0 1 (by decide) rfl q228 (rfl : 14 + 3 = 17) (xdt tt_X12_fetches 8 rfl) ?_
    refine g_icmp_ne hC (show ((17 : Nat) : Int) + 4 = ((21 : Nat) : Int) by decide) (rfl : 17 + 3 = 20) (xdt tt_X12_fetches 9 rfl) (fun hc14 => ?_) (fun hc14 => ?_)
    · replace h := (if_pos hc14).symm.trans h
      refine g_aload_n hC rfl 0 rfl (rfl : 21 + 1 = 22) (xdt tt_X12_fetches 11 rfl) ?_
      refine g_getP hC hk0 kclX12 ly4_0 10 (by decide) (rfl : r0 + 0 = r0) rfl q201 (rfl : 22 + 3 = 25) (xdt tt_X12_fetches 12 rfl) ?_
      refine g_bipush hC (by decide) (rfl : 25 + 2 = 27) (xdt tt_X12_fetches 13 rfl) ?_
      refine g_iald hC hk0 ly4_6 (by decide) (rfl : 27 + 1 = 28) (xdt tt_X12_fetches 14 rfl) (k0 := 9) (by decide) ?_
      refine g_if_le hC (show ((28 : Nat) : Int) + 20 = ((48 : Nat) : Int) by decide) (rfl : 28 + 3 = 31) (xdt tt_X12_fetches 15 rfl) (fun hc13 => ?_) (fun hc13 => ?_)
      · replace h := (if_pos hc13).symm.trans h
        refine g_aload_n hC rfl 0 rfl (rfl : 48 + 1 = 49) (xdt tt_X12_fetches 27 rfl) ?_
        obtain ⟨S6, hc5, h⟩ := bd_i h
        refine g_callVv hC hZ hk0 kclX12 ly4_0 m_X12_reads q1222 (Nat.le_of_ble_eq_true rfl) [] rfl (fun l => c_X12_reads_p4_0 l hk0 hc5) rfl (Nat.le_of_ble_eq_true rfl) (rfl : 49 + 3 = 52) (xdt tt_X12_fetches 28 rfl) ?_
        refine g_iconst hC (rfl : 52 + 1 = 53) (xdt tt_X12_fetches 29 rfl) ?_
        refine g_istore_n hC rfl (by decide) (lv' := [(1, vi 1), (0, vr E r0 0)]) rfl (rfl : 53 + 1 = 54) (xdt tt_X12_fetches 30 rfl) ?_
        refine g_sub [1, 0] (lv' := [(0, vr E r0 0), (1, vi 1)]) rfl ?_
        exact k_X12_fetches_p4_0_b54 hC hZ hE hk0 _ _ _ h
      · replace h := (if_neg hc13).symm.trans h
        refine g_aload_n hC rfl 0 rfl (rfl : 31 + 1 = 32) (xdt tt_X12_fetches 16 rfl) ?_
        refine g_getP hC hk0 kclX12 ly4_0 10 (by decide) (rfl : r0 + 0 = r0) rfl q201 (rfl : 32 + 3 = 35) (xdt tt_X12_fetches 17 rfl) ?_
        refine g_bipush hC (by decide) (rfl : 35 + 2 = 37) (xdt tt_X12_fetches 18 rfl) ?_
        refine g_aload_n hC rfl 0 rfl (rfl : 37 + 1 = 38) (xdt tt_X12_fetches 19 rfl) ?_
        refine g_getP hC hk0 kclX12 ly4_0 10 (by decide) (rfl : r0 + 0 = r0) rfl q201 (rfl : 38 + 3 = 41) (xdt tt_X12_fetches 20 rfl) ?_
        refine g_bipush hC (by decide) (rfl : 41 + 2 = 43) (xdt tt_X12_fetches 21 rfl) ?_
        refine g_iald hC hk0 ly4_6 (by decide) (rfl : 43 + 1 = 44) (xdt tt_X12_fetches 22 rfl) (k0 := 9) (by decide) ?_
        refine g_iconst hC (rfl : 44 + 1 = 45) (xdt tt_X12_fetches 23 rfl) ?_
        refine g_isub hC (rfl : 45 + 1 = 46) (xdt tt_X12_fetches 24 rfl) ?_
        obtain ⟨S12, hS12, h⟩ := lt1_i h
        refine g_iast hC hk0 ly4_6 (by decide) (by decide) hS12 (rfl : 46 + 1 = 47) (xdt tt_X12_fetches 25 rfl) ?_
        cases h
        exact g_vret hC hE (xdt tt_X12_fetches 26 rfl)
    · replace h := (if_neg hc14).symm.trans h
      cases h
      exact g_vret hC hE (xdt tt_X12_fetches 10 rfl)
def f_X12_cycles_p4_0 (S : xSt) (r0 : Nat) : Option (xSt) :=
  bd (f_X12_takesAway_p4_0 S r0) fun S2 =>
  bd (f_X12_decodes_p4_0 S2 r0) fun S4 =>
  bd (f_X12_fetches_p4_0 S4 r0) fun S6 =>
  lt1 (wI S6 r0 6 16 ((gI S6 r0 6 16) + 1)) fun S7 =>
  some S7
set_option maxRecDepth 100000 in
set_option maxHeartbeats 4000000 in
theorem c_X12_cycles_p4_0 (l : Launch) {E : xE} {S S' : xSt} {r0 : Nat} (hk0 : xkd E r0 = 4) (h : f_X12_cycles_p4_0 S r0 = some S') : Met l yX12_cycles (xws yX12_cycles cX12_cycles 1 none) (rmD 7) (YPc E [vr E r0 0] S) (YQv E S') 0 0 (xA E) := by
  unfold f_X12_cycles_p4_0 at h
  refine met_v (by decide +kernel) (Nat.le_of_ble_eq_true rfl) (fun K hC hZ hE => ?_)
  have hC : xOK K cX12_cycles RX12 1 (rmE 7 0) := hC
  show WG K E 0 [(0, vr E r0 0)] [] S
  refine g_aload_n hC rfl 0 rfl (rfl : 0 + 1 = 1) (xdt tt_X12_cycles 0 rfl) ?_
  obtain ⟨S2, hc1, h⟩ := bd_i h
  refine g_callVv hC hZ hk0 kclX12 ly4_0 m_X12_takesAway q1154 (Nat.le_of_ble_eq_true rfl) [] rfl (fun l => c_X12_takesAway_p4_0 l hk0 hc1) rfl (Nat.le_of_ble_eq_true rfl) (rfl : 1 + 3 = 4) (xdt tt_X12_cycles 1 rfl) ?_
  refine g_aload_n hC rfl 0 rfl (rfl : 4 + 1 = 5) (xdt tt_X12_cycles 2 rfl) ?_
  obtain ⟨S4, hc3, h⟩ := bd_i h
  refine g_callVv hC hZ hk0 kclX12 ly4_0 m_X12_decodes q1158 (Nat.le_of_ble_eq_true rfl) [] rfl (fun l => c_X12_decodes_p4_0 l hk0 hc3) rfl (Nat.le_of_ble_eq_true rfl) (rfl : 5 + 3 = 8) (xdt tt_X12_cycles 3 rfl) ?_
  refine g_aload_n hC rfl 0 rfl (rfl : 8 + 1 = 9) (xdt tt_X12_cycles 4 rfl) ?_
  obtain ⟨S6, hc5, h⟩ := bd_i h
  refine g_callVv hC hZ hk0 kclX12 ly4_0 m_X12_fetches q1218 (Nat.le_of_ble_eq_true rfl) [] rfl (fun l => c_X12_fetches_p4_0 l hk0 hc5) rfl (Nat.le_of_ble_eq_true rfl) (rfl : 9 + 3 = 12) (xdt tt_X12_cycles 5 rfl) ?_
  refine g_aload_n hC rfl 0 rfl (rfl : 12 + 1 = 13) (xdt tt_X12_cycles 6 rfl) ?_
  refine g_getP hC hk0 kclX12 ly4_0 10 (by decide) (rfl : r0 + 0 = r0) rfl q201 (rfl : 13 + 3 = 16) (xdt tt_X12_cycles 7 rfl) ?_
  refine g_bipush hC (by decide) (rfl : 16 + 2 = 18) (xdt tt_X12_cycles 8 rfl) ?_
  refine g_aload_n hC rfl 0 rfl (rfl : 18 + 1 = 19) (xdt tt_X12_cycles 9 rfl) ?_
  refine g_getP hC hk0 kclX12 ly4_0 10 (by decide) (rfl : r0 + 0 = r0) rfl q201 (rfl : 19 + 3 = 22) (xdt tt_X12_cycles 10 rfl) ?_
  refine g_bipush hC (by decide) (rfl : 22 + 2 = 24) (xdt tt_X12_cycles 11 rfl) ?_
  refine g_iald hC hk0 ly4_6 (by decide) (rfl : 24 + 1 = 25) (xdt tt_X12_cycles 12 rfl) (k0 := 16) (by decide) ?_
  refine g_iconst hC (rfl : 25 + 1 = 26) (xdt tt_X12_cycles 13 rfl) ?_
  refine g_iadd hC (rfl : 26 + 1 = 27) (xdt tt_X12_cycles 14 rfl) ?_
  obtain ⟨S7, hS7, h⟩ := lt1_i h
  refine g_iast hC hk0 ly4_6 (by decide) (by decide) hS7 (rfl : 27 + 1 = 28) (xdt tt_X12_cycles 15 rfl) ?_
  cases h
  exact g_vret hC hE (xdt tt_X12_cycles 16 rfl)
def f_X12_isIn (S : xSt) (a0 : Int) (a1 : Int) (a2 : Int) : Option (Int × xSt) :=
  if wr (iC (wl a0) (wl a1)) < 0 then
    (some (0, S))
  else
    (if 0 < wr (iC (wl a0) (wl a2)) then
      (some (0, S))
    else
      (some (1, S)))
set_option maxRecDepth 100000 in
set_option maxHeartbeats 4000000 in
theorem c_X12_isIn (l : Launch) {E : xE} {S S' : xSt} {a0 : Int} {a1 : Int} {a2 : Int} {v : Int} (h : f_X12_isIn S a0 a1 a2 = some (v, S')) : Met l yX12_isIn (xws yX12_isIn cX12_isIn 6 (some .boolean)) (rmD 1) (YPc E [vl a0, vl a1, vl a2] S) (YQz E v S') 0 0 (xA E) := by
  unfold f_X12_isIn at h
  refine met_z (by decide +kernel) (Nat.le_of_ble_eq_true rfl) (fun K hC hZ hE => ?_)
  have hC : xOK K cX12_isIn RX12 6 (rmE 1 0) := hC
  show WG K E 0 [(0, vl a0), (2, vl a1), (4, vl a2)] [] S
  refine g_lload_n hC rfl 0 rfl (rfl : 0 + 1 = 1) (xdt tt_X12_isIn 0 rfl) ?_
  refine g_lload_n hC rfl 1 rfl (rfl : 1 + 1 = 2) (xdt tt_X12_isIn 1 rfl) ?_
  refine g_lcmp hC (rfl : 2 + 1 = 3) (xdt tt_X12_isIn 2 rfl) ?_
  refine g_if_lt hC (show ((3 : Nat) : Int) + 14 = ((17 : Nat) : Int) by decide) (rfl : 3 + 3 = 6) (xdt tt_X12_isIn 3 rfl) (fun hc2 => ?_) (fun hc2 => ?_)
  · replace h := (if_pos hc2).symm.trans h
    refine g_iconst hC (rfl : 17 + 1 = 18) (xdt tt_X12_isIn 10 rfl) ?_
    cases h
    exact g_zret hC hE (Or.inl rfl) (xdt tt_X12_isIn 11 rfl)
  · replace h := (if_neg hc2).symm.trans h
    refine g_lload_n hC rfl 0 rfl (rfl : 6 + 1 = 7) (xdt tt_X12_isIn 4 rfl) ?_
    refine g_lload hC 2 rfl (rfl : 7 + 2 = 9) (xdt tt_X12_isIn 5 rfl) ?_
    refine g_lcmp hC (rfl : 9 + 1 = 10) (xdt tt_X12_isIn 6 rfl) ?_
    refine g_if_gt hC (show ((10 : Nat) : Int) + 7 = ((17 : Nat) : Int) by decide) (rfl : 10 + 3 = 13) (xdt tt_X12_isIn 7 rfl) (fun hc1 => ?_) (fun hc1 => ?_)
    · replace h := (if_pos hc1).symm.trans h
      refine g_iconst hC (rfl : 17 + 1 = 18) (xdt tt_X12_isIn 10 rfl) ?_
      cases h
      exact g_zret hC hE (Or.inl rfl) (xdt tt_X12_isIn 11 rfl)
    · replace h := (if_neg hc1).symm.trans h
      refine g_iconst hC (rfl : 13 + 1 = 14) (xdt tt_X12_isIn 8 rfl) ?_
      refine g_goto hC (show ((14 : Nat) : Int) + 4 = ((18 : Nat) : Int) by decide) (xdt tt_X12_isIn 9 rfl) ?_
      cases h
      exact g_zret hC hE (Or.inr rfl) (xdt tt_X12_isIn 11 rfl)
def f_X12_isCycles (S : xSt) (a0 : Int) : Option (Int × xSt) :=
  bd2 (f_X12_isIn S (wr a0) 1 500) fun v3 S2 =>
  some (v3, S2)
set_option maxRecDepth 100000 in
set_option maxHeartbeats 4000000 in
theorem c_X12_isCycles (l : Launch) {E : xE} {S S' : xSt} {a0 : Int} {v : Int} (h : f_X12_isCycles S a0 = some (v, S')) : Met l yX12_isCycles (xws yX12_isCycles cX12_isCycles 1 (some .boolean)) (rmD 2) (YPc E [vi a0] S) (YQz E v S') 0 0 (xA E) := by
  unfold f_X12_isCycles at h
  refine met_z (by decide +kernel) (Nat.le_of_ble_eq_true rfl) (fun K hC hZ hE => ?_)
  have hC : xOK K cX12_isCycles RX12 1 (rmE 2 0) := hC
  show WG K E 0 [(0, vi a0)] [] S
  refine g_iload_n hC rfl 0 rfl (rfl : 0 + 1 = 1) (xdt tt_X12_isCycles 0 rfl) ?_
  refine g_i2l hC (rfl : 1 + 1 = 2) (xdt tt_X12_isCycles 1 rfl) ?_
  refine g_lconst hC (z := 1) (by decide) (rfl : 2 + 1 = 3) (xdt tt_X12_isCycles 2 rfl) ?_
  refine g_ldc2 hC (z := 500) q1145 (rfl : 3 + 3 = 6) (xdt tt_X12_isCycles 3 rfl) ?_
  obtain ⟨v3, S2, hc1, h⟩ := bd2_i h
  refine g_callSz hC hZ m_X12_isIn q269 (Nat.le_of_ble_eq_true rfl) [vl (wr a0), vl 1, vl 500] rfl (fun l => c_X12_isIn l hc1) rfl (Nat.le_of_ble_eq_true rfl) (rfl : 6 + 3 = 9) (xdt tt_X12_isCycles 4 rfl) (fun hb4 => ?_)
  cases h
  exact g_zret hC hE hb4 (xdt tt_X12_isCycles 5 rfl)
def f_X12_run_p4_0_b27 (r0 : Nat) : Nat → xSt → Int → Int → Int → Option (Int × xSt)
  | 0, _, _, _, _ => none
  | fuel + 1, S, x1, x2, x3 =>
    if wr x1 ≤ wr x3 then
      (bd2 (f_X12_done_p4_0 S r0 ((gI S r0 6 17) - x2)) fun v13 S12 =>
      some (v13, S12))
    else
      (bd (f_X12_cycles_p4_0 S r0) fun S15 =>
      (f_X12_run_p4_0_b27 r0 fuel) S15 x1 x2 (x3 + 1))
def f_X12_run_p4_0 (S : xSt) (r0 : Nat) (a1 : Int) : Option (Int × xSt) :=
  bd2 (f_X12_isCycles S a1) fun v3 S2 =>
  bd2 (f_X12_is_p4_0 S2 r0 v3) fun v7 S6 =>
  if ¬ wr v7 = 0 then
    (bd (f_X12_starts_p4_0 S6 r0) fun S10 =>
    f_X12_run_p4_0_b27 r0 (fu S10) S10 a1 (gI S10 r0 6 17) 0)
  else
    (some (0, S6))
set_option maxRecDepth 100000 in
set_option maxHeartbeats 4000000 in
theorem k_X12_run_p4_0_b27 {K : xCtx} {E : xE} {b : Nat} (hC : xOK K cX12_run RX12 4 (rmE 8 b)) (hZ : xZ K) {v : Int} {S' : xSt} (hE : xEnd K E (some .int) (YQi E v S')) {r0 : Nat} (hk0 : xkd E r0 = 4) : ∀ (fuel : Nat) (S : xSt) (x1 : Int) (x2 : Int) (x3 : Int), f_X12_run_p4_0_b27 r0 fuel S x1 x2 x3 = some (v, S') → WG K E 27 [(0, vr E r0 0), (1, vi x1), (2, vi x2), (3, vi x3)] [] S := by
  intro fuel
  induction fuel with
  | zero => intro S x1 x2 x3 h; cases h
  | succ fuel ih =>
    intro S x1 x2 x3 h
    rw [f_X12_run_p4_0_b27] at h
    refine g_iload_n hC rfl 3 rfl (rfl : 27 + 1 = 28) (xdt tt_X12_run 16 rfl) ?_
    refine g_iload_n hC rfl 1 rfl (rfl : 28 + 1 = 29) (xdt tt_X12_run 17 rfl) ?_
    refine g_icmp_ge hC (show ((29 : Nat) : Int) + 13 = ((42 : Nat) : Int) by decide) (rfl : 29 + 3 = 32) (xdt tt_X12_run 18 rfl) (fun hc16 => ?_) (fun hc16 => ?_)
    · replace h := (if_pos hc16).symm.trans h
      refine g_aload_n hC rfl 0 rfl (rfl : 42 + 1 = 43) (xdt tt_X12_run 23 rfl) ?_
      refine g_aload_n hC rfl 0 rfl (rfl : 43 + 1 = 44) (xdt tt_X12_run 24 rfl) ?_
      refine g_getP hC hk0 kclX12 ly4_0 10 (by decide) (rfl : r0 + 0 = r0) rfl q201 (rfl : 44 + 3 = 47) (xdt tt_X12_run 25 rfl) ?_
      refine g_bipush hC (by decide) (rfl : 47 + 2 = 49) (xdt tt_X12_run 26 rfl) ?_
      refine g_iald hC hk0 ly4_6 (by decide) (rfl : 49 + 1 = 50) (xdt tt_X12_run 27 rfl) (k0 := 17) (by decide) ?_
      refine g_iload_n hC rfl 2 rfl (rfl : 50 + 1 = 51) (xdt tt_X12_run 28 rfl) ?_
      refine g_isub hC (rfl : 51 + 1 = 52) (xdt tt_X12_run 29 rfl) ?_
      obtain ⟨v13, S12, hc11, h⟩ := bd2_i h
      refine g_callVi hC hZ hk0 kclX12 ly4_0 m_X12_done q1230 (Nat.le_of_ble_eq_true rfl) [vi ((gI S r0 6 17) - x2)] rfl (fun l => c_X12_done_p4_0 l hk0 hc11) rfl (Nat.le_of_ble_eq_true rfl) (rfl : 52 + 3 = 55) (xdt tt_X12_run 30 rfl) ?_
      cases h
      exact g_iret hC hE (xdt tt_X12_run 31 rfl)
    · replace h := (if_neg hc16).symm.trans h
      refine g_aload_n hC rfl 0 rfl (rfl : 32 + 1 = 33) (xdt tt_X12_run 19 rfl) ?_
      obtain ⟨S15, hc14, h⟩ := bd_i h
      refine g_callVv hC hZ hk0 kclX12 ly4_0 m_X12_cycles q1150 (Nat.le_of_ble_eq_true rfl) [] rfl (fun l => c_X12_cycles_p4_0 l hk0 hc14) rfl (Nat.le_of_ble_eq_true rfl) (rfl : 33 + 3 = 36) (xdt tt_X12_run 20 rfl) ?_
      refine g_iinc hC 3 rfl (by decide) (lv' := [(3, vi (x3 + 1)), (0, vr E r0 0), (1, vi x1), (2, vi x2)]) rfl (rfl : 36 + 3 = 39) (xdt tt_X12_run 21 rfl) ?_
      refine g_goto hC (show ((39 : Nat) : Int) + (-12) = ((27 : Nat) : Int) by decide) (xdt tt_X12_run 22 rfl) ?_
      refine g_sub [1, 2, 3, 0] (lv' := [(0, vr E r0 0), (1, vi x1), (2, vi x2), (3, vi (x3 + 1))]) rfl ?_
      exact ih _ _ _ _ h
set_option maxRecDepth 100000 in
set_option maxHeartbeats 4000000 in
theorem c_X12_run_p4_0 (l : Launch) {E : xE} {S S' : xSt} {r0 : Nat} {a1 : Int} (hk0 : xkd E r0 = 4) {v : Int} (h : f_X12_run_p4_0 S r0 a1 = some (v, S')) : Met l yX12_run (xws yX12_run cX12_run 4 (some .int)) (rmD 8) (YPc E [vr E r0 0, vi a1] S) (YQi E v S') 0 0 (xA E) := by
  unfold f_X12_run_p4_0 at h
  refine met_i (by decide +kernel) (Nat.le_of_ble_eq_true rfl) (fun K hC hZ hE => ?_)
  have hC : xOK K cX12_run RX12 4 (rmE 8 0) := hC
  show WG K E 0 [(0, vr E r0 0), (1, vi a1)] [] S
  refine g_aload_n hC rfl 0 rfl (rfl : 0 + 1 = 1) (xdt tt_X12_run 0 rfl) ?_
  refine g_iload_n hC rfl 1 rfl (rfl : 1 + 1 = 2) (xdt tt_X12_run 1 rfl) ?_
  obtain ⟨v3, S2, hc1, h⟩ := bd2_i h
  refine g_callSz hC hZ m_X12_isCycles q1142 (Nat.le_of_ble_eq_true rfl) [vi a1] rfl (fun l => c_X12_isCycles l hc1) rfl (Nat.le_of_ble_eq_true rfl) (rfl : 2 + 3 = 5) (xdt tt_X12_run 2 rfl) (fun hb4 => ?_)
  obtain ⟨v7, S6, hc5, h⟩ := bd2_i h
  refine g_callVz hC hZ hk0 kclX12 ly4_0 m_X12_is q655 (Nat.le_of_ble_eq_true rfl) [vi v3] rfl (fun l => c_X12_is_p4_0 l hk0 hc5) rfl (Nat.le_of_ble_eq_true rfl) (rfl : 5 + 3 = 8) (xdt tt_X12_run 3 rfl) (fun hb8 => ?_)
  refine g_if_ne hC (show ((8 : Nat) : Int) + 5 = ((13 : Nat) : Int) by decide) (rfl : 8 + 3 = 11) (xdt tt_X12_run 4 rfl) (fun hc17 => ?_) (fun hc17 => ?_)
  · replace h := (if_pos hc17).symm.trans h
    refine g_aload_n hC rfl 0 rfl (rfl : 13 + 1 = 14) (xdt tt_X12_run 7 rfl) ?_
    obtain ⟨S10, hc9, h⟩ := bd_i h
    refine g_callVv hC hZ hk0 kclX12 ly4_0 m_X12_starts q1146 (Nat.le_of_ble_eq_true rfl) [] rfl (fun l => c_X12_starts_p4_0 l hk0 hc9) rfl (Nat.le_of_ble_eq_true rfl) (rfl : 14 + 3 = 17) (xdt tt_X12_run 8 rfl) ?_
    refine g_aload_n hC rfl 0 rfl (rfl : 17 + 1 = 18) (xdt tt_X12_run 9 rfl) ?_
    refine g_getP hC hk0 kclX12 ly4_0 10 (by decide) (rfl : r0 + 0 = r0) rfl q201 (rfl : 18 + 3 = 21) (xdt tt_X12_run 10 rfl) ?_
    refine g_bipush hC (by decide) (rfl : 21 + 2 = 23) (xdt tt_X12_run 11 rfl) ?_
    refine g_iald hC hk0 ly4_6 (by decide) (rfl : 23 + 1 = 24) (xdt tt_X12_run 12 rfl) (k0 := 17) (by decide) ?_
    refine g_istore_n hC rfl (by decide) (lv' := [(2, vi (gI S10 r0 6 17)), (0, vr E r0 0), (1, vi a1)]) rfl (rfl : 24 + 1 = 25) (xdt tt_X12_run 13 rfl) ?_
    refine g_iconst hC (rfl : 25 + 1 = 26) (xdt tt_X12_run 14 rfl) ?_
    refine g_istore_n hC rfl (by decide) (lv' := [(3, vi 0), (2, vi (gI S10 r0 6 17)), (0, vr E r0 0), (1, vi a1)]) rfl (rfl : 26 + 1 = 27) (xdt tt_X12_run 15 rfl) ?_
    refine g_sub [2, 3, 1, 0] (lv' := [(0, vr E r0 0), (1, vi a1), (2, vi (gI S10 r0 6 17)), (3, vi 0)]) rfl ?_
    exact k_X12_run_p4_0_b27 hC hZ hE hk0 _ _ _ _ _ h
  · replace h := (if_neg hc17).symm.trans h
    refine g_iconst hC (rfl : 11 + 1 = 12) (xdt tt_X12_run 5 rfl) ?_
    cases h
    exact g_iret hC hE (xdt tt_X12_run 6 rfl)
def f_X12_runsTo_p4_0_b2 (r0 : Nat) : Nat → xSt → Int → Int → Option (Int × xSt)
  | 0, _, _, _ => none
  | fuel + 1, S, x1, x2 =>
    if wr 500 ≤ wr x2 then
      (some (x2, S))
    else
      (if wr x1 ≤ wr (gI S r0 6 17) then
        (some (x2, S))
      else
        (bd (f_X12_cycles_p4_0 S r0) fun S2 =>
        (f_X12_runsTo_p4_0_b2 r0 fuel) S2 x1 (x2 + 1)))
def f_X12_runsTo_p4_0 (S : xSt) (r0 : Nat) (a1 : Int) : Option (Int × xSt) :=
  f_X12_runsTo_p4_0_b2 r0 (fu S) S a1 0
set_option maxRecDepth 100000 in
set_option maxHeartbeats 4000000 in
theorem k_X12_runsTo_p4_0_b2 {K : xCtx} {E : xE} {b : Nat} (hC : xOK K cX12_runsTo RX12 3 (rmE 8 b)) (hZ : xZ K) {v : Int} {S' : xSt} (hE : xEnd K E (some .int) (YQi E v S')) {r0 : Nat} (hk0 : xkd E r0 = 4) : ∀ (fuel : Nat) (S : xSt) (x1 : Int) (x2 : Int), f_X12_runsTo_p4_0_b2 r0 fuel S x1 x2 = some (v, S') → WG K E 2 [(0, vr E r0 0), (1, vi x1), (2, vi x2)] [] S := by
  intro fuel
  induction fuel with
  | zero => intro S x1 x2 h; cases h
  | succ fuel ih =>
    intro S x1 x2 h
    rw [f_X12_runsTo_p4_0_b2] at h
    refine g_iload_n hC rfl 2 rfl (rfl : 2 + 1 = 3) (xdt tt_X12_runsTo 2 rfl) ?_
    refine g_sipush hC (by decide) (rfl : 3 + 3 = 6) (xdt tt_X12_runsTo 3 rfl) ?_
    refine g_icmp_ge hC (show ((6 : Nat) : Int) + 25 = ((31 : Nat) : Int) by decide) (rfl : 6 + 3 = 9) (xdt tt_X12_runsTo 4 rfl) (fun hc4 => ?_) (fun hc4 => ?_)
    · replace h := (if_pos hc4).symm.trans h
      refine g_iload_n hC rfl 2 rfl (rfl : 31 + 1 = 32) (xdt tt_X12_runsTo 18 rfl) ?_
      cases h
      exact g_iret hC hE (xdt tt_X12_runsTo 19 rfl)
    · replace h := (if_neg hc4).symm.trans h
      refine g_aload_n hC rfl 0 rfl (rfl : 9 + 1 = 10) (xdt tt_X12_runsTo 5 rfl) ?_
      refine g_getP hC hk0 kclX12 ly4_0 10 (by decide) (rfl : r0 + 0 = r0) rfl q201 (rfl : 10 + 3 = 13) (xdt tt_X12_runsTo 6 rfl) ?_
      refine g_bipush hC (by decide) (rfl : 13 + 2 = 15) (xdt tt_X12_runsTo 7 rfl) ?_
      refine g_iald hC hk0 ly4_6 (by decide) (rfl : 15 + 1 = 16) (xdt tt_X12_runsTo 8 rfl) (k0 := 17) (by decide) ?_
      refine g_iload_n hC rfl 1 rfl (rfl : 16 + 1 = 17) (xdt tt_X12_runsTo 9 rfl) ?_
      refine g_icmp_ge hC (show ((17 : Nat) : Int) + 14 = ((31 : Nat) : Int) by decide) (rfl : 17 + 3 = 20) (xdt tt_X12_runsTo 10 rfl) (fun hc3 => ?_) (fun hc3 => ?_)
      · replace h := (if_pos hc3).symm.trans h
        refine g_iload_n hC rfl 2 rfl (rfl : 31 + 1 = 32) (xdt tt_X12_runsTo 18 rfl) ?_
        cases h
        exact g_iret hC hE (xdt tt_X12_runsTo 19 rfl)
      · replace h := (if_neg hc3).symm.trans h
        refine g_aload_n hC rfl 0 rfl (rfl : 20 + 1 = 21) (xdt tt_X12_runsTo 11 rfl) ?_
        obtain ⟨S2, hc1, h⟩ := bd_i h
        refine g_callVv hC hZ hk0 kclX12 ly4_0 m_X12_cycles q1150 (Nat.le_of_ble_eq_true rfl) [] rfl (fun l => c_X12_cycles_p4_0 l hk0 hc1) rfl (Nat.le_of_ble_eq_true rfl) (rfl : 21 + 3 = 24) (xdt tt_X12_runsTo 12 rfl) ?_
        refine g_iload_n hC rfl 2 rfl (rfl : 24 + 1 = 25) (xdt tt_X12_runsTo 13 rfl) ?_
        refine g_iconst hC (rfl : 25 + 1 = 26) (xdt tt_X12_runsTo 14 rfl) ?_
        refine g_iadd hC (rfl : 26 + 1 = 27) (xdt tt_X12_runsTo 15 rfl) ?_
        refine g_istore_n hC rfl (by decide) (lv' := [(2, vi (x2 + 1)), (0, vr E r0 0), (1, vi x1)]) rfl (rfl : 27 + 1 = 28) (xdt tt_X12_runsTo 16 rfl) ?_
        refine g_goto hC (show ((28 : Nat) : Int) + (-26) = ((2 : Nat) : Int) by decide) (xdt tt_X12_runsTo 17 rfl) ?_
        refine g_sub [1, 2, 0] (lv' := [(0, vr E r0 0), (1, vi x1), (2, vi (x2 + 1))]) rfl ?_
        exact ih _ _ _ h
set_option maxRecDepth 100000 in
set_option maxHeartbeats 4000000 in
theorem c_X12_runsTo_p4_0 (l : Launch) {E : xE} {S S' : xSt} {r0 : Nat} {a1 : Int} (hk0 : xkd E r0 = 4) {v : Int} (h : f_X12_runsTo_p4_0 S r0 a1 = some (v, S')) : Met l yX12_runsTo (xws yX12_runsTo cX12_runsTo 3 (some .int)) (rmD 8) (YPc E [vr E r0 0, vi a1] S) (YQi E v S') 0 0 (xA E) := by
  unfold f_X12_runsTo_p4_0 at h
  refine met_i (by decide +kernel) (Nat.le_of_ble_eq_true rfl) (fun K hC hZ hE => ?_)
  have hC : xOK K cX12_runsTo RX12 3 (rmE 8 0) := hC
  show WG K E 0 [(0, vr E r0 0), (1, vi a1)] [] S
  refine g_iconst hC (rfl : 0 + 1 = 1) (xdt tt_X12_runsTo 0 rfl) ?_
  refine g_istore_n hC rfl (by decide) (lv' := [(2, vi 0), (0, vr E r0 0), (1, vi a1)]) rfl (rfl : 1 + 1 = 2) (xdt tt_X12_runsTo 1 rfl) ?_
  refine g_sub [1, 2, 0] (lv' := [(0, vr E r0 0), (1, vi a1), (2, vi 0)]) rfl ?_
  exact k_X12_runsTo_p4_0_b2 hC hZ hE hk0 _ _ _ _ h
def f_X12_runTo_p4_0 (S : xSt) (r0 : Nat) (a1 : Int) : Option (Int × xSt) :=
  bd2 (f_X12_isIn S (wr a1) 0 9999) fun v3 S2 =>
  bd2 (f_X12_is_p4_0 S2 r0 v3) fun v7 S6 =>
  if ¬ wr v7 = 0 then
    (bd (f_X12_starts_p4_0 S6 r0) fun S10 =>
    bd2 (f_X12_runsTo_p4_0 S10 r0 a1) fun v13 S12 =>
    bd2 (f_X12_done_p4_0 S12 r0 v13) fun v16 S15 =>
    some (v16, S15))
  else
    (some (0, S6))
set_option maxRecDepth 100000 in
set_option maxHeartbeats 4000000 in
theorem c_X12_runTo_p4_0 (l : Launch) {E : xE} {S S' : xSt} {r0 : Nat} {a1 : Int} (hk0 : xkd E r0 = 4) {v : Int} (h : f_X12_runTo_p4_0 S r0 a1 = some (v, S')) : Met l yX12_runTo (xws yX12_runTo cX12_runTo 2 (some .int)) (rmD 9) (YPc E [vr E r0 0, vi a1] S) (YQi E v S') 0 0 (xA E) := by
  unfold f_X12_runTo_p4_0 at h
  refine met_i (by decide +kernel) (Nat.le_of_ble_eq_true rfl) (fun K hC hZ hE => ?_)
  have hC : xOK K cX12_runTo RX12 2 (rmE 9 0) := hC
  show WG K E 0 [(0, vr E r0 0), (1, vi a1)] [] S
  refine g_aload_n hC rfl 0 rfl (rfl : 0 + 1 = 1) (xdt tt_X12_runTo 0 rfl) ?_
  refine g_iload_n hC rfl 1 rfl (rfl : 1 + 1 = 2) (xdt tt_X12_runTo 1 rfl) ?_
  refine g_i2l hC (rfl : 2 + 1 = 3) (xdt tt_X12_runTo 2 rfl) ?_
  refine g_lconst hC (z := 0) (by decide) (rfl : 3 + 1 = 4) (xdt tt_X12_runTo 3 rfl) ?_
  refine g_ldc2 hC (z := 9999) q932 (rfl : 4 + 3 = 7) (xdt tt_X12_runTo 4 rfl) ?_
  obtain ⟨v3, S2, hc1, h⟩ := bd2_i h
  refine g_callSz hC hZ m_X12_isIn q269 (Nat.le_of_ble_eq_true rfl) [vl (wr a1), vl 0, vl 9999] rfl (fun l => c_X12_isIn l hc1) rfl (Nat.le_of_ble_eq_true rfl) (rfl : 7 + 3 = 10) (xdt tt_X12_runTo 5 rfl) (fun hb4 => ?_)
  obtain ⟨v7, S6, hc5, h⟩ := bd2_i h
  refine g_callVz hC hZ hk0 kclX12 ly4_0 m_X12_is q655 (Nat.le_of_ble_eq_true rfl) [vi v3] rfl (fun l => c_X12_is_p4_0 l hk0 hc5) rfl (Nat.le_of_ble_eq_true rfl) (rfl : 10 + 3 = 13) (xdt tt_X12_runTo 6 rfl) (fun hb8 => ?_)
  refine g_if_ne hC (show ((13 : Nat) : Int) + 5 = ((18 : Nat) : Int) by decide) (rfl : 13 + 3 = 16) (xdt tt_X12_runTo 7 rfl) (fun hc17 => ?_) (fun hc17 => ?_)
  · replace h := (if_pos hc17).symm.trans h
    refine g_aload_n hC rfl 0 rfl (rfl : 18 + 1 = 19) (xdt tt_X12_runTo 10 rfl) ?_
    obtain ⟨S10, hc9, h⟩ := bd_i h
    refine g_callVv hC hZ hk0 kclX12 ly4_0 m_X12_starts q1146 (Nat.le_of_ble_eq_true rfl) [] rfl (fun l => c_X12_starts_p4_0 l hk0 hc9) rfl (Nat.le_of_ble_eq_true rfl) (rfl : 19 + 3 = 22) (xdt tt_X12_runTo 11 rfl) ?_
    refine g_aload_n hC rfl 0 rfl (rfl : 22 + 1 = 23) (xdt tt_X12_runTo 12 rfl) ?_
    refine g_aload_n hC rfl 0 rfl (rfl : 23 + 1 = 24) (xdt tt_X12_runTo 13 rfl) ?_
    refine g_iload_n hC rfl 1 rfl (rfl : 24 + 1 = 25) (xdt tt_X12_runTo 14 rfl) ?_
    obtain ⟨v13, S12, hc11, h⟩ := bd2_i h
    refine g_callVi hC hZ hk0 kclX12 ly4_0 m_X12_runsTo q1246 (Nat.le_of_ble_eq_true rfl) [vi a1] rfl (fun l => c_X12_runsTo_p4_0 l hk0 hc11) rfl (Nat.le_of_ble_eq_true rfl) (rfl : 25 + 3 = 28) (xdt tt_X12_runTo 15 rfl) ?_
    obtain ⟨v16, S15, hc14, h⟩ := bd2_i h
    refine g_callVi hC hZ hk0 kclX12 ly4_0 m_X12_done q1230 (Nat.le_of_ble_eq_true rfl) [vi v13] rfl (fun l => c_X12_done_p4_0 l hk0 hc14) rfl (Nat.le_of_ble_eq_true rfl) (rfl : 28 + 3 = 31) (xdt tt_X12_runTo 16 rfl) ?_
    cases h
    exact g_iret hC hE (xdt tt_X12_runTo 17 rfl)
  · replace h := (if_neg hc17).symm.trans h
    refine g_iconst hC (rfl : 16 + 1 = 17) (xdt tt_X12_runTo 8 rfl) ?_
    cases h
    exact g_iret hC hE (xdt tt_X12_runTo 9 rfl)
def f_X12_stall_p4_0 (S : xSt) (r0 : Nat) (a1 : Int) : Option (Int × xSt) :=
  bd2 (f_X12_isIn S (wr a1) 0 99) fun v3 S2 =>
  bd2 (f_X12_is_p4_0 S2 r0 v3) fun v7 S6 =>
  if ¬ wr v7 = 0 then
    (bd (f_X12_starts_p4_0 S6 r0) fun S10 =>
    lt1 (wI S10 r0 6 7 a1) fun S11 =>
    bd2 (f_X12_done_p4_0 S11 r0 (gI S10 r0 6 7)) fun v14 S13 =>
    some (v14, S13))
  else
    (some (0, S6))
set_option maxRecDepth 100000 in
set_option maxHeartbeats 4000000 in
theorem c_X12_stall_p4_0 (l : Launch) {E : xE} {S S' : xSt} {r0 : Nat} {a1 : Int} (hk0 : xkd E r0 = 4) {v : Int} (h : f_X12_stall_p4_0 S r0 a1 = some (v, S')) : Met l yX12_stall (xws yX12_stall cX12_stall 3 (some .int)) (rmD 3) (YPc E [vr E r0 0, vi a1] S) (YQi E v S') 0 0 (xA E) := by
  unfold f_X12_stall_p4_0 at h
  refine met_i (by decide +kernel) (Nat.le_of_ble_eq_true rfl) (fun K hC hZ hE => ?_)
  have hC : xOK K cX12_stall RX12 3 (rmE 3 0) := hC
  show WG K E 0 [(0, vr E r0 0), (1, vi a1)] [] S
  refine g_aload_n hC rfl 0 rfl (rfl : 0 + 1 = 1) (xdt tt_X12_stall 0 rfl) ?_
  refine g_iload_n hC rfl 1 rfl (rfl : 1 + 1 = 2) (xdt tt_X12_stall 1 rfl) ?_
  refine g_i2l hC (rfl : 2 + 1 = 3) (xdt tt_X12_stall 2 rfl) ?_
  refine g_lconst hC (z := 0) (by decide) (rfl : 3 + 1 = 4) (xdt tt_X12_stall 3 rfl) ?_
  refine g_ldc2 hC (z := 99) q902 (rfl : 4 + 3 = 7) (xdt tt_X12_stall 4 rfl) ?_
  obtain ⟨v3, S2, hc1, h⟩ := bd2_i h
  refine g_callSz hC hZ m_X12_isIn q269 (Nat.le_of_ble_eq_true rfl) [vl (wr a1), vl 0, vl 99] rfl (fun l => c_X12_isIn l hc1) rfl (Nat.le_of_ble_eq_true rfl) (rfl : 7 + 3 = 10) (xdt tt_X12_stall 5 rfl) (fun hb4 => ?_)
  obtain ⟨v7, S6, hc5, h⟩ := bd2_i h
  refine g_callVz hC hZ hk0 kclX12 ly4_0 m_X12_is q655 (Nat.le_of_ble_eq_true rfl) [vi v3] rfl (fun l => c_X12_is_p4_0 l hk0 hc5) rfl (Nat.le_of_ble_eq_true rfl) (rfl : 10 + 3 = 13) (xdt tt_X12_stall 6 rfl) (fun hb8 => ?_)
  refine g_if_ne hC (show ((13 : Nat) : Int) + 5 = ((18 : Nat) : Int) by decide) (rfl : 13 + 3 = 16) (xdt tt_X12_stall 7 rfl) (fun hc15 => ?_) (fun hc15 => ?_)
  · replace h := (if_pos hc15).symm.trans h
    refine g_aload_n hC rfl 0 rfl (rfl : 18 + 1 = 19) (xdt tt_X12_stall 10 rfl) ?_
    obtain ⟨S10, hc9, h⟩ := bd_i h
    refine g_callVv hC hZ hk0 kclX12 ly4_0 m_X12_starts q1146 (Nat.le_of_ble_eq_true rfl) [] rfl (fun l => c_X12_starts_p4_0 l hk0 hc9) rfl (Nat.le_of_ble_eq_true rfl) (rfl : 19 + 3 = 22) (xdt tt_X12_stall 11 rfl) ?_
    refine g_aload_n hC rfl 0 rfl (rfl : 22 + 1 = 23) (xdt tt_X12_stall 12 rfl) ?_
    refine g_getP hC hk0 kclX12 ly4_0 10 (by decide) (rfl : r0 + 0 = r0) rfl q201 (rfl : 23 + 3 = 26) (xdt tt_X12_stall 13 rfl) ?_
    refine g_bipush hC (by decide) (rfl : 26 + 2 = 28) (xdt tt_X12_stall 14 rfl) ?_
    refine g_iald hC hk0 ly4_6 (by decide) (rfl : 28 + 1 = 29) (xdt tt_X12_stall 15 rfl) (k0 := 7) (by decide) ?_
    refine g_istore_n hC rfl (by decide) (lv' := [(2, vi (gI S10 r0 6 7)), (0, vr E r0 0), (1, vi a1)]) rfl (rfl : 29 + 1 = 30) (xdt tt_X12_stall 16 rfl) ?_
    refine g_aload_n hC rfl 1 rfl (rfl : 30 + 1 = 31) (xdt tt_X12_stall 17 rfl) ?_
    refine g_getP hC hk0 kclX12 ly4_0 10 (by decide) (rfl : r0 + 0 = r0) rfl q201 (rfl : 31 + 3 = 34) (xdt tt_X12_stall 18 rfl) ?_
    refine g_bipush hC (by decide) (rfl : 34 + 2 = 36) (xdt tt_X12_stall 19 rfl) ?_
    refine g_iload_n hC rfl 2 rfl (rfl : 36 + 1 = 37) (xdt tt_X12_stall 20 rfl) ?_
    obtain ⟨S11, hS11, h⟩ := lt1_i h
    refine g_iast hC hk0 ly4_6 (by decide) (by decide) hS11 (rfl : 37 + 1 = 38) (xdt tt_X12_stall 21 rfl) ?_
    refine g_aload_n hC rfl 1 rfl (rfl : 38 + 1 = 39) (xdt tt_X12_stall 22 rfl) ?_
    refine g_iload_n hC rfl 0 rfl (rfl : 39 + 1 = 40) (xdt tt_X12_stall 23 rfl) ?_
    obtain ⟨v14, S13, hc12, h⟩ := bd2_i h
    refine g_callVi hC hZ hk0 kclX12 ly4_0 m_X12_done q1230 (Nat.le_of_ble_eq_true rfl) [vi (gI S10 r0 6 7)] rfl (fun l => c_X12_done_p4_0 l hk0 hc12) rfl (Nat.le_of_ble_eq_true rfl) (rfl : 40 + 3 = 43) (xdt tt_X12_stall 24 rfl) ?_
    cases h
    exact g_iret hC hE (xdt tt_X12_stall 25 rfl)
  · replace h := (if_neg hc15).symm.trans h
    refine g_iconst hC (rfl : 16 + 1 = 17) (xdt tt_X12_stall 8 rfl) ?_
    cases h
    exact g_iret hC hE (xdt tt_X12_stall 9 rfl)
def f_X12_isSetting (S : xSt) (a0 : Int) (a1 : Int) : Option (Int × xSt) :=
  if wr a0 = 2 then
    (bd2 (f_X12_isIn S (wr a1) 1 6) fun v3 S2 =>
    some (v3, S2))
  else
  if wr a0 = 6 then
    (bd2 (f_X12_isIn S (wr a1) 1 8) fun v8 S7 =>
    some (v8, S7))
  else
  (if ¬ wr a0 = wr 7 then
    (some (0, S))
  else
    (bd2 (f_X12_isIn S (wr a1) 0 30) fun v13 S12 =>
    if wr v13 = 0 then
      (some (0, S12))
    else
      (some (1, S12))))
set_option maxRecDepth 100000 in
set_option maxHeartbeats 4000000 in
theorem c_X12_isSetting (l : Launch) {E : xE} {S S' : xSt} {a0 : Int} {a1 : Int} {v : Int} (h : f_X12_isSetting S a0 a1 = some (v, S')) : Met l yX12_isSetting (xws yX12_isSetting cX12_isSetting 2 (some .boolean)) (rmD 2) (YPc E [vi a0, vi a1] S) (YQz E v S') 0 0 (xA E) := by
  unfold f_X12_isSetting at h
  refine met_z (by decide +kernel) (Nat.le_of_ble_eq_true rfl) (fun K hC hZ hE => ?_)
  have hC : xOK K cX12_isSetting RX12 2 (rmE 2 0) := hC
  show WG K E 0 [(0, vi a0), (1, vi a1)] [] S
  refine g_iload_n hC rfl 0 rfl (rfl : 0 + 1 = 1) (xdt tt_X12_isSetting 0 rfl) ?_
  by_cases hv5 : wr a0 = 2
  · replace h := (if_pos hv5).symm.trans h
    refine g_look hC (xdt tt_X12_isSetting 1 rfl) (by decide) (off := 27) (by rw [hv5]; rfl) (show ((1 : Nat) : Int) + 27 = ((28 : Nat) : Int) by decide) ?_
    refine g_iload_n hC rfl 1 rfl (rfl : 28 + 1 = 29) (xdt tt_X12_isSetting 2 rfl) ?_
    refine g_i2l hC (rfl : 29 + 1 = 30) (xdt tt_X12_isSetting 3 rfl) ?_
    refine g_lconst hC (z := 1) (by decide) (rfl : 30 + 1 = 31) (xdt tt_X12_isSetting 4 rfl) ?_
    refine g_ldc2 hC (z := 6) q1276 (rfl : 31 + 3 = 34) (xdt tt_X12_isSetting 5 rfl) ?_
    obtain ⟨v3, S2, hc1, h⟩ := bd2_i h
    refine g_callSz hC hZ m_X12_isIn q269 (Nat.le_of_ble_eq_true rfl) [vl (wr a1), vl 1, vl 6] rfl (fun l => c_X12_isIn l hc1) rfl (Nat.le_of_ble_eq_true rfl) (rfl : 34 + 3 = 37) (xdt tt_X12_isSetting 6 rfl) (fun hb4 => ?_)
    cases h
    exact g_zret hC hE hb4 (xdt tt_X12_isSetting 7 rfl)
  · replace h := (if_neg hv5).symm.trans h
    by_cases hv10 : wr a0 = 6
    · replace h := (if_pos hv10).symm.trans h
      refine g_look hC (xdt tt_X12_isSetting 1 rfl) (by decide) (off := 37) (by rw [hv10]; rfl) (show ((1 : Nat) : Int) + 37 = ((38 : Nat) : Int) by decide) ?_
      refine g_iload_n hC rfl 1 rfl (rfl : 38 + 1 = 39) (xdt tt_X12_isSetting 8 rfl) ?_
      refine g_i2l hC (rfl : 39 + 1 = 40) (xdt tt_X12_isSetting 9 rfl) ?_
      refine g_lconst hC (z := 1) (by decide) (rfl : 40 + 1 = 41) (xdt tt_X12_isSetting 10 rfl) ?_
      refine g_ldc2 hC (z := 8) q872 (rfl : 41 + 3 = 44) (xdt tt_X12_isSetting 11 rfl) ?_
      obtain ⟨v8, S7, hc6, h⟩ := bd2_i h
      refine g_callSz hC hZ m_X12_isIn q269 (Nat.le_of_ble_eq_true rfl) [vl (wr a1), vl 1, vl 8] rfl (fun l => c_X12_isIn l hc6) rfl (Nat.le_of_ble_eq_true rfl) (rfl : 44 + 3 = 47) (xdt tt_X12_isSetting 12 rfl) (fun hb9 => ?_)
      cases h
      exact g_zret hC hE hb9 (xdt tt_X12_isSetting 13 rfl)
    · replace h := (if_neg hv10).symm.trans h
      refine g_look hC (xdt tt_X12_isSetting 1 rfl) (by decide) (off := 47) (look_no _ _ _ (by intro a ha; simp only [List.mem_cons, List.not_mem_nil, or_false] at ha; rcases ha with rfl | rfl <;> assumption)) (show ((1 : Nat) : Int) + 47 = ((48 : Nat) : Int) by decide) ?_
      refine g_iload_n hC rfl 0 rfl (rfl : 48 + 1 = 49) (xdt tt_X12_isSetting 14 rfl) ?_
      refine g_bipush hC (by decide) (rfl : 49 + 2 = 51) (xdt tt_X12_isSetting 15 rfl) ?_
      refine g_icmp_ne hC (show ((51 : Nat) : Int) + 19 = ((70 : Nat) : Int) by decide) (rfl : 51 + 3 = 54) (xdt tt_X12_isSetting 16 rfl) (fun hc16 => ?_) (fun hc16 => ?_)
      · replace h := (if_pos hc16).symm.trans h
        refine g_iconst hC (rfl : 70 + 1 = 71) (xdt tt_X12_isSetting 25 rfl) ?_
        cases h
        exact g_zret hC hE (Or.inl rfl) (xdt tt_X12_isSetting 26 rfl)
      · replace h := (if_neg hc16).symm.trans h
        refine g_iload_n hC rfl 1 rfl (rfl : 54 + 1 = 55) (xdt tt_X12_isSetting 17 rfl) ?_
        refine g_i2l hC (rfl : 55 + 1 = 56) (xdt tt_X12_isSetting 18 rfl) ?_
        refine g_lconst hC (z := 0) (by decide) (rfl : 56 + 1 = 57) (xdt tt_X12_isSetting 19 rfl) ?_
        refine g_ldc2 hC (z := 30) q1277 (rfl : 57 + 3 = 60) (xdt tt_X12_isSetting 20 rfl) ?_
        obtain ⟨v13, S12, hc11, h⟩ := bd2_i h
        refine g_callSz hC hZ m_X12_isIn q269 (Nat.le_of_ble_eq_true rfl) [vl (wr a1), vl 0, vl 30] rfl (fun l => c_X12_isIn l hc11) rfl (Nat.le_of_ble_eq_true rfl) (rfl : 60 + 3 = 63) (xdt tt_X12_isSetting 21 rfl) (fun hb14 => ?_)
        refine g_if_eq hC (show ((63 : Nat) : Int) + 7 = ((70 : Nat) : Int) by decide) (rfl : 63 + 3 = 66) (xdt tt_X12_isSetting 22 rfl) (fun hc15 => ?_) (fun hc15 => ?_)
        · replace h := (if_pos hc15).symm.trans h
          refine g_iconst hC (rfl : 70 + 1 = 71) (xdt tt_X12_isSetting 25 rfl) ?_
          cases h
          exact g_zret hC hE (Or.inl rfl) (xdt tt_X12_isSetting 26 rfl)
        · replace h := (if_neg hc15).symm.trans h
          refine g_iconst hC (rfl : 66 + 1 = 67) (xdt tt_X12_isSetting 23 rfl) ?_
          refine g_goto hC (show ((67 : Nat) : Int) + 4 = ((71 : Nat) : Int) by decide) (xdt tt_X12_isSetting 24 rfl) ?_
          cases h
          exact g_zret hC hE (Or.inr rfl) (xdt tt_X12_isSetting 26 rfl)
def f_X12_set_p4_0_b38 (r0 : Nat) (S : xSt) (x2 : Int) (s0 : Int) : Option (Int × xSt) :=
  ckI s0 363 <|
  ckI s0 363 <|
  lt1 (wI S r0 6 (wr s0).toNat x2) fun S13 =>
  bd2 (f_X12_done_p4_0 S13 r0 (gI S r0 6 (wr s0).toNat)) fun v16 S15 =>
  some (v16, S15)
def f_X12_set_p4_0 (S : xSt) (r0 : Nat) (a1 : Int) (a2 : Int) : Option (Int × xSt) :=
  bd2 (f_X12_isSetting S a1 a2) fun v3 S2 =>
  bd2 (f_X12_is_p4_0 S2 r0 v3) fun v7 S6 =>
  if ¬ wr v7 = 0 then
    (bd (f_X12_starts_p4_0 S6 r0) fun S10 =>
    if ¬ wr a1 = wr 2 then
      (if ¬ wr a1 = wr 6 then
        (f_X12_set_p4_0_b38 r0 S10 a2 2)
      else
        (f_X12_set_p4_0_b38 r0 S10 a2 1))
    else
      (f_X12_set_p4_0_b38 r0 S10 a2 0))
  else
    (some (0, S6))
set_option maxRecDepth 100000 in
set_option maxHeartbeats 4000000 in
theorem k_X12_set_p4_0_b38 {K : xCtx} {E : xE} {b : Nat} (hC : xOK K cX12_set RX12 5 (rmE 3 b)) (hZ : xZ K) {v : Int} {S' : xSt} (hE : xEnd K E (some .int) (YQi E v S')) {r0 : Nat} (hk0 : xkd E r0 = 4) : ∀ (S : xSt) (x2 : Int) (s0 : Int), f_X12_set_p4_0_b38 r0 S x2 s0 = some (v, S') → WG K E 38 [(0, vr E r0 0), (2, vi x2)] [vi s0] S := by
  intro S x2 s0 h
  unfold f_X12_set_p4_0_b38 at h
  refine g_istore_n hC rfl (by decide) (lv' := [(3, vi s0), (0, vr E r0 0), (2, vi x2)]) rfl (rfl : 38 + 1 = 39) (xdt tt_X12_set 21 rfl) ?_
  refine g_aload_n hC rfl 1 rfl (rfl : 39 + 1 = 40) (xdt tt_X12_set 22 rfl) ?_
  refine g_getP hC hk0 kclX12 ly4_0 10 (by decide) (rfl : r0 + 0 = r0) rfl q201 (rfl : 40 + 3 = 43) (xdt tt_X12_set 23 rfl) ?_
  refine g_iload_n hC rfl 0 rfl (rfl : 43 + 1 = 44) (xdt tt_X12_set 24 rfl) ?_
  obtain ⟨hi11, h⟩ := ckI_i h
  refine g_iald hC hk0 ly4_6 hi11 (rfl : 44 + 1 = 45) (xdt tt_X12_set 25 rfl) (k0 := (wr s0).toNat) rfl ?_
  refine g_istore hC (by decide) (lv' := [(4, vi (gI S r0 6 (wr s0).toNat)), (3, vi s0), (0, vr E r0 0), (2, vi x2)]) rfl (rfl : 45 + 2 = 47) (xdt tt_X12_set 26 rfl) ?_
  refine g_aload_n hC rfl 2 rfl (rfl : 47 + 1 = 48) (xdt tt_X12_set 27 rfl) ?_
  refine g_getP hC hk0 kclX12 ly4_0 10 (by decide) (rfl : r0 + 0 = r0) rfl q201 (rfl : 48 + 3 = 51) (xdt tt_X12_set 28 rfl) ?_
  refine g_iload_n hC rfl 1 rfl (rfl : 51 + 1 = 52) (xdt tt_X12_set 29 rfl) ?_
  refine g_iload_n hC rfl 3 rfl (rfl : 52 + 1 = 53) (xdt tt_X12_set 30 rfl) ?_
  obtain ⟨hi12, h⟩ := ckI_i h
  obtain ⟨S13, hS13, h⟩ := lt1_i h
  refine g_iast hC hk0 ly4_6 hi12 rfl hS13 (rfl : 53 + 1 = 54) (xdt tt_X12_set 31 rfl) ?_
  refine g_aload_n hC rfl 2 rfl (rfl : 54 + 1 = 55) (xdt tt_X12_set 32 rfl) ?_
  refine g_iload hC 0 rfl (rfl : 55 + 2 = 57) (xdt tt_X12_set 33 rfl) ?_
  obtain ⟨v16, S15, hc14, h⟩ := bd2_i h
  refine g_callVi hC hZ hk0 kclX12 ly4_0 m_X12_done q1230 (Nat.le_of_ble_eq_true rfl) [vi (gI S r0 6 (wr s0).toNat)] rfl (fun l => c_X12_done_p4_0 l hk0 hc14) rfl (Nat.le_of_ble_eq_true rfl) (rfl : 57 + 3 = 60) (xdt tt_X12_set 34 rfl) ?_
  cases h
  exact g_iret hC hE (xdt tt_X12_set 35 rfl)
set_option maxRecDepth 100000 in
set_option maxHeartbeats 4000000 in
theorem c_X12_set_p4_0 (l : Launch) {E : xE} {S S' : xSt} {r0 : Nat} {a1 : Int} {a2 : Int} (hk0 : xkd E r0 = 4) {v : Int} (h : f_X12_set_p4_0 S r0 a1 a2 = some (v, S')) : Met l yX12_set (xws yX12_set cX12_set 5 (some .int)) (rmD 3) (YPc E [vr E r0 0, vi a1, vi a2] S) (YQi E v S') 0 0 (xA E) := by
  unfold f_X12_set_p4_0 at h
  refine met_i (by decide +kernel) (Nat.le_of_ble_eq_true rfl) (fun K hC hZ hE => ?_)
  have hC : xOK K cX12_set RX12 5 (rmE 3 0) := hC
  show WG K E 0 [(0, vr E r0 0), (1, vi a1), (2, vi a2)] [] S
  refine g_aload_n hC rfl 0 rfl (rfl : 0 + 1 = 1) (xdt tt_X12_set 0 rfl) ?_
  refine g_iload_n hC rfl 1 rfl (rfl : 1 + 1 = 2) (xdt tt_X12_set 1 rfl) ?_
  refine g_iload_n hC rfl 2 rfl (rfl : 2 + 1 = 3) (xdt tt_X12_set 2 rfl) ?_
  obtain ⟨v3, S2, hc1, h⟩ := bd2_i h
  refine g_callSz hC hZ m_X12_isSetting q1273 (Nat.le_of_ble_eq_true rfl) [vi a1, vi a2] rfl (fun l => c_X12_isSetting l hc1) rfl (Nat.le_of_ble_eq_true rfl) (rfl : 3 + 3 = 6) (xdt tt_X12_set 3 rfl) (fun hb4 => ?_)
  obtain ⟨v7, S6, hc5, h⟩ := bd2_i h
  refine g_callVz hC hZ hk0 kclX12 ly4_0 m_X12_is q655 (Nat.le_of_ble_eq_true rfl) [vi v3] rfl (fun l => c_X12_is_p4_0 l hk0 hc5) rfl (Nat.le_of_ble_eq_true rfl) (rfl : 6 + 3 = 9) (xdt tt_X12_set 4 rfl) (fun hb8 => ?_)
  refine g_if_ne hC (show ((9 : Nat) : Int) + 5 = ((14 : Nat) : Int) by decide) (rfl : 9 + 3 = 12) (xdt tt_X12_set 5 rfl) (fun hc19 => ?_) (fun hc19 => ?_)
  · replace h := (if_pos hc19).symm.trans h
    refine g_aload_n hC rfl 0 rfl (rfl : 14 + 1 = 15) (xdt tt_X12_set 8 rfl) ?_
    obtain ⟨S10, hc9, h⟩ := bd_i h
    refine g_callVv hC hZ hk0 kclX12 ly4_0 m_X12_starts q1146 (Nat.le_of_ble_eq_true rfl) [] rfl (fun l => c_X12_starts_p4_0 l hk0 hc9) rfl (Nat.le_of_ble_eq_true rfl) (rfl : 15 + 3 = 18) (xdt tt_X12_set 9 rfl) ?_
    refine g_iload_n hC rfl 1 rfl (rfl : 18 + 1 = 19) (xdt tt_X12_set 10 rfl) ?_
    refine g_iconst hC (rfl : 19 + 1 = 20) (xdt tt_X12_set 11 rfl) ?_
    refine g_icmp_ne hC (show ((20 : Nat) : Int) + 7 = ((27 : Nat) : Int) by decide) (rfl : 20 + 3 = 23) (xdt tt_X12_set 12 rfl) (fun hc18 => ?_) (fun hc18 => ?_)
    · replace h := (if_pos hc18).symm.trans h
      refine g_iload_n hC rfl 1 rfl (rfl : 27 + 1 = 28) (xdt tt_X12_set 15 rfl) ?_
      refine g_bipush hC (by decide) (rfl : 28 + 2 = 30) (xdt tt_X12_set 16 rfl) ?_
      refine g_icmp_ne hC (show ((30 : Nat) : Int) + 7 = ((37 : Nat) : Int) by decide) (rfl : 30 + 3 = 33) (xdt tt_X12_set 17 rfl) (fun hc17 => ?_) (fun hc17 => ?_)
      · replace h := (if_pos hc17).symm.trans h
        refine g_iconst hC (rfl : 37 + 1 = 38) (xdt tt_X12_set 20 rfl) ?_
        refine g_sub [0, 2] (lv' := [(0, vr E r0 0), (2, vi a2)]) rfl ?_
        exact k_X12_set_p4_0_b38 hC hZ hE hk0 _ _ _ h
      · replace h := (if_neg hc17).symm.trans h
        refine g_iconst hC (rfl : 33 + 1 = 34) (xdt tt_X12_set 18 rfl) ?_
        refine g_goto hC (show ((34 : Nat) : Int) + 4 = ((38 : Nat) : Int) by decide) (xdt tt_X12_set 19 rfl) ?_
        refine g_sub [0, 2] (lv' := [(0, vr E r0 0), (2, vi a2)]) rfl ?_
        exact k_X12_set_p4_0_b38 hC hZ hE hk0 _ _ _ h
    · replace h := (if_neg hc18).symm.trans h
      refine g_iconst hC (rfl : 23 + 1 = 24) (xdt tt_X12_set 13 rfl) ?_
      refine g_goto hC (show ((24 : Nat) : Int) + 14 = ((38 : Nat) : Int) by decide) (xdt tt_X12_set 14 rfl) ?_
      refine g_sub [0, 2] (lv' := [(0, vr E r0 0), (2, vi a2)]) rfl ?_
      exact k_X12_set_p4_0_b38 hC hZ hE hk0 _ _ _ h
  · replace h := (if_neg hc19).symm.trans h
    refine g_iconst hC (rfl : 12 + 1 = 13) (xdt tt_X12_set 6 rfl) ?_
    cases h
    exact g_iret hC hE (xdt tt_X12_set 7 rfl)
def f_X12_adds_p4_0 (S : xSt) (r0 : Nat) (a1 : Int) (a2 : Int) : Option (Int × xSt) :=
  ckI (35 + (gI S r0 6 34)) 363 <|
  lt1 (wI S r0 6 (wr (35 + (gI S r0 6 34))).toNat ((10 * a1) + a2)) fun S2 =>
  lt1 (wI S2 r0 6 34 ((gI S2 r0 6 34) + 1)) fun S3 =>
  some (((gI S3 r0 6 34) - 1), S3)
set_option maxRecDepth 100000 in
set_option maxHeartbeats 4000000 in
theorem c_X12_adds_p4_0 (l : Launch) {E : xE} {S S' : xSt} {r0 : Nat} {a1 : Int} {a2 : Int} (hk0 : xkd E r0 = 4) {v : Int} (h : f_X12_adds_p4_0 S r0 a1 a2 = some (v, S')) : Met l yX12_adds (xws yX12_adds cX12_adds 3 (some .int)) (rmD 1) (YPc E [vr E r0 0, vi a1, vi a2] S) (YQi E v S') 0 0 (xA E) := by
  unfold f_X12_adds_p4_0 at h
  refine met_i (by decide +kernel) (Nat.le_of_ble_eq_true rfl) (fun K hC hZ hE => ?_)
  have hC : xOK K cX12_adds RX12 3 (rmE 1 0) := hC
  show WG K E 0 [(0, vr E r0 0), (1, vi a1), (2, vi a2)] [] S
  refine g_aload_n hC rfl 0 rfl (rfl : 0 + 1 = 1) (xdt tt_X12_adds 0 rfl) ?_
  refine g_getP hC hk0 kclX12 ly4_0 10 (by decide) (rfl : r0 + 0 = r0) rfl q201 (rfl : 1 + 3 = 4) (xdt tt_X12_adds 1 rfl) ?_
  refine g_bipush hC (by decide) (rfl : 4 + 2 = 6) (xdt tt_X12_adds 2 rfl) ?_
  refine g_aload_n hC rfl 0 rfl (rfl : 6 + 1 = 7) (xdt tt_X12_adds 3 rfl) ?_
  refine g_getP hC hk0 kclX12 ly4_0 10 (by decide) (rfl : r0 + 0 = r0) rfl q201 (rfl : 7 + 3 = 10) (xdt tt_X12_adds 4 rfl) ?_
  refine g_bipush hC (by decide) (rfl : 10 + 2 = 12) (xdt tt_X12_adds 5 rfl) ?_
  refine g_iald hC hk0 ly4_6 (by decide) (rfl : 12 + 1 = 13) (xdt tt_X12_adds 6 rfl) (k0 := 34) (by decide) ?_
  refine g_iadd hC (rfl : 13 + 1 = 14) (xdt tt_X12_adds 7 rfl) ?_
  refine g_bipush hC (by decide) (rfl : 14 + 2 = 16) (xdt tt_X12_adds 8 rfl) ?_
  refine g_iload_n hC rfl 1 rfl (rfl : 16 + 1 = 17) (xdt tt_X12_adds 9 rfl) ?_
  refine g_imul hC (rfl : 17 + 1 = 18) (xdt tt_X12_adds 10 rfl) ?_
  refine g_iload_n hC rfl 2 rfl (rfl : 18 + 1 = 19) (xdt tt_X12_adds 11 rfl) ?_
  refine g_iadd hC (rfl : 19 + 1 = 20) (xdt tt_X12_adds 12 rfl) ?_
  obtain ⟨hi1, h⟩ := ckI_i h
  obtain ⟨S2, hS2, h⟩ := lt1_i h
  refine g_iast hC hk0 ly4_6 hi1 rfl hS2 (rfl : 20 + 1 = 21) (xdt tt_X12_adds 13 rfl) ?_
  refine g_aload_n hC rfl 0 rfl (rfl : 21 + 1 = 22) (xdt tt_X12_adds 14 rfl) ?_
  refine g_getP hC hk0 kclX12 ly4_0 10 (by decide) (rfl : r0 + 0 = r0) rfl q201 (rfl : 22 + 3 = 25) (xdt tt_X12_adds 15 rfl) ?_
  refine g_bipush hC (by decide) (rfl : 25 + 2 = 27) (xdt tt_X12_adds 16 rfl) ?_
  refine g_aload_n hC rfl 0 rfl (rfl : 27 + 1 = 28) (xdt tt_X12_adds 17 rfl) ?_
  refine g_getP hC hk0 kclX12 ly4_0 10 (by decide) (rfl : r0 + 0 = r0) rfl q201 (rfl : 28 + 3 = 31) (xdt tt_X12_adds 18 rfl) ?_
  refine g_bipush hC (by decide) (rfl : 31 + 2 = 33) (xdt tt_X12_adds 19 rfl) ?_
  refine g_iald hC hk0 ly4_6 (by decide) (rfl : 33 + 1 = 34) (xdt tt_X12_adds 20 rfl) (k0 := 34) (by decide) ?_
  refine g_iconst hC (rfl : 34 + 1 = 35) (xdt tt_X12_adds 21 rfl) ?_
  refine g_iadd hC (rfl : 35 + 1 = 36) (xdt tt_X12_adds 22 rfl) ?_
  obtain ⟨S3, hS3, h⟩ := lt1_i h
  refine g_iast hC hk0 ly4_6 (by decide) (by decide) hS3 (rfl : 36 + 1 = 37) (xdt tt_X12_adds 23 rfl) ?_
  refine g_aload_n hC rfl 0 rfl (rfl : 37 + 1 = 38) (xdt tt_X12_adds 24 rfl) ?_
  refine g_getP hC hk0 kclX12 ly4_0 10 (by decide) (rfl : r0 + 0 = r0) rfl q201 (rfl : 38 + 3 = 41) (xdt tt_X12_adds 25 rfl) ?_
  refine g_bipush hC (by decide) (rfl : 41 + 2 = 43) (xdt tt_X12_adds 26 rfl) ?_
  refine g_iald hC hk0 ly4_6 (by decide) (rfl : 43 + 1 = 44) (xdt tt_X12_adds 27 rfl) (k0 := 34) (by decide) ?_
  refine g_iconst hC (rfl : 44 + 1 = 45) (xdt tt_X12_adds 28 rfl) ?_
  refine g_isub hC (rfl : 45 + 1 = 46) (xdt tt_X12_adds 29 rfl) ?_
  cases h
  exact g_iret hC hE (xdt tt_X12_adds 30 rfl)
def f_X12_areKinds (S : xSt) (a0 : Int) (a1 : Int) : Option (Int × xSt) :=
  bd2 (f_X12_isIn S (wr a0) 0 7) fun v3 S2 =>
  if wr v3 = 0 then
    (some (0, S2))
  else
    (bd2 (f_X12_isIn S2 (wr a1) 0 9) fun v7 S6 =>
    if wr v7 = 0 then
      (some (0, S6))
    else
      (some (1, S6)))
set_option maxRecDepth 100000 in
set_option maxHeartbeats 4000000 in
theorem c_X12_areKinds (l : Launch) {E : xE} {S S' : xSt} {a0 : Int} {a1 : Int} {v : Int} (h : f_X12_areKinds S a0 a1 = some (v, S')) : Met l yX12_areKinds (xws yX12_areKinds cX12_areKinds 2 (some .boolean)) (rmD 2) (YPc E [vi a0, vi a1] S) (YQz E v S') 0 0 (xA E) := by
  unfold f_X12_areKinds at h
  refine met_z (by decide +kernel) (Nat.le_of_ble_eq_true rfl) (fun K hC hZ hE => ?_)
  have hC : xOK K cX12_areKinds RX12 2 (rmE 2 0) := hC
  show WG K E 0 [(0, vi a0), (1, vi a1)] [] S
  refine g_iload_n hC rfl 0 rfl (rfl : 0 + 1 = 1) (xdt tt_X12_areKinds 0 rfl) ?_
  refine g_i2l hC (rfl : 1 + 1 = 2) (xdt tt_X12_areKinds 1 rfl) ?_
  refine g_lconst hC (z := 0) (by decide) (rfl : 2 + 1 = 3) (xdt tt_X12_areKinds 2 rfl) ?_
  refine g_ldc2 hC (z := 7) q650 (rfl : 3 + 3 = 6) (xdt tt_X12_areKinds 3 rfl) ?_
  obtain ⟨v3, S2, hc1, h⟩ := bd2_i h
  refine g_callSz hC hZ m_X12_isIn q269 (Nat.le_of_ble_eq_true rfl) [vl (wr a0), vl 0, vl 7] rfl (fun l => c_X12_isIn l hc1) rfl (Nat.le_of_ble_eq_true rfl) (rfl : 6 + 3 = 9) (xdt tt_X12_areKinds 4 rfl) (fun hb4 => ?_)
  refine g_if_eq hC (show ((9 : Nat) : Int) + 19 = ((28 : Nat) : Int) by decide) (rfl : 9 + 3 = 12) (xdt tt_X12_areKinds 5 rfl) (fun hc10 => ?_) (fun hc10 => ?_)
  · replace h := (if_pos hc10).symm.trans h
    refine g_iconst hC (rfl : 28 + 1 = 29) (xdt tt_X12_areKinds 14 rfl) ?_
    cases h
    exact g_zret hC hE (Or.inl rfl) (xdt tt_X12_areKinds 15 rfl)
  · replace h := (if_neg hc10).symm.trans h
    refine g_iload_n hC rfl 1 rfl (rfl : 12 + 1 = 13) (xdt tt_X12_areKinds 6 rfl) ?_
    refine g_i2l hC (rfl : 13 + 1 = 14) (xdt tt_X12_areKinds 7 rfl) ?_
    refine g_lconst hC (z := 0) (by decide) (rfl : 14 + 1 = 15) (xdt tt_X12_areKinds 8 rfl) ?_
    refine g_ldc2 hC (z := 9) q514 (rfl : 15 + 3 = 18) (xdt tt_X12_areKinds 9 rfl) ?_
    obtain ⟨v7, S6, hc5, h⟩ := bd2_i h
    refine g_callSz hC hZ m_X12_isIn q269 (Nat.le_of_ble_eq_true rfl) [vl (wr a1), vl 0, vl 9] rfl (fun l => c_X12_isIn l hc5) rfl (Nat.le_of_ble_eq_true rfl) (rfl : 18 + 3 = 21) (xdt tt_X12_areKinds 10 rfl) (fun hb8 => ?_)
    refine g_if_eq hC (show ((21 : Nat) : Int) + 7 = ((28 : Nat) : Int) by decide) (rfl : 21 + 3 = 24) (xdt tt_X12_areKinds 11 rfl) (fun hc9 => ?_) (fun hc9 => ?_)
    · replace h := (if_pos hc9).symm.trans h
      refine g_iconst hC (rfl : 28 + 1 = 29) (xdt tt_X12_areKinds 14 rfl) ?_
      cases h
      exact g_zret hC hE (Or.inl rfl) (xdt tt_X12_areKinds 15 rfl)
    · replace h := (if_neg hc9).symm.trans h
      refine g_iconst hC (rfl : 24 + 1 = 25) (xdt tt_X12_areKinds 12 rfl) ?_
      refine g_goto hC (show ((25 : Nat) : Int) + 4 = ((29 : Nat) : Int) by decide) (xdt tt_X12_areKinds 13 rfl) ?_
      cases h
      exact g_zret hC hE (Or.inr rfl) (xdt tt_X12_areKinds 15 rfl)
