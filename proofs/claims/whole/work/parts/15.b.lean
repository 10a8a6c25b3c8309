def f_X11_printInstruction_p3_0_b134 (r0 : Nat) (S : xSt) (x1 : Int) : Option ((Int ⊕ Nat) × xSt) :=
  bd2 (f_X0_fusesWithNext_p1_0 S (r0 + 1) x1) fun v27 S26 =>
  if wr v27 = 0 then
    (some (Sum.inl (gI S26 r0 6 1), S26))
  else
    (bd (f_X2_addByte_p3_6 S26 r0 43) fun S30 =>
    some (Sum.inl (gI S30 r0 6 1), S30))
def f_X11_printInstruction_p3_0_b79 (r0 : Nat) (S : xSt) (x1 : Int) : Option ((Int ⊕ Nat) × xSt) :=
  ckP S r0 0 4 2 0 fun rg12 =>
  ckI x1 60 <|
  bd2 (f_X11_wordOfKind S (gI S rg12 5 (wr x1).toNat)) fun v16 S15 =>
  bd (f_X2_addText_p3_6 S15 r0 v16) fun S19 =>
  ckP S19 r0 0 4 2 0 fun rg20 =>
  bd2 (f_X5_isJumpOrBranch_p2_0 S19 rg20 x1) fun v23 S22 =>
  if wr v23 = 0 then
    (f_X11_printInstruction_p3_0_b134 r0 S22 x1)
  else
    (bd (f_X2_addByte_p3_6 S22 r0 32) fun S33 =>
    ckP S33 r0 0 4 2 0 fun rg34 =>
    ckI x1 60 <|
    bd (f_X2_addNumber_p3_6 S33 r0 (gI S33 rg34 11 (wr x1).toNat)) fun S37 =>
    f_X11_printInstruction_p3_0_b134 r0 S37 x1)
def f_X11_printInstruction_p3_0 (S : xSt) (r0 : Nat) (a1 : Int) : Option ((Int ⊕ Nat) × xSt) :=
  if wr a1 < 0 then
    (some (Sum.inr 1, S))
  else
    (ckP S r0 0 4 2 0 fun rg1 =>
    if wr a1 < wr (gI S rg1 0 10) then
      (bd (f_X2_clear_p3_6 S r0) fun S3 =>
      ckP S3 r0 0 4 2 0 fun rg4 =>
      ckI a1 61 <|
      bd (f_X2_addNumber_p3_6 S3 r0 (gI S3 rg4 9 (wr a1).toNat)) fun S7 =>
      bd (f_X2_addByte_p3_6 S7 r0 32) fun S9 =>
      ckP S9 r0 0 4 2 0 fun rg10 =>
      ckI a1 60 <|
      if wr (gI S9 rg10 6 (wr a1).toNat) = 0 then
        (f_X11_printInstruction_p3_0_b79 r0 S9 a1)
      else
        (bd (f_X2_addText_p3_6 S9 r0 40) fun S40 =>
        f_X11_printInstruction_p3_0_b79 r0 S40 a1))
    else
      (some (Sum.inr 1, S)))
set_option maxRecDepth 100000 in
set_option maxHeartbeats 4000000 in
theorem k_X11_printInstruction_p3_0_b134 {K : xCtx} {E : xE} (hC : xOK K cX11_printInstruction RX11 2 (rmE 7 1)) (hZ : xZ K) {x : Int ⊕ Nat} {S' : xSt} (hE : xEndX K E (some .int) (YXi E x S') (YXC E x S')) {r0 : Nat} (hk0 : xkd E r0 = 3) (hA0 : xFam E r0) : ∀ (S : xSt) (x1 : Int), f_X11_printInstruction_p3_0_b134 r0 S x1 = some (x, S') → WG K E 134 [(0, vr E r0 0), (1, vi x1)] [] S := by
  intro S x1 h
  unfold f_X11_printInstruction_p3_0_b134 at h
  refine g_aload_n hC rfl 0 rfl (rfl : 134 + 1 = 135) (xdt tt_X11_printInstruction 63 rfl) ?_
  refine g_getP hC hk0 kclX11 ly3_0 6 (by decide) (rfl : r0 + 1 = (r0 + 1)) rfl q31 (rfl : 135 + 3 = 138) (xdt tt_X11_printInstruction 64 rfl) ?_
  refine g_iload_n hC rfl 1 rfl (rfl : 138 + 1 = 139) (xdt tt_X11_printInstruction 65 rfl) ?_
  obtain ⟨v27, S26, hc25, h⟩ := bd2_i h
  refine g_callVz hC hZ (hA0 1 (by decide) (by decide)) kclX0 ly1_0 m_X0_fusesWithNext q719 (Nat.le_of_ble_eq_true rfl) [vi x1] rfl (fun l => c_X0_fusesWithNext_p1_0 l (hA0 1 (by decide) (by decide)) hc25) rfl (Nat.le_of_ble_eq_true rfl) (rfl : 139 + 3 = 142) (xdt tt_X11_printInstruction 66 rfl) (fun hb28 => ?_)
  refine g_if_eq hC (show ((142 : Nat) : Int) + 12 = ((154 : Nat) : Int) by decide) (rfl : 142 + 3 = 145) (xdt tt_X11_printInstruction 67 rfl) (fun hc31 => ?_) (fun hc31 => ?_)
  · replace h := (if_pos hc31).symm.trans h
    refine g_aload_n hC rfl 0 rfl (rfl : 154 + 1 = 155) (xdt tt_X11_printInstruction 72 rfl) ?_
    refine g_getP hC hk0 kclX11 ly3_0 3 (by decide) (rfl : r0 + 0 = r0) rfl q22 (rfl : 155 + 3 = 158) (xdt tt_X11_printInstruction 73 rfl) ?_
    refine g_getI hC hk0 kclX2 ly3_6 1 (by decide) rfl q1502 (rfl : 158 + 3 = 161) (xdt tt_X11_printInstruction 74 rfl) ?_
    cases h
    exact g_iretX hC hE rfl (xdt tt_X11_printInstruction 75 rfl)
  · replace h := (if_neg hc31).symm.trans h
    refine g_aload_n hC rfl 0 rfl (rfl : 145 + 1 = 146) (xdt tt_X11_printInstruction 68 rfl) ?_
    refine g_getP hC hk0 kclX11 ly3_0 3 (by decide) (rfl : r0 + 0 = r0) rfl q22 (rfl : 146 + 3 = 149) (xdt tt_X11_printInstruction 69 rfl) ?_
    refine g_bipush hC (by decide) (rfl : 149 + 2 = 151) (xdt tt_X11_printInstruction 70 rfl) ?_
    obtain ⟨S30, hc29, h⟩ := bd_i h
    refine g_callVv hC hZ hk0 kclX2 ly3_6 m_X2_addByte q1516 (Nat.le_of_ble_eq_true rfl) [vi 43] rfl (fun l => c_X2_addByte_p3_6 l hk0 hA0 hc29) rfl (Nat.le_of_ble_eq_true rfl) (rfl : 151 + 3 = 154) (xdt tt_X11_printInstruction 71 rfl) ?_
    refine g_aload_n hC rfl 0 rfl (rfl : 154 + 1 = 155) (xdt tt_X11_printInstruction 72 rfl) ?_
    refine g_getP hC hk0 kclX11 ly3_0 3 (by decide) (rfl : r0 + 0 = r0) rfl q22 (rfl : 155 + 3 = 158) (xdt tt_X11_printInstruction 73 rfl) ?_
    refine g_getI hC hk0 kclX2 ly3_6 1 (by decide) rfl q1502 (rfl : 158 + 3 = 161) (xdt tt_X11_printInstruction 74 rfl) ?_
    cases h
    exact g_iretX hC hE rfl (xdt tt_X11_printInstruction 75 rfl)
set_option maxRecDepth 100000 in
set_option maxHeartbeats 4000000 in
theorem k_X11_printInstruction_p3_0_b79 {K : xCtx} {E : xE} (hC : xOK K cX11_printInstruction RX11 2 (rmE 7 1)) (hZ : xZ K) {x : Int ⊕ Nat} {S' : xSt} (hE : xEndX K E (some .int) (YXi E x S') (YXC E x S')) {r0 : Nat} (hk0 : xkd E r0 = 3) (hA0 : xFam E r0) : ∀ (S : xSt) (x1 : Int), f_X11_printInstruction_p3_0_b79 r0 S x1 = some (x, S') → WG K E 79 [(0, vr E r0 0), (1, vi x1)] [] S := by
  intro S x1 h
  unfold f_X11_printInstruction_p3_0_b79 at h
  refine g_aload_n hC rfl 0 rfl (rfl : 79 + 1 = 80) (xdt tt_X11_printInstruction 37 rfl) ?_
  refine g_getP hC hk0 kclX11 ly3_0 3 (by decide) (rfl : r0 + 0 = r0) rfl q22 (rfl : 80 + 3 = 83) (xdt tt_X11_printInstruction 38 rfl) ?_
  refine g_aload_n hC rfl 0 rfl (rfl : 83 + 1 = 84) (xdt tt_X11_printInstruction 39 rfl) ?_
  obtain ⟨rg12, hrg12, grg12, h⟩ := ckP_i h
  refine g_getV hC hk0 kclX11 ly3_0 4 (by decide) rfl hrg12 grg12 (by decide) q26 (rfl : 84 + 3 = 87) (xdt tt_X11_printInstruction 40 rfl) (fun krg12 => ?_)
  refine g_getP hC krg12 kclX5 ly2_0 2 (by decide) (rfl : rg12 + 0 = rg12) rfl q625 (rfl : 87 + 3 = 90) (xdt tt_X11_printInstruction 41 rfl) ?_
  refine g_iload_n hC rfl 1 rfl (rfl : 90 + 1 = 91) (xdt tt_X11_printInstruction 42 rfl) ?_
  obtain ⟨hi13, h⟩ := ckI_i h
  refine g_iald hC krg12 ly2_5 hi13 (rfl : 91 + 1 = 92) (xdt tt_X11_printInstruction 43 rfl) (k0 := (wr x1).toNat) rfl ?_
  obtain ⟨v16, S15, hc14, h⟩ := bd2_i h
  refine g_callSa hC hZ m_X11_wordOfKind q1523 (Nat.le_of_ble_eq_true rfl) [vi (gI S rg12 5 (wr x1).toNat)] rfl (fun l => c_X11_wordOfKind l hc14) rfl (Nat.le_of_ble_eq_true rfl) (rfl : 92 + 3 = 95) (xdt tt_X11_printInstruction 44 rfl) (fun hb17 => ?_)
  obtain ⟨S19, hc18, h⟩ := bd_i h
  refine g_callVv hC hZ hk0 kclX2 ly3_6 m_X2_addText q1517 (Nat.le_of_ble_eq_true rfl) [vs E v16] rfl (fun l => c_X2_addText_p3_6 l hk0 hA0 hb17 hc18) rfl (Nat.le_of_ble_eq_true rfl) (rfl : 95 + 3 = 98) (xdt tt_X11_printInstruction 45 rfl) ?_
  refine g_aload_n hC rfl 0 rfl (rfl : 98 + 1 = 99) (xdt tt_X11_printInstruction 46 rfl) ?_
  obtain ⟨rg20, hrg20, grg20, h⟩ := ckP_i h
  refine g_getV hC hk0 kclX11 ly3_0 4 (by decide) rfl hrg20 grg20 (by decide) q26 (rfl : 99 + 3 = 102) (xdt tt_X11_printInstruction 47 rfl) (fun krg20 => ?_)
  refine g_iload_n hC rfl 1 rfl (rfl : 102 + 1 = 103) (xdt tt_X11_printInstruction 48 rfl) ?_
  obtain ⟨v23, S22, hc21, h⟩ := bd2_i h
  refine g_callVz hC hZ krg20 kclX5 ly2_0 m_X5_isJumpOrBranch q639 (Nat.le_of_ble_eq_true rfl) [vi x1] rfl (fun l => c_X5_isJumpOrBranch_p2_0 l krg20 hc21) rfl (Nat.le_of_ble_eq_true rfl) (rfl : 103 + 3 = 106) (xdt tt_X11_printInstruction 49 rfl) (fun hb24 => ?_)
  refine g_if_eq hC (show ((106 : Nat) : Int) + 28 = ((134 : Nat) : Int) by decide) (rfl : 106 + 3 = 109) (xdt tt_X11_printInstruction 50 rfl) (fun hc38 => ?_) (fun hc38 => ?_)
  · replace h := (if_pos hc38).symm.trans h
    refine g_sub [0, 1] (lv' := [(0, vr E r0 0), (1, vi x1)]) rfl ?_
    exact k_X11_printInstruction_p3_0_b134 hC hZ hE hk0 hA0 _ _ h
  · replace h := (if_neg hc38).symm.trans h
    refine g_aload_n hC rfl 0 rfl (rfl : 109 + 1 = 110) (xdt tt_X11_printInstruction 51 rfl) ?_
    refine g_getP hC hk0 kclX11 ly3_0 3 (by decide) (rfl : r0 + 0 = r0) rfl q22 (rfl : 110 + 3 = 113) (xdt tt_X11_printInstruction 52 rfl) ?_
    refine g_bipush hC (by decide) (rfl : 113 + 2 = 115) (xdt tt_X11_printInstruction 53 rfl) ?_
    obtain ⟨S33, hc32, h⟩ := bd_i h
    refine g_callVv hC hZ hk0 kclX2 ly3_6 m_X2_addByte q1516 (Nat.le_of_ble_eq_true rfl) [vi 32] rfl (fun l => c_X2_addByte_p3_6 l hk0 hA0 hc32) rfl (Nat.le_of_ble_eq_true rfl) (rfl : 115 + 3 = 118) (xdt tt_X11_printInstruction 54 rfl) ?_
    refine g_aload_n hC rfl 0 rfl (rfl : 118 + 1 = 119) (xdt tt_X11_printInstruction 55 rfl) ?_
    refine g_getP hC hk0 kclX11 ly3_0 3 (by decide) (rfl : r0 + 0 = r0) rfl q22 (rfl : 119 + 3 = 122) (xdt tt_X11_printInstruction 56 rfl) ?_
    refine g_aload_n hC rfl 0 rfl (rfl : 122 + 1 = 123) (xdt tt_X11_printInstruction 57 rfl) ?_
    obtain ⟨rg34, hrg34, grg34, h⟩ := ckP_i h
    refine g_getV hC hk0 kclX11 ly3_0 4 (by decide) rfl hrg34 grg34 (by decide) q26 (rfl : 123 + 3 = 126) (xdt tt_X11_printInstruction 58 rfl) (fun krg34 => ?_)
    refine g_getP hC krg34 kclX5 ly2_0 8 (by decide) (rfl : rg34 + 0 = rg34) rfl q628 (rfl : 126 + 3 = 129) (xdt tt_X11_printInstruction 59 rfl) ?_
    refine g_iload_n hC rfl 1 rfl (rfl : 129 + 1 = 130) (xdt tt_X11_printInstruction 60 rfl) ?_
    obtain ⟨hi35, h⟩ := ckI_i h
    refine g_iald hC krg34 ly2_11 hi35 (rfl : 130 + 1 = 131) (xdt tt_X11_printInstruction 61 rfl) (k0 := (wr x1).toNat) rfl ?_
    obtain ⟨S37, hc36, h⟩ := bd_i h
    refine g_callVv hC hZ hk0 kclX2 ly3_6 m_X2_addNumber q1508 (Nat.le_of_ble_eq_true rfl) [vi (gI S33 rg34 11 (wr x1).toNat)] rfl (fun l => c_X2_addNumber_p3_6 l hk0 hA0 hc36) rfl (Nat.le_of_ble_eq_true rfl) (rfl : 131 + 3 = 134) (xdt tt_X11_printInstruction 62 rfl) ?_
    refine g_sub [0, 1] (lv' := [(0, vr E r0 0), (1, vi x1)]) rfl ?_
    exact k_X11_printInstruction_p3_0_b134 hC hZ hE hk0 hA0 _ _ h
set_option maxRecDepth 100000 in
set_option maxHeartbeats 4000000 in
theorem c_X11_printInstruction_p3_0 (l : Launch) (htr : l.stackTraces = false) {E : xE} {S S' : xSt} {r0 : Nat} {a1 : Int} (hk0 : xkd E r0 = 3) (hA0 : xFam E r0) {x : Int ⊕ Nat} (h : f_X11_printInstruction_p3_0 S r0 a1 = some (x, S')) : vx_Met l yX11_printInstruction (xws yX11_printInstruction cX11_printInstruction 2 (some .int)) (rmE 7 1) (YPc E [vr E r0 0, vi a1] S) (YXi E x S') (YXC E x S') 1 6 (xA E) := by
  unfold f_X11_printInstruction_p3_0 at h
  refine metX_i htr (by decide +kernel) (Nat.le_of_ble_eq_true rfl) (fun K hC hE => ?_)
  have hZ := xZX hE
  have hC : xOK K cX11_printInstruction RX11 2 (rmE 7 1) := hC
  show WG K E 0 [(0, vr E r0 0), (1, vi a1)] [] S
  refine g_iload_n hC rfl 1 rfl (rfl : 0 + 1 = 1) (xdt tt_X11_printInstruction 0 rfl) ?_
  refine g_if_lt hC (show ((1 : Nat) : Int) + 14 = ((15 : Nat) : Int) by decide) (rfl : 1 + 3 = 4) (xdt tt_X11_printInstruction 1 rfl) (fun hc43 => ?_) (fun hc43 => ?_)
  · replace h := (if_pos hc43).symm.trans h
    cases h
    exact g_throwS hC hE rfl (q := 22) rfl rfl fit1 q623 q624 at_148 (Nat.le_of_ble_eq_true rfl) (Nat.le_of_ble_eq_true rfl) (xdt tt_X11_printInstruction 7 rfl) (xdt tt_X11_printInstruction 8 rfl) (xdt tt_X11_printInstruction 9 rfl) (xdt tt_X11_printInstruction 10 rfl) (xdt tt_X11_printInstruction 11 rfl)
  · replace h := (if_neg hc43).symm.trans h
    refine g_iload_n hC rfl 1 rfl (rfl : 4 + 1 = 5) (xdt tt_X11_printInstruction 2 rfl) ?_
    refine g_aload_n hC rfl 0 rfl (rfl : 5 + 1 = 6) (xdt tt_X11_printInstruction 3 rfl) ?_
    obtain ⟨rg1, hrg1, grg1, h⟩ := ckP_i h
    refine g_getV hC hk0 kclX11 ly3_0 4 (by decide) rfl hrg1 grg1 (by decide) q26 (rfl : 6 + 3 = 9) (xdt tt_X11_printInstruction 4 rfl) (fun krg1 => ?_)
    refine g_getI hC krg1 kclX5 ly2_0 10 (by decide) rfl q277 (rfl : 9 + 3 = 12) (xdt tt_X11_printInstruction 5 rfl) ?_
    refine g_icmp_lt hC (show ((12 : Nat) : Int) + 13 = ((25 : Nat) : Int) by decide) (rfl : 12 + 3 = 15) (xdt tt_X11_printInstruction 6 rfl) (fun hc42 => ?_) (fun hc42 => ?_)
    · replace h := (if_pos hc42).symm.trans h
      refine g_aload_n hC rfl 0 rfl (rfl : 25 + 1 = 26) (xdt tt_X11_printInstruction 12 rfl) ?_
      refine g_getP hC hk0 kclX11 ly3_0 3 (by decide) (rfl : r0 + 0 = r0) rfl q22 (rfl : 26 + 3 = 29) (xdt tt_X11_printInstruction 13 rfl) ?_
      obtain ⟨S3, hc2, h⟩ := bd_i h
      refine g_callVv hC hZ hk0 kclX2 ly3_6 m_X2_clear q1503 (Nat.le_of_ble_eq_true rfl) [] rfl (fun l => c_X2_clear_p3_6 l hk0 hA0 hc2) rfl (Nat.le_of_ble_eq_true rfl) (rfl : 29 + 3 = 32) (xdt tt_X11_printInstruction 14 rfl) ?_
      refine g_aload_n hC rfl 0 rfl (rfl : 32 + 1 = 33) (xdt tt_X11_printInstruction 15 rfl) ?_
      refine g_getP hC hk0 kclX11 ly3_0 3 (by decide) (rfl : r0 + 0 = r0) rfl q22 (rfl : 33 + 3 = 36) (xdt tt_X11_printInstruction 16 rfl) ?_
      refine g_aload_n hC rfl 0 rfl (rfl : 36 + 1 = 37) (xdt tt_X11_printInstruction 17 rfl) ?_
      obtain ⟨rg4, hrg4, grg4, h⟩ := ckP_i h
      refine g_getV hC hk0 kclX11 ly3_0 4 (by decide) rfl hrg4 grg4 (by decide) q26 (rfl : 37 + 3 = 40) (xdt tt_X11_printInstruction 18 rfl) (fun krg4 => ?_)
      refine g_getP hC krg4 kclX5 ly2_0 6 (by decide) (rfl : rg4 + 0 = rg4) rfl q626 (rfl : 40 + 3 = 43) (xdt tt_X11_printInstruction 19 rfl) ?_
      refine g_iload_n hC rfl 1 rfl (rfl : 43 + 1 = 44) (xdt tt_X11_printInstruction 20 rfl) ?_
      obtain ⟨hi5, h⟩ := ckI_i h
      refine g_iald hC krg4 ly2_9 hi5 (rfl : 44 + 1 = 45) (xdt tt_X11_printInstruction 21 rfl) (k0 := (wr a1).toNat) rfl ?_
      obtain ⟨S7, hc6, h⟩ := bd_i h
      refine g_callVv hC hZ hk0 kclX2 ly3_6 m_X2_addNumber q1508 (Nat.le_of_ble_eq_true rfl) [vi (gI S3 rg4 9 (wr a1).toNat)] rfl (fun l => c_X2_addNumber_p3_6 l hk0 hA0 hc6) rfl (Nat.le_of_ble_eq_true rfl) (rfl : 45 + 3 = 48) (xdt tt_X11_printInstruction 22 rfl) ?_
      refine g_aload_n hC rfl 0 rfl (rfl : 48 + 1 = 49) (xdt tt_X11_printInstruction 23 rfl) ?_
      refine g_getP hC hk0 kclX11 ly3_0 3 (by decide) (rfl : r0 + 0 = r0) rfl q22 (rfl : 49 + 3 = 52) (xdt tt_X11_printInstruction 24 rfl) ?_
      refine g_bipush hC (by decide) (rfl : 52 + 2 = 54) (xdt tt_X11_printInstruction 25 rfl) ?_
      obtain ⟨S9, hc8, h⟩ := bd_i h
      refine g_callVv hC hZ hk0 kclX2 ly3_6 m_X2_addByte q1516 (Nat.le_of_ble_eq_true rfl) [vi 32] rfl (fun l => c_X2_addByte_p3_6 l hk0 hA0 hc8) rfl (Nat.le_of_ble_eq_true rfl) (rfl : 54 + 3 = 57) (xdt tt_X11_printInstruction 26 rfl) ?_
      refine g_aload_n hC rfl 0 rfl (rfl : 57 + 1 = 58) (xdt tt_X11_printInstruction 27 rfl) ?_
      obtain ⟨rg10, hrg10, grg10, h⟩ := ckP_i h
      refine g_getV hC hk0 kclX11 ly3_0 4 (by decide) rfl hrg10 grg10 (by decide) q26 (rfl : 58 + 3 = 61) (xdt tt_X11_printInstruction 28 rfl) (fun krg10 => ?_)
      refine g_getP hC krg10 kclX5 ly2_0 3 (by decide) (rfl : rg10 + 0 = rg10) rfl q630 (rfl : 61 + 3 = 64) (xdt tt_X11_printInstruction 29 rfl) ?_
      refine g_iload_n hC rfl 1 rfl (rfl : 64 + 1 = 65) (xdt tt_X11_printInstruction 30 rfl) ?_
      obtain ⟨hi11, h⟩ := ckI_i h
      refine g_zald hC krg10 ly2_6 hi11 (rfl : 65 + 1 = 66) (xdt tt_X11_printInstruction 31 rfl) (k0 := (wr a1).toNat) rfl ?_
      refine g_if_eq hC (show ((66 : Nat) : Int) + 13 = ((79 : Nat) : Int) by decide) (rfl : 66 + 3 = 69) (xdt tt_X11_printInstruction 32 rfl) (fun hc41 => ?_) (fun hc41 => ?_)
      · replace h := (if_pos hc41).symm.trans h
        refine g_sub [0, 1] (lv' := [(0, vr E r0 0), (1, vi a1)]) rfl ?_
        exact k_X11_printInstruction_p3_0_b79 hC hZ hE hk0 hA0 _ _ h
      · replace h := (if_neg hc41).symm.trans h
        refine g_aload_n hC rfl 0 rfl (rfl : 69 + 1 = 70) (xdt tt_X11_printInstruction 33 rfl) ?_
        refine g_getP hC hk0 kclX11 ly3_0 3 (by decide) (rfl : r0 + 0 = r0) rfl q22 (rfl : 70 + 3 = 73) (xdt tt_X11_printInstruction 34 rfl) ?_
        refine g_ldcSW hC 40 rfl rfl (rfl : 73 + 3 = 76) (xdt tt_X11_printInstruction 35 rfl) ?_
        obtain ⟨S40, hc39, h⟩ := bd_i h
        refine g_callVv hC hZ hk0 kclX2 ly3_6 m_X2_addText q1517 (Nat.le_of_ble_eq_true rfl) [vs E 40] rfl (fun l => c_X2_addText_p3_6 l hk0 hA0 (show 40 < xldc.length by decide) hc39) rfl (Nat.le_of_ble_eq_true rfl) (rfl : 76 + 3 = 79) (xdt tt_X11_printInstruction 36 rfl) ?_
        refine g_sub [0, 1] (lv' := [(0, vr E r0 0), (1, vi a1)]) rfl ?_
        exact k_X11_printInstruction_p3_0_b79 hC hZ hE hk0 hA0 _ _ h
    · replace h := (if_neg hc42).symm.trans h
      cases h
      exact g_throwS hC hE rfl (q := 22) rfl rfl fit1 q623 q624 at_148 (Nat.le_of_ble_eq_true rfl) (Nat.le_of_ble_eq_true rfl) (xdt tt_X11_printInstruction 7 rfl) (xdt tt_X11_printInstruction 8 rfl) (xdt tt_X11_printInstruction 9 rfl) (xdt tt_X11_printInstruction 10 rfl) (xdt tt_X11_printInstruction 11 rfl)
def f_X11_restoreState_p3_0 (S : xSt) (r0 : Nat) : Option ((Int ⊕ Nat) × xSt) :=
  if ¬ wr (gI S r0 0 9) = 0 then
    (bd (f_X0_copyFrom_p1_0_1_0 S (r0 + 1) (r0 + 3)) fun S2 =>
    bd (f_X1_forget_p3_8 S2 r0) fun S4 =>
    some (Sum.inl (gI S4 (r0 + 1) 15 0), S4))
  else
    (some (Sum.inr 3, S))
set_option maxRecDepth 100000 in
set_option maxHeartbeats 4000000 in
theorem c_X11_restoreState_p3_0 (l : Launch) (htr : l.stackTraces = false) {E : xE} {S S' : xSt} {r0 : Nat} (hk0 : xkd E r0 = 3) (hA0 : xFam E r0) {x : Int ⊕ Nat} (h : f_X11_restoreState_p3_0 S r0 = some (x, S')) : vx_Met l yX11_restoreState (xws yX11_restoreState cX11_restoreState 1 (some .int)) (rmE 6 1) (YPc E [vr E r0 0] S) (YXi E x S') (YXC E x S') 1 6 (xA E) := by
  unfold f_X11_restoreState_p3_0 at h
  refine metX_i htr (by decide +kernel) (Nat.le_of_ble_eq_true rfl) (fun K hC hE => ?_)
  have hZ := xZX hE
  have hC : xOK K cX11_restoreState RX11 1 (rmE 6 1) := hC
  show WG K E 0 [(0, vr E r0 0)] [] S
  refine g_aload_n hC rfl 0 rfl (rfl : 0 + 1 = 1) (xdt tt_X11_restoreState 0 rfl) ?_
  refine g_getI hC hk0 kclX11 ly3_0 9 (by decide) rfl q276 (rfl : 1 + 3 = 4) (xdt tt_X11_restoreState 1 rfl) ?_
  refine g_if_ne hC (show ((4 : Nat) : Int) + 14 = ((18 : Nat) : Int) by decide) (rfl : 4 + 3 = 7) (xdt tt_X11_restoreState 2 rfl) (fun hc5 => ?_) (fun hc5 => ?_)
  · replace h := (if_pos hc5).symm.trans h
    refine g_aload_n hC rfl 0 rfl (rfl : 18 + 1 = 19) (xdt tt_X11_restoreState 8 rfl) ?_
    refine g_getP hC hk0 kclX11 ly3_0 6 (by decide) (rfl : r0 + 1 = (r0 + 1)) rfl q31 (rfl : 19 + 3 = 22) (xdt tt_X11_restoreState 9 rfl) ?_
    refine g_aload_n hC rfl 0 rfl (rfl : 22 + 1 = 23) (xdt tt_X11_restoreState 10 rfl) ?_
    refine g_getP hC hk0 kclX11 ly3_0 8 (by decide) (rfl : r0 + 3 = (r0 + 3)) rfl q33 (rfl : 23 + 3 = 26) (xdt tt_X11_restoreState 11 rfl) ?_
    obtain ⟨S2, hc1, h⟩ := bd_i h
    refine g_callVv hC hZ (hA0 1 (by decide) (by decide)) kclX0 ly1_0 m_X0_copyFrom q1357 (Nat.le_of_ble_eq_true rfl) [vr E (r0 + 3) 0] rfl (fun l => c_X0_copyFrom_p1_0_1_0 l (hA0 1 (by decide) (by decide)) (hA0 3 (by decide) (by decide)) hc1) rfl (Nat.le_of_ble_eq_true rfl) (rfl : 26 + 3 = 29) (xdt tt_X11_restoreState 12 rfl) ?_
    refine g_aload_n hC rfl 0 rfl (rfl : 29 + 1 = 30) (xdt tt_X11_restoreState 13 rfl) ?_
    refine g_getP hC hk0 kclX11 ly3_0 10 (by decide) (rfl : r0 + 0 = r0) rfl q37 (rfl : 30 + 3 = 33) (xdt tt_X11_restoreState 14 rfl) ?_
    obtain ⟨S4, hc3, h⟩ := bd_i h
    refine g_callVv hC hZ hk0 kclX1 ly3_8 m_X1_forget q461 (Nat.le_of_ble_eq_true rfl) [] rfl (fun l => c_X1_forget_p3_8 l hk0 hA0 hc3) rfl (Nat.le_of_ble_eq_true rfl) (rfl : 33 + 3 = 36) (xdt tt_X11_restoreState 15 rfl) ?_
    refine g_aload_n hC rfl 0 rfl (rfl : 36 + 1 = 37) (xdt tt_X11_restoreState 16 rfl) ?_
    refine g_getP hC hk0 kclX11 ly3_0 6 (by decide) (rfl : r0 + 1 = (r0 + 1)) rfl q31 (rfl : 37 + 3 = 40) (xdt tt_X11_restoreState 17 rfl) ?_
    refine g_getP hC (hA0 1 (by decide) (by decide)) kclX0 ly1_0 7 (by decide) (rfl : (r0 + 1) + 0 = (r0 + 1)) rfl q590 (rfl : 40 + 3 = 43) (xdt tt_X11_restoreState 18 rfl) ?_
    refine g_getP hC (hA0 1 (by decide) (by decide)) kclX9 ly1_14 0 (by decide) (rfl : (r0 + 1) + 0 = (r0 + 1)) rfl q591 (rfl : 43 + 3 = 46) (xdt tt_X11_restoreState 19 rfl) ?_
    refine g_iconst hC (rfl : 46 + 1 = 47) (xdt tt_X11_restoreState 20 rfl) ?_
    refine g_iald hC (hA0 1 (by decide) (by decide)) ly1_15 (by decide) (rfl : 47 + 1 = 48) (xdt tt_X11_restoreState 21 rfl) (k0 := 0) (by decide) ?_
    cases h
    exact g_iretX hC hE rfl (xdt tt_X11_restoreState 22 rfl)
  · replace h := (if_neg hc5).symm.trans h
    cases h
    exact g_throwW hC hE rfl (q := 41) rfl rfl fit3 q1286 q1287 at_320 (Nat.le_of_ble_eq_true rfl) (Nat.le_of_ble_eq_true rfl) (xdt tt_X11_restoreState 3 rfl) (xdt tt_X11_restoreState 4 rfl) (xdt tt_X11_restoreState 5 rfl) (xdt tt_X11_restoreState 6 rfl) (xdt tt_X11_restoreState 7 rfl)
