def f_X3_readSetting_p3_2 (S : xSt) (r0 : Nat) (a1 : Int) : Option (Int × xSt) :=
  if 0 < wr (gI S r0 2 10) then
    (bd2 (f_X3_fail_p3_2 S r0 1) fun v3 S2 =>
    some (v3, S2))
  else
    (if wr a1 < 0 then
      (bd2 (f_X3_fail_p3_2 S r0 1) fun v7 S6 =>
      some (v7, S6))
    else
      (if wr a1 < wr 6 then
        (ckI a1 6 <|
        if wr (gI S r0 3 (wr a1).toNat) = 0 then
          (ckI a1 6 <|
          lt1 (wI S r0 3 (wr a1).toNat 1) fun S11 =>
          bd (f_X3_readToken_p3_2 S11 r0) fun S13 =>
          if wr (gI S13 r0 2 3) = wr 2 then
            (bd2 (f_X11_isAllowed S13 a1 (gI S13 r0 2 6)) fun v16 S15 =>
            if ¬ wr v16 = 0 then
              (ckP S15 r0 2 2 2 0 fun rg18 =>
              ckI a1 6 <|
              lt1 (wI S15 rg18 1 (wr a1).toNat (gI S15 r0 2 6)) fun S20 =>
              some (1, S20))
            else
              (bd2 (f_X3_fail_p3_2 S15 r0 2) fun v23 S22 =>
              some (v23, S22)))
          else
            (bd2 (f_X3_fail_p3_2 S13 r0 1) fun v28 S27 =>
            some (v28, S27)))
        else
          (bd2 (f_X3_fail_p3_2 S r0 3) fun v33 S32 =>
          some (v33, S32)))
      else
        (bd2 (f_X3_fail_p3_2 S r0 1) fun v38 S37 =>
        some (v38, S37))))
set_option maxRecDepth 100000 in
set_option maxHeartbeats 4000000 in
theorem c_X3_readSetting_p3_2 (l : Launch) {E : xE} {S S' : xSt} {r0 : Nat} {a1 : Int} (hk0 : xkd E r0 = 3) (hA0 : xFam E r0) {v : Int} (h : f_X3_readSetting_p3_2 S r0 a1 = some (v, S')) : Met l yX3_readSetting (xws yX3_readSetting cX3_readSetting 2 (some .boolean)) (rmD 3) (YPc E [vr E r0 2, vi a1] S) (YQz E v S') 0 0 (xA E) := by
  unfold f_X3_readSetting_p3_2 at h
  refine met_z (by decide +kernel) (Nat.le_of_ble_eq_true rfl) (fun K hC hZ hE => ?_)
  have hC : xOK K cX3_readSetting RX3 2 (rmE 3 0) := hC
  show WG K E 0 [(0, vr E r0 2), (1, vi a1)] [] S
  refine g_aload_n hC rfl 0 rfl (rfl : 0 + 1 = 1) (xdt tt_X3_readSetting 0 rfl) ?_
  refine g_getI hC hk0 kclX3 ly3_2 10 (by decide) rfl q494 (rfl : 1 + 3 = 4) (xdt tt_X3_readSetting 1 rfl) ?_
  refine g_if_gt hC (show ((4 : Nat) : Int) + 13 = ((17 : Nat) : Int) by decide) (rfl : 4 + 3 = 7) (xdt tt_X3_readSetting 2 rfl) (fun hc42 => ?_) (fun hc42 => ?_)
  · replace h := (if_pos hc42).symm.trans h
    refine g_aload_n hC rfl 0 rfl (rfl : 17 + 1 = 18) (xdt tt_X3_readSetting 8 rfl) ?_
    refine g_iconst hC (rfl : 18 + 1 = 19) (xdt tt_X3_readSetting 9 rfl) ?_
    obtain ⟨v3, S2, hc1, h⟩ := bd2_i h
    refine g_callVz hC hZ hk0 kclX3 ly3_2 m_X3_fail q540 (Nat.le_of_ble_eq_true rfl) [vi 1] rfl (fun l => c_X3_fail_p3_2 l hk0 hA0 hc1) rfl (Nat.le_of_ble_eq_true rfl) (rfl : 19 + 3 = 22) (xdt tt_X3_readSetting 10 rfl) (fun hb4 => ?_)
    cases h
    exact g_zret hC hE hb4 (xdt tt_X3_readSetting 11 rfl)
  · replace h := (if_neg hc42).symm.trans h
    refine g_iload_n hC rfl 1 rfl (rfl : 7 + 1 = 8) (xdt tt_X3_readSetting 3 rfl) ?_
    refine g_if_lt hC (show ((8 : Nat) : Int) + 9 = ((17 : Nat) : Int) by decide) (rfl : 8 + 3 = 11) (xdt tt_X3_readSetting 4 rfl) (fun hc41 => ?_) (fun hc41 => ?_)
    · replace h := (if_pos hc41).symm.trans h
      refine g_aload_n hC rfl 0 rfl (rfl : 17 + 1 = 18) (xdt tt_X3_readSetting 8 rfl) ?_
      refine g_iconst hC (rfl : 18 + 1 = 19) (xdt tt_X3_readSetting 9 rfl) ?_
      obtain ⟨v7, S6, hc5, h⟩ := bd2_i h
      refine g_callVz hC hZ hk0 kclX3 ly3_2 m_X3_fail q540 (Nat.le_of_ble_eq_true rfl) [vi 1] rfl (fun l => c_X3_fail_p3_2 l hk0 hA0 hc5) rfl (Nat.le_of_ble_eq_true rfl) (rfl : 19 + 3 = 22) (xdt tt_X3_readSetting 10 rfl) (fun hb8 => ?_)
      cases h
      exact g_zret hC hE hb8 (xdt tt_X3_readSetting 11 rfl)
    · replace h := (if_neg hc41).symm.trans h
      refine g_iload_n hC rfl 1 rfl (rfl : 11 + 1 = 12) (xdt tt_X3_readSetting 5 rfl) ?_
      refine g_bipush hC (by decide) (rfl : 12 + 2 = 14) (xdt tt_X3_readSetting 6 rfl) ?_
      refine g_icmp_lt hC (show ((14 : Nat) : Int) + 9 = ((23 : Nat) : Int) by decide) (rfl : 14 + 3 = 17) (xdt tt_X3_readSetting 7 rfl) (fun hc40 => ?_) (fun hc40 => ?_)
      · replace h := (if_pos hc40).symm.trans h
        refine g_aload_n hC rfl 0 rfl (rfl : 23 + 1 = 24) (xdt tt_X3_readSetting 12 rfl) ?_
        refine g_getP hC hk0 kclX3 ly3_2 7 (by decide) (rfl : r0 + 0 = r0) rfl q43 (rfl : 24 + 3 = 27) (xdt tt_X3_readSetting 13 rfl) ?_
        refine g_iload_n hC rfl 1 rfl (rfl : 27 + 1 = 28) (xdt tt_X3_readSetting 14 rfl) ?_
        obtain ⟨hi9, h⟩ := ckI_i h
        refine g_zald hC hk0 ly3_3 hi9 (rfl : 28 + 1 = 29) (xdt tt_X3_readSetting 15 rfl) (k0 := (wr a1).toNat) rfl ?_
        refine g_if_eq hC (show ((29 : Nat) : Int) + 9 = ((38 : Nat) : Int) by decide) (rfl : 29 + 3 = 32) (xdt tt_X3_readSetting 16 rfl) (fun hc35 => ?_) (fun hc35 => ?_)
        · replace h := (if_pos hc35).symm.trans h
          refine g_aload_n hC rfl 0 rfl (rfl : 38 + 1 = 39) (xdt tt_X3_readSetting 21 rfl) ?_
          refine g_getP hC hk0 kclX3 ly3_2 7 (by decide) (rfl : r0 + 0 = r0) rfl q43 (rfl : 39 + 3 = 42) (xdt tt_X3_readSetting 22 rfl) ?_
          refine g_iload_n hC rfl 1 rfl (rfl : 42 + 1 = 43) (xdt tt_X3_readSetting 23 rfl) ?_
          refine g_iconst hC (rfl : 43 + 1 = 44) (xdt tt_X3_readSetting 24 rfl) ?_
          obtain ⟨hi10, h⟩ := ckI_i h
          obtain ⟨S11, hS11, h⟩ := lt1_i h
          refine g_zast hC hk0 ly3_3 hi10 (Or.inr rfl) rfl hS11 (rfl : 44 + 1 = 45) (xdt tt_X3_readSetting 25 rfl) ?_
          refine g_aload_n hC rfl 0 rfl (rfl : 45 + 1 = 46) (xdt tt_X3_readSetting 26 rfl) ?_
          obtain ⟨S13, hc12, h⟩ := bd_i h
          refine g_callVv hC hZ hk0 kclX3 ly3_2 m_X3_readToken q503 (Nat.le_of_ble_eq_true rfl) [] rfl (fun l => c_X3_readToken_p3_2 l hk0 hA0 hc12) rfl (Nat.le_of_ble_eq_true rfl) (rfl : 46 + 3 = 49) (xdt tt_X3_readSetting 27 rfl) ?_
          refine g_aload_n hC rfl 0 rfl (rfl : 49 + 1 = 50) (xdt tt_X3_readSetting 28 rfl) ?_
          refine g_getI hC hk0 kclX3 ly3_2 3 (by decide) rfl q493 (rfl : 50 + 3 = 53) (xdt tt_X3_readSetting 29 rfl) ?_
          refine g_iconst hC (rfl : 53 + 1 = 54) (xdt tt_X3_readSetting 30 rfl) ?_
          refine g_icmp_eq hC (show ((54 : Nat) : Int) + 9 = ((63 : Nat) : Int) by decide) (rfl : 54 + 3 = 57) (xdt tt_X3_readSetting 31 rfl) (fun hc30 => ?_) (fun hc30 => ?_)
          · replace h := (if_pos hc30).symm.trans h
            refine g_iload_n hC rfl 1 rfl (rfl : 63 + 1 = 64) (xdt tt_X3_readSetting 36 rfl) ?_
            refine g_aload_n hC rfl 0 rfl (rfl : 64 + 1 = 65) (xdt tt_X3_readSetting 37 rfl) ?_
            refine g_getI hC hk0 kclX3 ly3_2 6 (by decide) rfl q516 (rfl : 65 + 3 = 68) (xdt tt_X3_readSetting 38 rfl) ?_
            obtain ⟨v16, S15, hc14, h⟩ := bd2_i h
            refine g_callNz hC hZ m_X11_isAllowed (List.mem_of_getElem? (i := 12) rfl) (Nat.le_of_ble_eq_true rfl) [vi a1, vi (gI S13 r0 2 6)] rfl (fun l => c_X11_isAllowed l hc14) rfl (Nat.le_of_ble_eq_true rfl) (rfl : 68 + 3 = 71) (xdt tt_X3_readSetting 39 rfl) (fun hb17 => ?_)
            refine g_if_ne hC (show ((71 : Nat) : Int) + 9 = ((80 : Nat) : Int) by decide) (rfl : 71 + 3 = 74) (xdt tt_X3_readSetting 40 rfl) (fun hc25 => ?_) (fun hc25 => ?_)
            · replace h := (if_pos hc25).symm.trans h
              refine g_aload_n hC rfl 0 rfl (rfl : 80 + 1 = 81) (xdt tt_X3_readSetting 45 rfl) ?_
              obtain ⟨rg18, hrg18, grg18, h⟩ := ckP_i h
              refine g_getV hC hk0 kclX3 ly3_2 2 (by decide) rfl hrg18 grg18 (by decide) q49 (rfl : 81 + 3 = 84) (xdt tt_X3_readSetting 46 rfl) (fun krg18 => ?_)
              refine g_getP hC krg18 kclX5 ly2_0 0 (by decide) (rfl : rg18 + 0 = rg18) rfl q600 (rfl : 84 + 3 = 87) (xdt tt_X3_readSetting 47 rfl) ?_
              refine g_iload_n hC rfl 1 rfl (rfl : 87 + 1 = 88) (xdt tt_X3_readSetting 48 rfl) ?_
              refine g_aload_n hC rfl 0 rfl (rfl : 88 + 1 = 89) (xdt tt_X3_readSetting 49 rfl) ?_
              refine g_getI hC hk0 kclX3 ly3_2 6 (by decide) rfl q516 (rfl : 89 + 3 = 92) (xdt tt_X3_readSetting 50 rfl) ?_
              obtain ⟨hi19, h⟩ := ckI_i h
              obtain ⟨S20, hS20, h⟩ := lt1_i h
              refine g_iast hC krg18 ly2_1 hi19 rfl hS20 (rfl : 92 + 1 = 93) (xdt tt_X3_readSetting 51 rfl) ?_
              refine g_iconst hC (rfl : 93 + 1 = 94) (xdt tt_X3_readSetting 52 rfl) ?_
              cases h
              exact g_zret hC hE (Or.inr rfl) (xdt tt_X3_readSetting 53 rfl)
            · replace h := (if_neg hc25).symm.trans h
              refine g_aload_n hC rfl 0 rfl (rfl : 74 + 1 = 75) (xdt tt_X3_readSetting 41 rfl) ?_
              refine g_iconst hC (rfl : 75 + 1 = 76) (xdt tt_X3_readSetting 42 rfl) ?_
              obtain ⟨v23, S22, hc21, h⟩ := bd2_i h
              refine g_callVz hC hZ hk0 kclX3 ly3_2 m_X3_fail q540 (Nat.le_of_ble_eq_true rfl) [vi 2] rfl (fun l => c_X3_fail_p3_2 l hk0 hA0 hc21) rfl (Nat.le_of_ble_eq_true rfl) (rfl : 76 + 3 = 79) (xdt tt_X3_readSetting 43 rfl) (fun hb24 => ?_)
              cases h
              exact g_zret hC hE hb24 (xdt tt_X3_readSetting 44 rfl)
          · replace h := (if_neg hc30).symm.trans h
            refine g_aload_n hC rfl 0 rfl (rfl : 57 + 1 = 58) (xdt tt_X3_readSetting 32 rfl) ?_
            refine g_iconst hC (rfl : 58 + 1 = 59) (xdt tt_X3_readSetting 33 rfl) ?_
            obtain ⟨v28, S27, hc26, h⟩ := bd2_i h
            refine g_callVz hC hZ hk0 kclX3 ly3_2 m_X3_fail q540 (Nat.le_of_ble_eq_true rfl) [vi 1] rfl (fun l => c_X3_fail_p3_2 l hk0 hA0 hc26) rfl (Nat.le_of_ble_eq_true rfl) (rfl : 59 + 3 = 62) (xdt tt_X3_readSetting 34 rfl) (fun hb29 => ?_)
            cases h
            exact g_zret hC hE hb29 (xdt tt_X3_readSetting 35 rfl)
        · replace h := (if_neg hc35).symm.trans h
          refine g_aload_n hC rfl 0 rfl (rfl : 32 + 1 = 33) (xdt tt_X3_readSetting 17 rfl) ?_
          refine g_iconst hC (rfl : 33 + 1 = 34) (xdt tt_X3_readSetting 18 rfl) ?_
          obtain ⟨v33, S32, hc31, h⟩ := bd2_i h
          refine g_callVz hC hZ hk0 kclX3 ly3_2 m_X3_fail q540 (Nat.le_of_ble_eq_true rfl) [vi 3] rfl (fun l => c_X3_fail_p3_2 l hk0 hA0 hc31) rfl (Nat.le_of_ble_eq_true rfl) (rfl : 34 + 3 = 37) (xdt tt_X3_readSetting 19 rfl) (fun hb34 => ?_)
          cases h
          exact g_zret hC hE hb34 (xdt tt_X3_readSetting 20 rfl)
      · replace h := (if_neg hc40).symm.trans h
        refine g_aload_n hC rfl 0 rfl (rfl : 17 + 1 = 18) (xdt tt_X3_readSetting 8 rfl) ?_
        refine g_iconst hC (rfl : 18 + 1 = 19) (xdt tt_X3_readSetting 9 rfl) ?_
        obtain ⟨v38, S37, hc36, h⟩ := bd2_i h
        refine g_callVz hC hZ hk0 kclX3 ly3_2 m_X3_fail q540 (Nat.le_of_ble_eq_true rfl) [vi 1] rfl (fun l => c_X3_fail_p3_2 l hk0 hA0 hc36) rfl (Nat.le_of_ble_eq_true rfl) (rfl : 19 + 3 = 22) (xdt tt_X3_readSetting 10 rfl) (fun hb39 => ?_)
        cases h
        exact g_zret hC hE hb39 (xdt tt_X3_readSetting 11 rfl)
def f_X8_has_p2_2_b2 (r0 : Nat) : Nat → xSt → Int → Int → Int → Option (Int × xSt)
  | 0, _, _, _, _ => none
  | fuel + 1, S, x1, x2, x3 =>
    if wr (gI S r0 2 2) ≤ wr x3 then
      (some (0, S))
    else
      (ckI x3 7 <|
      if ¬ wr (gI S r0 3 (wr x3).toNat) = wr x1 then
        ((f_X8_has_p2_2_b2 r0 fuel) S x1 x2 (x3 + 1))
      else
        (ckI x3 7 <|
        if ¬ wr (gI S r0 4 (wr x3).toNat) = wr x2 then
          ((f_X8_has_p2_2_b2 r0 fuel) S x1 x2 (x3 + 1))
        else
          (some (1, S))))
def f_X8_has_p2_2 (S : xSt) (r0 : Nat) (a1 : Int) (a2 : Int) : Option (Int × xSt) :=
  f_X8_has_p2_2_b2 r0 (fu S) S a1 a2 0
set_option maxRecDepth 100000 in
set_option maxHeartbeats 4000000 in
theorem k_X8_has_p2_2_b2 {K : xCtx} {E : xE} {b : Nat} (hC : xOK K cX8_has RX8 4 (rmE 1 b)) (hZ : xZ K) {v : Int} {S' : xSt} (hE : xEnd K E (some .boolean) (YQz E v S')) {r0 : Nat} (hk0 : xkd E r0 = 2) : ∀ (fuel : Nat) (S : xSt) (x1 : Int) (x2 : Int) (x3 : Int), f_X8_has_p2_2_b2 r0 fuel S x1 x2 x3 = some (v, S') → WG K E 2 [(0, vr E r0 2), (1, vi x1), (2, vi x2), (3, vi x3)] [] S := by
  intro fuel
  induction fuel with
  | zero => intro S x1 x2 x3 h; cases h
  | succ fuel ih =>
    intro S x1 x2 x3 h
    rw [f_X8_has_p2_2_b2] at h
    refine g_iload_n hC rfl 3 rfl (rfl : 2 + 1 = 3) (xdt tt_X8_has 2 rfl) ?_
    refine g_aload_n hC rfl 0 rfl (rfl : 3 + 1 = 4) (xdt tt_X8_has 3 rfl) ?_
    refine g_getI hC hk0 kclX8 ly2_2 2 (by decide) rfl q163 (rfl : 4 + 3 = 7) (xdt tt_X8_has 4 rfl) ?_
    refine g_icmp_ge hC (show ((7 : Nat) : Int) + 31 = ((38 : Nat) : Int) by decide) (rfl : 7 + 3 = 10) (xdt tt_X8_has 5 rfl) (fun hc5 => ?_) (fun hc5 => ?_)
    · replace h := (if_pos hc5).symm.trans h
      refine g_iconst hC (rfl : 38 + 1 = 39) (xdt tt_X8_has 22 rfl) ?_
      cases h
      exact g_zret hC hE (Or.inl rfl) (xdt tt_X8_has 23 rfl)
    · replace h := (if_neg hc5).symm.trans h
      refine g_aload_n hC rfl 0 rfl (rfl : 10 + 1 = 11) (xdt tt_X8_has 6 rfl) ?_
      refine g_getP hC hk0 kclX8 ly2_2 0 (by decide) (rfl : r0 + 0 = r0) rfl q71 (rfl : 11 + 3 = 14) (xdt tt_X8_has 7 rfl) ?_
      refine g_iload_n hC rfl 3 rfl (rfl : 14 + 1 = 15) (xdt tt_X8_has 8 rfl) ?_
      obtain ⟨hi1, h⟩ := ckI_i h
      refine g_iald hC hk0 ly2_3 hi1 (rfl : 15 + 1 = 16) (xdt tt_X8_has 9 rfl) (k0 := (wr x3).toNat) rfl ?_
      refine g_iload_n hC rfl 1 rfl (rfl : 16 + 1 = 17) (xdt tt_X8_has 10 rfl) ?_
      refine g_icmp_ne hC (show ((17 : Nat) : Int) + 15 = ((32 : Nat) : Int) by decide) (rfl : 17 + 3 = 20) (xdt tt_X8_has 11 rfl) (fun hc4 => ?_) (fun hc4 => ?_)
      · replace h := (if_pos hc4).symm.trans h
        refine g_iinc hC 3 rfl (by decide) (lv' := [(3, vi (x3 + 1)), (0, vr E r0 2), (1, vi x1), (2, vi x2)]) rfl (rfl : 32 + 3 = 35) (xdt tt_X8_has 20 rfl) ?_
        refine g_goto hC (show ((35 : Nat) : Int) + (-33) = ((2 : Nat) : Int) by decide) (xdt tt_X8_has 21 rfl) ?_
        refine g_sub [1, 2, 3, 0] (lv' := [(0, vr E r0 2), (1, vi x1), (2, vi x2), (3, vi (x3 + 1))]) rfl ?_
        exact ih _ _ _ _ h
      · replace h := (if_neg hc4).symm.trans h
        refine g_aload_n hC rfl 0 rfl (rfl : 20 + 1 = 21) (xdt tt_X8_has 12 rfl) ?_
        refine g_getP hC hk0 kclX8 ly2_2 1 (by decide) (rfl : r0 + 0 = r0) rfl q72 (rfl : 21 + 3 = 24) (xdt tt_X8_has 13 rfl) ?_
        refine g_iload_n hC rfl 3 rfl (rfl : 24 + 1 = 25) (xdt tt_X8_has 14 rfl) ?_
        obtain ⟨hi2, h⟩ := ckI_i h
        refine g_iald hC hk0 ly2_4 hi2 (rfl : 25 + 1 = 26) (xdt tt_X8_has 15 rfl) (k0 := (wr x3).toNat) rfl ?_
        refine g_iload_n hC rfl 2 rfl (rfl : 26 + 1 = 27) (xdt tt_X8_has 16 rfl) ?_
        refine g_icmp_ne hC (show ((27 : Nat) : Int) + 5 = ((32 : Nat) : Int) by decide) (rfl : 27 + 3 = 30) (xdt tt_X8_has 17 rfl) (fun hc3 => ?_) (fun hc3 => ?_)
        · replace h := (if_pos hc3).symm.trans h
          refine g_iinc hC 3 rfl (by decide) (lv' := [(3, vi (x3 + 1)), (0, vr E r0 2), (1, vi x1), (2, vi x2)]) rfl (rfl : 32 + 3 = 35) (xdt tt_X8_has 20 rfl) ?_
          refine g_goto hC (show ((35 : Nat) : Int) + (-33) = ((2 : Nat) : Int) by decide) (xdt tt_X8_has 21 rfl) ?_
          refine g_sub [1, 2, 3, 0] (lv' := [(0, vr E r0 2), (1, vi x1), (2, vi x2), (3, vi (x3 + 1))]) rfl ?_
          exact ih _ _ _ _ h
        · replace h := (if_neg hc3).symm.trans h
          refine g_iconst hC (rfl : 30 + 1 = 31) (xdt tt_X8_has 18 rfl) ?_
          cases h
          exact g_zret hC hE (Or.inr rfl) (xdt tt_X8_has 19 rfl)
set_option maxRecDepth 100000 in
set_option maxHeartbeats 4000000 in
theorem c_X8_has_p2_2 (l : Launch) {E : xE} {S S' : xSt} {r0 : Nat} {a1 : Int} {a2 : Int} (hk0 : xkd E r0 = 2) {v : Int} (h : f_X8_has_p2_2 S r0 a1 a2 = some (v, S')) : Met l yX8_has (xws yX8_has cX8_has 4 (some .boolean)) (rmD 1) (YPc E [vr E r0 2, vi a1, vi a2] S) (YQz E v S') 0 0 (xA E) := by
  unfold f_X8_has_p2_2 at h
  refine met_z (by decide +kernel) (Nat.le_of_ble_eq_true rfl) (fun K hC hZ hE => ?_)
  have hC : xOK K cX8_has RX8 4 (rmE 1 0) := hC
  show WG K E 0 [(0, vr E r0 2), (1, vi a1), (2, vi a2)] [] S
  refine g_iconst hC (rfl : 0 + 1 = 1) (xdt tt_X8_has 0 rfl) ?_
  refine g_istore_n hC rfl (by decide) (lv' := [(3, vi 0), (0, vr E r0 2), (1, vi a1), (2, vi a2)]) rfl (rfl : 1 + 1 = 2) (xdt tt_X8_has 1 rfl) ?_
  refine g_sub [1, 2, 3, 0] (lv' := [(0, vr E r0 2), (1, vi a1), (2, vi a2), (3, vi 0)]) rfl ?_
  exact k_X8_has_p2_2_b2 hC hZ hE hk0 _ _ _ _ _ h
def f_X8_append_p2_2 (S : xSt) (r0 : Nat) (a1 : Int) (a2 : Int) : Option (xSt) :=
  if wr (gI S r0 2 2) < 0 then
    (some S)
  else
    (if wr 7 ≤ wr (gI S r0 2 2) then
      (some S)
    else
      (ckI (gI S r0 2 2) 7 <|
      lt1 (wI S r0 3 (wr (gI S r0 2 2)).toNat a1) fun S2 =>
      ckI (gI S2 r0 2 2) 7 <|
      lt1 (wI S2 r0 4 (wr (gI S2 r0 2 2)).toNat a2) fun S4 =>
      lt1 (wI S4 r0 2 2 ((gI S4 r0 2 2) + 1)) fun S5 =>
      some S5))
set_option maxRecDepth 100000 in
set_option maxHeartbeats 4000000 in
theorem c_X8_append_p2_2 (l : Launch) {E : xE} {S S' : xSt} {r0 : Nat} {a1 : Int} {a2 : Int} (hk0 : xkd E r0 = 2) (h : f_X8_append_p2_2 S r0 a1 a2 = some S') : Met l yX8_append (xws yX8_append cX8_append 3 none) (rmD 1) (YPc E [vr E r0 2, vi a1, vi a2] S) (YQv E S') 0 0 (xA E) := by
  unfold f_X8_append_p2_2 at h
  refine met_v (by decide +kernel) (Nat.le_of_ble_eq_true rfl) (fun K hC hZ hE => ?_)
  have hC : xOK K cX8_append RX8 3 (rmE 1 0) := hC
  show WG K E 0 [(0, vr E r0 2), (1, vi a1), (2, vi a2)] [] S
  refine g_aload_n hC rfl 0 rfl (rfl : 0 + 1 = 1) (xdt tt_X8_append 0 rfl) ?_
  refine g_getI hC hk0 kclX8 ly2_2 2 (by decide) rfl q163 (rfl : 1 + 3 = 4) (xdt tt_X8_append 1 rfl) ?_
  refine g_if_lt hC (show ((4 : Nat) : Int) + 45 = ((49 : Nat) : Int) by decide) (rfl : 4 + 3 = 7) (xdt tt_X8_append 2 rfl) (fun hc7 => ?_) (fun hc7 => ?_)
  · replace h := (if_pos hc7).symm.trans h
    cases h
    exact g_vret hC hE (xdt tt_X8_append 27 rfl)
  · replace h := (if_neg hc7).symm.trans h
    refine g_aload_n hC rfl 0 rfl (rfl : 7 + 1 = 8) (xdt tt_X8_append 3 rfl) ?_
    refine g_getI hC hk0 kclX8 ly2_2 2 (by decide) rfl q163 (rfl : 8 + 3 = 11) (xdt tt_X8_append 4 rfl) ?_
    refine g_aload_n hC rfl 0 rfl (rfl : 11 + 1 = 12) (xdt tt_X8_append 5 rfl) ?_
    refine g_getP hC hk0 kclX8 ly2_2 0 (by decide) (rfl : r0 + 0 = r0) rfl q71 (rfl : 12 + 3 = 15) (xdt tt_X8_append 6 rfl) ?_
    refine g_alen hC hk0 ly2_3 (z := 7) (by decide) (rfl : 15 + 1 = 16) (xdt tt_X8_append 7 rfl) ?_
    refine g_icmp_ge hC (show ((16 : Nat) : Int) + 33 = ((49 : Nat) : Int) by decide) (rfl : 16 + 3 = 19) (xdt tt_X8_append 8 rfl) (fun hc6 => ?_) (fun hc6 => ?_)
    · replace h := (if_pos hc6).symm.trans h
      cases h
      exact g_vret hC hE (xdt tt_X8_append 27 rfl)
    · replace h := (if_neg hc6).symm.trans h
      refine g_aload_n hC rfl 0 rfl (rfl : 19 + 1 = 20) (xdt tt_X8_append 9 rfl) ?_
      refine g_getP hC hk0 kclX8 ly2_2 0 (by decide) (rfl : r0 + 0 = r0) rfl q71 (rfl : 20 + 3 = 23) (xdt tt_X8_append 10 rfl) ?_
      refine g_aload_n hC rfl 0 rfl (rfl : 23 + 1 = 24) (xdt tt_X8_append 11 rfl) ?_
      refine g_getI hC hk0 kclX8 ly2_2 2 (by decide) rfl q163 (rfl : 24 + 3 = 27) (xdt tt_X8_append 12 rfl) ?_
      refine g_iload_n hC rfl 1 rfl (rfl : 27 + 1 = 28) (xdt tt_X8_append 13 rfl) ?_
      obtain ⟨hi1, h⟩ := ckI_i h
      obtain ⟨S2, hS2, h⟩ := lt1_i h
      refine g_iast hC hk0 ly2_3 hi1 rfl hS2 (rfl : 28 + 1 = 29) (xdt tt_X8_append 14 rfl) ?_
      refine g_aload_n hC rfl 0 rfl (rfl : 29 + 1 = 30) (xdt tt_X8_append 15 rfl) ?_
      refine g_getP hC hk0 kclX8 ly2_2 1 (by decide) (rfl : r0 + 0 = r0) rfl q72 (rfl : 30 + 3 = 33) (xdt tt_X8_append 16 rfl) ?_
      refine g_aload_n hC rfl 0 rfl (rfl : 33 + 1 = 34) (xdt tt_X8_append 17 rfl) ?_
      refine g_getI hC hk0 kclX8 ly2_2 2 (by decide) rfl q163 (rfl : 34 + 3 = 37) (xdt tt_X8_append 18 rfl) ?_
      refine g_iload_n hC rfl 2 rfl (rfl : 37 + 1 = 38) (xdt tt_X8_append 19 rfl) ?_
      obtain ⟨hi3, h⟩ := ckI_i h
      obtain ⟨S4, hS4, h⟩ := lt1_i h
      refine g_iast hC hk0 ly2_4 hi3 rfl hS4 (rfl : 38 + 1 = 39) (xdt tt_X8_append 20 rfl) ?_
      refine g_aload_n hC rfl 0 rfl (rfl : 39 + 1 = 40) (xdt tt_X8_append 21 rfl) ?_
      refine g_dup hC rfl (rfl : 40 + 1 = 41) (xdt tt_X8_append 22 rfl) ?_
      refine g_getI hC hk0 kclX8 ly2_2 2 (by decide) rfl q163 (rfl : 41 + 3 = 44) (xdt tt_X8_append 23 rfl) ?_
      refine g_iconst hC (rfl : 44 + 1 = 45) (xdt tt_X8_append 24 rfl) ?_
      refine g_iadd hC (rfl : 45 + 1 = 46) (xdt tt_X8_append 25 rfl) ?_
      obtain ⟨S5, hS5, h⟩ := lt1_i h
      refine g_putI hC hk0 kclX8 ly2_2 2 (by decide) rfl rfl rfl q163 hS5 (rfl : 46 + 3 = 49) (xdt tt_X8_append 26 rfl) ?_
      cases h
      exact g_vret hC hE (xdt tt_X8_append 27 rfl)
def f_X3_readRule_p3_2 (S : xSt) (r0 : Nat) : Option (Int × xSt) :=
  if wr (gI S r0 2 10) ≤ 0 then
    (ckP S r0 2 2 2 0 fun rg1 =>
    if wr (gI S rg1 2 2) < wr 6 then
      (bd (f_X3_readToken_p3_2 S r0) fun S3 =>
      bd2 (f_X3_kindOfToken_p3_2 S3 r0) fun v6 S5 =>
      if ¬ wr v6 = wr (-1) then
        (if wr v6 < wr 8 then
          (bd (f_X3_readToken_p3_2 S5 r0) fun S8 =>
          bd2 (f_X3_kindOfToken_p3_2 S8 r0) fun v11 S10 =>
          if ¬ wr v11 = wr (-1) then
            (ckP S10 r0 2 2 2 0 fun rg12 =>
            bd2 (f_X8_has_p2_2 S10 rg12 v6 v11) fun v15 S14 =>
            if wr v15 = 0 then
              (ckP S14 r0 2 2 2 0 fun rg17 =>
              bd (f_X8_append_p2_2 S14 rg17 v6 v11) fun S19 =>
              some (1, S19))
            else
              (bd2 (f_X3_fail_p3_2 S14 r0 3) fun v22 S21 =>
              some (v22, S21)))
          else
            (bd2 (f_X3_fail_p3_2 S10 r0 1) fun v27 S26 =>
            some (v27, S26)))
        else
          (bd2 (f_X3_fail_p3_2 S5 r0 3) fun v32 S31 =>
          some (v32, S31)))
      else
        (bd2 (f_X3_fail_p3_2 S5 r0 1) fun v37 S36 =>
        some (v37, S36)))
    else
      (bd2 (f_X3_fail_p3_2 S r0 4) fun v42 S41 =>
      some (v42, S41)))
  else
    (bd2 (f_X3_fail_p3_2 S r0 1) fun v47 S46 =>
    some (v47, S46))
set_option maxRecDepth 100000 in
set_option maxHeartbeats 4000000 in
theorem c_X3_readRule_p3_2 (l : Launch) {E : xE} {S S' : xSt} {r0 : Nat} (hk0 : xkd E r0 = 3) (hA0 : xFam E r0) {v : Int} (h : f_X3_readRule_p3_2 S r0 = some (v, S')) : Met l yX3_readRule (xws yX3_readRule cX3_readRule 3 (some .boolean)) (rmD 8) (YPc E [vr E r0 2] S) (YQz E v S') 0 0 (xA E) := by
  unfold f_X3_readRule_p3_2 at h
  refine met_z (by decide +kernel) (Nat.le_of_ble_eq_true rfl) (fun K hC hZ hE => ?_)
  have hC : xOK K cX3_readRule RX3 3 (rmE 8 0) := hC
  show WG K E 0 [(0, vr E r0 2)] [] S
  refine g_aload_n hC rfl 0 rfl (rfl : 0 + 1 = 1) (xdt tt_X3_readRule 0 rfl) ?_
  refine g_getI hC hk0 kclX3 ly3_2 10 (by decide) rfl q494 (rfl : 1 + 3 = 4) (xdt tt_X3_readRule 1 rfl) ?_
  refine g_if_le hC (show ((4 : Nat) : Int) + 9 = ((13 : Nat) : Int) by decide) (rfl : 4 + 3 = 7) (xdt tt_X3_readRule 2 rfl) (fun hc49 => ?_) (fun hc49 => ?_)
  · replace h := (if_pos hc49).symm.trans h
    refine g_aload_n hC rfl 0 rfl (rfl : 13 + 1 = 14) (xdt tt_X3_readRule 7 rfl) ?_
    obtain ⟨rg1, hrg1, grg1, h⟩ := ckP_i h
    refine g_getV hC hk0 kclX3 ly3_2 2 (by decide) rfl hrg1 grg1 (by decide) q49 (rfl : 14 + 3 = 17) (xdt tt_X3_readRule 8 rfl) (fun krg1 => ?_)
    refine g_getP hC krg1 kclX5 ly2_0 1 (by decide) (rfl : rg1 + 0 = rg1) rfl q574 (rfl : 17 + 3 = 20) (xdt tt_X3_readRule 9 rfl) ?_
    refine g_getI hC krg1 kclX8 ly2_2 2 (by decide) rfl q575 (rfl : 20 + 3 = 23) (xdt tt_X3_readRule 10 rfl) ?_
    refine g_bipush hC (by decide) (rfl : 23 + 2 = 25) (xdt tt_X3_readRule 11 rfl) ?_
    refine g_icmp_lt hC (show ((25 : Nat) : Int) + 9 = ((34 : Nat) : Int) by decide) (rfl : 25 + 3 = 28) (xdt tt_X3_readRule 12 rfl) (fun hc44 => ?_) (fun hc44 => ?_)
    · replace h := (if_pos hc44).symm.trans h
      refine g_aload_n hC rfl 0 rfl (rfl : 34 + 1 = 35) (xdt tt_X3_readRule 17 rfl) ?_
      obtain ⟨S3, hc2, h⟩ := bd_i h
      refine g_callVv hC hZ hk0 kclX3 ly3_2 m_X3_readToken q503 (Nat.le_of_ble_eq_true rfl) [] rfl (fun l => c_X3_readToken_p3_2 l hk0 hA0 hc2) rfl (Nat.le_of_ble_eq_true rfl) (rfl : 35 + 3 = 38) (xdt tt_X3_readRule 18 rfl) ?_
      refine g_aload_n hC rfl 0 rfl (rfl : 38 + 1 = 39) (xdt tt_X3_readRule 19 rfl) ?_
      obtain ⟨v6, S5, hc4, h⟩ := bd2_i h
      refine g_callVi hC hZ hk0 kclX3 ly3_2 m_X3_kindOfToken q576 (Nat.le_of_ble_eq_true rfl) [] rfl (fun l => c_X3_kindOfToken_p3_2 l hk0 hA0 hc4) rfl (Nat.le_of_ble_eq_true rfl) (rfl : 39 + 3 = 42) (xdt tt_X3_readRule 20 rfl) ?_
      refine g_istore_n hC rfl (by decide) (lv' := [(1, vi v6), (0, vr E r0 2)]) rfl (rfl : 42 + 1 = 43) (xdt tt_X3_readRule 21 rfl) ?_
      refine g_iload_n hC rfl 0 rfl (rfl : 43 + 1 = 44) (xdt tt_X3_readRule 22 rfl) ?_
      refine g_iconst hC (rfl : 44 + 1 = 45) (xdt tt_X3_readRule 23 rfl) ?_
      refine g_icmp_ne hC (show ((45 : Nat) : Int) + 9 = ((54 : Nat) : Int) by decide) (rfl : 45 + 3 = 48) (xdt tt_X3_readRule 24 rfl) (fun hc39 => ?_) (fun hc39 => ?_)
      · replace h := (if_pos hc39).symm.trans h
        refine g_iload_n hC rfl 0 rfl (rfl : 54 + 1 = 55) (xdt tt_X3_readRule 29 rfl) ?_
        refine g_bipush hC (by decide) (rfl : 55 + 2 = 57) (xdt tt_X3_readRule 30 rfl) ?_
        refine g_icmp_lt hC (show ((57 : Nat) : Int) + 9 = ((66 : Nat) : Int) by decide) (rfl : 57 + 3 = 60) (xdt tt_X3_readRule 31 rfl) (fun hc34 => ?_) (fun hc34 => ?_)
        · replace h := (if_pos hc34).symm.trans h
          refine g_aload_n hC rfl 1 rfl (rfl : 66 + 1 = 67) (xdt tt_X3_readRule 36 rfl) ?_
          obtain ⟨S8, hc7, h⟩ := bd_i h
          refine g_callVv hC hZ hk0 kclX3 ly3_2 m_X3_readToken q503 (Nat.le_of_ble_eq_true rfl) [] rfl (fun l => c_X3_readToken_p3_2 l hk0 hA0 hc7) rfl (Nat.le_of_ble_eq_true rfl) (rfl : 67 + 3 = 70) (xdt tt_X3_readRule 37 rfl) ?_
          refine g_aload_n hC rfl 1 rfl (rfl : 70 + 1 = 71) (xdt tt_X3_readRule 38 rfl) ?_
          obtain ⟨v11, S10, hc9, h⟩ := bd2_i h
          refine g_callVi hC hZ hk0 kclX3 ly3_2 m_X3_kindOfToken q576 (Nat.le_of_ble_eq_true rfl) [] rfl (fun l => c_X3_kindOfToken_p3_2 l hk0 hA0 hc9) rfl (Nat.le_of_ble_eq_true rfl) (rfl : 71 + 3 = 74) (xdt tt_X3_readRule 39 rfl) ?_
          refine g_istore_n hC rfl (by decide) (lv' := [(2, vi v11), (1, vi v6), (0, vr E r0 2)]) rfl (rfl : 74 + 1 = 75) (xdt tt_X3_readRule 40 rfl) ?_
          refine g_iload_n hC rfl 0 rfl (rfl : 75 + 1 = 76) (xdt tt_X3_readRule 41 rfl) ?_
          refine g_iconst hC (rfl : 76 + 1 = 77) (xdt tt_X3_readRule 42 rfl) ?_
          refine g_icmp_ne hC (show ((77 : Nat) : Int) + 9 = ((86 : Nat) : Int) by decide) (rfl : 77 + 3 = 80) (xdt tt_X3_readRule 43 rfl) (fun hc29 => ?_) (fun hc29 => ?_)
          · replace h := (if_pos hc29).symm.trans h
            refine g_aload_n hC rfl 2 rfl (rfl : 86 + 1 = 87) (xdt tt_X3_readRule 48 rfl) ?_
            obtain ⟨rg12, hrg12, grg12, h⟩ := ckP_i h
            refine g_getV hC hk0 kclX3 ly3_2 2 (by decide) rfl hrg12 grg12 (by decide) q49 (rfl : 87 + 3 = 90) (xdt tt_X3_readRule 49 rfl) (fun krg12 => ?_)
            refine g_getP hC krg12 kclX5 ly2_0 1 (by decide) (rfl : rg12 + 0 = rg12) rfl q574 (rfl : 90 + 3 = 93) (xdt tt_X3_readRule 50 rfl) ?_
            refine g_iload_n hC rfl 1 rfl (rfl : 93 + 1 = 94) (xdt tt_X3_readRule 51 rfl) ?_
            refine g_iload_n hC rfl 0 rfl (rfl : 94 + 1 = 95) (xdt tt_X3_readRule 52 rfl) ?_
            obtain ⟨v15, S14, hc13, h⟩ := bd2_i h
            refine g_callVz hC hZ krg12 kclX8 ly2_2 m_X8_has q582 (Nat.le_of_ble_eq_true rfl) [vi v6, vi v11] rfl (fun l => c_X8_has_p2_2 l krg12 hc13) rfl (Nat.le_of_ble_eq_true rfl) (rfl : 95 + 3 = 98) (xdt tt_X3_readRule 53 rfl) (fun hb16 => ?_)
            refine g_if_eq hC (show ((98 : Nat) : Int) + 9 = ((107 : Nat) : Int) by decide) (rfl : 98 + 3 = 101) (xdt tt_X3_readRule 54 rfl) (fun hc24 => ?_) (fun hc24 => ?_)
            · replace h := (if_pos hc24).symm.trans h
              refine g_aload_n hC rfl 2 rfl (rfl : 107 + 1 = 108) (xdt tt_X3_readRule 59 rfl) ?_
              obtain ⟨rg17, hrg17, grg17, h⟩ := ckP_i h
              refine g_getV hC hk0 kclX3 ly3_2 2 (by decide) rfl hrg17 grg17 (by decide) q49 (rfl : 108 + 3 = 111) (xdt tt_X3_readRule 60 rfl) (fun krg17 => ?_)
              refine g_getP hC krg17 kclX5 ly2_0 1 (by decide) (rfl : rg17 + 0 = rg17) rfl q574 (rfl : 111 + 3 = 114) (xdt tt_X3_readRule 61 rfl) ?_
              refine g_iload_n hC rfl 1 rfl (rfl : 114 + 1 = 115) (xdt tt_X3_readRule 62 rfl) ?_
              refine g_iload_n hC rfl 0 rfl (rfl : 115 + 1 = 116) (xdt tt_X3_readRule 63 rfl) ?_
              obtain ⟨S19, hc18, h⟩ := bd_i h
              refine g_callVv hC hZ krg17 kclX8 ly2_2 m_X8_append q586 (Nat.le_of_ble_eq_true rfl) [vi v6, vi v11] rfl (fun l => c_X8_append_p2_2 l krg17 hc18) rfl (Nat.le_of_ble_eq_true rfl) (rfl : 116 + 3 = 119) (xdt tt_X3_readRule 64 rfl) ?_
              refine g_iconst hC (rfl : 119 + 1 = 120) (xdt tt_X3_readRule 65 rfl) ?_
              cases h
              exact g_zret hC hE (Or.inr rfl) (xdt tt_X3_readRule 66 rfl)
            · replace h := (if_neg hc24).symm.trans h
              refine g_aload_n hC rfl 2 rfl (rfl : 101 + 1 = 102) (xdt tt_X3_readRule 55 rfl) ?_
              refine g_iconst hC (rfl : 102 + 1 = 103) (xdt tt_X3_readRule 56 rfl) ?_
              obtain ⟨v22, S21, hc20, h⟩ := bd2_i h
              refine g_callVz hC hZ hk0 kclX3 ly3_2 m_X3_fail q540 (Nat.le_of_ble_eq_true rfl) [vi 3] rfl (fun l => c_X3_fail_p3_2 l hk0 hA0 hc20) rfl (Nat.le_of_ble_eq_true rfl) (rfl : 103 + 3 = 106) (xdt tt_X3_readRule 57 rfl) (fun hb23 => ?_)
              cases h
              exact g_zret hC hE hb23 (xdt tt_X3_readRule 58 rfl)
          · replace h := (if_neg hc29).symm.trans h
            refine g_aload_n hC rfl 2 rfl (rfl : 80 + 1 = 81) (xdt tt_X3_readRule 44 rfl) ?_
            refine g_iconst hC (rfl : 81 + 1 = 82) (xdt tt_X3_readRule 45 rfl) ?_
            obtain ⟨v27, S26, hc25, h⟩ := bd2_i h
            refine g_callVz hC hZ hk0 kclX3 ly3_2 m_X3_fail q540 (Nat.le_of_ble_eq_true rfl) [vi 1] rfl (fun l => c_X3_fail_p3_2 l hk0 hA0 hc25) rfl (Nat.le_of_ble_eq_true rfl) (rfl : 82 + 3 = 85) (xdt tt_X3_readRule 46 rfl) (fun hb28 => ?_)
            cases h
            exact g_zret hC hE hb28 (xdt tt_X3_readRule 47 rfl)
        · replace h := (if_neg hc34).symm.trans h
          refine g_aload_n hC rfl 1 rfl (rfl : 60 + 1 = 61) (xdt tt_X3_readRule 32 rfl) ?_
          refine g_iconst hC (rfl : 61 + 1 = 62) (xdt tt_X3_readRule 33 rfl) ?_
          obtain ⟨v32, S31, hc30, h⟩ := bd2_i h
          refine g_callVz hC hZ hk0 kclX3 ly3_2 m_X3_fail q540 (Nat.le_of_ble_eq_true rfl) [vi 3] rfl (fun l => c_X3_fail_p3_2 l hk0 hA0 hc30) rfl (Nat.le_of_ble_eq_true rfl) (rfl : 62 + 3 = 65) (xdt tt_X3_readRule 34 rfl) (fun hb33 => ?_)
          cases h
          exact g_zret hC hE hb33 (xdt tt_X3_readRule 35 rfl)
      · replace h := (if_neg hc39).symm.trans h
        refine g_aload_n hC rfl 1 rfl (rfl : 48 + 1 = 49) (xdt tt_X3_readRule 25 rfl) ?_
        refine g_iconst hC (rfl : 49 + 1 = 50) (xdt tt_X3_readRule 26 rfl) ?_
        obtain ⟨v37, S36, hc35, h⟩ := bd2_i h
        refine g_callVz hC hZ hk0 kclX3 ly3_2 m_X3_fail q540 (Nat.le_of_ble_eq_true rfl) [vi 1] rfl (fun l => c_X3_fail_p3_2 l hk0 hA0 hc35) rfl (Nat.le_of_ble_eq_true rfl) (rfl : 50 + 3 = 53) (xdt tt_X3_readRule 27 rfl) (fun hb38 => ?_)
        cases h
        exact g_zret hC hE hb38 (xdt tt_X3_readRule 28 rfl)
    · replace h := (if_neg hc44).symm.trans h
      refine g_aload_n hC rfl 0 rfl (rfl : 28 + 1 = 29) (xdt tt_X3_readRule 13 rfl) ?_
      refine g_iconst hC (rfl : 29 + 1 = 30) (xdt tt_X3_readRule 14 rfl) ?_
      obtain ⟨v42, S41, hc40, h⟩ := bd2_i h
      refine g_callVz hC hZ hk0 kclX3 ly3_2 m_X3_fail q540 (Nat.le_of_ble_eq_true rfl) [vi 4] rfl (fun l => c_X3_fail_p3_2 l hk0 hA0 hc40) rfl (Nat.le_of_ble_eq_true rfl) (rfl : 30 + 3 = 33) (xdt tt_X3_readRule 15 rfl) (fun hb43 => ?_)
      cases h
      exact g_zret hC hE hb43 (xdt tt_X3_readRule 16 rfl)
  · replace h := (if_neg hc49).symm.trans h
    refine g_aload_n hC rfl 0 rfl (rfl : 7 + 1 = 8) (xdt tt_X3_readRule 3 rfl) ?_
    refine g_iconst hC (rfl : 8 + 1 = 9) (xdt tt_X3_readRule 4 rfl) ?_
    obtain ⟨v47, S46, hc45, h⟩ := bd2_i h
    refine g_callVz hC hZ hk0 kclX3 ly3_2 m_X3_fail q540 (Nat.le_of_ble_eq_true rfl) [vi 1] rfl (fun l => c_X3_fail_p3_2 l hk0 hA0 hc45) rfl (Nat.le_of_ble_eq_true rfl) (rfl : 9 + 3 = 12) (xdt tt_X3_readRule 5 rfl) (fun hb48 => ?_)
    cases h
    exact g_zret hC hE hb48 (xdt tt_X3_readRule 6 rfl)
def f_X3_openRepeat_p3_2 (S : xSt) (r0 : Nat) : Option (Int × xSt) :=
  if wr (gI S r0 2 10) < wr 2 then
    (bd2 (f_X3_readNumber_p3_2 S r0 1 9) fun v3 S2 =>
    if wr v3 = wr (-1) then
      (some (0, S2))
    else
      (bd2 (f_X3_readSign_p3_2 S2 r0 40) fun v6 S5 =>
      if ¬ wr v6 = 0 then
        (ckP S5 r0 2 2 2 0 fun rg8 =>
        ckI (gI S5 r0 2 10) 2 <|
        lt1 (wI S5 r0 4 (wr (gI S5 r0 2 10)).toNat (gI S5 rg8 0 10)) fun S10 =>
        ckI (gI S10 r0 2 10) 2 <|
        lt1 (wI S10 r0 5 (wr (gI S10 r0 2 10)).toNat (v3 - 1)) fun S12 =>
        lt1 (wI S12 r0 2 10 ((gI S12 r0 2 10) + 1)) fun S13 =>
        some (1, S13))
      else
        (some (0, S5))))
  else
    (bd2 (f_X3_fail_p3_2 S r0 4) fun v18 S17 =>
    some (v18, S17))
set_option maxRecDepth 100000 in
set_option maxHeartbeats 4000000 in
theorem c_X3_openRepeat_p3_2 (l : Launch) {E : xE} {S S' : xSt} {r0 : Nat} (hk0 : xkd E r0 = 3) (hA0 : xFam E r0) {v : Int} (h : f_X3_openRepeat_p3_2 S r0 = some (v, S')) : Met l yX3_openRepeat (xws yX3_openRepeat cX3_openRepeat 2 (some .boolean)) (rmD 4) (YPc E [vr E r0 2] S) (YQz E v S') 0 0 (xA E) := by
  unfold f_X3_openRepeat_p3_2 at h
  refine met_z (by decide +kernel) (Nat.le_of_ble_eq_true rfl) (fun K hC hZ hE => ?_)
  have hC : xOK K cX3_openRepeat RX3 2 (rmE 4 0) := hC
  show WG K E 0 [(0, vr E r0 2)] [] S
  refine g_aload_n hC rfl 0 rfl (rfl : 0 + 1 = 1) (xdt tt_X3_openRepeat 0 rfl) ?_
  refine g_getI hC hk0 kclX3 ly3_2 10 (by decide) rfl q494 (rfl : 1 + 3 = 4) (xdt tt_X3_openRepeat 1 rfl) ?_
  refine g_iconst hC (rfl : 4 + 1 = 5) (xdt tt_X3_openRepeat 2 rfl) ?_
  refine g_icmp_lt hC (show ((5 : Nat) : Int) + 9 = ((14 : Nat) : Int) by decide) (rfl : 5 + 3 = 8) (xdt tt_X3_openRepeat 3 rfl) (fun hc20 => ?_) (fun hc20 => ?_)
  · replace h := (if_pos hc20).symm.trans h
    refine g_aload_n hC rfl 0 rfl (rfl : 14 + 1 = 15) (xdt tt_X3_openRepeat 8 rfl) ?_
    refine g_iconst hC (rfl : 15 + 1 = 16) (xdt tt_X3_openRepeat 9 rfl) ?_
    refine g_bipush hC (by decide) (rfl : 16 + 2 = 18) (xdt tt_X3_openRepeat 10 rfl) ?_
    obtain ⟨v3, S2, hc1, h⟩ := bd2_i h
    refine g_callVi hC hZ hk0 kclX3 ly3_2 m_X3_readNumber q566 (Nat.le_of_ble_eq_true rfl) [vi 1, vi 9] rfl (fun l => c_X3_readNumber_p3_2 l hk0 hA0 hc1) rfl (Nat.le_of_ble_eq_true rfl) (rfl : 18 + 3 = 21) (xdt tt_X3_openRepeat 11 rfl) ?_
    refine g_istore_n hC rfl (by decide) (lv' := [(1, vi v3), (0, vr E r0 2)]) rfl (rfl : 21 + 1 = 22) (xdt tt_X3_openRepeat 12 rfl) ?_
    refine g_iload_n hC rfl 0 rfl (rfl : 22 + 1 = 23) (xdt tt_X3_openRepeat 13 rfl) ?_
    refine g_iconst hC (rfl : 23 + 1 = 24) (xdt tt_X3_openRepeat 14 rfl) ?_
    refine g_icmp_eq hC (show ((24 : Nat) : Int) + 12 = ((36 : Nat) : Int) by decide) (rfl : 24 + 3 = 27) (xdt tt_X3_openRepeat 15 rfl) (fun hc15 => ?_) (fun hc15 => ?_)
    · replace h := (if_pos hc15).symm.trans h
      refine g_iconst hC (rfl : 36 + 1 = 37) (xdt tt_X3_openRepeat 20 rfl) ?_
      cases h
      exact g_zret hC hE (Or.inl rfl) (xdt tt_X3_openRepeat 21 rfl)
    · replace h := (if_neg hc15).symm.trans h
      refine g_aload_n hC rfl 1 rfl (rfl : 27 + 1 = 28) (xdt tt_X3_openRepeat 16 rfl) ?_
      refine g_bipush hC (by decide) (rfl : 28 + 2 = 30) (xdt tt_X3_openRepeat 17 rfl) ?_
      obtain ⟨v6, S5, hc4, h⟩ := bd2_i h
      refine g_callVz hC hZ hk0 kclX3 ly3_2 m_X3_readSign q552 (Nat.le_of_ble_eq_true rfl) [vi 40] rfl (fun l => c_X3_readSign_p3_2 l hk0 hA0 hc4) rfl (Nat.le_of_ble_eq_true rfl) (rfl : 30 + 3 = 33) (xdt tt_X3_openRepeat 18 rfl) (fun hb7 => ?_)
      refine g_if_ne hC (show ((33 : Nat) : Int) + 5 = ((38 : Nat) : Int) by decide) (rfl : 33 + 3 = 36) (xdt tt_X3_openRepeat 19 rfl) (fun hc14 => ?_) (fun hc14 => ?_)
      · replace h := (if_pos hc14).symm.trans h
        refine g_aload_n hC rfl 1 rfl (rfl : 38 + 1 = 39) (xdt tt_X3_openRepeat 22 rfl) ?_
        refine g_getP hC hk0 kclX3 ly3_2 8 (by decide) (rfl : r0 + 0 = r0) rfl q45 (rfl : 39 + 3 = 42) (xdt tt_X3_openRepeat 23 rfl) ?_
        refine g_aload_n hC rfl 1 rfl (rfl : 42 + 1 = 43) (xdt tt_X3_openRepeat 24 rfl) ?_
        refine g_getI hC hk0 kclX3 ly3_2 10 (by decide) rfl q494 (rfl : 43 + 3 = 46) (xdt tt_X3_openRepeat 25 rfl) ?_
        refine g_aload_n hC rfl 1 rfl (rfl : 46 + 1 = 47) (xdt tt_X3_openRepeat 26 rfl) ?_
        obtain ⟨rg8, hrg8, grg8, h⟩ := ckP_i h
        refine g_getV hC hk0 kclX3 ly3_2 2 (by decide) rfl hrg8 grg8 (by decide) q49 (rfl : 47 + 3 = 50) (xdt tt_X3_openRepeat 27 rfl) (fun krg8 => ?_)
        refine g_getI hC krg8 kclX5 ly2_0 10 (by decide) rfl q539 (rfl : 50 + 3 = 53) (xdt tt_X3_openRepeat 28 rfl) ?_
        obtain ⟨hi9, h⟩ := ckI_i h
        obtain ⟨S10, hS10, h⟩ := lt1_i h
        refine g_iast hC hk0 ly3_4 hi9 rfl hS10 (rfl : 53 + 1 = 54) (xdt tt_X3_openRepeat 29 rfl) ?_
        refine g_aload_n hC rfl 1 rfl (rfl : 54 + 1 = 55) (xdt tt_X3_openRepeat 30 rfl) ?_
        refine g_getP hC hk0 kclX3 ly3_2 9 (by decide) (rfl : r0 + 0 = r0) rfl q46 (rfl : 55 + 3 = 58) (xdt tt_X3_openRepeat 31 rfl) ?_
        refine g_aload_n hC rfl 1 rfl (rfl : 58 + 1 = 59) (xdt tt_X3_openRepeat 32 rfl) ?_
        refine g_getI hC hk0 kclX3 ly3_2 10 (by decide) rfl q494 (rfl : 59 + 3 = 62) (xdt tt_X3_openRepeat 33 rfl) ?_
        refine g_iload_n hC rfl 0 rfl (rfl : 62 + 1 = 63) (xdt tt_X3_openRepeat 34 rfl) ?_
        refine g_iconst hC (rfl : 63 + 1 = 64) (xdt tt_X3_openRepeat 35 rfl) ?_
        refine g_isub hC (rfl : 64 + 1 = 65) (xdt tt_X3_openRepeat 36 rfl) ?_
        obtain ⟨hi11, h⟩ := ckI_i h
        obtain ⟨S12, hS12, h⟩ := lt1_i h
        refine g_iast hC hk0 ly3_5 hi11 rfl hS12 (rfl : 65 + 1 = 66) (xdt tt_X3_openRepeat 37 rfl) ?_
        refine g_aload_n hC rfl 1 rfl (rfl : 66 + 1 = 67) (xdt tt_X3_openRepeat 38 rfl) ?_
        refine g_dup hC rfl (rfl : 67 + 1 = 68) (xdt tt_X3_openRepeat 39 rfl) ?_
        refine g_getI hC hk0 kclX3 ly3_2 10 (by decide) rfl q494 (rfl : 68 + 3 = 71) (xdt tt_X3_openRepeat 40 rfl) ?_
        refine g_iconst hC (rfl : 71 + 1 = 72) (xdt tt_X3_openRepeat 41 rfl) ?_
        refine g_iadd hC (rfl : 72 + 1 = 73) (xdt tt_X3_openRepeat 42 rfl) ?_
        obtain ⟨S13, hS13, h⟩ := lt1_i h
        refine g_putI hC hk0 kclX3 ly3_2 10 (by decide) rfl rfl rfl q494 hS13 (rfl : 73 + 3 = 76) (xdt tt_X3_openRepeat 43 rfl) ?_
        refine g_iconst hC (rfl : 76 + 1 = 77) (xdt tt_X3_openRepeat 44 rfl) ?_
        cases h
        exact g_zret hC hE (Or.inr rfl) (xdt tt_X3_openRepeat 45 rfl)
      · replace h := (if_neg hc14).symm.trans h
        refine g_iconst hC (rfl : 36 + 1 = 37) (xdt tt_X3_openRepeat 20 rfl) ?_
        cases h
        exact g_zret hC hE (Or.inl rfl) (xdt tt_X3_openRepeat 21 rfl)
  · replace h := (if_neg hc20).symm.trans h
    refine g_aload_n hC rfl 0 rfl (rfl : 8 + 1 = 9) (xdt tt_X3_openRepeat 4 rfl) ?_
    refine g_iconst hC (rfl : 9 + 1 = 10) (xdt tt_X3_openRepeat 5 rfl) ?_
    obtain ⟨v18, S17, hc16, h⟩ := bd2_i h
    refine g_callVz hC hZ hk0 kclX3 ly3_2 m_X3_fail q540 (Nat.le_of_ble_eq_true rfl) [vi 4] rfl (fun l => c_X3_fail_p3_2 l hk0 hA0 hc16) rfl (Nat.le_of_ble_eq_true rfl) (rfl : 10 + 3 = 13) (xdt tt_X3_openRepeat 6 rfl) (fun hb19 => ?_)
    cases h
    exact g_zret hC hE hb19 (xdt tt_X3_openRepeat 7 rfl)
def f_X5_repeatFrom_p2_0_b21 (c8 : xSt → Int → Int → Int → Int → Option (xSt)) (r0 : Nat) : Nat → xSt → Int → Int → Int → Int → Int → Option (xSt)
  | 0, _, _, _, _, _, _ => none
  | fuel + 1, S, x1, x2, x3, x4, x5 =>
    if wr x3 ≤ wr x5 then
      (c8 S x1 x2 x3 (x4 + 1))
    else
      (ckI x5 60 <|
      ckI x5 60 <|
      ckI x5 60 <|
      ckI x5 60 <|
      bd (f_X5_append_p2_0 S r0 (gI S r0 5 (wr x5).toNat) (gI S r0 6 (wr x5).toNat) (gI S r0 7 (wr x5).toNat) (gI S r0 8 (wr x5).toNat)) fun S6 =>
      (f_X5_repeatFrom_p2_0_b21 c8 r0 fuel) S6 x1 x2 x3 x4 (x5 + 1))
def f_X5_repeatFrom_p2_0_b8 (r0 : Nat) : Nat → xSt → Int → Int → Int → Int → Option (xSt)
  | 0, _, _, _, _, _ => none
  | fuel + 1, S, x1, x2, x3, x4 =>
    if wr x2 ≤ wr x4 then
      (some S)
    else
      (f_X5_repeatFrom_p2_0_b21 ((f_X5_repeatFrom_p2_0_b8 r0 fuel)) r0 (fu S) S x1 x2 x3 x4 (iMax x1 0))
def f_X5_repeatFrom_p2_0 (S : xSt) (r0 : Nat) (a1 : Int) (a2 : Int) : Option (xSt) :=
  f_X5_repeatFrom_p2_0_b8 r0 (fu S) S a1 a2 (gI S r0 0 10) 0
set_option maxRecDepth 100000 in
set_option maxHeartbeats 4000000 in
theorem k_X5_repeatFrom_p2_0_b21 {K : xCtx} {E : xE} {b : Nat} (hC : xOK K cX5_repeatFrom RX5 6 (rmE 2 b)) (hZ : xZ K) {S' : xSt} (hE : xEnd K E none (YQv E S')) {r0 : Nat} (hk0 : xkd E r0 = 2) {c8 : xSt → Int → Int → Int → Int → Option (xSt)} (hrec8 : ∀ (S : xSt) (x1 : Int) (x2 : Int) (x3 : Int) (x4 : Int), c8 S x1 x2 x3 x4 = some S' → WG K E 8 [(0, vr E r0 0), (1, vi x1), (2, vi x2), (3, vi x3), (4, vi x4)] [] S) : ∀ (fuel : Nat) (S : xSt) (x1 : Int) (x2 : Int) (x3 : Int) (x4 : Int) (x5 : Int), f_X5_repeatFrom_p2_0_b21 c8 r0 fuel S x1 x2 x3 x4 x5 = some S' → WG K E 21 [(0, vr E r0 0), (1, vi x1), (2, vi x2), (3, vi x3), (4, vi x4), (5, vi x5)] [] S := by
  intro fuel
  induction fuel with
  | zero => intro S x1 x2 x3 x4 x5 h; cases h
  | succ fuel ih =>
    intro S x1 x2 x3 x4 x5 h
    rw [f_X5_repeatFrom_p2_0_b21] at h
    refine g_iload hC 5 rfl (rfl : 21 + 2 = 23) (xdt tt_X5_repeatFrom 12 rfl) ?_
    refine g_iload_n hC rfl 3 rfl (rfl : 23 + 1 = 24) (xdt tt_X5_repeatFrom 13 rfl) ?_
    refine g_icmp_ge hC (show ((24 : Nat) : Int) + 41 = ((65 : Nat) : Int) by decide) (rfl : 24 + 3 = 27) (xdt tt_X5_repeatFrom 14 rfl) (fun hc7 => ?_) (fun hc7 => ?_)
    · replace h := (if_pos hc7).symm.trans h
      refine g_iinc hC 4 rfl (by decide) (lv' := [(4, vi (x4 + 1)), (0, vr E r0 0), (1, vi x1), (2, vi x2), (3, vi x3), (5, vi x5)]) rfl (rfl : 65 + 3 = 68) (xdt tt_X5_repeatFrom 35 rfl) ?_
      refine g_goto hC (show ((68 : Nat) : Int) + (-60) = ((8 : Nat) : Int) by decide) (xdt tt_X5_repeatFrom 36 rfl) ?_
      refine g_sub [1, 2, 3, 4, 0] (lv' := [(0, vr E r0 0), (1, vi x1), (2, vi x2), (3, vi x3), (4, vi (x4 + 1))]) rfl ?_
      exact hrec8 _ _ _ _ _ h
    · replace h := (if_neg hc7).symm.trans h
      refine g_aload_n hC rfl 0 rfl (rfl : 27 + 1 = 28) (xdt tt_X5_repeatFrom 15 rfl) ?_
      refine g_aload_n hC rfl 0 rfl (rfl : 28 + 1 = 29) (xdt tt_X5_repeatFrom 16 rfl) ?_
      refine g_getP hC hk0 kclX5 ly2_0 2 (by decide) (rfl : r0 + 0 = r0) rfl q60 (rfl : 29 + 3 = 32) (xdt tt_X5_repeatFrom 17 rfl) ?_
      refine g_iload hC 5 rfl (rfl : 32 + 2 = 34) (xdt tt_X5_repeatFrom 18 rfl) ?_
      obtain ⟨hi1, h⟩ := ckI_i h
      refine g_iald hC hk0 ly2_5 hi1 (rfl : 34 + 1 = 35) (xdt tt_X5_repeatFrom 19 rfl) (k0 := (wr x5).toNat) rfl ?_
      refine g_aload_n hC rfl 0 rfl (rfl : 35 + 1 = 36) (xdt tt_X5_repeatFrom 20 rfl) ?_
      refine g_getP hC hk0 kclX5 ly2_0 3 (by decide) (rfl : r0 + 0 = r0) rfl q61 (rfl : 36 + 3 = 39) (xdt tt_X5_repeatFrom 21 rfl) ?_
      refine g_iload hC 5 rfl (rfl : 39 + 2 = 41) (xdt tt_X5_repeatFrom 22 rfl) ?_
      obtain ⟨hi2, h⟩ := ckI_i h
      refine g_zald hC hk0 ly2_6 hi2 (rfl : 41 + 1 = 42) (xdt tt_X5_repeatFrom 23 rfl) (k0 := (wr x5).toNat) rfl ?_
      refine g_aload_n hC rfl 0 rfl (rfl : 42 + 1 = 43) (xdt tt_X5_repeatFrom 24 rfl) ?_
      refine g_getP hC hk0 kclX5 ly2_0 4 (by decide) (rfl : r0 + 0 = r0) rfl q62 (rfl : 43 + 3 = 46) (xdt tt_X5_repeatFrom 25 rfl) ?_
      refine g_iload hC 5 rfl (rfl : 46 + 2 = 48) (xdt tt_X5_repeatFrom 26 rfl) ?_
      obtain ⟨hi3, h⟩ := ckI_i h
      refine g_iald hC hk0 ly2_7 hi3 (rfl : 48 + 1 = 49) (xdt tt_X5_repeatFrom 27 rfl) (k0 := (wr x5).toNat) rfl ?_
      refine g_aload_n hC rfl 0 rfl (rfl : 49 + 1 = 50) (xdt tt_X5_repeatFrom 28 rfl) ?_
      refine g_getP hC hk0 kclX5 ly2_0 5 (by decide) (rfl : r0 + 0 = r0) rfl q63 (rfl : 50 + 3 = 53) (xdt tt_X5_repeatFrom 29 rfl) ?_
      refine g_iload hC 5 rfl (rfl : 53 + 2 = 55) (xdt tt_X5_repeatFrom 30 rfl) ?_
      obtain ⟨hi4, h⟩ := ckI_i h
      refine g_iald hC hk0 ly2_8 hi4 (rfl : 55 + 1 = 56) (xdt tt_X5_repeatFrom 31 rfl) (k0 := (wr x5).toNat) rfl ?_
      obtain ⟨S6, hc5, h⟩ := bd_i h
      refine g_callVv hC hZ hk0 kclX5 ly2_0 m_X5_append q548 (Nat.le_of_ble_eq_true rfl) [vi (gI S r0 5 (wr x5).toNat), vi (gI S r0 6 (wr x5).toNat), vi (gI S r0 7 (wr x5).toNat), vi (gI S r0 8 (wr x5).toNat)] rfl (fun l => c_X5_append_p2_0 l hk0 hc5) rfl (Nat.le_of_ble_eq_true rfl) (rfl : 56 + 3 = 59) (xdt tt_X5_repeatFrom 32 rfl) ?_
      refine g_iinc hC 5 rfl (by decide) (lv' := [(5, vi (x5 + 1)), (0, vr E r0 0), (1, vi x1), (2, vi x2), (3, vi x3), (4, vi x4)]) rfl (rfl : 59 + 3 = 62) (xdt tt_X5_repeatFrom 33 rfl) ?_
      refine g_goto hC (show ((62 : Nat) : Int) + (-41) = ((21 : Nat) : Int) by decide) (xdt tt_X5_repeatFrom 34 rfl) ?_
      refine g_sub [1, 2, 3, 4, 5, 0] (lv' := [(0, vr E r0 0), (1, vi x1), (2, vi x2), (3, vi x3), (4, vi x4), (5, vi (x5 + 1))]) rfl ?_
      exact ih _ _ _ _ _ _ h
set_option maxRecDepth 100000 in
set_option maxHeartbeats 4000000 in
theorem k_X5_repeatFrom_p2_0_b8 {K : xCtx} {E : xE} {b : Nat} (hC : xOK K cX5_repeatFrom RX5 6 (rmE 2 b)) (hZ : xZ K) {S' : xSt} (hE : xEnd K E none (YQv E S')) {r0 : Nat} (hk0 : xkd E r0 = 2) : ∀ (fuel : Nat) (S : xSt) (x1 : Int) (x2 : Int) (x3 : Int) (x4 : Int), f_X5_repeatFrom_p2_0_b8 r0 fuel S x1 x2 x3 x4 = some S' → WG K E 8 [(0, vr E r0 0), (1, vi x1), (2, vi x2), (3, vi x3), (4, vi x4)] [] S := by
  intro fuel
  induction fuel with
  | zero => intro S x1 x2 x3 x4 h; cases h
  | succ fuel ih =>
    intro S x1 x2 x3 x4 h
    rw [f_X5_repeatFrom_p2_0_b8] at h
    refine g_iload hC 4 rfl (rfl : 8 + 2 = 10) (xdt tt_X5_repeatFrom 5 rfl) ?_
    refine g_iload_n hC rfl 2 rfl (rfl : 10 + 1 = 11) (xdt tt_X5_repeatFrom 6 rfl) ?_
    refine g_icmp_ge hC (show ((11 : Nat) : Int) + 60 = ((71 : Nat) : Int) by decide) (rfl : 11 + 3 = 14) (xdt tt_X5_repeatFrom 7 rfl) (fun hc8 => ?_) (fun hc8 => ?_)
    · replace h := (if_pos hc8).symm.trans h
      cases h
      exact g_vret hC hE (xdt tt_X5_repeatFrom 37 rfl)
    · replace h := (if_neg hc8).symm.trans h
      refine g_iload_n hC rfl 1 rfl (rfl : 14 + 1 = 15) (xdt tt_X5_repeatFrom 8 rfl) ?_
      refine g_iconst hC (rfl : 15 + 1 = 16) (xdt tt_X5_repeatFrom 9 rfl) ?_
      refine g_mmax hC hZ q521 q242 q243 q244 (Nat.le_of_ble_eq_true rfl) (Nat.le_of_ble_eq_true rfl) (rfl : 16 + 3 = 19) (xdt tt_X5_repeatFrom 10 rfl) ?_
      refine g_istore hC (by decide) (lv' := [(5, vi (iMax x1 0)), (0, vr E r0 0), (1, vi x1), (2, vi x2), (3, vi x3), (4, vi x4)]) rfl (rfl : 19 + 2 = 21) (xdt tt_X5_repeatFrom 11 rfl) ?_
      refine g_sub [1, 2, 3, 4, 5, 0] (lv' := [(0, vr E r0 0), (1, vi x1), (2, vi x2), (3, vi x3), (4, vi x4), (5, vi (iMax x1 0))]) rfl ?_
      exact k_X5_repeatFrom_p2_0_b21 hC hZ hE hk0 ih _ _ _ _ _ _ _ h
set_option maxRecDepth 100000 in
set_option maxHeartbeats 4000000 in
theorem c_X5_repeatFrom_p2_0 (l : Launch) {E : xE} {S S' : xSt} {r0 : Nat} {a1 : Int} {a2 : Int} (hk0 : xkd E r0 = 2) (h : f_X5_repeatFrom_p2_0 S r0 a1 a2 = some S') : Met l yX5_repeatFrom (xws yX5_repeatFrom cX5_repeatFrom 6 none) (rmD 2) (YPc E [vr E r0 0, vi a1, vi a2] S) (YQv E S') 0 0 (xA E) := by
  unfold f_X5_repeatFrom_p2_0 at h
  refine met_v (by decide +kernel) (Nat.le_of_ble_eq_true rfl) (fun K hC hZ hE => ?_)
  have hC : xOK K cX5_repeatFrom RX5 6 (rmE 2 0) := hC
  show WG K E 0 [(0, vr E r0 0), (1, vi a1), (2, vi a2)] [] S
  refine g_aload_n hC rfl 0 rfl (rfl : 0 + 1 = 1) (xdt tt_X5_repeatFrom 0 rfl) ?_
  refine g_getI hC hk0 kclX5 ly2_0 10 (by decide) rfl q82 (rfl : 1 + 3 = 4) (xdt tt_X5_repeatFrom 1 rfl) ?_
  refine g_istore_n hC rfl (by decide) (lv' := [(3, vi (gI S r0 0 10)), (0, vr E r0 0), (1, vi a1), (2, vi a2)]) rfl (rfl : 4 + 1 = 5) (xdt tt_X5_repeatFrom 2 rfl) ?_
  refine g_iconst hC (rfl : 5 + 1 = 6) (xdt tt_X5_repeatFrom 3 rfl) ?_
  refine g_istore hC (by decide) (lv' := [(4, vi 0), (3, vi (gI S r0 0 10)), (0, vr E r0 0), (1, vi a1), (2, vi a2)]) rfl (rfl : 6 + 2 = 8) (xdt tt_X5_repeatFrom 4 rfl) ?_
  refine g_sub [2, 3, 4, 1, 0] (lv' := [(0, vr E r0 0), (1, vi a1), (2, vi a2), (3, vi (gI S r0 0 10)), (4, vi 0)]) rfl ?_
  exact k_X5_repeatFrom_p2_0_b8 hC hZ hE hk0 _ _ _ _ _ _ h
def f_X3_closeRepeat_p3_2 (S : xSt) (r0 : Nat) : Option (Int × xSt) :=
  if 0 ≤ wr ((iMin (gI S r0 2 10) 2) - 1) then
    (ckP S r0 2 2 2 0 fun rg1 =>
    ckI ((iMin (gI S r0 2 10) 2) - 1) 2 <|
    ckP S r0 2 2 2 0 fun rg3 =>
    ckI ((iMin (gI S r0 2 10) 2) - 1) 2 <|
    lt1 (((gI S rg1 0 10) - (gI S r0 4 (wr ((iMin (gI S r0 2 10) 2) - 1)).toNat)) * (gI S r0 5 (wr ((iMin (gI S r0 2 10) 2) - 1)).toNat)) fun y5 =>
    if wr ((gI S rg3 0 10) + y5) ≤ wr 60 then
      (ckP S r0 2 2 2 0 fun rg6 =>
      ckI ((iMin (gI S r0 2 10) 2) - 1) 2 <|
      ckI ((iMin (gI S r0 2 10) 2) - 1) 2 <|
      bd (f_X5_repeatFrom_p2_0 S rg6 (gI S r0 4 (wr ((iMin (gI S r0 2 10) 2) - 1)).toNat) (gI S r0 5 (wr ((iMin (gI S r0 2 10) 2) - 1)).toNat)) fun S10 =>
      lt1 (wI S10 r0 2 10 ((gI S10 r0 2 10) - 1)) fun S11 =>
      some (1, S11))
    else
      (bd2 (f_X3_fail_p3_2 S r0 4) fun v14 S13 =>
      some (v14, S13)))
  else
    (bd2 (f_X3_fail_p3_2 S r0 1) fun v19 S18 =>
    some (v19, S18))
set_option maxRecDepth 100000 in
set_option maxHeartbeats 4000000 in
theorem c_X3_closeRepeat_p3_2 (l : Launch) {E : xE} {S S' : xSt} {r0 : Nat} (hk0 : xkd E r0 = 3) (hA0 : xFam E r0) {v : Int} (h : f_X3_closeRepeat_p3_2 S r0 = some (v, S')) : Met l yX3_closeRepeat (xws yX3_closeRepeat cX3_closeRepeat 3 (some .boolean)) (rmD 3) (YPc E [vr E r0 2] S) (YQz E v S') 0 0 (xA E) := by
  unfold f_X3_closeRepeat_p3_2 at h
  refine met_z (by decide +kernel) (Nat.le_of_ble_eq_true rfl) (fun K hC hZ hE => ?_)
  have hC : xOK K cX3_closeRepeat RX3 3 (rmE 3 0) := hC
  show WG K E 0 [(0, vr E r0 2)] [] S
  refine g_aload_n hC rfl 0 rfl (rfl : 0 + 1 = 1) (xdt tt_X3_closeRepeat 0 rfl) ?_
  refine g_getI hC hk0 kclX3 ly3_2 10 (by decide) rfl q494 (rfl : 1 + 3 = 4) (xdt tt_X3_closeRepeat 1 rfl) ?_
  refine g_iconst hC (rfl : 4 + 1 = 5) (xdt tt_X3_closeRepeat 2 rfl) ?_
  refine g_mmin hC hZ q499 q259 q243 q260 (Nat.le_of_ble_eq_true rfl) (Nat.le_of_ble_eq_true rfl) (rfl : 5 + 3 = 8) (xdt tt_X3_closeRepeat 3 rfl) ?_
  refine g_iconst hC (rfl : 8 + 1 = 9) (xdt tt_X3_closeRepeat 4 rfl) ?_
  refine g_isub hC (rfl : 9 + 1 = 10) (xdt tt_X3_closeRepeat 5 rfl) ?_
  refine g_istore_n hC rfl (by decide) (lv' := [(1, vi ((iMin (gI S r0 2 10) 2) - 1)), (0, vr E r0 2)]) rfl (rfl : 10 + 1 = 11) (xdt tt_X3_closeRepeat 6 rfl) ?_
  refine g_iload_n hC rfl 0 rfl (rfl : 11 + 1 = 12) (xdt tt_X3_closeRepeat 7 rfl) ?_
  refine g_if_ge hC (show ((12 : Nat) : Int) + 9 = ((21 : Nat) : Int) by decide) (rfl : 12 + 3 = 15) (xdt tt_X3_closeRepeat 8 rfl) (fun hc21 => ?_) (fun hc21 => ?_)
  · replace h := (if_pos hc21).symm.trans h
    refine g_aload_n hC rfl 1 rfl (rfl : 21 + 1 = 22) (xdt tt_X3_closeRepeat 13 rfl) ?_
    obtain ⟨rg1, hrg1, grg1, h⟩ := ckP_i h
    refine g_getV hC hk0 kclX3 ly3_2 2 (by decide) rfl hrg1 grg1 (by decide) q49 (rfl : 22 + 3 = 25) (xdt tt_X3_closeRepeat 14 rfl) (fun krg1 => ?_)
    refine g_getI hC krg1 kclX5 ly2_0 10 (by decide) rfl q539 (rfl : 25 + 3 = 28) (xdt tt_X3_closeRepeat 15 rfl) ?_
    refine g_aload_n hC rfl 1 rfl (rfl : 28 + 1 = 29) (xdt tt_X3_closeRepeat 16 rfl) ?_
    refine g_getP hC hk0 kclX3 ly3_2 8 (by decide) (rfl : r0 + 0 = r0) rfl q45 (rfl : 29 + 3 = 32) (xdt tt_X3_closeRepeat 17 rfl) ?_
    refine g_iload_n hC rfl 0 rfl (rfl : 32 + 1 = 33) (xdt tt_X3_closeRepeat 18 rfl) ?_
    obtain ⟨hi2, h⟩ := ckI_i h
    refine g_iald hC hk0 ly3_4 hi2 (rfl : 33 + 1 = 34) (xdt tt_X3_closeRepeat 19 rfl) (k0 := (wr ((iMin (gI S r0 2 10) 2) - 1)).toNat) rfl ?_
    refine g_isub hC (rfl : 34 + 1 = 35) (xdt tt_X3_closeRepeat 20 rfl) ?_
    refine g_istore_n hC rfl (by decide) (lv' := [(2, vi ((gI S rg1 0 10) - (gI S r0 4 (wr ((iMin (gI S r0 2 10) 2) - 1)).toNat))), (1, vi ((iMin (gI S r0 2 10) 2) - 1)), (0, vr E r0 2)]) rfl (rfl : 35 + 1 = 36) (xdt tt_X3_closeRepeat 21 rfl) ?_
    refine g_aload_n hC rfl 2 rfl (rfl : 36 + 1 = 37) (xdt tt_X3_closeRepeat 22 rfl) ?_
    obtain ⟨rg3, hrg3, grg3, h⟩ := ckP_i h
    refine g_getV hC hk0 kclX3 ly3_2 2 (by decide) rfl hrg3 grg3 (by decide) q49 (rfl : 37 + 3 = 40) (xdt tt_X3_closeRepeat 23 rfl) (fun krg3 => ?_)
    refine g_getI hC krg3 kclX5 ly2_0 10 (by decide) rfl q539 (rfl : 40 + 3 = 43) (xdt tt_X3_closeRepeat 24 rfl) ?_
    refine g_iload_n hC rfl 0 rfl (rfl : 43 + 1 = 44) (xdt tt_X3_closeRepeat 25 rfl) ?_
    refine g_aload_n hC rfl 2 rfl (rfl : 44 + 1 = 45) (xdt tt_X3_closeRepeat 26 rfl) ?_
    refine g_getP hC hk0 kclX3 ly3_2 9 (by decide) (rfl : r0 + 0 = r0) rfl q46 (rfl : 45 + 3 = 48) (xdt tt_X3_closeRepeat 27 rfl) ?_
    refine g_iload_n hC rfl 1 rfl (rfl : 48 + 1 = 49) (xdt tt_X3_closeRepeat 28 rfl) ?_
    obtain ⟨hi4, h⟩ := ckI_i h
    refine g_iald hC hk0 ly3_5 hi4 (rfl : 49 + 1 = 50) (xdt tt_X3_closeRepeat 29 rfl) (k0 := (wr ((iMin (gI S r0 2 10) 2) - 1)).toNat) rfl ?_
    refine g_imul hC (rfl : 50 + 1 = 51) (xdt tt_X3_closeRepeat 30 rfl) ?_
    obtain ⟨y5, hy5, h⟩ := lt1_i h
    refine g_eqi hy5 ?_
    refine g_iadd hC (rfl : 51 + 1 = 52) (xdt tt_X3_closeRepeat 31 rfl) ?_
    refine g_bipush hC (by decide) (rfl : 52 + 2 = 54) (xdt tt_X3_closeRepeat 32 rfl) ?_
    refine g_icmp_le hC (show ((54 : Nat) : Int) + 9 = ((63 : Nat) : Int) by decide) (rfl : 54 + 3 = 57) (xdt tt_X3_closeRepeat 33 rfl) (fun hc16 => ?_) (fun hc16 => ?_)
    · replace h := (if_pos hc16).symm.trans h
      refine g_aload_n hC rfl 2 rfl (rfl : 63 + 1 = 64) (xdt tt_X3_closeRepeat 38 rfl) ?_
      obtain ⟨rg6, hrg6, grg6, h⟩ := ckP_i h
      refine g_getV hC hk0 kclX3 ly3_2 2 (by decide) rfl hrg6 grg6 (by decide) q49 (rfl : 64 + 3 = 67) (xdt tt_X3_closeRepeat 39 rfl) (fun krg6 => ?_)
      refine g_aload_n hC rfl 2 rfl (rfl : 67 + 1 = 68) (xdt tt_X3_closeRepeat 40 rfl) ?_
      refine g_getP hC hk0 kclX3 ly3_2 8 (by decide) (rfl : r0 + 0 = r0) rfl q45 (rfl : 68 + 3 = 71) (xdt tt_X3_closeRepeat 41 rfl) ?_
      refine g_iload_n hC rfl 1 rfl (rfl : 71 + 1 = 72) (xdt tt_X3_closeRepeat 42 rfl) ?_
      obtain ⟨hi7, h⟩ := ckI_i h
      refine g_iald hC hk0 ly3_4 hi7 (rfl : 72 + 1 = 73) (xdt tt_X3_closeRepeat 43 rfl) (k0 := (wr ((iMin (gI S r0 2 10) 2) - 1)).toNat) rfl ?_
      refine g_aload_n hC rfl 2 rfl (rfl : 73 + 1 = 74) (xdt tt_X3_closeRepeat 44 rfl) ?_
      refine g_getP hC hk0 kclX3 ly3_2 9 (by decide) (rfl : r0 + 0 = r0) rfl q46 (rfl : 74 + 3 = 77) (xdt tt_X3_closeRepeat 45 rfl) ?_
      refine g_iload_n hC rfl 1 rfl (rfl : 77 + 1 = 78) (xdt tt_X3_closeRepeat 46 rfl) ?_
      obtain ⟨hi8, h⟩ := ckI_i h
      refine g_iald hC hk0 ly3_5 hi8 (rfl : 78 + 1 = 79) (xdt tt_X3_closeRepeat 47 rfl) (k0 := (wr ((iMin (gI S r0 2 10) 2) - 1)).toNat) rfl ?_
      obtain ⟨S10, hc9, h⟩ := bd_i h
      refine g_callVv hC hZ krg6 kclX5 ly2_0 m_X5_repeatFrom q544 (Nat.le_of_ble_eq_true rfl) [vi (gI S r0 4 (wr ((iMin (gI S r0 2 10) 2) - 1)).toNat), vi (gI S r0 5 (wr ((iMin (gI S r0 2 10) 2) - 1)).toNat)] rfl (fun l => c_X5_repeatFrom_p2_0 l krg6 hc9) rfl (Nat.le_of_ble_eq_true rfl) (rfl : 79 + 3 = 82) (xdt tt_X3_closeRepeat 48 rfl) ?_
      refine g_aload_n hC rfl 2 rfl (rfl : 82 + 1 = 83) (xdt tt_X3_closeRepeat 49 rfl) ?_
      refine g_dup hC rfl (rfl : 83 + 1 = 84) (xdt tt_X3_closeRepeat 50 rfl) ?_
      refine g_getI hC hk0 kclX3 ly3_2 10 (by decide) rfl q494 (rfl : 84 + 3 = 87) (xdt tt_X3_closeRepeat 51 rfl) ?_
      refine g_iconst hC (rfl : 87 + 1 = 88) (xdt tt_X3_closeRepeat 52 rfl) ?_
      refine g_isub hC (rfl : 88 + 1 = 89) (xdt tt_X3_closeRepeat 53 rfl) ?_
      obtain ⟨S11, hS11, h⟩ := lt1_i h
      refine g_putI hC hk0 kclX3 ly3_2 10 (by decide) rfl rfl rfl q494 hS11 (rfl : 89 + 3 = 92) (xdt tt_X3_closeRepeat 54 rfl) ?_
      refine g_iconst hC (rfl : 92 + 1 = 93) (xdt tt_X3_closeRepeat 55 rfl) ?_
      cases h
      exact g_zret hC hE (Or.inr rfl) (xdt tt_X3_closeRepeat 56 rfl)
    · replace h := (if_neg hc16).symm.trans h
      refine g_aload_n hC rfl 2 rfl (rfl : 57 + 1 = 58) (xdt tt_X3_closeRepeat 34 rfl) ?_
      refine g_iconst hC (rfl : 58 + 1 = 59) (xdt tt_X3_closeRepeat 35 rfl) ?_
      obtain ⟨v14, S13, hc12, h⟩ := bd2_i h
      refine g_callVz hC hZ hk0 kclX3 ly3_2 m_X3_fail q540 (Nat.le_of_ble_eq_true rfl) [vi 4] rfl (fun l => c_X3_fail_p3_2 l hk0 hA0 hc12) rfl (Nat.le_of_ble_eq_true rfl) (rfl : 59 + 3 = 62) (xdt tt_X3_closeRepeat 36 rfl) (fun hb15 => ?_)
      cases h
      exact g_zret hC hE hb15 (xdt tt_X3_closeRepeat 37 rfl)
  · replace h := (if_neg hc21).symm.trans h
    refine g_aload_n hC rfl 1 rfl (rfl : 15 + 1 = 16) (xdt tt_X3_closeRepeat 9 rfl) ?_
    refine g_iconst hC (rfl : 16 + 1 = 17) (xdt tt_X3_closeRepeat 10 rfl) ?_
    obtain ⟨v19, S18, hc17, h⟩ := bd2_i h
    refine g_callVz hC hZ hk0 kclX3 ly3_2 m_X3_fail q540 (Nat.le_of_ble_eq_true rfl) [vi 1] rfl (fun l => c_X3_fail_p3_2 l hk0 hA0 hc17) rfl (Nat.le_of_ble_eq_true rfl) (rfl : 17 + 3 = 20) (xdt tt_X3_closeRepeat 11 rfl) (fun hb20 => ?_)
    cases h
    exact g_zret hC hE hb20 (xdt tt_X3_closeRepeat 12 rfl)
def f_X3_readStatement_p3_2_b38 (r0 : Nat) (S : xSt) : Option (Int × xSt) :=
  bd2 (f_X3_tokenIs_p3_2 S r0 6) fun v3 S2 =>
  if wr v3 = 0 then
    (bd2 (f_X3_tokenIs_p3_2 S2 r0 7) fun v7 S6 =>
    if wr v7 = 0 then
      (bd2 (f_X3_settingOfToken_p3_2 S6 r0) fun v11 S10 =>
      if wr v11 = wr (-1) then
        (bd2 (f_X3_readInstruction_p3_2 S10 r0) fun v14 S13 =>
        if wr v14 = 0 then
          (some (0, S13))
        else
          (bd2 (f_X3_readSign_p3_2 S13 r0 59) fun v18 S17 =>
          if wr v18 = 0 then
            (some (0, S17))
          else
            (some (1, S17))))
      else
        (bd2 (f_X3_readSetting_p3_2 S10 r0 v11) fun v24 S23 =>
        if wr v24 = 0 then
          (some (0, S23))
        else
          (bd2 (f_X3_readSign_p3_2 S23 r0 59) fun v28 S27 =>
          if wr v28 = 0 then
            (some (0, S27))
          else
            (some (1, S27)))))
    else
      (bd2 (f_X3_readRule_p3_2 S6 r0) fun v35 S34 =>
      if wr v35 = 0 then
        (some (0, S34))
      else
        (bd2 (f_X3_readSign_p3_2 S34 r0 59) fun v39 S38 =>
        if wr v39 = 0 then
          (some (0, S38))
        else
          (some (1, S38)))))
  else
    (bd2 (f_X3_openRepeat_p3_2 S2 r0) fun v46 S45 =>
    some (v46, S45))
def f_X3_readStatement_p3_2 (S : xSt) (r0 : Nat) : Option (Int × xSt) :=
  if ¬ wr (gI S r0 2 3) = wr 41 then
    (f_X3_readStatement_p3_2_b38 r0 S)
  else
    (if wr (gI S r0 2 10) ≤ 0 then
      (f_X3_readStatement_p3_2_b38 r0 S)
    else
      (bd2 (f_X3_closeRepeat_p3_2 S r0) fun v51 S50 =>
      if wr v51 = 0 then
        (some (0, S50))
      else
        (bd2 (f_X3_readSign_p3_2 S50 r0 59) fun v55 S54 =>
        if wr v55 = 0 then
          (some (0, S54))
        else
          (some (1, S54)))))
set_option maxRecDepth 100000 in
set_option maxHeartbeats 4000000 in
theorem k_X3_readStatement_p3_2_b38 {K : xCtx} {E : xE} {b : Nat} (hC : xOK K cX3_readStatement RX3 2 (rmE 9 b)) (hZ : xZ K) {v : Int} {S' : xSt} (hE : xEnd K E (some .boolean) (YQz E v S')) {r0 : Nat} (hk0 : xkd E r0 = 3) (hA0 : xFam E r0) : ∀ (S : xSt) , f_X3_readStatement_p3_2_b38 r0 S = some (v, S') → WG K E 38 [(0, vr E r0 2)] [] S := by
  intro S h
  unfold f_X3_readStatement_p3_2_b38 at h
  refine g_aload_n hC rfl 0 rfl (rfl : 38 + 1 = 39) (xdt tt_X3_readStatement 18 rfl) ?_
  refine g_ldcS hC 6 rfl rfl (rfl : 39 + 2 = 41) (xdt tt_X3_readStatement 19 rfl) ?_
  obtain ⟨v3, S2, hc1, h⟩ := bd2_i h
  refine g_callVz hC hZ hk0 kclX3 ly3_2 m_X3_tokenIs q556 (Nat.le_of_ble_eq_true rfl) [vs E 6] rfl (fun l => c_X3_tokenIs_p3_2 l hk0 hA0 (show 6 < xldc.length by decide) hc1) rfl (Nat.le_of_ble_eq_true rfl) (rfl : 41 + 3 = 44) (xdt tt_X3_readStatement 20 rfl) (fun hb4 => ?_)
  refine g_if_eq hC (show ((44 : Nat) : Int) + 8 = ((52 : Nat) : Int) by decide) (rfl : 44 + 3 = 47) (xdt tt_X3_readStatement 21 rfl) (fun hc48 => ?_) (fun hc48 => ?_)
  · replace h := (if_pos hc48).symm.trans h
    refine g_aload_n hC rfl 0 rfl (rfl : 52 + 1 = 53) (xdt tt_X3_readStatement 25 rfl) ?_
    refine g_ldcS hC 7 rfl rfl (rfl : 53 + 2 = 55) (xdt tt_X3_readStatement 26 rfl) ?_
    obtain ⟨v7, S6, hc5, h⟩ := bd2_i h
    refine g_callVz hC hZ hk0 kclX3 ly3_2 m_X3_tokenIs q556 (Nat.le_of_ble_eq_true rfl) [vs E 7] rfl (fun l => c_X3_tokenIs_p3_2 l hk0 hA0 (show 7 < xldc.length by decide) hc5) rfl (Nat.le_of_ble_eq_true rfl) (rfl : 55 + 3 = 58) (xdt tt_X3_readStatement 27 rfl) (fun hb8 => ?_)
    refine g_if_eq hC (show ((58 : Nat) : Int) + 25 = ((83 : Nat) : Int) by decide) (rfl : 58 + 3 = 61) (xdt tt_X3_readStatement 28 rfl) (fun hc43 => ?_) (fun hc43 => ?_)
    · replace h := (if_pos hc43).symm.trans h
      refine g_aload_n hC rfl 0 rfl (rfl : 83 + 1 = 84) (xdt tt_X3_readStatement 40 rfl) ?_
      obtain ⟨v11, S10, hc9, h⟩ := bd2_i h
      refine g_callVi hC hZ hk0 kclX3 ly3_2 m_X3_settingOfToken q590 (Nat.le_of_ble_eq_true rfl) [] rfl (fun l => c_X3_settingOfToken_p3_2 l hk0 hA0 hc9) rfl (Nat.le_of_ble_eq_true rfl) (rfl : 84 + 3 = 87) (xdt tt_X3_readStatement 41 rfl) ?_
      refine g_istore_n hC rfl (by decide) (lv' := [(1, vi v11), (0, vr E r0 2)]) rfl (rfl : 87 + 1 = 88) (xdt tt_X3_readStatement 42 rfl) ?_
      refine g_iload_n hC rfl 0 rfl (rfl : 88 + 1 = 89) (xdt tt_X3_readStatement 43 rfl) ?_
      refine g_iconst hC (rfl : 89 + 1 = 90) (xdt tt_X3_readStatement 44 rfl) ?_
      refine g_icmp_eq hC (show ((90 : Nat) : Int) + 26 = ((116 : Nat) : Int) by decide) (rfl : 90 + 3 = 93) (xdt tt_X3_readStatement 45 rfl) (fun hc32 => ?_) (fun hc32 => ?_)
      · replace h := (if_pos hc32).symm.trans h
        refine g_aload_n hC rfl 1 rfl (rfl : 116 + 1 = 117) (xdt tt_X3_readStatement 58 rfl) ?_
        obtain ⟨v14, S13, hc12, h⟩ := bd2_i h
        refine g_callVz hC hZ hk0 kclX3 ly3_2 m_X3_readInstruction q605 (Nat.le_of_ble_eq_true rfl) [] rfl (fun l => c_X3_readInstruction_p3_2 l hk0 hA0 hc12) rfl (Nat.le_of_ble_eq_true rfl) (rfl : 117 + 3 = 120) (xdt tt_X3_readStatement 59 rfl) (fun hb15 => ?_)
        refine g_if_eq hC (show ((120 : Nat) : Int) + 16 = ((136 : Nat) : Int) by decide) (rfl : 120 + 3 = 123) (xdt tt_X3_readStatement 60 rfl) (fun hc21 => ?_) (fun hc21 => ?_)
        · replace h := (if_pos hc21).symm.trans h
          refine g_iconst hC (rfl : 136 + 1 = 137) (xdt tt_X3_readStatement 67 rfl) ?_
          cases h
          exact g_zret hC hE (Or.inl rfl) (xdt tt_X3_readStatement 68 rfl)
        · replace h := (if_neg hc21).symm.trans h
          refine g_aload_n hC rfl 1 rfl (rfl : 123 + 1 = 124) (xdt tt_X3_readStatement 61 rfl) ?_
          refine g_bipush hC (by decide) (rfl : 124 + 2 = 126) (xdt tt_X3_readStatement 62 rfl) ?_
          obtain ⟨v18, S17, hc16, h⟩ := bd2_i h
          refine g_callVz hC hZ hk0 kclX3 ly3_2 m_X3_readSign q552 (Nat.le_of_ble_eq_true rfl) [vi 59] rfl (fun l => c_X3_readSign_p3_2 l hk0 hA0 hc16) rfl (Nat.le_of_ble_eq_true rfl) (rfl : 126 + 3 = 129) (xdt tt_X3_readStatement 63 rfl) (fun hb19 => ?_)
          refine g_if_eq hC (show ((129 : Nat) : Int) + 7 = ((136 : Nat) : Int) by decide) (rfl : 129 + 3 = 132) (xdt tt_X3_readStatement 64 rfl) (fun hc20 => ?_) (fun hc20 => ?_)
          · replace h := (if_pos hc20).symm.trans h
            refine g_iconst hC (rfl : 136 + 1 = 137) (xdt tt_X3_readStatement 67 rfl) ?_
            cases h
            exact g_zret hC hE (Or.inl rfl) (xdt tt_X3_readStatement 68 rfl)
          · replace h := (if_neg hc20).symm.trans h
            refine g_iconst hC (rfl : 132 + 1 = 133) (xdt tt_X3_readStatement 65 rfl) ?_
            refine g_goto hC (show ((133 : Nat) : Int) + 4 = ((137 : Nat) : Int) by decide) (xdt tt_X3_readStatement 66 rfl) ?_
            cases h
            exact g_zret hC hE (Or.inr rfl) (xdt tt_X3_readStatement 68 rfl)
      · replace h := (if_neg hc32).symm.trans h
        refine g_aload_n hC rfl 1 rfl (rfl : 93 + 1 = 94) (xdt tt_X3_readStatement 46 rfl) ?_
        refine g_iload_n hC rfl 0 rfl (rfl : 94 + 1 = 95) (xdt tt_X3_readStatement 47 rfl) ?_
        obtain ⟨v24, S23, hc22, h⟩ := bd2_i h
        refine g_callVz hC hZ hk0 kclX3 ly3_2 m_X3_readSetting q596 (Nat.le_of_ble_eq_true rfl) [vi v11] rfl (fun l => c_X3_readSetting_p3_2 l hk0 hA0 hc22) rfl (Nat.le_of_ble_eq_true rfl) (rfl : 95 + 3 = 98) (xdt tt_X3_readStatement 48 rfl) (fun hb25 => ?_)
        refine g_if_eq hC (show ((98 : Nat) : Int) + 16 = ((114 : Nat) : Int) by decide) (rfl : 98 + 3 = 101) (xdt tt_X3_readStatement 49 rfl) (fun hc31 => ?_) (fun hc31 => ?_)
        · replace h := (if_pos hc31).symm.trans h
          refine g_iconst hC (rfl : 114 + 1 = 115) (xdt tt_X3_readStatement 56 rfl) ?_
          cases h
          exact g_zret hC hE (Or.inl rfl) (xdt tt_X3_readStatement 57 rfl)
        · replace h := (if_neg hc31).symm.trans h
          refine g_aload_n hC rfl 1 rfl (rfl : 101 + 1 = 102) (xdt tt_X3_readStatement 50 rfl) ?_
          refine g_bipush hC (by decide) (rfl : 102 + 2 = 104) (xdt tt_X3_readStatement 51 rfl) ?_
          obtain ⟨v28, S27, hc26, h⟩ := bd2_i h
          refine g_callVz hC hZ hk0 kclX3 ly3_2 m_X3_readSign q552 (Nat.le_of_ble_eq_true rfl) [vi 59] rfl (fun l => c_X3_readSign_p3_2 l hk0 hA0 hc26) rfl (Nat.le_of_ble_eq_true rfl) (rfl : 104 + 3 = 107) (xdt tt_X3_readStatement 52 rfl) (fun hb29 => ?_)
          refine g_if_eq hC (show ((107 : Nat) : Int) + 7 = ((114 : Nat) : Int) by decide) (rfl : 107 + 3 = 110) (xdt tt_X3_readStatement 53 rfl) (fun hc30 => ?_) (fun hc30 => ?_)
          · replace h := (if_pos hc30).symm.trans h
            refine g_iconst hC (rfl : 114 + 1 = 115) (xdt tt_X3_readStatement 56 rfl) ?_
            cases h
            exact g_zret hC hE (Or.inl rfl) (xdt tt_X3_readStatement 57 rfl)
          · replace h := (if_neg hc30).symm.trans h
            refine g_iconst hC (rfl : 110 + 1 = 111) (xdt tt_X3_readStatement 54 rfl) ?_
            refine g_goto hC (show ((111 : Nat) : Int) + 4 = ((115 : Nat) : Int) by decide) (xdt tt_X3_readStatement 55 rfl) ?_
            cases h
            exact g_zret hC hE (Or.inr rfl) (xdt tt_X3_readStatement 57 rfl)
    · replace h := (if_neg hc43).symm.trans h
      refine g_aload_n hC rfl 0 rfl (rfl : 61 + 1 = 62) (xdt tt_X3_readStatement 29 rfl) ?_
      obtain ⟨v35, S34, hc33, h⟩ := bd2_i h
      refine g_callVz hC hZ hk0 kclX3 ly3_2 m_X3_readRule q570 (Nat.le_of_ble_eq_true rfl) [] rfl (fun l => c_X3_readRule_p3_2 l hk0 hA0 hc33) rfl (Nat.le_of_ble_eq_true rfl) (rfl : 62 + 3 = 65) (xdt tt_X3_readStatement 30 rfl) (fun hb36 => ?_)
      refine g_if_eq hC (show ((65 : Nat) : Int) + 16 = ((81 : Nat) : Int) by decide) (rfl : 65 + 3 = 68) (xdt tt_X3_readStatement 31 rfl) (fun hc42 => ?_) (fun hc42 => ?_)
      · replace h := (if_pos hc42).symm.trans h
        refine g_iconst hC (rfl : 81 + 1 = 82) (xdt tt_X3_readStatement 38 rfl) ?_
        cases h
        exact g_zret hC hE (Or.inl rfl) (xdt tt_X3_readStatement 39 rfl)
      · replace h := (if_neg hc42).symm.trans h
        refine g_aload_n hC rfl 0 rfl (rfl : 68 + 1 = 69) (xdt tt_X3_readStatement 32 rfl) ?_
        refine g_bipush hC (by decide) (rfl : 69 + 2 = 71) (xdt tt_X3_readStatement 33 rfl) ?_
        obtain ⟨v39, S38, hc37, h⟩ := bd2_i h
        refine g_callVz hC hZ hk0 kclX3 ly3_2 m_X3_readSign q552 (Nat.le_of_ble_eq_true rfl) [vi 59] rfl (fun l => c_X3_readSign_p3_2 l hk0 hA0 hc37) rfl (Nat.le_of_ble_eq_true rfl) (rfl : 71 + 3 = 74) (xdt tt_X3_readStatement 34 rfl) (fun hb40 => ?_)
        refine g_if_eq hC (show ((74 : Nat) : Int) + 7 = ((81 : Nat) : Int) by decide) (rfl : 74 + 3 = 77) (xdt tt_X3_readStatement 35 rfl) (fun hc41 => ?_) (fun hc41 => ?_)
        · replace h := (if_pos hc41).symm.trans h
          refine g_iconst hC (rfl : 81 + 1 = 82) (xdt tt_X3_readStatement 38 rfl) ?_
          cases h
          exact g_zret hC hE (Or.inl rfl) (xdt tt_X3_readStatement 39 rfl)
        · replace h := (if_neg hc41).symm.trans h
          refine g_iconst hC (rfl : 77 + 1 = 78) (xdt tt_X3_readStatement 36 rfl) ?_
          refine g_goto hC (show ((78 : Nat) : Int) + 4 = ((82 : Nat) : Int) by decide) (xdt tt_X3_readStatement 37 rfl) ?_
          cases h
          exact g_zret hC hE (Or.inr rfl) (xdt tt_X3_readStatement 39 rfl)
  · replace h := (if_neg hc48).symm.trans h
    refine g_aload_n hC rfl 0 rfl (rfl : 47 + 1 = 48) (xdt tt_X3_readStatement 22 rfl) ?_
    obtain ⟨v46, S45, hc44, h⟩ := bd2_i h
    refine g_callVz hC hZ hk0 kclX3 ly3_2 m_X3_openRepeat q562 (Nat.le_of_ble_eq_true rfl) [] rfl (fun l => c_X3_openRepeat_p3_2 l hk0 hA0 hc44) rfl (Nat.le_of_ble_eq_true rfl) (rfl : 48 + 3 = 51) (xdt tt_X3_readStatement 23 rfl) (fun hb47 => ?_)
    cases h
    exact g_zret hC hE hb47 (xdt tt_X3_readStatement 24 rfl)
set_option maxRecDepth 100000 in
set_option maxHeartbeats 4000000 in
theorem c_X3_readStatement_p3_2 (l : Launch) {E : xE} {S S' : xSt} {r0 : Nat} (hk0 : xkd E r0 = 3) (hA0 : xFam E r0) {v : Int} (h : f_X3_readStatement_p3_2 S r0 = some (v, S')) : Met l yX3_readStatement (xws yX3_readStatement cX3_readStatement 2 (some .boolean)) (rmD 9) (YPc E [vr E r0 2] S) (YQz E v S') 0 0 (xA E) := by
  unfold f_X3_readStatement_p3_2 at h
  refine met_z (by decide +kernel) (Nat.le_of_ble_eq_true rfl) (fun K hC hZ hE => ?_)
  have hC : xOK K cX3_readStatement RX3 2 (rmE 9 0) := hC
  show WG K E 0 [(0, vr E r0 2)] [] S
  refine g_aload_n hC rfl 0 rfl (rfl : 0 + 1 = 1) (xdt tt_X3_readStatement 0 rfl) ?_
  refine g_getI hC hk0 kclX3 ly3_2 3 (by decide) rfl q493 (rfl : 1 + 3 = 4) (xdt tt_X3_readStatement 1 rfl) ?_
  refine g_bipush hC (by decide) (rfl : 4 + 2 = 6) (xdt tt_X3_readStatement 2 rfl) ?_
  refine g_icmp_ne hC (show ((6 : Nat) : Int) + 32 = ((38 : Nat) : Int) by decide) (rfl : 6 + 3 = 9) (xdt tt_X3_readStatement 3 rfl) (fun hc60 => ?_) (fun hc60 => ?_)
  · replace h := (if_pos hc60).symm.trans h
    refine g_sub [0] (lv' := [(0, vr E r0 2)]) rfl ?_
    exact k_X3_readStatement_p3_2_b38 hC hZ hE hk0 hA0 _ h
  · replace h := (if_neg hc60).symm.trans h
    refine g_aload_n hC rfl 0 rfl (rfl : 9 + 1 = 10) (xdt tt_X3_readStatement 4 rfl) ?_
    refine g_getI hC hk0 kclX3 ly3_2 10 (by decide) rfl q494 (rfl : 10 + 3 = 13) (xdt tt_X3_readStatement 5 rfl) ?_
    refine g_if_le hC (show ((13 : Nat) : Int) + 25 = ((38 : Nat) : Int) by decide) (rfl : 13 + 3 = 16) (xdt tt_X3_readStatement 6 rfl) (fun hc59 => ?_) (fun hc59 => ?_)
    · replace h := (if_pos hc59).symm.trans h
      refine g_sub [0] (lv' := [(0, vr E r0 2)]) rfl ?_
      exact k_X3_readStatement_p3_2_b38 hC hZ hE hk0 hA0 _ h
    · replace h := (if_neg hc59).symm.trans h
      refine g_aload_n hC rfl 0 rfl (rfl : 16 + 1 = 17) (xdt tt_X3_readStatement 7 rfl) ?_
      obtain ⟨v51, S50, hc49, h⟩ := bd2_i h
      refine g_callVz hC hZ hk0 kclX3 ly3_2 m_X3_closeRepeat q535 (Nat.le_of_ble_eq_true rfl) [] rfl (fun l => c_X3_closeRepeat_p3_2 l hk0 hA0 hc49) rfl (Nat.le_of_ble_eq_true rfl) (rfl : 17 + 3 = 20) (xdt tt_X3_readStatement 8 rfl) (fun hb52 => ?_)
      refine g_if_eq hC (show ((20 : Nat) : Int) + 16 = ((36 : Nat) : Int) by decide) (rfl : 20 + 3 = 23) (xdt tt_X3_readStatement 9 rfl) (fun hc58 => ?_) (fun hc58 => ?_)
      · replace h := (if_pos hc58).symm.trans h
        refine g_iconst hC (rfl : 36 + 1 = 37) (xdt tt_X3_readStatement 16 rfl) ?_
        cases h
        exact g_zret hC hE (Or.inl rfl) (xdt tt_X3_readStatement 17 rfl)
      · replace h := (if_neg hc58).symm.trans h
        refine g_aload_n hC rfl 0 rfl (rfl : 23 + 1 = 24) (xdt tt_X3_readStatement 10 rfl) ?_
        refine g_bipush hC (by decide) (rfl : 24 + 2 = 26) (xdt tt_X3_readStatement 11 rfl) ?_
        obtain ⟨v55, S54, hc53, h⟩ := bd2_i h
        refine g_callVz hC hZ hk0 kclX3 ly3_2 m_X3_readSign q552 (Nat.le_of_ble_eq_true rfl) [vi 59] rfl (fun l => c_X3_readSign_p3_2 l hk0 hA0 hc53) rfl (Nat.le_of_ble_eq_true rfl) (rfl : 26 + 3 = 29) (xdt tt_X3_readStatement 12 rfl) (fun hb56 => ?_)
        refine g_if_eq hC (show ((29 : Nat) : Int) + 7 = ((36 : Nat) : Int) by decide) (rfl : 29 + 3 = 32) (xdt tt_X3_readStatement 13 rfl) (fun hc57 => ?_) (fun hc57 => ?_)
        · replace h := (if_pos hc57).symm.trans h
          refine g_iconst hC (rfl : 36 + 1 = 37) (xdt tt_X3_readStatement 16 rfl) ?_
          cases h
          exact g_zret hC hE (Or.inl rfl) (xdt tt_X3_readStatement 17 rfl)
        · replace h := (if_neg hc57).symm.trans h
          refine g_iconst hC (rfl : 32 + 1 = 33) (xdt tt_X3_readStatement 14 rfl) ?_
          refine g_goto hC (show ((33 : Nat) : Int) + 4 = ((37 : Nat) : Int) by decide) (xdt tt_X3_readStatement 15 rfl) ?_
          cases h
          exact g_zret hC hE (Or.inr rfl) (xdt tt_X3_readStatement 17 rfl)
def f_X5_isJumpOrBranch_p2_0 (S : xSt) (r0 : Nat) (a1 : Int) : Option (Int × xSt) :=
  if wr a1 < 0 then
    (some (0, S))
  else
    (if wr (gI S r0 0 10) ≤ wr a1 then
      (some (0, S))
    else
      (ckI a1 60 <|
      if wr (gI S r0 5 (wr a1).toNat) < wr 8 then
        (some (0, S))
      else
        (some (1, S))))
set_option maxRecDepth 100000 in
set_option maxHeartbeats 4000000 in
theorem c_X5_isJumpOrBranch_p2_0 (l : Launch) {E : xE} {S S' : xSt} {r0 : Nat} {a1 : Int} (hk0 : xkd E r0 = 2) {v : Int} (h : f_X5_isJumpOrBranch_p2_0 S r0 a1 = some (v, S')) : Met l yX5_isJumpOrBranch (xws yX5_isJumpOrBranch cX5_isJumpOrBranch 2 (some .boolean)) (rmD 1) (YPc E [vr E r0 0, vi a1] S) (YQz E v S') 0 0 (xA E) := by
  unfold f_X5_isJumpOrBranch_p2_0 at h
  refine met_z (by decide +kernel) (Nat.le_of_ble_eq_true rfl) (fun K hC hZ hE => ?_)
  have hC : xOK K cX5_isJumpOrBranch RX5 2 (rmE 1 0) := hC
  show WG K E 0 [(0, vr E r0 0), (1, vi a1)] [] S
  refine g_iload_n hC rfl 1 rfl (rfl : 0 + 1 = 1) (xdt tt_X5_isJumpOrBranch 0 rfl) ?_
  refine g_if_lt hC (show ((1 : Nat) : Int) + 26 = ((27 : Nat) : Int) by decide) (rfl : 1 + 3 = 4) (xdt tt_X5_isJumpOrBranch 1 rfl) (fun hc4 => ?_) (fun hc4 => ?_)
  · replace h := (if_pos hc4).symm.trans h
    refine g_iconst hC (rfl : 27 + 1 = 28) (xdt tt_X5_isJumpOrBranch 14 rfl) ?_
    cases h
    exact g_zret hC hE (Or.inl rfl) (xdt tt_X5_isJumpOrBranch 15 rfl)
  · replace h := (if_neg hc4).symm.trans h
    refine g_iload_n hC rfl 1 rfl (rfl : 4 + 1 = 5) (xdt tt_X5_isJumpOrBranch 2 rfl) ?_
    refine g_aload_n hC rfl 0 rfl (rfl : 5 + 1 = 6) (xdt tt_X5_isJumpOrBranch 3 rfl) ?_
    refine g_getI hC hk0 kclX5 ly2_0 10 (by decide) rfl q82 (rfl : 6 + 3 = 9) (xdt tt_X5_isJumpOrBranch 4 rfl) ?_
    refine g_icmp_ge hC (show ((9 : Nat) : Int) + 18 = ((27 : Nat) : Int) by decide) (rfl : 9 + 3 = 12) (xdt tt_X5_isJumpOrBranch 5 rfl) (fun hc3 => ?_) (fun hc3 => ?_)
    · replace h := (if_pos hc3).symm.trans h
      refine g_iconst hC (rfl : 27 + 1 = 28) (xdt tt_X5_isJumpOrBranch 14 rfl) ?_
      cases h
      exact g_zret hC hE (Or.inl rfl) (xdt tt_X5_isJumpOrBranch 15 rfl)
    · replace h := (if_neg hc3).symm.trans h
      refine g_aload_n hC rfl 0 rfl (rfl : 12 + 1 = 13) (xdt tt_X5_isJumpOrBranch 6 rfl) ?_
      refine g_getP hC hk0 kclX5 ly2_0 2 (by decide) (rfl : r0 + 0 = r0) rfl q60 (rfl : 13 + 3 = 16) (xdt tt_X5_isJumpOrBranch 7 rfl) ?_
      refine g_iload_n hC rfl 1 rfl (rfl : 16 + 1 = 17) (xdt tt_X5_isJumpOrBranch 8 rfl) ?_
      obtain ⟨hi1, h⟩ := ckI_i h
      refine g_iald hC hk0 ly2_5 hi1 (rfl : 17 + 1 = 18) (xdt tt_X5_isJumpOrBranch 9 rfl) (k0 := (wr a1).toNat) rfl ?_
      refine g_bipush hC (by decide) (rfl : 18 + 2 = 20) (xdt tt_X5_isJumpOrBranch 10 rfl) ?_
      refine g_icmp_lt hC (show ((20 : Nat) : Int) + 7 = ((27 : Nat) : Int) by decide) (rfl : 20 + 3 = 23) (xdt tt_X5_isJumpOrBranch 11 rfl) (fun hc2 => ?_) (fun hc2 => ?_)
      · replace h := (if_pos hc2).symm.trans h
        refine g_iconst hC (rfl : 27 + 1 = 28) (xdt tt_X5_isJumpOrBranch 14 rfl) ?_
        cases h
        exact g_zret hC hE (Or.inl rfl) (xdt tt_X5_isJumpOrBranch 15 rfl)
      · replace h := (if_neg hc2).symm.trans h
        refine g_iconst hC (rfl : 23 + 1 = 24) (xdt tt_X5_isJumpOrBranch 12 rfl) ?_
        refine g_goto hC (show ((24 : Nat) : Int) + 4 = ((28 : Nat) : Int) by decide) (xdt tt_X5_isJumpOrBranch 13 rfl) ?_
        cases h
        exact g_zret hC hE (Or.inr rfl) (xdt tt_X5_isJumpOrBranch 15 rfl)
def f_X5_opsFromTarget_p2_0_b23 (r0 : Nat) : Nat → xSt → Int → Int → Int → Option (Int × xSt)
  | 0, _, _, _, _ => none
  | fuel + 1, S, x1, x3, x4 =>
    if wr x1 ≤ wr x4 then
      (ckI x1 60 <|
      some ((x3 + (gI S r0 10 (wr x1).toNat)), S))
    else
      (bd2 (f_X5_isJumpOrBranch_p2_0 S r0 x4) fun v5 S4 =>
      if wr v5 = 0 then
        (ckI x4 60 <|
        (f_X5_opsFromTarget_p2_0_b23 r0 fuel) S4 x1 (x3 + (gI S4 r0 10 (wr x4).toNat)) (x4 + 1))
      else
        (some ((-1), S4)))
def f_X5_opsFromTarget_p2_0 (S : xSt) (r0 : Nat) (a1 : Int) : Option (Int × xSt) :=
  ckI a1 60 <|
  if wr (gI S r0 11 (wr a1).toNat) < 0 then
    (some ((-1), S))
  else
    (if wr (gI S r0 11 (wr a1).toNat) ≤ wr a1 then
      (f_X5_opsFromTarget_p2_0_b23 r0 (fu S) S a1 0 (gI S r0 11 (wr a1).toNat))
    else
      (some ((-1), S)))
set_option maxRecDepth 100000 in
set_option maxHeartbeats 4000000 in
theorem k_X5_opsFromTarget_p2_0_b23 {K : xCtx} {E : xE} {b : Nat} (hC : xOK K cX5_opsFromTarget RX5 5 (rmE 2 b)) (hZ : xZ K) {v : Int} {S' : xSt} (hE : xEnd K E (some .int) (YQi E v S')) {r0 : Nat} (hk0 : xkd E r0 = 2) : ∀ (fuel : Nat) (S : xSt) (x1 : Int) (x3 : Int) (x4 : Int), f_X5_opsFromTarget_p2_0_b23 r0 fuel S x1 x3 x4 = some (v, S') → WG K E 23 [(0, vr E r0 0), (1, vi x1), (3, vi x3), (4, vi x4)] [] S := by
  intro fuel
  induction fuel with
  | zero => intro S x1 x3 x4 h; cases h
  | succ fuel ih =>
    intro S x1 x3 x4 h
    rw [f_X5_opsFromTarget_p2_0_b23] at h
    refine g_iload hC 3 rfl (rfl : 23 + 2 = 25) (xdt tt_X5_opsFromTarget 16 rfl) ?_
    refine g_iload_n hC rfl 1 rfl (rfl : 25 + 1 = 26) (xdt tt_X5_opsFromTarget 17 rfl) ?_
    refine g_icmp_ge hC (show ((26 : Nat) : Int) + 30 = ((56 : Nat) : Int) by decide) (rfl : 26 + 3 = 29) (xdt tt_X5_opsFromTarget 18 rfl) (fun hc9 => ?_) (fun hc9 => ?_)
    · replace h := (if_pos hc9).symm.trans h
      refine g_iload_n hC rfl 2 rfl (rfl : 56 + 1 = 57) (xdt tt_X5_opsFromTarget 34 rfl) ?_
      refine g_aload_n hC rfl 0 rfl (rfl : 57 + 1 = 58) (xdt tt_X5_opsFromTarget 35 rfl) ?_
      refine g_getP hC hk0 kclX5 ly2_0 7 (by decide) (rfl : r0 + 0 = r0) rfl q65 (rfl : 58 + 3 = 61) (xdt tt_X5_opsFromTarget 36 rfl) ?_
      refine g_iload_n hC rfl 1 rfl (rfl : 61 + 1 = 62) (xdt tt_X5_opsFromTarget 37 rfl) ?_
      obtain ⟨hi2, h⟩ := ckI_i h
      refine g_iald hC hk0 ly2_10 hi2 (rfl : 62 + 1 = 63) (xdt tt_X5_opsFromTarget 38 rfl) (k0 := (wr x1).toNat) rfl ?_
      refine g_iadd hC (rfl : 63 + 1 = 64) (xdt tt_X5_opsFromTarget 39 rfl) ?_
      cases h
      exact g_iret hC hE (xdt tt_X5_opsFromTarget 40 rfl)
    · replace h := (if_neg hc9).symm.trans h
      refine g_aload_n hC rfl 0 rfl (rfl : 29 + 1 = 30) (xdt tt_X5_opsFromTarget 19 rfl) ?_
      refine g_iload hC 3 rfl (rfl : 30 + 2 = 32) (xdt tt_X5_opsFromTarget 20 rfl) ?_
      obtain ⟨v5, S4, hc3, h⟩ := bd2_i h
      refine g_callVz hC hZ hk0 kclX5 ly2_0 m_X5_isJumpOrBranch q523 (Nat.le_of_ble_eq_true rfl) [vi x4] rfl (fun l => c_X5_isJumpOrBranch_p2_0 l hk0 hc3) rfl (Nat.le_of_ble_eq_true rfl) (rfl : 32 + 3 = 35) (xdt tt_X5_opsFromTarget 21 rfl) (fun hb6 => ?_)
      refine g_if_eq hC (show ((35 : Nat) : Int) + 5 = ((40 : Nat) : Int) by decide) (rfl : 35 + 3 = 38) (xdt tt_X5_opsFromTarget 22 rfl) (fun hc8 => ?_) (fun hc8 => ?_)
      · replace h := (if_pos hc8).symm.trans h
        refine g_iload_n hC rfl 2 rfl (rfl : 40 + 1 = 41) (xdt tt_X5_opsFromTarget 25 rfl) ?_
        refine g_aload_n hC rfl 0 rfl (rfl : 41 + 1 = 42) (xdt tt_X5_opsFromTarget 26 rfl) ?_
        refine g_getP hC hk0 kclX5 ly2_0 7 (by decide) (rfl : r0 + 0 = r0) rfl q65 (rfl : 42 + 3 = 45) (xdt tt_X5_opsFromTarget 27 rfl) ?_
        refine g_iload hC 3 rfl (rfl : 45 + 2 = 47) (xdt tt_X5_opsFromTarget 28 rfl) ?_
        obtain ⟨hi7, h⟩ := ckI_i h
        refine g_iald hC hk0 ly2_10 hi7 (rfl : 47 + 1 = 48) (xdt tt_X5_opsFromTarget 29 rfl) (k0 := (wr x4).toNat) rfl ?_
        refine g_iadd hC (rfl : 48 + 1 = 49) (xdt tt_X5_opsFromTarget 30 rfl) ?_
        refine g_istore_n hC rfl (by decide) (lv' := [(3, vi (x3 + (gI S4 r0 10 (wr x4).toNat))), (0, vr E r0 0), (1, vi x1), (4, vi x4)]) rfl (rfl : 49 + 1 = 50) (xdt tt_X5_opsFromTarget 31 rfl) ?_
        refine g_iinc hC 3 rfl (by decide) (lv' := [(4, vi (x4 + 1)), (3, vi (x3 + (gI S4 r0 10 (wr x4).toNat))), (0, vr E r0 0), (1, vi x1)]) rfl (rfl : 50 + 3 = 53) (xdt tt_X5_opsFromTarget 32 rfl) ?_
        refine g_goto hC (show ((53 : Nat) : Int) + (-30) = ((23 : Nat) : Int) by decide) (xdt tt_X5_opsFromTarget 33 rfl) ?_
        refine g_sub [2, 3, 1, 0] (lv' := [(0, vr E r0 0), (1, vi x1), (3, vi (x3 + (gI S4 r0 10 (wr x4).toNat))), (4, vi (x4 + 1))]) rfl ?_
        exact ih _ _ _ _ h
      · replace h := (if_neg hc8).symm.trans h
        refine g_iconst hC (rfl : 38 + 1 = 39) (xdt tt_X5_opsFromTarget 23 rfl) ?_
        cases h
        exact g_iret hC hE (xdt tt_X5_opsFromTarget 24 rfl)
set_option maxRecDepth 100000 in
set_option maxHeartbeats 4000000 in
theorem c_X5_opsFromTarget_p2_0 (l : Launch) {E : xE} {S S' : xSt} {r0 : Nat} {a1 : Int} (hk0 : xkd E r0 = 2) {v : Int} (h : f_X5_opsFromTarget_p2_0 S r0 a1 = some (v, S')) : Met l yX5_opsFromTarget (xws yX5_opsFromTarget cX5_opsFromTarget 5 (some .int)) (rmD 2) (YPc E [vr E r0 0, vi a1] S) (YQi E v S') 0 0 (xA E) := by
  unfold f_X5_opsFromTarget_p2_0 at h
  refine met_i (by decide +kernel) (Nat.le_of_ble_eq_true rfl) (fun K hC hZ hE => ?_)
  have hC : xOK K cX5_opsFromTarget RX5 5 (rmE 2 0) := hC
  show WG K E 0 [(0, vr E r0 0), (1, vi a1)] [] S
  refine g_aload_n hC rfl 0 rfl (rfl : 0 + 1 = 1) (xdt tt_X5_opsFromTarget 0 rfl) ?_
  refine g_getP hC hk0 kclX5 ly2_0 8 (by decide) (rfl : r0 + 0 = r0) rfl q66 (rfl : 1 + 3 = 4) (xdt tt_X5_opsFromTarget 1 rfl) ?_
  refine g_iload_n hC rfl 1 rfl (rfl : 4 + 1 = 5) (xdt tt_X5_opsFromTarget 2 rfl) ?_
  obtain ⟨hi1, h⟩ := ckI_i h
  refine g_iald hC hk0 ly2_11 hi1 (rfl : 5 + 1 = 6) (xdt tt_X5_opsFromTarget 3 rfl) (k0 := (wr a1).toNat) rfl ?_
  refine g_istore_n hC rfl (by decide) (lv' := [(2, vi (gI S r0 11 (wr a1).toNat)), (0, vr E r0 0), (1, vi a1)]) rfl (rfl : 6 + 1 = 7) (xdt tt_X5_opsFromTarget 4 rfl) ?_
  refine g_iload_n hC rfl 0 rfl (rfl : 7 + 1 = 8) (xdt tt_X5_opsFromTarget 5 rfl) ?_
  refine g_if_lt hC (show ((8 : Nat) : Int) + 8 = ((16 : Nat) : Int) by decide) (rfl : 8 + 3 = 11) (xdt tt_X5_opsFromTarget 6 rfl) (fun hc11 => ?_) (fun hc11 => ?_)
  · replace h := (if_pos hc11).symm.trans h
    refine g_iconst hC (rfl : 16 + 1 = 17) (xdt tt_X5_opsFromTarget 10 rfl) ?_
    cases h
    exact g_iret hC hE (xdt tt_X5_opsFromTarget 11 rfl)
  · replace h := (if_neg hc11).symm.trans h
    refine g_iload_n hC rfl 0 rfl (rfl : 11 + 1 = 12) (xdt tt_X5_opsFromTarget 7 rfl) ?_
    refine g_iload_n hC rfl 2 rfl (rfl : 12 + 1 = 13) (xdt tt_X5_opsFromTarget 8 rfl) ?_
    refine g_icmp_le hC (show ((13 : Nat) : Int) + 5 = ((18 : Nat) : Int) by decide) (rfl : 13 + 3 = 16) (xdt tt_X5_opsFromTarget 9 rfl) (fun hc10 => ?_) (fun hc10 => ?_)
    · replace h := (if_pos hc10).symm.trans h
      refine g_iconst hC (rfl : 18 + 1 = 19) (xdt tt_X5_opsFromTarget 12 rfl) ?_
      refine g_istore_n hC rfl (by decide) (lv' := [(3, vi 0), (2, vi (gI S r0 11 (wr a1).toNat)), (0, vr E r0 0), (1, vi a1)]) rfl (rfl : 19 + 1 = 20) (xdt tt_X5_opsFromTarget 13 rfl) ?_
      refine g_iload_n hC rfl 1 rfl (rfl : 20 + 1 = 21) (xdt tt_X5_opsFromTarget 14 rfl) ?_
      refine g_istore hC (by decide) (lv' := [(4, vi (gI S r0 11 (wr a1).toNat)), (3, vi 0), (2, vi (gI S r0 11 (wr a1).toNat)), (0, vr E r0 0), (1, vi a1)]) rfl (rfl : 21 + 2 = 23) (xdt tt_X5_opsFromTarget 15 rfl) ?_
      refine g_sub [3, 4, 1, 0] (lv' := [(0, vr E r0 0), (1, vi a1), (3, vi 0), (4, vi (gI S r0 11 (wr a1).toNat))]) rfl ?_
      exact k_X5_opsFromTarget_p2_0_b23 hC hZ hE hk0 _ _ _ _ _ h
    · replace h := (if_neg hc10).symm.trans h
      refine g_iconst hC (rfl : 16 + 1 = 17) (xdt tt_X5_opsFromTarget 10 rfl) ?_
      cases h
      exact g_iret hC hE (xdt tt_X5_opsFromTarget 11 rfl)
def f_X5_link_p2_0_b113 (r0 : Nat) : Nat → xSt → Int → Option (xSt)
  | 0, _, _ => none
  | fuel + 1, S, x1 =>
    if wr (gI S r0 0 10) ≤ wr x1 then
      (some S)
    else
      (bd2 (f_X5_opsFromTarget_p2_0 S r0 x1) fun v3 S2 =>
      ckI x1 60 <|
      lt1 (wI S2 r0 12 (wr x1).toNat v3) fun S5 =>
      (f_X5_link_p2_0_b113 r0 fuel) S5 (x1 + 1))
def f_X5_link_p2_0_b59 (c2 : xSt → Int → Option (xSt)) (r0 : Nat) (S : xSt) (x1 : Int) (x2 : Int) (s0 : Int) (s1 : Int) (s2 : Int) : Option (xSt) :=
  ckI s2 61 <|
  lt1 (wI S r0 9 (wr s2).toNat (s1 + s0)) fun S13 =>
  ckI x2 10 <|
  ckI x1 60 <|
  lt1 (wI S13 r0 10 (wr x1).toNat (tbI 1 (wr x2).toNat)) fun S16 =>
  bd2 (f_X5_isJumpOrBranch_p2_0 S16 r0 x1) fun v19 S18 =>
  if wr v19 = 0 then
    (ckI x1 60 <|
    lt1 (wI S18 r0 11 (wr x1).toNat (-1)) fun S22 =>
    c2 S22 (x1 + 1))
  else
    (ckI x1 60 <|
    ckI x1 60 <|
    lt1 (wI S18 r0 11 (wr x1).toNat (iMin (x1 + (gI S18 r0 7 (wr x1).toNat)) (gI S18 r0 0 10))) fun S25 =>
    c2 S25 (x1 + 1))
def f_X5_link_p2_0_b2 (r0 : Nat) : Nat → xSt → Int → Option (xSt)
  | 0, _, _ => none
  | fuel + 1, S, x1 =>
    if wr (gI S r0 0 10) ≤ wr x1 then
      (f_X5_link_p2_0_b113 r0 (fu S) S 0)
    else
      (ckI x1 60 <|
      ckI x1 61 <|
      ckI (iMin (iMax (gI S r0 5 (wr x1).toNat) 0) 9) 10 <|
      lt1 ((gI S r0 9 (wr x1).toNat) + (tbI 3 (wr (iMin (iMax (gI S r0 5 (wr x1).toNat) 0) 9)).toNat)) fun y10 =>
      ckI x1 60 <|
      if wr (gI S r0 6 (wr x1).toNat) = 0 then
        (f_X5_link_p2_0_b59 ((f_X5_link_p2_0_b2 r0 fuel)) r0 S x1 (iMin (iMax (gI S r0 5 (wr x1).toNat) 0) 9) 0 y10 (x1 + 1))
      else
        (f_X5_link_p2_0_b59 ((f_X5_link_p2_0_b2 r0 fuel)) r0 S x1 (iMin (iMax (gI S r0 5 (wr x1).toNat) 0) 9) 1 y10 (x1 + 1)))
def f_X5_link_p2_0 (S : xSt) (r0 : Nat) : Option (xSt) :=
  f_X5_link_p2_0_b2 r0 (fu S) S 0
set_option maxRecDepth 100000 in
set_option maxHeartbeats 4000000 in
theorem k_X5_link_p2_0_b113 {K : xCtx} {E : xE} {b : Nat} (hC : xOK K cX5_link RX5 3 (rmE 3 b)) (hZ : xZ K) {S' : xSt} (hE : xEnd K E none (YQv E S')) {r0 : Nat} (hk0 : xkd E r0 = 2) : ∀ (fuel : Nat) (S : xSt) (x1 : Int), f_X5_link_p2_0_b113 r0 fuel S x1 = some S' → WG K E 113 [(0, vr E r0 0), (1, vi x1)] [] S := by
  intro fuel
  induction fuel with
  | zero => intro S x1 h; cases h
  | succ fuel ih =>
    intro S x1 h
    rw [f_X5_link_p2_0_b113] at h
    refine g_iload_n hC rfl 1 rfl (rfl : 113 + 1 = 114) (xdt tt_X5_link 68 rfl) ?_
    refine g_aload_n hC rfl 0 rfl (rfl : 114 + 1 = 115) (xdt tt_X5_link 69 rfl) ?_
    refine g_getI hC hk0 kclX5 ly2_0 10 (by decide) rfl q82 (rfl : 115 + 3 = 118) (xdt tt_X5_link 70 rfl) ?_
    refine g_icmp_ge hC (show ((118 : Nat) : Int) + 20 = ((138 : Nat) : Int) by decide) (rfl : 118 + 3 = 121) (xdt tt_X5_link 71 rfl) (fun hc6 => ?_) (fun hc6 => ?_)
    · replace h := (if_pos hc6).symm.trans h
      cases h
      exact g_vret hC hE (xdt tt_X5_link 81 rfl)
    · replace h := (if_neg hc6).symm.trans h
      refine g_aload_n hC rfl 0 rfl (rfl : 121 + 1 = 122) (xdt tt_X5_link 72 rfl) ?_
      refine g_getP hC hk0 kclX5 ly2_0 9 (by decide) (rfl : r0 + 0 = r0) rfl q67 (rfl : 122 + 3 = 125) (xdt tt_X5_link 73 rfl) ?_
      refine g_iload_n hC rfl 1 rfl (rfl : 125 + 1 = 126) (xdt tt_X5_link 74 rfl) ?_
      refine g_aload_n hC rfl 0 rfl (rfl : 126 + 1 = 127) (xdt tt_X5_link 75 rfl) ?_
      refine g_iload_n hC rfl 1 rfl (rfl : 127 + 1 = 128) (xdt tt_X5_link 76 rfl) ?_
      obtain ⟨v3, S2, hc1, h⟩ := bd2_i h
      refine g_callVi hC hZ hk0 kclX5 ly2_0 m_X5_opsFromTarget q527 (Nat.le_of_ble_eq_true rfl) [vi x1] rfl (fun l => c_X5_opsFromTarget_p2_0 l hk0 hc1) rfl (Nat.le_of_ble_eq_true rfl) (rfl : 128 + 3 = 131) (xdt tt_X5_link 77 rfl) ?_
      obtain ⟨hi4, h⟩ := ckI_i h
      obtain ⟨S5, hS5, h⟩ := lt1_i h
      refine g_iast hC hk0 ly2_12 hi4 rfl hS5 (rfl : 131 + 1 = 132) (xdt tt_X5_link 78 rfl) ?_
      refine g_iinc hC 1 rfl (by decide) (lv' := [(1, vi (x1 + 1)), (0, vr E r0 0)]) rfl (rfl : 132 + 3 = 135) (xdt tt_X5_link 79 rfl) ?_
      refine g_goto hC (show ((135 : Nat) : Int) + (-22) = ((113 : Nat) : Int) by decide) (xdt tt_X5_link 80 rfl) ?_
      refine g_sub [1, 0] (lv' := [(0, vr E r0 0), (1, vi (x1 + 1))]) rfl ?_
      exact ih _ _ h
set_option maxRecDepth 100000 in
set_option maxHeartbeats 4000000 in
theorem k_X5_link_p2_0_b59 {K : xCtx} {E : xE} {b : Nat} (hC : xOK K cX5_link RX5 3 (rmE 3 b)) (hZ : xZ K) {S' : xSt} (hE : xEnd K E none (YQv E S')) {r0 : Nat} (hk0 : xkd E r0 = 2) {c2 : xSt → Int → Option (xSt)} (hrec2 : ∀ (S : xSt) (x1 : Int), c2 S x1 = some S' → WG K E 2 [(0, vr E r0 0), (1, vi x1)] [] S) : ∀ (S : xSt) (x1 : Int) (x2 : Int) (s0 : Int) (s1 : Int) (s2 : Int), f_X5_link_p2_0_b59 c2 r0 S x1 x2 s0 s1 s2 = some S' → WG K E 59 [(0, vr E r0 0), (1, vi x1), (2, vi x2)] [vi s0, vi s1, vi s2, vr E r0 9] S := by
  intro S x1 x2 s0 s1 s2 h
  unfold f_X5_link_p2_0_b59 at h
  refine g_iadd hC (rfl : 59 + 1 = 60) (xdt tt_X5_link 36 rfl) ?_
  obtain ⟨hi12, h⟩ := ckI_i h
  obtain ⟨S13, hS13, h⟩ := lt1_i h
  refine g_iast hC hk0 ly2_9 hi12 rfl hS13 (rfl : 60 + 1 = 61) (xdt tt_X5_link 37 rfl) ?_
  refine g_aload_n hC rfl 0 rfl (rfl : 61 + 1 = 62) (xdt tt_X5_link 38 rfl) ?_
  refine g_getP hC hk0 kclX5 ly2_0 7 (by decide) (rfl : r0 + 0 = r0) rfl q65 (rfl : 62 + 3 = 65) (xdt tt_X5_link 39 rfl) ?_
  refine g_iload_n hC rfl 1 rfl (rfl : 65 + 1 = 66) (xdt tt_X5_link 40 rfl) ?_
  refine g_getsN hC 1 rfl (List.mem_of_getElem? (i := 2) rfl) (rfl : 66 + 3 = 69) (xdt tt_X5_link 41 rfl) ?_
  refine g_iload_n hC rfl 2 rfl (rfl : 69 + 1 = 70) (xdt tt_X5_link 42 rfl) ?_
  obtain ⟨hi14, h⟩ := ckI_i h
  refine g_tald hC (q := 1) rfl rfl hi14 (rfl : 70 + 1 = 71) (xdt tt_X5_link 43 rfl) (k0 := (wr x2).toNat) rfl ?_
  obtain ⟨hi15, h⟩ := ckI_i h
  obtain ⟨S16, hS16, h⟩ := lt1_i h
  refine g_iast hC hk0 ly2_10 hi15 rfl hS16 (rfl : 71 + 1 = 72) (xdt tt_X5_link 44 rfl) ?_
  refine g_aload_n hC rfl 0 rfl (rfl : 72 + 1 = 73) (xdt tt_X5_link 45 rfl) ?_
  refine g_getP hC hk0 kclX5 ly2_0 8 (by decide) (rfl : r0 + 0 = r0) rfl q66 (rfl : 73 + 3 = 76) (xdt tt_X5_link 46 rfl) ?_
  refine g_iload_n hC rfl 1 rfl (rfl : 76 + 1 = 77) (xdt tt_X5_link 47 rfl) ?_
  refine g_aload_n hC rfl 0 rfl (rfl : 77 + 1 = 78) (xdt tt_X5_link 48 rfl) ?_
  refine g_iload_n hC rfl 1 rfl (rfl : 78 + 1 = 79) (xdt tt_X5_link 49 rfl) ?_
  obtain ⟨v19, S18, hc17, h⟩ := bd2_i h
  refine g_callVz hC hZ hk0 kclX5 ly2_0 m_X5_isJumpOrBranch q523 (Nat.le_of_ble_eq_true rfl) [vi x1] rfl (fun l => c_X5_isJumpOrBranch_p2_0 l hk0 hc17) rfl (Nat.le_of_ble_eq_true rfl) (rfl : 79 + 3 = 82) (xdt tt_X5_link 50 rfl) (fun hb20 => ?_)
  refine g_if_eq hC (show ((82 : Nat) : Int) + 21 = ((103 : Nat) : Int) by decide) (rfl : 82 + 3 = 85) (xdt tt_X5_link 51 rfl) (fun hc26 => ?_) (fun hc26 => ?_)
  · replace h := (if_pos hc26).symm.trans h
    refine g_iconst hC (rfl : 103 + 1 = 104) (xdt tt_X5_link 62 rfl) ?_
    obtain ⟨hi21, h⟩ := ckI_i h
    obtain ⟨S22, hS22, h⟩ := lt1_i h
    refine g_iast hC hk0 ly2_11 hi21 rfl hS22 (rfl : 104 + 1 = 105) (xdt tt_X5_link 63 rfl) ?_
    refine g_iinc hC 1 rfl (by decide) (lv' := [(1, vi (x1 + 1)), (0, vr E r0 0), (2, vi x2)]) rfl (rfl : 105 + 3 = 108) (xdt tt_X5_link 64 rfl) ?_
    refine g_goto hC (show ((108 : Nat) : Int) + (-106) = ((2 : Nat) : Int) by decide) (xdt tt_X5_link 65 rfl) ?_
    refine g_sub [1, 0] (lv' := [(0, vr E r0 0), (1, vi (x1 + 1))]) rfl ?_
    exact hrec2 _ _ h
  · replace h := (if_neg hc26).symm.trans h
    refine g_iload_n hC rfl 1 rfl (rfl : 85 + 1 = 86) (xdt tt_X5_link 52 rfl) ?_
    refine g_aload_n hC rfl 0 rfl (rfl : 86 + 1 = 87) (xdt tt_X5_link 53 rfl) ?_
    refine g_getP hC hk0 kclX5 ly2_0 4 (by decide) (rfl : r0 + 0 = r0) rfl q62 (rfl : 87 + 3 = 90) (xdt tt_X5_link 54 rfl) ?_
    refine g_iload_n hC rfl 1 rfl (rfl : 90 + 1 = 91) (xdt tt_X5_link 55 rfl) ?_
    obtain ⟨hi23, h⟩ := ckI_i h
    refine g_iald hC hk0 ly2_7 hi23 (rfl : 91 + 1 = 92) (xdt tt_X5_link 56 rfl) (k0 := (wr x1).toNat) rfl ?_
    refine g_iadd hC (rfl : 92 + 1 = 93) (xdt tt_X5_link 57 rfl) ?_
    refine g_aload_n hC rfl 0 rfl (rfl : 93 + 1 = 94) (xdt tt_X5_link 58 rfl) ?_
    refine g_getI hC hk0 kclX5 ly2_0 10 (by decide) rfl q82 (rfl : 94 + 3 = 97) (xdt tt_X5_link 59 rfl) ?_
    refine g_mmin hC hZ q522 q259 q243 q260 (Nat.le_of_ble_eq_true rfl) (Nat.le_of_ble_eq_true rfl) (rfl : 97 + 3 = 100) (xdt tt_X5_link 60 rfl) ?_
    refine g_goto hC (show ((100 : Nat) : Int) + 4 = ((104 : Nat) : Int) by decide) (xdt tt_X5_link 61 rfl) ?_
    obtain ⟨hi24, h⟩ := ckI_i h
    obtain ⟨S25, hS25, h⟩ := lt1_i h
    refine g_iast hC hk0 ly2_11 hi24 rfl hS25 (rfl : 104 + 1 = 105) (xdt tt_X5_link 63 rfl) ?_
    refine g_iinc hC 1 rfl (by decide) (lv' := [(1, vi (x1 + 1)), (0, vr E r0 0), (2, vi x2)]) rfl (rfl : 105 + 3 = 108) (xdt tt_X5_link 64 rfl) ?_
    refine g_goto hC (show ((108 : Nat) : Int) + (-106) = ((2 : Nat) : Int) by decide) (xdt tt_X5_link 65 rfl) ?_
    refine g_sub [1, 0] (lv' := [(0, vr E r0 0), (1, vi (x1 + 1))]) rfl ?_
    exact hrec2 _ _ h
set_option maxRecDepth 100000 in
set_option maxHeartbeats 4000000 in
theorem k_X5_link_p2_0_b2 {K : xCtx} {E : xE} {b : Nat} (hC : xOK K cX5_link RX5 3 (rmE 3 b)) (hZ : xZ K) {S' : xSt} (hE : xEnd K E none (YQv E S')) {r0 : Nat} (hk0 : xkd E r0 = 2) : ∀ (fuel : Nat) (S : xSt) (x1 : Int), f_X5_link_p2_0_b2 r0 fuel S x1 = some S' → WG K E 2 [(0, vr E r0 0), (1, vi x1)] [] S := by
  intro fuel
  induction fuel with
  | zero => intro S x1 h; cases h
  | succ fuel ih =>
    intro S x1 h
    rw [f_X5_link_p2_0_b2] at h
    refine g_iload_n hC rfl 1 rfl (rfl : 2 + 1 = 3) (xdt tt_X5_link 2 rfl) ?_
    refine g_aload_n hC rfl 0 rfl (rfl : 3 + 1 = 4) (xdt tt_X5_link 3 rfl) ?_
    refine g_getI hC hk0 kclX5 ly2_0 10 (by decide) rfl q82 (rfl : 4 + 3 = 7) (xdt tt_X5_link 4 rfl) ?_
    refine g_icmp_ge hC (show ((7 : Nat) : Int) + 104 = ((111 : Nat) : Int) by decide) (rfl : 7 + 3 = 10) (xdt tt_X5_link 5 rfl) (fun hc28 => ?_) (fun hc28 => ?_)
    · replace h := (if_pos hc28).symm.trans h
      refine g_iconst hC (rfl : 111 + 1 = 112) (xdt tt_X5_link 66 rfl) ?_
      refine g_istore_n hC rfl (by decide) (lv' := [(1, vi 0), (0, vr E r0 0)]) rfl (rfl : 112 + 1 = 113) (xdt tt_X5_link 67 rfl) ?_
      refine g_sub [1, 0] (lv' := [(0, vr E r0 0), (1, vi 0)]) rfl ?_
      exact k_X5_link_p2_0_b113 hC hZ hE hk0 _ _ _ h
    · replace h := (if_neg hc28).symm.trans h
      refine g_aload_n hC rfl 0 rfl (rfl : 10 + 1 = 11) (xdt tt_X5_link 6 rfl) ?_
      refine g_getP hC hk0 kclX5 ly2_0 2 (by decide) (rfl : r0 + 0 = r0) rfl q60 (rfl : 11 + 3 = 14) (xdt tt_X5_link 7 rfl) ?_
      refine g_iload_n hC rfl 1 rfl (rfl : 14 + 1 = 15) (xdt tt_X5_link 8 rfl) ?_
      obtain ⟨hi7, h⟩ := ckI_i h
      refine g_iald hC hk0 ly2_5 hi7 (rfl : 15 + 1 = 16) (xdt tt_X5_link 9 rfl) (k0 := (wr x1).toNat) rfl ?_
      refine g_iconst hC (rfl : 16 + 1 = 17) (xdt tt_X5_link 10 rfl) ?_
      refine g_mmax hC hZ q521 q242 q243 q244 (Nat.le_of_ble_eq_true rfl) (Nat.le_of_ble_eq_true rfl) (rfl : 17 + 3 = 20) (xdt tt_X5_link 11 rfl) ?_
      refine g_bipush hC (by decide) (rfl : 20 + 2 = 22) (xdt tt_X5_link 12 rfl) ?_
      refine g_mmin hC hZ q522 q259 q243 q260 (Nat.le_of_ble_eq_true rfl) (Nat.le_of_ble_eq_true rfl) (rfl : 22 + 3 = 25) (xdt tt_X5_link 13 rfl) ?_
      refine g_istore_n hC rfl (by decide) (lv' := [(2, vi (iMin (iMax (gI S r0 5 (wr x1).toNat) 0) 9)), (0, vr E r0 0), (1, vi x1)]) rfl (rfl : 25 + 1 = 26) (xdt tt_X5_link 14 rfl) ?_
      refine g_aload_n hC rfl 1 rfl (rfl : 26 + 1 = 27) (xdt tt_X5_link 15 rfl) ?_
      refine g_getP hC hk0 kclX5 ly2_0 6 (by decide) (rfl : r0 + 0 = r0) rfl q64 (rfl : 27 + 3 = 30) (xdt tt_X5_link 16 rfl) ?_
      refine g_iload_n hC rfl 2 rfl (rfl : 30 + 1 = 31) (xdt tt_X5_link 17 rfl) ?_
      refine g_iconst hC (rfl : 31 + 1 = 32) (xdt tt_X5_link 18 rfl) ?_
      refine g_iadd hC (rfl : 32 + 1 = 33) (xdt tt_X5_link 19 rfl) ?_
      refine g_aload_n hC rfl 1 rfl (rfl : 33 + 1 = 34) (xdt tt_X5_link 20 rfl) ?_
      refine g_getP hC hk0 kclX5 ly2_0 6 (by decide) (rfl : r0 + 0 = r0) rfl q64 (rfl : 34 + 3 = 37) (xdt tt_X5_link 21 rfl) ?_
      refine g_iload_n hC rfl 2 rfl (rfl : 37 + 1 = 38) (xdt tt_X5_link 22 rfl) ?_
      obtain ⟨hi8, h⟩ := ckI_i h
      refine g_iald hC hk0 ly2_9 hi8 (rfl : 38 + 1 = 39) (xdt tt_X5_link 23 rfl) (k0 := (wr x1).toNat) rfl ?_
      refine g_getsN hC 3 rfl (List.mem_of_getElem? (i := 1) rfl) (rfl : 39 + 3 = 42) (xdt tt_X5_link 24 rfl) ?_
      refine g_iload_n hC rfl 0 rfl (rfl : 42 + 1 = 43) (xdt tt_X5_link 25 rfl) ?_
      obtain ⟨hi9, h⟩ := ckI_i h
      refine g_tald hC (q := 3) rfl rfl hi9 (rfl : 43 + 1 = 44) (xdt tt_X5_link 26 rfl) (k0 := (wr (iMin (iMax (gI S r0 5 (wr x1).toNat) 0) 9)).toNat) rfl ?_
      refine g_iadd hC (rfl : 44 + 1 = 45) (xdt tt_X5_link 27 rfl) ?_
      obtain ⟨y10, hy10, h⟩ := lt1_i h
      refine g_eqi hy10 ?_
      refine g_aload_n hC rfl 1 rfl (rfl : 45 + 1 = 46) (xdt tt_X5_link 28 rfl) ?_
      refine g_getP hC hk0 kclX5 ly2_0 3 (by decide) (rfl : r0 + 0 = r0) rfl q61 (rfl : 46 + 3 = 49) (xdt tt_X5_link 29 rfl) ?_
      refine g_iload_n hC rfl 2 rfl (rfl : 49 + 1 = 50) (xdt tt_X5_link 30 rfl) ?_
      obtain ⟨hi11, h⟩ := ckI_i h
      refine g_zald hC hk0 ly2_6 hi11 (rfl : 50 + 1 = 51) (xdt tt_X5_link 31 rfl) (k0 := (wr x1).toNat) rfl ?_
      refine g_if_eq hC (show ((51 : Nat) : Int) + 7 = ((58 : Nat) : Int) by decide) (rfl : 51 + 3 = 54) (xdt tt_X5_link 32 rfl) (fun hc27 => ?_) (fun hc27 => ?_)
      · replace h := (if_pos hc27).symm.trans h
        refine g_iconst hC (rfl : 58 + 1 = 59) (xdt tt_X5_link 35 rfl) ?_
        refine g_sub [1, 2, 0] (lv' := [(0, vr E r0 0), (1, vi x1), (2, vi (iMin (iMax (gI S r0 5 (wr x1).toNat) 0) 9))]) rfl ?_
        exact k_X5_link_p2_0_b59 hC hZ hE hk0 ih _ _ _ _ _ _ h
      · replace h := (if_neg hc27).symm.trans h
        refine g_iconst hC (rfl : 54 + 1 = 55) (xdt tt_X5_link 33 rfl) ?_
        refine g_goto hC (show ((55 : Nat) : Int) + 4 = ((59 : Nat) : Int) by decide) (xdt tt_X5_link 34 rfl) ?_
        refine g_sub [1, 2, 0] (lv' := [(0, vr E r0 0), (1, vi x1), (2, vi (iMin (iMax (gI S r0 5 (wr x1).toNat) 0) 9))]) rfl ?_
        exact k_X5_link_p2_0_b59 hC hZ hE hk0 ih _ _ _ _ _ _ h
set_option maxRecDepth 100000 in
set_option maxHeartbeats 4000000 in
theorem c_X5_link_p2_0 (l : Launch) {E : xE} {S S' : xSt} {r0 : Nat} (hk0 : xkd E r0 = 2) (h : f_X5_link_p2_0 S r0 = some S') : Met l yX5_link (xws yX5_link cX5_link 3 none) (rmD 3) (YPc E [vr E r0 0] S) (YQv E S') 0 0 (xA E) := by
  unfold f_X5_link_p2_0 at h
  refine met_v (by decide +kernel) (Nat.le_of_ble_eq_true rfl) (fun K hC hZ hE => ?_)
  have hC : xOK K cX5_link RX5 3 (rmE 3 0) := hC
  show WG K E 0 [(0, vr E r0 0)] [] S
  refine g_iconst hC (rfl : 0 + 1 = 1) (xdt tt_X5_link 0 rfl) ?_
  refine g_istore_n hC rfl (by decide) (lv' := [(1, vi 0), (0, vr E r0 0)]) rfl (rfl : 1 + 1 = 2) (xdt tt_X5_link 1 rfl) ?_
  refine g_sub [1, 0] (lv' := [(0, vr E r0 0), (1, vi 0)]) rfl ?_
  exact k_X5_link_p2_0_b2 hC hZ hE hk0 _ _ _ h
def f_X3_readText_p3_2_3_1_2_0_b46 (c10 : xSt → Int → Option (Int × xSt)) (r0 : Nat) (r1 : Nat) (r3 : Nat) (S : xSt) (x4 : Int) : Option (Int × xSt) :=
  bd2 (f_X3_readStatement_p3_2 S r0) fun v11 S10 =>
  if ¬ wr v11 = 0 then
    (c10 S10 (x4 + 1))
  else
    (some (0, S10))
def f_X3_readText_p3_2_3_1_2_0_b10 (r0 : Nat) (r1 : Nat) (r3 : Nat) : Nat → xSt → Int → Option (Int × xSt)
  | 0, _, _ => none
  | fuel + 1, S, x4 =>
    if wr (gI S r0 2 1) < wr x4 then
      (bd2 (f_X3_fail_p3_2 S r0 1) fun v5 S4 =>
      some (v5, S4))
    else
      (bd (f_X3_readToken_p3_2 S r0) fun S8 =>
      if ¬ wr (gI S8 r0 2 3) = 0 then
        (f_X3_readText_p3_2_3_1_2_0_b46 ((f_X3_readText_p3_2_3_1_2_0_b10 r0 r1 r3 fuel)) r0 r1 r3 S8 x4)
      else
        (if ¬ wr (gI S8 r0 2 10) = 0 then
          (f_X3_readText_p3_2_3_1_2_0_b46 ((f_X3_readText_p3_2_3_1_2_0_b10 r0 r1 r3 fuel)) r0 r1 r3 S8 x4)
        else
          (ckP S8 r0 2 2 2 0 fun rg14 =>
          bd (f_X5_link_p2_0 S8 rg14) fun S16 =>
          some (1, S16))))
def f_X3_readText_p3_2_3_1_2_0 (S : xSt) (r0 : Nat) (r1 : Nat) (a2 : Int) (r3 : Nat) : Option (Int × xSt) :=
  bd (f_X3_begin_p3_2_3_1_2_0 S r0 r1 a2 r3) fun S2 =>
  f_X3_readText_p3_2_3_1_2_0_b10 r0 r1 r3 (fu S2) S2 0
set_option maxRecDepth 100000 in
set_option maxHeartbeats 4000000 in
theorem k_X3_readText_p3_2_3_1_2_0_b46 {K : xCtx} {E : xE} {b : Nat} (hC : xOK K cX3_readText RX3 5 (rmE 10 b)) (hZ : xZ K) {v : Int} {S' : xSt} (hE : xEnd K E (some .boolean) (YQz E v S')) {r0 : Nat} {r1 : Nat} {r3 : Nat} (hk0 : xkd E r0 = 3) (hA0 : xFam E r0) (hk1 : xkd E r1 = 3) (hA1 : xFam E r1) (hk3 : xkd E r3 = 2) {c10 : xSt → Int → Option (Int × xSt)} (hrec10 : ∀ (S : xSt) (x4 : Int), c10 S x4 = some (v, S') → WG K E 10 [(0, vr E r0 2), (4, vi x4)] [] S) : ∀ (S : xSt) (x4 : Int), f_X3_readText_p3_2_3_1_2_0_b46 c10 r0 r1 r3 S x4 = some (v, S') → WG K E 46 [(0, vr E r0 2), (4, vi x4)] [] S := by
  intro S x4 h
  unfold f_X3_readText_p3_2_3_1_2_0_b46 at h
  refine g_aload_n hC rfl 0 rfl (rfl : 46 + 1 = 47) (xdt tt_X3_readText 24 rfl) ?_
  obtain ⟨v11, S10, hc9, h⟩ := bd2_i h
  refine g_callVz hC hZ hk0 kclX3 ly3_2 m_X3_readStatement q531 (Nat.le_of_ble_eq_true rfl) [] rfl (fun l => c_X3_readStatement_p3_2 l hk0 hA0 hc9) rfl (Nat.le_of_ble_eq_true rfl) (rfl : 47 + 3 = 50) (xdt tt_X3_readText 25 rfl) (fun hb12 => ?_)
  refine g_if_ne hC (show ((50 : Nat) : Int) + 5 = ((55 : Nat) : Int) by decide) (rfl : 50 + 3 = 53) (xdt tt_X3_readText 26 rfl) (fun hc13 => ?_) (fun hc13 => ?_)
  · replace h := (if_pos hc13).symm.trans h
    refine g_iinc hC 1 rfl (by decide) (lv' := [(4, vi (x4 + 1)), (0, vr E r0 2)]) rfl (rfl : 55 + 3 = 58) (xdt tt_X3_readText 29 rfl) ?_
    refine g_goto hC (show ((58 : Nat) : Int) + (-48) = ((10 : Nat) : Int) by decide) (xdt tt_X3_readText 30 rfl) ?_
    refine g_sub [1, 0] (lv' := [(0, vr E r0 2), (4, vi (x4 + 1))]) rfl ?_
    exact hrec10 _ _ h
  · replace h := (if_neg hc13).symm.trans h
    refine g_iconst hC (rfl : 53 + 1 = 54) (xdt tt_X3_readText 27 rfl) ?_
    cases h
    exact g_zret hC hE (Or.inl rfl) (xdt tt_X3_readText 28 rfl)
set_option maxRecDepth 100000 in
set_option maxHeartbeats 4000000 in
theorem k_X3_readText_p3_2_3_1_2_0_b10 {K : xCtx} {E : xE} {b : Nat} (hC : xOK K cX3_readText RX3 5 (rmE 10 b)) (hZ : xZ K) {v : Int} {S' : xSt} (hE : xEnd K E (some .boolean) (YQz E v S')) {r0 : Nat} {r1 : Nat} {r3 : Nat} (hk0 : xkd E r0 = 3) (hA0 : xFam E r0) (hk1 : xkd E r1 = 3) (hA1 : xFam E r1) (hk3 : xkd E r3 = 2) : ∀ (fuel : Nat) (S : xSt) (x4 : Int), f_X3_readText_p3_2_3_1_2_0_b10 r0 r1 r3 fuel S x4 = some (v, S') → WG K E 10 [(0, vr E r0 2), (4, vi x4)] [] S := by
  intro fuel
  induction fuel with
  | zero => intro S x4 h; cases h
  | succ fuel ih =>
    intro S x4 h
    rw [f_X3_readText_p3_2_3_1_2_0_b10] at h
    refine g_iload hC 1 rfl (rfl : 10 + 2 = 12) (xdt tt_X3_readText 7 rfl) ?_
    refine g_aload_n hC rfl 0 rfl (rfl : 12 + 1 = 13) (xdt tt_X3_readText 8 rfl) ?_
    refine g_getI hC hk0 kclX3 ly3_2 1 (by decide) rfl q492 (rfl : 13 + 3 = 16) (xdt tt_X3_readText 9 rfl) ?_
    refine g_icmp_gt hC (show ((16 : Nat) : Int) + 45 = ((61 : Nat) : Int) by decide) (rfl : 16 + 3 = 19) (xdt tt_X3_readText 10 rfl) (fun hc19 => ?_) (fun hc19 => ?_)
    · replace h := (if_pos hc19).symm.trans h
      refine g_aload_n hC rfl 0 rfl (rfl : 61 + 1 = 62) (xdt tt_X3_readText 31 rfl) ?_
      refine g_iconst hC (rfl : 62 + 1 = 63) (xdt tt_X3_readText 32 rfl) ?_
      obtain ⟨v5, S4, hc3, h⟩ := bd2_i h
      refine g_callVz hC hZ hk0 kclX3 ly3_2 m_X3_fail q540 (Nat.le_of_ble_eq_true rfl) [vi 1] rfl (fun l => c_X3_fail_p3_2 l hk0 hA0 hc3) rfl (Nat.le_of_ble_eq_true rfl) (rfl : 63 + 3 = 66) (xdt tt_X3_readText 33 rfl) (fun hb6 => ?_)
      cases h
      exact g_zret hC hE hb6 (xdt tt_X3_readText 34 rfl)
    · replace h := (if_neg hc19).symm.trans h
      refine g_aload_n hC rfl 0 rfl (rfl : 19 + 1 = 20) (xdt tt_X3_readText 11 rfl) ?_
      obtain ⟨S8, hc7, h⟩ := bd_i h
      refine g_callVv hC hZ hk0 kclX3 ly3_2 m_X3_readToken q503 (Nat.le_of_ble_eq_true rfl) [] rfl (fun l => c_X3_readToken_p3_2 l hk0 hA0 hc7) rfl (Nat.le_of_ble_eq_true rfl) (rfl : 20 + 3 = 23) (xdt tt_X3_readText 12 rfl) ?_
      refine g_aload_n hC rfl 0 rfl (rfl : 23 + 1 = 24) (xdt tt_X3_readText 13 rfl) ?_
      refine g_getI hC hk0 kclX3 ly3_2 3 (by decide) rfl q493 (rfl : 24 + 3 = 27) (xdt tt_X3_readText 14 rfl) ?_
      refine g_if_ne hC (show ((27 : Nat) : Int) + 19 = ((46 : Nat) : Int) by decide) (rfl : 27 + 3 = 30) (xdt tt_X3_readText 15 rfl) (fun hc18 => ?_) (fun hc18 => ?_)
      · replace h := (if_pos hc18).symm.trans h
        refine g_sub [0, 1] (lv' := [(0, vr E r0 2), (4, vi x4)]) rfl ?_
        exact k_X3_readText_p3_2_3_1_2_0_b46 hC hZ hE hk0 hA0 hk1 hA1 hk3 ih _ _ h
      · replace h := (if_neg hc18).symm.trans h
        refine g_aload_n hC rfl 0 rfl (rfl : 30 + 1 = 31) (xdt tt_X3_readText 16 rfl) ?_
        refine g_getI hC hk0 kclX3 ly3_2 10 (by decide) rfl q494 (rfl : 31 + 3 = 34) (xdt tt_X3_readText 17 rfl) ?_
        refine g_if_ne hC (show ((34 : Nat) : Int) + 12 = ((46 : Nat) : Int) by decide) (rfl : 34 + 3 = 37) (xdt tt_X3_readText 18 rfl) (fun hc17 => ?_) (fun hc17 => ?_)
        · replace h := (if_pos hc17).symm.trans h
          refine g_sub [0, 1] (lv' := [(0, vr E r0 2), (4, vi x4)]) rfl ?_
          exact k_X3_readText_p3_2_3_1_2_0_b46 hC hZ hE hk0 hA0 hk1 hA1 hk3 ih _ _ h
        · replace h := (if_neg hc17).symm.trans h
          refine g_aload_n hC rfl 0 rfl (rfl : 37 + 1 = 38) (xdt tt_X3_readText 19 rfl) ?_
          obtain ⟨rg14, hrg14, grg14, h⟩ := ckP_i h
          refine g_getV hC hk0 kclX3 ly3_2 2 (by decide) rfl hrg14 grg14 (by decide) q49 (rfl : 38 + 3 = 41) (xdt tt_X3_readText 20 rfl) (fun krg14 => ?_)
          obtain ⟨S16, hc15, h⟩ := bd_i h
          refine g_callVv hC hZ krg14 kclX5 ly2_0 m_X5_link q517 (Nat.le_of_ble_eq_true rfl) [] rfl (fun l => c_X5_link_p2_0 l krg14 hc15) rfl (Nat.le_of_ble_eq_true rfl) (rfl : 41 + 3 = 44) (xdt tt_X3_readText 21 rfl) ?_
          refine g_iconst hC (rfl : 44 + 1 = 45) (xdt tt_X3_readText 22 rfl) ?_
          cases h
          exact g_zret hC hE (Or.inr rfl) (xdt tt_X3_readText 23 rfl)
set_option maxRecDepth 100000 in
set_option maxHeartbeats 4000000 in
theorem c_X3_readText_p3_2_3_1_2_0 (l : Launch) {E : xE} {S S' : xSt} {r0 : Nat} {r1 : Nat} {a2 : Int} {r3 : Nat} (hk0 : xkd E r0 = 3) (hA0 : xFam E r0) (hk1 : xkd E r1 = 3) (hA1 : xFam E r1) (hk3 : xkd E r3 = 2) {v : Int} (h : f_X3_readText_p3_2_3_1_2_0 S r0 r1 a2 r3 = some (v, S')) : Met l yX3_readText (xws yX3_readText cX3_readText 5 (some .boolean)) (rmD 10) (YPc E [vr E r0 2, vr E r1 1, vi a2, vr E r3 0] S) (YQz E v S') 0 0 (xA E) := by
  unfold f_X3_readText_p3_2_3_1_2_0 at h
  refine met_z (by decide +kernel) (Nat.le_of_ble_eq_true rfl) (fun K hC hZ hE => ?_)
  have hC : xOK K cX3_readText RX3 5 (rmE 10 0) := hC
  show WG K E 0 [(0, vr E r0 2), (1, vr E r1 1), (2, vi a2), (3, vr E r3 0)] [] S
  refine g_aload_n hC rfl 0 rfl (rfl : 0 + 1 = 1) (xdt tt_X3_readText 0 rfl) ?_
  refine g_aload_n hC rfl 1 rfl (rfl : 1 + 1 = 2) (xdt tt_X3_readText 1 rfl) ?_
  refine g_iload_n hC rfl 2 rfl (rfl : 2 + 1 = 3) (xdt tt_X3_readText 2 rfl) ?_
  refine g_aload_n hC rfl 3 rfl (rfl : 3 + 1 = 4) (xdt tt_X3_readText 3 rfl) ?_
  obtain ⟨S2, hc1, h⟩ := bd_i h
  refine g_callVv hC hZ hk0 kclX3 ly3_2 m_X3_begin q495 (Nat.le_of_ble_eq_true rfl) [vr E r1 1, vi a2, vr E r3 0] rfl (fun l => c_X3_begin_p3_2_3_1_2_0 l hk0 hA0 hk1 hA1 hk3 hc1) rfl (Nat.le_of_ble_eq_true rfl) (rfl : 4 + 3 = 7) (xdt tt_X3_readText 4 rfl) ?_
  refine g_iconst hC (rfl : 7 + 1 = 8) (xdt tt_X3_readText 5 rfl) ?_
  refine g_istore hC (by decide) (lv' := [(4, vi 0), (0, vr E r0 2), (1, vr E r1 1), (2, vi a2), (3, vr E r3 0)]) rfl (rfl : 8 + 2 = 10) (xdt tt_X3_readText 6 rfl) ?_
  refine g_sub [1, 0] (lv' := [(0, vr E r0 2), (4, vi 0)]) rfl ?_
  exact k_X3_readText_p3_2_3_1_2_0_b10 hC hZ hE hk0 hA0 hk1 hA1 hk3 _ _ _ h
def f_X8_copyFrom_p1_2_2_2 (S : xSt) (r0 : Nat) (r1 : Nat) : Option (xSt) :=
  lt1 (wA S r0 3 (cpI (S.2.1 r1 3) (S.2.1 r0 3) (wr 0).toNat (wr 0).toNat (wr 7).toNat)) fun S1 =>
  lt1 (wA S1 r0 4 (cpI (S1.2.1 r1 4) (S1.2.1 r0 4) (wr 0).toNat (wr 0).toNat (wr 7).toNat)) fun S2 =>
  lt1 (wI S2 r0 2 2 (gI S2 r1 2 2)) fun S3 =>
  some S3
set_option maxRecDepth 100000 in
set_option maxHeartbeats 4000000 in
theorem c_X8_copyFrom_p1_2_2_2 (l : Launch) {E : xE} {S S' : xSt} {r0 : Nat} {r1 : Nat} (hk0 : xkd E r0 = 1) (hk1 : xkd E r1 = 2) (h : f_X8_copyFrom_p1_2_2_2 S r0 r1 = some S') : Met l yX8_copyFrom (xws yX8_copyFrom cX8_copyFrom 2 none) (rmD 2) (YPc E [vr E r0 2, vr E r1 2] S) (YQv E S') 0 0 (xA E) := by
  unfold f_X8_copyFrom_p1_2_2_2 at h
  refine met_v (by decide +kernel) (Nat.le_of_ble_eq_true rfl) (fun K hC hZ hE => ?_)
  have hC : xOK K cX8_copyFrom RX8 2 (rmE 2 0) := hC
  show WG K E 0 [(0, vr E r0 2), (1, vr E r1 2)] [] S
  refine g_aload_n hC rfl 1 rfl (rfl : 0 + 1 = 1) (xdt tt_X8_copyFrom 0 rfl) ?_
  refine g_getP hC hk1 kclX8 ly2_2 0 (by decide) (rfl : r1 + 0 = r1) rfl q71 (rfl : 1 + 3 = 4) (xdt tt_X8_copyFrom 1 rfl) ?_
  refine g_iconst hC (rfl : 4 + 1 = 5) (xdt tt_X8_copyFrom 2 rfl) ?_
  refine g_aload_n hC rfl 0 rfl (rfl : 5 + 1 = 6) (xdt tt_X8_copyFrom 3 rfl) ?_
  refine g_getP hC hk0 kclX8 ly1_2 0 (by decide) (rfl : r0 + 0 = r0) rfl q71 (rfl : 6 + 3 = 9) (xdt tt_X8_copyFrom 4 rfl) ?_
  refine g_iconst hC (rfl : 9 + 1 = 10) (xdt tt_X8_copyFrom 5 rfl) ?_
  refine g_aload_n hC rfl 0 rfl (rfl : 10 + 1 = 11) (xdt tt_X8_copyFrom 6 rfl) ?_
  refine g_getP hC hk0 kclX8 ly1_2 0 (by decide) (rfl : r0 + 0 = r0) rfl q71 (rfl : 11 + 3 = 14) (xdt tt_X8_copyFrom 7 rfl) ?_
  refine g_alen hC hk0 ly1_3 (z := 7) (by decide) (rfl : 14 + 1 = 15) (xdt tt_X8_copyFrom 8 rfl) ?_
  obtain ⟨S1, hS1, h⟩ := lt1_i h
  refine g_copy hC hk1 hk0 ly2_3 ly1_3 rfl (by decide) (by decide) q162 q78 q79 q80 (Nat.le_of_ble_eq_true rfl) (Nat.le_of_ble_eq_true rfl) hS1 (rfl : 15 + 3 = 18) (xdt tt_X8_copyFrom 9 rfl) ?_
  refine g_aload_n hC rfl 1 rfl (rfl : 18 + 1 = 19) (xdt tt_X8_copyFrom 10 rfl) ?_
  refine g_getP hC hk1 kclX8 ly2_2 1 (by decide) (rfl : r1 + 0 = r1) rfl q72 (rfl : 19 + 3 = 22) (xdt tt_X8_copyFrom 11 rfl) ?_
  refine g_iconst hC (rfl : 22 + 1 = 23) (xdt tt_X8_copyFrom 12 rfl) ?_
  refine g_aload_n hC rfl 0 rfl (rfl : 23 + 1 = 24) (xdt tt_X8_copyFrom 13 rfl) ?_
  refine g_getP hC hk0 kclX8 ly1_2 1 (by decide) (rfl : r0 + 0 = r0) rfl q72 (rfl : 24 + 3 = 27) (xdt tt_X8_copyFrom 14 rfl) ?_
  refine g_iconst hC (rfl : 27 + 1 = 28) (xdt tt_X8_copyFrom 15 rfl) ?_
  refine g_aload_n hC rfl 0 rfl (rfl : 28 + 1 = 29) (xdt tt_X8_copyFrom 16 rfl) ?_
  refine g_getP hC hk0 kclX8 ly1_2 1 (by decide) (rfl : r0 + 0 = r0) rfl q72 (rfl : 29 + 3 = 32) (xdt tt_X8_copyFrom 17 rfl) ?_
  refine g_alen hC hk0 ly1_4 (z := 7) (by decide) (rfl : 32 + 1 = 33) (xdt tt_X8_copyFrom 18 rfl) ?_
  obtain ⟨S2, hS2, h⟩ := lt1_i h
  refine g_copy hC hk1 hk0 ly2_4 ly1_4 rfl (by decide) (by decide) q162 q78 q79 q80 (Nat.le_of_ble_eq_true rfl) (Nat.le_of_ble_eq_true rfl) hS2 (rfl : 33 + 3 = 36) (xdt tt_X8_copyFrom 19 rfl) ?_
  refine g_aload_n hC rfl 0 rfl (rfl : 36 + 1 = 37) (xdt tt_X8_copyFrom 20 rfl) ?_
  refine g_aload_n hC rfl 1 rfl (rfl : 37 + 1 = 38) (xdt tt_X8_copyFrom 21 rfl) ?_
  refine g_getI hC hk1 kclX8 ly2_2 2 (by decide) rfl q163 (rfl : 38 + 3 = 41) (xdt tt_X8_copyFrom 22 rfl) ?_
  obtain ⟨S3, hS3, h⟩ := lt1_i h
  refine g_putI hC hk0 kclX8 ly1_2 2 (by decide) rfl rfl rfl q163 hS3 (rfl : 41 + 3 = 44) (xdt tt_X8_copyFrom 23 rfl) ?_
  cases h
  exact g_vret hC hE (xdt tt_X8_copyFrom 24 rfl)
def f_J7_fill_53178_p1_10_b5 (r0 : Nat) : Nat → xSt → Int → Int → Int → Option (xSt)
  | 0, _, _, _, _ => none
  | fuel + 1, S, x1, x2, x3 =>
    if wr x3 ≤ wr x2 then
      (some S)
    else
      (ckI x2 60 <|
      lt1 (wI S r0 10 (wr x2).toNat x1) fun S2 =>
      (f_J7_fill_53178_p1_10_b5 r0 fuel) S2 x1 (x2 + 1) x3)
def f_J7_fill_53178_p1_10 (S : xSt) (r0 : Nat) (a1 : Int) : Option (xSt) :=
  f_J7_fill_53178_p1_10_b5 r0 (fu S) S a1 0 60
set_option maxRecDepth 100000 in
set_option maxHeartbeats 4000000 in
theorem k_J7_fill_53178_p1_10_b5 {K : xCtx} {E : xE} {b : Nat} (hC : xOK K cJ7_fill_53178 RJ7 4 (rmE 1 b)) (hZ : xZ K) {S' : xSt} (hE : xEnd K E none (YQv E S')) {r0 : Nat} (hk0 : xkd E r0 = 1) : ∀ (fuel : Nat) (S : xSt) (x1 : Int) (x2 : Int) (x3 : Int), f_J7_fill_53178_p1_10_b5 r0 fuel S x1 x2 x3 = some S' → WG K E 5 [(0, vr E r0 10), (1, vi x1), (2, vi x2), (3, vi x3)] [] S := by
  intro fuel
  induction fuel with
  | zero => intro S x1 x2 x3 h; cases h
  | succ fuel ih =>
    intro S x1 x2 x3 h
    rw [f_J7_fill_53178_p1_10_b5] at h
    refine g_iload_n hC rfl 2 rfl (rfl : 5 + 1 = 6) (xdt tt_J7_fill_53178 5 rfl) ?_
    refine g_iload_n hC rfl 3 rfl (rfl : 6 + 1 = 7) (xdt tt_J7_fill_53178 6 rfl) ?_
    refine g_icmp_ge hC (show ((7 : Nat) : Int) + 13 = ((20 : Nat) : Int) by decide) (rfl : 7 + 3 = 10) (xdt tt_J7_fill_53178 7 rfl) (fun hc3 => ?_) (fun hc3 => ?_)
    · replace h := (if_pos hc3).symm.trans h
      cases h
      exact g_vret hC hE (xdt tt_J7_fill_53178 14 rfl)
    · replace h := (if_neg hc3).symm.trans h
      refine g_aload_n hC rfl 0 rfl (rfl : 10 + 1 = 11) (xdt tt_J7_fill_53178 8 rfl) ?_
      refine g_iload_n hC rfl 2 rfl (rfl : 11 + 1 = 12) (xdt tt_J7_fill_53178 9 rfl) ?_
      refine g_iload_n hC rfl 1 rfl (rfl : 12 + 1 = 13) (xdt tt_J7_fill_53178 10 rfl) ?_
      obtain ⟨hi1, h⟩ := ckI_i h
      obtain ⟨S2, hS2, h⟩ := lt1_i h
      refine g_iast hC hk0 ly1_10 hi1 rfl hS2 (rfl : 13 + 1 = 14) (xdt tt_J7_fill_53178 11 rfl) ?_
      refine g_iinc hC 2 rfl (by decide) (lv' := [(2, vi (x2 + 1)), (0, vr E r0 10), (1, vi x1), (3, vi x3)]) rfl (rfl : 14 + 3 = 17) (xdt tt_J7_fill_53178 12 rfl) ?_
      refine g_goto hC (show ((17 : Nat) : Int) + (-12) = ((5 : Nat) : Int) by decide) (xdt tt_J7_fill_53178 13 rfl) ?_
      refine g_sub [1, 2, 0, 3] (lv' := [(0, vr E r0 10), (1, vi x1), (2, vi (x2 + 1)), (3, vi x3)]) rfl ?_
      exact ih _ _ _ _ h
set_option maxRecDepth 100000 in
set_option maxHeartbeats 4000000 in
theorem c_J7_fill_53178_p1_10 (l : Launch) {E : xE} {S S' : xSt} {r0 : Nat} {a1 : Int} (hk0 : xkd E r0 = 1) (h : f_J7_fill_53178_p1_10 S r0 a1 = some S') : Met l yJ7_fill_53178 (xws yJ7_fill_53178 cJ7_fill_53178 4 none) (rmD 1) (YPc E [vr E r0 10, vi a1] S) (YQv E S') 0 0 (xA E) := by
  unfold f_J7_fill_53178_p1_10 at h
  refine met_v (by decide +kernel) (Nat.le_of_ble_eq_true rfl) (fun K hC hZ hE => ?_)
  have hC : xOK K cJ7_fill_53178 RJ7 4 (rmE 1 0) := hC
  show WG K E 0 [(0, vr E r0 10), (1, vi a1)] [] S
  refine g_iconst hC (rfl : 0 + 1 = 1) (xdt tt_J7_fill_53178 0 rfl) ?_
  refine g_istore_n hC rfl (by decide) (lv' := [(2, vi 0), (0, vr E r0 10), (1, vi a1)]) rfl (rfl : 1 + 1 = 2) (xdt tt_J7_fill_53178 1 rfl) ?_
  refine g_aload_n hC rfl 1 rfl (rfl : 2 + 1 = 3) (xdt tt_J7_fill_53178 2 rfl) ?_
  refine g_alen hC hk0 ly1_10 (z := 60) (by decide) (rfl : 3 + 1 = 4) (xdt tt_J7_fill_53178 3 rfl) ?_
  refine g_istore_n hC rfl (by decide) (lv' := [(3, vi 60), (2, vi 0), (0, vr E r0 10), (1, vi a1)]) rfl (rfl : 4 + 1 = 5) (xdt tt_J7_fill_53178 4 rfl) ?_
  refine g_sub [2, 3, 1, 0] (lv' := [(0, vr E r0 10), (1, vi a1), (2, vi 0), (3, vi 60)]) rfl ?_
  exact k_J7_fill_53178_p1_10_b5 hC hZ hE hk0 _ _ _ _ _ h
def f_J7_fill_53178_p1_13_b5 (r0 : Nat) : Nat → xSt → Int → Int → Int → Option (xSt)
  | 0, _, _, _, _ => none
  | fuel + 1, S, x1, x2, x3 =>
    if wr x3 ≤ wr x2 then
      (some S)
    else
      (ckI x2 60 <|
      lt1 (wI S r0 13 (wr x2).toNat x1) fun S2 =>
      (f_J7_fill_53178_p1_13_b5 r0 fuel) S2 x1 (x2 + 1) x3)
def f_J7_fill_53178_p1_13 (S : xSt) (r0 : Nat) (a1 : Int) : Option (xSt) :=
  f_J7_fill_53178_p1_13_b5 r0 (fu S) S a1 0 60
set_option maxRecDepth 100000 in
set_option maxHeartbeats 4000000 in
theorem k_J7_fill_53178_p1_13_b5 {K : xCtx} {E : xE} {b : Nat} (hC : xOK K cJ7_fill_53178 RJ7 4 (rmE 1 b)) (hZ : xZ K) {S' : xSt} (hE : xEnd K E none (YQv E S')) {r0 : Nat} (hk0 : xkd E r0 = 1) : ∀ (fuel : Nat) (S : xSt) (x1 : Int) (x2 : Int) (x3 : Int), f_J7_fill_53178_p1_13_b5 r0 fuel S x1 x2 x3 = some S' → WG K E 5 [(0, vr E r0 13), (1, vi x1), (2, vi x2), (3, vi x3)] [] S := by
  intro fuel
  induction fuel with
  | zero => intro S x1 x2 x3 h; cases h
  | succ fuel ih =>
    intro S x1 x2 x3 h
    rw [f_J7_fill_53178_p1_13_b5] at h
    refine g_iload_n hC rfl 2 rfl (rfl : 5 + 1 = 6) (xdt tt_J7_fill_53178 5 rfl) ?_
    refine g_iload_n hC rfl 3 rfl (rfl : 6 + 1 = 7) (xdt tt_J7_fill_53178 6 rfl) ?_
    refine g_icmp_ge hC (show ((7 : Nat) : Int) + 13 = ((20 : Nat) : Int) by decide) (rfl : 7 + 3 = 10) (xdt tt_J7_fill_53178 7 rfl) (fun hc3 => ?_) (fun hc3 => ?_)
    · replace h := (if_pos hc3).symm.trans h
      cases h
      exact g_vret hC hE (xdt tt_J7_fill_53178 14 rfl)
    · replace h := (if_neg hc3).symm.trans h
      refine g_aload_n hC rfl 0 rfl (rfl : 10 + 1 = 11) (xdt tt_J7_fill_53178 8 rfl) ?_
      refine g_iload_n hC rfl 2 rfl (rfl : 11 + 1 = 12) (xdt tt_J7_fill_53178 9 rfl) ?_
      refine g_iload_n hC rfl 1 rfl (rfl : 12 + 1 = 13) (xdt tt_J7_fill_53178 10 rfl) ?_
      obtain ⟨hi1, h⟩ := ckI_i h
      obtain ⟨S2, hS2, h⟩ := lt1_i h
      refine g_iast hC hk0 ly1_13 hi1 rfl hS2 (rfl : 13 + 1 = 14) (xdt tt_J7_fill_53178 11 rfl) ?_
      refine g_iinc hC 2 rfl (by decide) (lv' := [(2, vi (x2 + 1)), (0, vr E r0 13), (1, vi x1), (3, vi x3)]) rfl (rfl : 14 + 3 = 17) (xdt tt_J7_fill_53178 12 rfl) ?_
      refine g_goto hC (show ((17 : Nat) : Int) + (-12) = ((5 : Nat) : Int) by decide) (xdt tt_J7_fill_53178 13 rfl) ?_
      refine g_sub [1, 2, 0, 3] (lv' := [(0, vr E r0 13), (1, vi x1), (2, vi (x2 + 1)), (3, vi x3)]) rfl ?_
      exact ih _ _ _ _ h
set_option maxRecDepth 100000 in
set_option maxHeartbeats 4000000 in
theorem c_J7_fill_53178_p1_13 (l : Launch) {E : xE} {S S' : xSt} {r0 : Nat} {a1 : Int} (hk0 : xkd E r0 = 1) (h : f_J7_fill_53178_p1_13 S r0 a1 = some S') : Met l yJ7_fill_53178 (xws yJ7_fill_53178 cJ7_fill_53178 4 none) (rmD 1) (YPc E [vr E r0 13, vi a1] S) (YQv E S') 0 0 (xA E) := by
  unfold f_J7_fill_53178_p1_13 at h
  refine met_v (by decide +kernel) (Nat.le_of_ble_eq_true rfl) (fun K hC hZ hE => ?_)
  have hC : xOK K cJ7_fill_53178 RJ7 4 (rmE 1 0) := hC
  show WG K E 0 [(0, vr E r0 13), (1, vi a1)] [] S
  refine g_iconst hC (rfl : 0 + 1 = 1) (xdt tt_J7_fill_53178 0 rfl) ?_
  refine g_istore_n hC rfl (by decide) (lv' := [(2, vi 0), (0, vr E r0 13), (1, vi a1)]) rfl (rfl : 1 + 1 = 2) (xdt tt_J7_fill_53178 1 rfl) ?_
  refine g_aload_n hC rfl 1 rfl (rfl : 2 + 1 = 3) (xdt tt_J7_fill_53178 2 rfl) ?_
  refine g_alen hC hk0 ly1_13 (z := 60) (by decide) (rfl : 3 + 1 = 4) (xdt tt_J7_fill_53178 3 rfl) ?_
  refine g_istore_n hC rfl (by decide) (lv' := [(3, vi 60), (2, vi 0), (0, vr E r0 13), (1, vi a1)]) rfl (rfl : 4 + 1 = 5) (xdt tt_J7_fill_53178 4 rfl) ?_
  refine g_sub [2, 3, 1, 0] (lv' := [(0, vr E r0 13), (1, vi a1), (2, vi 0), (3, vi 60)]) rfl ?_
  exact k_J7_fill_53178_p1_13_b5 hC hZ hE hk0 _ _ _ _ _ h
def f_X4_begin_p1_11 (S : xSt) (r0 : Nat) : Option (xSt) :=
  bd (f_J7_fill_53178_p1_13 S r0 0) fun S2 =>
  lt1 (wI S2 r0 11 1 0) fun S3 =>
  some S3
set_option maxRecDepth 100000 in
set_option maxHeartbeats 4000000 in
theorem c_X4_begin_p1_11 (l : Launch) {E : xE} {S S' : xSt} {r0 : Nat} (hk0 : xkd E r0 = 1) (h : f_X4_begin_p1_11 S r0 = some S') : Met l yX4_begin (xws yX4_begin cX4_begin 1 none) (rmD 2) (YPc E [vr E r0 11] S) (YQv E S') 0 0 (xA E) := by
  unfold f_X4_begin_p1_11 at h
  refine met_v (by decide +kernel) (Nat.le_of_ble_eq_true rfl) (fun K hC hZ hE => ?_)
  have hC : xOK K cX4_begin RX4 1 (rmE 2 0) := hC
  show WG K E 0 [(0, vr E r0 11)] [] S
  refine g_aload_n hC rfl 0 rfl (rfl : 0 + 1 = 1) (xdt tt_X4_begin 0 rfl) ?_
  refine g_getP hC hk0 kclX4 ly1_11 0 (by decide) (rfl : r0 + 0 = r0) rfl q130 (rfl : 1 + 3 = 4) (xdt tt_X4_begin 1 rfl) ?_
  refine g_getP hC hk0 kclX10 ly1_12 0 (by decide) (rfl : r0 + 0 = r0) rfl q172 (rfl : 4 + 3 = 7) (xdt tt_X4_begin 2 rfl) ?_
  refine g_iconst hC (rfl : 7 + 1 = 8) (xdt tt_X4_begin 3 rfl) ?_
  obtain ⟨S2, hc1, h⟩ := bd_i h
  refine g_callSv hC hZ m_J7_fill_53178 q174 (Nat.le_of_ble_eq_true rfl) [vr E r0 13, vi 0] rfl (fun l => c_J7_fill_53178_p1_13 l hk0 hc1) rfl (Nat.le_of_ble_eq_true rfl) (rfl : 8 + 3 = 11) (xdt tt_X4_begin 4 rfl) ?_
  refine g_aload_n hC rfl 0 rfl (rfl : 11 + 1 = 12) (xdt tt_X4_begin 5 rfl) ?_
  refine g_iconst hC (rfl : 12 + 1 = 13) (xdt tt_X4_begin 6 rfl) ?_
  obtain ⟨S3, hS3, h⟩ := lt1_i h
  refine g_putI hC hk0 kclX4 ly1_11 1 (by decide) rfl rfl rfl q173 hS3 (rfl : 13 + 3 = 16) (xdt tt_X4_begin 7 rfl) ?_
  cases h
  exact g_vret hC hE (xdt tt_X4_begin 8 rfl)
def f_J7_fill_53178_p1_15_b5 (r0 : Nat) : Nat → xSt → Int → Int → Int → Option (xSt)
  | 0, _, _, _, _ => none
  | fuel + 1, S, x1, x2, x3 =>
    if wr x3 ≤ wr x2 then
      (some S)
    else
      (ckI x2 9 <|
      lt1 (wI S r0 15 (wr x2).toNat x1) fun S2 =>
      (f_J7_fill_53178_p1_15_b5 r0 fuel) S2 x1 (x2 + 1) x3)
def f_J7_fill_53178_p1_15 (S : xSt) (r0 : Nat) (a1 : Int) : Option (xSt) :=
  f_J7_fill_53178_p1_15_b5 r0 (fu S) S a1 0 9
set_option maxRecDepth 100000 in
set_option maxHeartbeats 4000000 in
theorem k_J7_fill_53178_p1_15_b5 {K : xCtx} {E : xE} {b : Nat} (hC : xOK K cJ7_fill_53178 RJ7 4 (rmE 1 b)) (hZ : xZ K) {S' : xSt} (hE : xEnd K E none (YQv E S')) {r0 : Nat} (hk0 : xkd E r0 = 1) : ∀ (fuel : Nat) (S : xSt) (x1 : Int) (x2 : Int) (x3 : Int), f_J7_fill_53178_p1_15_b5 r0 fuel S x1 x2 x3 = some S' → WG K E 5 [(0, vr E r0 15), (1, vi x1), (2, vi x2), (3, vi x3)] [] S := by
  intro fuel
  induction fuel with
  | zero => intro S x1 x2 x3 h; cases h
  | succ fuel ih =>
    intro S x1 x2 x3 h
    rw [f_J7_fill_53178_p1_15_b5] at h
    refine g_iload_n hC rfl 2 rfl (rfl : 5 + 1 = 6) (xdt tt_J7_fill_53178 5 rfl) ?_
    refine g_iload_n hC rfl 3 rfl (rfl : 6 + 1 = 7) (xdt tt_J7_fill_53178 6 rfl) ?_
    refine g_icmp_ge hC (show ((7 : Nat) : Int) + 13 = ((20 : Nat) : Int) by decide) (rfl : 7 + 3 = 10) (xdt tt_J7_fill_53178 7 rfl) (fun hc3 => ?_) (fun hc3 => ?_)
    · replace h := (if_pos hc3).symm.trans h
      cases h
      exact g_vret hC hE (xdt tt_J7_fill_53178 14 rfl)
    · replace h := (if_neg hc3).symm.trans h
      refine g_aload_n hC rfl 0 rfl (rfl : 10 + 1 = 11) (xdt tt_J7_fill_53178 8 rfl) ?_
      refine g_iload_n hC rfl 2 rfl (rfl : 11 + 1 = 12) (xdt tt_J7_fill_53178 9 rfl) ?_
      refine g_iload_n hC rfl 1 rfl (rfl : 12 + 1 = 13) (xdt tt_J7_fill_53178 10 rfl) ?_
      obtain ⟨hi1, h⟩ := ckI_i h
      obtain ⟨S2, hS2, h⟩ := lt1_i h
      refine g_iast hC hk0 ly1_15 hi1 rfl hS2 (rfl : 13 + 1 = 14) (xdt tt_J7_fill_53178 11 rfl) ?_
      refine g_iinc hC 2 rfl (by decide) (lv' := [(2, vi (x2 + 1)), (0, vr E r0 15), (1, vi x1), (3, vi x3)]) rfl (rfl : 14 + 3 = 17) (xdt tt_J7_fill_53178 12 rfl) ?_
      refine g_goto hC (show ((17 : Nat) : Int) + (-12) = ((5 : Nat) : Int) by decide) (xdt tt_J7_fill_53178 13 rfl) ?_
      refine g_sub [1, 2, 0, 3] (lv' := [(0, vr E r0 15), (1, vi x1), (2, vi (x2 + 1)), (3, vi x3)]) rfl ?_
      exact ih _ _ _ _ h
set_option maxRecDepth 100000 in
set_option maxHeartbeats 4000000 in
theorem c_J7_fill_53178_p1_15 (l : Launch) {E : xE} {S S' : xSt} {r0 : Nat} {a1 : Int} (hk0 : xkd E r0 = 1) (h : f_J7_fill_53178_p1_15 S r0 a1 = some S') : Met l yJ7_fill_53178 (xws yJ7_fill_53178 cJ7_fill_53178 4 none) (rmD 1) (YPc E [vr E r0 15, vi a1] S) (YQv E S') 0 0 (xA E) := by
  unfold f_J7_fill_53178_p1_15 at h
  refine met_v (by decide +kernel) (Nat.le_of_ble_eq_true rfl) (fun K hC hZ hE => ?_)
  have hC : xOK K cJ7_fill_53178 RJ7 4 (rmE 1 0) := hC
  show WG K E 0 [(0, vr E r0 15), (1, vi a1)] [] S
  refine g_iconst hC (rfl : 0 + 1 = 1) (xdt tt_J7_fill_53178 0 rfl) ?_
  refine g_istore_n hC rfl (by decide) (lv' := [(2, vi 0), (0, vr E r0 15), (1, vi a1)]) rfl (rfl : 1 + 1 = 2) (xdt tt_J7_fill_53178 1 rfl) ?_
  refine g_aload_n hC rfl 1 rfl (rfl : 2 + 1 = 3) (xdt tt_J7_fill_53178 2 rfl) ?_
  refine g_alen hC hk0 ly1_15 (z := 9) (by decide) (rfl : 3 + 1 = 4) (xdt tt_J7_fill_53178 3 rfl) ?_
  refine g_istore_n hC rfl (by decide) (lv' := [(3, vi 9), (2, vi 0), (0, vr E r0 15), (1, vi a1)]) rfl (rfl : 4 + 1 = 5) (xdt tt_J7_fill_53178 4 rfl) ?_
  refine g_sub [2, 3, 1, 0] (lv' := [(0, vr E r0 15), (1, vi a1), (2, vi 0), (3, vi 9)]) rfl ?_
  exact k_J7_fill_53178_p1_15_b5 hC hZ hE hk0 _ _ _ _ _ h
def f_J7_fill_53178_p1_16_b5 (r0 : Nat) : Nat → xSt → Int → Int → Int → Option (xSt)
  | 0, _, _, _, _ => none
  | fuel + 1, S, x1, x2, x3 =>
    if wr x3 ≤ wr x2 then
      (some S)
    else
      (ckI x2 9 <|
      lt1 (wI S r0 16 (wr x2).toNat x1) fun S2 =>
      (f_J7_fill_53178_p1_16_b5 r0 fuel) S2 x1 (x2 + 1) x3)
def f_J7_fill_53178_p1_16 (S : xSt) (r0 : Nat) (a1 : Int) : Option (xSt) :=
  f_J7_fill_53178_p1_16_b5 r0 (fu S) S a1 0 9
set_option maxRecDepth 100000 in
set_option maxHeartbeats 4000000 in
theorem k_J7_fill_53178_p1_16_b5 {K : xCtx} {E : xE} {b : Nat} (hC : xOK K cJ7_fill_53178 RJ7 4 (rmE 1 b)) (hZ : xZ K) {S' : xSt} (hE : xEnd K E none (YQv E S')) {r0 : Nat} (hk0 : xkd E r0 = 1) : ∀ (fuel : Nat) (S : xSt) (x1 : Int) (x2 : Int) (x3 : Int), f_J7_fill_53178_p1_16_b5 r0 fuel S x1 x2 x3 = some S' → WG K E 5 [(0, vr E r0 16), (1, vi x1), (2, vi x2), (3, vi x3)] [] S := by
  intro fuel
  induction fuel with
  | zero => intro S x1 x2 x3 h; cases h
  | succ fuel ih =>
    intro S x1 x2 x3 h
    rw [f_J7_fill_53178_p1_16_b5] at h
    refine g_iload_n hC rfl 2 rfl (rfl : 5 + 1 = 6) (xdt tt_J7_fill_53178 5 rfl) ?_
    refine g_iload_n hC rfl 3 rfl (rfl : 6 + 1 = 7) (xdt tt_J7_fill_53178 6 rfl) ?_
    refine g_icmp_ge hC (show ((7 : Nat) : Int) + 13 = ((20 : Nat) : Int) by decide) (rfl : 7 + 3 = 10) (xdt tt_J7_fill_53178 7 rfl) (fun hc3 => ?_) (fun hc3 => ?_)
    · replace h := (if_pos hc3).symm.trans h
      cases h
      exact g_vret hC hE (xdt tt_J7_fill_53178 14 rfl)
    · replace h := (if_neg hc3).symm.trans h
      refine g_aload_n hC rfl 0 rfl (rfl : 10 + 1 = 11) (xdt tt_J7_fill_53178 8 rfl) ?_
      refine g_iload_n hC rfl 2 rfl (rfl : 11 + 1 = 12) (xdt tt_J7_fill_53178 9 rfl) ?_
      refine g_iload_n hC rfl 1 rfl (rfl : 12 + 1 = 13) (xdt tt_J7_fill_53178 10 rfl) ?_
      obtain ⟨hi1, h⟩ := ckI_i h
      obtain ⟨S2, hS2, h⟩ := lt1_i h
      refine g_iast hC hk0 ly1_16 hi1 rfl hS2 (rfl : 13 + 1 = 14) (xdt tt_J7_fill_53178 11 rfl) ?_
      refine g_iinc hC 2 rfl (by decide) (lv' := [(2, vi (x2 + 1)), (0, vr E r0 16), (1, vi x1), (3, vi x3)]) rfl (rfl : 14 + 3 = 17) (xdt tt_J7_fill_53178 12 rfl) ?_
      refine g_goto hC (show ((17 : Nat) : Int) + (-12) = ((5 : Nat) : Int) by decide) (xdt tt_J7_fill_53178 13 rfl) ?_
      refine g_sub [1, 2, 0, 3] (lv' := [(0, vr E r0 16), (1, vi x1), (2, vi (x2 + 1)), (3, vi x3)]) rfl ?_
      exact ih _ _ _ _ h
set_option maxRecDepth 100000 in
set_option maxHeartbeats 4000000 in
theorem c_J7_fill_53178_p1_16 (l : Launch) {E : xE} {S S' : xSt} {r0 : Nat} {a1 : Int} (hk0 : xkd E r0 = 1) (h : f_J7_fill_53178_p1_16 S r0 a1 = some S') : Met l yJ7_fill_53178 (xws yJ7_fill_53178 cJ7_fill_53178 4 none) (rmD 1) (YPc E [vr E r0 16, vi a1] S) (YQv E S') 0 0 (xA E) := by
  unfold f_J7_fill_53178_p1_16 at h
  refine met_v (by decide +kernel) (Nat.le_of_ble_eq_true rfl) (fun K hC hZ hE => ?_)
  have hC : xOK K cJ7_fill_53178 RJ7 4 (rmE 1 0) := hC
  show WG K E 0 [(0, vr E r0 16), (1, vi a1)] [] S
  refine g_iconst hC (rfl : 0 + 1 = 1) (xdt tt_J7_fill_53178 0 rfl) ?_
  refine g_istore_n hC rfl (by decide) (lv' := [(2, vi 0), (0, vr E r0 16), (1, vi a1)]) rfl (rfl : 1 + 1 = 2) (xdt tt_J7_fill_53178 1 rfl) ?_
  refine g_aload_n hC rfl 1 rfl (rfl : 2 + 1 = 3) (xdt tt_J7_fill_53178 2 rfl) ?_
  refine g_alen hC hk0 ly1_16 (z := 9) (by decide) (rfl : 3 + 1 = 4) (xdt tt_J7_fill_53178 3 rfl) ?_
  refine g_istore_n hC rfl (by decide) (lv' := [(3, vi 9), (2, vi 0), (0, vr E r0 16), (1, vi a1)]) rfl (rfl : 4 + 1 = 5) (xdt tt_J7_fill_53178 4 rfl) ?_
  refine g_sub [2, 3, 1, 0] (lv' := [(0, vr E r0 16), (1, vi a1), (2, vi 0), (3, vi 9)]) rfl ?_
  exact k_J7_fill_53178_p1_16_b5 hC hZ hE hk0 _ _ _ _ _ h
def f_J7_fill_53178_p1_17_b5 (r0 : Nat) : Nat → xSt → Int → Int → Int → Option (xSt)
  | 0, _, _, _, _ => none
  | fuel + 1, S, x1, x2, x3 =>
    if wr x3 ≤ wr x2 then
      (some S)
    else
      (ckI x2 60 <|
      lt1 (wI S r0 17 (wr x2).toNat x1) fun S2 =>
      (f_J7_fill_53178_p1_17_b5 r0 fuel) S2 x1 (x2 + 1) x3)
def f_J7_fill_53178_p1_17 (S : xSt) (r0 : Nat) (a1 : Int) : Option (xSt) :=
  f_J7_fill_53178_p1_17_b5 r0 (fu S) S a1 0 60
set_option maxRecDepth 100000 in
set_option maxHeartbeats 4000000 in
theorem k_J7_fill_53178_p1_17_b5 {K : xCtx} {E : xE} {b : Nat} (hC : xOK K cJ7_fill_53178 RJ7 4 (rmE 1 b)) (hZ : xZ K) {S' : xSt} (hE : xEnd K E none (YQv E S')) {r0 : Nat} (hk0 : xkd E r0 = 1) : ∀ (fuel : Nat) (S : xSt) (x1 : Int) (x2 : Int) (x3 : Int), f_J7_fill_53178_p1_17_b5 r0 fuel S x1 x2 x3 = some S' → WG K E 5 [(0, vr E r0 17), (1, vi x1), (2, vi x2), (3, vi x3)] [] S := by
  intro fuel
  induction fuel with
  | zero => intro S x1 x2 x3 h; cases h
  | succ fuel ih =>
    intro S x1 x2 x3 h
    rw [f_J7_fill_53178_p1_17_b5] at h
    refine g_iload_n hC rfl 2 rfl (rfl : 5 + 1 = 6) (xdt tt_J7_fill_53178 5 rfl) ?_
    refine g_iload_n hC rfl 3 rfl (rfl : 6 + 1 = 7) (xdt tt_J7_fill_53178 6 rfl) ?_
    refine g_icmp_ge hC (show ((7 : Nat) : Int) + 13 = ((20 : Nat) : Int) by decide) (rfl : 7 + 3 = 10) (xdt tt_J7_fill_53178 7 rfl) (fun hc3 => ?_) (fun hc3 => ?_)
    · replace h := (if_pos hc3).symm.trans h
      cases h
      exact g_vret hC hE (xdt tt_J7_fill_53178 14 rfl)
    · replace h := (if_neg hc3).symm.trans h
      refine g_aload_n hC rfl 0 rfl (rfl : 10 + 1 = 11) (xdt tt_J7_fill_53178 8 rfl) ?_
      refine g_iload_n hC rfl 2 rfl (rfl : 11 + 1 = 12) (xdt tt_J7_fill_53178 9 rfl) ?_
      refine g_iload_n hC rfl 1 rfl (rfl : 12 + 1 = 13) (xdt tt_J7_fill_53178 10 rfl) ?_
      obtain ⟨hi1, h⟩ := ckI_i h
      obtain ⟨S2, hS2, h⟩ := lt1_i h
      refine g_iast hC hk0 ly1_17 hi1 rfl hS2 (rfl : 13 + 1 = 14) (xdt tt_J7_fill_53178 11 rfl) ?_
      refine g_iinc hC 2 rfl (by decide) (lv' := [(2, vi (x2 + 1)), (0, vr E r0 17), (1, vi x1), (3, vi x3)]) rfl (rfl : 14 + 3 = 17) (xdt tt_J7_fill_53178 12 rfl) ?_
      refine g_goto hC (show ((17 : Nat) : Int) + (-12) = ((5 : Nat) : Int) by decide) (xdt tt_J7_fill_53178 13 rfl) ?_
      refine g_sub [1, 2, 0, 3] (lv' := [(0, vr E r0 17), (1, vi x1), (2, vi (x2 + 1)), (3, vi x3)]) rfl ?_
      exact ih _ _ _ _ h
set_option maxRecDepth 100000 in
set_option maxHeartbeats 4000000 in
theorem c_J7_fill_53178_p1_17 (l : Launch) {E : xE} {S S' : xSt} {r0 : Nat} {a1 : Int} (hk0 : xkd E r0 = 1) (h : f_J7_fill_53178_p1_17 S r0 a1 = some S') : Met l yJ7_fill_53178 (xws yJ7_fill_53178 cJ7_fill_53178 4 none) (rmD 1) (YPc E [vr E r0 17, vi a1] S) (YQv E S') 0 0 (xA E) := by
  unfold f_J7_fill_53178_p1_17 at h
  refine met_v (by decide +kernel) (Nat.le_of_ble_eq_true rfl) (fun K hC hZ hE => ?_)
  have hC : xOK K cJ7_fill_53178 RJ7 4 (rmE 1 0) := hC
  show WG K E 0 [(0, vr E r0 17), (1, vi a1)] [] S
  refine g_iconst hC (rfl : 0 + 1 = 1) (xdt tt_J7_fill_53178 0 rfl) ?_
  refine g_istore_n hC rfl (by decide) (lv' := [(2, vi 0), (0, vr E r0 17), (1, vi a1)]) rfl (rfl : 1 + 1 = 2) (xdt tt_J7_fill_53178 1 rfl) ?_
  refine g_aload_n hC rfl 1 rfl (rfl : 2 + 1 = 3) (xdt tt_J7_fill_53178 2 rfl) ?_
  refine g_alen hC hk0 ly1_17 (z := 60) (by decide) (rfl : 3 + 1 = 4) (xdt tt_J7_fill_53178 3 rfl) ?_
  refine g_istore_n hC rfl (by decide) (lv' := [(3, vi 60), (2, vi 0), (0, vr E r0 17), (1, vi a1)]) rfl (rfl : 4 + 1 = 5) (xdt tt_J7_fill_53178 4 rfl) ?_
  refine g_sub [2, 3, 1, 0] (lv' := [(0, vr E r0 17), (1, vi a1), (2, vi 0), (3, vi 60)]) rfl ?_
  exact k_J7_fill_53178_p1_17_b5 hC hZ hE hk0 _ _ _ _ _ h
def f_X9_clear_p1_14 (S : xSt) (r0 : Nat) : Option (xSt) :=
  bd (f_J7_fill_53178_p1_15 S r0 0) fun S2 =>
  bd (f_J7_fill_53178_p1_16 S2 r0 0) fun S4 =>
  bd (f_J7_fill_53178_p1_17 S4 r0 0) fun S6 =>
  lt1 (wI S6 r0 14 4 0) fun S7 =>
  some S7
set_option maxRecDepth 100000 in
set_option maxHeartbeats 4000000 in
theorem c_X9_clear_p1_14 (l : Launch) {E : xE} {S S' : xSt} {r0 : Nat} (hk0 : xkd E r0 = 1) (h : f_X9_clear_p1_14 S r0 = some S') : Met l yX9_clear (xws yX9_clear cX9_clear 1 none) (rmD 2) (YPc E [vr E r0 14] S) (YQv E S') 0 0 (xA E) := by
  unfold f_X9_clear_p1_14 at h
  refine met_v (by decide +kernel) (Nat.le_of_ble_eq_true rfl) (fun K hC hZ hE => ?_)
  have hC : xOK K cX9_clear RX9 1 (rmE 2 0) := hC
  show WG K E 0 [(0, vr E r0 14)] [] S
  refine g_aload_n hC rfl 0 rfl (rfl : 0 + 1 = 1) (xdt tt_X9_clear 0 rfl) ?_
  refine g_getP hC hk0 kclX9 ly1_14 0 (by decide) (rfl : r0 + 0 = r0) rfl q134 (rfl : 1 + 3 = 4) (xdt tt_X9_clear 1 rfl) ?_
  refine g_iconst hC (rfl : 4 + 1 = 5) (xdt tt_X9_clear 2 rfl) ?_
  obtain ⟨S2, hc1, h⟩ := bd_i h
  refine g_callSv hC hZ m_J7_fill_53178 q180 (Nat.le_of_ble_eq_true rfl) [vr E r0 15, vi 0] rfl (fun l => c_J7_fill_53178_p1_15 l hk0 hc1) rfl (Nat.le_of_ble_eq_true rfl) (rfl : 5 + 3 = 8) (xdt tt_X9_clear 3 rfl) ?_
  refine g_aload_n hC rfl 0 rfl (rfl : 8 + 1 = 9) (xdt tt_X9_clear 4 rfl) ?_
  refine g_getP hC hk0 kclX9 ly1_14 1 (by decide) (rfl : r0 + 0 = r0) rfl q135 (rfl : 9 + 3 = 12) (xdt tt_X9_clear 5 rfl) ?_
  refine g_iconst hC (rfl : 12 + 1 = 13) (xdt tt_X9_clear 6 rfl) ?_
  obtain ⟨S4, hc3, h⟩ := bd_i h
  refine g_callSv hC hZ m_J7_fill_53178 q180 (Nat.le_of_ble_eq_true rfl) [vr E r0 16, vi 0] rfl (fun l => c_J7_fill_53178_p1_16 l hk0 hc3) rfl (Nat.le_of_ble_eq_true rfl) (rfl : 13 + 3 = 16) (xdt tt_X9_clear 7 rfl) ?_
  refine g_aload_n hC rfl 0 rfl (rfl : 16 + 1 = 17) (xdt tt_X9_clear 8 rfl) ?_
  refine g_getP hC hk0 kclX9 ly1_14 2 (by decide) (rfl : r0 + 0 = r0) rfl q136 (rfl : 17 + 3 = 20) (xdt tt_X9_clear 9 rfl) ?_
  refine g_iconst hC (rfl : 20 + 1 = 21) (xdt tt_X9_clear 10 rfl) ?_
  obtain ⟨S6, hc5, h⟩ := bd_i h
  refine g_callSv hC hZ m_J7_fill_53178 q180 (Nat.le_of_ble_eq_true rfl) [vr E r0 17, vi 0] rfl (fun l => c_J7_fill_53178_p1_17 l hk0 hc5) rfl (Nat.le_of_ble_eq_true rfl) (rfl : 21 + 3 = 24) (xdt tt_X9_clear 11 rfl) ?_
  refine g_aload_n hC rfl 0 rfl (rfl : 24 + 1 = 25) (xdt tt_X9_clear 12 rfl) ?_
  refine g_iconst hC (rfl : 25 + 1 = 26) (xdt tt_X9_clear 13 rfl) ?_
  obtain ⟨S7, hS7, h⟩ := lt1_i h
  refine g_putI hC hk0 kclX9 ly1_14 4 (by decide) rfl rfl rfl q179 hS7 (rfl : 26 + 3 = 29) (xdt tt_X9_clear 14 rfl) ?_
  cases h
  exact g_vret hC hE (xdt tt_X9_clear 15 rfl)
def f_X0_begin_p1_0_2_0_b74 (r0 : Nat) (r1 : Nat) : Nat → xSt → Int → Option (xSt)
  | 0, _, _ => none
  | fuel + 1, S, x2 =>
    if wr 60 ≤ wr x2 then
      (lt1 (wI S r0 0 9 (-1)) fun S13 =>
      lt1 (wI S13 r0 0 10 0) fun S14 =>
      lt1 (wI S14 r0 0 11 0) fun S15 =>
      lt1 (wI S15 r0 0 12 0) fun S16 =>
      lt1 (wI S16 r0 0 13 0) fun S17 =>
      lt1 (wI S17 r0 0 14 0) fun S18 =>
      lt1 (wI S18 r0 0 15 0) fun S19 =>
      lt1 (wI S19 r0 0 16 0) fun S20 =>
      lt1 (wI S20 r0 0 17 0) fun S21 =>
      some S21)
    else
      (ckI x2 60 <|
      lt1 (wI S r0 19 (wr x2).toNat 0) fun S23 =>
      (f_X0_begin_p1_0_2_0_b74 r0 r1 fuel) S23 (x2 + 1))
def f_X0_begin_p1_0_2_0 (S : xSt) (r0 : Nat) (r1 : Nat) : Option (xSt) :=
  lt1 (wP S r0 0 0 (r1, 0)) fun S1 =>
  lt1 (wA S1 r0 1 (cpI (S1.2.1 r1 1) (S1.2.1 r0 1) (wr 0).toNat (wr 0).toNat (wr 6).toNat)) fun S2 =>
  bd (f_X8_copyFrom_p1_2_2_2 S2 r0 r1) fun S4 =>
  lt1 (wI S4 r0 5 2 0) fun S5 =>
  lt1 (wI S5 r0 8 0 0) fun S6 =>
  bd (f_J7_fill_53178_p1_10 S6 r0 0) fun S8 =>
  bd (f_X4_begin_p1_11 S8 r0) fun S10 =>
  bd (f_X9_clear_p1_14 S10 r0) fun S12 =>
  f_X0_begin_p1_0_2_0_b74 r0 r1 (fu S12) S12 0
set_option maxRecDepth 100000 in
set_option maxHeartbeats 4000000 in
theorem k_X0_begin_p1_0_2_0_b74 {K : xCtx} {E : xE} {b : Nat} (hC : xOK K cX0_begin RX0 3 (rmE 3 b)) (hZ : xZ K) {S' : xSt} (hE : xEnd K E none (YQv E S')) {r0 : Nat} {r1 : Nat} (hk0 : xkd E r0 = 1) (hk1 : xkd E r1 = 2) : ∀ (fuel : Nat) (S : xSt) (x2 : Int), f_X0_begin_p1_0_2_0_b74 r0 r1 fuel S x2 = some S' → WG K E 74 [(0, vr E r0 0), (2, vi x2)] [] S := by
  intro fuel
  induction fuel with
  | zero => intro S x2 h; cases h
  | succ fuel ih =>
    intro S x2 h
    rw [f_X0_begin_p1_0_2_0_b74] at h
    refine g_iload_n hC rfl 1 rfl (rfl : 74 + 1 = 75) (xdt tt_X0_begin 37 rfl) ?_
    refine g_bipush hC (by decide) (rfl : 75 + 2 = 77) (xdt tt_X0_begin 38 rfl) ?_
    refine g_icmp_ge hC (show ((77 : Nat) : Int) + 16 = ((93 : Nat) : Int) by decide) (rfl : 77 + 3 = 80) (xdt tt_X0_begin 39 rfl) (fun hc24 => ?_) (fun hc24 => ?_)
    · replace h := (if_pos hc24).symm.trans h
      refine g_aload_n hC rfl 0 rfl (rfl : 93 + 1 = 94) (xdt tt_X0_begin 47 rfl) ?_
      refine g_iconst hC (rfl : 94 + 1 = 95) (xdt tt_X0_begin 48 rfl) ?_
      obtain ⟨S13, hS13, h⟩ := lt1_i h
      refine g_putI hC hk0 kclX0 ly1_0 9 (by decide) rfl rfl rfl q149 hS13 (rfl : 95 + 3 = 98) (xdt tt_X0_begin 49 rfl) ?_
      refine g_aload_n hC rfl 0 rfl (rfl : 98 + 1 = 99) (xdt tt_X0_begin 50 rfl) ?_
      refine g_iconst hC (rfl : 99 + 1 = 100) (xdt tt_X0_begin 51 rfl) ?_
      obtain ⟨S14, hS14, h⟩ := lt1_i h
      refine g_putI hC hk0 kclX0 ly1_0 10 (by decide) rfl rfl rfl q150 hS14 (rfl : 100 + 3 = 103) (xdt tt_X0_begin 52 rfl) ?_
      refine g_aload_n hC rfl 0 rfl (rfl : 103 + 1 = 104) (xdt tt_X0_begin 53 rfl) ?_
      refine g_iconst hC (rfl : 104 + 1 = 105) (xdt tt_X0_begin 54 rfl) ?_
      obtain ⟨S15, hS15, h⟩ := lt1_i h
      refine g_putZ hC hk0 kclX0 ly1_0 11 (by decide) rfl rfl rfl q151 (Or.inl rfl) hS15 (rfl : 105 + 3 = 108) (xdt tt_X0_begin 55 rfl) ?_
      refine g_aload_n hC rfl 0 rfl (rfl : 108 + 1 = 109) (xdt tt_X0_begin 56 rfl) ?_
      refine g_iconst hC (rfl : 109 + 1 = 110) (xdt tt_X0_begin 57 rfl) ?_
      obtain ⟨S16, hS16, h⟩ := lt1_i h
      refine g_putI hC hk0 kclX0 ly1_0 12 (by decide) rfl rfl rfl q152 hS16 (rfl : 110 + 3 = 113) (xdt tt_X0_begin 58 rfl) ?_
      refine g_aload_n hC rfl 0 rfl (rfl : 113 + 1 = 114) (xdt tt_X0_begin 59 rfl) ?_
      refine g_iconst hC (rfl : 114 + 1 = 115) (xdt tt_X0_begin 60 rfl) ?_
      obtain ⟨S17, hS17, h⟩ := lt1_i h
      refine g_putZ hC hk0 kclX0 ly1_0 13 (by decide) rfl rfl rfl q153 (Or.inl rfl) hS17 (rfl : 115 + 3 = 118) (xdt tt_X0_begin 61 rfl) ?_
      refine g_aload_n hC rfl 0 rfl (rfl : 118 + 1 = 119) (xdt tt_X0_begin 62 rfl) ?_
      refine g_iconst hC (rfl : 119 + 1 = 120) (xdt tt_X0_begin 63 rfl) ?_
      obtain ⟨S18, hS18, h⟩ := lt1_i h
      refine g_putI hC hk0 kclX0 ly1_0 14 (by decide) rfl rfl rfl q154 hS18 (rfl : 120 + 3 = 123) (xdt tt_X0_begin 64 rfl) ?_
      refine g_aload_n hC rfl 0 rfl (rfl : 123 + 1 = 124) (xdt tt_X0_begin 65 rfl) ?_
      refine g_iconst hC (rfl : 124 + 1 = 125) (xdt tt_X0_begin 66 rfl) ?_
      obtain ⟨S19, hS19, h⟩ := lt1_i h
      refine g_putI hC hk0 kclX0 ly1_0 15 (by decide) rfl rfl rfl q155 hS19 (rfl : 125 + 3 = 128) (xdt tt_X0_begin 67 rfl) ?_
      refine g_aload_n hC rfl 0 rfl (rfl : 128 + 1 = 129) (xdt tt_X0_begin 68 rfl) ?_
      refine g_iconst hC (rfl : 129 + 1 = 130) (xdt tt_X0_begin 69 rfl) ?_
      obtain ⟨S20, hS20, h⟩ := lt1_i h
      refine g_putI hC hk0 kclX0 ly1_0 16 (by decide) rfl rfl rfl q156 hS20 (rfl : 130 + 3 = 133) (xdt tt_X0_begin 70 rfl) ?_
      refine g_aload_n hC rfl 0 rfl (rfl : 133 + 1 = 134) (xdt tt_X0_begin 71 rfl) ?_
      refine g_iconst hC (rfl : 134 + 1 = 135) (xdt tt_X0_begin 72 rfl) ?_
      obtain ⟨S21, hS21, h⟩ := lt1_i h
      refine g_putI hC hk0 kclX0 ly1_0 17 (by decide) rfl rfl rfl q157 hS21 (rfl : 135 + 3 = 138) (xdt tt_X0_begin 73 rfl) ?_
      cases h
      exact g_vret hC hE (xdt tt_X0_begin 74 rfl)
    · replace h := (if_neg hc24).symm.trans h
      refine g_aload_n hC rfl 0 rfl (rfl : 80 + 1 = 81) (xdt tt_X0_begin 40 rfl) ?_
      refine g_getP hC hk0 kclX0 ly1_0 8 (by decide) (rfl : r0 + 0 = r0) rfl q113 (rfl : 81 + 3 = 84) (xdt tt_X0_begin 41 rfl) ?_
      refine g_iload_n hC rfl 1 rfl (rfl : 84 + 1 = 85) (xdt tt_X0_begin 42 rfl) ?_
      refine g_iconst hC (rfl : 85 + 1 = 86) (xdt tt_X0_begin 43 rfl) ?_
      obtain ⟨hi22, h⟩ := ckI_i h
      obtain ⟨S23, hS23, h⟩ := lt1_i h
      refine g_zast hC hk0 ly1_19 hi22 (Or.inl rfl) rfl hS23 (rfl : 86 + 1 = 87) (xdt tt_X0_begin 44 rfl) ?_
      refine g_iinc hC 1 rfl (by decide) (lv' := [(2, vi (x2 + 1)), (0, vr E r0 0)]) rfl (rfl : 87 + 3 = 90) (xdt tt_X0_begin 45 rfl) ?_
      refine g_goto hC (show ((90 : Nat) : Int) + (-16) = ((74 : Nat) : Int) by decide) (xdt tt_X0_begin 46 rfl) ?_
      refine g_sub [1, 0] (lv' := [(0, vr E r0 0), (2, vi (x2 + 1))]) rfl ?_
      exact ih _ _ h
set_option maxRecDepth 100000 in
set_option maxHeartbeats 4000000 in
theorem c_X0_begin_p1_0_2_0 (l : Launch) {E : xE} {S S' : xSt} {r0 : Nat} {r1 : Nat} (hk0 : xkd E r0 = 1) (hk1 : xkd E r1 = 2) (h : f_X0_begin_p1_0_2_0 S r0 r1 = some S') : Met l yX0_begin (xws yX0_begin cX0_begin 3 none) (rmD 3) (YPc E [vr E r0 0, vr E r1 0] S) (YQv E S') 0 0 (xA E) := by
  unfold f_X0_begin_p1_0_2_0 at h
  refine met_v (by decide +kernel) (Nat.le_of_ble_eq_true rfl) (fun K hC hZ hE => ?_)
  have hC : xOK K cX0_begin RX0 3 (rmE 3 0) := hC
  show WG K E 0 [(0, vr E r0 0), (1, vr E r1 0)] [] S
  refine g_aload_n hC rfl 0 rfl (rfl : 0 + 1 = 1) (xdt tt_X0_begin 0 rfl) ?_
  refine g_aload_n hC rfl 1 rfl (rfl : 1 + 1 = 2) (xdt tt_X0_begin 1 rfl) ?_
  obtain ⟨S1, hS1, h⟩ := lt1_i h
  refine g_putV hC hk0 kclX0 ly1_0 0 (by decide) rfl rfl q142 (fun _ => rfl) (fun _ => rfl) (by decide) hS1 (rfl : 2 + 3 = 5) (xdt tt_X0_begin 2 rfl) ?_
  refine g_aload_n hC rfl 1 rfl (rfl : 5 + 1 = 6) (xdt tt_X0_begin 3 rfl) ?_
  refine g_getP hC hk1 kclX5 ly2_0 0 (by decide) (rfl : r1 + 0 = r1) rfl q143 (rfl : 6 + 3 = 9) (xdt tt_X0_begin 4 rfl) ?_
  refine g_iconst hC (rfl : 9 + 1 = 10) (xdt tt_X0_begin 5 rfl) ?_
  refine g_aload_n hC rfl 0 rfl (rfl : 10 + 1 = 11) (xdt tt_X0_begin 6 rfl) ?_
  refine g_getP hC hk0 kclX0 ly1_0 1 (by decide) (rfl : r0 + 0 = r0) rfl q92 (rfl : 11 + 3 = 14) (xdt tt_X0_begin 7 rfl) ?_
  refine g_iconst hC (rfl : 14 + 1 = 15) (xdt tt_X0_begin 8 rfl) ?_
  refine g_bipush hC (by decide) (rfl : 15 + 2 = 17) (xdt tt_X0_begin 9 rfl) ?_
  obtain ⟨S2, hS2, h⟩ := lt1_i h
  refine g_copy hC hk1 hk0 ly2_1 ly1_1 rfl (by decide) (by decide) q144 q78 q79 q80 (Nat.le_of_ble_eq_true rfl) (Nat.le_of_ble_eq_true rfl) hS2 (rfl : 17 + 3 = 20) (xdt tt_X0_begin 10 rfl) ?_
  refine g_aload_n hC rfl 0 rfl (rfl : 20 + 1 = 21) (xdt tt_X0_begin 11 rfl) ?_
  refine g_getP hC hk0 kclX0 ly1_0 2 (by decide) (rfl : r0 + 0 = r0) rfl q94 (rfl : 21 + 3 = 24) (xdt tt_X0_begin 12 rfl) ?_
  refine g_aload_n hC rfl 1 rfl (rfl : 24 + 1 = 25) (xdt tt_X0_begin 13 rfl) ?_
  refine g_getP hC hk1 kclX5 ly2_0 1 (by decide) (rfl : r1 + 0 = r1) rfl q145 (rfl : 25 + 3 = 28) (xdt tt_X0_begin 14 rfl) ?_
  obtain ⟨S4, hc3, h⟩ := bd_i h
  refine g_callVv hC hZ hk0 kclX8 ly1_2 m_X8_copyFrom q158 (Nat.le_of_ble_eq_true rfl) [vr E r1 2] rfl (fun l => c_X8_copyFrom_p1_2_2_2 l hk0 hk1 hc3) rfl (Nat.le_of_ble_eq_true rfl) (rfl : 28 + 3 = 31) (xdt tt_X0_begin 15 rfl) ?_
  refine g_aload_n hC rfl 0 rfl (rfl : 31 + 1 = 32) (xdt tt_X0_begin 16 rfl) ?_
  refine g_getP hC hk0 kclX0 ly1_0 3 (by decide) (rfl : r0 + 0 = r0) rfl q98 (rfl : 32 + 3 = 35) (xdt tt_X0_begin 17 rfl) ?_
  refine g_iconst hC (rfl : 35 + 1 = 36) (xdt tt_X0_begin 18 rfl) ?_
  obtain ⟨S5, hS5, h⟩ := lt1_i h
  refine g_putI hC hk0 kclX6 ly1_5 2 (by decide) rfl rfl rfl q146 hS5 (rfl : 36 + 3 = 39) (xdt tt_X0_begin 19 rfl) ?_
  refine g_aload_n hC rfl 0 rfl (rfl : 39 + 1 = 40) (xdt tt_X0_begin 20 rfl) ?_
  refine g_getP hC hk0 kclX0 ly1_0 4 (by decide) (rfl : r0 + 0 = r0) rfl q102 (rfl : 40 + 3 = 43) (xdt tt_X0_begin 21 rfl) ?_
  refine g_iconst hC (rfl : 43 + 1 = 44) (xdt tt_X0_begin 22 rfl) ?_
  obtain ⟨S6, hS6, h⟩ := lt1_i h
  refine g_putZ hC hk0 kclX7 ly1_8 0 (by decide) rfl rfl rfl q147 (Or.inl rfl) hS6 (rfl : 44 + 3 = 47) (xdt tt_X0_begin 23 rfl) ?_
  refine g_aload_n hC rfl 0 rfl (rfl : 47 + 1 = 48) (xdt tt_X0_begin 24 rfl) ?_
  refine g_getP hC hk0 kclX0 ly1_0 5 (by decide) (rfl : r0 + 0 = r0) rfl q106 (rfl : 48 + 3 = 51) (xdt tt_X0_begin 25 rfl) ?_
  refine g_getP hC hk0 kclX10 ly1_9 0 (by decide) (rfl : r0 + 0 = r0) rfl q148 (rfl : 51 + 3 = 54) (xdt tt_X0_begin 26 rfl) ?_
  refine g_iconst hC (rfl : 54 + 1 = 55) (xdt tt_X0_begin 27 rfl) ?_
  obtain ⟨S8, hc7, h⟩ := bd_i h
  refine g_callSv hC hZ m_J7_fill_53178 q164 (Nat.le_of_ble_eq_true rfl) [vr E r0 10, vi 0] rfl (fun l => c_J7_fill_53178_p1_10 l hk0 hc7) rfl (Nat.le_of_ble_eq_true rfl) (rfl : 55 + 3 = 58) (xdt tt_X0_begin 28 rfl) ?_
  refine g_aload_n hC rfl 0 rfl (rfl : 58 + 1 = 59) (xdt tt_X0_begin 29 rfl) ?_
  refine g_getP hC hk0 kclX0 ly1_0 6 (by decide) (rfl : r0 + 0 = r0) rfl q108 (rfl : 59 + 3 = 62) (xdt tt_X0_begin 30 rfl) ?_
  obtain ⟨S10, hc9, h⟩ := bd_i h
  refine g_callVv hC hZ hk0 kclX4 ly1_11 m_X4_begin q168 (Nat.le_of_ble_eq_true rfl) [] rfl (fun l => c_X4_begin_p1_11 l hk0 hc9) rfl (Nat.le_of_ble_eq_true rfl) (rfl : 62 + 3 = 65) (xdt tt_X0_begin 31 rfl) ?_
  refine g_aload_n hC rfl 0 rfl (rfl : 65 + 1 = 66) (xdt tt_X0_begin 32 rfl) ?_
  refine g_getP hC hk0 kclX0 ly1_0 7 (by decide) (rfl : r0 + 0 = r0) rfl q112 (rfl : 66 + 3 = 69) (xdt tt_X0_begin 33 rfl) ?_
  obtain ⟨S12, hc11, h⟩ := bd_i h
  refine g_callVv hC hZ hk0 kclX9 ly1_14 m_X9_clear q175 (Nat.le_of_ble_eq_true rfl) [] rfl (fun l => c_X9_clear_p1_14 l hk0 hc11) rfl (Nat.le_of_ble_eq_true rfl) (rfl : 69 + 3 = 72) (xdt tt_X0_begin 34 rfl) ?_
  refine g_iconst hC (rfl : 72 + 1 = 73) (xdt tt_X0_begin 35 rfl) ?_
  refine g_istore_n hC rfl (by decide) (lv' := [(2, vi 0), (0, vr E r0 0), (1, vr E r1 0)]) rfl (rfl : 73 + 1 = 74) (xdt tt_X0_begin 36 rfl) ?_
  refine g_sub [1, 0] (lv' := [(0, vr E r0 0), (2, vi 0)]) rfl ?_
  exact k_X0_begin_p1_0_2_0_b74 hC hZ hE hk0 hk1 _ _ _ h
def f_X1_forget_p3_8 (S : xSt) (r0 : Nat) : Option (xSt) :=
  lt1 (wI S r0 8 2 0) fun S1 =>
  some S1
set_option maxRecDepth 100000 in
set_option maxHeartbeats 4000000 in
theorem c_X1_forget_p3_8 (l : Launch) {E : xE} {S S' : xSt} {r0 : Nat} (hk0 : xkd E r0 = 3) (hA0 : xFam E r0) (h : f_X1_forget_p3_8 S r0 = some S') : Met l yX1_forget (xws yX1_forget cX1_forget 1 none) (rmD 1) (YPc E [vr E r0 8] S) (YQv E S') 0 0 (xA E) := by
  unfold f_X1_forget_p3_8 at h
  refine met_v (by decide +kernel) (Nat.le_of_ble_eq_true rfl) (fun K hC hZ hE => ?_)
  have hC : xOK K cX1_forget RX1 1 (rmE 1 0) := hC
  show WG K E 0 [(0, vr E r0 8)] [] S
  refine g_aload_n hC rfl 0 rfl (rfl : 0 + 1 = 1) (xdt tt_X1_forget 0 rfl) ?_
  refine g_iconst hC (rfl : 1 + 1 = 2) (xdt tt_X1_forget 1 rfl) ?_
  obtain ⟨S1, hS1, h⟩ := lt1_i h
  refine g_putI hC hk0 kclX1 ly3_8 2 (by decide) rfl rfl rfl q623 hS1 (rfl : 2 + 3 = 5) (xdt tt_X1_forget 2 rfl) ?_
  cases h
  exact g_vret hC hE (xdt tt_X1_forget 3 rfl)
def f_X11_parse_p3_0 (S : xSt) (r0 : Nat) : Option (Int × xSt) :=
  ckP S r0 0 5 2 0 fun rg1 =>
  bd2 (f_X3_readText_p3_2_3_1_2_0 S r0 r0 (gI S r0 0 1) rg1) fun v4 S3 =>
  lt1 (wI S3 r0 0 1 0) fun S6 =>
  if ¬ wr v4 = 0 then
    (ckP S6 r0 0 4 2 0 fun rg7 =>
    ckP S6 r0 0 5 2 0 fun rg8 =>
    lt1 (wP S6 r0 0 4 (rg8, 0)) fun S9 =>
    lt1 (wP S9 r0 0 5 (rg7, 0)) fun S10 =>
    ckP S10 r0 0 4 2 0 fun rg11 =>
    bd (f_X0_begin_p1_0_2_0 S10 (r0 + 1) rg11) fun S13 =>
    bd (f_X1_forget_p3_8 S13 r0) fun S15 =>
    lt1 (wI S15 r0 0 9 0) fun S16 =>
    ckP S16 r0 0 4 2 0 fun rg17 =>
    some ((gI S16 rg17 0 10), S16))
  else
    (some ((-1), S6))
set_option maxRecDepth 100000 in
set_option maxHeartbeats 4000000 in
theorem c_X11_parse_p3_0 (l : Launch) {E : xE} {S S' : xSt} {r0 : Nat} (hk0 : xkd E r0 = 3) (hA0 : xFam E r0) {v : Int} (h : f_X11_parse_p3_0 S r0 = some (v, S')) : Met l yX11_parse (xws yX11_parse cX11_parse 3 (some .int)) (rmD 11) (YPc E [vr E r0 0] S) (YQi E v S') 0 0 (xA E) := by
  unfold f_X11_parse_p3_0 at h
  refine met_i (by decide +kernel) (Nat.le_of_ble_eq_true rfl) (fun K hC hZ hE => ?_)
  have hC : xOK K cX11_parse RX11 3 (rmE 11 0) := hC
  show WG K E 0 [(0, vr E r0 0)] [] S
  refine g_aload_n hC rfl 0 rfl (rfl : 0 + 1 = 1) (xdt tt_X11_parse 0 rfl) ?_
  refine g_getP hC hk0 kclX11 ly3_0 2 (by decide) (rfl : r0 + 0 = r0) rfl q14 (rfl : 1 + 3 = 4) (xdt tt_X11_parse 1 rfl) ?_
  refine g_aload_n hC rfl 0 rfl (rfl : 4 + 1 = 5) (xdt tt_X11_parse 2 rfl) ?_
  refine g_getP hC hk0 kclX11 ly3_0 0 (by decide) (rfl : r0 + 0 = r0) rfl q10 (rfl : 5 + 3 = 8) (xdt tt_X11_parse 3 rfl) ?_
  refine g_aload_n hC rfl 0 rfl (rfl : 8 + 1 = 9) (xdt tt_X11_parse 4 rfl) ?_
  refine g_getI hC hk0 kclX11 ly3_0 1 (by decide) rfl q473 (rfl : 9 + 3 = 12) (xdt tt_X11_parse 5 rfl) ?_
  refine g_aload_n hC rfl 0 rfl (rfl : 12 + 1 = 13) (xdt tt_X11_parse 6 rfl) ?_
  obtain ⟨rg1, hrg1, grg1, h⟩ := ckP_i h
  refine g_getV hC hk0 kclX11 ly3_0 5 (by decide) rfl hrg1 grg1 (by decide) q23 (rfl : 13 + 3 = 16) (xdt tt_X11_parse 7 rfl) (fun krg1 => ?_)
  obtain ⟨v4, S3, hc2, h⟩ := bd2_i h
  refine g_callVz hC hZ hk0 kclX3 ly3_2 m_X3_readText q488 (Nat.le_of_ble_eq_true rfl) [vr E r0 1, vi (gI S r0 0 1), vr E rg1 0] rfl (fun l => c_X3_readText_p3_2_3_1_2_0 l hk0 hA0 hk0 hA0 krg1 hc2) rfl (Nat.le_of_ble_eq_true rfl) (rfl : 16 + 3 = 19) (xdt tt_X11_parse 8 rfl) (fun hb5 => ?_)
  refine g_istore_n hC rfl (by decide) (lv' := [(1, vi v4), (0, vr E r0 0)]) rfl (rfl : 19 + 1 = 20) (xdt tt_X11_parse 9 rfl) ?_
  refine g_aload_n hC rfl 1 rfl (rfl : 20 + 1 = 21) (xdt tt_X11_parse 10 rfl) ?_
  refine g_iconst hC (rfl : 21 + 1 = 22) (xdt tt_X11_parse 11 rfl) ?_
  obtain ⟨S6, hS6, h⟩ := lt1_i h
  refine g_putI hC hk0 kclX11 ly3_0 1 (by decide) rfl rfl rfl q473 hS6 (rfl : 22 + 3 = 25) (xdt tt_X11_parse 12 rfl) ?_
  refine g_iload_n hC rfl 0 rfl (rfl : 25 + 1 = 26) (xdt tt_X11_parse 13 rfl) ?_
  refine g_if_ne hC (show ((26 : Nat) : Int) + 5 = ((31 : Nat) : Int) by decide) (rfl : 26 + 3 = 29) (xdt tt_X11_parse 14 rfl) (fun hc18 => ?_) (fun hc18 => ?_)
  · replace h := (if_pos hc18).symm.trans h
    refine g_aload_n hC rfl 1 rfl (rfl : 31 + 1 = 32) (xdt tt_X11_parse 17 rfl) ?_
    obtain ⟨rg7, hrg7, grg7, h⟩ := ckP_i h
    refine g_getV hC hk0 kclX11 ly3_0 4 (by decide) rfl hrg7 grg7 (by decide) q22 (rfl : 32 + 3 = 35) (xdt tt_X11_parse 18 rfl) (fun krg7 => ?_)
    refine g_astore_n hC rfl (by decide) (lv' := [(2, vr E rg7 0), (1, vi v4), (0, vr E r0 0)]) rfl (rfl : 35 + 1 = 36) (xdt tt_X11_parse 19 rfl) ?_
    refine g_aload_n hC rfl 2 rfl (rfl : 36 + 1 = 37) (xdt tt_X11_parse 20 rfl) ?_
    refine g_aload_n hC rfl 2 rfl (rfl : 37 + 1 = 38) (xdt tt_X11_parse 21 rfl) ?_
    obtain ⟨rg8, hrg8, grg8, h⟩ := ckP_i h
    refine g_getV hC hk0 kclX11 ly3_0 5 (by decide) rfl hrg8 grg8 (by decide) q23 (rfl : 38 + 3 = 41) (xdt tt_X11_parse 22 rfl) (fun krg8 => ?_)
    obtain ⟨S9, hS9, h⟩ := lt1_i h
    refine g_putV hC hk0 kclX11 ly3_0 4 (by decide) rfl rfl q22 (fun _ => rfl) (fun _ => rfl) (by decide) hS9 (rfl : 41 + 3 = 44) (xdt tt_X11_parse 23 rfl) ?_
    refine g_aload_n hC rfl 2 rfl (rfl : 44 + 1 = 45) (xdt tt_X11_parse 24 rfl) ?_
    refine g_aload_n hC rfl 0 rfl (rfl : 45 + 1 = 46) (xdt tt_X11_parse 25 rfl) ?_
    obtain ⟨S10, hS10, h⟩ := lt1_i h
    refine g_putV hC hk0 kclX11 ly3_0 5 (by decide) rfl rfl q23 (fun _ => rfl) (fun _ => rfl) (by decide) hS10 (rfl : 46 + 3 = 49) (xdt tt_X11_parse 26 rfl) ?_
    refine g_aload_n hC rfl 2 rfl (rfl : 49 + 1 = 50) (xdt tt_X11_parse 27 rfl) ?_
    refine g_getP hC hk0 kclX11 ly3_0 6 (by decide) (rfl : r0 + 1 = (r0 + 1)) rfl q27 (rfl : 50 + 3 = 53) (xdt tt_X11_parse 28 rfl) ?_
    refine g_aload_n hC rfl 2 rfl (rfl : 53 + 1 = 54) (xdt tt_X11_parse 29 rfl) ?_
    obtain ⟨rg11, hrg11, grg11, h⟩ := ckP_i h
    refine g_getV hC hk0 kclX11 ly3_0 4 (by decide) rfl hrg11 grg11 (by decide) q22 (rfl : 54 + 3 = 57) (xdt tt_X11_parse 30 rfl) (fun krg11 => ?_)
    obtain ⟨S13, hc12, h⟩ := bd_i h
    refine g_callVv hC hZ (hA0 1 (by decide) (by decide)) kclX0 ly1_0 m_X0_begin q618 (Nat.le_of_ble_eq_true rfl) [vr E rg11 0] rfl (fun l => c_X0_begin_p1_0_2_0 l (hA0 1 (by decide) (by decide)) krg11 hc12) rfl (Nat.le_of_ble_eq_true rfl) (rfl : 57 + 3 = 60) (xdt tt_X11_parse 31 rfl) ?_
    refine g_aload_n hC rfl 2 rfl (rfl : 60 + 1 = 61) (xdt tt_X11_parse 32 rfl) ?_
    refine g_getP hC hk0 kclX11 ly3_0 10 (by decide) (rfl : r0 + 0 = r0) rfl q33 (rfl : 61 + 3 = 64) (xdt tt_X11_parse 33 rfl) ?_
    obtain ⟨S15, hc14, h⟩ := bd_i h
    refine g_callVv hC hZ hk0 kclX1 ly3_8 m_X1_forget q619 (Nat.le_of_ble_eq_true rfl) [] rfl (fun l => c_X1_forget_p3_8 l hk0 hA0 hc14) rfl (Nat.le_of_ble_eq_true rfl) (rfl : 64 + 3 = 67) (xdt tt_X11_parse 34 rfl) ?_
    refine g_aload_n hC rfl 2 rfl (rfl : 67 + 1 = 68) (xdt tt_X11_parse 35 rfl) ?_
    refine g_iconst hC (rfl : 68 + 1 = 69) (xdt tt_X11_parse 36 rfl) ?_
    obtain ⟨S16, hS16, h⟩ := lt1_i h
    refine g_putZ hC hk0 kclX11 ly3_0 9 (by decide) rfl rfl rfl q486 (Or.inl rfl) hS16 (rfl : 69 + 3 = 72) (xdt tt_X11_parse 37 rfl) ?_
    refine g_aload_n hC rfl 2 rfl (rfl : 72 + 1 = 73) (xdt tt_X11_parse 38 rfl) ?_
    obtain ⟨rg17, hrg17, grg17, h⟩ := ckP_i h
    refine g_getV hC hk0 kclX11 ly3_0 4 (by decide) rfl hrg17 grg17 (by decide) q22 (rfl : 73 + 3 = 76) (xdt tt_X11_parse 39 rfl) (fun krg17 => ?_)
    refine g_getI hC krg17 kclX5 ly2_0 10 (by decide) rfl q487 (rfl : 76 + 3 = 79) (xdt tt_X11_parse 40 rfl) ?_
    cases h
    exact g_iret hC hE (xdt tt_X11_parse 41 rfl)
  · replace h := (if_neg hc18).symm.trans h
    refine g_iconst hC (rfl : 29 + 1 = 30) (xdt tt_X11_parse 15 rfl) ?_
    cases h
    exact g_iret hC hE (xdt tt_X11_parse 16 rfl)
def f_X5_startOf_p2_0 (S : xSt) (r0 : Nat) (a1 : Int) : Option (Int × xSt) :=
  if wr a1 < 0 then
    (some (0, S))
  else
    (if wr (gI S r0 0 10) < wr a1 then
      (some (0, S))
    else
      (ckI a1 61 <|
      some ((gI S r0 9 (wr a1).toNat), S)))
set_option maxRecDepth 100000 in
set_option maxHeartbeats 4000000 in
theorem c_X5_startOf_p2_0 (l : Launch) {E : xE} {S S' : xSt} {r0 : Nat} {a1 : Int} (hk0 : xkd E r0 = 2) {v : Int} (h : f_X5_startOf_p2_0 S r0 a1 = some (v, S')) : Met l yX5_startOf (xws yX5_startOf cX5_startOf 2 (some .int)) (rmD 1) (YPc E [vr E r0 0, vi a1] S) (YQi E v S') 0 0 (xA E) := by
  unfold f_X5_startOf_p2_0 at h
  refine met_i (by decide +kernel) (Nat.le_of_ble_eq_true rfl) (fun K hC hZ hE => ?_)
  have hC : xOK K cX5_startOf RX5 2 (rmE 1 0) := hC
  show WG K E 0 [(0, vr E r0 0), (1, vi a1)] [] S
  refine g_iload_n hC rfl 1 rfl (rfl : 0 + 1 = 1) (xdt tt_X5_startOf 0 rfl) ?_
  refine g_if_lt hC (show ((1 : Nat) : Int) + 20 = ((21 : Nat) : Int) by decide) (rfl : 1 + 3 = 4) (xdt tt_X5_startOf 1 rfl) (fun hc3 => ?_) (fun hc3 => ?_)
  · replace h := (if_pos hc3).symm.trans h
    refine g_iconst hC (rfl : 21 + 1 = 22) (xdt tt_X5_startOf 11 rfl) ?_
    cases h
    exact g_iret hC hE (xdt tt_X5_startOf 12 rfl)
  · replace h := (if_neg hc3).symm.trans h
    refine g_iload_n hC rfl 1 rfl (rfl : 4 + 1 = 5) (xdt tt_X5_startOf 2 rfl) ?_
    refine g_aload_n hC rfl 0 rfl (rfl : 5 + 1 = 6) (xdt tt_X5_startOf 3 rfl) ?_
    refine g_getI hC hk0 kclX5 ly2_0 10 (by decide) rfl q82 (rfl : 6 + 3 = 9) (xdt tt_X5_startOf 4 rfl) ?_
    refine g_icmp_gt hC (show ((9 : Nat) : Int) + 12 = ((21 : Nat) : Int) by decide) (rfl : 9 + 3 = 12) (xdt tt_X5_startOf 5 rfl) (fun hc2 => ?_) (fun hc2 => ?_)
    · replace h := (if_pos hc2).symm.trans h
      refine g_iconst hC (rfl : 21 + 1 = 22) (xdt tt_X5_startOf 11 rfl) ?_
      cases h
      exact g_iret hC hE (xdt tt_X5_startOf 12 rfl)
    · replace h := (if_neg hc2).symm.trans h
      refine g_aload_n hC rfl 0 rfl (rfl : 12 + 1 = 13) (xdt tt_X5_startOf 6 rfl) ?_
      refine g_getP hC hk0 kclX5 ly2_0 6 (by decide) (rfl : r0 + 0 = r0) rfl q64 (rfl : 13 + 3 = 16) (xdt tt_X5_startOf 7 rfl) ?_
      refine g_iload_n hC rfl 1 rfl (rfl : 16 + 1 = 17) (xdt tt_X5_startOf 8 rfl) ?_
      obtain ⟨hi1, h⟩ := ckI_i h
      refine g_iald hC hk0 ly2_9 hi1 (rfl : 17 + 1 = 18) (xdt tt_X5_startOf 9 rfl) (k0 := (wr a1).toNat) rfl ?_
      refine g_goto hC (show ((18 : Nat) : Int) + 4 = ((22 : Nat) : Int) by decide) (xdt tt_X5_startOf 10 rfl) ?_
      cases h
      exact g_iret hC hE (xdt tt_X5_startOf 12 rfl)
def f_X5_bytes_p2_0 (S : xSt) (r0 : Nat) : Option (Int × xSt) :=
  bd2 (f_X5_startOf_p2_0 S r0 (gI S r0 0 10)) fun v3 S2 =>
  some (v3, S2)
set_option maxRecDepth 100000 in
set_option maxHeartbeats 4000000 in
theorem c_X5_bytes_p2_0 (l : Launch) {E : xE} {S S' : xSt} {r0 : Nat} (hk0 : xkd E r0 = 2) {v : Int} (h : f_X5_bytes_p2_0 S r0 = some (v, S')) : Met l yX5_bytes (xws yX5_bytes cX5_bytes 1 (some .int)) (rmD 2) (YPc E [vr E r0 0] S) (YQi E v S') 0 0 (xA E) := by
  unfold f_X5_bytes_p2_0 at h
  refine met_i (by decide +kernel) (Nat.le_of_ble_eq_true rfl) (fun K hC hZ hE => ?_)
  have hC : xOK K cX5_bytes RX5 1 (rmE 2 0) := hC
  show WG K E 0 [(0, vr E r0 0)] [] S
  refine g_aload_n hC rfl 0 rfl (rfl : 0 + 1 = 1) (xdt tt_X5_bytes 0 rfl) ?_
  refine g_aload_n hC rfl 0 rfl (rfl : 1 + 1 = 2) (xdt tt_X5_bytes 1 rfl) ?_
  refine g_getI hC hk0 kclX5 ly2_0 10 (by decide) rfl q82 (rfl : 2 + 3 = 5) (xdt tt_X5_bytes 2 rfl) ?_
  obtain ⟨v3, S2, hc1, h⟩ := bd2_i h
  refine g_callVi hC hZ hk0 kclX5 ly2_0 m_X5_startOf q854 (Nat.le_of_ble_eq_true rfl) [vi (gI S r0 0 10)] rfl (fun l => c_X5_startOf_p2_0 l hk0 hc1) rfl (Nat.le_of_ble_eq_true rfl) (rfl : 5 + 3 = 8) (xdt tt_X5_bytes 3 rfl) ?_
  cases h
  exact g_iret hC hE (xdt tt_X5_bytes 4 rfl)
