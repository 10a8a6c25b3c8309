def f_X11_instruction_p3_0 (S : xSt) (r0 : Nat) (a1 : Int) (a2 : Int) : Option ((Int ⊕ Nat) × xSt) :=
  if wr a1 < 0 then
    (some (Sum.inr 1, S))
  else
    (ckP S r0 0 4 2 0 fun rg1 =>
    if wr a1 < wr (gI S rg1 0 10) then
      (if wr a2 < 0 ∨ 7 < wr a2 then
        (some (Sum.inr 1, S))
      else
      if wr a2 = 0 then
        (ckP S r0 0 4 2 0 fun rg3 =>
        ckI a1 60 <|
        some (Sum.inl (gI S rg3 5 (wr a1).toNat), S))
      else
      if wr a2 = 1 then
        (ckP S r0 0 4 2 0 fun rg6 =>
        ckI a1 61 <|
        some (Sum.inl (gI S rg6 9 (wr a1).toNat), S))
      else
      if wr a2 = 2 then
        (ckP S r0 0 4 2 0 fun rg9 =>
        bd2 (f_X5_lengthOf_p2_0 S rg9 a1) fun v12 S11 =>
        some (Sum.inl v12, S11))
      else
      if wr a2 = 3 then
        (ckP S r0 0 4 2 0 fun rg14 =>
        ckI a1 60 <|
        some (Sum.inl (gI S rg14 10 (wr a1).toNat), S))
      else
      if wr a2 = 4 then
        (ckP S r0 0 4 2 0 fun rg17 =>
        ckI a1 60 <|
        some (Sum.inl (gI S rg17 11 (wr a1).toNat), S))
      else
      if wr a2 = 5 then
        (ckP S r0 0 4 2 0 fun rg20 =>
        ckI a1 60 <|
        if ¬ wr (gI S rg20 5 (wr a1).toNat) = wr 9 then
          (some (Sum.inl (-1), S))
        else
          (ckP S r0 0 4 2 0 fun rg22 =>
          ckI a1 60 <|
          some (Sum.inl (gI S rg22 8 (wr a1).toNat), S)))
      else
      if wr a2 = 6 then
        (ckP S r0 0 4 2 0 fun rg26 =>
        ckI a1 60 <|
        if wr (gI S rg26 6 (wr a1).toNat) = 0 then
          (some (Sum.inl 0, S))
        else
          (some (Sum.inl 1, S)))
      else
      if wr a2 = 7 then
        (bd2 (f_X11_predictionOf_p3_0 S r0 a1) fun v32 S31 =>
        some (Sum.inl v32, S31))
      else
      none)
    else
      (some (Sum.inr 1, S)))
set_option maxRecDepth 100000 in
set_option maxHeartbeats 4000000 in
theorem c_X11_instruction_p3_0 (l : Launch) (htr : l.stackTraces = false) {E : xE} {S S' : xSt} {r0 : Nat} {a1 : Int} {a2 : Int} (hk0 : xkd E r0 = 3) (hA0 : xFam E r0) {x : Int ⊕ Nat} (h : f_X11_instruction_p3_0 S r0 a1 a2 = some (x, S')) : vx_Met l yX11_instruction (xws yX11_instruction cX11_instruction 3 (some .int)) (rmE 6 1) (YPc E [vr E r0 0, vi a1, vi a2] S) (YXi E x S') (YXC E x S') 1 6 (xA E) := by
  unfold f_X11_instruction_p3_0 at h
  refine metX_i htr (by decide +kernel) (Nat.le_of_ble_eq_true rfl) (fun K hC hE => ?_)
  have hZ := xZX hE
  have hC : xOK K cX11_instruction RX11 3 (rmE 6 1) := hC
  show WG K E 0 [(0, vr E r0 0), (1, vi a1), (2, vi a2)] [] S
  refine g_iload_n hC rfl 1 rfl (rfl : 0 + 1 = 1) (xdt tt_X11_instruction 0 rfl) ?_
  refine g_if_lt hC (show ((1 : Nat) : Int) + 14 = ((15 : Nat) : Int) by decide) (rfl : 1 + 3 = 4) (xdt tt_X11_instruction 1 rfl) (fun hc35 => ?_) (fun hc35 => ?_)
  · replace h := (if_pos hc35).symm.trans h
    cases h
    exact g_throwS hC hE rfl (q := 22) rfl rfl fit1 q623 q624 at_148 (Nat.le_of_ble_eq_true rfl) (Nat.le_of_ble_eq_true rfl) (xdt tt_X11_instruction 7 rfl) (xdt tt_X11_instruction 8 rfl) (xdt tt_X11_instruction 9 rfl) (xdt tt_X11_instruction 10 rfl) (xdt tt_X11_instruction 11 rfl)
  · replace h := (if_neg hc35).symm.trans h
    refine g_iload_n hC rfl 1 rfl (rfl : 4 + 1 = 5) (xdt tt_X11_instruction 2 rfl) ?_
    refine g_aload_n hC rfl 0 rfl (rfl : 5 + 1 = 6) (xdt tt_X11_instruction 3 rfl) ?_
    obtain ⟨rg1, hrg1, grg1, h⟩ := ckP_i h
    refine g_getV hC hk0 kclX11 ly3_0 4 (by decide) rfl hrg1 grg1 (by decide) q26 (rfl : 6 + 3 = 9) (xdt tt_X11_instruction 4 rfl) (fun krg1 => ?_)
    refine g_getI hC krg1 kclX5 ly2_0 10 (by decide) rfl q277 (rfl : 9 + 3 = 12) (xdt tt_X11_instruction 5 rfl) ?_
    refine g_icmp_lt hC (show ((12 : Nat) : Int) + 13 = ((25 : Nat) : Int) by decide) (rfl : 12 + 3 = 15) (xdt tt_X11_instruction 6 rfl) (fun hc34 => ?_) (fun hc34 => ?_)
    · replace h := (if_pos hc34).symm.trans h
      refine g_iload_n hC rfl 2 rfl (rfl : 25 + 1 = 26) (xdt tt_X11_instruction 12 rfl) ?_
      by_cases hs2 : wr a2 < 0 ∨ 7 < wr a2
      · replace h := (if_pos hs2).symm.trans h
        refine g_tabOut hC (xdt tt_X11_instruction 13 rfl) hs2 (show ((26 : Nat) : Int) + 147 = ((173 : Nat) : Int) by decide) ?_
        cases h
        exact g_throwS hC hE rfl (q := 23) rfl rfl fit1 q623 q624 at_148 (Nat.le_of_ble_eq_true rfl) (Nat.le_of_ble_eq_true rfl) (xdt tt_X11_instruction 72 rfl) (xdt tt_X11_instruction 73 rfl) (xdt tt_X11_instruction 74 rfl) (xdt tt_X11_instruction 75 rfl) (xdt tt_X11_instruction 76 rfl)
      · replace h := (if_neg hs2).symm.trans h
        by_cases hv5 : wr a2 = 0
        · replace h := (if_pos hv5).symm.trans h
          refine g_tabIn hC (xdt tt_X11_instruction 13 rfl) (fun z => hs2 (Or.inl z)) (fun z => hs2 (Or.inr z)) (off := 46) (by rw [hv5]; rfl) (show ((26 : Nat) : Int) + 46 = ((72 : Nat) : Int) by decide) ?_
          refine g_aload_n hC rfl 0 rfl (rfl : 72 + 1 = 73) (xdt tt_X11_instruction 14 rfl) ?_
          obtain ⟨rg3, hrg3, grg3, h⟩ := ckP_i h
          refine g_getV hC hk0 kclX11 ly3_0 4 (by decide) rfl hrg3 grg3 (by decide) q26 (rfl : 73 + 3 = 76) (xdt tt_X11_instruction 15 rfl) (fun krg3 => ?_)
          refine g_getP hC krg3 kclX5 ly2_0 2 (by decide) (rfl : rg3 + 0 = rg3) rfl q625 (rfl : 76 + 3 = 79) (xdt tt_X11_instruction 16 rfl) ?_
          refine g_iload_n hC rfl 1 rfl (rfl : 79 + 1 = 80) (xdt tt_X11_instruction 17 rfl) ?_
          obtain ⟨hi4, h⟩ := ckI_i h
          refine g_iald hC krg3 ly2_5 hi4 (rfl : 80 + 1 = 81) (xdt tt_X11_instruction 18 rfl) (k0 := (wr a1).toNat) rfl ?_
          cases h
          exact g_iretX hC hE rfl (xdt tt_X11_instruction 19 rfl)
        · replace h := (if_neg hv5).symm.trans h
          by_cases hv8 : wr a2 = 1
          · replace h := (if_pos hv8).symm.trans h
            refine g_tabIn hC (xdt tt_X11_instruction 13 rfl) (fun z => hs2 (Or.inl z)) (fun z => hs2 (Or.inr z)) (off := 56) (by rw [hv8]; rfl) (show ((26 : Nat) : Int) + 56 = ((82 : Nat) : Int) by decide) ?_
            refine g_aload_n hC rfl 0 rfl (rfl : 82 + 1 = 83) (xdt tt_X11_instruction 20 rfl) ?_
            obtain ⟨rg6, hrg6, grg6, h⟩ := ckP_i h
            refine g_getV hC hk0 kclX11 ly3_0 4 (by decide) rfl hrg6 grg6 (by decide) q26 (rfl : 83 + 3 = 86) (xdt tt_X11_instruction 21 rfl) (fun krg6 => ?_)
            refine g_getP hC krg6 kclX5 ly2_0 6 (by decide) (rfl : rg6 + 0 = rg6) rfl q626 (rfl : 86 + 3 = 89) (xdt tt_X11_instruction 22 rfl) ?_
            refine g_iload_n hC rfl 1 rfl (rfl : 89 + 1 = 90) (xdt tt_X11_instruction 23 rfl) ?_
            obtain ⟨hi7, h⟩ := ckI_i h
            refine g_iald hC krg6 ly2_9 hi7 (rfl : 90 + 1 = 91) (xdt tt_X11_instruction 24 rfl) (k0 := (wr a1).toNat) rfl ?_
            cases h
            exact g_iretX hC hE rfl (xdt tt_X11_instruction 25 rfl)
          · replace h := (if_neg hv8).symm.trans h
            by_cases hv13 : wr a2 = 2
            · replace h := (if_pos hv13).symm.trans h
              refine g_tabIn hC (xdt tt_X11_instruction 13 rfl) (fun z => hs2 (Or.inl z)) (fun z => hs2 (Or.inr z)) (off := 66) (by rw [hv13]; rfl) (show ((26 : Nat) : Int) + 66 = ((92 : Nat) : Int) by decide) ?_
              refine g_aload_n hC rfl 0 rfl (rfl : 92 + 1 = 93) (xdt tt_X11_instruction 26 rfl) ?_
              obtain ⟨rg9, hrg9, grg9, h⟩ := ckP_i h
              refine g_getV hC hk0 kclX11 ly3_0 4 (by decide) rfl hrg9 grg9 (by decide) q26 (rfl : 93 + 3 = 96) (xdt tt_X11_instruction 27 rfl) (fun krg9 => ?_)
              refine g_iload_n hC rfl 1 rfl (rfl : 96 + 1 = 97) (xdt tt_X11_instruction 28 rfl) ?_
              obtain ⟨v12, S11, hc10, h⟩ := bd2_i h
              refine g_callVi hC hZ krg9 kclX5 ly2_0 m_X5_lengthOf q631 (Nat.le_of_ble_eq_true rfl) [vi a1] rfl (fun l => c_X5_lengthOf_p2_0 l krg9 hc10) rfl (Nat.le_of_ble_eq_true rfl) (rfl : 97 + 3 = 100) (xdt tt_X11_instruction 29 rfl) ?_
              cases h
              exact g_iretX hC hE rfl (xdt tt_X11_instruction 30 rfl)
            · replace h := (if_neg hv13).symm.trans h
              by_cases hv16 : wr a2 = 3
              · replace h := (if_pos hv16).symm.trans h
                refine g_tabIn hC (xdt tt_X11_instruction 13 rfl) (fun z => hs2 (Or.inl z)) (fun z => hs2 (Or.inr z)) (off := 75) (by rw [hv16]; rfl) (show ((26 : Nat) : Int) + 75 = ((101 : Nat) : Int) by decide) ?_
                refine g_aload_n hC rfl 0 rfl (rfl : 101 + 1 = 102) (xdt tt_X11_instruction 31 rfl) ?_
                obtain ⟨rg14, hrg14, grg14, h⟩ := ckP_i h
                refine g_getV hC hk0 kclX11 ly3_0 4 (by decide) rfl hrg14 grg14 (by decide) q26 (rfl : 102 + 3 = 105) (xdt tt_X11_instruction 32 rfl) (fun krg14 => ?_)
                refine g_getP hC krg14 kclX5 ly2_0 7 (by decide) (rfl : rg14 + 0 = rg14) rfl q627 (rfl : 105 + 3 = 108) (xdt tt_X11_instruction 33 rfl) ?_
                refine g_iload_n hC rfl 1 rfl (rfl : 108 + 1 = 109) (xdt tt_X11_instruction 34 rfl) ?_
                obtain ⟨hi15, h⟩ := ckI_i h
                refine g_iald hC krg14 ly2_10 hi15 (rfl : 109 + 1 = 110) (xdt tt_X11_instruction 35 rfl) (k0 := (wr a1).toNat) rfl ?_
                cases h
                exact g_iretX hC hE rfl (xdt tt_X11_instruction 36 rfl)
              · replace h := (if_neg hv16).symm.trans h
                by_cases hv19 : wr a2 = 4
                · replace h := (if_pos hv19).symm.trans h
                  refine g_tabIn hC (xdt tt_X11_instruction 13 rfl) (fun z => hs2 (Or.inl z)) (fun z => hs2 (Or.inr z)) (off := 85) (by rw [hv19]; rfl) (show ((26 : Nat) : Int) + 85 = ((111 : Nat) : Int) by decide) ?_
                  refine g_aload_n hC rfl 0 rfl (rfl : 111 + 1 = 112) (xdt tt_X11_instruction 37 rfl) ?_
                  obtain ⟨rg17, hrg17, grg17, h⟩ := ckP_i h
                  refine g_getV hC hk0 kclX11 ly3_0 4 (by decide) rfl hrg17 grg17 (by decide) q26 (rfl : 112 + 3 = 115) (xdt tt_X11_instruction 38 rfl) (fun krg17 => ?_)
                  refine g_getP hC krg17 kclX5 ly2_0 8 (by decide) (rfl : rg17 + 0 = rg17) rfl q628 (rfl : 115 + 3 = 118) (xdt tt_X11_instruction 39 rfl) ?_
                  refine g_iload_n hC rfl 1 rfl (rfl : 118 + 1 = 119) (xdt tt_X11_instruction 40 rfl) ?_
                  obtain ⟨hi18, h⟩ := ckI_i h
                  refine g_iald hC krg17 ly2_11 hi18 (rfl : 119 + 1 = 120) (xdt tt_X11_instruction 41 rfl) (k0 := (wr a1).toNat) rfl ?_
                  cases h
                  exact g_iretX hC hE rfl (xdt tt_X11_instruction 42 rfl)
                · replace h := (if_neg hv19).symm.trans h
                  by_cases hv25 : wr a2 = 5
                  · replace h := (if_pos hv25).symm.trans h
                    refine g_tabIn hC (xdt tt_X11_instruction 13 rfl) (fun z => hs2 (Or.inl z)) (fun z => hs2 (Or.inr z)) (off := 95) (by rw [hv25]; rfl) (show ((26 : Nat) : Int) + 95 = ((121 : Nat) : Int) by decide) ?_
                    refine g_aload_n hC rfl 0 rfl (rfl : 121 + 1 = 122) (xdt tt_X11_instruction 43 rfl) ?_
                    obtain ⟨rg20, hrg20, grg20, h⟩ := ckP_i h
                    refine g_getV hC hk0 kclX11 ly3_0 4 (by decide) rfl hrg20 grg20 (by decide) q26 (rfl : 122 + 3 = 125) (xdt tt_X11_instruction 44 rfl) (fun krg20 => ?_)
                    refine g_getP hC krg20 kclX5 ly2_0 2 (by decide) (rfl : rg20 + 0 = rg20) rfl q625 (rfl : 125 + 3 = 128) (xdt tt_X11_instruction 45 rfl) ?_
                    refine g_iload_n hC rfl 1 rfl (rfl : 128 + 1 = 129) (xdt tt_X11_instruction 46 rfl) ?_
                    obtain ⟨hi21, h⟩ := ckI_i h
                    refine g_iald hC krg20 ly2_5 hi21 (rfl : 129 + 1 = 130) (xdt tt_X11_instruction 47 rfl) (k0 := (wr a1).toNat) rfl ?_
                    refine g_bipush hC (by decide) (rfl : 130 + 2 = 132) (xdt tt_X11_instruction 48 rfl) ?_
                    refine g_icmp_ne hC (show ((132 : Nat) : Int) + 15 = ((147 : Nat) : Int) by decide) (rfl : 132 + 3 = 135) (xdt tt_X11_instruction 49 rfl) (fun hc24 => ?_) (fun hc24 => ?_)
                    · replace h := (if_pos hc24).symm.trans h
                      refine g_iconst hC (rfl : 147 + 1 = 148) (xdt tt_X11_instruction 56 rfl) ?_
                      cases h
                      exact g_iretX hC hE rfl (xdt tt_X11_instruction 57 rfl)
                    · replace h := (if_neg hc24).symm.trans h
                      refine g_aload_n hC rfl 0 rfl (rfl : 135 + 1 = 136) (xdt tt_X11_instruction 50 rfl) ?_
                      obtain ⟨rg22, hrg22, grg22, h⟩ := ckP_i h
                      refine g_getV hC hk0 kclX11 ly3_0 4 (by decide) rfl hrg22 grg22 (by decide) q26 (rfl : 136 + 3 = 139) (xdt tt_X11_instruction 51 rfl) (fun krg22 => ?_)
                      refine g_getP hC krg22 kclX5 ly2_0 5 (by decide) (rfl : rg22 + 0 = rg22) rfl q629 (rfl : 139 + 3 = 142) (xdt tt_X11_instruction 52 rfl) ?_
                      refine g_iload_n hC rfl 1 rfl (rfl : 142 + 1 = 143) (xdt tt_X11_instruction 53 rfl) ?_
                      obtain ⟨hi23, h⟩ := ckI_i h
                      refine g_iald hC krg22 ly2_8 hi23 (rfl : 143 + 1 = 144) (xdt tt_X11_instruction 54 rfl) (k0 := (wr a1).toNat) rfl ?_
                      refine g_goto hC (show ((144 : Nat) : Int) + 4 = ((148 : Nat) : Int) by decide) (xdt tt_X11_instruction 55 rfl) ?_
                      cases h
                      exact g_iretX hC hE rfl (xdt tt_X11_instruction 57 rfl)
                  · replace h := (if_neg hv25).symm.trans h
                    by_cases hv29 : wr a2 = 6
                    · replace h := (if_pos hv29).symm.trans h
                      refine g_tabIn hC (xdt tt_X11_instruction 13 rfl) (fun z => hs2 (Or.inl z)) (fun z => hs2 (Or.inr z)) (off := 123) (by rw [hv29]; rfl) (show ((26 : Nat) : Int) + 123 = ((149 : Nat) : Int) by decide) ?_
                      refine g_aload_n hC rfl 0 rfl (rfl : 149 + 1 = 150) (xdt tt_X11_instruction 58 rfl) ?_
                      obtain ⟨rg26, hrg26, grg26, h⟩ := ckP_i h
                      refine g_getV hC hk0 kclX11 ly3_0 4 (by decide) rfl hrg26 grg26 (by decide) q26 (rfl : 150 + 3 = 153) (xdt tt_X11_instruction 59 rfl) (fun krg26 => ?_)
                      refine g_getP hC krg26 kclX5 ly2_0 3 (by decide) (rfl : rg26 + 0 = rg26) rfl q630 (rfl : 153 + 3 = 156) (xdt tt_X11_instruction 60 rfl) ?_
                      refine g_iload_n hC rfl 1 rfl (rfl : 156 + 1 = 157) (xdt tt_X11_instruction 61 rfl) ?_
                      obtain ⟨hi27, h⟩ := ckI_i h
                      refine g_zald hC krg26 ly2_6 hi27 (rfl : 157 + 1 = 158) (xdt tt_X11_instruction 62 rfl) (k0 := (wr a1).toNat) rfl ?_
                      refine g_if_eq hC (show ((158 : Nat) : Int) + 7 = ((165 : Nat) : Int) by decide) (rfl : 158 + 3 = 161) (xdt tt_X11_instruction 63 rfl) (fun hc28 => ?_) (fun hc28 => ?_)
                      · replace h := (if_pos hc28).symm.trans h
                        refine g_iconst hC (rfl : 165 + 1 = 166) (xdt tt_X11_instruction 66 rfl) ?_
                        cases h
                        exact g_iretX hC hE rfl (xdt tt_X11_instruction 67 rfl)
                      · replace h := (if_neg hc28).symm.trans h
                        refine g_iconst hC (rfl : 161 + 1 = 162) (xdt tt_X11_instruction 64 rfl) ?_
                        refine g_goto hC (show ((162 : Nat) : Int) + 4 = ((166 : Nat) : Int) by decide) (xdt tt_X11_instruction 65 rfl) ?_
                        cases h
                        exact g_iretX hC hE rfl (xdt tt_X11_instruction 67 rfl)
                    · replace h := (if_neg hv29).symm.trans h
                      by_cases hv33 : wr a2 = 7
                      · replace h := (if_pos hv33).symm.trans h
                        refine g_tabIn hC (xdt tt_X11_instruction 13 rfl) (fun z => hs2 (Or.inl z)) (fun z => hs2 (Or.inr z)) (off := 141) (by rw [hv33]; rfl) (show ((26 : Nat) : Int) + 141 = ((167 : Nat) : Int) by decide) ?_
                        refine g_aload_n hC rfl 0 rfl (rfl : 167 + 1 = 168) (xdt tt_X11_instruction 68 rfl) ?_
                        refine g_iload_n hC rfl 1 rfl (rfl : 168 + 1 = 169) (xdt tt_X11_instruction 69 rfl) ?_
                        obtain ⟨v32, S31, hc30, h⟩ := bd2_i h
                        refine g_callVi hC hZ hk0 kclX11 ly3_0 m_X11_predictionOf q635 (Nat.le_of_ble_eq_true rfl) [vi a1] rfl (fun l => c_X11_predictionOf_p3_0 l hk0 hA0 hc30) rfl (Nat.le_of_ble_eq_true rfl) (rfl : 169 + 3 = 172) (xdt tt_X11_instruction 70 rfl) ?_
                        cases h
                        exact g_iretX hC hE rfl (xdt tt_X11_instruction 71 rfl)
                      · replace h := (if_neg hv33).symm.trans h
                        cases h
    · replace h := (if_neg hc34).symm.trans h
      cases h
      exact g_throwS hC hE rfl (q := 22) rfl rfl fit1 q623 q624 at_148 (Nat.le_of_ble_eq_true rfl) (Nat.le_of_ble_eq_true rfl) (xdt tt_X11_instruction 7 rfl) (xdt tt_X11_instruction 8 rfl) (xdt tt_X11_instruction 9 rfl) (xdt tt_X11_instruction 10 rfl) (xdt tt_X11_instruction 11 rfl)
def f_X11_crosses_p3_0 (S : xSt) (r0 : Nat) (a1 : Int) : Option ((Int ⊕ Nat) × xSt) :=
  if wr a1 < 0 then
    (some (Sum.inr 1, S))
  else
    (ckP S r0 0 4 2 0 fun rg1 =>
    if wr a1 < wr (gI S rg1 0 10) then
      (ckP S r0 0 4 2 0 fun rg2 =>
      bd2 (f_X5_crossesWindows_p2_0 S rg2 a1) fun v5 S4 =>
      some (Sum.inl v5, S4))
    else
      (some (Sum.inr 1, S)))
set_option maxRecDepth 100000 in
set_option maxHeartbeats 4000000 in
theorem c_X11_crosses_p3_0 (l : Launch) (htr : l.stackTraces = false) {E : xE} {S S' : xSt} {r0 : Nat} {a1 : Int} (hk0 : xkd E r0 = 3) (hA0 : xFam E r0) {x : Int ⊕ Nat} (h : f_X11_crosses_p3_0 S r0 a1 = some (x, S')) : vx_Met l yX11_crosses (xws yX11_crosses cX11_crosses 2 (some .boolean)) (rmE 6 1) (YPc E [vr E r0 0, vi a1] S) (YXz E x S') (YXC E x S') 1 6 (xA E) := by
  unfold f_X11_crosses_p3_0 at h
  refine metX_z htr (by decide +kernel) (Nat.le_of_ble_eq_true rfl) (fun K hC hE => ?_)
  have hZ := xZX hE
  have hC : xOK K cX11_crosses RX11 2 (rmE 6 1) := hC
  show WG K E 0 [(0, vr E r0 0), (1, vi a1)] [] S
  refine g_iload_n hC rfl 1 rfl (rfl : 0 + 1 = 1) (xdt tt_X11_crosses 0 rfl) ?_
  refine g_if_lt hC (show ((1 : Nat) : Int) + 14 = ((15 : Nat) : Int) by decide) (rfl : 1 + 3 = 4) (xdt tt_X11_crosses 1 rfl) (fun hc8 => ?_) (fun hc8 => ?_)
  · replace h := (if_pos hc8).symm.trans h
    cases h
    exact g_throwS hC hE rfl (q := 22) rfl rfl fit1 q623 q624 at_148 (Nat.le_of_ble_eq_true rfl) (Nat.le_of_ble_eq_true rfl) (xdt tt_X11_crosses 7 rfl) (xdt tt_X11_crosses 8 rfl) (xdt tt_X11_crosses 9 rfl) (xdt tt_X11_crosses 10 rfl) (xdt tt_X11_crosses 11 rfl)
  · replace h := (if_neg hc8).symm.trans h
    refine g_iload_n hC rfl 1 rfl (rfl : 4 + 1 = 5) (xdt tt_X11_crosses 2 rfl) ?_
    refine g_aload_n hC rfl 0 rfl (rfl : 5 + 1 = 6) (xdt tt_X11_crosses 3 rfl) ?_
    obtain ⟨rg1, hrg1, grg1, h⟩ := ckP_i h
    refine g_getV hC hk0 kclX11 ly3_0 4 (by decide) rfl hrg1 grg1 (by decide) q26 (rfl : 6 + 3 = 9) (xdt tt_X11_crosses 4 rfl) (fun krg1 => ?_)
    refine g_getI hC krg1 kclX5 ly2_0 10 (by decide) rfl q277 (rfl : 9 + 3 = 12) (xdt tt_X11_crosses 5 rfl) ?_
    refine g_icmp_lt hC (show ((12 : Nat) : Int) + 13 = ((25 : Nat) : Int) by decide) (rfl : 12 + 3 = 15) (xdt tt_X11_crosses 6 rfl) (fun hc7 => ?_) (fun hc7 => ?_)
    · replace h := (if_pos hc7).symm.trans h
      refine g_aload_n hC rfl 0 rfl (rfl : 25 + 1 = 26) (xdt tt_X11_crosses 12 rfl) ?_
      obtain ⟨rg2, hrg2, grg2, h⟩ := ckP_i h
      refine g_getV hC hk0 kclX11 ly3_0 4 (by decide) rfl hrg2 grg2 (by decide) q26 (rfl : 26 + 3 = 29) (xdt tt_X11_crosses 13 rfl) (fun krg2 => ?_)
      refine g_iload_n hC rfl 1 rfl (rfl : 29 + 1 = 30) (xdt tt_X11_crosses 14 rfl) ?_
      obtain ⟨v5, S4, hc3, h⟩ := bd2_i h
      refine g_callVz hC hZ krg2 kclX5 ly2_0 m_X5_crossesWindows q692 (Nat.le_of_ble_eq_true rfl) [vi a1] rfl (fun l => c_X5_crossesWindows_p2_0 l krg2 hc3) rfl (Nat.le_of_ble_eq_true rfl) (rfl : 30 + 3 = 33) (xdt tt_X11_crosses 15 rfl) (fun hb6 => ?_)
      cases h
      exact g_zretX hC hE rfl hb6 (xdt tt_X11_crosses 16 rfl)
    · replace h := (if_neg hc7).symm.trans h
      cases h
      exact g_throwS hC hE rfl (q := 22) rfl rfl fit1 q623 q624 at_148 (Nat.le_of_ble_eq_true rfl) (Nat.le_of_ble_eq_true rfl) (xdt tt_X11_crosses 7 rfl) (xdt tt_X11_crosses 8 rfl) (xdt tt_X11_crosses 9 rfl) (xdt tt_X11_crosses 10 rfl) (xdt tt_X11_crosses 11 rfl)
def f_X11_fuses_p3_0 (S : xSt) (r0 : Nat) (a1 : Int) : Option ((Int ⊕ Nat) × xSt) :=
  if wr a1 < 0 then
    (some (Sum.inr 1, S))
  else
    (ckP S r0 0 4 2 0 fun rg1 =>
    if wr a1 < wr (gI S rg1 0 10) then
      (bd2 (f_X0_fusesWithNext_p1_0 S (r0 + 1) a1) fun v4 S3 =>
      some (Sum.inl v4, S3))
    else
      (some (Sum.inr 1, S)))
set_option maxRecDepth 100000 in
set_option maxHeartbeats 4000000 in
theorem c_X11_fuses_p3_0 (l : Launch) (htr : l.stackTraces = false) {E : xE} {S S' : xSt} {r0 : Nat} {a1 : Int} (hk0 : xkd E r0 = 3) (hA0 : xFam E r0) {x : Int ⊕ Nat} (h : f_X11_fuses_p3_0 S r0 a1 = some (x, S')) : vx_Met l yX11_fuses (xws yX11_fuses cX11_fuses 2 (some .boolean)) (rmE 6 1) (YPc E [vr E r0 0, vi a1] S) (YXz E x S') (YXC E x S') 1 6 (xA E) := by
  unfold f_X11_fuses_p3_0 at h
  refine metX_z htr (by decide +kernel) (Nat.le_of_ble_eq_true rfl) (fun K hC hE => ?_)
  have hZ := xZX hE
  have hC : xOK K cX11_fuses RX11 2 (rmE 6 1) := hC
  show WG K E 0 [(0, vr E r0 0), (1, vi a1)] [] S
  refine g_iload_n hC rfl 1 rfl (rfl : 0 + 1 = 1) (xdt tt_X11_fuses 0 rfl) ?_
  refine g_if_lt hC (show ((1 : Nat) : Int) + 14 = ((15 : Nat) : Int) by decide) (rfl : 1 + 3 = 4) (xdt tt_X11_fuses 1 rfl) (fun hc7 => ?_) (fun hc7 => ?_)
  · replace h := (if_pos hc7).symm.trans h
    cases h
    exact g_throwS hC hE rfl (q := 22) rfl rfl fit1 q623 q624 at_148 (Nat.le_of_ble_eq_true rfl) (Nat.le_of_ble_eq_true rfl) (xdt tt_X11_fuses 7 rfl) (xdt tt_X11_fuses 8 rfl) (xdt tt_X11_fuses 9 rfl) (xdt tt_X11_fuses 10 rfl) (xdt tt_X11_fuses 11 rfl)
  · replace h := (if_neg hc7).symm.trans h
    refine g_iload_n hC rfl 1 rfl (rfl : 4 + 1 = 5) (xdt tt_X11_fuses 2 rfl) ?_
    refine g_aload_n hC rfl 0 rfl (rfl : 5 + 1 = 6) (xdt tt_X11_fuses 3 rfl) ?_
    obtain ⟨rg1, hrg1, grg1, h⟩ := ckP_i h
    refine g_getV hC hk0 kclX11 ly3_0 4 (by decide) rfl hrg1 grg1 (by decide) q26 (rfl : 6 + 3 = 9) (xdt tt_X11_fuses 4 rfl) (fun krg1 => ?_)
    refine g_getI hC krg1 kclX5 ly2_0 10 (by decide) rfl q277 (rfl : 9 + 3 = 12) (xdt tt_X11_fuses 5 rfl) ?_
    refine g_icmp_lt hC (show ((12 : Nat) : Int) + 13 = ((25 : Nat) : Int) by decide) (rfl : 12 + 3 = 15) (xdt tt_X11_fuses 6 rfl) (fun hc6 => ?_) (fun hc6 => ?_)
    · replace h := (if_pos hc6).symm.trans h
      refine g_aload_n hC rfl 0 rfl (rfl : 25 + 1 = 26) (xdt tt_X11_fuses 12 rfl) ?_
      refine g_getP hC hk0 kclX11 ly3_0 6 (by decide) (rfl : r0 + 1 = (r0 + 1)) rfl q31 (rfl : 26 + 3 = 29) (xdt tt_X11_fuses 13 rfl) ?_
      refine g_iload_n hC rfl 1 rfl (rfl : 29 + 1 = 30) (xdt tt_X11_fuses 14 rfl) ?_
      obtain ⟨v4, S3, hc2, h⟩ := bd2_i h
      refine g_callVz hC hZ (hA0 1 (by decide) (by decide)) kclX0 ly1_0 m_X0_fusesWithNext q719 (Nat.le_of_ble_eq_true rfl) [vi a1] rfl (fun l => c_X0_fusesWithNext_p1_0 l (hA0 1 (by decide) (by decide)) hc2) rfl (Nat.le_of_ble_eq_true rfl) (rfl : 30 + 3 = 33) (xdt tt_X11_fuses 15 rfl) (fun hb5 => ?_)
      cases h
      exact g_zretX hC hE rfl hb5 (xdt tt_X11_fuses 16 rfl)
    · replace h := (if_neg hc6).symm.trans h
      cases h
      exact g_throwS hC hE rfl (q := 22) rfl rfl fit1 q623 q624 at_148 (Nat.le_of_ble_eq_true rfl) (Nat.le_of_ble_eq_true rfl) (xdt tt_X11_fuses 7 rfl) (xdt tt_X11_fuses 8 rfl) (xdt tt_X11_fuses 9 rfl) (xdt tt_X11_fuses 10 rfl) (xdt tt_X11_fuses 11 rfl)
def f_X11_isLoopable_p3_0 (S : xSt) (r0 : Nat) (a1 : Int) : Option ((Int ⊕ Nat) × xSt) :=
  if wr a1 < 0 then
    (some (Sum.inr 1, S))
  else
    (ckP S r0 0 4 2 0 fun rg1 =>
    if wr a1 < wr (gI S rg1 0 10) then
      (bd2 (f_X0_closesLoop_p1_0 S (r0 + 1) a1) fun v4 S3 =>
      some (Sum.inl v4, S3))
    else
      (some (Sum.inr 1, S)))
set_option maxRecDepth 100000 in
set_option maxHeartbeats 4000000 in
theorem c_X11_isLoopable_p3_0 (l : Launch) (htr : l.stackTraces = false) {E : xE} {S S' : xSt} {r0 : Nat} {a1 : Int} (hk0 : xkd E r0 = 3) (hA0 : xFam E r0) {x : Int ⊕ Nat} (h : f_X11_isLoopable_p3_0 S r0 a1 = some (x, S')) : vx_Met l yX11_isLoopable (xws yX11_isLoopable cX11_isLoopable 2 (some .boolean)) (rmE 6 1) (YPc E [vr E r0 0, vi a1] S) (YXz E x S') (YXC E x S') 1 6 (xA E) := by
  unfold f_X11_isLoopable_p3_0 at h
  refine metX_z htr (by decide +kernel) (Nat.le_of_ble_eq_true rfl) (fun K hC hE => ?_)
  have hZ := xZX hE
  have hC : xOK K cX11_isLoopable RX11 2 (rmE 6 1) := hC
  show WG K E 0 [(0, vr E r0 0), (1, vi a1)] [] S
  refine g_iload_n hC rfl 1 rfl (rfl : 0 + 1 = 1) (xdt tt_X11_isLoopable 0 rfl) ?_
  refine g_if_lt hC (show ((1 : Nat) : Int) + 14 = ((15 : Nat) : Int) by decide) (rfl : 1 + 3 = 4) (xdt tt_X11_isLoopable 1 rfl) (fun hc7 => ?_) (fun hc7 => ?_)
  · replace h := (if_pos hc7).symm.trans h
    cases h
    exact g_throwS hC hE rfl (q := 22) rfl rfl fit1 q623 q624 at_148 (Nat.le_of_ble_eq_true rfl) (Nat.le_of_ble_eq_true rfl) (xdt tt_X11_isLoopable 7 rfl) (xdt tt_X11_isLoopable 8 rfl) (xdt tt_X11_isLoopable 9 rfl) (xdt tt_X11_isLoopable 10 rfl) (xdt tt_X11_isLoopable 11 rfl)
  · replace h := (if_neg hc7).symm.trans h
    refine g_iload_n hC rfl 1 rfl (rfl : 4 + 1 = 5) (xdt tt_X11_isLoopable 2 rfl) ?_
    refine g_aload_n hC rfl 0 rfl (rfl : 5 + 1 = 6) (xdt tt_X11_isLoopable 3 rfl) ?_
    obtain ⟨rg1, hrg1, grg1, h⟩ := ckP_i h
    refine g_getV hC hk0 kclX11 ly3_0 4 (by decide) rfl hrg1 grg1 (by decide) q26 (rfl : 6 + 3 = 9) (xdt tt_X11_isLoopable 4 rfl) (fun krg1 => ?_)
    refine g_getI hC krg1 kclX5 ly2_0 10 (by decide) rfl q277 (rfl : 9 + 3 = 12) (xdt tt_X11_isLoopable 5 rfl) ?_
    refine g_icmp_lt hC (show ((12 : Nat) : Int) + 13 = ((25 : Nat) : Int) by decide) (rfl : 12 + 3 = 15) (xdt tt_X11_isLoopable 6 rfl) (fun hc6 => ?_) (fun hc6 => ?_)
    · replace h := (if_pos hc6).symm.trans h
      refine g_aload_n hC rfl 0 rfl (rfl : 25 + 1 = 26) (xdt tt_X11_isLoopable 12 rfl) ?_
      refine g_getP hC hk0 kclX11 ly3_0 6 (by decide) (rfl : r0 + 1 = (r0 + 1)) rfl q31 (rfl : 26 + 3 = 29) (xdt tt_X11_isLoopable 13 rfl) ?_
      refine g_iload_n hC rfl 1 rfl (rfl : 29 + 1 = 30) (xdt tt_X11_isLoopable 14 rfl) ?_
      obtain ⟨v4, S3, hc2, h⟩ := bd2_i h
      refine g_callVz hC hZ (hA0 1 (by decide) (by decide)) kclX0 ly1_0 m_X0_closesLoop q746 (Nat.le_of_ble_eq_true rfl) [vi a1] rfl (fun l => c_X0_closesLoop_p1_0 l (hA0 1 (by decide) (by decide)) hc2) rfl (Nat.le_of_ble_eq_true rfl) (rfl : 30 + 3 = 33) (xdt tt_X11_isLoopable 15 rfl) (fun hb5 => ?_)
      cases h
      exact g_zretX hC hE rfl hb5 (xdt tt_X11_isLoopable 16 rfl)
    · replace h := (if_neg hc6).symm.trans h
      cases h
      exact g_throwS hC hE rfl (q := 22) rfl rfl fit1 q623 q624 at_148 (Nat.le_of_ble_eq_true rfl) (Nat.le_of_ble_eq_true rfl) (xdt tt_X11_isLoopable 7 rfl) (xdt tt_X11_isLoopable 8 rfl) (xdt tt_X11_isLoopable 9 rfl) (xdt tt_X11_isLoopable 10 rfl) (xdt tt_X11_isLoopable 11 rfl)
def f_X11_ofKind_p3_0_b25 (r0 : Nat) : Nat → xSt → Int → Int → Int → Int → Option ((Int ⊕ Nat) × xSt)
  | 0, _, _, _, _, _ => none
  | fuel + 1, S, x1, x2, x3, x4 =>
    ckP S r0 0 4 2 0 fun rg1 =>
    if wr (gI S rg1 0 10) ≤ wr x4 then
      (some (Sum.inl x3, S))
    else
      (ckP S r0 0 4 2 0 fun rg2 =>
      ckI x4 60 <|
      if ¬ wr (gI S rg2 5 (wr x4).toNat) = wr x1 then
        ((f_X11_ofKind_p3_0_b25 r0 fuel) S x1 x2 x3 (x4 + 1))
      else
        (if wr x2 = 0 then
          ((f_X11_ofKind_p3_0_b25 r0 fuel) S x1 x2 (x3 + 1) (x4 + 1))
        else
          (ckI x4 60 <|
          (f_X11_ofKind_p3_0_b25 r0 fuel) S x1 x2 (x3 + (gI S (r0 + 1) 17 (wr x4).toNat)) (x4 + 1))))
def f_X11_ofKind_p3_0 (S : xSt) (r0 : Nat) (a1 : Int) (a2 : Int) : Option ((Int ⊕ Nat) × xSt) :=
  if wr a1 < 0 then
    (some (Sum.inr 2, S))
  else
    (if wr a1 < wr 10 then
      (f_X11_ofKind_p3_0_b25 r0 (fu S) S a1 a2 0 0)
    else
      (some (Sum.inr 2, S)))
set_option maxRecDepth 100000 in
set_option maxHeartbeats 4000000 in
theorem k_X11_ofKind_p3_0_b25 {K : xCtx} {E : xE} (hC : xOK K cX11_ofKind RX11 5 (rmE 6 1)) (hZ : xZ K) {x : Int ⊕ Nat} {S' : xSt} (hE : xEndX K E (some .int) (YXi E x S') (YXC E x S')) {r0 : Nat} (hk0 : xkd E r0 = 3) (hA0 : xFam E r0) : ∀ (fuel : Nat) (S : xSt) (x1 : Int) (x2 : Int) (x3 : Int) (x4 : Int), f_X11_ofKind_p3_0_b25 r0 fuel S x1 x2 x3 x4 = some (x, S') → WG K E 25 [(0, vr E r0 0), (1, vi x1), (2, vi x2), (3, vi x3), (4, vi x4)] [] S := by
  intro fuel
  induction fuel with
  | zero => intro S x1 x2 x3 x4 h; cases h
  | succ fuel ih =>
    intro S x1 x2 x3 x4 h
    rw [f_X11_ofKind_p3_0_b25] at h
    refine g_iload hC 4 rfl (rfl : 25 + 2 = 27) (xdt tt_X11_ofKind 14 rfl) ?_
    refine g_aload_n hC rfl 0 rfl (rfl : 27 + 1 = 28) (xdt tt_X11_ofKind 15 rfl) ?_
    obtain ⟨rg1, hrg1, grg1, h⟩ := ckP_i h
    refine g_getV hC hk0 kclX11 ly3_0 4 (by decide) rfl hrg1 grg1 (by decide) q26 (rfl : 28 + 3 = 31) (xdt tt_X11_ofKind 16 rfl) (fun krg1 => ?_)
    refine g_getI hC krg1 kclX5 ly2_0 10 (by decide) rfl q277 (rfl : 31 + 3 = 34) (xdt tt_X11_ofKind 17 rfl) ?_
    refine g_icmp_ge hC (show ((34 : Nat) : Int) + 47 = ((81 : Nat) : Int) by decide) (rfl : 34 + 3 = 37) (xdt tt_X11_ofKind 18 rfl) (fun hc7 => ?_) (fun hc7 => ?_)
    · replace h := (if_pos hc7).symm.trans h
      refine g_iload_n hC rfl 3 rfl (rfl : 81 + 1 = 82) (xdt tt_X11_ofKind 41 rfl) ?_
      cases h
      exact g_iretX hC hE rfl (xdt tt_X11_ofKind 42 rfl)
    · replace h := (if_neg hc7).symm.trans h
      refine g_aload_n hC rfl 0 rfl (rfl : 37 + 1 = 38) (xdt tt_X11_ofKind 19 rfl) ?_
      obtain ⟨rg2, hrg2, grg2, h⟩ := ckP_i h
      refine g_getV hC hk0 kclX11 ly3_0 4 (by decide) rfl hrg2 grg2 (by decide) q26 (rfl : 38 + 3 = 41) (xdt tt_X11_ofKind 20 rfl) (fun krg2 => ?_)
      refine g_getP hC krg2 kclX5 ly2_0 2 (by decide) (rfl : rg2 + 0 = rg2) rfl q625 (rfl : 41 + 3 = 44) (xdt tt_X11_ofKind 21 rfl) ?_
      refine g_iload hC 4 rfl (rfl : 44 + 2 = 46) (xdt tt_X11_ofKind 22 rfl) ?_
      obtain ⟨hi3, h⟩ := ckI_i h
      refine g_iald hC krg2 ly2_5 hi3 (rfl : 46 + 1 = 47) (xdt tt_X11_ofKind 23 rfl) (k0 := (wr x4).toNat) rfl ?_
      refine g_iload_n hC rfl 1 rfl (rfl : 47 + 1 = 48) (xdt tt_X11_ofKind 24 rfl) ?_
      refine g_icmp_ne hC (show ((48 : Nat) : Int) + 27 = ((75 : Nat) : Int) by decide) (rfl : 48 + 3 = 51) (xdt tt_X11_ofKind 25 rfl) (fun hc6 => ?_) (fun hc6 => ?_)
      · replace h := (if_pos hc6).symm.trans h
        refine g_iinc hC 4 rfl (by decide) (lv' := [(4, vi (x4 + 1)), (0, vr E r0 0), (1, vi x1), (2, vi x2), (3, vi x3)]) rfl (rfl : 75 + 3 = 78) (xdt tt_X11_ofKind 39 rfl) ?_
        refine g_goto hC (show ((78 : Nat) : Int) + (-53) = ((25 : Nat) : Int) by decide) (xdt tt_X11_ofKind 40 rfl) ?_
        refine g_sub [1, 2, 3, 4, 0] (lv' := [(0, vr E r0 0), (1, vi x1), (2, vi x2), (3, vi x3), (4, vi (x4 + 1))]) rfl ?_
        exact ih _ _ _ _ _ h
      · replace h := (if_neg hc6).symm.trans h
        refine g_iload_n hC rfl 3 rfl (rfl : 51 + 1 = 52) (xdt tt_X11_ofKind 26 rfl) ?_
        refine g_iload_n hC rfl 2 rfl (rfl : 52 + 1 = 53) (xdt tt_X11_ofKind 27 rfl) ?_
        refine g_if_eq hC (show ((53 : Nat) : Int) + 19 = ((72 : Nat) : Int) by decide) (rfl : 53 + 3 = 56) (xdt tt_X11_ofKind 28 rfl) (fun hc5 => ?_) (fun hc5 => ?_)
        · replace h := (if_pos hc5).symm.trans h
          refine g_iconst hC (rfl : 72 + 1 = 73) (xdt tt_X11_ofKind 36 rfl) ?_
          refine g_iadd hC (rfl : 73 + 1 = 74) (xdt tt_X11_ofKind 37 rfl) ?_
          refine g_istore_n hC rfl (by decide) (lv' := [(3, vi (x3 + 1)), (0, vr E r0 0), (1, vi x1), (2, vi x2), (4, vi x4)]) rfl (rfl : 74 + 1 = 75) (xdt tt_X11_ofKind 38 rfl) ?_
          refine g_iinc hC 4 rfl (by decide) (lv' := [(4, vi (x4 + 1)), (3, vi (x3 + 1)), (0, vr E r0 0), (1, vi x1), (2, vi x2)]) rfl (rfl : 75 + 3 = 78) (xdt tt_X11_ofKind 39 rfl) ?_
          refine g_goto hC (show ((78 : Nat) : Int) + (-53) = ((25 : Nat) : Int) by decide) (xdt tt_X11_ofKind 40 rfl) ?_
          refine g_sub [2, 3, 4, 1, 0] (lv' := [(0, vr E r0 0), (1, vi x1), (2, vi x2), (3, vi (x3 + 1)), (4, vi (x4 + 1))]) rfl ?_
          exact ih _ _ _ _ _ h
        · replace h := (if_neg hc5).symm.trans h
          refine g_aload_n hC rfl 0 rfl (rfl : 56 + 1 = 57) (xdt tt_X11_ofKind 29 rfl) ?_
          refine g_getP hC hk0 kclX11 ly3_0 6 (by decide) (rfl : r0 + 1 = (r0 + 1)) rfl q31 (rfl : 57 + 3 = 60) (xdt tt_X11_ofKind 30 rfl) ?_
          refine g_getP hC (hA0 1 (by decide) (by decide)) kclX0 ly1_0 7 (by decide) (rfl : (r0 + 1) + 0 = (r0 + 1)) rfl q590 (rfl : 60 + 3 = 63) (xdt tt_X11_ofKind 31 rfl) ?_
          refine g_getP hC (hA0 1 (by decide) (by decide)) kclX9 ly1_14 2 (by decide) (rfl : (r0 + 1) + 0 = (r0 + 1)) rfl q789 (rfl : 63 + 3 = 66) (xdt tt_X11_ofKind 32 rfl) ?_
          refine g_iload hC 4 rfl (rfl : 66 + 2 = 68) (xdt tt_X11_ofKind 33 rfl) ?_
          obtain ⟨hi4, h⟩ := ckI_i h
          refine g_iald hC (hA0 1 (by decide) (by decide)) ly1_17 hi4 (rfl : 68 + 1 = 69) (xdt tt_X11_ofKind 34 rfl) (k0 := (wr x4).toNat) rfl ?_
          refine g_goto hC (show ((69 : Nat) : Int) + 4 = ((73 : Nat) : Int) by decide) (xdt tt_X11_ofKind 35 rfl) ?_
          refine g_iadd hC (rfl : 73 + 1 = 74) (xdt tt_X11_ofKind 37 rfl) ?_
          refine g_istore_n hC rfl (by decide) (lv' := [(3, vi (x3 + (gI S (r0 + 1) 17 (wr x4).toNat))), (0, vr E r0 0), (1, vi x1), (2, vi x2), (4, vi x4)]) rfl (rfl : 74 + 1 = 75) (xdt tt_X11_ofKind 38 rfl) ?_
          refine g_iinc hC 4 rfl (by decide) (lv' := [(4, vi (x4 + 1)), (3, vi (x3 + (gI S (r0 + 1) 17 (wr x4).toNat))), (0, vr E r0 0), (1, vi x1), (2, vi x2)]) rfl (rfl : 75 + 3 = 78) (xdt tt_X11_ofKind 39 rfl) ?_
          refine g_goto hC (show ((78 : Nat) : Int) + (-53) = ((25 : Nat) : Int) by decide) (xdt tt_X11_ofKind 40 rfl) ?_
          refine g_sub [2, 3, 4, 1, 0] (lv' := [(0, vr E r0 0), (1, vi x1), (2, vi x2), (3, vi (x3 + (gI S (r0 + 1) 17 (wr x4).toNat))), (4, vi (x4 + 1))]) rfl ?_
          exact ih _ _ _ _ _ h
set_option maxRecDepth 100000 in
set_option maxHeartbeats 4000000 in
theorem c_X11_ofKind_p3_0 (l : Launch) (htr : l.stackTraces = false) {E : xE} {S S' : xSt} {r0 : Nat} {a1 : Int} {a2 : Int} (hk0 : xkd E r0 = 3) (hA0 : xFam E r0) {x : Int ⊕ Nat} (h : f_X11_ofKind_p3_0 S r0 a1 a2 = some (x, S')) : vx_Met l yX11_ofKind (xws yX11_ofKind cX11_ofKind 5 (some .int)) (rmE 6 1) (YPc E [vr E r0 0, vi a1, vi a2] S) (YXi E x S') (YXC E x S') 1 6 (xA E) := by
  unfold f_X11_ofKind_p3_0 at h
  refine metX_i htr (by decide +kernel) (Nat.le_of_ble_eq_true rfl) (fun K hC hE => ?_)
  have hZ := xZX hE
  have hC : xOK K cX11_ofKind RX11 5 (rmE 6 1) := hC
  show WG K E 0 [(0, vr E r0 0), (1, vi a1), (2, vi a2)] [] S
  refine g_iload_n hC rfl 1 rfl (rfl : 0 + 1 = 1) (xdt tt_X11_ofKind 0 rfl) ?_
  refine g_if_lt hC (show ((1 : Nat) : Int) + 9 = ((10 : Nat) : Int) by decide) (rfl : 1 + 3 = 4) (xdt tt_X11_ofKind 1 rfl) (fun hc9 => ?_) (fun hc9 => ?_)
  · replace h := (if_pos hc9).symm.trans h
    cases h
    exact g_throwS hC hE rfl (q := 24) rfl rfl fit2 q787 q788 at_202 (Nat.le_of_ble_eq_true rfl) (Nat.le_of_ble_eq_true rfl) (xdt tt_X11_ofKind 5 rfl) (xdt tt_X11_ofKind 6 rfl) (xdt tt_X11_ofKind 7 rfl) (xdt tt_X11_ofKind 8 rfl) (xdt tt_X11_ofKind 9 rfl)
  · replace h := (if_neg hc9).symm.trans h
    refine g_iload_n hC rfl 1 rfl (rfl : 4 + 1 = 5) (xdt tt_X11_ofKind 2 rfl) ?_
    refine g_bipush hC (by decide) (rfl : 5 + 2 = 7) (xdt tt_X11_ofKind 3 rfl) ?_
    refine g_icmp_lt hC (show ((7 : Nat) : Int) + 13 = ((20 : Nat) : Int) by decide) (rfl : 7 + 3 = 10) (xdt tt_X11_ofKind 4 rfl) (fun hc8 => ?_) (fun hc8 => ?_)
    · replace h := (if_pos hc8).symm.trans h
      refine g_iconst hC (rfl : 20 + 1 = 21) (xdt tt_X11_ofKind 10 rfl) ?_
      refine g_istore_n hC rfl (by decide) (lv' := [(3, vi 0), (0, vr E r0 0), (1, vi a1), (2, vi a2)]) rfl (rfl : 21 + 1 = 22) (xdt tt_X11_ofKind 11 rfl) ?_
      refine g_iconst hC (rfl : 22 + 1 = 23) (xdt tt_X11_ofKind 12 rfl) ?_
      refine g_istore hC (by decide) (lv' := [(4, vi 0), (3, vi 0), (0, vr E r0 0), (1, vi a1), (2, vi a2)]) rfl (rfl : 23 + 2 = 25) (xdt tt_X11_ofKind 13 rfl) ?_
      refine g_sub [2, 3, 4, 1, 0] (lv' := [(0, vr E r0 0), (1, vi a1), (2, vi a2), (3, vi 0), (4, vi 0)]) rfl ?_
      exact k_X11_ofKind_p3_0_b25 hC hZ hE hk0 hA0 _ _ _ _ _ _ h
    · replace h := (if_neg hc8).symm.trans h
      cases h
      exact g_throwS hC hE rfl (q := 24) rfl rfl fit2 q787 q788 at_202 (Nat.le_of_ble_eq_true rfl) (Nat.le_of_ble_eq_true rfl) (xdt tt_X11_ofKind 5 rfl) (xdt tt_X11_ofKind 6 rfl) (xdt tt_X11_ofKind 7 rfl) (xdt tt_X11_ofKind 8 rfl) (xdt tt_X11_ofKind 9 rfl)
def f_X11_rule_p3_0 (S : xSt) (r0 : Nat) (a1 : Int) (a2 : Int) : Option ((Int ⊕ Nat) × xSt) :=
  if wr a1 < 0 then
    (some (Sum.inr 1, S))
  else
    (if wr a1 < wr (gI S (r0 + 1) 2 2) then
      (if wr a2 = 0 then
        (ckI a1 7 <|
        some (Sum.inl (gI S (r0 + 1) 3 (wr a1).toNat), S))
      else
        (ckI a1 7 <|
        some (Sum.inl (gI S (r0 + 1) 4 (wr a1).toNat), S)))
    else
      (some (Sum.inr 1, S)))
set_option maxRecDepth 100000 in
set_option maxHeartbeats 4000000 in
theorem c_X11_rule_p3_0 (l : Launch) (htr : l.stackTraces = false) {E : xE} {S S' : xSt} {r0 : Nat} {a1 : Int} {a2 : Int} (hk0 : xkd E r0 = 3) (hA0 : xFam E r0) {x : Int ⊕ Nat} (h : f_X11_rule_p3_0 S r0 a1 a2 = some (x, S')) : vx_Met l yX11_rule (xws yX11_rule cX11_rule 3 (some .int)) (rmE 6 1) (YPc E [vr E r0 0, vi a1, vi a2] S) (YXi E x S') (YXC E x S') 1 6 (xA E) := by
  unfold f_X11_rule_p3_0 at h
  refine metX_i htr (by decide +kernel) (Nat.le_of_ble_eq_true rfl) (fun K hC hE => ?_)
  have hZ := xZX hE
  have hC : xOK K cX11_rule RX11 3 (rmE 6 1) := hC
  show WG K E 0 [(0, vr E r0 0), (1, vi a1), (2, vi a2)] [] S
  refine g_iload_n hC rfl 1 rfl (rfl : 0 + 1 = 1) (xdt tt_X11_rule 0 rfl) ?_
  refine g_if_lt hC (show ((1 : Nat) : Int) + 17 = ((18 : Nat) : Int) by decide) (rfl : 1 + 3 = 4) (xdt tt_X11_rule 1 rfl) (fun hc5 => ?_) (fun hc5 => ?_)
  · replace h := (if_pos hc5).symm.trans h
    cases h
    exact g_throwS hC hE rfl (q := 25) rfl rfl fit1 q623 q624 at_148 (Nat.le_of_ble_eq_true rfl) (Nat.le_of_ble_eq_true rfl) (xdt tt_X11_rule 8 rfl) (xdt tt_X11_rule 9 rfl) (xdt tt_X11_rule 10 rfl) (xdt tt_X11_rule 11 rfl) (xdt tt_X11_rule 12 rfl)
  · replace h := (if_neg hc5).symm.trans h
    refine g_iload_n hC rfl 1 rfl (rfl : 4 + 1 = 5) (xdt tt_X11_rule 2 rfl) ?_
    refine g_aload_n hC rfl 0 rfl (rfl : 5 + 1 = 6) (xdt tt_X11_rule 3 rfl) ?_
    refine g_getP hC hk0 kclX11 ly3_0 6 (by decide) (rfl : r0 + 1 = (r0 + 1)) rfl q31 (rfl : 6 + 3 = 9) (xdt tt_X11_rule 4 rfl) ?_
    refine g_getP hC (hA0 1 (by decide) (by decide)) kclX0 ly1_0 2 (by decide) (rfl : (r0 + 1) + 0 = (r0 + 1)) rfl q592 (rfl : 9 + 3 = 12) (xdt tt_X11_rule 5 rfl) ?_
    refine g_getI hC (hA0 1 (by decide) (by decide)) kclX8 ly1_2 2 (by decide) rfl q593 (rfl : 12 + 3 = 15) (xdt tt_X11_rule 6 rfl) ?_
    refine g_icmp_lt hC (show ((15 : Nat) : Int) + 13 = ((28 : Nat) : Int) by decide) (rfl : 15 + 3 = 18) (xdt tt_X11_rule 7 rfl) (fun hc4 => ?_) (fun hc4 => ?_)
    · replace h := (if_pos hc4).symm.trans h
      refine g_iload_n hC rfl 2 rfl (rfl : 28 + 1 = 29) (xdt tt_X11_rule 13 rfl) ?_
      refine g_if_eq hC (show ((29 : Nat) : Int) + 18 = ((47 : Nat) : Int) by decide) (rfl : 29 + 3 = 32) (xdt tt_X11_rule 14 rfl) (fun hc3 => ?_) (fun hc3 => ?_)
      · replace h := (if_pos hc3).symm.trans h
        refine g_aload_n hC rfl 0 rfl (rfl : 47 + 1 = 48) (xdt tt_X11_rule 22 rfl) ?_
        refine g_getP hC hk0 kclX11 ly3_0 6 (by decide) (rfl : r0 + 1 = (r0 + 1)) rfl q31 (rfl : 48 + 3 = 51) (xdt tt_X11_rule 23 rfl) ?_
        refine g_getP hC (hA0 1 (by decide) (by decide)) kclX0 ly1_0 2 (by decide) (rfl : (r0 + 1) + 0 = (r0 + 1)) rfl q592 (rfl : 51 + 3 = 54) (xdt tt_X11_rule 24 rfl) ?_
        refine g_getP hC (hA0 1 (by decide) (by decide)) kclX8 ly1_2 0 (by decide) (rfl : (r0 + 1) + 0 = (r0 + 1)) rfl q802 (rfl : 54 + 3 = 57) (xdt tt_X11_rule 25 rfl) ?_
        refine g_iload_n hC rfl 1 rfl (rfl : 57 + 1 = 58) (xdt tt_X11_rule 26 rfl) ?_
        obtain ⟨hi1, h⟩ := ckI_i h
        refine g_iald hC (hA0 1 (by decide) (by decide)) ly1_3 hi1 (rfl : 58 + 1 = 59) (xdt tt_X11_rule 27 rfl) (k0 := (wr a1).toNat) rfl ?_
        cases h
        exact g_iretX hC hE rfl (xdt tt_X11_rule 28 rfl)
      · replace h := (if_neg hc3).symm.trans h
        refine g_aload_n hC rfl 0 rfl (rfl : 32 + 1 = 33) (xdt tt_X11_rule 15 rfl) ?_
        refine g_getP hC hk0 kclX11 ly3_0 6 (by decide) (rfl : r0 + 1 = (r0 + 1)) rfl q31 (rfl : 33 + 3 = 36) (xdt tt_X11_rule 16 rfl) ?_
        refine g_getP hC (hA0 1 (by decide) (by decide)) kclX0 ly1_0 2 (by decide) (rfl : (r0 + 1) + 0 = (r0 + 1)) rfl q592 (rfl : 36 + 3 = 39) (xdt tt_X11_rule 17 rfl) ?_
        refine g_getP hC (hA0 1 (by decide) (by decide)) kclX8 ly1_2 1 (by decide) (rfl : (r0 + 1) + 0 = (r0 + 1)) rfl q801 (rfl : 39 + 3 = 42) (xdt tt_X11_rule 18 rfl) ?_
        refine g_iload_n hC rfl 1 rfl (rfl : 42 + 1 = 43) (xdt tt_X11_rule 19 rfl) ?_
        obtain ⟨hi2, h⟩ := ckI_i h
        refine g_iald hC (hA0 1 (by decide) (by decide)) ly1_4 hi2 (rfl : 43 + 1 = 44) (xdt tt_X11_rule 20 rfl) (k0 := (wr a1).toNat) rfl ?_
        refine g_goto hC (show ((44 : Nat) : Int) + 15 = ((59 : Nat) : Int) by decide) (xdt tt_X11_rule 21 rfl) ?_
        cases h
        exact g_iretX hC hE rfl (xdt tt_X11_rule 28 rfl)
    · replace h := (if_neg hc4).symm.trans h
      cases h
      exact g_throwS hC hE rfl (q := 25) rfl rfl fit1 q623 q624 at_148 (Nat.le_of_ble_eq_true rfl) (Nat.le_of_ble_eq_true rfl) (xdt tt_X11_rule 8 rfl) (xdt tt_X11_rule 9 rfl) (xdt tt_X11_rule 10 rfl) (xdt tt_X11_rule 11 rfl) (xdt tt_X11_rule 12 rfl)
def f_X11_queueAt_p3_0 (S : xSt) (r0 : Nat) (a1 : Int) : Option ((Int ⊕ Nat) × xSt) :=
  if wr a1 < 0 then
    (some (Sum.inr 4, S))
  else
    (if wr a1 < wr (gI S (r0 + 1) 5 2) then
      (ckI a1 20 <|
      some (Sum.inl (gI S (r0 + 1) 6 (wr a1).toNat), S))
    else
      (some (Sum.inr 4, S)))
set_option maxRecDepth 100000 in
set_option maxHeartbeats 4000000 in
theorem c_X11_queueAt_p3_0 (l : Launch) (htr : l.stackTraces = false) {E : xE} {S S' : xSt} {r0 : Nat} {a1 : Int} (hk0 : xkd E r0 = 3) (hA0 : xFam E r0) {x : Int ⊕ Nat} (h : f_X11_queueAt_p3_0 S r0 a1 = some (x, S')) : vx_Met l yX11_queueAt (xws yX11_queueAt cX11_queueAt 2 (some .int)) (rmE 6 1) (YPc E [vr E r0 0, vi a1] S) (YXi E x S') (YXC E x S') 1 6 (xA E) := by
  unfold f_X11_queueAt_p3_0 at h
  refine metX_i htr (by decide +kernel) (Nat.le_of_ble_eq_true rfl) (fun K hC hE => ?_)
  have hZ := xZX hE
  have hC : xOK K cX11_queueAt RX11 2 (rmE 6 1) := hC
  show WG K E 0 [(0, vr E r0 0), (1, vi a1)] [] S
  refine g_iload_n hC rfl 1 rfl (rfl : 0 + 1 = 1) (xdt tt_X11_queueAt 0 rfl) ?_
  refine g_if_lt hC (show ((1 : Nat) : Int) + 17 = ((18 : Nat) : Int) by decide) (rfl : 1 + 3 = 4) (xdt tt_X11_queueAt 1 rfl) (fun hc3 => ?_) (fun hc3 => ?_)
  · replace h := (if_pos hc3).symm.trans h
    cases h
    exact g_throwSN hC hE rfl (q := 26) rfl rfl fit4 q819 q820 nse_218 (Nat.le_of_ble_eq_true rfl) (Nat.le_of_ble_eq_true rfl) (xdt tt_X11_queueAt 8 rfl) (xdt tt_X11_queueAt 9 rfl) (xdt tt_X11_queueAt 10 rfl) (xdt tt_X11_queueAt 11 rfl) (xdt tt_X11_queueAt 12 rfl)
  · replace h := (if_neg hc3).symm.trans h
    refine g_iload_n hC rfl 1 rfl (rfl : 4 + 1 = 5) (xdt tt_X11_queueAt 2 rfl) ?_
    refine g_aload_n hC rfl 0 rfl (rfl : 5 + 1 = 6) (xdt tt_X11_queueAt 3 rfl) ?_
    refine g_getP hC hk0 kclX11 ly3_0 6 (by decide) (rfl : r0 + 1 = (r0 + 1)) rfl q31 (rfl : 6 + 3 = 9) (xdt tt_X11_queueAt 4 rfl) ?_
    refine g_getP hC (hA0 1 (by decide) (by decide)) kclX0 ly1_0 3 (by decide) (rfl : (r0 + 1) + 0 = (r0 + 1)) rfl q595 (rfl : 9 + 3 = 12) (xdt tt_X11_queueAt 5 rfl) ?_
    refine g_getI hC (hA0 1 (by decide) (by decide)) kclX6 ly1_5 2 (by decide) rfl q596 (rfl : 12 + 3 = 15) (xdt tt_X11_queueAt 6 rfl) ?_
    refine g_icmp_lt hC (show ((15 : Nat) : Int) + 13 = ((28 : Nat) : Int) by decide) (rfl : 15 + 3 = 18) (xdt tt_X11_queueAt 7 rfl) (fun hc2 => ?_) (fun hc2 => ?_)
    · replace h := (if_pos hc2).symm.trans h
      refine g_aload_n hC rfl 0 rfl (rfl : 28 + 1 = 29) (xdt tt_X11_queueAt 13 rfl) ?_
      refine g_getP hC hk0 kclX11 ly3_0 6 (by decide) (rfl : r0 + 1 = (r0 + 1)) rfl q31 (rfl : 29 + 3 = 32) (xdt tt_X11_queueAt 14 rfl) ?_
      refine g_getP hC (hA0 1 (by decide) (by decide)) kclX0 ly1_0 3 (by decide) (rfl : (r0 + 1) + 0 = (r0 + 1)) rfl q595 (rfl : 32 + 3 = 35) (xdt tt_X11_queueAt 15 rfl) ?_
      refine g_getP hC (hA0 1 (by decide) (by decide)) kclX6 ly1_5 0 (by decide) (rfl : (r0 + 1) + 0 = (r0 + 1)) rfl q821 (rfl : 35 + 3 = 38) (xdt tt_X11_queueAt 16 rfl) ?_
      refine g_iload_n hC rfl 1 rfl (rfl : 38 + 1 = 39) (xdt tt_X11_queueAt 17 rfl) ?_
      obtain ⟨hi1, h⟩ := ckI_i h
      refine g_iald hC (hA0 1 (by decide) (by decide)) ly1_6 hi1 (rfl : 39 + 1 = 40) (xdt tt_X11_queueAt 18 rfl) (k0 := (wr a1).toNat) rfl ?_
      cases h
      exact g_iretX hC hE rfl (xdt tt_X11_queueAt 19 rfl)
    · replace h := (if_neg hc2).symm.trans h
      cases h
      exact g_throwSN hC hE rfl (q := 26) rfl rfl fit4 q819 q820 nse_218 (Nat.le_of_ble_eq_true rfl) (Nat.le_of_ble_eq_true rfl) (xdt tt_X11_queueAt 8 rfl) (xdt tt_X11_queueAt 9 rfl) (xdt tt_X11_queueAt 10 rfl) (xdt tt_X11_queueAt 11 rfl) (xdt tt_X11_queueAt 12 rfl)
def f_X11_loop_p3_0 (S : xSt) (r0 : Nat) (a1 : Int) : Option ((Int ⊕ Nat) × xSt) :=
  if wr a1 < 0 then
    (some (Sum.inr 2, S))
  else
    (if wr a1 ≤ wr 3 then
      (if ¬ wr (gI S (r0 + 1) 8 0) = 0 then
        (if wr a1 < 0 ∨ 2 < wr a1 then
          (some (Sum.inl (gI S (r0 + 1) 8 4), S))
        else
        if wr a1 = 0 then
          (some (Sum.inl (gI S (r0 + 1) 8 1), S))
        else
        if wr a1 = 1 then
          (some (Sum.inl (gI S (r0 + 1) 8 2), S))
        else
        if wr a1 = 2 then
          (some (Sum.inl (gI S (r0 + 1) 8 3), S))
        else
        none)
      else
        (some (Sum.inl (-1), S)))
    else
      (some (Sum.inr 2, S)))
set_option maxRecDepth 100000 in
set_option maxHeartbeats 4000000 in
theorem c_X11_loop_p3_0 (l : Launch) (htr : l.stackTraces = false) {E : xE} {S S' : xSt} {r0 : Nat} {a1 : Int} (hk0 : xkd E r0 = 3) (hA0 : xFam E r0) {x : Int ⊕ Nat} (h : f_X11_loop_p3_0 S r0 a1 = some (x, S')) : vx_Met l yX11_loop (xws yX11_loop cX11_loop 3 (some .int)) (rmE 6 1) (YPc E [vr E r0 0, vi a1] S) (YXi E x S') (YXC E x S') 1 6 (xA E) := by
  unfold f_X11_loop_p3_0 at h
  refine metX_i htr (by decide +kernel) (Nat.le_of_ble_eq_true rfl) (fun K hC hE => ?_)
  have hZ := xZX hE
  have hC : xOK K cX11_loop RX11 3 (rmE 6 1) := hC
  show WG K E 0 [(0, vr E r0 0), (1, vi a1)] [] S
  refine g_iload_n hC rfl 1 rfl (rfl : 0 + 1 = 1) (xdt tt_X11_loop 0 rfl) ?_
  refine g_if_lt hC (show ((1 : Nat) : Int) + 8 = ((9 : Nat) : Int) by decide) (rfl : 1 + 3 = 4) (xdt tt_X11_loop 1 rfl) (fun hc7 => ?_) (fun hc7 => ?_)
  · replace h := (if_pos hc7).symm.trans h
    cases h
    exact g_throwS hC hE rfl (q := 27) rfl rfl fit2 q787 q788 at_202 (Nat.le_of_ble_eq_true rfl) (Nat.le_of_ble_eq_true rfl) (xdt tt_X11_loop 5 rfl) (xdt tt_X11_loop 6 rfl) (xdt tt_X11_loop 7 rfl) (xdt tt_X11_loop 8 rfl) (xdt tt_X11_loop 9 rfl)
  · replace h := (if_neg hc7).symm.trans h
    refine g_iload_n hC rfl 1 rfl (rfl : 4 + 1 = 5) (xdt tt_X11_loop 2 rfl) ?_
    refine g_iconst hC (rfl : 5 + 1 = 6) (xdt tt_X11_loop 3 rfl) ?_
    refine g_icmp_le hC (show ((6 : Nat) : Int) + 13 = ((19 : Nat) : Int) by decide) (rfl : 6 + 3 = 9) (xdt tt_X11_loop 4 rfl) (fun hc6 => ?_) (fun hc6 => ?_)
    · replace h := (if_pos hc6).symm.trans h
      refine g_aload_n hC rfl 0 rfl (rfl : 19 + 1 = 20) (xdt tt_X11_loop 10 rfl) ?_
      refine g_getP hC hk0 kclX11 ly3_0 6 (by decide) (rfl : r0 + 1 = (r0 + 1)) rfl q31 (rfl : 20 + 3 = 23) (xdt tt_X11_loop 11 rfl) ?_
      refine g_getP hC (hA0 1 (by decide) (by decide)) kclX0 ly1_0 4 (by decide) (rfl : (r0 + 1) + 0 = (r0 + 1)) rfl q833 (rfl : 23 + 3 = 26) (xdt tt_X11_loop 12 rfl) ?_
      refine g_astore_n hC rfl (by decide) (lv' := [(2, vr E (r0 + 1) 8), (0, vr E r0 0), (1, vi a1)]) rfl (rfl : 26 + 1 = 27) (xdt tt_X11_loop 13 rfl) ?_
      refine g_aload_n hC rfl 0 rfl (rfl : 27 + 1 = 28) (xdt tt_X11_loop 14 rfl) ?_
      refine g_getI hC (hA0 1 (by decide) (by decide)) kclX7 ly1_8 0 (by decide) rfl q834 (rfl : 28 + 3 = 31) (xdt tt_X11_loop 15 rfl) ?_
      refine g_if_ne hC (show ((31 : Nat) : Int) + 5 = ((36 : Nat) : Int) by decide) (rfl : 31 + 3 = 34) (xdt tt_X11_loop 16 rfl) (fun hc5 => ?_) (fun hc5 => ?_)
      · replace h := (if_pos hc5).symm.trans h
        refine g_iload_n hC rfl 2 rfl (rfl : 36 + 1 = 37) (xdt tt_X11_loop 19 rfl) ?_
        by_cases hs1 : wr a1 < 0 ∨ 2 < wr a1
        · replace h := (if_pos hs1).symm.trans h
          refine g_tabOut hC (xdt tt_X11_loop 20 rfl) hs1 (show ((37 : Nat) : Int) + 42 = ((79 : Nat) : Int) by decide) ?_
          refine g_aload_n hC rfl 0 rfl (rfl : 79 + 1 = 80) (xdt tt_X11_loop 30 rfl) ?_
          refine g_getI hC (hA0 1 (by decide) (by decide)) kclX7 ly1_8 4 (by decide) rfl q838 (rfl : 80 + 3 = 83) (xdt tt_X11_loop 31 rfl) ?_
          cases h
          exact g_iretX hC hE rfl (xdt tt_X11_loop 32 rfl)
        · replace h := (if_neg hs1).symm.trans h
          by_cases hv2 : wr a1 = 0
          · replace h := (if_pos hv2).symm.trans h
            refine g_tabIn hC (xdt tt_X11_loop 20 rfl) (fun z => hs1 (Or.inl z)) (fun z => hs1 (Or.inr z)) (off := 27) (by rw [hv2]; rfl) (show ((37 : Nat) : Int) + 27 = ((64 : Nat) : Int) by decide) ?_
            refine g_aload_n hC rfl 0 rfl (rfl : 64 + 1 = 65) (xdt tt_X11_loop 21 rfl) ?_
            refine g_getI hC (hA0 1 (by decide) (by decide)) kclX7 ly1_8 1 (by decide) rfl q835 (rfl : 65 + 3 = 68) (xdt tt_X11_loop 22 rfl) ?_
            cases h
            exact g_iretX hC hE rfl (xdt tt_X11_loop 23 rfl)
          · replace h := (if_neg hv2).symm.trans h
            by_cases hv3 : wr a1 = 1
            · replace h := (if_pos hv3).symm.trans h
              refine g_tabIn hC (xdt tt_X11_loop 20 rfl) (fun z => hs1 (Or.inl z)) (fun z => hs1 (Or.inr z)) (off := 32) (by rw [hv3]; rfl) (show ((37 : Nat) : Int) + 32 = ((69 : Nat) : Int) by decide) ?_
              refine g_aload_n hC rfl 0 rfl (rfl : 69 + 1 = 70) (xdt tt_X11_loop 24 rfl) ?_
              refine g_getI hC (hA0 1 (by decide) (by decide)) kclX7 ly1_8 2 (by decide) rfl q836 (rfl : 70 + 3 = 73) (xdt tt_X11_loop 25 rfl) ?_
              cases h
              exact g_iretX hC hE rfl (xdt tt_X11_loop 26 rfl)
            · replace h := (if_neg hv3).symm.trans h
              by_cases hv4 : wr a1 = 2
              · replace h := (if_pos hv4).symm.trans h
                refine g_tabIn hC (xdt tt_X11_loop 20 rfl) (fun z => hs1 (Or.inl z)) (fun z => hs1 (Or.inr z)) (off := 37) (by rw [hv4]; rfl) (show ((37 : Nat) : Int) + 37 = ((74 : Nat) : Int) by decide) ?_
                refine g_aload_n hC rfl 0 rfl (rfl : 74 + 1 = 75) (xdt tt_X11_loop 27 rfl) ?_
                refine g_getI hC (hA0 1 (by decide) (by decide)) kclX7 ly1_8 3 (by decide) rfl q837 (rfl : 75 + 3 = 78) (xdt tt_X11_loop 28 rfl) ?_
                cases h
                exact g_iretX hC hE rfl (xdt tt_X11_loop 29 rfl)
              · replace h := (if_neg hv4).symm.trans h
                cases h
      · replace h := (if_neg hc5).symm.trans h
        refine g_iconst hC (rfl : 34 + 1 = 35) (xdt tt_X11_loop 17 rfl) ?_
        cases h
        exact g_iretX hC hE rfl (xdt tt_X11_loop 18 rfl)
    · replace h := (if_neg hc6).symm.trans h
      cases h
      exact g_throwS hC hE rfl (q := 27) rfl rfl fit2 q787 q788 at_202 (Nat.le_of_ble_eq_true rfl) (Nat.le_of_ble_eq_true rfl) (xdt tt_X11_loop 5 rfl) (xdt tt_X11_loop 6 rfl) (xdt tt_X11_loop 7 rfl) (xdt tt_X11_loop 8 rfl) (xdt tt_X11_loop 9 rfl)
def f_X11_bubbles_p3_0 (S : xSt) (r0 : Nat) (a1 : Int) : Option ((Int ⊕ Nat) × xSt) :=
  if wr a1 < wr 1 then
    (some (Sum.inr 2, S))
  else
    (if wr a1 ≤ wr 8 then
      (ckI a1 9 <|
      some (Sum.inl (gI S (r0 + 1) 16 (wr a1).toNat), S))
    else
      (some (Sum.inr 2, S)))
set_option maxRecDepth 100000 in
set_option maxHeartbeats 4000000 in
theorem c_X11_bubbles_p3_0 (l : Launch) (htr : l.stackTraces = false) {E : xE} {S S' : xSt} {r0 : Nat} {a1 : Int} (hk0 : xkd E r0 = 3) (hA0 : xFam E r0) {x : Int ⊕ Nat} (h : f_X11_bubbles_p3_0 S r0 a1 = some (x, S')) : vx_Met l yX11_bubbles (xws yX11_bubbles cX11_bubbles 2 (some .int)) (rmE 6 1) (YPc E [vr E r0 0, vi a1] S) (YXi E x S') (YXC E x S') 1 6 (xA E) := by
  unfold f_X11_bubbles_p3_0 at h
  refine metX_i htr (by decide +kernel) (Nat.le_of_ble_eq_true rfl) (fun K hC hE => ?_)
  have hZ := xZX hE
  have hC : xOK K cX11_bubbles RX11 2 (rmE 6 1) := hC
  show WG K E 0 [(0, vr E r0 0), (1, vi a1)] [] S
  refine g_iload_n hC rfl 1 rfl (rfl : 0 + 1 = 1) (xdt tt_X11_bubbles 0 rfl) ?_
  refine g_iconst hC (rfl : 1 + 1 = 2) (xdt tt_X11_bubbles 1 rfl) ?_
  refine g_icmp_lt hC (show ((2 : Nat) : Int) + 9 = ((11 : Nat) : Int) by decide) (rfl : 2 + 3 = 5) (xdt tt_X11_bubbles 2 rfl) (fun hc3 => ?_) (fun hc3 => ?_)
  · replace h := (if_pos hc3).symm.trans h
    cases h
    exact g_throwS hC hE rfl (q := 28) rfl rfl fit2 q787 q788 at_202 (Nat.le_of_ble_eq_true rfl) (Nat.le_of_ble_eq_true rfl) (xdt tt_X11_bubbles 6 rfl) (xdt tt_X11_bubbles 7 rfl) (xdt tt_X11_bubbles 8 rfl) (xdt tt_X11_bubbles 9 rfl) (xdt tt_X11_bubbles 10 rfl)
  · replace h := (if_neg hc3).symm.trans h
    refine g_iload_n hC rfl 1 rfl (rfl : 5 + 1 = 6) (xdt tt_X11_bubbles 3 rfl) ?_
    refine g_bipush hC (by decide) (rfl : 6 + 2 = 8) (xdt tt_X11_bubbles 4 rfl) ?_
    refine g_icmp_le hC (show ((8 : Nat) : Int) + 13 = ((21 : Nat) : Int) by decide) (rfl : 8 + 3 = 11) (xdt tt_X11_bubbles 5 rfl) (fun hc2 => ?_) (fun hc2 => ?_)
    · replace h := (if_pos hc2).symm.trans h
      refine g_aload_n hC rfl 0 rfl (rfl : 21 + 1 = 22) (xdt tt_X11_bubbles 11 rfl) ?_
      refine g_getP hC hk0 kclX11 ly3_0 6 (by decide) (rfl : r0 + 1 = (r0 + 1)) rfl q31 (rfl : 22 + 3 = 25) (xdt tt_X11_bubbles 12 rfl) ?_
      refine g_getP hC (hA0 1 (by decide) (by decide)) kclX0 ly1_0 7 (by decide) (rfl : (r0 + 1) + 0 = (r0 + 1)) rfl q590 (rfl : 25 + 3 = 28) (xdt tt_X11_bubbles 13 rfl) ?_
      refine g_getP hC (hA0 1 (by decide) (by decide)) kclX9 ly1_14 1 (by decide) (rfl : (r0 + 1) + 0 = (r0 + 1)) rfl q864 (rfl : 28 + 3 = 31) (xdt tt_X11_bubbles 14 rfl) ?_
      refine g_iload_n hC rfl 1 rfl (rfl : 31 + 1 = 32) (xdt tt_X11_bubbles 15 rfl) ?_
      obtain ⟨hi1, h⟩ := ckI_i h
      refine g_iald hC (hA0 1 (by decide) (by decide)) ly1_16 hi1 (rfl : 32 + 1 = 33) (xdt tt_X11_bubbles 16 rfl) (k0 := (wr a1).toNat) rfl ?_
      cases h
      exact g_iretX hC hE rfl (xdt tt_X11_bubbles 17 rfl)
    · replace h := (if_neg hc2).symm.trans h
      cases h
      exact g_throwS hC hE rfl (q := 28) rfl rfl fit2 q787 q788 at_202 (Nat.le_of_ble_eq_true rfl) (Nat.le_of_ble_eq_true rfl) (xdt tt_X11_bubbles 6 rfl) (xdt tt_X11_bubbles 7 rfl) (xdt tt_X11_bubbles 8 rfl) (xdt tt_X11_bubbles 9 rfl) (xdt tt_X11_bubbles 10 rfl)
def f_X11_decoded_p3_0 (S : xSt) (r0 : Nat) (a1 : Int) : Option ((Int ⊕ Nat) × xSt) :=
  if wr a1 < 0 then
    (some (Sum.inr 4, S))
  else
    (if wr (gI S (r0 + 1) 15 1) ≤ wr a1 then
      (some (Sum.inr 4, S))
    else
      (if wr a1 < wr 100 then
        (ckI (Int.tmod (wr (((gI S (r0 + 1) 15 1) - 1) - a1)) (wr 100)) 100 <|
        some (Sum.inl (gI S (r0 + 1) 18 (wr (Int.tmod (wr (((gI S (r0 + 1) 15 1) - 1) - a1)) (wr 100))).toNat), S))
      else
        (some (Sum.inr 4, S))))
set_option maxRecDepth 100000 in
set_option maxHeartbeats 4000000 in
theorem c_X11_decoded_p3_0 (l : Launch) (htr : l.stackTraces = false) {E : xE} {S S' : xSt} {r0 : Nat} {a1 : Int} (hk0 : xkd E r0 = 3) (hA0 : xFam E r0) {x : Int ⊕ Nat} (h : f_X11_decoded_p3_0 S r0 a1 = some (x, S')) : vx_Met l yX11_decoded (xws yX11_decoded cX11_decoded 3 (some .int)) (rmE 6 1) (YPc E [vr E r0 0, vi a1] S) (YXi E x S') (YXC E x S') 1 6 (xA E) := by
  unfold f_X11_decoded_p3_0 at h
  refine metX_i htr (by decide +kernel) (Nat.le_of_ble_eq_true rfl) (fun K hC hE => ?_)
  have hZ := xZX hE
  have hC : xOK K cX11_decoded RX11 3 (rmE 6 1) := hC
  show WG K E 0 [(0, vr E r0 0), (1, vi a1)] [] S
  refine g_aload_n hC rfl 0 rfl (rfl : 0 + 1 = 1) (xdt tt_X11_decoded 0 rfl) ?_
  refine g_getP hC hk0 kclX11 ly3_0 6 (by decide) (rfl : r0 + 1 = (r0 + 1)) rfl q31 (rfl : 1 + 3 = 4) (xdt tt_X11_decoded 1 rfl) ?_
  refine g_getP hC (hA0 1 (by decide) (by decide)) kclX0 ly1_0 7 (by decide) (rfl : (r0 + 1) + 0 = (r0 + 1)) rfl q590 (rfl : 4 + 3 = 7) (xdt tt_X11_decoded 2 rfl) ?_
  refine g_getP hC (hA0 1 (by decide) (by decide)) kclX9 ly1_14 0 (by decide) (rfl : (r0 + 1) + 0 = (r0 + 1)) rfl q591 (rfl : 7 + 3 = 10) (xdt tt_X11_decoded 3 rfl) ?_
  refine g_iconst hC (rfl : 10 + 1 = 11) (xdt tt_X11_decoded 4 rfl) ?_
  refine g_iald hC (hA0 1 (by decide) (by decide)) ly1_15 (by decide) (rfl : 11 + 1 = 12) (xdt tt_X11_decoded 5 rfl) (k0 := 1) (by decide) ?_
  refine g_istore_n hC rfl (by decide) (lv' := [(2, vi (gI S (r0 + 1) 15 1)), (0, vr E r0 0), (1, vi a1)]) rfl (rfl : 12 + 1 = 13) (xdt tt_X11_decoded 6 rfl) ?_
  refine g_iload_n hC rfl 2 rfl (rfl : 13 + 1 = 14) (xdt tt_X11_decoded 7 rfl) ?_
  refine g_if_lt hC (show ((14 : Nat) : Int) + 14 = ((28 : Nat) : Int) by decide) (rfl : 14 + 3 = 17) (xdt tt_X11_decoded 8 rfl) (fun hc4 => ?_) (fun hc4 => ?_)
  · replace h := (if_pos hc4).symm.trans h
    cases h
    exact g_throwWN hC hE rfl (q := 29) rfl rfl fit4 q819 q820 nse_218 (Nat.le_of_ble_eq_true rfl) (Nat.le_of_ble_eq_true rfl) (xdt tt_X11_decoded 15 rfl) (xdt tt_X11_decoded 16 rfl) (xdt tt_X11_decoded 17 rfl) (xdt tt_X11_decoded 18 rfl) (xdt tt_X11_decoded 19 rfl)
  · replace h := (if_neg hc4).symm.trans h
    refine g_iload_n hC rfl 2 rfl (rfl : 17 + 1 = 18) (xdt tt_X11_decoded 9 rfl) ?_
    refine g_iload_n hC rfl 0 rfl (rfl : 18 + 1 = 19) (xdt tt_X11_decoded 10 rfl) ?_
    refine g_icmp_ge hC (show ((19 : Nat) : Int) + 9 = ((28 : Nat) : Int) by decide) (rfl : 19 + 3 = 22) (xdt tt_X11_decoded 11 rfl) (fun hc3 => ?_) (fun hc3 => ?_)
    · replace h := (if_pos hc3).symm.trans h
      cases h
      exact g_throwWN hC hE rfl (q := 29) rfl rfl fit4 q819 q820 nse_218 (Nat.le_of_ble_eq_true rfl) (Nat.le_of_ble_eq_true rfl) (xdt tt_X11_decoded 15 rfl) (xdt tt_X11_decoded 16 rfl) (xdt tt_X11_decoded 17 rfl) (xdt tt_X11_decoded 18 rfl) (xdt tt_X11_decoded 19 rfl)
    · replace h := (if_neg hc3).symm.trans h
      refine g_iload_n hC rfl 2 rfl (rfl : 22 + 1 = 23) (xdt tt_X11_decoded 12 rfl) ?_
      refine g_bipush hC (by decide) (rfl : 23 + 2 = 25) (xdt tt_X11_decoded 13 rfl) ?_
      refine g_icmp_lt hC (show ((25 : Nat) : Int) + 14 = ((39 : Nat) : Int) by decide) (rfl : 25 + 3 = 28) (xdt tt_X11_decoded 14 rfl) (fun hc2 => ?_) (fun hc2 => ?_)
      · replace h := (if_pos hc2).symm.trans h
        refine g_aload_n hC rfl 1 rfl (rfl : 39 + 1 = 40) (xdt tt_X11_decoded 20 rfl) ?_
        refine g_getP hC hk0 kclX11 ly3_0 6 (by decide) (rfl : r0 + 1 = (r0 + 1)) rfl q31 (rfl : 40 + 3 = 43) (xdt tt_X11_decoded 21 rfl) ?_
        refine g_getP hC (hA0 1 (by decide) (by decide)) kclX0 ly1_0 7 (by decide) (rfl : (r0 + 1) + 0 = (r0 + 1)) rfl q590 (rfl : 43 + 3 = 46) (xdt tt_X11_decoded 22 rfl) ?_
        refine g_getP hC (hA0 1 (by decide) (by decide)) kclX9 ly1_14 3 (by decide) (rfl : (r0 + 1) + 0 = (r0 + 1)) rfl q893 (rfl : 46 + 3 = 49) (xdt tt_X11_decoded 23 rfl) ?_
        refine g_iload_n hC rfl 0 rfl (rfl : 49 + 1 = 50) (xdt tt_X11_decoded 24 rfl) ?_
        refine g_iconst hC (rfl : 50 + 1 = 51) (xdt tt_X11_decoded 25 rfl) ?_
        refine g_isub hC (rfl : 51 + 1 = 52) (xdt tt_X11_decoded 26 rfl) ?_
        refine g_iload_n hC rfl 2 rfl (rfl : 52 + 1 = 53) (xdt tt_X11_decoded 27 rfl) ?_
        refine g_isub hC (rfl : 53 + 1 = 54) (xdt tt_X11_decoded 28 rfl) ?_
        refine g_bipush hC (by decide) (rfl : 54 + 2 = 56) (xdt tt_X11_decoded 29 rfl) ?_
        refine g_irem hC (by decide) (rfl : 56 + 1 = 57) (xdt tt_X11_decoded 30 rfl) ?_
        obtain ⟨hi1, h⟩ := ckI_i h
        refine g_iald hC (hA0 1 (by decide) (by decide)) ly1_18 hi1 (rfl : 57 + 1 = 58) (xdt tt_X11_decoded 31 rfl) (k0 := (wr (Int.tmod (wr (((gI S (r0 + 1) 15 1) - 1) - a1)) (wr 100))).toNat) rfl ?_
        cases h
        exact g_iretX hC hE rfl (xdt tt_X11_decoded 32 rfl)
      · replace h := (if_neg hc2).symm.trans h
        cases h
        exact g_throwWN hC hE rfl (q := 29) rfl rfl fit4 q819 q820 nse_218 (Nat.le_of_ble_eq_true rfl) (Nat.le_of_ble_eq_true rfl) (xdt tt_X11_decoded 15 rfl) (xdt tt_X11_decoded 16 rfl) (xdt tt_X11_decoded 17 rfl) (xdt tt_X11_decoded 18 rfl) (xdt tt_X11_decoded 19 rfl)
def f_X11_plain_p3_0_b33 (r0 : Nat) : Nat → xSt → Int → Int → Int → Option ((Int ⊕ Nat) × xSt)
  | 0, _, _, _, _ => none
  | fuel + 1, S, x1, x2, x3 =>
    if wr x1 < wr x3 then
      (some (Sum.inl x2, S))
    else
      (ckP S r0 0 4 2 0 fun rg3 =>
      bd2 (f_X4_next_p3_10_2_0 S r0 rg3) fun v6 S5 =>
      (f_X11_plain_p3_0_b33 r0 fuel) S5 x1 v6 (x3 + 1))
def f_X11_plain_p3_0 (S : xSt) (r0 : Nat) (a1 : Int) : Option ((Int ⊕ Nat) × xSt) :=
  if wr a1 < 0 then
    (some (Sum.inr 2, S))
  else
    (if wr a1 ≤ wr 9999 then
      (bd (f_X4_begin_p3_10 S r0) fun S2 =>
      f_X11_plain_p3_0_b33 r0 (fu S2) S2 a1 (-1) 0)
    else
      (some (Sum.inr 2, S)))
set_option maxRecDepth 100000 in
set_option maxHeartbeats 4000000 in
theorem k_X11_plain_p3_0_b33 {K : xCtx} {E : xE} (hC : xOK K cX11_plain RX11 4 (rmE 6 1)) (hZ : xZ K) {x : Int ⊕ Nat} {S' : xSt} (hE : xEndX K E (some .int) (YXi E x S') (YXC E x S')) {r0 : Nat} (hk0 : xkd E r0 = 3) (hA0 : xFam E r0) : ∀ (fuel : Nat) (S : xSt) (x1 : Int) (x2 : Int) (x3 : Int), f_X11_plain_p3_0_b33 r0 fuel S x1 x2 x3 = some (x, S') → WG K E 33 [(0, vr E r0 0), (1, vi x1), (2, vi x2), (3, vi x3)] [] S := by
  intro fuel
  induction fuel with
  | zero => intro S x1 x2 x3 h; cases h
  | succ fuel ih =>
    intro S x1 x2 x3 h
    rw [f_X11_plain_p3_0_b33] at h
    refine g_iload_n hC rfl 3 rfl (rfl : 33 + 1 = 34) (xdt tt_X11_plain 17 rfl) ?_
    refine g_iload_n hC rfl 1 rfl (rfl : 34 + 1 = 35) (xdt tt_X11_plain 18 rfl) ?_
    refine g_icmp_gt hC (show ((35 : Nat) : Int) + 21 = ((56 : Nat) : Int) by decide) (rfl : 35 + 3 = 38) (xdt tt_X11_plain 19 rfl) (fun hc7 => ?_) (fun hc7 => ?_)
    · replace h := (if_pos hc7).symm.trans h
      refine g_iload_n hC rfl 2 rfl (rfl : 56 + 1 = 57) (xdt tt_X11_plain 28 rfl) ?_
      cases h
      exact g_iretX hC hE rfl (xdt tt_X11_plain 29 rfl)
    · replace h := (if_neg hc7).symm.trans h
      refine g_aload_n hC rfl 0 rfl (rfl : 38 + 1 = 39) (xdt tt_X11_plain 20 rfl) ?_
      refine g_getP hC hk0 kclX11 ly3_0 11 (by decide) (rfl : r0 + 0 = r0) rfl q41 (rfl : 39 + 3 = 42) (xdt tt_X11_plain 21 rfl) ?_
      refine g_aload_n hC rfl 0 rfl (rfl : 42 + 1 = 43) (xdt tt_X11_plain 22 rfl) ?_
      obtain ⟨rg3, hrg3, grg3, h⟩ := ckP_i h
      refine g_getV hC hk0 kclX11 ly3_0 4 (by decide) rfl hrg3 grg3 (by decide) q26 (rfl : 43 + 3 = 46) (xdt tt_X11_plain 23 rfl) (fun krg3 => ?_)
      obtain ⟨v6, S5, hc4, h⟩ := bd2_i h
      refine g_callVi hC hZ hk0 kclX4 ly3_10 m_X4_next q915 (Nat.le_of_ble_eq_true rfl) [vr E rg3 0] rfl (fun l => c_X4_next_p3_10_2_0 l hk0 hA0 krg3 hc4) rfl (Nat.le_of_ble_eq_true rfl) (rfl : 46 + 3 = 49) (xdt tt_X11_plain 24 rfl) ?_
      refine g_istore_n hC rfl (by decide) (lv' := [(2, vi v6), (0, vr E r0 0), (1, vi x1), (3, vi x3)]) rfl (rfl : 49 + 1 = 50) (xdt tt_X11_plain 25 rfl) ?_
      refine g_iinc hC 3 rfl (by decide) (lv' := [(3, vi (x3 + 1)), (2, vi v6), (0, vr E r0 0), (1, vi x1)]) rfl (rfl : 50 + 3 = 53) (xdt tt_X11_plain 26 rfl) ?_
      refine g_goto hC (show ((53 : Nat) : Int) + (-20) = ((33 : Nat) : Int) by decide) (xdt tt_X11_plain 27 rfl) ?_
      refine g_sub [2, 3, 1, 0] (lv' := [(0, vr E r0 0), (1, vi x1), (2, vi v6), (3, vi (x3 + 1))]) rfl ?_
      exact ih _ _ _ _ h
set_option maxRecDepth 100000 in
set_option maxHeartbeats 4000000 in
theorem c_X11_plain_p3_0 (l : Launch) (htr : l.stackTraces = false) {E : xE} {S S' : xSt} {r0 : Nat} {a1 : Int} (hk0 : xkd E r0 = 3) (hA0 : xFam E r0) {x : Int ⊕ Nat} (h : f_X11_plain_p3_0 S r0 a1 = some (x, S')) : vx_Met l yX11_plain (xws yX11_plain cX11_plain 4 (some .int)) (rmE 6 1) (YPc E [vr E r0 0, vi a1] S) (YXi E x S') (YXC E x S') 1 6 (xA E) := by
  unfold f_X11_plain_p3_0 at h
  refine metX_i htr (by decide +kernel) (Nat.le_of_ble_eq_true rfl) (fun K hC hE => ?_)
  have hZ := xZX hE
  have hC : xOK K cX11_plain RX11 4 (rmE 6 1) := hC
  show WG K E 0 [(0, vr E r0 0), (1, vi a1)] [] S
  refine g_iload_n hC rfl 1 rfl (rfl : 0 + 1 = 1) (xdt tt_X11_plain 0 rfl) ?_
  refine g_if_lt hC (show ((1 : Nat) : Int) + 10 = ((11 : Nat) : Int) by decide) (rfl : 1 + 3 = 4) (xdt tt_X11_plain 1 rfl) (fun hc9 => ?_) (fun hc9 => ?_)
  · replace h := (if_pos hc9).symm.trans h
    cases h
    exact g_throwW hC hE rfl (q := 30) rfl rfl fit2 q787 q788 at_202 (Nat.le_of_ble_eq_true rfl) (Nat.le_of_ble_eq_true rfl) (xdt tt_X11_plain 5 rfl) (xdt tt_X11_plain 6 rfl) (xdt tt_X11_plain 7 rfl) (xdt tt_X11_plain 8 rfl) (xdt tt_X11_plain 9 rfl)
  · replace h := (if_neg hc9).symm.trans h
    refine g_iload_n hC rfl 1 rfl (rfl : 4 + 1 = 5) (xdt tt_X11_plain 2 rfl) ?_
    refine g_sipush hC (by decide) (rfl : 5 + 3 = 8) (xdt tt_X11_plain 3 rfl) ?_
    refine g_icmp_le hC (show ((8 : Nat) : Int) + 14 = ((22 : Nat) : Int) by decide) (rfl : 8 + 3 = 11) (xdt tt_X11_plain 4 rfl) (fun hc8 => ?_) (fun hc8 => ?_)
    · replace h := (if_pos hc8).symm.trans h
      refine g_aload_n hC rfl 0 rfl (rfl : 22 + 1 = 23) (xdt tt_X11_plain 10 rfl) ?_
      refine g_getP hC hk0 kclX11 ly3_0 11 (by decide) (rfl : r0 + 0 = r0) rfl q41 (rfl : 23 + 3 = 26) (xdt tt_X11_plain 11 rfl) ?_
      obtain ⟨S2, hc1, h⟩ := bd_i h
      refine g_callVv hC hZ hk0 kclX4 ly3_10 m_X4_begin q914 (Nat.le_of_ble_eq_true rfl) [] rfl (fun l => c_X4_begin_p3_10 l hk0 hA0 hc1) rfl (Nat.le_of_ble_eq_true rfl) (rfl : 26 + 3 = 29) (xdt tt_X11_plain 12 rfl) ?_
      refine g_iconst hC (rfl : 29 + 1 = 30) (xdt tt_X11_plain 13 rfl) ?_
      refine g_istore_n hC rfl (by decide) (lv' := [(2, vi (-1)), (0, vr E r0 0), (1, vi a1)]) rfl (rfl : 30 + 1 = 31) (xdt tt_X11_plain 14 rfl) ?_
      refine g_iconst hC (rfl : 31 + 1 = 32) (xdt tt_X11_plain 15 rfl) ?_
      refine g_istore_n hC rfl (by decide) (lv' := [(3, vi 0), (2, vi (-1)), (0, vr E r0 0), (1, vi a1)]) rfl (rfl : 32 + 1 = 33) (xdt tt_X11_plain 16 rfl) ?_
      refine g_sub [2, 3, 1, 0] (lv' := [(0, vr E r0 0), (1, vi a1), (2, vi (-1)), (3, vi 0)]) rfl ?_
      exact k_X11_plain_p3_0_b33 hC hZ hE hk0 hA0 _ _ _ _ _ h
    · replace h := (if_neg hc8).symm.trans h
      cases h
      exact g_throwW hC hE rfl (q := 30) rfl rfl fit2 q787 q788 at_202 (Nat.le_of_ble_eq_true rfl) (Nat.le_of_ble_eq_true rfl) (xdt tt_X11_plain 5 rfl) (xdt tt_X11_plain 6 rfl) (xdt tt_X11_plain 7 rfl) (xdt tt_X11_plain 8 rfl) (xdt tt_X11_plain 9 rfl)
def f_X11_times_p3_0 (S : xSt) (r0 : Nat) (a1 : Int) : Option ((Int ⊕ Nat) × xSt) :=
  if wr a1 < 0 then
    (some (Sum.inr 1, S))
  else
    (ckP S r0 0 4 2 0 fun rg1 =>
    if wr a1 < wr (gI S rg1 0 10) then
      (ckI a1 60 <|
      some (Sum.inl (gI S (r0 + 1) 17 (wr a1).toNat), S))
    else
      (some (Sum.inr 1, S)))
set_option maxRecDepth 100000 in
set_option maxHeartbeats 4000000 in
theorem c_X11_times_p3_0 (l : Launch) (htr : l.stackTraces = false) {E : xE} {S S' : xSt} {r0 : Nat} {a1 : Int} (hk0 : xkd E r0 = 3) (hA0 : xFam E r0) {x : Int ⊕ Nat} (h : f_X11_times_p3_0 S r0 a1 = some (x, S')) : vx_Met l yX11_times (xws yX11_times cX11_times 2 (some .int)) (rmE 6 1) (YPc E [vr E r0 0, vi a1] S) (YXi E x S') (YXC E x S') 1 6 (xA E) := by
  unfold f_X11_times_p3_0 at h
  refine metX_i htr (by decide +kernel) (Nat.le_of_ble_eq_true rfl) (fun K hC hE => ?_)
  have hZ := xZX hE
  have hC : xOK K cX11_times RX11 2 (rmE 6 1) := hC
  show WG K E 0 [(0, vr E r0 0), (1, vi a1)] [] S
  refine g_iload_n hC rfl 1 rfl (rfl : 0 + 1 = 1) (xdt tt_X11_times 0 rfl) ?_
  refine g_if_lt hC (show ((1 : Nat) : Int) + 14 = ((15 : Nat) : Int) by decide) (rfl : 1 + 3 = 4) (xdt tt_X11_times 1 rfl) (fun hc4 => ?_) (fun hc4 => ?_)
  · replace h := (if_pos hc4).symm.trans h
    cases h
    exact g_throwS hC hE rfl (q := 22) rfl rfl fit1 q623 q624 at_148 (Nat.le_of_ble_eq_true rfl) (Nat.le_of_ble_eq_true rfl) (xdt tt_X11_times 7 rfl) (xdt tt_X11_times 8 rfl) (xdt tt_X11_times 9 rfl) (xdt tt_X11_times 10 rfl) (xdt tt_X11_times 11 rfl)
  · replace h := (if_neg hc4).symm.trans h
    refine g_iload_n hC rfl 1 rfl (rfl : 4 + 1 = 5) (xdt tt_X11_times 2 rfl) ?_
    refine g_aload_n hC rfl 0 rfl (rfl : 5 + 1 = 6) (xdt tt_X11_times 3 rfl) ?_
    obtain ⟨rg1, hrg1, grg1, h⟩ := ckP_i h
    refine g_getV hC hk0 kclX11 ly3_0 4 (by decide) rfl hrg1 grg1 (by decide) q26 (rfl : 6 + 3 = 9) (xdt tt_X11_times 4 rfl) (fun krg1 => ?_)
    refine g_getI hC krg1 kclX5 ly2_0 10 (by decide) rfl q277 (rfl : 9 + 3 = 12) (xdt tt_X11_times 5 rfl) ?_
    refine g_icmp_lt hC (show ((12 : Nat) : Int) + 13 = ((25 : Nat) : Int) by decide) (rfl : 12 + 3 = 15) (xdt tt_X11_times 6 rfl) (fun hc3 => ?_) (fun hc3 => ?_)
    · replace h := (if_pos hc3).symm.trans h
      refine g_aload_n hC rfl 0 rfl (rfl : 25 + 1 = 26) (xdt tt_X11_times 12 rfl) ?_
      refine g_getP hC hk0 kclX11 ly3_0 6 (by decide) (rfl : r0 + 1 = (r0 + 1)) rfl q31 (rfl : 26 + 3 = 29) (xdt tt_X11_times 13 rfl) ?_
      refine g_getP hC (hA0 1 (by decide) (by decide)) kclX0 ly1_0 7 (by decide) (rfl : (r0 + 1) + 0 = (r0 + 1)) rfl q590 (rfl : 29 + 3 = 32) (xdt tt_X11_times 14 rfl) ?_
      refine g_getP hC (hA0 1 (by decide) (by decide)) kclX9 ly1_14 2 (by decide) (rfl : (r0 + 1) + 0 = (r0 + 1)) rfl q789 (rfl : 32 + 3 = 35) (xdt tt_X11_times 15 rfl) ?_
      refine g_iload_n hC rfl 1 rfl (rfl : 35 + 1 = 36) (xdt tt_X11_times 16 rfl) ?_
      obtain ⟨hi2, h⟩ := ckI_i h
      refine g_iald hC (hA0 1 (by decide) (by decide)) ly1_17 hi2 (rfl : 36 + 1 = 37) (xdt tt_X11_times 17 rfl) (k0 := (wr a1).toNat) rfl ?_
      cases h
      exact g_iretX hC hE rfl (xdt tt_X11_times 18 rfl)
    · replace h := (if_neg hc3).symm.trans h
      cases h
      exact g_throwS hC hE rfl (q := 22) rfl rfl fit1 q623 q624 at_148 (Nat.le_of_ble_eq_true rfl) (Nat.le_of_ble_eq_true rfl) (xdt tt_X11_times 7 rfl) (xdt tt_X11_times 8 rfl) (xdt tt_X11_times 9 rfl) (xdt tt_X11_times 10 rfl) (xdt tt_X11_times 11 rfl)
def f_X11_run_p3_0 (S : xSt) (r0 : Nat) (a1 : Int) : Option ((Int ⊕ Nat) × xSt) :=
  if wr a1 < wr 1 then
    (some (Sum.inr 2, S))
  else
    (if wr a1 ≤ wr 500 then
      (bd (f_X1_remember_p3_8_1_0 S r0 (r0 + 1)) fun S2 =>
      bd2 (f_X0_decodeFor_p1_0 S2 (r0 + 1) a1) fun v5 S4 =>
      some (Sum.inl v5, S4))
    else
      (some (Sum.inr 2, S)))
set_option maxRecDepth 100000 in
set_option maxHeartbeats 4000000 in
theorem c_X11_run_p3_0 (l : Launch) (htr : l.stackTraces = false) {E : xE} {S S' : xSt} {r0 : Nat} {a1 : Int} (hk0 : xkd E r0 = 3) (hA0 : xFam E r0) {x : Int ⊕ Nat} (h : f_X11_run_p3_0 S r0 a1 = some (x, S')) : vx_Met l yX11_run (xws yX11_run cX11_run 2 (some .int)) (rmE 7 1) (YPc E [vr E r0 0, vi a1] S) (YXi E x S') (YXC E x S') 1 6 (xA E) := by
  unfold f_X11_run_p3_0 at h
  refine metX_i htr (by decide +kernel) (Nat.le_of_ble_eq_true rfl) (fun K hC hE => ?_)
  have hZ := xZX hE
  have hC : xOK K cX11_run RX11 2 (rmE 7 1) := hC
  show WG K E 0 [(0, vr E r0 0), (1, vi a1)] [] S
  refine g_iload_n hC rfl 1 rfl (rfl : 0 + 1 = 1) (xdt tt_X11_run 0 rfl) ?_
  refine g_iconst hC (rfl : 1 + 1 = 2) (xdt tt_X11_run 1 rfl) ?_
  refine g_icmp_lt hC (show ((2 : Nat) : Int) + 10 = ((12 : Nat) : Int) by decide) (rfl : 2 + 3 = 5) (xdt tt_X11_run 2 rfl) (fun hc7 => ?_) (fun hc7 => ?_)
  · replace h := (if_pos hc7).symm.trans h
    cases h
    exact g_throwW hC hE rfl (q := 31) rfl rfl fit2 q787 q788 at_202 (Nat.le_of_ble_eq_true rfl) (Nat.le_of_ble_eq_true rfl) (xdt tt_X11_run 6 rfl) (xdt tt_X11_run 7 rfl) (xdt tt_X11_run 8 rfl) (xdt tt_X11_run 9 rfl) (xdt tt_X11_run 10 rfl)
  · replace h := (if_neg hc7).symm.trans h
    refine g_iload_n hC rfl 1 rfl (rfl : 5 + 1 = 6) (xdt tt_X11_run 3 rfl) ?_
    refine g_sipush hC (by decide) (rfl : 6 + 3 = 9) (xdt tt_X11_run 4 rfl) ?_
    refine g_icmp_le hC (show ((9 : Nat) : Int) + 14 = ((23 : Nat) : Int) by decide) (rfl : 9 + 3 = 12) (xdt tt_X11_run 5 rfl) (fun hc6 => ?_) (fun hc6 => ?_)
    · replace h := (if_pos hc6).symm.trans h
      refine g_aload_n hC rfl 0 rfl (rfl : 23 + 1 = 24) (xdt tt_X11_run 11 rfl) ?_
      refine g_getP hC hk0 kclX11 ly3_0 10 (by decide) (rfl : r0 + 0 = r0) rfl q37 (rfl : 24 + 3 = 27) (xdt tt_X11_run 12 rfl) ?_
      refine g_aload_n hC rfl 0 rfl (rfl : 27 + 1 = 28) (xdt tt_X11_run 13 rfl) ?_
      refine g_getP hC hk0 kclX11 ly3_0 6 (by decide) (rfl : r0 + 1 = (r0 + 1)) rfl q31 (rfl : 28 + 3 = 31) (xdt tt_X11_run 14 rfl) ?_
      obtain ⟨S2, hc1, h⟩ := bd_i h
      refine g_callVv hC hZ hk0 kclX1 ly3_8 m_X1_remember q986 (Nat.le_of_ble_eq_true rfl) [vr E (r0 + 1) 0] rfl (fun l => c_X1_remember_p3_8_1_0 l hk0 hA0 (hA0 1 (by decide) (by decide)) hc1) rfl (Nat.le_of_ble_eq_true rfl) (rfl : 31 + 3 = 34) (xdt tt_X11_run 15 rfl) ?_
      refine g_aload_n hC rfl 0 rfl (rfl : 34 + 1 = 35) (xdt tt_X11_run 16 rfl) ?_
      refine g_getP hC hk0 kclX11 ly3_0 6 (by decide) (rfl : r0 + 1 = (r0 + 1)) rfl q31 (rfl : 35 + 3 = 38) (xdt tt_X11_run 17 rfl) ?_
      refine g_iload_n hC rfl 1 rfl (rfl : 38 + 1 = 39) (xdt tt_X11_run 18 rfl) ?_
      obtain ⟨v5, S4, hc3, h⟩ := bd2_i h
      refine g_callVi hC hZ (hA0 1 (by decide) (by decide)) kclX0 ly1_0 m_X0_decodeFor q1025 (Nat.le_of_ble_eq_true rfl) [vi a1] rfl (fun l => c_X0_decodeFor_p1_0 l (hA0 1 (by decide) (by decide)) hc3) rfl (Nat.le_of_ble_eq_true rfl) (rfl : 39 + 3 = 42) (xdt tt_X11_run 19 rfl) ?_
      cases h
      exact g_iretX hC hE rfl (xdt tt_X11_run 20 rfl)
    · replace h := (if_neg hc6).symm.trans h
      cases h
      exact g_throwW hC hE rfl (q := 31) rfl rfl fit2 q787 q788 at_202 (Nat.le_of_ble_eq_true rfl) (Nat.le_of_ble_eq_true rfl) (xdt tt_X11_run 6 rfl) (xdt tt_X11_run 7 rfl) (xdt tt_X11_run 8 rfl) (xdt tt_X11_run 9 rfl) (xdt tt_X11_run 10 rfl)
def f_X11_runTo_p3_0_b35 (r0 : Nat) : Nat → xSt → Int → Int → Option ((Int ⊕ Nat) × xSt)
  | 0, _, _, _ => none
  | fuel + 1, S, x1, x2 =>
    if wr 500 ≤ wr x2 then
      (some (Sum.inl x2, S))
    else
      (if wr x1 ≤ wr (gI S (r0 + 1) 15 1) then
        (some (Sum.inl x2, S))
      else
        (bd (f_X0_passCycle_p1_0 S (r0 + 1)) fun S4 =>
        (f_X11_runTo_p3_0_b35 r0 fuel) S4 x1 (x2 + 1)))
def f_X11_runTo_p3_0 (S : xSt) (r0 : Nat) (a1 : Int) : Option ((Int ⊕ Nat) × xSt) :=
  if wr a1 < 0 then
    (some (Sum.inr 2, S))
  else
    (if wr a1 ≤ wr 9999 then
      (bd (f_X1_remember_p3_8_1_0 S r0 (r0 + 1)) fun S2 =>
      f_X11_runTo_p3_0_b35 r0 (fu S2) S2 a1 0)
    else
      (some (Sum.inr 2, S)))
set_option maxRecDepth 100000 in
set_option maxHeartbeats 4000000 in
theorem k_X11_runTo_p3_0_b35 {K : xCtx} {E : xE} (hC : xOK K cX11_runTo RX11 3 (rmE 6 1)) (hZ : xZ K) {x : Int ⊕ Nat} {S' : xSt} (hE : xEndX K E (some .int) (YXi E x S') (YXC E x S')) {r0 : Nat} (hk0 : xkd E r0 = 3) (hA0 : xFam E r0) : ∀ (fuel : Nat) (S : xSt) (x1 : Int) (x2 : Int), f_X11_runTo_p3_0_b35 r0 fuel S x1 x2 = some (x, S') → WG K E 35 [(0, vr E r0 0), (1, vi x1), (2, vi x2)] [] S := by
  intro fuel
  induction fuel with
  | zero => intro S x1 x2 h; cases h
  | succ fuel ih =>
    intro S x1 x2 h
    rw [f_X11_runTo_p3_0_b35] at h
    refine g_iload_n hC rfl 2 rfl (rfl : 35 + 1 = 36) (xdt tt_X11_runTo 17 rfl) ?_
    refine g_sipush hC (by decide) (rfl : 36 + 3 = 39) (xdt tt_X11_runTo 18 rfl) ?_
    refine g_icmp_ge hC (show ((39 : Nat) : Int) + 32 = ((71 : Nat) : Int) by decide) (rfl : 39 + 3 = 42) (xdt tt_X11_runTo 19 rfl) (fun hc6 => ?_) (fun hc6 => ?_)
    · replace h := (if_pos hc6).symm.trans h
      refine g_iload_n hC rfl 2 rfl (rfl : 71 + 1 = 72) (xdt tt_X11_runTo 33 rfl) ?_
      cases h
      exact g_iretX hC hE rfl (xdt tt_X11_runTo 34 rfl)
    · replace h := (if_neg hc6).symm.trans h
      refine g_aload_n hC rfl 0 rfl (rfl : 42 + 1 = 43) (xdt tt_X11_runTo 20 rfl) ?_
      refine g_getP hC hk0 kclX11 ly3_0 6 (by decide) (rfl : r0 + 1 = (r0 + 1)) rfl q31 (rfl : 43 + 3 = 46) (xdt tt_X11_runTo 21 rfl) ?_
      refine g_getP hC (hA0 1 (by decide) (by decide)) kclX0 ly1_0 7 (by decide) (rfl : (r0 + 1) + 0 = (r0 + 1)) rfl q590 (rfl : 46 + 3 = 49) (xdt tt_X11_runTo 22 rfl) ?_
      refine g_getP hC (hA0 1 (by decide) (by decide)) kclX9 ly1_14 0 (by decide) (rfl : (r0 + 1) + 0 = (r0 + 1)) rfl q591 (rfl : 49 + 3 = 52) (xdt tt_X11_runTo 23 rfl) ?_
      refine g_iconst hC (rfl : 52 + 1 = 53) (xdt tt_X11_runTo 24 rfl) ?_
      refine g_iald hC (hA0 1 (by decide) (by decide)) ly1_15 (by decide) (rfl : 53 + 1 = 54) (xdt tt_X11_runTo 25 rfl) (k0 := 1) (by decide) ?_
      refine g_iload_n hC rfl 1 rfl (rfl : 54 + 1 = 55) (xdt tt_X11_runTo 26 rfl) ?_
      refine g_icmp_ge hC (show ((55 : Nat) : Int) + 16 = ((71 : Nat) : Int) by decide) (rfl : 55 + 3 = 58) (xdt tt_X11_runTo 27 rfl) (fun hc5 => ?_) (fun hc5 => ?_)
      · replace h := (if_pos hc5).symm.trans h
        refine g_iload_n hC rfl 2 rfl (rfl : 71 + 1 = 72) (xdt tt_X11_runTo 33 rfl) ?_
        cases h
        exact g_iretX hC hE rfl (xdt tt_X11_runTo 34 rfl)
      · replace h := (if_neg hc5).symm.trans h
        refine g_aload_n hC rfl 0 rfl (rfl : 58 + 1 = 59) (xdt tt_X11_runTo 28 rfl) ?_
        refine g_getP hC hk0 kclX11 ly3_0 6 (by decide) (rfl : r0 + 1 = (r0 + 1)) rfl q31 (rfl : 59 + 3 = 62) (xdt tt_X11_runTo 29 rfl) ?_
        obtain ⟨S4, hc3, h⟩ := bd_i h
        refine g_callVv hC hZ (hA0 1 (by decide) (by decide)) kclX0 ly1_0 m_X0_passCycle q1241 (Nat.le_of_ble_eq_true rfl) [] rfl (fun l => c_X0_passCycle_p1_0 l (hA0 1 (by decide) (by decide)) hc3) rfl (Nat.le_of_ble_eq_true rfl) (rfl : 62 + 3 = 65) (xdt tt_X11_runTo 30 rfl) ?_
        refine g_iinc hC 2 rfl (by decide) (lv' := [(2, vi (x2 + 1)), (0, vr E r0 0), (1, vi x1)]) rfl (rfl : 65 + 3 = 68) (xdt tt_X11_runTo 31 rfl) ?_
        refine g_goto hC (show ((68 : Nat) : Int) + (-33) = ((35 : Nat) : Int) by decide) (xdt tt_X11_runTo 32 rfl) ?_
        refine g_sub [1, 2, 0] (lv' := [(0, vr E r0 0), (1, vi x1), (2, vi (x2 + 1))]) rfl ?_
        exact ih _ _ _ h
set_option maxRecDepth 100000 in
set_option maxHeartbeats 4000000 in
theorem c_X11_runTo_p3_0 (l : Launch) (htr : l.stackTraces = false) {E : xE} {S S' : xSt} {r0 : Nat} {a1 : Int} (hk0 : xkd E r0 = 3) (hA0 : xFam E r0) {x : Int ⊕ Nat} (h : f_X11_runTo_p3_0 S r0 a1 = some (x, S')) : vx_Met l yX11_runTo (xws yX11_runTo cX11_runTo 3 (some .int)) (rmE 6 1) (YPc E [vr E r0 0, vi a1] S) (YXi E x S') (YXC E x S') 1 6 (xA E) := by
  unfold f_X11_runTo_p3_0 at h
  refine metX_i htr (by decide +kernel) (Nat.le_of_ble_eq_true rfl) (fun K hC hE => ?_)
  have hZ := xZX hE
  have hC : xOK K cX11_runTo RX11 3 (rmE 6 1) := hC
  show WG K E 0 [(0, vr E r0 0), (1, vi a1)] [] S
  refine g_iload_n hC rfl 1 rfl (rfl : 0 + 1 = 1) (xdt tt_X11_runTo 0 rfl) ?_
  refine g_if_lt hC (show ((1 : Nat) : Int) + 10 = ((11 : Nat) : Int) by decide) (rfl : 1 + 3 = 4) (xdt tt_X11_runTo 1 rfl) (fun hc8 => ?_) (fun hc8 => ?_)
  · replace h := (if_pos hc8).symm.trans h
    cases h
    exact g_throwW hC hE rfl (q := 32) rfl rfl fit2 q787 q788 at_202 (Nat.le_of_ble_eq_true rfl) (Nat.le_of_ble_eq_true rfl) (xdt tt_X11_runTo 5 rfl) (xdt tt_X11_runTo 6 rfl) (xdt tt_X11_runTo 7 rfl) (xdt tt_X11_runTo 8 rfl) (xdt tt_X11_runTo 9 rfl)
  · replace h := (if_neg hc8).symm.trans h
    refine g_iload_n hC rfl 1 rfl (rfl : 4 + 1 = 5) (xdt tt_X11_runTo 2 rfl) ?_
    refine g_sipush hC (by decide) (rfl : 5 + 3 = 8) (xdt tt_X11_runTo 3 rfl) ?_
    refine g_icmp_le hC (show ((8 : Nat) : Int) + 14 = ((22 : Nat) : Int) by decide) (rfl : 8 + 3 = 11) (xdt tt_X11_runTo 4 rfl) (fun hc7 => ?_) (fun hc7 => ?_)
    · replace h := (if_pos hc7).symm.trans h
      refine g_aload_n hC rfl 0 rfl (rfl : 22 + 1 = 23) (xdt tt_X11_runTo 10 rfl) ?_
      refine g_getP hC hk0 kclX11 ly3_0 10 (by decide) (rfl : r0 + 0 = r0) rfl q37 (rfl : 23 + 3 = 26) (xdt tt_X11_runTo 11 rfl) ?_
      refine g_aload_n hC rfl 0 rfl (rfl : 26 + 1 = 27) (xdt tt_X11_runTo 12 rfl) ?_
      refine g_getP hC hk0 kclX11 ly3_0 6 (by decide) (rfl : r0 + 1 = (r0 + 1)) rfl q31 (rfl : 27 + 3 = 30) (xdt tt_X11_runTo 13 rfl) ?_
      obtain ⟨S2, hc1, h⟩ := bd_i h
      refine g_callVv hC hZ hk0 kclX1 ly3_8 m_X1_remember q986 (Nat.le_of_ble_eq_true rfl) [vr E (r0 + 1) 0] rfl (fun l => c_X1_remember_p3_8_1_0 l hk0 hA0 (hA0 1 (by decide) (by decide)) hc1) rfl (Nat.le_of_ble_eq_true rfl) (rfl : 30 + 3 = 33) (xdt tt_X11_runTo 14 rfl) ?_
      refine g_iconst hC (rfl : 33 + 1 = 34) (xdt tt_X11_runTo 15 rfl) ?_
      refine g_istore_n hC rfl (by decide) (lv' := [(2, vi 0), (0, vr E r0 0), (1, vi a1)]) rfl (rfl : 34 + 1 = 35) (xdt tt_X11_runTo 16 rfl) ?_
      refine g_sub [1, 2, 0] (lv' := [(0, vr E r0 0), (1, vi a1), (2, vi 0)]) rfl ?_
      exact k_X11_runTo_p3_0_b35 hC hZ hE hk0 hA0 _ _ _ _ h
    · replace h := (if_neg hc7).symm.trans h
      cases h
      exact g_throwW hC hE rfl (q := 32) rfl rfl fit2 q787 q788 at_202 (Nat.le_of_ble_eq_true rfl) (Nat.le_of_ble_eq_true rfl) (xdt tt_X11_runTo 5 rfl) (xdt tt_X11_runTo 6 rfl) (xdt tt_X11_runTo 7 rfl) (xdt tt_X11_runTo 8 rfl) (xdt tt_X11_runTo 9 rfl)
def f_X11_stall_p3_0 (S : xSt) (r0 : Nat) (a1 : Int) : Option ((Int ⊕ Nat) × xSt) :=
  if wr a1 < 0 then
    (some (Sum.inr 2, S))
  else
    (if wr a1 ≤ wr 99 then
      (bd (f_X1_remember_p3_8_1_0 S r0 (r0 + 1)) fun S2 =>
      lt1 (wI S2 (r0 + 1) 0 17 a1) fun S3 =>
      some (Sum.inl (gI S2 (r0 + 1) 0 17), S3))
    else
      (some (Sum.inr 2, S)))
set_option maxRecDepth 100000 in
set_option maxHeartbeats 4000000 in
theorem c_X11_stall_p3_0 (l : Launch) (htr : l.stackTraces = false) {E : xE} {S S' : xSt} {r0 : Nat} {a1 : Int} (hk0 : xkd E r0 = 3) (hA0 : xFam E r0) {x : Int ⊕ Nat} (h : f_X11_stall_p3_0 S r0 a1 = some (x, S')) : vx_Met l yX11_stall (xws yX11_stall cX11_stall 3 (some .int)) (rmE 6 1) (YPc E [vr E r0 0, vi a1] S) (YXi E x S') (YXC E x S') 1 6 (xA E) := by
  unfold f_X11_stall_p3_0 at h
  refine metX_i htr (by decide +kernel) (Nat.le_of_ble_eq_true rfl) (fun K hC hE => ?_)
  have hZ := xZX hE
  have hC : xOK K cX11_stall RX11 3 (rmE 6 1) := hC
  show WG K E 0 [(0, vr E r0 0), (1, vi a1)] [] S
  refine g_iload_n hC rfl 1 rfl (rfl : 0 + 1 = 1) (xdt tt_X11_stall 0 rfl) ?_
  refine g_if_lt hC (show ((1 : Nat) : Int) + 9 = ((10 : Nat) : Int) by decide) (rfl : 1 + 3 = 4) (xdt tt_X11_stall 1 rfl) (fun hc5 => ?_) (fun hc5 => ?_)
  · replace h := (if_pos hc5).symm.trans h
    cases h
    exact g_throwW hC hE rfl (q := 31) rfl rfl fit2 q787 q788 at_202 (Nat.le_of_ble_eq_true rfl) (Nat.le_of_ble_eq_true rfl) (xdt tt_X11_stall 5 rfl) (xdt tt_X11_stall 6 rfl) (xdt tt_X11_stall 7 rfl) (xdt tt_X11_stall 8 rfl) (xdt tt_X11_stall 9 rfl)
  · replace h := (if_neg hc5).symm.trans h
    refine g_iload_n hC rfl 1 rfl (rfl : 4 + 1 = 5) (xdt tt_X11_stall 2 rfl) ?_
    refine g_bipush hC (by decide) (rfl : 5 + 2 = 7) (xdt tt_X11_stall 3 rfl) ?_
    refine g_icmp_le hC (show ((7 : Nat) : Int) + 14 = ((21 : Nat) : Int) by decide) (rfl : 7 + 3 = 10) (xdt tt_X11_stall 4 rfl) (fun hc4 => ?_) (fun hc4 => ?_)
    · replace h := (if_pos hc4).symm.trans h
      refine g_aload_n hC rfl 0 rfl (rfl : 21 + 1 = 22) (xdt tt_X11_stall 10 rfl) ?_
      refine g_getP hC hk0 kclX11 ly3_0 10 (by decide) (rfl : r0 + 0 = r0) rfl q37 (rfl : 22 + 3 = 25) (xdt tt_X11_stall 11 rfl) ?_
      refine g_aload_n hC rfl 0 rfl (rfl : 25 + 1 = 26) (xdt tt_X11_stall 12 rfl) ?_
      refine g_getP hC hk0 kclX11 ly3_0 6 (by decide) (rfl : r0 + 1 = (r0 + 1)) rfl q31 (rfl : 26 + 3 = 29) (xdt tt_X11_stall 13 rfl) ?_
      obtain ⟨S2, hc1, h⟩ := bd_i h
      refine g_callVv hC hZ hk0 kclX1 ly3_8 m_X1_remember q986 (Nat.le_of_ble_eq_true rfl) [vr E (r0 + 1) 0] rfl (fun l => c_X1_remember_p3_8_1_0 l hk0 hA0 (hA0 1 (by decide) (by decide)) hc1) rfl (Nat.le_of_ble_eq_true rfl) (rfl : 29 + 3 = 32) (xdt tt_X11_stall 14 rfl) ?_
      refine g_aload_n hC rfl 0 rfl (rfl : 32 + 1 = 33) (xdt tt_X11_stall 15 rfl) ?_
      refine g_getP hC hk0 kclX11 ly3_0 6 (by decide) (rfl : r0 + 1 = (r0 + 1)) rfl q31 (rfl : 33 + 3 = 36) (xdt tt_X11_stall 16 rfl) ?_
      refine g_getI hC (hA0 1 (by decide) (by decide)) kclX0 ly1_0 17 (by decide) rfl q600 (rfl : 36 + 3 = 39) (xdt tt_X11_stall 17 rfl) ?_
      refine g_istore_n hC rfl (by decide) (lv' := [(2, vi (gI S2 (r0 + 1) 0 17)), (0, vr E r0 0), (1, vi a1)]) rfl (rfl : 39 + 1 = 40) (xdt tt_X11_stall 18 rfl) ?_
      refine g_aload_n hC rfl 1 rfl (rfl : 40 + 1 = 41) (xdt tt_X11_stall 19 rfl) ?_
      refine g_getP hC hk0 kclX11 ly3_0 6 (by decide) (rfl : r0 + 1 = (r0 + 1)) rfl q31 (rfl : 41 + 3 = 44) (xdt tt_X11_stall 20 rfl) ?_
      refine g_iload_n hC rfl 2 rfl (rfl : 44 + 1 = 45) (xdt tt_X11_stall 21 rfl) ?_
      obtain ⟨S3, hS3, h⟩ := lt1_i h
      refine g_putI hC (hA0 1 (by decide) (by decide)) kclX0 ly1_0 17 (by decide) rfl rfl rfl q600 hS3 (rfl : 45 + 3 = 48) (xdt tt_X11_stall 22 rfl) ?_
      refine g_iload_n hC rfl 0 rfl (rfl : 48 + 1 = 49) (xdt tt_X11_stall 23 rfl) ?_
      cases h
      exact g_iretX hC hE rfl (xdt tt_X11_stall 24 rfl)
    · replace h := (if_neg hc4).symm.trans h
      cases h
      exact g_throwW hC hE rfl (q := 31) rfl rfl fit2 q787 q788 at_202 (Nat.le_of_ble_eq_true rfl) (Nat.le_of_ble_eq_true rfl) (xdt tt_X11_stall 5 rfl) (xdt tt_X11_stall 6 rfl) (xdt tt_X11_stall 7 rfl) (xdt tt_X11_stall 8 rfl) (xdt tt_X11_stall 9 rfl)
def f_X11_set_p3_0_b29 (r0 : Nat) (S : xSt) (x2 : Int) (x3 : Int) : Option ((Int ⊕ Nat) × xSt) :=
  bd2 (f_X11_isAllowed S x3 x2) fun v3 S2 =>
  if ¬ wr v3 = 0 then
    (bd (f_X1_remember_p3_8_1_0 S2 r0 (r0 + 1)) fun S6 =>
    ckI x3 6 <|
    ckI x3 6 <|
    lt1 (wI S6 (r0 + 1) 1 (wr x3).toNat x2) fun S9 =>
    some (Sum.inl (gI S6 (r0 + 1) 1 (wr x3).toNat), S9))
  else
    (some (Sum.inr 2, S2))
def f_X11_set_p3_0 (S : xSt) (r0 : Nat) (a1 : Int) (a2 : Int) : Option ((Int ⊕ Nat) × xSt) :=
  if wr (a1 - 2) = 0 then
    (f_X11_set_p3_0_b29 r0 S a2 (a1 - 2))
  else
    (if wr (a1 - 2) = wr 4 then
      (f_X11_set_p3_0_b29 r0 S a2 (a1 - 2))
    else
      (if wr (a1 - 2) = wr 5 then
        (f_X11_set_p3_0_b29 r0 S a2 (a1 - 2))
      else
        (some (Sum.inr 2, S))))
set_option maxRecDepth 100000 in
set_option maxHeartbeats 4000000 in
theorem k_X11_set_p3_0_b29 {K : xCtx} {E : xE} (hC : xOK K cX11_set RX11 5 (rmE 6 1)) (hZ : xZ K) {x : Int ⊕ Nat} {S' : xSt} (hE : xEndX K E (some .int) (YXi E x S') (YXC E x S')) {r0 : Nat} (hk0 : xkd E r0 = 3) (hA0 : xFam E r0) : ∀ (S : xSt) (x2 : Int) (x3 : Int), f_X11_set_p3_0_b29 r0 S x2 x3 = some (x, S') → WG K E 29 [(0, vr E r0 0), (2, vi x2), (3, vi x3)] [] S := by
  intro S x2 x3 h
  unfold f_X11_set_p3_0_b29 at h
  refine g_iload_n hC rfl 2 rfl (rfl : 29 + 1 = 30) (xdt tt_X11_set 17 rfl) ?_
  refine g_iload_n hC rfl 1 rfl (rfl : 30 + 1 = 31) (xdt tt_X11_set 18 rfl) ?_
  obtain ⟨v3, S2, hc1, h⟩ := bd2_i h
  refine g_callSz hC hZ m_X11_isAllowed q1268 (Nat.le_of_ble_eq_true rfl) [vi x3, vi x2] rfl (fun l => c_X11_isAllowed l hc1) rfl (Nat.le_of_ble_eq_true rfl) (rfl : 31 + 3 = 34) (xdt tt_X11_set 19 rfl) (fun hb4 => ?_)
  refine g_if_ne hC (show ((34 : Nat) : Int) + 14 = ((48 : Nat) : Int) by decide) (rfl : 34 + 3 = 37) (xdt tt_X11_set 20 rfl) (fun hc10 => ?_) (fun hc10 => ?_)
  · replace h := (if_pos hc10).symm.trans h
    refine g_aload_n hC rfl 0 rfl (rfl : 48 + 1 = 49) (xdt tt_X11_set 26 rfl) ?_
    refine g_getP hC hk0 kclX11 ly3_0 10 (by decide) (rfl : r0 + 0 = r0) rfl q37 (rfl : 49 + 3 = 52) (xdt tt_X11_set 27 rfl) ?_
    refine g_aload_n hC rfl 0 rfl (rfl : 52 + 1 = 53) (xdt tt_X11_set 28 rfl) ?_
    refine g_getP hC hk0 kclX11 ly3_0 6 (by decide) (rfl : r0 + 1 = (r0 + 1)) rfl q31 (rfl : 53 + 3 = 56) (xdt tt_X11_set 29 rfl) ?_
    obtain ⟨S6, hc5, h⟩ := bd_i h
    refine g_callVv hC hZ hk0 kclX1 ly3_8 m_X1_remember q986 (Nat.le_of_ble_eq_true rfl) [vr E (r0 + 1) 0] rfl (fun l => c_X1_remember_p3_8_1_0 l hk0 hA0 (hA0 1 (by decide) (by decide)) hc5) rfl (Nat.le_of_ble_eq_true rfl) (rfl : 56 + 3 = 59) (xdt tt_X11_set 30 rfl) ?_
    refine g_aload_n hC rfl 0 rfl (rfl : 59 + 1 = 60) (xdt tt_X11_set 31 rfl) ?_
    refine g_getP hC hk0 kclX11 ly3_0 6 (by decide) (rfl : r0 + 1 = (r0 + 1)) rfl q31 (rfl : 60 + 3 = 63) (xdt tt_X11_set 32 rfl) ?_
    refine g_getP hC (hA0 1 (by decide) (by decide)) kclX0 ly1_0 1 (by decide) (rfl : (r0 + 1) + 0 = (r0 + 1)) rfl q589 (rfl : 63 + 3 = 66) (xdt tt_X11_set 33 rfl) ?_
    refine g_iload_n hC rfl 2 rfl (rfl : 66 + 1 = 67) (xdt tt_X11_set 34 rfl) ?_
    obtain ⟨hi7, h⟩ := ckI_i h
    refine g_iald hC (hA0 1 (by decide) (by decide)) ly1_1 hi7 (rfl : 67 + 1 = 68) (xdt tt_X11_set 35 rfl) (k0 := (wr x3).toNat) rfl ?_
    refine g_istore hC (by decide) (lv' := [(4, vi (gI S6 (r0 + 1) 1 (wr x3).toNat)), (0, vr E r0 0), (2, vi x2), (3, vi x3)]) rfl (rfl : 68 + 2 = 70) (xdt tt_X11_set 36 rfl) ?_
    refine g_aload_n hC rfl 1 rfl (rfl : 70 + 1 = 71) (xdt tt_X11_set 37 rfl) ?_
    refine g_getP hC hk0 kclX11 ly3_0 6 (by decide) (rfl : r0 + 1 = (r0 + 1)) rfl q31 (rfl : 71 + 3 = 74) (xdt tt_X11_set 38 rfl) ?_
    refine g_getP hC (hA0 1 (by decide) (by decide)) kclX0 ly1_0 1 (by decide) (rfl : (r0 + 1) + 0 = (r0 + 1)) rfl q589 (rfl : 74 + 3 = 77) (xdt tt_X11_set 39 rfl) ?_
    refine g_iload_n hC rfl 3 rfl (rfl : 77 + 1 = 78) (xdt tt_X11_set 40 rfl) ?_
    refine g_iload_n hC rfl 2 rfl (rfl : 78 + 1 = 79) (xdt tt_X11_set 41 rfl) ?_
    obtain ⟨hi8, h⟩ := ckI_i h
    obtain ⟨S9, hS9, h⟩ := lt1_i h
    refine g_iast hC (hA0 1 (by decide) (by decide)) ly1_1 hi8 rfl hS9 (rfl : 79 + 1 = 80) (xdt tt_X11_set 42 rfl) ?_
    refine g_iload hC 0 rfl (rfl : 80 + 2 = 82) (xdt tt_X11_set 43 rfl) ?_
    cases h
    exact g_iretX hC hE rfl (xdt tt_X11_set 44 rfl)
  · replace h := (if_neg hc10).symm.trans h
    cases h
    exact g_throwW hC hE rfl (q := 34) rfl rfl fit2 q787 q788 at_202 (Nat.le_of_ble_eq_true rfl) (Nat.le_of_ble_eq_true rfl) (xdt tt_X11_set 21 rfl) (xdt tt_X11_set 22 rfl) (xdt tt_X11_set 23 rfl) (xdt tt_X11_set 24 rfl) (xdt tt_X11_set 25 rfl)
set_option maxRecDepth 100000 in
set_option maxHeartbeats 4000000 in
theorem c_X11_set_p3_0 (l : Launch) (htr : l.stackTraces = false) {E : xE} {S S' : xSt} {r0 : Nat} {a1 : Int} {a2 : Int} (hk0 : xkd E r0 = 3) (hA0 : xFam E r0) {x : Int ⊕ Nat} (h : f_X11_set_p3_0 S r0 a1 a2 = some (x, S')) : vx_Met l yX11_set (xws yX11_set cX11_set 5 (some .int)) (rmE 6 1) (YPc E [vr E r0 0, vi a1, vi a2] S) (YXi E x S') (YXC E x S') 1 6 (xA E) := by
  unfold f_X11_set_p3_0 at h
  refine metX_i htr (by decide +kernel) (Nat.le_of_ble_eq_true rfl) (fun K hC hE => ?_)
  have hZ := xZX hE
  have hC : xOK K cX11_set RX11 5 (rmE 6 1) := hC
  show WG K E 0 [(0, vr E r0 0), (1, vi a1), (2, vi a2)] [] S
  refine g_iload_n hC rfl 1 rfl (rfl : 0 + 1 = 1) (xdt tt_X11_set 0 rfl) ?_
  refine g_iconst hC (rfl : 1 + 1 = 2) (xdt tt_X11_set 1 rfl) ?_
  refine g_isub hC (rfl : 2 + 1 = 3) (xdt tt_X11_set 2 rfl) ?_
  refine g_istore_n hC rfl (by decide) (lv' := [(3, vi (a1 - 2)), (0, vr E r0 0), (1, vi a1), (2, vi a2)]) rfl (rfl : 3 + 1 = 4) (xdt tt_X11_set 3 rfl) ?_
  refine g_iload_n hC rfl 0 rfl (rfl : 4 + 1 = 5) (xdt tt_X11_set 4 rfl) ?_
  refine g_if_eq hC (show ((5 : Nat) : Int) + 24 = ((29 : Nat) : Int) by decide) (rfl : 5 + 3 = 8) (xdt tt_X11_set 5 rfl) (fun hc13 => ?_) (fun hc13 => ?_)
  · replace h := (if_pos hc13).symm.trans h
    refine g_sub [1, 3, 0] (lv' := [(0, vr E r0 0), (2, vi a2), (3, vi (a1 - 2))]) rfl ?_
    exact k_X11_set_p3_0_b29 hC hZ hE hk0 hA0 _ _ _ h
  · replace h := (if_neg hc13).symm.trans h
    refine g_iload_n hC rfl 0 rfl (rfl : 8 + 1 = 9) (xdt tt_X11_set 6 rfl) ?_
    refine g_iconst hC (rfl : 9 + 1 = 10) (xdt tt_X11_set 7 rfl) ?_
    refine g_icmp_eq hC (show ((10 : Nat) : Int) + 19 = ((29 : Nat) : Int) by decide) (rfl : 10 + 3 = 13) (xdt tt_X11_set 8 rfl) (fun hc12 => ?_) (fun hc12 => ?_)
    · replace h := (if_pos hc12).symm.trans h
      refine g_sub [1, 3, 0] (lv' := [(0, vr E r0 0), (2, vi a2), (3, vi (a1 - 2))]) rfl ?_
      exact k_X11_set_p3_0_b29 hC hZ hE hk0 hA0 _ _ _ h
    · replace h := (if_neg hc12).symm.trans h
      refine g_iload_n hC rfl 0 rfl (rfl : 13 + 1 = 14) (xdt tt_X11_set 9 rfl) ?_
      refine g_iconst hC (rfl : 14 + 1 = 15) (xdt tt_X11_set 10 rfl) ?_
      refine g_icmp_eq hC (show ((15 : Nat) : Int) + 14 = ((29 : Nat) : Int) by decide) (rfl : 15 + 3 = 18) (xdt tt_X11_set 11 rfl) (fun hc11 => ?_) (fun hc11 => ?_)
      · replace h := (if_pos hc11).symm.trans h
        refine g_sub [1, 3, 0] (lv' := [(0, vr E r0 0), (2, vi a2), (3, vi (a1 - 2))]) rfl ?_
        exact k_X11_set_p3_0_b29 hC hZ hE hk0 hA0 _ _ _ h
      · replace h := (if_neg hc11).symm.trans h
        cases h
        exact g_throwW hC hE rfl (q := 33) rfl rfl fit2 q787 q788 at_202 (Nat.le_of_ble_eq_true rfl) (Nat.le_of_ble_eq_true rfl) (xdt tt_X11_set 12 rfl) (xdt tt_X11_set 13 rfl) (xdt tt_X11_set 14 rfl) (xdt tt_X11_set 15 rfl) (xdt tt_X11_set 16 rfl)
def f_X11_addRule_p3_0 (S : xSt) (r0 : Nat) (a1 : Int) (a2 : Int) : Option ((Int ⊕ Nat) × xSt) :=
  bd2 (f_X11_isRule S a1 a2) fun v3 S2 =>
  if ¬ wr v3 = 0 then
    (bd2 (f_X8_has_p1_2 S2 (r0 + 1) a1 a2) fun v7 S6 =>
    if wr v7 = 0 then
      (if wr (gI S6 (r0 + 1) 2 2) < wr 6 then
        (bd (f_X1_remember_p3_8_1_0 S6 r0 (r0 + 1)) fun S10 =>
        bd (f_X8_append_p1_2 S10 (r0 + 1) a1 a2) fun S12 =>
        some (Sum.inl ((gI S12 (r0 + 1) 2 2) - 1), S12))
      else
        (some (Sum.inr 3, S6)))
    else
      (some (Sum.inr 3, S6)))
  else
    (some (Sum.inr 2, S2))
set_option maxRecDepth 100000 in
set_option maxHeartbeats 4000000 in
theorem c_X11_addRule_p3_0 (l : Launch) (htr : l.stackTraces = false) {E : xE} {S S' : xSt} {r0 : Nat} {a1 : Int} {a2 : Int} (hk0 : xkd E r0 = 3) (hA0 : xFam E r0) {x : Int ⊕ Nat} (h : f_X11_addRule_p3_0 S r0 a1 a2 = some (x, S')) : vx_Met l yX11_addRule (xws yX11_addRule cX11_addRule 3 (some .int)) (rmE 6 1) (YPc E [vr E r0 0, vi a1, vi a2] S) (YXi E x S') (YXC E x S') 1 6 (xA E) := by
  unfold f_X11_addRule_p3_0 at h
  refine metX_i htr (by decide +kernel) (Nat.le_of_ble_eq_true rfl) (fun K hC hE => ?_)
  have hZ := xZX hE
  have hC : xOK K cX11_addRule RX11 3 (rmE 6 1) := hC
  show WG K E 0 [(0, vr E r0 0), (1, vi a1), (2, vi a2)] [] S
  refine g_iload_n hC rfl 1 rfl (rfl : 0 + 1 = 1) (xdt tt_X11_addRule 0 rfl) ?_
  refine g_iload_n hC rfl 2 rfl (rfl : 1 + 1 = 2) (xdt tt_X11_addRule 1 rfl) ?_
  obtain ⟨v3, S2, hc1, h⟩ := bd2_i h
  refine g_callSz hC hZ m_X11_isRule q1288 (Nat.le_of_ble_eq_true rfl) [vi a1, vi a2] rfl (fun l => c_X11_isRule l hc1) rfl (Nat.le_of_ble_eq_true rfl) (rfl : 2 + 3 = 5) (xdt tt_X11_addRule 2 rfl) (fun hb4 => ?_)
  refine g_if_ne hC (show ((5 : Nat) : Int) + 14 = ((19 : Nat) : Int) by decide) (rfl : 5 + 3 = 8) (xdt tt_X11_addRule 3 rfl) (fun hc15 => ?_) (fun hc15 => ?_)
  · replace h := (if_pos hc15).symm.trans h
    refine g_aload_n hC rfl 0 rfl (rfl : 19 + 1 = 20) (xdt tt_X11_addRule 9 rfl) ?_
    refine g_getP hC hk0 kclX11 ly3_0 6 (by decide) (rfl : r0 + 1 = (r0 + 1)) rfl q31 (rfl : 20 + 3 = 23) (xdt tt_X11_addRule 10 rfl) ?_
    refine g_getP hC (hA0 1 (by decide) (by decide)) kclX0 ly1_0 2 (by decide) (rfl : (r0 + 1) + 0 = (r0 + 1)) rfl q592 (rfl : 23 + 3 = 26) (xdt tt_X11_addRule 11 rfl) ?_
    refine g_iload_n hC rfl 1 rfl (rfl : 26 + 1 = 27) (xdt tt_X11_addRule 12 rfl) ?_
    refine g_iload_n hC rfl 2 rfl (rfl : 27 + 1 = 28) (xdt tt_X11_addRule 13 rfl) ?_
    obtain ⟨v7, S6, hc5, h⟩ := bd2_i h
    refine g_callVz hC hZ (hA0 1 (by decide) (by decide)) kclX8 ly1_2 m_X8_has q1291 (Nat.le_of_ble_eq_true rfl) [vi a1, vi a2] rfl (fun l => c_X8_has_p1_2 l (hA0 1 (by decide) (by decide)) hc5) rfl (Nat.le_of_ble_eq_true rfl) (rfl : 28 + 3 = 31) (xdt tt_X11_addRule 14 rfl) (fun hb8 => ?_)
    refine g_if_eq hC (show ((31 : Nat) : Int) + 14 = ((45 : Nat) : Int) by decide) (rfl : 31 + 3 = 34) (xdt tt_X11_addRule 15 rfl) (fun hc14 => ?_) (fun hc14 => ?_)
    · replace h := (if_pos hc14).symm.trans h
      refine g_aload_n hC rfl 0 rfl (rfl : 45 + 1 = 46) (xdt tt_X11_addRule 21 rfl) ?_
      refine g_getP hC hk0 kclX11 ly3_0 6 (by decide) (rfl : r0 + 1 = (r0 + 1)) rfl q31 (rfl : 46 + 3 = 49) (xdt tt_X11_addRule 22 rfl) ?_
      refine g_getP hC (hA0 1 (by decide) (by decide)) kclX0 ly1_0 2 (by decide) (rfl : (r0 + 1) + 0 = (r0 + 1)) rfl q592 (rfl : 49 + 3 = 52) (xdt tt_X11_addRule 23 rfl) ?_
      refine g_getI hC (hA0 1 (by decide) (by decide)) kclX8 ly1_2 2 (by decide) rfl q593 (rfl : 52 + 3 = 55) (xdt tt_X11_addRule 24 rfl) ?_
      refine g_bipush hC (by decide) (rfl : 55 + 2 = 57) (xdt tt_X11_addRule 25 rfl) ?_
      refine g_icmp_lt hC (show ((57 : Nat) : Int) + 14 = ((71 : Nat) : Int) by decide) (rfl : 57 + 3 = 60) (xdt tt_X11_addRule 26 rfl) (fun hc13 => ?_) (fun hc13 => ?_)
      · replace h := (if_pos hc13).symm.trans h
        refine g_aload_n hC rfl 0 rfl (rfl : 71 + 1 = 72) (xdt tt_X11_addRule 32 rfl) ?_
        refine g_getP hC hk0 kclX11 ly3_0 10 (by decide) (rfl : r0 + 0 = r0) rfl q37 (rfl : 72 + 3 = 75) (xdt tt_X11_addRule 33 rfl) ?_
        refine g_aload_n hC rfl 0 rfl (rfl : 75 + 1 = 76) (xdt tt_X11_addRule 34 rfl) ?_
        refine g_getP hC hk0 kclX11 ly3_0 6 (by decide) (rfl : r0 + 1 = (r0 + 1)) rfl q31 (rfl : 76 + 3 = 79) (xdt tt_X11_addRule 35 rfl) ?_
        obtain ⟨S10, hc9, h⟩ := bd_i h
        refine g_callVv hC hZ hk0 kclX1 ly3_8 m_X1_remember q986 (Nat.le_of_ble_eq_true rfl) [vr E (r0 + 1) 0] rfl (fun l => c_X1_remember_p3_8_1_0 l hk0 hA0 (hA0 1 (by decide) (by decide)) hc9) rfl (Nat.le_of_ble_eq_true rfl) (rfl : 79 + 3 = 82) (xdt tt_X11_addRule 36 rfl) ?_
        refine g_aload_n hC rfl 0 rfl (rfl : 82 + 1 = 83) (xdt tt_X11_addRule 37 rfl) ?_
        refine g_getP hC hk0 kclX11 ly3_0 6 (by decide) (rfl : r0 + 1 = (r0 + 1)) rfl q31 (rfl : 83 + 3 = 86) (xdt tt_X11_addRule 38 rfl) ?_
        refine g_getP hC (hA0 1 (by decide) (by decide)) kclX0 ly1_0 2 (by decide) (rfl : (r0 + 1) + 0 = (r0 + 1)) rfl q592 (rfl : 86 + 3 = 89) (xdt tt_X11_addRule 39 rfl) ?_
        refine g_iload_n hC rfl 1 rfl (rfl : 89 + 1 = 90) (xdt tt_X11_addRule 40 rfl) ?_
        refine g_iload_n hC rfl 2 rfl (rfl : 90 + 1 = 91) (xdt tt_X11_addRule 41 rfl) ?_
        obtain ⟨S12, hc11, h⟩ := bd_i h
        refine g_callVv hC hZ (hA0 1 (by decide) (by decide)) kclX8 ly1_2 m_X8_append q1292 (Nat.le_of_ble_eq_true rfl) [vi a1, vi a2] rfl (fun l => c_X8_append_p1_2 l (hA0 1 (by decide) (by decide)) hc11) rfl (Nat.le_of_ble_eq_true rfl) (rfl : 91 + 3 = 94) (xdt tt_X11_addRule 42 rfl) ?_
        refine g_aload_n hC rfl 0 rfl (rfl : 94 + 1 = 95) (xdt tt_X11_addRule 43 rfl) ?_
        refine g_getP hC hk0 kclX11 ly3_0 6 (by decide) (rfl : r0 + 1 = (r0 + 1)) rfl q31 (rfl : 95 + 3 = 98) (xdt tt_X11_addRule 44 rfl) ?_
        refine g_getP hC (hA0 1 (by decide) (by decide)) kclX0 ly1_0 2 (by decide) (rfl : (r0 + 1) + 0 = (r0 + 1)) rfl q592 (rfl : 98 + 3 = 101) (xdt tt_X11_addRule 45 rfl) ?_
        refine g_getI hC (hA0 1 (by decide) (by decide)) kclX8 ly1_2 2 (by decide) rfl q593 (rfl : 101 + 3 = 104) (xdt tt_X11_addRule 46 rfl) ?_
        refine g_iconst hC (rfl : 104 + 1 = 105) (xdt tt_X11_addRule 47 rfl) ?_
        refine g_isub hC (rfl : 105 + 1 = 106) (xdt tt_X11_addRule 48 rfl) ?_
        cases h
        exact g_iretX hC hE rfl (xdt tt_X11_addRule 49 rfl)
      · replace h := (if_neg hc13).symm.trans h
        cases h
        exact g_throwW hC hE rfl (q := 37) rfl rfl fit3 q1286 q1287 at_320 (Nat.le_of_ble_eq_true rfl) (Nat.le_of_ble_eq_true rfl) (xdt tt_X11_addRule 27 rfl) (xdt tt_X11_addRule 28 rfl) (xdt tt_X11_addRule 29 rfl) (xdt tt_X11_addRule 30 rfl) (xdt tt_X11_addRule 31 rfl)
    · replace h := (if_neg hc14).symm.trans h
      cases h
      exact g_throwW hC hE rfl (q := 36) rfl rfl fit3 q1286 q1287 at_320 (Nat.le_of_ble_eq_true rfl) (Nat.le_of_ble_eq_true rfl) (xdt tt_X11_addRule 16 rfl) (xdt tt_X11_addRule 17 rfl) (xdt tt_X11_addRule 18 rfl) (xdt tt_X11_addRule 19 rfl) (xdt tt_X11_addRule 20 rfl)
  · replace h := (if_neg hc15).symm.trans h
    cases h
    exact g_throwW hC hE rfl (q := 35) rfl rfl fit2 q787 q788 at_202 (Nat.le_of_ble_eq_true rfl) (Nat.le_of_ble_eq_true rfl) (xdt tt_X11_addRule 4 rfl) (xdt tt_X11_addRule 5 rfl) (xdt tt_X11_addRule 6 rfl) (xdt tt_X11_addRule 7 rfl) (xdt tt_X11_addRule 8 rfl)
def f_X11_removeRule_p3_0 (S : xSt) (r0 : Nat) (a1 : Int) : Option ((Int ⊕ Nat) × xSt) :=
  if wr a1 < 0 then
    (some (Sum.inr 1, S))
  else
    (if wr a1 < wr (gI S (r0 + 1) 2 2) then
      (bd (f_X1_remember_p3_8_1_0 S r0 (r0 + 1)) fun S2 =>
      ckI a1 7 <|
      ckI a1 7 <|
      bd (f_X8_takeOut_p1_2 S2 (r0 + 1) a1) fun S6 =>
      some (Sum.inl ((10 * (gI S2 (r0 + 1) 3 (wr a1).toNat)) + (gI S2 (r0 + 1) 4 (wr a1).toNat)), S6))
    else
      (some (Sum.inr 1, S)))
set_option maxRecDepth 100000 in
set_option maxHeartbeats 4000000 in
theorem c_X11_removeRule_p3_0 (l : Launch) (htr : l.stackTraces = false) {E : xE} {S S' : xSt} {r0 : Nat} {a1 : Int} (hk0 : xkd E r0 = 3) (hA0 : xFam E r0) {x : Int ⊕ Nat} (h : f_X11_removeRule_p3_0 S r0 a1 = some (x, S')) : vx_Met l yX11_removeRule (xws yX11_removeRule cX11_removeRule 3 (some .int)) (rmE 6 1) (YPc E [vr E r0 0, vi a1] S) (YXi E x S') (YXC E x S') 1 6 (xA E) := by
  unfold f_X11_removeRule_p3_0 at h
  refine metX_i htr (by decide +kernel) (Nat.le_of_ble_eq_true rfl) (fun K hC hE => ?_)
  have hZ := xZX hE
  have hC : xOK K cX11_removeRule RX11 3 (rmE 6 1) := hC
  show WG K E 0 [(0, vr E r0 0), (1, vi a1)] [] S
  refine g_iload_n hC rfl 1 rfl (rfl : 0 + 1 = 1) (xdt tt_X11_removeRule 0 rfl) ?_
  refine g_if_lt hC (show ((1 : Nat) : Int) + 17 = ((18 : Nat) : Int) by decide) (rfl : 1 + 3 = 4) (xdt tt_X11_removeRule 1 rfl) (fun hc8 => ?_) (fun hc8 => ?_)
  · replace h := (if_pos hc8).symm.trans h
    cases h
    exact g_throwS hC hE rfl (q := 25) rfl rfl fit1 q623 q624 at_148 (Nat.le_of_ble_eq_true rfl) (Nat.le_of_ble_eq_true rfl) (xdt tt_X11_removeRule 8 rfl) (xdt tt_X11_removeRule 9 rfl) (xdt tt_X11_removeRule 10 rfl) (xdt tt_X11_removeRule 11 rfl) (xdt tt_X11_removeRule 12 rfl)
  · replace h := (if_neg hc8).symm.trans h
    refine g_iload_n hC rfl 1 rfl (rfl : 4 + 1 = 5) (xdt tt_X11_removeRule 2 rfl) ?_
    refine g_aload_n hC rfl 0 rfl (rfl : 5 + 1 = 6) (xdt tt_X11_removeRule 3 rfl) ?_
    refine g_getP hC hk0 kclX11 ly3_0 6 (by decide) (rfl : r0 + 1 = (r0 + 1)) rfl q31 (rfl : 6 + 3 = 9) (xdt tt_X11_removeRule 4 rfl) ?_
    refine g_getP hC (hA0 1 (by decide) (by decide)) kclX0 ly1_0 2 (by decide) (rfl : (r0 + 1) + 0 = (r0 + 1)) rfl q592 (rfl : 9 + 3 = 12) (xdt tt_X11_removeRule 5 rfl) ?_
    refine g_getI hC (hA0 1 (by decide) (by decide)) kclX8 ly1_2 2 (by decide) rfl q593 (rfl : 12 + 3 = 15) (xdt tt_X11_removeRule 6 rfl) ?_
    refine g_icmp_lt hC (show ((15 : Nat) : Int) + 13 = ((28 : Nat) : Int) by decide) (rfl : 15 + 3 = 18) (xdt tt_X11_removeRule 7 rfl) (fun hc7 => ?_) (fun hc7 => ?_)
    · replace h := (if_pos hc7).symm.trans h
      refine g_aload_n hC rfl 0 rfl (rfl : 28 + 1 = 29) (xdt tt_X11_removeRule 13 rfl) ?_
      refine g_getP hC hk0 kclX11 ly3_0 10 (by decide) (rfl : r0 + 0 = r0) rfl q37 (rfl : 29 + 3 = 32) (xdt tt_X11_removeRule 14 rfl) ?_
      refine g_aload_n hC rfl 0 rfl (rfl : 32 + 1 = 33) (xdt tt_X11_removeRule 15 rfl) ?_
      refine g_getP hC hk0 kclX11 ly3_0 6 (by decide) (rfl : r0 + 1 = (r0 + 1)) rfl q31 (rfl : 33 + 3 = 36) (xdt tt_X11_removeRule 16 rfl) ?_
      obtain ⟨S2, hc1, h⟩ := bd_i h
      refine g_callVv hC hZ hk0 kclX1 ly3_8 m_X1_remember q986 (Nat.le_of_ble_eq_true rfl) [vr E (r0 + 1) 0] rfl (fun l => c_X1_remember_p3_8_1_0 l hk0 hA0 (hA0 1 (by decide) (by decide)) hc1) rfl (Nat.le_of_ble_eq_true rfl) (rfl : 36 + 3 = 39) (xdt tt_X11_removeRule 17 rfl) ?_
      refine g_bipush hC (by decide) (rfl : 39 + 2 = 41) (xdt tt_X11_removeRule 18 rfl) ?_
      refine g_aload_n hC rfl 0 rfl (rfl : 41 + 1 = 42) (xdt tt_X11_removeRule 19 rfl) ?_
      refine g_getP hC hk0 kclX11 ly3_0 6 (by decide) (rfl : r0 + 1 = (r0 + 1)) rfl q31 (rfl : 42 + 3 = 45) (xdt tt_X11_removeRule 20 rfl) ?_
      refine g_getP hC (hA0 1 (by decide) (by decide)) kclX0 ly1_0 2 (by decide) (rfl : (r0 + 1) + 0 = (r0 + 1)) rfl q592 (rfl : 45 + 3 = 48) (xdt tt_X11_removeRule 21 rfl) ?_
      refine g_getP hC (hA0 1 (by decide) (by decide)) kclX8 ly1_2 0 (by decide) (rfl : (r0 + 1) + 0 = (r0 + 1)) rfl q802 (rfl : 48 + 3 = 51) (xdt tt_X11_removeRule 22 rfl) ?_
      refine g_iload_n hC rfl 1 rfl (rfl : 51 + 1 = 52) (xdt tt_X11_removeRule 23 rfl) ?_
      obtain ⟨hi3, h⟩ := ckI_i h
      refine g_iald hC (hA0 1 (by decide) (by decide)) ly1_3 hi3 (rfl : 52 + 1 = 53) (xdt tt_X11_removeRule 24 rfl) (k0 := (wr a1).toNat) rfl ?_
      refine g_imul hC (rfl : 53 + 1 = 54) (xdt tt_X11_removeRule 25 rfl) ?_
      refine g_aload_n hC rfl 0 rfl (rfl : 54 + 1 = 55) (xdt tt_X11_removeRule 26 rfl) ?_
      refine g_getP hC hk0 kclX11 ly3_0 6 (by decide) (rfl : r0 + 1 = (r0 + 1)) rfl q31 (rfl : 55 + 3 = 58) (xdt tt_X11_removeRule 27 rfl) ?_
      refine g_getP hC (hA0 1 (by decide) (by decide)) kclX0 ly1_0 2 (by decide) (rfl : (r0 + 1) + 0 = (r0 + 1)) rfl q592 (rfl : 58 + 3 = 61) (xdt tt_X11_removeRule 28 rfl) ?_
      refine g_getP hC (hA0 1 (by decide) (by decide)) kclX8 ly1_2 1 (by decide) (rfl : (r0 + 1) + 0 = (r0 + 1)) rfl q801 (rfl : 61 + 3 = 64) (xdt tt_X11_removeRule 29 rfl) ?_
      refine g_iload_n hC rfl 1 rfl (rfl : 64 + 1 = 65) (xdt tt_X11_removeRule 30 rfl) ?_
      obtain ⟨hi4, h⟩ := ckI_i h
      refine g_iald hC (hA0 1 (by decide) (by decide)) ly1_4 hi4 (rfl : 65 + 1 = 66) (xdt tt_X11_removeRule 31 rfl) (k0 := (wr a1).toNat) rfl ?_
      refine g_iadd hC (rfl : 66 + 1 = 67) (xdt tt_X11_removeRule 32 rfl) ?_
      refine g_istore_n hC rfl (by decide) (lv' := [(2, vi ((10 * (gI S2 (r0 + 1) 3 (wr a1).toNat)) + (gI S2 (r0 + 1) 4 (wr a1).toNat))), (0, vr E r0 0), (1, vi a1)]) rfl (rfl : 67 + 1 = 68) (xdt tt_X11_removeRule 33 rfl) ?_
      refine g_aload_n hC rfl 1 rfl (rfl : 68 + 1 = 69) (xdt tt_X11_removeRule 34 rfl) ?_
      refine g_getP hC hk0 kclX11 ly3_0 6 (by decide) (rfl : r0 + 1 = (r0 + 1)) rfl q31 (rfl : 69 + 3 = 72) (xdt tt_X11_removeRule 35 rfl) ?_
      refine g_getP hC (hA0 1 (by decide) (by decide)) kclX0 ly1_0 2 (by decide) (rfl : (r0 + 1) + 0 = (r0 + 1)) rfl q592 (rfl : 72 + 3 = 75) (xdt tt_X11_removeRule 36 rfl) ?_
      refine g_iload_n hC rfl 2 rfl (rfl : 75 + 1 = 76) (xdt tt_X11_removeRule 37 rfl) ?_
      obtain ⟨S6, hc5, h⟩ := bd_i h
      refine g_callVv hC hZ (hA0 1 (by decide) (by decide)) kclX8 ly1_2 m_X8_takeOut q1315 (Nat.le_of_ble_eq_true rfl) [vi a1] rfl (fun l => c_X8_takeOut_p1_2 l (hA0 1 (by decide) (by decide)) hc5) rfl (Nat.le_of_ble_eq_true rfl) (rfl : 76 + 3 = 79) (xdt tt_X11_removeRule 38 rfl) ?_
      refine g_iload_n hC rfl 0 rfl (rfl : 79 + 1 = 80) (xdt tt_X11_removeRule 39 rfl) ?_
      cases h
      exact g_iretX hC hE rfl (xdt tt_X11_removeRule 40 rfl)
    · replace h := (if_neg hc7).symm.trans h
      cases h
      exact g_throwS hC hE rfl (q := 25) rfl rfl fit1 q623 q624 at_148 (Nat.le_of_ble_eq_true rfl) (Nat.le_of_ble_eq_true rfl) (xdt tt_X11_removeRule 8 rfl) (xdt tt_X11_removeRule 9 rfl) (xdt tt_X11_removeRule 10 rfl) (xdt tt_X11_removeRule 11 rfl) (xdt tt_X11_removeRule 12 rfl)
def f_X11_redirect_p3_0 (S : xSt) (r0 : Nat) (a1 : Int) : Option ((Int ⊕ Nat) × xSt) :=
  if wr a1 < 0 then
    (some (Sum.inr 1, S))
  else
    (ckP S r0 0 4 2 0 fun rg1 =>
    if wr a1 < wr (gI S rg1 0 10) then
      (bd (f_X1_remember_p3_8_1_0 S r0 (r0 + 1)) fun S3 =>
      bd (f_X0_goTo_p1_0 S3 (r0 + 1) a1) fun S5 =>
      some (Sum.inl (gI S3 (r0 + 1) 5 2), S5))
    else
      (some (Sum.inr 1, S)))
set_option maxRecDepth 100000 in
set_option maxHeartbeats 4000000 in
theorem c_X11_redirect_p3_0 (l : Launch) (htr : l.stackTraces = false) {E : xE} {S S' : xSt} {r0 : Nat} {a1 : Int} (hk0 : xkd E r0 = 3) (hA0 : xFam E r0) {x : Int ⊕ Nat} (h : f_X11_redirect_p3_0 S r0 a1 = some (x, S')) : vx_Met l yX11_redirect (xws yX11_redirect cX11_redirect 3 (some .int)) (rmE 6 1) (YPc E [vr E r0 0, vi a1] S) (YXi E x S') (YXC E x S') 1 6 (xA E) := by
  unfold f_X11_redirect_p3_0 at h
  refine metX_i htr (by decide +kernel) (Nat.le_of_ble_eq_true rfl) (fun K hC hE => ?_)
  have hZ := xZX hE
  have hC : xOK K cX11_redirect RX11 3 (rmE 6 1) := hC
  show WG K E 0 [(0, vr E r0 0), (1, vi a1)] [] S
  refine g_iload_n hC rfl 1 rfl (rfl : 0 + 1 = 1) (xdt tt_X11_redirect 0 rfl) ?_
  refine g_if_lt hC (show ((1 : Nat) : Int) + 14 = ((15 : Nat) : Int) by decide) (rfl : 1 + 3 = 4) (xdt tt_X11_redirect 1 rfl) (fun hc7 => ?_) (fun hc7 => ?_)
  · replace h := (if_pos hc7).symm.trans h
    cases h
    exact g_throwS hC hE rfl (q := 22) rfl rfl fit1 q623 q624 at_148 (Nat.le_of_ble_eq_true rfl) (Nat.le_of_ble_eq_true rfl) (xdt tt_X11_redirect 7 rfl) (xdt tt_X11_redirect 8 rfl) (xdt tt_X11_redirect 9 rfl) (xdt tt_X11_redirect 10 rfl) (xdt tt_X11_redirect 11 rfl)
  · replace h := (if_neg hc7).symm.trans h
    refine g_iload_n hC rfl 1 rfl (rfl : 4 + 1 = 5) (xdt tt_X11_redirect 2 rfl) ?_
    refine g_aload_n hC rfl 0 rfl (rfl : 5 + 1 = 6) (xdt tt_X11_redirect 3 rfl) ?_
    obtain ⟨rg1, hrg1, grg1, h⟩ := ckP_i h
    refine g_getV hC hk0 kclX11 ly3_0 4 (by decide) rfl hrg1 grg1 (by decide) q26 (rfl : 6 + 3 = 9) (xdt tt_X11_redirect 4 rfl) (fun krg1 => ?_)
    refine g_getI hC krg1 kclX5 ly2_0 10 (by decide) rfl q277 (rfl : 9 + 3 = 12) (xdt tt_X11_redirect 5 rfl) ?_
    refine g_icmp_lt hC (show ((12 : Nat) : Int) + 13 = ((25 : Nat) : Int) by decide) (rfl : 12 + 3 = 15) (xdt tt_X11_redirect 6 rfl) (fun hc6 => ?_) (fun hc6 => ?_)
    · replace h := (if_pos hc6).symm.trans h
      refine g_aload_n hC rfl 0 rfl (rfl : 25 + 1 = 26) (xdt tt_X11_redirect 12 rfl) ?_
      refine g_getP hC hk0 kclX11 ly3_0 10 (by decide) (rfl : r0 + 0 = r0) rfl q37 (rfl : 26 + 3 = 29) (xdt tt_X11_redirect 13 rfl) ?_
      refine g_aload_n hC rfl 0 rfl (rfl : 29 + 1 = 30) (xdt tt_X11_redirect 14 rfl) ?_
      refine g_getP hC hk0 kclX11 ly3_0 6 (by decide) (rfl : r0 + 1 = (r0 + 1)) rfl q31 (rfl : 30 + 3 = 33) (xdt tt_X11_redirect 15 rfl) ?_
      obtain ⟨S3, hc2, h⟩ := bd_i h
      refine g_callVv hC hZ hk0 kclX1 ly3_8 m_X1_remember q986 (Nat.le_of_ble_eq_true rfl) [vr E (r0 + 1) 0] rfl (fun l => c_X1_remember_p3_8_1_0 l hk0 hA0 (hA0 1 (by decide) (by decide)) hc2) rfl (Nat.le_of_ble_eq_true rfl) (rfl : 33 + 3 = 36) (xdt tt_X11_redirect 16 rfl) ?_
      refine g_aload_n hC rfl 0 rfl (rfl : 36 + 1 = 37) (xdt tt_X11_redirect 17 rfl) ?_
      refine g_getP hC hk0 kclX11 ly3_0 6 (by decide) (rfl : r0 + 1 = (r0 + 1)) rfl q31 (rfl : 37 + 3 = 40) (xdt tt_X11_redirect 18 rfl) ?_
      refine g_getP hC (hA0 1 (by decide) (by decide)) kclX0 ly1_0 3 (by decide) (rfl : (r0 + 1) + 0 = (r0 + 1)) rfl q595 (rfl : 40 + 3 = 43) (xdt tt_X11_redirect 19 rfl) ?_
      refine g_getI hC (hA0 1 (by decide) (by decide)) kclX6 ly1_5 2 (by decide) rfl q596 (rfl : 43 + 3 = 46) (xdt tt_X11_redirect 20 rfl) ?_
      refine g_istore_n hC rfl (by decide) (lv' := [(2, vi (gI S3 (r0 + 1) 5 2)), (0, vr E r0 0), (1, vi a1)]) rfl (rfl : 46 + 1 = 47) (xdt tt_X11_redirect 21 rfl) ?_
      refine g_aload_n hC rfl 1 rfl (rfl : 47 + 1 = 48) (xdt tt_X11_redirect 22 rfl) ?_
      refine g_getP hC hk0 kclX11 ly3_0 6 (by decide) (rfl : r0 + 1 = (r0 + 1)) rfl q31 (rfl : 48 + 3 = 51) (xdt tt_X11_redirect 23 rfl) ?_
      refine g_iload_n hC rfl 2 rfl (rfl : 51 + 1 = 52) (xdt tt_X11_redirect 24 rfl) ?_
      obtain ⟨S5, hc4, h⟩ := bd_i h
      refine g_callVv hC hZ (hA0 1 (by decide) (by decide)) kclX0 ly1_0 m_X0_goTo q1330 (Nat.le_of_ble_eq_true rfl) [vi a1] rfl (fun l => c_X0_goTo_p1_0 l (hA0 1 (by decide) (by decide)) hc4) rfl (Nat.le_of_ble_eq_true rfl) (rfl : 52 + 3 = 55) (xdt tt_X11_redirect 25 rfl) ?_
      refine g_iload_n hC rfl 0 rfl (rfl : 55 + 1 = 56) (xdt tt_X11_redirect 26 rfl) ?_
      cases h
      exact g_iretX hC hE rfl (xdt tt_X11_redirect 27 rfl)
    · replace h := (if_neg hc6).symm.trans h
      cases h
      exact g_throwS hC hE rfl (q := 22) rfl rfl fit1 q623 q624 at_148 (Nat.le_of_ble_eq_true rfl) (Nat.le_of_ble_eq_true rfl) (xdt tt_X11_redirect 7 rfl) (xdt tt_X11_redirect 8 rfl) (xdt tt_X11_redirect 9 rfl) (xdt tt_X11_redirect 10 rfl) (xdt tt_X11_redirect 11 rfl)
def f_X11_undo_p3_0 (S : xSt) (r0 : Nat) : Option ((Int ⊕ Nat) × xSt) :=
  if 0 < wr (gI S r0 8 2) then
    (bd (f_X1_takeBack_p3_8_1_0 S r0 (r0 + 1)) fun S2 =>
    some (Sum.inl (gI S2 r0 8 2), S2))
  else
    (some (Sum.inr 3, S))
set_option maxRecDepth 100000 in
set_option maxHeartbeats 4000000 in
theorem c_X11_undo_p3_0 (l : Launch) (htr : l.stackTraces = false) {E : xE} {S S' : xSt} {r0 : Nat} (hk0 : xkd E r0 = 3) (hA0 : xFam E r0) {x : Int ⊕ Nat} (h : f_X11_undo_p3_0 S r0 = some (x, S')) : vx_Met l yX11_undo (xws yX11_undo cX11_undo 1 (some .int)) (rmE 6 1) (YPc E [vr E r0 0] S) (YXi E x S') (YXC E x S') 1 6 (xA E) := by
  unfold f_X11_undo_p3_0 at h
  refine metX_i htr (by decide +kernel) (Nat.le_of_ble_eq_true rfl) (fun K hC hE => ?_)
  have hZ := xZX hE
  have hC : xOK K cX11_undo RX11 1 (rmE 6 1) := hC
  show WG K E 0 [(0, vr E r0 0)] [] S
  refine g_aload_n hC rfl 0 rfl (rfl : 0 + 1 = 1) (xdt tt_X11_undo 0 rfl) ?_
  refine g_getP hC hk0 kclX11 ly3_0 10 (by decide) (rfl : r0 + 0 = r0) rfl q37 (rfl : 1 + 3 = 4) (xdt tt_X11_undo 1 rfl) ?_
  refine g_getI hC hk0 kclX1 ly3_8 2 (by decide) rfl q601 (rfl : 4 + 3 = 7) (xdt tt_X11_undo 2 rfl) ?_
  refine g_if_gt hC (show ((7 : Nat) : Int) + 14 = ((21 : Nat) : Int) by decide) (rfl : 7 + 3 = 10) (xdt tt_X11_undo 3 rfl) (fun hc3 => ?_) (fun hc3 => ?_)
  · replace h := (if_pos hc3).symm.trans h
    refine g_aload_n hC rfl 0 rfl (rfl : 21 + 1 = 22) (xdt tt_X11_undo 9 rfl) ?_
    refine g_getP hC hk0 kclX11 ly3_0 10 (by decide) (rfl : r0 + 0 = r0) rfl q37 (rfl : 22 + 3 = 25) (xdt tt_X11_undo 10 rfl) ?_
    refine g_aload_n hC rfl 0 rfl (rfl : 25 + 1 = 26) (xdt tt_X11_undo 11 rfl) ?_
    refine g_getP hC hk0 kclX11 ly3_0 6 (by decide) (rfl : r0 + 1 = (r0 + 1)) rfl q31 (rfl : 26 + 3 = 29) (xdt tt_X11_undo 12 rfl) ?_
    obtain ⟨S2, hc1, h⟩ := bd_i h
    refine g_callVv hC hZ hk0 kclX1 ly3_8 m_X1_takeBack q1342 (Nat.le_of_ble_eq_true rfl) [vr E (r0 + 1) 0] rfl (fun l => c_X1_takeBack_p3_8_1_0 l hk0 hA0 (hA0 1 (by decide) (by decide)) hc1) rfl (Nat.le_of_ble_eq_true rfl) (rfl : 29 + 3 = 32) (xdt tt_X11_undo 13 rfl) ?_
    refine g_aload_n hC rfl 0 rfl (rfl : 32 + 1 = 33) (xdt tt_X11_undo 14 rfl) ?_
    refine g_getP hC hk0 kclX11 ly3_0 10 (by decide) (rfl : r0 + 0 = r0) rfl q37 (rfl : 33 + 3 = 36) (xdt tt_X11_undo 15 rfl) ?_
    refine g_getI hC hk0 kclX1 ly3_8 2 (by decide) rfl q601 (rfl : 36 + 3 = 39) (xdt tt_X11_undo 16 rfl) ?_
    cases h
    exact g_iretX hC hE rfl (xdt tt_X11_undo 17 rfl)
  · replace h := (if_neg hc3).symm.trans h
    cases h
    exact g_throwW hC hE rfl (q := 38) rfl rfl fit3 q1286 q1287 at_320 (Nat.le_of_ble_eq_true rfl) (Nat.le_of_ble_eq_true rfl) (xdt tt_X11_undo 4 rfl) (xdt tt_X11_undo 5 rfl) (xdt tt_X11_undo 6 rfl) (xdt tt_X11_undo 7 rfl) (xdt tt_X11_undo 8 rfl)
def f_X11_cyclesTo_p3_0_b51 (r0 : Nat) : Nat → xSt → Int → Int → Option ((Int ⊕ Nat) × xSt)
  | 0, _, _, _ => none
  | fuel + 1, S, x2, x3 =>
    if wr 500 < wr x3 then
      (some (Sum.inl (-1), S))
    else
      (bd (f_X0_passCycle_p1_0 S (r0 + 2)) fun S4 =>
      if wr (gI S4 (r0 + 2) 15 1) < wr x2 then
        ((f_X11_cyclesTo_p3_0_b51 r0 fuel) S4 x2 (x3 + 1))
      else
        (some (Sum.inl x3, S4)))
def f_X11_cyclesTo_p3_0 (S : xSt) (r0 : Nat) (a1 : Int) : Option ((Int ⊕ Nat) × xSt) :=
  if wr a1 < wr 1 then
    (some (Sum.inr 2, S))
  else
    (if wr a1 ≤ wr 999 then
      (bd (f_X0_copyFrom_p1_0_1_0 S (r0 + 2) (r0 + 1)) fun S2 =>
      f_X11_cyclesTo_p3_0_b51 r0 (fu S2) S2 ((gI S2 (r0 + 1) 15 1) + a1) 1)
    else
      (some (Sum.inr 2, S)))
set_option maxRecDepth 100000 in
set_option maxHeartbeats 4000000 in
theorem k_X11_cyclesTo_p3_0_b51 {K : xCtx} {E : xE} (hC : xOK K cX11_cyclesTo RX11 4 (rmE 6 1)) (hZ : xZ K) {x : Int ⊕ Nat} {S' : xSt} (hE : xEndX K E (some .int) (YXi E x S') (YXC E x S')) {r0 : Nat} (hk0 : xkd E r0 = 3) (hA0 : xFam E r0) : ∀ (fuel : Nat) (S : xSt) (x2 : Int) (x3 : Int), f_X11_cyclesTo_p3_0_b51 r0 fuel S x2 x3 = some (x, S') → WG K E 51 [(0, vr E r0 0), (2, vi x2), (3, vi x3)] [] S := by
  intro fuel
  induction fuel with
  | zero => intro S x2 x3 h; cases h
  | succ fuel ih =>
    intro S x2 x3 h
    rw [f_X11_cyclesTo_p3_0_b51] at h
    refine g_iload_n hC rfl 2 rfl (rfl : 51 + 1 = 52) (xdt tt_X11_cyclesTo 27 rfl) ?_
    refine g_sipush hC (by decide) (rfl : 52 + 3 = 55) (xdt tt_X11_cyclesTo 28 rfl) ?_
    refine g_icmp_gt hC (show ((55 : Nat) : Int) + 34 = ((89 : Nat) : Int) by decide) (rfl : 55 + 3 = 58) (xdt tt_X11_cyclesTo 29 rfl) (fun hc6 => ?_) (fun hc6 => ?_)
    · replace h := (if_pos hc6).symm.trans h
      refine g_iconst hC (rfl : 89 + 1 = 90) (xdt tt_X11_cyclesTo 45 rfl) ?_
      cases h
      exact g_iretX hC hE rfl (xdt tt_X11_cyclesTo 46 rfl)
    · replace h := (if_neg hc6).symm.trans h
      refine g_aload_n hC rfl 0 rfl (rfl : 58 + 1 = 59) (xdt tt_X11_cyclesTo 30 rfl) ?_
      refine g_getP hC hk0 kclX11 ly3_0 7 (by decide) (rfl : r0 + 2 = (r0 + 2)) rfl q32 (rfl : 59 + 3 = 62) (xdt tt_X11_cyclesTo 31 rfl) ?_
      obtain ⟨S4, hc3, h⟩ := bd_i h
      refine g_callVv hC hZ (hA0 2 (by decide) (by decide)) kclX0 ly1_0 m_X0_passCycle q1241 (Nat.le_of_ble_eq_true rfl) [] rfl (fun l => c_X0_passCycle_p1_0 l (hA0 2 (by decide) (by decide)) hc3) rfl (Nat.le_of_ble_eq_true rfl) (rfl : 62 + 3 = 65) (xdt tt_X11_cyclesTo 32 rfl) ?_
      refine g_aload_n hC rfl 0 rfl (rfl : 65 + 1 = 66) (xdt tt_X11_cyclesTo 33 rfl) ?_
      refine g_getP hC hk0 kclX11 ly3_0 7 (by decide) (rfl : r0 + 2 = (r0 + 2)) rfl q32 (rfl : 66 + 3 = 69) (xdt tt_X11_cyclesTo 34 rfl) ?_
      refine g_getP hC (hA0 2 (by decide) (by decide)) kclX0 ly1_0 7 (by decide) (rfl : (r0 + 2) + 0 = (r0 + 2)) rfl q590 (rfl : 69 + 3 = 72) (xdt tt_X11_cyclesTo 35 rfl) ?_
      refine g_getP hC (hA0 2 (by decide) (by decide)) kclX9 ly1_14 0 (by decide) (rfl : (r0 + 2) + 0 = (r0 + 2)) rfl q591 (rfl : 72 + 3 = 75) (xdt tt_X11_cyclesTo 36 rfl) ?_
      refine g_iconst hC (rfl : 75 + 1 = 76) (xdt tt_X11_cyclesTo 37 rfl) ?_
      refine g_iald hC (hA0 2 (by decide) (by decide)) ly1_15 (by decide) (rfl : 76 + 1 = 77) (xdt tt_X11_cyclesTo 38 rfl) (k0 := 1) (by decide) ?_
      refine g_iload_n hC rfl 1 rfl (rfl : 77 + 1 = 78) (xdt tt_X11_cyclesTo 39 rfl) ?_
      refine g_icmp_lt hC (show ((78 : Nat) : Int) + 5 = ((83 : Nat) : Int) by decide) (rfl : 78 + 3 = 81) (xdt tt_X11_cyclesTo 40 rfl) (fun hc5 => ?_) (fun hc5 => ?_)
      · replace h := (if_pos hc5).symm.trans h
        refine g_iinc hC 2 rfl (by decide) (lv' := [(3, vi (x3 + 1)), (0, vr E r0 0), (2, vi x2)]) rfl (rfl : 83 + 3 = 86) (xdt tt_X11_cyclesTo 43 rfl) ?_
        refine g_goto hC (show ((86 : Nat) : Int) + (-35) = ((51 : Nat) : Int) by decide) (xdt tt_X11_cyclesTo 44 rfl) ?_
        refine g_sub [1, 2, 0] (lv' := [(0, vr E r0 0), (2, vi x2), (3, vi (x3 + 1))]) rfl ?_
        exact ih _ _ _ h
      · replace h := (if_neg hc5).symm.trans h
        refine g_iload_n hC rfl 2 rfl (rfl : 81 + 1 = 82) (xdt tt_X11_cyclesTo 41 rfl) ?_
        cases h
        exact g_iretX hC hE rfl (xdt tt_X11_cyclesTo 42 rfl)
set_option maxRecDepth 100000 in
set_option maxHeartbeats 4000000 in
theorem c_X11_cyclesTo_p3_0 (l : Launch) (htr : l.stackTraces = false) {E : xE} {S S' : xSt} {r0 : Nat} {a1 : Int} (hk0 : xkd E r0 = 3) (hA0 : xFam E r0) {x : Int ⊕ Nat} (h : f_X11_cyclesTo_p3_0 S r0 a1 = some (x, S')) : vx_Met l yX11_cyclesTo (xws yX11_cyclesTo cX11_cyclesTo 4 (some .int)) (rmE 6 1) (YPc E [vr E r0 0, vi a1] S) (YXi E x S') (YXC E x S') 1 6 (xA E) := by
  unfold f_X11_cyclesTo_p3_0 at h
  refine metX_i htr (by decide +kernel) (Nat.le_of_ble_eq_true rfl) (fun K hC hE => ?_)
  have hZ := xZX hE
  have hC : xOK K cX11_cyclesTo RX11 4 (rmE 6 1) := hC
  show WG K E 0 [(0, vr E r0 0), (1, vi a1)] [] S
  refine g_iload_n hC rfl 1 rfl (rfl : 0 + 1 = 1) (xdt tt_X11_cyclesTo 0 rfl) ?_
  refine g_iconst hC (rfl : 1 + 1 = 2) (xdt tt_X11_cyclesTo 1 rfl) ?_
  refine g_icmp_lt hC (show ((2 : Nat) : Int) + 10 = ((12 : Nat) : Int) by decide) (rfl : 2 + 3 = 5) (xdt tt_X11_cyclesTo 2 rfl) (fun hc8 => ?_) (fun hc8 => ?_)
  · replace h := (if_pos hc8).symm.trans h
    cases h
    exact g_throwW hC hE rfl (q := 39) rfl rfl fit2 q787 q788 at_202 (Nat.le_of_ble_eq_true rfl) (Nat.le_of_ble_eq_true rfl) (xdt tt_X11_cyclesTo 6 rfl) (xdt tt_X11_cyclesTo 7 rfl) (xdt tt_X11_cyclesTo 8 rfl) (xdt tt_X11_cyclesTo 9 rfl) (xdt tt_X11_cyclesTo 10 rfl)
  · replace h := (if_neg hc8).symm.trans h
    refine g_iload_n hC rfl 1 rfl (rfl : 5 + 1 = 6) (xdt tt_X11_cyclesTo 3 rfl) ?_
    refine g_sipush hC (by decide) (rfl : 6 + 3 = 9) (xdt tt_X11_cyclesTo 4 rfl) ?_
    refine g_icmp_le hC (show ((9 : Nat) : Int) + 14 = ((23 : Nat) : Int) by decide) (rfl : 9 + 3 = 12) (xdt tt_X11_cyclesTo 5 rfl) (fun hc7 => ?_) (fun hc7 => ?_)
    · replace h := (if_pos hc7).symm.trans h
      refine g_aload_n hC rfl 0 rfl (rfl : 23 + 1 = 24) (xdt tt_X11_cyclesTo 11 rfl) ?_
      refine g_getP hC hk0 kclX11 ly3_0 7 (by decide) (rfl : r0 + 2 = (r0 + 2)) rfl q32 (rfl : 24 + 3 = 27) (xdt tt_X11_cyclesTo 12 rfl) ?_
      refine g_aload_n hC rfl 0 rfl (rfl : 27 + 1 = 28) (xdt tt_X11_cyclesTo 13 rfl) ?_
      refine g_getP hC hk0 kclX11 ly3_0 6 (by decide) (rfl : r0 + 1 = (r0 + 1)) rfl q31 (rfl : 28 + 3 = 31) (xdt tt_X11_cyclesTo 14 rfl) ?_
      obtain ⟨S2, hc1, h⟩ := bd_i h
      refine g_callVv hC hZ (hA0 2 (by decide) (by decide)) kclX0 ly1_0 m_X0_copyFrom q1357 (Nat.le_of_ble_eq_true rfl) [vr E (r0 + 1) 0] rfl (fun l => c_X0_copyFrom_p1_0_1_0 l (hA0 2 (by decide) (by decide)) (hA0 1 (by decide) (by decide)) hc1) rfl (Nat.le_of_ble_eq_true rfl) (rfl : 31 + 3 = 34) (xdt tt_X11_cyclesTo 15 rfl) ?_
      refine g_aload_n hC rfl 0 rfl (rfl : 34 + 1 = 35) (xdt tt_X11_cyclesTo 16 rfl) ?_
      refine g_getP hC hk0 kclX11 ly3_0 6 (by decide) (rfl : r0 + 1 = (r0 + 1)) rfl q31 (rfl : 35 + 3 = 38) (xdt tt_X11_cyclesTo 17 rfl) ?_
      refine g_getP hC (hA0 1 (by decide) (by decide)) kclX0 ly1_0 7 (by decide) (rfl : (r0 + 1) + 0 = (r0 + 1)) rfl q590 (rfl : 38 + 3 = 41) (xdt tt_X11_cyclesTo 18 rfl) ?_
      refine g_getP hC (hA0 1 (by decide) (by decide)) kclX9 ly1_14 0 (by decide) (rfl : (r0 + 1) + 0 = (r0 + 1)) rfl q591 (rfl : 41 + 3 = 44) (xdt tt_X11_cyclesTo 19 rfl) ?_
      refine g_iconst hC (rfl : 44 + 1 = 45) (xdt tt_X11_cyclesTo 20 rfl) ?_
      refine g_iald hC (hA0 1 (by decide) (by decide)) ly1_15 (by decide) (rfl : 45 + 1 = 46) (xdt tt_X11_cyclesTo 21 rfl) (k0 := 1) (by decide) ?_
      refine g_iload_n hC rfl 1 rfl (rfl : 46 + 1 = 47) (xdt tt_X11_cyclesTo 22 rfl) ?_
      refine g_iadd hC (rfl : 47 + 1 = 48) (xdt tt_X11_cyclesTo 23 rfl) ?_
      refine g_istore_n hC rfl (by decide) (lv' := [(2, vi ((gI S2 (r0 + 1) 15 1) + a1)), (0, vr E r0 0), (1, vi a1)]) rfl (rfl : 48 + 1 = 49) (xdt tt_X11_cyclesTo 24 rfl) ?_
      refine g_iconst hC (rfl : 49 + 1 = 50) (xdt tt_X11_cyclesTo 25 rfl) ?_
      refine g_istore_n hC rfl (by decide) (lv' := [(3, vi 1), (2, vi ((gI S2 (r0 + 1) 15 1) + a1)), (0, vr E r0 0), (1, vi a1)]) rfl (rfl : 50 + 1 = 51) (xdt tt_X11_cyclesTo 26 rfl) ?_
      refine g_sub [2, 1, 0] (lv' := [(0, vr E r0 0), (2, vi ((gI S2 (r0 + 1) 15 1) + a1)), (3, vi 1)]) rfl ?_
      exact k_X11_cyclesTo_p3_0_b51 hC hZ hE hk0 hA0 _ _ _ _ h
    · replace h := (if_neg hc7).symm.trans h
      cases h
      exact g_throwW hC hE rfl (q := 39) rfl rfl fit2 q787 q788 at_202 (Nat.le_of_ble_eq_true rfl) (Nat.le_of_ble_eq_true rfl) (xdt tt_X11_cyclesTo 6 rfl) (xdt tt_X11_cyclesTo 7 rfl) (xdt tt_X11_cyclesTo 8 rfl) (xdt tt_X11_cyclesTo 9 rfl) (xdt tt_X11_cyclesTo 10 rfl)
def f_X11_nextBubbles_p3_0 (S : xSt) (r0 : Nat) (a1 : Int) : Option ((Int ⊕ Nat) × xSt) :=
  if wr a1 < wr 1 then
    (some (Sum.inr 2, S))
  else
    (if wr a1 ≤ wr 8 then
      (bd (f_X0_copyFrom_p1_0_1_0 S (r0 + 2) (r0 + 1)) fun S2 =>
      bd (f_X0_passCycle_p1_0 S2 (r0 + 2)) fun S4 =>
      ckI a1 9 <|
      ckI a1 9 <|
      some (Sum.inl ((gI S4 (r0 + 2) 16 (wr a1).toNat) - (gI S4 (r0 + 1) 16 (wr a1).toNat)), S4))
    else
      (some (Sum.inr 2, S)))
set_option maxRecDepth 100000 in
set_option maxHeartbeats 4000000 in
theorem c_X11_nextBubbles_p3_0 (l : Launch) (htr : l.stackTraces = false) {E : xE} {S S' : xSt} {r0 : Nat} {a1 : Int} (hk0 : xkd E r0 = 3) (hA0 : xFam E r0) {x : Int ⊕ Nat} (h : f_X11_nextBubbles_p3_0 S r0 a1 = some (x, S')) : vx_Met l yX11_nextBubbles (xws yX11_nextBubbles cX11_nextBubbles 2 (some .int)) (rmE 6 1) (YPc E [vr E r0 0, vi a1] S) (YXi E x S') (YXC E x S') 1 6 (xA E) := by
  unfold f_X11_nextBubbles_p3_0 at h
  refine metX_i htr (by decide +kernel) (Nat.le_of_ble_eq_true rfl) (fun K hC hE => ?_)
  have hZ := xZX hE
  have hC : xOK K cX11_nextBubbles RX11 2 (rmE 6 1) := hC
  show WG K E 0 [(0, vr E r0 0), (1, vi a1)] [] S
  refine g_iload_n hC rfl 1 rfl (rfl : 0 + 1 = 1) (xdt tt_X11_nextBubbles 0 rfl) ?_
  refine g_iconst hC (rfl : 1 + 1 = 2) (xdt tt_X11_nextBubbles 1 rfl) ?_
  refine g_icmp_lt hC (show ((2 : Nat) : Int) + 9 = ((11 : Nat) : Int) by decide) (rfl : 2 + 3 = 5) (xdt tt_X11_nextBubbles 2 rfl) (fun hc8 => ?_) (fun hc8 => ?_)
  · replace h := (if_pos hc8).symm.trans h
    cases h
    exact g_throwS hC hE rfl (q := 28) rfl rfl fit2 q787 q788 at_202 (Nat.le_of_ble_eq_true rfl) (Nat.le_of_ble_eq_true rfl) (xdt tt_X11_nextBubbles 6 rfl) (xdt tt_X11_nextBubbles 7 rfl) (xdt tt_X11_nextBubbles 8 rfl) (xdt tt_X11_nextBubbles 9 rfl) (xdt tt_X11_nextBubbles 10 rfl)
  · replace h := (if_neg hc8).symm.trans h
    refine g_iload_n hC rfl 1 rfl (rfl : 5 + 1 = 6) (xdt tt_X11_nextBubbles 3 rfl) ?_
    refine g_bipush hC (by decide) (rfl : 6 + 2 = 8) (xdt tt_X11_nextBubbles 4 rfl) ?_
    refine g_icmp_le hC (show ((8 : Nat) : Int) + 13 = ((21 : Nat) : Int) by decide) (rfl : 8 + 3 = 11) (xdt tt_X11_nextBubbles 5 rfl) (fun hc7 => ?_) (fun hc7 => ?_)
    · replace h := (if_pos hc7).symm.trans h
      refine g_aload_n hC rfl 0 rfl (rfl : 21 + 1 = 22) (xdt tt_X11_nextBubbles 11 rfl) ?_
      refine g_getP hC hk0 kclX11 ly3_0 7 (by decide) (rfl : r0 + 2 = (r0 + 2)) rfl q32 (rfl : 22 + 3 = 25) (xdt tt_X11_nextBubbles 12 rfl) ?_
      refine g_aload_n hC rfl 0 rfl (rfl : 25 + 1 = 26) (xdt tt_X11_nextBubbles 13 rfl) ?_
      refine g_getP hC hk0 kclX11 ly3_0 6 (by decide) (rfl : r0 + 1 = (r0 + 1)) rfl q31 (rfl : 26 + 3 = 29) (xdt tt_X11_nextBubbles 14 rfl) ?_
      obtain ⟨S2, hc1, h⟩ := bd_i h
      refine g_callVv hC hZ (hA0 2 (by decide) (by decide)) kclX0 ly1_0 m_X0_copyFrom q1357 (Nat.le_of_ble_eq_true rfl) [vr E (r0 + 1) 0] rfl (fun l => c_X0_copyFrom_p1_0_1_0 l (hA0 2 (by decide) (by decide)) (hA0 1 (by decide) (by decide)) hc1) rfl (Nat.le_of_ble_eq_true rfl) (rfl : 29 + 3 = 32) (xdt tt_X11_nextBubbles 15 rfl) ?_
      refine g_aload_n hC rfl 0 rfl (rfl : 32 + 1 = 33) (xdt tt_X11_nextBubbles 16 rfl) ?_
      refine g_getP hC hk0 kclX11 ly3_0 7 (by decide) (rfl : r0 + 2 = (r0 + 2)) rfl q32 (rfl : 33 + 3 = 36) (xdt tt_X11_nextBubbles 17 rfl) ?_
      obtain ⟨S4, hc3, h⟩ := bd_i h
      refine g_callVv hC hZ (hA0 2 (by decide) (by decide)) kclX0 ly1_0 m_X0_passCycle q1241 (Nat.le_of_ble_eq_true rfl) [] rfl (fun l => c_X0_passCycle_p1_0 l (hA0 2 (by decide) (by decide)) hc3) rfl (Nat.le_of_ble_eq_true rfl) (rfl : 36 + 3 = 39) (xdt tt_X11_nextBubbles 18 rfl) ?_
      refine g_aload_n hC rfl 0 rfl (rfl : 39 + 1 = 40) (xdt tt_X11_nextBubbles 19 rfl) ?_
      refine g_getP hC hk0 kclX11 ly3_0 7 (by decide) (rfl : r0 + 2 = (r0 + 2)) rfl q32 (rfl : 40 + 3 = 43) (xdt tt_X11_nextBubbles 20 rfl) ?_
      refine g_getP hC (hA0 2 (by decide) (by decide)) kclX0 ly1_0 7 (by decide) (rfl : (r0 + 2) + 0 = (r0 + 2)) rfl q590 (rfl : 43 + 3 = 46) (xdt tt_X11_nextBubbles 21 rfl) ?_
      refine g_getP hC (hA0 2 (by decide) (by decide)) kclX9 ly1_14 1 (by decide) (rfl : (r0 + 2) + 0 = (r0 + 2)) rfl q864 (rfl : 46 + 3 = 49) (xdt tt_X11_nextBubbles 22 rfl) ?_
      refine g_iload_n hC rfl 1 rfl (rfl : 49 + 1 = 50) (xdt tt_X11_nextBubbles 23 rfl) ?_
      obtain ⟨hi5, h⟩ := ckI_i h
      refine g_iald hC (hA0 2 (by decide) (by decide)) ly1_16 hi5 (rfl : 50 + 1 = 51) (xdt tt_X11_nextBubbles 24 rfl) (k0 := (wr a1).toNat) rfl ?_
      refine g_aload_n hC rfl 0 rfl (rfl : 51 + 1 = 52) (xdt tt_X11_nextBubbles 25 rfl) ?_
      refine g_getP hC hk0 kclX11 ly3_0 6 (by decide) (rfl : r0 + 1 = (r0 + 1)) rfl q31 (rfl : 52 + 3 = 55) (xdt tt_X11_nextBubbles 26 rfl) ?_
      refine g_getP hC (hA0 1 (by decide) (by decide)) kclX0 ly1_0 7 (by decide) (rfl : (r0 + 1) + 0 = (r0 + 1)) rfl q590 (rfl : 55 + 3 = 58) (xdt tt_X11_nextBubbles 27 rfl) ?_
      refine g_getP hC (hA0 1 (by decide) (by decide)) kclX9 ly1_14 1 (by decide) (rfl : (r0 + 1) + 0 = (r0 + 1)) rfl q864 (rfl : 58 + 3 = 61) (xdt tt_X11_nextBubbles 28 rfl) ?_
      refine g_iload_n hC rfl 1 rfl (rfl : 61 + 1 = 62) (xdt tt_X11_nextBubbles 29 rfl) ?_
      obtain ⟨hi6, h⟩ := ckI_i h
      refine g_iald hC (hA0 1 (by decide) (by decide)) ly1_16 hi6 (rfl : 62 + 1 = 63) (xdt tt_X11_nextBubbles 30 rfl) (k0 := (wr a1).toNat) rfl ?_
      refine g_isub hC (rfl : 63 + 1 = 64) (xdt tt_X11_nextBubbles 31 rfl) ?_
      cases h
      exact g_iretX hC hE rfl (xdt tt_X11_nextBubbles 32 rfl)
    · replace h := (if_neg hc7).symm.trans h
      cases h
      exact g_throwS hC hE rfl (q := 28) rfl rfl fit2 q787 q788 at_202 (Nat.le_of_ble_eq_true rfl) (Nat.le_of_ble_eq_true rfl) (xdt tt_X11_nextBubbles 6 rfl) (xdt tt_X11_nextBubbles 7 rfl) (xdt tt_X11_nextBubbles 8 rfl) (xdt tt_X11_nextBubbles 9 rfl) (xdt tt_X11_nextBubbles 10 rfl)
def f_X11_bubblesIn_p3_0 (S : xSt) (r0 : Nat) (a1 : Int) (a2 : Int) : Option ((Int ⊕ Nat) × xSt) :=
  if wr a1 < wr 1 then
    (some (Sum.inr 2, S))
  else
    (if wr a1 ≤ wr 500 then
      (if wr a2 < wr 1 then
        (some (Sum.inr 2, S))
      else
        (if wr a2 ≤ wr 8 then
          (bd (f_X0_copyFrom_p1_0_1_0 S (r0 + 2) (r0 + 1)) fun S2 =>
          bd2 (f_X0_decodeFor_p1_0 S2 (r0 + 2) a1) fun v5 S4 =>
          ckI a2 9 <|
          ckI a2 9 <|
          some (Sum.inl ((gI S4 (r0 + 2) 16 (wr a2).toNat) - (gI S4 (r0 + 1) 16 (wr a2).toNat)), S4))
        else
          (some (Sum.inr 2, S))))
    else
      (some (Sum.inr 2, S)))
set_option maxRecDepth 100000 in
set_option maxHeartbeats 4000000 in
theorem c_X11_bubblesIn_p3_0 (l : Launch) (htr : l.stackTraces = false) {E : xE} {S S' : xSt} {r0 : Nat} {a1 : Int} {a2 : Int} (hk0 : xkd E r0 = 3) (hA0 : xFam E r0) {x : Int ⊕ Nat} (h : f_X11_bubblesIn_p3_0 S r0 a1 a2 = some (x, S')) : vx_Met l yX11_bubblesIn (xws yX11_bubblesIn cX11_bubblesIn 3 (some .int)) (rmE 7 1) (YPc E [vr E r0 0, vi a1, vi a2] S) (YXi E x S') (YXC E x S') 1 6 (xA E) := by
  unfold f_X11_bubblesIn_p3_0 at h
  refine metX_i htr (by decide +kernel) (Nat.le_of_ble_eq_true rfl) (fun K hC hE => ?_)
  have hZ := xZX hE
  have hC : xOK K cX11_bubblesIn RX11 3 (rmE 7 1) := hC
  show WG K E 0 [(0, vr E r0 0), (1, vi a1), (2, vi a2)] [] S
  refine g_iload_n hC rfl 1 rfl (rfl : 0 + 1 = 1) (xdt tt_X11_bubblesIn 0 rfl) ?_
  refine g_iconst hC (rfl : 1 + 1 = 2) (xdt tt_X11_bubblesIn 1 rfl) ?_
  refine g_icmp_lt hC (show ((2 : Nat) : Int) + 10 = ((12 : Nat) : Int) by decide) (rfl : 2 + 3 = 5) (xdt tt_X11_bubblesIn 2 rfl) (fun hc11 => ?_) (fun hc11 => ?_)
  · replace h := (if_pos hc11).symm.trans h
    cases h
    exact g_throwW hC hE rfl (q := 31) rfl rfl fit2 q787 q788 at_202 (Nat.le_of_ble_eq_true rfl) (Nat.le_of_ble_eq_true rfl) (xdt tt_X11_bubblesIn 6 rfl) (xdt tt_X11_bubblesIn 7 rfl) (xdt tt_X11_bubblesIn 8 rfl) (xdt tt_X11_bubblesIn 9 rfl) (xdt tt_X11_bubblesIn 10 rfl)
  · replace h := (if_neg hc11).symm.trans h
    refine g_iload_n hC rfl 1 rfl (rfl : 5 + 1 = 6) (xdt tt_X11_bubblesIn 3 rfl) ?_
    refine g_sipush hC (by decide) (rfl : 6 + 3 = 9) (xdt tt_X11_bubblesIn 4 rfl) ?_
    refine g_icmp_le hC (show ((9 : Nat) : Int) + 14 = ((23 : Nat) : Int) by decide) (rfl : 9 + 3 = 12) (xdt tt_X11_bubblesIn 5 rfl) (fun hc10 => ?_) (fun hc10 => ?_)
    · replace h := (if_pos hc10).symm.trans h
      refine g_iload_n hC rfl 2 rfl (rfl : 23 + 1 = 24) (xdt tt_X11_bubblesIn 11 rfl) ?_
      refine g_iconst hC (rfl : 24 + 1 = 25) (xdt tt_X11_bubblesIn 12 rfl) ?_
      refine g_icmp_lt hC (show ((25 : Nat) : Int) + 9 = ((34 : Nat) : Int) by decide) (rfl : 25 + 3 = 28) (xdt tt_X11_bubblesIn 13 rfl) (fun hc9 => ?_) (fun hc9 => ?_)
      · replace h := (if_pos hc9).symm.trans h
        cases h
        exact g_throwS hC hE rfl (q := 28) rfl rfl fit2 q787 q788 at_202 (Nat.le_of_ble_eq_true rfl) (Nat.le_of_ble_eq_true rfl) (xdt tt_X11_bubblesIn 17 rfl) (xdt tt_X11_bubblesIn 18 rfl) (xdt tt_X11_bubblesIn 19 rfl) (xdt tt_X11_bubblesIn 20 rfl) (xdt tt_X11_bubblesIn 21 rfl)
      · replace h := (if_neg hc9).symm.trans h
        refine g_iload_n hC rfl 2 rfl (rfl : 28 + 1 = 29) (xdt tt_X11_bubblesIn 14 rfl) ?_
        refine g_bipush hC (by decide) (rfl : 29 + 2 = 31) (xdt tt_X11_bubblesIn 15 rfl) ?_
        refine g_icmp_le hC (show ((31 : Nat) : Int) + 13 = ((44 : Nat) : Int) by decide) (rfl : 31 + 3 = 34) (xdt tt_X11_bubblesIn 16 rfl) (fun hc8 => ?_) (fun hc8 => ?_)
        · replace h := (if_pos hc8).symm.trans h
          refine g_aload_n hC rfl 0 rfl (rfl : 44 + 1 = 45) (xdt tt_X11_bubblesIn 22 rfl) ?_
          refine g_getP hC hk0 kclX11 ly3_0 7 (by decide) (rfl : r0 + 2 = (r0 + 2)) rfl q32 (rfl : 45 + 3 = 48) (xdt tt_X11_bubblesIn 23 rfl) ?_
          refine g_aload_n hC rfl 0 rfl (rfl : 48 + 1 = 49) (xdt tt_X11_bubblesIn 24 rfl) ?_
          refine g_getP hC hk0 kclX11 ly3_0 6 (by decide) (rfl : r0 + 1 = (r0 + 1)) rfl q31 (rfl : 49 + 3 = 52) (xdt tt_X11_bubblesIn 25 rfl) ?_
          obtain ⟨S2, hc1, h⟩ := bd_i h
          refine g_callVv hC hZ (hA0 2 (by decide) (by decide)) kclX0 ly1_0 m_X0_copyFrom q1357 (Nat.le_of_ble_eq_true rfl) [vr E (r0 + 1) 0] rfl (fun l => c_X0_copyFrom_p1_0_1_0 l (hA0 2 (by decide) (by decide)) (hA0 1 (by decide) (by decide)) hc1) rfl (Nat.le_of_ble_eq_true rfl) (rfl : 52 + 3 = 55) (xdt tt_X11_bubblesIn 26 rfl) ?_
          refine g_aload_n hC rfl 0 rfl (rfl : 55 + 1 = 56) (xdt tt_X11_bubblesIn 27 rfl) ?_
          refine g_getP hC hk0 kclX11 ly3_0 7 (by decide) (rfl : r0 + 2 = (r0 + 2)) rfl q32 (rfl : 56 + 3 = 59) (xdt tt_X11_bubblesIn 28 rfl) ?_
          refine g_iload_n hC rfl 1 rfl (rfl : 59 + 1 = 60) (xdt tt_X11_bubblesIn 29 rfl) ?_
          obtain ⟨v5, S4, hc3, h⟩ := bd2_i h
          refine g_callVi hC hZ (hA0 2 (by decide) (by decide)) kclX0 ly1_0 m_X0_decodeFor q1025 (Nat.le_of_ble_eq_true rfl) [vi a1] rfl (fun l => c_X0_decodeFor_p1_0 l (hA0 2 (by decide) (by decide)) hc3) rfl (Nat.le_of_ble_eq_true rfl) (rfl : 60 + 3 = 63) (xdt tt_X11_bubblesIn 30 rfl) ?_
          refine g_pop hC rfl (rfl : 63 + 1 = 64) (xdt tt_X11_bubblesIn 31 rfl) ?_
          refine g_aload_n hC rfl 0 rfl (rfl : 64 + 1 = 65) (xdt tt_X11_bubblesIn 32 rfl) ?_
          refine g_getP hC hk0 kclX11 ly3_0 7 (by decide) (rfl : r0 + 2 = (r0 + 2)) rfl q32 (rfl : 65 + 3 = 68) (xdt tt_X11_bubblesIn 33 rfl) ?_
          refine g_getP hC (hA0 2 (by decide) (by decide)) kclX0 ly1_0 7 (by decide) (rfl : (r0 + 2) + 0 = (r0 + 2)) rfl q590 (rfl : 68 + 3 = 71) (xdt tt_X11_bubblesIn 34 rfl) ?_
          refine g_getP hC (hA0 2 (by decide) (by decide)) kclX9 ly1_14 1 (by decide) (rfl : (r0 + 2) + 0 = (r0 + 2)) rfl q864 (rfl : 71 + 3 = 74) (xdt tt_X11_bubblesIn 35 rfl) ?_
          refine g_iload_n hC rfl 2 rfl (rfl : 74 + 1 = 75) (xdt tt_X11_bubblesIn 36 rfl) ?_
          obtain ⟨hi6, h⟩ := ckI_i h
          refine g_iald hC (hA0 2 (by decide) (by decide)) ly1_16 hi6 (rfl : 75 + 1 = 76) (xdt tt_X11_bubblesIn 37 rfl) (k0 := (wr a2).toNat) rfl ?_
          refine g_aload_n hC rfl 0 rfl (rfl : 76 + 1 = 77) (xdt tt_X11_bubblesIn 38 rfl) ?_
          refine g_getP hC hk0 kclX11 ly3_0 6 (by decide) (rfl : r0 + 1 = (r0 + 1)) rfl q31 (rfl : 77 + 3 = 80) (xdt tt_X11_bubblesIn 39 rfl) ?_
          refine g_getP hC (hA0 1 (by decide) (by decide)) kclX0 ly1_0 7 (by decide) (rfl : (r0 + 1) + 0 = (r0 + 1)) rfl q590 (rfl : 80 + 3 = 83) (xdt tt_X11_bubblesIn 40 rfl) ?_
          refine g_getP hC (hA0 1 (by decide) (by decide)) kclX9 ly1_14 1 (by decide) (rfl : (r0 + 1) + 0 = (r0 + 1)) rfl q864 (rfl : 83 + 3 = 86) (xdt tt_X11_bubblesIn 41 rfl) ?_
          refine g_iload_n hC rfl 2 rfl (rfl : 86 + 1 = 87) (xdt tt_X11_bubblesIn 42 rfl) ?_
          obtain ⟨hi7, h⟩ := ckI_i h
          refine g_iald hC (hA0 1 (by decide) (by decide)) ly1_16 hi7 (rfl : 87 + 1 = 88) (xdt tt_X11_bubblesIn 43 rfl) (k0 := (wr a2).toNat) rfl ?_
          refine g_isub hC (rfl : 88 + 1 = 89) (xdt tt_X11_bubblesIn 44 rfl) ?_
          cases h
          exact g_iretX hC hE rfl (xdt tt_X11_bubblesIn 45 rfl)
        · replace h := (if_neg hc8).symm.trans h
          cases h
          exact g_throwS hC hE rfl (q := 28) rfl rfl fit2 q787 q788 at_202 (Nat.le_of_ble_eq_true rfl) (Nat.le_of_ble_eq_true rfl) (xdt tt_X11_bubblesIn 17 rfl) (xdt tt_X11_bubblesIn 18 rfl) (xdt tt_X11_bubblesIn 19 rfl) (xdt tt_X11_bubblesIn 20 rfl) (xdt tt_X11_bubblesIn 21 rfl)
    · replace h := (if_neg hc10).symm.trans h
      cases h
      exact g_throwW hC hE rfl (q := 31) rfl rfl fit2 q787 q788 at_202 (Nat.le_of_ble_eq_true rfl) (Nat.le_of_ble_eq_true rfl) (xdt tt_X11_bubblesIn 6 rfl) (xdt tt_X11_bubblesIn 7 rfl) (xdt tt_X11_bubblesIn 8 rfl) (xdt tt_X11_bubblesIn 9 rfl) (xdt tt_X11_bubblesIn 10 rfl)
def f_X11_roomNeeded_p3_0_b44 (r0 : Nat) : Nat → xSt → Int → Int → Int → Option ((Int ⊕ Nat) × xSt)
  | 0, _, _, _, _ => none
  | fuel + 1, S, x1, x2, x3 =>
    if wr x1 ≤ wr x3 then
      (some (Sum.inl x2, S))
    else
      (bd (f_X0_passCycle_p1_0 S (r0 + 2)) fun S4 =>
      (f_X11_roomNeeded_p3_0_b44 r0 fuel) S4 x1 (iMax x2 (gI S4 (r0 + 2) 0 14)) (x3 + 1))
def f_X11_roomNeeded_p3_0 (S : xSt) (r0 : Nat) (a1 : Int) : Option ((Int ⊕ Nat) × xSt) :=
  if wr a1 < wr 1 then
    (some (Sum.inr 2, S))
  else
    (if wr a1 ≤ wr 500 then
      (bd (f_X0_copyFrom_p1_0_1_0 S (r0 + 2) (r0 + 1)) fun S2 =>
      f_X11_roomNeeded_p3_0_b44 r0 (fu S2) S2 a1 (gI S2 (r0 + 2) 0 14) 0)
    else
      (some (Sum.inr 2, S)))
set_option maxRecDepth 100000 in
set_option maxHeartbeats 4000000 in
theorem k_X11_roomNeeded_p3_0_b44 {K : xCtx} {E : xE} (hC : xOK K cX11_roomNeeded RX11 4 (rmE 6 1)) (hZ : xZ K) {x : Int ⊕ Nat} {S' : xSt} (hE : xEndX K E (some .int) (YXi E x S') (YXC E x S')) {r0 : Nat} (hk0 : xkd E r0 = 3) (hA0 : xFam E r0) : ∀ (fuel : Nat) (S : xSt) (x1 : Int) (x2 : Int) (x3 : Int), f_X11_roomNeeded_p3_0_b44 r0 fuel S x1 x2 x3 = some (x, S') → WG K E 44 [(0, vr E r0 0), (1, vi x1), (2, vi x2), (3, vi x3)] [] S := by
  intro fuel
  induction fuel with
  | zero => intro S x1 x2 x3 h; cases h
  | succ fuel ih =>
    intro S x1 x2 x3 h
    rw [f_X11_roomNeeded_p3_0_b44] at h
    refine g_iload_n hC rfl 3 rfl (rfl : 44 + 1 = 45) (xdt tt_X11_roomNeeded 22 rfl) ?_
    refine g_iload_n hC rfl 1 rfl (rfl : 45 + 1 = 46) (xdt tt_X11_roomNeeded 23 rfl) ?_
    refine g_icmp_ge hC (show ((46 : Nat) : Int) + 28 = ((74 : Nat) : Int) by decide) (rfl : 46 + 3 = 49) (xdt tt_X11_roomNeeded 24 rfl) (fun hc5 => ?_) (fun hc5 => ?_)
    · replace h := (if_pos hc5).symm.trans h
      refine g_iload_n hC rfl 2 rfl (rfl : 74 + 1 = 75) (xdt tt_X11_roomNeeded 36 rfl) ?_
      cases h
      exact g_iretX hC hE rfl (xdt tt_X11_roomNeeded 37 rfl)
    · replace h := (if_neg hc5).symm.trans h
      refine g_aload_n hC rfl 0 rfl (rfl : 49 + 1 = 50) (xdt tt_X11_roomNeeded 25 rfl) ?_
      refine g_getP hC hk0 kclX11 ly3_0 7 (by decide) (rfl : r0 + 2 = (r0 + 2)) rfl q32 (rfl : 50 + 3 = 53) (xdt tt_X11_roomNeeded 26 rfl) ?_
      obtain ⟨S4, hc3, h⟩ := bd_i h
      refine g_callVv hC hZ (hA0 2 (by decide) (by decide)) kclX0 ly1_0 m_X0_passCycle q1241 (Nat.le_of_ble_eq_true rfl) [] rfl (fun l => c_X0_passCycle_p1_0 l (hA0 2 (by decide) (by decide)) hc3) rfl (Nat.le_of_ble_eq_true rfl) (rfl : 53 + 3 = 56) (xdt tt_X11_roomNeeded 27 rfl) ?_
      refine g_iload_n hC rfl 2 rfl (rfl : 56 + 1 = 57) (xdt tt_X11_roomNeeded 28 rfl) ?_
      refine g_aload_n hC rfl 0 rfl (rfl : 57 + 1 = 58) (xdt tt_X11_roomNeeded 29 rfl) ?_
      refine g_getP hC hk0 kclX11 ly3_0 7 (by decide) (rfl : r0 + 2 = (r0 + 2)) rfl q32 (rfl : 58 + 3 = 61) (xdt tt_X11_roomNeeded 30 rfl) ?_
      refine g_getI hC (hA0 2 (by decide) (by decide)) kclX0 ly1_0 14 (by decide) rfl q594 (rfl : 61 + 3 = 64) (xdt tt_X11_roomNeeded 31 rfl) ?_
      refine g_mmax hC hZ q1404 q315 q291 q316 (Nat.le_of_ble_eq_true rfl) (Nat.le_of_ble_eq_true rfl) (rfl : 64 + 3 = 67) (xdt tt_X11_roomNeeded 32 rfl) ?_
      refine g_istore_n hC rfl (by decide) (lv' := [(2, vi (iMax x2 (gI S4 (r0 + 2) 0 14))), (0, vr E r0 0), (1, vi x1), (3, vi x3)]) rfl (rfl : 67 + 1 = 68) (xdt tt_X11_roomNeeded 33 rfl) ?_
      refine g_iinc hC 3 rfl (by decide) (lv' := [(3, vi (x3 + 1)), (2, vi (iMax x2 (gI S4 (r0 + 2) 0 14))), (0, vr E r0 0), (1, vi x1)]) rfl (rfl : 68 + 3 = 71) (xdt tt_X11_roomNeeded 34 rfl) ?_
      refine g_goto hC (show ((71 : Nat) : Int) + (-27) = ((44 : Nat) : Int) by decide) (xdt tt_X11_roomNeeded 35 rfl) ?_
      refine g_sub [2, 3, 1, 0] (lv' := [(0, vr E r0 0), (1, vi x1), (2, vi (iMax x2 (gI S4 (r0 + 2) 0 14))), (3, vi (x3 + 1))]) rfl ?_
      exact ih _ _ _ _ h
set_option maxRecDepth 100000 in
set_option maxHeartbeats 4000000 in
theorem c_X11_roomNeeded_p3_0 (l : Launch) (htr : l.stackTraces = false) {E : xE} {S S' : xSt} {r0 : Nat} {a1 : Int} (hk0 : xkd E r0 = 3) (hA0 : xFam E r0) {x : Int ⊕ Nat} (h : f_X11_roomNeeded_p3_0 S r0 a1 = some (x, S')) : vx_Met l yX11_roomNeeded (xws yX11_roomNeeded cX11_roomNeeded 4 (some .int)) (rmE 6 1) (YPc E [vr E r0 0, vi a1] S) (YXi E x S') (YXC E x S') 1 6 (xA E) := by
  unfold f_X11_roomNeeded_p3_0 at h
  refine metX_i htr (by decide +kernel) (Nat.le_of_ble_eq_true rfl) (fun K hC hE => ?_)
  have hZ := xZX hE
  have hC : xOK K cX11_roomNeeded RX11 4 (rmE 6 1) := hC
  show WG K E 0 [(0, vr E r0 0), (1, vi a1)] [] S
  refine g_iload_n hC rfl 1 rfl (rfl : 0 + 1 = 1) (xdt tt_X11_roomNeeded 0 rfl) ?_
  refine g_iconst hC (rfl : 1 + 1 = 2) (xdt tt_X11_roomNeeded 1 rfl) ?_
  refine g_icmp_lt hC (show ((2 : Nat) : Int) + 10 = ((12 : Nat) : Int) by decide) (rfl : 2 + 3 = 5) (xdt tt_X11_roomNeeded 2 rfl) (fun hc7 => ?_) (fun hc7 => ?_)
  · replace h := (if_pos hc7).symm.trans h
    cases h
    exact g_throwW hC hE rfl (q := 31) rfl rfl fit2 q787 q788 at_202 (Nat.le_of_ble_eq_true rfl) (Nat.le_of_ble_eq_true rfl) (xdt tt_X11_roomNeeded 6 rfl) (xdt tt_X11_roomNeeded 7 rfl) (xdt tt_X11_roomNeeded 8 rfl) (xdt tt_X11_roomNeeded 9 rfl) (xdt tt_X11_roomNeeded 10 rfl)
  · replace h := (if_neg hc7).symm.trans h
    refine g_iload_n hC rfl 1 rfl (rfl : 5 + 1 = 6) (xdt tt_X11_roomNeeded 3 rfl) ?_
    refine g_sipush hC (by decide) (rfl : 6 + 3 = 9) (xdt tt_X11_roomNeeded 4 rfl) ?_
    refine g_icmp_le hC (show ((9 : Nat) : Int) + 14 = ((23 : Nat) : Int) by decide) (rfl : 9 + 3 = 12) (xdt tt_X11_roomNeeded 5 rfl) (fun hc6 => ?_) (fun hc6 => ?_)
    · replace h := (if_pos hc6).symm.trans h
      refine g_aload_n hC rfl 0 rfl (rfl : 23 + 1 = 24) (xdt tt_X11_roomNeeded 11 rfl) ?_
      refine g_getP hC hk0 kclX11 ly3_0 7 (by decide) (rfl : r0 + 2 = (r0 + 2)) rfl q32 (rfl : 24 + 3 = 27) (xdt tt_X11_roomNeeded 12 rfl) ?_
      refine g_aload_n hC rfl 0 rfl (rfl : 27 + 1 = 28) (xdt tt_X11_roomNeeded 13 rfl) ?_
      refine g_getP hC hk0 kclX11 ly3_0 6 (by decide) (rfl : r0 + 1 = (r0 + 1)) rfl q31 (rfl : 28 + 3 = 31) (xdt tt_X11_roomNeeded 14 rfl) ?_
      obtain ⟨S2, hc1, h⟩ := bd_i h
      refine g_callVv hC hZ (hA0 2 (by decide) (by decide)) kclX0 ly1_0 m_X0_copyFrom q1357 (Nat.le_of_ble_eq_true rfl) [vr E (r0 + 1) 0] rfl (fun l => c_X0_copyFrom_p1_0_1_0 l (hA0 2 (by decide) (by decide)) (hA0 1 (by decide) (by decide)) hc1) rfl (Nat.le_of_ble_eq_true rfl) (rfl : 31 + 3 = 34) (xdt tt_X11_roomNeeded 15 rfl) ?_
      refine g_aload_n hC rfl 0 rfl (rfl : 34 + 1 = 35) (xdt tt_X11_roomNeeded 16 rfl) ?_
      refine g_getP hC hk0 kclX11 ly3_0 7 (by decide) (rfl : r0 + 2 = (r0 + 2)) rfl q32 (rfl : 35 + 3 = 38) (xdt tt_X11_roomNeeded 17 rfl) ?_
      refine g_getI hC (hA0 2 (by decide) (by decide)) kclX0 ly1_0 14 (by decide) rfl q594 (rfl : 38 + 3 = 41) (xdt tt_X11_roomNeeded 18 rfl) ?_
      refine g_istore_n hC rfl (by decide) (lv' := [(2, vi (gI S2 (r0 + 2) 0 14)), (0, vr E r0 0), (1, vi a1)]) rfl (rfl : 41 + 1 = 42) (xdt tt_X11_roomNeeded 19 rfl) ?_
      refine g_iconst hC (rfl : 42 + 1 = 43) (xdt tt_X11_roomNeeded 20 rfl) ?_
      refine g_istore_n hC rfl (by decide) (lv' := [(3, vi 0), (2, vi (gI S2 (r0 + 2) 0 14)), (0, vr E r0 0), (1, vi a1)]) rfl (rfl : 43 + 1 = 44) (xdt tt_X11_roomNeeded 21 rfl) ?_
      refine g_sub [2, 3, 1, 0] (lv' := [(0, vr E r0 0), (1, vi a1), (2, vi (gI S2 (r0 + 2) 0 14)), (3, vi 0)]) rfl ?_
      exact k_X11_roomNeeded_p3_0_b44 hC hZ hE hk0 hA0 _ _ _ _ _ h
    · replace h := (if_neg hc6).symm.trans h
      cases h
      exact g_throwW hC hE rfl (q := 31) rfl rfl fit2 q787 q788 at_202 (Nat.le_of_ble_eq_true rfl) (Nat.le_of_ble_eq_true rfl) (xdt tt_X11_roomNeeded 6 rfl) (xdt tt_X11_roomNeeded 7 rfl) (xdt tt_X11_roomNeeded 8 rfl) (xdt tt_X11_roomNeeded 9 rfl) (xdt tt_X11_roomNeeded 10 rfl)
def f_X11_bestLanes_p3_0 (S : xSt) (r0 : Nat) (a1 : Int) : Option ((Int ⊕ Nat) × xSt) :=
  if wr a1 < wr 1 then
    (some (Sum.inr 2, S))
  else
    (if wr a1 ≤ wr 500 then
      (bd2 (f_X11_bestValue_p3_0 S r0 0 a1) fun v3 S2 =>
      some (Sum.inl v3, S2))
    else
      (some (Sum.inr 2, S)))
set_option maxRecDepth 100000 in
set_option maxHeartbeats 4000000 in
theorem c_X11_bestLanes_p3_0 (l : Launch) (htr : l.stackTraces = false) {E : xE} {S S' : xSt} {r0 : Nat} {a1 : Int} (hk0 : xkd E r0 = 3) (hA0 : xFam E r0) {x : Int ⊕ Nat} (h : f_X11_bestLanes_p3_0 S r0 a1 = some (x, S')) : vx_Met l yX11_bestLanes (xws yX11_bestLanes cX11_bestLanes 2 (some .int)) (rmE 8 1) (YPc E [vr E r0 0, vi a1] S) (YXi E x S') (YXC E x S') 1 6 (xA E) := by
  unfold f_X11_bestLanes_p3_0 at h
  refine metX_i htr (by decide +kernel) (Nat.le_of_ble_eq_true rfl) (fun K hC hE => ?_)
  have hZ := xZX hE
  have hC : xOK K cX11_bestLanes RX11 2 (rmE 8 1) := hC
  show WG K E 0 [(0, vr E r0 0), (1, vi a1)] [] S
  refine g_iload_n hC rfl 1 rfl (rfl : 0 + 1 = 1) (xdt tt_X11_bestLanes 0 rfl) ?_
  refine g_iconst hC (rfl : 1 + 1 = 2) (xdt tt_X11_bestLanes 1 rfl) ?_
  refine g_icmp_lt hC (show ((2 : Nat) : Int) + 10 = ((12 : Nat) : Int) by decide) (rfl : 2 + 3 = 5) (xdt tt_X11_bestLanes 2 rfl) (fun hc5 => ?_) (fun hc5 => ?_)
  · replace h := (if_pos hc5).symm.trans h
    cases h
    exact g_throwW hC hE rfl (q := 31) rfl rfl fit2 q787 q788 at_202 (Nat.le_of_ble_eq_true rfl) (Nat.le_of_ble_eq_true rfl) (xdt tt_X11_bestLanes 6 rfl) (xdt tt_X11_bestLanes 7 rfl) (xdt tt_X11_bestLanes 8 rfl) (xdt tt_X11_bestLanes 9 rfl) (xdt tt_X11_bestLanes 10 rfl)
  · replace h := (if_neg hc5).symm.trans h
    refine g_iload_n hC rfl 1 rfl (rfl : 5 + 1 = 6) (xdt tt_X11_bestLanes 3 rfl) ?_
    refine g_sipush hC (by decide) (rfl : 6 + 3 = 9) (xdt tt_X11_bestLanes 4 rfl) ?_
    refine g_icmp_le hC (show ((9 : Nat) : Int) + 14 = ((23 : Nat) : Int) by decide) (rfl : 9 + 3 = 12) (xdt tt_X11_bestLanes 5 rfl) (fun hc4 => ?_) (fun hc4 => ?_)
    · replace h := (if_pos hc4).symm.trans h
      refine g_aload_n hC rfl 0 rfl (rfl : 23 + 1 = 24) (xdt tt_X11_bestLanes 11 rfl) ?_
      refine g_iconst hC (rfl : 24 + 1 = 25) (xdt tt_X11_bestLanes 12 rfl) ?_
      refine g_iload_n hC rfl 1 rfl (rfl : 25 + 1 = 26) (xdt tt_X11_bestLanes 13 rfl) ?_
      obtain ⟨v3, S2, hc1, h⟩ := bd2_i h
      refine g_callVi hC hZ hk0 kclX11 ly3_0 m_X11_bestValue q1416 (Nat.le_of_ble_eq_true rfl) [vi 0, vi a1] rfl (fun l => c_X11_bestValue_p3_0 l hk0 hA0 hc1) rfl (Nat.le_of_ble_eq_true rfl) (rfl : 26 + 3 = 29) (xdt tt_X11_bestLanes 14 rfl) ?_
      cases h
      exact g_iretX hC hE rfl (xdt tt_X11_bestLanes 15 rfl)
    · replace h := (if_neg hc4).symm.trans h
      cases h
      exact g_throwW hC hE rfl (q := 31) rfl rfl fit2 q787 q788 at_202 (Nat.le_of_ble_eq_true rfl) (Nat.le_of_ble_eq_true rfl) (xdt tt_X11_bestLanes 6 rfl) (xdt tt_X11_bestLanes 7 rfl) (xdt tt_X11_bestLanes 8 rfl) (xdt tt_X11_bestLanes 9 rfl) (xdt tt_X11_bestLanes 10 rfl)
def f_X11_bestRate_p3_0 (S : xSt) (r0 : Nat) (a1 : Int) : Option ((Int ⊕ Nat) × xSt) :=
  if wr a1 < wr 1 then
    (some (Sum.inr 2, S))
  else
    (if wr a1 ≤ wr 500 then
      (bd2 (f_X11_bestValue_p3_0 S r0 4 a1) fun v3 S2 =>
      some (Sum.inl v3, S2))
    else
      (some (Sum.inr 2, S)))
set_option maxRecDepth 100000 in
set_option maxHeartbeats 4000000 in
theorem c_X11_bestRate_p3_0 (l : Launch) (htr : l.stackTraces = false) {E : xE} {S S' : xSt} {r0 : Nat} {a1 : Int} (hk0 : xkd E r0 = 3) (hA0 : xFam E r0) {x : Int ⊕ Nat} (h : f_X11_bestRate_p3_0 S r0 a1 = some (x, S')) : vx_Met l yX11_bestRate (xws yX11_bestRate cX11_bestRate 2 (some .int)) (rmE 8 1) (YPc E [vr E r0 0, vi a1] S) (YXi E x S') (YXC E x S') 1 6 (xA E) := by
  unfold f_X11_bestRate_p3_0 at h
  refine metX_i htr (by decide +kernel) (Nat.le_of_ble_eq_true rfl) (fun K hC hE => ?_)
  have hZ := xZX hE
  have hC : xOK K cX11_bestRate RX11 2 (rmE 8 1) := hC
  show WG K E 0 [(0, vr E r0 0), (1, vi a1)] [] S
  refine g_iload_n hC rfl 1 rfl (rfl : 0 + 1 = 1) (xdt tt_X11_bestRate 0 rfl) ?_
  refine g_iconst hC (rfl : 1 + 1 = 2) (xdt tt_X11_bestRate 1 rfl) ?_
  refine g_icmp_lt hC (show ((2 : Nat) : Int) + 10 = ((12 : Nat) : Int) by decide) (rfl : 2 + 3 = 5) (xdt tt_X11_bestRate 2 rfl) (fun hc5 => ?_) (fun hc5 => ?_)
  · replace h := (if_pos hc5).symm.trans h
    cases h
    exact g_throwW hC hE rfl (q := 31) rfl rfl fit2 q787 q788 at_202 (Nat.le_of_ble_eq_true rfl) (Nat.le_of_ble_eq_true rfl) (xdt tt_X11_bestRate 6 rfl) (xdt tt_X11_bestRate 7 rfl) (xdt tt_X11_bestRate 8 rfl) (xdt tt_X11_bestRate 9 rfl) (xdt tt_X11_bestRate 10 rfl)
  · replace h := (if_neg hc5).symm.trans h
    refine g_iload_n hC rfl 1 rfl (rfl : 5 + 1 = 6) (xdt tt_X11_bestRate 3 rfl) ?_
    refine g_sipush hC (by decide) (rfl : 6 + 3 = 9) (xdt tt_X11_bestRate 4 rfl) ?_
    refine g_icmp_le hC (show ((9 : Nat) : Int) + 14 = ((23 : Nat) : Int) by decide) (rfl : 9 + 3 = 12) (xdt tt_X11_bestRate 5 rfl) (fun hc4 => ?_) (fun hc4 => ?_)
    · replace h := (if_pos hc4).symm.trans h
      refine g_aload_n hC rfl 0 rfl (rfl : 23 + 1 = 24) (xdt tt_X11_bestRate 11 rfl) ?_
      refine g_iconst hC (rfl : 24 + 1 = 25) (xdt tt_X11_bestRate 12 rfl) ?_
      refine g_iload_n hC rfl 1 rfl (rfl : 25 + 1 = 26) (xdt tt_X11_bestRate 13 rfl) ?_
      obtain ⟨v3, S2, hc1, h⟩ := bd2_i h
      refine g_callVi hC hZ hk0 kclX11 ly3_0 m_X11_bestValue q1416 (Nat.le_of_ble_eq_true rfl) [vi 4, vi a1] rfl (fun l => c_X11_bestValue_p3_0 l hk0 hA0 hc1) rfl (Nat.le_of_ble_eq_true rfl) (rfl : 26 + 3 = 29) (xdt tt_X11_bestRate 14 rfl) ?_
      cases h
      exact g_iretX hC hE rfl (xdt tt_X11_bestRate 15 rfl)
    · replace h := (if_neg hc4).symm.trans h
      cases h
      exact g_throwW hC hE rfl (q := 31) rfl rfl fit2 q787 q788 at_202 (Nat.le_of_ble_eq_true rfl) (Nat.le_of_ble_eq_true rfl) (xdt tt_X11_bestRate 6 rfl) (xdt tt_X11_bestRate 7 rfl) (xdt tt_X11_bestRate 8 rfl) (xdt tt_X11_bestRate 9 rfl) (xdt tt_X11_bestRate 10 rfl)
def f_X11_bestLoop_p3_0 (S : xSt) (r0 : Nat) (a1 : Int) : Option ((Int ⊕ Nat) × xSt) :=
  if wr a1 < wr 1 then
    (some (Sum.inr 2, S))
  else
    (if wr a1 ≤ wr 500 then
      (bd2 (f_X11_bestValue_p3_0 S r0 5 a1) fun v3 S2 =>
      some (Sum.inl v3, S2))
    else
      (some (Sum.inr 2, S)))
set_option maxRecDepth 100000 in
set_option maxHeartbeats 4000000 in
theorem c_X11_bestLoop_p3_0 (l : Launch) (htr : l.stackTraces = false) {E : xE} {S S' : xSt} {r0 : Nat} {a1 : Int} (hk0 : xkd E r0 = 3) (hA0 : xFam E r0) {x : Int ⊕ Nat} (h : f_X11_bestLoop_p3_0 S r0 a1 = some (x, S')) : vx_Met l yX11_bestLoop (xws yX11_bestLoop cX11_bestLoop 2 (some .int)) (rmE 8 1) (YPc E [vr E r0 0, vi a1] S) (YXi E x S') (YXC E x S') 1 6 (xA E) := by
  unfold f_X11_bestLoop_p3_0 at h
  refine metX_i htr (by decide +kernel) (Nat.le_of_ble_eq_true rfl) (fun K hC hE => ?_)
  have hZ := xZX hE
  have hC : xOK K cX11_bestLoop RX11 2 (rmE 8 1) := hC
  show WG K E 0 [(0, vr E r0 0), (1, vi a1)] [] S
  refine g_iload_n hC rfl 1 rfl (rfl : 0 + 1 = 1) (xdt tt_X11_bestLoop 0 rfl) ?_
  refine g_iconst hC (rfl : 1 + 1 = 2) (xdt tt_X11_bestLoop 1 rfl) ?_
  refine g_icmp_lt hC (show ((2 : Nat) : Int) + 10 = ((12 : Nat) : Int) by decide) (rfl : 2 + 3 = 5) (xdt tt_X11_bestLoop 2 rfl) (fun hc5 => ?_) (fun hc5 => ?_)
  · replace h := (if_pos hc5).symm.trans h
    cases h
    exact g_throwW hC hE rfl (q := 31) rfl rfl fit2 q787 q788 at_202 (Nat.le_of_ble_eq_true rfl) (Nat.le_of_ble_eq_true rfl) (xdt tt_X11_bestLoop 6 rfl) (xdt tt_X11_bestLoop 7 rfl) (xdt tt_X11_bestLoop 8 rfl) (xdt tt_X11_bestLoop 9 rfl) (xdt tt_X11_bestLoop 10 rfl)
  · replace h := (if_neg hc5).symm.trans h
    refine g_iload_n hC rfl 1 rfl (rfl : 5 + 1 = 6) (xdt tt_X11_bestLoop 3 rfl) ?_
    refine g_sipush hC (by decide) (rfl : 6 + 3 = 9) (xdt tt_X11_bestLoop 4 rfl) ?_
    refine g_icmp_le hC (show ((9 : Nat) : Int) + 14 = ((23 : Nat) : Int) by decide) (rfl : 9 + 3 = 12) (xdt tt_X11_bestLoop 5 rfl) (fun hc4 => ?_) (fun hc4 => ?_)
    · replace h := (if_pos hc4).symm.trans h
      refine g_aload_n hC rfl 0 rfl (rfl : 23 + 1 = 24) (xdt tt_X11_bestLoop 11 rfl) ?_
      refine g_iconst hC (rfl : 24 + 1 = 25) (xdt tt_X11_bestLoop 12 rfl) ?_
      refine g_iload_n hC rfl 1 rfl (rfl : 25 + 1 = 26) (xdt tt_X11_bestLoop 13 rfl) ?_
      obtain ⟨v3, S2, hc1, h⟩ := bd2_i h
      refine g_callVi hC hZ hk0 kclX11 ly3_0 m_X11_bestValue q1416 (Nat.le_of_ble_eq_true rfl) [vi 5, vi a1] rfl (fun l => c_X11_bestValue_p3_0 l hk0 hA0 hc1) rfl (Nat.le_of_ble_eq_true rfl) (rfl : 26 + 3 = 29) (xdt tt_X11_bestLoop 14 rfl) ?_
      cases h
      exact g_iretX hC hE rfl (xdt tt_X11_bestLoop 15 rfl)
    · replace h := (if_neg hc4).symm.trans h
      cases h
      exact g_throwW hC hE rfl (q := 31) rfl rfl fit2 q787 q788 at_202 (Nat.le_of_ble_eq_true rfl) (Nat.le_of_ble_eq_true rfl) (xdt tt_X11_bestLoop 6 rfl) (xdt tt_X11_bestLoop 7 rfl) (xdt tt_X11_bestLoop 8 rfl) (xdt tt_X11_bestLoop 9 rfl) (xdt tt_X11_bestLoop 10 rfl)
def f_X11_cyclesUntil_p3_0_b51 (r0 : Nat) : Nat → xSt → Int → Int → Int → Option ((Int ⊕ Nat) × xSt)
  | 0, _, _, _, _ => none
  | fuel + 1, S, x1, x2, x3 =>
    if wr 500 < wr x3 then
      (some (Sum.inl (-1), S))
    else
      (bd (f_X0_passCycle_p1_0 S (r0 + 2)) fun S6 =>
      ckI x1 60 <|
      if wr (gI S6 (r0 + 2) 17 (wr x1).toNat) ≤ wr x2 then
        ((f_X11_cyclesUntil_p3_0_b51 r0 fuel) S6 x1 x2 (x3 + 1))
      else
        (some (Sum.inl x3, S6)))
def f_X11_cyclesUntil_p3_0 (S : xSt) (r0 : Nat) (a1 : Int) : Option ((Int ⊕ Nat) × xSt) :=
  if wr a1 < 0 then
    (some (Sum.inr 1, S))
  else
    (ckP S r0 0 4 2 0 fun rg1 =>
    if wr a1 < wr (gI S rg1 0 10) then
      (bd (f_X0_copyFrom_p1_0_1_0 S (r0 + 2) (r0 + 1)) fun S3 =>
      ckI a1 60 <|
      f_X11_cyclesUntil_p3_0_b51 r0 (fu S3) S3 a1 (gI S3 (r0 + 1) 17 (wr a1).toNat) 1)
    else
      (some (Sum.inr 1, S)))
set_option maxRecDepth 100000 in
set_option maxHeartbeats 4000000 in
theorem k_X11_cyclesUntil_p3_0_b51 {K : xCtx} {E : xE} (hC : xOK K cX11_cyclesUntil RX11 4 (rmE 6 1)) (hZ : xZ K) {x : Int ⊕ Nat} {S' : xSt} (hE : xEndX K E (some .int) (YXi E x S') (YXC E x S')) {r0 : Nat} (hk0 : xkd E r0 = 3) (hA0 : xFam E r0) : ∀ (fuel : Nat) (S : xSt) (x1 : Int) (x2 : Int) (x3 : Int), f_X11_cyclesUntil_p3_0_b51 r0 fuel S x1 x2 x3 = some (x, S') → WG K E 51 [(0, vr E r0 0), (1, vi x1), (2, vi x2), (3, vi x3)] [] S := by
  intro fuel
  induction fuel with
  | zero => intro S x1 x2 x3 h; cases h
  | succ fuel ih =>
    intro S x1 x2 x3 h
    rw [f_X11_cyclesUntil_p3_0_b51] at h
    refine g_iload_n hC rfl 3 rfl (rfl : 51 + 1 = 52) (xdt tt_X11_cyclesUntil 26 rfl) ?_
    refine g_sipush hC (by decide) (rfl : 52 + 3 = 55) (xdt tt_X11_cyclesUntil 27 rfl) ?_
    refine g_icmp_gt hC (show ((55 : Nat) : Int) + 34 = ((89 : Nat) : Int) by decide) (rfl : 55 + 3 = 58) (xdt tt_X11_cyclesUntil 28 rfl) (fun hc9 => ?_) (fun hc9 => ?_)
    · replace h := (if_pos hc9).symm.trans h
      refine g_iconst hC (rfl : 89 + 1 = 90) (xdt tt_X11_cyclesUntil 44 rfl) ?_
      cases h
      exact g_iretX hC hE rfl (xdt tt_X11_cyclesUntil 45 rfl)
    · replace h := (if_neg hc9).symm.trans h
      refine g_aload_n hC rfl 0 rfl (rfl : 58 + 1 = 59) (xdt tt_X11_cyclesUntil 29 rfl) ?_
      refine g_getP hC hk0 kclX11 ly3_0 7 (by decide) (rfl : r0 + 2 = (r0 + 2)) rfl q32 (rfl : 59 + 3 = 62) (xdt tt_X11_cyclesUntil 30 rfl) ?_
      obtain ⟨S6, hc5, h⟩ := bd_i h
      refine g_callVv hC hZ (hA0 2 (by decide) (by decide)) kclX0 ly1_0 m_X0_passCycle q1241 (Nat.le_of_ble_eq_true rfl) [] rfl (fun l => c_X0_passCycle_p1_0 l (hA0 2 (by decide) (by decide)) hc5) rfl (Nat.le_of_ble_eq_true rfl) (rfl : 62 + 3 = 65) (xdt tt_X11_cyclesUntil 31 rfl) ?_
      refine g_aload_n hC rfl 0 rfl (rfl : 65 + 1 = 66) (xdt tt_X11_cyclesUntil 32 rfl) ?_
      refine g_getP hC hk0 kclX11 ly3_0 7 (by decide) (rfl : r0 + 2 = (r0 + 2)) rfl q32 (rfl : 66 + 3 = 69) (xdt tt_X11_cyclesUntil 33 rfl) ?_
      refine g_getP hC (hA0 2 (by decide) (by decide)) kclX0 ly1_0 7 (by decide) (rfl : (r0 + 2) + 0 = (r0 + 2)) rfl q590 (rfl : 69 + 3 = 72) (xdt tt_X11_cyclesUntil 34 rfl) ?_
      refine g_getP hC (hA0 2 (by decide) (by decide)) kclX9 ly1_14 2 (by decide) (rfl : (r0 + 2) + 0 = (r0 + 2)) rfl q789 (rfl : 72 + 3 = 75) (xdt tt_X11_cyclesUntil 35 rfl) ?_
      refine g_iload_n hC rfl 1 rfl (rfl : 75 + 1 = 76) (xdt tt_X11_cyclesUntil 36 rfl) ?_
      obtain ⟨hi7, h⟩ := ckI_i h
      refine g_iald hC (hA0 2 (by decide) (by decide)) ly1_17 hi7 (rfl : 76 + 1 = 77) (xdt tt_X11_cyclesUntil 37 rfl) (k0 := (wr x1).toNat) rfl ?_
      refine g_iload_n hC rfl 2 rfl (rfl : 77 + 1 = 78) (xdt tt_X11_cyclesUntil 38 rfl) ?_
      refine g_icmp_le hC (show ((78 : Nat) : Int) + 5 = ((83 : Nat) : Int) by decide) (rfl : 78 + 3 = 81) (xdt tt_X11_cyclesUntil 39 rfl) (fun hc8 => ?_) (fun hc8 => ?_)
      · replace h := (if_pos hc8).symm.trans h
        refine g_iinc hC 3 rfl (by decide) (lv' := [(3, vi (x3 + 1)), (0, vr E r0 0), (1, vi x1), (2, vi x2)]) rfl (rfl : 83 + 3 = 86) (xdt tt_X11_cyclesUntil 42 rfl) ?_
        refine g_goto hC (show ((86 : Nat) : Int) + (-35) = ((51 : Nat) : Int) by decide) (xdt tt_X11_cyclesUntil 43 rfl) ?_
        refine g_sub [1, 2, 3, 0] (lv' := [(0, vr E r0 0), (1, vi x1), (2, vi x2), (3, vi (x3 + 1))]) rfl ?_
        exact ih _ _ _ _ h
      · replace h := (if_neg hc8).symm.trans h
        refine g_iload_n hC rfl 3 rfl (rfl : 81 + 1 = 82) (xdt tt_X11_cyclesUntil 40 rfl) ?_
        cases h
        exact g_iretX hC hE rfl (xdt tt_X11_cyclesUntil 41 rfl)
set_option maxRecDepth 100000 in
set_option maxHeartbeats 4000000 in
theorem c_X11_cyclesUntil_p3_0 (l : Launch) (htr : l.stackTraces = false) {E : xE} {S S' : xSt} {r0 : Nat} {a1 : Int} (hk0 : xkd E r0 = 3) (hA0 : xFam E r0) {x : Int ⊕ Nat} (h : f_X11_cyclesUntil_p3_0 S r0 a1 = some (x, S')) : vx_Met l yX11_cyclesUntil (xws yX11_cyclesUntil cX11_cyclesUntil 4 (some .int)) (rmE 6 1) (YPc E [vr E r0 0, vi a1] S) (YXi E x S') (YXC E x S') 1 6 (xA E) := by
  unfold f_X11_cyclesUntil_p3_0 at h
  refine metX_i htr (by decide +kernel) (Nat.le_of_ble_eq_true rfl) (fun K hC hE => ?_)
  have hZ := xZX hE
  have hC : xOK K cX11_cyclesUntil RX11 4 (rmE 6 1) := hC
  show WG K E 0 [(0, vr E r0 0), (1, vi a1)] [] S
  refine g_iload_n hC rfl 1 rfl (rfl : 0 + 1 = 1) (xdt tt_X11_cyclesUntil 0 rfl) ?_
  refine g_if_lt hC (show ((1 : Nat) : Int) + 14 = ((15 : Nat) : Int) by decide) (rfl : 1 + 3 = 4) (xdt tt_X11_cyclesUntil 1 rfl) (fun hc11 => ?_) (fun hc11 => ?_)
  · replace h := (if_pos hc11).symm.trans h
    cases h
    exact g_throwS hC hE rfl (q := 22) rfl rfl fit1 q623 q624 at_148 (Nat.le_of_ble_eq_true rfl) (Nat.le_of_ble_eq_true rfl) (xdt tt_X11_cyclesUntil 7 rfl) (xdt tt_X11_cyclesUntil 8 rfl) (xdt tt_X11_cyclesUntil 9 rfl) (xdt tt_X11_cyclesUntil 10 rfl) (xdt tt_X11_cyclesUntil 11 rfl)
  · replace h := (if_neg hc11).symm.trans h
    refine g_iload_n hC rfl 1 rfl (rfl : 4 + 1 = 5) (xdt tt_X11_cyclesUntil 2 rfl) ?_
    refine g_aload_n hC rfl 0 rfl (rfl : 5 + 1 = 6) (xdt tt_X11_cyclesUntil 3 rfl) ?_
    obtain ⟨rg1, hrg1, grg1, h⟩ := ckP_i h
    refine g_getV hC hk0 kclX11 ly3_0 4 (by decide) rfl hrg1 grg1 (by decide) q26 (rfl : 6 + 3 = 9) (xdt tt_X11_cyclesUntil 4 rfl) (fun krg1 => ?_)
    refine g_getI hC krg1 kclX5 ly2_0 10 (by decide) rfl q277 (rfl : 9 + 3 = 12) (xdt tt_X11_cyclesUntil 5 rfl) ?_
    refine g_icmp_lt hC (show ((12 : Nat) : Int) + 13 = ((25 : Nat) : Int) by decide) (rfl : 12 + 3 = 15) (xdt tt_X11_cyclesUntil 6 rfl) (fun hc10 => ?_) (fun hc10 => ?_)
    · replace h := (if_pos hc10).symm.trans h
      refine g_aload_n hC rfl 0 rfl (rfl : 25 + 1 = 26) (xdt tt_X11_cyclesUntil 12 rfl) ?_
      refine g_getP hC hk0 kclX11 ly3_0 7 (by decide) (rfl : r0 + 2 = (r0 + 2)) rfl q32 (rfl : 26 + 3 = 29) (xdt tt_X11_cyclesUntil 13 rfl) ?_
      refine g_aload_n hC rfl 0 rfl (rfl : 29 + 1 = 30) (xdt tt_X11_cyclesUntil 14 rfl) ?_
      refine g_getP hC hk0 kclX11 ly3_0 6 (by decide) (rfl : r0 + 1 = (r0 + 1)) rfl q31 (rfl : 30 + 3 = 33) (xdt tt_X11_cyclesUntil 15 rfl) ?_
      obtain ⟨S3, hc2, h⟩ := bd_i h
      refine g_callVv hC hZ (hA0 2 (by decide) (by decide)) kclX0 ly1_0 m_X0_copyFrom q1357 (Nat.le_of_ble_eq_true rfl) [vr E (r0 + 1) 0] rfl (fun l => c_X0_copyFrom_p1_0_1_0 l (hA0 2 (by decide) (by decide)) (hA0 1 (by decide) (by decide)) hc2) rfl (Nat.le_of_ble_eq_true rfl) (rfl : 33 + 3 = 36) (xdt tt_X11_cyclesUntil 16 rfl) ?_
      refine g_aload_n hC rfl 0 rfl (rfl : 36 + 1 = 37) (xdt tt_X11_cyclesUntil 17 rfl) ?_
      refine g_getP hC hk0 kclX11 ly3_0 6 (by decide) (rfl : r0 + 1 = (r0 + 1)) rfl q31 (rfl : 37 + 3 = 40) (xdt tt_X11_cyclesUntil 18 rfl) ?_
      refine g_getP hC (hA0 1 (by decide) (by decide)) kclX0 ly1_0 7 (by decide) (rfl : (r0 + 1) + 0 = (r0 + 1)) rfl q590 (rfl : 40 + 3 = 43) (xdt tt_X11_cyclesUntil 19 rfl) ?_
      refine g_getP hC (hA0 1 (by decide) (by decide)) kclX9 ly1_14 2 (by decide) (rfl : (r0 + 1) + 0 = (r0 + 1)) rfl q789 (rfl : 43 + 3 = 46) (xdt tt_X11_cyclesUntil 20 rfl) ?_
      refine g_iload_n hC rfl 1 rfl (rfl : 46 + 1 = 47) (xdt tt_X11_cyclesUntil 21 rfl) ?_
      obtain ⟨hi4, h⟩ := ckI_i h
      refine g_iald hC (hA0 1 (by decide) (by decide)) ly1_17 hi4 (rfl : 47 + 1 = 48) (xdt tt_X11_cyclesUntil 22 rfl) (k0 := (wr a1).toNat) rfl ?_
      refine g_istore_n hC rfl (by decide) (lv' := [(2, vi (gI S3 (r0 + 1) 17 (wr a1).toNat)), (0, vr E r0 0), (1, vi a1)]) rfl (rfl : 48 + 1 = 49) (xdt tt_X11_cyclesUntil 23 rfl) ?_
      refine g_iconst hC (rfl : 49 + 1 = 50) (xdt tt_X11_cyclesUntil 24 rfl) ?_
      refine g_istore_n hC rfl (by decide) (lv' := [(3, vi 1), (2, vi (gI S3 (r0 + 1) 17 (wr a1).toNat)), (0, vr E r0 0), (1, vi a1)]) rfl (rfl : 50 + 1 = 51) (xdt tt_X11_cyclesUntil 25 rfl) ?_
      refine g_sub [2, 3, 1, 0] (lv' := [(0, vr E r0 0), (1, vi a1), (2, vi (gI S3 (r0 + 1) 17 (wr a1).toNat)), (3, vi 1)]) rfl ?_
      exact k_X11_cyclesUntil_p3_0_b51 hC hZ hE hk0 hA0 _ _ _ _ _ h
    · replace h := (if_neg hc10).symm.trans h
      cases h
      exact g_throwS hC hE rfl (q := 22) rfl rfl fit1 q623 q624 at_148 (Nat.le_of_ble_eq_true rfl) (Nat.le_of_ble_eq_true rfl) (xdt tt_X11_cyclesUntil 7 rfl) (xdt tt_X11_cyclesUntil 8 rfl) (xdt tt_X11_cyclesUntil 9 rfl) (xdt tt_X11_cyclesUntil 10 rfl) (xdt tt_X11_cyclesUntil 11 rfl)
def f_X11_mainCauseIn_p3_0 (S : xSt) (r0 : Nat) (a1 : Int) : Option ((Int ⊕ Nat) × xSt) :=
  if wr a1 < wr 1 then
    (some (Sum.inr 2, S))
  else
    (if wr a1 ≤ wr 500 then
      (bd (f_X0_copyFrom_p1_0_1_0 S (r0 + 2) (r0 + 1)) fun S2 =>
      bd2 (f_X0_decodeFor_p1_0 S2 (r0 + 2) a1) fun v5 S4 =>
      bd2 (f_X9_mostUnusedSince_p1_14_1_16 S4 (r0 + 2) (r0 + 1)) fun v8 S7 =>
      some (Sum.inl v8, S7))
    else
      (some (Sum.inr 2, S)))
set_option maxRecDepth 100000 in
set_option maxHeartbeats 4000000 in
theorem c_X11_mainCauseIn_p3_0 (l : Launch) (htr : l.stackTraces = false) {E : xE} {S S' : xSt} {r0 : Nat} {a1 : Int} (hk0 : xkd E r0 = 3) (hA0 : xFam E r0) {x : Int ⊕ Nat} (h : f_X11_mainCauseIn_p3_0 S r0 a1 = some (x, S')) : vx_Met l yX11_mainCauseIn (xws yX11_mainCauseIn cX11_mainCauseIn 2 (some .int)) (rmE 7 1) (YPc E [vr E r0 0, vi a1] S) (YXi E x S') (YXC E x S') 1 6 (xA E) := by
  unfold f_X11_mainCauseIn_p3_0 at h
  refine metX_i htr (by decide +kernel) (Nat.le_of_ble_eq_true rfl) (fun K hC hE => ?_)
  have hZ := xZX hE
  have hC : xOK K cX11_mainCauseIn RX11 2 (rmE 7 1) := hC
  show WG K E 0 [(0, vr E r0 0), (1, vi a1)] [] S
  refine g_iload_n hC rfl 1 rfl (rfl : 0 + 1 = 1) (xdt tt_X11_mainCauseIn 0 rfl) ?_
  refine g_iconst hC (rfl : 1 + 1 = 2) (xdt tt_X11_mainCauseIn 1 rfl) ?_
  refine g_icmp_lt hC (show ((2 : Nat) : Int) + 10 = ((12 : Nat) : Int) by decide) (rfl : 2 + 3 = 5) (xdt tt_X11_mainCauseIn 2 rfl) (fun hc10 => ?_) (fun hc10 => ?_)
  · replace h := (if_pos hc10).symm.trans h
    cases h
    exact g_throwW hC hE rfl (q := 31) rfl rfl fit2 q787 q788 at_202 (Nat.le_of_ble_eq_true rfl) (Nat.le_of_ble_eq_true rfl) (xdt tt_X11_mainCauseIn 6 rfl) (xdt tt_X11_mainCauseIn 7 rfl) (xdt tt_X11_mainCauseIn 8 rfl) (xdt tt_X11_mainCauseIn 9 rfl) (xdt tt_X11_mainCauseIn 10 rfl)
  · replace h := (if_neg hc10).symm.trans h
    refine g_iload_n hC rfl 1 rfl (rfl : 5 + 1 = 6) (xdt tt_X11_mainCauseIn 3 rfl) ?_
    refine g_sipush hC (by decide) (rfl : 6 + 3 = 9) (xdt tt_X11_mainCauseIn 4 rfl) ?_
    refine g_icmp_le hC (show ((9 : Nat) : Int) + 14 = ((23 : Nat) : Int) by decide) (rfl : 9 + 3 = 12) (xdt tt_X11_mainCauseIn 5 rfl) (fun hc9 => ?_) (fun hc9 => ?_)
    · replace h := (if_pos hc9).symm.trans h
      refine g_aload_n hC rfl 0 rfl (rfl : 23 + 1 = 24) (xdt tt_X11_mainCauseIn 11 rfl) ?_
      refine g_getP hC hk0 kclX11 ly3_0 7 (by decide) (rfl : r0 + 2 = (r0 + 2)) rfl q32 (rfl : 24 + 3 = 27) (xdt tt_X11_mainCauseIn 12 rfl) ?_
      refine g_aload_n hC rfl 0 rfl (rfl : 27 + 1 = 28) (xdt tt_X11_mainCauseIn 13 rfl) ?_
      refine g_getP hC hk0 kclX11 ly3_0 6 (by decide) (rfl : r0 + 1 = (r0 + 1)) rfl q31 (rfl : 28 + 3 = 31) (xdt tt_X11_mainCauseIn 14 rfl) ?_
      obtain ⟨S2, hc1, h⟩ := bd_i h
      refine g_callVv hC hZ (hA0 2 (by decide) (by decide)) kclX0 ly1_0 m_X0_copyFrom q1357 (Nat.le_of_ble_eq_true rfl) [vr E (r0 + 1) 0] rfl (fun l => c_X0_copyFrom_p1_0_1_0 l (hA0 2 (by decide) (by decide)) (hA0 1 (by decide) (by decide)) hc1) rfl (Nat.le_of_ble_eq_true rfl) (rfl : 31 + 3 = 34) (xdt tt_X11_mainCauseIn 15 rfl) ?_
      refine g_aload_n hC rfl 0 rfl (rfl : 34 + 1 = 35) (xdt tt_X11_mainCauseIn 16 rfl) ?_
      refine g_getP hC hk0 kclX11 ly3_0 7 (by decide) (rfl : r0 + 2 = (r0 + 2)) rfl q32 (rfl : 35 + 3 = 38) (xdt tt_X11_mainCauseIn 17 rfl) ?_
      refine g_iload_n hC rfl 1 rfl (rfl : 38 + 1 = 39) (xdt tt_X11_mainCauseIn 18 rfl) ?_
      obtain ⟨v5, S4, hc3, h⟩ := bd2_i h
      refine g_callVi hC hZ (hA0 2 (by decide) (by decide)) kclX0 ly1_0 m_X0_decodeFor q1025 (Nat.le_of_ble_eq_true rfl) [vi a1] rfl (fun l => c_X0_decodeFor_p1_0 l (hA0 2 (by decide) (by decide)) hc3) rfl (Nat.le_of_ble_eq_true rfl) (rfl : 39 + 3 = 42) (xdt tt_X11_mainCauseIn 19 rfl) ?_
      refine g_pop hC rfl (rfl : 42 + 1 = 43) (xdt tt_X11_mainCauseIn 20 rfl) ?_
      refine g_aload_n hC rfl 0 rfl (rfl : 43 + 1 = 44) (xdt tt_X11_mainCauseIn 21 rfl) ?_
      refine g_getP hC hk0 kclX11 ly3_0 7 (by decide) (rfl : r0 + 2 = (r0 + 2)) rfl q32 (rfl : 44 + 3 = 47) (xdt tt_X11_mainCauseIn 22 rfl) ?_
      refine g_getP hC (hA0 2 (by decide) (by decide)) kclX0 ly1_0 7 (by decide) (rfl : (r0 + 2) + 0 = (r0 + 2)) rfl q590 (rfl : 47 + 3 = 50) (xdt tt_X11_mainCauseIn 23 rfl) ?_
      refine g_aload_n hC rfl 0 rfl (rfl : 50 + 1 = 51) (xdt tt_X11_mainCauseIn 24 rfl) ?_
      refine g_getP hC hk0 kclX11 ly3_0 6 (by decide) (rfl : r0 + 1 = (r0 + 1)) rfl q31 (rfl : 51 + 3 = 54) (xdt tt_X11_mainCauseIn 25 rfl) ?_
      refine g_getP hC (hA0 1 (by decide) (by decide)) kclX0 ly1_0 7 (by decide) (rfl : (r0 + 1) + 0 = (r0 + 1)) rfl q590 (rfl : 54 + 3 = 57) (xdt tt_X11_mainCauseIn 26 rfl) ?_
      refine g_getP hC (hA0 1 (by decide) (by decide)) kclX9 ly1_14 1 (by decide) (rfl : (r0 + 1) + 0 = (r0 + 1)) rfl q864 (rfl : 57 + 3 = 60) (xdt tt_X11_mainCauseIn 27 rfl) ?_
      obtain ⟨v8, S7, hc6, h⟩ := bd2_i h
      refine g_callVi hC hZ (hA0 2 (by decide) (by decide)) kclX9 ly1_14 m_X9_mostUnusedSince q878 (Nat.le_of_ble_eq_true rfl) [vr E (r0 + 1) 16] rfl (fun l => c_X9_mostUnusedSince_p1_14_1_16 l (hA0 2 (by decide) (by decide)) (hA0 1 (by decide) (by decide)) hc6) rfl (Nat.le_of_ble_eq_true rfl) (rfl : 60 + 3 = 63) (xdt tt_X11_mainCauseIn 28 rfl) ?_
      cases h
      exact g_iretX hC hE rfl (xdt tt_X11_mainCauseIn 29 rfl)
    · replace h := (if_neg hc9).symm.trans h
      cases h
      exact g_throwW hC hE rfl (q := 31) rfl rfl fit2 q787 q788 at_202 (Nat.le_of_ble_eq_true rfl) (Nat.le_of_ble_eq_true rfl) (xdt tt_X11_mainCauseIn 6 rfl) (xdt tt_X11_mainCauseIn 7 rfl) (xdt tt_X11_mainCauseIn 8 rfl) (xdt tt_X11_mainCauseIn 9 rfl) (xdt tt_X11_mainCauseIn 10 rfl)
def f_X11_ruleGain_p3_0 (S : xSt) (r0 : Nat) (a1 : Int) (a2 : Int) (a3 : Int) : Option ((Int ⊕ Nat) × xSt) :=
  bd2 (f_X11_isRule S a1 a2) fun v3 S2 =>
  if ¬ wr v3 = 0 then
    (if wr a3 < wr 1 then
      (some (Sum.inr 2, S2))
    else
      (if wr a3 ≤ wr 500 then
        (bd2 (f_X8_has_p1_2 S2 (r0 + 1) a1 a2) fun v7 S6 =>
        if wr v7 = 0 then
          (bd (f_X0_copyFrom_p1_0_1_0 S6 (r0 + 2) (r0 + 1)) fun S10 =>
          bd2 (f_X0_decodeFor_p1_0 S10 (r0 + 2) a3) fun v13 S12 =>
          bd (f_X0_copyFrom_p1_0_1_0 S12 (r0 + 2) (r0 + 1)) fun S15 =>
          bd (f_X8_append_p1_2 S15 (r0 + 2) a1 a2) fun S17 =>
          bd2 (f_X0_decodeFor_p1_0 S17 (r0 + 2) a3) fun v20 S19 =>
          some (Sum.inl (v20 - v13), S19))
        else
          (some (Sum.inl 0, S6)))
      else
        (some (Sum.inr 2, S2))))
  else
    (some (Sum.inr 2, S2))
set_option maxRecDepth 100000 in
set_option maxHeartbeats 4000000 in
theorem c_X11_ruleGain_p3_0 (l : Launch) (htr : l.stackTraces = false) {E : xE} {S S' : xSt} {r0 : Nat} {a1 : Int} {a2 : Int} {a3 : Int} (hk0 : xkd E r0 = 3) (hA0 : xFam E r0) {x : Int ⊕ Nat} (h : f_X11_ruleGain_p3_0 S r0 a1 a2 a3 = some (x, S')) : vx_Met l yX11_ruleGain (xws yX11_ruleGain cX11_ruleGain 5 (some .int)) (rmE 7 1) (YPc E [vr E r0 0, vi a1, vi a2, vi a3] S) (YXi E x S') (YXC E x S') 1 6 (xA E) := by
  unfold f_X11_ruleGain_p3_0 at h
  refine metX_i htr (by decide +kernel) (Nat.le_of_ble_eq_true rfl) (fun K hC hE => ?_)
  have hZ := xZX hE
  have hC : xOK K cX11_ruleGain RX11 5 (rmE 7 1) := hC
  show WG K E 0 [(0, vr E r0 0), (1, vi a1), (2, vi a2), (3, vi a3)] [] S
  refine g_iload_n hC rfl 1 rfl (rfl : 0 + 1 = 1) (xdt tt_X11_ruleGain 0 rfl) ?_
  refine g_iload_n hC rfl 2 rfl (rfl : 1 + 1 = 2) (xdt tt_X11_ruleGain 1 rfl) ?_
  obtain ⟨v3, S2, hc1, h⟩ := bd2_i h
  refine g_callSz hC hZ m_X11_isRule q1288 (Nat.le_of_ble_eq_true rfl) [vi a1, vi a2] rfl (fun l => c_X11_isRule l hc1) rfl (Nat.le_of_ble_eq_true rfl) (rfl : 2 + 3 = 5) (xdt tt_X11_ruleGain 2 rfl) (fun hb4 => ?_)
  refine g_if_ne hC (show ((5 : Nat) : Int) + 14 = ((19 : Nat) : Int) by decide) (rfl : 5 + 3 = 8) (xdt tt_X11_ruleGain 3 rfl) (fun hc24 => ?_) (fun hc24 => ?_)
  · replace h := (if_pos hc24).symm.trans h
    refine g_iload_n hC rfl 3 rfl (rfl : 19 + 1 = 20) (xdt tt_X11_ruleGain 9 rfl) ?_
    refine g_iconst hC (rfl : 20 + 1 = 21) (xdt tt_X11_ruleGain 10 rfl) ?_
    refine g_icmp_lt hC (show ((21 : Nat) : Int) + 10 = ((31 : Nat) : Int) by decide) (rfl : 21 + 3 = 24) (xdt tt_X11_ruleGain 11 rfl) (fun hc23 => ?_) (fun hc23 => ?_)
    · replace h := (if_pos hc23).symm.trans h
      cases h
      exact g_throwW hC hE rfl (q := 31) rfl rfl fit2 q787 q788 at_202 (Nat.le_of_ble_eq_true rfl) (Nat.le_of_ble_eq_true rfl) (xdt tt_X11_ruleGain 15 rfl) (xdt tt_X11_ruleGain 16 rfl) (xdt tt_X11_ruleGain 17 rfl) (xdt tt_X11_ruleGain 18 rfl) (xdt tt_X11_ruleGain 19 rfl)
    · replace h := (if_neg hc23).symm.trans h
      refine g_iload_n hC rfl 3 rfl (rfl : 24 + 1 = 25) (xdt tt_X11_ruleGain 12 rfl) ?_
      refine g_sipush hC (by decide) (rfl : 25 + 3 = 28) (xdt tt_X11_ruleGain 13 rfl) ?_
      refine g_icmp_le hC (show ((28 : Nat) : Int) + 14 = ((42 : Nat) : Int) by decide) (rfl : 28 + 3 = 31) (xdt tt_X11_ruleGain 14 rfl) (fun hc22 => ?_) (fun hc22 => ?_)
      · replace h := (if_pos hc22).symm.trans h
        refine g_aload_n hC rfl 0 rfl (rfl : 42 + 1 = 43) (xdt tt_X11_ruleGain 20 rfl) ?_
        refine g_getP hC hk0 kclX11 ly3_0 6 (by decide) (rfl : r0 + 1 = (r0 + 1)) rfl q31 (rfl : 43 + 3 = 46) (xdt tt_X11_ruleGain 21 rfl) ?_
        refine g_getP hC (hA0 1 (by decide) (by decide)) kclX0 ly1_0 2 (by decide) (rfl : (r0 + 1) + 0 = (r0 + 1)) rfl q592 (rfl : 46 + 3 = 49) (xdt tt_X11_ruleGain 22 rfl) ?_
        refine g_iload_n hC rfl 1 rfl (rfl : 49 + 1 = 50) (xdt tt_X11_ruleGain 23 rfl) ?_
        refine g_iload_n hC rfl 2 rfl (rfl : 50 + 1 = 51) (xdt tt_X11_ruleGain 24 rfl) ?_
        obtain ⟨v7, S6, hc5, h⟩ := bd2_i h
        refine g_callVz hC hZ (hA0 1 (by decide) (by decide)) kclX8 ly1_2 m_X8_has q1291 (Nat.le_of_ble_eq_true rfl) [vi a1, vi a2] rfl (fun l => c_X8_has_p1_2 l (hA0 1 (by decide) (by decide)) hc5) rfl (Nat.le_of_ble_eq_true rfl) (rfl : 51 + 3 = 54) (xdt tt_X11_ruleGain 25 rfl) (fun hb8 => ?_)
        refine g_if_eq hC (show ((54 : Nat) : Int) + 5 = ((59 : Nat) : Int) by decide) (rfl : 54 + 3 = 57) (xdt tt_X11_ruleGain 26 rfl) (fun hc21 => ?_) (fun hc21 => ?_)
        · replace h := (if_pos hc21).symm.trans h
          refine g_aload_n hC rfl 0 rfl (rfl : 59 + 1 = 60) (xdt tt_X11_ruleGain 29 rfl) ?_
          refine g_getP hC hk0 kclX11 ly3_0 7 (by decide) (rfl : r0 + 2 = (r0 + 2)) rfl q32 (rfl : 60 + 3 = 63) (xdt tt_X11_ruleGain 30 rfl) ?_
          refine g_aload_n hC rfl 0 rfl (rfl : 63 + 1 = 64) (xdt tt_X11_ruleGain 31 rfl) ?_
          refine g_getP hC hk0 kclX11 ly3_0 6 (by decide) (rfl : r0 + 1 = (r0 + 1)) rfl q31 (rfl : 64 + 3 = 67) (xdt tt_X11_ruleGain 32 rfl) ?_
          obtain ⟨S10, hc9, h⟩ := bd_i h
          refine g_callVv hC hZ (hA0 2 (by decide) (by decide)) kclX0 ly1_0 m_X0_copyFrom q1357 (Nat.le_of_ble_eq_true rfl) [vr E (r0 + 1) 0] rfl (fun l => c_X0_copyFrom_p1_0_1_0 l (hA0 2 (by decide) (by decide)) (hA0 1 (by decide) (by decide)) hc9) rfl (Nat.le_of_ble_eq_true rfl) (rfl : 67 + 3 = 70) (xdt tt_X11_ruleGain 33 rfl) ?_
          refine g_aload_n hC rfl 0 rfl (rfl : 70 + 1 = 71) (xdt tt_X11_ruleGain 34 rfl) ?_
          refine g_getP hC hk0 kclX11 ly3_0 7 (by decide) (rfl : r0 + 2 = (r0 + 2)) rfl q32 (rfl : 71 + 3 = 74) (xdt tt_X11_ruleGain 35 rfl) ?_
          refine g_iload_n hC rfl 3 rfl (rfl : 74 + 1 = 75) (xdt tt_X11_ruleGain 36 rfl) ?_
          obtain ⟨v13, S12, hc11, h⟩ := bd2_i h
          refine g_callVi hC hZ (hA0 2 (by decide) (by decide)) kclX0 ly1_0 m_X0_decodeFor q1025 (Nat.le_of_ble_eq_true rfl) [vi a3] rfl (fun l => c_X0_decodeFor_p1_0 l (hA0 2 (by decide) (by decide)) hc11) rfl (Nat.le_of_ble_eq_true rfl) (rfl : 75 + 3 = 78) (xdt tt_X11_ruleGain 37 rfl) ?_
          refine g_istore hC (by decide) (lv' := [(4, vi v13), (0, vr E r0 0), (1, vi a1), (2, vi a2), (3, vi a3)]) rfl (rfl : 78 + 2 = 80) (xdt tt_X11_ruleGain 38 rfl) ?_
          refine g_aload_n hC rfl 1 rfl (rfl : 80 + 1 = 81) (xdt tt_X11_ruleGain 39 rfl) ?_
          refine g_getP hC hk0 kclX11 ly3_0 7 (by decide) (rfl : r0 + 2 = (r0 + 2)) rfl q32 (rfl : 81 + 3 = 84) (xdt tt_X11_ruleGain 40 rfl) ?_
          refine g_aload_n hC rfl 1 rfl (rfl : 84 + 1 = 85) (xdt tt_X11_ruleGain 41 rfl) ?_
          refine g_getP hC hk0 kclX11 ly3_0 6 (by decide) (rfl : r0 + 1 = (r0 + 1)) rfl q31 (rfl : 85 + 3 = 88) (xdt tt_X11_ruleGain 42 rfl) ?_
          obtain ⟨S15, hc14, h⟩ := bd_i h
          refine g_callVv hC hZ (hA0 2 (by decide) (by decide)) kclX0 ly1_0 m_X0_copyFrom q1357 (Nat.le_of_ble_eq_true rfl) [vr E (r0 + 1) 0] rfl (fun l => c_X0_copyFrom_p1_0_1_0 l (hA0 2 (by decide) (by decide)) (hA0 1 (by decide) (by decide)) hc14) rfl (Nat.le_of_ble_eq_true rfl) (rfl : 88 + 3 = 91) (xdt tt_X11_ruleGain 43 rfl) ?_
          refine g_aload_n hC rfl 1 rfl (rfl : 91 + 1 = 92) (xdt tt_X11_ruleGain 44 rfl) ?_
          refine g_getP hC hk0 kclX11 ly3_0 7 (by decide) (rfl : r0 + 2 = (r0 + 2)) rfl q32 (rfl : 92 + 3 = 95) (xdt tt_X11_ruleGain 45 rfl) ?_
          refine g_getP hC (hA0 2 (by decide) (by decide)) kclX0 ly1_0 2 (by decide) (rfl : (r0 + 2) + 0 = (r0 + 2)) rfl q592 (rfl : 95 + 3 = 98) (xdt tt_X11_ruleGain 46 rfl) ?_
          refine g_iload_n hC rfl 2 rfl (rfl : 98 + 1 = 99) (xdt tt_X11_ruleGain 47 rfl) ?_
          refine g_iload_n hC rfl 3 rfl (rfl : 99 + 1 = 100) (xdt tt_X11_ruleGain 48 rfl) ?_
          obtain ⟨S17, hc16, h⟩ := bd_i h
          refine g_callVv hC hZ (hA0 2 (by decide) (by decide)) kclX8 ly1_2 m_X8_append q1292 (Nat.le_of_ble_eq_true rfl) [vi a1, vi a2] rfl (fun l => c_X8_append_p1_2 l (hA0 2 (by decide) (by decide)) hc16) rfl (Nat.le_of_ble_eq_true rfl) (rfl : 100 + 3 = 103) (xdt tt_X11_ruleGain 49 rfl) ?_
          refine g_aload_n hC rfl 1 rfl (rfl : 103 + 1 = 104) (xdt tt_X11_ruleGain 50 rfl) ?_
          refine g_getP hC hk0 kclX11 ly3_0 7 (by decide) (rfl : r0 + 2 = (r0 + 2)) rfl q32 (rfl : 104 + 3 = 107) (xdt tt_X11_ruleGain 51 rfl) ?_
          refine g_iload_n hC rfl 4 rfl (rfl : 107 + 1 = 108) (xdt tt_X11_ruleGain 52 rfl) ?_
          obtain ⟨v20, S19, hc18, h⟩ := bd2_i h
          refine g_callVi hC hZ (hA0 2 (by decide) (by decide)) kclX0 ly1_0 m_X0_decodeFor q1025 (Nat.le_of_ble_eq_true rfl) [vi a3] rfl (fun l => c_X0_decodeFor_p1_0 l (hA0 2 (by decide) (by decide)) hc18) rfl (Nat.le_of_ble_eq_true rfl) (rfl : 108 + 3 = 111) (xdt tt_X11_ruleGain 53 rfl) ?_
          refine g_iload hC 0 rfl (rfl : 111 + 2 = 113) (xdt tt_X11_ruleGain 54 rfl) ?_
          refine g_isub hC (rfl : 113 + 1 = 114) (xdt tt_X11_ruleGain 55 rfl) ?_
          cases h
          exact g_iretX hC hE rfl (xdt tt_X11_ruleGain 56 rfl)
        · replace h := (if_neg hc21).symm.trans h
          refine g_iconst hC (rfl : 57 + 1 = 58) (xdt tt_X11_ruleGain 27 rfl) ?_
          cases h
          exact g_iretX hC hE rfl (xdt tt_X11_ruleGain 28 rfl)
      · replace h := (if_neg hc22).symm.trans h
        cases h
        exact g_throwW hC hE rfl (q := 31) rfl rfl fit2 q787 q788 at_202 (Nat.le_of_ble_eq_true rfl) (Nat.le_of_ble_eq_true rfl) (xdt tt_X11_ruleGain 15 rfl) (xdt tt_X11_ruleGain 16 rfl) (xdt tt_X11_ruleGain 17 rfl) (xdt tt_X11_ruleGain 18 rfl) (xdt tt_X11_ruleGain 19 rfl)
  · replace h := (if_neg hc24).symm.trans h
    cases h
    exact g_throwW hC hE rfl (q := 35) rfl rfl fit2 q787 q788 at_202 (Nat.le_of_ble_eq_true rfl) (Nat.le_of_ble_eq_true rfl) (xdt tt_X11_ruleGain 4 rfl) (xdt tt_X11_ruleGain 5 rfl) (xdt tt_X11_ruleGain 6 rfl) (xdt tt_X11_ruleGain 7 rfl) (xdt tt_X11_ruleGain 8 rfl)
