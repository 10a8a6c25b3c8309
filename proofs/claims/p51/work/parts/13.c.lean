def f_X11_count_p3_0_b51 (r0 : Nat) (S : xSt) (x1 : Int) : Option (Int × xSt) :=
  if wr x1 < 0 ∨ 24 < wr x1 then
    (some ((-1), S))
  else
  if wr x1 = 0 then
    (ckP S r0 0 4 2 0 fun rg2 =>
    some ((gI S rg2 0 10), S))
  else
  if wr x1 = 1 then
    (ckP S r0 0 4 2 0 fun rg4 =>
    bd2 (f_X5_bytes_p2_0 S rg4) fun v7 S6 =>
    some (v7, S6))
  else
  if wr x1 = 2 then
    (some ((-1), S))
  else
  if wr x1 = 3 then
    (some ((-1), S))
  else
  if wr x1 = 4 then
    (some ((-1), S))
  else
  if wr x1 = 5 then
    (some ((-1), S))
  else
  if wr x1 = 6 then
    (some ((-1), S))
  else
  if wr x1 = 7 then
    (some ((-1), S))
  else
  if wr x1 = 8 then
    (some ((gI S (r0 + 1) 2 2), S))
  else
  if wr x1 = 9 then
    (some ((-1), S))
  else
  if wr x1 = 10 then
    (some ((-1), S))
  else
  if wr x1 = 11 then
    (some ((-1), S))
  else
  if wr x1 = 12 then
    (some ((-1), S))
  else
  if wr x1 = 13 then
    (some ((-1), S))
  else
  if wr x1 = 14 then
    (some ((-1), S))
  else
  if wr x1 = 15 then
    (some ((-1), S))
  else
  if wr x1 = 16 then
    (some ((-1), S))
  else
  if wr x1 = 17 then
    (some ((-1), S))
  else
  if wr x1 = 18 then
    (some ((gI S (r0 + 1) 0 14), S))
  else
  if wr x1 = 19 then
    (some ((gI S (r0 + 1) 5 2), S))
  else
  if wr x1 = 20 then
    (some ((gI S (r0 + 1) 0 10), S))
  else
  if wr x1 = 21 then
    (some ((gI S (r0 + 1) 0 15), S))
  else
  if wr x1 = 22 then
    (some ((gI S (r0 + 1) 0 16), S))
  else
  if wr x1 = 23 then
    (some ((gI S (r0 + 1) 0 17), S))
  else
  if wr x1 = 24 then
    (some ((gI S r0 8 2), S))
  else
  none
def f_X11_count_p3_0_b23 (r0 : Nat) (S : xSt) (x1 : Int) : Option (Int × xSt) :=
  if wr x1 < wr 9 then
    (f_X11_count_p3_0_b51 r0 S x1)
  else
    (if wr 18 ≤ wr x1 then
      (f_X11_count_p3_0_b51 r0 S x1)
    else
      (ckI (x1 - 9) 9 <|
      some ((gI S (r0 + 1) 15 (wr (x1 - 9)).toNat), S)))
def f_X11_count_p3_0 (S : xSt) (r0 : Nat) (a1 : Int) : Option (Int × xSt) :=
  if wr a1 < wr 2 then
    (f_X11_count_p3_0_b23 r0 S a1)
  else
    (if wr 8 ≤ wr a1 then
      (f_X11_count_p3_0_b23 r0 S a1)
    else
      (ckI (a1 - 2) 6 <|
      some ((gI S (r0 + 1) 1 (wr (a1 - 2)).toNat), S)))
set_option maxRecDepth 100000 in
set_option maxHeartbeats 4000000 in
theorem k_X11_count_p3_0_b51 {K : xCtx} {E : xE} {b : Nat} (hC : xOK K cX11_count RX11 2 (rmE 3 b)) (hZ : xZ K) {v : Int} {S' : xSt} (hE : xEnd K E (some .int) (YQi E v S')) {r0 : Nat} (hk0 : xkd E r0 = 3) (hA0 : xFam E r0) : ∀ (S : xSt) (x1 : Int), f_X11_count_p3_0_b51 r0 S x1 = some (v, S') → WG K E 51 [(0, vr E r0 0), (1, vi x1)] [] S := by
  intro S x1 h
  unfold f_X11_count_p3_0_b51 at h
  refine g_iload_n hC rfl 1 rfl (rfl : 51 + 1 = 52) (xdt tt_X11_count 29 rfl) ?_
  by_cases hs1 : wr x1 < 0 ∨ 24 < wr x1
  · replace h := (if_pos hs1).symm.trans h
    refine g_tabOut hC (xdt tt_X11_count 30 rfl) hs1 (show ((52 : Nat) : Int) + 202 = ((254 : Nat) : Int) by decide) ?_
    refine g_iconst hC (rfl : 254 + 1 = 255) (xdt tt_X11_count 73 rfl) ?_
    cases h
    exact g_iret hC hE (xdt tt_X11_count 74 rfl)
  · replace h := (if_neg hs1).symm.trans h
    by_cases hv3 : wr x1 = 0
    · replace h := (if_pos hv3).symm.trans h
      refine g_tabIn hC (xdt tt_X11_count 30 rfl) (fun z => hs1 (Or.inl z)) (fun z => hs1 (Or.inr z)) (off := 116) (by rw [hv3]; rfl) (show ((52 : Nat) : Int) + 116 = ((168 : Nat) : Int) by decide) ?_
      refine g_aload_n hC rfl 0 rfl (rfl : 168 + 1 = 169) (xdt tt_X11_count 31 rfl) ?_
      obtain ⟨rg2, hrg2, grg2, h⟩ := ckP_i h
      refine g_getV hC hk0 kclX11 ly3_0 4 (by decide) rfl hrg2 grg2 (by decide) q22 (rfl : 169 + 3 = 172) (xdt tt_X11_count 32 rfl) (fun krg2 => ?_)
      refine g_getI hC krg2 kclX5 ly2_0 10 (by decide) rfl q487 (rfl : 172 + 3 = 175) (xdt tt_X11_count 33 rfl) ?_
      cases h
      exact g_iret hC hE (xdt tt_X11_count 34 rfl)
    · replace h := (if_neg hv3).symm.trans h
      by_cases hv8 : wr x1 = 1
      · replace h := (if_pos hv8).symm.trans h
        refine g_tabIn hC (xdt tt_X11_count 30 rfl) (fun z => hs1 (Or.inl z)) (fun z => hs1 (Or.inr z)) (off := 124) (by rw [hv8]; rfl) (show ((52 : Nat) : Int) + 124 = ((176 : Nat) : Int) by decide) ?_
        refine g_aload_n hC rfl 0 rfl (rfl : 176 + 1 = 177) (xdt tt_X11_count 35 rfl) ?_
        obtain ⟨rg4, hrg4, grg4, h⟩ := ckP_i h
        refine g_getV hC hk0 kclX11 ly3_0 4 (by decide) rfl hrg4 grg4 (by decide) q22 (rfl : 177 + 3 = 180) (xdt tt_X11_count 36 rfl) (fun krg4 => ?_)
        obtain ⟨v7, S6, hc5, h⟩ := bd2_i h
        refine g_callVi hC hZ krg4 kclX5 ly2_0 m_X5_bytes q850 (Nat.le_of_ble_eq_true rfl) [] rfl (fun l => c_X5_bytes_p2_0 l krg4 hc5) rfl (Nat.le_of_ble_eq_true rfl) (rfl : 180 + 3 = 183) (xdt tt_X11_count 37 rfl) ?_
        cases h
        exact g_iret hC hE (xdt tt_X11_count 38 rfl)
      · replace h := (if_neg hv8).symm.trans h
        by_cases hv9 : wr x1 = 2
        · replace h := (if_pos hv9).symm.trans h
          refine g_tabIn hC (xdt tt_X11_count 30 rfl) (fun z => hs1 (Or.inl z)) (fun z => hs1 (Or.inr z)) (off := 202) (by rw [hv9]; rfl) (show ((52 : Nat) : Int) + 202 = ((254 : Nat) : Int) by decide) ?_
          refine g_iconst hC (rfl : 254 + 1 = 255) (xdt tt_X11_count 73 rfl) ?_
          cases h
          exact g_iret hC hE (xdt tt_X11_count 74 rfl)
        · replace h := (if_neg hv9).symm.trans h
          by_cases hv10 : wr x1 = 3
          · replace h := (if_pos hv10).symm.trans h
            refine g_tabIn hC (xdt tt_X11_count 30 rfl) (fun z => hs1 (Or.inl z)) (fun z => hs1 (Or.inr z)) (off := 202) (by rw [hv10]; rfl) (show ((52 : Nat) : Int) + 202 = ((254 : Nat) : Int) by decide) ?_
            refine g_iconst hC (rfl : 254 + 1 = 255) (xdt tt_X11_count 73 rfl) ?_
            cases h
            exact g_iret hC hE (xdt tt_X11_count 74 rfl)
          · replace h := (if_neg hv10).symm.trans h
            by_cases hv11 : wr x1 = 4
            · replace h := (if_pos hv11).symm.trans h
              refine g_tabIn hC (xdt tt_X11_count 30 rfl) (fun z => hs1 (Or.inl z)) (fun z => hs1 (Or.inr z)) (off := 202) (by rw [hv11]; rfl) (show ((52 : Nat) : Int) + 202 = ((254 : Nat) : Int) by decide) ?_
              refine g_iconst hC (rfl : 254 + 1 = 255) (xdt tt_X11_count 73 rfl) ?_
              cases h
              exact g_iret hC hE (xdt tt_X11_count 74 rfl)
            · replace h := (if_neg hv11).symm.trans h
              by_cases hv12 : wr x1 = 5
              · replace h := (if_pos hv12).symm.trans h
                refine g_tabIn hC (xdt tt_X11_count 30 rfl) (fun z => hs1 (Or.inl z)) (fun z => hs1 (Or.inr z)) (off := 202) (by rw [hv12]; rfl) (show ((52 : Nat) : Int) + 202 = ((254 : Nat) : Int) by decide) ?_
                refine g_iconst hC (rfl : 254 + 1 = 255) (xdt tt_X11_count 73 rfl) ?_
                cases h
                exact g_iret hC hE (xdt tt_X11_count 74 rfl)
              · replace h := (if_neg hv12).symm.trans h
                by_cases hv13 : wr x1 = 6
                · replace h := (if_pos hv13).symm.trans h
                  refine g_tabIn hC (xdt tt_X11_count 30 rfl) (fun z => hs1 (Or.inl z)) (fun z => hs1 (Or.inr z)) (off := 202) (by rw [hv13]; rfl) (show ((52 : Nat) : Int) + 202 = ((254 : Nat) : Int) by decide) ?_
                  refine g_iconst hC (rfl : 254 + 1 = 255) (xdt tt_X11_count 73 rfl) ?_
                  cases h
                  exact g_iret hC hE (xdt tt_X11_count 74 rfl)
                · replace h := (if_neg hv13).symm.trans h
                  by_cases hv14 : wr x1 = 7
                  · replace h := (if_pos hv14).symm.trans h
                    refine g_tabIn hC (xdt tt_X11_count 30 rfl) (fun z => hs1 (Or.inl z)) (fun z => hs1 (Or.inr z)) (off := 202) (by rw [hv14]; rfl) (show ((52 : Nat) : Int) + 202 = ((254 : Nat) : Int) by decide) ?_
                    refine g_iconst hC (rfl : 254 + 1 = 255) (xdt tt_X11_count 73 rfl) ?_
                    cases h
                    exact g_iret hC hE (xdt tt_X11_count 74 rfl)
                  · replace h := (if_neg hv14).symm.trans h
                    by_cases hv15 : wr x1 = 8
                    · replace h := (if_pos hv15).symm.trans h
                      refine g_tabIn hC (xdt tt_X11_count 30 rfl) (fun z => hs1 (Or.inl z)) (fun z => hs1 (Or.inr z)) (off := 132) (by rw [hv15]; rfl) (show ((52 : Nat) : Int) + 132 = ((184 : Nat) : Int) by decide) ?_
                      refine g_aload_n hC rfl 0 rfl (rfl : 184 + 1 = 185) (xdt tt_X11_count 39 rfl) ?_
                      refine g_getP hC hk0 kclX11 ly3_0 6 (by decide) (rfl : r0 + 1 = (r0 + 1)) rfl q27 (rfl : 185 + 3 = 188) (xdt tt_X11_count 40 rfl) ?_
                      refine g_getP hC (hA0 1 (by decide) (by decide)) kclX0 ly1_0 2 (by decide) (rfl : (r0 + 1) + 0 = (r0 + 1)) rfl q841 (rfl : 188 + 3 = 191) (xdt tt_X11_count 41 rfl) ?_
                      refine g_getI hC (hA0 1 (by decide) (by decide)) kclX8 ly1_2 2 (by decide) rfl q842 (rfl : 191 + 3 = 194) (xdt tt_X11_count 42 rfl) ?_
                      cases h
                      exact g_iret hC hE (xdt tt_X11_count 43 rfl)
                    · replace h := (if_neg hv15).symm.trans h
                      by_cases hv16 : wr x1 = 9
                      · replace h := (if_pos hv16).symm.trans h
                        refine g_tabIn hC (xdt tt_X11_count 30 rfl) (fun z => hs1 (Or.inl z)) (fun z => hs1 (Or.inr z)) (off := 202) (by rw [hv16]; rfl) (show ((52 : Nat) : Int) + 202 = ((254 : Nat) : Int) by decide) ?_
                        refine g_iconst hC (rfl : 254 + 1 = 255) (xdt tt_X11_count 73 rfl) ?_
                        cases h
                        exact g_iret hC hE (xdt tt_X11_count 74 rfl)
                      · replace h := (if_neg hv16).symm.trans h
                        by_cases hv17 : wr x1 = 10
                        · replace h := (if_pos hv17).symm.trans h
                          refine g_tabIn hC (xdt tt_X11_count 30 rfl) (fun z => hs1 (Or.inl z)) (fun z => hs1 (Or.inr z)) (off := 202) (by rw [hv17]; rfl) (show ((52 : Nat) : Int) + 202 = ((254 : Nat) : Int) by decide) ?_
                          refine g_iconst hC (rfl : 254 + 1 = 255) (xdt tt_X11_count 73 rfl) ?_
                          cases h
                          exact g_iret hC hE (xdt tt_X11_count 74 rfl)
                        · replace h := (if_neg hv17).symm.trans h
                          by_cases hv18 : wr x1 = 11
                          · replace h := (if_pos hv18).symm.trans h
                            refine g_tabIn hC (xdt tt_X11_count 30 rfl) (fun z => hs1 (Or.inl z)) (fun z => hs1 (Or.inr z)) (off := 202) (by rw [hv18]; rfl) (show ((52 : Nat) : Int) + 202 = ((254 : Nat) : Int) by decide) ?_
                            refine g_iconst hC (rfl : 254 + 1 = 255) (xdt tt_X11_count 73 rfl) ?_
                            cases h
                            exact g_iret hC hE (xdt tt_X11_count 74 rfl)
                          · replace h := (if_neg hv18).symm.trans h
                            by_cases hv19 : wr x1 = 12
                            · replace h := (if_pos hv19).symm.trans h
                              refine g_tabIn hC (xdt tt_X11_count 30 rfl) (fun z => hs1 (Or.inl z)) (fun z => hs1 (Or.inr z)) (off := 202) (by rw [hv19]; rfl) (show ((52 : Nat) : Int) + 202 = ((254 : Nat) : Int) by decide) ?_
                              refine g_iconst hC (rfl : 254 + 1 = 255) (xdt tt_X11_count 73 rfl) ?_
                              cases h
                              exact g_iret hC hE (xdt tt_X11_count 74 rfl)
                            · replace h := (if_neg hv19).symm.trans h
                              by_cases hv20 : wr x1 = 13
                              · replace h := (if_pos hv20).symm.trans h
                                refine g_tabIn hC (xdt tt_X11_count 30 rfl) (fun z => hs1 (Or.inl z)) (fun z => hs1 (Or.inr z)) (off := 202) (by rw [hv20]; rfl) (show ((52 : Nat) : Int) + 202 = ((254 : Nat) : Int) by decide) ?_
                                refine g_iconst hC (rfl : 254 + 1 = 255) (xdt tt_X11_count 73 rfl) ?_
                                cases h
                                exact g_iret hC hE (xdt tt_X11_count 74 rfl)
                              · replace h := (if_neg hv20).symm.trans h
                                by_cases hv21 : wr x1 = 14
                                · replace h := (if_pos hv21).symm.trans h
                                  refine g_tabIn hC (xdt tt_X11_count 30 rfl) (fun z => hs1 (Or.inl z)) (fun z => hs1 (Or.inr z)) (off := 202) (by rw [hv21]; rfl) (show ((52 : Nat) : Int) + 202 = ((254 : Nat) : Int) by decide) ?_
                                  refine g_iconst hC (rfl : 254 + 1 = 255) (xdt tt_X11_count 73 rfl) ?_
                                  cases h
                                  exact g_iret hC hE (xdt tt_X11_count 74 rfl)
                                · replace h := (if_neg hv21).symm.trans h
                                  by_cases hv22 : wr x1 = 15
                                  · replace h := (if_pos hv22).symm.trans h
                                    refine g_tabIn hC (xdt tt_X11_count 30 rfl) (fun z => hs1 (Or.inl z)) (fun z => hs1 (Or.inr z)) (off := 202) (by rw [hv22]; rfl) (show ((52 : Nat) : Int) + 202 = ((254 : Nat) : Int) by decide) ?_
                                    refine g_iconst hC (rfl : 254 + 1 = 255) (xdt tt_X11_count 73 rfl) ?_
                                    cases h
                                    exact g_iret hC hE (xdt tt_X11_count 74 rfl)
                                  · replace h := (if_neg hv22).symm.trans h
                                    by_cases hv23 : wr x1 = 16
                                    · replace h := (if_pos hv23).symm.trans h
                                      refine g_tabIn hC (xdt tt_X11_count 30 rfl) (fun z => hs1 (Or.inl z)) (fun z => hs1 (Or.inr z)) (off := 202) (by rw [hv23]; rfl) (show ((52 : Nat) : Int) + 202 = ((254 : Nat) : Int) by decide) ?_
                                      refine g_iconst hC (rfl : 254 + 1 = 255) (xdt tt_X11_count 73 rfl) ?_
                                      cases h
                                      exact g_iret hC hE (xdt tt_X11_count 74 rfl)
                                    · replace h := (if_neg hv23).symm.trans h
                                      by_cases hv24 : wr x1 = 17
                                      · replace h := (if_pos hv24).symm.trans h
                                        refine g_tabIn hC (xdt tt_X11_count 30 rfl) (fun z => hs1 (Or.inl z)) (fun z => hs1 (Or.inr z)) (off := 202) (by rw [hv24]; rfl) (show ((52 : Nat) : Int) + 202 = ((254 : Nat) : Int) by decide) ?_
                                        refine g_iconst hC (rfl : 254 + 1 = 255) (xdt tt_X11_count 73 rfl) ?_
                                        cases h
                                        exact g_iret hC hE (xdt tt_X11_count 74 rfl)
                                      · replace h := (if_neg hv24).symm.trans h
                                        by_cases hv25 : wr x1 = 18
                                        · replace h := (if_pos hv25).symm.trans h
                                          refine g_tabIn hC (xdt tt_X11_count 30 rfl) (fun z => hs1 (Or.inl z)) (fun z => hs1 (Or.inr z)) (off := 143) (by rw [hv25]; rfl) (show ((52 : Nat) : Int) + 143 = ((195 : Nat) : Int) by decide) ?_
                                          refine g_aload_n hC rfl 0 rfl (rfl : 195 + 1 = 196) (xdt tt_X11_count 44 rfl) ?_
                                          refine g_getP hC hk0 kclX11 ly3_0 6 (by decide) (rfl : r0 + 1 = (r0 + 1)) rfl q27 (rfl : 196 + 3 = 199) (xdt tt_X11_count 45 rfl) ?_
                                          refine g_getI hC (hA0 1 (by decide) (by decide)) kclX0 ly1_0 14 (by decide) rfl q843 (rfl : 199 + 3 = 202) (xdt tt_X11_count 46 rfl) ?_
                                          cases h
                                          exact g_iret hC hE (xdt tt_X11_count 47 rfl)
                                        · replace h := (if_neg hv25).symm.trans h
                                          by_cases hv26 : wr x1 = 19
                                          · replace h := (if_pos hv26).symm.trans h
                                            refine g_tabIn hC (xdt tt_X11_count 30 rfl) (fun z => hs1 (Or.inl z)) (fun z => hs1 (Or.inr z)) (off := 151) (by rw [hv26]; rfl) (show ((52 : Nat) : Int) + 151 = ((203 : Nat) : Int) by decide) ?_
                                            refine g_aload_n hC rfl 0 rfl (rfl : 203 + 1 = 204) (xdt tt_X11_count 48 rfl) ?_
                                            refine g_getP hC hk0 kclX11 ly3_0 6 (by decide) (rfl : r0 + 1 = (r0 + 1)) rfl q27 (rfl : 204 + 3 = 207) (xdt tt_X11_count 49 rfl) ?_
                                            refine g_getP hC (hA0 1 (by decide) (by decide)) kclX0 ly1_0 3 (by decide) (rfl : (r0 + 1) + 0 = (r0 + 1)) rfl q844 (rfl : 207 + 3 = 210) (xdt tt_X11_count 50 rfl) ?_
                                            refine g_getI hC (hA0 1 (by decide) (by decide)) kclX6 ly1_5 2 (by decide) rfl q845 (rfl : 210 + 3 = 213) (xdt tt_X11_count 51 rfl) ?_
                                            cases h
                                            exact g_iret hC hE (xdt tt_X11_count 52 rfl)
                                          · replace h := (if_neg hv26).symm.trans h
                                            by_cases hv27 : wr x1 = 20
                                            · replace h := (if_pos hv27).symm.trans h
                                              refine g_tabIn hC (xdt tt_X11_count 30 rfl) (fun z => hs1 (Or.inl z)) (fun z => hs1 (Or.inr z)) (off := 162) (by rw [hv27]; rfl) (show ((52 : Nat) : Int) + 162 = ((214 : Nat) : Int) by decide) ?_
                                              refine g_aload_n hC rfl 0 rfl (rfl : 214 + 1 = 215) (xdt tt_X11_count 53 rfl) ?_
                                              refine g_getP hC hk0 kclX11 ly3_0 6 (by decide) (rfl : r0 + 1 = (r0 + 1)) rfl q27 (rfl : 215 + 3 = 218) (xdt tt_X11_count 54 rfl) ?_
                                              refine g_getI hC (hA0 1 (by decide) (by decide)) kclX0 ly1_0 10 (by decide) rfl q846 (rfl : 218 + 3 = 221) (xdt tt_X11_count 55 rfl) ?_
                                              cases h
                                              exact g_iret hC hE (xdt tt_X11_count 56 rfl)
                                            · replace h := (if_neg hv27).symm.trans h
                                              by_cases hv28 : wr x1 = 21
                                              · replace h := (if_pos hv28).symm.trans h
                                                refine g_tabIn hC (xdt tt_X11_count 30 rfl) (fun z => hs1 (Or.inl z)) (fun z => hs1 (Or.inr z)) (off := 170) (by rw [hv28]; rfl) (show ((52 : Nat) : Int) + 170 = ((222 : Nat) : Int) by decide) ?_
                                                refine g_aload_n hC rfl 0 rfl (rfl : 222 + 1 = 223) (xdt tt_X11_count 57 rfl) ?_
                                                refine g_getP hC hk0 kclX11 ly3_0 6 (by decide) (rfl : r0 + 1 = (r0 + 1)) rfl q27 (rfl : 223 + 3 = 226) (xdt tt_X11_count 58 rfl) ?_
                                                refine g_getI hC (hA0 1 (by decide) (by decide)) kclX0 ly1_0 15 (by decide) rfl q847 (rfl : 226 + 3 = 229) (xdt tt_X11_count 59 rfl) ?_
                                                cases h
                                                exact g_iret hC hE (xdt tt_X11_count 60 rfl)
                                              · replace h := (if_neg hv28).symm.trans h
                                                by_cases hv29 : wr x1 = 22
                                                · replace h := (if_pos hv29).symm.trans h
                                                  refine g_tabIn hC (xdt tt_X11_count 30 rfl) (fun z => hs1 (Or.inl z)) (fun z => hs1 (Or.inr z)) (off := 178) (by rw [hv29]; rfl) (show ((52 : Nat) : Int) + 178 = ((230 : Nat) : Int) by decide) ?_
                                                  refine g_aload_n hC rfl 0 rfl (rfl : 230 + 1 = 231) (xdt tt_X11_count 61 rfl) ?_
                                                  refine g_getP hC hk0 kclX11 ly3_0 6 (by decide) (rfl : r0 + 1 = (r0 + 1)) rfl q27 (rfl : 231 + 3 = 234) (xdt tt_X11_count 62 rfl) ?_
                                                  refine g_getI hC (hA0 1 (by decide) (by decide)) kclX0 ly1_0 16 (by decide) rfl q848 (rfl : 234 + 3 = 237) (xdt tt_X11_count 63 rfl) ?_
                                                  cases h
                                                  exact g_iret hC hE (xdt tt_X11_count 64 rfl)
                                                · replace h := (if_neg hv29).symm.trans h
                                                  by_cases hv30 : wr x1 = 23
                                                  · replace h := (if_pos hv30).symm.trans h
                                                    refine g_tabIn hC (xdt tt_X11_count 30 rfl) (fun z => hs1 (Or.inl z)) (fun z => hs1 (Or.inr z)) (off := 186) (by rw [hv30]; rfl) (show ((52 : Nat) : Int) + 186 = ((238 : Nat) : Int) by decide) ?_
                                                    refine g_aload_n hC rfl 0 rfl (rfl : 238 + 1 = 239) (xdt tt_X11_count 65 rfl) ?_
                                                    refine g_getP hC hk0 kclX11 ly3_0 6 (by decide) (rfl : r0 + 1 = (r0 + 1)) rfl q27 (rfl : 239 + 3 = 242) (xdt tt_X11_count 66 rfl) ?_
                                                    refine g_getI hC (hA0 1 (by decide) (by decide)) kclX0 ly1_0 17 (by decide) rfl q633 (rfl : 242 + 3 = 245) (xdt tt_X11_count 67 rfl) ?_
                                                    cases h
                                                    exact g_iret hC hE (xdt tt_X11_count 68 rfl)
                                                  · replace h := (if_neg hv30).symm.trans h
                                                    by_cases hv31 : wr x1 = 24
                                                    · replace h := (if_pos hv31).symm.trans h
                                                      refine g_tabIn hC (xdt tt_X11_count 30 rfl) (fun z => hs1 (Or.inl z)) (fun z => hs1 (Or.inr z)) (off := 194) (by rw [hv31]; rfl) (show ((52 : Nat) : Int) + 194 = ((246 : Nat) : Int) by decide) ?_
                                                      refine g_aload_n hC rfl 0 rfl (rfl : 246 + 1 = 247) (xdt tt_X11_count 69 rfl) ?_
                                                      refine g_getP hC hk0 kclX11 ly3_0 10 (by decide) (rfl : r0 + 0 = r0) rfl q33 (rfl : 247 + 3 = 250) (xdt tt_X11_count 70 rfl) ?_
                                                      refine g_getI hC hk0 kclX1 ly3_8 2 (by decide) rfl q849 (rfl : 250 + 3 = 253) (xdt tt_X11_count 71 rfl) ?_
                                                      cases h
                                                      exact g_iret hC hE (xdt tt_X11_count 72 rfl)
                                                    · replace h := (if_neg hv31).symm.trans h
                                                      cases h
set_option maxRecDepth 100000 in
set_option maxHeartbeats 4000000 in
theorem k_X11_count_p3_0_b23 {K : xCtx} {E : xE} {b : Nat} (hC : xOK K cX11_count RX11 2 (rmE 3 b)) (hZ : xZ K) {v : Int} {S' : xSt} (hE : xEnd K E (some .int) (YQi E v S')) {r0 : Nat} (hk0 : xkd E r0 = 3) (hA0 : xFam E r0) : ∀ (S : xSt) (x1 : Int), f_X11_count_p3_0_b23 r0 S x1 = some (v, S') → WG K E 23 [(0, vr E r0 0), (1, vi x1)] [] S := by
  intro S x1 h
  unfold f_X11_count_p3_0_b23 at h
  refine g_iload_n hC rfl 1 rfl (rfl : 23 + 1 = 24) (xdt tt_X11_count 14 rfl) ?_
  refine g_bipush hC (by decide) (rfl : 24 + 2 = 26) (xdt tt_X11_count 15 rfl) ?_
  refine g_icmp_lt hC (show ((26 : Nat) : Int) + 25 = ((51 : Nat) : Int) by decide) (rfl : 26 + 3 = 29) (xdt tt_X11_count 16 rfl) (fun hc34 => ?_) (fun hc34 => ?_)
  · replace h := (if_pos hc34).symm.trans h
    refine g_sub [0, 1] (lv' := [(0, vr E r0 0), (1, vi x1)]) rfl ?_
    exact k_X11_count_p3_0_b51 hC hZ hE hk0 hA0 _ _ h
  · replace h := (if_neg hc34).symm.trans h
    refine g_iload_n hC rfl 1 rfl (rfl : 29 + 1 = 30) (xdt tt_X11_count 17 rfl) ?_
    refine g_bipush hC (by decide) (rfl : 30 + 2 = 32) (xdt tt_X11_count 18 rfl) ?_
    refine g_icmp_ge hC (show ((32 : Nat) : Int) + 19 = ((51 : Nat) : Int) by decide) (rfl : 32 + 3 = 35) (xdt tt_X11_count 19 rfl) (fun hc33 => ?_) (fun hc33 => ?_)
    · replace h := (if_pos hc33).symm.trans h
      refine g_sub [0, 1] (lv' := [(0, vr E r0 0), (1, vi x1)]) rfl ?_
      exact k_X11_count_p3_0_b51 hC hZ hE hk0 hA0 _ _ h
    · replace h := (if_neg hc33).symm.trans h
      refine g_aload_n hC rfl 0 rfl (rfl : 35 + 1 = 36) (xdt tt_X11_count 20 rfl) ?_
      refine g_getP hC hk0 kclX11 ly3_0 6 (by decide) (rfl : r0 + 1 = (r0 + 1)) rfl q27 (rfl : 36 + 3 = 39) (xdt tt_X11_count 21 rfl) ?_
      refine g_getP hC (hA0 1 (by decide) (by decide)) kclX0 ly1_0 7 (by decide) (rfl : (r0 + 1) + 0 = (r0 + 1)) rfl q683 (rfl : 39 + 3 = 42) (xdt tt_X11_count 22 rfl) ?_
      refine g_getP hC (hA0 1 (by decide) (by decide)) kclX9 ly1_14 0 (by decide) (rfl : (r0 + 1) + 0 = (r0 + 1)) rfl q684 (rfl : 42 + 3 = 45) (xdt tt_X11_count 23 rfl) ?_
      refine g_iload_n hC rfl 1 rfl (rfl : 45 + 1 = 46) (xdt tt_X11_count 24 rfl) ?_
      refine g_bipush hC (by decide) (rfl : 46 + 2 = 48) (xdt tt_X11_count 25 rfl) ?_
      refine g_isub hC (rfl : 48 + 1 = 49) (xdt tt_X11_count 26 rfl) ?_
      obtain ⟨hi32, h⟩ := ckI_i h
      refine g_iald hC (hA0 1 (by decide) (by decide)) ly1_15 hi32 (rfl : 49 + 1 = 50) (xdt tt_X11_count 27 rfl) (k0 := (wr (x1 - 9)).toNat) rfl ?_
      cases h
      exact g_iret hC hE (xdt tt_X11_count 28 rfl)
set_option maxRecDepth 100000 in
set_option maxHeartbeats 4000000 in
theorem c_X11_count_p3_0 (l : Launch) {E : xE} {S S' : xSt} {r0 : Nat} {a1 : Int} (hk0 : xkd E r0 = 3) (hA0 : xFam E r0) {v : Int} (h : f_X11_count_p3_0 S r0 a1 = some (v, S')) : Met l yX11_count (xws yX11_count cX11_count 2 (some .int)) (rmD 3) (YPc E [vr E r0 0, vi a1] S) (YQi E v S') 0 0 (xA E) := by
  unfold f_X11_count_p3_0 at h
  refine met_i (by decide +kernel) (Nat.le_of_ble_eq_true rfl) (fun K hC hZ hE => ?_)
  have hC : xOK K cX11_count RX11 2 (rmE 3 0) := hC
  show WG K E 0 [(0, vr E r0 0), (1, vi a1)] [] S
  refine g_iload_n hC rfl 1 rfl (rfl : 0 + 1 = 1) (xdt tt_X11_count 0 rfl) ?_
  refine g_iconst hC (rfl : 1 + 1 = 2) (xdt tt_X11_count 1 rfl) ?_
  refine g_icmp_lt hC (show ((2 : Nat) : Int) + 21 = ((23 : Nat) : Int) by decide) (rfl : 2 + 3 = 5) (xdt tt_X11_count 2 rfl) (fun hc37 => ?_) (fun hc37 => ?_)
  · replace h := (if_pos hc37).symm.trans h
    refine g_sub [0, 1] (lv' := [(0, vr E r0 0), (1, vi a1)]) rfl ?_
    exact k_X11_count_p3_0_b23 hC hZ hE hk0 hA0 _ _ h
  · replace h := (if_neg hc37).symm.trans h
    refine g_iload_n hC rfl 1 rfl (rfl : 5 + 1 = 6) (xdt tt_X11_count 3 rfl) ?_
    refine g_bipush hC (by decide) (rfl : 6 + 2 = 8) (xdt tt_X11_count 4 rfl) ?_
    refine g_icmp_ge hC (show ((8 : Nat) : Int) + 15 = ((23 : Nat) : Int) by decide) (rfl : 8 + 3 = 11) (xdt tt_X11_count 5 rfl) (fun hc36 => ?_) (fun hc36 => ?_)
    · replace h := (if_pos hc36).symm.trans h
      refine g_sub [0, 1] (lv' := [(0, vr E r0 0), (1, vi a1)]) rfl ?_
      exact k_X11_count_p3_0_b23 hC hZ hE hk0 hA0 _ _ h
    · replace h := (if_neg hc36).symm.trans h
      refine g_aload_n hC rfl 0 rfl (rfl : 11 + 1 = 12) (xdt tt_X11_count 6 rfl) ?_
      refine g_getP hC hk0 kclX11 ly3_0 6 (by decide) (rfl : r0 + 1 = (r0 + 1)) rfl q27 (rfl : 12 + 3 = 15) (xdt tt_X11_count 7 rfl) ?_
      refine g_getP hC (hA0 1 (by decide) (by decide)) kclX0 ly1_0 1 (by decide) (rfl : (r0 + 1) + 0 = (r0 + 1)) rfl q677 (rfl : 15 + 3 = 18) (xdt tt_X11_count 8 rfl) ?_
      refine g_iload_n hC rfl 1 rfl (rfl : 18 + 1 = 19) (xdt tt_X11_count 9 rfl) ?_
      refine g_iconst hC (rfl : 19 + 1 = 20) (xdt tt_X11_count 10 rfl) ?_
      refine g_isub hC (rfl : 20 + 1 = 21) (xdt tt_X11_count 11 rfl) ?_
      obtain ⟨hi35, h⟩ := ckI_i h
      refine g_iald hC (hA0 1 (by decide) (by decide)) ly1_1 hi35 (rfl : 21 + 1 = 22) (xdt tt_X11_count 12 rfl) (k0 := (wr (a1 - 2)).toNat) rfl ?_
      cases h
      exact g_iret hC hE (xdt tt_X11_count 13 rfl)
def f_X5_lengthOf_p2_0 (S : xSt) (r0 : Nat) (a1 : Int) : Option (Int × xSt) :=
  bd2 (f_X5_startOf_p2_0 S r0 (a1 + 1)) fun v3 S2 =>
  bd2 (f_X5_startOf_p2_0 S2 r0 a1) fun v6 S5 =>
  some ((v3 - v6), S5)
set_option maxRecDepth 100000 in
set_option maxHeartbeats 4000000 in
theorem c_X5_lengthOf_p2_0 (l : Launch) {E : xE} {S S' : xSt} {r0 : Nat} {a1 : Int} (hk0 : xkd E r0 = 2) {v : Int} (h : f_X5_lengthOf_p2_0 S r0 a1 = some (v, S')) : Met l yX5_lengthOf (xws yX5_lengthOf cX5_lengthOf 2 (some .int)) (rmD 2) (YPc E [vr E r0 0, vi a1] S) (YQi E v S') 0 0 (xA E) := by
  unfold f_X5_lengthOf_p2_0 at h
  refine met_i (by decide +kernel) (Nat.le_of_ble_eq_true rfl) (fun K hC hZ hE => ?_)
  have hC : xOK K cX5_lengthOf RX5 2 (rmE 2 0) := hC
  show WG K E 0 [(0, vr E r0 0), (1, vi a1)] [] S
  refine g_aload_n hC rfl 0 rfl (rfl : 0 + 1 = 1) (xdt tt_X5_lengthOf 0 rfl) ?_
  refine g_iload_n hC rfl 1 rfl (rfl : 1 + 1 = 2) (xdt tt_X5_lengthOf 1 rfl) ?_
  refine g_iconst hC (rfl : 2 + 1 = 3) (xdt tt_X5_lengthOf 2 rfl) ?_
  refine g_iadd hC (rfl : 3 + 1 = 4) (xdt tt_X5_lengthOf 3 rfl) ?_
  obtain ⟨v3, S2, hc1, h⟩ := bd2_i h
  refine g_callVi hC hZ hk0 kclX5 ly2_0 m_X5_startOf q854 (Nat.le_of_ble_eq_true rfl) [vi (a1 + 1)] rfl (fun l => c_X5_startOf_p2_0 l hk0 hc1) rfl (Nat.le_of_ble_eq_true rfl) (rfl : 4 + 3 = 7) (xdt tt_X5_lengthOf 4 rfl) ?_
  refine g_aload_n hC rfl 0 rfl (rfl : 7 + 1 = 8) (xdt tt_X5_lengthOf 5 rfl) ?_
  refine g_iload_n hC rfl 1 rfl (rfl : 8 + 1 = 9) (xdt tt_X5_lengthOf 6 rfl) ?_
  obtain ⟨v6, S5, hc4, h⟩ := bd2_i h
  refine g_callVi hC hZ hk0 kclX5 ly2_0 m_X5_startOf q854 (Nat.le_of_ble_eq_true rfl) [vi a1] rfl (fun l => c_X5_startOf_p2_0 l hk0 hc4) rfl (Nat.le_of_ble_eq_true rfl) (rfl : 9 + 3 = 12) (xdt tt_X5_lengthOf 7 rfl) ?_
  refine g_isub hC (rfl : 12 + 1 = 13) (xdt tt_X5_lengthOf 8 rfl) ?_
  cases h
  exact g_iret hC hE (xdt tt_X5_lengthOf 9 rfl)
def f_X0_predictsTaken_p1_0 (S : xSt) (r0 : Nat) (a1 : Int) : Option (Int × xSt) :=
  if wr a1 < 0 then
    (some (0, S))
  else
    (ckP S r0 0 0 2 0 fun rg1 =>
    if wr a1 < wr (gI S rg1 0 10) then
      (ckP S r0 0 0 2 0 fun rg2 =>
      ckI a1 60 <|
      if wr (gI S rg2 5 (wr a1).toNat) = wr 8 then
        (some (1, S))
      else
        (ckI a1 60 <|
        if wr (gI S r0 19 (wr a1).toNat) = 0 then
          (some (0, S))
        else
          (some (1, S))))
    else
      (some (0, S)))
set_option maxRecDepth 100000 in
set_option maxHeartbeats 4000000 in
theorem c_X0_predictsTaken_p1_0 (l : Launch) {E : xE} {S S' : xSt} {r0 : Nat} {a1 : Int} (hk0 : xkd E r0 = 1) {v : Int} (h : f_X0_predictsTaken_p1_0 S r0 a1 = some (v, S')) : Met l yX0_predictsTaken (xws yX0_predictsTaken cX0_predictsTaken 2 (some .boolean)) (rmD 1) (YPc E [vr E r0 0, vi a1] S) (YQz E v S') 0 0 (xA E) := by
  unfold f_X0_predictsTaken_p1_0 at h
  refine met_z (by decide +kernel) (Nat.le_of_ble_eq_true rfl) (fun K hC hZ hE => ?_)
  have hC : xOK K cX0_predictsTaken RX0 2 (rmE 1 0) := hC
  show WG K E 0 [(0, vr E r0 0), (1, vi a1)] [] S
  refine g_iload_n hC rfl 1 rfl (rfl : 0 + 1 = 1) (xdt tt_X0_predictsTaken 0 rfl) ?_
  refine g_if_lt hC (show ((1 : Nat) : Int) + 14 = ((15 : Nat) : Int) by decide) (rfl : 1 + 3 = 4) (xdt tt_X0_predictsTaken 1 rfl) (fun hc8 => ?_) (fun hc8 => ?_)
  · replace h := (if_pos hc8).symm.trans h
    refine g_iconst hC (rfl : 15 + 1 = 16) (xdt tt_X0_predictsTaken 7 rfl) ?_
    cases h
    exact g_zret hC hE (Or.inl rfl) (xdt tt_X0_predictsTaken 8 rfl)
  · replace h := (if_neg hc8).symm.trans h
    refine g_iload_n hC rfl 1 rfl (rfl : 4 + 1 = 5) (xdt tt_X0_predictsTaken 2 rfl) ?_
    refine g_aload_n hC rfl 0 rfl (rfl : 5 + 1 = 6) (xdt tt_X0_predictsTaken 3 rfl) ?_
    obtain ⟨rg1, hrg1, grg1, h⟩ := ckP_i h
    refine g_getV hC hk0 kclX0 ly1_0 0 (by decide) rfl hrg1 grg1 (by decide) q142 (rfl : 6 + 3 = 9) (xdt tt_X0_predictsTaken 4 rfl) (fun krg1 => ?_)
    refine g_getI hC krg1 kclX5 ly2_0 10 (by decide) rfl q714 (rfl : 9 + 3 = 12) (xdt tt_X0_predictsTaken 5 rfl) ?_
    refine g_icmp_lt hC (show ((12 : Nat) : Int) + 5 = ((17 : Nat) : Int) by decide) (rfl : 12 + 3 = 15) (xdt tt_X0_predictsTaken 6 rfl) (fun hc7 => ?_) (fun hc7 => ?_)
    · replace h := (if_pos hc7).symm.trans h
      refine g_aload_n hC rfl 0 rfl (rfl : 17 + 1 = 18) (xdt tt_X0_predictsTaken 9 rfl) ?_
      obtain ⟨rg2, hrg2, grg2, h⟩ := ckP_i h
      refine g_getV hC hk0 kclX0 ly1_0 0 (by decide) rfl hrg2 grg2 (by decide) q142 (rfl : 18 + 3 = 21) (xdt tt_X0_predictsTaken 10 rfl) (fun krg2 => ?_)
      refine g_getP hC krg2 kclX5 ly2_0 2 (by decide) (rfl : rg2 + 0 = rg2) rfl q716 (rfl : 21 + 3 = 24) (xdt tt_X0_predictsTaken 11 rfl) ?_
      refine g_iload_n hC rfl 1 rfl (rfl : 24 + 1 = 25) (xdt tt_X0_predictsTaken 12 rfl) ?_
      obtain ⟨hi3, h⟩ := ckI_i h
      refine g_iald hC krg2 ly2_5 hi3 (rfl : 25 + 1 = 26) (xdt tt_X0_predictsTaken 13 rfl) (k0 := (wr a1).toNat) rfl ?_
      refine g_bipush hC (by decide) (rfl : 26 + 2 = 28) (xdt tt_X0_predictsTaken 14 rfl) ?_
      refine g_icmp_eq hC (show ((28 : Nat) : Int) + 12 = ((40 : Nat) : Int) by decide) (rfl : 28 + 3 = 31) (xdt tt_X0_predictsTaken 15 rfl) (fun hc6 => ?_) (fun hc6 => ?_)
      · replace h := (if_pos hc6).symm.trans h
        refine g_iconst hC (rfl : 40 + 1 = 41) (xdt tt_X0_predictsTaken 21 rfl) ?_
        refine g_goto hC (show ((41 : Nat) : Int) + 4 = ((45 : Nat) : Int) by decide) (xdt tt_X0_predictsTaken 22 rfl) ?_
        cases h
        exact g_zret hC hE (Or.inr rfl) (xdt tt_X0_predictsTaken 24 rfl)
      · replace h := (if_neg hc6).symm.trans h
        refine g_aload_n hC rfl 0 rfl (rfl : 31 + 1 = 32) (xdt tt_X0_predictsTaken 16 rfl) ?_
        refine g_getP hC hk0 kclX0 ly1_0 8 (by decide) (rfl : r0 + 0 = r0) rfl q113 (rfl : 32 + 3 = 35) (xdt tt_X0_predictsTaken 17 rfl) ?_
        refine g_iload_n hC rfl 1 rfl (rfl : 35 + 1 = 36) (xdt tt_X0_predictsTaken 18 rfl) ?_
        obtain ⟨hi4, h⟩ := ckI_i h
        refine g_zald hC hk0 ly1_19 hi4 (rfl : 36 + 1 = 37) (xdt tt_X0_predictsTaken 19 rfl) (k0 := (wr a1).toNat) rfl ?_
        refine g_if_eq hC (show ((37 : Nat) : Int) + 7 = ((44 : Nat) : Int) by decide) (rfl : 37 + 3 = 40) (xdt tt_X0_predictsTaken 20 rfl) (fun hc5 => ?_) (fun hc5 => ?_)
        · replace h := (if_pos hc5).symm.trans h
          refine g_iconst hC (rfl : 44 + 1 = 45) (xdt tt_X0_predictsTaken 23 rfl) ?_
          cases h
          exact g_zret hC hE (Or.inl rfl) (xdt tt_X0_predictsTaken 24 rfl)
        · replace h := (if_neg hc5).symm.trans h
          refine g_iconst hC (rfl : 40 + 1 = 41) (xdt tt_X0_predictsTaken 21 rfl) ?_
          refine g_goto hC (show ((41 : Nat) : Int) + 4 = ((45 : Nat) : Int) by decide) (xdt tt_X0_predictsTaken 22 rfl) ?_
          cases h
          exact g_zret hC hE (Or.inr rfl) (xdt tt_X0_predictsTaken 24 rfl)
    · replace h := (if_neg hc7).symm.trans h
      refine g_iconst hC (rfl : 15 + 1 = 16) (xdt tt_X0_predictsTaken 7 rfl) ?_
      cases h
      exact g_zret hC hE (Or.inl rfl) (xdt tt_X0_predictsTaken 8 rfl)
def f_X11_predictionOf_p3_0 (S : xSt) (r0 : Nat) (a1 : Int) : Option (Int × xSt) :=
  ckP S r0 0 4 2 0 fun rg1 =>
  bd2 (f_X5_isJumpOrBranch_p2_0 S rg1 a1) fun v4 S3 =>
  if ¬ wr v4 = 0 then
    (bd2 (f_X0_predictsTaken_p1_0 S3 (r0 + 1) a1) fun v8 S7 =>
    if wr v8 = 0 then
      (some (0, S7))
    else
      (some (1, S7)))
  else
    (some ((-1), S3))
set_option maxRecDepth 100000 in
set_option maxHeartbeats 4000000 in
theorem c_X11_predictionOf_p3_0 (l : Launch) {E : xE} {S S' : xSt} {r0 : Nat} {a1 : Int} (hk0 : xkd E r0 = 3) (hA0 : xFam E r0) {v : Int} (h : f_X11_predictionOf_p3_0 S r0 a1 = some (v, S')) : Met l yX11_predictionOf (xws yX11_predictionOf cX11_predictionOf 2 (some .int)) (rmD 2) (YPc E [vr E r0 0, vi a1] S) (YQi E v S') 0 0 (xA E) := by
  unfold f_X11_predictionOf_p3_0 at h
  refine met_i (by decide +kernel) (Nat.le_of_ble_eq_true rfl) (fun K hC hZ hE => ?_)
  have hC : xOK K cX11_predictionOf RX11 2 (rmE 2 0) := hC
  show WG K E 0 [(0, vr E r0 0), (1, vi a1)] [] S
  refine g_aload_n hC rfl 0 rfl (rfl : 0 + 1 = 1) (xdt tt_X11_predictionOf 0 rfl) ?_
  obtain ⟨rg1, hrg1, grg1, h⟩ := ckP_i h
  refine g_getV hC hk0 kclX11 ly3_0 4 (by decide) rfl hrg1 grg1 (by decide) q22 (rfl : 1 + 3 = 4) (xdt tt_X11_predictionOf 1 rfl) (fun krg1 => ?_)
  refine g_iload_n hC rfl 1 rfl (rfl : 4 + 1 = 5) (xdt tt_X11_predictionOf 2 rfl) ?_
  obtain ⟨v4, S3, hc2, h⟩ := bd2_i h
  refine g_callVz hC hZ krg1 kclX5 ly2_0 m_X5_isJumpOrBranch q883 (Nat.le_of_ble_eq_true rfl) [vi a1] rfl (fun l => c_X5_isJumpOrBranch_p2_0 l krg1 hc2) rfl (Nat.le_of_ble_eq_true rfl) (rfl : 5 + 3 = 8) (xdt tt_X11_predictionOf 3 rfl) (fun hb5 => ?_)
  refine g_if_ne hC (show ((8 : Nat) : Int) + 5 = ((13 : Nat) : Int) by decide) (rfl : 8 + 3 = 11) (xdt tt_X11_predictionOf 4 rfl) (fun hc11 => ?_) (fun hc11 => ?_)
  · replace h := (if_pos hc11).symm.trans h
    refine g_aload_n hC rfl 0 rfl (rfl : 13 + 1 = 14) (xdt tt_X11_predictionOf 7 rfl) ?_
    refine g_getP hC hk0 kclX11 ly3_0 6 (by decide) (rfl : r0 + 1 = (r0 + 1)) rfl q27 (rfl : 14 + 3 = 17) (xdt tt_X11_predictionOf 8 rfl) ?_
    refine g_iload_n hC rfl 1 rfl (rfl : 17 + 1 = 18) (xdt tt_X11_predictionOf 9 rfl) ?_
    obtain ⟨v8, S7, hc6, h⟩ := bd2_i h
    refine g_callVz hC hZ (hA0 1 (by decide) (by decide)) kclX0 ly1_0 m_X0_predictsTaken q884 (Nat.le_of_ble_eq_true rfl) [vi a1] rfl (fun l => c_X0_predictsTaken_p1_0 l (hA0 1 (by decide) (by decide)) hc6) rfl (Nat.le_of_ble_eq_true rfl) (rfl : 18 + 3 = 21) (xdt tt_X11_predictionOf 10 rfl) (fun hb9 => ?_)
    refine g_if_eq hC (show ((21 : Nat) : Int) + 7 = ((28 : Nat) : Int) by decide) (rfl : 21 + 3 = 24) (xdt tt_X11_predictionOf 11 rfl) (fun hc10 => ?_) (fun hc10 => ?_)
    · replace h := (if_pos hc10).symm.trans h
      refine g_iconst hC (rfl : 28 + 1 = 29) (xdt tt_X11_predictionOf 14 rfl) ?_
      cases h
      exact g_iret hC hE (xdt tt_X11_predictionOf 15 rfl)
    · replace h := (if_neg hc10).symm.trans h
      refine g_iconst hC (rfl : 24 + 1 = 25) (xdt tt_X11_predictionOf 12 rfl) ?_
      refine g_goto hC (show ((25 : Nat) : Int) + 4 = ((29 : Nat) : Int) by decide) (xdt tt_X11_predictionOf 13 rfl) ?_
      cases h
      exact g_iret hC hE (xdt tt_X11_predictionOf 15 rfl)
  · replace h := (if_neg hc11).symm.trans h
    refine g_iconst hC (rfl : 11 + 1 = 12) (xdt tt_X11_predictionOf 5 rfl) ?_
    cases h
    exact g_iret hC hE (xdt tt_X11_predictionOf 6 rfl)
def f_X11_instruction_p3_0 (S : xSt) (r0 : Nat) (a1 : Int) (a2 : Int) : Option (Int × xSt) :=
  if wr a1 < 0 then
    (none)
  else
    (ckP S r0 0 4 2 0 fun rg1 =>
    if wr a1 < wr (gI S rg1 0 10) then
      (if wr a2 < 0 ∨ 7 < wr a2 then
        (none)
      else
      if wr a2 = 0 then
        (ckP S r0 0 4 2 0 fun rg3 =>
        ckI a1 60 <|
        some ((gI S rg3 5 (wr a1).toNat), S))
      else
      if wr a2 = 1 then
        (ckP S r0 0 4 2 0 fun rg6 =>
        ckI a1 61 <|
        some ((gI S rg6 9 (wr a1).toNat), S))
      else
      if wr a2 = 2 then
        (ckP S r0 0 4 2 0 fun rg9 =>
        bd2 (f_X5_lengthOf_p2_0 S rg9 a1) fun v12 S11 =>
        some (v12, S11))
      else
      if wr a2 = 3 then
        (ckP S r0 0 4 2 0 fun rg14 =>
        ckI a1 60 <|
        some ((gI S rg14 10 (wr a1).toNat), S))
      else
      if wr a2 = 4 then
        (ckP S r0 0 4 2 0 fun rg17 =>
        ckI a1 60 <|
        some ((gI S rg17 11 (wr a1).toNat), S))
      else
      if wr a2 = 5 then
        (ckP S r0 0 4 2 0 fun rg20 =>
        ckI a1 60 <|
        if ¬ wr (gI S rg20 5 (wr a1).toNat) = wr 9 then
          (some ((-1), S))
        else
          (ckP S r0 0 4 2 0 fun rg22 =>
          ckI a1 60 <|
          some ((gI S rg22 8 (wr a1).toNat), S)))
      else
      if wr a2 = 6 then
        (ckP S r0 0 4 2 0 fun rg26 =>
        ckI a1 60 <|
        if wr (gI S rg26 6 (wr a1).toNat) = 0 then
          (some (0, S))
        else
          (some (1, S)))
      else
      if wr a2 = 7 then
        (bd2 (f_X11_predictionOf_p3_0 S r0 a1) fun v32 S31 =>
        some (v32, S31))
      else
      none)
    else
      (none))
set_option maxRecDepth 100000 in
set_option maxHeartbeats 4000000 in
theorem c_X11_instruction_p3_0 (l : Launch) {E : xE} {S S' : xSt} {r0 : Nat} {a1 : Int} {a2 : Int} (hk0 : xkd E r0 = 3) (hA0 : xFam E r0) {v : Int} (h : f_X11_instruction_p3_0 S r0 a1 a2 = some (v, S')) : Met l yX11_instruction (xws yX11_instruction cX11_instruction 3 (some .int)) (rmD 3) (YPc E [vr E r0 0, vi a1, vi a2] S) (YQi E v S') 0 0 (xA E) := by
  unfold f_X11_instruction_p3_0 at h
  refine met_i (by decide +kernel) (Nat.le_of_ble_eq_true rfl) (fun K hC hZ hE => ?_)
  have hC : xOK K cX11_instruction RX11 3 (rmE 3 0) := hC
  show WG K E 0 [(0, vr E r0 0), (1, vi a1), (2, vi a2)] [] S
  refine g_iload_n hC rfl 1 rfl (rfl : 0 + 1 = 1) (xdt tt_X11_instruction 0 rfl) ?_
  refine g_if_lt hC (show ((1 : Nat) : Int) + 14 = ((15 : Nat) : Int) by decide) (rfl : 1 + 3 = 4) (xdt tt_X11_instruction 1 rfl) (fun hc35 => ?_) (fun hc35 => ?_)
  · replace h := (if_pos hc35).symm.trans h
    cases h
  · replace h := (if_neg hc35).symm.trans h
    refine g_iload_n hC rfl 1 rfl (rfl : 4 + 1 = 5) (xdt tt_X11_instruction 2 rfl) ?_
    refine g_aload_n hC rfl 0 rfl (rfl : 5 + 1 = 6) (xdt tt_X11_instruction 3 rfl) ?_
    obtain ⟨rg1, hrg1, grg1, h⟩ := ckP_i h
    refine g_getV hC hk0 kclX11 ly3_0 4 (by decide) rfl hrg1 grg1 (by decide) q22 (rfl : 6 + 3 = 9) (xdt tt_X11_instruction 4 rfl) (fun krg1 => ?_)
    refine g_getI hC krg1 kclX5 ly2_0 10 (by decide) rfl q487 (rfl : 9 + 3 = 12) (xdt tt_X11_instruction 5 rfl) ?_
    refine g_icmp_lt hC (show ((12 : Nat) : Int) + 13 = ((25 : Nat) : Int) by decide) (rfl : 12 + 3 = 15) (xdt tt_X11_instruction 6 rfl) (fun hc34 => ?_) (fun hc34 => ?_)
    · replace h := (if_pos hc34).symm.trans h
      refine g_iload_n hC rfl 2 rfl (rfl : 25 + 1 = 26) (xdt tt_X11_instruction 12 rfl) ?_
      by_cases hs2 : wr a2 < 0 ∨ 7 < wr a2
      · replace h := (if_pos hs2).symm.trans h
        refine g_tabOut hC (xdt tt_X11_instruction 13 rfl) hs2 (show ((26 : Nat) : Int) + 147 = ((173 : Nat) : Int) by decide) ?_
        cases h
      · replace h := (if_neg hs2).symm.trans h
        by_cases hv5 : wr a2 = 0
        · replace h := (if_pos hv5).symm.trans h
          refine g_tabIn hC (xdt tt_X11_instruction 13 rfl) (fun z => hs2 (Or.inl z)) (fun z => hs2 (Or.inr z)) (off := 46) (by rw [hv5]; rfl) (show ((26 : Nat) : Int) + 46 = ((72 : Nat) : Int) by decide) ?_
          refine g_aload_n hC rfl 0 rfl (rfl : 72 + 1 = 73) (xdt tt_X11_instruction 14 rfl) ?_
          obtain ⟨rg3, hrg3, grg3, h⟩ := ckP_i h
          refine g_getV hC hk0 kclX11 ly3_0 4 (by decide) rfl hrg3 grg3 (by decide) q22 (rfl : 73 + 3 = 76) (xdt tt_X11_instruction 15 rfl) (fun krg3 => ?_)
          refine g_getP hC krg3 kclX5 ly2_0 2 (by decide) (rfl : rg3 + 0 = rg3) rfl q869 (rfl : 76 + 3 = 79) (xdt tt_X11_instruction 16 rfl) ?_
          refine g_iload_n hC rfl 1 rfl (rfl : 79 + 1 = 80) (xdt tt_X11_instruction 17 rfl) ?_
          obtain ⟨hi4, h⟩ := ckI_i h
          refine g_iald hC krg3 ly2_5 hi4 (rfl : 80 + 1 = 81) (xdt tt_X11_instruction 18 rfl) (k0 := (wr a1).toNat) rfl ?_
          cases h
          exact g_iret hC hE (xdt tt_X11_instruction 19 rfl)
        · replace h := (if_neg hv5).symm.trans h
          by_cases hv8 : wr a2 = 1
          · replace h := (if_pos hv8).symm.trans h
            refine g_tabIn hC (xdt tt_X11_instruction 13 rfl) (fun z => hs2 (Or.inl z)) (fun z => hs2 (Or.inr z)) (off := 56) (by rw [hv8]; rfl) (show ((26 : Nat) : Int) + 56 = ((82 : Nat) : Int) by decide) ?_
            refine g_aload_n hC rfl 0 rfl (rfl : 82 + 1 = 83) (xdt tt_X11_instruction 20 rfl) ?_
            obtain ⟨rg6, hrg6, grg6, h⟩ := ckP_i h
            refine g_getV hC hk0 kclX11 ly3_0 4 (by decide) rfl hrg6 grg6 (by decide) q22 (rfl : 83 + 3 = 86) (xdt tt_X11_instruction 21 rfl) (fun krg6 => ?_)
            refine g_getP hC krg6 kclX5 ly2_0 6 (by decide) (rfl : rg6 + 0 = rg6) rfl q870 (rfl : 86 + 3 = 89) (xdt tt_X11_instruction 22 rfl) ?_
            refine g_iload_n hC rfl 1 rfl (rfl : 89 + 1 = 90) (xdt tt_X11_instruction 23 rfl) ?_
            obtain ⟨hi7, h⟩ := ckI_i h
            refine g_iald hC krg6 ly2_9 hi7 (rfl : 90 + 1 = 91) (xdt tt_X11_instruction 24 rfl) (k0 := (wr a1).toNat) rfl ?_
            cases h
            exact g_iret hC hE (xdt tt_X11_instruction 25 rfl)
          · replace h := (if_neg hv8).symm.trans h
            by_cases hv13 : wr a2 = 2
            · replace h := (if_pos hv13).symm.trans h
              refine g_tabIn hC (xdt tt_X11_instruction 13 rfl) (fun z => hs2 (Or.inl z)) (fun z => hs2 (Or.inr z)) (off := 66) (by rw [hv13]; rfl) (show ((26 : Nat) : Int) + 66 = ((92 : Nat) : Int) by decide) ?_
              refine g_aload_n hC rfl 0 rfl (rfl : 92 + 1 = 93) (xdt tt_X11_instruction 26 rfl) ?_
              obtain ⟨rg9, hrg9, grg9, h⟩ := ckP_i h
              refine g_getV hC hk0 kclX11 ly3_0 4 (by decide) rfl hrg9 grg9 (by decide) q22 (rfl : 93 + 3 = 96) (xdt tt_X11_instruction 27 rfl) (fun krg9 => ?_)
              refine g_iload_n hC rfl 1 rfl (rfl : 96 + 1 = 97) (xdt tt_X11_instruction 28 rfl) ?_
              obtain ⟨v12, S11, hc10, h⟩ := bd2_i h
              refine g_callVi hC hZ krg9 kclX5 ly2_0 m_X5_lengthOf q875 (Nat.le_of_ble_eq_true rfl) [vi a1] rfl (fun l => c_X5_lengthOf_p2_0 l krg9 hc10) rfl (Nat.le_of_ble_eq_true rfl) (rfl : 97 + 3 = 100) (xdt tt_X11_instruction 29 rfl) ?_
              cases h
              exact g_iret hC hE (xdt tt_X11_instruction 30 rfl)
            · replace h := (if_neg hv13).symm.trans h
              by_cases hv16 : wr a2 = 3
              · replace h := (if_pos hv16).symm.trans h
                refine g_tabIn hC (xdt tt_X11_instruction 13 rfl) (fun z => hs2 (Or.inl z)) (fun z => hs2 (Or.inr z)) (off := 75) (by rw [hv16]; rfl) (show ((26 : Nat) : Int) + 75 = ((101 : Nat) : Int) by decide) ?_
                refine g_aload_n hC rfl 0 rfl (rfl : 101 + 1 = 102) (xdt tt_X11_instruction 31 rfl) ?_
                obtain ⟨rg14, hrg14, grg14, h⟩ := ckP_i h
                refine g_getV hC hk0 kclX11 ly3_0 4 (by decide) rfl hrg14 grg14 (by decide) q22 (rfl : 102 + 3 = 105) (xdt tt_X11_instruction 32 rfl) (fun krg14 => ?_)
                refine g_getP hC krg14 kclX5 ly2_0 7 (by decide) (rfl : rg14 + 0 = rg14) rfl q871 (rfl : 105 + 3 = 108) (xdt tt_X11_instruction 33 rfl) ?_
                refine g_iload_n hC rfl 1 rfl (rfl : 108 + 1 = 109) (xdt tt_X11_instruction 34 rfl) ?_
                obtain ⟨hi15, h⟩ := ckI_i h
                refine g_iald hC krg14 ly2_10 hi15 (rfl : 109 + 1 = 110) (xdt tt_X11_instruction 35 rfl) (k0 := (wr a1).toNat) rfl ?_
                cases h
                exact g_iret hC hE (xdt tt_X11_instruction 36 rfl)
              · replace h := (if_neg hv16).symm.trans h
                by_cases hv19 : wr a2 = 4
                · replace h := (if_pos hv19).symm.trans h
                  refine g_tabIn hC (xdt tt_X11_instruction 13 rfl) (fun z => hs2 (Or.inl z)) (fun z => hs2 (Or.inr z)) (off := 85) (by rw [hv19]; rfl) (show ((26 : Nat) : Int) + 85 = ((111 : Nat) : Int) by decide) ?_
                  refine g_aload_n hC rfl 0 rfl (rfl : 111 + 1 = 112) (xdt tt_X11_instruction 37 rfl) ?_
                  obtain ⟨rg17, hrg17, grg17, h⟩ := ckP_i h
                  refine g_getV hC hk0 kclX11 ly3_0 4 (by decide) rfl hrg17 grg17 (by decide) q22 (rfl : 112 + 3 = 115) (xdt tt_X11_instruction 38 rfl) (fun krg17 => ?_)
                  refine g_getP hC krg17 kclX5 ly2_0 8 (by decide) (rfl : rg17 + 0 = rg17) rfl q872 (rfl : 115 + 3 = 118) (xdt tt_X11_instruction 39 rfl) ?_
                  refine g_iload_n hC rfl 1 rfl (rfl : 118 + 1 = 119) (xdt tt_X11_instruction 40 rfl) ?_
                  obtain ⟨hi18, h⟩ := ckI_i h
                  refine g_iald hC krg17 ly2_11 hi18 (rfl : 119 + 1 = 120) (xdt tt_X11_instruction 41 rfl) (k0 := (wr a1).toNat) rfl ?_
                  cases h
                  exact g_iret hC hE (xdt tt_X11_instruction 42 rfl)
                · replace h := (if_neg hv19).symm.trans h
                  by_cases hv25 : wr a2 = 5
                  · replace h := (if_pos hv25).symm.trans h
                    refine g_tabIn hC (xdt tt_X11_instruction 13 rfl) (fun z => hs2 (Or.inl z)) (fun z => hs2 (Or.inr z)) (off := 95) (by rw [hv25]; rfl) (show ((26 : Nat) : Int) + 95 = ((121 : Nat) : Int) by decide) ?_
                    refine g_aload_n hC rfl 0 rfl (rfl : 121 + 1 = 122) (xdt tt_X11_instruction 43 rfl) ?_
                    obtain ⟨rg20, hrg20, grg20, h⟩ := ckP_i h
                    refine g_getV hC hk0 kclX11 ly3_0 4 (by decide) rfl hrg20 grg20 (by decide) q22 (rfl : 122 + 3 = 125) (xdt tt_X11_instruction 44 rfl) (fun krg20 => ?_)
                    refine g_getP hC krg20 kclX5 ly2_0 2 (by decide) (rfl : rg20 + 0 = rg20) rfl q869 (rfl : 125 + 3 = 128) (xdt tt_X11_instruction 45 rfl) ?_
                    refine g_iload_n hC rfl 1 rfl (rfl : 128 + 1 = 129) (xdt tt_X11_instruction 46 rfl) ?_
                    obtain ⟨hi21, h⟩ := ckI_i h
                    refine g_iald hC krg20 ly2_5 hi21 (rfl : 129 + 1 = 130) (xdt tt_X11_instruction 47 rfl) (k0 := (wr a1).toNat) rfl ?_
                    refine g_bipush hC (by decide) (rfl : 130 + 2 = 132) (xdt tt_X11_instruction 48 rfl) ?_
                    refine g_icmp_ne hC (show ((132 : Nat) : Int) + 15 = ((147 : Nat) : Int) by decide) (rfl : 132 + 3 = 135) (xdt tt_X11_instruction 49 rfl) (fun hc24 => ?_) (fun hc24 => ?_)
                    · replace h := (if_pos hc24).symm.trans h
                      refine g_iconst hC (rfl : 147 + 1 = 148) (xdt tt_X11_instruction 56 rfl) ?_
                      cases h
                      exact g_iret hC hE (xdt tt_X11_instruction 57 rfl)
                    · replace h := (if_neg hc24).symm.trans h
                      refine g_aload_n hC rfl 0 rfl (rfl : 135 + 1 = 136) (xdt tt_X11_instruction 50 rfl) ?_
                      obtain ⟨rg22, hrg22, grg22, h⟩ := ckP_i h
                      refine g_getV hC hk0 kclX11 ly3_0 4 (by decide) rfl hrg22 grg22 (by decide) q22 (rfl : 136 + 3 = 139) (xdt tt_X11_instruction 51 rfl) (fun krg22 => ?_)
                      refine g_getP hC krg22 kclX5 ly2_0 5 (by decide) (rfl : rg22 + 0 = rg22) rfl q873 (rfl : 139 + 3 = 142) (xdt tt_X11_instruction 52 rfl) ?_
                      refine g_iload_n hC rfl 1 rfl (rfl : 142 + 1 = 143) (xdt tt_X11_instruction 53 rfl) ?_
                      obtain ⟨hi23, h⟩ := ckI_i h
                      refine g_iald hC krg22 ly2_8 hi23 (rfl : 143 + 1 = 144) (xdt tt_X11_instruction 54 rfl) (k0 := (wr a1).toNat) rfl ?_
                      refine g_goto hC (show ((144 : Nat) : Int) + 4 = ((148 : Nat) : Int) by decide) (xdt tt_X11_instruction 55 rfl) ?_
                      cases h
                      exact g_iret hC hE (xdt tt_X11_instruction 57 rfl)
                  · replace h := (if_neg hv25).symm.trans h
                    by_cases hv29 : wr a2 = 6
                    · replace h := (if_pos hv29).symm.trans h
                      refine g_tabIn hC (xdt tt_X11_instruction 13 rfl) (fun z => hs2 (Or.inl z)) (fun z => hs2 (Or.inr z)) (off := 123) (by rw [hv29]; rfl) (show ((26 : Nat) : Int) + 123 = ((149 : Nat) : Int) by decide) ?_
                      refine g_aload_n hC rfl 0 rfl (rfl : 149 + 1 = 150) (xdt tt_X11_instruction 58 rfl) ?_
                      obtain ⟨rg26, hrg26, grg26, h⟩ := ckP_i h
                      refine g_getV hC hk0 kclX11 ly3_0 4 (by decide) rfl hrg26 grg26 (by decide) q22 (rfl : 150 + 3 = 153) (xdt tt_X11_instruction 59 rfl) (fun krg26 => ?_)
                      refine g_getP hC krg26 kclX5 ly2_0 3 (by decide) (rfl : rg26 + 0 = rg26) rfl q874 (rfl : 153 + 3 = 156) (xdt tt_X11_instruction 60 rfl) ?_
                      refine g_iload_n hC rfl 1 rfl (rfl : 156 + 1 = 157) (xdt tt_X11_instruction 61 rfl) ?_
                      obtain ⟨hi27, h⟩ := ckI_i h
                      refine g_zald hC krg26 ly2_6 hi27 (rfl : 157 + 1 = 158) (xdt tt_X11_instruction 62 rfl) (k0 := (wr a1).toNat) rfl ?_
                      refine g_if_eq hC (show ((158 : Nat) : Int) + 7 = ((165 : Nat) : Int) by decide) (rfl : 158 + 3 = 161) (xdt tt_X11_instruction 63 rfl) (fun hc28 => ?_) (fun hc28 => ?_)
                      · replace h := (if_pos hc28).symm.trans h
                        refine g_iconst hC (rfl : 165 + 1 = 166) (xdt tt_X11_instruction 66 rfl) ?_
                        cases h
                        exact g_iret hC hE (xdt tt_X11_instruction 67 rfl)
                      · replace h := (if_neg hc28).symm.trans h
                        refine g_iconst hC (rfl : 161 + 1 = 162) (xdt tt_X11_instruction 64 rfl) ?_
                        refine g_goto hC (show ((162 : Nat) : Int) + 4 = ((166 : Nat) : Int) by decide) (xdt tt_X11_instruction 65 rfl) ?_
                        cases h
                        exact g_iret hC hE (xdt tt_X11_instruction 67 rfl)
                    · replace h := (if_neg hv29).symm.trans h
                      by_cases hv33 : wr a2 = 7
                      · replace h := (if_pos hv33).symm.trans h
                        refine g_tabIn hC (xdt tt_X11_instruction 13 rfl) (fun z => hs2 (Or.inl z)) (fun z => hs2 (Or.inr z)) (off := 141) (by rw [hv33]; rfl) (show ((26 : Nat) : Int) + 141 = ((167 : Nat) : Int) by decide) ?_
                        refine g_aload_n hC rfl 0 rfl (rfl : 167 + 1 = 168) (xdt tt_X11_instruction 68 rfl) ?_
                        refine g_iload_n hC rfl 1 rfl (rfl : 168 + 1 = 169) (xdt tt_X11_instruction 69 rfl) ?_
                        obtain ⟨v32, S31, hc30, h⟩ := bd2_i h
                        refine g_callVi hC hZ hk0 kclX11 ly3_0 m_X11_predictionOf q879 (Nat.le_of_ble_eq_true rfl) [vi a1] rfl (fun l => c_X11_predictionOf_p3_0 l hk0 hA0 hc30) rfl (Nat.le_of_ble_eq_true rfl) (rfl : 169 + 3 = 172) (xdt tt_X11_instruction 70 rfl) ?_
                        cases h
                        exact g_iret hC hE (xdt tt_X11_instruction 71 rfl)
                      · replace h := (if_neg hv33).symm.trans h
                        cases h
    · replace h := (if_neg hc34).symm.trans h
      cases h
def f_X11_at_p3_0_b8 (r0 : Nat) : Nat → xSt → Int → Int → Option (Int × xSt)
  | 0, _, _, _ => none
  | fuel + 1, S, x1, x2 =>
    ckP S r0 0 4 2 0 fun rg1 =>
    if wr (gI S rg1 0 10) ≤ wr x2 then
      (some ((-1), S))
    else
      (ckP S r0 0 4 2 0 fun rg2 =>
      bd2 (f_X5_startOf_p2_0 S rg2 (x2 + 1)) fun v5 S4 =>
      if wr v5 ≤ wr x1 then
        ((f_X11_at_p3_0_b8 r0 fuel) S4 x1 (x2 + 1))
      else
        (some (x2, S4)))
def f_X11_at_p3_0 (S : xSt) (r0 : Nat) (a1 : Int) : Option (Int × xSt) :=
  if 0 ≤ wr a1 then
    (f_X11_at_p3_0_b8 r0 (fu S) S a1 0)
  else
    (some ((-1), S))
set_option maxRecDepth 100000 in
set_option maxHeartbeats 4000000 in
theorem k_X11_at_p3_0_b8 {K : xCtx} {E : xE} {b : Nat} (hC : xOK K cX11_at RX11 3 (rmE 2 b)) (hZ : xZ K) {v : Int} {S' : xSt} (hE : xEnd K E (some .int) (YQi E v S')) {r0 : Nat} (hk0 : xkd E r0 = 3) (hA0 : xFam E r0) : ∀ (fuel : Nat) (S : xSt) (x1 : Int) (x2 : Int), f_X11_at_p3_0_b8 r0 fuel S x1 x2 = some (v, S') → WG K E 8 [(0, vr E r0 0), (1, vi x1), (2, vi x2)] [] S := by
  intro fuel
  induction fuel with
  | zero => intro S x1 x2 h; cases h
  | succ fuel ih =>
    intro S x1 x2 h
    rw [f_X11_at_p3_0_b8] at h
    refine g_iload_n hC rfl 2 rfl (rfl : 8 + 1 = 9) (xdt tt_X11_at 6 rfl) ?_
    refine g_aload_n hC rfl 0 rfl (rfl : 9 + 1 = 10) (xdt tt_X11_at 7 rfl) ?_
    obtain ⟨rg1, hrg1, grg1, h⟩ := ckP_i h
    refine g_getV hC hk0 kclX11 ly3_0 4 (by decide) rfl hrg1 grg1 (by decide) q22 (rfl : 10 + 3 = 13) (xdt tt_X11_at 8 rfl) (fun krg1 => ?_)
    refine g_getI hC krg1 kclX5 ly2_0 10 (by decide) rfl q487 (rfl : 13 + 3 = 16) (xdt tt_X11_at 9 rfl) ?_
    refine g_icmp_ge hC (show ((16 : Nat) : Int) + 25 = ((41 : Nat) : Int) by decide) (rfl : 16 + 3 = 19) (xdt tt_X11_at 10 rfl) (fun hc7 => ?_) (fun hc7 => ?_)
    · replace h := (if_pos hc7).symm.trans h
      refine g_iconst hC (rfl : 41 + 1 = 42) (xdt tt_X11_at 23 rfl) ?_
      cases h
      exact g_iret hC hE (xdt tt_X11_at 24 rfl)
    · replace h := (if_neg hc7).symm.trans h
      refine g_iload_n hC rfl 1 rfl (rfl : 19 + 1 = 20) (xdt tt_X11_at 11 rfl) ?_
      refine g_aload_n hC rfl 0 rfl (rfl : 20 + 1 = 21) (xdt tt_X11_at 12 rfl) ?_
      obtain ⟨rg2, hrg2, grg2, h⟩ := ckP_i h
      refine g_getV hC hk0 kclX11 ly3_0 4 (by decide) rfl hrg2 grg2 (by decide) q22 (rfl : 21 + 3 = 24) (xdt tt_X11_at 13 rfl) (fun krg2 => ?_)
      refine g_iload_n hC rfl 2 rfl (rfl : 24 + 1 = 25) (xdt tt_X11_at 14 rfl) ?_
      refine g_iconst hC (rfl : 25 + 1 = 26) (xdt tt_X11_at 15 rfl) ?_
      refine g_iadd hC (rfl : 26 + 1 = 27) (xdt tt_X11_at 16 rfl) ?_
      obtain ⟨v5, S4, hc3, h⟩ := bd2_i h
      refine g_callVi hC hZ krg2 kclX5 ly2_0 m_X5_startOf q889 (Nat.le_of_ble_eq_true rfl) [vi (x2 + 1)] rfl (fun l => c_X5_startOf_p2_0 l krg2 hc3) rfl (Nat.le_of_ble_eq_true rfl) (rfl : 27 + 3 = 30) (xdt tt_X11_at 17 rfl) ?_
      refine g_icmp_ge hC (show ((30 : Nat) : Int) + 5 = ((35 : Nat) : Int) by decide) (rfl : 30 + 3 = 33) (xdt tt_X11_at 18 rfl) (fun hc6 => ?_) (fun hc6 => ?_)
      · replace h := (if_pos hc6).symm.trans h
        refine g_iinc hC 2 rfl (by decide) (lv' := [(2, vi (x2 + 1)), (0, vr E r0 0), (1, vi x1)]) rfl (rfl : 35 + 3 = 38) (xdt tt_X11_at 21 rfl) ?_
        refine g_goto hC (show ((38 : Nat) : Int) + (-30) = ((8 : Nat) : Int) by decide) (xdt tt_X11_at 22 rfl) ?_
        refine g_sub [1, 2, 0] (lv' := [(0, vr E r0 0), (1, vi x1), (2, vi (x2 + 1))]) rfl ?_
        exact ih _ _ _ h
      · replace h := (if_neg hc6).symm.trans h
        refine g_iload_n hC rfl 2 rfl (rfl : 33 + 1 = 34) (xdt tt_X11_at 19 rfl) ?_
        cases h
        exact g_iret hC hE (xdt tt_X11_at 20 rfl)
set_option maxRecDepth 100000 in
set_option maxHeartbeats 4000000 in
theorem c_X11_at_p3_0 (l : Launch) {E : xE} {S S' : xSt} {r0 : Nat} {a1 : Int} (hk0 : xkd E r0 = 3) (hA0 : xFam E r0) {v : Int} (h : f_X11_at_p3_0 S r0 a1 = some (v, S')) : Met l yX11_at (xws yX11_at cX11_at 3 (some .int)) (rmD 2) (YPc E [vr E r0 0, vi a1] S) (YQi E v S') 0 0 (xA E) := by
  unfold f_X11_at_p3_0 at h
  refine met_i (by decide +kernel) (Nat.le_of_ble_eq_true rfl) (fun K hC hZ hE => ?_)
  have hC : xOK K cX11_at RX11 3 (rmE 2 0) := hC
  show WG K E 0 [(0, vr E r0 0), (1, vi a1)] [] S
  refine g_iload_n hC rfl 1 rfl (rfl : 0 + 1 = 1) (xdt tt_X11_at 0 rfl) ?_
  refine g_if_ge hC (show ((1 : Nat) : Int) + 5 = ((6 : Nat) : Int) by decide) (rfl : 1 + 3 = 4) (xdt tt_X11_at 1 rfl) (fun hc8 => ?_) (fun hc8 => ?_)
  · replace h := (if_pos hc8).symm.trans h
    refine g_iconst hC (rfl : 6 + 1 = 7) (xdt tt_X11_at 4 rfl) ?_
    refine g_istore_n hC rfl (by decide) (lv' := [(2, vi 0), (0, vr E r0 0), (1, vi a1)]) rfl (rfl : 7 + 1 = 8) (xdt tt_X11_at 5 rfl) ?_
    refine g_sub [1, 2, 0] (lv' := [(0, vr E r0 0), (1, vi a1), (2, vi 0)]) rfl ?_
    exact k_X11_at_p3_0_b8 hC hZ hE hk0 hA0 _ _ _ _ h
  · replace h := (if_neg hc8).symm.trans h
    refine g_iconst hC (rfl : 4 + 1 = 5) (xdt tt_X11_at 2 rfl) ?_
    cases h
    exact g_iret hC hE (xdt tt_X11_at 3 rfl)
def f_X11_ofKind_p3_0_b25 (r0 : Nat) : Nat → xSt → Int → Int → Int → Int → Option (Int × xSt)
  | 0, _, _, _, _, _ => none
  | fuel + 1, S, x1, x2, x3, x4 =>
    ckP S r0 0 4 2 0 fun rg1 =>
    if wr (gI S rg1 0 10) ≤ wr x4 then
      (some (x3, S))
    else
      (ckP S r0 0 4 2 0 fun rg2 =>
      ckI x4 60 <|
      if ¬ wr (gI S rg2 5 (wr x4).toNat) = wr x1 then
        ((f_X11_ofKind_p3_0_b25 r0 fuel) S x1 x2 x3 (x4 + 1))
      else
        (if wr x2 = 0 then
          ((f_X11_ofKind_p3_0_b25 r0 fuel) S x1 x2 (x3 + 1) (x4 + 1))
        else
          (ckI x4 60 <|
          (f_X11_ofKind_p3_0_b25 r0 fuel) S x1 x2 (x3 + (gI S (r0 + 1) 17 (wr x4).toNat)) (x4 + 1))))
def f_X11_ofKind_p3_0 (S : xSt) (r0 : Nat) (a1 : Int) (a2 : Int) : Option (Int × xSt) :=
  if wr a1 < 0 then
    (none)
  else
    (if wr a1 < wr 10 then
      (f_X11_ofKind_p3_0_b25 r0 (fu S) S a1 a2 0 0)
    else
      (none))
set_option maxRecDepth 100000 in
set_option maxHeartbeats 4000000 in
theorem k_X11_ofKind_p3_0_b25 {K : xCtx} {E : xE} {b : Nat} (hC : xOK K cX11_ofKind RX11 5 (rmE 1 b)) (hZ : xZ K) {v : Int} {S' : xSt} (hE : xEnd K E (some .int) (YQi E v S')) {r0 : Nat} (hk0 : xkd E r0 = 3) (hA0 : xFam E r0) : ∀ (fuel : Nat) (S : xSt) (x1 : Int) (x2 : Int) (x3 : Int) (x4 : Int), f_X11_ofKind_p3_0_b25 r0 fuel S x1 x2 x3 x4 = some (v, S') → WG K E 25 [(0, vr E r0 0), (1, vi x1), (2, vi x2), (3, vi x3), (4, vi x4)] [] S := by
  intro fuel
  induction fuel with
  | zero => intro S x1 x2 x3 x4 h; cases h
  | succ fuel ih =>
    intro S x1 x2 x3 x4 h
    rw [f_X11_ofKind_p3_0_b25] at h
    refine g_iload hC 4 rfl (rfl : 25 + 2 = 27) (xdt tt_X11_ofKind 14 rfl) ?_
    refine g_aload_n hC rfl 0 rfl (rfl : 27 + 1 = 28) (xdt tt_X11_ofKind 15 rfl) ?_
    obtain ⟨rg1, hrg1, grg1, h⟩ := ckP_i h
    refine g_getV hC hk0 kclX11 ly3_0 4 (by decide) rfl hrg1 grg1 (by decide) q22 (rfl : 28 + 3 = 31) (xdt tt_X11_ofKind 16 rfl) (fun krg1 => ?_)
    refine g_getI hC krg1 kclX5 ly2_0 10 (by decide) rfl q487 (rfl : 31 + 3 = 34) (xdt tt_X11_ofKind 17 rfl) ?_
    refine g_icmp_ge hC (show ((34 : Nat) : Int) + 47 = ((81 : Nat) : Int) by decide) (rfl : 34 + 3 = 37) (xdt tt_X11_ofKind 18 rfl) (fun hc7 => ?_) (fun hc7 => ?_)
    · replace h := (if_pos hc7).symm.trans h
      refine g_iload_n hC rfl 3 rfl (rfl : 81 + 1 = 82) (xdt tt_X11_ofKind 41 rfl) ?_
      cases h
      exact g_iret hC hE (xdt tt_X11_ofKind 42 rfl)
    · replace h := (if_neg hc7).symm.trans h
      refine g_aload_n hC rfl 0 rfl (rfl : 37 + 1 = 38) (xdt tt_X11_ofKind 19 rfl) ?_
      obtain ⟨rg2, hrg2, grg2, h⟩ := ckP_i h
      refine g_getV hC hk0 kclX11 ly3_0 4 (by decide) rfl hrg2 grg2 (by decide) q22 (rfl : 38 + 3 = 41) (xdt tt_X11_ofKind 20 rfl) (fun krg2 => ?_)
      refine g_getP hC krg2 kclX5 ly2_0 2 (by decide) (rfl : rg2 + 0 = rg2) rfl q869 (rfl : 41 + 3 = 44) (xdt tt_X11_ofKind 21 rfl) ?_
      refine g_iload hC 4 rfl (rfl : 44 + 2 = 46) (xdt tt_X11_ofKind 22 rfl) ?_
      obtain ⟨hi3, h⟩ := ckI_i h
      refine g_iald hC krg2 ly2_5 hi3 (rfl : 46 + 1 = 47) (xdt tt_X11_ofKind 23 rfl) (k0 := (wr x4).toNat) rfl ?_
      refine g_iload_n hC rfl 1 rfl (rfl : 47 + 1 = 48) (xdt tt_X11_ofKind 24 rfl) ?_
      refine g_icmp_ne hC (show ((48 : Nat) : Int) + 27 = ((75 : Nat) : Int) by decide) (rfl : 48 + 3 = 51) (xdt tt_X11_ofKind 25 rfl) (fun hc6 => ?_) (fun hc6 => ?_)
      · replace h := (if_pos hc6).symm.trans h
        refine g_iinc hC 4 rfl (by decide) (lv' := [(4, vi (x4 + 1)), (0, vr E r0 0), (1, vi x1), (2, vi x2), (3, vi x3)]) rfl (rfl : 75 + 3 = 78) (xdt tt_X11_ofKind 39 rfl) ?_
        refine g_goto hC (show ((78 : Nat) : Int) + (-53) = ((25 : Nat) : Int) by decide) (xdt tt_X11_ofKind 40 rfl) ?_
        refine g_sub [1, 2, 3, 4, 0] (lv' := [(0, vr E r0 0), (1, vi x1), (2, vi x2), (3, vi x3), (4, vi (x4 + 1))]) rfl ?_
        exact ih _ _ _ _ _ h
      · replace h := (if_neg hc6).symm.trans h
        refine g_iload_n hC rfl 3 rfl (rfl : 51 + 1 = 52) (xdt tt_X11_ofKind 26 rfl) ?_
        refine g_iload_n hC rfl 2 rfl (rfl : 52 + 1 = 53) (xdt tt_X11_ofKind 27 rfl) ?_
        refine g_if_eq hC (show ((53 : Nat) : Int) + 19 = ((72 : Nat) : Int) by decide) (rfl : 53 + 3 = 56) (xdt tt_X11_ofKind 28 rfl) (fun hc5 => ?_) (fun hc5 => ?_)
        · replace h := (if_pos hc5).symm.trans h
          refine g_iconst hC (rfl : 72 + 1 = 73) (xdt tt_X11_ofKind 36 rfl) ?_
          refine g_iadd hC (rfl : 73 + 1 = 74) (xdt tt_X11_ofKind 37 rfl) ?_
          refine g_istore_n hC rfl (by decide) (lv' := [(3, vi (x3 + 1)), (0, vr E r0 0), (1, vi x1), (2, vi x2), (4, vi x4)]) rfl (rfl : 74 + 1 = 75) (xdt tt_X11_ofKind 38 rfl) ?_
          refine g_iinc hC 4 rfl (by decide) (lv' := [(4, vi (x4 + 1)), (3, vi (x3 + 1)), (0, vr E r0 0), (1, vi x1), (2, vi x2)]) rfl (rfl : 75 + 3 = 78) (xdt tt_X11_ofKind 39 rfl) ?_
          refine g_goto hC (show ((78 : Nat) : Int) + (-53) = ((25 : Nat) : Int) by decide) (xdt tt_X11_ofKind 40 rfl) ?_
          refine g_sub [2, 3, 4, 1, 0] (lv' := [(0, vr E r0 0), (1, vi x1), (2, vi x2), (3, vi (x3 + 1)), (4, vi (x4 + 1))]) rfl ?_
          exact ih _ _ _ _ _ h
        · replace h := (if_neg hc5).symm.trans h
          refine g_aload_n hC rfl 0 rfl (rfl : 56 + 1 = 57) (xdt tt_X11_ofKind 29 rfl) ?_
          refine g_getP hC hk0 kclX11 ly3_0 6 (by decide) (rfl : r0 + 1 = (r0 + 1)) rfl q27 (rfl : 57 + 3 = 60) (xdt tt_X11_ofKind 30 rfl) ?_
          refine g_getP hC (hA0 1 (by decide) (by decide)) kclX0 ly1_0 7 (by decide) (rfl : (r0 + 1) + 0 = (r0 + 1)) rfl q683 (rfl : 60 + 3 = 63) (xdt tt_X11_ofKind 31 rfl) ?_
          refine g_getP hC (hA0 1 (by decide) (by decide)) kclX9 ly1_14 2 (by decide) (rfl : (r0 + 1) + 0 = (r0 + 1)) rfl q864 (rfl : 63 + 3 = 66) (xdt tt_X11_ofKind 32 rfl) ?_
          refine g_iload hC 4 rfl (rfl : 66 + 2 = 68) (xdt tt_X11_ofKind 33 rfl) ?_
          obtain ⟨hi4, h⟩ := ckI_i h
          refine g_iald hC (hA0 1 (by decide) (by decide)) ly1_17 hi4 (rfl : 68 + 1 = 69) (xdt tt_X11_ofKind 34 rfl) (k0 := (wr x4).toNat) rfl ?_
          refine g_goto hC (show ((69 : Nat) : Int) + 4 = ((73 : Nat) : Int) by decide) (xdt tt_X11_ofKind 35 rfl) ?_
          refine g_iadd hC (rfl : 73 + 1 = 74) (xdt tt_X11_ofKind 37 rfl) ?_
          refine g_istore_n hC rfl (by decide) (lv' := [(3, vi (x3 + (gI S (r0 + 1) 17 (wr x4).toNat))), (0, vr E r0 0), (1, vi x1), (2, vi x2), (4, vi x4)]) rfl (rfl : 74 + 1 = 75) (xdt tt_X11_ofKind 38 rfl) ?_
          refine g_iinc hC 4 rfl (by decide) (lv' := [(4, vi (x4 + 1)), (3, vi (x3 + (gI S (r0 + 1) 17 (wr x4).toNat))), (0, vr E r0 0), (1, vi x1), (2, vi x2)]) rfl (rfl : 75 + 3 = 78) (xdt tt_X11_ofKind 39 rfl) ?_
          refine g_goto hC (show ((78 : Nat) : Int) + (-53) = ((25 : Nat) : Int) by decide) (xdt tt_X11_ofKind 40 rfl) ?_
          refine g_sub [2, 3, 4, 1, 0] (lv' := [(0, vr E r0 0), (1, vi x1), (2, vi x2), (3, vi (x3 + (gI S (r0 + 1) 17 (wr x4).toNat))), (4, vi (x4 + 1))]) rfl ?_
          exact ih _ _ _ _ _ h
set_option maxRecDepth 100000 in
set_option maxHeartbeats 4000000 in
theorem c_X11_ofKind_p3_0 (l : Launch) {E : xE} {S S' : xSt} {r0 : Nat} {a1 : Int} {a2 : Int} (hk0 : xkd E r0 = 3) (hA0 : xFam E r0) {v : Int} (h : f_X11_ofKind_p3_0 S r0 a1 a2 = some (v, S')) : Met l yX11_ofKind (xws yX11_ofKind cX11_ofKind 5 (some .int)) (rmD 1) (YPc E [vr E r0 0, vi a1, vi a2] S) (YQi E v S') 0 0 (xA E) := by
  unfold f_X11_ofKind_p3_0 at h
  refine met_i (by decide +kernel) (Nat.le_of_ble_eq_true rfl) (fun K hC hZ hE => ?_)
  have hC : xOK K cX11_ofKind RX11 5 (rmE 1 0) := hC
  show WG K E 0 [(0, vr E r0 0), (1, vi a1), (2, vi a2)] [] S
  refine g_iload_n hC rfl 1 rfl (rfl : 0 + 1 = 1) (xdt tt_X11_ofKind 0 rfl) ?_
  refine g_if_lt hC (show ((1 : Nat) : Int) + 9 = ((10 : Nat) : Int) by decide) (rfl : 1 + 3 = 4) (xdt tt_X11_ofKind 1 rfl) (fun hc9 => ?_) (fun hc9 => ?_)
  · replace h := (if_pos hc9).symm.trans h
    cases h
  · replace h := (if_neg hc9).symm.trans h
    refine g_iload_n hC rfl 1 rfl (rfl : 4 + 1 = 5) (xdt tt_X11_ofKind 2 rfl) ?_
    refine g_bipush hC (by decide) (rfl : 5 + 2 = 7) (xdt tt_X11_ofKind 3 rfl) ?_
    refine g_icmp_lt hC (show ((7 : Nat) : Int) + 13 = ((20 : Nat) : Int) by decide) (rfl : 7 + 3 = 10) (xdt tt_X11_ofKind 4 rfl) (fun hc8 => ?_) (fun hc8 => ?_)
    · replace h := (if_pos hc8).symm.trans h
      refine g_iconst hC (rfl : 20 + 1 = 21) (xdt tt_X11_ofKind 10 rfl) ?_
      refine g_istore_n hC rfl (by decide) (lv' := [(3, vi 0), (0, vr E r0 0), (1, vi a1), (2, vi a2)]) rfl (rfl : 21 + 1 = 22) (xdt tt_X11_ofKind 11 rfl) ?_
      refine g_iconst hC (rfl : 22 + 1 = 23) (xdt tt_X11_ofKind 12 rfl) ?_
      refine g_istore hC (by decide) (lv' := [(4, vi 0), (3, vi 0), (0, vr E r0 0), (1, vi a1), (2, vi a2)]) rfl (rfl : 23 + 2 = 25) (xdt tt_X11_ofKind 13 rfl) ?_
      refine g_sub [2, 3, 4, 1, 0] (lv' := [(0, vr E r0 0), (1, vi a1), (2, vi a2), (3, vi 0), (4, vi 0)]) rfl ?_
      exact k_X11_ofKind_p3_0_b25 hC hZ hE hk0 hA0 _ _ _ _ _ _ h
    · replace h := (if_neg hc8).symm.trans h
      cases h
def f_X11_bubbles_p3_0 (S : xSt) (r0 : Nat) (a1 : Int) : Option (Int × xSt) :=
  if wr a1 < wr 1 then
    (none)
  else
    (if wr a1 ≤ wr 8 then
      (ckI a1 9 <|
      some ((gI S (r0 + 1) 16 (wr a1).toNat), S))
    else
      (none))
set_option maxRecDepth 100000 in
set_option maxHeartbeats 4000000 in
theorem c_X11_bubbles_p3_0 (l : Launch) {E : xE} {S S' : xSt} {r0 : Nat} {a1 : Int} (hk0 : xkd E r0 = 3) (hA0 : xFam E r0) {v : Int} (h : f_X11_bubbles_p3_0 S r0 a1 = some (v, S')) : Met l yX11_bubbles (xws yX11_bubbles cX11_bubbles 2 (some .int)) (rmD 1) (YPc E [vr E r0 0, vi a1] S) (YQi E v S') 0 0 (xA E) := by
  unfold f_X11_bubbles_p3_0 at h
  refine met_i (by decide +kernel) (Nat.le_of_ble_eq_true rfl) (fun K hC hZ hE => ?_)
  have hC : xOK K cX11_bubbles RX11 2 (rmE 1 0) := hC
  show WG K E 0 [(0, vr E r0 0), (1, vi a1)] [] S
  refine g_iload_n hC rfl 1 rfl (rfl : 0 + 1 = 1) (xdt tt_X11_bubbles 0 rfl) ?_
  refine g_iconst hC (rfl : 1 + 1 = 2) (xdt tt_X11_bubbles 1 rfl) ?_
  refine g_icmp_lt hC (show ((2 : Nat) : Int) + 9 = ((11 : Nat) : Int) by decide) (rfl : 2 + 3 = 5) (xdt tt_X11_bubbles 2 rfl) (fun hc3 => ?_) (fun hc3 => ?_)
  · replace h := (if_pos hc3).symm.trans h
    cases h
  · replace h := (if_neg hc3).symm.trans h
    refine g_iload_n hC rfl 1 rfl (rfl : 5 + 1 = 6) (xdt tt_X11_bubbles 3 rfl) ?_
    refine g_bipush hC (by decide) (rfl : 6 + 2 = 8) (xdt tt_X11_bubbles 4 rfl) ?_
    refine g_icmp_le hC (show ((8 : Nat) : Int) + 13 = ((21 : Nat) : Int) by decide) (rfl : 8 + 3 = 11) (xdt tt_X11_bubbles 5 rfl) (fun hc2 => ?_) (fun hc2 => ?_)
    · replace h := (if_pos hc2).symm.trans h
      refine g_aload_n hC rfl 0 rfl (rfl : 21 + 1 = 22) (xdt tt_X11_bubbles 11 rfl) ?_
      refine g_getP hC hk0 kclX11 ly3_0 6 (by decide) (rfl : r0 + 1 = (r0 + 1)) rfl q27 (rfl : 22 + 3 = 25) (xdt tt_X11_bubbles 12 rfl) ?_
      refine g_getP hC (hA0 1 (by decide) (by decide)) kclX0 ly1_0 7 (by decide) (rfl : (r0 + 1) + 0 = (r0 + 1)) rfl q683 (rfl : 25 + 3 = 28) (xdt tt_X11_bubbles 13 rfl) ?_
      refine g_getP hC (hA0 1 (by decide) (by decide)) kclX9 ly1_14 1 (by decide) (rfl : (r0 + 1) + 0 = (r0 + 1)) rfl q920 (rfl : 28 + 3 = 31) (xdt tt_X11_bubbles 14 rfl) ?_
      refine g_iload_n hC rfl 1 rfl (rfl : 31 + 1 = 32) (xdt tt_X11_bubbles 15 rfl) ?_
      obtain ⟨hi1, h⟩ := ckI_i h
      refine g_iald hC (hA0 1 (by decide) (by decide)) ly1_16 hi1 (rfl : 32 + 1 = 33) (xdt tt_X11_bubbles 16 rfl) (k0 := (wr a1).toNat) rfl ?_
      cases h
      exact g_iret hC hE (xdt tt_X11_bubbles 17 rfl)
    · replace h := (if_neg hc2).symm.trans h
      cases h
def f_X11_decoded_p3_0 (S : xSt) (r0 : Nat) (a1 : Int) : Option (Int × xSt) :=
  if wr a1 < 0 then
    (none)
  else
    (if wr (gI S (r0 + 1) 15 1) ≤ wr a1 then
      (none)
    else
      (if wr a1 < wr 100 then
        (ckI (Int.tmod (wr (((gI S (r0 + 1) 15 1) - 1) - a1)) (wr 100)) 100 <|
        some ((gI S (r0 + 1) 18 (wr (Int.tmod (wr (((gI S (r0 + 1) 15 1) - 1) - a1)) (wr 100))).toNat), S))
      else
        (none)))
set_option maxRecDepth 100000 in
set_option maxHeartbeats 4000000 in
theorem c_X11_decoded_p3_0 (l : Launch) {E : xE} {S S' : xSt} {r0 : Nat} {a1 : Int} (hk0 : xkd E r0 = 3) (hA0 : xFam E r0) {v : Int} (h : f_X11_decoded_p3_0 S r0 a1 = some (v, S')) : Met l yX11_decoded (xws yX11_decoded cX11_decoded 3 (some .int)) (rmD 1) (YPc E [vr E r0 0, vi a1] S) (YQi E v S') 0 0 (xA E) := by
  unfold f_X11_decoded_p3_0 at h
  refine met_i (by decide +kernel) (Nat.le_of_ble_eq_true rfl) (fun K hC hZ hE => ?_)
  have hC : xOK K cX11_decoded RX11 3 (rmE 1 0) := hC
  show WG K E 0 [(0, vr E r0 0), (1, vi a1)] [] S
  refine g_aload_n hC rfl 0 rfl (rfl : 0 + 1 = 1) (xdt tt_X11_decoded 0 rfl) ?_
  refine g_getP hC hk0 kclX11 ly3_0 6 (by decide) (rfl : r0 + 1 = (r0 + 1)) rfl q27 (rfl : 1 + 3 = 4) (xdt tt_X11_decoded 1 rfl) ?_
  refine g_getP hC (hA0 1 (by decide) (by decide)) kclX0 ly1_0 7 (by decide) (rfl : (r0 + 1) + 0 = (r0 + 1)) rfl q683 (rfl : 4 + 3 = 7) (xdt tt_X11_decoded 2 rfl) ?_
  refine g_getP hC (hA0 1 (by decide) (by decide)) kclX9 ly1_14 0 (by decide) (rfl : (r0 + 1) + 0 = (r0 + 1)) rfl q684 (rfl : 7 + 3 = 10) (xdt tt_X11_decoded 3 rfl) ?_
  refine g_iconst hC (rfl : 10 + 1 = 11) (xdt tt_X11_decoded 4 rfl) ?_
  refine g_iald hC (hA0 1 (by decide) (by decide)) ly1_15 (by decide) (rfl : 11 + 1 = 12) (xdt tt_X11_decoded 5 rfl) (k0 := 1) (by decide) ?_
  refine g_istore_n hC rfl (by decide) (lv' := [(2, vi (gI S (r0 + 1) 15 1)), (0, vr E r0 0), (1, vi a1)]) rfl (rfl : 12 + 1 = 13) (xdt tt_X11_decoded 6 rfl) ?_
  refine g_iload_n hC rfl 2 rfl (rfl : 13 + 1 = 14) (xdt tt_X11_decoded 7 rfl) ?_
  refine g_if_lt hC (show ((14 : Nat) : Int) + 14 = ((28 : Nat) : Int) by decide) (rfl : 14 + 3 = 17) (xdt tt_X11_decoded 8 rfl) (fun hc4 => ?_) (fun hc4 => ?_)
  · replace h := (if_pos hc4).symm.trans h
    cases h
  · replace h := (if_neg hc4).symm.trans h
    refine g_iload_n hC rfl 2 rfl (rfl : 17 + 1 = 18) (xdt tt_X11_decoded 9 rfl) ?_
    refine g_iload_n hC rfl 0 rfl (rfl : 18 + 1 = 19) (xdt tt_X11_decoded 10 rfl) ?_
    refine g_icmp_ge hC (show ((19 : Nat) : Int) + 9 = ((28 : Nat) : Int) by decide) (rfl : 19 + 3 = 22) (xdt tt_X11_decoded 11 rfl) (fun hc3 => ?_) (fun hc3 => ?_)
    · replace h := (if_pos hc3).symm.trans h
      cases h
    · replace h := (if_neg hc3).symm.trans h
      refine g_iload_n hC rfl 2 rfl (rfl : 22 + 1 = 23) (xdt tt_X11_decoded 12 rfl) ?_
      refine g_bipush hC (by decide) (rfl : 23 + 2 = 25) (xdt tt_X11_decoded 13 rfl) ?_
      refine g_icmp_lt hC (show ((25 : Nat) : Int) + 14 = ((39 : Nat) : Int) by decide) (rfl : 25 + 3 = 28) (xdt tt_X11_decoded 14 rfl) (fun hc2 => ?_) (fun hc2 => ?_)
      · replace h := (if_pos hc2).symm.trans h
        refine g_aload_n hC rfl 1 rfl (rfl : 39 + 1 = 40) (xdt tt_X11_decoded 20 rfl) ?_
        refine g_getP hC hk0 kclX11 ly3_0 6 (by decide) (rfl : r0 + 1 = (r0 + 1)) rfl q27 (rfl : 40 + 3 = 43) (xdt tt_X11_decoded 21 rfl) ?_
        refine g_getP hC (hA0 1 (by decide) (by decide)) kclX0 ly1_0 7 (by decide) (rfl : (r0 + 1) + 0 = (r0 + 1)) rfl q683 (rfl : 43 + 3 = 46) (xdt tt_X11_decoded 22 rfl) ?_
        refine g_getP hC (hA0 1 (by decide) (by decide)) kclX9 ly1_14 3 (by decide) (rfl : (r0 + 1) + 0 = (r0 + 1)) rfl q906 (rfl : 46 + 3 = 49) (xdt tt_X11_decoded 23 rfl) ?_
        refine g_iload_n hC rfl 0 rfl (rfl : 49 + 1 = 50) (xdt tt_X11_decoded 24 rfl) ?_
        refine g_iconst hC (rfl : 50 + 1 = 51) (xdt tt_X11_decoded 25 rfl) ?_
        refine g_isub hC (rfl : 51 + 1 = 52) (xdt tt_X11_decoded 26 rfl) ?_
        refine g_iload_n hC rfl 2 rfl (rfl : 52 + 1 = 53) (xdt tt_X11_decoded 27 rfl) ?_
        refine g_isub hC (rfl : 53 + 1 = 54) (xdt tt_X11_decoded 28 rfl) ?_
        refine g_bipush hC (by decide) (rfl : 54 + 2 = 56) (xdt tt_X11_decoded 29 rfl) ?_
        refine g_irem hC (by decide) (rfl : 56 + 1 = 57) (xdt tt_X11_decoded 30 rfl) ?_
        obtain ⟨hi1, h⟩ := ckI_i h
        refine g_iald hC (hA0 1 (by decide) (by decide)) ly1_18 hi1 (rfl : 57 + 1 = 58) (xdt tt_X11_decoded 31 rfl) (k0 := (wr (Int.tmod (wr (((gI S (r0 + 1) 15 1) - 1) - a1)) (wr 100))).toNat) rfl ?_
        cases h
        exact g_iret hC hE (xdt tt_X11_decoded 32 rfl)
      · replace h := (if_neg hc2).symm.trans h
        cases h
def f_J7_fill_53178_p3_12_b5 (r0 : Nat) : Nat → xSt → Int → Int → Int → Option (xSt)
  | 0, _, _, _, _ => none
  | fuel + 1, S, x1, x2, x3 =>
    if wr x3 ≤ wr x2 then
      (some S)
    else
      (ckI x2 60 <|
      lt1 (wI S r0 12 (wr x2).toNat x1) fun S2 =>
      (f_J7_fill_53178_p3_12_b5 r0 fuel) S2 x1 (x2 + 1) x3)
def f_J7_fill_53178_p3_12 (S : xSt) (r0 : Nat) (a1 : Int) : Option (xSt) :=
  f_J7_fill_53178_p3_12_b5 r0 (fu S) S a1 0 60
set_option maxRecDepth 100000 in
set_option maxHeartbeats 4000000 in
theorem k_J7_fill_53178_p3_12_b5 {K : xCtx} {E : xE} {b : Nat} (hC : xOK K cJ7_fill_53178 RJ7 4 (rmE 1 b)) (hZ : xZ K) {S' : xSt} (hE : xEnd K E none (YQv E S')) {r0 : Nat} (hk0 : xkd E r0 = 3) (hA0 : xFam E r0) : ∀ (fuel : Nat) (S : xSt) (x1 : Int) (x2 : Int) (x3 : Int), f_J7_fill_53178_p3_12_b5 r0 fuel S x1 x2 x3 = some S' → WG K E 5 [(0, vr E r0 12), (1, vi x1), (2, vi x2), (3, vi x3)] [] S := by
  intro fuel
  induction fuel with
  | zero => intro S x1 x2 x3 h; cases h
  | succ fuel ih =>
    intro S x1 x2 x3 h
    rw [f_J7_fill_53178_p3_12_b5] at h
    refine g_iload_n hC rfl 2 rfl (rfl : 5 + 1 = 6) (xdt tt_J7_fill_53178 5 rfl) ?_
    refine g_iload_n hC rfl 3 rfl (rfl : 6 + 1 = 7) (xdt tt_J7_fill_53178 6 rfl) ?_
    refine g_icmp_ge hC (show ((7 : Nat) : Int) + 13 = ((20 : Nat) : Int) by decide) (rfl : 7 + 3 = 10) (xdt tt_J7_fill_53178 7 rfl) (fun hc3 => ?_) (fun hc3 => ?_)
    · replace h := (if_pos hc3).symm.trans h
      cases h
      exact g_vret hC hE (xdt tt_J7_fill_53178 14 rfl)
    · replace h := (if_neg hc3).symm.trans h
      refine g_aload_n hC rfl 0 rfl (rfl : 10 + 1 = 11) (xdt tt_J7_fill_53178 8 rfl) ?_
      refine g_iload_n hC rfl 2 rfl (rfl : 11 + 1 = 12) (xdt tt_J7_fill_53178 9 rfl) ?_
      refine g_iload_n hC rfl 1 rfl (rfl : 12 + 1 = 13) (xdt tt_J7_fill_53178 10 rfl) ?_
      obtain ⟨hi1, h⟩ := ckI_i h
      obtain ⟨S2, hS2, h⟩ := lt1_i h
      refine g_iast hC hk0 ly3_12 hi1 rfl hS2 (rfl : 13 + 1 = 14) (xdt tt_J7_fill_53178 11 rfl) ?_
      refine g_iinc hC 2 rfl (by decide) (lv' := [(2, vi (x2 + 1)), (0, vr E r0 12), (1, vi x1), (3, vi x3)]) rfl (rfl : 14 + 3 = 17) (xdt tt_J7_fill_53178 12 rfl) ?_
      refine g_goto hC (show ((17 : Nat) : Int) + (-12) = ((5 : Nat) : Int) by decide) (xdt tt_J7_fill_53178 13 rfl) ?_
      refine g_sub [1, 2, 0, 3] (lv' := [(0, vr E r0 12), (1, vi x1), (2, vi (x2 + 1)), (3, vi x3)]) rfl ?_
      exact ih _ _ _ _ h
set_option maxRecDepth 100000 in
set_option maxHeartbeats 4000000 in
theorem c_J7_fill_53178_p3_12 (l : Launch) {E : xE} {S S' : xSt} {r0 : Nat} {a1 : Int} (hk0 : xkd E r0 = 3) (hA0 : xFam E r0) (h : f_J7_fill_53178_p3_12 S r0 a1 = some S') : Met l yJ7_fill_53178 (xws yJ7_fill_53178 cJ7_fill_53178 4 none) (rmD 1) (YPc E [vr E r0 12, vi a1] S) (YQv E S') 0 0 (xA E) := by
  unfold f_J7_fill_53178_p3_12 at h
  refine met_v (by decide +kernel) (Nat.le_of_ble_eq_true rfl) (fun K hC hZ hE => ?_)
  have hC : xOK K cJ7_fill_53178 RJ7 4 (rmE 1 0) := hC
  show WG K E 0 [(0, vr E r0 12), (1, vi a1)] [] S
  refine g_iconst hC (rfl : 0 + 1 = 1) (xdt tt_J7_fill_53178 0 rfl) ?_
  refine g_istore_n hC rfl (by decide) (lv' := [(2, vi 0), (0, vr E r0 12), (1, vi a1)]) rfl (rfl : 1 + 1 = 2) (xdt tt_J7_fill_53178 1 rfl) ?_
  refine g_aload_n hC rfl 1 rfl (rfl : 2 + 1 = 3) (xdt tt_J7_fill_53178 2 rfl) ?_
  refine g_alen hC hk0 ly3_12 (z := 60) (by decide) (rfl : 3 + 1 = 4) (xdt tt_J7_fill_53178 3 rfl) ?_
  refine g_istore_n hC rfl (by decide) (lv' := [(3, vi 60), (2, vi 0), (0, vr E r0 12), (1, vi a1)]) rfl (rfl : 4 + 1 = 5) (xdt tt_J7_fill_53178 4 rfl) ?_
  refine g_sub [2, 3, 1, 0] (lv' := [(0, vr E r0 12), (1, vi a1), (2, vi 0), (3, vi 60)]) rfl ?_
  exact k_J7_fill_53178_p3_12_b5 hC hZ hE hk0 hA0 _ _ _ _ _ h
def f_X4_begin_p3_10 (S : xSt) (r0 : Nat) : Option (xSt) :=
  bd (f_J7_fill_53178_p3_12 S r0 0) fun S2 =>
  lt1 (wI S2 r0 10 1 0) fun S3 =>
  some S3
set_option maxRecDepth 100000 in
set_option maxHeartbeats 4000000 in
theorem c_X4_begin_p3_10 (l : Launch) {E : xE} {S S' : xSt} {r0 : Nat} (hk0 : xkd E r0 = 3) (hA0 : xFam E r0) (h : f_X4_begin_p3_10 S r0 = some S') : Met l yX4_begin (xws yX4_begin cX4_begin 1 none) (rmD 2) (YPc E [vr E r0 10] S) (YQv E S') 0 0 (xA E) := by
  unfold f_X4_begin_p3_10 at h
  refine met_v (by decide +kernel) (Nat.le_of_ble_eq_true rfl) (fun K hC hZ hE => ?_)
  have hC : xOK K cX4_begin RX4 1 (rmE 2 0) := hC
  show WG K E 0 [(0, vr E r0 10)] [] S
  refine g_aload_n hC rfl 0 rfl (rfl : 0 + 1 = 1) (xdt tt_X4_begin 0 rfl) ?_
  refine g_getP hC hk0 kclX4 ly3_10 0 (by decide) (rfl : r0 + 0 = r0) rfl q130 (rfl : 1 + 3 = 4) (xdt tt_X4_begin 1 rfl) ?_
  refine g_getP hC hk0 kclX10 ly3_11 0 (by decide) (rfl : r0 + 0 = r0) rfl q172 (rfl : 4 + 3 = 7) (xdt tt_X4_begin 2 rfl) ?_
  refine g_iconst hC (rfl : 7 + 1 = 8) (xdt tt_X4_begin 3 rfl) ?_
  obtain ⟨S2, hc1, h⟩ := bd_i h
  refine g_callSv hC hZ m_J7_fill_53178 q174 (Nat.le_of_ble_eq_true rfl) [vr E r0 12, vi 0] rfl (fun l => c_J7_fill_53178_p3_12 l hk0 hA0 hc1) rfl (Nat.le_of_ble_eq_true rfl) (rfl : 8 + 3 = 11) (xdt tt_X4_begin 4 rfl) ?_
  refine g_aload_n hC rfl 0 rfl (rfl : 11 + 1 = 12) (xdt tt_X4_begin 5 rfl) ?_
  refine g_iconst hC (rfl : 12 + 1 = 13) (xdt tt_X4_begin 6 rfl) ?_
  obtain ⟨S3, hS3, h⟩ := lt1_i h
  refine g_putI hC hk0 kclX4 ly3_10 1 (by decide) rfl rfl rfl q173 hS3 (rfl : 13 + 3 = 16) (xdt tt_X4_begin 7 rfl) ?_
  cases h
  exact g_vret hC hE (xdt tt_X4_begin 8 rfl)
def f_X10_goesToTarget_p3_11_2_0 (S : xSt) (r0 : Nat) (r1 : Nat) (a2 : Int) : Option (Int × xSt) :=
  if wr a2 < 0 then
    (some (0, S))
  else
    (if wr (gI S r1 0 10) ≤ wr a2 then
      (some (0, S))
    else
      (ckI a2 60 <|
      if wr 8 ≤ wr (gI S r1 5 (wr a2).toNat) then
        (ckI a2 60 <|
        if ¬ wr (gI S r1 5 (wr a2).toNat) = wr 8 then
          (ckI a2 60 <|
          ckI a2 60 <|
          if wr (gI S r1 8 (wr a2).toNat) ≤ wr (gI S r0 12 (wr a2).toNat) then
            (ckI a2 60 <|
            lt1 (wI S r0 12 (wr a2).toNat 0) fun S6 =>
            some (0, S6))
          else
            (ckI a2 60 <|
            ckI a2 60 <|
            lt1 (wI S r0 12 (wr a2).toNat ((gI S r0 12 (wr a2).toNat) + 1)) fun S9 =>
            some (1, S9)))
        else
          (some (1, S)))
      else
        (some (0, S))))
set_option maxRecDepth 100000 in
set_option maxHeartbeats 4000000 in
theorem c_X10_goesToTarget_p3_11_2_0 (l : Launch) {E : xE} {S S' : xSt} {r0 : Nat} {r1 : Nat} {a2 : Int} (hk0 : xkd E r0 = 3) (hA0 : xFam E r0) (hk1 : xkd E r1 = 2) {v : Int} (h : f_X10_goesToTarget_p3_11_2_0 S r0 r1 a2 = some (v, S')) : Met l yX10_goesToTarget (xws yX10_goesToTarget cX10_goesToTarget 3 (some .boolean)) (rmD 1) (YPc E [vr E r0 11, vr E r1 0, vi a2] S) (YQz E v S') 0 0 (xA E) := by
  unfold f_X10_goesToTarget_p3_11_2_0 at h
  refine met_z (by decide +kernel) (Nat.le_of_ble_eq_true rfl) (fun K hC hZ hE => ?_)
  have hC : xOK K cX10_goesToTarget RX10 3 (rmE 1 0) := hC
  show WG K E 0 [(0, vr E r0 11), (1, vr E r1 0), (2, vi a2)] [] S
  refine g_iload_n hC rfl 2 rfl (rfl : 0 + 1 = 1) (xdt tt_X10_goesToTarget 0 rfl) ?_
  refine g_if_lt hC (show ((1 : Nat) : Int) + 22 = ((23 : Nat) : Int) by decide) (rfl : 1 + 3 = 4) (xdt tt_X10_goesToTarget 1 rfl) (fun hc14 => ?_) (fun hc14 => ?_)
  · replace h := (if_pos hc14).symm.trans h
    refine g_iconst hC (rfl : 23 + 1 = 24) (xdt tt_X10_goesToTarget 12 rfl) ?_
    cases h
    exact g_zret hC hE (Or.inl rfl) (xdt tt_X10_goesToTarget 13 rfl)
  · replace h := (if_neg hc14).symm.trans h
    refine g_iload_n hC rfl 2 rfl (rfl : 4 + 1 = 5) (xdt tt_X10_goesToTarget 2 rfl) ?_
    refine g_aload_n hC rfl 1 rfl (rfl : 5 + 1 = 6) (xdt tt_X10_goesToTarget 3 rfl) ?_
    refine g_getI hC hk1 kclX5 ly2_0 10 (by decide) rfl q756 (rfl : 6 + 3 = 9) (xdt tt_X10_goesToTarget 4 rfl) ?_
    refine g_icmp_ge hC (show ((9 : Nat) : Int) + 14 = ((23 : Nat) : Int) by decide) (rfl : 9 + 3 = 12) (xdt tt_X10_goesToTarget 5 rfl) (fun hc13 => ?_) (fun hc13 => ?_)
    · replace h := (if_pos hc13).symm.trans h
      refine g_iconst hC (rfl : 23 + 1 = 24) (xdt tt_X10_goesToTarget 12 rfl) ?_
      cases h
      exact g_zret hC hE (Or.inl rfl) (xdt tt_X10_goesToTarget 13 rfl)
    · replace h := (if_neg hc13).symm.trans h
      refine g_aload_n hC rfl 1 rfl (rfl : 12 + 1 = 13) (xdt tt_X10_goesToTarget 6 rfl) ?_
      refine g_getP hC hk1 kclX5 ly2_0 2 (by decide) (rfl : r1 + 0 = r1) rfl q757 (rfl : 13 + 3 = 16) (xdt tt_X10_goesToTarget 7 rfl) ?_
      refine g_iload_n hC rfl 2 rfl (rfl : 16 + 1 = 17) (xdt tt_X10_goesToTarget 8 rfl) ?_
      obtain ⟨hi1, h⟩ := ckI_i h
      refine g_iald hC hk1 ly2_5 hi1 (rfl : 17 + 1 = 18) (xdt tt_X10_goesToTarget 9 rfl) (k0 := (wr a2).toNat) rfl ?_
      refine g_bipush hC (by decide) (rfl : 18 + 2 = 20) (xdt tt_X10_goesToTarget 10 rfl) ?_
      refine g_icmp_ge hC (show ((20 : Nat) : Int) + 5 = ((25 : Nat) : Int) by decide) (rfl : 20 + 3 = 23) (xdt tt_X10_goesToTarget 11 rfl) (fun hc12 => ?_) (fun hc12 => ?_)
      · replace h := (if_pos hc12).symm.trans h
        refine g_aload_n hC rfl 1 rfl (rfl : 25 + 1 = 26) (xdt tt_X10_goesToTarget 14 rfl) ?_
        refine g_getP hC hk1 kclX5 ly2_0 2 (by decide) (rfl : r1 + 0 = r1) rfl q757 (rfl : 26 + 3 = 29) (xdt tt_X10_goesToTarget 15 rfl) ?_
        refine g_iload_n hC rfl 2 rfl (rfl : 29 + 1 = 30) (xdt tt_X10_goesToTarget 16 rfl) ?_
        obtain ⟨hi2, h⟩ := ckI_i h
        refine g_iald hC hk1 ly2_5 hi2 (rfl : 30 + 1 = 31) (xdt tt_X10_goesToTarget 17 rfl) (k0 := (wr a2).toNat) rfl ?_
        refine g_bipush hC (by decide) (rfl : 31 + 2 = 33) (xdt tt_X10_goesToTarget 18 rfl) ?_
        refine g_icmp_ne hC (show ((33 : Nat) : Int) + 5 = ((38 : Nat) : Int) by decide) (rfl : 33 + 3 = 36) (xdt tt_X10_goesToTarget 19 rfl) (fun hc11 => ?_) (fun hc11 => ?_)
        · replace h := (if_pos hc11).symm.trans h
          refine g_aload_n hC rfl 0 rfl (rfl : 38 + 1 = 39) (xdt tt_X10_goesToTarget 22 rfl) ?_
          refine g_getP hC hk0 kclX10 ly3_11 0 (by decide) (rfl : r0 + 0 = r0) rfl q125 (rfl : 39 + 3 = 42) (xdt tt_X10_goesToTarget 23 rfl) ?_
          refine g_iload_n hC rfl 2 rfl (rfl : 42 + 1 = 43) (xdt tt_X10_goesToTarget 24 rfl) ?_
          obtain ⟨hi3, h⟩ := ckI_i h
          refine g_iald hC hk0 ly3_12 hi3 (rfl : 43 + 1 = 44) (xdt tt_X10_goesToTarget 25 rfl) (k0 := (wr a2).toNat) rfl ?_
          refine g_aload_n hC rfl 1 rfl (rfl : 44 + 1 = 45) (xdt tt_X10_goesToTarget 26 rfl) ?_
          refine g_getP hC hk1 kclX5 ly2_0 5 (by decide) (rfl : r1 + 0 = r1) rfl q758 (rfl : 45 + 3 = 48) (xdt tt_X10_goesToTarget 27 rfl) ?_
          refine g_iload_n hC rfl 2 rfl (rfl : 48 + 1 = 49) (xdt tt_X10_goesToTarget 28 rfl) ?_
          obtain ⟨hi4, h⟩ := ckI_i h
          refine g_iald hC hk1 ly2_8 hi4 (rfl : 49 + 1 = 50) (xdt tt_X10_goesToTarget 29 rfl) (k0 := (wr a2).toNat) rfl ?_
          refine g_icmp_ge hC (show ((50 : Nat) : Int) + 15 = ((65 : Nat) : Int) by decide) (rfl : 50 + 3 = 53) (xdt tt_X10_goesToTarget 30 rfl) (fun hc10 => ?_) (fun hc10 => ?_)
          · replace h := (if_pos hc10).symm.trans h
            refine g_aload_n hC rfl 0 rfl (rfl : 65 + 1 = 66) (xdt tt_X10_goesToTarget 41 rfl) ?_
            refine g_getP hC hk0 kclX10 ly3_11 0 (by decide) (rfl : r0 + 0 = r0) rfl q125 (rfl : 66 + 3 = 69) (xdt tt_X10_goesToTarget 42 rfl) ?_
            refine g_iload_n hC rfl 2 rfl (rfl : 69 + 1 = 70) (xdt tt_X10_goesToTarget 43 rfl) ?_
            refine g_iconst hC (rfl : 70 + 1 = 71) (xdt tt_X10_goesToTarget 44 rfl) ?_
            obtain ⟨hi5, h⟩ := ckI_i h
            obtain ⟨S6, hS6, h⟩ := lt1_i h
            refine g_iast hC hk0 ly3_12 hi5 rfl hS6 (rfl : 71 + 1 = 72) (xdt tt_X10_goesToTarget 45 rfl) ?_
            refine g_iconst hC (rfl : 72 + 1 = 73) (xdt tt_X10_goesToTarget 46 rfl) ?_
            cases h
            exact g_zret hC hE (Or.inl rfl) (xdt tt_X10_goesToTarget 47 rfl)
          · replace h := (if_neg hc10).symm.trans h
            refine g_aload_n hC rfl 0 rfl (rfl : 53 + 1 = 54) (xdt tt_X10_goesToTarget 31 rfl) ?_
            refine g_getP hC hk0 kclX10 ly3_11 0 (by decide) (rfl : r0 + 0 = r0) rfl q125 (rfl : 54 + 3 = 57) (xdt tt_X10_goesToTarget 32 rfl) ?_
            refine g_iload_n hC rfl 2 rfl (rfl : 57 + 1 = 58) (xdt tt_X10_goesToTarget 33 rfl) ?_
            refine g_dup2 hC rfl rfl (rfl : 58 + 1 = 59) (xdt tt_X10_goesToTarget 34 rfl) ?_
            obtain ⟨hi7, h⟩ := ckI_i h
            refine g_iald hC hk0 ly3_12 hi7 (rfl : 59 + 1 = 60) (xdt tt_X10_goesToTarget 35 rfl) (k0 := (wr a2).toNat) rfl ?_
            refine g_iconst hC (rfl : 60 + 1 = 61) (xdt tt_X10_goesToTarget 36 rfl) ?_
            refine g_iadd hC (rfl : 61 + 1 = 62) (xdt tt_X10_goesToTarget 37 rfl) ?_
            obtain ⟨hi8, h⟩ := ckI_i h
            obtain ⟨S9, hS9, h⟩ := lt1_i h
            refine g_iast hC hk0 ly3_12 hi8 rfl hS9 (rfl : 62 + 1 = 63) (xdt tt_X10_goesToTarget 38 rfl) ?_
            refine g_iconst hC (rfl : 63 + 1 = 64) (xdt tt_X10_goesToTarget 39 rfl) ?_
            cases h
            exact g_zret hC hE (Or.inr rfl) (xdt tt_X10_goesToTarget 40 rfl)
        · replace h := (if_neg hc11).symm.trans h
          refine g_iconst hC (rfl : 36 + 1 = 37) (xdt tt_X10_goesToTarget 20 rfl) ?_
          cases h
          exact g_zret hC hE (Or.inr rfl) (xdt tt_X10_goesToTarget 21 rfl)
      · replace h := (if_neg hc12).symm.trans h
        refine g_iconst hC (rfl : 23 + 1 = 24) (xdt tt_X10_goesToTarget 12 rfl) ?_
        cases h
        exact g_zret hC hE (Or.inl rfl) (xdt tt_X10_goesToTarget 13 rfl)
def f_X4_next_p3_10_2_0 (S : xSt) (r0 : Nat) (r1 : Nat) : Option (Int × xSt) :=
  if wr (gI S r0 10 1) < 0 then
    (some ((-1), S))
  else
    (if wr (gI S r0 10 1) < wr (gI S r1 0 10) then
      (bd2 (f_X10_goesToTarget_p3_11_2_0 S r0 r1 (gI S r0 10 1)) fun v3 S2 =>
      if wr v3 = 0 then
        (lt1 (wI S2 r0 10 1 ((gI S r0 10 1) + 1)) fun S5 =>
        some ((gI S r0 10 1), S5))
      else
        (ckI (gI S r0 10 1) 60 <|
        lt1 (wI S2 r0 10 1 (gI S2 r1 11 (wr (gI S r0 10 1)).toNat)) fun S7 =>
        some ((gI S r0 10 1), S7)))
    else
      (some ((-1), S)))
set_option maxRecDepth 100000 in
set_option maxHeartbeats 4000000 in
theorem c_X4_next_p3_10_2_0 (l : Launch) {E : xE} {S S' : xSt} {r0 : Nat} {r1 : Nat} (hk0 : xkd E r0 = 3) (hA0 : xFam E r0) (hk1 : xkd E r1 = 2) {v : Int} (h : f_X4_next_p3_10_2_0 S r0 r1 = some (v, S')) : Met l yX4_next (xws yX4_next cX4_next 3 (some .int)) (rmD 2) (YPc E [vr E r0 10, vr E r1 0] S) (YQi E v S') 0 0 (xA E) := by
  unfold f_X4_next_p3_10_2_0 at h
  refine met_i (by decide +kernel) (Nat.le_of_ble_eq_true rfl) (fun K hC hZ hE => ?_)
  have hC : xOK K cX4_next RX4 3 (rmE 2 0) := hC
  show WG K E 0 [(0, vr E r0 10), (1, vr E r1 0)] [] S
  refine g_aload_n hC rfl 0 rfl (rfl : 0 + 1 = 1) (xdt tt_X4_next 0 rfl) ?_
  refine g_getI hC hk0 kclX4 ly3_10 1 (by decide) rfl q173 (rfl : 1 + 3 = 4) (xdt tt_X4_next 1 rfl) ?_
  refine g_istore_n hC rfl (by decide) (lv' := [(2, vi (gI S r0 10 1)), (0, vr E r0 10), (1, vr E r1 0)]) rfl (rfl : 4 + 1 = 5) (xdt tt_X4_next 2 rfl) ?_
  refine g_iload_n hC rfl 0 rfl (rfl : 5 + 1 = 6) (xdt tt_X4_next 3 rfl) ?_
  refine g_if_lt hC (show ((6 : Nat) : Int) + 11 = ((17 : Nat) : Int) by decide) (rfl : 6 + 3 = 9) (xdt tt_X4_next 4 rfl) (fun hc10 => ?_) (fun hc10 => ?_)
  · replace h := (if_pos hc10).symm.trans h
    refine g_iconst hC (rfl : 17 + 1 = 18) (xdt tt_X4_next 9 rfl) ?_
    cases h
    exact g_iret hC hE (xdt tt_X4_next 10 rfl)
  · replace h := (if_neg hc10).symm.trans h
    refine g_iload_n hC rfl 0 rfl (rfl : 9 + 1 = 10) (xdt tt_X4_next 5 rfl) ?_
    refine g_aload_n hC rfl 2 rfl (rfl : 10 + 1 = 11) (xdt tt_X4_next 6 rfl) ?_
    refine g_getI hC hk1 kclX5 ly2_0 10 (by decide) rfl q750 (rfl : 11 + 3 = 14) (xdt tt_X4_next 7 rfl) ?_
    refine g_icmp_lt hC (show ((14 : Nat) : Int) + 5 = ((19 : Nat) : Int) by decide) (rfl : 14 + 3 = 17) (xdt tt_X4_next 8 rfl) (fun hc9 => ?_) (fun hc9 => ?_)
    · replace h := (if_pos hc9).symm.trans h
      refine g_aload_n hC rfl 1 rfl (rfl : 19 + 1 = 20) (xdt tt_X4_next 11 rfl) ?_
      refine g_aload_n hC rfl 1 rfl (rfl : 20 + 1 = 21) (xdt tt_X4_next 12 rfl) ?_
      refine g_getP hC hk0 kclX4 ly3_10 0 (by decide) (rfl : r0 + 0 = r0) rfl q130 (rfl : 21 + 3 = 24) (xdt tt_X4_next 13 rfl) ?_
      refine g_aload_n hC rfl 2 rfl (rfl : 24 + 1 = 25) (xdt tt_X4_next 14 rfl) ?_
      refine g_iload_n hC rfl 0 rfl (rfl : 25 + 1 = 26) (xdt tt_X4_next 15 rfl) ?_
      obtain ⟨v3, S2, hc1, h⟩ := bd2_i h
      refine g_callVz hC hZ hk0 kclX10 ly3_11 m_X10_goesToTarget q752 (Nat.le_of_ble_eq_true rfl) [vr E r1 0, vi (gI S r0 10 1)] rfl (fun l => c_X10_goesToTarget_p3_11_2_0 l hk0 hA0 hk1 hc1) rfl (Nat.le_of_ble_eq_true rfl) (rfl : 26 + 3 = 29) (xdt tt_X4_next 16 rfl) (fun hb4 => ?_)
      refine g_if_eq hC (show ((29 : Nat) : Int) + 12 = ((41 : Nat) : Int) by decide) (rfl : 29 + 3 = 32) (xdt tt_X4_next 17 rfl) (fun hc8 => ?_) (fun hc8 => ?_)
      · replace h := (if_pos hc8).symm.trans h
        refine g_iload_n hC rfl 0 rfl (rfl : 41 + 1 = 42) (xdt tt_X4_next 23 rfl) ?_
        refine g_iconst hC (rfl : 42 + 1 = 43) (xdt tt_X4_next 24 rfl) ?_
        refine g_iadd hC (rfl : 43 + 1 = 44) (xdt tt_X4_next 25 rfl) ?_
        obtain ⟨S5, hS5, h⟩ := lt1_i h
        refine g_putI hC hk0 kclX4 ly3_10 1 (by decide) rfl rfl rfl q173 hS5 (rfl : 44 + 3 = 47) (xdt tt_X4_next 26 rfl) ?_
        refine g_iload_n hC rfl 0 rfl (rfl : 47 + 1 = 48) (xdt tt_X4_next 27 rfl) ?_
        cases h
        exact g_iret hC hE (xdt tt_X4_next 28 rfl)
      · replace h := (if_neg hc8).symm.trans h
        refine g_aload_n hC rfl 2 rfl (rfl : 32 + 1 = 33) (xdt tt_X4_next 18 rfl) ?_
        refine g_getP hC hk1 kclX5 ly2_0 8 (by decide) (rfl : r1 + 0 = r1) rfl q751 (rfl : 33 + 3 = 36) (xdt tt_X4_next 19 rfl) ?_
        refine g_iload_n hC rfl 0 rfl (rfl : 36 + 1 = 37) (xdt tt_X4_next 20 rfl) ?_
        obtain ⟨hi6, h⟩ := ckI_i h
        refine g_iald hC hk1 ly2_11 hi6 (rfl : 37 + 1 = 38) (xdt tt_X4_next 21 rfl) (k0 := (wr (gI S r0 10 1)).toNat) rfl ?_
        refine g_goto hC (show ((38 : Nat) : Int) + 6 = ((44 : Nat) : Int) by decide) (xdt tt_X4_next 22 rfl) ?_
        obtain ⟨S7, hS7, h⟩ := lt1_i h
        refine g_putI hC hk0 kclX4 ly3_10 1 (by decide) rfl rfl rfl q173 hS7 (rfl : 44 + 3 = 47) (xdt tt_X4_next 26 rfl) ?_
        refine g_iload_n hC rfl 0 rfl (rfl : 47 + 1 = 48) (xdt tt_X4_next 27 rfl) ?_
        cases h
        exact g_iret hC hE (xdt tt_X4_next 28 rfl)
    · replace h := (if_neg hc9).symm.trans h
      refine g_iconst hC (rfl : 17 + 1 = 18) (xdt tt_X4_next 9 rfl) ?_
      cases h
      exact g_iret hC hE (xdt tt_X4_next 10 rfl)
def f_X11_plain_p3_0_b33 (r0 : Nat) : Nat → xSt → Int → Int → Int → Option (Int × xSt)
  | 0, _, _, _, _ => none
  | fuel + 1, S, x1, x2, x3 =>
    if wr x1 < wr x3 then
      (some (x2, S))
    else
      (ckP S r0 0 4 2 0 fun rg3 =>
      bd2 (f_X4_next_p3_10_2_0 S r0 rg3) fun v6 S5 =>
      (f_X11_plain_p3_0_b33 r0 fuel) S5 x1 v6 (x3 + 1))
def f_X11_plain_p3_0 (S : xSt) (r0 : Nat) (a1 : Int) : Option (Int × xSt) :=
  if wr a1 < 0 then
    (none)
  else
    (if wr a1 ≤ wr 9999 then
      (bd (f_X4_begin_p3_10 S r0) fun S2 =>
      f_X11_plain_p3_0_b33 r0 (fu S2) S2 a1 (-1) 0)
    else
      (none))
set_option maxRecDepth 100000 in
set_option maxHeartbeats 4000000 in
theorem k_X11_plain_p3_0_b33 {K : xCtx} {E : xE} {b : Nat} (hC : xOK K cX11_plain RX11 4 (rmE 3 b)) (hZ : xZ K) {v : Int} {S' : xSt} (hE : xEnd K E (some .int) (YQi E v S')) {r0 : Nat} (hk0 : xkd E r0 = 3) (hA0 : xFam E r0) : ∀ (fuel : Nat) (S : xSt) (x1 : Int) (x2 : Int) (x3 : Int), f_X11_plain_p3_0_b33 r0 fuel S x1 x2 x3 = some (v, S') → WG K E 33 [(0, vr E r0 0), (1, vi x1), (2, vi x2), (3, vi x3)] [] S := by
  intro fuel
  induction fuel with
  | zero => intro S x1 x2 x3 h; cases h
  | succ fuel ih =>
    intro S x1 x2 x3 h
    rw [f_X11_plain_p3_0_b33] at h
    refine g_iload_n hC rfl 3 rfl (rfl : 33 + 1 = 34) (xdt tt_X11_plain 17 rfl) ?_
    refine g_iload_n hC rfl 1 rfl (rfl : 34 + 1 = 35) (xdt tt_X11_plain 18 rfl) ?_
    refine g_icmp_gt hC (show ((35 : Nat) : Int) + 21 = ((56 : Nat) : Int) by decide) (rfl : 35 + 3 = 38) (xdt tt_X11_plain 19 rfl) (fun hc7 => ?_) (fun hc7 => ?_)
    · replace h := (if_pos hc7).symm.trans h
      refine g_iload_n hC rfl 2 rfl (rfl : 56 + 1 = 57) (xdt tt_X11_plain 28 rfl) ?_
      cases h
      exact g_iret hC hE (xdt tt_X11_plain 29 rfl)
    · replace h := (if_neg hc7).symm.trans h
      refine g_aload_n hC rfl 0 rfl (rfl : 38 + 1 = 39) (xdt tt_X11_plain 20 rfl) ?_
      refine g_getP hC hk0 kclX11 ly3_0 11 (by decide) (rfl : r0 + 0 = r0) rfl q37 (rfl : 39 + 3 = 42) (xdt tt_X11_plain 21 rfl) ?_
      refine g_aload_n hC rfl 0 rfl (rfl : 42 + 1 = 43) (xdt tt_X11_plain 22 rfl) ?_
      obtain ⟨rg3, hrg3, grg3, h⟩ := ckP_i h
      refine g_getV hC hk0 kclX11 ly3_0 4 (by decide) rfl hrg3 grg3 (by decide) q22 (rfl : 43 + 3 = 46) (xdt tt_X11_plain 23 rfl) (fun krg3 => ?_)
      obtain ⟨v6, S5, hc4, h⟩ := bd2_i h
      refine g_callVi hC hZ hk0 kclX4 ly3_10 m_X4_next q912 (Nat.le_of_ble_eq_true rfl) [vr E rg3 0] rfl (fun l => c_X4_next_p3_10_2_0 l hk0 hA0 krg3 hc4) rfl (Nat.le_of_ble_eq_true rfl) (rfl : 46 + 3 = 49) (xdt tt_X11_plain 24 rfl) ?_
      refine g_istore_n hC rfl (by decide) (lv' := [(2, vi v6), (0, vr E r0 0), (1, vi x1), (3, vi x3)]) rfl (rfl : 49 + 1 = 50) (xdt tt_X11_plain 25 rfl) ?_
      refine g_iinc hC 3 rfl (by decide) (lv' := [(3, vi (x3 + 1)), (2, vi v6), (0, vr E r0 0), (1, vi x1)]) rfl (rfl : 50 + 3 = 53) (xdt tt_X11_plain 26 rfl) ?_
      refine g_goto hC (show ((53 : Nat) : Int) + (-20) = ((33 : Nat) : Int) by decide) (xdt tt_X11_plain 27 rfl) ?_
      refine g_sub [2, 3, 1, 0] (lv' := [(0, vr E r0 0), (1, vi x1), (2, vi v6), (3, vi (x3 + 1))]) rfl ?_
      exact ih _ _ _ _ h
set_option maxRecDepth 100000 in
set_option maxHeartbeats 4000000 in
theorem c_X11_plain_p3_0 (l : Launch) {E : xE} {S S' : xSt} {r0 : Nat} {a1 : Int} (hk0 : xkd E r0 = 3) (hA0 : xFam E r0) {v : Int} (h : f_X11_plain_p3_0 S r0 a1 = some (v, S')) : Met l yX11_plain (xws yX11_plain cX11_plain 4 (some .int)) (rmD 3) (YPc E [vr E r0 0, vi a1] S) (YQi E v S') 0 0 (xA E) := by
  unfold f_X11_plain_p3_0 at h
  refine met_i (by decide +kernel) (Nat.le_of_ble_eq_true rfl) (fun K hC hZ hE => ?_)
  have hC : xOK K cX11_plain RX11 4 (rmE 3 0) := hC
  show WG K E 0 [(0, vr E r0 0), (1, vi a1)] [] S
  refine g_iload_n hC rfl 1 rfl (rfl : 0 + 1 = 1) (xdt tt_X11_plain 0 rfl) ?_
  refine g_if_lt hC (show ((1 : Nat) : Int) + 10 = ((11 : Nat) : Int) by decide) (rfl : 1 + 3 = 4) (xdt tt_X11_plain 1 rfl) (fun hc9 => ?_) (fun hc9 => ?_)
  · replace h := (if_pos hc9).symm.trans h
    cases h
  · replace h := (if_neg hc9).symm.trans h
    refine g_iload_n hC rfl 1 rfl (rfl : 4 + 1 = 5) (xdt tt_X11_plain 2 rfl) ?_
    refine g_sipush hC (by decide) (rfl : 5 + 3 = 8) (xdt tt_X11_plain 3 rfl) ?_
    refine g_icmp_le hC (show ((8 : Nat) : Int) + 14 = ((22 : Nat) : Int) by decide) (rfl : 8 + 3 = 11) (xdt tt_X11_plain 4 rfl) (fun hc8 => ?_) (fun hc8 => ?_)
    · replace h := (if_pos hc8).symm.trans h
      refine g_aload_n hC rfl 0 rfl (rfl : 22 + 1 = 23) (xdt tt_X11_plain 10 rfl) ?_
      refine g_getP hC hk0 kclX11 ly3_0 11 (by decide) (rfl : r0 + 0 = r0) rfl q37 (rfl : 23 + 3 = 26) (xdt tt_X11_plain 11 rfl) ?_
      obtain ⟨S2, hc1, h⟩ := bd_i h
      refine g_callVv hC hZ hk0 kclX4 ly3_10 m_X4_begin q911 (Nat.le_of_ble_eq_true rfl) [] rfl (fun l => c_X4_begin_p3_10 l hk0 hA0 hc1) rfl (Nat.le_of_ble_eq_true rfl) (rfl : 26 + 3 = 29) (xdt tt_X11_plain 12 rfl) ?_
      refine g_iconst hC (rfl : 29 + 1 = 30) (xdt tt_X11_plain 13 rfl) ?_
      refine g_istore_n hC rfl (by decide) (lv' := [(2, vi (-1)), (0, vr E r0 0), (1, vi a1)]) rfl (rfl : 30 + 1 = 31) (xdt tt_X11_plain 14 rfl) ?_
      refine g_iconst hC (rfl : 31 + 1 = 32) (xdt tt_X11_plain 15 rfl) ?_
      refine g_istore_n hC rfl (by decide) (lv' := [(3, vi 0), (2, vi (-1)), (0, vr E r0 0), (1, vi a1)]) rfl (rfl : 32 + 1 = 33) (xdt tt_X11_plain 16 rfl) ?_
      refine g_sub [2, 3, 1, 0] (lv' := [(0, vr E r0 0), (1, vi a1), (2, vi (-1)), (3, vi 0)]) rfl ?_
      exact k_X11_plain_p3_0_b33 hC hZ hE hk0 hA0 _ _ _ _ _ h
    · replace h := (if_neg hc8).symm.trans h
      cases h
def f_X11_agrees_p3_0 (S : xSt) (r0 : Nat) : Option (Int × xSt) :=
  if wr (gI S (r0 + 1) 14 4) < wr (iMin 100 (gI S (r0 + 1) 15 1)) then
    (some (0, S))
  else
    (some (1, S))
set_option maxRecDepth 100000 in
set_option maxHeartbeats 4000000 in
theorem c_X11_agrees_p3_0 (l : Launch) {E : xE} {S S' : xSt} {r0 : Nat} (hk0 : xkd E r0 = 3) (hA0 : xFam E r0) {v : Int} (h : f_X11_agrees_p3_0 S r0 = some (v, S')) : Met l yX11_agrees (xws yX11_agrees cX11_agrees 1 (some .boolean)) (rmD 1) (YPc E [vr E r0 0] S) (YQz E v S') 0 0 (xA E) := by
  unfold f_X11_agrees_p3_0 at h
  refine met_z (by decide +kernel) (Nat.le_of_ble_eq_true rfl) (fun K hC hZ hE => ?_)
  have hC : xOK K cX11_agrees RX11 1 (rmE 1 0) := hC
  show WG K E 0 [(0, vr E r0 0)] [] S
  refine g_aload_n hC rfl 0 rfl (rfl : 0 + 1 = 1) (xdt tt_X11_agrees 0 rfl) ?_
  refine g_getP hC hk0 kclX11 ly3_0 6 (by decide) (rfl : r0 + 1 = (r0 + 1)) rfl q27 (rfl : 1 + 3 = 4) (xdt tt_X11_agrees 1 rfl) ?_
  refine g_getP hC (hA0 1 (by decide) (by decide)) kclX0 ly1_0 7 (by decide) (rfl : (r0 + 1) + 0 = (r0 + 1)) rfl q683 (rfl : 4 + 3 = 7) (xdt tt_X11_agrees 2 rfl) ?_
  refine g_getI hC (hA0 1 (by decide) (by decide)) kclX9 ly1_14 4 (by decide) rfl q898 (rfl : 7 + 3 = 10) (xdt tt_X11_agrees 3 rfl) ?_
  refine g_bipush hC (by decide) (rfl : 10 + 2 = 12) (xdt tt_X11_agrees 4 rfl) ?_
  refine g_aload_n hC rfl 0 rfl (rfl : 12 + 1 = 13) (xdt tt_X11_agrees 5 rfl) ?_
  refine g_getP hC hk0 kclX11 ly3_0 6 (by decide) (rfl : r0 + 1 = (r0 + 1)) rfl q27 (rfl : 13 + 3 = 16) (xdt tt_X11_agrees 6 rfl) ?_
  refine g_getP hC (hA0 1 (by decide) (by decide)) kclX0 ly1_0 7 (by decide) (rfl : (r0 + 1) + 0 = (r0 + 1)) rfl q683 (rfl : 16 + 3 = 19) (xdt tt_X11_agrees 7 rfl) ?_
  refine g_getP hC (hA0 1 (by decide) (by decide)) kclX9 ly1_14 0 (by decide) (rfl : (r0 + 1) + 0 = (r0 + 1)) rfl q684 (rfl : 19 + 3 = 22) (xdt tt_X11_agrees 8 rfl) ?_
  refine g_iconst hC (rfl : 22 + 1 = 23) (xdt tt_X11_agrees 9 rfl) ?_
  refine g_iald hC (hA0 1 (by decide) (by decide)) ly1_15 (by decide) (rfl : 23 + 1 = 24) (xdt tt_X11_agrees 10 rfl) (k0 := 1) (by decide) ?_
  refine g_mmin hC hZ q899 q259 q243 q260 (Nat.le_of_ble_eq_true rfl) (Nat.le_of_ble_eq_true rfl) (rfl : 24 + 3 = 27) (xdt tt_X11_agrees 11 rfl) ?_
  refine g_icmp_lt hC (show ((27 : Nat) : Int) + 7 = ((34 : Nat) : Int) by decide) (rfl : 27 + 3 = 30) (xdt tt_X11_agrees 12 rfl) (fun hc1 => ?_) (fun hc1 => ?_)
  · replace h := (if_pos hc1).symm.trans h
    refine g_iconst hC (rfl : 34 + 1 = 35) (xdt tt_X11_agrees 15 rfl) ?_
    cases h
    exact g_zret hC hE (Or.inl rfl) (xdt tt_X11_agrees 16 rfl)
  · replace h := (if_neg hc1).symm.trans h
    refine g_iconst hC (rfl : 30 + 1 = 31) (xdt tt_X11_agrees 13 rfl) ?_
    refine g_goto hC (show ((31 : Nat) : Int) + 4 = ((35 : Nat) : Int) by decide) (xdt tt_X11_agrees 14 rfl) ?_
    cases h
    exact g_zret hC hE (Or.inr rfl) (xdt tt_X11_agrees 16 rfl)
def f_X11_times_p3_0 (S : xSt) (r0 : Nat) (a1 : Int) : Option (Int × xSt) :=
  if wr a1 < 0 then
    (none)
  else
    (ckP S r0 0 4 2 0 fun rg1 =>
    if wr a1 < wr (gI S rg1 0 10) then
      (ckI a1 60 <|
      some ((gI S (r0 + 1) 17 (wr a1).toNat), S))
    else
      (none))
set_option maxRecDepth 100000 in
set_option maxHeartbeats 4000000 in
theorem c_X11_times_p3_0 (l : Launch) {E : xE} {S S' : xSt} {r0 : Nat} {a1 : Int} (hk0 : xkd E r0 = 3) (hA0 : xFam E r0) {v : Int} (h : f_X11_times_p3_0 S r0 a1 = some (v, S')) : Met l yX11_times (xws yX11_times cX11_times 2 (some .int)) (rmD 1) (YPc E [vr E r0 0, vi a1] S) (YQi E v S') 0 0 (xA E) := by
  unfold f_X11_times_p3_0 at h
  refine met_i (by decide +kernel) (Nat.le_of_ble_eq_true rfl) (fun K hC hZ hE => ?_)
  have hC : xOK K cX11_times RX11 2 (rmE 1 0) := hC
  show WG K E 0 [(0, vr E r0 0), (1, vi a1)] [] S
  refine g_iload_n hC rfl 1 rfl (rfl : 0 + 1 = 1) (xdt tt_X11_times 0 rfl) ?_
  refine g_if_lt hC (show ((1 : Nat) : Int) + 14 = ((15 : Nat) : Int) by decide) (rfl : 1 + 3 = 4) (xdt tt_X11_times 1 rfl) (fun hc4 => ?_) (fun hc4 => ?_)
  · replace h := (if_pos hc4).symm.trans h
    cases h
  · replace h := (if_neg hc4).symm.trans h
    refine g_iload_n hC rfl 1 rfl (rfl : 4 + 1 = 5) (xdt tt_X11_times 2 rfl) ?_
    refine g_aload_n hC rfl 0 rfl (rfl : 5 + 1 = 6) (xdt tt_X11_times 3 rfl) ?_
    obtain ⟨rg1, hrg1, grg1, h⟩ := ckP_i h
    refine g_getV hC hk0 kclX11 ly3_0 4 (by decide) rfl hrg1 grg1 (by decide) q22 (rfl : 6 + 3 = 9) (xdt tt_X11_times 4 rfl) (fun krg1 => ?_)
    refine g_getI hC krg1 kclX5 ly2_0 10 (by decide) rfl q487 (rfl : 9 + 3 = 12) (xdt tt_X11_times 5 rfl) ?_
    refine g_icmp_lt hC (show ((12 : Nat) : Int) + 13 = ((25 : Nat) : Int) by decide) (rfl : 12 + 3 = 15) (xdt tt_X11_times 6 rfl) (fun hc3 => ?_) (fun hc3 => ?_)
    · replace h := (if_pos hc3).symm.trans h
      refine g_aload_n hC rfl 0 rfl (rfl : 25 + 1 = 26) (xdt tt_X11_times 12 rfl) ?_
      refine g_getP hC hk0 kclX11 ly3_0 6 (by decide) (rfl : r0 + 1 = (r0 + 1)) rfl q27 (rfl : 26 + 3 = 29) (xdt tt_X11_times 13 rfl) ?_
      refine g_getP hC (hA0 1 (by decide) (by decide)) kclX0 ly1_0 7 (by decide) (rfl : (r0 + 1) + 0 = (r0 + 1)) rfl q683 (rfl : 29 + 3 = 32) (xdt tt_X11_times 14 rfl) ?_
      refine g_getP hC (hA0 1 (by decide) (by decide)) kclX9 ly1_14 2 (by decide) (rfl : (r0 + 1) + 0 = (r0 + 1)) rfl q864 (rfl : 32 + 3 = 35) (xdt tt_X11_times 15 rfl) ?_
      refine g_iload_n hC rfl 1 rfl (rfl : 35 + 1 = 36) (xdt tt_X11_times 16 rfl) ?_
      obtain ⟨hi2, h⟩ := ckI_i h
      refine g_iald hC (hA0 1 (by decide) (by decide)) ly1_17 hi2 (rfl : 36 + 1 = 37) (xdt tt_X11_times 17 rfl) (k0 := (wr a1).toNat) rfl ?_
      cases h
      exact g_iret hC hE (xdt tt_X11_times 18 rfl)
    · replace h := (if_neg hc3).symm.trans h
      cases h
def f_X8_copyFrom_p1_2_1_2 (S : xSt) (r0 : Nat) (r1 : Nat) : Option (xSt) :=
  lt1 (wA S r0 3 (cpI (S.2.1 r1 3) (S.2.1 r0 3) (wr 0).toNat (wr 0).toNat (wr 7).toNat)) fun S1 =>
  lt1 (wA S1 r0 4 (cpI (S1.2.1 r1 4) (S1.2.1 r0 4) (wr 0).toNat (wr 0).toNat (wr 7).toNat)) fun S2 =>
  lt1 (wI S2 r0 2 2 (gI S2 r1 2 2)) fun S3 =>
  some S3
set_option maxRecDepth 100000 in
set_option maxHeartbeats 4000000 in
theorem c_X8_copyFrom_p1_2_1_2 (l : Launch) {E : xE} {S S' : xSt} {r0 : Nat} {r1 : Nat} (hk0 : xkd E r0 = 1) (hk1 : xkd E r1 = 1) (h : f_X8_copyFrom_p1_2_1_2 S r0 r1 = some S') : Met l yX8_copyFrom (xws yX8_copyFrom cX8_copyFrom 2 none) (rmD 2) (YPc E [vr E r0 2, vr E r1 2] S) (YQv E S') 0 0 (xA E) := by
  unfold f_X8_copyFrom_p1_2_1_2 at h
  refine met_v (by decide +kernel) (Nat.le_of_ble_eq_true rfl) (fun K hC hZ hE => ?_)
  have hC : xOK K cX8_copyFrom RX8 2 (rmE 2 0) := hC
  show WG K E 0 [(0, vr E r0 2), (1, vr E r1 2)] [] S
  refine g_aload_n hC rfl 1 rfl (rfl : 0 + 1 = 1) (xdt tt_X8_copyFrom 0 rfl) ?_
  refine g_getP hC hk1 kclX8 ly1_2 0 (by decide) (rfl : r1 + 0 = r1) rfl q71 (rfl : 1 + 3 = 4) (xdt tt_X8_copyFrom 1 rfl) ?_
  refine g_iconst hC (rfl : 4 + 1 = 5) (xdt tt_X8_copyFrom 2 rfl) ?_
  refine g_aload_n hC rfl 0 rfl (rfl : 5 + 1 = 6) (xdt tt_X8_copyFrom 3 rfl) ?_
  refine g_getP hC hk0 kclX8 ly1_2 0 (by decide) (rfl : r0 + 0 = r0) rfl q71 (rfl : 6 + 3 = 9) (xdt tt_X8_copyFrom 4 rfl) ?_
  refine g_iconst hC (rfl : 9 + 1 = 10) (xdt tt_X8_copyFrom 5 rfl) ?_
  refine g_aload_n hC rfl 0 rfl (rfl : 10 + 1 = 11) (xdt tt_X8_copyFrom 6 rfl) ?_
  refine g_getP hC hk0 kclX8 ly1_2 0 (by decide) (rfl : r0 + 0 = r0) rfl q71 (rfl : 11 + 3 = 14) (xdt tt_X8_copyFrom 7 rfl) ?_
  refine g_alen hC hk0 ly1_3 (z := 7) (by decide) (rfl : 14 + 1 = 15) (xdt tt_X8_copyFrom 8 rfl) ?_
  obtain ⟨S1, hS1, h⟩ := lt1_i h
  refine g_copy hC hk1 hk0 ly1_3 ly1_3 rfl (by decide) (by decide) q162 q78 q79 q80 (Nat.le_of_ble_eq_true rfl) (Nat.le_of_ble_eq_true rfl) hS1 (rfl : 15 + 3 = 18) (xdt tt_X8_copyFrom 9 rfl) ?_
  refine g_aload_n hC rfl 1 rfl (rfl : 18 + 1 = 19) (xdt tt_X8_copyFrom 10 rfl) ?_
  refine g_getP hC hk1 kclX8 ly1_2 1 (by decide) (rfl : r1 + 0 = r1) rfl q72 (rfl : 19 + 3 = 22) (xdt tt_X8_copyFrom 11 rfl) ?_
  refine g_iconst hC (rfl : 22 + 1 = 23) (xdt tt_X8_copyFrom 12 rfl) ?_
  refine g_aload_n hC rfl 0 rfl (rfl : 23 + 1 = 24) (xdt tt_X8_copyFrom 13 rfl) ?_
  refine g_getP hC hk0 kclX8 ly1_2 1 (by decide) (rfl : r0 + 0 = r0) rfl q72 (rfl : 24 + 3 = 27) (xdt tt_X8_copyFrom 14 rfl) ?_
  refine g_iconst hC (rfl : 27 + 1 = 28) (xdt tt_X8_copyFrom 15 rfl) ?_
  refine g_aload_n hC rfl 0 rfl (rfl : 28 + 1 = 29) (xdt tt_X8_copyFrom 16 rfl) ?_
  refine g_getP hC hk0 kclX8 ly1_2 1 (by decide) (rfl : r0 + 0 = r0) rfl q72 (rfl : 29 + 3 = 32) (xdt tt_X8_copyFrom 17 rfl) ?_
  refine g_alen hC hk0 ly1_4 (z := 7) (by decide) (rfl : 32 + 1 = 33) (xdt tt_X8_copyFrom 18 rfl) ?_
  obtain ⟨S2, hS2, h⟩ := lt1_i h
  refine g_copy hC hk1 hk0 ly1_4 ly1_4 rfl (by decide) (by decide) q162 q78 q79 q80 (Nat.le_of_ble_eq_true rfl) (Nat.le_of_ble_eq_true rfl) hS2 (rfl : 33 + 3 = 36) (xdt tt_X8_copyFrom 19 rfl) ?_
  refine g_aload_n hC rfl 0 rfl (rfl : 36 + 1 = 37) (xdt tt_X8_copyFrom 20 rfl) ?_
  refine g_aload_n hC rfl 1 rfl (rfl : 37 + 1 = 38) (xdt tt_X8_copyFrom 21 rfl) ?_
  refine g_getI hC hk1 kclX8 ly1_2 2 (by decide) rfl q163 (rfl : 38 + 3 = 41) (xdt tt_X8_copyFrom 22 rfl) ?_
  obtain ⟨S3, hS3, h⟩ := lt1_i h
  refine g_putI hC hk0 kclX8 ly1_2 2 (by decide) rfl rfl rfl q163 hS3 (rfl : 41 + 3 = 44) (xdt tt_X8_copyFrom 23 rfl) ?_
  cases h
  exact g_vret hC hE (xdt tt_X8_copyFrom 24 rfl)
def f_X6_copyFrom_p1_5_1_5 (S : xSt) (r0 : Nat) (r1 : Nat) : Option (xSt) :=
  lt1 (wA S r0 6 (cpI (S.2.1 r1 6) (S.2.1 r0 6) (wr 0).toNat (wr 0).toNat (wr 20).toNat)) fun S1 =>
  lt1 (wA S1 r0 7 (cpI (S1.2.1 r1 7) (S1.2.1 r0 7) (wr 0).toNat (wr 0).toNat (wr 20).toNat)) fun S2 =>
  lt1 (wI S2 r0 5 2 (gI S2 r1 5 2)) fun S3 =>
  some S3
set_option maxRecDepth 100000 in
set_option maxHeartbeats 4000000 in
theorem c_X6_copyFrom_p1_5_1_5 (l : Launch) {E : xE} {S S' : xSt} {r0 : Nat} {r1 : Nat} (hk0 : xkd E r0 = 1) (hk1 : xkd E r1 = 1) (h : f_X6_copyFrom_p1_5_1_5 S r0 r1 = some S') : Met l yX6_copyFrom (xws yX6_copyFrom cX6_copyFrom 2 none) (rmD 2) (YPc E [vr E r0 5, vr E r1 5] S) (YQv E S') 0 0 (xA E) := by
  unfold f_X6_copyFrom_p1_5_1_5 at h
  refine met_v (by decide +kernel) (Nat.le_of_ble_eq_true rfl) (fun K hC hZ hE => ?_)
  have hC : xOK K cX6_copyFrom RX6 2 (rmE 2 0) := hC
  show WG K E 0 [(0, vr E r0 5), (1, vr E r1 5)] [] S
  refine g_aload_n hC rfl 1 rfl (rfl : 0 + 1 = 1) (xdt tt_X6_copyFrom 0 rfl) ?_
  refine g_getP hC hk1 kclX6 ly1_5 0 (by decide) (rfl : r1 + 0 = r1) rfl q117 (rfl : 1 + 3 = 4) (xdt tt_X6_copyFrom 1 rfl) ?_
  refine g_iconst hC (rfl : 4 + 1 = 5) (xdt tt_X6_copyFrom 2 rfl) ?_
  refine g_aload_n hC rfl 0 rfl (rfl : 5 + 1 = 6) (xdt tt_X6_copyFrom 3 rfl) ?_
  refine g_getP hC hk0 kclX6 ly1_5 0 (by decide) (rfl : r0 + 0 = r0) rfl q117 (rfl : 6 + 3 = 9) (xdt tt_X6_copyFrom 4 rfl) ?_
  refine g_iconst hC (rfl : 9 + 1 = 10) (xdt tt_X6_copyFrom 5 rfl) ?_
  refine g_bipush hC (by decide) (rfl : 10 + 2 = 12) (xdt tt_X6_copyFrom 6 rfl) ?_
  obtain ⟨S1, hS1, h⟩ := lt1_i h
  refine g_copy hC hk1 hk0 ly1_6 ly1_6 rfl (by decide) (by decide) q647 q78 q79 q80 (Nat.le_of_ble_eq_true rfl) (Nat.le_of_ble_eq_true rfl) hS1 (rfl : 12 + 3 = 15) (xdt tt_X6_copyFrom 7 rfl) ?_
  refine g_aload_n hC rfl 1 rfl (rfl : 15 + 1 = 16) (xdt tt_X6_copyFrom 8 rfl) ?_
  refine g_getP hC hk1 kclX6 ly1_5 1 (by decide) (rfl : r1 + 0 = r1) rfl q118 (rfl : 16 + 3 = 19) (xdt tt_X6_copyFrom 9 rfl) ?_
  refine g_iconst hC (rfl : 19 + 1 = 20) (xdt tt_X6_copyFrom 10 rfl) ?_
  refine g_aload_n hC rfl 0 rfl (rfl : 20 + 1 = 21) (xdt tt_X6_copyFrom 11 rfl) ?_
  refine g_getP hC hk0 kclX6 ly1_5 1 (by decide) (rfl : r0 + 0 = r0) rfl q118 (rfl : 21 + 3 = 24) (xdt tt_X6_copyFrom 12 rfl) ?_
  refine g_iconst hC (rfl : 24 + 1 = 25) (xdt tt_X6_copyFrom 13 rfl) ?_
  refine g_bipush hC (by decide) (rfl : 25 + 2 = 27) (xdt tt_X6_copyFrom 14 rfl) ?_
  obtain ⟨S2, hS2, h⟩ := lt1_i h
  refine g_copy hC hk1 hk0 ly1_7 ly1_7 rfl (by decide) (by decide) q647 q78 q79 q80 (Nat.le_of_ble_eq_true rfl) (Nat.le_of_ble_eq_true rfl) hS2 (rfl : 27 + 3 = 30) (xdt tt_X6_copyFrom 15 rfl) ?_
  refine g_aload_n hC rfl 0 rfl (rfl : 30 + 1 = 31) (xdt tt_X6_copyFrom 16 rfl) ?_
  refine g_aload_n hC rfl 1 rfl (rfl : 31 + 1 = 32) (xdt tt_X6_copyFrom 17 rfl) ?_
  refine g_getI hC hk1 kclX6 ly1_5 2 (by decide) rfl q648 (rfl : 32 + 3 = 35) (xdt tt_X6_copyFrom 18 rfl) ?_
  obtain ⟨S3, hS3, h⟩ := lt1_i h
  refine g_putI hC hk0 kclX6 ly1_5 2 (by decide) rfl rfl rfl q648 hS3 (rfl : 35 + 3 = 38) (xdt tt_X6_copyFrom 19 rfl) ?_
  cases h
  exact g_vret hC hE (xdt tt_X6_copyFrom 20 rfl)
def f_X7_copyFrom_p1_8_1_8 (S : xSt) (r0 : Nat) (r1 : Nat) : Option (xSt) :=
  ckB (gI S r1 8 0) <|
  lt1 (wI S r0 8 0 (gI S r1 8 0)) fun S2 =>
  lt1 (wI S2 r0 8 1 (gI S2 r1 8 1)) fun S3 =>
  lt1 (wI S3 r0 8 2 (gI S3 r1 8 2)) fun S4 =>
  lt1 (wI S4 r0 8 3 (gI S4 r1 8 3)) fun S5 =>
  lt1 (wI S5 r0 8 4 (gI S5 r1 8 4)) fun S6 =>
  some S6
set_option maxRecDepth 100000 in
set_option maxHeartbeats 4000000 in
theorem c_X7_copyFrom_p1_8_1_8 (l : Launch) {E : xE} {S S' : xSt} {r0 : Nat} {r1 : Nat} (hk0 : xkd E r0 = 1) (hk1 : xkd E r1 = 1) (h : f_X7_copyFrom_p1_8_1_8 S r0 r1 = some S') : Met l yX7_copyFrom (xws yX7_copyFrom cX7_copyFrom 2 none) (rmD 1) (YPc E [vr E r0 8, vr E r1 8] S) (YQv E S') 0 0 (xA E) := by
  unfold f_X7_copyFrom_p1_8_1_8 at h
  refine met_v (by decide +kernel) (Nat.le_of_ble_eq_true rfl) (fun K hC hZ hE => ?_)
  have hC : xOK K cX7_copyFrom RX7 2 (rmE 1 0) := hC
  show WG K E 0 [(0, vr E r0 8), (1, vr E r1 8)] [] S
  refine g_aload_n hC rfl 0 rfl (rfl : 0 + 1 = 1) (xdt tt_X7_copyFrom 0 rfl) ?_
  refine g_aload_n hC rfl 1 rfl (rfl : 1 + 1 = 2) (xdt tt_X7_copyFrom 1 rfl) ?_
  refine g_getI hC hk1 kclX7 ly1_8 0 (by decide) rfl q653 (rfl : 2 + 3 = 5) (xdt tt_X7_copyFrom 2 rfl) ?_
  obtain ⟨hb1, h⟩ := ckB_i h
  obtain ⟨S2, hS2, h⟩ := lt1_i h
  refine g_putZ hC hk0 kclX7 ly1_8 0 (by decide) rfl rfl rfl q653 hb1 hS2 (rfl : 5 + 3 = 8) (xdt tt_X7_copyFrom 3 rfl) ?_
  refine g_aload_n hC rfl 0 rfl (rfl : 8 + 1 = 9) (xdt tt_X7_copyFrom 4 rfl) ?_
  refine g_aload_n hC rfl 1 rfl (rfl : 9 + 1 = 10) (xdt tt_X7_copyFrom 5 rfl) ?_
  refine g_getI hC hk1 kclX7 ly1_8 1 (by decide) rfl q654 (rfl : 10 + 3 = 13) (xdt tt_X7_copyFrom 6 rfl) ?_
  obtain ⟨S3, hS3, h⟩ := lt1_i h
  refine g_putI hC hk0 kclX7 ly1_8 1 (by decide) rfl rfl rfl q654 hS3 (rfl : 13 + 3 = 16) (xdt tt_X7_copyFrom 7 rfl) ?_
  refine g_aload_n hC rfl 0 rfl (rfl : 16 + 1 = 17) (xdt tt_X7_copyFrom 8 rfl) ?_
  refine g_aload_n hC rfl 1 rfl (rfl : 17 + 1 = 18) (xdt tt_X7_copyFrom 9 rfl) ?_
  refine g_getI hC hk1 kclX7 ly1_8 2 (by decide) rfl q655 (rfl : 18 + 3 = 21) (xdt tt_X7_copyFrom 10 rfl) ?_
  obtain ⟨S4, hS4, h⟩ := lt1_i h
  refine g_putI hC hk0 kclX7 ly1_8 2 (by decide) rfl rfl rfl q655 hS4 (rfl : 21 + 3 = 24) (xdt tt_X7_copyFrom 11 rfl) ?_
  refine g_aload_n hC rfl 0 rfl (rfl : 24 + 1 = 25) (xdt tt_X7_copyFrom 12 rfl) ?_
  refine g_aload_n hC rfl 1 rfl (rfl : 25 + 1 = 26) (xdt tt_X7_copyFrom 13 rfl) ?_
  refine g_getI hC hk1 kclX7 ly1_8 3 (by decide) rfl q656 (rfl : 26 + 3 = 29) (xdt tt_X7_copyFrom 14 rfl) ?_
  obtain ⟨S5, hS5, h⟩ := lt1_i h
  refine g_putI hC hk0 kclX7 ly1_8 3 (by decide) rfl rfl rfl q656 hS5 (rfl : 29 + 3 = 32) (xdt tt_X7_copyFrom 15 rfl) ?_
  refine g_aload_n hC rfl 0 rfl (rfl : 32 + 1 = 33) (xdt tt_X7_copyFrom 16 rfl) ?_
  refine g_aload_n hC rfl 1 rfl (rfl : 33 + 1 = 34) (xdt tt_X7_copyFrom 17 rfl) ?_
  refine g_getI hC hk1 kclX7 ly1_8 4 (by decide) rfl q657 (rfl : 34 + 3 = 37) (xdt tt_X7_copyFrom 18 rfl) ?_
  obtain ⟨S6, hS6, h⟩ := lt1_i h
  refine g_putI hC hk0 kclX7 ly1_8 4 (by decide) rfl rfl rfl q657 hS6 (rfl : 37 + 3 = 40) (xdt tt_X7_copyFrom 19 rfl) ?_
  cases h
  exact g_vret hC hE (xdt tt_X7_copyFrom 20 rfl)
def f_X10_copyFrom_p1_9_1_9 (S : xSt) (r0 : Nat) (r1 : Nat) : Option (xSt) :=
  lt1 (wA S r0 10 (cpI (S.2.1 r1 10) (S.2.1 r0 10) (wr 0).toNat (wr 0).toNat (wr 60).toNat)) fun S1 =>
  some S1
set_option maxRecDepth 100000 in
set_option maxHeartbeats 4000000 in
theorem c_X10_copyFrom_p1_9_1_9 (l : Launch) {E : xE} {S S' : xSt} {r0 : Nat} {r1 : Nat} (hk0 : xkd E r0 = 1) (hk1 : xkd E r1 = 1) (h : f_X10_copyFrom_p1_9_1_9 S r0 r1 = some S') : Met l yX10_copyFrom (xws yX10_copyFrom cX10_copyFrom 2 none) (rmD 2) (YPc E [vr E r0 9, vr E r1 9] S) (YQv E S') 0 0 (xA E) := by
  unfold f_X10_copyFrom_p1_9_1_9 at h
  refine met_v (by decide +kernel) (Nat.le_of_ble_eq_true rfl) (fun K hC hZ hE => ?_)
  have hC : xOK K cX10_copyFrom RX10 2 (rmE 2 0) := hC
  show WG K E 0 [(0, vr E r0 9), (1, vr E r1 9)] [] S
  refine g_aload_n hC rfl 1 rfl (rfl : 0 + 1 = 1) (xdt tt_X10_copyFrom 0 rfl) ?_
  refine g_getP hC hk1 kclX10 ly1_9 0 (by decide) (rfl : r1 + 0 = r1) rfl q125 (rfl : 1 + 3 = 4) (xdt tt_X10_copyFrom 1 rfl) ?_
  refine g_iconst hC (rfl : 4 + 1 = 5) (xdt tt_X10_copyFrom 2 rfl) ?_
  refine g_aload_n hC rfl 0 rfl (rfl : 5 + 1 = 6) (xdt tt_X10_copyFrom 3 rfl) ?_
  refine g_getP hC hk0 kclX10 ly1_9 0 (by decide) (rfl : r0 + 0 = r0) rfl q125 (rfl : 6 + 3 = 9) (xdt tt_X10_copyFrom 4 rfl) ?_
  refine g_iconst hC (rfl : 9 + 1 = 10) (xdt tt_X10_copyFrom 5 rfl) ?_
  refine g_bipush hC (by decide) (rfl : 10 + 2 = 12) (xdt tt_X10_copyFrom 6 rfl) ?_
  obtain ⟨S1, hS1, h⟩ := lt1_i h
  refine g_copy hC hk1 hk0 ly1_10 ly1_10 rfl (by decide) (by decide) q662 q78 q79 q80 (Nat.le_of_ble_eq_true rfl) (Nat.le_of_ble_eq_true rfl) hS1 (rfl : 12 + 3 = 15) (xdt tt_X10_copyFrom 7 rfl) ?_
  cases h
  exact g_vret hC hE (xdt tt_X10_copyFrom 8 rfl)
def f_X10_copyFrom_p1_12_1_12 (S : xSt) (r0 : Nat) (r1 : Nat) : Option (xSt) :=
  lt1 (wA S r0 13 (cpI (S.2.1 r1 13) (S.2.1 r0 13) (wr 0).toNat (wr 0).toNat (wr 60).toNat)) fun S1 =>
  some S1
set_option maxRecDepth 100000 in
set_option maxHeartbeats 4000000 in
theorem c_X10_copyFrom_p1_12_1_12 (l : Launch) {E : xE} {S S' : xSt} {r0 : Nat} {r1 : Nat} (hk0 : xkd E r0 = 1) (hk1 : xkd E r1 = 1) (h : f_X10_copyFrom_p1_12_1_12 S r0 r1 = some S') : Met l yX10_copyFrom (xws yX10_copyFrom cX10_copyFrom 2 none) (rmD 2) (YPc E [vr E r0 12, vr E r1 12] S) (YQv E S') 0 0 (xA E) := by
  unfold f_X10_copyFrom_p1_12_1_12 at h
  refine met_v (by decide +kernel) (Nat.le_of_ble_eq_true rfl) (fun K hC hZ hE => ?_)
  have hC : xOK K cX10_copyFrom RX10 2 (rmE 2 0) := hC
  show WG K E 0 [(0, vr E r0 12), (1, vr E r1 12)] [] S
  refine g_aload_n hC rfl 1 rfl (rfl : 0 + 1 = 1) (xdt tt_X10_copyFrom 0 rfl) ?_
  refine g_getP hC hk1 kclX10 ly1_12 0 (by decide) (rfl : r1 + 0 = r1) rfl q125 (rfl : 1 + 3 = 4) (xdt tt_X10_copyFrom 1 rfl) ?_
  refine g_iconst hC (rfl : 4 + 1 = 5) (xdt tt_X10_copyFrom 2 rfl) ?_
  refine g_aload_n hC rfl 0 rfl (rfl : 5 + 1 = 6) (xdt tt_X10_copyFrom 3 rfl) ?_
  refine g_getP hC hk0 kclX10 ly1_12 0 (by decide) (rfl : r0 + 0 = r0) rfl q125 (rfl : 6 + 3 = 9) (xdt tt_X10_copyFrom 4 rfl) ?_
  refine g_iconst hC (rfl : 9 + 1 = 10) (xdt tt_X10_copyFrom 5 rfl) ?_
  refine g_bipush hC (by decide) (rfl : 10 + 2 = 12) (xdt tt_X10_copyFrom 6 rfl) ?_
  obtain ⟨S1, hS1, h⟩ := lt1_i h
  refine g_copy hC hk1 hk0 ly1_13 ly1_13 rfl (by decide) (by decide) q662 q78 q79 q80 (Nat.le_of_ble_eq_true rfl) (Nat.le_of_ble_eq_true rfl) hS1 (rfl : 12 + 3 = 15) (xdt tt_X10_copyFrom 7 rfl) ?_
  cases h
  exact g_vret hC hE (xdt tt_X10_copyFrom 8 rfl)
def f_X4_copyFrom_p1_11_1_11 (S : xSt) (r0 : Nat) (r1 : Nat) : Option (xSt) :=
  bd (f_X10_copyFrom_p1_12_1_12 S r0 r1) fun S2 =>
  lt1 (wI S2 r0 11 1 (gI S2 r1 11 1)) fun S3 =>
  some S3
set_option maxRecDepth 100000 in
set_option maxHeartbeats 4000000 in
theorem c_X4_copyFrom_p1_11_1_11 (l : Launch) {E : xE} {S S' : xSt} {r0 : Nat} {r1 : Nat} (hk0 : xkd E r0 = 1) (hk1 : xkd E r1 = 1) (h : f_X4_copyFrom_p1_11_1_11 S r0 r1 = some S') : Met l yX4_copyFrom (xws yX4_copyFrom cX4_copyFrom 2 none) (rmD 3) (YPc E [vr E r0 11, vr E r1 11] S) (YQv E S') 0 0 (xA E) := by
  unfold f_X4_copyFrom_p1_11_1_11 at h
  refine met_v (by decide +kernel) (Nat.le_of_ble_eq_true rfl) (fun K hC hZ hE => ?_)
  have hC : xOK K cX4_copyFrom RX4 2 (rmE 3 0) := hC
  show WG K E 0 [(0, vr E r0 11), (1, vr E r1 11)] [] S
  refine g_aload_n hC rfl 0 rfl (rfl : 0 + 1 = 1) (xdt tt_X4_copyFrom 0 rfl) ?_
  refine g_getP hC hk0 kclX4 ly1_11 0 (by decide) (rfl : r0 + 0 = r0) rfl q130 (rfl : 1 + 3 = 4) (xdt tt_X4_copyFrom 1 rfl) ?_
  refine g_aload_n hC rfl 1 rfl (rfl : 4 + 1 = 5) (xdt tt_X4_copyFrom 2 rfl) ?_
  refine g_getP hC hk1 kclX4 ly1_11 0 (by decide) (rfl : r1 + 0 = r1) rfl q130 (rfl : 5 + 3 = 8) (xdt tt_X4_copyFrom 3 rfl) ?_
  obtain ⟨S2, hc1, h⟩ := bd_i h
  refine g_callVv hC hZ hk0 kclX10 ly1_12 m_X10_copyFrom q667 (Nat.le_of_ble_eq_true rfl) [vr E r1 12] rfl (fun l => c_X10_copyFrom_p1_12_1_12 l hk0 hk1 hc1) rfl (Nat.le_of_ble_eq_true rfl) (rfl : 8 + 3 = 11) (xdt tt_X4_copyFrom 4 rfl) ?_
  refine g_aload_n hC rfl 0 rfl (rfl : 11 + 1 = 12) (xdt tt_X4_copyFrom 5 rfl) ?_
  refine g_aload_n hC rfl 1 rfl (rfl : 12 + 1 = 13) (xdt tt_X4_copyFrom 6 rfl) ?_
  refine g_getI hC hk1 kclX4 ly1_11 1 (by decide) rfl q173 (rfl : 13 + 3 = 16) (xdt tt_X4_copyFrom 7 rfl) ?_
  obtain ⟨S3, hS3, h⟩ := lt1_i h
  refine g_putI hC hk0 kclX4 ly1_11 1 (by decide) rfl rfl rfl q173 hS3 (rfl : 16 + 3 = 19) (xdt tt_X4_copyFrom 8 rfl) ?_
  cases h
  exact g_vret hC hE (xdt tt_X4_copyFrom 9 rfl)
def f_X9_copyFrom_p1_14_1_14 (S : xSt) (r0 : Nat) (r1 : Nat) : Option (xSt) :=
  lt1 (wA S r0 15 (cpI (S.2.1 r1 15) (S.2.1 r0 15) (wr 0).toNat (wr 0).toNat (wr 9).toNat)) fun S1 =>
  lt1 (wA S1 r0 16 (cpI (S1.2.1 r1 16) (S1.2.1 r0 16) (wr 0).toNat (wr 0).toNat (wr 9).toNat)) fun S2 =>
  lt1 (wA S2 r0 17 (cpI (S2.2.1 r1 17) (S2.2.1 r0 17) (wr 0).toNat (wr 0).toNat (wr 60).toNat)) fun S3 =>
  lt1 (wA S3 r0 18 (cpI (S3.2.1 r1 18) (S3.2.1 r0 18) (wr 0).toNat (wr 0).toNat (wr 100).toNat)) fun S4 =>
  lt1 (wI S4 r0 14 4 (gI S4 r1 14 4)) fun S5 =>
  some S5
set_option maxRecDepth 100000 in
set_option maxHeartbeats 4000000 in
theorem c_X9_copyFrom_p1_14_1_14 (l : Launch) {E : xE} {S S' : xSt} {r0 : Nat} {r1 : Nat} (hk0 : xkd E r0 = 1) (hk1 : xkd E r1 = 1) (h : f_X9_copyFrom_p1_14_1_14 S r0 r1 = some S') : Met l yX9_copyFrom (xws yX9_copyFrom cX9_copyFrom 2 none) (rmD 2) (YPc E [vr E r0 14, vr E r1 14] S) (YQv E S') 0 0 (xA E) := by
  unfold f_X9_copyFrom_p1_14_1_14 at h
  refine met_v (by decide +kernel) (Nat.le_of_ble_eq_true rfl) (fun K hC hZ hE => ?_)
  have hC : xOK K cX9_copyFrom RX9 2 (rmE 2 0) := hC
  show WG K E 0 [(0, vr E r0 14), (1, vr E r1 14)] [] S
  refine g_aload_n hC rfl 1 rfl (rfl : 0 + 1 = 1) (xdt tt_X9_copyFrom 0 rfl) ?_
  refine g_getP hC hk1 kclX9 ly1_14 0 (by decide) (rfl : r1 + 0 = r1) rfl q134 (rfl : 1 + 3 = 4) (xdt tt_X9_copyFrom 1 rfl) ?_
  refine g_iconst hC (rfl : 4 + 1 = 5) (xdt tt_X9_copyFrom 2 rfl) ?_
  refine g_aload_n hC rfl 0 rfl (rfl : 5 + 1 = 6) (xdt tt_X9_copyFrom 3 rfl) ?_
  refine g_getP hC hk0 kclX9 ly1_14 0 (by decide) (rfl : r0 + 0 = r0) rfl q134 (rfl : 6 + 3 = 9) (xdt tt_X9_copyFrom 4 rfl) ?_
  refine g_iconst hC (rfl : 9 + 1 = 10) (xdt tt_X9_copyFrom 5 rfl) ?_
  refine g_bipush hC (by decide) (rfl : 10 + 2 = 12) (xdt tt_X9_copyFrom 6 rfl) ?_
  obtain ⟨S1, hS1, h⟩ := lt1_i h
  refine g_copy hC hk1 hk0 ly1_15 ly1_15 rfl (by decide) (by decide) q672 q78 q79 q80 (Nat.le_of_ble_eq_true rfl) (Nat.le_of_ble_eq_true rfl) hS1 (rfl : 12 + 3 = 15) (xdt tt_X9_copyFrom 7 rfl) ?_
  refine g_aload_n hC rfl 1 rfl (rfl : 15 + 1 = 16) (xdt tt_X9_copyFrom 8 rfl) ?_
  refine g_getP hC hk1 kclX9 ly1_14 1 (by decide) (rfl : r1 + 0 = r1) rfl q135 (rfl : 16 + 3 = 19) (xdt tt_X9_copyFrom 9 rfl) ?_
  refine g_iconst hC (rfl : 19 + 1 = 20) (xdt tt_X9_copyFrom 10 rfl) ?_
  refine g_aload_n hC rfl 0 rfl (rfl : 20 + 1 = 21) (xdt tt_X9_copyFrom 11 rfl) ?_
  refine g_getP hC hk0 kclX9 ly1_14 1 (by decide) (rfl : r0 + 0 = r0) rfl q135 (rfl : 21 + 3 = 24) (xdt tt_X9_copyFrom 12 rfl) ?_
  refine g_iconst hC (rfl : 24 + 1 = 25) (xdt tt_X9_copyFrom 13 rfl) ?_
  refine g_bipush hC (by decide) (rfl : 25 + 2 = 27) (xdt tt_X9_copyFrom 14 rfl) ?_
  obtain ⟨S2, hS2, h⟩ := lt1_i h
  refine g_copy hC hk1 hk0 ly1_16 ly1_16 rfl (by decide) (by decide) q672 q78 q79 q80 (Nat.le_of_ble_eq_true rfl) (Nat.le_of_ble_eq_true rfl) hS2 (rfl : 27 + 3 = 30) (xdt tt_X9_copyFrom 15 rfl) ?_
  refine g_aload_n hC rfl 1 rfl (rfl : 30 + 1 = 31) (xdt tt_X9_copyFrom 16 rfl) ?_
  refine g_getP hC hk1 kclX9 ly1_14 2 (by decide) (rfl : r1 + 0 = r1) rfl q136 (rfl : 31 + 3 = 34) (xdt tt_X9_copyFrom 17 rfl) ?_
  refine g_iconst hC (rfl : 34 + 1 = 35) (xdt tt_X9_copyFrom 18 rfl) ?_
  refine g_aload_n hC rfl 0 rfl (rfl : 35 + 1 = 36) (xdt tt_X9_copyFrom 19 rfl) ?_
  refine g_getP hC hk0 kclX9 ly1_14 2 (by decide) (rfl : r0 + 0 = r0) rfl q136 (rfl : 36 + 3 = 39) (xdt tt_X9_copyFrom 20 rfl) ?_
  refine g_iconst hC (rfl : 39 + 1 = 40) (xdt tt_X9_copyFrom 21 rfl) ?_
  refine g_bipush hC (by decide) (rfl : 40 + 2 = 42) (xdt tt_X9_copyFrom 22 rfl) ?_
  obtain ⟨S3, hS3, h⟩ := lt1_i h
  refine g_copy hC hk1 hk0 ly1_17 ly1_17 rfl (by decide) (by decide) q672 q78 q79 q80 (Nat.le_of_ble_eq_true rfl) (Nat.le_of_ble_eq_true rfl) hS3 (rfl : 42 + 3 = 45) (xdt tt_X9_copyFrom 23 rfl) ?_
  refine g_aload_n hC rfl 1 rfl (rfl : 45 + 1 = 46) (xdt tt_X9_copyFrom 24 rfl) ?_
  refine g_getP hC hk1 kclX9 ly1_14 3 (by decide) (rfl : r1 + 0 = r1) rfl q137 (rfl : 46 + 3 = 49) (xdt tt_X9_copyFrom 25 rfl) ?_
  refine g_iconst hC (rfl : 49 + 1 = 50) (xdt tt_X9_copyFrom 26 rfl) ?_
  refine g_aload_n hC rfl 0 rfl (rfl : 50 + 1 = 51) (xdt tt_X9_copyFrom 27 rfl) ?_
  refine g_getP hC hk0 kclX9 ly1_14 3 (by decide) (rfl : r0 + 0 = r0) rfl q137 (rfl : 51 + 3 = 54) (xdt tt_X9_copyFrom 28 rfl) ?_
  refine g_iconst hC (rfl : 54 + 1 = 55) (xdt tt_X9_copyFrom 29 rfl) ?_
  refine g_bipush hC (by decide) (rfl : 55 + 2 = 57) (xdt tt_X9_copyFrom 30 rfl) ?_
  obtain ⟨S4, hS4, h⟩ := lt1_i h
  refine g_copy hC hk1 hk0 ly1_18 ly1_18 rfl (by decide) (by decide) q672 q78 q79 q80 (Nat.le_of_ble_eq_true rfl) (Nat.le_of_ble_eq_true rfl) hS4 (rfl : 57 + 3 = 60) (xdt tt_X9_copyFrom 31 rfl) ?_
  refine g_aload_n hC rfl 0 rfl (rfl : 60 + 1 = 61) (xdt tt_X9_copyFrom 32 rfl) ?_
  refine g_aload_n hC rfl 1 rfl (rfl : 61 + 1 = 62) (xdt tt_X9_copyFrom 33 rfl) ?_
  refine g_getI hC hk1 kclX9 ly1_14 4 (by decide) rfl q179 (rfl : 62 + 3 = 65) (xdt tt_X9_copyFrom 34 rfl) ?_
  obtain ⟨S5, hS5, h⟩ := lt1_i h
  refine g_putI hC hk0 kclX9 ly1_14 4 (by decide) rfl rfl rfl q179 hS5 (rfl : 65 + 3 = 68) (xdt tt_X9_copyFrom 35 rfl) ?_
  cases h
  exact g_vret hC hE (xdt tt_X9_copyFrom 36 rfl)
def f_X0_copyFrom_p1_0_1_0 (S : xSt) (r0 : Nat) (r1 : Nat) : Option (xSt) :=
  ckP S r1 0 0 2 0 fun rg1 =>
  lt1 (wP S r0 0 0 (rg1, 0)) fun S2 =>
  lt1 (wA S2 r0 1 (cpI (S2.2.1 r1 1) (S2.2.1 r0 1) (wr 0).toNat (wr 0).toNat (wr 6).toNat)) fun S3 =>
  bd (f_X8_copyFrom_p1_2_1_2 S3 r0 r1) fun S5 =>
  bd (f_X6_copyFrom_p1_5_1_5 S5 r0 r1) fun S7 =>
  bd (f_X7_copyFrom_p1_8_1_8 S7 r0 r1) fun S9 =>
  bd (f_X10_copyFrom_p1_9_1_9 S9 r0 r1) fun S11 =>
  bd (f_X4_copyFrom_p1_11_1_11 S11 r0 r1) fun S13 =>
  bd (f_X9_copyFrom_p1_14_1_14 S13 r0 r1) fun S15 =>
  lt1 (wA S15 r0 19 (cpI (S15.2.1 r1 19) (S15.2.1 r0 19) (wr 0).toNat (wr 0).toNat (wr 60).toNat)) fun S16 =>
  lt1 (wI S16 r0 0 9 (gI S16 r1 0 9)) fun S17 =>
  lt1 (wI S17 r0 0 10 (gI S17 r1 0 10)) fun S18 =>
  ckB (gI S18 r1 0 11) <|
  lt1 (wI S18 r0 0 11 (gI S18 r1 0 11)) fun S20 =>
  lt1 (wI S20 r0 0 12 (gI S20 r1 0 12)) fun S21 =>
  ckB (gI S21 r1 0 13) <|
  lt1 (wI S21 r0 0 13 (gI S21 r1 0 13)) fun S23 =>
  lt1 (wI S23 r0 0 14 (gI S23 r1 0 14)) fun S24 =>
  lt1 (wI S24 r0 0 15 (gI S24 r1 0 15)) fun S25 =>
  lt1 (wI S25 r0 0 16 (gI S25 r1 0 16)) fun S26 =>
  lt1 (wI S26 r0 0 17 (gI S26 r1 0 17)) fun S27 =>
  some S27
set_option maxRecDepth 100000 in
set_option maxHeartbeats 4000000 in
theorem c_X0_copyFrom_p1_0_1_0 (l : Launch) {E : xE} {S S' : xSt} {r0 : Nat} {r1 : Nat} (hk0 : xkd E r0 = 1) (hk1 : xkd E r1 = 1) (h : f_X0_copyFrom_p1_0_1_0 S r0 r1 = some S') : Met l yX0_copyFrom (xws yX0_copyFrom cX0_copyFrom 2 none) (rmD 4) (YPc E [vr E r0 0, vr E r1 0] S) (YQv E S') 0 0 (xA E) := by
  unfold f_X0_copyFrom_p1_0_1_0 at h
  refine met_v (by decide +kernel) (Nat.le_of_ble_eq_true rfl) (fun K hC hZ hE => ?_)
  have hC : xOK K cX0_copyFrom RX0 2 (rmE 4 0) := hC
  show WG K E 0 [(0, vr E r0 0), (1, vr E r1 0)] [] S
  refine g_aload_n hC rfl 0 rfl (rfl : 0 + 1 = 1) (xdt tt_X0_copyFrom 0 rfl) ?_
  refine g_aload_n hC rfl 1 rfl (rfl : 1 + 1 = 2) (xdt tt_X0_copyFrom 1 rfl) ?_
  obtain ⟨rg1, hrg1, grg1, h⟩ := ckP_i h
  refine g_getV hC hk1 kclX0 ly1_0 0 (by decide) rfl hrg1 grg1 (by decide) q142 (rfl : 2 + 3 = 5) (xdt tt_X0_copyFrom 2 rfl) (fun krg1 => ?_)
  obtain ⟨S2, hS2, h⟩ := lt1_i h
  refine g_putV hC hk0 kclX0 ly1_0 0 (by decide) rfl rfl q142 (fun _ => rfl) (fun _ => rfl) (by decide) hS2 (rfl : 5 + 3 = 8) (xdt tt_X0_copyFrom 3 rfl) ?_
  refine g_aload_n hC rfl 1 rfl (rfl : 8 + 1 = 9) (xdt tt_X0_copyFrom 4 rfl) ?_
  refine g_getP hC hk1 kclX0 ly1_0 1 (by decide) (rfl : r1 + 0 = r1) rfl q92 (rfl : 9 + 3 = 12) (xdt tt_X0_copyFrom 5 rfl) ?_
  refine g_iconst hC (rfl : 12 + 1 = 13) (xdt tt_X0_copyFrom 6 rfl) ?_
  refine g_aload_n hC rfl 0 rfl (rfl : 13 + 1 = 14) (xdt tt_X0_copyFrom 7 rfl) ?_
  refine g_getP hC hk0 kclX0 ly1_0 1 (by decide) (rfl : r0 + 0 = r0) rfl q92 (rfl : 14 + 3 = 17) (xdt tt_X0_copyFrom 8 rfl) ?_
  refine g_iconst hC (rfl : 17 + 1 = 18) (xdt tt_X0_copyFrom 9 rfl) ?_
  refine g_bipush hC (by decide) (rfl : 18 + 2 = 20) (xdt tt_X0_copyFrom 10 rfl) ?_
  obtain ⟨S3, hS3, h⟩ := lt1_i h
  refine g_copy hC hk1 hk0 ly1_1 ly1_1 rfl (by decide) (by decide) q144 q78 q79 q80 (Nat.le_of_ble_eq_true rfl) (Nat.le_of_ble_eq_true rfl) hS3 (rfl : 20 + 3 = 23) (xdt tt_X0_copyFrom 11 rfl) ?_
  refine g_aload_n hC rfl 0 rfl (rfl : 23 + 1 = 24) (xdt tt_X0_copyFrom 12 rfl) ?_
  refine g_getP hC hk0 kclX0 ly1_0 2 (by decide) (rfl : r0 + 0 = r0) rfl q94 (rfl : 24 + 3 = 27) (xdt tt_X0_copyFrom 13 rfl) ?_
  refine g_aload_n hC rfl 1 rfl (rfl : 27 + 1 = 28) (xdt tt_X0_copyFrom 14 rfl) ?_
  refine g_getP hC hk1 kclX0 ly1_0 2 (by decide) (rfl : r1 + 0 = r1) rfl q94 (rfl : 28 + 3 = 31) (xdt tt_X0_copyFrom 15 rfl) ?_
  obtain ⟨S5, hc4, h⟩ := bd_i h
  refine g_callVv hC hZ hk0 kclX8 ly1_2 m_X8_copyFrom q158 (Nat.le_of_ble_eq_true rfl) [vr E r1 2] rfl (fun l => c_X8_copyFrom_p1_2_1_2 l hk0 hk1 hc4) rfl (Nat.le_of_ble_eq_true rfl) (rfl : 31 + 3 = 34) (xdt tt_X0_copyFrom 16 rfl) ?_
  refine g_aload_n hC rfl 0 rfl (rfl : 34 + 1 = 35) (xdt tt_X0_copyFrom 17 rfl) ?_
  refine g_getP hC hk0 kclX0 ly1_0 3 (by decide) (rfl : r0 + 0 = r0) rfl q98 (rfl : 35 + 3 = 38) (xdt tt_X0_copyFrom 18 rfl) ?_
  refine g_aload_n hC rfl 1 rfl (rfl : 38 + 1 = 39) (xdt tt_X0_copyFrom 19 rfl) ?_
  refine g_getP hC hk1 kclX0 ly1_0 3 (by decide) (rfl : r1 + 0 = r1) rfl q98 (rfl : 39 + 3 = 42) (xdt tt_X0_copyFrom 20 rfl) ?_
  obtain ⟨S7, hc6, h⟩ := bd_i h
  refine g_callVv hC hZ hk0 kclX6 ly1_5 m_X6_copyFrom q643 (Nat.le_of_ble_eq_true rfl) [vr E r1 5] rfl (fun l => c_X6_copyFrom_p1_5_1_5 l hk0 hk1 hc6) rfl (Nat.le_of_ble_eq_true rfl) (rfl : 42 + 3 = 45) (xdt tt_X0_copyFrom 21 rfl) ?_
  refine g_aload_n hC rfl 0 rfl (rfl : 45 + 1 = 46) (xdt tt_X0_copyFrom 22 rfl) ?_
  refine g_getP hC hk0 kclX0 ly1_0 4 (by decide) (rfl : r0 + 0 = r0) rfl q102 (rfl : 46 + 3 = 49) (xdt tt_X0_copyFrom 23 rfl) ?_
  refine g_aload_n hC rfl 1 rfl (rfl : 49 + 1 = 50) (xdt tt_X0_copyFrom 24 rfl) ?_
  refine g_getP hC hk1 kclX0 ly1_0 4 (by decide) (rfl : r1 + 0 = r1) rfl q102 (rfl : 50 + 3 = 53) (xdt tt_X0_copyFrom 25 rfl) ?_
  obtain ⟨S9, hc8, h⟩ := bd_i h
  refine g_callVv hC hZ hk0 kclX7 ly1_8 m_X7_copyFrom q649 (Nat.le_of_ble_eq_true rfl) [vr E r1 8] rfl (fun l => c_X7_copyFrom_p1_8_1_8 l hk0 hk1 hc8) rfl (Nat.le_of_ble_eq_true rfl) (rfl : 53 + 3 = 56) (xdt tt_X0_copyFrom 26 rfl) ?_
  refine g_aload_n hC rfl 0 rfl (rfl : 56 + 1 = 57) (xdt tt_X0_copyFrom 27 rfl) ?_
  refine g_getP hC hk0 kclX0 ly1_0 5 (by decide) (rfl : r0 + 0 = r0) rfl q106 (rfl : 57 + 3 = 60) (xdt tt_X0_copyFrom 28 rfl) ?_
  refine g_aload_n hC rfl 1 rfl (rfl : 60 + 1 = 61) (xdt tt_X0_copyFrom 29 rfl) ?_
  refine g_getP hC hk1 kclX0 ly1_0 5 (by decide) (rfl : r1 + 0 = r1) rfl q106 (rfl : 61 + 3 = 64) (xdt tt_X0_copyFrom 30 rfl) ?_
  obtain ⟨S11, hc10, h⟩ := bd_i h
  refine g_callVv hC hZ hk0 kclX10 ly1_9 m_X10_copyFrom q658 (Nat.le_of_ble_eq_true rfl) [vr E r1 9] rfl (fun l => c_X10_copyFrom_p1_9_1_9 l hk0 hk1 hc10) rfl (Nat.le_of_ble_eq_true rfl) (rfl : 64 + 3 = 67) (xdt tt_X0_copyFrom 31 rfl) ?_
  refine g_aload_n hC rfl 0 rfl (rfl : 67 + 1 = 68) (xdt tt_X0_copyFrom 32 rfl) ?_
  refine g_getP hC hk0 kclX0 ly1_0 6 (by decide) (rfl : r0 + 0 = r0) rfl q108 (rfl : 68 + 3 = 71) (xdt tt_X0_copyFrom 33 rfl) ?_
  refine g_aload_n hC rfl 1 rfl (rfl : 71 + 1 = 72) (xdt tt_X0_copyFrom 34 rfl) ?_
  refine g_getP hC hk1 kclX0 ly1_0 6 (by decide) (rfl : r1 + 0 = r1) rfl q108 (rfl : 72 + 3 = 75) (xdt tt_X0_copyFrom 35 rfl) ?_
  obtain ⟨S13, hc12, h⟩ := bd_i h
  refine g_callVv hC hZ hk0 kclX4 ly1_11 m_X4_copyFrom q663 (Nat.le_of_ble_eq_true rfl) [vr E r1 11] rfl (fun l => c_X4_copyFrom_p1_11_1_11 l hk0 hk1 hc12) rfl (Nat.le_of_ble_eq_true rfl) (rfl : 75 + 3 = 78) (xdt tt_X0_copyFrom 36 rfl) ?_
  refine g_aload_n hC rfl 0 rfl (rfl : 78 + 1 = 79) (xdt tt_X0_copyFrom 37 rfl) ?_
  refine g_getP hC hk0 kclX0 ly1_0 7 (by decide) (rfl : r0 + 0 = r0) rfl q112 (rfl : 79 + 3 = 82) (xdt tt_X0_copyFrom 38 rfl) ?_
  refine g_aload_n hC rfl 1 rfl (rfl : 82 + 1 = 83) (xdt tt_X0_copyFrom 39 rfl) ?_
  refine g_getP hC hk1 kclX0 ly1_0 7 (by decide) (rfl : r1 + 0 = r1) rfl q112 (rfl : 83 + 3 = 86) (xdt tt_X0_copyFrom 40 rfl) ?_
  obtain ⟨S15, hc14, h⟩ := bd_i h
  refine g_callVv hC hZ hk0 kclX9 ly1_14 m_X9_copyFrom q668 (Nat.le_of_ble_eq_true rfl) [vr E r1 14] rfl (fun l => c_X9_copyFrom_p1_14_1_14 l hk0 hk1 hc14) rfl (Nat.le_of_ble_eq_true rfl) (rfl : 86 + 3 = 89) (xdt tt_X0_copyFrom 41 rfl) ?_
  refine g_aload_n hC rfl 1 rfl (rfl : 89 + 1 = 90) (xdt tt_X0_copyFrom 42 rfl) ?_
  refine g_getP hC hk1 kclX0 ly1_0 8 (by decide) (rfl : r1 + 0 = r1) rfl q113 (rfl : 90 + 3 = 93) (xdt tt_X0_copyFrom 43 rfl) ?_
  refine g_iconst hC (rfl : 93 + 1 = 94) (xdt tt_X0_copyFrom 44 rfl) ?_
  refine g_aload_n hC rfl 0 rfl (rfl : 94 + 1 = 95) (xdt tt_X0_copyFrom 45 rfl) ?_
  refine g_getP hC hk0 kclX0 ly1_0 8 (by decide) (rfl : r0 + 0 = r0) rfl q113 (rfl : 95 + 3 = 98) (xdt tt_X0_copyFrom 46 rfl) ?_
  refine g_iconst hC (rfl : 98 + 1 = 99) (xdt tt_X0_copyFrom 47 rfl) ?_
  refine g_bipush hC (by decide) (rfl : 99 + 2 = 101) (xdt tt_X0_copyFrom 48 rfl) ?_
  obtain ⟨S16, hS16, h⟩ := lt1_i h
  refine g_copy hC hk1 hk0 ly1_19 ly1_19 rfl (by decide) (by decide) q144 q78 q79 q80 (Nat.le_of_ble_eq_true rfl) (Nat.le_of_ble_eq_true rfl) hS16 (rfl : 101 + 3 = 104) (xdt tt_X0_copyFrom 49 rfl) ?_
  refine g_aload_n hC rfl 0 rfl (rfl : 104 + 1 = 105) (xdt tt_X0_copyFrom 50 rfl) ?_
  refine g_aload_n hC rfl 1 rfl (rfl : 105 + 1 = 106) (xdt tt_X0_copyFrom 51 rfl) ?_
  refine g_getI hC hk1 kclX0 ly1_0 9 (by decide) rfl q149 (rfl : 106 + 3 = 109) (xdt tt_X0_copyFrom 52 rfl) ?_
  obtain ⟨S17, hS17, h⟩ := lt1_i h
  refine g_putI hC hk0 kclX0 ly1_0 9 (by decide) rfl rfl rfl q149 hS17 (rfl : 109 + 3 = 112) (xdt tt_X0_copyFrom 53 rfl) ?_
  refine g_aload_n hC rfl 0 rfl (rfl : 112 + 1 = 113) (xdt tt_X0_copyFrom 54 rfl) ?_
  refine g_aload_n hC rfl 1 rfl (rfl : 113 + 1 = 114) (xdt tt_X0_copyFrom 55 rfl) ?_
  refine g_getI hC hk1 kclX0 ly1_0 10 (by decide) rfl q150 (rfl : 114 + 3 = 117) (xdt tt_X0_copyFrom 56 rfl) ?_
  obtain ⟨S18, hS18, h⟩ := lt1_i h
  refine g_putI hC hk0 kclX0 ly1_0 10 (by decide) rfl rfl rfl q150 hS18 (rfl : 117 + 3 = 120) (xdt tt_X0_copyFrom 57 rfl) ?_
  refine g_aload_n hC rfl 0 rfl (rfl : 120 + 1 = 121) (xdt tt_X0_copyFrom 58 rfl) ?_
  refine g_aload_n hC rfl 1 rfl (rfl : 121 + 1 = 122) (xdt tt_X0_copyFrom 59 rfl) ?_
  refine g_getI hC hk1 kclX0 ly1_0 11 (by decide) rfl q151 (rfl : 122 + 3 = 125) (xdt tt_X0_copyFrom 60 rfl) ?_
  obtain ⟨hb19, h⟩ := ckB_i h
  obtain ⟨S20, hS20, h⟩ := lt1_i h
  refine g_putZ hC hk0 kclX0 ly1_0 11 (by decide) rfl rfl rfl q151 hb19 hS20 (rfl : 125 + 3 = 128) (xdt tt_X0_copyFrom 61 rfl) ?_
  refine g_aload_n hC rfl 0 rfl (rfl : 128 + 1 = 129) (xdt tt_X0_copyFrom 62 rfl) ?_
  refine g_aload_n hC rfl 1 rfl (rfl : 129 + 1 = 130) (xdt tt_X0_copyFrom 63 rfl) ?_
  refine g_getI hC hk1 kclX0 ly1_0 12 (by decide) rfl q152 (rfl : 130 + 3 = 133) (xdt tt_X0_copyFrom 64 rfl) ?_
  obtain ⟨S21, hS21, h⟩ := lt1_i h
  refine g_putI hC hk0 kclX0 ly1_0 12 (by decide) rfl rfl rfl q152 hS21 (rfl : 133 + 3 = 136) (xdt tt_X0_copyFrom 65 rfl) ?_
  refine g_aload_n hC rfl 0 rfl (rfl : 136 + 1 = 137) (xdt tt_X0_copyFrom 66 rfl) ?_
  refine g_aload_n hC rfl 1 rfl (rfl : 137 + 1 = 138) (xdt tt_X0_copyFrom 67 rfl) ?_
  refine g_getI hC hk1 kclX0 ly1_0 13 (by decide) rfl q153 (rfl : 138 + 3 = 141) (xdt tt_X0_copyFrom 68 rfl) ?_
  obtain ⟨hb22, h⟩ := ckB_i h
  obtain ⟨S23, hS23, h⟩ := lt1_i h
  refine g_putZ hC hk0 kclX0 ly1_0 13 (by decide) rfl rfl rfl q153 hb22 hS23 (rfl : 141 + 3 = 144) (xdt tt_X0_copyFrom 69 rfl) ?_
  refine g_aload_n hC rfl 0 rfl (rfl : 144 + 1 = 145) (xdt tt_X0_copyFrom 70 rfl) ?_
  refine g_aload_n hC rfl 1 rfl (rfl : 145 + 1 = 146) (xdt tt_X0_copyFrom 71 rfl) ?_
  refine g_getI hC hk1 kclX0 ly1_0 14 (by decide) rfl q154 (rfl : 146 + 3 = 149) (xdt tt_X0_copyFrom 72 rfl) ?_
  obtain ⟨S24, hS24, h⟩ := lt1_i h
  refine g_putI hC hk0 kclX0 ly1_0 14 (by decide) rfl rfl rfl q154 hS24 (rfl : 149 + 3 = 152) (xdt tt_X0_copyFrom 73 rfl) ?_
  refine g_aload_n hC rfl 0 rfl (rfl : 152 + 1 = 153) (xdt tt_X0_copyFrom 74 rfl) ?_
  refine g_aload_n hC rfl 1 rfl (rfl : 153 + 1 = 154) (xdt tt_X0_copyFrom 75 rfl) ?_
  refine g_getI hC hk1 kclX0 ly1_0 15 (by decide) rfl q155 (rfl : 154 + 3 = 157) (xdt tt_X0_copyFrom 76 rfl) ?_
  obtain ⟨S25, hS25, h⟩ := lt1_i h
  refine g_putI hC hk0 kclX0 ly1_0 15 (by decide) rfl rfl rfl q155 hS25 (rfl : 157 + 3 = 160) (xdt tt_X0_copyFrom 77 rfl) ?_
  refine g_aload_n hC rfl 0 rfl (rfl : 160 + 1 = 161) (xdt tt_X0_copyFrom 78 rfl) ?_
  refine g_aload_n hC rfl 1 rfl (rfl : 161 + 1 = 162) (xdt tt_X0_copyFrom 79 rfl) ?_
  refine g_getI hC hk1 kclX0 ly1_0 16 (by decide) rfl q156 (rfl : 162 + 3 = 165) (xdt tt_X0_copyFrom 80 rfl) ?_
  obtain ⟨S26, hS26, h⟩ := lt1_i h
  refine g_putI hC hk0 kclX0 ly1_0 16 (by decide) rfl rfl rfl q156 hS26 (rfl : 165 + 3 = 168) (xdt tt_X0_copyFrom 81 rfl) ?_
  refine g_aload_n hC rfl 0 rfl (rfl : 168 + 1 = 169) (xdt tt_X0_copyFrom 82 rfl) ?_
  refine g_aload_n hC rfl 1 rfl (rfl : 169 + 1 = 170) (xdt tt_X0_copyFrom 83 rfl) ?_
  refine g_getI hC hk1 kclX0 ly1_0 17 (by decide) rfl q157 (rfl : 170 + 3 = 173) (xdt tt_X0_copyFrom 84 rfl) ?_
  obtain ⟨S27, hS27, h⟩ := lt1_i h
  refine g_putI hC hk0 kclX0 ly1_0 17 (by decide) rfl rfl rfl q157 hS27 (rfl : 173 + 3 = 176) (xdt tt_X0_copyFrom 85 rfl) ?_
  cases h
  exact g_vret hC hE (xdt tt_X0_copyFrom 86 rfl)
def f_X1_remember_p3_8_1_0 (S : xSt) (r0 : Nat) (r1 : Nat) : Option (xSt) :=
  if wr (Int.tmod (wr ((gI S r0 8 1) + (gI S r0 8 2))) (wr 6)) < 0 then
    (some S)
  else
    (if wr (Int.tmod (wr ((gI S r0 8 1) + (gI S r0 8 2))) (wr 6)) < wr 6 then
      (ckI (Int.tmod (wr ((gI S r0 8 1) + (gI S r0 8 2))) (wr 6)) 6 <|
      bd (f_X0_copyFrom_p1_0_1_0 S (r0 + (4 + (wr (Int.tmod (wr ((gI S r0 8 1) + (gI S r0 8 2))) (wr 6))).toNat)) r1) fun S3 =>
      if wr 6 ≤ wr (gI S3 r0 8 2) then
        (lt1 (wI S3 r0 8 1 (Int.tmod (wr ((gI S3 r0 8 1) + 1)) (wr 6))) fun S4 =>
        some S4)
      else
        (lt1 (wI S3 r0 8 2 ((gI S3 r0 8 2) + 1)) fun S5 =>
        some S5))
    else
      (some S))
set_option maxRecDepth 100000 in
set_option maxHeartbeats 4000000 in
theorem c_X1_remember_p3_8_1_0 (l : Launch) {E : xE} {S S' : xSt} {r0 : Nat} {r1 : Nat} (hk0 : xkd E r0 = 3) (hA0 : xFam E r0) (hk1 : xkd E r1 = 1) (h : f_X1_remember_p3_8_1_0 S r0 r1 = some S') : Met l yX1_remember (xws yX1_remember cX1_remember 3 none) (rmD 5) (YPc E [vr E r0 8, vr E r1 0] S) (YQv E S') 0 0 (xA E) := by
  unfold f_X1_remember_p3_8_1_0 at h
  refine met_v (by decide +kernel) (Nat.le_of_ble_eq_true rfl) (fun K hC hZ hE => ?_)
  have hC : xOK K cX1_remember RX1 3 (rmE 5 0) := hC
  show WG K E 0 [(0, vr E r0 8), (1, vr E r1 0)] [] S
  refine g_aload_n hC rfl 0 rfl (rfl : 0 + 1 = 1) (xdt tt_X1_remember 0 rfl) ?_
  refine g_getI hC hk0 kclX1 ly3_8 1 (by decide) rfl q638 (rfl : 1 + 3 = 4) (xdt tt_X1_remember 1 rfl) ?_
  refine g_aload_n hC rfl 0 rfl (rfl : 4 + 1 = 5) (xdt tt_X1_remember 2 rfl) ?_
  refine g_getI hC hk0 kclX1 ly3_8 2 (by decide) rfl q623 (rfl : 5 + 3 = 8) (xdt tt_X1_remember 3 rfl) ?_
  refine g_iadd hC (rfl : 8 + 1 = 9) (xdt tt_X1_remember 4 rfl) ?_
  refine g_bipush hC (by decide) (rfl : 9 + 2 = 11) (xdt tt_X1_remember 5 rfl) ?_
  refine g_irem hC (by decide) (rfl : 11 + 1 = 12) (xdt tt_X1_remember 6 rfl) ?_
  refine g_istore_n hC rfl (by decide) (lv' := [(2, vi (Int.tmod (wr ((gI S r0 8 1) + (gI S r0 8 2))) (wr 6))), (0, vr E r0 8), (1, vr E r1 0)]) rfl (rfl : 12 + 1 = 13) (xdt tt_X1_remember 7 rfl) ?_
  refine g_iload_n hC rfl 0 rfl (rfl : 13 + 1 = 14) (xdt tt_X1_remember 8 rfl) ?_
  refine g_if_lt hC (show ((14 : Nat) : Int) + 12 = ((26 : Nat) : Int) by decide) (rfl : 14 + 3 = 17) (xdt tt_X1_remember 9 rfl) (fun hc8 => ?_) (fun hc8 => ?_)
  · replace h := (if_pos hc8).symm.trans h
    cases h
    exact g_vret hC hE (xdt tt_X1_remember 15 rfl)
  · replace h := (if_neg hc8).symm.trans h
    refine g_iload_n hC rfl 0 rfl (rfl : 17 + 1 = 18) (xdt tt_X1_remember 10 rfl) ?_
    refine g_aload_n hC rfl 1 rfl (rfl : 18 + 1 = 19) (xdt tt_X1_remember 11 rfl) ?_
    refine g_getP hC hk0 kclX1 ly3_8 0 (by decide) (rfl : r0 + 0 = r0) rfl q186 (rfl : 19 + 3 = 22) (xdt tt_X1_remember 12 rfl) ?_
    refine g_alenR hC hk0 ly3_9 (z := 6) (by decide) (rfl : 22 + 1 = 23) (xdt tt_X1_remember 13 rfl) ?_
    refine g_icmp_lt hC (show ((23 : Nat) : Int) + 4 = ((27 : Nat) : Int) by decide) (rfl : 23 + 3 = 26) (xdt tt_X1_remember 14 rfl) (fun hc7 => ?_) (fun hc7 => ?_)
    · replace h := (if_pos hc7).symm.trans h
      refine g_aload_n hC rfl 1 rfl (rfl : 27 + 1 = 28) (xdt tt_X1_remember 16 rfl) ?_
      refine g_getP hC hk0 kclX1 ly3_8 0 (by decide) (rfl : r0 + 0 = r0) rfl q186 (rfl : 28 + 3 = 31) (xdt tt_X1_remember 17 rfl) ?_
      refine g_iload_n hC rfl 0 rfl (rfl : 31 + 1 = 32) (xdt tt_X1_remember 18 rfl) ?_
      obtain ⟨hi1, h⟩ := ckI_i h
      refine g_aald hC hk0 ly3_9 rfl hi1 (xhist hi1) (rfl : _ = (r0 + (4 + (wr (Int.tmod (wr ((gI S r0 8 1) + (gI S r0 8 2))) (wr 6))).toNat))) (rfl : 32 + 1 = 33) (xdt tt_X1_remember 19 rfl) ?_
      refine g_aload_n hC rfl 2 rfl (rfl : 33 + 1 = 34) (xdt tt_X1_remember 20 rfl) ?_
      obtain ⟨S3, hc2, h⟩ := bd_i h
      refine g_callVv hC hZ (hA0 (4 + (wr (Int.tmod (wr ((gI S r0 8 1) + (gI S r0 8 2))) (wr 6))).toNat) (by omega) (by omega)) kclX0 ly1_0 m_X0_copyFrom q639 (Nat.le_of_ble_eq_true rfl) [vr E r1 0] rfl (fun l => c_X0_copyFrom_p1_0_1_0 l (hA0 (4 + (wr (Int.tmod (wr ((gI S r0 8 1) + (gI S r0 8 2))) (wr 6))).toNat) (by omega) (by omega)) hk1 hc2) rfl (Nat.le_of_ble_eq_true rfl) (rfl : 34 + 3 = 37) (xdt tt_X1_remember 21 rfl) ?_
      refine g_aload_n hC rfl 1 rfl (rfl : 37 + 1 = 38) (xdt tt_X1_remember 22 rfl) ?_
      refine g_getI hC hk0 kclX1 ly3_8 2 (by decide) rfl q623 (rfl : 38 + 3 = 41) (xdt tt_X1_remember 23 rfl) ?_
      refine g_bipush hC (by decide) (rfl : 41 + 2 = 43) (xdt tt_X1_remember 24 rfl) ?_
      refine g_icmp_ge hC (show ((43 : Nat) : Int) + 16 = ((59 : Nat) : Int) by decide) (rfl : 43 + 3 = 46) (xdt tt_X1_remember 25 rfl) (fun hc6 => ?_) (fun hc6 => ?_)
      · replace h := (if_pos hc6).symm.trans h
        refine g_aload_n hC rfl 1 rfl (rfl : 59 + 1 = 60) (xdt tt_X1_remember 33 rfl) ?_
        refine g_aload_n hC rfl 1 rfl (rfl : 60 + 1 = 61) (xdt tt_X1_remember 34 rfl) ?_
        refine g_getI hC hk0 kclX1 ly3_8 1 (by decide) rfl q638 (rfl : 61 + 3 = 64) (xdt tt_X1_remember 35 rfl) ?_
        refine g_iconst hC (rfl : 64 + 1 = 65) (xdt tt_X1_remember 36 rfl) ?_
        refine g_iadd hC (rfl : 65 + 1 = 66) (xdt tt_X1_remember 37 rfl) ?_
        refine g_bipush hC (by decide) (rfl : 66 + 2 = 68) (xdt tt_X1_remember 38 rfl) ?_
        refine g_irem hC (by decide) (rfl : 68 + 1 = 69) (xdt tt_X1_remember 39 rfl) ?_
        obtain ⟨S4, hS4, h⟩ := lt1_i h
        refine g_putI hC hk0 kclX1 ly3_8 1 (by decide) rfl rfl rfl q638 hS4 (rfl : 69 + 3 = 72) (xdt tt_X1_remember 40 rfl) ?_
        cases h
        exact g_vret hC hE (xdt tt_X1_remember 41 rfl)
      · replace h := (if_neg hc6).symm.trans h
        refine g_aload_n hC rfl 1 rfl (rfl : 46 + 1 = 47) (xdt tt_X1_remember 26 rfl) ?_
        refine g_dup hC rfl (rfl : 47 + 1 = 48) (xdt tt_X1_remember 27 rfl) ?_
        refine g_getI hC hk0 kclX1 ly3_8 2 (by decide) rfl q623 (rfl : 48 + 3 = 51) (xdt tt_X1_remember 28 rfl) ?_
        refine g_iconst hC (rfl : 51 + 1 = 52) (xdt tt_X1_remember 29 rfl) ?_
        refine g_iadd hC (rfl : 52 + 1 = 53) (xdt tt_X1_remember 30 rfl) ?_
        obtain ⟨S5, hS5, h⟩ := lt1_i h
        refine g_putI hC hk0 kclX1 ly3_8 2 (by decide) rfl rfl rfl q623 hS5 (rfl : 53 + 3 = 56) (xdt tt_X1_remember 31 rfl) ?_
        refine g_goto hC (show ((56 : Nat) : Int) + 16 = ((72 : Nat) : Int) by decide) (xdt tt_X1_remember 32 rfl) ?_
        cases h
        exact g_vret hC hE (xdt tt_X1_remember 41 rfl)
    · replace h := (if_neg hc7).symm.trans h
      cases h
      exact g_vret hC hE (xdt tt_X1_remember 15 rfl)
def f_X0_takeOps_p1_0 (S : xSt) (r0 : Nat) : Option (xSt) :=
  if wr (gI S r0 0 17) ≤ 0 then
    (lt1 (wI S r0 0 14 ((gI S r0 0 14) - (iMin (gI S r0 1 4) (gI S r0 0 14)))) fun S1 =>
    some S1)
  else
    (lt1 (wI S r0 0 17 ((gI S r0 0 17) - 1)) fun S2 =>
    some S2)
set_option maxRecDepth 100000 in
set_option maxHeartbeats 4000000 in
theorem c_X0_takeOps_p1_0 (l : Launch) {E : xE} {S S' : xSt} {r0 : Nat} (hk0 : xkd E r0 = 1) (h : f_X0_takeOps_p1_0 S r0 = some S') : Met l yX0_takeOps (xws yX0_takeOps cX0_takeOps 1 none) (rmD 1) (YPc E [vr E r0 0] S) (YQv E S') 0 0 (xA E) := by
  unfold f_X0_takeOps_p1_0 at h
  refine met_v (by decide +kernel) (Nat.le_of_ble_eq_true rfl) (fun K hC hZ hE => ?_)
  have hC : xOK K cX0_takeOps RX0 1 (rmE 1 0) := hC
  show WG K E 0 [(0, vr E r0 0)] [] S
  refine g_aload_n hC rfl 0 rfl (rfl : 0 + 1 = 1) (xdt tt_X0_takeOps 0 rfl) ?_
  refine g_getI hC hk0 kclX0 ly1_0 17 (by decide) rfl q157 (rfl : 1 + 3 = 4) (xdt tt_X0_takeOps 1 rfl) ?_
  refine g_if_le hC (show ((4 : Nat) : Int) + 16 = ((20 : Nat) : Int) by decide) (rfl : 4 + 3 = 7) (xdt tt_X0_takeOps 2 rfl) (fun hc3 => ?_) (fun hc3 => ?_)
  · replace h := (if_pos hc3).symm.trans h
    refine g_aload_n hC rfl 0 rfl (rfl : 20 + 1 = 21) (xdt tt_X0_takeOps 10 rfl) ?_
    refine g_dup hC rfl (rfl : 21 + 1 = 22) (xdt tt_X0_takeOps 11 rfl) ?_
    refine g_getI hC hk0 kclX0 ly1_0 14 (by decide) rfl q154 (rfl : 22 + 3 = 25) (xdt tt_X0_takeOps 12 rfl) ?_
    refine g_aload_n hC rfl 0 rfl (rfl : 25 + 1 = 26) (xdt tt_X0_takeOps 13 rfl) ?_
    refine g_getP hC hk0 kclX0 ly1_0 1 (by decide) (rfl : r0 + 0 = r0) rfl q92 (rfl : 26 + 3 = 29) (xdt tt_X0_takeOps 14 rfl) ?_
    refine g_iconst hC (rfl : 29 + 1 = 30) (xdt tt_X0_takeOps 15 rfl) ?_
    refine g_iald hC hk0 ly1_1 (by decide) (rfl : 30 + 1 = 31) (xdt tt_X0_takeOps 16 rfl) (k0 := 4) (by decide) ?_
    refine g_aload_n hC rfl 0 rfl (rfl : 31 + 1 = 32) (xdt tt_X0_takeOps 17 rfl) ?_
    refine g_getI hC hk0 kclX0 ly1_0 14 (by decide) rfl q154 (rfl : 32 + 3 = 35) (xdt tt_X0_takeOps 18 rfl) ?_
    refine g_mmin hC hZ q694 q259 q243 q260 (Nat.le_of_ble_eq_true rfl) (Nat.le_of_ble_eq_true rfl) (rfl : 35 + 3 = 38) (xdt tt_X0_takeOps 19 rfl) ?_
    refine g_isub hC (rfl : 38 + 1 = 39) (xdt tt_X0_takeOps 20 rfl) ?_
    obtain ⟨S1, hS1, h⟩ := lt1_i h
    refine g_putI hC hk0 kclX0 ly1_0 14 (by decide) rfl rfl rfl q154 hS1 (rfl : 39 + 3 = 42) (xdt tt_X0_takeOps 21 rfl) ?_
    cases h
    exact g_vret hC hE (xdt tt_X0_takeOps 22 rfl)
  · replace h := (if_neg hc3).symm.trans h
    refine g_aload_n hC rfl 0 rfl (rfl : 7 + 1 = 8) (xdt tt_X0_takeOps 3 rfl) ?_
    refine g_dup hC rfl (rfl : 8 + 1 = 9) (xdt tt_X0_takeOps 4 rfl) ?_
    refine g_getI hC hk0 kclX0 ly1_0 17 (by decide) rfl q157 (rfl : 9 + 3 = 12) (xdt tt_X0_takeOps 5 rfl) ?_
    refine g_iconst hC (rfl : 12 + 1 = 13) (xdt tt_X0_takeOps 6 rfl) ?_
    refine g_isub hC (rfl : 13 + 1 = 14) (xdt tt_X0_takeOps 7 rfl) ?_
    obtain ⟨S2, hS2, h⟩ := lt1_i h
    refine g_putI hC hk0 kclX0 ly1_0 17 (by decide) rfl rfl rfl q157 hS2 (rfl : 14 + 3 = 17) (xdt tt_X0_takeOps 8 rfl) ?_
    refine g_goto hC (show ((17 : Nat) : Int) + 25 = ((42 : Nat) : Int) by decide) (xdt tt_X0_takeOps 9 rfl) ?_
    cases h
    exact g_vret hC hE (xdt tt_X0_takeOps 22 rfl)
def f_X9_addUnused_p1_14 (S : xSt) (r0 : Nat) (a1 : Int) (a2 : Int) : Option (xSt) :=
  if wr a1 < wr 1 then
    (some S)
  else
    (if wr 8 < wr a1 then
      (some S)
    else
      (ckI a1 9 <|
      ckI a1 9 <|
      lt1 (wI S r0 16 (wr a1).toNat ((gI S r0 16 (wr a1).toNat) + a2)) fun S3 =>
      some S3))
set_option maxRecDepth 100000 in
set_option maxHeartbeats 4000000 in
theorem c_X9_addUnused_p1_14 (l : Launch) {E : xE} {S S' : xSt} {r0 : Nat} {a1 : Int} {a2 : Int} (hk0 : xkd E r0 = 1) (h : f_X9_addUnused_p1_14 S r0 a1 a2 = some S') : Met l yX9_addUnused (xws yX9_addUnused cX9_addUnused 3 none) (rmD 1) (YPc E [vr E r0 14, vi a1, vi a2] S) (YQv E S') 0 0 (xA E) := by
  unfold f_X9_addUnused_p1_14 at h
  refine met_v (by decide +kernel) (Nat.le_of_ble_eq_true rfl) (fun K hC hZ hE => ?_)
  have hC : xOK K cX9_addUnused RX9 3 (rmE 1 0) := hC
  show WG K E 0 [(0, vr E r0 14), (1, vi a1), (2, vi a2)] [] S
  refine g_iload_n hC rfl 1 rfl (rfl : 0 + 1 = 1) (xdt tt_X9_addUnused 0 rfl) ?_
  refine g_iconst hC (rfl : 1 + 1 = 2) (xdt tt_X9_addUnused 1 rfl) ?_
  refine g_icmp_lt hC (show ((2 : Nat) : Int) + 19 = ((21 : Nat) : Int) by decide) (rfl : 2 + 3 = 5) (xdt tt_X9_addUnused 2 rfl) (fun hc5 => ?_) (fun hc5 => ?_)
  · replace h := (if_pos hc5).symm.trans h
    cases h
    exact g_vret hC hE (xdt tt_X9_addUnused 14 rfl)
  · replace h := (if_neg hc5).symm.trans h
    refine g_iload_n hC rfl 1 rfl (rfl : 5 + 1 = 6) (xdt tt_X9_addUnused 3 rfl) ?_
    refine g_bipush hC (by decide) (rfl : 6 + 2 = 8) (xdt tt_X9_addUnused 4 rfl) ?_
    refine g_icmp_gt hC (show ((8 : Nat) : Int) + 13 = ((21 : Nat) : Int) by decide) (rfl : 8 + 3 = 11) (xdt tt_X9_addUnused 5 rfl) (fun hc4 => ?_) (fun hc4 => ?_)
    · replace h := (if_pos hc4).symm.trans h
      cases h
      exact g_vret hC hE (xdt tt_X9_addUnused 14 rfl)
    · replace h := (if_neg hc4).symm.trans h
      refine g_aload_n hC rfl 0 rfl (rfl : 11 + 1 = 12) (xdt tt_X9_addUnused 6 rfl) ?_
      refine g_getP hC hk0 kclX9 ly1_14 1 (by decide) (rfl : r0 + 0 = r0) rfl q135 (rfl : 12 + 3 = 15) (xdt tt_X9_addUnused 7 rfl) ?_
      refine g_iload_n hC rfl 1 rfl (rfl : 15 + 1 = 16) (xdt tt_X9_addUnused 8 rfl) ?_
      refine g_dup2 hC rfl rfl (rfl : 16 + 1 = 17) (xdt tt_X9_addUnused 9 rfl) ?_
      obtain ⟨hi1, h⟩ := ckI_i h
      refine g_iald hC hk0 ly1_16 hi1 (rfl : 17 + 1 = 18) (xdt tt_X9_addUnused 10 rfl) (k0 := (wr a1).toNat) rfl ?_
      refine g_iload_n hC rfl 2 rfl (rfl : 18 + 1 = 19) (xdt tt_X9_addUnused 11 rfl) ?_
      refine g_iadd hC (rfl : 19 + 1 = 20) (xdt tt_X9_addUnused 12 rfl) ?_
      obtain ⟨hi2, h⟩ := ckI_i h
      obtain ⟨S3, hS3, h⟩ := lt1_i h
      refine g_iast hC hk0 ly1_16 hi2 rfl hS3 (rfl : 20 + 1 = 21) (xdt tt_X9_addUnused 13 rfl) ?_
      cases h
      exact g_vret hC hE (xdt tt_X9_addUnused 14 rfl)
def f_X0_nextNumber_p1_0 (S : xSt) (r0 : Nat) : Option (Int × xSt) :=
  if wr (gI S r0 8 0) = 0 then
    (if wr (gI S r0 5 2) ≤ 0 then
      (some ((-1), S))
    else
      (some ((gI S r0 6 0), S)))
  else
    (some ((gI S r0 8 3), S))
set_option maxRecDepth 100000 in
set_option maxHeartbeats 4000000 in
theorem c_X0_nextNumber_p1_0 (l : Launch) {E : xE} {S S' : xSt} {r0 : Nat} (hk0 : xkd E r0 = 1) {v : Int} (h : f_X0_nextNumber_p1_0 S r0 = some (v, S')) : Met l yX0_nextNumber (xws yX0_nextNumber cX0_nextNumber 1 (some .int)) (rmD 1) (YPc E [vr E r0 0] S) (YQi E v S') 0 0 (xA E) := by
  unfold f_X0_nextNumber_p1_0 at h
  refine met_i (by decide +kernel) (Nat.le_of_ble_eq_true rfl) (fun K hC hZ hE => ?_)
  have hC : xOK K cX0_nextNumber RX0 1 (rmE 1 0) := hC
  show WG K E 0 [(0, vr E r0 0)] [] S
  refine g_aload_n hC rfl 0 rfl (rfl : 0 + 1 = 1) (xdt tt_X0_nextNumber 0 rfl) ?_
  refine g_getP hC hk0 kclX0 ly1_0 4 (by decide) (rfl : r0 + 0 = r0) rfl q102 (rfl : 1 + 3 = 4) (xdt tt_X0_nextNumber 1 rfl) ?_
  refine g_getI hC hk0 kclX7 ly1_8 0 (by decide) rfl q147 (rfl : 4 + 3 = 7) (xdt tt_X0_nextNumber 2 rfl) ?_
  refine g_if_eq hC (show ((7 : Nat) : Int) + 11 = ((18 : Nat) : Int) by decide) (rfl : 7 + 3 = 10) (xdt tt_X0_nextNumber 3 rfl) (fun hc2 => ?_) (fun hc2 => ?_)
  · replace h := (if_pos hc2).symm.trans h
    refine g_aload_n hC rfl 0 rfl (rfl : 18 + 1 = 19) (xdt tt_X0_nextNumber 8 rfl) ?_
    refine g_getP hC hk0 kclX0 ly1_0 3 (by decide) (rfl : r0 + 0 = r0) rfl q98 (rfl : 19 + 3 = 22) (xdt tt_X0_nextNumber 9 rfl) ?_
    refine g_getI hC hk0 kclX6 ly1_5 2 (by decide) rfl q146 (rfl : 22 + 3 = 25) (xdt tt_X0_nextNumber 10 rfl) ?_
    refine g_if_le hC (show ((25 : Nat) : Int) + 15 = ((40 : Nat) : Int) by decide) (rfl : 25 + 3 = 28) (xdt tt_X0_nextNumber 11 rfl) (fun hc1 => ?_) (fun hc1 => ?_)
    · replace h := (if_pos hc1).symm.trans h
      refine g_iconst hC (rfl : 40 + 1 = 41) (xdt tt_X0_nextNumber 18 rfl) ?_
      cases h
      exact g_iret hC hE (xdt tt_X0_nextNumber 19 rfl)
    · replace h := (if_neg hc1).symm.trans h
      refine g_aload_n hC rfl 0 rfl (rfl : 28 + 1 = 29) (xdt tt_X0_nextNumber 12 rfl) ?_
      refine g_getP hC hk0 kclX0 ly1_0 3 (by decide) (rfl : r0 + 0 = r0) rfl q98 (rfl : 29 + 3 = 32) (xdt tt_X0_nextNumber 13 rfl) ?_
      refine g_getP hC hk0 kclX6 ly1_5 0 (by decide) (rfl : r0 + 0 = r0) rfl q704 (rfl : 32 + 3 = 35) (xdt tt_X0_nextNumber 14 rfl) ?_
      refine g_iconst hC (rfl : 35 + 1 = 36) (xdt tt_X0_nextNumber 15 rfl) ?_
      refine g_iald hC hk0 ly1_6 (by decide) (rfl : 36 + 1 = 37) (xdt tt_X0_nextNumber 16 rfl) (k0 := 0) (by decide) ?_
      refine g_goto hC (show ((37 : Nat) : Int) + 4 = ((41 : Nat) : Int) by decide) (xdt tt_X0_nextNumber 17 rfl) ?_
      cases h
      exact g_iret hC hE (xdt tt_X0_nextNumber 19 rfl)
  · replace h := (if_neg hc2).symm.trans h
    refine g_aload_n hC rfl 0 rfl (rfl : 10 + 1 = 11) (xdt tt_X0_nextNumber 4 rfl) ?_
    refine g_getP hC hk0 kclX0 ly1_0 4 (by decide) (rfl : r0 + 0 = r0) rfl q102 (rfl : 11 + 3 = 14) (xdt tt_X0_nextNumber 5 rfl) ?_
    refine g_getI hC hk0 kclX7 ly1_8 3 (by decide) rfl q703 (rfl : 14 + 3 = 17) (xdt tt_X0_nextNumber 6 rfl) ?_
    cases h
    exact g_iret hC hE (xdt tt_X0_nextNumber 7 rfl)
def f_X0_opsOfUnit_p1_0 (S : xSt) (r0 : Nat) (a1 : Int) (a2 : Int) : Option (Int × xSt) :=
  if wr a1 < 0 then
    (some (0, S))
  else
    (if wr a2 < wr a1 then
      (some (0, S))
    else
      (ckP S r0 0 0 2 0 fun rg1 =>
      if wr a2 < wr (gI S rg1 0 10) then
        (if wr a2 ≤ wr a1 then
          (ckP S r0 0 0 2 0 fun rg2 =>
          ckI a1 60 <|
          some ((gI S rg2 10 (wr a1).toNat), S))
        else
          (ckP S r0 0 0 2 0 fun rg4 =>
          ckI a1 60 <|
          ckP S r0 0 0 2 0 fun rg6 =>
          ckI a2 60 <|
          some ((((gI S rg4 10 (wr a1).toNat) + (gI S rg6 10 (wr a2).toNat)) - 1), S)))
      else
        (some (0, S))))
set_option maxRecDepth 100000 in
set_option maxHeartbeats 4000000 in
theorem c_X0_opsOfUnit_p1_0 (l : Launch) {E : xE} {S S' : xSt} {r0 : Nat} {a1 : Int} {a2 : Int} (hk0 : xkd E r0 = 1) {v : Int} (h : f_X0_opsOfUnit_p1_0 S r0 a1 a2 = some (v, S')) : Met l yX0_opsOfUnit (xws yX0_opsOfUnit cX0_opsOfUnit 3 (some .int)) (rmD 1) (YPc E [vr E r0 0, vi a1, vi a2] S) (YQi E v S') 0 0 (xA E) := by
  unfold f_X0_opsOfUnit_p1_0 at h
  refine met_i (by decide +kernel) (Nat.le_of_ble_eq_true rfl) (fun K hC hZ hE => ?_)
  have hC : xOK K cX0_opsOfUnit RX0 3 (rmE 1 0) := hC
  show WG K E 0 [(0, vr E r0 0), (1, vi a1), (2, vi a2)] [] S
  refine g_iload_n hC rfl 1 rfl (rfl : 0 + 1 = 1) (xdt tt_X0_opsOfUnit 0 rfl) ?_
  refine g_if_lt hC (show ((1 : Nat) : Int) + 19 = ((20 : Nat) : Int) by decide) (rfl : 1 + 3 = 4) (xdt tt_X0_opsOfUnit 1 rfl) (fun hc11 => ?_) (fun hc11 => ?_)
  · replace h := (if_pos hc11).symm.trans h
    refine g_iconst hC (rfl : 20 + 1 = 21) (xdt tt_X0_opsOfUnit 10 rfl) ?_
    cases h
    exact g_iret hC hE (xdt tt_X0_opsOfUnit 11 rfl)
  · replace h := (if_neg hc11).symm.trans h
    refine g_iload_n hC rfl 2 rfl (rfl : 4 + 1 = 5) (xdt tt_X0_opsOfUnit 2 rfl) ?_
    refine g_iload_n hC rfl 1 rfl (rfl : 5 + 1 = 6) (xdt tt_X0_opsOfUnit 3 rfl) ?_
    refine g_icmp_lt hC (show ((6 : Nat) : Int) + 14 = ((20 : Nat) : Int) by decide) (rfl : 6 + 3 = 9) (xdt tt_X0_opsOfUnit 4 rfl) (fun hc10 => ?_) (fun hc10 => ?_)
    · replace h := (if_pos hc10).symm.trans h
      refine g_iconst hC (rfl : 20 + 1 = 21) (xdt tt_X0_opsOfUnit 10 rfl) ?_
      cases h
      exact g_iret hC hE (xdt tt_X0_opsOfUnit 11 rfl)
    · replace h := (if_neg hc10).symm.trans h
      refine g_iload_n hC rfl 2 rfl (rfl : 9 + 1 = 10) (xdt tt_X0_opsOfUnit 5 rfl) ?_
      refine g_aload_n hC rfl 0 rfl (rfl : 10 + 1 = 11) (xdt tt_X0_opsOfUnit 6 rfl) ?_
      obtain ⟨rg1, hrg1, grg1, h⟩ := ckP_i h
      refine g_getV hC hk0 kclX0 ly1_0 0 (by decide) rfl hrg1 grg1 (by decide) q142 (rfl : 11 + 3 = 14) (xdt tt_X0_opsOfUnit 7 rfl) (fun krg1 => ?_)
      refine g_getI hC krg1 kclX5 ly2_0 10 (by decide) rfl q714 (rfl : 14 + 3 = 17) (xdt tt_X0_opsOfUnit 8 rfl) ?_
      refine g_icmp_lt hC (show ((17 : Nat) : Int) + 5 = ((22 : Nat) : Int) by decide) (rfl : 17 + 3 = 20) (xdt tt_X0_opsOfUnit 9 rfl) (fun hc9 => ?_) (fun hc9 => ?_)
      · replace h := (if_pos hc9).symm.trans h
        refine g_iload_n hC rfl 2 rfl (rfl : 22 + 1 = 23) (xdt tt_X0_opsOfUnit 12 rfl) ?_
        refine g_iload_n hC rfl 1 rfl (rfl : 23 + 1 = 24) (xdt tt_X0_opsOfUnit 13 rfl) ?_
        refine g_icmp_le hC (show ((24 : Nat) : Int) + 27 = ((51 : Nat) : Int) by decide) (rfl : 24 + 3 = 27) (xdt tt_X0_opsOfUnit 14 rfl) (fun hc8 => ?_) (fun hc8 => ?_)
        · replace h := (if_pos hc8).symm.trans h
          refine g_aload_n hC rfl 0 rfl (rfl : 51 + 1 = 52) (xdt tt_X0_opsOfUnit 29 rfl) ?_
          obtain ⟨rg2, hrg2, grg2, h⟩ := ckP_i h
          refine g_getV hC hk0 kclX0 ly1_0 0 (by decide) rfl hrg2 grg2 (by decide) q142 (rfl : 52 + 3 = 55) (xdt tt_X0_opsOfUnit 30 rfl) (fun krg2 => ?_)
          refine g_getP hC krg2 kclX5 ly2_0 7 (by decide) (rfl : rg2 + 0 = rg2) rfl q727 (rfl : 55 + 3 = 58) (xdt tt_X0_opsOfUnit 31 rfl) ?_
          refine g_iload_n hC rfl 1 rfl (rfl : 58 + 1 = 59) (xdt tt_X0_opsOfUnit 32 rfl) ?_
          obtain ⟨hi3, h⟩ := ckI_i h
          refine g_iald hC krg2 ly2_10 hi3 (rfl : 59 + 1 = 60) (xdt tt_X0_opsOfUnit 33 rfl) (k0 := (wr a1).toNat) rfl ?_
          cases h
          exact g_iret hC hE (xdt tt_X0_opsOfUnit 34 rfl)
        · replace h := (if_neg hc8).symm.trans h
          refine g_aload_n hC rfl 0 rfl (rfl : 27 + 1 = 28) (xdt tt_X0_opsOfUnit 15 rfl) ?_
          obtain ⟨rg4, hrg4, grg4, h⟩ := ckP_i h
          refine g_getV hC hk0 kclX0 ly1_0 0 (by decide) rfl hrg4 grg4 (by decide) q142 (rfl : 28 + 3 = 31) (xdt tt_X0_opsOfUnit 16 rfl) (fun krg4 => ?_)
          refine g_getP hC krg4 kclX5 ly2_0 7 (by decide) (rfl : rg4 + 0 = rg4) rfl q727 (rfl : 31 + 3 = 34) (xdt tt_X0_opsOfUnit 17 rfl) ?_
          refine g_iload_n hC rfl 1 rfl (rfl : 34 + 1 = 35) (xdt tt_X0_opsOfUnit 18 rfl) ?_
          obtain ⟨hi5, h⟩ := ckI_i h
          refine g_iald hC krg4 ly2_10 hi5 (rfl : 35 + 1 = 36) (xdt tt_X0_opsOfUnit 19 rfl) (k0 := (wr a1).toNat) rfl ?_
          refine g_aload_n hC rfl 0 rfl (rfl : 36 + 1 = 37) (xdt tt_X0_opsOfUnit 20 rfl) ?_
          obtain ⟨rg6, hrg6, grg6, h⟩ := ckP_i h
          refine g_getV hC hk0 kclX0 ly1_0 0 (by decide) rfl hrg6 grg6 (by decide) q142 (rfl : 37 + 3 = 40) (xdt tt_X0_opsOfUnit 21 rfl) (fun krg6 => ?_)
          refine g_getP hC krg6 kclX5 ly2_0 7 (by decide) (rfl : rg6 + 0 = rg6) rfl q727 (rfl : 40 + 3 = 43) (xdt tt_X0_opsOfUnit 22 rfl) ?_
          refine g_iload_n hC rfl 2 rfl (rfl : 43 + 1 = 44) (xdt tt_X0_opsOfUnit 23 rfl) ?_
          obtain ⟨hi7, h⟩ := ckI_i h
          refine g_iald hC krg6 ly2_10 hi7 (rfl : 44 + 1 = 45) (xdt tt_X0_opsOfUnit 24 rfl) (k0 := (wr a2).toNat) rfl ?_
          refine g_iadd hC (rfl : 45 + 1 = 46) (xdt tt_X0_opsOfUnit 25 rfl) ?_
          refine g_iconst hC (rfl : 46 + 1 = 47) (xdt tt_X0_opsOfUnit 26 rfl) ?_
          refine g_isub hC (rfl : 47 + 1 = 48) (xdt tt_X0_opsOfUnit 27 rfl) ?_
          refine g_goto hC (show ((48 : Nat) : Int) + 12 = ((60 : Nat) : Int) by decide) (xdt tt_X0_opsOfUnit 28 rfl) ?_
          cases h
          exact g_iret hC hE (xdt tt_X0_opsOfUnit 34 rfl)
      · replace h := (if_neg hc9).symm.trans h
        refine g_iconst hC (rfl : 20 + 1 = 21) (xdt tt_X0_opsOfUnit 10 rfl) ?_
        cases h
        exact g_iret hC hE (xdt tt_X0_opsOfUnit 11 rfl)
def f_X0_causeOfStop_p1_0_b21 (r0 : Nat) (S : xSt) (x2 : Int) : Option (Int × xSt) :=
  if wr ((gI S r0 0 14) + x2) ≤ wr (gI S r0 1 3) then
    (some (0, S))
  else
    (some (6, S))
def f_X0_causeOfStop_p1_0 (S : xSt) (r0 : Nat) (a1 : Int) (a2 : Int) : Option (Int × xSt) :=
  if wr a1 ≤ 0 then
    (f_X0_causeOfStop_p1_0_b21 r0 S a2)
  else
    (if ¬ wr (gI S r0 8 0) = 0 then
      (f_X0_causeOfStop_p1_0_b21 r0 S a2)
    else
      (if wr a2 ≤ wr 1 then
        (f_X0_causeOfStop_p1_0_b21 r0 S a2)
      else
        (some (5, S))))
set_option maxRecDepth 100000 in
set_option maxHeartbeats 4000000 in
theorem k_X0_causeOfStop_p1_0_b21 {K : xCtx} {E : xE} {b : Nat} (hC : xOK K cX0_causeOfStop RX0 3 (rmE 1 b)) (hZ : xZ K) {v : Int} {S' : xSt} (hE : xEnd K E (some .int) (YQi E v S')) {r0 : Nat} (hk0 : xkd E r0 = 1) : ∀ (S : xSt) (x2 : Int), f_X0_causeOfStop_p1_0_b21 r0 S x2 = some (v, S') → WG K E 21 [(0, vr E r0 0), (2, vi x2)] [] S := by
  intro S x2 h
  unfold f_X0_causeOfStop_p1_0_b21 at h
  refine g_aload_n hC rfl 0 rfl (rfl : 21 + 1 = 22) (xdt tt_X0_causeOfStop 11 rfl) ?_
  refine g_getI hC hk0 kclX0 ly1_0 14 (by decide) rfl q154 (rfl : 22 + 3 = 25) (xdt tt_X0_causeOfStop 12 rfl) ?_
  refine g_iload_n hC rfl 1 rfl (rfl : 25 + 1 = 26) (xdt tt_X0_causeOfStop 13 rfl) ?_
  refine g_iadd hC (rfl : 26 + 1 = 27) (xdt tt_X0_causeOfStop 14 rfl) ?_
  refine g_aload_n hC rfl 0 rfl (rfl : 27 + 1 = 28) (xdt tt_X0_causeOfStop 15 rfl) ?_
  refine g_getP hC hk0 kclX0 ly1_0 1 (by decide) (rfl : r0 + 0 = r0) rfl q92 (rfl : 28 + 3 = 31) (xdt tt_X0_causeOfStop 16 rfl) ?_
  refine g_iconst hC (rfl : 31 + 1 = 32) (xdt tt_X0_causeOfStop 17 rfl) ?_
  refine g_iald hC hk0 ly1_1 (by decide) (rfl : 32 + 1 = 33) (xdt tt_X0_causeOfStop 18 rfl) (k0 := 3) (by decide) ?_
  refine g_icmp_le hC (show ((33 : Nat) : Int) + 8 = ((41 : Nat) : Int) by decide) (rfl : 33 + 3 = 36) (xdt tt_X0_causeOfStop 19 rfl) (fun hc1 => ?_) (fun hc1 => ?_)
  · replace h := (if_pos hc1).symm.trans h
    refine g_iconst hC (rfl : 41 + 1 = 42) (xdt tt_X0_causeOfStop 22 rfl) ?_
    cases h
    exact g_iret hC hE (xdt tt_X0_causeOfStop 23 rfl)
  · replace h := (if_neg hc1).symm.trans h
    refine g_bipush hC (by decide) (rfl : 36 + 2 = 38) (xdt tt_X0_causeOfStop 20 rfl) ?_
    refine g_goto hC (show ((38 : Nat) : Int) + 4 = ((42 : Nat) : Int) by decide) (xdt tt_X0_causeOfStop 21 rfl) ?_
    cases h
    exact g_iret hC hE (xdt tt_X0_causeOfStop 23 rfl)
set_option maxRecDepth 100000 in
set_option maxHeartbeats 4000000 in
theorem c_X0_causeOfStop_p1_0 (l : Launch) {E : xE} {S S' : xSt} {r0 : Nat} {a1 : Int} {a2 : Int} (hk0 : xkd E r0 = 1) {v : Int} (h : f_X0_causeOfStop_p1_0 S r0 a1 a2 = some (v, S')) : Met l yX0_causeOfStop (xws yX0_causeOfStop cX0_causeOfStop 3 (some .int)) (rmD 1) (YPc E [vr E r0 0, vi a1, vi a2] S) (YQi E v S') 0 0 (xA E) := by
  unfold f_X0_causeOfStop_p1_0 at h
  refine met_i (by decide +kernel) (Nat.le_of_ble_eq_true rfl) (fun K hC hZ hE => ?_)
  have hC : xOK K cX0_causeOfStop RX0 3 (rmE 1 0) := hC
  show WG K E 0 [(0, vr E r0 0), (1, vi a1), (2, vi a2)] [] S
  refine g_iload_n hC rfl 1 rfl (rfl : 0 + 1 = 1) (xdt tt_X0_causeOfStop 0 rfl) ?_
  refine g_if_le hC (show ((1 : Nat) : Int) + 20 = ((21 : Nat) : Int) by decide) (rfl : 1 + 3 = 4) (xdt tt_X0_causeOfStop 1 rfl) (fun hc4 => ?_) (fun hc4 => ?_)
  · replace h := (if_pos hc4).symm.trans h
    refine g_sub [0, 2] (lv' := [(0, vr E r0 0), (2, vi a2)]) rfl ?_
    exact k_X0_causeOfStop_p1_0_b21 hC hZ hE hk0 _ _ h
  · replace h := (if_neg hc4).symm.trans h
    refine g_aload_n hC rfl 0 rfl (rfl : 4 + 1 = 5) (xdt tt_X0_causeOfStop 2 rfl) ?_
    refine g_getP hC hk0 kclX0 ly1_0 4 (by decide) (rfl : r0 + 0 = r0) rfl q102 (rfl : 5 + 3 = 8) (xdt tt_X0_causeOfStop 3 rfl) ?_
    refine g_getI hC hk0 kclX7 ly1_8 0 (by decide) rfl q147 (rfl : 8 + 3 = 11) (xdt tt_X0_causeOfStop 4 rfl) ?_
    refine g_if_ne hC (show ((11 : Nat) : Int) + 10 = ((21 : Nat) : Int) by decide) (rfl : 11 + 3 = 14) (xdt tt_X0_causeOfStop 5 rfl) (fun hc3 => ?_) (fun hc3 => ?_)
    · replace h := (if_pos hc3).symm.trans h
      refine g_sub [0, 2] (lv' := [(0, vr E r0 0), (2, vi a2)]) rfl ?_
      exact k_X0_causeOfStop_p1_0_b21 hC hZ hE hk0 _ _ h
    · replace h := (if_neg hc3).symm.trans h
      refine g_iload_n hC rfl 2 rfl (rfl : 14 + 1 = 15) (xdt tt_X0_causeOfStop 6 rfl) ?_
      refine g_iconst hC (rfl : 15 + 1 = 16) (xdt tt_X0_causeOfStop 7 rfl) ?_
      refine g_icmp_le hC (show ((16 : Nat) : Int) + 5 = ((21 : Nat) : Int) by decide) (rfl : 16 + 3 = 19) (xdt tt_X0_causeOfStop 8 rfl) (fun hc2 => ?_) (fun hc2 => ?_)
      · replace h := (if_pos hc2).symm.trans h
        refine g_sub [0, 2] (lv' := [(0, vr E r0 0), (2, vi a2)]) rfl ?_
        exact k_X0_causeOfStop_p1_0_b21 hC hZ hE hk0 _ _ h
      · replace h := (if_neg hc2).symm.trans h
        refine g_iconst hC (rfl : 19 + 1 = 20) (xdt tt_X0_causeOfStop 9 rfl) ?_
        cases h
        exact g_iret hC hE (xdt tt_X0_causeOfStop 10 rfl)
