def f_X0_follow_p1_0_b204 (r0 : Nat) (S : xSt) (x3 : Int) : Option (Int × xSt) :=
  if wr x3 = 0 then
    (some (0, S))
  else
    (some (7, S))
def f_X0_follow_p1_0_b83 (r0 : Nat) (S : xSt) (x1 : Int) (x2 : Int) (x3 : Int) (x4 : Int) (s0 : Int) : Option (Int × xSt) :=
  lt1 (wI S r0 0 9 s0) fun S12 =>
  if wr (gI S12 r0 8 0) = 0 then
    (if wr x3 = wr x2 then
      (if wr x4 = 0 then
        (f_X0_follow_p1_0_b204 r0 S12 x3)
      else
        (bd2 (f_X0_closesLoop_p1_0 S12 r0 x1) fun v16 S15 =>
        if wr v16 = 0 then
          (f_X0_follow_p1_0_b204 r0 S15 x3)
        else
          (lt1 (wI S15 r0 15 7 ((gI S15 r0 15 7) + 1)) fun S18 =>
          bd (f_X0_emptyQueue_p1_0 S18 r0) fun S20 =>
          ckP S20 r0 0 0 2 0 fun rg21 =>
          ckI x1 60 <|
          ckP S20 r0 0 0 2 0 fun rg23 =>
          ckI x1 60 <|
          bd (f_X7_begin_p1_8 S20 r0 (gI S20 rg21 11 (wr x1).toNat) x1 (gI S20 rg23 12 (wr x1).toNat)) fun S26 =>
          f_X0_follow_p1_0_b204 r0 S26 x3)))
    else
      (lt1 (wI S12 r0 15 6 ((gI S12 r0 15 6) + 1)) fun S29 =>
      if wr x3 = 0 then
        (bd (f_X0_goTo_p1_0 S29 r0 (x1 + 1)) fun S31 =>
        some (4, S31))
      else
        (ckP S29 r0 0 0 2 0 fun rg32 =>
        ckI x1 60 <|
        bd (f_X0_goTo_p1_0 S29 r0 (gI S29 rg32 11 (wr x1).toNat)) fun S35 =>
        some (4, S35))))
  else
    (bd2 (f_X0_followInLoop_p1_0 S12 r0 x1 x3) fun v40 S39 =>
    some (v40, S39))
def f_X0_follow_p1_0_b61 (r0 : Nat) (S : xSt) (x1 : Int) (x2 : Int) (x3 : Int) (s0 : Int) : Option (Int × xSt) :=
  ckI x1 60 <|
  ckB x3 <|
  lt1 (wI S r0 19 (wr x1).toNat x3) fun S11 =>
  if wr x3 = 0 then
    (f_X0_follow_p1_0_b83 r0 S11 x1 x2 x3 s0 (gI S11 r0 0 9))
  else
    (f_X0_follow_p1_0_b83 r0 S11 x1 x2 x3 s0 x1)
def f_X0_follow_p1_0_b60 (r0 : Nat) (S : xSt) (x1 : Int) (x2 : Int) (x3 : Int) : Option (Int × xSt) :=
  f_X0_follow_p1_0_b61 r0 S x1 x2 x3 0
def f_X0_follow_p1_0 (S : xSt) (r0 : Nat) (a1 : Int) (a2 : Int) : Option (Int × xSt) :=
  if wr a1 < 0 then
    (some (0, S))
  else
    (ckP S r0 0 0 2 0 fun rg1 =>
    if wr (gI S rg1 0 10) ≤ wr a1 then
      (some (0, S))
    else
      (ckP S r0 0 0 2 0 fun rg2 =>
      ckI a1 60 <|
      if wr 8 ≤ wr (gI S rg2 5 (wr a1).toNat) then
        (ckP S r0 0 0 2 0 fun rg4 =>
        bd2 (f_X10_goesToTarget_p1_9_2_0 S r0 rg4 a1) fun v7 S6 =>
        if wr v7 = 0 then
          (f_X0_follow_p1_0_b60 r0 S6 a1 a2 v7)
        else
          (if ¬ wr (gI S6 r0 0 9) = wr a1 then
            (f_X0_follow_p1_0_b60 r0 S6 a1 a2 v7)
          else
            (f_X0_follow_p1_0_b61 r0 S6 a1 a2 v7 1)))
      else
        (some (0, S))))
set_option maxRecDepth 100000 in
set_option maxHeartbeats 4000000 in
theorem k_X0_follow_p1_0_b204 {K : xCtx} {E : xE} {b : Nat} (hC : xOK K cX0_follow RX0 5 (rmE 3 b)) (hZ : xZ K) {v : Int} {S' : xSt} (hE : xEnd K E (some .int) (YQi E v S')) {r0 : Nat} (hk0 : xkd E r0 = 1) : ∀ (S : xSt) (x3 : Int), f_X0_follow_p1_0_b204 r0 S x3 = some (v, S') → WG K E 204 [(3, vi x3)] [] S := by
  intro S x3 h
  unfold f_X0_follow_p1_0_b204 at h
  refine g_iload_n hC rfl 0 rfl (rfl : 204 + 1 = 205) (xdt tt_X0_follow 113 rfl) ?_
  refine g_if_eq hC (show ((205 : Nat) : Int) + 8 = ((213 : Nat) : Int) by decide) (rfl : 205 + 3 = 208) (xdt tt_X0_follow 114 rfl) (fun hc13 => ?_) (fun hc13 => ?_)
  · replace h := (if_pos hc13).symm.trans h
    refine g_iconst hC (rfl : 213 + 1 = 214) (xdt tt_X0_follow 117 rfl) ?_
    cases h
    exact g_iret hC hE (xdt tt_X0_follow 118 rfl)
  · replace h := (if_neg hc13).symm.trans h
    refine g_bipush hC (by decide) (rfl : 208 + 2 = 210) (xdt tt_X0_follow 115 rfl) ?_
    refine g_goto hC (show ((210 : Nat) : Int) + 4 = ((214 : Nat) : Int) by decide) (xdt tt_X0_follow 116 rfl) ?_
    cases h
    exact g_iret hC hE (xdt tt_X0_follow 118 rfl)
set_option maxRecDepth 100000 in
set_option maxHeartbeats 4000000 in
theorem k_X0_follow_p1_0_b83 {K : xCtx} {E : xE} {b : Nat} (hC : xOK K cX0_follow RX0 5 (rmE 3 b)) (hZ : xZ K) {v : Int} {S' : xSt} (hE : xEnd K E (some .int) (YQi E v S')) {r0 : Nat} (hk0 : xkd E r0 = 1) : ∀ (S : xSt) (x1 : Int) (x2 : Int) (x3 : Int) (x4 : Int) (s0 : Int), f_X0_follow_p1_0_b83 r0 S x1 x2 x3 x4 s0 = some (v, S') → WG K E 83 [(0, vr E r0 0), (1, vi x1), (2, vi x2), (3, vi x3), (4, vi x4)] [vi s0, vr E r0 0] S := by
  intro S x1 x2 x3 x4 s0 h
  unfold f_X0_follow_p1_0_b83 at h
  obtain ⟨S12, hS12, h⟩ := lt1_i h
  refine g_putI hC hk0 kclX0 ly1_0 9 (by decide) rfl rfl rfl q153 hS12 (rfl : 83 + 3 = 86) (xdt tt_X0_follow 45 rfl) ?_
  refine g_aload_n hC rfl 0 rfl (rfl : 86 + 1 = 87) (xdt tt_X0_follow 46 rfl) ?_
  refine g_getP hC hk0 kclX0 ly1_0 4 (by decide) (rfl : r0 + 0 = r0) rfl q106 (rfl : 87 + 3 = 90) (xdt tt_X0_follow 47 rfl) ?_
  refine g_getI hC hk0 kclX7 ly1_8 0 (by decide) rfl q151 (rfl : 90 + 3 = 93) (xdt tt_X0_follow 48 rfl) ?_
  refine g_if_eq hC (show ((93 : Nat) : Int) + 10 = ((103 : Nat) : Int) by decide) (rfl : 93 + 3 = 96) (xdt tt_X0_follow 49 rfl) (fun hc41 => ?_) (fun hc41 => ?_)
  · replace h := (if_pos hc41).symm.trans h
    refine g_iload_n hC rfl 3 rfl (rfl : 103 + 1 = 104) (xdt tt_X0_follow 55 rfl) ?_
    refine g_iload_n hC rfl 2 rfl (rfl : 104 + 1 = 105) (xdt tt_X0_follow 56 rfl) ?_
    refine g_icmp_eq hC (show ((105 : Nat) : Int) + 42 = ((147 : Nat) : Int) by decide) (rfl : 105 + 3 = 108) (xdt tt_X0_follow 57 rfl) (fun hc37 => ?_) (fun hc37 => ?_)
    · replace h := (if_pos hc37).symm.trans h
      refine g_iload hC 4 rfl (rfl : 147 + 2 = 149) (xdt tt_X0_follow 82 rfl) ?_
      refine g_if_eq hC (show ((149 : Nat) : Int) + 55 = ((204 : Nat) : Int) by decide) (rfl : 149 + 3 = 152) (xdt tt_X0_follow 83 rfl) (fun hc28 => ?_) (fun hc28 => ?_)
      · replace h := (if_pos hc28).symm.trans h
        refine g_sub [3] (lv' := [(3, vi x3)]) rfl ?_
        exact k_X0_follow_p1_0_b204 hC hZ hE hk0 _ _ h
      · replace h := (if_neg hc28).symm.trans h
        refine g_aload_n hC rfl 0 rfl (rfl : 152 + 1 = 153) (xdt tt_X0_follow 84 rfl) ?_
        refine g_iload_n hC rfl 1 rfl (rfl : 153 + 1 = 154) (xdt tt_X0_follow 85 rfl) ?_
        obtain ⟨v16, S15, hc14, h⟩ := bd2_i h
        refine g_callVz hC hZ hk0 kclX0 ly1_0 m_X0_closesLoop q1107 (Nat.le_of_ble_eq_true rfl) [vi x1] rfl (fun l => c_X0_closesLoop_p1_0 l hk0 hc14) rfl (Nat.le_of_ble_eq_true rfl) (rfl : 154 + 3 = 157) (xdt tt_X0_follow 86 rfl) (fun hb17 => ?_)
        refine g_if_eq hC (show ((157 : Nat) : Int) + 47 = ((204 : Nat) : Int) by decide) (rfl : 157 + 3 = 160) (xdt tt_X0_follow 87 rfl) (fun hc27 => ?_) (fun hc27 => ?_)
        · replace h := (if_pos hc27).symm.trans h
          refine g_sub [3] (lv' := [(3, vi x3)]) rfl ?_
          exact k_X0_follow_p1_0_b204 hC hZ hE hk0 _ _ h
        · replace h := (if_neg hc27).symm.trans h
          refine g_aload_n hC rfl 0 rfl (rfl : 160 + 1 = 161) (xdt tt_X0_follow 88 rfl) ?_
          refine g_getP hC hk0 kclX0 ly1_0 7 (by decide) (rfl : r0 + 0 = r0) rfl q116 (rfl : 161 + 3 = 164) (xdt tt_X0_follow 89 rfl) ?_
          refine g_getP hC hk0 kclX9 ly1_14 0 (by decide) (rfl : r0 + 0 = r0) rfl q1029 (rfl : 164 + 3 = 167) (xdt tt_X0_follow 90 rfl) ?_
          refine g_bipush hC (by decide) (rfl : 167 + 2 = 169) (xdt tt_X0_follow 91 rfl) ?_
          refine g_dup2 hC rfl rfl (rfl : 169 + 1 = 170) (xdt tt_X0_follow 92 rfl) ?_
          refine g_iald hC hk0 ly1_15 (by decide) (rfl : 170 + 1 = 171) (xdt tt_X0_follow 93 rfl) (k0 := 7) (by decide) ?_
          refine g_iconst hC (rfl : 171 + 1 = 172) (xdt tt_X0_follow 94 rfl) ?_
          refine g_iadd hC (rfl : 172 + 1 = 173) (xdt tt_X0_follow 95 rfl) ?_
          obtain ⟨S18, hS18, h⟩ := lt1_i h
          refine g_iast hC hk0 ly1_15 (by decide) (by decide) hS18 (rfl : 173 + 1 = 174) (xdt tt_X0_follow 96 rfl) ?_
          refine g_aload_n hC rfl 0 rfl (rfl : 174 + 1 = 175) (xdt tt_X0_follow 97 rfl) ?_
          obtain ⟨S20, hc19, h⟩ := bd_i h
          refine g_callVv hC hZ hk0 kclX0 ly1_0 m_X0_emptyQueue q1103 (Nat.le_of_ble_eq_true rfl) [] rfl (fun l => c_X0_emptyQueue_p1_0 l hk0 hc19) rfl (Nat.le_of_ble_eq_true rfl) (rfl : 175 + 3 = 178) (xdt tt_X0_follow 98 rfl) ?_
          refine g_aload_n hC rfl 0 rfl (rfl : 178 + 1 = 179) (xdt tt_X0_follow 99 rfl) ?_
          refine g_getP hC hk0 kclX0 ly1_0 4 (by decide) (rfl : r0 + 0 = r0) rfl q106 (rfl : 179 + 3 = 182) (xdt tt_X0_follow 100 rfl) ?_
          refine g_aload_n hC rfl 0 rfl (rfl : 182 + 1 = 183) (xdt tt_X0_follow 101 rfl) ?_
          obtain ⟨rg21, hrg21, grg21, h⟩ := ckP_i h
          refine g_getV hC hk0 kclX0 ly1_0 0 (by decide) rfl hrg21 grg21 q146 (rfl : 183 + 3 = 186) (xdt tt_X0_follow 102 rfl) (fun krg21 => ?_)
          refine g_getP hC krg21 kclX5 ly2_0 8 (by decide) (rfl : rg21 + 0 = rg21) rfl q1088 (rfl : 186 + 3 = 189) (xdt tt_X0_follow 103 rfl) ?_
          refine g_iload_n hC rfl 1 rfl (rfl : 189 + 1 = 190) (xdt tt_X0_follow 104 rfl) ?_
          obtain ⟨hi22, h⟩ := ckI_i h
          refine g_iald hC krg21 ly2_11 hi22 (rfl : 190 + 1 = 191) (xdt tt_X0_follow 105 rfl) (k0 := (wr x1).toNat) rfl ?_
          refine g_iload_n hC rfl 1 rfl (rfl : 191 + 1 = 192) (xdt tt_X0_follow 106 rfl) ?_
          refine g_aload_n hC rfl 0 rfl (rfl : 192 + 1 = 193) (xdt tt_X0_follow 107 rfl) ?_
          obtain ⟨rg23, hrg23, grg23, h⟩ := ckP_i h
          refine g_getV hC hk0 kclX0 ly1_0 0 (by decide) rfl hrg23 grg23 q146 (rfl : 193 + 3 = 196) (xdt tt_X0_follow 108 rfl) (fun krg23 => ?_)
          refine g_getP hC krg23 kclX5 ly2_0 9 (by decide) (rfl : rg23 + 0 = rg23) rfl q750 (rfl : 196 + 3 = 199) (xdt tt_X0_follow 109 rfl) ?_
          refine g_iload_n hC rfl 1 rfl (rfl : 199 + 1 = 200) (xdt tt_X0_follow 110 rfl) ?_
          obtain ⟨hi24, h⟩ := ckI_i h
          refine g_iald hC krg23 ly2_12 hi24 (rfl : 200 + 1 = 201) (xdt tt_X0_follow 111 rfl) (k0 := (wr x1).toNat) rfl ?_
          obtain ⟨S26, hc25, h⟩ := bd_i h
          refine g_callVv hC hZ hk0 kclX7 ly1_8 m_X7_begin q1108 (Nat.le_of_ble_eq_true rfl) [vi (gI S20 rg21 11 (wr x1).toNat), vi x1, vi (gI S20 rg23 12 (wr x1).toNat)] rfl (fun l => c_X7_begin_p1_8 l hk0 hc25) rfl (Nat.le_of_ble_eq_true rfl) (rfl : 201 + 3 = 204) (xdt tt_X0_follow 112 rfl) ?_
          refine g_sub [3] (lv' := [(3, vi x3)]) rfl ?_
          exact k_X0_follow_p1_0_b204 hC hZ hE hk0 _ _ h
    · replace h := (if_neg hc37).symm.trans h
      refine g_aload_n hC rfl 0 rfl (rfl : 108 + 1 = 109) (xdt tt_X0_follow 58 rfl) ?_
      refine g_getP hC hk0 kclX0 ly1_0 7 (by decide) (rfl : r0 + 0 = r0) rfl q116 (rfl : 109 + 3 = 112) (xdt tt_X0_follow 59 rfl) ?_
      refine g_getP hC hk0 kclX9 ly1_14 0 (by decide) (rfl : r0 + 0 = r0) rfl q1029 (rfl : 112 + 3 = 115) (xdt tt_X0_follow 60 rfl) ?_
      refine g_bipush hC (by decide) (rfl : 115 + 2 = 117) (xdt tt_X0_follow 61 rfl) ?_
      refine g_dup2 hC rfl rfl (rfl : 117 + 1 = 118) (xdt tt_X0_follow 62 rfl) ?_
      refine g_iald hC hk0 ly1_15 (by decide) (rfl : 118 + 1 = 119) (xdt tt_X0_follow 63 rfl) (k0 := 6) (by decide) ?_
      refine g_iconst hC (rfl : 119 + 1 = 120) (xdt tt_X0_follow 64 rfl) ?_
      refine g_iadd hC (rfl : 120 + 1 = 121) (xdt tt_X0_follow 65 rfl) ?_
      obtain ⟨S29, hS29, h⟩ := lt1_i h
      refine g_iast hC hk0 ly1_15 (by decide) (by decide) hS29 (rfl : 121 + 1 = 122) (xdt tt_X0_follow 66 rfl) ?_
      refine g_aload_n hC rfl 0 rfl (rfl : 122 + 1 = 123) (xdt tt_X0_follow 67 rfl) ?_
      refine g_iload_n hC rfl 3 rfl (rfl : 123 + 1 = 124) (xdt tt_X0_follow 68 rfl) ?_
      refine g_if_eq hC (show ((124 : Nat) : Int) + 15 = ((139 : Nat) : Int) by decide) (rfl : 124 + 3 = 127) (xdt tt_X0_follow 69 rfl) (fun hc36 => ?_) (fun hc36 => ?_)
      · replace h := (if_pos hc36).symm.trans h
        refine g_iload_n hC rfl 1 rfl (rfl : 139 + 1 = 140) (xdt tt_X0_follow 76 rfl) ?_
        refine g_iconst hC (rfl : 140 + 1 = 141) (xdt tt_X0_follow 77 rfl) ?_
        refine g_iadd hC (rfl : 141 + 1 = 142) (xdt tt_X0_follow 78 rfl) ?_
        obtain ⟨S31, hc30, h⟩ := bd_i h
        refine g_callVv hC hZ hk0 kclX0 ly1_0 m_X0_goTo q1099 (Nat.le_of_ble_eq_true rfl) [vi (x1 + 1)] rfl (fun l => c_X0_goTo_p1_0 l hk0 hc30) rfl (Nat.le_of_ble_eq_true rfl) (rfl : 142 + 3 = 145) (xdt tt_X0_follow 79 rfl) ?_
        refine g_iconst hC (rfl : 145 + 1 = 146) (xdt tt_X0_follow 80 rfl) ?_
        cases h
        exact g_iret hC hE (xdt tt_X0_follow 81 rfl)
      · replace h := (if_neg hc36).symm.trans h
        refine g_aload_n hC rfl 0 rfl (rfl : 127 + 1 = 128) (xdt tt_X0_follow 70 rfl) ?_
        obtain ⟨rg32, hrg32, grg32, h⟩ := ckP_i h
        refine g_getV hC hk0 kclX0 ly1_0 0 (by decide) rfl hrg32 grg32 q146 (rfl : 128 + 3 = 131) (xdt tt_X0_follow 71 rfl) (fun krg32 => ?_)
        refine g_getP hC krg32 kclX5 ly2_0 8 (by decide) (rfl : rg32 + 0 = rg32) rfl q1088 (rfl : 131 + 3 = 134) (xdt tt_X0_follow 72 rfl) ?_
        refine g_iload_n hC rfl 1 rfl (rfl : 134 + 1 = 135) (xdt tt_X0_follow 73 rfl) ?_
        obtain ⟨hi33, h⟩ := ckI_i h
        refine g_iald hC krg32 ly2_11 hi33 (rfl : 135 + 1 = 136) (xdt tt_X0_follow 74 rfl) (k0 := (wr x1).toNat) rfl ?_
        refine g_goto hC (show ((136 : Nat) : Int) + 6 = ((142 : Nat) : Int) by decide) (xdt tt_X0_follow 75 rfl) ?_
        obtain ⟨S35, hc34, h⟩ := bd_i h
        refine g_callVv hC hZ hk0 kclX0 ly1_0 m_X0_goTo q1099 (Nat.le_of_ble_eq_true rfl) [vi (gI S29 rg32 11 (wr x1).toNat)] rfl (fun l => c_X0_goTo_p1_0 l hk0 hc34) rfl (Nat.le_of_ble_eq_true rfl) (rfl : 142 + 3 = 145) (xdt tt_X0_follow 79 rfl) ?_
        refine g_iconst hC (rfl : 145 + 1 = 146) (xdt tt_X0_follow 80 rfl) ?_
        cases h
        exact g_iret hC hE (xdt tt_X0_follow 81 rfl)
  · replace h := (if_neg hc41).symm.trans h
    refine g_aload_n hC rfl 0 rfl (rfl : 96 + 1 = 97) (xdt tt_X0_follow 50 rfl) ?_
    refine g_iload_n hC rfl 1 rfl (rfl : 97 + 1 = 98) (xdt tt_X0_follow 51 rfl) ?_
    refine g_iload_n hC rfl 3 rfl (rfl : 98 + 1 = 99) (xdt tt_X0_follow 52 rfl) ?_
    obtain ⟨v40, S39, hc38, h⟩ := bd2_i h
    refine g_callVi hC hZ hk0 kclX0 ly1_0 m_X0_followInLoop q1090 (Nat.le_of_ble_eq_true rfl) [vi x1, vi x3] rfl (fun l => c_X0_followInLoop_p1_0 l hk0 hc38) rfl (Nat.le_of_ble_eq_true rfl) (rfl : 99 + 3 = 102) (xdt tt_X0_follow 53 rfl) ?_
    cases h
    exact g_iret hC hE (xdt tt_X0_follow 54 rfl)
set_option maxRecDepth 100000 in
set_option maxHeartbeats 4000000 in
theorem k_X0_follow_p1_0_b61 {K : xCtx} {E : xE} {b : Nat} (hC : xOK K cX0_follow RX0 5 (rmE 3 b)) (hZ : xZ K) {v : Int} {S' : xSt} (hE : xEnd K E (some .int) (YQi E v S')) {r0 : Nat} (hk0 : xkd E r0 = 1) : ∀ (S : xSt) (x1 : Int) (x2 : Int) (x3 : Int) (s0 : Int), f_X0_follow_p1_0_b61 r0 S x1 x2 x3 s0 = some (v, S') → WG K E 61 [(0, vr E r0 0), (1, vi x1), (2, vi x2), (3, vi x3)] [vi s0] S := by
  intro S x1 x2 x3 s0 h
  unfold f_X0_follow_p1_0_b61 at h
  refine g_istore hC (by decide) (lv' := [(4, vi s0), (0, vr E r0 0), (1, vi x1), (2, vi x2), (3, vi x3)]) rfl (rfl : 61 + 2 = 63) (xdt tt_X0_follow 32 rfl) ?_
  refine g_aload_n hC rfl 1 rfl (rfl : 63 + 1 = 64) (xdt tt_X0_follow 33 rfl) ?_
  refine g_getP hC hk0 kclX0 ly1_0 8 (by decide) (rfl : r0 + 0 = r0) rfl q117 (rfl : 64 + 3 = 67) (xdt tt_X0_follow 34 rfl) ?_
  refine g_iload_n hC rfl 2 rfl (rfl : 67 + 1 = 68) (xdt tt_X0_follow 35 rfl) ?_
  refine g_iload_n hC rfl 4 rfl (rfl : 68 + 1 = 69) (xdt tt_X0_follow 36 rfl) ?_
  obtain ⟨hi9, h⟩ := ckI_i h
  obtain ⟨hb10, h⟩ := ckB_i h
  obtain ⟨S11, hS11, h⟩ := lt1_i h
  refine g_zast hC hk0 ly1_19 hi9 hb10 rfl hS11 (rfl : 69 + 1 = 70) (xdt tt_X0_follow 37 rfl) ?_
  refine g_aload_n hC rfl 1 rfl (rfl : 70 + 1 = 71) (xdt tt_X0_follow 38 rfl) ?_
  refine g_iload_n hC rfl 4 rfl (rfl : 71 + 1 = 72) (xdt tt_X0_follow 39 rfl) ?_
  refine g_if_eq hC (show ((72 : Nat) : Int) + 7 = ((79 : Nat) : Int) by decide) (rfl : 72 + 3 = 75) (xdt tt_X0_follow 40 rfl) (fun hc42 => ?_) (fun hc42 => ?_)
  · replace h := (if_pos hc42).symm.trans h
    refine g_aload_n hC rfl 1 rfl (rfl : 79 + 1 = 80) (xdt tt_X0_follow 43 rfl) ?_
    refine g_getI hC hk0 kclX0 ly1_0 9 (by decide) rfl q153 (rfl : 80 + 3 = 83) (xdt tt_X0_follow 44 rfl) ?_
    refine g_sub [1, 2, 3, 4, 0] (lv' := [(0, vr E r0 0), (1, vi x1), (2, vi x2), (3, vi x3), (4, vi s0)]) rfl ?_
    exact k_X0_follow_p1_0_b83 hC hZ hE hk0 _ _ _ _ _ _ h
  · replace h := (if_neg hc42).symm.trans h
    refine g_iload_n hC rfl 2 rfl (rfl : 75 + 1 = 76) (xdt tt_X0_follow 41 rfl) ?_
    refine g_goto hC (show ((76 : Nat) : Int) + 7 = ((83 : Nat) : Int) by decide) (xdt tt_X0_follow 42 rfl) ?_
    refine g_sub [1, 2, 3, 4, 0] (lv' := [(0, vr E r0 0), (1, vi x1), (2, vi x2), (3, vi x3), (4, vi s0)]) rfl ?_
    exact k_X0_follow_p1_0_b83 hC hZ hE hk0 _ _ _ _ _ _ h
set_option maxRecDepth 100000 in
set_option maxHeartbeats 4000000 in
theorem k_X0_follow_p1_0_b60 {K : xCtx} {E : xE} {b : Nat} (hC : xOK K cX0_follow RX0 5 (rmE 3 b)) (hZ : xZ K) {v : Int} {S' : xSt} (hE : xEnd K E (some .int) (YQi E v S')) {r0 : Nat} (hk0 : xkd E r0 = 1) : ∀ (S : xSt) (x1 : Int) (x2 : Int) (x3 : Int), f_X0_follow_p1_0_b60 r0 S x1 x2 x3 = some (v, S') → WG K E 60 [(0, vr E r0 0), (1, vi x1), (2, vi x2), (3, vi x3)] [] S := by
  intro S x1 x2 x3 h
  unfold f_X0_follow_p1_0_b60 at h
  refine g_iconst hC (rfl : 60 + 1 = 61) (xdt tt_X0_follow 31 rfl) ?_
  refine g_sub [0, 1, 2, 3] (lv' := [(0, vr E r0 0), (1, vi x1), (2, vi x2), (3, vi x3)]) rfl ?_
  exact k_X0_follow_p1_0_b61 hC hZ hE hk0 _ _ _ _ _ h
set_option maxRecDepth 100000 in
set_option maxHeartbeats 4000000 in
theorem c_X0_follow_p1_0 (l : Launch) {E : xE} {S S' : xSt} {r0 : Nat} {a1 : Int} {a2 : Int} (hk0 : xkd E r0 = 1) {v : Int} (h : f_X0_follow_p1_0 S r0 a1 a2 = some (v, S')) : Met l yX0_follow (xws yX0_follow cX0_follow 5 (some .int)) (rmD 3) (YPc E [vr E r0 0, vi a1, vi a2] S) (YQi E v S') 0 0 (xA E) := by
  unfold f_X0_follow_p1_0 at h
  refine met_i (by decide +kernel) (Nat.le_of_ble_eq_true rfl) (fun K hC hZ hE => ?_)
  have hC : xOK K cX0_follow RX0 5 (rmE 3 0) := hC
  show WG K E 0 [(0, vr E r0 0), (1, vi a1), (2, vi a2)] [] S
  refine g_iload_n hC rfl 1 rfl (rfl : 0 + 1 = 1) (xdt tt_X0_follow 0 rfl) ?_
  refine g_if_lt hC (show ((1 : Nat) : Int) + 28 = ((29 : Nat) : Int) by decide) (rfl : 1 + 3 = 4) (xdt tt_X0_follow 1 rfl) (fun hc47 => ?_) (fun hc47 => ?_)
  · replace h := (if_pos hc47).symm.trans h
    refine g_iconst hC (rfl : 29 + 1 = 30) (xdt tt_X0_follow 14 rfl) ?_
    cases h
    exact g_iret hC hE (xdt tt_X0_follow 15 rfl)
  · replace h := (if_neg hc47).symm.trans h
    refine g_iload_n hC rfl 1 rfl (rfl : 4 + 1 = 5) (xdt tt_X0_follow 2 rfl) ?_
    refine g_aload_n hC rfl 0 rfl (rfl : 5 + 1 = 6) (xdt tt_X0_follow 3 rfl) ?_
    obtain ⟨rg1, hrg1, grg1, h⟩ := ckP_i h
    refine g_getV hC hk0 kclX0 ly1_0 0 (by decide) rfl hrg1 grg1 q146 (rfl : 6 + 3 = 9) (xdt tt_X0_follow 4 rfl) (fun krg1 => ?_)
    refine g_getI hC krg1 kclX5 ly2_0 10 (by decide) rfl q644 (rfl : 9 + 3 = 12) (xdt tt_X0_follow 5 rfl) ?_
    refine g_icmp_ge hC (show ((12 : Nat) : Int) + 17 = ((29 : Nat) : Int) by decide) (rfl : 12 + 3 = 15) (xdt tt_X0_follow 6 rfl) (fun hc46 => ?_) (fun hc46 => ?_)
    · replace h := (if_pos hc46).symm.trans h
      refine g_iconst hC (rfl : 29 + 1 = 30) (xdt tt_X0_follow 14 rfl) ?_
      cases h
      exact g_iret hC hE (xdt tt_X0_follow 15 rfl)
    · replace h := (if_neg hc46).symm.trans h
      refine g_aload_n hC rfl 0 rfl (rfl : 15 + 1 = 16) (xdt tt_X0_follow 7 rfl) ?_
      obtain ⟨rg2, hrg2, grg2, h⟩ := ckP_i h
      refine g_getV hC hk0 kclX0 ly1_0 0 (by decide) rfl hrg2 grg2 q146 (rfl : 16 + 3 = 19) (xdt tt_X0_follow 8 rfl) (fun krg2 => ?_)
      refine g_getP hC krg2 kclX5 ly2_0 2 (by decide) (rfl : rg2 + 0 = rg2) rfl q645 (rfl : 19 + 3 = 22) (xdt tt_X0_follow 9 rfl) ?_
      refine g_iload_n hC rfl 1 rfl (rfl : 22 + 1 = 23) (xdt tt_X0_follow 10 rfl) ?_
      obtain ⟨hi3, h⟩ := ckI_i h
      refine g_iald hC krg2 ly2_5 hi3 (rfl : 23 + 1 = 24) (xdt tt_X0_follow 11 rfl) (k0 := (wr a1).toNat) rfl ?_
      refine g_bipush hC (by decide) (rfl : 24 + 2 = 26) (xdt tt_X0_follow 12 rfl) ?_
      refine g_icmp_ge hC (show ((26 : Nat) : Int) + 5 = ((31 : Nat) : Int) by decide) (rfl : 26 + 3 = 29) (xdt tt_X0_follow 13 rfl) (fun hc45 => ?_) (fun hc45 => ?_)
      · replace h := (if_pos hc45).symm.trans h
        refine g_aload_n hC rfl 0 rfl (rfl : 31 + 1 = 32) (xdt tt_X0_follow 16 rfl) ?_
        refine g_getP hC hk0 kclX0 ly1_0 5 (by decide) (rfl : r0 + 0 = r0) rfl q110 (rfl : 32 + 3 = 35) (xdt tt_X0_follow 17 rfl) ?_
        refine g_aload_n hC rfl 0 rfl (rfl : 35 + 1 = 36) (xdt tt_X0_follow 18 rfl) ?_
        obtain ⟨rg4, hrg4, grg4, h⟩ := ckP_i h
        refine g_getV hC hk0 kclX0 ly1_0 0 (by decide) rfl hrg4 grg4 q146 (rfl : 36 + 3 = 39) (xdt tt_X0_follow 19 rfl) (fun krg4 => ?_)
        refine g_iload_n hC rfl 1 rfl (rfl : 39 + 1 = 40) (xdt tt_X0_follow 20 rfl) ?_
        obtain ⟨v7, S6, hc5, h⟩ := bd2_i h
        refine g_callVz hC hZ hk0 kclX10 ly1_9 m_X10_goesToTarget q1089 (Nat.le_of_ble_eq_true rfl) [vr E rg4 0, vi a1] rfl (fun l => c_X10_goesToTarget_p1_9_2_0 l hk0 krg4 hc5) rfl (Nat.le_of_ble_eq_true rfl) (rfl : 40 + 3 = 43) (xdt tt_X0_follow 21 rfl) (fun hb8 => ?_)
        refine g_istore_n hC rfl (by decide) (lv' := [(3, vi v7), (0, vr E r0 0), (1, vi a1), (2, vi a2)]) rfl (rfl : 43 + 1 = 44) (xdt tt_X0_follow 22 rfl) ?_
        refine g_iload_n hC rfl 0 rfl (rfl : 44 + 1 = 45) (xdt tt_X0_follow 23 rfl) ?_
        refine g_if_eq hC (show ((45 : Nat) : Int) + 15 = ((60 : Nat) : Int) by decide) (rfl : 45 + 3 = 48) (xdt tt_X0_follow 24 rfl) (fun hc44 => ?_) (fun hc44 => ?_)
        · replace h := (if_pos hc44).symm.trans h
          refine g_sub [1, 2, 3, 0] (lv' := [(0, vr E r0 0), (1, vi a1), (2, vi a2), (3, vi v7)]) rfl ?_
          exact k_X0_follow_p1_0_b60 hC hZ hE hk0 _ _ _ _ h
        · replace h := (if_neg hc44).symm.trans h
          refine g_aload_n hC rfl 1 rfl (rfl : 48 + 1 = 49) (xdt tt_X0_follow 25 rfl) ?_
          refine g_getI hC hk0 kclX0 ly1_0 9 (by decide) rfl q153 (rfl : 49 + 3 = 52) (xdt tt_X0_follow 26 rfl) ?_
          refine g_iload_n hC rfl 2 rfl (rfl : 52 + 1 = 53) (xdt tt_X0_follow 27 rfl) ?_
          refine g_icmp_ne hC (show ((53 : Nat) : Int) + 7 = ((60 : Nat) : Int) by decide) (rfl : 53 + 3 = 56) (xdt tt_X0_follow 28 rfl) (fun hc43 => ?_) (fun hc43 => ?_)
          · replace h := (if_pos hc43).symm.trans h
            refine g_sub [1, 2, 3, 0] (lv' := [(0, vr E r0 0), (1, vi a1), (2, vi a2), (3, vi v7)]) rfl ?_
            exact k_X0_follow_p1_0_b60 hC hZ hE hk0 _ _ _ _ h
          · replace h := (if_neg hc43).symm.trans h
            refine g_iconst hC (rfl : 56 + 1 = 57) (xdt tt_X0_follow 29 rfl) ?_
            refine g_goto hC (show ((57 : Nat) : Int) + 4 = ((61 : Nat) : Int) by decide) (xdt tt_X0_follow 30 rfl) ?_
            refine g_sub [1, 2, 3, 0] (lv' := [(0, vr E r0 0), (1, vi a1), (2, vi a2), (3, vi v7)]) rfl ?_
            exact k_X0_follow_p1_0_b61 hC hZ hE hk0 _ _ _ _ _ h
      · replace h := (if_neg hc45).symm.trans h
        refine g_iconst hC (rfl : 29 + 1 = 30) (xdt tt_X0_follow 14 rfl) ?_
        cases h
        exact g_iret hC hE (xdt tt_X0_follow 15 rfl)
def f_X0_causeOfNothing_p1_0 (S : xSt) (r0 : Nat) : Option (Int × xSt) :=
  ckP S r0 0 0 2 0 fun rg1 =>
  if wr (gI S r0 0 10) < wr (gI S rg1 0 10) then
    (if wr (gI S r0 0 16) ≤ 0 then
      (if wr (gI S r0 0 13) = 0 then
        (some (1, S))
      else
        (some (2, S)))
    else
      (some (3, S)))
  else
    (some (8, S))
set_option maxRecDepth 100000 in
set_option maxHeartbeats 4000000 in
theorem c_X0_causeOfNothing_p1_0 (l : Launch) {E : xE} {S S' : xSt} {r0 : Nat} (hk0 : xkd E r0 = 1) {v : Int} (h : f_X0_causeOfNothing_p1_0 S r0 = some (v, S')) : Met l yX0_causeOfNothing (xws yX0_causeOfNothing cX0_causeOfNothing 1 (some .int)) (rmD 1) (YPc E [vr E r0 0] S) (YQi E v S') 0 0 (xA E) := by
  unfold f_X0_causeOfNothing_p1_0 at h
  refine met_i (by decide +kernel) (Nat.le_of_ble_eq_true rfl) (fun K hC hZ hE => ?_)
  have hC : xOK K cX0_causeOfNothing RX0 1 (rmE 1 0) := hC
  show WG K E 0 [(0, vr E r0 0)] [] S
  refine g_aload_n hC rfl 0 rfl (rfl : 0 + 1 = 1) (xdt tt_X0_causeOfNothing 0 rfl) ?_
  refine g_getI hC hk0 kclX0 ly1_0 10 (by decide) rfl q154 (rfl : 1 + 3 = 4) (xdt tt_X0_causeOfNothing 1 rfl) ?_
  refine g_aload_n hC rfl 0 rfl (rfl : 4 + 1 = 5) (xdt tt_X0_causeOfNothing 2 rfl) ?_
  obtain ⟨rg1, hrg1, grg1, h⟩ := ckP_i h
  refine g_getV hC hk0 kclX0 ly1_0 0 (by decide) rfl hrg1 grg1 q146 (rfl : 5 + 3 = 8) (xdt tt_X0_causeOfNothing 3 rfl) (fun krg1 => ?_)
  refine g_getI hC krg1 kclX5 ly2_0 10 (by decide) rfl q644 (rfl : 8 + 3 = 11) (xdt tt_X0_causeOfNothing 4 rfl) ?_
  refine g_icmp_lt hC (show ((11 : Nat) : Int) + 6 = ((17 : Nat) : Int) by decide) (rfl : 11 + 3 = 14) (xdt tt_X0_causeOfNothing 5 rfl) (fun hc4 => ?_) (fun hc4 => ?_)
  · replace h := (if_pos hc4).symm.trans h
    refine g_aload_n hC rfl 0 rfl (rfl : 17 + 1 = 18) (xdt tt_X0_causeOfNothing 8 rfl) ?_
    refine g_getI hC hk0 kclX0 ly1_0 16 (by decide) rfl q160 (rfl : 18 + 3 = 21) (xdt tt_X0_causeOfNothing 9 rfl) ?_
    refine g_if_le hC (show ((21 : Nat) : Int) + 5 = ((26 : Nat) : Int) by decide) (rfl : 21 + 3 = 24) (xdt tt_X0_causeOfNothing 10 rfl) (fun hc3 => ?_) (fun hc3 => ?_)
    · replace h := (if_pos hc3).symm.trans h
      refine g_aload_n hC rfl 0 rfl (rfl : 26 + 1 = 27) (xdt tt_X0_causeOfNothing 13 rfl) ?_
      refine g_getI hC hk0 kclX0 ly1_0 13 (by decide) rfl q157 (rfl : 27 + 3 = 30) (xdt tt_X0_causeOfNothing 14 rfl) ?_
      refine g_if_eq hC (show ((30 : Nat) : Int) + 7 = ((37 : Nat) : Int) by decide) (rfl : 30 + 3 = 33) (xdt tt_X0_causeOfNothing 15 rfl) (fun hc2 => ?_) (fun hc2 => ?_)
      · replace h := (if_pos hc2).symm.trans h
        refine g_iconst hC (rfl : 37 + 1 = 38) (xdt tt_X0_causeOfNothing 18 rfl) ?_
        cases h
        exact g_iret hC hE (xdt tt_X0_causeOfNothing 19 rfl)
      · replace h := (if_neg hc2).symm.trans h
        refine g_iconst hC (rfl : 33 + 1 = 34) (xdt tt_X0_causeOfNothing 16 rfl) ?_
        refine g_goto hC (show ((34 : Nat) : Int) + 4 = ((38 : Nat) : Int) by decide) (xdt tt_X0_causeOfNothing 17 rfl) ?_
        cases h
        exact g_iret hC hE (xdt tt_X0_causeOfNothing 19 rfl)
    · replace h := (if_neg hc3).symm.trans h
      refine g_iconst hC (rfl : 24 + 1 = 25) (xdt tt_X0_causeOfNothing 11 rfl) ?_
      cases h
      exact g_iret hC hE (xdt tt_X0_causeOfNothing 12 rfl)
  · replace h := (if_neg hc4).symm.trans h
    refine g_bipush hC (by decide) (rfl : 14 + 2 = 16) (xdt tt_X0_causeOfNothing 6 rfl) ?_
    cases h
    exact g_iret hC hE (xdt tt_X0_causeOfNothing 7 rfl)
def f_X0_isFused_p1_0_b60 (r0 : Nat) (S : xSt) (x1 : Int) (s0 : Int) : Option (Int × xSt) :=
  if wr s0 = 0 then
    (some (0, S))
  else
    (bd2 (f_X0_fusesWithNext_p1_0 S r0 x1) fun v3 S2 =>
    if wr v3 = 0 then
      (some (0, S2))
    else
      (some (1, S2)))
def f_X0_isFused_p1_0_b59 (r0 : Nat) (S : xSt) (x1 : Int) : Option (Int × xSt) :=
  f_X0_isFused_p1_0_b60 r0 S x1 0
def f_X0_isFused_p1_0 (S : xSt) (r0 : Nat) (a1 : Int) : Option (Int × xSt) :=
  if wr (gI S r0 8 0) = 0 then
    (if wr (gI S r0 5 2) ≤ wr 1 then
      (f_X0_isFused_p1_0_b59 r0 S a1)
    else
      (if ¬ wr (gI S r0 6 1) = wr (a1 + 1) then
        (f_X0_isFused_p1_0_b59 r0 S a1)
      else
        (f_X0_isFused_p1_0_b60 r0 S a1 1)))
  else
    (if wr (gI S r0 8 2) ≤ wr a1 then
      (f_X0_isFused_p1_0_b60 r0 S a1 0)
    else
      (f_X0_isFused_p1_0_b60 r0 S a1 1))
set_option maxRecDepth 100000 in
set_option maxHeartbeats 4000000 in
theorem k_X0_isFused_p1_0_b60 {K : xCtx} {E : xE} {b : Nat} (hC : xOK K cX0_isFused RX0 3 (rmE 3 b)) (hZ : xZ K) {v : Int} {S' : xSt} (hE : xEnd K E (some .boolean) (YQz E v S')) {r0 : Nat} (hk0 : xkd E r0 = 1) : ∀ (S : xSt) (x1 : Int) (s0 : Int), f_X0_isFused_p1_0_b60 r0 S x1 s0 = some (v, S') → WG K E 60 [(0, vr E r0 0), (1, vi x1)] [vi s0] S := by
  intro S x1 s0 h
  unfold f_X0_isFused_p1_0_b60 at h
  refine g_istore_n hC rfl (by decide) (lv' := [(2, vi s0), (0, vr E r0 0), (1, vi x1)]) rfl (rfl : 60 + 1 = 61) (xdt tt_X0_isFused 30 rfl) ?_
  refine g_iload_n hC rfl 0 rfl (rfl : 61 + 1 = 62) (xdt tt_X0_isFused 31 rfl) ?_
  refine g_if_eq hC (show ((62 : Nat) : Int) + 15 = ((77 : Nat) : Int) by decide) (rfl : 62 + 3 = 65) (xdt tt_X0_isFused 32 rfl) (fun hc6 => ?_) (fun hc6 => ?_)
  · replace h := (if_pos hc6).symm.trans h
    refine g_iconst hC (rfl : 77 + 1 = 78) (xdt tt_X0_isFused 39 rfl) ?_
    cases h
    exact g_zret hC hE (Or.inl rfl) (xdt tt_X0_isFused 40 rfl)
  · replace h := (if_neg hc6).symm.trans h
    refine g_aload_n hC rfl 1 rfl (rfl : 65 + 1 = 66) (xdt tt_X0_isFused 33 rfl) ?_
    refine g_iload_n hC rfl 2 rfl (rfl : 66 + 1 = 67) (xdt tt_X0_isFused 34 rfl) ?_
    obtain ⟨v3, S2, hc1, h⟩ := bd2_i h
    refine g_callVz hC hZ hk0 kclX0 ly1_0 m_X0_fusesWithNext q1054 (Nat.le_of_ble_eq_true rfl) [vi x1] rfl (fun l => c_X0_fusesWithNext_p1_0 l hk0 hc1) rfl (Nat.le_of_ble_eq_true rfl) (rfl : 67 + 3 = 70) (xdt tt_X0_isFused 35 rfl) (fun hb4 => ?_)
    refine g_if_eq hC (show ((70 : Nat) : Int) + 7 = ((77 : Nat) : Int) by decide) (rfl : 70 + 3 = 73) (xdt tt_X0_isFused 36 rfl) (fun hc5 => ?_) (fun hc5 => ?_)
    · replace h := (if_pos hc5).symm.trans h
      refine g_iconst hC (rfl : 77 + 1 = 78) (xdt tt_X0_isFused 39 rfl) ?_
      cases h
      exact g_zret hC hE (Or.inl rfl) (xdt tt_X0_isFused 40 rfl)
    · replace h := (if_neg hc5).symm.trans h
      refine g_iconst hC (rfl : 73 + 1 = 74) (xdt tt_X0_isFused 37 rfl) ?_
      refine g_goto hC (show ((74 : Nat) : Int) + 4 = ((78 : Nat) : Int) by decide) (xdt tt_X0_isFused 38 rfl) ?_
      cases h
      exact g_zret hC hE (Or.inr rfl) (xdt tt_X0_isFused 40 rfl)
set_option maxRecDepth 100000 in
set_option maxHeartbeats 4000000 in
theorem k_X0_isFused_p1_0_b59 {K : xCtx} {E : xE} {b : Nat} (hC : xOK K cX0_isFused RX0 3 (rmE 3 b)) (hZ : xZ K) {v : Int} {S' : xSt} (hE : xEnd K E (some .boolean) (YQz E v S')) {r0 : Nat} (hk0 : xkd E r0 = 1) : ∀ (S : xSt) (x1 : Int), f_X0_isFused_p1_0_b59 r0 S x1 = some (v, S') → WG K E 59 [(0, vr E r0 0), (1, vi x1)] [] S := by
  intro S x1 h
  unfold f_X0_isFused_p1_0_b59 at h
  refine g_iconst hC (rfl : 59 + 1 = 60) (xdt tt_X0_isFused 29 rfl) ?_
  refine g_sub [0, 1] (lv' := [(0, vr E r0 0), (1, vi x1)]) rfl ?_
  exact k_X0_isFused_p1_0_b60 hC hZ hE hk0 _ _ _ h
set_option maxRecDepth 100000 in
set_option maxHeartbeats 4000000 in
theorem c_X0_isFused_p1_0 (l : Launch) {E : xE} {S S' : xSt} {r0 : Nat} {a1 : Int} (hk0 : xkd E r0 = 1) {v : Int} (h : f_X0_isFused_p1_0 S r0 a1 = some (v, S')) : Met l yX0_isFused (xws yX0_isFused cX0_isFused 3 (some .boolean)) (rmD 3) (YPc E [vr E r0 0, vi a1] S) (YQz E v S') 0 0 (xA E) := by
  unfold f_X0_isFused_p1_0 at h
  refine met_z (by decide +kernel) (Nat.le_of_ble_eq_true rfl) (fun K hC hZ hE => ?_)
  have hC : xOK K cX0_isFused RX0 3 (rmE 3 0) := hC
  show WG K E 0 [(0, vr E r0 0), (1, vi a1)] [] S
  refine g_aload_n hC rfl 0 rfl (rfl : 0 + 1 = 1) (xdt tt_X0_isFused 0 rfl) ?_
  refine g_getP hC hk0 kclX0 ly1_0 4 (by decide) (rfl : r0 + 0 = r0) rfl q106 (rfl : 1 + 3 = 4) (xdt tt_X0_isFused 1 rfl) ?_
  refine g_getI hC hk0 kclX7 ly1_8 0 (by decide) rfl q151 (rfl : 4 + 3 = 7) (xdt tt_X0_isFused 2 rfl) ?_
  refine g_if_eq hC (show ((7 : Nat) : Int) + 22 = ((29 : Nat) : Int) by decide) (rfl : 7 + 3 = 10) (xdt tt_X0_isFused 3 rfl) (fun hc10 => ?_) (fun hc10 => ?_)
  · replace h := (if_pos hc10).symm.trans h
    refine g_aload_n hC rfl 0 rfl (rfl : 29 + 1 = 30) (xdt tt_X0_isFused 13 rfl) ?_
    refine g_getP hC hk0 kclX0 ly1_0 3 (by decide) (rfl : r0 + 0 = r0) rfl q102 (rfl : 30 + 3 = 33) (xdt tt_X0_isFused 14 rfl) ?_
    refine g_getI hC hk0 kclX6 ly1_5 2 (by decide) rfl q150 (rfl : 33 + 3 = 36) (xdt tt_X0_isFused 15 rfl) ?_
    refine g_iconst hC (rfl : 36 + 1 = 37) (xdt tt_X0_isFused 16 rfl) ?_
    refine g_icmp_le hC (show ((37 : Nat) : Int) + 22 = ((59 : Nat) : Int) by decide) (rfl : 37 + 3 = 40) (xdt tt_X0_isFused 17 rfl) (fun hc8 => ?_) (fun hc8 => ?_)
    · replace h := (if_pos hc8).symm.trans h
      refine g_sub [0, 1] (lv' := [(0, vr E r0 0), (1, vi a1)]) rfl ?_
      exact k_X0_isFused_p1_0_b59 hC hZ hE hk0 _ _ h
    · replace h := (if_neg hc8).symm.trans h
      refine g_aload_n hC rfl 0 rfl (rfl : 40 + 1 = 41) (xdt tt_X0_isFused 18 rfl) ?_
      refine g_getP hC hk0 kclX0 ly1_0 3 (by decide) (rfl : r0 + 0 = r0) rfl q102 (rfl : 41 + 3 = 44) (xdt tt_X0_isFused 19 rfl) ?_
      refine g_getP hC hk0 kclX6 ly1_5 0 (by decide) (rfl : r0 + 0 = r0) rfl q1048 (rfl : 44 + 3 = 47) (xdt tt_X0_isFused 20 rfl) ?_
      refine g_iconst hC (rfl : 47 + 1 = 48) (xdt tt_X0_isFused 21 rfl) ?_
      refine g_iald hC hk0 ly1_6 (by decide) (rfl : 48 + 1 = 49) (xdt tt_X0_isFused 22 rfl) (k0 := 1) (by decide) ?_
      refine g_iload_n hC rfl 1 rfl (rfl : 49 + 1 = 50) (xdt tt_X0_isFused 23 rfl) ?_
      refine g_iconst hC (rfl : 50 + 1 = 51) (xdt tt_X0_isFused 24 rfl) ?_
      refine g_iadd hC (rfl : 51 + 1 = 52) (xdt tt_X0_isFused 25 rfl) ?_
      refine g_icmp_ne hC (show ((52 : Nat) : Int) + 7 = ((59 : Nat) : Int) by decide) (rfl : 52 + 3 = 55) (xdt tt_X0_isFused 26 rfl) (fun hc7 => ?_) (fun hc7 => ?_)
      · replace h := (if_pos hc7).symm.trans h
        refine g_sub [0, 1] (lv' := [(0, vr E r0 0), (1, vi a1)]) rfl ?_
        exact k_X0_isFused_p1_0_b59 hC hZ hE hk0 _ _ h
      · replace h := (if_neg hc7).symm.trans h
        refine g_iconst hC (rfl : 55 + 1 = 56) (xdt tt_X0_isFused 27 rfl) ?_
        refine g_goto hC (show ((56 : Nat) : Int) + 4 = ((60 : Nat) : Int) by decide) (xdt tt_X0_isFused 28 rfl) ?_
        refine g_sub [0, 1] (lv' := [(0, vr E r0 0), (1, vi a1)]) rfl ?_
        exact k_X0_isFused_p1_0_b60 hC hZ hE hk0 _ _ _ h
  · replace h := (if_neg hc10).symm.trans h
    refine g_iload_n hC rfl 1 rfl (rfl : 10 + 1 = 11) (xdt tt_X0_isFused 4 rfl) ?_
    refine g_aload_n hC rfl 0 rfl (rfl : 11 + 1 = 12) (xdt tt_X0_isFused 5 rfl) ?_
    refine g_getP hC hk0 kclX0 ly1_0 4 (by decide) (rfl : r0 + 0 = r0) rfl q106 (rfl : 12 + 3 = 15) (xdt tt_X0_isFused 6 rfl) ?_
    refine g_getI hC hk0 kclX7 ly1_8 2 (by decide) rfl q1053 (rfl : 15 + 3 = 18) (xdt tt_X0_isFused 7 rfl) ?_
    refine g_icmp_ge hC (show ((18 : Nat) : Int) + 7 = ((25 : Nat) : Int) by decide) (rfl : 18 + 3 = 21) (xdt tt_X0_isFused 8 rfl) (fun hc9 => ?_) (fun hc9 => ?_)
    · replace h := (if_pos hc9).symm.trans h
      refine g_iconst hC (rfl : 25 + 1 = 26) (xdt tt_X0_isFused 11 rfl) ?_
      refine g_goto hC (show ((26 : Nat) : Int) + 34 = ((60 : Nat) : Int) by decide) (xdt tt_X0_isFused 12 rfl) ?_
      refine g_sub [0, 1] (lv' := [(0, vr E r0 0), (1, vi a1)]) rfl ?_
      exact k_X0_isFused_p1_0_b60 hC hZ hE hk0 _ _ _ h
    · replace h := (if_neg hc9).symm.trans h
      refine g_iconst hC (rfl : 21 + 1 = 22) (xdt tt_X0_isFused 9 rfl) ?_
      refine g_goto hC (show ((22 : Nat) : Int) + 38 = ((60 : Nat) : Int) by decide) (xdt tt_X0_isFused 10 rfl) ?_
      refine g_sub [0, 1] (lv' := [(0, vr E r0 0), (1, vi a1)]) rfl ?_
      exact k_X0_isFused_p1_0_b60 hC hZ hE hk0 _ _ _ h
def f_X0_decodeLanes_p1_0_b141 (r0 : Nat) (S : xSt) (x1 : Int) (x2 : Int) (x3 : Int) : Option (xSt) :=
  bd (f_X9_addUnused_p1_14 S r0 x3 (x1 - x2)) fun S2 =>
  some S2
def f_X0_decodeLanes_p1_0_b106 (c33 : xSt → Int → Int → Int → Int → Option (xSt)) (r0 : Nat) (S : xSt) (x1 : Int) (x2 : Int) (x4 : Int) (x5 : Int) (x6 : Int) (x7 : Int) (s0 : Int) : Option (xSt) :=
  if ¬ wr s0 = 0 then
    (c33 S x1 x2 s0 (x4 + 1))
  else
    (bd2 (f_X0_decodeUnit_p1_0 S r0 x5 x6 x7) fun v14 S13 =>
    bd2 (f_X0_follow_p1_0 S13 r0 x6 v14) fun v18 S17 =>
    c33 S17 x1 (x2 + 1) v18 (x4 + 1))
def f_X0_decodeLanes_p1_0_b73 (c33 : xSt → Int → Int → Int → Int → Option (xSt)) (r0 : Nat) (S : xSt) (x1 : Int) (x2 : Int) (x4 : Int) (x5 : Int) (s0 : Int) : Option (xSt) :=
  bd2 (f_X0_opsOfUnit_p1_0 S r0 x5 s0) fun v8 S7 =>
  if ¬ wr x5 = wr (-1) then
    (bd2 (f_X0_causeOfStop_p1_0 S7 r0 x4 v8) fun v11 S10 =>
    f_X0_decodeLanes_p1_0_b106 (c33) r0 S10 x1 x2 x4 x5 s0 v8 v11)
  else
    (bd2 (f_X0_causeOfNothing_p1_0 S7 r0) fun v22 S21 =>
    f_X0_decodeLanes_p1_0_b106 (c33) r0 S21 x1 x2 x4 x5 s0 v8 v22)
def f_X0_decodeLanes_p1_0_b71 (c33 : xSt → Int → Int → Int → Int → Option (xSt)) (r0 : Nat) (S : xSt) (x1 : Int) (x2 : Int) (x4 : Int) (x5 : Int) : Option (xSt) :=
  f_X0_decodeLanes_p1_0_b73 (c33) r0 S x1 x2 x4 x5 x5
def f_X0_decodeLanes_p1_0_b33 (r0 : Nat) : Nat → xSt → Int → Int → Int → Int → Option (xSt)
  | 0, _, _, _, _, _ => none
  | fuel + 1, S, x1, x2, x3, x4 =>
    if wr x1 ≤ wr x4 then
      (f_X0_decodeLanes_p1_0_b141 r0 S x1 x2 x3)
    else
      (if ¬ wr x3 = 0 then
        (f_X0_decodeLanes_p1_0_b141 r0 S x1 x2 x3)
      else
        (bd2 (f_X0_nextNumber_p1_0 S r0) fun v5 S4 =>
        if wr v5 = wr (-1) then
          (f_X0_decodeLanes_p1_0_b71 ((f_X0_decodeLanes_p1_0_b33 r0 fuel)) r0 S4 x1 x2 x4 v5)
        else
          (bd2 (f_X0_isFused_p1_0 S4 r0 v5) fun v26 S25 =>
          if wr v26 = 0 then
            (f_X0_decodeLanes_p1_0_b71 ((f_X0_decodeLanes_p1_0_b33 r0 fuel)) r0 S25 x1 x2 x4 v5)
          else
            (f_X0_decodeLanes_p1_0_b73 ((f_X0_decodeLanes_p1_0_b33 r0 fuel)) r0 S25 x1 x2 x4 v5 (v5 + 1)))))
def f_X0_decodeLanes_p1_0 (S : xSt) (r0 : Nat) : Option (xSt) :=
  if wr (gI S r0 0 15) ≤ 0 then
    (f_X0_decodeLanes_p1_0_b33 r0 (fu S) S (gI S r0 1 0) 0 0 0)
  else
    (lt1 (wI S r0 0 15 ((gI S r0 0 15) - 1)) fun S32 =>
    f_X0_decodeLanes_p1_0_b33 r0 (fu S32) S32 (gI S r0 1 0) 0 4 0)
set_option maxRecDepth 100000 in
set_option maxHeartbeats 4000000 in
theorem k_X0_decodeLanes_p1_0_b141 {K : xCtx} {E : xE} {b : Nat} (hC : xOK K cX0_decodeLanes RX0 9 (rmE 4 b)) (hZ : xZ K) {S' : xSt} (hE : xEnd K E none (YQv E S')) {r0 : Nat} (hk0 : xkd E r0 = 1) : ∀ (S : xSt) (x1 : Int) (x2 : Int) (x3 : Int), f_X0_decodeLanes_p1_0_b141 r0 S x1 x2 x3 = some S' → WG K E 141 [(0, vr E r0 0), (1, vi x1), (2, vi x2), (3, vi x3)] [] S := by
  intro S x1 x2 x3 h
  unfold f_X0_decodeLanes_p1_0_b141 at h
  refine g_aload_n hC rfl 0 rfl (rfl : 141 + 1 = 142) (xdt tt_X0_decodeLanes 75 rfl) ?_
  refine g_getP hC hk0 kclX0 ly1_0 7 (by decide) (rfl : r0 + 0 = r0) rfl q116 (rfl : 142 + 3 = 145) (xdt tt_X0_decodeLanes 76 rfl) ?_
  refine g_iload_n hC rfl 3 rfl (rfl : 145 + 1 = 146) (xdt tt_X0_decodeLanes 77 rfl) ?_
  refine g_iload_n hC rfl 1 rfl (rfl : 146 + 1 = 147) (xdt tt_X0_decodeLanes 78 rfl) ?_
  refine g_iload_n hC rfl 2 rfl (rfl : 147 + 1 = 148) (xdt tt_X0_decodeLanes 79 rfl) ?_
  refine g_isub hC (rfl : 148 + 1 = 149) (xdt tt_X0_decodeLanes 80 rfl) ?_
  obtain ⟨S2, hc1, h⟩ := bd_i h
  refine g_callVv hC hZ hk0 kclX9 ly1_14 m_X9_addUnused q1112 (Nat.le_of_ble_eq_true rfl) [vi x3, vi (x1 - x2)] rfl (fun l => c_X9_addUnused_p1_14 l hk0 hc1) rfl (Nat.le_of_ble_eq_true rfl) (rfl : 149 + 3 = 152) (xdt tt_X0_decodeLanes 81 rfl) ?_
  cases h
  exact g_vret hC hE (xdt tt_X0_decodeLanes 82 rfl)
set_option maxRecDepth 100000 in
set_option maxHeartbeats 4000000 in
theorem k_X0_decodeLanes_p1_0_b106 {K : xCtx} {E : xE} {b : Nat} (hC : xOK K cX0_decodeLanes RX0 9 (rmE 4 b)) (hZ : xZ K) {S' : xSt} (hE : xEnd K E none (YQv E S')) {r0 : Nat} (hk0 : xkd E r0 = 1) {c33 : xSt → Int → Int → Int → Int → Option (xSt)} (hrec33 : ∀ (S : xSt) (x1 : Int) (x2 : Int) (x3 : Int) (x4 : Int), c33 S x1 x2 x3 x4 = some S' → WG K E 33 [(0, vr E r0 0), (1, vi x1), (2, vi x2), (3, vi x3), (4, vi x4)] [] S) : ∀ (S : xSt) (x1 : Int) (x2 : Int) (x4 : Int) (x5 : Int) (x6 : Int) (x7 : Int) (s0 : Int), f_X0_decodeLanes_p1_0_b106 c33 r0 S x1 x2 x4 x5 x6 x7 s0 = some S' → WG K E 106 [(0, vr E r0 0), (1, vi x1), (2, vi x2), (4, vi x4), (5, vi x5), (6, vi x6), (7, vi x7)] [vi s0] S := by
  intro S x1 x2 x4 x5 x6 x7 s0 h
  unfold f_X0_decodeLanes_p1_0_b106 at h
  refine g_istore_n hC rfl (by decide) (lv' := [(3, vi s0), (0, vr E r0 0), (1, vi x1), (2, vi x2), (4, vi x4), (5, vi x5), (6, vi x6), (7, vi x7)]) rfl (rfl : 106 + 1 = 107) (xdt tt_X0_decodeLanes 58 rfl) ?_
  refine g_iload_n hC rfl 0 rfl (rfl : 107 + 1 = 108) (xdt tt_X0_decodeLanes 59 rfl) ?_
  refine g_if_ne hC (show ((108 : Nat) : Int) + 27 = ((135 : Nat) : Int) by decide) (rfl : 108 + 3 = 111) (xdt tt_X0_decodeLanes 60 rfl) (fun hc19 => ?_) (fun hc19 => ?_)
  · replace h := (if_pos hc19).symm.trans h
    refine g_iinc hC 4 rfl (by decide) (lv' := [(4, vi (x4 + 1)), (3, vi s0), (0, vr E r0 0), (1, vi x1), (2, vi x2), (5, vi x5), (6, vi x6), (7, vi x7)]) rfl (rfl : 135 + 3 = 138) (xdt tt_X0_decodeLanes 73 rfl) ?_
    refine g_goto hC (show ((138 : Nat) : Int) + (-105) = ((33 : Nat) : Int) by decide) (xdt tt_X0_decodeLanes 74 rfl) ?_
    refine g_sub [2, 3, 4, 1, 0] (lv' := [(0, vr E r0 0), (1, vi x1), (2, vi x2), (3, vi s0), (4, vi (x4 + 1))]) rfl ?_
    exact hrec33 _ _ _ _ _ h
  · replace h := (if_neg hc19).symm.trans h
    refine g_aload_n hC rfl 1 rfl (rfl : 111 + 1 = 112) (xdt tt_X0_decodeLanes 61 rfl) ?_
    refine g_iload hC 5 rfl (rfl : 112 + 2 = 114) (xdt tt_X0_decodeLanes 62 rfl) ?_
    refine g_iload hC 6 rfl (rfl : 114 + 2 = 116) (xdt tt_X0_decodeLanes 63 rfl) ?_
    refine g_iload hC 7 rfl (rfl : 116 + 2 = 118) (xdt tt_X0_decodeLanes 64 rfl) ?_
    obtain ⟨v14, S13, hc12, h⟩ := bd2_i h
    refine g_callVz hC hZ hk0 kclX0 ly1_0 m_X0_decodeUnit q1068 (Nat.le_of_ble_eq_true rfl) [vi x5, vi x6, vi x7] rfl (fun l => c_X0_decodeUnit_p1_0 l hk0 hc12) rfl (Nat.le_of_ble_eq_true rfl) (rfl : 118 + 3 = 121) (xdt tt_X0_decodeLanes 65 rfl) (fun hb15 => ?_)
    refine g_istore hC (by decide) (lv' := [(8, vi v14), (3, vi s0), (0, vr E r0 0), (1, vi x1), (2, vi x2), (4, vi x4), (5, vi x5), (6, vi x6), (7, vi x7)]) rfl (rfl : 121 + 2 = 123) (xdt tt_X0_decodeLanes 66 rfl) ?_
    refine g_aload_n hC rfl 2 rfl (rfl : 123 + 1 = 124) (xdt tt_X0_decodeLanes 67 rfl) ?_
    refine g_iload hC 7 rfl (rfl : 124 + 2 = 126) (xdt tt_X0_decodeLanes 68 rfl) ?_
    refine g_iload hC 0 rfl (rfl : 126 + 2 = 128) (xdt tt_X0_decodeLanes 69 rfl) ?_
    obtain ⟨v18, S17, hc16, h⟩ := bd2_i h
    refine g_callVi hC hZ hk0 kclX0 ly1_0 m_X0_follow q1084 (Nat.le_of_ble_eq_true rfl) [vi x6, vi v14] rfl (fun l => c_X0_follow_p1_0 l hk0 hc16) rfl (Nat.le_of_ble_eq_true rfl) (rfl : 128 + 3 = 131) (xdt tt_X0_decodeLanes 70 rfl) ?_
    refine g_istore_n hC rfl (by decide) (lv' := [(3, vi v18), (8, vi v14), (0, vr E r0 0), (1, vi x1), (2, vi x2), (4, vi x4), (5, vi x5), (6, vi x6), (7, vi x7)]) rfl (rfl : 131 + 1 = 132) (xdt tt_X0_decodeLanes 71 rfl) ?_
    refine g_iinc hC 4 rfl (by decide) (lv' := [(2, vi (x2 + 1)), (3, vi v18), (8, vi v14), (0, vr E r0 0), (1, vi x1), (4, vi x4), (5, vi x5), (6, vi x6), (7, vi x7)]) rfl (rfl : 132 + 3 = 135) (xdt tt_X0_decodeLanes 72 rfl) ?_
    refine g_iinc hC 5 rfl (by decide) (lv' := [(4, vi (x4 + 1)), (2, vi (x2 + 1)), (3, vi v18), (8, vi v14), (0, vr E r0 0), (1, vi x1), (5, vi x5), (6, vi x6), (7, vi x7)]) rfl (rfl : 135 + 3 = 138) (xdt tt_X0_decodeLanes 73 rfl) ?_
    refine g_goto hC (show ((138 : Nat) : Int) + (-105) = ((33 : Nat) : Int) by decide) (xdt tt_X0_decodeLanes 74 rfl) ?_
    refine g_sub [4, 5, 1, 2, 0] (lv' := [(0, vr E r0 0), (1, vi x1), (2, vi (x2 + 1)), (3, vi v18), (4, vi (x4 + 1))]) rfl ?_
    exact hrec33 _ _ _ _ _ h
set_option maxRecDepth 100000 in
set_option maxHeartbeats 4000000 in
theorem k_X0_decodeLanes_p1_0_b73 {K : xCtx} {E : xE} {b : Nat} (hC : xOK K cX0_decodeLanes RX0 9 (rmE 4 b)) (hZ : xZ K) {S' : xSt} (hE : xEnd K E none (YQv E S')) {r0 : Nat} (hk0 : xkd E r0 = 1) {c33 : xSt → Int → Int → Int → Int → Option (xSt)} (hrec33 : ∀ (S : xSt) (x1 : Int) (x2 : Int) (x3 : Int) (x4 : Int), c33 S x1 x2 x3 x4 = some S' → WG K E 33 [(0, vr E r0 0), (1, vi x1), (2, vi x2), (3, vi x3), (4, vi x4)] [] S) : ∀ (S : xSt) (x1 : Int) (x2 : Int) (x4 : Int) (x5 : Int) (s0 : Int), f_X0_decodeLanes_p1_0_b73 c33 r0 S x1 x2 x4 x5 s0 = some S' → WG K E 73 [(0, vr E r0 0), (1, vi x1), (2, vi x2), (4, vi x4), (5, vi x5)] [vi s0] S := by
  intro S x1 x2 x4 x5 s0 h
  unfold f_X0_decodeLanes_p1_0_b73 at h
  refine g_istore hC (by decide) (lv' := [(6, vi s0), (0, vr E r0 0), (1, vi x1), (2, vi x2), (4, vi x4), (5, vi x5)]) rfl (rfl : 73 + 2 = 75) (xdt tt_X0_decodeLanes 42 rfl) ?_
  refine g_aload_n hC rfl 1 rfl (rfl : 75 + 1 = 76) (xdt tt_X0_decodeLanes 43 rfl) ?_
  refine g_iload hC 5 rfl (rfl : 76 + 2 = 78) (xdt tt_X0_decodeLanes 44 rfl) ?_
  refine g_iload hC 0 rfl (rfl : 78 + 2 = 80) (xdt tt_X0_decodeLanes 45 rfl) ?_
  obtain ⟨v8, S7, hc6, h⟩ := bd2_i h
  refine g_callVi hC hZ hk0 kclX0 ly1_0 m_X0_opsOfUnit q1055 (Nat.le_of_ble_eq_true rfl) [vi x5, vi s0] rfl (fun l => c_X0_opsOfUnit_p1_0 l hk0 hc6) rfl (Nat.le_of_ble_eq_true rfl) (rfl : 80 + 3 = 83) (xdt tt_X0_decodeLanes 46 rfl) ?_
  refine g_istore hC (by decide) (lv' := [(7, vi v8), (6, vi s0), (0, vr E r0 0), (1, vi x1), (2, vi x2), (4, vi x4), (5, vi x5)]) rfl (rfl : 83 + 2 = 85) (xdt tt_X0_decodeLanes 47 rfl) ?_
  refine g_iload hC 6 rfl (rfl : 85 + 2 = 87) (xdt tt_X0_decodeLanes 48 rfl) ?_
  refine g_iconst hC (rfl : 87 + 1 = 88) (xdt tt_X0_decodeLanes 49 rfl) ?_
  refine g_icmp_ne hC (show ((88 : Nat) : Int) + 10 = ((98 : Nat) : Int) by decide) (rfl : 88 + 3 = 91) (xdt tt_X0_decodeLanes 50 rfl) (fun hc23 => ?_) (fun hc23 => ?_)
  · replace h := (if_pos hc23).symm.trans h
    refine g_aload_n hC rfl 2 rfl (rfl : 98 + 1 = 99) (xdt tt_X0_decodeLanes 54 rfl) ?_
    refine g_iload hC 5 rfl (rfl : 99 + 2 = 101) (xdt tt_X0_decodeLanes 55 rfl) ?_
    refine g_iload hC 0 rfl (rfl : 101 + 2 = 103) (xdt tt_X0_decodeLanes 56 rfl) ?_
    obtain ⟨v11, S10, hc9, h⟩ := bd2_i h
    refine g_callVi hC hZ hk0 kclX0 ly1_0 m_X0_causeOfStop q1064 (Nat.le_of_ble_eq_true rfl) [vi x4, vi v8] rfl (fun l => c_X0_causeOfStop_p1_0 l hk0 hc9) rfl (Nat.le_of_ble_eq_true rfl) (rfl : 103 + 3 = 106) (xdt tt_X0_decodeLanes 57 rfl) ?_
    refine g_sub [2, 3, 4, 5, 6, 1, 0] (lv' := [(0, vr E r0 0), (1, vi x1), (2, vi x2), (4, vi x4), (5, vi x5), (6, vi s0), (7, vi v8)]) rfl ?_
    exact k_X0_decodeLanes_p1_0_b106 hC hZ hE hk0 hrec33 _ _ _ _ _ _ _ _ h
  · replace h := (if_neg hc23).symm.trans h
    refine g_aload_n hC rfl 2 rfl (rfl : 91 + 1 = 92) (xdt tt_X0_decodeLanes 51 rfl) ?_
    obtain ⟨v22, S21, hc20, h⟩ := bd2_i h
    refine g_callVi hC hZ hk0 kclX0 ly1_0 m_X0_causeOfNothing q1060 (Nat.le_of_ble_eq_true rfl) [] rfl (fun l => c_X0_causeOfNothing_p1_0 l hk0 hc20) rfl (Nat.le_of_ble_eq_true rfl) (rfl : 92 + 3 = 95) (xdt tt_X0_decodeLanes 52 rfl) ?_
    refine g_goto hC (show ((95 : Nat) : Int) + 11 = ((106 : Nat) : Int) by decide) (xdt tt_X0_decodeLanes 53 rfl) ?_
    refine g_sub [2, 3, 4, 5, 6, 1, 0] (lv' := [(0, vr E r0 0), (1, vi x1), (2, vi x2), (4, vi x4), (5, vi x5), (6, vi s0), (7, vi v8)]) rfl ?_
    exact k_X0_decodeLanes_p1_0_b106 hC hZ hE hk0 hrec33 _ _ _ _ _ _ _ _ h
set_option maxRecDepth 100000 in
set_option maxHeartbeats 4000000 in
theorem k_X0_decodeLanes_p1_0_b71 {K : xCtx} {E : xE} {b : Nat} (hC : xOK K cX0_decodeLanes RX0 9 (rmE 4 b)) (hZ : xZ K) {S' : xSt} (hE : xEnd K E none (YQv E S')) {r0 : Nat} (hk0 : xkd E r0 = 1) {c33 : xSt → Int → Int → Int → Int → Option (xSt)} (hrec33 : ∀ (S : xSt) (x1 : Int) (x2 : Int) (x3 : Int) (x4 : Int), c33 S x1 x2 x3 x4 = some S' → WG K E 33 [(0, vr E r0 0), (1, vi x1), (2, vi x2), (3, vi x3), (4, vi x4)] [] S) : ∀ (S : xSt) (x1 : Int) (x2 : Int) (x4 : Int) (x5 : Int), f_X0_decodeLanes_p1_0_b71 c33 r0 S x1 x2 x4 x5 = some S' → WG K E 71 [(0, vr E r0 0), (1, vi x1), (2, vi x2), (4, vi x4), (5, vi x5)] [] S := by
  intro S x1 x2 x4 x5 h
  unfold f_X0_decodeLanes_p1_0_b71 at h
  refine g_iload hC 4 rfl (rfl : 71 + 2 = 73) (xdt tt_X0_decodeLanes 41 rfl) ?_
  refine g_sub [0, 1, 2, 3, 4] (lv' := [(0, vr E r0 0), (1, vi x1), (2, vi x2), (4, vi x4), (5, vi x5)]) rfl ?_
  exact k_X0_decodeLanes_p1_0_b73 hC hZ hE hk0 hrec33 _ _ _ _ _ _ h
set_option maxRecDepth 100000 in
set_option maxHeartbeats 4000000 in
theorem k_X0_decodeLanes_p1_0_b33 {K : xCtx} {E : xE} {b : Nat} (hC : xOK K cX0_decodeLanes RX0 9 (rmE 4 b)) (hZ : xZ K) {S' : xSt} (hE : xEnd K E none (YQv E S')) {r0 : Nat} (hk0 : xkd E r0 = 1) : ∀ (fuel : Nat) (S : xSt) (x1 : Int) (x2 : Int) (x3 : Int) (x4 : Int), f_X0_decodeLanes_p1_0_b33 r0 fuel S x1 x2 x3 x4 = some S' → WG K E 33 [(0, vr E r0 0), (1, vi x1), (2, vi x2), (3, vi x3), (4, vi x4)] [] S := by
  intro fuel
  induction fuel with
  | zero => intro S x1 x2 x3 x4 h; cases h
  | succ fuel ih =>
    intro S x1 x2 x3 x4 h
    rw [f_X0_decodeLanes_p1_0_b33] at h
    refine g_iload hC 4 rfl (rfl : 33 + 2 = 35) (xdt tt_X0_decodeLanes 22 rfl) ?_
    refine g_iload_n hC rfl 1 rfl (rfl : 35 + 1 = 36) (xdt tt_X0_decodeLanes 23 rfl) ?_
    refine g_icmp_ge hC (show ((36 : Nat) : Int) + 105 = ((141 : Nat) : Int) by decide) (rfl : 36 + 3 = 39) (xdt tt_X0_decodeLanes 24 rfl) (fun hc31 => ?_) (fun hc31 => ?_)
    · replace h := (if_pos hc31).symm.trans h
      refine g_sub [0, 1, 2, 3] (lv' := [(0, vr E r0 0), (1, vi x1), (2, vi x2), (3, vi x3)]) rfl ?_
      exact k_X0_decodeLanes_p1_0_b141 hC hZ hE hk0 _ _ _ _ h
    · replace h := (if_neg hc31).symm.trans h
      refine g_iload_n hC rfl 3 rfl (rfl : 39 + 1 = 40) (xdt tt_X0_decodeLanes 25 rfl) ?_
      refine g_if_ne hC (show ((40 : Nat) : Int) + 101 = ((141 : Nat) : Int) by decide) (rfl : 40 + 3 = 43) (xdt tt_X0_decodeLanes 26 rfl) (fun hc30 => ?_) (fun hc30 => ?_)
      · replace h := (if_pos hc30).symm.trans h
        refine g_sub [0, 1, 2, 3] (lv' := [(0, vr E r0 0), (1, vi x1), (2, vi x2), (3, vi x3)]) rfl ?_
        exact k_X0_decodeLanes_p1_0_b141 hC hZ hE hk0 _ _ _ _ h
      · replace h := (if_neg hc30).symm.trans h
        refine g_aload_n hC rfl 0 rfl (rfl : 43 + 1 = 44) (xdt tt_X0_decodeLanes 27 rfl) ?_
        obtain ⟨v5, S4, hc3, h⟩ := bd2_i h
        refine g_callVi hC hZ hk0 kclX0 ly1_0 m_X0_nextNumber q1043 (Nat.le_of_ble_eq_true rfl) [] rfl (fun l => c_X0_nextNumber_p1_0 l hk0 hc3) rfl (Nat.le_of_ble_eq_true rfl) (rfl : 44 + 3 = 47) (xdt tt_X0_decodeLanes 28 rfl) ?_
        refine g_istore hC (by decide) (lv' := [(5, vi v5), (0, vr E r0 0), (1, vi x1), (2, vi x2), (3, vi x3), (4, vi x4)]) rfl (rfl : 47 + 2 = 49) (xdt tt_X0_decodeLanes 29 rfl) ?_
        refine g_iload hC 0 rfl (rfl : 49 + 2 = 51) (xdt tt_X0_decodeLanes 30 rfl) ?_
        refine g_iconst hC (rfl : 51 + 1 = 52) (xdt tt_X0_decodeLanes 31 rfl) ?_
        refine g_icmp_eq hC (show ((52 : Nat) : Int) + 19 = ((71 : Nat) : Int) by decide) (rfl : 52 + 3 = 55) (xdt tt_X0_decodeLanes 32 rfl) (fun hc29 => ?_) (fun hc29 => ?_)
        · replace h := (if_pos hc29).symm.trans h
          refine g_sub [1, 2, 3, 5, 0] (lv' := [(0, vr E r0 0), (1, vi x1), (2, vi x2), (4, vi x4), (5, vi v5)]) rfl ?_
          exact k_X0_decodeLanes_p1_0_b71 hC hZ hE hk0 ih _ _ _ _ _ h
        · replace h := (if_neg hc29).symm.trans h
          refine g_aload_n hC rfl 1 rfl (rfl : 55 + 1 = 56) (xdt tt_X0_decodeLanes 33 rfl) ?_
          refine g_iload hC 0 rfl (rfl : 56 + 2 = 58) (xdt tt_X0_decodeLanes 34 rfl) ?_
          obtain ⟨v26, S25, hc24, h⟩ := bd2_i h
          refine g_callVz hC hZ hk0 kclX0 ly1_0 m_X0_isFused q1049 (Nat.le_of_ble_eq_true rfl) [vi v5] rfl (fun l => c_X0_isFused_p1_0 l hk0 hc24) rfl (Nat.le_of_ble_eq_true rfl) (rfl : 58 + 3 = 61) (xdt tt_X0_decodeLanes 35 rfl) (fun hb27 => ?_)
          refine g_if_eq hC (show ((61 : Nat) : Int) + 10 = ((71 : Nat) : Int) by decide) (rfl : 61 + 3 = 64) (xdt tt_X0_decodeLanes 36 rfl) (fun hc28 => ?_) (fun hc28 => ?_)
          · replace h := (if_pos hc28).symm.trans h
            refine g_sub [1, 2, 3, 5, 0] (lv' := [(0, vr E r0 0), (1, vi x1), (2, vi x2), (4, vi x4), (5, vi v5)]) rfl ?_
            exact k_X0_decodeLanes_p1_0_b71 hC hZ hE hk0 ih _ _ _ _ _ h
          · replace h := (if_neg hc28).symm.trans h
            refine g_iload hC 0 rfl (rfl : 64 + 2 = 66) (xdt tt_X0_decodeLanes 37 rfl) ?_
            refine g_iconst hC (rfl : 66 + 1 = 67) (xdt tt_X0_decodeLanes 38 rfl) ?_
            refine g_iadd hC (rfl : 67 + 1 = 68) (xdt tt_X0_decodeLanes 39 rfl) ?_
            refine g_goto hC (show ((68 : Nat) : Int) + 5 = ((73 : Nat) : Int) by decide) (xdt tt_X0_decodeLanes 40 rfl) ?_
            refine g_sub [1, 2, 3, 5, 0] (lv' := [(0, vr E r0 0), (1, vi x1), (2, vi x2), (4, vi x4), (5, vi v5)]) rfl ?_
            exact k_X0_decodeLanes_p1_0_b73 hC hZ hE hk0 ih _ _ _ _ _ _ h
set_option maxRecDepth 100000 in
set_option maxHeartbeats 4000000 in
theorem c_X0_decodeLanes_p1_0 (l : Launch) {E : xE} {S S' : xSt} {r0 : Nat} (hk0 : xkd E r0 = 1) (h : f_X0_decodeLanes_p1_0 S r0 = some S') : Met l yX0_decodeLanes (xws yX0_decodeLanes cX0_decodeLanes 9 none) (rmD 4) (YPc E [vr E r0 0] S) (YQv E S') 0 0 (xA E) := by
  unfold f_X0_decodeLanes_p1_0 at h
  refine met_v (by decide +kernel) (Nat.le_of_ble_eq_true rfl) (fun K hC hZ hE => ?_)
  have hC : xOK K cX0_decodeLanes RX0 9 (rmE 4 0) := hC
  show WG K E 0 [(0, vr E r0 0)] [] S
  refine g_aload_n hC rfl 0 rfl (rfl : 0 + 1 = 1) (xdt tt_X0_decodeLanes 0 rfl) ?_
  refine g_getP hC hk0 kclX0 ly1_0 1 (by decide) (rfl : r0 + 0 = r0) rfl q96 (rfl : 1 + 3 = 4) (xdt tt_X0_decodeLanes 1 rfl) ?_
  refine g_iconst hC (rfl : 4 + 1 = 5) (xdt tt_X0_decodeLanes 2 rfl) ?_
  refine g_iald hC hk0 ly1_1 (by decide) (rfl : 5 + 1 = 6) (xdt tt_X0_decodeLanes 3 rfl) (k0 := 0) (by decide) ?_
  refine g_istore_n hC rfl (by decide) (lv' := [(1, vi (gI S r0 1 0)), (0, vr E r0 0)]) rfl (rfl : 6 + 1 = 7) (xdt tt_X0_decodeLanes 4 rfl) ?_
  refine g_iconst hC (rfl : 7 + 1 = 8) (xdt tt_X0_decodeLanes 5 rfl) ?_
  refine g_istore_n hC rfl (by decide) (lv' := [(2, vi 0), (1, vi (gI S r0 1 0)), (0, vr E r0 0)]) rfl (rfl : 8 + 1 = 9) (xdt tt_X0_decodeLanes 6 rfl) ?_
  refine g_iconst hC (rfl : 9 + 1 = 10) (xdt tt_X0_decodeLanes 7 rfl) ?_
  refine g_istore_n hC rfl (by decide) (lv' := [(3, vi 0), (2, vi 0), (1, vi (gI S r0 1 0)), (0, vr E r0 0)]) rfl (rfl : 10 + 1 = 11) (xdt tt_X0_decodeLanes 8 rfl) ?_
  refine g_aload_n hC rfl 3 rfl (rfl : 11 + 1 = 12) (xdt tt_X0_decodeLanes 9 rfl) ?_
  refine g_getI hC hk0 kclX0 ly1_0 15 (by decide) rfl q159 (rfl : 12 + 3 = 15) (xdt tt_X0_decodeLanes 10 rfl) ?_
  refine g_if_le hC (show ((15 : Nat) : Int) + 15 = ((30 : Nat) : Int) by decide) (rfl : 15 + 3 = 18) (xdt tt_X0_decodeLanes 11 rfl) (fun hc33 => ?_) (fun hc33 => ?_)
  · replace h := (if_pos hc33).symm.trans h
    refine g_iconst hC (rfl : 30 + 1 = 31) (xdt tt_X0_decodeLanes 20 rfl) ?_
    refine g_istore hC (by decide) (lv' := [(4, vi 0), (3, vi 0), (2, vi 0), (1, vi (gI S r0 1 0)), (0, vr E r0 0)]) rfl (rfl : 31 + 2 = 33) (xdt tt_X0_decodeLanes 21 rfl) ?_
    refine g_sub [4, 3, 2, 1, 0] (lv' := [(0, vr E r0 0), (1, vi (gI S r0 1 0)), (2, vi 0), (3, vi 0), (4, vi 0)]) rfl ?_
    exact k_X0_decodeLanes_p1_0_b33 hC hZ hE hk0 _ _ _ _ _ _ h
  · replace h := (if_neg hc33).symm.trans h
    refine g_aload_n hC rfl 3 rfl (rfl : 18 + 1 = 19) (xdt tt_X0_decodeLanes 12 rfl) ?_
    refine g_dup hC rfl (rfl : 19 + 1 = 20) (xdt tt_X0_decodeLanes 13 rfl) ?_
    refine g_getI hC hk0 kclX0 ly1_0 15 (by decide) rfl q159 (rfl : 20 + 3 = 23) (xdt tt_X0_decodeLanes 14 rfl) ?_
    refine g_iconst hC (rfl : 23 + 1 = 24) (xdt tt_X0_decodeLanes 15 rfl) ?_
    refine g_isub hC (rfl : 24 + 1 = 25) (xdt tt_X0_decodeLanes 16 rfl) ?_
    obtain ⟨S32, hS32, h⟩ := lt1_i h
    refine g_putI hC hk0 kclX0 ly1_0 15 (by decide) rfl rfl rfl q159 hS32 (rfl : 25 + 3 = 28) (xdt tt_X0_decodeLanes 17 rfl) ?_
    refine g_iconst hC (rfl : 28 + 1 = 29) (xdt tt_X0_decodeLanes 18 rfl) ?_
    refine g_istore_n hC rfl (by decide) (lv' := [(3, vi 4), (2, vi 0), (1, vi (gI S r0 1 0)), (0, vr E r0 0)]) rfl (rfl : 29 + 1 = 30) (xdt tt_X0_decodeLanes 19 rfl) ?_
    refine g_iconst hC (rfl : 30 + 1 = 31) (xdt tt_X0_decodeLanes 20 rfl) ?_
    refine g_istore hC (by decide) (lv' := [(4, vi 0), (3, vi 4), (2, vi 0), (1, vi (gI S r0 1 0)), (0, vr E r0 0)]) rfl (rfl : 31 + 2 = 33) (xdt tt_X0_decodeLanes 21 rfl) ?_
    refine g_sub [4, 3, 2, 1, 0] (lv' := [(0, vr E r0 0), (1, vi (gI S r0 1 0)), (2, vi 0), (3, vi 4), (4, vi 0)]) rfl ?_
    exact k_X0_decodeLanes_p1_0_b33 hC hZ hE hk0 _ _ _ _ _ _ h
def f_X0_readWindow_p1_0_b77 (r0 : Nat) (S : xSt) : Option (xSt) :=
  lt1 (wI S r0 0 13 0) fun S10 =>
  lt1 (wI S10 r0 0 11 0) fun S11 =>
  lt1 (wI S11 r0 15 4 ((gI S11 r0 15 4) + 1)) fun S12 =>
  some S12
def f_X0_readWindow_p1_0_b52 (r0 : Nat) (S : xSt) (x1 : Int) : Option (xSt) :=
  ckP S r0 0 0 2 0 fun rg5 =>
  bd2 (f_X5_windowOf_p2_0 S rg5 x1) fun v8 S7 =>
  lt1 (wI S7 r0 0 12 ((v8 + 1) * (gI S7 r0 1 1))) fun S9 =>
  f_X0_readWindow_p1_0_b77 r0 S9
def f_X0_readWindow_p1_0 (S : xSt) (r0 : Nat) : Option (xSt) :=
  ckP S r0 0 0 2 0 fun rg1 =>
  bd2 (f_X5_startOf_p2_0 S rg1 (gI S r0 0 10)) fun v4 S3 =>
  if wr (gI S3 r0 0 13) = 0 then
    (if ¬ wr (gI S3 r0 0 11) = 0 then
      (f_X0_readWindow_p1_0_b52 r0 S3 v4)
    else
      (if wr v4 < wr (gI S3 r0 0 12) then
        (some S3)
      else
        (f_X0_readWindow_p1_0_b52 r0 S3 v4)))
  else
    (lt1 (wI S3 r0 0 12 ((gI S3 r0 0 12) + (gI S3 r0 1 1))) fun S15 =>
    f_X0_readWindow_p1_0_b77 r0 S15)
set_option maxRecDepth 100000 in
set_option maxHeartbeats 4000000 in
theorem k_X0_readWindow_p1_0_b77 {K : xCtx} {E : xE} {b : Nat} (hC : xOK K cX0_readWindow RX0 2 (rmE 2 b)) (hZ : xZ K) {S' : xSt} (hE : xEnd K E none (YQv E S')) {r0 : Nat} (hk0 : xkd E r0 = 1) : ∀ (S : xSt) , f_X0_readWindow_p1_0_b77 r0 S = some S' → WG K E 77 [(0, vr E r0 0)] [] S := by
  intro S h
  unfold f_X0_readWindow_p1_0_b77 at h
  refine g_aload_n hC rfl 0 rfl (rfl : 77 + 1 = 78) (xdt tt_X0_readWindow 41 rfl) ?_
  refine g_iconst hC (rfl : 78 + 1 = 79) (xdt tt_X0_readWindow 42 rfl) ?_
  obtain ⟨S10, hS10, h⟩ := lt1_i h
  refine g_putZ hC hk0 kclX0 ly1_0 13 (by decide) rfl rfl rfl q157 (Or.inl rfl) hS10 (rfl : 79 + 3 = 82) (xdt tt_X0_readWindow 43 rfl) ?_
  refine g_aload_n hC rfl 0 rfl (rfl : 82 + 1 = 83) (xdt tt_X0_readWindow 44 rfl) ?_
  refine g_iconst hC (rfl : 83 + 1 = 84) (xdt tt_X0_readWindow 45 rfl) ?_
  obtain ⟨S11, hS11, h⟩ := lt1_i h
  refine g_putZ hC hk0 kclX0 ly1_0 11 (by decide) rfl rfl rfl q155 (Or.inl rfl) hS11 (rfl : 84 + 3 = 87) (xdt tt_X0_readWindow 46 rfl) ?_
  refine g_aload_n hC rfl 0 rfl (rfl : 87 + 1 = 88) (xdt tt_X0_readWindow 47 rfl) ?_
  refine g_getP hC hk0 kclX0 ly1_0 7 (by decide) (rfl : r0 + 0 = r0) rfl q116 (rfl : 88 + 3 = 91) (xdt tt_X0_readWindow 48 rfl) ?_
  refine g_getP hC hk0 kclX9 ly1_14 0 (by decide) (rfl : r0 + 0 = r0) rfl q1029 (rfl : 91 + 3 = 94) (xdt tt_X0_readWindow 49 rfl) ?_
  refine g_iconst hC (rfl : 94 + 1 = 95) (xdt tt_X0_readWindow 50 rfl) ?_
  refine g_dup2 hC rfl rfl (rfl : 95 + 1 = 96) (xdt tt_X0_readWindow 51 rfl) ?_
  refine g_iald hC hk0 ly1_15 (by decide) (rfl : 96 + 1 = 97) (xdt tt_X0_readWindow 52 rfl) (k0 := 4) (by decide) ?_
  refine g_iconst hC (rfl : 97 + 1 = 98) (xdt tt_X0_readWindow 53 rfl) ?_
  refine g_iadd hC (rfl : 98 + 1 = 99) (xdt tt_X0_readWindow 54 rfl) ?_
  obtain ⟨S12, hS12, h⟩ := lt1_i h
  refine g_iast hC hk0 ly1_15 (by decide) (by decide) hS12 (rfl : 99 + 1 = 100) (xdt tt_X0_readWindow 55 rfl) ?_
  cases h
  exact g_vret hC hE (xdt tt_X0_readWindow 56 rfl)
set_option maxRecDepth 100000 in
set_option maxHeartbeats 4000000 in
theorem k_X0_readWindow_p1_0_b52 {K : xCtx} {E : xE} {b : Nat} (hC : xOK K cX0_readWindow RX0 2 (rmE 2 b)) (hZ : xZ K) {S' : xSt} (hE : xEnd K E none (YQv E S')) {r0 : Nat} (hk0 : xkd E r0 = 1) : ∀ (S : xSt) (x1 : Int), f_X0_readWindow_p1_0_b52 r0 S x1 = some S' → WG K E 52 [(0, vr E r0 0), (1, vi x1)] [] S := by
  intro S x1 h
  unfold f_X0_readWindow_p1_0_b52 at h
  refine g_aload_n hC rfl 0 rfl (rfl : 52 + 1 = 53) (xdt tt_X0_readWindow 26 rfl) ?_
  refine g_aload_n hC rfl 0 rfl (rfl : 53 + 1 = 54) (xdt tt_X0_readWindow 27 rfl) ?_
  obtain ⟨rg5, hrg5, grg5, h⟩ := ckP_i h
  refine g_getV hC hk0 kclX0 ly1_0 0 (by decide) rfl hrg5 grg5 q146 (rfl : 54 + 3 = 57) (xdt tt_X0_readWindow 28 rfl) (fun krg5 => ?_)
  refine g_iload_n hC rfl 1 rfl (rfl : 57 + 1 = 58) (xdt tt_X0_readWindow 29 rfl) ?_
  obtain ⟨v8, S7, hc6, h⟩ := bd2_i h
  refine g_callVi hC hZ krg5 kclX5 ly2_0 m_X5_windowOf q726 (Nat.le_of_ble_eq_true rfl) [vi x1] rfl (fun l => c_X5_windowOf_p2_0 l krg5 hc6) rfl (Nat.le_of_ble_eq_true rfl) (rfl : 58 + 3 = 61) (xdt tt_X0_readWindow 30 rfl) ?_
  refine g_iconst hC (rfl : 61 + 1 = 62) (xdt tt_X0_readWindow 31 rfl) ?_
  refine g_iadd hC (rfl : 62 + 1 = 63) (xdt tt_X0_readWindow 32 rfl) ?_
  refine g_aload_n hC rfl 0 rfl (rfl : 63 + 1 = 64) (xdt tt_X0_readWindow 33 rfl) ?_
  refine g_getP hC hk0 kclX0 ly1_0 1 (by decide) (rfl : r0 + 0 = r0) rfl q96 (rfl : 64 + 3 = 67) (xdt tt_X0_readWindow 34 rfl) ?_
  refine g_iconst hC (rfl : 67 + 1 = 68) (xdt tt_X0_readWindow 35 rfl) ?_
  refine g_iald hC hk0 ly1_1 (by decide) (rfl : 68 + 1 = 69) (xdt tt_X0_readWindow 36 rfl) (k0 := 1) (by decide) ?_
  refine g_imul hC (rfl : 69 + 1 = 70) (xdt tt_X0_readWindow 37 rfl) ?_
  obtain ⟨S9, hS9, h⟩ := lt1_i h
  refine g_putI hC hk0 kclX0 ly1_0 12 (by decide) rfl rfl rfl q156 hS9 (rfl : 70 + 3 = 73) (xdt tt_X0_readWindow 38 rfl) ?_
  refine g_goto hC (show ((73 : Nat) : Int) + 4 = ((77 : Nat) : Int) by decide) (xdt tt_X0_readWindow 39 rfl) ?_
  refine g_sub [0] (lv' := [(0, vr E r0 0)]) rfl ?_
  exact k_X0_readWindow_p1_0_b77 hC hZ hE hk0 _ h
set_option maxRecDepth 100000 in
set_option maxHeartbeats 4000000 in
theorem c_X0_readWindow_p1_0 (l : Launch) {E : xE} {S S' : xSt} {r0 : Nat} (hk0 : xkd E r0 = 1) (h : f_X0_readWindow_p1_0 S r0 = some S') : Met l yX0_readWindow (xws yX0_readWindow cX0_readWindow 2 none) (rmD 2) (YPc E [vr E r0 0] S) (YQv E S') 0 0 (xA E) := by
  unfold f_X0_readWindow_p1_0 at h
  refine met_v (by decide +kernel) (Nat.le_of_ble_eq_true rfl) (fun K hC hZ hE => ?_)
  have hC : xOK K cX0_readWindow RX0 2 (rmE 2 0) := hC
  show WG K E 0 [(0, vr E r0 0)] [] S
  refine g_aload_n hC rfl 0 rfl (rfl : 0 + 1 = 1) (xdt tt_X0_readWindow 0 rfl) ?_
  obtain ⟨rg1, hrg1, grg1, h⟩ := ckP_i h
  refine g_getV hC hk0 kclX0 ly1_0 0 (by decide) rfl hrg1 grg1 q146 (rfl : 1 + 3 = 4) (xdt tt_X0_readWindow 1 rfl) (fun krg1 => ?_)
  refine g_aload_n hC rfl 0 rfl (rfl : 4 + 1 = 5) (xdt tt_X0_readWindow 2 rfl) ?_
  refine g_getI hC hk0 kclX0 ly1_0 10 (by decide) rfl q154 (rfl : 5 + 3 = 8) (xdt tt_X0_readWindow 3 rfl) ?_
  obtain ⟨v4, S3, hc2, h⟩ := bd2_i h
  refine g_callVi hC hZ krg1 kclX5 ly2_0 m_X5_startOf q1124 (Nat.le_of_ble_eq_true rfl) [vi (gI S r0 0 10)] rfl (fun l => c_X5_startOf_p2_0 l krg1 hc2) rfl (Nat.le_of_ble_eq_true rfl) (rfl : 8 + 3 = 11) (xdt tt_X0_readWindow 4 rfl) ?_
  refine g_istore_n hC rfl (by decide) (lv' := [(1, vi v4), (0, vr E r0 0)]) rfl (rfl : 11 + 1 = 12) (xdt tt_X0_readWindow 5 rfl) ?_
  refine g_aload_n hC rfl 1 rfl (rfl : 12 + 1 = 13) (xdt tt_X0_readWindow 6 rfl) ?_
  refine g_getI hC hk0 kclX0 ly1_0 13 (by decide) rfl q157 (rfl : 13 + 3 = 16) (xdt tt_X0_readWindow 7 rfl) ?_
  refine g_if_eq hC (show ((16 : Nat) : Int) + 21 = ((37 : Nat) : Int) by decide) (rfl : 16 + 3 = 19) (xdt tt_X0_readWindow 8 rfl) (fun hc16 => ?_) (fun hc16 => ?_)
  · replace h := (if_pos hc16).symm.trans h
    refine g_aload_n hC rfl 1 rfl (rfl : 37 + 1 = 38) (xdt tt_X0_readWindow 19 rfl) ?_
    refine g_getI hC hk0 kclX0 ly1_0 11 (by decide) rfl q155 (rfl : 38 + 3 = 41) (xdt tt_X0_readWindow 20 rfl) ?_
    refine g_if_ne hC (show ((41 : Nat) : Int) + 11 = ((52 : Nat) : Int) by decide) (rfl : 41 + 3 = 44) (xdt tt_X0_readWindow 21 rfl) (fun hc14 => ?_) (fun hc14 => ?_)
    · replace h := (if_pos hc14).symm.trans h
      refine g_sub [1, 0] (lv' := [(0, vr E r0 0), (1, vi v4)]) rfl ?_
      exact k_X0_readWindow_p1_0_b52 hC hZ hE hk0 _ _ h
    · replace h := (if_neg hc14).symm.trans h
      refine g_iload_n hC rfl 0 rfl (rfl : 44 + 1 = 45) (xdt tt_X0_readWindow 22 rfl) ?_
      refine g_aload_n hC rfl 1 rfl (rfl : 45 + 1 = 46) (xdt tt_X0_readWindow 23 rfl) ?_
      refine g_getI hC hk0 kclX0 ly1_0 12 (by decide) rfl q156 (rfl : 46 + 3 = 49) (xdt tt_X0_readWindow 24 rfl) ?_
      refine g_icmp_lt hC (show ((49 : Nat) : Int) + 27 = ((76 : Nat) : Int) by decide) (rfl : 49 + 3 = 52) (xdt tt_X0_readWindow 25 rfl) (fun hc13 => ?_) (fun hc13 => ?_)
      · replace h := (if_pos hc13).symm.trans h
        cases h
        exact g_vret hC hE (xdt tt_X0_readWindow 40 rfl)
      · replace h := (if_neg hc13).symm.trans h
        refine g_sub [1, 0] (lv' := [(0, vr E r0 0), (1, vi v4)]) rfl ?_
        exact k_X0_readWindow_p1_0_b52 hC hZ hE hk0 _ _ h
  · replace h := (if_neg hc16).symm.trans h
    refine g_aload_n hC rfl 1 rfl (rfl : 19 + 1 = 20) (xdt tt_X0_readWindow 9 rfl) ?_
    refine g_dup hC rfl (rfl : 20 + 1 = 21) (xdt tt_X0_readWindow 10 rfl) ?_
    refine g_getI hC hk0 kclX0 ly1_0 12 (by decide) rfl q156 (rfl : 21 + 3 = 24) (xdt tt_X0_readWindow 11 rfl) ?_
    refine g_aload_n hC rfl 1 rfl (rfl : 24 + 1 = 25) (xdt tt_X0_readWindow 12 rfl) ?_
    refine g_getP hC hk0 kclX0 ly1_0 1 (by decide) (rfl : r0 + 0 = r0) rfl q96 (rfl : 25 + 3 = 28) (xdt tt_X0_readWindow 13 rfl) ?_
    refine g_iconst hC (rfl : 28 + 1 = 29) (xdt tt_X0_readWindow 14 rfl) ?_
    refine g_iald hC hk0 ly1_1 (by decide) (rfl : 29 + 1 = 30) (xdt tt_X0_readWindow 15 rfl) (k0 := 1) (by decide) ?_
    refine g_iadd hC (rfl : 30 + 1 = 31) (xdt tt_X0_readWindow 16 rfl) ?_
    obtain ⟨S15, hS15, h⟩ := lt1_i h
    refine g_putI hC hk0 kclX0 ly1_0 12 (by decide) rfl rfl rfl q156 hS15 (rfl : 31 + 3 = 34) (xdt tt_X0_readWindow 17 rfl) ?_
    refine g_goto hC (show ((34 : Nat) : Int) + 43 = ((77 : Nat) : Int) by decide) (xdt tt_X0_readWindow 18 rfl) ?_
    refine g_sub [1] (lv' := [(0, vr E r0 0)]) rfl ?_
    exact k_X0_readWindow_p1_0_b77 hC hZ hE hk0 _ h
def f_X0_canMark_p1_0 (S : xSt) (r0 : Nat) : Option (Int × xSt) :=
  ckP S r0 0 0 2 0 fun rg1 =>
  if wr (gI S rg1 0 10) ≤ wr (gI S r0 0 10) then
    (some (0, S))
  else
    (if wr (gI S r0 5 2) < wr (gI S r0 1 2) then
      (ckP S r0 0 0 2 0 fun rg2 =>
      bd2 (f_X5_startOf_p2_0 S rg2 ((gI S r0 0 10) + 1)) fun v5 S4 =>
      if wr (gI S4 r0 0 12) < wr v5 then
        (ckP S4 r0 0 0 2 0 fun rg6 =>
        bd2 (f_X5_startOf_p2_0 S4 rg6 (gI S4 r0 0 10)) fun v9 S8 =>
        if wr (gI S8 r0 0 12) ≤ wr v9 then
          (some (0, S8))
        else
          (lt1 (wI S8 r0 0 13 1) fun S10 =>
          lt1 (wI S10 r0 15 5 ((gI S10 r0 15 5) + 1)) fun S11 =>
          some (0, S11)))
      else
        (some (1, S4)))
    else
      (some (0, S)))
set_option maxRecDepth 100000 in
set_option maxHeartbeats 4000000 in
theorem c_X0_canMark_p1_0 (l : Launch) {E : xE} {S S' : xSt} {r0 : Nat} (hk0 : xkd E r0 = 1) {v : Int} (h : f_X0_canMark_p1_0 S r0 = some (v, S')) : Met l yX0_canMark (xws yX0_canMark cX0_canMark 1 (some .boolean)) (rmD 2) (YPc E [vr E r0 0] S) (YQz E v S') 0 0 (xA E) := by
  unfold f_X0_canMark_p1_0 at h
  refine met_z (by decide +kernel) (Nat.le_of_ble_eq_true rfl) (fun K hC hZ hE => ?_)
  have hC : xOK K cX0_canMark RX0 1 (rmE 2 0) := hC
  show WG K E 0 [(0, vr E r0 0)] [] S
  refine g_aload_n hC rfl 0 rfl (rfl : 0 + 1 = 1) (xdt tt_X0_canMark 0 rfl) ?_
  refine g_getI hC hk0 kclX0 ly1_0 10 (by decide) rfl q154 (rfl : 1 + 3 = 4) (xdt tt_X0_canMark 1 rfl) ?_
  refine g_aload_n hC rfl 0 rfl (rfl : 4 + 1 = 5) (xdt tt_X0_canMark 2 rfl) ?_
  obtain ⟨rg1, hrg1, grg1, h⟩ := ckP_i h
  refine g_getV hC hk0 kclX0 ly1_0 0 (by decide) rfl hrg1 grg1 q146 (rfl : 5 + 3 = 8) (xdt tt_X0_canMark 3 rfl) (fun krg1 => ?_)
  refine g_getI hC krg1 kclX5 ly2_0 10 (by decide) rfl q644 (rfl : 8 + 3 = 11) (xdt tt_X0_canMark 4 rfl) ?_
  refine g_icmp_ge hC (show ((11 : Nat) : Int) + 19 = ((30 : Nat) : Int) by decide) (rfl : 11 + 3 = 14) (xdt tt_X0_canMark 5 rfl) (fun hc15 => ?_) (fun hc15 => ?_)
  · replace h := (if_pos hc15).symm.trans h
    refine g_iconst hC (rfl : 30 + 1 = 31) (xdt tt_X0_canMark 14 rfl) ?_
    cases h
    exact g_zret hC hE (Or.inl rfl) (xdt tt_X0_canMark 15 rfl)
  · replace h := (if_neg hc15).symm.trans h
    refine g_aload_n hC rfl 0 rfl (rfl : 14 + 1 = 15) (xdt tt_X0_canMark 6 rfl) ?_
    refine g_getP hC hk0 kclX0 ly1_0 3 (by decide) (rfl : r0 + 0 = r0) rfl q102 (rfl : 15 + 3 = 18) (xdt tt_X0_canMark 7 rfl) ?_
    refine g_getI hC hk0 kclX6 ly1_5 2 (by decide) rfl q150 (rfl : 18 + 3 = 21) (xdt tt_X0_canMark 8 rfl) ?_
    refine g_aload_n hC rfl 0 rfl (rfl : 21 + 1 = 22) (xdt tt_X0_canMark 9 rfl) ?_
    refine g_getP hC hk0 kclX0 ly1_0 1 (by decide) (rfl : r0 + 0 = r0) rfl q96 (rfl : 22 + 3 = 25) (xdt tt_X0_canMark 10 rfl) ?_
    refine g_iconst hC (rfl : 25 + 1 = 26) (xdt tt_X0_canMark 11 rfl) ?_
    refine g_iald hC hk0 ly1_1 (by decide) (rfl : 26 + 1 = 27) (xdt tt_X0_canMark 12 rfl) (k0 := 2) (by decide) ?_
    refine g_icmp_lt hC (show ((27 : Nat) : Int) + 5 = ((32 : Nat) : Int) by decide) (rfl : 27 + 3 = 30) (xdt tt_X0_canMark 13 rfl) (fun hc14 => ?_) (fun hc14 => ?_)
    · replace h := (if_pos hc14).symm.trans h
      refine g_aload_n hC rfl 0 rfl (rfl : 32 + 1 = 33) (xdt tt_X0_canMark 16 rfl) ?_
      obtain ⟨rg2, hrg2, grg2, h⟩ := ckP_i h
      refine g_getV hC hk0 kclX0 ly1_0 0 (by decide) rfl hrg2 grg2 q146 (rfl : 33 + 3 = 36) (xdt tt_X0_canMark 17 rfl) (fun krg2 => ?_)
      refine g_aload_n hC rfl 0 rfl (rfl : 36 + 1 = 37) (xdt tt_X0_canMark 18 rfl) ?_
      refine g_getI hC hk0 kclX0 ly1_0 10 (by decide) rfl q154 (rfl : 37 + 3 = 40) (xdt tt_X0_canMark 19 rfl) ?_
      refine g_iconst hC (rfl : 40 + 1 = 41) (xdt tt_X0_canMark 20 rfl) ?_
      refine g_iadd hC (rfl : 41 + 1 = 42) (xdt tt_X0_canMark 21 rfl) ?_
      obtain ⟨v5, S4, hc3, h⟩ := bd2_i h
      refine g_callVi hC hZ krg2 kclX5 ly2_0 m_X5_startOf q1124 (Nat.le_of_ble_eq_true rfl) [vi ((gI S r0 0 10) + 1)] rfl (fun l => c_X5_startOf_p2_0 l krg2 hc3) rfl (Nat.le_of_ble_eq_true rfl) (rfl : 42 + 3 = 45) (xdt tt_X0_canMark 22 rfl) ?_
      refine g_aload_n hC rfl 0 rfl (rfl : 45 + 1 = 46) (xdt tt_X0_canMark 23 rfl) ?_
      refine g_getI hC hk0 kclX0 ly1_0 12 (by decide) rfl q156 (rfl : 46 + 3 = 49) (xdt tt_X0_canMark 24 rfl) ?_
      refine g_icmp_gt hC (show ((49 : Nat) : Int) + 5 = ((54 : Nat) : Int) by decide) (rfl : 49 + 3 = 52) (xdt tt_X0_canMark 25 rfl) (fun hc13 => ?_) (fun hc13 => ?_)
      · replace h := (if_pos hc13).symm.trans h
        refine g_aload_n hC rfl 0 rfl (rfl : 54 + 1 = 55) (xdt tt_X0_canMark 28 rfl) ?_
        obtain ⟨rg6, hrg6, grg6, h⟩ := ckP_i h
        refine g_getV hC hk0 kclX0 ly1_0 0 (by decide) rfl hrg6 grg6 q146 (rfl : 55 + 3 = 58) (xdt tt_X0_canMark 29 rfl) (fun krg6 => ?_)
        refine g_aload_n hC rfl 0 rfl (rfl : 58 + 1 = 59) (xdt tt_X0_canMark 30 rfl) ?_
        refine g_getI hC hk0 kclX0 ly1_0 10 (by decide) rfl q154 (rfl : 59 + 3 = 62) (xdt tt_X0_canMark 31 rfl) ?_
        obtain ⟨v9, S8, hc7, h⟩ := bd2_i h
        refine g_callVi hC hZ krg6 kclX5 ly2_0 m_X5_startOf q1124 (Nat.le_of_ble_eq_true rfl) [vi (gI S4 r0 0 10)] rfl (fun l => c_X5_startOf_p2_0 l krg6 hc7) rfl (Nat.le_of_ble_eq_true rfl) (rfl : 62 + 3 = 65) (xdt tt_X0_canMark 32 rfl) ?_
        refine g_aload_n hC rfl 0 rfl (rfl : 65 + 1 = 66) (xdt tt_X0_canMark 33 rfl) ?_
        refine g_getI hC hk0 kclX0 ly1_0 12 (by decide) rfl q156 (rfl : 66 + 3 = 69) (xdt tt_X0_canMark 34 rfl) ?_
        refine g_icmp_ge hC (show ((69 : Nat) : Int) + 21 = ((90 : Nat) : Int) by decide) (rfl : 69 + 3 = 72) (xdt tt_X0_canMark 35 rfl) (fun hc12 => ?_) (fun hc12 => ?_)
        · replace h := (if_pos hc12).symm.trans h
          refine g_iconst hC (rfl : 90 + 1 = 91) (xdt tt_X0_canMark 48 rfl) ?_
          cases h
          exact g_zret hC hE (Or.inl rfl) (xdt tt_X0_canMark 49 rfl)
        · replace h := (if_neg hc12).symm.trans h
          refine g_aload_n hC rfl 0 rfl (rfl : 72 + 1 = 73) (xdt tt_X0_canMark 36 rfl) ?_
          refine g_iconst hC (rfl : 73 + 1 = 74) (xdt tt_X0_canMark 37 rfl) ?_
          obtain ⟨S10, hS10, h⟩ := lt1_i h
          refine g_putZ hC hk0 kclX0 ly1_0 13 (by decide) rfl rfl rfl q157 (Or.inr rfl) hS10 (rfl : 74 + 3 = 77) (xdt tt_X0_canMark 38 rfl) ?_
          refine g_aload_n hC rfl 0 rfl (rfl : 77 + 1 = 78) (xdt tt_X0_canMark 39 rfl) ?_
          refine g_getP hC hk0 kclX0 ly1_0 7 (by decide) (rfl : r0 + 0 = r0) rfl q116 (rfl : 78 + 3 = 81) (xdt tt_X0_canMark 40 rfl) ?_
          refine g_getP hC hk0 kclX9 ly1_14 0 (by decide) (rfl : r0 + 0 = r0) rfl q1029 (rfl : 81 + 3 = 84) (xdt tt_X0_canMark 41 rfl) ?_
          refine g_iconst hC (rfl : 84 + 1 = 85) (xdt tt_X0_canMark 42 rfl) ?_
          refine g_dup2 hC rfl rfl (rfl : 85 + 1 = 86) (xdt tt_X0_canMark 43 rfl) ?_
          refine g_iald hC hk0 ly1_15 (by decide) (rfl : 86 + 1 = 87) (xdt tt_X0_canMark 44 rfl) (k0 := 5) (by decide) ?_
          refine g_iconst hC (rfl : 87 + 1 = 88) (xdt tt_X0_canMark 45 rfl) ?_
          refine g_iadd hC (rfl : 88 + 1 = 89) (xdt tt_X0_canMark 46 rfl) ?_
          obtain ⟨S11, hS11, h⟩ := lt1_i h
          refine g_iast hC hk0 ly1_15 (by decide) (by decide) hS11 (rfl : 89 + 1 = 90) (xdt tt_X0_canMark 47 rfl) ?_
          refine g_iconst hC (rfl : 90 + 1 = 91) (xdt tt_X0_canMark 48 rfl) ?_
          cases h
          exact g_zret hC hE (Or.inl rfl) (xdt tt_X0_canMark 49 rfl)
      · replace h := (if_neg hc13).symm.trans h
        refine g_iconst hC (rfl : 52 + 1 = 53) (xdt tt_X0_canMark 26 rfl) ?_
        cases h
        exact g_zret hC hE (Or.inr rfl) (xdt tt_X0_canMark 27 rfl)
    · replace h := (if_neg hc14).symm.trans h
      refine g_iconst hC (rfl : 30 + 1 = 31) (xdt tt_X0_canMark 14 rfl) ?_
      cases h
      exact g_zret hC hE (Or.inl rfl) (xdt tt_X0_canMark 15 rfl)
def f_X6_append_p1_5 (S : xSt) (r0 : Nat) (a1 : Int) (a2 : Int) : Option (xSt) :=
  if wr (gI S r0 5 2) < 0 then
    (some S)
  else
    (if wr 20 ≤ wr (gI S r0 5 2) then
      (some S)
    else
      (ckI (gI S r0 5 2) 20 <|
      lt1 (wI S r0 6 (wr (gI S r0 5 2)).toNat a1) fun S2 =>
      ckI (gI S2 r0 5 2) 20 <|
      ckB a2 <|
      lt1 (wI S2 r0 7 (wr (gI S2 r0 5 2)).toNat a2) fun S5 =>
      lt1 (wI S5 r0 5 2 ((gI S5 r0 5 2) + 1)) fun S6 =>
      some S6))
set_option maxRecDepth 100000 in
set_option maxHeartbeats 4000000 in
theorem c_X6_append_p1_5 (l : Launch) {E : xE} {S S' : xSt} {r0 : Nat} {a1 : Int} {a2 : Int} (hk0 : xkd E r0 = 1) (h : f_X6_append_p1_5 S r0 a1 a2 = some S') : Met l yX6_append (xws yX6_append cX6_append 3 none) (rmD 1) (YPc E [vr E r0 5, vi a1, vi a2] S) (YQv E S') 0 0 (xA E) := by
  unfold f_X6_append_p1_5 at h
  refine met_v (by decide +kernel) (Nat.le_of_ble_eq_true rfl) (fun K hC hZ hE => ?_)
  have hC : xOK K cX6_append RX6 3 (rmE 1 0) := hC
  show WG K E 0 [(0, vr E r0 5), (1, vi a1), (2, vi a2)] [] S
  refine g_aload_n hC rfl 0 rfl (rfl : 0 + 1 = 1) (xdt tt_X6_append 0 rfl) ?_
  refine g_getI hC hk0 kclX6 ly1_5 2 (by decide) rfl q1000 (rfl : 1 + 3 = 4) (xdt tt_X6_append 1 rfl) ?_
  refine g_if_lt hC (show ((4 : Nat) : Int) + 42 = ((46 : Nat) : Int) by decide) (rfl : 4 + 3 = 7) (xdt tt_X6_append 2 rfl) (fun hc8 => ?_) (fun hc8 => ?_)
  · replace h := (if_pos hc8).symm.trans h
    cases h
    exact g_vret hC hE (xdt tt_X6_append 25 rfl)
  · replace h := (if_neg hc8).symm.trans h
    refine g_aload_n hC rfl 0 rfl (rfl : 7 + 1 = 8) (xdt tt_X6_append 3 rfl) ?_
    refine g_getI hC hk0 kclX6 ly1_5 2 (by decide) rfl q1000 (rfl : 8 + 3 = 11) (xdt tt_X6_append 4 rfl) ?_
    refine g_bipush hC (by decide) (rfl : 11 + 2 = 13) (xdt tt_X6_append 5 rfl) ?_
    refine g_icmp_ge hC (show ((13 : Nat) : Int) + 33 = ((46 : Nat) : Int) by decide) (rfl : 13 + 3 = 16) (xdt tt_X6_append 6 rfl) (fun hc7 => ?_) (fun hc7 => ?_)
    · replace h := (if_pos hc7).symm.trans h
      cases h
      exact g_vret hC hE (xdt tt_X6_append 25 rfl)
    · replace h := (if_neg hc7).symm.trans h
      refine g_aload_n hC rfl 0 rfl (rfl : 16 + 1 = 17) (xdt tt_X6_append 7 rfl) ?_
      refine g_getP hC hk0 kclX6 ly1_5 0 (by decide) (rfl : r0 + 0 = r0) rfl q121 (rfl : 17 + 3 = 20) (xdt tt_X6_append 8 rfl) ?_
      refine g_aload_n hC rfl 0 rfl (rfl : 20 + 1 = 21) (xdt tt_X6_append 9 rfl) ?_
      refine g_getI hC hk0 kclX6 ly1_5 2 (by decide) rfl q1000 (rfl : 21 + 3 = 24) (xdt tt_X6_append 10 rfl) ?_
      refine g_iload_n hC rfl 1 rfl (rfl : 24 + 1 = 25) (xdt tt_X6_append 11 rfl) ?_
      obtain ⟨hi1, h⟩ := ckI_i h
      obtain ⟨S2, hS2, h⟩ := lt1_i h
      refine g_iast hC hk0 ly1_6 hi1 rfl hS2 (rfl : 25 + 1 = 26) (xdt tt_X6_append 12 rfl) ?_
      refine g_aload_n hC rfl 0 rfl (rfl : 26 + 1 = 27) (xdt tt_X6_append 13 rfl) ?_
      refine g_getP hC hk0 kclX6 ly1_5 1 (by decide) (rfl : r0 + 0 = r0) rfl q122 (rfl : 27 + 3 = 30) (xdt tt_X6_append 14 rfl) ?_
      refine g_aload_n hC rfl 0 rfl (rfl : 30 + 1 = 31) (xdt tt_X6_append 15 rfl) ?_
      refine g_getI hC hk0 kclX6 ly1_5 2 (by decide) rfl q1000 (rfl : 31 + 3 = 34) (xdt tt_X6_append 16 rfl) ?_
      refine g_iload_n hC rfl 2 rfl (rfl : 34 + 1 = 35) (xdt tt_X6_append 17 rfl) ?_
      obtain ⟨hi3, h⟩ := ckI_i h
      obtain ⟨hb4, h⟩ := ckB_i h
      obtain ⟨S5, hS5, h⟩ := lt1_i h
      refine g_zast hC hk0 ly1_7 hi3 hb4 rfl hS5 (rfl : 35 + 1 = 36) (xdt tt_X6_append 18 rfl) ?_
      refine g_aload_n hC rfl 0 rfl (rfl : 36 + 1 = 37) (xdt tt_X6_append 19 rfl) ?_
      refine g_dup hC rfl (rfl : 37 + 1 = 38) (xdt tt_X6_append 20 rfl) ?_
      refine g_getI hC hk0 kclX6 ly1_5 2 (by decide) rfl q1000 (rfl : 38 + 3 = 41) (xdt tt_X6_append 21 rfl) ?_
      refine g_iconst hC (rfl : 41 + 1 = 42) (xdt tt_X6_append 22 rfl) ?_
      refine g_iadd hC (rfl : 42 + 1 = 43) (xdt tt_X6_append 23 rfl) ?_
      obtain ⟨S6, hS6, h⟩ := lt1_i h
      refine g_putI hC hk0 kclX6 ly1_5 2 (by decide) rfl rfl rfl q1000 hS6 (rfl : 43 + 3 = 46) (xdt tt_X6_append 24 rfl) ?_
      cases h
      exact g_vret hC hE (xdt tt_X6_append 25 rfl)
def f_X0_mark_p1_0_b81 (r0 : Nat) (S : xSt) (x1 : Int) (x2 : Int) : Option (Int × xSt) :=
  if ¬ wr x2 = 0 then
    (some (0, S))
  else
    (ckP S r0 0 0 2 0 fun rg11 =>
    ckI x1 60 <|
    if ¬ wr (gI S rg11 6 (wr x1).toNat) = 0 then
      (some (0, S))
    else
      (some (1, S)))
def f_X0_mark_p1_0_b64 (r0 : Nat) (S : xSt) (x1 : Int) (x2 : Int) : Option (Int × xSt) :=
  ckP S r0 0 0 2 0 fun rg9 =>
  ckI x1 60 <|
  if wr (gI S rg9 6 (wr x1).toNat) = 0 then
    (f_X0_mark_p1_0_b81 r0 S x1 x2)
  else
    (lt1 (wI S r0 0 16 3) fun S15 =>
    f_X0_mark_p1_0_b81 r0 S15 x1 x2)
def f_X0_mark_p1_0 (S : xSt) (r0 : Nat) : Option (Int × xSt) :=
  if wr (gI S r0 0 10) < 0 then
    (some (0, S))
  else
    (ckP S r0 0 0 2 0 fun rg1 =>
    if wr (gI S r0 0 10) < wr (gI S rg1 0 10) then
      (bd2 (f_X0_predictsTaken_p1_0 S r0 (gI S r0 0 10)) fun v4 S3 =>
      bd (f_X6_append_p1_5 S3 r0 (gI S r0 0 10) v4) fun S7 =>
      if wr v4 = 0 then
        (lt1 (wI S7 r0 0 10 ((gI S r0 0 10) + 1)) fun S8 =>
        f_X0_mark_p1_0_b64 r0 S8 (gI S r0 0 10) v4)
      else
        (ckP S7 r0 0 0 2 0 fun rg17 =>
        ckI (gI S r0 0 10) 60 <|
        bd (f_X0_setPlace_p1_0 S7 r0 (gI S7 rg17 11 (wr (gI S r0 0 10)).toNat)) fun S20 =>
        f_X0_mark_p1_0_b64 r0 S20 (gI S r0 0 10) v4))
    else
      (some (0, S)))
set_option maxRecDepth 100000 in
set_option maxHeartbeats 4000000 in
theorem k_X0_mark_p1_0_b81 {K : xCtx} {E : xE} {b : Nat} (hC : xOK K cX0_mark RX0 3 (rmE 2 b)) (hZ : xZ K) {v : Int} {S' : xSt} (hE : xEnd K E (some .boolean) (YQz E v S')) {r0 : Nat} (hk0 : xkd E r0 = 1) : ∀ (S : xSt) (x1 : Int) (x2 : Int), f_X0_mark_p1_0_b81 r0 S x1 x2 = some (v, S') → WG K E 81 [(0, vr E r0 0), (1, vi x1), (2, vi x2)] [] S := by
  intro S x1 x2 h
  unfold f_X0_mark_p1_0_b81 at h
  refine g_iload_n hC rfl 2 rfl (rfl : 81 + 1 = 82) (xdt tt_X0_mark 45 rfl) ?_
  refine g_if_ne hC (show ((82 : Nat) : Int) + 19 = ((101 : Nat) : Int) by decide) (rfl : 82 + 3 = 85) (xdt tt_X0_mark 46 rfl) (fun hc14 => ?_) (fun hc14 => ?_)
  · replace h := (if_pos hc14).symm.trans h
    refine g_iconst hC (rfl : 101 + 1 = 102) (xdt tt_X0_mark 55 rfl) ?_
    cases h
    exact g_zret hC hE (Or.inl rfl) (xdt tt_X0_mark 56 rfl)
  · replace h := (if_neg hc14).symm.trans h
    refine g_aload_n hC rfl 0 rfl (rfl : 85 + 1 = 86) (xdt tt_X0_mark 47 rfl) ?_
    obtain ⟨rg11, hrg11, grg11, h⟩ := ckP_i h
    refine g_getV hC hk0 kclX0 ly1_0 0 (by decide) rfl hrg11 grg11 q146 (rfl : 86 + 3 = 89) (xdt tt_X0_mark 48 rfl) (fun krg11 => ?_)
    refine g_getP hC krg11 kclX5 ly2_0 3 (by decide) (rfl : rg11 + 0 = rg11) rfl q723 (rfl : 89 + 3 = 92) (xdt tt_X0_mark 49 rfl) ?_
    refine g_iload_n hC rfl 1 rfl (rfl : 92 + 1 = 93) (xdt tt_X0_mark 50 rfl) ?_
    obtain ⟨hi12, h⟩ := ckI_i h
    refine g_zald hC krg11 ly2_6 hi12 (rfl : 93 + 1 = 94) (xdt tt_X0_mark 51 rfl) (k0 := (wr x1).toNat) rfl ?_
    refine g_if_ne hC (show ((94 : Nat) : Int) + 7 = ((101 : Nat) : Int) by decide) (rfl : 94 + 3 = 97) (xdt tt_X0_mark 52 rfl) (fun hc13 => ?_) (fun hc13 => ?_)
    · replace h := (if_pos hc13).symm.trans h
      refine g_iconst hC (rfl : 101 + 1 = 102) (xdt tt_X0_mark 55 rfl) ?_
      cases h
      exact g_zret hC hE (Or.inl rfl) (xdt tt_X0_mark 56 rfl)
    · replace h := (if_neg hc13).symm.trans h
      refine g_iconst hC (rfl : 97 + 1 = 98) (xdt tt_X0_mark 53 rfl) ?_
      refine g_goto hC (show ((98 : Nat) : Int) + 4 = ((102 : Nat) : Int) by decide) (xdt tt_X0_mark 54 rfl) ?_
      cases h
      exact g_zret hC hE (Or.inr rfl) (xdt tt_X0_mark 56 rfl)
set_option maxRecDepth 100000 in
set_option maxHeartbeats 4000000 in
theorem k_X0_mark_p1_0_b64 {K : xCtx} {E : xE} {b : Nat} (hC : xOK K cX0_mark RX0 3 (rmE 2 b)) (hZ : xZ K) {v : Int} {S' : xSt} (hE : xEnd K E (some .boolean) (YQz E v S')) {r0 : Nat} (hk0 : xkd E r0 = 1) : ∀ (S : xSt) (x1 : Int) (x2 : Int), f_X0_mark_p1_0_b64 r0 S x1 x2 = some (v, S') → WG K E 64 [(0, vr E r0 0), (1, vi x1), (2, vi x2)] [] S := by
  intro S x1 x2 h
  unfold f_X0_mark_p1_0_b64 at h
  refine g_aload_n hC rfl 0 rfl (rfl : 64 + 1 = 65) (xdt tt_X0_mark 36 rfl) ?_
  obtain ⟨rg9, hrg9, grg9, h⟩ := ckP_i h
  refine g_getV hC hk0 kclX0 ly1_0 0 (by decide) rfl hrg9 grg9 q146 (rfl : 65 + 3 = 68) (xdt tt_X0_mark 37 rfl) (fun krg9 => ?_)
  refine g_getP hC krg9 kclX5 ly2_0 3 (by decide) (rfl : rg9 + 0 = rg9) rfl q723 (rfl : 68 + 3 = 71) (xdt tt_X0_mark 38 rfl) ?_
  refine g_iload_n hC rfl 1 rfl (rfl : 71 + 1 = 72) (xdt tt_X0_mark 39 rfl) ?_
  obtain ⟨hi10, h⟩ := ckI_i h
  refine g_zald hC krg9 ly2_6 hi10 (rfl : 72 + 1 = 73) (xdt tt_X0_mark 40 rfl) (k0 := (wr x1).toNat) rfl ?_
  refine g_if_eq hC (show ((73 : Nat) : Int) + 8 = ((81 : Nat) : Int) by decide) (rfl : 73 + 3 = 76) (xdt tt_X0_mark 41 rfl) (fun hc16 => ?_) (fun hc16 => ?_)
  · replace h := (if_pos hc16).symm.trans h
    refine g_sub [0, 1, 2] (lv' := [(0, vr E r0 0), (1, vi x1), (2, vi x2)]) rfl ?_
    exact k_X0_mark_p1_0_b81 hC hZ hE hk0 _ _ _ h
  · replace h := (if_neg hc16).symm.trans h
    refine g_aload_n hC rfl 0 rfl (rfl : 76 + 1 = 77) (xdt tt_X0_mark 42 rfl) ?_
    refine g_iconst hC (rfl : 77 + 1 = 78) (xdt tt_X0_mark 43 rfl) ?_
    obtain ⟨S15, hS15, h⟩ := lt1_i h
    refine g_putI hC hk0 kclX0 ly1_0 16 (by decide) rfl rfl rfl q160 hS15 (rfl : 78 + 3 = 81) (xdt tt_X0_mark 44 rfl) ?_
    refine g_sub [0, 1, 2] (lv' := [(0, vr E r0 0), (1, vi x1), (2, vi x2)]) rfl ?_
    exact k_X0_mark_p1_0_b81 hC hZ hE hk0 _ _ _ h
set_option maxRecDepth 100000 in
set_option maxHeartbeats 4000000 in
theorem c_X0_mark_p1_0 (l : Launch) {E : xE} {S S' : xSt} {r0 : Nat} (hk0 : xkd E r0 = 1) {v : Int} (h : f_X0_mark_p1_0 S r0 = some (v, S')) : Met l yX0_mark (xws yX0_mark cX0_mark 3 (some .boolean)) (rmD 2) (YPc E [vr E r0 0] S) (YQz E v S') 0 0 (xA E) := by
  unfold f_X0_mark_p1_0 at h
  refine met_z (by decide +kernel) (Nat.le_of_ble_eq_true rfl) (fun K hC hZ hE => ?_)
  have hC : xOK K cX0_mark RX0 3 (rmE 2 0) := hC
  show WG K E 0 [(0, vr E r0 0)] [] S
  refine g_aload_n hC rfl 0 rfl (rfl : 0 + 1 = 1) (xdt tt_X0_mark 0 rfl) ?_
  refine g_getI hC hk0 kclX0 ly1_0 10 (by decide) rfl q154 (rfl : 1 + 3 = 4) (xdt tt_X0_mark 1 rfl) ?_
  refine g_istore_n hC rfl (by decide) (lv' := [(1, vi (gI S r0 0 10)), (0, vr E r0 0)]) rfl (rfl : 4 + 1 = 5) (xdt tt_X0_mark 2 rfl) ?_
  refine g_iload_n hC rfl 0 rfl (rfl : 5 + 1 = 6) (xdt tt_X0_mark 3 rfl) ?_
  refine g_if_lt hC (show ((6 : Nat) : Int) + 14 = ((20 : Nat) : Int) by decide) (rfl : 6 + 3 = 9) (xdt tt_X0_mark 4 rfl) (fun hc23 => ?_) (fun hc23 => ?_)
  · replace h := (if_pos hc23).symm.trans h
    refine g_iconst hC (rfl : 20 + 1 = 21) (xdt tt_X0_mark 10 rfl) ?_
    cases h
    exact g_zret hC hE (Or.inl rfl) (xdt tt_X0_mark 11 rfl)
  · replace h := (if_neg hc23).symm.trans h
    refine g_iload_n hC rfl 0 rfl (rfl : 9 + 1 = 10) (xdt tt_X0_mark 5 rfl) ?_
    refine g_aload_n hC rfl 1 rfl (rfl : 10 + 1 = 11) (xdt tt_X0_mark 6 rfl) ?_
    obtain ⟨rg1, hrg1, grg1, h⟩ := ckP_i h
    refine g_getV hC hk0 kclX0 ly1_0 0 (by decide) rfl hrg1 grg1 q146 (rfl : 11 + 3 = 14) (xdt tt_X0_mark 7 rfl) (fun krg1 => ?_)
    refine g_getI hC krg1 kclX5 ly2_0 10 (by decide) rfl q644 (rfl : 14 + 3 = 17) (xdt tt_X0_mark 8 rfl) ?_
    refine g_icmp_lt hC (show ((17 : Nat) : Int) + 5 = ((22 : Nat) : Int) by decide) (rfl : 17 + 3 = 20) (xdt tt_X0_mark 9 rfl) (fun hc22 => ?_) (fun hc22 => ?_)
    · replace h := (if_pos hc22).symm.trans h
      refine g_aload_n hC rfl 1 rfl (rfl : 22 + 1 = 23) (xdt tt_X0_mark 12 rfl) ?_
      refine g_iload_n hC rfl 0 rfl (rfl : 23 + 1 = 24) (xdt tt_X0_mark 13 rfl) ?_
      obtain ⟨v4, S3, hc2, h⟩ := bd2_i h
      refine g_callVz hC hZ hk0 kclX0 ly1_0 m_X0_predictsTaken q1133 (Nat.le_of_ble_eq_true rfl) [vi (gI S r0 0 10)] rfl (fun l => c_X0_predictsTaken_p1_0 l hk0 hc2) rfl (Nat.le_of_ble_eq_true rfl) (rfl : 24 + 3 = 27) (xdt tt_X0_mark 14 rfl) (fun hb5 => ?_)
      refine g_istore_n hC rfl (by decide) (lv' := [(2, vi v4), (1, vi (gI S r0 0 10)), (0, vr E r0 0)]) rfl (rfl : 27 + 1 = 28) (xdt tt_X0_mark 15 rfl) ?_
      refine g_aload_n hC rfl 2 rfl (rfl : 28 + 1 = 29) (xdt tt_X0_mark 16 rfl) ?_
      refine g_getP hC hk0 kclX0 ly1_0 3 (by decide) (rfl : r0 + 0 = r0) rfl q102 (rfl : 29 + 3 = 32) (xdt tt_X0_mark 17 rfl) ?_
      refine g_iload_n hC rfl 1 rfl (rfl : 32 + 1 = 33) (xdt tt_X0_mark 18 rfl) ?_
      refine g_iload_n hC rfl 0 rfl (rfl : 33 + 1 = 34) (xdt tt_X0_mark 19 rfl) ?_
      obtain ⟨S7, hc6, h⟩ := bd_i h
      refine g_callVv hC hZ hk0 kclX6 ly1_5 m_X6_append q1134 (Nat.le_of_ble_eq_true rfl) [vi (gI S r0 0 10), vi v4] rfl (fun l => c_X6_append_p1_5 l hk0 hc6) rfl (Nat.le_of_ble_eq_true rfl) (rfl : 34 + 3 = 37) (xdt tt_X0_mark 20 rfl) ?_
      refine g_iload_n hC rfl 0 rfl (rfl : 37 + 1 = 38) (xdt tt_X0_mark 21 rfl) ?_
      refine g_if_eq hC (show ((38 : Nat) : Int) + 19 = ((57 : Nat) : Int) by decide) (rfl : 38 + 3 = 41) (xdt tt_X0_mark 22 rfl) (fun hc21 => ?_) (fun hc21 => ?_)
      · replace h := (if_pos hc21).symm.trans h
        refine g_aload_n hC rfl 2 rfl (rfl : 57 + 1 = 58) (xdt tt_X0_mark 31 rfl) ?_
        refine g_iload_n hC rfl 1 rfl (rfl : 58 + 1 = 59) (xdt tt_X0_mark 32 rfl) ?_
        refine g_iconst hC (rfl : 59 + 1 = 60) (xdt tt_X0_mark 33 rfl) ?_
        refine g_iadd hC (rfl : 60 + 1 = 61) (xdt tt_X0_mark 34 rfl) ?_
        obtain ⟨S8, hS8, h⟩ := lt1_i h
        refine g_putI hC hk0 kclX0 ly1_0 10 (by decide) rfl rfl rfl q154 hS8 (rfl : 61 + 3 = 64) (xdt tt_X0_mark 35 rfl) ?_
        refine g_sub [2, 1, 0] (lv' := [(0, vr E r0 0), (1, vi (gI S r0 0 10)), (2, vi v4)]) rfl ?_
        exact k_X0_mark_p1_0_b64 hC hZ hE hk0 _ _ _ h
      · replace h := (if_neg hc21).symm.trans h
        refine g_aload_n hC rfl 2 rfl (rfl : 41 + 1 = 42) (xdt tt_X0_mark 23 rfl) ?_
        refine g_aload_n hC rfl 2 rfl (rfl : 42 + 1 = 43) (xdt tt_X0_mark 24 rfl) ?_
        obtain ⟨rg17, hrg17, grg17, h⟩ := ckP_i h
        refine g_getV hC hk0 kclX0 ly1_0 0 (by decide) rfl hrg17 grg17 q146 (rfl : 43 + 3 = 46) (xdt tt_X0_mark 25 rfl) (fun krg17 => ?_)
        refine g_getP hC krg17 kclX5 ly2_0 8 (by decide) (rfl : rg17 + 0 = rg17) rfl q1088 (rfl : 46 + 3 = 49) (xdt tt_X0_mark 26 rfl) ?_
        refine g_iload_n hC rfl 1 rfl (rfl : 49 + 1 = 50) (xdt tt_X0_mark 27 rfl) ?_
        obtain ⟨hi18, h⟩ := ckI_i h
        refine g_iald hC krg17 ly2_11 hi18 (rfl : 50 + 1 = 51) (xdt tt_X0_mark 28 rfl) (k0 := (wr (gI S r0 0 10)).toNat) rfl ?_
        obtain ⟨S20, hc19, h⟩ := bd_i h
        refine g_callVv hC hZ hk0 kclX0 ly1_0 m_X0_setPlace q1095 (Nat.le_of_ble_eq_true rfl) [vi (gI S7 rg17 11 (wr (gI S r0 0 10)).toNat)] rfl (fun l => c_X0_setPlace_p1_0 l hk0 hc19) rfl (Nat.le_of_ble_eq_true rfl) (rfl : 51 + 3 = 54) (xdt tt_X0_mark 29 rfl) ?_
        refine g_goto hC (show ((54 : Nat) : Int) + 10 = ((64 : Nat) : Int) by decide) (xdt tt_X0_mark 30 rfl) ?_
        refine g_sub [2, 1, 0] (lv' := [(0, vr E r0 0), (1, vi (gI S r0 0 10)), (2, vi v4)]) rfl ?_
        exact k_X0_mark_p1_0_b64 hC hZ hE hk0 _ _ _ h
    · replace h := (if_neg hc22).symm.trans h
      refine g_iconst hC (rfl : 20 + 1 = 21) (xdt tt_X0_mark 10 rfl) ?_
      cases h
      exact g_zret hC hE (Or.inl rfl) (xdt tt_X0_mark 11 rfl)
def f_X0_fetch_p1_0_b51 (r0 : Nat) : Nat → xSt → Int → Int → Option (xSt)
  | 0, _, _, _ => none
  | fuel + 1, S, x1, x2 =>
    if wr x1 = 0 then
      (some S)
    else
      (if wr 20 < wr x2 then
        (some S)
      else
        (bd2 (f_X0_canMark_p1_0 S r0) fun v6 S5 =>
        if wr v6 = 0 then
          ((f_X0_fetch_p1_0_b51 r0 fuel) S5 0 (x2 + 1))
        else
          (bd2 (f_X0_mark_p1_0 S5 r0) fun v10 S9 =>
          if wr v10 = 0 then
            ((f_X0_fetch_p1_0_b51 r0 fuel) S9 0 (x2 + 1))
          else
            ((f_X0_fetch_p1_0_b51 r0 fuel) S9 1 (x2 + 1)))))
def f_X0_fetch_p1_0 (S : xSt) (r0 : Nat) : Option (xSt) :=
  if ¬ wr (gI S r0 8 0) = 0 then
    (some S)
  else
    (ckP S r0 0 0 2 0 fun rg1 =>
    if wr (gI S r0 0 10) < wr (gI S rg1 0 10) then
      (if wr (gI S r0 0 16) ≤ 0 then
        (bd (f_X0_readWindow_p1_0 S r0) fun S3 =>
        f_X0_fetch_p1_0_b51 r0 (fu S3) S3 1 0)
      else
        (lt1 (wI S r0 0 16 ((gI S r0 0 16) - 1)) fun S16 =>
        some S16))
    else
      (some S))
set_option maxRecDepth 100000 in
set_option maxHeartbeats 4000000 in
theorem k_X0_fetch_p1_0_b51 {K : xCtx} {E : xE} {b : Nat} (hC : xOK K cX0_fetch RX0 3 (rmE 3 b)) (hZ : xZ K) {S' : xSt} (hE : xEnd K E none (YQv E S')) {r0 : Nat} (hk0 : xkd E r0 = 1) : ∀ (fuel : Nat) (S : xSt) (x1 : Int) (x2 : Int), f_X0_fetch_p1_0_b51 r0 fuel S x1 x2 = some S' → WG K E 51 [(0, vr E r0 0), (1, vi x1), (2, vi x2)] [] S := by
  intro fuel
  induction fuel with
  | zero => intro S x1 x2 h; cases h
  | succ fuel ih =>
    intro S x1 x2 h
    rw [f_X0_fetch_p1_0_b51] at h
    refine g_iload_n hC rfl 1 rfl (rfl : 51 + 1 = 52) (xdt tt_X0_fetch 27 rfl) ?_
    refine g_if_eq hC (show ((52 : Nat) : Int) + 35 = ((87 : Nat) : Int) by decide) (rfl : 52 + 3 = 55) (xdt tt_X0_fetch 28 rfl) (fun hc15 => ?_) (fun hc15 => ?_)
    · replace h := (if_pos hc15).symm.trans h
      cases h
      exact g_vret hC hE (xdt tt_X0_fetch 44 rfl)
    · replace h := (if_neg hc15).symm.trans h
      refine g_iload_n hC rfl 2 rfl (rfl : 55 + 1 = 56) (xdt tt_X0_fetch 29 rfl) ?_
      refine g_bipush hC (by decide) (rfl : 56 + 2 = 58) (xdt tt_X0_fetch 30 rfl) ?_
      refine g_icmp_gt hC (show ((58 : Nat) : Int) + 29 = ((87 : Nat) : Int) by decide) (rfl : 58 + 3 = 61) (xdt tt_X0_fetch 31 rfl) (fun hc14 => ?_) (fun hc14 => ?_)
      · replace h := (if_pos hc14).symm.trans h
        cases h
        exact g_vret hC hE (xdt tt_X0_fetch 44 rfl)
      · replace h := (if_neg hc14).symm.trans h
        refine g_aload_n hC rfl 0 rfl (rfl : 61 + 1 = 62) (xdt tt_X0_fetch 32 rfl) ?_
        obtain ⟨v6, S5, hc4, h⟩ := bd2_i h
        refine g_callVz hC hZ hk0 kclX0 ly1_0 m_X0_canMark q1125 (Nat.le_of_ble_eq_true rfl) [] rfl (fun l => c_X0_canMark_p1_0 l hk0 hc4) rfl (Nat.le_of_ble_eq_true rfl) (rfl : 62 + 3 = 65) (xdt tt_X0_fetch 33 rfl) (fun hb7 => ?_)
        refine g_if_eq hC (show ((65 : Nat) : Int) + 14 = ((79 : Nat) : Int) by decide) (rfl : 65 + 3 = 68) (xdt tt_X0_fetch 34 rfl) (fun hc13 => ?_) (fun hc13 => ?_)
        · replace h := (if_pos hc13).symm.trans h
          refine g_iconst hC (rfl : 79 + 1 = 80) (xdt tt_X0_fetch 40 rfl) ?_
          refine g_istore_n hC rfl (by decide) (lv' := [(1, vi 0), (0, vr E r0 0), (2, vi x2)]) rfl (rfl : 80 + 1 = 81) (xdt tt_X0_fetch 41 rfl) ?_
          refine g_iinc hC 2 rfl (by decide) (lv' := [(2, vi (x2 + 1)), (1, vi 0), (0, vr E r0 0)]) rfl (rfl : 81 + 3 = 84) (xdt tt_X0_fetch 42 rfl) ?_
          refine g_goto hC (show ((84 : Nat) : Int) + (-33) = ((51 : Nat) : Int) by decide) (xdt tt_X0_fetch 43 rfl) ?_
          refine g_sub [2, 1, 0] (lv' := [(0, vr E r0 0), (1, vi 0), (2, vi (x2 + 1))]) rfl ?_
          exact ih _ _ _ h
        · replace h := (if_neg hc13).symm.trans h
          refine g_aload_n hC rfl 0 rfl (rfl : 68 + 1 = 69) (xdt tt_X0_fetch 35 rfl) ?_
          obtain ⟨v10, S9, hc8, h⟩ := bd2_i h
          refine g_callVz hC hZ hk0 kclX0 ly1_0 m_X0_mark q1129 (Nat.le_of_ble_eq_true rfl) [] rfl (fun l => c_X0_mark_p1_0 l hk0 hc8) rfl (Nat.le_of_ble_eq_true rfl) (rfl : 69 + 3 = 72) (xdt tt_X0_fetch 36 rfl) (fun hb11 => ?_)
          refine g_if_eq hC (show ((72 : Nat) : Int) + 7 = ((79 : Nat) : Int) by decide) (rfl : 72 + 3 = 75) (xdt tt_X0_fetch 37 rfl) (fun hc12 => ?_) (fun hc12 => ?_)
          · replace h := (if_pos hc12).symm.trans h
            refine g_iconst hC (rfl : 79 + 1 = 80) (xdt tt_X0_fetch 40 rfl) ?_
            refine g_istore_n hC rfl (by decide) (lv' := [(1, vi 0), (0, vr E r0 0), (2, vi x2)]) rfl (rfl : 80 + 1 = 81) (xdt tt_X0_fetch 41 rfl) ?_
            refine g_iinc hC 2 rfl (by decide) (lv' := [(2, vi (x2 + 1)), (1, vi 0), (0, vr E r0 0)]) rfl (rfl : 81 + 3 = 84) (xdt tt_X0_fetch 42 rfl) ?_
            refine g_goto hC (show ((84 : Nat) : Int) + (-33) = ((51 : Nat) : Int) by decide) (xdt tt_X0_fetch 43 rfl) ?_
            refine g_sub [2, 1, 0] (lv' := [(0, vr E r0 0), (1, vi 0), (2, vi (x2 + 1))]) rfl ?_
            exact ih _ _ _ h
          · replace h := (if_neg hc12).symm.trans h
            refine g_iconst hC (rfl : 75 + 1 = 76) (xdt tt_X0_fetch 38 rfl) ?_
            refine g_goto hC (show ((76 : Nat) : Int) + 4 = ((80 : Nat) : Int) by decide) (xdt tt_X0_fetch 39 rfl) ?_
            refine g_istore_n hC rfl (by decide) (lv' := [(1, vi 1), (0, vr E r0 0), (2, vi x2)]) rfl (rfl : 80 + 1 = 81) (xdt tt_X0_fetch 41 rfl) ?_
            refine g_iinc hC 2 rfl (by decide) (lv' := [(2, vi (x2 + 1)), (1, vi 1), (0, vr E r0 0)]) rfl (rfl : 81 + 3 = 84) (xdt tt_X0_fetch 42 rfl) ?_
            refine g_goto hC (show ((84 : Nat) : Int) + (-33) = ((51 : Nat) : Int) by decide) (xdt tt_X0_fetch 43 rfl) ?_
            refine g_sub [2, 1, 0] (lv' := [(0, vr E r0 0), (1, vi 1), (2, vi (x2 + 1))]) rfl ?_
            exact ih _ _ _ h
set_option maxRecDepth 100000 in
set_option maxHeartbeats 4000000 in
theorem c_X0_fetch_p1_0 (l : Launch) {E : xE} {S S' : xSt} {r0 : Nat} (hk0 : xkd E r0 = 1) (h : f_X0_fetch_p1_0 S r0 = some S') : Met l yX0_fetch (xws yX0_fetch cX0_fetch 3 none) (rmD 3) (YPc E [vr E r0 0] S) (YQv E S') 0 0 (xA E) := by
  unfold f_X0_fetch_p1_0 at h
  refine met_v (by decide +kernel) (Nat.le_of_ble_eq_true rfl) (fun K hC hZ hE => ?_)
  have hC : xOK K cX0_fetch RX0 3 (rmE 3 0) := hC
  show WG K E 0 [(0, vr E r0 0)] [] S
  refine g_aload_n hC rfl 0 rfl (rfl : 0 + 1 = 1) (xdt tt_X0_fetch 0 rfl) ?_
  refine g_getP hC hk0 kclX0 ly1_0 4 (by decide) (rfl : r0 + 0 = r0) rfl q106 (rfl : 1 + 3 = 4) (xdt tt_X0_fetch 1 rfl) ?_
  refine g_getI hC hk0 kclX7 ly1_8 0 (by decide) rfl q151 (rfl : 4 + 3 = 7) (xdt tt_X0_fetch 2 rfl) ?_
  refine g_if_ne hC (show ((7 : Nat) : Int) + 17 = ((24 : Nat) : Int) by decide) (rfl : 7 + 3 = 10) (xdt tt_X0_fetch 3 rfl) (fun hc19 => ?_) (fun hc19 => ?_)
  · replace h := (if_pos hc19).symm.trans h
    cases h
    exact g_vret hC hE (xdt tt_X0_fetch 10 rfl)
  · replace h := (if_neg hc19).symm.trans h
    refine g_aload_n hC rfl 0 rfl (rfl : 10 + 1 = 11) (xdt tt_X0_fetch 4 rfl) ?_
    refine g_getI hC hk0 kclX0 ly1_0 10 (by decide) rfl q154 (rfl : 11 + 3 = 14) (xdt tt_X0_fetch 5 rfl) ?_
    refine g_aload_n hC rfl 0 rfl (rfl : 14 + 1 = 15) (xdt tt_X0_fetch 6 rfl) ?_
    obtain ⟨rg1, hrg1, grg1, h⟩ := ckP_i h
    refine g_getV hC hk0 kclX0 ly1_0 0 (by decide) rfl hrg1 grg1 q146 (rfl : 15 + 3 = 18) (xdt tt_X0_fetch 7 rfl) (fun krg1 => ?_)
    refine g_getI hC krg1 kclX5 ly2_0 10 (by decide) rfl q644 (rfl : 18 + 3 = 21) (xdt tt_X0_fetch 8 rfl) ?_
    refine g_icmp_lt hC (show ((21 : Nat) : Int) + 4 = ((25 : Nat) : Int) by decide) (rfl : 21 + 3 = 24) (xdt tt_X0_fetch 9 rfl) (fun hc18 => ?_) (fun hc18 => ?_)
    · replace h := (if_pos hc18).symm.trans h
      refine g_aload_n hC rfl 0 rfl (rfl : 25 + 1 = 26) (xdt tt_X0_fetch 11 rfl) ?_
      refine g_getI hC hk0 kclX0 ly1_0 16 (by decide) rfl q160 (rfl : 26 + 3 = 29) (xdt tt_X0_fetch 12 rfl) ?_
      refine g_if_le hC (show ((29 : Nat) : Int) + 14 = ((43 : Nat) : Int) by decide) (rfl : 29 + 3 = 32) (xdt tt_X0_fetch 13 rfl) (fun hc17 => ?_) (fun hc17 => ?_)
      · replace h := (if_pos hc17).symm.trans h
        refine g_aload_n hC rfl 0 rfl (rfl : 43 + 1 = 44) (xdt tt_X0_fetch 21 rfl) ?_
        obtain ⟨S3, hc2, h⟩ := bd_i h
        refine g_callVv hC hZ hk0 kclX0 ly1_0 m_X0_readWindow q1120 (Nat.le_of_ble_eq_true rfl) [] rfl (fun l => c_X0_readWindow_p1_0 l hk0 hc2) rfl (Nat.le_of_ble_eq_true rfl) (rfl : 44 + 3 = 47) (xdt tt_X0_fetch 22 rfl) ?_
        refine g_iconst hC (rfl : 47 + 1 = 48) (xdt tt_X0_fetch 23 rfl) ?_
        refine g_istore_n hC rfl (by decide) (lv' := [(1, vi 1), (0, vr E r0 0)]) rfl (rfl : 48 + 1 = 49) (xdt tt_X0_fetch 24 rfl) ?_
        refine g_iconst hC (rfl : 49 + 1 = 50) (xdt tt_X0_fetch 25 rfl) ?_
        refine g_istore_n hC rfl (by decide) (lv' := [(2, vi 0), (1, vi 1), (0, vr E r0 0)]) rfl (rfl : 50 + 1 = 51) (xdt tt_X0_fetch 26 rfl) ?_
        refine g_sub [2, 1, 0] (lv' := [(0, vr E r0 0), (1, vi 1), (2, vi 0)]) rfl ?_
        exact k_X0_fetch_p1_0_b51 hC hZ hE hk0 _ _ _ _ h
      · replace h := (if_neg hc17).symm.trans h
        refine g_aload_n hC rfl 0 rfl (rfl : 32 + 1 = 33) (xdt tt_X0_fetch 14 rfl) ?_
        refine g_dup hC rfl (rfl : 33 + 1 = 34) (xdt tt_X0_fetch 15 rfl) ?_
        refine g_getI hC hk0 kclX0 ly1_0 16 (by decide) rfl q160 (rfl : 34 + 3 = 37) (xdt tt_X0_fetch 16 rfl) ?_
        refine g_iconst hC (rfl : 37 + 1 = 38) (xdt tt_X0_fetch 17 rfl) ?_
        refine g_isub hC (rfl : 38 + 1 = 39) (xdt tt_X0_fetch 18 rfl) ?_
        obtain ⟨S16, hS16, h⟩ := lt1_i h
        refine g_putI hC hk0 kclX0 ly1_0 16 (by decide) rfl rfl rfl q160 hS16 (rfl : 39 + 3 = 42) (xdt tt_X0_fetch 19 rfl) ?_
        cases h
        exact g_vret hC hE (xdt tt_X0_fetch 20 rfl)
    · replace h := (if_neg hc18).symm.trans h
      cases h
      exact g_vret hC hE (xdt tt_X0_fetch 10 rfl)
def f_X0_passCycle_p1_0 (S : xSt) (r0 : Nat) : Option (xSt) :=
  lt1 (wI S r0 15 0 ((gI S r0 15 0) + 1)) fun S1 =>
  bd (f_X0_takeOps_p1_0 S1 r0) fun S3 =>
  bd (f_X0_decodeLanes_p1_0 S3 r0) fun S5 =>
  bd (f_X0_fetch_p1_0 S5 r0) fun S7 =>
  some S7
set_option maxRecDepth 100000 in
set_option maxHeartbeats 4000000 in
theorem c_X0_passCycle_p1_0 (l : Launch) {E : xE} {S S' : xSt} {r0 : Nat} (hk0 : xkd E r0 = 1) (h : f_X0_passCycle_p1_0 S r0 = some S') : Met l yX0_passCycle (xws yX0_passCycle cX0_passCycle 1 none) (rmD 5) (YPc E [vr E r0 0] S) (YQv E S') 0 0 (xA E) := by
  unfold f_X0_passCycle_p1_0 at h
  refine met_v (by decide +kernel) (Nat.le_of_ble_eq_true rfl) (fun K hC hZ hE => ?_)
  have hC : xOK K cX0_passCycle RX0 1 (rmE 5 0) := hC
  show WG K E 0 [(0, vr E r0 0)] [] S
  refine g_aload_n hC rfl 0 rfl (rfl : 0 + 1 = 1) (xdt tt_X0_passCycle 0 rfl) ?_
  refine g_getP hC hk0 kclX0 ly1_0 7 (by decide) (rfl : r0 + 0 = r0) rfl q116 (rfl : 1 + 3 = 4) (xdt tt_X0_passCycle 1 rfl) ?_
  refine g_getP hC hk0 kclX9 ly1_14 0 (by decide) (rfl : r0 + 0 = r0) rfl q1029 (rfl : 4 + 3 = 7) (xdt tt_X0_passCycle 2 rfl) ?_
  refine g_iconst hC (rfl : 7 + 1 = 8) (xdt tt_X0_passCycle 3 rfl) ?_
  refine g_dup2 hC rfl rfl (rfl : 8 + 1 = 9) (xdt tt_X0_passCycle 4 rfl) ?_
  refine g_iald hC hk0 ly1_15 (by decide) (rfl : 9 + 1 = 10) (xdt tt_X0_passCycle 5 rfl) (k0 := 0) (by decide) ?_
  refine g_iconst hC (rfl : 10 + 1 = 11) (xdt tt_X0_passCycle 6 rfl) ?_
  refine g_iadd hC (rfl : 11 + 1 = 12) (xdt tt_X0_passCycle 7 rfl) ?_
  obtain ⟨S1, hS1, h⟩ := lt1_i h
  refine g_iast hC hk0 ly1_15 (by decide) (by decide) hS1 (rfl : 12 + 1 = 13) (xdt tt_X0_passCycle 8 rfl) ?_
  refine g_aload_n hC rfl 0 rfl (rfl : 13 + 1 = 14) (xdt tt_X0_passCycle 9 rfl) ?_
  obtain ⟨S3, hc2, h⟩ := bd_i h
  refine g_callVv hC hZ hk0 kclX0 ly1_0 m_X0_takeOps q1034 (Nat.le_of_ble_eq_true rfl) [] rfl (fun l => c_X0_takeOps_p1_0 l hk0 hc2) rfl (Nat.le_of_ble_eq_true rfl) (rfl : 14 + 3 = 17) (xdt tt_X0_passCycle 10 rfl) ?_
  refine g_aload_n hC rfl 0 rfl (rfl : 17 + 1 = 18) (xdt tt_X0_passCycle 11 rfl) ?_
  obtain ⟨S5, hc4, h⟩ := bd_i h
  refine g_callVv hC hZ hk0 kclX0 ly1_0 m_X0_decodeLanes q1039 (Nat.le_of_ble_eq_true rfl) [] rfl (fun l => c_X0_decodeLanes_p1_0 l hk0 hc4) rfl (Nat.le_of_ble_eq_true rfl) (rfl : 18 + 3 = 21) (xdt tt_X0_passCycle 12 rfl) ?_
  refine g_aload_n hC rfl 0 rfl (rfl : 21 + 1 = 22) (xdt tt_X0_passCycle 13 rfl) ?_
  obtain ⟨S7, hc6, h⟩ := bd_i h
  refine g_callVv hC hZ hk0 kclX0 ly1_0 m_X0_fetch q1116 (Nat.le_of_ble_eq_true rfl) [] rfl (fun l => c_X0_fetch_p1_0 l hk0 hc6) rfl (Nat.le_of_ble_eq_true rfl) (rfl : 22 + 3 = 25) (xdt tt_X0_passCycle 14 rfl) ?_
  cases h
  exact g_vret hC hE (xdt tt_X0_passCycle 15 rfl)
def f_X0_decodeFor_p1_0_b12 (r0 : Nat) : Nat → xSt → Int → Int → Int → Option (Int × xSt)
  | 0, _, _, _, _ => none
  | fuel + 1, S, x1, x2, x3 =>
    if wr x1 ≤ wr x3 then
      (some (((gI S r0 15 1) - x2), S))
    else
      (bd (f_X0_passCycle_p1_0 S r0) fun S2 =>
      (f_X0_decodeFor_p1_0_b12 r0 fuel) S2 x1 x2 (x3 + 1))
def f_X0_decodeFor_p1_0 (S : xSt) (r0 : Nat) (a1 : Int) : Option (Int × xSt) :=
  f_X0_decodeFor_p1_0_b12 r0 (fu S) S a1 (gI S r0 15 1) 0
set_option maxRecDepth 100000 in
set_option maxHeartbeats 4000000 in
theorem k_X0_decodeFor_p1_0_b12 {K : xCtx} {E : xE} {b : Nat} (hC : xOK K cX0_decodeFor RX0 4 (rmE 6 b)) (hZ : xZ K) {v : Int} {S' : xSt} (hE : xEnd K E (some .int) (YQi E v S')) {r0 : Nat} (hk0 : xkd E r0 = 1) : ∀ (fuel : Nat) (S : xSt) (x1 : Int) (x2 : Int) (x3 : Int), f_X0_decodeFor_p1_0_b12 r0 fuel S x1 x2 x3 = some (v, S') → WG K E 12 [(0, vr E r0 0), (1, vi x1), (2, vi x2), (3, vi x3)] [] S := by
  intro fuel
  induction fuel with
  | zero => intro S x1 x2 x3 h; cases h
  | succ fuel ih =>
    intro S x1 x2 x3 h
    rw [f_X0_decodeFor_p1_0_b12] at h
    refine g_iload_n hC rfl 3 rfl (rfl : 12 + 1 = 13) (xdt tt_X0_decodeFor 8 rfl) ?_
    refine g_iload_n hC rfl 1 rfl (rfl : 13 + 1 = 14) (xdt tt_X0_decodeFor 9 rfl) ?_
    refine g_icmp_ge hC (show ((14 : Nat) : Int) + 13 = ((27 : Nat) : Int) by decide) (rfl : 14 + 3 = 17) (xdt tt_X0_decodeFor 10 rfl) (fun hc3 => ?_) (fun hc3 => ?_)
    · replace h := (if_pos hc3).symm.trans h
      refine g_aload_n hC rfl 0 rfl (rfl : 27 + 1 = 28) (xdt tt_X0_decodeFor 15 rfl) ?_
      refine g_getP hC hk0 kclX0 ly1_0 7 (by decide) (rfl : r0 + 0 = r0) rfl q116 (rfl : 28 + 3 = 31) (xdt tt_X0_decodeFor 16 rfl) ?_
      refine g_getP hC hk0 kclX9 ly1_14 0 (by decide) (rfl : r0 + 0 = r0) rfl q1029 (rfl : 31 + 3 = 34) (xdt tt_X0_decodeFor 17 rfl) ?_
      refine g_iconst hC (rfl : 34 + 1 = 35) (xdt tt_X0_decodeFor 18 rfl) ?_
      refine g_iald hC hk0 ly1_15 (by decide) (rfl : 35 + 1 = 36) (xdt tt_X0_decodeFor 19 rfl) (k0 := 1) (by decide) ?_
      refine g_iload_n hC rfl 2 rfl (rfl : 36 + 1 = 37) (xdt tt_X0_decodeFor 20 rfl) ?_
      refine g_isub hC (rfl : 37 + 1 = 38) (xdt tt_X0_decodeFor 21 rfl) ?_
      cases h
      exact g_iret hC hE (xdt tt_X0_decodeFor 22 rfl)
    · replace h := (if_neg hc3).symm.trans h
      refine g_aload_n hC rfl 0 rfl (rfl : 17 + 1 = 18) (xdt tt_X0_decodeFor 11 rfl) ?_
      obtain ⟨S2, hc1, h⟩ := bd_i h
      refine g_callVv hC hZ hk0 kclX0 ly1_0 m_X0_passCycle q1030 (Nat.le_of_ble_eq_true rfl) [] rfl (fun l => c_X0_passCycle_p1_0 l hk0 hc1) rfl (Nat.le_of_ble_eq_true rfl) (rfl : 18 + 3 = 21) (xdt tt_X0_decodeFor 12 rfl) ?_
      refine g_iinc hC 3 rfl (by decide) (lv' := [(3, vi (x3 + 1)), (0, vr E r0 0), (1, vi x1), (2, vi x2)]) rfl (rfl : 21 + 3 = 24) (xdt tt_X0_decodeFor 13 rfl) ?_
      refine g_goto hC (show ((24 : Nat) : Int) + (-12) = ((12 : Nat) : Int) by decide) (xdt tt_X0_decodeFor 14 rfl) ?_
      refine g_sub [1, 2, 3, 0] (lv' := [(0, vr E r0 0), (1, vi x1), (2, vi x2), (3, vi (x3 + 1))]) rfl ?_
      exact ih _ _ _ _ h
set_option maxRecDepth 100000 in
set_option maxHeartbeats 4000000 in
theorem c_X0_decodeFor_p1_0 (l : Launch) {E : xE} {S S' : xSt} {r0 : Nat} {a1 : Int} (hk0 : xkd E r0 = 1) {v : Int} (h : f_X0_decodeFor_p1_0 S r0 a1 = some (v, S')) : Met l yX0_decodeFor (xws yX0_decodeFor cX0_decodeFor 4 (some .int)) (rmD 6) (YPc E [vr E r0 0, vi a1] S) (YQi E v S') 0 0 (xA E) := by
  unfold f_X0_decodeFor_p1_0 at h
  refine met_i (by decide +kernel) (Nat.le_of_ble_eq_true rfl) (fun K hC hZ hE => ?_)
  have hC : xOK K cX0_decodeFor RX0 4 (rmE 6 0) := hC
  show WG K E 0 [(0, vr E r0 0), (1, vi a1)] [] S
  refine g_aload_n hC rfl 0 rfl (rfl : 0 + 1 = 1) (xdt tt_X0_decodeFor 0 rfl) ?_
  refine g_getP hC hk0 kclX0 ly1_0 7 (by decide) (rfl : r0 + 0 = r0) rfl q116 (rfl : 1 + 3 = 4) (xdt tt_X0_decodeFor 1 rfl) ?_
  refine g_getP hC hk0 kclX9 ly1_14 0 (by decide) (rfl : r0 + 0 = r0) rfl q1029 (rfl : 4 + 3 = 7) (xdt tt_X0_decodeFor 2 rfl) ?_
  refine g_iconst hC (rfl : 7 + 1 = 8) (xdt tt_X0_decodeFor 3 rfl) ?_
  refine g_iald hC hk0 ly1_15 (by decide) (rfl : 8 + 1 = 9) (xdt tt_X0_decodeFor 4 rfl) (k0 := 1) (by decide) ?_
  refine g_istore_n hC rfl (by decide) (lv' := [(2, vi (gI S r0 15 1)), (0, vr E r0 0), (1, vi a1)]) rfl (rfl : 9 + 1 = 10) (xdt tt_X0_decodeFor 5 rfl) ?_
  refine g_iconst hC (rfl : 10 + 1 = 11) (xdt tt_X0_decodeFor 6 rfl) ?_
  refine g_istore_n hC rfl (by decide) (lv' := [(3, vi 0), (2, vi (gI S r0 15 1)), (0, vr E r0 0), (1, vi a1)]) rfl (rfl : 11 + 1 = 12) (xdt tt_X0_decodeFor 7 rfl) ?_
  refine g_sub [2, 3, 1, 0] (lv' := [(0, vr E r0 0), (1, vi a1), (2, vi (gI S r0 15 1)), (3, vi 0)]) rfl ?_
  exact k_X0_decodeFor_p1_0_b12 hC hZ hE hk0 _ _ _ _ _ h
def f_X11_run_p3_0 (S : xSt) (r0 : Nat) (a1 : Int) : Option (Int × xSt) :=
  if wr a1 < wr 1 then
    (none)
  else
    (if wr a1 ≤ wr 500 then
      (bd (f_X1_remember_p3_8_1_0 S r0 (r0 + 1)) fun S2 =>
      bd2 (f_X0_decodeFor_p1_0 S2 (r0 + 1) a1) fun v5 S4 =>
      some (v5, S4))
    else
      (none))
set_option maxRecDepth 100000 in
set_option maxHeartbeats 4000000 in
theorem c_X11_run_p3_0 (l : Launch) {E : xE} {S S' : xSt} {r0 : Nat} {a1 : Int} (hk0 : xkd E r0 = 3) (hA0 : xFam E r0) {v : Int} (h : f_X11_run_p3_0 S r0 a1 = some (v, S')) : Met l yX11_run (xws yX11_run cX11_run 2 (some .int)) (rmD 7) (YPc E [vr E r0 0, vi a1] S) (YQi E v S') 0 0 (xA E) := by
  unfold f_X11_run_p3_0 at h
  refine met_i (by decide +kernel) (Nat.le_of_ble_eq_true rfl) (fun K hC hZ hE => ?_)
  have hC : xOK K cX11_run RX11 2 (rmE 7 0) := hC
  show WG K E 0 [(0, vr E r0 0), (1, vi a1)] [] S
  refine g_iload_n hC rfl 1 rfl (rfl : 0 + 1 = 1) (xdt tt_X11_run 0 rfl) ?_
  refine g_iconst hC (rfl : 1 + 1 = 2) (xdt tt_X11_run 1 rfl) ?_
  refine g_icmp_lt hC (show ((2 : Nat) : Int) + 10 = ((12 : Nat) : Int) by decide) (rfl : 2 + 3 = 5) (xdt tt_X11_run 2 rfl) (fun hc7 => ?_) (fun hc7 => ?_)
  · replace h := (if_pos hc7).symm.trans h
    cases h
  · replace h := (if_neg hc7).symm.trans h
    refine g_iload_n hC rfl 1 rfl (rfl : 5 + 1 = 6) (xdt tt_X11_run 3 rfl) ?_
    refine g_sipush hC (by decide) (rfl : 6 + 3 = 9) (xdt tt_X11_run 4 rfl) ?_
    refine g_icmp_le hC (show ((9 : Nat) : Int) + 14 = ((23 : Nat) : Int) by decide) (rfl : 9 + 3 = 12) (xdt tt_X11_run 5 rfl) (fun hc6 => ?_) (fun hc6 => ?_)
    · replace h := (if_pos hc6).symm.trans h
      refine g_aload_n hC rfl 0 rfl (rfl : 23 + 1 = 24) (xdt tt_X11_run 11 rfl) ?_
      refine g_getP hC hk0 kclX11 ly3_0 10 (by decide) (rfl : r0 + 0 = r0) rfl q37 (rfl : 24 + 3 = 27) (xdt tt_X11_run 12 rfl) ?_
      refine g_aload_n hC rfl 0 rfl (rfl : 27 + 1 = 28) (xdt tt_X11_run 13 rfl) ?_
      refine g_getP hC hk0 kclX11 ly3_0 6 (by decide) (rfl : r0 + 1 = (r0 + 1)) rfl q31 (rfl : 28 + 3 = 31) (xdt tt_X11_run 14 rfl) ?_
      obtain ⟨S2, hc1, h⟩ := bd_i h
      refine g_callVv hC hZ hk0 kclX1 ly3_8 m_X1_remember q986 (Nat.le_of_ble_eq_true rfl) [vr E (r0 + 1) 0] rfl (fun l => c_X1_remember_p3_8_1_0 l hk0 hA0 (hA0 1 (by decide) (by decide)) hc1) rfl (Nat.le_of_ble_eq_true rfl) (rfl : 31 + 3 = 34) (xdt tt_X11_run 15 rfl) ?_
      refine g_aload_n hC rfl 0 rfl (rfl : 34 + 1 = 35) (xdt tt_X11_run 16 rfl) ?_
      refine g_getP hC hk0 kclX11 ly3_0 6 (by decide) (rfl : r0 + 1 = (r0 + 1)) rfl q31 (rfl : 35 + 3 = 38) (xdt tt_X11_run 17 rfl) ?_
      refine g_iload_n hC rfl 1 rfl (rfl : 38 + 1 = 39) (xdt tt_X11_run 18 rfl) ?_
      obtain ⟨v5, S4, hc3, h⟩ := bd2_i h
      refine g_callVi hC hZ (hA0 1 (by decide) (by decide)) kclX0 ly1_0 m_X0_decodeFor q1025 (Nat.le_of_ble_eq_true rfl) [vi a1] rfl (fun l => c_X0_decodeFor_p1_0 l (hA0 1 (by decide) (by decide)) hc3) rfl (Nat.le_of_ble_eq_true rfl) (rfl : 39 + 3 = 42) (xdt tt_X11_run 19 rfl) ?_
      cases h
      exact g_iret hC hE (xdt tt_X11_run 20 rfl)
    · replace h := (if_neg hc6).symm.trans h
      cases h
def f_X11_runTo_p3_0_b35 (r0 : Nat) : Nat → xSt → Int → Int → Option (Int × xSt)
  | 0, _, _, _ => none
  | fuel + 1, S, x1, x2 =>
    if wr 500 ≤ wr x2 then
      (some (x2, S))
    else
      (if wr x1 ≤ wr (gI S (r0 + 1) 15 1) then
        (some (x2, S))
      else
        (bd (f_X0_passCycle_p1_0 S (r0 + 1)) fun S4 =>
        (f_X11_runTo_p3_0_b35 r0 fuel) S4 x1 (x2 + 1)))
def f_X11_runTo_p3_0 (S : xSt) (r0 : Nat) (a1 : Int) : Option (Int × xSt) :=
  if wr a1 < 0 then
    (none)
  else
    (if wr a1 ≤ wr 9999 then
      (bd (f_X1_remember_p3_8_1_0 S r0 (r0 + 1)) fun S2 =>
      f_X11_runTo_p3_0_b35 r0 (fu S2) S2 a1 0)
    else
      (none))
set_option maxRecDepth 100000 in
set_option maxHeartbeats 4000000 in
theorem k_X11_runTo_p3_0_b35 {K : xCtx} {E : xE} {b : Nat} (hC : xOK K cX11_runTo RX11 3 (rmE 6 b)) (hZ : xZ K) {v : Int} {S' : xSt} (hE : xEnd K E (some .int) (YQi E v S')) {r0 : Nat} (hk0 : xkd E r0 = 3) (hA0 : xFam E r0) : ∀ (fuel : Nat) (S : xSt) (x1 : Int) (x2 : Int), f_X11_runTo_p3_0_b35 r0 fuel S x1 x2 = some (v, S') → WG K E 35 [(0, vr E r0 0), (1, vi x1), (2, vi x2)] [] S := by
  intro fuel
  induction fuel with
  | zero => intro S x1 x2 h; cases h
  | succ fuel ih =>
    intro S x1 x2 h
    rw [f_X11_runTo_p3_0_b35] at h
    refine g_iload_n hC rfl 2 rfl (rfl : 35 + 1 = 36) (xdt tt_X11_runTo 17 rfl) ?_
    refine g_sipush hC (by decide) (rfl : 36 + 3 = 39) (xdt tt_X11_runTo 18 rfl) ?_
    refine g_icmp_ge hC (show ((39 : Nat) : Int) + 32 = ((71 : Nat) : Int) by decide) (rfl : 39 + 3 = 42) (xdt tt_X11_runTo 19 rfl) (fun hc6 => ?_) (fun hc6 => ?_)
    · replace h := (if_pos hc6).symm.trans h
      refine g_iload_n hC rfl 2 rfl (rfl : 71 + 1 = 72) (xdt tt_X11_runTo 33 rfl) ?_
      cases h
      exact g_iret hC hE (xdt tt_X11_runTo 34 rfl)
    · replace h := (if_neg hc6).symm.trans h
      refine g_aload_n hC rfl 0 rfl (rfl : 42 + 1 = 43) (xdt tt_X11_runTo 20 rfl) ?_
      refine g_getP hC hk0 kclX11 ly3_0 6 (by decide) (rfl : r0 + 1 = (r0 + 1)) rfl q31 (rfl : 43 + 3 = 46) (xdt tt_X11_runTo 21 rfl) ?_
      refine g_getP hC (hA0 1 (by decide) (by decide)) kclX0 ly1_0 7 (by decide) (rfl : (r0 + 1) + 0 = (r0 + 1)) rfl q590 (rfl : 46 + 3 = 49) (xdt tt_X11_runTo 22 rfl) ?_
      refine g_getP hC (hA0 1 (by decide) (by decide)) kclX9 ly1_14 0 (by decide) (rfl : (r0 + 1) + 0 = (r0 + 1)) rfl q591 (rfl : 49 + 3 = 52) (xdt tt_X11_runTo 23 rfl) ?_
      refine g_iconst hC (rfl : 52 + 1 = 53) (xdt tt_X11_runTo 24 rfl) ?_
      refine g_iald hC (hA0 1 (by decide) (by decide)) ly1_15 (by decide) (rfl : 53 + 1 = 54) (xdt tt_X11_runTo 25 rfl) (k0 := 1) (by decide) ?_
      refine g_iload_n hC rfl 1 rfl (rfl : 54 + 1 = 55) (xdt tt_X11_runTo 26 rfl) ?_
      refine g_icmp_ge hC (show ((55 : Nat) : Int) + 16 = ((71 : Nat) : Int) by decide) (rfl : 55 + 3 = 58) (xdt tt_X11_runTo 27 rfl) (fun hc5 => ?_) (fun hc5 => ?_)
      · replace h := (if_pos hc5).symm.trans h
        refine g_iload_n hC rfl 2 rfl (rfl : 71 + 1 = 72) (xdt tt_X11_runTo 33 rfl) ?_
        cases h
        exact g_iret hC hE (xdt tt_X11_runTo 34 rfl)
      · replace h := (if_neg hc5).symm.trans h
        refine g_aload_n hC rfl 0 rfl (rfl : 58 + 1 = 59) (xdt tt_X11_runTo 28 rfl) ?_
        refine g_getP hC hk0 kclX11 ly3_0 6 (by decide) (rfl : r0 + 1 = (r0 + 1)) rfl q31 (rfl : 59 + 3 = 62) (xdt tt_X11_runTo 29 rfl) ?_
        obtain ⟨S4, hc3, h⟩ := bd_i h
        refine g_callVv hC hZ (hA0 1 (by decide) (by decide)) kclX0 ly1_0 m_X0_passCycle q1241 (Nat.le_of_ble_eq_true rfl) [] rfl (fun l => c_X0_passCycle_p1_0 l (hA0 1 (by decide) (by decide)) hc3) rfl (Nat.le_of_ble_eq_true rfl) (rfl : 62 + 3 = 65) (xdt tt_X11_runTo 30 rfl) ?_
        refine g_iinc hC 2 rfl (by decide) (lv' := [(2, vi (x2 + 1)), (0, vr E r0 0), (1, vi x1)]) rfl (rfl : 65 + 3 = 68) (xdt tt_X11_runTo 31 rfl) ?_
        refine g_goto hC (show ((68 : Nat) : Int) + (-33) = ((35 : Nat) : Int) by decide) (xdt tt_X11_runTo 32 rfl) ?_
        refine g_sub [1, 2, 0] (lv' := [(0, vr E r0 0), (1, vi x1), (2, vi (x2 + 1))]) rfl ?_
        exact ih _ _ _ h
set_option maxRecDepth 100000 in
set_option maxHeartbeats 4000000 in
theorem c_X11_runTo_p3_0 (l : Launch) {E : xE} {S S' : xSt} {r0 : Nat} {a1 : Int} (hk0 : xkd E r0 = 3) (hA0 : xFam E r0) {v : Int} (h : f_X11_runTo_p3_0 S r0 a1 = some (v, S')) : Met l yX11_runTo (xws yX11_runTo cX11_runTo 3 (some .int)) (rmD 6) (YPc E [vr E r0 0, vi a1] S) (YQi E v S') 0 0 (xA E) := by
  unfold f_X11_runTo_p3_0 at h
  refine met_i (by decide +kernel) (Nat.le_of_ble_eq_true rfl) (fun K hC hZ hE => ?_)
  have hC : xOK K cX11_runTo RX11 3 (rmE 6 0) := hC
  show WG K E 0 [(0, vr E r0 0), (1, vi a1)] [] S
  refine g_iload_n hC rfl 1 rfl (rfl : 0 + 1 = 1) (xdt tt_X11_runTo 0 rfl) ?_
  refine g_if_lt hC (show ((1 : Nat) : Int) + 10 = ((11 : Nat) : Int) by decide) (rfl : 1 + 3 = 4) (xdt tt_X11_runTo 1 rfl) (fun hc8 => ?_) (fun hc8 => ?_)
  · replace h := (if_pos hc8).symm.trans h
    cases h
  · replace h := (if_neg hc8).symm.trans h
    refine g_iload_n hC rfl 1 rfl (rfl : 4 + 1 = 5) (xdt tt_X11_runTo 2 rfl) ?_
    refine g_sipush hC (by decide) (rfl : 5 + 3 = 8) (xdt tt_X11_runTo 3 rfl) ?_
    refine g_icmp_le hC (show ((8 : Nat) : Int) + 14 = ((22 : Nat) : Int) by decide) (rfl : 8 + 3 = 11) (xdt tt_X11_runTo 4 rfl) (fun hc7 => ?_) (fun hc7 => ?_)
    · replace h := (if_pos hc7).symm.trans h
      refine g_aload_n hC rfl 0 rfl (rfl : 22 + 1 = 23) (xdt tt_X11_runTo 10 rfl) ?_
      refine g_getP hC hk0 kclX11 ly3_0 10 (by decide) (rfl : r0 + 0 = r0) rfl q37 (rfl : 23 + 3 = 26) (xdt tt_X11_runTo 11 rfl) ?_
      refine g_aload_n hC rfl 0 rfl (rfl : 26 + 1 = 27) (xdt tt_X11_runTo 12 rfl) ?_
      refine g_getP hC hk0 kclX11 ly3_0 6 (by decide) (rfl : r0 + 1 = (r0 + 1)) rfl q31 (rfl : 27 + 3 = 30) (xdt tt_X11_runTo 13 rfl) ?_
      obtain ⟨S2, hc1, h⟩ := bd_i h
      refine g_callVv hC hZ hk0 kclX1 ly3_8 m_X1_remember q986 (Nat.le_of_ble_eq_true rfl) [vr E (r0 + 1) 0] rfl (fun l => c_X1_remember_p3_8_1_0 l hk0 hA0 (hA0 1 (by decide) (by decide)) hc1) rfl (Nat.le_of_ble_eq_true rfl) (rfl : 30 + 3 = 33) (xdt tt_X11_runTo 14 rfl) ?_
      refine g_iconst hC (rfl : 33 + 1 = 34) (xdt tt_X11_runTo 15 rfl) ?_
      refine g_istore_n hC rfl (by decide) (lv' := [(2, vi 0), (0, vr E r0 0), (1, vi a1)]) rfl (rfl : 34 + 1 = 35) (xdt tt_X11_runTo 16 rfl) ?_
      refine g_sub [1, 2, 0] (lv' := [(0, vr E r0 0), (1, vi a1), (2, vi 0)]) rfl ?_
      exact k_X11_runTo_p3_0_b35 hC hZ hE hk0 hA0 _ _ _ _ h
    · replace h := (if_neg hc7).symm.trans h
      cases h
def f_X11_stall_p3_0 (S : xSt) (r0 : Nat) (a1 : Int) : Option (Int × xSt) :=
  if wr a1 < 0 then
    (none)
  else
    (if wr a1 ≤ wr 99 then
      (bd (f_X1_remember_p3_8_1_0 S r0 (r0 + 1)) fun S2 =>
      lt1 (wI S2 (r0 + 1) 0 17 a1) fun S3 =>
      some ((gI S2 (r0 + 1) 0 17), S3))
    else
      (none))
set_option maxRecDepth 100000 in
set_option maxHeartbeats 4000000 in
theorem c_X11_stall_p3_0 (l : Launch) {E : xE} {S S' : xSt} {r0 : Nat} {a1 : Int} (hk0 : xkd E r0 = 3) (hA0 : xFam E r0) {v : Int} (h : f_X11_stall_p3_0 S r0 a1 = some (v, S')) : Met l yX11_stall (xws yX11_stall cX11_stall 3 (some .int)) (rmD 6) (YPc E [vr E r0 0, vi a1] S) (YQi E v S') 0 0 (xA E) := by
  unfold f_X11_stall_p3_0 at h
  refine met_i (by decide +kernel) (Nat.le_of_ble_eq_true rfl) (fun K hC hZ hE => ?_)
  have hC : xOK K cX11_stall RX11 3 (rmE 6 0) := hC
  show WG K E 0 [(0, vr E r0 0), (1, vi a1)] [] S
  refine g_iload_n hC rfl 1 rfl (rfl : 0 + 1 = 1) (xdt tt_X11_stall 0 rfl) ?_
  refine g_if_lt hC (show ((1 : Nat) : Int) + 9 = ((10 : Nat) : Int) by decide) (rfl : 1 + 3 = 4) (xdt tt_X11_stall 1 rfl) (fun hc5 => ?_) (fun hc5 => ?_)
  · replace h := (if_pos hc5).symm.trans h
    cases h
  · replace h := (if_neg hc5).symm.trans h
    refine g_iload_n hC rfl 1 rfl (rfl : 4 + 1 = 5) (xdt tt_X11_stall 2 rfl) ?_
    refine g_bipush hC (by decide) (rfl : 5 + 2 = 7) (xdt tt_X11_stall 3 rfl) ?_
    refine g_icmp_le hC (show ((7 : Nat) : Int) + 14 = ((21 : Nat) : Int) by decide) (rfl : 7 + 3 = 10) (xdt tt_X11_stall 4 rfl) (fun hc4 => ?_) (fun hc4 => ?_)
    · replace h := (if_pos hc4).symm.trans h
      refine g_aload_n hC rfl 0 rfl (rfl : 21 + 1 = 22) (xdt tt_X11_stall 10 rfl) ?_
      refine g_getP hC hk0 kclX11 ly3_0 10 (by decide) (rfl : r0 + 0 = r0) rfl q37 (rfl : 22 + 3 = 25) (xdt tt_X11_stall 11 rfl) ?_
      refine g_aload_n hC rfl 0 rfl (rfl : 25 + 1 = 26) (xdt tt_X11_stall 12 rfl) ?_
      refine g_getP hC hk0 kclX11 ly3_0 6 (by decide) (rfl : r0 + 1 = (r0 + 1)) rfl q31 (rfl : 26 + 3 = 29) (xdt tt_X11_stall 13 rfl) ?_
      obtain ⟨S2, hc1, h⟩ := bd_i h
      refine g_callVv hC hZ hk0 kclX1 ly3_8 m_X1_remember q986 (Nat.le_of_ble_eq_true rfl) [vr E (r0 + 1) 0] rfl (fun l => c_X1_remember_p3_8_1_0 l hk0 hA0 (hA0 1 (by decide) (by decide)) hc1) rfl (Nat.le_of_ble_eq_true rfl) (rfl : 29 + 3 = 32) (xdt tt_X11_stall 14 rfl) ?_
      refine g_aload_n hC rfl 0 rfl (rfl : 32 + 1 = 33) (xdt tt_X11_stall 15 rfl) ?_
      refine g_getP hC hk0 kclX11 ly3_0 6 (by decide) (rfl : r0 + 1 = (r0 + 1)) rfl q31 (rfl : 33 + 3 = 36) (xdt tt_X11_stall 16 rfl) ?_
      refine g_getI hC (hA0 1 (by decide) (by decide)) kclX0 ly1_0 17 (by decide) rfl q600 (rfl : 36 + 3 = 39) (xdt tt_X11_stall 17 rfl) ?_
      refine g_istore_n hC rfl (by decide) (lv' := [(2, vi (gI S2 (r0 + 1) 0 17)), (0, vr E r0 0), (1, vi a1)]) rfl (rfl : 39 + 1 = 40) (xdt tt_X11_stall 18 rfl) ?_
      refine g_aload_n hC rfl 1 rfl (rfl : 40 + 1 = 41) (xdt tt_X11_stall 19 rfl) ?_
      refine g_getP hC hk0 kclX11 ly3_0 6 (by decide) (rfl : r0 + 1 = (r0 + 1)) rfl q31 (rfl : 41 + 3 = 44) (xdt tt_X11_stall 20 rfl) ?_
      refine g_iload_n hC rfl 2 rfl (rfl : 44 + 1 = 45) (xdt tt_X11_stall 21 rfl) ?_
      obtain ⟨S3, hS3, h⟩ := lt1_i h
      refine g_putI hC (hA0 1 (by decide) (by decide)) kclX0 ly1_0 17 (by decide) rfl rfl rfl q600 hS3 (rfl : 45 + 3 = 48) (xdt tt_X11_stall 22 rfl) ?_
      refine g_iload_n hC rfl 0 rfl (rfl : 48 + 1 = 49) (xdt tt_X11_stall 23 rfl) ?_
      cases h
      exact g_iret hC hE (xdt tt_X11_stall 24 rfl)
    · replace h := (if_neg hc4).symm.trans h
      cases h
def f_X11_set_p3_0_b29 (r0 : Nat) (S : xSt) (x2 : Int) (x3 : Int) : Option (Int × xSt) :=
  bd2 (f_X11_isAllowed S x3 x2) fun v3 S2 =>
  if ¬ wr v3 = 0 then
    (bd (f_X1_remember_p3_8_1_0 S2 r0 (r0 + 1)) fun S6 =>
    ckI x3 6 <|
    ckI x3 6 <|
    lt1 (wI S6 (r0 + 1) 1 (wr x3).toNat x2) fun S9 =>
    some ((gI S6 (r0 + 1) 1 (wr x3).toNat), S9))
  else
    (none)
def f_X11_set_p3_0 (S : xSt) (r0 : Nat) (a1 : Int) (a2 : Int) : Option (Int × xSt) :=
  if wr (a1 - 2) = 0 then
    (f_X11_set_p3_0_b29 r0 S a2 (a1 - 2))
  else
    (if wr (a1 - 2) = wr 4 then
      (f_X11_set_p3_0_b29 r0 S a2 (a1 - 2))
    else
      (if wr (a1 - 2) = wr 5 then
        (f_X11_set_p3_0_b29 r0 S a2 (a1 - 2))
      else
        (none)))
set_option maxRecDepth 100000 in
set_option maxHeartbeats 4000000 in
theorem k_X11_set_p3_0_b29 {K : xCtx} {E : xE} {b : Nat} (hC : xOK K cX11_set RX11 5 (rmE 6 b)) (hZ : xZ K) {v : Int} {S' : xSt} (hE : xEnd K E (some .int) (YQi E v S')) {r0 : Nat} (hk0 : xkd E r0 = 3) (hA0 : xFam E r0) : ∀ (S : xSt) (x2 : Int) (x3 : Int), f_X11_set_p3_0_b29 r0 S x2 x3 = some (v, S') → WG K E 29 [(0, vr E r0 0), (2, vi x2), (3, vi x3)] [] S := by
  intro S x2 x3 h
  unfold f_X11_set_p3_0_b29 at h
  refine g_iload_n hC rfl 2 rfl (rfl : 29 + 1 = 30) (xdt tt_X11_set 17 rfl) ?_
  refine g_iload_n hC rfl 1 rfl (rfl : 30 + 1 = 31) (xdt tt_X11_set 18 rfl) ?_
  obtain ⟨v3, S2, hc1, h⟩ := bd2_i h
  refine g_callSz hC hZ m_X11_isAllowed q1268 (Nat.le_of_ble_eq_true rfl) [vi x3, vi x2] rfl (fun l => c_X11_isAllowed l hc1) rfl (Nat.le_of_ble_eq_true rfl) (rfl : 31 + 3 = 34) (xdt tt_X11_set 19 rfl) (fun hb4 => ?_)
  refine g_if_ne hC (show ((34 : Nat) : Int) + 14 = ((48 : Nat) : Int) by decide) (rfl : 34 + 3 = 37) (xdt tt_X11_set 20 rfl) (fun hc10 => ?_) (fun hc10 => ?_)
  · replace h := (if_pos hc10).symm.trans h
    refine g_aload_n hC rfl 0 rfl (rfl : 48 + 1 = 49) (xdt tt_X11_set 26 rfl) ?_
    refine g_getP hC hk0 kclX11 ly3_0 10 (by decide) (rfl : r0 + 0 = r0) rfl q37 (rfl : 49 + 3 = 52) (xdt tt_X11_set 27 rfl) ?_
    refine g_aload_n hC rfl 0 rfl (rfl : 52 + 1 = 53) (xdt tt_X11_set 28 rfl) ?_
    refine g_getP hC hk0 kclX11 ly3_0 6 (by decide) (rfl : r0 + 1 = (r0 + 1)) rfl q31 (rfl : 53 + 3 = 56) (xdt tt_X11_set 29 rfl) ?_
    obtain ⟨S6, hc5, h⟩ := bd_i h
    refine g_callVv hC hZ hk0 kclX1 ly3_8 m_X1_remember q986 (Nat.le_of_ble_eq_true rfl) [vr E (r0 + 1) 0] rfl (fun l => c_X1_remember_p3_8_1_0 l hk0 hA0 (hA0 1 (by decide) (by decide)) hc5) rfl (Nat.le_of_ble_eq_true rfl) (rfl : 56 + 3 = 59) (xdt tt_X11_set 30 rfl) ?_
    refine g_aload_n hC rfl 0 rfl (rfl : 59 + 1 = 60) (xdt tt_X11_set 31 rfl) ?_
    refine g_getP hC hk0 kclX11 ly3_0 6 (by decide) (rfl : r0 + 1 = (r0 + 1)) rfl q31 (rfl : 60 + 3 = 63) (xdt tt_X11_set 32 rfl) ?_
    refine g_getP hC (hA0 1 (by decide) (by decide)) kclX0 ly1_0 1 (by decide) (rfl : (r0 + 1) + 0 = (r0 + 1)) rfl q589 (rfl : 63 + 3 = 66) (xdt tt_X11_set 33 rfl) ?_
    refine g_iload_n hC rfl 2 rfl (rfl : 66 + 1 = 67) (xdt tt_X11_set 34 rfl) ?_
    obtain ⟨hi7, h⟩ := ckI_i h
    refine g_iald hC (hA0 1 (by decide) (by decide)) ly1_1 hi7 (rfl : 67 + 1 = 68) (xdt tt_X11_set 35 rfl) (k0 := (wr x3).toNat) rfl ?_
    refine g_istore hC (by decide) (lv' := [(4, vi (gI S6 (r0 + 1) 1 (wr x3).toNat)), (0, vr E r0 0), (2, vi x2), (3, vi x3)]) rfl (rfl : 68 + 2 = 70) (xdt tt_X11_set 36 rfl) ?_
    refine g_aload_n hC rfl 1 rfl (rfl : 70 + 1 = 71) (xdt tt_X11_set 37 rfl) ?_
    refine g_getP hC hk0 kclX11 ly3_0 6 (by decide) (rfl : r0 + 1 = (r0 + 1)) rfl q31 (rfl : 71 + 3 = 74) (xdt tt_X11_set 38 rfl) ?_
    refine g_getP hC (hA0 1 (by decide) (by decide)) kclX0 ly1_0 1 (by decide) (rfl : (r0 + 1) + 0 = (r0 + 1)) rfl q589 (rfl : 74 + 3 = 77) (xdt tt_X11_set 39 rfl) ?_
    refine g_iload_n hC rfl 3 rfl (rfl : 77 + 1 = 78) (xdt tt_X11_set 40 rfl) ?_
    refine g_iload_n hC rfl 2 rfl (rfl : 78 + 1 = 79) (xdt tt_X11_set 41 rfl) ?_
    obtain ⟨hi8, h⟩ := ckI_i h
    obtain ⟨S9, hS9, h⟩ := lt1_i h
    refine g_iast hC (hA0 1 (by decide) (by decide)) ly1_1 hi8 rfl hS9 (rfl : 79 + 1 = 80) (xdt tt_X11_set 42 rfl) ?_
    refine g_iload hC 0 rfl (rfl : 80 + 2 = 82) (xdt tt_X11_set 43 rfl) ?_
    cases h
    exact g_iret hC hE (xdt tt_X11_set 44 rfl)
  · replace h := (if_neg hc10).symm.trans h
    cases h
set_option maxRecDepth 100000 in
set_option maxHeartbeats 4000000 in
theorem c_X11_set_p3_0 (l : Launch) {E : xE} {S S' : xSt} {r0 : Nat} {a1 : Int} {a2 : Int} (hk0 : xkd E r0 = 3) (hA0 : xFam E r0) {v : Int} (h : f_X11_set_p3_0 S r0 a1 a2 = some (v, S')) : Met l yX11_set (xws yX11_set cX11_set 5 (some .int)) (rmD 6) (YPc E [vr E r0 0, vi a1, vi a2] S) (YQi E v S') 0 0 (xA E) := by
  unfold f_X11_set_p3_0 at h
  refine met_i (by decide +kernel) (Nat.le_of_ble_eq_true rfl) (fun K hC hZ hE => ?_)
  have hC : xOK K cX11_set RX11 5 (rmE 6 0) := hC
  show WG K E 0 [(0, vr E r0 0), (1, vi a1), (2, vi a2)] [] S
  refine g_iload_n hC rfl 1 rfl (rfl : 0 + 1 = 1) (xdt tt_X11_set 0 rfl) ?_
  refine g_iconst hC (rfl : 1 + 1 = 2) (xdt tt_X11_set 1 rfl) ?_
  refine g_isub hC (rfl : 2 + 1 = 3) (xdt tt_X11_set 2 rfl) ?_
  refine g_istore_n hC rfl (by decide) (lv' := [(3, vi (a1 - 2)), (0, vr E r0 0), (1, vi a1), (2, vi a2)]) rfl (rfl : 3 + 1 = 4) (xdt tt_X11_set 3 rfl) ?_
  refine g_iload_n hC rfl 0 rfl (rfl : 4 + 1 = 5) (xdt tt_X11_set 4 rfl) ?_
  refine g_if_eq hC (show ((5 : Nat) : Int) + 24 = ((29 : Nat) : Int) by decide) (rfl : 5 + 3 = 8) (xdt tt_X11_set 5 rfl) (fun hc13 => ?_) (fun hc13 => ?_)
  · replace h := (if_pos hc13).symm.trans h
    refine g_sub [1, 3, 0] (lv' := [(0, vr E r0 0), (2, vi a2), (3, vi (a1 - 2))]) rfl ?_
    exact k_X11_set_p3_0_b29 hC hZ hE hk0 hA0 _ _ _ h
  · replace h := (if_neg hc13).symm.trans h
    refine g_iload_n hC rfl 0 rfl (rfl : 8 + 1 = 9) (xdt tt_X11_set 6 rfl) ?_
    refine g_iconst hC (rfl : 9 + 1 = 10) (xdt tt_X11_set 7 rfl) ?_
    refine g_icmp_eq hC (show ((10 : Nat) : Int) + 19 = ((29 : Nat) : Int) by decide) (rfl : 10 + 3 = 13) (xdt tt_X11_set 8 rfl) (fun hc12 => ?_) (fun hc12 => ?_)
    · replace h := (if_pos hc12).symm.trans h
      refine g_sub [1, 3, 0] (lv' := [(0, vr E r0 0), (2, vi a2), (3, vi (a1 - 2))]) rfl ?_
      exact k_X11_set_p3_0_b29 hC hZ hE hk0 hA0 _ _ _ h
    · replace h := (if_neg hc12).symm.trans h
      refine g_iload_n hC rfl 0 rfl (rfl : 13 + 1 = 14) (xdt tt_X11_set 9 rfl) ?_
      refine g_iconst hC (rfl : 14 + 1 = 15) (xdt tt_X11_set 10 rfl) ?_
      refine g_icmp_eq hC (show ((15 : Nat) : Int) + 14 = ((29 : Nat) : Int) by decide) (rfl : 15 + 3 = 18) (xdt tt_X11_set 11 rfl) (fun hc11 => ?_) (fun hc11 => ?_)
      · replace h := (if_pos hc11).symm.trans h
        refine g_sub [1, 3, 0] (lv' := [(0, vr E r0 0), (2, vi a2), (3, vi (a1 - 2))]) rfl ?_
        exact k_X11_set_p3_0_b29 hC hZ hE hk0 hA0 _ _ _ h
      · replace h := (if_neg hc11).symm.trans h
        cases h
def f_X11_isRule (S : xSt) (a0 : Int) (a1 : Int) : Option (Int × xSt) :=
  if wr a0 < 0 then
    (some (0, S))
  else
    (if wr 8 ≤ wr a0 then
      (some (0, S))
    else
      (if wr a1 < 0 then
        (some (0, S))
      else
        (if wr 10 ≤ wr a1 then
          (some (0, S))
        else
          (some (1, S)))))
set_option maxRecDepth 100000 in
set_option maxHeartbeats 4000000 in
theorem c_X11_isRule (l : Launch) {E : xE} {S S' : xSt} {a0 : Int} {a1 : Int} {v : Int} (h : f_X11_isRule S a0 a1 = some (v, S')) : Met l yX11_isRule (xws yX11_isRule cX11_isRule 2 (some .boolean)) (rmD 1) (YPc E [vi a0, vi a1] S) (YQz E v S') 0 0 (xA E) := by
  unfold f_X11_isRule at h
  refine met_z (by decide +kernel) (Nat.le_of_ble_eq_true rfl) (fun K hC hZ hE => ?_)
  have hC : xOK K cX11_isRule RX11 2 (rmE 1 0) := hC
  show WG K E 0 [(0, vi a0), (1, vi a1)] [] S
  refine g_iload_n hC rfl 0 rfl (rfl : 0 + 1 = 1) (xdt tt_X11_isRule 0 rfl) ?_
  refine g_if_lt hC (show ((1 : Nat) : Int) + 23 = ((24 : Nat) : Int) by decide) (rfl : 1 + 3 = 4) (xdt tt_X11_isRule 1 rfl) (fun hc4 => ?_) (fun hc4 => ?_)
  · replace h := (if_pos hc4).symm.trans h
    refine g_iconst hC (rfl : 24 + 1 = 25) (xdt tt_X11_isRule 12 rfl) ?_
    cases h
    exact g_zret hC hE (Or.inl rfl) (xdt tt_X11_isRule 13 rfl)
  · replace h := (if_neg hc4).symm.trans h
    refine g_iload_n hC rfl 0 rfl (rfl : 4 + 1 = 5) (xdt tt_X11_isRule 2 rfl) ?_
    refine g_bipush hC (by decide) (rfl : 5 + 2 = 7) (xdt tt_X11_isRule 3 rfl) ?_
    refine g_icmp_ge hC (show ((7 : Nat) : Int) + 17 = ((24 : Nat) : Int) by decide) (rfl : 7 + 3 = 10) (xdt tt_X11_isRule 4 rfl) (fun hc3 => ?_) (fun hc3 => ?_)
    · replace h := (if_pos hc3).symm.trans h
      refine g_iconst hC (rfl : 24 + 1 = 25) (xdt tt_X11_isRule 12 rfl) ?_
      cases h
      exact g_zret hC hE (Or.inl rfl) (xdt tt_X11_isRule 13 rfl)
    · replace h := (if_neg hc3).symm.trans h
      refine g_iload_n hC rfl 1 rfl (rfl : 10 + 1 = 11) (xdt tt_X11_isRule 5 rfl) ?_
      refine g_if_lt hC (show ((11 : Nat) : Int) + 13 = ((24 : Nat) : Int) by decide) (rfl : 11 + 3 = 14) (xdt tt_X11_isRule 6 rfl) (fun hc2 => ?_) (fun hc2 => ?_)
      · replace h := (if_pos hc2).symm.trans h
        refine g_iconst hC (rfl : 24 + 1 = 25) (xdt tt_X11_isRule 12 rfl) ?_
        cases h
        exact g_zret hC hE (Or.inl rfl) (xdt tt_X11_isRule 13 rfl)
      · replace h := (if_neg hc2).symm.trans h
        refine g_iload_n hC rfl 1 rfl (rfl : 14 + 1 = 15) (xdt tt_X11_isRule 7 rfl) ?_
        refine g_bipush hC (by decide) (rfl : 15 + 2 = 17) (xdt tt_X11_isRule 8 rfl) ?_
        refine g_icmp_ge hC (show ((17 : Nat) : Int) + 7 = ((24 : Nat) : Int) by decide) (rfl : 17 + 3 = 20) (xdt tt_X11_isRule 9 rfl) (fun hc1 => ?_) (fun hc1 => ?_)
        · replace h := (if_pos hc1).symm.trans h
          refine g_iconst hC (rfl : 24 + 1 = 25) (xdt tt_X11_isRule 12 rfl) ?_
          cases h
          exact g_zret hC hE (Or.inl rfl) (xdt tt_X11_isRule 13 rfl)
        · replace h := (if_neg hc1).symm.trans h
          refine g_iconst hC (rfl : 20 + 1 = 21) (xdt tt_X11_isRule 10 rfl) ?_
          refine g_goto hC (show ((21 : Nat) : Int) + 4 = ((25 : Nat) : Int) by decide) (xdt tt_X11_isRule 11 rfl) ?_
          cases h
          exact g_zret hC hE (Or.inr rfl) (xdt tt_X11_isRule 13 rfl)
def f_X8_append_p1_2 (S : xSt) (r0 : Nat) (a1 : Int) (a2 : Int) : Option (xSt) :=
  if wr (gI S r0 2 2) < 0 then
    (some S)
  else
    (if wr 7 ≤ wr (gI S r0 2 2) then
      (some S)
    else
      (ckI (gI S r0 2 2) 7 <|
      lt1 (wI S r0 3 (wr (gI S r0 2 2)).toNat a1) fun S2 =>
      ckI (gI S2 r0 2 2) 7 <|
      lt1 (wI S2 r0 4 (wr (gI S2 r0 2 2)).toNat a2) fun S4 =>
      lt1 (wI S4 r0 2 2 ((gI S4 r0 2 2) + 1)) fun S5 =>
      some S5))
set_option maxRecDepth 100000 in
set_option maxHeartbeats 4000000 in
theorem c_X8_append_p1_2 (l : Launch) {E : xE} {S S' : xSt} {r0 : Nat} {a1 : Int} {a2 : Int} (hk0 : xkd E r0 = 1) (h : f_X8_append_p1_2 S r0 a1 a2 = some S') : Met l yX8_append (xws yX8_append cX8_append 3 none) (rmD 1) (YPc E [vr E r0 2, vi a1, vi a2] S) (YQv E S') 0 0 (xA E) := by
  unfold f_X8_append_p1_2 at h
  refine met_v (by decide +kernel) (Nat.le_of_ble_eq_true rfl) (fun K hC hZ hE => ?_)
  have hC : xOK K cX8_append RX8 3 (rmE 1 0) := hC
  show WG K E 0 [(0, vr E r0 2), (1, vi a1), (2, vi a2)] [] S
  refine g_aload_n hC rfl 0 rfl (rfl : 0 + 1 = 1) (xdt tt_X8_append 0 rfl) ?_
  refine g_getI hC hk0 kclX8 ly1_2 2 (by decide) rfl q167 (rfl : 1 + 3 = 4) (xdt tt_X8_append 1 rfl) ?_
  refine g_if_lt hC (show ((4 : Nat) : Int) + 45 = ((49 : Nat) : Int) by decide) (rfl : 4 + 3 = 7) (xdt tt_X8_append 2 rfl) (fun hc7 => ?_) (fun hc7 => ?_)
  · replace h := (if_pos hc7).symm.trans h
    cases h
    exact g_vret hC hE (xdt tt_X8_append 27 rfl)
  · replace h := (if_neg hc7).symm.trans h
    refine g_aload_n hC rfl 0 rfl (rfl : 7 + 1 = 8) (xdt tt_X8_append 3 rfl) ?_
    refine g_getI hC hk0 kclX8 ly1_2 2 (by decide) rfl q167 (rfl : 8 + 3 = 11) (xdt tt_X8_append 4 rfl) ?_
    refine g_aload_n hC rfl 0 rfl (rfl : 11 + 1 = 12) (xdt tt_X8_append 5 rfl) ?_
    refine g_getP hC hk0 kclX8 ly1_2 0 (by decide) (rfl : r0 + 0 = r0) rfl q75 (rfl : 12 + 3 = 15) (xdt tt_X8_append 6 rfl) ?_
    refine g_alen hC hk0 ly1_3 (z := 7) (by decide) (rfl : 15 + 1 = 16) (xdt tt_X8_append 7 rfl) ?_
    refine g_icmp_ge hC (show ((16 : Nat) : Int) + 33 = ((49 : Nat) : Int) by decide) (rfl : 16 + 3 = 19) (xdt tt_X8_append 8 rfl) (fun hc6 => ?_) (fun hc6 => ?_)
    · replace h := (if_pos hc6).symm.trans h
      cases h
      exact g_vret hC hE (xdt tt_X8_append 27 rfl)
    · replace h := (if_neg hc6).symm.trans h
      refine g_aload_n hC rfl 0 rfl (rfl : 19 + 1 = 20) (xdt tt_X8_append 9 rfl) ?_
      refine g_getP hC hk0 kclX8 ly1_2 0 (by decide) (rfl : r0 + 0 = r0) rfl q75 (rfl : 20 + 3 = 23) (xdt tt_X8_append 10 rfl) ?_
      refine g_aload_n hC rfl 0 rfl (rfl : 23 + 1 = 24) (xdt tt_X8_append 11 rfl) ?_
      refine g_getI hC hk0 kclX8 ly1_2 2 (by decide) rfl q167 (rfl : 24 + 3 = 27) (xdt tt_X8_append 12 rfl) ?_
      refine g_iload_n hC rfl 1 rfl (rfl : 27 + 1 = 28) (xdt tt_X8_append 13 rfl) ?_
      obtain ⟨hi1, h⟩ := ckI_i h
      obtain ⟨S2, hS2, h⟩ := lt1_i h
      refine g_iast hC hk0 ly1_3 hi1 rfl hS2 (rfl : 28 + 1 = 29) (xdt tt_X8_append 14 rfl) ?_
      refine g_aload_n hC rfl 0 rfl (rfl : 29 + 1 = 30) (xdt tt_X8_append 15 rfl) ?_
      refine g_getP hC hk0 kclX8 ly1_2 1 (by decide) (rfl : r0 + 0 = r0) rfl q76 (rfl : 30 + 3 = 33) (xdt tt_X8_append 16 rfl) ?_
      refine g_aload_n hC rfl 0 rfl (rfl : 33 + 1 = 34) (xdt tt_X8_append 17 rfl) ?_
      refine g_getI hC hk0 kclX8 ly1_2 2 (by decide) rfl q167 (rfl : 34 + 3 = 37) (xdt tt_X8_append 18 rfl) ?_
      refine g_iload_n hC rfl 2 rfl (rfl : 37 + 1 = 38) (xdt tt_X8_append 19 rfl) ?_
      obtain ⟨hi3, h⟩ := ckI_i h
      obtain ⟨S4, hS4, h⟩ := lt1_i h
      refine g_iast hC hk0 ly1_4 hi3 rfl hS4 (rfl : 38 + 1 = 39) (xdt tt_X8_append 20 rfl) ?_
      refine g_aload_n hC rfl 0 rfl (rfl : 39 + 1 = 40) (xdt tt_X8_append 21 rfl) ?_
      refine g_dup hC rfl (rfl : 40 + 1 = 41) (xdt tt_X8_append 22 rfl) ?_
      refine g_getI hC hk0 kclX8 ly1_2 2 (by decide) rfl q167 (rfl : 41 + 3 = 44) (xdt tt_X8_append 23 rfl) ?_
      refine g_iconst hC (rfl : 44 + 1 = 45) (xdt tt_X8_append 24 rfl) ?_
      refine g_iadd hC (rfl : 45 + 1 = 46) (xdt tt_X8_append 25 rfl) ?_
      obtain ⟨S5, hS5, h⟩ := lt1_i h
      refine g_putI hC hk0 kclX8 ly1_2 2 (by decide) rfl rfl rfl q167 hS5 (rfl : 46 + 3 = 49) (xdt tt_X8_append 26 rfl) ?_
      cases h
      exact g_vret hC hE (xdt tt_X8_append 27 rfl)
def f_X11_addRule_p3_0 (S : xSt) (r0 : Nat) (a1 : Int) (a2 : Int) : Option (Int × xSt) :=
  bd2 (f_X11_isRule S a1 a2) fun v3 S2 =>
  if ¬ wr v3 = 0 then
    (bd2 (f_X8_has_p1_2 S2 (r0 + 1) a1 a2) fun v7 S6 =>
    if wr v7 = 0 then
      (if wr (gI S6 (r0 + 1) 2 2) < wr 6 then
        (bd (f_X1_remember_p3_8_1_0 S6 r0 (r0 + 1)) fun S10 =>
        bd (f_X8_append_p1_2 S10 (r0 + 1) a1 a2) fun S12 =>
        some (((gI S12 (r0 + 1) 2 2) - 1), S12))
      else
        (none))
    else
      (none))
  else
    (none)
set_option maxRecDepth 100000 in
set_option maxHeartbeats 4000000 in
theorem c_X11_addRule_p3_0 (l : Launch) {E : xE} {S S' : xSt} {r0 : Nat} {a1 : Int} {a2 : Int} (hk0 : xkd E r0 = 3) (hA0 : xFam E r0) {v : Int} (h : f_X11_addRule_p3_0 S r0 a1 a2 = some (v, S')) : Met l yX11_addRule (xws yX11_addRule cX11_addRule 3 (some .int)) (rmD 6) (YPc E [vr E r0 0, vi a1, vi a2] S) (YQi E v S') 0 0 (xA E) := by
  unfold f_X11_addRule_p3_0 at h
  refine met_i (by decide +kernel) (Nat.le_of_ble_eq_true rfl) (fun K hC hZ hE => ?_)
  have hC : xOK K cX11_addRule RX11 3 (rmE 6 0) := hC
  show WG K E 0 [(0, vr E r0 0), (1, vi a1), (2, vi a2)] [] S
  refine g_iload_n hC rfl 1 rfl (rfl : 0 + 1 = 1) (xdt tt_X11_addRule 0 rfl) ?_
  refine g_iload_n hC rfl 2 rfl (rfl : 1 + 1 = 2) (xdt tt_X11_addRule 1 rfl) ?_
  obtain ⟨v3, S2, hc1, h⟩ := bd2_i h
  refine g_callSz hC hZ m_X11_isRule q1288 (Nat.le_of_ble_eq_true rfl) [vi a1, vi a2] rfl (fun l => c_X11_isRule l hc1) rfl (Nat.le_of_ble_eq_true rfl) (rfl : 2 + 3 = 5) (xdt tt_X11_addRule 2 rfl) (fun hb4 => ?_)
  refine g_if_ne hC (show ((5 : Nat) : Int) + 14 = ((19 : Nat) : Int) by decide) (rfl : 5 + 3 = 8) (xdt tt_X11_addRule 3 rfl) (fun hc15 => ?_) (fun hc15 => ?_)
  · replace h := (if_pos hc15).symm.trans h
    refine g_aload_n hC rfl 0 rfl (rfl : 19 + 1 = 20) (xdt tt_X11_addRule 9 rfl) ?_
    refine g_getP hC hk0 kclX11 ly3_0 6 (by decide) (rfl : r0 + 1 = (r0 + 1)) rfl q31 (rfl : 20 + 3 = 23) (xdt tt_X11_addRule 10 rfl) ?_
    refine g_getP hC (hA0 1 (by decide) (by decide)) kclX0 ly1_0 2 (by decide) (rfl : (r0 + 1) + 0 = (r0 + 1)) rfl q592 (rfl : 23 + 3 = 26) (xdt tt_X11_addRule 11 rfl) ?_
    refine g_iload_n hC rfl 1 rfl (rfl : 26 + 1 = 27) (xdt tt_X11_addRule 12 rfl) ?_
    refine g_iload_n hC rfl 2 rfl (rfl : 27 + 1 = 28) (xdt tt_X11_addRule 13 rfl) ?_
    obtain ⟨v7, S6, hc5, h⟩ := bd2_i h
    refine g_callVz hC hZ (hA0 1 (by decide) (by decide)) kclX8 ly1_2 m_X8_has q1291 (Nat.le_of_ble_eq_true rfl) [vi a1, vi a2] rfl (fun l => c_X8_has_p1_2 l (hA0 1 (by decide) (by decide)) hc5) rfl (Nat.le_of_ble_eq_true rfl) (rfl : 28 + 3 = 31) (xdt tt_X11_addRule 14 rfl) (fun hb8 => ?_)
    refine g_if_eq hC (show ((31 : Nat) : Int) + 14 = ((45 : Nat) : Int) by decide) (rfl : 31 + 3 = 34) (xdt tt_X11_addRule 15 rfl) (fun hc14 => ?_) (fun hc14 => ?_)
    · replace h := (if_pos hc14).symm.trans h
      refine g_aload_n hC rfl 0 rfl (rfl : 45 + 1 = 46) (xdt tt_X11_addRule 21 rfl) ?_
      refine g_getP hC hk0 kclX11 ly3_0 6 (by decide) (rfl : r0 + 1 = (r0 + 1)) rfl q31 (rfl : 46 + 3 = 49) (xdt tt_X11_addRule 22 rfl) ?_
      refine g_getP hC (hA0 1 (by decide) (by decide)) kclX0 ly1_0 2 (by decide) (rfl : (r0 + 1) + 0 = (r0 + 1)) rfl q592 (rfl : 49 + 3 = 52) (xdt tt_X11_addRule 23 rfl) ?_
      refine g_getI hC (hA0 1 (by decide) (by decide)) kclX8 ly1_2 2 (by decide) rfl q593 (rfl : 52 + 3 = 55) (xdt tt_X11_addRule 24 rfl) ?_
      refine g_bipush hC (by decide) (rfl : 55 + 2 = 57) (xdt tt_X11_addRule 25 rfl) ?_
      refine g_icmp_lt hC (show ((57 : Nat) : Int) + 14 = ((71 : Nat) : Int) by decide) (rfl : 57 + 3 = 60) (xdt tt_X11_addRule 26 rfl) (fun hc13 => ?_) (fun hc13 => ?_)
      · replace h := (if_pos hc13).symm.trans h
        refine g_aload_n hC rfl 0 rfl (rfl : 71 + 1 = 72) (xdt tt_X11_addRule 32 rfl) ?_
        refine g_getP hC hk0 kclX11 ly3_0 10 (by decide) (rfl : r0 + 0 = r0) rfl q37 (rfl : 72 + 3 = 75) (xdt tt_X11_addRule 33 rfl) ?_
        refine g_aload_n hC rfl 0 rfl (rfl : 75 + 1 = 76) (xdt tt_X11_addRule 34 rfl) ?_
        refine g_getP hC hk0 kclX11 ly3_0 6 (by decide) (rfl : r0 + 1 = (r0 + 1)) rfl q31 (rfl : 76 + 3 = 79) (xdt tt_X11_addRule 35 rfl) ?_
        obtain ⟨S10, hc9, h⟩ := bd_i h
        refine g_callVv hC hZ hk0 kclX1 ly3_8 m_X1_remember q986 (Nat.le_of_ble_eq_true rfl) [vr E (r0 + 1) 0] rfl (fun l => c_X1_remember_p3_8_1_0 l hk0 hA0 (hA0 1 (by decide) (by decide)) hc9) rfl (Nat.le_of_ble_eq_true rfl) (rfl : 79 + 3 = 82) (xdt tt_X11_addRule 36 rfl) ?_
        refine g_aload_n hC rfl 0 rfl (rfl : 82 + 1 = 83) (xdt tt_X11_addRule 37 rfl) ?_
        refine g_getP hC hk0 kclX11 ly3_0 6 (by decide) (rfl : r0 + 1 = (r0 + 1)) rfl q31 (rfl : 83 + 3 = 86) (xdt tt_X11_addRule 38 rfl) ?_
        refine g_getP hC (hA0 1 (by decide) (by decide)) kclX0 ly1_0 2 (by decide) (rfl : (r0 + 1) + 0 = (r0 + 1)) rfl q592 (rfl : 86 + 3 = 89) (xdt tt_X11_addRule 39 rfl) ?_
        refine g_iload_n hC rfl 1 rfl (rfl : 89 + 1 = 90) (xdt tt_X11_addRule 40 rfl) ?_
        refine g_iload_n hC rfl 2 rfl (rfl : 90 + 1 = 91) (xdt tt_X11_addRule 41 rfl) ?_
        obtain ⟨S12, hc11, h⟩ := bd_i h
        refine g_callVv hC hZ (hA0 1 (by decide) (by decide)) kclX8 ly1_2 m_X8_append q1292 (Nat.le_of_ble_eq_true rfl) [vi a1, vi a2] rfl (fun l => c_X8_append_p1_2 l (hA0 1 (by decide) (by decide)) hc11) rfl (Nat.le_of_ble_eq_true rfl) (rfl : 91 + 3 = 94) (xdt tt_X11_addRule 42 rfl) ?_
        refine g_aload_n hC rfl 0 rfl (rfl : 94 + 1 = 95) (xdt tt_X11_addRule 43 rfl) ?_
        refine g_getP hC hk0 kclX11 ly3_0 6 (by decide) (rfl : r0 + 1 = (r0 + 1)) rfl q31 (rfl : 95 + 3 = 98) (xdt tt_X11_addRule 44 rfl) ?_
        refine g_getP hC (hA0 1 (by decide) (by decide)) kclX0 ly1_0 2 (by decide) (rfl : (r0 + 1) + 0 = (r0 + 1)) rfl q592 (rfl : 98 + 3 = 101) (xdt tt_X11_addRule 45 rfl) ?_
        refine g_getI hC (hA0 1 (by decide) (by decide)) kclX8 ly1_2 2 (by decide) rfl q593 (rfl : 101 + 3 = 104) (xdt tt_X11_addRule 46 rfl) ?_
        refine g_iconst hC (rfl : 104 + 1 = 105) (xdt tt_X11_addRule 47 rfl) ?_
        refine g_isub hC (rfl : 105 + 1 = 106) (xdt tt_X11_addRule 48 rfl) ?_
        cases h
        exact g_iret hC hE (xdt tt_X11_addRule 49 rfl)
      · replace h := (if_neg hc13).symm.trans h
        cases h
    · replace h := (if_neg hc14).symm.trans h
      cases h
  · replace h := (if_neg hc15).symm.trans h
    cases h
def f_X8_takeOut_p1_2_b17 (r0 : Nat) : Nat → xSt → Int → Option (xSt)
  | 0, _, _ => none
  | fuel + 1, S, x2 =>
    if wr (gI S r0 2 2) ≤ wr x2 then
      (lt1 (wI S r0 2 2 ((gI S r0 2 2) - 1)) fun S1 =>
      some S1)
    else
      (ckI x2 7 <|
      ckI (x2 - 1) 7 <|
      lt1 (wI S r0 3 (wr (x2 - 1)).toNat (gI S r0 3 (wr x2).toNat)) fun S4 =>
      ckI x2 7 <|
      ckI (x2 - 1) 7 <|
      lt1 (wI S4 r0 4 (wr (x2 - 1)).toNat (gI S4 r0 4 (wr x2).toNat)) fun S7 =>
      (f_X8_takeOut_p1_2_b17 r0 fuel) S7 (x2 + 1))
def f_X8_takeOut_p1_2 (S : xSt) (r0 : Nat) (a1 : Int) : Option (xSt) :=
  if wr a1 < 0 then
    (some S)
  else
    (if wr a1 < wr (gI S r0 2 2) then
      (f_X8_takeOut_p1_2_b17 r0 (fu S) S (a1 + 1))
    else
      (some S))
set_option maxRecDepth 100000 in
set_option maxHeartbeats 4000000 in
theorem k_X8_takeOut_p1_2_b17 {K : xCtx} {E : xE} {b : Nat} (hC : xOK K cX8_takeOut RX8 3 (rmE 1 b)) (hZ : xZ K) {S' : xSt} (hE : xEnd K E none (YQv E S')) {r0 : Nat} (hk0 : xkd E r0 = 1) : ∀ (fuel : Nat) (S : xSt) (x2 : Int), f_X8_takeOut_p1_2_b17 r0 fuel S x2 = some S' → WG K E 17 [(0, vr E r0 2), (2, vi x2)] [] S := by
  intro fuel
  induction fuel with
  | zero => intro S x2 h; cases h
  | succ fuel ih =>
    intro S x2 h
    rw [f_X8_takeOut_p1_2_b17] at h
    refine g_iload_n hC rfl 1 rfl (rfl : 17 + 1 = 18) (xdt tt_X8_takeOut 11 rfl) ?_
    refine g_aload_n hC rfl 0 rfl (rfl : 18 + 1 = 19) (xdt tt_X8_takeOut 12 rfl) ?_
    refine g_getI hC hk0 kclX8 ly1_2 2 (by decide) rfl q167 (rfl : 19 + 3 = 22) (xdt tt_X8_takeOut 13 rfl) ?_
    refine g_icmp_ge hC (show ((22 : Nat) : Int) + 37 = ((59 : Nat) : Int) by decide) (rfl : 22 + 3 = 25) (xdt tt_X8_takeOut 14 rfl) (fun hc8 => ?_) (fun hc8 => ?_)
    · replace h := (if_pos hc8).symm.trans h
      refine g_aload_n hC rfl 0 rfl (rfl : 59 + 1 = 60) (xdt tt_X8_takeOut 37 rfl) ?_
      refine g_dup hC rfl (rfl : 60 + 1 = 61) (xdt tt_X8_takeOut 38 rfl) ?_
      refine g_getI hC hk0 kclX8 ly1_2 2 (by decide) rfl q167 (rfl : 61 + 3 = 64) (xdt tt_X8_takeOut 39 rfl) ?_
      refine g_iconst hC (rfl : 64 + 1 = 65) (xdt tt_X8_takeOut 40 rfl) ?_
      refine g_isub hC (rfl : 65 + 1 = 66) (xdt tt_X8_takeOut 41 rfl) ?_
      obtain ⟨S1, hS1, h⟩ := lt1_i h
      refine g_putI hC hk0 kclX8 ly1_2 2 (by decide) rfl rfl rfl q167 hS1 (rfl : 66 + 3 = 69) (xdt tt_X8_takeOut 42 rfl) ?_
      cases h
      exact g_vret hC hE (xdt tt_X8_takeOut 43 rfl)
    · replace h := (if_neg hc8).symm.trans h
      refine g_aload_n hC rfl 0 rfl (rfl : 25 + 1 = 26) (xdt tt_X8_takeOut 15 rfl) ?_
      refine g_getP hC hk0 kclX8 ly1_2 0 (by decide) (rfl : r0 + 0 = r0) rfl q75 (rfl : 26 + 3 = 29) (xdt tt_X8_takeOut 16 rfl) ?_
      refine g_iload_n hC rfl 1 rfl (rfl : 29 + 1 = 30) (xdt tt_X8_takeOut 17 rfl) ?_
      refine g_iconst hC (rfl : 30 + 1 = 31) (xdt tt_X8_takeOut 18 rfl) ?_
      refine g_isub hC (rfl : 31 + 1 = 32) (xdt tt_X8_takeOut 19 rfl) ?_
      refine g_aload_n hC rfl 0 rfl (rfl : 32 + 1 = 33) (xdt tt_X8_takeOut 20 rfl) ?_
      refine g_getP hC hk0 kclX8 ly1_2 0 (by decide) (rfl : r0 + 0 = r0) rfl q75 (rfl : 33 + 3 = 36) (xdt tt_X8_takeOut 21 rfl) ?_
      refine g_iload_n hC rfl 1 rfl (rfl : 36 + 1 = 37) (xdt tt_X8_takeOut 22 rfl) ?_
      obtain ⟨hi2, h⟩ := ckI_i h
      refine g_iald hC hk0 ly1_3 hi2 (rfl : 37 + 1 = 38) (xdt tt_X8_takeOut 23 rfl) (k0 := (wr x2).toNat) rfl ?_
      obtain ⟨hi3, h⟩ := ckI_i h
      obtain ⟨S4, hS4, h⟩ := lt1_i h
      refine g_iast hC hk0 ly1_3 hi3 rfl hS4 (rfl : 38 + 1 = 39) (xdt tt_X8_takeOut 24 rfl) ?_
      refine g_aload_n hC rfl 0 rfl (rfl : 39 + 1 = 40) (xdt tt_X8_takeOut 25 rfl) ?_
      refine g_getP hC hk0 kclX8 ly1_2 1 (by decide) (rfl : r0 + 0 = r0) rfl q76 (rfl : 40 + 3 = 43) (xdt tt_X8_takeOut 26 rfl) ?_
      refine g_iload_n hC rfl 1 rfl (rfl : 43 + 1 = 44) (xdt tt_X8_takeOut 27 rfl) ?_
      refine g_iconst hC (rfl : 44 + 1 = 45) (xdt tt_X8_takeOut 28 rfl) ?_
      refine g_isub hC (rfl : 45 + 1 = 46) (xdt tt_X8_takeOut 29 rfl) ?_
      refine g_aload_n hC rfl 0 rfl (rfl : 46 + 1 = 47) (xdt tt_X8_takeOut 30 rfl) ?_
      refine g_getP hC hk0 kclX8 ly1_2 1 (by decide) (rfl : r0 + 0 = r0) rfl q76 (rfl : 47 + 3 = 50) (xdt tt_X8_takeOut 31 rfl) ?_
      refine g_iload_n hC rfl 1 rfl (rfl : 50 + 1 = 51) (xdt tt_X8_takeOut 32 rfl) ?_
      obtain ⟨hi5, h⟩ := ckI_i h
      refine g_iald hC hk0 ly1_4 hi5 (rfl : 51 + 1 = 52) (xdt tt_X8_takeOut 33 rfl) (k0 := (wr x2).toNat) rfl ?_
      obtain ⟨hi6, h⟩ := ckI_i h
      obtain ⟨S7, hS7, h⟩ := lt1_i h
      refine g_iast hC hk0 ly1_4 hi6 rfl hS7 (rfl : 52 + 1 = 53) (xdt tt_X8_takeOut 34 rfl) ?_
      refine g_iinc hC 1 rfl (by decide) (lv' := [(2, vi (x2 + 1)), (0, vr E r0 2)]) rfl (rfl : 53 + 3 = 56) (xdt tt_X8_takeOut 35 rfl) ?_
      refine g_goto hC (show ((56 : Nat) : Int) + (-39) = ((17 : Nat) : Int) by decide) (xdt tt_X8_takeOut 36 rfl) ?_
      refine g_sub [1, 0] (lv' := [(0, vr E r0 2), (2, vi (x2 + 1))]) rfl ?_
      exact ih _ _ h
set_option maxRecDepth 100000 in
set_option maxHeartbeats 4000000 in
theorem c_X8_takeOut_p1_2 (l : Launch) {E : xE} {S S' : xSt} {r0 : Nat} {a1 : Int} (hk0 : xkd E r0 = 1) (h : f_X8_takeOut_p1_2 S r0 a1 = some S') : Met l yX8_takeOut (xws yX8_takeOut cX8_takeOut 3 none) (rmD 1) (YPc E [vr E r0 2, vi a1] S) (YQv E S') 0 0 (xA E) := by
  unfold f_X8_takeOut_p1_2 at h
  refine met_v (by decide +kernel) (Nat.le_of_ble_eq_true rfl) (fun K hC hZ hE => ?_)
  have hC : xOK K cX8_takeOut RX8 3 (rmE 1 0) := hC
  show WG K E 0 [(0, vr E r0 2), (1, vi a1)] [] S
  refine g_iload_n hC rfl 1 rfl (rfl : 0 + 1 = 1) (xdt tt_X8_takeOut 0 rfl) ?_
  refine g_if_lt hC (show ((1 : Nat) : Int) + 11 = ((12 : Nat) : Int) by decide) (rfl : 1 + 3 = 4) (xdt tt_X8_takeOut 1 rfl) (fun hc10 => ?_) (fun hc10 => ?_)
  · replace h := (if_pos hc10).symm.trans h
    cases h
    exact g_vret hC hE (xdt tt_X8_takeOut 6 rfl)
  · replace h := (if_neg hc10).symm.trans h
    refine g_iload_n hC rfl 1 rfl (rfl : 4 + 1 = 5) (xdt tt_X8_takeOut 2 rfl) ?_
    refine g_aload_n hC rfl 0 rfl (rfl : 5 + 1 = 6) (xdt tt_X8_takeOut 3 rfl) ?_
    refine g_getI hC hk0 kclX8 ly1_2 2 (by decide) rfl q167 (rfl : 6 + 3 = 9) (xdt tt_X8_takeOut 4 rfl) ?_
    refine g_icmp_lt hC (show ((9 : Nat) : Int) + 4 = ((13 : Nat) : Int) by decide) (rfl : 9 + 3 = 12) (xdt tt_X8_takeOut 5 rfl) (fun hc9 => ?_) (fun hc9 => ?_)
    · replace h := (if_pos hc9).symm.trans h
      refine g_iload_n hC rfl 1 rfl (rfl : 13 + 1 = 14) (xdt tt_X8_takeOut 7 rfl) ?_
      refine g_iconst hC (rfl : 14 + 1 = 15) (xdt tt_X8_takeOut 8 rfl) ?_
      refine g_iadd hC (rfl : 15 + 1 = 16) (xdt tt_X8_takeOut 9 rfl) ?_
      refine g_istore_n hC rfl (by decide) (lv' := [(2, vi (a1 + 1)), (0, vr E r0 2), (1, vi a1)]) rfl (rfl : 16 + 1 = 17) (xdt tt_X8_takeOut 10 rfl) ?_
      refine g_sub [1, 0] (lv' := [(0, vr E r0 2), (2, vi (a1 + 1))]) rfl ?_
      exact k_X8_takeOut_p1_2_b17 hC hZ hE hk0 _ _ _ h
    · replace h := (if_neg hc9).symm.trans h
      cases h
      exact g_vret hC hE (xdt tt_X8_takeOut 6 rfl)
def f_X11_removeRule_p3_0 (S : xSt) (r0 : Nat) (a1 : Int) : Option (Int × xSt) :=
  if wr a1 < 0 then
    (none)
  else
    (if wr a1 < wr (gI S (r0 + 1) 2 2) then
      (bd (f_X1_remember_p3_8_1_0 S r0 (r0 + 1)) fun S2 =>
      ckI a1 7 <|
      ckI a1 7 <|
      bd (f_X8_takeOut_p1_2 S2 (r0 + 1) a1) fun S6 =>
      some (((10 * (gI S2 (r0 + 1) 3 (wr a1).toNat)) + (gI S2 (r0 + 1) 4 (wr a1).toNat)), S6))
    else
      (none))
set_option maxRecDepth 100000 in
set_option maxHeartbeats 4000000 in
theorem c_X11_removeRule_p3_0 (l : Launch) {E : xE} {S S' : xSt} {r0 : Nat} {a1 : Int} (hk0 : xkd E r0 = 3) (hA0 : xFam E r0) {v : Int} (h : f_X11_removeRule_p3_0 S r0 a1 = some (v, S')) : Met l yX11_removeRule (xws yX11_removeRule cX11_removeRule 3 (some .int)) (rmD 6) (YPc E [vr E r0 0, vi a1] S) (YQi E v S') 0 0 (xA E) := by
  unfold f_X11_removeRule_p3_0 at h
  refine met_i (by decide +kernel) (Nat.le_of_ble_eq_true rfl) (fun K hC hZ hE => ?_)
  have hC : xOK K cX11_removeRule RX11 3 (rmE 6 0) := hC
  show WG K E 0 [(0, vr E r0 0), (1, vi a1)] [] S
  refine g_iload_n hC rfl 1 rfl (rfl : 0 + 1 = 1) (xdt tt_X11_removeRule 0 rfl) ?_
  refine g_if_lt hC (show ((1 : Nat) : Int) + 17 = ((18 : Nat) : Int) by decide) (rfl : 1 + 3 = 4) (xdt tt_X11_removeRule 1 rfl) (fun hc8 => ?_) (fun hc8 => ?_)
  · replace h := (if_pos hc8).symm.trans h
    cases h
  · replace h := (if_neg hc8).symm.trans h
    refine g_iload_n hC rfl 1 rfl (rfl : 4 + 1 = 5) (xdt tt_X11_removeRule 2 rfl) ?_
    refine g_aload_n hC rfl 0 rfl (rfl : 5 + 1 = 6) (xdt tt_X11_removeRule 3 rfl) ?_
    refine g_getP hC hk0 kclX11 ly3_0 6 (by decide) (rfl : r0 + 1 = (r0 + 1)) rfl q31 (rfl : 6 + 3 = 9) (xdt tt_X11_removeRule 4 rfl) ?_
    refine g_getP hC (hA0 1 (by decide) (by decide)) kclX0 ly1_0 2 (by decide) (rfl : (r0 + 1) + 0 = (r0 + 1)) rfl q592 (rfl : 9 + 3 = 12) (xdt tt_X11_removeRule 5 rfl) ?_
    refine g_getI hC (hA0 1 (by decide) (by decide)) kclX8 ly1_2 2 (by decide) rfl q593 (rfl : 12 + 3 = 15) (xdt tt_X11_removeRule 6 rfl) ?_
    refine g_icmp_lt hC (show ((15 : Nat) : Int) + 13 = ((28 : Nat) : Int) by decide) (rfl : 15 + 3 = 18) (xdt tt_X11_removeRule 7 rfl) (fun hc7 => ?_) (fun hc7 => ?_)
    · replace h := (if_pos hc7).symm.trans h
      refine g_aload_n hC rfl 0 rfl (rfl : 28 + 1 = 29) (xdt tt_X11_removeRule 13 rfl) ?_
      refine g_getP hC hk0 kclX11 ly3_0 10 (by decide) (rfl : r0 + 0 = r0) rfl q37 (rfl : 29 + 3 = 32) (xdt tt_X11_removeRule 14 rfl) ?_
      refine g_aload_n hC rfl 0 rfl (rfl : 32 + 1 = 33) (xdt tt_X11_removeRule 15 rfl) ?_
      refine g_getP hC hk0 kclX11 ly3_0 6 (by decide) (rfl : r0 + 1 = (r0 + 1)) rfl q31 (rfl : 33 + 3 = 36) (xdt tt_X11_removeRule 16 rfl) ?_
      obtain ⟨S2, hc1, h⟩ := bd_i h
      refine g_callVv hC hZ hk0 kclX1 ly3_8 m_X1_remember q986 (Nat.le_of_ble_eq_true rfl) [vr E (r0 + 1) 0] rfl (fun l => c_X1_remember_p3_8_1_0 l hk0 hA0 (hA0 1 (by decide) (by decide)) hc1) rfl (Nat.le_of_ble_eq_true rfl) (rfl : 36 + 3 = 39) (xdt tt_X11_removeRule 17 rfl) ?_
      refine g_bipush hC (by decide) (rfl : 39 + 2 = 41) (xdt tt_X11_removeRule 18 rfl) ?_
      refine g_aload_n hC rfl 0 rfl (rfl : 41 + 1 = 42) (xdt tt_X11_removeRule 19 rfl) ?_
      refine g_getP hC hk0 kclX11 ly3_0 6 (by decide) (rfl : r0 + 1 = (r0 + 1)) rfl q31 (rfl : 42 + 3 = 45) (xdt tt_X11_removeRule 20 rfl) ?_
      refine g_getP hC (hA0 1 (by decide) (by decide)) kclX0 ly1_0 2 (by decide) (rfl : (r0 + 1) + 0 = (r0 + 1)) rfl q592 (rfl : 45 + 3 = 48) (xdt tt_X11_removeRule 21 rfl) ?_
      refine g_getP hC (hA0 1 (by decide) (by decide)) kclX8 ly1_2 0 (by decide) (rfl : (r0 + 1) + 0 = (r0 + 1)) rfl q802 (rfl : 48 + 3 = 51) (xdt tt_X11_removeRule 22 rfl) ?_
      refine g_iload_n hC rfl 1 rfl (rfl : 51 + 1 = 52) (xdt tt_X11_removeRule 23 rfl) ?_
      obtain ⟨hi3, h⟩ := ckI_i h
      refine g_iald hC (hA0 1 (by decide) (by decide)) ly1_3 hi3 (rfl : 52 + 1 = 53) (xdt tt_X11_removeRule 24 rfl) (k0 := (wr a1).toNat) rfl ?_
      refine g_imul hC (rfl : 53 + 1 = 54) (xdt tt_X11_removeRule 25 rfl) ?_
      refine g_aload_n hC rfl 0 rfl (rfl : 54 + 1 = 55) (xdt tt_X11_removeRule 26 rfl) ?_
      refine g_getP hC hk0 kclX11 ly3_0 6 (by decide) (rfl : r0 + 1 = (r0 + 1)) rfl q31 (rfl : 55 + 3 = 58) (xdt tt_X11_removeRule 27 rfl) ?_
      refine g_getP hC (hA0 1 (by decide) (by decide)) kclX0 ly1_0 2 (by decide) (rfl : (r0 + 1) + 0 = (r0 + 1)) rfl q592 (rfl : 58 + 3 = 61) (xdt tt_X11_removeRule 28 rfl) ?_
      refine g_getP hC (hA0 1 (by decide) (by decide)) kclX8 ly1_2 1 (by decide) (rfl : (r0 + 1) + 0 = (r0 + 1)) rfl q801 (rfl : 61 + 3 = 64) (xdt tt_X11_removeRule 29 rfl) ?_
      refine g_iload_n hC rfl 1 rfl (rfl : 64 + 1 = 65) (xdt tt_X11_removeRule 30 rfl) ?_
      obtain ⟨hi4, h⟩ := ckI_i h
      refine g_iald hC (hA0 1 (by decide) (by decide)) ly1_4 hi4 (rfl : 65 + 1 = 66) (xdt tt_X11_removeRule 31 rfl) (k0 := (wr a1).toNat) rfl ?_
      refine g_iadd hC (rfl : 66 + 1 = 67) (xdt tt_X11_removeRule 32 rfl) ?_
      refine g_istore_n hC rfl (by decide) (lv' := [(2, vi ((10 * (gI S2 (r0 + 1) 3 (wr a1).toNat)) + (gI S2 (r0 + 1) 4 (wr a1).toNat))), (0, vr E r0 0), (1, vi a1)]) rfl (rfl : 67 + 1 = 68) (xdt tt_X11_removeRule 33 rfl) ?_
      refine g_aload_n hC rfl 1 rfl (rfl : 68 + 1 = 69) (xdt tt_X11_removeRule 34 rfl) ?_
      refine g_getP hC hk0 kclX11 ly3_0 6 (by decide) (rfl : r0 + 1 = (r0 + 1)) rfl q31 (rfl : 69 + 3 = 72) (xdt tt_X11_removeRule 35 rfl) ?_
      refine g_getP hC (hA0 1 (by decide) (by decide)) kclX0 ly1_0 2 (by decide) (rfl : (r0 + 1) + 0 = (r0 + 1)) rfl q592 (rfl : 72 + 3 = 75) (xdt tt_X11_removeRule 36 rfl) ?_
      refine g_iload_n hC rfl 2 rfl (rfl : 75 + 1 = 76) (xdt tt_X11_removeRule 37 rfl) ?_
      obtain ⟨S6, hc5, h⟩ := bd_i h
      refine g_callVv hC hZ (hA0 1 (by decide) (by decide)) kclX8 ly1_2 m_X8_takeOut q1315 (Nat.le_of_ble_eq_true rfl) [vi a1] rfl (fun l => c_X8_takeOut_p1_2 l (hA0 1 (by decide) (by decide)) hc5) rfl (Nat.le_of_ble_eq_true rfl) (rfl : 76 + 3 = 79) (xdt tt_X11_removeRule 38 rfl) ?_
      refine g_iload_n hC rfl 0 rfl (rfl : 79 + 1 = 80) (xdt tt_X11_removeRule 39 rfl) ?_
      cases h
      exact g_iret hC hE (xdt tt_X11_removeRule 40 rfl)
    · replace h := (if_neg hc7).symm.trans h
      cases h
def f_X11_redirect_p3_0 (S : xSt) (r0 : Nat) (a1 : Int) : Option (Int × xSt) :=
  if wr a1 < 0 then
    (none)
  else
    (ckP S r0 0 4 2 0 fun rg1 =>
    if wr a1 < wr (gI S rg1 0 10) then
      (bd (f_X1_remember_p3_8_1_0 S r0 (r0 + 1)) fun S3 =>
      bd (f_X0_goTo_p1_0 S3 (r0 + 1) a1) fun S5 =>
      some ((gI S3 (r0 + 1) 5 2), S5))
    else
      (none))
set_option maxRecDepth 100000 in
set_option maxHeartbeats 4000000 in
theorem c_X11_redirect_p3_0 (l : Launch) {E : xE} {S S' : xSt} {r0 : Nat} {a1 : Int} (hk0 : xkd E r0 = 3) (hA0 : xFam E r0) {v : Int} (h : f_X11_redirect_p3_0 S r0 a1 = some (v, S')) : Met l yX11_redirect (xws yX11_redirect cX11_redirect 3 (some .int)) (rmD 6) (YPc E [vr E r0 0, vi a1] S) (YQi E v S') 0 0 (xA E) := by
  unfold f_X11_redirect_p3_0 at h
  refine met_i (by decide +kernel) (Nat.le_of_ble_eq_true rfl) (fun K hC hZ hE => ?_)
  have hC : xOK K cX11_redirect RX11 3 (rmE 6 0) := hC
  show WG K E 0 [(0, vr E r0 0), (1, vi a1)] [] S
  refine g_iload_n hC rfl 1 rfl (rfl : 0 + 1 = 1) (xdt tt_X11_redirect 0 rfl) ?_
  refine g_if_lt hC (show ((1 : Nat) : Int) + 14 = ((15 : Nat) : Int) by decide) (rfl : 1 + 3 = 4) (xdt tt_X11_redirect 1 rfl) (fun hc7 => ?_) (fun hc7 => ?_)
  · replace h := (if_pos hc7).symm.trans h
    cases h
  · replace h := (if_neg hc7).symm.trans h
    refine g_iload_n hC rfl 1 rfl (rfl : 4 + 1 = 5) (xdt tt_X11_redirect 2 rfl) ?_
    refine g_aload_n hC rfl 0 rfl (rfl : 5 + 1 = 6) (xdt tt_X11_redirect 3 rfl) ?_
    obtain ⟨rg1, hrg1, grg1, h⟩ := ckP_i h
    refine g_getV hC hk0 kclX11 ly3_0 4 (by decide) rfl hrg1 grg1 q26 (rfl : 6 + 3 = 9) (xdt tt_X11_redirect 4 rfl) (fun krg1 => ?_)
    refine g_getI hC krg1 kclX5 ly2_0 10 (by decide) rfl q277 (rfl : 9 + 3 = 12) (xdt tt_X11_redirect 5 rfl) ?_
    refine g_icmp_lt hC (show ((12 : Nat) : Int) + 13 = ((25 : Nat) : Int) by decide) (rfl : 12 + 3 = 15) (xdt tt_X11_redirect 6 rfl) (fun hc6 => ?_) (fun hc6 => ?_)
    · replace h := (if_pos hc6).symm.trans h
      refine g_aload_n hC rfl 0 rfl (rfl : 25 + 1 = 26) (xdt tt_X11_redirect 12 rfl) ?_
      refine g_getP hC hk0 kclX11 ly3_0 10 (by decide) (rfl : r0 + 0 = r0) rfl q37 (rfl : 26 + 3 = 29) (xdt tt_X11_redirect 13 rfl) ?_
      refine g_aload_n hC rfl 0 rfl (rfl : 29 + 1 = 30) (xdt tt_X11_redirect 14 rfl) ?_
      refine g_getP hC hk0 kclX11 ly3_0 6 (by decide) (rfl : r0 + 1 = (r0 + 1)) rfl q31 (rfl : 30 + 3 = 33) (xdt tt_X11_redirect 15 rfl) ?_
      obtain ⟨S3, hc2, h⟩ := bd_i h
      refine g_callVv hC hZ hk0 kclX1 ly3_8 m_X1_remember q986 (Nat.le_of_ble_eq_true rfl) [vr E (r0 + 1) 0] rfl (fun l => c_X1_remember_p3_8_1_0 l hk0 hA0 (hA0 1 (by decide) (by decide)) hc2) rfl (Nat.le_of_ble_eq_true rfl) (rfl : 33 + 3 = 36) (xdt tt_X11_redirect 16 rfl) ?_
      refine g_aload_n hC rfl 0 rfl (rfl : 36 + 1 = 37) (xdt tt_X11_redirect 17 rfl) ?_
      refine g_getP hC hk0 kclX11 ly3_0 6 (by decide) (rfl : r0 + 1 = (r0 + 1)) rfl q31 (rfl : 37 + 3 = 40) (xdt tt_X11_redirect 18 rfl) ?_
      refine g_getP hC (hA0 1 (by decide) (by decide)) kclX0 ly1_0 3 (by decide) (rfl : (r0 + 1) + 0 = (r0 + 1)) rfl q595 (rfl : 40 + 3 = 43) (xdt tt_X11_redirect 19 rfl) ?_
      refine g_getI hC (hA0 1 (by decide) (by decide)) kclX6 ly1_5 2 (by decide) rfl q596 (rfl : 43 + 3 = 46) (xdt tt_X11_redirect 20 rfl) ?_
      refine g_istore_n hC rfl (by decide) (lv' := [(2, vi (gI S3 (r0 + 1) 5 2)), (0, vr E r0 0), (1, vi a1)]) rfl (rfl : 46 + 1 = 47) (xdt tt_X11_redirect 21 rfl) ?_
      refine g_aload_n hC rfl 1 rfl (rfl : 47 + 1 = 48) (xdt tt_X11_redirect 22 rfl) ?_
      refine g_getP hC hk0 kclX11 ly3_0 6 (by decide) (rfl : r0 + 1 = (r0 + 1)) rfl q31 (rfl : 48 + 3 = 51) (xdt tt_X11_redirect 23 rfl) ?_
      refine g_iload_n hC rfl 2 rfl (rfl : 51 + 1 = 52) (xdt tt_X11_redirect 24 rfl) ?_
      obtain ⟨S5, hc4, h⟩ := bd_i h
      refine g_callVv hC hZ (hA0 1 (by decide) (by decide)) kclX0 ly1_0 m_X0_goTo q1330 (Nat.le_of_ble_eq_true rfl) [vi a1] rfl (fun l => c_X0_goTo_p1_0 l (hA0 1 (by decide) (by decide)) hc4) rfl (Nat.le_of_ble_eq_true rfl) (rfl : 52 + 3 = 55) (xdt tt_X11_redirect 25 rfl) ?_
      refine g_iload_n hC rfl 0 rfl (rfl : 55 + 1 = 56) (xdt tt_X11_redirect 26 rfl) ?_
      cases h
      exact g_iret hC hE (xdt tt_X11_redirect 27 rfl)
    · replace h := (if_neg hc6).symm.trans h
      cases h
def f_X1_takeBack_p3_8_1_0 (S : xSt) (r0 : Nat) (r1 : Nat) : Option (xSt) :=
  if wr (gI S r0 8 2) ≤ 0 then
    (some S)
  else
    (if wr (Int.tmod (wr (((gI S r0 8 1) + (gI S r0 8 2)) - 1)) (wr 6)) < 0 then
      (some S)
    else
      (if wr (Int.tmod (wr (((gI S r0 8 1) + (gI S r0 8 2)) - 1)) (wr 6)) < wr 6 then
        (ckI (Int.tmod (wr (((gI S r0 8 1) + (gI S r0 8 2)) - 1)) (wr 6)) 6 <|
        bd (f_X0_copyFrom_p1_0_1_0 S r1 (r0 + (4 + (wr (Int.tmod (wr (((gI S r0 8 1) + (gI S r0 8 2)) - 1)) (wr 6))).toNat))) fun S3 =>
        lt1 (wI S3 r0 8 2 ((gI S3 r0 8 2) - 1)) fun S4 =>
        some S4)
      else
        (some S)))
set_option maxRecDepth 100000 in
set_option maxHeartbeats 4000000 in
theorem c_X1_takeBack_p3_8_1_0 (l : Launch) {E : xE} {S S' : xSt} {r0 : Nat} {r1 : Nat} (hk0 : xkd E r0 = 3) (hA0 : xFam E r0) (hk1 : xkd E r1 = 1) (h : f_X1_takeBack_p3_8_1_0 S r0 r1 = some S') : Met l yX1_takeBack (xws yX1_takeBack cX1_takeBack 3 none) (rmD 5) (YPc E [vr E r0 8, vr E r1 0] S) (YQv E S') 0 0 (xA E) := by
  unfold f_X1_takeBack_p3_8_1_0 at h
  refine met_v (by decide +kernel) (Nat.le_of_ble_eq_true rfl) (fun K hC hZ hE => ?_)
  have hC : xOK K cX1_takeBack RX1 3 (rmE 5 0) := hC
  show WG K E 0 [(0, vr E r0 8), (1, vr E r1 0)] [] S
  refine g_aload_n hC rfl 0 rfl (rfl : 0 + 1 = 1) (xdt tt_X1_takeBack 0 rfl) ?_
  refine g_getI hC hk0 kclX1 ly3_8 1 (by decide) rfl q990 (rfl : 1 + 3 = 4) (xdt tt_X1_takeBack 1 rfl) ?_
  refine g_aload_n hC rfl 0 rfl (rfl : 4 + 1 = 5) (xdt tt_X1_takeBack 2 rfl) ?_
  refine g_getI hC hk0 kclX1 ly3_8 2 (by decide) rfl q465 (rfl : 5 + 3 = 8) (xdt tt_X1_takeBack 3 rfl) ?_
  refine g_iadd hC (rfl : 8 + 1 = 9) (xdt tt_X1_takeBack 4 rfl) ?_
  refine g_iconst hC (rfl : 9 + 1 = 10) (xdt tt_X1_takeBack 5 rfl) ?_
  refine g_isub hC (rfl : 10 + 1 = 11) (xdt tt_X1_takeBack 6 rfl) ?_
  refine g_bipush hC (by decide) (rfl : 11 + 2 = 13) (xdt tt_X1_takeBack 7 rfl) ?_
  refine g_irem hC (by decide) (rfl : 13 + 1 = 14) (xdt tt_X1_takeBack 8 rfl) ?_
  refine g_istore_n hC rfl (by decide) (lv' := [(2, vi (Int.tmod (wr (((gI S r0 8 1) + (gI S r0 8 2)) - 1)) (wr 6))), (0, vr E r0 8), (1, vr E r1 0)]) rfl (rfl : 14 + 1 = 15) (xdt tt_X1_takeBack 9 rfl) ?_
  refine g_aload_n hC rfl 1 rfl (rfl : 15 + 1 = 16) (xdt tt_X1_takeBack 10 rfl) ?_
  refine g_getI hC hk0 kclX1 ly3_8 2 (by decide) rfl q465 (rfl : 16 + 3 = 19) (xdt tt_X1_takeBack 11 rfl) ?_
  refine g_if_le hC (show ((19 : Nat) : Int) + 16 = ((35 : Nat) : Int) by decide) (rfl : 19 + 3 = 22) (xdt tt_X1_takeBack 12 rfl) (fun hc7 => ?_) (fun hc7 => ?_)
  · replace h := (if_pos hc7).symm.trans h
    cases h
    exact g_vret hC hE (xdt tt_X1_takeBack 20 rfl)
  · replace h := (if_neg hc7).symm.trans h
    refine g_iload_n hC rfl 0 rfl (rfl : 22 + 1 = 23) (xdt tt_X1_takeBack 13 rfl) ?_
    refine g_if_lt hC (show ((23 : Nat) : Int) + 12 = ((35 : Nat) : Int) by decide) (rfl : 23 + 3 = 26) (xdt tt_X1_takeBack 14 rfl) (fun hc6 => ?_) (fun hc6 => ?_)
    · replace h := (if_pos hc6).symm.trans h
      cases h
      exact g_vret hC hE (xdt tt_X1_takeBack 20 rfl)
    · replace h := (if_neg hc6).symm.trans h
      refine g_iload_n hC rfl 0 rfl (rfl : 26 + 1 = 27) (xdt tt_X1_takeBack 15 rfl) ?_
      refine g_aload_n hC rfl 1 rfl (rfl : 27 + 1 = 28) (xdt tt_X1_takeBack 16 rfl) ?_
      refine g_getP hC hk0 kclX1 ly3_8 0 (by decide) (rfl : r0 + 0 = r0) rfl q190 (rfl : 28 + 3 = 31) (xdt tt_X1_takeBack 17 rfl) ?_
      refine g_alenR hC hk0 ly3_9 (z := 6) (by decide) (rfl : 31 + 1 = 32) (xdt tt_X1_takeBack 18 rfl) ?_
      refine g_icmp_lt hC (show ((32 : Nat) : Int) + 4 = ((36 : Nat) : Int) by decide) (rfl : 32 + 3 = 35) (xdt tt_X1_takeBack 19 rfl) (fun hc5 => ?_) (fun hc5 => ?_)
      · replace h := (if_pos hc5).symm.trans h
        refine g_aload_n hC rfl 2 rfl (rfl : 36 + 1 = 37) (xdt tt_X1_takeBack 21 rfl) ?_
        refine g_aload_n hC rfl 1 rfl (rfl : 37 + 1 = 38) (xdt tt_X1_takeBack 22 rfl) ?_
        refine g_getP hC hk0 kclX1 ly3_8 0 (by decide) (rfl : r0 + 0 = r0) rfl q190 (rfl : 38 + 3 = 41) (xdt tt_X1_takeBack 23 rfl) ?_
        refine g_iload_n hC rfl 0 rfl (rfl : 41 + 1 = 42) (xdt tt_X1_takeBack 24 rfl) ?_
        obtain ⟨hi1, h⟩ := ckI_i h
        refine g_aald hC hk0 ly3_9 rfl hi1 (xhist hi1) (rfl : _ = (r0 + (4 + (wr (Int.tmod (wr (((gI S r0 8 1) + (gI S r0 8 2)) - 1)) (wr 6))).toNat))) (rfl : 42 + 1 = 43) (xdt tt_X1_takeBack 25 rfl) ?_
        obtain ⟨S3, hc2, h⟩ := bd_i h
        refine g_callVv hC hZ hk1 kclX0 ly1_0 m_X0_copyFrom q991 (Nat.le_of_ble_eq_true rfl) [vr E (r0 + (4 + (wr (Int.tmod (wr (((gI S r0 8 1) + (gI S r0 8 2)) - 1)) (wr 6))).toNat)) 0] rfl (fun l => c_X0_copyFrom_p1_0_1_0 l hk1 (hA0 (4 + (wr (Int.tmod (wr (((gI S r0 8 1) + (gI S r0 8 2)) - 1)) (wr 6))).toNat) (by omega) (by omega)) hc2) rfl (Nat.le_of_ble_eq_true rfl) (rfl : 43 + 3 = 46) (xdt tt_X1_takeBack 26 rfl) ?_
        refine g_aload_n hC rfl 1 rfl (rfl : 46 + 1 = 47) (xdt tt_X1_takeBack 27 rfl) ?_
        refine g_dup hC rfl (rfl : 47 + 1 = 48) (xdt tt_X1_takeBack 28 rfl) ?_
        refine g_getI hC hk0 kclX1 ly3_8 2 (by decide) rfl q465 (rfl : 48 + 3 = 51) (xdt tt_X1_takeBack 29 rfl) ?_
        refine g_iconst hC (rfl : 51 + 1 = 52) (xdt tt_X1_takeBack 30 rfl) ?_
        refine g_isub hC (rfl : 52 + 1 = 53) (xdt tt_X1_takeBack 31 rfl) ?_
        obtain ⟨S4, hS4, h⟩ := lt1_i h
        refine g_putI hC hk0 kclX1 ly3_8 2 (by decide) rfl rfl rfl q465 hS4 (rfl : 53 + 3 = 56) (xdt tt_X1_takeBack 32 rfl) ?_
        cases h
        exact g_vret hC hE (xdt tt_X1_takeBack 33 rfl)
      · replace h := (if_neg hc5).symm.trans h
        cases h
        exact g_vret hC hE (xdt tt_X1_takeBack 20 rfl)
def f_X11_undo_p3_0 (S : xSt) (r0 : Nat) : Option (Int × xSt) :=
  if 0 < wr (gI S r0 8 2) then
    (bd (f_X1_takeBack_p3_8_1_0 S r0 (r0 + 1)) fun S2 =>
    some ((gI S2 r0 8 2), S2))
  else
    (none)
set_option maxRecDepth 100000 in
set_option maxHeartbeats 4000000 in
theorem c_X11_undo_p3_0 (l : Launch) {E : xE} {S S' : xSt} {r0 : Nat} (hk0 : xkd E r0 = 3) (hA0 : xFam E r0) {v : Int} (h : f_X11_undo_p3_0 S r0 = some (v, S')) : Met l yX11_undo (xws yX11_undo cX11_undo 1 (some .int)) (rmD 6) (YPc E [vr E r0 0] S) (YQi E v S') 0 0 (xA E) := by
  unfold f_X11_undo_p3_0 at h
  refine met_i (by decide +kernel) (Nat.le_of_ble_eq_true rfl) (fun K hC hZ hE => ?_)
  have hC : xOK K cX11_undo RX11 1 (rmE 6 0) := hC
  show WG K E 0 [(0, vr E r0 0)] [] S
  refine g_aload_n hC rfl 0 rfl (rfl : 0 + 1 = 1) (xdt tt_X11_undo 0 rfl) ?_
  refine g_getP hC hk0 kclX11 ly3_0 10 (by decide) (rfl : r0 + 0 = r0) rfl q37 (rfl : 1 + 3 = 4) (xdt tt_X11_undo 1 rfl) ?_
  refine g_getI hC hk0 kclX1 ly3_8 2 (by decide) rfl q601 (rfl : 4 + 3 = 7) (xdt tt_X11_undo 2 rfl) ?_
  refine g_if_gt hC (show ((7 : Nat) : Int) + 14 = ((21 : Nat) : Int) by decide) (rfl : 7 + 3 = 10) (xdt tt_X11_undo 3 rfl) (fun hc3 => ?_) (fun hc3 => ?_)
  · replace h := (if_pos hc3).symm.trans h
    refine g_aload_n hC rfl 0 rfl (rfl : 21 + 1 = 22) (xdt tt_X11_undo 9 rfl) ?_
    refine g_getP hC hk0 kclX11 ly3_0 10 (by decide) (rfl : r0 + 0 = r0) rfl q37 (rfl : 22 + 3 = 25) (xdt tt_X11_undo 10 rfl) ?_
    refine g_aload_n hC rfl 0 rfl (rfl : 25 + 1 = 26) (xdt tt_X11_undo 11 rfl) ?_
    refine g_getP hC hk0 kclX11 ly3_0 6 (by decide) (rfl : r0 + 1 = (r0 + 1)) rfl q31 (rfl : 26 + 3 = 29) (xdt tt_X11_undo 12 rfl) ?_
    obtain ⟨S2, hc1, h⟩ := bd_i h
    refine g_callVv hC hZ hk0 kclX1 ly3_8 m_X1_takeBack q1342 (Nat.le_of_ble_eq_true rfl) [vr E (r0 + 1) 0] rfl (fun l => c_X1_takeBack_p3_8_1_0 l hk0 hA0 (hA0 1 (by decide) (by decide)) hc1) rfl (Nat.le_of_ble_eq_true rfl) (rfl : 29 + 3 = 32) (xdt tt_X11_undo 13 rfl) ?_
    refine g_aload_n hC rfl 0 rfl (rfl : 32 + 1 = 33) (xdt tt_X11_undo 14 rfl) ?_
    refine g_getP hC hk0 kclX11 ly3_0 10 (by decide) (rfl : r0 + 0 = r0) rfl q37 (rfl : 33 + 3 = 36) (xdt tt_X11_undo 15 rfl) ?_
    refine g_getI hC hk0 kclX1 ly3_8 2 (by decide) rfl q601 (rfl : 36 + 3 = 39) (xdt tt_X11_undo 16 rfl) ?_
    cases h
    exact g_iret hC hE (xdt tt_X11_undo 17 rfl)
  · replace h := (if_neg hc3).symm.trans h
    cases h
