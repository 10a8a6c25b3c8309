def f_X0_begin_p1_0_2_0_b74 (r0 : Nat) (r1 : Nat) : Nat → xSt → Int → Option (xSt)
  | 0, _, _ => none
  | fuel + 1, S, x2 =>
    if wr 60 ≤ wr x2 then
      (lt1 (wI S r0 0 9 (-1)) fun S13 =>
      lt1 (wI S13 r0 0 10 0) fun S14 =>
      lt1 (wI S14 r0 0 11 0) fun S15 =>
      lt1 (wI S15 r0 0 12 0) fun S16 =>
      lt1 (wI S16 r0 0 13 0) fun S17 =>
      lt1 (wI S17 r0 0 14 0) fun S18 =>
      lt1 (wI S18 r0 0 15 0) fun S19 =>
      lt1 (wI S19 r0 0 16 0) fun S20 =>
      lt1 (wI S20 r0 0 17 0) fun S21 =>
      some S21)
    else
      (ckI x2 60 <|
      lt1 (wI S r0 19 (wr x2).toNat 0) fun S23 =>
      (f_X0_begin_p1_0_2_0_b74 r0 r1 fuel) S23 (x2 + 1))
def f_X0_begin_p1_0_2_0 (S : xSt) (r0 : Nat) (r1 : Nat) : Option (xSt) :=
  lt1 (wP S r0 0 0 (r1, 0)) fun S1 =>
  lt1 (wA S1 r0 1 (cpI (S1.2.1 r1 1) (S1.2.1 r0 1) (wr 0).toNat (wr 0).toNat (wr 6).toNat)) fun S2 =>
  bd (f_X8_copyFrom_p1_2_2_2 S2 r0 r1) fun S4 =>
  lt1 (wI S4 r0 5 2 0) fun S5 =>
  lt1 (wI S5 r0 8 0 0) fun S6 =>
  bd (f_J7_fill_53178_p1_10 S6 r0 0) fun S8 =>
  bd (f_X4_begin_p1_11 S8 r0) fun S10 =>
  bd (f_X9_clear_p1_14 S10 r0) fun S12 =>
  f_X0_begin_p1_0_2_0_b74 r0 r1 (fu S12) S12 0
set_option maxRecDepth 100000 in
set_option maxHeartbeats 4000000 in
theorem k_X0_begin_p1_0_2_0_b74 {K : xCtx} {E : xE} {b : Nat} (hC : xOK K cX0_begin RX0 3 (rmE 3 b)) (hZ : xZ K) {S' : xSt} (hE : xEnd K E none (YQv E S')) {r0 : Nat} {r1 : Nat} (hk0 : xkd E r0 = 1) (hk1 : xkd E r1 = 2) : ∀ (fuel : Nat) (S : xSt) (x2 : Int), f_X0_begin_p1_0_2_0_b74 r0 r1 fuel S x2 = some S' → WG K E 74 [(0, vr E r0 0), (2, vi x2)] [] S := by
  intro fuel
  induction fuel with
  | zero => intro S x2 h; cases h
  | succ fuel ih =>
    intro S x2 h
    rw [f_X0_begin_p1_0_2_0_b74] at h
    refine g_iload_n hC rfl 1 rfl (rfl : 74 + 1 = 75) (xdt tt_X0_begin 37 rfl) ?_
    refine g_bipush hC (by decide) (rfl : 75 + 2 = 77) (xdt tt_X0_begin 38 rfl) ?_
    refine g_icmp_ge hC (show ((77 : Nat) : Int) + 16 = ((93 : Nat) : Int) by decide) (rfl : 77 + 3 = 80) (xdt tt_X0_begin 39 rfl) (fun hc24 => ?_) (fun hc24 => ?_)
    · replace h := (if_pos hc24).symm.trans h
      refine g_aload_n hC rfl 0 rfl (rfl : 93 + 1 = 94) (xdt tt_X0_begin 47 rfl) ?_
      refine g_iconst hC (rfl : 94 + 1 = 95) (xdt tt_X0_begin 48 rfl) ?_
      obtain ⟨S13, hS13, h⟩ := lt1_i h
      refine g_putI hC hk0 kclX0 ly1_0 9 (by decide) rfl rfl rfl q153 hS13 (rfl : 95 + 3 = 98) (xdt tt_X0_begin 49 rfl) ?_
      refine g_aload_n hC rfl 0 rfl (rfl : 98 + 1 = 99) (xdt tt_X0_begin 50 rfl) ?_
      refine g_iconst hC (rfl : 99 + 1 = 100) (xdt tt_X0_begin 51 rfl) ?_
      obtain ⟨S14, hS14, h⟩ := lt1_i h
      refine g_putI hC hk0 kclX0 ly1_0 10 (by decide) rfl rfl rfl q154 hS14 (rfl : 100 + 3 = 103) (xdt tt_X0_begin 52 rfl) ?_
      refine g_aload_n hC rfl 0 rfl (rfl : 103 + 1 = 104) (xdt tt_X0_begin 53 rfl) ?_
      refine g_iconst hC (rfl : 104 + 1 = 105) (xdt tt_X0_begin 54 rfl) ?_
      obtain ⟨S15, hS15, h⟩ := lt1_i h
      refine g_putZ hC hk0 kclX0 ly1_0 11 (by decide) rfl rfl rfl q155 (Or.inl rfl) hS15 (rfl : 105 + 3 = 108) (xdt tt_X0_begin 55 rfl) ?_
      refine g_aload_n hC rfl 0 rfl (rfl : 108 + 1 = 109) (xdt tt_X0_begin 56 rfl) ?_
      refine g_iconst hC (rfl : 109 + 1 = 110) (xdt tt_X0_begin 57 rfl) ?_
      obtain ⟨S16, hS16, h⟩ := lt1_i h
      refine g_putI hC hk0 kclX0 ly1_0 12 (by decide) rfl rfl rfl q156 hS16 (rfl : 110 + 3 = 113) (xdt tt_X0_begin 58 rfl) ?_
      refine g_aload_n hC rfl 0 rfl (rfl : 113 + 1 = 114) (xdt tt_X0_begin 59 rfl) ?_
      refine g_iconst hC (rfl : 114 + 1 = 115) (xdt tt_X0_begin 60 rfl) ?_
      obtain ⟨S17, hS17, h⟩ := lt1_i h
      refine g_putZ hC hk0 kclX0 ly1_0 13 (by decide) rfl rfl rfl q157 (Or.inl rfl) hS17 (rfl : 115 + 3 = 118) (xdt tt_X0_begin 61 rfl) ?_
      refine g_aload_n hC rfl 0 rfl (rfl : 118 + 1 = 119) (xdt tt_X0_begin 62 rfl) ?_
      refine g_iconst hC (rfl : 119 + 1 = 120) (xdt tt_X0_begin 63 rfl) ?_
      obtain ⟨S18, hS18, h⟩ := lt1_i h
      refine g_putI hC hk0 kclX0 ly1_0 14 (by decide) rfl rfl rfl q158 hS18 (rfl : 120 + 3 = 123) (xdt tt_X0_begin 64 rfl) ?_
      refine g_aload_n hC rfl 0 rfl (rfl : 123 + 1 = 124) (xdt tt_X0_begin 65 rfl) ?_
      refine g_iconst hC (rfl : 124 + 1 = 125) (xdt tt_X0_begin 66 rfl) ?_
      obtain ⟨S19, hS19, h⟩ := lt1_i h
      refine g_putI hC hk0 kclX0 ly1_0 15 (by decide) rfl rfl rfl q159 hS19 (rfl : 125 + 3 = 128) (xdt tt_X0_begin 67 rfl) ?_
      refine g_aload_n hC rfl 0 rfl (rfl : 128 + 1 = 129) (xdt tt_X0_begin 68 rfl) ?_
      refine g_iconst hC (rfl : 129 + 1 = 130) (xdt tt_X0_begin 69 rfl) ?_
      obtain ⟨S20, hS20, h⟩ := lt1_i h
      refine g_putI hC hk0 kclX0 ly1_0 16 (by decide) rfl rfl rfl q160 hS20 (rfl : 130 + 3 = 133) (xdt tt_X0_begin 70 rfl) ?_
      refine g_aload_n hC rfl 0 rfl (rfl : 133 + 1 = 134) (xdt tt_X0_begin 71 rfl) ?_
      refine g_iconst hC (rfl : 134 + 1 = 135) (xdt tt_X0_begin 72 rfl) ?_
      obtain ⟨S21, hS21, h⟩ := lt1_i h
      refine g_putI hC hk0 kclX0 ly1_0 17 (by decide) rfl rfl rfl q161 hS21 (rfl : 135 + 3 = 138) (xdt tt_X0_begin 73 rfl) ?_
      cases h
      exact g_vret hC hE (xdt tt_X0_begin 74 rfl)
    · replace h := (if_neg hc24).symm.trans h
      refine g_aload_n hC rfl 0 rfl (rfl : 80 + 1 = 81) (xdt tt_X0_begin 40 rfl) ?_
      refine g_getP hC hk0 kclX0 ly1_0 8 (by decide) (rfl : r0 + 0 = r0) rfl q117 (rfl : 81 + 3 = 84) (xdt tt_X0_begin 41 rfl) ?_
      refine g_iload_n hC rfl 1 rfl (rfl : 84 + 1 = 85) (xdt tt_X0_begin 42 rfl) ?_
      refine g_iconst hC (rfl : 85 + 1 = 86) (xdt tt_X0_begin 43 rfl) ?_
      obtain ⟨hi22, h⟩ := ckI_i h
      obtain ⟨S23, hS23, h⟩ := lt1_i h
      refine g_zast hC hk0 ly1_19 hi22 (Or.inl rfl) rfl hS23 (rfl : 86 + 1 = 87) (xdt tt_X0_begin 44 rfl) ?_
      refine g_iinc hC 1 rfl (by decide) (lv' := [(2, vi (x2 + 1)), (0, vr E r0 0)]) rfl (rfl : 87 + 3 = 90) (xdt tt_X0_begin 45 rfl) ?_
      refine g_goto hC (show ((90 : Nat) : Int) + (-16) = ((74 : Nat) : Int) by decide) (xdt tt_X0_begin 46 rfl) ?_
      refine g_sub [1, 0] (lv' := [(0, vr E r0 0), (2, vi (x2 + 1))]) rfl ?_
      exact ih _ _ h
set_option maxRecDepth 100000 in
set_option maxHeartbeats 4000000 in
theorem c_X0_begin_p1_0_2_0 (l : Launch) {E : xE} {S S' : xSt} {r0 : Nat} {r1 : Nat} (hk0 : xkd E r0 = 1) (hk1 : xkd E r1 = 2) (h : f_X0_begin_p1_0_2_0 S r0 r1 = some S') : Met l yX0_begin (xws yX0_begin cX0_begin 3 none) (rmD 3) (YPc E [vr E r0 0, vr E r1 0] S) (YQv E S') 0 0 (xA E) := by
  unfold f_X0_begin_p1_0_2_0 at h
  refine met_v (by decide +kernel) (Nat.le_of_ble_eq_true rfl) (fun K hC hZ hE => ?_)
  have hC : xOK K cX0_begin RX0 3 (rmE 3 0) := hC
  show WG K E 0 [(0, vr E r0 0), (1, vr E r1 0)] [] S
  refine g_aload_n hC rfl 0 rfl (rfl : 0 + 1 = 1) (xdt tt_X0_begin 0 rfl) ?_
  refine g_aload_n hC rfl 1 rfl (rfl : 1 + 1 = 2) (xdt tt_X0_begin 1 rfl) ?_
  obtain ⟨S1, hS1, h⟩ := lt1_i h
  refine g_putV hC hk0 kclX0 ly1_0 0 (by decide) rfl rfl q146 (fun _ => rfl) (fun _ => rfl) (by decide) hS1 (rfl : 2 + 3 = 5) (xdt tt_X0_begin 2 rfl) ?_
  refine g_aload_n hC rfl 1 rfl (rfl : 5 + 1 = 6) (xdt tt_X0_begin 3 rfl) ?_
  refine g_getP hC hk1 kclX5 ly2_0 0 (by decide) (rfl : r1 + 0 = r1) rfl q147 (rfl : 6 + 3 = 9) (xdt tt_X0_begin 4 rfl) ?_
  refine g_iconst hC (rfl : 9 + 1 = 10) (xdt tt_X0_begin 5 rfl) ?_
  refine g_aload_n hC rfl 0 rfl (rfl : 10 + 1 = 11) (xdt tt_X0_begin 6 rfl) ?_
  refine g_getP hC hk0 kclX0 ly1_0 1 (by decide) (rfl : r0 + 0 = r0) rfl q96 (rfl : 11 + 3 = 14) (xdt tt_X0_begin 7 rfl) ?_
  refine g_iconst hC (rfl : 14 + 1 = 15) (xdt tt_X0_begin 8 rfl) ?_
  refine g_bipush hC (by decide) (rfl : 15 + 2 = 17) (xdt tt_X0_begin 9 rfl) ?_
  obtain ⟨S2, hS2, h⟩ := lt1_i h
  refine g_copy hC hk1 hk0 ly2_1 ly1_1 rfl (by decide) (by decide) q148 q82 q83 q84 (Nat.le_of_ble_eq_true rfl) (Nat.le_of_ble_eq_true rfl) hS2 (rfl : 17 + 3 = 20) (xdt tt_X0_begin 10 rfl) ?_
  refine g_aload_n hC rfl 0 rfl (rfl : 20 + 1 = 21) (xdt tt_X0_begin 11 rfl) ?_
  refine g_getP hC hk0 kclX0 ly1_0 2 (by decide) (rfl : r0 + 0 = r0) rfl q98 (rfl : 21 + 3 = 24) (xdt tt_X0_begin 12 rfl) ?_
  refine g_aload_n hC rfl 1 rfl (rfl : 24 + 1 = 25) (xdt tt_X0_begin 13 rfl) ?_
  refine g_getP hC hk1 kclX5 ly2_0 1 (by decide) (rfl : r1 + 0 = r1) rfl q149 (rfl : 25 + 3 = 28) (xdt tt_X0_begin 14 rfl) ?_
  obtain ⟨S4, hc3, h⟩ := bd_i h
  refine g_callVv hC hZ hk0 kclX8 ly1_2 m_X8_copyFrom q162 (Nat.le_of_ble_eq_true rfl) [vr E r1 2] rfl (fun l => c_X8_copyFrom_p1_2_2_2 l hk0 hk1 hc3) rfl (Nat.le_of_ble_eq_true rfl) (rfl : 28 + 3 = 31) (xdt tt_X0_begin 15 rfl) ?_
  refine g_aload_n hC rfl 0 rfl (rfl : 31 + 1 = 32) (xdt tt_X0_begin 16 rfl) ?_
  refine g_getP hC hk0 kclX0 ly1_0 3 (by decide) (rfl : r0 + 0 = r0) rfl q102 (rfl : 32 + 3 = 35) (xdt tt_X0_begin 17 rfl) ?_
  refine g_iconst hC (rfl : 35 + 1 = 36) (xdt tt_X0_begin 18 rfl) ?_
  obtain ⟨S5, hS5, h⟩ := lt1_i h
  refine g_putI hC hk0 kclX6 ly1_5 2 (by decide) rfl rfl rfl q150 hS5 (rfl : 36 + 3 = 39) (xdt tt_X0_begin 19 rfl) ?_
  refine g_aload_n hC rfl 0 rfl (rfl : 39 + 1 = 40) (xdt tt_X0_begin 20 rfl) ?_
  refine g_getP hC hk0 kclX0 ly1_0 4 (by decide) (rfl : r0 + 0 = r0) rfl q106 (rfl : 40 + 3 = 43) (xdt tt_X0_begin 21 rfl) ?_
  refine g_iconst hC (rfl : 43 + 1 = 44) (xdt tt_X0_begin 22 rfl) ?_
  obtain ⟨S6, hS6, h⟩ := lt1_i h
  refine g_putZ hC hk0 kclX7 ly1_8 0 (by decide) rfl rfl rfl q151 (Or.inl rfl) hS6 (rfl : 44 + 3 = 47) (xdt tt_X0_begin 23 rfl) ?_
  refine g_aload_n hC rfl 0 rfl (rfl : 47 + 1 = 48) (xdt tt_X0_begin 24 rfl) ?_
  refine g_getP hC hk0 kclX0 ly1_0 5 (by decide) (rfl : r0 + 0 = r0) rfl q110 (rfl : 48 + 3 = 51) (xdt tt_X0_begin 25 rfl) ?_
  refine g_getP hC hk0 kclX10 ly1_9 0 (by decide) (rfl : r0 + 0 = r0) rfl q152 (rfl : 51 + 3 = 54) (xdt tt_X0_begin 26 rfl) ?_
  refine g_iconst hC (rfl : 54 + 1 = 55) (xdt tt_X0_begin 27 rfl) ?_
  obtain ⟨S8, hc7, h⟩ := bd_i h
  refine g_callSv hC hZ m_J7_fill_53178 q168 (Nat.le_of_ble_eq_true rfl) [vr E r0 10, vi 0] rfl (fun l => c_J7_fill_53178_p1_10 l hk0 hc7) rfl (Nat.le_of_ble_eq_true rfl) (rfl : 55 + 3 = 58) (xdt tt_X0_begin 28 rfl) ?_
  refine g_aload_n hC rfl 0 rfl (rfl : 58 + 1 = 59) (xdt tt_X0_begin 29 rfl) ?_
  refine g_getP hC hk0 kclX0 ly1_0 6 (by decide) (rfl : r0 + 0 = r0) rfl q112 (rfl : 59 + 3 = 62) (xdt tt_X0_begin 30 rfl) ?_
  obtain ⟨S10, hc9, h⟩ := bd_i h
  refine g_callVv hC hZ hk0 kclX4 ly1_11 m_X4_begin q172 (Nat.le_of_ble_eq_true rfl) [] rfl (fun l => c_X4_begin_p1_11 l hk0 hc9) rfl (Nat.le_of_ble_eq_true rfl) (rfl : 62 + 3 = 65) (xdt tt_X0_begin 31 rfl) ?_
  refine g_aload_n hC rfl 0 rfl (rfl : 65 + 1 = 66) (xdt tt_X0_begin 32 rfl) ?_
  refine g_getP hC hk0 kclX0 ly1_0 7 (by decide) (rfl : r0 + 0 = r0) rfl q116 (rfl : 66 + 3 = 69) (xdt tt_X0_begin 33 rfl) ?_
  obtain ⟨S12, hc11, h⟩ := bd_i h
  refine g_callVv hC hZ hk0 kclX9 ly1_14 m_X9_clear q179 (Nat.le_of_ble_eq_true rfl) [] rfl (fun l => c_X9_clear_p1_14 l hk0 hc11) rfl (Nat.le_of_ble_eq_true rfl) (rfl : 69 + 3 = 72) (xdt tt_X0_begin 34 rfl) ?_
  refine g_iconst hC (rfl : 72 + 1 = 73) (xdt tt_X0_begin 35 rfl) ?_
  refine g_istore_n hC rfl (by decide) (lv' := [(2, vi 0), (0, vr E r0 0), (1, vr E r1 0)]) rfl (rfl : 73 + 1 = 74) (xdt tt_X0_begin 36 rfl) ?_
  refine g_sub [1, 0] (lv' := [(0, vr E r0 0), (2, vi 0)]) rfl ?_
  exact k_X0_begin_p1_0_2_0_b74 hC hZ hE hk0 hk1 _ _ _ h
def f_X1_forget_p3_8 (S : xSt) (r0 : Nat) : Option (xSt) :=
  lt1 (wI S r0 8 2 0) fun S1 =>
  some S1
set_option maxRecDepth 100000 in
set_option maxHeartbeats 4000000 in
theorem c_X1_forget_p3_8 (l : Launch) {E : xE} {S S' : xSt} {r0 : Nat} (hk0 : xkd E r0 = 3) (hA0 : xFam E r0) (h : f_X1_forget_p3_8 S r0 = some S') : Met l yX1_forget (xws yX1_forget cX1_forget 1 none) (rmD 1) (YPc E [vr E r0 8] S) (YQv E S') 0 0 (xA E) := by
  unfold f_X1_forget_p3_8 at h
  refine met_v (by decide +kernel) (Nat.le_of_ble_eq_true rfl) (fun K hC hZ hE => ?_)
  have hC : xOK K cX1_forget RX1 1 (rmE 1 0) := hC
  show WG K E 0 [(0, vr E r0 8)] [] S
  refine g_aload_n hC rfl 0 rfl (rfl : 0 + 1 = 1) (xdt tt_X1_forget 0 rfl) ?_
  refine g_iconst hC (rfl : 1 + 1 = 2) (xdt tt_X1_forget 1 rfl) ?_
  obtain ⟨S1, hS1, h⟩ := lt1_i h
  refine g_putI hC hk0 kclX1 ly3_8 2 (by decide) rfl rfl rfl q465 hS1 (rfl : 2 + 3 = 5) (xdt tt_X1_forget 2 rfl) ?_
  cases h
  exact g_vret hC hE (xdt tt_X1_forget 3 rfl)
def f_X11_parse_p3_0 (S : xSt) (r0 : Nat) : Option (Int × xSt) :=
  ckP S r0 0 5 2 0 fun rg1 =>
  bd2 (f_X3_readText_p3_2_3_1_2_0 S r0 r0 (gI S r0 0 1) rg1) fun v4 S3 =>
  lt1 (wI S3 r0 0 1 0) fun S6 =>
  if ¬ wr v4 = 0 then
    (ckP S6 r0 0 4 2 0 fun rg7 =>
    ckP S6 r0 0 5 2 0 fun rg8 =>
    lt1 (wP S6 r0 0 4 (rg8, 0)) fun S9 =>
    lt1 (wP S9 r0 0 5 (rg7, 0)) fun S10 =>
    ckP S10 r0 0 4 2 0 fun rg11 =>
    bd (f_X0_begin_p1_0_2_0 S10 (r0 + 1) rg11) fun S13 =>
    bd (f_X1_forget_p3_8 S13 r0) fun S15 =>
    lt1 (wI S15 r0 0 9 0) fun S16 =>
    ckP S16 r0 0 4 2 0 fun rg17 =>
    some ((gI S16 rg17 0 10), S16))
  else
    (some ((-1), S6))
set_option maxRecDepth 100000 in
set_option maxHeartbeats 4000000 in
theorem c_X11_parse_p3_0 (l : Launch) {E : xE} {S S' : xSt} {r0 : Nat} (hk0 : xkd E r0 = 3) (hA0 : xFam E r0) {v : Int} (h : f_X11_parse_p3_0 S r0 = some (v, S')) : Met l yX11_parse (xws yX11_parse cX11_parse 3 (some .int)) (rmD 11) (YPc E [vr E r0 0] S) (YQi E v S') 0 0 (xA E) := by
  unfold f_X11_parse_p3_0 at h
  refine met_i (by decide +kernel) (Nat.le_of_ble_eq_true rfl) (fun K hC hZ hE => ?_)
  have hC : xOK K cX11_parse RX11 3 (rmE 11 0) := hC
  show WG K E 0 [(0, vr E r0 0)] [] S
  refine g_aload_n hC rfl 0 rfl (rfl : 0 + 1 = 1) (xdt tt_X11_parse 0 rfl) ?_
  refine g_getP hC hk0 kclX11 ly3_0 2 (by decide) (rfl : r0 + 0 = r0) rfl q18 (rfl : 1 + 3 = 4) (xdt tt_X11_parse 1 rfl) ?_
  refine g_aload_n hC rfl 0 rfl (rfl : 4 + 1 = 5) (xdt tt_X11_parse 2 rfl) ?_
  refine g_getP hC hk0 kclX11 ly3_0 0 (by decide) (rfl : r0 + 0 = r0) rfl q14 (rfl : 5 + 3 = 8) (xdt tt_X11_parse 3 rfl) ?_
  refine g_aload_n hC rfl 0 rfl (rfl : 8 + 1 = 9) (xdt tt_X11_parse 4 rfl) ?_
  refine g_getI hC hk0 kclX11 ly3_0 1 (by decide) rfl q250 (rfl : 9 + 3 = 12) (xdt tt_X11_parse 5 rfl) ?_
  refine g_aload_n hC rfl 0 rfl (rfl : 12 + 1 = 13) (xdt tt_X11_parse 6 rfl) ?_
  obtain ⟨rg1, hrg1, grg1, h⟩ := ckP_i h
  refine g_getV hC hk0 kclX11 ly3_0 5 (by decide) rfl hrg1 grg1 (by decide) q27 (rfl : 13 + 3 = 16) (xdt tt_X11_parse 7 rfl) (fun krg1 => ?_)
  obtain ⟨v4, S3, hc2, h⟩ := bd2_i h
  refine g_callVz hC hZ hk0 kclX3 ly3_2 m_X3_readText q278 (Nat.le_of_ble_eq_true rfl) [vr E r0 1, vi (gI S r0 0 1), vr E rg1 0] rfl (fun l => c_X3_readText_p3_2_3_1_2_0 l hk0 hA0 hk0 hA0 krg1 hc2) rfl (Nat.le_of_ble_eq_true rfl) (rfl : 16 + 3 = 19) (xdt tt_X11_parse 8 rfl) (fun hb5 => ?_)
  refine g_istore_n hC rfl (by decide) (lv' := [(1, vi v4), (0, vr E r0 0)]) rfl (rfl : 19 + 1 = 20) (xdt tt_X11_parse 9 rfl) ?_
  refine g_aload_n hC rfl 1 rfl (rfl : 20 + 1 = 21) (xdt tt_X11_parse 10 rfl) ?_
  refine g_iconst hC (rfl : 21 + 1 = 22) (xdt tt_X11_parse 11 rfl) ?_
  obtain ⟨S6, hS6, h⟩ := lt1_i h
  refine g_putI hC hk0 kclX11 ly3_0 1 (by decide) rfl rfl rfl q250 hS6 (rfl : 22 + 3 = 25) (xdt tt_X11_parse 12 rfl) ?_
  refine g_iload_n hC rfl 0 rfl (rfl : 25 + 1 = 26) (xdt tt_X11_parse 13 rfl) ?_
  refine g_if_ne hC (show ((26 : Nat) : Int) + 5 = ((31 : Nat) : Int) by decide) (rfl : 26 + 3 = 29) (xdt tt_X11_parse 14 rfl) (fun hc18 => ?_) (fun hc18 => ?_)
  · replace h := (if_pos hc18).symm.trans h
    refine g_aload_n hC rfl 1 rfl (rfl : 31 + 1 = 32) (xdt tt_X11_parse 17 rfl) ?_
    obtain ⟨rg7, hrg7, grg7, h⟩ := ckP_i h
    refine g_getV hC hk0 kclX11 ly3_0 4 (by decide) rfl hrg7 grg7 (by decide) q26 (rfl : 32 + 3 = 35) (xdt tt_X11_parse 18 rfl) (fun krg7 => ?_)
    refine g_astore_n hC rfl (by decide) (lv' := [(2, vr E rg7 0), (1, vi v4), (0, vr E r0 0)]) rfl (rfl : 35 + 1 = 36) (xdt tt_X11_parse 19 rfl) ?_
    refine g_aload_n hC rfl 2 rfl (rfl : 36 + 1 = 37) (xdt tt_X11_parse 20 rfl) ?_
    refine g_aload_n hC rfl 2 rfl (rfl : 37 + 1 = 38) (xdt tt_X11_parse 21 rfl) ?_
    obtain ⟨rg8, hrg8, grg8, h⟩ := ckP_i h
    refine g_getV hC hk0 kclX11 ly3_0 5 (by decide) rfl hrg8 grg8 (by decide) q27 (rfl : 38 + 3 = 41) (xdt tt_X11_parse 22 rfl) (fun krg8 => ?_)
    obtain ⟨S9, hS9, h⟩ := lt1_i h
    refine g_putV hC hk0 kclX11 ly3_0 4 (by decide) rfl rfl q26 (fun _ => rfl) (fun _ => rfl) (by decide) hS9 (rfl : 41 + 3 = 44) (xdt tt_X11_parse 23 rfl) ?_
    refine g_aload_n hC rfl 2 rfl (rfl : 44 + 1 = 45) (xdt tt_X11_parse 24 rfl) ?_
    refine g_aload_n hC rfl 0 rfl (rfl : 45 + 1 = 46) (xdt tt_X11_parse 25 rfl) ?_
    obtain ⟨S10, hS10, h⟩ := lt1_i h
    refine g_putV hC hk0 kclX11 ly3_0 5 (by decide) rfl rfl q27 (fun _ => rfl) (fun _ => rfl) (by decide) hS10 (rfl : 46 + 3 = 49) (xdt tt_X11_parse 26 rfl) ?_
    refine g_aload_n hC rfl 2 rfl (rfl : 49 + 1 = 50) (xdt tt_X11_parse 27 rfl) ?_
    refine g_getP hC hk0 kclX11 ly3_0 6 (by decide) (rfl : r0 + 1 = (r0 + 1)) rfl q31 (rfl : 50 + 3 = 53) (xdt tt_X11_parse 28 rfl) ?_
    refine g_aload_n hC rfl 2 rfl (rfl : 53 + 1 = 54) (xdt tt_X11_parse 29 rfl) ?_
    obtain ⟨rg11, hrg11, grg11, h⟩ := ckP_i h
    refine g_getV hC hk0 kclX11 ly3_0 4 (by decide) rfl hrg11 grg11 (by decide) q26 (rfl : 54 + 3 = 57) (xdt tt_X11_parse 30 rfl) (fun krg11 => ?_)
    obtain ⟨S13, hc12, h⟩ := bd_i h
    refine g_callVv hC hZ (hA0 1 (by decide) (by decide)) kclX0 ly1_0 m_X0_begin q460 (Nat.le_of_ble_eq_true rfl) [vr E rg11 0] rfl (fun l => c_X0_begin_p1_0_2_0 l (hA0 1 (by decide) (by decide)) krg11 hc12) rfl (Nat.le_of_ble_eq_true rfl) (rfl : 57 + 3 = 60) (xdt tt_X11_parse 31 rfl) ?_
    refine g_aload_n hC rfl 2 rfl (rfl : 60 + 1 = 61) (xdt tt_X11_parse 32 rfl) ?_
    refine g_getP hC hk0 kclX11 ly3_0 10 (by decide) (rfl : r0 + 0 = r0) rfl q37 (rfl : 61 + 3 = 64) (xdt tt_X11_parse 33 rfl) ?_
    obtain ⟨S15, hc14, h⟩ := bd_i h
    refine g_callVv hC hZ hk0 kclX1 ly3_8 m_X1_forget q461 (Nat.le_of_ble_eq_true rfl) [] rfl (fun l => c_X1_forget_p3_8 l hk0 hA0 hc14) rfl (Nat.le_of_ble_eq_true rfl) (rfl : 64 + 3 = 67) (xdt tt_X11_parse 34 rfl) ?_
    refine g_aload_n hC rfl 2 rfl (rfl : 67 + 1 = 68) (xdt tt_X11_parse 35 rfl) ?_
    refine g_iconst hC (rfl : 68 + 1 = 69) (xdt tt_X11_parse 36 rfl) ?_
    obtain ⟨S16, hS16, h⟩ := lt1_i h
    refine g_putZ hC hk0 kclX11 ly3_0 9 (by decide) rfl rfl rfl q276 (Or.inl rfl) hS16 (rfl : 69 + 3 = 72) (xdt tt_X11_parse 37 rfl) ?_
    refine g_aload_n hC rfl 2 rfl (rfl : 72 + 1 = 73) (xdt tt_X11_parse 38 rfl) ?_
    obtain ⟨rg17, hrg17, grg17, h⟩ := ckP_i h
    refine g_getV hC hk0 kclX11 ly3_0 4 (by decide) rfl hrg17 grg17 (by decide) q26 (rfl : 73 + 3 = 76) (xdt tt_X11_parse 39 rfl) (fun krg17 => ?_)
    refine g_getI hC krg17 kclX5 ly2_0 10 (by decide) rfl q277 (rfl : 76 + 3 = 79) (xdt tt_X11_parse 40 rfl) ?_
    cases h
    exact g_iret hC hE (xdt tt_X11_parse 41 rfl)
  · replace h := (if_neg hc18).symm.trans h
    refine g_iconst hC (rfl : 29 + 1 = 30) (xdt tt_X11_parse 15 rfl) ?_
    cases h
    exact g_iret hC hE (xdt tt_X11_parse 16 rfl)
def f_X11_errorCode_p3_0 (S : xSt) (r0 : Nat) : Option (Int × xSt) :=
  some ((gI S r0 2 11), S)
set_option maxRecDepth 100000 in
set_option maxHeartbeats 4000000 in
theorem c_X11_errorCode_p3_0 (l : Launch) {E : xE} {S S' : xSt} {r0 : Nat} (hk0 : xkd E r0 = 3) (hA0 : xFam E r0) {v : Int} (h : f_X11_errorCode_p3_0 S r0 = some (v, S')) : Met l yX11_errorCode (xws yX11_errorCode cX11_errorCode 1 (some .int)) (rmD 1) (YPc E [vr E r0 0] S) (YQi E v S') 0 0 (xA E) := by
  unfold f_X11_errorCode_p3_0 at h
  refine met_i (by decide +kernel) (Nat.le_of_ble_eq_true rfl) (fun K hC hZ hE => ?_)
  have hC : xOK K cX11_errorCode RX11 1 (rmE 1 0) := hC
  show WG K E 0 [(0, vr E r0 0)] [] S
  refine g_aload_n hC rfl 0 rfl (rfl : 0 + 1 = 1) (xdt tt_X11_errorCode 0 rfl) ?_
  refine g_getP hC hk0 kclX11 ly3_0 2 (by decide) (rfl : r0 + 0 = r0) rfl q18 (rfl : 1 + 3 = 4) (xdt tt_X11_errorCode 1 rfl) ?_
  refine g_getI hC hk0 kclX3 ly3_2 11 (by decide) rfl q571 (rfl : 4 + 3 = 7) (xdt tt_X11_errorCode 2 rfl) ?_
  cases h
  exact g_iret hC hE (xdt tt_X11_errorCode 3 rfl)
def f_X11_errorOffset_p3_0 (S : xSt) (r0 : Nat) : Option (Int × xSt) :=
  some ((gI S r0 2 12), S)
set_option maxRecDepth 100000 in
set_option maxHeartbeats 4000000 in
theorem c_X11_errorOffset_p3_0 (l : Launch) {E : xE} {S S' : xSt} {r0 : Nat} (hk0 : xkd E r0 = 3) (hA0 : xFam E r0) {v : Int} (h : f_X11_errorOffset_p3_0 S r0 = some (v, S')) : Met l yX11_errorOffset (xws yX11_errorOffset cX11_errorOffset 1 (some .int)) (rmD 1) (YPc E [vr E r0 0] S) (YQi E v S') 0 0 (xA E) := by
  unfold f_X11_errorOffset_p3_0 at h
  refine met_i (by decide +kernel) (Nat.le_of_ble_eq_true rfl) (fun K hC hZ hE => ?_)
  have hC : xOK K cX11_errorOffset RX11 1 (rmE 1 0) := hC
  show WG K E 0 [(0, vr E r0 0)] [] S
  refine g_aload_n hC rfl 0 rfl (rfl : 0 + 1 = 1) (xdt tt_X11_errorOffset 0 rfl) ?_
  refine g_getP hC hk0 kclX11 ly3_0 2 (by decide) (rfl : r0 + 0 = r0) rfl q18 (rfl : 1 + 3 = 4) (xdt tt_X11_errorOffset 1 rfl) ?_
  refine g_getI hC hk0 kclX3 ly3_2 12 (by decide) rfl q580 (rfl : 4 + 3 = 7) (xdt tt_X11_errorOffset 2 rfl) ?_
  cases h
  exact g_iret hC hE (xdt tt_X11_errorOffset 3 rfl)
def f_X5_startOf_p2_0 (S : xSt) (r0 : Nat) (a1 : Int) : Option (Int × xSt) :=
  if wr a1 < 0 then
    (some (0, S))
  else
    (if wr (gI S r0 0 10) < wr a1 then
      (some (0, S))
    else
      (ckI a1 61 <|
      some ((gI S r0 9 (wr a1).toNat), S)))
set_option maxRecDepth 100000 in
set_option maxHeartbeats 4000000 in
theorem c_X5_startOf_p2_0 (l : Launch) {E : xE} {S S' : xSt} {r0 : Nat} {a1 : Int} (hk0 : xkd E r0 = 2) {v : Int} (h : f_X5_startOf_p2_0 S r0 a1 = some (v, S')) : Met l yX5_startOf (xws yX5_startOf cX5_startOf 2 (some .int)) (rmD 1) (YPc E [vr E r0 0, vi a1] S) (YQi E v S') 0 0 (xA E) := by
  unfold f_X5_startOf_p2_0 at h
  refine met_i (by decide +kernel) (Nat.le_of_ble_eq_true rfl) (fun K hC hZ hE => ?_)
  have hC : xOK K cX5_startOf RX5 2 (rmE 1 0) := hC
  show WG K E 0 [(0, vr E r0 0), (1, vi a1)] [] S
  refine g_iload_n hC rfl 1 rfl (rfl : 0 + 1 = 1) (xdt tt_X5_startOf 0 rfl) ?_
  refine g_if_lt hC (show ((1 : Nat) : Int) + 20 = ((21 : Nat) : Int) by decide) (rfl : 1 + 3 = 4) (xdt tt_X5_startOf 1 rfl) (fun hc3 => ?_) (fun hc3 => ?_)
  · replace h := (if_pos hc3).symm.trans h
    refine g_iconst hC (rfl : 21 + 1 = 22) (xdt tt_X5_startOf 11 rfl) ?_
    cases h
    exact g_iret hC hE (xdt tt_X5_startOf 12 rfl)
  · replace h := (if_neg hc3).symm.trans h
    refine g_iload_n hC rfl 1 rfl (rfl : 4 + 1 = 5) (xdt tt_X5_startOf 2 rfl) ?_
    refine g_aload_n hC rfl 0 rfl (rfl : 5 + 1 = 6) (xdt tt_X5_startOf 3 rfl) ?_
    refine g_getI hC hk0 kclX5 ly2_0 10 (by decide) rfl q86 (rfl : 6 + 3 = 9) (xdt tt_X5_startOf 4 rfl) ?_
    refine g_icmp_gt hC (show ((9 : Nat) : Int) + 12 = ((21 : Nat) : Int) by decide) (rfl : 9 + 3 = 12) (xdt tt_X5_startOf 5 rfl) (fun hc2 => ?_) (fun hc2 => ?_)
    · replace h := (if_pos hc2).symm.trans h
      refine g_iconst hC (rfl : 21 + 1 = 22) (xdt tt_X5_startOf 11 rfl) ?_
      cases h
      exact g_iret hC hE (xdt tt_X5_startOf 12 rfl)
    · replace h := (if_neg hc2).symm.trans h
      refine g_aload_n hC rfl 0 rfl (rfl : 12 + 1 = 13) (xdt tt_X5_startOf 6 rfl) ?_
      refine g_getP hC hk0 kclX5 ly2_0 6 (by decide) (rfl : r0 + 0 = r0) rfl q68 (rfl : 13 + 3 = 16) (xdt tt_X5_startOf 7 rfl) ?_
      refine g_iload_n hC rfl 1 rfl (rfl : 16 + 1 = 17) (xdt tt_X5_startOf 8 rfl) ?_
      obtain ⟨hi1, h⟩ := ckI_i h
      refine g_iald hC hk0 ly2_9 hi1 (rfl : 17 + 1 = 18) (xdt tt_X5_startOf 9 rfl) (k0 := (wr a1).toNat) rfl ?_
      refine g_goto hC (show ((18 : Nat) : Int) + 4 = ((22 : Nat) : Int) by decide) (xdt tt_X5_startOf 10 rfl) ?_
      cases h
      exact g_iret hC hE (xdt tt_X5_startOf 12 rfl)
def f_X5_bytes_p2_0 (S : xSt) (r0 : Nat) : Option (Int × xSt) :=
  bd2 (f_X5_startOf_p2_0 S r0 (gI S r0 0 10)) fun v3 S2 =>
  some (v3, S2)
set_option maxRecDepth 100000 in
set_option maxHeartbeats 4000000 in
theorem c_X5_bytes_p2_0 (l : Launch) {E : xE} {S S' : xSt} {r0 : Nat} (hk0 : xkd E r0 = 2) {v : Int} (h : f_X5_bytes_p2_0 S r0 = some (v, S')) : Met l yX5_bytes (xws yX5_bytes cX5_bytes 1 (some .int)) (rmD 2) (YPc E [vr E r0 0] S) (YQi E v S') 0 0 (xA E) := by
  unfold f_X5_bytes_p2_0 at h
  refine met_i (by decide +kernel) (Nat.le_of_ble_eq_true rfl) (fun K hC hZ hE => ?_)
  have hC : xOK K cX5_bytes RX5 1 (rmE 2 0) := hC
  show WG K E 0 [(0, vr E r0 0)] [] S
  refine g_aload_n hC rfl 0 rfl (rfl : 0 + 1 = 1) (xdt tt_X5_bytes 0 rfl) ?_
  refine g_aload_n hC rfl 0 rfl (rfl : 1 + 1 = 2) (xdt tt_X5_bytes 1 rfl) ?_
  refine g_getI hC hk0 kclX5 ly2_0 10 (by decide) rfl q86 (rfl : 2 + 3 = 5) (xdt tt_X5_bytes 2 rfl) ?_
  obtain ⟨v3, S2, hc1, h⟩ := bd2_i h
  refine g_callVi hC hZ hk0 kclX5 ly2_0 m_X5_startOf q606 (Nat.le_of_ble_eq_true rfl) [vi (gI S r0 0 10)] rfl (fun l => c_X5_startOf_p2_0 l hk0 hc1) rfl (Nat.le_of_ble_eq_true rfl) (rfl : 5 + 3 = 8) (xdt tt_X5_bytes 3 rfl) ?_
  cases h
  exact g_iret hC hE (xdt tt_X5_bytes 4 rfl)
def f_X11_count_p3_0_b51 (r0 : Nat) (S : xSt) (x1 : Int) : Option (Int × xSt) :=
  if wr x1 < 0 ∨ 24 < wr x1 then
    (some ((-1), S))
  else
  if wr x1 = 0 then
    (ckP S r0 0 4 2 0 fun rg2 =>
    some ((gI S rg2 0 10), S))
  else
  if wr x1 = 1 then
    (ckP S r0 0 4 2 0 fun rg4 =>
    bd2 (f_X5_bytes_p2_0 S rg4) fun v7 S6 =>
    some (v7, S6))
  else
  if wr x1 = 2 then
    (some ((-1), S))
  else
  if wr x1 = 3 then
    (some ((-1), S))
  else
  if wr x1 = 4 then
    (some ((-1), S))
  else
  if wr x1 = 5 then
    (some ((-1), S))
  else
  if wr x1 = 6 then
    (some ((-1), S))
  else
  if wr x1 = 7 then
    (some ((-1), S))
  else
  if wr x1 = 8 then
    (some ((gI S (r0 + 1) 2 2), S))
  else
  if wr x1 = 9 then
    (some ((-1), S))
  else
  if wr x1 = 10 then
    (some ((-1), S))
  else
  if wr x1 = 11 then
    (some ((-1), S))
  else
  if wr x1 = 12 then
    (some ((-1), S))
  else
  if wr x1 = 13 then
    (some ((-1), S))
  else
  if wr x1 = 14 then
    (some ((-1), S))
  else
  if wr x1 = 15 then
    (some ((-1), S))
  else
  if wr x1 = 16 then
    (some ((-1), S))
  else
  if wr x1 = 17 then
    (some ((-1), S))
  else
  if wr x1 = 18 then
    (some ((gI S (r0 + 1) 0 14), S))
  else
  if wr x1 = 19 then
    (some ((gI S (r0 + 1) 5 2), S))
  else
  if wr x1 = 20 then
    (some ((gI S (r0 + 1) 0 10), S))
  else
  if wr x1 = 21 then
    (some ((gI S (r0 + 1) 0 15), S))
  else
  if wr x1 = 22 then
    (some ((gI S (r0 + 1) 0 16), S))
  else
  if wr x1 = 23 then
    (some ((gI S (r0 + 1) 0 17), S))
  else
  if wr x1 = 24 then
    (some ((gI S r0 8 2), S))
  else
  none
def f_X11_count_p3_0_b23 (r0 : Nat) (S : xSt) (x1 : Int) : Option (Int × xSt) :=
  if wr x1 < wr 9 then
    (f_X11_count_p3_0_b51 r0 S x1)
  else
    (if wr 18 ≤ wr x1 then
      (f_X11_count_p3_0_b51 r0 S x1)
    else
      (ckI (x1 - 9) 9 <|
      some ((gI S (r0 + 1) 15 (wr (x1 - 9)).toNat), S)))
def f_X11_count_p3_0 (S : xSt) (r0 : Nat) (a1 : Int) : Option (Int × xSt) :=
  if wr a1 < wr 2 then
    (f_X11_count_p3_0_b23 r0 S a1)
  else
    (if wr 8 ≤ wr a1 then
      (f_X11_count_p3_0_b23 r0 S a1)
    else
      (ckI (a1 - 2) 6 <|
      some ((gI S (r0 + 1) 1 (wr (a1 - 2)).toNat), S)))
set_option maxRecDepth 100000 in
set_option maxHeartbeats 4000000 in
theorem k_X11_count_p3_0_b51 {K : xCtx} {E : xE} {b : Nat} (hC : xOK K cX11_count RX11 2 (rmE 3 b)) (hZ : xZ K) {v : Int} {S' : xSt} (hE : xEnd K E (some .int) (YQi E v S')) {r0 : Nat} (hk0 : xkd E r0 = 3) (hA0 : xFam E r0) : ∀ (S : xSt) (x1 : Int), f_X11_count_p3_0_b51 r0 S x1 = some (v, S') → WG K E 51 [(0, vr E r0 0), (1, vi x1)] [] S := by
  intro S x1 h
  unfold f_X11_count_p3_0_b51 at h
  refine g_iload_n hC rfl 1 rfl (rfl : 51 + 1 = 52) (xdt tt_X11_count 29 rfl) ?_
  by_cases hs1 : wr x1 < 0 ∨ 24 < wr x1
  · replace h := (if_pos hs1).symm.trans h
    refine g_tabOut hC (xdt tt_X11_count 30 rfl) hs1 (show ((52 : Nat) : Int) + 202 = ((254 : Nat) : Int) by decide) ?_
    refine g_iconst hC (rfl : 254 + 1 = 255) (xdt tt_X11_count 73 rfl) ?_
    cases h
    exact g_iret hC hE (xdt tt_X11_count 74 rfl)
  · replace h := (if_neg hs1).symm.trans h
    by_cases hv3 : wr x1 = 0
    · replace h := (if_pos hv3).symm.trans h
      refine g_tabIn hC (xdt tt_X11_count 30 rfl) (fun z => hs1 (Or.inl z)) (fun z => hs1 (Or.inr z)) (off := 116) (by rw [hv3]; rfl) (show ((52 : Nat) : Int) + 116 = ((168 : Nat) : Int) by decide) ?_
      refine g_aload_n hC rfl 0 rfl (rfl : 168 + 1 = 169) (xdt tt_X11_count 31 rfl) ?_
      obtain ⟨rg2, hrg2, grg2, h⟩ := ckP_i h
      refine g_getV hC hk0 kclX11 ly3_0 4 (by decide) rfl hrg2 grg2 (by decide) q26 (rfl : 169 + 3 = 172) (xdt tt_X11_count 32 rfl) (fun krg2 => ?_)
      refine g_getI hC krg2 kclX5 ly2_0 10 (by decide) rfl q277 (rfl : 172 + 3 = 175) (xdt tt_X11_count 33 rfl) ?_
      cases h
      exact g_iret hC hE (xdt tt_X11_count 34 rfl)
    · replace h := (if_neg hv3).symm.trans h
      by_cases hv8 : wr x1 = 1
      · replace h := (if_pos hv8).symm.trans h
        refine g_tabIn hC (xdt tt_X11_count 30 rfl) (fun z => hs1 (Or.inl z)) (fun z => hs1 (Or.inr z)) (off := 124) (by rw [hv8]; rfl) (show ((52 : Nat) : Int) + 124 = ((176 : Nat) : Int) by decide) ?_
        refine g_aload_n hC rfl 0 rfl (rfl : 176 + 1 = 177) (xdt tt_X11_count 35 rfl) ?_
        obtain ⟨rg4, hrg4, grg4, h⟩ := ckP_i h
        refine g_getV hC hk0 kclX11 ly3_0 4 (by decide) rfl hrg4 grg4 (by decide) q26 (rfl : 177 + 3 = 180) (xdt tt_X11_count 36 rfl) (fun krg4 => ?_)
        obtain ⟨v7, S6, hc5, h⟩ := bd2_i h
        refine g_callVi hC hZ krg4 kclX5 ly2_0 m_X5_bytes q602 (Nat.le_of_ble_eq_true rfl) [] rfl (fun l => c_X5_bytes_p2_0 l krg4 hc5) rfl (Nat.le_of_ble_eq_true rfl) (rfl : 180 + 3 = 183) (xdt tt_X11_count 37 rfl) ?_
        cases h
        exact g_iret hC hE (xdt tt_X11_count 38 rfl)
      · replace h := (if_neg hv8).symm.trans h
        by_cases hv9 : wr x1 = 2
        · replace h := (if_pos hv9).symm.trans h
          refine g_tabIn hC (xdt tt_X11_count 30 rfl) (fun z => hs1 (Or.inl z)) (fun z => hs1 (Or.inr z)) (off := 202) (by rw [hv9]; rfl) (show ((52 : Nat) : Int) + 202 = ((254 : Nat) : Int) by decide) ?_
          refine g_iconst hC (rfl : 254 + 1 = 255) (xdt tt_X11_count 73 rfl) ?_
          cases h
          exact g_iret hC hE (xdt tt_X11_count 74 rfl)
        · replace h := (if_neg hv9).symm.trans h
          by_cases hv10 : wr x1 = 3
          · replace h := (if_pos hv10).symm.trans h
            refine g_tabIn hC (xdt tt_X11_count 30 rfl) (fun z => hs1 (Or.inl z)) (fun z => hs1 (Or.inr z)) (off := 202) (by rw [hv10]; rfl) (show ((52 : Nat) : Int) + 202 = ((254 : Nat) : Int) by decide) ?_
            refine g_iconst hC (rfl : 254 + 1 = 255) (xdt tt_X11_count 73 rfl) ?_
            cases h
            exact g_iret hC hE (xdt tt_X11_count 74 rfl)
          · replace h := (if_neg hv10).symm.trans h
            by_cases hv11 : wr x1 = 4
            · replace h := (if_pos hv11).symm.trans h
              refine g_tabIn hC (xdt tt_X11_count 30 rfl) (fun z => hs1 (Or.inl z)) (fun z => hs1 (Or.inr z)) (off := 202) (by rw [hv11]; rfl) (show ((52 : Nat) : Int) + 202 = ((254 : Nat) : Int) by decide) ?_
              refine g_iconst hC (rfl : 254 + 1 = 255) (xdt tt_X11_count 73 rfl) ?_
              cases h
              exact g_iret hC hE (xdt tt_X11_count 74 rfl)
            · replace h := (if_neg hv11).symm.trans h
              by_cases hv12 : wr x1 = 5
              · replace h := (if_pos hv12).symm.trans h
                refine g_tabIn hC (xdt tt_X11_count 30 rfl) (fun z => hs1 (Or.inl z)) (fun z => hs1 (Or.inr z)) (off := 202) (by rw [hv12]; rfl) (show ((52 : Nat) : Int) + 202 = ((254 : Nat) : Int) by decide) ?_
                refine g_iconst hC (rfl : 254 + 1 = 255) (xdt tt_X11_count 73 rfl) ?_
                cases h
                exact g_iret hC hE (xdt tt_X11_count 74 rfl)
              · replace h := (if_neg hv12).symm.trans h
                by_cases hv13 : wr x1 = 6
                · replace h := (if_pos hv13).symm.trans h
                  refine g_tabIn hC (xdt tt_X11_count 30 rfl) (fun z => hs1 (Or.inl z)) (fun z => hs1 (Or.inr z)) (off := 202) (by rw [hv13]; rfl) (show ((52 : Nat) : Int) + 202 = ((254 : Nat) : Int) by decide) ?_
                  refine g_iconst hC (rfl : 254 + 1 = 255) (xdt tt_X11_count 73 rfl) ?_
                  cases h
                  exact g_iret hC hE (xdt tt_X11_count 74 rfl)
                · replace h := (if_neg hv13).symm.trans h
                  by_cases hv14 : wr x1 = 7
                  · replace h := (if_pos hv14).symm.trans h
                    refine g_tabIn hC (xdt tt_X11_count 30 rfl) (fun z => hs1 (Or.inl z)) (fun z => hs1 (Or.inr z)) (off := 202) (by rw [hv14]; rfl) (show ((52 : Nat) : Int) + 202 = ((254 : Nat) : Int) by decide) ?_
                    refine g_iconst hC (rfl : 254 + 1 = 255) (xdt tt_X11_count 73 rfl) ?_
                    cases h
                    exact g_iret hC hE (xdt tt_X11_count 74 rfl)
                  · replace h := (if_neg hv14).symm.trans h
                    by_cases hv15 : wr x1 = 8
                    · replace h := (if_pos hv15).symm.trans h
                      refine g_tabIn hC (xdt tt_X11_count 30 rfl) (fun z => hs1 (Or.inl z)) (fun z => hs1 (Or.inr z)) (off := 132) (by rw [hv15]; rfl) (show ((52 : Nat) : Int) + 132 = ((184 : Nat) : Int) by decide) ?_
                      refine g_aload_n hC rfl 0 rfl (rfl : 184 + 1 = 185) (xdt tt_X11_count 39 rfl) ?_
                      refine g_getP hC hk0 kclX11 ly3_0 6 (by decide) (rfl : r0 + 1 = (r0 + 1)) rfl q31 (rfl : 185 + 3 = 188) (xdt tt_X11_count 40 rfl) ?_
                      refine g_getP hC (hA0 1 (by decide) (by decide)) kclX0 ly1_0 2 (by decide) (rfl : (r0 + 1) + 0 = (r0 + 1)) rfl q592 (rfl : 188 + 3 = 191) (xdt tt_X11_count 41 rfl) ?_
                      refine g_getI hC (hA0 1 (by decide) (by decide)) kclX8 ly1_2 2 (by decide) rfl q593 (rfl : 191 + 3 = 194) (xdt tt_X11_count 42 rfl) ?_
                      cases h
                      exact g_iret hC hE (xdt tt_X11_count 43 rfl)
                    · replace h := (if_neg hv15).symm.trans h
                      by_cases hv16 : wr x1 = 9
                      · replace h := (if_pos hv16).symm.trans h
                        refine g_tabIn hC (xdt tt_X11_count 30 rfl) (fun z => hs1 (Or.inl z)) (fun z => hs1 (Or.inr z)) (off := 202) (by rw [hv16]; rfl) (show ((52 : Nat) : Int) + 202 = ((254 : Nat) : Int) by decide) ?_
                        refine g_iconst hC (rfl : 254 + 1 = 255) (xdt tt_X11_count 73 rfl) ?_
                        cases h
                        exact g_iret hC hE (xdt tt_X11_count 74 rfl)
                      · replace h := (if_neg hv16).symm.trans h
                        by_cases hv17 : wr x1 = 10
                        · replace h := (if_pos hv17).symm.trans h
                          refine g_tabIn hC (xdt tt_X11_count 30 rfl) (fun z => hs1 (Or.inl z)) (fun z => hs1 (Or.inr z)) (off := 202) (by rw [hv17]; rfl) (show ((52 : Nat) : Int) + 202 = ((254 : Nat) : Int) by decide) ?_
                          refine g_iconst hC (rfl : 254 + 1 = 255) (xdt tt_X11_count 73 rfl) ?_
                          cases h
                          exact g_iret hC hE (xdt tt_X11_count 74 rfl)
                        · replace h := (if_neg hv17).symm.trans h
                          by_cases hv18 : wr x1 = 11
                          · replace h := (if_pos hv18).symm.trans h
                            refine g_tabIn hC (xdt tt_X11_count 30 rfl) (fun z => hs1 (Or.inl z)) (fun z => hs1 (Or.inr z)) (off := 202) (by rw [hv18]; rfl) (show ((52 : Nat) : Int) + 202 = ((254 : Nat) : Int) by decide) ?_
                            refine g_iconst hC (rfl : 254 + 1 = 255) (xdt tt_X11_count 73 rfl) ?_
                            cases h
                            exact g_iret hC hE (xdt tt_X11_count 74 rfl)
                          · replace h := (if_neg hv18).symm.trans h
                            by_cases hv19 : wr x1 = 12
                            · replace h := (if_pos hv19).symm.trans h
                              refine g_tabIn hC (xdt tt_X11_count 30 rfl) (fun z => hs1 (Or.inl z)) (fun z => hs1 (Or.inr z)) (off := 202) (by rw [hv19]; rfl) (show ((52 : Nat) : Int) + 202 = ((254 : Nat) : Int) by decide) ?_
                              refine g_iconst hC (rfl : 254 + 1 = 255) (xdt tt_X11_count 73 rfl) ?_
                              cases h
                              exact g_iret hC hE (xdt tt_X11_count 74 rfl)
                            · replace h := (if_neg hv19).symm.trans h
                              by_cases hv20 : wr x1 = 13
                              · replace h := (if_pos hv20).symm.trans h
                                refine g_tabIn hC (xdt tt_X11_count 30 rfl) (fun z => hs1 (Or.inl z)) (fun z => hs1 (Or.inr z)) (off := 202) (by rw [hv20]; rfl) (show ((52 : Nat) : Int) + 202 = ((254 : Nat) : Int) by decide) ?_
                                refine g_iconst hC (rfl : 254 + 1 = 255) (xdt tt_X11_count 73 rfl) ?_
                                cases h
                                exact g_iret hC hE (xdt tt_X11_count 74 rfl)
                              · replace h := (if_neg hv20).symm.trans h
                                by_cases hv21 : wr x1 = 14
                                · replace h := (if_pos hv21).symm.trans h
                                  refine g_tabIn hC (xdt tt_X11_count 30 rfl) (fun z => hs1 (Or.inl z)) (fun z => hs1 (Or.inr z)) (off := 202) (by rw [hv21]; rfl) (show ((52 : Nat) : Int) + 202 = ((254 : Nat) : Int) by decide) ?_
                                  refine g_iconst hC (rfl : 254 + 1 = 255) (xdt tt_X11_count 73 rfl) ?_
                                  cases h
                                  exact g_iret hC hE (xdt tt_X11_count 74 rfl)
                                · replace h := (if_neg hv21).symm.trans h
                                  by_cases hv22 : wr x1 = 15
                                  · replace h := (if_pos hv22).symm.trans h
                                    refine g_tabIn hC (xdt tt_X11_count 30 rfl) (fun z => hs1 (Or.inl z)) (fun z => hs1 (Or.inr z)) (off := 202) (by rw [hv22]; rfl) (show ((52 : Nat) : Int) + 202 = ((254 : Nat) : Int) by decide) ?_
                                    refine g_iconst hC (rfl : 254 + 1 = 255) (xdt tt_X11_count 73 rfl) ?_
                                    cases h
                                    exact g_iret hC hE (xdt tt_X11_count 74 rfl)
                                  · replace h := (if_neg hv22).symm.trans h
                                    by_cases hv23 : wr x1 = 16
                                    · replace h := (if_pos hv23).symm.trans h
                                      refine g_tabIn hC (xdt tt_X11_count 30 rfl) (fun z => hs1 (Or.inl z)) (fun z => hs1 (Or.inr z)) (off := 202) (by rw [hv23]; rfl) (show ((52 : Nat) : Int) + 202 = ((254 : Nat) : Int) by decide) ?_
                                      refine g_iconst hC (rfl : 254 + 1 = 255) (xdt tt_X11_count 73 rfl) ?_
                                      cases h
                                      exact g_iret hC hE (xdt tt_X11_count 74 rfl)
                                    · replace h := (if_neg hv23).symm.trans h
                                      by_cases hv24 : wr x1 = 17
                                      · replace h := (if_pos hv24).symm.trans h
                                        refine g_tabIn hC (xdt tt_X11_count 30 rfl) (fun z => hs1 (Or.inl z)) (fun z => hs1 (Or.inr z)) (off := 202) (by rw [hv24]; rfl) (show ((52 : Nat) : Int) + 202 = ((254 : Nat) : Int) by decide) ?_
                                        refine g_iconst hC (rfl : 254 + 1 = 255) (xdt tt_X11_count 73 rfl) ?_
                                        cases h
                                        exact g_iret hC hE (xdt tt_X11_count 74 rfl)
                                      · replace h := (if_neg hv24).symm.trans h
                                        by_cases hv25 : wr x1 = 18
                                        · replace h := (if_pos hv25).symm.trans h
                                          refine g_tabIn hC (xdt tt_X11_count 30 rfl) (fun z => hs1 (Or.inl z)) (fun z => hs1 (Or.inr z)) (off := 143) (by rw [hv25]; rfl) (show ((52 : Nat) : Int) + 143 = ((195 : Nat) : Int) by decide) ?_
                                          refine g_aload_n hC rfl 0 rfl (rfl : 195 + 1 = 196) (xdt tt_X11_count 44 rfl) ?_
                                          refine g_getP hC hk0 kclX11 ly3_0 6 (by decide) (rfl : r0 + 1 = (r0 + 1)) rfl q31 (rfl : 196 + 3 = 199) (xdt tt_X11_count 45 rfl) ?_
                                          refine g_getI hC (hA0 1 (by decide) (by decide)) kclX0 ly1_0 14 (by decide) rfl q594 (rfl : 199 + 3 = 202) (xdt tt_X11_count 46 rfl) ?_
                                          cases h
                                          exact g_iret hC hE (xdt tt_X11_count 47 rfl)
                                        · replace h := (if_neg hv25).symm.trans h
                                          by_cases hv26 : wr x1 = 19
                                          · replace h := (if_pos hv26).symm.trans h
                                            refine g_tabIn hC (xdt tt_X11_count 30 rfl) (fun z => hs1 (Or.inl z)) (fun z => hs1 (Or.inr z)) (off := 151) (by rw [hv26]; rfl) (show ((52 : Nat) : Int) + 151 = ((203 : Nat) : Int) by decide) ?_
                                            refine g_aload_n hC rfl 0 rfl (rfl : 203 + 1 = 204) (xdt tt_X11_count 48 rfl) ?_
                                            refine g_getP hC hk0 kclX11 ly3_0 6 (by decide) (rfl : r0 + 1 = (r0 + 1)) rfl q31 (rfl : 204 + 3 = 207) (xdt tt_X11_count 49 rfl) ?_
                                            refine g_getP hC (hA0 1 (by decide) (by decide)) kclX0 ly1_0 3 (by decide) (rfl : (r0 + 1) + 0 = (r0 + 1)) rfl q595 (rfl : 207 + 3 = 210) (xdt tt_X11_count 50 rfl) ?_
                                            refine g_getI hC (hA0 1 (by decide) (by decide)) kclX6 ly1_5 2 (by decide) rfl q596 (rfl : 210 + 3 = 213) (xdt tt_X11_count 51 rfl) ?_
                                            cases h
                                            exact g_iret hC hE (xdt tt_X11_count 52 rfl)
                                          · replace h := (if_neg hv26).symm.trans h
                                            by_cases hv27 : wr x1 = 20
                                            · replace h := (if_pos hv27).symm.trans h
                                              refine g_tabIn hC (xdt tt_X11_count 30 rfl) (fun z => hs1 (Or.inl z)) (fun z => hs1 (Or.inr z)) (off := 162) (by rw [hv27]; rfl) (show ((52 : Nat) : Int) + 162 = ((214 : Nat) : Int) by decide) ?_
                                              refine g_aload_n hC rfl 0 rfl (rfl : 214 + 1 = 215) (xdt tt_X11_count 53 rfl) ?_
                                              refine g_getP hC hk0 kclX11 ly3_0 6 (by decide) (rfl : r0 + 1 = (r0 + 1)) rfl q31 (rfl : 215 + 3 = 218) (xdt tt_X11_count 54 rfl) ?_
                                              refine g_getI hC (hA0 1 (by decide) (by decide)) kclX0 ly1_0 10 (by decide) rfl q597 (rfl : 218 + 3 = 221) (xdt tt_X11_count 55 rfl) ?_
                                              cases h
                                              exact g_iret hC hE (xdt tt_X11_count 56 rfl)
                                            · replace h := (if_neg hv27).symm.trans h
                                              by_cases hv28 : wr x1 = 21
                                              · replace h := (if_pos hv28).symm.trans h
                                                refine g_tabIn hC (xdt tt_X11_count 30 rfl) (fun z => hs1 (Or.inl z)) (fun z => hs1 (Or.inr z)) (off := 170) (by rw [hv28]; rfl) (show ((52 : Nat) : Int) + 170 = ((222 : Nat) : Int) by decide) ?_
                                                refine g_aload_n hC rfl 0 rfl (rfl : 222 + 1 = 223) (xdt tt_X11_count 57 rfl) ?_
                                                refine g_getP hC hk0 kclX11 ly3_0 6 (by decide) (rfl : r0 + 1 = (r0 + 1)) rfl q31 (rfl : 223 + 3 = 226) (xdt tt_X11_count 58 rfl) ?_
                                                refine g_getI hC (hA0 1 (by decide) (by decide)) kclX0 ly1_0 15 (by decide) rfl q598 (rfl : 226 + 3 = 229) (xdt tt_X11_count 59 rfl) ?_
                                                cases h
                                                exact g_iret hC hE (xdt tt_X11_count 60 rfl)
                                              · replace h := (if_neg hv28).symm.trans h
                                                by_cases hv29 : wr x1 = 22
                                                · replace h := (if_pos hv29).symm.trans h
                                                  refine g_tabIn hC (xdt tt_X11_count 30 rfl) (fun z => hs1 (Or.inl z)) (fun z => hs1 (Or.inr z)) (off := 178) (by rw [hv29]; rfl) (show ((52 : Nat) : Int) + 178 = ((230 : Nat) : Int) by decide) ?_
                                                  refine g_aload_n hC rfl 0 rfl (rfl : 230 + 1 = 231) (xdt tt_X11_count 61 rfl) ?_
                                                  refine g_getP hC hk0 kclX11 ly3_0 6 (by decide) (rfl : r0 + 1 = (r0 + 1)) rfl q31 (rfl : 231 + 3 = 234) (xdt tt_X11_count 62 rfl) ?_
                                                  refine g_getI hC (hA0 1 (by decide) (by decide)) kclX0 ly1_0 16 (by decide) rfl q599 (rfl : 234 + 3 = 237) (xdt tt_X11_count 63 rfl) ?_
                                                  cases h
                                                  exact g_iret hC hE (xdt tt_X11_count 64 rfl)
                                                · replace h := (if_neg hv29).symm.trans h
                                                  by_cases hv30 : wr x1 = 23
                                                  · replace h := (if_pos hv30).symm.trans h
                                                    refine g_tabIn hC (xdt tt_X11_count 30 rfl) (fun z => hs1 (Or.inl z)) (fun z => hs1 (Or.inr z)) (off := 186) (by rw [hv30]; rfl) (show ((52 : Nat) : Int) + 186 = ((238 : Nat) : Int) by decide) ?_
                                                    refine g_aload_n hC rfl 0 rfl (rfl : 238 + 1 = 239) (xdt tt_X11_count 65 rfl) ?_
                                                    refine g_getP hC hk0 kclX11 ly3_0 6 (by decide) (rfl : r0 + 1 = (r0 + 1)) rfl q31 (rfl : 239 + 3 = 242) (xdt tt_X11_count 66 rfl) ?_
                                                    refine g_getI hC (hA0 1 (by decide) (by decide)) kclX0 ly1_0 17 (by decide) rfl q600 (rfl : 242 + 3 = 245) (xdt tt_X11_count 67 rfl) ?_
                                                    cases h
                                                    exact g_iret hC hE (xdt tt_X11_count 68 rfl)
                                                  · replace h := (if_neg hv30).symm.trans h
                                                    by_cases hv31 : wr x1 = 24
                                                    · replace h := (if_pos hv31).symm.trans h
                                                      refine g_tabIn hC (xdt tt_X11_count 30 rfl) (fun z => hs1 (Or.inl z)) (fun z => hs1 (Or.inr z)) (off := 194) (by rw [hv31]; rfl) (show ((52 : Nat) : Int) + 194 = ((246 : Nat) : Int) by decide) ?_
                                                      refine g_aload_n hC rfl 0 rfl (rfl : 246 + 1 = 247) (xdt tt_X11_count 69 rfl) ?_
                                                      refine g_getP hC hk0 kclX11 ly3_0 10 (by decide) (rfl : r0 + 0 = r0) rfl q37 (rfl : 247 + 3 = 250) (xdt tt_X11_count 70 rfl) ?_
                                                      refine g_getI hC hk0 kclX1 ly3_8 2 (by decide) rfl q601 (rfl : 250 + 3 = 253) (xdt tt_X11_count 71 rfl) ?_
                                                      cases h
                                                      exact g_iret hC hE (xdt tt_X11_count 72 rfl)
                                                    · replace h := (if_neg hv31).symm.trans h
                                                      cases h
set_option maxRecDepth 100000 in
set_option maxHeartbeats 4000000 in
theorem k_X11_count_p3_0_b23 {K : xCtx} {E : xE} {b : Nat} (hC : xOK K cX11_count RX11 2 (rmE 3 b)) (hZ : xZ K) {v : Int} {S' : xSt} (hE : xEnd K E (some .int) (YQi E v S')) {r0 : Nat} (hk0 : xkd E r0 = 3) (hA0 : xFam E r0) : ∀ (S : xSt) (x1 : Int), f_X11_count_p3_0_b23 r0 S x1 = some (v, S') → WG K E 23 [(0, vr E r0 0), (1, vi x1)] [] S := by
  intro S x1 h
  unfold f_X11_count_p3_0_b23 at h
  refine g_iload_n hC rfl 1 rfl (rfl : 23 + 1 = 24) (xdt tt_X11_count 14 rfl) ?_
  refine g_bipush hC (by decide) (rfl : 24 + 2 = 26) (xdt tt_X11_count 15 rfl) ?_
  refine g_icmp_lt hC (show ((26 : Nat) : Int) + 25 = ((51 : Nat) : Int) by decide) (rfl : 26 + 3 = 29) (xdt tt_X11_count 16 rfl) (fun hc34 => ?_) (fun hc34 => ?_)
  · replace h := (if_pos hc34).symm.trans h
    refine g_sub [0, 1] (lv' := [(0, vr E r0 0), (1, vi x1)]) rfl ?_
    exact k_X11_count_p3_0_b51 hC hZ hE hk0 hA0 _ _ h
  · replace h := (if_neg hc34).symm.trans h
    refine g_iload_n hC rfl 1 rfl (rfl : 29 + 1 = 30) (xdt tt_X11_count 17 rfl) ?_
    refine g_bipush hC (by decide) (rfl : 30 + 2 = 32) (xdt tt_X11_count 18 rfl) ?_
    refine g_icmp_ge hC (show ((32 : Nat) : Int) + 19 = ((51 : Nat) : Int) by decide) (rfl : 32 + 3 = 35) (xdt tt_X11_count 19 rfl) (fun hc33 => ?_) (fun hc33 => ?_)
    · replace h := (if_pos hc33).symm.trans h
      refine g_sub [0, 1] (lv' := [(0, vr E r0 0), (1, vi x1)]) rfl ?_
      exact k_X11_count_p3_0_b51 hC hZ hE hk0 hA0 _ _ h
    · replace h := (if_neg hc33).symm.trans h
      refine g_aload_n hC rfl 0 rfl (rfl : 35 + 1 = 36) (xdt tt_X11_count 20 rfl) ?_
      refine g_getP hC hk0 kclX11 ly3_0 6 (by decide) (rfl : r0 + 1 = (r0 + 1)) rfl q31 (rfl : 36 + 3 = 39) (xdt tt_X11_count 21 rfl) ?_
      refine g_getP hC (hA0 1 (by decide) (by decide)) kclX0 ly1_0 7 (by decide) (rfl : (r0 + 1) + 0 = (r0 + 1)) rfl q590 (rfl : 39 + 3 = 42) (xdt tt_X11_count 22 rfl) ?_
      refine g_getP hC (hA0 1 (by decide) (by decide)) kclX9 ly1_14 0 (by decide) (rfl : (r0 + 1) + 0 = (r0 + 1)) rfl q591 (rfl : 42 + 3 = 45) (xdt tt_X11_count 23 rfl) ?_
      refine g_iload_n hC rfl 1 rfl (rfl : 45 + 1 = 46) (xdt tt_X11_count 24 rfl) ?_
      refine g_bipush hC (by decide) (rfl : 46 + 2 = 48) (xdt tt_X11_count 25 rfl) ?_
      refine g_isub hC (rfl : 48 + 1 = 49) (xdt tt_X11_count 26 rfl) ?_
      obtain ⟨hi32, h⟩ := ckI_i h
      refine g_iald hC (hA0 1 (by decide) (by decide)) ly1_15 hi32 (rfl : 49 + 1 = 50) (xdt tt_X11_count 27 rfl) (k0 := (wr (x1 - 9)).toNat) rfl ?_
      cases h
      exact g_iret hC hE (xdt tt_X11_count 28 rfl)
set_option maxRecDepth 100000 in
set_option maxHeartbeats 4000000 in
theorem c_X11_count_p3_0 (l : Launch) {E : xE} {S S' : xSt} {r0 : Nat} {a1 : Int} (hk0 : xkd E r0 = 3) (hA0 : xFam E r0) {v : Int} (h : f_X11_count_p3_0 S r0 a1 = some (v, S')) : Met l yX11_count (xws yX11_count cX11_count 2 (some .int)) (rmD 3) (YPc E [vr E r0 0, vi a1] S) (YQi E v S') 0 0 (xA E) := by
  unfold f_X11_count_p3_0 at h
  refine met_i (by decide +kernel) (Nat.le_of_ble_eq_true rfl) (fun K hC hZ hE => ?_)
  have hC : xOK K cX11_count RX11 2 (rmE 3 0) := hC
  show WG K E 0 [(0, vr E r0 0), (1, vi a1)] [] S
  refine g_iload_n hC rfl 1 rfl (rfl : 0 + 1 = 1) (xdt tt_X11_count 0 rfl) ?_
  refine g_iconst hC (rfl : 1 + 1 = 2) (xdt tt_X11_count 1 rfl) ?_
  refine g_icmp_lt hC (show ((2 : Nat) : Int) + 21 = ((23 : Nat) : Int) by decide) (rfl : 2 + 3 = 5) (xdt tt_X11_count 2 rfl) (fun hc37 => ?_) (fun hc37 => ?_)
  · replace h := (if_pos hc37).symm.trans h
    refine g_sub [0, 1] (lv' := [(0, vr E r0 0), (1, vi a1)]) rfl ?_
    exact k_X11_count_p3_0_b23 hC hZ hE hk0 hA0 _ _ h
  · replace h := (if_neg hc37).symm.trans h
    refine g_iload_n hC rfl 1 rfl (rfl : 5 + 1 = 6) (xdt tt_X11_count 3 rfl) ?_
    refine g_bipush hC (by decide) (rfl : 6 + 2 = 8) (xdt tt_X11_count 4 rfl) ?_
    refine g_icmp_ge hC (show ((8 : Nat) : Int) + 15 = ((23 : Nat) : Int) by decide) (rfl : 8 + 3 = 11) (xdt tt_X11_count 5 rfl) (fun hc36 => ?_) (fun hc36 => ?_)
    · replace h := (if_pos hc36).symm.trans h
      refine g_sub [0, 1] (lv' := [(0, vr E r0 0), (1, vi a1)]) rfl ?_
      exact k_X11_count_p3_0_b23 hC hZ hE hk0 hA0 _ _ h
    · replace h := (if_neg hc36).symm.trans h
      refine g_aload_n hC rfl 0 rfl (rfl : 11 + 1 = 12) (xdt tt_X11_count 6 rfl) ?_
      refine g_getP hC hk0 kclX11 ly3_0 6 (by decide) (rfl : r0 + 1 = (r0 + 1)) rfl q31 (rfl : 12 + 3 = 15) (xdt tt_X11_count 7 rfl) ?_
      refine g_getP hC (hA0 1 (by decide) (by decide)) kclX0 ly1_0 1 (by decide) (rfl : (r0 + 1) + 0 = (r0 + 1)) rfl q589 (rfl : 15 + 3 = 18) (xdt tt_X11_count 8 rfl) ?_
      refine g_iload_n hC rfl 1 rfl (rfl : 18 + 1 = 19) (xdt tt_X11_count 9 rfl) ?_
      refine g_iconst hC (rfl : 19 + 1 = 20) (xdt tt_X11_count 10 rfl) ?_
      refine g_isub hC (rfl : 20 + 1 = 21) (xdt tt_X11_count 11 rfl) ?_
      obtain ⟨hi35, h⟩ := ckI_i h
      refine g_iald hC (hA0 1 (by decide) (by decide)) ly1_1 hi35 (rfl : 21 + 1 = 22) (xdt tt_X11_count 12 rfl) (k0 := (wr (a1 - 2)).toNat) rfl ?_
      cases h
      exact g_iret hC hE (xdt tt_X11_count 13 rfl)
def f_X5_lengthOf_p2_0 (S : xSt) (r0 : Nat) (a1 : Int) : Option (Int × xSt) :=
  bd2 (f_X5_startOf_p2_0 S r0 (a1 + 1)) fun v3 S2 =>
  bd2 (f_X5_startOf_p2_0 S2 r0 a1) fun v6 S5 =>
  some ((v3 - v6), S5)
set_option maxRecDepth 100000 in
set_option maxHeartbeats 4000000 in
theorem c_X5_lengthOf_p2_0 (l : Launch) {E : xE} {S S' : xSt} {r0 : Nat} {a1 : Int} (hk0 : xkd E r0 = 2) {v : Int} (h : f_X5_lengthOf_p2_0 S r0 a1 = some (v, S')) : Met l yX5_lengthOf (xws yX5_lengthOf cX5_lengthOf 2 (some .int)) (rmD 2) (YPc E [vr E r0 0, vi a1] S) (YQi E v S') 0 0 (xA E) := by
  unfold f_X5_lengthOf_p2_0 at h
  refine met_i (by decide +kernel) (Nat.le_of_ble_eq_true rfl) (fun K hC hZ hE => ?_)
  have hC : xOK K cX5_lengthOf RX5 2 (rmE 2 0) := hC
  show WG K E 0 [(0, vr E r0 0), (1, vi a1)] [] S
  refine g_aload_n hC rfl 0 rfl (rfl : 0 + 1 = 1) (xdt tt_X5_lengthOf 0 rfl) ?_
  refine g_iload_n hC rfl 1 rfl (rfl : 1 + 1 = 2) (xdt tt_X5_lengthOf 1 rfl) ?_
  refine g_iconst hC (rfl : 2 + 1 = 3) (xdt tt_X5_lengthOf 2 rfl) ?_
  refine g_iadd hC (rfl : 3 + 1 = 4) (xdt tt_X5_lengthOf 3 rfl) ?_
  obtain ⟨v3, S2, hc1, h⟩ := bd2_i h
  refine g_callVi hC hZ hk0 kclX5 ly2_0 m_X5_startOf q606 (Nat.le_of_ble_eq_true rfl) [vi (a1 + 1)] rfl (fun l => c_X5_startOf_p2_0 l hk0 hc1) rfl (Nat.le_of_ble_eq_true rfl) (rfl : 4 + 3 = 7) (xdt tt_X5_lengthOf 4 rfl) ?_
  refine g_aload_n hC rfl 0 rfl (rfl : 7 + 1 = 8) (xdt tt_X5_lengthOf 5 rfl) ?_
  refine g_iload_n hC rfl 1 rfl (rfl : 8 + 1 = 9) (xdt tt_X5_lengthOf 6 rfl) ?_
  obtain ⟨v6, S5, hc4, h⟩ := bd2_i h
  refine g_callVi hC hZ hk0 kclX5 ly2_0 m_X5_startOf q606 (Nat.le_of_ble_eq_true rfl) [vi a1] rfl (fun l => c_X5_startOf_p2_0 l hk0 hc4) rfl (Nat.le_of_ble_eq_true rfl) (rfl : 9 + 3 = 12) (xdt tt_X5_lengthOf 7 rfl) ?_
  refine g_isub hC (rfl : 12 + 1 = 13) (xdt tt_X5_lengthOf 8 rfl) ?_
  cases h
  exact g_iret hC hE (xdt tt_X5_lengthOf 9 rfl)
def f_X0_predictsTaken_p1_0 (S : xSt) (r0 : Nat) (a1 : Int) : Option (Int × xSt) :=
  if wr a1 < 0 then
    (some (0, S))
  else
    (ckP S r0 0 0 2 0 fun rg1 =>
    if wr a1 < wr (gI S rg1 0 10) then
      (ckP S r0 0 0 2 0 fun rg2 =>
      ckI a1 60 <|
      if wr (gI S rg2 5 (wr a1).toNat) = wr 8 then
        (some (1, S))
      else
        (ckI a1 60 <|
        if wr (gI S r0 19 (wr a1).toNat) = 0 then
          (some (0, S))
        else
          (some (1, S))))
    else
      (some (0, S)))
set_option maxRecDepth 100000 in
set_option maxHeartbeats 4000000 in
theorem c_X0_predictsTaken_p1_0 (l : Launch) {E : xE} {S S' : xSt} {r0 : Nat} {a1 : Int} (hk0 : xkd E r0 = 1) {v : Int} (h : f_X0_predictsTaken_p1_0 S r0 a1 = some (v, S')) : Met l yX0_predictsTaken (xws yX0_predictsTaken cX0_predictsTaken 2 (some .boolean)) (rmD 1) (YPc E [vr E r0 0, vi a1] S) (YQz E v S') 0 0 (xA E) := by
  unfold f_X0_predictsTaken_p1_0 at h
  refine met_z (by decide +kernel) (Nat.le_of_ble_eq_true rfl) (fun K hC hZ hE => ?_)
  have hC : xOK K cX0_predictsTaken RX0 2 (rmE 1 0) := hC
  show WG K E 0 [(0, vr E r0 0), (1, vi a1)] [] S
  refine g_iload_n hC rfl 1 rfl (rfl : 0 + 1 = 1) (xdt tt_X0_predictsTaken 0 rfl) ?_
  refine g_if_lt hC (show ((1 : Nat) : Int) + 14 = ((15 : Nat) : Int) by decide) (rfl : 1 + 3 = 4) (xdt tt_X0_predictsTaken 1 rfl) (fun hc8 => ?_) (fun hc8 => ?_)
  · replace h := (if_pos hc8).symm.trans h
    refine g_iconst hC (rfl : 15 + 1 = 16) (xdt tt_X0_predictsTaken 7 rfl) ?_
    cases h
    exact g_zret hC hE (Or.inl rfl) (xdt tt_X0_predictsTaken 8 rfl)
  · replace h := (if_neg hc8).symm.trans h
    refine g_iload_n hC rfl 1 rfl (rfl : 4 + 1 = 5) (xdt tt_X0_predictsTaken 2 rfl) ?_
    refine g_aload_n hC rfl 0 rfl (rfl : 5 + 1 = 6) (xdt tt_X0_predictsTaken 3 rfl) ?_
    obtain ⟨rg1, hrg1, grg1, h⟩ := ckP_i h
    refine g_getV hC hk0 kclX0 ly1_0 0 (by decide) rfl hrg1 grg1 (by decide) q146 (rfl : 6 + 3 = 9) (xdt tt_X0_predictsTaken 4 rfl) (fun krg1 => ?_)
    refine g_getI hC krg1 kclX5 ly2_0 10 (by decide) rfl q644 (rfl : 9 + 3 = 12) (xdt tt_X0_predictsTaken 5 rfl) ?_
    refine g_icmp_lt hC (show ((12 : Nat) : Int) + 5 = ((17 : Nat) : Int) by decide) (rfl : 12 + 3 = 15) (xdt tt_X0_predictsTaken 6 rfl) (fun hc7 => ?_) (fun hc7 => ?_)
    · replace h := (if_pos hc7).symm.trans h
      refine g_aload_n hC rfl 0 rfl (rfl : 17 + 1 = 18) (xdt tt_X0_predictsTaken 9 rfl) ?_
      obtain ⟨rg2, hrg2, grg2, h⟩ := ckP_i h
      refine g_getV hC hk0 kclX0 ly1_0 0 (by decide) rfl hrg2 grg2 (by decide) q146 (rfl : 18 + 3 = 21) (xdt tt_X0_predictsTaken 10 rfl) (fun krg2 => ?_)
      refine g_getP hC krg2 kclX5 ly2_0 2 (by decide) (rfl : rg2 + 0 = rg2) rfl q645 (rfl : 21 + 3 = 24) (xdt tt_X0_predictsTaken 11 rfl) ?_
      refine g_iload_n hC rfl 1 rfl (rfl : 24 + 1 = 25) (xdt tt_X0_predictsTaken 12 rfl) ?_
      obtain ⟨hi3, h⟩ := ckI_i h
      refine g_iald hC krg2 ly2_5 hi3 (rfl : 25 + 1 = 26) (xdt tt_X0_predictsTaken 13 rfl) (k0 := (wr a1).toNat) rfl ?_
      refine g_bipush hC (by decide) (rfl : 26 + 2 = 28) (xdt tt_X0_predictsTaken 14 rfl) ?_
      refine g_icmp_eq hC (show ((28 : Nat) : Int) + 12 = ((40 : Nat) : Int) by decide) (rfl : 28 + 3 = 31) (xdt tt_X0_predictsTaken 15 rfl) (fun hc6 => ?_) (fun hc6 => ?_)
      · replace h := (if_pos hc6).symm.trans h
        refine g_iconst hC (rfl : 40 + 1 = 41) (xdt tt_X0_predictsTaken 21 rfl) ?_
        refine g_goto hC (show ((41 : Nat) : Int) + 4 = ((45 : Nat) : Int) by decide) (xdt tt_X0_predictsTaken 22 rfl) ?_
        cases h
        exact g_zret hC hE (Or.inr rfl) (xdt tt_X0_predictsTaken 24 rfl)
      · replace h := (if_neg hc6).symm.trans h
        refine g_aload_n hC rfl 0 rfl (rfl : 31 + 1 = 32) (xdt tt_X0_predictsTaken 16 rfl) ?_
        refine g_getP hC hk0 kclX0 ly1_0 8 (by decide) (rfl : r0 + 0 = r0) rfl q117 (rfl : 32 + 3 = 35) (xdt tt_X0_predictsTaken 17 rfl) ?_
        refine g_iload_n hC rfl 1 rfl (rfl : 35 + 1 = 36) (xdt tt_X0_predictsTaken 18 rfl) ?_
        obtain ⟨hi4, h⟩ := ckI_i h
        refine g_zald hC hk0 ly1_19 hi4 (rfl : 36 + 1 = 37) (xdt tt_X0_predictsTaken 19 rfl) (k0 := (wr a1).toNat) rfl ?_
        refine g_if_eq hC (show ((37 : Nat) : Int) + 7 = ((44 : Nat) : Int) by decide) (rfl : 37 + 3 = 40) (xdt tt_X0_predictsTaken 20 rfl) (fun hc5 => ?_) (fun hc5 => ?_)
        · replace h := (if_pos hc5).symm.trans h
          refine g_iconst hC (rfl : 44 + 1 = 45) (xdt tt_X0_predictsTaken 23 rfl) ?_
          cases h
          exact g_zret hC hE (Or.inl rfl) (xdt tt_X0_predictsTaken 24 rfl)
        · replace h := (if_neg hc5).symm.trans h
          refine g_iconst hC (rfl : 40 + 1 = 41) (xdt tt_X0_predictsTaken 21 rfl) ?_
          refine g_goto hC (show ((41 : Nat) : Int) + 4 = ((45 : Nat) : Int) by decide) (xdt tt_X0_predictsTaken 22 rfl) ?_
          cases h
          exact g_zret hC hE (Or.inr rfl) (xdt tt_X0_predictsTaken 24 rfl)
    · replace h := (if_neg hc7).symm.trans h
      refine g_iconst hC (rfl : 15 + 1 = 16) (xdt tt_X0_predictsTaken 7 rfl) ?_
      cases h
      exact g_zret hC hE (Or.inl rfl) (xdt tt_X0_predictsTaken 8 rfl)
def f_X11_predictionOf_p3_0 (S : xSt) (r0 : Nat) (a1 : Int) : Option (Int × xSt) :=
  ckP S r0 0 4 2 0 fun rg1 =>
  bd2 (f_X5_isJumpOrBranch_p2_0 S rg1 a1) fun v4 S3 =>
  if ¬ wr v4 = 0 then
    (bd2 (f_X0_predictsTaken_p1_0 S3 (r0 + 1) a1) fun v8 S7 =>
    if wr v8 = 0 then
      (some (0, S7))
    else
      (some (1, S7)))
  else
    (some ((-1), S3))
set_option maxRecDepth 100000 in
set_option maxHeartbeats 4000000 in
theorem c_X11_predictionOf_p3_0 (l : Launch) {E : xE} {S S' : xSt} {r0 : Nat} {a1 : Int} (hk0 : xkd E r0 = 3) (hA0 : xFam E r0) {v : Int} (h : f_X11_predictionOf_p3_0 S r0 a1 = some (v, S')) : Met l yX11_predictionOf (xws yX11_predictionOf cX11_predictionOf 2 (some .int)) (rmD 2) (YPc E [vr E r0 0, vi a1] S) (YQi E v S') 0 0 (xA E) := by
  unfold f_X11_predictionOf_p3_0 at h
  refine met_i (by decide +kernel) (Nat.le_of_ble_eq_true rfl) (fun K hC hZ hE => ?_)
  have hC : xOK K cX11_predictionOf RX11 2 (rmE 2 0) := hC
  show WG K E 0 [(0, vr E r0 0), (1, vi a1)] [] S
  refine g_aload_n hC rfl 0 rfl (rfl : 0 + 1 = 1) (xdt tt_X11_predictionOf 0 rfl) ?_
  obtain ⟨rg1, hrg1, grg1, h⟩ := ckP_i h
  refine g_getV hC hk0 kclX11 ly3_0 4 (by decide) rfl hrg1 grg1 (by decide) q26 (rfl : 1 + 3 = 4) (xdt tt_X11_predictionOf 1 rfl) (fun krg1 => ?_)
  refine g_iload_n hC rfl 1 rfl (rfl : 4 + 1 = 5) (xdt tt_X11_predictionOf 2 rfl) ?_
  obtain ⟨v4, S3, hc2, h⟩ := bd2_i h
  refine g_callVz hC hZ krg1 kclX5 ly2_0 m_X5_isJumpOrBranch q639 (Nat.le_of_ble_eq_true rfl) [vi a1] rfl (fun l => c_X5_isJumpOrBranch_p2_0 l krg1 hc2) rfl (Nat.le_of_ble_eq_true rfl) (rfl : 5 + 3 = 8) (xdt tt_X11_predictionOf 3 rfl) (fun hb5 => ?_)
  refine g_if_ne hC (show ((8 : Nat) : Int) + 5 = ((13 : Nat) : Int) by decide) (rfl : 8 + 3 = 11) (xdt tt_X11_predictionOf 4 rfl) (fun hc11 => ?_) (fun hc11 => ?_)
  · replace h := (if_pos hc11).symm.trans h
    refine g_aload_n hC rfl 0 rfl (rfl : 13 + 1 = 14) (xdt tt_X11_predictionOf 7 rfl) ?_
    refine g_getP hC hk0 kclX11 ly3_0 6 (by decide) (rfl : r0 + 1 = (r0 + 1)) rfl q31 (rfl : 14 + 3 = 17) (xdt tt_X11_predictionOf 8 rfl) ?_
    refine g_iload_n hC rfl 1 rfl (rfl : 17 + 1 = 18) (xdt tt_X11_predictionOf 9 rfl) ?_
    obtain ⟨v8, S7, hc6, h⟩ := bd2_i h
    refine g_callVz hC hZ (hA0 1 (by decide) (by decide)) kclX0 ly1_0 m_X0_predictsTaken q640 (Nat.le_of_ble_eq_true rfl) [vi a1] rfl (fun l => c_X0_predictsTaken_p1_0 l (hA0 1 (by decide) (by decide)) hc6) rfl (Nat.le_of_ble_eq_true rfl) (rfl : 18 + 3 = 21) (xdt tt_X11_predictionOf 10 rfl) (fun hb9 => ?_)
    refine g_if_eq hC (show ((21 : Nat) : Int) + 7 = ((28 : Nat) : Int) by decide) (rfl : 21 + 3 = 24) (xdt tt_X11_predictionOf 11 rfl) (fun hc10 => ?_) (fun hc10 => ?_)
    · replace h := (if_pos hc10).symm.trans h
      refine g_iconst hC (rfl : 28 + 1 = 29) (xdt tt_X11_predictionOf 14 rfl) ?_
      cases h
      exact g_iret hC hE (xdt tt_X11_predictionOf 15 rfl)
    · replace h := (if_neg hc10).symm.trans h
      refine g_iconst hC (rfl : 24 + 1 = 25) (xdt tt_X11_predictionOf 12 rfl) ?_
      refine g_goto hC (show ((25 : Nat) : Int) + 4 = ((29 : Nat) : Int) by decide) (xdt tt_X11_predictionOf 13 rfl) ?_
      cases h
      exact g_iret hC hE (xdt tt_X11_predictionOf 15 rfl)
  · replace h := (if_neg hc11).symm.trans h
    refine g_iconst hC (rfl : 11 + 1 = 12) (xdt tt_X11_predictionOf 5 rfl) ?_
    cases h
    exact g_iret hC hE (xdt tt_X11_predictionOf 6 rfl)
def f_X11_at_p3_0_b8 (r0 : Nat) : Nat → xSt → Int → Int → Option (Int × xSt)
  | 0, _, _, _ => none
  | fuel + 1, S, x1, x2 =>
    ckP S r0 0 4 2 0 fun rg1 =>
    if wr (gI S rg1 0 10) ≤ wr x2 then
      (some ((-1), S))
    else
      (ckP S r0 0 4 2 0 fun rg2 =>
      bd2 (f_X5_startOf_p2_0 S rg2 (x2 + 1)) fun v5 S4 =>
      if wr v5 ≤ wr x1 then
        ((f_X11_at_p3_0_b8 r0 fuel) S4 x1 (x2 + 1))
      else
        (some (x2, S4)))
def f_X11_at_p3_0 (S : xSt) (r0 : Nat) (a1 : Int) : Option (Int × xSt) :=
  if 0 ≤ wr a1 then
    (f_X11_at_p3_0_b8 r0 (fu S) S a1 0)
  else
    (some ((-1), S))
set_option maxRecDepth 100000 in
set_option maxHeartbeats 4000000 in
theorem k_X11_at_p3_0_b8 {K : xCtx} {E : xE} {b : Nat} (hC : xOK K cX11_at RX11 3 (rmE 2 b)) (hZ : xZ K) {v : Int} {S' : xSt} (hE : xEnd K E (some .int) (YQi E v S')) {r0 : Nat} (hk0 : xkd E r0 = 3) (hA0 : xFam E r0) : ∀ (fuel : Nat) (S : xSt) (x1 : Int) (x2 : Int), f_X11_at_p3_0_b8 r0 fuel S x1 x2 = some (v, S') → WG K E 8 [(0, vr E r0 0), (1, vi x1), (2, vi x2)] [] S := by
  intro fuel
  induction fuel with
  | zero => intro S x1 x2 h; cases h
  | succ fuel ih =>
    intro S x1 x2 h
    rw [f_X11_at_p3_0_b8] at h
    refine g_iload_n hC rfl 2 rfl (rfl : 8 + 1 = 9) (xdt tt_X11_at 6 rfl) ?_
    refine g_aload_n hC rfl 0 rfl (rfl : 9 + 1 = 10) (xdt tt_X11_at 7 rfl) ?_
    obtain ⟨rg1, hrg1, grg1, h⟩ := ckP_i h
    refine g_getV hC hk0 kclX11 ly3_0 4 (by decide) rfl hrg1 grg1 (by decide) q26 (rfl : 10 + 3 = 13) (xdt tt_X11_at 8 rfl) (fun krg1 => ?_)
    refine g_getI hC krg1 kclX5 ly2_0 10 (by decide) rfl q277 (rfl : 13 + 3 = 16) (xdt tt_X11_at 9 rfl) ?_
    refine g_icmp_ge hC (show ((16 : Nat) : Int) + 25 = ((41 : Nat) : Int) by decide) (rfl : 16 + 3 = 19) (xdt tt_X11_at 10 rfl) (fun hc7 => ?_) (fun hc7 => ?_)
    · replace h := (if_pos hc7).symm.trans h
      refine g_iconst hC (rfl : 41 + 1 = 42) (xdt tt_X11_at 23 rfl) ?_
      cases h
      exact g_iret hC hE (xdt tt_X11_at 24 rfl)
    · replace h := (if_neg hc7).symm.trans h
      refine g_iload_n hC rfl 1 rfl (rfl : 19 + 1 = 20) (xdt tt_X11_at 11 rfl) ?_
      refine g_aload_n hC rfl 0 rfl (rfl : 20 + 1 = 21) (xdt tt_X11_at 12 rfl) ?_
      obtain ⟨rg2, hrg2, grg2, h⟩ := ckP_i h
      refine g_getV hC hk0 kclX11 ly3_0 4 (by decide) rfl hrg2 grg2 (by decide) q26 (rfl : 21 + 3 = 24) (xdt tt_X11_at 13 rfl) (fun krg2 => ?_)
      refine g_iload_n hC rfl 2 rfl (rfl : 24 + 1 = 25) (xdt tt_X11_at 14 rfl) ?_
      refine g_iconst hC (rfl : 25 + 1 = 26) (xdt tt_X11_at 15 rfl) ?_
      refine g_iadd hC (rfl : 26 + 1 = 27) (xdt tt_X11_at 16 rfl) ?_
      obtain ⟨v5, S4, hc3, h⟩ := bd2_i h
      refine g_callVi hC hZ krg2 kclX5 ly2_0 m_X5_startOf q680 (Nat.le_of_ble_eq_true rfl) [vi (x2 + 1)] rfl (fun l => c_X5_startOf_p2_0 l krg2 hc3) rfl (Nat.le_of_ble_eq_true rfl) (rfl : 27 + 3 = 30) (xdt tt_X11_at 17 rfl) ?_
      refine g_icmp_ge hC (show ((30 : Nat) : Int) + 5 = ((35 : Nat) : Int) by decide) (rfl : 30 + 3 = 33) (xdt tt_X11_at 18 rfl) (fun hc6 => ?_) (fun hc6 => ?_)
      · replace h := (if_pos hc6).symm.trans h
        refine g_iinc hC 2 rfl (by decide) (lv' := [(2, vi (x2 + 1)), (0, vr E r0 0), (1, vi x1)]) rfl (rfl : 35 + 3 = 38) (xdt tt_X11_at 21 rfl) ?_
        refine g_goto hC (show ((38 : Nat) : Int) + (-30) = ((8 : Nat) : Int) by decide) (xdt tt_X11_at 22 rfl) ?_
        refine g_sub [1, 2, 0] (lv' := [(0, vr E r0 0), (1, vi x1), (2, vi (x2 + 1))]) rfl ?_
        exact ih _ _ _ h
      · replace h := (if_neg hc6).symm.trans h
        refine g_iload_n hC rfl 2 rfl (rfl : 33 + 1 = 34) (xdt tt_X11_at 19 rfl) ?_
        cases h
        exact g_iret hC hE (xdt tt_X11_at 20 rfl)
set_option maxRecDepth 100000 in
set_option maxHeartbeats 4000000 in
theorem c_X11_at_p3_0 (l : Launch) {E : xE} {S S' : xSt} {r0 : Nat} {a1 : Int} (hk0 : xkd E r0 = 3) (hA0 : xFam E r0) {v : Int} (h : f_X11_at_p3_0 S r0 a1 = some (v, S')) : Met l yX11_at (xws yX11_at cX11_at 3 (some .int)) (rmD 2) (YPc E [vr E r0 0, vi a1] S) (YQi E v S') 0 0 (xA E) := by
  unfold f_X11_at_p3_0 at h
  refine met_i (by decide +kernel) (Nat.le_of_ble_eq_true rfl) (fun K hC hZ hE => ?_)
  have hC : xOK K cX11_at RX11 3 (rmE 2 0) := hC
  show WG K E 0 [(0, vr E r0 0), (1, vi a1)] [] S
  refine g_iload_n hC rfl 1 rfl (rfl : 0 + 1 = 1) (xdt tt_X11_at 0 rfl) ?_
  refine g_if_ge hC (show ((1 : Nat) : Int) + 5 = ((6 : Nat) : Int) by decide) (rfl : 1 + 3 = 4) (xdt tt_X11_at 1 rfl) (fun hc8 => ?_) (fun hc8 => ?_)
  · replace h := (if_pos hc8).symm.trans h
    refine g_iconst hC (rfl : 6 + 1 = 7) (xdt tt_X11_at 4 rfl) ?_
    refine g_istore_n hC rfl (by decide) (lv' := [(2, vi 0), (0, vr E r0 0), (1, vi a1)]) rfl (rfl : 7 + 1 = 8) (xdt tt_X11_at 5 rfl) ?_
    refine g_sub [1, 2, 0] (lv' := [(0, vr E r0 0), (1, vi a1), (2, vi 0)]) rfl ?_
    exact k_X11_at_p3_0_b8 hC hZ hE hk0 hA0 _ _ _ _ h
  · replace h := (if_neg hc8).symm.trans h
    refine g_iconst hC (rfl : 4 + 1 = 5) (xdt tt_X11_at 2 rfl) ?_
    cases h
    exact g_iret hC hE (xdt tt_X11_at 3 rfl)
def f_X5_windowOf_p2_0 (S : xSt) (r0 : Nat) (a1 : Int) : Option (Int × xSt) :=
  if wr (gI S r0 1 1) ≤ 0 then
    (some (0, S))
  else
    (ckZ (gI S r0 1 1) <|
    some ((Int.tdiv (wr a1) (wr (gI S r0 1 1))), S))
set_option maxRecDepth 100000 in
set_option maxHeartbeats 4000000 in
theorem c_X5_windowOf_p2_0 (l : Launch) {E : xE} {S S' : xSt} {r0 : Nat} {a1 : Int} (hk0 : xkd E r0 = 2) {v : Int} (h : f_X5_windowOf_p2_0 S r0 a1 = some (v, S')) : Met l yX5_windowOf (xws yX5_windowOf cX5_windowOf 3 (some .int)) (rmD 1) (YPc E [vr E r0 0, vi a1] S) (YQi E v S') 0 0 (xA E) := by
  unfold f_X5_windowOf_p2_0 at h
  refine met_i (by decide +kernel) (Nat.le_of_ble_eq_true rfl) (fun K hC hZ hE => ?_)
  have hC : xOK K cX5_windowOf RX5 3 (rmE 1 0) := hC
  show WG K E 0 [(0, vr E r0 0), (1, vi a1)] [] S
  refine g_aload_n hC rfl 0 rfl (rfl : 0 + 1 = 1) (xdt tt_X5_windowOf 0 rfl) ?_
  refine g_getP hC hk0 kclX5 ly2_0 0 (by decide) (rfl : r0 + 0 = r0) rfl q59 (rfl : 1 + 3 = 4) (xdt tt_X5_windowOf 1 rfl) ?_
  refine g_iconst hC (rfl : 4 + 1 = 5) (xdt tt_X5_windowOf 2 rfl) ?_
  refine g_iald hC hk0 ly2_1 (by decide) (rfl : 5 + 1 = 6) (xdt tt_X5_windowOf 3 rfl) (k0 := 1) (by decide) ?_
  refine g_istore_n hC rfl (by decide) (lv' := [(2, vi (gI S r0 1 1)), (0, vr E r0 0), (1, vi a1)]) rfl (rfl : 6 + 1 = 7) (xdt tt_X5_windowOf 4 rfl) ?_
  refine g_iload_n hC rfl 0 rfl (rfl : 7 + 1 = 8) (xdt tt_X5_windowOf 5 rfl) ?_
  refine g_if_le hC (show ((8 : Nat) : Int) + 9 = ((17 : Nat) : Int) by decide) (rfl : 8 + 3 = 11) (xdt tt_X5_windowOf 6 rfl) (fun hc2 => ?_) (fun hc2 => ?_)
  · replace h := (if_pos hc2).symm.trans h
    refine g_iconst hC (rfl : 17 + 1 = 18) (xdt tt_X5_windowOf 11 rfl) ?_
    cases h
    exact g_iret hC hE (xdt tt_X5_windowOf 12 rfl)
  · replace h := (if_neg hc2).symm.trans h
    refine g_iload_n hC rfl 2 rfl (rfl : 11 + 1 = 12) (xdt tt_X5_windowOf 7 rfl) ?_
    refine g_iload_n hC rfl 0 rfl (rfl : 12 + 1 = 13) (xdt tt_X5_windowOf 8 rfl) ?_
    obtain ⟨hz1, h⟩ := ckZ_i h
    refine g_idiv hC hz1 (rfl : 13 + 1 = 14) (xdt tt_X5_windowOf 9 rfl) ?_
    refine g_goto hC (show ((14 : Nat) : Int) + 4 = ((18 : Nat) : Int) by decide) (xdt tt_X5_windowOf 10 rfl) ?_
    cases h
    exact g_iret hC hE (xdt tt_X5_windowOf 12 rfl)
def f_X5_crossesWindows_p2_0 (S : xSt) (r0 : Nat) (a1 : Int) : Option (Int × xSt) :=
  bd2 (f_X5_startOf_p2_0 S r0 a1) fun v3 S2 =>
  bd2 (f_X5_windowOf_p2_0 S2 r0 v3) fun v6 S5 =>
  bd2 (f_X5_startOf_p2_0 S5 r0 (a1 + 1)) fun v9 S8 =>
  bd2 (f_X5_windowOf_p2_0 S8 r0 (v9 - 1)) fun v12 S11 =>
  if wr v6 = wr v12 then
    (some (0, S11))
  else
    (some (1, S11))
set_option maxRecDepth 100000 in
set_option maxHeartbeats 4000000 in
theorem c_X5_crossesWindows_p2_0 (l : Launch) {E : xE} {S S' : xSt} {r0 : Nat} {a1 : Int} (hk0 : xkd E r0 = 2) {v : Int} (h : f_X5_crossesWindows_p2_0 S r0 a1 = some (v, S')) : Met l yX5_crossesWindows (xws yX5_crossesWindows cX5_crossesWindows 2 (some .boolean)) (rmD 2) (YPc E [vr E r0 0, vi a1] S) (YQz E v S') 0 0 (xA E) := by
  unfold f_X5_crossesWindows_p2_0 at h
  refine met_z (by decide +kernel) (Nat.le_of_ble_eq_true rfl) (fun K hC hZ hE => ?_)
  have hC : xOK K cX5_crossesWindows RX5 2 (rmE 2 0) := hC
  show WG K E 0 [(0, vr E r0 0), (1, vi a1)] [] S
  refine g_aload_n hC rfl 0 rfl (rfl : 0 + 1 = 1) (xdt tt_X5_crossesWindows 0 rfl) ?_
  refine g_aload_n hC rfl 0 rfl (rfl : 1 + 1 = 2) (xdt tt_X5_crossesWindows 1 rfl) ?_
  refine g_iload_n hC rfl 1 rfl (rfl : 2 + 1 = 3) (xdt tt_X5_crossesWindows 2 rfl) ?_
  obtain ⟨v3, S2, hc1, h⟩ := bd2_i h
  refine g_callVi hC hZ hk0 kclX5 ly2_0 m_X5_startOf q606 (Nat.le_of_ble_eq_true rfl) [vi a1] rfl (fun l => c_X5_startOf_p2_0 l hk0 hc1) rfl (Nat.le_of_ble_eq_true rfl) (rfl : 3 + 3 = 6) (xdt tt_X5_crossesWindows 3 rfl) ?_
  obtain ⟨v6, S5, hc4, h⟩ := bd2_i h
  refine g_callVi hC hZ hk0 kclX5 ly2_0 m_X5_windowOf q696 (Nat.le_of_ble_eq_true rfl) [vi v3] rfl (fun l => c_X5_windowOf_p2_0 l hk0 hc4) rfl (Nat.le_of_ble_eq_true rfl) (rfl : 6 + 3 = 9) (xdt tt_X5_crossesWindows 4 rfl) ?_
  refine g_aload_n hC rfl 0 rfl (rfl : 9 + 1 = 10) (xdt tt_X5_crossesWindows 5 rfl) ?_
  refine g_aload_n hC rfl 0 rfl (rfl : 10 + 1 = 11) (xdt tt_X5_crossesWindows 6 rfl) ?_
  refine g_iload_n hC rfl 1 rfl (rfl : 11 + 1 = 12) (xdt tt_X5_crossesWindows 7 rfl) ?_
  refine g_iconst hC (rfl : 12 + 1 = 13) (xdt tt_X5_crossesWindows 8 rfl) ?_
  refine g_iadd hC (rfl : 13 + 1 = 14) (xdt tt_X5_crossesWindows 9 rfl) ?_
  obtain ⟨v9, S8, hc7, h⟩ := bd2_i h
  refine g_callVi hC hZ hk0 kclX5 ly2_0 m_X5_startOf q606 (Nat.le_of_ble_eq_true rfl) [vi (a1 + 1)] rfl (fun l => c_X5_startOf_p2_0 l hk0 hc7) rfl (Nat.le_of_ble_eq_true rfl) (rfl : 14 + 3 = 17) (xdt tt_X5_crossesWindows 10 rfl) ?_
  refine g_iconst hC (rfl : 17 + 1 = 18) (xdt tt_X5_crossesWindows 11 rfl) ?_
  refine g_isub hC (rfl : 18 + 1 = 19) (xdt tt_X5_crossesWindows 12 rfl) ?_
  obtain ⟨v12, S11, hc10, h⟩ := bd2_i h
  refine g_callVi hC hZ hk0 kclX5 ly2_0 m_X5_windowOf q696 (Nat.le_of_ble_eq_true rfl) [vi (v9 - 1)] rfl (fun l => c_X5_windowOf_p2_0 l hk0 hc10) rfl (Nat.le_of_ble_eq_true rfl) (rfl : 19 + 3 = 22) (xdt tt_X5_crossesWindows 13 rfl) ?_
  refine g_icmp_eq hC (show ((22 : Nat) : Int) + 7 = ((29 : Nat) : Int) by decide) (rfl : 22 + 3 = 25) (xdt tt_X5_crossesWindows 14 rfl) (fun hc13 => ?_) (fun hc13 => ?_)
  · replace h := (if_pos hc13).symm.trans h
    refine g_iconst hC (rfl : 29 + 1 = 30) (xdt tt_X5_crossesWindows 17 rfl) ?_
    cases h
    exact g_zret hC hE (Or.inl rfl) (xdt tt_X5_crossesWindows 18 rfl)
  · replace h := (if_neg hc13).symm.trans h
    refine g_iconst hC (rfl : 25 + 1 = 26) (xdt tt_X5_crossesWindows 15 rfl) ?_
    refine g_goto hC (show ((26 : Nat) : Int) + 4 = ((30 : Nat) : Int) by decide) (xdt tt_X5_crossesWindows 16 rfl) ?_
    cases h
    exact g_zret hC hE (Or.inr rfl) (xdt tt_X5_crossesWindows 18 rfl)
def f_X8_has_p1_2_b2 (r0 : Nat) : Nat → xSt → Int → Int → Int → Option (Int × xSt)
  | 0, _, _, _, _ => none
  | fuel + 1, S, x1, x2, x3 =>
    if wr (gI S r0 2 2) ≤ wr x3 then
      (some (0, S))
    else
      (ckI x3 7 <|
      if ¬ wr (gI S r0 3 (wr x3).toNat) = wr x1 then
        ((f_X8_has_p1_2_b2 r0 fuel) S x1 x2 (x3 + 1))
      else
        (ckI x3 7 <|
        if ¬ wr (gI S r0 4 (wr x3).toNat) = wr x2 then
          ((f_X8_has_p1_2_b2 r0 fuel) S x1 x2 (x3 + 1))
        else
          (some (1, S))))
def f_X8_has_p1_2 (S : xSt) (r0 : Nat) (a1 : Int) (a2 : Int) : Option (Int × xSt) :=
  f_X8_has_p1_2_b2 r0 (fu S) S a1 a2 0
set_option maxRecDepth 100000 in
set_option maxHeartbeats 4000000 in
theorem k_X8_has_p1_2_b2 {K : xCtx} {E : xE} {b : Nat} (hC : xOK K cX8_has RX8 4 (rmE 1 b)) (hZ : xZ K) {v : Int} {S' : xSt} (hE : xEnd K E (some .boolean) (YQz E v S')) {r0 : Nat} (hk0 : xkd E r0 = 1) : ∀ (fuel : Nat) (S : xSt) (x1 : Int) (x2 : Int) (x3 : Int), f_X8_has_p1_2_b2 r0 fuel S x1 x2 x3 = some (v, S') → WG K E 2 [(0, vr E r0 2), (1, vi x1), (2, vi x2), (3, vi x3)] [] S := by
  intro fuel
  induction fuel with
  | zero => intro S x1 x2 x3 h; cases h
  | succ fuel ih =>
    intro S x1 x2 x3 h
    rw [f_X8_has_p1_2_b2] at h
    refine g_iload_n hC rfl 3 rfl (rfl : 2 + 1 = 3) (xdt tt_X8_has 2 rfl) ?_
    refine g_aload_n hC rfl 0 rfl (rfl : 3 + 1 = 4) (xdt tt_X8_has 3 rfl) ?_
    refine g_getI hC hk0 kclX8 ly1_2 2 (by decide) rfl q167 (rfl : 4 + 3 = 7) (xdt tt_X8_has 4 rfl) ?_
    refine g_icmp_ge hC (show ((7 : Nat) : Int) + 31 = ((38 : Nat) : Int) by decide) (rfl : 7 + 3 = 10) (xdt tt_X8_has 5 rfl) (fun hc5 => ?_) (fun hc5 => ?_)
    · replace h := (if_pos hc5).symm.trans h
      refine g_iconst hC (rfl : 38 + 1 = 39) (xdt tt_X8_has 22 rfl) ?_
      cases h
      exact g_zret hC hE (Or.inl rfl) (xdt tt_X8_has 23 rfl)
    · replace h := (if_neg hc5).symm.trans h
      refine g_aload_n hC rfl 0 rfl (rfl : 10 + 1 = 11) (xdt tt_X8_has 6 rfl) ?_
      refine g_getP hC hk0 kclX8 ly1_2 0 (by decide) (rfl : r0 + 0 = r0) rfl q75 (rfl : 11 + 3 = 14) (xdt tt_X8_has 7 rfl) ?_
      refine g_iload_n hC rfl 3 rfl (rfl : 14 + 1 = 15) (xdt tt_X8_has 8 rfl) ?_
      obtain ⟨hi1, h⟩ := ckI_i h
      refine g_iald hC hk0 ly1_3 hi1 (rfl : 15 + 1 = 16) (xdt tt_X8_has 9 rfl) (k0 := (wr x3).toNat) rfl ?_
      refine g_iload_n hC rfl 1 rfl (rfl : 16 + 1 = 17) (xdt tt_X8_has 10 rfl) ?_
      refine g_icmp_ne hC (show ((17 : Nat) : Int) + 15 = ((32 : Nat) : Int) by decide) (rfl : 17 + 3 = 20) (xdt tt_X8_has 11 rfl) (fun hc4 => ?_) (fun hc4 => ?_)
      · replace h := (if_pos hc4).symm.trans h
        refine g_iinc hC 3 rfl (by decide) (lv' := [(3, vi (x3 + 1)), (0, vr E r0 2), (1, vi x1), (2, vi x2)]) rfl (rfl : 32 + 3 = 35) (xdt tt_X8_has 20 rfl) ?_
        refine g_goto hC (show ((35 : Nat) : Int) + (-33) = ((2 : Nat) : Int) by decide) (xdt tt_X8_has 21 rfl) ?_
        refine g_sub [1, 2, 3, 0] (lv' := [(0, vr E r0 2), (1, vi x1), (2, vi x2), (3, vi (x3 + 1))]) rfl ?_
        exact ih _ _ _ _ h
      · replace h := (if_neg hc4).symm.trans h
        refine g_aload_n hC rfl 0 rfl (rfl : 20 + 1 = 21) (xdt tt_X8_has 12 rfl) ?_
        refine g_getP hC hk0 kclX8 ly1_2 1 (by decide) (rfl : r0 + 0 = r0) rfl q76 (rfl : 21 + 3 = 24) (xdt tt_X8_has 13 rfl) ?_
        refine g_iload_n hC rfl 3 rfl (rfl : 24 + 1 = 25) (xdt tt_X8_has 14 rfl) ?_
        obtain ⟨hi2, h⟩ := ckI_i h
        refine g_iald hC hk0 ly1_4 hi2 (rfl : 25 + 1 = 26) (xdt tt_X8_has 15 rfl) (k0 := (wr x3).toNat) rfl ?_
        refine g_iload_n hC rfl 2 rfl (rfl : 26 + 1 = 27) (xdt tt_X8_has 16 rfl) ?_
        refine g_icmp_ne hC (show ((27 : Nat) : Int) + 5 = ((32 : Nat) : Int) by decide) (rfl : 27 + 3 = 30) (xdt tt_X8_has 17 rfl) (fun hc3 => ?_) (fun hc3 => ?_)
        · replace h := (if_pos hc3).symm.trans h
          refine g_iinc hC 3 rfl (by decide) (lv' := [(3, vi (x3 + 1)), (0, vr E r0 2), (1, vi x1), (2, vi x2)]) rfl (rfl : 32 + 3 = 35) (xdt tt_X8_has 20 rfl) ?_
          refine g_goto hC (show ((35 : Nat) : Int) + (-33) = ((2 : Nat) : Int) by decide) (xdt tt_X8_has 21 rfl) ?_
          refine g_sub [1, 2, 3, 0] (lv' := [(0, vr E r0 2), (1, vi x1), (2, vi x2), (3, vi (x3 + 1))]) rfl ?_
          exact ih _ _ _ _ h
        · replace h := (if_neg hc3).symm.trans h
          refine g_iconst hC (rfl : 30 + 1 = 31) (xdt tt_X8_has 18 rfl) ?_
          cases h
          exact g_zret hC hE (Or.inr rfl) (xdt tt_X8_has 19 rfl)
set_option maxRecDepth 100000 in
set_option maxHeartbeats 4000000 in
theorem c_X8_has_p1_2 (l : Launch) {E : xE} {S S' : xSt} {r0 : Nat} {a1 : Int} {a2 : Int} (hk0 : xkd E r0 = 1) {v : Int} (h : f_X8_has_p1_2 S r0 a1 a2 = some (v, S')) : Met l yX8_has (xws yX8_has cX8_has 4 (some .boolean)) (rmD 1) (YPc E [vr E r0 2, vi a1, vi a2] S) (YQz E v S') 0 0 (xA E) := by
  unfold f_X8_has_p1_2 at h
  refine met_z (by decide +kernel) (Nat.le_of_ble_eq_true rfl) (fun K hC hZ hE => ?_)
  have hC : xOK K cX8_has RX8 4 (rmE 1 0) := hC
  show WG K E 0 [(0, vr E r0 2), (1, vi a1), (2, vi a2)] [] S
  refine g_iconst hC (rfl : 0 + 1 = 1) (xdt tt_X8_has 0 rfl) ?_
  refine g_istore_n hC rfl (by decide) (lv' := [(3, vi 0), (0, vr E r0 2), (1, vi a1), (2, vi a2)]) rfl (rfl : 1 + 1 = 2) (xdt tt_X8_has 1 rfl) ?_
  refine g_sub [1, 2, 3, 0] (lv' := [(0, vr E r0 2), (1, vi a1), (2, vi a2), (3, vi 0)]) rfl ?_
  exact k_X8_has_p1_2_b2 hC hZ hE hk0 _ _ _ _ _ h
def f_X0_fusesWithNext_p1_0 (S : xSt) (r0 : Nat) (a1 : Int) : Option (Int × xSt) :=
  if wr a1 < 0 then
    (some (0, S))
  else
    (ckP S r0 0 0 2 0 fun rg1 =>
    if wr (gI S rg1 0 10) ≤ wr (a1 + 1) then
      (some (0, S))
    else
      (ckP S r0 0 0 2 0 fun rg2 =>
      ckI a1 60 <|
      if ¬ wr (gI S rg2 6 (wr a1).toNat) = 0 then
        (some (0, S))
      else
        (ckP S r0 0 0 2 0 fun rg4 =>
        ckI (a1 + 1) 60 <|
        if wr (gI S rg4 6 (wr (a1 + 1)).toNat) = 0 then
          (ckP S r0 0 0 2 0 fun rg6 =>
          ckI a1 60 <|
          ckP S r0 0 0 2 0 fun rg8 =>
          ckI (a1 + 1) 60 <|
          bd2 (f_X8_has_p1_2 S r0 (gI S rg6 5 (wr a1).toNat) (gI S rg8 5 (wr (a1 + 1)).toNat)) fun v12 S11 =>
          if wr v12 = 0 then
            (some (0, S11))
          else
            (ckP S11 r0 0 0 2 0 fun rg14 =>
            ckP S11 r0 0 0 2 0 fun rg15 =>
            ckI a1 61 <|
            bd2 (f_X5_windowOf_p2_0 S11 rg14 (gI S11 rg15 9 (wr a1).toNat)) fun v19 S18 =>
            ckP S18 r0 0 0 2 0 fun rg20 =>
            ckP S18 r0 0 0 2 0 fun rg21 =>
            ckI (a1 + 1) 61 <|
            bd2 (f_X5_windowOf_p2_0 S18 rg20 (gI S18 rg21 9 (wr (a1 + 1)).toNat)) fun v25 S24 =>
            if ¬ wr v19 = wr v25 then
              (some (0, S24))
            else
              (some (1, S24))))
        else
          (some (0, S)))))
set_option maxRecDepth 100000 in
set_option maxHeartbeats 4000000 in
theorem c_X0_fusesWithNext_p1_0 (l : Launch) {E : xE} {S S' : xSt} {r0 : Nat} {a1 : Int} (hk0 : xkd E r0 = 1) {v : Int} (h : f_X0_fusesWithNext_p1_0 S r0 a1 = some (v, S')) : Met l yX0_fusesWithNext (xws yX0_fusesWithNext cX0_fusesWithNext 3 (some .boolean)) (rmD 2) (YPc E [vr E r0 0, vi a1] S) (YQz E v S') 0 0 (xA E) := by
  unfold f_X0_fusesWithNext_p1_0 at h
  refine met_z (by decide +kernel) (Nat.le_of_ble_eq_true rfl) (fun K hC hZ hE => ?_)
  have hC : xOK K cX0_fusesWithNext RX0 3 (rmE 2 0) := hC
  show WG K E 0 [(0, vr E r0 0), (1, vi a1)] [] S
  refine g_iload_n hC rfl 1 rfl (rfl : 0 + 1 = 1) (xdt tt_X0_fusesWithNext 0 rfl) ?_
  refine g_iconst hC (rfl : 1 + 1 = 2) (xdt tt_X0_fusesWithNext 1 rfl) ?_
  refine g_iadd hC (rfl : 2 + 1 = 3) (xdt tt_X0_fusesWithNext 2 rfl) ?_
  refine g_istore_n hC rfl (by decide) (lv' := [(2, vi (a1 + 1)), (0, vr E r0 0), (1, vi a1)]) rfl (rfl : 3 + 1 = 4) (xdt tt_X0_fusesWithNext 3 rfl) ?_
  refine g_iload_n hC rfl 2 rfl (rfl : 4 + 1 = 5) (xdt tt_X0_fusesWithNext 4 rfl) ?_
  refine g_if_lt hC (show ((5 : Nat) : Int) + 38 = ((43 : Nat) : Int) by decide) (rfl : 5 + 3 = 8) (xdt tt_X0_fusesWithNext 5 rfl) (fun hc31 => ?_) (fun hc31 => ?_)
  · replace h := (if_pos hc31).symm.trans h
    refine g_iconst hC (rfl : 43 + 1 = 44) (xdt tt_X0_fusesWithNext 23 rfl) ?_
    cases h
    exact g_zret hC hE (Or.inl rfl) (xdt tt_X0_fusesWithNext 24 rfl)
  · replace h := (if_neg hc31).symm.trans h
    refine g_iload_n hC rfl 0 rfl (rfl : 8 + 1 = 9) (xdt tt_X0_fusesWithNext 6 rfl) ?_
    refine g_aload_n hC rfl 1 rfl (rfl : 9 + 1 = 10) (xdt tt_X0_fusesWithNext 7 rfl) ?_
    obtain ⟨rg1, hrg1, grg1, h⟩ := ckP_i h
    refine g_getV hC hk0 kclX0 ly1_0 0 (by decide) rfl hrg1 grg1 (by decide) q146 (rfl : 10 + 3 = 13) (xdt tt_X0_fusesWithNext 8 rfl) (fun krg1 => ?_)
    refine g_getI hC krg1 kclX5 ly2_0 10 (by decide) rfl q644 (rfl : 13 + 3 = 16) (xdt tt_X0_fusesWithNext 9 rfl) ?_
    refine g_icmp_ge hC (show ((16 : Nat) : Int) + 27 = ((43 : Nat) : Int) by decide) (rfl : 16 + 3 = 19) (xdt tt_X0_fusesWithNext 10 rfl) (fun hc30 => ?_) (fun hc30 => ?_)
    · replace h := (if_pos hc30).symm.trans h
      refine g_iconst hC (rfl : 43 + 1 = 44) (xdt tt_X0_fusesWithNext 23 rfl) ?_
      cases h
      exact g_zret hC hE (Or.inl rfl) (xdt tt_X0_fusesWithNext 24 rfl)
    · replace h := (if_neg hc30).symm.trans h
      refine g_aload_n hC rfl 1 rfl (rfl : 19 + 1 = 20) (xdt tt_X0_fusesWithNext 11 rfl) ?_
      obtain ⟨rg2, hrg2, grg2, h⟩ := ckP_i h
      refine g_getV hC hk0 kclX0 ly1_0 0 (by decide) rfl hrg2 grg2 (by decide) q146 (rfl : 20 + 3 = 23) (xdt tt_X0_fusesWithNext 12 rfl) (fun krg2 => ?_)
      refine g_getP hC krg2 kclX5 ly2_0 3 (by decide) (rfl : rg2 + 0 = rg2) rfl q723 (rfl : 23 + 3 = 26) (xdt tt_X0_fusesWithNext 13 rfl) ?_
      refine g_iload_n hC rfl 2 rfl (rfl : 26 + 1 = 27) (xdt tt_X0_fusesWithNext 14 rfl) ?_
      obtain ⟨hi3, h⟩ := ckI_i h
      refine g_zald hC krg2 ly2_6 hi3 (rfl : 27 + 1 = 28) (xdt tt_X0_fusesWithNext 15 rfl) (k0 := (wr a1).toNat) rfl ?_
      refine g_if_ne hC (show ((28 : Nat) : Int) + 15 = ((43 : Nat) : Int) by decide) (rfl : 28 + 3 = 31) (xdt tt_X0_fusesWithNext 16 rfl) (fun hc29 => ?_) (fun hc29 => ?_)
      · replace h := (if_pos hc29).symm.trans h
        refine g_iconst hC (rfl : 43 + 1 = 44) (xdt tt_X0_fusesWithNext 23 rfl) ?_
        cases h
        exact g_zret hC hE (Or.inl rfl) (xdt tt_X0_fusesWithNext 24 rfl)
      · replace h := (if_neg hc29).symm.trans h
        refine g_aload_n hC rfl 1 rfl (rfl : 31 + 1 = 32) (xdt tt_X0_fusesWithNext 17 rfl) ?_
        obtain ⟨rg4, hrg4, grg4, h⟩ := ckP_i h
        refine g_getV hC hk0 kclX0 ly1_0 0 (by decide) rfl hrg4 grg4 (by decide) q146 (rfl : 32 + 3 = 35) (xdt tt_X0_fusesWithNext 18 rfl) (fun krg4 => ?_)
        refine g_getP hC krg4 kclX5 ly2_0 3 (by decide) (rfl : rg4 + 0 = rg4) rfl q723 (rfl : 35 + 3 = 38) (xdt tt_X0_fusesWithNext 19 rfl) ?_
        refine g_iload_n hC rfl 0 rfl (rfl : 38 + 1 = 39) (xdt tt_X0_fusesWithNext 20 rfl) ?_
        obtain ⟨hi5, h⟩ := ckI_i h
        refine g_zald hC krg4 ly2_6 hi5 (rfl : 39 + 1 = 40) (xdt tt_X0_fusesWithNext 21 rfl) (k0 := (wr (a1 + 1)).toNat) rfl ?_
        refine g_if_eq hC (show ((40 : Nat) : Int) + 5 = ((45 : Nat) : Int) by decide) (rfl : 40 + 3 = 43) (xdt tt_X0_fusesWithNext 22 rfl) (fun hc28 => ?_) (fun hc28 => ?_)
        · replace h := (if_pos hc28).symm.trans h
          refine g_aload_n hC rfl 1 rfl (rfl : 45 + 1 = 46) (xdt tt_X0_fusesWithNext 25 rfl) ?_
          refine g_getP hC hk0 kclX0 ly1_0 2 (by decide) (rfl : r0 + 0 = r0) rfl q98 (rfl : 46 + 3 = 49) (xdt tt_X0_fusesWithNext 26 rfl) ?_
          refine g_aload_n hC rfl 1 rfl (rfl : 49 + 1 = 50) (xdt tt_X0_fusesWithNext 27 rfl) ?_
          obtain ⟨rg6, hrg6, grg6, h⟩ := ckP_i h
          refine g_getV hC hk0 kclX0 ly1_0 0 (by decide) rfl hrg6 grg6 (by decide) q146 (rfl : 50 + 3 = 53) (xdt tt_X0_fusesWithNext 28 rfl) (fun krg6 => ?_)
          refine g_getP hC krg6 kclX5 ly2_0 2 (by decide) (rfl : rg6 + 0 = rg6) rfl q645 (rfl : 53 + 3 = 56) (xdt tt_X0_fusesWithNext 29 rfl) ?_
          refine g_iload_n hC rfl 2 rfl (rfl : 56 + 1 = 57) (xdt tt_X0_fusesWithNext 30 rfl) ?_
          obtain ⟨hi7, h⟩ := ckI_i h
          refine g_iald hC krg6 ly2_5 hi7 (rfl : 57 + 1 = 58) (xdt tt_X0_fusesWithNext 31 rfl) (k0 := (wr a1).toNat) rfl ?_
          refine g_aload_n hC rfl 1 rfl (rfl : 58 + 1 = 59) (xdt tt_X0_fusesWithNext 32 rfl) ?_
          obtain ⟨rg8, hrg8, grg8, h⟩ := ckP_i h
          refine g_getV hC hk0 kclX0 ly1_0 0 (by decide) rfl hrg8 grg8 (by decide) q146 (rfl : 59 + 3 = 62) (xdt tt_X0_fusesWithNext 33 rfl) (fun krg8 => ?_)
          refine g_getP hC krg8 kclX5 ly2_0 2 (by decide) (rfl : rg8 + 0 = rg8) rfl q645 (rfl : 62 + 3 = 65) (xdt tt_X0_fusesWithNext 34 rfl) ?_
          refine g_iload_n hC rfl 0 rfl (rfl : 65 + 1 = 66) (xdt tt_X0_fusesWithNext 35 rfl) ?_
          obtain ⟨hi9, h⟩ := ckI_i h
          refine g_iald hC krg8 ly2_5 hi9 (rfl : 66 + 1 = 67) (xdt tt_X0_fusesWithNext 36 rfl) (k0 := (wr (a1 + 1)).toNat) rfl ?_
          obtain ⟨v12, S11, hc10, h⟩ := bd2_i h
          refine g_callVz hC hZ hk0 kclX8 ly1_2 m_X8_has q725 (Nat.le_of_ble_eq_true rfl) [vi (gI S rg6 5 (wr a1).toNat), vi (gI S rg8 5 (wr (a1 + 1)).toNat)] rfl (fun l => c_X8_has_p1_2 l hk0 hc10) rfl (Nat.le_of_ble_eq_true rfl) (rfl : 67 + 3 = 70) (xdt tt_X0_fusesWithNext 37 rfl) (fun hb13 => ?_)
          refine g_if_eq hC (show ((70 : Nat) : Int) + 42 = ((112 : Nat) : Int) by decide) (rfl : 70 + 3 = 73) (xdt tt_X0_fusesWithNext 38 rfl) (fun hc27 => ?_) (fun hc27 => ?_)
          · replace h := (if_pos hc27).symm.trans h
            refine g_iconst hC (rfl : 112 + 1 = 113) (xdt tt_X0_fusesWithNext 58 rfl) ?_
            cases h
            exact g_zret hC hE (Or.inl rfl) (xdt tt_X0_fusesWithNext 59 rfl)
          · replace h := (if_neg hc27).symm.trans h
            refine g_aload_n hC rfl 1 rfl (rfl : 73 + 1 = 74) (xdt tt_X0_fusesWithNext 39 rfl) ?_
            obtain ⟨rg14, hrg14, grg14, h⟩ := ckP_i h
            refine g_getV hC hk0 kclX0 ly1_0 0 (by decide) rfl hrg14 grg14 (by decide) q146 (rfl : 74 + 3 = 77) (xdt tt_X0_fusesWithNext 40 rfl) (fun krg14 => ?_)
            refine g_aload_n hC rfl 1 rfl (rfl : 77 + 1 = 78) (xdt tt_X0_fusesWithNext 41 rfl) ?_
            obtain ⟨rg15, hrg15, grg15, h⟩ := ckP_i h
            refine g_getV hC hk0 kclX0 ly1_0 0 (by decide) rfl hrg15 grg15 (by decide) q146 (rfl : 78 + 3 = 81) (xdt tt_X0_fusesWithNext 42 rfl) (fun krg15 => ?_)
            refine g_getP hC krg15 kclX5 ly2_0 6 (by decide) (rfl : rg15 + 0 = rg15) rfl q724 (rfl : 81 + 3 = 84) (xdt tt_X0_fusesWithNext 43 rfl) ?_
            refine g_iload_n hC rfl 2 rfl (rfl : 84 + 1 = 85) (xdt tt_X0_fusesWithNext 44 rfl) ?_
            obtain ⟨hi16, h⟩ := ckI_i h
            refine g_iald hC krg15 ly2_9 hi16 (rfl : 85 + 1 = 86) (xdt tt_X0_fusesWithNext 45 rfl) (k0 := (wr a1).toNat) rfl ?_
            obtain ⟨v19, S18, hc17, h⟩ := bd2_i h
            refine g_callVi hC hZ krg14 kclX5 ly2_0 m_X5_windowOf q726 (Nat.le_of_ble_eq_true rfl) [vi (gI S11 rg15 9 (wr a1).toNat)] rfl (fun l => c_X5_windowOf_p2_0 l krg14 hc17) rfl (Nat.le_of_ble_eq_true rfl) (rfl : 86 + 3 = 89) (xdt tt_X0_fusesWithNext 46 rfl) ?_
            refine g_aload_n hC rfl 1 rfl (rfl : 89 + 1 = 90) (xdt tt_X0_fusesWithNext 47 rfl) ?_
            obtain ⟨rg20, hrg20, grg20, h⟩ := ckP_i h
            refine g_getV hC hk0 kclX0 ly1_0 0 (by decide) rfl hrg20 grg20 (by decide) q146 (rfl : 90 + 3 = 93) (xdt tt_X0_fusesWithNext 48 rfl) (fun krg20 => ?_)
            refine g_aload_n hC rfl 1 rfl (rfl : 93 + 1 = 94) (xdt tt_X0_fusesWithNext 49 rfl) ?_
            obtain ⟨rg21, hrg21, grg21, h⟩ := ckP_i h
            refine g_getV hC hk0 kclX0 ly1_0 0 (by decide) rfl hrg21 grg21 (by decide) q146 (rfl : 94 + 3 = 97) (xdt tt_X0_fusesWithNext 50 rfl) (fun krg21 => ?_)
            refine g_getP hC krg21 kclX5 ly2_0 6 (by decide) (rfl : rg21 + 0 = rg21) rfl q724 (rfl : 97 + 3 = 100) (xdt tt_X0_fusesWithNext 51 rfl) ?_
            refine g_iload_n hC rfl 0 rfl (rfl : 100 + 1 = 101) (xdt tt_X0_fusesWithNext 52 rfl) ?_
            obtain ⟨hi22, h⟩ := ckI_i h
            refine g_iald hC krg21 ly2_9 hi22 (rfl : 101 + 1 = 102) (xdt tt_X0_fusesWithNext 53 rfl) (k0 := (wr (a1 + 1)).toNat) rfl ?_
            obtain ⟨v25, S24, hc23, h⟩ := bd2_i h
            refine g_callVi hC hZ krg20 kclX5 ly2_0 m_X5_windowOf q726 (Nat.le_of_ble_eq_true rfl) [vi (gI S18 rg21 9 (wr (a1 + 1)).toNat)] rfl (fun l => c_X5_windowOf_p2_0 l krg20 hc23) rfl (Nat.le_of_ble_eq_true rfl) (rfl : 102 + 3 = 105) (xdt tt_X0_fusesWithNext 54 rfl) ?_
            refine g_icmp_ne hC (show ((105 : Nat) : Int) + 7 = ((112 : Nat) : Int) by decide) (rfl : 105 + 3 = 108) (xdt tt_X0_fusesWithNext 55 rfl) (fun hc26 => ?_) (fun hc26 => ?_)
            · replace h := (if_pos hc26).symm.trans h
              refine g_iconst hC (rfl : 112 + 1 = 113) (xdt tt_X0_fusesWithNext 58 rfl) ?_
              cases h
              exact g_zret hC hE (Or.inl rfl) (xdt tt_X0_fusesWithNext 59 rfl)
            · replace h := (if_neg hc26).symm.trans h
              refine g_iconst hC (rfl : 108 + 1 = 109) (xdt tt_X0_fusesWithNext 56 rfl) ?_
              refine g_goto hC (show ((109 : Nat) : Int) + 4 = ((113 : Nat) : Int) by decide) (xdt tt_X0_fusesWithNext 57 rfl) ?_
              cases h
              exact g_zret hC hE (Or.inr rfl) (xdt tt_X0_fusesWithNext 59 rfl)
        · replace h := (if_neg hc28).symm.trans h
          refine g_iconst hC (rfl : 43 + 1 = 44) (xdt tt_X0_fusesWithNext 23 rfl) ?_
          cases h
          exact g_zret hC hE (Or.inl rfl) (xdt tt_X0_fusesWithNext 24 rfl)
def f_X0_closesLoop_p1_0 (S : xSt) (r0 : Nat) (a1 : Int) : Option (Int × xSt) :=
  if wr a1 < 0 then
    (some (0, S))
  else
    (ckP S r0 0 0 2 0 fun rg1 =>
    if wr a1 < wr (gI S rg1 0 10) then
      (ckP S r0 0 0 2 0 fun rg2 =>
      ckI a1 60 <|
      if wr (gI S rg2 12 (wr a1).toNat) = wr (-1) then
        (some (0, S))
      else
        (ckP S r0 0 0 2 0 fun rg4 =>
        ckI a1 60 <|
        if wr (gI S r0 1 5) < wr (gI S rg4 12 (wr a1).toNat) then
          (some (0, S))
        else
          (some (1, S))))
    else
      (some (0, S)))
set_option maxRecDepth 100000 in
set_option maxHeartbeats 4000000 in
theorem c_X0_closesLoop_p1_0 (l : Launch) {E : xE} {S S' : xSt} {r0 : Nat} {a1 : Int} (hk0 : xkd E r0 = 1) {v : Int} (h : f_X0_closesLoop_p1_0 S r0 a1 = some (v, S')) : Met l yX0_closesLoop (xws yX0_closesLoop cX0_closesLoop 2 (some .boolean)) (rmD 1) (YPc E [vr E r0 0, vi a1] S) (YQz E v S') 0 0 (xA E) := by
  unfold f_X0_closesLoop_p1_0 at h
  refine met_z (by decide +kernel) (Nat.le_of_ble_eq_true rfl) (fun K hC hZ hE => ?_)
  have hC : xOK K cX0_closesLoop RX0 2 (rmE 1 0) := hC
  show WG K E 0 [(0, vr E r0 0), (1, vi a1)] [] S
  refine g_iload_n hC rfl 1 rfl (rfl : 0 + 1 = 1) (xdt tt_X0_closesLoop 0 rfl) ?_
  refine g_if_lt hC (show ((1 : Nat) : Int) + 14 = ((15 : Nat) : Int) by decide) (rfl : 1 + 3 = 4) (xdt tt_X0_closesLoop 1 rfl) (fun hc9 => ?_) (fun hc9 => ?_)
  · replace h := (if_pos hc9).symm.trans h
    refine g_iconst hC (rfl : 15 + 1 = 16) (xdt tt_X0_closesLoop 7 rfl) ?_
    cases h
    exact g_zret hC hE (Or.inl rfl) (xdt tt_X0_closesLoop 8 rfl)
  · replace h := (if_neg hc9).symm.trans h
    refine g_iload_n hC rfl 1 rfl (rfl : 4 + 1 = 5) (xdt tt_X0_closesLoop 2 rfl) ?_
    refine g_aload_n hC rfl 0 rfl (rfl : 5 + 1 = 6) (xdt tt_X0_closesLoop 3 rfl) ?_
    obtain ⟨rg1, hrg1, grg1, h⟩ := ckP_i h
    refine g_getV hC hk0 kclX0 ly1_0 0 (by decide) rfl hrg1 grg1 (by decide) q146 (rfl : 6 + 3 = 9) (xdt tt_X0_closesLoop 4 rfl) (fun krg1 => ?_)
    refine g_getI hC krg1 kclX5 ly2_0 10 (by decide) rfl q644 (rfl : 9 + 3 = 12) (xdt tt_X0_closesLoop 5 rfl) ?_
    refine g_icmp_lt hC (show ((12 : Nat) : Int) + 5 = ((17 : Nat) : Int) by decide) (rfl : 12 + 3 = 15) (xdt tt_X0_closesLoop 6 rfl) (fun hc8 => ?_) (fun hc8 => ?_)
    · replace h := (if_pos hc8).symm.trans h
      refine g_aload_n hC rfl 0 rfl (rfl : 17 + 1 = 18) (xdt tt_X0_closesLoop 9 rfl) ?_
      obtain ⟨rg2, hrg2, grg2, h⟩ := ckP_i h
      refine g_getV hC hk0 kclX0 ly1_0 0 (by decide) rfl hrg2 grg2 (by decide) q146 (rfl : 18 + 3 = 21) (xdt tt_X0_closesLoop 10 rfl) (fun krg2 => ?_)
      refine g_getP hC krg2 kclX5 ly2_0 9 (by decide) (rfl : rg2 + 0 = rg2) rfl q750 (rfl : 21 + 3 = 24) (xdt tt_X0_closesLoop 11 rfl) ?_
      refine g_iload_n hC rfl 1 rfl (rfl : 24 + 1 = 25) (xdt tt_X0_closesLoop 12 rfl) ?_
      obtain ⟨hi3, h⟩ := ckI_i h
      refine g_iald hC krg2 ly2_12 hi3 (rfl : 25 + 1 = 26) (xdt tt_X0_closesLoop 13 rfl) (k0 := (wr a1).toNat) rfl ?_
      refine g_iconst hC (rfl : 26 + 1 = 27) (xdt tt_X0_closesLoop 14 rfl) ?_
      refine g_icmp_eq hC (show ((27 : Nat) : Int) + 25 = ((52 : Nat) : Int) by decide) (rfl : 27 + 3 = 30) (xdt tt_X0_closesLoop 15 rfl) (fun hc7 => ?_) (fun hc7 => ?_)
      · replace h := (if_pos hc7).symm.trans h
        refine g_iconst hC (rfl : 52 + 1 = 53) (xdt tt_X0_closesLoop 28 rfl) ?_
        cases h
        exact g_zret hC hE (Or.inl rfl) (xdt tt_X0_closesLoop 29 rfl)
      · replace h := (if_neg hc7).symm.trans h
        refine g_aload_n hC rfl 0 rfl (rfl : 30 + 1 = 31) (xdt tt_X0_closesLoop 16 rfl) ?_
        obtain ⟨rg4, hrg4, grg4, h⟩ := ckP_i h
        refine g_getV hC hk0 kclX0 ly1_0 0 (by decide) rfl hrg4 grg4 (by decide) q146 (rfl : 31 + 3 = 34) (xdt tt_X0_closesLoop 17 rfl) (fun krg4 => ?_)
        refine g_getP hC krg4 kclX5 ly2_0 9 (by decide) (rfl : rg4 + 0 = rg4) rfl q750 (rfl : 34 + 3 = 37) (xdt tt_X0_closesLoop 18 rfl) ?_
        refine g_iload_n hC rfl 1 rfl (rfl : 37 + 1 = 38) (xdt tt_X0_closesLoop 19 rfl) ?_
        obtain ⟨hi5, h⟩ := ckI_i h
        refine g_iald hC krg4 ly2_12 hi5 (rfl : 38 + 1 = 39) (xdt tt_X0_closesLoop 20 rfl) (k0 := (wr a1).toNat) rfl ?_
        refine g_aload_n hC rfl 0 rfl (rfl : 39 + 1 = 40) (xdt tt_X0_closesLoop 21 rfl) ?_
        refine g_getP hC hk0 kclX0 ly1_0 1 (by decide) (rfl : r0 + 0 = r0) rfl q96 (rfl : 40 + 3 = 43) (xdt tt_X0_closesLoop 22 rfl) ?_
        refine g_iconst hC (rfl : 43 + 1 = 44) (xdt tt_X0_closesLoop 23 rfl) ?_
        refine g_iald hC hk0 ly1_1 (by decide) (rfl : 44 + 1 = 45) (xdt tt_X0_closesLoop 24 rfl) (k0 := 5) (by decide) ?_
        refine g_icmp_gt hC (show ((45 : Nat) : Int) + 7 = ((52 : Nat) : Int) by decide) (rfl : 45 + 3 = 48) (xdt tt_X0_closesLoop 25 rfl) (fun hc6 => ?_) (fun hc6 => ?_)
        · replace h := (if_pos hc6).symm.trans h
          refine g_iconst hC (rfl : 52 + 1 = 53) (xdt tt_X0_closesLoop 28 rfl) ?_
          cases h
          exact g_zret hC hE (Or.inl rfl) (xdt tt_X0_closesLoop 29 rfl)
        · replace h := (if_neg hc6).symm.trans h
          refine g_iconst hC (rfl : 48 + 1 = 49) (xdt tt_X0_closesLoop 26 rfl) ?_
          refine g_goto hC (show ((49 : Nat) : Int) + 4 = ((53 : Nat) : Int) by decide) (xdt tt_X0_closesLoop 27 rfl) ?_
          cases h
          exact g_zret hC hE (Or.inr rfl) (xdt tt_X0_closesLoop 29 rfl)
    · replace h := (if_neg hc8).symm.trans h
      refine g_iconst hC (rfl : 15 + 1 = 16) (xdt tt_X0_closesLoop 7 rfl) ?_
      cases h
      exact g_zret hC hE (Or.inl rfl) (xdt tt_X0_closesLoop 8 rfl)
def f_X11_fusable_p3_0_b4 (r0 : Nat) : Nat → xSt → Int → Int → Option (Int × xSt)
  | 0, _, _, _ => none
  | fuel + 1, S, x1, x2 =>
    ckP S r0 0 4 2 0 fun rg1 =>
    if wr (gI S rg1 0 10) ≤ wr x2 then
      (some (x1, S))
    else
      (bd2 (f_X0_fusesWithNext_p1_0 S (r0 + 1) x2) fun v4 S3 =>
      if wr v4 = 0 then
        ((f_X11_fusable_p3_0_b4 r0 fuel) S3 x1 (x2 + 1))
      else
        ((f_X11_fusable_p3_0_b4 r0 fuel) S3 (x1 + 1) (x2 + 1)))
def f_X11_fusable_p3_0 (S : xSt) (r0 : Nat) : Option (Int × xSt) :=
  f_X11_fusable_p3_0_b4 r0 (fu S) S 0 0
set_option maxRecDepth 100000 in
set_option maxHeartbeats 4000000 in
theorem k_X11_fusable_p3_0_b4 {K : xCtx} {E : xE} {b : Nat} (hC : xOK K cX11_fusable RX11 3 (rmE 3 b)) (hZ : xZ K) {v : Int} {S' : xSt} (hE : xEnd K E (some .int) (YQi E v S')) {r0 : Nat} (hk0 : xkd E r0 = 3) (hA0 : xFam E r0) : ∀ (fuel : Nat) (S : xSt) (x1 : Int) (x2 : Int), f_X11_fusable_p3_0_b4 r0 fuel S x1 x2 = some (v, S') → WG K E 4 [(0, vr E r0 0), (1, vi x1), (2, vi x2)] [] S := by
  intro fuel
  induction fuel with
  | zero => intro S x1 x2 h; cases h
  | succ fuel ih =>
    intro S x1 x2 h
    rw [f_X11_fusable_p3_0_b4] at h
    refine g_iload_n hC rfl 2 rfl (rfl : 4 + 1 = 5) (xdt tt_X11_fusable 4 rfl) ?_
    refine g_aload_n hC rfl 0 rfl (rfl : 5 + 1 = 6) (xdt tt_X11_fusable 5 rfl) ?_
    obtain ⟨rg1, hrg1, grg1, h⟩ := ckP_i h
    refine g_getV hC hk0 kclX11 ly3_0 4 (by decide) rfl hrg1 grg1 (by decide) q26 (rfl : 6 + 3 = 9) (xdt tt_X11_fusable 6 rfl) (fun krg1 => ?_)
    refine g_getI hC krg1 kclX5 ly2_0 10 (by decide) rfl q277 (rfl : 9 + 3 = 12) (xdt tt_X11_fusable 7 rfl) ?_
    refine g_icmp_ge hC (show ((12 : Nat) : Int) + 23 = ((35 : Nat) : Int) by decide) (rfl : 12 + 3 = 15) (xdt tt_X11_fusable 8 rfl) (fun hc7 => ?_) (fun hc7 => ?_)
    · replace h := (if_pos hc7).symm.trans h
      refine g_iload_n hC rfl 1 rfl (rfl : 35 + 1 = 36) (xdt tt_X11_fusable 17 rfl) ?_
      cases h
      exact g_iret hC hE (xdt tt_X11_fusable 18 rfl)
    · replace h := (if_neg hc7).symm.trans h
      refine g_aload_n hC rfl 0 rfl (rfl : 15 + 1 = 16) (xdt tt_X11_fusable 9 rfl) ?_
      refine g_getP hC hk0 kclX11 ly3_0 6 (by decide) (rfl : r0 + 1 = (r0 + 1)) rfl q31 (rfl : 16 + 3 = 19) (xdt tt_X11_fusable 10 rfl) ?_
      refine g_iload_n hC rfl 2 rfl (rfl : 19 + 1 = 20) (xdt tt_X11_fusable 11 rfl) ?_
      obtain ⟨v4, S3, hc2, h⟩ := bd2_i h
      refine g_callVz hC hZ (hA0 1 (by decide) (by decide)) kclX0 ly1_0 m_X0_fusesWithNext q719 (Nat.le_of_ble_eq_true rfl) [vi x2] rfl (fun l => c_X0_fusesWithNext_p1_0 l (hA0 1 (by decide) (by decide)) hc2) rfl (Nat.le_of_ble_eq_true rfl) (rfl : 20 + 3 = 23) (xdt tt_X11_fusable 12 rfl) (fun hb5 => ?_)
      refine g_if_eq hC (show ((23 : Nat) : Int) + 6 = ((29 : Nat) : Int) by decide) (rfl : 23 + 3 = 26) (xdt tt_X11_fusable 13 rfl) (fun hc6 => ?_) (fun hc6 => ?_)
      · replace h := (if_pos hc6).symm.trans h
        refine g_iinc hC 2 rfl (by decide) (lv' := [(2, vi (x2 + 1)), (0, vr E r0 0), (1, vi x1)]) rfl (rfl : 29 + 3 = 32) (xdt tt_X11_fusable 15 rfl) ?_
        refine g_goto hC (show ((32 : Nat) : Int) + (-28) = ((4 : Nat) : Int) by decide) (xdt tt_X11_fusable 16 rfl) ?_
        refine g_sub [1, 2, 0] (lv' := [(0, vr E r0 0), (1, vi x1), (2, vi (x2 + 1))]) rfl ?_
        exact ih _ _ _ h
      · replace h := (if_neg hc6).symm.trans h
        refine g_iinc hC 1 rfl (by decide) (lv' := [(1, vi (x1 + 1)), (0, vr E r0 0), (2, vi x2)]) rfl (rfl : 26 + 3 = 29) (xdt tt_X11_fusable 14 rfl) ?_
        refine g_iinc hC 2 rfl (by decide) (lv' := [(2, vi (x2 + 1)), (1, vi (x1 + 1)), (0, vr E r0 0)]) rfl (rfl : 29 + 3 = 32) (xdt tt_X11_fusable 15 rfl) ?_
        refine g_goto hC (show ((32 : Nat) : Int) + (-28) = ((4 : Nat) : Int) by decide) (xdt tt_X11_fusable 16 rfl) ?_
        refine g_sub [2, 1, 0] (lv' := [(0, vr E r0 0), (1, vi (x1 + 1)), (2, vi (x2 + 1))]) rfl ?_
        exact ih _ _ _ h
set_option maxRecDepth 100000 in
set_option maxHeartbeats 4000000 in
theorem c_X11_fusable_p3_0 (l : Launch) {E : xE} {S S' : xSt} {r0 : Nat} (hk0 : xkd E r0 = 3) (hA0 : xFam E r0) {v : Int} (h : f_X11_fusable_p3_0 S r0 = some (v, S')) : Met l yX11_fusable (xws yX11_fusable cX11_fusable 3 (some .int)) (rmD 3) (YPc E [vr E r0 0] S) (YQi E v S') 0 0 (xA E) := by
  unfold f_X11_fusable_p3_0 at h
  refine met_i (by decide +kernel) (Nat.le_of_ble_eq_true rfl) (fun K hC hZ hE => ?_)
  have hC : xOK K cX11_fusable RX11 3 (rmE 3 0) := hC
  show WG K E 0 [(0, vr E r0 0)] [] S
  refine g_iconst hC (rfl : 0 + 1 = 1) (xdt tt_X11_fusable 0 rfl) ?_
  refine g_istore_n hC rfl (by decide) (lv' := [(1, vi 0), (0, vr E r0 0)]) rfl (rfl : 1 + 1 = 2) (xdt tt_X11_fusable 1 rfl) ?_
  refine g_iconst hC (rfl : 2 + 1 = 3) (xdt tt_X11_fusable 2 rfl) ?_
  refine g_istore_n hC rfl (by decide) (lv' := [(2, vi 0), (1, vi 0), (0, vr E r0 0)]) rfl (rfl : 3 + 1 = 4) (xdt tt_X11_fusable 3 rfl) ?_
  refine g_sub [2, 1, 0] (lv' := [(0, vr E r0 0), (1, vi 0), (2, vi 0)]) rfl ?_
  exact k_X11_fusable_p3_0_b4 hC hZ hE hk0 hA0 _ _ _ _ h
def f_X11_crossing_p3_0_b4 (r0 : Nat) : Nat → xSt → Int → Int → Option (Int × xSt)
  | 0, _, _, _ => none
  | fuel + 1, S, x1, x2 =>
    ckP S r0 0 4 2 0 fun rg1 =>
    if wr (gI S rg1 0 10) ≤ wr x2 then
      (some (x1, S))
    else
      (ckP S r0 0 4 2 0 fun rg2 =>
      bd2 (f_X5_crossesWindows_p2_0 S rg2 x2) fun v5 S4 =>
      if wr v5 = 0 then
        ((f_X11_crossing_p3_0_b4 r0 fuel) S4 x1 (x2 + 1))
      else
        ((f_X11_crossing_p3_0_b4 r0 fuel) S4 (x1 + 1) (x2 + 1)))
def f_X11_crossing_p3_0 (S : xSt) (r0 : Nat) : Option (Int × xSt) :=
  f_X11_crossing_p3_0_b4 r0 (fu S) S 0 0
set_option maxRecDepth 100000 in
set_option maxHeartbeats 4000000 in
theorem k_X11_crossing_p3_0_b4 {K : xCtx} {E : xE} {b : Nat} (hC : xOK K cX11_crossing RX11 3 (rmE 3 b)) (hZ : xZ K) {v : Int} {S' : xSt} (hE : xEnd K E (some .int) (YQi E v S')) {r0 : Nat} (hk0 : xkd E r0 = 3) (hA0 : xFam E r0) : ∀ (fuel : Nat) (S : xSt) (x1 : Int) (x2 : Int), f_X11_crossing_p3_0_b4 r0 fuel S x1 x2 = some (v, S') → WG K E 4 [(0, vr E r0 0), (1, vi x1), (2, vi x2)] [] S := by
  intro fuel
  induction fuel with
  | zero => intro S x1 x2 h; cases h
  | succ fuel ih =>
    intro S x1 x2 h
    rw [f_X11_crossing_p3_0_b4] at h
    refine g_iload_n hC rfl 2 rfl (rfl : 4 + 1 = 5) (xdt tt_X11_crossing 4 rfl) ?_
    refine g_aload_n hC rfl 0 rfl (rfl : 5 + 1 = 6) (xdt tt_X11_crossing 5 rfl) ?_
    obtain ⟨rg1, hrg1, grg1, h⟩ := ckP_i h
    refine g_getV hC hk0 kclX11 ly3_0 4 (by decide) rfl hrg1 grg1 (by decide) q26 (rfl : 6 + 3 = 9) (xdt tt_X11_crossing 6 rfl) (fun krg1 => ?_)
    refine g_getI hC krg1 kclX5 ly2_0 10 (by decide) rfl q277 (rfl : 9 + 3 = 12) (xdt tt_X11_crossing 7 rfl) ?_
    refine g_icmp_ge hC (show ((12 : Nat) : Int) + 23 = ((35 : Nat) : Int) by decide) (rfl : 12 + 3 = 15) (xdt tt_X11_crossing 8 rfl) (fun hc8 => ?_) (fun hc8 => ?_)
    · replace h := (if_pos hc8).symm.trans h
      refine g_iload_n hC rfl 1 rfl (rfl : 35 + 1 = 36) (xdt tt_X11_crossing 17 rfl) ?_
      cases h
      exact g_iret hC hE (xdt tt_X11_crossing 18 rfl)
    · replace h := (if_neg hc8).symm.trans h
      refine g_aload_n hC rfl 0 rfl (rfl : 15 + 1 = 16) (xdt tt_X11_crossing 9 rfl) ?_
      obtain ⟨rg2, hrg2, grg2, h⟩ := ckP_i h
      refine g_getV hC hk0 kclX11 ly3_0 4 (by decide) rfl hrg2 grg2 (by decide) q26 (rfl : 16 + 3 = 19) (xdt tt_X11_crossing 10 rfl) (fun krg2 => ?_)
      refine g_iload_n hC rfl 2 rfl (rfl : 19 + 1 = 20) (xdt tt_X11_crossing 11 rfl) ?_
      obtain ⟨v5, S4, hc3, h⟩ := bd2_i h
      refine g_callVz hC hZ krg2 kclX5 ly2_0 m_X5_crossesWindows q692 (Nat.le_of_ble_eq_true rfl) [vi x2] rfl (fun l => c_X5_crossesWindows_p2_0 l krg2 hc3) rfl (Nat.le_of_ble_eq_true rfl) (rfl : 20 + 3 = 23) (xdt tt_X11_crossing 12 rfl) (fun hb6 => ?_)
      refine g_if_eq hC (show ((23 : Nat) : Int) + 6 = ((29 : Nat) : Int) by decide) (rfl : 23 + 3 = 26) (xdt tt_X11_crossing 13 rfl) (fun hc7 => ?_) (fun hc7 => ?_)
      · replace h := (if_pos hc7).symm.trans h
        refine g_iinc hC 2 rfl (by decide) (lv' := [(2, vi (x2 + 1)), (0, vr E r0 0), (1, vi x1)]) rfl (rfl : 29 + 3 = 32) (xdt tt_X11_crossing 15 rfl) ?_
        refine g_goto hC (show ((32 : Nat) : Int) + (-28) = ((4 : Nat) : Int) by decide) (xdt tt_X11_crossing 16 rfl) ?_
        refine g_sub [1, 2, 0] (lv' := [(0, vr E r0 0), (1, vi x1), (2, vi (x2 + 1))]) rfl ?_
        exact ih _ _ _ h
      · replace h := (if_neg hc7).symm.trans h
        refine g_iinc hC 1 rfl (by decide) (lv' := [(1, vi (x1 + 1)), (0, vr E r0 0), (2, vi x2)]) rfl (rfl : 26 + 3 = 29) (xdt tt_X11_crossing 14 rfl) ?_
        refine g_iinc hC 2 rfl (by decide) (lv' := [(2, vi (x2 + 1)), (1, vi (x1 + 1)), (0, vr E r0 0)]) rfl (rfl : 29 + 3 = 32) (xdt tt_X11_crossing 15 rfl) ?_
        refine g_goto hC (show ((32 : Nat) : Int) + (-28) = ((4 : Nat) : Int) by decide) (xdt tt_X11_crossing 16 rfl) ?_
        refine g_sub [2, 1, 0] (lv' := [(0, vr E r0 0), (1, vi (x1 + 1)), (2, vi (x2 + 1))]) rfl ?_
        exact ih _ _ _ h
set_option maxRecDepth 100000 in
set_option maxHeartbeats 4000000 in
theorem c_X11_crossing_p3_0 (l : Launch) {E : xE} {S S' : xSt} {r0 : Nat} (hk0 : xkd E r0 = 3) (hA0 : xFam E r0) {v : Int} (h : f_X11_crossing_p3_0 S r0 = some (v, S')) : Met l yX11_crossing (xws yX11_crossing cX11_crossing 3 (some .int)) (rmD 3) (YPc E [vr E r0 0] S) (YQi E v S') 0 0 (xA E) := by
  unfold f_X11_crossing_p3_0 at h
  refine met_i (by decide +kernel) (Nat.le_of_ble_eq_true rfl) (fun K hC hZ hE => ?_)
  have hC : xOK K cX11_crossing RX11 3 (rmE 3 0) := hC
  show WG K E 0 [(0, vr E r0 0)] [] S
  refine g_iconst hC (rfl : 0 + 1 = 1) (xdt tt_X11_crossing 0 rfl) ?_
  refine g_istore_n hC rfl (by decide) (lv' := [(1, vi 0), (0, vr E r0 0)]) rfl (rfl : 1 + 1 = 2) (xdt tt_X11_crossing 1 rfl) ?_
  refine g_iconst hC (rfl : 2 + 1 = 3) (xdt tt_X11_crossing 2 rfl) ?_
  refine g_istore_n hC rfl (by decide) (lv' := [(2, vi 0), (1, vi 0), (0, vr E r0 0)]) rfl (rfl : 3 + 1 = 4) (xdt tt_X11_crossing 3 rfl) ?_
  refine g_sub [2, 1, 0] (lv' := [(0, vr E r0 0), (1, vi 0), (2, vi 0)]) rfl ?_
  exact k_X11_crossing_p3_0_b4 hC hZ hE hk0 hA0 _ _ _ _ h
def f_X11_isCut_p3_0 (S : xSt) (r0 : Nat) : Option (Int × xSt) :=
  ckB (gI S (r0 + 1) 0 13) <|
  some ((gI S (r0 + 1) 0 13), S)
set_option maxRecDepth 100000 in
set_option maxHeartbeats 4000000 in
theorem c_X11_isCut_p3_0 (l : Launch) {E : xE} {S S' : xSt} {r0 : Nat} (hk0 : xkd E r0 = 3) (hA0 : xFam E r0) {v : Int} (h : f_X11_isCut_p3_0 S r0 = some (v, S')) : Met l yX11_isCut (xws yX11_isCut cX11_isCut 1 (some .boolean)) (rmD 1) (YPc E [vr E r0 0] S) (YQz E v S') 0 0 (xA E) := by
  unfold f_X11_isCut_p3_0 at h
  refine met_z (by decide +kernel) (Nat.le_of_ble_eq_true rfl) (fun K hC hZ hE => ?_)
  have hC : xOK K cX11_isCut RX11 1 (rmE 1 0) := hC
  show WG K E 0 [(0, vr E r0 0)] [] S
  refine g_aload_n hC rfl 0 rfl (rfl : 0 + 1 = 1) (xdt tt_X11_isCut 0 rfl) ?_
  refine g_getP hC hk0 kclX11 ly3_0 6 (by decide) (rfl : r0 + 1 = (r0 + 1)) rfl q31 (rfl : 1 + 3 = 4) (xdt tt_X11_isCut 1 rfl) ?_
  refine g_getI hC (hA0 1 (by decide) (by decide)) kclX0 ly1_0 13 (by decide) rfl q852 (rfl : 4 + 3 = 7) (xdt tt_X11_isCut 2 rfl) ?_
  obtain ⟨hb1, h⟩ := ckB_i h
  cases h
  exact g_zret hC hE hb1 (xdt tt_X11_isCut 3 rfl)
def f_X9_mostUnusedSince_p1_14_t4_b7 (r0 : Nat) : Nat → xSt → Int → Int → Int → Option (Int × xSt)
  | 0, _, _, _, _ => none
  | fuel + 1, S, x2, x3, x4 =>
    if wr 8 < wr x4 then
      (some (x2, S))
    else
      (if wr 9 ≤ wr x4 then
        (some (x2, S))
      else
        (ckI x4 9 <|
        ckI x4 9 <|
        if wr ((gI S r0 16 (wr x4).toNat) - (tbI 4 (wr x4).toNat)) ≤ wr x3 then
          ((f_X9_mostUnusedSince_p1_14_t4_b7 r0 fuel) S x2 x3 (x4 + 1))
        else
          ((f_X9_mostUnusedSince_p1_14_t4_b7 r0 fuel) S x4 ((gI S r0 16 (wr x4).toNat) - (tbI 4 (wr x4).toNat)) (x4 + 1))))
def f_X9_mostUnusedSince_p1_14_t4 (S : xSt) (r0 : Nat) : Option (Int × xSt) :=
  f_X9_mostUnusedSince_p1_14_t4_b7 r0 (fu S) S (-1) 0 1
set_option maxRecDepth 100000 in
set_option maxHeartbeats 4000000 in
theorem k_X9_mostUnusedSince_p1_14_t4_b7 {K : xCtx} {E : xE} {b : Nat} (hC : xOK K cX9_mostUnusedSince RX9 6 (rmE 1 b)) (hZ : xZ K) {v : Int} {S' : xSt} (hE : xEnd K E (some .int) (YQi E v S')) {r0 : Nat} (hk0 : xkd E r0 = 1) : ∀ (fuel : Nat) (S : xSt) (x2 : Int) (x3 : Int) (x4 : Int), f_X9_mostUnusedSince_p1_14_t4_b7 r0 fuel S x2 x3 x4 = some (v, S') → WG K E 7 [(0, vr E r0 14), (1, vt E 4), (2, vi x2), (3, vi x3), (4, vi x4)] [] S := by
  intro fuel
  induction fuel with
  | zero => intro S x2 x3 x4 h; cases h
  | succ fuel ih =>
    intro S x2 x3 x4 h
    rw [f_X9_mostUnusedSince_p1_14_t4_b7] at h
    refine g_iload hC 4 rfl (rfl : 7 + 2 = 9) (xdt tt_X9_mostUnusedSince 6 rfl) ?_
    refine g_bipush hC (by decide) (rfl : 9 + 2 = 11) (xdt tt_X9_mostUnusedSince 7 rfl) ?_
    refine g_icmp_gt hC (show ((11 : Nat) : Int) + 42 = ((53 : Nat) : Int) by decide) (rfl : 11 + 3 = 14) (xdt tt_X9_mostUnusedSince 8 rfl) (fun hc5 => ?_) (fun hc5 => ?_)
    · replace h := (if_pos hc5).symm.trans h
      refine g_iload_n hC rfl 2 rfl (rfl : 53 + 1 = 54) (xdt tt_X9_mostUnusedSince 31 rfl) ?_
      cases h
      exact g_iret hC hE (xdt tt_X9_mostUnusedSince 32 rfl)
    · replace h := (if_neg hc5).symm.trans h
      refine g_iload hC 4 rfl (rfl : 14 + 2 = 16) (xdt tt_X9_mostUnusedSince 9 rfl) ?_
      refine g_aload_n hC rfl 1 rfl (rfl : 16 + 1 = 17) (xdt tt_X9_mostUnusedSince 10 rfl) ?_
      refine g_tlen hC (q := 4) rfl (z := 9) (by decide) (rfl : 17 + 1 = 18) (xdt tt_X9_mostUnusedSince 11 rfl) ?_
      refine g_icmp_ge hC (show ((18 : Nat) : Int) + 35 = ((53 : Nat) : Int) by decide) (rfl : 18 + 3 = 21) (xdt tt_X9_mostUnusedSince 12 rfl) (fun hc4 => ?_) (fun hc4 => ?_)
      · replace h := (if_pos hc4).symm.trans h
        refine g_iload_n hC rfl 2 rfl (rfl : 53 + 1 = 54) (xdt tt_X9_mostUnusedSince 31 rfl) ?_
        cases h
        exact g_iret hC hE (xdt tt_X9_mostUnusedSince 32 rfl)
      · replace h := (if_neg hc4).symm.trans h
        refine g_aload_n hC rfl 0 rfl (rfl : 21 + 1 = 22) (xdt tt_X9_mostUnusedSince 13 rfl) ?_
        refine g_getP hC hk0 kclX9 ly1_14 1 (by decide) (rfl : r0 + 0 = r0) rfl q139 (rfl : 22 + 3 = 25) (xdt tt_X9_mostUnusedSince 14 rfl) ?_
        refine g_iload hC 4 rfl (rfl : 25 + 2 = 27) (xdt tt_X9_mostUnusedSince 15 rfl) ?_
        obtain ⟨hi1, h⟩ := ckI_i h
        refine g_iald hC hk0 ly1_16 hi1 (rfl : 27 + 1 = 28) (xdt tt_X9_mostUnusedSince 16 rfl) (k0 := (wr x4).toNat) rfl ?_
        refine g_aload_n hC rfl 1 rfl (rfl : 28 + 1 = 29) (xdt tt_X9_mostUnusedSince 17 rfl) ?_
        refine g_iload hC 4 rfl (rfl : 29 + 2 = 31) (xdt tt_X9_mostUnusedSince 18 rfl) ?_
        obtain ⟨hi2, h⟩ := ckI_i h
        refine g_tald hC (q := 4) rfl rfl hi2 (rfl : 31 + 1 = 32) (xdt tt_X9_mostUnusedSince 19 rfl) (k0 := (wr x4).toNat) rfl ?_
        refine g_isub hC (rfl : 32 + 1 = 33) (xdt tt_X9_mostUnusedSince 20 rfl) ?_
        refine g_istore hC (by decide) (lv' := [(5, vi ((gI S r0 16 (wr x4).toNat) - (tbI 4 (wr x4).toNat))), (0, vr E r0 14), (1, vt E 4), (2, vi x2), (3, vi x3), (4, vi x4)]) rfl (rfl : 33 + 2 = 35) (xdt tt_X9_mostUnusedSince 21 rfl) ?_
        refine g_iload hC 0 rfl (rfl : 35 + 2 = 37) (xdt tt_X9_mostUnusedSince 22 rfl) ?_
        refine g_iload_n hC rfl 4 rfl (rfl : 37 + 1 = 38) (xdt tt_X9_mostUnusedSince 23 rfl) ?_
        refine g_icmp_le hC (show ((38 : Nat) : Int) + 9 = ((47 : Nat) : Int) by decide) (rfl : 38 + 3 = 41) (xdt tt_X9_mostUnusedSince 24 rfl) (fun hc3 => ?_) (fun hc3 => ?_)
        · replace h := (if_pos hc3).symm.trans h
          refine g_iinc hC 5 rfl (by decide) (lv' := [(4, vi (x4 + 1)), (5, vi ((gI S r0 16 (wr x4).toNat) - (tbI 4 (wr x4).toNat))), (0, vr E r0 14), (1, vt E 4), (2, vi x2), (3, vi x3)]) rfl (rfl : 47 + 3 = 50) (xdt tt_X9_mostUnusedSince 29 rfl) ?_
          refine g_goto hC (show ((50 : Nat) : Int) + (-43) = ((7 : Nat) : Int) by decide) (xdt tt_X9_mostUnusedSince 30 rfl) ?_
          refine g_sub [2, 3, 4, 5, 0] (lv' := [(0, vr E r0 14), (1, vt E 4), (2, vi x2), (3, vi x3), (4, vi (x4 + 1))]) rfl ?_
          exact ih _ _ _ _ h
        · replace h := (if_neg hc3).symm.trans h
          refine g_iload hC 0 rfl (rfl : 41 + 2 = 43) (xdt tt_X9_mostUnusedSince 25 rfl) ?_
          refine g_istore_n hC rfl (by decide) (lv' := [(3, vi ((gI S r0 16 (wr x4).toNat) - (tbI 4 (wr x4).toNat))), (5, vi ((gI S r0 16 (wr x4).toNat) - (tbI 4 (wr x4).toNat))), (0, vr E r0 14), (1, vt E 4), (2, vi x2), (4, vi x4)]) rfl (rfl : 43 + 1 = 44) (xdt tt_X9_mostUnusedSince 26 rfl) ?_
          refine g_iload hC 5 rfl (rfl : 44 + 2 = 46) (xdt tt_X9_mostUnusedSince 27 rfl) ?_
          refine g_istore_n hC rfl (by decide) (lv' := [(2, vi x4), (3, vi ((gI S r0 16 (wr x4).toNat) - (tbI 4 (wr x4).toNat))), (5, vi ((gI S r0 16 (wr x4).toNat) - (tbI 4 (wr x4).toNat))), (0, vr E r0 14), (1, vt E 4), (4, vi x4)]) rfl (rfl : 46 + 1 = 47) (xdt tt_X9_mostUnusedSince 28 rfl) ?_
          refine g_iinc hC 5 rfl (by decide) (lv' := [(4, vi (x4 + 1)), (2, vi x4), (3, vi ((gI S r0 16 (wr x4).toNat) - (tbI 4 (wr x4).toNat))), (5, vi ((gI S r0 16 (wr x4).toNat) - (tbI 4 (wr x4).toNat))), (0, vr E r0 14), (1, vt E 4)]) rfl (rfl : 47 + 3 = 50) (xdt tt_X9_mostUnusedSince 29 rfl) ?_
          refine g_goto hC (show ((50 : Nat) : Int) + (-43) = ((7 : Nat) : Int) by decide) (xdt tt_X9_mostUnusedSince 30 rfl) ?_
          refine g_sub [4, 5, 1, 2, 0] (lv' := [(0, vr E r0 14), (1, vt E 4), (2, vi x4), (3, vi ((gI S r0 16 (wr x4).toNat) - (tbI 4 (wr x4).toNat))), (4, vi (x4 + 1))]) rfl ?_
          exact ih _ _ _ _ h
set_option maxRecDepth 100000 in
set_option maxHeartbeats 4000000 in
theorem c_X9_mostUnusedSince_p1_14_t4 (l : Launch) {E : xE} {S S' : xSt} {r0 : Nat} (hk0 : xkd E r0 = 1) {v : Int} (h : f_X9_mostUnusedSince_p1_14_t4 S r0 = some (v, S')) : Met l yX9_mostUnusedSince (xws yX9_mostUnusedSince cX9_mostUnusedSince 6 (some .int)) (rmD 1) (YPc E [vr E r0 14, vt E 4] S) (YQi E v S') 0 0 (xA E) := by
  unfold f_X9_mostUnusedSince_p1_14_t4 at h
  refine met_i (by decide +kernel) (Nat.le_of_ble_eq_true rfl) (fun K hC hZ hE => ?_)
  have hC : xOK K cX9_mostUnusedSince RX9 6 (rmE 1 0) := hC
  show WG K E 0 [(0, vr E r0 14), (1, vt E 4)] [] S
  refine g_iconst hC (rfl : 0 + 1 = 1) (xdt tt_X9_mostUnusedSince 0 rfl) ?_
  refine g_istore_n hC rfl (by decide) (lv' := [(2, vi (-1)), (0, vr E r0 14), (1, vt E 4)]) rfl (rfl : 1 + 1 = 2) (xdt tt_X9_mostUnusedSince 1 rfl) ?_
  refine g_iconst hC (rfl : 2 + 1 = 3) (xdt tt_X9_mostUnusedSince 2 rfl) ?_
  refine g_istore_n hC rfl (by decide) (lv' := [(3, vi 0), (2, vi (-1)), (0, vr E r0 14), (1, vt E 4)]) rfl (rfl : 3 + 1 = 4) (xdt tt_X9_mostUnusedSince 3 rfl) ?_
  refine g_iconst hC (rfl : 4 + 1 = 5) (xdt tt_X9_mostUnusedSince 4 rfl) ?_
  refine g_istore hC (by decide) (lv' := [(4, vi 1), (3, vi 0), (2, vi (-1)), (0, vr E r0 14), (1, vt E 4)]) rfl (rfl : 5 + 2 = 7) (xdt tt_X9_mostUnusedSince 5 rfl) ?_
  refine g_sub [3, 4, 2, 1, 0] (lv' := [(0, vr E r0 14), (1, vt E 4), (2, vi (-1)), (3, vi 0), (4, vi 1)]) rfl ?_
  exact k_X9_mostUnusedSince_p1_14_t4_b7 hC hZ hE hk0 _ _ _ _ _ h
def f_X11_mainCause_p3_0 (S : xSt) (r0 : Nat) : Option (Int × xSt) :=
  bd2 (f_X9_mostUnusedSince_p1_14_t4 S (r0 + 1)) fun v3 S2 =>
  some (v3, S2)
set_option maxRecDepth 100000 in
set_option maxHeartbeats 4000000 in
theorem c_X11_mainCause_p3_0 (l : Launch) {E : xE} {S S' : xSt} {r0 : Nat} (hk0 : xkd E r0 = 3) (hA0 : xFam E r0) {v : Int} (h : f_X11_mainCause_p3_0 S r0 = some (v, S')) : Met l yX11_mainCause (xws yX11_mainCause cX11_mainCause 1 (some .int)) (rmD 2) (YPc E [vr E r0 0] S) (YQi E v S') 0 0 (xA E) := by
  unfold f_X11_mainCause_p3_0 at h
  refine met_i (by decide +kernel) (Nat.le_of_ble_eq_true rfl) (fun K hC hZ hE => ?_)
  have hC : xOK K cX11_mainCause RX11 1 (rmE 2 0) := hC
  show WG K E 0 [(0, vr E r0 0)] [] S
  refine g_aload_n hC rfl 0 rfl (rfl : 0 + 1 = 1) (xdt tt_X11_mainCause 0 rfl) ?_
  refine g_getP hC hk0 kclX11 ly3_0 6 (by decide) (rfl : r0 + 1 = (r0 + 1)) rfl q31 (rfl : 1 + 3 = 4) (xdt tt_X11_mainCause 1 rfl) ?_
  refine g_getP hC (hA0 1 (by decide) (by decide)) kclX0 ly1_0 7 (by decide) (rfl : (r0 + 1) + 0 = (r0 + 1)) rfl q590 (rfl : 4 + 3 = 7) (xdt tt_X11_mainCause 2 rfl) ?_
  refine g_gets hC 4 rfl q877 (rfl : 7 + 3 = 10) (xdt tt_X11_mainCause 3 rfl) ?_
  obtain ⟨v3, S2, hc1, h⟩ := bd2_i h
  refine g_callVi hC hZ (hA0 1 (by decide) (by decide)) kclX9 ly1_14 m_X9_mostUnusedSince q878 (Nat.le_of_ble_eq_true rfl) [vt E 4] rfl (fun l => c_X9_mostUnusedSince_p1_14_t4 l (hA0 1 (by decide) (by decide)) hc1) rfl (Nat.le_of_ble_eq_true rfl) (rfl : 10 + 3 = 13) (xdt tt_X11_mainCause 4 rfl) ?_
  cases h
  exact g_iret hC hE (xdt tt_X11_mainCause 5 rfl)
def f_J7_fill_53178_p3_12_b5 (r0 : Nat) : Nat → xSt → Int → Int → Int → Option (xSt)
  | 0, _, _, _, _ => none
  | fuel + 1, S, x1, x2, x3 =>
    if wr x3 ≤ wr x2 then
      (some S)
    else
      (ckI x2 60 <|
      lt1 (wI S r0 12 (wr x2).toNat x1) fun S2 =>
      (f_J7_fill_53178_p3_12_b5 r0 fuel) S2 x1 (x2 + 1) x3)
def f_J7_fill_53178_p3_12 (S : xSt) (r0 : Nat) (a1 : Int) : Option (xSt) :=
  f_J7_fill_53178_p3_12_b5 r0 (fu S) S a1 0 60
set_option maxRecDepth 100000 in
set_option maxHeartbeats 4000000 in
theorem k_J7_fill_53178_p3_12_b5 {K : xCtx} {E : xE} {b : Nat} (hC : xOK K cJ7_fill_53178 RJ7 4 (rmE 1 b)) (hZ : xZ K) {S' : xSt} (hE : xEnd K E none (YQv E S')) {r0 : Nat} (hk0 : xkd E r0 = 3) (hA0 : xFam E r0) : ∀ (fuel : Nat) (S : xSt) (x1 : Int) (x2 : Int) (x3 : Int), f_J7_fill_53178_p3_12_b5 r0 fuel S x1 x2 x3 = some S' → WG K E 5 [(0, vr E r0 12), (1, vi x1), (2, vi x2), (3, vi x3)] [] S := by
  intro fuel
  induction fuel with
  | zero => intro S x1 x2 x3 h; cases h
  | succ fuel ih =>
    intro S x1 x2 x3 h
    rw [f_J7_fill_53178_p3_12_b5] at h
    refine g_iload_n hC rfl 2 rfl (rfl : 5 + 1 = 6) (xdt tt_J7_fill_53178 5 rfl) ?_
    refine g_iload_n hC rfl 3 rfl (rfl : 6 + 1 = 7) (xdt tt_J7_fill_53178 6 rfl) ?_
    refine g_icmp_ge hC (show ((7 : Nat) : Int) + 13 = ((20 : Nat) : Int) by decide) (rfl : 7 + 3 = 10) (xdt tt_J7_fill_53178 7 rfl) (fun hc3 => ?_) (fun hc3 => ?_)
    · replace h := (if_pos hc3).symm.trans h
      cases h
      exact g_vret hC hE (xdt tt_J7_fill_53178 14 rfl)
    · replace h := (if_neg hc3).symm.trans h
      refine g_aload_n hC rfl 0 rfl (rfl : 10 + 1 = 11) (xdt tt_J7_fill_53178 8 rfl) ?_
      refine g_iload_n hC rfl 2 rfl (rfl : 11 + 1 = 12) (xdt tt_J7_fill_53178 9 rfl) ?_
      refine g_iload_n hC rfl 1 rfl (rfl : 12 + 1 = 13) (xdt tt_J7_fill_53178 10 rfl) ?_
      obtain ⟨hi1, h⟩ := ckI_i h
      obtain ⟨S2, hS2, h⟩ := lt1_i h
      refine g_iast hC hk0 ly3_12 hi1 rfl hS2 (rfl : 13 + 1 = 14) (xdt tt_J7_fill_53178 11 rfl) ?_
      refine g_iinc hC 2 rfl (by decide) (lv' := [(2, vi (x2 + 1)), (0, vr E r0 12), (1, vi x1), (3, vi x3)]) rfl (rfl : 14 + 3 = 17) (xdt tt_J7_fill_53178 12 rfl) ?_
      refine g_goto hC (show ((17 : Nat) : Int) + (-12) = ((5 : Nat) : Int) by decide) (xdt tt_J7_fill_53178 13 rfl) ?_
      refine g_sub [1, 2, 0, 3] (lv' := [(0, vr E r0 12), (1, vi x1), (2, vi (x2 + 1)), (3, vi x3)]) rfl ?_
      exact ih _ _ _ _ h
set_option maxRecDepth 100000 in
set_option maxHeartbeats 4000000 in
theorem c_J7_fill_53178_p3_12 (l : Launch) {E : xE} {S S' : xSt} {r0 : Nat} {a1 : Int} (hk0 : xkd E r0 = 3) (hA0 : xFam E r0) (h : f_J7_fill_53178_p3_12 S r0 a1 = some S') : Met l yJ7_fill_53178 (xws yJ7_fill_53178 cJ7_fill_53178 4 none) (rmD 1) (YPc E [vr E r0 12, vi a1] S) (YQv E S') 0 0 (xA E) := by
  unfold f_J7_fill_53178_p3_12 at h
  refine met_v (by decide +kernel) (Nat.le_of_ble_eq_true rfl) (fun K hC hZ hE => ?_)
  have hC : xOK K cJ7_fill_53178 RJ7 4 (rmE 1 0) := hC
  show WG K E 0 [(0, vr E r0 12), (1, vi a1)] [] S
  refine g_iconst hC (rfl : 0 + 1 = 1) (xdt tt_J7_fill_53178 0 rfl) ?_
  refine g_istore_n hC rfl (by decide) (lv' := [(2, vi 0), (0, vr E r0 12), (1, vi a1)]) rfl (rfl : 1 + 1 = 2) (xdt tt_J7_fill_53178 1 rfl) ?_
  refine g_aload_n hC rfl 1 rfl (rfl : 2 + 1 = 3) (xdt tt_J7_fill_53178 2 rfl) ?_
  refine g_alen hC hk0 ly3_12 (z := 60) (by decide) (rfl : 3 + 1 = 4) (xdt tt_J7_fill_53178 3 rfl) ?_
  refine g_istore_n hC rfl (by decide) (lv' := [(3, vi 60), (2, vi 0), (0, vr E r0 12), (1, vi a1)]) rfl (rfl : 4 + 1 = 5) (xdt tt_J7_fill_53178 4 rfl) ?_
  refine g_sub [2, 3, 1, 0] (lv' := [(0, vr E r0 12), (1, vi a1), (2, vi 0), (3, vi 60)]) rfl ?_
  exact k_J7_fill_53178_p3_12_b5 hC hZ hE hk0 hA0 _ _ _ _ _ h
def f_X4_begin_p3_10 (S : xSt) (r0 : Nat) : Option (xSt) :=
  bd (f_J7_fill_53178_p3_12 S r0 0) fun S2 =>
  lt1 (wI S2 r0 10 1 0) fun S3 =>
  some S3
set_option maxRecDepth 100000 in
set_option maxHeartbeats 4000000 in
theorem c_X4_begin_p3_10 (l : Launch) {E : xE} {S S' : xSt} {r0 : Nat} (hk0 : xkd E r0 = 3) (hA0 : xFam E r0) (h : f_X4_begin_p3_10 S r0 = some S') : Met l yX4_begin (xws yX4_begin cX4_begin 1 none) (rmD 2) (YPc E [vr E r0 10] S) (YQv E S') 0 0 (xA E) := by
  unfold f_X4_begin_p3_10 at h
  refine met_v (by decide +kernel) (Nat.le_of_ble_eq_true rfl) (fun K hC hZ hE => ?_)
  have hC : xOK K cX4_begin RX4 1 (rmE 2 0) := hC
  show WG K E 0 [(0, vr E r0 10)] [] S
  refine g_aload_n hC rfl 0 rfl (rfl : 0 + 1 = 1) (xdt tt_X4_begin 0 rfl) ?_
  refine g_getP hC hk0 kclX4 ly3_10 0 (by decide) (rfl : r0 + 0 = r0) rfl q134 (rfl : 1 + 3 = 4) (xdt tt_X4_begin 1 rfl) ?_
  refine g_getP hC hk0 kclX10 ly3_11 0 (by decide) (rfl : r0 + 0 = r0) rfl q176 (rfl : 4 + 3 = 7) (xdt tt_X4_begin 2 rfl) ?_
  refine g_iconst hC (rfl : 7 + 1 = 8) (xdt tt_X4_begin 3 rfl) ?_
  obtain ⟨S2, hc1, h⟩ := bd_i h
  refine g_callSv hC hZ m_J7_fill_53178 q178 (Nat.le_of_ble_eq_true rfl) [vr E r0 12, vi 0] rfl (fun l => c_J7_fill_53178_p3_12 l hk0 hA0 hc1) rfl (Nat.le_of_ble_eq_true rfl) (rfl : 8 + 3 = 11) (xdt tt_X4_begin 4 rfl) ?_
  refine g_aload_n hC rfl 0 rfl (rfl : 11 + 1 = 12) (xdt tt_X4_begin 5 rfl) ?_
  refine g_iconst hC (rfl : 12 + 1 = 13) (xdt tt_X4_begin 6 rfl) ?_
  obtain ⟨S3, hS3, h⟩ := lt1_i h
  refine g_putI hC hk0 kclX4 ly3_10 1 (by decide) rfl rfl rfl q177 hS3 (rfl : 13 + 3 = 16) (xdt tt_X4_begin 7 rfl) ?_
  cases h
  exact g_vret hC hE (xdt tt_X4_begin 8 rfl)
def f_X10_goesToTarget_p3_11_2_0 (S : xSt) (r0 : Nat) (r1 : Nat) (a2 : Int) : Option (Int × xSt) :=
  if wr a2 < 0 then
    (some (0, S))
  else
    (if wr (gI S r1 0 10) ≤ wr a2 then
      (some (0, S))
    else
      (ckI a2 60 <|
      if wr 8 ≤ wr (gI S r1 5 (wr a2).toNat) then
        (ckI a2 60 <|
        if ¬ wr (gI S r1 5 (wr a2).toNat) = wr 8 then
          (ckI a2 60 <|
          ckI a2 60 <|
          if wr (gI S r1 8 (wr a2).toNat) ≤ wr (gI S r0 12 (wr a2).toNat) then
            (ckI a2 60 <|
            lt1 (wI S r0 12 (wr a2).toNat 0) fun S6 =>
            some (0, S6))
          else
            (ckI a2 60 <|
            ckI a2 60 <|
            lt1 (wI S r0 12 (wr a2).toNat ((gI S r0 12 (wr a2).toNat) + 1)) fun S9 =>
            some (1, S9)))
        else
          (some (1, S)))
      else
        (some (0, S))))
set_option maxRecDepth 100000 in
set_option maxHeartbeats 4000000 in
theorem c_X10_goesToTarget_p3_11_2_0 (l : Launch) {E : xE} {S S' : xSt} {r0 : Nat} {r1 : Nat} {a2 : Int} (hk0 : xkd E r0 = 3) (hA0 : xFam E r0) (hk1 : xkd E r1 = 2) {v : Int} (h : f_X10_goesToTarget_p3_11_2_0 S r0 r1 a2 = some (v, S')) : Met l yX10_goesToTarget (xws yX10_goesToTarget cX10_goesToTarget 3 (some .boolean)) (rmD 1) (YPc E [vr E r0 11, vr E r1 0, vi a2] S) (YQz E v S') 0 0 (xA E) := by
  unfold f_X10_goesToTarget_p3_11_2_0 at h
  refine met_z (by decide +kernel) (Nat.le_of_ble_eq_true rfl) (fun K hC hZ hE => ?_)
  have hC : xOK K cX10_goesToTarget RX10 3 (rmE 1 0) := hC
  show WG K E 0 [(0, vr E r0 11), (1, vr E r1 0), (2, vi a2)] [] S
  refine g_iload_n hC rfl 2 rfl (rfl : 0 + 1 = 1) (xdt tt_X10_goesToTarget 0 rfl) ?_
  refine g_if_lt hC (show ((1 : Nat) : Int) + 22 = ((23 : Nat) : Int) by decide) (rfl : 1 + 3 = 4) (xdt tt_X10_goesToTarget 1 rfl) (fun hc14 => ?_) (fun hc14 => ?_)
  · replace h := (if_pos hc14).symm.trans h
    refine g_iconst hC (rfl : 23 + 1 = 24) (xdt tt_X10_goesToTarget 12 rfl) ?_
    cases h
    exact g_zret hC hE (Or.inl rfl) (xdt tt_X10_goesToTarget 13 rfl)
  · replace h := (if_neg hc14).symm.trans h
    refine g_iload_n hC rfl 2 rfl (rfl : 4 + 1 = 5) (xdt tt_X10_goesToTarget 2 rfl) ?_
    refine g_aload_n hC rfl 1 rfl (rfl : 5 + 1 = 6) (xdt tt_X10_goesToTarget 3 rfl) ?_
    refine g_getI hC hk1 kclX5 ly2_0 10 (by decide) rfl q925 (rfl : 6 + 3 = 9) (xdt tt_X10_goesToTarget 4 rfl) ?_
    refine g_icmp_ge hC (show ((9 : Nat) : Int) + 14 = ((23 : Nat) : Int) by decide) (rfl : 9 + 3 = 12) (xdt tt_X10_goesToTarget 5 rfl) (fun hc13 => ?_) (fun hc13 => ?_)
    · replace h := (if_pos hc13).symm.trans h
      refine g_iconst hC (rfl : 23 + 1 = 24) (xdt tt_X10_goesToTarget 12 rfl) ?_
      cases h
      exact g_zret hC hE (Or.inl rfl) (xdt tt_X10_goesToTarget 13 rfl)
    · replace h := (if_neg hc13).symm.trans h
      refine g_aload_n hC rfl 1 rfl (rfl : 12 + 1 = 13) (xdt tt_X10_goesToTarget 6 rfl) ?_
      refine g_getP hC hk1 kclX5 ly2_0 2 (by decide) (rfl : r1 + 0 = r1) rfl q926 (rfl : 13 + 3 = 16) (xdt tt_X10_goesToTarget 7 rfl) ?_
      refine g_iload_n hC rfl 2 rfl (rfl : 16 + 1 = 17) (xdt tt_X10_goesToTarget 8 rfl) ?_
      obtain ⟨hi1, h⟩ := ckI_i h
      refine g_iald hC hk1 ly2_5 hi1 (rfl : 17 + 1 = 18) (xdt tt_X10_goesToTarget 9 rfl) (k0 := (wr a2).toNat) rfl ?_
      refine g_bipush hC (by decide) (rfl : 18 + 2 = 20) (xdt tt_X10_goesToTarget 10 rfl) ?_
      refine g_icmp_ge hC (show ((20 : Nat) : Int) + 5 = ((25 : Nat) : Int) by decide) (rfl : 20 + 3 = 23) (xdt tt_X10_goesToTarget 11 rfl) (fun hc12 => ?_) (fun hc12 => ?_)
      · replace h := (if_pos hc12).symm.trans h
        refine g_aload_n hC rfl 1 rfl (rfl : 25 + 1 = 26) (xdt tt_X10_goesToTarget 14 rfl) ?_
        refine g_getP hC hk1 kclX5 ly2_0 2 (by decide) (rfl : r1 + 0 = r1) rfl q926 (rfl : 26 + 3 = 29) (xdt tt_X10_goesToTarget 15 rfl) ?_
        refine g_iload_n hC rfl 2 rfl (rfl : 29 + 1 = 30) (xdt tt_X10_goesToTarget 16 rfl) ?_
        obtain ⟨hi2, h⟩ := ckI_i h
        refine g_iald hC hk1 ly2_5 hi2 (rfl : 30 + 1 = 31) (xdt tt_X10_goesToTarget 17 rfl) (k0 := (wr a2).toNat) rfl ?_
        refine g_bipush hC (by decide) (rfl : 31 + 2 = 33) (xdt tt_X10_goesToTarget 18 rfl) ?_
        refine g_icmp_ne hC (show ((33 : Nat) : Int) + 5 = ((38 : Nat) : Int) by decide) (rfl : 33 + 3 = 36) (xdt tt_X10_goesToTarget 19 rfl) (fun hc11 => ?_) (fun hc11 => ?_)
        · replace h := (if_pos hc11).symm.trans h
          refine g_aload_n hC rfl 0 rfl (rfl : 38 + 1 = 39) (xdt tt_X10_goesToTarget 22 rfl) ?_
          refine g_getP hC hk0 kclX10 ly3_11 0 (by decide) (rfl : r0 + 0 = r0) rfl q129 (rfl : 39 + 3 = 42) (xdt tt_X10_goesToTarget 23 rfl) ?_
          refine g_iload_n hC rfl 2 rfl (rfl : 42 + 1 = 43) (xdt tt_X10_goesToTarget 24 rfl) ?_
          obtain ⟨hi3, h⟩ := ckI_i h
          refine g_iald hC hk0 ly3_12 hi3 (rfl : 43 + 1 = 44) (xdt tt_X10_goesToTarget 25 rfl) (k0 := (wr a2).toNat) rfl ?_
          refine g_aload_n hC rfl 1 rfl (rfl : 44 + 1 = 45) (xdt tt_X10_goesToTarget 26 rfl) ?_
          refine g_getP hC hk1 kclX5 ly2_0 5 (by decide) (rfl : r1 + 0 = r1) rfl q927 (rfl : 45 + 3 = 48) (xdt tt_X10_goesToTarget 27 rfl) ?_
          refine g_iload_n hC rfl 2 rfl (rfl : 48 + 1 = 49) (xdt tt_X10_goesToTarget 28 rfl) ?_
          obtain ⟨hi4, h⟩ := ckI_i h
          refine g_iald hC hk1 ly2_8 hi4 (rfl : 49 + 1 = 50) (xdt tt_X10_goesToTarget 29 rfl) (k0 := (wr a2).toNat) rfl ?_
          refine g_icmp_ge hC (show ((50 : Nat) : Int) + 15 = ((65 : Nat) : Int) by decide) (rfl : 50 + 3 = 53) (xdt tt_X10_goesToTarget 30 rfl) (fun hc10 => ?_) (fun hc10 => ?_)
          · replace h := (if_pos hc10).symm.trans h
            refine g_aload_n hC rfl 0 rfl (rfl : 65 + 1 = 66) (xdt tt_X10_goesToTarget 41 rfl) ?_
            refine g_getP hC hk0 kclX10 ly3_11 0 (by decide) (rfl : r0 + 0 = r0) rfl q129 (rfl : 66 + 3 = 69) (xdt tt_X10_goesToTarget 42 rfl) ?_
            refine g_iload_n hC rfl 2 rfl (rfl : 69 + 1 = 70) (xdt tt_X10_goesToTarget 43 rfl) ?_
            refine g_iconst hC (rfl : 70 + 1 = 71) (xdt tt_X10_goesToTarget 44 rfl) ?_
            obtain ⟨hi5, h⟩ := ckI_i h
            obtain ⟨S6, hS6, h⟩ := lt1_i h
            refine g_iast hC hk0 ly3_12 hi5 rfl hS6 (rfl : 71 + 1 = 72) (xdt tt_X10_goesToTarget 45 rfl) ?_
            refine g_iconst hC (rfl : 72 + 1 = 73) (xdt tt_X10_goesToTarget 46 rfl) ?_
            cases h
            exact g_zret hC hE (Or.inl rfl) (xdt tt_X10_goesToTarget 47 rfl)
          · replace h := (if_neg hc10).symm.trans h
            refine g_aload_n hC rfl 0 rfl (rfl : 53 + 1 = 54) (xdt tt_X10_goesToTarget 31 rfl) ?_
            refine g_getP hC hk0 kclX10 ly3_11 0 (by decide) (rfl : r0 + 0 = r0) rfl q129 (rfl : 54 + 3 = 57) (xdt tt_X10_goesToTarget 32 rfl) ?_
            refine g_iload_n hC rfl 2 rfl (rfl : 57 + 1 = 58) (xdt tt_X10_goesToTarget 33 rfl) ?_
            refine g_dup2 hC rfl rfl (rfl : 58 + 1 = 59) (xdt tt_X10_goesToTarget 34 rfl) ?_
            obtain ⟨hi7, h⟩ := ckI_i h
            refine g_iald hC hk0 ly3_12 hi7 (rfl : 59 + 1 = 60) (xdt tt_X10_goesToTarget 35 rfl) (k0 := (wr a2).toNat) rfl ?_
            refine g_iconst hC (rfl : 60 + 1 = 61) (xdt tt_X10_goesToTarget 36 rfl) ?_
            refine g_iadd hC (rfl : 61 + 1 = 62) (xdt tt_X10_goesToTarget 37 rfl) ?_
            obtain ⟨hi8, h⟩ := ckI_i h
            obtain ⟨S9, hS9, h⟩ := lt1_i h
            refine g_iast hC hk0 ly3_12 hi8 rfl hS9 (rfl : 62 + 1 = 63) (xdt tt_X10_goesToTarget 38 rfl) ?_
            refine g_iconst hC (rfl : 63 + 1 = 64) (xdt tt_X10_goesToTarget 39 rfl) ?_
            cases h
            exact g_zret hC hE (Or.inr rfl) (xdt tt_X10_goesToTarget 40 rfl)
        · replace h := (if_neg hc11).symm.trans h
          refine g_iconst hC (rfl : 36 + 1 = 37) (xdt tt_X10_goesToTarget 20 rfl) ?_
          cases h
          exact g_zret hC hE (Or.inr rfl) (xdt tt_X10_goesToTarget 21 rfl)
      · replace h := (if_neg hc12).symm.trans h
        refine g_iconst hC (rfl : 23 + 1 = 24) (xdt tt_X10_goesToTarget 12 rfl) ?_
        cases h
        exact g_zret hC hE (Or.inl rfl) (xdt tt_X10_goesToTarget 13 rfl)
def f_X4_next_p3_10_2_0 (S : xSt) (r0 : Nat) (r1 : Nat) : Option (Int × xSt) :=
  if wr (gI S r0 10 1) < 0 then
    (some ((-1), S))
  else
    (if wr (gI S r0 10 1) < wr (gI S r1 0 10) then
      (bd2 (f_X10_goesToTarget_p3_11_2_0 S r0 r1 (gI S r0 10 1)) fun v3 S2 =>
      if wr v3 = 0 then
        (lt1 (wI S2 r0 10 1 ((gI S r0 10 1) + 1)) fun S5 =>
        some ((gI S r0 10 1), S5))
      else
        (ckI (gI S r0 10 1) 60 <|
        lt1 (wI S2 r0 10 1 (gI S2 r1 11 (wr (gI S r0 10 1)).toNat)) fun S7 =>
        some ((gI S r0 10 1), S7)))
    else
      (some ((-1), S)))
set_option maxRecDepth 100000 in
set_option maxHeartbeats 4000000 in
theorem c_X4_next_p3_10_2_0 (l : Launch) {E : xE} {S S' : xSt} {r0 : Nat} {r1 : Nat} (hk0 : xkd E r0 = 3) (hA0 : xFam E r0) (hk1 : xkd E r1 = 2) {v : Int} (h : f_X4_next_p3_10_2_0 S r0 r1 = some (v, S')) : Met l yX4_next (xws yX4_next cX4_next 3 (some .int)) (rmD 2) (YPc E [vr E r0 10, vr E r1 0] S) (YQi E v S') 0 0 (xA E) := by
  unfold f_X4_next_p3_10_2_0 at h
  refine met_i (by decide +kernel) (Nat.le_of_ble_eq_true rfl) (fun K hC hZ hE => ?_)
  have hC : xOK K cX4_next RX4 3 (rmE 2 0) := hC
  show WG K E 0 [(0, vr E r0 10), (1, vr E r1 0)] [] S
  refine g_aload_n hC rfl 0 rfl (rfl : 0 + 1 = 1) (xdt tt_X4_next 0 rfl) ?_
  refine g_getI hC hk0 kclX4 ly3_10 1 (by decide) rfl q177 (rfl : 1 + 3 = 4) (xdt tt_X4_next 1 rfl) ?_
  refine g_istore_n hC rfl (by decide) (lv' := [(2, vi (gI S r0 10 1)), (0, vr E r0 10), (1, vr E r1 0)]) rfl (rfl : 4 + 1 = 5) (xdt tt_X4_next 2 rfl) ?_
  refine g_iload_n hC rfl 0 rfl (rfl : 5 + 1 = 6) (xdt tt_X4_next 3 rfl) ?_
  refine g_if_lt hC (show ((6 : Nat) : Int) + 11 = ((17 : Nat) : Int) by decide) (rfl : 6 + 3 = 9) (xdt tt_X4_next 4 rfl) (fun hc10 => ?_) (fun hc10 => ?_)
  · replace h := (if_pos hc10).symm.trans h
    refine g_iconst hC (rfl : 17 + 1 = 18) (xdt tt_X4_next 9 rfl) ?_
    cases h
    exact g_iret hC hE (xdt tt_X4_next 10 rfl)
  · replace h := (if_neg hc10).symm.trans h
    refine g_iload_n hC rfl 0 rfl (rfl : 9 + 1 = 10) (xdt tt_X4_next 5 rfl) ?_
    refine g_aload_n hC rfl 2 rfl (rfl : 10 + 1 = 11) (xdt tt_X4_next 6 rfl) ?_
    refine g_getI hC hk1 kclX5 ly2_0 10 (by decide) rfl q919 (rfl : 11 + 3 = 14) (xdt tt_X4_next 7 rfl) ?_
    refine g_icmp_lt hC (show ((14 : Nat) : Int) + 5 = ((19 : Nat) : Int) by decide) (rfl : 14 + 3 = 17) (xdt tt_X4_next 8 rfl) (fun hc9 => ?_) (fun hc9 => ?_)
    · replace h := (if_pos hc9).symm.trans h
      refine g_aload_n hC rfl 1 rfl (rfl : 19 + 1 = 20) (xdt tt_X4_next 11 rfl) ?_
      refine g_aload_n hC rfl 1 rfl (rfl : 20 + 1 = 21) (xdt tt_X4_next 12 rfl) ?_
      refine g_getP hC hk0 kclX4 ly3_10 0 (by decide) (rfl : r0 + 0 = r0) rfl q134 (rfl : 21 + 3 = 24) (xdt tt_X4_next 13 rfl) ?_
      refine g_aload_n hC rfl 2 rfl (rfl : 24 + 1 = 25) (xdt tt_X4_next 14 rfl) ?_
      refine g_iload_n hC rfl 0 rfl (rfl : 25 + 1 = 26) (xdt tt_X4_next 15 rfl) ?_
      obtain ⟨v3, S2, hc1, h⟩ := bd2_i h
      refine g_callVz hC hZ hk0 kclX10 ly3_11 m_X10_goesToTarget q921 (Nat.le_of_ble_eq_true rfl) [vr E r1 0, vi (gI S r0 10 1)] rfl (fun l => c_X10_goesToTarget_p3_11_2_0 l hk0 hA0 hk1 hc1) rfl (Nat.le_of_ble_eq_true rfl) (rfl : 26 + 3 = 29) (xdt tt_X4_next 16 rfl) (fun hb4 => ?_)
      refine g_if_eq hC (show ((29 : Nat) : Int) + 12 = ((41 : Nat) : Int) by decide) (rfl : 29 + 3 = 32) (xdt tt_X4_next 17 rfl) (fun hc8 => ?_) (fun hc8 => ?_)
      · replace h := (if_pos hc8).symm.trans h
        refine g_iload_n hC rfl 0 rfl (rfl : 41 + 1 = 42) (xdt tt_X4_next 23 rfl) ?_
        refine g_iconst hC (rfl : 42 + 1 = 43) (xdt tt_X4_next 24 rfl) ?_
        refine g_iadd hC (rfl : 43 + 1 = 44) (xdt tt_X4_next 25 rfl) ?_
        obtain ⟨S5, hS5, h⟩ := lt1_i h
        refine g_putI hC hk0 kclX4 ly3_10 1 (by decide) rfl rfl rfl q177 hS5 (rfl : 44 + 3 = 47) (xdt tt_X4_next 26 rfl) ?_
        refine g_iload_n hC rfl 0 rfl (rfl : 47 + 1 = 48) (xdt tt_X4_next 27 rfl) ?_
        cases h
        exact g_iret hC hE (xdt tt_X4_next 28 rfl)
      · replace h := (if_neg hc8).symm.trans h
        refine g_aload_n hC rfl 2 rfl (rfl : 32 + 1 = 33) (xdt tt_X4_next 18 rfl) ?_
        refine g_getP hC hk1 kclX5 ly2_0 8 (by decide) (rfl : r1 + 0 = r1) rfl q920 (rfl : 33 + 3 = 36) (xdt tt_X4_next 19 rfl) ?_
        refine g_iload_n hC rfl 0 rfl (rfl : 36 + 1 = 37) (xdt tt_X4_next 20 rfl) ?_
        obtain ⟨hi6, h⟩ := ckI_i h
        refine g_iald hC hk1 ly2_11 hi6 (rfl : 37 + 1 = 38) (xdt tt_X4_next 21 rfl) (k0 := (wr (gI S r0 10 1)).toNat) rfl ?_
        refine g_goto hC (show ((38 : Nat) : Int) + 6 = ((44 : Nat) : Int) by decide) (xdt tt_X4_next 22 rfl) ?_
        obtain ⟨S7, hS7, h⟩ := lt1_i h
        refine g_putI hC hk0 kclX4 ly3_10 1 (by decide) rfl rfl rfl q177 hS7 (rfl : 44 + 3 = 47) (xdt tt_X4_next 26 rfl) ?_
        refine g_iload_n hC rfl 0 rfl (rfl : 47 + 1 = 48) (xdt tt_X4_next 27 rfl) ?_
        cases h
        exact g_iret hC hE (xdt tt_X4_next 28 rfl)
    · replace h := (if_neg hc9).symm.trans h
      refine g_iconst hC (rfl : 17 + 1 = 18) (xdt tt_X4_next 9 rfl) ?_
      cases h
      exact g_iret hC hE (xdt tt_X4_next 10 rfl)
def f_X11_agrees_p3_0 (S : xSt) (r0 : Nat) : Option (Int × xSt) :=
  if wr (gI S (r0 + 1) 14 4) < wr (iMin 100 (gI S (r0 + 1) 15 1)) then
    (some (0, S))
  else
    (some (1, S))
set_option maxRecDepth 100000 in
set_option maxHeartbeats 4000000 in
theorem c_X11_agrees_p3_0 (l : Launch) {E : xE} {S S' : xSt} {r0 : Nat} (hk0 : xkd E r0 = 3) (hA0 : xFam E r0) {v : Int} (h : f_X11_agrees_p3_0 S r0 = some (v, S')) : Met l yX11_agrees (xws yX11_agrees cX11_agrees 1 (some .boolean)) (rmD 1) (YPc E [vr E r0 0] S) (YQz E v S') 0 0 (xA E) := by
  unfold f_X11_agrees_p3_0 at h
  refine met_z (by decide +kernel) (Nat.le_of_ble_eq_true rfl) (fun K hC hZ hE => ?_)
  have hC : xOK K cX11_agrees RX11 1 (rmE 1 0) := hC
  show WG K E 0 [(0, vr E r0 0)] [] S
  refine g_aload_n hC rfl 0 rfl (rfl : 0 + 1 = 1) (xdt tt_X11_agrees 0 rfl) ?_
  refine g_getP hC hk0 kclX11 ly3_0 6 (by decide) (rfl : r0 + 1 = (r0 + 1)) rfl q31 (rfl : 1 + 3 = 4) (xdt tt_X11_agrees 1 rfl) ?_
  refine g_getP hC (hA0 1 (by decide) (by decide)) kclX0 ly1_0 7 (by decide) (rfl : (r0 + 1) + 0 = (r0 + 1)) rfl q590 (rfl : 4 + 3 = 7) (xdt tt_X11_agrees 2 rfl) ?_
  refine g_getI hC (hA0 1 (by decide) (by decide)) kclX9 ly1_14 4 (by decide) rfl q946 (rfl : 7 + 3 = 10) (xdt tt_X11_agrees 3 rfl) ?_
  refine g_bipush hC (by decide) (rfl : 10 + 2 = 12) (xdt tt_X11_agrees 4 rfl) ?_
  refine g_aload_n hC rfl 0 rfl (rfl : 12 + 1 = 13) (xdt tt_X11_agrees 5 rfl) ?_
  refine g_getP hC hk0 kclX11 ly3_0 6 (by decide) (rfl : r0 + 1 = (r0 + 1)) rfl q31 (rfl : 13 + 3 = 16) (xdt tt_X11_agrees 6 rfl) ?_
  refine g_getP hC (hA0 1 (by decide) (by decide)) kclX0 ly1_0 7 (by decide) (rfl : (r0 + 1) + 0 = (r0 + 1)) rfl q590 (rfl : 16 + 3 = 19) (xdt tt_X11_agrees 7 rfl) ?_
  refine g_getP hC (hA0 1 (by decide) (by decide)) kclX9 ly1_14 0 (by decide) (rfl : (r0 + 1) + 0 = (r0 + 1)) rfl q591 (rfl : 19 + 3 = 22) (xdt tt_X11_agrees 8 rfl) ?_
  refine g_iconst hC (rfl : 22 + 1 = 23) (xdt tt_X11_agrees 9 rfl) ?_
  refine g_iald hC (hA0 1 (by decide) (by decide)) ly1_15 (by decide) (rfl : 23 + 1 = 24) (xdt tt_X11_agrees 10 rfl) (k0 := 1) (by decide) ?_
  refine g_mmin hC hZ q947 q290 q291 q292 (Nat.le_of_ble_eq_true rfl) (Nat.le_of_ble_eq_true rfl) (rfl : 24 + 3 = 27) (xdt tt_X11_agrees 11 rfl) ?_
  refine g_icmp_lt hC (show ((27 : Nat) : Int) + 7 = ((34 : Nat) : Int) by decide) (rfl : 27 + 3 = 30) (xdt tt_X11_agrees 12 rfl) (fun hc1 => ?_) (fun hc1 => ?_)
  · replace h := (if_pos hc1).symm.trans h
    refine g_iconst hC (rfl : 34 + 1 = 35) (xdt tt_X11_agrees 15 rfl) ?_
    cases h
    exact g_zret hC hE (Or.inl rfl) (xdt tt_X11_agrees 16 rfl)
  · replace h := (if_neg hc1).symm.trans h
    refine g_iconst hC (rfl : 30 + 1 = 31) (xdt tt_X11_agrees 13 rfl) ?_
    refine g_goto hC (show ((31 : Nat) : Int) + 4 = ((35 : Nat) : Int) by decide) (xdt tt_X11_agrees 14 rfl) ?_
    cases h
    exact g_zret hC hE (Or.inr rfl) (xdt tt_X11_agrees 16 rfl)
def f_X11_perCycle_p3_0 (S : xSt) (r0 : Nat) : Option (UInt64 × xSt) :=
  if 0 < wr (gI S (r0 + 1) 15 0) then
    (ckNd (FP.ddiv (FP.i2d (Int32.ofInt (gI S (r0 + 1) 15 1))) (FP.i2d (Int32.ofInt (gI S (r0 + 1) 15 0)))) <|
    some ((FP.ddiv (FP.i2d (Int32.ofInt (gI S (r0 + 1) 15 1))) (FP.i2d (Int32.ofInt (gI S (r0 + 1) 15 0)))), S))
  else
    (some (0, S))
set_option maxRecDepth 100000 in
set_option maxHeartbeats 4000000 in
theorem c_X11_perCycle_p3_0 (l : Launch) {E : xE} {S S' : xSt} {r0 : Nat} (hk0 : xkd E r0 = 3) (hA0 : xFam E r0) {v : UInt64} (h : f_X11_perCycle_p3_0 S r0 = some (v, S')) : Met l yX11_perCycle (xws yX11_perCycle cX11_perCycle 2 (some .double)) (rmD 1) (YPc E [vr E r0 0] S) (YQd E v S') 0 0 (xA E) := by
  unfold f_X11_perCycle_p3_0 at h
  refine met_d (by decide +kernel) (Nat.le_of_ble_eq_true rfl) (fun K hC hZ hE => ?_)
  have hC : xOK K cX11_perCycle RX11 2 (rmE 1 0) := hC
  show WG K E 0 [(0, vr E r0 0)] [] S
  refine g_aload_n hC rfl 0 rfl (rfl : 0 + 1 = 1) (xdt tt_X11_perCycle 0 rfl) ?_
  refine g_getP hC hk0 kclX11 ly3_0 6 (by decide) (rfl : r0 + 1 = (r0 + 1)) rfl q31 (rfl : 1 + 3 = 4) (xdt tt_X11_perCycle 1 rfl) ?_
  refine g_getP hC (hA0 1 (by decide) (by decide)) kclX0 ly1_0 7 (by decide) (rfl : (r0 + 1) + 0 = (r0 + 1)) rfl q590 (rfl : 4 + 3 = 7) (xdt tt_X11_perCycle 2 rfl) ?_
  refine g_getP hC (hA0 1 (by decide) (by decide)) kclX9 ly1_14 0 (by decide) (rfl : (r0 + 1) + 0 = (r0 + 1)) rfl q591 (rfl : 7 + 3 = 10) (xdt tt_X11_perCycle 3 rfl) ?_
  refine g_iconst hC (rfl : 10 + 1 = 11) (xdt tt_X11_perCycle 4 rfl) ?_
  refine g_iald hC (hA0 1 (by decide) (by decide)) ly1_15 (by decide) (rfl : 11 + 1 = 12) (xdt tt_X11_perCycle 5 rfl) (k0 := 0) (by decide) ?_
  refine g_istore_n hC rfl (by decide) (lv' := [(1, vi (gI S (r0 + 1) 15 0)), (0, vr E r0 0)]) rfl (rfl : 12 + 1 = 13) (xdt tt_X11_perCycle 6 rfl) ?_
  refine g_iload_n hC rfl 0 rfl (rfl : 13 + 1 = 14) (xdt tt_X11_perCycle 7 rfl) ?_
  refine g_if_gt hC (show ((14 : Nat) : Int) + 5 = ((19 : Nat) : Int) by decide) (rfl : 14 + 3 = 17) (xdt tt_X11_perCycle 8 rfl) (fun hc2 => ?_) (fun hc2 => ?_)
  · replace h := (if_pos hc2).symm.trans h
    refine g_aload_n hC rfl 1 rfl (rfl : 19 + 1 = 20) (xdt tt_X11_perCycle 11 rfl) ?_
    refine g_getP hC hk0 kclX11 ly3_0 6 (by decide) (rfl : r0 + 1 = (r0 + 1)) rfl q31 (rfl : 20 + 3 = 23) (xdt tt_X11_perCycle 12 rfl) ?_
    refine g_getP hC (hA0 1 (by decide) (by decide)) kclX0 ly1_0 7 (by decide) (rfl : (r0 + 1) + 0 = (r0 + 1)) rfl q590 (rfl : 23 + 3 = 26) (xdt tt_X11_perCycle 13 rfl) ?_
    refine g_getP hC (hA0 1 (by decide) (by decide)) kclX9 ly1_14 0 (by decide) (rfl : (r0 + 1) + 0 = (r0 + 1)) rfl q591 (rfl : 26 + 3 = 29) (xdt tt_X11_perCycle 14 rfl) ?_
    refine g_iconst hC (rfl : 29 + 1 = 30) (xdt tt_X11_perCycle 15 rfl) ?_
    refine g_iald hC (hA0 1 (by decide) (by decide)) ly1_15 (by decide) (rfl : 30 + 1 = 31) (xdt tt_X11_perCycle 16 rfl) (k0 := 1) (by decide) ?_
    refine g_i2d hC (rfl : 31 + 1 = 32) (xdt tt_X11_perCycle 17 rfl) ?_
    refine g_iload_n hC rfl 0 rfl (rfl : 32 + 1 = 33) (xdt tt_X11_perCycle 18 rfl) ?_
    refine g_i2d hC (rfl : 33 + 1 = 34) (xdt tt_X11_perCycle 19 rfl) ?_
    obtain ⟨hn1, h⟩ := ckNd_i h
    refine g_ddiv hC hn1 (rfl : 34 + 1 = 35) (xdt tt_X11_perCycle 20 rfl) ?_
    cases h
    exact g_dret hC hE (xdt tt_X11_perCycle 21 rfl)
  · replace h := (if_neg hc2).symm.trans h
    refine g_dconst0 hC (rfl : 17 + 1 = 18) (xdt tt_X11_perCycle 9 rfl) ?_
    cases h
    exact g_dret hC hE (xdt tt_X11_perCycle 10 rfl)
def f_X11_fusedShare_p3_0 (S : xSt) (r0 : Nat) : Option (UInt32 × xSt) :=
  if 0 < wr (gI S (r0 + 1) 15 1) then
    (ckNf (FP.fdiv (FP.i2f (Int32.ofInt (2 * (gI S (r0 + 1) 15 3)))) (FP.i2f (Int32.ofInt (gI S (r0 + 1) 15 1)))) <|
    some ((FP.fdiv (FP.i2f (Int32.ofInt (2 * (gI S (r0 + 1) 15 3)))) (FP.i2f (Int32.ofInt (gI S (r0 + 1) 15 1)))), S))
  else
    (some (0, S))
set_option maxRecDepth 100000 in
set_option maxHeartbeats 4000000 in
theorem c_X11_fusedShare_p3_0 (l : Launch) {E : xE} {S S' : xSt} {r0 : Nat} (hk0 : xkd E r0 = 3) (hA0 : xFam E r0) {v : UInt32} (h : f_X11_fusedShare_p3_0 S r0 = some (v, S')) : Met l yX11_fusedShare (xws yX11_fusedShare cX11_fusedShare 2 (some .float)) (rmD 1) (YPc E [vr E r0 0] S) (YQf E v S') 0 0 (xA E) := by
  unfold f_X11_fusedShare_p3_0 at h
  refine met_f (by decide +kernel) (Nat.le_of_ble_eq_true rfl) (fun K hC hZ hE => ?_)
  have hC : xOK K cX11_fusedShare RX11 2 (rmE 1 0) := hC
  show WG K E 0 [(0, vr E r0 0)] [] S
  refine g_aload_n hC rfl 0 rfl (rfl : 0 + 1 = 1) (xdt tt_X11_fusedShare 0 rfl) ?_
  refine g_getP hC hk0 kclX11 ly3_0 6 (by decide) (rfl : r0 + 1 = (r0 + 1)) rfl q31 (rfl : 1 + 3 = 4) (xdt tt_X11_fusedShare 1 rfl) ?_
  refine g_getP hC (hA0 1 (by decide) (by decide)) kclX0 ly1_0 7 (by decide) (rfl : (r0 + 1) + 0 = (r0 + 1)) rfl q590 (rfl : 4 + 3 = 7) (xdt tt_X11_fusedShare 2 rfl) ?_
  refine g_getP hC (hA0 1 (by decide) (by decide)) kclX9 ly1_14 0 (by decide) (rfl : (r0 + 1) + 0 = (r0 + 1)) rfl q591 (rfl : 7 + 3 = 10) (xdt tt_X11_fusedShare 3 rfl) ?_
  refine g_iconst hC (rfl : 10 + 1 = 11) (xdt tt_X11_fusedShare 4 rfl) ?_
  refine g_iald hC (hA0 1 (by decide) (by decide)) ly1_15 (by decide) (rfl : 11 + 1 = 12) (xdt tt_X11_fusedShare 5 rfl) (k0 := 1) (by decide) ?_
  refine g_istore_n hC rfl (by decide) (lv' := [(1, vi (gI S (r0 + 1) 15 1)), (0, vr E r0 0)]) rfl (rfl : 12 + 1 = 13) (xdt tt_X11_fusedShare 6 rfl) ?_
  refine g_iload_n hC rfl 0 rfl (rfl : 13 + 1 = 14) (xdt tt_X11_fusedShare 7 rfl) ?_
  refine g_if_gt hC (show ((14 : Nat) : Int) + 5 = ((19 : Nat) : Int) by decide) (rfl : 14 + 3 = 17) (xdt tt_X11_fusedShare 8 rfl) (fun hc2 => ?_) (fun hc2 => ?_)
  · replace h := (if_pos hc2).symm.trans h
    refine g_iconst hC (rfl : 19 + 1 = 20) (xdt tt_X11_fusedShare 11 rfl) ?_
    refine g_aload_n hC rfl 1 rfl (rfl : 20 + 1 = 21) (xdt tt_X11_fusedShare 12 rfl) ?_
    refine g_getP hC hk0 kclX11 ly3_0 6 (by decide) (rfl : r0 + 1 = (r0 + 1)) rfl q31 (rfl : 21 + 3 = 24) (xdt tt_X11_fusedShare 13 rfl) ?_
    refine g_getP hC (hA0 1 (by decide) (by decide)) kclX0 ly1_0 7 (by decide) (rfl : (r0 + 1) + 0 = (r0 + 1)) rfl q590 (rfl : 24 + 3 = 27) (xdt tt_X11_fusedShare 14 rfl) ?_
    refine g_getP hC (hA0 1 (by decide) (by decide)) kclX9 ly1_14 0 (by decide) (rfl : (r0 + 1) + 0 = (r0 + 1)) rfl q591 (rfl : 27 + 3 = 30) (xdt tt_X11_fusedShare 15 rfl) ?_
    refine g_iconst hC (rfl : 30 + 1 = 31) (xdt tt_X11_fusedShare 16 rfl) ?_
    refine g_iald hC (hA0 1 (by decide) (by decide)) ly1_15 (by decide) (rfl : 31 + 1 = 32) (xdt tt_X11_fusedShare 17 rfl) (k0 := 3) (by decide) ?_
    refine g_imul hC (rfl : 32 + 1 = 33) (xdt tt_X11_fusedShare 18 rfl) ?_
    refine g_i2f hC (rfl : 33 + 1 = 34) (xdt tt_X11_fusedShare 19 rfl) ?_
    refine g_iload_n hC rfl 0 rfl (rfl : 34 + 1 = 35) (xdt tt_X11_fusedShare 20 rfl) ?_
    refine g_i2f hC (rfl : 35 + 1 = 36) (xdt tt_X11_fusedShare 21 rfl) ?_
    obtain ⟨hn1, h⟩ := ckNf_i h
    refine g_fdiv hC hn1 (rfl : 36 + 1 = 37) (xdt tt_X11_fusedShare 22 rfl) ?_
    cases h
    exact g_fret hC hE (xdt tt_X11_fusedShare 23 rfl)
  · replace h := (if_neg hc2).symm.trans h
    refine g_fconst0 hC (rfl : 17 + 1 = 18) (xdt tt_X11_fusedShare 9 rfl) ?_
    cases h
    exact g_fret hC hE (xdt tt_X11_fusedShare 10 rfl)
def f_X8_copyFrom_p1_2_1_2 (S : xSt) (r0 : Nat) (r1 : Nat) : Option (xSt) :=
  lt1 (wA S r0 3 (cpI (S.2.1 r1 3) (S.2.1 r0 3) (wr 0).toNat (wr 0).toNat (wr 7).toNat)) fun S1 =>
  lt1 (wA S1 r0 4 (cpI (S1.2.1 r1 4) (S1.2.1 r0 4) (wr 0).toNat (wr 0).toNat (wr 7).toNat)) fun S2 =>
  lt1 (wI S2 r0 2 2 (gI S2 r1 2 2)) fun S3 =>
  some S3
set_option maxRecDepth 100000 in
set_option maxHeartbeats 4000000 in
theorem c_X8_copyFrom_p1_2_1_2 (l : Launch) {E : xE} {S S' : xSt} {r0 : Nat} {r1 : Nat} (hk0 : xkd E r0 = 1) (hk1 : xkd E r1 = 1) (h : f_X8_copyFrom_p1_2_1_2 S r0 r1 = some S') : Met l yX8_copyFrom (xws yX8_copyFrom cX8_copyFrom 2 none) (rmD 2) (YPc E [vr E r0 2, vr E r1 2] S) (YQv E S') 0 0 (xA E) := by
  unfold f_X8_copyFrom_p1_2_1_2 at h
  refine met_v (by decide +kernel) (Nat.le_of_ble_eq_true rfl) (fun K hC hZ hE => ?_)
  have hC : xOK K cX8_copyFrom RX8 2 (rmE 2 0) := hC
  show WG K E 0 [(0, vr E r0 2), (1, vr E r1 2)] [] S
  refine g_aload_n hC rfl 1 rfl (rfl : 0 + 1 = 1) (xdt tt_X8_copyFrom 0 rfl) ?_
  refine g_getP hC hk1 kclX8 ly1_2 0 (by decide) (rfl : r1 + 0 = r1) rfl q75 (rfl : 1 + 3 = 4) (xdt tt_X8_copyFrom 1 rfl) ?_
  refine g_iconst hC (rfl : 4 + 1 = 5) (xdt tt_X8_copyFrom 2 rfl) ?_
  refine g_aload_n hC rfl 0 rfl (rfl : 5 + 1 = 6) (xdt tt_X8_copyFrom 3 rfl) ?_
  refine g_getP hC hk0 kclX8 ly1_2 0 (by decide) (rfl : r0 + 0 = r0) rfl q75 (rfl : 6 + 3 = 9) (xdt tt_X8_copyFrom 4 rfl) ?_
  refine g_iconst hC (rfl : 9 + 1 = 10) (xdt tt_X8_copyFrom 5 rfl) ?_
  refine g_aload_n hC rfl 0 rfl (rfl : 10 + 1 = 11) (xdt tt_X8_copyFrom 6 rfl) ?_
  refine g_getP hC hk0 kclX8 ly1_2 0 (by decide) (rfl : r0 + 0 = r0) rfl q75 (rfl : 11 + 3 = 14) (xdt tt_X8_copyFrom 7 rfl) ?_
  refine g_alen hC hk0 ly1_3 (z := 7) (by decide) (rfl : 14 + 1 = 15) (xdt tt_X8_copyFrom 8 rfl) ?_
  obtain ⟨S1, hS1, h⟩ := lt1_i h
  refine g_copy hC hk1 hk0 ly1_3 ly1_3 rfl (by decide) (by decide) q166 q82 q83 q84 (Nat.le_of_ble_eq_true rfl) (Nat.le_of_ble_eq_true rfl) hS1 (rfl : 15 + 3 = 18) (xdt tt_X8_copyFrom 9 rfl) ?_
  refine g_aload_n hC rfl 1 rfl (rfl : 18 + 1 = 19) (xdt tt_X8_copyFrom 10 rfl) ?_
  refine g_getP hC hk1 kclX8 ly1_2 1 (by decide) (rfl : r1 + 0 = r1) rfl q76 (rfl : 19 + 3 = 22) (xdt tt_X8_copyFrom 11 rfl) ?_
  refine g_iconst hC (rfl : 22 + 1 = 23) (xdt tt_X8_copyFrom 12 rfl) ?_
  refine g_aload_n hC rfl 0 rfl (rfl : 23 + 1 = 24) (xdt tt_X8_copyFrom 13 rfl) ?_
  refine g_getP hC hk0 kclX8 ly1_2 1 (by decide) (rfl : r0 + 0 = r0) rfl q76 (rfl : 24 + 3 = 27) (xdt tt_X8_copyFrom 14 rfl) ?_
  refine g_iconst hC (rfl : 27 + 1 = 28) (xdt tt_X8_copyFrom 15 rfl) ?_
  refine g_aload_n hC rfl 0 rfl (rfl : 28 + 1 = 29) (xdt tt_X8_copyFrom 16 rfl) ?_
  refine g_getP hC hk0 kclX8 ly1_2 1 (by decide) (rfl : r0 + 0 = r0) rfl q76 (rfl : 29 + 3 = 32) (xdt tt_X8_copyFrom 17 rfl) ?_
  refine g_alen hC hk0 ly1_4 (z := 7) (by decide) (rfl : 32 + 1 = 33) (xdt tt_X8_copyFrom 18 rfl) ?_
  obtain ⟨S2, hS2, h⟩ := lt1_i h
  refine g_copy hC hk1 hk0 ly1_4 ly1_4 rfl (by decide) (by decide) q166 q82 q83 q84 (Nat.le_of_ble_eq_true rfl) (Nat.le_of_ble_eq_true rfl) hS2 (rfl : 33 + 3 = 36) (xdt tt_X8_copyFrom 19 rfl) ?_
  refine g_aload_n hC rfl 0 rfl (rfl : 36 + 1 = 37) (xdt tt_X8_copyFrom 20 rfl) ?_
  refine g_aload_n hC rfl 1 rfl (rfl : 37 + 1 = 38) (xdt tt_X8_copyFrom 21 rfl) ?_
  refine g_getI hC hk1 kclX8 ly1_2 2 (by decide) rfl q167 (rfl : 38 + 3 = 41) (xdt tt_X8_copyFrom 22 rfl) ?_
  obtain ⟨S3, hS3, h⟩ := lt1_i h
  refine g_putI hC hk0 kclX8 ly1_2 2 (by decide) rfl rfl rfl q167 hS3 (rfl : 41 + 3 = 44) (xdt tt_X8_copyFrom 23 rfl) ?_
  cases h
  exact g_vret hC hE (xdt tt_X8_copyFrom 24 rfl)
def f_X6_copyFrom_p1_5_1_5 (S : xSt) (r0 : Nat) (r1 : Nat) : Option (xSt) :=
  lt1 (wA S r0 6 (cpI (S.2.1 r1 6) (S.2.1 r0 6) (wr 0).toNat (wr 0).toNat (wr 20).toNat)) fun S1 =>
  lt1 (wA S1 r0 7 (cpI (S1.2.1 r1 7) (S1.2.1 r0 7) (wr 0).toNat (wr 0).toNat (wr 20).toNat)) fun S2 =>
  lt1 (wI S2 r0 5 2 (gI S2 r1 5 2)) fun S3 =>
  some S3
set_option maxRecDepth 100000 in
set_option maxHeartbeats 4000000 in
theorem c_X6_copyFrom_p1_5_1_5 (l : Launch) {E : xE} {S S' : xSt} {r0 : Nat} {r1 : Nat} (hk0 : xkd E r0 = 1) (hk1 : xkd E r1 = 1) (h : f_X6_copyFrom_p1_5_1_5 S r0 r1 = some S') : Met l yX6_copyFrom (xws yX6_copyFrom cX6_copyFrom 2 none) (rmD 2) (YPc E [vr E r0 5, vr E r1 5] S) (YQv E S') 0 0 (xA E) := by
  unfold f_X6_copyFrom_p1_5_1_5 at h
  refine met_v (by decide +kernel) (Nat.le_of_ble_eq_true rfl) (fun K hC hZ hE => ?_)
  have hC : xOK K cX6_copyFrom RX6 2 (rmE 2 0) := hC
  show WG K E 0 [(0, vr E r0 5), (1, vr E r1 5)] [] S
  refine g_aload_n hC rfl 1 rfl (rfl : 0 + 1 = 1) (xdt tt_X6_copyFrom 0 rfl) ?_
  refine g_getP hC hk1 kclX6 ly1_5 0 (by decide) (rfl : r1 + 0 = r1) rfl q121 (rfl : 1 + 3 = 4) (xdt tt_X6_copyFrom 1 rfl) ?_
  refine g_iconst hC (rfl : 4 + 1 = 5) (xdt tt_X6_copyFrom 2 rfl) ?_
  refine g_aload_n hC rfl 0 rfl (rfl : 5 + 1 = 6) (xdt tt_X6_copyFrom 3 rfl) ?_
  refine g_getP hC hk0 kclX6 ly1_5 0 (by decide) (rfl : r0 + 0 = r0) rfl q121 (rfl : 6 + 3 = 9) (xdt tt_X6_copyFrom 4 rfl) ?_
  refine g_iconst hC (rfl : 9 + 1 = 10) (xdt tt_X6_copyFrom 5 rfl) ?_
  refine g_bipush hC (by decide) (rfl : 10 + 2 = 12) (xdt tt_X6_copyFrom 6 rfl) ?_
  obtain ⟨S1, hS1, h⟩ := lt1_i h
  refine g_copy hC hk1 hk0 ly1_6 ly1_6 rfl (by decide) (by decide) q999 q82 q83 q84 (Nat.le_of_ble_eq_true rfl) (Nat.le_of_ble_eq_true rfl) hS1 (rfl : 12 + 3 = 15) (xdt tt_X6_copyFrom 7 rfl) ?_
  refine g_aload_n hC rfl 1 rfl (rfl : 15 + 1 = 16) (xdt tt_X6_copyFrom 8 rfl) ?_
  refine g_getP hC hk1 kclX6 ly1_5 1 (by decide) (rfl : r1 + 0 = r1) rfl q122 (rfl : 16 + 3 = 19) (xdt tt_X6_copyFrom 9 rfl) ?_
  refine g_iconst hC (rfl : 19 + 1 = 20) (xdt tt_X6_copyFrom 10 rfl) ?_
  refine g_aload_n hC rfl 0 rfl (rfl : 20 + 1 = 21) (xdt tt_X6_copyFrom 11 rfl) ?_
  refine g_getP hC hk0 kclX6 ly1_5 1 (by decide) (rfl : r0 + 0 = r0) rfl q122 (rfl : 21 + 3 = 24) (xdt tt_X6_copyFrom 12 rfl) ?_
  refine g_iconst hC (rfl : 24 + 1 = 25) (xdt tt_X6_copyFrom 13 rfl) ?_
  refine g_bipush hC (by decide) (rfl : 25 + 2 = 27) (xdt tt_X6_copyFrom 14 rfl) ?_
  obtain ⟨S2, hS2, h⟩ := lt1_i h
  refine g_copy hC hk1 hk0 ly1_7 ly1_7 rfl (by decide) (by decide) q999 q82 q83 q84 (Nat.le_of_ble_eq_true rfl) (Nat.le_of_ble_eq_true rfl) hS2 (rfl : 27 + 3 = 30) (xdt tt_X6_copyFrom 15 rfl) ?_
  refine g_aload_n hC rfl 0 rfl (rfl : 30 + 1 = 31) (xdt tt_X6_copyFrom 16 rfl) ?_
  refine g_aload_n hC rfl 1 rfl (rfl : 31 + 1 = 32) (xdt tt_X6_copyFrom 17 rfl) ?_
  refine g_getI hC hk1 kclX6 ly1_5 2 (by decide) rfl q1000 (rfl : 32 + 3 = 35) (xdt tt_X6_copyFrom 18 rfl) ?_
  obtain ⟨S3, hS3, h⟩ := lt1_i h
  refine g_putI hC hk0 kclX6 ly1_5 2 (by decide) rfl rfl rfl q1000 hS3 (rfl : 35 + 3 = 38) (xdt tt_X6_copyFrom 19 rfl) ?_
  cases h
  exact g_vret hC hE (xdt tt_X6_copyFrom 20 rfl)
def f_X7_copyFrom_p1_8_1_8 (S : xSt) (r0 : Nat) (r1 : Nat) : Option (xSt) :=
  ckB (gI S r1 8 0) <|
  lt1 (wI S r0 8 0 (gI S r1 8 0)) fun S2 =>
  lt1 (wI S2 r0 8 1 (gI S2 r1 8 1)) fun S3 =>
  lt1 (wI S3 r0 8 2 (gI S3 r1 8 2)) fun S4 =>
  lt1 (wI S4 r0 8 3 (gI S4 r1 8 3)) fun S5 =>
  lt1 (wI S5 r0 8 4 (gI S5 r1 8 4)) fun S6 =>
  some S6
set_option maxRecDepth 100000 in
set_option maxHeartbeats 4000000 in
theorem c_X7_copyFrom_p1_8_1_8 (l : Launch) {E : xE} {S S' : xSt} {r0 : Nat} {r1 : Nat} (hk0 : xkd E r0 = 1) (hk1 : xkd E r1 = 1) (h : f_X7_copyFrom_p1_8_1_8 S r0 r1 = some S') : Met l yX7_copyFrom (xws yX7_copyFrom cX7_copyFrom 2 none) (rmD 1) (YPc E [vr E r0 8, vr E r1 8] S) (YQv E S') 0 0 (xA E) := by
  unfold f_X7_copyFrom_p1_8_1_8 at h
  refine met_v (by decide +kernel) (Nat.le_of_ble_eq_true rfl) (fun K hC hZ hE => ?_)
  have hC : xOK K cX7_copyFrom RX7 2 (rmE 1 0) := hC
  show WG K E 0 [(0, vr E r0 8), (1, vr E r1 8)] [] S
  refine g_aload_n hC rfl 0 rfl (rfl : 0 + 1 = 1) (xdt tt_X7_copyFrom 0 rfl) ?_
  refine g_aload_n hC rfl 1 rfl (rfl : 1 + 1 = 2) (xdt tt_X7_copyFrom 1 rfl) ?_
  refine g_getI hC hk1 kclX7 ly1_8 0 (by decide) rfl q1005 (rfl : 2 + 3 = 5) (xdt tt_X7_copyFrom 2 rfl) ?_
  obtain ⟨hb1, h⟩ := ckB_i h
  obtain ⟨S2, hS2, h⟩ := lt1_i h
  refine g_putZ hC hk0 kclX7 ly1_8 0 (by decide) rfl rfl rfl q1005 hb1 hS2 (rfl : 5 + 3 = 8) (xdt tt_X7_copyFrom 3 rfl) ?_
  refine g_aload_n hC rfl 0 rfl (rfl : 8 + 1 = 9) (xdt tt_X7_copyFrom 4 rfl) ?_
  refine g_aload_n hC rfl 1 rfl (rfl : 9 + 1 = 10) (xdt tt_X7_copyFrom 5 rfl) ?_
  refine g_getI hC hk1 kclX7 ly1_8 1 (by decide) rfl q1006 (rfl : 10 + 3 = 13) (xdt tt_X7_copyFrom 6 rfl) ?_
  obtain ⟨S3, hS3, h⟩ := lt1_i h
  refine g_putI hC hk0 kclX7 ly1_8 1 (by decide) rfl rfl rfl q1006 hS3 (rfl : 13 + 3 = 16) (xdt tt_X7_copyFrom 7 rfl) ?_
  refine g_aload_n hC rfl 0 rfl (rfl : 16 + 1 = 17) (xdt tt_X7_copyFrom 8 rfl) ?_
  refine g_aload_n hC rfl 1 rfl (rfl : 17 + 1 = 18) (xdt tt_X7_copyFrom 9 rfl) ?_
  refine g_getI hC hk1 kclX7 ly1_8 2 (by decide) rfl q1007 (rfl : 18 + 3 = 21) (xdt tt_X7_copyFrom 10 rfl) ?_
  obtain ⟨S4, hS4, h⟩ := lt1_i h
  refine g_putI hC hk0 kclX7 ly1_8 2 (by decide) rfl rfl rfl q1007 hS4 (rfl : 21 + 3 = 24) (xdt tt_X7_copyFrom 11 rfl) ?_
  refine g_aload_n hC rfl 0 rfl (rfl : 24 + 1 = 25) (xdt tt_X7_copyFrom 12 rfl) ?_
  refine g_aload_n hC rfl 1 rfl (rfl : 25 + 1 = 26) (xdt tt_X7_copyFrom 13 rfl) ?_
  refine g_getI hC hk1 kclX7 ly1_8 3 (by decide) rfl q1008 (rfl : 26 + 3 = 29) (xdt tt_X7_copyFrom 14 rfl) ?_
  obtain ⟨S5, hS5, h⟩ := lt1_i h
  refine g_putI hC hk0 kclX7 ly1_8 3 (by decide) rfl rfl rfl q1008 hS5 (rfl : 29 + 3 = 32) (xdt tt_X7_copyFrom 15 rfl) ?_
  refine g_aload_n hC rfl 0 rfl (rfl : 32 + 1 = 33) (xdt tt_X7_copyFrom 16 rfl) ?_
  refine g_aload_n hC rfl 1 rfl (rfl : 33 + 1 = 34) (xdt tt_X7_copyFrom 17 rfl) ?_
  refine g_getI hC hk1 kclX7 ly1_8 4 (by decide) rfl q1009 (rfl : 34 + 3 = 37) (xdt tt_X7_copyFrom 18 rfl) ?_
  obtain ⟨S6, hS6, h⟩ := lt1_i h
  refine g_putI hC hk0 kclX7 ly1_8 4 (by decide) rfl rfl rfl q1009 hS6 (rfl : 37 + 3 = 40) (xdt tt_X7_copyFrom 19 rfl) ?_
  cases h
  exact g_vret hC hE (xdt tt_X7_copyFrom 20 rfl)
def f_X10_copyFrom_p1_9_1_9 (S : xSt) (r0 : Nat) (r1 : Nat) : Option (xSt) :=
  lt1 (wA S r0 10 (cpI (S.2.1 r1 10) (S.2.1 r0 10) (wr 0).toNat (wr 0).toNat (wr 60).toNat)) fun S1 =>
  some S1
set_option maxRecDepth 100000 in
set_option maxHeartbeats 4000000 in
theorem c_X10_copyFrom_p1_9_1_9 (l : Launch) {E : xE} {S S' : xSt} {r0 : Nat} {r1 : Nat} (hk0 : xkd E r0 = 1) (hk1 : xkd E r1 = 1) (h : f_X10_copyFrom_p1_9_1_9 S r0 r1 = some S') : Met l yX10_copyFrom (xws yX10_copyFrom cX10_copyFrom 2 none) (rmD 2) (YPc E [vr E r0 9, vr E r1 9] S) (YQv E S') 0 0 (xA E) := by
  unfold f_X10_copyFrom_p1_9_1_9 at h
  refine met_v (by decide +kernel) (Nat.le_of_ble_eq_true rfl) (fun K hC hZ hE => ?_)
  have hC : xOK K cX10_copyFrom RX10 2 (rmE 2 0) := hC
  show WG K E 0 [(0, vr E r0 9), (1, vr E r1 9)] [] S
  refine g_aload_n hC rfl 1 rfl (rfl : 0 + 1 = 1) (xdt tt_X10_copyFrom 0 rfl) ?_
  refine g_getP hC hk1 kclX10 ly1_9 0 (by decide) (rfl : r1 + 0 = r1) rfl q129 (rfl : 1 + 3 = 4) (xdt tt_X10_copyFrom 1 rfl) ?_
  refine g_iconst hC (rfl : 4 + 1 = 5) (xdt tt_X10_copyFrom 2 rfl) ?_
  refine g_aload_n hC rfl 0 rfl (rfl : 5 + 1 = 6) (xdt tt_X10_copyFrom 3 rfl) ?_
  refine g_getP hC hk0 kclX10 ly1_9 0 (by decide) (rfl : r0 + 0 = r0) rfl q129 (rfl : 6 + 3 = 9) (xdt tt_X10_copyFrom 4 rfl) ?_
  refine g_iconst hC (rfl : 9 + 1 = 10) (xdt tt_X10_copyFrom 5 rfl) ?_
  refine g_bipush hC (by decide) (rfl : 10 + 2 = 12) (xdt tt_X10_copyFrom 6 rfl) ?_
  obtain ⟨S1, hS1, h⟩ := lt1_i h
  refine g_copy hC hk1 hk0 ly1_10 ly1_10 rfl (by decide) (by decide) q1014 q82 q83 q84 (Nat.le_of_ble_eq_true rfl) (Nat.le_of_ble_eq_true rfl) hS1 (rfl : 12 + 3 = 15) (xdt tt_X10_copyFrom 7 rfl) ?_
  cases h
  exact g_vret hC hE (xdt tt_X10_copyFrom 8 rfl)
def f_X10_copyFrom_p1_12_1_12 (S : xSt) (r0 : Nat) (r1 : Nat) : Option (xSt) :=
  lt1 (wA S r0 13 (cpI (S.2.1 r1 13) (S.2.1 r0 13) (wr 0).toNat (wr 0).toNat (wr 60).toNat)) fun S1 =>
  some S1
set_option maxRecDepth 100000 in
set_option maxHeartbeats 4000000 in
theorem c_X10_copyFrom_p1_12_1_12 (l : Launch) {E : xE} {S S' : xSt} {r0 : Nat} {r1 : Nat} (hk0 : xkd E r0 = 1) (hk1 : xkd E r1 = 1) (h : f_X10_copyFrom_p1_12_1_12 S r0 r1 = some S') : Met l yX10_copyFrom (xws yX10_copyFrom cX10_copyFrom 2 none) (rmD 2) (YPc E [vr E r0 12, vr E r1 12] S) (YQv E S') 0 0 (xA E) := by
  unfold f_X10_copyFrom_p1_12_1_12 at h
  refine met_v (by decide +kernel) (Nat.le_of_ble_eq_true rfl) (fun K hC hZ hE => ?_)
  have hC : xOK K cX10_copyFrom RX10 2 (rmE 2 0) := hC
  show WG K E 0 [(0, vr E r0 12), (1, vr E r1 12)] [] S
  refine g_aload_n hC rfl 1 rfl (rfl : 0 + 1 = 1) (xdt tt_X10_copyFrom 0 rfl) ?_
  refine g_getP hC hk1 kclX10 ly1_12 0 (by decide) (rfl : r1 + 0 = r1) rfl q129 (rfl : 1 + 3 = 4) (xdt tt_X10_copyFrom 1 rfl) ?_
  refine g_iconst hC (rfl : 4 + 1 = 5) (xdt tt_X10_copyFrom 2 rfl) ?_
  refine g_aload_n hC rfl 0 rfl (rfl : 5 + 1 = 6) (xdt tt_X10_copyFrom 3 rfl) ?_
  refine g_getP hC hk0 kclX10 ly1_12 0 (by decide) (rfl : r0 + 0 = r0) rfl q129 (rfl : 6 + 3 = 9) (xdt tt_X10_copyFrom 4 rfl) ?_
  refine g_iconst hC (rfl : 9 + 1 = 10) (xdt tt_X10_copyFrom 5 rfl) ?_
  refine g_bipush hC (by decide) (rfl : 10 + 2 = 12) (xdt tt_X10_copyFrom 6 rfl) ?_
  obtain ⟨S1, hS1, h⟩ := lt1_i h
  refine g_copy hC hk1 hk0 ly1_13 ly1_13 rfl (by decide) (by decide) q1014 q82 q83 q84 (Nat.le_of_ble_eq_true rfl) (Nat.le_of_ble_eq_true rfl) hS1 (rfl : 12 + 3 = 15) (xdt tt_X10_copyFrom 7 rfl) ?_
  cases h
  exact g_vret hC hE (xdt tt_X10_copyFrom 8 rfl)
def f_X4_copyFrom_p1_11_1_11 (S : xSt) (r0 : Nat) (r1 : Nat) : Option (xSt) :=
  bd (f_X10_copyFrom_p1_12_1_12 S r0 r1) fun S2 =>
  lt1 (wI S2 r0 11 1 (gI S2 r1 11 1)) fun S3 =>
  some S3
set_option maxRecDepth 100000 in
set_option maxHeartbeats 4000000 in
theorem c_X4_copyFrom_p1_11_1_11 (l : Launch) {E : xE} {S S' : xSt} {r0 : Nat} {r1 : Nat} (hk0 : xkd E r0 = 1) (hk1 : xkd E r1 = 1) (h : f_X4_copyFrom_p1_11_1_11 S r0 r1 = some S') : Met l yX4_copyFrom (xws yX4_copyFrom cX4_copyFrom 2 none) (rmD 3) (YPc E [vr E r0 11, vr E r1 11] S) (YQv E S') 0 0 (xA E) := by
  unfold f_X4_copyFrom_p1_11_1_11 at h
  refine met_v (by decide +kernel) (Nat.le_of_ble_eq_true rfl) (fun K hC hZ hE => ?_)
  have hC : xOK K cX4_copyFrom RX4 2 (rmE 3 0) := hC
  show WG K E 0 [(0, vr E r0 11), (1, vr E r1 11)] [] S
  refine g_aload_n hC rfl 0 rfl (rfl : 0 + 1 = 1) (xdt tt_X4_copyFrom 0 rfl) ?_
  refine g_getP hC hk0 kclX4 ly1_11 0 (by decide) (rfl : r0 + 0 = r0) rfl q134 (rfl : 1 + 3 = 4) (xdt tt_X4_copyFrom 1 rfl) ?_
  refine g_aload_n hC rfl 1 rfl (rfl : 4 + 1 = 5) (xdt tt_X4_copyFrom 2 rfl) ?_
  refine g_getP hC hk1 kclX4 ly1_11 0 (by decide) (rfl : r1 + 0 = r1) rfl q134 (rfl : 5 + 3 = 8) (xdt tt_X4_copyFrom 3 rfl) ?_
  obtain ⟨S2, hc1, h⟩ := bd_i h
  refine g_callVv hC hZ hk0 kclX10 ly1_12 m_X10_copyFrom q1019 (Nat.le_of_ble_eq_true rfl) [vr E r1 12] rfl (fun l => c_X10_copyFrom_p1_12_1_12 l hk0 hk1 hc1) rfl (Nat.le_of_ble_eq_true rfl) (rfl : 8 + 3 = 11) (xdt tt_X4_copyFrom 4 rfl) ?_
  refine g_aload_n hC rfl 0 rfl (rfl : 11 + 1 = 12) (xdt tt_X4_copyFrom 5 rfl) ?_
  refine g_aload_n hC rfl 1 rfl (rfl : 12 + 1 = 13) (xdt tt_X4_copyFrom 6 rfl) ?_
  refine g_getI hC hk1 kclX4 ly1_11 1 (by decide) rfl q177 (rfl : 13 + 3 = 16) (xdt tt_X4_copyFrom 7 rfl) ?_
  obtain ⟨S3, hS3, h⟩ := lt1_i h
  refine g_putI hC hk0 kclX4 ly1_11 1 (by decide) rfl rfl rfl q177 hS3 (rfl : 16 + 3 = 19) (xdt tt_X4_copyFrom 8 rfl) ?_
  cases h
  exact g_vret hC hE (xdt tt_X4_copyFrom 9 rfl)
def f_X9_copyFrom_p1_14_1_14 (S : xSt) (r0 : Nat) (r1 : Nat) : Option (xSt) :=
  lt1 (wA S r0 15 (cpI (S.2.1 r1 15) (S.2.1 r0 15) (wr 0).toNat (wr 0).toNat (wr 9).toNat)) fun S1 =>
  lt1 (wA S1 r0 16 (cpI (S1.2.1 r1 16) (S1.2.1 r0 16) (wr 0).toNat (wr 0).toNat (wr 9).toNat)) fun S2 =>
  lt1 (wA S2 r0 17 (cpI (S2.2.1 r1 17) (S2.2.1 r0 17) (wr 0).toNat (wr 0).toNat (wr 60).toNat)) fun S3 =>
  lt1 (wA S3 r0 18 (cpI (S3.2.1 r1 18) (S3.2.1 r0 18) (wr 0).toNat (wr 0).toNat (wr 100).toNat)) fun S4 =>
  lt1 (wI S4 r0 14 4 (gI S4 r1 14 4)) fun S5 =>
  some S5
set_option maxRecDepth 100000 in
set_option maxHeartbeats 4000000 in
theorem c_X9_copyFrom_p1_14_1_14 (l : Launch) {E : xE} {S S' : xSt} {r0 : Nat} {r1 : Nat} (hk0 : xkd E r0 = 1) (hk1 : xkd E r1 = 1) (h : f_X9_copyFrom_p1_14_1_14 S r0 r1 = some S') : Met l yX9_copyFrom (xws yX9_copyFrom cX9_copyFrom 2 none) (rmD 2) (YPc E [vr E r0 14, vr E r1 14] S) (YQv E S') 0 0 (xA E) := by
  unfold f_X9_copyFrom_p1_14_1_14 at h
  refine met_v (by decide +kernel) (Nat.le_of_ble_eq_true rfl) (fun K hC hZ hE => ?_)
  have hC : xOK K cX9_copyFrom RX9 2 (rmE 2 0) := hC
  show WG K E 0 [(0, vr E r0 14), (1, vr E r1 14)] [] S
  refine g_aload_n hC rfl 1 rfl (rfl : 0 + 1 = 1) (xdt tt_X9_copyFrom 0 rfl) ?_
  refine g_getP hC hk1 kclX9 ly1_14 0 (by decide) (rfl : r1 + 0 = r1) rfl q138 (rfl : 1 + 3 = 4) (xdt tt_X9_copyFrom 1 rfl) ?_
  refine g_iconst hC (rfl : 4 + 1 = 5) (xdt tt_X9_copyFrom 2 rfl) ?_
  refine g_aload_n hC rfl 0 rfl (rfl : 5 + 1 = 6) (xdt tt_X9_copyFrom 3 rfl) ?_
  refine g_getP hC hk0 kclX9 ly1_14 0 (by decide) (rfl : r0 + 0 = r0) rfl q138 (rfl : 6 + 3 = 9) (xdt tt_X9_copyFrom 4 rfl) ?_
  refine g_iconst hC (rfl : 9 + 1 = 10) (xdt tt_X9_copyFrom 5 rfl) ?_
  refine g_bipush hC (by decide) (rfl : 10 + 2 = 12) (xdt tt_X9_copyFrom 6 rfl) ?_
  obtain ⟨S1, hS1, h⟩ := lt1_i h
  refine g_copy hC hk1 hk0 ly1_15 ly1_15 rfl (by decide) (by decide) q1024 q82 q83 q84 (Nat.le_of_ble_eq_true rfl) (Nat.le_of_ble_eq_true rfl) hS1 (rfl : 12 + 3 = 15) (xdt tt_X9_copyFrom 7 rfl) ?_
  refine g_aload_n hC rfl 1 rfl (rfl : 15 + 1 = 16) (xdt tt_X9_copyFrom 8 rfl) ?_
  refine g_getP hC hk1 kclX9 ly1_14 1 (by decide) (rfl : r1 + 0 = r1) rfl q139 (rfl : 16 + 3 = 19) (xdt tt_X9_copyFrom 9 rfl) ?_
  refine g_iconst hC (rfl : 19 + 1 = 20) (xdt tt_X9_copyFrom 10 rfl) ?_
  refine g_aload_n hC rfl 0 rfl (rfl : 20 + 1 = 21) (xdt tt_X9_copyFrom 11 rfl) ?_
  refine g_getP hC hk0 kclX9 ly1_14 1 (by decide) (rfl : r0 + 0 = r0) rfl q139 (rfl : 21 + 3 = 24) (xdt tt_X9_copyFrom 12 rfl) ?_
  refine g_iconst hC (rfl : 24 + 1 = 25) (xdt tt_X9_copyFrom 13 rfl) ?_
  refine g_bipush hC (by decide) (rfl : 25 + 2 = 27) (xdt tt_X9_copyFrom 14 rfl) ?_
  obtain ⟨S2, hS2, h⟩ := lt1_i h
  refine g_copy hC hk1 hk0 ly1_16 ly1_16 rfl (by decide) (by decide) q1024 q82 q83 q84 (Nat.le_of_ble_eq_true rfl) (Nat.le_of_ble_eq_true rfl) hS2 (rfl : 27 + 3 = 30) (xdt tt_X9_copyFrom 15 rfl) ?_
  refine g_aload_n hC rfl 1 rfl (rfl : 30 + 1 = 31) (xdt tt_X9_copyFrom 16 rfl) ?_
  refine g_getP hC hk1 kclX9 ly1_14 2 (by decide) (rfl : r1 + 0 = r1) rfl q140 (rfl : 31 + 3 = 34) (xdt tt_X9_copyFrom 17 rfl) ?_
  refine g_iconst hC (rfl : 34 + 1 = 35) (xdt tt_X9_copyFrom 18 rfl) ?_
  refine g_aload_n hC rfl 0 rfl (rfl : 35 + 1 = 36) (xdt tt_X9_copyFrom 19 rfl) ?_
  refine g_getP hC hk0 kclX9 ly1_14 2 (by decide) (rfl : r0 + 0 = r0) rfl q140 (rfl : 36 + 3 = 39) (xdt tt_X9_copyFrom 20 rfl) ?_
  refine g_iconst hC (rfl : 39 + 1 = 40) (xdt tt_X9_copyFrom 21 rfl) ?_
  refine g_bipush hC (by decide) (rfl : 40 + 2 = 42) (xdt tt_X9_copyFrom 22 rfl) ?_
  obtain ⟨S3, hS3, h⟩ := lt1_i h
  refine g_copy hC hk1 hk0 ly1_17 ly1_17 rfl (by decide) (by decide) q1024 q82 q83 q84 (Nat.le_of_ble_eq_true rfl) (Nat.le_of_ble_eq_true rfl) hS3 (rfl : 42 + 3 = 45) (xdt tt_X9_copyFrom 23 rfl) ?_
  refine g_aload_n hC rfl 1 rfl (rfl : 45 + 1 = 46) (xdt tt_X9_copyFrom 24 rfl) ?_
  refine g_getP hC hk1 kclX9 ly1_14 3 (by decide) (rfl : r1 + 0 = r1) rfl q141 (rfl : 46 + 3 = 49) (xdt tt_X9_copyFrom 25 rfl) ?_
  refine g_iconst hC (rfl : 49 + 1 = 50) (xdt tt_X9_copyFrom 26 rfl) ?_
  refine g_aload_n hC rfl 0 rfl (rfl : 50 + 1 = 51) (xdt tt_X9_copyFrom 27 rfl) ?_
  refine g_getP hC hk0 kclX9 ly1_14 3 (by decide) (rfl : r0 + 0 = r0) rfl q141 (rfl : 51 + 3 = 54) (xdt tt_X9_copyFrom 28 rfl) ?_
  refine g_iconst hC (rfl : 54 + 1 = 55) (xdt tt_X9_copyFrom 29 rfl) ?_
  refine g_bipush hC (by decide) (rfl : 55 + 2 = 57) (xdt tt_X9_copyFrom 30 rfl) ?_
  obtain ⟨S4, hS4, h⟩ := lt1_i h
  refine g_copy hC hk1 hk0 ly1_18 ly1_18 rfl (by decide) (by decide) q1024 q82 q83 q84 (Nat.le_of_ble_eq_true rfl) (Nat.le_of_ble_eq_true rfl) hS4 (rfl : 57 + 3 = 60) (xdt tt_X9_copyFrom 31 rfl) ?_
  refine g_aload_n hC rfl 0 rfl (rfl : 60 + 1 = 61) (xdt tt_X9_copyFrom 32 rfl) ?_
  refine g_aload_n hC rfl 1 rfl (rfl : 61 + 1 = 62) (xdt tt_X9_copyFrom 33 rfl) ?_
  refine g_getI hC hk1 kclX9 ly1_14 4 (by decide) rfl q183 (rfl : 62 + 3 = 65) (xdt tt_X9_copyFrom 34 rfl) ?_
  obtain ⟨S5, hS5, h⟩ := lt1_i h
  refine g_putI hC hk0 kclX9 ly1_14 4 (by decide) rfl rfl rfl q183 hS5 (rfl : 65 + 3 = 68) (xdt tt_X9_copyFrom 35 rfl) ?_
  cases h
  exact g_vret hC hE (xdt tt_X9_copyFrom 36 rfl)
