def f_X12_next_p4_0_b26 (c0 : xSt → Option (xSt)) (r0 : Nat) (S : xSt) : Option (xSt) :=
  lt1 (wI S r0 0 23 ((gI S r0 0 23) + 1)) fun S4 =>
  c0 S4
def f_X12_next_p4_0_b209 (c152 : xSt → Option (xSt)) (r0 : Nat) (S : xSt) : Option (xSt) :=
  lt1 (wI S r0 0 23 ((gI S r0 0 23) + 1)) fun S40 =>
  c152 S40
def f_X12_next_p4_0_b152 (r0 : Nat) : Nat → xSt → Option (xSt)
  | 0, _ => none
  | fuel + 1, S =>
    bd2 (f_X12_here_p4_0 S r0 (gI S r0 0 23)) fun v32 S31 =>
    bd2 (f_X12_isIn S31 (wr v32) 48 57) fun v35 S34 =>
    if wr v35 = 0 then
      (if wr ((gI S34 r0 0 23) - (gI S34 r0 0 24)) ≤ wr 2 then
        (lt1 (wI S34 r0 0 25 2) fun S37 =>
        some S37)
      else
        (lt1 (wI S34 r0 0 25 4) fun S38 =>
        some S38))
    else
      (if wr 2 ≤ wr ((gI S34 r0 0 23) - (gI S34 r0 0 24)) then
        (f_X12_next_p4_0_b209 ((f_X12_next_p4_0_b152 r0 fuel)) r0 S34)
      else
        (bd2 (f_X12_here_p4_0 S34 r0 (gI S34 r0 0 23)) fun v43 S42 =>
        lt1 (wI S42 r0 0 27 (((10 * (gI S34 r0 0 27)) + v43) - 48)) fun S44 =>
        f_X12_next_p4_0_b209 ((f_X12_next_p4_0_b152 r0 fuel)) r0 S44))
def f_X12_next_p4_0_b83 (r0 : Nat) : Nat → xSt → Option (xSt)
  | 0, _ => none
  | fuel + 1, S =>
    bd2 (f_X12_here_p4_0 S r0 (gI S r0 0 23)) fun v50 S49 =>
    bd2 (f_X12_isIn S49 (wr v50) 97 122) fun v53 S52 =>
    if wr v53 = 0 then
      (lt1 (wI S52 r0 0 25 1) fun S55 =>
      bd2 (f_X12_wordHere_p4_0 S55 r0) fun v58 S57 =>
      lt1 (wI S57 r0 0 26 v58) fun S59 =>
      some S59)
    else
      (lt1 (wI S52 r0 0 23 ((gI S52 r0 0 23) + 1)) fun S60 =>
      (f_X12_next_p4_0_b83 r0 fuel) S60)
def f_X12_next_p4_0_b0 (r0 : Nat) : Nat → xSt → Option (xSt)
  | 0, _ => none
  | fuel + 1, S =>
    bd2 (f_X12_here_p4_0 S r0 (gI S r0 0 23)) fun v3 S2 =>
    if wr v3 = wr 32 then
      (f_X12_next_p4_0_b26 ((f_X12_next_p4_0_b0 r0 fuel)) r0 S2)
    else
      (bd2 (f_X12_here_p4_0 S2 r0 (gI S2 r0 0 23)) fun v7 S6 =>
      if ¬ wr v7 = wr 10 then
        (lt1 (wI S6 r0 0 24 (gI S6 r0 0 23)) fun S8 =>
        bd2 (f_X12_here_p4_0 S8 r0 (gI S8 r0 0 23)) fun v11 S10 =>
        if ¬ wr v11 = wr (-1) then
          (bd2 (f_X12_isIn S10 (wr v11) 97 122) fun v14 S13 =>
          if wr v14 = 0 then
            (bd2 (f_X12_isIn S13 (wr v11) 48 57) fun v18 S17 =>
            if wr v18 = 0 then
              (lt1 (wI S17 r0 0 23 ((gI S17 r0 0 23) + 1)) fun S20 =>
              lt1 (wI S20 r0 0 28 v11) fun S21 =>
              if wr v11 = wr 59 then
                (lt1 (wI S21 r0 0 25 3) fun S22 =>
                some S22)
              else
                (if wr v11 = wr 40 then
                  (lt1 (wI S21 r0 0 25 3) fun S23 =>
                  some S23)
                else
                  (if ¬ wr v11 = wr 41 then
                    (lt1 (wI S21 r0 0 25 4) fun S24 =>
                    some S24)
                  else
                    (lt1 (wI S21 r0 0 25 3) fun S25 =>
                    some S25))))
            else
              (lt1 (wI S17 r0 0 27 0) fun S29 =>
              f_X12_next_p4_0_b152 r0 (fu S29) S29))
          else
            (f_X12_next_p4_0_b83 r0 (fu S13) S13))
        else
          (lt1 (wI S10 r0 0 25 0) fun S63 =>
          some S63))
      else
        (f_X12_next_p4_0_b26 ((f_X12_next_p4_0_b0 r0 fuel)) r0 S6))
def f_X12_next_p4_0 (S : xSt) (r0 : Nat) : Option (xSt) :=
  f_X12_next_p4_0_b0 r0 (fu S) S
set_option maxRecDepth 100000 in
set_option maxHeartbeats 4000000 in
theorem k_X12_next_p4_0_b26 {K : xCtx} {E : xE} {b : Nat} (hC : xOK K cX12_next RX12 2 (rmE 7 b)) (hZ : xZ K) {S' : xSt} (hE : xEnd K E none (YQv E S')) {r0 : Nat} (hk0 : xkd E r0 = 4) {c0 : xSt → Option (xSt)} (hrec0 : ∀ (S : xSt) , c0 S = some S' → WG K E 0 [(0, vr E r0 0)] [] S) : ∀ (S : xSt) , f_X12_next_p4_0_b26 c0 r0 S = some S' → WG K E 26 [(0, vr E r0 0)] [] S := by
  intro S h
  unfold f_X12_next_p4_0_b26 at h
  refine g_aload_n hC rfl 0 rfl (rfl : 26 + 1 = 27) (xdt tt_X12_next 12 rfl) ?_
  refine g_aload_n hC rfl 0 rfl (rfl : 27 + 1 = 28) (xdt tt_X12_next 13 rfl) ?_
  refine g_getI hC hk0 kclX12 ly4_0 23 (by decide) rfl q477 (rfl : 28 + 3 = 31) (xdt tt_X12_next 14 rfl) ?_
  refine g_iconst hC (rfl : 31 + 1 = 32) (xdt tt_X12_next 15 rfl) ?_
  refine g_iadd hC (rfl : 32 + 1 = 33) (xdt tt_X12_next 16 rfl) ?_
  obtain ⟨S4, hS4, h⟩ := lt1_i h
  refine g_putI hC hk0 kclX12 ly4_0 23 (by decide) rfl rfl rfl q477 hS4 (rfl : 33 + 3 = 36) (xdt tt_X12_next 17 rfl) ?_
  refine g_goto hC (show ((36 : Nat) : Int) + (-36) = ((0 : Nat) : Int) by decide) (xdt tt_X12_next 18 rfl) ?_
  refine g_sub [0] (lv' := [(0, vr E r0 0)]) rfl ?_
  exact hrec0 _ h
set_option maxRecDepth 100000 in
set_option maxHeartbeats 4000000 in
theorem k_X12_next_p4_0_b209 {K : xCtx} {E : xE} {b : Nat} (hC : xOK K cX12_next RX12 2 (rmE 7 b)) (hZ : xZ K) {S' : xSt} (hE : xEnd K E none (YQv E S')) {r0 : Nat} (hk0 : xkd E r0 = 4) {c152 : xSt → Option (xSt)} (hrec152 : ∀ (S : xSt) , c152 S = some S' → WG K E 152 [(0, vr E r0 0)] [] S) : ∀ (S : xSt) , f_X12_next_p4_0_b209 c152 r0 S = some S' → WG K E 209 [(0, vr E r0 0)] [] S := by
  intro S h
  unfold f_X12_next_p4_0_b209 at h
  refine g_aload_n hC rfl 0 rfl (rfl : 209 + 1 = 210) (xdt tt_X12_next 103 rfl) ?_
  refine g_dup hC rfl (rfl : 210 + 1 = 211) (xdt tt_X12_next 104 rfl) ?_
  refine g_getI hC hk0 kclX12 ly4_0 23 (by decide) rfl q477 (rfl : 211 + 3 = 214) (xdt tt_X12_next 105 rfl) ?_
  refine g_iconst hC (rfl : 214 + 1 = 215) (xdt tt_X12_next 106 rfl) ?_
  refine g_iadd hC (rfl : 215 + 1 = 216) (xdt tt_X12_next 107 rfl) ?_
  obtain ⟨S40, hS40, h⟩ := lt1_i h
  refine g_putI hC hk0 kclX12 ly4_0 23 (by decide) rfl rfl rfl q477 hS40 (rfl : 216 + 3 = 219) (xdt tt_X12_next 108 rfl) ?_
  refine g_goto hC (show ((219 : Nat) : Int) + (-67) = ((152 : Nat) : Int) by decide) (xdt tt_X12_next 109 rfl) ?_
  refine g_sub [0] (lv' := [(0, vr E r0 0)]) rfl ?_
  exact hrec152 _ h
set_option maxRecDepth 100000 in
set_option maxHeartbeats 4000000 in
theorem k_X12_next_p4_0_b152 {K : xCtx} {E : xE} {b : Nat} (hC : xOK K cX12_next RX12 2 (rmE 7 b)) (hZ : xZ K) {S' : xSt} (hE : xEnd K E none (YQv E S')) {r0 : Nat} (hk0 : xkd E r0 = 4) : ∀ (fuel : Nat) (S : xSt) , f_X12_next_p4_0_b152 r0 fuel S = some S' → WG K E 152 [(0, vr E r0 0)] [] S := by
  intro fuel
  induction fuel with
  | zero => intro S h; cases h
  | succ fuel ih =>
    intro S h
    rw [f_X12_next_p4_0_b152] at h
    refine g_aload_n hC rfl 0 rfl (rfl : 152 + 1 = 153) (xdt tt_X12_next 74 rfl) ?_
    refine g_aload_n hC rfl 0 rfl (rfl : 153 + 1 = 154) (xdt tt_X12_next 75 rfl) ?_
    refine g_getI hC hk0 kclX12 ly4_0 23 (by decide) rfl q477 (rfl : 154 + 3 = 157) (xdt tt_X12_next 76 rfl) ?_
    obtain ⟨v32, S31, hc30, h⟩ := bd2_i h
    refine g_callVi hC hZ hk0 kclX12 ly4_0 m_X12_here q490 (Nat.le_of_ble_eq_true rfl) [vi (gI S r0 0 23)] rfl (fun l => c_X12_here_p4_0 l hk0 hc30) rfl (Nat.le_of_ble_eq_true rfl) (rfl : 157 + 3 = 160) (xdt tt_X12_next 77 rfl) ?_
    refine g_i2l hC (rfl : 160 + 1 = 161) (xdt tt_X12_next 78 rfl) ?_
    refine g_ldc2 hC (z := 48) q486 (rfl : 161 + 3 = 164) (xdt tt_X12_next 79 rfl) ?_
    refine g_ldc2 hC (z := 57) q487 (rfl : 164 + 3 = 167) (xdt tt_X12_next 80 rfl) ?_
    obtain ⟨v35, S34, hc33, h⟩ := bd2_i h
    refine g_callSz hC hZ m_X12_isIn q269 (Nat.le_of_ble_eq_true rfl) [vl (wr v32), vl 48, vl 57] rfl (fun l => c_X12_isIn l hc33) rfl (Nat.le_of_ble_eq_true rfl) (rfl : 167 + 3 = 170) (xdt tt_X12_next 81 rfl) (fun hb36 => ?_)
    refine g_if_eq hC (show ((170 : Nat) : Int) + 52 = ((222 : Nat) : Int) by decide) (rfl : 170 + 3 = 173) (xdt tt_X12_next 82 rfl) (fun hc46 => ?_) (fun hc46 => ?_)
    · replace h := (if_pos hc46).symm.trans h
      refine g_aload_n hC rfl 0 rfl (rfl : 222 + 1 = 223) (xdt tt_X12_next 110 rfl) ?_
      refine g_aload_n hC rfl 0 rfl (rfl : 223 + 1 = 224) (xdt tt_X12_next 111 rfl) ?_
      refine g_getI hC hk0 kclX12 ly4_0 23 (by decide) rfl q477 (rfl : 224 + 3 = 227) (xdt tt_X12_next 112 rfl) ?_
      refine g_aload_n hC rfl 0 rfl (rfl : 227 + 1 = 228) (xdt tt_X12_next 113 rfl) ?_
      refine g_getI hC hk0 kclX12 ly4_0 24 (by decide) rfl q482 (rfl : 228 + 3 = 231) (xdt tt_X12_next 114 rfl) ?_
      refine g_isub hC (rfl : 231 + 1 = 232) (xdt tt_X12_next 115 rfl) ?_
      refine g_iconst hC (rfl : 232 + 1 = 233) (xdt tt_X12_next 116 rfl) ?_
      refine g_icmp_le hC (show ((233 : Nat) : Int) + 7 = ((240 : Nat) : Int) by decide) (rfl : 233 + 3 = 236) (xdt tt_X12_next 117 rfl) (fun hc39 => ?_) (fun hc39 => ?_)
      · replace h := (if_pos hc39).symm.trans h
        refine g_iconst hC (rfl : 240 + 1 = 241) (xdt tt_X12_next 120 rfl) ?_
        obtain ⟨S37, hS37, h⟩ := lt1_i h
        refine g_putI hC hk0 kclX12 ly4_0 25 (by decide) rfl rfl rfl q471 hS37 (rfl : 241 + 3 = 244) (xdt tt_X12_next 121 rfl) ?_
        refine g_goto hC (show ((244 : Nat) : Int) + 45 = ((289 : Nat) : Int) by decide) (xdt tt_X12_next 122 rfl) ?_
        cases h
        exact g_vret hC hE (xdt tt_X12_next 146 rfl)
      · replace h := (if_neg hc39).symm.trans h
        refine g_iconst hC (rfl : 236 + 1 = 237) (xdt tt_X12_next 118 rfl) ?_
        refine g_goto hC (show ((237 : Nat) : Int) + 4 = ((241 : Nat) : Int) by decide) (xdt tt_X12_next 119 rfl) ?_
        obtain ⟨S38, hS38, h⟩ := lt1_i h
        refine g_putI hC hk0 kclX12 ly4_0 25 (by decide) rfl rfl rfl q471 hS38 (rfl : 241 + 3 = 244) (xdt tt_X12_next 121 rfl) ?_
        refine g_goto hC (show ((244 : Nat) : Int) + 45 = ((289 : Nat) : Int) by decide) (xdt tt_X12_next 122 rfl) ?_
        cases h
        exact g_vret hC hE (xdt tt_X12_next 146 rfl)
    · replace h := (if_neg hc46).symm.trans h
      refine g_aload_n hC rfl 0 rfl (rfl : 173 + 1 = 174) (xdt tt_X12_next 83 rfl) ?_
      refine g_getI hC hk0 kclX12 ly4_0 23 (by decide) rfl q477 (rfl : 174 + 3 = 177) (xdt tt_X12_next 84 rfl) ?_
      refine g_aload_n hC rfl 0 rfl (rfl : 177 + 1 = 178) (xdt tt_X12_next 85 rfl) ?_
      refine g_getI hC hk0 kclX12 ly4_0 24 (by decide) rfl q482 (rfl : 178 + 3 = 181) (xdt tt_X12_next 86 rfl) ?_
      refine g_isub hC (rfl : 181 + 1 = 182) (xdt tt_X12_next 87 rfl) ?_
      refine g_iconst hC (rfl : 182 + 1 = 183) (xdt tt_X12_next 88 rfl) ?_
      refine g_icmp_ge hC (show ((183 : Nat) : Int) + 26 = ((209 : Nat) : Int) by decide) (rfl : 183 + 3 = 186) (xdt tt_X12_next 89 rfl) (fun hc45 => ?_) (fun hc45 => ?_)
      · replace h := (if_pos hc45).symm.trans h
        refine g_sub [0] (lv' := [(0, vr E r0 0)]) rfl ?_
        exact k_X12_next_p4_0_b209 hC hZ hE hk0 ih _ h
      · replace h := (if_neg hc45).symm.trans h
        refine g_aload_n hC rfl 0 rfl (rfl : 186 + 1 = 187) (xdt tt_X12_next 90 rfl) ?_
        refine g_bipush hC (by decide) (rfl : 187 + 2 = 189) (xdt tt_X12_next 91 rfl) ?_
        refine g_aload_n hC rfl 0 rfl (rfl : 189 + 1 = 190) (xdt tt_X12_next 92 rfl) ?_
        refine g_getI hC hk0 kclX12 ly4_0 27 (by decide) rfl q488 (rfl : 190 + 3 = 193) (xdt tt_X12_next 93 rfl) ?_
        refine g_imul hC (rfl : 193 + 1 = 194) (xdt tt_X12_next 94 rfl) ?_
        refine g_aload_n hC rfl 0 rfl (rfl : 194 + 1 = 195) (xdt tt_X12_next 95 rfl) ?_
        refine g_aload_n hC rfl 0 rfl (rfl : 195 + 1 = 196) (xdt tt_X12_next 96 rfl) ?_
        refine g_getI hC hk0 kclX12 ly4_0 23 (by decide) rfl q477 (rfl : 196 + 3 = 199) (xdt tt_X12_next 97 rfl) ?_
        obtain ⟨v43, S42, hc41, h⟩ := bd2_i h
        refine g_callVi hC hZ hk0 kclX12 ly4_0 m_X12_here q490 (Nat.le_of_ble_eq_true rfl) [vi (gI S34 r0 0 23)] rfl (fun l => c_X12_here_p4_0 l hk0 hc41) rfl (Nat.le_of_ble_eq_true rfl) (rfl : 199 + 3 = 202) (xdt tt_X12_next 98 rfl) ?_
        refine g_iadd hC (rfl : 202 + 1 = 203) (xdt tt_X12_next 99 rfl) ?_
        refine g_bipush hC (by decide) (rfl : 203 + 2 = 205) (xdt tt_X12_next 100 rfl) ?_
        refine g_isub hC (rfl : 205 + 1 = 206) (xdt tt_X12_next 101 rfl) ?_
        obtain ⟨S44, hS44, h⟩ := lt1_i h
        refine g_putI hC hk0 kclX12 ly4_0 27 (by decide) rfl rfl rfl q488 hS44 (rfl : 206 + 3 = 209) (xdt tt_X12_next 102 rfl) ?_
        refine g_sub [0] (lv' := [(0, vr E r0 0)]) rfl ?_
        exact k_X12_next_p4_0_b209 hC hZ hE hk0 ih _ h
set_option maxRecDepth 100000 in
set_option maxHeartbeats 4000000 in
theorem k_X12_next_p4_0_b83 {K : xCtx} {E : xE} {b : Nat} (hC : xOK K cX12_next RX12 2 (rmE 7 b)) (hZ : xZ K) {S' : xSt} (hE : xEnd K E none (YQv E S')) {r0 : Nat} (hk0 : xkd E r0 = 4) : ∀ (fuel : Nat) (S : xSt) , f_X12_next_p4_0_b83 r0 fuel S = some S' → WG K E 83 [(0, vr E r0 0)] [] S := by
  intro fuel
  induction fuel with
  | zero => intro S h; cases h
  | succ fuel ih =>
    intro S h
    rw [f_X12_next_p4_0_b83] at h
    refine g_aload_n hC rfl 0 rfl (rfl : 83 + 1 = 84) (xdt tt_X12_next 41 rfl) ?_
    refine g_aload_n hC rfl 0 rfl (rfl : 84 + 1 = 85) (xdt tt_X12_next 42 rfl) ?_
    refine g_getI hC hk0 kclX12 ly4_0 23 (by decide) rfl q477 (rfl : 85 + 3 = 88) (xdt tt_X12_next 43 rfl) ?_
    obtain ⟨v50, S49, hc48, h⟩ := bd2_i h
    refine g_callVi hC hZ hk0 kclX12 ly4_0 m_X12_here q490 (Nat.le_of_ble_eq_true rfl) [vi (gI S r0 0 23)] rfl (fun l => c_X12_here_p4_0 l hk0 hc48) rfl (Nat.le_of_ble_eq_true rfl) (rfl : 88 + 3 = 91) (xdt tt_X12_next 44 rfl) ?_
    refine g_i2l hC (rfl : 91 + 1 = 92) (xdt tt_X12_next 45 rfl) ?_
    refine g_ldc2 hC (z := 97) q483 (rfl : 92 + 3 = 95) (xdt tt_X12_next 46 rfl) ?_
    refine g_ldc2 hC (z := 122) q484 (rfl : 95 + 3 = 98) (xdt tt_X12_next 47 rfl) ?_
    obtain ⟨v53, S52, hc51, h⟩ := bd2_i h
    refine g_callSz hC hZ m_X12_isIn q269 (Nat.le_of_ble_eq_true rfl) [vl (wr v50), vl 97, vl 122] rfl (fun l => c_X12_isIn l hc51) rfl (Nat.le_of_ble_eq_true rfl) (rfl : 98 + 3 = 101) (xdt tt_X12_next 48 rfl) (fun hb54 => ?_)
    refine g_if_eq hC (show ((101 : Nat) : Int) + 16 = ((117 : Nat) : Int) by decide) (rfl : 101 + 3 = 104) (xdt tt_X12_next 49 rfl) (fun hc61 => ?_) (fun hc61 => ?_)
    · replace h := (if_pos hc61).symm.trans h
      refine g_aload_n hC rfl 0 rfl (rfl : 117 + 1 = 118) (xdt tt_X12_next 57 rfl) ?_
      refine g_iconst hC (rfl : 118 + 1 = 119) (xdt tt_X12_next 58 rfl) ?_
      obtain ⟨S55, hS55, h⟩ := lt1_i h
      refine g_putI hC hk0 kclX12 ly4_0 25 (by decide) rfl rfl rfl q471 hS55 (rfl : 119 + 3 = 122) (xdt tt_X12_next 59 rfl) ?_
      refine g_aload_n hC rfl 0 rfl (rfl : 122 + 1 = 123) (xdt tt_X12_next 60 rfl) ?_
      refine g_aload_n hC rfl 0 rfl (rfl : 123 + 1 = 124) (xdt tt_X12_next 61 rfl) ?_
      obtain ⟨v58, S57, hc56, h⟩ := bd2_i h
      refine g_callVi hC hZ hk0 kclX12 ly4_0 m_X12_wordHere q494 (Nat.le_of_ble_eq_true rfl) [] rfl (fun l => c_X12_wordHere_p4_0 l hk0 hc56) rfl (Nat.le_of_ble_eq_true rfl) (rfl : 124 + 3 = 127) (xdt tt_X12_next 62 rfl) ?_
      obtain ⟨S59, hS59, h⟩ := lt1_i h
      refine g_putI hC hk0 kclX12 ly4_0 26 (by decide) rfl rfl rfl q485 hS59 (rfl : 127 + 3 = 130) (xdt tt_X12_next 63 rfl) ?_
      refine g_goto hC (show ((130 : Nat) : Int) + 159 = ((289 : Nat) : Int) by decide) (xdt tt_X12_next 64 rfl) ?_
      cases h
      exact g_vret hC hE (xdt tt_X12_next 146 rfl)
    · replace h := (if_neg hc61).symm.trans h
      refine g_aload_n hC rfl 0 rfl (rfl : 104 + 1 = 105) (xdt tt_X12_next 50 rfl) ?_
      refine g_aload_n hC rfl 0 rfl (rfl : 105 + 1 = 106) (xdt tt_X12_next 51 rfl) ?_
      refine g_getI hC hk0 kclX12 ly4_0 23 (by decide) rfl q477 (rfl : 106 + 3 = 109) (xdt tt_X12_next 52 rfl) ?_
      refine g_iconst hC (rfl : 109 + 1 = 110) (xdt tt_X12_next 53 rfl) ?_
      refine g_iadd hC (rfl : 110 + 1 = 111) (xdt tt_X12_next 54 rfl) ?_
      obtain ⟨S60, hS60, h⟩ := lt1_i h
      refine g_putI hC hk0 kclX12 ly4_0 23 (by decide) rfl rfl rfl q477 hS60 (rfl : 111 + 3 = 114) (xdt tt_X12_next 55 rfl) ?_
      refine g_goto hC (show ((114 : Nat) : Int) + (-31) = ((83 : Nat) : Int) by decide) (xdt tt_X12_next 56 rfl) ?_
      refine g_sub [0] (lv' := [(0, vr E r0 0)]) rfl ?_
      exact ih _ h
set_option maxRecDepth 100000 in
set_option maxHeartbeats 4000000 in
theorem k_X12_next_p4_0_b0 {K : xCtx} {E : xE} {b : Nat} (hC : xOK K cX12_next RX12 2 (rmE 7 b)) (hZ : xZ K) {S' : xSt} (hE : xEnd K E none (YQv E S')) {r0 : Nat} (hk0 : xkd E r0 = 4) : ∀ (fuel : Nat) (S : xSt) , f_X12_next_p4_0_b0 r0 fuel S = some S' → WG K E 0 [(0, vr E r0 0)] [] S := by
  intro fuel
  induction fuel with
  | zero => intro S h; cases h
  | succ fuel ih =>
    intro S h
    rw [f_X12_next_p4_0_b0] at h
    refine g_aload_n hC rfl 0 rfl (rfl : 0 + 1 = 1) (xdt tt_X12_next 0 rfl) ?_
    refine g_aload_n hC rfl 0 rfl (rfl : 1 + 1 = 2) (xdt tt_X12_next 1 rfl) ?_
    refine g_getI hC hk0 kclX12 ly4_0 23 (by decide) rfl q477 (rfl : 2 + 3 = 5) (xdt tt_X12_next 2 rfl) ?_
    obtain ⟨v3, S2, hc1, h⟩ := bd2_i h
    refine g_callVi hC hZ hk0 kclX12 ly4_0 m_X12_here q490 (Nat.le_of_ble_eq_true rfl) [vi (gI S r0 0 23)] rfl (fun l => c_X12_here_p4_0 l hk0 hc1) rfl (Nat.le_of_ble_eq_true rfl) (rfl : 5 + 3 = 8) (xdt tt_X12_next 3 rfl) ?_
    refine g_bipush hC (by decide) (rfl : 8 + 2 = 10) (xdt tt_X12_next 4 rfl) ?_
    refine g_icmp_eq hC (show ((10 : Nat) : Int) + 16 = ((26 : Nat) : Int) by decide) (rfl : 10 + 3 = 13) (xdt tt_X12_next 5 rfl) (fun hc66 => ?_) (fun hc66 => ?_)
    · replace h := (if_pos hc66).symm.trans h
      refine g_sub [0] (lv' := [(0, vr E r0 0)]) rfl ?_
      exact k_X12_next_p4_0_b26 hC hZ hE hk0 ih _ h
    · replace h := (if_neg hc66).symm.trans h
      refine g_aload_n hC rfl 0 rfl (rfl : 13 + 1 = 14) (xdt tt_X12_next 6 rfl) ?_
      refine g_aload_n hC rfl 0 rfl (rfl : 14 + 1 = 15) (xdt tt_X12_next 7 rfl) ?_
      refine g_getI hC hk0 kclX12 ly4_0 23 (by decide) rfl q477 (rfl : 15 + 3 = 18) (xdt tt_X12_next 8 rfl) ?_
      obtain ⟨v7, S6, hc5, h⟩ := bd2_i h
      refine g_callVi hC hZ hk0 kclX12 ly4_0 m_X12_here q490 (Nat.le_of_ble_eq_true rfl) [vi (gI S2 r0 0 23)] rfl (fun l => c_X12_here_p4_0 l hk0 hc5) rfl (Nat.le_of_ble_eq_true rfl) (rfl : 18 + 3 = 21) (xdt tt_X12_next 9 rfl) ?_
      refine g_bipush hC (by decide) (rfl : 21 + 2 = 23) (xdt tt_X12_next 10 rfl) ?_
      refine g_icmp_ne hC (show ((23 : Nat) : Int) + 16 = ((39 : Nat) : Int) by decide) (rfl : 23 + 3 = 26) (xdt tt_X12_next 11 rfl) (fun hc65 => ?_) (fun hc65 => ?_)
      · replace h := (if_pos hc65).symm.trans h
        refine g_aload_n hC rfl 0 rfl (rfl : 39 + 1 = 40) (xdt tt_X12_next 19 rfl) ?_
        refine g_aload_n hC rfl 0 rfl (rfl : 40 + 1 = 41) (xdt tt_X12_next 20 rfl) ?_
        refine g_getI hC hk0 kclX12 ly4_0 23 (by decide) rfl q477 (rfl : 41 + 3 = 44) (xdt tt_X12_next 21 rfl) ?_
        obtain ⟨S8, hS8, h⟩ := lt1_i h
        refine g_putI hC hk0 kclX12 ly4_0 24 (by decide) rfl rfl rfl q482 hS8 (rfl : 44 + 3 = 47) (xdt tt_X12_next 22 rfl) ?_
        refine g_aload_n hC rfl 0 rfl (rfl : 47 + 1 = 48) (xdt tt_X12_next 23 rfl) ?_
        refine g_aload_n hC rfl 0 rfl (rfl : 48 + 1 = 49) (xdt tt_X12_next 24 rfl) ?_
        refine g_getI hC hk0 kclX12 ly4_0 23 (by decide) rfl q477 (rfl : 49 + 3 = 52) (xdt tt_X12_next 25 rfl) ?_
        obtain ⟨v11, S10, hc9, h⟩ := bd2_i h
        refine g_callVi hC hZ hk0 kclX12 ly4_0 m_X12_here q490 (Nat.le_of_ble_eq_true rfl) [vi (gI S8 r0 0 23)] rfl (fun l => c_X12_here_p4_0 l hk0 hc9) rfl (Nat.le_of_ble_eq_true rfl) (rfl : 52 + 3 = 55) (xdt tt_X12_next 26 rfl) ?_
        refine g_istore_n hC rfl (by decide) (lv' := [(1, vi v11), (0, vr E r0 0)]) rfl (rfl : 55 + 1 = 56) (xdt tt_X12_next 27 rfl) ?_
        refine g_iload_n hC rfl 0 rfl (rfl : 56 + 1 = 57) (xdt tt_X12_next 28 rfl) ?_
        refine g_iconst hC (rfl : 57 + 1 = 58) (xdt tt_X12_next 29 rfl) ?_
        refine g_icmp_ne hC (show ((58 : Nat) : Int) + 11 = ((69 : Nat) : Int) by decide) (rfl : 58 + 3 = 61) (xdt tt_X12_next 30 rfl) (fun hc64 => ?_) (fun hc64 => ?_)
        · replace h := (if_pos hc64).symm.trans h
          refine g_iload_n hC rfl 0 rfl (rfl : 69 + 1 = 70) (xdt tt_X12_next 35 rfl) ?_
          refine g_i2l hC (rfl : 70 + 1 = 71) (xdt tt_X12_next 36 rfl) ?_
          refine g_ldc2 hC (z := 97) q483 (rfl : 71 + 3 = 74) (xdt tt_X12_next 37 rfl) ?_
          refine g_ldc2 hC (z := 122) q484 (rfl : 74 + 3 = 77) (xdt tt_X12_next 38 rfl) ?_
          obtain ⟨v14, S13, hc12, h⟩ := bd2_i h
          refine g_callSz hC hZ m_X12_isIn q269 (Nat.le_of_ble_eq_true rfl) [vl (wr v11), vl 97, vl 122] rfl (fun l => c_X12_isIn l hc12) rfl (Nat.le_of_ble_eq_true rfl) (rfl : 77 + 3 = 80) (xdt tt_X12_next 39 rfl) (fun hb15 => ?_)
          refine g_if_eq hC (show ((80 : Nat) : Int) + 53 = ((133 : Nat) : Int) by decide) (rfl : 80 + 3 = 83) (xdt tt_X12_next 40 rfl) (fun hc62 => ?_) (fun hc62 => ?_)
          · replace h := (if_pos hc62).symm.trans h
            refine g_iload_n hC rfl 0 rfl (rfl : 133 + 1 = 134) (xdt tt_X12_next 65 rfl) ?_
            refine g_i2l hC (rfl : 134 + 1 = 135) (xdt tt_X12_next 66 rfl) ?_
            refine g_ldc2 hC (z := 48) q486 (rfl : 135 + 3 = 138) (xdt tt_X12_next 67 rfl) ?_
            refine g_ldc2 hC (z := 57) q487 (rfl : 138 + 3 = 141) (xdt tt_X12_next 68 rfl) ?_
            obtain ⟨v18, S17, hc16, h⟩ := bd2_i h
            refine g_callSz hC hZ m_X12_isIn q269 (Nat.le_of_ble_eq_true rfl) [vl (wr v11), vl 48, vl 57] rfl (fun l => c_X12_isIn l hc16) rfl (Nat.le_of_ble_eq_true rfl) (rfl : 141 + 3 = 144) (xdt tt_X12_next 69 rfl) (fun hb19 => ?_)
            refine g_if_eq hC (show ((144 : Nat) : Int) + 103 = ((247 : Nat) : Int) by decide) (rfl : 144 + 3 = 147) (xdt tt_X12_next 70 rfl) (fun hc47 => ?_) (fun hc47 => ?_)
            · replace h := (if_pos hc47).symm.trans h
              refine g_aload_n hC rfl 1 rfl (rfl : 247 + 1 = 248) (xdt tt_X12_next 123 rfl) ?_
              refine g_aload_n hC rfl 1 rfl (rfl : 248 + 1 = 249) (xdt tt_X12_next 124 rfl) ?_
              refine g_getI hC hk0 kclX12 ly4_0 23 (by decide) rfl q477 (rfl : 249 + 3 = 252) (xdt tt_X12_next 125 rfl) ?_
              refine g_iconst hC (rfl : 252 + 1 = 253) (xdt tt_X12_next 126 rfl) ?_
              refine g_iadd hC (rfl : 253 + 1 = 254) (xdt tt_X12_next 127 rfl) ?_
              obtain ⟨S20, hS20, h⟩ := lt1_i h
              refine g_putI hC hk0 kclX12 ly4_0 23 (by decide) rfl rfl rfl q477 hS20 (rfl : 254 + 3 = 257) (xdt tt_X12_next 128 rfl) ?_
              refine g_aload_n hC rfl 1 rfl (rfl : 257 + 1 = 258) (xdt tt_X12_next 129 rfl) ?_
              refine g_iload_n hC rfl 0 rfl (rfl : 258 + 1 = 259) (xdt tt_X12_next 130 rfl) ?_
              obtain ⟨S21, hS21, h⟩ := lt1_i h
              refine g_putI hC hk0 kclX12 ly4_0 28 (by decide) rfl rfl rfl q489 hS21 (rfl : 259 + 3 = 262) (xdt tt_X12_next 131 rfl) ?_
              refine g_aload_n hC rfl 1 rfl (rfl : 262 + 1 = 263) (xdt tt_X12_next 132 rfl) ?_
              refine g_iload_n hC rfl 0 rfl (rfl : 263 + 1 = 264) (xdt tt_X12_next 133 rfl) ?_
              refine g_bipush hC (by decide) (rfl : 264 + 2 = 266) (xdt tt_X12_next 134 rfl) ?_
              refine g_icmp_eq hC (show ((266 : Nat) : Int) + 15 = ((281 : Nat) : Int) by decide) (rfl : 266 + 3 = 269) (xdt tt_X12_next 135 rfl) (fun hc28 => ?_) (fun hc28 => ?_)
              · replace h := (if_pos hc28).symm.trans h
                refine g_iconst hC (rfl : 281 + 1 = 282) (xdt tt_X12_next 142 rfl) ?_
                refine g_goto hC (show ((282 : Nat) : Int) + 4 = ((286 : Nat) : Int) by decide) (xdt tt_X12_next 143 rfl) ?_
                obtain ⟨S22, hS22, h⟩ := lt1_i h
                refine g_putI hC hk0 kclX12 ly4_0 25 (by decide) rfl rfl rfl q471 hS22 (rfl : 286 + 3 = 289) (xdt tt_X12_next 145 rfl) ?_
                cases h
                exact g_vret hC hE (xdt tt_X12_next 146 rfl)
              · replace h := (if_neg hc28).symm.trans h
                refine g_iload_n hC rfl 0 rfl (rfl : 269 + 1 = 270) (xdt tt_X12_next 136 rfl) ?_
                refine g_bipush hC (by decide) (rfl : 270 + 2 = 272) (xdt tt_X12_next 137 rfl) ?_
                refine g_icmp_eq hC (show ((272 : Nat) : Int) + 9 = ((281 : Nat) : Int) by decide) (rfl : 272 + 3 = 275) (xdt tt_X12_next 138 rfl) (fun hc27 => ?_) (fun hc27 => ?_)
                · replace h := (if_pos hc27).symm.trans h
                  refine g_iconst hC (rfl : 281 + 1 = 282) (xdt tt_X12_next 142 rfl) ?_
                  refine g_goto hC (show ((282 : Nat) : Int) + 4 = ((286 : Nat) : Int) by decide) (xdt tt_X12_next 143 rfl) ?_
                  obtain ⟨S23, hS23, h⟩ := lt1_i h
                  refine g_putI hC hk0 kclX12 ly4_0 25 (by decide) rfl rfl rfl q471 hS23 (rfl : 286 + 3 = 289) (xdt tt_X12_next 145 rfl) ?_
                  cases h
                  exact g_vret hC hE (xdt tt_X12_next 146 rfl)
                · replace h := (if_neg hc27).symm.trans h
                  refine g_iload_n hC rfl 0 rfl (rfl : 275 + 1 = 276) (xdt tt_X12_next 139 rfl) ?_
                  refine g_bipush hC (by decide) (rfl : 276 + 2 = 278) (xdt tt_X12_next 140 rfl) ?_
                  refine g_icmp_ne hC (show ((278 : Nat) : Int) + 7 = ((285 : Nat) : Int) by decide) (rfl : 278 + 3 = 281) (xdt tt_X12_next 141 rfl) (fun hc26 => ?_) (fun hc26 => ?_)
                  · replace h := (if_pos hc26).symm.trans h
                    refine g_iconst hC (rfl : 285 + 1 = 286) (xdt tt_X12_next 144 rfl) ?_
                    obtain ⟨S24, hS24, h⟩ := lt1_i h
                    refine g_putI hC hk0 kclX12 ly4_0 25 (by decide) rfl rfl rfl q471 hS24 (rfl : 286 + 3 = 289) (xdt tt_X12_next 145 rfl) ?_
                    cases h
                    exact g_vret hC hE (xdt tt_X12_next 146 rfl)
                  · replace h := (if_neg hc26).symm.trans h
                    refine g_iconst hC (rfl : 281 + 1 = 282) (xdt tt_X12_next 142 rfl) ?_
                    refine g_goto hC (show ((282 : Nat) : Int) + 4 = ((286 : Nat) : Int) by decide) (xdt tt_X12_next 143 rfl) ?_
                    obtain ⟨S25, hS25, h⟩ := lt1_i h
                    refine g_putI hC hk0 kclX12 ly4_0 25 (by decide) rfl rfl rfl q471 hS25 (rfl : 286 + 3 = 289) (xdt tt_X12_next 145 rfl) ?_
                    cases h
                    exact g_vret hC hE (xdt tt_X12_next 146 rfl)
            · replace h := (if_neg hc47).symm.trans h
              refine g_aload_n hC rfl 1 rfl (rfl : 147 + 1 = 148) (xdt tt_X12_next 71 rfl) ?_
              refine g_iconst hC (rfl : 148 + 1 = 149) (xdt tt_X12_next 72 rfl) ?_
              obtain ⟨S29, hS29, h⟩ := lt1_i h
              refine g_putI hC hk0 kclX12 ly4_0 27 (by decide) rfl rfl rfl q488 hS29 (rfl : 149 + 3 = 152) (xdt tt_X12_next 73 rfl) ?_
              refine g_sub [1] (lv' := [(0, vr E r0 0)]) rfl ?_
              exact k_X12_next_p4_0_b152 hC hZ hE hk0 _ _ h
          · replace h := (if_neg hc62).symm.trans h
            refine g_sub [1] (lv' := [(0, vr E r0 0)]) rfl ?_
            exact k_X12_next_p4_0_b83 hC hZ hE hk0 _ _ h
        · replace h := (if_neg hc64).symm.trans h
          refine g_aload_n hC rfl 1 rfl (rfl : 61 + 1 = 62) (xdt tt_X12_next 31 rfl) ?_
          refine g_iconst hC (rfl : 62 + 1 = 63) (xdt tt_X12_next 32 rfl) ?_
          obtain ⟨S63, hS63, h⟩ := lt1_i h
          refine g_putI hC hk0 kclX12 ly4_0 25 (by decide) rfl rfl rfl q471 hS63 (rfl : 63 + 3 = 66) (xdt tt_X12_next 33 rfl) ?_
          refine g_goto hC (show ((66 : Nat) : Int) + 223 = ((289 : Nat) : Int) by decide) (xdt tt_X12_next 34 rfl) ?_
          cases h
          exact g_vret hC hE (xdt tt_X12_next 146 rfl)
      · replace h := (if_neg hc65).symm.trans h
        refine g_sub [0] (lv' := [(0, vr E r0 0)]) rfl ?_
        exact k_X12_next_p4_0_b26 hC hZ hE hk0 ih _ h
set_option maxRecDepth 100000 in
set_option maxHeartbeats 4000000 in
theorem c_X12_next_p4_0 (l : Launch) {E : xE} {S S' : xSt} {r0 : Nat} (hk0 : xkd E r0 = 4) (h : f_X12_next_p4_0 S r0 = some S') : Met l yX12_next (xws yX12_next cX12_next 2 none) (rmD 7) (YPc E [vr E r0 0] S) (YQv E S') 0 0 (xA E) := by
  unfold f_X12_next_p4_0 at h
  refine met_v (by decide +kernel) (Nat.le_of_ble_eq_true rfl) (fun K hC hZ hE => ?_)
  have hC : xOK K cX12_next RX12 2 (rmE 7 0) := hC
  show WG K E 0 [(0, vr E r0 0)] [] S
  refine g_sub [0] (lv' := [(0, vr E r0 0)]) rfl ?_
  exact k_X12_next_p4_0_b0 hC hZ hE hk0 _ _ h
def f_X12_fine_p4_0 (S : xSt) (r0 : Nat) : Option (Int × xSt) :=
  if ¬ wr (gI S r0 0 29) = 0 then
    (some (0, S))
  else
    (some (1, S))
set_option maxRecDepth 100000 in
set_option maxHeartbeats 4000000 in
theorem c_X12_fine_p4_0 (l : Launch) {E : xE} {S S' : xSt} {r0 : Nat} (hk0 : xkd E r0 = 4) {v : Int} (h : f_X12_fine_p4_0 S r0 = some (v, S')) : Met l yX12_fine (xws yX12_fine cX12_fine 1 (some .boolean)) (rmD 1) (YPc E [vr E r0 0] S) (YQz E v S') 0 0 (xA E) := by
  unfold f_X12_fine_p4_0 at h
  refine met_z (by decide +kernel) (Nat.le_of_ble_eq_true rfl) (fun K hC hZ hE => ?_)
  have hC : xOK K cX12_fine RX12 1 (rmE 1 0) := hC
  show WG K E 0 [(0, vr E r0 0)] [] S
  refine g_aload_n hC rfl 0 rfl (rfl : 0 + 1 = 1) (xdt tt_X12_fine 0 rfl) ?_
  refine g_getI hC hk0 kclX12 ly4_0 29 (by decide) rfl q470 (rfl : 1 + 3 = 4) (xdt tt_X12_fine 1 rfl) ?_
  refine g_if_ne hC (show ((4 : Nat) : Int) + 7 = ((11 : Nat) : Int) by decide) (rfl : 4 + 3 = 7) (xdt tt_X12_fine 2 rfl) (fun hc1 => ?_) (fun hc1 => ?_)
  · replace h := (if_pos hc1).symm.trans h
    refine g_iconst hC (rfl : 11 + 1 = 12) (xdt tt_X12_fine 5 rfl) ?_
    cases h
    exact g_zret hC hE (Or.inl rfl) (xdt tt_X12_fine 6 rfl)
  · replace h := (if_neg hc1).symm.trans h
    refine g_iconst hC (rfl : 7 + 1 = 8) (xdt tt_X12_fine 3 rfl) ?_
    refine g_goto hC (show ((8 : Nat) : Int) + 4 = ((12 : Nat) : Int) by decide) (xdt tt_X12_fine 4 rfl) ?_
    cases h
    exact g_zret hC hE (Or.inr rfl) (xdt tt_X12_fine 6 rfl)
def f_X12_needs_p4_0 (S : xSt) (r0 : Nat) (a1 : Int) (a2 : Int) : Option (xSt) :=
  if ¬ wr (gI S r0 0 29) = 0 then
    (some S)
  else
    (if wr a1 = 0 then
      (lt1 (wI S r0 0 29 a2) fun S1 =>
      lt1 (wI S1 r0 0 30 (gI S1 r0 0 24)) fun S2 =>
      some S2)
    else
      (some S))
set_option maxRecDepth 100000 in
set_option maxHeartbeats 4000000 in
theorem c_X12_needs_p4_0 (l : Launch) {E : xE} {S S' : xSt} {r0 : Nat} {a1 : Int} {a2 : Int} (hk0 : xkd E r0 = 4) (h : f_X12_needs_p4_0 S r0 a1 a2 = some S') : Met l yX12_needs (xws yX12_needs cX12_needs 3 none) (rmD 1) (YPc E [vr E r0 0, vi a1, vi a2] S) (YQv E S') 0 0 (xA E) := by
  unfold f_X12_needs_p4_0 at h
  refine met_v (by decide +kernel) (Nat.le_of_ble_eq_true rfl) (fun K hC hZ hE => ?_)
  have hC : xOK K cX12_needs RX12 3 (rmE 1 0) := hC
  show WG K E 0 [(0, vr E r0 0), (1, vi a1), (2, vi a2)] [] S
  refine g_aload_n hC rfl 0 rfl (rfl : 0 + 1 = 1) (xdt tt_X12_needs 0 rfl) ?_
  refine g_getI hC hk0 kclX12 ly4_0 29 (by decide) rfl q470 (rfl : 1 + 3 = 4) (xdt tt_X12_needs 1 rfl) ?_
  refine g_if_ne hC (show ((4 : Nat) : Int) + 7 = ((11 : Nat) : Int) by decide) (rfl : 4 + 3 = 7) (xdt tt_X12_needs 2 rfl) (fun hc4 => ?_) (fun hc4 => ?_)
  · replace h := (if_pos hc4).symm.trans h
    cases h
    exact g_vret hC hE (xdt tt_X12_needs 5 rfl)
  · replace h := (if_neg hc4).symm.trans h
    refine g_iload_n hC rfl 1 rfl (rfl : 7 + 1 = 8) (xdt tt_X12_needs 3 rfl) ?_
    refine g_if_eq hC (show ((8 : Nat) : Int) + 4 = ((12 : Nat) : Int) by decide) (rfl : 8 + 3 = 11) (xdt tt_X12_needs 4 rfl) (fun hc3 => ?_) (fun hc3 => ?_)
    · replace h := (if_pos hc3).symm.trans h
      refine g_aload_n hC rfl 0 rfl (rfl : 12 + 1 = 13) (xdt tt_X12_needs 6 rfl) ?_
      refine g_iload_n hC rfl 2 rfl (rfl : 13 + 1 = 14) (xdt tt_X12_needs 7 rfl) ?_
      obtain ⟨S1, hS1, h⟩ := lt1_i h
      refine g_putI hC hk0 kclX12 ly4_0 29 (by decide) rfl rfl rfl q470 hS1 (rfl : 14 + 3 = 17) (xdt tt_X12_needs 8 rfl) ?_
      refine g_aload_n hC rfl 0 rfl (rfl : 17 + 1 = 18) (xdt tt_X12_needs 9 rfl) ?_
      refine g_aload_n hC rfl 0 rfl (rfl : 18 + 1 = 19) (xdt tt_X12_needs 10 rfl) ?_
      refine g_getI hC hk0 kclX12 ly4_0 24 (by decide) rfl q482 (rfl : 19 + 3 = 22) (xdt tt_X12_needs 11 rfl) ?_
      obtain ⟨S2, hS2, h⟩ := lt1_i h
      refine g_putI hC hk0 kclX12 ly4_0 30 (by decide) rfl rfl rfl q209 hS2 (rfl : 22 + 3 = 25) (xdt tt_X12_needs 12 rfl) ?_
      cases h
      exact g_vret hC hE (xdt tt_X12_needs 13 rfl)
    · replace h := (if_neg hc3).symm.trans h
      cases h
      exact g_vret hC hE (xdt tt_X12_needs 5 rfl)
def f_X12_goOn_p4_0 (S : xSt) (r0 : Nat) : Option (xSt) :=
  bd2 (f_X12_fine_p4_0 S r0) fun v3 S2 =>
  if wr v3 = 0 then
    (some S2)
  else
    (bd (f_X12_next_p4_0 S2 r0) fun S6 =>
    some S6)
set_option maxRecDepth 100000 in
set_option maxHeartbeats 4000000 in
theorem c_X12_goOn_p4_0 (l : Launch) {E : xE} {S S' : xSt} {r0 : Nat} (hk0 : xkd E r0 = 4) (h : f_X12_goOn_p4_0 S r0 = some S') : Met l yX12_goOn (xws yX12_goOn cX12_goOn 1 none) (rmD 8) (YPc E [vr E r0 0] S) (YQv E S') 0 0 (xA E) := by
  unfold f_X12_goOn_p4_0 at h
  refine met_v (by decide +kernel) (Nat.le_of_ble_eq_true rfl) (fun K hC hZ hE => ?_)
  have hC : xOK K cX12_goOn RX12 1 (rmE 8 0) := hC
  show WG K E 0 [(0, vr E r0 0)] [] S
  refine g_aload_n hC rfl 0 rfl (rfl : 0 + 1 = 1) (xdt tt_X12_goOn 0 rfl) ?_
  obtain ⟨v3, S2, hc1, h⟩ := bd2_i h
  refine g_callVz hC hZ hk0 kclX12 ly4_0 m_X12_fine q500 (Nat.le_of_ble_eq_true rfl) [] rfl (fun l => c_X12_fine_p4_0 l hk0 hc1) rfl (Nat.le_of_ble_eq_true rfl) (rfl : 1 + 3 = 4) (xdt tt_X12_goOn 1 rfl) (fun hb4 => ?_)
  refine g_if_eq hC (show ((4 : Nat) : Int) + 7 = ((11 : Nat) : Int) by decide) (rfl : 4 + 3 = 7) (xdt tt_X12_goOn 2 rfl) (fun hc7 => ?_) (fun hc7 => ?_)
  · replace h := (if_pos hc7).symm.trans h
    cases h
    exact g_vret hC hE (xdt tt_X12_goOn 5 rfl)
  · replace h := (if_neg hc7).symm.trans h
    refine g_aload_n hC rfl 0 rfl (rfl : 7 + 1 = 8) (xdt tt_X12_goOn 3 rfl) ?_
    obtain ⟨S6, hc5, h⟩ := bd_i h
    refine g_callVv hC hZ hk0 kclX12 ly4_0 m_X12_next q478 (Nat.le_of_ble_eq_true rfl) [] rfl (fun l => c_X12_next_p4_0 l hk0 hc5) rfl (Nat.le_of_ble_eq_true rfl) (rfl : 8 + 3 = 11) (xdt tt_X12_goOn 4 rfl) ?_
    cases h
    exact g_vret hC hE (xdt tt_X12_goOn 5 rfl)
def f_X12_isWord_p4_0 (S : xSt) (r0 : Nat) (a1 : Int) : Option (Int × xSt) :=
  bd2 (f_X12_fine_p4_0 S r0) fun v3 S2 =>
  if wr v3 = 0 then
    (some (0, S2))
  else
    (if ¬ wr (gI S2 r0 0 25) = wr 1 then
      (some (0, S2))
    else
      (if ¬ wr (gI S2 r0 0 26) = wr a1 then
        (some (0, S2))
      else
        (some (1, S2))))
set_option maxRecDepth 100000 in
set_option maxHeartbeats 4000000 in
theorem c_X12_isWord_p4_0 (l : Launch) {E : xE} {S S' : xSt} {r0 : Nat} {a1 : Int} (hk0 : xkd E r0 = 4) {v : Int} (h : f_X12_isWord_p4_0 S r0 a1 = some (v, S')) : Met l yX12_isWord (xws yX12_isWord cX12_isWord 2 (some .boolean)) (rmD 2) (YPc E [vr E r0 0, vi a1] S) (YQz E v S') 0 0 (xA E) := by
  unfold f_X12_isWord_p4_0 at h
  refine met_z (by decide +kernel) (Nat.le_of_ble_eq_true rfl) (fun K hC hZ hE => ?_)
  have hC : xOK K cX12_isWord RX12 2 (rmE 2 0) := hC
  show WG K E 0 [(0, vr E r0 0), (1, vi a1)] [] S
  refine g_aload_n hC rfl 0 rfl (rfl : 0 + 1 = 1) (xdt tt_X12_isWord 0 rfl) ?_
  obtain ⟨v3, S2, hc1, h⟩ := bd2_i h
  refine g_callVz hC hZ hk0 kclX12 ly4_0 m_X12_fine q500 (Nat.le_of_ble_eq_true rfl) [] rfl (fun l => c_X12_fine_p4_0 l hk0 hc1) rfl (Nat.le_of_ble_eq_true rfl) (rfl : 1 + 3 = 4) (xdt tt_X12_isWord 1 rfl) (fun hb4 => ?_)
  refine g_if_eq hC (show ((4 : Nat) : Int) + 23 = ((27 : Nat) : Int) by decide) (rfl : 4 + 3 = 7) (xdt tt_X12_isWord 2 rfl) (fun hc7 => ?_) (fun hc7 => ?_)
  · replace h := (if_pos hc7).symm.trans h
    refine g_iconst hC (rfl : 27 + 1 = 28) (xdt tt_X12_isWord 13 rfl) ?_
    cases h
    exact g_zret hC hE (Or.inl rfl) (xdt tt_X12_isWord 14 rfl)
  · replace h := (if_neg hc7).symm.trans h
    refine g_aload_n hC rfl 0 rfl (rfl : 7 + 1 = 8) (xdt tt_X12_isWord 3 rfl) ?_
    refine g_getI hC hk0 kclX12 ly4_0 25 (by decide) rfl q471 (rfl : 8 + 3 = 11) (xdt tt_X12_isWord 4 rfl) ?_
    refine g_iconst hC (rfl : 11 + 1 = 12) (xdt tt_X12_isWord 5 rfl) ?_
    refine g_icmp_ne hC (show ((12 : Nat) : Int) + 15 = ((27 : Nat) : Int) by decide) (rfl : 12 + 3 = 15) (xdt tt_X12_isWord 6 rfl) (fun hc6 => ?_) (fun hc6 => ?_)
    · replace h := (if_pos hc6).symm.trans h
      refine g_iconst hC (rfl : 27 + 1 = 28) (xdt tt_X12_isWord 13 rfl) ?_
      cases h
      exact g_zret hC hE (Or.inl rfl) (xdt tt_X12_isWord 14 rfl)
    · replace h := (if_neg hc6).symm.trans h
      refine g_aload_n hC rfl 0 rfl (rfl : 15 + 1 = 16) (xdt tt_X12_isWord 7 rfl) ?_
      refine g_getI hC hk0 kclX12 ly4_0 26 (by decide) rfl q485 (rfl : 16 + 3 = 19) (xdt tt_X12_isWord 8 rfl) ?_
      refine g_iload_n hC rfl 1 rfl (rfl : 19 + 1 = 20) (xdt tt_X12_isWord 9 rfl) ?_
      refine g_icmp_ne hC (show ((20 : Nat) : Int) + 7 = ((27 : Nat) : Int) by decide) (rfl : 20 + 3 = 23) (xdt tt_X12_isWord 10 rfl) (fun hc5 => ?_) (fun hc5 => ?_)
      · replace h := (if_pos hc5).symm.trans h
        refine g_iconst hC (rfl : 27 + 1 = 28) (xdt tt_X12_isWord 13 rfl) ?_
        cases h
        exact g_zret hC hE (Or.inl rfl) (xdt tt_X12_isWord 14 rfl)
      · replace h := (if_neg hc5).symm.trans h
        refine g_iconst hC (rfl : 23 + 1 = 24) (xdt tt_X12_isWord 11 rfl) ?_
        refine g_goto hC (show ((24 : Nat) : Int) + 4 = ((28 : Nat) : Int) by decide) (xdt tt_X12_isWord 12 rfl) ?_
        cases h
        exact g_zret hC hE (Or.inr rfl) (xdt tt_X12_isWord 14 rfl)
def f_X12_isKindHere_p4_0 (S : xSt) (r0 : Nat) : Option (Int × xSt) :=
  bd2 (f_X12_fine_p4_0 S r0) fun v3 S2 =>
  if wr v3 = 0 then
    (some (0, S2))
  else
    (if ¬ wr (gI S2 r0 0 25) = wr 1 then
      (some (0, S2))
    else
      (bd2 (f_X12_isIn S2 (wr (gI S2 r0 0 26)) 0 9) fun v7 S6 =>
      if wr v7 = 0 then
        (some (0, S6))
      else
        (some (1, S6))))
set_option maxRecDepth 100000 in
set_option maxHeartbeats 4000000 in
theorem c_X12_isKindHere_p4_0 (l : Launch) {E : xE} {S S' : xSt} {r0 : Nat} (hk0 : xkd E r0 = 4) {v : Int} (h : f_X12_isKindHere_p4_0 S r0 = some (v, S')) : Met l yX12_isKindHere (xws yX12_isKindHere cX12_isKindHere 1 (some .boolean)) (rmD 2) (YPc E [vr E r0 0] S) (YQz E v S') 0 0 (xA E) := by
  unfold f_X12_isKindHere_p4_0 at h
  refine met_z (by decide +kernel) (Nat.le_of_ble_eq_true rfl) (fun K hC hZ hE => ?_)
  have hC : xOK K cX12_isKindHere RX12 1 (rmE 2 0) := hC
  show WG K E 0 [(0, vr E r0 0)] [] S
  refine g_aload_n hC rfl 0 rfl (rfl : 0 + 1 = 1) (xdt tt_X12_isKindHere 0 rfl) ?_
  obtain ⟨v3, S2, hc1, h⟩ := bd2_i h
  refine g_callVz hC hZ hk0 kclX12 ly4_0 m_X12_fine q500 (Nat.le_of_ble_eq_true rfl) [] rfl (fun l => c_X12_fine_p4_0 l hk0 hc1) rfl (Nat.le_of_ble_eq_true rfl) (rfl : 1 + 3 = 4) (xdt tt_X12_isKindHere 1 rfl) (fun hb4 => ?_)
  refine g_if_eq hC (show ((4 : Nat) : Int) + 30 = ((34 : Nat) : Int) by decide) (rfl : 4 + 3 = 7) (xdt tt_X12_isKindHere 2 rfl) (fun hc11 => ?_) (fun hc11 => ?_)
  · replace h := (if_pos hc11).symm.trans h
    refine g_iconst hC (rfl : 34 + 1 = 35) (xdt tt_X12_isKindHere 16 rfl) ?_
    cases h
    exact g_zret hC hE (Or.inl rfl) (xdt tt_X12_isKindHere 17 rfl)
  · replace h := (if_neg hc11).symm.trans h
    refine g_aload_n hC rfl 0 rfl (rfl : 7 + 1 = 8) (xdt tt_X12_isKindHere 3 rfl) ?_
    refine g_getI hC hk0 kclX12 ly4_0 25 (by decide) rfl q471 (rfl : 8 + 3 = 11) (xdt tt_X12_isKindHere 4 rfl) ?_
    refine g_iconst hC (rfl : 11 + 1 = 12) (xdt tt_X12_isKindHere 5 rfl) ?_
    refine g_icmp_ne hC (show ((12 : Nat) : Int) + 22 = ((34 : Nat) : Int) by decide) (rfl : 12 + 3 = 15) (xdt tt_X12_isKindHere 6 rfl) (fun hc10 => ?_) (fun hc10 => ?_)
    · replace h := (if_pos hc10).symm.trans h
      refine g_iconst hC (rfl : 34 + 1 = 35) (xdt tt_X12_isKindHere 16 rfl) ?_
      cases h
      exact g_zret hC hE (Or.inl rfl) (xdt tt_X12_isKindHere 17 rfl)
    · replace h := (if_neg hc10).symm.trans h
      refine g_aload_n hC rfl 0 rfl (rfl : 15 + 1 = 16) (xdt tt_X12_isKindHere 7 rfl) ?_
      refine g_getI hC hk0 kclX12 ly4_0 26 (by decide) rfl q485 (rfl : 16 + 3 = 19) (xdt tt_X12_isKindHere 8 rfl) ?_
      refine g_i2l hC (rfl : 19 + 1 = 20) (xdt tt_X12_isKindHere 9 rfl) ?_
      refine g_lconst hC (z := 0) (by decide) (rfl : 20 + 1 = 21) (xdt tt_X12_isKindHere 10 rfl) ?_
      refine g_ldc2 hC (z := 9) q514 (rfl : 21 + 3 = 24) (xdt tt_X12_isKindHere 11 rfl) ?_
      obtain ⟨v7, S6, hc5, h⟩ := bd2_i h
      refine g_callSz hC hZ m_X12_isIn q269 (Nat.le_of_ble_eq_true rfl) [vl (wr (gI S2 r0 0 26)), vl 0, vl 9] rfl (fun l => c_X12_isIn l hc5) rfl (Nat.le_of_ble_eq_true rfl) (rfl : 24 + 3 = 27) (xdt tt_X12_isKindHere 12 rfl) (fun hb8 => ?_)
      refine g_if_eq hC (show ((27 : Nat) : Int) + 7 = ((34 : Nat) : Int) by decide) (rfl : 27 + 3 = 30) (xdt tt_X12_isKindHere 13 rfl) (fun hc9 => ?_) (fun hc9 => ?_)
      · replace h := (if_pos hc9).symm.trans h
        refine g_iconst hC (rfl : 34 + 1 = 35) (xdt tt_X12_isKindHere 16 rfl) ?_
        cases h
        exact g_zret hC hE (Or.inl rfl) (xdt tt_X12_isKindHere 17 rfl)
      · replace h := (if_neg hc9).symm.trans h
        refine g_iconst hC (rfl : 30 + 1 = 31) (xdt tt_X12_isKindHere 14 rfl) ?_
        refine g_goto hC (show ((31 : Nat) : Int) + 4 = ((35 : Nat) : Int) by decide) (xdt tt_X12_isKindHere 15 rfl) ?_
        cases h
        exact g_zret hC hE (Or.inr rfl) (xdt tt_X12_isKindHere 17 rfl)
def f_X12_isSign_p4_0 (S : xSt) (r0 : Nat) (a1 : Int) : Option (Int × xSt) :=
  bd2 (f_X12_fine_p4_0 S r0) fun v3 S2 =>
  if wr v3 = 0 then
    (some (0, S2))
  else
    (if ¬ wr (gI S2 r0 0 25) = wr 3 then
      (some (0, S2))
    else
      (if ¬ wr (gI S2 r0 0 28) = wr a1 then
        (some (0, S2))
      else
        (some (1, S2))))
set_option maxRecDepth 100000 in
set_option maxHeartbeats 4000000 in
theorem c_X12_isSign_p4_0 (l : Launch) {E : xE} {S S' : xSt} {r0 : Nat} {a1 : Int} (hk0 : xkd E r0 = 4) {v : Int} (h : f_X12_isSign_p4_0 S r0 a1 = some (v, S')) : Met l yX12_isSign (xws yX12_isSign cX12_isSign 2 (some .boolean)) (rmD 2) (YPc E [vr E r0 0, vi a1] S) (YQz E v S') 0 0 (xA E) := by
  unfold f_X12_isSign_p4_0 at h
  refine met_z (by decide +kernel) (Nat.le_of_ble_eq_true rfl) (fun K hC hZ hE => ?_)
  have hC : xOK K cX12_isSign RX12 2 (rmE 2 0) := hC
  show WG K E 0 [(0, vr E r0 0), (1, vi a1)] [] S
  refine g_aload_n hC rfl 0 rfl (rfl : 0 + 1 = 1) (xdt tt_X12_isSign 0 rfl) ?_
  obtain ⟨v3, S2, hc1, h⟩ := bd2_i h
  refine g_callVz hC hZ hk0 kclX12 ly4_0 m_X12_fine q500 (Nat.le_of_ble_eq_true rfl) [] rfl (fun l => c_X12_fine_p4_0 l hk0 hc1) rfl (Nat.le_of_ble_eq_true rfl) (rfl : 1 + 3 = 4) (xdt tt_X12_isSign 1 rfl) (fun hb4 => ?_)
  refine g_if_eq hC (show ((4 : Nat) : Int) + 23 = ((27 : Nat) : Int) by decide) (rfl : 4 + 3 = 7) (xdt tt_X12_isSign 2 rfl) (fun hc7 => ?_) (fun hc7 => ?_)
  · replace h := (if_pos hc7).symm.trans h
    refine g_iconst hC (rfl : 27 + 1 = 28) (xdt tt_X12_isSign 13 rfl) ?_
    cases h
    exact g_zret hC hE (Or.inl rfl) (xdt tt_X12_isSign 14 rfl)
  · replace h := (if_neg hc7).symm.trans h
    refine g_aload_n hC rfl 0 rfl (rfl : 7 + 1 = 8) (xdt tt_X12_isSign 3 rfl) ?_
    refine g_getI hC hk0 kclX12 ly4_0 25 (by decide) rfl q471 (rfl : 8 + 3 = 11) (xdt tt_X12_isSign 4 rfl) ?_
    refine g_iconst hC (rfl : 11 + 1 = 12) (xdt tt_X12_isSign 5 rfl) ?_
    refine g_icmp_ne hC (show ((12 : Nat) : Int) + 15 = ((27 : Nat) : Int) by decide) (rfl : 12 + 3 = 15) (xdt tt_X12_isSign 6 rfl) (fun hc6 => ?_) (fun hc6 => ?_)
    · replace h := (if_pos hc6).symm.trans h
      refine g_iconst hC (rfl : 27 + 1 = 28) (xdt tt_X12_isSign 13 rfl) ?_
      cases h
      exact g_zret hC hE (Or.inl rfl) (xdt tt_X12_isSign 14 rfl)
    · replace h := (if_neg hc6).symm.trans h
      refine g_aload_n hC rfl 0 rfl (rfl : 15 + 1 = 16) (xdt tt_X12_isSign 7 rfl) ?_
      refine g_getI hC hk0 kclX12 ly4_0 28 (by decide) rfl q489 (rfl : 16 + 3 = 19) (xdt tt_X12_isSign 8 rfl) ?_
      refine g_iload_n hC rfl 1 rfl (rfl : 19 + 1 = 20) (xdt tt_X12_isSign 9 rfl) ?_
      refine g_icmp_ne hC (show ((20 : Nat) : Int) + 7 = ((27 : Nat) : Int) by decide) (rfl : 20 + 3 = 23) (xdt tt_X12_isSign 10 rfl) (fun hc5 => ?_) (fun hc5 => ?_)
      · replace h := (if_pos hc5).symm.trans h
        refine g_iconst hC (rfl : 27 + 1 = 28) (xdt tt_X12_isSign 13 rfl) ?_
        cases h
        exact g_zret hC hE (Or.inl rfl) (xdt tt_X12_isSign 14 rfl)
      · replace h := (if_neg hc5).symm.trans h
        refine g_iconst hC (rfl : 23 + 1 = 24) (xdt tt_X12_isSign 11 rfl) ?_
        refine g_goto hC (show ((24 : Nat) : Int) + 4 = ((28 : Nat) : Int) by decide) (xdt tt_X12_isSign 12 rfl) ?_
        cases h
        exact g_zret hC hE (Or.inr rfl) (xdt tt_X12_isSign 14 rfl)
def f_X12_needsSign_p4_0 (S : xSt) (r0 : Nat) (a1 : Int) : Option (xSt) :=
  bd2 (f_X12_isSign_p4_0 S r0 a1) fun v3 S2 =>
  bd (f_X12_needs_p4_0 S2 r0 v3 1) fun S6 =>
  bd (f_X12_goOn_p4_0 S6 r0) fun S8 =>
  some S8
set_option maxRecDepth 100000 in
set_option maxHeartbeats 4000000 in
theorem c_X12_needsSign_p4_0 (l : Launch) {E : xE} {S S' : xSt} {r0 : Nat} {a1 : Int} (hk0 : xkd E r0 = 4) (h : f_X12_needsSign_p4_0 S r0 a1 = some S') : Met l yX12_needsSign (xws yX12_needsSign cX12_needsSign 2 none) (rmD 9) (YPc E [vr E r0 0, vi a1] S) (YQv E S') 0 0 (xA E) := by
  unfold f_X12_needsSign_p4_0 at h
  refine met_v (by decide +kernel) (Nat.le_of_ble_eq_true rfl) (fun K hC hZ hE => ?_)
  have hC : xOK K cX12_needsSign RX12 2 (rmE 9 0) := hC
  show WG K E 0 [(0, vr E r0 0), (1, vi a1)] [] S
  refine g_aload_n hC rfl 0 rfl (rfl : 0 + 1 = 1) (xdt tt_X12_needsSign 0 rfl) ?_
  refine g_aload_n hC rfl 0 rfl (rfl : 1 + 1 = 2) (xdt tt_X12_needsSign 1 rfl) ?_
  refine g_iload_n hC rfl 1 rfl (rfl : 2 + 1 = 3) (xdt tt_X12_needsSign 2 rfl) ?_
  obtain ⟨v3, S2, hc1, h⟩ := bd2_i h
  refine g_callVz hC hZ hk0 kclX12 ly4_0 m_X12_isSign q562 (Nat.le_of_ble_eq_true rfl) [vi a1] rfl (fun l => c_X12_isSign_p4_0 l hk0 hc1) rfl (Nat.le_of_ble_eq_true rfl) (rfl : 3 + 3 = 6) (xdt tt_X12_needsSign 3 rfl) (fun hb4 => ?_)
  refine g_iconst hC (rfl : 6 + 1 = 7) (xdt tt_X12_needsSign 4 rfl) ?_
  obtain ⟨S6, hc5, h⟩ := bd_i h
  refine g_callVv hC hZ hk0 kclX12 ly4_0 m_X12_needs q523 (Nat.le_of_ble_eq_true rfl) [vi v3, vi 1] rfl (fun l => c_X12_needs_p4_0 l hk0 hc5) rfl (Nat.le_of_ble_eq_true rfl) (rfl : 7 + 3 = 10) (xdt tt_X12_needsSign 5 rfl) ?_
  refine g_aload_n hC rfl 0 rfl (rfl : 10 + 1 = 11) (xdt tt_X12_needsSign 6 rfl) ?_
  obtain ⟨S8, hc7, h⟩ := bd_i h
  refine g_callVv hC hZ hk0 kclX12 ly4_0 m_X12_goOn q527 (Nat.le_of_ble_eq_true rfl) [] rfl (fun l => c_X12_goOn_p4_0 l hk0 hc7) rfl (Nat.le_of_ble_eq_true rfl) (rfl : 11 + 3 = 14) (xdt tt_X12_needsSign 7 rfl) ?_
  cases h
  exact g_vret hC hE (xdt tt_X12_needsSign 8 rfl)
def f_X12_number_p4_0_b14 (r0 : Nat) (S : xSt) (x1 : Int) (x2 : Int) (s0 : Int) : Option (Int × xSt) :=
  bd (f_X12_needs_p4_0 S r0 s0 1) fun S2 =>
  bd2 (f_X12_fine_p4_0 S2 r0) fun v5 S4 =>
  if wr v5 = 0 then
    (bd (f_X12_goOn_p4_0 S4 r0) fun S8 =>
    some ((gI S4 r0 0 27), S8))
  else
    (bd2 (f_X12_isIn S4 (wr (gI S4 r0 0 27)) (wr x1) (wr x2)) fun v11 S10 =>
    bd (f_X12_needs_p4_0 S10 r0 v11 2) fun S14 =>
    bd (f_X12_goOn_p4_0 S14 r0) fun S16 =>
    some ((gI S14 r0 0 27), S16))
def f_X12_number_p4_0 (S : xSt) (r0 : Nat) (a1 : Int) (a2 : Int) : Option (Int × xSt) :=
  if ¬ wr (gI S r0 0 25) = wr 2 then
    (f_X12_number_p4_0_b14 r0 S a1 a2 0)
  else
    (f_X12_number_p4_0_b14 r0 S a1 a2 1)
set_option maxRecDepth 100000 in
set_option maxHeartbeats 4000000 in
theorem k_X12_number_p4_0_b14 {K : xCtx} {E : xE} {b : Nat} (hC : xOK K cX12_number RX12 4 (rmE 9 b)) (hZ : xZ K) {v : Int} {S' : xSt} (hE : xEnd K E (some .int) (YQi E v S')) {r0 : Nat} (hk0 : xkd E r0 = 4) : ∀ (S : xSt) (x1 : Int) (x2 : Int) (s0 : Int), f_X12_number_p4_0_b14 r0 S x1 x2 s0 = some (v, S') → WG K E 14 [(0, vr E r0 0), (1, vi x1), (2, vi x2)] [vi s0, vr E r0 0] S := by
  intro S x1 x2 s0 h
  unfold f_X12_number_p4_0_b14 at h
  refine g_iconst hC (rfl : 14 + 1 = 15) (xdt tt_X12_number 8 rfl) ?_
  obtain ⟨S2, hc1, h⟩ := bd_i h
  refine g_callVv hC hZ hk0 kclX12 ly4_0 m_X12_needs q523 (Nat.le_of_ble_eq_true rfl) [vi s0, vi 1] rfl (fun l => c_X12_needs_p4_0 l hk0 hc1) rfl (Nat.le_of_ble_eq_true rfl) (rfl : 15 + 3 = 18) (xdt tt_X12_number 9 rfl) ?_
  refine g_aload_n hC rfl 0 rfl (rfl : 18 + 1 = 19) (xdt tt_X12_number 10 rfl) ?_
  obtain ⟨v5, S4, hc3, h⟩ := bd2_i h
  refine g_callVz hC hZ hk0 kclX12 ly4_0 m_X12_fine q500 (Nat.le_of_ble_eq_true rfl) [] rfl (fun l => c_X12_fine_p4_0 l hk0 hc3) rfl (Nat.le_of_ble_eq_true rfl) (rfl : 19 + 3 = 22) (xdt tt_X12_number 11 rfl) (fun hb6 => ?_)
  refine g_if_eq hC (show ((22 : Nat) : Int) + 20 = ((42 : Nat) : Int) by decide) (rfl : 22 + 3 = 25) (xdt tt_X12_number 12 rfl) (fun hc17 => ?_) (fun hc17 => ?_)
  · replace h := (if_pos hc17).symm.trans h
    refine g_aload_n hC rfl 0 rfl (rfl : 42 + 1 = 43) (xdt tt_X12_number 24 rfl) ?_
    refine g_getI hC hk0 kclX12 ly4_0 27 (by decide) rfl q488 (rfl : 43 + 3 = 46) (xdt tt_X12_number 25 rfl) ?_
    refine g_istore_n hC rfl (by decide) (lv' := [(3, vi (gI S4 r0 0 27)), (0, vr E r0 0), (1, vi x1), (2, vi x2)]) rfl (rfl : 46 + 1 = 47) (xdt tt_X12_number 26 rfl) ?_
    refine g_aload_n hC rfl 1 rfl (rfl : 47 + 1 = 48) (xdt tt_X12_number 27 rfl) ?_
    obtain ⟨S8, hc7, h⟩ := bd_i h
    refine g_callVv hC hZ hk0 kclX12 ly4_0 m_X12_goOn q527 (Nat.le_of_ble_eq_true rfl) [] rfl (fun l => c_X12_goOn_p4_0 l hk0 hc7) rfl (Nat.le_of_ble_eq_true rfl) (rfl : 48 + 3 = 51) (xdt tt_X12_number 28 rfl) ?_
    refine g_iload_n hC rfl 0 rfl (rfl : 51 + 1 = 52) (xdt tt_X12_number 29 rfl) ?_
    cases h
    exact g_iret hC hE (xdt tt_X12_number 30 rfl)
  · replace h := (if_neg hc17).symm.trans h
    refine g_aload_n hC rfl 0 rfl (rfl : 25 + 1 = 26) (xdt tt_X12_number 13 rfl) ?_
    refine g_aload_n hC rfl 0 rfl (rfl : 26 + 1 = 27) (xdt tt_X12_number 14 rfl) ?_
    refine g_getI hC hk0 kclX12 ly4_0 27 (by decide) rfl q488 (rfl : 27 + 3 = 30) (xdt tt_X12_number 15 rfl) ?_
    refine g_i2l hC (rfl : 30 + 1 = 31) (xdt tt_X12_number 16 rfl) ?_
    refine g_iload_n hC rfl 1 rfl (rfl : 31 + 1 = 32) (xdt tt_X12_number 17 rfl) ?_
    refine g_i2l hC (rfl : 32 + 1 = 33) (xdt tt_X12_number 18 rfl) ?_
    refine g_iload_n hC rfl 2 rfl (rfl : 33 + 1 = 34) (xdt tt_X12_number 19 rfl) ?_
    refine g_i2l hC (rfl : 34 + 1 = 35) (xdt tt_X12_number 20 rfl) ?_
    obtain ⟨v11, S10, hc9, h⟩ := bd2_i h
    refine g_callSz hC hZ m_X12_isIn q269 (Nat.le_of_ble_eq_true rfl) [vl (wr (gI S4 r0 0 27)), vl (wr x1), vl (wr x2)] rfl (fun l => c_X12_isIn l hc9) rfl (Nat.le_of_ble_eq_true rfl) (rfl : 35 + 3 = 38) (xdt tt_X12_number 21 rfl) (fun hb12 => ?_)
    refine g_iconst hC (rfl : 38 + 1 = 39) (xdt tt_X12_number 22 rfl) ?_
    obtain ⟨S14, hc13, h⟩ := bd_i h
    refine g_callVv hC hZ hk0 kclX12 ly4_0 m_X12_needs q523 (Nat.le_of_ble_eq_true rfl) [vi v11, vi 2] rfl (fun l => c_X12_needs_p4_0 l hk0 hc13) rfl (Nat.le_of_ble_eq_true rfl) (rfl : 39 + 3 = 42) (xdt tt_X12_number 23 rfl) ?_
    refine g_aload_n hC rfl 0 rfl (rfl : 42 + 1 = 43) (xdt tt_X12_number 24 rfl) ?_
    refine g_getI hC hk0 kclX12 ly4_0 27 (by decide) rfl q488 (rfl : 43 + 3 = 46) (xdt tt_X12_number 25 rfl) ?_
    refine g_istore_n hC rfl (by decide) (lv' := [(3, vi (gI S14 r0 0 27)), (0, vr E r0 0), (1, vi x1), (2, vi x2)]) rfl (rfl : 46 + 1 = 47) (xdt tt_X12_number 26 rfl) ?_
    refine g_aload_n hC rfl 1 rfl (rfl : 47 + 1 = 48) (xdt tt_X12_number 27 rfl) ?_
    obtain ⟨S16, hc15, h⟩ := bd_i h
    refine g_callVv hC hZ hk0 kclX12 ly4_0 m_X12_goOn q527 (Nat.le_of_ble_eq_true rfl) [] rfl (fun l => c_X12_goOn_p4_0 l hk0 hc15) rfl (Nat.le_of_ble_eq_true rfl) (rfl : 48 + 3 = 51) (xdt tt_X12_number 28 rfl) ?_
    refine g_iload_n hC rfl 0 rfl (rfl : 51 + 1 = 52) (xdt tt_X12_number 29 rfl) ?_
    cases h
    exact g_iret hC hE (xdt tt_X12_number 30 rfl)
set_option maxRecDepth 100000 in
set_option maxHeartbeats 4000000 in
theorem c_X12_number_p4_0 (l : Launch) {E : xE} {S S' : xSt} {r0 : Nat} {a1 : Int} {a2 : Int} (hk0 : xkd E r0 = 4) {v : Int} (h : f_X12_number_p4_0 S r0 a1 a2 = some (v, S')) : Met l yX12_number (xws yX12_number cX12_number 4 (some .int)) (rmD 9) (YPc E [vr E r0 0, vi a1, vi a2] S) (YQi E v S') 0 0 (xA E) := by
  unfold f_X12_number_p4_0 at h
  refine met_i (by decide +kernel) (Nat.le_of_ble_eq_true rfl) (fun K hC hZ hE => ?_)
  have hC : xOK K cX12_number RX12 4 (rmE 9 0) := hC
  show WG K E 0 [(0, vr E r0 0), (1, vi a1), (2, vi a2)] [] S
  refine g_aload_n hC rfl 0 rfl (rfl : 0 + 1 = 1) (xdt tt_X12_number 0 rfl) ?_
  refine g_aload_n hC rfl 0 rfl (rfl : 1 + 1 = 2) (xdt tt_X12_number 1 rfl) ?_
  refine g_getI hC hk0 kclX12 ly4_0 25 (by decide) rfl q471 (rfl : 2 + 3 = 5) (xdt tt_X12_number 2 rfl) ?_
  refine g_iconst hC (rfl : 5 + 1 = 6) (xdt tt_X12_number 3 rfl) ?_
  refine g_icmp_ne hC (show ((6 : Nat) : Int) + 7 = ((13 : Nat) : Int) by decide) (rfl : 6 + 3 = 9) (xdt tt_X12_number 4 rfl) (fun hc18 => ?_) (fun hc18 => ?_)
  · replace h := (if_pos hc18).symm.trans h
    refine g_iconst hC (rfl : 13 + 1 = 14) (xdt tt_X12_number 7 rfl) ?_
    refine g_sub [0, 1, 2] (lv' := [(0, vr E r0 0), (1, vi a1), (2, vi a2)]) rfl ?_
    exact k_X12_number_p4_0_b14 hC hZ hE hk0 _ _ _ _ h
  · replace h := (if_neg hc18).symm.trans h
    refine g_iconst hC (rfl : 9 + 1 = 10) (xdt tt_X12_number 5 rfl) ?_
    refine g_goto hC (show ((10 : Nat) : Int) + 4 = ((14 : Nat) : Int) by decide) (xdt tt_X12_number 6 rfl) ?_
    refine g_sub [0, 1, 2] (lv' := [(0, vr E r0 0), (1, vi a1), (2, vi a2)]) rfl ?_
    exact k_X12_number_p4_0_b14 hC hZ hE hk0 _ _ _ _ h
def f_X12_width_p4_0_b58 (r0 : Nat) (S : xSt) (s0 : Int) : Option (Int × xSt) :=
  bd (f_X12_needs_p4_0 S r0 s0 2) fun S10 =>
  bd (f_X12_goOn_p4_0 S10 r0) fun S12 =>
  some ((gI S10 r0 0 27), S12)
def f_X12_width_p4_0_b53 (r0 : Nat) (S : xSt) : Option (Int × xSt) :=
  f_X12_width_p4_0_b58 r0 S 1
def f_X12_width_p4_0_b14 (r0 : Nat) (S : xSt) (s0 : Int) : Option (Int × xSt) :=
  bd (f_X12_needs_p4_0 S r0 s0 1) fun S2 =>
  bd2 (f_X12_fine_p4_0 S2 r0) fun v5 S4 =>
  if wr v5 = 0 then
    (bd (f_X12_goOn_p4_0 S4 r0) fun S8 =>
    some ((gI S4 r0 0 27), S8))
  else
    (if wr (gI S4 r0 0 27) = wr 8 then
      (f_X12_width_p4_0_b53 r0 S4)
    else
      (if wr (gI S4 r0 0 27) = wr 16 then
        (f_X12_width_p4_0_b53 r0 S4)
      else
        (if ¬ wr (gI S4 r0 0 27) = wr 32 then
          (f_X12_width_p4_0_b58 r0 S4 0)
        else
          (f_X12_width_p4_0_b53 r0 S4))))
def f_X12_width_p4_0 (S : xSt) (r0 : Nat) : Option (Int × xSt) :=
  if ¬ wr (gI S r0 0 25) = wr 2 then
    (f_X12_width_p4_0_b14 r0 S 0)
  else
    (f_X12_width_p4_0_b14 r0 S 1)
set_option maxRecDepth 100000 in
set_option maxHeartbeats 4000000 in
theorem k_X12_width_p4_0_b58 {K : xCtx} {E : xE} {b : Nat} (hC : xOK K cX12_width RX12 2 (rmE 9 b)) (hZ : xZ K) {v : Int} {S' : xSt} (hE : xEnd K E (some .int) (YQi E v S')) {r0 : Nat} (hk0 : xkd E r0 = 4) : ∀ (S : xSt) (s0 : Int), f_X12_width_p4_0_b58 r0 S s0 = some (v, S') → WG K E 58 [(0, vr E r0 0)] [vi s0, vr E r0 0] S := by
  intro S s0 h
  unfold f_X12_width_p4_0_b58 at h
  refine g_iconst hC (rfl : 58 + 1 = 59) (xdt tt_X12_width 29 rfl) ?_
  obtain ⟨S10, hc9, h⟩ := bd_i h
  refine g_callVv hC hZ hk0 kclX12 ly4_0 m_X12_needs q523 (Nat.le_of_ble_eq_true rfl) [vi s0, vi 2] rfl (fun l => c_X12_needs_p4_0 l hk0 hc9) rfl (Nat.le_of_ble_eq_true rfl) (rfl : 59 + 3 = 62) (xdt tt_X12_width 30 rfl) ?_
  refine g_aload_n hC rfl 0 rfl (rfl : 62 + 1 = 63) (xdt tt_X12_width 31 rfl) ?_
  refine g_getI hC hk0 kclX12 ly4_0 27 (by decide) rfl q488 (rfl : 63 + 3 = 66) (xdt tt_X12_width 32 rfl) ?_
  refine g_istore_n hC rfl (by decide) (lv' := [(1, vi (gI S10 r0 0 27)), (0, vr E r0 0)]) rfl (rfl : 66 + 1 = 67) (xdt tt_X12_width 33 rfl) ?_
  refine g_aload_n hC rfl 1 rfl (rfl : 67 + 1 = 68) (xdt tt_X12_width 34 rfl) ?_
  obtain ⟨S12, hc11, h⟩ := bd_i h
  refine g_callVv hC hZ hk0 kclX12 ly4_0 m_X12_goOn q527 (Nat.le_of_ble_eq_true rfl) [] rfl (fun l => c_X12_goOn_p4_0 l hk0 hc11) rfl (Nat.le_of_ble_eq_true rfl) (rfl : 68 + 3 = 71) (xdt tt_X12_width 35 rfl) ?_
  refine g_iload_n hC rfl 0 rfl (rfl : 71 + 1 = 72) (xdt tt_X12_width 36 rfl) ?_
  cases h
  exact g_iret hC hE (xdt tt_X12_width 37 rfl)
set_option maxRecDepth 100000 in
set_option maxHeartbeats 4000000 in
theorem k_X12_width_p4_0_b53 {K : xCtx} {E : xE} {b : Nat} (hC : xOK K cX12_width RX12 2 (rmE 9 b)) (hZ : xZ K) {v : Int} {S' : xSt} (hE : xEnd K E (some .int) (YQi E v S')) {r0 : Nat} (hk0 : xkd E r0 = 4) : ∀ (S : xSt) , f_X12_width_p4_0_b53 r0 S = some (v, S') → WG K E 53 [(0, vr E r0 0)] [vr E r0 0] S := by
  intro S h
  unfold f_X12_width_p4_0_b53 at h
  refine g_iconst hC (rfl : 53 + 1 = 54) (xdt tt_X12_width 26 rfl) ?_
  refine g_goto hC (show ((54 : Nat) : Int) + 4 = ((58 : Nat) : Int) by decide) (xdt tt_X12_width 27 rfl) ?_
  refine g_sub [0] (lv' := [(0, vr E r0 0)]) rfl ?_
  exact k_X12_width_p4_0_b58 hC hZ hE hk0 _ _ h
set_option maxRecDepth 100000 in
set_option maxHeartbeats 4000000 in
theorem k_X12_width_p4_0_b14 {K : xCtx} {E : xE} {b : Nat} (hC : xOK K cX12_width RX12 2 (rmE 9 b)) (hZ : xZ K) {v : Int} {S' : xSt} (hE : xEnd K E (some .int) (YQi E v S')) {r0 : Nat} (hk0 : xkd E r0 = 4) : ∀ (S : xSt) (s0 : Int), f_X12_width_p4_0_b14 r0 S s0 = some (v, S') → WG K E 14 [(0, vr E r0 0)] [vi s0, vr E r0 0] S := by
  intro S s0 h
  unfold f_X12_width_p4_0_b14 at h
  refine g_iconst hC (rfl : 14 + 1 = 15) (xdt tt_X12_width 8 rfl) ?_
  obtain ⟨S2, hc1, h⟩ := bd_i h
  refine g_callVv hC hZ hk0 kclX12 ly4_0 m_X12_needs q523 (Nat.le_of_ble_eq_true rfl) [vi s0, vi 1] rfl (fun l => c_X12_needs_p4_0 l hk0 hc1) rfl (Nat.le_of_ble_eq_true rfl) (rfl : 15 + 3 = 18) (xdt tt_X12_width 9 rfl) ?_
  refine g_aload_n hC rfl 0 rfl (rfl : 18 + 1 = 19) (xdt tt_X12_width 10 rfl) ?_
  obtain ⟨v5, S4, hc3, h⟩ := bd2_i h
  refine g_callVz hC hZ hk0 kclX12 ly4_0 m_X12_fine q500 (Nat.le_of_ble_eq_true rfl) [] rfl (fun l => c_X12_fine_p4_0 l hk0 hc3) rfl (Nat.le_of_ble_eq_true rfl) (rfl : 19 + 3 = 22) (xdt tt_X12_width 11 rfl) (fun hb6 => ?_)
  refine g_if_eq hC (show ((22 : Nat) : Int) + 40 = ((62 : Nat) : Int) by decide) (rfl : 22 + 3 = 25) (xdt tt_X12_width 12 rfl) (fun hc16 => ?_) (fun hc16 => ?_)
  · replace h := (if_pos hc16).symm.trans h
    refine g_aload_n hC rfl 0 rfl (rfl : 62 + 1 = 63) (xdt tt_X12_width 31 rfl) ?_
    refine g_getI hC hk0 kclX12 ly4_0 27 (by decide) rfl q488 (rfl : 63 + 3 = 66) (xdt tt_X12_width 32 rfl) ?_
    refine g_istore_n hC rfl (by decide) (lv' := [(1, vi (gI S4 r0 0 27)), (0, vr E r0 0)]) rfl (rfl : 66 + 1 = 67) (xdt tt_X12_width 33 rfl) ?_
    refine g_aload_n hC rfl 1 rfl (rfl : 67 + 1 = 68) (xdt tt_X12_width 34 rfl) ?_
    obtain ⟨S8, hc7, h⟩ := bd_i h
    refine g_callVv hC hZ hk0 kclX12 ly4_0 m_X12_goOn q527 (Nat.le_of_ble_eq_true rfl) [] rfl (fun l => c_X12_goOn_p4_0 l hk0 hc7) rfl (Nat.le_of_ble_eq_true rfl) (rfl : 68 + 3 = 71) (xdt tt_X12_width 35 rfl) ?_
    refine g_iload_n hC rfl 0 rfl (rfl : 71 + 1 = 72) (xdt tt_X12_width 36 rfl) ?_
    cases h
    exact g_iret hC hE (xdt tt_X12_width 37 rfl)
  · replace h := (if_neg hc16).symm.trans h
    refine g_aload_n hC rfl 0 rfl (rfl : 25 + 1 = 26) (xdt tt_X12_width 13 rfl) ?_
    refine g_aload_n hC rfl 0 rfl (rfl : 26 + 1 = 27) (xdt tt_X12_width 14 rfl) ?_
    refine g_getI hC hk0 kclX12 ly4_0 27 (by decide) rfl q488 (rfl : 27 + 3 = 30) (xdt tt_X12_width 15 rfl) ?_
    refine g_bipush hC (by decide) (rfl : 30 + 2 = 32) (xdt tt_X12_width 16 rfl) ?_
    refine g_icmp_eq hC (show ((32 : Nat) : Int) + 21 = ((53 : Nat) : Int) by decide) (rfl : 32 + 3 = 35) (xdt tt_X12_width 17 rfl) (fun hc15 => ?_) (fun hc15 => ?_)
    · replace h := (if_pos hc15).symm.trans h
      refine g_sub [0] (lv' := [(0, vr E r0 0)]) rfl ?_
      exact k_X12_width_p4_0_b53 hC hZ hE hk0 _ h
    · replace h := (if_neg hc15).symm.trans h
      refine g_aload_n hC rfl 0 rfl (rfl : 35 + 1 = 36) (xdt tt_X12_width 18 rfl) ?_
      refine g_getI hC hk0 kclX12 ly4_0 27 (by decide) rfl q488 (rfl : 36 + 3 = 39) (xdt tt_X12_width 19 rfl) ?_
      refine g_bipush hC (by decide) (rfl : 39 + 2 = 41) (xdt tt_X12_width 20 rfl) ?_
      refine g_icmp_eq hC (show ((41 : Nat) : Int) + 12 = ((53 : Nat) : Int) by decide) (rfl : 41 + 3 = 44) (xdt tt_X12_width 21 rfl) (fun hc14 => ?_) (fun hc14 => ?_)
      · replace h := (if_pos hc14).symm.trans h
        refine g_sub [0] (lv' := [(0, vr E r0 0)]) rfl ?_
        exact k_X12_width_p4_0_b53 hC hZ hE hk0 _ h
      · replace h := (if_neg hc14).symm.trans h
        refine g_aload_n hC rfl 0 rfl (rfl : 44 + 1 = 45) (xdt tt_X12_width 22 rfl) ?_
        refine g_getI hC hk0 kclX12 ly4_0 27 (by decide) rfl q488 (rfl : 45 + 3 = 48) (xdt tt_X12_width 23 rfl) ?_
        refine g_bipush hC (by decide) (rfl : 48 + 2 = 50) (xdt tt_X12_width 24 rfl) ?_
        refine g_icmp_ne hC (show ((50 : Nat) : Int) + 7 = ((57 : Nat) : Int) by decide) (rfl : 50 + 3 = 53) (xdt tt_X12_width 25 rfl) (fun hc13 => ?_) (fun hc13 => ?_)
        · replace h := (if_pos hc13).symm.trans h
          refine g_iconst hC (rfl : 57 + 1 = 58) (xdt tt_X12_width 28 rfl) ?_
          refine g_sub [0] (lv' := [(0, vr E r0 0)]) rfl ?_
          exact k_X12_width_p4_0_b58 hC hZ hE hk0 _ _ h
        · replace h := (if_neg hc13).symm.trans h
          refine g_sub [0] (lv' := [(0, vr E r0 0)]) rfl ?_
          exact k_X12_width_p4_0_b53 hC hZ hE hk0 _ h
set_option maxRecDepth 100000 in
set_option maxHeartbeats 4000000 in
theorem c_X12_width_p4_0 (l : Launch) {E : xE} {S S' : xSt} {r0 : Nat} (hk0 : xkd E r0 = 4) {v : Int} (h : f_X12_width_p4_0 S r0 = some (v, S')) : Met l yX12_width (xws yX12_width cX12_width 2 (some .int)) (rmD 9) (YPc E [vr E r0 0] S) (YQi E v S') 0 0 (xA E) := by
  unfold f_X12_width_p4_0 at h
  refine met_i (by decide +kernel) (Nat.le_of_ble_eq_true rfl) (fun K hC hZ hE => ?_)
  have hC : xOK K cX12_width RX12 2 (rmE 9 0) := hC
  show WG K E 0 [(0, vr E r0 0)] [] S
  refine g_aload_n hC rfl 0 rfl (rfl : 0 + 1 = 1) (xdt tt_X12_width 0 rfl) ?_
  refine g_aload_n hC rfl 0 rfl (rfl : 1 + 1 = 2) (xdt tt_X12_width 1 rfl) ?_
  refine g_getI hC hk0 kclX12 ly4_0 25 (by decide) rfl q471 (rfl : 2 + 3 = 5) (xdt tt_X12_width 2 rfl) ?_
  refine g_iconst hC (rfl : 5 + 1 = 6) (xdt tt_X12_width 3 rfl) ?_
  refine g_icmp_ne hC (show ((6 : Nat) : Int) + 7 = ((13 : Nat) : Int) by decide) (rfl : 6 + 3 = 9) (xdt tt_X12_width 4 rfl) (fun hc17 => ?_) (fun hc17 => ?_)
  · replace h := (if_pos hc17).symm.trans h
    refine g_iconst hC (rfl : 13 + 1 = 14) (xdt tt_X12_width 7 rfl) ?_
    refine g_sub [0] (lv' := [(0, vr E r0 0)]) rfl ?_
    exact k_X12_width_p4_0_b14 hC hZ hE hk0 _ _ h
  · replace h := (if_neg hc17).symm.trans h
    refine g_iconst hC (rfl : 9 + 1 = 10) (xdt tt_X12_width 5 rfl) ?_
    refine g_goto hC (show ((10 : Nat) : Int) + 4 = ((14 : Nat) : Int) by decide) (xdt tt_X12_width 6 rfl) ?_
    refine g_sub [0] (lv' := [(0, vr E r0 0)]) rfl ?_
    exact k_X12_width_p4_0_b14 hC hZ hE hk0 _ _ h
def f_X12_readsSetting_p4_0_b17 (r0 : Nat) (S : xSt) (x1 : Int) (s0 : Int) : Option (xSt) :=
  bd (f_X12_needs_p4_0 S r0 s0 3) fun S2 =>
  lt1 (wI S2 r0 0 32 (iO (gI S2 r0 0 32) (iSl 1 x1))) fun S3 =>
  bd (f_X12_goOn_p4_0 S3 r0) fun S5 =>
  if wr (x1 - 10) < 0 ∨ 4 < wr (x1 - 10) then
    (bd2 (f_X12_number_p4_0 S5 r0 0 30) fun v9 S8 =>
    lt1 (wI S8 r0 7 2 v9) fun S10 =>
    some S10)
  else
  if wr (x1 - 10) = 0 then
    (bd2 (f_X12_number_p4_0 S5 r0 1 6) fun v13 S12 =>
    lt1 (wI S12 r0 7 0 v13) fun S14 =>
    some S14)
  else
  if wr (x1 - 10) = 1 then
    (bd2 (f_X12_width_p4_0 S5 r0) fun v18 S17 =>
    lt1 (wI S17 r0 0 33 v18) fun S19 =>
    some S19)
  else
  if wr (x1 - 10) = 2 then
    (bd2 (f_X12_number_p4_0 S5 r0 2 20) fun v23 S22 =>
    lt1 (wI S22 r0 0 34 v23) fun S24 =>
    some S24)
  else
  if wr (x1 - 10) = 3 then
    (bd2 (f_X12_number_p4_0 S5 r0 4 40) fun v28 S27 =>
    lt1 (wI S27 r0 0 35 v28) fun S29 =>
    some S29)
  else
  if wr (x1 - 10) = 4 then
    (bd2 (f_X12_number_p4_0 S5 r0 1 8) fun v33 S32 =>
    lt1 (wI S32 r0 7 1 v33) fun S34 =>
    some S34)
  else
  none
def f_X12_readsSetting_p4_0 (S : xSt) (r0 : Nat) (a1 : Int) : Option (xSt) :=
  if ¬ wr (iA (iSr (gI S r0 0 32) a1) 1) = 0 then
    (f_X12_readsSetting_p4_0_b17 r0 S a1 0)
  else
    (f_X12_readsSetting_p4_0_b17 r0 S a1 1)
set_option maxRecDepth 100000 in
set_option maxHeartbeats 4000000 in
theorem k_X12_readsSetting_p4_0_b17 {K : xCtx} {E : xE} {b : Nat} (hC : xOK K cX12_readsSetting RX12 2 (rmE 10 b)) (hZ : xZ K) {S' : xSt} (hE : xEnd K E none (YQv E S')) {r0 : Nat} (hk0 : xkd E r0 = 4) : ∀ (S : xSt) (x1 : Int) (s0 : Int), f_X12_readsSetting_p4_0_b17 r0 S x1 s0 = some S' → WG K E 17 [(0, vr E r0 0), (1, vi x1)] [vi s0, vr E r0 0] S := by
  intro S x1 s0 h
  unfold f_X12_readsSetting_p4_0_b17 at h
  refine g_iconst hC (rfl : 17 + 1 = 18) (xdt tt_X12_readsSetting 11 rfl) ?_
  obtain ⟨S2, hc1, h⟩ := bd_i h
  refine g_callVv hC hZ hk0 kclX12 ly4_0 m_X12_needs q523 (Nat.le_of_ble_eq_true rfl) [vi s0, vi 3] rfl (fun l => c_X12_needs_p4_0 l hk0 hc1) rfl (Nat.le_of_ble_eq_true rfl) (rfl : 18 + 3 = 21) (xdt tt_X12_readsSetting 12 rfl) ?_
  refine g_aload_n hC rfl 0 rfl (rfl : 21 + 1 = 22) (xdt tt_X12_readsSetting 13 rfl) ?_
  refine g_aload_n hC rfl 0 rfl (rfl : 22 + 1 = 23) (xdt tt_X12_readsSetting 14 rfl) ?_
  refine g_getI hC hk0 kclX12 ly4_0 32 (by decide) rfl q220 (rfl : 23 + 3 = 26) (xdt tt_X12_readsSetting 15 rfl) ?_
  refine g_iconst hC (rfl : 26 + 1 = 27) (xdt tt_X12_readsSetting 16 rfl) ?_
  refine g_iload_n hC rfl 1 rfl (rfl : 27 + 1 = 28) (xdt tt_X12_readsSetting 17 rfl) ?_
  refine g_ishl hC (rfl : 28 + 1 = 29) (xdt tt_X12_readsSetting 18 rfl) ?_
  refine g_ior hC (rfl : 29 + 1 = 30) (xdt tt_X12_readsSetting 19 rfl) ?_
  obtain ⟨S3, hS3, h⟩ := lt1_i h
  refine g_putI hC hk0 kclX12 ly4_0 32 (by decide) rfl rfl rfl q220 hS3 (rfl : 30 + 3 = 33) (xdt tt_X12_readsSetting 20 rfl) ?_
  refine g_aload_n hC rfl 0 rfl (rfl : 33 + 1 = 34) (xdt tt_X12_readsSetting 21 rfl) ?_
  obtain ⟨S5, hc4, h⟩ := bd_i h
  refine g_callVv hC hZ hk0 kclX12 ly4_0 m_X12_goOn q527 (Nat.le_of_ble_eq_true rfl) [] rfl (fun l => c_X12_goOn_p4_0 l hk0 hc4) rfl (Nat.le_of_ble_eq_true rfl) (rfl : 34 + 3 = 37) (xdt tt_X12_readsSetting 22 rfl) ?_
  refine g_iload_n hC rfl 1 rfl (rfl : 37 + 1 = 38) (xdt tt_X12_readsSetting 23 rfl) ?_
  refine g_bipush hC (by decide) (rfl : 38 + 2 = 40) (xdt tt_X12_readsSetting 24 rfl) ?_
  refine g_isub hC (rfl : 40 + 1 = 41) (xdt tt_X12_readsSetting 25 rfl) ?_
  by_cases hs6 : wr (x1 - 10) < 0 ∨ 4 < wr (x1 - 10)
  · replace h := (if_pos hs6).symm.trans h
    refine g_tabOut hC (xdt tt_X12_readsSetting 26 rfl) hs6 (show ((41 : Nat) : Int) + 106 = ((147 : Nat) : Int) by decide) ?_
    refine g_aload_n hC rfl 0 rfl (rfl : 147 + 1 = 148) (xdt tt_X12_readsSetting 64 rfl) ?_
    refine g_getP hC hk0 kclX12 ly4_0 11 (by decide) (rfl : r0 + 0 = r0) rfl q202 (rfl : 148 + 3 = 151) (xdt tt_X12_readsSetting 65 rfl) ?_
    refine g_iconst hC (rfl : 151 + 1 = 152) (xdt tt_X12_readsSetting 66 rfl) ?_
    refine g_aload_n hC rfl 0 rfl (rfl : 152 + 1 = 153) (xdt tt_X12_readsSetting 67 rfl) ?_
    refine g_iconst hC (rfl : 153 + 1 = 154) (xdt tt_X12_readsSetting 68 rfl) ?_
    refine g_bipush hC (by decide) (rfl : 154 + 2 = 156) (xdt tt_X12_readsSetting 69 rfl) ?_
    obtain ⟨v9, S8, hc7, h⟩ := bd2_i h
    refine g_callVi hC hZ hk0 kclX12 ly4_0 m_X12_number q535 (Nat.le_of_ble_eq_true rfl) [vi 0, vi 30] rfl (fun l => c_X12_number_p4_0 l hk0 hc7) rfl (Nat.le_of_ble_eq_true rfl) (rfl : 156 + 3 = 159) (xdt tt_X12_readsSetting 70 rfl) ?_
    obtain ⟨S10, hS10, h⟩ := lt1_i h
    refine g_iast hC hk0 ly4_7 (by decide) (by decide) hS10 (rfl : 159 + 1 = 160) (xdt tt_X12_readsSetting 71 rfl) ?_
    cases h
    exact g_vret hC hE (xdt tt_X12_readsSetting 72 rfl)
  · replace h := (if_neg hs6).symm.trans h
    by_cases hv15 : wr (x1 - 10) = 0
    · replace h := (if_pos hv15).symm.trans h
      refine g_tabIn hC (xdt tt_X12_readsSetting 26 rfl) (fun z => hs6 (Or.inl z)) (fun z => hs6 (Or.inr z)) (off := 35) (by rw [hv15]; rfl) (show ((41 : Nat) : Int) + 35 = ((76 : Nat) : Int) by decide) ?_
      refine g_aload_n hC rfl 0 rfl (rfl : 76 + 1 = 77) (xdt tt_X12_readsSetting 27 rfl) ?_
      refine g_getP hC hk0 kclX12 ly4_0 11 (by decide) (rfl : r0 + 0 = r0) rfl q202 (rfl : 77 + 3 = 80) (xdt tt_X12_readsSetting 28 rfl) ?_
      refine g_iconst hC (rfl : 80 + 1 = 81) (xdt tt_X12_readsSetting 29 rfl) ?_
      refine g_aload_n hC rfl 0 rfl (rfl : 81 + 1 = 82) (xdt tt_X12_readsSetting 30 rfl) ?_
      refine g_iconst hC (rfl : 82 + 1 = 83) (xdt tt_X12_readsSetting 31 rfl) ?_
      refine g_bipush hC (by decide) (rfl : 83 + 2 = 85) (xdt tt_X12_readsSetting 32 rfl) ?_
      obtain ⟨v13, S12, hc11, h⟩ := bd2_i h
      refine g_callVi hC hZ hk0 kclX12 ly4_0 m_X12_number q535 (Nat.le_of_ble_eq_true rfl) [vi 1, vi 6] rfl (fun l => c_X12_number_p4_0 l hk0 hc11) rfl (Nat.le_of_ble_eq_true rfl) (rfl : 85 + 3 = 88) (xdt tt_X12_readsSetting 33 rfl) ?_
      obtain ⟨S14, hS14, h⟩ := lt1_i h
      refine g_iast hC hk0 ly4_7 (by decide) (by decide) hS14 (rfl : 88 + 1 = 89) (xdt tt_X12_readsSetting 34 rfl) ?_
      refine g_goto hC (show ((89 : Nat) : Int) + 71 = ((160 : Nat) : Int) by decide) (xdt tt_X12_readsSetting 35 rfl) ?_
      cases h
      exact g_vret hC hE (xdt tt_X12_readsSetting 72 rfl)
    · replace h := (if_neg hv15).symm.trans h
      by_cases hv20 : wr (x1 - 10) = 1
      · replace h := (if_pos hv20).symm.trans h
        refine g_tabIn hC (xdt tt_X12_readsSetting 26 rfl) (fun z => hs6 (Or.inl z)) (fun z => hs6 (Or.inr z)) (off := 51) (by rw [hv20]; rfl) (show ((41 : Nat) : Int) + 51 = ((92 : Nat) : Int) by decide) ?_
        refine g_aload_n hC rfl 0 rfl (rfl : 92 + 1 = 93) (xdt tt_X12_readsSetting 36 rfl) ?_
        refine g_aload_n hC rfl 0 rfl (rfl : 93 + 1 = 94) (xdt tt_X12_readsSetting 37 rfl) ?_
        obtain ⟨v18, S17, hc16, h⟩ := bd2_i h
        refine g_callVi hC hZ hk0 kclX12 ly4_0 m_X12_width q554 (Nat.le_of_ble_eq_true rfl) [] rfl (fun l => c_X12_width_p4_0 l hk0 hc16) rfl (Nat.le_of_ble_eq_true rfl) (rfl : 94 + 3 = 97) (xdt tt_X12_readsSetting 38 rfl) ?_
        obtain ⟨S19, hS19, h⟩ := lt1_i h
        refine g_putI hC hk0 kclX12 ly4_0 33 (by decide) rfl rfl rfl q221 hS19 (rfl : 97 + 3 = 100) (xdt tt_X12_readsSetting 39 rfl) ?_
        refine g_goto hC (show ((100 : Nat) : Int) + 60 = ((160 : Nat) : Int) by decide) (xdt tt_X12_readsSetting 40 rfl) ?_
        cases h
        exact g_vret hC hE (xdt tt_X12_readsSetting 72 rfl)
      · replace h := (if_neg hv20).symm.trans h
        by_cases hv25 : wr (x1 - 10) = 2
        · replace h := (if_pos hv25).symm.trans h
          refine g_tabIn hC (xdt tt_X12_readsSetting 26 rfl) (fun z => hs6 (Or.inl z)) (fun z => hs6 (Or.inr z)) (off := 62) (by rw [hv25]; rfl) (show ((41 : Nat) : Int) + 62 = ((103 : Nat) : Int) by decide) ?_
          refine g_aload_n hC rfl 0 rfl (rfl : 103 + 1 = 104) (xdt tt_X12_readsSetting 41 rfl) ?_
          refine g_aload_n hC rfl 0 rfl (rfl : 104 + 1 = 105) (xdt tt_X12_readsSetting 42 rfl) ?_
          refine g_iconst hC (rfl : 105 + 1 = 106) (xdt tt_X12_readsSetting 43 rfl) ?_
          refine g_bipush hC (by decide) (rfl : 106 + 2 = 108) (xdt tt_X12_readsSetting 44 rfl) ?_
          obtain ⟨v23, S22, hc21, h⟩ := bd2_i h
          refine g_callVi hC hZ hk0 kclX12 ly4_0 m_X12_number q535 (Nat.le_of_ble_eq_true rfl) [vi 2, vi 20] rfl (fun l => c_X12_number_p4_0 l hk0 hc21) rfl (Nat.le_of_ble_eq_true rfl) (rfl : 108 + 3 = 111) (xdt tt_X12_readsSetting 45 rfl) ?_
          obtain ⟨S24, hS24, h⟩ := lt1_i h
          refine g_putI hC hk0 kclX12 ly4_0 34 (by decide) rfl rfl rfl q222 hS24 (rfl : 111 + 3 = 114) (xdt tt_X12_readsSetting 46 rfl) ?_
          refine g_goto hC (show ((114 : Nat) : Int) + 46 = ((160 : Nat) : Int) by decide) (xdt tt_X12_readsSetting 47 rfl) ?_
          cases h
          exact g_vret hC hE (xdt tt_X12_readsSetting 72 rfl)
        · replace h := (if_neg hv25).symm.trans h
          by_cases hv30 : wr (x1 - 10) = 3
          · replace h := (if_pos hv30).symm.trans h
            refine g_tabIn hC (xdt tt_X12_readsSetting 26 rfl) (fun z => hs6 (Or.inl z)) (fun z => hs6 (Or.inr z)) (off := 76) (by rw [hv30]; rfl) (show ((41 : Nat) : Int) + 76 = ((117 : Nat) : Int) by decide) ?_
            refine g_aload_n hC rfl 0 rfl (rfl : 117 + 1 = 118) (xdt tt_X12_readsSetting 48 rfl) ?_
            refine g_aload_n hC rfl 0 rfl (rfl : 118 + 1 = 119) (xdt tt_X12_readsSetting 49 rfl) ?_
            refine g_iconst hC (rfl : 119 + 1 = 120) (xdt tt_X12_readsSetting 50 rfl) ?_
            refine g_bipush hC (by decide) (rfl : 120 + 2 = 122) (xdt tt_X12_readsSetting 51 rfl) ?_
            obtain ⟨v28, S27, hc26, h⟩ := bd2_i h
            refine g_callVi hC hZ hk0 kclX12 ly4_0 m_X12_number q535 (Nat.le_of_ble_eq_true rfl) [vi 4, vi 40] rfl (fun l => c_X12_number_p4_0 l hk0 hc26) rfl (Nat.le_of_ble_eq_true rfl) (rfl : 122 + 3 = 125) (xdt tt_X12_readsSetting 52 rfl) ?_
            obtain ⟨S29, hS29, h⟩ := lt1_i h
            refine g_putI hC hk0 kclX12 ly4_0 35 (by decide) rfl rfl rfl q223 hS29 (rfl : 125 + 3 = 128) (xdt tt_X12_readsSetting 53 rfl) ?_
            refine g_goto hC (show ((128 : Nat) : Int) + 32 = ((160 : Nat) : Int) by decide) (xdt tt_X12_readsSetting 54 rfl) ?_
            cases h
            exact g_vret hC hE (xdt tt_X12_readsSetting 72 rfl)
          · replace h := (if_neg hv30).symm.trans h
            by_cases hv35 : wr (x1 - 10) = 4
            · replace h := (if_pos hv35).symm.trans h
              refine g_tabIn hC (xdt tt_X12_readsSetting 26 rfl) (fun z => hs6 (Or.inl z)) (fun z => hs6 (Or.inr z)) (off := 90) (by rw [hv35]; rfl) (show ((41 : Nat) : Int) + 90 = ((131 : Nat) : Int) by decide) ?_
              refine g_aload_n hC rfl 0 rfl (rfl : 131 + 1 = 132) (xdt tt_X12_readsSetting 55 rfl) ?_
              refine g_getP hC hk0 kclX12 ly4_0 11 (by decide) (rfl : r0 + 0 = r0) rfl q202 (rfl : 132 + 3 = 135) (xdt tt_X12_readsSetting 56 rfl) ?_
              refine g_iconst hC (rfl : 135 + 1 = 136) (xdt tt_X12_readsSetting 57 rfl) ?_
              refine g_aload_n hC rfl 0 rfl (rfl : 136 + 1 = 137) (xdt tt_X12_readsSetting 58 rfl) ?_
              refine g_iconst hC (rfl : 137 + 1 = 138) (xdt tt_X12_readsSetting 59 rfl) ?_
              refine g_bipush hC (by decide) (rfl : 138 + 2 = 140) (xdt tt_X12_readsSetting 60 rfl) ?_
              obtain ⟨v33, S32, hc31, h⟩ := bd2_i h
              refine g_callVi hC hZ hk0 kclX12 ly4_0 m_X12_number q535 (Nat.le_of_ble_eq_true rfl) [vi 1, vi 8] rfl (fun l => c_X12_number_p4_0 l hk0 hc31) rfl (Nat.le_of_ble_eq_true rfl) (rfl : 140 + 3 = 143) (xdt tt_X12_readsSetting 61 rfl) ?_
              obtain ⟨S34, hS34, h⟩ := lt1_i h
              refine g_iast hC hk0 ly4_7 (by decide) (by decide) hS34 (rfl : 143 + 1 = 144) (xdt tt_X12_readsSetting 62 rfl) ?_
              refine g_goto hC (show ((144 : Nat) : Int) + 16 = ((160 : Nat) : Int) by decide) (xdt tt_X12_readsSetting 63 rfl) ?_
              cases h
              exact g_vret hC hE (xdt tt_X12_readsSetting 72 rfl)
            · replace h := (if_neg hv35).symm.trans h
              cases h
set_option maxRecDepth 100000 in
set_option maxHeartbeats 4000000 in
theorem c_X12_readsSetting_p4_0 (l : Launch) {E : xE} {S S' : xSt} {r0 : Nat} {a1 : Int} (hk0 : xkd E r0 = 4) (h : f_X12_readsSetting_p4_0 S r0 a1 = some S') : Met l yX12_readsSetting (xws yX12_readsSetting cX12_readsSetting 2 none) (rmD 10) (YPc E [vr E r0 0, vi a1] S) (YQv E S') 0 0 (xA E) := by
  unfold f_X12_readsSetting_p4_0 at h
  refine met_v (by decide +kernel) (Nat.le_of_ble_eq_true rfl) (fun K hC hZ hE => ?_)
  have hC : xOK K cX12_readsSetting RX12 2 (rmE 10 0) := hC
  show WG K E 0 [(0, vr E r0 0), (1, vi a1)] [] S
  refine g_aload_n hC rfl 0 rfl (rfl : 0 + 1 = 1) (xdt tt_X12_readsSetting 0 rfl) ?_
  refine g_aload_n hC rfl 0 rfl (rfl : 1 + 1 = 2) (xdt tt_X12_readsSetting 1 rfl) ?_
  refine g_getI hC hk0 kclX12 ly4_0 32 (by decide) rfl q220 (rfl : 2 + 3 = 5) (xdt tt_X12_readsSetting 2 rfl) ?_
  refine g_iload_n hC rfl 1 rfl (rfl : 5 + 1 = 6) (xdt tt_X12_readsSetting 3 rfl) ?_
  refine g_ishr hC (rfl : 6 + 1 = 7) (xdt tt_X12_readsSetting 4 rfl) ?_
  refine g_iconst hC (rfl : 7 + 1 = 8) (xdt tt_X12_readsSetting 5 rfl) ?_
  refine g_iand hC (rfl : 8 + 1 = 9) (xdt tt_X12_readsSetting 6 rfl) ?_
  refine g_if_ne hC (show ((9 : Nat) : Int) + 7 = ((16 : Nat) : Int) by decide) (rfl : 9 + 3 = 12) (xdt tt_X12_readsSetting 7 rfl) (fun hc36 => ?_) (fun hc36 => ?_)
  · replace h := (if_pos hc36).symm.trans h
    refine g_iconst hC (rfl : 16 + 1 = 17) (xdt tt_X12_readsSetting 10 rfl) ?_
    refine g_sub [0, 1] (lv' := [(0, vr E r0 0), (1, vi a1)]) rfl ?_
    exact k_X12_readsSetting_p4_0_b17 hC hZ hE hk0 _ _ _ h
  · replace h := (if_neg hc36).symm.trans h
    refine g_iconst hC (rfl : 12 + 1 = 13) (xdt tt_X12_readsSetting 8 rfl) ?_
    refine g_goto hC (show ((13 : Nat) : Int) + 4 = ((17 : Nat) : Int) by decide) (xdt tt_X12_readsSetting 9 rfl) ?_
    refine g_sub [0, 1] (lv' := [(0, vr E r0 0), (1, vi a1)]) rfl ?_
    exact k_X12_readsSetting_p4_0_b17 hC hZ hE hk0 _ _ _ h
def f_X12_readsFuse_p4_0_b91 (r0 : Nat) : Nat → xSt → Int → Int → Option (xSt)
  | 0, _, _, _ => none
  | fuel + 1, S, x2, x3 =>
    if wr (gI S r0 7 34) ≤ wr x3 then
      (bd (f_X12_goOn_p4_0 S r0) fun S24 =>
      bd2 (f_X12_fine_p4_0 S24 r0) fun v27 S26 =>
      if ¬ wr v27 = 0 then
        (ckI (35 + (gI S26 r0 7 34)) 363 <|
        lt1 (wI S26 r0 7 (wr (35 + (gI S26 r0 7 34))).toNat x2) fun S30 =>
        lt1 (wI S30 r0 7 34 ((gI S30 r0 7 34) + 1)) fun S31 =>
        some S31)
      else
        (some S26))
    else
      (ckI (35 + x3) 363 <|
      if wr (gI S r0 7 (wr (35 + x3)).toNat) = wr x2 then
        (bd (f_X12_needs_p4_0 S r0 0 3) fun S35 =>
        (f_X12_readsFuse_p4_0_b91 r0 fuel) S35 x2 (x3 + 1))
      else
        (bd (f_X12_needs_p4_0 S r0 1 3) fun S37 =>
        (f_X12_readsFuse_p4_0_b91 r0 fuel) S37 x2 (x3 + 1)))
def f_X12_readsFuse_p4_0_b61 (r0 : Nat) (S : xSt) : Option (xSt) :=
  bd (f_X12_goOn_p4_0 S r0) fun S16 =>
  bd2 (f_X12_isKindHere_p4_0 S16 r0) fun v19 S18 =>
  bd (f_X12_needs_p4_0 S18 r0 v19 1) fun S22 =>
  f_X12_readsFuse_p4_0_b91 r0 (fu S22) S22 ((10 * (gI S r0 0 26)) + (gI S22 r0 0 26)) 0
def f_X12_readsFuse_p4_0_b57 (r0 : Nat) (S : xSt) (s0 : Int) : Option (xSt) :=
  bd (f_X12_needs_p4_0 S r0 s0 3) fun S41 =>
  f_X12_readsFuse_p4_0_b61 r0 S41
def f_X12_readsFuse_p4_0_b18 (r0 : Nat) (S : xSt) (s0 : Int) : Option (xSt) :=
  bd (f_X12_needs_p4_0 S r0 s0 4) fun S2 =>
  bd (f_X12_goOn_p4_0 S2 r0) fun S4 =>
  bd2 (f_X12_isKindHere_p4_0 S4 r0) fun v7 S6 =>
  bd (f_X12_needs_p4_0 S6 r0 v7 1) fun S10 =>
  bd2 (f_X12_fine_p4_0 S10 r0) fun v13 S12 =>
  if wr v13 = 0 then
    (f_X12_readsFuse_p4_0_b61 r0 S12)
  else
    (if wr 8 ≤ wr (gI S12 r0 0 26) then
      (f_X12_readsFuse_p4_0_b57 r0 S12 0)
    else
      (f_X12_readsFuse_p4_0_b57 r0 S12 1))
def f_X12_readsFuse_p4_0 (S : xSt) (r0 : Nat) : Option (xSt) :=
  if wr 6 ≤ wr (gI S r0 7 34) then
    (f_X12_readsFuse_p4_0_b18 r0 S 0)
  else
    (f_X12_readsFuse_p4_0_b18 r0 S 1)
set_option maxRecDepth 100000 in
set_option maxHeartbeats 4000000 in
theorem k_X12_readsFuse_p4_0_b91 {K : xCtx} {E : xE} {b : Nat} (hC : xOK K cX12_readsFuse RX12 4 (rmE 9 b)) (hZ : xZ K) {S' : xSt} (hE : xEnd K E none (YQv E S')) {r0 : Nat} (hk0 : xkd E r0 = 4) : ∀ (fuel : Nat) (S : xSt) (x2 : Int) (x3 : Int), f_X12_readsFuse_p4_0_b91 r0 fuel S x2 x3 = some S' → WG K E 91 [(0, vr E r0 0), (2, vi x2), (3, vi x3)] [] S := by
  intro fuel
  induction fuel with
  | zero => intro S x2 x3 h; cases h
  | succ fuel ih =>
    intro S x2 x3 h
    rw [f_X12_readsFuse_p4_0_b91] at h
    refine g_iload_n hC rfl 2 rfl (rfl : 91 + 1 = 92) (xdt tt_X12_readsFuse 51 rfl) ?_
    refine g_aload_n hC rfl 0 rfl (rfl : 92 + 1 = 93) (xdt tt_X12_readsFuse 52 rfl) ?_
    refine g_getP hC hk0 kclX12 ly4_0 11 (by decide) (rfl : r0 + 0 = r0) rfl q202 (rfl : 93 + 3 = 96) (xdt tt_X12_readsFuse 53 rfl) ?_
    refine g_bipush hC (by decide) (rfl : 96 + 2 = 98) (xdt tt_X12_readsFuse 54 rfl) ?_
    refine g_iald hC hk0 ly4_7 (by decide) (rfl : 98 + 1 = 99) (xdt tt_X12_readsFuse 55 rfl) (k0 := 34) (by decide) ?_
    refine g_icmp_ge hC (show ((99 : Nat) : Int) + 32 = ((131 : Nat) : Int) by decide) (rfl : 99 + 3 = 102) (xdt tt_X12_readsFuse 56 rfl) (fun hc39 => ?_) (fun hc39 => ?_)
    · replace h := (if_pos hc39).symm.trans h
      refine g_aload_n hC rfl 0 rfl (rfl : 131 + 1 = 132) (xdt tt_X12_readsFuse 73 rfl) ?_
      obtain ⟨S24, hc23, h⟩ := bd_i h
      refine g_callVv hC hZ hk0 kclX12 ly4_0 m_X12_goOn q527 (Nat.le_of_ble_eq_true rfl) [] rfl (fun l => c_X12_goOn_p4_0 l hk0 hc23) rfl (Nat.le_of_ble_eq_true rfl) (rfl : 132 + 3 = 135) (xdt tt_X12_readsFuse 74 rfl) ?_
      refine g_aload_n hC rfl 0 rfl (rfl : 135 + 1 = 136) (xdt tt_X12_readsFuse 75 rfl) ?_
      obtain ⟨v27, S26, hc25, h⟩ := bd2_i h
      refine g_callVz hC hZ hk0 kclX12 ly4_0 m_X12_fine q500 (Nat.le_of_ble_eq_true rfl) [] rfl (fun l => c_X12_fine_p4_0 l hk0 hc25) rfl (Nat.le_of_ble_eq_true rfl) (rfl : 136 + 3 = 139) (xdt tt_X12_readsFuse 76 rfl) (fun hb28 => ?_)
      refine g_if_ne hC (show ((139 : Nat) : Int) + 4 = ((143 : Nat) : Int) by decide) (rfl : 139 + 3 = 142) (xdt tt_X12_readsFuse 77 rfl) (fun hc32 => ?_) (fun hc32 => ?_)
      · replace h := (if_pos hc32).symm.trans h
        refine g_aload_n hC rfl 0 rfl (rfl : 143 + 1 = 144) (xdt tt_X12_readsFuse 79 rfl) ?_
        refine g_getP hC hk0 kclX12 ly4_0 11 (by decide) (rfl : r0 + 0 = r0) rfl q202 (rfl : 144 + 3 = 147) (xdt tt_X12_readsFuse 80 rfl) ?_
        refine g_bipush hC (by decide) (rfl : 147 + 2 = 149) (xdt tt_X12_readsFuse 81 rfl) ?_
        refine g_aload_n hC rfl 0 rfl (rfl : 149 + 1 = 150) (xdt tt_X12_readsFuse 82 rfl) ?_
        refine g_getP hC hk0 kclX12 ly4_0 11 (by decide) (rfl : r0 + 0 = r0) rfl q202 (rfl : 150 + 3 = 153) (xdt tt_X12_readsFuse 83 rfl) ?_
        refine g_bipush hC (by decide) (rfl : 153 + 2 = 155) (xdt tt_X12_readsFuse 84 rfl) ?_
        refine g_iald hC hk0 ly4_7 (by decide) (rfl : 155 + 1 = 156) (xdt tt_X12_readsFuse 85 rfl) (k0 := 34) (by decide) ?_
        refine g_iadd hC (rfl : 156 + 1 = 157) (xdt tt_X12_readsFuse 86 rfl) ?_
        refine g_iload_n hC rfl 1 rfl (rfl : 157 + 1 = 158) (xdt tt_X12_readsFuse 87 rfl) ?_
        obtain ⟨hi29, h⟩ := ckI_i h
        obtain ⟨S30, hS30, h⟩ := lt1_i h
        refine g_iast hC hk0 ly4_7 hi29 rfl hS30 (rfl : 158 + 1 = 159) (xdt tt_X12_readsFuse 88 rfl) ?_
        refine g_aload_n hC rfl 0 rfl (rfl : 159 + 1 = 160) (xdt tt_X12_readsFuse 89 rfl) ?_
        refine g_getP hC hk0 kclX12 ly4_0 11 (by decide) (rfl : r0 + 0 = r0) rfl q202 (rfl : 160 + 3 = 163) (xdt tt_X12_readsFuse 90 rfl) ?_
        refine g_bipush hC (by decide) (rfl : 163 + 2 = 165) (xdt tt_X12_readsFuse 91 rfl) ?_
        refine g_aload_n hC rfl 0 rfl (rfl : 165 + 1 = 166) (xdt tt_X12_readsFuse 92 rfl) ?_
        refine g_getP hC hk0 kclX12 ly4_0 11 (by decide) (rfl : r0 + 0 = r0) rfl q202 (rfl : 166 + 3 = 169) (xdt tt_X12_readsFuse 93 rfl) ?_
        refine g_bipush hC (by decide) (rfl : 169 + 2 = 171) (xdt tt_X12_readsFuse 94 rfl) ?_
        refine g_iald hC hk0 ly4_7 (by decide) (rfl : 171 + 1 = 172) (xdt tt_X12_readsFuse 95 rfl) (k0 := 34) (by decide) ?_
        refine g_iconst hC (rfl : 172 + 1 = 173) (xdt tt_X12_readsFuse 96 rfl) ?_
        refine g_iadd hC (rfl : 173 + 1 = 174) (xdt tt_X12_readsFuse 97 rfl) ?_
        obtain ⟨S31, hS31, h⟩ := lt1_i h
        refine g_iast hC hk0 ly4_7 (by decide) (by decide) hS31 (rfl : 174 + 1 = 175) (xdt tt_X12_readsFuse 98 rfl) ?_
        cases h
        exact g_vret hC hE (xdt tt_X12_readsFuse 99 rfl)
      · replace h := (if_neg hc32).symm.trans h
        cases h
        exact g_vret hC hE (xdt tt_X12_readsFuse 78 rfl)
    · replace h := (if_neg hc39).symm.trans h
      refine g_aload_n hC rfl 0 rfl (rfl : 102 + 1 = 103) (xdt tt_X12_readsFuse 57 rfl) ?_
      refine g_aload_n hC rfl 0 rfl (rfl : 103 + 1 = 104) (xdt tt_X12_readsFuse 58 rfl) ?_
      refine g_getP hC hk0 kclX12 ly4_0 11 (by decide) (rfl : r0 + 0 = r0) rfl q202 (rfl : 104 + 3 = 107) (xdt tt_X12_readsFuse 59 rfl) ?_
      refine g_bipush hC (by decide) (rfl : 107 + 2 = 109) (xdt tt_X12_readsFuse 60 rfl) ?_
      refine g_iload_n hC rfl 2 rfl (rfl : 109 + 1 = 110) (xdt tt_X12_readsFuse 61 rfl) ?_
      refine g_iadd hC (rfl : 110 + 1 = 111) (xdt tt_X12_readsFuse 62 rfl) ?_
      obtain ⟨hi33, h⟩ := ckI_i h
      refine g_iald hC hk0 ly4_7 hi33 (rfl : 111 + 1 = 112) (xdt tt_X12_readsFuse 63 rfl) (k0 := (wr (35 + x3)).toNat) rfl ?_
      refine g_iload_n hC rfl 1 rfl (rfl : 112 + 1 = 113) (xdt tt_X12_readsFuse 64 rfl) ?_
      refine g_icmp_eq hC (show ((113 : Nat) : Int) + 7 = ((120 : Nat) : Int) by decide) (rfl : 113 + 3 = 116) (xdt tt_X12_readsFuse 65 rfl) (fun hc38 => ?_) (fun hc38 => ?_)
      · replace h := (if_pos hc38).symm.trans h
        refine g_iconst hC (rfl : 120 + 1 = 121) (xdt tt_X12_readsFuse 68 rfl) ?_
        refine g_iconst hC (rfl : 121 + 1 = 122) (xdt tt_X12_readsFuse 69 rfl) ?_
        obtain ⟨S35, hc34, h⟩ := bd_i h
        refine g_callVv hC hZ hk0 kclX12 ly4_0 m_X12_needs q523 (Nat.le_of_ble_eq_true rfl) [vi 0, vi 3] rfl (fun l => c_X12_needs_p4_0 l hk0 hc34) rfl (Nat.le_of_ble_eq_true rfl) (rfl : 122 + 3 = 125) (xdt tt_X12_readsFuse 70 rfl) ?_
        refine g_iinc hC 2 rfl (by decide) (lv' := [(3, vi (x3 + 1)), (0, vr E r0 0), (2, vi x2)]) rfl (rfl : 125 + 3 = 128) (xdt tt_X12_readsFuse 71 rfl) ?_
        refine g_goto hC (show ((128 : Nat) : Int) + (-37) = ((91 : Nat) : Int) by decide) (xdt tt_X12_readsFuse 72 rfl) ?_
        refine g_sub [1, 2, 0] (lv' := [(0, vr E r0 0), (2, vi x2), (3, vi (x3 + 1))]) rfl ?_
        exact ih _ _ _ h
      · replace h := (if_neg hc38).symm.trans h
        refine g_iconst hC (rfl : 116 + 1 = 117) (xdt tt_X12_readsFuse 66 rfl) ?_
        refine g_goto hC (show ((117 : Nat) : Int) + 4 = ((121 : Nat) : Int) by decide) (xdt tt_X12_readsFuse 67 rfl) ?_
        refine g_iconst hC (rfl : 121 + 1 = 122) (xdt tt_X12_readsFuse 69 rfl) ?_
        obtain ⟨S37, hc36, h⟩ := bd_i h
        refine g_callVv hC hZ hk0 kclX12 ly4_0 m_X12_needs q523 (Nat.le_of_ble_eq_true rfl) [vi 1, vi 3] rfl (fun l => c_X12_needs_p4_0 l hk0 hc36) rfl (Nat.le_of_ble_eq_true rfl) (rfl : 122 + 3 = 125) (xdt tt_X12_readsFuse 70 rfl) ?_
        refine g_iinc hC 2 rfl (by decide) (lv' := [(3, vi (x3 + 1)), (0, vr E r0 0), (2, vi x2)]) rfl (rfl : 125 + 3 = 128) (xdt tt_X12_readsFuse 71 rfl) ?_
        refine g_goto hC (show ((128 : Nat) : Int) + (-37) = ((91 : Nat) : Int) by decide) (xdt tt_X12_readsFuse 72 rfl) ?_
        refine g_sub [1, 2, 0] (lv' := [(0, vr E r0 0), (2, vi x2), (3, vi (x3 + 1))]) rfl ?_
        exact ih _ _ _ h
set_option maxRecDepth 100000 in
set_option maxHeartbeats 4000000 in
theorem k_X12_readsFuse_p4_0_b61 {K : xCtx} {E : xE} {b : Nat} (hC : xOK K cX12_readsFuse RX12 4 (rmE 9 b)) (hZ : xZ K) {S' : xSt} (hE : xEnd K E none (YQv E S')) {r0 : Nat} (hk0 : xkd E r0 = 4) : ∀ (S : xSt) , f_X12_readsFuse_p4_0_b61 r0 S = some S' → WG K E 61 [(0, vr E r0 0)] [] S := by
  intro S h
  unfold f_X12_readsFuse_p4_0_b61 at h
  refine g_aload_n hC rfl 0 rfl (rfl : 61 + 1 = 62) (xdt tt_X12_readsFuse 32 rfl) ?_
  refine g_getI hC hk0 kclX12 ly4_0 26 (by decide) rfl q485 (rfl : 62 + 3 = 65) (xdt tt_X12_readsFuse 33 rfl) ?_
  refine g_istore_n hC rfl (by decide) (lv' := [(1, vi (gI S r0 0 26)), (0, vr E r0 0)]) rfl (rfl : 65 + 1 = 66) (xdt tt_X12_readsFuse 34 rfl) ?_
  refine g_aload_n hC rfl 1 rfl (rfl : 66 + 1 = 67) (xdt tt_X12_readsFuse 35 rfl) ?_
  obtain ⟨S16, hc15, h⟩ := bd_i h
  refine g_callVv hC hZ hk0 kclX12 ly4_0 m_X12_goOn q527 (Nat.le_of_ble_eq_true rfl) [] rfl (fun l => c_X12_goOn_p4_0 l hk0 hc15) rfl (Nat.le_of_ble_eq_true rfl) (rfl : 67 + 3 = 70) (xdt tt_X12_readsFuse 36 rfl) ?_
  refine g_aload_n hC rfl 1 rfl (rfl : 70 + 1 = 71) (xdt tt_X12_readsFuse 37 rfl) ?_
  refine g_aload_n hC rfl 1 rfl (rfl : 71 + 1 = 72) (xdt tt_X12_readsFuse 38 rfl) ?_
  obtain ⟨v19, S18, hc17, h⟩ := bd2_i h
  refine g_callVz hC hZ hk0 kclX12 ly4_0 m_X12_isKindHere q510 (Nat.le_of_ble_eq_true rfl) [] rfl (fun l => c_X12_isKindHere_p4_0 l hk0 hc17) rfl (Nat.le_of_ble_eq_true rfl) (rfl : 72 + 3 = 75) (xdt tt_X12_readsFuse 39 rfl) (fun hb20 => ?_)
  refine g_iconst hC (rfl : 75 + 1 = 76) (xdt tt_X12_readsFuse 40 rfl) ?_
  obtain ⟨S22, hc21, h⟩ := bd_i h
  refine g_callVv hC hZ hk0 kclX12 ly4_0 m_X12_needs q523 (Nat.le_of_ble_eq_true rfl) [vi v19, vi 1] rfl (fun l => c_X12_needs_p4_0 l hk0 hc21) rfl (Nat.le_of_ble_eq_true rfl) (rfl : 76 + 3 = 79) (xdt tt_X12_readsFuse 41 rfl) ?_
  refine g_bipush hC (by decide) (rfl : 79 + 2 = 81) (xdt tt_X12_readsFuse 42 rfl) ?_
  refine g_iload_n hC rfl 0 rfl (rfl : 81 + 1 = 82) (xdt tt_X12_readsFuse 43 rfl) ?_
  refine g_imul hC (rfl : 82 + 1 = 83) (xdt tt_X12_readsFuse 44 rfl) ?_
  refine g_aload_n hC rfl 1 rfl (rfl : 83 + 1 = 84) (xdt tt_X12_readsFuse 45 rfl) ?_
  refine g_getI hC hk0 kclX12 ly4_0 26 (by decide) rfl q485 (rfl : 84 + 3 = 87) (xdt tt_X12_readsFuse 46 rfl) ?_
  refine g_iadd hC (rfl : 87 + 1 = 88) (xdt tt_X12_readsFuse 47 rfl) ?_
  refine g_istore_n hC rfl (by decide) (lv' := [(2, vi ((10 * (gI S r0 0 26)) + (gI S22 r0 0 26))), (1, vi (gI S r0 0 26)), (0, vr E r0 0)]) rfl (rfl : 88 + 1 = 89) (xdt tt_X12_readsFuse 48 rfl) ?_
  refine g_iconst hC (rfl : 89 + 1 = 90) (xdt tt_X12_readsFuse 49 rfl) ?_
  refine g_istore_n hC rfl (by decide) (lv' := [(3, vi 0), (2, vi ((10 * (gI S r0 0 26)) + (gI S22 r0 0 26))), (1, vi (gI S r0 0 26)), (0, vr E r0 0)]) rfl (rfl : 90 + 1 = 91) (xdt tt_X12_readsFuse 50 rfl) ?_
  refine g_sub [3, 1, 0] (lv' := [(0, vr E r0 0), (2, vi ((10 * (gI S r0 0 26)) + (gI S22 r0 0 26))), (3, vi 0)]) rfl ?_
  exact k_X12_readsFuse_p4_0_b91 hC hZ hE hk0 _ _ _ _ h
set_option maxRecDepth 100000 in
set_option maxHeartbeats 4000000 in
theorem k_X12_readsFuse_p4_0_b57 {K : xCtx} {E : xE} {b : Nat} (hC : xOK K cX12_readsFuse RX12 4 (rmE 9 b)) (hZ : xZ K) {S' : xSt} (hE : xEnd K E none (YQv E S')) {r0 : Nat} (hk0 : xkd E r0 = 4) : ∀ (S : xSt) (s0 : Int), f_X12_readsFuse_p4_0_b57 r0 S s0 = some S' → WG K E 57 [(0, vr E r0 0)] [vi s0, vr E r0 0] S := by
  intro S s0 h
  unfold f_X12_readsFuse_p4_0_b57 at h
  refine g_iconst hC (rfl : 57 + 1 = 58) (xdt tt_X12_readsFuse 30 rfl) ?_
  obtain ⟨S41, hc40, h⟩ := bd_i h
  refine g_callVv hC hZ hk0 kclX12 ly4_0 m_X12_needs q523 (Nat.le_of_ble_eq_true rfl) [vi s0, vi 3] rfl (fun l => c_X12_needs_p4_0 l hk0 hc40) rfl (Nat.le_of_ble_eq_true rfl) (rfl : 58 + 3 = 61) (xdt tt_X12_readsFuse 31 rfl) ?_
  refine g_sub [0] (lv' := [(0, vr E r0 0)]) rfl ?_
  exact k_X12_readsFuse_p4_0_b61 hC hZ hE hk0 _ h
set_option maxRecDepth 100000 in
set_option maxHeartbeats 4000000 in
theorem k_X12_readsFuse_p4_0_b18 {K : xCtx} {E : xE} {b : Nat} (hC : xOK K cX12_readsFuse RX12 4 (rmE 9 b)) (hZ : xZ K) {S' : xSt} (hE : xEnd K E none (YQv E S')) {r0 : Nat} (hk0 : xkd E r0 = 4) : ∀ (S : xSt) (s0 : Int), f_X12_readsFuse_p4_0_b18 r0 S s0 = some S' → WG K E 18 [(0, vr E r0 0)] [vi s0, vr E r0 0] S := by
  intro S s0 h
  unfold f_X12_readsFuse_p4_0_b18 at h
  refine g_iconst hC (rfl : 18 + 1 = 19) (xdt tt_X12_readsFuse 10 rfl) ?_
  obtain ⟨S2, hc1, h⟩ := bd_i h
  refine g_callVv hC hZ hk0 kclX12 ly4_0 m_X12_needs q523 (Nat.le_of_ble_eq_true rfl) [vi s0, vi 4] rfl (fun l => c_X12_needs_p4_0 l hk0 hc1) rfl (Nat.le_of_ble_eq_true rfl) (rfl : 19 + 3 = 22) (xdt tt_X12_readsFuse 11 rfl) ?_
  refine g_aload_n hC rfl 0 rfl (rfl : 22 + 1 = 23) (xdt tt_X12_readsFuse 12 rfl) ?_
  obtain ⟨S4, hc3, h⟩ := bd_i h
  refine g_callVv hC hZ hk0 kclX12 ly4_0 m_X12_goOn q527 (Nat.le_of_ble_eq_true rfl) [] rfl (fun l => c_X12_goOn_p4_0 l hk0 hc3) rfl (Nat.le_of_ble_eq_true rfl) (rfl : 23 + 3 = 26) (xdt tt_X12_readsFuse 13 rfl) ?_
  refine g_aload_n hC rfl 0 rfl (rfl : 26 + 1 = 27) (xdt tt_X12_readsFuse 14 rfl) ?_
  refine g_aload_n hC rfl 0 rfl (rfl : 27 + 1 = 28) (xdt tt_X12_readsFuse 15 rfl) ?_
  obtain ⟨v7, S6, hc5, h⟩ := bd2_i h
  refine g_callVz hC hZ hk0 kclX12 ly4_0 m_X12_isKindHere q510 (Nat.le_of_ble_eq_true rfl) [] rfl (fun l => c_X12_isKindHere_p4_0 l hk0 hc5) rfl (Nat.le_of_ble_eq_true rfl) (rfl : 28 + 3 = 31) (xdt tt_X12_readsFuse 16 rfl) (fun hb8 => ?_)
  refine g_iconst hC (rfl : 31 + 1 = 32) (xdt tt_X12_readsFuse 17 rfl) ?_
  obtain ⟨S10, hc9, h⟩ := bd_i h
  refine g_callVv hC hZ hk0 kclX12 ly4_0 m_X12_needs q523 (Nat.le_of_ble_eq_true rfl) [vi v7, vi 1] rfl (fun l => c_X12_needs_p4_0 l hk0 hc9) rfl (Nat.le_of_ble_eq_true rfl) (rfl : 32 + 3 = 35) (xdt tt_X12_readsFuse 18 rfl) ?_
  refine g_aload_n hC rfl 0 rfl (rfl : 35 + 1 = 36) (xdt tt_X12_readsFuse 19 rfl) ?_
  obtain ⟨v13, S12, hc11, h⟩ := bd2_i h
  refine g_callVz hC hZ hk0 kclX12 ly4_0 m_X12_fine q500 (Nat.le_of_ble_eq_true rfl) [] rfl (fun l => c_X12_fine_p4_0 l hk0 hc11) rfl (Nat.le_of_ble_eq_true rfl) (rfl : 36 + 3 = 39) (xdt tt_X12_readsFuse 20 rfl) (fun hb14 => ?_)
  refine g_if_eq hC (show ((39 : Nat) : Int) + 22 = ((61 : Nat) : Int) by decide) (rfl : 39 + 3 = 42) (xdt tt_X12_readsFuse 21 rfl) (fun hc43 => ?_) (fun hc43 => ?_)
  · replace h := (if_pos hc43).symm.trans h
    refine g_sub [0] (lv' := [(0, vr E r0 0)]) rfl ?_
    exact k_X12_readsFuse_p4_0_b61 hC hZ hE hk0 _ h
  · replace h := (if_neg hc43).symm.trans h
    refine g_aload_n hC rfl 0 rfl (rfl : 42 + 1 = 43) (xdt tt_X12_readsFuse 22 rfl) ?_
    refine g_aload_n hC rfl 0 rfl (rfl : 43 + 1 = 44) (xdt tt_X12_readsFuse 23 rfl) ?_
    refine g_getI hC hk0 kclX12 ly4_0 26 (by decide) rfl q485 (rfl : 44 + 3 = 47) (xdt tt_X12_readsFuse 24 rfl) ?_
    refine g_bipush hC (by decide) (rfl : 47 + 2 = 49) (xdt tt_X12_readsFuse 25 rfl) ?_
    refine g_icmp_ge hC (show ((49 : Nat) : Int) + 7 = ((56 : Nat) : Int) by decide) (rfl : 49 + 3 = 52) (xdt tt_X12_readsFuse 26 rfl) (fun hc42 => ?_) (fun hc42 => ?_)
    · replace h := (if_pos hc42).symm.trans h
      refine g_iconst hC (rfl : 56 + 1 = 57) (xdt tt_X12_readsFuse 29 rfl) ?_
      refine g_sub [0] (lv' := [(0, vr E r0 0)]) rfl ?_
      exact k_X12_readsFuse_p4_0_b57 hC hZ hE hk0 _ _ h
    · replace h := (if_neg hc42).symm.trans h
      refine g_iconst hC (rfl : 52 + 1 = 53) (xdt tt_X12_readsFuse 27 rfl) ?_
      refine g_goto hC (show ((53 : Nat) : Int) + 4 = ((57 : Nat) : Int) by decide) (xdt tt_X12_readsFuse 28 rfl) ?_
      refine g_sub [0] (lv' := [(0, vr E r0 0)]) rfl ?_
      exact k_X12_readsFuse_p4_0_b57 hC hZ hE hk0 _ _ h
set_option maxRecDepth 100000 in
set_option maxHeartbeats 4000000 in
theorem c_X12_readsFuse_p4_0 (l : Launch) {E : xE} {S S' : xSt} {r0 : Nat} (hk0 : xkd E r0 = 4) (h : f_X12_readsFuse_p4_0 S r0 = some S') : Met l yX12_readsFuse (xws yX12_readsFuse cX12_readsFuse 4 none) (rmD 9) (YPc E [vr E r0 0] S) (YQv E S') 0 0 (xA E) := by
  unfold f_X12_readsFuse_p4_0 at h
  refine met_v (by decide +kernel) (Nat.le_of_ble_eq_true rfl) (fun K hC hZ hE => ?_)
  have hC : xOK K cX12_readsFuse RX12 4 (rmE 9 0) := hC
  show WG K E 0 [(0, vr E r0 0)] [] S
  refine g_aload_n hC rfl 0 rfl (rfl : 0 + 1 = 1) (xdt tt_X12_readsFuse 0 rfl) ?_
  refine g_aload_n hC rfl 0 rfl (rfl : 1 + 1 = 2) (xdt tt_X12_readsFuse 1 rfl) ?_
  refine g_getP hC hk0 kclX12 ly4_0 11 (by decide) (rfl : r0 + 0 = r0) rfl q202 (rfl : 2 + 3 = 5) (xdt tt_X12_readsFuse 2 rfl) ?_
  refine g_bipush hC (by decide) (rfl : 5 + 2 = 7) (xdt tt_X12_readsFuse 3 rfl) ?_
  refine g_iald hC hk0 ly4_7 (by decide) (rfl : 7 + 1 = 8) (xdt tt_X12_readsFuse 4 rfl) (k0 := 34) (by decide) ?_
  refine g_bipush hC (by decide) (rfl : 8 + 2 = 10) (xdt tt_X12_readsFuse 5 rfl) ?_
  refine g_icmp_ge hC (show ((10 : Nat) : Int) + 7 = ((17 : Nat) : Int) by decide) (rfl : 10 + 3 = 13) (xdt tt_X12_readsFuse 6 rfl) (fun hc44 => ?_) (fun hc44 => ?_)
  · replace h := (if_pos hc44).symm.trans h
    refine g_iconst hC (rfl : 17 + 1 = 18) (xdt tt_X12_readsFuse 9 rfl) ?_
    refine g_sub [0] (lv' := [(0, vr E r0 0)]) rfl ?_
    exact k_X12_readsFuse_p4_0_b18 hC hZ hE hk0 _ _ h
  · replace h := (if_neg hc44).symm.trans h
    refine g_iconst hC (rfl : 13 + 1 = 14) (xdt tt_X12_readsFuse 7 rfl) ?_
    refine g_goto hC (show ((14 : Nat) : Int) + 4 = ((18 : Nat) : Int) by decide) (xdt tt_X12_readsFuse 8 rfl) ?_
    refine g_sub [0] (lv' := [(0, vr E r0 0)]) rfl ?_
    exact k_X12_readsFuse_p4_0_b18 hC hZ hE hk0 _ _ h
def f_X12_readsTimes_p4_0 (S : xSt) (r0 : Nat) (a1 : Int) : Option (xSt) :=
  bd2 (f_X12_isWord_p4_0 S r0 19) fun v3 S2 =>
  bd (f_X12_needs_p4_0 S2 r0 v3 1) fun S6 =>
  bd (f_X12_goOn_p4_0 S6 r0) fun S8 =>
  bd2 (f_X12_number_p4_0 S8 r0 1 99) fun v11 S10 =>
  ckI a1 60 <|
  lt1 (wI S10 r0 17 (wr a1).toNat v11) fun S13 =>
  some S13
set_option maxRecDepth 100000 in
set_option maxHeartbeats 4000000 in
theorem c_X12_readsTimes_p4_0 (l : Launch) {E : xE} {S S' : xSt} {r0 : Nat} {a1 : Int} (hk0 : xkd E r0 = 4) (h : f_X12_readsTimes_p4_0 S r0 a1 = some S') : Met l yX12_readsTimes (xws yX12_readsTimes cX12_readsTimes 2 none) (rmD 10) (YPc E [vr E r0 0, vi a1] S) (YQv E S') 0 0 (xA E) := by
  unfold f_X12_readsTimes_p4_0 at h
  refine met_v (by decide +kernel) (Nat.le_of_ble_eq_true rfl) (fun K hC hZ hE => ?_)
  have hC : xOK K cX12_readsTimes RX12 2 (rmE 10 0) := hC
  show WG K E 0 [(0, vr E r0 0), (1, vi a1)] [] S
  refine g_aload_n hC rfl 0 rfl (rfl : 0 + 1 = 1) (xdt tt_X12_readsTimes 0 rfl) ?_
  refine g_aload_n hC rfl 0 rfl (rfl : 1 + 1 = 2) (xdt tt_X12_readsTimes 1 rfl) ?_
  refine g_bipush hC (by decide) (rfl : 2 + 2 = 4) (xdt tt_X12_readsTimes 2 rfl) ?_
  obtain ⟨v3, S2, hc1, h⟩ := bd2_i h
  refine g_callVz hC hZ hk0 kclX12 ly4_0 m_X12_isWord q515 (Nat.le_of_ble_eq_true rfl) [vi 19] rfl (fun l => c_X12_isWord_p4_0 l hk0 hc1) rfl (Nat.le_of_ble_eq_true rfl) (rfl : 4 + 3 = 7) (xdt tt_X12_readsTimes 3 rfl) (fun hb4 => ?_)
  refine g_iconst hC (rfl : 7 + 1 = 8) (xdt tt_X12_readsTimes 4 rfl) ?_
  obtain ⟨S6, hc5, h⟩ := bd_i h
  refine g_callVv hC hZ hk0 kclX12 ly4_0 m_X12_needs q523 (Nat.le_of_ble_eq_true rfl) [vi v3, vi 1] rfl (fun l => c_X12_needs_p4_0 l hk0 hc5) rfl (Nat.le_of_ble_eq_true rfl) (rfl : 8 + 3 = 11) (xdt tt_X12_readsTimes 5 rfl) ?_
  refine g_aload_n hC rfl 0 rfl (rfl : 11 + 1 = 12) (xdt tt_X12_readsTimes 6 rfl) ?_
  obtain ⟨S8, hc7, h⟩ := bd_i h
  refine g_callVv hC hZ hk0 kclX12 ly4_0 m_X12_goOn q527 (Nat.le_of_ble_eq_true rfl) [] rfl (fun l => c_X12_goOn_p4_0 l hk0 hc7) rfl (Nat.le_of_ble_eq_true rfl) (rfl : 12 + 3 = 15) (xdt tt_X12_readsTimes 7 rfl) ?_
  refine g_aload_n hC rfl 0 rfl (rfl : 15 + 1 = 16) (xdt tt_X12_readsTimes 8 rfl) ?_
  refine g_getP hC hk0 kclX12 ly4_0 39 (by decide) (rfl : r0 + 0 = r0) rfl q213 (rfl : 16 + 3 = 19) (xdt tt_X12_readsTimes 9 rfl) ?_
  refine g_iload_n hC rfl 1 rfl (rfl : 19 + 1 = 20) (xdt tt_X12_readsTimes 10 rfl) ?_
  refine g_aload_n hC rfl 0 rfl (rfl : 20 + 1 = 21) (xdt tt_X12_readsTimes 11 rfl) ?_
  refine g_iconst hC (rfl : 21 + 1 = 22) (xdt tt_X12_readsTimes 12 rfl) ?_
  refine g_bipush hC (by decide) (rfl : 22 + 2 = 24) (xdt tt_X12_readsTimes 13 rfl) ?_
  obtain ⟨v11, S10, hc9, h⟩ := bd2_i h
  refine g_callVi hC hZ hk0 kclX12 ly4_0 m_X12_number q535 (Nat.le_of_ble_eq_true rfl) [vi 1, vi 99] rfl (fun l => c_X12_number_p4_0 l hk0 hc9) rfl (Nat.le_of_ble_eq_true rfl) (rfl : 24 + 3 = 27) (xdt tt_X12_readsTimes 14 rfl) ?_
  obtain ⟨hi12, h⟩ := ckI_i h
  obtain ⟨S13, hS13, h⟩ := lt1_i h
  refine g_iast hC hk0 ly4_17 hi12 rfl hS13 (rfl : 27 + 1 = 28) (xdt tt_X12_readsTimes 15 rfl) ?_
  cases h
  exact g_vret hC hE (xdt tt_X12_readsTimes 16 rfl)
def f_X12_readsTarget_p4_0_b65 (r0 : Nat) (S : xSt) (x1 : Int) (x2 : Int) (s0 : Int) : Option (xSt) :=
  if wr x2 = 0 then
    (ckI x1 60 <|
    lt1 (wI S r0 16 (wr x1).toNat (s0 + 1)) fun S13 =>
    some S13)
  else
    (ckI x1 60 <|
    lt1 (wI S r0 16 (wr x1).toNat (-s0)) fun S15 =>
    some S15)
def f_X12_readsTarget_p4_0_b52 (r0 : Nat) (S : xSt) (x1 : Int) (x2 : Int) (s0 : Int) (s1 : Int) : Option (xSt) :=
  bd2 (f_X12_number_p4_0 S r0 s1 s0) fun v19 S18 =>
  f_X12_readsTarget_p4_0_b65 r0 S18 x1 x2 v19
def f_X12_readsTarget_p4_0_b26 (r0 : Nat) (S : xSt) (x1 : Int) (x2 : Int) (s0 : Int) : Option (xSt) :=
  bd (f_X12_needs_p4_0 S r0 s0 1) fun S6 =>
  bd (f_X12_goOn_p4_0 S6 r0) fun S8 =>
  if wr x2 = 0 then
    (bd2 (f_X12_number_p4_0 S8 r0 0 9) fun v11 S10 =>
    f_X12_readsTarget_p4_0_b65 r0 S10 x1 x2 v11)
  else
    (if wr 99 ≤ wr x1 then
      (f_X12_readsTarget_p4_0_b52 r0 S8 x1 x2 99 1)
    else
      (f_X12_readsTarget_p4_0_b52 r0 S8 x1 x2 x1 1))
def f_X12_readsTarget_p4_0_b21 (r0 : Nat) (S : xSt) (x1 : Int) (x2 : Int) : Option (xSt) :=
  f_X12_readsTarget_p4_0_b26 r0 S x1 x2 1
def f_X12_readsTarget_p4_0 (S : xSt) (r0 : Nat) (a1 : Int) : Option (xSt) :=
  bd2 (f_X12_isWord_p4_0 S r0 20) fun v3 S2 =>
  if ¬ wr v3 = 0 then
    (f_X12_readsTarget_p4_0_b21 r0 S2 a1 v3)
  else
    (bd2 (f_X12_isWord_p4_0 S2 r0 21) fun v24 S23 =>
    if wr v24 = 0 then
      (f_X12_readsTarget_p4_0_b26 r0 S23 a1 v3 0)
    else
      (f_X12_readsTarget_p4_0_b21 r0 S23 a1 v3))
set_option maxRecDepth 100000 in
set_option maxHeartbeats 4000000 in
theorem k_X12_readsTarget_p4_0_b65 {K : xCtx} {E : xE} {b : Nat} (hC : xOK K cX12_readsTarget RX12 4 (rmE 10 b)) (hZ : xZ K) {S' : xSt} (hE : xEnd K E none (YQv E S')) {r0 : Nat} (hk0 : xkd E r0 = 4) : ∀ (S : xSt) (x1 : Int) (x2 : Int) (s0 : Int), f_X12_readsTarget_p4_0_b65 r0 S x1 x2 s0 = some S' → WG K E 65 [(0, vr E r0 0), (1, vi x1), (2, vi x2)] [vi s0] S := by
  intro S x1 x2 s0 h
  unfold f_X12_readsTarget_p4_0_b65 at h
  refine g_istore_n hC rfl (by decide) (lv' := [(3, vi s0), (0, vr E r0 0), (1, vi x1), (2, vi x2)]) rfl (rfl : 65 + 1 = 66) (xdt tt_X12_readsTarget 34 rfl) ?_
  refine g_aload_n hC rfl 1 rfl (rfl : 66 + 1 = 67) (xdt tt_X12_readsTarget 35 rfl) ?_
  refine g_getP hC hk0 kclX12 ly4_0 38 (by decide) (rfl : r0 + 0 = r0) rfl q212 (rfl : 67 + 3 = 70) (xdt tt_X12_readsTarget 36 rfl) ?_
  refine g_iload_n hC rfl 2 rfl (rfl : 70 + 1 = 71) (xdt tt_X12_readsTarget 37 rfl) ?_
  refine g_iload_n hC rfl 3 rfl (rfl : 71 + 1 = 72) (xdt tt_X12_readsTarget 38 rfl) ?_
  refine g_if_eq hC (show ((72 : Nat) : Int) + 8 = ((80 : Nat) : Int) by decide) (rfl : 72 + 3 = 75) (xdt tt_X12_readsTarget 39 rfl) (fun hc16 => ?_) (fun hc16 => ?_)
  · replace h := (if_pos hc16).symm.trans h
    refine g_iload_n hC rfl 0 rfl (rfl : 80 + 1 = 81) (xdt tt_X12_readsTarget 43 rfl) ?_
    refine g_iconst hC (rfl : 81 + 1 = 82) (xdt tt_X12_readsTarget 44 rfl) ?_
    refine g_iadd hC (rfl : 82 + 1 = 83) (xdt tt_X12_readsTarget 45 rfl) ?_
    obtain ⟨hi12, h⟩ := ckI_i h
    obtain ⟨S13, hS13, h⟩ := lt1_i h
    refine g_iast hC hk0 ly4_16 hi12 rfl hS13 (rfl : 83 + 1 = 84) (xdt tt_X12_readsTarget 46 rfl) ?_
    cases h
    exact g_vret hC hE (xdt tt_X12_readsTarget 47 rfl)
  · replace h := (if_neg hc16).symm.trans h
    refine g_iload_n hC rfl 0 rfl (rfl : 75 + 1 = 76) (xdt tt_X12_readsTarget 40 rfl) ?_
    refine g_ineg hC (rfl : 76 + 1 = 77) (xdt tt_X12_readsTarget 41 rfl) ?_
    refine g_goto hC (show ((77 : Nat) : Int) + 6 = ((83 : Nat) : Int) by decide) (xdt tt_X12_readsTarget 42 rfl) ?_
    obtain ⟨hi14, h⟩ := ckI_i h
    obtain ⟨S15, hS15, h⟩ := lt1_i h
    refine g_iast hC hk0 ly4_16 hi14 rfl hS15 (rfl : 83 + 1 = 84) (xdt tt_X12_readsTarget 46 rfl) ?_
    cases h
    exact g_vret hC hE (xdt tt_X12_readsTarget 47 rfl)
set_option maxRecDepth 100000 in
set_option maxHeartbeats 4000000 in
theorem k_X12_readsTarget_p4_0_b52 {K : xCtx} {E : xE} {b : Nat} (hC : xOK K cX12_readsTarget RX12 4 (rmE 10 b)) (hZ : xZ K) {S' : xSt} (hE : xEnd K E none (YQv E S')) {r0 : Nat} (hk0 : xkd E r0 = 4) : ∀ (S : xSt) (x1 : Int) (x2 : Int) (s0 : Int) (s1 : Int), f_X12_readsTarget_p4_0_b52 r0 S x1 x2 s0 s1 = some S' → WG K E 52 [(0, vr E r0 0), (1, vi x1), (2, vi x2)] [vi s0, vi s1, vr E r0 0] S := by
  intro S x1 x2 s0 s1 h
  unfold f_X12_readsTarget_p4_0_b52 at h
  obtain ⟨v19, S18, hc17, h⟩ := bd2_i h
  refine g_callVi hC hZ hk0 kclX12 ly4_0 m_X12_number q535 (Nat.le_of_ble_eq_true rfl) [vi s1, vi s0] rfl (fun l => c_X12_number_p4_0 l hk0 hc17) rfl (Nat.le_of_ble_eq_true rfl) (rfl : 52 + 3 = 55) (xdt tt_X12_readsTarget 28 rfl) ?_
  refine g_goto hC (show ((55 : Nat) : Int) + 10 = ((65 : Nat) : Int) by decide) (xdt tt_X12_readsTarget 29 rfl) ?_
  refine g_sub [0, 1, 2] (lv' := [(0, vr E r0 0), (1, vi x1), (2, vi x2)]) rfl ?_
  exact k_X12_readsTarget_p4_0_b65 hC hZ hE hk0 _ _ _ _ h
set_option maxRecDepth 100000 in
set_option maxHeartbeats 4000000 in
theorem k_X12_readsTarget_p4_0_b26 {K : xCtx} {E : xE} {b : Nat} (hC : xOK K cX12_readsTarget RX12 4 (rmE 10 b)) (hZ : xZ K) {S' : xSt} (hE : xEnd K E none (YQv E S')) {r0 : Nat} (hk0 : xkd E r0 = 4) : ∀ (S : xSt) (x1 : Int) (x2 : Int) (s0 : Int), f_X12_readsTarget_p4_0_b26 r0 S x1 x2 s0 = some S' → WG K E 26 [(0, vr E r0 0), (1, vi x1), (2, vi x2)] [vi s0, vr E r0 0] S := by
  intro S x1 x2 s0 h
  unfold f_X12_readsTarget_p4_0_b26 at h
  refine g_iconst hC (rfl : 26 + 1 = 27) (xdt tt_X12_readsTarget 14 rfl) ?_
  obtain ⟨S6, hc5, h⟩ := bd_i h
  refine g_callVv hC hZ hk0 kclX12 ly4_0 m_X12_needs q523 (Nat.le_of_ble_eq_true rfl) [vi s0, vi 1] rfl (fun l => c_X12_needs_p4_0 l hk0 hc5) rfl (Nat.le_of_ble_eq_true rfl) (rfl : 27 + 3 = 30) (xdt tt_X12_readsTarget 15 rfl) ?_
  refine g_aload_n hC rfl 0 rfl (rfl : 30 + 1 = 31) (xdt tt_X12_readsTarget 16 rfl) ?_
  obtain ⟨S8, hc7, h⟩ := bd_i h
  refine g_callVv hC hZ hk0 kclX12 ly4_0 m_X12_goOn q527 (Nat.le_of_ble_eq_true rfl) [] rfl (fun l => c_X12_goOn_p4_0 l hk0 hc7) rfl (Nat.le_of_ble_eq_true rfl) (rfl : 31 + 3 = 34) (xdt tt_X12_readsTarget 17 rfl) ?_
  refine g_iload_n hC rfl 2 rfl (rfl : 34 + 1 = 35) (xdt tt_X12_readsTarget 18 rfl) ?_
  refine g_if_eq hC (show ((35 : Nat) : Int) + 23 = ((58 : Nat) : Int) by decide) (rfl : 35 + 3 = 38) (xdt tt_X12_readsTarget 19 rfl) (fun hc21 => ?_) (fun hc21 => ?_)
  · replace h := (if_pos hc21).symm.trans h
    refine g_aload_n hC rfl 0 rfl (rfl : 58 + 1 = 59) (xdt tt_X12_readsTarget 30 rfl) ?_
    refine g_iconst hC (rfl : 59 + 1 = 60) (xdt tt_X12_readsTarget 31 rfl) ?_
    refine g_bipush hC (by decide) (rfl : 60 + 2 = 62) (xdt tt_X12_readsTarget 32 rfl) ?_
    obtain ⟨v11, S10, hc9, h⟩ := bd2_i h
    refine g_callVi hC hZ hk0 kclX12 ly4_0 m_X12_number q535 (Nat.le_of_ble_eq_true rfl) [vi 0, vi 9] rfl (fun l => c_X12_number_p4_0 l hk0 hc9) rfl (Nat.le_of_ble_eq_true rfl) (rfl : 62 + 3 = 65) (xdt tt_X12_readsTarget 33 rfl) ?_
    refine g_sub [0, 1, 2] (lv' := [(0, vr E r0 0), (1, vi x1), (2, vi x2)]) rfl ?_
    exact k_X12_readsTarget_p4_0_b65 hC hZ hE hk0 _ _ _ _ h
  · replace h := (if_neg hc21).symm.trans h
    refine g_aload_n hC rfl 0 rfl (rfl : 38 + 1 = 39) (xdt tt_X12_readsTarget 20 rfl) ?_
    refine g_iconst hC (rfl : 39 + 1 = 40) (xdt tt_X12_readsTarget 21 rfl) ?_
    refine g_iload_n hC rfl 1 rfl (rfl : 40 + 1 = 41) (xdt tt_X12_readsTarget 22 rfl) ?_
    refine g_bipush hC (by decide) (rfl : 41 + 2 = 43) (xdt tt_X12_readsTarget 23 rfl) ?_
    refine g_icmp_ge hC (show ((43 : Nat) : Int) + 7 = ((50 : Nat) : Int) by decide) (rfl : 43 + 3 = 46) (xdt tt_X12_readsTarget 24 rfl) (fun hc20 => ?_) (fun hc20 => ?_)
    · replace h := (if_pos hc20).symm.trans h
      refine g_bipush hC (by decide) (rfl : 50 + 2 = 52) (xdt tt_X12_readsTarget 27 rfl) ?_
      refine g_sub [0, 1, 2] (lv' := [(0, vr E r0 0), (1, vi x1), (2, vi x2)]) rfl ?_
      exact k_X12_readsTarget_p4_0_b52 hC hZ hE hk0 _ _ _ _ _ h
    · replace h := (if_neg hc20).symm.trans h
      refine g_iload_n hC rfl 1 rfl (rfl : 46 + 1 = 47) (xdt tt_X12_readsTarget 25 rfl) ?_
      refine g_goto hC (show ((47 : Nat) : Int) + 5 = ((52 : Nat) : Int) by decide) (xdt tt_X12_readsTarget 26 rfl) ?_
      refine g_sub [0, 1, 2] (lv' := [(0, vr E r0 0), (1, vi x1), (2, vi x2)]) rfl ?_
      exact k_X12_readsTarget_p4_0_b52 hC hZ hE hk0 _ _ _ _ _ h
set_option maxRecDepth 100000 in
set_option maxHeartbeats 4000000 in
theorem k_X12_readsTarget_p4_0_b21 {K : xCtx} {E : xE} {b : Nat} (hC : xOK K cX12_readsTarget RX12 4 (rmE 10 b)) (hZ : xZ K) {S' : xSt} (hE : xEnd K E none (YQv E S')) {r0 : Nat} (hk0 : xkd E r0 = 4) : ∀ (S : xSt) (x1 : Int) (x2 : Int), f_X12_readsTarget_p4_0_b21 r0 S x1 x2 = some S' → WG K E 21 [(0, vr E r0 0), (1, vi x1), (2, vi x2)] [vr E r0 0] S := by
  intro S x1 x2 h
  unfold f_X12_readsTarget_p4_0_b21 at h
  refine g_iconst hC (rfl : 21 + 1 = 22) (xdt tt_X12_readsTarget 11 rfl) ?_
  refine g_goto hC (show ((22 : Nat) : Int) + 4 = ((26 : Nat) : Int) by decide) (xdt tt_X12_readsTarget 12 rfl) ?_
  refine g_sub [0, 1, 2] (lv' := [(0, vr E r0 0), (1, vi x1), (2, vi x2)]) rfl ?_
  exact k_X12_readsTarget_p4_0_b26 hC hZ hE hk0 _ _ _ _ h
set_option maxRecDepth 100000 in
set_option maxHeartbeats 4000000 in
theorem c_X12_readsTarget_p4_0 (l : Launch) {E : xE} {S S' : xSt} {r0 : Nat} {a1 : Int} (hk0 : xkd E r0 = 4) (h : f_X12_readsTarget_p4_0 S r0 a1 = some S') : Met l yX12_readsTarget (xws yX12_readsTarget cX12_readsTarget 4 none) (rmD 10) (YPc E [vr E r0 0, vi a1] S) (YQv E S') 0 0 (xA E) := by
  unfold f_X12_readsTarget_p4_0 at h
  refine met_v (by decide +kernel) (Nat.le_of_ble_eq_true rfl) (fun K hC hZ hE => ?_)
  have hC : xOK K cX12_readsTarget RX12 4 (rmE 10 0) := hC
  show WG K E 0 [(0, vr E r0 0), (1, vi a1)] [] S
  refine g_aload_n hC rfl 0 rfl (rfl : 0 + 1 = 1) (xdt tt_X12_readsTarget 0 rfl) ?_
  refine g_bipush hC (by decide) (rfl : 1 + 2 = 3) (xdt tt_X12_readsTarget 1 rfl) ?_
  obtain ⟨v3, S2, hc1, h⟩ := bd2_i h
  refine g_callVz hC hZ hk0 kclX12 ly4_0 m_X12_isWord q515 (Nat.le_of_ble_eq_true rfl) [vi 20] rfl (fun l => c_X12_isWord_p4_0 l hk0 hc1) rfl (Nat.le_of_ble_eq_true rfl) (rfl : 3 + 3 = 6) (xdt tt_X12_readsTarget 2 rfl) (fun hb4 => ?_)
  refine g_istore_n hC rfl (by decide) (lv' := [(2, vi v3), (0, vr E r0 0), (1, vi a1)]) rfl (rfl : 6 + 1 = 7) (xdt tt_X12_readsTarget 3 rfl) ?_
  refine g_aload_n hC rfl 1 rfl (rfl : 7 + 1 = 8) (xdt tt_X12_readsTarget 4 rfl) ?_
  refine g_iload_n hC rfl 0 rfl (rfl : 8 + 1 = 9) (xdt tt_X12_readsTarget 5 rfl) ?_
  refine g_if_ne hC (show ((9 : Nat) : Int) + 12 = ((21 : Nat) : Int) by decide) (rfl : 9 + 3 = 12) (xdt tt_X12_readsTarget 6 rfl) (fun hc27 => ?_) (fun hc27 => ?_)
  · replace h := (if_pos hc27).symm.trans h
    refine g_sub [1, 2, 0] (lv' := [(0, vr E r0 0), (1, vi a1), (2, vi v3)]) rfl ?_
    exact k_X12_readsTarget_p4_0_b21 hC hZ hE hk0 _ _ _ h
  · replace h := (if_neg hc27).symm.trans h
    refine g_aload_n hC rfl 1 rfl (rfl : 12 + 1 = 13) (xdt tt_X12_readsTarget 7 rfl) ?_
    refine g_bipush hC (by decide) (rfl : 13 + 2 = 15) (xdt tt_X12_readsTarget 8 rfl) ?_
    obtain ⟨v24, S23, hc22, h⟩ := bd2_i h
    refine g_callVz hC hZ hk0 kclX12 ly4_0 m_X12_isWord q515 (Nat.le_of_ble_eq_true rfl) [vi 21] rfl (fun l => c_X12_isWord_p4_0 l hk0 hc22) rfl (Nat.le_of_ble_eq_true rfl) (rfl : 15 + 3 = 18) (xdt tt_X12_readsTarget 9 rfl) (fun hb25 => ?_)
    refine g_if_eq hC (show ((18 : Nat) : Int) + 7 = ((25 : Nat) : Int) by decide) (rfl : 18 + 3 = 21) (xdt tt_X12_readsTarget 10 rfl) (fun hc26 => ?_) (fun hc26 => ?_)
    · replace h := (if_pos hc26).symm.trans h
      refine g_iconst hC (rfl : 25 + 1 = 26) (xdt tt_X12_readsTarget 13 rfl) ?_
      refine g_sub [1, 2, 0] (lv' := [(0, vr E r0 0), (1, vi a1), (2, vi v3)]) rfl ?_
      exact k_X12_readsTarget_p4_0_b26 hC hZ hE hk0 _ _ _ _ h
    · replace h := (if_neg hc26).symm.trans h
      refine g_sub [1, 2, 0] (lv' := [(0, vr E r0 0), (1, vi a1), (2, vi v3)]) rfl ?_
      exact k_X12_readsTarget_p4_0_b21 hC hZ hE hk0 _ _ _ h
def f_X12_readsInstruction_p4_0_b143 (r0 : Nat) (S : xSt) (x1 : Int) : Option (xSt) :=
  bd2 (f_X12_fine_p4_0 S r0) fun v36 S35 =>
  if wr v36 = 0 then
    (some S35)
  else
    (lt1 (wI S35 r0 0 31 (x1 + 1)) fun S38 =>
    some S38)
def f_X12_readsInstruction_p4_0_b127 (r0 : Nat) (S : xSt) (x1 : Int) : Option (xSt) :=
  ckI x1 60 <|
  if ¬ wr (gI S r0 14 (wr x1).toNat) = wr 9 then
    (f_X12_readsInstruction_p4_0_b143 r0 S x1)
  else
    (bd (f_X12_readsTimes_p4_0 S r0 x1) fun S41 =>
    f_X12_readsInstruction_p4_0_b143 r0 S41 x1)
def f_X12_readsInstruction_p4_0_b66 (r0 : Nat) (S : xSt) (x1 : Int) : Option (xSt) :=
  bd2 (f_X12_isKindHere_p4_0 S r0) fun v16 S15 =>
  bd (f_X12_needs_p4_0 S15 r0 v16 1) fun S19 =>
  ckI x1 60 <|
  lt1 (wI S19 r0 14 (wr x1).toNat (gI S19 r0 0 26)) fun S21 =>
  bd (f_X12_goOn_p4_0 S21 r0) fun S23 =>
  ckI x1 60 <|
  lt1 (wI S23 r0 16 (wr x1).toNat 0) fun S25 =>
  ckI x1 60 <|
  lt1 (wI S25 r0 17 (wr x1).toNat 0) fun S27 =>
  bd2 (f_X12_fine_p4_0 S27 r0) fun v30 S29 =>
  if ¬ wr v30 = 0 then
    (ckI x1 60 <|
    if wr (gI S29 r0 14 (wr x1).toNat) < wr 8 then
      (f_X12_readsInstruction_p4_0_b127 r0 S29 x1)
    else
      (bd (f_X12_readsTarget_p4_0 S29 r0 x1) fun S44 =>
      f_X12_readsInstruction_p4_0_b127 r0 S44 x1))
  else
    (some S29)
def f_X12_readsInstruction_p4_0_b51 (r0 : Nat) (S : xSt) (x1 : Int) (s0 : Int) (s1 : Int) : Option (xSt) :=
  ckI s1 60 <|
  lt1 (wI S r0 15 (wr s1).toNat s0) fun S12 =>
  ckI x1 60 <|
  if ¬ wr (gI S12 r0 15 (wr x1).toNat) = wr 1 then
    (f_X12_readsInstruction_p4_0_b66 r0 S12 x1)
  else
    (bd (f_X12_goOn_p4_0 S12 r0) fun S48 =>
    f_X12_readsInstruction_p4_0_b66 r0 S48 x1)
def f_X12_readsInstruction_p4_0_b15 (r0 : Nat) (S : xSt) (s0 : Int) : Option (xSt) :=
  bd (f_X12_needs_p4_0 S r0 s0 4) fun S2 =>
  bd2 (f_X12_fine_p4_0 S2 r0) fun v5 S4 =>
  if ¬ wr v5 = 0 then
    (bd2 (f_X12_isWord_p4_0 S4 r0 18) fun v9 S8 =>
    if wr v9 = 0 then
      (f_X12_readsInstruction_p4_0_b51 r0 S8 (gI S4 r0 0 31) 0 (gI S4 r0 0 31))
    else
      (f_X12_readsInstruction_p4_0_b51 r0 S8 (gI S4 r0 0 31) 1 (gI S4 r0 0 31)))
  else
    (some S4)
def f_X12_readsInstruction_p4_0 (S : xSt) (r0 : Nat) : Option (xSt) :=
  if wr 60 ≤ wr (gI S r0 0 31) then
    (f_X12_readsInstruction_p4_0_b15 r0 S 0)
  else
    (f_X12_readsInstruction_p4_0_b15 r0 S 1)
set_option maxRecDepth 100000 in
set_option maxHeartbeats 4000000 in
theorem k_X12_readsInstruction_p4_0_b143 {K : xCtx} {E : xE} {b : Nat} (hC : xOK K cX12_readsInstruction RX12 2 (rmE 11 b)) (hZ : xZ K) {S' : xSt} (hE : xEnd K E none (YQv E S')) {r0 : Nat} (hk0 : xkd E r0 = 4) : ∀ (S : xSt) (x1 : Int), f_X12_readsInstruction_p4_0_b143 r0 S x1 = some S' → WG K E 143 [(0, vr E r0 0), (1, vi x1)] [] S := by
  intro S x1 h
  unfold f_X12_readsInstruction_p4_0_b143 at h
  refine g_aload_n hC rfl 0 rfl (rfl : 143 + 1 = 144) (xdt tt_X12_readsInstruction 81 rfl) ?_
  obtain ⟨v36, S35, hc34, h⟩ := bd2_i h
  refine g_callVz hC hZ hk0 kclX12 ly4_0 m_X12_fine q500 (Nat.le_of_ble_eq_true rfl) [] rfl (fun l => c_X12_fine_p4_0 l hk0 hc34) rfl (Nat.le_of_ble_eq_true rfl) (rfl : 144 + 3 = 147) (xdt tt_X12_readsInstruction 82 rfl) (fun hb37 => ?_)
  refine g_if_eq hC (show ((147 : Nat) : Int) + 10 = ((157 : Nat) : Int) by decide) (rfl : 147 + 3 = 150) (xdt tt_X12_readsInstruction 83 rfl) (fun hc39 => ?_) (fun hc39 => ?_)
  · replace h := (if_pos hc39).symm.trans h
    cases h
    exact g_vret hC hE (xdt tt_X12_readsInstruction 89 rfl)
  · replace h := (if_neg hc39).symm.trans h
    refine g_aload_n hC rfl 0 rfl (rfl : 150 + 1 = 151) (xdt tt_X12_readsInstruction 84 rfl) ?_
    refine g_iload_n hC rfl 1 rfl (rfl : 151 + 1 = 152) (xdt tt_X12_readsInstruction 85 rfl) ?_
    refine g_iconst hC (rfl : 152 + 1 = 153) (xdt tt_X12_readsInstruction 86 rfl) ?_
    refine g_iadd hC (rfl : 153 + 1 = 154) (xdt tt_X12_readsInstruction 87 rfl) ?_
    obtain ⟨S38, hS38, h⟩ := lt1_i h
    refine g_putI hC hk0 kclX12 ly4_0 31 (by decide) rfl rfl rfl q219 hS38 (rfl : 154 + 3 = 157) (xdt tt_X12_readsInstruction 88 rfl) ?_
    cases h
    exact g_vret hC hE (xdt tt_X12_readsInstruction 89 rfl)
set_option maxRecDepth 100000 in
set_option maxHeartbeats 4000000 in
theorem k_X12_readsInstruction_p4_0_b127 {K : xCtx} {E : xE} {b : Nat} (hC : xOK K cX12_readsInstruction RX12 2 (rmE 11 b)) (hZ : xZ K) {S' : xSt} (hE : xEnd K E none (YQv E S')) {r0 : Nat} (hk0 : xkd E r0 = 4) : ∀ (S : xSt) (x1 : Int), f_X12_readsInstruction_p4_0_b127 r0 S x1 = some S' → WG K E 127 [(0, vr E r0 0), (1, vi x1)] [] S := by
  intro S x1 h
  unfold f_X12_readsInstruction_p4_0_b127 at h
  refine g_aload_n hC rfl 0 rfl (rfl : 127 + 1 = 128) (xdt tt_X12_readsInstruction 72 rfl) ?_
  refine g_getP hC hk0 kclX12 ly4_0 36 (by decide) (rfl : r0 + 0 = r0) rfl q210 (rfl : 128 + 3 = 131) (xdt tt_X12_readsInstruction 73 rfl) ?_
  refine g_iload_n hC rfl 1 rfl (rfl : 131 + 1 = 132) (xdt tt_X12_readsInstruction 74 rfl) ?_
  obtain ⟨hi33, h⟩ := ckI_i h
  refine g_iald hC hk0 ly4_14 hi33 (rfl : 132 + 1 = 133) (xdt tt_X12_readsInstruction 75 rfl) (k0 := (wr x1).toNat) rfl ?_
  refine g_bipush hC (by decide) (rfl : 133 + 2 = 135) (xdt tt_X12_readsInstruction 76 rfl) ?_
  refine g_icmp_ne hC (show ((135 : Nat) : Int) + 8 = ((143 : Nat) : Int) by decide) (rfl : 135 + 3 = 138) (xdt tt_X12_readsInstruction 77 rfl) (fun hc42 => ?_) (fun hc42 => ?_)
  · replace h := (if_pos hc42).symm.trans h
    refine g_sub [0, 1] (lv' := [(0, vr E r0 0), (1, vi x1)]) rfl ?_
    exact k_X12_readsInstruction_p4_0_b143 hC hZ hE hk0 _ _ h
  · replace h := (if_neg hc42).symm.trans h
    refine g_aload_n hC rfl 0 rfl (rfl : 138 + 1 = 139) (xdt tt_X12_readsInstruction 78 rfl) ?_
    refine g_iload_n hC rfl 1 rfl (rfl : 139 + 1 = 140) (xdt tt_X12_readsInstruction 79 rfl) ?_
    obtain ⟨S41, hc40, h⟩ := bd_i h
    refine g_callVv hC hZ hk0 kclX12 ly4_0 m_X12_readsTimes q539 (Nat.le_of_ble_eq_true rfl) [vi x1] rfl (fun l => c_X12_readsTimes_p4_0 l hk0 hc40) rfl (Nat.le_of_ble_eq_true rfl) (rfl : 140 + 3 = 143) (xdt tt_X12_readsInstruction 80 rfl) ?_
    refine g_sub [0, 1] (lv' := [(0, vr E r0 0), (1, vi x1)]) rfl ?_
    exact k_X12_readsInstruction_p4_0_b143 hC hZ hE hk0 _ _ h
set_option maxRecDepth 100000 in
set_option maxHeartbeats 4000000 in
theorem k_X12_readsInstruction_p4_0_b66 {K : xCtx} {E : xE} {b : Nat} (hC : xOK K cX12_readsInstruction RX12 2 (rmE 11 b)) (hZ : xZ K) {S' : xSt} (hE : xEnd K E none (YQv E S')) {r0 : Nat} (hk0 : xkd E r0 = 4) : ∀ (S : xSt) (x1 : Int), f_X12_readsInstruction_p4_0_b66 r0 S x1 = some S' → WG K E 66 [(0, vr E r0 0), (1, vi x1)] [] S := by
  intro S x1 h
  unfold f_X12_readsInstruction_p4_0_b66 at h
  refine g_aload_n hC rfl 0 rfl (rfl : 66 + 1 = 67) (xdt tt_X12_readsInstruction 36 rfl) ?_
  refine g_aload_n hC rfl 0 rfl (rfl : 67 + 1 = 68) (xdt tt_X12_readsInstruction 37 rfl) ?_
  obtain ⟨v16, S15, hc14, h⟩ := bd2_i h
  refine g_callVz hC hZ hk0 kclX12 ly4_0 m_X12_isKindHere q510 (Nat.le_of_ble_eq_true rfl) [] rfl (fun l => c_X12_isKindHere_p4_0 l hk0 hc14) rfl (Nat.le_of_ble_eq_true rfl) (rfl : 68 + 3 = 71) (xdt tt_X12_readsInstruction 38 rfl) (fun hb17 => ?_)
  refine g_iconst hC (rfl : 71 + 1 = 72) (xdt tt_X12_readsInstruction 39 rfl) ?_
  obtain ⟨S19, hc18, h⟩ := bd_i h
  refine g_callVv hC hZ hk0 kclX12 ly4_0 m_X12_needs q523 (Nat.le_of_ble_eq_true rfl) [vi v16, vi 1] rfl (fun l => c_X12_needs_p4_0 l hk0 hc18) rfl (Nat.le_of_ble_eq_true rfl) (rfl : 72 + 3 = 75) (xdt tt_X12_readsInstruction 40 rfl) ?_
  refine g_aload_n hC rfl 0 rfl (rfl : 75 + 1 = 76) (xdt tt_X12_readsInstruction 41 rfl) ?_
  refine g_getP hC hk0 kclX12 ly4_0 36 (by decide) (rfl : r0 + 0 = r0) rfl q210 (rfl : 76 + 3 = 79) (xdt tt_X12_readsInstruction 42 rfl) ?_
  refine g_iload_n hC rfl 1 rfl (rfl : 79 + 1 = 80) (xdt tt_X12_readsInstruction 43 rfl) ?_
  refine g_aload_n hC rfl 0 rfl (rfl : 80 + 1 = 81) (xdt tt_X12_readsInstruction 44 rfl) ?_
  refine g_getI hC hk0 kclX12 ly4_0 26 (by decide) rfl q485 (rfl : 81 + 3 = 84) (xdt tt_X12_readsInstruction 45 rfl) ?_
  obtain ⟨hi20, h⟩ := ckI_i h
  obtain ⟨S21, hS21, h⟩ := lt1_i h
  refine g_iast hC hk0 ly4_14 hi20 rfl hS21 (rfl : 84 + 1 = 85) (xdt tt_X12_readsInstruction 46 rfl) ?_
  refine g_aload_n hC rfl 0 rfl (rfl : 85 + 1 = 86) (xdt tt_X12_readsInstruction 47 rfl) ?_
  obtain ⟨S23, hc22, h⟩ := bd_i h
  refine g_callVv hC hZ hk0 kclX12 ly4_0 m_X12_goOn q527 (Nat.le_of_ble_eq_true rfl) [] rfl (fun l => c_X12_goOn_p4_0 l hk0 hc22) rfl (Nat.le_of_ble_eq_true rfl) (rfl : 86 + 3 = 89) (xdt tt_X12_readsInstruction 48 rfl) ?_
  refine g_aload_n hC rfl 0 rfl (rfl : 89 + 1 = 90) (xdt tt_X12_readsInstruction 49 rfl) ?_
  refine g_getP hC hk0 kclX12 ly4_0 38 (by decide) (rfl : r0 + 0 = r0) rfl q212 (rfl : 90 + 3 = 93) (xdt tt_X12_readsInstruction 50 rfl) ?_
  refine g_iload_n hC rfl 1 rfl (rfl : 93 + 1 = 94) (xdt tt_X12_readsInstruction 51 rfl) ?_
  refine g_iconst hC (rfl : 94 + 1 = 95) (xdt tt_X12_readsInstruction 52 rfl) ?_
  obtain ⟨hi24, h⟩ := ckI_i h
  obtain ⟨S25, hS25, h⟩ := lt1_i h
  refine g_iast hC hk0 ly4_16 hi24 rfl hS25 (rfl : 95 + 1 = 96) (xdt tt_X12_readsInstruction 53 rfl) ?_
  refine g_aload_n hC rfl 0 rfl (rfl : 96 + 1 = 97) (xdt tt_X12_readsInstruction 54 rfl) ?_
  refine g_getP hC hk0 kclX12 ly4_0 39 (by decide) (rfl : r0 + 0 = r0) rfl q213 (rfl : 97 + 3 = 100) (xdt tt_X12_readsInstruction 55 rfl) ?_
  refine g_iload_n hC rfl 1 rfl (rfl : 100 + 1 = 101) (xdt tt_X12_readsInstruction 56 rfl) ?_
  refine g_iconst hC (rfl : 101 + 1 = 102) (xdt tt_X12_readsInstruction 57 rfl) ?_
  obtain ⟨hi26, h⟩ := ckI_i h
  obtain ⟨S27, hS27, h⟩ := lt1_i h
  refine g_iast hC hk0 ly4_17 hi26 rfl hS27 (rfl : 102 + 1 = 103) (xdt tt_X12_readsInstruction 58 rfl) ?_
  refine g_aload_n hC rfl 0 rfl (rfl : 103 + 1 = 104) (xdt tt_X12_readsInstruction 59 rfl) ?_
  obtain ⟨v30, S29, hc28, h⟩ := bd2_i h
  refine g_callVz hC hZ hk0 kclX12 ly4_0 m_X12_fine q500 (Nat.le_of_ble_eq_true rfl) [] rfl (fun l => c_X12_fine_p4_0 l hk0 hc28) rfl (Nat.le_of_ble_eq_true rfl) (rfl : 104 + 3 = 107) (xdt tt_X12_readsInstruction 60 rfl) (fun hb31 => ?_)
  refine g_if_ne hC (show ((107 : Nat) : Int) + 4 = ((111 : Nat) : Int) by decide) (rfl : 107 + 3 = 110) (xdt tt_X12_readsInstruction 61 rfl) (fun hc46 => ?_) (fun hc46 => ?_)
  · replace h := (if_pos hc46).symm.trans h
    refine g_aload_n hC rfl 0 rfl (rfl : 111 + 1 = 112) (xdt tt_X12_readsInstruction 63 rfl) ?_
    refine g_getP hC hk0 kclX12 ly4_0 36 (by decide) (rfl : r0 + 0 = r0) rfl q210 (rfl : 112 + 3 = 115) (xdt tt_X12_readsInstruction 64 rfl) ?_
    refine g_iload_n hC rfl 1 rfl (rfl : 115 + 1 = 116) (xdt tt_X12_readsInstruction 65 rfl) ?_
    obtain ⟨hi32, h⟩ := ckI_i h
    refine g_iald hC hk0 ly4_14 hi32 (rfl : 116 + 1 = 117) (xdt tt_X12_readsInstruction 66 rfl) (k0 := (wr x1).toNat) rfl ?_
    refine g_bipush hC (by decide) (rfl : 117 + 2 = 119) (xdt tt_X12_readsInstruction 67 rfl) ?_
    refine g_icmp_lt hC (show ((119 : Nat) : Int) + 8 = ((127 : Nat) : Int) by decide) (rfl : 119 + 3 = 122) (xdt tt_X12_readsInstruction 68 rfl) (fun hc45 => ?_) (fun hc45 => ?_)
    · replace h := (if_pos hc45).symm.trans h
      refine g_sub [0, 1] (lv' := [(0, vr E r0 0), (1, vi x1)]) rfl ?_
      exact k_X12_readsInstruction_p4_0_b127 hC hZ hE hk0 _ _ h
    · replace h := (if_neg hc45).symm.trans h
      refine g_aload_n hC rfl 0 rfl (rfl : 122 + 1 = 123) (xdt tt_X12_readsInstruction 69 rfl) ?_
      refine g_iload_n hC rfl 1 rfl (rfl : 123 + 1 = 124) (xdt tt_X12_readsInstruction 70 rfl) ?_
      obtain ⟨S44, hc43, h⟩ := bd_i h
      refine g_callVv hC hZ hk0 kclX12 ly4_0 m_X12_readsTarget q531 (Nat.le_of_ble_eq_true rfl) [vi x1] rfl (fun l => c_X12_readsTarget_p4_0 l hk0 hc43) rfl (Nat.le_of_ble_eq_true rfl) (rfl : 124 + 3 = 127) (xdt tt_X12_readsInstruction 71 rfl) ?_
      refine g_sub [0, 1] (lv' := [(0, vr E r0 0), (1, vi x1)]) rfl ?_
      exact k_X12_readsInstruction_p4_0_b127 hC hZ hE hk0 _ _ h
  · replace h := (if_neg hc46).symm.trans h
    cases h
    exact g_vret hC hE (xdt tt_X12_readsInstruction 62 rfl)
set_option maxRecDepth 100000 in
set_option maxHeartbeats 4000000 in
theorem k_X12_readsInstruction_p4_0_b51 {K : xCtx} {E : xE} {b : Nat} (hC : xOK K cX12_readsInstruction RX12 2 (rmE 11 b)) (hZ : xZ K) {S' : xSt} (hE : xEnd K E none (YQv E S')) {r0 : Nat} (hk0 : xkd E r0 = 4) : ∀ (S : xSt) (x1 : Int) (s0 : Int) (s1 : Int), f_X12_readsInstruction_p4_0_b51 r0 S x1 s0 s1 = some S' → WG K E 51 [(0, vr E r0 0), (1, vi x1)] [vi s0, vi s1, vr E r0 15] S := by
  intro S x1 s0 s1 h
  unfold f_X12_readsInstruction_p4_0_b51 at h
  obtain ⟨hi11, h⟩ := ckI_i h
  obtain ⟨S12, hS12, h⟩ := lt1_i h
  refine g_iast hC hk0 ly4_15 hi11 rfl hS12 (rfl : 51 + 1 = 52) (xdt tt_X12_readsInstruction 27 rfl) ?_
  refine g_aload_n hC rfl 0 rfl (rfl : 52 + 1 = 53) (xdt tt_X12_readsInstruction 28 rfl) ?_
  refine g_getP hC hk0 kclX12 ly4_0 37 (by decide) (rfl : r0 + 0 = r0) rfl q211 (rfl : 53 + 3 = 56) (xdt tt_X12_readsInstruction 29 rfl) ?_
  refine g_iload_n hC rfl 1 rfl (rfl : 56 + 1 = 57) (xdt tt_X12_readsInstruction 30 rfl) ?_
  obtain ⟨hi13, h⟩ := ckI_i h
  refine g_iald hC hk0 ly4_15 hi13 (rfl : 57 + 1 = 58) (xdt tt_X12_readsInstruction 31 rfl) (k0 := (wr x1).toNat) rfl ?_
  refine g_iconst hC (rfl : 58 + 1 = 59) (xdt tt_X12_readsInstruction 32 rfl) ?_
  refine g_icmp_ne hC (show ((59 : Nat) : Int) + 7 = ((66 : Nat) : Int) by decide) (rfl : 59 + 3 = 62) (xdt tt_X12_readsInstruction 33 rfl) (fun hc49 => ?_) (fun hc49 => ?_)
  · replace h := (if_pos hc49).symm.trans h
    refine g_sub [0, 1] (lv' := [(0, vr E r0 0), (1, vi x1)]) rfl ?_
    exact k_X12_readsInstruction_p4_0_b66 hC hZ hE hk0 _ _ h
  · replace h := (if_neg hc49).symm.trans h
    refine g_aload_n hC rfl 0 rfl (rfl : 62 + 1 = 63) (xdt tt_X12_readsInstruction 34 rfl) ?_
    obtain ⟨S48, hc47, h⟩ := bd_i h
    refine g_callVv hC hZ hk0 kclX12 ly4_0 m_X12_goOn q527 (Nat.le_of_ble_eq_true rfl) [] rfl (fun l => c_X12_goOn_p4_0 l hk0 hc47) rfl (Nat.le_of_ble_eq_true rfl) (rfl : 63 + 3 = 66) (xdt tt_X12_readsInstruction 35 rfl) ?_
    refine g_sub [0, 1] (lv' := [(0, vr E r0 0), (1, vi x1)]) rfl ?_
    exact k_X12_readsInstruction_p4_0_b66 hC hZ hE hk0 _ _ h
set_option maxRecDepth 100000 in
set_option maxHeartbeats 4000000 in
theorem k_X12_readsInstruction_p4_0_b15 {K : xCtx} {E : xE} {b : Nat} (hC : xOK K cX12_readsInstruction RX12 2 (rmE 11 b)) (hZ : xZ K) {S' : xSt} (hE : xEnd K E none (YQv E S')) {r0 : Nat} (hk0 : xkd E r0 = 4) : ∀ (S : xSt) (s0 : Int), f_X12_readsInstruction_p4_0_b15 r0 S s0 = some S' → WG K E 15 [(0, vr E r0 0)] [vi s0, vr E r0 0] S := by
  intro S s0 h
  unfold f_X12_readsInstruction_p4_0_b15 at h
  refine g_iconst hC (rfl : 15 + 1 = 16) (xdt tt_X12_readsInstruction 8 rfl) ?_
  obtain ⟨S2, hc1, h⟩ := bd_i h
  refine g_callVv hC hZ hk0 kclX12 ly4_0 m_X12_needs q523 (Nat.le_of_ble_eq_true rfl) [vi s0, vi 4] rfl (fun l => c_X12_needs_p4_0 l hk0 hc1) rfl (Nat.le_of_ble_eq_true rfl) (rfl : 16 + 3 = 19) (xdt tt_X12_readsInstruction 9 rfl) ?_
  refine g_aload_n hC rfl 0 rfl (rfl : 19 + 1 = 20) (xdt tt_X12_readsInstruction 10 rfl) ?_
  obtain ⟨v5, S4, hc3, h⟩ := bd2_i h
  refine g_callVz hC hZ hk0 kclX12 ly4_0 m_X12_fine q500 (Nat.le_of_ble_eq_true rfl) [] rfl (fun l => c_X12_fine_p4_0 l hk0 hc3) rfl (Nat.le_of_ble_eq_true rfl) (rfl : 20 + 3 = 23) (xdt tt_X12_readsInstruction 11 rfl) (fun hb6 => ?_)
  refine g_if_ne hC (show ((23 : Nat) : Int) + 4 = ((27 : Nat) : Int) by decide) (rfl : 23 + 3 = 26) (xdt tt_X12_readsInstruction 12 rfl) (fun hc51 => ?_) (fun hc51 => ?_)
  · replace h := (if_pos hc51).symm.trans h
    refine g_aload_n hC rfl 0 rfl (rfl : 27 + 1 = 28) (xdt tt_X12_readsInstruction 14 rfl) ?_
    refine g_getI hC hk0 kclX12 ly4_0 31 (by decide) rfl q219 (rfl : 28 + 3 = 31) (xdt tt_X12_readsInstruction 15 rfl) ?_
    refine g_istore_n hC rfl (by decide) (lv' := [(1, vi (gI S4 r0 0 31)), (0, vr E r0 0)]) rfl (rfl : 31 + 1 = 32) (xdt tt_X12_readsInstruction 16 rfl) ?_
    refine g_aload_n hC rfl 1 rfl (rfl : 32 + 1 = 33) (xdt tt_X12_readsInstruction 17 rfl) ?_
    refine g_getP hC hk0 kclX12 ly4_0 37 (by decide) (rfl : r0 + 0 = r0) rfl q211 (rfl : 33 + 3 = 36) (xdt tt_X12_readsInstruction 18 rfl) ?_
    refine g_iload_n hC rfl 0 rfl (rfl : 36 + 1 = 37) (xdt tt_X12_readsInstruction 19 rfl) ?_
    refine g_aload_n hC rfl 1 rfl (rfl : 37 + 1 = 38) (xdt tt_X12_readsInstruction 20 rfl) ?_
    refine g_bipush hC (by decide) (rfl : 38 + 2 = 40) (xdt tt_X12_readsInstruction 21 rfl) ?_
    obtain ⟨v9, S8, hc7, h⟩ := bd2_i h
    refine g_callVz hC hZ hk0 kclX12 ly4_0 m_X12_isWord q515 (Nat.le_of_ble_eq_true rfl) [vi 18] rfl (fun l => c_X12_isWord_p4_0 l hk0 hc7) rfl (Nat.le_of_ble_eq_true rfl) (rfl : 40 + 3 = 43) (xdt tt_X12_readsInstruction 22 rfl) (fun hb10 => ?_)
    refine g_if_eq hC (show ((43 : Nat) : Int) + 7 = ((50 : Nat) : Int) by decide) (rfl : 43 + 3 = 46) (xdt tt_X12_readsInstruction 23 rfl) (fun hc50 => ?_) (fun hc50 => ?_)
    · replace h := (if_pos hc50).symm.trans h
      refine g_iconst hC (rfl : 50 + 1 = 51) (xdt tt_X12_readsInstruction 26 rfl) ?_
      refine g_sub [1, 0] (lv' := [(0, vr E r0 0), (1, vi (gI S4 r0 0 31))]) rfl ?_
      exact k_X12_readsInstruction_p4_0_b51 hC hZ hE hk0 _ _ _ _ h
    · replace h := (if_neg hc50).symm.trans h
      refine g_iconst hC (rfl : 46 + 1 = 47) (xdt tt_X12_readsInstruction 24 rfl) ?_
      refine g_goto hC (show ((47 : Nat) : Int) + 4 = ((51 : Nat) : Int) by decide) (xdt tt_X12_readsInstruction 25 rfl) ?_
      refine g_sub [1, 0] (lv' := [(0, vr E r0 0), (1, vi (gI S4 r0 0 31))]) rfl ?_
      exact k_X12_readsInstruction_p4_0_b51 hC hZ hE hk0 _ _ _ _ h
  · replace h := (if_neg hc51).symm.trans h
    cases h
    exact g_vret hC hE (xdt tt_X12_readsInstruction 13 rfl)
set_option maxRecDepth 100000 in
set_option maxHeartbeats 4000000 in
theorem c_X12_readsInstruction_p4_0 (l : Launch) {E : xE} {S S' : xSt} {r0 : Nat} (hk0 : xkd E r0 = 4) (h : f_X12_readsInstruction_p4_0 S r0 = some S') : Met l yX12_readsInstruction (xws yX12_readsInstruction cX12_readsInstruction 2 none) (rmD 11) (YPc E [vr E r0 0] S) (YQv E S') 0 0 (xA E) := by
  unfold f_X12_readsInstruction_p4_0 at h
  refine met_v (by decide +kernel) (Nat.le_of_ble_eq_true rfl) (fun K hC hZ hE => ?_)
  have hC : xOK K cX12_readsInstruction RX12 2 (rmE 11 0) := hC
  show WG K E 0 [(0, vr E r0 0)] [] S
  refine g_aload_n hC rfl 0 rfl (rfl : 0 + 1 = 1) (xdt tt_X12_readsInstruction 0 rfl) ?_
  refine g_aload_n hC rfl 0 rfl (rfl : 1 + 1 = 2) (xdt tt_X12_readsInstruction 1 rfl) ?_
  refine g_getI hC hk0 kclX12 ly4_0 31 (by decide) rfl q219 (rfl : 2 + 3 = 5) (xdt tt_X12_readsInstruction 2 rfl) ?_
  refine g_bipush hC (by decide) (rfl : 5 + 2 = 7) (xdt tt_X12_readsInstruction 3 rfl) ?_
  refine g_icmp_ge hC (show ((7 : Nat) : Int) + 7 = ((14 : Nat) : Int) by decide) (rfl : 7 + 3 = 10) (xdt tt_X12_readsInstruction 4 rfl) (fun hc52 => ?_) (fun hc52 => ?_)
  · replace h := (if_pos hc52).symm.trans h
    refine g_iconst hC (rfl : 14 + 1 = 15) (xdt tt_X12_readsInstruction 7 rfl) ?_
    refine g_sub [0] (lv' := [(0, vr E r0 0)]) rfl ?_
    exact k_X12_readsInstruction_p4_0_b15 hC hZ hE hk0 _ _ h
  · replace h := (if_neg hc52).symm.trans h
    refine g_iconst hC (rfl : 10 + 1 = 11) (xdt tt_X12_readsInstruction 5 rfl) ?_
    refine g_goto hC (show ((11 : Nat) : Int) + 4 = ((15 : Nat) : Int) by decide) (xdt tt_X12_readsInstruction 6 rfl) ?_
    refine g_sub [0] (lv' := [(0, vr E r0 0)]) rfl ?_
    exact k_X12_readsInstruction_p4_0_b15 hC hZ hE hk0 _ _ h
def f_X12_readsRepeat_p4_0_b107 (cst : xSt → Nat → Int → Option xSt) (r0 : Nat) : Nat → xSt → Int → Int → Int → Int → Option (xSt)
  | 0, _, _, _, _, _ => none
  | fuel + 1, S, x2, x3, x4, x5 =>
    if wr (x3 + (x4 * x2)) ≤ wr x5 then
      (lt1 (wI S r0 0 31 (x3 + (x4 * x2))) fun S20 =>
      bd (f_X12_goOn_p4_0 S20 r0) fun S22 =>
      some S22)
    else
      (ckI (x5 - x4) 60 <|
      ckI x5 60 <|
      lt1 (wI S r0 14 (wr x5).toNat (gI S r0 14 (wr (x5 - x4)).toNat)) fun S25 =>
      ckI (x5 - x4) 60 <|
      ckI x5 60 <|
      lt1 (wI S25 r0 15 (wr x5).toNat (gI S25 r0 15 (wr (x5 - x4)).toNat)) fun S28 =>
      ckI (x5 - x4) 60 <|
      ckI x5 60 <|
      lt1 (wI S28 r0 16 (wr x5).toNat (gI S28 r0 16 (wr (x5 - x4)).toNat)) fun S31 =>
      ckI (x5 - x4) 60 <|
      ckI x5 60 <|
      lt1 (wI S31 r0 17 (wr x5).toNat (gI S31 r0 17 (wr (x5 - x4)).toNat)) fun S34 =>
      (f_X12_readsRepeat_p4_0_b107 cst r0 fuel) S34 x2 x3 x4 (x5 + 1))
def f_X12_readsRepeat_p4_0_b89 (cst : xSt → Nat → Int → Option xSt) (r0 : Nat) (S : xSt) (x2 : Int) (x3 : Int) (x4 : Int) (s0 : Int) : Option (xSt) :=
  bd (f_X12_needs_p4_0 S r0 s0 4) fun S15 =>
  bd2 (f_X12_fine_p4_0 S15 r0) fun v18 S17 =>
  if ¬ wr v18 = 0 then
    (f_X12_readsRepeat_p4_0_b107 cst r0 (fu S17) S17 x2 x3 x4 (x3 + x4))
  else
    (some S17)
def f_X12_readsRepeat_p4_0_b64 (cst : xSt → Nat → Int → Option xSt) (r0 : Nat) (S : xSt) (x2 : Int) (x3 : Int) : Option (xSt) :=
  if wr 60 < wr (x3 + (((gI S r0 0 31) - x3) * x2)) then
    (f_X12_readsRepeat_p4_0_b89 cst r0 S x2 x3 ((gI S r0 0 31) - x3) 0)
  else
    (f_X12_readsRepeat_p4_0_b89 cst r0 S x2 x3 ((gI S r0 0 31) - x3) 1)
def f_X12_readsRepeat_p4_0_b38 (cst : xSt → Nat → Int → Option xSt) (r0 : Nat) : Nat → xSt → Int → Int → Int → Option (xSt)
  | 0, _, _, _, _ => none
  | fuel + 1, S, x1, x2, x3 =>
    bd2 (f_X12_fine_p4_0 S r0) fun v12 S11 =>
    if wr v12 = 0 then
      (f_X12_readsRepeat_p4_0_b64 cst r0 S11 x2 x3)
    else
      (bd2 (f_X12_isSign_p4_0 S11 r0 41) fun v40 S39 =>
      if ¬ wr v40 = 0 then
        (f_X12_readsRepeat_p4_0_b64 cst r0 S39 x2 x3)
      else
        (bd (cst S39 r0 (x1 + 1)) fun S43 =>
        (f_X12_readsRepeat_p4_0_b38 cst r0 fuel) S43 x1 x2 x3))
def f_X12_readsRepeat_p4_0_b11 (cst : xSt → Nat → Int → Option xSt) (r0 : Nat) (S : xSt) (x1 : Int) (s0 : Int) : Option (xSt) :=
  bd (f_X12_needs_p4_0 S r0 s0 4) fun S2 =>
  bd (f_X12_goOn_p4_0 S2 r0) fun S4 =>
  bd2 (f_X12_number_p4_0 S4 r0 1 9) fun v7 S6 =>
  bd (f_X12_needsSign_p4_0 S6 r0 40) fun S9 =>
  f_X12_readsRepeat_p4_0_b38 cst r0 (fu S9) S9 x1 v7 (gI S9 r0 0 31)
def f_X12_readsRepeat_p4_0 (cst : xSt → Nat → Int → Option xSt) (S : xSt) (r0 : Nat) (a1 : Int) : Option (xSt) :=
  if wr 2 ≤ wr a1 then
    (f_X12_readsRepeat_p4_0_b11 cst r0 S a1 0)
  else
    (f_X12_readsRepeat_p4_0_b11 cst r0 S a1 1)
set_option maxRecDepth 100000 in
set_option maxHeartbeats 4000000 in
theorem k_X12_readsRepeat_p4_0_b107 {K : xCtx} {E : xE} {b : Nat} {d : Nat} (hC : xOK K cX12_readsRepeat RX12 6 (rmE (12 + 2 * d + 1) b)) (hZ : xZ K) {S' : xSt} (hE : xEnd K E none (YQv E S')) {cst : xSt → Nat → Int → Option xSt} (hcst : ∀ (l : Launch) {S S' : xSt} {r0 : Nat} {a1 : Int} (hk0 : xkd E r0 = 4), cst S r0 a1 = some S' → Met l yX12_statement (xws yX12_statement cX12_statement 2 none) (rmD (12 + 2 * d)) (YPc E [vr E r0 0, vi a1] S) (YQv E S') 0 0 (xA E)) {r0 : Nat} (hk0 : xkd E r0 = 4) : ∀ (fuel : Nat) (S : xSt) (x2 : Int) (x3 : Int) (x4 : Int) (x5 : Int), f_X12_readsRepeat_p4_0_b107 cst r0 fuel S x2 x3 x4 x5 = some S' → WG K E 107 [(0, vr E r0 0), (2, vi x2), (3, vi x3), (4, vi x4), (5, vi x5)] [] S := by
  intro fuel
  induction fuel with
  | zero => intro S x2 x3 x4 x5 h; cases h
  | succ fuel ih =>
    intro S x2 x3 x4 x5 h
    rw [f_X12_readsRepeat_p4_0_b107] at h
    refine g_iload hC 4 rfl (rfl : 107 + 2 = 109) (xdt tt_X12_readsRepeat 61 rfl) ?_
    refine g_iload_n hC rfl 2 rfl (rfl : 109 + 1 = 110) (xdt tt_X12_readsRepeat 62 rfl) ?_
    refine g_iload hC 3 rfl (rfl : 110 + 2 = 112) (xdt tt_X12_readsRepeat 63 rfl) ?_
    refine g_iload_n hC rfl 1 rfl (rfl : 112 + 1 = 113) (xdt tt_X12_readsRepeat 64 rfl) ?_
    refine g_imul hC (rfl : 113 + 1 = 114) (xdt tt_X12_readsRepeat 65 rfl) ?_
    refine g_iadd hC (rfl : 114 + 1 = 115) (xdt tt_X12_readsRepeat 66 rfl) ?_
    refine g_icmp_ge hC (show ((115 : Nat) : Int) + 77 = ((192 : Nat) : Int) by decide) (rfl : 115 + 3 = 118) (xdt tt_X12_readsRepeat 67 rfl) (fun hc35 => ?_) (fun hc35 => ?_)
    · replace h := (if_pos hc35).symm.trans h
      refine g_aload_n hC rfl 0 rfl (rfl : 192 + 1 = 193) (xdt tt_X12_readsRepeat 110 rfl) ?_
      refine g_iload_n hC rfl 2 rfl (rfl : 193 + 1 = 194) (xdt tt_X12_readsRepeat 111 rfl) ?_
      refine g_iload hC 3 rfl (rfl : 194 + 2 = 196) (xdt tt_X12_readsRepeat 112 rfl) ?_
      refine g_iload_n hC rfl 1 rfl (rfl : 196 + 1 = 197) (xdt tt_X12_readsRepeat 113 rfl) ?_
      refine g_imul hC (rfl : 197 + 1 = 198) (xdt tt_X12_readsRepeat 114 rfl) ?_
      refine g_iadd hC (rfl : 198 + 1 = 199) (xdt tt_X12_readsRepeat 115 rfl) ?_
      obtain ⟨S20, hS20, h⟩ := lt1_i h
      refine g_putI hC hk0 kclX12 ly4_0 31 (by decide) rfl rfl rfl q219 hS20 (rfl : 199 + 3 = 202) (xdt tt_X12_readsRepeat 116 rfl) ?_
      refine g_aload_n hC rfl 0 rfl (rfl : 202 + 1 = 203) (xdt tt_X12_readsRepeat 117 rfl) ?_
      obtain ⟨S22, hc21, h⟩ := bd_i h
      refine g_callVv hC hZ hk0 kclX12 ly4_0 m_X12_goOn q527 (by omega) [] rfl (fun l => c_X12_goOn_p4_0 l hk0 hc21) rfl (Nat.le_of_ble_eq_true rfl) (rfl : 203 + 3 = 206) (xdt tt_X12_readsRepeat 118 rfl) ?_
      cases h
      exact g_vret hC hE (xdt tt_X12_readsRepeat 119 rfl)
    · replace h := (if_neg hc35).symm.trans h
      refine g_aload_n hC rfl 0 rfl (rfl : 118 + 1 = 119) (xdt tt_X12_readsRepeat 68 rfl) ?_
      refine g_getP hC hk0 kclX12 ly4_0 36 (by decide) (rfl : r0 + 0 = r0) rfl q210 (rfl : 119 + 3 = 122) (xdt tt_X12_readsRepeat 69 rfl) ?_
      refine g_iload hC 4 rfl (rfl : 122 + 2 = 124) (xdt tt_X12_readsRepeat 70 rfl) ?_
      refine g_aload_n hC rfl 0 rfl (rfl : 124 + 1 = 125) (xdt tt_X12_readsRepeat 71 rfl) ?_
      refine g_getP hC hk0 kclX12 ly4_0 36 (by decide) (rfl : r0 + 0 = r0) rfl q210 (rfl : 125 + 3 = 128) (xdt tt_X12_readsRepeat 72 rfl) ?_
      refine g_iload hC 4 rfl (rfl : 128 + 2 = 130) (xdt tt_X12_readsRepeat 73 rfl) ?_
      refine g_iload hC 3 rfl (rfl : 130 + 2 = 132) (xdt tt_X12_readsRepeat 74 rfl) ?_
      refine g_isub hC (rfl : 132 + 1 = 133) (xdt tt_X12_readsRepeat 75 rfl) ?_
      obtain ⟨hi23, h⟩ := ckI_i h
      refine g_iald hC hk0 ly4_14 hi23 (rfl : 133 + 1 = 134) (xdt tt_X12_readsRepeat 76 rfl) (k0 := (wr (x5 - x4)).toNat) rfl ?_
      obtain ⟨hi24, h⟩ := ckI_i h
      obtain ⟨S25, hS25, h⟩ := lt1_i h
      refine g_iast hC hk0 ly4_14 hi24 rfl hS25 (rfl : 134 + 1 = 135) (xdt tt_X12_readsRepeat 77 rfl) ?_
      refine g_aload_n hC rfl 0 rfl (rfl : 135 + 1 = 136) (xdt tt_X12_readsRepeat 78 rfl) ?_
      refine g_getP hC hk0 kclX12 ly4_0 37 (by decide) (rfl : r0 + 0 = r0) rfl q211 (rfl : 136 + 3 = 139) (xdt tt_X12_readsRepeat 79 rfl) ?_
      refine g_iload hC 4 rfl (rfl : 139 + 2 = 141) (xdt tt_X12_readsRepeat 80 rfl) ?_
      refine g_aload_n hC rfl 0 rfl (rfl : 141 + 1 = 142) (xdt tt_X12_readsRepeat 81 rfl) ?_
      refine g_getP hC hk0 kclX12 ly4_0 37 (by decide) (rfl : r0 + 0 = r0) rfl q211 (rfl : 142 + 3 = 145) (xdt tt_X12_readsRepeat 82 rfl) ?_
      refine g_iload hC 4 rfl (rfl : 145 + 2 = 147) (xdt tt_X12_readsRepeat 83 rfl) ?_
      refine g_iload hC 3 rfl (rfl : 147 + 2 = 149) (xdt tt_X12_readsRepeat 84 rfl) ?_
      refine g_isub hC (rfl : 149 + 1 = 150) (xdt tt_X12_readsRepeat 85 rfl) ?_
      obtain ⟨hi26, h⟩ := ckI_i h
      refine g_iald hC hk0 ly4_15 hi26 (rfl : 150 + 1 = 151) (xdt tt_X12_readsRepeat 86 rfl) (k0 := (wr (x5 - x4)).toNat) rfl ?_
      obtain ⟨hi27, h⟩ := ckI_i h
      obtain ⟨S28, hS28, h⟩ := lt1_i h
      refine g_iast hC hk0 ly4_15 hi27 rfl hS28 (rfl : 151 + 1 = 152) (xdt tt_X12_readsRepeat 87 rfl) ?_
      refine g_aload_n hC rfl 0 rfl (rfl : 152 + 1 = 153) (xdt tt_X12_readsRepeat 88 rfl) ?_
      refine g_getP hC hk0 kclX12 ly4_0 38 (by decide) (rfl : r0 + 0 = r0) rfl q212 (rfl : 153 + 3 = 156) (xdt tt_X12_readsRepeat 89 rfl) ?_
      refine g_iload hC 4 rfl (rfl : 156 + 2 = 158) (xdt tt_X12_readsRepeat 90 rfl) ?_
      refine g_aload_n hC rfl 0 rfl (rfl : 158 + 1 = 159) (xdt tt_X12_readsRepeat 91 rfl) ?_
      refine g_getP hC hk0 kclX12 ly4_0 38 (by decide) (rfl : r0 + 0 = r0) rfl q212 (rfl : 159 + 3 = 162) (xdt tt_X12_readsRepeat 92 rfl) ?_
      refine g_iload hC 4 rfl (rfl : 162 + 2 = 164) (xdt tt_X12_readsRepeat 93 rfl) ?_
      refine g_iload hC 3 rfl (rfl : 164 + 2 = 166) (xdt tt_X12_readsRepeat 94 rfl) ?_
      refine g_isub hC (rfl : 166 + 1 = 167) (xdt tt_X12_readsRepeat 95 rfl) ?_
      obtain ⟨hi29, h⟩ := ckI_i h
      refine g_iald hC hk0 ly4_16 hi29 (rfl : 167 + 1 = 168) (xdt tt_X12_readsRepeat 96 rfl) (k0 := (wr (x5 - x4)).toNat) rfl ?_
      obtain ⟨hi30, h⟩ := ckI_i h
      obtain ⟨S31, hS31, h⟩ := lt1_i h
      refine g_iast hC hk0 ly4_16 hi30 rfl hS31 (rfl : 168 + 1 = 169) (xdt tt_X12_readsRepeat 97 rfl) ?_
      refine g_aload_n hC rfl 0 rfl (rfl : 169 + 1 = 170) (xdt tt_X12_readsRepeat 98 rfl) ?_
      refine g_getP hC hk0 kclX12 ly4_0 39 (by decide) (rfl : r0 + 0 = r0) rfl q213 (rfl : 170 + 3 = 173) (xdt tt_X12_readsRepeat 99 rfl) ?_
      refine g_iload hC 4 rfl (rfl : 173 + 2 = 175) (xdt tt_X12_readsRepeat 100 rfl) ?_
      refine g_aload_n hC rfl 0 rfl (rfl : 175 + 1 = 176) (xdt tt_X12_readsRepeat 101 rfl) ?_
      refine g_getP hC hk0 kclX12 ly4_0 39 (by decide) (rfl : r0 + 0 = r0) rfl q213 (rfl : 176 + 3 = 179) (xdt tt_X12_readsRepeat 102 rfl) ?_
      refine g_iload hC 4 rfl (rfl : 179 + 2 = 181) (xdt tt_X12_readsRepeat 103 rfl) ?_
      refine g_iload hC 3 rfl (rfl : 181 + 2 = 183) (xdt tt_X12_readsRepeat 104 rfl) ?_
      refine g_isub hC (rfl : 183 + 1 = 184) (xdt tt_X12_readsRepeat 105 rfl) ?_
      obtain ⟨hi32, h⟩ := ckI_i h
      refine g_iald hC hk0 ly4_17 hi32 (rfl : 184 + 1 = 185) (xdt tt_X12_readsRepeat 106 rfl) (k0 := (wr (x5 - x4)).toNat) rfl ?_
      obtain ⟨hi33, h⟩ := ckI_i h
      obtain ⟨S34, hS34, h⟩ := lt1_i h
      refine g_iast hC hk0 ly4_17 hi33 rfl hS34 (rfl : 185 + 1 = 186) (xdt tt_X12_readsRepeat 107 rfl) ?_
      refine g_iinc hC 4 rfl (by decide) (lv' := [(5, vi (x5 + 1)), (0, vr E r0 0), (2, vi x2), (3, vi x3), (4, vi x4)]) rfl (rfl : 186 + 3 = 189) (xdt tt_X12_readsRepeat 108 rfl) ?_
      refine g_goto hC (show ((189 : Nat) : Int) + (-82) = ((107 : Nat) : Int) by decide) (xdt tt_X12_readsRepeat 109 rfl) ?_
      refine g_sub [1, 2, 3, 4, 0] (lv' := [(0, vr E r0 0), (2, vi x2), (3, vi x3), (4, vi x4), (5, vi (x5 + 1))]) rfl ?_
      exact ih _ _ _ _ _ h
set_option maxRecDepth 100000 in
set_option maxHeartbeats 4000000 in
theorem k_X12_readsRepeat_p4_0_b89 {K : xCtx} {E : xE} {b : Nat} {d : Nat} (hC : xOK K cX12_readsRepeat RX12 6 (rmE (12 + 2 * d + 1) b)) (hZ : xZ K) {S' : xSt} (hE : xEnd K E none (YQv E S')) {cst : xSt → Nat → Int → Option xSt} (hcst : ∀ (l : Launch) {S S' : xSt} {r0 : Nat} {a1 : Int} (hk0 : xkd E r0 = 4), cst S r0 a1 = some S' → Met l yX12_statement (xws yX12_statement cX12_statement 2 none) (rmD (12 + 2 * d)) (YPc E [vr E r0 0, vi a1] S) (YQv E S') 0 0 (xA E)) {r0 : Nat} (hk0 : xkd E r0 = 4) : ∀ (S : xSt) (x2 : Int) (x3 : Int) (x4 : Int) (s0 : Int), f_X12_readsRepeat_p4_0_b89 cst r0 S x2 x3 x4 s0 = some S' → WG K E 89 [(0, vr E r0 0), (2, vi x2), (3, vi x3), (4, vi x4)] [vi s0, vr E r0 0] S := by
  intro S x2 x3 x4 s0 h
  unfold f_X12_readsRepeat_p4_0_b89 at h
  refine g_iconst hC (rfl : 89 + 1 = 90) (xdt tt_X12_readsRepeat 51 rfl) ?_
  obtain ⟨S15, hc14, h⟩ := bd_i h
  refine g_callVv hC hZ hk0 kclX12 ly4_0 m_X12_needs q523 (by omega) [vi s0, vi 4] rfl (fun l => c_X12_needs_p4_0 l hk0 hc14) rfl (Nat.le_of_ble_eq_true rfl) (rfl : 90 + 3 = 93) (xdt tt_X12_readsRepeat 52 rfl) ?_
  refine g_aload_n hC rfl 0 rfl (rfl : 93 + 1 = 94) (xdt tt_X12_readsRepeat 53 rfl) ?_
  obtain ⟨v18, S17, hc16, h⟩ := bd2_i h
  refine g_callVz hC hZ hk0 kclX12 ly4_0 m_X12_fine q500 (by omega) [] rfl (fun l => c_X12_fine_p4_0 l hk0 hc16) rfl (Nat.le_of_ble_eq_true rfl) (rfl : 94 + 3 = 97) (xdt tt_X12_readsRepeat 54 rfl) (fun hb19 => ?_)
  refine g_if_ne hC (show ((97 : Nat) : Int) + 4 = ((101 : Nat) : Int) by decide) (rfl : 97 + 3 = 100) (xdt tt_X12_readsRepeat 55 rfl) (fun hc36 => ?_) (fun hc36 => ?_)
  · replace h := (if_pos hc36).symm.trans h
    refine g_iload_n hC rfl 2 rfl (rfl : 101 + 1 = 102) (xdt tt_X12_readsRepeat 57 rfl) ?_
    refine g_iload hC 3 rfl (rfl : 102 + 2 = 104) (xdt tt_X12_readsRepeat 58 rfl) ?_
    refine g_iadd hC (rfl : 104 + 1 = 105) (xdt tt_X12_readsRepeat 59 rfl) ?_
    refine g_istore hC (by decide) (lv' := [(5, vi (x3 + x4)), (0, vr E r0 0), (2, vi x2), (3, vi x3), (4, vi x4)]) rfl (rfl : 105 + 2 = 107) (xdt tt_X12_readsRepeat 60 rfl) ?_
    refine g_sub [1, 2, 3, 4, 0] (lv' := [(0, vr E r0 0), (2, vi x2), (3, vi x3), (4, vi x4), (5, vi (x3 + x4))]) rfl ?_
    exact k_X12_readsRepeat_p4_0_b107 hC hZ hE hcst hk0 _ _ _ _ _ _ h
  · replace h := (if_neg hc36).symm.trans h
    cases h
    exact g_vret hC hE (xdt tt_X12_readsRepeat 56 rfl)
set_option maxRecDepth 100000 in
set_option maxHeartbeats 4000000 in
theorem k_X12_readsRepeat_p4_0_b64 {K : xCtx} {E : xE} {b : Nat} {d : Nat} (hC : xOK K cX12_readsRepeat RX12 6 (rmE (12 + 2 * d + 1) b)) (hZ : xZ K) {S' : xSt} (hE : xEnd K E none (YQv E S')) {cst : xSt → Nat → Int → Option xSt} (hcst : ∀ (l : Launch) {S S' : xSt} {r0 : Nat} {a1 : Int} (hk0 : xkd E r0 = 4), cst S r0 a1 = some S' → Met l yX12_statement (xws yX12_statement cX12_statement 2 none) (rmD (12 + 2 * d)) (YPc E [vr E r0 0, vi a1] S) (YQv E S') 0 0 (xA E)) {r0 : Nat} (hk0 : xkd E r0 = 4) : ∀ (S : xSt) (x2 : Int) (x3 : Int), f_X12_readsRepeat_p4_0_b64 cst r0 S x2 x3 = some S' → WG K E 64 [(0, vr E r0 0), (2, vi x2), (3, vi x3)] [] S := by
  intro S x2 x3 h
  unfold f_X12_readsRepeat_p4_0_b64 at h
  refine g_aload_n hC rfl 0 rfl (rfl : 64 + 1 = 65) (xdt tt_X12_readsRepeat 35 rfl) ?_
  refine g_getI hC hk0 kclX12 ly4_0 31 (by decide) rfl q219 (rfl : 65 + 3 = 68) (xdt tt_X12_readsRepeat 36 rfl) ?_
  refine g_iload_n hC rfl 2 rfl (rfl : 68 + 1 = 69) (xdt tt_X12_readsRepeat 37 rfl) ?_
  refine g_isub hC (rfl : 69 + 1 = 70) (xdt tt_X12_readsRepeat 38 rfl) ?_
  refine g_istore hC (by decide) (lv' := [(4, vi ((gI S r0 0 31) - x3)), (0, vr E r0 0), (2, vi x2), (3, vi x3)]) rfl (rfl : 70 + 2 = 72) (xdt tt_X12_readsRepeat 39 rfl) ?_
  refine g_aload_n hC rfl 1 rfl (rfl : 72 + 1 = 73) (xdt tt_X12_readsRepeat 40 rfl) ?_
  refine g_iload_n hC rfl 3 rfl (rfl : 73 + 1 = 74) (xdt tt_X12_readsRepeat 41 rfl) ?_
  refine g_iload hC 0 rfl (rfl : 74 + 2 = 76) (xdt tt_X12_readsRepeat 42 rfl) ?_
  refine g_iload_n hC rfl 2 rfl (rfl : 76 + 1 = 77) (xdt tt_X12_readsRepeat 43 rfl) ?_
  refine g_imul hC (rfl : 77 + 1 = 78) (xdt tt_X12_readsRepeat 44 rfl) ?_
  refine g_iadd hC (rfl : 78 + 1 = 79) (xdt tt_X12_readsRepeat 45 rfl) ?_
  refine g_bipush hC (by decide) (rfl : 79 + 2 = 81) (xdt tt_X12_readsRepeat 46 rfl) ?_
  refine g_icmp_gt hC (show ((81 : Nat) : Int) + 7 = ((88 : Nat) : Int) by decide) (rfl : 81 + 3 = 84) (xdt tt_X12_readsRepeat 47 rfl) (fun hc37 => ?_) (fun hc37 => ?_)
  · replace h := (if_pos hc37).symm.trans h
    refine g_iconst hC (rfl : 88 + 1 = 89) (xdt tt_X12_readsRepeat 50 rfl) ?_
    refine g_sub [1, 2, 3, 0] (lv' := [(0, vr E r0 0), (2, vi x2), (3, vi x3), (4, vi ((gI S r0 0 31) - x3))]) rfl ?_
    exact k_X12_readsRepeat_p4_0_b89 hC hZ hE hcst hk0 _ _ _ _ _ h
  · replace h := (if_neg hc37).symm.trans h
    refine g_iconst hC (rfl : 84 + 1 = 85) (xdt tt_X12_readsRepeat 48 rfl) ?_
    refine g_goto hC (show ((85 : Nat) : Int) + 4 = ((89 : Nat) : Int) by decide) (xdt tt_X12_readsRepeat 49 rfl) ?_
    refine g_sub [1, 2, 3, 0] (lv' := [(0, vr E r0 0), (2, vi x2), (3, vi x3), (4, vi ((gI S r0 0 31) - x3))]) rfl ?_
    exact k_X12_readsRepeat_p4_0_b89 hC hZ hE hcst hk0 _ _ _ _ _ h
set_option maxRecDepth 100000 in
set_option maxHeartbeats 4000000 in
theorem k_X12_readsRepeat_p4_0_b38 {K : xCtx} {E : xE} {b : Nat} {d : Nat} (hC : xOK K cX12_readsRepeat RX12 6 (rmE (12 + 2 * d + 1) b)) (hZ : xZ K) {S' : xSt} (hE : xEnd K E none (YQv E S')) {cst : xSt → Nat → Int → Option xSt} (hcst : ∀ (l : Launch) {S S' : xSt} {r0 : Nat} {a1 : Int} (hk0 : xkd E r0 = 4), cst S r0 a1 = some S' → Met l yX12_statement (xws yX12_statement cX12_statement 2 none) (rmD (12 + 2 * d)) (YPc E [vr E r0 0, vi a1] S) (YQv E S') 0 0 (xA E)) {r0 : Nat} (hk0 : xkd E r0 = 4) : ∀ (fuel : Nat) (S : xSt) (x1 : Int) (x2 : Int) (x3 : Int), f_X12_readsRepeat_p4_0_b38 cst r0 fuel S x1 x2 x3 = some S' → WG K E 38 [(0, vr E r0 0), (1, vi x1), (2, vi x2), (3, vi x3)] [] S := by
  intro fuel
  induction fuel with
  | zero => intro S x1 x2 x3 h; cases h
  | succ fuel ih =>
    intro S x1 x2 x3 h
    rw [f_X12_readsRepeat_p4_0_b38] at h
    refine g_aload_n hC rfl 0 rfl (rfl : 38 + 1 = 39) (xdt tt_X12_readsRepeat 22 rfl) ?_
    obtain ⟨v12, S11, hc10, h⟩ := bd2_i h
    refine g_callVz hC hZ hk0 kclX12 ly4_0 m_X12_fine q500 (by omega) [] rfl (fun l => c_X12_fine_p4_0 l hk0 hc10) rfl (Nat.le_of_ble_eq_true rfl) (rfl : 39 + 3 = 42) (xdt tt_X12_readsRepeat 23 rfl) (fun hb13 => ?_)
    refine g_if_eq hC (show ((42 : Nat) : Int) + 22 = ((64 : Nat) : Int) by decide) (rfl : 42 + 3 = 45) (xdt tt_X12_readsRepeat 24 rfl) (fun hc45 => ?_) (fun hc45 => ?_)
    · replace h := (if_pos hc45).symm.trans h
      refine g_sub [0, 2, 3] (lv' := [(0, vr E r0 0), (2, vi x2), (3, vi x3)]) rfl ?_
      exact k_X12_readsRepeat_p4_0_b64 hC hZ hE hcst hk0 _ _ _ h
    · replace h := (if_neg hc45).symm.trans h
      refine g_aload_n hC rfl 0 rfl (rfl : 45 + 1 = 46) (xdt tt_X12_readsRepeat 25 rfl) ?_
      refine g_bipush hC (by decide) (rfl : 46 + 2 = 48) (xdt tt_X12_readsRepeat 26 rfl) ?_
      obtain ⟨v40, S39, hc38, h⟩ := bd2_i h
      refine g_callVz hC hZ hk0 kclX12 ly4_0 m_X12_isSign q562 (by omega) [vi 41] rfl (fun l => c_X12_isSign_p4_0 l hk0 hc38) rfl (Nat.le_of_ble_eq_true rfl) (rfl : 48 + 3 = 51) (xdt tt_X12_readsRepeat 27 rfl) (fun hb41 => ?_)
      refine g_if_ne hC (show ((51 : Nat) : Int) + 13 = ((64 : Nat) : Int) by decide) (rfl : 51 + 3 = 54) (xdt tt_X12_readsRepeat 28 rfl) (fun hc44 => ?_) (fun hc44 => ?_)
      · replace h := (if_pos hc44).symm.trans h
        refine g_sub [0, 2, 3] (lv' := [(0, vr E r0 0), (2, vi x2), (3, vi x3)]) rfl ?_
        exact k_X12_readsRepeat_p4_0_b64 hC hZ hE hcst hk0 _ _ _ h
      · replace h := (if_neg hc44).symm.trans h
        refine g_aload_n hC rfl 0 rfl (rfl : 54 + 1 = 55) (xdt tt_X12_readsRepeat 29 rfl) ?_
        refine g_iload_n hC rfl 1 rfl (rfl : 55 + 1 = 56) (xdt tt_X12_readsRepeat 30 rfl) ?_
        refine g_iconst hC (rfl : 56 + 1 = 57) (xdt tt_X12_readsRepeat 31 rfl) ?_
        refine g_iadd hC (rfl : 57 + 1 = 58) (xdt tt_X12_readsRepeat 32 rfl) ?_
        obtain ⟨S43, hc42, h⟩ := bd_i h
        refine g_callVv hC hZ hk0 kclX12 ly4_0 m_X12_statement q504 (by omega) [vi (x1 + 1)] rfl (fun l => hcst l hk0 hc42) rfl (Nat.le_of_ble_eq_true rfl) (rfl : 58 + 3 = 61) (xdt tt_X12_readsRepeat 33 rfl) ?_
        refine g_goto hC (show ((61 : Nat) : Int) + (-23) = ((38 : Nat) : Int) by decide) (xdt tt_X12_readsRepeat 34 rfl) ?_
        refine g_sub [0, 1, 2, 3] (lv' := [(0, vr E r0 0), (1, vi x1), (2, vi x2), (3, vi x3)]) rfl ?_
        exact ih _ _ _ _ h
set_option maxRecDepth 100000 in
set_option maxHeartbeats 4000000 in
theorem k_X12_readsRepeat_p4_0_b11 {K : xCtx} {E : xE} {b : Nat} {d : Nat} (hC : xOK K cX12_readsRepeat RX12 6 (rmE (12 + 2 * d + 1) b)) (hZ : xZ K) {S' : xSt} (hE : xEnd K E none (YQv E S')) {cst : xSt → Nat → Int → Option xSt} (hcst : ∀ (l : Launch) {S S' : xSt} {r0 : Nat} {a1 : Int} (hk0 : xkd E r0 = 4), cst S r0 a1 = some S' → Met l yX12_statement (xws yX12_statement cX12_statement 2 none) (rmD (12 + 2 * d)) (YPc E [vr E r0 0, vi a1] S) (YQv E S') 0 0 (xA E)) {r0 : Nat} (hk0 : xkd E r0 = 4) : ∀ (S : xSt) (x1 : Int) (s0 : Int), f_X12_readsRepeat_p4_0_b11 cst r0 S x1 s0 = some S' → WG K E 11 [(0, vr E r0 0), (1, vi x1)] [vi s0, vr E r0 0] S := by
  intro S x1 s0 h
  unfold f_X12_readsRepeat_p4_0_b11 at h
  refine g_iconst hC (rfl : 11 + 1 = 12) (xdt tt_X12_readsRepeat 7 rfl) ?_
  obtain ⟨S2, hc1, h⟩ := bd_i h
  refine g_callVv hC hZ hk0 kclX12 ly4_0 m_X12_needs q523 (by omega) [vi s0, vi 4] rfl (fun l => c_X12_needs_p4_0 l hk0 hc1) rfl (Nat.le_of_ble_eq_true rfl) (rfl : 12 + 3 = 15) (xdt tt_X12_readsRepeat 8 rfl) ?_
  refine g_aload_n hC rfl 0 rfl (rfl : 15 + 1 = 16) (xdt tt_X12_readsRepeat 9 rfl) ?_
  obtain ⟨S4, hc3, h⟩ := bd_i h
  refine g_callVv hC hZ hk0 kclX12 ly4_0 m_X12_goOn q527 (by omega) [] rfl (fun l => c_X12_goOn_p4_0 l hk0 hc3) rfl (Nat.le_of_ble_eq_true rfl) (rfl : 16 + 3 = 19) (xdt tt_X12_readsRepeat 10 rfl) ?_
  refine g_aload_n hC rfl 0 rfl (rfl : 19 + 1 = 20) (xdt tt_X12_readsRepeat 11 rfl) ?_
  refine g_iconst hC (rfl : 20 + 1 = 21) (xdt tt_X12_readsRepeat 12 rfl) ?_
  refine g_bipush hC (by decide) (rfl : 21 + 2 = 23) (xdt tt_X12_readsRepeat 13 rfl) ?_
  obtain ⟨v7, S6, hc5, h⟩ := bd2_i h
  refine g_callVi hC hZ hk0 kclX12 ly4_0 m_X12_number q535 (by omega) [vi 1, vi 9] rfl (fun l => c_X12_number_p4_0 l hk0 hc5) rfl (Nat.le_of_ble_eq_true rfl) (rfl : 23 + 3 = 26) (xdt tt_X12_readsRepeat 14 rfl) ?_
  refine g_istore_n hC rfl (by decide) (lv' := [(2, vi v7), (0, vr E r0 0), (1, vi x1)]) rfl (rfl : 26 + 1 = 27) (xdt tt_X12_readsRepeat 15 rfl) ?_
  refine g_aload_n hC rfl 1 rfl (rfl : 27 + 1 = 28) (xdt tt_X12_readsRepeat 16 rfl) ?_
  refine g_bipush hC (by decide) (rfl : 28 + 2 = 30) (xdt tt_X12_readsRepeat 17 rfl) ?_
  obtain ⟨S9, hc8, h⟩ := bd_i h
  refine g_callVv hC hZ hk0 kclX12 ly4_0 m_X12_needsSign q558 (by omega) [vi 40] rfl (fun l => c_X12_needsSign_p4_0 l hk0 hc8) rfl (Nat.le_of_ble_eq_true rfl) (rfl : 30 + 3 = 33) (xdt tt_X12_readsRepeat 18 rfl) ?_
  refine g_aload_n hC rfl 1 rfl (rfl : 33 + 1 = 34) (xdt tt_X12_readsRepeat 19 rfl) ?_
  refine g_getI hC hk0 kclX12 ly4_0 31 (by decide) rfl q219 (rfl : 34 + 3 = 37) (xdt tt_X12_readsRepeat 20 rfl) ?_
  refine g_istore_n hC rfl (by decide) (lv' := [(3, vi (gI S9 r0 0 31)), (2, vi v7), (0, vr E r0 0), (1, vi x1)]) rfl (rfl : 37 + 1 = 38) (xdt tt_X12_readsRepeat 21 rfl) ?_
  refine g_sub [2, 3, 1, 0] (lv' := [(0, vr E r0 0), (1, vi x1), (2, vi v7), (3, vi (gI S9 r0 0 31))]) rfl ?_
  exact k_X12_readsRepeat_p4_0_b38 hC hZ hE hcst hk0 _ _ _ _ _ h
set_option maxRecDepth 100000 in
set_option maxHeartbeats 4000000 in
theorem c_X12_readsRepeat_p4_0 (l : Launch) {E : xE} {d : Nat} {cst : xSt → Nat → Int → Option xSt} (hcst : ∀ (l : Launch) {S S' : xSt} {r0 : Nat} {a1 : Int} (hk0 : xkd E r0 = 4), cst S r0 a1 = some S' → Met l yX12_statement (xws yX12_statement cX12_statement 2 none) (rmD (12 + 2 * d)) (YPc E [vr E r0 0, vi a1] S) (YQv E S') 0 0 (xA E)) {S S' : xSt} {r0 : Nat} {a1 : Int} (hk0 : xkd E r0 = 4) (h : f_X12_readsRepeat_p4_0 cst S r0 a1 = some S') : Met l yX12_readsRepeat (xws yX12_readsRepeat cX12_readsRepeat 6 none) (rmD (12 + 2 * d + 1)) (YPc E [vr E r0 0, vi a1] S) (YQv E S') 0 0 (xA E) := by
  unfold f_X12_readsRepeat_p4_0 at h
  refine met_v (by decide +kernel) (Nat.le_of_ble_eq_true rfl) (fun K hC hZ hE => ?_)
  have hC : xOK K cX12_readsRepeat RX12 6 (rmE (12 + 2 * d + 1) 0) := hC
  show WG K E 0 [(0, vr E r0 0), (1, vi a1)] [] S
  refine g_aload_n hC rfl 0 rfl (rfl : 0 + 1 = 1) (xdt tt_X12_readsRepeat 0 rfl) ?_
  refine g_iload_n hC rfl 1 rfl (rfl : 1 + 1 = 2) (xdt tt_X12_readsRepeat 1 rfl) ?_
  refine g_iconst hC (rfl : 2 + 1 = 3) (xdt tt_X12_readsRepeat 2 rfl) ?_
  refine g_icmp_ge hC (show ((3 : Nat) : Int) + 7 = ((10 : Nat) : Int) by decide) (rfl : 3 + 3 = 6) (xdt tt_X12_readsRepeat 3 rfl) (fun hc46 => ?_) (fun hc46 => ?_)
  · replace h := (if_pos hc46).symm.trans h
    refine g_iconst hC (rfl : 10 + 1 = 11) (xdt tt_X12_readsRepeat 6 rfl) ?_
    refine g_sub [0, 1] (lv' := [(0, vr E r0 0), (1, vi a1)]) rfl ?_
    exact k_X12_readsRepeat_p4_0_b11 hC hZ hE hcst hk0 _ _ _ h
  · replace h := (if_neg hc46).symm.trans h
    refine g_iconst hC (rfl : 6 + 1 = 7) (xdt tt_X12_readsRepeat 4 rfl) ?_
    refine g_goto hC (show ((7 : Nat) : Int) + 4 = ((11 : Nat) : Int) by decide) (xdt tt_X12_readsRepeat 5 rfl) ?_
    refine g_sub [0, 1] (lv' := [(0, vr E r0 0), (1, vi a1)]) rfl ?_
    exact k_X12_readsRepeat_p4_0_b11 hC hZ hE hcst hk0 _ _ _ h
def f_X12_statement_p4_0_b100 (cst : xSt → Nat → Int → Option xSt) (r0 : Nat) (S : xSt) : Option (xSt) :=
  bd (f_X12_needs_p4_0 S r0 0 1) fun S18 =>
  bd (f_X12_needsSign_p4_0 S18 r0 59) fun S20 =>
  some S20
def f_X12_statement_p4_0_b60 (cst : xSt → Nat → Int → Option xSt) (r0 : Nat) (S : xSt) (x1 : Int) : Option (xSt) :=
  if ¬ wr x1 = 0 then
    (f_X12_statement_p4_0_b100 cst r0 S)
  else
    (if ¬ wr (gI S r0 0 25) = wr 1 then
      (f_X12_statement_p4_0_b100 cst r0 S)
    else
      (bd2 (f_X12_isIn S (wr (gI S r0 0 26)) 10 15) fun v23 S22 =>
      if wr v23 = 0 then
        (f_X12_statement_p4_0_b100 cst r0 S22)
      else
        (bd (f_X12_readsSetting_p4_0 S22 r0 (gI S22 r0 0 26)) fun S26 =>
        bd (f_X12_needsSign_p4_0 S26 r0 59) fun S28 =>
        some S28)))
def f_X12_statement_p4_0 : Nat → xSt → Nat → Int → Option (xSt)
  | 0, _, _, _ => none
  | d + 1, S, r0, a1 =>
    bd2 (f_X12_isKindHere_p4_0 S r0) fun v3 S2 =>
    if ¬ wr v3 = 0 then
      (bd (f_X12_readsInstruction_p4_0 S2 r0) fun S6 =>
      bd (f_X12_needsSign_p4_0 S6 r0 59) fun S8 =>
      some S8)
    else
      (bd2 (f_X12_isWord_p4_0 S2 r0 18) fun v11 S10 =>
      if wr v11 = 0 then
        (bd2 (f_X12_isWord_p4_0 S10 r0 17) fun v15 S14 =>
        if wr v15 = 0 then
          (if ¬ wr a1 = 0 then
            (f_X12_statement_p4_0_b60 (f_X12_statement_p4_0 d) r0 S14 a1)
          else
            (bd2 (f_X12_isWord_p4_0 S14 r0 16) fun v34 S33 =>
            if wr v34 = 0 then
              (f_X12_statement_p4_0_b60 (f_X12_statement_p4_0 d) r0 S33 a1)
            else
              (bd (f_X12_readsFuse_p4_0 S33 r0) fun S37 =>
              bd (f_X12_needsSign_p4_0 S37 r0 59) fun S39 =>
              some S39)))
        else
          (bd (f_X12_readsRepeat_p4_0 (f_X12_statement_p4_0 d) S14 r0 a1) fun S43 =>
          bd (f_X12_needsSign_p4_0 S43 r0 59) fun S45 =>
          some S45))
      else
        (bd (f_X12_readsInstruction_p4_0 S10 r0) fun S48 =>
        bd (f_X12_needsSign_p4_0 S48 r0 59) fun S50 =>
        some S50))
set_option maxRecDepth 100000 in
set_option maxHeartbeats 4000000 in
theorem k_X12_statement_p4_0_b100 {K : xCtx} {E : xE} {b : Nat} {d : Nat} (hC : xOK K cX12_statement RX12 2 (rmE (12 + 2 * (d + 1)) b)) (hZ : xZ K) {S' : xSt} (hE : xEnd K E none (YQv E S')) {cst : xSt → Nat → Int → Option xSt} (hcst : ∀ (l : Launch) {S S' : xSt} {r0 : Nat} {a1 : Int} (hk0 : xkd E r0 = 4), cst S r0 a1 = some S' → Met l yX12_statement (xws yX12_statement cX12_statement 2 none) (rmD (12 + 2 * d)) (YPc E [vr E r0 0, vi a1] S) (YQv E S') 0 0 (xA E)) {r0 : Nat} (hk0 : xkd E r0 = 4) : ∀ (S : xSt) , f_X12_statement_p4_0_b100 cst r0 S = some S' → WG K E 100 [(0, vr E r0 0)] [] S := by
  intro S h
  unfold f_X12_statement_p4_0_b100 at h
  refine g_aload_n hC rfl 0 rfl (rfl : 100 + 1 = 101) (xdt tt_X12_statement 45 rfl) ?_
  refine g_iconst hC (rfl : 101 + 1 = 102) (xdt tt_X12_statement 46 rfl) ?_
  refine g_iconst hC (rfl : 102 + 1 = 103) (xdt tt_X12_statement 47 rfl) ?_
  obtain ⟨S18, hc17, h⟩ := bd_i h
  refine g_callVv hC hZ hk0 kclX12 ly4_0 m_X12_needs q523 (by omega) [vi 0, vi 1] rfl (fun l => c_X12_needs_p4_0 l hk0 hc17) rfl (Nat.le_of_ble_eq_true rfl) (rfl : 103 + 3 = 106) (xdt tt_X12_statement 48 rfl) ?_
  refine g_aload_n hC rfl 0 rfl (rfl : 106 + 1 = 107) (xdt tt_X12_statement 49 rfl) ?_
  refine g_bipush hC (by decide) (rfl : 107 + 2 = 109) (xdt tt_X12_statement 50 rfl) ?_
  obtain ⟨S20, hc19, h⟩ := bd_i h
  refine g_callVv hC hZ hk0 kclX12 ly4_0 m_X12_needsSign q558 (by omega) [vi 59] rfl (fun l => c_X12_needsSign_p4_0 l hk0 hc19) rfl (Nat.le_of_ble_eq_true rfl) (rfl : 109 + 3 = 112) (xdt tt_X12_statement 51 rfl) ?_
  cases h
  exact g_vret hC hE (xdt tt_X12_statement 52 rfl)
set_option maxRecDepth 100000 in
set_option maxHeartbeats 4000000 in
theorem k_X12_statement_p4_0_b60 {K : xCtx} {E : xE} {b : Nat} {d : Nat} (hC : xOK K cX12_statement RX12 2 (rmE (12 + 2 * (d + 1)) b)) (hZ : xZ K) {S' : xSt} (hE : xEnd K E none (YQv E S')) {cst : xSt → Nat → Int → Option xSt} (hcst : ∀ (l : Launch) {S S' : xSt} {r0 : Nat} {a1 : Int} (hk0 : xkd E r0 = 4), cst S r0 a1 = some S' → Met l yX12_statement (xws yX12_statement cX12_statement 2 none) (rmD (12 + 2 * d)) (YPc E [vr E r0 0, vi a1] S) (YQv E S') 0 0 (xA E)) {r0 : Nat} (hk0 : xkd E r0 = 4) : ∀ (S : xSt) (x1 : Int), f_X12_statement_p4_0_b60 cst r0 S x1 = some S' → WG K E 60 [(0, vr E r0 0), (1, vi x1)] [] S := by
  intro S x1 h
  unfold f_X12_statement_p4_0_b60 at h
  refine g_iload_n hC rfl 1 rfl (rfl : 60 + 1 = 61) (xdt tt_X12_statement 27 rfl) ?_
  refine g_if_ne hC (show ((61 : Nat) : Int) + 39 = ((100 : Nat) : Int) by decide) (rfl : 61 + 3 = 64) (xdt tt_X12_statement 28 rfl) (fun hc31 => ?_) (fun hc31 => ?_)
  · replace h := (if_pos hc31).symm.trans h
    refine g_sub [0] (lv' := [(0, vr E r0 0)]) rfl ?_
    exact k_X12_statement_p4_0_b100 hC hZ hE hcst hk0 _ h
  · replace h := (if_neg hc31).symm.trans h
    refine g_aload_n hC rfl 0 rfl (rfl : 64 + 1 = 65) (xdt tt_X12_statement 29 rfl) ?_
    refine g_getI hC hk0 kclX12 ly4_0 25 (by decide) rfl q471 (rfl : 65 + 3 = 68) (xdt tt_X12_statement 30 rfl) ?_
    refine g_iconst hC (rfl : 68 + 1 = 69) (xdt tt_X12_statement 31 rfl) ?_
    refine g_icmp_ne hC (show ((69 : Nat) : Int) + 31 = ((100 : Nat) : Int) by decide) (rfl : 69 + 3 = 72) (xdt tt_X12_statement 32 rfl) (fun hc30 => ?_) (fun hc30 => ?_)
    · replace h := (if_pos hc30).symm.trans h
      refine g_sub [0] (lv' := [(0, vr E r0 0)]) rfl ?_
      exact k_X12_statement_p4_0_b100 hC hZ hE hcst hk0 _ h
    · replace h := (if_neg hc30).symm.trans h
      refine g_aload_n hC rfl 0 rfl (rfl : 72 + 1 = 73) (xdt tt_X12_statement 33 rfl) ?_
      refine g_getI hC hk0 kclX12 ly4_0 26 (by decide) rfl q485 (rfl : 73 + 3 = 76) (xdt tt_X12_statement 34 rfl) ?_
      refine g_i2l hC (rfl : 76 + 1 = 77) (xdt tt_X12_statement 35 rfl) ?_
      refine g_ldc2 hC (z := 10) q508 (rfl : 77 + 3 = 80) (xdt tt_X12_statement 36 rfl) ?_
      refine g_ldc2 hC (z := 15) q509 (rfl : 80 + 3 = 83) (xdt tt_X12_statement 37 rfl) ?_
      obtain ⟨v23, S22, hc21, h⟩ := bd2_i h
      refine g_callSz hC hZ m_X12_isIn q269 (by omega) [vl (wr (gI S r0 0 26)), vl 10, vl 15] rfl (fun l => c_X12_isIn l hc21) rfl (Nat.le_of_ble_eq_true rfl) (rfl : 83 + 3 = 86) (xdt tt_X12_statement 38 rfl) (fun hb24 => ?_)
      refine g_if_eq hC (show ((86 : Nat) : Int) + 14 = ((100 : Nat) : Int) by decide) (rfl : 86 + 3 = 89) (xdt tt_X12_statement 39 rfl) (fun hc29 => ?_) (fun hc29 => ?_)
      · replace h := (if_pos hc29).symm.trans h
        refine g_sub [0] (lv' := [(0, vr E r0 0)]) rfl ?_
        exact k_X12_statement_p4_0_b100 hC hZ hE hcst hk0 _ h
      · replace h := (if_neg hc29).symm.trans h
        refine g_aload_n hC rfl 0 rfl (rfl : 89 + 1 = 90) (xdt tt_X12_statement 40 rfl) ?_
        refine g_aload_n hC rfl 0 rfl (rfl : 90 + 1 = 91) (xdt tt_X12_statement 41 rfl) ?_
        refine g_getI hC hk0 kclX12 ly4_0 26 (by decide) rfl q485 (rfl : 91 + 3 = 94) (xdt tt_X12_statement 42 rfl) ?_
        obtain ⟨S26, hc25, h⟩ := bd_i h
        refine g_callVv hC hZ hk0 kclX12 ly4_0 m_X12_readsSetting q550 (by omega) [vi (gI S22 r0 0 26)] rfl (fun l => c_X12_readsSetting_p4_0 l hk0 hc25) rfl (Nat.le_of_ble_eq_true rfl) (rfl : 94 + 3 = 97) (xdt tt_X12_statement 43 rfl) ?_
        refine g_goto hC (show ((97 : Nat) : Int) + 9 = ((106 : Nat) : Int) by decide) (xdt tt_X12_statement 44 rfl) ?_
        refine g_aload_n hC rfl 0 rfl (rfl : 106 + 1 = 107) (xdt tt_X12_statement 49 rfl) ?_
        refine g_bipush hC (by decide) (rfl : 107 + 2 = 109) (xdt tt_X12_statement 50 rfl) ?_
        obtain ⟨S28, hc27, h⟩ := bd_i h
        refine g_callVv hC hZ hk0 kclX12 ly4_0 m_X12_needsSign q558 (by omega) [vi 59] rfl (fun l => c_X12_needsSign_p4_0 l hk0 hc27) rfl (Nat.le_of_ble_eq_true rfl) (rfl : 109 + 3 = 112) (xdt tt_X12_statement 51 rfl) ?_
        cases h
        exact g_vret hC hE (xdt tt_X12_statement 52 rfl)
set_option maxRecDepth 100000 in
set_option maxHeartbeats 4000000 in
theorem c_X12_statement_p4_0 {E : xE} : ∀ (d : Nat) (l : Launch) {S S' : xSt} {r0 : Nat} {a1 : Int} (hk0 : xkd E r0 = 4), f_X12_statement_p4_0 d S r0 a1 = some S' → Met l yX12_statement (xws yX12_statement cX12_statement 2 none) (rmD (12 + 2 * d)) (YPc E [vr E r0 0, vi a1] S) (YQv E S') 0 0 (xA E) := by
  intro d
  induction d with
  | zero => intro l S S' r0 a1 hk0 h; cases h
  | succ d ih =>
    intro l S S' r0 a1 hk0 h
    rw [f_X12_statement_p4_0] at h
    refine met_v (by decide +kernel) (Nat.le_of_ble_eq_true rfl) (fun K hC hZ hE => ?_)
    have hC : xOK K cX12_statement RX12 2 (rmE (12 + 2 * (d + 1)) 0) := hC
    show WG K E 0 [(0, vr E r0 0), (1, vi a1)] [] S
    refine g_aload_n hC rfl 0 rfl (rfl : 0 + 1 = 1) (xdt tt_X12_statement 0 rfl) ?_
    obtain ⟨v3, S2, hc1, h⟩ := bd2_i h
    refine g_callVz hC hZ hk0 kclX12 ly4_0 m_X12_isKindHere q510 (by omega) [] rfl (fun l => c_X12_isKindHere_p4_0 l hk0 hc1) rfl (Nat.le_of_ble_eq_true rfl) (rfl : 1 + 3 = 4) (xdt tt_X12_statement 1 rfl) (fun hb4 => ?_)
    refine g_if_ne hC (show ((4 : Nat) : Int) + 12 = ((16 : Nat) : Int) by decide) (rfl : 4 + 3 = 7) (xdt tt_X12_statement 2 rfl) (fun hc52 => ?_) (fun hc52 => ?_)
    · replace h := (if_pos hc52).symm.trans h
      refine g_aload_n hC rfl 0 rfl (rfl : 16 + 1 = 17) (xdt tt_X12_statement 7 rfl) ?_
      obtain ⟨S6, hc5, h⟩ := bd_i h
      refine g_callVv hC hZ hk0 kclX12 ly4_0 m_X12_readsInstruction q519 (by omega) [] rfl (fun l => c_X12_readsInstruction_p4_0 l hk0 hc5) rfl (Nat.le_of_ble_eq_true rfl) (rfl : 17 + 3 = 20) (xdt tt_X12_statement 8 rfl) ?_
      refine g_goto hC (show ((20 : Nat) : Int) + 86 = ((106 : Nat) : Int) by decide) (xdt tt_X12_statement 9 rfl) ?_
      refine g_aload_n hC rfl 0 rfl (rfl : 106 + 1 = 107) (xdt tt_X12_statement 49 rfl) ?_
      refine g_bipush hC (by decide) (rfl : 107 + 2 = 109) (xdt tt_X12_statement 50 rfl) ?_
      obtain ⟨S8, hc7, h⟩ := bd_i h
      refine g_callVv hC hZ hk0 kclX12 ly4_0 m_X12_needsSign q558 (by omega) [vi 59] rfl (fun l => c_X12_needsSign_p4_0 l hk0 hc7) rfl (Nat.le_of_ble_eq_true rfl) (rfl : 109 + 3 = 112) (xdt tt_X12_statement 51 rfl) ?_
      cases h
      exact g_vret hC hE (xdt tt_X12_statement 52 rfl)
    · replace h := (if_neg hc52).symm.trans h
      refine g_aload_n hC rfl 0 rfl (rfl : 7 + 1 = 8) (xdt tt_X12_statement 3 rfl) ?_
      refine g_bipush hC (by decide) (rfl : 8 + 2 = 10) (xdt tt_X12_statement 4 rfl) ?_
      obtain ⟨v11, S10, hc9, h⟩ := bd2_i h
      refine g_callVz hC hZ hk0 kclX12 ly4_0 m_X12_isWord q515 (by omega) [vi 18] rfl (fun l => c_X12_isWord_p4_0 l hk0 hc9) rfl (Nat.le_of_ble_eq_true rfl) (rfl : 10 + 3 = 13) (xdt tt_X12_statement 5 rfl) (fun hb12 => ?_)
      refine g_if_eq hC (show ((13 : Nat) : Int) + 10 = ((23 : Nat) : Int) by decide) (rfl : 13 + 3 = 16) (xdt tt_X12_statement 6 rfl) (fun hc51 => ?_) (fun hc51 => ?_)
      · replace h := (if_pos hc51).symm.trans h
        refine g_aload_n hC rfl 0 rfl (rfl : 23 + 1 = 24) (xdt tt_X12_statement 10 rfl) ?_
        refine g_bipush hC (by decide) (rfl : 24 + 2 = 26) (xdt tt_X12_statement 11 rfl) ?_
        obtain ⟨v15, S14, hc13, h⟩ := bd2_i h
        refine g_callVz hC hZ hk0 kclX12 ly4_0 m_X12_isWord q515 (by omega) [vi 17] rfl (fun l => c_X12_isWord_p4_0 l hk0 hc13) rfl (Nat.le_of_ble_eq_true rfl) (rfl : 26 + 3 = 29) (xdt tt_X12_statement 12 rfl) (fun hb16 => ?_)
        refine g_if_eq hC (show ((29 : Nat) : Int) + 11 = ((40 : Nat) : Int) by decide) (rfl : 29 + 3 = 32) (xdt tt_X12_statement 13 rfl) (fun hc46 => ?_) (fun hc46 => ?_)
        · replace h := (if_pos hc46).symm.trans h
          refine g_iload_n hC rfl 1 rfl (rfl : 40 + 1 = 41) (xdt tt_X12_statement 18 rfl) ?_
          refine g_if_ne hC (show ((41 : Nat) : Int) + 19 = ((60 : Nat) : Int) by decide) (rfl : 41 + 3 = 44) (xdt tt_X12_statement 19 rfl) (fun hc41 => ?_) (fun hc41 => ?_)
          · replace h := (if_pos hc41).symm.trans h
            refine g_sub [0, 1] (lv' := [(0, vr E r0 0), (1, vi a1)]) rfl ?_
            exact k_X12_statement_p4_0_b60 hC hZ hE ih hk0 _ _ h
          · replace h := (if_neg hc41).symm.trans h
            refine g_aload_n hC rfl 0 rfl (rfl : 44 + 1 = 45) (xdt tt_X12_statement 20 rfl) ?_
            refine g_bipush hC (by decide) (rfl : 45 + 2 = 47) (xdt tt_X12_statement 21 rfl) ?_
            obtain ⟨v34, S33, hc32, h⟩ := bd2_i h
            refine g_callVz hC hZ hk0 kclX12 ly4_0 m_X12_isWord q515 (by omega) [vi 16] rfl (fun l => c_X12_isWord_p4_0 l hk0 hc32) rfl (Nat.le_of_ble_eq_true rfl) (rfl : 47 + 3 = 50) (xdt tt_X12_statement 22 rfl) (fun hb35 => ?_)
            refine g_if_eq hC (show ((50 : Nat) : Int) + 10 = ((60 : Nat) : Int) by decide) (rfl : 50 + 3 = 53) (xdt tt_X12_statement 23 rfl) (fun hc40 => ?_) (fun hc40 => ?_)
            · replace h := (if_pos hc40).symm.trans h
              refine g_sub [0, 1] (lv' := [(0, vr E r0 0), (1, vi a1)]) rfl ?_
              exact k_X12_statement_p4_0_b60 hC hZ hE ih hk0 _ _ h
            · replace h := (if_neg hc40).symm.trans h
              refine g_aload_n hC rfl 0 rfl (rfl : 53 + 1 = 54) (xdt tt_X12_statement 24 rfl) ?_
              obtain ⟨S37, hc36, h⟩ := bd_i h
              refine g_callVv hC hZ hk0 kclX12 ly4_0 m_X12_readsFuse q546 (by omega) [] rfl (fun l => c_X12_readsFuse_p4_0 l hk0 hc36) rfl (Nat.le_of_ble_eq_true rfl) (rfl : 54 + 3 = 57) (xdt tt_X12_statement 25 rfl) ?_
              refine g_goto hC (show ((57 : Nat) : Int) + 49 = ((106 : Nat) : Int) by decide) (xdt tt_X12_statement 26 rfl) ?_
              refine g_aload_n hC rfl 0 rfl (rfl : 106 + 1 = 107) (xdt tt_X12_statement 49 rfl) ?_
              refine g_bipush hC (by decide) (rfl : 107 + 2 = 109) (xdt tt_X12_statement 50 rfl) ?_
              obtain ⟨S39, hc38, h⟩ := bd_i h
              refine g_callVv hC hZ hk0 kclX12 ly4_0 m_X12_needsSign q558 (by omega) [vi 59] rfl (fun l => c_X12_needsSign_p4_0 l hk0 hc38) rfl (Nat.le_of_ble_eq_true rfl) (rfl : 109 + 3 = 112) (xdt tt_X12_statement 51 rfl) ?_
              cases h
              exact g_vret hC hE (xdt tt_X12_statement 52 rfl)
        · replace h := (if_neg hc46).symm.trans h
          refine g_aload_n hC rfl 0 rfl (rfl : 32 + 1 = 33) (xdt tt_X12_statement 14 rfl) ?_
          refine g_iload_n hC rfl 1 rfl (rfl : 33 + 1 = 34) (xdt tt_X12_statement 15 rfl) ?_
          obtain ⟨S43, hc42, h⟩ := bd_i h
          refine g_callVv hC hZ hk0 kclX12 ly4_0 m_X12_readsRepeat q543 (by omega) [vi a1] rfl (fun l => c_X12_readsRepeat_p4_0 l ih hk0 hc42) rfl (Nat.le_of_ble_eq_true rfl) (rfl : 34 + 3 = 37) (xdt tt_X12_statement 16 rfl) ?_
          refine g_goto hC (show ((37 : Nat) : Int) + 69 = ((106 : Nat) : Int) by decide) (xdt tt_X12_statement 17 rfl) ?_
          refine g_aload_n hC rfl 0 rfl (rfl : 106 + 1 = 107) (xdt tt_X12_statement 49 rfl) ?_
          refine g_bipush hC (by decide) (rfl : 107 + 2 = 109) (xdt tt_X12_statement 50 rfl) ?_
          obtain ⟨S45, hc44, h⟩ := bd_i h
          refine g_callVv hC hZ hk0 kclX12 ly4_0 m_X12_needsSign q558 (by omega) [vi 59] rfl (fun l => c_X12_needsSign_p4_0 l hk0 hc44) rfl (Nat.le_of_ble_eq_true rfl) (rfl : 109 + 3 = 112) (xdt tt_X12_statement 51 rfl) ?_
          cases h
          exact g_vret hC hE (xdt tt_X12_statement 52 rfl)
      · replace h := (if_neg hc51).symm.trans h
        refine g_aload_n hC rfl 0 rfl (rfl : 16 + 1 = 17) (xdt tt_X12_statement 7 rfl) ?_
        obtain ⟨S48, hc47, h⟩ := bd_i h
        refine g_callVv hC hZ hk0 kclX12 ly4_0 m_X12_readsInstruction q519 (by omega) [] rfl (fun l => c_X12_readsInstruction_p4_0 l hk0 hc47) rfl (Nat.le_of_ble_eq_true rfl) (rfl : 17 + 3 = 20) (xdt tt_X12_statement 8 rfl) ?_
        refine g_goto hC (show ((20 : Nat) : Int) + 86 = ((106 : Nat) : Int) by decide) (xdt tt_X12_statement 9 rfl) ?_
        refine g_aload_n hC rfl 0 rfl (rfl : 106 + 1 = 107) (xdt tt_X12_statement 49 rfl) ?_
        refine g_bipush hC (by decide) (rfl : 107 + 2 = 109) (xdt tt_X12_statement 50 rfl) ?_
        obtain ⟨S50, hc49, h⟩ := bd_i h
        refine g_callVv hC hZ hk0 kclX12 ly4_0 m_X12_needsSign q558 (by omega) [vi 59] rfl (fun l => c_X12_needsSign_p4_0 l hk0 hc49) rfl (Nat.le_of_ble_eq_true rfl) (rfl : 109 + 3 = 112) (xdt tt_X12_statement 51 rfl) ?_
        cases h
        exact g_vret hC hE (xdt tt_X12_statement 52 rfl)
def f_X12_startsReading_p4_0 (S : xSt) (r0 : Nat) : Option (xSt) :=
  lt1 (wI S r0 0 22 (gI S r0 0 21)) fun S1 =>
  lt1 (wI S1 r0 0 21 0) fun S2 =>
  lt1 (wI S2 r0 0 23 0) fun S3 =>
  bd (f_X12_next_p4_0 S3 r0) fun S5 =>
  some S5
set_option maxRecDepth 100000 in
set_option maxHeartbeats 4000000 in
theorem c_X12_startsReading_p4_0 (l : Launch) {E : xE} {S S' : xSt} {r0 : Nat} (hk0 : xkd E r0 = 4) (h : f_X12_startsReading_p4_0 S r0 = some S') : Met l yX12_startsReading (xws yX12_startsReading cX12_startsReading 1 none) (rmD 8) (YPc E [vr E r0 0] S) (YQv E S') 0 0 (xA E) := by
  unfold f_X12_startsReading_p4_0 at h
  refine met_v (by decide +kernel) (Nat.le_of_ble_eq_true rfl) (fun K hC hZ hE => ?_)
  have hC : xOK K cX12_startsReading RX12 1 (rmE 8 0) := hC
  show WG K E 0 [(0, vr E r0 0)] [] S
  refine g_aload_n hC rfl 0 rfl (rfl : 0 + 1 = 1) (xdt tt_X12_startsReading 0 rfl) ?_
  refine g_aload_n hC rfl 0 rfl (rfl : 1 + 1 = 2) (xdt tt_X12_startsReading 1 rfl) ?_
  refine g_getI hC hk0 kclX12 ly4_0 21 (by decide) rfl q260 (rfl : 2 + 3 = 5) (xdt tt_X12_startsReading 2 rfl) ?_
  obtain ⟨S1, hS1, h⟩ := lt1_i h
  refine g_putI hC hk0 kclX12 ly4_0 22 (by decide) rfl rfl rfl q476 hS1 (rfl : 5 + 3 = 8) (xdt tt_X12_startsReading 3 rfl) ?_
  refine g_aload_n hC rfl 0 rfl (rfl : 8 + 1 = 9) (xdt tt_X12_startsReading 4 rfl) ?_
  refine g_iconst hC (rfl : 9 + 1 = 10) (xdt tt_X12_startsReading 5 rfl) ?_
  obtain ⟨S2, hS2, h⟩ := lt1_i h
  refine g_putI hC hk0 kclX12 ly4_0 21 (by decide) rfl rfl rfl q260 hS2 (rfl : 10 + 3 = 13) (xdt tt_X12_startsReading 6 rfl) ?_
  refine g_aload_n hC rfl 0 rfl (rfl : 13 + 1 = 14) (xdt tt_X12_startsReading 7 rfl) ?_
  refine g_iconst hC (rfl : 14 + 1 = 15) (xdt tt_X12_startsReading 8 rfl) ?_
  obtain ⟨S3, hS3, h⟩ := lt1_i h
  refine g_putI hC hk0 kclX12 ly4_0 23 (by decide) rfl rfl rfl q477 hS3 (rfl : 15 + 3 = 18) (xdt tt_X12_startsReading 9 rfl) ?_
  refine g_aload_n hC rfl 0 rfl (rfl : 18 + 1 = 19) (xdt tt_X12_startsReading 10 rfl) ?_
  obtain ⟨S5, hc4, h⟩ := bd_i h
  refine g_callVv hC hZ hk0 kclX12 ly4_0 m_X12_next q478 (Nat.le_of_ble_eq_true rfl) [] rfl (fun l => c_X12_next_p4_0 l hk0 hc4) rfl (Nat.le_of_ble_eq_true rfl) (rfl : 19 + 3 = 22) (xdt tt_X12_startsReading 11 rfl) ?_
  cases h
  exact g_vret hC hE (xdt tt_X12_startsReading 12 rfl)
