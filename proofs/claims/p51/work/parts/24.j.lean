theorem iSl_0 (n : Nat) (h : n ≤ 1000000) : iSl (n : Int) 0 = n := by
  unfold iSl
  have e : (Int32.ofInt (n : Int)) <<< ((Int32.ofInt 0) &&& 31) = Int32.ofInt (n : Int) := sb_shl0 _
  rw [e, wr_toInt, wr_id (by omega)]
/-- the builder: its count n, a row of m bytes -/
abbrev bob (sb b n m : Nat) (f : Nat → Int) : sW := [(sb, .inl (1, [.ref b, vi 0, vi 0, vi (n : Int)])), (b, .inr (m, f))]

set_option maxHeartbeats 4000000 in
theorem c_isL (l : Launch) {E : xE} {B : Nat} {S : xSt} (q0 : Nat) {sb : Nat} {fs : List Value} {ws : sW} (hq0 : ws[q0]? = some (sb, .inl (1, fs))) (h1 : fs.getD 1 .null = vi 0) : Met l yJ5_isLatin1_aae02 (xws yJ5_isLatin1_aae02 cJ5_isLatin1_aae02 1 (some .boolean)) (rmN 1 0 0) (SPc E B [.ref sb] S ws) (SQi E B 1 S ws) 0 0 (fun a => B ≤ a) := by
  refine metS (by decide +kernel) (Nat.le_of_ble_eq_true rfl) (fun K hC hE => ?_)
  have hC : xOK K cJ5_isLatin1_aae02 RJ5 1 (rmN 1 0 0) := hC
  show WB B (PS E B ws) 0 0 K E 0 [(0, .ref sb)] [] S
  refine b_strS hC q203 (rfl : 0 + 3 = 3) (xdt tt_J5_isLatin1_aae02 0 rfl) ?_
  refine b_if_eq hC (show ((3 : Nat) : Int) + 14 = ((17 : Nat) : Int) by decide) (rfl : 3 + 3 = 6) (xdt tt_J5_isLatin1_aae02 1 rfl) (fun h => absurd h (by decide)) (fun _ => ?_)
  refine b_aload_n hC rfl 0 rfl (rfl : 6 + 1 = 7) (xdt tt_J5_isLatin1_aae02 2 rfl) ?_
  refine s_get hC q0 hq0 kclJ4 1 (by decide) q205 h1 (rfl : 7 + 3 = 10) (xdt tt_J5_isLatin1_aae02 3 rfl) ?_
  refine b_if_ne hC (show ((10 : Nat) : Int) + 7 = ((17 : Nat) : Int) by decide) (rfl : 10 + 3 = 13) (xdt tt_J5_isLatin1_aae02 4 rfl) (fun h => absurd h (by decide)) (fun _ => ?_)
  refine b_iconst hC (rfl : 13 + 1 = 14) (xdt tt_J5_isLatin1_aae02 5 rfl) ?_
  refine b_goto hC (show ((14 : Nat) : Int) + 4 = ((18 : Nat) : Int) by decide) (xdt tt_J5_isLatin1_aae02 6 rfl) ?_
  exact s_zret hC hE (Or.inr rfl) (xdt tt_J5_isLatin1_aae02 8 rfl)
set_option maxHeartbeats 4000000 in
theorem c_getV (l : Launch) {E : xE} {B : Nat} {S : xSt} (q0 : Nat) {sb b : Nat} {fs : List Value} {ws : sW} (hq0 : ws[q0]? = some (sb, .inl (1, fs))) (h1 : fs.getD 0 .null = .ref b) : Met l yJ5_getValue_6d5f1 (xws yJ5_getValue_6d5f1 cJ5_getValue_6d5f1 1 (some (.array .byte))) (rmN 1 0 0) (SPc E B [.ref sb] S ws) (SQr E B S (fun a u => a = b ∧ u = ws)) 0 0 (fun a => B ≤ a) := by
  refine metS (by decide +kernel) (Nat.le_of_ble_eq_true rfl) (fun K hC hE => ?_)
  have hC : xOK K cJ5_getValue_6d5f1 RJ5 1 (rmN 1 0 0) := hC
  show WB B (PS E B ws) 0 0 K E 0 [(0, .ref sb)] [] S
  refine b_aload_n hC rfl 0 rfl (rfl : 0 + 1 = 1) (xdt tt_J5_getValue_6d5f1 0 rfl) ?_
  refine s_get hC q0 hq0 kclJ4 0 (by decide) q204 h1 (rfl : 1 + 3 = 4) (xdt tt_J5_getValue_6d5f1 1 rfl) ?_
  exact s_aret hC (Or.inr ⟨_, rfl⟩) hE ⟨rfl, rfl⟩ (xdt tt_J5_getValue_6d5f1 2 rfl)
set_option maxHeartbeats 4000000 in
theorem c_len5 (l : Launch) {E : xE} {B : Nat} {S : xSt} (q0 : Nat) {sb n : Nat} {fs : List Value} {ws : sW} (hq0 : ws[q0]? = some (sb, .inl (1, fs))) (h1 : fs.getD 3 .null = vi (n : Int)) : Met l yJ5_length_8abf5 (xws yJ5_length_8abf5 cJ5_length_8abf5 1 (some .int)) (rmN 1 0 0) (SPc E B [.ref sb] S ws) (SQi E B (n : Int) S ws) 0 0 (fun a => B ≤ a) := by
  refine metS (by decide +kernel) (Nat.le_of_ble_eq_true rfl) (fun K hC hE => ?_)
  have hC : xOK K cJ5_length_8abf5 RJ5 1 (rmN 1 0 0) := hC
  show WB B (PS E B ws) 0 0 K E 0 [(0, .ref sb)] [] S
  refine b_aload_n hC rfl 0 rfl (rfl : 0 + 1 = 1) (xdt tt_J5_length_8abf5 0 rfl) ?_
  refine s_get hC q0 hq0 kclJ4 3 (by decide) q223 h1 (rfl : 1 + 3 = 4) (xdt tt_J5_length_8abf5 1 rfl) ?_
  exact s_iret hC hE (xdt tt_J5_length_8abf5 2 rfl)
theorem m_J5_length_8abf5 : mSU yJ5_length_8abf5 cJ5_length_8abf5 1 (some .int) 0 := ⟨⟨q416, q220, q422, q200, q423⟩, ⟨by decide +kernel, by decide +kernel⟩, by decide⟩
set_option maxHeartbeats 4000000 in
theorem c_len4 (l : Launch) {E : xE} {B : Nat} {S : xSt} (q0 : Nat) {sb n : Nat} {fs : List Value} {ws : sW} (hq0 : ws[q0]? = some (sb, .inl (1, fs))) (h1 : fs.getD 3 .null = vi (n : Int)) : Met l yJ4_length_8abf5 (xws yJ4_length_8abf5 cJ4_length_8abf5 1 (some .int)) (rmN 2 0 0) (SPc E B [.ref sb] S ws) (SQi E B (n : Int) S ws) 0 0 (fun a => B ≤ a) := by
  refine metS (by decide +kernel) (Nat.le_of_ble_eq_true rfl) (fun K hC hE => ?_)
  have hC : xOK K cJ4_length_8abf5 RJ4 1 (rmN 2 0 0) := hC
  show WB B (PS E B ws) 0 0 K E 0 [(0, .ref sb)] [] S
  refine b_aload_n hC rfl 0 rfl (rfl : 0 + 1 = 1) (xdt tt_J4_length_8abf5 0 rfl) ?_
  refine s_callSUi hC q0 hq0 m_J5_length_8abf5 q421 ⟨by decide, by decide⟩ (by decide) (by decide) [] rfl (fun l => c_len5 l q0 hq0 h1) rfl (Nat.le_of_ble_eq_true rfl) (rfl : 1 + 3 = 4) (xdt tt_J4_length_8abf5 1 rfl) ?_
  exact s_iret hC hE (xdt tt_J4_length_8abf5 2 rfl)
theorem nl_e {S : xSt} {m q : Nat} (hm : m < q) (hq : q ≤ 600) : f_J8_newLength_cabcc S (m : Int) ((q : Int) - (m : Int)) ((m : Int) + 2) = some (((max q (2 * m + 2) : Nat) : Int), S) := by
  unfold f_J8_newLength_cabcc iMax
  have e1 : wr ((q : Int) - (m : Int)) = (q : Int) - (m : Int) := wr_id (by omega)
  have e2 : wr ((m : Int) + 2) = (m : Int) + 2 := wr_id (by omega)
  rw [e1, e2]
  have e0 : wr 0 = 0 := by decide
  have e9 : wr 2147483639 = 2147483639 := by decide
  by_cases c : (q : Int) - (m : Int) < (m : Int) + 2
  · have e3 : (m : Int) + ((m : Int) + 2) = ((max q (2 * m + 2) : Nat) : Int) := by omega
    have e4 : wr ((max q (2 * m + 2) : Nat) : Int) = ((max q (2 * m + 2) : Nat) : Int) := wr_id (by omega)
    simp only [if_pos c, e3]
    rw [if_neg (by rw [e4, e0]; omega), if_neg (by rw [e4, e9]; omega)]
  · have e3 : (m : Int) + ((q : Int) - (m : Int)) = ((max q (2 * m + 2) : Nat) : Int) := by omega
    have e4 : wr ((max q (2 * m + 2) : Nat) : Int) = ((max q (2 * m + 2) : Nat) : Int) := wr_id (by omega)
    simp only [if_neg c, e3]
    rw [if_neg (by rw [e4, e0]; omega), if_neg (by rw [e4, e9]; omega)]

set_option maxHeartbeats 4000000 in
theorem c_newC (l : Launch) {E : xE} {B : Nat} {S : xSt} {sb b n m q : Nat} {f : Nat → Int} (hA : ∀ a, xA E a → B ≤ a) (hm : m < q) (hq : q ≤ 600) : Met l yJ5_newCapacity_0f7a4 (xws yJ5_newCapacity_0f7a4 cJ5_newCapacity_0f7a4 6 (some .int)) (rmN 3 0 0) (SPc E B [.ref sb, vi (q : Int)] S (bob sb b n m f)) (SQi E B ((max q (2 * m + 2) : Nat) : Int) S (bob sb b n m f)) 0 0 (fun a => B ≤ a) := by
  refine metS (by decide +kernel) (Nat.le_of_ble_eq_true rfl) (fun K hC hE => ?_)
  have hC : xOK K cJ5_newCapacity_0f7a4 RJ5 6 (rmN 3 0 0) := hC
  show WB B (PS E B (bob sb b n m f)) 0 0 K E 0 [(0, .ref sb), (1, vi (q : Int))] [] S
  refine b_aload_n hC rfl 0 rfl (rfl : 0 + 1 = 1) (xdt tt_J5_newCapacity_0f7a4 0 rfl) ?_
  refine s_get hC 0 rfl kclJ4 0 (by decide) q204 (v := .ref b) rfl (rfl : 1 + 3 = 4) (xdt tt_J5_newCapacity_0f7a4 1 rfl) ?_
  refine s_alen hC 1 rfl (rfl : 4 + 1 = 5) (xdt tt_J5_newCapacity_0f7a4 2 rfl) ?_
  refine b_istore_n hC rfl (by decide) (lv' := [(2, vi (m : Int)), (0, .ref sb), (1, vi (q : Int))]) rfl (rfl : 5 + 1 = 6) (xdt tt_J5_newCapacity_0f7a4 3 rfl) ?_
  refine b_sub [1, 2, 0] (lv' := [(0, .ref sb), (1, vi (q : Int)), (2, vi (m : Int))]) rfl ?_
  refine b_iload_n hC rfl 1 rfl (rfl : 6 + 1 = 7) (xdt tt_J5_newCapacity_0f7a4 4 rfl) ?_
  refine b_aload_n hC rfl 0 rfl (rfl : 7 + 1 = 8) (xdt tt_J5_newCapacity_0f7a4 5 rfl) ?_
  refine s_get hC 0 rfl kclJ4 1 (by decide) q205 (v := vi 0) rfl (rfl : 8 + 3 = 11) (xdt tt_J5_newCapacity_0f7a4 6 rfl) ?_
  refine b_ishl hC (rfl : 11 + 1 = 12) (xdt tt_J5_newCapacity_0f7a4 7 rfl) ?_
  refine b_eqi (y := (q : Int)) (iSl_0 q (by omega)).symm ?_
  refine b_istore_n hC rfl (by decide) (lv' := [(3, vi (q : Int)), (0, .ref sb), (1, vi (q : Int)), (2, vi (m : Int))]) rfl (rfl : 12 + 1 = 13) (xdt tt_J5_newCapacity_0f7a4 8 rfl) ?_
  refine b_sub [1, 2, 3, 0] (lv' := [(0, .ref sb), (1, vi (q : Int)), (2, vi (m : Int)), (3, vi (q : Int))]) rfl ?_
  refine b_iload_n hC rfl 3 rfl (rfl : 13 + 1 = 14) (xdt tt_J5_newCapacity_0f7a4 9 rfl) ?_
  refine b_iload_n hC rfl 2 rfl (rfl : 14 + 1 = 15) (xdt tt_J5_newCapacity_0f7a4 10 rfl) ?_
  refine b_isub hC (rfl : 15 + 1 = 16) (xdt tt_J5_newCapacity_0f7a4 11 rfl) ?_
  refine b_istore hC (by decide) (lv' := [(4, vi ((q : Int) - (m : Int))), (0, .ref sb), (1, vi (q : Int)), (2, vi (m : Int)), (3, vi (q : Int))]) rfl (rfl : 16 + 2 = 18) (xdt tt_J5_newCapacity_0f7a4 12 rfl) ?_
  refine b_sub [1, 2, 3, 4, 0] (lv' := [(0, .ref sb), (1, vi (q : Int)), (2, vi (m : Int)), (3, vi (q : Int)), (4, vi ((q : Int) - (m : Int)))]) rfl ?_
  refine b_iload_n hC rfl 2 rfl (rfl : 18 + 1 = 19) (xdt tt_J5_newCapacity_0f7a4 13 rfl) ?_
  refine b_iload hC 4 rfl (rfl : 19 + 2 = 21) (xdt tt_J5_newCapacity_0f7a4 14 rfl) ?_
  refine b_iload_n hC rfl 2 rfl (rfl : 21 + 1 = 22) (xdt tt_J5_newCapacity_0f7a4 15 rfl) ?_
  refine b_iconst hC (rfl : 22 + 1 = 23) (xdt tt_J5_newCapacity_0f7a4 16 rfl) ?_
  refine b_aload_n hC rfl 0 rfl (rfl : 23 + 1 = 24) (xdt tt_J5_newCapacity_0f7a4 17 rfl) ?_
  refine s_get hC 0 rfl kclJ4 1 (by decide) q205 (v := vi 0) rfl (rfl : 24 + 3 = 27) (xdt tt_J5_newCapacity_0f7a4 18 rfl) ?_
  refine b_ishl hC (rfl : 27 + 1 = 28) (xdt tt_J5_newCapacity_0f7a4 19 rfl) ?_
  refine b_eqi (y := 2) (by decide) ?_
  refine b_iadd hC (rfl : 28 + 1 = 29) (xdt tt_J5_newCapacity_0f7a4 20 rfl) ?_
  refine b_callSi hC ⟨hA, PS_keep⟩ ⟨Nat.zero_le _, Nat.zero_le _⟩ m_J8_newLength_cabcc q237 ⟨by decide, by decide⟩ [vi (m : Int), vi ((q : Int) - (m : Int)), vi ((m : Int) + 2)] rfl (fun l => c_J8_newLength_cabcc l (nl_e hm hq)) rfl (Nat.le_of_ble_eq_true rfl) (rfl : 29 + 3 = 32) (xdt tt_J5_newCapacity_0f7a4 21 rfl) ?_
  refine b_istore hC (by decide) (lv' := [(5, vi ((max q (2 * m + 2) : Nat) : Int)), (0, .ref sb), (1, vi (q : Int)), (2, vi (m : Int)), (3, vi (q : Int)), (4, vi ((q : Int) - (m : Int)))]) rfl (rfl : 32 + 2 = 34) (xdt tt_J5_newCapacity_0f7a4 22 rfl) ?_
  refine b_sub [1, 2, 3, 4, 5, 0] (lv' := [(0, .ref sb), (1, vi (q : Int)), (2, vi (m : Int)), (3, vi (q : Int)), (4, vi ((q : Int) - (m : Int))), (5, vi ((max q (2 * m + 2) : Nat) : Int))]) rfl ?_
  refine b_iload hC 5 rfl (rfl : 34 + 2 = 36) (xdt tt_J5_newCapacity_0f7a4 23 rfl) ?_
  refine b_ldcI hC (z := 2147483647) q236 (rfl : 36 + 2 = 38) (xdt tt_J5_newCapacity_0f7a4 24 rfl) ?_
  refine b_icmp_ne hC (show ((38 : Nat) : Int) + 13 = ((51 : Nat) : Int) by decide) (rfl : 38 + 3 = 41) (xdt tt_J5_newCapacity_0f7a4 25 rfl) (fun _ => ?_) (fun h => absurd h (by rw [wr_id (by omega), show wr 2147483647 = 2147483647 by decide]; omega))
  refine b_iload hC 5 rfl (rfl : 51 + 2 = 53) (xdt tt_J5_newCapacity_0f7a4 31 rfl) ?_
  refine b_aload_n hC rfl 0 rfl (rfl : 53 + 1 = 54) (xdt tt_J5_newCapacity_0f7a4 32 rfl) ?_
  refine s_get hC 0 rfl kclJ4 1 (by decide) q205 (v := vi 0) rfl (rfl : 54 + 3 = 57) (xdt tt_J5_newCapacity_0f7a4 33 rfl) ?_
  refine b_ishr hC (rfl : 57 + 1 = 58) (xdt tt_J5_newCapacity_0f7a4 34 rfl) ?_
  refine b_eqi (y := ((max q (2 * m + 2) : Nat) : Int)) (iSr_0 _ (by omega)).symm ?_
  exact s_iret hC hE (xdt tt_J5_newCapacity_0f7a4 35 rfl)
set_option maxHeartbeats 4000000 in
theorem c_copyOf (l : Launch) {E : xE} {B : Nat} {S : xSt} (q0 : Nat) {b m N : Nat} {f : Nat → Int} {ws : sW} (hq0 : ws[q0]? = some (b, .inr (m, f))) (hm : m < N) (hN : N ≤ 1200) : Met l yJ7_copyOf_9075b (xws yJ7_copyOf_9075b cJ7_copyOf_9075b 3 (some (.array .byte))) (rmN 2 1 1200) (SPc E B [.ref b, vi (N : Int)] S ws) (SQr E B S (fun a u => ∃ g : Nat → Int, u = (a, .inr (N, g)) :: ws ∧ ∀ j, j < m → g j = f j)) 1 1200 (fun a => B ≤ a) := by
  refine metS (by decide +kernel) (Nat.le_of_ble_eq_true rfl) (fun K hC hE => ?_)
  have hC : xOK K cJ7_copyOf_9075b RJ7 3 (rmN 2 1 1200) := hC
  show WB B (PS E B ws) 0 0 K E 0 [(0, .ref b), (1, vi (N : Int))] [] S
  refine b_iload_n hC rfl 1 rfl (rfl : 0 + 1 = 1) (xdt tt_J7_copyOf_9075b 0 rfl) ?_
  refine b_aload_n hC rfl 0 rfl (rfl : 1 + 1 = 2) (xdt tt_J7_copyOf_9075b 1 rfl) ?_
  refine s_alen hC q0 hq0 (rfl : 2 + 1 = 3) (xdt tt_J7_copyOf_9075b 2 rfl) ?_
  refine b_neN hC (by omega) (by omega) (show ((3 : Nat) : Int) + 11 = ((14 : Nat) : Int) by decide) (rfl : 3 + 3 = 6) (xdt tt_J7_copyOf_9075b 3 rfl) (fun _ => ?_) (fun h => absurd h (by omega))
  refine b_iload_n hC rfl 1 rfl (rfl : 14 + 1 = 15) (xdt tt_J7_copyOf_9075b 8 rfl) ?_
  refine s_newb hC q9 (by omega) (by decide) (show 0 + N ≤ 1200 by omega) (rfl : 15 + 2 = 17) (xdt tt_J7_copyOf_9075b 9 rfl) (fun a => ?_)
  refine b_astore_n hC rfl (by decide) (lv' := [(2, .ref a), (0, .ref b), (1, vi (N : Int))]) rfl (rfl : 17 + 1 = 18) (xdt tt_J7_copyOf_9075b 10 rfl) ?_
  refine b_sub [1, 2, 0] (lv' := [(0, .ref b), (1, vi (N : Int)), (2, .ref a)]) rfl ?_
  refine b_aload_n hC rfl 0 rfl (rfl : 18 + 1 = 19) (xdt tt_J7_copyOf_9075b 11 rfl) ?_
  refine b_iconst hC (rfl : 19 + 1 = 20) (xdt tt_J7_copyOf_9075b 12 rfl) ?_
  refine b_aload_n hC rfl 2 rfl (rfl : 20 + 1 = 21) (xdt tt_J7_copyOf_9075b 13 rfl) ?_
  refine b_iconst hC (rfl : 21 + 1 = 22) (xdt tt_J7_copyOf_9075b 14 rfl) ?_
  refine b_aload_n hC rfl 0 rfl (rfl : 22 + 1 = 23) (xdt tt_J7_copyOf_9075b 15 rfl) ?_
  refine s_alen hC (q0 + 1) hq0 (rfl : 23 + 1 = 24) (xdt tt_J7_copyOf_9075b 16 rfl) ?_
  refine b_iload_n hC rfl 1 rfl (rfl : 24 + 1 = 25) (xdt tt_J7_copyOf_9075b 17 rfl) ?_
  refine b_minN hC ⟨by decide, show 0 + N ≤ 1200 by omega⟩ (by omega) (by omega) q258 q259 q243 q260 (by decide) (Nat.le_of_ble_eq_true rfl) (rfl : 25 + 3 = 28) (xdt tt_J7_copyOf_9075b 18 rfl) ?_
  refine b_eqi (y := (m : Int)) (by omega) ?_
  refine s_copy hC (q0 + 1) 0 hq0 rfl (a := 0) (b := 0) (z := m) (by omega) (by omega) (by omega) (by omega) q261 q78 q79 q80 (by decide) (Nat.le_of_ble_eq_true rfl) (rfl : 28 + 3 = 31) (xdt tt_J7_copyOf_9075b 19 rfl) ?_
  refine b_aload_n hC rfl 2 rfl (rfl : 31 + 1 = 32) (xdt tt_J7_copyOf_9075b 20 rfl) ?_
  refine b_wid (cl' := 1) (sl' := 1200) (by omega) (by omega) ?_
  exact s_aret hC (Or.inr ⟨_, rfl⟩) hE ⟨_, rfl, fun j hj => by unfold cpI; rw [if_pos (by omega)]; congr 1; omega⟩ (xdt tt_J7_copyOf_9075b 21 rfl)
set_option maxHeartbeats 4000000 in
theorem c_ens (l : Launch) {E : xE} {B : Nat} {S : xSt} {sb b n m q : Nat} {f : Nat → Int} (hA : ∀ a, xA E a → B ≤ a) (hq : q ≤ 600) (hm : m ≤ 1200) : Met l yJ5_ensureCapacityInternal_d00df (xws yJ5_ensureCapacityInternal_d00df cJ5_ensureCapacityInternal_d00df 3 none) (rmN 4 1 1200) (SPc E B [.ref sb, vi (q : Int)] S (bob sb b n m f)) (SQv E B S (fun u => ∃ (b' m' : Nat) (g : Nat → Int), u = bob sb b' n m' g ∧ q ≤ m' ∧ m ≤ m' ∧ m' ≤ 1200 ∧ ∀ j, j < m → g j = f j)) 1 1200 (fun a => B ≤ a) := by
  refine metS (by decide +kernel) (Nat.le_of_ble_eq_true rfl) (fun K hC hE => ?_)
  have hC : xOK K cJ5_ensureCapacityInternal_d00df RJ5 3 (rmN 4 1 1200) := hC
  show WB B (PS E B (bob sb b n m f)) 0 0 K E 0 [(0, .ref sb), (1, vi (q : Int))] [] S
  refine b_aload_n hC rfl 0 rfl (rfl : 0 + 1 = 1) (xdt tt_J5_ensureCapacityInternal_d00df 0 rfl) ?_
  refine s_get hC 0 rfl kclJ4 0 (by decide) q204 (v := .ref b) rfl (rfl : 1 + 3 = 4) (xdt tt_J5_ensureCapacityInternal_d00df 1 rfl) ?_
  refine s_alen hC 1 rfl (rfl : 4 + 1 = 5) (xdt tt_J5_ensureCapacityInternal_d00df 2 rfl) ?_
  refine b_aload_n hC rfl 0 rfl (rfl : 5 + 1 = 6) (xdt tt_J5_ensureCapacityInternal_d00df 3 rfl) ?_
  refine s_get hC 0 rfl kclJ4 1 (by decide) q205 (v := vi 0) rfl (rfl : 6 + 3 = 9) (xdt tt_J5_ensureCapacityInternal_d00df 4 rfl) ?_
  refine b_ishr hC (rfl : 9 + 1 = 10) (xdt tt_J5_ensureCapacityInternal_d00df 5 rfl) ?_
  refine b_eqi (y := (m : Int)) (iSr_0 m (by omega)).symm ?_
  refine b_istore_n hC rfl (by decide) (lv' := [(2, vi (m : Int)), (0, .ref sb), (1, vi (q : Int))]) rfl (rfl : 10 + 1 = 11) (xdt tt_J5_ensureCapacityInternal_d00df 6 rfl) ?_
  refine b_sub [1, 2, 0] (lv' := [(0, .ref sb), (1, vi (q : Int)), (2, vi (m : Int))]) rfl ?_
  refine b_iload_n hC rfl 1 rfl (rfl : 11 + 1 = 12) (xdt tt_J5_ensureCapacityInternal_d00df 7 rfl) ?_
  refine b_iload_n hC rfl 2 rfl (rfl : 12 + 1 = 13) (xdt tt_J5_ensureCapacityInternal_d00df 8 rfl) ?_
  refine b_isub hC (rfl : 13 + 1 = 14) (xdt tt_J5_ensureCapacityInternal_d00df 9 rfl) ?_
  refine b_leZ hC (by omega) (by omega) (show ((14 : Nat) : Int) + 24 = ((38 : Nat) : Int) by decide) (rfl : 14 + 3 = 17) (xdt tt_J5_ensureCapacityInternal_d00df 10 rfl) (fun h => ?_) (fun h => ?_)
  · refine b_wid (cl' := 1) (sl' := 1200) (by omega) (by omega) ?_
    exact s_vret hC hE ⟨b, m, f, rfl, h, Nat.le_refl _, hm, fun _ _ => rfl⟩ (xdt tt_J5_ensureCapacityInternal_d00df 22 rfl)
  · refine b_aload_n hC rfl 0 rfl (rfl : 17 + 1 = 18) (xdt tt_J5_ensureCapacityInternal_d00df 11 rfl) ?_
    refine b_aload_n hC rfl 0 rfl (rfl : 18 + 1 = 19) (xdt tt_J5_ensureCapacityInternal_d00df 12 rfl) ?_
    refine s_get hC 0 rfl kclJ4 0 (by decide) q204 (v := .ref b) rfl (rfl : 19 + 3 = 22) (xdt tt_J5_ensureCapacityInternal_d00df 13 rfl) ?_
    refine b_aload_n hC rfl 0 rfl (rfl : 22 + 1 = 23) (xdt tt_J5_ensureCapacityInternal_d00df 14 rfl) ?_
    refine b_iload_n hC rfl 1 rfl (rfl : 23 + 1 = 24) (xdt tt_J5_ensureCapacityInternal_d00df 15 rfl) ?_
    refine s_callUi hC 0 rfl (fun hts hp hR => cw_U1 hts m_J5_newCapacity_0f7a4 q232 ((hp _ (by decide)).use rfl) hR) ⟨by decide, by decide⟩ (by decide) (by decide) [vi (q : Int)] rfl (fun l => c_newC l hA h hq) rfl (Nat.le_of_ble_eq_true rfl) (rfl : 24 + 3 = 27) (xdt tt_J5_ensureCapacityInternal_d00df 16 rfl) ?_
    refine b_aload_n hC rfl 0 rfl (rfl : 27 + 1 = 28) (xdt tt_J5_ensureCapacityInternal_d00df 17 rfl) ?_
    refine s_get hC 0 rfl kclJ4 1 (by decide) q205 (v := vi 0) rfl (rfl : 28 + 3 = 31) (xdt tt_J5_ensureCapacityInternal_d00df 18 rfl) ?_
    refine b_ishl hC (rfl : 31 + 1 = 32) (xdt tt_J5_ensureCapacityInternal_d00df 19 rfl) ?_
    refine b_eqi (y := ((max q (2 * m + 2) : Nat) : Int)) (iSl_0 _ (by omega)).symm ?_
    refine s_callSr hC m_J7_copyOf_9075b q249 ⟨by decide, by decide⟩ (by decide) (by decide) [.ref b, vi ((max q (2 * m + 2) : Nat) : Int)] rfl (fun l => c_copyOf l 1 rfl (by omega) (by omega)) rfl (Nat.le_of_ble_eq_true rfl) (rfl : 32 + 3 = 35) (xdt tt_J5_ensureCapacityInternal_d00df 20 rfl) (fun a u hu => ?_)
    obtain ⟨g, rfl, hg⟩ := hu
    refine s_put hC 1 rfl kclJ4 0 (by decide) rfl q204 rfl rfl (rfl : 35 + 3 = 38) (xdt tt_J5_ensureCapacityInternal_d00df 21 rfl) ?_
    refine s_norm (ws' := [(a, .inr (max q (2 * m + 2), g)), (sb, .inl (1, [.ref a, vi 0, vi 0, vi (n : Int)])), (b, .inr (m, f))]) rfl ?_
    refine s_pick [1, 0] (by decide) (ws' := bob sb a n (max q (2 * m + 2)) g) rfl ?_
    exact s_vret hC hE ⟨a, _, g, rfl, by omega, by omega, by omega, hg⟩ (xdt tt_J5_ensureCapacityInternal_d00df 22 rfl)
