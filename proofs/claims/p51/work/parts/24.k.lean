def ldL (q : Nat) : List Int := match xldc[q]? with
  | some z => z.2.2.2.map (fun x => x.toInt)
  | none => []
def ldF (q : Nat) : Nat → Int := fun j => (ldL q).getD j 0
theorem ldF_of {q : Nat} (hq : q < xldc.length) : (fun j => ((xldc[q]).2.2.2.getD j 0).toInt) = ldF q := by
  funext j
  unfold ldF ldL
  rw [List.getElem?_eq_getElem hq]
  show _ = List.getD (List.map _ _) j 0
  rw [List.getD_eq_getElem?_getD, List.getD_eq_getElem?_getD, List.getElem?_map]
  cases (xldc[q]).2.2.2[j]? <;> rfl
theorem ldL_len {q : Nat} (hq : q < xldc.length) : (ldL q).length = xln q := by
  rw [xln_of hq]
  unfold ldL
  rw [List.getElem?_eq_getElem hq]
  exact List.length_map _
theorem xln_all : xldc.all (fun z => decide (z.2.2.2.length ≤ 100)) = true := by decide +kernel
theorem xln_le {q : Nat} (hq : q < xldc.length) : xln q ≤ 100 := by
  rw [xln_of hq]
  exact of_decide_eq_true (List.all_eq_true.mp xln_all _ (List.getElem_mem hq))
theorem xlen_e {S : xSt} {q : Nat} (hq : q < xldc.length) : f_J0_length_8abf5 S q = some ((xln q : Int), S) := by
  unfold f_J0_length_8abf5 f_J0_coder_7d493
  have := xln_le hq
  show some (iSr ((xln q : Nat) : Int) 0, S) = _
  rw [iSr_0 _ (by omega)]
theorem canE_e {S : xSt} {c : Nat} (hc : c < 128) : f_J1_canEncode_fc78d S (c : Int) = some (1, S) := by
  unfold f_J1_canEncode_fc78d
  have e : wr 255 = 255 := by decide
  rw [if_neg (by rw [e, wrN (by omega)]; omega)]
theorem chkL_e {S : xSt} {n : Nat} (hn : n ≤ 1200) : f_J7_checkLength_df160 S 0 (n : Int) = some S := by
  unfold f_J7_checkLength_df160
  have e : wr 0 = 0 := by decide
  rw [if_pos (by rw [e, wrN (by omega)]; omega)]
def dgN (v : Nat) : Nat := if v < 10 then 1 else 2
def dgL (v : Nat) : List Int := if v < 10 then [((48 + v : Nat) : Int)] else [((48 + v / 10 : Nat) : Int), ((48 + v % 10 : Nat) : Int)]
theorem dgL_len (v : Nat) : (dgL v).length = dgN v := by unfold dgL dgN; split <;> rfl
theorem strSz_e {S : xSt} {v : Nat} (hf : 5 ≤ fu S) (hv : v < 100) : f_J6_stringSize_0f7a4 S (v : Int) = some ((dgN v : Int), S) := by
  obtain ⟨k, hk⟩ : ∃ k, fu S = k + 3 := ⟨fu S - 3, by omega⟩
  have e0 : wr 0 = 0 := by decide
  have e10 : wr 10 = 10 := by decide
  have e1 : wr 1 = 1 := by decide
  have e2 : wr (1 + 1) = 2 := by decide
  have em : wr (-10) = -10 := by decide
  have eM : wr (10 * -10) = -100 := by decide
  have ev : wr (-(v : Int)) = -(v : Int) := wr_id (by omega)
  unfold f_J6_stringSize_0f7a4 dgN
  rw [if_neg (by rw [wrN (by omega)]; omega), hk, f_J6_stringSize_0f7a4_b16, if_neg (by rw [e10, e1]; omega)]
  by_cases c : v < 10
  · rw [if_neg (by rw [ev, em]; omega), if_pos c]
    rfl
  · rw [if_pos (by rw [ev, em]; omega), f_J6_stringSize_0f7a4_b16, if_neg (by rw [e10, e2]; omega), if_neg (by rw [ev, eM]; omega), if_neg c]
    rfl
theorem getD_app (L M : List Int) (j : Nat) : (L ++ M).getD j 0 = if j < L.length then L.getD j 0 else M.getD (j - L.length) 0 := by
  rw [List.getD_eq_getElem?_getD, List.getD_eq_getElem?_getD, List.getD_eq_getElem?_getD]
  split
  · rw [List.getElem?_append_left (by assumption)]
  · rw [List.getElem?_append_right (by omega)]
/-- the builder holds the letters L -/
def SBD (L : List Int) (sb : Nat) (u : sW) : Prop := ∃ (b m : Nat) (f : Nat → Int), u = bob sb b L.length m f ∧ L.length ≤ m ∧ m ≤ 1200 ∧ ∀ j, j < L.length → f j = L.getD j 0

set_option maxHeartbeats 4000000 in
theorem c_appC5 (l : Launch) {E : xE} {B : Nat} {S : xSt} {sb b m c : Nat} {f : Nat → Int} {L : List Int} (hA : ∀ a, xA E a → B ≤ a) (hL : L.length + 1 ≤ 600) (hm : m ≤ 1200) (hn : L.length ≤ m) (hf : ∀ j, j < L.length → f j = L.getD j 0) (hc : c < 128) : Met l yJ5_append_3fe6f (xws yJ5_append_3fe6f cJ5_append_3fe6f 2 (some (.object "java/lang/AbstractStringBuilder"))) (rmN 5 1 1200) (SPc E B [.ref sb, vi (c : Int)] S (bob sb b L.length m f)) (SQr E B S (fun a u => a = sb ∧ SBD (L ++ [(c : Int)]) sb u)) 1 1200 (fun a => B ≤ a) := by
  obtain ⟨n, hnL⟩ : ∃ n, n = L.length := ⟨_, rfl⟩
  rw [← hnL] at hL hn hf ⊢
  refine metS (by decide +kernel) (Nat.le_of_ble_eq_true rfl) (fun K hC hE => ?_)
  have hC : xOK K cJ5_append_3fe6f RJ5 2 (rmN 5 1 1200) := hC
  show WB B (PS E B (bob sb b n m f)) 0 0 K E 0 [(0, .ref sb), (1, vi (c : Int))] [] S
  refine b_aload_n hC rfl 0 rfl (rfl : 0 + 1 = 1) (xdt tt_J5_append_3fe6f 0 rfl) ?_
  refine b_aload_n hC rfl 0 rfl (rfl : 1 + 1 = 2) (xdt tt_J5_append_3fe6f 1 rfl) ?_
  refine s_get hC 0 rfl kclJ4 3 (by decide) q223 (v := vi (n : Int)) rfl (rfl : 2 + 3 = 5) (xdt tt_J5_append_3fe6f 2 rfl) ?_
  refine b_iconst hC (rfl : 5 + 1 = 6) (xdt tt_J5_append_3fe6f 3 rfl) ?_
  refine b_iadd hC (rfl : 6 + 1 = 7) (xdt tt_J5_append_3fe6f 4 rfl) ?_
  refine b_eqi (y := ((n + 1 : Nat) : Int)) (by omega) ?_
  refine s_callUv hC 0 rfl (fun hts hp hR => cw_U1 hts m_J5_ensureCapacityInternal_d00df q228 ((hp _ (by decide)).use rfl) hR) ⟨by decide, by decide⟩ (by decide) (by decide) [vi ((n + 1 : Nat) : Int)] rfl (fun l => c_ens l hA (by omega) hm) rfl (Nat.le_of_ble_eq_true rfl) (rfl : 7 + 3 = 10) (xdt tt_J5_append_3fe6f 5 rfl) (fun u hu => ?_)
  obtain ⟨b', m', g, rfl, h1, h2, h3, h4⟩ := hu
  refine b_aload_n hC rfl 0 rfl (rfl : 10 + 1 = 11) (xdt tt_J5_append_3fe6f 6 rfl) ?_
  refine s_callUi hC 0 rfl (fun hts hp hR => cw_U1 hts m_J5_isLatin1_aae02 q262 (hts _ q264) hR) ⟨by decide, by decide⟩ (by decide) (by decide) [] rfl (fun l => c_isL l 0 rfl rfl) rfl (Nat.le_of_ble_eq_true rfl) (rfl : 11 + 3 = 14) (xdt tt_J5_append_3fe6f 7 rfl) ?_
  refine b_if_eq hC (show ((14 : Nat) : Int) + 31 = ((45 : Nat) : Int) by decide) (rfl : 14 + 3 = 17) (xdt tt_J5_append_3fe6f 8 rfl) (fun h => absurd h (by decide)) (fun _ => ?_)
  refine b_iload_n hC rfl 1 rfl (rfl : 17 + 1 = 18) (xdt tt_J5_append_3fe6f 9 rfl) ?_
  refine b_callSz hC ⟨hA, PS_keep⟩ ⟨by decide, by decide⟩ m_J1_canEncode_fc78d q381 ⟨by decide, by decide⟩ [vi (c : Int)] rfl (fun l => c_J1_canEncode_fc78d l (canE_e hc)) rfl (Nat.le_of_ble_eq_true rfl) (rfl : 18 + 3 = 21) (xdt tt_J5_append_3fe6f 10 rfl) (fun _ => ?_)
  refine b_if_eq hC (show ((21 : Nat) : Int) + 24 = ((45 : Nat) : Int) by decide) (rfl : 21 + 3 = 24) (xdt tt_J5_append_3fe6f 11 rfl) (fun h => absurd h (by decide)) (fun _ => ?_)
  refine b_aload_n hC rfl 0 rfl (rfl : 24 + 1 = 25) (xdt tt_J5_append_3fe6f 12 rfl) ?_
  refine s_get hC 0 rfl kclJ4 0 (by decide) q204 (v := .ref b') rfl (rfl : 25 + 3 = 28) (xdt tt_J5_append_3fe6f 13 rfl) ?_
  refine b_aload_n hC rfl 0 rfl (rfl : 28 + 1 = 29) (xdt tt_J5_append_3fe6f 14 rfl) ?_
  refine b_dup hC rfl (rfl : 29 + 1 = 30) (xdt tt_J5_append_3fe6f 15 rfl) ?_
  refine s_get hC 0 rfl kclJ4 3 (by decide) q223 (v := vi (n : Int)) rfl (rfl : 30 + 3 = 33) (xdt tt_J5_append_3fe6f 16 rfl) ?_
  refine b_dupx1 hC rfl rfl (rfl : 33 + 1 = 34) (xdt tt_J5_append_3fe6f 17 rfl) ?_
  refine b_iconst hC (rfl : 34 + 1 = 35) (xdt tt_J5_append_3fe6f 18 rfl) ?_
  refine b_iadd hC (rfl : 35 + 1 = 36) (xdt tt_J5_append_3fe6f 19 rfl) ?_
  refine b_eqi (y := ((n + 1 : Nat) : Int)) (by omega) ?_
  refine s_put hC 0 rfl kclJ4 3 (by decide) rfl q223 rfl rfl (rfl : 36 + 3 = 39) (xdt tt_J5_append_3fe6f 20 rfl) ?_
  refine s_norm (ws' := [(sb, .inl (1, [.ref b', vi 0, vi 0, vi ((n + 1 : Nat) : Int)])), (b', .inr (m', g))]) rfl ?_
  refine b_iload_n hC rfl 1 rfl (rfl : 39 + 1 = 40) (xdt tt_J5_append_3fe6f 21 rfl) ?_
  refine b_i2b hC (rfl : 40 + 1 = 41) (xdt tt_J5_append_3fe6f 22 rfl) ?_
  refine b_eqi (y := (c : Int)) (wb_id (by omega)).symm ?_
  refine s_bast hC 1 rfl (by omega) (by omega) (by omega) (rfl : 41 + 1 = 42) (xdt tt_J5_append_3fe6f 23 rfl) ?_
  refine s_norm (ws' := [(sb, .inl (1, [.ref b', vi 0, vi 0, vi ((n + 1 : Nat) : Int)])), (b', .inr (m', uN5 g n (c : Int)))]) rfl ?_
  refine b_goto hC (show ((42 : Nat) : Int) + 33 = ((75 : Nat) : Int) by decide) (xdt tt_J5_append_3fe6f 24 rfl) ?_
  refine b_aload_n hC rfl 0 rfl (rfl : 75 + 1 = 76) (xdt tt_J5_append_3fe6f 41 rfl) ?_
  refine s_aret hC (Or.inl ⟨_, rfl⟩) hE ⟨rfl, b', m', _, (by rw [List.length_append, ← hnL]; rfl), (by rw [List.length_append, ← hnL]; exact h1), h3, fun j hj => ?_⟩ (xdt tt_J5_append_3fe6f 42 rfl)
  rw [List.length_append, ← hnL] at hj
  rw [getD_app, ← hnL]
  unfold uN5
  by_cases c9 : j = n
  · rw [if_pos c9, if_neg (by omega), c9, Nat.sub_self]
    rfl
  · have hj2 : j < n + 1 := hj
    rw [if_neg c9, if_pos (by omega), h4 j (by omega), hf j (by omega)]
def dgF (f : Nat → Int) (n v : Nat) : Nat → Int := if v < 10 then uN5 f (n - 1) ((48 + v % 10 : Nat) : Int) else uN5 (uN5 f (n - 1) ((48 + v % 10 : Nat) : Int)) (n - 2) ((48 + v / 10 : Nat) : Int)
set_option maxHeartbeats 4000000 in
theorem c_getC (l : Launch) {E : xE} {B : Nat} {S : xSt} {sb b m n v : Nat} {fs : List Value} {f : Nat → Int} (hv : v < 100) (hn : dgN v ≤ n) (hm : n ≤ m) (hM : m ≤ 1200) : Met l yJ6_getChars_ba4f3 (xws yJ6_getChars_ba4f3 cJ6_getChars_ba4f3 7 (some .int)) (rmN 1 0 0) (SPc E B [vi (v : Int), vi (n : Int), .ref b] S [(sb, .inl (1, fs)), (b, .inr (m, f))]) (SQi E B ((n - dgN v : Nat) : Int) S [(sb, .inl (1, fs)), (b, .inr (m, dgF f n v))]) 0 0 (fun a => B ≤ a) := by
  have hd : dgN v = 1 ∨ dgN v = 2 := by unfold dgN; split <;> omega
  have hd1 : v < 10 → dgN v = 1 := fun h => by unfold dgN; rw [if_pos h]
  have hd2 : ¬ v < 10 → dgN v = 2 := fun h => by unfold dgN; rw [if_neg h]
  have e9 : wr (-9) = -9 := by decide
  have e100 : wr (-100) = -100 := by decide
  have e0 : wr 0 = 0 := by decide
  have ev : wr (-(v : Int)) = -(v : Int) := wr_id (by omega)
  refine metS (by decide +kernel) (Nat.le_of_ble_eq_true rfl) (fun K hC hE => ?_)
  have hC : xOK K cJ6_getChars_ba4f3 RJ6 7 (rmN 1 0 0) := hC
  show WB B (PS E B [(sb, .inl (1, fs)), (b, .inr (m, f))]) 0 0 K E 0 [(0, vi (v : Int)), (1, vi (n : Int)), (2, .ref b)] [] S
  refine b_iload_n hC rfl 1 rfl (rfl : 0 + 1 = 1) (xdt tt_J6_getChars_ba4f3 0 rfl) ?_
  refine b_istore hC (by decide) (lv' := [(5, vi (n : Int)), (0, vi (v : Int)), (1, vi (n : Int)), (2, .ref b)]) rfl (rfl : 1 + 2 = 3) (xdt tt_J6_getChars_ba4f3 1 rfl) ?_
  refine b_sub [1, 2, 3, 0] (lv' := [(0, vi (v : Int)), (1, vi (n : Int)), (2, .ref b), (5, vi (n : Int))]) rfl ?_
  refine b_iload_n hC rfl 0 rfl (rfl : 3 + 1 = 4) (xdt tt_J6_getChars_ba4f3 2 rfl) ?_
  refine b_if_ge hC (show ((4 : Nat) : Int) + 7 = ((11 : Nat) : Int) by decide) (rfl : 4 + 3 = 7) (xdt tt_J6_getChars_ba4f3 3 rfl) (fun _ => ?_) (fun h => absurd (show (0 : Int) ≤ wr (v : Int) by rw [wrN (by omega)]; omega) h)
  refine b_iconst hC (rfl : 11 + 1 = 12) (xdt tt_J6_getChars_ba4f3 6 rfl) ?_
  refine b_istore hC (by decide) (lv' := [(6, vi 0), (0, vi (v : Int)), (1, vi (n : Int)), (2, .ref b), (5, vi (n : Int))]) rfl (rfl : 12 + 2 = 14) (xdt tt_J6_getChars_ba4f3 7 rfl) ?_
  refine b_sub [1, 2, 3, 4, 0] (lv' := [(0, vi (v : Int)), (1, vi (n : Int)), (2, .ref b), (5, vi (n : Int)), (6, vi 0)]) rfl ?_
  refine b_iload hC 4 rfl (rfl : 14 + 2 = 16) (xdt tt_J6_getChars_ba4f3 8 rfl) ?_
  refine b_if_ne hC (show ((16 : Nat) : Int) + 6 = ((22 : Nat) : Int) by decide) (rfl : 16 + 3 = 19) (xdt tt_J6_getChars_ba4f3 9 rfl) (fun h => absurd h (by decide)) (fun _ => ?_)
  refine b_iload_n hC rfl 0 rfl (rfl : 19 + 1 = 20) (xdt tt_J6_getChars_ba4f3 10 rfl) ?_
  refine b_ineg hC (rfl : 20 + 1 = 21) (xdt tt_J6_getChars_ba4f3 11 rfl) ?_
  refine b_istore_n hC rfl (by decide) (lv' := [(0, vi (-(v : Int))), (1, vi (n : Int)), (2, .ref b), (5, vi (n : Int)), (6, vi 0)]) rfl (rfl : 21 + 1 = 22) (xdt tt_J6_getChars_ba4f3 12 rfl) ?_
  refine b_iload_n hC rfl 0 rfl (rfl : 22 + 1 = 23) (xdt tt_J6_getChars_ba4f3 13 rfl) ?_
  refine b_bipush hC (by decide) (rfl : 23 + 2 = 25) (xdt tt_J6_getChars_ba4f3 14 rfl) ?_
  refine b_icmp_gt hC (show ((25 : Nat) : Int) + 47 = ((72 : Nat) : Int) by decide) (rfl : 25 + 3 = 28) (xdt tt_J6_getChars_ba4f3 15 rfl) (fun _ => ?_) (fun h => absurd (show wr (-100) < wr (-(v : Int)) by rw [e100, ev]; omega) h)
  refine b_aload_n hC rfl 2 rfl (rfl : 72 + 1 = 73) (xdt tt_J6_getChars_ba4f3 43 rfl) ?_
  refine b_iinc hC 3 rfl (by decide) (lv' := [(5, vi ((n : Int) + (-1))), (0, vi (-(v : Int))), (1, vi (n : Int)), (2, .ref b), (6, vi 0)]) rfl (rfl : 73 + 3 = 76) (xdt tt_J6_getChars_ba4f3 44 rfl) ?_
  refine b_sub [1, 2, 3, 0, 4] (lv' := [(0, vi (-(v : Int))), (1, vi (n : Int)), (2, .ref b), (5, vi ((n : Int) + (-1))), (6, vi 0)]) rfl ?_
  refine b_iload hC 3 rfl (rfl : 76 + 2 = 78) (xdt tt_J6_getChars_ba4f3 45 rfl) ?_
  refine b_eqi (y := ((n - 1 : Nat) : Int)) (by omega) ?_
  refine s_dig hC (Or.inl ⟨rfl, rfl⟩) q360 (rfl : 78 + 3 = 81) (xdt tt_J6_getChars_ba4f3 46 rfl) (fun t => ?_)
  refine b_iload_n hC rfl 0 rfl (rfl : 81 + 1 = 82) (xdt tt_J6_getChars_ba4f3 47 rfl) ?_
  refine b_ineg hC (rfl : 82 + 1 = 83) (xdt tt_J6_getChars_ba4f3 48 rfl) ?_
  refine b_eqi (y := (v : Int)) (by omega) ?_
  refine s_dald hC (v := ((48 + v % 10 : Nat) : Int)) hv rfl (rfl : 83 + 1 = 84) (xdt tt_J6_getChars_ba4f3 49 rfl) ?_
  refine s_bast hC 1 rfl (by omega) (by omega) (by omega) (rfl : 84 + 1 = 85) (xdt tt_J6_getChars_ba4f3 50 rfl) ?_
  refine s_norm (ws' := [(sb, .inl (1, fs)), (b, .inr (m, uN5 f (n - 1) ((48 + v % 10 : Nat) : Int)))]) rfl ?_
  refine b_iload_n hC rfl 0 rfl (rfl : 85 + 1 = 86) (xdt tt_J6_getChars_ba4f3 51 rfl) ?_
  refine b_bipush hC (by decide) (rfl : 86 + 2 = 88) (xdt tt_J6_getChars_ba4f3 52 rfl) ?_
  refine b_icmp_ge hC (show ((88 : Nat) : Int) + 16 = ((104 : Nat) : Int) by decide) (rfl : 88 + 3 = 91) (xdt tt_J6_getChars_ba4f3 53 rfl) (fun h => ?_) (fun h => ?_)
  · rw [e9, ev] at h
    have c : v < 10 := by omega
    refine b_iload hC 4 rfl (rfl : 104 + 2 = 106) (xdt tt_J6_getChars_ba4f3 62 rfl) ?_
    refine b_if_eq hC (show ((106 : Nat) : Int) + 12 = ((118 : Nat) : Int) by decide) (rfl : 106 + 3 = 109) (xdt tt_J6_getChars_ba4f3 63 rfl) (fun _ => ?_) (fun h => absurd (by decide) h)
    refine b_iload hC 3 rfl (rfl : 118 + 2 = 120) (xdt tt_J6_getChars_ba4f3 69 rfl) ?_
    refine b_eqi (y := ((n - dgN v : Nat) : Int)) (by rw [hd1 c]; omega) ?_
    refine s_norm (ws' := [(sb, .inl (1, fs)), (b, .inr (m, dgF f n v))]) (by unfold dgF; rw [if_pos c]) ?_
    exact s_iret hC hE (xdt tt_J6_getChars_ba4f3 70 rfl)
  · rw [e9, ev] at h
    have c : ¬ v < 10 := by omega
    have hn2 := hd2 c
    refine b_aload_n hC rfl 2 rfl (rfl : 91 + 1 = 92) (xdt tt_J6_getChars_ba4f3 54 rfl) ?_
    refine b_iinc hC 3 rfl (by decide) (lv' := [(5, vi (((n : Int) + (-1)) + (-1))), (0, vi (-(v : Int))), (1, vi (n : Int)), (2, .ref b), (6, vi 0)]) rfl (rfl : 92 + 3 = 95) (xdt tt_J6_getChars_ba4f3 55 rfl) ?_
    refine b_sub [1, 2, 3, 0, 4] (lv' := [(0, vi (-(v : Int))), (1, vi (n : Int)), (2, .ref b), (5, vi (((n : Int) + (-1)) + (-1))), (6, vi 0)]) rfl ?_
    refine b_iload hC 3 rfl (rfl : 95 + 2 = 97) (xdt tt_J6_getChars_ba4f3 56 rfl) ?_
    refine b_eqi (y := ((n - 2 : Nat) : Int)) (by omega) ?_
    refine s_dig hC (Or.inr ⟨rfl, rfl⟩) q361 (rfl : 97 + 3 = 100) (xdt tt_J6_getChars_ba4f3 57 rfl) (fun t => ?_)
    refine b_iload_n hC rfl 0 rfl (rfl : 100 + 1 = 101) (xdt tt_J6_getChars_ba4f3 58 rfl) ?_
    refine b_ineg hC (rfl : 101 + 1 = 102) (xdt tt_J6_getChars_ba4f3 59 rfl) ?_
    refine b_eqi (y := (v : Int)) (by omega) ?_
    refine s_dald hC (v := ((48 + v / 10 : Nat) : Int)) hv rfl (rfl : 102 + 1 = 103) (xdt tt_J6_getChars_ba4f3 60 rfl) ?_
    refine s_bast hC 1 rfl (by omega) (by omega) (by omega) (rfl : 103 + 1 = 104) (xdt tt_J6_getChars_ba4f3 61 rfl) ?_
    refine s_norm (ws' := [(sb, .inl (1, fs)), (b, .inr (m, uN5 (uN5 f (n - 1) ((48 + v % 10 : Nat) : Int)) (n - 2) ((48 + v / 10 : Nat) : Int)))]) rfl ?_
    refine b_iload hC 4 rfl (rfl : 104 + 2 = 106) (xdt tt_J6_getChars_ba4f3 62 rfl) ?_
    refine b_if_eq hC (show ((106 : Nat) : Int) + 12 = ((118 : Nat) : Int) by decide) (rfl : 106 + 3 = 109) (xdt tt_J6_getChars_ba4f3 63 rfl) (fun _ => ?_) (fun h => absurd (by decide) h)
    refine b_iload hC 3 rfl (rfl : 118 + 2 = 120) (xdt tt_J6_getChars_ba4f3 69 rfl) ?_
    refine b_eqi (y := ((n - dgN v : Nat) : Int)) (by rw [hd2 c]; omega) ?_
    refine s_norm (ws' := [(sb, .inl (1, fs)), (b, .inr (m, dgF f n v))]) (by unfold dgF; rw [if_neg c]) ?_
    exact s_iret hC hE (xdt tt_J6_getChars_ba4f3 70 rfl)
theorem dg_at {n v : Nat} {g : Nat → Int} {L : List Int} (hn : n = L.length) (hv : v < 100) (hg : ∀ j, j < n → g j = L.getD j 0) {j : Nat} (hj : j < n + dgN v) : dgF g (n + dgN v) v j = (L ++ dgL v).getD j 0 := by
  rw [getD_app, ← hn]
  unfold dgF dgL dgN uN5 at *
  by_cases c : v < 10
  · rw [if_pos c] at hj
    simp only [if_pos c]
    by_cases c1 : j < n
    · rw [if_neg (by omega), if_pos c1, hg j c1]
    · obtain rfl : j = n := by omega
      rw [if_pos (by omega), if_neg (by omega), Nat.sub_self, Nat.mod_eq_of_lt c]
      rfl
  · rw [if_neg c] at hj
    simp only [if_neg c]
    by_cases c1 : j < n
    · rw [if_neg (by omega), if_neg (by omega), if_pos c1, hg j c1]
    · rw [if_neg c1]
      by_cases c2 : j = n
      · subst c2
        rw [if_pos (by omega), Nat.sub_self]
        rfl
      · obtain rfl : j = n + 1 := by omega
        rw [if_neg (by omega), if_pos (by omega), show n + 1 - n = 1 by omega]
        rfl
set_option maxHeartbeats 4000000 in
theorem c_appI5 (l : Launch) {E : xE} {B : Nat} {S : xSt} {sb b m v : Nat} {f : Nat → Int} {L : List Int} (hA : ∀ a, xA E a → B ≤ a) (hL : L.length + 2 ≤ 600) (hm : m ≤ 1200) (hn : L.length ≤ m) (hf : ∀ j, j < L.length → f j = L.getD j 0) (hv : v < 100) (hfu : 5 ≤ fu S) : Met l yJ5_append_c97b9 (xws yJ5_append_c97b9 cJ5_append_c97b9 4 (some (.object "java/lang/AbstractStringBuilder"))) (rmN 5 1 1200) (SPc E B [.ref sb, vi (v : Int)] S (bob sb b L.length m f)) (SQr E B S (fun a u => a = sb ∧ SBD (L ++ dgL v) sb u)) 1 1200 (fun a => B ≤ a) := by
  obtain ⟨n, hnL⟩ : ∃ n, n = L.length := ⟨_, rfl⟩
  rw [← hnL] at hL hn hf ⊢
  have hd : dgN v = 1 ∨ dgN v = 2 := by unfold dgN; split <;> omega
  refine metS (by decide +kernel) (Nat.le_of_ble_eq_true rfl) (fun K hC hE => ?_)
  have hC : xOK K cJ5_append_c97b9 RJ5 4 (rmN 5 1 1200) := hC
  show WB B (PS E B (bob sb b n m f)) 0 0 K E 0 [(0, .ref sb), (1, vi (v : Int))] [] S
  refine b_aload_n hC rfl 0 rfl (rfl : 0 + 1 = 1) (xdt tt_J5_append_c97b9 0 rfl) ?_
  refine s_get hC 0 rfl kclJ4 3 (by decide) q223 (v := vi (n : Int)) rfl (rfl : 1 + 3 = 4) (xdt tt_J5_append_c97b9 1 rfl) ?_
  refine b_istore_n hC rfl (by decide) (lv' := [(2, vi (n : Int)), (0, .ref sb), (1, vi (v : Int))]) rfl (rfl : 4 + 1 = 5) (xdt tt_J5_append_c97b9 2 rfl) ?_
  refine b_sub [1, 2, 0] (lv' := [(0, .ref sb), (1, vi (v : Int)), (2, vi (n : Int))]) rfl ?_
  refine b_iload_n hC rfl 2 rfl (rfl : 5 + 1 = 6) (xdt tt_J5_append_c97b9 3 rfl) ?_
  refine b_iload_n hC rfl 1 rfl (rfl : 6 + 1 = 7) (xdt tt_J5_append_c97b9 4 rfl) ?_
  refine b_callSi hC ⟨hA, PS_keep⟩ ⟨Nat.zero_le _, Nat.zero_le _⟩ m_J6_stringSize_0f7a4 q353 ⟨by decide, by decide⟩ [vi (v : Int)] rfl (fun l => c_J6_stringSize_0f7a4 l (strSz_e hfu hv)) rfl (Nat.le_of_ble_eq_true rfl) (rfl : 7 + 3 = 10) (xdt tt_J5_append_c97b9 5 rfl) ?_
  refine b_iadd hC (rfl : 10 + 1 = 11) (xdt tt_J5_append_c97b9 6 rfl) ?_
  refine b_eqi (y := ((n + dgN v : Nat) : Int)) (by omega) ?_
  refine b_istore_n hC rfl (by decide) (lv' := [(3, vi ((n + dgN v : Nat) : Int)), (0, .ref sb), (1, vi (v : Int)), (2, vi (n : Int))]) rfl (rfl : 11 + 1 = 12) (xdt tt_J5_append_c97b9 7 rfl) ?_
  refine b_sub [1, 2, 3, 0] (lv' := [(0, .ref sb), (1, vi (v : Int)), (2, vi (n : Int)), (3, vi ((n + dgN v : Nat) : Int))]) rfl ?_
  refine b_aload_n hC rfl 0 rfl (rfl : 12 + 1 = 13) (xdt tt_J5_append_c97b9 8 rfl) ?_
  refine b_iload_n hC rfl 3 rfl (rfl : 13 + 1 = 14) (xdt tt_J5_append_c97b9 9 rfl) ?_
  refine s_callUv hC 0 rfl (fun hts hp hR => cw_U1 hts m_J5_ensureCapacityInternal_d00df q228 ((hp _ (by decide)).use rfl) hR) ⟨by decide, by decide⟩ (by decide) (by decide) [vi ((n + dgN v : Nat) : Int)] rfl (fun l => c_ens l hA (by omega) hm) rfl (Nat.le_of_ble_eq_true rfl) (rfl : 14 + 3 = 17) (xdt tt_J5_append_c97b9 10 rfl) (fun u hu => ?_)
  obtain ⟨b', m', g, rfl, h1, h2, h3, h4⟩ := hu
  refine b_aload_n hC rfl 0 rfl (rfl : 17 + 1 = 18) (xdt tt_J5_append_c97b9 11 rfl) ?_
  refine s_callUi hC 0 rfl (fun hts hp hR => cw_U1 hts m_J5_isLatin1_aae02 q262 (hts _ q264) hR) ⟨by decide, by decide⟩ (by decide) (by decide) [] rfl (fun l => c_isL l 0 rfl rfl) rfl (Nat.le_of_ble_eq_true rfl) (rfl : 18 + 3 = 21) (xdt tt_J5_append_c97b9 12 rfl) ?_
  refine b_if_eq hC (show ((21 : Nat) : Int) + 16 = ((37 : Nat) : Int) by decide) (rfl : 21 + 3 = 24) (xdt tt_J5_append_c97b9 13 rfl) (fun h => absurd h (by decide)) (fun _ => ?_)
  refine b_iload_n hC rfl 1 rfl (rfl : 24 + 1 = 25) (xdt tt_J5_append_c97b9 14 rfl) ?_
  refine b_iload_n hC rfl 3 rfl (rfl : 25 + 1 = 26) (xdt tt_J5_append_c97b9 15 rfl) ?_
  refine b_aload_n hC rfl 0 rfl (rfl : 26 + 1 = 27) (xdt tt_J5_append_c97b9 16 rfl) ?_
  refine s_get hC 0 rfl kclJ4 0 (by decide) q204 (v := .ref b') rfl (rfl : 27 + 3 = 30) (xdt tt_J5_append_c97b9 17 rfl) ?_
  refine s_callSi hC m_J6_getChars_ba4f3 q357 ⟨by decide, by decide⟩ (by decide) (by decide) [vi (v : Int), vi ((n + dgN v : Nat) : Int), .ref b'] rfl (fun l => c_getC l hv (by omega) (by omega) (by omega)) rfl (Nat.le_of_ble_eq_true rfl) (rfl : 30 + 3 = 33) (xdt tt_J5_append_c97b9 18 rfl) ?_
  refine b_pop hC rfl (rfl : 33 + 1 = 34) (xdt tt_J5_append_c97b9 19 rfl) ?_
  refine b_goto hC (show ((34 : Nat) : Int) + 14 = ((48 : Nat) : Int) by decide) (xdt tt_J5_append_c97b9 20 rfl) ?_
  refine b_aload_n hC rfl 0 rfl (rfl : 48 + 1 = 49) (xdt tt_J5_append_c97b9 28 rfl) ?_
  refine b_iload_n hC rfl 3 rfl (rfl : 49 + 1 = 50) (xdt tt_J5_append_c97b9 29 rfl) ?_
  refine s_put hC 0 rfl kclJ4 3 (by decide) rfl q223 rfl rfl (rfl : 50 + 3 = 53) (xdt tt_J5_append_c97b9 30 rfl) ?_
  refine s_norm (ws' := [(sb, .inl (1, [.ref b', vi 0, vi 0, vi ((n + dgN v : Nat) : Int)])), (b', .inr (m', dgF g (n + dgN v) v))]) rfl ?_
  refine b_aload_n hC rfl 0 rfl (rfl : 53 + 1 = 54) (xdt tt_J5_append_c97b9 31 rfl) ?_
  exact s_aret hC (Or.inl ⟨_, rfl⟩) hE ⟨rfl, b', m', _, (by rw [List.length_append, dgL_len, ← hnL]), (by rw [List.length_append, dgL_len, ← hnL]; exact h1), h3, fun j hj => dg_at hnL hv (fun j hj => (h4 j (by omega)).trans (hf j hj)) (by rw [List.length_append, dgL_len, ← hnL] at hj; exact hj)⟩ (xdt tt_J5_append_c97b9 32 rfl)
