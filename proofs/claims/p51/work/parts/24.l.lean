set_option maxHeartbeats 4000000 in
theorem c_infl (l : Launch) {E : xE} {B : Nat} {S : xSt} {sb q : Nat} {fs : List Value} {ws : sW} (hA : ∀ a, xA E a → B ≤ a) (q0 : Nat) (hq0 : ws[q0]? = some (sb, .inl (1, fs))) (h1 : fs.getD 1 .null = vi 0) (hq : q < xldc.length) : Met l yJ5_inflateIfNeededFor_a7421 (xws yJ5_inflateIfNeededFor_a7421 cJ5_inflateIfNeededFor_a7421 2 none) (rmN 2 0 0) (SPc E B [.ref sb, vs E q] S ws) (SQv E B S (fun u => u = ws)) 0 0 (fun a => B ≤ a) := by
  refine metS (by decide +kernel) (Nat.le_of_ble_eq_true rfl) (fun K hC hE => ?_)
  have hC : xOK K cJ5_inflateIfNeededFor_a7421 RJ5 2 (rmN 2 0 0) := hC
  show WB B (PS E B ws) 0 0 K E 0 [(0, .ref sb), (1, vs E q)] [] S
  refine b_strS hC q203 (rfl : 0 + 3 = 3) (xdt tt_J5_inflateIfNeededFor_a7421 0 rfl) ?_
  refine b_if_eq hC (show ((3 : Nat) : Int) + 18 = ((21 : Nat) : Int) by decide) (rfl : 3 + 3 = 6) (xdt tt_J5_inflateIfNeededFor_a7421 1 rfl) (fun h => absurd h (by decide)) (fun _ => ?_)
  refine b_aload_n hC rfl 0 rfl (rfl : 6 + 1 = 7) (xdt tt_J5_inflateIfNeededFor_a7421 2 rfl) ?_
  refine s_get hC q0 hq0 kclJ4 1 (by decide) q205 h1 (rfl : 7 + 3 = 10) (xdt tt_J5_inflateIfNeededFor_a7421 3 rfl) ?_
  refine b_aload_n hC rfl 1 rfl (rfl : 10 + 1 = 11) (xdt tt_J5_inflateIfNeededFor_a7421 4 rfl) ?_
  refine b_callTb hC ⟨hA, PS_keep⟩ ⟨Nat.zero_le _, Nat.zero_le _⟩ hq m_J0_coder_7d493 q310 ⟨by decide, by decide⟩ [] rfl (fun l => c_J0_coder_7d493 l hq rfl) rfl (Nat.le_of_ble_eq_true rfl) (rfl : 11 + 3 = 14) (xdt tt_J5_inflateIfNeededFor_a7421 5 rfl) (fun _ => ?_)
  refine b_icmp_eq hC (show ((14 : Nat) : Int) + 7 = ((21 : Nat) : Int) by decide) (rfl : 14 + 3 = 17) (xdt tt_J5_inflateIfNeededFor_a7421 6 rfl) (fun _ => ?_) (fun h => absurd rfl h)
  exact s_vret hC hE rfl (xdt tt_J5_inflateIfNeededFor_a7421 9 rfl)
set_option maxHeartbeats 4000000 in
theorem c_getB (l : Launch) {E : xE} {B : Nat} {S : xSt} {b m n q : Nat} {f : Nat → Int} {ws : sW} (hA : ∀ a, xA E a → B ≤ a) (q0 : Nat) (hq0 : ws[q0]? = some (b, .inr (m, f))) (hq : q < xldc.length) (hn : n + xln q ≤ m) (hm : m ≤ 1200) : Met l yJ0_getBytes_840e7 (xws yJ0_getBytes_840e7 cJ0_getBytes_840e7 4 none) (rmN 2 0 0) (SPc E B [vs E q, .ref b, vi (n : Int), vi 0] S ws) (SQv E B S (fun u => u = ws.set q0 (b, .inr (m, cpI (ldF q) f 0 n (xln q))))) 0 0 (fun a => B ≤ a) := by
  have hxl := xln_of hq
  have hxs := xln_le hq
  refine metS (by decide +kernel) (Nat.le_of_ble_eq_true rfl) (fun K hC hE => ?_)
  have hC : xOK K cJ0_getBytes_840e7 RJ0 4 (rmN 2 0 0) := hC
  show WB B (PS E B ws) 0 0 K E 0 [(0, vs E q), (1, .ref b), (2, vi (n : Int)), (3, vi 0)] [] S
  refine b_aload_n hC rfl 0 rfl (rfl : 0 + 1 = 1) (xdt tt_J0_getBytes_840e7 0 rfl) ?_
  refine b_callTb hC ⟨hA, PS_keep⟩ ⟨Nat.zero_le _, Nat.zero_le _⟩ hq m_J0_coder_7d493 q296 ⟨by decide, by decide⟩ [] rfl (fun l => c_J0_coder_7d493 l hq rfl) rfl (Nat.le_of_ble_eq_true rfl) (rfl : 1 + 3 = 4) (xdt tt_J0_getBytes_840e7 1 rfl) (fun _ => ?_)
  refine b_iload_n hC rfl 3 rfl (rfl : 4 + 1 = 5) (xdt tt_J0_getBytes_840e7 2 rfl) ?_
  refine b_icmp_ne hC (show ((5 : Nat) : Int) + 23 = ((28 : Nat) : Int) by decide) (rfl : 5 + 3 = 8) (xdt tt_J0_getBytes_840e7 3 rfl) (fun h => absurd rfl h) (fun _ => ?_)
  refine b_aload_n hC rfl 0 rfl (rfl : 8 + 1 = 9) (xdt tt_J0_getBytes_840e7 4 rfl) ?_
  refine b_strV hC hq q295 (rfl : 9 + 3 = 12) (xdt tt_J0_getBytes_840e7 5 rfl) ?_
  refine b_iconst hC (rfl : 12 + 1 = 13) (xdt tt_J0_getBytes_840e7 6 rfl) ?_
  refine b_aload_n hC rfl 1 rfl (rfl : 13 + 1 = 14) (xdt tt_J0_getBytes_840e7 7 rfl) ?_
  refine b_iload_n hC rfl 2 rfl (rfl : 14 + 1 = 15) (xdt tt_J0_getBytes_840e7 8 rfl) ?_
  refine b_iload_n hC rfl 3 rfl (rfl : 15 + 1 = 16) (xdt tt_J0_getBytes_840e7 9 rfl) ?_
  refine b_ishl hC (rfl : 16 + 1 = 17) (xdt tt_J0_getBytes_840e7 10 rfl) ?_
  refine b_eqi (y := (n : Int)) (iSl_0 n (by omega)).symm ?_
  refine b_aload_n hC rfl 0 rfl (rfl : 17 + 1 = 18) (xdt tt_J0_getBytes_840e7 11 rfl) ?_
  refine b_strV hC hq q295 (rfl : 18 + 3 = 21) (xdt tt_J0_getBytes_840e7 12 rfl) ?_
  refine b_vlen hC hq (rfl : 21 + 1 = 22) (xdt tt_J0_getBytes_840e7 13 rfl) ?_
  refine s_copyV hC hq q0 hq0 (a := 0) (b := n) (z := xln q) (by omega) (by omega) (by omega) (by omega) q335 q78 q79 q80 (by decide) (Nat.le_of_ble_eq_true rfl) (rfl : 22 + 3 = 25) (xdt tt_J0_getBytes_840e7 14 rfl) ?_
  refine b_goto hC (show ((25 : Nat) : Int) + 18 = ((43 : Nat) : Int) by decide) (xdt tt_J0_getBytes_840e7 15 rfl) ?_
  exact s_vret hC hE (by rw [ldF_of hq]) (xdt tt_J0_getBytes_840e7 25 rfl)
set_option maxHeartbeats 4000000 in
theorem c_putS (l : Launch) {E : xE} {B : Nat} {S : xSt} {sb b k m n q : Nat} {f : Nat → Int} (hA : ∀ a, xA E a → B ≤ a) (hq : q < xldc.length) (hn : n + xln q ≤ m) (hm : m ≤ 1200) : Met l yJ5_putStringAt_47b60 (xws yJ5_putStringAt_47b60 cJ5_putStringAt_47b60 3 none) (rmN 3 0 0) (SPc E B [.ref sb, vi (n : Int), vs E q] S (bob sb b k m f)) (SQv E B S (fun u => u = bob sb b k m (cpI (ldF q) f 0 n (xln q)))) 0 0 (fun a => B ≤ a) := by
  refine metS (by decide +kernel) (Nat.le_of_ble_eq_true rfl) (fun K hC hE => ?_)
  have hC : xOK K cJ5_putStringAt_47b60 RJ5 3 (rmN 3 0 0) := hC
  show WB B (PS E B (bob sb b k m f)) 0 0 K E 0 [(0, .ref sb), (1, vi (n : Int)), (2, vs E q)] [] S
  refine b_aload_n hC rfl 0 rfl (rfl : 0 + 1 = 1) (xdt tt_J5_putStringAt_47b60 0 rfl) ?_
  refine b_aload_n hC rfl 2 rfl (rfl : 1 + 1 = 2) (xdt tt_J5_putStringAt_47b60 1 rfl) ?_
  refine s_callUv hC 0 rfl (fun hts hp hR => cw_U1 hts m_J5_inflateIfNeededFor_a7421 q306 ((hp _ (by decide)).use rfl) hR) ⟨by decide, by decide⟩ (by decide) (by decide) [vs E q] rfl (fun l => c_infl l hA 0 rfl rfl hq) rfl (Nat.le_of_ble_eq_true rfl) (rfl : 2 + 3 = 5) (xdt tt_J5_putStringAt_47b60 2 rfl) (fun u hu => ?_)
  subst hu
  refine b_aload_n hC rfl 2 rfl (rfl : 5 + 1 = 6) (xdt tt_J5_putStringAt_47b60 3 rfl) ?_
  refine b_aload_n hC rfl 0 rfl (rfl : 6 + 1 = 7) (xdt tt_J5_putStringAt_47b60 4 rfl) ?_
  refine s_get hC 0 rfl kclJ4 0 (by decide) q204 (v := .ref b) rfl (rfl : 7 + 3 = 10) (xdt tt_J5_putStringAt_47b60 5 rfl) ?_
  refine b_iload_n hC rfl 1 rfl (rfl : 10 + 1 = 11) (xdt tt_J5_putStringAt_47b60 6 rfl) ?_
  refine b_aload_n hC rfl 0 rfl (rfl : 11 + 1 = 12) (xdt tt_J5_putStringAt_47b60 7 rfl) ?_
  refine s_get hC 0 rfl kclJ4 1 (by decide) q205 (v := vi 0) rfl (rfl : 12 + 3 = 15) (xdt tt_J5_putStringAt_47b60 8 rfl) ?_
  refine s_callTv hC hq m_J0_getBytes_840e7 q331 ⟨by decide, by decide⟩ (by decide) (by decide) [.ref b, vi (n : Int), vi 0] rfl (fun l => c_getB l hA 1 rfl hq hn hm) rfl (Nat.le_of_ble_eq_true rfl) (rfl : 15 + 3 = 18) (xdt tt_J5_putStringAt_47b60 9 rfl) (fun u hu => ?_)
  subst hu
  exact s_vret hC hE rfl (xdt tt_J5_putStringAt_47b60 10 rfl)
theorem cp_at {n q : Nat} {g : Nat → Int} {L : List Int} (hn : n = L.length) (hq : q < xldc.length) (hg : ∀ j, j < n → g j = L.getD j 0) {j : Nat} (hj : j < n + xln q) : cpI (ldF q) g 0 n (xln q) j = (L ++ ldL q).getD j 0 := by
  rw [getD_app, ← hn]
  unfold cpI
  by_cases c : j < n
  · rw [if_neg (by omega), if_pos c, hg j c]
  · rw [if_pos (by omega), if_neg c, Nat.zero_add]
    rfl
set_option maxHeartbeats 4000000 in
theorem c_appS5 (l : Launch) {E : xE} {B : Nat} {S : xSt} {sb b m q : Nat} {f : Nat → Int} {L : List Int} (hA : ∀ a, xA E a → B ≤ a) (hq : q < xldc.length) (hL : L.length + xln q ≤ 600) (hm : m ≤ 1200) (hn : L.length ≤ m) (hf : ∀ j, j < L.length → f j = L.getD j 0) : Met l yJ5_append_cf1ce (xws yJ5_append_cf1ce cJ5_append_cf1ce 3 (some (.object "java/lang/AbstractStringBuilder"))) (rmN 5 1 1200) (SPc E B [.ref sb, vs E q] S (bob sb b L.length m f)) (SQr E B S (fun a u => a = sb ∧ SBD (L ++ ldL q) sb u)) 1 1200 (fun a => B ≤ a) := by
  obtain ⟨n, hnL⟩ : ∃ n, n = L.length := ⟨_, rfl⟩
  rw [← hnL] at hL hn hf ⊢
  refine metS (by decide +kernel) (Nat.le_of_ble_eq_true rfl) (fun K hC hE => ?_)
  have hC : xOK K cJ5_append_cf1ce RJ5 3 (rmN 5 1 1200) := hC
  show WB B (PS E B (bob sb b n m f)) 0 0 K E 0 [(0, .ref sb), (1, vs E q)] [] S
  refine b_aload_n hC rfl 1 rfl (rfl : 0 + 1 = 1) (xdt tt_J5_append_cf1ce 0 rfl) ?_
  refine b_ifnonnull hC (show ((1 : Nat) : Int) + 8 = ((9 : Nat) : Int) by decide) (xdt tt_J5_append_cf1ce 1 rfl) ?_
  refine b_aload_n hC rfl 1 rfl (rfl : 9 + 1 = 10) (xdt tt_J5_append_cf1ce 5 rfl) ?_
  refine b_callTi hC ⟨hA, PS_keep⟩ ⟨Nat.zero_le _, Nat.zero_le _⟩ hq m_J0_length_8abf5 q291 ⟨by decide, by decide⟩ [] rfl (fun l => c_J0_length_8abf5 l hq (xlen_e hq)) rfl (Nat.le_of_ble_eq_true rfl) (rfl : 10 + 3 = 13) (xdt tt_J5_append_cf1ce 6 rfl) ?_
  refine b_istore_n hC rfl (by decide) (lv' := [(2, vi (xln q : Int)), (0, .ref sb), (1, vs E q)]) rfl (rfl : 13 + 1 = 14) (xdt tt_J5_append_cf1ce 7 rfl) ?_
  refine b_sub [1, 2, 0] (lv' := [(0, .ref sb), (1, vs E q), (2, vi (xln q : Int))]) rfl ?_
  refine b_aload_n hC rfl 0 rfl (rfl : 14 + 1 = 15) (xdt tt_J5_append_cf1ce 8 rfl) ?_
  refine b_aload_n hC rfl 0 rfl (rfl : 15 + 1 = 16) (xdt tt_J5_append_cf1ce 9 rfl) ?_
  refine s_get hC 0 rfl kclJ4 3 (by decide) q223 (v := vi (n : Int)) rfl (rfl : 16 + 3 = 19) (xdt tt_J5_append_cf1ce 10 rfl) ?_
  refine b_iload_n hC rfl 2 rfl (rfl : 19 + 1 = 20) (xdt tt_J5_append_cf1ce 11 rfl) ?_
  refine b_iadd hC (rfl : 20 + 1 = 21) (xdt tt_J5_append_cf1ce 12 rfl) ?_
  refine b_eqi (y := ((n + xln q : Nat) : Int)) (by omega) ?_
  refine s_callUv hC 0 rfl (fun hts hp hR => cw_U1 hts m_J5_ensureCapacityInternal_d00df q228 ((hp _ (by decide)).use rfl) hR) ⟨by decide, by decide⟩ (by decide) (by decide) [vi ((n + xln q : Nat) : Int)] rfl (fun l => c_ens l hA (by omega) hm) rfl (Nat.le_of_ble_eq_true rfl) (rfl : 21 + 3 = 24) (xdt tt_J5_append_cf1ce 13 rfl) (fun u hu => ?_)
  obtain ⟨b', m', g, rfl, h1, h2, h3, h4⟩ := hu
  refine b_aload_n hC rfl 0 rfl (rfl : 24 + 1 = 25) (xdt tt_J5_append_cf1ce 14 rfl) ?_
  refine b_aload_n hC rfl 0 rfl (rfl : 25 + 1 = 26) (xdt tt_J5_append_cf1ce 15 rfl) ?_
  refine s_get hC 0 rfl kclJ4 3 (by decide) q223 (v := vi (n : Int)) rfl (rfl : 26 + 3 = 29) (xdt tt_J5_append_cf1ce 16 rfl) ?_
  refine b_aload_n hC rfl 1 rfl (rfl : 29 + 1 = 30) (xdt tt_J5_append_cf1ce 17 rfl) ?_
  refine s_callUv hC 0 rfl (fun hts hp hR => cw_U1 hts m_J5_putStringAt_47b60 q302 ((hp _ (by decide)).use rfl) hR) ⟨by decide, by decide⟩ (by decide) (by decide) [vi (n : Int), vs E q] rfl (fun l => c_putS l hA hq (by omega) h3) rfl (Nat.le_of_ble_eq_true rfl) (rfl : 30 + 3 = 33) (xdt tt_J5_append_cf1ce 18 rfl) (fun u hu => ?_)
  subst hu
  refine b_aload_n hC rfl 0 rfl (rfl : 33 + 1 = 34) (xdt tt_J5_append_cf1ce 19 rfl) ?_
  refine b_dup hC rfl (rfl : 34 + 1 = 35) (xdt tt_J5_append_cf1ce 20 rfl) ?_
  refine s_get hC 0 rfl kclJ4 3 (by decide) q223 (v := vi (n : Int)) rfl (rfl : 35 + 3 = 38) (xdt tt_J5_append_cf1ce 21 rfl) ?_
  refine b_iload_n hC rfl 2 rfl (rfl : 38 + 1 = 39) (xdt tt_J5_append_cf1ce 22 rfl) ?_
  refine b_iadd hC (rfl : 39 + 1 = 40) (xdt tt_J5_append_cf1ce 23 rfl) ?_
  refine b_eqi (y := ((n + xln q : Nat) : Int)) (by omega) ?_
  refine s_put hC 0 rfl kclJ4 3 (by decide) rfl q223 rfl rfl (rfl : 40 + 3 = 43) (xdt tt_J5_append_cf1ce 24 rfl) ?_
  refine s_norm (ws' := [(sb, .inl (1, [.ref b', vi 0, vi 0, vi ((n + xln q : Nat) : Int)])), (b', .inr (m', cpI (ldF q) g 0 n (xln q)))]) rfl ?_
  refine b_aload_n hC rfl 0 rfl (rfl : 43 + 1 = 44) (xdt tt_J5_append_cf1ce 25 rfl) ?_
  exact s_aret hC (Or.inl ⟨_, rfl⟩) hE ⟨rfl, b', m', _, (by rw [List.length_append, ldL_len hq, ← hnL]), (by rw [List.length_append, ldL_len hq, ← hnL]; exact h1), h3, fun j hj => cp_at hnL hq (fun j hj => (h4 j (by omega)).trans (hf j hj)) (by rw [List.length_append, ldL_len hq, ← hnL] at hj; exact hj)⟩ (xdt tt_J5_append_cf1ce 26 rfl)
set_option maxHeartbeats 4000000 in
theorem c_appC (l : Launch) {E : xE} {B : Nat} {S : xSt} {sb : Nat} {L : List Int} {ws : sW} (hA : ∀ a, xA E a → B ≤ a) {c : Nat} (hc : c < 128) (hL : L.length + 1 ≤ 600) (hw : SBD L sb ws) : Met l yJ4_append_cf468 (xws yJ4_append_cf468 cJ4_append_cf468 2 (some (.object "java/lang/StringBuilder"))) (rmN 6 1 1200) (SPc E B [.ref sb, vi (c : Int)] S ws) (SQr E B S (fun a u => a = sb ∧ SBD (L ++ [(c : Int)]) sb u)) 1 1200 (fun a => B ≤ a) := by
  obtain ⟨b, m, f, rfl, hn, hm, hf⟩ := hw
  refine metS (by decide +kernel) (Nat.le_of_ble_eq_true rfl) (fun K hC hE => ?_)
  have hC : xOK K cJ4_append_cf468 RJ4 2 (rmN 6 1 1200) := hC
  show WB B (PS E B (bob sb b L.length m f)) 0 0 K E 0 [(0, .ref sb), (1, vi (c : Int))] [] S
  refine b_aload_n hC rfl 0 rfl (rfl : 0 + 1 = 1) (xdt tt_J4_append_cf468 0 rfl) ?_
  refine b_iload_n hC rfl 1 rfl (rfl : 1 + 1 = 2) (xdt tt_J4_append_cf468 1 rfl) ?_
  refine s_callSUr hC 0 rfl m_J5_append_3fe6f q377 ⟨by decide, by decide⟩ (by decide) (by decide) [vi (c : Int)] rfl (fun l => c_appC5 l hA hL hm hn hf hc) rfl (Nat.le_of_ble_eq_true rfl) (rfl : 2 + 3 = 5) (xdt tt_J4_append_cf468 2 rfl) (fun a u hu => ?_)
  obtain ⟨rfl, hu⟩ := hu
  refine b_pop hC rfl (rfl : 5 + 1 = 6) (xdt tt_J4_append_cf468 3 rfl) ?_
  refine b_aload_n hC rfl 0 rfl (rfl : 6 + 1 = 7) (xdt tt_J4_append_cf468 4 rfl) ?_
  exact s_aret hC (Or.inl ⟨_, rfl⟩) hE ⟨rfl, hu⟩ (xdt tt_J4_append_cf468 5 rfl)
set_option maxHeartbeats 4000000 in
theorem c_appI (l : Launch) {E : xE} {B : Nat} {S : xSt} {sb : Nat} {L : List Int} {ws : sW} (hA : ∀ a, xA E a → B ≤ a) {v : Nat} (hv : v < 100) (hfu : 5 ≤ fu S) (hL : L.length + 2 ≤ 600) (hw : SBD L sb ws) : Met l yJ4_append_bf812 (xws yJ4_append_bf812 cJ4_append_bf812 2 (some (.object "java/lang/StringBuilder"))) (rmN 6 1 1200) (SPc E B [.ref sb, vi (v : Int)] S ws) (SQr E B S (fun a u => a = sb ∧ SBD (L ++ dgL v) sb u)) 1 1200 (fun a => B ≤ a) := by
  obtain ⟨b, m, f, rfl, hn, hm, hf⟩ := hw
  refine metS (by decide +kernel) (Nat.le_of_ble_eq_true rfl) (fun K hC hE => ?_)
  have hC : xOK K cJ4_append_bf812 RJ4 2 (rmN 6 1 1200) := hC
  show WB B (PS E B (bob sb b L.length m f)) 0 0 K E 0 [(0, .ref sb), (1, vi (v : Int))] [] S
  refine b_aload_n hC rfl 0 rfl (rfl : 0 + 1 = 1) (xdt tt_J4_append_bf812 0 rfl) ?_
  refine b_iload_n hC rfl 1 rfl (rfl : 1 + 1 = 2) (xdt tt_J4_append_bf812 1 rfl) ?_
  refine s_callSUr hC 0 rfl m_J5_append_c97b9 q349 ⟨by decide, by decide⟩ (by decide) (by decide) [vi (v : Int)] rfl (fun l => c_appI5 l hA hL hm hn hf hv hfu) rfl (Nat.le_of_ble_eq_true rfl) (rfl : 2 + 3 = 5) (xdt tt_J4_append_bf812 2 rfl) (fun a u hu => ?_)
  obtain ⟨rfl, hu⟩ := hu
  refine b_pop hC rfl (rfl : 5 + 1 = 6) (xdt tt_J4_append_bf812 3 rfl) ?_
  refine b_aload_n hC rfl 0 rfl (rfl : 6 + 1 = 7) (xdt tt_J4_append_bf812 4 rfl) ?_
  exact s_aret hC (Or.inl ⟨_, rfl⟩) hE ⟨rfl, hu⟩ (xdt tt_J4_append_bf812 5 rfl)
set_option maxHeartbeats 4000000 in
theorem c_appS (l : Launch) {E : xE} {B : Nat} {S : xSt} {sb : Nat} {L : List Int} {ws : sW} (hA : ∀ a, xA E a → B ≤ a) {q : Nat} (hq : q < xldc.length) (hL : L.length + xln q ≤ 600) (hw : SBD L sb ws) : Met l yJ4_append_15ec4 (xws yJ4_append_15ec4 cJ4_append_15ec4 2 (some (.object "java/lang/StringBuilder"))) (rmN 6 1 1200) (SPc E B [.ref sb, vs E q] S ws) (SQr E B S (fun a u => a = sb ∧ SBD (L ++ ldL q) sb u)) 1 1200 (fun a => B ≤ a) := by
  obtain ⟨b, m, f, rfl, hn, hm, hf⟩ := hw
  refine metS (by decide +kernel) (Nat.le_of_ble_eq_true rfl) (fun K hC hE => ?_)
  have hC : xOK K cJ4_append_15ec4 RJ4 2 (rmN 6 1 1200) := hC
  show WB B (PS E B (bob sb b L.length m f)) 0 0 K E 0 [(0, .ref sb), (1, vs E q)] [] S
  refine b_aload_n hC rfl 0 rfl (rfl : 0 + 1 = 1) (xdt tt_J4_append_15ec4 0 rfl) ?_
  refine b_aload_n hC rfl 1 rfl (rfl : 1 + 1 = 2) (xdt tt_J4_append_15ec4 1 rfl) ?_
  refine s_callSUr hC 0 rfl m_J5_append_cf1ce q218 ⟨by decide, by decide⟩ (by decide) (by decide) [vs E q] rfl (fun l => c_appS5 l hA hq hL hm hn hf) rfl (Nat.le_of_ble_eq_true rfl) (rfl : 2 + 3 = 5) (xdt tt_J4_append_15ec4 2 rfl) (fun a u hu => ?_)
  obtain ⟨rfl, hu⟩ := hu
  refine b_pop hC rfl (rfl : 5 + 1 = 6) (xdt tt_J4_append_15ec4 3 rfl) ?_
  refine b_aload_n hC rfl 0 rfl (rfl : 6 + 1 = 7) (xdt tt_J4_append_15ec4 4 rfl) ?_
  exact s_aret hC (Or.inl ⟨_, rfl⟩) hE ⟨rfl, hu⟩ (xdt tt_J4_append_15ec4 5 rfl)
set_option maxHeartbeats 4000000 in
theorem c_corb (l : Launch) {E : xE} {B : Nat} {S : xSt} (q0 : Nat) {b m n : Nat} {f : Nat → Int} {ws : sW} (hA : ∀ a, xA E a → B ≤ a) (hq0 : ws[q0]? = some (b, .inr (m, f))) (hn : n ≤ m) (hm : m ≤ 1200) : Met l yJ7_copyOfRangeByte_39247 (xws yJ7_copyOfRangeByte_39247 cJ7_copyOfRangeByte_39247 5 (some (.array .byte))) (rmN 2 1 1200) (SPc E B [.ref b, vi 0, vi (n : Int)] S ws) (SQr E B S (fun a u => ∃ g : Nat → Int, u = (a, .inr (n, g)) :: ws ∧ ∀ j, j < n → g j = f j)) 1 1200 (fun a => B ≤ a) := by
  refine metS (by decide +kernel) (Nat.le_of_ble_eq_true rfl) (fun K hC hE => ?_)
  have hC : xOK K cJ7_copyOfRangeByte_39247 RJ7 5 (rmN 2 1 1200) := hC
  show WB B (PS E B ws) 0 0 K E 0 [(0, .ref b), (1, vi 0), (2, vi (n : Int))] [] S
  refine b_iload_n hC rfl 1 rfl (rfl : 0 + 1 = 1) (xdt tt_J7_copyOfRangeByte_39247 0 rfl) ?_
  refine b_iload_n hC rfl 2 rfl (rfl : 1 + 1 = 2) (xdt tt_J7_copyOfRangeByte_39247 1 rfl) ?_
  refine b_callSv hC ⟨hA, PS_keep⟩ ⟨Nat.zero_le _, Nat.zero_le _⟩ m_J7_checkLength_df160 q431 ⟨by decide, by decide⟩ [vi 0, vi (n : Int)] rfl (fun l => c_J7_checkLength_df160 l (chkL_e (by omega))) rfl (Nat.le_of_ble_eq_true rfl) (rfl : 2 + 3 = 5) (xdt tt_J7_copyOfRangeByte_39247 2 rfl) ?_
  refine b_iload_n hC rfl 2 rfl (rfl : 5 + 1 = 6) (xdt tt_J7_copyOfRangeByte_39247 3 rfl) ?_
  refine b_iload_n hC rfl 1 rfl (rfl : 6 + 1 = 7) (xdt tt_J7_copyOfRangeByte_39247 4 rfl) ?_
  refine b_isub hC (rfl : 7 + 1 = 8) (xdt tt_J7_copyOfRangeByte_39247 5 rfl) ?_
  refine b_eqi (y := (n : Int)) (by omega) ?_
  refine b_istore_n hC rfl (by decide) (lv' := [(3, vi (n : Int)), (0, .ref b), (1, vi 0), (2, vi (n : Int))]) rfl (rfl : 8 + 1 = 9) (xdt tt_J7_copyOfRangeByte_39247 6 rfl) ?_
  refine b_sub [1, 2, 3, 0] (lv' := [(0, .ref b), (1, vi 0), (2, vi (n : Int)), (3, vi (n : Int))]) rfl ?_
  refine b_iload_n hC rfl 3 rfl (rfl : 9 + 1 = 10) (xdt tt_J7_copyOfRangeByte_39247 7 rfl) ?_
  refine s_newb hC q9 (by omega) (by decide) (show 0 + n ≤ 1200 by omega) (rfl : 10 + 2 = 12) (xdt tt_J7_copyOfRangeByte_39247 8 rfl) (fun a => ?_)
  refine b_astore hC (by decide) (lv' := [(4, .ref a), (0, .ref b), (1, vi 0), (2, vi (n : Int)), (3, vi (n : Int))]) rfl (rfl : 12 + 2 = 14) (xdt tt_J7_copyOfRangeByte_39247 9 rfl) ?_
  refine b_sub [1, 2, 3, 4, 0] (lv' := [(0, .ref b), (1, vi 0), (2, vi (n : Int)), (3, vi (n : Int)), (4, .ref a)]) rfl ?_
  refine b_aload_n hC rfl 0 rfl (rfl : 14 + 1 = 15) (xdt tt_J7_copyOfRangeByte_39247 10 rfl) ?_
  refine b_iload_n hC rfl 1 rfl (rfl : 15 + 1 = 16) (xdt tt_J7_copyOfRangeByte_39247 11 rfl) ?_
  refine b_aload hC 4 rfl (rfl : 16 + 2 = 18) (xdt tt_J7_copyOfRangeByte_39247 12 rfl) ?_
  refine b_iconst hC (rfl : 18 + 1 = 19) (xdt tt_J7_copyOfRangeByte_39247 13 rfl) ?_
  refine b_aload_n hC rfl 0 rfl (rfl : 19 + 1 = 20) (xdt tt_J7_copyOfRangeByte_39247 14 rfl) ?_
  refine s_alen hC (q0 + 1) hq0 (rfl : 20 + 1 = 21) (xdt tt_J7_copyOfRangeByte_39247 15 rfl) ?_
  refine b_iload_n hC rfl 1 rfl (rfl : 21 + 1 = 22) (xdt tt_J7_copyOfRangeByte_39247 16 rfl) ?_
  refine b_isub hC (rfl : 22 + 1 = 23) (xdt tt_J7_copyOfRangeByte_39247 17 rfl) ?_
  refine b_eqi (y := (m : Int)) (by omega) ?_
  refine b_iload_n hC rfl 3 rfl (rfl : 23 + 1 = 24) (xdt tt_J7_copyOfRangeByte_39247 18 rfl) ?_
  refine b_minN hC ⟨by decide, show 0 + n ≤ 1200 by omega⟩ (by omega) (by omega) q258 q259 q243 q260 (by decide) (Nat.le_of_ble_eq_true rfl) (rfl : 24 + 3 = 27) (xdt tt_J7_copyOfRangeByte_39247 19 rfl) ?_
  refine b_eqi (y := (n : Int)) (by omega) ?_
  refine s_copy hC (q0 + 1) 0 hq0 rfl (a := 0) (b := 0) (z := n) (by omega) (by omega) (by omega) (by omega) q261 q78 q79 q80 (by decide) (Nat.le_of_ble_eq_true rfl) (rfl : 27 + 3 = 30) (xdt tt_J7_copyOfRangeByte_39247 20 rfl) ?_
  refine b_aload hC 4 rfl (rfl : 30 + 2 = 32) (xdt tt_J7_copyOfRangeByte_39247 21 rfl) ?_
  refine b_wid (cl' := 1) (sl' := 1200) (by omega) (by omega) ?_
  exact s_aret hC (Or.inr ⟨_, rfl⟩) hE ⟨_, rfl, fun j hj => by unfold cpI; rw [if_pos (by omega)]; congr 1; omega⟩ (xdt tt_J7_copyOfRangeByte_39247 22 rfl)
set_option maxHeartbeats 4000000 in
theorem c_cor (l : Launch) {E : xE} {B : Nat} {S : xSt} (q0 : Nat) {b m n : Nat} {f : Nat → Int} {ws : sW} (hA : ∀ a, xA E a → B ≤ a) (hq0 : ws[q0]? = some (b, .inr (m, f))) (hn : n ≤ m) (hm : m ≤ 1200) : Met l yJ7_copyOfRange_39247 (xws yJ7_copyOfRange_39247 cJ7_copyOfRange_39247 3 (some (.array .byte))) (rmN 3 1 1200) (SPc E B [.ref b, vi 0, vi (n : Int)] S ws) (SQr E B S (fun a u => ∃ g : Nat → Int, u = (a, .inr (n, g)) :: ws ∧ ∀ j, j < n → g j = f j)) 1 1200 (fun a => B ≤ a) := by
  refine metS (by decide +kernel) (Nat.le_of_ble_eq_true rfl) (fun K hC hE => ?_)
  have hC : xOK K cJ7_copyOfRange_39247 RJ7 3 (rmN 3 1 1200) := hC
  show WB B (PS E B ws) 0 0 K E 0 [(0, .ref b), (1, vi 0), (2, vi (n : Int))] [] S
  refine b_iload_n hC rfl 1 rfl (rfl : 0 + 1 = 1) (xdt tt_J7_copyOfRange_39247 0 rfl) ?_
  refine b_if_ne hC (show ((1 : Nat) : Int) + 9 = ((10 : Nat) : Int) by decide) (rfl : 1 + 3 = 4) (xdt tt_J7_copyOfRange_39247 1 rfl) (fun h => absurd h (by decide)) (fun _ => ?_)
  refine b_iload_n hC rfl 2 rfl (rfl : 4 + 1 = 5) (xdt tt_J7_copyOfRange_39247 2 rfl) ?_
  refine b_aload_n hC rfl 0 rfl (rfl : 5 + 1 = 6) (xdt tt_J7_copyOfRange_39247 3 rfl) ?_
  refine s_alen hC q0 hq0 (rfl : 6 + 1 = 7) (xdt tt_J7_copyOfRange_39247 4 rfl) ?_
  refine b_eqN hC (by omega) (by omega) (show ((7 : Nat) : Int) + 10 = ((17 : Nat) : Int) by decide) (rfl : 7 + 3 = 10) (xdt tt_J7_copyOfRange_39247 5 rfl) (fun h => ?_) (fun h => ?_)
  · subst h
    refine b_aload_n hC rfl 0 rfl (rfl : 17 + 1 = 18) (xdt tt_J7_copyOfRange_39247 11 rfl) ?_
    refine s_clone hC q0 hq0 q252 (by decide) (show 0 + n ≤ 1200 by omega) (by decide) (Nat.le_of_ble_eq_true rfl) (rfl : 18 + 3 = 21) (xdt tt_J7_copyOfRange_39247 12 rfl) (fun a => ?_)
    refine s_cast hC 0 rfl q257 (rfl : 21 + 3 = 24) (xdt tt_J7_copyOfRange_39247 13 rfl) ?_
    refine b_wid (cl' := 1) (sl' := 1200) (by omega) (by omega) ?_
    exact s_aret hC (Or.inr ⟨_, rfl⟩) hE ⟨_, rfl, fun _ _ => rfl⟩ (xdt tt_J7_copyOfRange_39247 14 rfl)
  · refine b_aload_n hC rfl 0 rfl (rfl : 10 + 1 = 11) (xdt tt_J7_copyOfRange_39247 6 rfl) ?_
    refine b_iload_n hC rfl 1 rfl (rfl : 11 + 1 = 12) (xdt tt_J7_copyOfRange_39247 7 rfl) ?_
    refine b_iload_n hC rfl 2 rfl (rfl : 12 + 1 = 13) (xdt tt_J7_copyOfRange_39247 8 rfl) ?_
    refine s_callSr hC m_J7_copyOfRangeByte_39247 q428 ⟨by decide, by decide⟩ (by decide) (by decide) [.ref b, vi 0, vi (n : Int)] rfl (fun l => c_corb l q0 hA hq0 hn hm) rfl (Nat.le_of_ble_eq_true rfl) (rfl : 13 + 3 = 16) (xdt tt_J7_copyOfRange_39247 9 rfl) (fun a u hu => ?_)
    exact s_aret hC (Or.inr ⟨_, rfl⟩) hE hu (xdt tt_J7_copyOfRange_39247 10 rfl)
set_option maxHeartbeats 4000000 in
theorem c_sinitA (l : Launch) {E : xE} {B : Nat} {S : xSt} {t sb b n m : Nat} {f : Nat → Int} (hA : ∀ a, xA E a → B ≤ a) (hn : n ≤ m) (hm : m ≤ 1200) : Met l yJ0_init_db425 (xws yJ0_init_db425 cJ0_init_db425 5 none) (rmN 4 1 1200) (SPc E B [.ref t, .ref sb, .null] S [(t, .inl (0, [.null, vi 0, vi 0, vi 0])), (sb, .inl (1, [.ref b, vi 0, vi 0, vi (n : Int)])), (b, .inr (m, f))]) (SQv E B S (fun u => ∃ (a : Nat) (g : Nat → Int), u = [(t, .inl (0, [.ref a, vi 0, vi 0, vi 0])), (a, .inr (n, g))] ∧ ∀ j, j < n → g j = f j)) 1 1200 (fun a => B ≤ a) := by
  refine metSI (by decide +kernel) rfl (Nat.le_of_ble_eq_true rfl) (fun K hN hE => ?_)
  have hN : xOKN K cJ0_init_db425 RJ0 5 (rmN 4 1 1200) := hN
  have hC := hN.1
  show WB B (PS E B [(t, .inl (0, [.null, vi 0, vi 0, vi 0])), (sb, .inl (1, [.ref b, vi 0, vi 0, vi (n : Int)])), (b, .inr (m, f))]) 0 0 K E 0 [(0, .ref t), (1, .ref sb), (2, .null)] [] S
  refine b_aload_n hC rfl 0 rfl (rfl : 0 + 1 = 1) (xdt tt_J0_init_db425 0 rfl) ?_
  refine s_objInit hC q408 q7 q8 (by decide) (Nat.le_of_ble_eq_true rfl) (rfl : 1 + 3 = 4) (xdt tt_J0_init_db425 1 rfl) ?_
  refine b_aload_n hC rfl 1 rfl (rfl : 4 + 1 = 5) (xdt tt_J0_init_db425 2 rfl) ?_
  refine s_callUr hC 1 rfl (fun hts hp hR => cw_U1 hts m_J5_getValue_6d5f1 q410 (hts _ q412) hR) ⟨by decide, by decide⟩ (by decide) (by decide) [] rfl (fun l => c_getV l 1 rfl rfl) rfl (Nat.le_of_ble_eq_true rfl) (rfl : 5 + 3 = 8) (xdt tt_J0_init_db425 3 rfl) (fun a u hu => ?_)
  obtain ⟨rfl, rfl⟩ := hu
  refine b_astore_n hC rfl (by decide) (lv' := [(3, .ref a), (0, .ref t), (1, .ref sb), (2, .null)]) rfl (rfl : 8 + 1 = 9) (xdt tt_J0_init_db425 4 rfl) ?_
  refine b_sub [1, 2, 3, 0] (lv' := [(0, .ref t), (1, .ref sb), (2, .null), (3, .ref a)]) rfl ?_
  refine b_aload_n hC rfl 1 rfl (rfl : 9 + 1 = 10) (xdt tt_J0_init_db425 5 rfl) ?_
  refine s_callUi hC 1 rfl (fun hts hp hR => cw_U hts (x := yJ5_length_8abf5) (y := yJ4_length_8abf5) ⟨rfl, by decide +kernel⟩ q416 q422 q423 q419 q194 q420 (by decide) q415 (hts _ q418) hR) ⟨by decide, by decide⟩ (by decide) (by decide) [] rfl (fun l => c_len4 l 1 rfl rfl) rfl (Nat.le_of_ble_eq_true rfl) (rfl : 10 + 3 = 13) (xdt tt_J0_init_db425 6 rfl) ?_
  refine b_istore hC (by decide) (lv' := [(4, vi (n : Int)), (0, .ref t), (1, .ref sb), (2, .null), (3, .ref a)]) rfl (rfl : 13 + 2 = 15) (xdt tt_J0_init_db425 7 rfl) ?_
  refine b_sub [1, 2, 3, 4, 0] (lv' := [(0, .ref t), (1, .ref sb), (2, .null), (3, .ref a), (4, vi (n : Int))]) rfl ?_
  refine b_aload_n hC rfl 1 rfl (rfl : 15 + 1 = 16) (xdt tt_J0_init_db425 8 rfl) ?_
  refine s_callUi hC 1 rfl (fun hts hp hR => cw_U1 hts m_J5_isLatin1_aae02 q424 (hts _ q264) hR) ⟨by decide, by decide⟩ (by decide) (by decide) [] rfl (fun l => c_isL l 1 rfl rfl) rfl (Nat.le_of_ble_eq_true rfl) (rfl : 16 + 3 = 19) (xdt tt_J0_init_db425 9 rfl) ?_
  refine b_if_eq hC (show ((19 : Nat) : Int) + 22 = ((41 : Nat) : Int) by decide) (rfl : 19 + 3 = 22) (xdt tt_J0_init_db425 10 rfl) (fun h => absurd h (by decide)) (fun _ => ?_)
  refine b_aload_n hC rfl 0 rfl (rfl : 22 + 1 = 23) (xdt tt_J0_init_db425 11 rfl) ?_
  refine b_iconst hC (rfl : 23 + 1 = 24) (xdt tt_J0_init_db425 12 rfl) ?_
  refine s_putF hN 0 rfl kclJ0 1 (by decide) rfl rfl q301 rfl rfl (rfl : 24 + 3 = 27) (xdt tt_J0_init_db425 13 rfl) ?_
  refine s_norm (ws' := [(t, .inl (0, [.null, vi 0, vi 0, vi 0])), (sb, .inl (1, [.ref a, vi 0, vi 0, vi (n : Int)])), (a, .inr (m, f))]) rfl ?_
  refine b_aload_n hC rfl 0 rfl (rfl : 27 + 1 = 28) (xdt tt_J0_init_db425 14 rfl) ?_
  refine b_aload_n hC rfl 3 rfl (rfl : 28 + 1 = 29) (xdt tt_J0_init_db425 15 rfl) ?_
  refine b_iconst hC (rfl : 29 + 1 = 30) (xdt tt_J0_init_db425 16 rfl) ?_
  refine b_iload hC 4 rfl (rfl : 30 + 2 = 32) (xdt tt_J0_init_db425 17 rfl) ?_
  refine s_callSr hC m_J7_copyOfRange_39247 q425 ⟨by decide, by decide⟩ (by decide) (by decide) [.ref a, vi 0, vi (n : Int)] rfl (fun l => c_cor l 2 hA rfl hn hm) rfl (Nat.le_of_ble_eq_true rfl) (rfl : 32 + 3 = 35) (xdt tt_J0_init_db425 18 rfl) (fun x u hu => ?_)
  obtain ⟨g, rfl, hg⟩ := hu
  refine s_putF hN 1 rfl kclJ0 0 (by decide) rfl rfl q295 rfl rfl (rfl : 35 + 3 = 38) (xdt tt_J0_init_db425 19 rfl) ?_
  refine s_norm (ws' := [(x, .inr (n, g)), (t, .inl (0, [.ref x, vi 0, vi 0, vi 0])), (sb, .inl (1, [.ref a, vi 0, vi 0, vi (n : Int)])), (a, .inr (m, f))]) rfl ?_
  refine b_goto hC (show ((38 : Nat) : Int) + 59 = ((97 : Nat) : Int) by decide) (xdt tt_J0_init_db425 20 rfl) ?_
  refine s_pick [1, 0] (by decide) (ws' := [(t, .inl (0, [.ref x, vi 0, vi 0, vi 0])), (x, .inr (n, g))]) rfl ?_
  exact s_vret hC hE ⟨x, g, rfl, hg⟩ (xdt tt_J0_init_db425 50 rfl)
set_option maxHeartbeats 4000000 in
theorem c_sinit (l : Launch) {E : xE} {B : Nat} {S : xSt} {t sb b n m : Nat} {f : Nat → Int} (hA : ∀ a, xA E a → B ≤ a) (hn : n ≤ m) (hm : m ≤ 1200) : Met l yJ0_init_81219 (xws yJ0_init_81219 cJ0_init_81219 2 none) (rmN 5 1 1200) (SPc E B [.ref t, .ref sb] S [(t, .inl (0, [.null, vi 0, vi 0, vi 0])), (sb, .inl (1, [.ref b, vi 0, vi 0, vi (n : Int)])), (b, .inr (m, f))]) (SQv E B S (fun u => ∃ (a : Nat) (g : Nat → Int), u = [(t, .inl (0, [.ref a, vi 0, vi 0, vi 0])), (a, .inr (n, g))] ∧ ∀ j, j < n → g j = f j)) 1 1200 (fun a => B ≤ a) := by
  refine metSI (by decide +kernel) rfl (Nat.le_of_ble_eq_true rfl) (fun K hN hE => ?_)
  have hN : xOKN K cJ0_init_81219 RJ0 2 (rmN 5 1 1200) := hN
  have hC := hN.1
  show WB B (PS E B [(t, .inl (0, [.null, vi 0, vi 0, vi 0])), (sb, .inl (1, [.ref b, vi 0, vi 0, vi (n : Int)])), (b, .inr (m, f))]) 0 0 K E 0 [(0, .ref t), (1, .ref sb)] [] S
  refine b_aload_n hC rfl 0 rfl (rfl : 0 + 1 = 1) (xdt tt_J0_init_81219 0 rfl) ?_
  refine b_aload_n hC rfl 1 rfl (rfl : 1 + 1 = 2) (xdt tt_J0_init_81219 1 rfl) ?_
  refine b_null hC (rfl : 2 + 1 = 3) (xdt tt_J0_init_81219 2 rfl) ?_
  refine s_ctor hC m_J0_init_db425 q405 ⟨by decide, by decide⟩ (by decide) (by decide) [.ref sb, .null] rfl (fun l => c_sinitA l hA hn hm) rfl (Nat.le_of_ble_eq_true rfl) (rfl : 3 + 3 = 6) (xdt tt_J0_init_81219 3 rfl) (fun u hu => ?_)
  exact s_vret hC hE hu (xdt tt_J0_init_81219 4 rfl)
set_option maxHeartbeats 4000000 in
theorem c_toS (l : Launch) {E : xE} {B : Nat} {S : xSt} {sb : Nat} {L : List Int} {ws : sW} (hA : ∀ a, xA E a → B ≤ a) (hw : SBD L sb ws) : Met l yJ4_toString_0e30d (xws yJ4_toString_0e30d cJ4_toString_0e30d 1 (some (.object "java/lang/String"))) (rmN 6 2 1204) (SPc E B [.ref sb] S ws) (SQr E B S (fun a u => ∃ (x : Nat) (g : Nat → Int), u = [(a, .inl (0, [.ref x, vi 0, vi 0, vi 0])), (x, .inr (L.length, g))] ∧ ∀ j, j < L.length → g j = L.getD j 0)) 2 1204 (fun a => B ≤ a) := by
  obtain ⟨b, m, f, rfl, hn, hm, hf⟩ := hw
  refine metS (by decide +kernel) (Nat.le_of_ble_eq_true rfl) (fun K hC hE => ?_)
  have hC : xOK K cJ4_toString_0e30d RJ4 1 (rmN 6 2 1204) := hC
  show WB B (PS E B (bob sb b L.length m f)) 0 0 K E 0 [(0, .ref sb)] [] S
  refine s_new hC kclJ0 q400 q401 q279 [.null, vi 0, vi 0, vi 0] rfl (fun j hj => by rcases (show j = 0 ∨ j = 1 ∨ j = 2 ∨ j = 3 by omega) with rfl | rfl | rfl | rfl <;> rfl) (by decide) (by decide) (rfl : 0 + 3 = 3) (xdt tt_J4_toString_0e30d 0 rfl) (fun t => ?_)
  refine b_dup hC rfl (rfl : 3 + 1 = 4) (xdt tt_J4_toString_0e30d 1 rfl) ?_
  refine b_aload_n hC rfl 0 rfl (rfl : 4 + 1 = 5) (xdt tt_J4_toString_0e30d 2 rfl) ?_
  refine s_ctor hC m_J0_init_81219 q402 ⟨by decide, by decide⟩ (by decide) (by decide) [.ref sb] rfl (fun l => c_sinit l hA hn hm) rfl (Nat.le_of_ble_eq_true rfl) (rfl : 5 + 3 = 8) (xdt tt_J4_toString_0e30d 3 rfl) (fun u hu => ?_)
  obtain ⟨a, g, rfl, hg⟩ := hu
  exact s_aret hC (Or.inl ⟨_, rfl⟩) hE ⟨a, g, rfl, fun j hj => (hg j hj).trans (hf j hj)⟩ (xdt tt_J4_toString_0e30d 4 rfl)
set_option maxHeartbeats 4000000 in
theorem c_binit5 (l : Launch) {E : xE} {B : Nat} {S : xSt} {sb : Nat} : Met l yJ5_init_d00df (xws yJ5_init_d00df cJ5_init_d00df 2 none) (rmN 1 1 16) (SPc E B [.ref sb, vi 16] S [(sb, .inl (1, [.null, vi 0, vi 0, vi 0]))]) (SQv E B S (fun u => ∃ b : Nat, u = bob sb b 0 16 (fun _ => 0))) 1 16 (fun a => B ≤ a) := by
  refine metSI (by decide +kernel) rfl (Nat.le_of_ble_eq_true rfl) (fun K hN hE => ?_)
  have hN : xOKN K cJ5_init_d00df RJ5 2 (rmN 1 1 16) := hN
  have hC := hN.1
  show WB B (PS E B [(sb, .inl (1, [.null, vi 0, vi 0, vi 0]))]) 0 0 K E 0 [(0, .ref sb), (1, vi 16)] [] S
  refine b_aload_n hC rfl 0 rfl (rfl : 0 + 1 = 1) (xdt tt_J5_init_d00df 0 rfl) ?_
  refine s_objInit hC q202 q7 q8 (by decide) (Nat.le_of_ble_eq_true rfl) (rfl : 1 + 3 = 4) (xdt tt_J5_init_d00df 1 rfl) ?_
  refine b_strS hC q203 (rfl : 4 + 3 = 7) (xdt tt_J5_init_d00df 2 rfl) ?_
  refine b_if_eq hC (show ((7 : Nat) : Int) + 18 = ((25 : Nat) : Int) by decide) (rfl : 7 + 3 = 10) (xdt tt_J5_init_d00df 3 rfl) (fun h => absurd h (by decide)) (fun _ => ?_)
  refine b_aload_n hC rfl 0 rfl (rfl : 10 + 1 = 11) (xdt tt_J5_init_d00df 4 rfl) ?_
  refine b_iload_n hC rfl 1 rfl (rfl : 11 + 1 = 12) (xdt tt_J5_init_d00df 5 rfl) ?_
  refine s_newb hC q9 (N := 16) (by omega) (by decide) (by decide) (rfl : 12 + 2 = 14) (xdt tt_J5_init_d00df 6 rfl) (fun b => ?_)
  refine s_put hC 1 rfl kclJ4 0 (by decide) rfl q204 rfl rfl (rfl : 14 + 3 = 17) (xdt tt_J5_init_d00df 7 rfl) ?_
  refine s_norm (ws' := [(b, .inr (16, fun _ => 0)), (sb, .inl (1, [.ref b, vi 0, vi 0, vi 0]))]) rfl ?_
  refine b_aload_n hC rfl 0 rfl (rfl : 17 + 1 = 18) (xdt tt_J5_init_d00df 8 rfl) ?_
  refine b_iconst hC (rfl : 18 + 1 = 19) (xdt tt_J5_init_d00df 9 rfl) ?_
  refine s_put hC 1 rfl kclJ4 1 (by decide) rfl q205 rfl rfl (rfl : 19 + 3 = 22) (xdt tt_J5_init_d00df 10 rfl) ?_
  refine s_norm (ws' := [(b, .inr (16, fun _ => 0)), (sb, .inl (1, [.ref b, vi 0, vi 0, vi 0]))]) rfl ?_
  refine b_goto hC (show ((22 : Nat) : Int) + 16 = ((38 : Nat) : Int) by decide) (xdt tt_J5_init_d00df 11 rfl) ?_
  refine s_pick [1, 0] (by decide) (ws' := bob sb b 0 16 (fun _ => 0)) rfl ?_
  exact s_vret hC hE ⟨b, rfl⟩ (xdt tt_J5_init_d00df 19 rfl)
set_option maxHeartbeats 4000000 in
theorem c_binit (l : Launch) {E : xE} {B : Nat} {S : xSt} {sb : Nat} : Met l yJ4_init_da8c8 (xws yJ4_init_da8c8 cJ4_init_da8c8 1 none) (rmN 2 1 16) (SPc E B [.ref sb] S [(sb, .inl (1, [.null, vi 0, vi 0, vi 0]))]) (SQv E B S (fun u => SBD [] sb u)) 1 16 (fun a => B ≤ a) := by
  refine metSI (by decide +kernel) rfl (Nat.le_of_ble_eq_true rfl) (fun K hN hE => ?_)
  have hN : xOKN K cJ4_init_da8c8 RJ4 1 (rmN 2 1 16) := hN
  have hC := hN.1
  show WB B (PS E B [(sb, .inl (1, [.null, vi 0, vi 0, vi 0]))]) 0 0 K E 0 [(0, .ref sb)] [] S
  refine b_aload_n hC rfl 0 rfl (rfl : 0 + 1 = 1) (xdt tt_J4_init_da8c8 0 rfl) ?_
  refine b_bipush hC (by decide) (rfl : 1 + 2 = 3) (xdt tt_J4_init_da8c8 1 rfl) ?_
  refine s_ctor hC m_J5_init_d00df q198 ⟨by decide, by decide⟩ (by decide) (by decide) [vi 16] rfl (fun l => c_binit5 l) rfl (Nat.le_of_ble_eq_true rfl) (rfl : 3 + 3 = 6) (xdt tt_J4_init_da8c8 2 rfl) (fun u hu => ?_)
  obtain ⟨b, rfl⟩ := hu
  exact s_vret hC hE ⟨b, 16, _, rfl, by decide, by decide, fun j hj => absurd hj (Nat.not_lt_zero _)⟩ (xdt tt_J4_init_da8c8 3 rfl)
