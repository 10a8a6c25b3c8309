/-! mathematics: the text is fed -/
theorem iSr_k {x : Int} (hx : 0 ≤ x ∧ x < 2147483648) : iSr x 24 = x / 16777216 ∧ iSr x 16 = x / 65536 ∧ iSr x 8 = x / 256 ∧ iSr x 0 = x := by
  have g : (Int32.ofInt x).toBitVec.toInt = x := by
    show (Int32.ofInt x).toInt = x
    rw [wr_toInt, wr_id (by omega)]
  refine ⟨?_, ?_, ?_, ?_⟩
  · unfold iSr
    rw [show (Int32.ofInt 24 &&& 31 : Int32) = 24 by decide]
    show ((Int32.ofInt x).toBitVec.sshiftRight' ((24 : Int32).toBitVec.smod 32)).toInt = _
    rw [BitVec.toInt_sshiftRight', show ((24 : Int32).toBitVec.smod 32).toNat = 24 by decide, g, Int.shiftRight_eq_div_pow]
    show x / 16777216 = _
    rfl
  · unfold iSr
    rw [show (Int32.ofInt 16 &&& 31 : Int32) = 16 by decide]
    show ((Int32.ofInt x).toBitVec.sshiftRight' ((16 : Int32).toBitVec.smod 32)).toInt = _
    rw [BitVec.toInt_sshiftRight', show ((16 : Int32).toBitVec.smod 32).toNat = 16 by decide, g, Int.shiftRight_eq_div_pow]
    show x / 65536 = _
    rfl
  · unfold iSr
    rw [show (Int32.ofInt 8 &&& 31 : Int32) = 8 by decide]
    show ((Int32.ofInt x).toBitVec.sshiftRight' ((8 : Int32).toBitVec.smod 32)).toInt = _
    rw [BitVec.toInt_sshiftRight', show ((8 : Int32).toBitVec.smod 32).toNat = 8 by decide, g, Int.shiftRight_eq_div_pow]
    show x / 256 = _
    rfl
  · unfold iSr
    rw [show (Int32.ofInt 0 &&& 31 : Int32) = 0 by decide]
    show ((Int32.ofInt x).toBitVec.sshiftRight' ((0 : Int32).toBitVec.smod 32)).toInt = _
    rw [BitVec.toInt_sshiftRight', show ((0 : Int32).toBitVec.smod 32).toNat = 0 by decide, g, Int.shiftRight_eq_div_pow]
    show x / 1 = _
    omega
theorem wd_by {a b c d : Int} (ha : 0 ≤ a ∧ a ≤ 127) (hb : 0 ≤ b ∧ b ≤ 127) (hc : 0 ≤ c ∧ c ≤ 127) (hd : 0 ≤ d ∧ d ≤ 127) : wb (wb (iSr (a * 16777216 + b * 65536 + c * 256 + d) 24)) = a ∧ wb (wb (iSr (a * 16777216 + b * 65536 + c * 256 + d) 16)) = b ∧ wb (wb (iSr (a * 16777216 + b * 65536 + c * 256 + d) 8)) = c ∧ wb (wb (iSr (a * 16777216 + b * 65536 + c * 256 + d) 0)) = d := by
  obtain ⟨e1, e2, e3, e4⟩ := iSr_k (x := a * 16777216 + b * 65536 + c * 256 + d) (by omega)
  rw [e1, e2, e3, e4]
  unfold wb
  omega
/-- p letters are there -/
def FED (m : Nat) (tx : Nat → Int) (H : xR) (p : Nat) : Prop := H 0 1 = (p : Int) ∧ ∀ j : Nat, j < p → H 1 j = chT m tx j
def KH (H H' : xR) : Prop := ∀ o k, o ≠ 1 → (o ≠ 0 ∨ k ≠ 1) → H' o k = H o k
section C37
variable {S : xSt} {m : Nat} {tx : Nat → Int} {H : xR}
theorem kh_t {H1 H2 : xR} (h : KH H H1) (h2 : KH H1 H2) : KH H H2 := fun o k a b => (h2 o k a b).trans (h o k a b)
theorem fed_s {p : Nat} (h : FED m tx H p) : FED m tx (uF (uF H 1 p (chT m tx p)) 0 1 ((p : Int) + 1)) (p + 1) := by
  refine ⟨?_, fun j hj => ?_⟩
  · rw [uF_e]
    omega
  · rw [uF_o (by decide)]
    by_cases e : j = p
    · rw [e, uF_e]
    · rw [uF_k e]
      exact h.2 j (by omega)
theorem kh_s {p : Nat} {z w : Int} : KH H (uF (uF H 1 p z) 0 1 w) := fun o k a b => by
  rw [uF_x b, uF_o a]
theorem ap_1 {p : Nat} (h : FED m tx H p) (hp : p < 600) {w x : Int} (hx : 0 ≤ x ∧ x ≤ 24) (hw : wb (wb (iSr w x)) = chT m tx p) (f : Nat) : f_X11_append_p3_0_b3 0 (f + 1) (sR S 0 H) w x = f_X11_append_p3_0_b3 0 f (sR S 0 (uF (uF H 1 p (chT m tx p)) 0 1 ((p : Int) + 1))) w (x + -8) := by
  have e : (wr (p : Int)).toNat = p := by
    rw [wr_e (by omega)]
    omega
  rw [f_X11_append_p3_0_b3, wr_e (z := x) (by omega), if_neg (by omega), sR_g, h.1, wr_e (z := 600) (by decide), if_neg (by rw [wr_e (by omega)]; omega), ckI_e (by omega), e, hw, lt1_e, sR_w, lt1_e, sR_g, uF_o (by decide), h.1, sR_w]
theorem ap_x {p : Nat} (h : FED m tx H p) (hp : p < 600) {w x y : Int} (hx : 0 ≤ x ∧ x ≤ 24) (hy : x + -8 = y) (hw : wb (wb (iSr w x)) = chT m tx p) : ∃ H1, (∀ f, f_X11_append_p3_0_b3 0 (f + 1) (sR S 0 H) w x = f_X11_append_p3_0_b3 0 f (sR S 0 H1) w y) ∧ FED m tx H1 (p + 1) ∧ KH H H1 := by
  subst hy
  exact ⟨_, fun f => ap_1 h hp hx hw f, fed_s h, kh_s⟩
theorem ap_e (hb : ∀ i : Nat, i < m → 0 ≤ tx i ∧ tx i ≤ 127) (hf : 10000000 ≤ fu S) {p : Nat} (h : FED m tx H p) (hp : p + 4 ≤ 600) : ∃ H', f_X11_append_p3_0 (sR S 0 H) 0 (wdT m tx p) = some (sR S 0 H') ∧ FED m tx H' (p + 4) ∧ KH H H' := by
  obtain ⟨w1, w2, w3, w4⟩ := wd_by (chT_r hb p) (chT_r hb (p + 1)) (chT_r hb (p + 2)) (chT_r hb (p + 3))
  obtain ⟨f, e⟩ : ∃ f, fu (sR S 0 H) = f + 5 := ⟨fu S - 5, by show fu S = _; omega⟩
  obtain ⟨H1, e1, h1, k1⟩ := ap_x (S := S) h (w := wdT m tx p) (x := 24) (y := 16) (by omega) (by decide) (by decide) w1
  obtain ⟨H2, e2, h2, k2⟩ := ap_x (S := S) h1 (w := wdT m tx p) (x := 16) (y := 8) (by omega) (by decide) (by decide) w2
  obtain ⟨H3, e3, h3, k3⟩ := ap_x (S := S) h2 (w := wdT m tx p) (x := 8) (y := 0) (by omega) (by decide) (by decide) w3
  obtain ⟨H4, e4, h4, k4⟩ := ap_x (S := S) h3 (w := wdT m tx p) (x := 0) (y := -8) (by omega) (by decide) (by decide) w4
  refine ⟨H4, ?_, h4, kh_t (kh_t (kh_t k1 k2) k3) k4⟩
  unfold f_X11_append_p3_0
  rw [e, e1, e2, e3, e4, f_X11_append_p3_0_b3, if_pos (by decide)]
theorem fe_e (hb : ∀ i : Nat, i < m → 0 ≤ tx i ∧ tx i ≤ 127) (hf : 10000000 ≤ fu S) {p : Nat} (h : FED m tx H p) (hp : p + 20 ≤ 600) : ∃ H' v, f_X11_feed_p3_0 (sR S 0 H) 0 (wdT m tx p) (wdT m tx (p + 4)) (wdT m tx (p + 8)) (wdT m tx (p + 12)) (wdT m tx (p + 16)) = some (v, sR S 0 H') ∧ FED m tx H' (p + 20) ∧ KH H H' := by
  obtain ⟨H1, a1, b1, c1⟩ := ap_e (S := S) hb hf h (by omega)
  obtain ⟨H2, a2, b2, c2⟩ := ap_e (S := S) hb hf b1 (by omega)
  obtain ⟨H3, a3, b3, c3⟩ := ap_e (S := S) hb hf b2 (by omega)
  obtain ⟨H4, a4, b4, c4⟩ := ap_e (S := S) hb hf b3 (by omega)
  obtain ⟨H5, a5, b5, c5⟩ := ap_e (S := S) hb hf b4 (by omega)
  refine ⟨H5, gI (sR S 0 H5) 0 0 1, ?_, b5, kh_t (kh_t (kh_t (kh_t c1 c2) c3) c4) c5⟩
  unfold f_X11_feed_p3_0
  rw [sR_g, h.1, if_pos (by rw [wr_e (by omega), wr_e (by omega)]; omega), a1, bd_e, a2, bd_e, a3, bd_e, a4, bd_e, a5, bd_e]
theorem fs_all (hb : ∀ i : Nat, i < m → 0 ≤ tx i ∧ tx i ≤ 127) (hf : 10000000 ≤ fu S) (h0 : FED m tx H 0) : ∀ N : Nat, 20 * N ≤ 600 → ∃ Hs : Nat → xR, Hs 0 = H ∧ (∀ i : Nat, i < N → ∃ v, f_X11_feed_p3_0 (sR S 0 (Hs i)) 0 (wdT m tx (20 * i)) (wdT m tx (20 * i + 4)) (wdT m tx (20 * i + 8)) (wdT m tx (20 * i + 12)) (wdT m tx (20 * i + 16)) = some (v, sR S 0 (Hs (i + 1)))) ∧ FED m tx (Hs N) (20 * N) ∧ KH H (Hs N) := by
  intro N
  induction N with
  | zero => exact fun _ => ⟨fun _ => H, rfl, fun i hi => absurd hi (by omega), h0, fun _ _ _ _ => rfl⟩
  | succ N ih =>
    intro hN
    obtain ⟨Hs, a1, a2, a3, a4⟩ := ih (by omega)
    obtain ⟨H', v, b1, b2, b3⟩ := fe_e (S := S) hb hf a3 (by omega)
    obtain ⟨K, k1, k2⟩ : ∃ K : Nat → xR, (∀ i, i ≤ N → K i = Hs i) ∧ K (N + 1) = H' := ⟨fun i => if i ≤ N then Hs i else H', fun i h => if_pos h, if_neg (by omega)⟩
    refine ⟨K, (k1 0 (Nat.zero_le N)).trans a1, fun i hi => ?_, ?_, ?_⟩
    · by_cases c : i = N
      · subst c
        refine ⟨v, ?_⟩
        rw [k1 i (Nat.le_refl _), k2]
        exact b1
      · obtain ⟨w, e⟩ := a2 i (by omega)
        refine ⟨w, ?_⟩
        rw [k1 i (by omega), k1 (i + 1) (by omega)]
        exact e
    · rw [k2]
      exact b2
    · rw [k2]
      exact kh_t a4 b3
/-- feed and truncate -/
theorem fd_all (hb : ∀ i : Nat, i < m → 0 ≤ tx i ∧ tx i ≤ 127) (hm : m ≤ 500) (hf : 10000000 ≤ fu S) (h0 : S.2.1 0 0 1 = 0) (ht : TXo S 50 m tx) : ∃ (Sx : Nat → xSt) (N : Nat) (H' : xR), Sx 0 = S ∧ N ≤ 31 ∧ FDs 0 50 m tx Sx N ∧ f_X11_truncate_p3_0 (Sx N) 0 (m : Int) = some (1, sR S 0 H') ∧ H' 0 1 = (m : Int) ∧ (∀ j : Nat, j < m → H' 1 j = tx j) ∧ KH (S.2.1 0) H' := by
  obtain ⟨Hs, a1, a2, a3, a4⟩ := fs_all (S := S) (H := S.2.1 0) (tx := tx) hb hf ⟨h0, fun j hj => absurd hj (by omega)⟩ ((m + 19) / 20) (by omega)
  refine ⟨fun i => sR S 0 (Hs i), (m + 19) / 20, uF (Hs ((m + 19) / 20)) 0 1 (m : Int), ?_, by omega, ⟨fun i hi => ⟨by omega, a2 i hi⟩, by omega, fun i _ => ?_⟩, ?_, uF_e, fun j hj => ?_, fun o k h1 h2 => ?_⟩
  · show sR S 0 (Hs 0) = S
    rw [a1, sR_e]
  · exact ⟨(sR_n (by decide)).trans ht.1, fun k hk => (sR_n (by decide)).trans (ht.2 k hk)⟩
  · show f_X11_truncate_p3_0 (sR S 0 (Hs ((m + 19) / 20))) 0 (m : Int) = _
    unfold f_X11_truncate_p3_0
    rw [wr_e (z := (m : Int)) (by omega), if_neg (by omega), sR_g, a3.1, wr_e (by omega), if_pos (by omega), lt1_e, sR_w]
  · rw [uF_o (by decide), a3.2 j (by omega)]
    exact if_pos hj
  · rw [uF_x h2]
    exact a4 o k h1 h2
end C37
