/-! mathematics: the world of the calls -/
/-- h's world: its program π in 12, its Front F in 1 -/
def WD (π : xR) (S : xSt) (F : xR) (i c : Int) : Prop := 10000000 ≤ S.1.1 ∧ S.2.2 0 0 4 = (12, 0) ∧ S.1.2 12 = 2 ∧ S.2.1 12 = π ∧ S.2.2 1 0 0 = (12, 0) ∧ S.2.1 1 = F ∧ (∀ k : Nat, 2 ≤ k ∧ k ≤ 9 → ZB (S.2.1 k)) ∧ S.2.1 0 8 1 = i ∧ S.2.1 0 8 2 = c
/-- a Front G in b -/
def HD (S : xSt) (b : Nat) (G : xR) : Prop := S.2.2 b 0 0 = (12, 0) ∧ S.2.1 b = G
/-- what reading calls and forecasts keep -/
def SM (S S' : xSt) : Prop := S'.1 = S.1 ∧ (∀ k : Nat, k ≠ 0 → k ≠ 2 → S'.2.1 k = S.2.1 k ∧ S'.2.2 k = S.2.2 k) ∧ (ZB (S.2.1 2) → ZB (S'.2.1 2)) ∧ S'.2.2 0 = S.2.2 0 ∧ (∀ k : Nat, S'.2.1 0 8 k = S.2.1 0 8 k) ∧ S'.2.1 0 0 9 = S.2.1 0 0 9
section C30
variable {π F G H : xR} {S S' S2 : xSt} {i c : Int} {b : Nat} {B : Int}
theorem sm_r : SM S S := ⟨rfl, fun _ _ _ => ⟨rfl, rfl⟩, id, rfl, fun _ => rfl, rfl⟩
theorem sm_t (h : SM S S') (h2 : SM S' S2) : SM S S2 := by
  obtain ⟨a1, a2, a3, a4, a5, a6⟩ := h
  obtain ⟨b1, b2, b3, b4, b5, b6⟩ := h2
  exact ⟨b1.trans a1, fun k x y => ⟨(b2 k x y).1.trans (a2 k x y).1, (b2 k x y).2.trans (a2 k x y).2⟩, fun x => b3 (a3 x), b4.trans a4, fun k => (b5 k).trans (a5 k), b6.trans a6⟩
theorem sm_wd (h : SM S S') (hW : WD π S F i c) : WD π S' F i c := by
  obtain ⟨a1, a2, a3, a4, a5, a6⟩ := h
  obtain ⟨w1, w2, w3, w4, w5, w6, w7, w8, w9⟩ := hW
  refine ⟨by rw [a1]; exact w1, by rw [a4]; exact w2, by rw [a1]; exact w3, (a2 12 (by decide) (by decide)).1.trans w4, by rw [(a2 1 (by decide) (by decide)).2]; exact w5, (a2 1 (by decide) (by decide)).1.trans w6, fun k hk => ?_, (a5 1).trans w8, (a5 2).trans w9⟩
  by_cases e : k = 2
  · rw [e]
    exact a3 (w7 2 (by omega))
  · rw [(a2 k (by omega) e).1]
    exact w7 k hk
theorem sm_hd (h : SM S S') (hb : 3 ≤ b) (hH : HD S b G) : HD S' b G := ⟨by rw [(h.2.1 b (by omega) (by omega)).2]; exact hH.1, (h.2.1 b (by omega) (by omega)).1.trans hH.2⟩
theorem wd_cc (hW : WD π S F i c) : CC S 1 12 π := ⟨hW.2.2.2.2.1, hW.2.2.1, by decide, hW.2.2.2.1, hW.1⟩
theorem wd_fok (hW : WD π S F i c) (hF : FI π B F) : FOK S 1 12 := fok_fi hW.2.2.2.2.1 hW.2.2.2.2.2.1 hF
theorem wd_e (hW : WD π S F i c) : S = sR S 1 F := sR_i hW.2.2.2.2.2.1
theorem wd_sR (hW : WD π S F i c) : WD π (sR S 1 G) G i c := by
  obtain ⟨w1, w2, w3, w4, w5, w6, w7, w8, w9⟩ := hW
  refine ⟨w1, w2, w3, (sR_n1 (by decide)).trans w4, w5, sR_g1, fun k hk => ?_, ?_, ?_⟩
  · rw [sR_n1 (by omega)]
    exact w7 k hk
  · rw [sR_n1 (by decide)]
    exact w8
  · rw [sR_n1 (by decide)]
    exact w9
/-- S1 is the world behind a change that began at S, with the Front G remembered in b -/
def RM (π : xR) (S S1 : xSt) (F G : xR) (c i' c' : Int) (b : Nat) : Prop := WD π S1 F i' c' ∧ (0 ≤ i' ∧ i' ≤ 5) ∧ (1 ≤ c' ∧ c' ≤ 6) ∧ (c < 6 → c' = c + 1) ∧ (4 ≤ b ∧ b ≤ 9) ∧ (b : Int) = 4 + (i' + c' - 1) % 6 ∧ HD S1 b G ∧ (S1.2.1 3 = S.2.1 3 ∧ S1.2.2 3 = S.2.2 3) ∧ S1.2.1 0 0 9 = S.2.1 0 0 9
theorem rm_sR {c i' c' : Int} (h : RM π S S' F G c i' c' b) : RM π S (sR S' 1 H) H G c i' c' b := by
  obtain ⟨h1, h2, h3, h4, h5, h6, h7, h8, h9⟩ := h
  refine ⟨wd_sR h1, h2, h3, h4, h5, h6, ⟨h7.1, (sR_n1 (by omega)).trans h7.2⟩, ⟨(sR_n1 (by decide)).trans h8.1, h8.2⟩, ?_⟩
  rw [sR_n1 (by decide)]
  exact h9
theorem w_mem (hW : WD π S F i c) (hi : 0 ≤ i ∧ i ≤ 5) (hc : 0 ≤ c ∧ c ≤ 6) (hF : FI π B F) : ∃ S1 i' c' b, f_X1_remember_p3_8_1_0 S 0 1 = some S1 ∧ RM π S S1 F F c i' c' b := by
  have hK := wd_fok hW hF
  obtain ⟨w1, w2, w3, w4, w5, w6, w7, w8, w9⟩ := id hW
  obtain ⟨S1, H', b, e, hb, ⟨c1, c2, c3, c4, c5⟩, h1, h2, h3, h4, h5⟩ := w_rem (S := S) (q := 12) hK w3 (fun k hk => w7 k (by omega)) (by show 0 ≤ S.2.1 0 8 1 ∧ S.2.1 0 8 1 ≤ 5; rw [w8]; exact hi) (by show 0 ≤ S.2.1 0 8 2 ∧ S.2.1 0 8 2 ≤ 6; rw [w9]; exact hc)
  have h5' : S.2.1 0 8 2 < 6 → H' 8 2 = S.2.1 0 8 2 + 1 := h5
  refine ⟨_, H' 8 1, H' 8 2, b, e, ⟨?_, ?_, ?_, ?_, ?_, ?_, ?_, ?_, ?_⟩, h2, h3, fun x => ?_, hb, h4, ⟨c4, ?_⟩, ⟨?_, ?_⟩, ?_⟩
  · show 10000000 ≤ S1.1.1
    rw [c1]
    exact w1
  · show S1.2.2 0 0 4 = _
    rw [c5 0 (by omega)]
    exact w2
  · show S1.1.2 12 = _
    rw [c1]
    exact w3
  · rw [sR_n1 (by decide), c3 12 (by omega)]
    exact w4
  · show S1.2.2 1 0 0 = _
    rw [c5 1 (by omega)]
    exact w5
  · rw [sR_n1 (by decide), c3 1 (by omega)]
    exact w6
  · intro k hk
    rw [sR_n1 (by omega)]
    by_cases e : k = b
    · rw [e, c2, w6]
      exact hF.2.2.2.2.2.2.2.2.2
    · rw [c3 k e]
      exact w7 k hk
  · rw [sR_g1]
  · rw [sR_g1]
  · rw [← w9] at x ⊢
    exact h5' x
  · rw [sR_n1 (by omega), c2, w6]
  · rw [sR_n1 (by decide), c3 3 (by omega)]
  · show S1.2.2 3 = _
    rw [c5 3 (by omega)]
  · rw [sR_g1]
    exact h1 0 9 (by decide)
/-- run -/
theorem w_run (hW : WD π S F i c) (hi : 0 ≤ i ∧ i ≤ 5) (hc : 0 ≤ c ∧ c ≤ 6) (hF : FI π B F) {n : Int} (hn : 1 ≤ n ∧ n ≤ 500) {F' : xR} (he : ∀ S r q, CC S r q π → f_X0_decodeFor_p1_0 (sR S r F) r n = some (F' 15 1 - F 15 1, sR S r F')) : ∃ S1 i' c' b, f_X11_run_p3_0 S 0 n = some (F' 15 1 - F 15 1, S1) ∧ RM π S S1 F' F c i' c' b := by
  obtain ⟨S1, i', c', b, e, h⟩ := w_mem hW hi hc hF
  refine ⟨sR S1 1 F', i', c', b, ?_, rm_sR h⟩
  have e1 := he S1 1 12 (wd_cc h.1)
  rw [← wd_e h.1] at e1
  unfold f_X11_run_p3_0
  rw [wr_e (z := n) (by omega), wr_e (z := 1) (by omega), wr_e (z := 500) (by omega), if_neg (by omega), if_pos (by omega), show (0 : Nat) + 1 = 1 from rfl, e, bd_e, e1, bd2_e]
/-- runTo -/
theorem w_runTo (hW : WD π S F i c) (hi : 0 ≤ i ∧ i ≤ 5) (hc : 0 ≤ c ∧ c ≤ 6) (hF : FI π B F) {g : Int} (hg : 0 ≤ g ∧ g ≤ 9999) {F' : xR} {n : Int} (he : ∀ S q f, CC S 1 q π → 501 < f → f_X11_runTo_p3_0_b35 0 f (sR S 1 F) g 0 = some (n, sR S 1 F')) : ∃ S1 i' c' b, f_X11_runTo_p3_0 S 0 g = some (n, S1) ∧ RM π S S1 F' F c i' c' b := by
  obtain ⟨S1, i', c', b, e, h⟩ := w_mem hW hi hc hF
  refine ⟨sR S1 1 F', i', c', b, ?_, rm_sR h⟩
  have e1 := he S1 12 (fu S1) (wd_cc h.1) (by have := h.1.1; unfold fu; omega)
  rw [← wd_e h.1] at e1
  unfold f_X11_runTo_p3_0
  rw [wr_e (z := g) (by omega), wr_e (z := 9999) (by omega), if_neg (by omega), if_pos (by omega), show (0 : Nat) + 1 = 1 from rfl, e, bd_e, e1]
/-- stall -/
theorem w_stall (hW : WD π S F i c) (hi : 0 ≤ i ∧ i ≤ 5) (hc : 0 ≤ c ∧ c ≤ 6) (hF : FI π B F) {n : Int} (hn : 0 ≤ n ∧ n ≤ 99) : ∃ S1 i' c' b, f_X11_stall_p3_0 S 0 n = some (F 0 17, S1) ∧ RM π S S1 (uF F 0 17 n) F c i' c' b := by
  obtain ⟨S1, i', c', b, e, h⟩ := w_mem hW hi hc hF
  refine ⟨sR S1 1 (uF F 0 17 n), i', c', b, ?_, rm_sR h⟩
  have e2 := wd_e h.1
  have e3 : gI S1 1 0 17 = F 0 17 := by
    rw [e2, sR_g]
  unfold f_X11_stall_p3_0
  rw [wr_e (z := n) (by omega), wr_e (z := 99) (by omega), if_neg (by omega), if_pos (by omega), show (0 : Nat) + 1 = 1 from rfl, e, bd_e, lt1_e, e3]
  have e4 : wI S1 1 0 17 n = sR S1 1 (uF F 0 17 n) := by
    have := w_wI (S := S1) (r := 1) (o := 0) (k := 17) (z := n)
    rw [this, h.1.2.2.2.2.2.1]
  rw [e4]
theorem is_al {k v : Int} (h : (k = 0 ∧ 1 ≤ v ∧ v ≤ 6) ∨ (k = 5 ∧ 0 ≤ v ∧ v ≤ 30)) : f_X11_isAllowed S k v = some (1, S) := by
  rcases h with ⟨rfl, h⟩ | ⟨rfl, h⟩
  · have e1 : wr (tbI 2 (wr 0).toNat) = 1 := by decide +kernel
    have e2 : wr (tbI 0 (wr 0).toNat) = 6 := by decide +kernel
    unfold f_X11_isAllowed
    rw [if_neg (show ¬ wr 0 < 0 by decide), if_pos (show wr 0 < wr 6 by decide), if_pos (show ¬ wr 0 = wr 1 by decide), ckI_e (by omega), ckI_e (by omega), e1, e2, wr_e (z := v) (by omega), if_neg (by omega), if_neg (by omega)]
  · have e1 : wr (tbI 2 (wr 5).toNat) = 0 := by decide +kernel
    have e2 : wr (tbI 0 (wr 5).toNat) = 30 := by decide +kernel
    unfold f_X11_isAllowed
    rw [if_neg (show ¬ wr 5 < 0 by decide), if_pos (show wr 5 < wr 6 by decide), if_pos (show ¬ wr 5 = wr 1 by decide), ckI_e (by omega), ckI_e (by omega), e1, e2, wr_e (z := v) (by omega), if_neg (by omega), if_neg (by omega)]
theorem w_set29 (hW : WD π S F i c) (hi : 0 ≤ i ∧ i ≤ 5) (hc : 0 ≤ c ∧ c ≤ 6) (hF : FI π B F) {k v : Int} (h : (k = 0 ∧ 1 ≤ v ∧ v ≤ 6) ∨ (k = 5 ∧ 0 ≤ v ∧ v ≤ 30)) : ∃ S1 i' c' b, f_X11_set_p3_0_b29 0 S v k = some (F 1 k.toNat, S1) ∧ RM π S S1 (uF F 1 k.toNat v) F c i' c' b := by
  obtain ⟨S1, i', c', b, e, hm⟩ := w_mem hW hi hc hF
  refine ⟨sR S1 1 (uF F 1 k.toNat v), i', c', b, ?_, rm_sR hm⟩
  have e3 : gI S1 1 1 k.toNat = F 1 k.toNat := by
    rw [wd_e hm.1, sR_g]
  have e4 : wI S1 1 1 k.toNat v = sR S1 1 (uF F 1 k.toNat v) := by
    have := w_wI (S := S1) (r := 1) (o := 1) (k := k.toNat) (z := v)
    rw [this, hm.1.2.2.2.2.2.1]
  unfold f_X11_set_p3_0_b29
  rw [is_al h, bd2_e, if_pos (by decide), show (0 : Nat) + 1 = 1 from rfl, e, bd_e, ckI_e (by omega), ckI_e (by omega), lt1_e, wr_e (z := k) (by omega), e3, e4]
theorem w_set2 (hW : WD π S F i c) (hi : 0 ≤ i ∧ i ≤ 5) (hc : 0 ≤ c ∧ c ≤ 6) (hF : FI π B F) {v : Int} (h : 1 ≤ v ∧ v ≤ 6) : ∃ S1 i' c' b, f_X11_set_p3_0 S 0 2 v = some (F 1 0, S1) ∧ RM π S S1 (uF F 1 0 v) F c i' c' b := by
  obtain ⟨S1, i', c', b, e, hm⟩ := w_set29 hW hi hc hF (k := 0) (v := v) (Or.inl ⟨rfl, h⟩)
  refine ⟨S1, i', c', b, ?_, hm⟩
  unfold f_X11_set_p3_0
  rw [if_pos (by decide)]
  exact e
theorem w_set7 (hW : WD π S F i c) (hi : 0 ≤ i ∧ i ≤ 5) (hc : 0 ≤ c ∧ c ≤ 6) (hF : FI π B F) {v : Int} (h : 0 ≤ v ∧ v ≤ 30) : ∃ S1 i' c' b, f_X11_set_p3_0 S 0 7 v = some (F 1 5, S1) ∧ RM π S S1 (uF F 1 5 v) F c i' c' b := by
  obtain ⟨S1, i', c', b, e, hm⟩ := w_set29 hW hi hc hF (k := 5) (v := v) (Or.inr ⟨rfl, h⟩)
  refine ⟨S1, i', c', b, ?_, hm⟩
  unfold f_X11_set_p3_0
  rw [if_neg (by decide), if_neg (by decide), if_pos (by decide)]
  exact e
end C30
