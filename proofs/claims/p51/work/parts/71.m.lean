/-! mathematics: forecasts -/
section C31
variable {π F G H : xR} {S S' S2 : xSt} {i c : Int} {b : Nat} {B : Int}
/-- the Front ahead -/
theorem w_ah (hW : WD π S F i c) (hF : FI π B F) : ∃ S1, f_X0_copyFrom_p1_0_1_0 S 2 1 = some S1 ∧ CC S1 2 12 π ∧ S1 = sR S1 2 F ∧ (∀ o k, gI S1 1 o k = F o k) ∧ ∀ G, ZB G → SM S (sR S1 2 G) := by
  obtain ⟨w1, w2, w3, w4, w5, w6, w7, w8, w9⟩ := id hW
  obtain ⟨S1, e, c1, c2, c3, c4, c5⟩ := w_copy (S := S) (a := 1) (b := 2) (q := 12) (by decide) (wd_fok hW hF) w3 (w7 2 (by omega))
  refine ⟨S1, e, ⟨c4, ?_, by decide, (c3 12 (by decide)).trans w4, ?_⟩, sR_i (c2.trans w6), fun o k => ?_, fun G hG => ⟨c1, fun k h0 h2 => ⟨(sR_n1 h2).trans (c3 k h2), c5 k h2⟩, fun _ => ?_, c5 0 (by decide), fun k => ?_, ?_⟩⟩
  · show S1.1.2 12 = 2
    rw [c1]
    exact w3
  · show 10000000 ≤ S1.1.1
    rw [c1]
    exact w1
  · show S1.2.1 1 o k = F o k
    rw [c3 1 (by decide), w6]
  · rw [sR_g1]
    exact hG
  · rw [sR_n1 (by decide), c3 0 (by decide)]
  · rw [sR_n1 (by decide), c3 0 (by decide)]
/-- bubblesIn -/
theorem w_bub (hW : WD π S F i c) (hF : FI π B F) {n : Int} (hn : 1 ≤ n ∧ n ≤ 500) {F' : xR} (hz : ZB F') (he : ∀ S r q, CC S r q π → f_X0_decodeFor_p1_0 (sR S r F) r n = some (F' 15 1 - F 15 1, sR S r F')) : ∃ S1, f_X11_bubblesIn_p3_0 S 0 n 6 = some (F' 16 6 - F 16 6, S1) ∧ SM S S1 := by
  obtain ⟨S1, e, hC, e2, e3, h⟩ := w_ah hW hF
  refine ⟨sR S1 2 F', ?_, h F' hz⟩
  have e1 := he S1 2 12 hC
  rw [← e2] at e1
  have e4 : gI (sR S1 2 F') 1 16 6 = F 16 6 := (sR_n (by decide)).trans (e3 16 6)
  have e5 : (wr 6).toNat = 6 := by decide
  unfold f_X11_bubblesIn_p3_0
  rw [wr_e (z := n) (by omega), wr_e (z := 1) (by omega), wr_e (z := 500) (by omega), if_neg (by omega), if_pos (by omega), if_neg (by decide), if_pos (by decide), show (0 : Nat) + 1 = 1 from rfl, show (0 : Nat) + 2 = 2 from rfl, e, bd_e, e1, bd2_e, ckI_e (by omega), ckI_e (by omega), e5, e4, sR_g]
/-- roomNeeded -/
theorem w_room_b (hR : PR π) : ∀ (d : Nat) (F : xR) (B m n x3 : Int), FI π B F → B + 300 * d ≤ 40000000 → 0 ≤ x3 → x3 + d = n → n ≤ 1000000 → (F 0 14 ≤ m ∧ 0 ≤ m ∧ m ≤ 40) → ∃ F' v, (∀ S q f, CC S 2 q π → d < f → f_X11_roomNeeded_p3_0_b44 0 f (sR S 2 F) n m x3 = some (v, sR S 2 F')) ∧ (∀ S r q f x2, CC S r q π → d < f → f_X0_decodeFor_p1_0_b12 r f (sR S r F) n x2 x3 = some (F' 15 1 - x2, sR S r F')) ∧ F' 0 14 ≤ v ∧ (0 ≤ v ∧ v ≤ 40) := by
  intro d
  induction d with
  | zero =>
    intro F B m n x3 hF hB h3 hd hn hm
    refine ⟨F, m, fun S q f hC hf => ?_, fun S r q f x2 hC hf => ?_, hm.1, hm.2⟩
    · obtain ⟨f, rfl⟩ := fs_e (show 0 < f by omega)
      rw [f_X11_roomNeeded_p3_0_b44, wr_e (z := n) (by omega), wr_e (z := x3) (by omega), if_pos (by omega)]
    · obtain ⟨f, rfl⟩ := fs_e (show 0 < f by omega)
      rw [f_X0_decodeFor_p1_0_b12, wr_e (z := n) (by omega), wr_e (z := x3) (by omega), if_pos (by omega), sR_g]
  | succ d ih =>
    intro F B m n x3 hF hB h3 hd hn hm
    obtain ⟨F1, e1, f1, k1, k2, k3, k4, k5⟩ := p_cy hR hF (by omega)
    have hr := f1.1
    have h14 := hr.2.2.2.2.2.2.2.2.2.1
    have h13 := hr.2.2.2.2.2.1
    obtain ⟨-, -, -, -, p4, -⟩ := id hR
    have em : iMax m (F1 0 14) = if m < F1 0 14 then F1 0 14 else m := by
      unfold iMax
      rw [wr_e (by omega), wr_e (by omega)]
    have hm1 : F1 0 14 ≤ iMax m (F1 0 14) ∧ 0 ≤ iMax m (F1 0 14) ∧ iMax m (F1 0 14) ≤ 40 := by
      rw [em]
      split <;> omega
    obtain ⟨F', v, i1, i2, i3, i4⟩ := ih F1 (B + 300) (iMax m (F1 0 14)) n (x3 + 1) f1 (by omega) (by omega) (by omega) hn hm1
    refine ⟨F', v, fun S q f hC hf => ?_, fun S r q f x2 hC hf => ?_, i3, i4⟩
    · obtain ⟨f, rfl⟩ := fs_e (show 0 < f by omega)
      rw [f_X11_roomNeeded_p3_0_b44, wr_e (z := n) (by omega), wr_e (z := x3) (by omega), if_neg (by omega), show (0 : Nat) + 2 = 2 from rfl, e1 S 2 q hC, bd_e, sR_g]
      exact i1 S q f hC (by omega)
    · obtain ⟨f, rfl⟩ := fs_e (show 0 < f by omega)
      rw [f_X0_decodeFor_p1_0_b12, wr_e (z := n) (by omega), wr_e (z := x3) (by omega), if_neg (by omega), e1 S r q hC, bd_e]
      exact i2 S r q f x2 hC (by omega)
theorem w_room (hR : PR π) (hW : WD π S F i c) (hF : FI π B F) (hB : B ≤ 30000000) {n : Int} (hn : 1 ≤ n ∧ n ≤ 500) {F' : xR} (hz : ZB F') (he : ∀ S r q, CC S r q π → f_X0_decodeFor_p1_0 (sR S r F) r n = some (F' 15 1 - F 15 1, sR S r F')) : ∃ S1 v, f_X11_roomNeeded_p3_0 S 0 n = some (v, S1) ∧ SM S S1 ∧ F' 0 14 ≤ v ∧ (0 ≤ v ∧ v ≤ 40) := by
  obtain ⟨S1, e, hC, e2, e3, h⟩ := w_ah hW hF
  have hr := hF.1
  have h14 := hr.2.2.2.2.2.2.2.2.2.1
  have h13 := hr.2.2.2.2.2.1
  obtain ⟨-, -, -, -, p4, -⟩ := id hR
  obtain ⟨F2, v, i1, i2, i3, i4⟩ := w_room_b hR n.toNat F B (F 0 14) n 0 hF (by omega) (by decide) (by omega) (by omega) ⟨Int.le_refl _, by omega⟩
  have hf := cc_f hC
  have e5 : F2 = F' := by
    have g1 := he S1 2 12 hC
    unfold f_X0_decodeFor_p1_0 at g1
    rw [sR_fu, sR_g] at g1
    have g2 := i2 S1 2 12 (fu S1) (F 15 1) hC (by omega)
    rw [g1] at g2
    exact (sR_inj (congrArg Prod.snd (Option.some.inj g2))).symm
  subst e5
  refine ⟨sR S1 2 F2, v, ?_, h F2 hz, i3, i4⟩
  have g := i1 S1 12 (fu S1) hC (by omega)
  have e6 : gI S1 2 0 14 = F 0 14 := by
    rw [e2, sR_g]
  rw [← e2] at g
  unfold f_X11_roomNeeded_p3_0
  rw [wr_e (z := n) (by omega), wr_e (z := 1) (by omega), wr_e (z := 500) (by omega), if_neg (by omega), if_pos (by omega), show (0 : Nat) + 1 = 1 from rfl, show (0 : Nat) + 2 = 2 from rfl, e, bd_e, e6, g]
/-- runTo and cyclesTo -/
theorem w_both (hR : PR π) : ∀ (d : Nat) (F : xR) (B x g : Int), FI π B F → B + 300 * d ≤ 30000000 → 0 ≤ x → x + d = 500 → (0 ≤ g ∧ g ≤ 9999) → F 15 1 < g → ∃ F' n v, (∀ S q f, CC S 1 q π → d + 1 < f → f_X11_runTo_p3_0_b35 0 f (sR S 1 F) g x = some (n, sR S 1 F')) ∧ (∀ S q f, CC S 2 q π → d + 1 < f → f_X11_cyclesTo_p3_0_b51 0 f (sR S 2 F) g (x + 1) = some (v, sR S 2 F')) ∧ FI π (B + 300 * d) F' ∧ (v = -1 ∨ (v = n ∧ g ≤ F' 15 1 ∧ 1 ≤ v ∧ v ≤ 500)) ∧ F' 15 1 < g + 12 := by
  intro d
  induction d with
  | zero =>
    intro F B x g hF hB hx hd hg hl
    refine ⟨F, x, -1, fun S q f hC hf => ?_, fun S q f hC hf => ?_, fi_mono hF (by omega), Or.inl rfl, by omega⟩
    · obtain ⟨f, rfl⟩ := fs_e (show 0 < f by omega)
      rw [f_X11_runTo_p3_0_b35, wr_e (z := 500) (by omega), wr_e (z := x) (by omega), if_pos (by omega)]
    · obtain ⟨f, rfl⟩ := fs_e (show 0 < f by omega)
      rw [f_X11_cyclesTo_p3_0_b51, wr_e (z := 500) (by omega), wr_e (z := x + 1) (by omega), if_pos (by omega)]
  | succ d ih =>
    intro F B x g hF hB hx hd hg hl
    have hn := hF.2.2.2.2.2.2.2.2.1
    have n1 := hn.1 1
    obtain ⟨F1, e1, f1, k1, k2, k3, k4, k5⟩ := p_cy hR hF (by omega)
    by_cases c : g ≤ F1 15 1
    · refine ⟨F1, x + 1, x + 1, fun S q f hC hf => ?_, fun S q f hC hf => ?_, fi_mono f1 (by omega), Or.inr ⟨rfl, c, by omega, by omega⟩, by omega⟩
      · obtain ⟨f, rfl⟩ := fs_e (show 0 < f by omega)
        rw [f_X11_runTo_p3_0_b35, wr_e (z := 500) (by omega), wr_e (z := x) (by omega), if_neg (by omega), show (0 : Nat) + 1 = 1 from rfl, sR_g, wr_e (z := g) (by omega), wr_e (z := F 15 1) (by omega), if_neg (by omega), e1 S 1 q hC, bd_e]
        obtain ⟨f, rfl⟩ := fs_e (show 0 < f by omega)
        rw [f_X11_runTo_p3_0_b35, wr_e (z := 500) (by omega), wr_e (z := x + 1) (by omega)]
        by_cases c2 : 500 ≤ x + 1
        · rw [if_pos c2]
        · rw [if_neg c2, show (0 : Nat) + 1 = 1 from rfl, sR_g, wr_e (z := g) (by omega), wr_e (z := F1 15 1) (by omega), if_pos c]
      · obtain ⟨f, rfl⟩ := fs_e (show 0 < f by omega)
        rw [f_X11_cyclesTo_p3_0_b51, wr_e (z := 500) (by omega), wr_e (z := x + 1) (by omega), if_neg (by omega), show (0 : Nat) + 2 = 2 from rfl, e1 S 2 q hC, bd_e, sR_g, wr_e (z := g) (by omega), wr_e (z := F1 15 1) (by omega), if_neg (by omega)]
    · obtain ⟨F', n, v, i1, i2, i3, i4⟩ := ih F1 (B + 300) (x + 1) g f1 (by omega) (by omega) (by omega) hg (by omega)
      refine ⟨F', n, v, fun S q f hC hf => ?_, fun S q f hC hf => ?_, fi_mono i3 (by omega), i4⟩
      · obtain ⟨f, rfl⟩ := fs_e (show 0 < f by omega)
        rw [f_X11_runTo_p3_0_b35, wr_e (z := 500) (by omega), wr_e (z := x) (by omega), if_neg (by omega), show (0 : Nat) + 1 = 1 from rfl, sR_g, wr_e (z := g) (by omega), wr_e (z := F 15 1) (by omega), if_neg (by omega), e1 S 1 q hC, bd_e]
        exact i1 S q f hC (by omega)
      · obtain ⟨f, rfl⟩ := fs_e (show 0 < f by omega)
        rw [f_X11_cyclesTo_p3_0_b51, wr_e (z := 500) (by omega), wr_e (z := x + 1) (by omega), if_neg (by omega), show (0 : Nat) + 2 = 2 from rfl, e1 S 2 q hC, bd_e, sR_g, wr_e (z := g) (by omega), wr_e (z := F1 15 1) (by omega), if_pos (by omega)]
        exact i2 S q f hC (by omega)
/-- cyclesTo -/
theorem w_cyTo (hW : WD π S F i c) (hF : FI π B F) {F' : xR} {v : Int} (hz : ZB F') (he : ∀ S q f, CC S 2 q π → 501 < f → f_X11_cyclesTo_p3_0_b51 0 f (sR S 2 F) (F 15 1 + 5) 1 = some (v, sR S 2 F')) : ∃ S1, f_X11_cyclesTo_p3_0 S 0 5 = some (v, S1) ∧ SM S S1 := by
  obtain ⟨S1, e, hC, e2, e3, h⟩ := w_ah hW hF
  refine ⟨sR S1 2 F', ?_, h F' hz⟩
  have hf := cc_f hC
  have e1 := he S1 12 (fu S1) hC (by omega)
  rw [← e2] at e1
  unfold f_X11_cyclesTo_p3_0
  rw [if_neg (by decide), if_pos (by decide), show (0 : Nat) + 1 = 1 from rfl, show (0 : Nat) + 2 = 2 from rfl, e, bd_e, e3, e1]
end C31
