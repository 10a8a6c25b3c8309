/-! mathematics: how a case is reduced to the pair of pictures -/
theorem ckb {m L : Nat} {k : Int} (hL : L ≤ 3072) (hx : 6 * m + 6 ≤ L) (hk : 0 ≤ k ∧ k ≤ 5) : 0 ≤ wr (6 * (m : Int) + k) ∧ wr (6 * (m : Int) + k) < (L : Int) := by
  rw [wr_id (by omega)]
  omega
theorem bd2_s {α β γ : Type} {x : Option (α × β)} {f : α → β → Option γ} {a : α} {b : β} (h : x = some (a, b)) : bd2 x f = f a b := by
  rw [h]
  rfl
theorem step_b2457 {r1 r2 r3 L : Nat} {sc : Nat → Int} {Inv : xSt → Prop} (hL : L ≤ 3072) (h : ∀ (S : xSt) (i : Int), Inv S → ∃ v S1 v' S2, f_X11_outputByte_p3_0 S r1 i = some (v, S1) ∧ f_X12_outputByte_p4_0 S1 r2 i = some (v', S2) ∧ wr v = wr v' ∧ Inv S2) : stepOK Inv L (fun c S x => f_law_b2457 c r1 r2 r3 L sc S x) := by
  intro c S m hI hx hgo
  obtain ⟨v, S1, v', S2, e1, e2, e3, hI2⟩ := h S (sc (wr (6 * (m : Int) + 1)).toNat) hI
  show ∃ T, f_law_b2457 c r1 r2 r3 L sc S (6 * (m : Int)) = some T
  unfold f_law_b2457 ckI
  rw [if_pos (ckb (k := 1) hL hx (by decide)), bd2_s e1, if_pos (ckb (k := 1) hL hx (by decide)), bd2_s e2, if_pos e3]
  exact hgo S2 hI2
theorem step_b2482 {r1 r2 r3 L : Nat} {sc : Nat → Int} {Inv : xSt → Prop} (h : ∀ (S : xSt), Inv S → ∃ v S1 v' S2, f_X11_saveState_p3_0 S r1 = some (v, S1) ∧ f_X12_saveState_p4_0 S1 r2 = some (v', S2) ∧ wr v = wr v' ∧ Inv S2) : stepOK Inv L (fun c S x => f_law_b2482 c r1 r2 r3 L sc S x) := by
  intro c S m hI hx hgo
  obtain ⟨v, S1, v', S2, e1, e2, e3, hI2⟩ := h S hI
  show ∃ T, f_law_b2482 c r1 r2 r3 L sc S (6 * (m : Int)) = some T
  unfold f_law_b2482
  rw [bd2_s e1, bd2_s e2, if_pos e3]
  exact hgo S2 hI2
