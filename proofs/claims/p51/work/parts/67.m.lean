/-! mathematics: undo -/
theorem w_und {S : xSt} {q b : Nat} (hi : 0 ≤ gI S 0 8 1 ∧ gI S 0 8 1 ≤ 5) (hc : 1 ≤ gI S 0 8 2 ∧ gI S 0 8 2 ≤ 6) (hb : (b : Int) = 4 + (gI S 0 8 1 + gI S 0 8 2 - 1) % 6) (hF : FOK S b q) (hk : gk S q = 2) (hz : ZB (S.2.1 1)) : ∃ S1 H', f_X11_undo_p3_0 S 0 = some (gI S 0 8 2 - 1, sR S1 0 H') ∧ CPY S S1 1 b q ∧ (∀ o k, o ≠ 8 → H' o k = gI S 0 o k) ∧ H' 8 1 = gI S 0 8 1 ∧ H' 8 2 = gI S 0 8 2 - 1 := by
  have e : Int.tmod (wr (gI S 0 8 1 + gI S 0 8 2 - 1)) (wr 6) = (gI S 0 8 1 + gI S 0 8 2 - 1) % 6 := by
    rw [wr_e (by omega), wr_e (by omega), Int.tmod_eq_emod_of_nonneg (by omega)]
  have eb : 0 + (4 + ((gI S 0 8 1 + gI S 0 8 2 - 1) % 6).toNat) = b := by omega
  obtain ⟨S1, c1, c2⟩ := w_copy (S := S) (a := b) (b := 1) (q := q) (by omega) hF hk hz
  have e0 : S1.2.1 0 = S.2.1 0 := c2.2.2.1 0 (by decide)
  have g : ∀ o k, gI S1 0 o k = gI S 0 o k := fun o k => by
    show S1.2.1 0 o k = S.2.1 0 o k
    rw [e0]
  have em : wr ((gI S 0 8 1 + gI S 0 8 2 - 1) % 6) = (gI S 0 8 1 + gI S 0 8 2 - 1) % 6 := wr_e (by omega)
  have k1 : (uF (S1.2.1 0) 8 2 (gI S 0 8 2 - 1)) 8 2 = gI S 0 8 2 - 1 := uF_e
  have k2 : (uF (S1.2.1 0) 8 2 (gI S 0 8 2 - 1)) 8 1 = gI S 0 8 1 := (uF_k (by decide)).trans (g 8 1)
  refine ⟨S1, uF (S1.2.1 0) 8 2 (gI S 0 8 2 - 1), ?_, c2, fun o k ho => (uF_o ho).trans (g o k), k2, k1⟩
  unfold f_X11_undo_p3_0
  rw [wr_e (z := gI S 0 8 2) (by omega), if_pos (by omega)]
  unfold f_X1_takeBack_p3_8_1_0
  rw [wr_e (z := gI S 0 8 2) (by omega), if_neg (by omega), e, em, if_neg (by omega), wr_e (z := 6) (by omega), if_pos (by omega), ckI_e (by omega), eb]
  rw [show (0 : Nat) + 1 = 1 from rfl, c1, bd_e, g, lt1_e, w_wI, bd_e, sR_g, k1]
