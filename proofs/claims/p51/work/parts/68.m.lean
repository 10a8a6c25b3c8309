/-! mathematics: a state is saved and restored -/
theorem w_save {S : xSt} {q : Nat} (hF : FOK S 1 q) (hk : gk S q = 2) (hz : ZB (S.2.1 3)) : ∃ S1 H', f_X11_saveState_p3_0 S 0 = some (gI S 1 15 0, sR S1 0 H') ∧ CPY S S1 3 1 q ∧ (∀ o k, o ≠ 0 → H' o k = gI S 0 o k) ∧ H' 0 9 = 1 ∧ H' 0 1 = gI S 0 0 1 := by
  obtain ⟨S1, c1, c2⟩ := w_copy (S := S) (a := 1) (b := 3) (q := q) (by decide) hF hk hz
  have e0 : S1.2.1 0 = S.2.1 0 := c2.2.2.1 0 (by decide)
  have e1 : S1.2.1 1 = S.2.1 1 := c2.2.2.1 1 (by decide)
  have g : ∀ o k, gI S1 0 o k = gI S 0 o k := fun o k => by
    show S1.2.1 0 o k = S.2.1 0 o k
    rw [e0]
  have g1 : gI S1 1 15 0 = gI S 1 15 0 := by
    show S1.2.1 1 15 0 = S.2.1 1 15 0
    rw [e1]
  refine ⟨S1, uF (S1.2.1 0) 0 9 1, ?_, c2, fun o k ho => (uF_o ho).trans (g o k), uF_e, (uF_k (by decide)).trans (g 0 1)⟩
  unfold f_X11_saveState_p3_0
  rw [show (0 : Nat) + 3 = 3 from rfl, show (0 : Nat) + 1 = 1 from rfl, c1, bd_e, lt1_e, w_wI, sR_n (by decide), g1]
theorem w_rest {S : xSt} {q : Nat} (hF : FOK S 3 q) (hk : gk S q = 2) (hz : ZB (S.2.1 1)) (h9 : gI S 0 0 9 = 1) : ∃ S1 H', f_X11_restoreState_p3_0 S 0 = some (gI S 3 15 0, sR S1 0 H') ∧ CPY S S1 1 3 q ∧ (∀ o k, o ≠ 8 → H' o k = gI S 0 o k) ∧ H' 8 1 = gI S 0 8 1 ∧ H' 8 2 = 0 := by
  obtain ⟨S1, c1, c2⟩ := w_copy (S := S) (a := 3) (b := 1) (q := q) (by decide) hF hk hz
  have e0 : S1.2.1 0 = S.2.1 0 := c2.2.2.1 0 (by decide)
  have e1 : S1.2.1 1 = S.2.1 3 := c2.2.1
  have g : ∀ o k, gI S1 0 o k = gI S 0 o k := fun o k => by
    show S1.2.1 0 o k = S.2.1 0 o k
    rw [e0]
  have g1 : gI S1 1 15 0 = gI S 3 15 0 := by
    show S1.2.1 1 15 0 = S.2.1 3 15 0
    rw [e1]
  refine ⟨S1, uF (S1.2.1 0) 8 2 0, ?_, c2, fun o k ho => (uF_o ho).trans (g o k), (uF_k (by decide)).trans (g 8 1), uF_e⟩
  unfold f_X11_restoreState_p3_0 f_X1_forget_p3_8
  rw [h9, if_pos (show ¬ wr 1 = 0 by decide), show (0 : Nat) + 3 = 3 from rfl, show (0 : Nat) + 1 = 1 from rfl, c1, bd_e, lt1_e, w_wI, bd_e, sR_n (by decide), g1]
