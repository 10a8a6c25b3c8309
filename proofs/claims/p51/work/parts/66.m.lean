/-! mathematics: what is remembered -/
theorem w_wI {S : xSt} {r o k : Nat} {z : Int} : wI S r o k z = sR S r (uF (S.2.1 r) o k z) := by
  have e : S = sR S r (S.2.1 r) := sR_i rfl
  have h : wI (sR S r (S.2.1 r)) r o k z = sR S r (uF (S.2.1 r) o k z) := sR_w
  rw [← e] at h
  exact h
theorem w_rem {S : xSt} {q : Nat} (hF : FOK S 1 q) (hk : gk S q = 2) (hz : ∀ k, 4 ≤ k ∧ k ≤ 9 → ZB (S.2.1 k)) (hi : 0 ≤ gI S 0 8 1 ∧ gI S 0 8 1 ≤ 5) (hc : 0 ≤ gI S 0 8 2 ∧ gI S 0 8 2 ≤ 6) : ∃ S1 H' b, f_X1_remember_p3_8_1_0 S 0 1 = some (sR S1 0 H') ∧ (4 ≤ b ∧ b ≤ 9) ∧ CPY S S1 b 1 q ∧ (∀ o k, o ≠ 8 → H' o k = gI S 0 o k) ∧ (0 ≤ H' 8 1 ∧ H' 8 1 ≤ 5) ∧ (1 ≤ H' 8 2 ∧ H' 8 2 ≤ 6) ∧ (b : Int) = 4 + (H' 8 1 + H' 8 2 - 1) % 6 ∧ (gI S 0 8 2 < 6 → H' 8 2 = gI S 0 8 2 + 1) := by
  have e : Int.tmod (wr (gI S 0 8 1 + gI S 0 8 2)) (wr 6) = (gI S 0 8 1 + gI S 0 8 2) % 6 := by
    rw [wr_e (by omega), wr_e (by omega), Int.tmod_eq_emod_of_nonneg (by omega)]
  obtain ⟨S1, c1, c2⟩ := w_copy (S := S) (a := 1) (b := 0 + (4 + ((gI S 0 8 1 + gI S 0 8 2) % 6).toNat)) (q := q) (by omega) hF hk (hz _ (by omega))
  have e0 : S1.2.1 0 = S.2.1 0 := c2.2.2.1 0 (by omega)
  have g : ∀ o k, gI S1 0 o k = gI S 0 o k := fun o k => by
    show S1.2.1 0 o k = S.2.1 0 o k
    rw [e0]
  have em : wr ((gI S 0 8 1 + gI S 0 8 2) % 6) = (gI S 0 8 1 + gI S 0 8 2) % 6 := wr_e (by omega)
  unfold f_X1_remember_p3_8_1_0
  rw [e, em, if_neg (by omega), wr_e (z := 6) (by omega), if_pos (by omega), ckI_e (by omega), c1, bd_e, g, g, wr_e (z := gI S 0 8 2) (by omega)]
  by_cases c : 6 ≤ gI S 0 8 2
  · have e5 : Int.tmod (wr (gI S 0 8 1 + 1)) 6 = (gI S 0 8 1 + 1) % 6 := by
      rw [wr_e (by omega), Int.tmod_eq_emod_of_nonneg (by omega)]
    have k1 : (uF (S1.2.1 0) 8 1 ((gI S 0 8 1 + 1) % 6)) 8 1 = (gI S 0 8 1 + 1) % 6 := uF_e
    have k2 : (uF (S1.2.1 0) 8 1 ((gI S 0 8 1 + 1) % 6)) 8 2 = gI S 0 8 2 := (uF_k (by decide)).trans (g 8 2)
    refine ⟨S1, uF (S1.2.1 0) 8 1 ((gI S 0 8 1 + 1) % 6), 0 + (4 + ((gI S 0 8 1 + gI S 0 8 2) % 6).toNat), ?_, by omega, c2, fun o k ho => (uF_o ho).trans (g o k), by omega, by omega, by omega, fun _ => by omega⟩
    rw [if_pos c, lt1_e, e5, w_wI]
  · have k1 : (uF (S1.2.1 0) 8 2 (gI S 0 8 2 + 1)) 8 2 = gI S 0 8 2 + 1 := uF_e
    have k2 : (uF (S1.2.1 0) 8 2 (gI S 0 8 2 + 1)) 8 1 = gI S 0 8 1 := (uF_k (by decide)).trans (g 8 1)
    refine ⟨S1, uF (S1.2.1 0) 8 2 (gI S 0 8 2 + 1), 0 + (4 + ((gI S 0 8 1 + gI S 0 8 2) % 6).toNat), ?_, by omega, c2, fun o k ho => (uF_o ho).trans (g o k), by omega, by omega, by omega, fun _ => by omega⟩
    rw [if_neg c, lt1_e, w_wI]
