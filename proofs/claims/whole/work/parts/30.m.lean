/-! mathematics: a first pair -/
def SimA (Sc : xSt) (r : Nat) (Sm : xSt) (M : Nat) : Prop := gI Sc r 0 14 = gI Sm M 6 6 ∧ gI Sc r 0 17 = gI Sm M 6 7 ∧ gI Sc r 1 4 = gI Sm M 6 1 ∧ (0 ≤ gI Sc r 0 14 ∧ gI Sc r 0 14 ≤ 40) ∧ (0 ≤ gI Sc r 0 17 ∧ gI Sc r 0 17 ≤ 99) ∧ (1 ≤ gI Sc r 1 4 ∧ gI Sc r 1 4 ≤ 8)
theorem sim_takeOps {Sc Sm : xSt} {r M : Nat} (h : SimA Sc r Sm M) : ∃ Sc' Sm', f_X0_takeOps_p1_0 Sc r = some Sc' ∧ f_X12_takesAway_p4_0 Sm M = some Sm' ∧ SimA Sc' r Sm' M := by
  obtain ⟨h1, h2, h3, h4, h5, h6⟩ := h
  unfold f_X0_takeOps_p1_0 f_X12_takesAway_p4_0 lt1 iMin
  rw [← h1, ← h2, ← h3, wr_id (z := gI Sc r 0 17) (by omega), wr_id (z := gI Sc r 0 14) (by omega), wr_id (z := gI Sc r 1 4) (by omega)]
  by_cases c : gI Sc r 0 17 ≤ 0
  · rw [if_pos c, if_pos c]
    by_cases d : gI Sc r 0 14 ≤ gI Sc r 1 4
    · rw [if_pos d]
      refine ⟨_, _, rfl, rfl, ?_⟩
      unfold SimA
      simp only [gI_wI]
      simp
      split <;> omega
    · rw [if_neg d]
      refine ⟨_, _, rfl, rfl, ?_⟩
      unfold SimA
      simp only [gI_wI]
      simp
      split <;> omega
  · rw [if_neg c, if_neg c]
    refine ⟨_, _, rfl, rfl, ?_⟩
    unfold SimA
    simp only [gI_wI]
    simp
    omega
