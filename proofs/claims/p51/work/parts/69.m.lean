/-! mathematics: cycles up to a count -/
theorem w_to_b {π : xR} (hR : PR π) : ∀ (d : Nat) (F : xR) (B x2 g : Int), FI π B F → B + 300 * d ≤ 30000000 → 0 ≤ x2 → x2 + d = 500 → (0 ≤ g ∧ g ≤ 9999) → ∃ F' n, (∀ S q f, CC S 1 q π → d < f → f_X11_runTo_p3_0_b35 0 f (sR S 1 F) g x2 = some (x2 + n, sR S 1 F')) ∧ (0 ≤ n ∧ n ≤ d) ∧ FI π (B + 300 * n) F' ∧ F' 1 = F 1 ∧ F' 15 0 = F 15 0 + n ∧ F 15 1 ≤ F' 15 1 ∧ (F' 15 1 = F 15 1 ∨ F' 15 1 < g + 12) := by
  intro d
  induction d with
  | zero =>
    intro F B x2 g hF hB h2 hd hg
    refine ⟨F, 0, fun S q f hC hf => ?_, by omega, fi_mono hF (by omega), rfl, by omega, by omega, Or.inl rfl⟩
    obtain ⟨f, rfl⟩ := fs_e (show 0 < f by omega)
    rw [f_X11_runTo_p3_0_b35, wr_e (z := 500) (by omega), wr_e (z := x2) (by omega), if_pos (by omega), Int.add_zero]
  | succ d ih =>
    intro F B x2 g hF hB h2 hd hg
    have hn := hF.2.2.2.2.2.2.2.2.1
    have n1 := hn.1 1
    by_cases c : g ≤ F 15 1
    · refine ⟨F, 0, fun S q f hC hf => ?_, by omega, fi_mono hF (by omega), rfl, by omega, by omega, Or.inl rfl⟩
      obtain ⟨f, rfl⟩ := fs_e (show 0 < f by omega)
      rw [f_X11_runTo_p3_0_b35, wr_e (z := 500) (by omega), wr_e (z := x2) (by omega), if_neg (by omega), show (0 : Nat) + 1 = 1 from rfl, sR_g, wr_e (z := g) (by omega), wr_e (z := F 15 1) (by omega), if_pos c, Int.add_zero]
    · obtain ⟨F1, e1, f1, k1, k2, k3, k4, k5⟩ := p_cy hR hF (by omega)
      obtain ⟨F', n, i1, i2, i3, j1, j2, j3, j4⟩ := ih F1 (B + 300) (x2 + 1) g f1 (by omega) (by omega) (by omega) hg
      refine ⟨F', n + 1, fun S q f hC hf => ?_, by omega, fi_mono i3 (by omega), j1.trans k1, by omega, by omega, by omega⟩
      obtain ⟨f, rfl⟩ := fs_e (show 0 < f by omega)
      rw [f_X11_runTo_p3_0_b35, wr_e (z := 500) (by omega), wr_e (z := x2) (by omega), if_neg (by omega), show (0 : Nat) + 1 = 1 from rfl, sR_g, wr_e (z := g) (by omega), wr_e (z := F 15 1) (by omega), if_neg c, e1 S 1 q hC, bd_e, i1 S q f hC (by omega)]
      exact congrArg (fun z => some (z, sR S 1 F')) (by omega)
