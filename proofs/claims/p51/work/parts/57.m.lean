/-! mathematics: some cycles -/
section C17
variable {π F G H : xR} {B : Int}
theorem p_for_b (hR : PR π) : ∀ (d : Nat) (F : xR) (B n x3 : Int), FI π B F → B + 300 * d ≤ 40000000 → 0 ≤ x3 → x3 + d = n → n ≤ 1000000 → ∃ F', (∀ S r q f x2, CC S r q π → d < f → f_X0_decodeFor_p1_0_b12 r f (sR S r F) n x2 x3 = some (F' 15 1 - x2, sR S r F')) ∧ FI π (B + 300 * d) F' ∧ ac F' = ac F + F 1 0 * d ∧ F' 1 = F 1 ∧ F' 15 0 = F 15 0 + d ∧ F 15 1 ≤ F' 15 1 ∧ F' 15 1 ≤ F 15 1 + 12 * d := by
  intro d
  induction d with
  | zero =>
    intro F B n x3 hF hB h3 hd hn
    refine ⟨F, fun S r q f x2 hC hf => ?_, fi_mono hF (by omega), by rw [Int.natCast_zero, Int.mul_zero, Int.add_zero], rfl, by omega, by omega, by omega⟩
    obtain ⟨f, rfl⟩ := fs_e (show 0 < f by omega)
    rw [f_X0_decodeFor_p1_0_b12]
    simp (disch := omega) only [sR_g, wr_e]
    rw [if_pos (by omega)]
  | succ d ih =>
    intro F B n x3 hF hB h3 hd hn
    obtain ⟨F1, e1, f1, k1, k2, k3, k4, k5⟩ := p_cy hR hF (by omega)
    obtain ⟨F', i1, i2, i3, j1, j2, j3, j4⟩ := ih F1 (B + 300) n (x3 + 1) f1 (by omega) (by omega) (by omega) hn
    refine ⟨F', fun S r q f x2 hC hf => ?_, fi_mono i2 (by omega), by rw [i3, k5, k1, Int.natCast_add, Int.natCast_one, Int.mul_add, Int.mul_one]; omega, j1.trans k1, by omega, by omega, by omega⟩
    obtain ⟨f, rfl⟩ := fs_e (show 0 < f by omega)
    rw [f_X0_decodeFor_p1_0_b12]
    simp (disch := omega) only [sR_g, wr_e]
    rw [if_neg (by omega), e1 S r q hC, bd_e]
    exact i1 S r q f x2 hC (by omega)
/-- some cycles -/
theorem p_for (hR : PR π) (hF : FI π B F) {n : Int} (hn : 0 ≤ n ∧ n ≤ 1000) (hB : B ≤ 30000000) : ∃ F', (∀ S r q, CC S r q π → f_X0_decodeFor_p1_0 (sR S r F) r n = some (F' 15 1 - F 15 1, sR S r F')) ∧ FI π (B + 300 * n) F' ∧ ac F' = ac F + F 1 0 * n ∧ F' 1 = F 1 ∧ F' 15 0 = F 15 0 + n ∧ F 15 1 ≤ F' 15 1 ∧ F' 15 1 ≤ F 15 1 + 12 * n := by
  obtain ⟨F', i1, i2, i3, j1, j2, j3, j4⟩ := p_for_b hR n.toNat F B n 0 hF (by omega) (by decide) (by omega) (by omega)
  have e : ((n.toNat : Nat) : Int) = n := by omega
  rw [e] at i2 i3 j2 j4
  refine ⟨F', fun S r q hC => ?_, i2, i3, j1, j2, j3, j4⟩
  have hf := cc_f hC
  unfold f_X0_decodeFor_p1_0
  simp only [sR_g]
  exact i1 S r q _ _ hC (by rw [sR_fu]; omega)
end C17
