/-! mathematics: a cycle -/
section C16
variable {π F G H : xR} {B : Int}
theorem p_f51 (hR : PR π) : ∀ (d : Nat) (F : xR) (B x1 x2 : Int), FI π B F → B + d ≤ 60000000 → F 8 0 = 0 → (x1 = 0 ∨ x1 = 1) → 0 ≤ x2 → x2 + d = 22 → ∃ F', (∀ S r q f, CC S r q π → d < f → f_X0_fetch_p1_0_b51 r f (sR S r F) x1 x2 = some (sR S r F')) ∧ FI π (B + d) F' ∧ F' 1 = F 1 ∧ F' 15 0 = F 15 0 ∧ F' 15 1 = F 15 1 ∧ F' 15 3 = F 15 3 ∧ F' 16 = F 16 := by
  intro d
  induction d with
  | zero =>
    intro F B x1 x2 hF hB h80 h1 h2 h2d
    refine ⟨F, fun S r q f hC hf => ?_, fi_mono hF (by omega), rfl, rfl, rfl, rfl, rfl⟩
    obtain ⟨f, rfl⟩ := fs_e (show 0 < f by omega)
    rw [f_X0_fetch_p1_0_b51]
    simp (disch := omega) only [lt1_e, bd_e, bd2_e, sR_g, sR_w, sR_a, sR_s, cc_p hC, cc_q hC, ckI_e, wr_e, ite_not, uF_e, uF_o, uF_k, uG_e, uG_o]
    rcases h1 with h | h
    · rw [if_pos h]
    · rw [if_neg (by omega), if_pos (by omega)]
  | succ d ih =>
    intro F B x1 x2 hF hB h80 h1 h2 h2d
    by_cases c1 : x1 = 0 ∨ 20 < x2
    · refine ⟨F, fun S r q f hC hf => ?_, fi_mono hF (by omega), rfl, rfl, rfl, rfl, rfl⟩
      obtain ⟨f, rfl⟩ := fs_e (show 0 < f by omega)
      rw [f_X0_fetch_p1_0_b51]
      simp (disch := omega) only [lt1_e, bd_e, bd2_e, sR_g, sR_w, sR_a, sR_s, cc_p hC, cc_q hC, ckI_e, wr_e, ite_not, uF_e, uF_o, uF_k, uG_e, uG_o]
      by_cases h : x1 = 0
      · rw [if_pos h]
      · rw [if_neg h, if_pos (by omega)]
    · obtain ⟨v, F1, hv, hv1, hev, hF1, a1, a2, a3, a4, a5, a6⟩ := p_can hR hF (by omega)
      by_cases cv : v = 0
      · obtain ⟨F', i1, i2, j1, j2, j3, j4, j5⟩ := ih F1 (B + 1) 0 (x2 + 1) hF1 (by omega) (by omega) (Or.inl rfl) (by omega) (by omega)
        refine ⟨F', fun S r q f hC hf => ?_, fi_mono i2 (by omega), j1.trans a1, j2.trans a2, j3.trans a3, j4.trans a4, j5.trans a5⟩
        obtain ⟨f, rfl⟩ := fs_e (show 0 < f by omega)
        rw [f_X0_fetch_p1_0_b51]
        simp (disch := omega) only [lt1_e, bd_e, bd2_e, sR_g, sR_w, sR_a, sR_s, cc_p hC, cc_q hC, ckI_e, wr_e, ite_not, uF_e, uF_o, uF_k, uG_e, uG_o]
        rw [if_neg (by omega), if_neg (by omega), hev S r q hC, bd2_e]
        simp (disch := omega) only [lt1_e, bd_e, bd2_e, sR_g, sR_w, sR_a, sR_s, cc_p hC, cc_q hC, ckI_e, wr_e, ite_not, uF_e, uF_o, uF_k, uG_e, uG_o]
        rw [if_pos cv]
        exact i1 S r q f hC (by omega)
      · obtain ⟨g1, g2⟩ := hv1 (by omega)
        obtain ⟨z, F2, hz, hev2, hF2, b1, b2, b3, b4, b5, b6⟩ := p_mark hR hF1 (by omega) (by omega) g1 g2
        obtain ⟨F', i1, i2, j1, j2, j3, j4, j5⟩ := ih F2 (B + 1) z (x2 + 1) hF2 (by omega) (by omega) hz (by omega) (by omega)
        refine ⟨F', fun S r q f hC hf => ?_, fi_mono i2 (by omega), (j1.trans b1).trans a1, (j2.trans b2).trans a2, (j3.trans b3).trans a3, (j4.trans b4).trans a4, (j5.trans b5).trans a5⟩
        obtain ⟨f, rfl⟩ := fs_e (show 0 < f by omega)
        rw [f_X0_fetch_p1_0_b51]
        simp (disch := omega) only [lt1_e, bd_e, bd2_e, sR_g, sR_w, sR_a, sR_s, cc_p hC, cc_q hC, ckI_e, wr_e, ite_not, uF_e, uF_o, uF_k, uG_e, uG_o]
        rw [if_neg (by omega), if_neg (by omega), hev S r q hC, bd2_e]
        simp (disch := omega) only [lt1_e, bd_e, bd2_e, sR_g, sR_w, sR_a, sR_s, cc_p hC, cc_q hC, ckI_e, wr_e, ite_not, uF_e, uF_o, uF_k, uG_e, uG_o]
        rw [if_neg cv, hev2 S r q hC, bd2_e]
        simp (disch := omega) only [lt1_e, bd_e, bd2_e, sR_g, sR_w, sR_a, sR_s, cc_p hC, cc_q hC, ckI_e, wr_e, ite_not, uF_e, uF_o, uF_k, uG_e, uG_o]
        have hi := i1 S r q f hC (by omega)
        rcases hz with h | h
        · rw [if_pos h]
          rw [h] at hi
          exact hi
        · rw [if_neg (by omega)]
          rw [h] at hi
          exact hi
theorem p_fet (hR : PR π) (hF : FI π B F) (hB : B ≤ 50000000) : ∃ F', (∀ S r q, CC S r q π → f_X0_fetch_p1_0 (sR S r F) r = some (sR S r F')) ∧ FI π (B + 70) F' ∧ F' 1 = F 1 ∧ F' 15 0 = F 15 0 ∧ F' 15 1 = F 15 1 ∧ F' 15 3 = F 15 3 ∧ F' 16 = F 16 := by
  obtain ⟨hr, hu, hq, ht, hd, hl, hc, hp, hn, hz⟩ := id hF
  obtain ⟨r0, r1, r2, r3, r4, r5, r6, r7, r8, r9, r10, r11, r12, r13, r14, r15, r16, r17⟩ := id hr
  obtain ⟨n0, n1, n2, n3, n4⟩ := id hn
  have p0 := pr_n hR
  by_cases c1 : F 8 0 = 0
  · by_cases c2 : F 0 10 < π 0 10
    · by_cases c3 : F 0 16 ≤ 0
      · obtain ⟨F1, hev, hF1, a1, a2, a3, a4, a5, a6⟩ := p_read hR hF (by omega)
        obtain ⟨F', i1, i2, j1, j2, j3, j4, j5⟩ := p_f51 hR 22 F1 (B + 40) 1 0 hF1 (by omega) (by omega) (Or.inr rfl) (by decide) (by decide)
        refine ⟨F', fun S r q hC => ?_, fi_mono i2 (by omega), j1.trans a1, j2.trans a2, j3.trans a3, j4.trans a4, j5.trans a5⟩
        have hf := cc_f hC
        unfold f_X0_fetch_p1_0
        simp (disch := omega) only [lt1_e, bd_e, bd2_e, sR_g, sR_w, sR_a, sR_s, cc_p hC, cc_q hC, ckI_e, wr_e, ite_not, uF_e, uF_o, uF_k, uG_e, uG_o]
        rw [if_pos c1, if_pos c2, if_pos c3, hev S r q hC, bd_e]
        exact i1 S r q _ hC (by rw [sR_fu]; omega)
      · refine ⟨uF F 0 16 (F 0 16 - 1), fun S r q hC => ?_, fi_mono (t16_fi hF (by omega)) (by omega), rfl, rfl, rfl, rfl, rfl⟩
        unfold f_X0_fetch_p1_0
        simp (disch := omega) only [lt1_e, bd_e, bd2_e, sR_g, sR_w, sR_a, sR_s, cc_p hC, cc_q hC, ckI_e, wr_e, ite_not, uF_e, uF_o, uF_k, uG_e, uG_o]
        rw [if_pos c1, if_pos c2, if_neg c3]
    · refine ⟨F, fun S r q hC => ?_, fi_mono hF (by omega), rfl, rfl, rfl, rfl, rfl⟩
      unfold f_X0_fetch_p1_0
      simp (disch := omega) only [lt1_e, bd_e, bd2_e, sR_g, sR_w, sR_a, sR_s, cc_p hC, cc_q hC, ckI_e, wr_e, ite_not, uF_e, uF_o, uF_k, uG_e, uG_o]
      rw [if_pos c1, if_neg c2]
  · refine ⟨F, fun S r q hC => ?_, fi_mono hF (by omega), rfl, rfl, rfl, rfl, rfl⟩
    unfold f_X0_fetch_p1_0
    simp (disch := omega) only [lt1_e, bd_e, bd2_e, sR_g, sR_w, sR_a, sR_s, cc_p hC, cc_q hC, ckI_e, wr_e, ite_not, uF_e, uF_o, uF_k, uG_e, uG_o]
    rw [if_neg c1]
/-- a cycle -/
theorem p_cy (hR : PR π) (hF : FI π B F) (hB : B ≤ 40000000) : ∃ F', (∀ S r q, CC S r q π → f_X0_passCycle_p1_0 (sR S r F) r = some (sR S r F')) ∧ FI π (B + 300) F' ∧ F' 1 = F 1 ∧ F' 15 0 = F 15 0 + 1 ∧ F 15 1 ≤ F' 15 1 ∧ F' 15 1 ≤ F 15 1 + 12 ∧ ac F' = ac F + F 1 0 := by
  obtain ⟨F1, e1, f1, g1, -⟩ := p_take hR (cy_fi hF)
  obtain ⟨F2, e2, f2, a1, a2, a3, a4, a5⟩ := p_dl hR f1 (by omega)
  obtain ⟨F', e3, f3, b1, b2, b3, b4, b5⟩ := p_fet hR f2 (by omega)
  have c1 : F1 1 = F 1 := by
    funext k
    exact g1 1 k (by decide)
  have c15 : ∀ k, k ≠ 0 → F1 15 k = F 15 k := fun k hk => by rw [g1 15 k (by decide), uF_k hk]
  have c0 : F1 15 0 = F 15 0 + 1 := by rw [g1 15 0 (by decide), uF_e]
  have c16 : ∀ k, F1 16 k = F 16 k := fun k => by rw [g1 16 k (by decide), uF_o (by decide)]
  have d1 := c15 1 (by decide)
  have d3 := c15 3 (by decide)
  have hac1 : ac F1 = ac F := by
    unfold ac
    rw [d1, d3, c16, c16, c16, c16, c16, c16, c16, c16]
  have hac2 : ac F' = ac F2 := by
    unfold ac
    rw [b3, b4, b5]
  have e10 : F1 1 0 = F 1 0 := by rw [c1]
  refine ⟨F', fun S r q hC => ?_, fi_mono f3 (by omega), (b1.trans a1).trans c1, by omega, by omega, by omega, by omega⟩
  unfold f_X0_passCycle_p1_0
  simp (disch := omega) only [lt1_e, sR_g, sR_w]
  rw [e1 S r q hC, bd_e, e2 S r q hC, bd_e, e3 S r q hC, bd_e]
end C16
