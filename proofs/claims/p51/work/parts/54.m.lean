/-! mathematics: reading a window; may one more be marked -/
section C14
variable {π F G H : xR} {B : Int}
theorem p_9 (hR : PR π) : ∀ k : Nat, (k : Int) ≤ π 0 10 → 0 ≤ π 9 k ∧ π 9 k ≤ 16 * (k : Int) := by
  intro k
  induction k with
  | zero =>
    intro _
    rw [hR.2.1]
    decide
  | succ k ih =>
    intro h
    have h1 := ih (by omega)
    obtain ⟨k1, k2, -, -, -, -, k7, -⟩ := pr_k hR (show (k : Int) < π 0 10 by omega)
    have h3 : ∀ i : Nat, i < 10 → 0 ≤ tbI 3 i ∧ tbI 3 i ≤ 15 := by decide +kernel
    have h4 := h3 (π 5 k).toNat (by omega)
    rw [k7]
    omega
theorem p_start (hR : PR π) {S : xSt} {r q : Nat} (hC : CC S r q π) {a : Int} (ha : 0 ≤ a ∧ a ≤ π 0 10) : f_X5_startOf_p2_0 (sR S r F) q a = some (π 9 a.toNat, sR S r F) := by
  have p0 := pr_n hR
  unfold f_X5_startOf_p2_0
  simp (disch := omega) only [lt1_e, bd_e, bd2_e, sR_g, sR_w, sR_a, sR_s, cc_p hC, cc_q hC, ckI_e, wr_e, ite_not, uF_e, uF_o, uF_k, uG_e, uG_o]
  rw [if_neg (show ¬ a < 0 by omega), if_neg (show ¬ π 0 10 < a by omega)]
theorem rd_fi (hF : FI π B F) {z : Int} (h : 0 ≤ z ∧ z ≤ 1040 + B) : FI π (B + 40) (uF (uF (uF (uF F 0 12 z) 0 13 0) 0 11 0) 15 4 (F 15 4 + 1)) := by
  obtain ⟨hr, hu, hq, ht, hd, hl, hc, hp, hn, hz⟩ := id hF
  obtain ⟨r0, r1, r2, r3, r4, r5, r6, r7, r8, r9, r10, r11, r12, r13, r14, r15, r16, r17⟩ := id hr
  obtain ⟨n0, n1, n2, n3, n4⟩ := id hn
  refine ⟨?_, ?_, ?_, ?_, ?_, ?_, ?_, ?_, ?_, ?_⟩
  · unfold FR
    refine ⟨?_, ?_, ?_, ?_, ?_, ?_, ?_, ?_, ?_, ?_, ?_, ?_, ?_, ?_, ?_, ?_, ?_, ?_⟩ <;> (try simp (disch := omega) only [uF_e, uF_o, uF_k, uG_e, uG_o, true_or, or_true]) <;> omega
  · intro j hj
    try simp (disch := omega) only [uF_e, uF_o, uF_k, uG_e, uG_o, true_or, or_true]
    exact hu j hj
  · intro j hj
    try simp (disch := omega) only [uF_e, uF_o, uF_k, uG_e, uG_o, true_or, or_true] at hj
    try simp (disch := omega) only [uF_e, uF_o, uF_k, uG_e, uG_o, true_or, or_true]
    first | exact hq j hj | exact absurd hj (by omega)
  · refine ⟨fun k hk => ?_, fun k hk h9 => ?_⟩
    · try simp (disch := omega) only [uF_e, uF_o, uF_k, uG_e, uG_o, true_or, or_true]
      exact ht.1 k hk
    · try simp (disch := omega) only [uF_e, uF_o, uF_k, uG_e, uG_o, true_or, or_true]
      exact ht.2 k hk h9
  · unfold FD
    try simp (disch := omega) only [uF_e, uF_o, uF_k, uG_e, uG_o, true_or, or_true]
    exact hd
  · intro h1
    try simp (disch := omega) only [uF_e, uF_o, uF_k, uG_e, uG_o, true_or, or_true] at h1
    try simp (disch := omega) only [uF_e, uF_o, uF_k, uG_e, uG_o, true_or, or_true]
    first | exact hl h1 | exact absurd h1 (by decide)
  · intro h1
    try simp (disch := omega) only [uF_e, uF_o, uF_k, uG_e, uG_o, true_or, or_true] at h1
    unfold nxq
    try simp (disch := omega) only [uF_e, uF_o, uF_k, uG_e, uG_o, true_or, or_true]
    first | exact hc h1 | exact absurd h1 (by decide)
  · unfold FP
    try simp (disch := omega) only [uF_e, uF_o, uF_k, uG_e, uG_o, true_or, or_true]
    exact hp
  · refine ⟨fun k => ?_, fun k => ?_, ?_, ?_, ?_⟩
    · by_cases c : k = 4
      · rw [c]
        have a1 := n0 4
        simp (disch := omega) only [uF_e, uF_o, uF_k, uG_e, uG_o, true_or, or_true]
        omega
      · simp (disch := omega) only [uF_e, uF_o, uF_k, uG_e, uG_o, true_or, or_true]
        have a1 := n0 k
        omega
    · simp (disch := omega) only [uF_e, uF_o, uF_k, uG_e, uG_o, true_or, or_true]
      have a1 := n1 k
      omega
    · simp (disch := omega) only [uF_e, uF_o, uF_k, uG_e, uG_o, true_or, or_true]
      omega
    · simp (disch := omega) only [uF_e, uF_o, uF_k, uG_e, uG_o, true_or, or_true]
      omega
    · simp (disch := omega) only [uF_e, uF_o, uF_k, uG_e, uG_o, true_or, or_true]
      omega
  · repeat' apply zb_F
    all_goals first | exact hz | rfl
theorem p_read (hR : PR π) (hF : FI π B F) (hB : B ≤ 60000000) : ∃ F', (∀ S r q, CC S r q π → f_X0_readWindow_p1_0 (sR S r F) r = some (sR S r F')) ∧ FI π (B + 40) F' ∧ F' 1 = F 1 ∧ F' 15 0 = F 15 0 ∧ F' 15 1 = F 15 1 ∧ F' 15 3 = F 15 3 ∧ F' 16 = F 16 ∧ F' 8 0 = F 8 0 := by
  obtain ⟨hr, hu, hq, ht, hd, hl, hc, hp, hn, hz⟩ := id hF
  obtain ⟨r0, r1, r2, r3, r4, r5, r6, r7, r8, r9, r10, r11, r12, r13, r14, r15, r16, r17⟩ := id hr
  obtain ⟨n0, n1, n2, n3, n4⟩ := id hn
  have p0 := pr_n hR
  have p2 := hR.2.2.1
  have h9 := p_9 hR (F 0 10).toNat (by omega)
  have hst := fun S r q hC => p_start (F := F) hR (S := S) (r := r) (q := q) hC r6
  have e4 := n0 4
  by_cases c : F 0 13 = 0 ∧ (F 0 11 = 0 → F 0 12 ≤ π 9 (F 0 10).toNat)
  · have hz2 : 0 ≤ (Int.tdiv (π 9 (F 0 10).toNat) (π 1 1) + 1) * F 1 1 ∧ (Int.tdiv (π 9 (F 0 10).toNat) (π 1 1) + 1) * F 1 1 ≤ 1000 := by
      rw [r3, Int.tdiv_eq_ediv_of_nonneg h9.1]
      rcases p2 with h | h | h
      · rw [h]
        omega
      · rw [h]
        omega
      · rw [h]
        omega
    refine ⟨_, fun S r q hC => ?_, rd_fi hF (z := (Int.tdiv (π 9 (F 0 10).toNat) (π 1 1) + 1) * F 1 1) (by have := n0 0; omega), rfl, rfl, rfl, rfl, rfl, rfl⟩
    unfold f_X0_readWindow_p1_0
    simp (disch := omega) only [lt1_e, bd_e, bd2_e, sR_g, sR_w, sR_a, sR_s, cc_p hC, cc_q hC, ckI_e, wr_e, ite_not, uF_e, uF_o, uF_k, uG_e, uG_o]
    rw [hst S r q hC, bd2_e]
    unfold f_X0_readWindow_p1_0_b52 f_X0_readWindow_p1_0_b77
    simp (disch := omega) only [lt1_e, bd_e, bd2_e, sR_g, sR_w, sR_a, sR_s, cc_p hC, cc_q hC, ckI_e, wr_e, ite_not, uF_e, uF_o, uF_k, uG_e, uG_o]
    rw [if_pos c.1, p_win hR hC, bd2_e]
    simp (disch := omega) only [lt1_e, bd_e, bd2_e, sR_g, sR_w, sR_a, sR_s, cc_p hC, cc_q hC, ckI_e, wr_e, ite_not, uF_e, uF_o, uF_k, uG_e, uG_o]
    by_cases c2 : F 0 11 = 0
    · rw [if_pos c2, if_neg (by have := c.2 c2; omega)]
    · rw [if_neg c2]
  · by_cases c3 : F 0 13 = 0
    · have c2 : F 0 11 = 0 := Classical.byContradiction fun h => c ⟨c3, fun y => absurd y h⟩
      have c4 : π 9 (F 0 10).toNat < F 0 12 := Classical.byContradiction fun h => c ⟨c3, fun _ => by omega⟩
      refine ⟨F, fun S r q hC => ?_, fi_mono hF (by omega), rfl, rfl, rfl, rfl, rfl, rfl⟩
      unfold f_X0_readWindow_p1_0
      simp (disch := omega) only [lt1_e, bd_e, bd2_e, sR_g, sR_w, sR_a, sR_s, cc_p hC, cc_q hC, ckI_e, wr_e, ite_not, uF_e, uF_o, uF_k, uG_e, uG_o]
      rw [hst S r q hC, bd2_e]
      simp (disch := omega) only [lt1_e, bd_e, bd2_e, sR_g, sR_w, sR_a, sR_s, cc_p hC, cc_q hC, ckI_e, wr_e, ite_not, uF_e, uF_o, uF_k, uG_e, uG_o]
      rw [if_pos c3, if_pos c2, if_pos c4]
    · refine ⟨_, fun S r q hC => ?_, rd_fi hF (z := F 0 12 + F 1 1) (by omega), rfl, rfl, rfl, rfl, rfl, rfl⟩
      unfold f_X0_readWindow_p1_0
      simp (disch := omega) only [lt1_e, bd_e, bd2_e, sR_g, sR_w, sR_a, sR_s, cc_p hC, cc_q hC, ckI_e, wr_e, ite_not, uF_e, uF_o, uF_k, uG_e, uG_o]
      rw [hst S r q hC, bd2_e]
      unfold f_X0_readWindow_p1_0_b77
      simp (disch := omega) only [lt1_e, bd_e, bd2_e, sR_g, sR_w, sR_a, sR_s, cc_p hC, cc_q hC, ckI_e, wr_e, ite_not, uF_e, uF_o, uF_k, uG_e, uG_o]
      rw [if_neg c3]
theorem wt_fi (hF : FI π B F) : FI π (B + 1) (uF (uF F 0 13 1) 15 5 (F 15 5 + 1)) := by
  obtain ⟨hr, hu, hq, ht, hd, hl, hc, hp, hn, hz⟩ := id hF
  obtain ⟨r0, r1, r2, r3, r4, r5, r6, r7, r8, r9, r10, r11, r12, r13, r14, r15, r16, r17⟩ := id hr
  obtain ⟨n0, n1, n2, n3, n4⟩ := id hn
  refine ⟨?_, ?_, ?_, ?_, ?_, ?_, ?_, ?_, ?_, ?_⟩
  · unfold FR
    refine ⟨?_, ?_, ?_, ?_, ?_, ?_, ?_, ?_, ?_, ?_, ?_, ?_, ?_, ?_, ?_, ?_, ?_, ?_⟩ <;> (try simp (disch := omega) only [uF_e, uF_o, uF_k, uG_e, uG_o, true_or, or_true]) <;> omega
  · intro j hj
    try simp (disch := omega) only [uF_e, uF_o, uF_k, uG_e, uG_o, true_or, or_true]
    exact hu j hj
  · intro j hj
    try simp (disch := omega) only [uF_e, uF_o, uF_k, uG_e, uG_o, true_or, or_true] at hj
    try simp (disch := omega) only [uF_e, uF_o, uF_k, uG_e, uG_o, true_or, or_true]
    first | exact hq j hj | exact absurd hj (by omega)
  · refine ⟨fun k hk => ?_, fun k hk h9 => ?_⟩
    · try simp (disch := omega) only [uF_e, uF_o, uF_k, uG_e, uG_o, true_or, or_true]
      exact ht.1 k hk
    · try simp (disch := omega) only [uF_e, uF_o, uF_k, uG_e, uG_o, true_or, or_true]
      exact ht.2 k hk h9
  · unfold FD
    try simp (disch := omega) only [uF_e, uF_o, uF_k, uG_e, uG_o, true_or, or_true]
    exact hd
  · intro h1
    try simp (disch := omega) only [uF_e, uF_o, uF_k, uG_e, uG_o, true_or, or_true] at h1
    try simp (disch := omega) only [uF_e, uF_o, uF_k, uG_e, uG_o, true_or, or_true]
    first | exact hl h1 | exact absurd h1 (by decide)
  · intro h1
    try simp (disch := omega) only [uF_e, uF_o, uF_k, uG_e, uG_o, true_or, or_true] at h1
    unfold nxq
    try simp (disch := omega) only [uF_e, uF_o, uF_k, uG_e, uG_o, true_or, or_true]
    first | exact hc h1 | exact absurd h1 (by decide)
  · unfold FP
    try simp (disch := omega) only [uF_e, uF_o, uF_k, uG_e, uG_o, true_or, or_true]
    exact hp
  · refine ⟨fun k => ?_, fun k => ?_, ?_, ?_, ?_⟩
    · by_cases c : k = 5
      · rw [c]
        have a1 := n0 5
        simp (disch := omega) only [uF_e, uF_o, uF_k, uG_e, uG_o, true_or, or_true]
        omega
      · simp (disch := omega) only [uF_e, uF_o, uF_k, uG_e, uG_o, true_or, or_true]
        have a1 := n0 k
        omega
    · simp (disch := omega) only [uF_e, uF_o, uF_k, uG_e, uG_o, true_or, or_true]
      have a1 := n1 k
      omega
    · simp (disch := omega) only [uF_e, uF_o, uF_k, uG_e, uG_o, true_or, or_true]
      omega
    · simp (disch := omega) only [uF_e, uF_o, uF_k, uG_e, uG_o, true_or, or_true]
      omega
    · simp (disch := omega) only [uF_e, uF_o, uF_k, uG_e, uG_o, true_or, or_true]
      omega
  · repeat' apply zb_F
    all_goals first | exact hz | rfl
theorem p_can (hR : PR π) (hF : FI π B F) (hB : B ≤ 60000000) : ∃ v F', (v = 0 ∨ v = 1) ∧ (v = 1 → F' 0 10 < π 0 10 ∧ F' 5 2 < F' 1 2) ∧ (∀ S r q, CC S r q π → f_X0_canMark_p1_0 (sR S r F) r = some (v, sR S r F')) ∧ FI π (B + 1) F' ∧ F' 1 = F 1 ∧ F' 15 0 = F 15 0 ∧ F' 15 1 = F 15 1 ∧ F' 15 3 = F 15 3 ∧ F' 16 = F 16 ∧ F' 8 0 = F 8 0 := by
  obtain ⟨hr, hu, hq, ht, hd, hl, hc, hp, hn, hz⟩ := id hF
  obtain ⟨r0, r1, r2, r3, r4, r5, r6, r7, r8, r9, r10, r11, r12, r13, r14, r15, r16, r17⟩ := id hr
  obtain ⟨n0, n1, n2, n3, n4⟩ := id hn
  have p0 := pr_n hR
  have p3 := hR.2.2.2.1
  have e5 := n0 5
  by_cases c1 : π 0 10 ≤ F 0 10
  · refine ⟨0, F, Or.inl rfl, fun h => absurd h (by decide), fun S r q hC => ?_, fi_mono hF (by omega), rfl, rfl, rfl, rfl, rfl, rfl⟩
    unfold f_X0_canMark_p1_0
    simp (disch := omega) only [lt1_e, bd_e, bd2_e, sR_g, sR_w, sR_a, sR_s, cc_p hC, cc_q hC, ckI_e, wr_e, ite_not, uF_e, uF_o, uF_k, uG_e, uG_o]
    rw [if_pos c1]
  · by_cases c2 : F 5 2 < F 1 2
    · have h9 := p_9 hR (F 0 10).toNat (by omega)
      have h92 := p_9 hR (F 0 10 + 1).toNat (by omega)
      have hst := fun S r q hC => p_start (F := F) hR (S := S) (r := r) (q := q) hC r6
      have hst2 := fun S r q hC => p_start (F := F) hR (S := S) (r := r) (q := q) (a := F 0 10 + 1) hC (by omega)
      by_cases c3 : F 0 12 < π 9 (F 0 10 + 1).toNat
      · by_cases c4 : F 0 12 ≤ π 9 (F 0 10).toNat
        · refine ⟨0, F, Or.inl rfl, fun h => absurd h (by decide), fun S r q hC => ?_, fi_mono hF (by omega), rfl, rfl, rfl, rfl, rfl, rfl⟩
          unfold f_X0_canMark_p1_0
          simp (disch := omega) only [lt1_e, bd_e, bd2_e, sR_g, sR_w, sR_a, sR_s, cc_p hC, cc_q hC, ckI_e, wr_e, ite_not, uF_e, uF_o, uF_k, uG_e, uG_o]
          rw [if_neg c1, if_pos c2, hst2 S r q hC, bd2_e]
          simp (disch := omega) only [lt1_e, bd_e, bd2_e, sR_g, sR_w, sR_a, sR_s, cc_p hC, cc_q hC, ckI_e, wr_e, ite_not, uF_e, uF_o, uF_k, uG_e, uG_o]
          rw [if_pos c3, hst S r q hC, bd2_e]
          simp (disch := omega) only [lt1_e, bd_e, bd2_e, sR_g, sR_w, sR_a, sR_s, cc_p hC, cc_q hC, ckI_e, wr_e, ite_not, uF_e, uF_o, uF_k, uG_e, uG_o]
          rw [if_pos c4]
        · refine ⟨0, _, Or.inl rfl, fun h => absurd h (by decide), fun S r q hC => ?_, wt_fi hF, rfl, rfl, rfl, rfl, rfl, rfl⟩
          unfold f_X0_canMark_p1_0
          simp (disch := omega) only [lt1_e, bd_e, bd2_e, sR_g, sR_w, sR_a, sR_s, cc_p hC, cc_q hC, ckI_e, wr_e, ite_not, uF_e, uF_o, uF_k, uG_e, uG_o]
          rw [if_neg c1, if_pos c2, hst2 S r q hC, bd2_e]
          simp (disch := omega) only [lt1_e, bd_e, bd2_e, sR_g, sR_w, sR_a, sR_s, cc_p hC, cc_q hC, ckI_e, wr_e, ite_not, uF_e, uF_o, uF_k, uG_e, uG_o]
          rw [if_pos c3, hst S r q hC, bd2_e]
          simp (disch := omega) only [lt1_e, bd_e, bd2_e, sR_g, sR_w, sR_a, sR_s, cc_p hC, cc_q hC, ckI_e, wr_e, ite_not, uF_e, uF_o, uF_k, uG_e, uG_o]
          rw [if_neg c4]
      · refine ⟨1, F, Or.inr rfl, fun _ => ⟨by omega, c2⟩, fun S r q hC => ?_, fi_mono hF (by omega), rfl, rfl, rfl, rfl, rfl, rfl⟩
        unfold f_X0_canMark_p1_0
        simp (disch := omega) only [lt1_e, bd_e, bd2_e, sR_g, sR_w, sR_a, sR_s, cc_p hC, cc_q hC, ckI_e, wr_e, ite_not, uF_e, uF_o, uF_k, uG_e, uG_o]
        rw [if_neg c1, if_pos c2, hst2 S r q hC, bd2_e]
        simp (disch := omega) only [lt1_e, bd_e, bd2_e, sR_g, sR_w, sR_a, sR_s, cc_p hC, cc_q hC, ckI_e, wr_e, ite_not, uF_e, uF_o, uF_k, uG_e, uG_o]
        rw [if_neg c3]
    · refine ⟨0, F, Or.inl rfl, fun h => absurd h (by decide), fun S r q hC => ?_, fi_mono hF (by omega), rfl, rfl, rfl, rfl, rfl, rfl⟩
      unfold f_X0_canMark_p1_0
      simp (disch := omega) only [lt1_e, bd_e, bd2_e, sR_g, sR_w, sR_a, sR_s, cc_p hC, cc_q hC, ckI_e, wr_e, ite_not, uF_e, uF_o, uF_k, uG_e, uG_o]
      rw [if_neg c1, if_neg c2]
end C14
