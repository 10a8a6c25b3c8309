/-! mathematics: what a cycle does before it reads -/
section C13
variable {π F G H : xR} {B : Int}
theorem cy_fi (hF : FI π B F) : FI π (B + 1) (uF F 15 0 (F 15 0 + 1)) := by
  obtain ⟨hr, hu, hq, ht, hd, hl, hc, hp, hn, hz⟩ := id hF
  obtain ⟨r0, r1, r2, r3, r4, r5, r6, r7, r8, r9, r10, r11, r12, r13, r14, r15, r16, r17⟩ := id hr
  obtain ⟨n0, n1, n2, n3, n4⟩ := id hn
  refine ⟨?_, ?_, ?_, ?_, ?_, ?_, ?_, ?_, ?_, ?_⟩
  · unfold FR
    refine ⟨?_, ?_, ?_, ?_, ?_, ?_, ?_, ?_, ?_, ?_, ?_, ?_, ?_, ?_, ?_, ?_, ?_, ?_⟩ <;> (try simp (disch := omega) only [uF_e, uF_o, uF_k, uG_e, uG_o, true_or, or_true]) <;> omega
  · intro j hj
    try simp (disch := omega) only [uF_e, uF_o, uF_k, uG_e, uG_o, true_or, or_true]
    exact hu j hj
  · intro j hj
    try simp (disch := omega) only [uF_e, uF_o, uF_k, uG_e, uG_o, true_or, or_true] at hj
    try simp (disch := omega) only [uF_e, uF_o, uF_k, uG_e, uG_o, true_or, or_true]
    first | exact hq j hj | exact absurd hj (by omega)
  · refine ⟨fun k hk => ?_, fun k hk h9 => ?_⟩
    · try simp (disch := omega) only [uF_e, uF_o, uF_k, uG_e, uG_o, true_or, or_true]
      exact ht.1 k hk
    · try simp (disch := omega) only [uF_e, uF_o, uF_k, uG_e, uG_o, true_or, or_true]
      exact ht.2 k hk h9
  · unfold FD
    try simp (disch := omega) only [uF_e, uF_o, uF_k, uG_e, uG_o, true_or, or_true]
    exact hd
  · intro h1
    try simp (disch := omega) only [uF_e, uF_o, uF_k, uG_e, uG_o, true_or, or_true] at h1
    try simp (disch := omega) only [uF_e, uF_o, uF_k, uG_e, uG_o, true_or, or_true]
    first | exact hl h1 | exact absurd h1 (by decide)
  · intro h1
    try simp (disch := omega) only [uF_e, uF_o, uF_k, uG_e, uG_o, true_or, or_true] at h1
    unfold nxq
    try simp (disch := omega) only [uF_e, uF_o, uF_k, uG_e, uG_o, true_or, or_true]
    first | exact hc h1 | exact absurd h1 (by decide)
  · unfold FP
    try simp (disch := omega) only [uF_e, uF_o, uF_k, uG_e, uG_o, true_or, or_true]
    exact hp
  · refine ⟨fun k => ?_, fun k => ?_, ?_, ?_, ?_⟩
    · by_cases c : k = 0
      · rw [c]
        have a1 := n0 0
        simp (disch := omega) only [uF_e, uF_o, uF_k, uG_e, uG_o, true_or, or_true]
        omega
      · simp (disch := omega) only [uF_e, uF_o, uF_k, uG_e, uG_o, true_or, or_true]
        have a1 := n0 k
        omega
    · simp (disch := omega) only [uF_e, uF_o, uF_k, uG_e, uG_o, true_or, or_true]
      have a1 := n1 k
      omega
    · simp (disch := omega) only [uF_e, uF_o, uF_k, uG_e, uG_o, true_or, or_true]
      omega
    · simp (disch := omega) only [uF_e, uF_o, uF_k, uG_e, uG_o, true_or, or_true]
      omega
    · simp (disch := omega) only [uF_e, uF_o, uF_k, uG_e, uG_o, true_or, or_true]
      omega
  · repeat' apply zb_F
    all_goals first | exact hz | rfl
theorem t15_fi (hF : FI π B F) {z : Int} (h : 0 ≤ z ∧ z ≤ F 0 15) : FI π B (uF F 0 15 z) := by
  obtain ⟨hr, hu, hq, ht, hd, hl, hc, hp, hn, hz⟩ := id hF
  obtain ⟨r0, r1, r2, r3, r4, r5, r6, r7, r8, r9, r10, r11, r12, r13, r14, r15, r16, r17⟩ := id hr
  obtain ⟨n0, n1, n2, n3, n4⟩ := id hn
  refine ⟨?_, ?_, ?_, ?_, ?_, ?_, ?_, ?_, ?_, ?_⟩
  · unfold FR
    refine ⟨?_, ?_, ?_, ?_, ?_, ?_, ?_, ?_, ?_, ?_, ?_, ?_, ?_, ?_, ?_, ?_, ?_, ?_⟩ <;> (try simp (disch := omega) only [uF_e, uF_o, uF_k, uG_e, uG_o, true_or, or_true]) <;> omega
  · intro j hj
    try simp (disch := omega) only [uF_e, uF_o, uF_k, uG_e, uG_o, true_or, or_true]
    exact hu j hj
  · intro j hj
    try simp (disch := omega) only [uF_e, uF_o, uF_k, uG_e, uG_o, true_or, or_true] at hj
    try simp (disch := omega) only [uF_e, uF_o, uF_k, uG_e, uG_o, true_or, or_true]
    first | exact hq j hj | exact absurd hj (by omega)
  · refine ⟨fun k hk => ?_, fun k hk h9 => ?_⟩
    · try simp (disch := omega) only [uF_e, uF_o, uF_k, uG_e, uG_o, true_or, or_true]
      exact ht.1 k hk
    · try simp (disch := omega) only [uF_e, uF_o, uF_k, uG_e, uG_o, true_or, or_true]
      exact ht.2 k hk h9
  · unfold FD
    try simp (disch := omega) only [uF_e, uF_o, uF_k, uG_e, uG_o, true_or, or_true]
    exact hd
  · intro h1
    try simp (disch := omega) only [uF_e, uF_o, uF_k, uG_e, uG_o, true_or, or_true] at h1
    try simp (disch := omega) only [uF_e, uF_o, uF_k, uG_e, uG_o, true_or, or_true]
    first | exact hl h1 | exact absurd h1 (by decide)
  · intro h1
    try simp (disch := omega) only [uF_e, uF_o, uF_k, uG_e, uG_o, true_or, or_true] at h1
    unfold nxq
    try simp (disch := omega) only [uF_e, uF_o, uF_k, uG_e, uG_o, true_or, or_true]
    first | exact hc h1 | exact absurd h1 (by decide)
  · unfold FP
    try simp (disch := omega) only [uF_e, uF_o, uF_k, uG_e, uG_o, true_or, or_true]
    exact hp
  · refine ⟨fun k => ?_, fun k => ?_, ?_, ?_, ?_⟩
    · simp (disch := omega) only [uF_e, uF_o, uF_k, uG_e, uG_o, true_or, or_true]
      have := n0 k
      omega
    · simp (disch := omega) only [uF_e, uF_o, uF_k, uG_e, uG_o, true_or, or_true]
      have := n1 k
      omega
    · simp (disch := omega) only [uF_e, uF_o, uF_k, uG_e, uG_o, true_or, or_true]
      omega
    · simp (disch := omega) only [uF_e, uF_o, uF_k, uG_e, uG_o, true_or, or_true]
      omega
    · simp (disch := omega) only [uF_e, uF_o, uF_k, uG_e, uG_o, true_or, or_true]
      omega
  · repeat' apply zb_F
    all_goals first | exact hz | rfl
theorem p_dl (hR : PR π) (hF : FI π B F) (hB : B ≤ 50000000) : ∃ F', (∀ S r q, CC S r q π → f_X0_decodeLanes_p1_0 (sR S r F) r = some (sR S r F')) ∧ FI π (B + 200) F' ∧ F' 1 = F 1 ∧ F' 15 0 = F 15 0 ∧ F 15 1 ≤ F' 15 1 ∧ F' 15 1 ≤ F 15 1 + 12 ∧ ac F' = ac F + F 1 0 := by
  obtain ⟨hr, hu, hq, ht, hd, hl, hc, hp, hn, hz⟩ := id hF
  obtain ⟨r0, r1, r2, r3, r4, r5, r6, r7, r8, r9, r10, r11, r12, r13, r14, r15, r16, r17⟩ := id hr
  obtain ⟨n0, n1, n2, n3, n4⟩ := id hn
  have eL : (((F 1 0).toNat : Nat) : Int) = F 1 0 := by omega
  by_cases c : F 0 15 ≤ 0
  · obtain ⟨F', i1, i2, j1, j2, j3, j4, j5⟩ := p_lanes hR r0 (F 1 0).toNat F B 0 0 0 hF (by omega) (by decide) (by omega) (by decide) (by decide) (by decide) (by decide) (fun _ => rfl)
    refine ⟨F', fun S r q hC => ?_, fi_mono i2 (by omega), j1, j2, by omega, by omega, by omega⟩
    have hf := cc_f hC
    unfold f_X0_decodeLanes_p1_0
    simp (disch := omega) only [lt1_e, sR_g, sR_w, wr_e]
    rw [if_pos c]
    exact i1 S r q _ hC (by rw [sR_fu]; omega)
  · obtain ⟨F', i1, i2, j1, j2, j3, j4, j5⟩ := p_lanes hR r0 (F 1 0).toNat (uF F 0 15 (F 0 15 - 1)) B 0 4 0 (t15_fi hF (by omega)) (by omega) (by decide) (by omega) (by decide) (by decide) (by decide) (by decide) (fun z => absurd z (by decide))
    have e1 : (uF F 0 15 (F 0 15 - 1)) 15 1 = F 15 1 := rfl
    have e2 : ac (uF F 0 15 (F 0 15 - 1)) = ac F := rfl
    rw [e1] at j3 j4
    rw [e2] at j5
    refine ⟨F', fun S r q hC => ?_, fi_mono i2 (by omega), j1, j2, by omega, by omega, by omega⟩
    have hf := cc_f hC
    unfold f_X0_decodeLanes_p1_0
    simp (disch := omega) only [lt1_e, sR_g, sR_w, wr_e]
    rw [if_neg c]
    exact i1 S r q _ hC (by rw [sR_fu]; omega)
end C13
