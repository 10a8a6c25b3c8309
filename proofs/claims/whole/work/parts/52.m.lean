/-! mathematics: a cycle -/
section D4
variable {S T : xSt} {r q M : Nat} {π μ F : xR} {N : Nat → Int} {B e w o : Int}

theorem p_fetch (hC : CT S r q T M π μ) (hF : RF π B e w o F N) : ∃ F' N', f_X0_fetch_p1_0 (sR S r F) r = some (sR S r F') ∧ f_X12_fetches_p4_0 (wA T M 6 N) M = some (wA T M 6 N') ∧ RF π B e w o F' N' ∧ (∀ k, F' 8 k = F 8 k) := by
  have p0 := (ct_R hC).1
  have p3 := (ct_R hC).2.2.2.1
  have m1 := (ct_M hC).1
  have e3 := hF.1.2.2.2.1
  have e9 := hF.1.2.2.2.2.2.2.2.2.2.1
  have r3 := hF.2.1.2.2.2.1
  have r9 := hF.2.1.2.2.2.2.2.2.2.2.2.1
  have r10 := hF.2.1.2.2.2.2.2.2.2.2.2.2.1
  have hfS := ct_fS hC
  have hfT := ct_fT hC
  unfold f_X0_fetch_p1_0 f_X12_fetches_p4_0
  rw [p_rep hC hF, ct_p hC]
  simp only [bd2_e, sR_g, ct_q hC (show (0 : Nat) ≠ 77 by decide), wN_g, e3, e9]
  rw [ct_m hC (by decide), m1, wr_e (z := F 8 0) (by omega), wr_e (z := F 0 10) (by omega), wr_e (z := π 0 10) (by omega), wr_e (z := F 0 16) (by omega)]
  by_cases c0 : F 8 0 = 0
  · rw [if_neg (show ¬ ¬ F 8 0 = 0 from fun h => h c0), if_neg (show ¬ ¬ F 8 0 = 0 from fun h => h c0)]
    by_cases c1 : F 0 10 < π 0 10
    · rw [if_pos c1, if_pos (show ¬ F 0 10 = π 0 10 by omega)]
      by_cases c2 : F 0 16 ≤ 0
      · rw [if_pos c2, if_pos c2]
        obtain ⟨F1, N1, a1, a2, a3, a4⟩ := p_read hC hF c1
        rw [a1, a2]
        simp only [bd_e]
        have r14' := a3.2.1.2.2.2.2.2.2.2.2.2.2.2.2.2.2
        obtain ⟨F', N', b1, b2, b3, b4⟩ := p_marks_b hC (π 1 2 - F1 5 2).toNat 0 1 F1 N1 (fu S) (fu T) a3 (Or.inr rfl) (by decide) (fun _ => by omega) (by omega) (by omega)
        exact ⟨F', N', b1, b2, b3, fun k => by rw [b4, a4]⟩
      · rw [if_neg c2, if_neg c2, sR_w, lt1_e, wN_w, lt1_e]
        refine ⟨_, _, rfl, rfl, ?_, fun k => by simp (disch := omega) only [uF_e, uF_o, uF_k, uG_e, uG_o, uN_e, uN_k, true_or, or_true]⟩
        obtain ⟨hs, hr, hb, hu, hq, ht, hw, hp, hg, hl, hd⟩ := hF
        obtain ⟨e0, e1, e2, e3, e4, e5, e6, e7, e8, e9, e10, e11, e15, e16, e17, e18, e19, e20, e21, e22, e23, e24, e34, e42, x1, x2, x3⟩ := id hs
        obtain ⟨r0, r1, r2, r3, r4, r5, r6, r7, r8, r9, r10, r11, r12, r13, r14⟩ := id hr
        obtain ⟨p0, p1, p2, p3, p4, p5, p6, p7, p8, p9, p10⟩ := id (ct_R hC)
        obtain ⟨m1, m2, m3, m4, m5, m6⟩ := id (ct_M hC)
        refine ⟨?_, ?_, ?_, ?_, ?_, ?_, ?_, ?_, ?_, ?_, ?_⟩
        · unfold RFs
          refine ⟨?_, ?_, ?_, ?_, ?_, ?_, ?_, ?_, ?_, ?_, ?_, ?_, ?_, ?_, ?_, ?_, ?_, ?_, ?_, ?_, ?_, ?_, ?_, ?_, ?_, ?_, ?_⟩ <;> (try simp (disch := omega) only [uF_e, uF_o, uF_k, uG_e, uG_o, uN_e, uN_k, true_or, or_true]) <;> omega
        · unfold RFr
          refine ⟨?_, ?_, ?_, ?_, ?_, ?_, ?_, ?_, ?_, ?_, ?_, ?_, ?_, ?_, ?_⟩ <;> (try simp (disch := omega) only [uF_e, uF_o, uF_k, uG_e, uG_o, uN_e, uN_k, true_or, or_true]) <;> omega
        · intro c h1 h2
          try simp (disch := omega) only [uF_e, uF_o, uF_k, uG_e, uG_o, uN_e, uN_k, true_or, or_true]
          exact hb c h1 h2
        · intro j hj
          try simp (disch := omega) only [uF_e, uF_o, uF_k, uG_e, uG_o, uN_e, uN_k, true_or, or_true] at hj
          try simp (disch := omega) only [uF_e, uF_o, uF_k, uG_e, uG_o, uN_e, uN_k, true_or, or_true]
          exact hu j hj
        · intro j hj
          try simp (disch := omega) only [uF_e, uF_o, uF_k, uG_e, uG_o, uN_e, uN_k, true_or, or_true] at hj
          try simp (disch := omega) only [uF_e, uF_o, uF_k, uG_e, uG_o, uN_e, uN_k, true_or, or_true]
          first | exact hq j hj | exact absurd hj (by omega)
        · intro k hk h9
          try simp (disch := omega) only [uF_e, uF_o, uF_k, uG_e, uG_o, uN_e, uN_k, true_or, or_true]
          exact ht k hk h9
        · intro k hk
          try simp (disch := omega) only [uF_e, uF_o, uF_k, uG_e, uG_o, uN_e, uN_k, true_or, or_true]
          exact hw k hk
        · intro k hk
          try simp (disch := omega) only [uF_e, uF_o, uF_k, uG_e, uG_o, uN_e, uN_k, true_or, or_true]
          exact hp k hk
        · intro k hk h2
          try simp (disch := omega) only [uF_e, uF_o, uF_k, uG_e, uG_o, uN_e, uN_k, true_or, or_true] at h2
          try simp (disch := omega) only [uF_e, uF_o, uF_k, uG_e, uG_o, uN_e, uN_k, true_or, or_true]
          exact hg k hk h2
        · intro h1
          try simp (disch := omega) only [uF_e, uF_o, uF_k, uG_e, uG_o, uN_e, uN_k, true_or, or_true] at h1
          try simp (disch := omega) only [uF_e, uF_o, uF_k, uG_e, uG_o, uN_e, uN_k, true_or, or_true]
          first | exact hl h1 | exact absurd h1 (by decide)
        · unfold RFd
          try simp (disch := omega) only [uF_e, uF_o, uF_k, uG_e, uG_o, uN_e, uN_k, true_or, or_true]
          exact hd
    · rw [if_neg c1, if_neg (show ¬ ¬ F 0 10 = π 0 10 by omega)]
      exact ⟨F, N, rfl, rfl, hF, fun k => rfl⟩
  · rw [if_pos c0, if_pos c0]
    exact ⟨F, N, rfl, rfl, hF, fun k => rfl⟩
theorem q_cy1 (hC : CT S r q T M π μ) (hF : RF π B 0 w o F N) : RF π (B + 1) 1 w o (uF F 15 0 (F 15 0 + 1)) N := by
  obtain ⟨hs, hr, hb, hu, hq, ht, hw, hp, hg, hl, hd⟩ := hF
  obtain ⟨e0, e1, e2, e3, e4, e5, e6, e7, e8, e9, e10, e11, e15, e16, e17, e18, e19, e20, e21, e22, e23, e24, e34, e42, x1, x2, x3⟩ := id hs
  obtain ⟨r0, r1, r2, r3, r4, r5, r6, r7, r8, r9, r10, r11, r12, r13, r14⟩ := id hr
  obtain ⟨p0, p1, p2, p3, p4, p5, p6, p7, p8, p9, p10⟩ := id (ct_R hC)
  obtain ⟨m1, m2, m3, m4, m5, m6⟩ := id (ct_M hC)
  refine ⟨?_, ?_, ?_, ?_, ?_, ?_, ?_, ?_, ?_, ?_, ?_⟩
  · unfold RFs
    refine ⟨?_, ?_, ?_, ?_, ?_, ?_, ?_, ?_, ?_, ?_, ?_, ?_, ?_, ?_, ?_, ?_, ?_, ?_, ?_, ?_, ?_, ?_, ?_, ?_, ?_, ?_, ?_⟩ <;> (try simp (disch := omega) only [uF_e, uF_o, uF_k, uG_e, uG_o, uN_e, uN_k, true_or, or_true]) <;> omega
  · unfold RFr
    refine ⟨?_, ?_, ?_, ?_, ?_, ?_, ?_, ?_, ?_, ?_, ?_, ?_, ?_, ?_, ?_⟩ <;> (try simp (disch := omega) only [uF_e, uF_o, uF_k, uG_e, uG_o, uN_e, uN_k, true_or, or_true]) <;> omega
  · intro c h1 h2
    try simp (disch := omega) only [uF_e, uF_o, uF_k, uG_e, uG_o, uN_e, uN_k, true_or, or_true]
    exact hb c h1 h2
  · intro j hj
    try simp (disch := omega) only [uF_e, uF_o, uF_k, uG_e, uG_o, uN_e, uN_k, true_or, or_true] at hj
    try simp (disch := omega) only [uF_e, uF_o, uF_k, uG_e, uG_o, uN_e, uN_k, true_or, or_true]
    exact hu j hj
  · intro j hj
    try simp (disch := omega) only [uF_e, uF_o, uF_k, uG_e, uG_o, uN_e, uN_k, true_or, or_true] at hj
    try simp (disch := omega) only [uF_e, uF_o, uF_k, uG_e, uG_o, uN_e, uN_k, true_or, or_true]
    first | exact hq j hj | exact absurd hj (by omega)
  · intro k hk h9
    try simp (disch := omega) only [uF_e, uF_o, uF_k, uG_e, uG_o, uN_e, uN_k, true_or, or_true]
    exact ht k hk h9
  · intro k hk
    try simp (disch := omega) only [uF_e, uF_o, uF_k, uG_e, uG_o, uN_e, uN_k, true_or, or_true]
    exact hw k hk
  · intro k hk
    try simp (disch := omega) only [uF_e, uF_o, uF_k, uG_e, uG_o, uN_e, uN_k, true_or, or_true]
    exact hp k hk
  · intro k hk h2
    try simp (disch := omega) only [uF_e, uF_o, uF_k, uG_e, uG_o, uN_e, uN_k, true_or, or_true] at h2
    try simp (disch := omega) only [uF_e, uF_o, uF_k, uG_e, uG_o, uN_e, uN_k, true_or, or_true]
    exact hg k hk h2
  · intro h1
    try simp (disch := omega) only [uF_e, uF_o, uF_k, uG_e, uG_o, uN_e, uN_k, true_or, or_true] at h1
    try simp (disch := omega) only [uF_e, uF_o, uF_k, uG_e, uG_o, uN_e, uN_k, true_or, or_true]
    first | exact hl h1 | exact absurd h1 (by decide)
  · unfold RFd
    try simp (disch := omega) only [uF_e, uF_o, uF_k, uG_e, uG_o, uN_e, uN_k, true_or, or_true]
    exact hd
theorem q_cy2 (hC : CT S r q T M π μ) (hF : RF π B 1 w o F N) : RF π B 0 w o F (uN N 16 (N 16 + 1)) := by
  obtain ⟨hs, hr, hb, hu, hq, ht, hw, hp, hg, hl, hd⟩ := hF
  obtain ⟨e0, e1, e2, e3, e4, e5, e6, e7, e8, e9, e10, e11, e15, e16, e17, e18, e19, e20, e21, e22, e23, e24, e34, e42, x1, x2, x3⟩ := id hs
  obtain ⟨r0, r1, r2, r3, r4, r5, r6, r7, r8, r9, r10, r11, r12, r13, r14⟩ := id hr
  obtain ⟨p0, p1, p2, p3, p4, p5, p6, p7, p8, p9, p10⟩ := id (ct_R hC)
  obtain ⟨m1, m2, m3, m4, m5, m6⟩ := id (ct_M hC)
  refine ⟨?_, ?_, ?_, ?_, ?_, ?_, ?_, ?_, ?_, ?_, ?_⟩
  · unfold RFs
    refine ⟨?_, ?_, ?_, ?_, ?_, ?_, ?_, ?_, ?_, ?_, ?_, ?_, ?_, ?_, ?_, ?_, ?_, ?_, ?_, ?_, ?_, ?_, ?_, ?_, ?_, ?_, ?_⟩ <;> (try simp (disch := omega) only [uF_e, uF_o, uF_k, uG_e, uG_o, uN_e, uN_k, true_or, or_true]) <;> omega
  · unfold RFr
    refine ⟨?_, ?_, ?_, ?_, ?_, ?_, ?_, ?_, ?_, ?_, ?_, ?_, ?_, ?_, ?_⟩ <;> (try simp (disch := omega) only [uF_e, uF_o, uF_k, uG_e, uG_o, uN_e, uN_k, true_or, or_true]) <;> omega
  · intro c h1 h2
    try simp (disch := omega) only [uF_e, uF_o, uF_k, uG_e, uG_o, uN_e, uN_k, true_or, or_true]
    exact hb c h1 h2
  · intro j hj
    try simp (disch := omega) only [uF_e, uF_o, uF_k, uG_e, uG_o, uN_e, uN_k, true_or, or_true] at hj
    try simp (disch := omega) only [uF_e, uF_o, uF_k, uG_e, uG_o, uN_e, uN_k, true_or, or_true]
    exact hu j hj
  · intro j hj
    try simp (disch := omega) only [uF_e, uF_o, uF_k, uG_e, uG_o, uN_e, uN_k, true_or, or_true] at hj
    try simp (disch := omega) only [uF_e, uF_o, uF_k, uG_e, uG_o, uN_e, uN_k, true_or, or_true]
    first | exact hq j hj | exact absurd hj (by omega)
  · intro k hk h9
    try simp (disch := omega) only [uF_e, uF_o, uF_k, uG_e, uG_o, uN_e, uN_k, true_or, or_true]
    exact ht k hk h9
  · intro k hk
    try simp (disch := omega) only [uF_e, uF_o, uF_k, uG_e, uG_o, uN_e, uN_k, true_or, or_true]
    exact hw k hk
  · intro k hk
    try simp (disch := omega) only [uF_e, uF_o, uF_k, uG_e, uG_o, uN_e, uN_k, true_or, or_true]
    exact hp k hk
  · intro k hk h2
    try simp (disch := omega) only [uF_e, uF_o, uF_k, uG_e, uG_o, uN_e, uN_k, true_or, or_true] at h2
    try simp (disch := omega) only [uF_e, uF_o, uF_k, uG_e, uG_o, uN_e, uN_k, true_or, or_true]
    exact hg k hk h2
  · intro h1
    try simp (disch := omega) only [uF_e, uF_o, uF_k, uG_e, uG_o, uN_e, uN_k, true_or, or_true] at h1
    try simp (disch := omega) only [uF_e, uF_o, uF_k, uG_e, uG_o, uN_e, uN_k, true_or, or_true]
    first | exact hl h1 | exact absurd h1 (by decide)
  · unfold RFd
    try simp (disch := omega) only [uF_e, uF_o, uF_k, uG_e, uG_o, uN_e, uN_k, true_or, or_true]
    exact hd
/-- a cycle -/
theorem p_cycle (hC : CT S r q T M π μ) (hF : RF π B 0 0 0 F N) (hB : B ≤ 99970000) (hn : F 8 0 = 1 → F 8 3 ≤ F 8 2) : ∃ F' N', f_X0_passCycle_p1_0 (sR S r F) r = some (sR S r F') ∧ f_X12_cycles_p4_0 (wA T M 6 N) M = some (wA T M 6 N') ∧ RF π (B + 13) 0 0 0 F' N' ∧ (F' 8 0 = 1 → F' 8 3 ≤ F' 8 2) := by
  have h1 := q_cy1 hC hF
  obtain ⟨F1, N1, a1, a2, a3, a4⟩ := p_take hC h1
  obtain ⟨F2, N2, b1, b2, b3, b4⟩ := p_lanes hC a3 (by omega) (fun h => by
    rw [a4] at h
    rw [a4, a4]
    rw [uF_o (by decide)] at h
    rw [uF_o (by decide), uF_o (by decide)]
    exact hn h)
  obtain ⟨F3, N3, c1, c2, c3, c4⟩ := p_fetch hC b3
  refine ⟨F3, _, ?_, ?_, rf_mono (q_cy2 hC c3) (by omega), fun h => ?_⟩
  · unfold f_X0_passCycle_p1_0
    rw [sR_w, lt1_e, sR_g, a1]
    simp only [bd_e]
    rw [b1]
    simp only [bd_e]
    rw [c1]
    rfl
  · unfold f_X12_cycles_p4_0
    rw [a2]
    simp only [bd_e]
    rw [b2]
    simp only [bd_e]
    rw [c2]
    simp only [bd_e, lt1_e, wN_w, wN_g]
  · rw [c4] at h
    rw [c4, c4]
    exact b4 h
end D4
