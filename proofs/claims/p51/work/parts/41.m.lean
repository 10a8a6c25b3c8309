/-! mathematics: ops are taken; what reads -/
section C1
variable {π F : xR} {B : Int}
theorem p_take (hR : PR π) (hF : FI π B F) : ∃ F', (∀ S r q, CC S r q π → f_X0_takeOps_p1_0 (sR S r F) r = some (sR S r F')) ∧ FI π B F' ∧ (∀ o k, o ≠ 0 → F' o k = F o k) ∧ F' 0 15 = F 0 15 := by
  obtain ⟨hr, hu, hq, ht, hd, hl, hc, hp, hn, hz⟩ := id hF
  obtain ⟨r0, r1, r2, r3, r4, r5, r6, r7, r8, r9, r10, r11, r12, r13, r14, r15, r16, r17⟩ := id hr
  obtain ⟨n0, n1, n2, n3, n4⟩ := id hn
  obtain ⟨p0, p1, p2, p3, p4, p5, p6, p7, p8, p9, p10⟩ := id hR
  by_cases c : F 0 17 ≤ 0
  · by_cases d : F 0 14 < F 1 4
    · refine ⟨uF F 0 14 (F 0 14 - F 0 14), fun S r q hC => ?_, ?_, fun o k ho => uF_o ho, uF_k (by decide)⟩
      · unfold f_X0_takeOps_p1_0
        simp (disch := omega) only [lt1_e, bd_e, bd2_e, sR_g, sR_w, sR_a, sR_s, cc_p hC, cc_q hC, ckI_e, wr_e, ite_not, uF_e, uF_o, uF_k, uG_e, uG_o, iMin]
        rw [if_pos c, if_pos (by omega)]
      refine ⟨?_, ?_, ?_, ?_, ?_, ?_, ?_, ?_, ?_, ?_⟩
      · unfold FR
        refine ⟨?_, ?_, ?_, ?_, ?_, ?_, ?_, ?_, ?_, ?_, ?_, ?_, ?_, ?_, ?_, ?_, ?_, ?_⟩ <;> (try simp (disch := omega) only [uF_e, uF_o, uF_k, uG_e, uG_o, true_or, or_true]) <;> omega
      · intro j hj
        try simp (disch := omega) only [uF_e, uF_o, uF_k, uG_e, uG_o, true_or, or_true]
        exact hu j hj
      · intro j hj
        try simp (disch := omega) only [uF_e, uF_o, uF_k, uG_e, uG_o, true_or, or_true] at hj
        try simp (disch := omega) only [uF_e, uF_o, uF_k, uG_e, uG_o, true_or, or_true]
        first | exact hq j hj | exact absurd hj (by omega)
      · refine ⟨fun k hk => ?_, fun k hk h9 => ?_⟩
        · try simp (disch := omega) only [uF_e, uF_o, uF_k, uG_e, uG_o, true_or, or_true]
          exact ht.1 k hk
        · try simp (disch := omega) only [uF_e, uF_o, uF_k, uG_e, uG_o, true_or, or_true]
          exact ht.2 k hk h9
      · unfold FD
        try simp (disch := omega) only [uF_e, uF_o, uF_k, uG_e, uG_o, true_or, or_true]
        exact hd
      · intro h1
        try simp (disch := omega) only [uF_e, uF_o, uF_k, uG_e, uG_o, true_or, or_true] at h1
        try simp (disch := omega) only [uF_e, uF_o, uF_k, uG_e, uG_o, true_or, or_true]
        first | exact hl h1 | exact absurd h1 (by decide)
      · intro h1
        try simp (disch := omega) only [uF_e, uF_o, uF_k, uG_e, uG_o, true_or, or_true] at h1
        unfold nxq
        try simp (disch := omega) only [uF_e, uF_o, uF_k, uG_e, uG_o, true_or, or_true]
        first | exact hc h1 | exact absurd h1 (by decide)
      · unfold FP
        try simp (disch := omega) only [uF_e, uF_o, uF_k, uG_e, uG_o, true_or, or_true]
        exact hp
      · refine ⟨fun k => ?_, fun k => ?_, ?_, ?_, ?_⟩
        · try simp (disch := omega) only [uF_e, uF_o, uF_k, uG_e, uG_o, true_or, or_true]
          exact n0 k
        · try simp (disch := omega) only [uF_e, uF_o, uF_k, uG_e, uG_o, true_or, or_true]
          exact n1 k
        · try simp (disch := omega) only [uF_e, uF_o, uF_k, uG_e, uG_o, true_or, or_true]
          omega
        · try simp (disch := omega) only [uF_e, uF_o, uF_k, uG_e, uG_o, true_or, or_true]
          omega
        · try simp (disch := omega) only [uF_e, uF_o, uF_k, uG_e, uG_o, true_or, or_true]
          omega
      · repeat' apply zb_F
        all_goals first | exact hz | rfl
    · refine ⟨uF F 0 14 (F 0 14 - F 1 4), fun S r q hC => ?_, ?_, fun o k ho => uF_o ho, uF_k (by decide)⟩
      · unfold f_X0_takeOps_p1_0
        simp (disch := omega) only [lt1_e, bd_e, bd2_e, sR_g, sR_w, sR_a, sR_s, cc_p hC, cc_q hC, ckI_e, wr_e, ite_not, uF_e, uF_o, uF_k, uG_e, uG_o, iMin]
        rw [if_pos c, if_neg d]
      refine ⟨?_, ?_, ?_, ?_, ?_, ?_, ?_, ?_, ?_, ?_⟩
      · unfold FR
        refine ⟨?_, ?_, ?_, ?_, ?_, ?_, ?_, ?_, ?_, ?_, ?_, ?_, ?_, ?_, ?_, ?_, ?_, ?_⟩ <;> (try simp (disch := omega) only [uF_e, uF_o, uF_k, uG_e, uG_o, true_or, or_true]) <;> omega
      · intro j hj
        try simp (disch := omega) only [uF_e, uF_o, uF_k, uG_e, uG_o, true_or, or_true]
        exact hu j hj
      · intro j hj
        try simp (disch := omega) only [uF_e, uF_o, uF_k, uG_e, uG_o, true_or, or_true] at hj
        try simp (disch := omega) only [uF_e, uF_o, uF_k, uG_e, uG_o, true_or, or_true]
        first | exact hq j hj | exact absurd hj (by omega)
      · refine ⟨fun k hk => ?_, fun k hk h9 => ?_⟩
        · try simp (disch := omega) only [uF_e, uF_o, uF_k, uG_e, uG_o, true_or, or_true]
          exact ht.1 k hk
        · try simp (disch := omega) only [uF_e, uF_o, uF_k, uG_e, uG_o, true_or, or_true]
          exact ht.2 k hk h9
      · unfold FD
        try simp (disch := omega) only [uF_e, uF_o, uF_k, uG_e, uG_o, true_or, or_true]
        exact hd
      · intro h1
        try simp (disch := omega) only [uF_e, uF_o, uF_k, uG_e, uG_o, true_or, or_true] at h1
        try simp (disch := omega) only [uF_e, uF_o, uF_k, uG_e, uG_o, true_or, or_true]
        first | exact hl h1 | exact absurd h1 (by decide)
      · intro h1
        try simp (disch := omega) only [uF_e, uF_o, uF_k, uG_e, uG_o, true_or, or_true] at h1
        unfold nxq
        try simp (disch := omega) only [uF_e, uF_o, uF_k, uG_e, uG_o, true_or, or_true]
        first | exact hc h1 | exact absurd h1 (by decide)
      · unfold FP
        try simp (disch := omega) only [uF_e, uF_o, uF_k, uG_e, uG_o, true_or, or_true]
        exact hp
      · refine ⟨fun k => ?_, fun k => ?_, ?_, ?_, ?_⟩
        · try simp (disch := omega) only [uF_e, uF_o, uF_k, uG_e, uG_o, true_or, or_true]
          exact n0 k
        · try simp (disch := omega) only [uF_e, uF_o, uF_k, uG_e, uG_o, true_or, or_true]
          exact n1 k
        · try simp (disch := omega) only [uF_e, uF_o, uF_k, uG_e, uG_o, true_or, or_true]
          omega
        · try simp (disch := omega) only [uF_e, uF_o, uF_k, uG_e, uG_o, true_or, or_true]
          omega
        · try simp (disch := omega) only [uF_e, uF_o, uF_k, uG_e, uG_o, true_or, or_true]
          omega
      · repeat' apply zb_F
        all_goals first | exact hz | rfl
  · refine ⟨uF F 0 17 (F 0 17 - 1), fun S r q hC => ?_, ?_, fun o k ho => uF_o ho, uF_k (by decide)⟩
    · unfold f_X0_takeOps_p1_0
      simp (disch := omega) only [lt1_e, bd_e, bd2_e, sR_g, sR_w, sR_a, sR_s, cc_p hC, cc_q hC, ckI_e, wr_e, ite_not, uF_e, uF_o, uF_k, uG_e, uG_o]
      rw [if_neg c]
    refine ⟨?_, ?_, ?_, ?_, ?_, ?_, ?_, ?_, ?_, ?_⟩
    · unfold FR
      refine ⟨?_, ?_, ?_, ?_, ?_, ?_, ?_, ?_, ?_, ?_, ?_, ?_, ?_, ?_, ?_, ?_, ?_, ?_⟩ <;> (try simp (disch := omega) only [uF_e, uF_o, uF_k, uG_e, uG_o, true_or, or_true]) <;> omega
    · intro j hj
      try simp (disch := omega) only [uF_e, uF_o, uF_k, uG_e, uG_o, true_or, or_true]
      exact hu j hj
    · intro j hj
      try simp (disch := omega) only [uF_e, uF_o, uF_k, uG_e, uG_o, true_or, or_true] at hj
      try simp (disch := omega) only [uF_e, uF_o, uF_k, uG_e, uG_o, true_or, or_true]
      first | exact hq j hj | exact absurd hj (by omega)
    · refine ⟨fun k hk => ?_, fun k hk h9 => ?_⟩
      · try simp (disch := omega) only [uF_e, uF_o, uF_k, uG_e, uG_o, true_or, or_true]
        exact ht.1 k hk
      · try simp (disch := omega) only [uF_e, uF_o, uF_k, uG_e, uG_o, true_or, or_true]
        exact ht.2 k hk h9
    · unfold FD
      try simp (disch := omega) only [uF_e, uF_o, uF_k, uG_e, uG_o, true_or, or_true]
      exact hd
    · intro h1
      try simp (disch := omega) only [uF_e, uF_o, uF_k, uG_e, uG_o, true_or, or_true] at h1
      try simp (disch := omega) only [uF_e, uF_o, uF_k, uG_e, uG_o, true_or, or_true]
      first | exact hl h1 | exact absurd h1 (by decide)
    · intro h1
      try simp (disch := omega) only [uF_e, uF_o, uF_k, uG_e, uG_o, true_or, or_true] at h1
      unfold nxq
      try simp (disch := omega) only [uF_e, uF_o, uF_k, uG_e, uG_o, true_or, or_true]
      first | exact hc h1 | exact absurd h1 (by decide)
    · unfold FP
      try simp (disch := omega) only [uF_e, uF_o, uF_k, uG_e, uG_o, true_or, or_true]
      exact hp
    · refine ⟨fun k => ?_, fun k => ?_, ?_, ?_, ?_⟩
      · try simp (disch := omega) only [uF_e, uF_o, uF_k, uG_e, uG_o, true_or, or_true]
        exact n0 k
      · try simp (disch := omega) only [uF_e, uF_o, uF_k, uG_e, uG_o, true_or, or_true]
        exact n1 k
      · try simp (disch := omega) only [uF_e, uF_o, uF_k, uG_e, uG_o, true_or, or_true]
        omega
      · try simp (disch := omega) only [uF_e, uF_o, uF_k, uG_e, uG_o, true_or, or_true]
        omega
      · try simp (disch := omega) only [uF_e, uF_o, uF_k, uG_e, uG_o, true_or, or_true]
        omega
    · repeat' apply zb_F
      all_goals first | exact hz | rfl
theorem p_has_b (hR : PR π) (hF : FI π B F) {a b : Int} (ha : 0 ≤ a ∧ a ≤ 9) (hbb : 0 ≤ b ∧ b ≤ 9) : ∀ (d : Nat) (j : Int), 0 ≤ j → j + d = F 2 2 → ∃ v, (v = 0 ∨ v = 1) ∧ (v = 1 → a ≤ 7) ∧ ∀ S r q f1, CC S r q π → d < f1 → f_X8_has_p1_2_b2 r f1 (sR S r F) a b j = some (v, sR S r F) := by
  obtain ⟨hr, hu, hq, ht, hd, hl, hc, hp, hn, hz⟩ := id hF
  obtain ⟨r0, r1, r2, r3, r4, r5, r6, r7, r8, r9, r10, r11, r12, r13, r14, r15, r16, r17⟩ := id hr
  obtain ⟨n0, n1, n2, n3, n4⟩ := id hn
  obtain ⟨p0, p1, p2, p3, p4, p5, p6, p7, p8, p9, p10⟩ := id hR
  intro d
  induction d with
  | zero =>
    intro j h0 h
    refine ⟨0, Or.inl rfl, fun h => absurd h (by decide), fun S r q f1 hC hf1 => ?_⟩
    obtain ⟨f1, rfl⟩ := fs_e (show 0 < f1 by omega)
    rw [f_X8_has_p1_2_b2]
    simp (disch := omega) only [lt1_e, bd_e, bd2_e, sR_g, sR_w, sR_a, sR_s, cc_p hC, cc_q hC, ckI_e, wr_e, ite_not, uF_e, uF_o, uF_k, uG_e, uG_o]
    rw [if_pos (by omega)]
  | succ d ih =>
    intro j h0 h
    obtain ⟨v, hv, hv2, i1⟩ := ih (j + 1) (by omega) (by omega)
    obtain ⟨g1, g2⟩ := hu j.toNat (by omega)
    obtain ⟨g3, g4, g5, g6⟩ := p9 j.toNat (by omega)
    rw [← g1] at g3 g4
    rw [← g2] at g5 g6
    have c0 : ¬ F 2 2 ≤ j := by omega
    by_cases c : F 3 j.toNat = a ∧ F 4 j.toNat = b
    · refine ⟨1, Or.inr rfl, fun _ => by omega, fun S r q f1 hC hf1 => ?_⟩
      obtain ⟨f1, rfl⟩ := fs_e (show 0 < f1 by omega)
      rw [f_X8_has_p1_2_b2]
      simp (disch := omega) only [lt1_e, bd_e, bd2_e, sR_g, sR_w, sR_a, sR_s, cc_p hC, cc_q hC, ckI_e, wr_e, ite_not, uF_e, uF_o, uF_k, uG_e, uG_o]
      rw [if_neg c0, if_pos c.1, if_pos c.2]
    · refine ⟨v, hv, hv2, fun S r q f1 hC hf1 => ?_⟩
      obtain ⟨f1, rfl⟩ := fs_e (show 0 < f1 by omega)
      rw [f_X8_has_p1_2_b2]
      simp (disch := omega) only [lt1_e, bd_e, bd2_e, sR_g, sR_w, sR_a, sR_s, cc_p hC, cc_q hC, ckI_e, wr_e, ite_not, uF_e, uF_o, uF_k, uG_e, uG_o]
      rw [if_neg c0]
      by_cases c1 : F 3 j.toNat = a
      · rw [if_pos c1, if_neg (fun z => c ⟨c1, z⟩)]
        exact i1 S r q f1 hC (by omega)
      · rw [if_neg c1]
        exact i1 S r q f1 hC (by omega)
theorem p_has (hR : PR π) (hF : FI π B F) {a b : Int} (ha : 0 ≤ a ∧ a ≤ 9) (hbb : 0 ≤ b ∧ b ≤ 9) : ∃ v, (v = 0 ∨ v = 1) ∧ (v = 1 → a ≤ 7) ∧ ∀ S r q, CC S r q π → f_X8_has_p1_2 (sR S r F) r a b = some (v, sR S r F) := by
  obtain ⟨hr, hu, hq, ht, hd, hl, hc, hp, hn, hz⟩ := id hF
  obtain ⟨r0, r1, r2, r3, r4, r5, r6, r7, r8, r9, r10, r11, r12, r13, r14, r15, r16, r17⟩ := id hr
  obtain ⟨n0, n1, n2, n3, n4⟩ := id hn
  obtain ⟨p0, p1, p2, p3, p4, p5, p6, p7, p8, p9, p10⟩ := id hR
  obtain ⟨v, h1, h2, h3⟩ := p_has_b hR hF ha hbb (F 2 2).toNat 0 (by omega) (by omega)
  exact ⟨v, h1, h2, fun S r q hC => h3 S r q _ hC (by rw [sR_fu]; have := cc_f hC; omega)⟩
theorem p_win (hR : PR π) {S : xSt} {r q : Nat} (hC : CC S r q π) (a : Int) : f_X5_windowOf_p2_0 (sR S r F) q a = some (Int.tdiv (wr a) (π 1 1), sR S r F) := by
  have p2 := hR.2.2.1
  unfold f_X5_windowOf_p2_0
  simp (disch := omega) only [cc_q hC, wr_e (z := π 1 1), ckZ_e]
  rw [if_neg (by omega)]
theorem p_fuse (hR : PR π) (hF : FI π B F) {k : Int} (hk : 0 ≤ k ∧ k < π 0 10) : ∃ v, (v = 0 ∨ v = 1) ∧ (v = 1 → k + 1 < π 0 10 ∧ π 5 k.toNat ≤ 7) ∧ ∀ S r q, CC S r q π → f_X0_fusesWithNext_p1_0 (sR S r F) r k = some (v, sR S r F) := by
  have p0 := pr_n hR
  by_cases c : π 0 10 ≤ k + 1
  · refine ⟨0, Or.inl rfl, fun h => absurd h (by decide), fun S r q hC => ?_⟩
    unfold f_X0_fusesWithNext_p1_0
    simp (disch := omega) only [lt1_e, bd_e, bd2_e, sR_g, sR_w, sR_a, sR_s, cc_p hC, cc_q hC, ckI_e, wr_e, ite_not, uF_e, uF_o, uF_k, uG_e, uG_o]
    rw [if_neg (by omega), if_pos c]
  · have hk1 : (k.toNat : Int) < π 0 10 := by omega
    have hk2 : ((k + 1).toNat : Int) < π 0 10 := by omega
    have g1 := pr_k hR hk1
    have g2 := pr_k hR hk2
    have l1 := g1.2.1
    have l2 := g2.2.1
    obtain ⟨v, hv, hv2, i1⟩ := p_has hR hF g1.1 g2.1
    have key : ∃ w : Int, (w = 0 ∨ w = 1) ∧ (w = 1 → v = 1) ∧ w = (if π 6 k.toNat = 0 then (if π 6 (k + 1).toNat = 0 then (if v = 0 then 0 else (if wr (Int.tdiv (wr (π 9 k.toNat)) (π 1 1)) = wr (Int.tdiv (wr (π 9 (k + 1).toNat)) (π 1 1)) then 1 else 0)) else 0) else 0) := by
      refine ⟨_, ?_, ?_, rfl⟩
      · split
        · split
          · split
            · exact Or.inl rfl
            · split
              · exact Or.inr rfl
              · exact Or.inl rfl
          · exact Or.inl rfl
        · exact Or.inl rfl
      · intro h
        split at h
        · split at h
          · split at h
            · exact absurd h (by decide)
            · omega
          · exact absurd h (by decide)
        · exact absurd h (by decide)
    obtain ⟨w, w1, w2, w3⟩ := key
    refine ⟨w, w1, fun h => ⟨by omega, hv2 (w2 h)⟩, fun S r q hC => ?_⟩
    unfold f_X0_fusesWithNext_p1_0
    simp (disch := omega) only [lt1_e, bd_e, bd2_e, sR_g, sR_w, sR_a, sR_s, cc_p hC, cc_q hC, ckI_e, wr_e, ite_not, uF_e, uF_o, uF_k, uG_e, uG_o]
    rw [if_neg (by omega), if_neg c, i1 S r q hC, w3]
    simp (disch := omega) only [bd2_e, p_win (F := F) hR hC, cc_p hC, cc_q hC, ckI_e, wr_e (z := v)]
    by_cases d1 : π 6 k.toNat = 0
    · by_cases d2 : π 6 (k + 1).toNat = 0
      · rw [if_pos d1, if_pos d2, if_pos d1, if_pos d2]
        by_cases d3 : v = 0
        · rw [if_pos d3, if_pos d3]
        · rw [if_neg d3, if_neg d3]
          by_cases d4 : wr (Int.tdiv (wr (π 9 k.toNat)) (π 1 1)) = wr (Int.tdiv (wr (π 9 (k + 1).toNat)) (π 1 1))
          · rw [if_pos d4, if_pos d4]
          · rw [if_neg d4, if_neg d4]
      · rw [if_pos d1, if_neg d2, if_pos d1, if_neg d2]
    · rw [if_neg d1, if_neg d1]
end C1
