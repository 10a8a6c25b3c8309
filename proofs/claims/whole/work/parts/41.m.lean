/-! mathematics: taking, fusing, what is next -/
theorem tb71 (i : Nat) : tbI 7 i = tbI 1 i := rfl
theorem tb1_r : ∀ i : Nat, i < 10 → 1 ≤ tbI 1 i ∧ tbI 1 i ≤ 4 := by decide +kernel
theorem fs_e {f : Nat} (h : 0 < f) : ∃ g, f = g + 1 := ⟨f - 1, by omega⟩
section C1
variable {S T : xSt} {r q M : Nat} {π μ F : xR} {N : Nat → Int} {B e w o : Int}

theorem p_take (hC : CT S r q T M π μ) (hF : RF π B e 0 o F N) : ∃ F' N', f_X0_takeOps_p1_0 (sR S r F) r = some (sR S r F') ∧ f_X12_takesAway_p4_0 (wA T M 6 N) M = some (wA T M 6 N') ∧ RF π B e 0 o F' N' ∧ (∀ k, F' 8 k = F 8 k) := by
  obtain ⟨hs, hr, hb, hu, hq, ht, hw, hp, hg, hl, hd⟩ := hF
  obtain ⟨e0, e1, e2, e3, e4, e5, e6, e7, e8, e9, e10, e11, e15, e16, e17, e18, e19, e20, e21, e22, e23, e24, e34, e42, x1, x2, x3⟩ := id hs
  obtain ⟨r0, r1, r2, r3, r4, r5, r6, r7, r8, r9, r10, r11, r12, r13, r14⟩ := id hr
  obtain ⟨p0, p1, p2, p3, p4, p5, p6, p7, p8, p9, p10⟩ := id (ct_R hC)
  obtain ⟨m1, m2, m3, m4, m5, m6⟩ := id (ct_M hC)
  unfold f_X0_takeOps_p1_0 f_X12_takesAway_p4_0
  simp (disch := omega) only [lt1_e, bd_e, bd2_e, sR_g, sR_w, sR_a, sR_s, wN_g, wN_w, wN_s, ct_p hC, ct_q hC, ct_m hC, ckI_e, wr_e, ite_not, uF_e, uF_o, uF_k, uG_e, uG_o, uN_e, uN_k, e7, e6, e1, iMin, Int.add_zero]
  by_cases c : F 0 17 ≤ 0
  · simp only [if_pos c]
    by_cases d : F 0 14 ≤ F 1 4
    · simp only [if_pos d]
      by_cases d2 : F 0 14 < F 1 4
      · simp only [if_pos d2]
        refine ⟨_, _, rfl, rfl, ?_, fun k => by simp (disch := omega) only [uF_e, uF_o, uF_k, uG_e, uG_o, uN_e, uN_k, true_or, or_true]⟩
        refine ⟨?_, ?_, ?_, ?_, ?_, ?_, ?_, ?_, ?_, ?_, ?_⟩
        · unfold RFs
          refine ⟨?_, ?_, ?_, ?_, ?_, ?_, ?_, ?_, ?_, ?_, ?_, ?_, ?_, ?_, ?_, ?_, ?_, ?_, ?_, ?_, ?_, ?_, ?_, ?_, ?_, ?_, ?_⟩ <;> (try simp (disch := omega) only [uF_e, uF_o, uF_k, uG_e, uG_o, uN_e, uN_k, true_or, or_true]) <;> omega
        · unfold RFr
          refine ⟨?_, ?_, ?_, ?_, ?_, ?_, ?_, ?_, ?_, ?_, ?_, ?_, ?_, ?_, ?_⟩ <;> (try simp (disch := omega) only [uF_e, uF_o, uF_k, uG_e, uG_o, uN_e, uN_k, true_or, or_true]) <;> omega
        · intro c h1 h2
          try simp (disch := omega) only [uF_e, uF_o, uF_k, uG_e, uG_o, uN_e, uN_k, true_or, or_true]
          exact hb c h1 h2
        · intro j hj
          try simp (disch := omega) only [uF_e, uF_o, uF_k, uG_e, uG_o, uN_e, uN_k, true_or, or_true] at hj
          try simp (disch := omega) only [uF_e, uF_o, uF_k, uG_e, uG_o, uN_e, uN_k, true_or, or_true]
          exact hu j hj
        · intro j hj
          try simp (disch := omega) only [uF_e, uF_o, uF_k, uG_e, uG_o, uN_e, uN_k, true_or, or_true] at hj
          try simp (disch := omega) only [uF_e, uF_o, uF_k, uG_e, uG_o, uN_e, uN_k, true_or, or_true]
          first | exact hq j hj | exact absurd hj (by omega)
        · intro k hk h9
          try simp (disch := omega) only [uF_e, uF_o, uF_k, uG_e, uG_o, uN_e, uN_k, true_or, or_true]
          exact ht k hk h9
        · intro k hk
          try simp (disch := omega) only [uF_e, uF_o, uF_k, uG_e, uG_o, uN_e, uN_k, true_or, or_true]
          exact hw k hk
        · intro k hk
          try simp (disch := omega) only [uF_e, uF_o, uF_k, uG_e, uG_o, uN_e, uN_k, true_or, or_true]
          exact hp k hk
        · intro k hk h2
          try simp (disch := omega) only [uF_e, uF_o, uF_k, uG_e, uG_o, uN_e, uN_k, true_or, or_true] at h2
          try simp (disch := omega) only [uF_e, uF_o, uF_k, uG_e, uG_o, uN_e, uN_k, true_or, or_true]
          exact hg k hk h2
        · intro h1
          try simp (disch := omega) only [uF_e, uF_o, uF_k, uG_e, uG_o, uN_e, uN_k, true_or, or_true] at h1
          try simp (disch := omega) only [uF_e, uF_o, uF_k, uG_e, uG_o, uN_e, uN_k, true_or, or_true]
          first | exact hl h1 | exact absurd h1 (by decide)
        · unfold RFd
          try simp (disch := omega) only [uF_e, uF_o, uF_k, uG_e, uG_o, uN_e, uN_k, true_or, or_true]
          exact hd
      · simp only [if_neg d2]
        refine ⟨_, _, rfl, rfl, ?_, fun k => by simp (disch := omega) only [uF_e, uF_o, uF_k, uG_e, uG_o, uN_e, uN_k, true_or, or_true]⟩
        refine ⟨?_, ?_, ?_, ?_, ?_, ?_, ?_, ?_, ?_, ?_, ?_⟩
        · unfold RFs
          refine ⟨?_, ?_, ?_, ?_, ?_, ?_, ?_, ?_, ?_, ?_, ?_, ?_, ?_, ?_, ?_, ?_, ?_, ?_, ?_, ?_, ?_, ?_, ?_, ?_, ?_, ?_, ?_⟩ <;> (try simp (disch := omega) only [uF_e, uF_o, uF_k, uG_e, uG_o, uN_e, uN_k, true_or, or_true]) <;> omega
        · unfold RFr
          refine ⟨?_, ?_, ?_, ?_, ?_, ?_, ?_, ?_, ?_, ?_, ?_, ?_, ?_, ?_, ?_⟩ <;> (try simp (disch := omega) only [uF_e, uF_o, uF_k, uG_e, uG_o, uN_e, uN_k, true_or, or_true]) <;> omega
        · intro c h1 h2
          try simp (disch := omega) only [uF_e, uF_o, uF_k, uG_e, uG_o, uN_e, uN_k, true_or, or_true]
          exact hb c h1 h2
        · intro j hj
          try simp (disch := omega) only [uF_e, uF_o, uF_k, uG_e, uG_o, uN_e, uN_k, true_or, or_true] at hj
          try simp (disch := omega) only [uF_e, uF_o, uF_k, uG_e, uG_o, uN_e, uN_k, true_or, or_true]
          exact hu j hj
        · intro j hj
          try simp (disch := omega) only [uF_e, uF_o, uF_k, uG_e, uG_o, uN_e, uN_k, true_or, or_true] at hj
          try simp (disch := omega) only [uF_e, uF_o, uF_k, uG_e, uG_o, uN_e, uN_k, true_or, or_true]
          first | exact hq j hj | exact absurd hj (by omega)
        · intro k hk h9
          try simp (disch := omega) only [uF_e, uF_o, uF_k, uG_e, uG_o, uN_e, uN_k, true_or, or_true]
          exact ht k hk h9
        · intro k hk
          try simp (disch := omega) only [uF_e, uF_o, uF_k, uG_e, uG_o, uN_e, uN_k, true_or, or_true]
          exact hw k hk
        · intro k hk
          try simp (disch := omega) only [uF_e, uF_o, uF_k, uG_e, uG_o, uN_e, uN_k, true_or, or_true]
          exact hp k hk
        · intro k hk h2
          try simp (disch := omega) only [uF_e, uF_o, uF_k, uG_e, uG_o, uN_e, uN_k, true_or, or_true] at h2
          try simp (disch := omega) only [uF_e, uF_o, uF_k, uG_e, uG_o, uN_e, uN_k, true_or, or_true]
          exact hg k hk h2
        · intro h1
          try simp (disch := omega) only [uF_e, uF_o, uF_k, uG_e, uG_o, uN_e, uN_k, true_or, or_true] at h1
          try simp (disch := omega) only [uF_e, uF_o, uF_k, uG_e, uG_o, uN_e, uN_k, true_or, or_true]
          first | exact hl h1 | exact absurd h1 (by decide)
        · unfold RFd
          try simp (disch := omega) only [uF_e, uF_o, uF_k, uG_e, uG_o, uN_e, uN_k, true_or, or_true]
          exact hd
    · simp only [if_neg d]
      rw [if_neg (by omega)]
      refine ⟨_, _, rfl, rfl, ?_, fun k => by simp (disch := omega) only [uF_e, uF_o, uF_k, uG_e, uG_o, uN_e, uN_k, true_or, or_true]⟩
      refine ⟨?_, ?_, ?_, ?_, ?_, ?_, ?_, ?_, ?_, ?_, ?_⟩
      · unfold RFs
        refine ⟨?_, ?_, ?_, ?_, ?_, ?_, ?_, ?_, ?_, ?_, ?_, ?_, ?_, ?_, ?_, ?_, ?_, ?_, ?_, ?_, ?_, ?_, ?_, ?_, ?_, ?_, ?_⟩ <;> (try simp (disch := omega) only [uF_e, uF_o, uF_k, uG_e, uG_o, uN_e, uN_k, true_or, or_true]) <;> omega
      · unfold RFr
        refine ⟨?_, ?_, ?_, ?_, ?_, ?_, ?_, ?_, ?_, ?_, ?_, ?_, ?_, ?_, ?_⟩ <;> (try simp (disch := omega) only [uF_e, uF_o, uF_k, uG_e, uG_o, uN_e, uN_k, true_or, or_true]) <;> omega
      · intro c h1 h2
        try simp (disch := omega) only [uF_e, uF_o, uF_k, uG_e, uG_o, uN_e, uN_k, true_or, or_true]
        exact hb c h1 h2
      · intro j hj
        try simp (disch := omega) only [uF_e, uF_o, uF_k, uG_e, uG_o, uN_e, uN_k, true_or, or_true] at hj
        try simp (disch := omega) only [uF_e, uF_o, uF_k, uG_e, uG_o, uN_e, uN_k, true_or, or_true]
        exact hu j hj
      · intro j hj
        try simp (disch := omega) only [uF_e, uF_o, uF_k, uG_e, uG_o, uN_e, uN_k, true_or, or_true] at hj
        try simp (disch := omega) only [uF_e, uF_o, uF_k, uG_e, uG_o, uN_e, uN_k, true_or, or_true]
        first | exact hq j hj | exact absurd hj (by omega)
      · intro k hk h9
        try simp (disch := omega) only [uF_e, uF_o, uF_k, uG_e, uG_o, uN_e, uN_k, true_or, or_true]
        exact ht k hk h9
      · intro k hk
        try simp (disch := omega) only [uF_e, uF_o, uF_k, uG_e, uG_o, uN_e, uN_k, true_or, or_true]
        exact hw k hk
      · intro k hk
        try simp (disch := omega) only [uF_e, uF_o, uF_k, uG_e, uG_o, uN_e, uN_k, true_or, or_true]
        exact hp k hk
      · intro k hk h2
        try simp (disch := omega) only [uF_e, uF_o, uF_k, uG_e, uG_o, uN_e, uN_k, true_or, or_true] at h2
        try simp (disch := omega) only [uF_e, uF_o, uF_k, uG_e, uG_o, uN_e, uN_k, true_or, or_true]
        exact hg k hk h2
      · intro h1
        try simp (disch := omega) only [uF_e, uF_o, uF_k, uG_e, uG_o, uN_e, uN_k, true_or, or_true] at h1
        try simp (disch := omega) only [uF_e, uF_o, uF_k, uG_e, uG_o, uN_e, uN_k, true_or, or_true]
        first | exact hl h1 | exact absurd h1 (by decide)
      · unfold RFd
        try simp (disch := omega) only [uF_e, uF_o, uF_k, uG_e, uG_o, uN_e, uN_k, true_or, or_true]
        exact hd
  · simp only [if_neg c]
    refine ⟨_, _, rfl, rfl, ?_, fun k => by simp (disch := omega) only [uF_e, uF_o, uF_k, uG_e, uG_o, uN_e, uN_k, true_or, or_true]⟩
    refine ⟨?_, ?_, ?_, ?_, ?_, ?_, ?_, ?_, ?_, ?_, ?_⟩
    · unfold RFs
      refine ⟨?_, ?_, ?_, ?_, ?_, ?_, ?_, ?_, ?_, ?_, ?_, ?_, ?_, ?_, ?_, ?_, ?_, ?_, ?_, ?_, ?_, ?_, ?_, ?_, ?_, ?_, ?_⟩ <;> (try simp (disch := omega) only [uF_e, uF_o, uF_k, uG_e, uG_o, uN_e, uN_k, true_or, or_true]) <;> omega
    · unfold RFr
      refine ⟨?_, ?_, ?_, ?_, ?_, ?_, ?_, ?_, ?_, ?_, ?_, ?_, ?_, ?_, ?_⟩ <;> (try simp (disch := omega) only [uF_e, uF_o, uF_k, uG_e, uG_o, uN_e, uN_k, true_or, or_true]) <;> omega
    · intro c h1 h2
      try simp (disch := omega) only [uF_e, uF_o, uF_k, uG_e, uG_o, uN_e, uN_k, true_or, or_true]
      exact hb c h1 h2
    · intro j hj
      try simp (disch := omega) only [uF_e, uF_o, uF_k, uG_e, uG_o, uN_e, uN_k, true_or, or_true] at hj
      try simp (disch := omega) only [uF_e, uF_o, uF_k, uG_e, uG_o, uN_e, uN_k, true_or, or_true]
      exact hu j hj
    · intro j hj
      try simp (disch := omega) only [uF_e, uF_o, uF_k, uG_e, uG_o, uN_e, uN_k, true_or, or_true] at hj
      try simp (disch := omega) only [uF_e, uF_o, uF_k, uG_e, uG_o, uN_e, uN_k, true_or, or_true]
      first | exact hq j hj | exact absurd hj (by omega)
    · intro k hk h9
      try simp (disch := omega) only [uF_e, uF_o, uF_k, uG_e, uG_o, uN_e, uN_k, true_or, or_true]
      exact ht k hk h9
    · intro k hk
      try simp (disch := omega) only [uF_e, uF_o, uF_k, uG_e, uG_o, uN_e, uN_k, true_or, or_true]
      exact hw k hk
    · intro k hk
      try simp (disch := omega) only [uF_e, uF_o, uF_k, uG_e, uG_o, uN_e, uN_k, true_or, or_true]
      exact hp k hk
    · intro k hk h2
      try simp (disch := omega) only [uF_e, uF_o, uF_k, uG_e, uG_o, uN_e, uN_k, true_or, or_true] at h2
      try simp (disch := omega) only [uF_e, uF_o, uF_k, uG_e, uG_o, uN_e, uN_k, true_or, or_true]
      exact hg k hk h2
    · intro h1
      try simp (disch := omega) only [uF_e, uF_o, uF_k, uG_e, uG_o, uN_e, uN_k, true_or, or_true] at h1
      try simp (disch := omega) only [uF_e, uF_o, uF_k, uG_e, uG_o, uN_e, uN_k, true_or, or_true]
      first | exact hl h1 | exact absurd h1 (by decide)
    · unfold RFd
      try simp (disch := omega) only [uF_e, uF_o, uF_k, uG_e, uG_o, uN_e, uN_k, true_or, or_true]
      exact hd
theorem p_has_b (hC : CT S r q T M π μ) (hF : RF π B e w o F N) {a b : Int} (ha : 0 ≤ a ∧ a ≤ 9) (hbb : 0 ≤ b ∧ b ≤ 9) : ∀ (d : Nat) (j : Int) (f1 f2 : Nat), 0 ≤ j → j + d = F 2 2 → d < f1 → d < f2 → ∃ v, (v = 0 ∨ v = 1) ∧ f_X8_has_p1_2_b2 r f1 (sR S r F) a b j = some (v, sR S r F) ∧ f_X12_hasRule_p4_0_b2 M f2 (wA T M 6 N) a b j = some (v, wA T M 6 N) := by
  obtain ⟨hs, hr, hb, hu, hq, ht, hw, hp, hg, hl, hd⟩ := hF
  obtain ⟨e0, e1, e2, e3, e4, e5, e6, e7, e8, e9, e10, e11, e15, e16, e17, e18, e19, e20, e21, e22, e23, e24, e34, e42, x1, x2, x3⟩ := id hs
  obtain ⟨r0, r1, r2, r3, r4, r5, r6, r7, r8, r9, r10, r11, r12, r13, r14⟩ := id hr
  obtain ⟨p0, p1, p2, p3, p4, p5, p6, p7, p8, p9, p10⟩ := id (ct_R hC)
  obtain ⟨m1, m2, m3, m4, m5, m6⟩ := id (ct_M hC)
  intro d
  induction d with
  | zero =>
    intro j f1 f2 h0 h hf1 hf2
    obtain ⟨f1, rfl⟩ := fs_e (show 0 < f1 by omega)
    obtain ⟨f2, rfl⟩ := fs_e (show 0 < f2 by omega)
    refine ⟨0, Or.inl rfl, ?_, ?_⟩
    · rw [f_X8_has_p1_2_b2]
      simp (disch := omega) only [lt1_e, bd_e, bd2_e, sR_g, sR_w, sR_a, sR_s, wN_g, wN_w, wN_s, ct_p hC, ct_q hC, ct_m hC, ckI_e, wr_e, ite_not, uF_e, uF_o, uF_k, uG_e, uG_o, uN_e, uN_k]
      rw [if_pos (by omega)]
    · rw [f_X12_hasRule_p4_0_b2]
      simp (disch := omega) only [lt1_e, bd_e, bd2_e, sR_g, sR_w, sR_a, sR_s, wN_g, wN_w, wN_s, ct_p hC, ct_q hC, ct_m hC, ckI_e, wr_e, ite_not, uF_e, uF_o, uF_k, uG_e, uG_o, uN_e, uN_k, e34]
      rw [if_pos (by omega)]
  | succ d ih =>
    intro j f1 f2 h0 h hf1 hf2
    obtain ⟨f1, rfl⟩ := fs_e (show 0 < f1 by omega)
    obtain ⟨f2, rfl⟩ := fs_e (show 0 < f2 by omega)
    obtain ⟨v, hv, i1, i2⟩ := ih (j + 1) f1 f2 (by omega) (by omega) (by omega) (by omega)
    obtain ⟨g1, g2, g3⟩ := hu j.toNat (by omega)
    have ej : (35 + j).toNat = 35 + j.toNat := by omega
    rw [f_X8_has_p1_2_b2, f_X12_hasRule_p4_0_b2]
    simp (disch := omega) only [lt1_e, bd_e, bd2_e, sR_g, sR_w, sR_a, sR_s, wN_g, wN_w, wN_s, ct_p hC, ct_q hC, ct_m hC, ckI_e, wr_e, ite_not, uF_e, uF_o, uF_k, uG_e, uG_o, uN_e, uN_k, e34, ej, g1]
    have c0 : ¬ F 2 2 ≤ j := by omega
    simp only [if_neg c0]
    by_cases c : F 3 j.toNat = a
    · rw [if_pos c]
      by_cases c2 : F 4 j.toNat = b
      · rw [if_pos c2, if_pos (by omega)]
        exact ⟨1, Or.inr rfl, rfl, rfl⟩
      · rw [if_neg c2, if_neg (by omega)]
        exact ⟨v, hv, i1, i2⟩
    · rw [if_neg c, if_neg (by omega)]
      exact ⟨v, hv, i1, i2⟩
theorem p_has (hC : CT S r q T M π μ) (hF : RF π B e w o F N) {a b : Int} (ha : 0 ≤ a ∧ a ≤ 9) (hbb : 0 ≤ b ∧ b ≤ 9) : ∃ v, (v = 0 ∨ v = 1) ∧ f_X8_has_p1_2 (sR S r F) r a b = some (v, sR S r F) ∧ f_X12_hasRule_p4_0 (wA T M 6 N) M a b = some (v, wA T M 6 N) := by
  have h1 := ct_fS hC
  have h2 := ct_fT hC
  have h3 := hF.2.1.2.2.2.2.2.2.2.2.2.2.2.2.2.1
  exact p_has_b hC hF ha hbb (F 2 2).toNat 0 _ _ (by omega) (by omega) (by rw [sR_fu]; omega) (by rw [wN_fu]; omega)
theorem p_win (hC : CT S r q T M π μ) (a : Int) : f_X5_windowOf_p2_0 (sR S r F) q a = some (Int.tdiv (wr a) (π 1 1), sR S r F) ∧ f_X12_windowOf_p4_0 (wA T M 6 N) M a = some (Int.tdiv (wr a) (π 1 1), wA T M 6 N) := by
  have p2 := (ct_R hC).2.2.1
  have m2 := (ct_M hC).2.1
  constructor
  · unfold f_X5_windowOf_p2_0
    simp (disch := omega) only [ct_q hC, wr_e (z := π 1 1), ckZ_e]
    rw [if_neg (by omega)]
  · unfold f_X12_windowOf_p4_0
    simp (disch := omega) only [ct_m hC, m2, wr_e (z := π 1 1), ckZ_e]
theorem p_fuse (hC : CT S r q T M π μ) (hF : RF π B e w o F N) {k : Int} (hk : 0 ≤ k ∧ k < π 0 10) : ∃ v, (v = 0 ∨ v = 1) ∧ (v = 1 → k + 1 < π 0 10) ∧ f_X0_fusesWithNext_p1_0 (sR S r F) r k = some (v, sR S r F) ∧ f_X12_doesFuse_p4_0 (wA T M 6 N) M k = some (v, wA T M 6 N) := by
  have p0 := pr_n (ct_R hC)
  have m1 := (ct_M hC).1
  unfold f_X0_fusesWithNext_p1_0 f_X12_doesFuse_p4_0
  simp (disch := omega) only [lt1_e, bd_e, bd2_e, sR_g, sR_w, sR_a, sR_s, wN_g, wN_w, wN_s, ct_p hC, ct_q hC, ct_m hC, ckI_e, wr_e, ite_not, uF_e, uF_o, uF_k, uG_e, uG_o, uN_e, uN_k, m1]
  rw [if_neg (by omega)]
  by_cases c : π 0 10 ≤ k + 1
  · rw [if_pos c, if_pos c]
    exact ⟨0, Or.inl rfl, fun h => absurd h (by decide), rfl, rfl⟩
  · rw [if_neg c, if_neg c]
    have hk1 : (k.toNat : Int) < π 0 10 := by omega
    have hk2 : ((k + 1).toNat : Int) < π 0 10 := by omega
    have g1 := pr_k (ct_R hC) hk1
    have g2 := pr_k (ct_R hC) hk2
    obtain ⟨a1, a2, a3, a4⟩ := pm_k (ct_M hC) hk1
    obtain ⟨b1, b2, b3, b4⟩ := pm_k (ct_M hC) hk2
    have s1 := pm_s (ct_M hC) (show (k.toNat : Int) ≤ π 0 10 by omega)
    have s2 := pm_s (ct_M hC) (show ((k + 1).toNat : Int) ≤ π 0 10 by omega)
    obtain ⟨v, hv, i1, i2⟩ := p_has hC hF g1.1 g2.1
    simp only [a1, a2, b1, b2, s1, s2, i1, i2, bd2_e]
    have l1 := g1.2.1
    have l2 := g2.2.1
    rw [wr_e (z := π 6 k.toNat) (by omega), wr_e (z := π 6 (k + 1).toNat) (by omega), wr_e (z := v) (by omega)]
    simp (disch := omega) only [(p_win (F := F) (N := N) hC _).1, (p_win (F := F) (N := N) hC _).2, bd2_e, ct_q hC, ct_m hC, s1, s2, a2, b2, ct_p hC, ckI_e, wr_e (z := 1)]
    have hn : k + 1 < π 0 10 := by omega
    rw [wr_e (z := π 6 k.toNat) (by omega), wr_e (z := π 6 (k + 1).toNat) (by omega)]
    by_cases d1 : π 6 k.toNat = 0
    · by_cases d2 : π 6 (k + 1).toNat = 0
      · rw [if_pos d1, if_pos d2]
        by_cases d3 : v = 0
        · rw [if_pos d3, if_pos d3]
          exact ⟨0, Or.inl rfl, fun h => absurd h (by decide), rfl, rfl⟩
        · rw [if_neg d3, if_neg d3, if_neg (show ¬ π 6 k.toNat = 1 by omega), if_neg (show ¬ π 6 (k + 1).toNat = 1 by omega)]
          by_cases d4 : wr (Int.tdiv (wr (π 9 k.toNat)) (π 1 1)) = wr (Int.tdiv (wr (π 9 (k + 1).toNat)) (π 1 1))
          · rw [if_pos d4, if_pos d4]
            exact ⟨1, Or.inr rfl, fun _ => hn, rfl, rfl⟩
          · rw [if_neg d4, if_neg d4]
            exact ⟨0, Or.inl rfl, fun h => absurd h (by decide), rfl, rfl⟩
      · rw [if_pos d1, if_neg d2]
        refine ⟨0, Or.inl rfl, fun h => absurd h (by decide), rfl, ?_⟩
        by_cases d3 : v = 0
        · rw [if_pos d3]
        · rw [if_neg d3, if_neg (show ¬ π 6 k.toNat = 1 by omega), if_pos (show π 6 (k + 1).toNat = 1 by omega)]
    · rw [if_neg d1]
      refine ⟨0, Or.inl rfl, fun h => absurd h (by decide), rfl, ?_⟩
      by_cases d3 : v = 0
      · rw [if_pos d3]
      · rw [if_neg d3, if_pos (show π 6 k.toNat = 1 by omega)]

end C1
