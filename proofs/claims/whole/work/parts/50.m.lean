/-! mathematics: fetching, and a cycle -/
section D2
variable {S T : xSt} {r q M : Nat} {π μ F : xR} {N : Nat → Int} {B e w o : Int}

theorem p_start (hC : CT S r q T M π μ) {a : Int} (ha : 0 ≤ a ∧ a ≤ π 0 10) : f_X5_startOf_p2_0 (sR S r F) q a = some (π 9 a.toNat, sR S r F) := by
  have p0 := pr_n (ct_R hC)
  unfold f_X5_startOf_p2_0
  simp (disch := omega) only [lt1_e, bd_e, bd2_e, sR_g, sR_w, sR_a, sR_s, wN_g, wN_w, wN_s, ct_p hC, ct_q hC, ct_m hC, ckI_e, wr_e, ite_not, uF_e, uF_o, uF_k, uG_e, uG_o, uN_e, uN_k]
  rw [if_neg (show ¬ a < 0 by omega), if_neg (show ¬ π 0 10 < a by omega)]
theorem q_read (hC : CT S r q T M π μ) (hF : RF π B e w o F N) (X : Int) : RF π B e w o (uF (uF (uF (uF F 0 12 X) 0 13 0) 0 11 0) 15 4 (F 15 4 + 1)) (uN (uN (uN (uN N 5 X) 10 0) 4 0) 20 (N 20 + 1)) := by
  obtain ⟨hs, hr, hb, hu, hq, ht, hw, hp, hg, hl, hd⟩ := hF
  obtain ⟨e0, e1, e2, e3, e4, e5, e6, e7, e8, e9, e10, e11, e15, e16, e17, e18, e19, e20, e21, e22, e23, e24, e34, e42, x1, x2, x3⟩ := id hs
  obtain ⟨r0, r1, r2, r3, r4, r5, r6, r7, r8, r9, r10, r11, r12, r13, r14⟩ := id hr
  obtain ⟨p0, p1, p2, p3, p4, p5, p6, p7, p8, p9, p10⟩ := id (ct_R hC)
  obtain ⟨m1, m2, m3, m4, m5, m6⟩ := id (ct_M hC)
  refine ⟨?_, ?_, ?_, ?_, ?_, ?_, ?_, ?_, ?_, ?_, ?_⟩
  · unfold RFs
    refine ⟨?_, ?_, ?_, ?_, ?_, ?_, ?_, ?_, ?_, ?_, ?_, ?_, ?_, ?_, ?_, ?_, ?_, ?_, ?_, ?_, ?_, ?_, ?_, ?_, ?_, ?_, ?_⟩ <;> (try simp (disch := omega) only [uF_e, uF_o, uF_k, uG_e, uG_o, uN_e, uN_k, true_or, or_true]) <;> omega
  · unfold RFr
    refine ⟨?_, ?_, ?_, ?_, ?_, ?_, ?_, ?_, ?_, ?_, ?_, ?_, ?_, ?_, ?_⟩ <;> (try simp (disch := omega) only [uF_e, uF_o, uF_k, uG_e, uG_o, uN_e, uN_k, true_or, or_true]) <;> omega
  · intro c h1 h2
    try simp (disch := omega) only [uF_e, uF_o, uF_k, uG_e, uG_o, uN_e, uN_k, true_or, or_true]
    exact hb c h1 h2
  · intro j hj
    try simp (disch := omega) only [uF_e, uF_o, uF_k, uG_e, uG_o, uN_e, uN_k, true_or, or_true] at hj
    try simp (disch := omega) only [uF_e, uF_o, uF_k, uG_e, uG_o, uN_e, uN_k, true_or, or_true]
    exact hu j hj
  · intro j hj
    try simp (disch := omega) only [uF_e, uF_o, uF_k, uG_e, uG_o, uN_e, uN_k, true_or, or_true] at hj
    try simp (disch := omega) only [uF_e, uF_o, uF_k, uG_e, uG_o, uN_e, uN_k, true_or, or_true]
    first | exact hq j hj | exact absurd hj (by omega)
  · intro k hk h9
    try simp (disch := omega) only [uF_e, uF_o, uF_k, uG_e, uG_o, uN_e, uN_k, true_or, or_true]
    exact ht k hk h9
  · intro k hk
    try simp (disch := omega) only [uF_e, uF_o, uF_k, uG_e, uG_o, uN_e, uN_k, true_or, or_true]
    exact hw k hk
  · intro k hk
    try simp (disch := omega) only [uF_e, uF_o, uF_k, uG_e, uG_o, uN_e, uN_k, true_or, or_true]
    exact hp k hk
  · intro k hk h2
    try simp (disch := omega) only [uF_e, uF_o, uF_k, uG_e, uG_o, uN_e, uN_k, true_or, or_true] at h2
    try simp (disch := omega) only [uF_e, uF_o, uF_k, uG_e, uG_o, uN_e, uN_k, true_or, or_true]
    exact hg k hk h2
  · intro h1
    try simp (disch := omega) only [uF_e, uF_o, uF_k, uG_e, uG_o, uN_e, uN_k, true_or, or_true] at h1
    try simp (disch := omega) only [uF_e, uF_o, uF_k, uG_e, uG_o, uN_e, uN_k, true_or, or_true]
    first | exact hl h1 | exact absurd h1 (by decide)
  · unfold RFd
    try simp (disch := omega) only [uF_e, uF_o, uF_k, uG_e, uG_o, uN_e, uN_k, true_or, or_true]
    exact hd
theorem p_read (hC : CT S r q T M π μ) (hF : RF π B e w o F N) (hpl : F 0 10 < π 0 10) : ∃ F' N', f_X0_readWindow_p1_0 (sR S r F) r = some (sR S r F') ∧ f_X12_reads_p4_0 (wA T M 6 N) M = some (wA T M 6 N') ∧ RF π B e w o F' N' ∧ (∀ k, F' 8 k = F 8 k) := by
  have p0 := (ct_R hC).1
  have m2 := (ct_M hC).2.1
  have e3 := hF.1.2.2.2.1
  have e4 := hF.1.2.2.2.2.1
  have e5 := hF.1.2.2.2.2.2.1
  have e10 := hF.1.2.2.2.2.2.2.2.2.2.2.1
  have e20 := hF.1.2.2.2.2.2.2.2.2.2.2.2.2.2.2.2.2.2.1
  have r3 := hF.2.1.2.2.2.1
  have r4 := hF.2.1.2.2.2.2.1
  have r5 := hF.2.1.2.2.2.2.2.1
  have x1 := hF.1.2.2.2.2.2.2.2.2.2.2.2.2.2.2.2.2.2.2.2.2.2.2.2.2.1
  have s1 := pm_s (ct_M hC) (show ((F 0 10).toNat : Int) ≤ π 0 10 by omega)
  have hu0 : N 10 = 0 → ∀ X, uN (uN N 5 X) 10 0 = uN N 5 X := by
    intro h X
    funext j
    by_cases c : j = 10
    · subst c
      rw [uN_e, uN_k (by decide), h]
    · rw [uN_k c]
  obtain ⟨W1, W2⟩ := p_win (F := F) (N := N) hC (π 9 (F 0 10).toNat)
  unfold f_X0_readWindow_p1_0 f_X0_readWindow_p1_0_b52 f_X0_readWindow_p1_0_b77 f_X12_reads_p4_0 f_X12_reads_p4_0_b71 f_X12_reads_p4_0_b93
  rw [ct_p hC]
  simp only [sR_g]
  rw [p_start hC (by omega)]
  simp only [bd2_e, sR_g, ct_p hC, W1, wN_g, e3, e10, e4, e5, ite_not]
  simp (disch := omega) only [ct_m hC, ckI_e, s1, W2, bd2_e, lt1_e, sR_w, wN_w, m2, sR_g, wN_g, uF_o, uF_k, uN_k, x1, wr_e (z := F 0 10), wr_e (z := F 0 13), wr_e (z := F 0 11), wr_e (z := 1)]
  by_cases c : F 0 13 = 0
  · rw [if_pos c, if_neg (show ¬ F 0 13 = 1 by omega)]
    by_cases c2 : F 0 11 = 0
    · rw [if_pos c2, if_neg (show ¬ F 0 11 = 1 by omega)]
      by_cases c3 : wr (π 9 (F 0 10).toNat) < wr (F 0 12)
      · rw [if_pos c3, if_pos c3]
        exact ⟨F, N, rfl, rfl, hF, fun k => rfl⟩
      · rw [if_neg c3, if_neg c3]
        have k := q_read hC hF (π 1 1 * (Int.tdiv (wr (π 9 (F 0 10).toNat)) (π 1 1) + 1))
        rw [hu0 (by omega)] at k
        exact ⟨_, _, by rw [Int.mul_comm], rfl, k, fun k => by simp (disch := omega) only [uF_e, uF_o, uF_k, uG_e, uG_o, uN_e, uN_k, true_or, or_true]⟩
    · rw [if_neg c2, if_pos (show F 0 11 = 1 by omega)]
      have k := q_read hC hF (π 1 1 * (Int.tdiv (wr (π 9 (F 0 10).toNat)) (π 1 1) + 1))
      rw [hu0 (by omega)] at k
      exact ⟨_, _, by rw [Int.mul_comm], rfl, k, fun k => by simp (disch := omega) only [uF_e, uF_o, uF_k, uG_e, uG_o, uN_e, uN_k, true_or, or_true]⟩
  · rw [if_neg c, if_pos (show F 0 13 = 1 by omega)]
    exact ⟨_, _, rfl, rfl, q_read hC hF (F 0 12 + π 1 1), fun k => by simp (disch := omega) only [uF_e, uF_o, uF_k, uG_e, uG_o, uN_e, uN_k, true_or, or_true]⟩
theorem p_pred (hC : CT S r q T M π μ) (hF : RF π B e w o F N) {k : Int} (hk : 0 ≤ k ∧ k < π 0 10) : ∃ v, (v = 0 ∨ v = 1) ∧ (v = 1 → 8 ≤ π 5 k.toNat) ∧ f_X0_predictsTaken_p1_0 (sR S r F) r k = some (v, sR S r F) ∧ f_X12_predicts_p4_0 (wA T M 6 N) M k = some (v, wA T M 6 N) := by
  have p0 := (ct_R hC).1
  have ht := hF.2.2.2.2.2.1
  have hw := hF.2.2.2.2.2.2.1
  have hk1 : (k.toNat : Int) < π 0 10 := by omega
  have k1 := (pr_k (ct_R hC) hk1).1
  have a1 := (pm_k (ct_M hC) hk1).1
  have w1 := hw k.toNat (by omega)
  have ea : (143 + k).toNat = 143 + k.toNat := by omega
  have wz := w1.1
  unfold f_X0_predictsTaken_p1_0 f_X12_predicts_p4_0
  simp (disch := omega) only [lt1_e, bd_e, bd2_e, sR_g, sR_w, sR_a, sR_s, wN_g, wN_w, wN_s, ct_p hC, ct_q hC, ct_m hC, ckI_e, wr_e, ite_not, uF_e, uF_o, uF_k, uG_e, uG_o, uN_e, uN_k, a1, ea]
  rw [if_neg (show ¬ k < 0 by omega), if_pos hk.2]
  by_cases c : π 5 k.toNat = 8
  · rw [if_pos c, if_pos c]
    exact ⟨1, Or.inr rfl, fun _ => by omega, rfl, rfl⟩
  · rw [if_neg c, if_neg c]
    by_cases c9 : π 5 k.toNat = 9
    · have t1 := (ht k.toNat hk1 c9).2.1
      rw [if_pos c9, t1]
      simp (disch := omega) only [lt1_e, bd_e, bd2_e, sR_g, sR_w, sR_a, sR_s, wN_g, wN_w, wN_s, ct_p hC, ct_q hC, ct_m hC, ckI_e, wr_e, ite_not, uF_e, uF_o, uF_k, uG_e, uG_o, uN_e, uN_k]
      by_cases d : F 19 k.toNat = 0
      · rw [if_pos d, if_neg (show ¬ F 19 k.toNat = 1 by omega)]
        exact ⟨0, Or.inl rfl, fun h => absurd h (by decide), rfl, rfl⟩
      · rw [if_neg d, if_pos (show F 19 k.toNat = 1 by omega)]
        exact ⟨1, Or.inr rfl, fun _ => by omega, rfl, rfl⟩
    · have d := w1.2 hk1 (by omega)
      rw [if_neg c9, if_pos d]
      exact ⟨0, Or.inl rfl, fun h => absurd h (by decide), rfl, rfl⟩
theorem q_cut (hC : CT S r q T M π μ) (hF : RF π B e w o F N) : RF π B e w o (uF (uF F 0 13 1) 15 5 (F 15 5 + 1)) (uN (uN N 10 1) 21 (N 21 + 1)) := by
  obtain ⟨hs, hr, hb, hu, hq, ht, hw, hp, hg, hl, hd⟩ := hF
  obtain ⟨e0, e1, e2, e3, e4, e5, e6, e7, e8, e9, e10, e11, e15, e16, e17, e18, e19, e20, e21, e22, e23, e24, e34, e42, x1, x2, x3⟩ := id hs
  obtain ⟨r0, r1, r2, r3, r4, r5, r6, r7, r8, r9, r10, r11, r12, r13, r14⟩ := id hr
  obtain ⟨p0, p1, p2, p3, p4, p5, p6, p7, p8, p9, p10⟩ := id (ct_R hC)
  obtain ⟨m1, m2, m3, m4, m5, m6⟩ := id (ct_M hC)
  refine ⟨?_, ?_, ?_, ?_, ?_, ?_, ?_, ?_, ?_, ?_, ?_⟩
  · unfold RFs
    refine ⟨?_, ?_, ?_, ?_, ?_, ?_, ?_, ?_, ?_, ?_, ?_, ?_, ?_, ?_, ?_, ?_, ?_, ?_, ?_, ?_, ?_, ?_, ?_, ?_, ?_, ?_, ?_⟩ <;> (try simp (disch := omega) only [uF_e, uF_o, uF_k, uG_e, uG_o, uN_e, uN_k, true_or, or_true]) <;> omega
  · unfold RFr
    refine ⟨?_, ?_, ?_, ?_, ?_, ?_, ?_, ?_, ?_, ?_, ?_, ?_, ?_, ?_, ?_⟩ <;> (try simp (disch := omega) only [uF_e, uF_o, uF_k, uG_e, uG_o, uN_e, uN_k, true_or, or_true]) <;> omega
  · intro c h1 h2
    try simp (disch := omega) only [uF_e, uF_o, uF_k, uG_e, uG_o, uN_e, uN_k, true_or, or_true]
    exact hb c h1 h2
  · intro j hj
    try simp (disch := omega) only [uF_e, uF_o, uF_k, uG_e, uG_o, uN_e, uN_k, true_or, or_true] at hj
    try simp (disch := omega) only [uF_e, uF_o, uF_k, uG_e, uG_o, uN_e, uN_k, true_or, or_true]
    exact hu j hj
  · intro j hj
    try simp (disch := omega) only [uF_e, uF_o, uF_k, uG_e, uG_o, uN_e, uN_k, true_or, or_true] at hj
    try simp (disch := omega) only [uF_e, uF_o, uF_k, uG_e, uG_o, uN_e, uN_k, true_or, or_true]
    first | exact hq j hj | exact absurd hj (by omega)
  · intro k hk h9
    try simp (disch := omega) only [uF_e, uF_o, uF_k, uG_e, uG_o, uN_e, uN_k, true_or, or_true]
    exact ht k hk h9
  · intro k hk
    try simp (disch := omega) only [uF_e, uF_o, uF_k, uG_e, uG_o, uN_e, uN_k, true_or, or_true]
    exact hw k hk
  · intro k hk
    try simp (disch := omega) only [uF_e, uF_o, uF_k, uG_e, uG_o, uN_e, uN_k, true_or, or_true]
    exact hp k hk
  · intro k hk h2
    try simp (disch := omega) only [uF_e, uF_o, uF_k, uG_e, uG_o, uN_e, uN_k, true_or, or_true] at h2
    try simp (disch := omega) only [uF_e, uF_o, uF_k, uG_e, uG_o, uN_e, uN_k, true_or, or_true]
    exact hg k hk h2
  · intro h1
    try simp (disch := omega) only [uF_e, uF_o, uF_k, uG_e, uG_o, uN_e, uN_k, true_or, or_true] at h1
    try simp (disch := omega) only [uF_e, uF_o, uF_k, uG_e, uG_o, uN_e, uN_k, true_or, or_true]
    first | exact hl h1 | exact absurd h1 (by decide)
  · unfold RFd
    try simp (disch := omega) only [uF_e, uF_o, uF_k, uG_e, uG_o, uN_e, uN_k, true_or, or_true]
    exact hd
/-- an instruction is marked: its number k, its prediction v, the place behind it y, whether that was set, and a length pause -/
theorem q_mark (hC : CT S r q T M π μ) (hF : RF π B e w o F N) {k v y z lp : Int} (hk : 0 ≤ k ∧ k < π 0 10) (hv : v = 0 ∨ v = 1) (hy : 0 ≤ y ∧ y ≤ π 0 10) (hz : z = 0 ∨ z = 1) (hlp : 0 ≤ lp ∧ lp ≤ 3) (h5 : F 5 2 < π 1 2) :
    RF π B e w o (uF (uF (uF (uF (uF (uF F 6 (F 5 2).toNat k) 7 (F 5 2).toNat v) 5 2 (F 5 2 + 1)) 0 10 y) 0 11 z) 0 16 lp) (uN (uN (uN (uN (uN (uN N (43 + (F 5 2).toNat) k) (63 + (F 5 2).toNat) v) 42 (F 5 2 + 1)) 3 y) 4 z) 9 lp) := by
  obtain ⟨hs, hr, hb, hu, hq, ht, hw, hp, hg, hl, hd⟩ := hF
  obtain ⟨e0, e1, e2, e3, e4, e5, e6, e7, e8, e9, e10, e11, e15, e16, e17, e18, e19, e20, e21, e22, e23, e24, e34, e42, x1, x2, x3⟩ := id hs
  obtain ⟨r0, r1, r2, r3, r4, r5, r6, r7, r8, r9, r10, r11, r12, r13, r14⟩ := id hr
  obtain ⟨p0, p1, p2, p3, p4, p5, p6, p7, p8, p9, p10⟩ := id (ct_R hC)
  obtain ⟨m1, m2, m3, m4, m5, m6⟩ := id (ct_M hC)
  refine ⟨?_, ?_, ?_, ?_, ?_, ?_, ?_, ?_, ?_, ?_, ?_⟩
  · unfold RFs
    refine ⟨?_, ?_, ?_, ?_, ?_, ?_, ?_, ?_, ?_, ?_, ?_, ?_, ?_, ?_, ?_, ?_, ?_, ?_, ?_, ?_, ?_, ?_, ?_, ?_, ?_, ?_, ?_⟩ <;> (try simp (disch := omega) only [uF_e, uF_o, uF_k, uG_e, uG_o, uN_e, uN_k, true_or, or_true]) <;> omega
  · unfold RFr
    refine ⟨?_, ?_, ?_, ?_, ?_, ?_, ?_, ?_, ?_, ?_, ?_, ?_, ?_, ?_, ?_⟩ <;> (try simp (disch := omega) only [uF_e, uF_o, uF_k, uG_e, uG_o, uN_e, uN_k, true_or, or_true]) <;> omega
  · intro c h1 h2
    try simp (disch := omega) only [uF_e, uF_o, uF_k, uG_e, uG_o, uN_e, uN_k, true_or, or_true]
    exact hb c h1 h2
  · intro j hj
    try simp (disch := omega) only [uF_e, uF_o, uF_k, uG_e, uG_o, uN_e, uN_k, true_or, or_true] at hj
    try simp (disch := omega) only [uF_e, uF_o, uF_k, uG_e, uG_o, uN_e, uN_k, true_or, or_true]
    exact hu j hj
  · intro j hj
    simp (disch := omega) only [uF_e, uF_o, uF_k, uG_e, uG_o, uN_e, uN_k, true_or, or_true] at hj
    by_cases c : j = (F 5 2).toNat
    · subst c
      simp (disch := omega) only [uF_e, uF_o, uF_k, uG_e, uG_o, uN_e, uN_k, true_or, or_true]
      exact ⟨trivial, trivial, hk, hv⟩
    · simp (disch := omega) only [uF_e, uF_o, uF_k, uG_e, uG_o, uN_e, uN_k, true_or, or_true]
      exact hq j (by omega)
  · intro k hk h9
    try simp (disch := omega) only [uF_e, uF_o, uF_k, uG_e, uG_o, uN_e, uN_k, true_or, or_true]
    exact ht k hk h9
  · intro k hk
    try simp (disch := omega) only [uF_e, uF_o, uF_k, uG_e, uG_o, uN_e, uN_k, true_or, or_true]
    exact hw k hk
  · intro k hk
    try simp (disch := omega) only [uF_e, uF_o, uF_k, uG_e, uG_o, uN_e, uN_k, true_or, or_true]
    exact hp k hk
  · intro k hk h2
    try simp (disch := omega) only [uF_e, uF_o, uF_k, uG_e, uG_o, uN_e, uN_k, true_or, or_true] at h2
    try simp (disch := omega) only [uF_e, uF_o, uF_k, uG_e, uG_o, uN_e, uN_k, true_or, or_true]
    exact hg k hk h2
  · intro h1
    try simp (disch := omega) only [uF_e, uF_o, uF_k, uG_e, uG_o, uN_e, uN_k, true_or, or_true] at h1
    try simp (disch := omega) only [uF_e, uF_o, uF_k, uG_e, uG_o, uN_e, uN_k, true_or, or_true]
    first | exact hl h1 | exact absurd h1 (by decide)
  · unfold RFd
    try simp (disch := omega) only [uF_e, uF_o, uF_k, uG_e, uG_o, uN_e, uN_k, true_or, or_true]
    exact hd
end D2
