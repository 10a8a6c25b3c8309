/-! mathematics: where it goes behind a jump or branch -/
section C9
variable {S T : xSt} {r q M : Nat} {π μ F : xR} {N : Nat → Int} {B e w o : Int}

theorem q_wrong (hC : CT S r q T M π μ) (hF : RF π B e w o F N) (c0 : F 8 0 = 0) {y : Int} (hy : 0 ≤ y ∧ y ≤ π 0 10) : RF π B e w o (uF (uF (uF (uF (uF (uF (uF (uF F 15 6 (F 15 6 + 1)) 5 2 0) 0 13 0) 0 16 0) 8 0 0) 0 10 y) 0 11 1) 0 15 4) (uN (uN (uN (uN (uN (uN (uN N 22 (N 22 + 1)) 42 0) 10 0) 9 0) 3 y) 4 1) 8 4) := by
  obtain ⟨hs, hr, hb, hu, hq, ht, hw, hp, hg, hl, hd⟩ := hF
  obtain ⟨e0, e1, e2, e3, e4, e5, e6, e7, e8, e9, e10, e11, e15, e16, e17, e18, e19, e20, e21, e22, e23, e24, e34, e42, x1, x2, x3⟩ := id hs
  obtain ⟨r0, r1, r2, r3, r4, r5, r6, r7, r8, r9, r10, r11, r12, r13, r14⟩ := id hr
  obtain ⟨p0, p1, p2, p3, p4, p5, p6, p7, p8, p9, p10⟩ := id (ct_R hC)
  obtain ⟨m1, m2, m3, m4, m5, m6⟩ := id (ct_M hC)
  refine ⟨?_, ?_, ?_, ?_, ?_, ?_, ?_, ?_, ?_, ?_, ?_⟩
  · unfold RFs
    refine ⟨?_, ?_, ?_, ?_, ?_, ?_, ?_, ?_, ?_, ?_, ?_, ?_, ?_, ?_, ?_, ?_, ?_, ?_, ?_, ?_, ?_, ?_, ?_, ?_, ?_, ?_, ?_⟩ <;> (try simp (disch := omega) only [uF_e, uF_o, uF_k, uG_e, uG_o, uN_e, uN_k, true_or, or_true]) <;> omega
  · unfold RFr
    refine ⟨?_, ?_, ?_, ?_, ?_, ?_, ?_, ?_, ?_, ?_, ?_, ?_, ?_, ?_, ?_⟩ <;> (try simp (disch := omega) only [uF_e, uF_o, uF_k, uG_e, uG_o, uN_e, uN_k, true_or, or_true]) <;> omega
  · intro c h1 h2
    try simp (disch := omega) only [uF_e, uF_o, uF_k, uG_e, uG_o, uN_e, uN_k, true_or, or_true]
    exact hb c h1 h2
  · intro j hj
    try simp (disch := omega) only [uF_e, uF_o, uF_k, uG_e, uG_o, uN_e, uN_k, true_or, or_true] at hj
    try simp (disch := omega) only [uF_e, uF_o, uF_k, uG_e, uG_o, uN_e, uN_k, true_or, or_true]
    exact hu j hj
  · intro j hj
    try simp (disch := omega) only [uF_e, uF_o, uF_k, uG_e, uG_o, uN_e, uN_k, true_or, or_true] at hj
    try simp (disch := omega) only [uF_e, uF_o, uF_k, uG_e, uG_o, uN_e, uN_k, true_or, or_true]
    first | exact hq j hj | exact absurd hj (by omega)
  · intro k hk h9
    try simp (disch := omega) only [uF_e, uF_o, uF_k, uG_e, uG_o, uN_e, uN_k, true_or, or_true]
    exact ht k hk h9
  · intro k hk
    try simp (disch := omega) only [uF_e, uF_o, uF_k, uG_e, uG_o, uN_e, uN_k, true_or, or_true]
    exact hw k hk
  · intro k hk
    try simp (disch := omega) only [uF_e, uF_o, uF_k, uG_e, uG_o, uN_e, uN_k, true_or, or_true]
    exact hp k hk
  · intro k hk h2
    try simp (disch := omega) only [uF_e, uF_o, uF_k, uG_e, uG_o, uN_e, uN_k, true_or, or_true] at h2
    try simp (disch := omega) only [uF_e, uF_o, uF_k, uG_e, uG_o, uN_e, uN_k, true_or, or_true]
    exact hg k hk h2
  · intro h1
    try simp (disch := omega) only [uF_e, uF_o, uF_k, uG_e, uG_o, uN_e, uN_k, true_or, or_true] at h1
    try simp (disch := omega) only [uF_e, uF_o, uF_k, uG_e, uG_o, uN_e, uN_k, true_or, or_true]
    first | exact hl h1 | exact absurd h1 (by decide)
  · unfold RFd
    try simp (disch := omega) only [uF_e, uF_o, uF_k, uG_e, uG_o, uN_e, uN_k, true_or, or_true]
    exact hd
theorem q_begin (hC : CT S r q T M π μ) (hF : RF π B e w o F N) {l : Int} (hl2 : 0 ≤ l ∧ l < π 0 10) (hk : lpk π l.toNat) : RF π B e w o (uF (uF (uF (uF (uF (uF (uF (uF (uF F 15 7 (F 15 7 + 1)) 5 2 0) 0 13 0) 0 16 0) 8 0 1) 8 1 (π 11 l.toNat)) 8 2 l) 8 3 (π 11 l.toNat)) 8 4 (π 12 l.toNat)) (uN (uN (uN (uN (uN (uN (uN (uN N 11 1) 12 (π 11 l.toNat)) 13 l) 14 (π 11 l.toNat)) 23 (N 23 + 1)) 42 0) 10 0) 9 0) := by
  obtain ⟨hs, hr, hb, hu, hq, ht, hw, hp, hg, hl, hd⟩ := hF
  obtain ⟨e0, e1, e2, e3, e4, e5, e6, e7, e8, e9, e10, e11, e15, e16, e17, e18, e19, e20, e21, e22, e23, e24, e34, e42, x1, x2, x3⟩ := id hs
  obtain ⟨r0, r1, r2, r3, r4, r5, r6, r7, r8, r9, r10, r11, r12, r13, r14⟩ := id hr
  obtain ⟨p0, p1, p2, p3, p4, p5, p6, p7, p8, p9, p10⟩ := id (ct_R hC)
  obtain ⟨m1, m2, m3, m4, m5, m6⟩ := id (ct_M hC)
  have pk := pr_k (ct_R hC) (show (l.toNat : Int) < π 0 10 by omega)
  have t1 := pk.2.2.1 hk.1
  have t2 := pk.2.2.2.2.2.2.2.1 hk
  have t3 := hk.2.1
  refine ⟨?_, ?_, ?_, ?_, ?_, ?_, ?_, ?_, ?_, ?_, ?_⟩
  · unfold RFs
    refine ⟨?_, ?_, ?_, ?_, ?_, ?_, ?_, ?_, ?_, ?_, ?_, ?_, ?_, ?_, ?_, ?_, ?_, ?_, ?_, ?_, ?_, ?_, ?_, ?_, ?_, ?_, ?_⟩ <;> (try simp (disch := omega) only [uF_e, uF_o, uF_k, uG_e, uG_o, uN_e, uN_k, true_or, or_true]) <;> omega
  · unfold RFr
    refine ⟨?_, ?_, ?_, ?_, ?_, ?_, ?_, ?_, ?_, ?_, ?_, ?_, ?_, ?_, ?_⟩ <;> (try simp (disch := omega) only [uF_e, uF_o, uF_k, uG_e, uG_o, uN_e, uN_k, true_or, or_true]) <;> omega
  · intro c h1 h2
    try simp (disch := omega) only [uF_e, uF_o, uF_k, uG_e, uG_o, uN_e, uN_k, true_or, or_true]
    exact hb c h1 h2
  · intro j hj
    try simp (disch := omega) only [uF_e, uF_o, uF_k, uG_e, uG_o, uN_e, uN_k, true_or, or_true] at hj
    try simp (disch := omega) only [uF_e, uF_o, uF_k, uG_e, uG_o, uN_e, uN_k, true_or, or_true]
    exact hu j hj
  · intro j hj
    try simp (disch := omega) only [uF_e, uF_o, uF_k, uG_e, uG_o, uN_e, uN_k, true_or, or_true] at hj
    try simp (disch := omega) only [uF_e, uF_o, uF_k, uG_e, uG_o, uN_e, uN_k, true_or, or_true]
    first | exact hq j hj | exact absurd hj (by omega)
  · intro k hk h9
    try simp (disch := omega) only [uF_e, uF_o, uF_k, uG_e, uG_o, uN_e, uN_k, true_or, or_true]
    exact ht k hk h9
  · intro k hk
    try simp (disch := omega) only [uF_e, uF_o, uF_k, uG_e, uG_o, uN_e, uN_k, true_or, or_true]
    exact hw k hk
  · intro k hk
    try simp (disch := omega) only [uF_e, uF_o, uF_k, uG_e, uG_o, uN_e, uN_k, true_or, or_true]
    exact hp k hk
  · intro k hk h2
    try simp (disch := omega) only [uF_e, uF_o, uF_k, uG_e, uG_o, uN_e, uN_k, true_or, or_true] at h2
    try simp (disch := omega) only [uF_e, uF_o, uF_k, uG_e, uG_o, uN_e, uN_k, true_or, or_true]
    exact hg k hk h2
  · intro h1
    simp (disch := omega) only [uF_e, uF_o, uF_k, uG_e, uG_o, uN_e, uN_k, true_or, or_true]
    refine ⟨trivial, trivial, trivial, t1.1, by omega, by omega, by omega, hl2.2, hk.1, ?_⟩
    rw [t2, show l.toNat + 1 - (π 11 l.toNat).toNat = (l + 1 - π 11 l.toNat).toNat by omega]
  · unfold RFd
    try simp (disch := omega) only [uF_e, uF_o, uF_k, uG_e, uG_o, uN_e, uN_k, true_or, or_true]
    exact hd
theorem q_lend (hC : CT S r q T M π μ) (hF : RF π B e w o F N) {y : Int} (hy : 0 ≤ y ∧ y ≤ π 0 10) : RF π B e w o (uF (uF (uF F 8 0 0) 0 10 y) 0 11 1) (uN (uN (uN N 11 0) 3 y) 4 1) := by
  obtain ⟨hs, hr, hb, hu, hq, ht, hw, hp, hg, hl, hd⟩ := hF
  obtain ⟨e0, e1, e2, e3, e4, e5, e6, e7, e8, e9, e10, e11, e15, e16, e17, e18, e19, e20, e21, e22, e23, e24, e34, e42, x1, x2, x3⟩ := id hs
  obtain ⟨r0, r1, r2, r3, r4, r5, r6, r7, r8, r9, r10, r11, r12, r13, r14⟩ := id hr
  obtain ⟨p0, p1, p2, p3, p4, p5, p6, p7, p8, p9, p10⟩ := id (ct_R hC)
  obtain ⟨m1, m2, m3, m4, m5, m6⟩ := id (ct_M hC)
  refine ⟨?_, ?_, ?_, ?_, ?_, ?_, ?_, ?_, ?_, ?_, ?_⟩
  · unfold RFs
    refine ⟨?_, ?_, ?_, ?_, ?_, ?_, ?_, ?_, ?_, ?_, ?_, ?_, ?_, ?_, ?_, ?_, ?_, ?_, ?_, ?_, ?_, ?_, ?_, ?_, ?_, ?_, ?_⟩ <;> (try simp (disch := omega) only [uF_e, uF_o, uF_k, uG_e, uG_o, uN_e, uN_k, true_or, or_true]) <;> omega
  · unfold RFr
    refine ⟨?_, ?_, ?_, ?_, ?_, ?_, ?_, ?_, ?_, ?_, ?_, ?_, ?_, ?_, ?_⟩ <;> (try simp (disch := omega) only [uF_e, uF_o, uF_k, uG_e, uG_o, uN_e, uN_k, true_or, or_true]) <;> omega
  · intro c h1 h2
    try simp (disch := omega) only [uF_e, uF_o, uF_k, uG_e, uG_o, uN_e, uN_k, true_or, or_true]
    exact hb c h1 h2
  · intro j hj
    try simp (disch := omega) only [uF_e, uF_o, uF_k, uG_e, uG_o, uN_e, uN_k, true_or, or_true] at hj
    try simp (disch := omega) only [uF_e, uF_o, uF_k, uG_e, uG_o, uN_e, uN_k, true_or, or_true]
    exact hu j hj
  · intro j hj
    try simp (disch := omega) only [uF_e, uF_o, uF_k, uG_e, uG_o, uN_e, uN_k, true_or, or_true] at hj
    try simp (disch := omega) only [uF_e, uF_o, uF_k, uG_e, uG_o, uN_e, uN_k, true_or, or_true]
    first | exact hq j hj | exact absurd hj (by omega)
  · intro k hk h9
    try simp (disch := omega) only [uF_e, uF_o, uF_k, uG_e, uG_o, uN_e, uN_k, true_or, or_true]
    exact ht k hk h9
  · intro k hk
    try simp (disch := omega) only [uF_e, uF_o, uF_k, uG_e, uG_o, uN_e, uN_k, true_or, or_true]
    exact hw k hk
  · intro k hk
    try simp (disch := omega) only [uF_e, uF_o, uF_k, uG_e, uG_o, uN_e, uN_k, true_or, or_true]
    exact hp k hk
  · intro k hk h2
    try simp (disch := omega) only [uF_e, uF_o, uF_k, uG_e, uG_o, uN_e, uN_k, true_or, or_true] at h2
    try simp (disch := omega) only [uF_e, uF_o, uF_k, uG_e, uG_o, uN_e, uN_k, true_or, or_true]
    exact hg k hk h2
  · intro h1
    simp (disch := omega) only [uF_e, uF_o, uF_k, uG_e, uG_o, uN_e, uN_k, true_or, or_true] at h1
    exact absurd h1 (by decide)
  · unfold RFd
    try simp (disch := omega) only [uF_e, uF_o, uF_k, uG_e, uG_o, uN_e, uN_k, true_or, or_true]
    exact hd
theorem q_lagain (hC : CT S r q T M π μ) (hF : RF π B e w o F N) (c1 : F 8 0 = 1) : RF π B e w o (uF F 8 3 (F 8 1)) (uN N 14 (N 12)) := by
  obtain ⟨hs, hr, hb, hu, hq, ht, hw, hp, hg, hl, hd⟩ := hF
  obtain ⟨e0, e1, e2, e3, e4, e5, e6, e7, e8, e9, e10, e11, e15, e16, e17, e18, e19, e20, e21, e22, e23, e24, e34, e42, x1, x2, x3⟩ := id hs
  obtain ⟨r0, r1, r2, r3, r4, r5, r6, r7, r8, r9, r10, r11, r12, r13, r14⟩ := id hr
  obtain ⟨p0, p1, p2, p3, p4, p5, p6, p7, p8, p9, p10⟩ := id (ct_R hC)
  obtain ⟨m1, m2, m3, m4, m5, m6⟩ := id (ct_M hC)
  obtain ⟨l1, l2, l3, l4, l5, l6, l7, l8, l9, l10⟩ := hl c1
  refine ⟨?_, ?_, ?_, ?_, ?_, ?_, ?_, ?_, ?_, ?_, ?_⟩
  · unfold RFs
    refine ⟨?_, ?_, ?_, ?_, ?_, ?_, ?_, ?_, ?_, ?_, ?_, ?_, ?_, ?_, ?_, ?_, ?_, ?_, ?_, ?_, ?_, ?_, ?_, ?_, ?_, ?_, ?_⟩ <;> (try simp (disch := omega) only [uF_e, uF_o, uF_k, uG_e, uG_o, uN_e, uN_k, true_or, or_true]) <;> omega
  · unfold RFr
    refine ⟨?_, ?_, ?_, ?_, ?_, ?_, ?_, ?_, ?_, ?_, ?_, ?_, ?_, ?_, ?_⟩ <;> (try simp (disch := omega) only [uF_e, uF_o, uF_k, uG_e, uG_o, uN_e, uN_k, true_or, or_true]) <;> omega
  · intro c h1 h2
    try simp (disch := omega) only [uF_e, uF_o, uF_k, uG_e, uG_o, uN_e, uN_k, true_or, or_true]
    exact hb c h1 h2
  · intro j hj
    try simp (disch := omega) only [uF_e, uF_o, uF_k, uG_e, uG_o, uN_e, uN_k, true_or, or_true] at hj
    try simp (disch := omega) only [uF_e, uF_o, uF_k, uG_e, uG_o, uN_e, uN_k, true_or, or_true]
    exact hu j hj
  · intro j hj
    try simp (disch := omega) only [uF_e, uF_o, uF_k, uG_e, uG_o, uN_e, uN_k, true_or, or_true] at hj
    try simp (disch := omega) only [uF_e, uF_o, uF_k, uG_e, uG_o, uN_e, uN_k, true_or, or_true]
    first | exact hq j hj | exact absurd hj (by omega)
  · intro k hk h9
    try simp (disch := omega) only [uF_e, uF_o, uF_k, uG_e, uG_o, uN_e, uN_k, true_or, or_true]
    exact ht k hk h9
  · intro k hk
    try simp (disch := omega) only [uF_e, uF_o, uF_k, uG_e, uG_o, uN_e, uN_k, true_or, or_true]
    exact hw k hk
  · intro k hk
    try simp (disch := omega) only [uF_e, uF_o, uF_k, uG_e, uG_o, uN_e, uN_k, true_or, or_true]
    exact hp k hk
  · intro k hk h2
    try simp (disch := omega) only [uF_e, uF_o, uF_k, uG_e, uG_o, uN_e, uN_k, true_or, or_true] at h2
    try simp (disch := omega) only [uF_e, uF_o, uF_k, uG_e, uG_o, uN_e, uN_k, true_or, or_true]
    exact hg k hk h2
  · intro h1
    simp (disch := omega) only [uF_e, uF_o, uF_k, uG_e, uG_o, uN_e, uN_k, true_or, or_true]
    exact ⟨l1, l2, l1, l4, by omega, by omega, l7, l8, l9, l10⟩
  · unfold RFd
    try simp (disch := omega) only [uF_e, uF_o, uF_k, uG_e, uG_o, uN_e, uN_k, true_or, or_true]
    exact hd
set_option maxHeartbeats 4000000 in
theorem p_follow (hC : CT S r q T M π μ) (hF : RF π B e 0 0 F N) {l lane pd pm : Int} (hl2 : 0 ≤ l ∧ l < π 0 10) (hlane : 0 ≤ lane ∧ lane < F 1 0) (hpd : pd = 0 ∨ pd = 1) (hpm : pm = 0 ∨ pm = 1) (hp0 : F 8 0 = 0 → pd = pm) (hx : F 8 0 = 1 → F 8 3 = l + 1 ∧ l ≤ F 8 2) :
    ∃ c F' N' L', f_X0_follow_p1_0 (sR S r F) r l pd = some (c, sR S r F') ∧ f_X12_decodesAt_p4_0_b231 M (wA T M 6 N) lane l pm = some (L', wA T M 6 N') ∧ (F' 8 0 = 1 → F' 8 3 ≤ F' 8 2) ∧ (∀ k, F' 1 k = F 1 k) ∧ ((c = 0 ∧ L' = lane + 1 ∧ RF π B e 0 0 F' N') ∨ ((1 ≤ c ∧ c ≤ 8) ∧ L' = F 1 0 ∧ RF π B e 0 0 (uF F' 16 c.toNat (F' 16 c.toNat + (F 1 0 - (lane + 1)))) N')) := by
  have p0 := (ct_R hC).1
  have r0 := hF.2.1.1
  have r10 := hF.2.1.2.2.2.2.2.2.2.2.2.2.1
  have ht := hF.2.2.2.2.2.1
  have hl := hF.2.2.2.2.2.2.2.2.2.1
  have hk1 : (l.toNat : Int) < π 0 10 := by omega
  have pk := pr_k (ct_R hC) hk1
  have k1 := pk.1
  have a3 := (pm_k (ct_M hC) hk1).2.2.1
  unfold f_X12_decodesAt_p4_0_b231
  rw [p_turn hC hl2]
  simp only [bd2_e]
  by_cases c8 : 8 ≤ π 5 l.toNat
  · have hG : RF π B e 0 0 (uF (uF (uG F 10 (gtF π (F 10) l.toNat)) 19 l.toNat (gtV π (F 10) l.toNat)) 0 9 (if (gtV π (F 10) l.toNat) = 0 then F 0 9 else l)) (if (gtV π (F 10) l.toNat) = 0 then (if π 5 l.toNat = 9 then uN (uN N (83 + l.toNat) (if F 10 l.toNat < π 8 l.toNat then F 10 l.toNat + 1 else 0)) (143 + l.toNat) (gtV π (F 10) l.toNat) else N) else uN (if π 5 l.toNat = 9 then uN (uN N (83 + l.toNat) (if F 10 l.toNat < π 8 l.toNat then F 10 l.toNat + 1 else 0)) (143 + l.toNat) (gtV π (F 10) l.toNat) else N) 15 l) := p_tn hC hF hl2 c8
    have hT : f_X12_turns_p4_0 (wA T M 6 N) M l = some (gtV π (F 10) l.toNat, wA T M 6 (if π 5 l.toNat = 9 then uN (uN N (83 + l.toNat) (if F 10 l.toNat < π 8 l.toNat then F 10 l.toNat + 1 else 0)) (143 + l.toNat) (gtV π (F 10) l.toNat) else N)) := p_turns hC hF hl2 c8
    have hgt := p_gt10 (F := F) hC hl2 (fun h => by have := ht l.toNat hk1 h; omega)
    have hv := gtV_z (π := π) (t := F 10) (k := l.toNat)
    have t11 := pk.2.2.1 c8
    rw [if_pos c8, wr_e (by decide), if_pos (show ¬ (1 : Int) = 0 by decide), p_rep hC hF]
    simp only [bd2_e]
    rw [wr_e (z := F 8 0) (by omega)]
    generalize gtV π (F 10) l.toNat = v at hG hT hgt hv
    have hA : f_X0_follow_p1_0 (sR S r F) r l pd = f_X0_follow_p1_0_b83 r (sR S r (uF (uG F 10 (gtF π (F 10) l.toNat)) 19 l.toNat v)) l pd v (if v = 0 then 0 else if wr (F 0 9) = l then 1 else 0) (if v = 0 then F 0 9 else l) := by
      unfold f_X0_follow_p1_0 f_X0_follow_p1_0_b60 f_X0_follow_p1_0_b61
      simp (disch := omega) only [lt1_e, bd_e, bd2_e, sR_g, sR_w, sR_a, sR_s, wN_g, wN_w, wN_s, ct_p hC, ct_q hC, ct_m hC, ckI_e, wr_e, ite_not, uF_e, uF_o, uF_k, uG_e, uG_o, uN_e, uN_k]
      rw [if_neg (show ¬ l < 0 by omega), if_neg (show ¬ π 0 10 ≤ l by omega), if_pos c8, hgt]
      simp only [bd2_e]
      simp (disch := omega) only [lt1_e, bd_e, bd2_e, sR_g, sR_w, sR_a, sR_s, wN_g, wN_w, wN_s, ct_p hC, ct_q hC, ct_m hC, ckI_e, wr_e, ite_not, uF_e, uF_o, uF_k, uG_e, uG_o, uN_e, uN_k]
      rcases hv with rfl | rfl
      · simp only [if_pos, ckB_e (show (0 : Int) = 0 ∨ (0 : Int) = 1 from Or.inl rfl)]
      · simp only [if_neg (show ¬ (1 : Int) = 0 by decide), ckB_e (show (1 : Int) = 0 ∨ (1 : Int) = 1 from Or.inr rfl)]
        by_cases c : wr (F 0 9) = l
        · simp only [if_pos c]
        · simp only [if_neg c]
    have e15 := hF.1.2.2.2.2.2.2.2.2.2.2.2.2.1
    have hTN15 : (if π 5 l.toNat = 9 then uN (uN N (83 + l.toNat) (if F 10 l.toNat < π 8 l.toNat then F 10 l.toNat + 1 else 0)) (143 + l.toNat) v else N) 15 = F 0 9 := by
      split
      · rw [uN_k (by omega), uN_k (by omega), e15]
      · exact e15
    have hQ : f_X12_turnsInQueue_p4_0 (wA T M 6 N) M l pm lane = f_X12_turnsInQueue_p4_0_b38 M (wA T M 6 (if v = 0 then (if π 5 l.toNat = 9 then uN (uN N (83 + l.toNat) (if F 10 l.toNat < π 8 l.toNat then F 10 l.toNat + 1 else 0)) (143 + l.toNat) v else N) else uN (if π 5 l.toNat = 9 then uN (uN N (83 + l.toNat) (if F 10 l.toNat < π 8 l.toNat then F 10 l.toNat + 1 else 0)) (143 + l.toNat) v else N) 15 l)) l pm lane v (if wr (F 0 9) = l then 1 else 0) := by
      unfold f_X12_turnsInQueue_p4_0 f_X12_turnsInQueue_p4_0_b23
      rw [hT]
      simp only [bd2_e, wN_g, ite_not, wN_w, lt1_e]
      rw [hTN15, wr_e (z := l) (by omega)]
      rcases hv with rfl | rfl
      · rw [wr_e (z := 0) (by decide)]
        simp only [if_pos]
        by_cases c : wr (F 0 9) = l
        · simp only [if_pos c]
        · simp only [if_neg c]
      · rw [wr_e (z := 1) (by decide)]
        simp only [if_neg (show ¬ (1 : Int) = 0 by decide)]
        by_cases c : wr (F 0 9) = l
        · simp only [if_pos c]
        · simp only [if_neg c]
    have hL : f_X12_turnsInLoop_p4_0 (wA T M 6 N) M l lane = if v = 0 then (bd (f_X12_sets_p4_0 (wI (wA T M 6 (if v = 0 then (if π 5 l.toNat = 9 then uN (uN N (83 + l.toNat) (if F 10 l.toNat < π 8 l.toNat then F 10 l.toNat + 1 else 0)) (143 + l.toNat) v else N) else uN (if π 5 l.toNat = 9 then uN (uN N (83 + l.toNat) (if F 10 l.toNat < π 8 l.toNat then F 10 l.toNat + 1 else 0)) (143 + l.toNat) v else N) 15 l)) M 6 11 0) M (l + 1)) fun S7 => bd2 (f_X12_stops_p4_0 S7 M (lane + 1) 7) fun v10 S9 => some (v10, S9)) else some (lane + 1, wI (wA T M 6 (if v = 0 then (if π 5 l.toNat = 9 then uN (uN N (83 + l.toNat) (if F 10 l.toNat < π 8 l.toNat then F 10 l.toNat + 1 else 0)) (143 + l.toNat) v else N) else uN (if π 5 l.toNat = 9 then uN (uN N (83 + l.toNat) (if F 10 l.toNat < π 8 l.toNat then F 10 l.toNat + 1 else 0)) (143 + l.toNat) v else N) 15 l)) M 6 14 (gI (wA T M 6 (if v = 0 then (if π 5 l.toNat = 9 then uN (uN N (83 + l.toNat) (if F 10 l.toNat < π 8 l.toNat then F 10 l.toNat + 1 else 0)) (143 + l.toNat) v else N) else uN (if π 5 l.toNat = 9 then uN (uN N (83 + l.toNat) (if F 10 l.toNat < π 8 l.toNat then F 10 l.toNat + 1 else 0)) (143 + l.toNat) v else N) 15 l)) M 6 12)) := by
      unfold f_X12_turnsInLoop_p4_0
      rw [hT]
      simp only [bd2_e]
      rcases hv with rfl | rfl
      · rw [wr_e (by decide), if_pos rfl, if_pos rfl, if_pos rfl]
        rfl
      · rw [wr_e (z := 1) (by decide)]
        simp only [if_neg (show ¬ (1 : Int) = 0 by decide), lt1_e, wN_w]
    have hG8 : ∀ k, (uF (uF (uG F 10 (gtF π (F 10) l.toNat)) 19 l.toNat v) 0 9 (if v = 0 then F 0 9 else l)) 8 k = F 8 k := fun k => by simp (disch := omega) only [uF_e, uF_o, uF_k, uG_e, uG_o, uN_e, uN_k, true_or, or_true]
    have hG1 : ∀ k, (uF (uF (uG F 10 (gtF π (F 10) l.toNat)) 19 l.toNat v) 0 9 (if v = 0 then F 0 9 else l)) 1 k = F 1 k := fun k => by simp (disch := omega) only [uF_e, uF_o, uF_k, uG_e, uG_o, uN_e, uN_k, true_or, or_true]
    rw [hA, hQ, hL]
    unfold f_X0_follow_p1_0_b83 f_X0_follow_p1_0_b204
    rw [sR_w, lt1_e]
    generalize (uF (uF (uG F 10 (gtF π (F 10) l.toNat)) 19 l.toNat v) 0 9 (if v = 0 then F 0 9 else l)) = G at hG hG8 hG1
    generalize (if v = 0 then (if π 5 l.toNat = 9 then uN (uN N (83 + l.toNat) (if F 10 l.toNat < π 8 l.toNat then F 10 l.toNat + 1 else 0)) (143 + l.toNat) v else N) else uN (if π 5 l.toNat = 9 then uN (uN N (83 + l.toNat) (if F 10 l.toNat < π 8 l.toNat then F 10 l.toNat + 1 else 0)) (143 + l.toNat) v else N) 15 l) = N1 at hG
    have g0 := hG.2.1.1
    have hw7 : ∀ {G2 : xR} {N2 : Nat → Int} {c : Int}, RF π B e 0 0 G2 N2 → (∀ k, G2 1 k = F 1 k) → (1 ≤ c ∧ c ≤ 8) → ∃ N', f_X12_stops_p4_0 (wA T M 6 N2) M (lane + 1) c = some (F 1 0, wA T M 6 N') ∧ RF π B e 0 0 (uF G2 16 c.toNat (G2 16 c.toNat + (F 1 0 - (lane + 1)))) N' := by
      intro G2 N2 c h1 h2 h3
      obtain ⟨N', y1, y2, y3⟩ := p_wst hC h1 (x := lane + 1) (c := c) (by rw [h2]; omega) h3
      rw [h2] at y1 y3
      exact ⟨N', y1, y3⟩
    by_cases c0 : F 8 0 = 0
    · have hpp := hp0 c0
      subst hpp
      have cG : G 8 0 = 0 := by rw [hG8, c0]
      rw [if_pos c0]
      simp only [sR_g]
      rw [cG, wr_e (z := 0) (by decide), if_pos rfl]
      unfold f_X12_turnsInQueue_p4_0_b38 f_X12_turnsInQueue_p4_0_b82
      rw [wr_e (z := v) (by omega), wr_e (z := pd) (by omega)]
      by_cases cv : v = pd
      · rw [if_pos cv, if_pos cv]
        by_cases cv0 : v = 0
        · rw [if_pos cv0, if_pos cv0]
          subst cv0
          rw [wr_e (by decide), if_pos rfl, if_neg (fun h => h rfl)]
          refine ⟨0, G, N1, lane + 1, rfl, rfl, fun h => absurd h (by omega), hG1, Or.inl ⟨rfl, rfl, hG⟩⟩
        · simp only [if_neg cv0, ite_not]
          by_cases ca : wr (F 0 9) = l
          · simp only [if_pos ca]
            rw [wr_e (by decide), if_neg (by decide)]
            obtain ⟨z, z1, z2, z3, z4⟩ := p_loop hC hG hl2
            rw [z3, z4]
            simp only [bd2_e]
            rw [wr_e (z := z) (by omega)]
            rcases z1 with rfl | rfl
            · rw [if_pos rfl, if_pos rfl]
              obtain ⟨N', y1, y2⟩ := hw7 hG hG1 (show (1 : Int) ≤ 7 ∧ (7 : Int) ≤ 8 by decide)
              rw [y1]
              exact ⟨7, G, N', F 1 0, rfl, rfl, fun h => absurd h (by omega), hG1, Or.inr ⟨by decide, rfl, y2⟩⟩
            · rw [if_neg (by decide), if_neg (by decide)]
              unfold f_X0_emptyQueue_p1_0 f_X7_begin_p1_8 f_X12_empties_p4_0
              simp (disch := omega) only [lt1_e, bd_e, bd2_e, sR_g, sR_w, sR_a, sR_s, wN_g, wN_w, wN_s, ct_p hC, ct_q hC, ct_m hC, ckI_e, wr_e, ite_not, uF_e, uF_o, uF_k, uG_e, uG_o, uN_e, uN_k, a3]
              have hB := q_begin hC hG hl2 (z2 rfl)
              obtain ⟨N', y1, y2⟩ := hw7 hB (fun k => by rw [← hG1 k]; simp (disch := omega) only [uF_e, uF_o, uF_k, uG_e, uG_o, uN_e, uN_k, true_or, or_true]) (show (1 : Int) ≤ 7 ∧ (7 : Int) ≤ 8 by decide)
              rw [y1]
              refine ⟨7, _, N', F 1 0, rfl, rfl, fun _ => ?_, fun k => by rw [← hG1 k]; simp (disch := omega) only [uF_e, uF_o, uF_k, uG_e, uG_o, uN_e, uN_k, true_or, or_true], Or.inr ⟨by decide, rfl, y2⟩⟩
              have := (z2 rfl).2.1
              simp (disch := omega) only [uF_e, uF_o, uF_k, uG_e, uG_o, uN_e, uN_k, true_or, or_true]
              omega
          · simp only [if_neg ca]
            rw [wr_e (by decide), if_pos rfl]
            obtain ⟨N', y1, y2⟩ := hw7 hG hG1 (show (1 : Int) ≤ 7 ∧ (7 : Int) ≤ 8 by decide)
            rw [if_pos rfl, y1]
            exact ⟨7, G, N', F 1 0, rfl, rfl, fun h => absurd h (by omega), hG1, Or.inr ⟨by decide, rfl, y2⟩⟩
      · rw [if_neg cv, if_neg cv]
        unfold f_X0_goTo_p1_0 f_X0_emptyQueue_p1_0 f_X0_setPlace_p1_0 f_X12_empties_p4_0 f_X12_sets_p4_0
        simp (disch := omega) only [lt1_e, bd_e, bd2_e, sR_g, sR_w, sR_a, sR_s, wN_g, wN_w, wN_s, ct_p hC, ct_q hC, ct_m hC, ckI_e, wr_e, ite_not, uF_e, uF_o, uF_k, uG_e, uG_o, uN_e, uN_k, a3]
        by_cases cv0 : v = 0
        · rw [if_pos cv0, if_pos cv0]
          have hB := q_wrong hC hG cG (y := l + 1) (by omega)
          obtain ⟨N', y1, y2⟩ := hw7 hB (fun k => by rw [← hG1 k]; simp (disch := omega) only [uF_e, uF_o, uF_k, uG_e, uG_o, uN_e, uN_k, true_or, or_true]) (show (1 : Int) ≤ 4 ∧ (4 : Int) ≤ 8 by decide)
          rw [y1]
          refine ⟨4, _, N', F 1 0, rfl, rfl, fun h => ?_, fun k => by rw [← hG1 k]; simp (disch := omega) only [uF_e, uF_o, uF_k, uG_e, uG_o, uN_e, uN_k, true_or, or_true], Or.inr ⟨by decide, rfl, y2⟩⟩
          simp (disch := omega) only [uF_e, uF_o, uF_k, uG_e, uG_o, uN_e, uN_k, true_or, or_true] at h
          exact absurd h (by decide)
        · rw [if_neg cv0, if_neg cv0]
          have hB := q_wrong hC hG cG (y := π 11 l.toNat) t11
          obtain ⟨N', y1, y2⟩ := hw7 hB (fun k => by rw [← hG1 k]; simp (disch := omega) only [uF_e, uF_o, uF_k, uG_e, uG_o, uN_e, uN_k, true_or, or_true]) (show (1 : Int) ≤ 4 ∧ (4 : Int) ≤ 8 by decide)
          rw [y1]
          refine ⟨4, _, N', F 1 0, rfl, rfl, fun h => ?_, fun k => by rw [← hG1 k]; simp (disch := omega) only [uF_e, uF_o, uF_k, uG_e, uG_o, uN_e, uN_k, true_or, or_true], Or.inr ⟨by decide, rfl, y2⟩⟩
          simp (disch := omega) only [uF_e, uF_o, uF_k, uG_e, uG_o, uN_e, uN_k, true_or, or_true] at h
          exact absurd h (by decide)
    · have c1 : F 8 0 = 1 := by omega
      have cG : G 8 0 = 1 := by rw [hG8, c1]
      obtain ⟨l1, l2, l3, l4, l5, l6, l7, l8, l9, l10⟩ := hl c1
      rw [if_neg c0]
      simp only [sR_g]
      rw [cG, wr_e (z := 1) (by decide), if_neg (by decide)]
      unfold f_X0_followInLoop_p1_0 f_X0_setPlace_p1_0 f_X12_sets_p4_0
      simp (disch := omega) only [lt1_e, bd_e, bd2_e, sR_g, sR_w, sR_a, sR_s, wN_g, wN_w, wN_s, ct_p hC, ct_q hC, ct_m hC, ckI_e, wr_e, ite_not, uF_e, uF_o, uF_k, uG_e, uG_o, uN_e, uN_k]
      by_cases cv0 : v = 0
      · rw [if_pos cv0, if_pos cv0]
        have hB := q_lend hC hG (y := l + 1) (by omega)
        obtain ⟨N', y1, y2⟩ := hw7 hB (fun k => by rw [← hG1 k]; simp (disch := omega) only [uF_e, uF_o, uF_k, uG_e, uG_o, uN_e, uN_k, true_or, or_true]) (show (1 : Int) ≤ 7 ∧ (7 : Int) ≤ 8 by decide)
        simp (disch := omega) only [lt1_e, bd_e, bd2_e, sR_g, sR_w, sR_a, sR_s, wN_g, wN_w, wN_s, ct_p hC, ct_q hC, ct_m hC, ckI_e, wr_e, ite_not, uF_e, uF_o, uF_k, uG_e, uG_o, uN_e, uN_k]
        rw [y1]
        refine ⟨7, _, N', F 1 0, rfl, rfl, fun h => ?_, fun k => by rw [← hG1 k]; simp (disch := omega) only [uF_e, uF_o, uF_k, uG_e, uG_o, uN_e, uN_k, true_or, or_true], Or.inr ⟨by decide, rfl, y2⟩⟩
        simp (disch := omega) only [uF_e, uF_o, uF_k, uG_e, uG_o, uN_e, uN_k, true_or, or_true] at h
        exact absurd h (by decide)
      · rw [if_neg cv0, if_neg cv0]
        have hB := q_lagain hC hG cG
        simp (disch := omega) only [lt1_e, bd_e, bd2_e, sR_g, sR_w, sR_a, sR_s, wN_g, wN_w, wN_s, ct_p hC, ct_q hC, ct_m hC, ckI_e, wr_e, ite_not, uF_e, uF_o, uF_k, uG_e, uG_o, uN_e, uN_k]
        refine ⟨0, _, _, lane + 1, rfl, rfl, fun h => ?_, fun k => by rw [← hG1 k]; simp (disch := omega) only [uF_e, uF_o, uF_k, uG_e, uG_o, uN_e, uN_k, true_or, or_true], Or.inl ⟨rfl, rfl, hB⟩⟩
        simp (disch := omega) only [uF_e, uF_o, uF_k, uG_e, uG_o, uN_e, uN_k, true_or, or_true]
        rw [hG8, hG8]
        exact l7
  · rw [if_neg c8, wr_e (by decide), if_neg (fun h => h rfl)]
    refine ⟨0, F, N, lane + 1, ?_, rfl, fun h => ?_, fun k => rfl, Or.inl ⟨rfl, rfl, hF⟩⟩
    · unfold f_X0_follow_p1_0
      simp (disch := omega) only [lt1_e, bd_e, bd2_e, sR_g, sR_w, sR_a, sR_s, wN_g, wN_w, wN_s, ct_p hC, ct_q hC, ct_m hC, ckI_e, wr_e, ite_not, uF_e, uF_o, uF_k, uG_e, uG_o, uN_e, uN_k]
      rw [if_neg (show ¬ l < 0 by omega), if_neg (show ¬ π 0 10 ≤ l by omega), if_neg c8]
    · obtain ⟨l1, l2, l3, l4, l5, l6, l7, l8, l9, l10⟩ := hl h
      obtain ⟨h3, h4⟩ := hx h
      by_cases c : l = F 8 2
      · rw [← c] at l9
        exact absurd l9 c8
      · omega
end C9
