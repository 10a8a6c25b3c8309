/-! mathematics: the lanes of a cycle -/
section D1
variable {S T : xSt} {r q M : Nat} {π μ F : xR} {N : Nat → Int} {B e w o : Int}

theorem rf_mono {B' : Int} (h : RF π B e w o F N) (hb : B ≤ B') : RF π B' e w o F N := by
  refine ⟨h.1, ?_, h.2.2⟩
  obtain ⟨r0, r1, r2, r3, r4, r5, r6, r7, r8, r9, r10, r11, r12, r13, r14⟩ := h.2.1
  exact ⟨r0, r1, r2, r3, r4, r5, r6, r7, r8, r9, r10, ⟨r11.1, by omega⟩, ⟨r12.1, by omega⟩, r13, r14⟩
theorem p_unus {c x : Int} (hc : 0 ≤ c ∧ c ≤ 8) : f_X9_addUnused_p1_14 (sR S r F) r c x = some (sR S r (if c = 0 then F else uF F 16 c.toNat (F 16 c.toNat + x))) := by
  unfold f_X9_addUnused_p1_14
  by_cases d : c = 0
  · subst d
    rw [if_pos (by decide), if_pos rfl]
  · simp (disch := omega) only [wr_e, sR_g, sR_w, lt1_e, ckI_e]
    rw [if_neg (show ¬ c < 1 by omega), if_neg (show ¬ 8 < c by omega), if_neg d]
theorem p_pend (hC : CT S r q T M π μ) (hF : RF π B e 0 0 F N) {x : Int} (hx : 0 ≤ x ∧ F 0 14 + x ≤ 40) : RF π B e x x F (uN (uN N 6 (F 0 14 + x)) 18 (F 15 2 + x)) := by
  obtain ⟨hs, hr, hb, hu, hq, ht, hw, hp, hg, hl, hd⟩ := hF
  obtain ⟨e0, e1, e2, e3, e4, e5, e6, e7, e8, e9, e10, e11, e15, e16, e17, e18, e19, e20, e21, e22, e23, e24, e34, e42, x1, x2, x3⟩ := id hs
  obtain ⟨r0, r1, r2, r3, r4, r5, r6, r7, r8, r9, r10, r11, r12, r13, r14⟩ := id hr
  obtain ⟨p0, p1, p2, p3, p4, p5, p6, p7, p8, p9, p10⟩ := id (ct_R hC)
  obtain ⟨m1, m2, m3, m4, m5, m6⟩ := id (ct_M hC)
  refine ⟨?_, ?_, ?_, ?_, ?_, ?_, ?_, ?_, ?_, ?_, ?_⟩
  · unfold RFs
    refine ⟨?_, ?_, ?_, ?_, ?_, ?_, ?_, ?_, ?_, ?_, ?_, ?_, ?_, ?_, ?_, ?_, ?_, ?_, ?_, ?_, ?_, ?_, ?_, ?_, ?_, ?_, ?_⟩ <;> (try simp (disch := omega) only [uF_e, uF_o, uF_k, uG_e, uG_o, uN_e, uN_k, true_or, or_true]) <;> omega
  · unfold RFr
    refine ⟨?_, ?_, ?_, ?_, ?_, ?_, ?_, ?_, ?_, ?_, ?_, ?_, ?_, ?_, ?_⟩ <;> (try simp (disch := omega) only [uF_e, uF_o, uF_k, uG_e, uG_o, uN_e, uN_k, true_or, or_true]) <;> omega
  · intro c h1 h2
    try simp (disch := omega) only [uF_e, uF_o, uF_k, uG_e, uG_o, uN_e, uN_k, true_or, or_true]
    exact hb c h1 h2
  · intro j hj
    try simp (disch := omega) only [uF_e, uF_o, uF_k, uG_e, uG_o, uN_e, uN_k, true_or, or_true] at hj
    try simp (disch := omega) only [uF_e, uF_o, uF_k, uG_e, uG_o, uN_e, uN_k, true_or, or_true]
    exact hu j hj
  · intro j hj
    try simp (disch := omega) only [uF_e, uF_o, uF_k, uG_e, uG_o, uN_e, uN_k, true_or, or_true] at hj
    try simp (disch := omega) only [uF_e, uF_o, uF_k, uG_e, uG_o, uN_e, uN_k, true_or, or_true]
    first | exact hq j hj | exact absurd hj (by omega)
  · intro k hk h9
    try simp (disch := omega) only [uF_e, uF_o, uF_k, uG_e, uG_o, uN_e, uN_k, true_or, or_true]
    exact ht k hk h9
  · intro k hk
    try simp (disch := omega) only [uF_e, uF_o, uF_k, uG_e, uG_o, uN_e, uN_k, true_or, or_true]
    exact hw k hk
  · intro k hk
    try simp (disch := omega) only [uF_e, uF_o, uF_k, uG_e, uG_o, uN_e, uN_k, true_or, or_true]
    exact hp k hk
  · intro k hk h2
    try simp (disch := omega) only [uF_e, uF_o, uF_k, uG_e, uG_o, uN_e, uN_k, true_or, or_true] at h2
    try simp (disch := omega) only [uF_e, uF_o, uF_k, uG_e, uG_o, uN_e, uN_k, true_or, or_true]
    exact hg k hk h2
  · intro h1
    try simp (disch := omega) only [uF_e, uF_o, uF_k, uG_e, uG_o, uN_e, uN_k, true_or, or_true] at h1
    try simp (disch := omega) only [uF_e, uF_o, uF_k, uG_e, uG_o, uN_e, uN_k, true_or, or_true]
    first | exact hl h1 | exact absurd h1 (by decide)
  · unfold RFd
    try simp (disch := omega) only [uF_e, uF_o, uF_k, uG_e, uG_o, uN_e, uN_k, true_or, or_true]
    exact hd
/-- the class's lane, as far as the cause -/
theorem p_lane_c (hC : CT S r q T M π μ) (hF : RF π B e 0 0 F N) {lane k v ops : Int} (hlane : 0 ≤ lane ∧ lane < F 1 0) (hk : 0 ≤ k ∧ k < π 0 10) (hv : v = 0 ∨ v = 1) (hl : k + v < π 0 10) (hops : ops = (if k + v ≤ k then π 10 k.toNat else π 10 k.toNat + π 10 (k + v).toNat - 1)) (n1 : f_X0_nextNumber_p1_0 (sR S r F) r = some (k, sR S r F)) (n2 : f_X0_isFused_p1_0 (sR S r F) r k = some (v, sR S r F)) (f : Nat) (used : Int) :
    f_X0_decodeLanes_p1_0_b33 r (f + 1) (sR S r F) (F 1 0) used 0 lane = bd2 (f_X0_causeOfStop_p1_0 (sR S r F) r lane ops) fun v11 S10 => f_X0_decodeLanes_p1_0_b106 (f_X0_decodeLanes_p1_0_b33 r f) r S10 (F 1 0) used lane k (k + v) ops v11 := by
  have p0 := (ct_R hC).1
  have r0 := hF.2.1.1
  have hou := p_opsU (F := F) hC hk.1 (show k ≤ k + v by omega) hl
  rw [← hops] at hou
  rw [f_X0_decodeLanes_p1_0_b33, wr_e (z := F 1 0) (by omega), wr_e (z := lane) (by omega), if_neg (show ¬ F 1 0 ≤ lane by omega), wr_e (z := 0) (by decide), if_neg (show ¬ ¬ (0 : Int) = 0 from fun h => h rfl), n1]
  simp only [bd2_e]
  rw [wr_e (z := k) (by omega), wr_e (z := -1) (by decide), if_neg (show ¬ k = -1 by omega), n2]
  simp only [bd2_e]
  rw [wr_e (z := v) (by omega)]
  have h73 : f_X0_decodeLanes_p1_0_b73 (f_X0_decodeLanes_p1_0_b33 r f) r (sR S r F) (F 1 0) used lane k (k + v) = bd2 (f_X0_causeOfStop_p1_0 (sR S r F) r lane ops) fun v11 S10 => f_X0_decodeLanes_p1_0_b106 (f_X0_decodeLanes_p1_0_b33 r f) r S10 (F 1 0) used lane k (k + v) ops v11 := by
    unfold f_X0_decodeLanes_p1_0_b73
    rw [hou]
    simp only [bd2_e]
    rw [wr_e (z := k) (by omega), wr_e (z := -1) (by decide), if_pos (show ¬ k = -1 by omega)]
  rcases hv with rfl | rfl
  · rw [if_pos rfl]
    unfold f_X0_decodeLanes_p1_0_b71
    rw [Int.add_zero] at h73 ⊢
    exact h73
  · rw [if_neg (by decide)]
    exact h73
/-- the reference's lane, as far as the cause -/
theorem p_lane_m (hC : CT S r q T M π μ) (hF : RF π B e 0 0 F N) {lane k v ops : Int} (hk : 0 ≤ k ∧ k < π 0 10) (hv : v = 0 ∨ v = 1) (hl : k + v < π 0 10) (hops : ops = (if k + v ≤ k then π 10 k.toNat else π 10 k.toNat + π 10 (k + v).toNat - 1)) (n3 : f_X12_head_p4_0 (wA T M 6 N) M = some (k, wA T M 6 N)) (n4 : f_X12_isHeadFused_p4_0 (wA T M 6 N) M = some (v, wA T M 6 N)) (h0 : F 8 0 = 0 → 0 < F 5 2) :
    f_X12_decodesAt_p4_0 (wA T M 6 N) M lane = f_X12_decodesAt_p4_0_b64 M (wA T M 6 N) lane k v ops := by
  have p0 := (ct_R hC).1
  have p3 := (ct_R hC).2.2.2.1
  have e42 := hF.1.2.2.2.2.2.2.2.2.2.2.2.2.2.2.2.2.2.2.2.2.2.2.2.1
  have r10 := hF.2.1.2.2.2.2.2.2.2.2.2.2.1
  have r14 := hF.2.1.2.2.2.2.2.2.2.2.2.2.2.2.2.2
  have ho1 := (p_ops (N := N) hC hk)
  have ho2 := (p_ops (N := N) hC (show 0 ≤ k + v ∧ k + v < π 0 10 by omega))
  have hb27 : f_X12_decodesAt_p4_0_b27 M (wA T M 6 N) lane = f_X12_decodesAt_p4_0_b64 M (wA T M 6 N) lane k v ops := by
    unfold f_X12_decodesAt_p4_0_b27
    rw [n3]
    simp only [bd2_e]
    rw [n4]
    simp only [bd2_e]
    rw [wr_e (z := v) (by omega)]
    rcases hv with rfl | rfl
    · rw [if_pos rfl, ho1.2]
      simp only [bd2_e]
      rw [hops, if_pos (show k + 0 ≤ k by omega)]
    · rw [if_neg (by decide), ho1.2]
      simp only [bd2_e]
      rw [ho2.2]
      simp only [bd2_e]
      rw [hops, if_neg (show ¬ k + 1 ≤ k by omega)]
  unfold f_X12_decodesAt_p4_0
  rw [p_rep hC hF]
  simp only [bd2_e, wN_g, e42]
  rw [wr_e (z := F 8 0) (by omega), wr_e (z := F 5 2) (by omega)]
  by_cases c0 : F 8 0 = 0
  · rw [if_neg (show ¬ ¬ F 8 0 = 0 from fun h => h c0), if_pos (show ¬ F 5 2 = 0 by have := h0 c0; omega), hb27]
  · rw [if_pos c0, hb27]
/-- too much for the lane, or not -/
theorem p_lane_s (hC : CT S r q T M π μ) (hF : RF π B e 0 0 F N) {lane k v ops : Int} (hv : v = 0 ∨ v = 1) (hlane : 0 ≤ lane ∧ lane < F 1 0) (hopr : 1 ≤ ops ∧ ops ≤ 7) :
    (F 0 14 + ops ≤ π 1 3 ∧ f_X0_causeOfStop_p1_0 (sR S r F) r lane ops = some (0, sR S r F) ∧ f_X12_decodesAt_p4_0_b64 M (wA T M 6 N) lane k v ops = f_X12_decodesAt_p4_0_b160 M (wA T M 6 (uN (uN N 6 (F 0 14 + ops)) 18 (F 15 2 + ops))) lane k v (if v = 0 then k else k + 1)) ∨
    ∃ c, (1 ≤ c ∧ c ≤ 8) ∧ f_X0_causeOfStop_p1_0 (sR S r F) r lane ops = some (c, sR S r F) ∧ f_X12_decodesAt_p4_0_b64 M (wA T M 6 N) lane k v ops = f_X12_stops_p4_0 (wA T M 6 N) M lane c := by
  have p4 := (ct_R hC).2.2.2.2.1
  have m4 := (ct_M hC).2.2.2.1
  have e6 := hF.1.2.2.2.2.2.2.1
  have e18 := hF.1.2.2.2.2.2.2.2.2.2.2.2.2.2.2.2.1
  have r0 := hF.2.1.1
  have r6 := hF.2.1.2.2.2.2.2.2.1
  have r10 := hF.2.1.2.2.2.2.2.2.2.2.2.2.1
  have x3 := hF.1.2.2.2.2.2.2.2.2.2.2.2.2.2.2.2.2.2.2.2.2.2.2.2.2.2.2
  have hbd : ∀ x : Option (Int × xSt), (bd2 x fun v S => some (v, S)) = x := by
    intro x
    cases x with
    | none => rfl
    | some y => rfl
  have h90 : f_X12_decodesAt_p4_0_b90 M (wA T M 6 N) lane k v ops = if F 0 14 + ops ≤ π 1 3 then f_X12_decodesAt_p4_0_b160 M (wA T M 6 (uN (uN N 6 (F 0 14 + ops)) 18 (F 15 2 + ops))) lane k v (if v = 0 then k else k + 1) else f_X12_stops_p4_0 (wA T M 6 N) M lane 6 := by
    unfold f_X12_decodesAt_p4_0_b90
    rw [hbd]
    simp (disch := omega) only [lt1_e, wN_g, wN_w, ct_m hC, m4, e6, e18, Int.add_zero, uN_k, uN_e, wr_e (z := F 0 14 + ops), wr_e (z := π 1 3)]
    by_cases c : F 0 14 + ops ≤ π 1 3
    · rw [if_pos c, if_pos c]
      rcases hv with rfl | rfl
      · rw [if_pos (by decide), if_pos rfl]
      · rw [if_neg (by decide), if_neg (by decide)]
    · rw [if_neg c, if_neg c]
  have hb21 : f_X0_causeOfStop_p1_0_b21 r (sR S r F) ops = some (if F 0 14 + ops ≤ π 1 3 then 0 else 6, sR S r F) := by
    unfold f_X0_causeOfStop_p1_0_b21
    simp (disch := omega) only [lt1_e, bd_e, bd2_e, sR_g, sR_w, sR_a, sR_s, wN_g, wN_w, wN_s, ct_p hC, ct_q hC, ct_m hC, ckI_e, wr_e, ite_not, uF_e, uF_o, uF_k, uG_e, uG_o, uN_e, uN_k, x3]
    by_cases c : F 0 14 + ops ≤ π 1 3
    · rw [if_pos c, if_pos c]
    · rw [if_neg c, if_neg c]
  unfold f_X12_decodesAt_p4_0_b64 f_X0_causeOfStop_p1_0
  rw [p_rep hC hF, h90]
  simp only [bd2_e]
  rw [h90, hbd]
  simp only [sR_g, ite_not]
  rw [wr_e (z := lane) (by omega), wr_e (z := F 8 0) (by omega), wr_e (z := ops) (by omega), wr_e (z := 1) (by decide), hb21]
  by_cases c1 : lane ≤ 0
  · rw [if_pos c1, if_pos c1]
    by_cases c : F 0 14 + ops ≤ π 1 3
    · rw [if_pos c, if_pos c]
      exact Or.inl ⟨c, rfl, rfl⟩
    · rw [if_neg c, if_neg c]
      exact Or.inr ⟨6, by decide, rfl, rfl⟩
  · rw [if_neg c1, if_neg c1]
    by_cases c2 : F 8 0 = 0
    · rw [if_pos c2, if_pos c2]
      by_cases c3 : ops ≤ 1
      · rw [if_pos c3, if_pos c3]
        by_cases c : F 0 14 + ops ≤ π 1 3
        · rw [if_pos c, if_pos c]
          exact Or.inl ⟨c, rfl, rfl⟩
        · rw [if_neg c, if_neg c]
          exact Or.inr ⟨6, by decide, rfl, rfl⟩
      · rw [if_neg c3, if_neg c3]
        exact Or.inr ⟨5, by decide, rfl, rfl⟩
    · rw [if_neg c2, if_neg c2]
      by_cases c : F 0 14 + ops ≤ π 1 3
      · rw [if_pos c, if_pos c]
        exact Or.inl ⟨c, rfl, rfl⟩
      · rw [if_neg c, if_neg c]
        exact Or.inr ⟨6, by decide, rfl, rfl⟩
/-- nothing is there -/
theorem p_lane_e (hC : CT S r q T M π μ) (hF : RF π B e 0 0 F N) {lane : Int} (hlane : 0 ≤ lane ∧ lane < F 1 0) (c0 : F 8 0 = 0) (c5 : F 5 2 = 0) : ∃ c, (1 ≤ c ∧ c ≤ 8) ∧ (∀ (f : Nat) (used : Int), f_X0_decodeLanes_p1_0_b33 r (f + 1) (sR S r F) (F 1 0) used 0 lane = f_X0_decodeLanes_p1_0_b33 r f (sR S r F) (F 1 0) used c (lane + 1)) ∧ f_X12_decodesAt_p4_0 (wA T M 6 N) M lane = f_X12_stops_p4_0 (wA T M 6 N) M lane c := by
  have e42 := hF.1.2.2.2.2.2.2.2.2.2.2.2.2.2.2.2.2.2.2.2.2.2.2.2.1
  have r0 := hF.2.1.1
  obtain ⟨c, hc, i1, i2⟩ := p_noth hC hF
  have nn : f_X0_nextNumber_p1_0 (sR S r F) r = some (-1, sR S r F) := by
    unfold f_X0_nextNumber_p1_0
    simp only [sR_g]
    rw [c0, c5, if_pos (by decide), if_pos (by decide)]
  have oo : f_X0_opsOfUnit_p1_0 (sR S r F) r (-1) (-1) = some (0, sR S r F) := by
    unfold f_X0_opsOfUnit_p1_0
    rw [if_pos (by decide)]
  refine ⟨c, by omega, fun f used => ?_, ?_⟩
  · rw [f_X0_decodeLanes_p1_0_b33, wr_e (z := F 1 0) (by omega), wr_e (z := lane) (by omega), if_neg (show ¬ F 1 0 ≤ lane by omega), wr_e (z := 0) (by decide), if_neg (show ¬ ¬ (0 : Int) = 0 from fun h => h rfl), nn]
    simp only [bd2_e]
    rw [if_pos (show True from trivial)]
    unfold f_X0_decodeLanes_p1_0_b71 f_X0_decodeLanes_p1_0_b73
    rw [oo]
    simp only [bd2_e]
    rw [if_neg (show ¬ ¬ True from fun h => h trivial), i1]
    simp only [bd2_e]
    unfold f_X0_decodeLanes_p1_0_b106
    rw [wr_e (z := c) (by omega), if_pos (show ¬ c = 0 by omega)]
  · unfold f_X12_decodesAt_p4_0
    rw [p_rep hC hF]
    simp only [bd2_e, wN_g, e42]
    rw [c0, c5, if_neg (by decide), if_neg (by decide), i2]
    simp only [bd2_e]
    cases f_X12_stops_p4_0 (wA T M 6 N) M lane c with
    | none => rfl
    | some y => rfl
theorem p_lane (hC : CT S r q T M π μ) (hF : RF π B e 0 0 F N) (hB : B ≤ 99990000) (hn : F 8 0 = 1 → F 8 3 ≤ F 8 2) {lane : Int} (hlane : 0 ≤ lane ∧ lane < F 1 0) :
    ∃ u c F' N' L', (∀ (f : Nat) (used : Int), f_X0_decodeLanes_p1_0_b33 r (f + 1) (sR S r F) (F 1 0) used 0 lane = f_X0_decodeLanes_p1_0_b33 r f (sR S r F') (F 1 0) (used + u) c (lane + 1)) ∧ f_X12_decodesAt_p4_0 (wA T M 6 N) M lane = some (L', wA T M 6 N') ∧ (F' 8 0 = 1 → F' 8 3 ≤ F' 8 2) ∧ (∀ k, F' 1 k = F 1 k) ∧ (u = 0 ∨ u = 1) ∧ ((c = 0 ∧ u = 1 ∧ L' = lane + 1 ∧ RF π (B + 2) e 0 0 F' N') ∨ ((1 ≤ c ∧ c ≤ 8) ∧ L' = F 1 0 ∧ RF π (B + 2) e 0 0 (uF F' 16 c.toNat (F' 16 c.toNat + (F 1 0 - (lane + u)))) N')) := by
  have p4 := (ct_R hC).2.2.2.2.1
  have r6 := hF.2.1.2.2.2.2.2.2.1
  have r10 := hF.2.1.2.2.2.2.2.2.2.2.2.2.1
  have r14 := hF.2.1.2.2.2.2.2.2.2.2.2.2.2.2.2.2
  by_cases hemp : F 8 0 = 0 ∧ F 5 2 = 0
  · obtain ⟨c, hc, i1, i2⟩ := p_lane_e hC hF hlane hemp.1 hemp.2
    obtain ⟨N', y1, y2, y3⟩ := p_wst hC hF (x := lane) (c := c) (by omega) hc
    refine ⟨0, c, F, N', F 1 0, fun f used => by rw [i1, Int.add_zero], by rw [i2, y1], hn, fun k => rfl, Or.inl rfl, Or.inr ⟨hc, rfl, ?_⟩⟩
    rw [Int.add_zero]
    exact rf_mono y3 (by omega)
  · have h0 : F 8 0 = 0 → 0 < F 5 2 := fun h => by omega
    obtain ⟨k, v, hk, hv, hv1, u1, u0, n1, n2, n3, n4⟩ := p_unit hC hF hn h0
    have hl : k + v < π 0 10 := by
      rcases hv with rfl | rfl
      · omega
      · exact hv1 rfl
    have ho1 := (p_ops (N := N) hC hk).1
    have ho2 := (p_ops (N := N) hC (show 0 ≤ k + v ∧ k + v < π 0 10 by omega)).1
    obtain ⟨ops, hops⟩ : ∃ ops, ops = (if k + v ≤ k then π 10 k.toNat else π 10 k.toNat + π 10 (k + v).toNat - 1) := ⟨_, rfl⟩
    have hopr : 1 ≤ ops ∧ ops ≤ 7 := by
      rw [hops]
      split <;> omega
    have hcl := p_lane_c hC hF hlane hk hv hl hops n1 n2
    rw [p_lane_m hC hF hk hv hl hops n3 n4 h0]
    rcases p_lane_s hC hF (k := k) (v := v) hv hlane hopr with ⟨c, hcs, hms⟩ | ⟨c, hc, hcs, hms⟩
    · rw [hms]
      unfold f_X12_decodesAt_p4_0_b160
      have hP := p_pend hC hF (x := ops) (by omega)
      obtain ⟨F1, N1, pd, pm, d1, d2, d3, d4, d5, d6, d7, d8, d9⟩ := p_dec hC hP (show B ≤ 99999000 by omega) (k := k) (l := k + v) (v := v) hk hv rfl hv1 u1 u0 (by omega)
      obtain ⟨cc, F', N', L', g1, g2, g3, g4, g5⟩ := p_follow hC d3 (l := k + v) (lane := lane) (pd := pd) (pm := pm) (by omega) (by rw [d9]; exact hlane) d5 d6 (fun h => d4 (by rw [← d7]; exact h)) (fun h => by
        obtain ⟨y1, y2, y3⟩ := d8 (by rw [← d7]; exact h)
        have := u1 (by rw [← d7]; exact h)
        omega)
      refine ⟨1, cc, F', N', L', fun f used => ?_, ?_, g3, fun k => by rw [g4, d9], Or.inr rfl, ?_⟩
      · rw [hcl, hcs]
        simp only [bd2_e]
        unfold f_X0_decodeLanes_p1_0_b106
        rw [wr_e (z := 0) (by decide), if_neg (fun h => h rfl), d1]
        simp only [bd2_e]
        rw [g1]
        rfl
      · rw [wN_fu, show (if v = 0 then k else k + 1) = k + v by split <;> omega, d2 lane, g2]
      · rcases g5 with ⟨y1, y2, y3⟩ | ⟨y1, y2, y3⟩
        · exact Or.inl ⟨y1, rfl, y2, y3⟩
        · refine Or.inr ⟨y1, by rw [y2, d9], ?_⟩
          rw [d9] at y3
          exact y3
    · obtain ⟨N', y1, y2, y3⟩ := p_wst hC hF (x := lane) (c := c) (by omega) hc
      refine ⟨0, c, F, N', F 1 0, fun f used => ?_, by rw [hms, y1], hn, fun k => rfl, Or.inl rfl, Or.inr ⟨hc, rfl, ?_⟩⟩
      · rw [hcl, hcs]
        simp only [bd2_e]
        unfold f_X0_decodeLanes_p1_0_b106
        rw [wr_e (z := c) (by omega), if_pos (show ¬ c = 0 by omega), Int.add_zero]
      · rw [Int.add_zero]
        exact rf_mono y3 (by omega)
theorem p_lanes_b (hC : CT S r q T M π μ) : ∀ (d : Nat) (lane B : Int) (F : xR) (N : Nat → Int) (f g : Nat), RF π B e 0 0 F N → B + 2 * d ≤ 99990000 → (F 8 0 = 1 → F 8 3 ≤ F 8 2) → 0 ≤ lane → lane + d = F 1 0 → d + 1 < f → d < g →
    ∃ F' N', f_X0_decodeLanes_p1_0_b33 r f (sR S r F) (F 1 0) lane 0 lane = some (sR S r F') ∧ f_X12_decodes_p4_0_b35 M g (wA T M 6 N) lane = some (wA T M 6 N') ∧ RF π (B + 2 * d) e 0 0 F' N' ∧ (F' 8 0 = 1 → F' 8 3 ≤ F' 8 2) := by
  intro d
  induction d with
  | zero =>
    intro lane B F N f g hF hB hn h0 hd hf hg
    obtain ⟨f, rfl⟩ := fs_e (show 0 < f by omega)
    obtain ⟨g, rfl⟩ := fs_e (show 0 < g by omega)
    have e0 := hF.1.1
    have r0 := hF.2.1.1
    refine ⟨F, N, ?_, ?_, rf_mono hF (by omega), hn⟩
    · rw [f_X0_decodeLanes_p1_0_b33]
      unfold f_X0_decodeLanes_p1_0_b141
      simp (disch := omega) only [wr_e]
      rw [if_pos (by omega), p_unus (by decide), if_pos rfl]
      rfl
    · rw [f_X12_decodes_p4_0_b35]
      simp (disch := omega) only [wr_e, wN_g, e0]
      rw [if_pos (by omega)]
  | succ d ih =>
    intro lane B F N f g hF hB hn h0 hd hf hg
    obtain ⟨f, rfl⟩ := fs_e (show 0 < f by omega)
    obtain ⟨g, rfl⟩ := fs_e (show 0 < g by omega)
    have e0 := hF.1.1
    have r0 := hF.2.1.1
    obtain ⟨u, c, F1, N1, L, a1, a2, a3, a4, a5, a6⟩ := p_lane hC hF (by omega) hn (lane := lane) (by omega)
    rw [a1, f_X12_decodes_p4_0_b35]
    simp (disch := omega) only [wr_e (z := lane), wN_g, e0, wr_e (z := F 1 0)]
    rw [if_neg (show ¬ F 1 0 ≤ lane by omega), a2]
    simp only [bd2_e]
    rcases a6 with ⟨rfl, rfl, rfl, y4⟩ | ⟨y1, rfl, y3⟩
    · obtain ⟨F', N', b1, b2, b3, b4⟩ := ih (lane + 1) (B + 2) F1 N1 f g y4 (by omega) a3 (by omega) (by rw [a4]; omega) (by omega) (by omega)
      rw [a4] at b1
      exact ⟨F', N', b1, b2, rf_mono b3 (by omega), b4⟩
    · obtain ⟨f, rfl⟩ := fs_e (show 0 < f by omega)
      obtain ⟨g, rfl⟩ := fs_e (show 0 < g by omega)
      refine ⟨_, N1, ?_, ?_, rf_mono y3 (by omega), ?_⟩
      · rw [f_X0_decodeLanes_p1_0_b33]
        unfold f_X0_decodeLanes_p1_0_b141
        rw [wr_e (z := c) (by omega), if_pos (show ¬ c = 0 by omega), p_unus (by omega), if_neg (show ¬ c = 0 by omega)]
        simp only [bd_e, ite_self]
      · have e0' := y3.1.1
        rw [f_X12_decodes_p4_0_b35]
        simp only [wN_g]
        rw [e0']
        rw [show (uF F1 16 c.toNat (F1 16 c.toNat + (F 1 0 - (lane + u)))) 1 0 = F1 1 0 from uF_o (by decide), a4, if_pos (Int.le_refl _)]
      · intro h
        rw [uF_o (by decide)] at h
        rw [uF_o (by decide), uF_o (by decide)]
        exact a3 h
theorem p_lanes (hC : CT S r q T M π μ) (hF : RF π B e 0 0 F N) (hB : B ≤ 99980000) (hn : F 8 0 = 1 → F 8 3 ≤ F 8 2) : ∃ F' N', f_X0_decodeLanes_p1_0 (sR S r F) r = some (sR S r F') ∧ f_X12_decodes_p4_0 (wA T M 6 N) M = some (wA T M 6 N') ∧ RF π (B + 12) e 0 0 F' N' ∧ (F' 8 0 = 1 → F' 8 3 ≤ F' 8 2) := by
  have hfS := ct_fS hC
  have hfT := ct_fT hC
  have e8 := hF.1.2.2.2.2.2.2.2.2.1
  have r0 := hF.2.1.1
  have r8 := hF.2.1.2.2.2.2.2.2.2.2.1
  unfold f_X0_decodeLanes_p1_0 f_X12_decodes_p4_0
  simp (disch := omega) only [lt1_e, bd_e, bd2_e, sR_g, sR_w, sR_a, sR_s, wN_g, wN_w, wN_s, ct_p hC, ct_q hC, ct_m hC, ckI_e, wr_e, ite_not, uF_e, uF_o, uF_k, uG_e, uG_o, uN_e, uN_k, e8]
  by_cases c : F 0 15 ≤ 0
  · rw [if_pos c, if_pos c]
    obtain ⟨F', N', b1, b2, b3, b4⟩ := p_lanes_b hC (F 1 0).toNat 0 B F N (fu S) (fu T) hF (by omega) hn (by omega) (by omega) (by omega) (by omega)
    exact ⟨F', N', b1, b2, rf_mono b3 (by omega), b4⟩
  · rw [if_neg c, if_neg c]
    have hF1 : RF π B e 0 0 (uF F 0 15 (F 0 15 - 1)) (uN N 8 (F 0 15 - 1)) := by
      obtain ⟨hs, hr, hb, hu, hq, ht, hw, hp, hg, hl, hd⟩ := hF
      obtain ⟨e0, e1, e2, e3, e4, e5, e6, e7, e8, e9, e10, e11, e15, e16, e17, e18, e19, e20, e21, e22, e23, e24, e34, e42, x1, x2, x3⟩ := id hs
      obtain ⟨r0, r1, r2, r3, r4, r5, r6, r7, r8, r9, r10, r11, r12, r13, r14⟩ := id hr
      obtain ⟨p0, p1, p2, p3, p4, p5, p6, p7, p8, p9, p10⟩ := id (ct_R hC)
      obtain ⟨m1, m2, m3, m4, m5, m6⟩ := id (ct_M hC)
      refine ⟨?_, ?_, ?_, ?_, ?_, ?_, ?_, ?_, ?_, ?_, ?_⟩
      · unfold RFs
        refine ⟨?_, ?_, ?_, ?_, ?_, ?_, ?_, ?_, ?_, ?_, ?_, ?_, ?_, ?_, ?_, ?_, ?_, ?_, ?_, ?_, ?_, ?_, ?_, ?_, ?_, ?_, ?_⟩ <;> (try simp (disch := omega) only [uF_e, uF_o, uF_k, uG_e, uG_o, uN_e, uN_k, true_or, or_true]) <;> omega
      · unfold RFr
        refine ⟨?_, ?_, ?_, ?_, ?_, ?_, ?_, ?_, ?_, ?_, ?_, ?_, ?_, ?_, ?_⟩ <;> (try simp (disch := omega) only [uF_e, uF_o, uF_k, uG_e, uG_o, uN_e, uN_k, true_or, or_true]) <;> omega
      · intro c h1 h2
        try simp (disch := omega) only [uF_e, uF_o, uF_k, uG_e, uG_o, uN_e, uN_k, true_or, or_true]
        exact hb c h1 h2
      · intro j hj
        try simp (disch := omega) only [uF_e, uF_o, uF_k, uG_e, uG_o, uN_e, uN_k, true_or, or_true] at hj
        try simp (disch := omega) only [uF_e, uF_o, uF_k, uG_e, uG_o, uN_e, uN_k, true_or, or_true]
        exact hu j hj
      · intro j hj
        try simp (disch := omega) only [uF_e, uF_o, uF_k, uG_e, uG_o, uN_e, uN_k, true_or, or_true] at hj
        try simp (disch := omega) only [uF_e, uF_o, uF_k, uG_e, uG_o, uN_e, uN_k, true_or, or_true]
        first | exact hq j hj | exact absurd hj (by omega)
      · intro k hk h9
        try simp (disch := omega) only [uF_e, uF_o, uF_k, uG_e, uG_o, uN_e, uN_k, true_or, or_true]
        exact ht k hk h9
      · intro k hk
        try simp (disch := omega) only [uF_e, uF_o, uF_k, uG_e, uG_o, uN_e, uN_k, true_or, or_true]
        exact hw k hk
      · intro k hk
        try simp (disch := omega) only [uF_e, uF_o, uF_k, uG_e, uG_o, uN_e, uN_k, true_or, or_true]
        exact hp k hk
      · intro k hk h2
        try simp (disch := omega) only [uF_e, uF_o, uF_k, uG_e, uG_o, uN_e, uN_k, true_or, or_true] at h2
        try simp (disch := omega) only [uF_e, uF_o, uF_k, uG_e, uG_o, uN_e, uN_k, true_or, or_true]
        exact hg k hk h2
      · intro h1
        try simp (disch := omega) only [uF_e, uF_o, uF_k, uG_e, uG_o, uN_e, uN_k, true_or, or_true] at h1
        try simp (disch := omega) only [uF_e, uF_o, uF_k, uG_e, uG_o, uN_e, uN_k, true_or, or_true]
        first | exact hl h1 | exact absurd h1 (by decide)
      · unfold RFd
        try simp (disch := omega) only [uF_e, uF_o, uF_k, uG_e, uG_o, uN_e, uN_k, true_or, or_true]
        exact hd
    obtain ⟨N', y1, y2, y3⟩ := p_wst hC hF1 (x := 0) (c := 4) (by simp (disch := omega) only [uF_e, uF_o, uF_k, uG_e, uG_o, uN_e, uN_k, true_or, or_true]; omega) (by decide)
    obtain ⟨f, hf⟩ := fs_e (show 0 < fu S by omega)
    refine ⟨_, N', ?_, ?_, rf_mono y3 (by omega), fun h => ?_⟩
    · rw [sR_fu, hf, f_X0_decodeLanes_p1_0_b33]
      unfold f_X0_decodeLanes_p1_0_b141
      rw [wr_e (z := 4) (by decide), if_pos (show ¬ (4 : Int) = 0 by decide), p_unus (by decide), if_neg (show ¬ (4 : Int) = 0 by decide)]
      simp only [bd_e, ite_self]
      rw [show (uF F 0 15 (F 0 15 - 1)) 1 0 = F 1 0 from uF_o (by decide)]
    · rw [y2]
      rfl
    · simp (disch := omega) only [uF_e, uF_o, uF_k, uG_e, uG_o, uN_e, uN_k, true_or, or_true] at h
      simp (disch := omega) only [uF_e, uF_o, uF_k, uG_e, uG_o, uN_e, uN_k, true_or, or_true]
      exact hn h
end D1
