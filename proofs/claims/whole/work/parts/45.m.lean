/-! mathematics: a unit is decoded; lanes are wasted; loops; turns -/
section C6
variable {S T : xSt} {r q M : Nat} {π μ F : xR} {N : Nat → Int} {B e w o : Int}

theorem p_dec1 (hC : CT S r q T M π μ) (hF : RF π B e w o F N) (hB : B ≤ 100000000) {k l : Int} (hk : 0 ≤ k ∧ k < π 0 10) (hl2 : k ≤ l ∧ l < π 0 10) (h0 : F 8 0 = 0 → k = F 6 0 ∧ 0 < F 5 2) (h1 : F 8 0 = 1 → k = F 8 3 ∧ F 8 3 ≤ F 8 2) : ∃ F3 N2 pm, (pm = 0 ∨ pm = 1) ∧ (F 8 0 = 0 → pm = F 7 0) ∧ RF π (B + 1) e w o F3 N2 ∧ F3 8 0 = F 8 0 ∧ (F 8 0 = 0 → F3 5 2 = F 5 2 - 1 ∧ (1 < F 5 2 → F3 6 0 = F 6 1)) ∧ (F 8 0 = 1 → F3 8 1 = F 8 1 ∧ F3 8 2 = F 8 2 ∧ F3 8 3 = k + 1) ∧ (∀ k, F3 1 k = F 1 k) ∧
    (∀ (f : Nat) (x1 x3 x4 : Int), f_X0_decodeUnit_p1_0_b6 r (f + 1) (sR S r F) x1 l x3 x4 k = f_X0_decodeUnit_p1_0_b6 r f (sR S r F3) x1 l x3 (if F 8 0 = 0 then F 7 0 else x4) (k + 1)) ∧
    ∀ (f : Nat) (lane v x6 : Int), f_X12_decodesAt_p4_0_b168 M (f + 1) (wA T M 6 N) lane v l x6 k = f_X12_decodesAt_p4_0_b168 M f (wA T M 6 N2) lane v l pm (k + 1) := by
  have p0 := (ct_R hC).1
  have r10 := hF.2.1.2.2.2.2.2.2.2.2.2.2.1
  have hq := hF.2.2.2.2.1
  have c9 : ¬ l < k := by omega
  by_cases c : F 8 0 = 0
  · obtain ⟨rfl, h5⟩ := h0 c
    obtain ⟨F1, F2, F3, N1, N2, v, a1, a2, a3, a4, a5, a6, a7, a8, a9, a10, a11, a12⟩ := p_one0 hC hF hB c h5
    have q3 := (hq 0 (by omega)).2.2.2
    refine ⟨F3, N2, F 7 0, q3, fun _ => rfl, a7, a8 0, fun _ => ⟨a9, fun h => a10 0 (by omega)⟩, fun h => absurd h (by omega), a11, fun f x1 x3 x4 => ?_, fun f lane v x6 => ?_⟩
    · rw [f_X0_decodeUnit_p1_0_b6]
      simp (disch := omega) only [sR_g, wr_e]
      rw [if_neg c9, if_pos c, if_pos c, a1]
      unfold f_X0_decodeUnit_p1_0_b68
      simp only [bd_e]
      rw [ct_p hC, a2]
      simp only [bd2_e]
      rw [a3]
      rfl
    · rw [f_X12_decodesAt_p4_0_b168]
      simp (disch := omega) only [wr_e]
      rw [if_neg c9, a4]
      unfold f_X12_decodesAt_p4_0_b197
      simp only [bd_e, wN_g, a5, a6]
      rw [wr_e (z := F 7 0) (by omega)]
      rcases q3 with q3 | q3
      · rw [q3, if_pos (by decide)]
      · rw [q3, if_neg (by decide)]
  · have c1 : F 8 0 = 1 := by omega
    obtain ⟨rfl, h5⟩ := h1 c1
    obtain ⟨F2, F3, N1, v, a2, a3, a4, a6, a7, b1, b2, b3, b4, a11, a12⟩ := p_one1 hC hF hB c1 h5
    refine ⟨F3, _, if wr (N1 63) = 1 then 1 else 0, ?_, fun h => absurd h c, a7, by rw [b1, c1], fun h => absurd h c, fun _ => ⟨b2, b3, b4⟩, a11, fun f x1 x3 x4 => ?_, fun f lane v x6 => ?_⟩
    · split
      · exact Or.inr rfl
      · exact Or.inl rfl
    · rw [f_X0_decodeUnit_p1_0_b6]
      simp (disch := omega) only [sR_g, wr_e, lt1_e, sR_w, uF_o]
      rw [if_neg c9, if_neg c, if_neg c]
      unfold f_X0_decodeUnit_p1_0_b68
      rw [ct_p hC, a2]
      simp only [bd2_e]
      rw [a3]
      rfl
    · rw [f_X12_decodesAt_p4_0_b168]
      rw [wr_e (z := l) (by omega), wr_e (z := F 8 3) (by omega), wr_e (z := 1) (by decide)]
      rw [if_neg c9, a4]
      unfold f_X12_decodesAt_p4_0_b197
      simp only [bd_e, wN_g, a6, ite_not]
      by_cases d : wr (N1 63) = 1
      · rw [if_pos d, if_pos d]
      · rw [if_neg d, if_neg d]
theorem p_decE (hC : CT S r q T M π μ) (hF : RF π B e w o F N) {k l v pd pm : Int} (hk : 0 ≤ k ∧ k < π 0 10) (hl2 : l = k + v) (hv : v = 0 ∨ v = 1) (hl3 : l < π 0 10) (hpd : pd = 0 ∨ pd = 1) (hw0 : 0 ≤ w ∧ o = w) : ∃ F' N', (∀ f : Nat, f_X0_decodeUnit_p1_0_b6 r (f + 1) (sR S r F) k l w pd (l + 1) = some (pd, sR S r F')) ∧ (∀ (f : Nat) (lane : Int), f_X12_decodesAt_p4_0_b168 M (f + 1) (wA T M 6 N) lane v l pm (l + 1) = f_X12_decodesAt_p4_0_b231 M (wA T M 6 N') lane l pm) ∧ RF π B e 0 0 F' N' ∧ (∀ k, F' 8 k = F 8 k) ∧ (∀ k, F' 1 k = F 1 k) := by
  have p0' := pr_n (ct_R hC)
  refine ⟨uF (uF (uF F 0 14 (F 0 14 + w)) 15 2 (F 15 2 + w)) 15 3 (F 15 3 + v), if v = 0 then N else uN N 19 (N 19 + 1), fun f => ?_, fun f lane => ?_, ?_, fun k => by simp (disch := omega) only [uF_e, uF_o, uF_k, uG_e, uG_o, uN_e, uN_k, true_or, or_true], fun k => by simp (disch := omega) only [uF_e, uF_o, uF_k, uG_e, uG_o, uN_e, uN_k, true_or, or_true]⟩
  · rw [f_X0_decodeUnit_p1_0_b6]
    simp (disch := omega) only [sR_g, sR_w, lt1_e, wr_e, uF_o, uF_k]
    rw [if_pos (show l < l + 1 by omega), ckB_e hpd]
    rcases hv with rfl | rfl
    · rw [if_pos (show l ≤ k by omega)]
    · rw [if_neg (show ¬ l ≤ k by omega), ckB_e hpd]
  · rw [f_X12_decodesAt_p4_0_b168]
    simp (disch := omega) only [wN_g, wN_w, lt1_e, wr_e]
    rw [if_pos (show l < l + 1 by omega)]
    rcases hv with rfl | rfl
    · rw [if_pos rfl, if_pos rfl]
    · rw [if_neg (by decide), if_neg (by decide)]
  · obtain ⟨hw1, rfl⟩ := hw0
    rcases hv with rfl | rfl
    · rw [if_pos rfl]

      obtain ⟨hs, hr, hb, hu, hq, ht, hw, hp, hg, hl, hd⟩ := hF
      obtain ⟨e0, e1, e2, e3, e4, e5, e6, e7, e8, e9, e10, e11, e15, e16, e17, e18, e19, e20, e21, e22, e23, e24, e34, e42, x1, x2, x3⟩ := id hs
      obtain ⟨r0, r1, r2, r3, r4, r5, r6, r7, r8, r9, r10, r11, r12, r13, r14⟩ := id hr
      obtain ⟨p0, p1, p2, p3, p4, p5, p6, p7, p8, p9, p10⟩ := id (ct_R hC)
      obtain ⟨m1, m2, m3, m4, m5, m6⟩ := id (ct_M hC)
      refine ⟨?_, ?_, ?_, ?_, ?_, ?_, ?_, ?_, ?_, ?_, ?_⟩
      · unfold RFs
        refine ⟨?_, ?_, ?_, ?_, ?_, ?_, ?_, ?_, ?_, ?_, ?_, ?_, ?_, ?_, ?_, ?_, ?_, ?_, ?_, ?_, ?_, ?_, ?_, ?_, ?_, ?_, ?_⟩ <;> (try simp (disch := omega) only [uF_e, uF_o, uF_k, uG_e, uG_o, uN_e, uN_k, true_or, or_true]) <;> omega
      · unfold RFr
        refine ⟨?_, ?_, ?_, ?_, ?_, ?_, ?_, ?_, ?_, ?_, ?_, ?_, ?_, ?_, ?_⟩ <;> (try simp (disch := omega) only [uF_e, uF_o, uF_k, uG_e, uG_o, uN_e, uN_k, true_or, or_true]) <;> omega
      · intro c h1 h2
        try simp (disch := omega) only [uF_e, uF_o, uF_k, uG_e, uG_o, uN_e, uN_k, true_or, or_true]
        exact hb c h1 h2
      · intro j hj
        try simp (disch := omega) only [uF_e, uF_o, uF_k, uG_e, uG_o, uN_e, uN_k, true_or, or_true] at hj
        try simp (disch := omega) only [uF_e, uF_o, uF_k, uG_e, uG_o, uN_e, uN_k, true_or, or_true]
        exact hu j hj
      · intro j hj
        try simp (disch := omega) only [uF_e, uF_o, uF_k, uG_e, uG_o, uN_e, uN_k, true_or, or_true] at hj
        try simp (disch := omega) only [uF_e, uF_o, uF_k, uG_e, uG_o, uN_e, uN_k, true_or, or_true]
        first | exact hq j hj | exact absurd hj (by omega)
      · intro k hk h9
        try simp (disch := omega) only [uF_e, uF_o, uF_k, uG_e, uG_o, uN_e, uN_k, true_or, or_true]
        exact ht k hk h9
      · intro k hk
        try simp (disch := omega) only [uF_e, uF_o, uF_k, uG_e, uG_o, uN_e, uN_k, true_or, or_true]
        exact hw k hk
      · intro k hk
        try simp (disch := omega) only [uF_e, uF_o, uF_k, uG_e, uG_o, uN_e, uN_k, true_or, or_true]
        exact hp k hk
      · intro k hk h2
        try simp (disch := omega) only [uF_e, uF_o, uF_k, uG_e, uG_o, uN_e, uN_k, true_or, or_true] at h2
        try simp (disch := omega) only [uF_e, uF_o, uF_k, uG_e, uG_o, uN_e, uN_k, true_or, or_true]
        exact hg k hk h2
      · intro h1
        try simp (disch := omega) only [uF_e, uF_o, uF_k, uG_e, uG_o, uN_e, uN_k, true_or, or_true] at h1
        try simp (disch := omega) only [uF_e, uF_o, uF_k, uG_e, uG_o, uN_e, uN_k, true_or, or_true]
        first | exact hl h1 | exact absurd h1 (by decide)
      · unfold RFd
        try simp (disch := omega) only [uF_e, uF_o, uF_k, uG_e, uG_o, uN_e, uN_k, true_or, or_true]
        exact hd
    · rw [if_neg (by decide)]
      obtain ⟨hs, hr, hb, hu, hq, ht, hw, hp, hg, hl, hd⟩ := hF
      obtain ⟨e0, e1, e2, e3, e4, e5, e6, e7, e8, e9, e10, e11, e15, e16, e17, e18, e19, e20, e21, e22, e23, e24, e34, e42, x1, x2, x3⟩ := id hs
      obtain ⟨r0, r1, r2, r3, r4, r5, r6, r7, r8, r9, r10, r11, r12, r13, r14⟩ := id hr
      obtain ⟨p0, p1, p2, p3, p4, p5, p6, p7, p8, p9, p10⟩ := id (ct_R hC)
      obtain ⟨m1, m2, m3, m4, m5, m6⟩ := id (ct_M hC)
      refine ⟨?_, ?_, ?_, ?_, ?_, ?_, ?_, ?_, ?_, ?_, ?_⟩
      · unfold RFs
        refine ⟨?_, ?_, ?_, ?_, ?_, ?_, ?_, ?_, ?_, ?_, ?_, ?_, ?_, ?_, ?_, ?_, ?_, ?_, ?_, ?_, ?_, ?_, ?_, ?_, ?_, ?_, ?_⟩ <;> (try simp (disch := omega) only [uF_e, uF_o, uF_k, uG_e, uG_o, uN_e, uN_k, true_or, or_true]) <;> omega
      · unfold RFr
        refine ⟨?_, ?_, ?_, ?_, ?_, ?_, ?_, ?_, ?_, ?_, ?_, ?_, ?_, ?_, ?_⟩ <;> (try simp (disch := omega) only [uF_e, uF_o, uF_k, uG_e, uG_o, uN_e, uN_k, true_or, or_true]) <;> omega
      · intro c h1 h2
        try simp (disch := omega) only [uF_e, uF_o, uF_k, uG_e, uG_o, uN_e, uN_k, true_or, or_true]
        exact hb c h1 h2
      · intro j hj
        try simp (disch := omega) only [uF_e, uF_o, uF_k, uG_e, uG_o, uN_e, uN_k, true_or, or_true] at hj
        try simp (disch := omega) only [uF_e, uF_o, uF_k, uG_e, uG_o, uN_e, uN_k, true_or, or_true]
        exact hu j hj
      · intro j hj
        try simp (disch := omega) only [uF_e, uF_o, uF_k, uG_e, uG_o, uN_e, uN_k, true_or, or_true] at hj
        try simp (disch := omega) only [uF_e, uF_o, uF_k, uG_e, uG_o, uN_e, uN_k, true_or, or_true]
        first | exact hq j hj | exact absurd hj (by omega)
      · intro k hk h9
        try simp (disch := omega) only [uF_e, uF_o, uF_k, uG_e, uG_o, uN_e, uN_k, true_or, or_true]
        exact ht k hk h9
      · intro k hk
        try simp (disch := omega) only [uF_e, uF_o, uF_k, uG_e, uG_o, uN_e, uN_k, true_or, or_true]
        exact hw k hk
      · intro k hk
        try simp (disch := omega) only [uF_e, uF_o, uF_k, uG_e, uG_o, uN_e, uN_k, true_or, or_true]
        exact hp k hk
      · intro k hk h2
        try simp (disch := omega) only [uF_e, uF_o, uF_k, uG_e, uG_o, uN_e, uN_k, true_or, or_true] at h2
        try simp (disch := omega) only [uF_e, uF_o, uF_k, uG_e, uG_o, uN_e, uN_k, true_or, or_true]
        exact hg k hk h2
      · intro h1
        try simp (disch := omega) only [uF_e, uF_o, uF_k, uG_e, uG_o, uN_e, uN_k, true_or, or_true] at h1
        try simp (disch := omega) only [uF_e, uF_o, uF_k, uG_e, uG_o, uN_e, uN_k, true_or, or_true]
        first | exact hl h1 | exact absurd h1 (by decide)
      · unfold RFd
        try simp (disch := omega) only [uF_e, uF_o, uF_k, uG_e, uG_o, uN_e, uN_k, true_or, or_true]
        exact hd
/-- a unit -/
theorem p_dec (hC : CT S r q T M π μ) (hF : RF π B e w w F N) (hB : B ≤ 99999000) {k l v : Int} (hk : 0 ≤ k ∧ k < π 0 10) (hv : v = 0 ∨ v = 1) (hl2 : l = k + v) (hv1 : v = 1 → k + 1 < π 0 10) (h1 : F 8 0 = 1 → k = F 8 3 ∧ k + v ≤ F 8 2) (h0 : F 8 0 = 0 → k = F 6 0 ∧ v + 1 ≤ F 5 2 ∧ (v = 1 → F 6 1 = k + 1)) (hw0 : 0 ≤ w) : ∃ F' N' pd pm, f_X0_decodeUnit_p1_0 (sR S r F) r k l w = some (pd, sR S r F') ∧ (∀ lane, f_X12_decodesAt_p4_0_b168 M (fu T) (wA T M 6 N) lane v l 0 k = f_X12_decodesAt_p4_0_b231 M (wA T M 6 N') lane l pm) ∧ RF π (B + 2) e 0 0 F' N' ∧ (F 8 0 = 0 → pd = pm) ∧ (pd = 0 ∨ pd = 1) ∧ (pm = 0 ∨ pm = 1) ∧ F' 8 0 = F 8 0 ∧ (F 8 0 = 1 → F' 8 1 = F 8 1 ∧ F' 8 2 = F 8 2 ∧ F' 8 3 = l + 1) ∧ (∀ k, F' 1 k = F 1 k) := by
  have r10 := hF.2.1.2.2.2.2.2.2.2.2.2.2.1
  have hfS := ct_fS hC
  have hfT := ct_fT hC
  obtain ⟨f1, g1⟩ : ∃ f, fu S = f + 3 := ⟨fu S - 3, by omega⟩
  obtain ⟨f2, g2⟩ : ∃ f, fu T = f + 3 := ⟨fu T - 3, by omega⟩
  have hmono : ∀ {B1 : Int} {G : xR} {N1 : Nat → Int}, RF π B1 e 0 0 G N1 → B1 ≤ B + 2 → RF π (B + 2) e 0 0 G N1 := by
    intro B1 G N1 h hb1
    refine ⟨h.1, ?_, h.2.2⟩
    obtain ⟨r0, r1, r2, r3, r4, r5, r6, r7, r8, r9, r10, r11, r12, r13, r14⟩ := h.2.1
    exact ⟨r0, r1, r2, r3, r4, r5, r6, r7, r8, r9, r10, ⟨r11.1, by omega⟩, ⟨r12.1, by omega⟩, r13, r14⟩
  unfold f_X0_decodeUnit_p1_0
  rw [sR_fu, g1, g2]
  obtain ⟨F3, N2, pm, z1, z2, z3, z4, z5, z6, z7, z8, z9⟩ := p_dec1 hC hF (show B ≤ 100000000 by omega) (k := k) (l := l) hk (by omega) (fun h => ⟨(h0 h).1, by have := (h0 h).2.1; omega⟩) (fun h => ⟨(h1 h).1, by have := (h1 h); omega⟩)
  rcases hv with rfl | rfl
  · have el : l = k := by omega
    subst el
    have hpd : (if F 8 0 = 0 then F 7 0 else 0) = 0 ∨ (if F 8 0 = 0 then F 7 0 else 0) = 1 := by
      by_cases c : F 8 0 = 0
      · rw [if_pos c, ← z2 c]
        exact z1
      · rw [if_neg c]
        exact Or.inl rfl
    obtain ⟨F', N', y1, y2, y3, y4, y5⟩ := p_decE hC z3 (k := l) (l := l) (v := 0) (pm := pm) hk (by omega) (Or.inl rfl) hk.2 hpd ⟨hw0, rfl⟩
    refine ⟨F', N', _, pm, ?_, fun lane => ?_, hmono y3 (by omega), fun c => ?_, hpd, z1, by rw [y4, z4], fun c => ⟨by rw [y4, (z6 c).1], by rw [y4, (z6 c).2.1], by rw [y4, (z6 c).2.2]⟩, fun k => by rw [y5, z7]⟩
    · rw [z8, y1]
    · rw [z9, y2]
    · rw [if_pos c, z2 c]
  · have hn := hv1 rfl
    obtain ⟨G3, M2, pm2, w1, w2, w3, w4, w5, w6, w7, w8, w9⟩ := p_dec1 hC z3 (show B + 1 ≤ 100000000 by omega) (k := k + 1) (l := l) (by omega) (by omega) (fun h => by
        have c : F 8 0 = 0 := by omega
        obtain ⟨b1, b2, b3⟩ := h0 c
        obtain ⟨d1, d2⟩ := z5 c
        have d3 := d2 (by omega)
        have d4 := b3 rfl
        omega) (fun h => by
        have c : F 8 0 = 1 := by omega
        obtain ⟨b1, b2⟩ := h1 c
        obtain ⟨d1, d2, d3⟩ := z6 c
        omega)
    have hpd : ∀ x : Int, (x = 0 ∨ x = 1) → ((if F3 8 0 = 0 then F3 7 0 else x) = 0 ∨ (if F3 8 0 = 0 then F3 7 0 else x) = 1) := by
      intro x hx
      by_cases c : F3 8 0 = 0
      · rw [if_pos c, ← w2 c]
        exact w1
      · rw [if_neg c]
        exact hx
    have hp0 : (if F 8 0 = 0 then F 7 0 else 0) = 0 ∨ (if F 8 0 = 0 then F 7 0 else 0) = 1 := by
      by_cases c : F 8 0 = 0
      · rw [if_pos c, ← z2 c]
        exact z1
      · rw [if_neg c]
        exact Or.inl rfl
    have el : l = k + 1 := hl2
    subst el
    obtain ⟨F', N', y1, y2, y3, y4, y5⟩ := p_decE hC w3 (k := k) (l := k + 1) (v := 1) (pm := pm2) hk rfl (Or.inr rfl) hn (hpd _ hp0) ⟨hw0, rfl⟩
    refine ⟨F', N', _, pm2, ?_, fun lane => ?_, hmono y3 (by omega), fun c => ?_, hpd _ hp0, w1, by rw [y4, w4, z4], fun c => ⟨by rw [y4, (w6 (by rw [z4]; exact c)).1, (z6 c).1], by rw [y4, (w6 (by rw [z4]; exact c)).2.1, (z6 c).2.1], by rw [y4, (w6 (by rw [z4]; exact c)).2.2]⟩, fun k => by rw [y5, w7, z7]⟩
    · rw [z8, w8, y1]
    · rw [z9, w9, y2]
    · rw [if_pos (by rw [z4]; exact c), w2 (by rw [z4]; exact c)]
end C6
