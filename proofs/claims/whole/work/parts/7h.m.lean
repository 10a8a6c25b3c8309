/-! mathematics: parse -/
section PA
variable {S T : xSt} {q q2 s m : Nat} {X Y Y1 Y2 μ μ2 : xR}
theorem tgo_r {z : Int} (h : 0 ≤ z) : 0 ≤ tgo s z ∧ tgo s z ≤ (s : Int) := by
  unfold tgo
  split <;> omega
theorem lkp_of (hD : DR X Y μ) (hs : Y 0 10 = (s : Int)) : LKP Y s := by
  obtain ⟨i1, i2, i3⟩ := hD.2.2.2.1
  refine ⟨hs, by omega, fun k hk => ?_⟩
  obtain ⟨a1, a2, a3, a4, a5, a6⟩ := i3 k (by omega)
  exact ⟨a1, a3, fun h => (a5 h).2⟩
theorem mtp_of (hD : DR X Y μ) (hs : Y 0 10 = (s : Int)) : MTP μ s := by
  obtain ⟨i1, i2, i3⟩ := hD.2.2.2.1
  refine ⟨by omega, fun k hk => ?_⟩
  obtain ⟨a1, a2, a3, a4, a5, a6⟩ := i3 k (by omega)
  rw [a2]
  refine ⟨a1, fun h => ?_⟩
  have := a5 h
  rw [← this.1]
  exact this.2
theorem pr_of (hD : DR X Y μ) (hs : Y 0 10 = (s : Int)) (h1 : LK1 Y Y1 s s) (h2 : ∀ o k : Nat, o ≠ 12 → Y2 o k = Y1 o k) (h3 : ∀ j : Nat, j < s → (lpk Y2 j → Y2 12 j = osm Y2 (Y2 11 j).toNat (j + 1 - (Y2 11 j).toNat)) ∧ (¬ lpk Y2 j → Y2 12 j = -1)) : PR Y2 := by
  obtain ⟨d1, d2, d3, ⟨i1, i2, i3⟩, d5, d6⟩ := hD
  obtain ⟨l1, l2, l3⟩ := h1
  have ey : ∀ o k : Nat, o ≠ 9 → o ≠ 10 → o ≠ 11 → o ≠ 12 → Y2 o k = Y o k := fun o k a b c d => by rw [h2 o k d, l1 o k a b c]
  have e010 := ey 0 10 (by decide) (by decide) (by decide) (by decide)
  have e22 := ey 2 2 (by decide) (by decide) (by decide) (by decide)
  obtain ⟨c1, c2, c3, c4, c5, c6, c7, c8, c9, c10, c11, c12⟩ := d1
  refine ⟨by rw [e010]; exact i2, by rw [h2 9 0 (by decide), l2]; exact d6.1, ?_, ?_, ?_, ?_, ?_, ?_, by rw [e22]; exact d3.2.1, fun j hj => ?_, fun k hk => ?_⟩
  · rw [ey 1 1 (by decide) (by decide) (by decide) (by decide)]
    exact c7
  · rw [ey 1 2 (by decide) (by decide) (by decide) (by decide)]
    exact c8
  · rw [ey 1 3 (by decide) (by decide) (by decide) (by decide)]
    exact c9
  · rw [ey 1 0 (by decide) (by decide) (by decide) (by decide)]
    exact c10
  · rw [ey 1 4 (by decide) (by decide) (by decide) (by decide)]
    exact c11
  · rw [ey 1 5 (by decide) (by decide) (by decide) (by decide)]
    exact c12
  · rw [e22] at hj
    obtain ⟨a1, a2, a3⟩ := d3.2.2 j hj
    rw [ey 3 j (by decide) (by decide) (by decide) (by decide), ey 4 j (by decide) (by decide) (by decide) (by decide)]
    exact ⟨a2.1, a2.2, a3.1, a3.2⟩
  · rw [e010, hs] at hk
    obtain ⟨a1, a2, a3, a4, a5, a6⟩ := i3 k (by omega)
    obtain ⟨b1, b2, b3, b4⟩ := l3 k (by omega)
    have e5 := ey 5 k (by decide) (by decide) (by decide) (by decide)
    refine ⟨by rw [e5]; exact a1, by rw [ey 6 k (by decide) (by decide) (by decide) (by decide)]; exact a3, fun h => ?_, fun h => ?_, fun h => ?_, ?_, ?_, (h3 k (by omega)).1, (h3 k (by omega)).2⟩
    · rw [e5] at h
      rw [h2 11 k (by decide), b3 h, e010, hs]
      exact tgo_r (by have := a5 h; omega)
    · rw [e5] at h
      rw [h2 11 k (by decide), b4 h]
    · rw [e5] at h
      rw [ey 8 k (by decide) (by decide) (by decide) (by decide)]
      exact (a6 h).2
    · rw [h2 10 k (by decide), b2, e5]
    · rw [h2 9 (k + 1) (by decide), h2 9 k (by decide), b1, e5, ey 6 k (by decide) (by decide) (by decide) (by decide)]
theorem pm_of (hD : DR X Y μ) (hs : Y 0 10 = (s : Int)) (h1 : LK1 Y Y1 s s) (h2 : ∀ o k : Nat, o ≠ 12 → Y2 o k = Y1 o k) (m1 : μ2 0 1 = (s : Int)) (m2 : μ2 0 2 = μ 0 33) (m3 : μ2 0 3 = μ 0 34) (m4 : μ2 0 4 = μ 0 35) (m8 : ∀ j : Nat, j < s → μ2 1 j = μ 14 j ∧ μ2 2 j = μ 15 j ∧ μ2 3 j = (if 8 ≤ μ 14 j then tgo s ((j : Int) + μ 16 j) else -1) ∧ μ2 4 j = μ 17 j) (m9 : μ2 5 0 = 0) (m10 : ∀ j : Nat, j < s → μ2 5 (j + 1) = μ2 5 j + (tbI 6 (μ 14 j).toNat + μ 15 j)) : PM Y2 μ2 := by
  obtain ⟨d1, d2, d3, ⟨i1, i2, i3⟩, d5, d6⟩ := hD
  obtain ⟨l1, l2, l3⟩ := h1
  have ey : ∀ o k : Nat, o ≠ 9 → o ≠ 10 → o ≠ 11 → o ≠ 12 → Y2 o k = Y o k := fun o k a b c d => by rw [h2 o k d, l1 o k a b c]
  have e010 := ey 0 10 (by decide) (by decide) (by decide) (by decide)
  obtain ⟨c1, c2, c3, c4, c5, c6, c7⟩ := d1
  refine ⟨by rw [m1, e010, hs], ?_, ?_, ?_, fun k hk => ?_, fun k hk => ?_⟩
  · rw [m2, ey 1 1 (by decide) (by decide) (by decide) (by decide), c4]
  · rw [m3, ey 1 2 (by decide) (by decide) (by decide) (by decide), c5]
  · rw [m4, ey 1 3 (by decide) (by decide) (by decide) (by decide), c6]
  · rw [e010, hs] at hk
    obtain ⟨a1, a2, a3, a4, a5, a6⟩ := i3 k (by omega)
    obtain ⟨b1, b2, b3, b4⟩ := l3 k (by omega)
    obtain ⟨x1, x2, x3, x4⟩ := m8 k (by omega)
    have e5 := ey 5 k (by decide) (by decide) (by decide) (by decide)
    refine ⟨by rw [x1, a2, e5], by rw [x2, a4, ey 6 k (by decide) (by decide) (by decide) (by decide)], ?_, fun h => ?_⟩
    · rw [x3, a2, h2 11 k (by decide)]
      by_cases c : 8 ≤ Y 5 k
      · rw [if_pos c, b3 c, (a5 c).1]
      · rw [if_neg c, b4 (by omega)]
    · rw [e5] at h
      rw [x4, ey 8 k (by decide) (by decide) (by decide) (by decide), (a6 h).1]
  · rw [e010, hs] at hk
    have key : ∀ k : Nat, k ≤ s → μ2 5 k = Y2 9 k := by
      intro k
      induction k with
      | zero =>
        intro _
        rw [m9, h2 9 0 (by decide), l2]
        exact d6.1.symm
      | succ k ih =>
        intro hk
        have e := ih (by omega)
        obtain ⟨a1, a2, a3, a4, a5, a6⟩ := i3 k (by omega)
        obtain ⟨b1, b2, b3, b4⟩ := l3 k (by omega)
        rw [m10 k (by omega), e, h2 9 (k + 1) (by decide), b1, h2 9 k (by decide), a2, a4, tb6_3 (Y 5 k).toNat (by omega), Int.add_assoc]
    exact key k (by omega)
theorem uS5 : tbI 5 0 = 4 ∧ tbI 5 1 = 16 ∧ tbI 5 2 = 8 ∧ tbI 5 3 = 16 ∧ tbI 5 4 = 4 ∧ tbI 5 5 = 0 := by decide +kernel
def PAR (m : Nat) (S T : xSt) : Prop := ∃ v S' v' μ', f_X11_parse_p3_0 S 0 = some (v, S') ∧ S'.1 = S.1 ∧ S'.2.1 13 = S.2.1 13 ∧ f_X12_parse_p4_0 T 13 = some (v', sR T 13 μ') ∧ wr v = wr v' ∧ ∃ a b, SIM (BB (m + 1)) a b S'.2.2 S'.2.1 μ'
theorem cs_1 {r : Nat} (h0 : r ≠ 0) (hq : r ≠ q) : (cs S q X Y).2.1 r = S.2.1 r := by
  unfold cs
  rw [sR_n1 h0, sR_n1 hq]
theorem k_par (hI : INV m S) (hT : 10000000 ≤ fu T) (hμ : T.2.1 13 = S.2.1 13) : PAR m S T := by
  obtain ⟨q, q2, hS, hkq, hq, hcx⟩ := inv_cx hI
  obtain ⟨v1, v2, ⟨v3, v4⟩, -⟩ := hI
  obtain ⟨h1, h2, h3, h4, h5, h6, h7, h8, h9, h10⟩ := id hS
  have hbb : BB m ≤ BB (m + 1) := by unfold BB; omega
  have hb0 : 0 ≤ BB (m + 1) := by unfold BB; omega
  have hq2 : q2 = 11 ∨ q2 = 12 := by omega
  have hne : q ≠ q2 := by omega
  have hkq2 : gk S q2 = 2 := by
    rcases hq2 with h | h
    · rw [h]
      exact v2
    · rw [h]
      exact v3
  obtain ⟨i1, i2, i3, i4, i5, i6, i7, i8⟩ := id h10
  have hbt : BT (S.2.1 13 0 21) (fun k => S.2.1 13 13 k) := ⟨i2, fun k hk => (i3 k hk).2⟩
  obtain ⟨hW, X0, Y0, x1, x2, x3, x4, x5, x6, x7, x8, x9, x10, x11, x12⟩ := c_tbegin (X := S.2.1 0) (Y := S.2.1 q2) (a := S.2.1 13 0 21) v1 v4 hkq2 hq2 i2
  have hcs : cs S q2 (S.2.1 0) (S.2.1 q2) = S := by
    unfold cs
    rw [sR_e, sR_e]
  rw [hcs] at x1
  obtain ⟨μc, c1, c2, c3, c4, c5, c6, c7, c8, c9, c10, c11⟩ := m_clears (T := T) (μ := uF (uF (uF (S.2.1 13) 0 0 0) 0 29 0) 0 30 (-1)) hT
  have hT13 : T = sR T 13 (S.2.1 13) := sR_i hμ
  obtain ⟨p, e, t, v, hN⟩ := t_next (S := wP (wP S 0 2 0 (0, 1)) 0 2 2 (q2, 0)) (T := T) (q := q2) (x := 0) hW.1 hT hbt ⟨Int.le_refl _, i2.1⟩
  have hMB : MB (S.2.1 13 0 21) (fun k => S.2.1 13 13 k) (uF (uF (uF μc 0 22 (μc 0 21)) 0 21 0) 0 23 0) := by
    refine ⟨?_, fun k hk => ?_⟩
    · rw [uF_n (by omega), uF_n (by omega), uF_e, c11 0 21 (by decide) (by omega)]
      simp (disch := omega) only [uF_e, uF_n]
    · rw [uF_n (by omega), uF_n (by omega), uF_n (by omega), c11 13 k (by decide) (by omega)]
      simp (disch := omega) only [uF_e, uF_n]
  obtain ⟨μ1, n1, n2, n3⟩ := hN.2.2.2 _ hMB uF_e
  have href : f_X12_parse_p4_0 T 13 = f_X12_parse_p4_0_b23 13 (fu T) (sR T 13 μ1) := by
    rw [hT13]
    unfold f_X12_parse_p4_0 f_X12_startsReading_p4_0
    rw [sR_w, lt1_e, sR_w, lt1_e, sR_w, lt1_e, c1, bd_e, sR_g, sR_w, lt1_e, sR_w, lt1_e, sR_w, lt1_e, n1, bd_e, bd_e]
    rw [← hT13]
    rfl
  have mu0 : ∀ o k : Nat, o ≠ 7 → ¬ (o = 0 ∧ (k = 0 ∨ k = 21 ∨ k = 22 ∨ (23 ≤ k ∧ k ≤ 28) ∨ k = 29 ∨ k = 30 ∨ (31 ≤ k ∧ k ≤ 35))) → μ1 o k = S.2.1 13 o k := fun o k a1 a2 => by
    rw [n3 o k (by omega), uF_n (by omega), uF_n (by omega), uF_n (by omega), c11 o k a1 (by omega), uF_n (by omega), uF_n (by omega), uF_n (by omega)]
  have e29 : μ1 0 29 = 0 := by
    rw [n3 0 29 (by omega), uF_n (by omega), uF_n (by omega), uF_n (by omega), c11 0 29 (by omega) (by omega), uF_n (by omega), uF_e]
  have e30 : μ1 0 30 = -1 := by
    rw [n3 0 30 (by omega), uF_n (by omega), uF_n (by omega), uF_n (by omega), c11 0 30 (by omega) (by omega), uF_e]
  have e0 : μ1 0 0 = 0 := by
    rw [n3 0 0 (by omega), uF_n (by omega), uF_n (by omega), uF_n (by omega), c11 0 0 (by omega) (by omega), uF_n (by omega), uF_n (by omega), uF_e]
  have e21 : μ1 0 21 = 0 := by
    rw [n3 0 21 (by omega), uF_n (by omega), uF_e]
  have ed : ∀ k : Nat, 31 ≤ k → k ≤ 35 → μ1 0 k = μc 0 k := fun k a1 a2 => by
    rw [n3 0 k (by omega), uF_n (by omega), uF_n (by omega), uF_n (by omega)]
  have e7 : ∀ k : Nat, μ1 7 k = μc 7 k := fun k => by
    rw [n3 7 k (by omega), uF_n (by omega), uF_n (by omega), uF_n (by omega)]
  have hCB : CB (S.2.1 13 0 21) (fun k => S.2.1 13 13 k) X0 := ⟨x2, fun k hk => by
    rw [x8 1 k (by decide) (by decide)]
    exact (i3 k hk).1⟩
  have hSN : SN (wP (wP S 0 2 0 (0, 1)) 0 2 2 (q2, 0)) T q2 (S.2.1 13 0 21) (fun k => S.2.1 13 13 k) X0 μ1 0 p e t v := ⟨hCB, x3, hN, n2, e29⟩
  obtain ⟨u0, u1, u2, u3, u4, u5⟩ := uS5
  have hD0 : DR X0 Y0 μ1 := by
    refine ⟨?_, ⟨0, by decide, ?_, fun s hs => ?_⟩, ⟨?_, ?_, fun j hj => ?_⟩, ⟨?_, ?_, fun k hk => ?_⟩, fun k a1 a2 a3 => ?_, x12, e30⟩
    · unfold DRs
      rw [x9 0 (by decide), x9 1 (by decide), x9 2 (by decide), x9 3 (by decide), x9 4 (by decide), x9 5 (by decide), e7, e7, e7, ed 33 (by decide) (by decide), ed 34 (by decide) (by decide), ed 35 (by decide) (by decide), c4, c5, c6, c7, c8, c10 2 (by decide) (by decide) (by decide) (by decide), u0, u1, u2, u3, u4, u5]
      decide
    · rw [ed 32 (by decide) (by decide), c3]
      rfl
    · rw [x7 s hs]
      have : ∀ s : Nat, s < 6 → (0 : Int) = ((0 / 2 ^ s % 2 : Nat) : Int) := by decide
      exact this s hs
    · rw [x10, e7, c10 34 (by decide) (by decide) (by decide) (by decide)]
    · rw [x10]
      decide
    · rw [x10] at hj
      exact absurd hj (by omega)
    · rw [x11, ed 31 (by decide) (by decide), c2]
    · rw [x11]
      decide
    · rw [x11] at hk
      exact absurd hk (by omega)
    · rw [e7]
      by_cases c : k = 15
      · rw [c, c9, if_pos rfl]
      · rw [c10 k a2 (by omega) (by omega) c, if_neg c]
  have hpn := hN.1.1
  have hcl : f_X11_parse_p3_0 S 0 = (bd2 (gB q2 (fu S) (cs (wP (wP S 0 2 0 (0, 1)) 0 2 2 (q2, 0)) q2 X0 Y0) 0) fun v4 S3 => lt1 (wI S3 0 0 1 0) fun S6 => if ¬ wr v4 = 0 then (ckP S6 0 0 4 2 0 fun rg7 => ckP S6 0 0 5 2 0 fun rg8 => lt1 (wP S6 0 0 4 (rg8, 0)) fun S9 => lt1 (wP S9 0 0 5 (rg7, 0)) fun S10 => ckP S10 0 0 4 2 0 fun rg11 => bd (f_X0_begin_p1_0_2_0 S10 (0 + 1) rg11) fun S13 => bd (f_X1_forget_p3_8 S13 0) fun S15 => lt1 (wI S15 0 0 9 0) fun S16 => ckP S16 0 0 4 2 0 fun rg17 => some (gI S16 rg17 0 10, S16)) else some (-1, S6)) := by
    unfold f_X11_parse_p3_0
    rw [ckP_e (S := S) h3 hkq2]
    unfold f_X3_readText_p3_2_3_1_2_0
    have e1 : gI S 0 0 1 = S.2.1 13 0 21 := i1
    rw [e1, x1, bd_e]
    rfl
  have hfS : fu S = fu (wP (wP S 0 2 0 (0, 1)) 0 2 2 (q2, 0)) := rfl
  rcases k_top hW hT hbt 602 X0 Y0 μ1 0 p e t v (fu T) hSN hD0 x4 (by omega) (by omega) with ⟨k, X', Y', μ', a1, a2, a3, a4, a5, a6, a7⟩ | ⟨k, X', Y', μ', a1, a2, a3, a4⟩
  · obtain ⟨f, hf⟩ : ∃ f, fu S = f + k + 1 := ⟨fu S - k - 1, by omega⟩
    obtain ⟨s, hs⟩ : ∃ s : Nat, Y' 0 10 = (s : Int) := ⟨(Y' 0 10).toNat, by have := a4.2.2.2.1.2.1; omega⟩
    obtain ⟨Y1, Y2, l1, l2, l3, l4⟩ := c_link (S := sR (wP (wP S 0 2 0 (0, 1)) 0 2 2 (q2, 0)) 0 X') (q := q2) v1 (lkp_of a4 hs)
    have h31 : μ' 0 31 = (s : Int) := by rw [← a4.2.2.2.1.1, hs]
    obtain ⟨μ2, t1, t2, t3, t4, t5, t6, t7, t8, t9, t10, t11, t12⟩ := m_take (T := T) hT h31 (mtp_of a4 hs)
    have hPR := pr_of a4 hs l2 l3 l4
    have hPM := pm_of a4 hs l2 l3 t3 t4 t5 t6 t10 t11 t12
    have ey : ∀ o k : Nat, o ≠ 9 → o ≠ 10 → o ≠ 11 → o ≠ 12 → Y2 o k = Y' o k := fun o k z1 z2 z3 z4 => by rw [l3 o k z4, l2.1 o k z1 z2 z3]
    have hlink : f_X5_link_p2_0 (cs (wP (wP S 0 2 0 (0, 1)) 0 2 2 (q2, 0)) q2 X' Y') q2 = some (cs (wP (wP S 0 2 0 (0, 1)) 0 2 2 (q2, 0)) q2 X' Y2) := by
      rw [cs_q hW, cs_q hW]
      exact l1
    have hg := a1 f 0 (Int.le_refl _) (Int.le_refl _)
    rw [← hf, hlink, bd_e] at hg
    obtain ⟨G, b1, b2⟩ := p_begin (S := wP (wP (cs (wP (wP S 0 2 0 (0, 1)) 0 2 2 (q2, 0)) q2 (uF X' 0 1 0) Y2) 0 0 4 (q2, 0)) 0 0 5 (q, 0)) (q := q2) (r := 1) v1 (by omega)
    have eY : (wP (wP (cs (wP (wP S 0 2 0 (0, 1)) 0 2 2 (q2, 0)) q2 (uF X' 0 1 0) Y2) 0 0 4 (q2, 0)) 0 0 5 (q, 0)).2.1 q2 = Y2 := by
      rw [wP_1, wP_1]
      unfold cs
      rw [sR_n1 (by omega), sR_g1]
    rw [eY] at b2
    have hcg : f_X11_parse_p3_0 S 0 = some (Y2 0 10, sR (sR (wP (wP (wP (cs (wP (wP S 0 2 0 (0, 1)) 0 2 2 (q2, 0)) q2 (uF X' 0 1 0) Y2) 0 0 4 (q2, 0)) 0 0 5 (q, 0)) 1 0 0 (q2, 0)) 1 G) 0 (uF (uF (uF X' 0 1 0) 8 2 0) 0 9 0)) := by
      have e13 : (sR (wP (wP (wP (cs (wP (wP S 0 2 0 (0, 1)) 0 2 2 (q2, 0)) q2 (uF X' 0 1 0) Y2) 0 0 4 (q2, 0)) 0 0 5 (q, 0)) 1 0 0 (q2, 0)) 1 G).2.1 0 = uF X' 0 1 0 := by
        rw [sR_n1 (by decide), wP_1, wP_1, wP_1]
        exact sR_g1
      have e8 : wI (sR (wP (wP (wP (cs (wP (wP S 0 2 0 (0, 1)) 0 2 2 (q2, 0)) q2 (uF X' 0 1 0) Y2) 0 0 4 (q2, 0)) 0 0 5 (q, 0)) 1 0 0 (q2, 0)) 1 G) 0 8 2 0 = sR (sR (wP (wP (wP (cs (wP (wP S 0 2 0 (0, 1)) 0 2 2 (q2, 0)) q2 (uF X' 0 1 0) Y2) 0 0 4 (q2, 0)) 0 0 5 (q, 0)) 1 0 0 (q2, 0)) 1 G) 0 (uF (uF X' 0 1 0) 8 2 0) := by
        rw [sR_0, e13]
      rw [hcl, hg, bd2_e, cs_wx, lt1_e, if_pos (by decide), ckP_e (S := cs (wP (wP S 0 2 0 (0, 1)) 0 2 2 (q2, 0)) q2 (uF X' 0 1 0) Y2) (q := q) (r := 0) (o := 0) (k := 4) (oo := 0) h2 hkq, ckP_e (S := cs (wP (wP S 0 2 0 (0, 1)) 0 2 2 (q2, 0)) q2 (uF X' 0 1 0) Y2) (q := q2) (r := 0) (o := 0) (k := 5) (oo := 0) h3 hkq2, lt1_e, lt1_e, ckP_e (S := wP (wP (cs (wP (wP S 0 2 0 (0, 1)) 0 2 2 (q2, 0)) q2 (uF X' 0 1 0) Y2) 0 0 4 (q2, 0)) 0 0 5 (q, 0)) (q := q2) (r := 0) (o := 0) (k := 4) (oo := 0) rfl hkq2, show (0 + 1 : Nat) = 1 from rfl, b1, bd_e]
      unfold f_X1_forget_p3_8
      rw [lt1_e, bd_e, e8, sR_w, lt1_e, ckP_e (S := sR (sR (wP (wP (wP (cs (wP (wP S 0 2 0 (0, 1)) 0 2 2 (q2, 0)) q2 (uF X' 0 1 0) Y2) 0 0 4 (q2, 0)) 0 0 5 (q, 0)) 1 0 0 (q2, 0)) 1 G) 0 (uF (uF (uF X' 0 1 0) 8 2 0) 0 9 0)) (q := q2) (r := 0) (o := 0) (k := 4) (oo := 0) rfl hkq2, sR_n (by omega), sR_n (by omega)]
      have e9 : gI (wP (wP (wP (cs (wP (wP S 0 2 0 (0, 1)) 0 2 2 (q2, 0)) q2 (uF X' 0 1 0) Y2) 0 0 4 (q2, 0)) 0 0 5 (q, 0)) 1 0 0 (q2, 0)) q2 0 10 = Y2 0 10 := cs_y hW
      rw [e9]
    have hb45 : f_X12_parse_p4_0_b45 13 (sR T 13 μ') = some (μ2 0 1, sR T 13 μ2) := by
      unfold f_X12_parse_p4_0_b45
      rw [m_fine a3, bd2_e, if_pos (by decide), t1, bd_e, sR_g]
    have e010 : Y2 0 10 = (s : Int) := by rw [ey 0 10 (by decide) (by decide) (by decide) (by decide), hs]
    have cx : ∀ o k : Nat, o ≠ 2 → o ≠ 3 → o ≠ 4 → o ≠ 5 → X' o k = S.2.1 0 o k := fun o k y1 y2 y3 y4 => by
      rw [a5 o k (by omega) y2 (by omega), x8 o k y1 y2]
    have m0 : ∀ o k : Nat, ¬ (1 ≤ o ∧ o ≤ 7) → ¬ (14 ≤ o ∧ o ≤ 17) → ¬ (o = 0 ∧ (k ≤ 4 ∨ k = 16 ∨ k = 17 ∨ (21 ≤ k ∧ k ≤ 35))) → μ2 o k = S.2.1 13 o k := fun o k y1 y2 y3 => by
      rw [t2 o k (by omega) (by omega), a6 o k (by omega) (by omega) y2, mu0 o k (by omega) (by omega)]
    refine ⟨_, _, _, μ2, hcg, rfl, ?_, href.trans (a2.trans hb45), by rw [e010, t3], q2, q, ?_⟩
    · rw [sR_n1 (by decide), sR_n1 (by decide), wP_1, wP_1, wP_1, cs_1 (by decide) (by omega)]
      rfl
    · generalize hST : (sR (sR (wP (wP (wP (cs (wP (wP S 0 2 0 (0, 1)) 0 2 2 (q2, 0)) q2 (uF X' 0 1 0) Y2) 0 0 4 (q2, 0)) 0 0 5 (q, 0)) 1 0 0 (q2, 0)) 1 G) 0 (uF (uF (uF X' 0 1 0) 8 2 0) 0 9 0)) = ST
      have g0 : ST.2.1 0 = uF (uF (uF X' 0 1 0) 8 2 0) 0 9 0 := by
        rw [← hST]
        exact sR_g1
      have g1 : ST.2.1 1 = G := by
        rw [← hST, sR_n1 (by decide)]
        exact sR_g1
      have gq : ST.2.1 q2 = Y2 := by
        rw [← hST, sR_n1 (by omega), sR_n1 (by omega), wP_1]
        exact eY
      have p4 : ST.2.2 0 0 4 = (q2, 0) := by
        rw [← hST]
        rfl
      have p5 : ST.2.2 0 0 5 = (q, 0) := by
        rw [← hST]
        rfl
      have p1 : ST.2.2 1 0 0 = (q2, 0) := by
        rw [← hST]
        rfl
      obtain ⟨y1, y2, y3, -⟩ := h8
      obtain ⟨s0, s4, s5, -⟩ := a4.1
      have e6 : FRN (μ2 6) Y2 := by
        refine ⟨?_, ?_, ?_, ?_, fun j hj => ?_, fun k k1 k2 k3 => ?_⟩
        · rw [t9 0 (by decide), ey 1 0 (by decide) (by decide) (by decide) (by decide), s0]
        · rw [t9 1 (by decide), ey 1 4 (by decide) (by decide) (by decide) (by decide), s4]
        · rw [t9 2 (by decide), ey 1 5 (by decide) (by decide) (by decide) (by decide), s5]
        · rw [t9 34 (by decide), ey 2 2 (by decide) (by decide) (by decide) (by decide), a4.2.2.1.1]
        · rw [ey 2 2 (by decide) (by decide) (by decide) (by decide)] at hj
          have := a4.2.2.1.2.1
          rw [t9 (35 + j) (by omega), ey 3 j (by decide) (by decide) (by decide) (by decide), ey 4 j (by decide) (by decide) (by decide) (by decide)]
          exact (a4.2.2.1.2.2 j hj).1
        · rw [t9 k k2]
          exact a4.2.2.2.2.1 k k1 k2 k3
      have e21' : μ2 0 21 = 0 := by rw [t2 0 21 (by omega) (by omega), a6 0 21 (by omega) (by omega) (by omega), e21]
      refine ⟨by omega, p4, p5, p1, ?_, ?_, ?_, ?_, ?_, ?_⟩
      · rw [gq]
        exact hPR
      · rw [gq]
        exact hPM
      · rw [gq, g1]
        exact gf_fre hPR hb0 b2 e6
      · refine ⟨?_, ?_, ?_, fun i hi => ?_⟩
        · rw [g0, t7]
          simp (disch := omega) only [uF_e, uF_n]
        · rw [t7]
          decide
        · rw [g0, uF_n (by omega), uF_n (by omega), uF_n (by omega), cx 8 1 (by decide) (by decide) (by decide) (by decide)]
          exact y3
        · rw [t7] at hi
          exact absurd hi (by omega)
      · refine ⟨?_, ?_, fun h => ?_⟩
        · rw [g0, t8, uF_e]
        · rw [t8]
          exact Or.inl rfl
        · rw [t8] at h
          exact absurd h (by decide)
      · rw [g0]
        refine ⟨?_, ?_, fun k hk => ?_, ?_, ?_, ?_, ?_, fun k hk => ?_⟩
        · rw [uF_n (by omega), uF_n (by omega), uF_e, e21']
        · rw [e21']
          decide
        · rw [e21'] at hk
          exact absurd hk (by omega)
        · rw [uF_n (by omega), uF_n (by omega), uF_n (by omega), a5 2 11 (by omega) (by omega) (by omega), x5, t2 0 29 (by omega) (by omega), a3]
        · rw [uF_n (by omega), uF_n (by omega), uF_n (by omega), a5 2 12 (by omega) (by omega) (by omega), x6, t2 0 30 (by omega) (by omega), a4.2.2.2.2.2.2]
        · rw [uF_n (by omega), uF_n (by omega), uF_n (by omega), cx 6 1 (by decide) (by decide) (by decide) (by decide), m0 0 41 (by omega) (by omega) (by omega), i6]
        · rw [m0 0 41 (by omega) (by omega) (by omega)]
          exact i7
        · rw [m0 0 41 (by omega) (by omega) (by omega)] at hk
          rw [uF_n (by omega), uF_n (by omega), uF_n (by omega), cx 7 k (by decide) (by decide) (by decide) (by decide), m0 18 k (by omega) (by omega) (by omega), i8 k hk]
  · obtain ⟨f, hf⟩ : ∃ f, fu S = f + k + 1 := ⟨fu S - k - 1, by omega⟩
    have hg := a1 f 0 (Int.le_refl _) (Int.le_refl _)
    rw [← hf] at hg
    obtain ⟨c, z1, z2, z3, z4, z5, z6⟩ := a3
    have m0 : ∀ o k : Nat, ¬ (o = 0 ∧ (k = 0 ∨ (21 ≤ k ∧ k ≤ 35))) → o ≠ 7 → ¬ (14 ≤ o ∧ o ≤ 17) → μ' o k = S.2.1 13 o k := fun o k y1 y2 y3 => by
      rw [z6 o k (by omega) y2 y3, mu0 o k y2 (by omega)]
    have cx : ∀ o k : Nat, o ≠ 2 → o ≠ 3 → o ≠ 4 → o ≠ 5 → X' o k = S.2.1 0 o k := fun o k y1 y2 y3 y4 => by
      rw [z5 o k y1 y2 y3 y4, x8 o k y1 y2]
    refine ⟨-1, cs (wP (wP S 0 2 0 (0, 1)) 0 2 2 (q2, 0)) q2 (uF X' 0 1 0) Y', -1, μ', ?_, rfl, ?_, href.trans a2, rfl, q, q2, ?_⟩
    · rw [hcl, hg, bd2_e, cs_wx, lt1_e, if_neg (by decide)]
    · rw [cs_1 (by decide) (by omega)]
      rfl
    · have g0 : (cs (wP (wP S 0 2 0 (0, 1)) 0 2 2 (q2, 0)) q2 (uF X' 0 1 0) Y').2.1 0 = uF X' 0 1 0 := sR_g1
      have gr : ∀ r : Nat, r ≠ 0 → r ≠ q2 → (cs (wP (wP S 0 2 0 (0, 1)) 0 2 2 (q2, 0)) q2 (uF X' 0 1 0) Y').2.1 r = S.2.1 r := fun r y1 y2 => cs_1 y1 y2
      have row : ∀ o, o ≠ 0 → o ≠ 7 → ¬ (14 ≤ o ∧ o ≤ 17) → μ' o = S.2.1 13 o := fun o y1 y2 y3 => by
        funext k
        exact m0 o k (by omega) y2 y3
      refine ⟨h1, h2, h3, h4, ?_, ?_, ?_, ?_, ?_, ?_⟩
      · rw [gr q (by omega) hne]
        exact h5
      · rw [gr q (by omega) hne]
        unfold PM at h6 ⊢
        rw [m0 0 1 (by omega) (by omega) (by omega), m0 0 2 (by omega) (by omega) (by omega), m0 0 3 (by omega) (by omega) (by omega), m0 0 4 (by omega) (by omega) (by omega), row 1 (by decide) (by decide) (by omega), row 2 (by decide) (by decide) (by omega), row 3 (by decide) (by decide) (by omega), row 4 (by decide) (by decide) (by omega), row 5 (by decide) (by decide) (by omega)]
        exact h6
      · rw [gr q (by omega) hne, gr 1 (by decide) (by omega), row 6 (by decide) (by decide) (by omega)]
        exact gf_mono h7 hbb
      · obtain ⟨w1, w2, w3, w4⟩ := shi_mono h8 hbb
        have e81 : (uF X' 0 1 0) 8 1 = S.2.1 0 8 1 := by rw [uF_n (by omega), cx 8 1 (by decide) (by decide) (by decide) (by decide)]
        unfold SHI
        rw [g0, e81, uF_n (by omega), cx 8 2 (by decide) (by decide) (by decide) (by decide), m0 0 16 (by omega) (by omega) (by omega), row 11 (by decide) (by decide) (by omega), gr q (by omega) hne]
        refine ⟨w1, w2, w3, fun i hi => ?_⟩
        have w := w4 i hi
        rw [gr _ (by omega) (by omega)]
        refine ⟨?_, w.2⟩
        rw [← w.1]
        exact (if_neg (by omega)).trans (if_neg (by omega))
      · obtain ⟨w1, w2, w3⟩ := ssa_mono h9 hbb
        unfold SSA
        rw [g0, uF_n (by omega), cx 0 9 (by decide) (by decide) (by decide) (by decide), m0 0 17 (by omega) (by omega) (by omega), row 10 (by decide) (by decide) (by omega), gr q (by omega) hne, gr 3 (by decide) (by omega)]
        exact ⟨w1, w2, w3⟩
      · rw [g0]
        refine ⟨?_, ?_, fun k hk => ?_, ?_, ?_, ?_, ?_, fun k hk => ?_⟩
        · rw [uF_e, z6 0 21 (by omega) (by omega) (by omega), e21]
        · rw [z6 0 21 (by omega) (by omega) (by omega), e21]
          decide
        · rw [z6 0 21 (by omega) (by omega) (by omega), e21] at hk
          exact absurd hk (by omega)
        · rw [uF_n (by omega), z2, z3]
        · rw [uF_n (by omega), z4]
        · rw [uF_n (by omega), cx 6 1 (by decide) (by decide) (by decide) (by decide), m0 0 41 (by omega) (by omega) (by omega), i6]
        · rw [m0 0 41 (by omega) (by omega) (by omega)]
          exact i7
        · rw [m0 0 41 (by omega) (by omega) (by omega)] at hk
          rw [uF_n (by omega), cx 7 k (by decide) (by decide) (by decide) (by decide), m0 18 k (by omega) (by omega) (by omega), i8 k hk]
theorem k_parse (hI : INV m S) : CALL m S (f_X11_parse_p3_0 S 0) (fun T => f_X12_parse_p4_0 T 13) (fun v v' _ => wr v = wr v') := by
  obtain ⟨v, S', v0, μ0, p1, p2, p3, p4, p5, p6⟩ := k_par hI hI.1 rfl
  refine ⟨v, S', p1, p2, p3, fun T hT hμ => ?_⟩
  obtain ⟨w, S2, v', μ', r1, r2, r3, r4, r5, a, b, r6⟩ := k_par hI hT hμ
  have e := p1.symm.trans r1
  injection e with e2
  injection e2 with e3 e4
  subst e3
  subst e4
  exact ⟨v', μ', a, b, r4, r5, r6⟩
end PA
