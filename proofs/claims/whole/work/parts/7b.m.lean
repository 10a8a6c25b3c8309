/-! mathematics: a rule of the text -/
def fend (S : xSt) (x2 : Int) : Option xSt := bd (f_X12_goOn_p4_0 S 13) fun S24 => bd2 (f_X12_fine_p4_0 S24 13) fun v27 S26 => if ¬ wr v27 = 0 then (ckI (35 + (gI S26 13 7 34)) 363 <| lt1 (wI S26 13 7 (wr (35 + (gI S26 13 7 34))).toNat x2) fun S30 => lt1 (wI S30 13 7 34 ((gI S30 13 7 34) + 1)) fun S31 => some S31) else some S26
theorem r34 (j : Nat) : ¬ (7 = 7 ∧ 35 + j = 34) := by omega
section RU
variable {S T : xSt} {q s r : Nat} {n x p e t v : Int} {b : Nat → Int} {X X' Y μ μ1 μ2 μ' : xR}
theorem c_rhas (hS : W2 q S) (hr : Y 2 2 = (r : Int)) (hr6 : r ≤ 6) (hj : ∀ j : Nat, j < r → (0 ≤ Y 3 j ∧ Y 3 j ≤ 7) ∧ (0 ≤ Y 4 j ∧ Y 4 j ≤ 9)) {k1 k2 : Int} (h1 : 0 ≤ k1 ∧ k1 ≤ 9) (h2 : 0 ≤ k2 ∧ k2 ≤ 9) : ((∃ j : Nat, j < r ∧ Y 3 j = k1 ∧ Y 4 j = k2) ∧ f_X8_has_p2_2 (cs S q X Y) q k1 k2 = some (1, cs S q X Y)) ∨ ((∀ j : Nat, j < r → ¬ (Y 3 j = k1 ∧ Y 4 j = k2)) ∧ f_X8_has_p2_2 (cs S q X Y) q k1 k2 = some (0, cs S q X Y)) := by
  have key : ∀ (d j f : Nat), j + d = r → d < f → (∀ i : Nat, i < j → ¬ (Y 3 i = k1 ∧ Y 4 i = k2)) → ((∃ j : Nat, j < r ∧ Y 3 j = k1 ∧ Y 4 j = k2) ∧ f_X8_has_p2_2_b2 q f (cs S q X Y) k1 k2 (j : Int) = some (1, cs S q X Y)) ∨ ((∀ j : Nat, j < r → ¬ (Y 3 j = k1 ∧ Y 4 j = k2)) ∧ f_X8_has_p2_2_b2 q f (cs S q X Y) k1 k2 (j : Int) = some (0, cs S q X Y)) := by
    intro d
    induction d with
    | zero =>
      intro j f hjd hf hall
      obtain ⟨f, rfl⟩ := fs_e (show 0 < f by omega)
      right
      have ej : j = r := by omega
      subst ej
      refine ⟨hall, ?_⟩
      rw [f_X8_has_p2_2_b2, cs_y hS, hr, if_pos (Int.le_refl _)]
    | succ d ih =>
      intro j f hjd hf hall
      obtain ⟨f, rfl⟩ := fs_e (show 0 < f by omega)
      have hj0 := hj j (by omega)
      have i := ih (j + 1) f (by omega) (by omega)
      rw [show ((j + 1 : Nat) : Int) = ((j : Nat) : Int) + 1 by omega] at i
      rw [f_X8_has_p2_2_b2, cs_y hS, hr, wr_e (z := (r : Int)) (by omega), wr_e (z := (j : Int)) (by omega), if_neg (by omega), ckI_e (by omega), cs_y hS, Int.toNat_natCast, wr_e (z := Y 3 j) (by omega), wr_e (z := k1) (by omega)]
      by_cases c1 : Y 3 j = k1
      · rw [if_neg (fun h => h c1), ckI_e (by omega), cs_y hS, wr_e (z := Y 4 j) (by omega), wr_e (z := k2) (by omega)]
        by_cases c2 : Y 4 j = k2
        · rw [if_neg (fun h => h c2)]
          exact Or.inl ⟨⟨j, by omega, c1, c2⟩, rfl⟩
        · rw [if_pos c2]
          exact i (fun a ha => by
            by_cases e9 : a = j
            · subst e9
              exact fun h => c2 h.2
            · exact hall a (by omega))
      · rw [if_pos c1]
        exact i (fun a ha => by
          by_cases e9 : a = j
          · subst e9
            exact fun h => c1 h.1
          · exact hall a (by omega))
  exact key r 0 (fu (cs S q X Y)) (by omega) (by rw [cs_fu]; have := hS.1.2.2; omega) (fun i hi => absurd hi (by omega))
theorem c_rapp (hS : W2 q S) (hr : Y 2 2 = (r : Int)) (hr6 : r < 6) {k1 k2 : Int} : f_X8_append_p2_2 (cs S q X Y) q k1 k2 = some (cs S q X (uF (uF (uF Y 3 r k1) 4 r k2) 2 2 ((r : Int) + 1))) := by
  have ew : wr ((r : Nat) : Int) = (r : Int) := wr_e (by omega)
  unfold f_X8_append_p2_2
  rw [cs_q hS, cs_q hS, sR_g, hr, ew, wr_e (z := 7) (by decide), if_neg (by omega), if_neg (by omega), ckI_e (by omega), Int.toNat_natCast, sR_w, lt1_e, sR_g, uF_n (by omega), hr, ckI_e (by omega), ew, Int.toNat_natCast, sR_w, lt1_e, sR_g, uF_n (by omega), uF_n (by omega), hr, sR_w, lt1_e]
theorem e_b91 (h : HE μ) (hr : μ 7 34 = (r : Int)) (hr6 : r ≤ 6) {x2 : Int} : ∀ (d j f : Nat), j + d = r → d < f → f_X12_readsFuse_p4_0_b91 13 f (sR T 13 μ) x2 (j : Int) = some (sR T 13 μ) := by
  intro d
  induction d with
  | zero =>
    intro j f hjd hf
    obtain ⟨f, rfl⟩ := fs_e (show 0 < f by omega)
    have ej : j = r := by omega
    subst ej
    rw [f_X12_readsFuse_p4_0_b91, sR_g, hr, if_pos (Int.le_refl _), e_on h, bd_e, e_fine h, bd2_e, if_neg (by decide)]
  | succ d ih =>
    intro j f hjd hf
    obtain ⟨f, rfl⟩ := fs_e (show 0 < f by omega)
    have i := ih (j + 1) f (by omega) (by omega)
    rw [show ((j + 1 : Nat) : Int) = ((j : Nat) : Int) + 1 by omega] at i
    rw [f_X12_readsFuse_p4_0_b91, sR_g, hr, wr_e (z := (r : Int)) (by omega), wr_e (z := (j : Int)) (by omega), if_neg (by omega), ckI_e (by omega), e_needs h, bd_e, e_needs h, bd_e, i]
    split <;> rfl
theorem e_b61 (h : HE μ) (hT : 10000000 ≤ fu T) (hr : μ 7 34 = (r : Int)) (hr6 : r ≤ 6) : f_X12_readsFuse_p4_0_b61 13 (sR T 13 μ) = some (sR T 13 μ) := by
  unfold f_X12_readsFuse_p4_0_b61
  rw [e_on h, bd_e, e_kind h, bd2_e, e_needs h, bd_e]
  exact e_b91 h hr hr6 r 0 _ (by omega) (by show r < fu T; omega)
theorem m_b91 (hc : μ 0 29 = 0) (hr : μ 7 34 = (r : Int)) (hr6 : r ≤ 6) {x2 : Int} (hx : 0 ≤ x2 ∧ x2 ≤ 99) (hj : ∀ j : Nat, j < r → 0 ≤ μ 7 (35 + j) ∧ μ 7 (35 + j) ≤ 99) : ∀ (d j f : Nat), j + d = r → d < f → ((∀ i : Nat, j ≤ i → i < r → μ 7 (35 + i) ≠ x2) ∧ f_X12_readsFuse_p4_0_b91 13 f (sR T 13 μ) x2 (j : Int) = fend (sR T 13 μ) x2) ∨ ((∃ i : Nat, j ≤ i ∧ i < r ∧ μ 7 (35 + i) = x2) ∧ f_X12_readsFuse_p4_0_b91 13 f (sR T 13 μ) x2 (j : Int) = some (sR T 13 (EM μ 3))) := by
  intro d
  induction d with
  | zero =>
    intro j f hjd hf
    obtain ⟨f, rfl⟩ := fs_e (show 0 < f by omega)
    have ej : j = r := by omega
    subst ej
    left
    refine ⟨fun i a1 a2 => absurd a1 (by omega), ?_⟩
    rw [f_X12_readsFuse_p4_0_b91, sR_g, hr, if_pos (Int.le_refl _)]
    rfl
  | succ d ih =>
    intro j f hjd hf
    obtain ⟨f, rfl⟩ := fs_e (show 0 < f by omega)
    have i := ih (j + 1) f (by omega) (by omega)
    have hj0 := hj j (by omega)
    have e3 : ((35 : Int) + ((j : Nat) : Int)).toNat = 35 + j := by omega
    rw [show ((j + 1 : Nat) : Int) = ((j : Nat) : Int) + 1 by omega] at i
    rw [f_X12_readsFuse_p4_0_b91, sR_g, hr, wr_e (z := (r : Int)) (by omega), wr_e (z := (j : Int)) (by omega), if_neg (by omega), ckI_e (by omega), sR_g, wr_e (z := (35 : Int) + ((j : Nat) : Int)) (by omega), e3, wr_e (z := μ 7 (35 + j)) (by omega), wr_e (z := x2) (by omega)]
    by_cases c : μ 7 (35 + j) = x2
    · right
      refine ⟨⟨j, Nat.le_refl _, by omega, c⟩, ?_⟩
      have hE : HE (EM μ 3) := he_EM (by decide)
      have k := e_b91 (T := T) (r := r) (x2 := x2) hE (by unfold EM; rw [uF_n (by omega), uF_n (by omega), hr]) hr6 d (j + 1) f (by omega) (by omega)
      rw [show ((j + 1 : Nat) : Int) = ((j : Nat) : Int) + 1 by omega] at k
      rw [if_pos c, m_no hc, bd_e, k]
    · rw [if_neg c, m_yes, bd_e]
      rcases i with ⟨a1, a2⟩ | ⟨⟨i0, b1, b2, b3⟩, a2⟩
      · left
        refine ⟨fun i h1 h2 => ?_, a2⟩
        by_cases e9 : i = j
        · subst e9
          exact c
        · exact a1 i (by omega) h2
      · right
        exact ⟨⟨i0, by omega, b2, b3⟩, a2⟩
theorem k_rul (hS : W2 q S) (hT : 10000000 ≤ fu T) (hn : BT n b) (hX : CTK n b X p e t v) (hM : MTK n b μ p e t v) (ht : TOK n b p e t v) (hc : μ 0 29 = 0) (hD : DR X Y μ) (ht1 : t = 1) (h10 : X 2 10 = 0) : OUT S T q n b (f_X3_readRule_p3_2 (cs S q X Y) 0) (f_X12_readsFuse_p4_0 (sR T 13 μ) 13) X Y μ p := by
  obtain ⟨d1, d2, ⟨u1, u2, u3⟩, d4, d5, d6⟩ := id hD
  obtain ⟨r, hr⟩ : ∃ r : Nat, Y 2 2 = (r : Int) := ⟨(Y 2 2).toNat, by omega⟩
  have ew : wr ((r : Nat) : Int) = (r : Int) := wr_e (by omega)
  have h34 : μ 7 34 = (r : Int) := by rw [← u1, hr]
  have hr6 : r ≤ 6 := by omega
  have hpe := ht.2.2.2.2 (by omega)
  have hY : ∀ j : Nat, j < r → (0 ≤ Y 3 j ∧ Y 3 j ≤ 7) ∧ (0 ≤ Y 4 j ∧ Y 4 j ≤ 9) := fun j hj => (u3 j (by omega)).2
  by_cases h6 : r < 6
  · obtain ⟨p2, e2, t2, v2, n1⟩ := nx hS hT hn ht
    obtain ⟨X1, r1, r2, r3⟩ := av_c hX n1 Y
    obtain ⟨μ1, g1, g2, g3, g4⟩ := av_m hM hc n1
    have hg1 := m_kind (T := T) g4 g2 n1.1
    have hq1 := c_kind (Y := Y) hS hn r2 n1.1
    have h34a : μ1 7 34 = (r : Int) := by rw [g3 7 34 (by omega), h34]
    have h24a := ck_4 r2 g2
    have hm0 : f_X12_readsFuse_p4_0 (sR T 13 μ) 13 = f_X12_readsFuse_p4_0_b18 13 (sR T 13 μ) 1 := by
      unfold f_X12_readsFuse_p4_0
      rw [sR_g, h34, ew, wr_e (z := 6) (by decide), if_neg (by omega)]
    by_cases c : t2 = 1 ∧ 0 ≤ v2 ∧ v2 ≤ 9
    · rw [if_pos c] at hg1 hq1
      have h26 := g2.2.2.2.2.1 c.1
      have hm1 : f_X12_readsFuse_p4_0 (sR T 13 μ) 13 = (if 8 ≤ v2 then f_X12_readsFuse_p4_0_b57 13 (sR T 13 μ1) 0 else f_X12_readsFuse_p4_0_b57 13 (sR T 13 μ1) 1) := by
        rw [hm0]
        unfold f_X12_readsFuse_p4_0_b18
        rw [m_yes, bd_e, g1, bd_e, hg1, bd2_e, m_yes, bd_e, m_fine g4, bd2_e, if_neg (by decide), sR_g, h26, wr_e (z := v2) (by omega), wr_e (z := 8) (by decide)]
      have hc1 : f_X3_readRule_p3_2 (cs S q X Y) 0 = (if v2 < 8 then (bd (f_X3_readToken_p3_2 (cs S q X1 Y) 0) fun S8 => bd2 (f_X3_kindOfToken_p3_2 S8 0) fun v11 S10 => if ¬ wr v11 = wr (-1) then (ckP S10 0 2 2 2 0 fun rg12 => bd2 (f_X8_has_p2_2 S10 rg12 v2 v11) fun v15 S14 => if wr v15 = 0 then (ckP S14 0 2 2 2 0 fun rg17 => bd (f_X8_append_p2_2 S14 rg17 v2 v11) fun S19 => some (1, S19)) else (bd2 (f_X3_fail_p3_2 S14 0 3) fun v22 S21 => some (v22, S21))) else (bd2 (f_X3_fail_p3_2 S10 0 1) fun v27 S26 => some (v27, S26))) else some (0, cs S q (FX X1 3) Y)) := by
        unfold f_X3_readRule_p3_2
        rw [cs_x, h10, if_pos (by decide), cs_p hS, cs_y hS, hr, ew, wr_e (z := 6) (by decide), if_pos (by omega), r1, bd_e, hq1, bd2_e, wr_e (z := v2) (by omega), if_pos (show ¬ v2 = wr (-1) by rw [wr_e (z := -1) (by decide)]; omega), wr_e (z := 8) (by decide), c_fail, bd2_e]
      by_cases c8 : v2 < 8
      · rw [if_pos c8] at hc1
        rw [if_neg (by omega)] at hm1
        obtain ⟨p3, e3, t3, v3, n2⟩ := nx hS hT hn n1.1
        obtain ⟨X2, r4, r5, r6⟩ := av_c r2 n2 Y
        obtain ⟨μ2, g5, g6, g7, g8⟩ := av_m g2 g4 n2
        have hg2 := m_kind (T := T) g8 g6 n2.1
        have hq2 := c_kind (Y := Y) hS hn r5 n2.1
        have h34b : μ2 7 34 = (r : Int) := by rw [g7 7 34 (by omega), h34a]
        have h24b := ck_4 r5 g6
        have x02 := xf_t r3 r6
        have m02 := mf_t g3 g7
        rw [r4, bd_e, hq2, bd2_e] at hc1
        by_cases c2 : t3 = 1 ∧ 0 ≤ v3 ∧ v3 ≤ 9
        · rw [if_pos c2] at hg2 hc1
          have h26b := g6.2.2.2.2.1 c2.1
          have h7b : ∀ k, μ2 7 k = μ 7 k := fun k => m02 7 k (by omega)
          have hm2 : f_X12_readsFuse_p4_0 (sR T 13 μ) 13 = f_X12_readsFuse_p4_0_b91 13 (fu T) (sR T 13 μ2) (10 * v2 + v3) ((0 : Nat) : Int) := by
            rw [hm1]
            unfold f_X12_readsFuse_p4_0_b57
            rw [m_yes, bd_e]
            unfold f_X12_readsFuse_p4_0_b61
            rw [g5, bd_e, hg2, bd2_e, m_yes, bd_e, sR_g, h26, sR_g, h26b]
            rfl
          rw [wr_e (z := v3) (by omega), wr_e (z := -1) (by decide), if_pos (by omega), cs_p hS] at hc1
          have hmm := m_b91 (T := T) g8 h34b hr6 (x2 := 10 * v2 + v3) (by omega) (fun j hj => by
            have := u3 j (by omega)
            rw [h7b]
            omega) r 0 (fu T) (by omega) (by omega)
          rcases c_rhas (X := X2) hS hr hr6 hY (k1 := v2) (k2 := v3) c.2 c2.2 with ⟨⟨j0, j1, j2, j3⟩, a2⟩ | ⟨a1, a2⟩
          · right
            rcases hmm with ⟨b1, b2⟩ | ⟨b1, b2⟩
            · exact absurd (by rw [h7b, (u3 j0 (by omega)).1, j2, j3]) (b1 j0 (by omega) j1)
            · refine ⟨FX X2 3, Y, EM μ2 3, ?_, hm2.trans b2, err_of (by decide) (xf_b x02) (mf_d m02) h24b ed_r⟩
              rw [hc1, a2, bd2_e, if_neg (by decide), c_fail, bd2_e]
          · rcases hmm with ⟨b1, b2⟩ | ⟨⟨j0, b0, b1, b3⟩, b2⟩
            · left
              obtain ⟨p4, e4, t4, v4, n3⟩ := nx hS hT hn n2.1
              obtain ⟨μ3, g9, g10, g11, g12⟩ := av_m g6 g8 n3
              have m03 := mf_t m02 g11
              have h34c : μ3 7 34 = (r : Int) := by rw [m03 7 34 (by omega), h34]
              have e35 : ((35 : Int) + (r : Int)).toNat = 35 + r := by omega
              have hpx : p < e3 := by
                have := n1.2.1
                have := n2.2.1
                have := n2.1.1
                have := n1.1.1
                omega
              refine ⟨X2, uF (uF (uF Y 3 r v2) 4 r v3) 2 2 ((r : Int) + 1), uF (uF μ3 7 (35 + r) (10 * v2 + v3)) 7 34 ((r : Int) + 1), e3, p4, e4, t4, v4, ?_, ?_, sn_u (sn_u (sn_of r5 n3 g10 g12) (by omega) (by decide)) (by omega) (by decide), ?_, xf_g x02, md_u (md_u (mf_d m03) (by omega)) (by omega), by simp (disch := omega) only [uF_e, uF_n]; exact Int.le_refl _, hpx⟩
              · rw [hc1, a2, bd2_e, if_pos (by decide), cs_p hS, c_rapp hS hr h6, bd_e]
              · rw [hm2, b2]
                unfold fend
                rw [g9, bd_e, m_fine g12, bd2_e, if_pos (by decide), sR_g, h34c, ckI_e (by omega), wr_e (z := (35 : Int) + (r : Int)) (by omega), e35, sR_w, lt1_e, sR_g, uF_n (by omega), h34c, sR_w, lt1_e]
              · have hMK : MK μ μ3 := mk_f m03
                obtain ⟨q1, q2, q3, q4, q5, q6⟩ := dr_k (xf_3 x02) hMK hD
                refine ⟨?_, ?_, ?_, ?_, ?_, ?_⟩
                · unfold DRs at q1 ⊢
                  simp (disch := omega) only [uF_e, uF_n]
                  exact q1
                · unfold DRo at q2 ⊢
                  simp (disch := omega) only [uF_e, uF_n]
                  exact q2
                · refine ⟨by simp (disch := omega) only [uF_e, uF_n], by simp (disch := omega) only [uF_e, uF_n]; omega, fun j hj => ?_⟩
                  rw [uF_e] at hj
                  by_cases cj : j = r
                  · subst cj
                    have y3 : (uF (uF (uF Y 3 j v2) 4 j v3) 2 2 ((j : Int) + 1)) 3 j = v2 := by rw [uF_n (by omega), uF_n (by omega), uF_e]
                    have y4 : (uF (uF (uF Y 3 j v2) 4 j v3) 2 2 ((j : Int) + 1)) 4 j = v3 := by rw [uF_n (by omega), uF_e]
                    have y7 : (uF (uF μ3 7 (35 + j) (10 * v2 + v3)) 7 34 ((j : Int) + 1)) 7 (35 + j) = 10 * v2 + v3 := by rw [uF_n (r34 j), uF_e]
                    rw [y3, y4, y7]
                    exact ⟨rfl, ⟨c.2.1, by omega⟩, c2.2⟩
                  · have w := q3.2.2 j (by omega)
                    simp (disch := omega) only [uF_e, uF_n]
                    exact w
                · obtain ⟨i1, i2, i3⟩ := q4
                  refine ⟨by simp (disch := omega) only [uF_e, uF_n]; exact i1, by simp (disch := omega) only [uF_e, uF_n]; exact i2, fun k hk => ?_⟩
                  rw [uF_n (by omega), uF_n (by omega), uF_n (by omega)] at hk
                  have d := i3 k hk
                  unfold DRk at d ⊢
                  simp (disch := omega) only [uF_e, uF_n]
                  exact d
                · intro k k1 k2 k3
                  simp (disch := omega) only [uF_e, uF_n]
                  exact q5 k k1 k2 k3
                · simp (disch := omega) only [uF_e, uF_n]
                  exact q6
            · have w := u3 j0 (by omega)
              have := a1 j0 b1
              rw [h7b, w.1] at b3
              exact absurd ⟨by omega, by omega⟩ this
        · right
          rw [if_neg c2] at hg2 hc1
          have hE : HE (EM μ2 1) := he_EM (by decide)
          refine ⟨FX X2 1, Y, EM μ2 1, ?_, ?_, err_of (by decide) (xf_b x02) (mf_d m02) h24b ed_r⟩
          · rw [hc1, if_neg (by decide), c_fail, bd2_e]
          · rw [hm1]
            unfold f_X12_readsFuse_p4_0_b57
            rw [m_yes, bd_e]
            unfold f_X12_readsFuse_p4_0_b61
            rw [g5, bd_e, hg2, bd2_e, m_no g8, bd_e]
            exact e_b91 hE (by unfold EM; rw [uF_n (by omega), uF_n (by omega), h34b]) hr6 r 0 _ (by omega) (by show r < fu T; omega)
      · right
        rw [if_neg c8] at hc1
        rw [if_pos (by omega)] at hm1
        have hE : HE (EM μ1 3) := he_EM (by decide)
        refine ⟨FX X1 3, Y, EM μ1 3, hc1, ?_, err_of (by decide) (xf_b r3) (mf_d g3) h24a ed_r⟩
        rw [hm1]
        unfold f_X12_readsFuse_p4_0_b57
        rw [m_no g4, bd_e]
        exact e_b61 hE hT (by unfold EM; rw [uF_n (by omega), uF_n (by omega), h34a]) hr6
    · right
      rw [if_neg c] at hg1 hq1
      have hE : HE (EM μ1 1) := he_EM (by decide)
      refine ⟨FX X1 1, Y, EM μ1 1, ?_, ?_, err_of (by decide) (xf_b r3) (mf_d g3) h24a ed_r⟩
      · unfold f_X3_readRule_p3_2
        rw [cs_x, h10, if_pos (by decide), cs_p hS, cs_y hS, hr, ew, wr_e (z := 6) (by decide), if_pos (by omega), r1, bd_e, hq1, bd2_e, if_neg (by decide), c_fail, bd2_e]
      · rw [hm0]
        unfold f_X12_readsFuse_p4_0_b18
        rw [m_yes, bd_e, g1, bd_e, hg1, bd2_e, m_no g4, bd_e, e_fine hE, bd2_e, if_pos (by decide)]
        exact e_b61 hE hT (by unfold EM; rw [uF_n (by omega), uF_n (by omega), h34a]) hr6
  · right
    have hE : HE (EM μ 4) := he_EM (by decide)
    refine ⟨FX X 4, Y, EM μ 4, ?_, ?_, err_of (by decide) (xf_b xf_r) md_r (ck_4 hX hM) ed_r⟩
    · unfold f_X3_readRule_p3_2
      rw [cs_x, h10, if_pos (by decide), cs_p hS, cs_y hS, hr, ew, wr_e (z := 6) (by decide), if_neg (by omega), c_fail, bd2_e]
    · unfold f_X12_readsFuse_p4_0
      rw [sR_g, h34, ew, wr_e (z := 6) (by decide), if_pos (by omega)]
      unfold f_X12_readsFuse_p4_0_b18
      rw [m_no hc, bd_e, e_on hE, bd_e, e_kind hE, bd2_e, e_needs hE, bd_e, e_fine hE, bd2_e, if_pos (by decide)]
      exact e_b61 hE hT (by unfold EM; rw [uF_n (by omega), uF_n (by omega), h34]) hr6
end RU
