/-! mathematics: what a rule more would gain -/
section F4
variable {m : Nat} {S : xSt} {i j l : Int}
theorem m_byRule {T : xSt} {μ9 : xR} {g9 g6 : Nat → Int} {a b i n : Int} (hT : 10000000 ≤ fu T) (hn : g6 34 = n) (hsz : 0 ≤ n ∧ n ≤ 6) : ∃ h9, f_X12_decodedByRule_p4_0 (sR T 13 (uG (uG μ9 9 g9) 6 g6)) 13 a b i = (bd2 (f_X12_decodedIn_p4_0 (sR T 13 (uG (uG μ9 9 h9) 6 (uN (uN g6 (35 + n.toNat) (10 * a + b)) 34 (n + 1)))) 13 i) fun v8 S7 => some (v8, S7)) ∧ ∀ k, k < 363 → h9 k = g6 k := by
  obtain ⟨h9, k1, k2⟩ := p_cop6_9 (T := T) (μ := uG (uG μ9 9 g9) 6 g6) hT
  refine ⟨h9, ?_, fun k hk => by rw [k2 k hk, uG_e]⟩
  unfold f_X12_decodedByRule_p4_0 f_X12_tries_p4_0
  rw [k1, uG_c (show 6 ≠ 9 by decide), uG_G]
  simp only [bd_e]
  rw [p_adds (by rw [uG_e, hn]; exact hsz), uG_e, uG_f, uG_G, hn]
  simp only [bd2_e]
theorem k_ruleGain (hI : INV m S) (hm5 : m < 512) (hi : wr i = i) (hj : wr j = j) (hl : wr l = l) : CALL m S (f_X11_ruleGain_p3_0 S 0 i j l) (fun T => f_X12_ruleGain_p4_0 T 13 i j l) (XR (KE 2)) := by
  have hi2 := wr_r hi
  obtain ⟨G, q, q2, r1, r2, hS, hq, hk, hG, hcx⟩ := t_ahead hI
  have hGF := hS.2.2.2.2.2.2.1
  have hR := hS.2.2.2.2.1
  have hM := hS.2.2.2.2.2.1
  have hF := hGF.1
  have hbb : BB m ≤ BB (m + 1) := by unfold BB; omega
  have hfu := hI.1
  have hBm : BB m ≤ 10000000 := by unfold BB; omega
  have e34 := hF.1.2.2.2.2.2.2.2.2.2.2.2.2.2.2.2.2.2.2.2.2.2.2.1
  have r13 := hF.2.1.2.2.2.2.2.2.2.2.2.2.2.2.2.1
  have hj2 := wr_r hj
  have hl2 := wr_r hl
  have hR0 : PR (uG (S.2.1 q) 77 (sl 1)) := PR_pe pe_lo hR
  rw [uG_e] at r13
  by_cases c : (0 ≤ i ∧ i ≤ 7) ∧ 0 ≤ j ∧ j ≤ 9
  · by_cases c2 : 1 ≤ l ∧ l ≤ 500
    · have hct : ∀ T : xSt, 10000000 ≤ fu T → CT S 1 q (sR T 13 (uF (S.2.1 13) 0 0 (1 - 1))) 13 (uG (S.2.1 q) 77 (fun _ => 0)) (uF (S.2.1 13) 0 0 (1 - 1)) := fun T hT => cx_ct ⟨hS.2.2.2.1, hk, by omega, rfl, sR_g1, hfu, hT, hR, pm_told hM⟩ _
      have hF9 : RF (uG (S.2.1 q) 77 (fun _ => 0)) (BB m) 0 0 0 (S.2.1 1) ((uF (S.2.1 13) 0 0 (1 - 1)) 6) := by
        rw [uF_6]
        exact hF
      obtain ⟨hv, hv0, i1, -⟩ := p_has (hct S hfu) hF9 (a := i) (b := j) (by omega) c.2
      rw [sR_e] at i1
      have hm1 : ∀ T : xSt, 10000000 ≤ fu T → f_X12_ruleGain_p4_0 (sR T 13 (S.2.1 13)) 13 i j l = if wr hv = 0 then (bd2 (f_X12_decodedByRule_p4_0 (sR T 13 (uF (S.2.1 13) 0 0 (1 - 1))) 13 i j l) fun v15 S14 => bd2 (f_X12_decodedWith_p4_0 S14 13 0 (gI S14 13 6 0) l) fun v18 S17 => some ((v15 - v18), S17)) else some (0, sR T 13 (uF (S.2.1 13) 0 0 (1 - 1))) := by
        intro T hT
        obtain ⟨hv2, -, j1, j2⟩ := p_has (hct T hT) hF9 (a := i) (b := j) (by omega) c.2
        rw [sR_e] at j1
        have ev : hv2 = hv := congrArg Prod.fst (Option.some.inj (j1.symm.trans i1))
        subst ev
        rw [wN_i] at j2
        unfold f_X12_ruleGain_p4_0 f_X12_ruleGain_p4_0_b21
        rw [p_areK hi hj, if_pos c]
        simp only [bd2_e]
        rw [if_neg (by decide), p_isCyc hl, if_pos c2]
        simp only [bd2_e]
        rw [if_neg (by decide), p_is (Or.inr rfl)]
        simp only [bd2_e]
        rw [if_pos (by decide), j2]
        simp only [bd2_e]
      by_cases d : hv = 0
      · have hcx1 := hcx S (S.2.1 13) hfu hM
        obtain ⟨n, hn⟩ : ∃ n : Nat, n = l.toNat := ⟨_, rfl⟩
        have hin : l = (n : Int) := by omega
        obtain ⟨Fn, v, d1, d2, d3⟩ := t_dec (s := 0) (x := l) hcx1 (by rw [gx_gf]; exact hG) hBm (by omega : n ≤ 500) hin
        obtain ⟨G2, g1, g2⟩ := t_again (X := Fn) hS.2.2.2.1 hk hGF
        have hG2 := gf_ag hR g2 hGF
        have e22 : G2 2 2 = S.2.1 1 2 2 := g2.2.2.1
        have hup := gx_up (s := 1) (by decide) hG2
        have hX : GX 1 (S.2.1 q) (BB m) (uF (uF (uF G2 3 (G2 2 2).toNat i) 4 (G2 2 2).toNat j) 2 2 (G2 2 2 + 1)) (uN (uN (S.2.1 13 6) (35 + (G2 2 2).toNat) (10 * i + j)) 34 (G2 2 2 + 1)) := ⟨q_addr hR0 hup.1 c.1 c.2 (by rw [uG_e, show sl 1 61 = 1 from rfl]; omega), by simp (disch := omega) only [uF_e, uF_o, uF_k, uG_e, uG_o, uN_e, uN_k, true_or, or_true]; exact hup.2⟩
        obtain ⟨Fm, w, f1, f2, f3⟩ := t_dec (s := 1) (x := l) hcx1 hX hBm (by omega : n ≤ 500) hin
        refine ⟨.inl (w - v), sR (wP S 2 0 0 (q, 0)) 2 Fm, ?_, rfl, by rw [sR_n1 (by decide)]; rfl, fun T hT hμ => ?_⟩
        · unfold f_X11_ruleGain_p3_0
          rw [p_isRuleC hi hj, if_pos c]
          simp only [bd2_e]
          rw [if_pos (by decide), hl, wr_e (z := 1) (by decide), wr_e (z := 500) (by decide), if_neg (show ¬ l < 1 by omega), if_pos c2.2, Nat.zero_add, Nat.zero_add, i1]
          simp only [bd2_e]
          rw [d, if_pos (by decide), r1]
          simp only [bd_e]
          rw [d1]
          simp only [bd2_e]
          rw [g1]
          simp only [bd_e]
          rw [p_app (by omega)]
          simp only [bd_e]
          rw [f1]
          simp only [bd2_e]
        · have hT13 := sR_i hμ
          have eu := uGG (μ := S.2.1 13) (z := 1 - 1) (g9 := fun _ => 0)
          obtain ⟨h9, a1, a2⟩ := m_byRule (T := T) (μ9 := uF (S.2.1 13) 0 0 (1 - 1)) (g9 := S.2.1 13 9) (g6 := S.2.1 13 6) (a := i) (b := j) (i := l) (n := G2 2 2) hT (by rw [e34, e22]) (by omega)
          rw [← eu] at a1
          obtain ⟨p6, b1, b2⟩ := f3 T (uF (S.2.1 13) 0 0 (1 - 1)) h9 _ hT (pm_told hM) hX
          obtain ⟨h9', a1', a2'⟩ := m_with (T := T) (μ9 := uF (S.2.1 13) 0 0 (1 - 1)) (g9 := h9) (g6 := p6) (a := 0) (x := p6 0) (i := l) hT (by decide)
          obtain ⟨p6', b1', b2'⟩ := d3 T (uF (S.2.1 13) 0 0 (1 - 1)) h9' (uN p6 (0 : Int).toNat (p6 0)) hT (pm_told hM) (by
            rw [gx_gf]
            refine gf_ext hR (fun k hk => ?_) hG
            by_cases e : k = 0
            · subst e
              rw [show (0 : Int).toNat = 0 from rfl, uN_e, b2 0 hk, a2 0 hk]
            · rw [show (0 : Int).toNat = 0 from rfl, uN_k e, b2 k hk, a2 k hk])
          refine ⟨w - v, _, q, q2, ?_, ⟨rfl, ?_⟩, sim_fore (z := 1 - 1) (g9 := h9') (g6 := p6') hS hbb (fun k hk => by rw [b2' k hk, a2' k hk, b2 k hk, a2 k hk])⟩
          · show f_X12_ruleGain_p4_0 T 13 i j l = _
            rw [hT13, hm1 T hT, d, if_pos (by decide), a1, b1]
            simp only [bd2_e]
            rw [sR_g, uG_e, a1', b1']
            simp only [bd2_e]
            rw [sR_s]
          · simp (disch := omega) only [uF_e, uF_o, uF_k, uG_e, uG_o, uN_e, uN_k, true_or, or_true]
            rfl
      · refine callR hI (v := .inl 0) (v' := 0) (z := 1 - 1) ?_ (fun T hT => ?_) ⟨rfl, uF_e⟩
        · unfold f_X11_ruleGain_p3_0
          rw [p_isRuleC hi hj, if_pos c]
          simp only [bd2_e]
          rw [if_pos (by decide), hl, wr_e (z := 1) (by decide), wr_e (z := 500) (by decide), if_neg (show ¬ l < 1 by omega), if_pos c2.2, Nat.zero_add, i1]
          simp only [bd2_e]
          rw [wr_e (z := hv) (by omega), if_neg d]
        · rw [hm1 T hT, wr_e (z := hv) (by omega), if_neg d]
    · refine callR hI (v := .inr 2) (v' := 0) (z := 1 - 0) ?_ (fun T hT => ?_) ⟨uF_e.symm, Or.inl rfl⟩
      · unfold f_X11_ruleGain_p3_0
        rw [p_isRuleC hi hj, if_pos c]
        simp only [bd2_e]
        rw [if_pos (by decide), hl, wr_e (z := 1) (by decide), wr_e (z := 500) (by decide)]
        by_cases c3 : l < 1
        · rw [if_pos c3]
        · rw [if_neg c3, if_neg (by omega)]
      · unfold f_X12_ruleGain_p4_0 f_X12_ruleGain_p4_0_b20 f_X12_ruleGain_p4_0_b21
        rw [p_areK hi hj, if_pos c]
        simp only [bd2_e]
        rw [if_neg (by decide), p_isCyc hl, if_neg c2]
        simp only [bd2_e]
        rw [if_pos (by decide), p_is (Or.inl rfl)]
        simp only [bd2_e]
        rw [if_neg (by decide)]
  · refine callR hI (v := .inr 2) (v' := 0) (z := 1 - 0) ?_ (fun T hT => ?_) ⟨uF_e.symm, Or.inl rfl⟩
    · unfold f_X11_ruleGain_p3_0
      rw [p_isRuleC hi hj, if_neg c]
      simp only [bd2_e]
      rw [if_neg (by decide)]
    · unfold f_X12_ruleGain_p4_0 f_X12_ruleGain_p4_0_b20 f_X12_ruleGain_p4_0_b21
      rw [p_areK hi hj, if_neg c]
      simp only [bd2_e]
      rw [if_pos (by decide), p_is (Or.inl rfl)]
      simp only [bd2_e]
      rw [if_neg (by decide)]
end F4
