section SB
variable {S T : xSt} {q s s0 m w sz a : Nat} {n x p e t v : Int} {b : Nat → Int} {X X' Y Y0 Y' μ μ0 μ1 μ2 μ' : xR}
/-! statements but repeats -/
theorem tail (hS : W2 q S) (hT : 10000000 ≤ fu T) (hn : BT n b) {fc : Option (Int × xSt)} {fm : Option xSt} (h : OUT S T q n b fc fm X Y μ p) : OUT S T q n b (bd2 fc fun v14 S13 => if wr v14 = 0 then some (0, S13) else bd2 (f_X3_readSign_p3_2 S13 0 59) fun v18 S17 => if wr v18 = 0 then some (0, S17) else some (1, S17)) (bd fm fun S6 => bd (f_X12_needsSign_p4_0 S6 13 59) fun S8 => some S8) X Y μ p := by
  rcases h with ⟨X', Y', μ', x', p', e', t', v', a1, a2, a3, a4, a5, a6, a7, a8⟩ | ⟨X', Y', μ', a1, a2, a3⟩
  · rcases k_sign hS hT hn a3 (s := 59) (Or.inl rfl) Y' with ⟨X1, μ1, p2, e2, t2, v2, b1, b2, b3, b4, b5, b6⟩ | ⟨X1, μ1, b1, b2, b3⟩
    · left
      refine ⟨X1, Y', μ1, e', p2, e2, t2, v2, ?_, ?_, b3, dr_k (xf_3 b4) (mk_f b5) a4, xg_t a5 (xf_g b4), md_t a6 (mf_d b5), a7, by omega⟩
      · rw [a1, bd2_e, if_neg (by decide), b1, bd2_e, if_neg (by decide)]
      · rw [a2, bd_e, b2, bd_e]
    · right
      refine ⟨X1, Y', μ1, ?_, ?_, err_tr (xg_b a5) a6 b3⟩
      · rw [a1, bd2_e, if_neg (by decide), b1, bd2_e, if_pos (by decide)]
      · rw [a2, bd_e, b2, bd_e]
  · right
    refine ⟨X', Y', μ', ?_, ?_, a3⟩
    · rw [a1, bd2_e, if_pos (by decide)]
    · rw [a2, bd_e, e_nsign (err_he a3), bd_e]
theorem k_sim (hS : W2 q S) (hT : 10000000 ≤ fu T) (hn : BT n b) (hX : CTK n b X p e t v) (hM : MTK n b μ p e t v) (ht : TOK n b p e t v) (hc : μ 0 29 = 0) (hD : DR X Y μ) (hx : X 2 10 = x) (hx2 : 0 ≤ x ∧ x ≤ 2) (h41 : ¬ (t = 41 ∧ 0 < x)) (h17 : ¬ (t = 1 ∧ v = 17)) {d : Nat} : OUT S T q n b (f_X3_readStatement_p3_2 (cs S q X Y) 0) (f_X12_statement_p4_0 (d + 1) (sR T 13 μ) 13 x) X Y μ p := by
  have htt := ht.2.1
  have g0 := m_kind (T := T) hc hM ht
  have g18 := m_isw (T := T) hc hM ht (w := 18) (by decide)
  have g17 := m_isw (T := T) hc hM ht (w := 17) (by decide)
  have g16 := m_isw (T := T) hc hM ht (w := 16) (by decide)
  have q17 := c_tok (Y := Y) hS hn hX ht (w := 17) (by decide)
  have q16 := c_tok (Y := Y) hS hn hX ht (w := 16) (by decide)
  have q18 := c_tok (Y := Y) hS hn hX ht (w := 18) (by decide)
  have qk := c_kind (Y := Y) hS hn hX ht
  have qs := c_set (Y := Y) hS hn hX ht
  rw [show wtx 17 = 0 by decide, show ((17 : Nat) : Int) = 17 by decide, if_neg h17] at q17
  rw [show wtx 16 = 1 by decide, show ((16 : Nat) : Int) = 16 by decide] at q16
  rw [show wtx 18 = 18 by decide, show ((18 : Nat) : Int) = 18 by decide] at q18
  rw [if_neg h17] at g17
  have hcl : f_X3_readStatement_p3_2 (cs S q X Y) 0 = f_X3_readStatement_p3_2_b38 0 (cs S q X Y) := by
    unfold f_X3_readStatement_p3_2
    rw [cs_x, hX.2.1, cs_x, hx, wr_e (z := t) (by omega), wr_e (z := 41) (by decide), wr_e (z := x) (by omega)]
    by_cases c : t = 41
    · rw [if_neg (fun h => h c), if_pos (by omega)]
    · rw [if_pos c]
  have hE : HE (EM μ 1) := he_EM (by decide)
  have m100 : f_X12_statement_p4_0_b100 (f_X12_statement_p4_0 d) 13 (sR T 13 μ) = some (sR T 13 (EM μ 1)) := by
    unfold f_X12_statement_p4_0_b100
    rw [m_no hc, bd_e, e_nsign hE, bd_e]
  have err1 : ERR X μ (FX X 1) (EM μ 1) := err_of (by decide) (xf_b xf_r) md_r (ck_4 hX hM) ed_r
  have hwx : wr x = x := wr_e (by omega)
  by_cases cA : t = 1 ∧ ((0 ≤ v ∧ v ≤ 9) ∨ v = 18)
  · have k := tail hS hT hn (k_ins hS hT hn hX hM ht hc hD cA)
    have e1 : f_X3_readStatement_p3_2 (cs S q X Y) 0 = (bd2 (f_X3_readInstruction_p3_2 (cs S q X Y) 0) fun v14 S13 => if wr v14 = 0 then some (0, S13) else bd2 (f_X3_readSign_p3_2 S13 0 59) fun v18 S17 => if wr v18 = 0 then some (0, S17) else some (1, S17)) := by
      rw [hcl]
      unfold f_X3_readStatement_p3_2_b38
      rw [q17, bd2_e, if_pos (by decide), q16, if_neg (show ¬ (t = 1 ∧ v = 16) by omega), bd2_e, if_pos (by decide), qs, if_neg (show ¬ (t = 1 ∧ 10 ≤ v ∧ v ≤ 15) by omega), bd2_e, if_pos (by decide)]
    have e2 : f_X12_statement_p4_0 (d + 1) (sR T 13 μ) 13 x = (bd (f_X12_readsInstruction_p4_0 (sR T 13 μ) 13) fun S6 => bd (f_X12_needsSign_p4_0 S6 13 59) fun S8 => some S8) := by
      rw [f_X12_statement_p4_0, g0, bd2_e]
      by_cases c : v = 18
      · rw [if_neg (show ¬ (t = 1 ∧ 0 ≤ v ∧ v ≤ 9) by omega), if_neg (by decide), g18, if_pos ⟨cA.1, c⟩, bd2_e, if_neg (by decide)]
      · rw [if_pos (show t = 1 ∧ 0 ≤ v ∧ v ≤ 9 by omega), if_pos (by decide)]
    rw [e1, e2]
    exact k
  · rw [if_neg (show ¬ (t = 1 ∧ 0 ≤ v ∧ v ≤ 9) by omega)] at g0 qk
    rw [if_neg (show ¬ (t = 1 ∧ v = 18) by omega)] at g18 q18
    have m0 : f_X12_statement_p4_0 (d + 1) (sR T 13 μ) 13 x = (if ¬ x = 0 then f_X12_statement_p4_0_b60 (f_X12_statement_p4_0 d) 13 (sR T 13 μ) x else bd2 (f_X12_isWord_p4_0 (sR T 13 μ) 13 16) fun v34 S33 => if wr v34 = 0 then f_X12_statement_p4_0_b60 (f_X12_statement_p4_0 d) 13 S33 x else bd (f_X12_readsFuse_p4_0 S33 13) fun S37 => bd (f_X12_needsSign_p4_0 S37 13 59) fun S39 => some S39) := by
      rw [f_X12_statement_p4_0, g0, bd2_e, if_neg (by decide), g18, bd2_e, if_pos (by decide), g17, bd2_e, if_pos (by decide), hwx]
    have c0 : f_X3_readStatement_p3_2 (cs S q X Y) 0 = (if t = 1 ∧ v = 16 then (bd2 (f_X3_readRule_p3_2 (cs S q X Y) 0) fun v14 S13 => if wr v14 = 0 then some (0, S13) else bd2 (f_X3_readSign_p3_2 S13 0 59) fun v18 S17 => if wr v18 = 0 then some (0, S17) else some (1, S17)) else if t = 1 ∧ 10 ≤ v ∧ v ≤ 15 then (bd2 (f_X3_readSetting_p3_2 (cs S q X Y) 0 (v - 10)) fun v14 S13 => if wr v14 = 0 then some (0, S13) else bd2 (f_X3_readSign_p3_2 S13 0 59) fun v18 S17 => if wr v18 = 0 then some (0, S17) else some (1, S17)) else some (0, cs S q (FX X 1) Y)) := by
      rw [hcl]
      unfold f_X3_readStatement_p3_2_b38
      rw [q17, bd2_e, if_pos (by decide), q16, bd2_e]
      by_cases c1 : t = 1 ∧ v = 16
      · rw [if_pos c1, if_neg (by decide), if_pos c1]
      · rw [if_neg c1, if_pos (by decide), if_neg c1, qs, bd2_e]
        by_cases c2 : t = 1 ∧ 10 ≤ v ∧ v ≤ 15
        · rw [if_pos c2, wr_e (z := v - 10) (by omega), wr_e (z := -1) (by decide), if_neg (by omega), if_pos c2]
        · rw [if_neg c2, if_pos (by decide), if_neg c2]
          unfold f_X3_readInstruction_p3_2
          rw [q18, bd2_e, if_neg (by decide), qk, bd2_e, if_neg (by decide), c_fail, bd2_e, bd2_e, if_pos (by decide)]
    by_cases c16 : t = 1 ∧ v = 16
    · rw [if_pos c16] at c0
      by_cases cx : x = 0
      · rw [if_neg (fun h => h cx), g16, if_pos c16, bd2_e, if_neg (by decide)] at m0
        rw [c0, m0]
        exact tail hS hT hn (k_rul hS hT hn hX hM ht hc hD c16.1 (hx.trans cx))
      · right
        refine ⟨FX X 1, Y, EM μ 1, ?_, ?_, err1⟩
        · rw [c0]
          unfold f_X3_readRule_p3_2
          rw [cs_x, hx, hwx, if_neg (by omega), c_fail, bd2_e, bd2_e, if_pos (by decide)]
        · rw [m0, if_pos cx]
          unfold f_X12_statement_p4_0_b60
          rw [hwx, if_pos cx, m100]
    · rw [if_neg c16] at c0
      have m1 : f_X12_statement_p4_0 (d + 1) (sR T 13 μ) 13 x = f_X12_statement_p4_0_b60 (f_X12_statement_p4_0 d) 13 (sR T 13 μ) x := by
        rw [m0]
        by_cases cx : x = 0
        · rw [if_neg (fun h => h cx), g16, if_neg c16, bd2_e, if_pos (by decide)]
        · rw [if_pos cx]
      by_cases cS : t = 1 ∧ 10 ≤ v ∧ v ≤ 15
      · rw [if_pos cS] at c0
        obtain ⟨s, hs⟩ : ∃ s : Nat, v = ((10 + s : Nat) : Int) := ⟨(v - 10).toNat, by omega⟩
        have h26 := hM.2.2.2.2.1 cS.1
        by_cases cx : x = 0
        · have m2 : f_X12_statement_p4_0 (d + 1) (sR T 13 μ) 13 x = (bd (f_X12_readsSetting_p4_0 (sR T 13 μ) 13 ((10 + s : Nat) : Int)) fun S6 => bd (f_X12_needsSign_p4_0 S6 13 59) fun S8 => some S8) := by
            rw [m1]
            unfold f_X12_statement_p4_0_b60
            rw [hwx, if_neg (fun h => h cx), sR_g, if_neg (fun h => h ((m_t1 hM ht).mpr cS.1)), sR_g, h26, wr_e (z := v) (by omega), p_isIn (by omega) (by decide) (by decide), if_pos cS.2, bd2_e, if_neg (by decide), sR_g, h26, hs]
          rw [c0, m2, show v - 10 = (s : Int) by omega]
          exact tail hS hT hn (k_stg hS hT hn hX hM ht hc hD cS.1 hs (by omega) (hx.trans cx))
        · right
          refine ⟨FX X 1, Y, EM μ 1, ?_, ?_, err1⟩
          · rw [c0]
            unfold f_X3_readSetting_p3_2
            rw [cs_x, hx, hwx, if_pos (by omega), c_fail, bd2_e, bd2_e, if_pos (by decide)]
          · rw [m1]
            unfold f_X12_statement_p4_0_b60
            rw [hwx, if_pos cx, m100]
      · rw [if_neg cS] at c0
        right
        refine ⟨FX X 1, Y, EM μ 1, c0, ?_, err1⟩
        rw [m1]
        unfold f_X12_statement_p4_0_b60
        rw [hwx, sR_g, sR_g, m100]
        by_cases cx : x = 0
        · rw [if_neg (fun h => h cx)]
          by_cases c1 : t = 1
          · have h26 := hM.2.2.2.2.1 c1
            have hv := (ht.2.2.1 c1).1
            rw [if_neg (fun h => h ((m_t1 hM ht).mpr c1)), h26, wr_e (z := v) (by omega), p_isIn (by omega) (by decide) (by decide), if_neg (fun h => cS ⟨c1, h⟩), bd2_e, if_pos (by decide), m100]
          · rw [if_pos (fun h => c1 ((m_t1 hM ht).mp h))]
        · rw [if_pos cx]
end SB
