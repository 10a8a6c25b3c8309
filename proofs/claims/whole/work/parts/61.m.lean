/-! mathematics: set, redirect, rules -/
section E7
variable {m : Nat} {S : xSt} {i j : Int}
theorem uGF {μ : xR} {N : Nat → Int} {o k : Nat} {z : Int} : uF (uG μ o N) o k z = uG μ o (uN N k z) := by rw [uF_G, uG_f, uG_G]
theorem k_redirect (hI : INV m S) (hi : wr i = i) : CALL m S (f_X11_redirect_p3_0 S 0 i) (fun T => f_X12_redirect_p4_0 T 13 i) (XR (KE 1)) := by
  have hi2 := wr_r hi
  obtain ⟨S1, q, q2, r1, r2, r3, r4, r5, r6, r7, hq, hk, hS, hdone⟩ := t_rem hI
  have hGF := hS.2.2.2.2.2.2.1
  have hR := hS.2.2.2.2.1
  have hR0 : PR (uG (S.2.1 q) 77 (fun _ => 0)) := PR_pe pe_lo hR
  have hM := hS.2.2.2.2.2.1
  have hF := hGF.1
  have hbb : BB m ≤ BB (m + 1) := by unfold BB; omega
  have hfu := hI.1
  have e1 := sR_i r3
  have e42 := hF.1.2.2.2.2.2.2.2.2.2.2.2.2.2.2.2.2.2.2.2.2.2.2.2.1
  have p0 := hR.1
  have gP4 : gP S 0 0 4 = (q, 0) := hS.2.1
  have gQ0 : gI S q 0 10 = S.2.1 q 0 10 := rfl
  by_cases c : 0 ≤ i ∧ i < S.2.1 q 0 10
  · refine ⟨.inl (S.2.1 1 5 2), sR S1 1 (uF (uF (uF (uF (uF (uF (uF (S.2.1 1) 5 2 0) 0 13 0) 0 16 0) 8 0 0) 0 10 i) 0 11 1) 0 15 4), ?_, r2, by rw [sR_n1 (by decide)]; exact r4, fun T hT hμ => ?_⟩
    · unfold f_X11_redirect_p3_0 f_X0_goTo_p1_0 f_X0_emptyQueue_p1_0 f_X0_setPlace_p1_0
      rw [hi, ckP_e gP4 hk, gQ0, wr_e (z := S.2.1 q 0 10) (by omega), if_neg (show ¬ i < 0 by omega), if_pos c.2]
      simp only [r1, bd_e, Nat.zero_add]
      rw [e1]
      simp only [sR_w, lt1_e, bd_e, sR_g, sR_s]
    have hT13 := sR_i hμ
    obtain ⟨g8, k1, k2⟩ := p_cop6_8 (T := T) (μ := uF (S.2.1 13) 0 0 (1 - 1)) hT
    rw [uF_6] at k2
    obtain ⟨μ', d1, d2, d3⟩ := hdone T (uF (uF (uF (uF (uF (uF (uF (S.2.1 1) 5 2 0) 0 13 0) 0 16 0) 8 0 0) 0 10 i) 0 11 1) 0 15 4) (uN (uN (uN (uN (uN (uN (uN (S.2.1 13 6) 42 0) 10 0) 9 0) 11 0) 3 i) 4 1) 8 4) g8 (S.2.1 1 5 2) (1 - 1) hT (gf_of (q_redir hR0 hF ⟨c.1, by show i ≤ S.2.1 q 0 10; omega⟩) (by simp (disch := omega) only [uF_e, uF_o, uF_k, uG_e, uG_o, uN_e, uN_k, true_or, or_true]; exact fun h => absurd h (by decide)) hbb) k2
    refine ⟨S.2.1 1 5 2, μ', q, q2, ?_, ⟨rfl, d2⟩, d3⟩
    show f_X12_redirect_p4_0 T 13 i = _
    rw [hT13]
    unfold f_X12_redirect_p4_0 f_X12_starts_p4_0 f_X12_empties_p4_0 f_X12_sets_p4_0
    rw [p_isNum hR hM hi, if_pos c]
    simp only [bd2_e]
    rw [p_is (Or.inr rfl)]
    simp only [bd2_e]
    rw [if_pos (by decide), k1]
    simp only [bd_e]
    have eN : uG (uF (S.2.1 13) 0 0 (1 - 1)) 8 g8 = uG (uG (uF (S.2.1 13) 0 0 (1 - 1)) 8 g8) 6 (S.2.1 13 6) := by
      have k := uG_i (F := uG (uF (S.2.1 13) 0 0 (1 - 1)) 8 g8) (o := 6)
      rw [uG_h (by decide), uF_6] at k
      exact k.symm
    rw [eN]
    simp only [sR_w, lt1_e, bd_e, sR_g, uGF]
    rw [uG_e, e42, d1]
    simp only [bd2_e]
    rw [sR_s]
  · refine callR hI (v := .inr 1) (v' := 0) (z := 1 - 0) ?_ (fun T hT => ?_) ⟨uF_e.symm, Or.inl rfl⟩
    · unfold f_X11_redirect_p3_0
      rw [hi, ckP_e gP4 hk, gQ0, wr_e (z := S.2.1 q 0 10) (by omega)]
      by_cases c2 : i < 0
      · rw [if_pos c2]
      · rw [if_neg c2, if_neg (by omega)]
    · unfold f_X12_redirect_p4_0
      rw [p_isNum hR hM hi, if_neg c]
      simp only [bd2_e]
      rw [p_is (Or.inl rfl)]
      simp only [bd2_e]
      rw [if_neg (by decide)]
theorem p_setT {T : xSt} {μ : xR} (hi : wr i = i) (hj : wr j = j) : f_X12_isSetting (sR T 13 μ) i j = some (if (i = 2 ∧ 1 ≤ j ∧ j ≤ 6) ∨ (i = 6 ∧ 1 ≤ j ∧ j ≤ 8) ∨ (i = 7 ∧ 0 ≤ j ∧ j ≤ 30) then 1 else 0, sR T 13 μ) := by
  have hj2 := wr_r hj
  unfold f_X12_isSetting
  rw [hi, hj, p_isIn hj2 (by decide) (by decide), p_isIn hj2 (by decide) (by decide), p_isIn hj2 (by decide) (by decide), wr_e (z := 7) (by decide)]
  simp only [bd2_e]
  by_cases c2 : i = 2
  · rw [if_pos c2]
    congr 3
    apply propext
    omega
  · rw [if_neg c2]
    by_cases c6 : i = 6
    · rw [if_pos c6]
      congr 3
      apply propext
      omega
    · rw [if_neg c6]
      by_cases c7 : i = 7
      · rw [if_neg (fun h => h c7)]
        by_cases d : 0 ≤ j ∧ j ≤ 30
        · rw [if_pos d, if_neg (by decide), if_pos (by omega)]
        · rw [if_neg d, if_pos (by decide), if_neg (by omega)]
      · rw [if_pos c7, if_neg (by omega)]
theorem p_allow {x : Int} (hj : wr j = j) (hx : x = 0 ∨ x = 4 ∨ x = 5) : f_X11_isAllowed S x j = some (if (x = 0 ∧ 1 ≤ j ∧ j ≤ 6) ∨ (x = 4 ∧ 1 ≤ j ∧ j ≤ 8) ∨ (x = 5 ∧ 0 ≤ j ∧ j ≤ 30) then 1 else 0, S) := by
  have hj2 := wr_r hj
  have tbs : tbI 2 0 = 1 ∧ tbI 2 4 = 1 ∧ tbI 2 5 = 0 ∧ tbI 0 0 = 6 ∧ tbI 0 4 = 8 ∧ tbI 0 5 = 30 := by decide +kernel
  obtain ⟨t1, t2, t3, t4, t5, t6⟩ := tbs
  unfold f_X11_isAllowed
  rw [hj, wr_e (z := x) (by omega), wr_e (z := 6) (by decide), wr_e (z := 1) (by decide), if_neg (show ¬ x < 0 by omega), if_pos (show x < 6 by omega), if_pos (show ¬ x = 1 by omega), ckI_e (by omega), ckI_e (by omega)]
  rcases hx with rfl | rfl | rfl
  · rw [show (0 : Int).toNat = 0 from rfl, t1, t4, wr_e (by decide), wr_e (by decide)]
    by_cases a : j < 1
    · rw [if_pos a, if_neg (by omega)]
    · rw [if_neg a]
      by_cases b : 6 < j
      · rw [if_pos b, if_neg (by omega)]
      · rw [if_neg b, if_pos (by omega)]
  · rw [show (4 : Int).toNat = 4 from rfl, t2, t5, wr_e (by decide), wr_e (by decide)]
    by_cases a : j < 1
    · rw [if_pos a, if_neg (by omega)]
    · rw [if_neg a]
      by_cases b : 8 < j
      · rw [if_pos b, if_neg (by omega)]
      · rw [if_neg b, if_pos (by omega)]
  · rw [show (5 : Int).toNat = 5 from rfl, t3, t6, wr_e (by decide), wr_e (by decide)]
    by_cases a : j < 0
    · rw [if_pos a, if_neg (by omega)]
    · rw [if_neg a]
      by_cases b : 30 < j
      · rw [if_pos b, if_neg (by omega)]
      · rw [if_neg b, if_pos (by omega)]
theorem k_set (hI : INV m S) (hi : wr i = i) (hj : wr j = j) : CALL m S (f_X11_set_p3_0 S 0 i j) (fun T => f_X12_set_p4_0 T 13 i j) (XR (KE 2)) := by
  have hi2 := wr_r hi
  obtain ⟨S1, q, q2, r1, r2, r3, r4, r5, r6, r7, hq, hk, hS, hdone⟩ := t_rem hI
  have hGF := hS.2.2.2.2.2.2.1
  have hR := hS.2.2.2.2.1
  have hR0 : PR (uG (S.2.1 q) 77 (fun _ => 0)) := PR_pe pe_lo hR
  have hM := hS.2.2.2.2.2.1
  have hF := hGF.1
  have hbb : BB m ≤ BB (m + 1) := by unfold BB; omega
  have hfu := hI.1
  have e1 := sR_i r3
  have e0 := hF.1.1
  have e1n := hF.1.2.1
  have e2 := hF.1.2.2.1
  have hj2 := wr_r hj
  by_cases c : (i = 2 ∧ 1 ≤ j ∧ j ≤ 6) ∨ (i = 6 ∧ 1 ≤ j ∧ j ≤ 8) ∨ (i = 7 ∧ 0 ≤ j ∧ j ≤ 30)
  · have hcl : ∀ x : Int, x = 0 ∨ x = 4 ∨ x = 5 → x = i - 2 → f_X11_set_p3_0 S 0 i j = some (.inl (S.2.1 1 1 x.toNat), sR S1 1 (uF (S.2.1 1) 1 x.toNat j)) := by
      intro x hx hxi
      have h29 : f_X11_set_p3_0_b29 0 S j x = some (.inl (S.2.1 1 1 x.toNat), sR S1 1 (uF (S.2.1 1) 1 x.toNat j)) := by
        unfold f_X11_set_p3_0_b29
        rw [p_allow hj hx, if_pos (by omega)]
        simp only [bd2_e]
        rw [if_pos (by decide), Nat.zero_add, r1]
        simp only [bd_e]
        rw [ckI_e (by omega), ckI_e (by omega), wr_e (z := x) (by omega), e1, sR_w, lt1_e, sR_g, sR_s]
      unfold f_X11_set_p3_0
      rw [← hxi, wr_e (z := x) (by omega), wr_e (z := 4) (by decide), wr_e (z := 5) (by decide), h29]
      rcases hx with rfl | rfl | rfl
      · rw [if_pos rfl]
      · rw [if_neg (by decide), if_pos rfl]
      · rw [if_neg (by decide), if_neg (by decide), if_pos rfl]
    have hml : ∀ (T : xSt) (s0 : Nat) (v : Int) (μ' : xR) (g8 : Nat → Int), 10000000 ≤ fu T → ((i = 2 ∧ s0 = 0) ∨ (i = 6 ∧ s0 = 1) ∨ (i = 7 ∧ s0 = 2)) → v = S.2.1 13 6 s0 → f_X12_copies_p4_6_4_8 (sR T 13 (uF (S.2.1 13) 0 0 (1 - 1))) 13 13 = some (sR T 13 (uG (uF (S.2.1 13) 0 0 (1 - 1)) 8 g8)) → f_X12_done_p4_0 (sR T 13 (uG (uG (uF (S.2.1 13) 0 0 (1 - 1)) 8 g8) 6 (uN (S.2.1 13 6) s0 j))) 13 v = some (v, sR T 13 μ') → f_X12_set_p4_0 (sR T 13 (S.2.1 13)) 13 i j = some (v, sR T 13 μ') := by
      intro T s0 v μ' g8 hT hs hv k1 d1
      have h38 : f_X12_set_p4_0_b38 13 (sR T 13 (uG (uF (S.2.1 13) 0 0 (1 - 1)) 8 g8)) j (s0 : Int) = some (v, sR T 13 μ') := by
        unfold f_X12_set_p4_0_b38
        rw [ckI_e (by omega), ckI_e (by omega), wr_e (z := (s0 : Int)) (by omega), sR_w, lt1_e, sR_g, uF_G, uG_h (by decide), uF_6, show ((s0 : Nat) : Int).toNat = s0 by omega, ← hv, d1]
        rfl
      unfold f_X12_set_p4_0 f_X12_starts_p4_0
      rw [p_setT hi hj, if_pos c]
      simp only [bd2_e]
      rw [p_is (Or.inr rfl)]
      simp only [bd2_e]
      rw [if_pos (by decide), k1]
      simp only [bd_e, ite_not]
      rw [hi, wr_e (z := 2) (by decide), wr_e (z := 6) (by decide)]
      rcases hs with ⟨a, rfl⟩ | ⟨a, rfl⟩ | ⟨a, rfl⟩
      · rw [if_pos a]
        exact h38
      · rw [if_neg (by omega), if_pos a]
        exact h38
      · rw [if_neg (by omega), if_neg (by omega)]
        exact h38
    rcases c with c | c | c
    · have c' := c
      refine ⟨.inl (S.2.1 1 1 0), sR S1 1 (uF (S.2.1 1) 1 0 j), hcl 0 (by decide) (by omega), r2, by rw [sR_n1 (by decide)]; exact r4, fun T hT hμ => ?_⟩
      have hT13 := sR_i hμ
      obtain ⟨g8, k1, k2⟩ := p_cop6_8 (T := T) (μ := uF (S.2.1 13) 0 0 (1 - 1)) hT
      rw [uF_6] at k2
      obtain ⟨μ', d1, d2, d3⟩ := hdone T (uF (S.2.1 1) 1 0 j) (uN (S.2.1 13 6) 0 j) g8 (S.2.1 1 1 0) (1 - 1) hT (gf_of (q_lanes hR0 hF c.2) (by simp (disch := omega) only [uF_e, uF_o, uF_k, uG_e, uG_o, uN_e, uN_k, true_or, or_true]; exact hGF.2) hbb) k2
      refine ⟨S.2.1 1 1 0, μ', q, q2, ?_, ⟨rfl, d2⟩, d3⟩
      show f_X12_set_p4_0 T 13 i j = _
      rw [hT13, hml T 0 _ μ' g8 hT (by omega) e0.symm k1 d1, sR_s]
    · have c' := c
      refine ⟨.inl (S.2.1 1 1 4), sR S1 1 (uF (S.2.1 1) 1 4 j), hcl 4 (by decide) (by omega), r2, by rw [sR_n1 (by decide)]; exact r4, fun T hT hμ => ?_⟩
      have hT13 := sR_i hμ
      obtain ⟨g8, k1, k2⟩ := p_cop6_8 (T := T) (μ := uF (S.2.1 13) 0 0 (1 - 1)) hT
      rw [uF_6] at k2
      obtain ⟨μ', d1, d2, d3⟩ := hdone T (uF (S.2.1 1) 1 4 j) (uN (S.2.1 13 6) 1 j) g8 (S.2.1 1 1 4) (1 - 1) hT (gf_of (q_rate hR0 hF c.2) (by simp (disch := omega) only [uF_e, uF_o, uF_k, uG_e, uG_o, uN_e, uN_k, true_or, or_true]; exact hGF.2) hbb) k2
      refine ⟨S.2.1 1 1 4, μ', q, q2, ?_, ⟨rfl, d2⟩, d3⟩
      show f_X12_set_p4_0 T 13 i j = _
      rw [hT13, hml T 1 _ μ' g8 hT (by omega) e1n.symm k1 d1, sR_s]
    · have c' := c
      refine ⟨.inl (S.2.1 1 1 5), sR S1 1 (uF (S.2.1 1) 1 5 j), hcl 5 (by decide) (by omega), r2, by rw [sR_n1 (by decide)]; exact r4, fun T hT hμ => ?_⟩
      have hT13 := sR_i hμ
      obtain ⟨g8, k1, k2⟩ := p_cop6_8 (T := T) (μ := uF (S.2.1 13) 0 0 (1 - 1)) hT
      rw [uF_6] at k2
      obtain ⟨μ', d1, d2, d3⟩ := hdone T (uF (S.2.1 1) 1 5 j) (uN (S.2.1 13 6) 2 j) g8 (S.2.1 1 1 5) (1 - 1) hT (gf_of (q_loopset hR0 hF c.2) (by simp (disch := omega) only [uF_e, uF_o, uF_k, uG_e, uG_o, uN_e, uN_k, true_or, or_true]; exact hGF.2) hbb) k2
      refine ⟨S.2.1 1 1 5, μ', q, q2, ?_, ⟨rfl, d2⟩, d3⟩
      show f_X12_set_p4_0 T 13 i j = _
      rw [hT13, hml T 2 _ μ' g8 hT (by omega) e2.symm k1 d1, sR_s]
  · refine callR hI (v := .inr 2) (v' := 0) (z := 1 - 0) ?_ (fun T hT => ?_) ⟨uF_e.symm, Or.inl rfl⟩
    · have h29 : ∀ x : Int, x = 0 ∨ x = 4 ∨ x = 5 → x = i - 2 → f_X11_set_p3_0_b29 0 S j x = some (.inr 2, S) := by
        intro x hx hxi
        unfold f_X11_set_p3_0_b29
        rw [p_allow hj hx, if_neg (by omega)]
        simp only [bd2_e]
        rw [if_neg (by decide)]
      unfold f_X11_set_p3_0
      rw [wr_e (z := 4) (by decide), wr_e (z := 5) (by decide)]
      by_cases o2 : -2147483648 ≤ i - 2
      · rw [wr_e (z := i - 2) (by omega)]
        by_cases a : i - 2 = 0
        · rw [if_pos a, h29 _ (by omega) rfl]
        · rw [if_neg a]
          by_cases b : i - 2 = 4
          · rw [if_pos b, h29 _ (by omega) rfl]
          · rw [if_neg b]
            by_cases d : i - 2 = 5
            · rw [if_pos d, h29 _ (by omega) rfl]
            · rw [if_neg d]
      · have ew : wr (i - 2) = i - 2 + 4294967296 := by unfold wr; omega
        rw [ew, if_neg (by omega), if_neg (by omega), if_neg (by omega)]
    · unfold f_X12_set_p4_0
      rw [p_setT hi hj, if_neg c]
      simp only [bd2_e]
      rw [p_is (Or.inl rfl)]
      simp only [bd2_e]
      rw [if_neg (by decide)]
end E7
