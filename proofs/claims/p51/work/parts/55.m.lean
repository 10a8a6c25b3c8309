/-! mathematics: one more is marked -/
/-- one more is marked -/
def apF (F : xR) (v : Int) : xR := uF (uF (uF F 6 (F 5 2).toNat (F 0 10)) 7 (F 5 2).toNat v) 5 2 (F 5 2 + 1)
section C15
variable {π F G H : xR} {B : Int}
theorem mk_fi (hR : PR π) (hF : FI π B F) (h80 : F 8 0 = 0) (hpl : F 0 10 < π 0 10) (h5 : F 5 2 < F 1 2) {v p : Int} (hv : v = 0 ∨ v = 1) (hv1 : v = 1 → 8 ≤ π 5 (F 0 10).toNat) (hv8 : π 5 (F 0 10).toNat = 8 → v = 1) (hp' : p = if v = 1 then π 11 (F 0 10).toNat else F 0 10 + 1) : FI π B (uF (apF F v) 0 10 p) := by
  obtain ⟨hr, hu, hq, ht, hd, hl, hc, hp, hn, hz⟩ := id hF
  obtain ⟨r0, r1, r2, r3, r4, r5, r6, r7, r8, r9, r10, r11, r12, r13, r14, r15, r16, r17⟩ := id hr
  obtain ⟨n0, n1, n2, n3, n4⟩ := id hn
  have p3 := hR.2.2.2.1
  obtain ⟨-, -, k3, -⟩ := pr_k hR (show ((F 0 10).toNat : Int) < π 0 10 by omega)
  have hpr : 0 ≤ p ∧ p ≤ π 0 10 := by
    rw [hp']
    split
    · exact k3 (hv1 (by assumption))
    · omega
  obtain ⟨c1, c2, c3, c4⟩ := hc h80
  unfold apF
  refine ⟨?_, ?_, ?_, ?_, ?_, ?_, ?_, ?_, ?_, ?_⟩
  · unfold FR
    refine ⟨?_, ?_, ?_, ?_, ?_, ?_, ?_, ?_, ?_, ?_, ?_, ?_, ?_, ?_, ?_, ?_, ?_, ?_⟩ <;> (try simp (disch := omega) only [uF_e, uF_o, uF_k, uG_e, uG_o, true_or, or_true]) <;> omega
  · intro j hj
    try simp (disch := omega) only [uF_e, uF_o, uF_k, uG_e, uG_o, true_or, or_true]
    exact hu j hj
  · intro j hj
    simp (disch := omega) only [uF_e, uF_o, uF_k, uG_e, uG_o, true_or, or_true] at hj
    by_cases c : j = (F 5 2).toNat
    · rw [c]
      simp (disch := omega) only [uF_e, uF_o, uF_k, uG_e, uG_o, true_or, or_true]
      exact ⟨⟨r6.1, hpl⟩, hv, hv1, hv8⟩
    · simp (disch := omega) only [uF_e, uF_o, uF_k, uG_e, uG_o, true_or, or_true]
      exact hq j (by omega)
  · refine ⟨fun k hk => ?_, fun k hk h9 => ?_⟩
    · try simp (disch := omega) only [uF_e, uF_o, uF_k, uG_e, uG_o, true_or, or_true]
      exact ht.1 k hk
    · try simp (disch := omega) only [uF_e, uF_o, uF_k, uG_e, uG_o, true_or, or_true]
      exact ht.2 k hk h9
  · unfold FD
    try simp (disch := omega) only [uF_e, uF_o, uF_k, uG_e, uG_o, true_or, or_true]
    exact hd
  · intro h1
    simp (disch := omega) only [uF_e, uF_o, uF_k, uG_e, uG_o, true_or, or_true] at h1
    exact absurd h1 (by omega)
  · intro _
    refine ⟨fun h => ?_, fun j hj => ?_, fun h => ?_, fun j hj => ?_⟩
    · by_cases c0 : F 5 2 = 0
      · have hn : (F 5 2).toNat = 0 := by omega
        rw [hn]
        simp (disch := omega) only [uF_e, uF_o, uF_k, uG_e, uG_o, true_or, or_true]
        exact c3 c0
      · simp (disch := omega) only [uF_e, uF_o, uF_k, uG_e, uG_o, true_or, or_true]
        exact c1 (by omega)
    · simp (disch := omega) only [uF_e, uF_o, uF_k, uG_e, uG_o, true_or, or_true] at hj
      unfold nxq
      by_cases c0 : (j : Int) + 1 = F 5 2
      · have hn : (F 5 2).toNat = j + 1 := by omega
        rw [hn]
        simp (disch := omega) only [uF_e, uF_o, uF_k, uG_e, uG_o, true_or, or_true]
        exact c4 j c0
      · simp (disch := omega) only [uF_e, uF_o, uF_k, uG_e, uG_o, true_or, or_true]
        exact c2 j (by omega)
    · simp (disch := omega) only [uF_e, uF_o, uF_k, uG_e, uG_o, true_or, or_true] at h
      exact absurd h (by omega)
    · simp (disch := omega) only [uF_e, uF_o, uF_k, uG_e, uG_o, true_or, or_true] at hj
      have hn : (F 5 2).toNat = j := by omega
      unfold nxq
      rw [hn]
      simp (disch := omega) only [uF_e, uF_o, uF_k, uG_e, uG_o, true_or, or_true]
      exact hp'
  · unfold FP
    try simp (disch := omega) only [uF_e, uF_o, uF_k, uG_e, uG_o, true_or, or_true]
    exact hp
  · refine ⟨fun k => ?_, fun k => ?_, ?_, ?_, ?_⟩
    · simp (disch := omega) only [uF_e, uF_o, uF_k, uG_e, uG_o, true_or, or_true]
      exact n0 k
    · simp (disch := omega) only [uF_e, uF_o, uF_k, uG_e, uG_o, true_or, or_true]
      exact n1 k
    · simp (disch := omega) only [uF_e, uF_o, uF_k, uG_e, uG_o, true_or, or_true]
      omega
    · simp (disch := omega) only [uF_e, uF_o, uF_k, uG_e, uG_o, true_or, or_true]
      omega
    · simp (disch := omega) only [uF_e, uF_o, uF_k, uG_e, uG_o, true_or, or_true]
      omega
  · exact zb_F (zb_F (zb_F (zb_F hz (decide_eq_true (by omega))) (decide_eq_true (by omega))) rfl) rfl
theorem t11_fi (hF : FI π B F) : FI π B (uF F 0 11 1) := by
  obtain ⟨hr, hu, hq, ht, hd, hl, hc, hp, hn, hz⟩ := id hF
  obtain ⟨r0, r1, r2, r3, r4, r5, r6, r7, r8, r9, r10, r11, r12, r13, r14, r15, r16, r17⟩ := id hr
  obtain ⟨n0, n1, n2, n3, n4⟩ := id hn
  refine ⟨?_, ?_, ?_, ?_, ?_, ?_, ?_, ?_, ?_, ?_⟩
  · unfold FR
    refine ⟨?_, ?_, ?_, ?_, ?_, ?_, ?_, ?_, ?_, ?_, ?_, ?_, ?_, ?_, ?_, ?_, ?_, ?_⟩ <;> (try simp (disch := omega) only [uF_e, uF_o, uF_k, uG_e, uG_o, true_or, or_true]) <;> omega
  · intro j hj
    try simp (disch := omega) only [uF_e, uF_o, uF_k, uG_e, uG_o, true_or, or_true]
    exact hu j hj
  · intro j hj
    try simp (disch := omega) only [uF_e, uF_o, uF_k, uG_e, uG_o, true_or, or_true] at hj
    try simp (disch := omega) only [uF_e, uF_o, uF_k, uG_e, uG_o, true_or, or_true]
    first | exact hq j hj | exact absurd hj (by omega)
  · refine ⟨fun k hk => ?_, fun k hk h9 => ?_⟩
    · try simp (disch := omega) only [uF_e, uF_o, uF_k, uG_e, uG_o, true_or, or_true]
      exact ht.1 k hk
    · try simp (disch := omega) only [uF_e, uF_o, uF_k, uG_e, uG_o, true_or, or_true]
      exact ht.2 k hk h9
  · unfold FD
    try simp (disch := omega) only [uF_e, uF_o, uF_k, uG_e, uG_o, true_or, or_true]
    exact hd
  · intro h1
    try simp (disch := omega) only [uF_e, uF_o, uF_k, uG_e, uG_o, true_or, or_true] at h1
    try simp (disch := omega) only [uF_e, uF_o, uF_k, uG_e, uG_o, true_or, or_true]
    first | exact hl h1 | exact absurd h1 (by decide)
  · intro h1
    try simp (disch := omega) only [uF_e, uF_o, uF_k, uG_e, uG_o, true_or, or_true] at h1
    unfold nxq
    try simp (disch := omega) only [uF_e, uF_o, uF_k, uG_e, uG_o, true_or, or_true]
    first | exact hc h1 | exact absurd h1 (by decide)
  · unfold FP
    try simp (disch := omega) only [uF_e, uF_o, uF_k, uG_e, uG_o, true_or, or_true]
    exact hp
  · refine ⟨fun k => ?_, fun k => ?_, ?_, ?_, ?_⟩
    · simp (disch := omega) only [uF_e, uF_o, uF_k, uG_e, uG_o, true_or, or_true]
      exact n0 k
    · simp (disch := omega) only [uF_e, uF_o, uF_k, uG_e, uG_o, true_or, or_true]
      exact n1 k
    · simp (disch := omega) only [uF_e, uF_o, uF_k, uG_e, uG_o, true_or, or_true]
      omega
    · simp (disch := omega) only [uF_e, uF_o, uF_k, uG_e, uG_o, true_or, or_true]
      omega
    · simp (disch := omega) only [uF_e, uF_o, uF_k, uG_e, uG_o, true_or, or_true]
      omega
  · repeat' apply zb_F
    all_goals first | exact hz | rfl
theorem t16_fi (hF : FI π B F) {z : Int} (h : 0 ≤ z ∧ z ≤ 3) : FI π B (uF F 0 16 z) := by
  obtain ⟨hr, hu, hq, ht, hd, hl, hc, hp, hn, hz⟩ := id hF
  obtain ⟨r0, r1, r2, r3, r4, r5, r6, r7, r8, r9, r10, r11, r12, r13, r14, r15, r16, r17⟩ := id hr
  obtain ⟨n0, n1, n2, n3, n4⟩ := id hn
  refine ⟨?_, ?_, ?_, ?_, ?_, ?_, ?_, ?_, ?_, ?_⟩
  · unfold FR
    refine ⟨?_, ?_, ?_, ?_, ?_, ?_, ?_, ?_, ?_, ?_, ?_, ?_, ?_, ?_, ?_, ?_, ?_, ?_⟩ <;> (try simp (disch := omega) only [uF_e, uF_o, uF_k, uG_e, uG_o, true_or, or_true]) <;> omega
  · intro j hj
    try simp (disch := omega) only [uF_e, uF_o, uF_k, uG_e, uG_o, true_or, or_true]
    exact hu j hj
  · intro j hj
    try simp (disch := omega) only [uF_e, uF_o, uF_k, uG_e, uG_o, true_or, or_true] at hj
    try simp (disch := omega) only [uF_e, uF_o, uF_k, uG_e, uG_o, true_or, or_true]
    first | exact hq j hj | exact absurd hj (by omega)
  · refine ⟨fun k hk => ?_, fun k hk h9 => ?_⟩
    · try simp (disch := omega) only [uF_e, uF_o, uF_k, uG_e, uG_o, true_or, or_true]
      exact ht.1 k hk
    · try simp (disch := omega) only [uF_e, uF_o, uF_k, uG_e, uG_o, true_or, or_true]
      exact ht.2 k hk h9
  · unfold FD
    try simp (disch := omega) only [uF_e, uF_o, uF_k, uG_e, uG_o, true_or, or_true]
    exact hd
  · intro h1
    try simp (disch := omega) only [uF_e, uF_o, uF_k, uG_e, uG_o, true_or, or_true] at h1
    try simp (disch := omega) only [uF_e, uF_o, uF_k, uG_e, uG_o, true_or, or_true]
    first | exact hl h1 | exact absurd h1 (by decide)
  · intro h1
    try simp (disch := omega) only [uF_e, uF_o, uF_k, uG_e, uG_o, true_or, or_true] at h1
    unfold nxq
    try simp (disch := omega) only [uF_e, uF_o, uF_k, uG_e, uG_o, true_or, or_true]
    first | exact hc h1 | exact absurd h1 (by decide)
  · unfold FP
    try simp (disch := omega) only [uF_e, uF_o, uF_k, uG_e, uG_o, true_or, or_true]
    exact hp
  · refine ⟨fun k => ?_, fun k => ?_, ?_, ?_, ?_⟩
    · simp (disch := omega) only [uF_e, uF_o, uF_k, uG_e, uG_o, true_or, or_true]
      exact n0 k
    · simp (disch := omega) only [uF_e, uF_o, uF_k, uG_e, uG_o, true_or, or_true]
      exact n1 k
    · simp (disch := omega) only [uF_e, uF_o, uF_k, uG_e, uG_o, true_or, or_true]
      omega
    · simp (disch := omega) only [uF_e, uF_o, uF_k, uG_e, uG_o, true_or, or_true]
      omega
    · simp (disch := omega) only [uF_e, uF_o, uF_k, uG_e, uG_o, true_or, or_true]
      omega
  · repeat' apply zb_F
    all_goals first | exact hz | rfl
theorem p_pred (hR : PR π) (hF : FI π B F) {a : Int} (ha : 0 ≤ a ∧ a < π 0 10) : ∃ v, (v = 0 ∨ v = 1) ∧ (v = 1 → 8 ≤ π 5 a.toNat) ∧ (π 5 a.toNat = 8 → v = 1) ∧ ∀ S r q, CC S r q π → f_X0_predictsTaken_p1_0 (sR S r F) r a = some (v, sR S r F) := by
  have p0 := pr_n hR
  obtain ⟨k1, -⟩ := pr_k hR (show (a.toNat : Int) < π 0 10 by omega)
  obtain ⟨hr, hu, hq, ht, -⟩ := id hF
  obtain ⟨t1, t2⟩ := ht.1 a.toNat (by omega)
  by_cases c : π 5 a.toNat = 8
  · refine ⟨1, Or.inr rfl, fun _ => by omega, fun _ => rfl, fun S r q hC => ?_⟩
    unfold f_X0_predictsTaken_p1_0
    simp (disch := omega) only [lt1_e, bd_e, bd2_e, sR_g, sR_w, sR_a, sR_s, cc_p hC, cc_q hC, ckI_e, wr_e, ite_not, uF_e, uF_o, uF_k, uG_e, uG_o]
    rw [if_neg (by omega), if_pos ha.2, if_pos c]
  · refine ⟨F 19 a.toNat, t1, t2, fun h => absurd h c, fun S r q hC => ?_⟩
    unfold f_X0_predictsTaken_p1_0
    simp (disch := omega) only [lt1_e, bd_e, bd2_e, sR_g, sR_w, sR_a, sR_s, cc_p hC, cc_q hC, ckI_e, wr_e, ite_not, uF_e, uF_o, uF_k, uG_e, uG_o]
    rw [if_neg (by omega), if_pos ha.2, if_neg c]
    rcases t1 with h | h
    · rw [h, if_pos rfl]
    · rw [h, if_neg (by decide)]
theorem p_app (h5 : 0 ≤ F 5 2 ∧ F 5 2 < 20) {v : Int} (hv : v = 0 ∨ v = 1) {S : xSt} {r : Nat} : f_X6_append_p1_5 (sR S r F) r (F 0 10) v = some (sR S r (apF F v)) := by
  unfold f_X6_append_p1_5 apF
  simp (disch := omega) only [lt1_e, sR_g, sR_w, wr_e, ckI_e, ckB_e, uF_o, uF_k]
  rw [if_neg (by omega), if_neg (by omega)]
theorem p_b64 (hR : PR π) {a v : Int} (ha : 0 ≤ a ∧ a < π 0 10) (hv : v = 0 ∨ v = 1) : ∃ z : Int, (z = 0 ∨ z = 1) ∧ ∀ S r q, CC S r q π → f_X0_mark_p1_0_b64 r (sR S r G) a v = some (z, sR S r (if π 6 a.toNat = 0 then G else uF G 0 16 3)) := by
  have p0 := pr_n hR
  obtain ⟨-, k2, -⟩ := pr_k hR (show (a.toNat : Int) < π 0 10 by omega)
  refine ⟨if v = 0 ∧ π 6 a.toNat = 0 then 1 else 0, by split; exact Or.inr rfl; exact Or.inl rfl, fun S r q hC => ?_⟩
  unfold f_X0_mark_p1_0_b64 f_X0_mark_p1_0_b81
  simp (disch := omega) only [lt1_e, bd_e, bd2_e, sR_g, sR_w, sR_a, sR_s, cc_p hC, cc_q hC, ckI_e, wr_e, ite_not, uF_e, uF_o, uF_k, uG_e, uG_o]
  by_cases c : π 6 a.toNat = 0
  · rw [if_pos c]
    by_cases cv : v = 0
    · simp only [cv, c, if_true, and_self]
    · simp only [cv, c, if_true, if_false, false_and]
  · rw [if_neg c]
    simp only [c, if_false, and_false]
    split <;> rfl
theorem p_mark (hR : PR π) (hF : FI π B F) (hB : B ≤ 60000000) (h80 : F 8 0 = 0) (hpl : F 0 10 < π 0 10) (h5 : F 5 2 < F 1 2) : ∃ z F', (z = 0 ∨ z = 1) ∧ (∀ S r q, CC S r q π → f_X0_mark_p1_0 (sR S r F) r = some (z, sR S r F')) ∧ FI π B F' ∧ F' 1 = F 1 ∧ F' 15 0 = F 15 0 ∧ F' 15 1 = F 15 1 ∧ F' 15 3 = F 15 3 ∧ F' 16 = F 16 ∧ F' 8 0 = F 8 0 := by
  obtain ⟨hr, hu, hq, ht, hd, hl, hc, hp, hn, hz⟩ := id hF
  obtain ⟨r0, r1, r2, r3, r4, r5, r6, r7, r8, r9, r10, r11, r12, r13, r14, r15, r16, r17⟩ := id hr
  obtain ⟨n0, n1, n2, n3, n4⟩ := id hn
  have p0 := pr_n hR
  have p3 := hR.2.2.2.1
  obtain ⟨v, hv, hv1, hv8, hpr⟩ := p_pred hR hF (a := F 0 10) ⟨r6.1, hpl⟩
  have hM := mk_fi hR hF h80 hpl h5 hv hv1 hv8 rfl
  rcases hv with c | c
  · rw [if_neg (by omega)] at hM
    obtain ⟨z, hz01, hev⟩ := p_b64 (G := uF (apF F v) 0 10 (F 0 10 + 1)) (v := v) hR ⟨r6.1, hpl⟩ (Or.inl c)
    refine ⟨z, if π 6 (F 0 10).toNat = 0 then uF (apF F v) 0 10 (F 0 10 + 1) else uF (uF (apF F v) 0 10 (F 0 10 + 1)) 0 16 3, hz01, fun S r q hC => ?_, ?_⟩
    · unfold f_X0_mark_p1_0
      simp (disch := omega) only [lt1_e, bd_e, bd2_e, sR_g, sR_w, sR_a, sR_s, cc_p hC, cc_q hC, ckI_e, wr_e, ite_not, uF_e, uF_o, uF_k, uG_e, uG_o]
      rw [if_neg (by omega), if_pos hpl, hpr S r q hC, bd2_e]
      simp (disch := omega) only [lt1_e, bd_e, bd2_e, sR_g, sR_w, sR_a, sR_s, cc_p hC, cc_q hC, ckI_e, wr_e, ite_not, uF_e, uF_o, uF_k, uG_e, uG_o]
      rw [p_app (by omega) (Or.inl c), bd_e]
      simp (disch := omega) only [lt1_e, bd_e, bd2_e, sR_g, sR_w, sR_a, sR_s, cc_p hC, cc_q hC, ckI_e, wr_e, ite_not, uF_e, uF_o, uF_k, uG_e, uG_o]
      rw [if_pos c]
      exact hev S r q hC
    · split
      · exact ⟨hM, rfl, rfl, rfl, rfl, rfl, rfl⟩
      · exact ⟨t16_fi hM (by decide), rfl, rfl, rfl, rfl, rfl, rfl⟩
  · rw [if_pos c] at hM
    obtain ⟨z, hz01, hev⟩ := p_b64 (G := uF (uF (apF F v) 0 10 (π 11 (F 0 10).toNat)) 0 11 1) (v := v) hR ⟨r6.1, hpl⟩ (Or.inr c)
    refine ⟨z, if π 6 (F 0 10).toNat = 0 then uF (uF (apF F v) 0 10 (π 11 (F 0 10).toNat)) 0 11 1 else uF (uF (uF (apF F v) 0 10 (π 11 (F 0 10).toNat)) 0 11 1) 0 16 3, hz01, fun S r q hC => ?_, ?_⟩
    · unfold f_X0_mark_p1_0
      simp (disch := omega) only [lt1_e, bd_e, bd2_e, sR_g, sR_w, sR_a, sR_s, cc_p hC, cc_q hC, ckI_e, wr_e, ite_not, uF_e, uF_o, uF_k, uG_e, uG_o]
      rw [if_neg (by omega), if_pos hpl, hpr S r q hC, bd2_e]
      simp (disch := omega) only [lt1_e, bd_e, bd2_e, sR_g, sR_w, sR_a, sR_s, cc_p hC, cc_q hC, ckI_e, wr_e, ite_not, uF_e, uF_o, uF_k, uG_e, uG_o]
      rw [p_app (by omega) (Or.inr c), bd_e]
      unfold f_X0_setPlace_p1_0
      simp (disch := omega) only [lt1_e, bd_e, bd2_e, sR_g, sR_w, sR_a, sR_s, cc_p hC, cc_q hC, ckI_e, wr_e, ite_not, uF_e, uF_o, uF_k, uG_e, uG_o]
      rw [if_neg (by omega)]
      exact hev S r q hC
    · split
      · exact ⟨t11_fi hM, rfl, rfl, rfl, rfl, rfl, rfl⟩
      · exact ⟨t16_fi (t11_fi hM) (by decide), rfl, rfl, rfl, rfl, rfl, rfl⟩
end C15
