/-! mathematics: the acts -/
section C35
variable {π F G H : xR} {S S' S2 : xSt} {i c : Int} {b : Nat} {B : Int} {n : Nat} {q : Nat → Int}
theorem st17_fi (hF : FI π B F) {z : Int} (h : 0 ≤ z ∧ z ≤ 99) : FI π B (uF F 0 17 z) := by
  obtain ⟨hr, hu, hq, ht, hd, hl, hc, hp, hn, hz⟩ := id hF
  obtain ⟨r0, r1, r2, r3, r4, r5, r6, r7, r8, r9, r10, r11, r12, r13, r14, r15, r16, r17⟩ := id hr
  obtain ⟨n0, n1, n2, n3, n4⟩ := id hn
  refine ⟨?_, ?_, ?_, ?_, ?_, ?_, ?_, ?_, ?_, ?_⟩
  · unfold FR
    refine ⟨?_, ?_, ?_, ?_, ?_, ?_, ?_, ?_, ?_, ?_, ?_, ?_, ?_, ?_, ?_, ?_, ?_, ?_⟩ <;> (try simp (disch := omega) only [uF_e, uF_o, uF_k, uG_e, uG_o, true_or, or_true]) <;> omega
  · intro j hj
    try simp (disch := omega) only [uF_e, uF_o, uF_k, uG_e, uG_o, true_or, or_true]
    exact hu j hj
  · intro j hj
    try simp (disch := omega) only [uF_e, uF_o, uF_k, uG_e, uG_o, true_or, or_true] at hj
    try simp (disch := omega) only [uF_e, uF_o, uF_k, uG_e, uG_o, true_or, or_true]
    first | exact hq j hj | exact absurd hj (by omega)
  · refine ⟨fun k hk => ?_, fun k hk h9 => ?_⟩
    · try simp (disch := omega) only [uF_e, uF_o, uF_k, uG_e, uG_o, true_or, or_true]
      exact ht.1 k hk
    · try simp (disch := omega) only [uF_e, uF_o, uF_k, uG_e, uG_o, true_or, or_true]
      exact ht.2 k hk h9
  · unfold FD
    try simp (disch := omega) only [uF_e, uF_o, uF_k, uG_e, uG_o, true_or, or_true]
    exact hd
  · intro h1
    try simp (disch := omega) only [uF_e, uF_o, uF_k, uG_e, uG_o, true_or, or_true] at h1
    try simp (disch := omega) only [uF_e, uF_o, uF_k, uG_e, uG_o, true_or, or_true]
    first | exact hl h1 | exact absurd h1 (by decide)
  · intro h1
    try simp (disch := omega) only [uF_e, uF_o, uF_k, uG_e, uG_o, true_or, or_true] at h1
    unfold nxq
    try simp (disch := omega) only [uF_e, uF_o, uF_k, uG_e, uG_o, true_or, or_true]
    first | exact hc h1 | exact absurd h1 (by decide)
  · unfold FP
    try simp (disch := omega) only [uF_e, uF_o, uF_k, uG_e, uG_o, true_or, or_true]
    exact hp
  · refine ⟨fun k => ?_, fun k => ?_, ?_, ?_, ?_⟩
    · try simp (disch := omega) only [uF_e, uF_o, uF_k, uG_e, uG_o, true_or, or_true]
      exact n0 k
    · try simp (disch := omega) only [uF_e, uF_o, uF_k, uG_e, uG_o, true_or, or_true]
      exact n1 k
    · try simp (disch := omega) only [uF_e, uF_o, uF_k, uG_e, uG_o, true_or, or_true]
      omega
    · try simp (disch := omega) only [uF_e, uF_o, uF_k, uG_e, uG_o, true_or, or_true]
      omega
    · try simp (disch := omega) only [uF_e, uF_o, uF_k, uG_e, uG_o, true_or, or_true]
      omega
  · repeat' apply zb_F
    all_goals first | exact hz | rfl
theorem st10_fi (hF : FI π B F) {z : Int} (h : 1 ≤ z ∧ z ≤ 6) : FI π B (uF F 1 0 z) := by
  obtain ⟨hr, hu, hq, ht, hd, hl, hc, hp, hn, hz⟩ := id hF
  obtain ⟨r0, r1, r2, r3, r4, r5, r6, r7, r8, r9, r10, r11, r12, r13, r14, r15, r16, r17⟩ := id hr
  obtain ⟨n0, n1, n2, n3, n4⟩ := id hn
  refine ⟨?_, ?_, ?_, ?_, ?_, ?_, ?_, ?_, ?_, ?_⟩
  · unfold FR
    refine ⟨?_, ?_, ?_, ?_, ?_, ?_, ?_, ?_, ?_, ?_, ?_, ?_, ?_, ?_, ?_, ?_, ?_, ?_⟩ <;> (try simp (disch := omega) only [uF_e, uF_o, uF_k, uG_e, uG_o, true_or, or_true]) <;> omega
  · intro j hj
    try simp (disch := omega) only [uF_e, uF_o, uF_k, uG_e, uG_o, true_or, or_true]
    exact hu j hj
  · intro j hj
    try simp (disch := omega) only [uF_e, uF_o, uF_k, uG_e, uG_o, true_or, or_true] at hj
    try simp (disch := omega) only [uF_e, uF_o, uF_k, uG_e, uG_o, true_or, or_true]
    first | exact hq j hj | exact absurd hj (by omega)
  · refine ⟨fun k hk => ?_, fun k hk h9 => ?_⟩
    · try simp (disch := omega) only [uF_e, uF_o, uF_k, uG_e, uG_o, true_or, or_true]
      exact ht.1 k hk
    · try simp (disch := omega) only [uF_e, uF_o, uF_k, uG_e, uG_o, true_or, or_true]
      exact ht.2 k hk h9
  · unfold FD
    try simp (disch := omega) only [uF_e, uF_o, uF_k, uG_e, uG_o, true_or, or_true]
    exact hd
  · intro h1
    try simp (disch := omega) only [uF_e, uF_o, uF_k, uG_e, uG_o, true_or, or_true] at h1
    try simp (disch := omega) only [uF_e, uF_o, uF_k, uG_e, uG_o, true_or, or_true]
    first | exact hl h1 | exact absurd h1 (by decide)
  · intro h1
    try simp (disch := omega) only [uF_e, uF_o, uF_k, uG_e, uG_o, true_or, or_true] at h1
    unfold nxq
    try simp (disch := omega) only [uF_e, uF_o, uF_k, uG_e, uG_o, true_or, or_true]
    first | exact hc h1 | exact absurd h1 (by decide)
  · unfold FP
    try simp (disch := omega) only [uF_e, uF_o, uF_k, uG_e, uG_o, true_or, or_true]
    exact hp
  · refine ⟨fun k => ?_, fun k => ?_, ?_, ?_, ?_⟩
    · try simp (disch := omega) only [uF_e, uF_o, uF_k, uG_e, uG_o, true_or, or_true]
      exact n0 k
    · try simp (disch := omega) only [uF_e, uF_o, uF_k, uG_e, uG_o, true_or, or_true]
      exact n1 k
    · try simp (disch := omega) only [uF_e, uF_o, uF_k, uG_e, uG_o, true_or, or_true]
      omega
    · try simp (disch := omega) only [uF_e, uF_o, uF_k, uG_e, uG_o, true_or, or_true]
      omega
    · try simp (disch := omega) only [uF_e, uF_o, uF_k, uG_e, uG_o, true_or, or_true]
      omega
  · repeat' apply zb_F
    all_goals first | exact hz | rfl
theorem st15_fi (hF : FI π B F) {z : Int} (h : 0 ≤ z ∧ z ≤ 30) : FI π B (uF F 1 5 z) := by
  obtain ⟨hr, hu, hq, ht, hd, hl, hc, hp, hn, hz⟩ := id hF
  obtain ⟨r0, r1, r2, r3, r4, r5, r6, r7, r8, r9, r10, r11, r12, r13, r14, r15, r16, r17⟩ := id hr
  obtain ⟨n0, n1, n2, n3, n4⟩ := id hn
  refine ⟨?_, ?_, ?_, ?_, ?_, ?_, ?_, ?_, ?_, ?_⟩
  · unfold FR
    refine ⟨?_, ?_, ?_, ?_, ?_, ?_, ?_, ?_, ?_, ?_, ?_, ?_, ?_, ?_, ?_, ?_, ?_, ?_⟩ <;> (try simp (disch := omega) only [uF_e, uF_o, uF_k, uG_e, uG_o, true_or, or_true]) <;> omega
  · intro j hj
    try simp (disch := omega) only [uF_e, uF_o, uF_k, uG_e, uG_o, true_or, or_true]
    exact hu j hj
  · intro j hj
    try simp (disch := omega) only [uF_e, uF_o, uF_k, uG_e, uG_o, true_or, or_true] at hj
    try simp (disch := omega) only [uF_e, uF_o, uF_k, uG_e, uG_o, true_or, or_true]
    first | exact hq j hj | exact absurd hj (by omega)
  · refine ⟨fun k hk => ?_, fun k hk h9 => ?_⟩
    · try simp (disch := omega) only [uF_e, uF_o, uF_k, uG_e, uG_o, true_or, or_true]
      exact ht.1 k hk
    · try simp (disch := omega) only [uF_e, uF_o, uF_k, uG_e, uG_o, true_or, or_true]
      exact ht.2 k hk h9
  · unfold FD
    try simp (disch := omega) only [uF_e, uF_o, uF_k, uG_e, uG_o, true_or, or_true]
    exact hd
  · intro h1
    try simp (disch := omega) only [uF_e, uF_o, uF_k, uG_e, uG_o, true_or, or_true] at h1
    try simp (disch := omega) only [uF_e, uF_o, uF_k, uG_e, uG_o, true_or, or_true]
    first | exact hl h1 | exact absurd h1 (by decide)
  · intro h1
    try simp (disch := omega) only [uF_e, uF_o, uF_k, uG_e, uG_o, true_or, or_true] at h1
    unfold nxq
    try simp (disch := omega) only [uF_e, uF_o, uF_k, uG_e, uG_o, true_or, or_true]
    first | exact hc h1 | exact absurd h1 (by decide)
  · unfold FP
    try simp (disch := omega) only [uF_e, uF_o, uF_k, uG_e, uG_o, true_or, or_true]
    exact hp
  · refine ⟨fun k => ?_, fun k => ?_, ?_, ?_, ?_⟩
    · try simp (disch := omega) only [uF_e, uF_o, uF_k, uG_e, uG_o, true_or, or_true]
      exact n0 k
    · try simp (disch := omega) only [uF_e, uF_o, uF_k, uG_e, uG_o, true_or, or_true]
      exact n1 k
    · try simp (disch := omega) only [uF_e, uF_o, uF_k, uG_e, uG_o, true_or, or_true]
      omega
    · try simp (disch := omega) only [uF_e, uF_o, uF_k, uG_e, uG_o, true_or, or_true]
      omega
    · try simp (disch := omega) only [uF_e, uF_o, uF_k, uG_e, uG_o, true_or, or_true]
      omega
  · repeat' apply zb_F
    all_goals first | exact hz | rfl
theorem dr_i (hn : n ≤ 1000000) {i lo hi : Int} (hi1 : 0 ≤ i ∧ i ≤ 1000000) (hl : 0 ≤ lo ∧ lo ≤ hi ∧ hi ≤ 1000) : ∃ v, (∀ S, f_L_draw S n q i lo hi = some (v, S)) ∧ lo ≤ v ∧ v ≤ hi := by
  have h := drN_le (n := n) (q := q) (i := i.toNat) (lo := lo.toNat) (hi := hi.toNat) (by omega)
  refine ⟨((drN n q i.toNat lo.toNat hi.toNat : Nat) : Int), fun S => ?_, by omega, by omega⟩
  have e := dr_e (S := S) (n := n) (q := q) (i := i.toNat) (lo := lo.toNat) (hi := hi.toNat) hn (by omega) (by omega) (by omega)
  rw [show ((i.toNat : Nat) : Int) = i by omega, show ((lo.toNat : Nat) : Int) = lo by omega, show ((hi.toNat : Nat) : Int) = hi by omega] at e
  exact e
/-- an act -/
theorem w_act (hR : PR π) (hn : n ≤ 1000000) (hW : WD π S F i c) (hi : 0 ≤ i ∧ i ≤ 5) (hc : 0 ≤ c ∧ c ≤ 6) (hF : FI π B F) (hB : B ≤ 20000000) {M : Int} (hM : 80 ≤ M) (hD : F 15 1 ≤ M) {k : Int} (hk : 0 ≤ k ∧ k ≤ 1000) : ∃ S1 F' i' c', f_L_act_p3_0 S 0 n q k = some S1 ∧ WD π S1 F' i' c' ∧ (0 ≤ i' ∧ i' ≤ 5) ∧ (0 ≤ c' ∧ c' ≤ 6) ∧ FI π (B + 150000) F' ∧ F' 15 1 ≤ M + 180 := by
  obtain ⟨v, ev, hv⟩ := dr_i (q := q) hn (i := 3 * k) (lo := 0) (hi := 5) (by omega) (by decide)
  unfold f_L_act_p3_0
  rw [ev, bd2_e, wr_e (z := v) (by omega)]
  by_cases c4 : 3 < v
  · obtain ⟨w, ew, hw⟩ := dr_i (q := q) hn (i := 3 * k + 1) (lo := 1) (hi := 15) (by omega) (by decide)
    obtain ⟨F', e1, f1, -, -, -, -, k5⟩ := p_for hR hF (n := w) (by omega) (by omega)
    obtain ⟨S1, i', c', b, e2, hm⟩ := w_run hW hi hc hF (n := w) (by omega) e1
    rw [if_pos (Or.inr c4), ew, bd2_e, e2, bd2_e]
    exact ⟨S1, F', i', c', rfl, hm.1, hm.2.1, by have := hm.2.2.1; omega, fi_mono f1 (by omega), by omega⟩
  · rw [if_neg (by omega)]
    rcases (show v = 0 ∨ v = 1 ∨ v = 2 ∨ v = 3 by omega) with rfl | rfl | rfl | rfl
    · obtain ⟨w, ew, hw⟩ := dr_i (q := q) hn (i := 3 * k + 1) (lo := 0) (hi := 9) (by omega) (by decide)
      obtain ⟨S1, i', c', b, e2, hm⟩ := w_stall hW hi hc hF (n := w) (by omega)
      rw [if_pos rfl, ew, bd2_e, e2, bd2_e]
      exact ⟨S1, _, i', c', rfl, hm.1, hm.2.1, by have := hm.2.2.1; omega, fi_mono (st17_fi hF (by omega)) (by omega), by show F 15 1 ≤ M + 180; omega⟩
    · obtain ⟨w, ew, hw⟩ := dr_i (q := q) hn (i := 3 * k + 1) (lo := 1) (hi := 6) (by omega) (by decide)
      obtain ⟨S1, i', c', b, e2, hm⟩ := w_set2 hW hi hc hF (v := w) (by omega)
      rw [if_neg (by decide), if_pos rfl, ew, bd2_e, e2, bd2_e]
      exact ⟨S1, _, i', c', rfl, hm.1, hm.2.1, by have := hm.2.2.1; omega, fi_mono (st10_fi hF (by omega)) (by omega), by show F 15 1 ≤ M + 180; omega⟩
    · obtain ⟨w, ew, hw⟩ := dr_i (q := q) hn (i := 3 * k + 1) (lo := 0) (hi := 30) (by omega) (by decide)
      obtain ⟨S1, i', c', b, e2, hm⟩ := w_set7 hW hi hc hF (v := w) (by omega)
      rw [if_neg (by decide), if_neg (by decide), if_pos rfl, ew, bd2_e, e2, bd2_e]
      exact ⟨S1, _, i', c', rfl, hm.1, hm.2.1, by have := hm.2.2.1; omega, fi_mono (st15_fi hF (by omega)) (by omega), by show F 15 1 ≤ M + 180; omega⟩
    · obtain ⟨w, ew, hw⟩ := dr_i (q := q) hn (i := 3 * k + 1) (lo := 0) (hi := 60) (by omega) (by decide)
      obtain ⟨F', m, e1, hm1, f1, -, -, -, k5⟩ := w_to_b hR 500 F B 0 w hF (by omega) (by decide) (by decide) (by omega)
      obtain ⟨S1, i', c', b, e2, hm⟩ := w_runTo hW hi hc hF (g := w) (by omega) (fun S q f hC hf => e1 S q f hC (by omega))
      rw [if_neg (by decide), if_neg (by decide), if_neg (by decide), if_pos rfl, ew, bd2_e, e2, bd2_e]
      exact ⟨S1, F', i', c', rfl, hm.1, hm.2.1, by have := hm.2.2.1; omega, fi_mono f1 (by omega), by omega⟩
end C35
