/-! mathematics: the endings of a decoded jump or branch -/
/-- the turns of the Front are those of the plain decoder -/
def T2 (π H : xR) : Prop := ∀ k : Nat, (k : Int) < π 0 10 → π 5 k = 9 → H 10 k = H 13 k
section C7
variable {π F G H : xR} {B : Int}
theorem mi_fi (hM : MI π B 0 H) (h2 : T2 π H) (hl : FL π H) (hc : FC π H) : FI π B H := by
  obtain ⟨hr, hu, hq, ht, hd, hp, ⟨n0, n1, n2, n3, n4⟩, hz⟩ := hM
  exact ⟨hr, hu, hq, ⟨ht, h2⟩, hd, hl, hc, hp, ⟨n0, n1, by omega, n3, n4⟩, hz⟩
/-- a loop begins -/
def lbF (H : xR) (l a b : Int) : xR := uF (uF (uF (uF (uF (uF (uF (uF (uF H 15 7 (H 15 7 + 1)) 5 2 0) 0 13 0) 0 16 0) 8 0 1) 8 1 a) 8 2 l) 8 3 a) 8 4 b
theorem lb_fi (hR : PR π) (hM : MI π B 0 H) (h2 : T2 π H) {l a b : Int} (hl : 0 ≤ l ∧ l < π 0 10) (hk : lpk π l.toNat) (ha : a = π 11 l.toNat) (h1 : H 11 1 = a) : FI π (B + 1) (lbF H l a b) := by
  obtain ⟨hr, hu, hq, ht, hd, hp, hn, hz⟩ := id hM
  obtain ⟨r0, r1, r2, r3, r4, r5, r6, r7, r8, r9, r10, r11, r12, r13, r14, r15, r16, r17⟩ := id hr
  obtain ⟨n0, n1, n2, n3, n4⟩ := id hn
  obtain ⟨p0, p1, p2, p3, p4, p5, p6, p7, p8, p9, p10⟩ := id hR
  obtain ⟨-, -, k3, -⟩ := pr_k hR (show (l.toNat : Int) < π 0 10 by omega)
  have k1 := k3 hk.1
  have k2 := hk.2.1
  unfold lbF
  refine ⟨?_, ?_, ?_, ?_, ?_, ?_, ?_, ?_, ?_, ?_⟩
  · unfold FR
    refine ⟨?_, ?_, ?_, ?_, ?_, ?_, ?_, ?_, ?_, ?_, ?_, ?_, ?_, ?_, ?_, ?_, ?_, ?_⟩ <;> (try simp (disch := omega) only [uF_e, uF_o, uF_k, uG_e, uG_o, true_or, or_true]) <;> omega
  · intro j hj
    try simp (disch := omega) only [uF_e, uF_o, uF_k, uG_e, uG_o, true_or, or_true]
    exact hu j hj
  · intro j hj
    simp (disch := omega) only [uF_e, uF_o, uF_k, uG_e, uG_o, true_or, or_true] at hj
    exact absurd hj (by omega)
  · refine ⟨fun k hk => ?_, fun k hk h9 => ?_⟩
    · simp (disch := omega) only [uF_e, uF_o, uF_k, uG_e, uG_o, true_or, or_true]
      exact ht k hk
    · simp (disch := omega) only [uF_e, uF_o, uF_k, uG_e, uG_o, true_or, or_true]
      exact h2 k hk h9
  · unfold FD
    try simp (disch := omega) only [uF_e, uF_o, uF_k, uG_e, uG_o, true_or, or_true]
    exact hd
  · intro h1'
    simp (disch := omega) only [uF_e, uF_o, uF_k, uG_e, uG_o, true_or, or_true]
    exact ⟨trivial, by omega, by omega, by omega, hl.2, hk, ha, h1.symm⟩
  · intro h1'
    simp (disch := omega) only [uF_e, uF_o, uF_k, uG_e, uG_o, true_or, or_true] at h1'
    exact absurd h1' (by decide)
  · unfold FP
    try simp (disch := omega) only [uF_e, uF_o, uF_k, uG_e, uG_o, true_or, or_true]
    exact hp
  · refine ⟨fun k => ?_, fun k => ?_, ?_, ?_, ?_⟩
    · by_cases c : k = 7
      · rw [c]
        have a1 := n0 7
        simp (disch := omega) only [uF_e, uF_o, uF_k, uG_e, uG_o, true_or, or_true]
        omega
      · simp (disch := omega) only [uF_e, uF_o, uF_k, uG_e, uG_o, true_or, or_true]
        have a1 := n0 k
        omega
    · simp (disch := omega) only [uF_e, uF_o, uF_k, uG_e, uG_o, true_or, or_true]
      have a1 := n1 k
      omega
    · simp (disch := omega) only [uF_e, uF_o, uF_k, uG_e, uG_o, true_or, or_true]
      omega
    · simp (disch := omega) only [uF_e, uF_o, uF_k, uG_e, uG_o, true_or, or_true]
      omega
    · simp (disch := omega) only [uF_e, uF_o, uF_k, uG_e, uG_o, true_or, or_true]
      omega
  · repeat' apply zb_F
    all_goals first | exact hz | rfl
/-- a wrong prediction -/
def wpF (H : xR) (p : Int) : xR := uF (uF (uF (uF (uF (uF (uF (uF H 15 6 (H 15 6 + 1)) 5 2 0) 0 13 0) 0 16 0) 8 0 0) 0 10 p) 0 11 1) 0 15 4
theorem wp_fi (hR : PR π) (hM : MI π B 0 H) (h2 : T2 π H) {p : Int} (hp2 : 0 ≤ p ∧ p ≤ π 0 10) (h1 : H 11 1 = p) : FI π (B + 1) (wpF H p) := by
  obtain ⟨hr, hu, hq, ht, hd, hp, hn, hz⟩ := id hM
  obtain ⟨r0, r1, r2, r3, r4, r5, r6, r7, r8, r9, r10, r11, r12, r13, r14, r15, r16, r17⟩ := id hr
  obtain ⟨n0, n1, n2, n3, n4⟩ := id hn
  obtain ⟨p0, p1, p2, p3, p4, p5, p6, p7, p8, p9, p10⟩ := id hR
  unfold wpF
  refine ⟨?_, ?_, ?_, ?_, ?_, ?_, ?_, ?_, ?_, ?_⟩
  · unfold FR
    refine ⟨?_, ?_, ?_, ?_, ?_, ?_, ?_, ?_, ?_, ?_, ?_, ?_, ?_, ?_, ?_, ?_, ?_, ?_⟩ <;> (try simp (disch := omega) only [uF_e, uF_o, uF_k, uG_e, uG_o, true_or, or_true]) <;> omega
  · intro j hj
    try simp (disch := omega) only [uF_e, uF_o, uF_k, uG_e, uG_o, true_or, or_true]
    exact hu j hj
  · intro j hj
    simp (disch := omega) only [uF_e, uF_o, uF_k, uG_e, uG_o, true_or, or_true] at hj
    exact absurd hj (by omega)
  · refine ⟨fun k hk => ?_, fun k hk h9 => ?_⟩
    · simp (disch := omega) only [uF_e, uF_o, uF_k, uG_e, uG_o, true_or, or_true]
      exact ht k hk
    · simp (disch := omega) only [uF_e, uF_o, uF_k, uG_e, uG_o, true_or, or_true]
      exact h2 k hk h9
  · unfold FD
    try simp (disch := omega) only [uF_e, uF_o, uF_k, uG_e, uG_o, true_or, or_true]
    exact hd
  · intro h1'
    simp (disch := omega) only [uF_e, uF_o, uF_k, uG_e, uG_o, true_or, or_true] at h1'
    exact absurd h1' (by decide)
  · intro h1'
    refine ⟨fun h => ?_, fun j hj => ?_, fun h => ?_, fun j hj => ?_⟩
    · simp (disch := omega) only [uF_e, uF_o, uF_k, uG_e, uG_o, true_or, or_true] at h
      exact absurd h (by decide)
    · simp (disch := omega) only [uF_e, uF_o, uF_k, uG_e, uG_o, true_or, or_true] at hj
      exact absurd hj (by omega)
    · simp (disch := omega) only [uF_e, uF_o, uF_k, uG_e, uG_o, true_or, or_true]
      exact h1.symm
    · simp (disch := omega) only [uF_e, uF_o, uF_k, uG_e, uG_o, true_or, or_true] at hj
      exact absurd hj (by omega)
  · unfold FP
    try simp (disch := omega) only [uF_e, uF_o, uF_k, uG_e, uG_o, true_or, or_true]
    exact hp
  · refine ⟨fun k => ?_, fun k => ?_, ?_, ?_, ?_⟩
    · by_cases c : k = 6
      · rw [c]
        have a1 := n0 6
        simp (disch := omega) only [uF_e, uF_o, uF_k, uG_e, uG_o, true_or, or_true]
        omega
      · simp (disch := omega) only [uF_e, uF_o, uF_k, uG_e, uG_o, true_or, or_true]
        have a1 := n0 k
        omega
    · simp (disch := omega) only [uF_e, uF_o, uF_k, uG_e, uG_o, true_or, or_true]
      have a1 := n1 k
      omega
    · simp (disch := omega) only [uF_e, uF_o, uF_k, uG_e, uG_o, true_or, or_true]
      omega
    · simp (disch := omega) only [uF_e, uF_o, uF_k, uG_e, uG_o, true_or, or_true]
      omega
    · simp (disch := omega) only [uF_e, uF_o, uF_k, uG_e, uG_o, true_or, or_true]
      omega
  · repeat' apply zb_F
    all_goals first | exact hz | rfl
/-- a loop goes on -/
theorem lg_fi (hR : PR π) (hM : MI π B 0 H) (h2 : T2 π H) (h80 : H 8 0 = 1) (h5 : H 5 2 = 0) (h81 : 0 ≤ H 8 1 ∧ H 8 1 ≤ H 8 2) (h82 : H 8 2 < π 0 10) (hk : lpk π (H 8 2).toNat) (h83 : H 8 1 = π 11 (H 8 2).toNat) (h1 : H 11 1 = H 8 1) : FI π B (uF H 8 3 (H 8 1)) := by
  obtain ⟨hr, hu, hq, ht, hd, hp, hn, hz⟩ := id hM
  obtain ⟨r0, r1, r2, r3, r4, r5, r6, r7, r8, r9, r10, r11, r12, r13, r14, r15, r16, r17⟩ := id hr
  obtain ⟨n0, n1, n2, n3, n4⟩ := id hn
  obtain ⟨p0, p1, p2, p3, p4, p5, p6, p7, p8, p9, p10⟩ := id hR
  refine ⟨?_, ?_, ?_, ?_, ?_, ?_, ?_, ?_, ?_, ?_⟩
  · unfold FR
    refine ⟨?_, ?_, ?_, ?_, ?_, ?_, ?_, ?_, ?_, ?_, ?_, ?_, ?_, ?_, ?_, ?_, ?_, ?_⟩ <;> (try simp (disch := omega) only [uF_e, uF_o, uF_k, uG_e, uG_o, true_or, or_true]) <;> omega
  · intro j hj
    try simp (disch := omega) only [uF_e, uF_o, uF_k, uG_e, uG_o, true_or, or_true]
    exact hu j hj
  · intro j hj
    try simp (disch := omega) only [uF_e, uF_o, uF_k, uG_e, uG_o, true_or, or_true] at hj
    try simp (disch := omega) only [uF_e, uF_o, uF_k, uG_e, uG_o, true_or, or_true]
    first | exact hq j hj | exact absurd hj (by omega)
  · refine ⟨fun k hk => ?_, fun k hk h9 => ?_⟩
    · simp (disch := omega) only [uF_e, uF_o, uF_k, uG_e, uG_o, true_or, or_true]
      exact ht k hk
    · simp (disch := omega) only [uF_e, uF_o, uF_k, uG_e, uG_o, true_or, or_true]
      exact h2 k hk h9
  · unfold FD
    try simp (disch := omega) only [uF_e, uF_o, uF_k, uG_e, uG_o, true_or, or_true]
    exact hd
  · intro h1'
    simp (disch := omega) only [uF_e, uF_o, uF_k, uG_e, uG_o, true_or, or_true]
    exact ⟨h5, h81.1, by omega, h81.2, h82, hk, h83, h1.symm⟩
  · intro h1'
    simp (disch := omega) only [uF_e, uF_o, uF_k, uG_e, uG_o, true_or, or_true] at h1'
    exact absurd h1' (by omega)
  · unfold FP
    try simp (disch := omega) only [uF_e, uF_o, uF_k, uG_e, uG_o, true_or, or_true]
    exact hp
  · refine ⟨fun k => ?_, fun k => ?_, ?_, ?_, ?_⟩
    · simp (disch := omega) only [uF_e, uF_o, uF_k, uG_e, uG_o, true_or, or_true]
      exact n0 k
    · simp (disch := omega) only [uF_e, uF_o, uF_k, uG_e, uG_o, true_or, or_true]
      exact n1 k
    · simp (disch := omega) only [uF_e, uF_o, uF_k, uG_e, uG_o, true_or, or_true]
      omega
    · simp (disch := omega) only [uF_e, uF_o, uF_k, uG_e, uG_o, true_or, or_true]
      omega
    · simp (disch := omega) only [uF_e, uF_o, uF_k, uG_e, uG_o, true_or, or_true]
      omega
  · repeat' apply zb_F
    all_goals first | exact hz | rfl
/-- a loop ends -/
theorem le_fi (hR : PR π) (hM : MI π B 0 H) (h2 : T2 π H) (h5 : H 5 2 = 0) {p : Int} (hp2 : 0 ≤ p ∧ p ≤ π 0 10) (h1 : H 11 1 = p) : FI π B (uF (uF (uF H 8 0 0) 0 10 p) 0 11 1) := by
  obtain ⟨hr, hu, hq, ht, hd, hp, hn, hz⟩ := id hM
  obtain ⟨r0, r1, r2, r3, r4, r5, r6, r7, r8, r9, r10, r11, r12, r13, r14, r15, r16, r17⟩ := id hr
  obtain ⟨n0, n1, n2, n3, n4⟩ := id hn
  obtain ⟨p0, p1, p2, p3, p4, p5, p6, p7, p8, p9, p10⟩ := id hR
  refine ⟨?_, ?_, ?_, ?_, ?_, ?_, ?_, ?_, ?_, ?_⟩
  · unfold FR
    refine ⟨?_, ?_, ?_, ?_, ?_, ?_, ?_, ?_, ?_, ?_, ?_, ?_, ?_, ?_, ?_, ?_, ?_, ?_⟩ <;> (try simp (disch := omega) only [uF_e, uF_o, uF_k, uG_e, uG_o, true_or, or_true]) <;> omega
  · intro j hj
    try simp (disch := omega) only [uF_e, uF_o, uF_k, uG_e, uG_o, true_or, or_true]
    exact hu j hj
  · intro j hj
    try simp (disch := omega) only [uF_e, uF_o, uF_k, uG_e, uG_o, true_or, or_true] at hj
    try simp (disch := omega) only [uF_e, uF_o, uF_k, uG_e, uG_o, true_or, or_true]
    first | exact hq j hj | exact absurd hj (by omega)
  · refine ⟨fun k hk => ?_, fun k hk h9 => ?_⟩
    · simp (disch := omega) only [uF_e, uF_o, uF_k, uG_e, uG_o, true_or, or_true]
      exact ht k hk
    · simp (disch := omega) only [uF_e, uF_o, uF_k, uG_e, uG_o, true_or, or_true]
      exact h2 k hk h9
  · unfold FD
    try simp (disch := omega) only [uF_e, uF_o, uF_k, uG_e, uG_o, true_or, or_true]
    exact hd
  · intro h1'
    simp (disch := omega) only [uF_e, uF_o, uF_k, uG_e, uG_o, true_or, or_true] at h1'
    exact absurd h1' (by decide)
  · intro h1'
    refine ⟨fun h => ?_, fun j hj => ?_, fun h => ?_, fun j hj => ?_⟩
    · simp (disch := omega) only [uF_e, uF_o, uF_k, uG_e, uG_o, true_or, or_true] at h
      exact absurd h (by omega)
    · simp (disch := omega) only [uF_e, uF_o, uF_k, uG_e, uG_o, true_or, or_true] at hj
      exact absurd hj (by omega)
    · simp (disch := omega) only [uF_e, uF_o, uF_k, uG_e, uG_o, true_or, or_true]
      exact h1.symm
    · simp (disch := omega) only [uF_e, uF_o, uF_k, uG_e, uG_o, true_or, or_true] at hj
      exact absurd hj (by omega)
  · unfold FP
    try simp (disch := omega) only [uF_e, uF_o, uF_k, uG_e, uG_o, true_or, or_true]
    exact hp
  · refine ⟨fun k => ?_, fun k => ?_, ?_, ?_, ?_⟩
    · simp (disch := omega) only [uF_e, uF_o, uF_k, uG_e, uG_o, true_or, or_true]
      exact n0 k
    · simp (disch := omega) only [uF_e, uF_o, uF_k, uG_e, uG_o, true_or, or_true]
      exact n1 k
    · simp (disch := omega) only [uF_e, uF_o, uF_k, uG_e, uG_o, true_or, or_true]
      omega
    · simp (disch := omega) only [uF_e, uF_o, uF_k, uG_e, uG_o, true_or, or_true]
      omega
    · simp (disch := omega) only [uF_e, uF_o, uF_k, uG_e, uG_o, true_or, or_true]
      omega
  · repeat' apply zb_F
    all_goals first | exact hz | rfl
end C7
