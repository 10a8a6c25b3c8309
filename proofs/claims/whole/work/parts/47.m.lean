/-! mathematics: behind a jump or branch -/
section C8
variable {S T : xSt} {r q M : Nat} {π μ F : xR} {N : Nat → Int} {B e w o : Int}

theorem p_tn (hC : CT S r q T M π μ) (hF : RF π B e w o F N) {l : Int} (hl2 : 0 ≤ l ∧ l < π 0 10) (h8 : 8 ≤ π 5 l.toNat) : RF π B e w o (uF (uF (uG F 10 (gtF π (F 10) l.toNat)) 19 l.toNat (gtV π (F 10) l.toNat)) 0 9 (if gtV π (F 10) l.toNat = 0 then F 0 9 else l)) (if gtV π (F 10) l.toNat = 0 then (if π 5 l.toNat = 9 then uN (uN N (83 + l.toNat) (if F 10 l.toNat < π 8 l.toNat then F 10 l.toNat + 1 else 0)) (143 + l.toNat) (gtV π (F 10) l.toNat) else N) else uN (if π 5 l.toNat = 9 then uN (uN N (83 + l.toNat) (if F 10 l.toNat < π 8 l.toNat then F 10 l.toNat + 1 else 0)) (143 + l.toNat) (gtV π (F 10) l.toNat) else N) 15 l) := by
  obtain ⟨hs, hr, hb, hu, hq, ht, hw, hp, hg, hl, hd⟩ := hF
  obtain ⟨e0, e1, e2, e3, e4, e5, e6, e7, e8, e9, e10, e11, e15, e16, e17, e18, e19, e20, e21, e22, e23, e24, e34, e42, x1, x2, x3⟩ := id hs
  obtain ⟨r0, r1, r2, r3, r4, r5, r6, r7, r8, r9, r10, r11, r12, r13, r14⟩ := id hr
  obtain ⟨p0, p1, p2, p3, p4, p5, p6, p7, p8, p9, p10⟩ := id (ct_R hC)
  obtain ⟨m1, m2, m3, m4, m5, m6⟩ := id (ct_M hC)
  have hk1 : (l.toNat : Int) < π 0 10 := by omega
  obtain ⟨k1, -, -, -, k5, -⟩ := pr_k (ct_R hC) hk1
  have hv := gtV_z (π := π) (t := F 10) (k := l.toNat)
  have hg9 : ∀ k : Nat, π 5 k = 9 → (k : Int) < π 0 10 → gtF π (F 10) l.toNat k = (if k = l.toNat then (if F 10 l.toNat < π 8 l.toNat then F 10 l.toNat + 1 else 0) else F 10 k) := by
    intro k h1 h2
    unfold gtF
    by_cases c : k = l.toNat
    · rw [if_pos c, if_pos (by rw [← c]; exact h1), c, uN_e]
    · rw [if_neg c]
      split
      · rw [uN_k c]
      · rfl
  have hN : ∀ i : Nat, (i < 83 ∨ 203 ≤ i) → (i ≠ 15) → (if gtV π (F 10) l.toNat = 0 then (if π 5 l.toNat = 9 then uN (uN N (83 + l.toNat) (if F 10 l.toNat < π 8 l.toNat then F 10 l.toNat + 1 else 0)) (143 + l.toNat) (gtV π (F 10) l.toNat) else N) else uN (if π 5 l.toNat = 9 then uN (uN N (83 + l.toNat) (if F 10 l.toNat < π 8 l.toNat then F 10 l.toNat + 1 else 0)) (143 + l.toNat) (gtV π (F 10) l.toNat) else N) 15 l) i = N i := by
    intro i h1 h2
    split
    · split
      · rw [uN_k (by omega), uN_k (by omega)]
      · rfl
    · rw [uN_k h2]
      split
      · rw [uN_k (by omega), uN_k (by omega)]
      · rfl
  have hN15 : (if gtV π (F 10) l.toNat = 0 then (if π 5 l.toNat = 9 then uN (uN N (83 + l.toNat) (if F 10 l.toNat < π 8 l.toNat then F 10 l.toNat + 1 else 0)) (143 + l.toNat) (gtV π (F 10) l.toNat) else N) else uN (if π 5 l.toNat = 9 then uN (uN N (83 + l.toNat) (if F 10 l.toNat < π 8 l.toNat then F 10 l.toNat + 1 else 0)) (143 + l.toNat) (gtV π (F 10) l.toNat) else N) 15 l) 15 = if gtV π (F 10) l.toNat = 0 then F 0 9 else l := by
    split
    · split
      · rw [uN_k (by omega), uN_k (by omega), e15]
      · exact e15
    · rw [uN_e]
  have hNt : ∀ k : Nat, (k : Int) < π 0 10 → π 5 k = 9 → (if gtV π (F 10) l.toNat = 0 then (if π 5 l.toNat = 9 then uN (uN N (83 + l.toNat) (if F 10 l.toNat < π 8 l.toNat then F 10 l.toNat + 1 else 0)) (143 + l.toNat) (gtV π (F 10) l.toNat) else N) else uN (if π 5 l.toNat = 9 then uN (uN N (83 + l.toNat) (if F 10 l.toNat < π 8 l.toNat then F 10 l.toNat + 1 else 0)) (143 + l.toNat) (gtV π (F 10) l.toNat) else N) 15 l) (83 + k) = (if k = l.toNat then (if F 10 l.toNat < π 8 l.toNat then F 10 l.toNat + 1 else 0) else F 10 k) ∧ (if gtV π (F 10) l.toNat = 0 then (if π 5 l.toNat = 9 then uN (uN N (83 + l.toNat) (if F 10 l.toNat < π 8 l.toNat then F 10 l.toNat + 1 else 0)) (143 + l.toNat) (gtV π (F 10) l.toNat) else N) else uN (if π 5 l.toNat = 9 then uN (uN N (83 + l.toNat) (if F 10 l.toNat < π 8 l.toNat then F 10 l.toNat + 1 else 0)) (143 + l.toNat) (gtV π (F 10) l.toNat) else N) 15 l) (143 + k) = (if k = l.toNat then gtV π (F 10) l.toNat else F 19 k) := by
    intro k h1 h9
    have e9 : ∀ i : Nat, i ≠ 15 → (if gtV π (F 10) l.toNat = 0 then (if π 5 l.toNat = 9 then uN (uN N (83 + l.toNat) (if F 10 l.toNat < π 8 l.toNat then F 10 l.toNat + 1 else 0)) (143 + l.toNat) (gtV π (F 10) l.toNat) else N) else uN (if π 5 l.toNat = 9 then uN (uN N (83 + l.toNat) (if F 10 l.toNat < π 8 l.toNat then F 10 l.toNat + 1 else 0)) (143 + l.toNat) (gtV π (F 10) l.toNat) else N) 15 l) i = (if π 5 l.toNat = 9 then uN (uN N (83 + l.toNat) (if F 10 l.toNat < π 8 l.toNat then F 10 l.toNat + 1 else 0)) (143 + l.toNat) (gtV π (F 10) l.toNat) else N) i := by
      intro i hi
      by_cases c : gtV π (F 10) l.toNat = 0
      · simp only [if_pos c]
      · simp only [if_neg c, uN_k hi]
    rw [e9 _ (by omega), e9 _ (by omega)]
    have hk9 := ht k h1 h9
    by_cases c : k = l.toNat
    · subst c
      simp only [if_pos h9, if_pos]
      rw [uN_k (by omega), uN_e, uN_e]
      exact ⟨rfl, rfl⟩
    · simp only [if_neg c]
      split
      · rw [uN_k (by omega), uN_k (by omega), uN_k (by omega), uN_k (by omega)]
        exact ⟨hk9.1, hk9.2.1⟩
      · exact ⟨hk9.1, hk9.2.1⟩
  generalize hNx : (if gtV π (F 10) l.toNat = 0 then (if π 5 l.toNat = 9 then uN (uN N (83 + l.toNat) (if F 10 l.toNat < π 8 l.toNat then F 10 l.toNat + 1 else 0)) (143 + l.toNat) (gtV π (F 10) l.toNat) else N) else uN (if π 5 l.toNat = 9 then uN (uN N (83 + l.toNat) (if F 10 l.toNat < π 8 l.toNat then F 10 l.toNat + 1 else 0)) (143 + l.toNat) (gtV π (F 10) l.toNat) else N) 15 l) = N' at hN hN15 hNt ⊢

  refine ⟨?_, ?_, ?_, ?_, ?_, ?_, ?_, ?_, ?_, ?_, ?_⟩
  · unfold RFs
    refine ⟨?_, ?_, ?_, ?_, ?_, ?_, ?_, ?_, ?_, ?_, ?_, ?_, ?_, ?_, ?_, ?_, ?_, ?_, ?_, ?_, ?_, ?_, ?_, ?_, ?_, ?_, ?_⟩ <;> (try simp (disch := omega) only [uF_e, uF_o, uF_k, uG_e, uG_o, uN_e, uN_k, true_or, or_true, hN]) <;> first | omega | exact hN15
  · unfold RFr
    refine ⟨?_, ?_, ?_, ?_, ?_, ?_, ?_, ?_, ?_, ?_, ?_, ?_, ?_, ?_, ?_⟩ <;> (try simp (disch := omega) only [uF_e, uF_o, uF_k, uG_e, uG_o, uN_e, uN_k, true_or, or_true]) <;> omega
  · intro c h1 h2
    rw [hN _ (by omega) (by omega), uF_o (by omega), uF_o (by omega), uG_o (by omega)]
    exact hb c h1 h2
  · intro j hj
    simp (disch := omega) only [uF_e, uF_o, uF_k, uG_e, uG_o, uN_e, uN_k, true_or, or_true] at hj
    rw [hN _ (by omega) (by omega)]
    simp (disch := omega) only [uF_e, uF_o, uF_k, uG_e, uG_o, uN_e, uN_k, true_or, or_true]
    exact hu j hj
  · intro j hj
    simp (disch := omega) only [uF_e, uF_o, uF_k, uG_e, uG_o, uN_e, uN_k, true_or, or_true] at hj
    rw [hN _ (by omega) (by omega), hN _ (by omega) (by omega)]
    simp (disch := omega) only [uF_e, uF_o, uF_k, uG_e, uG_o, uN_e, uN_k, true_or, or_true]
    exact hq j hj
  · intro k hk h9
    obtain ⟨b1, b2⟩ := hNt k hk h9
    rw [b1, b2]
    simp (disch := omega) only [uF_e, uF_o, uF_k, uG_e, uG_o, uN_e, uN_k, true_or, or_true]
    rw [hg9 k h9 hk]
    have t9 := ht k hk h9
    by_cases c : k = l.toNat
    · subst c
      have t5 := k5 h9
      rw [if_pos rfl, if_pos rfl, uF_e]
      refine ⟨rfl, rfl, ?_⟩
      split <;> omega
    · rw [if_neg c, if_neg c, uF_k c, uG_o (by omega)]
      exact ⟨rfl, rfl, t9.2.2⟩
  · intro k hk
    simp (disch := omega) only [uF_e, uF_o, uF_k, uG_e, uG_o, uN_e, uN_k, true_or, or_true]
    by_cases c : k = l.toNat
    · subst c
      rw [uF_e]
      exact ⟨hv, fun _ h9 => absurd h8 (by omega)⟩
    · rw [uF_k c, uG_o (by omega)]
      exact hw k hk
  · intro k hk
    rw [hN _ (by omega) (by omega)]
    simp (disch := omega) only [uF_e, uF_o, uF_k, uG_e, uG_o, uN_e, uN_k, true_or, or_true]
    exact hp k hk
  · intro k hk h2
    simp (disch := omega) only [uF_e, uF_o, uF_k, uG_e, uG_o, uN_e, uN_k, true_or, or_true] at h2
    rw [hN _ (by omega) (by omega)]
    simp (disch := omega) only [uF_e, uF_o, uF_k, uG_e, uG_o, uN_e, uN_k, true_or, or_true]
    exact hg k hk h2
  · intro h1
    simp (disch := omega) only [uF_e, uF_o, uF_k, uG_e, uG_o, uN_e, uN_k, true_or, or_true] at h1
    rw [hN _ (by omega) (by omega), hN _ (by omega) (by omega), hN _ (by omega) (by omega)]
    simp (disch := omega) only [uF_e, uF_o, uF_k, uG_e, uG_o, uN_e, uN_k, true_or, or_true]
    exact hl h1
  · unfold RFd
    try simp (disch := omega) only [uF_e, uF_o, uF_k, uG_e, uG_o, uN_e, uN_k, true_or, or_true]
    exact hd
end C8
