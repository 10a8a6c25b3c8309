/-! mathematics: one instruction is decoded -/
def FNe (B e : Int) (F : xR) : Prop := (∀ k : Nat, 0 ≤ F 15 k ∧ F 15 k ≤ B) ∧ (∀ k : Nat, 0 ≤ F 16 k ∧ F 16 k ≤ B) ∧ F 15 8 ≤ F 15 1 + e ∧ 2 * F 15 3 ≤ F 15 1 ∧ F 0 14 ≤ F 15 2
/-- what holds of a Front also while a unit is decoded -/
def MI (π : xR) (B e : Int) (F : xR) : Prop := FR π B F ∧ FU π F ∧ FQ π F ∧ (∀ k : Nat, k < 60 → (F 19 k = 0 ∨ F 19 k = 1) ∧ (F 19 k = 1 → 8 ≤ π 5 k)) ∧ FD π F ∧ FP π F ∧ FNe B e F ∧ ZB F
theorem fi_mi {π F : xR} {B : Int} (h : FI π B F) : MI π B 0 F := by
  obtain ⟨hr, hu, hq, ht, hd, hl, hc, hp, ⟨n0, n1, n2, n3, n4⟩, hz⟩ := h
  exact ⟨hr, hu, hq, ht.1, hd, hp, ⟨n0, n1, by omega, n3, n4⟩, hz⟩
theorem sm_u {f : Nat → Int} {k : Nat} {z : Int} : ∀ m : Nat, sm (uN f k z) m = sm f m + (if k < m then z - f k else 0) := by
  intro m
  induction m with
  | zero => rfl
  | succ m ih =>
    show sm (uN f k z) m + uN f k z m = sm f m + f m + _
    rw [ih]
    by_cases c : k < m
    · rw [if_pos c, if_pos (by omega), uN_k (by omega)]
      omega
    · rw [if_neg c]
      by_cases c2 : k = m
      · subst c2
        rw [if_pos (by omega), uN_e]
        omega
      · rw [if_neg (by omega), uN_k (fun z => c2 z.symm)]
        omega
theorem uF_x {F : xR} {o k o' k' : Nat} {z : Int} (h : o' ≠ o ∨ k' ≠ k) : uF F o k z o' k' = F o' k' := by
  rcases h with h | h
  · exact uF_o h
  · exact if_neg (fun y => h y.2)
/-- the plain decoder's step, and the account of it -/
def naF (π G : xR) : xR := uF (uF (uF (uF (uF (uG G 13 (gtF π (G 13) (G 11 1).toNat)) 11 1 (plS π ((G 15 1).toNat + 1)).1) 17 (G 11 1).toNat (G 17 (G 11 1).toNat + 1)) 18 ((G 15 1).toNat % 100) (G 11 1)) 15 1 (G 15 1 + 1)) 14 4 (G 14 4 + 1)
section C4
variable {π F G : xR} {B e : Int}
theorem na_o {o k : Nat} (h : o ≠ 13 ∧ o ≠ 11 ∧ o ≠ 17 ∧ o ≠ 18 ∧ (o ≠ 15 ∨ k ≠ 1) ∧ o ≠ 14) : naF π G o k = G o k := by
  unfold naF
  rw [uF_o h.2.2.2.2.2]
  rw [uF_x (by rcases h.2.2.2.2.1 with c | c; exact Or.inl c; exact Or.inr c), uF_o h.2.2.2.1, uF_o h.2.2.1, uF_o h.2.1, uG_o h.1]
theorem na_13 {k : Nat} : naF π G 13 k = gtF π (G 13) (G 11 1).toNat k := by
  unfold naF
  simp (disch := omega) only [uF_e, uF_o, uF_k, uG_e, uG_o, true_or, or_true]
theorem na_11 : naF π G 11 1 = (plS π ((G 15 1).toNat + 1)).1 := by
  unfold naF
  simp (disch := omega) only [uF_e, uF_o, uF_k, uG_e, uG_o, true_or, or_true]
theorem na_17 {k : Nat} : naF π G 17 k = uN (G 17) (G 11 1).toNat (G 17 (G 11 1).toNat + 1) k := by
  unfold naF
  simp (disch := omega) only [uF_o]
  rw [uF_v]
  simp (disch := omega) only [uF_o, uG_o]
  rfl
theorem na_15 : naF π G 15 1 = G 15 1 + 1 := by
  unfold naF
  simp (disch := omega) only [uF_e, uF_o, uF_k, uG_e, uG_o, true_or, or_true]
theorem na_14 : naF π G 14 4 = G 14 4 + 1 := by
  unfold naF
  simp (disch := omega) only [uF_e, uF_o, uF_k, uG_e, uG_o, true_or, or_true]
theorem na_18 : naF π G 18 ((G 15 1).toNat % 100) = G 11 1 := by
  unfold naF
  simp (disch := omega) only [uF_e, uF_o, uF_k, uG_e, uG_o, true_or, or_true]
theorem na_z (hz : ZB G) (hk : 0 ≤ G 11 1 ∧ G 11 1 < 60) : ZB (naF π G) := by
  unfold naF
  refine zb_F (zb_F (zb_F (zb_F (zb_F (zb_G hz (fun k hk2 => ?_)) rfl) (decide_eq_true (by omega))) (decide_eq_true (Nat.mod_lt _ (by decide)))) rfl) rfl
  have hk2 : ¬ k < 60 := of_decide_eq_false hk2
  unfold gtF
  split
  · rw [uN_k (by omega)]
    exact hz 13 k (decide_eq_false hk2)
  · exact hz 13 k (decide_eq_false hk2)
theorem na_mi (hR : PR π) (hM : MI π B e G) (hk : 0 ≤ G 11 1 ∧ G 11 1 < π 0 10) : MI π (B + 1) (e - 1) (naF π G) := by
  obtain ⟨hr, hu, hq, ht, hd, hp, hn, hz⟩ := id hM
  obtain ⟨r0, r1, r2, r3, r4, r5, r6, r7, r8, r9, r10, r11, r12, r13, r14, r15, r16, r17⟩ := id hr
  obtain ⟨n0, n1, n2, n3, n4⟩ := id hn
  obtain ⟨p0, p1, p2, p3, p4, p5, p6, p7, p8, p9, p10⟩ := id hR
  obtain ⟨s1, s2, s3, s4⟩ := hp
  obtain ⟨e1, e2⟩ := gt_pl hR hd hk
  have a0 : ∀ {o k : Nat}, (o ≠ 13 ∧ o ≠ 11 ∧ o ≠ 17 ∧ o ≠ 18 ∧ (o ≠ 15 ∨ k ≠ 1) ∧ o ≠ 14) → naF π G o k = G o k := fun h => na_o h
  have eD : (naF π G 15 1).toNat = (G 15 1).toNat + 1 := by
    rw [na_15]
    have := n0 1
    omega
  refine ⟨?_, ?_, ?_, ?_, ?_, ?_, ?_, na_z hz (by omega)⟩
  · unfold FR
    rw [a0 (o := 1) (k := 0) (by decide), a0 (o := 1) (k := 4) (by decide), a0 (o := 1) (k := 5) (by decide), a0 (o := 1) (k := 1) (by decide), a0 (o := 1) (k := 2) (by decide), a0 (o := 1) (k := 3) (by decide), a0 (o := 0) (k := 10) (by decide), a0 (o := 0) (k := 11) (by decide), a0 (o := 0) (k := 13) (by decide), a0 (o := 0) (k := 14) (by decide), a0 (o := 0) (k := 15) (by decide), a0 (o := 0) (k := 16) (by decide), a0 (o := 0) (k := 17) (by decide), a0 (o := 0) (k := 12) (by decide), a0 (o := 0) (k := 9) (by decide), a0 (o := 5) (k := 2) (by decide), a0 (o := 8) (k := 0) (by decide), a0 (o := 2) (k := 2) (by decide)]
    exact ⟨r0, r1, r2, r3, r4, r5, r6, r7, r8, r9, r10, r11, r12, ⟨r13.1, by omega⟩, r14, r15, r16, r17⟩
  · intro j hj
    rw [a0 (by omega), a0 (by omega)]
    exact hu j hj
  · intro j hj
    rw [a0 (by omega)] at hj
    rw [a0 (by omega), a0 (by omega)]
    exact hq j hj
  · intro k hk
    rw [a0 (by omega)]
    exact ht k hk
  · refine ⟨?_, fun k h1 h2 => ?_⟩
    · rw [eD, na_11]
    · rw [eD, na_13]
      exact e2 k h1 h2
  · have e17 : naF π G 17 = uN (G 17) (G 11 1).toNat (G 17 (G 11 1).toNat + 1) := by
      funext k
      exact na_17
    have em : ((naF π G 15 1).toNat - 1) % 100 = (G 15 1).toNat % 100 := by
      rw [eD]
      rfl
    refine ⟨fun k => ?_, ?_, ?_, fun _ => ?_⟩
    · rw [na_17, na_15]
      have h1 := s1 k
      by_cases c : k = (G 11 1).toNat
      · rw [c, uN_e]
        have h2 := s1 (G 11 1).toNat
        omega
      · rw [uN_k c]
        omega
    · rw [e17, sm_u, s2, na_15, if_pos (by omega)]
      omega
    · rw [na_14, na_15, s3]
    · rw [em, na_18, eD, na_17, uN_e]
      have h2 := s1 (G 11 1).toNat
      exact ⟨hd.1, by omega, hk.1, hk.2⟩
  · refine ⟨fun k => ?_, fun k => ?_, ?_, ?_, ?_⟩
    · by_cases c : k = 1
      · rw [c, na_15]
        have := n0 1
        omega
      · rw [a0 ⟨by decide, by decide, by decide, by decide, Or.inr c, by decide⟩]
        have := n0 k
        omega
    · rw [a0 (by omega)]
      have := n1 k
      omega
    · rw [na_15, a0 (by decide)]
      omega
    · rw [na_15, a0 (by decide)]
      omega
    · rw [a0 (by omega), a0 (by omega)]
      exact n4
theorem na_ev (hR : PR π) (hM : MI π B e G) (hB : B ≤ 100000000) (hk : 0 ≤ G 11 1 ∧ G 11 1 < π 0 10) {S : xSt} {r q : Nat} (hC : CC S r q π) {β : Type} {f : xSt → Option β} : (bd2 (f_X4_next_p1_11_2_0 (sR S r G) r q) fun v S12 => bd (f_X9_addDecoded_p1_14 S12 r (G 11 1) v) fun S15 => f S15) = f (sR S r (naF π G)) := by
  obtain ⟨hr, hu, hq, ht, hd, hp, hn, hz⟩ := id hM
  obtain ⟨r0, r1, r2, r3, r4, r5, r6, r7, r8, r9, r10, r11, r12, r13, r14, r15, r16, r17⟩ := id hr
  obtain ⟨n0, n1, n2, n3, n4⟩ := id hn
  obtain ⟨p0, p1, p2, p3, p4, p5, p6, p7, p8, p9, p10⟩ := id hR
  have h15 := n0 1
  rw [p_next hR hd hk hC, bd2_e, p_add (by omega) (by omega) (by simp (disch := omega) only [uF_e, uF_o, uF_k, uG_e, uG_o, true_or, or_true]; omega), bd_e]
  unfold naF
  simp (disch := omega) only [uF_o, uG_o, uF_e, if_true]
end C4
