/-! mathematics: a unit is decoded -/
/-- the first leaves the queue, or the loop goes on -/
def dqF (F : xR) : xR := if F 8 0 = 0 then uF (uG (uG F 6 (sh (F 5 2).toNat (F 6))) 7 (sh (F 5 2).toNat (F 7))) 5 2 (F 5 2 - 1) else uF (uF F 8 3 (F 11 1 + 1)) 15 8 (F 15 8 + 1)
section C5
variable {π F : xR} {B : Int}
theorem dq_0 (h : F 8 0 = 0) : dqF F = uF (uG (uG F 6 (sh (F 5 2).toNat (F 6))) 7 (sh (F 5 2).toNat (F 7))) 5 2 (F 5 2 - 1) := if_pos h
theorem dq_1 (h : F 8 0 = 1) : dqF F = uF (uF F 8 3 (F 11 1 + 1)) 15 8 (F 15 8 + 1) := if_neg (by omega)
theorem dq_o {o k : Nat} (h : o ≠ 5 ∧ o ≠ 6 ∧ o ≠ 7 ∧ (o ≠ 8 ∨ k ≠ 3) ∧ (o ≠ 15 ∨ k ≠ 8)) : dqF F o k = F o k := by
  unfold dqF
  split
  · rw [uF_o h.1, uG_o h.2.2.1, uG_o h.2.1]
  · rw [uF_x h.2.2.2.2, uF_x h.2.2.2.1]
theorem dq_mi (hR : PR π) (hF : FI π B F) (h0 : F 8 0 = 1 ∨ 0 < F 5 2) : MI π (B + 1) 1 (dqF F) := by
  obtain ⟨hr, hu, hq, ht, hd, hl, hc, hp, hn, hz⟩ := id hF
  obtain ⟨r0, r1, r2, r3, r4, r5, r6, r7, r8, r9, r10, r11, r12, r13, r14, r15, r16, r17⟩ := id hr
  obtain ⟨n0, n1, n2, n3, n4⟩ := id hn
  obtain ⟨p0, p1, p2, p3, p4, p5, p6, p7, p8, p9, p10⟩ := id hR
  have a0 : ∀ {o k : Nat}, (o ≠ 5 ∧ o ≠ 6 ∧ o ≠ 7 ∧ (o ≠ 8 ∨ k ≠ 3) ∧ (o ≠ 15 ∨ k ≠ 8)) → dqF F o k = F o k := fun h => dq_o h
  have e5 : dqF F 5 2 = F 5 2 ∨ (F 8 0 = 0 ∧ dqF F 5 2 = F 5 2 - 1) := by
    by_cases c : F 8 0 = 0
    · exact Or.inr ⟨c, by rw [dq_0 c]; simp (disch := omega) only [uF_e, uF_o, uF_k, uG_e, uG_o, true_or, or_true]⟩
    · exact Or.inl (by rw [dq_1 (by omega)]; simp (disch := omega) only [uF_e, uF_o, uF_k, uG_e, uG_o, true_or, or_true])
  have e58 : dqF F 15 8 = F 15 8 ∨ dqF F 15 8 = F 15 8 + 1 := by
    by_cases c : F 8 0 = 0
    · exact Or.inl (by rw [dq_0 c]; simp (disch := omega) only [uF_e, uF_o, uF_k, uG_e, uG_o, true_or, or_true])
    · exact Or.inr (by rw [dq_1 (by omega)]; simp (disch := omega) only [uF_e, uF_o, uF_k, uG_e, uG_o, true_or, or_true])
  refine ⟨?_, ?_, ?_, ?_, ?_, ?_, ?_, ?_⟩
  · unfold FR
    rw [a0 (o := 1) (k := 0) (by decide), a0 (o := 1) (k := 4) (by decide), a0 (o := 1) (k := 5) (by decide), a0 (o := 1) (k := 1) (by decide), a0 (o := 1) (k := 2) (by decide), a0 (o := 1) (k := 3) (by decide), a0 (o := 0) (k := 10) (by decide), a0 (o := 0) (k := 11) (by decide), a0 (o := 0) (k := 13) (by decide), a0 (o := 0) (k := 14) (by decide), a0 (o := 0) (k := 15) (by decide), a0 (o := 0) (k := 16) (by decide), a0 (o := 0) (k := 17) (by decide), a0 (o := 0) (k := 12) (by decide), a0 (o := 0) (k := 9) (by decide), a0 (o := 8) (k := 0) (by decide), a0 (o := 2) (k := 2) (by decide)]
    exact ⟨r0, r1, r2, r3, r4, r5, r6, r7, r8, r9, r10, r11, r12, ⟨r13.1, by omega⟩, r14, by omega, r16, r17⟩
  · intro j hj
    rw [a0 (by omega), a0 (by omega)]
    exact hu j hj
  · intro j hj
    by_cases c : F 8 0 = 0
    · have e : dqF F 5 2 = F 5 2 - 1 := by rw [dq_0 c]; simp (disch := omega) only [uF_e, uF_o, uF_k, uG_e, uG_o, true_or, or_true]
      have e6 : dqF F 6 j = F 6 (j + 1) := by
        rw [dq_0 c]
        simp (disch := omega) only [uF_e, uF_o, uF_k, uG_e, uG_o, true_or, or_true]
        exact if_pos (by omega)
      have e7 : dqF F 7 j = F 7 (j + 1) := by
        rw [dq_0 c]
        simp (disch := omega) only [uF_e, uF_o, uF_k, uG_e, uG_o, true_or, or_true]
        exact if_pos (by omega)
      rw [e6, e7]
      exact hq (j + 1) (by omega)
    · have c1 : F 8 0 = 1 := by omega
      rw [dq_1 c1] at hj ⊢
      simp (disch := omega) only [uF_e, uF_o, uF_k, uG_e, uG_o, true_or, or_true] at hj
      simp (disch := omega) only [uF_e, uF_o, uF_k, uG_e, uG_o, true_or, or_true]
      exact hq j hj
  · intro k hk
    rw [a0 (by omega)]
    exact ht.1 k hk
  · refine ⟨?_, fun k h1 h2 => ?_⟩
    · rw [a0 (by decide), a0 (by decide)]
      exact hd.1
    · rw [a0 (by omega), a0 (by decide)]
      exact hd.2 k h1 h2
  · have e17 : dqF F 17 = F 17 := by
      funext k
      exact a0 (by omega)
    have e18 : dqF F 18 = F 18 := by
      funext k
      exact a0 (by omega)
    unfold FP
    rw [e17, e18, a0 (o := 15) (k := 1) (by decide), a0 (o := 14) (k := 4) (by decide)]
    exact hp
  · refine ⟨fun k => ?_, fun k => ?_, ?_, ?_, ?_⟩
    · by_cases c : k = 8
      · rw [c]
        have := n0 8
        omega
      · rw [a0 (by omega)]
        have := n0 k
        omega
    · rw [a0 (by omega)]
      have := n1 k
      omega
    · rw [a0 (o := 15) (k := 1) (by decide)]
      omega
    · rw [a0 (by decide), a0 (by decide)]
      omega
    · rw [a0 (by decide), a0 (by decide)]
      exact n4
  · by_cases c : F 8 0 = 0
    · rw [dq_0 c]
      have hs : ∀ (o : Nat) (x : Nat), (o = 6 ∨ o = 7) → x ≤ 20 → ∀ k, inb o k = false → sh x (F o) k = 0 := fun o x ho hx k hk => by
        have hk2 : ¬ k < 20 := by rcases ho with rfl | rfl <;> exact of_decide_eq_false hk
        unfold sh
        rw [if_neg (by omega)]
        exact hz o k hk
      exact zb_F (zb_G (zb_G hz (hs 6 _ (Or.inl rfl) (by omega))) (hs 7 _ (Or.inr rfl) (by omega))) rfl
    · rw [dq_1 (by omega)]
      exact zb_F (zb_F hz rfl) rfl
theorem dq_11 : dqF F 11 1 = F 11 1 := dq_o (by decide)
/-- an instruction that is no jump and no branch leaves all in order -/
theorem small (hR : PR π) (hF : FI π B F) (h0 : F 8 0 = 1 ∨ 0 < F 5 2) (hk : 0 ≤ F 11 1 ∧ F 11 1 < π 0 10) (h8 : π 5 (F 11 1).toNat < 8) : FI π (B + 2) (naF π (dqF F)) ∧ naF π (dqF F) 11 1 = F 11 1 + 1 := by
  have hM := na_mi hR (dq_mi hR hF h0) (by rw [dq_11]; exact hk)
  obtain ⟨hr, hu, hq, ht, hd, hl, hc, hp, hn, hz⟩ := id hF
  obtain ⟨r0, r1, r2, r3, r4, r5, r6, r7, r8, r9, r10, r11, r12, r13, r14, r15, r16, r17⟩ := id hr
  obtain ⟨n0, n1, n2, n3, n4⟩ := id hn
  obtain ⟨p0, p1, p2, p3, p4, p5, p6, p7, p8, p9, p10⟩ := id hR
  have e1 := (gt_pl hR hd hk).1
  have eg : gtV π (F 13) (F 11 1).toNat = 0 := by
    unfold gtV
    rw [if_neg (by omega), if_neg (by omega)]
  rw [eg, if_neg (by decide)] at e1
  have e11 : naF π (dqF F) 11 1 = F 11 1 + 1 := by
    rw [na_11, dq_o (o := 15) (k := 1) (by decide)]
    exact e1
  obtain ⟨m0, m1, m2, m3, m4, m5, m6, m7⟩ := hM
  have a0 : ∀ {o k : Nat}, (o ≠ 13 ∧ o ≠ 11 ∧ o ≠ 17 ∧ o ≠ 18 ∧ (o ≠ 15 ∨ k ≠ 1) ∧ o ≠ 14) → naF π (dqF F) o k = dqF F o k := fun h => na_o h
  have b0 : B + 1 + 1 = B + 2 := by omega
  rw [b0] at m0 m6
  have e0 : (1 : Int) - 1 = 0 := rfl
  rw [e0] at m6
  refine ⟨⟨m0, m1, m2, ⟨m3, fun k h1 h2 => ?_⟩, m4, fun h1 => ?_, fun h1 => ?_, m5, ⟨m6.1, m6.2.1, by have := m6.2.2.1; omega, m6.2.2.2⟩, m7⟩, e11⟩
  · rw [a0 (by omega), dq_o (by omega), na_13, dq_11]
    have e13 : dqF F 13 = F 13 := by
      funext k
      exact dq_o (by omega)
    rw [e13]
    unfold gtF
    rw [if_neg (by omega)]
    exact ht.2 k h1 h2
  · rw [a0 (by decide), dq_o (by decide)] at h1
    obtain ⟨l0, l1, l2, l3, l4, l5, l6, l7⟩ := hl h1
    have g1 : dqF F 5 2 = F 5 2 := by rw [dq_1 h1]; simp (disch := omega) only [uF_e, uF_o, uF_k, uG_e, uG_o, true_or, or_true]
    have g2 : dqF F 8 3 = F 11 1 + 1 := by rw [dq_1 h1]; simp (disch := omega) only [uF_e, uF_o, uF_k, uG_e, uG_o, true_or, or_true]
    have g3 : F 8 3 ≠ F 8 2 := fun z => by
      have := l5.1
      rw [← z, l7] at this
      omega
    rw [a0 (by decide), a0 (by decide), a0 (by decide), a0 (by decide), g1, g2, dq_o (o := 8) (k := 1) (by decide), dq_o (o := 8) (k := 2) (by decide), e11]
    exact ⟨l0, l1, by omega, by omega, l4, l5, l6, rfl⟩
  · rw [a0 (by decide), dq_o (by decide)] at h1
    obtain ⟨c1, c2, c3, c4⟩ := hc h1
    have h5 : 0 < F 5 2 := by omega
    obtain ⟨q1, q2, q3, q4⟩ := hq 0 (by omega)
    have k0 := c1 h5
    have p7 : F 7 0 = 0 := by
      rcases q2 with h | h
      · exact h
      · have := q3 h
        rw [k0] at this
        omega
    have n0' : nxq π F 0 = F 11 1 + 1 := by
      unfold nxq
      rw [if_neg (by omega), k0]
    have g5 : naF π (dqF F) 5 2 = F 5 2 - 1 := by rw [a0 (by decide), dq_0 h1]; simp (disch := omega) only [uF_e, uF_o, uF_k, uG_e, uG_o, true_or, or_true]
    have g6 : ∀ j : Nat, (j : Int) + 1 < F 5 2 → naF π (dqF F) 6 j = F 6 (j + 1) := fun j hj => by
      rw [a0 (by omega), dq_0 h1]
      simp (disch := omega) only [uF_e, uF_o, uF_k, uG_e, uG_o, true_or, or_true]
      exact if_pos (by omega)
    have g7 : ∀ j : Nat, (j : Int) + 1 < F 5 2 → naF π (dqF F) 7 j = F 7 (j + 1) := fun j hj => by
      rw [a0 (by omega), dq_0 h1]
      simp (disch := omega) only [uF_e, uF_o, uF_k, uG_e, uG_o, true_or, or_true]
      exact if_pos (by omega)
    have gn : ∀ j : Nat, (j : Int) + 1 < F 5 2 → nxq π (naF π (dqF F)) j = nxq π F (j + 1) := fun j hj => by
      unfold nxq
      rw [g6 j hj, g7 j hj]
    have g10 : naF π (dqF F) 0 10 = F 0 10 := by rw [a0 (by decide), dq_o (by decide)]
    rw [g5, e11, g10]
    refine ⟨fun h => ?_, fun j hj => ?_, fun h => ?_, fun j hj => ?_⟩
    · rw [g6 0 (by omega), c2 0 (by omega), n0']
    · rw [g6 (j + 1) (by omega), gn j (by omega)]
      exact c2 (j + 1) (by omega)
    · rw [c4 0 (by omega), n0']
    · rw [gn j (by omega)]
      exact c4 (j + 1) (by omega)
/-- one round of decodeUnit -/
theorem p_it (hR : PR π) (hF : FI π B F) (hB : B ≤ 90000000) (h0 : F 8 0 = 1 ∨ 0 < F 5 2) (hk : 0 ≤ F 11 1 ∧ F 11 1 < π 0 10) (hq0 : F 8 0 = 0 → F 6 0 = F 11 1) {x1 x2 x3 x4 : Int} (hx : F 11 1 ≤ x2 ∧ x2 < 60) {S : xSt} {r q : Nat} (hC : CC S r q π) (f : Nat) : f_X0_decodeUnit_p1_0_b6 r (f + 1) (sR S r F) x1 x2 x3 x4 (F 11 1) = f_X0_decodeUnit_p1_0_b6 r f (sR S r (naF π (dqF F))) x1 x2 x3 (if F 8 0 = 0 then F 7 0 else x4) (F 11 1 + 1) := by
  have hM := dq_mi hR hF h0
  obtain ⟨hr, hu, hq, ht, hd, hl, hc, hp, hn, hz⟩ := id hF
  obtain ⟨r0, r1, r2, r3, r4, r5, r6, r7, r8, r9, r10, r11, r12, r13, r14, r15, r16, r17⟩ := id hr
  obtain ⟨n0, n1, n2, n3, n4⟩ := id hn
  obtain ⟨p0, p1, p2, p3, p4, p5, p6, p7, p8, p9, p10⟩ := id hR
  have hev : ∀ g : xSt → Option (Int × xSt), (bd2 (f_X4_next_p1_11_2_0 (sR S r (dqF F)) r q) fun v S12 => bd (f_X9_addDecoded_p1_14 S12 r (F 11 1) v) fun S15 => g S15) = g (sR S r (naF π (dqF F))) := fun g => by
    have h := na_ev (S := S) (r := r) (q := q) hR hM (by omega) (by rw [dq_11]; exact hk) hC (f := g)
    rw [dq_11] at h
    exact h
  rw [f_X0_decodeUnit_p1_0_b6]
  unfold f_X0_decodeUnit_p1_0_b68
  simp (disch := omega) only [lt1_e, bd_e, bd2_e, sR_g, sR_w, sR_a, sR_s, cc_p hC, cc_q hC, ckI_e, wr_e, ite_not, uF_e, uF_o, uF_k, uG_e, uG_o]
  rw [if_neg (by omega)]
  by_cases c : F 8 0 = 0
  · have hdr := p_drop (S := S) (r := r) (F := F) (by omega) (fun j hj => (hq j hj).2.1) (cc_f hC)
    rw [if_pos c, if_pos c, hdr, bd_e, ← dq_0 c, cc_p hC, hev]
  · rw [if_neg c, if_neg c, ← dq_1 (by omega), hev]
/-- the account of a unit -/
def enF (F : xR) (ops v : Int) : xR := uF (uF (uF F 0 14 (F 0 14 + ops)) 15 2 (F 15 2 + ops)) 15 3 (F 15 3 + v)
theorem p_en {G : xR} {x1 x2 x3 x4 v : Int} (hv : v = 0 ∨ v = 1) (hx : 0 ≤ x1 ∧ x2 = x1 + v ∧ x2 < 60) (hp : x4 = 0 ∨ x4 = 1) {S : xSt} {r : Nat} (f : Nat) : f_X0_decodeUnit_p1_0_b6 r (f + 1) (sR S r G) x1 x2 x3 x4 (x2 + 1) = some (x4, sR S r (enF G x3 v)) := by
  rw [f_X0_decodeUnit_p1_0_b6]
  simp (disch := omega) only [lt1_e, sR_g, sR_w, wr_e, uF_o, uF_k, uF_e, ckB_e]
  rw [if_pos (by omega)]
  unfold enF
  rcases hv with rfl | rfl
  · rw [if_pos (by omega)]
  · rw [if_neg (by omega)]
end C5
