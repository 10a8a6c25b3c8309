/-! mathematics: an instruction is decoded; a unit is -/
section C5
variable {S T : xSt} {r q M : Nat} {π μ F : xR} {N : Nat → Int} {B e w o : Int}

set_option maxHeartbeats 8000000 in
theorem p_one0 (hC : CT S r q T M π μ) (hF : RF π B e w o F N) (hB : B ≤ 100000000) (c0 : F 8 0 = 0) (c5 : 0 < F 5 2) : ∃ F1 F2 F3 N1 N2 v, f_X6_dropFirst_p1_5 (sR S r F) r = some (sR S r F1) ∧ f_X4_next_p1_11_2_0 (sR S r F1) r q = some (v, sR S r F2) ∧ f_X9_addDecoded_p1_14 (sR S r F2) r (F 6 0) v = some (sR S r F3) ∧
    f_X12_notes_p4_0 (wA T M 6 N) M (F 6 0) = some (wA T M 6 N1) ∧ N1 63 = F 7 0 ∧ f_X12_passes_p4_0 (wA T M 6 N1) M (F 6 0) = some (wA T M 6 N2) ∧ RF π (B + 1) e w o F3 N2 ∧ (∀ k, F3 8 k = F 8 k) ∧ F3 5 2 = F 5 2 - 1 ∧ (∀ j : Nat, (j : Int) + 1 < F 5 2 → F3 6 j = F 6 (j + 1)) ∧ (∀ k, F3 1 k = F 1 k) ∧ (∀ k, F3 0 k = F 0 k) := by
  obtain ⟨hs, hr, hb, hu, hq, ht, hw, hp, hg, hl, hd⟩ := hF
  obtain ⟨e0, e1, e2, e3, e4, e5, e6, e7, e8, e9, e10, e11, e15, e16, e17, e18, e19, e20, e21, e22, e23, e24, e34, e42, x1, x2, x3⟩ := id hs
  obtain ⟨r0, r1, r2, r3, r4, r5, r6, r7, r8, r9, r10, r11, r12, r13, r14⟩ := id hr
  obtain ⟨p0, p1, p2, p3, p4, p5, p6, p7, p8, p9, p10⟩ := id (ct_R hC)
  obtain ⟨m1, m2, m3, m4, m5, m6⟩ := id (ct_M hC)
  obtain ⟨q0, q1, q2, q3⟩ := hq 0 (by omega)
  have q1' : N 63 = F 7 0 := q1
  obtain ⟨g', h', d1, d2⟩ := p_drop (S := S) (r := r) (F := F) (ct_fS hC) (by omega) (fun j hj => (hq j hj).2.2.2)
  have hd1 : RFd π (uF (uG (uG F 6 g') 7 h') 5 2 (F 5 2 - 1)) := by
    unfold RFd
    simp (disch := omega) only [uF_e, uF_o, uF_k, uG_e, uG_o, uN_e, uN_k, true_or, or_true]
    exact hd
  obtain ⟨g, n1, n2⟩ := p_next (F := uF (uG (uG F 6 g') 7 h') 5 2 (F 5 2 - 1)) hC hd1 (by simp (disch := omega) only [uF_e, uF_o, uF_k, uG_e, uG_o, uN_e, uN_k, true_or, or_true]; omega)
  have e151 : (uF (uG (uG F 6 g') 7 h') 5 2 (F 5 2 - 1)) 15 1 = F 15 1 := by simp (disch := omega) only [uF_e, uF_o, uF_k, uG_e, uG_o, uN_e, uN_k, true_or, or_true]
  rw [e151] at n1 n2
  obtain ⟨y1, -⟩ := pl_rng (ct_R hC) (F 15 1).toNat
  have y2 : -1 ≤ plV π (plS π (F 15 1).toNat) ∧ plV π (plS π (F 15 1).toNat) ≤ 60 := by
    unfold plV
    split <;> omega
  have a1 := p_add (S := S) (r := r) (F := uF (uG (uF (uG (uG F 6 g') 7 h') 5 2 (F 5 2 - 1)) 13 g) 11 1 (plS π ((F 15 1).toNat + 1)).1) (x := F 6 0) (by omega) y2 (by simp (disch := omega) only [uF_e, uF_o, uF_k, uG_e, uG_o, uN_e, uN_k, true_or, or_true]; omega)
  have b1 := p_notes (T := T) (M := M) (N := N) (x := F 6 0) (z := F 8 0) (by omega) (by omega) e11 r10
  obtain ⟨N2, l1, l2, l3, l4⟩ := p_leave (T := T) (M := M) (N := uN (uN (uN (uN N (263 + (N 17).toNat % 100) (F 6 0)) 17 (N 17 + 1)) (203 + (F 6 0).toNat) (N (203 + (F 6 0).toNat) + 1)) 24 (N 24 + F 8 0)) (ct_fT hC) (by simp (disch := omega) only [uF_e, uF_o, uF_k, uG_e, uG_o, uN_e, uN_k, true_or, or_true]; omega)
  refine ⟨_, _, _, _, N2, _, d1, n1, a1, b1, ?_, ?_, ?_, fun k => by simp (disch := omega) only [uF_e, uF_o, uF_k, uG_e, uG_o, uN_e, uN_k, true_or, or_true], by simp (disch := omega) only [uF_e, uF_o, uF_k, uG_e, uG_o, uN_e, uN_k, true_or, or_true], fun j hj => ?_, fun k => by simp (disch := omega) only [uF_e, uF_o, uF_k, uG_e, uG_o, uN_e, uN_k, true_or, or_true], fun k => by simp (disch := omega) only [uF_e, uF_o, uF_k, uG_e, uG_o, uN_e, uN_k, true_or, or_true]⟩
  · simp (disch := omega) only [uF_e, uF_o, uF_k, uG_e, uG_o, uN_e, uN_k, true_or, or_true]
    exact q1'
  · unfold f_X12_passes_p4_0
    rw [p_repz (z := F 8 0) (by simp (disch := omega) only [uF_e, uF_o, uF_k, uG_e, uG_o, uN_e, uN_k, true_or, or_true]; exact e11) r10]
    simp only [bd2_e]
    rw [wr_e (by omega), if_pos c0, l1]
    rfl

  · refine ⟨?_, ?_, ?_, ?_, ?_, ?_, ?_, ?_, ?_, ?_, ?_⟩
    · unfold RFs
      refine ⟨?_, ?_, ?_, ?_, ?_, ?_, ?_, ?_, ?_, ?_, ?_, ?_, ?_, ?_, ?_, ?_, ?_, ?_, ?_, ?_, ?_, ?_, ?_, ?_, ?_, ?_, ?_⟩ <;> (try simp (disch := omega) only [uF_e, uF_o, uF_k, uG_e, uG_o, uN_e, uN_k, true_or, or_true, l4, l3]) <;> omega
    · unfold RFr
      refine ⟨?_, ?_, ?_, ?_, ?_, ?_, ?_, ?_, ?_, ?_, ?_, ?_, ?_, ?_, ?_⟩ <;> (try simp (disch := omega) only [uF_e, uF_o, uF_k, uG_e, uG_o, uN_e, uN_k, true_or, or_true, l4, l3]) <;> omega
    · intro c h1 h2
      try simp (disch := omega) only [uF_e, uF_o, uF_k, uG_e, uG_o, uN_e, uN_k, true_or, or_true, l4, l3]
      exact hb c h1 h2
    · intro j hj
      try simp (disch := omega) only [uF_e, uF_o, uF_k, uG_e, uG_o, uN_e, uN_k, true_or, or_true, l4, l3] at hj
      try simp (disch := omega) only [uF_e, uF_o, uF_k, uG_e, uG_o, uN_e, uN_k, true_or, or_true, l4, l3]
      exact hu j hj
    · intro j hj
      simp (disch := omega) only [uF_e, uF_o, uF_k, uG_e, uG_o, uN_e, uN_k, true_or, or_true] at hj
      have hj1 : (j : Int) + 1 < F 5 2 := by omega
      obtain ⟨t1, t2⟩ := l2 j (by simp (disch := omega) only [uF_e, uF_o, uF_k, uG_e, uG_o, uN_e, uN_k, true_or, or_true]; omega)
      simp (disch := omega) only [uF_e, uF_o, uF_k, uG_e, uG_o, uN_e, uN_k, true_or, or_true] at t1 t2
      obtain ⟨t3, t4⟩ := d2 j hj1
      obtain ⟨t5, t6, t7, t8⟩ := hq (j + 1) (by omega)
      simp (disch := omega) only [uF_e, uF_o, uF_k, uG_e, uG_o, uN_e, uN_k, true_or, or_true]
      rw [t1, t2, t3, t4]
      exact ⟨t5, t6, t7, t8⟩
    · intro k hk h9
      try simp (disch := omega) only [uF_e, uF_o, uF_k, uG_e, uG_o, uN_e, uN_k, true_or, or_true, l4, l3]
      exact ht k hk h9
    · intro k hk
      try simp (disch := omega) only [uF_e, uF_o, uF_k, uG_e, uG_o, uN_e, uN_k, true_or, or_true, l4, l3]
      exact hw k hk
    · intro k hk
      have h9 := hp k hk
      have h8 := hp (F 6 0).toNat (by omega)
      simp (disch := omega) only [uF_e, uF_o, uF_k, uG_e, uG_o, uN_e, uN_k, true_or, or_true, l4, l3]
      by_cases c : k = (F 6 0).toNat
      · subst c
        simp (disch := omega) only [uF_e, uF_o, uF_k, uG_e, uG_o, uN_e, uN_k, true_or, or_true]
        omega
      · simp (disch := omega) only [uF_e, uF_o, uF_k, uG_e, uG_o, uN_e, uN_k, true_or, or_true]
        omega
    · intro k hk h2
      simp (disch := omega) only [uF_e, uF_o, uF_k, uG_e, uG_o, uN_e, uN_k, true_or, or_true] at h2
      simp (disch := omega) only [uF_e, uF_o, uF_k, uG_e, uG_o, uN_e, uN_k, true_or, or_true, l4, l3]
      by_cases c : k = (F 15 1).toNat % 100
      · subst c
        rw [e17]
        simp (disch := omega) only [uF_e, uF_o, uF_k, uG_e, uG_o, uN_e, uN_k, true_or, or_true, true_and]
        omega
      · rw [e17]
        simp (disch := omega) only [uF_e, uF_o, uF_k, uG_e, uG_o, uN_e, uN_k, true_or, or_true]
        exact hg k hk (by omega)
    · intro h1
      try simp (disch := omega) only [uF_e, uF_o, uF_k, uG_e, uG_o, uN_e, uN_k, true_or, or_true, l4, l3] at h1
      try simp (disch := omega) only [uF_e, uF_o, uF_k, uG_e, uG_o, uN_e, uN_k, true_or, or_true, l4, l3]
      first | exact hl h1 | exact absurd h1 (by decide)
    · refine rd_step (x := F 6 0) hd (by omega) ?_ ?_ ?_ ?_ ?_
      · simp (disch := omega) only [uF_e, uF_o, uF_k, uG_e, uG_o, uN_e, uN_k, true_or, or_true]
      · intro k hk
        simp (disch := omega) only [uF_e, uF_o, uF_k, uG_e, uG_o, uN_e, uN_k, true_or, or_true]
        exact n2 k hk
      · simp (disch := omega) only [uF_e, uF_o, uF_k, uG_e, uG_o, uN_e, uN_k, true_or, or_true]
      · simp (disch := omega) only [uF_e, uF_o, uF_k, uG_e, uG_o, uN_e, uN_k, true_or, or_true]
      · intro k
        simp (disch := omega) only [uF_e, uF_o, uF_k, uG_e, uG_o, uN_e, uN_k, true_or, or_true]
        by_cases c : k = (F 15 1).toNat % 100
        · rw [if_pos c, c, uF_e]
        · rw [if_neg c]
          simp (disch := omega) only [uF_e, uF_o, uF_k, uG_e, uG_o, uN_e, uN_k, true_or, or_true]
  · simp (disch := omega) only [uF_e, uF_o, uF_k, uG_e, uG_o, uN_e, uN_k, true_or, or_true]
    exact (d2 j hj).1
set_option maxHeartbeats 8000000 in
theorem p_one1 (hC : CT S r q T M π μ) (hF : RF π B e w o F N) (hB : B ≤ 100000000) (c0 : F 8 0 = 1) (hn : F 8 3 ≤ F 8 2) : ∃ F2 F3 N1 v, f_X4_next_p1_11_2_0 (sR S r (uF (uF F 8 3 (F 8 3 + 1)) 15 8 (F 15 8 + 1))) r q = some (v, sR S r F2) ∧ f_X9_addDecoded_p1_14 (sR S r F2) r (F 8 3) v = some (sR S r F3) ∧
    f_X12_notes_p4_0 (wA T M 6 N) M (F 8 3) = some (wA T M 6 N1) ∧ f_X12_passes_p4_0 (wA T M 6 N1) M (F 8 3) = some (wA T M 6 (uN N1 14 (F 8 3 + 1))) ∧ RF π (B + 1) e w o F3 (uN N1 14 (F 8 3 + 1)) ∧ F3 8 0 = 1 ∧ F3 8 1 = F 8 1 ∧ F3 8 2 = F 8 2 ∧ F3 8 3 = F 8 3 + 1 ∧ (∀ k, F3 1 k = F 1 k) ∧ (∀ k, F3 0 k = F 0 k) := by
  obtain ⟨hs, hr, hb, hu, hq, ht, hw, hp, hg, hl, hd⟩ := hF
  obtain ⟨e0, e1, e2, e3, e4, e5, e6, e7, e8, e9, e10, e11, e15, e16, e17, e18, e19, e20, e21, e22, e23, e24, e34, e42, x1, x2, x3⟩ := id hs
  obtain ⟨r0, r1, r2, r3, r4, r5, r6, r7, r8, r9, r10, r11, r12, r13, r14⟩ := id hr
  obtain ⟨p0, p1, p2, p3, p4, p5, p6, p7, p8, p9, p10⟩ := id (ct_R hC)
  obtain ⟨m1, m2, m3, m4, m5, m6⟩ := id (ct_M hC)
  obtain ⟨l1, l2, l3, l4, l5, l6, l7, l8, l9, l10⟩ := hl c0
  have hd1 : RFd π (uF (uF F 8 3 (F 8 3 + 1)) 15 8 (F 15 8 + 1)) := by
    unfold RFd
    simp (disch := omega) only [uF_e, uF_o, uF_k, uG_e, uG_o, uN_e, uN_k, true_or, or_true]
    exact hd
  obtain ⟨g, n1, n2⟩ := p_next (F := uF (uF F 8 3 (F 8 3 + 1)) 15 8 (F 15 8 + 1)) hC hd1 (by simp (disch := omega) only [uF_e, uF_o, uF_k, uG_e, uG_o, uN_e, uN_k, true_or, or_true]; omega)
  have e151 : (uF (uF F 8 3 (F 8 3 + 1)) 15 8 (F 15 8 + 1)) 15 1 = F 15 1 := by simp (disch := omega) only [uF_e, uF_o, uF_k, uG_e, uG_o, uN_e, uN_k, true_or, or_true]
  rw [e151] at n1 n2
  obtain ⟨y1, -⟩ := pl_rng (ct_R hC) (F 15 1).toNat
  have y2 : -1 ≤ plV π (plS π (F 15 1).toNat) ∧ plV π (plS π (F 15 1).toNat) ≤ 60 := by
    unfold plV
    split <;> omega
  have a1 := p_add (S := S) (r := r) (F := uF (uG (uF (uF F 8 3 (F 8 3 + 1)) 15 8 (F 15 8 + 1)) 13 g) 11 1 (plS π ((F 15 1).toNat + 1)).1) (x := F 8 3) (by omega) y2 (by simp (disch := omega) only [uF_e, uF_o, uF_k, uG_e, uG_o, uN_e, uN_k, true_or, or_true]; omega)
  have b1 := p_notes (T := T) (M := M) (N := N) (x := F 8 3) (z := F 8 0) (by omega) (by omega) e11 r10
  refine ⟨_, _, _, _, n1, a1, b1, ?_, ?_, by simp (disch := omega) only [uF_e, uF_o, uF_k, uG_e, uG_o, uN_e, uN_k, true_or, or_true]; exact c0, by simp (disch := omega) only [uF_e, uF_o, uF_k, uG_e, uG_o, uN_e, uN_k, true_or, or_true], by simp (disch := omega) only [uF_e, uF_o, uF_k, uG_e, uG_o, uN_e, uN_k, true_or, or_true], by simp (disch := omega) only [uF_e, uF_o, uF_k, uG_e, uG_o, uN_e, uN_k, true_or, or_true], fun k => by simp (disch := omega) only [uF_e, uF_o, uF_k, uG_e, uG_o, uN_e, uN_k, true_or, or_true], fun k => by simp (disch := omega) only [uF_e, uF_o, uF_k, uG_e, uG_o, uN_e, uN_k, true_or, or_true]⟩
  · unfold f_X12_passes_p4_0
    rw [p_repz (z := F 8 0) (by simp (disch := omega) only [uF_e, uF_o, uF_k, uG_e, uG_o, uN_e, uN_k, true_or, or_true]; exact e11) r10]
    simp only [bd2_e]
    rw [wr_e (by omega), if_neg (show ¬ F 8 0 = 0 by omega), wN_w]
    rfl

  · refine ⟨?_, ?_, ?_, ?_, ?_, ?_, ?_, ?_, ?_, ?_, ?_⟩
    · unfold RFs
      refine ⟨?_, ?_, ?_, ?_, ?_, ?_, ?_, ?_, ?_, ?_, ?_, ?_, ?_, ?_, ?_, ?_, ?_, ?_, ?_, ?_, ?_, ?_, ?_, ?_, ?_, ?_, ?_⟩ <;> (try simp (disch := omega) only [uF_e, uF_o, uF_k, uG_e, uG_o, uN_e, uN_k, true_or, or_true]) <;> omega
    · unfold RFr
      refine ⟨?_, ?_, ?_, ?_, ?_, ?_, ?_, ?_, ?_, ?_, ?_, ?_, ?_, ?_, ?_⟩ <;> (try simp (disch := omega) only [uF_e, uF_o, uF_k, uG_e, uG_o, uN_e, uN_k, true_or, or_true]) <;> omega
    · intro c h1 h2
      try simp (disch := omega) only [uF_e, uF_o, uF_k, uG_e, uG_o, uN_e, uN_k, true_or, or_true]
      exact hb c h1 h2
    · intro j hj
      try simp (disch := omega) only [uF_e, uF_o, uF_k, uG_e, uG_o, uN_e, uN_k, true_or, or_true] at hj
      try simp (disch := omega) only [uF_e, uF_o, uF_k, uG_e, uG_o, uN_e, uN_k, true_or, or_true]
      exact hu j hj
    · intro j hj
      try simp (disch := omega) only [uF_e, uF_o, uF_k, uG_e, uG_o, uN_e, uN_k, true_or, or_true] at hj
      try simp (disch := omega) only [uF_e, uF_o, uF_k, uG_e, uG_o, uN_e, uN_k, true_or, or_true]
      first | exact hq j hj | exact absurd hj (by omega)
    · intro k hk h9
      try simp (disch := omega) only [uF_e, uF_o, uF_k, uG_e, uG_o, uN_e, uN_k, true_or, or_true]
      exact ht k hk h9
    · intro k hk
      try simp (disch := omega) only [uF_e, uF_o, uF_k, uG_e, uG_o, uN_e, uN_k, true_or, or_true]
      exact hw k hk
    · intro k hk
      have h9 := hp k hk
      have h8 := hp (F 8 3).toNat (by omega)
      simp (disch := omega) only [uF_e, uF_o, uF_k, uG_e, uG_o, uN_e, uN_k, true_or, or_true]
      by_cases c : k = (F 8 3).toNat
      · subst c
        simp (disch := omega) only [uF_e, uF_o, uF_k, uG_e, uG_o, uN_e, uN_k, true_or, or_true]
        omega
      · simp (disch := omega) only [uF_e, uF_o, uF_k, uG_e, uG_o, uN_e, uN_k, true_or, or_true]
        omega
    · intro k hk h2
      simp (disch := omega) only [uF_e, uF_o, uF_k, uG_e, uG_o, uN_e, uN_k, true_or, or_true] at h2
      simp (disch := omega) only [uF_e, uF_o, uF_k, uG_e, uG_o, uN_e, uN_k, true_or, or_true]
      by_cases c : k = (F 15 1).toNat % 100
      · subst c
        rw [e17]
        simp (disch := omega) only [uF_e, uF_o, uF_k, uG_e, uG_o, uN_e, uN_k, true_or, or_true, true_and]
        omega
      · rw [e17]
        simp (disch := omega) only [uF_e, uF_o, uF_k, uG_e, uG_o, uN_e, uN_k, true_or, or_true]
        exact hg k hk (by omega)
    · intro h1
      simp (disch := omega) only [uF_e, uF_o, uF_k, uG_e, uG_o, uN_e, uN_k, true_or, or_true]
      exact ⟨l1, l2, trivial, l4, by omega, by omega, l7, l8, l9, l10⟩
    · refine rd_step (x := F 8 3) hd (by omega) ?_ ?_ ?_ ?_ ?_
      · simp (disch := omega) only [uF_e, uF_o, uF_k, uG_e, uG_o, uN_e, uN_k, true_or, or_true]
      · intro k hk
        simp (disch := omega) only [uF_e, uF_o, uF_k, uG_e, uG_o, uN_e, uN_k, true_or, or_true]
        exact n2 k hk
      · simp (disch := omega) only [uF_e, uF_o, uF_k, uG_e, uG_o, uN_e, uN_k, true_or, or_true]
      · simp (disch := omega) only [uF_e, uF_o, uF_k, uG_e, uG_o, uN_e, uN_k, true_or, or_true]
      · intro k
        simp (disch := omega) only [uF_e, uF_o, uF_k, uG_e, uG_o, uN_e, uN_k, true_or, or_true]
        by_cases c : k = (F 15 1).toNat % 100
        · rw [if_pos c, c, uF_e]
        · rw [if_neg c]
          simp (disch := omega) only [uF_e, uF_o, uF_k, uG_e, uG_o, uN_e, uN_k, true_or, or_true]
end C5
