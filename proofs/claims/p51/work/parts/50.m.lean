/-! mathematics: the last of a unit is decoded and followed -/
section C10
variable {π F G H : xR} {B : Int}
theorem fc_n (hF : FI π B F) (h1 : F 8 0 = 0) (h5 : 0 < F 5 2) (h : naF π (dqF F) 11 1 = nxq π F 0) : FC π (naF π (dqF F)) := by
  obtain ⟨hr, hu, hq, ht, hd, hl, hc, hp, hn, hz⟩ := id hF
  intro _
  obtain ⟨c1, c2, c3, c4⟩ := hc h1
  have a0 : ∀ {o k : Nat}, (o ≠ 13 ∧ o ≠ 11 ∧ o ≠ 17 ∧ o ≠ 18 ∧ (o ≠ 15 ∨ k ≠ 1) ∧ o ≠ 14) → naF π (dqF F) o k = dqF F o k := fun h => na_o h
  have g5 : naF π (dqF F) 5 2 = F 5 2 - 1 := by rw [a0 (by decide), dq_0 h1]; simp (disch := omega) only [uF_e, uF_o, uF_k, uG_e, uG_o, true_or, or_true]
  have g6 : ∀ j : Nat, (j : Int) + 1 < F 5 2 → naF π (dqF F) 6 j = F 6 (j + 1) := fun j hj => by
    rw [a0 (by omega), dq_0 h1]
    simp (disch := omega) only [uF_e, uF_o, uF_k, uG_e, uG_o, true_or, or_true]
    exact if_pos (by omega)
  have g7 : ∀ j : Nat, (j : Int) + 1 < F 5 2 → naF π (dqF F) 7 j = F 7 (j + 1) := fun j hj => by
    rw [a0 (by omega), dq_0 h1]
    simp (disch := omega) only [uF_e, uF_o, uF_k, uG_e, uG_o, true_or, or_true]
    exact if_pos (by omega)
  have gn : ∀ j : Nat, (j : Int) + 1 < F 5 2 → nxq π (naF π (dqF F)) j = nxq π F (j + 1) := fun j hj => by
    unfold nxq
    rw [g6 j hj, g7 j hj]
  have g10 : naF π (dqF F) 0 10 = F 0 10 := by rw [a0 (by decide), dq_o (by decide)]
  rw [g5, h, g10]
  refine ⟨fun h => ?_, fun j hj => ?_, fun h => ?_, fun j hj => ?_⟩
  · rw [g6 0 (by omega), c2 0 (by omega)]
  · rw [g6 (j + 1) (by omega), gn j (by omega)]
    exact c2 (j + 1) (by omega)
  · rw [c4 0 (by omega)]
  · rw [gn j (by omega)]
    exact c4 (j + 1) (by omega)
theorem p_last (hR : PR π) (hF : FI π B F) (hB : B ≤ 80000000) (h0 : F 8 0 = 1 ∨ 0 < F 5 2) (hl : 0 ≤ F 11 1 ∧ F 11 1 < π 0 10) (hq0 : F 8 0 = 0 → F 6 0 = F 11 1) {ops v x1 x4 : Int} (ho : 1 ≤ ops ∧ ops ≤ 7) (hw : F 0 14 + ops ≤ F 1 3) (hv : v = 0 ∨ v = 1) (h3 : 2 * (F 15 3 + v) ≤ F 15 1 + 1) (hx : 0 ≤ x1 ∧ F 11 1 = x1 + v) (hx4 : F 8 0 = 1 → x4 = 0) : ∃ c p H F', (c = 0 ∨ c = 4 ∨ c = 7) ∧ (∀ S r q f, CC S r q π → f_X0_decodeUnit_p1_0_b6 r (f + 2) (sR S r F) x1 (F 11 1) ops x4 (F 11 1) = some (p, sR S r H) ∧ f_X0_follow_p1_0 (sR S r H) r (F 11 1) p = some (c, sR S r F')) ∧ FI π (B + 10) F' ∧ F' 1 = F 1 ∧ F' 15 0 = F 15 0 ∧ F' 15 1 = F 15 1 + 1 ∧ F' 15 3 = F 15 3 + v ∧ F' 16 = F 16 := by
  have p0 := pr_n hR
  have hM1 : MI π (B + 2) 0 (naF π (dqF F)) := by
    have h := na_mi hR (dq_mi hR hF h0) (by rw [dq_11]; exact hl)
    rw [show B + 1 + 1 = B + 2 by omega] at h
    exact h
  have a0 : ∀ {o k : Nat}, (o ≠ 13 ∧ o ≠ 11 ∧ o ≠ 17 ∧ o ≠ 18 ∧ (o ≠ 15 ∨ k ≠ 1) ∧ o ≠ 14) → naF π (dqF F) o k = dqF F o k := fun h => na_o h
  have g151 : naF π (dqF F) 15 1 = F 15 1 + 1 := by rw [na_15, dq_o (by decide)]
  have g153 : naF π (dqF F) 15 3 = F 15 3 := by rw [a0 (by decide), dq_o (by decide)]
  have hM : MI π (B + 9) 0 (enF (naF π (dqF F)) ops v) := by
    have h := mi_en hR hM1 (ops := ops) (v := v) ho (by rw [a0 (by decide), a0 (by decide), dq_o (by decide), dq_o (by decide)]; exact hw) hv (by rw [g151, g153]; exact h3)
    rw [show B + 2 + 7 = B + 9 by omega] at h
    exact h
  have K1 : enF (naF π (dqF F)) ops v 1 = F 1 := by
    funext k
    show naF π (dqF F) 1 k = F 1 k
    rw [a0 (by omega), dq_o (by omega)]
  have K2 : enF (naF π (dqF F)) ops v 15 0 = F 15 0 := by
    show naF π (dqF F) 15 0 = F 15 0
    rw [a0 (by decide), dq_o (by decide)]
  have K3 : enF (naF π (dqF F)) ops v 15 1 = F 15 1 + 1 := g151
  have K4 : enF (naF π (dqF F)) ops v 15 3 = F 15 3 + v := by
    show naF π (dqF F) 15 3 + v = _
    rw [g153]
  have K5 : enF (naF π (dqF F)) ops v 16 = F 16 := by
    funext k
    show naF π (dqF F) 16 k = F 16 k
    rw [a0 (by omega), dq_o (by omega)]
  obtain ⟨hr, hu, hq, ht, hd, hL, hc, hp, hn, hz⟩ := id hF
  obtain ⟨r0, r1, r2, r3, r4, r5, r6, r7, r8, r9, r10, r11, r12, r13, r14, r15, r16, r17⟩ := id hr
  have hp01 : (if F 8 0 = 0 then F 7 0 else x4) = 0 ∨ (if F 8 0 = 0 then F 7 0 else x4) = 1 := by
    split
    · exact (hq 0 (by omega)).2.1
    · exact Or.inl (hx4 (by omega))
  have hdec : ∀ S r q f, CC S r q π → f_X0_decodeUnit_p1_0_b6 r (f + 2) (sR S r F) x1 (F 11 1) ops x4 (F 11 1) = some ((if F 8 0 = 0 then F 7 0 else x4), sR S r (enF (naF π (dqF F)) ops v)) := fun S r q f hC => by
    rw [p_it hR hF (by omega) h0 hl hq0 ⟨Int.le_refl _, by omega⟩ hC (f + 1), p_en hv ⟨hx.1, hx.2, by omega⟩ hp01]
  by_cases c8 : π 5 (F 11 1).toNat < 8
  · obtain ⟨hS, e11⟩ := small hR hF h0 hl c8
    obtain ⟨-, -, -, st, -, sl, sc, -, -, -⟩ := hS
    refine ⟨0, _, _, enF (naF π (dqF F)) ops v, Or.inl rfl, fun S r q f hC => ⟨hdec S r q f hC, ?_⟩, fi_mono (mi_fi hM st.2 sl sc) (by omega), K1, K2, K3, K4, K5⟩
    obtain ⟨k1, -⟩ := pr_k hR (show ((F 11 1).toNat : Int) < π 0 10 by omega)
    unfold f_X0_follow_p1_0
    simp (disch := omega) only [lt1_e, bd_e, bd2_e, sR_g, sR_w, sR_a, sR_s, cc_p hC, cc_q hC, ckI_e, wr_e, ite_not, uF_e, uF_o, uF_k, uG_e, uG_o]
    rw [if_neg (by omega), if_neg (by omega), if_neg (by omega)]
  · have e1 := (gt_pl hR hd hl).1
    have g10 : enF (naF π (dqF F)) ops v 10 = F 10 := by
      funext k
      show naF π (dqF F) 10 k = F 10 k
      rw [a0 (by omega), dq_o (by omega)]
    have hl2 : ((F 11 1).toNat : Int) < π 0 10 := by omega
    have et : gtV π (F 10) (F 11 1).toNat = gtV π (F 13) (F 11 1).toNat := gtV_c (fun h9 => ht.2 _ hl2 h9)
    have e11 : naF π (dqF F) 11 1 = if gtV π (F 10) (F 11 1).toNat = 1 then π 11 (F 11 1).toNat else F 11 1 + 1 := by
      rw [na_11, dq_o (o := 15) (k := 1) (by decide), e1, et]
    have e13 : dqF F 13 = F 13 := by
      funext k
      exact dq_o (by omega)
    obtain ⟨c, F', hc1, hc2, hc3, k1, k2, k3, k4, k5⟩ := p_fol8 (p := if F 8 0 = 0 then F 7 0 else x4) hR hM (by omega) hl (by omega) (fun h9 => by
      rw [g10, ht.2 _ hl2 h9, hd.2 _ hl2 h9]
      exact (pl_rng hR _).2 _ hl2 h9) hp01 (fun k hk h9 => by
      rw [g10]
      show _ = naF π (dqF F) 13 k
      rw [na_13, dq_11, e13]
      exact gtF_c (fun h => ht.2 _ hl2 h) (ht.2 k hk h9)) (by rw [g10]; exact e11) (fun c80 hpp => by
      have c80' : F 8 0 = 0 := by
        have h : naF π (dqF F) 8 0 = 0 := c80
        rw [a0 (by decide), dq_o (by decide)] at h
        exact h
      rw [g10, if_pos c80'] at hpp
      have hN : FC π (naF π (dqF F)) := fc_n hF c80' (by omega) (by
        rw [e11, hpp]
        unfold nxq
        rw [hq0 c80'])
      exact hN) (fun c80 => by
      have c80' : F 8 0 = 1 := by
        have h : naF π (dqF F) 8 0 = 1 := c80
        rw [a0 (by decide), dq_o (by decide)] at h
        exact h
      obtain ⟨l0, l1, l2, l3, l4, l5, l6, l7⟩ := hL c80'
      have g5 : enF (naF π (dqF F)) ops v 5 2 = F 5 2 := by
        show naF π (dqF F) 5 2 = F 5 2
        rw [a0 (by decide), dq_1 c80']
        simp (disch := omega) only [uF_e, uF_o, uF_k, uG_e, uG_o, true_or, or_true]
      have g1 : enF (naF π (dqF F)) ops v 8 1 = F 8 1 := by
        show naF π (dqF F) 8 1 = F 8 1
        rw [a0 (by decide), dq_o (by decide)]
      have g2 : enF (naF π (dqF F)) ops v 8 2 = F 8 2 := by
        show naF π (dqF F) 8 2 = F 8 2
        rw [a0 (by decide), dq_o (by decide)]
      rw [g5, g1, g2]
      refine ⟨l0, l1, by omega, l4, l5, l6, ?_⟩
      by_cases cl : F 11 1 = F 8 2
      · exact cl
      · have := l5.2.2 (F 11 1).toNat (by omega) (by omega)
        exact absurd this c8)
    exact ⟨c, _, _, F', hc1, fun S r q f hC => ⟨hdec S r q f hC, hc2 S r q hC⟩, fi_mono hc3 (by omega), k1.trans K1, k2.trans K2, k3.trans K3, k4.trans K4, k5.trans K5⟩
end C10
