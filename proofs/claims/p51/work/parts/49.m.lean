/-! mathematics: where a decoded jump or branch leads, all together -/
section C9
variable {π F G H : xR} {B : Int}
theorem p_fol8 (hR : PR π) (hM : MI π B 0 G) (hB : B ≤ 90000000) {l p : Int} (hl : 0 ≤ l ∧ l < π 0 10) (h8 : 8 ≤ π 5 l.toNat) (h10 : π 5 l.toNat = 9 → 0 ≤ G 10 l.toNat ∧ G 10 l.toNat ≤ 99) (hp : p = 0 ∨ p = 1) (h2 : ∀ k : Nat, (k : Int) < π 0 10 → π 5 k = 9 → gtF π (G 10) l.toNat k = G 13 k) (e11 : G 11 1 = if gtV π (G 10) l.toNat = 1 then π 11 l.toNat else l + 1) (hQ : G 8 0 = 0 → gtV π (G 10) l.toNat = p → FC π G) (hL : G 8 0 = 1 → G 5 2 = 0 ∧ 0 ≤ G 8 1 ∧ G 8 1 ≤ G 8 2 ∧ G 8 2 < π 0 10 ∧ lpk π (G 8 2).toNat ∧ G 8 1 = π 11 (G 8 2).toNat ∧ l = G 8 2) : ∃ c F', (c = 0 ∨ c = 4 ∨ c = 7) ∧ (∀ S r q, CC S r q π → f_X0_follow_p1_0 (sR S r G) r l p = some (c, sR S r F')) ∧ FI π (B + 1) F' ∧ F' 1 = G 1 ∧ F' 15 0 = G 15 0 ∧ F' 15 1 = G 15 1 ∧ F' 15 3 = G 15 3 ∧ F' 16 = G 16 := by
  generalize ht : gtV π (G 10) l.toNat = t at e11 hQ
  have ht2 : t = 0 ∨ t = 1 := by
    rw [← ht]
    exact gtV_z
  obtain ⟨w, hw, hev⟩ := p_f83 (p := p) hR hM hl h8 h10 ht
  obtain ⟨hr, -, -, -, -, -, ⟨n0, -⟩, -⟩ := id hM
  obtain ⟨r0, r1, r2, r3, r4, r5, r6, r7, r8, r9, r10, r11, r12, r13, r14, r15, r16, r17⟩ := id hr
  have p0 := pr_n hR
  have n6 := n0 6
  have n7 := n0 7
  obtain ⟨-, -, k3, -, -, -, -, -, k9⟩ := pr_k hR (show (l.toNat : Int) < π 0 10 by omega)
  have k11 := k3 h8
  have h12 := p12_r hR hl
  generalize hx : (if t = 0 then G 0 9 else l) = x at hev
  have hx2 : -1 ≤ x ∧ x < 60 := by
    rw [← hx]
    split <;> omega
  have hH := mi_fl (x := x) hR hM hl h8 ht2 hx2
  have hT : T2 π (flF π G l t x) := fun k hk h9 => by
    have e1 : flF π G l t x 10 k = gtF π (G 10) l.toNat k := by
      unfold flF
      simp (disch := omega) only [uF_e, uF_o, uF_k, uG_e, uG_o, true_or, or_true]
    rw [e1, h2 k hk h9, fl_o (by omega)]
  have fold : uF (uF (uG G 10 (gtF π (G 10) l.toNat)) 19 l.toNat t) 0 9 x = flF π G l t x := rfl
  have hG11 : 0 ≤ G 11 1 ∧ G 11 1 ≤ π 0 10 := by
    rw [e11]
    split <;> omega
  rcases r16 with c80 | c80
  · by_cases ct : t = p
    · have hFI : FI π B (flF π G l t x) := mi_fi hH hT (fun h => absurd (show G 8 0 = 1 from h) (by omega)) (hQ c80 ct)
      rcases hw with w0 | ⟨w1, t1⟩
      · refine ⟨if t = 0 then 0 else 7, flF π G l t x, ?_, fun S r q hC => ?_, fi_mono hFI (by omega), rfl, rfl, rfl, rfl, rfl⟩
        · rcases ht2 with h | h <;> rw [h] <;> decide
        · rw [hev S r q hC]
          unfold f_X0_follow_p1_0_b83 f_X0_follow_p1_0_b204
          simp (disch := omega) only [lt1_e, bd_e, bd2_e, sR_g, sR_w, sR_a, sR_s, cc_p hC, cc_q hC, ckI_e, wr_e, ite_not, uF_e, uF_o, uF_k, uG_e, uG_o]
          rw [if_pos c80, if_pos ct, if_pos w0]
          rcases ht2 with h | h
          · rw [if_pos h, if_pos h]
            rfl
          · rw [if_neg (by omega), if_neg (by omega)]
            rfl
      · obtain ⟨z, hz, hzk, hzev⟩ := p_loop (G := flF π G l t x) hR r2 hl h12
        rcases hz with z0 | z1
        · refine ⟨7, flF π G l t x, by decide, fun S r q hC => ?_, fi_mono hFI (by omega), rfl, rfl, rfl, rfl, rfl⟩
          rw [hev S r q hC]
          unfold f_X0_follow_p1_0_b83 f_X0_follow_p1_0_b204
          simp (disch := omega) only [lt1_e, bd_e, bd2_e, sR_g, sR_w, sR_a, sR_s, cc_p hC, cc_q hC, ckI_e, wr_e, ite_not, uF_e, uF_o, uF_k, uG_e, uG_o]
          rw [if_pos c80, if_pos ct, if_neg (by omega), fold, hzev S r q hC, bd2_e]
          simp (disch := omega) only [lt1_e, bd_e, bd2_e, sR_g, sR_w, sR_a, sR_s, cc_p hC, cc_q hC, ckI_e, wr_e, ite_not, uF_e, uF_o, uF_k, uG_e, uG_o]
          rw [if_pos z0, if_neg (by omega)]
        · have hk : lpk π l.toNat := Classical.byContradiction fun hn => hzk z1 (k9 hn)
          have e1 : G 11 1 = π 11 l.toNat := by
            rw [e11, if_pos t1]
          refine ⟨7, lbF (flF π G l t x) l (π 11 l.toNat) (π 12 l.toNat), by decide, fun S r q hC => ?_, lb_fi hR hH hT hl hk rfl e1, rfl, rfl, rfl, rfl, rfl⟩
          rw [hev S r q hC]
          unfold f_X0_follow_p1_0_b83 f_X0_follow_p1_0_b204
          simp (disch := omega) only [lt1_e, bd_e, bd2_e, sR_g, sR_w, sR_a, sR_s, cc_p hC, cc_q hC, ckI_e, wr_e, ite_not, uF_e, uF_o, uF_k, uG_e, uG_o]
          rw [if_pos c80, if_pos ct, if_neg (by omega), fold, hzev S r q hC, bd2_e]
          unfold f_X0_emptyQueue_p1_0 f_X7_begin_p1_8
          simp (disch := omega) only [lt1_e, bd_e, bd2_e, sR_g, sR_w, sR_a, sR_s, cc_p hC, cc_q hC, ckI_e, wr_e, ite_not, uF_e, uF_o, uF_k, uG_e, uG_o]
          rw [if_neg (by omega), if_neg (by omega)]
          rfl
    · refine ⟨4, wpF (flF π G l t x) (G 11 1), by decide, fun S r q hC => ?_, wp_fi hR hH hT hG11 rfl, rfl, rfl, rfl, rfl, rfl⟩
      rw [hev S r q hC]
      unfold f_X0_follow_p1_0_b83 f_X0_goTo_p1_0 f_X0_emptyQueue_p1_0 f_X0_setPlace_p1_0
      simp (disch := omega) only [lt1_e, bd_e, bd2_e, sR_g, sR_w, sR_a, sR_s, cc_p hC, cc_q hC, ckI_e, wr_e, ite_not, uF_e, uF_o, uF_k, uG_e, uG_o]
      rw [if_pos c80, if_neg ct]
      rcases ht2 with h | h
      · rw [h, if_neg (by decide)] at e11
        rw [if_pos h, e11]
        rfl
      · rw [h, if_pos rfl] at e11
        rw [if_neg (by omega), e11]
        rfl
  · obtain ⟨l1, l2, l3, l4, l5, l6, l7⟩ := hL c80
    rcases ht2 with h | h
    · rw [h, if_neg (by decide)] at e11
      refine ⟨7, uF (uF (uF (flF π G l t x) 8 0 0) 0 10 (l + 1)) 0 11 1, by decide, fun S r q hC => ?_, fi_mono (le_fi hR hH hT l1 (by omega) e11) (by omega), rfl, rfl, rfl, rfl, rfl⟩
      rw [hev S r q hC]
      unfold f_X0_follow_p1_0_b83 f_X0_followInLoop_p1_0 f_X0_setPlace_p1_0
      simp (disch := omega) only [lt1_e, bd_e, bd2_e, sR_g, sR_w, sR_a, sR_s, cc_p hC, cc_q hC, ckI_e, wr_e, ite_not, uF_e, uF_o, uF_k, uG_e, uG_o]
      rw [if_neg (by omega), if_pos h]
      rfl
    · rw [h, if_pos rfl] at e11
      refine ⟨0, uF (flF π G l t x) 8 3 (G 8 1), by decide, fun S r q hC => ?_, fi_mono (lg_fi hR hH hT c80 l1 ⟨l2, l3⟩ l4 l5 l6 (by rw [fl_o (by decide), fl_o (by decide), e11, l6, l7])) (by omega), rfl, rfl, rfl, rfl, rfl⟩
      rw [hev S r q hC]
      unfold f_X0_follow_p1_0_b83 f_X0_followInLoop_p1_0 f_X0_setPlace_p1_0
      simp (disch := omega) only [lt1_e, bd_e, bd2_e, sR_g, sR_w, sR_a, sR_s, cc_p hC, cc_q hC, ckI_e, wr_e, ite_not, uF_e, uF_o, uF_k, uG_e, uG_o]
      rw [if_neg (by omega), if_neg (by omega)]
      rfl
end C9
