/-! mathematics: what comes next, and whether it may be decoded -/
section C3
variable {π F : xR} {B : Int}
theorem p_ops (hR : PR π) {k : Int} (hk : 0 ≤ k ∧ k < π 0 10) : 1 ≤ π 10 k.toNat ∧ π 10 k.toNat ≤ 4 := by
  obtain ⟨k1, -, -, -, -, k6, -⟩ := pr_k hR (show (k.toNat : Int) < π 0 10 by omega)
  rw [k6]
  have : ∀ i : Nat, i < 10 → 1 ≤ tbI 1 i ∧ tbI 1 i ≤ 4 := by decide +kernel
  exact this _ (by omega)
/-- the unit that is next: k alone (v = 0) or k and the one behind it; it is what the plain decoder decodes next -/
theorem p_unit (hR : PR π) (hF : FI π B F) (h0 : F 8 0 = 1 ∨ 0 < F 5 2) : ∃ k v : Int, (0 ≤ k ∧ k + v < π 0 10) ∧ (v = 0 ∨ v = 1) ∧ k = F 11 1 ∧ (v = 1 → π 5 k.toNat ≤ 7) ∧ (F 8 0 = 0 → k = F 6 0 ∧ 0 < F 5 2 ∧ (v = 1 → 1 < F 5 2 ∧ F 6 1 = k + 1)) ∧ (F 8 0 = 1 → k = F 8 3 ∧ k + v ≤ F 8 2) ∧ ∀ S r q, CC S r q π → f_X0_nextNumber_p1_0 (sR S r F) r = some (k, sR S r F) ∧ f_X0_isFused_p1_0 (sR S r F) r k = some (v, sR S r F) := by
  obtain ⟨hr, hu, hq, ht, hd, hl, hc, hp, hn, hz⟩ := id hF
  obtain ⟨r0, r1, r2, r3, r4, r5, r6, r7, r8, r9, r10, r11, r12, r13, r14, r15, r16, r17⟩ := id hr
  obtain ⟨n0, n1, n2, n3, n4⟩ := id hn
  obtain ⟨p0, p1, p2, p3, p4, p5, p6, p7, p8, p9, p10⟩ := id hR
  by_cases c0 : F 8 0 = 0
  · have h5 : 0 < F 5 2 := by omega
    obtain ⟨q1, q2, q3, q4⟩ := hq 0 (by omega)
    obtain ⟨c1, c2, -⟩ := hc c0
    have e1 := c1 h5
    obtain ⟨w, w1, w2, i1⟩ := p_fuse hR hF q1
    have hnx : ∀ S r q, CC S r q π → f_X0_nextNumber_p1_0 (sR S r F) r = some (F 6 0, sR S r F) := fun S r q hC => by
      unfold f_X0_nextNumber_p1_0
      simp (disch := omega) only [lt1_e, bd_e, bd2_e, sR_g, sR_w, sR_a, sR_s, cc_p hC, cc_q hC, ckI_e, wr_e, ite_not, uF_e, uF_o, uF_k, uG_e, uG_o]
      rw [if_pos c0, if_neg (by omega)]
    by_cases c5 : 1 < F 5 2 ∧ F 6 1 = F 6 0 + 1 ∧ w = 1
    · refine ⟨F 6 0, 1, ⟨q1.1, (w2 c5.2.2).1⟩, Or.inr rfl, e1, fun _ => (w2 c5.2.2).2, fun _ => ⟨rfl, h5, fun _ => ⟨c5.1, c5.2.1⟩⟩, fun h => absurd h (by omega), fun S r q hC => ⟨hnx S r q hC, ?_⟩⟩
      have q5 := (hq 1 (by omega)).1
      unfold f_X0_isFused_p1_0 f_X0_isFused_p1_0_b60
      simp (disch := omega) only [lt1_e, bd_e, bd2_e, sR_g, sR_w, sR_a, sR_s, cc_p hC, cc_q hC, ckI_e, wr_e, ite_not, uF_e, uF_o, uF_k, uG_e, uG_o]
      rw [if_pos c0, if_neg (by omega), if_pos c5.2.1, if_neg (by decide), i1 S r q hC]
      simp only [bd2_e]
      rw [c5.2.2, if_neg (by decide)]
    · refine ⟨F 6 0, 0, ⟨q1.1, by omega⟩, Or.inl rfl, e1, fun h => absurd h (by decide), fun _ => ⟨rfl, h5, fun h => absurd h (by decide)⟩, fun h => absurd h (by omega), fun S r q hC => ⟨hnx S r q hC, ?_⟩⟩
      unfold f_X0_isFused_p1_0 f_X0_isFused_p1_0_b59 f_X0_isFused_p1_0_b60
      rw [sR_g, sR_g, sR_g, wr_e (z := F 8 0) (by omega), wr_e (z := F 5 2) (by omega), wr_e (z := 1) (by decide), if_pos c0]
      by_cases d5 : F 5 2 ≤ 1
      · rw [if_pos d5, wr_e (z := 0) (by decide), if_pos rfl]
      · have q5 := (hq 1 (by omega)).1
        rw [if_neg d5, wr_e (z := F 6 1) (by omega), wr_e (z := F 6 0 + 1) (by omega), wr_e (z := 0) (by decide), if_pos rfl]
        by_cases d6 : F 6 1 = F 6 0 + 1
        · rw [if_neg (fun z => z d6), if_neg (by decide), i1 S r q hC]
          have hw0 : w = 0 := by
            rcases w1 with h | h
            · exact h
            · exact absurd ⟨by omega, d6, h⟩ c5
          rw [hw0]
          rfl
        · rw [if_pos d6]
  · have c1 : F 8 0 = 1 := by omega
    obtain ⟨l0, l1, l2, l3, l4, l5, l6, l7⟩ := hl c1
    have hk : 0 ≤ F 8 3 ∧ F 8 3 < π 0 10 := by omega
    obtain ⟨w, w1, w2, i1⟩ := p_fuse hR hF hk
    have hnx : ∀ S r q, CC S r q π → f_X0_nextNumber_p1_0 (sR S r F) r = some (F 8 3, sR S r F) := fun S r q hC => by
      unfold f_X0_nextNumber_p1_0
      simp (disch := omega) only [lt1_e, bd_e, bd2_e, sR_g, sR_w, sR_a, sR_s, cc_p hC, cc_q hC, ckI_e, wr_e, ite_not, uF_e, uF_o, uF_k, uG_e, uG_o]
      rw [if_neg c0]
    by_cases c5 : F 8 3 < F 8 2 ∧ w = 1
    · refine ⟨F 8 3, 1, ⟨hk.1, (w2 c5.2).1⟩, Or.inr rfl, l7, fun _ => (w2 c5.2).2, fun h => absurd h c0, fun _ => ⟨rfl, by omega⟩, fun S r q hC => ⟨hnx S r q hC, ?_⟩⟩
      unfold f_X0_isFused_p1_0 f_X0_isFused_p1_0_b60
      simp (disch := omega) only [lt1_e, bd_e, bd2_e, sR_g, sR_w, sR_a, sR_s, cc_p hC, cc_q hC, ckI_e, wr_e, ite_not, uF_e, uF_o, uF_k, uG_e, uG_o]
      rw [if_neg c0, if_neg (by omega), if_neg (by decide), i1 S r q hC]
      simp only [bd2_e]
      rw [c5.2, if_neg (by decide)]
    · refine ⟨F 8 3, 0, ⟨hk.1, by omega⟩, Or.inl rfl, l7, fun h => absurd h (by decide), fun h => absurd h c0, fun _ => ⟨rfl, by omega⟩, fun S r q hC => ⟨hnx S r q hC, ?_⟩⟩
      unfold f_X0_isFused_p1_0 f_X0_isFused_p1_0_b60
      simp (disch := omega) only [lt1_e, bd_e, bd2_e, sR_g, sR_w, sR_a, sR_s, cc_p hC, cc_q hC, ckI_e, wr_e, ite_not, uF_e, uF_o, uF_k, uG_e, uG_o]
      rw [if_neg c0]
      by_cases d5 : F 8 2 ≤ F 8 3
      · rw [if_pos d5, if_pos (by decide)]
      · have hw0 : w = 0 := by
          rcases w1 with h | h
          · exact h
          · exact absurd ⟨by omega, h⟩ c5
        rw [if_neg d5, if_neg (by decide), i1 S r q hC, hw0]
        rfl
theorem p_opsU (hR : PR π) {k v : Int} (hk : 0 ≤ k ∧ k + v < π 0 10) (hv : v = 0 ∨ v = 1) : ∃ ops : Int, (1 ≤ ops ∧ ops ≤ 7) ∧ ∀ S r q, CC S r q π → f_X0_opsOfUnit_p1_0 (sR S r F) r k (k + v) = some (ops, sR S r F) := by
  have p0 := pr_n hR
  have o1 := p_ops hR (k := k) (by omega)
  have o2 := p_ops hR (k := k + v) (by omega)
  rcases hv with rfl | rfl
  · refine ⟨π 10 k.toNat, by omega, fun S r q hC => ?_⟩
    unfold f_X0_opsOfUnit_p1_0
    rw [Int.add_zero]
    simp (disch := omega) only [lt1_e, bd_e, bd2_e, sR_g, sR_w, sR_a, sR_s, cc_p hC, cc_q hC, ckI_e, wr_e, ite_not, uF_e, uF_o, uF_k, uG_e, uG_o]
    rw [if_neg (by omega), if_neg (by omega), if_pos (by omega), if_pos (Int.le_refl k)]
  · refine ⟨π 10 k.toNat + π 10 (k + 1).toNat - 1, by omega, fun S r q hC => ?_⟩
    unfold f_X0_opsOfUnit_p1_0
    simp (disch := omega) only [lt1_e, bd_e, bd2_e, sR_g, sR_w, sR_a, sR_s, cc_p hC, cc_q hC, ckI_e, wr_e, ite_not, uF_e, uF_o, uF_k, uG_e, uG_o]
    rw [if_neg (by omega), if_neg (by omega), if_pos (by omega), if_neg (by omega)]
theorem p_noth (hR : PR π) (hF : FI π B F) : ∃ c : Int, (1 ≤ c ∧ c ≤ 8) ∧ ∀ S r q, CC S r q π → f_X0_causeOfNothing_p1_0 (sR S r F) r = some (c, sR S r F) := by
  obtain ⟨hr, hu, hq, ht, hd, hl, hc, hp, hn, hz⟩ := id hF
  obtain ⟨r0, r1, r2, r3, r4, r5, r6, r7, r8, r9, r10, r11, r12, r13, r14, r15, r16, r17⟩ := id hr
  obtain ⟨n0, n1, n2, n3, n4⟩ := id hn
  obtain ⟨p0, p1, p2, p3, p4, p5, p6, p7, p8, p9, p10⟩ := id hR
  by_cases c0 : F 0 10 < π 0 10
  · by_cases c1 : F 0 16 ≤ 0
    · by_cases c2 : F 0 13 = 0
      · refine ⟨1, by decide, fun S r q hC => ?_⟩
        unfold f_X0_causeOfNothing_p1_0
        simp (disch := omega) only [lt1_e, bd_e, bd2_e, sR_g, sR_w, sR_a, sR_s, cc_p hC, cc_q hC, ckI_e, wr_e, ite_not, uF_e, uF_o, uF_k, uG_e, uG_o]
        rw [if_pos c0, if_pos c1, if_pos c2]
      · refine ⟨2, by decide, fun S r q hC => ?_⟩
        unfold f_X0_causeOfNothing_p1_0
        simp (disch := omega) only [lt1_e, bd_e, bd2_e, sR_g, sR_w, sR_a, sR_s, cc_p hC, cc_q hC, ckI_e, wr_e, ite_not, uF_e, uF_o, uF_k, uG_e, uG_o]
        rw [if_pos c0, if_pos c1, if_neg c2]
    · refine ⟨3, by decide, fun S r q hC => ?_⟩
      unfold f_X0_causeOfNothing_p1_0
      simp (disch := omega) only [lt1_e, bd_e, bd2_e, sR_g, sR_w, sR_a, sR_s, cc_p hC, cc_q hC, ckI_e, wr_e, ite_not, uF_e, uF_o, uF_k, uG_e, uG_o]
      rw [if_pos c0, if_neg c1]
  · refine ⟨8, by decide, fun S r q hC => ?_⟩
    unfold f_X0_causeOfNothing_p1_0
    simp (disch := omega) only [lt1_e, bd_e, bd2_e, sR_g, sR_w, sR_a, sR_s, cc_p hC, cc_q hC, ckI_e, wr_e, ite_not, uF_e, uF_o, uF_k, uG_e, uG_o]
    rw [if_neg c0]
theorem p_stop (hR : PR π) (hF : FI π B F) {lane ops : Int} (hla : 0 ≤ lane ∧ lane ≤ 6) (ho : 1 ≤ ops ∧ ops ≤ 7) : ∃ c : Int, (c = 0 ∨ c = 5 ∨ c = 6) ∧ (c = 0 → F 0 14 + ops ≤ F 1 3) ∧ ∀ S r q, CC S r q π → f_X0_causeOfStop_p1_0 (sR S r F) r lane ops = some (c, sR S r F) := by
  obtain ⟨hr, hu, hq, ht, hd, hl, hc, hp, hn, hz⟩ := id hF
  obtain ⟨r0, r1, r2, r3, r4, r5, r6, r7, r8, r9, r10, r11, r12, r13, r14, r15, r16, r17⟩ := id hr
  obtain ⟨n0, n1, n2, n3, n4⟩ := id hn
  obtain ⟨p0, p1, p2, p3, p4, p5, p6, p7, p8, p9, p10⟩ := id hR
  have key : ∃ c : Int, (c = 0 ∨ c = 6) ∧ (c = 0 → F 0 14 + ops ≤ F 1 3) ∧ ∀ S r q, CC S r q π → f_X0_causeOfStop_p1_0_b21 r (sR S r F) ops = some (c, sR S r F) := by
    by_cases c0 : F 0 14 + ops ≤ F 1 3
    · refine ⟨0, Or.inl rfl, fun _ => c0, fun S r q hC => ?_⟩
      unfold f_X0_causeOfStop_p1_0_b21
      simp (disch := omega) only [lt1_e, bd_e, bd2_e, sR_g, sR_w, sR_a, sR_s, cc_p hC, cc_q hC, ckI_e, wr_e, ite_not, uF_e, uF_o, uF_k, uG_e, uG_o]
      rw [if_pos c0]
    · refine ⟨6, Or.inr rfl, fun h => absurd h (by decide), fun S r q hC => ?_⟩
      unfold f_X0_causeOfStop_p1_0_b21
      simp (disch := omega) only [lt1_e, bd_e, bd2_e, sR_g, sR_w, sR_a, sR_s, cc_p hC, cc_q hC, ckI_e, wr_e, ite_not, uF_e, uF_o, uF_k, uG_e, uG_o]
      rw [if_neg c0]
  obtain ⟨c, k1, k2, k3⟩ := key
  by_cases d : lane ≤ 0 ∨ F 8 0 ≠ 0 ∨ ops ≤ 1
  · refine ⟨c, by omega, k2, fun S r q hC => ?_⟩
    unfold f_X0_causeOfStop_p1_0
    rw [k3 S r q hC]
    simp (disch := omega) only [lt1_e, bd_e, bd2_e, sR_g, sR_w, sR_a, sR_s, cc_p hC, cc_q hC, ckI_e, wr_e, ite_not, uF_e, uF_o, uF_k, uG_e, uG_o]
    by_cases d1 : lane ≤ 0
    · rw [if_pos d1]
    · rw [if_neg d1]
      by_cases d2 : F 8 0 = 0
      · rw [if_pos d2, if_pos (by omega)]
      · rw [if_neg d2]
  · refine ⟨5, by omega, fun h => absurd h (by decide), fun S r q hC => ?_⟩
    unfold f_X0_causeOfStop_p1_0
    simp (disch := omega) only [lt1_e, bd_e, bd2_e, sR_g, sR_w, sR_a, sR_s, cc_p hC, cc_q hC, ckI_e, wr_e, ite_not, uF_e, uF_o, uF_k, uG_e, uG_o]
    rw [if_neg (by omega), if_pos (by omega), if_neg (by omega)]
end C3
