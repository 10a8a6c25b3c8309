/-! mathematics: follow -/
section C8
variable {π F G H : xR} {B : Int}
theorem p_f83 (hR : PR π) (hM : MI π B 0 G) {l p t : Int} (hl : 0 ≤ l ∧ l < π 0 10) (h8 : 8 ≤ π 5 l.toNat) (h10 : π 5 l.toNat = 9 → 0 ≤ G 10 l.toNat ∧ G 10 l.toNat ≤ 99) (ht : gtV π (G 10) l.toNat = t) : ∃ w : Int, (w = 0 ∨ w = 1 ∧ t = 1) ∧ ∀ S r q, CC S r q π → f_X0_follow_p1_0 (sR S r G) r l p = f_X0_follow_p1_0_b83 r (sR S r (uF (uG G 10 (gtF π (G 10) l.toNat)) 19 l.toNat t)) l p t w (if t = 0 then G 0 9 else l) := by
  have ht2 : t = 0 ∨ t = 1 := by
    rw [← ht]
    exact gtV_z
  refine ⟨if t = 1 ∧ G 0 9 = l then 1 else 0, ?_, fun S r q hC => ?_⟩
  · split
    · rename_i h
      exact Or.inr ⟨rfl, h.1⟩
    · exact Or.inl rfl
  obtain ⟨hr, -⟩ := id hM
  obtain ⟨r0, r1, r2, r3, r4, r5, r6, r7, r8, r9, r10, r11, r12, r13, r14, r15, r16, r17⟩ := id hr
  have p0 := pr_n hR
  obtain ⟨k1, -⟩ := pr_k hR (show (l.toNat : Int) < π 0 10 by omega)
  have hg := p_gt10 (S := S) (r := r) (F := G) hR hC hl h10
  rw [ht] at hg
  unfold f_X0_follow_p1_0
  simp (disch := omega) only [lt1_e, bd_e, bd2_e, sR_g, sR_w, sR_a, sR_s, cc_p hC, cc_q hC, ckI_e, wr_e, ite_not, uF_e, uF_o, uF_k, uG_e, uG_o]
  rw [if_neg (by omega), if_neg (by omega), if_pos (by omega), hg, bd2_e]
  rcases ht2 with h | h
  · subst h
    rw [if_neg (show ¬ ((0 : Int) = 1 ∧ G 0 9 = l) from fun z => absurd z.1 (by decide))]
    unfold f_X0_follow_p1_0_b60 f_X0_follow_p1_0_b61
    simp (disch := omega) only [lt1_e, bd_e, bd2_e, sR_g, sR_w, sR_a, sR_s, cc_p hC, cc_q hC, ckI_e, wr_e, ite_not, uF_e, uF_o, uF_k, uG_e, uG_o, ckB_e]
    simp only [if_true]
  · subst h
    rw [if_neg (show ¬ ((1 : Int) = 0) by decide)]
    by_cases c : G 0 9 = l
    · rw [if_pos (show (1 : Int) = 1 ∧ G 0 9 = l from ⟨rfl, c⟩)]
      simp (disch := omega) only [lt1_e, bd_e, bd2_e, sR_g, sR_w, sR_a, sR_s, cc_p hC, cc_q hC, ckI_e, wr_e, ite_not, uF_e, uF_o, uF_k, uG_e, uG_o]
      rw [if_neg (by decide), if_pos c]
      unfold f_X0_follow_p1_0_b61
      simp (disch := omega) only [lt1_e, bd_e, bd2_e, sR_g, sR_w, sR_a, sR_s, cc_p hC, cc_q hC, ckI_e, wr_e, ite_not, uF_e, uF_o, uF_k, uG_e, uG_o, ckB_e]
      rw [if_neg (by decide)]
    · rw [if_neg (show ¬ ((1 : Int) = 1 ∧ G 0 9 = l) from fun z => c z.2)]
      simp (disch := omega) only [lt1_e, bd_e, bd2_e, sR_g, sR_w, sR_a, sR_s, cc_p hC, cc_q hC, ckI_e, wr_e, ite_not, uF_e, uF_o, uF_k, uG_e, uG_o]
      rw [if_neg (by decide), if_neg c]
      unfold f_X0_follow_p1_0_b60 f_X0_follow_p1_0_b61
      simp (disch := omega) only [lt1_e, bd_e, bd2_e, sR_g, sR_w, sR_a, sR_s, cc_p hC, cc_q hC, ckI_e, wr_e, ite_not, uF_e, uF_o, uF_k, uG_e, uG_o, ckB_e]
      rw [if_neg (by decide)]
end C8
