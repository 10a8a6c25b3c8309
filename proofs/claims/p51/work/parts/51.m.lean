/-! mathematics: a unit is decoded and followed -/
section C11
variable {π F G H : xR} {B : Int}
theorem p_dun (hR : PR π) (hF : FI π B F) (hB : B ≤ 70000000) (h0 : F 8 0 = 1 ∨ 0 < F 5 2) {k v ops : Int} (hk : 0 ≤ k ∧ k + v < π 0 10) (hv : v = 0 ∨ v = 1) (ek : k = F 11 1) (hv7 : v = 1 → π 5 k.toNat ≤ 7) (hQ : F 8 0 = 0 → k = F 6 0 ∧ 0 < F 5 2 ∧ (v = 1 → 1 < F 5 2 ∧ F 6 1 = k + 1)) (ho : 1 ≤ ops ∧ ops ≤ 7) (hw : F 0 14 + ops ≤ F 1 3) : ∃ c p H F', (c = 0 ∨ c = 4 ∨ c = 7) ∧ (∀ S r q, CC S r q π → f_X0_decodeUnit_p1_0 (sR S r F) r k (k + v) ops = some (p, sR S r H) ∧ f_X0_follow_p1_0 (sR S r H) r (k + v) p = some (c, sR S r F')) ∧ FI π (B + 20) F' ∧ F' 1 = F 1 ∧ F' 15 0 = F 15 0 ∧ F' 15 1 = F 15 1 + 1 + v ∧ F' 15 3 = F 15 3 + v ∧ F' 16 = F 16 := by
  have p0 := pr_n hR
  obtain ⟨hr, hu, hq, ht, hd, hL, hc, hp, ⟨n0, n1, n2, n3, n4⟩, hz⟩ := id hF
  obtain ⟨r0, r1, r2, r3, r4, r5, r6, r7, r8, r9, r10, r11, r12, r13, r14, r15, r16, r17⟩ := id hr
  rcases hv with hv | hv
  · obtain ⟨c, p, H, F', h1, h2, h3, k1, k2, k3, k4, k5⟩ := p_last (v := 0) (x1 := F 11 1) (x4 := 0) hR hF (by omega) h0 (by omega) (fun h => by rw [← (hQ h).1, ek]) ho hw (Or.inl rfl) (by omega) (by omega) (fun _ => rfl)
    refine ⟨c, p, H, F', h1, fun S r q hC => ?_, fi_mono h3 (by omega), k1, k2, by omega, by omega, k5⟩
    have hf := cc_f hC
    obtain ⟨f, hf2⟩ : ∃ f, fu S = f + 2 := ⟨fu S - 2, by omega⟩
    have e : k + v = F 11 1 := by omega
    have h := h2 S r q f hC
    unfold f_X0_decodeUnit_p1_0
    rw [sR_fu, hf2, e, ek]
    exact h
  · obtain ⟨hS, e11⟩ := small hR hF h0 (by omega) (by rw [← ek]; have := hv7 hv; omega)
    have a0 : ∀ {o k : Nat}, (o ≠ 13 ∧ o ≠ 11 ∧ o ≠ 17 ∧ o ≠ 18 ∧ (o ≠ 15 ∨ k ≠ 1) ∧ o ≠ 14) → naF π (dqF F) o k = dqF F o k := fun h => na_o h
    have g80 : naF π (dqF F) 8 0 = F 8 0 := by rw [a0 (by decide), dq_o (by decide)]
    have g150 : naF π (dqF F) 15 0 = F 15 0 := by rw [a0 (by decide), dq_o (by decide)]
    have g151 : naF π (dqF F) 15 1 = F 15 1 + 1 := by rw [na_15, dq_o (by decide)]
    have g153 : naF π (dqF F) 15 3 = F 15 3 := by rw [a0 (by decide), dq_o (by decide)]
    have g014 : naF π (dqF F) 0 14 = F 0 14 := by rw [a0 (by decide), dq_o (by decide)]
    have g13 : naF π (dqF F) 1 3 = F 1 3 := by rw [a0 (by decide), dq_o (by decide)]
    have g1 : naF π (dqF F) 1 = F 1 := by
      funext k
      rw [a0 (by omega), dq_o (by omega)]
    have g16 : naF π (dqF F) 16 = F 16 := by
      funext k
      rw [a0 (by omega), dq_o (by omega)]
    obtain ⟨c, p, H, F', h1, h2, h3, k1, k2, k3, k4, k5⟩ := p_last (F := naF π (dqF F)) (v := 1) (x1 := F 11 1) (x4 := if F 8 0 = 0 then F 7 0 else 0) (ops := ops) hR hS (by omega) (by
      rw [g80]
      by_cases c : F 8 0 = 0
      · have h5 := (hQ c).2.2 hv
        have e5 : naF π (dqF F) 5 2 = F 5 2 - 1 := by rw [a0 (by decide), dq_0 c]; simp (disch := omega) only [uF_e, uF_o, uF_k, uG_e, uG_o, true_or, or_true]
        exact Or.inr (by omega)
      · exact Or.inl (by omega)) (by omega) (fun c => by
      rw [g80] at c
      have h5 := (hQ c).2.2 hv
      have e6 : naF π (dqF F) 6 0 = F 6 1 := by
        rw [a0 (by decide), dq_0 c]
        simp (disch := omega) only [uF_e, uF_o, uF_k, uG_e, uG_o, true_or, or_true]
        exact if_pos (by omega)
      rw [e6, e11, h5.2, ek]) ho (by omega) (Or.inr rfl) (by omega) (by omega) (fun c => by
      rw [g80] at c
      exact if_neg (by omega))
    refine ⟨c, p, H, F', h1, fun S r q hC => ?_, fi_mono h3 (by omega), k1.trans g1, k2.trans g150, by omega, by omega, k5.trans g16⟩
    have hf := cc_f hC
    obtain ⟨f, hf2⟩ : ∃ f, fu S = (f + 2) + 1 := ⟨fu S - 3, by omega⟩
    have h := h2 S r q f hC
    rw [e11] at h
    unfold f_X0_decodeUnit_p1_0
    rw [sR_fu, hf2, hv, ek, p_it hR hF (by omega) h0 (by omega) (fun c => by rw [← (hQ c).1, ek]) ⟨by omega, by omega⟩ hC]
    exact h
end C11
