/-! mathematics: the lanes of a cycle -/
/-- the account of lanes: those unused, and those used -/
def ac (F : xR) : Int := F 16 1 + F 16 2 + F 16 3 + F 16 4 + F 16 5 + F 16 6 + F 16 7 + F 16 8 + F 15 1 - F 15 3
section C12
variable {π F G H : xR} {B : Int}
theorem un_fi (hF : FI π B F) {c z : Int} (hc8 : 1 ≤ c ∧ c ≤ 8) (hz6 : 0 ≤ z ∧ z ≤ 6) : FI π (B + 6) (uF F 16 c.toNat (F 16 c.toNat + z)) := by
  obtain ⟨hr, hu, hq, ht, hd, hl, hc, hp, hn, hz⟩ := id hF
  obtain ⟨r0, r1, r2, r3, r4, r5, r6, r7, r8, r9, r10, r11, r12, r13, r14, r15, r16, r17⟩ := id hr
  obtain ⟨n0, n1, n2, n3, n4⟩ := id hn
  refine ⟨?_, ?_, ?_, ?_, ?_, ?_, ?_, ?_, ?_, ?_⟩
  · unfold FR
    refine ⟨?_, ?_, ?_, ?_, ?_, ?_, ?_, ?_, ?_, ?_, ?_, ?_, ?_, ?_, ?_, ?_, ?_, ?_⟩ <;> (try simp (disch := omega) only [uF_e, uF_o, uF_k, uG_e, uG_o, true_or, or_true]) <;> omega
  · intro j hj
    try simp (disch := omega) only [uF_e, uF_o, uF_k, uG_e, uG_o, true_or, or_true]
    exact hu j hj
  · intro j hj
    try simp (disch := omega) only [uF_e, uF_o, uF_k, uG_e, uG_o, true_or, or_true] at hj
    try simp (disch := omega) only [uF_e, uF_o, uF_k, uG_e, uG_o, true_or, or_true]
    first | exact hq j hj | exact absurd hj (by omega)
  · refine ⟨fun k hk => ?_, fun k hk h9 => ?_⟩
    · try simp (disch := omega) only [uF_e, uF_o, uF_k, uG_e, uG_o, true_or, or_true]
      exact ht.1 k hk
    · try simp (disch := omega) only [uF_e, uF_o, uF_k, uG_e, uG_o, true_or, or_true]
      exact ht.2 k hk h9
  · unfold FD
    try simp (disch := omega) only [uF_e, uF_o, uF_k, uG_e, uG_o, true_or, or_true]
    exact hd
  · intro h1
    try simp (disch := omega) only [uF_e, uF_o, uF_k, uG_e, uG_o, true_or, or_true] at h1
    try simp (disch := omega) only [uF_e, uF_o, uF_k, uG_e, uG_o, true_or, or_true]
    first | exact hl h1 | exact absurd h1 (by decide)
  · intro h1
    try simp (disch := omega) only [uF_e, uF_o, uF_k, uG_e, uG_o, true_or, or_true] at h1
    unfold nxq
    try simp (disch := omega) only [uF_e, uF_o, uF_k, uG_e, uG_o, true_or, or_true]
    first | exact hc h1 | exact absurd h1 (by decide)
  · unfold FP
    try simp (disch := omega) only [uF_e, uF_o, uF_k, uG_e, uG_o, true_or, or_true]
    exact hp
  · refine ⟨fun k => ?_, fun k => ?_, ?_, ?_, ?_⟩
    · simp (disch := omega) only [uF_e, uF_o, uF_k, uG_e, uG_o, true_or, or_true]
      have a1 := n0 k
      omega
    · have a1 := n1 k
      by_cases ck : k = c.toNat
      · rw [ck, uF_e]
        have a2 := n1 c.toNat
        omega
      · rw [uF_k ck]
        omega
    · simp (disch := omega) only [uF_e, uF_o, uF_k, uG_e, uG_o, true_or, or_true]
      omega
    · simp (disch := omega) only [uF_e, uF_o, uF_k, uG_e, uG_o, true_or, or_true]
      omega
    · simp (disch := omega) only [uF_e, uF_o, uF_k, uG_e, uG_o, true_or, or_true]
      omega
  · exact zb_F hz (decide_eq_true (by omega))
theorem un_ac {c z : Int} (hc8 : 1 ≤ c ∧ c ≤ 8) : ac (uF F 16 c.toNat (F 16 c.toNat + z)) = ac F + z := by
  have h : c = 1 ∨ c = 2 ∨ c = 3 ∨ c = 4 ∨ c = 5 ∨ c = 6 ∨ c = 7 ∨ c = 8 := by omega
  rcases h with rfl | rfl | rfl | rfl | rfl | rfl | rfl | rfl
  · show (F 16 1 + z) + F 16 2 + F 16 3 + F 16 4 + F 16 5 + F 16 6 + F 16 7 + F 16 8 + F 15 1 - F 15 3 = _
    unfold ac
    omega
  · show F 16 1 + (F 16 2 + z) + F 16 3 + F 16 4 + F 16 5 + F 16 6 + F 16 7 + F 16 8 + F 15 1 - F 15 3 = _
    unfold ac
    omega
  · show F 16 1 + F 16 2 + (F 16 3 + z) + F 16 4 + F 16 5 + F 16 6 + F 16 7 + F 16 8 + F 15 1 - F 15 3 = _
    unfold ac
    omega
  · show F 16 1 + F 16 2 + F 16 3 + (F 16 4 + z) + F 16 5 + F 16 6 + F 16 7 + F 16 8 + F 15 1 - F 15 3 = _
    unfold ac
    omega
  · show F 16 1 + F 16 2 + F 16 3 + F 16 4 + (F 16 5 + z) + F 16 6 + F 16 7 + F 16 8 + F 15 1 - F 15 3 = _
    unfold ac
    omega
  · show F 16 1 + F 16 2 + F 16 3 + F 16 4 + F 16 5 + (F 16 6 + z) + F 16 7 + F 16 8 + F 15 1 - F 15 3 = _
    unfold ac
    omega
  · show F 16 1 + F 16 2 + F 16 3 + F 16 4 + F 16 5 + F 16 6 + (F 16 7 + z) + F 16 8 + F 15 1 - F 15 3 = _
    unfold ac
    omega
  · show F 16 1 + F 16 2 + F 16 3 + F 16 4 + F 16 5 + F 16 6 + F 16 7 + (F 16 8 + z) + F 15 1 - F 15 3 = _
    unfold ac
    omega
theorem p_un {c z : Int} (hc8 : 1 ≤ c ∧ c ≤ 8) {S : xSt} {r : Nat} : f_X9_addUnused_p1_14 (sR S r F) r c z = some (sR S r (uF F 16 c.toNat (F 16 c.toNat + z))) := by
  unfold f_X9_addUnused_p1_14
  simp (disch := omega) only [lt1_e, sR_g, sR_w, wr_e, ckI_e]
  rw [if_neg (by omega), if_neg (by omega)]
theorem p_un0 {z : Int} {S : xSt} {r : Nat} : f_X9_addUnused_p1_14 (sR S r F) r 0 z = some (sR S r F) := by
  unfold f_X9_addUnused_p1_14
  simp (disch := omega) only [wr_e]
  rw [if_pos (by decide)]
theorem p_lu (hR : PR π) (hF : FI π B F) {L x2 x3 x4 k v ops c : Int} (h4 : 0 ≤ x4) (h4L : x4 < L) (hL : 1 ≤ L ∧ L ≤ 6) (c3 : x3 = 0) (hk : 0 ≤ k ∧ k + v < π 0 10) (hv : v = 0 ∨ v = 1) (hev : ∀ S r q, CC S r q π → f_X0_nextNumber_p1_0 (sR S r F) r = some (k, sR S r F) ∧ f_X0_isFused_p1_0 (sR S r F) r k = some (v, sR S r F)) (hops : ∀ S r q, CC S r q π → f_X0_opsOfUnit_p1_0 (sR S r F) r k (k + v) = some (ops, sR S r F)) (hst : ∀ S r q, CC S r q π → f_X0_causeOfStop_p1_0 (sR S r F) r x4 ops = some (c, sR S r F)) {S : xSt} {r q f : Nat} (hC : CC S r q π) : f_X0_decodeLanes_p1_0_b33 r (f + 1) (sR S r F) L x2 x3 x4 = f_X0_decodeLanes_p1_0_b106 (f_X0_decodeLanes_p1_0_b33 r f) r (sR S r F) L x2 x4 k (k + v) ops c := by
  have p0 := pr_n hR
  rw [f_X0_decodeLanes_p1_0_b33]
  simp (disch := omega) only [lt1_e, bd_e, bd2_e, sR_g, sR_w, sR_a, sR_s, cc_p hC, cc_q hC, ckI_e, wr_e, ite_not, uF_e, uF_o, uF_k, uG_e, uG_o]
  rw [if_neg (by omega), if_pos c3, (hev S r q hC).1, bd2_e]
  simp (disch := omega) only [lt1_e, bd_e, bd2_e, sR_g, sR_w, sR_a, sR_s, cc_p hC, cc_q hC, ckI_e, wr_e, ite_not, uF_e, uF_o, uF_k, uG_e, uG_o]
  rw [if_neg (by omega), (hev S r q hC).2, bd2_e]
  have h73 : f_X0_decodeLanes_p1_0_b73 (f_X0_decodeLanes_p1_0_b33 r f) r (sR S r F) L x2 x4 k (k + v) = f_X0_decodeLanes_p1_0_b106 (f_X0_decodeLanes_p1_0_b33 r f) r (sR S r F) L x2 x4 k (k + v) ops c := by
    unfold f_X0_decodeLanes_p1_0_b73
    rw [hops S r q hC, bd2_e]
    simp (disch := omega) only [lt1_e, bd_e, bd2_e, sR_g, sR_w, sR_a, sR_s, cc_p hC, cc_q hC, ckI_e, wr_e, ite_not, uF_e, uF_o, uF_k, uG_e, uG_o]
    rw [if_neg (by omega), hst S r q hC, bd2_e]
  simp (disch := omega) only [lt1_e, bd_e, bd2_e, sR_g, sR_w, sR_a, sR_s, cc_p hC, cc_q hC, ckI_e, wr_e, ite_not, uF_e, uF_o, uF_k, uG_e, uG_o]
  rcases hv with hv | hv
  · rw [if_pos hv]
    unfold f_X0_decodeLanes_p1_0_b71
    rw [hv, Int.add_zero] at h73
    rw [h73, hv, Int.add_zero]
  · rw [if_neg (by omega)]
    rw [hv] at h73
    rw [h73, hv]
theorem p_ln (hR : PR π) (hF : FI π B F) {L x2 x3 x4 c : Int} (h4 : 0 ≤ x4) (h4L : x4 < L) (hL : 1 ≤ L ∧ L ≤ 6) (c3 : x3 = 0) (h0 : ¬ (F 8 0 = 1 ∨ 0 < F 5 2)) (hnt : ∀ S r q, CC S r q π → f_X0_causeOfNothing_p1_0 (sR S r F) r = some (c, sR S r F)) {S : xSt} {r q f : Nat} (hC : CC S r q π) : f_X0_decodeLanes_p1_0_b33 r (f + 1) (sR S r F) L x2 x3 x4 = f_X0_decodeLanes_p1_0_b106 (f_X0_decodeLanes_p1_0_b33 r f) r (sR S r F) L x2 x4 (-1) (-1) 0 c := by
  obtain ⟨hr, -⟩ := id hF
  obtain ⟨r0, r1, r2, r3, r4, r5, r6, r7, r8, r9, r10, r11, r12, r13, r14, r15, r16, r17⟩ := id hr
  have e1 : f_X0_nextNumber_p1_0 (sR S r F) r = some (-1, sR S r F) := by
    unfold f_X0_nextNumber_p1_0
    simp (disch := omega) only [lt1_e, bd_e, bd2_e, sR_g, sR_w, sR_a, sR_s, cc_p hC, cc_q hC, ckI_e, wr_e, ite_not, uF_e, uF_o, uF_k, uG_e, uG_o]
    rw [if_pos (by omega), if_pos (by omega)]
  have e2 : f_X0_opsOfUnit_p1_0 (sR S r F) r (-1) (-1) = some (0, sR S r F) := by
    unfold f_X0_opsOfUnit_p1_0
    rw [if_pos (by decide)]
  have e3 : wr (-1) = -1 := rfl
  rw [f_X0_decodeLanes_p1_0_b33, wr_e (z := L) (by omega), wr_e (z := x4) (by omega), if_neg (by omega), c3, if_neg (show ¬ ¬ wr 0 = 0 from fun z => z rfl), e1, bd2_e, if_pos rfl]
  unfold f_X0_decodeLanes_p1_0_b71 f_X0_decodeLanes_p1_0_b73
  rw [e2, bd2_e, if_neg (fun z => z rfl), hnt S r q hC, bd2_e]
theorem p_lanes (hR : PR π) {L : Int} (hL : 1 ≤ L ∧ L ≤ 6) : ∀ (d : Nat) (F : xR) (B x2 x3 x4 : Int), FI π B F → B + 30 * d + 10 ≤ 60000000 → 0 ≤ x4 → x4 + d = L → 0 ≤ x2 → x2 ≤ x4 → 0 ≤ x3 → x3 ≤ 8 → (x3 = 0 → x2 = x4) → ∃ F', (∀ S r q f, CC S r q π → d < f → f_X0_decodeLanes_p1_0_b33 r f (sR S r F) L x2 x3 x4 = some (sR S r F')) ∧ FI π (B + 30 * d + 10) F' ∧ F' 1 = F 1 ∧ F' 15 0 = F 15 0 ∧ F 15 1 ≤ F' 15 1 ∧ F' 15 1 ≤ F 15 1 + 2 * d ∧ ac F' = ac F + (L - x2) := by
  intro d
  induction d with
  | zero =>
    intro F B x2 x3 x4 hF hB h4 h4d h2 h24 h3 h38 h30
    by_cases c3 : x3 = 0
    · refine ⟨F, fun S r q f hC hf => ?_, fi_mono hF (by omega), rfl, rfl, by omega, by omega, by have := h30 c3; omega⟩
      obtain ⟨f, rfl⟩ := fs_e (show 0 < f by omega)
      rw [f_X0_decodeLanes_p1_0_b33]
      unfold f_X0_decodeLanes_p1_0_b141
      simp (disch := omega) only [lt1_e, bd_e, bd2_e, sR_g, sR_w, sR_a, sR_s, cc_p hC, cc_q hC, ckI_e, wr_e, ite_not, uF_e, uF_o, uF_k, uG_e, uG_o]
      rw [if_pos (by omega), c3, p_un0, bd_e]
    · refine ⟨_, fun S r q f hC hf => ?_, fi_mono (un_fi hF (c := x3) (z := L - x2) (by omega) (by omega)) (by omega), rfl, rfl, Int.le_refl _, (by show F 15 1 ≤ _; omega), un_ac (by omega)⟩
      obtain ⟨f, rfl⟩ := fs_e (show 0 < f by omega)
      rw [f_X0_decodeLanes_p1_0_b33]
      unfold f_X0_decodeLanes_p1_0_b141
      simp (disch := omega) only [lt1_e, bd_e, bd2_e, sR_g, sR_w, sR_a, sR_s, cc_p hC, cc_q hC, ckI_e, wr_e, ite_not, uF_e, uF_o, uF_k, uG_e, uG_o]
      rw [if_pos (by omega), p_un (by omega), bd_e]
  | succ d ih =>
    intro F B x2 x3 x4 hF hB h4 h4d h2 h24 h3 h38 h30
    by_cases c3 : x3 = 0
    · have e2 := h30 c3
      obtain ⟨hr, -⟩ := id hF
      obtain ⟨r0, r1, r2, r3, r4, r5, r6, r7, r8, r9, r10, r11, r12, r13, r14, r15, r16, r17⟩ := id hr
      have p0 := pr_n hR
      by_cases h0 : F 8 0 = 1 ∨ 0 < F 5 2
      · obtain ⟨k, v, hk, hv, ek, hv7, hQ, hLo, hev⟩ := p_unit hR hF h0
        obtain ⟨ops, ho, hops⟩ := p_opsU (F := F) hR hk hv
        obtain ⟨c, hc, hc0, hst⟩ := p_stop (lane := x4) (ops := ops) hR hF (by omega) ho
        have hbr := fun S r q f hC => p_lu (S := S) (r := r) (q := q) (f := f) (x2 := x2) hR hF h4 (show x4 < L by omega) hL c3 hk hv hev hops hst hC
        by_cases cc : c = 0
        · obtain ⟨c', p, H, F1, g1, g2, g3, k1, k2, k3, k4, k5⟩ := p_dun hR hF (by omega) h0 hk hv ek hv7 hQ ho (hc0 cc)
          obtain ⟨F', i1, i2, j1, j2, j3, j4, j5⟩ := ih F1 (B + 20) (x2 + 1) c' (x4 + 1) g3 (by omega) (by omega) (by omega) (by omega) (by omega) (by omega) (by omega) (fun _ => by omega)
          refine ⟨F', fun S r q f hC hf => ?_, fi_mono i2 (by omega), j1.trans k1, j2.trans k2, by omega, by omega, ?_⟩
          · obtain ⟨f, rfl⟩ := fs_e (show 0 < f by omega)
            rw [hbr S r q f hC]
            unfold f_X0_decodeLanes_p1_0_b106
            simp (disch := omega) only [lt1_e, bd_e, bd2_e, sR_g, sR_w, sR_a, sR_s, cc_p hC, cc_q hC, ckI_e, wr_e, ite_not, uF_e, uF_o, uF_k, uG_e, uG_o]
            rw [if_pos cc, (g2 S r q hC).1, bd2_e, (g2 S r q hC).2, bd2_e]
            exact i1 S r q f hC (by omega)
          · have : ac F1 = ac F + 1 := by
              unfold ac
              rw [k5, k3, k4]
              omega
            omega
        · obtain ⟨F', i1, i2, j1, j2, j3, j4, j5⟩ := ih F B x2 c (x4 + 1) hF (by omega) (by omega) (by omega) (by omega) (by omega) (by omega) (by omega) (fun z => absurd z cc)
          refine ⟨F', fun S r q f hC hf => ?_, fi_mono i2 (by omega), j1, j2, by omega, by omega, j5⟩
          obtain ⟨f, rfl⟩ := fs_e (show 0 < f by omega)
          rw [hbr S r q f hC]
          unfold f_X0_decodeLanes_p1_0_b106
          simp (disch := omega) only [lt1_e, bd_e, bd2_e, sR_g, sR_w, sR_a, sR_s, cc_p hC, cc_q hC, ckI_e, wr_e, ite_not, uF_e, uF_o, uF_k, uG_e, uG_o]
          rw [if_neg cc]
          exact i1 S r q f hC (by omega)
      · obtain ⟨c, hc, hnt⟩ := p_noth hR hF
        obtain ⟨F', i1, i2, j1, j2, j3, j4, j5⟩ := ih F B x2 c (x4 + 1) hF (by omega) (by omega) (by omega) (by omega) (by omega) (by omega) (by omega) (fun z => by omega)
        refine ⟨F', fun S r q f hC hf => ?_, fi_mono i2 (by omega), j1, j2, by omega, by omega, j5⟩
        obtain ⟨f, rfl⟩ := fs_e (show 0 < f by omega)
        rw [p_ln hR hF h4 (show x4 < L by omega) hL c3 h0 hnt hC]
        unfold f_X0_decodeLanes_p1_0_b106
        simp (disch := omega) only [lt1_e, bd_e, bd2_e, sR_g, sR_w, sR_a, sR_s, cc_p hC, cc_q hC, ckI_e, wr_e, ite_not, uF_e, uF_o, uF_k, uG_e, uG_o]
        rw [if_neg (by omega)]
        exact i1 S r q f hC (by omega)
    · refine ⟨_, fun S r q f hC hf => ?_, fi_mono (un_fi hF (c := x3) (z := L - x2) (by omega) (by omega)) (by omega), rfl, rfl, Int.le_refl _, (by show F 15 1 ≤ _; omega), un_ac (by omega)⟩
      obtain ⟨f, rfl⟩ := fs_e (show 0 < f by omega)
      rw [f_X0_decodeLanes_p1_0_b33]
      unfold f_X0_decodeLanes_p1_0_b141
      simp (disch := omega) only [lt1_e, bd_e, bd2_e, sR_g, sR_w, sR_a, sR_s, cc_p hC, cc_q hC, ckI_e, wr_e, ite_not, uF_e, uF_o, uF_k, uG_e, uG_o]
      rw [if_neg (by omega), if_neg c3, p_un (by omega), bd_e]
end C12
