/-! mathematics: the unit that is next -/
section C2
variable {S T : xSt} {r q M : Nat} {π μ F : xR} {N : Nat → Int} {B e w o : Int}

theorem p_rep (hC : CT S r q T M π μ) (hF : RF π B e w o F N) : f_X12_isReplayed_p4_0 (wA T M 6 N) M = some (F 8 0, wA T M 6 N) := by
  have e11 := hF.1.2.2.2.2.2.2.2.2.2.2.2.1
  have r10 := hF.2.1.2.2.2.2.2.2.2.2.2.2.1
  unfold f_X12_isReplayed_p4_0
  simp (disch := omega) only [lt1_e, bd_e, bd2_e, sR_g, sR_w, sR_a, sR_s, wN_g, wN_w, wN_s, ct_p hC, ct_q hC, ct_m hC, ckI_e, wr_e, ite_not, uF_e, uF_o, uF_k, uG_e, uG_o, uN_e, uN_k, e11]
  by_cases c : F 8 0 = 1
  · rw [if_pos c, c]
  · rw [if_neg c, show F 8 0 = 0 by omega]
theorem p_ops (hC : CT S r q T M π μ) {k : Int} (hk : 0 ≤ k ∧ k < π 0 10) : (1 ≤ π 10 k.toNat ∧ π 10 k.toNat ≤ 4) ∧ f_X12_opsOf_p4_0 (wA T M 6 N) M k = some (π 10 k.toNat, wA T M 6 N) := by
  have p0 := pr_n (ct_R hC)
  have hk1 : (k.toNat : Int) < π 0 10 := by omega
  have g1 := pr_k (ct_R hC) hk1
  have a1 := (pm_k (ct_M hC) hk1).1
  have g10 := g1.2.2.2.2.2.1
  have gr := g1.1
  refine ⟨?_, ?_⟩
  · rw [g10]
    exact tb1_r _ (by omega)
  · unfold f_X12_opsOf_p4_0
    simp (disch := omega) only [lt1_e, bd_e, bd2_e, sR_g, sR_w, sR_a, sR_s, wN_g, wN_w, wN_s, ct_p hC, ct_q hC, ct_m hC, ckI_e, wr_e, ite_not, uF_e, uF_o, uF_k, uG_e, uG_o, uN_e, uN_k, a1]
    rw [g10, tb71]
theorem p_nextc (hC : CT S r q T M π μ) (hF : RF π B e w o F N) (h0 : F 8 0 = 0 → 0 < F 5 2) : f_X0_nextNumber_p1_0 (sR S r F) r = some (if F 8 0 = 0 then F 6 0 else F 8 3, sR S r F) ∧ f_X12_head_p4_0 (wA T M 6 N) M = some (if F 8 0 = 0 then F 6 0 else F 8 3, wA T M 6 N) := by
  have hrep := p_rep hC hF
  have e34 := hF.1.2.2.2.2.2.2.2.2.2.2.2.2.2.2.2.2.2.2.2.2.2.2.1
  have r10 := hF.2.1.2.2.2.2.2.2.2.2.2.2.1
  have r14 := hF.2.1.2.2.2.2.2.2.2.2.2.2.2.2.2.2
  have p3 := (ct_R hC).2.2.2.1
  have hq := hF.2.2.2.2.1
  have hl := hF.2.2.2.2.2.2.2.2.2.1
  unfold f_X0_nextNumber_p1_0 f_X12_head_p4_0
  rw [hrep]
  simp (disch := omega) only [lt1_e, bd_e, bd2_e, sR_g, sR_w, sR_a, sR_s, wN_g, wN_w, wN_s, ct_p hC, ct_q hC, ct_m hC, ckI_e, wr_e, ite_not, uF_e, uF_o, uF_k, uG_e, uG_o, uN_e, uN_k, e34]
  by_cases c : F 8 0 = 0
  · have q0 := (hq 0 (by have := h0 c; omega)).1
    rw [if_pos c, if_pos c, if_pos c, if_neg (by have := h0 c; omega)]
    exact ⟨rfl, by rw [← q0]⟩
  · have l0 := (hl (by omega)).2.2.1
    rw [if_neg c, if_neg c, if_neg c]
    exact ⟨rfl, by rw [l0]⟩
theorem p_opsU (hC : CT S r q T M π μ) {k l : Int} (hk : 0 ≤ k) (hkl : k ≤ l) (hl : l < π 0 10) : f_X0_opsOfUnit_p1_0 (sR S r F) r k l = some (if l ≤ k then π 10 k.toNat else π 10 k.toNat + π 10 l.toNat - 1, sR S r F) := by
  have p0 := pr_n (ct_R hC)
  unfold f_X0_opsOfUnit_p1_0
  simp (disch := omega) only [lt1_e, bd_e, bd2_e, sR_g, sR_w, sR_a, sR_s, wN_g, wN_w, wN_s, ct_p hC, ct_q hC, ct_m hC, ckI_e, wr_e, ite_not, uF_e, uF_o, uF_k, uG_e, uG_o, uN_e, uN_k]
  rw [if_neg (by omega), if_neg (by omega), if_pos hl]
  by_cases c : l ≤ k
  · rw [if_pos c, if_pos c]
  · rw [if_neg c, if_neg c]
/-- the unit that is next, on both sides -/
theorem p_unit (hC : CT S r q T M π μ) (hF : RF π B e w o F N) (hn : F 8 0 = 1 → F 8 3 ≤ F 8 2) (h0 : F 8 0 = 0 → 0 < F 5 2) :
    ∃ k v, (0 ≤ k ∧ k < π 0 10) ∧ (v = 0 ∨ v = 1) ∧ (v = 1 → k + 1 < π 0 10) ∧ (F 8 0 = 1 → k = F 8 3 ∧ k + v ≤ F 8 2) ∧ (F 8 0 = 0 → k = F 6 0 ∧ v + 1 ≤ F 5 2 ∧ (v = 1 → F 6 1 = k + 1)) ∧
      f_X0_nextNumber_p1_0 (sR S r F) r = some (k, sR S r F) ∧ f_X0_isFused_p1_0 (sR S r F) r k = some (v, sR S r F) ∧ f_X12_head_p4_0 (wA T M 6 N) M = some (k, wA T M 6 N) ∧ f_X12_isHeadFused_p4_0 (wA T M 6 N) M = some (v, wA T M 6 N) := by
  have hrep := p_rep hC hF
  obtain ⟨n1, n2⟩ := p_nextc hC hF h0
  have p0 := (ct_R hC).1
  have p3 := (ct_R hC).2.2.2.1
  have e42 := hF.1.2.2.2.2.2.2.2.2.2.2.2.2.2.2.2.2.2.2.2.2.2.2.2.1
  have r10 := hF.2.1.2.2.2.2.2.2.2.2.2.2.1
  have r14 := hF.2.1.2.2.2.2.2.2.2.2.2.2.2.2.2.2
  have hq := hF.2.2.2.2.1
  have hl := hF.2.2.2.2.2.2.2.2.2.1
  refine ⟨if F 8 0 = 0 then F 6 0 else F 8 3, ?_⟩
  by_cases c : F 8 0 = 0
  · rw [if_pos c] at n1 n2 ⊢
    have h00 := h0 c
    obtain ⟨q0, -, qr, -⟩ := hq 0 (by omega)
    obtain ⟨v, hv, hv1, i1, i2⟩ := p_fuse hC hF qr
    by_cases d : 1 < F 5 2
    · obtain ⟨q1, -, -, -⟩ := hq 1 (by omega)
      have q1' : N 44 = F 6 1 := q1
      have qr1 := (hq 1 (by omega)).2.2.1
      by_cases d2 : F 6 1 = F 6 0 + 1
      · refine ⟨v, qr, hv, hv1, fun h => absurd h (by omega), fun _ => ⟨rfl, by omega, fun _ => d2⟩, n1, ?_, n2, ?_⟩
        · unfold f_X0_isFused_p1_0 f_X0_isFused_p1_0_b60 f_X0_isFused_p1_0_b59 f_X0_isFused_p1_0_b60
          simp (disch := omega) only [lt1_e, bd_e, bd2_e, sR_g, sR_w, sR_a, sR_s, wN_g, wN_w, wN_s, ct_p hC, ct_q hC, ct_m hC, ckI_e, wr_e, ite_not, uF_e, uF_o, uF_k, uG_e, uG_o, uN_e, uN_k, i1]
          rw [if_pos c, if_neg (by omega), if_pos d2, if_neg (by decide)]
          rcases hv with rfl | rfl
          · rfl
          · rfl
        · unfold f_X12_isHeadFused_p4_0 f_X12_isHeadFused_p4_0_b60 f_X12_isHeadFused_p4_0_b59 f_X12_isHeadFused_p4_0_b60
          rw [n2]
          simp only [bd2_e]
          rw [hrep]
          simp (disch := omega) only [lt1_e, bd_e, bd2_e, sR_g, sR_w, sR_a, sR_s, wN_g, wN_w, wN_s, ct_p hC, ct_q hC, ct_m hC, ckI_e, wr_e, ite_not, uF_e, uF_o, uF_k, uG_e, uG_o, uN_e, uN_k, i2, e42, q1']
          rw [if_pos c, if_neg (by omega), if_pos d2, if_neg (by decide)]
          rcases hv with rfl | rfl
          · rfl
          · rfl
      · refine ⟨0, qr, Or.inl rfl, fun h => absurd h (by decide), fun h => absurd h (by omega), fun _ => ⟨rfl, by omega, fun h => absurd h (by decide)⟩, n1, ?_, n2, ?_⟩
        · unfold f_X0_isFused_p1_0 f_X0_isFused_p1_0_b60 f_X0_isFused_p1_0_b59 f_X0_isFused_p1_0_b60
          simp (disch := omega) only [lt1_e, bd_e, bd2_e, sR_g, sR_w, sR_a, sR_s, wN_g, wN_w, wN_s, ct_p hC, ct_q hC, ct_m hC, ckI_e, wr_e, ite_not, uF_e, uF_o, uF_k, uG_e, uG_o, uN_e, uN_k, i1]
          rw [if_pos c, if_neg (by omega), if_neg d2]
          rfl
        · unfold f_X12_isHeadFused_p4_0 f_X12_isHeadFused_p4_0_b60 f_X12_isHeadFused_p4_0_b59 f_X12_isHeadFused_p4_0_b60
          rw [n2]
          simp only [bd2_e]
          rw [hrep]
          simp (disch := omega) only [lt1_e, bd_e, bd2_e, sR_g, sR_w, sR_a, sR_s, wN_g, wN_w, wN_s, ct_p hC, ct_q hC, ct_m hC, ckI_e, wr_e, ite_not, uF_e, uF_o, uF_k, uG_e, uG_o, uN_e, uN_k, i2, e42, q1']
          rw [if_pos c, if_neg (by omega), if_neg d2]
          rfl
    · refine ⟨0, qr, Or.inl rfl, fun h => absurd h (by decide), fun h => absurd h (by omega), fun _ => ⟨rfl, by omega, fun h => absurd h (by decide)⟩, n1, ?_, n2, ?_⟩
      · unfold f_X0_isFused_p1_0 f_X0_isFused_p1_0_b60 f_X0_isFused_p1_0_b59 f_X0_isFused_p1_0_b60
        simp (disch := omega) only [lt1_e, bd_e, bd2_e, sR_g, sR_w, sR_a, sR_s, wN_g, wN_w, wN_s, ct_p hC, ct_q hC, ct_m hC, ckI_e, wr_e, ite_not, uF_e, uF_o, uF_k, uG_e, uG_o, uN_e, uN_k, i1]
        rw [if_pos c, if_pos (by omega)]
        rfl
      · unfold f_X12_isHeadFused_p4_0 f_X12_isHeadFused_p4_0_b60 f_X12_isHeadFused_p4_0_b59 f_X12_isHeadFused_p4_0_b60
        rw [n2]
        simp only [bd2_e]
        rw [hrep]
        simp (disch := omega) only [lt1_e, bd_e, bd2_e, sR_g, sR_w, sR_a, sR_s, wN_g, wN_w, wN_s, ct_p hC, ct_q hC, ct_m hC, ckI_e, wr_e, ite_not, uF_e, uF_o, uF_k, uG_e, uG_o, uN_e, uN_k, i2, e42]
        rw [if_pos c, if_pos (by omega)]
        rfl
  · rw [if_neg c] at n1 n2 ⊢
    have c1 : F 8 0 = 1 := by omega
    have hn1 := hn c1
    obtain ⟨l1, l2, l3, l4, l5, l6, l7, l8, l9, l10⟩ := hl c1
    obtain ⟨v, hv, hv1, i1, i2⟩ := p_fuse hC hF (show 0 ≤ F 8 3 ∧ F 8 3 < π 0 10 by omega)
    by_cases d : F 8 2 ≤ F 8 3
    · refine ⟨0, by omega, Or.inl rfl, fun h => absurd h (by decide), fun h => ⟨rfl, by omega⟩, fun h => absurd h c, n1, ?_, n2, ?_⟩
      · unfold f_X0_isFused_p1_0 f_X0_isFused_p1_0_b60 f_X0_isFused_p1_0_b59 f_X0_isFused_p1_0_b60
        simp (disch := omega) only [lt1_e, bd_e, bd2_e, sR_g, sR_w, sR_a, sR_s, wN_g, wN_w, wN_s, ct_p hC, ct_q hC, ct_m hC, ckI_e, wr_e, ite_not, uF_e, uF_o, uF_k, uG_e, uG_o, uN_e, uN_k, i1]
        rw [if_neg c, if_pos d]
        rfl
      · unfold f_X12_isHeadFused_p4_0 f_X12_isHeadFused_p4_0_b60 f_X12_isHeadFused_p4_0_b59 f_X12_isHeadFused_p4_0_b60
        rw [n2]
        simp only [bd2_e]
        rw [hrep]
        simp (disch := omega) only [lt1_e, bd_e, bd2_e, sR_g, sR_w, sR_a, sR_s, wN_g, wN_w, wN_s, ct_p hC, ct_q hC, ct_m hC, ckI_e, wr_e, ite_not, uF_e, uF_o, uF_k, uG_e, uG_o, uN_e, uN_k, i2, e42, l2]
        rw [if_neg c, if_pos d]
        rfl
    · refine ⟨v, by omega, hv, hv1, fun h => ⟨rfl, by omega⟩, fun h => absurd h c, n1, ?_, n2, ?_⟩
      · unfold f_X0_isFused_p1_0 f_X0_isFused_p1_0_b60 f_X0_isFused_p1_0_b59 f_X0_isFused_p1_0_b60
        simp (disch := omega) only [lt1_e, bd_e, bd2_e, sR_g, sR_w, sR_a, sR_s, wN_g, wN_w, wN_s, ct_p hC, ct_q hC, ct_m hC, ckI_e, wr_e, ite_not, uF_e, uF_o, uF_k, uG_e, uG_o, uN_e, uN_k, i1]
        rw [if_neg c, if_neg d, if_neg (by decide)]
        rcases hv with rfl | rfl
        · rfl
        · rfl
      · unfold f_X12_isHeadFused_p4_0 f_X12_isHeadFused_p4_0_b60 f_X12_isHeadFused_p4_0_b59 f_X12_isHeadFused_p4_0_b60
        rw [n2]
        simp only [bd2_e]
        rw [hrep]
        simp (disch := omega) only [lt1_e, bd_e, bd2_e, sR_g, sR_w, sR_a, sR_s, wN_g, wN_w, wN_s, ct_p hC, ct_q hC, ct_m hC, ckI_e, wr_e, ite_not, uF_e, uF_o, uF_k, uG_e, uG_o, uN_e, uN_k, i2, e42, l2]
        rw [if_neg c, if_neg d, if_neg (by decide)]
        rcases hv with rfl | rfl
        · rfl
        · rfl
theorem p_noth (hC : CT S r q T M π μ) (hF : RF π B e w o F N) : ∃ c, (c = 1 ∨ c = 2 ∨ c = 3 ∨ c = 8) ∧ f_X0_causeOfNothing_p1_0 (sR S r F) r = some (c, sR S r F) ∧ f_X12_causeOfEmpty_p4_0 (wA T M 6 N) M = some (c, wA T M 6 N) := by
  have p0 := (ct_R hC).1
  have m1 := (ct_M hC).1
  have e3 := hF.1.2.2.2.1
  have e9 := hF.1.2.2.2.2.2.2.2.2.2.1
  have e10 := hF.1.2.2.2.2.2.2.2.2.2.2.1
  have r3 := hF.2.1.2.2.2.1
  have r5 := hF.2.1.2.2.2.2.2.1
  have r9 := hF.2.1.2.2.2.2.2.2.2.2.2.1
  unfold f_X0_causeOfNothing_p1_0 f_X12_causeOfEmpty_p4_0
  simp (disch := omega) only [lt1_e, bd_e, bd2_e, sR_g, sR_w, sR_a, sR_s, wN_g, wN_w, wN_s, ct_p hC, ct_q hC, ct_m hC, ckI_e, wr_e, ite_not, uF_e, uF_o, uF_k, uG_e, uG_o, uN_e, uN_k, e3, e9, e10, m1]
  by_cases c : F 0 10 < π 0 10
  · rw [if_pos c, if_neg (show ¬ F 0 10 = π 0 10 by omega)]
    by_cases c2 : F 0 16 ≤ 0
    · rw [if_pos c2, if_pos c2]
      by_cases c3 : F 0 13 = 0
      · rw [if_pos c3, if_neg (show ¬ F 0 13 = 1 by omega)]
        exact ⟨1, by decide, rfl, rfl⟩
      · rw [if_neg c3, if_pos (show F 0 13 = 1 by omega)]
        exact ⟨2, by decide, rfl, rfl⟩
    · rw [if_neg c2, if_neg c2]
      exact ⟨3, by decide, rfl, rfl⟩
  · rw [if_neg c, if_pos (show F 0 10 = π 0 10 by omega)]
    exact ⟨8, by decide, rfl, rfl⟩
end C2
/-! the queue loses its first -/
theorem uF_G {F : xR} {o k : Nat} {z : Int} : uF F o k z = uG F o (uN (F o) k z) := by
  funext o' k'
  show (if o' = o ∧ k' = k then z else F o' k') = if o' = o then (if k' = k then z else F o k') else F o' k'
  by_cases h : o' = o
  · subst h
    by_cases h2 : k' = k
    · rw [if_pos ⟨rfl, h2⟩, if_pos rfl, if_pos h2]
    · rw [if_neg (fun y => h2 y.2), if_pos rfl, if_neg h2]
  · rw [if_neg (fun y => h y.1), if_neg h]
theorem uG_G {F : xR} {o : Nat} {f g : Nat → Int} : uG (uG F o f) o g = uG F o g := by
  funext o' k'
  show (if o' = o then g k' else if o' = o then f k' else F o' k') = if o' = o then g k' else F o' k'
  by_cases h : o' = o
  · rw [if_pos h, if_pos h]
  · rw [if_neg h, if_neg h, if_neg h]
theorem uG_c {F : xR} {o o2 : Nat} {f g : Nat → Int} (ho : o ≠ o2) : uG (uG F o f) o2 g = uG (uG F o2 g) o f := by
  funext o' k'
  show (if o' = o2 then g k' else if o' = o then f k' else F o' k') = if o' = o then f k' else if o' = o2 then g k' else F o' k'
  by_cases h : o' = o
  · rw [if_neg (fun y => ho (h.symm.trans y)), if_pos h, if_pos h]
  · rw [if_neg h, if_neg h]
theorem uG_f {F : xR} {o : Nat} {f : Nat → Int} : (uG F o f) o = f := by
  funext k
  exact if_pos rfl
theorem uG_h {F : xR} {o o' : Nat} {f : Nat → Int} (h : o' ≠ o) : (uG F o f) o' = F o' := by
  funext k
  exact if_neg h
theorem uG_i {F : xR} {o : Nat} : uG F o (F o) = F := by
  funext o' k'
  show (if o' = o then F o k' else F o' k') = F o' k'
  by_cases h : o' = o
  · rw [if_pos h, h]
  · rw [if_neg h]
theorem uF_i {F : xR} {o k : Nat} : uF F o k (F o k) = F := by
  funext o' k'
  show (if o' = o ∧ k' = k then F o k else F o' k') = F o' k'
  by_cases h : o' = o ∧ k' = k
  · rw [if_pos h, h.1, h.2]
  · rw [if_neg h]
section C3
variable {S T : xSt} {r q M : Nat} {π μ F : xR} {N : Nat → Int} {B e w o : Int}

theorem p_drop_b : ∀ (d : Nat) (x : Int) (f1 : Nat) (g h : Nat → Int), 1 ≤ x → x + d = F 5 2 → F 5 2 ≤ 20 → d < f1 → (∀ j : Nat, (j : Int) + 1 < x → g j = F 6 (j + 1) ∧ h j = F 7 (j + 1)) → (∀ j : Nat, x ≤ (j : Int) + 1 → g j = F 6 j ∧ h j = F 7 j) → (∀ j : Nat, (j : Int) < F 5 2 → F 7 j = 0 ∨ F 7 j = 1) →
    ∃ g' h', f_X6_dropFirst_p1_5_b2 r f1 (sR S r (uG (uG F 6 g) 7 h)) x = some (sR S r (uF (uG (uG F 6 g') 7 h') 5 2 (F 5 2 - 1))) ∧ ∀ j : Nat, (j : Int) + 1 < F 5 2 → g' j = F 6 (j + 1) ∧ h' j = F 7 (j + 1) := by
  intro d
  induction d with
  | zero =>
    intro x f1 g h hx hd h20 hf h1 h2 h7
    obtain ⟨f1, rfl⟩ := fs_e (show 0 < f1 by omega)
    refine ⟨g, h, ?_, fun j hj => h1 j (by omega)⟩
    rw [f_X6_dropFirst_p1_5_b2]
    simp (disch := omega) only [sR_g, sR_w, lt1_e, uG_o, uG_e, wr_e, iMax]
    rw [if_pos (by omega), if_neg (by omega)]
  | succ d ih =>
    intro x f1 g h hx hd h20 hf h1 h2 h7
    obtain ⟨f1, rfl⟩ := fs_e (show 0 < f1 by omega)
    have a1 := (h2 x.toNat (by omega)).1
    have a2 := (h2 x.toNat (by omega)).2
    have a3 := h7 x.toNat (by omega)
    rw [f_X6_dropFirst_p1_5_b2]
    simp (disch := omega) only [sR_g, sR_w, lt1_e, uG_o, uG_e, wr_e, iMax, ckI_e, uF_o, a1, a2, ckB_e]
    rw [if_neg (by omega)]
    have e1 : uF (uF (uG (uG F 6 g) 7 h) 6 (x - 1).toNat (F 6 x.toNat)) 7 (x - 1).toNat (F 7 x.toNat) = uG (uG F 6 (uN g (x - 1).toNat (F 6 x.toNat))) 7 (uN h (x - 1).toNat (F 7 x.toNat)) := by
      rw [uF_G, uF_G, uG_h (show 6 ≠ 7 by decide), uG_f, uG_h (show 7 ≠ 6 by decide), uG_f, uG_c (show 7 ≠ 6 by decide), uG_G, uG_G]
    rw [e1]
    refine ih (x + 1) f1 _ _ (by omega) (by omega) h20 (by omega) ?_ ?_ h7
    · intro j hj
      by_cases c : j = (x - 1).toNat
      · subst c
        rw [uN_e, uN_e, show (x - 1).toNat + 1 = x.toNat by omega]
        exact ⟨rfl, rfl⟩
      · rw [uN_k c, uN_k c]
        exact h1 j (by omega)
    · intro j hj
      rw [uN_k (by omega), uN_k (by omega)]
      exact h2 j (by omega)
theorem p_drop (hfu : 10000000 ≤ fu S) (h5 : 1 ≤ F 5 2 ∧ F 5 2 ≤ 20) (h7 : ∀ j : Nat, (j : Int) < F 5 2 → F 7 j = 0 ∨ F 7 j = 1) : ∃ g' h', f_X6_dropFirst_p1_5 (sR S r F) r = some (sR S r (uF (uG (uG F 6 g') 7 h') 5 2 (F 5 2 - 1))) ∧ ∀ j : Nat, (j : Int) + 1 < F 5 2 → g' j = F 6 (j + 1) ∧ h' j = F 7 (j + 1) := by
  have k := p_drop_b (S := S) (r := r) (F := F) (F 5 2 - 1).toNat 1 (fu S) (F 6) (F 7) (by omega) (by omega) (by omega) (by omega) (fun j hj => absurd hj (by omega)) (fun j hj => ⟨rfl, rfl⟩) h7
  rw [uG_i, uG_i] at k
  exact k
theorem p_leave_b (hs : 0 ≤ N 42 ∧ N 42 < 20) : ∀ (d : Nat) (x : Int) (f1 : Nat) (N1 : Nat → Int), 0 ≤ x → x + d = N 42 → d < f1 → (∀ j : Nat, (j : Int) < x → N1 (43 + j) = N (43 + j + 1) ∧ N1 (63 + j) = N (63 + j + 1)) → (∀ i : Nat, ((i : Int) < 43 ∨ (43 + x ≤ (i : Int) ∧ (i : Int) < 63) ∨ (63 + x ≤ (i : Int))) → N1 i = N i) →
    ∃ N2, f_X12_leavesQueue_p4_0_b18 M f1 (wA T M 6 N1) x = some (wA T M 6 N2) ∧ (∀ j : Nat, (j : Int) < N 42 → N2 (43 + j) = N (43 + j + 1) ∧ N2 (63 + j) = N (63 + j + 1)) ∧ ∀ i : Nat, (i < 43 ∨ 83 ≤ i) → N2 i = N i := by
  intro d
  induction d with
  | zero =>
    intro x f1 N1 hx hd hf h1 h2
    obtain ⟨f1, rfl⟩ := fs_e (show 0 < f1 by omega)
    refine ⟨N1, ?_, fun j hj => h1 j (by omega), fun i hi => h2 i (by omega)⟩
    have a42 := h2 42 (by omega)
    rw [f_X12_leavesQueue_p4_0_b18]
    simp (disch := omega) only [wN_g, wr_e, a42]
    rw [if_pos (by omega)]
  | succ d ih =>
    intro x f1 N1 hx hd hf h1 h2
    obtain ⟨f1, rfl⟩ := fs_e (show 0 < f1 by omega)
    have a42 := h2 42 (by omega)
    have a1 := h2 ((43 + x) + 1).toNat (by omega)
    have a2 := h2 ((63 + x) + 1).toNat (by omega)
    rw [f_X12_leavesQueue_p4_0_b18]
    simp (disch := omega) only [wN_g, wN_w, lt1_e, wr_e, a42, ckI_e, uN_k, a1, a2]
    rw [if_neg (by omega)]
    refine ih (x + 1) f1 _ (by omega) (by omega) (by omega) ?_ ?_
    · intro j hj
      by_cases c : j = x.toNat
      · subst c
        rw [show (63 + x).toNat = 63 + x.toNat by omega, show (43 + x).toNat = 43 + x.toNat by omega, uN_k (by omega), uN_e, uN_e, show ((43 + x) + 1).toNat = 43 + x.toNat + 1 by omega, show ((63 + x) + 1).toNat = 63 + x.toNat + 1 by omega]
        exact ⟨rfl, rfl⟩
      · rw [uN_k (by omega), uN_k (by omega), uN_k (by omega), uN_k (by omega)]
        exact h1 j (by omega)
    · intro i hi
      rw [uN_k (by omega), uN_k (by omega)]
      exact h2 i (by omega)
theorem p_leave (hfu : 10000000 ≤ fu T) (hs : 1 ≤ N 42 ∧ N 42 ≤ 20) : ∃ N2, f_X12_leavesQueue_p4_0 (wA T M 6 N) M = some (wA T M 6 N2) ∧ (∀ j : Nat, (j : Int) + 1 < N 42 → N2 (43 + j) = N (43 + (j + 1)) ∧ N2 (63 + j) = N (63 + (j + 1))) ∧ N2 42 = N 42 - 1 ∧ ∀ i : Nat, (i < 42 ∨ 83 ≤ i) → N2 i = N i := by
  obtain ⟨N2, h1, h2, h3⟩ := p_leave_b (T := T) (M := M) (N := uN N 42 (N 42 - 1)) (by rw [uN_e]; omega) (N 42 - 1).toNat 0 (fu T) (uN N 42 (N 42 - 1)) (by omega) (by rw [uN_e]; omega) (by omega) (fun j hj => absurd hj (by omega)) (fun i hi => rfl)
  refine ⟨N2, ?_, fun j hj => ?_, ?_, fun i hi => ?_⟩
  · unfold f_X12_leavesQueue_p4_0
    rw [wN_g, wN_w, lt1_e, wN_fu]
    exact h1
  · have k := h2 j (by rw [uN_e]; omega)
    rw [uN_k (by omega), uN_k (by omega)] at k
    exact k
  · rw [h3 42 (by omega), uN_e]
  · rw [h3 i (by omega), uN_k (by omega)]
end C3
