/-! mathematics: where a decoded jump or branch leads -/
section C6
variable {π F G : xR} {B : Int}
theorem mi_en (hR : PR π) (hM : MI π B 0 G) {ops v : Int} (ho : 1 ≤ ops ∧ ops ≤ 7) (hw : G 0 14 + ops ≤ G 1 3) (hv : v = 0 ∨ v = 1) (h3 : 2 * (G 15 3 + v) ≤ G 15 1) : MI π (B + 7) 0 (enF G ops v) := by
  obtain ⟨hr, hu, hq, ht, hd, hp, hn, hz⟩ := id hM
  obtain ⟨r0, r1, r2, r3, r4, r5, r6, r7, r8, r9, r10, r11, r12, r13, r14, r15, r16, r17⟩ := id hr
  obtain ⟨n0, n1, n2, n3, n4⟩ := id hn
  obtain ⟨p0, p1, p2, p3, p4, p5, p6, p7, p8, p9, p10⟩ := id hR
  unfold enF
  refine ⟨?_, ?_, ?_, ?_, ?_, ?_, ?_, ?_⟩
  · unfold FR
    refine ⟨?_, ?_, ?_, ?_, ?_, ?_, ?_, ?_, ?_, ?_, ?_, ?_, ?_, ?_, ?_, ?_, ?_, ?_⟩ <;> (try simp (disch := omega) only [uF_e, uF_o, uF_k, uG_e, uG_o, true_or, or_true]) <;> omega
  · intro j hj
    simp (disch := omega) only [uF_e, uF_o, uF_k, uG_e, uG_o, true_or, or_true]
    exact hu j hj
  · intro j hj
    simp (disch := omega) only [uF_e, uF_o, uF_k, uG_e, uG_o, true_or, or_true] at hj
    simp (disch := omega) only [uF_e, uF_o, uF_k, uG_e, uG_o, true_or, or_true]
    exact hq j hj
  · intro k hk
    simp (disch := omega) only [uF_e, uF_o, uF_k, uG_e, uG_o, true_or, or_true]
    exact ht k hk
  · unfold FD
    simp (disch := omega) only [uF_e, uF_o, uF_k, uG_e, uG_o, true_or, or_true]
    exact hd
  · unfold FP
    have e17 : uF (uF (uF G 0 14 (G 0 14 + ops)) 15 2 (G 15 2 + ops)) 15 3 (G 15 3 + v) 17 = G 17 := by
      funext k
      simp (disch := omega) only [uF_e, uF_o, uF_k, uG_e, uG_o, true_or, or_true]
    rw [e17]
    simp (disch := omega) only [uF_e, uF_o, uF_k, uG_e, uG_o, true_or, or_true]
    exact hp
  · refine ⟨fun k => ?_, fun k => ?_, ?_, ?_, ?_⟩
    · have a2 := n0 2
      have a3 := n0 3
      have ak := n0 k
      by_cases c3 : k = 3
      · rw [c3, uF_e]
        omega
      · rw [uF_k c3]
        by_cases c2 : k = 2
        · rw [c2, uF_e]
          omega
        · rw [uF_k c2, uF_o (by decide)]
          omega
    · simp (disch := omega) only [uF_e, uF_o, uF_k, uG_e, uG_o, true_or, or_true]
      have := n1 k
      omega
    · simp (disch := omega) only [uF_e, uF_o, uF_k, uG_e, uG_o, true_or, or_true]
      omega
    · simp (disch := omega) only [uF_e, uF_o, uF_k, uG_e, uG_o, true_or, or_true]
      omega
    · simp (disch := omega) only [uF_e, uF_o, uF_k, uG_e, uG_o, true_or, or_true]
      omega
  · exact zb_F (zb_F (zb_F hz rfl) rfl) rfl
/-- the turn of l, that it was taken, the last taken -/
def flF (π G : xR) (l : Int) (t x : Int) : xR := uF (uF (uG G 10 (gtF π (G 10) l.toNat)) 19 l.toNat t) 0 9 x
theorem fl_o {l t x : Int} {o k : Nat} (h : o ≠ 10 ∧ o ≠ 19 ∧ (o ≠ 0 ∨ k ≠ 9)) : flF π G l t x o k = G o k := by
  unfold flF
  rw [uF_x h.2.2, uF_o h.2.1, uG_o h.1]
theorem mi_fl (hR : PR π) (hM : MI π B 0 G) {l t x : Int} (hl : 0 ≤ l ∧ l < π 0 10) (h8 : 8 ≤ π 5 l.toNat) (ht2 : t = 0 ∨ t = 1) (hx : -1 ≤ x ∧ x < 60) : MI π B 0 (flF π G l t x) := by
  obtain ⟨hr, hu, hq, ht, hd, hp, hn, hz⟩ := id hM
  obtain ⟨r0, r1, r2, r3, r4, r5, r6, r7, r8, r9, r10, r11, r12, r13, r14, r15, r16, r17⟩ := id hr
  obtain ⟨n0, n1, n2, n3, n4⟩ := id hn
  obtain ⟨p0, p1, p2, p3, p4, p5, p6, p7, p8, p9, p10⟩ := id hR
  have a0 : ∀ {o k : Nat}, (o ≠ 10 ∧ o ≠ 19 ∧ (o ≠ 0 ∨ k ≠ 9)) → flF π G l t x o k = G o k := fun h => fl_o h
  have e9 : flF π G l t x 0 9 = x := by
    unfold flF
    rw [uF_e]
  refine ⟨?_, ?_, ?_, ?_, ?_, ?_, ?_, ?_⟩
  · unfold FR
    rw [a0 (o := 1) (k := 0) (by decide), a0 (o := 1) (k := 4) (by decide), a0 (o := 1) (k := 5) (by decide), a0 (o := 1) (k := 1) (by decide), a0 (o := 1) (k := 2) (by decide), a0 (o := 1) (k := 3) (by decide), a0 (o := 0) (k := 10) (by decide), a0 (o := 0) (k := 11) (by decide), a0 (o := 0) (k := 13) (by decide), a0 (o := 0) (k := 14) (by decide), a0 (o := 0) (k := 15) (by decide), a0 (o := 0) (k := 16) (by decide), a0 (o := 0) (k := 17) (by decide), a0 (o := 0) (k := 12) (by decide), e9, a0 (o := 5) (k := 2) (by decide), a0 (o := 8) (k := 0) (by decide), a0 (o := 2) (k := 2) (by decide)]
    exact ⟨r0, r1, r2, r3, r4, r5, r6, r7, r8, r9, r10, r11, r12, r13, hx, r15, r16, r17⟩
  · intro j hj
    rw [a0 (by omega), a0 (by omega)]
    exact hu j hj
  · intro j hj
    rw [a0 (by omega)] at hj
    rw [a0 (by omega), a0 (by omega)]
    exact hq j hj
  · intro k hk
    unfold flF
    rw [uF_o (by decide)]
    by_cases c : k = l.toNat
    · rw [c, uF_e]
      exact ⟨ht2, fun _ => h8⟩
    · rw [uF_k c, uG_o (by decide)]
      exact ht k hk
  · refine ⟨?_, fun k h1 h2 => ?_⟩
    · rw [a0 (by decide), a0 (by decide)]
      exact hd.1
    · rw [a0 (by omega), a0 (by decide)]
      exact hd.2 k h1 h2
  · have e17 : flF π G l t x 17 = G 17 := by
      funext k
      exact a0 (by omega)
    have e18 : flF π G l t x 18 = G 18 := by
      funext k
      exact a0 (by omega)
    unfold FP
    rw [e17, e18, a0 (o := 15) (k := 1) (by decide), a0 (o := 14) (k := 4) (by decide)]
    exact hp
  · refine ⟨fun k => ?_, fun k => ?_, ?_, ?_, ?_⟩
    · rw [a0 (by omega)]
      exact n0 k
    · rw [a0 (by omega)]
      exact n1 k
    · rw [a0 (by decide), a0 (by decide)]
      exact n2
    · rw [a0 (by decide), a0 (by decide)]
      exact n3
    · rw [a0 (by decide), a0 (by decide)]
      exact n4
  · unfold flF
    refine zb_F (zb_F (zb_G hz (fun k hk2 => ?_)) (decide_eq_true (by omega))) rfl
    have hk2' : ¬ k < 60 := of_decide_eq_false hk2
    unfold gtF
    split
    · rw [uN_k (by omega)]
      exact hz 10 k (decide_eq_false hk2')
    · exact hz 10 k (decide_eq_false hk2')
theorem gtV_c {t1 t2 : Nat → Int} {k : Nat} (h : π 5 k = 9 → t1 k = t2 k) : gtV π t1 k = gtV π t2 k := by
  unfold gtV
  split
  · rfl
  · split
    · rw [h (by assumption)]
    · rfl
theorem gtF_c {t1 t2 : Nat → Int} {k j : Nat} (h : π 5 k = 9 → t1 k = t2 k) (hj : t1 j = t2 j) : gtF π t1 k j = gtF π t2 k j := by
  unfold gtF
  split
  · rw [h (by assumption)]
    by_cases c : j = k
    · rw [c, uN_e, uN_e]
    · rw [uN_k c, uN_k c, hj]
  · exact hj
theorem p_loop (hR : PR π) (hG : 0 ≤ G 1 5 ∧ G 1 5 ≤ 30) {l : Int} (hl : 0 ≤ l ∧ l < π 0 10) (h12 : -1 ≤ π 12 l.toNat ∧ π 12 l.toNat ≤ 1000) : ∃ z : Int, (z = 0 ∨ z = 1) ∧ (z = 1 → π 12 l.toNat ≠ -1) ∧ ∀ S r q, CC S r q π → f_X0_closesLoop_p1_0 (sR S r G) r l = some (z, sR S r G) := by
  have p0 := pr_n hR
  by_cases c : π 12 l.toNat = -1
  · refine ⟨0, Or.inl rfl, fun h => absurd h (by decide), fun S r q hC => ?_⟩
    unfold f_X0_closesLoop_p1_0
    simp (disch := omega) only [lt1_e, bd_e, bd2_e, sR_g, sR_w, sR_a, sR_s, cc_p hC, cc_q hC, ckI_e, wr_e, ite_not, uF_e, uF_o, uF_k, uG_e, uG_o]
    rw [if_neg (by omega), if_pos hl.2, if_pos c]
  · by_cases c2 : G 1 5 < π 12 l.toNat
    · refine ⟨0, Or.inl rfl, fun h => absurd h (by decide), fun S r q hC => ?_⟩
      unfold f_X0_closesLoop_p1_0
      simp (disch := omega) only [lt1_e, bd_e, bd2_e, sR_g, sR_w, sR_a, sR_s, cc_p hC, cc_q hC, ckI_e, wr_e, ite_not, uF_e, uF_o, uF_k, uG_e, uG_o]
      rw [if_neg (by omega), if_pos hl.2, if_neg c, if_pos c2]
    · refine ⟨1, Or.inr rfl, fun _ => c, fun S r q hC => ?_⟩
      unfold f_X0_closesLoop_p1_0
      simp (disch := omega) only [lt1_e, bd_e, bd2_e, sR_g, sR_w, sR_a, sR_s, cc_p hC, cc_q hC, ckI_e, wr_e, ite_not, uF_e, uF_o, uF_k, uG_e, uG_o]
      rw [if_neg (by omega), if_pos hl.2, if_neg c, if_neg c2]
theorem osm_r (hR : PR π) (a : Nat) : ∀ m : Nat, (a : Int) + m ≤ π 0 10 → 0 ≤ osm π a m ∧ osm π a m ≤ 4 * m := by
  intro m
  induction m with
  | zero => intro _; exact ⟨Int.le_refl 0, Int.le_refl 0⟩
  | succ m ih =>
    intro h
    have h1 := ih (by omega)
    have h2 := p_ops hR (k := ((a + m : Nat) : Int)) (by omega)
    have e : (((a + m : Nat) : Int)).toNat = a + m := by omega
    rw [e] at h2
    show 0 ≤ osm π a m + π 10 (a + m) ∧ osm π a m + π 10 (a + m) ≤ 4 * ((m + 1 : Nat) : Int)
    omega
theorem p12_r (hR : PR π) {l : Int} (hl : 0 ≤ l ∧ l < π 0 10) : -1 ≤ π 12 l.toNat ∧ π 12 l.toNat ≤ 1000 := by
  obtain ⟨k1, k2, k3, k4, k5, k6, k7, k8, k9⟩ := pr_k hR (show (l.toNat : Int) < π 0 10 by omega)
  have p0 := pr_n hR
  by_cases c : lpk π l.toNat
  · rw [k8 c]
    have h3 := k3 c.1
    have h4 := c.2.1
    have h := osm_r hR (π 11 l.toNat).toNat (l.toNat + 1 - (π 11 l.toNat).toNat) (by omega)
    omega
  · rw [k9 c]
    decide
end C6
