/-! mathematics: the text of setup is read -/
theorem ld_eq : ldL 28 = ldL 18 ++ [32] ∧ ldL 29 = 59 :: (ldL 19 ++ [32]) ∧ ldL 30 = 59 :: (ldL 20 ++ [32]) ∧ ldL 31 = 59 :: (ldL 21 ++ [32]) ∧ ldL 32 = 59 :: (ldL 22 ++ [32]) ∧ ldL 33 = 59 :: (ldL 23 ++ [32]) ∧ ldL 34 = 59 :: (ldL 7 ++ 32 :: (ldL 13 ++ 32 :: (ldL 17 ++ 59 :: (ldL 7 ++ [32])))) ∧ ldL 43 = ldL 17 ++ 32 :: (ldL 25 ++ [32]) ∧ ldL 44 = 32 :: (ldL 27 ++ [32]) ∧ ldL 45 = ldL 16 ++ 32 :: (ldL 26 ++ [32]) ∧ ldL 46 = ldL 24 ++ 32 :: (ldL 9 ++ [59]) := by decide +kernel
theorem ld_k : ∀ k : Nat, k < 8 → ldL (35 + k) = ldL (8 + k) := by decide +kernel
/-- k statements were read -/
def STK (T : xSt) (L : List Int) (k : Nat) (H P : xR) (A2 : List Int) (H' P' : xR) : Prop := (∀ (f : Nat) (x4 : Int), 0 ≤ x4 → x4 + k ≤ (L.length : Int) + 1 → f_X3_readText_p3_2_3_1_2_0_b10 0 0 12 (f + k) (PZ T H P) x4 = f_X3_readText_p3_2_3_1_2_0_b10 0 0 12 f (PZ T H' P') (x4 + k)) ∧ TX H' L ∧ H' 2 5 = (A2.length : Int) ∧ H' 2 10 = 0 ∧ KP H H'
def HDR (π : xR) : Prop := (π 1 1 = 8 ∨ π 1 1 = 16 ∨ π 1 1 = 32) ∧ (2 ≤ π 1 2 ∧ π 1 2 ≤ 20) ∧ (4 ≤ π 1 3 ∧ π 1 3 ≤ 40) ∧ (1 ≤ π 1 0 ∧ π 1 0 ≤ 6) ∧ (1 ≤ π 1 4 ∧ π 1 4 ≤ 8) ∧ (0 ≤ π 1 5 ∧ π 1 5 ≤ 30) ∧ (0 ≤ π 2 2 ∧ π 2 2 ≤ 6) ∧ ∀ j : Nat, (j : Int) < π 2 2 → 0 ≤ π 3 j ∧ π 3 j ≤ 7 ∧ 0 ≤ π 4 j ∧ π 4 j ≤ 9
section C3D
variable {T S : xSt} {H H' H1 H2 P P' P1 P2 : xR} {L : List Int}
theorem stk_0 {A : List Int} (hX : TX H L) (h5 : H 2 5 = (A.length : Int)) (h10 : H 2 10 = 0) : STK T L 0 H P A H P := ⟨fun f x4 _ _ => by rw [Int.natCast_zero, Int.add_zero, Nat.add_zero], hX, h5, h10, ⟨fun _ _ _ _ => rfl, fun _ _ _ _ _ => rfl⟩⟩
theorem stk_s {k : Nat} {A1 A2 : List Int} (h : STK T L k H P A1 H1 P1) (h2 : STM T L H1 P1 A2 H2 P2) : STK T L (k + 1) H P A2 H2 P2 := by
  obtain ⟨a1, a2, a3, a4, a5⟩ := h
  obtain ⟨b1, b2, b3, b4, b5⟩ := h2
  refine ⟨fun f x4 h0 hx => ?_, b2, b3, b4, kp_t a5 b5⟩
  have e1 := a1 (f + 1) x4 h0 (by omega)
  have e2 := b1 f (x4 + k) (by omega) (by omega)
  rw [show f + (k + 1) = f + 1 + k by omega, e1, e2]
  exact congrArg (fun z => f_X3_readText_p3_2_3_1_2_0_b10 0 0 12 f (PZ T H2 P2) z) (by omega)
theorem al_2 {v : Int} (h : 2 ≤ v ∧ v ≤ 20) : f_X11_isAllowed S 2 v = some (1, S) := by
  have e1 : wr (tbI 2 (wr 2).toNat) = 2 := by decide +kernel
  have e2 : wr (tbI 0 (wr 2).toNat) = 20 := by decide +kernel
  unfold f_X11_isAllowed
  rw [if_neg (show ¬ wr 2 < 0 by decide), if_pos (show wr 2 < wr 6 by decide), if_pos (show ¬ wr 2 = wr 1 by decide), ckI_e (by omega), ckI_e (by omega), e1, e2, wr_e (z := v) (by omega), if_neg (by omega), if_neg (by omega)]
theorem al_3 {v : Int} (h : 4 ≤ v ∧ v ≤ 40) : f_X11_isAllowed S 3 v = some (1, S) := by
  have e1 : wr (tbI 2 (wr 3).toNat) = 4 := by decide +kernel
  have e2 : wr (tbI 0 (wr 3).toNat) = 40 := by decide +kernel
  unfold f_X11_isAllowed
  rw [if_neg (show ¬ wr 3 < 0 by decide), if_pos (show wr 3 < wr 6 by decide), if_pos (show ¬ wr 3 = wr 1 by decide), ckI_e (by omega), ckI_e (by omega), e1, e2, wr_e (z := v) (by omega), if_neg (by omega), if_neg (by omega)]
theorem al_4 {v : Int} (h : 1 ≤ v ∧ v ≤ 8) : f_X11_isAllowed S 4 v = some (1, S) := by
  have e1 : wr (tbI 2 (wr 4).toNat) = 1 := by decide +kernel
  have e2 : wr (tbI 0 (wr 4).toNat) = 8 := by decide +kernel
  unfold f_X11_isAllowed
  rw [if_neg (show ¬ wr 4 < 0 by decide), if_pos (show wr 4 < wr 6 by decide), if_pos (show ¬ wr 4 = wr 1 by decide), ckI_e (by omega), ckI_e (by omega), e1, e2, wr_e (z := v) (by omega), if_neg (by omega), if_neg (by omega)]
theorem al_1 {v : Int} (h : v = 8 ∨ v = 16 ∨ v = 32) : f_X11_isAllowed S 1 v = some (1, S) := by
  unfold f_X11_isAllowed
  rw [if_neg (show ¬ wr 1 < 0 by decide), if_pos (show wr 1 < wr 6 by decide), if_neg (show ¬ ¬ wr 1 = wr 1 by decide)]
  rcases h with rfl | rfl | rfl
  · rw [if_pos rfl]
  · rw [if_neg (by decide), if_pos rfl]
  · rw [if_neg (by decide), if_neg (by decide), if_neg (by decide)]
/-- the settings and rules -/
theorem h_hdr (hT : TC T) (hX : TX H L) (h5 : H 2 5 = 0) (h10 : H 2 10 = 0) (h3 : ∀ j : Nat, j < 6 → H 3 j = 0) {d0 d1 d2 d3 d4 d5 k6 k7 : Nat} (g0 : 1 ≤ d0 ∧ d0 ≤ 6) (g1 : d1 = 8 ∨ d1 = 16 ∨ d1 = 32) (g2 : 2 ≤ d2 ∧ d2 ≤ 20) (g3 : 4 ≤ d3 ∧ d3 ≤ 40) (g4 : 1 ≤ d4 ∧ d4 ≤ 8) (g5 : d5 ≤ 30) (g6 : 8 ≤ k6 ∧ k6 ≤ 12) (g7 : 8 ≤ k7 ∧ k7 ≤ 15) (h22 : P 2 2 = 0) {R : List Int} (hL : L = [] ++ (ldL 18 ++ 32 :: (dgL d0 ++ 59 :: (ldL 19 ++ 32 :: (dgL d1 ++ 59 :: (ldL 20 ++ 32 :: (dgL d2 ++ 59 :: (ldL 21 ++ 32 :: (dgL d3 ++ 59 :: (ldL 22 ++ 32 :: (dgL d4 ++ 59 :: (ldL 23 ++ 32 :: (dgL d5 ++ 59 :: (ldL 7 ++ 32 :: (ldL 13 ++ 32 :: (ldL 17 ++ 59 :: (ldL 7 ++ 32 :: (ldL k6 ++ 32 :: (ldL k7 ++ 59 :: R))))))))))))))))))) : ∃ H' P', STK T L 8 H P ([] ++ ldL 18 ++ [32] ++ dgL d0 ++ [59] ++ ldL 19 ++ [32] ++ dgL d1 ++ [59] ++ ldL 20 ++ [32] ++ dgL d2 ++ [59] ++ ldL 21 ++ [32] ++ dgL d3 ++ [59] ++ ldL 22 ++ [32] ++ dgL d4 ++ [59] ++ ldL 23 ++ [32] ++ dgL d5 ++ [59] ++ ldL 7 ++ [32] ++ ldL 13 ++ [32] ++ ldL 17 ++ [59] ++ ldL 7 ++ [32] ++ ldL k6 ++ [32] ++ ldL k7 ++ [59]) H' P' ∧ HDR P' ∧ ∀ o k, o = 0 ∨ 5 ≤ o → P' o k = P o k := by
  obtain ⟨H1, s1, r1⟩ := s_set (P := P) (A := []) (M := ldL 19 ++ 32 :: (dgL d1 ++ 59 :: (ldL 20 ++ 32 :: (dgL d2 ++ 59 :: (ldL 21 ++ 32 :: (dgL d3 ++ 59 :: (ldL 22 ++ 32 :: (dgL d4 ++ 59 :: (ldL 23 ++ 32 :: (dgL d5 ++ 59 :: (ldL 7 ++ 32 :: (ldL 13 ++ 32 :: (ldL 17 ++ 59 :: (ldL 7 ++ 32 :: (ldL k6 ++ 32 :: (ldL k7 ++ 59 :: R)))))))))))))))) hT hX h5 h10 (q := 18) (by decide) (z := 0) (by decide) (v := d0) (by omega) (fun S => is_al (Or.inl ⟨rfl, by omega⟩)) (h3 0 (by decide)) (hL)
  have z1 : H1 3 (1 : Int).toNat = 0 := by
    rw [r1]
    exact (uN_k (by decide)).trans (h3 1 (by decide))
  obtain ⟨H2, s2, r2⟩ := s_set (P := (uF P 1 (0 : Int).toNat (d0 : Int))) (A := [] ++ ldL 18 ++ [32] ++ dgL d0 ++ [59]) (M := ldL 20 ++ 32 :: (dgL d2 ++ 59 :: (ldL 21 ++ 32 :: (dgL d3 ++ 59 :: (ldL 22 ++ 32 :: (dgL d4 ++ 59 :: (ldL 23 ++ 32 :: (dgL d5 ++ 59 :: (ldL 7 ++ 32 :: (ldL 13 ++ 32 :: (ldL 17 ++ 59 :: (ldL 7 ++ 32 :: (ldL k6 ++ 32 :: (ldL k7 ++ 59 :: R)))))))))))))) hT s1.2.1 s1.2.2.1 s1.2.2.2.1 (q := 19) (by decide) (z := 1) (by decide) (v := d1) (by omega) (fun S => al_1 (by omega)) (z1) (by rw [hL]; simp only [List.append_assoc, List.cons_append, List.nil_append, List.append_nil])
  have z2 : H2 3 (2 : Int).toNat = 0 := by
    rw [r2, r1]
    exact (uN_k (by decide)).trans ((uN_k (by decide)).trans (h3 2 (by decide)))
  obtain ⟨H3, s3, r3⟩ := s_set (P := (uF (uF P 1 (0 : Int).toNat (d0 : Int)) 1 (1 : Int).toNat (d1 : Int))) (A := [] ++ ldL 18 ++ [32] ++ dgL d0 ++ [59] ++ ldL 19 ++ [32] ++ dgL d1 ++ [59]) (M := ldL 21 ++ 32 :: (dgL d3 ++ 59 :: (ldL 22 ++ 32 :: (dgL d4 ++ 59 :: (ldL 23 ++ 32 :: (dgL d5 ++ 59 :: (ldL 7 ++ 32 :: (ldL 13 ++ 32 :: (ldL 17 ++ 59 :: (ldL 7 ++ 32 :: (ldL k6 ++ 32 :: (ldL k7 ++ 59 :: R)))))))))))) hT s2.2.1 s2.2.2.1 s2.2.2.2.1 (q := 20) (by decide) (z := 2) (by decide) (v := d2) (by omega) (fun S => al_2 (by omega)) (z2) (by rw [hL]; simp only [List.append_assoc, List.cons_append, List.nil_append, List.append_nil])
  have z3 : H3 3 (3 : Int).toNat = 0 := by
    rw [r3, r2, r1]
    exact (uN_k (by decide)).trans ((uN_k (by decide)).trans ((uN_k (by decide)).trans (h3 3 (by decide))))
  obtain ⟨H4, s4, r4⟩ := s_set (P := (uF (uF (uF P 1 (0 : Int).toNat (d0 : Int)) 1 (1 : Int).toNat (d1 : Int)) 1 (2 : Int).toNat (d2 : Int))) (A := [] ++ ldL 18 ++ [32] ++ dgL d0 ++ [59] ++ ldL 19 ++ [32] ++ dgL d1 ++ [59] ++ ldL 20 ++ [32] ++ dgL d2 ++ [59]) (M := ldL 22 ++ 32 :: (dgL d4 ++ 59 :: (ldL 23 ++ 32 :: (dgL d5 ++ 59 :: (ldL 7 ++ 32 :: (ldL 13 ++ 32 :: (ldL 17 ++ 59 :: (ldL 7 ++ 32 :: (ldL k6 ++ 32 :: (ldL k7 ++ 59 :: R)))))))))) hT s3.2.1 s3.2.2.1 s3.2.2.2.1 (q := 21) (by decide) (z := 3) (by decide) (v := d3) (by omega) (fun S => al_3 (by omega)) (z3) (by rw [hL]; simp only [List.append_assoc, List.cons_append, List.nil_append, List.append_nil])
  have z4 : H4 3 (4 : Int).toNat = 0 := by
    rw [r4, r3, r2, r1]
    exact (uN_k (by decide)).trans ((uN_k (by decide)).trans ((uN_k (by decide)).trans ((uN_k (by decide)).trans (h3 4 (by decide)))))
  obtain ⟨H5, s5, r5⟩ := s_set (P := (uF (uF (uF (uF P 1 (0 : Int).toNat (d0 : Int)) 1 (1 : Int).toNat (d1 : Int)) 1 (2 : Int).toNat (d2 : Int)) 1 (3 : Int).toNat (d3 : Int))) (A := [] ++ ldL 18 ++ [32] ++ dgL d0 ++ [59] ++ ldL 19 ++ [32] ++ dgL d1 ++ [59] ++ ldL 20 ++ [32] ++ dgL d2 ++ [59] ++ ldL 21 ++ [32] ++ dgL d3 ++ [59]) (M := ldL 23 ++ 32 :: (dgL d5 ++ 59 :: (ldL 7 ++ 32 :: (ldL 13 ++ 32 :: (ldL 17 ++ 59 :: (ldL 7 ++ 32 :: (ldL k6 ++ 32 :: (ldL k7 ++ 59 :: R)))))))) hT s4.2.1 s4.2.2.1 s4.2.2.2.1 (q := 22) (by decide) (z := 4) (by decide) (v := d4) (by omega) (fun S => al_4 (by omega)) (z4) (by rw [hL]; simp only [List.append_assoc, List.cons_append, List.nil_append, List.append_nil])
  have z5 : H5 3 (5 : Int).toNat = 0 := by
    rw [r5, r4, r3, r2, r1]
    exact (uN_k (by decide)).trans ((uN_k (by decide)).trans ((uN_k (by decide)).trans ((uN_k (by decide)).trans ((uN_k (by decide)).trans (h3 5 (by decide))))))
  obtain ⟨H6, s6, r6⟩ := s_set (P := (uF (uF (uF (uF (uF P 1 (0 : Int).toNat (d0 : Int)) 1 (1 : Int).toNat (d1 : Int)) 1 (2 : Int).toNat (d2 : Int)) 1 (3 : Int).toNat (d3 : Int)) 1 (4 : Int).toNat (d4 : Int))) (A := [] ++ ldL 18 ++ [32] ++ dgL d0 ++ [59] ++ ldL 19 ++ [32] ++ dgL d1 ++ [59] ++ ldL 20 ++ [32] ++ dgL d2 ++ [59] ++ ldL 21 ++ [32] ++ dgL d3 ++ [59] ++ ldL 22 ++ [32] ++ dgL d4 ++ [59]) (M := ldL 7 ++ 32 :: (ldL 13 ++ 32 :: (ldL 17 ++ 59 :: (ldL 7 ++ 32 :: (ldL k6 ++ 32 :: (ldL k7 ++ 59 :: R)))))) hT s5.2.1 s5.2.2.1 s5.2.2.2.1 (q := 23) (by decide) (z := 5) (by decide) (v := d5) (by omega) (fun S => is_al (Or.inr ⟨rfl, by omega⟩)) (z5) (by rw [hL]; simp only [List.append_assoc, List.cons_append, List.nil_append, List.append_nil])
  have m0 : (uF (uF (uF (uF (uF (uF P 1 (0 : Int).toNat (d0 : Int)) 1 (1 : Int).toNat (d1 : Int)) 1 (2 : Int).toNat (d2 : Int)) 1 (3 : Int).toNat (d3 : Int)) 1 (4 : Int).toNat (d4 : Int)) 1 (5 : Int).toNat (d5 : Int)) 2 2 = 0 := h22
  generalize eP : (uF (uF (uF (uF (uF (uF P 1 (0 : Int).toNat (d0 : Int)) 1 (1 : Int).toNat (d1 : Int)) 1 (2 : Int).toNat (d2 : Int)) 1 (3 : Int).toNat (d3 : Int)) 1 (4 : Int).toNat (d4 : Int)) 1 (5 : Int).toNat (d5 : Int)) = Q at s6 m0
  obtain ⟨H7, s7, r7⟩ := s_fus (P := Q) (A := [] ++ ldL 18 ++ [32] ++ dgL d0 ++ [59] ++ ldL 19 ++ [32] ++ dgL d1 ++ [59] ++ ldL 20 ++ [32] ++ dgL d2 ++ [59] ++ ldL 21 ++ [32] ++ dgL d3 ++ [59] ++ ldL 22 ++ [32] ++ dgL d4 ++ [59] ++ ldL 23 ++ [32] ++ dgL d5 ++ [59]) (M := ldL 7 ++ 32 :: (ldL k6 ++ 32 :: (ldL k7 ++ 59 :: R))) hT s6.2.1 s6.2.2.1 s6.2.2.2.1 (p := 13) (q := 17) (by decide) (by decide) (a := 5) (b := 9) (m := 0) (by decide) (by decide) m0 (by decide) (fun j hj => absurd hj (by omega)) (by rw [hL]; simp only [List.append_assoc, List.cons_append, List.nil_append, List.append_nil])
  have hr : ∀ j : Nat, (j : Int) < 1 → (0 ≤ (uF (uF (uF Q 3 (0 : Int).toNat 5) 4 (0 : Int).toNat 9) 2 2 (0 + 1)) 3 j ∧ (uF (uF (uF Q 3 (0 : Int).toNat 5) 4 (0 : Int).toNat 9) 2 2 (0 + 1)) 3 j ≤ 9) ∧ (0 ≤ (uF (uF (uF Q 3 (0 : Int).toNat 5) 4 (0 : Int).toNat 9) 2 2 (0 + 1)) 4 j ∧ (uF (uF (uF Q 3 (0 : Int).toNat 5) 4 (0 : Int).toNat 9) 2 2 (0 + 1)) 4 j ≤ 9) ∧ ¬ ((uF (uF (uF Q 3 (0 : Int).toNat 5) 4 (0 : Int).toNat 9) 2 2 (0 + 1)) 3 j = (k6 : Int) - 8 ∧ (uF (uF (uF Q 3 (0 : Int).toNat 5) 4 (0 : Int).toNat 9) 2 2 (0 + 1)) 4 j = (k7 : Int) - 8) := fun j hj => by
    have ej : j = 0 := by omega
    have e3 : (uF (uF (uF Q 3 (0 : Int).toNat 5) 4 (0 : Int).toNat 9) 2 2 (0 + 1)) 3 0 = 5 := rfl
    have e4 : (uF (uF (uF Q 3 (0 : Int).toNat 5) 4 (0 : Int).toNat 9) 2 2 (0 + 1)) 4 0 = 9 := rfl
    rw [ej, e3, e4]
    refine ⟨by decide, by decide, fun y => ?_⟩
    have := y.1
    omega
  obtain ⟨H8, s8, r8⟩ := s_fus (P := (uF (uF (uF Q 3 (0 : Int).toNat 5) 4 (0 : Int).toNat 9) 2 2 (0 + 1))) (A := [] ++ ldL 18 ++ [32] ++ dgL d0 ++ [59] ++ ldL 19 ++ [32] ++ dgL d1 ++ [59] ++ ldL 20 ++ [32] ++ dgL d2 ++ [59] ++ ldL 21 ++ [32] ++ dgL d3 ++ [59] ++ ldL 22 ++ [32] ++ dgL d4 ++ [59] ++ ldL 23 ++ [32] ++ dgL d5 ++ [59] ++ ldL 7 ++ [32] ++ ldL 13 ++ [32] ++ ldL 17 ++ [59]) (M := R) hT s7.2.1 s7.2.2.1 s7.2.2.2.1 (p := k6) (q := k7) (by omega) (by omega) (a := (k6 : Int) - 8) (b := (k7 : Int) - 8) (m := 1) rfl rfl rfl (by decide) hr (by rw [hL]; simp only [List.append_assoc, List.cons_append, List.nil_append, List.append_nil])
  refine ⟨H8, _, stk_s (stk_s (stk_s (stk_s (stk_s (stk_s (stk_s (stk_s (stk_0 (A := []) hX h5 h10) s1) s2) s3) s4) s5) s6) s7) s8, ⟨?_, ?_, ?_, ?_, ?_, ?_, ?_, fun j hj => ?_⟩, fun o k ho => ?_⟩
  · rw [uF_o (by decide), uF_o (by decide), uF_o (by decide), uF_o (by decide), uF_o (by decide), uF_o (by decide), ← eP]
    have e : (uF (uF (uF (uF (uF (uF P 1 (0 : Int).toNat (d0 : Int)) 1 (1 : Int).toNat (d1 : Int)) 1 (2 : Int).toNat (d2 : Int)) 1 (3 : Int).toNat (d3 : Int)) 1 (4 : Int).toNat (d4 : Int)) 1 (5 : Int).toNat (d5 : Int)) 1 1 = (d1 : Int) := rfl
    rw [e]
    omega
  · rw [uF_o (by decide), uF_o (by decide), uF_o (by decide), uF_o (by decide), uF_o (by decide), uF_o (by decide), ← eP]
    have e : (uF (uF (uF (uF (uF (uF P 1 (0 : Int).toNat (d0 : Int)) 1 (1 : Int).toNat (d1 : Int)) 1 (2 : Int).toNat (d2 : Int)) 1 (3 : Int).toNat (d3 : Int)) 1 (4 : Int).toNat (d4 : Int)) 1 (5 : Int).toNat (d5 : Int)) 1 2 = (d2 : Int) := rfl
    rw [e]
    omega
  · rw [uF_o (by decide), uF_o (by decide), uF_o (by decide), uF_o (by decide), uF_o (by decide), uF_o (by decide), ← eP]
    have e : (uF (uF (uF (uF (uF (uF P 1 (0 : Int).toNat (d0 : Int)) 1 (1 : Int).toNat (d1 : Int)) 1 (2 : Int).toNat (d2 : Int)) 1 (3 : Int).toNat (d3 : Int)) 1 (4 : Int).toNat (d4 : Int)) 1 (5 : Int).toNat (d5 : Int)) 1 3 = (d3 : Int) := rfl
    rw [e]
    omega
  · rw [uF_o (by decide), uF_o (by decide), uF_o (by decide), uF_o (by decide), uF_o (by decide), uF_o (by decide), ← eP]
    have e : (uF (uF (uF (uF (uF (uF P 1 (0 : Int).toNat (d0 : Int)) 1 (1 : Int).toNat (d1 : Int)) 1 (2 : Int).toNat (d2 : Int)) 1 (3 : Int).toNat (d3 : Int)) 1 (4 : Int).toNat (d4 : Int)) 1 (5 : Int).toNat (d5 : Int)) 1 0 = (d0 : Int) := rfl
    rw [e]
    omega
  · rw [uF_o (by decide), uF_o (by decide), uF_o (by decide), uF_o (by decide), uF_o (by decide), uF_o (by decide), ← eP]
    have e : (uF (uF (uF (uF (uF (uF P 1 (0 : Int).toNat (d0 : Int)) 1 (1 : Int).toNat (d1 : Int)) 1 (2 : Int).toNat (d2 : Int)) 1 (3 : Int).toNat (d3 : Int)) 1 (4 : Int).toNat (d4 : Int)) 1 (5 : Int).toNat (d5 : Int)) 1 4 = (d4 : Int) := rfl
    rw [e]
    omega
  · rw [uF_o (by decide), uF_o (by decide), uF_o (by decide), uF_o (by decide), uF_o (by decide), uF_o (by decide), ← eP]
    have e : (uF (uF (uF (uF (uF (uF P 1 (0 : Int).toNat (d0 : Int)) 1 (1 : Int).toNat (d1 : Int)) 1 (2 : Int).toNat (d2 : Int)) 1 (3 : Int).toNat (d3 : Int)) 1 (4 : Int).toNat (d4 : Int)) 1 (5 : Int).toNat (d5 : Int)) 1 5 = (d5 : Int) := rfl
    rw [e]
    omega
  · rw [uF_e]
    decide
  · rw [uF_e] at hj
    have hj2 : (j : Int) < 2 := hj
    rcases (show j = 0 ∨ j = 1 by omega) with ej | ej
    · rw [ej]
      exact ⟨by show (0 : Int) ≤ 5; decide, by show (5 : Int) ≤ 7; decide, by show (0 : Int) ≤ 9; decide, by show (9 : Int) ≤ 9; decide⟩
    · rw [ej]
      exact ⟨by show (0 : Int) ≤ (k6 : Int) - 8; omega, by show (k6 : Int) - 8 ≤ 7; omega, by show (0 : Int) ≤ (k7 : Int) - 8; omega, by show (k7 : Int) - 8 ≤ 9; omega⟩
  · rw [uF_o (by omega), uF_o (by omega), uF_o (by omega), uF_o (by omega), uF_o (by omega), uF_o (by omega), ← eP, uF_o (by omega), uF_o (by omega), uF_o (by omega), uF_o (by omega), uF_o (by omega), uF_o (by omega)]
end C3D
