/-! mathematics: fresh fronts; the beginnings of both sides -/
def FRE (G π : xR) : Prop := (∀ k : Nat, k < 6 → G 1 k = π 1 k) ∧ G 2 2 = π 2 2 ∧ (∀ k : Nat, k < 7 → G 3 k = π 3 k) ∧ (∀ k : Nat, k < 7 → G 4 k = π 4 k) ∧ G 5 2 = 0 ∧ G 8 0 = 0 ∧ (∀ k : Nat, k < 60 → G 10 k = 0) ∧ G 11 1 = 0 ∧ (∀ k : Nat, k < 60 → G 13 k = 0) ∧ G 14 4 = 0 ∧ (∀ k : Nat, k < 9 → G 15 k = 0) ∧ (∀ k : Nat, k < 9 → G 16 k = 0) ∧ (∀ k : Nat, k < 60 → G 17 k = 0) ∧ (∀ k : Nat, k < 60 → G 19 k = 0) ∧ G 0 9 = -1 ∧ ∀ k : Nat, 10 ≤ k → k ≤ 17 → G 0 k = 0
/-- a fresh row of the reference -/
def FRN (N : Nat → Int) (π : xR) : Prop := N 0 = π 1 0 ∧ N 1 = π 1 4 ∧ N 2 = π 1 5 ∧ N 34 = π 2 2 ∧ (∀ j : Nat, (j : Int) < π 2 2 → N (35 + j) = 10 * π 3 j + π 4 j) ∧ ∀ k : Nat, 3 ≤ k → k < 363 → ¬ (34 ≤ k ∧ k ≤ 41) → N k = if k = 15 then -1 else 0
theorem gf_fre {π G : xR} {B : Int} {N : Nat → Int} (hR : PR π) (hB : 0 ≤ B) (hG : FRE G π) (hN : FRN N π) : GF π B G N := by
  obtain ⟨g1, g2, g3, g4, g5, g8, g10, g11, g13, g14, g15, g16, g17, g19, g9, g0⟩ := hG
  obtain ⟨n0, n1, n2, n34, n35, nz⟩ := hN
  have nz0 : ∀ k : Nat, 3 ≤ k → k < 363 → ¬ (34 ≤ k ∧ k ≤ 41) → k ≠ 15 → N k = 0 := fun k a b c d => by rw [nz k a b c, if_neg d]
  have f10 := g0 10 (by decide) (by decide)
  have f11 := g0 11 (by decide) (by decide)
  have f12 := g0 12 (by decide) (by decide)
  have f13 := g0 13 (by decide) (by decide)
  have f14 := g0 14 (by decide) (by decide)
  have f15 := g0 15 (by decide) (by decide)
  have f16 := g0 16 (by decide) (by decide)
  have f17 := g0 17 (by decide) (by decide)
  have c0 := g15 0 (by decide)
  have c1 := g15 1 (by decide)
  have s0 := g1 0 (by decide)
  have s1 := g1 1 (by decide)
  have s2 := g1 2 (by decide)
  have s3 := g1 3 (by decide)
  have s4 := g1 4 (by decide)
  have s5 := g1 5 (by decide)
  have r := hR.2.2.2.2.2.2.2.2.2
  have rr := hR.2.2.2.2.2.2.2.2.1
  have hR' := hR
  obtain ⟨p1, p2, p3, p4, p5, p6, p7, p8, p9, p10, p11⟩ := hR'
  refine ⟨⟨?_, ?_, ?_, ?_, ?_, ?_, ?_, ?_, ?_, ?_, ?_⟩, fun h => absurd (g8.symm.trans h) (by decide)⟩
  · unfold RFs
    rw [nz0 3 (by decide) (by decide) (by decide) (by decide), nz0 4 (by decide) (by decide) (by decide) (by decide), nz0 5 (by decide) (by decide) (by decide) (by decide), nz0 6 (by decide) (by decide) (by decide) (by decide), nz0 7 (by decide) (by decide) (by decide) (by decide), nz0 8 (by decide) (by decide) (by decide) (by decide), nz0 9 (by decide) (by decide) (by decide) (by decide), nz0 10 (by decide) (by decide) (by decide) (by decide), nz0 11 (by decide) (by decide) (by decide) (by decide), nz 15 (by decide) (by decide) (by decide), nz0 16 (by decide) (by decide) (by decide) (by decide), nz0 17 (by decide) (by decide) (by decide) (by decide), nz0 18 (by decide) (by decide) (by decide) (by decide), nz0 19 (by decide) (by decide) (by decide) (by decide), nz0 20 (by decide) (by decide) (by decide) (by decide), nz0 21 (by decide) (by decide) (by decide) (by decide), nz0 22 (by decide) (by decide) (by decide) (by decide), nz0 23 (by decide) (by decide) (by decide) (by decide), nz0 24 (by decide) (by decide) (by decide) (by decide), nz0 42 (by decide) (by decide) (by decide) (by decide), uG_o (by decide), uG_o (by decide), uG_o (by decide), g15 2 (by decide), g15 3 (by decide), g15 4 (by decide), g15 5 (by decide), g15 6 (by decide), g15 7 (by decide), g15 8 (by decide), if_pos rfl]
    refine ⟨?_, ?_, ?_, ?_, ?_, ?_, ?_, ?_, ?_, ?_, ?_, ?_, ?_, ?_, ?_, ?_, ?_, ?_, ?_, ?_, ?_, ?_, ?_, ?_, ?_, ?_, ?_⟩ <;> omega
  · unfold RFr
    rw [uG_o (by decide), uG_e, uG_o (by decide)]
    refine ⟨?_, ?_, ?_, ?_, ?_, ?_, ?_, ?_, ?_, ?_, ?_, ?_, ?_, ?_, ?_⟩ <;> omega
  · intro c h1 h2
    rw [nz0 (25 + c) (by omega) (by omega) (by omega) (by omega), g16 c (by omega)]
  · intro j hj
    rw [g2] at hj
    rw [n35 j hj, g3 j (by omega), g4 j (by omega)]
    have := p10 j hj
    exact ⟨rfl, ⟨this.1, this.2.1⟩, this.2.2⟩
  · intro j hj
    rw [g5] at hj
    exact absurd hj (by omega)
  · intro k hk h9
    rw [uG_o (by decide)] at hk
    rw [nz0 (83 + k) (by omega) (by omega) (by omega) (by omega), nz0 (143 + k) (by omega) (by omega) (by omega) (by omega), g10 k (by omega), g19 k (by omega)]
    exact ⟨rfl, rfl, by decide, by decide⟩
  · intro k hk
    rw [g19 k hk]
    exact ⟨Or.inl rfl, fun _ _ => rfl⟩
  · intro k hk
    rw [nz0 (203 + k) (by omega) (by omega) (by omega) (by omega), g17 k hk, c1, uG_e, uG_e]
    decide
  · intro k hk h2
    rw [c1] at h2
    exact absurd h2 (by omega)
  · intro h1
    rw [g8] at h1
    exact absurd h1 (by decide)
  · unfold RFd
    rw [c1, g11, g14]
    refine ⟨rfl, fun k hk => g13 k hk, by decide, fun t ht ht2 => ⟨fun _ i hi1 hi2 => absurd hi2 (by omega), fun _ => ht2⟩⟩
section BG
variable {S T : xSt} {q r : Nat} {F X Y μ : xR}
theorem p_fill_10 (hf : 10000000 ≤ fu S) : ∃ G, f_J7_fill_53178_p1_10 (sR S r F) r 0 = some (sR S r G) ∧ (∀ k : Nat, k < 60 → G 10 k = 0) ∧ ∀ o k : Nat, o ≠ 10 → G o k = F o k := by
  have key : ∀ (d k f : Nat) (F : xR), k + d = 60 → d < f → (∀ j : Nat, j < k → F 10 j = 0) → ∃ G, f_J7_fill_53178_p1_10_b5 r f (sR S r F) 0 (k : Int) 60 = some (sR S r G) ∧ (∀ k : Nat, k < 60 → G 10 k = 0) ∧ ∀ o k : Nat, o ≠ 10 → G o k = F o k := by
    intro d
    induction d with
    | zero =>
      intro k f F hk hff h
      obtain ⟨f, rfl⟩ := fs_e (show 0 < f by omega)
      have ek : k = 60 := by omega
      subst ek
      exact ⟨F, by rw [f_J7_fill_53178_p1_10_b5, if_pos (by decide)], h, fun _ _ _ => rfl⟩
    | succ d ih =>
      intro k f F hk hff h
      obtain ⟨f, rfl⟩ := fs_e (show 0 < f by omega)
      obtain ⟨G, a1, a2, a3⟩ := ih (k + 1) f (uF F 10 k 0) (by omega) (by omega) (fun j hj => by
        by_cases c : j = k
        · rw [c, uF_e]
        · rw [uF_k c]
          exact h j (by omega))
      refine ⟨G, ?_, a2, fun o k' ho => by rw [a3 o k' ho, uF_o ho]⟩
      rw [f_J7_fill_53178_p1_10_b5, wr_e (z := 60) (by decide), wr_e (z := (k : Int)) (by omega), if_neg (by omega), ckI_e (by omega), Int.toNat_natCast, sR_w, lt1_e]
      exact a1
  exact key 60 0 (fu S) F (by decide) (by omega) (fun j hj => absurd hj (by omega))
theorem p_fill_13 (hf : 10000000 ≤ fu S) : ∃ G, f_J7_fill_53178_p1_13 (sR S r F) r 0 = some (sR S r G) ∧ (∀ k : Nat, k < 60 → G 13 k = 0) ∧ ∀ o k : Nat, o ≠ 13 → G o k = F o k := by
  have key : ∀ (d k f : Nat) (F : xR), k + d = 60 → d < f → (∀ j : Nat, j < k → F 13 j = 0) → ∃ G, f_J7_fill_53178_p1_13_b5 r f (sR S r F) 0 (k : Int) 60 = some (sR S r G) ∧ (∀ k : Nat, k < 60 → G 13 k = 0) ∧ ∀ o k : Nat, o ≠ 13 → G o k = F o k := by
    intro d
    induction d with
    | zero =>
      intro k f F hk hff h
      obtain ⟨f, rfl⟩ := fs_e (show 0 < f by omega)
      have ek : k = 60 := by omega
      subst ek
      exact ⟨F, by rw [f_J7_fill_53178_p1_13_b5, if_pos (by decide)], h, fun _ _ _ => rfl⟩
    | succ d ih =>
      intro k f F hk hff h
      obtain ⟨f, rfl⟩ := fs_e (show 0 < f by omega)
      obtain ⟨G, a1, a2, a3⟩ := ih (k + 1) f (uF F 13 k 0) (by omega) (by omega) (fun j hj => by
        by_cases c : j = k
        · rw [c, uF_e]
        · rw [uF_k c]
          exact h j (by omega))
      refine ⟨G, ?_, a2, fun o k' ho => by rw [a3 o k' ho, uF_o ho]⟩
      rw [f_J7_fill_53178_p1_13_b5, wr_e (z := 60) (by decide), wr_e (z := (k : Int)) (by omega), if_neg (by omega), ckI_e (by omega), Int.toNat_natCast, sR_w, lt1_e]
      exact a1
  exact key 60 0 (fu S) F (by decide) (by omega) (fun j hj => absurd hj (by omega))
theorem p_fill_15 (hf : 10000000 ≤ fu S) : ∃ G, f_J7_fill_53178_p1_15 (sR S r F) r 0 = some (sR S r G) ∧ (∀ k : Nat, k < 9 → G 15 k = 0) ∧ ∀ o k : Nat, o ≠ 15 → G o k = F o k := by
  have key : ∀ (d k f : Nat) (F : xR), k + d = 9 → d < f → (∀ j : Nat, j < k → F 15 j = 0) → ∃ G, f_J7_fill_53178_p1_15_b5 r f (sR S r F) 0 (k : Int) 9 = some (sR S r G) ∧ (∀ k : Nat, k < 9 → G 15 k = 0) ∧ ∀ o k : Nat, o ≠ 15 → G o k = F o k := by
    intro d
    induction d with
    | zero =>
      intro k f F hk hff h
      obtain ⟨f, rfl⟩ := fs_e (show 0 < f by omega)
      have ek : k = 9 := by omega
      subst ek
      exact ⟨F, by rw [f_J7_fill_53178_p1_15_b5, if_pos (by decide)], h, fun _ _ _ => rfl⟩
    | succ d ih =>
      intro k f F hk hff h
      obtain ⟨f, rfl⟩ := fs_e (show 0 < f by omega)
      obtain ⟨G, a1, a2, a3⟩ := ih (k + 1) f (uF F 15 k 0) (by omega) (by omega) (fun j hj => by
        by_cases c : j = k
        · rw [c, uF_e]
        · rw [uF_k c]
          exact h j (by omega))
      refine ⟨G, ?_, a2, fun o k' ho => by rw [a3 o k' ho, uF_o ho]⟩
      rw [f_J7_fill_53178_p1_15_b5, wr_e (z := 9) (by decide), wr_e (z := (k : Int)) (by omega), if_neg (by omega), ckI_e (by omega), Int.toNat_natCast, sR_w, lt1_e]
      exact a1
  exact key 9 0 (fu S) F (by decide) (by omega) (fun j hj => absurd hj (by omega))
theorem p_fill_16 (hf : 10000000 ≤ fu S) : ∃ G, f_J7_fill_53178_p1_16 (sR S r F) r 0 = some (sR S r G) ∧ (∀ k : Nat, k < 9 → G 16 k = 0) ∧ ∀ o k : Nat, o ≠ 16 → G o k = F o k := by
  have key : ∀ (d k f : Nat) (F : xR), k + d = 9 → d < f → (∀ j : Nat, j < k → F 16 j = 0) → ∃ G, f_J7_fill_53178_p1_16_b5 r f (sR S r F) 0 (k : Int) 9 = some (sR S r G) ∧ (∀ k : Nat, k < 9 → G 16 k = 0) ∧ ∀ o k : Nat, o ≠ 16 → G o k = F o k := by
    intro d
    induction d with
    | zero =>
      intro k f F hk hff h
      obtain ⟨f, rfl⟩ := fs_e (show 0 < f by omega)
      have ek : k = 9 := by omega
      subst ek
      exact ⟨F, by rw [f_J7_fill_53178_p1_16_b5, if_pos (by decide)], h, fun _ _ _ => rfl⟩
    | succ d ih =>
      intro k f F hk hff h
      obtain ⟨f, rfl⟩ := fs_e (show 0 < f by omega)
      obtain ⟨G, a1, a2, a3⟩ := ih (k + 1) f (uF F 16 k 0) (by omega) (by omega) (fun j hj => by
        by_cases c : j = k
        · rw [c, uF_e]
        · rw [uF_k c]
          exact h j (by omega))
      refine ⟨G, ?_, a2, fun o k' ho => by rw [a3 o k' ho, uF_o ho]⟩
      rw [f_J7_fill_53178_p1_16_b5, wr_e (z := 9) (by decide), wr_e (z := (k : Int)) (by omega), if_neg (by omega), ckI_e (by omega), Int.toNat_natCast, sR_w, lt1_e]
      exact a1
  exact key 9 0 (fu S) F (by decide) (by omega) (fun j hj => absurd hj (by omega))
theorem p_fill_17 (hf : 10000000 ≤ fu S) : ∃ G, f_J7_fill_53178_p1_17 (sR S r F) r 0 = some (sR S r G) ∧ (∀ k : Nat, k < 60 → G 17 k = 0) ∧ ∀ o k : Nat, o ≠ 17 → G o k = F o k := by
  have key : ∀ (d k f : Nat) (F : xR), k + d = 60 → d < f → (∀ j : Nat, j < k → F 17 j = 0) → ∃ G, f_J7_fill_53178_p1_17_b5 r f (sR S r F) 0 (k : Int) 60 = some (sR S r G) ∧ (∀ k : Nat, k < 60 → G 17 k = 0) ∧ ∀ o k : Nat, o ≠ 17 → G o k = F o k := by
    intro d
    induction d with
    | zero =>
      intro k f F hk hff h
      obtain ⟨f, rfl⟩ := fs_e (show 0 < f by omega)
      have ek : k = 60 := by omega
      subst ek
      exact ⟨F, by rw [f_J7_fill_53178_p1_17_b5, if_pos (by decide)], h, fun _ _ _ => rfl⟩
    | succ d ih =>
      intro k f F hk hff h
      obtain ⟨f, rfl⟩ := fs_e (show 0 < f by omega)
      obtain ⟨G, a1, a2, a3⟩ := ih (k + 1) f (uF F 17 k 0) (by omega) (by omega) (fun j hj => by
        by_cases c : j = k
        · rw [c, uF_e]
        · rw [uF_k c]
          exact h j (by omega))
      refine ⟨G, ?_, a2, fun o k' ho => by rw [a3 o k' ho, uF_o ho]⟩
      rw [f_J7_fill_53178_p1_17_b5, wr_e (z := 60) (by decide), wr_e (z := (k : Int)) (by omega), if_neg (by omega), ckI_e (by omega), Int.toNat_natCast, sR_w, lt1_e]
      exact a1
  exact key 60 0 (fu S) F (by decide) (by omega) (fun j hj => absurd hj (by omega))
theorem p_b74 : ∀ (d k f : Nat) (F : xR), k + d = 60 → d < f → (∀ j : Nat, j < k → F 19 j = 0) → ∃ G, f_X0_begin_p1_0_2_0_b74 r q f (sR S r F) (k : Int) = some (sR S r G) ∧ (∀ k : Nat, k < 60 → G 19 k = 0) ∧ G 0 9 = -1 ∧ (∀ k : Nat, 10 ≤ k → k ≤ 17 → G 0 k = 0) ∧ ∀ o k : Nat, o ≠ 19 → o ≠ 0 → G o k = F o k := by
  intro d
  induction d with
  | zero =>
    intro k f F hk hff h
    obtain ⟨f, rfl⟩ := fs_e (show 0 < f by omega)
    have ek : k = 60 := by omega
    subst ek
    refine ⟨uF (uF (uF (uF (uF (uF (uF (uF (uF F 0 9 (-1)) 0 10 0) 0 11 0) 0 12 0) 0 13 0) 0 14 0) 0 15 0) 0 16 0) 0 17 0, ?_, fun k hk => ?_, ?_, fun k h1 h2 => ?_, fun o k h1 h2 => ?_⟩
    · rw [f_X0_begin_p1_0_2_0_b74, if_pos (by decide), sR_w, lt1_e, sR_w, lt1_e, sR_w, lt1_e, sR_w, lt1_e, sR_w, lt1_e, sR_w, lt1_e, sR_w, lt1_e, sR_w, lt1_e, sR_w, lt1_e]
    · simp (disch := omega) only [uF_e, uF_n]
      exact h k hk
    · simp (disch := omega) only [uF_e, uF_n]
    · have hh : k = 10 ∨ k = 11 ∨ k = 12 ∨ k = 13 ∨ k = 14 ∨ k = 15 ∨ k = 16 ∨ k = 17 := by omega
      rcases hh with rfl | rfl | rfl | rfl | rfl | rfl | rfl | rfl <;> simp (disch := omega) only [uF_e, uF_n]
    · simp (disch := omega) only [uF_e, uF_n]
  | succ d ih =>
    intro k f F hk hff h
    obtain ⟨f, rfl⟩ := fs_e (show 0 < f by omega)
    obtain ⟨G, a1, a2, a3, a4, a5⟩ := ih (k + 1) f (uF F 19 k 0) (by omega) (by omega) (fun j hj => by
      by_cases c : j = k
      · rw [c, uF_e]
      · rw [uF_k c]
        exact h j (by omega))
    refine ⟨G, ?_, a2, a3, a4, fun o k' ho ho2 => by rw [a5 o k' ho ho2, uF_o ho]⟩
    rw [f_X0_begin_p1_0_2_0_b74, wr_e (z := 60) (by decide), wr_e (z := (k : Int)) (by omega), if_neg (by omega), ckI_e (by omega), Int.toNat_natCast, sR_w, lt1_e]
    exact a1
theorem p_begin2 (hf : 10000000 ≤ fu S) {π F0 : xR} (h1 : ∀ k : Nat, k < 6 → F0 1 k = π 1 k) (h2 : F0 2 2 = π 2 2) (h3 : ∀ k : Nat, k < 7 → F0 3 k = π 3 k) (h4 : ∀ k : Nat, k < 7 → F0 4 k = π 4 k) (h5 : F0 5 2 = 0) (h8 : F0 8 0 = 0) : ∃ G, (bd (f_J7_fill_53178_p1_10 (sR S r F0) r 0) fun S8 => bd (f_X4_begin_p1_11 S8 r) fun S10 => bd (f_X9_clear_p1_14 S10 r) fun S12 => f_X0_begin_p1_0_2_0_b74 r q (fu S12) S12 0) = some (sR S r G) ∧ FRE G π := by
  obtain ⟨G1, a1, a2, a3⟩ := p_fill_10 (F := F0) hf
  obtain ⟨G2, b1, b2, b3⟩ := p_fill_13 (F := G1) hf
  obtain ⟨G3, c1, c2, c3⟩ := p_fill_15 (F := uF G2 11 1 0) hf
  obtain ⟨G4, d1, d2, d3⟩ := p_fill_16 (F := G3) hf
  obtain ⟨G5, e1, e2, e3⟩ := p_fill_17 (F := G4) hf
  obtain ⟨G6, f1, f2, f3, f4, f5⟩ := p_b74 (S := S) (q := q) 60 0 (fu S) (uF G5 14 4 0) (by decide) (by omega) (fun j hj => absurd hj (by omega))
  have ch : ∀ o k : Nat, o ≠ 0 → o ≠ 10 → o ≠ 11 → o ≠ 13 → o ≠ 14 → o ≠ 15 → o ≠ 16 → o ≠ 17 → o ≠ 19 → G6 o k = F0 o k := fun o k x0 x1 x2 x3 x4 x5 x6 x7 x8 => by
    rw [f5 o k x8 x0, uF_o x4, e3 o k x7, d3 o k x6, c3 o k x5, uF_o x2, b3 o k x3, a3 o k x1]
  refine ⟨G6, ?_, fun k hk => ?_, ?_, fun k hk => ?_, fun k hk => ?_, ?_, ?_, fun k hk => ?_, ?_, fun k hk => ?_, ?_, fun k hk => ?_, fun k hk => ?_, fun k hk => ?_, f2, f3, f4⟩
  · rw [a1, bd_e]
    unfold f_X4_begin_p1_11 f_X9_clear_p1_14
    rw [b1, bd_e, sR_w, lt1_e, bd_e, c1, bd_e, d1, bd_e, e1, bd_e, sR_w, lt1_e, bd_e]
    exact f1
  · rw [ch 1 k (by decide) (by decide) (by decide) (by decide) (by decide) (by decide) (by decide) (by decide) (by decide), h1 k hk]
  · rw [ch 2 2 (by decide) (by decide) (by decide) (by decide) (by decide) (by decide) (by decide) (by decide) (by decide), h2]
  · rw [ch 3 k (by decide) (by decide) (by decide) (by decide) (by decide) (by decide) (by decide) (by decide) (by decide), h3 k hk]
  · rw [ch 4 k (by decide) (by decide) (by decide) (by decide) (by decide) (by decide) (by decide) (by decide) (by decide), h4 k hk]
  · rw [ch 5 2 (by decide) (by decide) (by decide) (by decide) (by decide) (by decide) (by decide) (by decide) (by decide), h5]
  · rw [ch 8 0 (by decide) (by decide) (by decide) (by decide) (by decide) (by decide) (by decide) (by decide) (by decide), h8]
  · rw [f5 10 k (by decide) (by decide), uF_o (by decide), e3 10 k (by decide), d3 10 k (by decide), c3 10 k (by decide), uF_o (by decide), b3 10 k (by decide), a2 k hk]
  · rw [f5 11 1 (by decide) (by decide), uF_o (by decide), e3 11 1 (by decide), d3 11 1 (by decide), c3 11 1 (by decide), uF_e]
  · rw [f5 13 k (by decide) (by decide), uF_o (by decide), e3 13 k (by decide), d3 13 k (by decide), c3 13 k (by decide), uF_o (by decide), b2 k hk]
  · rw [f5 14 4 (by decide) (by decide), uF_e]
  · rw [f5 15 k (by decide) (by decide), uF_o (by decide), e3 15 k (by decide), d3 15 k (by decide), c2 k hk]
  · rw [f5 16 k (by decide) (by decide), uF_o (by decide), e3 16 k (by decide), d2 k hk]
  · rw [f5 17 k (by decide) (by decide), uF_o (by decide), e2 k hk]
theorem p_begin (hf : 10000000 ≤ fu S) (hq : q ≠ r) : ∃ G, f_X0_begin_p1_0_2_0 S r q = some (sR (wP S r 0 0 (q, 0)) r G) ∧ FRE G (S.2.1 q) := by
  have e : S = sR S r (S.2.1 r) := sR_e.symm
  have w0 : (wr 0).toNat = 0 := by decide
  have w6 : (wr 6).toNat = 6 := by decide
  have w7 : (wr 7).toNat = 7 := by decide
  have hS1 : ∀ F : xR, (sR (wP S r 0 0 (q, 0)) r F).2.1 q = S.2.1 q := fun F => sR_n1 hq
  obtain ⟨G, a1, a2⟩ := p_begin2 (S := wP S r 0 0 (q, 0)) (q := q) (r := r) hf (π := S.2.1 q) (F0 := uF (uF (uF (uG (uG (uG (S.2.1 r) 1 (cpI (S.2.1 q 1) (S.2.1 r 1) 0 0 6)) 3 (cpI (S.2.1 q 3) (S.2.1 r 3) 0 0 7)) 4 (cpI (S.2.1 q 4) (S.2.1 r 4) 0 0 7)) 2 2 (S.2.1 q 2 2)) 5 2 0) 8 0 0) (fun k hk => by
      rw [uF_o (by decide), uF_o (by decide), uF_o (by decide), uG_o (by decide), uG_o (by decide), uG_e, cpI_0 hk]) (by rw [uF_o (by decide), uF_o (by decide), uF_e]) (fun k hk => by
      rw [uF_o (by decide), uF_o (by decide), uF_o (by decide), uG_o (by decide), uG_e, cpI_0 hk]) (fun k hk => by
      rw [uF_o (by decide), uF_o (by decide), uF_o (by decide), uG_e, cpI_0 hk]) (by rw [uF_o (by decide), uF_e]) (by rw [uF_e])
  refine ⟨G, ?_, a2⟩
  have h0 : f_X0_begin_p1_0_2_0 (sR S r (S.2.1 r)) r q = some (sR (wP S r 0 0 (q, 0)) r G) := by
    unfold f_X0_begin_p1_0_2_0 f_X8_copyFrom_p1_2_2_2
    rw [wP_s, lt1_e, w0, w6, w7, hS1, sR_g1, sR_a, lt1_e, hS1, sR_g1, sR_a, lt1_e, hS1, sR_g1, sR_a, lt1_e, sR_n hq, sR_w, lt1_e, bd_e, sR_w, lt1_e, sR_w, lt1_e]
    exact a1
  rw [← e] at h0
  exact h0
theorem m_clears (hT : 10000000 ≤ fu T) : ∃ μ', f_X12_clears_p4_0 (sR T 13 μ) 13 = some (sR T 13 μ') ∧ μ' 0 31 = 0 ∧ μ' 0 32 = 0 ∧ μ' 0 33 = 16 ∧ μ' 0 34 = 8 ∧ μ' 0 35 = 16 ∧ μ' 7 0 = 4 ∧ μ' 7 1 = 4 ∧ μ' 7 15 = -1 ∧ (∀ k : Nat, k < 363 → k ≠ 0 → k ≠ 1 → k ≠ 15 → μ' 7 k = 0) ∧ ∀ o k : Nat, o ≠ 7 → ¬ (o = 0 ∧ 31 ≤ k ∧ k ≤ 35) → μ' o k = μ o k := by
  have key : ∀ (d k f : Nat) (F : xR), k + d = 363 → d < f → (∀ j : Nat, j < k → F 7 j = 0) → ∃ G, f_X12_clears_p4_0_b30 13 f (sR T 13 F) (k : Int) = some (sR T 13 (uF (uF (uF G 7 0 4) 7 1 4) 7 15 (-1))) ∧ (∀ k : Nat, k < 363 → G 7 k = 0) ∧ ∀ o k : Nat, o ≠ 7 → G o k = F o k := by
    intro d
    induction d with
    | zero =>
      intro k f F hk hff h
      obtain ⟨f, rfl⟩ := fs_e (show 0 < f by omega)
      have ek : k = 363 := by omega
      subst ek
      exact ⟨F, by rw [f_X12_clears_p4_0_b30, if_pos (by decide), sR_w, lt1_e, sR_w, lt1_e, sR_w, lt1_e], h, fun _ _ _ => rfl⟩
    | succ d ih =>
      intro k f F hk hff h
      obtain ⟨f, rfl⟩ := fs_e (show 0 < f by omega)
      obtain ⟨G, a1, a2, a3⟩ := ih (k + 1) f (uF F 7 k 0) (by omega) (by omega) (fun j hj => by
        by_cases c : j = k
        · rw [c, uF_e]
        · rw [uF_k c]
          exact h j (by omega))
      refine ⟨G, ?_, a2, fun o k' ho => by rw [a3 o k' ho, uF_o ho]⟩
      rw [f_X12_clears_p4_0_b30, wr_e (z := 363) (by decide), wr_e (z := (k : Int)) (by omega), if_neg (by omega), ckI_e (by omega), Int.toNat_natCast, sR_w, lt1_e]
      exact a1
  obtain ⟨G, a1, a2, a3⟩ := key 363 0 (fu T) (uF (uF (uF (uF (uF μ 0 31 0) 0 32 0) 0 33 16) 0 34 8) 0 35 16) (by decide) (by omega) (fun j hj => absurd hj (by omega))
  refine ⟨uF (uF (uF G 7 0 4) 7 1 4) 7 15 (-1), ?_, ?_, ?_, ?_, ?_, ?_, ?_, ?_, ?_, fun k h1 h2 h3 h4 => ?_, fun o k h1 h2 => ?_⟩
  · unfold f_X12_clears_p4_0
    rw [sR_w, lt1_e, sR_w, lt1_e, sR_w, lt1_e, sR_w, lt1_e, sR_w, lt1_e]
    exact a1
  · rw [uF_n (by omega), uF_n (by omega), uF_n (by omega), a3 0 31 (by decide)]
    simp (disch := omega) only [uF_e, uF_n]
  · rw [uF_n (by omega), uF_n (by omega), uF_n (by omega), a3 0 32 (by decide)]
    simp (disch := omega) only [uF_e, uF_n]
  · rw [uF_n (by omega), uF_n (by omega), uF_n (by omega), a3 0 33 (by decide)]
    simp (disch := omega) only [uF_e, uF_n]
  · rw [uF_n (by omega), uF_n (by omega), uF_n (by omega), a3 0 34 (by decide)]
    simp (disch := omega) only [uF_e, uF_n]
  · rw [uF_n (by omega), uF_n (by omega), uF_n (by omega), a3 0 35 (by decide)]
    simp (disch := omega) only [uF_e, uF_n]
  · simp (disch := omega) only [uF_e, uF_n]
  · simp (disch := omega) only [uF_e, uF_n]
  · simp (disch := omega) only [uF_e, uF_n]
  · rw [uF_n (by omega), uF_n (by omega), uF_n (by omega), a2 k h1]
  · rw [uF_n (by omega), uF_n (by omega), uF_n (by omega), a3 o k h1]
    simp (disch := omega) only [uF_e, uF_n]
/-- the class's parser begins -/
theorem c_tbegin (hf : 10000000 ≤ fu S) (hk0 : gk S 0 = 3) (hkq : gk S q = 2) (hq : q = 11 ∨ q = 12) {a : Int} (ha : 0 ≤ a ∧ a ≤ 600) : W2 q (wP (wP S 0 2 0 (0, 1)) 0 2 2 (q, 0)) ∧ ∃ X0 Y0, f_X3_begin_p3_2_3_1_2_0 (cs S q X Y) 0 0 a q = some (cs (wP (wP S 0 2 0 (0, 1)) 0 2 2 (q, 0)) q X0 Y0) ∧ X0 2 1 = a ∧ X0 2 5 = 0 ∧ X0 2 10 = 0 ∧ X0 2 11 = 0 ∧ X0 2 12 = -1 ∧ (∀ k : Nat, k < 6 → X0 3 k = 0) ∧ (∀ o k : Nat, o ≠ 2 → o ≠ 3 → X0 o k = X o k) ∧ (∀ k : Nat, k < 6 → Y0 1 k = tbI 5 k) ∧ Y0 2 2 = 0 ∧ Y0 0 10 = 0 ∧ Y0 9 0 = 0 := by
  have hW : W2 q (wP (wP S 0 2 0 (0, 1)) 0 2 2 (q, 0)) := ⟨⟨rfl, hk0, hf⟩, rfl, hkq, hq⟩
  refine ⟨hW, ?_⟩
  have w0 : (wr 0).toNat = 0 := by decide
  have w6 : (wr 6).toNat = 6 := by decide
  have hmin : iMin a 600 = a := by
    unfold iMin
    rw [wr_e (z := 600) (by decide), wr_e (z := a) (by omega), if_neg (by omega)]
  have hq0 : q ≠ 0 := by omega
  have key : ∀ (d k f : Nat) (F : xR), k + d = 6 → d < f → (∀ j : Nat, j < k → F 3 j = 0) → ∃ G, f_X3_begin_p3_2_3_1_2_0_b40 0 0 q f (sR (sR (wP (wP S 0 2 0 (0, 1)) 0 2 2 (q, 0)) q (uF (uF (uF (uG Y 1 (cpI (tbI 5) (Y 1) 0 0 6)) 2 2 0) 0 10 0) 9 0 0)) 0 F) (k : Int) = some (sR (sR (wP (wP S 0 2 0 (0, 1)) 0 2 2 (q, 0)) q (uF (uF (uF (uG Y 1 (cpI (tbI 5) (Y 1) 0 0 6)) 2 2 0) 0 10 0) 9 0 0)) 0 (uF (uF G 2 11 0) 2 12 (-1))) ∧ (∀ k : Nat, k < 6 → G 3 k = 0) ∧ ∀ o k : Nat, o ≠ 3 → G o k = F o k := by
    intro d
    induction d with
    | zero =>
      intro k f F hk hff h
      obtain ⟨f, rfl⟩ := fs_e (show 0 < f by omega)
      have ek : k = 6 := by omega
      subst ek
      exact ⟨F, by rw [f_X3_begin_p3_2_3_1_2_0_b40, if_pos (by decide), sR_w, lt1_e, sR_w, lt1_e], h, fun _ _ _ => rfl⟩
    | succ d ih =>
      intro k f F hk hff h
      obtain ⟨f, rfl⟩ := fs_e (show 0 < f by omega)
      obtain ⟨G, a1, a2, a3⟩ := ih (k + 1) f (uF F 3 k 0) (by omega) (by omega) (fun j hj => by
        by_cases c : j = k
        · rw [c, uF_e]
        · rw [uF_k c]
          exact h j (by omega))
      refine ⟨G, ?_, a2, fun o k' ho => by rw [a3 o k' ho, uF_o ho]⟩
      rw [f_X3_begin_p3_2_3_1_2_0_b40, wr_e (z := 6) (by decide), wr_e (z := (k : Int)) (by omega), if_neg (by omega), ckI_e (by omega), Int.toNat_natCast, sR_w, lt1_e]
      exact a1
  obtain ⟨G, a1, a2, a3⟩ := key 6 0 (fu S) (uF (uF (uF X 2 1 a) 2 5 0) 2 10 0) (by decide) (by omega) (fun j hj => absurd hj (by omega))
  have hcl : f_X5_clear_p2_0 (cs (wP (wP S 0 2 0 (0, 1)) 0 2 2 (q, 0)) q (uF X 2 1 a) Y) q = some (cs (wP (wP S 0 2 0 (0, 1)) 0 2 2 (q, 0)) q (uF X 2 1 a) (uF (uF (uF (uG Y 1 (cpI (tbI 5) (Y 1) 0 0 6)) 2 2 0) 0 10 0) 9 0 0)) := by
    unfold f_X5_clear_p2_0
    rw [cs_q hW, cs_q hW, w0, w6, sR_g1, sR_a, lt1_e, sR_w, lt1_e, sR_w, lt1_e, sR_w, lt1_e]
  refine ⟨uF (uF G 2 11 0) 2 12 (-1), uF (uF (uF (uG Y 1 (cpI (tbI 5) (Y 1) 0 0 6)) 2 2 0) 0 10 0) 9 0 0, ?_, ?_, ?_, ?_, ?_, ?_, fun k hk => ?_, fun o k h1 h2 => ?_, fun k hk => ?_, ?_, ?_, ?_⟩
  · unfold f_X3_begin_p3_2_3_1_2_0
    rw [lt1_e, hmin, show wP (cs S q X Y) 0 2 0 (0, 1) = cs (wP S 0 2 0 (0, 1)) q X Y from rfl, cs_wx, lt1_e, lt1_e, show wP (cs (wP S 0 2 0 (0, 1)) q (uF X 2 1 a) Y) 0 2 2 (q, 0) = cs (wP (wP S 0 2 0 (0, 1)) 0 2 2 (q, 0)) q (uF X 2 1 a) Y from rfl, cs_p hW, hcl, bd_e, cs_wx, lt1_e, cs_wx, lt1_e]
    exact a1
  · rw [uF_n (by omega), uF_n (by omega), a3 2 1 (by decide)]
    simp (disch := omega) only [uF_e, uF_n]
  · rw [uF_n (by omega), uF_n (by omega), a3 2 5 (by decide)]
    simp (disch := omega) only [uF_e, uF_n]
  · rw [uF_n (by omega), uF_n (by omega), a3 2 10 (by decide)]
    simp (disch := omega) only [uF_e, uF_n]
  · simp (disch := omega) only [uF_e, uF_n]
  · simp (disch := omega) only [uF_e, uF_n]
  · rw [uF_n (by omega), uF_n (by omega), a2 k hk]
  · rw [uF_n (by omega), uF_n (by omega), a3 o k h2]
    simp (disch := omega) only [uF_e, uF_n]
  · rw [uF_o (by decide), uF_o (by decide), uF_o (by decide), uG_e, cpI_0 hk]
  · rw [uF_o (by decide), uF_o (by decide), uF_e]
  · rw [uF_o (by decide), uF_e]
  · rw [uF_e]
end BG
