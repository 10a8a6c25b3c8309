/-! mathematics: the instructions of the text are read -/
/-- the program so far: i instructions in order -/
def IVP (P : xR) (i : Nat) : Prop := P 0 10 = (i : Int) ∧ ∀ k : Nat, k < i → (0 ≤ P 5 k ∧ P 5 k ≤ 9) ∧ (P 6 k = 0 ∨ P 6 k = 1) ∧ (8 ≤ P 5 k → (-60 ≤ P 7 k ∧ P 7 k ≤ 60) ∧ 0 ≤ (k : Int) + P 7 k) ∧ (P 5 k = 9 → 1 ≤ P 8 k ∧ P 8 k ≤ 99)
/-- the settings and rules stay -/
def BK (P P' : xR) : Prop := ∀ o k, (o ≤ 4 ∨ 9 ≤ o) → (o ≠ 0 ∨ k ≠ 10) → P' o k = P o k
section C3E
variable {T S : xSt} {H H' H1 H2 P P' P1 P2 : xR} {L : List Int} {n : Nat} {q : Nat → Int}
theorem bk_t (h : BK P P1) (h2 : BK P1 P2) : BK P P2 := fun o k a b => (h2 o k a b).trans (h o k a b)
theorem hdr_bk (h : HDR P) (hb : BK P P') : HDR P' := by
  unfold HDR at h ⊢
  have e1 : ∀ k, P' 1 k = P 1 k := fun k => hb 1 k (Or.inl (by decide)) (Or.inl (by decide))
  have e2 : ∀ k, P' 2 k = P 2 k := fun k => hb 2 k (Or.inl (by decide)) (Or.inl (by decide))
  have e3 : ∀ k, P' 3 k = P 3 k := fun k => hb 3 k (Or.inl (by decide)) (Or.inl (by decide))
  have e4 : ∀ k, P' 4 k = P 4 k := fun k => hb 4 k (Or.inl (by decide)) (Or.inl (by decide))
  simp only [e1, e2, e3, e4]
  exact h
theorem ain_bk {m kd lg st ti : Int} : BK P (ainF P m kd lg st ti) := fun o k a b => by
  unfold ainF
  rw [uF_x b, uF_o (by omega), uF_o (by omega), uF_o (by omega), uF_o (by omega)]
theorem ain_iv {i : Nat} {kd lg st ti : Int} (h : IVP P i) (h1 : 0 ≤ kd ∧ kd ≤ 9) (h2 : lg = 0 ∨ lg = 1) (h3 : 8 ≤ kd → (-60 ≤ st ∧ st ≤ 60) ∧ 0 ≤ (i : Int) + st) (h4 : kd = 9 → 1 ≤ ti ∧ ti ≤ 99) : IVP (ainF P (i : Int) kd lg st ti) (i + 1) := by
  have et : ((i : Int)).toNat = i := by omega
  have e5 : ∀ k, ainF P (i : Int) kd lg st ti 5 k = if k = i then kd else P 5 k := fun k => by
    unfold ainF
    rw [uF_o (by decide), uF_o (by decide), uF_o (by decide), uF_o (by decide), uF_v, et]
  have e6 : ∀ k, ainF P (i : Int) kd lg st ti 6 k = if k = i then lg else P 6 k := fun k => by
    unfold ainF
    rw [uF_o (by decide), uF_o (by decide), uF_o (by decide), uF_v, et, uF_o (by decide)]
  have e7 : ∀ k, ainF P (i : Int) kd lg st ti 7 k = if k = i then st else P 7 k := fun k => by
    unfold ainF
    rw [uF_o (by decide), uF_o (by decide), uF_v, et, uF_o (by decide), uF_o (by decide)]
  have e8 : ∀ k, ainF P (i : Int) kd lg st ti 8 k = if k = i then ti else P 8 k := fun k => by
    unfold ainF
    rw [uF_o (by decide), uF_v, et, uF_o (by decide), uF_o (by decide), uF_o (by decide)]
  refine ⟨?_, fun k hk => ?_⟩
  · unfold ainF
    rw [uF_e]
    omega
  · rw [e5, e6, e7, e8]
    by_cases c : k = i
    · rw [if_pos c, if_pos c, if_pos c, if_pos c, c]
      exact ⟨h1, h2, h3, h4⟩
    · rw [if_neg c, if_neg c, if_neg c, if_neg c]
      exact h.2 k (by omega)
/-- the i-th statement's text -/
def stT (i kd ar : Nat) : List Int := if kd = 10 ∧ 0 < i then ldL 17 ++ 32 :: (ldL 25 ++ 32 :: (dgL (1 + ar % i) ++ 32 :: (ldL 27 ++ 32 :: (dgL (1 + ar) ++ [59])))) else if kd = 11 then ldL 16 ++ 32 :: (ldL 26 ++ 32 :: (dgL (ar % 3) ++ [59])) else if kd = 9 then ldL 24 ++ 32 :: (ldL 9 ++ [59]) else ldL (8 + kd % 8) ++ [59]
theorem add_e {A : List Int} {i kd ar : Nat} : addL A i kd ar = A ++ stT i kd ar := by
  obtain ⟨-, -, -, -, -, -, -, l1, l2, l3, l4⟩ := ld_eq
  have c59 : ((59 : Nat) : Int) = 59 := rfl
  unfold addL stT
  rw [l1, l2, l3, l4, ld_k (kd % 8) (by omega), c59]
  split
  · simp only [List.append_assoc, List.cons_append, List.nil_append, List.append_nil]
  · split
    · simp only [List.append_assoc, List.cons_append, List.nil_append, List.append_nil]
    · split
      · rfl
      · simp only [List.append_assoc, List.cons_append, List.nil_append, List.append_nil]
/-- one instruction of the text -/
theorem s_one (hT : TC T) (hX : TX H L) {A M : List Int} (h5 : H 2 5 = (A.length : Int)) (h10 : H 2 10 = 0) {i kd ar : Nat} (hi : i < 12) (hkd : kd ≤ 11) (har : ar ≤ 8) (hP : IVP P i) (hL : L = A ++ (stT i kd ar ++ M)) : ∃ H' P', STM T L H P (A ++ stT i kd ar) H' P' ∧ IVP P' (i + 1) ∧ BK P P' := by
  have hn := hP.1
  have hb : 0 ≤ (i : Int) ∧ (i : Int) < 60 := by omega
  unfold stT at hL ⊢
  by_cases c1 : kd = 10 ∧ 0 < i
  · rw [if_pos c1] at hL ⊢
    have hm : ar % i < i := Nat.mod_lt _ c1.2
    obtain ⟨H', s, -⟩ := s_br (P := P) (A := A) (M := M) (v := 1 + ar % i) (u := 1 + ar) (w := ((1 + ar % i : Nat) : Int)) (y := ((1 + ar : Nat) : Int)) hT hX h5 h10 rfl rfl hn hb (by omega) (by omega) (by rw [hL]; simp only [List.append_assoc, List.cons_append, List.nil_append, List.append_nil])
    refine ⟨H', _, ?_, ain_iv (kd := 9) (lg := 0) (st := -((1 + ar % i : Nat) : Int)) (ti := ((1 + ar : Nat) : Int)) hP (by decide) (Or.inl rfl) (fun _ => by omega) (fun _ => by omega), ain_bk⟩
    have e : A ++ ldL 17 ++ [32] ++ ldL 25 ++ [32] ++ dgL (1 + ar % i) ++ [32] ++ ldL 27 ++ [32] ++ dgL (1 + ar) ++ [59] = A ++ (ldL 17 ++ 32 :: (ldL 25 ++ 32 :: (dgL (1 + ar % i) ++ 32 :: (ldL 27 ++ 32 :: (dgL (1 + ar) ++ [59]))))) := by simp only [List.append_assoc, List.cons_append, List.nil_append, List.append_nil]
    rw [e] at s
    exact s
  · rw [if_neg c1] at hL ⊢
    by_cases c2 : kd = 11
    · rw [if_pos c2] at hL ⊢
      have hm : ar % 3 < 3 := Nat.mod_lt _ (by decide)
      obtain ⟨H', s, -⟩ := s_jmp (P := P) (A := A) (M := M) (v := ar % 3) (w := ((ar % 3 : Nat) : Int)) hT hX h5 h10 rfl (by omega) hn hb (by rw [hL]; simp only [List.append_assoc, List.cons_append, List.nil_append, List.append_nil])
      refine ⟨H', _, ?_, ain_iv (kd := 8) (lg := 0) (st := ((ar % 3 : Nat) : Int) + 1) (ti := 0) hP (by decide) (Or.inl rfl) (fun _ => by omega) (fun z => absurd z (by decide)), ain_bk⟩
      have e : A ++ ldL 16 ++ [32] ++ ldL 26 ++ [32] ++ dgL (ar % 3) ++ [59] = A ++ (ldL 16 ++ 32 :: (ldL 26 ++ 32 :: (dgL (ar % 3) ++ [59]))) := by simp only [List.append_assoc, List.cons_append, List.nil_append, List.append_nil]
      rw [e] at s
      exact s
    · rw [if_neg c2] at hL ⊢
      by_cases c3 : kd = 9
      · rw [if_pos c3] at hL ⊢
        obtain ⟨H', s, -⟩ := s_lg (P := P) (A := A) (M := M) (q := 9) (kd := 1) hT hX h5 h10 (by decide) (by decide) hn hb (by rw [hL]; simp only [List.append_assoc, List.cons_append, List.nil_append, List.append_nil])
        refine ⟨H', _, ?_, ain_iv (kd := 1) (lg := 1) (st := -1) (ti := 0) hP (by decide) (Or.inr rfl) (fun z => absurd z (by decide)) (fun z => absurd z (by decide)), ain_bk⟩
        have e : A ++ ldL 24 ++ [32] ++ ldL 9 ++ [59] = A ++ (ldL 24 ++ 32 :: (ldL 9 ++ [59])) := by simp only [List.append_assoc, List.cons_append, List.nil_append, List.append_nil]
        rw [e] at s
        exact s
      · rw [if_neg c3] at hL ⊢
        have hm : kd % 8 < 8 := Nat.mod_lt _ (by decide)
        obtain ⟨H', s, -⟩ := s_pl (P := P) (A := A) (M := M) (q := 8 + kd % 8) (kd := ((kd % 8 : Nat) : Int)) hT hX h5 h10 (by omega) (by omega) hn hb (by rw [hL]; simp only [List.append_assoc, List.cons_append, List.nil_append, List.append_nil])
        refine ⟨H', _, ?_, ain_iv (kd := ((kd % 8 : Nat) : Int)) (lg := 0) (st := -1) (ti := 0) hP (by omega) (Or.inl rfl) (fun z => absurd z (by omega)) (fun z => absurd z (by omega)), ain_bk⟩
        have e : A ++ ldL (8 + kd % 8) ++ [59] = A ++ (ldL (8 + kd % 8) ++ [59]) := by simp only [List.append_assoc, List.cons_append, List.nil_append, List.append_nil]
        rw [e] at s
        exact s
theorem bod_s (i : Nat) : bodT n q (i + 1) = bodT n q i ++ stT i (drN n q (9 + 2 * i) 0 11) (drN n q (10 + 2 * i) 0 8) := add_e
theorem bod_p (i : Nat) : ∀ d : Nat, ∃ R, bodT n q (i + d) = bodT n q i ++ R := by
  intro d
  induction d with
  | zero => exact ⟨[], (List.append_nil _).symm⟩
  | succ d ih =>
    obtain ⟨R, e⟩ := ih
    refine ⟨R ++ stT (i + d) (drN n q (9 + 2 * (i + d)) 0 11) (drN n q (10 + 2 * (i + d)) 0 8), ?_⟩
    rw [← List.append_assoc, ← e]
    exact bod_s (i + d)
/-- all instructions -/
theorem s_all (hT : TC T) {P0 : xR} {m : Nat} (hm : m ≤ 12) (hL : L = bodT n q m) (h0 : STK T L 8 H P (bodT n q 0) H1 P0) (hP : IVP P0 0) : ∀ i : Nat, i ≤ m → ∃ H' P', STK T L (8 + i) H P (bodT n q i) H' P' ∧ IVP P' i ∧ BK P0 P' := by
  intro i
  induction i with
  | zero => exact fun _ => ⟨H1, P0, h0, hP, fun _ _ _ _ => rfl⟩
  | succ i ih =>
    intro hi
    obtain ⟨H2, P2, s2, v2, b2⟩ := ih (by omega)
    obtain ⟨R, e⟩ := bod_p (n := n) (q := q) (i + 1) (m - (i + 1))
    rw [show i + 1 + (m - (i + 1)) = m by omega, ← hL, bod_s, List.append_assoc] at e
    have b9 := drN_le (n := n) (q := q) (i := 9 + 2 * i) (lo := 0) (hi := 11) (by decide)
    have b10 := drN_le (n := n) (q := q) (i := 10 + 2 * i) (lo := 0) (hi := 8) (by decide)
    obtain ⟨H3, P3, s3, v3, b3⟩ := s_one hT s2.2.1 s2.2.2.1 s2.2.2.2.1 (by omega) b9.2 b10.2 v2 e
    refine ⟨H3, P3, ?_, v3, bk_t b2 b3⟩
    rw [bod_s]
    exact stk_s s2 s3
theorem hdr_n {R : List Int} {d0 d1 d2 d3 d4 d5 k6 k7 : Nat} (h6 : k6 < 8) (h7 : k7 < 8) : hdrF d0 d1 d2 d3 d4 d5 k6 k7 ++ R = [] ++ (ldL 18 ++ 32 :: (dgL d0 ++ 59 :: (ldL 19 ++ 32 :: (dgL (8 * 2 ^ d1) ++ 59 :: (ldL 20 ++ 32 :: (dgL d2 ++ 59 :: (ldL 21 ++ 32 :: (dgL d3 ++ 59 :: (ldL 22 ++ 32 :: (dgL d4 ++ 59 :: (ldL 23 ++ 32 :: (dgL d5 ++ 59 :: (ldL 7 ++ 32 :: (ldL 13 ++ 32 :: (ldL 17 ++ 59 :: (ldL 7 ++ 32 :: (ldL (8 + k6) ++ 32 :: (ldL (8 + k7) ++ 59 :: R)))))))))))))))))) := by
  obtain ⟨l1, l2, l3, l4, l5, l6, l7, -⟩ := ld_eq
  have c59 : ((59 : Nat) : Int) = 59 := rfl
  have c32 : ((32 : Nat) : Int) = 32 := rfl
  unfold hdrF
  rw [l1, l2, l3, l4, l5, l6, l7, ld_k k6 h6, ld_k k7 h7, c59, c32]
  simp only [List.append_assoc, List.cons_append, List.nil_append, List.append_nil]
theorem hdr_a {d0 d1 d2 d3 d4 d5 k6 k7 : Nat} (h6 : k6 < 8) (h7 : k7 < 8) : hdrF d0 d1 d2 d3 d4 d5 k6 k7 = [] ++ ldL 18 ++ [32] ++ dgL d0 ++ [59] ++ ldL 19 ++ [32] ++ dgL (8 * 2 ^ d1) ++ [59] ++ ldL 20 ++ [32] ++ dgL d2 ++ [59] ++ ldL 21 ++ [32] ++ dgL d3 ++ [59] ++ ldL 22 ++ [32] ++ dgL d4 ++ [59] ++ ldL 23 ++ [32] ++ dgL d5 ++ [59] ++ ldL 7 ++ [32] ++ ldL 13 ++ [32] ++ ldL 17 ++ [59] ++ ldL 7 ++ [32] ++ ldL (8 + k6) ++ [32] ++ ldL (8 + k7) ++ [59] := by
  obtain ⟨l1, l2, l3, l4, l5, l6, l7, -⟩ := ld_eq
  have c59 : ((59 : Nat) : Int) = 59 := rfl
  have c32 : ((32 : Nat) : Int) = 32 := rfl
  unfold hdrF
  rw [l1, l2, l3, l4, l5, l6, l7, ld_k k6 h6, ld_k k7 h7, c59, c32]
  simp only [List.append_assoc, List.cons_append, List.nil_append, List.append_nil]
theorem pw_8 {d : Nat} (h : d ≤ 2) : 8 * 2 ^ d = 8 ∨ 8 * 2 ^ d = 16 ∨ 8 * 2 ^ d = 32 := by
  rcases (show d = 0 ∨ d = 1 ∨ d = 2 by omega) with h | h | h <;> subst h <;> decide
/-- the whole text, up to its end -/
theorem s_txt (hT : TC T) (hL : L = setT n q) (hX : TX H L) (h5 : H 2 5 = 0) (h10 : H 2 10 = 0) (h3 : ∀ j : Nat, j < 6 → H 3 j = 0) (h22 : P 2 2 = 0) (h010 : P 0 10 = 0) : ∃ H' P', STK T L (8 + drN n q 8 1 12) H P L H' P' ∧ IVP P' (drN n q 8 1 12) ∧ HDR P' ∧ ∀ k, P' 9 k = P 9 k := by
  have b0 := drN_le (n := n) (q := q) (i := 0) (lo := 1) (hi := 6) (by decide)
  have b1 := drN_le (n := n) (q := q) (i := 1) (lo := 0) (hi := 2) (by decide)
  have b2 := drN_le (n := n) (q := q) (i := 2) (lo := 2) (hi := 20) (by decide)
  have b3 := drN_le (n := n) (q := q) (i := 3) (lo := 4) (hi := 40) (by decide)
  have b4 := drN_le (n := n) (q := q) (i := 4) (lo := 1) (hi := 8) (by decide)
  have b5 := drN_le (n := n) (q := q) (i := 5) (lo := 0) (hi := 30) (by decide)
  have b6 := drN_le (n := n) (q := q) (i := 6) (lo := 0) (hi := 4) (by decide)
  have b7 := drN_le (n := n) (q := q) (i := 7) (lo := 0) (hi := 7) (by decide)
  have b8 := drN_le (n := n) (q := q) (i := 8) (lo := 1) (hi := 12) (by decide)
  obtain ⟨R, e⟩ := bod_p (n := n) (q := q) 0 (drN n q 8 1 12)
  rw [Nat.zero_add] at e
  have e2 : L = hdrT n q ++ R := by
    rw [hL]
    exact e
  unfold hdrT at e2
  rw [hdr_n (by omega) (by omega)] at e2
  obtain ⟨H1, P1, s1, v1, w1⟩ := h_hdr (P := P) hT hX h5 h10 h3 (by omega) (pw_8 b1.2) (by omega) (by omega) (by omega) b5.2 (k6 := 8 + drN n q 6 0 4) (k7 := 8 + drN n q 7 0 7) (by omega) (by omega) h22 e2
  rw [← hdr_a (by omega) (by omega)] at s1
  obtain ⟨H2, P2, s2, v2, w2⟩ := s_all (n := n) (q := q) (m := drN n q 8 1 12) hT b8.2 hL s1 ⟨(w1 0 10 (Or.inl rfl)).trans h010, fun k hk => absurd hk (by omega)⟩ (drN n q 8 1 12) (Nat.le_refl _)
  refine ⟨H2, P2, ?_, v2, hdr_bk v1 w2, fun k => (w2 9 k (Or.inr (by decide)) (Or.inl (by decide))).trans (w1 9 k (Or.inr (by decide)))⟩
  have e3 : bodT n q (drN n q 8 1 12) = L := hL.symm
  rw [e3] at s2
  exact s2
end C3E
