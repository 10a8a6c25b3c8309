/-! mathematics: the start -/
def ckk (f1 : Nat → Bool) (f2 : Nat → Nat → Bool) (o : Nat) (k : xK) : Bool := match k with
  | .inl q => (List.range q.2.length).all (fun j => match q.2[j]? with
    | some (.inr (some d)) => f1 d.1
    | some (.inr none) => f2 o j
    | _ => true)
  | .inr (.inl _) => true
  | .inr (.inr q) => q.2.all (fun d => f1 d.1)
def cka (κ : Nat) (f1 : Nat → Bool) (f2 : Nat → Nat → Bool) : Bool := (List.range 20).all (fun o => match lay κ o with
  | some k => ckk f1 f2 o k
  | none => true)
theorem cka_s {κ : Nat} {f1 : Nat → Bool} {f2 : Nat → Nat → Bool} (h : cka κ f1 f2 = true) (hn : ∀ (o : Nat) (k : xK), lay κ o = some k → o < 20) {o : Nat} {k : xK} (hl : lay κ o = some k) : ckk f1 f2 o k = true := by
  have a := List.all_eq_true.mp h o (List.mem_range.mpr (hn o k hl))
  rw [hl] at a
  exact a
theorem ckk_1 {f1 : Nat → Bool} {f2 : Nat → Nat → Bool} {o : Nat} {q : Nat × List xF} (h : ckk f1 f2 o (.inl q) = true) {j : Nat} {z : Option (Nat × Nat)} (hz : q.2[j]? = some (.inr z)) : (match z with
    | some d => f1 d.1 = true
    | none => f2 o j = true) := by
  have hj : j < q.2.length := (List.getElem?_eq_some_iff.mp hz).1
  have a := List.all_eq_true.mp h j (List.mem_range.mpr hj)
  rw [hz] at a
  cases z with
  | none => exact a
  | some d => exact a
theorem ckk_2 {f1 : Nat → Bool} {f2 : Nat → Nat → Bool} {o : Nat} {q : String × List (Nat × Nat)} (h : ckk f1 f2 o (.inr (.inr q)) = true) {j : Nat} {d : Nat × Nat} (hz : q.2[j]? = some d) : f1 d.1 = true := List.all_eq_true.mp h d (List.mem_of_getElem? hz)
theorem ck1 : cka 1 (fun d => d == 0) (fun o j => o == 0 && j == 0) = true := by decide +kernel
theorem ck2 : cka 2 (fun d => d == 0) (fun _ _ => false) = true := by decide +kernel
theorem ck4 : cka 4 (fun d => d == 0) (fun _ _ => false) = true := by decide +kernel
theorem ck3 : cka 3 (fun d => decide (d ≤ 9)) (fun o j => (o == 0 && (j == 4 || j == 5)) || (o == 2 && (j == 0 || j == 2))) = true := by decide +kernel
def AOk (E : xE) (S : xSt) (r : Nat) : Prop := ∀ r' : Nat, r' ≠ r → xkd E r' = 0 ∨ xkd E r' = 2 ∨ xkd E r' = 4 ∨ (xkd E r' = 1 ∧ (S.2.2 r' 0 0).1 ≠ r) ∨ (xkd E r' = 3 ∧ r' = 0 ∧ 10 ≤ r ∧ (S.2.2 0 0 4).1 ≠ r ∧ (S.2.2 0 0 5).1 ≠ r ∧ (S.2.2 0 2 0).1 ≠ r ∧ (S.2.2 0 2 2).1 ≠ r)
section ST
variable {E : xE} {S S' : xSt} {r a : Nat} {f : Nat → Nat}
theorem xap (h : AOk E S r) : xApart E S r := by
  intro r' o k hr hl
  have z2 : ∀ d : Nat, (d == 0) = true → r' + d ≠ r := fun d hd => by
    rw [beq_iff_eq] at hd
    omega
  rcases h r' hr with c | c | c | ⟨c, c1⟩ | ⟨c, c1, c2, c3, c4, c5, c6⟩
  · rw [c] at hl
    cases hl
  · rw [c] at hl
    have g := cka_s ck2 (fun o k h => by have := layn2 o k h; omega) hl
    rcases k with q | q | q
    · intro j z hz
      have u := ckk_1 g hz
      cases z with
      | none => exact absurd (show false = true from u) (by decide)
      | some d => exact z2 _ u
    · trivial
    · intro j d hz
      exact z2 _ (ckk_2 g hz)
  · rw [c] at hl
    have g := cka_s ck4 (fun o k h => by have := layn4 o k h; omega) hl
    rcases k with q | q | q
    · intro j z hz
      have u := ckk_1 g hz
      cases z with
      | none => exact absurd (show false = true from u) (by decide)
      | some d => exact z2 _ u
    · trivial
    · intro j d hz
      exact z2 _ (ckk_2 g hz)
  · rw [c] at hl
    have g := cka_s ck1 (fun o k h => layn1 o k h) hl
    rcases k with q | q | q
    · intro j z hz
      have u := ckk_1 g hz
      cases z with
      | none =>
        have u : (o == 0 && j == 0) = true := u
        rw [Bool.and_eq_true, beq_iff_eq, beq_iff_eq] at u
        show (S.2.2 r' o j).1 ≠ r
        rw [u.1, u.2]
        exact c1
      | some d => exact z2 _ u
    · trivial
    · intro j d hz
      exact z2 _ (ckk_2 g hz)
  · rw [c] at hl
    have g := cka_s ck3 (fun o k h => by have := layn3 o k h; omega) hl
    have z3 : ∀ d : Nat, decide (d ≤ 9) = true → r' + d ≠ r := fun d hd => by
      have := of_decide_eq_true hd
      omega
    rcases k with q | q | q
    · intro j z hz
      have u := ckk_1 g hz
      cases z with
      | none =>
        have u : ((o == 0 && (j == 4 || j == 5)) || (o == 2 && (j == 0 || j == 2))) = true := u
        rw [Bool.or_eq_true, Bool.and_eq_true, Bool.and_eq_true, Bool.or_eq_true, Bool.or_eq_true, beq_iff_eq, beq_iff_eq, beq_iff_eq, beq_iff_eq, beq_iff_eq, beq_iff_eq] at u
        show (S.2.2 r' o j).1 ≠ r
        rw [c1]
        rcases u with ⟨u1, u2 | u2⟩ | ⟨u1, u2 | u2⟩
        · rw [u1, u2]; exact c3
        · rw [u1, u2]; exact c4
        · rw [u1, u2]; exact c5
        · rw [u1, u2]; exact c6
      | some d => exact z3 _ u
    · trivial
    · intro j d hz
      exact z3 _ (ckk_2 g hz)
theorem ao_z (hE : ∀ r, xkd E r = 0) : AOk E S r := fun r' _ => Or.inl (hE r')
theorem ao_2 (h : AOk E S r) : AOk (addR E a 2 f) S r := fun r' hr' => by
  by_cases c : r' = a
  · rw [c]
    exact Or.inr (Or.inl addR_ks)
  · rw [addR_kn c]
    exact h r' hr'
theorem ao_4 (h : AOk E S r) : AOk (addR E a 4 f) S r := fun r' hr' => by
  by_cases c : r' = a
  · rw [c]
    exact Or.inr (Or.inr (Or.inl addR_ks))
  · rw [addR_kn c]
    exact h r' hr'
theorem ao_1 (h : AOk E S r) (h1 : (S.2.2 a 0 0).1 ≠ r) : AOk (addR E a 1 f) S r := fun r' hr' => by
  by_cases c : r' = a
  · rw [c]
    exact Or.inr (Or.inr (Or.inr (Or.inl ⟨addR_ks, h1⟩)))
  · rw [addR_kn c]
    exact h r' hr'
theorem ao_3 (h : AOk E S r) (h1 : 10 ≤ r ∧ (S.2.2 0 0 4).1 ≠ r ∧ (S.2.2 0 0 5).1 ≠ r ∧ (S.2.2 0 2 0).1 ≠ r ∧ (S.2.2 0 2 2).1 ≠ r) : AOk (addR E 0 3 f) S r := fun r' hr' => by
  by_cases c : r' = 0
  · rw [c]
    exact Or.inr (Or.inr (Or.inr (Or.inr ⟨addR_ks, rfl, h1⟩)))
  · rw [addR_kn c]
    exact h r' hr'
/-- an empty program -/
def CLR : xR := uF (uF (uF (uG (fun _ _ => 0) 1 (cpI (tbI 5) (fun _ => 0) 0 0 6)) 2 2 0) 0 10 0) 9 0 0
theorem nS_1 {κ : Nat} {σ : Nat → Nat → Int} {ρ : Nat → Nat → Nat × Nat} : (newS S r κ σ ρ).2.1 r = σ := if_pos rfl
theorem nS_n {κ k : Nat} {σ : Nat → Nat → Int} {ρ : Nat → Nat → Nat × Nat} (h : k ≠ r) : (newS S r κ σ ρ).2.1 k = S.2.1 k := if_neg h
theorem nS_p {κ k : Nat} {σ : Nat → Nat → Int} {ρ : Nat → Nat → Nat × Nat} (h : k ≠ r) : (newS S r κ σ ρ).2.2 k = S.2.2 k := if_neg h
theorem nS_k {κ k : Nat} {σ : Nat → Nat → Int} {ρ : Nat → Nat → Nat × Nat} (h : k ≠ r) : (newS S r κ σ ρ).1.2 k = S.1.2 k := if_neg h
theorem nS_s {κ : Nat} {σ : Nat → Nat → Int} {ρ : Nat → Nat → Nat × Nat} : (newS S r κ σ ρ).1.2 r = κ := if_pos rfl
/-- one place further: S' is S with a region r more -/
def STEP (S S' : xSt) (r κ : Nat) : Prop := S'.1.1 = S.1.1 ∧ S'.1.2 r = κ ∧ (∀ k, k ≠ r → S'.1.2 k = S.1.2 k) ∧ (∀ k, k ≠ r → S'.2.1 k = S.2.1 k) ∧ ∀ k, k ≠ r → S'.2.2 k = S.2.2 k
theorem st_clear (S : xSt) (r : Nat) : ∃ S', f_X5_clear_p2_0 (newS S r 2 (fun _ _ => 0) (fun _ _ => nul)) r = some S' ∧ STEP S S' r 2 ∧ S'.2.1 r = CLR := by
  have w0 : (wr 0).toNat = 0 := by decide
  have w6 : (wr 6).toNat = 6 := by decide
  have e : newS S r 2 (fun _ _ => 0) (fun _ _ => nul) = sR (newS S r 2 (fun _ _ => 0) (fun _ _ => nul)) r (fun _ _ => 0) := sR_i nS_1
  refine ⟨sR (newS S r 2 (fun _ _ => 0) (fun _ _ => nul)) r CLR, ?_, ⟨rfl, nS_s (κ := 2) (σ := fun _ _ => 0) (ρ := fun _ _ => nul), fun k h => nS_k (κ := 2) (σ := fun _ _ => 0) (ρ := fun _ _ => nul) h, fun k h => by rw [sR_n1 h, nS_n h], fun k h => nS_p (κ := 2) (σ := fun _ _ => 0) (ρ := fun _ _ => nul) h⟩, sR_g1⟩
  rw [e]
  unfold f_X5_clear_p2_0
  rw [w0, w6, sR_g1, sR_a, lt1_e, sR_w, lt1_e, sR_w, lt1_e, sR_w, lt1_e, sR_s]
  rfl
theorem st_begin (hf : 10000000 ≤ S.1.1) {q : Nat} (hq : q ≠ r) : ∃ S', f_X0_begin_p1_0_2_0 (newS S r 1 (fun _ _ => 0) (fun _ _ => nul)) r q = some S' ∧ STEP S S' r 1 ∧ S'.2.2 r 0 0 = (q, 0) ∧ FRE (S'.2.1 r) (S.2.1 q) := by
  obtain ⟨G, g1, g2⟩ := p_begin (S := newS S r 1 (fun _ _ => 0) (fun _ _ => nul)) (q := q) (r := r) hf hq
  rw [nS_n hq] at g2
  refine ⟨_, g1, ⟨rfl, nS_s (κ := 1) (σ := fun _ _ => 0) (ρ := fun _ _ => nul), fun k h => nS_k (κ := 1) (σ := fun _ _ => 0) (ρ := fun _ _ => nul) h, fun k h => by rw [sR_n1 h, wP_1, nS_n h], fun k h => ?_⟩, uP_s, by rw [sR_g1]; exact g2⟩
  have e : (uP (newS S r 1 (fun _ _ => 0) (fun _ _ => nul)).2.2 r 0 0 (q, 0)) k = (newS S r 1 (fun _ _ => 0) (fun _ _ => nul)).2.2 k := by
    funext o j
    exact if_neg (fun z => h z.1)
  exact e.trans (nS_p (κ := 1) (σ := fun _ _ => 0) (ρ := fun _ _ => nul) h)
theorem st_chain (hE : ∀ r, xkd E r = 0) (f0 : 10000000 ≤ S.1.1) : ∃ S1 S2 S3 S4 S5 S6 S7 S8 S9 S10 S11 S12 : xSt, (xApart E S 10) ∧ (f_X5_clear_p2_0 (newS S 10 2 (fun _ _ => 0) (fun _ _ => nul)) 10 = some S1) ∧ (xApart (addR E 10 2 (fun _ => 0)) S1 11) ∧ (f_X5_clear_p2_0 (newS S1 11 2 (fun _ _ => 0) (fun _ _ => nul)) 11 = some S2) ∧ (xApart (addR (addR E 10 2 (fun _ => 0)) 11 2 (fun _ => 0)) S2 12) ∧ (f_X5_clear_p2_0 (newS S2 12 2 (fun _ _ => 0) (fun _ _ => nul)) 12 = some S3) ∧ (xApart (addR (addR (addR E 10 2 (fun _ => 0)) 11 2 (fun _ => 0)) 12 2 (fun _ => 0)) S3 1) ∧ (f_X0_begin_p1_0_2_0 (newS S3 1 1 (fun _ _ => 0) (fun _ _ => nul)) 1 11 = some S4) ∧ (xApart (addR (addR (addR (addR E 10 2 (fun _ => 0)) 11 2 (fun _ => 0)) 12 2 (fun _ => 0)) 1 1 (fun _ => 0)) S4 2) ∧ (f_X0_begin_p1_0_2_0 (newS S4 2 1 (fun _ _ => 0) (fun _ _ => nul)) 2 11 = some S5) ∧ (xApart (addR (addR (addR (addR (addR E 10 2 (fun _ => 0)) 11 2 (fun _ => 0)) 12 2 (fun _ => 0)) 1 1 (fun _ => 0)) 2 1 (fun _ => 0)) S5 3) ∧ (f_X0_begin_p1_0_2_0 (newS S5 3 1 (fun _ _ => 0) (fun _ _ => nul)) 3 11 = some S6) ∧ (xApart (addR (addR (addR (addR (addR (addR E 10 2 (fun _ => 0)) 11 2 (fun _ => 0)) 12 2 (fun _ => 0)) 1 1 (fun _ => 0)) 2 1 (fun _ => 0)) 3 1 (fun _ => 0)) S6 4) ∧ (f_X0_begin_p1_0_2_0 (newS S6 4 1 (fun _ _ => 0) (fun _ _ => nul)) 4 11 = some S7) ∧ (xApart (addR (addR (addR (addR (addR (addR (addR E 10 2 (fun _ => 0)) 11 2 (fun _ => 0)) 12 2 (fun _ => 0)) 1 1 (fun _ => 0)) 2 1 (fun _ => 0)) 3 1 (fun _ => 0)) 4 1 (fun _ => 0)) S7 5) ∧ (f_X0_begin_p1_0_2_0 (newS S7 5 1 (fun _ _ => 0) (fun _ _ => nul)) 5 11 = some S8) ∧ (xApart (addR (addR (addR (addR (addR (addR (addR (addR E 10 2 (fun _ => 0)) 11 2 (fun _ => 0)) 12 2 (fun _ => 0)) 1 1 (fun _ => 0)) 2 1 (fun _ => 0)) 3 1 (fun _ => 0)) 4 1 (fun _ => 0)) 5 1 (fun _ => 0)) S8 6) ∧ (f_X0_begin_p1_0_2_0 (newS S8 6 1 (fun _ _ => 0) (fun _ _ => nul)) 6 11 = some S9) ∧ (xApart (addR (addR (addR (addR (addR (addR (addR (addR (addR E 10 2 (fun _ => 0)) 11 2 (fun _ => 0)) 12 2 (fun _ => 0)) 1 1 (fun _ => 0)) 2 1 (fun _ => 0)) 3 1 (fun _ => 0)) 4 1 (fun _ => 0)) 5 1 (fun _ => 0)) 6 1 (fun _ => 0)) S9 7) ∧ (f_X0_begin_p1_0_2_0 (newS S9 7 1 (fun _ _ => 0) (fun _ _ => nul)) 7 11 = some S10) ∧ (xApart (addR (addR (addR (addR (addR (addR (addR (addR (addR (addR E 10 2 (fun _ => 0)) 11 2 (fun _ => 0)) 12 2 (fun _ => 0)) 1 1 (fun _ => 0)) 2 1 (fun _ => 0)) 3 1 (fun _ => 0)) 4 1 (fun _ => 0)) 5 1 (fun _ => 0)) 6 1 (fun _ => 0)) 7 1 (fun _ => 0)) S10 8) ∧ (f_X0_begin_p1_0_2_0 (newS S10 8 1 (fun _ _ => 0) (fun _ _ => nul)) 8 11 = some S11) ∧ (xApart (addR (addR (addR (addR (addR (addR (addR (addR (addR (addR (addR E 10 2 (fun _ => 0)) 11 2 (fun _ => 0)) 12 2 (fun _ => 0)) 1 1 (fun _ => 0)) 2 1 (fun _ => 0)) 3 1 (fun _ => 0)) 4 1 (fun _ => 0)) 5 1 (fun _ => 0)) 6 1 (fun _ => 0)) 7 1 (fun _ => 0)) 8 1 (fun _ => 0)) S11 9) ∧ (f_X0_begin_p1_0_2_0 (newS S11 9 1 (fun _ _ => 0) (fun _ _ => nul)) 9 11 = some S12) ∧ (xApart (addR (addR (addR (addR (addR (addR (addR (addR (addR (addR (addR (addR E 10 2 (fun _ => 0)) 11 2 (fun _ => 0)) 12 2 (fun _ => 0)) 1 1 (fun _ => 0)) 2 1 (fun _ => 0)) 3 1 (fun _ => 0)) 4 1 (fun _ => 0)) 5 1 (fun _ => 0)) 6 1 (fun _ => 0)) 7 1 (fun _ => 0)) 8 1 (fun _ => 0)) 9 1 (fun _ => 0)) S12 0) ∧ S12.1.1 = S.1.1 ∧ S12.1.2 11 = 2 ∧ S12.1.2 12 = 2 ∧ S12.2.1 11 = CLR ∧ FRE (S12.2.1 1) CLR ∧ S12.2.2 1 0 0 = (11, 0) ∧ S12.2.2 2 0 0 = (11, 0) ∧ S12.2.2 3 0 0 = (11, 0) ∧ S12.2.2 4 0 0 = (11, 0) ∧ S12.2.2 5 0 0 = (11, 0) ∧ S12.2.2 6 0 0 = (11, 0) ∧ S12.2.2 7 0 0 = (11, 0) ∧ S12.2.2 8 0 0 = (11, 0) ∧ S12.2.2 9 0 0 = (11, 0) := by
  obtain ⟨S1, c1, t1, x1⟩ := st_clear S 10
  have f1 : 10000000 ≤ S1.1.1 := by rw [t1.1]; exact f0
  obtain ⟨S2, c2, t2, x2⟩ := st_clear S1 11
  have f2 : 10000000 ≤ S2.1.1 := by rw [t2.1]; exact f1
  have y2 : S2.2.1 11 = CLR := x2
  obtain ⟨S3, c3, t3, x3⟩ := st_clear S2 12
  have f3 : 10000000 ≤ S3.1.1 := by rw [t3.1]; exact f2
  have y3 : S3.2.1 11 = CLR := by rw [t3.2.2.2.1 11 (by decide), y2]
  obtain ⟨S4, c4, t4, p4_1, x4⟩ := st_begin (S := S3) (r := 1) f3 (q := 11) (by decide)
  have f4 : 10000000 ≤ S4.1.1 := by rw [t4.1]; exact f3
  have y4 : S4.2.1 11 = CLR := by rw [t4.2.2.2.1 11 (by decide), y3]
  have z4 : FRE (S4.2.1 1) CLR := by rw [y3] at x4; exact x4
  obtain ⟨S5, c5, t5, p5_2, x5⟩ := st_begin (S := S4) (r := 2) f4 (q := 11) (by decide)
  have p5_1 : S5.2.2 1 0 0 = (11, 0) := by rw [t5.2.2.2.2 1 (by decide), p4_1]
  have f5 : 10000000 ≤ S5.1.1 := by rw [t5.1]; exact f4
  have y5 : S5.2.1 11 = CLR := by rw [t5.2.2.2.1 11 (by decide), y4]
  have z5 : FRE (S5.2.1 1) CLR := by rw [t5.2.2.2.1 1 (by decide)]; exact z4
  obtain ⟨S6, c6, t6, p6_3, x6⟩ := st_begin (S := S5) (r := 3) f5 (q := 11) (by decide)
  have p6_1 : S6.2.2 1 0 0 = (11, 0) := by rw [t6.2.2.2.2 1 (by decide), p5_1]
  have p6_2 : S6.2.2 2 0 0 = (11, 0) := by rw [t6.2.2.2.2 2 (by decide), p5_2]
  have f6 : 10000000 ≤ S6.1.1 := by rw [t6.1]; exact f5
  have y6 : S6.2.1 11 = CLR := by rw [t6.2.2.2.1 11 (by decide), y5]
  have z6 : FRE (S6.2.1 1) CLR := by rw [t6.2.2.2.1 1 (by decide)]; exact z5
  obtain ⟨S7, c7, t7, p7_4, x7⟩ := st_begin (S := S6) (r := 4) f6 (q := 11) (by decide)
  have p7_1 : S7.2.2 1 0 0 = (11, 0) := by rw [t7.2.2.2.2 1 (by decide), p6_1]
  have p7_2 : S7.2.2 2 0 0 = (11, 0) := by rw [t7.2.2.2.2 2 (by decide), p6_2]
  have p7_3 : S7.2.2 3 0 0 = (11, 0) := by rw [t7.2.2.2.2 3 (by decide), p6_3]
  have f7 : 10000000 ≤ S7.1.1 := by rw [t7.1]; exact f6
  have y7 : S7.2.1 11 = CLR := by rw [t7.2.2.2.1 11 (by decide), y6]
  have z7 : FRE (S7.2.1 1) CLR := by rw [t7.2.2.2.1 1 (by decide)]; exact z6
  obtain ⟨S8, c8, t8, p8_5, x8⟩ := st_begin (S := S7) (r := 5) f7 (q := 11) (by decide)
  have p8_1 : S8.2.2 1 0 0 = (11, 0) := by rw [t8.2.2.2.2 1 (by decide), p7_1]
  have p8_2 : S8.2.2 2 0 0 = (11, 0) := by rw [t8.2.2.2.2 2 (by decide), p7_2]
  have p8_3 : S8.2.2 3 0 0 = (11, 0) := by rw [t8.2.2.2.2 3 (by decide), p7_3]
  have p8_4 : S8.2.2 4 0 0 = (11, 0) := by rw [t8.2.2.2.2 4 (by decide), p7_4]
  have f8 : 10000000 ≤ S8.1.1 := by rw [t8.1]; exact f7
  have y8 : S8.2.1 11 = CLR := by rw [t8.2.2.2.1 11 (by decide), y7]
  have z8 : FRE (S8.2.1 1) CLR := by rw [t8.2.2.2.1 1 (by decide)]; exact z7
  obtain ⟨S9, c9, t9, p9_6, x9⟩ := st_begin (S := S8) (r := 6) f8 (q := 11) (by decide)
  have p9_1 : S9.2.2 1 0 0 = (11, 0) := by rw [t9.2.2.2.2 1 (by decide), p8_1]
  have p9_2 : S9.2.2 2 0 0 = (11, 0) := by rw [t9.2.2.2.2 2 (by decide), p8_2]
  have p9_3 : S9.2.2 3 0 0 = (11, 0) := by rw [t9.2.2.2.2 3 (by decide), p8_3]
  have p9_4 : S9.2.2 4 0 0 = (11, 0) := by rw [t9.2.2.2.2 4 (by decide), p8_4]
  have p9_5 : S9.2.2 5 0 0 = (11, 0) := by rw [t9.2.2.2.2 5 (by decide), p8_5]
  have f9 : 10000000 ≤ S9.1.1 := by rw [t9.1]; exact f8
  have y9 : S9.2.1 11 = CLR := by rw [t9.2.2.2.1 11 (by decide), y8]
  have z9 : FRE (S9.2.1 1) CLR := by rw [t9.2.2.2.1 1 (by decide)]; exact z8
  obtain ⟨S10, c10, t10, p10_7, x10⟩ := st_begin (S := S9) (r := 7) f9 (q := 11) (by decide)
  have p10_1 : S10.2.2 1 0 0 = (11, 0) := by rw [t10.2.2.2.2 1 (by decide), p9_1]
  have p10_2 : S10.2.2 2 0 0 = (11, 0) := by rw [t10.2.2.2.2 2 (by decide), p9_2]
  have p10_3 : S10.2.2 3 0 0 = (11, 0) := by rw [t10.2.2.2.2 3 (by decide), p9_3]
  have p10_4 : S10.2.2 4 0 0 = (11, 0) := by rw [t10.2.2.2.2 4 (by decide), p9_4]
  have p10_5 : S10.2.2 5 0 0 = (11, 0) := by rw [t10.2.2.2.2 5 (by decide), p9_5]
  have p10_6 : S10.2.2 6 0 0 = (11, 0) := by rw [t10.2.2.2.2 6 (by decide), p9_6]
  have f10 : 10000000 ≤ S10.1.1 := by rw [t10.1]; exact f9
  have y10 : S10.2.1 11 = CLR := by rw [t10.2.2.2.1 11 (by decide), y9]
  have z10 : FRE (S10.2.1 1) CLR := by rw [t10.2.2.2.1 1 (by decide)]; exact z9
  obtain ⟨S11, c11, t11, p11_8, x11⟩ := st_begin (S := S10) (r := 8) f10 (q := 11) (by decide)
  have p11_1 : S11.2.2 1 0 0 = (11, 0) := by rw [t11.2.2.2.2 1 (by decide), p10_1]
  have p11_2 : S11.2.2 2 0 0 = (11, 0) := by rw [t11.2.2.2.2 2 (by decide), p10_2]
  have p11_3 : S11.2.2 3 0 0 = (11, 0) := by rw [t11.2.2.2.2 3 (by decide), p10_3]
  have p11_4 : S11.2.2 4 0 0 = (11, 0) := by rw [t11.2.2.2.2 4 (by decide), p10_4]
  have p11_5 : S11.2.2 5 0 0 = (11, 0) := by rw [t11.2.2.2.2 5 (by decide), p10_5]
  have p11_6 : S11.2.2 6 0 0 = (11, 0) := by rw [t11.2.2.2.2 6 (by decide), p10_6]
  have p11_7 : S11.2.2 7 0 0 = (11, 0) := by rw [t11.2.2.2.2 7 (by decide), p10_7]
  have f11 : 10000000 ≤ S11.1.1 := by rw [t11.1]; exact f10
  have y11 : S11.2.1 11 = CLR := by rw [t11.2.2.2.1 11 (by decide), y10]
  have z11 : FRE (S11.2.1 1) CLR := by rw [t11.2.2.2.1 1 (by decide)]; exact z10
  obtain ⟨S12, c12, t12, p12_9, x12⟩ := st_begin (S := S11) (r := 9) f11 (q := 11) (by decide)
  have p12_1 : S12.2.2 1 0 0 = (11, 0) := by rw [t12.2.2.2.2 1 (by decide), p11_1]
  have p12_2 : S12.2.2 2 0 0 = (11, 0) := by rw [t12.2.2.2.2 2 (by decide), p11_2]
  have p12_3 : S12.2.2 3 0 0 = (11, 0) := by rw [t12.2.2.2.2 3 (by decide), p11_3]
  have p12_4 : S12.2.2 4 0 0 = (11, 0) := by rw [t12.2.2.2.2 4 (by decide), p11_4]
  have p12_5 : S12.2.2 5 0 0 = (11, 0) := by rw [t12.2.2.2.2 5 (by decide), p11_5]
  have p12_6 : S12.2.2 6 0 0 = (11, 0) := by rw [t12.2.2.2.2 6 (by decide), p11_6]
  have p12_7 : S12.2.2 7 0 0 = (11, 0) := by rw [t12.2.2.2.2 7 (by decide), p11_7]
  have p12_8 : S12.2.2 8 0 0 = (11, 0) := by rw [t12.2.2.2.2 8 (by decide), p11_8]
  have f12 : 10000000 ≤ S12.1.1 := by rw [t12.1]; exact f11
  have y12 : S12.2.1 11 = CLR := by rw [t12.2.2.2.1 11 (by decide), y11]
  have z12 : FRE (S12.2.1 1) CLR := by rw [t12.2.2.2.1 1 (by decide)]; exact z11
  exact ⟨S1, S2, S3, S4, S5, S6, S7, S8, S9, S10, S11, S12, xap (ao_z hE), c1, xap (ao_2 (ao_z hE)), c2, xap (ao_2 (ao_2 (ao_z hE))), c3, xap (ao_2 (ao_2 (ao_2 (ao_z hE)))), c4, xap (ao_1 (ao_2 (ao_2 (ao_2 (ao_z hE)))) (by rw [p4_1]; decide)), c5, xap (ao_1 (ao_1 (ao_2 (ao_2 (ao_2 (ao_z hE)))) (by rw [p5_1]; decide)) (by rw [p5_2]; decide)), c6, xap (ao_1 (ao_1 (ao_1 (ao_2 (ao_2 (ao_2 (ao_z hE)))) (by rw [p6_1]; decide)) (by rw [p6_2]; decide)) (by rw [p6_3]; decide)), c7, xap (ao_1 (ao_1 (ao_1 (ao_1 (ao_2 (ao_2 (ao_2 (ao_z hE)))) (by rw [p7_1]; decide)) (by rw [p7_2]; decide)) (by rw [p7_3]; decide)) (by rw [p7_4]; decide)), c8, xap (ao_1 (ao_1 (ao_1 (ao_1 (ao_1 (ao_2 (ao_2 (ao_2 (ao_z hE)))) (by rw [p8_1]; decide)) (by rw [p8_2]; decide)) (by rw [p8_3]; decide)) (by rw [p8_4]; decide)) (by rw [p8_5]; decide)), c9, xap (ao_1 (ao_1 (ao_1 (ao_1 (ao_1 (ao_1 (ao_2 (ao_2 (ao_2 (ao_z hE)))) (by rw [p9_1]; decide)) (by rw [p9_2]; decide)) (by rw [p9_3]; decide)) (by rw [p9_4]; decide)) (by rw [p9_5]; decide)) (by rw [p9_6]; decide)), c10, xap (ao_1 (ao_1 (ao_1 (ao_1 (ao_1 (ao_1 (ao_1 (ao_2 (ao_2 (ao_2 (ao_z hE)))) (by rw [p10_1]; decide)) (by rw [p10_2]; decide)) (by rw [p10_3]; decide)) (by rw [p10_4]; decide)) (by rw [p10_5]; decide)) (by rw [p10_6]; decide)) (by rw [p10_7]; decide)), c11, xap (ao_1 (ao_1 (ao_1 (ao_1 (ao_1 (ao_1 (ao_1 (ao_1 (ao_2 (ao_2 (ao_2 (ao_z hE)))) (by rw [p11_1]; decide)) (by rw [p11_2]; decide)) (by rw [p11_3]; decide)) (by rw [p11_4]; decide)) (by rw [p11_5]; decide)) (by rw [p11_6]; decide)) (by rw [p11_7]; decide)) (by rw [p11_8]; decide)), c12, xap (ao_1 (ao_1 (ao_1 (ao_1 (ao_1 (ao_1 (ao_1 (ao_1 (ao_1 (ao_2 (ao_2 (ao_2 (ao_z hE)))) (by rw [p12_1]; decide)) (by rw [p12_2]; decide)) (by rw [p12_3]; decide)) (by rw [p12_4]; decide)) (by rw [p12_5]; decide)) (by rw [p12_6]; decide)) (by rw [p12_7]; decide)) (by rw [p12_8]; decide)) (by rw [p12_9]; decide)), by rw [t12.1, t11.1, t10.1, t9.1, t8.1, t7.1, t6.1, t5.1, t4.1, t3.1, t2.1, t1.1], by rw [t12.2.2.1 11 (by decide), t11.2.2.1 11 (by decide), t10.2.2.1 11 (by decide), t9.2.2.1 11 (by decide), t8.2.2.1 11 (by decide), t7.2.2.1 11 (by decide), t6.2.2.1 11 (by decide), t5.2.2.1 11 (by decide), t4.2.2.1 11 (by decide), t3.2.2.1 11 (by decide), t2.2.1], by rw [t12.2.2.1 12 (by decide), t11.2.2.1 12 (by decide), t10.2.2.1 12 (by decide), t9.2.2.1 12 (by decide), t8.2.2.1 12 (by decide), t7.2.2.1 12 (by decide), t6.2.2.1 12 (by decide), t5.2.2.1 12 (by decide), t4.2.2.1 12 (by decide), t3.2.1], y12, z12, p12_1, p12_2, p12_3, p12_4, p12_5, p12_6, p12_7, p12_8, p12_9⟩
/-- the class's own region, the reference's, the law's -/
def sg0 : Nat → Nat → Int := fun o j => if o = 2 ∧ j = 12 then -1 else 0
def rg0 : Nat → Nat → Nat × Nat := fun o j => if o = 0 then (if j = 4 then (11, 0) else if j = 5 then (12, 0) else nul) else if o = 2 then (if j = 0 then (0, 13) else if j = 2 then (10, 0) else nul) else nul
def sg13 : Nat → Nat → Int := fun o j => if o = 0 ∧ j = 30 then -1 else 0
theorem pr_clr : PR CLR := by
  obtain ⟨u0, u1, u2, u3, u4, u5⟩ := uS5
  have s : ∀ k : Nat, k < 6 → CLR 1 k = tbI 5 k := fun k hk => by
    unfold CLR
    rw [uF_o (by decide), uF_o (by decide), uF_o (by decide), uG_e, cpI_0 hk]
  have e0 : CLR 0 10 = 0 := by
    unfold CLR
    simp (disch := omega) only [uF_e, uF_n]
  have e2 : CLR 2 2 = 0 := by
    unfold CLR
    simp (disch := omega) only [uF_e, uF_n]
  have e9 : CLR 9 0 = 0 := by
    unfold CLR
    simp (disch := omega) only [uF_e, uF_n]
  refine ⟨by rw [e0]; decide, e9, ?_, ?_, ?_, ?_, ?_, ?_, by rw [e2]; decide, fun j hj => ?_, fun k hk => ?_⟩
  · rw [s 1 (by decide), u1]
    decide
  · rw [s 2 (by decide), u2]
    decide
  · rw [s 3 (by decide), u3]
    decide
  · rw [s 0 (by decide), u0]
    decide
  · rw [s 4 (by decide), u4]
    decide
  · rw [s 5 (by decide), u5]
    decide
  · rw [e2] at hj
    exact absurd hj (by omega)
  · rw [e0] at hk
    exact absurd hk (by omega)
theorem st_model (S : xSt) (hf : 10000000 ≤ S.1.1) : ∃ SC SD, f_X12_clears_p4_0 (newS S 13 4 sg13 (fun _ _ => nul)) 13 = some SC ∧ f_X12_takesDraft_p4_0 SC 13 = some SD ∧ STEP S SD 13 4 ∧ PM CLR (SD.2.1 13) ∧ FRN (SD.2.1 13 6) CLR ∧ SD.2.1 13 0 16 = 0 ∧ SD.2.1 13 0 17 = 0 ∧ SD.2.1 13 0 21 = 0 ∧ SD.2.1 13 0 29 = 0 ∧ SD.2.1 13 0 30 = -1 ∧ SD.2.1 13 0 41 = 0 := by
  obtain ⟨u0, u1, u2, u3, u4, u5⟩ := uS5
  have e : newS S 13 4 sg13 (fun _ _ => nul) = sR (newS S 13 4 sg13 (fun _ _ => nul)) 13 sg13 := sR_i nS_1
  obtain ⟨μc, c1, c2, c3, c4, c5, c6, c7, c8, c9, c10, c11⟩ := m_clears (T := newS S 13 4 sg13 (fun _ _ => nul)) (μ := sg13) hf
  obtain ⟨μ2, t1, t2, t3, t4, t5, t6, t7, t8, t9, t10, t11, t12⟩ := m_take (T := newS S 13 4 sg13 (fun _ _ => nul)) (μ := μc) (s := 0) hf c2 ⟨by decide, fun k hk => absurd hk (by omega)⟩
  have s : ∀ k : Nat, k < 6 → CLR 1 k = tbI 5 k := fun k hk => by
    unfold CLR
    rw [uF_o (by decide), uF_o (by decide), uF_o (by decide), uG_e, cpI_0 hk]
  have z0 : CLR 0 10 = 0 := by
    unfold CLR
    simp (disch := omega) only [uF_e, uF_n]
  have z2 : CLR 2 2 = 0 := by
    unfold CLR
    simp (disch := omega) only [uF_e, uF_n]
  have z9 : CLR 9 0 = 0 := by
    unfold CLR
    simp (disch := omega) only [uF_e, uF_n]
  have g : (sR (newS S 13 4 sg13 (fun _ _ => nul)) 13 μ2).2.1 13 = μ2 := sR_g1
  rw [← e] at c1
  refine ⟨_, _, c1, t1, ⟨rfl, nS_s (κ := 4) (σ := sg13) (ρ := fun _ _ => nul), fun k h => nS_k (κ := 4) (σ := sg13) (ρ := fun _ _ => nul) h, fun k h => by rw [sR_n1 h, nS_n h], fun k h => nS_p (κ := 4) (σ := sg13) (ρ := fun _ _ => nul) h⟩, ?_⟩
  rw [g]
  refine ⟨⟨by rw [t3, z0]; rfl, by rw [t4, c4, s 1 (by decide), u1], by rw [t5, c5, s 2 (by decide), u2], by rw [t6, c6, s 3 (by decide), u3], fun k hk => ?_, fun k hk => ?_⟩, ⟨?_, ?_, ?_, ?_, fun j hj => ?_, fun k k1 k2 k3 => ?_⟩, t7, t8, ?_, ?_, ?_, ?_⟩
  · rw [z0] at hk
    exact absurd hk (by omega)
  · rw [z0] at hk
    have ek : k = 0 := by omega
    rw [ek, t11, z9]
  · rw [t9 0 (by decide), c7, s 0 (by decide), u0]
  · rw [t9 1 (by decide), c8, s 4 (by decide), u4]
  · rw [t9 2 (by decide), c10 2 (by decide) (by decide) (by decide) (by decide), s 5 (by decide), u5]
  · rw [t9 34 (by decide), c10 34 (by decide) (by decide) (by decide) (by decide), z2]
  · rw [z2] at hj
    exact absurd hj (by omega)
  · rw [t9 k k2]
    by_cases c : k = 15
    · rw [c, c9, if_pos rfl]
    · rw [c10 k k2 (by omega) (by omega) c, if_neg c]
  · rw [t2 0 21 (by omega) (by omega), c11 0 21 (by decide) (by omega)]
    rfl
  · rw [t2 0 29 (by omega) (by omega), c11 0 29 (by decide) (by omega)]
    rfl
  · rw [t2 0 30 (by omega) (by omega), c11 0 30 (by decide) (by omega)]
    rfl
  · rw [t2 0 41 (by omega) (by omega), c11 0 41 (by decide) (by omega)]
    rfl
/-- the invariant at the start -/
theorem st_inv (h1 : 10000000 ≤ S.1.1) (k11 : S.1.2 11 = 2) (k12 : S.1.2 12 = 2) (y : S.2.1 11 = CLR) (z : FRE (S.2.1 1) CLR) (p1 : S.2.2 1 0 0 = (11, 0)) {SD : xSt} (t : STEP (newS S 0 3 sg0 rg0) SD 13 4) (hM : PM CLR (SD.2.1 13)) (hN : FRN (SD.2.1 13 6) CLR) (m16 : SD.2.1 13 0 16 = 0) (m17 : SD.2.1 13 0 17 = 0) (m21 : SD.2.1 13 0 21 = 0) (m29 : SD.2.1 13 0 29 = 0) (m30 : SD.2.1 13 0 30 = -1) (m41 : SD.2.1 13 0 41 = 0) : INV 0 (newS SD 14 5 (fun _ _ => 0) (fun _ _ => nul)) := by
  obtain ⟨t1, t2, t3, t4, t5⟩ := t
  have f : 10000000 ≤ SD.1.1 := by
    rw [t1]
    exact h1
  have c13 : (newS SD 14 5 (fun _ _ => 0) (fun _ _ => nul)).2.1 13 = SD.2.1 13 := nS_n (by decide)
  have c0 : (newS SD 14 5 (fun _ _ => 0) (fun _ _ => nul)).2.1 0 = sg0 := by rw [nS_n (by decide), t4 0 (by decide), nS_1]
  have c1 : (newS SD 14 5 (fun _ _ => 0) (fun _ _ => nul)).2.1 1 = S.2.1 1 := by rw [nS_n (by decide), t4 1 (by decide), nS_n (by decide)]
  have c11 : (newS SD 14 5 (fun _ _ => 0) (fun _ _ => nul)).2.1 11 = CLR := by rw [nS_n (by decide), t4 11 (by decide), nS_n (by decide), y]
  have r0 : (newS SD 14 5 (fun _ _ => 0) (fun _ _ => nul)).2.2 0 = rg0 := by
    rw [nS_p (by decide), t5 0 (by decide)]
    show (if 0 = 0 then rg0 else S.2.2 0) = rg0
    exact if_pos rfl
  have r1 : (newS SD 14 5 (fun _ _ => 0) (fun _ _ => nul)).2.2 1 = S.2.2 1 := by rw [nS_p (by decide), t5 1 (by decide), nS_p (by decide)]
  refine ⟨f, ?_, ⟨?_, ?_⟩, 11, 12, ?_⟩
  · show (newS SD 14 5 (fun _ _ => 0) (fun _ _ => nul)).1.2 11 = 2
    rw [nS_k (by decide), t3 11 (by decide), nS_k (by decide), k11]
  · show (newS SD 14 5 (fun _ _ => 0) (fun _ _ => nul)).1.2 12 = 2
    rw [nS_k (by decide), t3 12 (by decide), nS_k (by decide), k12]
  · show (newS SD 14 5 (fun _ _ => 0) (fun _ _ => nul)).1.2 0 = 3
    rw [nS_k (by decide), t3 0 (by decide), nS_s]
  · rw [c13]
    refine ⟨Or.inl ⟨rfl, rfl⟩, by rw [r0]; rfl, by rw [r0]; rfl, by rw [r1]; exact p1, by rw [c11]; exact pr_clr, by rw [c11]; exact hM, ?_, ?_, ?_, ?_⟩
    · rw [c11, c1]
      exact gf_fre pr_clr (by unfold BB; omega) z hN
    · refine ⟨by rw [c0, m16]; rfl, by rw [m16]; decide, by rw [c0]; decide, fun i hi => ?_⟩
      rw [m16] at hi
      exact absurd hi (by omega)
    · refine ⟨by rw [c0, m17]; rfl, by rw [m17]; exact Or.inl rfl, fun h => ?_⟩
      rw [m17] at h
      exact absurd h (by decide)
    · rw [c0]
      refine ⟨by rw [m21]; rfl, by rw [m21]; decide, fun k hk => ?_, by rw [m29]; rfl, by rw [m30]; rfl, by rw [m41]; rfl, by rw [m41]; decide, fun k hk => ?_⟩
      · rw [m21] at hk
        exact absurd hk (by omega)
      · rw [m41] at hk
        exact absurd hk (by omega)
end ST
theorem law_all {L : Nat} {sc : Nat → Int} (hL : L ≤ 3072) (hsc : ∀ k, wr (sc k) = sc k) {S : xSt} (hI : INV 0 S) : ∃ T, f_law_b23 0 13 14 L sc 600 S 0 = some T := by
  have k := law_frame (r1 := 0) (r2 := 13) (r3 := 14) (sc := sc) (Inv := INV) hL inv_mono (gl_feed hL hsc) (gl_truncate hL hsc) (gl_parse hL hsc) (gl_errorCode hL hsc) (gl_errorOffset hL hsc) (gl_count hL hsc) (gl_instruction hL hsc) (gl_at hL hsc) (gl_crosses hL hsc) (gl_fuses hL hsc) (gl_isLoopable hL hsc) (gl_fusable hL hsc) (gl_crossing hL hsc) (gl_ofKind hL hsc) (gl_rule hL hsc) (gl_queueAt hL hsc) (gl_loop hL hsc) (gl_isCut hL hsc) (gl_bubbles hL hsc) (gl_mainCause hL hsc) (gl_decoded hL hsc) (gl_plain hL hsc) (gl_agrees hL hsc) (gl_times hL hsc) (gl_perCycle hL hsc) (gl_fusedShare hL hsc) (gl_run hL hsc) (gl_runTo hL hsc) (gl_stall hL hsc) (gl_set hL hsc) (gl_addRule hL hsc) (gl_removeRule hL hsc) (gl_redirect hL hsc) (gl_undo hL hsc) (gl_cyclesTo hL hsc) (gl_nextBubbles hL hsc) (gl_bubblesIn hL hsc) (gl_roomNeeded hL hsc) (gl_bestLanes hL hsc) (gl_bestRate hL hsc) (gl_bestLoop hL hsc) (gl_cyclesUntil hL hsc) (gl_mainCauseIn hL hsc) (gl_ruleGain hL hsc) (gl_printInstruction hL hsc) (gl_outputByte hL hsc) (gl_saveState hL hsc) (gl_restoreState hL hsc) 600 S 0 hI (by omega) (by omega)
  rw [show (6 * ((0 : Nat) : Int)) = 0 from rfl] at k
  exact k
