def ckk (f1 : Nat → Bool) (f2 : Nat → Nat → Bool) (o : Nat) (k : xK) : Bool := match k with
  | .inl q => (List.range q.2.length).all (fun j => match q.2[j]? with
    | some (.inr (some d)) => f1 d.1
    | some (.inr none) => f2 o j
    | _ => true)
  | .inr (.inl _) => true
  | .inr (.inr q) => q.2.all (fun d => f1 d.1)
def cka (κ : Nat) (f1 : Nat → Bool) (f2 : Nat → Nat → Bool) : Bool := (List.range 20).all (fun o => match lay κ o with
  | some k => ckk f1 f2 o k
  | none => true)
theorem cka_s {κ : Nat} {f1 : Nat → Bool} {f2 : Nat → Nat → Bool} (h : cka κ f1 f2 = true) (hn : ∀ (o : Nat) (k : xK), lay κ o = some k → o < 20) {o : Nat} {k : xK} (hl : lay κ o = some k) : ckk f1 f2 o k = true := by
  have a := List.all_eq_true.mp h o (List.mem_range.mpr (hn o k hl))
  rw [hl] at a
  exact a
theorem ckk_1 {f1 : Nat → Bool} {f2 : Nat → Nat → Bool} {o : Nat} {q : Nat × List xF} (h : ckk f1 f2 o (.inl q) = true) {j : Nat} {z : Option (Nat × Nat)} (hz : q.2[j]? = some (.inr z)) : (match z with
    | some d => f1 d.1 = true
    | none => f2 o j = true) := by
  have hj : j < q.2.length := (List.getElem?_eq_some_iff.mp hz).1
  have a := List.all_eq_true.mp h j (List.mem_range.mpr hj)
  rw [hz] at a
  cases z with
  | none => exact a
  | some d => exact a
theorem ckk_2 {f1 : Nat → Bool} {f2 : Nat → Nat → Bool} {o : Nat} {q : String × List (Nat × Nat)} (h : ckk f1 f2 o (.inr (.inr q)) = true) {j : Nat} {d : Nat × Nat} (hz : q.2[j]? = some d) : f1 d.1 = true := List.all_eq_true.mp h d (List.mem_of_getElem? hz)
theorem ck1 : cka 1 (fun d => d == 0) (fun o j => o == 0 && j == 0) = true := by decide +kernel
theorem ck2 : cka 2 (fun d => d == 0) (fun _ _ => false) = true := by decide +kernel
theorem ck3 : cka 3 (fun d => decide (d ≤ 9)) (fun o j => (o == 0 && (j == 4 || j == 5)) || (o == 2 && (j == 0 || j == 2))) = true := by decide +kernel
def AOk (E : xE) (S : xSt) (r : Nat) : Prop := ∀ r' : Nat, r' ≠ r → xkd E r' = 0 ∨ xkd E r' = 2 ∨ (xkd E r' = 1 ∧ (S.2.2 r' 0 0).1 ≠ r) ∨ (xkd E r' = 3 ∧ r' = 0 ∧ 10 ≤ r ∧ (S.2.2 0 0 4).1 ≠ r ∧ (S.2.2 0 0 5).1 ≠ r ∧ (S.2.2 0 2 0).1 ≠ r ∧ (S.2.2 0 2 2).1 ≠ r)
section ST
variable {E : xE} {S S' : xSt} {r a : Nat} {f : Nat → Nat}
theorem xap (h : AOk E S r) : xApart E S r := by
  intro r' o k hr hl
  have z2 : ∀ d : Nat, (d == 0) = true → r' + d ≠ r := fun d hd => by
    rw [beq_iff_eq] at hd
    omega
  rcases h r' hr with c | c | ⟨c, c1⟩ | ⟨c, c1, c2, c3, c4, c5, c6⟩
  · rw [c] at hl
    cases hl
  · rw [c] at hl
    have g := cka_s ck2 (fun o k h => by have := layn2 o k h; omega) hl
    rcases k with q | q | q
    · intro j z hz
      have u := ckk_1 g hz
      cases z with
      | none => exact absurd (show false = true from u) (by decide)
      | some d => exact z2 _ u
    · trivial
    · intro j d hz
      exact z2 _ (ckk_2 g hz)
  · rw [c] at hl
    have g := cka_s ck1 (fun o k h => layn1 o k h) hl
    rcases k with q | q | q
    · intro j z hz
      have u := ckk_1 g hz
      cases z with
      | none =>
        have u : (o == 0 && j == 0) = true := u
        rw [Bool.and_eq_true, beq_iff_eq, beq_iff_eq] at u
        show (S.2.2 r' o j).1 ≠ r
        rw [u.1, u.2]
        exact c1
      | some d => exact z2 _ u
    · trivial
    · intro j d hz
      exact z2 _ (ckk_2 g hz)
  · rw [c] at hl
    have g := cka_s ck3 (fun o k h => by have := layn3 o k h; omega) hl
    have z3 : ∀ d : Nat, decide (d ≤ 9) = true → r' + d ≠ r := fun d hd => by
      have := of_decide_eq_true hd
      omega
    rcases k with q | q | q
    · intro j z hz
      have u := ckk_1 g hz
      cases z with
      | none =>
        have u : ((o == 0 && (j == 4 || j == 5)) || (o == 2 && (j == 0 || j == 2))) = true := u
        rw [Bool.or_eq_true, Bool.and_eq_true, Bool.and_eq_true, Bool.or_eq_true, Bool.or_eq_true, beq_iff_eq, beq_iff_eq, beq_iff_eq, beq_iff_eq, beq_iff_eq, beq_iff_eq] at u
        show (S.2.2 r' o j).1 ≠ r
        rw [c1]
        rcases u with ⟨u1, u2 | u2⟩ | ⟨u1, u2 | u2⟩
        · rw [u1, u2]; exact c3
        · rw [u1, u2]; exact c4
        · rw [u1, u2]; exact c5
        · rw [u1, u2]; exact c6
      | some d => exact z3 _ u
    · trivial
    · intro j d hz
      exact z3 _ (ckk_2 g hz)
theorem ao_z (hE : ∀ r, xkd E r = 0) : AOk E S r := fun r' _ => Or.inl (hE r')
theorem ao_2 (h : AOk E S r) : AOk (addR E a 2 f) S r := fun r' hr' => by
  by_cases c : r' = a
  · rw [c]
    exact Or.inr (Or.inl addR_ks)
  · rw [addR_kn c]
    exact h r' hr'
theorem ao_1 (h : AOk E S r) (h1 : (S.2.2 a 0 0).1 ≠ r) : AOk (addR E a 1 f) S r := fun r' hr' => by
  by_cases c : r' = a
  · rw [c]
    exact Or.inr (Or.inr (Or.inl ⟨addR_ks, h1⟩))
  · rw [addR_kn c]
    exact h r' hr'
theorem ao_3 (h : AOk E S r) (h1 : 10 ≤ r ∧ (S.2.2 0 0 4).1 ≠ r ∧ (S.2.2 0 0 5).1 ≠ r ∧ (S.2.2 0 2 0).1 ≠ r ∧ (S.2.2 0 2 2).1 ≠ r) : AOk (addR E 0 3 f) S r := fun r' hr' => by
  by_cases c : r' = 0
  · rw [c]
    exact Or.inr (Or.inr (Or.inr ⟨addR_ks, rfl, h1⟩))
  · rw [addR_kn c]
    exact h r' hr'
end ST
def sg0 : Nat → Nat → Int := fun o j => if o = 2 ∧ j = 12 then -1 else 0
def rg0 : Nat → Nat → Nat × Nat := fun o j => if o = 0 then (if j = 4 then (11, 0) else if j = 5 then (12, 0) else nul) else if o = 2 then (if j = 0 then (0, 13) else if j = 2 then (10, 0) else nul) else nul
/-- the makers one behind the other -/
def CHAIN (E : xE) (S S1 S2 S3 S4 S5 S6 S7 S8 S9 S10 S11 S12 : xSt) : Prop := (xApart E S 10) ∧ (f_X5_clear_p2_0 (newS S 10 2 (fun _ _ => 0) (fun _ _ => nul)) 10 = some S1) ∧ (xApart (addR E 10 2 (fun _ => 0)) S1 11) ∧ (f_X5_clear_p2_0 (newS S1 11 2 (fun _ _ => 0) (fun _ _ => nul)) 11 = some S2) ∧ (xApart (addR (addR E 10 2 (fun _ => 0)) 11 2 (fun _ => 0)) S2 12) ∧ (f_X5_clear_p2_0 (newS S2 12 2 (fun _ _ => 0) (fun _ _ => nul)) 12 = some S3) ∧ (xApart (addR (addR (addR E 10 2 (fun _ => 0)) 11 2 (fun _ => 0)) 12 2 (fun _ => 0)) S3 1) ∧ (f_X0_begin_p1_0_2_0 (newS S3 1 1 (fun _ _ => 0) (fun _ _ => nul)) 1 11 = some S4) ∧ (xApart (addR (addR (addR (addR E 10 2 (fun _ => 0)) 11 2 (fun _ => 0)) 12 2 (fun _ => 0)) 1 1 (fun _ => 0)) S4 2) ∧ (f_X0_begin_p1_0_2_0 (newS S4 2 1 (fun _ _ => 0) (fun _ _ => nul)) 2 11 = some S5) ∧ (xApart (addR (addR (addR (addR (addR E 10 2 (fun _ => 0)) 11 2 (fun _ => 0)) 12 2 (fun _ => 0)) 1 1 (fun _ => 0)) 2 1 (fun _ => 0)) S5 3) ∧ (f_X0_begin_p1_0_2_0 (newS S5 3 1 (fun _ _ => 0) (fun _ _ => nul)) 3 11 = some S6) ∧ (xApart (addR (addR (addR (addR (addR (addR E 10 2 (fun _ => 0)) 11 2 (fun _ => 0)) 12 2 (fun _ => 0)) 1 1 (fun _ => 0)) 2 1 (fun _ => 0)) 3 1 (fun _ => 0)) S6 4) ∧ (f_X0_begin_p1_0_2_0 (newS S6 4 1 (fun _ _ => 0) (fun _ _ => nul)) 4 11 = some S7) ∧ (xApart (addR (addR (addR (addR (addR (addR (addR E 10 2 (fun _ => 0)) 11 2 (fun _ => 0)) 12 2 (fun _ => 0)) 1 1 (fun _ => 0)) 2 1 (fun _ => 0)) 3 1 (fun _ => 0)) 4 1 (fun _ => 0)) S7 5) ∧ (f_X0_begin_p1_0_2_0 (newS S7 5 1 (fun _ _ => 0) (fun _ _ => nul)) 5 11 = some S8) ∧ (xApart (addR (addR (addR (addR (addR (addR (addR (addR E 10 2 (fun _ => 0)) 11 2 (fun _ => 0)) 12 2 (fun _ => 0)) 1 1 (fun _ => 0)) 2 1 (fun _ => 0)) 3 1 (fun _ => 0)) 4 1 (fun _ => 0)) 5 1 (fun _ => 0)) S8 6) ∧ (f_X0_begin_p1_0_2_0 (newS S8 6 1 (fun _ _ => 0) (fun _ _ => nul)) 6 11 = some S9) ∧ (xApart (addR (addR (addR (addR (addR (addR (addR (addR (addR E 10 2 (fun _ => 0)) 11 2 (fun _ => 0)) 12 2 (fun _ => 0)) 1 1 (fun _ => 0)) 2 1 (fun _ => 0)) 3 1 (fun _ => 0)) 4 1 (fun _ => 0)) 5 1 (fun _ => 0)) 6 1 (fun _ => 0)) S9 7) ∧ (f_X0_begin_p1_0_2_0 (newS S9 7 1 (fun _ _ => 0) (fun _ _ => nul)) 7 11 = some S10) ∧ (xApart (addR (addR (addR (addR (addR (addR (addR (addR (addR (addR E 10 2 (fun _ => 0)) 11 2 (fun _ => 0)) 12 2 (fun _ => 0)) 1 1 (fun _ => 0)) 2 1 (fun _ => 0)) 3 1 (fun _ => 0)) 4 1 (fun _ => 0)) 5 1 (fun _ => 0)) 6 1 (fun _ => 0)) 7 1 (fun _ => 0)) S10 8) ∧ (f_X0_begin_p1_0_2_0 (newS S10 8 1 (fun _ _ => 0) (fun _ _ => nul)) 8 11 = some S11) ∧ (xApart (addR (addR (addR (addR (addR (addR (addR (addR (addR (addR (addR E 10 2 (fun _ => 0)) 11 2 (fun _ => 0)) 12 2 (fun _ => 0)) 1 1 (fun _ => 0)) 2 1 (fun _ => 0)) 3 1 (fun _ => 0)) 4 1 (fun _ => 0)) 5 1 (fun _ => 0)) 6 1 (fun _ => 0)) 7 1 (fun _ => 0)) 8 1 (fun _ => 0)) S11 9) ∧ (f_X0_begin_p1_0_2_0 (newS S11 9 1 (fun _ _ => 0) (fun _ _ => nul)) 9 11 = some S12) ∧ (xApart (addR (addR (addR (addR (addR (addR (addR (addR (addR (addR (addR (addR E 10 2 (fun _ => 0)) 11 2 (fun _ => 0)) 12 2 (fun _ => 0)) 1 1 (fun _ => 0)) 2 1 (fun _ => 0)) 3 1 (fun _ => 0)) 4 1 (fun _ => 0)) 5 1 (fun _ => 0)) 6 1 (fun _ => 0)) 7 1 (fun _ => 0)) 8 1 (fun _ => 0)) 9 1 (fun _ => 0)) S12 0)
/-- what is left of the law, from the store behind the makers on -/
def LAWOK (n : Nat) (q : Nat → Int) (S1 : xSt) : Prop := ∀ g : Nat → Int, (∀ j, j < (setT n q).length → g j = (setT n q).getD j 0) → ∃ (Sx : Nat → xSt) (N : Nat) (S2 S3 S4 : xSt) (v1 v2 : Int), Sx 0 = newS S1 50 (100 + (setT n q).length) (txs g) (fun _ _ => nul) ∧ N ≤ 31 ∧ FDs 0 50 (setT n q).length (fun j => (setT n q).getD j 0) Sx N ∧ f_X11_truncate_p3_0 (Sx N) 0 ((setT n q).length : Int) = some (v1, S2) ∧ f_X11_parse_p3_0 S2 0 = some (v2, S3) ∧ f_law S3 n q 0 v2 = some (1, S4)
/-- the text's letters -/
def asc (L : List Int) : Prop := ∀ x ∈ L, 0 ≤ x ∧ x ≤ 127
theorem asc_app {L M : List Int} (h1 : asc L) (h2 : asc M) : asc (L ++ M) := fun x hx => (List.mem_append.mp hx).elim (h1 x) (h2 x)
theorem asc_all : xldc.all (fun z => z.2.2.2.all (fun x => decide (0 ≤ x.toInt ∧ x.toInt ≤ 127))) = true := by decide +kernel
theorem asc_ld (q : Nat) : asc (ldL q) := by
  intro x hx
  unfold ldL at hx
  split at hx
  · rename_i z hz
    have h1 := List.all_eq_true.mp asc_all _ (List.mem_of_getElem? hz)
    obtain ⟨y, hy, rfl⟩ := List.mem_map.mp hx
    exact of_decide_eq_true (List.all_eq_true.mp h1 y hy)
  · cases hx
theorem asc_dg {v : Nat} (h : v < 100) : asc (dgL v) := by
  intro x hx
  unfold dgL at hx
  split at hx
  · obtain rfl := List.mem_singleton.mp hx
    omega
  · rcases List.mem_cons.mp hx with rfl | hx
    · omega
    · obtain rfl := List.mem_singleton.mp hx
      omega
theorem asc_1 {v : Nat} (h : v < 128) : asc [((v : Nat) : Int)] := by
  intro x hx
  obtain rfl := List.mem_singleton.mp hx
  omega
theorem asc_nil : asc [] := fun x hx => absurd hx List.not_mem_nil
theorem asc_hdr {d0 d1 d2 d3 d4 d5 k6 k7 : Nat} (h0 : d0 < 100) (h1 : d1 ≤ 2) (h2 : d2 < 100) (h3 : d3 < 100) (h4 : d4 < 100) (h5 : d5 < 100) : asc (hdrF d0 d1 d2 d3 d4 d5 k6 k7) := by
  have := sh8b h1
  unfold hdrF
  repeat' apply asc_app
  all_goals first | exact asc_nil | exact asc_ld _ | exact asc_dg (by omega) | exact asc_1 (by omega)
theorem asc_add {L : List Int} {i kd ar : Nat} (hL : asc L) (h : ar ≤ 8) : asc (addL L i kd ar) := by
  have h1 : 1 + ar % i < 100 := by
    have := Nat.mod_le ar i
    omega
  have h2 : ar % 3 < 100 := by omega
  unfold addL
  split
  · exact asc_app (asc_app (asc_app (asc_app (asc_app hL (asc_ld _)) (asc_dg h1)) (asc_ld _)) (asc_dg (by omega))) (asc_1 (by omega))
  · split
    · exact asc_app (asc_app (asc_app hL (asc_ld _)) (asc_dg h2)) (asc_1 (by omega))
    · split
      · exact asc_app hL (asc_ld _)
      · exact asc_app (asc_app hL (asc_ld _)) (asc_1 (by omega))
theorem asc_bod {n : Nat} {q : Nat → Int} : ∀ i : Nat, asc (bodT n q i) := by
  intro i
  induction i with
  | zero =>
    have b0 := (drN_le (n := n) (q := q) (i := 0) (lo := 1) (hi := 6) (by omega)).2
    have b1 := (drN_le (n := n) (q := q) (i := 1) (lo := 0) (hi := 2) (by omega)).2
    have b2 := (drN_le (n := n) (q := q) (i := 2) (lo := 2) (hi := 20) (by omega)).2
    have b3 := (drN_le (n := n) (q := q) (i := 3) (lo := 4) (hi := 40) (by omega)).2
    have b4 := (drN_le (n := n) (q := q) (i := 4) (lo := 1) (hi := 8) (by omega)).2
    have b5 := (drN_le (n := n) (q := q) (i := 5) (lo := 0) (hi := 30) (by omega)).2
    exact asc_hdr (by omega) b1 (by omega) (by omega) (by omega) (by omega)
  | succ i ih => exact asc_add ih (drN_le (n := n) (q := q) (i := 10 + 2 * i) (lo := 0) (hi := 8) (by omega)).2
theorem setT_len {n : Nat} {q : Nat → Int} : (setT n q).length ≤ 388 := by
  have h := bodT_len (n := n) (q := q) (drN n q 8 1 12)
  have := (drN_le (n := n) (q := q) (i := 8) (lo := 1) (hi := 12) (by omega)).2
  show (bodT n q (drN n q 8 1 12)).length ≤ 388
  omega
theorem setT_asc {n : Nat} {q : Nat → Int} (i : Nat) (h : i < (setT n q).length) : 0 ≤ (setT n q).getD i 0 ∧ (setT n q).getD i 0 ≤ 127 := by
  rw [List.getD_eq_getElem?_getD, List.getElem?_eq_getElem h]
  exact asc_bod _ _ (List.getElem_mem h)
