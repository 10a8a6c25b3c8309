/-! mathematics: the start -/
section C22
variable {E : xE} {S S' : xSt} {r : Nat}
/-- an empty program -/
def CLR : xR := uF (uF (uF (uG (fun _ _ => 0) 1 (cpI (tbI 4) (fun _ => 0) 0 0 6)) 2 2 0) 0 10 0) 9 0 0
theorem nS_1 {κ : Nat} {σ : Nat → Nat → Int} {ρ : Nat → Nat → Nat × Nat} : (newS S r κ σ ρ).2.1 r = σ := if_pos rfl
theorem nS_n {κ k : Nat} {σ : Nat → Nat → Int} {ρ : Nat → Nat → Nat × Nat} (h : k ≠ r) : (newS S r κ σ ρ).2.1 k = S.2.1 k := if_neg h
theorem nS_p {κ k : Nat} {σ : Nat → Nat → Int} {ρ : Nat → Nat → Nat × Nat} (h : k ≠ r) : (newS S r κ σ ρ).2.2 k = S.2.2 k := if_neg h
theorem nS_k {κ k : Nat} {σ : Nat → Nat → Int} {ρ : Nat → Nat → Nat × Nat} (h : k ≠ r) : (newS S r κ σ ρ).1.2 k = S.1.2 k := if_neg h
theorem nS_s {κ : Nat} {σ : Nat → Nat → Int} {ρ : Nat → Nat → Nat × Nat} : (newS S r κ σ ρ).1.2 r = κ := if_pos rfl
/-- one place further: S' is S with a region r more -/
def STEP (S S' : xSt) (r κ : Nat) : Prop := S'.1.1 = S.1.1 ∧ S'.1.2 r = κ ∧ (∀ k, k ≠ r → S'.1.2 k = S.1.2 k) ∧ (∀ k, k ≠ r → S'.2.1 k = S.2.1 k) ∧ ∀ k, k ≠ r → S'.2.2 k = S.2.2 k
theorem st_clear (S : xSt) (r : Nat) : ∃ S', f_X5_clear_p2_0 (newS S r 2 (fun _ _ => 0) (fun _ _ => nul)) r = some S' ∧ STEP S S' r 2 ∧ S'.2.1 r = CLR := by
  have w0 : (wr 0).toNat = 0 := by decide
  have w6 : (wr 6).toNat = 6 := by decide
  have e : newS S r 2 (fun _ _ => 0) (fun _ _ => nul) = sR (newS S r 2 (fun _ _ => 0) (fun _ _ => nul)) r (fun _ _ => 0) := sR_i nS_1
  refine ⟨sR (newS S r 2 (fun _ _ => 0) (fun _ _ => nul)) r CLR, ?_, ⟨rfl, nS_s (κ := 2) (σ := fun _ _ => 0) (ρ := fun _ _ => nul), fun k h => nS_k (κ := 2) (σ := fun _ _ => 0) (ρ := fun _ _ => nul) h, fun k h => by rw [sR_n1 h, nS_n h], fun k h => nS_p (κ := 2) (σ := fun _ _ => 0) (ρ := fun _ _ => nul) h⟩, sR_g1⟩
  rw [e]
  unfold f_X5_clear_p2_0
  rw [w0, w6, sR_g1, sR_a, lt1_e, sR_w, lt1_e, sR_w, lt1_e, sR_w, lt1_e, sR_s]
  rfl
theorem st_begin (hf : 10000000 ≤ S.1.1) {q : Nat} (hq : q ≠ r) : ∃ S', f_X0_begin_p1_0_2_0 (newS S r 1 (fun _ _ => 0) (fun _ _ => nul)) r q = some S' ∧ STEP S S' r 1 ∧ S'.2.2 r 0 0 = (q, 0) ∧ ZB (S'.2.1 r) := by
  have z0 : ZB (fun _ _ => 0) := fun _ _ _ => rfl
  have e : newS S r 1 (fun _ _ => 0) (fun _ _ => nul) = sR (newS S r 1 (fun _ _ => 0) (fun _ _ => nul)) r (fun _ _ => 0) := sR_i nS_1
  have g1 := p_begin (S := newS S r 1 (fun _ _ => 0) (fun _ _ => nul)) (r := r) (r1 := q) (G := fun _ _ => 0) (π := S.2.1 q) hq (nS_n hq) hf z0
  rw [← e] at g1
  refine ⟨_, g1, ⟨rfl, nS_s (κ := 1) (σ := fun _ _ => 0) (ρ := fun _ _ => nul), fun k h => nS_k (κ := 1) (σ := fun _ _ => 0) (ρ := fun _ _ => nul) h, fun k h => by rw [sR_n1 h, wP_1, nS_n h], fun k h => ?_⟩, uP_s, by rw [sR_g1]; exact bg_z z0⟩
  have e : (uP (newS S r 1 (fun _ _ => 0) (fun _ _ => nul)).2.2 r 0 0 (q, 0)) k = (newS S r 1 (fun _ _ => 0) (fun _ _ => nul)).2.2 k := by
    funext o j
    exact if_neg (fun z => h z.1)
  exact e.trans (nS_p (κ := 1) (σ := fun _ _ => 0) (ρ := fun _ _ => nul) h)
end C22
