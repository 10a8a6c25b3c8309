/-! mathematics: a copy in the world of stores -/
/-- S' is S but for region b, which has become as region a, over the program q -/
def CPY (S S' : xSt) (b a q : Nat) : Prop := S'.1 = S.1 ∧ S'.2.1 b = S.2.1 a ∧ (∀ k, k ≠ b → S'.2.1 k = S.2.1 k) ∧ S'.2.2 b 0 0 = (q, 0) ∧ ∀ k, k ≠ b → S'.2.2 k = S.2.2 k
/-- region k holds a Front over the program q -/
def FOK (S : xSt) (k q : Nat) : Prop := S.2.2 k 0 0 = (q, 0) ∧ ZB (S.2.1 k) ∧ (S.2.1 k 0 11 = 0 ∨ S.2.1 k 0 11 = 1) ∧ (S.2.1 k 0 13 = 0 ∨ S.2.1 k 0 13 = 1) ∧ (S.2.1 k 8 0 = 0 ∨ S.2.1 k 8 0 = 1)
theorem fok_fi {S : xSt} {k q : Nat} {π F : xR} {B : Int} (h : S.2.2 k 0 0 = (q, 0)) (e : S.2.1 k = F) (hF : FI π B F) : FOK S k q := by
  obtain ⟨hr, -, -, -, -, -, -, -, -, hz⟩ := hF
  obtain ⟨-, -, -, -, -, -, -, r7, r8, -, -, -, -, -, -, -, r16, -⟩ := hr
  unfold FOK
  rw [e]
  exact ⟨h, hz, r7, r8, r16⟩
theorem w_copy {S : xSt} {a b q : Nat} (h : a ≠ b) (hF : FOK S a q) (hk : gk S q = 2) (zb : ZB (S.2.1 b)) : ∃ S', f_X0_copyFrom_p1_0_1_0 S b a = some S' ∧ CPY S S' b a q := by
  obtain ⟨h1, h2, h3, h4, h5⟩ := hF
  have e : S = sR S b (S.2.1 b) := sR_i rfl
  have g := p_copy (S := S) (r0 := b) (r1 := a) (q := q) (G := S.2.1 b) (A := S.2.1 a) h h1 hk rfl zb h2 h3 h4 h5
  rw [← e] at g
  refine ⟨_, g, rfl, sR_g1, fun k hk2 => by rw [sR_n1 hk2, wP_1], uP_s, fun k hk2 => ?_⟩
  show uP S.2.2 b 0 0 (q, 0) k = S.2.2 k
  funext o j
  exact if_neg (fun z => hk2 z.1)
theorem w_cpyb {S S' : xSt} {a b q : Nat} (h : CPY S S' b a q) (hF : FOK S a q) : FOK S' b q := by
  obtain ⟨c1, c2, c3, c4, c5⟩ := h
  obtain ⟨h1, h2, h3, h4, h5⟩ := hF
  unfold FOK
  rw [c2]
  exact ⟨c4, h2, h3, h4, h5⟩
theorem w_cpyo {S S' : xSt} {a b q k q' : Nat} (h : CPY S S' b a q) (hk : k ≠ b) (hF : FOK S k q') : FOK S' k q' := by
  obtain ⟨c1, c2, c3, c4, c5⟩ := h
  unfold FOK at hF ⊢
  rw [c3 k hk, c5 k hk]
  exact hF
