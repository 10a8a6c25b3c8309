/-! THE PLACE-STORE: every cell of the system has a place (region, offset); a store gives each place's ints; what a place is, is said by a layout of its region's kind. All contracts speak of the one world XW. -/
abbrev xS : Type := Nat → Nat → Nat → Int32
abbrev xT : Type := Nat → Nat → Int32
abbrev xP : Type := Nat → Nat → Nat → Nat × Nat
abbrev xF : Type := FieldType ⊕ Option (Nat × Nat)
abbrev xK : Type := (Nat × List xF) ⊕ ((FieldType × Nat) ⊕ (String × List (Nat × Nat)))
abbrev xE : Type := va_G × (Nat → Nat → Nat) × (Nat → Nat) × (Nat → Prop) × (Nat → Nat) × (Nat → Nat) × (Nat → Nat) × (Nat × Nat × (Nat → Int))
def xD (E : xE) : va_G := E.1
def xad (E : xE) : Nat → Nat → Nat := E.2.1
def xkd (E : xE) : Nat → Nat := E.2.2.1
def xA (E : xE) : Nat → Prop := E.2.2.2.1
def xaK (E : xE) : Nat → Nat := E.2.2.2.2.1
def xaV (E : xE) : Nat → Nat := E.2.2.2.2.2.1
def xts (E : xE) : Nat → Nat := E.2.2.2.2.2.2.1
/-- the script: its cell, its length, its ints -/
def xsb (E : xE) : Nat := E.2.2.2.2.2.2.2.1
def xsL (E : xE) : Nat := E.2.2.2.2.2.2.2.2.1
def xsc (E : xE) : Nat → Int := E.2.2.2.2.2.2.2.2.2
def u1 (τ : xT) (o : Nat) (f : Nat → Int32) : xT := fun o' => if o' = o then f else τ o'
def u2 (τ : xT) (o k : Nat) (v : Int32) : xT := u1 τ o (upd (τ o) k v)
def uR (σ : xS) (r : Nat) (τ : xT) : xS := fun r' => if r' = r then τ else σ r'
def uP (ρ : xP) (r o k : Nat) (q : Nat × Nat) : xP := fun r' o' k' => if r' = r ∧ o' = o ∧ k' = k then q else ρ r' o' k'
theorem uR_s {σ : xS} {r : Nat} {τ : xT} : (uR σ r τ) r = τ := if_pos rfl
theorem uR_n {σ : xS} {r r' : Nat} {τ : xT} (h : r' ≠ r) : (uR σ r τ) r' = σ r' := if_neg h
theorem uR_e {σ : xS} {r : Nat} : uR σ r (σ r) = σ := by
  funext r'
  by_cases h : r' = r
  · subst h; rw [uR_s]
  · rw [uR_n h]
theorem uR_r {σ : xS} {r : Nat} {τ τ' : xT} : uR (uR σ r τ) r τ' = uR σ r τ' := by
  funext r'
  by_cases h : r' = r
  · subst h; rw [uR_s, uR_s]
  · rw [uR_n h, uR_n h, uR_n h]
theorem uR_c {σ : xS} {r q : Nat} {τ θ τ' : xT} (h : r ≠ q) : uR (uR (uR σ r τ) q θ) r τ' = uR (uR σ r τ') q θ := by
  funext r'
  by_cases h1 : r' = r
  · subst h1; rw [uR_s, uR_n h, uR_s]
  · by_cases h2 : r' = q
    · subst h2; rw [uR_n h1, uR_s, uR_s]
    · rw [uR_n h1, uR_n h2, uR_n h1, uR_n h2, uR_n h1]
theorem u1_s {τ : xT} {o : Nat} {f : Nat → Int32} : (u1 τ o f) o = f := if_pos rfl
theorem u1_n {τ : xT} {o o' : Nat} {f : Nat → Int32} (h : o' ≠ o) : (u1 τ o f) o' = τ o' := if_neg h
theorem u2_s {τ : xT} {o k : Nat} {v : Int32} : (u2 τ o k v) o k = v := by unfold u2; rw [u1_s]; exact if_pos rfl
theorem u2_k {τ : xT} {o k k' : Nat} {v : Int32} (h : k' ≠ k) : (u2 τ o k v) o k' = τ o k' := by unfold u2; rw [u1_s]; exact if_neg h
theorem u2_n {τ : xT} {o o' k : Nat} {v : Int32} (h : o' ≠ o) : (u2 τ o k v) o' = τ o' := by unfold u2; rw [u1_n h]
/-- a let that keeps its name -/
def lt1 {α β : Type} (x : α) (f : α → β) : β := f x
theorem lt1_i {α β : Type} {x : α} {f : α → Option β} {r : β} (h : lt1 x f = some r) : ∃ y, y = x ∧ f y = some r := ⟨x, rfl, h⟩
def xB (x : Int32) : Prop := x = 0 ∨ x = 1
theorem xB0 : xB 0 := Or.inl rfl
theorem xB1 : xB 1 := Or.inr rfl
theorem xB_n {x : Int32} (h : xB x) : narrow .boolean (.int x) = .int x := by rcases h with rfl | rfl <;> rfl
theorem xB_f {x : Int32} (h : xB x) : fits .boolean (.int x) = true := by rcases h with rfl | rfl <;> rfl
theorem xB_of {x : Int32} (h : fits .boolean (.int x) = true) : xB x := by
  simp only [fits, Bool.or_eq_true, beq_iff_eq] at h
  exact h
/-- a test of an index -/
def ck {β : Type} (i : Int32) (n : Nat) (k : Option β) : Option β := if ¬ (i < 0 ∨ n ≤ i.toNatClampNeg) then k else none
theorem ck_i {β : Type} {i : Int32} {n : Nat} {k : Option β} {r : β} (h : ck i n k = some r) : vp_in i n ∧ k = some r := by
  unfold ck at h
  by_cases c : ¬ (i < 0 ∨ n ≤ i.toNatClampNeg)
  · rw [if_pos c] at h; exact ⟨c, h⟩
  · rw [if_neg c] at h; cases h
/-- a test of a divisor -/
def ckz {β : Type} (y : Int32) (k : Option β) : Option β := if y = 0 then none else k
theorem ckz_i {β : Type} {y : Int32} {k : Option β} {r : β} (h : ckz y k = some r) : ¬ y = 0 ∧ k = some r := by
  unfold ckz at h
  by_cases c : y = 0
  · rw [if_pos c] at h; cases h
  · rw [if_neg c] at h; exact ⟨c, h⟩
def xav (ty : FieldType) (x : Int32) : Value := match ty with
  | .long => .long x.toInt64
  | _ => .int x
def xfv (E : xE) (r : Nat) (f : xF) (x : Int32) (q : Nat × Nat) : Value := match f with
  | .inl _ => .int x
  | .inr (some q') => .ref (xad E (r + q'.1) q'.2)
  | .inr none => if q.2 = 77777 then .null else .ref (xad E q.1 q.2)
def xfo (E : xE) (r : Nat) (f : Option xF) (x : Int32) (q : Nat × Nat) : Value := match f with
  | some f => xfv E r f x q
  | none => .null
def xat (E : xE) (r o : Nat) (k : xK) (f : Nat → Int32) (g : Nat → Nat × Nat) (U : State) (H : Heap) : Prop := match k with
  | .inl q => (∃ c : vw_C, vwCl[q.1]? = some c ∧ c.2.2 = q.2.length ∧ t_OB (xad E r o) ((xD E).1 q.1) c.2.2 ((xD E).2 q.1) H (fun j => xfo E r q.2[j]? (f j) (g j))) ∧ ∀ (j : Nat) (ty : FieldType), q.2[j]? = some (.inl ty) → fits ty (.int (f j)) = true
  | .inr (.inl q) => ∃ cell : Cell, H[xad E r o]? = some cell ∧ U.isArrayOf cell q.1 ∧ cell.vm ≠ .unknown ∧ q.2 ≤ cell.slots.size ∧ cell.slots.size.toInt32 = Int32.ofNat q.2 ∧ ∀ j : Nat, j < q.2 → cell.slots[j]? = some (xav q.1 (f j)) ∧ fits q.1 (xav q.1 (f j)) = true
  | .inr (.inr q) => ∃ cell : Cell, H[xad E r o]? = some cell ∧ U.isArrayOf cell (.object q.1) ∧ cell.vm ≠ .unknown ∧ q.2.length ≤ cell.slots.size ∧ (∀ (j : Nat) (z : Nat × Nat), q.2[j]? = some z → cell.slots[j]? = some (.ref (xad E (r + z.1) z.2))) ∧ cell.slots.size.toInt32 = Int32.ofNat q.2.length
