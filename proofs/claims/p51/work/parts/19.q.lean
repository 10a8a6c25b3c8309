/-! a region out of the cells that were made -/
def addR (E : xE) (r κ : Nat) (f : Nat → Nat) : xE := (E.1, (fun r' o => if r' = r then f o else xad E r' o), (fun r' => if r' = r then κ else xkd E r'), (fun a => xA E a ∨ ∃ (o : Nat) (k : xK), lay κ o = some k ∧ f o = a), E.2.2.2.2)
def newS (S : xSt) (r κ : Nat) (σ0 : Nat → Nat → Int) (ρ0 : Nat → Nat → Nat × Nat) : xSt := ((S.1.1, fun r' => if r' = r then κ else S.1.2 r'), (fun r' => if r' = r then σ0 else S.2.1 r'), fun r' => if r' = r then ρ0 else S.2.2 r')
theorem addR_d {E : xE} {r κ : Nat} {f : Nat → Nat} : xD (addR E r κ f) = xD E := rfl
theorem addR_s {E : xE} {r κ : Nat} {f : Nat → Nat} {o : Nat} : xad (addR E r κ f) r o = f o := if_pos rfl
theorem addR_n {E : xE} {r κ : Nat} {f : Nat → Nat} {r' o : Nat} (h : r' ≠ r) : xad (addR E r κ f) r' o = xad E r' o := if_neg h
theorem addR_ks {E : xE} {r κ : Nat} {f : Nat → Nat} : xkd (addR E r κ f) r = κ := if_pos rfl
theorem addR_kn {E : xE} {r κ : Nat} {f : Nat → Nat} {r' : Nat} (h : r' ≠ r) : xkd (addR E r κ f) r' = xkd E r' := if_neg h
/-- no cell of the regions that are there points into region r -/
def xApart (E : xE) (S : xSt) (r : Nat) : Prop := ∀ (r' o : Nat) (k : xK), r' ≠ r → lay (xkd E r') o = some k → match k with
  | .inl q => ∀ (j : Nat) (z : Option (Nat × Nat)), q.2[j]? = some (.inr z) → (match z with
    | some d => r' + d.1 ≠ r
    | none => (S.2.2 r' o j).1 ≠ r)
  | .inr (.inl _) => True
  | .inr (.inr q) => ∀ (j : Nat) (d : Nat × Nat), q.2[j]? = some d → r' + d.1 ≠ r
theorem xat_add {E : xE} {S : xSt} {r κ : Nat} {f : Nat → Nat} {U : State} {H : Heap} (ha : xApart E S r) {r' o : Nat} {k : xK} (hr : r' ≠ r) (hl : lay (xkd E r') o = some k) (h : xat E r' o k (tS S.2.1 r' o) (S.2.2 r' o) U H) : xat (addR E r κ f) r' o k (tS S.2.1 r' o) (S.2.2 r' o) U H := by
  have hh := ha r' o k hr hl
  rcases k with q | q | q
  · obtain ⟨⟨c, h1, h2, h3⟩, h4⟩ := h
    refine ⟨⟨c, h1, h2, ?_⟩, h4⟩
    rw [addR_n hr]
    refine t_OB.to h3 (fun j hj => ?_)
    show xfo E r' q.2[j]? _ _ = xfo (addR E r κ f) r' q.2[j]? _ _
    cases hq : q.2[j]? with
    | none => rfl
    | some w =>
      rcases w with w | w | d
      · rfl
      · have := hh j none hq
        show (if _ then Value.null else Value.ref (xad E _ _)) = (if _ then Value.null else Value.ref (xad (addR E r κ f) _ _))
        rw [addR_n this]
      · have := hh j (some d) hq
        show Value.ref (xad E _ _) = Value.ref (xad (addR E r κ f) _ _)
        rw [addR_n this]
  · obtain ⟨cell, h1, h2⟩ := h
    exact ⟨cell, by rw [addR_n hr]; exact h1, h2⟩
  · obtain ⟨cell, h1, h2, h3, h4, h5, h6⟩ := h
    refine ⟨cell, by rw [addR_n hr]; exact h1, h2, h3, h4, fun j z hz => ?_, h6⟩
    rw [addR_n (hh j z hz)]
    exact h5 j z hz
/-- a cell that was made is the place that the layout has there -/
def pmt (E : xE) (r : Nat) (z : pE) (k : xK) (g : Nat → Int) (w : Nat → Nat × Nat) : Prop := match z, k with
  | .inl a, .inl b => a.1 = b.1 ∧ a.2.length = b.2.length ∧ (∀ j, j < a.2.length → a.2.getD j .null = xfo E r b.2[j]? (Int32.ofInt (g j)) (w j)) ∧ ∀ (j : Nat) (ty : FieldType), b.2[j]? = some (.inl ty) → fits ty (.int (Int32.ofInt (g j))) = true
  | .inr (.inl a), .inr (.inl b) => a = b ∧ (∀ j, g j = 0) ∧ (a.1 = .int ∨ a.1 = .boolean ∨ a.1 = .byte ∨ a.1 = .long) ∧ a.2 < 2147483648
  | .inr (.inr a), .inr (.inr b) => a.1 = b.1 ∧ a.2.length = b.2.length ∧ (∀ (j : Nat) (d : Nat × Nat), b.2[j]? = some d → a.2[j]? = some (some (xad E (r + d.1) d.2))) ∧ a.2.length < 2147483648
  | _, _ => False
theorem xat_new {E : xE} {r o : Nat} {z : pE} {k : xK} {g : Nat → Int} {w : Nat → Nat × Nat} {U : State} {H : Heap} (hz : pat (xD E) (xad E r o, z) U H) (hm : pmt E r z k g w) : xat E r o k (fun j => Int32.ofInt (g j)) w U H := by
  rcases z with a | a | a <;> rcases k with b | b | b <;> simp only [pmt] at hm
  · obtain ⟨h1, h2, h3, h4⟩ := hm
    obtain ⟨c, g1, g2, g3⟩ := hz
    refine ⟨⟨c, by rw [← h1]; exact g1, by rw [← h2]; exact g2, ?_⟩, h4⟩
    have g4 : t_OB (xad E r o) ((xD E).1 b.1) c.2.2 ((xD E).2 b.1) H (fun j => a.2.getD j .null) := by rw [← h1]; exact g3
    exact t_OB.to g4 (fun j hj => h3 j (by rw [g2] at hj; exact hj))
  · obtain ⟨rfl, h2, h3, h5⟩ := hm
    obtain ⟨cell, g1, g2, g3, g4, g5⟩ := hz
    refine ⟨cell, g1, g2, g3, Nat.le_of_eq g4.symm, (congrArg Nat.toInt32 g4), fun j hj => ?_⟩
    show cell.slots[j]? = some (xav a.1 (Int32.ofInt (g j))) ∧ fits a.1 (xav a.1 (Int32.ofInt (g j))) = true
    rw [g5 j hj, h2 j]
    rcases h3 with h3 | h3 | h3 | h3 <;> rw [h3] <;> exact ⟨rfl, rfl⟩
  · obtain ⟨h1, h2, h3, h5⟩ := hm
    obtain ⟨cell, g1, g2, g3, g4, g5⟩ := hz
    refine ⟨cell, g1, (by rw [← h1]; exact g2.1), (by rw [g3]; exact (fun q => nomatch q)), (by rw [← h2]; exact Nat.le_of_eq g4.symm), fun j d hd => ?_, ((congrArg Nat.toInt32 g4).trans (congrArg Nat.toInt32 h2))⟩
    exact g5 j _ (h3 j d hd)
theorem mk_region {E : xE} {B : Nat} {S : xSt} {ws ws' : pW} {U : State} {H : Heap} {r κ : Nat} {f : Nat → Nat} {σ0 : Nat → Nat → Int} {ρ0 : Nat → Nat → Nat × Nat} (hY : YW E S U H) (hP : PN E B ws U H) (hr : xkd E r = 0) (ha : xApart E S r)
    (hcell : ∀ (o : Nat) (k : xK), lay κ o = some k → ∃ z, (f o, z) ∈ ws ∧ pmt (addR E r κ f) r z k (σ0 o) (ρ0 o))
    (hinj : ∀ (o o' : Nat) (k k' : xK), lay κ o = some k → lay κ o' = some k' → f o = f o' → o = o')
    (hsub : ws'.Sublist ws) (hdis : ∀ q ∈ ws', ∀ (o : Nat) (k : xK), lay κ o = some k → f o ≠ q.1) :
    YW (addR E r κ f) (newS S r κ σ0 ρ0) U H ∧ PN (addR E r κ f) B ws' U H := by
  have hin : ∀ (o : Nat) (k : xK), lay κ o = some k → ∃ z, (f o, z) ∈ ws := fun o k h => by obtain ⟨z, h1, -⟩ := hcell o k h; exact ⟨z, h1⟩
  have hS : XStat (eB (addR E r κ f) B) U H := hP.2.2.2.2.2.1
  have hA : ∀ a, xA (addR E r κ f) a → B ≤ a := fun a h => by
    rcases h with h | ⟨o, k, h1, rfl⟩
    · exact hP.2.2.2.1 a h
    · obtain ⟨z, hz⟩ := hin o k h1
      exact (hP.1 _ hz).2.1
  have hj1 : ∀ (r' o r2 o' : Nat) (k k' : xK), lay (xkd (addR E r κ f) r') o = some k → lay (xkd (addR E r κ f) r2) o' = some k' → xad (addR E r κ f) r' o = xad (addR E r κ f) r2 o' → r' = r2 ∧ o = o' := by
    intro r1 o r2 o' k k' h1 h2 h3
    by_cases e1 : r1 = r
    · subst e1
      rw [addR_ks] at h1
      rw [addR_s] at h3
      by_cases e2 : r2 = r1
      · subst e2
        rw [addR_ks] at h2
        rw [addR_s] at h3
        exact ⟨rfl, hinj o o' k k' h1 h2 h3⟩
      · rw [addR_kn e2] at h2
        rw [addR_n e2] at h3
        obtain ⟨z, hz⟩ := hin o k h1
        exact absurd h3.symm ((hP.1 _ hz).2.2 r2 o' k' h2)
    · rw [addR_kn e1] at h1
      rw [addR_n e1] at h3
      by_cases e2 : r2 = r
      · subst e2
        rw [addR_ks] at h2
        rw [addR_s] at h3
        obtain ⟨z, hz⟩ := hin o' k' h2
        exact absurd h3 ((hP.1 _ hz).2.2 r1 o k h1)
      · rw [addR_kn e2] at h2
        rw [addR_n e2] at h3
        exact hY.1.2.2.1.1 r1 o r2 o' k k' h1 h2 h3
  refine ⟨⟨⟨hY.1.1, fun r' o k hl => ?_, ⟨hj1, fun r' o k hl => ?_⟩, XStat_narrow hS hA, hY.1.2.2.2.2⟩, ?_⟩, fun q hq => ⟨(hP.1 q (hsub.subset hq)).1, (hP.1 q (hsub.subset hq)).2.1, fun r' o k hl => ?_⟩, hP.2.1.sublist hsub, fun a h => ?_, hA, hP.2.2.2.2.1, hS, hP.2.2.2.2.2.2⟩
  · by_cases e1 : r' = r
    · subst e1
      rw [addR_ks] at hl
      obtain ⟨z, hz, hm⟩ := hcell o k hl
      have e2 : tS (newS S r' κ σ0 ρ0).2.1 r' o = fun j => Int32.ofInt (σ0 o j) := by
        funext j
        show Int32.ofInt ((if r' = r' then σ0 else S.2.1 r') o j) = _
        rw [if_pos rfl]
      have e3 : (newS S r' κ σ0 ρ0).2.2 r' o = ρ0 o := by
        show (if r' = r' then ρ0 else S.2.2 r') o = _
        rw [if_pos rfl]
      rw [e2, e3]
      exact xat_new (by rw [addR_s]; exact (hP.1 _ hz).1) hm
    · rw [addR_kn e1] at hl
      have e2 : tS (newS S r κ σ0 ρ0).2.1 r' o = tS S.2.1 r' o := by
        funext j
        show Int32.ofInt ((if r' = r then σ0 else S.2.1 r') o j) = _
        rw [if_neg e1]
        rfl
      have e3 : (newS S r κ σ0 ρ0).2.2 r' o = S.2.2 r' o := by
        show (if r' = r then ρ0 else S.2.2 r') o = _
        rw [if_neg e1]
      rw [e2, e3]
      exact xat_add ha e1 hl (hY.1.2.1 r' o k hl)
  · by_cases e1 : r' = r
    · subst e1
      rw [addR_ks] at hl
      exact Or.inr ⟨o, k, hl, addR_s.symm⟩
    · rw [addR_kn e1] at hl
      rw [addR_n e1]
      exact Or.inl (hY.1.2.2.1.2 r' o k hl)
  · funext r'
    show (if r' = r then κ else S.1.2 r') = if r' = r then κ else xkd E r'
    rw [hY.2]
  · by_cases e1 : r' = r
    · subst e1
      rw [addR_ks] at hl
      rw [addR_s]
      exact hdis q hq o k hl
    · rw [addR_kn e1] at hl
      rw [addR_n e1]
      exact (hP.1 q (hsub.subset hq)).2.2 r' o k hl
  · rcases h with h | ⟨o, k, h1, rfl⟩
    · obtain ⟨r', o, k, h1, h2⟩ := hP.2.2.1 a h
      have e1 : r' ≠ r := fun e => by subst e; rw [hr] at h1; cases h1
      exact ⟨r', o, k, by rw [addR_kn e1]; exact h1, by rw [addR_n e1]; exact h2⟩
    · exact ⟨r, o, k, by rw [addR_ks]; exact h1, addR_s⟩
