theorem mk_regionS {E : xE} {B : Nat} {S : xSt} {ws : sW} {U : State} {H : Heap} {r κ : Nat} {f : Nat → Nat} {σ0 : Nat → Nat → Int} {ρ0 : Nat → Nat → Nat × Nat} (hY : YW E S U H) (hP : PS E B ws U H) (hr : xkd E r = 0) (ha : xApart E S r)
    (hcell : ∀ (o : Nat) (k : xK), lay κ o = some k → (∃ z, (f o, z) ∈ ws) ∧ xat (addR E r κ f) r o k (fun j => Int32.ofInt (σ0 o j)) (ρ0 o) U H)
    (hinj : ∀ (o o' : Nat) (k k' : xK), lay κ o = some k → lay κ o' = some k' → f o = f o' → o = o') :
    YW (addR E r κ f) (newS S r κ σ0 ρ0) U H ∧ PN (addR E r κ f) B [] U H := by
  have hin : ∀ (o : Nat) (k : xK), lay κ o = some k → ∃ z, (f o, z) ∈ ws := fun o k h => (hcell o k h).1
  have hS : XStat (eB (addR E r κ f) B) U H := hP.1.2.2.2.2.2.1
  have hA : ∀ a, xA (addR E r κ f) a → B ≤ a := fun a h => by
    rcases h with h | ⟨o, k, h1, rfl⟩
    · exact hP.1.2.2.2.1 a h
    · obtain ⟨z, hz⟩ := hin o k h1
      exact (hP.2.1 _ hz).2.1
  have hj1 : ∀ (r' o r2 o' : Nat) (k k' : xK), lay (xkd (addR E r κ f) r') o = some k → lay (xkd (addR E r κ f) r2) o' = some k' → xad (addR E r κ f) r' o = xad (addR E r κ f) r2 o' → r' = r2 ∧ o = o' := by
    intro r1 o r2 o' k k' h1 h2 h3
    by_cases e1 : r1 = r
    · subst e1
      rw [addR_ks] at h1
      rw [addR_s] at h3
      by_cases e2 : r2 = r1
      · subst e2
        rw [addR_ks] at h2
        rw [addR_s] at h3
        exact ⟨rfl, hinj o o' k k' h1 h2 h3⟩
      · rw [addR_kn e2] at h2
        rw [addR_n e2] at h3
        obtain ⟨z, hz⟩ := hin o k h1
        exact absurd h3.symm ((hP.2.1 _ hz).2.2 r2 o' k' h2)
    · rw [addR_kn e1] at h1
      rw [addR_n e1] at h3
      by_cases e2 : r2 = r
      · subst e2
        rw [addR_ks] at h2
        rw [addR_s] at h3
        obtain ⟨z, hz⟩ := hin o' k' h2
        exact absurd h3 ((hP.2.1 _ hz).2.2 r1 o k h1)
      · rw [addR_kn e2] at h2
        rw [addR_n e2] at h3
        exact hY.1.2.2.1.1 r1 o r2 o' k k' h1 h2 h3
  refine ⟨⟨⟨hY.1.1, fun r' o k hl => ?_, ⟨hj1, fun r' o k hl => ?_⟩, XStat_narrow hS hA, hY.1.2.2.2.2⟩, ?_⟩, fun q hq => absurd hq List.not_mem_nil, List.Pairwise.nil, fun a h => ?_, hA, hP.1.2.2.2.2.1, hS, hP.1.2.2.2.2.2.2⟩
  · by_cases e1 : r' = r
    · subst e1
      rw [addR_ks] at hl
      have hm := (hcell o k hl).2
      have e2 : tS (newS S r' κ σ0 ρ0).2.1 r' o = fun j => Int32.ofInt (σ0 o j) := by
        funext j
        show Int32.ofInt ((if r' = r' then σ0 else S.2.1 r') o j) = _
        rw [if_pos rfl]
      have e3 : (newS S r' κ σ0 ρ0).2.2 r' o = ρ0 o := by
        show (if r' = r' then ρ0 else S.2.2 r') o = _
        rw [if_pos rfl]
      rw [e2, e3]
      exact hm
    · rw [addR_kn e1] at hl
      have e2 : tS (newS S r κ σ0 ρ0).2.1 r' o = tS S.2.1 r' o := by
        funext j
        show Int32.ofInt ((if r' = r then σ0 else S.2.1 r') o j) = _
        rw [if_neg e1]
        rfl
      have e3 : (newS S r κ σ0 ρ0).2.2 r' o = S.2.2 r' o := by
        show (if r' = r then ρ0 else S.2.2 r') o = _
        rw [if_neg e1]
      rw [e2, e3]
      exact xat_add ha e1 hl (hY.1.2.1 r' o k hl)
  · by_cases e1 : r' = r
    · subst e1
      rw [addR_ks] at hl
      exact Or.inr ⟨o, k, hl, addR_s.symm⟩
    · rw [addR_kn e1] at hl
      rw [addR_n e1]
      exact Or.inl (hY.1.2.2.1.2 r' o k hl)
  · funext r'
    show (if r' = r then κ else S.1.2 r') = if r' = r then κ else xkd E r'
    rw [hY.2]
  · rcases h with h | ⟨o, k, h1, rfl⟩
    · obtain ⟨r', o, k, h1, h2⟩ := hP.1.2.2.1 a h
      have e1 : r' ≠ r := fun e => by subst e; rw [hr] at h1; cases h1
      exact ⟨r', o, k, by rw [addR_kn e1]; exact h1, by rw [addR_n e1]; exact h2⟩
    · exact ⟨r, o, k, by rw [addR_ks]; exact h1, addR_s⟩
/-- the places of a text -/
def txf (a x : Nat) : Nat → Nat := fun o => if o = 0 then a else x
def txs (g : Nat → Int) : Nat → Nat → Int := fun o j => if o = 1 then g j else 0
theorem mk_text {E : xE} {B : Nat} {S : xSt} {U : State} {H : Heap} {a x m : Nat} {g : Nat → Int} (hY : YW E S U H) (hP : PS E B [(a, .inl (0, [.ref x, vi 0, vi 0, vi 0])), (x, .inr (m, g))] U H) (hr : xkd E 50 = 0) (ha : xApart E S 50) :
    YW (addR E 50 (100 + m) (txf a x)) (newS S 50 (100 + m) (txs g) (fun _ _ => nul)) U H ∧ PN (addR E 50 (100 + m) (txf a x)) B [] U H := by
  have hne : a ≠ x := PS_ne hP.2.2.1 (i := 0) (k := 1) rfl rfl (by decide)
  refine mk_regionS hY hP hr ha (fun o k hk => ?_) (fun o o' k k' h1 h2 h3 => ?_)
  · have ho := lyS_o hk
    rcases (show o = 0 ∨ o = 1 by omega) with rfl | rfl
    · cases Option.some.inj (hk.symm.trans lyS_0)
      refine ⟨⟨_, List.mem_cons_self⟩, ?_⟩
      obtain ⟨⟨c, h1, h2, h3⟩, hd⟩ := hP.2.1 _ List.mem_cons_self
      refine ⟨⟨c, h1, h2, ?_⟩, fun j ty hj => ?_⟩
      · rw [addR_s]
        refine t_OB.to (show t_OB a ((xD E).1 0) c.2.2 ((xD E).2 0) H _ from h3) (fun j hj => ?_)
        have hj4 : j < 4 := by
          have e : c.2.2 = 4 := h2
          omega
        rcases (show j = 0 ∨ j = 1 ∨ j = 2 ∨ j = 3 by omega) with rfl | rfl | rfl | rfl
        · show Value.ref x = Value.ref (xad (addR E 50 (100 + m) (txf a x)) (50 + 0) 1)
          rw [addR_s]
          rfl
        · rfl
        · rfl
        · rfl
      · have hj4 : j < 4 := (List.getElem?_eq_some_iff.mp hj).1
        rcases (show j = 0 ∨ j = 1 ∨ j = 2 ∨ j = 3 by omega) with rfl | rfl | rfl | rfl
        · cases hj
        · cases hj
          rfl
        · cases hj
          rfl
        · cases hj
          rfl
    · cases Option.some.inj (hk.symm.trans lyS_1)
      refine ⟨⟨_, List.mem_cons_of_mem _ List.mem_cons_self⟩, ?_⟩
      obtain ⟨⟨cell, h1, h2, h3, h4⟩, hd⟩ := hP.2.1 _ (List.mem_cons_of_mem _ List.mem_cons_self)
      refine ⟨cell, by rw [addR_s]; exact h1, h2.1, by rw [h2.2.1]; exact (fun h => by cases h), Nat.le_of_eq h3.symm, congrArg Nat.toInt32 h3, fun j hj => h4 j hj⟩
  · have q1 := lyS_o h1
    have q2 := lyS_o h2
    rcases (show o = 0 ∨ o = 1 by omega) with rfl | rfl <;> rcases (show o' = 0 ∨ o' = 1 by omega) with rfl | rfl
    · rfl
    · exact absurd h3 hne
    · exact absurd h3.symm hne
    · rfl
section ZR
variable {K : xCtx} {E : xE} {B : Nat} {Ψ : xPsi} {cl sl : Nat} {cc : ByteArray} {own : String} {n : Nat} {rm : Room} {pc : Nat} {lv : List (Nat × Value)} {st : List Value} {S : xSt}
def xPrK (K : xCtx) : Prop := match K with
  | (p, l, e, R, s, m, args, below, meth, c, nL, _, _, Q) => xPr s
theorem z_toS (hK : xPrK K) (k : WB B (PS E B []) cl sl K E pc lv st S) : WB B (PN E B []) cl sl K E pc lv st S := by
  obtain ⟨p, l, e, R, s, m, args, below, meth, c, nL, cl0, sl0, Q⟩ := K
  intro H locs ls hY hP hS hl
  exact k H locs ls hY ⟨hP, (fun q h => absurd h List.not_mem_nil), List.Pairwise.nil, hK⟩ hS hl
theorem z_text {a x m : Nat} {g : Nat → Int} (hr : xkd E 50 = 0) (ha : xApart E S 50) (k : WB B (PN (addR E 50 (100 + m) (txf a x)) B []) cl sl K (addR E 50 (100 + m) (txf a x)) pc lv st (newS S 50 (100 + m) (txs g) (fun _ _ => nul))) : WB B (PS E B [(a, .inl (0, [.ref x, vi 0, vi 0, vi 0])), (x, .inr (m, g))]) cl sl K E pc lv st S := by
  obtain ⟨p, l, e, R, s, m', args, below, meth, c, nL, cl0, sl0, Q⟩ := K
  intro H locs ls hY hP hS hl
  obtain ⟨h1, h2⟩ := mk_text hY hP hr ha
  exact k H locs ls h1 h2 hS hl
theorem z_hA (k : (∀ a, xA E a → B ≤ a) → WB B (PN E B []) cl sl K E pc lv st S) : WB B (PN E B []) cl sl K E pc lv st S := by
  obtain ⟨p, l, e, R, s, m, args, below, meth, c, nL, cl0, sl0, Q⟩ := K
  intro H locs ls hY hP hS hl
  exact k hP.2.2.2.1 H locs ls hY hP hS hl
end ZR
