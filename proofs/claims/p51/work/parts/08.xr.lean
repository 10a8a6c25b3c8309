theorem x_pairs (at_ : Nat) : ∀ (xs : List Value) (i : Nat) (c : Cell) (k : Nat), at_ + i + xs.length ≤ c.slots.size → (c.storePairs at_ (xs.zipIdx i)).slots[k]? = if at_ + i ≤ k ∧ k < at_ + i + xs.length then xs[k - (at_ + i)]? else c.slots[k]?
  | [], i, c, k, h => by
    rw [if_neg (by simp only [List.length_nil]; omega)]
    rfl
  | x :: xs, i, c, k, h => by
    rw [List.zipIdx_cons]
    show ((c.setSlot (at_ + i) x).storePairs at_ (xs.zipIdx (i + 1))).slots[k]? = _
    simp only [List.length_cons] at h
    have hsz : (c.setSlot (at_ + i) x).slots.size = c.slots.size := by simp [Cell.setSlot]
    rw [x_pairs at_ xs (i + 1) (c.setSlot (at_ + i) x) k (by rw [hsz]; omega)]
    by_cases hk : k = at_ + i
    · subst hk
      rw [if_neg (by omega), if_pos (by simp only [List.length_cons]; omega)]
      have : at_ + i < c.slots.size := by omega
      simp [Cell.setSlot, this]
    · by_cases h2 : at_ + (i + 1) ≤ k ∧ k < at_ + (i + 1) + xs.length
      · rw [if_pos h2, if_pos (by simp only [List.length_cons]; omega)]
        have e : k - (at_ + i) = (k - (at_ + (i + 1))) + 1 := by omega
        rw [e, List.getElem?_cons_succ]
      · rw [if_neg h2, if_neg (by simp only [List.length_cons]; omega)]
        simp [Cell.setSlot, Array.getElem?_setIfInBounds, Ne.symm hk]
theorem x_toInt {z : Int32} (hz : ¬ z < 0) : z.toInt = (z.toNatClampNeg : Int) := by
  have hz0 : (0 : Int) ≤ z.toInt := by
    have := Int32.not_lt.mp hz
    simpa using Int32.le_iff_toInt_le.mp this
  show z.toInt = ((z.toInt.toNat : Nat) : Int)
  omega
theorem x_copied {ty : FieldType} {cs cd : Cell} {n0 n1 : Nat} {f g : Nat → Int32} {sp dp n : Int32} (h0 : n0 ≤ cs.slots.size) (h1 : n1 ≤ cd.slots.size) (hf : ∀ j : Nat, j < n0 → cs.slots[j]? = some (xav ty (f j))) (hg : ∀ j : Nat, j < n1 → cd.slots[j]? = some (xav ty (g j)))
    (h4 : sp.toNatClampNeg + n.toNatClampNeg ≤ n0) (h5 : dp.toNatClampNeg + n.toNatClampNeg ≤ n1) :
    (copied cs cd sp dp n).cls = cd.cls ∧ (copied cs cd sp dp n).vm = cd.vm ∧ (copied cs cd sp dp n).slots.size = cd.slots.size ∧ ∀ j : Nat, j < n1 → (copied cs cd sp dp n).slots[j]? = some (xav ty (va_cpy f g sp.toNatClampNeg dp.toNatClampNeg n.toNatClampNeg j)) := by
  have hl : (cs.stretch sp.toNatClampNeg n.toNatClampNeg).length = n.toNatClampNeg := by simp [Cell.stretch]
  have e : copied cs cd sp dp n = cd.storePairs dp.toNatClampNeg ((cs.stretch sp.toNatClampNeg n.toNatClampNeg).zipIdx) := rfl
  obtain ⟨q1, q2, q3, -, -⟩ := Cell.storePairs_facts cd dp.toNatClampNeg ((cs.stretch sp.toNatClampNeg n.toNatClampNeg).zipIdx)
  rw [e]
  refine ⟨q1, q2, q3, fun j hj => ?_⟩
  rw [x_pairs dp.toNatClampNeg (cs.stretch sp.toNatClampNeg n.toNatClampNeg) 0 cd j (by rw [hl]; omega), hl]
  unfold va_cpy
  by_cases hz : dp.toNatClampNeg ≤ j ∧ j < dp.toNatClampNeg + n.toNatClampNeg
  · rw [if_pos (by omega), if_pos hz]
    unfold Cell.stretch
    rw [List.getElem?_map, List.getElem?_range (by omega)]
    show some (cs.slots.getD (sp.toNatClampNeg + (j - (dp.toNatClampNeg + 0))) .null) = _
    rw [Array.getD_eq_getD_getElem?, hf _ (by omega)]
    rfl
  · rw [if_neg (by omega), if_neg hz]
    exact hg j hj
section XR2
variable {p : Program} {l : Launch} {e : Env} {R : Room} {s : State} {m : MethodId} {args : Array Value} {below : List Frame} {meth : Method} {c : Code} {H : Heap} {locs : List Loc} {cells slots : Nat} {Q : State → Prop}
variable {cc : ByteArray} {pc : Nat} {ls : Array Slot} {rest : List Value} {E : xE} {σ : xS} {ρ : xP} {H0 : Heap} {r o : Nat} {τ : xT}
theorem x_copyC (hx : p.tables.exec = Jvm.exec) (hb : c.code = cc) (hml : c.maxLocals = ls.size) {own : String} {index : Nat} (hown : s.vm.findClass own = some m.cls) (hlink : (Cond.methodLink own index arraycopyName).before args s = true) (hnat : (Cond.native arraycopyName).before args s = true) (hstat : (Cond.static arraycopyName).before args s = true) (hini : (Cond.initialized "java/lang/System").before args s = true)
    {A : Nat → Prop} (hS : va_S A H0 H locs) {a0 a n0 n1 : Nat} {cs cd : Cell} {ty : FieldType} {f g : Nat → Int32} (hc0 : H[a0]? = some cs) (hc1 : H[a]? = some cd) (i0 : s.isArrayOf cs ty) (i1 : s.isArrayOf cd ty) (v0 : cs.vm ≠ .unknown) (v1 : cd.vm ≠ .unknown) (hprim : refKind ty = false) (hA : A a)
    (z0 : n0 ≤ cs.slots.size) (z1 : n1 ≤ cd.slots.size) (hf : ∀ j : Nat, j < n0 → cs.slots[j]? = some (xav ty (f j)) ∧ fits ty (xav ty (f j)) = true) (hg : ∀ j : Nat, j < n1 → cd.slots[j]? = some (xav ty (g j)) ∧ fits ty (xav ty (g j)) = true)
    {sp dp n : Int32} (h1 : ¬ sp < 0) (h2 : ¬ dp < 0) (h3 : ¬ n < 0) (h4 : sp.toNatClampNeg + n.toNatClampNeg ≤ n0) (h5 : dp.toNatClampNeg + n.toNatClampNeg ≤ n1)
    (hnr : ∀ x : Int32, ∀ vm₁ : Vm, ∀ T : State, ∀ comp : ClassId, (T.setVm vm₁).takes comp (xav ty x))
    (hframes : 1 ≤ R.frames) (hlocals : (rest.map fun v => v.category).sum + (nativeFrameWords "java/lang/System" "arraycopy" 5 + 11) ≤ R.locals) (hdg : decode cc pc = .ok (.invokestatic index, 3))
    (kk : ∀ (H1 : Heap) (locs1 : List Loc), H1[a]? = some (copied cs cd sp dp n) → (∀ q : Nat, q ≠ a → H1[q]? = H[q]?) → va_S A H0 H1 locs1 → W p l e R s m args below meth c H1 locs1 cells slots Q (F0 m (pc + 3) ls rest)) : W p l e R s m args below meth c H locs cells slots Q (F0 m pc ls (.int n :: .int dp :: .ref a :: .int sp :: .ref a0 :: rest)) := by
  intro T hT X
  obtain ⟨g0, k0, hk0, cm0, hkk0⟩ := i0
  obtain ⟨g1, k1, hk1, cm1, hkk1⟩ := i1
  have nn := fun z h => x_toInt (z := z) h
  obtain ⟨vm', X', step⟩ := X.arraycopy hx hown hlink hnat hstat hini (src := a0) (dst := a) (cs := cs) (cd := cd) (srcPos := sp) (destPos := dp) (n := n) (by rw [hT]; exact hc0) (by rw [hT]; exact hc1)
    g0 g1 v0 v1 hk0 hk1 hkk0 hkk1 (by simp [hprim]) h1 h2 h3
    (by rw [nn sp h1, nn n h3]; omega)
    (by rw [nn dp h2, nn n h3]; omega)
    (fun vm₁ _ i hi => by
      have e : cs.slots.getD (sp.toNatClampNeg + i) .null = xav ty (f (sp.toNatClampNeg + i)) := by
        rw [Array.getD_eq_getD_getElem?, (hf _ (by omega)).1]
        rfl
      refine ⟨?_, ?_⟩
      · rw [e]
        exact (hf _ (by omega)).2
      · rw [e]
        exact hnr _ _ _ _)
    (g := F0 m pc ls (.int n :: .int dp :: .ref a :: .int sp :: .ref a0 :: rest)) rfl (by rw [hml]) (rest := rest) rfl (by rw [hb]; exact hdg) hframes (by show 2 * 0 + _ + _ ≤ _; omega)
  have hl : a < H.size := (Array.getElem?_eq_some_iff.mp hc1).1
  have hheap : ((T.setVm vm').setCell a (copied cs cd sp dp n)).heap = H.setIfInBounds a (copied cs cd sp dp n) := by rw [← hT]; rfl
  have oq : ∀ q : Nat, q ≠ a → (H.setIfInBounds a (copied cs cd sp dp n))[q]? = H[q]? := fun q hq => by simp [Array.getElem?_setIfInBounds, Ne.symm hq]
  obtain ⟨t, a1, b1⟩ := kk _ _ (show (H.setIfInBounds a _)[a]? = some _ by simp [Array.getElem?_setIfInBounds, hl]) oq ⟨by simp; exact hS.1, fun q g1 g2 => by
      rw [oq q (fun e => g2 (by rw [e]; exact hA))]
      exact hS.2.1 q g1 g2, fun q hq => by
      rcases List.mem_append.mp hq with h | h
      · exact hS.2.2 q h
      · obtain ⟨z, -, hz⟩ := List.mem_map.mp h
        rw [← hz]
        exact hA⟩ _ hheap X'
  exact ⟨t, step t a1, b1⟩
theorem x_takesI (x : Int32) (vm₁ : Vm) (T : State) (comp : ClassId) {ty : FieldType} (h : ty ≠ .long) : (T.setVm vm₁).takes comp (xav ty x) := by
  cases ty <;> first | exact trivial | exact absurd rfl h
theorem x_fitsCpy {ty : FieldType} {f g : Nat → Int32} {n0 n1 a b n : Nat} (hf : ∀ j : Nat, j < n0 → fits ty (xav ty (f j)) = true) (hg : ∀ j : Nat, j < n1 → fits ty (xav ty (g j)) = true) (h : a + n ≤ n0) (j : Nat) (hj : j < n1) : fits ty (xav ty (va_cpy f g a b n j)) = true := by
  unfold va_cpy
  by_cases hz : b ≤ j ∧ j < b + n
  · rw [if_pos hz]; exact hf _ (by omega)
  · rw [if_neg hz]; exact hg j hj
/-- System.arraycopy from a place to another place, of the same small type -/
theorem x_copy (hx : p.tables.exec = Jvm.exec) (hb : c.code = cc) (hml : c.maxLocals = ls.size) {own : String} {index : Nat} (hown : s.vm.findClass own = some m.cls) (hlink : (Cond.methodLink own index arraycopyName).before args s = true) (hnat : (Cond.native arraycopyName).before args s = true) (hstat : (Cond.static arraycopyName).before args s = true) (hini : (Cond.initialized "java/lang/System").before args s = true)
    (hX : XW E σ ρ s H) (hS : va_S (xA E) H0 H locs) {r0 o0 n0 n1 : Nat} {ty : FieldType} {τ0 τ' : xT} {σ' : xS} (hl0 : lay (xkd E r0) o0 = some (.inr (.inl (ty, n0)))) (hl : lay (xkd E r) o = some (.inr (.inl (ty, n1)))) (hprim : refKind ty = false) (hnl : ty ≠ .long) (hτ0 : σ r0 = τ0) (hτ : σ r = τ)
    {sp dp n : Int32} (h1 : ¬ sp < 0) (h2 : ¬ dp < 0) (h3 : ¬ n < 0) (h4 : sp.toNatClampNeg + n.toNatClampNeg ≤ n0) (h5 : dp.toNatClampNeg + n.toNatClampNeg ≤ n1)
    (hτ' : τ' = u1 τ o (va_cpy (τ0 o0) (τ o) sp.toNatClampNeg dp.toNatClampNeg n.toNatClampNeg)) (he : uR σ r τ' = σ')
    (hframes : 1 ≤ R.frames) (hlocals : (rest.map fun v => v.category).sum + (nativeFrameWords "java/lang/System" "arraycopy" 5 + 11) ≤ R.locals) (hdg : decode cc pc = .ok (.invokestatic index, 3))
    (kk : ∀ (H1 : Heap) (locs1 : List Loc), XW E σ' ρ s H1 → va_S (xA E) H0 H1 locs1 → W p l e R s m args below meth c H1 locs1 cells slots Q (F0 m (pc + 3) ls rest)) : W p l e R s m args below meth c H locs cells slots Q (F0 m pc ls (.int n :: .int dp :: .ref (xad E r o) :: .int sp :: .ref (xad E r0 o0) :: rest)) := by
  obtain ⟨cs, a1, a2, a3, a4, a5, a6⟩ := hX.2.1 r0 o0 _ hl0
  obtain ⟨cd, b1, b2, b3, b4, b5, b6⟩ := hX.2.1 r o _ hl
  obtain ⟨c1, c2, c3, c4⟩ := x_copied a4 b4 (fun j hj => (a6 j hj).1) (fun j hj => (b6 j hj).1) h4 h5
  refine x_copyC hx hb hml hown hlink hnat hstat hini hS a1 b1 a2 b2 a3 b3 hprim (hX.2.2.1.2 r o _ hl) a4 b4 a6 b6 h1 h2 h3 h4 h5 (fun x vm₁ T comp => x_takesI x vm₁ T comp hnl) hframes hlocals hdg (fun H1 locs1 e1 oq hS1 => ?_)
  subst hτ'
  subst he
  have b2' : s.isArrayOf (copied cs cd sp dp n) ty := by
    obtain ⟨z1, k1, hk1, z2⟩ := b2
    exact ⟨fun k => by rw [c2]; exact z1 k, k1, by rw [c1]; exact hk1, z2⟩
  refine kk H1 locs1 (XW_put hX hl ⟨_, e1, b2', by rw [c2]; exact b3, by rw [c3]; exact b4, by rw [c3]; exact b5, ?_⟩ (fun r' o' hz => ⟨uR_o hτ r' o' hz, rfl⟩) oq) hS1
  rw [uR_s, u1_s, ← hτ0, ← hτ]
  exact fun j hj => ⟨c4 j hj, x_fitsCpy (fun j hj => (a6 j hj).2) (fun j hj => (b6 j hj).2) h4 j hj⟩
/-- System.arraycopy from a static table -/
theorem x_copyT (hx : p.tables.exec = Jvm.exec) (hb : c.code = cc) (hml : c.maxLocals = ls.size) {own : String} {index : Nat} (hown : s.vm.findClass own = some m.cls) (hlink : (Cond.methodLink own index arraycopyName).before args s = true) (hnat : (Cond.native arraycopyName).before args s = true) (hstat : (Cond.static arraycopyName).before args s = true) (hini : (Cond.initialized "java/lang/System").before args s = true)
    (hX : XW E σ ρ s H) (hS : va_S (xA E) H0 H locs) (k : Nat) {q : String × String × List Int32} (hk : xsts[k]? = some q) {n1 : Nat} {τ' : xT} {σ' : xS} (hl : lay (xkd E r) o = some (.inr (.inl (.int, n1)))) (hτ : σ r = τ)
    {sp dp n : Int32} (h1 : ¬ sp < 0) (h2 : ¬ dp < 0) (h3 : ¬ n < 0) (h4 : sp.toNatClampNeg + n.toNatClampNeg ≤ q.2.2.length) (h5 : dp.toNatClampNeg + n.toNatClampNeg ≤ n1)
    (hτ' : τ' = u1 τ o (va_cpy (fun j => q.2.2.getD j 0) (τ o) sp.toNatClampNeg dp.toNatClampNeg n.toNatClampNeg)) (he : uR σ r τ' = σ')
    (hframes : 1 ≤ R.frames) (hlocals : (rest.map fun v => v.category).sum + (nativeFrameWords "java/lang/System" "arraycopy" 5 + 11) ≤ R.locals) (hdg : decode cc pc = .ok (.invokestatic index, 3))
    (kk : ∀ (H1 : Heap) (locs1 : List Loc), XW E σ' ρ s H1 → va_S (xA E) H0 H1 locs1 → W p l e R s m args below meth c H1 locs1 cells slots Q (F0 m (pc + 3) ls rest)) : W p l e R s m args below meth c H locs cells slots Q (F0 m pc ls (.int n :: .int dp :: .ref (xad E r o) :: .int sp :: .ref (xts E k) :: rest)) := by
  obtain ⟨cs, a1, a2, a3, a4, a5, a6, a7⟩ := (hX.2.2.2.1.1 k q hk).2
  obtain ⟨cd, b1, b2, b3, b4, b5, b6⟩ := hX.2.1 r o _ hl
  have a6' : ∀ j : Nat, j < q.2.2.length → cs.slots[j]? = some (xav .int (q.2.2.getD j 0)) ∧ fits .int (xav .int (q.2.2.getD j 0)) = true := fun j hj => ⟨a6 j hj, rfl⟩
  obtain ⟨c1, c2, c3, c4⟩ := x_copied (f := fun j => q.2.2.getD j 0) a4 b4 (fun j hj => (a6' j hj).1) (fun j hj => (b6 j hj).1) h4 h5
  refine x_copyC (f := fun j => q.2.2.getD j 0) hx hb hml hown hlink hnat hstat hini hS a1 b1 a2 b2 a3 b3 rfl (hX.2.2.1.2 r o _ hl) a4 b4 a6' b6 h1 h2 h3 h4 h5 (fun x vm₁ T comp => x_takesI x vm₁ T comp (by intro h; cases h)) hframes hlocals hdg (fun H1 locs1 e1 oq hS1 => ?_)
  subst hτ'
  subst he
  have b2' : s.isArrayOf (copied cs cd sp dp n) .int := by
    obtain ⟨z1, k1, hk1, z2⟩ := b2
    exact ⟨fun k => by rw [c2]; exact z1 k, k1, by rw [c1]; exact hk1, z2⟩
  refine kk H1 locs1 (XW_put hX hl ⟨_, e1, b2', by rw [c2]; exact b3, by rw [c3]; exact b4, by rw [c3]; exact b5, ?_⟩ (fun r' o' hz => ⟨uR_o hτ r' o' hz, rfl⟩) oq) hS1
  rw [uR_s, u1_s, ← hτ]
  exact fun j hj => ⟨c4 j hj, rfl⟩
theorem x_gets (hx : p.tables.exec = Jvm.exec) (hb : c.code = cc) (hX : XW E σ ρ s H) (k : Nat) {q : String × String × List Int32} (hk : xsts[k]? = some q) {own ref : String} {index : Nat} (hown : s.vm.findClass own = some m.cls) (hlink : (Cond.fieldLink own index ref q.2.1 "[I").before args s = true) (hsame : ∀ x, s.fieldFound? q.1 q.2.1 "[I" = some x → s.fieldFound? ref q.2.1 "[I" = some x) (hdg : decode cc pc = .ok (.getstatic index, 3))
    (kk : W p l e R s m args below meth c H locs cells slots Q (F0 m (pc + 3) ls (.ref (xts E k) :: rest))) : W p l e R s m args below meth c H locs cells slots Q (F0 m pc ls rest) := by
  obtain ⟨cf, kf, fi, f, a, cell, h1, h2, h3, h4, h5, h6, h7, h8⟩ := (hX.2.2.2.1.1 k q hk).1
  exact W.gets hx hb hown hlink (hsame _ h1) h2 h3 h4 h5 (fun e => by rw [e] at h6; cases h6) h7 rfl hdg kk
theorem x_getsN (hx : p.tables.exec = Jvm.exec) (hb : c.code = cc) (hX : XW E σ ρ s H) (k : Nat) {q : String × String × List Int32} (hk : xsts[k]? = some q) {own ref host : String} {index : Nat} (hown : s.vm.findClass own = some m.cls) (hlink : (own, index, ref, q.2.1, "[I", host) ∈ xnf) (hsame : ∀ x, s.fieldFound? q.1 q.2.1 "[I" = some x → s.fieldFound? ref q.2.1 "[I" = some x) (hdg : decode cc pc = .ok (.getstatic index, 3))
    (kk : W p l e R s m args below meth c H locs cells slots Q (F0 m (pc + 3) ls (.ref (xts E k) :: rest))) : W p l e R s m args below meth c H locs cells slots Q (F0 m pc ls rest) := by
  obtain ⟨cf, kf, fi, f, a, cell, h1, h2, h3, h4, h5, h6, h7, h8⟩ := (hX.2.2.2.1.1 k q hk).1
  exact va_WgetsN hx hb hown (va_Nw.use rfl (hX.2.2.2.2.2.1 _ hlink)) (hsame _ h1) h2 h3 h4 h5 (fun e => by rw [e] at h6; cases h6) h7 rfl hdg kk
theorem x_tald (hx : p.tables.exec = Jvm.exec) (hb : c.code = cc) (hX : XW E σ ρ s H) (k : Nat) {q : String × String × List Int32} (hk : xsts[k]? = some q) {i : Int32} (hin : vp_in i q.2.2.length) {v : Int32} (hv : q.2.2.getD i.toNatClampNeg 0 = v) (hdg : decode cc pc = .ok (.iaload, 1))
    (kk : W p l e R s m args below meth c H locs cells slots Q (F0 m (pc + 1) ls (.int v :: rest))) : W p l e R s m args below meth c H locs cells slots Q (F0 m pc ls (.int i :: .ref (xts E k) :: rest)) := by
  obtain ⟨cell, h1, h2, h3, h4, h5, h6, h7⟩ := (hX.2.2.2.1.1 k q hk).2
  obtain ⟨g1, g2⟩ := x_idx hin h4
  exact W.iald hx hb h1 h2 h3 g1 ((h6 _ g2).trans (congrArg (fun z => some (Value.int z)) hv)) rfl rfl hdg kk
theorem x_tlen (hx : p.tables.exec = Jvm.exec) (hb : c.code = cc) (hX : XW E σ ρ s H) (k : Nat) {q : String × String × List Int32} (hk : xsts[k]? = some q) {v : Int32} (hv : Int32.ofNat q.2.2.length = v) (hdg : decode cc pc = .ok (.arraylength, 1))
    (kk : W p l e R s m args below meth c H locs cells slots Q (F0 m (pc + 1) ls (.int v :: rest))) : W p l e R s m args below meth c H locs cells slots Q (F0 m pc ls (.ref (xts E k) :: rest)) := by
  obtain ⟨cell, h1, h2, h3, h4, h5, h6, h7⟩ := (hX.2.2.2.1.1 k q hk).2
  exact W.alen hx hb h1 h2 (h5.trans hv) rfl rfl hdg kk
theorem x_aald (hx : p.tables.exec = Jvm.exec) (hb : c.code = cc) (hX : XW E σ ρ s H) {C : String} {es : List (Nat × Nat)} (hl : lay (xkd E r) o = some (.inr (.inr (C, es)))) {i : Int32} (hin : vp_in i es.length) {z : Nat × Nat} (hz : es[i.toNatClampNeg]? = some z) (hdg : decode cc pc = .ok (.aaload, 1))
    (kk : W p l e R s m args below meth c H locs cells slots Q (F0 m (pc + 1) ls (.ref (xad E (r + z.1) z.2) :: rest))) : W p l e R s m args below meth c H locs cells slots Q (F0 m pc ls (.int i :: .ref (xad E r o) :: rest)) := by
  obtain ⟨cell, h1, h2, h3, h4, h5, -⟩ := hX.2.1 r o _ hl
  obtain ⟨g1, g2⟩ := x_idx hin h4
  exact W.aald (v := .ref (xad E (r + z.1) z.2)) hx hb h1 h2 rfl h3 g1 (h5 _ z hz) rfl rfl hdg kk
theorem x_ldcS (hx : p.tables.exec = Jvm.exec) (hb : c.code = cc) (hX : XW E σ ρ s H) (k : Nat) {q : String × Nat × String × List Int32} (hk : xldc[k]? = some q) (hown : s.vm.findClass q.1 = some m.cls) (hdg : decode cc pc = .ok (.ldc q.2.1, 2))
    (kk : W p l e R s m args below meth c H locs cells slots Q (F0 m (pc + 2) ls (.ref (xaK E k) :: rest))) : W p l e R s m args below meth c H locs cells slots Q (F0 m pc ls rest) :=
  va_ldcS hx hb hown (hX.2.2.2.2.1 k q hk) hdg kk
end XR2
/-! contracts over the one world -/
def XPc (E : xE) (av : List Value) (σ : xS) (ρ : xP) : Array Value → State → Prop := va_Pc av (fun U => XW E σ ρ U U.heap)
def XQi (E : xE) (v : Int32) (σ : xS) (ρ : xP) : Array Value → State → Outcome → State → Prop := va_Qi (fun r (_ : Unit) => r = v) (fun _ t => XW E σ ρ t t.heap) (xA E)
def XQz (E : xE) (v : Int32) (σ : xS) (ρ : xP) : Array Value → State → Outcome → State → Prop := va_Qi (fun r (_ : Unit) => r = v ∧ xB v) (fun _ t => XW E σ ρ t t.heap) (xA E)
def XQv (E : xE) (σ : xS) (ρ : xP) : Array Value → State → Outcome → State → Prop := va_Qv (fun (_ : Unit) => True) (fun _ t => XW E σ ρ t t.heap) (xA E)
def XQs (E : xE) (k : Nat) (σ : xS) (ρ : xP) : Array Value → State → Outcome → State → Prop := va_Qr (fun (_ : Unit) => True) (fun _ a t => a = xaK E k ∧ XW E σ ρ t t.heap) (xA E)
theorem XPc_blind {E : xE} {av : List Value} {σ : xS} {ρ : xP} : FrameBlind (XPc E av σ ρ) := fun a U g mk q => ⟨q.1, XW_same (u := U) rfl q.2⟩
section XC
variable {p : Program} {l : Launch} {e : Env} {R : Room} {s : State} {m : MethodId} {args : Array Value} {below : List Frame} {meth : Method} {c : Code} {H : Heap} {locs : List Loc} {cells slots : Nat} {Q : State → Prop}
variable {cc : ByteArray} {pc : Nat} {ls : Array Slot} {rest st0 : List Value} {E : xE} {σ σ' : xS} {ρ ρ' : xP} {H0 : Heap} {r o : Nat} {a : Array Value} {v : Int32}
theorem XPreV (hX : XW E σ ρ s H) {ci : Nat} {fs : List xF} {C : String} {T : u_T} {N : Nat} {As : List Value} (hl : lay (xkd E r) o = some (.inl (ci, fs))) (hc : vwCl[ci]? = some (C, T, N)) : PreV s H C (xad E r o) (XPc E (.ref (xad E r o) :: As) σ ρ) As :=
  ⟨XPc_blind, XW_recv hX hl hc, fun U hU hW => ⟨rfl, (show XW E σ ρ U U.heap by rw [hU]; exact XW_warm hW hX)⟩⟩
theorem XPreS (hX : XW E σ ρ s H) {As : List Value} : PreS s H (XPc E As σ ρ) As := ⟨XPc_blind, fun U hU hW => ⟨rfl, (show XW E σ ρ U U.heap by rw [hU]; exact XW_warm hW hX)⟩⟩
theorem x_calli (hX : XW E σ ρ s H) (hS : va_S (xA E) H0 H locs) (hr : va_Run p l e R s m args below meth c H locs cells slots 0 0 (F0 m pc ls st0) rest (XQi E v σ' ρ' a) (xA E))
    (kk : ∀ (H1 : Heap) (locs1 : List Loc), XW E σ' ρ' s H1 → va_S (xA E) H0 H1 locs1 → W p l e R s m args below meth c H1 locs1 cells slots Q (F0 m (pc + 3) ls (.int v :: rest))) : W p l e R s m args below meth c H locs cells slots Q (F0 m pc ls st0) :=
  va_calli hr hS (fun q _ h => h) (fun q h => h) (fun r u t H1 locs1 ht hvm hw hB _ _ hS1 => by subst hw; subst ht; exact kk _ _ (XW_back hX hvm hB) hS1)
theorem x_callz (hX : XW E σ ρ s H) (hS : va_S (xA E) H0 H locs) (hr : va_Run p l e R s m args below meth c H locs cells slots 0 0 (F0 m pc ls st0) rest (XQz E v σ' ρ' a) (xA E))
    (kk : ∀ (H1 : Heap) (locs1 : List Loc), xB v → XW E σ' ρ' s H1 → va_S (xA E) H0 H1 locs1 → W p l e R s m args below meth c H1 locs1 cells slots Q (F0 m (pc + 3) ls (.int v :: rest))) : W p l e R s m args below meth c H locs cells slots Q (F0 m pc ls st0) :=
  va_calli hr hS (fun q _ h => h) (fun q h => h) (fun r u t H1 locs1 ht hvm hw hB _ _ hS1 => by obtain ⟨hw, hb⟩ := hw; subst hw; subst ht; exact kk _ _ hb (XW_back hX hvm hB) hS1)
theorem x_callv (hX : XW E σ ρ s H) (hS : va_S (xA E) H0 H locs) (hr : va_Run p l e R s m args below meth c H locs cells slots 0 0 (F0 m pc ls st0) rest (XQv E σ' ρ' a) (xA E))
    (kk : ∀ (H1 : Heap) (locs1 : List Loc), XW E σ' ρ' s H1 → va_S (xA E) H0 H1 locs1 → W p l e R s m args below meth c H1 locs1 cells slots Q (F0 m (pc + 3) ls rest)) : W p l e R s m args below meth c H locs cells slots Q (F0 m pc ls st0) :=
  va_callv hr hS (fun q _ h => h) (fun q h => h) (fun u t H1 locs1 ht hvm hw hB _ _ hS1 => by subst ht; exact kk _ _ (XW_back hX hvm hB) hS1)
theorem x_calls {k : Nat} (hX : XW E σ ρ s H) (hS : va_S (xA E) H0 H locs) (hr : va_Run p l e R s m args below meth c H locs cells slots 0 0 (F0 m pc ls st0) rest (XQs E k σ' ρ' a) (xA E))
    (kk : ∀ (H1 : Heap) (locs1 : List Loc), XW E σ' ρ' s H1 → va_S (xA E) H0 H1 locs1 → W p l e R s m args below meth c H1 locs1 cells slots Q (F0 m (pc + 3) ls (.ref (xaK E k) :: rest))) : W p l e R s m args below meth c H locs cells slots Q (F0 m pc ls st0) :=
  va_callr hr hS (fun q _ h => h) (fun q h => h) (fun u r9 t H1 locs1 ht hvm hw hB _ _ hS1 => by obtain ⟨hw2, hB⟩ := hB; subst hw2; subst ht; exact kk _ _ (XW_back hX hvm hB) hS1)
theorem x_iret (hx : p.tables.exec = Jvm.exec) (hb : c.code = cc) (hr : meth.sig.returnType = some .int) (hX : XW E σ ρ s H) (hS : va_S (xA E) s.heap H locs) {w : Int32} (hv : w = v) (hs : σ = σ') (hp : ρ = ρ') (hlocks : meth.locks = false) (hdg : decode cc pc = .ok (.ireturn, 1)) : W p l e R s m args below meth c H locs cells slots (MQ below (XQi E v σ' ρ') args s cells slots (xA E)) (F0 m pc ls [.int w]) := by
  subst hv; subst hs; subst hp
  exact W.iret hx hb hr (fun t ht hW => ⟨⟨w, (), rfl, rfl, (show XW E σ ρ t t.heap by rw [ht]; exact XW_warm hW hX)⟩, hS.F ht⟩) hS.2.2 hdg hlocks
theorem x_zret (hx : p.tables.exec = Jvm.exec) (hb : c.code = cc) (hr : meth.sig.returnType = some .boolean) (hX : XW E σ ρ s H) (hS : va_S (xA E) s.heap H locs) {w : Int32} (hB : xB w) (hv : w = v) (hs : σ = σ') (hp : ρ = ρ') (hlocks : meth.locks = false) (hdg : decode cc pc = .ok (.ireturn, 1)) : W p l e R s m args below meth c H locs cells slots (MQ below (XQz E v σ' ρ') args s cells slots (xA E)) (F0 m pc ls [.int w]) := by
  subst hv; subst hs; subst hp
  exact W.zret hx hb hr (xB_n hB) (fun t ht hW => ⟨⟨w, (), rfl, ⟨rfl, hB⟩, (show XW E σ ρ t t.heap by rw [ht]; exact XW_warm hW hX)⟩, hS.F ht⟩) hS.2.2 hdg hlocks
theorem x_vret (hx : p.tables.exec = Jvm.exec) (hb : c.code = cc) (hr : meth.sig.returnType = none) (hX : XW E σ ρ s H) (hS : va_S (xA E) s.heap H locs) (hs : σ = σ') (hp : ρ = ρ') (hlocks : meth.locks = false) (hdg : decode cc pc = .ok (.return_, 1)) : W p l e R s m args below meth c H locs cells slots (MQ below (XQv E σ' ρ') args s cells slots (xA E)) (F0 m pc ls []) := by
  subst hs; subst hp
  exact W.vret hx hb hr (fun t ht hW => ⟨⟨(), rfl, trivial, (show XW E σ ρ t t.heap by rw [ht]; exact XW_warm hW hX)⟩, hS.F ht⟩) hS.2.2 hdg hlocks
theorem x_sret {k : Nat} (hx : p.tables.exec = Jvm.exec) (hb : c.code = cc) (hr : meth.sig.returnType = some (.object "java/lang/String")) (hX : XW E σ ρ s H) (hS : va_S (xA E) s.heap H locs) {w : Nat} (hv : w = k) (hs : σ = σ') (hp : ρ = ρ') (hlocks : meth.locks = false) (hdg : decode cc pc = .ok (.areturn, 1)) : W p l e R s m args below meth c H locs cells slots (MQ below (XQs E k σ' ρ') args s cells slots (xA E)) (F0 m pc ls [.ref (xaK E w)]) := by
  subst hv; subst hs; subst hp
  exact W.aret hx hb hr (Or.inl ⟨_, rfl⟩) (Or.inr ⟨_, rfl⟩) (fun t ht hW => ⟨⟨(), xaK E w, rfl, trivial, rfl, (show XW E σ ρ t t.heap by rw [ht]; exact XW_warm hW hX)⟩, hS.F ht⟩) hS.2.2 hdg hlocks
end XC
