/-- a row of references: its class, by the tables -/
def ArrOfC (U : State) (cell : Cell) (C : String) : Prop := U.isArrayOf cell (.object C) ∧ ∃ (kA : Class) (comp : ClassId), U.vm.classes[cell.cls]? = some kA ∧ kA.kind = .array comp (.object C) ∧ U.vm.findClass C = some comp
theorem ArrOfC_moved {u U : State} {cell : Cell} {C : String} (hvm : u.vm.Alike U.vm) (h : ArrOfC u cell C) : ArrOfC U cell C := by
  obtain ⟨h1, kA, comp, h2, h3, h4⟩ := h
  obtain ⟨k', hk', he⟩ := hvm.2.2 _ _ h2
  exact ⟨State.isArrayOf_alike hvm h1, k', comp, hk', by rw [he]; exact h3, by rw [hvm.findClass]; exact h4⟩
/-! what is being made: cells that stand beside the regions yet -/
abbrev pE : Type := (Nat × List Value) ⊕ ((FieldType × Nat) ⊕ (String × List (Option Nat)))
abbrev pW : Type := List (Nat × pE)
def prf (z : Option Nat) : Value := match z with
  | some a => .ref a
  | none => .null
def pat (D : va_G) (q : Nat × pE) (U : State) (H : Heap) : Prop := match q.2 with
  | .inl z => ∃ c : vw_C, vwCl[z.1]? = some c ∧ c.2.2 = z.2.length ∧ t_OB q.1 (D.1 z.1) c.2.2 (D.2 z.1) H (fun j => z.2.getD j .null)
  | .inr (.inl z) => ∃ cell : Cell, H[q.1]? = some cell ∧ U.isArrayOf cell z.1 ∧ cell.vm ≠ .unknown ∧ cell.slots.size = z.2 ∧ ∀ j : Nat, j < z.2 → cell.slots[j]? = some (defaultValue z.1)
  | .inr (.inr z) => ∃ cell : Cell, H[q.1]? = some cell ∧ ArrOfC U cell z.1 ∧ cell.vm = .none ∧ cell.slots.size = z.2.length ∧ ∀ (j : Nat) (y : Option Nat), z.2[j]? = some y → cell.slots[j]? = some (prf y)
theorem pat_lt {D : va_G} {q : Nat × pE} {U : State} {H : Heap} (h : pat D q U H) : q.1 < H.size := by
  obtain ⟨a, z | z | z⟩ := q
  · obtain ⟨c, h1, h2, cell, h3, h4⟩ := h
    exact (Array.getElem?_eq_some_iff.mp h3).1
  · obtain ⟨cell, h1, h2⟩ := h
    exact (Array.getElem?_eq_some_iff.mp h1).1
  · obtain ⟨cell, h1, h2⟩ := h
    exact (Array.getElem?_eq_some_iff.mp h1).1
theorem pat_kept {D : va_G} {q : Nat × pE} {U : State} {H H1 : Heap} (h : pat D q U H) (hq : H1[q.1]? = H[q.1]?) : pat D q U H1 := by
  obtain ⟨a, z | z | z⟩ := q
  · obtain ⟨c, h1, h2, h3⟩ := h
    exact ⟨c, h1, h2, h3.kept hq⟩
  · obtain ⟨cell, h1, h2⟩ := h
    exact ⟨cell, hq.trans h1, h2⟩
  · obtain ⟨cell, h1, h2⟩ := h
    exact ⟨cell, hq.trans h1, h2⟩
theorem pat_moved {D : va_G} {q : Nat × pE} {u U : State} {H : Heap} (hvm : u.vm.Alike U.vm) (h : pat D q u H) : pat D q U H := by
  obtain ⟨a, z | z | z⟩ := q
  · exact h
  · obtain ⟨cell, h1, h2, h3⟩ := h
    exact ⟨cell, h1, State.isArrayOf_alike hvm h2, h3⟩
  · obtain ⟨cell, h1, h2, h3⟩ := h
    exact ⟨cell, h1, ArrOfC_moved hvm h2, h3⟩
/-- the world with all from B on as what may be written -/
def eB (E : xE) (B : Nat) : xE := (E.1, E.2.1, E.2.2.1, (fun a => B ≤ a), E.2.2.2.2)
theorem XStat_narrow {E : xE} {B : Nat} {U : State} {H : Heap} (h : XStat (eB E B) U H) (hA : ∀ a, xA E a → B ≤ a) : XStat E U H :=
  ⟨fun k q hq => ⟨va_Z.narrow (h.1 k q hq).1 hA, va_T.narrow (h.1 k q hq).2 hA⟩, ⟨va_Z.narrow h.2.1.1 hA, va_Zq.narrow h.2.1.2.1 hA, va_T.narrow h.2.1.2.2.1 hA, XDig.narrow h.2.1.2.2.2 hA⟩, fun k q hq => ⟨va_O.narrow (h.2.2 k q hq).1 hA, va_OF.narrow (h.2.2 k q hq).2.1 hA, va_OF.narrow (h.2.2 k q hq).2.2.1 hA, va_T.narrow (h.2.2 k q hq).2.2.2 hA⟩⟩
/-- the cells that are being made, apart from each other and from the regions; the regions' own addresses are what may be written there; all of it lies from B on -/
def PN (E : xE) (B : Nat) (ws : pW) (U : State) (H : Heap) : Prop := (∀ q ∈ ws, pat (xD E) q U H ∧ B ≤ q.1 ∧ ∀ (r o : Nat) (k : xK), lay (xkd E r) o = some k → xad E r o ≠ q.1) ∧ ws.Pairwise (fun a b => a.1 ≠ b.1) ∧ (∀ a, xA E a → ∃ (r o : Nat) (k : xK), lay (xkd E r) o = some k ∧ xad E r o = a) ∧ (∀ a, xA E a → B ≤ a) ∧ B ≤ H.size ∧ XStat (eB E B) U H ∧ va_AO "FusionFront$Front" U
theorem PN_moved {E : xE} {B : Nat} {ws : pW} {u U : State} {H : Heap} (hvm : u.vm.Alike U.vm) (h : PN E B ws u H) : PN E B ws U H := ⟨fun q hq => ⟨pat_moved hvm (h.1 q hq).1, (h.1 q hq).2⟩, h.2.1, h.2.2.1, h.2.2.2.1, h.2.2.2.2.1, XStat_moved hvm h.2.2.2.2.2.1, va_AO.moved hvm h.2.2.2.2.2.2⟩
/-- behind a call that wrote in the regions alone -/
theorem PN_kept {E : xE} {B : Nat} {ws : pW} {U : State} {H H1 : Heap} (h : PN E B ws U H) (hz : H.size ≤ H1.size) (hk : ∀ q : Nat, q < H.size → ¬ xA E q → H1[q]? = H[q]?) : PN E B ws U H1 :=
  ⟨fun q hq => ⟨pat_kept (h.1 q hq).1 (hk _ (pat_lt (h.1 q hq).1) (fun z => by
    obtain ⟨r, o, k, h1, h2⟩ := h.2.2.1 _ z
    exact (h.1 q hq).2.2 r o k h1 h2)), (h.1 q hq).2⟩, h.2.1, h.2.2.1, h.2.2.2.1, Nat.le_trans h.2.2.2.2.1 hz, XStat_kept h.2.2.2.2.2.1 (fun a ha hb => hk a ha (fun z => hb (h.2.2.2.1 a z))), h.2.2.2.2.2.2⟩
theorem YW_lt {E : xE} {S : xSt} {U : State} {H : Heap} (h : YW E S U H) {r o : Nat} {k : xK} (hl : lay (xkd E r) o = some k) : xad E r o < H.size := xat_lt (h.1.2.1 r o k hl)
theorem YW_push {E : xE} {S : xSt} {U : State} {H H1 : Heap} (h : YW E S U H) (hq : ∀ q : Nat, q < H.size → H1[q]? = H[q]?) : YW E S U H1 :=
  ⟨⟨h.1.1, fun r o k hl => xat_kept (h.1.2.1 r o k hl) (hq _ (YW_lt h hl)), h.1.2.2.1, XStat_kept h.1.2.2.2.1 (fun a ha _ => hq a ha), h.1.2.2.2.2⟩, h.2⟩
theorem PN_push {E : xE} {B : Nat} {S : xSt} {ws : pW} {U : State} {H H1 : Heap} (hY : YW E S U H) (h : PN E B ws U H) {z : pE} (hz : pat (xD E) (H.size, z) U H1) (hs : H1.size = H.size + 1) (hq : ∀ q : Nat, q < H.size → H1[q]? = H[q]?) : PN E B ((H.size, z) :: ws) U H1 := by
  refine ⟨fun q hq' => ?_, List.pairwise_cons.mpr ⟨fun q hq' => ?_, h.2.1⟩, h.2.2.1, h.2.2.2.1, by have := h.2.2.2.2.1; omega, XStat_kept h.2.2.2.2.2.1 (fun a ha _ => hq a ha), h.2.2.2.2.2.2⟩
  · rcases List.mem_cons.mp hq' with rfl | hq'
    · exact ⟨hz, h.2.2.2.2.1, fun r o k hl => Nat.ne_of_lt (YW_lt hY hl)⟩
    · exact ⟨pat_kept (h.1 q hq').1 (hq _ (pat_lt (h.1 q hq').1)), (h.1 q hq').2⟩
  · exact (Nat.ne_of_lt (pat_lt (h.1 q hq').1)).symm
theorem pair_set {ws : pW} {k a : Nat} {z z' : pE} (h : ws.Pairwise (fun a b => a.1 ≠ b.1)) (hk : ws[k]? = some (a, z)) : (ws.set k (a, z')).Pairwise (fun a b => a.1 ≠ b.1) := by
  rw [List.pairwise_iff_getElem] at h ⊢
  intro i j hi hj hij
  rw [List.length_set] at hi hj
  have e : ∀ i (hi : i < ws.length), ((ws.set k (a, z'))[i]'(by rw [List.length_set]; exact hi)).1 = (ws[i]).1 := by
    intro i hi
    rw [List.getElem_set]
    split
    · rename_i h9
      subst h9
      rw [List.getElem?_eq_getElem hi] at hk
      rw [Option.some.inj hk]
    · rfl
  rw [e i hi, e j hj]
  exact h i j hi hj hij
/-- one cell changed -/
theorem PN_set {E : xE} {B : Nat} {ws : pW} {U : State} {H H1 : Heap} (h : PN E B ws U H) {k a : Nat} {z z' : pE} (hk : ws[k]? = some (a, z)) (hz : pat (xD E) (a, z') U H1) (hs : H1.size = H.size) (hq : ∀ q : Nat, q ≠ a → H1[q]? = H[q]?) : PN E B (ws.set k (a, z')) U H1 := by
  have ha := h.1 _ (List.mem_of_getElem? hk)
  refine ⟨fun q hq' => ?_, pair_set h.2.1 hk, h.2.2.1, h.2.2.2.1, by rw [hs]; exact h.2.2.2.2.1, XStat_kept h.2.2.2.2.2.1 (fun b _ hb => hq b (fun e => hb (by rw [e]; exact ha.2.1))), h.2.2.2.2.2.2⟩
  obtain ⟨i, hi⟩ := List.getElem?_of_mem hq'
  rw [List.getElem?_set] at hi
  split at hi
  · split at hi
    · cases hi
      exact ⟨hz, ha.2⟩
    · cases hi
  · rename_i hne
    have hm := List.mem_of_getElem? hi
    refine ⟨pat_kept (h.1 q hm).1 (hq _ (fun e => hne ?_)), (h.1 q hm).2⟩
    obtain ⟨h1, e1⟩ := List.getElem?_eq_some_iff.mp hk
    obtain ⟨h2, e2⟩ := List.getElem?_eq_some_iff.mp hi
    have hp := List.pairwise_iff_getElem.mp h.2.1
    rcases Nat.lt_trichotomy k i with g | g | g
    · have := hp k i h1 h2 g
      rw [e1, e2] at this
      exact absurd e.symm this
    · exact g
    · have := hp i k h2 h1 g
      rw [e1, e2] at this
      exact absurd e this
theorem YW_side {E : xE} {B : Nat} {S : xSt} {U : State} {H H1 : Heap} {ws : pW} (hY : YW E S U H) (h : PN E B ws U H) {q0 : Nat × pE} (hm : q0 ∈ ws) (hq : ∀ q : Nat, q ≠ q0.1 → H1[q]? = H[q]?) : YW E S U H1 :=
  ⟨⟨hY.1.1, fun r o k hl => xat_kept (hY.1.2.1 r o k hl) (hq _ ((h.1 q0 hm).2.2 r o k hl)), hY.1.2.2.1, XStat_narrow (XStat_kept h.2.2.2.2.2.1 (fun b _ hb => hq b (fun e => hb (by rw [e]; exact (h.1 q0 hm).2.1)))) h.2.2.2.1, hY.1.2.2.2.2⟩, hY.2⟩
def WN (K : xCtx) (E : xE) (B : Nat) (pc : Nat) (lv : List (Nat × Value)) (st : List Value) (S : xSt) (ws : pW) (cl sl : Nat) : Prop := match K with
  | (p, l, e, R, s, m, args, below, meth, c, nL, _, _, Q) => ∀ (H : Heap) (locs : List Loc) (ls : Array Slot), YW E S s H → PN E B ws s H → va_S (fun a => B ≤ a) s.heap H locs → lv_has ls nL lv → W p l e R s m args below meth c H locs cl sl Q (F0 m pc ls st)
/-- what a maker's walk needs -/
def xOKN (K : xCtx) (cc : ByteArray) (own : String) (n : Nat) (rm : Room) : Prop := xOK K cc own n rm ∧ match K with
  | (p, l, e, R, s, m, args, below, meth, c, nL, cl, sl, Q) => meth.name = "<init>"
section PR
variable {K : xCtx} {E : xE} {B : Nat} {cc : ByteArray} {own : String} {n : Nat} {rm : Room} {pc : Nat} {lv : List (Nat × Value)} {st : List Value} {S : xSt} {ws : pW} {cl sl : Nat}

theorem n_iconst (hC : xOKN K cc own n rm) {z : Int} (d : decode cc pc = .ok (.iconst z, 1))
    (k : WN K E B (pc + 1) lv (vi z :: st) S ws cl sl) : WN K E B pc lv (st) S ws cl sl := by
  obtain ⟨p, l, e, R, s, m, args, below, meth, c, nL, cl0, sl0, Q⟩ := K
  obtain ⟨⟨hx, hb, hml, hown, hts, hlk, rfl, hRR⟩, hin⟩ := hC
  intro H locs ls hY hP hS hl
  exact lv_iconst hx hb d rfl (k H locs ls hY hP hS hl)
theorem n_bipush (hC : xOKN K cc own n rm) {z : Int} (hz : (Int8.ofInt z).toInt32 = Int32.ofInt z) (d : decode cc pc = .ok (.bipush z, 2))
    (k : WN K E B (pc + 2) lv (vi z :: st) S ws cl sl) : WN K E B pc lv (st) S ws cl sl := by
  obtain ⟨p, l, e, R, s, m, args, below, meth, c, nL, cl0, sl0, Q⟩ := K
  obtain ⟨⟨hx, hb, hml, hown, hts, hlk, rfl, hRR⟩, hin⟩ := hC
  intro H locs ls hY hP hS hl
  exact lv_bipush hx hb d hz (k H locs ls hY hP hS hl)
theorem n_sipush (hC : xOKN K cc own n rm) {z : Int} (hz : (Int16.ofInt z).toInt32 = Int32.ofInt z) (d : decode cc pc = .ok (.sipush z, 3))
    (k : WN K E B (pc + 3) lv (vi z :: st) S ws cl sl) : WN K E B pc lv (st) S ws cl sl := by
  obtain ⟨p, l, e, R, s, m, args, below, meth, c, nL, cl0, sl0, Q⟩ := K
  obtain ⟨⟨hx, hb, hml, hown, hts, hlk, rfl, hRR⟩, hin⟩ := hC
  intro H locs ls hY hP hS hl
  exact lv_sipush hx hb d hz (k H locs ls hY hP hS hl)
theorem n_aload_n (hC : xOKN K cc own n rm) {f : Fin 4} {i : Nat} (hi : (f : Nat) = i) (j : Nat) {a : Nat} (hj : lv[j]? = some (i, .ref a)) (d : decode cc pc = .ok (.aload_n f, 1))
    (k : WN K E B (pc + 1) lv (.ref a :: st) S ws cl sl) : WN K E B pc lv (st) S ws cl sl := by
  obtain ⟨p, l, e, R, s, m, args, below, meth, c, nL, cl0, sl0, Q⟩ := K
  obtain ⟨⟨hx, hb, hml, hown, hts, hlk, rfl, hRR⟩, hin⟩ := hC
  intro H locs ls hY hP hS hl
  exact lv_aload_n hx hb d hi (lv_at hl j hj) (k H locs ls hY hP hS hl)
theorem n_dup (hC : xOKN K cc own n rm) {v : Value} (hv : v.category = 1) (d : decode cc pc = .ok (.dup, 1))
    (k : WN K E B (pc + 1) lv (v :: v :: st) S ws cl sl) : WN K E B pc lv (v :: st) S ws cl sl := by
  obtain ⟨p, l, e, R, s, m, args, below, meth, c, nL, cl0, sl0, Q⟩ := K
  obtain ⟨⟨hx, hb, hml, hown, hts, hlk, rfl, hRR⟩, hin⟩ := hC
  intro H locs ls hY hP hS hl
  exact lv_dup hx hb d hv (k H locs ls hY hP hS hl)
theorem n_objInit (hC : xOKN K cc own n rm) {idx a : Nat} (h1 : Cond.methodLink own idx objectInit ∈ xw) (h2 : Cond.instanceMethod objectInit ∈ xw) (h3 : Cond.code objectInit ⟨#[0xb1]⟩ 1 none ∈ xw) (hf : 1 ≤ rm.frames) (hlo : (st.map fun v => v.category).sum + 12 ≤ rm.locals) (d : decode cc pc = .ok (.invokespecial idx, 3))
    (k : WN K E B (pc + 3) lv st S ws cl sl) : WN K E B pc lv (.ref a :: st) S ws cl sl := by
  obtain ⟨p, l, e, R, s, m, args, below, meth, c, nL, cl0, sl0, Q⟩ := K
  obtain ⟨⟨hx, hb, hml, hown, hts, hlk, rfl, hRR⟩, hin⟩ := hC
  intro H locs ls hY hP hS hl
  refine W.objInit hx hb hown (hts _ h1) (hts _ h2) (hts _ h3) rfl (by rw [hml]; exact hl.1) rfl d (by rw [hRR]; exact hf) (by rw [hRR]; show 2 * 0 + _ + 12 ≤ _; omega) ?_
  exact k H locs ls hY hP hS hl
theorem n_new (hC : xOKN K cc own n rm) {ci : Nat} {C : String} {T : u_T} {N : Nat} {ty : Nat → FieldType} (hc : xCl ci C T N ty) {idx : Nat} (h1 : Cond.classLink own idx C ∈ xw) (h2 : Cond.instantiable C N ∈ xw) (h3 : Cond.initialized C ∈ xw) (fs : List Value) (hlen : fs.length = N) (hfs : ∀ j, j < N → defaultValue (ty j) = fs.getD j .null) (hcl : cl + 1 ≤ rm.cells) (hsl : sl + N ≤ rm.slots) (d : decode cc pc = .ok (.new idx, 3))
    (k : ∀ a : Nat, WN K E B (pc + 3) lv (.ref a :: st) S ((a, .inl (ci, fs)) :: ws) (cl + 1) (sl + N)) : WN K E B pc lv st S ws cl sl := by
  obtain ⟨p, l, e, R, s, m, args, below, meth, c, nL, cl0, sl0, Q⟩ := K
  obtain ⟨⟨hx, hb, hml, hown, hts, hlk, rfl, hRR⟩, hin⟩ := hC
  intro H locs ls hY hP hS hl
  have hKn := hY.1.1.1 ci _ hc.1
  refine W.newcK hx hb hown (hts _ h1) (hts _ h2) (hts _ h3) rfl d (by rw [hRR]; exact hcl) (by rw [hRR]; exact hsl) hKn.2.1 rfl fun H1 kC hkC e1 z1 o1 => ?_
  refine k H.size H1 locs ls (YW_push hY o1) (PN_push hY hP ⟨_, hc.1, hlen.symm, ?_⟩ z1 o1) ⟨Nat.le_trans hS.1 (by omega), fun x h1 h2 => (o1 x (Nat.lt_of_lt_of_le h1 hS.1)).trans (hS.2.1 x h1 h2), hS.2.2⟩ hl
  exact (u_born ty hts hc.2.1 hKn hkC e1 hc.2.2.1).to hfs
theorem n_newa (hC : xOKN K cc own n rm) {atype : ArrayType} {et : FieldType} (het : newarray.typeOf atype = et) (harr : Cond.arrayClass et ∈ xw) {z : Int} {N : Nat} (hz : 0 ≤ wr z) (hN : (wr z).toNat = N) (hby : N * componentBytes et ≤ 536870912) (hcl : cl + 1 ≤ rm.cells) (hsl : sl + N ≤ rm.slots) (d : decode cc pc = .ok (.newarray atype, 2))
    (k : ∀ a : Nat, WN K E B (pc + 2) lv (.ref a :: st) S ((a, .inr (.inl (et, N))) :: ws) (cl + 1) (sl + N)) : WN K E B pc lv (vi z :: st) S ws cl sl := by
  obtain ⟨p, l, e, R, s, m, args, below, meth, c, nL, cl0, sl0, Q⟩ := K
  obtain ⟨⟨hx, hb, hml, hown, hts, hlk, rfl, hRR⟩, hin⟩ := hC
  intro H locs ls hY hP hS hl
  subst het
  have e0 : wr 0 = 0 := by decide
  refine va_newaK hx hb (hts _ harr) rfl d rfl (fun q => by rw [i32_0, i32_lt] at q; omega) (by rw [i32_nat]; exact hN) hby (by rw [hRR]; exact hcl) (by rw [hRR]; exact hsl) rfl fun H1 cA e1 z1 o1 hAr hfc => ?_
  refine k H.size H1 locs ls (YW_push hY o1) (PN_push hY hP ⟨_, e1, hAr _ _, (fun q => by cases q), arrV_size _ _ _, fun j hj => arrV_read _ _ hj⟩ z1 o1) ⟨Nat.le_trans hS.1 (by omega), fun x h1 h2 => (o1 x (Nat.lt_of_lt_of_le h1 hS.1)).trans (hS.2.1 x h1 h2), hS.2.2⟩ hl

theorem n_putF (hC : xOKN K cc own n rm) (q0 : Nat) {a ci : Nat} {fs : List Value} (hq0 : ws[q0]? = some (a, .inl (ci, fs))) {C : String} {T : u_T} {N : Nat} {ty : Nat → FieldType} (hc : xCl ci C T N ty) (j : Nat) (hj : j < N) (hfin : (T j).2.2.2 = true) (hdecl : (T j).1 = own) {idx : Nat} (hlink : Cond.fieldLink own idx (T j).1 (T j).2.1 (T j).2.2.1 ∈ xw) {v : Value} (hn : narrow (ty j) v = v) (hfit : fits (ty j) v = true) (d : decode cc pc = .ok (.putfield idx, 3))
    (k : WN K E B (pc + 3) lv st S (ws.set q0 (a, .inl (ci, fs.set j v))) cl sl) : WN K E B pc lv (v :: .ref a :: st) S ws cl sl := by
  obtain ⟨p, l, e, R, s, m, args, below, meth, c, nL, cl0, sl0, Q⟩ := K
  obtain ⟨⟨hx, hb, hml, hown, hts, hlk, rfl, hRR⟩, hin⟩ := hC
  intro H locs ls hY hP hS hl
  have hK := hY.1.1
  have hap := va_apart (own := own) hts hc.2.1 ty hc.2.2.1 hc.2.2.2 hK hc.1
  have hm := List.mem_of_getElem? hq0
  obtain ⟨⟨r, h1, hlen, cell, q1, q2, q3, q4⟩, hdis⟩ := hP.1 _ hm
  cases h1.symm.trans hc.1
  obtain ⟨hSl, hfc, kC, hkC, hkind⟩ := hK.1 ci _ hc.1
  obtain ⟨cf, kf, fi, f, hi, hsl⟩ := hSl j hj
  have hlay := hts _ (hc.2.1 _ (u_in_lay hj))
  unfold u_lay at hlay
  rw [if_pos hfin] at hlay
  have hst := (u_facts hfc hkC (u_lays hts hc.2.1 hj) hi).1
  have hcf : m.cls = cf := by
    obtain ⟨_, _, c', _, _, _, -, -, hf', -, -, -, hown2, -⟩ := Cond.laysFinal_spec hlay
    have e1 : c' = cf := by have := hi.symm.trans hf'; simp at this; exact this.1.symm
    rw [hdecl] at hown2
    rw [← e1]; exact Option.some.inj (hown.symm.trans hown2)
  have h6 := u_fits hfc hkC hkind (Or.inr hlay) hi (hc.2.2.1 j hj) hn hfit
  refine W.putFinK hx hb hown (hts _ hlink) hi hst hcf hin (by rw [q2]; exact h6) q1 q3 (by rw [hsl]; exact k2_hasslot (q4 j hj)) rfl rfl d fun H' e1 e2 e3 => ?_
  rw [hsl] at e1 ⊢
  refine k H' _ ls ?_ (PN_set hP hq0 ⟨_, hc.1, by rw [List.length_set]; exact hlen, t_OB.to (V := updV (fun i => fs.getD i .null) j v) ⟨_, e1, q2, q3, t_set q4 hap hj v⟩ (fun i _ => ?_)⟩ e2 e3) (hS.put e2 e3 hdis.1) hl
  · exact YW_side hY hP hm e3
  · show (if i = j then v else fs.getD i .null) = (fs.set j v).getD i .null
    rw [List.getD_eq_getElem?_getD, List.getD_eq_getElem?_getD, List.getElem?_set]
    by_cases hij : i = j
    · subst hij
      rw [if_pos rfl, if_pos rfl, if_pos (show i < fs.length by rw [← hlen]; exact hj)]
      rfl
    · rw [if_neg hij, if_neg (Ne.symm hij)]

theorem n_put (hC : xOKN K cc own n rm) (q0 : Nat) {a ci : Nat} {fs : List Value} (hq0 : ws[q0]? = some (a, .inl (ci, fs))) {C : String} {T : u_T} {N : Nat} {ty : Nat → FieldType} (hc : xCl ci C T N ty) (j : Nat) (hj : j < N) (hfin : (T j).2.2.2 = false)  {idx : Nat} (hlink : Cond.fieldLink own idx (T j).1 (T j).2.1 (T j).2.2.1 ∈ xw) {v : Value} (hn : narrow (ty j) v = v) (hfit : fits (ty j) v = true) (d : decode cc pc = .ok (.putfield idx, 3))
    (k : WN K E B (pc + 3) lv st S (ws.set q0 (a, .inl (ci, fs.set j v))) cl sl) : WN K E B pc lv (v :: .ref a :: st) S ws cl sl := by
  obtain ⟨p, l, e, R, s, m, args, below, meth, c, nL, cl0, sl0, Q⟩ := K
  obtain ⟨⟨hx, hb, hml, hown, hts, hlk, rfl, hRR⟩, hin⟩ := hC
  intro H locs ls hY hP hS hl
  have hK := hY.1.1
  have hap := va_apart (own := own) hts hc.2.1 ty hc.2.2.1 hc.2.2.2 hK hc.1
  have hm := List.mem_of_getElem? hq0
  obtain ⟨⟨r, h1, hlen, cell, q1, q2, q3, q4⟩, hdis⟩ := hP.1 _ hm
  cases h1.symm.trans hc.1
  obtain ⟨hSl, hfc, kC, hkC, hkind⟩ := hK.1 ci _ hc.1
  obtain ⟨cf, kf, fi, f, hi, hsl⟩ := hSl j hj
  have hlay := hts _ (hc.2.1 _ (u_in_lay hj))
  unfold u_lay at hlay
  rw [if_neg (by rw [hfin]; decide)] at hlay
  have hst := (u_facts hfc hkC (u_lays hts hc.2.1 hj) hi).1
  have h6 := u_store hfc hkC hkind hlay hi (hc.2.2.1 j hj) hn hfit
  refine W.putK hx hb (f := f) ⟨hown, hts _ hlink, ⟨_, _, _, hi⟩, hst⟩ (by rw [q2]; exact h6) q1 q3 (by rw [hsl]; exact k2_hasslot (q4 j hj)) rfl rfl d fun H' e1 e2 e3 => ?_
  rw [hsl] at e1 ⊢
  refine k H' _ ls ?_ (PN_set hP hq0 ⟨_, hc.1, by rw [List.length_set]; exact hlen, t_OB.to (V := updV (fun i => fs.getD i .null) j v) ⟨_, e1, q2, q3, t_set q4 hap hj v⟩ (fun i _ => ?_)⟩ e2 e3) (hS.put e2 e3 hdis.1) hl
  · exact YW_side hY hP hm e3
  · show (if i = j then v else fs.getD i .null) = (fs.set j v).getD i .null
    rw [List.getD_eq_getElem?_getD, List.getD_eq_getElem?_getD, List.getElem?_set]
    by_cases hij : i = j
    · subst hij
      rw [if_pos rfl, if_pos rfl, if_pos (show i < fs.length by rw [← hlen]; exact hj)]
      rfl
    · rw [if_neg hij, if_neg (Ne.symm hij)]

theorem n_get (hC : xOKN K cc own n rm) (q0 : Nat) {a ci : Nat} {fs : List Value} (hq0 : ws[q0]? = some (a, .inl (ci, fs))) {C : String} {T : u_T} {N : Nat} {ty : Nat → FieldType} (hc : xCl ci C T N ty) (j : Nat) (hj : j < N) {idx : Nat} (hlink : Cond.fieldLink own idx (T j).1 (T j).2.1 (T j).2.2.1 ∈ xw) {v : Value} (hv : fs.getD j .null = v) (d : decode cc pc = .ok (.getfield idx, 3))
    (k : WN K E B (pc + 3) lv (v :: st) S ws cl sl) : WN K E B pc lv (.ref a :: st) S ws cl sl := by
  obtain ⟨p, l, e, R, s, m, args, below, meth, c, nL, cl0, sl0, Q⟩ := K
  obtain ⟨⟨hx, hb, hml, hown, hts, hlk, rfl, hRR⟩, hin⟩ := hC
  intro H locs ls hY hP hS hl
  obtain ⟨⟨r, h1, hlen, cell, q1, q2, q3, q4⟩, hdis⟩ := hP.1 _ (List.mem_of_getElem? hq0)
  cases h1.symm.trans hc.1
  obtain ⟨hSl, hfc, kC, hkC, hkind⟩ := hY.1.1.1 ci _ hc.1
  obtain ⟨cf, kf, fi, f', hi, hsl⟩ := hSl j hj
  refine W.getf hx hb hown (hts _ hlink) hi (u_facts hfc hkC (u_lays hts hc.2.1 hj) hi).1 q1 (by rw [q3]; exact fun h => by cases h) (v := v) ?_ rfl rfl d (k H locs ls hY hP hS hl)
  rw [hsl, q4 j hj]
  exact congrArg some hv
end PR
