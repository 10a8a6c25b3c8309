def XCells (E : xE) (σ : xS) (ρ : xP) (U : State) (H : Heap) : Prop := ∀ (r o : Nat) (k : xK), lay (xkd E r) o = some k → xat E r o k (σ r o) (ρ r o) U H
def XJ (E : xE) : Prop := (∀ (r o r' o' : Nat) (k k' : xK), lay (xkd E r) o = some k → lay (xkd E r') o' = some k' → xad E r o = xad E r' o' → r = r' ∧ o = o') ∧ ∀ (r o : Nat) (k : xK), lay (xkd E r) o = some k → xA E (xad E r o)
/-- Integer's two tables of digits -/
def XDig1 (n : String) (f : Nat → Int32) (A : Nat → Prop) (U : State) (H : Heap) : Prop := ∃ t : Nat, va_Z "java/lang/Integer" n "[B" (.ref t) A U H ∧ va_T .byte t 100 (fun j => .int (f j)) A U H
def xd1 (j : Nat) : Int32 := Int32.ofNat (48 + j % 10)
def xd2 (j : Nat) : Int32 := Int32.ofNat (48 + j / 10)
theorem XDig1.moved {n : String} {f : Nat → Int32} {A : Nat → Prop} {u U : State} {H : Heap} (hvm : u.vm.Alike U.vm) (h : XDig1 n f A u H) : XDig1 n f A U H := by
  obtain ⟨t, h1, h2⟩ := h
  exact ⟨t, va_Z.moved hvm h1, va_T.moved hvm h2⟩
theorem XDig1.kept {n : String} {f : Nat → Int32} {A : Nat → Prop} {U : State} {H H1 : Heap} (h : XDig1 n f A U H) (hq : ∀ a : Nat, a < H.size → ¬ A a → H1[a]? = H[a]?) : XDig1 n f A U H1 := by
  obtain ⟨t, h1, h2⟩ := h
  exact ⟨t, h1.kept hq, h2.kept hq⟩
theorem XDig1.narrow {n : String} {f : Nat → Int32} {A B : Nat → Prop} {U : State} {H : Heap} (h : XDig1 n f A U H) (hAB : ∀ q, B q → A q) : XDig1 n f B U H := by
  obtain ⟨t, h1, h2⟩ := h
  exact ⟨t, va_Z.narrow h1 hAB, va_T.narrow h2 hAB⟩
def XDig (A : Nat → Prop) (U : State) (H : Heap) : Prop := XDig1 "DigitOnes" xd1 A U H ∧ XDig1 "DigitTens" xd2 A U H
theorem XDig.moved {A : Nat → Prop} {u U : State} {H : Heap} (hvm : u.vm.Alike U.vm) (h : XDig A u H) : XDig A U H := ⟨h.1.moved hvm, h.2.moved hvm⟩
theorem XDig.kept {A : Nat → Prop} {U : State} {H H1 : Heap} (h : XDig A U H) (hq : ∀ a : Nat, a < H.size → ¬ A a → H1[a]? = H[a]?) : XDig A U H1 := ⟨h.1.kept hq, h.2.kept hq⟩
theorem XDig.narrow {A B : Nat → Prop} {U : State} {H : Heap} (h : XDig A U H) (hAB : ∀ q, B q → A q) : XDig B U H := ⟨h.1.narrow hAB, h.2.narrow hAB⟩
def XStat (E : xE) (U : State) (H : Heap) : Prop :=
  (∀ (k : Nat) (q : String × String × List Int32), xsts[k]? = some q → va_Z q.1 q.2.1 "[I" (.ref (xts E k)) (xA E) U H ∧ va_T .int (xts E k) q.2.2.length (fun j => .int (q.2.2.getD j 0)) (xA E) U H) ∧
  (va_Z "java/lang/String" "COMPACT_STRINGS" "Z" (.int 1) (xA E) U H ∧ va_Zq "jdk/internal/util/Preconditions" "SIOOBE_FORMATTER" "Ljava/util/function/BiFunction;" (xA E) U H ∧ va_T .int (xsb E) (xsL E) (fun j => .int (Int32.ofInt (xsc E j))) (xA E) U H ∧ XDig (xA E) U H) ∧
  ∀ (k : Nat) (q : String × Nat × String × List Int32), xldc[k]? = some q → va_O "java/lang/String" (xaK E k) (xA E) U H ∧ va_OF "java/lang/String" "coder" "B" (.int 0) (xaK E k) (xA E) U H ∧ va_OF "java/lang/String" "value" "[B" (.ref (xaV E k)) (xaK E k) (xA E) U H ∧ va_T .byte (xaV E k) q.2.2.2.length (fun j => .int (q.2.2.2.getD j 0)) (xA E) U H
def xdecl : List MethodName := [⟨"java/lang/StringBuilder", "append", "(Ljava/lang/String;)Ljava/lang/StringBuilder;"⟩, ⟨"java/lang/StringBuilder", "append", "(C)Ljava/lang/StringBuilder;"⟩, ⟨"java/lang/StringBuilder", "append", "(I)Ljava/lang/StringBuilder;"⟩, ⟨"java/lang/StringBuilder", "toString", "()Ljava/lang/String;"⟩, ⟨"java/lang/AbstractStringBuilder", "isLatin1", "()Z"⟩, ⟨"java/lang/AbstractStringBuilder", "getValue", "()[B"⟩, ⟨"java/lang/AbstractStringBuilder", "length", "()I"⟩, ⟨"java/lang/String", "coder", "()B"⟩, ⟨"java/lang/String", "length", "()I"⟩]
def xcast : List (String × String) := [("java/lang/String", "java/lang/String"), ("[B", "java/lang/Cloneable")]
theorem va_Nw.warmK {C D : String} {s U : State} (hW : s.WarmedH U.vm) (hZ : va_Nw (.castable C D) s) : va_Nw (.castable C D) U := va_tabs rfl (rfl : (s.setVm U.vm).vm = U.vm) (by rw [Cond.castable_setVm hW.alike]; exact hZ)
def XTab (E : xE) (U : State) : Prop := (∀ (k : Nat) (q : String × Nat × String × List Int32), xldc[k]? = some q → vk_R q.1 q.2.1 q.2.2.1 (xaK E k) U) ∧ (∀ q ∈ xnf, va_Nw (.fieldLinkNest q.1 q.2.1 q.2.2.1 q.2.2.2.1 q.2.2.2.2.1 q.2.2.2.2.2) U) ∧ (∀ q ∈ xnm, va_Nw (.methodLinkNest q.1 q.2.1 q.2.2.1 q.2.2.2) U) ∧ (∀ x ∈ xdecl, va_Nw (.declares x) U) ∧ ∀ q ∈ xcast, va_Nw (.castable q.1 q.2) U
def XW (E : xE) (σ : xS) (ρ : xP) (U : State) (H : Heap) : Prop := va_K (xD E) vwCl [] U ∧ XCells E σ ρ U H ∧ XJ E ∧ XStat E U H ∧ XTab E U
theorem xat_moved {E : xE} {r o : Nat} {k : xK} {f : Nat → Int32} {g : Nat → Nat × Nat} {u U : State} {H : Heap} (hvm : u.vm.Alike U.vm) (h : xat E r o k f g u H) : xat E r o k f g U H := by
  rcases k with q | q | q
  · exact h
  · obtain ⟨cell, h1, h2, h3⟩ := h
    exact ⟨cell, h1, State.isArrayOf_alike hvm h2, h3⟩
  · obtain ⟨cell, h1, h2, h3⟩ := h
    exact ⟨cell, h1, State.isArrayOf_alike hvm h2, h3⟩
theorem xat_kept {E : xE} {r o : Nat} {k : xK} {f : Nat → Int32} {g : Nat → Nat × Nat} {U : State} {H H1 : Heap} (h : xat E r o k f g U H) (hq : H1[xad E r o]? = H[xad E r o]?) : xat E r o k f g U H1 := by
  rcases k with q | q | q
  · obtain ⟨⟨c, h1, h2, h3⟩, h4⟩ := h
    exact ⟨⟨c, h1, h2, h3.kept hq⟩, h4⟩
  · obtain ⟨cell, h1, h2⟩ := h
    exact ⟨cell, hq.trans h1, h2⟩
  · obtain ⟨cell, h1, h2⟩ := h
    exact ⟨cell, hq.trans h1, h2⟩
theorem XStat_moved {E : xE} {u U : State} {H : Heap} (hvm : u.vm.Alike U.vm) (h : XStat E u H) : XStat E U H :=
  ⟨fun k q hq => ⟨va_Z.moved hvm (h.1 k q hq).1, va_T.moved hvm (h.1 k q hq).2⟩, ⟨va_Z.moved hvm h.2.1.1, va_Zq.moved hvm h.2.1.2.1, va_T.moved hvm h.2.1.2.2.1, XDig.moved hvm h.2.1.2.2.2⟩, fun k q hq => ⟨va_O.moved hvm (h.2.2 k q hq).1, va_OF.moved hvm (h.2.2 k q hq).2.1, va_OF.moved hvm (h.2.2 k q hq).2.2.1, va_T.moved hvm (h.2.2 k q hq).2.2.2⟩⟩
theorem XStat_kept {E : xE} {U : State} {H H1 : Heap} (h : XStat E U H) (hq : ∀ a : Nat, a < H.size → ¬ xA E a → H1[a]? = H[a]?) : XStat E U H1 :=
  ⟨fun k q hk => ⟨(h.1 k q hk).1.kept hq, (h.1 k q hk).2.kept hq⟩, ⟨h.2.1.1.kept hq, h.2.1.2.1.kept hq, h.2.1.2.2.1.kept hq, h.2.1.2.2.2.kept hq⟩, fun k q hk => ⟨(h.2.2 k q hk).1.kept hq, (h.2.2 k q hk).2.1.kept hq, (h.2.2 k q hk).2.2.1.kept hq, (h.2.2 k q hk).2.2.2.kept hq⟩⟩
theorem XTab_warm {E : xE} {s U : State} (hW : s.WarmedH U.vm) (h : XTab E s) : XTab E U :=
  ⟨fun k q hq => vk_R.warm hW (h.1 k q hq), fun q hq => va_Nw.warmF hW (h.2.1 q hq), fun q hq => va_Nw.warmM hW (h.2.2.1 q hq), fun x hx => va_Nw.warmD hW (h.2.2.2.1 x hx), fun q hq => va_Nw.warmK hW (h.2.2.2.2 q hq)⟩
theorem XTab_same {E : xE} {u U : State} (hv : U.vm = u.vm) (h : XTab E u) : XTab E U :=
  ⟨fun k q hq => vk_R.same hv (h.1 k q hq), fun q hq => va_Nw.same rfl hv.symm (h.2.1 q hq), fun q hq => va_Nw.same rfl hv.symm (h.2.2.1 q hq), fun x hx => va_Nw.same rfl hv.symm (h.2.2.2.1 x hx), fun q hq => va_Nw.same rfl hv.symm (h.2.2.2.2 q hq)⟩
theorem XW_warm {E : xE} {σ : xS} {ρ : xP} {s U : State} {H : Heap} (hW : s.WarmedH U.vm) (h : XW E σ ρ s H) : XW E σ ρ U H :=
  ⟨va_K.moved hW.alike h.1, fun r o k hl => xat_moved hW.alike (h.2.1 r o k hl), h.2.2.1, XStat_moved hW.alike h.2.2.2.1, XTab_warm hW h.2.2.2.2⟩
theorem XW_same {E : xE} {σ : xS} {ρ : xP} {u U : State} {H : Heap} (hv : U.vm = u.vm) (h : XW E σ ρ u H) : XW E σ ρ U H := by
  have ha : u.vm.Alike U.vm := by rw [hv]; exact Vm.Alike.refl _
  exact ⟨va_K.moved ha h.1, fun r o k hl => xat_moved ha (h.2.1 r o k hl), h.2.2.1, XStat_moved ha h.2.2.2.1, XTab_same hv h.2.2.2.2⟩
theorem XW_back {E : xE} {σ σ' : xS} {ρ ρ' : xP} {s t : State} {H H1 : Heap} (h : XW E σ ρ s H) (hvm : s.vm.Alike t.vm) (h1 : XW E σ' ρ' t H1) : XW E σ' ρ' s H1 :=
  ⟨h.1, fun r o k hl => xat_moved hvm.symm (h1.2.1 r o k hl), h1.2.2.1, XStat_moved hvm.symm h1.2.2.2.1, h.2.2.2.2⟩
theorem XW_put {E : xE} {σ σ' : xS} {ρ ρ' : xP} {s : State} {H H1 : Heap} {r o : Nat} {k : xK} (h : XW E σ ρ s H) (hl : lay (xkd E r) o = some k) (hc : xat E r o k (σ' r o) (ρ' r o) s H1)
    (hs : ∀ r' o' : Nat, ¬ (r' = r ∧ o' = o) → σ' r' o' = σ r' o' ∧ ρ' r' o' = ρ r' o') (oq : ∀ q : Nat, q ≠ xad E r o → H1[q]? = H[q]?) : XW E σ' ρ' s H1 := by
  refine ⟨h.1, fun r' o' k' hl' => ?_, h.2.2.1, XStat_kept h.2.2.2.1 (fun a _ ha => oq a (fun e => ha (by rw [e]; exact h.2.2.1.2 r o k hl))), h.2.2.2.2⟩
  by_cases hz : r' = r ∧ o' = o
  · obtain ⟨rfl, rfl⟩ := hz
    cases hl.symm.trans hl'
    exact hc
  · obtain ⟨e1, e2⟩ := hs r' o' hz
    rw [e1, e2]
    exact xat_kept (h.2.1 r' o' k' hl') (oq _ (fun e => hz (h.2.2.1.1 r' o' r o k' k hl' hl e)))
theorem uR_o {σ : xS} {r o : Nat} {τ : xT} {f : Nat → Int32} (hτ : σ r = τ) (r' o' : Nat) (h : ¬ (r' = r ∧ o' = o)) : (uR σ r (u1 τ o f)) r' o' = σ r' o' := by
  by_cases h1 : r' = r
  · subst h1
    rw [uR_s, u1_n (fun e => h ⟨rfl, e⟩), hτ]
  · rw [uR_n h1]
theorem XW_recv {E : xE} {σ : xS} {ρ : xP} {s : State} {H : Heap} {r o ci : Nat} {fs : List xF} {q : vw_C} (h : XW E σ ρ s H) (hl : lay (xkd E r) o = some (.inl (ci, fs))) (hc : vwCl[ci]? = some q) : ∃ cell : Cell, H[xad E r o]? = some cell ∧ cell.vm.isStatics = false ∧ s.vm.findClass q.1 = some cell.cls := by
  obtain ⟨⟨c1, h1, -, cell, q1, q2, q3, -⟩, -⟩ := h.2.1 r o _ hl
  cases h1.symm.trans hc
  exact ⟨cell, q1, by rw [q3]; rfl, by rw [q2]; exact (h.1.1 ci _ hc).2.1⟩
section XR
variable {p : Program} {l : Launch} {e : Env} {R : Room} {s : State} {m : MethodId} {args : Array Value} {below : List Frame} {meth : Method} {c : Code} {H : Heap} {locs : List Loc} {cells slots : Nat} {Q : State → Prop}
variable {cc : ByteArray} {pc : Nat} {ls : Array Slot} {rest : List Value} {E : xE} {σ : xS} {ρ : xP} {H0 : Heap} {r o : Nat} {τ : xT}
theorem x_get (hx : p.tables.exec = Jvm.exec) (hb : c.code = cc) {own ref C : String} {T : u_T} {N ci index : Nat} {fs : List xF} {Ts : List Cond} (hts : ∀ w ∈ Ts, w.before args s = true) (hin : ∀ w ∈ u_ws C T N, w ∈ Ts) (hown : s.vm.findClass own = some m.cls) (hX : XW E σ ρ s H) (hl : lay (xkd E r) o = some (.inl (ci, fs))) (hc : vwCl[ci]? = some (C, T, N)) (k : Nat) (hk : k < N) (hlink : (Cond.fieldLink own index ref (T k).2.1 (T k).2.2.1).before args s = true) (hsame : ∀ x, s.fieldFound? (T k).1 (T k).2.1 (T k).2.2.1 = some x → s.fieldFound? ref (T k).2.1 (T k).2.2.1 = some x) {f : xF} (hf : fs[k]? = some f) {v : Value} (hv : xfv E r f (σ r o k) (ρ r o k) = v) (hdg : decode cc pc = .ok (.getfield index, 3))
    (kk : W p l e R s m args below meth c H locs cells slots Q (F0 m (pc + 3) ls (v :: rest))) : W p l e R s m args below meth c H locs cells slots Q (F0 m pc ls (.ref (xad E r o) :: rest)) := by
  obtain ⟨hK, hC, -⟩ := hX
  obtain ⟨⟨c1, h1, hlen, cell, q1, q2, q3, q4⟩, -⟩ := hC r o _ hl
  cases h1.symm.trans hc
  obtain ⟨hS, hfc, kC, hkC, hkind⟩ := hK.1 ci _ hc
  obtain ⟨cf, kf, fi, f', hi, hsl⟩ := hS k hk
  refine W.getf hx hb hown hlink (hsame _ hi) (u_facts hfc hkC (u_lays hts hin hk) hi).1 q1 (by rw [q3]; exact fun h => by cases h) (v := v) ?_ rfl rfl hdg kk
  rw [hsl, q4 k hk]
  show some (xfo E r fs[k]? (σ r o k) (ρ r o k)) = some v
  rw [hf]
  exact congrArg some hv
theorem x_fit (hX : XW E σ ρ s H) {ci k : Nat} {fs : List xF} {ty : FieldType} (hl : lay (xkd E r) o = some (.inl (ci, fs))) (hf : fs[k]? = some (.inl ty)) (hτ : σ r = τ) : fits ty (.int (τ o k)) = true := by
  rw [← hτ]
  exact (hX.2.1 r o _ hl).2 k ty hf
theorem x_put (hx : p.tables.exec = Jvm.exec) (hb : c.code = cc) {own ref C : String} {T : u_T} {N ci index : Nat} {fs : List xF} {Ts : List Cond} (hts : ∀ w ∈ Ts, w.before args s = true) (hin : ∀ w ∈ u_ws C T N, w ∈ Ts) (ty0 : Nat → FieldType) (hty : ∀ k, k < N → parseFieldDescriptor (T k).2.2.1 = some (ty0 k)) (hnm : ∀ a, a < N → ∀ b, b < N → a ≠ b → (T a).2.1 ≠ (T b).2.1) (hown : s.vm.findClass own = some m.cls) (hX : XW E σ ρ s H) (hS0 : va_S (xA E) H0 H locs) (hl : lay (xkd E r) o = some (.inl (ci, fs))) (hc : vwCl[ci]? = some (C, T, N)) (k : Nat) (hk : k < N) (hlink : (Cond.fieldLink own index ref (T k).2.1 (T k).2.2.1).before args s = true) (hsame : ∀ x, s.fieldFound? (T k).1 (T k).2.1 (T k).2.2.1 = some x → s.fieldFound? ref (T k).2.1 (T k).2.2.1 = some x) (hfin : (T k).2.2.2 = false) {ty : FieldType} {x : Int32} (hd : parseFieldDescriptor (T k).2.2.1 = some ty) (hf : fs[k]? = some (.inl ty)) (hn : narrow ty (.int x) = .int x) (hfit : fits ty (.int x) = true)
    {τ' : xT} {σ' : xS} (hτ : σ r = τ) (hτ' : τ' = u2 τ o k x) (he : uR σ r τ' = σ') (hdg : decode cc pc = .ok (.putfield index, 3)) (kk : ∀ (H1 : Heap) (locs1 : List Loc), XW E σ' ρ s H1 → va_S (xA E) H0 H1 locs1 → W p l e R s m args below meth c H1 locs1 cells slots Q (F0 m (pc + 3) ls rest)) : W p l e R s m args below meth c H locs cells slots Q (F0 m pc ls (.int x :: .ref (xad E r o) :: rest)) := by
  have hK := hX.1
  have hap := va_apart (own := own) hts hin ty0 hty hnm hK hc
  obtain ⟨⟨c1, h1, hlen, cell, q1, q2, q3, q4⟩, hft⟩ := hX.2.1 r o _ hl
  cases h1.symm.trans hc
  obtain ⟨hS, hfc, kC, hkC, hkind⟩ := hK.1 ci _ hc
  obtain ⟨cf, kf, fi, f, hi, hsl⟩ := hS k hk
  have hlay := hts _ (hin _ (u_in_lay hk))
  unfold u_lay at hlay
  rw [if_neg (by rw [hfin]; decide)] at hlay
  have hst := (u_facts hfc hkC (u_lays hts hin hk) hi).1
  have h6 := u_store hfc hkC hkind hlay hi hd hn hfit
  refine W.putK hx hb (f := f) ⟨hown, hlink, ⟨_, _, _, hsame _ hi⟩, hst⟩ (by rw [q2]; exact h6) q1 q3 (by rw [hsl]; exact k2_hasslot (q4 k hk)) rfl rfl hdg fun H' e1 e2 e3 => ?_
  rw [hsl] at e1 ⊢
  subst hτ'
  subst he
  refine kk H' _ (XW_put hX hl ⟨⟨_, hc, hlen, t_OB.to (V := updV (fun j => xfo E r fs[j]? (σ r o j) (ρ r o j)) k (.int x)) ⟨_, e1, q2, q3, t_set q4 hap hk (.int x)⟩ (fun j _ => ?_)⟩, fun j tj hj => ?_⟩ (fun r' o' hz => ⟨uR_o hτ r' o' hz, rfl⟩) e3) (hS0.put e2 e3 (hX.2.2.1.2 r o _ hl))
  · show (if j = k then Value.int x else xfo E r fs[j]? (σ r o j) (ρ r o j)) = xfo E r fs[j]? ((uR σ r (u2 τ o k x)) r o j) (ρ r o j)
    rw [uR_s]
    by_cases hj : j = k
    · subst hj
      rw [if_pos rfl, u2_s, hf]
      rfl
    · rw [if_neg hj, u2_k hj, hτ]
  · show fits tj (.int ((uR σ r (u2 τ o k x)) r o j)) = true
    rw [uR_s]
    by_cases hjk : j = k
    · subst hjk
      cases hf.symm.trans hj
      rw [u2_s]
      exact hfit
    · rw [u2_k hjk, ← hτ]
      exact hft j tj hj
theorem uP_s {r o k : Nat} {q : Nat × Nat} : (uP ρ r o k q) r o k = q := if_pos ⟨rfl, rfl, rfl⟩
theorem uP_k {r o k k' : Nat} {q : Nat × Nat} (h : k' ≠ k) : (uP ρ r o k q) r o k' = ρ r o k' := if_neg (fun z => h z.2.2)
theorem x_putR (hx : p.tables.exec = Jvm.exec) (hb : c.code = cc) {own ref C : String} {T : u_T} {N ci index : Nat} {fs : List xF} {Ts : List Cond} (hts : ∀ w ∈ Ts, w.before args s = true) (hin : ∀ w ∈ u_ws C T N, w ∈ Ts) (ty0 : Nat → FieldType) (hty : ∀ k, k < N → parseFieldDescriptor (T k).2.2.1 = some (ty0 k)) (hnm : ∀ a, a < N → ∀ b, b < N → a ≠ b → (T a).2.1 ≠ (T b).2.1) (hown : s.vm.findClass own = some m.cls) (hX : XW E σ ρ s H) (hS0 : va_S (xA E) H0 H locs) (hl : lay (xkd E r) o = some (.inl (ci, fs))) (hc : vwCl[ci]? = some (C, T, N)) (k : Nat) (hk : k < N) (hlink : (Cond.fieldLink own index ref (T k).2.1 (T k).2.2.1).before args s = true) (hsame : ∀ x, s.fieldFound? (T k).1 (T k).2.1 (T k).2.2.1 = some x → s.fieldFound? ref (T k).2.1 (T k).2.2.1 = some x) (hfin : (T k).2.2.2 = false) {ty : FieldType} {q : Nat × Nat} (hd : parseFieldDescriptor (T k).2.2.1 = some ty) (hf : fs[k]? = some (.inr none)) (hn : narrow ty (.ref (xad E q.1 q.2)) = .ref (xad E q.1 q.2)) (hfit : fits ty (.ref (xad E q.1 q.2)) = true)
    {ρ' : xP} (hq2 : q.2 ≠ 77777) (hρ' : ρ' = uP ρ r o k q) (hdg : decode cc pc = .ok (.putfield index, 3)) (kk : ∀ (H1 : Heap) (locs1 : List Loc), XW E σ ρ' s H1 → va_S (xA E) H0 H1 locs1 → W p l e R s m args below meth c H1 locs1 cells slots Q (F0 m (pc + 3) ls rest)) : W p l e R s m args below meth c H locs cells slots Q (F0 m pc ls (.ref (xad E q.1 q.2) :: .ref (xad E r o) :: rest)) := by
  have hK := hX.1
  have hap := va_apart (own := own) hts hin ty0 hty hnm hK hc
  obtain ⟨⟨c1, h1, hlen, cell, q1, q2, q3, q4⟩, hft⟩ := hX.2.1 r o _ hl
  cases h1.symm.trans hc
  obtain ⟨hS, hfc, kC, hkC, hkind⟩ := hK.1 ci _ hc
  obtain ⟨cf, kf, fi, f, hi, hsl⟩ := hS k hk
  have hlay := hts _ (hin _ (u_in_lay hk))
  unfold u_lay at hlay
  rw [if_neg (by rw [hfin]; decide)] at hlay
  have hst := (u_facts hfc hkC (u_lays hts hin hk) hi).1
  have h6 := u_store hfc hkC hkind hlay hi hd hn hfit
  refine W.putK hx hb (f := f) ⟨hown, hlink, ⟨_, _, _, hsame _ hi⟩, hst⟩ (by rw [q2]; exact h6) q1 q3 (by rw [hsl]; exact k2_hasslot (q4 k hk)) rfl rfl hdg fun H' e1 e2 e3 => ?_
  rw [hsl] at e1 ⊢
  subst hρ'
  refine kk H' _ (XW_put hX hl ⟨⟨_, hc, hlen, t_OB.to (V := updV (fun j => xfo E r fs[j]? (σ r o j) (ρ r o j)) k (.ref (xad E q.1 q.2))) ⟨_, e1, q2, q3, t_set q4 hap hk (.ref (xad E q.1 q.2))⟩ (fun j _ => ?_)⟩, hft⟩ (fun r' o' hz => ⟨rfl, by funext k'; exact if_neg (fun z => hz ⟨z.1, z.2.1⟩)⟩) e3) (hS0.put e2 e3 (hX.2.2.1.2 r o _ hl))
  show (if j = k then Value.ref (xad E q.1 q.2) else xfo E r fs[j]? (σ r o j) (ρ r o j)) = xfo E r fs[j]? (σ r o j) ((uP ρ r o k q) r o j)
  by_cases hj : j = k
  · subst hj
    rw [if_pos rfl, uP_s, hf]
    exact (if_neg hq2).symm
  · rw [if_neg hj, uP_k hj]
theorem x_idx {i : Int32} {n : Nat} {cell : Cell} (hin : vp_in i n) (h4 : n ≤ cell.slots.size) : ¬ (i < 0 ∨ cell.slots.size ≤ i.toNatClampNeg) ∧ i.toNatClampNeg < n := by
  have hlt : i.toNatClampNeg < n := Nat.not_le.mp fun q => hin (Or.inr q)
  refine ⟨fun q => ?_, hlt⟩
  rcases q with q | q
  · exact hin (Or.inl q)
  · omega
theorem x_iald (hx : p.tables.exec = Jvm.exec) (hb : c.code = cc) (hX : XW E σ ρ s H) {n : Nat} (hl : lay (xkd E r) o = some (.inr (.inl (.int, n)))) (hτ : σ r = τ) {i : Int32} (hin : vp_in i n) (hdg : decode cc pc = .ok (.iaload, 1))
    (kk : W p l e R s m args below meth c H locs cells slots Q (F0 m (pc + 1) ls (.int (τ o i.toNatClampNeg) :: rest))) : W p l e R s m args below meth c H locs cells slots Q (F0 m pc ls (.int i :: .ref (xad E r o) :: rest)) := by
  obtain ⟨cell, h1, h2, h3, h4, h5, h6⟩ := hX.2.1 r o _ hl
  obtain ⟨g1, g2⟩ := x_idx hin h4
  exact W.iald hx hb h1 h2 h3 g1 (by rw [← hτ]; exact (h6 _ g2).1) rfl rfl hdg kk
theorem x_bald (hx : p.tables.exec = Jvm.exec) (hb : c.code = cc) (hX : XW E σ ρ s H) {n : Nat} (hl : lay (xkd E r) o = some (.inr (.inl (.byte, n)))) (hτ : σ r = τ) {i : Int32} (hin : vp_in i n) (hdg : decode cc pc = .ok (.baload, 1))
    (kk : W p l e R s m args below meth c H locs cells slots Q (F0 m (pc + 1) ls (.int (τ o i.toNatClampNeg) :: rest))) : W p l e R s m args below meth c H locs cells slots Q (F0 m pc ls (.int i :: .ref (xad E r o) :: rest)) := by
  obtain ⟨cell, h1, h2, h3, h4, h5, h6⟩ := hX.2.1 r o _ hl
  obtain ⟨g1, g2⟩ := x_idx hin h4
  exact W.bald hx hb h1 h2 h3 g1 (by rw [← hτ]; exact (h6 _ g2).1) rfl rfl hdg kk
theorem x_zald (hx : p.tables.exec = Jvm.exec) (hb : c.code = cc) (hX : XW E σ ρ s H) {n : Nat} (hl : lay (xkd E r) o = some (.inr (.inl (.boolean, n)))) (hτ : σ r = τ) {i : Int32} (hin : vp_in i n) (hdg : decode cc pc = .ok (.baload, 1))
    (kk : xB (τ o i.toNatClampNeg) → W p l e R s m args below meth c H locs cells slots Q (F0 m (pc + 1) ls (.int (τ o i.toNatClampNeg) :: rest))) : W p l e R s m args below meth c H locs cells slots Q (F0 m pc ls (.int i :: .ref (xad E r o) :: rest)) := by
  obtain ⟨cell, h1, h2, h3, h4, h5, h6⟩ := hX.2.1 r o _ hl
  obtain ⟨g1, g2⟩ := x_idx hin h4
  exact W.zald hx hb h1 h2 h3 g1 (by rw [← hτ]; exact (h6 _ g2).1) rfl rfl hdg (kk (by rw [← hτ]; exact xB_of (h6 _ g2).2))
theorem x_alen (hx : p.tables.exec = Jvm.exec) (hb : c.code = cc) (hX : XW E σ ρ s H) {ty : FieldType} {n : Nat} (hl : lay (xkd E r) o = some (.inr (.inl (ty, n)))) {v : Int32} (hv : Int32.ofNat n = v) (hdg : decode cc pc = .ok (.arraylength, 1))
    (kk : W p l e R s m args below meth c H locs cells slots Q (F0 m (pc + 1) ls (.int v :: rest))) : W p l e R s m args below meth c H locs cells slots Q (F0 m pc ls (.ref (xad E r o) :: rest)) := by
  obtain ⟨cell, h1, h2, h3, h4, h5, h6⟩ := hX.2.1 r o _ hl
  exact W.alen hx hb h1 h2 (h5.trans hv) rfl rfl hdg kk
theorem x_aput {ty : FieldType} {n : Nat} {cell : Cell} {f : Nat → Int32} {i x : Int32} (hin : vp_in i n) (h4 : n ≤ cell.slots.size) (h6 : ∀ j : Nat, j < n → cell.slots[j]? = some (xav ty (f j)) ∧ fits ty (xav ty (f j)) = true) (hfx : fits ty (xav ty x) = true) :
    n ≤ (cell.setSlot i.toNatClampNeg (xav ty x)).slots.size ∧ (cell.setSlot i.toNatClampNeg (xav ty x)).slots.size = cell.slots.size ∧ ∀ j : Nat, j < n → (cell.setSlot i.toNatClampNeg (xav ty x)).slots[j]? = some (xav ty (upd f i.toNatClampNeg x j)) ∧ fits ty (xav ty (upd f i.toNatClampNeg x j)) = true := by
  obtain ⟨g1, g2⟩ := x_idx hin h4
  have hsz : (cell.setSlot i.toNatClampNeg (xav ty x)).slots.size = cell.slots.size := by simp [Cell.setSlot]
  refine ⟨by rw [hsz]; exact h4, hsz, fun j hj => ?_⟩
  by_cases hij : j = i.toNatClampNeg
  · subst hij
    have e1 : upd f i.toNatClampNeg x i.toNatClampNeg = x := if_pos rfl
    rw [e1]
    refine ⟨?_, hfx⟩
    have : i.toNatClampNeg < cell.slots.size := by omega
    simp [Cell.setSlot, this]
  · have e1 : upd f i.toNatClampNeg x j = f j := if_neg hij
    rw [e1]
    refine ⟨?_, (h6 j hj).2⟩
    rw [← (h6 j hj).1]
    simp [Cell.setSlot, Array.getElem?_setIfInBounds, Ne.symm hij]
theorem x_iast (hx : p.tables.exec = Jvm.exec) (hb : c.code = cc) (hX : XW E σ ρ s H) (hS0 : va_S (xA E) H0 H locs) {n : Nat} (hl : lay (xkd E r) o = some (.inr (.inl (.int, n)))) {i x : Int32} (hin : vp_in i n) {τ' : xT} {σ' : xS} (hτ : σ r = τ) (hτ' : τ' = u2 τ o i.toNatClampNeg x) (he : uR σ r τ' = σ') (hdg : decode cc pc = .ok (.iastore, 1))
    (kk : ∀ (H1 : Heap) (locs1 : List Loc), XW E σ' ρ s H1 → va_S (xA E) H0 H1 locs1 → W p l e R s m args below meth c H1 locs1 cells slots Q (F0 m (pc + 1) ls rest)) : W p l e R s m args below meth c H locs cells slots Q (F0 m pc ls (.int x :: .int i :: .ref (xad E r o) :: rest)) := by
  obtain ⟨cell, h1, h2, h3, h4, h5, h6⟩ := hX.2.1 r o _ hl
  obtain ⟨g1, g2⟩ := x_idx hin h4
  refine W.iast hx hb h1 h2 h3 g1 rfl rfl hdg fun H1 e1 z oq => ?_
  subst hτ'
  subst he
  obtain ⟨k1, k2, k3⟩ := x_aput (ty := .int) (x := x) hin h4 h6 rfl
  refine kk H1 _ (XW_put hX hl ⟨_, e1, h2, h3, k1, by rw [← h5]; exact congrArg Nat.toInt32 k2, ?_⟩ (fun r' o' hz => ⟨uR_o hτ r' o' hz, rfl⟩) oq) (hS0.put z oq (hX.2.2.1.2 r o _ hl))
  rw [uR_s]
  unfold u2
  rw [u1_s, ← hτ]
  exact k3
theorem x_zast (hx : p.tables.exec = Jvm.exec) (hb : c.code = cc) (hX : XW E σ ρ s H) (hS0 : va_S (xA E) H0 H locs) {n : Nat} (hl : lay (xkd E r) o = some (.inr (.inl (.boolean, n)))) {i x : Int32} (hB : xB x) (hin : vp_in i n) {τ' : xT} {σ' : xS} (hτ : σ r = τ) (hτ' : τ' = u2 τ o i.toNatClampNeg x) (he : uR σ r τ' = σ') (hdg : decode cc pc = .ok (.bastore, 1))
    (kk : ∀ (H1 : Heap) (locs1 : List Loc), XW E σ' ρ s H1 → va_S (xA E) H0 H1 locs1 → W p l e R s m args below meth c H1 locs1 cells slots Q (F0 m (pc + 1) ls rest)) : W p l e R s m args below meth c H locs cells slots Q (F0 m pc ls (.int x :: .int i :: .ref (xad E r o) :: rest)) := by
  obtain ⟨cell, h1, h2, h3, h4, h5, h6⟩ := hX.2.1 r o _ hl
  obtain ⟨g1, g2⟩ := x_idx hin h4
  refine W.zast hx hb h1 h2 h3 g1 rfl rfl hdg fun H1 e1 z oq => ?_
  rw [xB_n hB] at e1
  subst hτ'
  subst he
  obtain ⟨k1, k2, k3⟩ := x_aput (ty := .boolean) (x := x) hin h4 h6 (xB_f hB)
  refine kk H1 _ (XW_put hX hl ⟨_, e1, h2, h3, k1, by rw [← h5]; exact congrArg Nat.toInt32 k2, ?_⟩ (fun r' o' hz => ⟨uR_o hτ r' o' hz, rfl⟩) oq) (hS0.put z oq (hX.2.2.1.2 r o _ hl))
  rw [uR_s]
  unfold u2
  rw [u1_s, ← hτ]
  exact k3
theorem x_b8 (x : Int32) : fits .byte (.int x.toInt8.toInt32) = true := pk_fb x
theorem x_bast (hx : p.tables.exec = Jvm.exec) (hb : c.code = cc) (hX : XW E σ ρ s H) (hS0 : va_S (xA E) H0 H locs) {n : Nat} (hl : lay (xkd E r) o = some (.inr (.inl (.byte, n)))) {i x : Int32} (hin : vp_in i n) {τ' : xT} {σ' : xS} (hτ : σ r = τ) (hτ' : τ' = u2 τ o i.toNatClampNeg x.toInt8.toInt32) (he : uR σ r τ' = σ') (hdg : decode cc pc = .ok (.bastore, 1))
    (kk : ∀ (H1 : Heap) (locs1 : List Loc), XW E σ' ρ s H1 → va_S (xA E) H0 H1 locs1 → W p l e R s m args below meth c H1 locs1 cells slots Q (F0 m (pc + 1) ls rest)) : W p l e R s m args below meth c H locs cells slots Q (F0 m pc ls (.int x :: .int i :: .ref (xad E r o) :: rest)) := by
  obtain ⟨cell, h1, h2, h3, h4, h5, h6⟩ := hX.2.1 r o _ hl
  obtain ⟨g1, g2⟩ := x_idx hin h4
  refine W.bast hx hb h1 h2 h3 g1 rfl rfl hdg fun H1 e1 z oq => ?_
  subst hτ'
  subst he
  obtain ⟨k1, k2, k3⟩ := x_aput (ty := .byte) (x := x.toInt8.toInt32) hin h4 h6 (x_b8 x)
  refine kk H1 _ (XW_put hX hl ⟨_, e1, h2, h3, k1, by rw [← h5]; exact congrArg Nat.toInt32 k2, ?_⟩ (fun r' o' hz => ⟨uR_o hτ r' o' hz, rfl⟩) oq) (hS0.put z oq (hX.2.2.1.2 r o _ hl))
  rw [uR_s]
  unfold u2
  rw [u1_s, ← hτ]
  exact k3
end XR
