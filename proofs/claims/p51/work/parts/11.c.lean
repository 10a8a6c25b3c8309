def rmE (d b : Nat) : Room := { frames := d, cells := b, slots := 6 * b, locals := 28 * d }
abbrev rmD (d : Nat) : Room := rmE d 0
def YPc (E : xE) (av : List Value) (S : xSt) : Array Value → State → Prop := va_Pc av (fun U => YW E S U U.heap)
theorem YPc_blind {E : xE} {av : List Value} {S : xSt} : FrameBlind (YPc E av S) := fun a U g mk q => ⟨q.1, YW_same (u := U) rfl q.2⟩
theorem YPreV {E : xE} {S : xSt} {s : State} {H : Heap} {r o ci : Nat} {fs : List xF} {C : String} {T : u_T} {N : Nat} {As : List Value} (hY : YW E S s H) (hl : lay (xkd E r) o = some (.inl (ci, fs))) (hc : vwCl[ci]? = some (C, T, N)) : PreV s H C (xad E r o) (YPc E (.ref (xad E r o) :: As) S) As :=
  ⟨YPc_blind, XW_recv hY.1 hl hc, fun U hU hW => ⟨rfl, (show YW E S U U.heap by rw [hU]; exact YW_warm hW hY)⟩⟩
theorem YPreT {E : xE} {S : xSt} {s : State} {H : Heap} {q : Nat} {As : List Value} (hY : YW E S s H) (hq : q < xldc.length) : PreV s H "java/lang/String" (xaK E q) (YPc E (.ref (xaK E q) :: As) S) As := by
  refine ⟨YPc_blind, ?_, fun U hU hW => ⟨rfl, (show YW E S U U.heap by rw [hU]; exact YW_warm hW hY)⟩⟩
  obtain ⟨cell, h1, h2, h3, h4⟩ := (hY.1.2.2.2.1.2.2 q _ (List.getElem?_eq_getElem hq)).1
  exact ⟨cell, h1, h2, h3⟩
theorem YPreS {E : xE} {S : xSt} {s : State} {H : Heap} {As : List Value} (hY : YW E S s H) : PreS s H (YPc E As S) As := ⟨YPc_blind, fun U hU hW => ⟨rfl, (show YW E S U U.heap by rw [hU]; exact YW_warm hW hY)⟩⟩
theorem good_all {L : List Cond} (h : ∀ w ∈ L, w ∈ xw) : GoodIn xw L := fun w hw => xw_good w (h w hw)
/-- what is said of a method once -/
def mI (y : MethodName) (C : String) (bytes : ByteArray) (maxL : Nat) (ret : Option FieldType) (na : Nat) : Prop := (Cond.instanceMethod y ∈ xw ∧ Cond.selects C y y ∈ xw ∧ Cond.initialized C ∈ xw ∧ Cond.code y bytes maxL ret ∈ xw) ∧ (y.cls = C ∧ y.cls ≠ "java/lang/invoke/MethodHandle" ∧ y.cls ≠ "java/lang/invoke/VarHandle" ∧ (parseMethodDescriptor y.desc).map (fun d => d.parameters.length) = some na) ∧ maxL ≤ 9
def mS (y : MethodName) (bytes : ByteArray) (maxL : Nat) (ret : Option FieldType) (na : Nat) : Prop := (Cond.static y ∈ xw ∧ Cond.initialized y.cls ∈ xw ∧ Cond.code y bytes maxL ret ∈ xw) ∧ (y.cls ≠ "java/lang/invoke/MethodHandle" ∧ y.cls ≠ "java/lang/invoke/VarHandle" ∧ (parseMethodDescriptor y.desc).map (fun d => d.parameters.length) = some na) ∧ maxL ≤ 9
/-- the words of a contract: its own code's, and all that there are -/
abbrev xws (y : MethodName) (bytes : ByteArray) (maxL : Nat) (ret : Option FieldType) : List Cond := Cond.code y bytes maxL ret :: xw
theorem rm_ok {d' d maxL b : Nat} (h : d' + 1 ≤ d) (hm : maxL ≤ 9) : (rmD d').frames + 1 ≤ (rmE d b).frames ∧ 8 + (maxL + 11) + (rmD d').locals ≤ (rmE d b).locals := by
  refine ⟨h, ?_⟩
  show 8 + (maxL + 11) + 28 * d' ≤ 28 * d
  omega
theorem cw_V {R : Room} {s : State} {args : Array Value} {own C : String} {y : MethodName} {bytes : ByteArray} {maxL : Nat} {ret : Option FieldType} {na idx d d' b : Nat} (hts : ∀ w ∈ xw, w.before args s = true) (hy : mI y C bytes maxL ret na) (hlink : Cond.methodLink own idx y ∈ xw) (hR : d' + 1 ≤ d) (hr : R = rmE d b) : CallW R s args own C idx y bytes maxL ret (xws y bytes maxL ret) (rmD d') 0 0 na := by
  subst hr
  refine cwV na hts (good_all fun w hw => ?_) rfl rfl rfl hy.2.1 (rm_ok hR hy.2.2)
  rcases List.mem_append.mp hw with h | h
  · simp only [List.mem_cons, List.not_mem_nil, or_false] at h
    rcases h with rfl | rfl | rfl | rfl
    · exact hlink
    · exact hy.1.1
    · exact hy.1.2.1
    · exact hy.1.2.2.1
  · rcases List.mem_cons.mp h with rfl | h
    · exact hy.1.2.2.2
    · exact h
theorem cw_S {R : Room} {s : State} {args : Array Value} {own : String} {y : MethodName} {bytes : ByteArray} {maxL : Nat} {ret : Option FieldType} {na idx d d' b : Nat} (hts : ∀ w ∈ xw, w.before args s = true) (hy : mS y bytes maxL ret na) (hlink : Cond.methodLink own idx y ∈ xw) (hR : d' + 1 ≤ d) (hr : R = rmE d b) : CallB R s args own idx y bytes maxL ret (xws y bytes maxL ret) (rmD d') 0 0 na ∧ (Cond.static y).before args s = true := by
  subst hr
  refine ⟨callB_of na hts (good_all fun w hw => ?_) rfl rfl rfl (hts _ hy.1.2.1) (hts _ hlink) hy.2.1 (rm_ok hR hy.2.2), hts _ hy.1.1⟩
  rcases List.mem_cons.mp hw with rfl | h
  · exact hy.1.2.2
  · exact h
theorem cw_N {E : xE} {U : State} {R : Room} {s : State} {args : Array Value} {own host : String} {y : MethodName} {bytes : ByteArray} {maxL : Nat} {ret : Option FieldType} {na idx d d' b : Nat} (hts : ∀ w ∈ xw, w.before args s = true) (hX : XTab E s) (hy : mS y bytes maxL ret na) (hlink : (own, idx, y, host) ∈ xnm) (hR : d' + 1 ≤ d) (hr : R = rmE d b) : va_CN R s args own idx y host bytes maxL ret (xws y bytes maxL ret) (rmD d') 0 0 na ∧ (Cond.static y).before args s = true ∧ True := by
  subst hr
  refine ⟨va_cnB na hts (good_all fun w hw => ?_) rfl rfl rfl (hX.2.2.1 _ hlink) (hts _ hy.1.2.1) hy.2.1 (rm_ok hR hy.2.2), hts _ hy.1.1, trivial⟩
  rcases List.mem_cons.mp hw with rfl | h
  · exact hy.1.2.2
  · exact h

def YQi (E : xE) (v : Int) (S : xSt) : Array Value → State → Outcome → State → Prop := va_Qi (fun r (_ : Unit) => r = Int32.ofInt v) (fun _ t => YW E S t t.heap) (xA E)
def YQz (E : xE) (v : Int) (S : xSt) : Array Value → State → Outcome → State → Prop := va_Qi (fun r (_ : Unit) => r = Int32.ofInt v ∧ (v = 0 ∨ v = 1)) (fun _ t => YW E S t t.heap) (xA E)
def YQc (E : xE) (v : Int) (S : xSt) : Array Value → State → Outcome → State → Prop := va_Qi (fun r (_ : Unit) => r = Int32.ofInt v ∧ narrow .char (vi v) = vi v) (fun _ t => YW E S t t.heap) (xA E)
def YQb (E : xE) (v : Int) (S : xSt) : Array Value → State → Outcome → State → Prop := va_Qi (fun r (_ : Unit) => r = Int32.ofInt v ∧ narrow .byte (vi v) = vi v) (fun _ t => YW E S t t.heap) (xA E)
def YQv (E : xE)  (S : xSt) : Array Value → State → Outcome → State → Prop := va_Qv (fun (_ : Unit) => True) (fun _ t => YW E S t t.heap) (xA E)
def YQd (E : xE) (v : UInt64) (S : xSt) : Array Value → State → Outcome → State → Prop := va_Qd (fun r (_ : Unit) => r = v) (fun _ t => YW E S t t.heap) (xA E)
def YQf (E : xE) (v : UInt32) (S : xSt) : Array Value → State → Outcome → State → Prop := va_Qf (fun r (_ : Unit) => r = v) (fun _ t => YW E S t t.heap) (xA E)
def YQa (E : xE) (v : Nat) (S : xSt) : Array Value → State → Outcome → State → Prop := va_Qr (fun (_ : Unit) => v < xldc.length) (fun _ a t => a = xaK E v ∧ YW E S t t.heap) (xA E)
/-- nothing new so far -/
def xZ (K : xCtx) : Prop := match K with
  | (p, l, e, R, s, m, args, below, meth, c, nL, cl, sl, Q) => cl = 0 ∧ sl = 0
theorem xz {p : Program} {l : Launch} {e : Env} {R : Room} {s : State} {m : MethodId} {args : Array Value} {below : List Frame} {meth : Method} {c : Code} {nL cl sl : Nat} {Q : State → Prop} (h : xZ (p, l, e, R, s, m, args, below, meth, c, nL, cl, sl, Q)) : cl + 0 ≤ R.cells ∧ sl + 0 ≤ R.slots := by
  obtain ⟨rfl, rfl⟩ := h
  exact ⟨Nat.zero_le _, Nat.zero_le _⟩
section GC
variable {K : xCtx} {E : xE} {cc : ByteArray} {own : String} {n d0 : Nat} {pc : Nat} {lv : List (Nat × Value)} {st : List Value} {S : xSt} {r o κ : Nat}

theorem g_callVi {b : Nat} (hC : xOK K cc own n (rmE d0 b)) (hC0 : xZ K) (hk : xkd E r = κ) {ci : Nat} {C : String} {T : u_T} {N : Nat} {ty : Nat → FieldType} (hc : xCl ci C T N ty) {fs : List xF} (hl0 : lay κ o = some (.inl (ci, fs))) {y : MethodName} {bytes : ByteArray} {maxL na idx d' : Nat} (hy : mI y C bytes maxL (some .int) na) (hlink : Cond.methodLink own idx y ∈ xw) (hR : d' + 1 ≤ d0) (As : List Value) {st0 : List Value} (hst : st0 = As.reverse ++ vr E r o :: st) {v : Int} {S1 : xSt} (hM : ∀ l, Met l y (xws y bytes maxL (some .int)) (rmD d') (YPc E (vr E r o :: As) S) (YQi E v S1) 0 0 (xA E)) (hn : As.length = na) (hcat : (st.map fun v => v.category).sum ≤ 8) {pc' : Nat} (hp : pc + 3 = pc') (d : decode cc pc = .ok (.invokevirtual idx, 3))
    (k : WG K E pc' lv (vi v :: st) S1) : WG K E pc lv st0 S := by
  subst hp
  obtain ⟨p, l, e, R, s, m, args, below, meth, c, nL, cl, sl, Q⟩ := K
  obtain ⟨hx, hb, hml, hown, hts, hlk, rfl, hRR⟩ := hC
  intro H locs ls hY hS hl
  subst hst
  exact va_calli (va_runV (As := As) (rest := st) ⟨hx, hb, hml, hown, hts⟩ (hM l) (cw_V hts hy hlink hR hRR) (YPreV hY (by rw [hk]; exact hl0) hc.1) rfl hn hl.1 rfl (lv_room hcat) d (xz hC0)) hS (fun q _ h => h) (fun q h => h) (fun r9 u t H1 locs1 ht hvm hw hB _ _ hS1 => by subst hw; subst ht; exact k _ locs1 ls (YW_back hY hvm hB) hS1 hl)
theorem g_callTi {b : Nat} (hC : xOK K cc own n (rmE d0 b)) (hC0 : xZ K) {q : Nat} (hq : q < xldc.length) {y : MethodName} {bytes : ByteArray} {maxL na idx d' : Nat} (hy : mI y "java/lang/String" bytes maxL (some .int) na) (hlink : Cond.methodLink own idx y ∈ xw) (hR : d' + 1 ≤ d0) (As : List Value) {st0 : List Value} (hst : st0 = As.reverse ++ vs E q :: st) {v : Int} {S1 : xSt} (hM : ∀ l, Met l y (xws y bytes maxL (some .int)) (rmD d') (YPc E (vs E q :: As) S) (YQi E v S1) 0 0 (xA E)) (hn : As.length = na) (hcat : (st.map fun v => v.category).sum ≤ 8) {pc' : Nat} (hp : pc + 3 = pc') (d : decode cc pc = .ok (.invokevirtual idx, 3))
    (k : WG K E pc' lv (vi v :: st) S1) : WG K E pc lv st0 S := by
  subst hp
  obtain ⟨p, l, e, R, s, m, args, below, meth, c, nL, cl, sl, Q⟩ := K
  obtain ⟨hx, hb, hml, hown, hts, hlk, rfl, hRR⟩ := hC
  intro H locs ls hY hS hl
  subst hst
  exact va_calli (va_runV (As := As) (rest := st) ⟨hx, hb, hml, hown, hts⟩ (hM l) (cw_V hts hy hlink hR hRR) (YPreT hY hq) rfl hn hl.1 rfl (lv_room hcat) d (xz hC0)) hS (fun q _ h => h) (fun q h => h) (fun r9 u t H1 locs1 ht hvm hw hB _ _ hS1 => by subst hw; subst ht; exact k _ locs1 ls (YW_back hY hvm hB) hS1 hl)
theorem g_callSi {b : Nat} (hC : xOK K cc own n (rmE d0 b)) (hC0 : xZ K) {y : MethodName} {bytes : ByteArray} {maxL na idx d' : Nat} (hy : mS y bytes maxL (some .int) na) (hlink : Cond.methodLink own idx y ∈ xw) (hR : d' + 1 ≤ d0) (As : List Value) {st0 : List Value} (hst : st0 = As.reverse ++ st) {v : Int} {S1 : xSt} (hM : ∀ l, Met l y (xws y bytes maxL (some .int)) (rmD d') (YPc E As S) (YQi E v S1) 0 0 (xA E)) (hn : As.length = na) (hcat : (st.map fun v => v.category).sum ≤ 8) {pc' : Nat} (hp : pc + 3 = pc') (d : decode cc pc = .ok (.invokestatic idx, 3))
    (k : WG K E pc' lv (vi v :: st) S1) : WG K E pc lv st0 S := by
  subst hp
  obtain ⟨p, l, e, R, s, m, args, below, meth, c, nL, cl, sl, Q⟩ := K
  obtain ⟨hx, hb, hml, hown, hts, hlk, rfl, hRR⟩ := hC
  intro H locs ls hY hS hl
  subst hst
  exact va_calli (va_runS (As := As) (rest := st) ⟨hx, hb, hml, hown, hts⟩ (hM l) (cw_S hts hy hlink hR hRR) (YPreS hY) rfl hn hl.1 rfl (lv_room hcat) d (xz hC0)) hS (fun q _ h => h) (fun q h => h) (fun r9 u t H1 locs1 ht hvm hw hB _ _ hS1 => by subst hw; subst ht; exact k _ locs1 ls (YW_back hY hvm hB) hS1 hl)
theorem g_callNi {b : Nat} (hC : xOK K cc own n (rmE d0 b)) (hC0 : xZ K) {y : MethodName} {bytes : ByteArray} {maxL na idx d' : Nat} {host : String} (hy : mS y bytes maxL (some .int) na) (hlink : (own, idx, y, host) ∈ xnm) (hR : d' + 1 ≤ d0) (As : List Value) {st0 : List Value} (hst : st0 = As.reverse ++ st) {v : Int} {S1 : xSt} (hM : ∀ l, Met l y (xws y bytes maxL (some .int)) (rmD d') (YPc E As S) (YQi E v S1) 0 0 (xA E)) (hn : As.length = na) (hcat : (st.map fun v => v.category).sum ≤ 8) {pc' : Nat} (hp : pc + 3 = pc') (d : decode cc pc = .ok (.invokestatic idx, 3))
    (k : WG K E pc' lv (vi v :: st) S1) : WG K E pc lv st0 S := by
  subst hp
  obtain ⟨p, l, e, R, s, m, args, below, meth, c, nL, cl, sl, Q⟩ := K
  obtain ⟨hx, hb, hml, hown, hts, hlk, rfl, hRR⟩ := hC
  intro H locs ls hY hS hl
  subst hst
  exact va_calli (va_runSN (As := As) (rest := st) ⟨hx, hb, hml, hown, hts⟩ (hM l) (cw_N (U := s) hts hY.1.2.2.2.2 hy hlink hR hRR) (YPreS hY) rfl hn hl.1 rfl (lv_room hcat) d (xz hC0)) hS (fun q _ h => h) (fun q h => h) (fun r9 u t H1 locs1 ht hvm hw hB _ _ hS1 => by subst hw; subst ht; exact k _ locs1 ls (YW_back hY hvm hB) hS1 hl)
theorem g_callVz {b : Nat} (hC : xOK K cc own n (rmE d0 b)) (hC0 : xZ K) (hk : xkd E r = κ) {ci : Nat} {C : String} {T : u_T} {N : Nat} {ty : Nat → FieldType} (hc : xCl ci C T N ty) {fs : List xF} (hl0 : lay κ o = some (.inl (ci, fs))) {y : MethodName} {bytes : ByteArray} {maxL na idx d' : Nat} (hy : mI y C bytes maxL (some .boolean) na) (hlink : Cond.methodLink own idx y ∈ xw) (hR : d' + 1 ≤ d0) (As : List Value) {st0 : List Value} (hst : st0 = As.reverse ++ vr E r o :: st) {v : Int} {S1 : xSt} (hM : ∀ l, Met l y (xws y bytes maxL (some .boolean)) (rmD d') (YPc E (vr E r o :: As) S) (YQz E v S1) 0 0 (xA E)) (hn : As.length = na) (hcat : (st.map fun v => v.category).sum ≤ 8) {pc' : Nat} (hp : pc + 3 = pc') (d : decode cc pc = .ok (.invokevirtual idx, 3))
    (k : (v = 0 ∨ v = 1) → WG K E pc' lv (vi v :: st) S1) : WG K E pc lv st0 S := by
  subst hp
  obtain ⟨p, l, e, R, s, m, args, below, meth, c, nL, cl, sl, Q⟩ := K
  obtain ⟨hx, hb, hml, hown, hts, hlk, rfl, hRR⟩ := hC
  intro H locs ls hY hS hl
  subst hst
  exact va_calli (va_runV (As := As) (rest := st) ⟨hx, hb, hml, hown, hts⟩ (hM l) (cw_V hts hy hlink hR hRR) (YPreV hY (by rw [hk]; exact hl0) hc.1) rfl hn hl.1 rfl (lv_room hcat) d (xz hC0)) hS (fun q _ h => h) (fun q h => h) (fun r9 u t H1 locs1 ht hvm hw hB _ _ hS1 => by obtain ⟨hw, hb9⟩ := hw; subst hw; subst ht; exact k hb9 _ locs1 ls (YW_back hY hvm hB) hS1 hl)
theorem g_callTz {b : Nat} (hC : xOK K cc own n (rmE d0 b)) (hC0 : xZ K) {q : Nat} (hq : q < xldc.length) {y : MethodName} {bytes : ByteArray} {maxL na idx d' : Nat} (hy : mI y "java/lang/String" bytes maxL (some .boolean) na) (hlink : Cond.methodLink own idx y ∈ xw) (hR : d' + 1 ≤ d0) (As : List Value) {st0 : List Value} (hst : st0 = As.reverse ++ vs E q :: st) {v : Int} {S1 : xSt} (hM : ∀ l, Met l y (xws y bytes maxL (some .boolean)) (rmD d') (YPc E (vs E q :: As) S) (YQz E v S1) 0 0 (xA E)) (hn : As.length = na) (hcat : (st.map fun v => v.category).sum ≤ 8) {pc' : Nat} (hp : pc + 3 = pc') (d : decode cc pc = .ok (.invokevirtual idx, 3))
    (k : (v = 0 ∨ v = 1) → WG K E pc' lv (vi v :: st) S1) : WG K E pc lv st0 S := by
  subst hp
  obtain ⟨p, l, e, R, s, m, args, below, meth, c, nL, cl, sl, Q⟩ := K
  obtain ⟨hx, hb, hml, hown, hts, hlk, rfl, hRR⟩ := hC
  intro H locs ls hY hS hl
  subst hst
  exact va_calli (va_runV (As := As) (rest := st) ⟨hx, hb, hml, hown, hts⟩ (hM l) (cw_V hts hy hlink hR hRR) (YPreT hY hq) rfl hn hl.1 rfl (lv_room hcat) d (xz hC0)) hS (fun q _ h => h) (fun q h => h) (fun r9 u t H1 locs1 ht hvm hw hB _ _ hS1 => by obtain ⟨hw, hb9⟩ := hw; subst hw; subst ht; exact k hb9 _ locs1 ls (YW_back hY hvm hB) hS1 hl)
theorem g_callSz {b : Nat} (hC : xOK K cc own n (rmE d0 b)) (hC0 : xZ K) {y : MethodName} {bytes : ByteArray} {maxL na idx d' : Nat} (hy : mS y bytes maxL (some .boolean) na) (hlink : Cond.methodLink own idx y ∈ xw) (hR : d' + 1 ≤ d0) (As : List Value) {st0 : List Value} (hst : st0 = As.reverse ++ st) {v : Int} {S1 : xSt} (hM : ∀ l, Met l y (xws y bytes maxL (some .boolean)) (rmD d') (YPc E As S) (YQz E v S1) 0 0 (xA E)) (hn : As.length = na) (hcat : (st.map fun v => v.category).sum ≤ 8) {pc' : Nat} (hp : pc + 3 = pc') (d : decode cc pc = .ok (.invokestatic idx, 3))
    (k : (v = 0 ∨ v = 1) → WG K E pc' lv (vi v :: st) S1) : WG K E pc lv st0 S := by
  subst hp
  obtain ⟨p, l, e, R, s, m, args, below, meth, c, nL, cl, sl, Q⟩ := K
  obtain ⟨hx, hb, hml, hown, hts, hlk, rfl, hRR⟩ := hC
  intro H locs ls hY hS hl
  subst hst
  exact va_calli (va_runS (As := As) (rest := st) ⟨hx, hb, hml, hown, hts⟩ (hM l) (cw_S hts hy hlink hR hRR) (YPreS hY) rfl hn hl.1 rfl (lv_room hcat) d (xz hC0)) hS (fun q _ h => h) (fun q h => h) (fun r9 u t H1 locs1 ht hvm hw hB _ _ hS1 => by obtain ⟨hw, hb9⟩ := hw; subst hw; subst ht; exact k hb9 _ locs1 ls (YW_back hY hvm hB) hS1 hl)
theorem g_callNz {b : Nat} (hC : xOK K cc own n (rmE d0 b)) (hC0 : xZ K) {y : MethodName} {bytes : ByteArray} {maxL na idx d' : Nat} {host : String} (hy : mS y bytes maxL (some .boolean) na) (hlink : (own, idx, y, host) ∈ xnm) (hR : d' + 1 ≤ d0) (As : List Value) {st0 : List Value} (hst : st0 = As.reverse ++ st) {v : Int} {S1 : xSt} (hM : ∀ l, Met l y (xws y bytes maxL (some .boolean)) (rmD d') (YPc E As S) (YQz E v S1) 0 0 (xA E)) (hn : As.length = na) (hcat : (st.map fun v => v.category).sum ≤ 8) {pc' : Nat} (hp : pc + 3 = pc') (d : decode cc pc = .ok (.invokestatic idx, 3))
    (k : (v = 0 ∨ v = 1) → WG K E pc' lv (vi v :: st) S1) : WG K E pc lv st0 S := by
  subst hp
  obtain ⟨p, l, e, R, s, m, args, below, meth, c, nL, cl, sl, Q⟩ := K
  obtain ⟨hx, hb, hml, hown, hts, hlk, rfl, hRR⟩ := hC
  intro H locs ls hY hS hl
  subst hst
  exact va_calli (va_runSN (As := As) (rest := st) ⟨hx, hb, hml, hown, hts⟩ (hM l) (cw_N (U := s) hts hY.1.2.2.2.2 hy hlink hR hRR) (YPreS hY) rfl hn hl.1 rfl (lv_room hcat) d (xz hC0)) hS (fun q _ h => h) (fun q h => h) (fun r9 u t H1 locs1 ht hvm hw hB _ _ hS1 => by obtain ⟨hw, hb9⟩ := hw; subst hw; subst ht; exact k hb9 _ locs1 ls (YW_back hY hvm hB) hS1 hl)
theorem g_callVc {b : Nat} (hC : xOK K cc own n (rmE d0 b)) (hC0 : xZ K) (hk : xkd E r = κ) {ci : Nat} {C : String} {T : u_T} {N : Nat} {ty : Nat → FieldType} (hc : xCl ci C T N ty) {fs : List xF} (hl0 : lay κ o = some (.inl (ci, fs))) {y : MethodName} {bytes : ByteArray} {maxL na idx d' : Nat} (hy : mI y C bytes maxL (some .char) na) (hlink : Cond.methodLink own idx y ∈ xw) (hR : d' + 1 ≤ d0) (As : List Value) {st0 : List Value} (hst : st0 = As.reverse ++ vr E r o :: st) {v : Int} {S1 : xSt} (hM : ∀ l, Met l y (xws y bytes maxL (some .char)) (rmD d') (YPc E (vr E r o :: As) S) (YQc E v S1) 0 0 (xA E)) (hn : As.length = na) (hcat : (st.map fun v => v.category).sum ≤ 8) {pc' : Nat} (hp : pc + 3 = pc') (d : decode cc pc = .ok (.invokevirtual idx, 3))
    (k : narrow .char (vi v) = vi v → WG K E pc' lv (vi v :: st) S1) : WG K E pc lv st0 S := by
  subst hp
  obtain ⟨p, l, e, R, s, m, args, below, meth, c, nL, cl, sl, Q⟩ := K
  obtain ⟨hx, hb, hml, hown, hts, hlk, rfl, hRR⟩ := hC
  intro H locs ls hY hS hl
  subst hst
  exact va_calli (va_runV (As := As) (rest := st) ⟨hx, hb, hml, hown, hts⟩ (hM l) (cw_V hts hy hlink hR hRR) (YPreV hY (by rw [hk]; exact hl0) hc.1) rfl hn hl.1 rfl (lv_room hcat) d (xz hC0)) hS (fun q _ h => h) (fun q h => h) (fun r9 u t H1 locs1 ht hvm hw hB _ _ hS1 => by obtain ⟨hw, hb9⟩ := hw; subst hw; subst ht; exact k hb9 _ locs1 ls (YW_back hY hvm hB) hS1 hl)
theorem g_callTc {b : Nat} (hC : xOK K cc own n (rmE d0 b)) (hC0 : xZ K) {q : Nat} (hq : q < xldc.length) {y : MethodName} {bytes : ByteArray} {maxL na idx d' : Nat} (hy : mI y "java/lang/String" bytes maxL (some .char) na) (hlink : Cond.methodLink own idx y ∈ xw) (hR : d' + 1 ≤ d0) (As : List Value) {st0 : List Value} (hst : st0 = As.reverse ++ vs E q :: st) {v : Int} {S1 : xSt} (hM : ∀ l, Met l y (xws y bytes maxL (some .char)) (rmD d') (YPc E (vs E q :: As) S) (YQc E v S1) 0 0 (xA E)) (hn : As.length = na) (hcat : (st.map fun v => v.category).sum ≤ 8) {pc' : Nat} (hp : pc + 3 = pc') (d : decode cc pc = .ok (.invokevirtual idx, 3))
    (k : narrow .char (vi v) = vi v → WG K E pc' lv (vi v :: st) S1) : WG K E pc lv st0 S := by
  subst hp
  obtain ⟨p, l, e, R, s, m, args, below, meth, c, nL, cl, sl, Q⟩ := K
  obtain ⟨hx, hb, hml, hown, hts, hlk, rfl, hRR⟩ := hC
  intro H locs ls hY hS hl
  subst hst
  exact va_calli (va_runV (As := As) (rest := st) ⟨hx, hb, hml, hown, hts⟩ (hM l) (cw_V hts hy hlink hR hRR) (YPreT hY hq) rfl hn hl.1 rfl (lv_room hcat) d (xz hC0)) hS (fun q _ h => h) (fun q h => h) (fun r9 u t H1 locs1 ht hvm hw hB _ _ hS1 => by obtain ⟨hw, hb9⟩ := hw; subst hw; subst ht; exact k hb9 _ locs1 ls (YW_back hY hvm hB) hS1 hl)
theorem g_callSc {b : Nat} (hC : xOK K cc own n (rmE d0 b)) (hC0 : xZ K) {y : MethodName} {bytes : ByteArray} {maxL na idx d' : Nat} (hy : mS y bytes maxL (some .char) na) (hlink : Cond.methodLink own idx y ∈ xw) (hR : d' + 1 ≤ d0) (As : List Value) {st0 : List Value} (hst : st0 = As.reverse ++ st) {v : Int} {S1 : xSt} (hM : ∀ l, Met l y (xws y bytes maxL (some .char)) (rmD d') (YPc E As S) (YQc E v S1) 0 0 (xA E)) (hn : As.length = na) (hcat : (st.map fun v => v.category).sum ≤ 8) {pc' : Nat} (hp : pc + 3 = pc') (d : decode cc pc = .ok (.invokestatic idx, 3))
    (k : narrow .char (vi v) = vi v → WG K E pc' lv (vi v :: st) S1) : WG K E pc lv st0 S := by
  subst hp
  obtain ⟨p, l, e, R, s, m, args, below, meth, c, nL, cl, sl, Q⟩ := K
  obtain ⟨hx, hb, hml, hown, hts, hlk, rfl, hRR⟩ := hC
  intro H locs ls hY hS hl
  subst hst
  exact va_calli (va_runS (As := As) (rest := st) ⟨hx, hb, hml, hown, hts⟩ (hM l) (cw_S hts hy hlink hR hRR) (YPreS hY) rfl hn hl.1 rfl (lv_room hcat) d (xz hC0)) hS (fun q _ h => h) (fun q h => h) (fun r9 u t H1 locs1 ht hvm hw hB _ _ hS1 => by obtain ⟨hw, hb9⟩ := hw; subst hw; subst ht; exact k hb9 _ locs1 ls (YW_back hY hvm hB) hS1 hl)
theorem g_callNc {b : Nat} (hC : xOK K cc own n (rmE d0 b)) (hC0 : xZ K) {y : MethodName} {bytes : ByteArray} {maxL na idx d' : Nat} {host : String} (hy : mS y bytes maxL (some .char) na) (hlink : (own, idx, y, host) ∈ xnm) (hR : d' + 1 ≤ d0) (As : List Value) {st0 : List Value} (hst : st0 = As.reverse ++ st) {v : Int} {S1 : xSt} (hM : ∀ l, Met l y (xws y bytes maxL (some .char)) (rmD d') (YPc E As S) (YQc E v S1) 0 0 (xA E)) (hn : As.length = na) (hcat : (st.map fun v => v.category).sum ≤ 8) {pc' : Nat} (hp : pc + 3 = pc') (d : decode cc pc = .ok (.invokestatic idx, 3))
    (k : narrow .char (vi v) = vi v → WG K E pc' lv (vi v :: st) S1) : WG K E pc lv st0 S := by
  subst hp
  obtain ⟨p, l, e, R, s, m, args, below, meth, c, nL, cl, sl, Q⟩ := K
  obtain ⟨hx, hb, hml, hown, hts, hlk, rfl, hRR⟩ := hC
  intro H locs ls hY hS hl
  subst hst
  exact va_calli (va_runSN (As := As) (rest := st) ⟨hx, hb, hml, hown, hts⟩ (hM l) (cw_N (U := s) hts hY.1.2.2.2.2 hy hlink hR hRR) (YPreS hY) rfl hn hl.1 rfl (lv_room hcat) d (xz hC0)) hS (fun q _ h => h) (fun q h => h) (fun r9 u t H1 locs1 ht hvm hw hB _ _ hS1 => by obtain ⟨hw, hb9⟩ := hw; subst hw; subst ht; exact k hb9 _ locs1 ls (YW_back hY hvm hB) hS1 hl)
theorem g_callVb {b : Nat} (hC : xOK K cc own n (rmE d0 b)) (hC0 : xZ K) (hk : xkd E r = κ) {ci : Nat} {C : String} {T : u_T} {N : Nat} {ty : Nat → FieldType} (hc : xCl ci C T N ty) {fs : List xF} (hl0 : lay κ o = some (.inl (ci, fs))) {y : MethodName} {bytes : ByteArray} {maxL na idx d' : Nat} (hy : mI y C bytes maxL (some .byte) na) (hlink : Cond.methodLink own idx y ∈ xw) (hR : d' + 1 ≤ d0) (As : List Value) {st0 : List Value} (hst : st0 = As.reverse ++ vr E r o :: st) {v : Int} {S1 : xSt} (hM : ∀ l, Met l y (xws y bytes maxL (some .byte)) (rmD d') (YPc E (vr E r o :: As) S) (YQb E v S1) 0 0 (xA E)) (hn : As.length = na) (hcat : (st.map fun v => v.category).sum ≤ 8) {pc' : Nat} (hp : pc + 3 = pc') (d : decode cc pc = .ok (.invokevirtual idx, 3))
    (k : narrow .byte (vi v) = vi v → WG K E pc' lv (vi v :: st) S1) : WG K E pc lv st0 S := by
  subst hp
  obtain ⟨p, l, e, R, s, m, args, below, meth, c, nL, cl, sl, Q⟩ := K
  obtain ⟨hx, hb, hml, hown, hts, hlk, rfl, hRR⟩ := hC
  intro H locs ls hY hS hl
  subst hst
  exact va_calli (va_runV (As := As) (rest := st) ⟨hx, hb, hml, hown, hts⟩ (hM l) (cw_V hts hy hlink hR hRR) (YPreV hY (by rw [hk]; exact hl0) hc.1) rfl hn hl.1 rfl (lv_room hcat) d (xz hC0)) hS (fun q _ h => h) (fun q h => h) (fun r9 u t H1 locs1 ht hvm hw hB _ _ hS1 => by obtain ⟨hw, hb9⟩ := hw; subst hw; subst ht; exact k hb9 _ locs1 ls (YW_back hY hvm hB) hS1 hl)
theorem g_callTb {b : Nat} (hC : xOK K cc own n (rmE d0 b)) (hC0 : xZ K) {q : Nat} (hq : q < xldc.length) {y : MethodName} {bytes : ByteArray} {maxL na idx d' : Nat} (hy : mI y "java/lang/String" bytes maxL (some .byte) na) (hlink : Cond.methodLink own idx y ∈ xw) (hR : d' + 1 ≤ d0) (As : List Value) {st0 : List Value} (hst : st0 = As.reverse ++ vs E q :: st) {v : Int} {S1 : xSt} (hM : ∀ l, Met l y (xws y bytes maxL (some .byte)) (rmD d') (YPc E (vs E q :: As) S) (YQb E v S1) 0 0 (xA E)) (hn : As.length = na) (hcat : (st.map fun v => v.category).sum ≤ 8) {pc' : Nat} (hp : pc + 3 = pc') (d : decode cc pc = .ok (.invokevirtual idx, 3))
    (k : narrow .byte (vi v) = vi v → WG K E pc' lv (vi v :: st) S1) : WG K E pc lv st0 S := by
  subst hp
  obtain ⟨p, l, e, R, s, m, args, below, meth, c, nL, cl, sl, Q⟩ := K
  obtain ⟨hx, hb, hml, hown, hts, hlk, rfl, hRR⟩ := hC
  intro H locs ls hY hS hl
  subst hst
  exact va_calli (va_runV (As := As) (rest := st) ⟨hx, hb, hml, hown, hts⟩ (hM l) (cw_V hts hy hlink hR hRR) (YPreT hY hq) rfl hn hl.1 rfl (lv_room hcat) d (xz hC0)) hS (fun q _ h => h) (fun q h => h) (fun r9 u t H1 locs1 ht hvm hw hB _ _ hS1 => by obtain ⟨hw, hb9⟩ := hw; subst hw; subst ht; exact k hb9 _ locs1 ls (YW_back hY hvm hB) hS1 hl)
theorem g_callSb {b : Nat} (hC : xOK K cc own n (rmE d0 b)) (hC0 : xZ K) {y : MethodName} {bytes : ByteArray} {maxL na idx d' : Nat} (hy : mS y bytes maxL (some .byte) na) (hlink : Cond.methodLink own idx y ∈ xw) (hR : d' + 1 ≤ d0) (As : List Value) {st0 : List Value} (hst : st0 = As.reverse ++ st) {v : Int} {S1 : xSt} (hM : ∀ l, Met l y (xws y bytes maxL (some .byte)) (rmD d') (YPc E As S) (YQb E v S1) 0 0 (xA E)) (hn : As.length = na) (hcat : (st.map fun v => v.category).sum ≤ 8) {pc' : Nat} (hp : pc + 3 = pc') (d : decode cc pc = .ok (.invokestatic idx, 3))
    (k : narrow .byte (vi v) = vi v → WG K E pc' lv (vi v :: st) S1) : WG K E pc lv st0 S := by
  subst hp
  obtain ⟨p, l, e, R, s, m, args, below, meth, c, nL, cl, sl, Q⟩ := K
  obtain ⟨hx, hb, hml, hown, hts, hlk, rfl, hRR⟩ := hC
  intro H locs ls hY hS hl
  subst hst
  exact va_calli (va_runS (As := As) (rest := st) ⟨hx, hb, hml, hown, hts⟩ (hM l) (cw_S hts hy hlink hR hRR) (YPreS hY) rfl hn hl.1 rfl (lv_room hcat) d (xz hC0)) hS (fun q _ h => h) (fun q h => h) (fun r9 u t H1 locs1 ht hvm hw hB _ _ hS1 => by obtain ⟨hw, hb9⟩ := hw; subst hw; subst ht; exact k hb9 _ locs1 ls (YW_back hY hvm hB) hS1 hl)
theorem g_callNb {b : Nat} (hC : xOK K cc own n (rmE d0 b)) (hC0 : xZ K) {y : MethodName} {bytes : ByteArray} {maxL na idx d' : Nat} {host : String} (hy : mS y bytes maxL (some .byte) na) (hlink : (own, idx, y, host) ∈ xnm) (hR : d' + 1 ≤ d0) (As : List Value) {st0 : List Value} (hst : st0 = As.reverse ++ st) {v : Int} {S1 : xSt} (hM : ∀ l, Met l y (xws y bytes maxL (some .byte)) (rmD d') (YPc E As S) (YQb E v S1) 0 0 (xA E)) (hn : As.length = na) (hcat : (st.map fun v => v.category).sum ≤ 8) {pc' : Nat} (hp : pc + 3 = pc') (d : decode cc pc = .ok (.invokestatic idx, 3))
    (k : narrow .byte (vi v) = vi v → WG K E pc' lv (vi v :: st) S1) : WG K E pc lv st0 S := by
  subst hp
  obtain ⟨p, l, e, R, s, m, args, below, meth, c, nL, cl, sl, Q⟩ := K
  obtain ⟨hx, hb, hml, hown, hts, hlk, rfl, hRR⟩ := hC
  intro H locs ls hY hS hl
  subst hst
  exact va_calli (va_runSN (As := As) (rest := st) ⟨hx, hb, hml, hown, hts⟩ (hM l) (cw_N (U := s) hts hY.1.2.2.2.2 hy hlink hR hRR) (YPreS hY) rfl hn hl.1 rfl (lv_room hcat) d (xz hC0)) hS (fun q _ h => h) (fun q h => h) (fun r9 u t H1 locs1 ht hvm hw hB _ _ hS1 => by obtain ⟨hw, hb9⟩ := hw; subst hw; subst ht; exact k hb9 _ locs1 ls (YW_back hY hvm hB) hS1 hl)
theorem g_callVv {b : Nat} (hC : xOK K cc own n (rmE d0 b)) (hC0 : xZ K) (hk : xkd E r = κ) {ci : Nat} {C : String} {T : u_T} {N : Nat} {ty : Nat → FieldType} (hc : xCl ci C T N ty) {fs : List xF} (hl0 : lay κ o = some (.inl (ci, fs))) {y : MethodName} {bytes : ByteArray} {maxL na idx d' : Nat} (hy : mI y C bytes maxL (none) na) (hlink : Cond.methodLink own idx y ∈ xw) (hR : d' + 1 ≤ d0) (As : List Value) {st0 : List Value} (hst : st0 = As.reverse ++ vr E r o :: st)  {S1 : xSt} (hM : ∀ l, Met l y (xws y bytes maxL (none)) (rmD d') (YPc E (vr E r o :: As) S) (YQv E S1) 0 0 (xA E)) (hn : As.length = na) (hcat : (st.map fun v => v.category).sum ≤ 8) {pc' : Nat} (hp : pc + 3 = pc') (d : decode cc pc = .ok (.invokevirtual idx, 3))
    (k : WG K E pc' lv (st) S1) : WG K E pc lv st0 S := by
  subst hp
  obtain ⟨p, l, e, R, s, m, args, below, meth, c, nL, cl, sl, Q⟩ := K
  obtain ⟨hx, hb, hml, hown, hts, hlk, rfl, hRR⟩ := hC
  intro H locs ls hY hS hl
  subst hst
  exact va_callv (va_runV (As := As) (rest := st) ⟨hx, hb, hml, hown, hts⟩ (hM l) (cw_V hts hy hlink hR hRR) (YPreV hY (by rw [hk]; exact hl0) hc.1) rfl hn hl.1 rfl (lv_room hcat) d (xz hC0)) hS (fun q _ h => h) (fun q h => h) (fun u t H1 locs1 ht hvm hw hB _ _ hS1 => by subst ht; exact k _ locs1 ls (YW_back hY hvm hB) hS1 hl)
theorem g_callTv {b : Nat} (hC : xOK K cc own n (rmE d0 b)) (hC0 : xZ K) {q : Nat} (hq : q < xldc.length) {y : MethodName} {bytes : ByteArray} {maxL na idx d' : Nat} (hy : mI y "java/lang/String" bytes maxL (none) na) (hlink : Cond.methodLink own idx y ∈ xw) (hR : d' + 1 ≤ d0) (As : List Value) {st0 : List Value} (hst : st0 = As.reverse ++ vs E q :: st)  {S1 : xSt} (hM : ∀ l, Met l y (xws y bytes maxL (none)) (rmD d') (YPc E (vs E q :: As) S) (YQv E S1) 0 0 (xA E)) (hn : As.length = na) (hcat : (st.map fun v => v.category).sum ≤ 8) {pc' : Nat} (hp : pc + 3 = pc') (d : decode cc pc = .ok (.invokevirtual idx, 3))
    (k : WG K E pc' lv (st) S1) : WG K E pc lv st0 S := by
  subst hp
  obtain ⟨p, l, e, R, s, m, args, below, meth, c, nL, cl, sl, Q⟩ := K
  obtain ⟨hx, hb, hml, hown, hts, hlk, rfl, hRR⟩ := hC
  intro H locs ls hY hS hl
  subst hst
  exact va_callv (va_runV (As := As) (rest := st) ⟨hx, hb, hml, hown, hts⟩ (hM l) (cw_V hts hy hlink hR hRR) (YPreT hY hq) rfl hn hl.1 rfl (lv_room hcat) d (xz hC0)) hS (fun q _ h => h) (fun q h => h) (fun u t H1 locs1 ht hvm hw hB _ _ hS1 => by subst ht; exact k _ locs1 ls (YW_back hY hvm hB) hS1 hl)
theorem g_callSv {b : Nat} (hC : xOK K cc own n (rmE d0 b)) (hC0 : xZ K) {y : MethodName} {bytes : ByteArray} {maxL na idx d' : Nat} (hy : mS y bytes maxL (none) na) (hlink : Cond.methodLink own idx y ∈ xw) (hR : d' + 1 ≤ d0) (As : List Value) {st0 : List Value} (hst : st0 = As.reverse ++ st)  {S1 : xSt} (hM : ∀ l, Met l y (xws y bytes maxL (none)) (rmD d') (YPc E As S) (YQv E S1) 0 0 (xA E)) (hn : As.length = na) (hcat : (st.map fun v => v.category).sum ≤ 8) {pc' : Nat} (hp : pc + 3 = pc') (d : decode cc pc = .ok (.invokestatic idx, 3))
    (k : WG K E pc' lv (st) S1) : WG K E pc lv st0 S := by
  subst hp
  obtain ⟨p, l, e, R, s, m, args, below, meth, c, nL, cl, sl, Q⟩ := K
  obtain ⟨hx, hb, hml, hown, hts, hlk, rfl, hRR⟩ := hC
  intro H locs ls hY hS hl
  subst hst
  exact va_callv (va_runS (As := As) (rest := st) ⟨hx, hb, hml, hown, hts⟩ (hM l) (cw_S hts hy hlink hR hRR) (YPreS hY) rfl hn hl.1 rfl (lv_room hcat) d (xz hC0)) hS (fun q _ h => h) (fun q h => h) (fun u t H1 locs1 ht hvm hw hB _ _ hS1 => by subst ht; exact k _ locs1 ls (YW_back hY hvm hB) hS1 hl)
theorem g_callNv {b : Nat} (hC : xOK K cc own n (rmE d0 b)) (hC0 : xZ K) {y : MethodName} {bytes : ByteArray} {maxL na idx d' : Nat} {host : String} (hy : mS y bytes maxL (none) na) (hlink : (own, idx, y, host) ∈ xnm) (hR : d' + 1 ≤ d0) (As : List Value) {st0 : List Value} (hst : st0 = As.reverse ++ st)  {S1 : xSt} (hM : ∀ l, Met l y (xws y bytes maxL (none)) (rmD d') (YPc E As S) (YQv E S1) 0 0 (xA E)) (hn : As.length = na) (hcat : (st.map fun v => v.category).sum ≤ 8) {pc' : Nat} (hp : pc + 3 = pc') (d : decode cc pc = .ok (.invokestatic idx, 3))
    (k : WG K E pc' lv (st) S1) : WG K E pc lv st0 S := by
  subst hp
  obtain ⟨p, l, e, R, s, m, args, below, meth, c, nL, cl, sl, Q⟩ := K
  obtain ⟨hx, hb, hml, hown, hts, hlk, rfl, hRR⟩ := hC
  intro H locs ls hY hS hl
  subst hst
  exact va_callv (va_runSN (As := As) (rest := st) ⟨hx, hb, hml, hown, hts⟩ (hM l) (cw_N (U := s) hts hY.1.2.2.2.2 hy hlink hR hRR) (YPreS hY) rfl hn hl.1 rfl (lv_room hcat) d (xz hC0)) hS (fun q _ h => h) (fun q h => h) (fun u t H1 locs1 ht hvm hw hB _ _ hS1 => by subst ht; exact k _ locs1 ls (YW_back hY hvm hB) hS1 hl)
theorem g_callVd {b : Nat} (hC : xOK K cc own n (rmE d0 b)) (hC0 : xZ K) (hk : xkd E r = κ) {ci : Nat} {C : String} {T : u_T} {N : Nat} {ty : Nat → FieldType} (hc : xCl ci C T N ty) {fs : List xF} (hl0 : lay κ o = some (.inl (ci, fs))) {y : MethodName} {bytes : ByteArray} {maxL na idx d' : Nat} (hy : mI y C bytes maxL (some .double) na) (hlink : Cond.methodLink own idx y ∈ xw) (hR : d' + 1 ≤ d0) (As : List Value) {st0 : List Value} (hst : st0 = As.reverse ++ vr E r o :: st) {v : UInt64} {S1 : xSt} (hM : ∀ l, Met l y (xws y bytes maxL (some .double)) (rmD d') (YPc E (vr E r o :: As) S) (YQd E v S1) 0 0 (xA E)) (hn : As.length = na) (hcat : (st.map fun v => v.category).sum ≤ 8) {pc' : Nat} (hp : pc + 3 = pc') (d : decode cc pc = .ok (.invokevirtual idx, 3))
    (k : WG K E pc' lv (vd v :: st) S1) : WG K E pc lv st0 S := by
  subst hp
  obtain ⟨p, l, e, R, s, m, args, below, meth, c, nL, cl, sl, Q⟩ := K
  obtain ⟨hx, hb, hml, hown, hts, hlk, rfl, hRR⟩ := hC
  intro H locs ls hY hS hl
  subst hst
  exact va_calld (va_runV (As := As) (rest := st) ⟨hx, hb, hml, hown, hts⟩ (hM l) (cw_V hts hy hlink hR hRR) (YPreV hY (by rw [hk]; exact hl0) hc.1) rfl hn hl.1 rfl (lv_room hcat) d (xz hC0)) hS (fun q _ h => h) (fun q h => h) (fun r9 u t H1 locs1 ht hvm hw hB _ _ hS1 => by subst hw; subst ht; exact k _ locs1 ls (YW_back hY hvm hB) hS1 hl)
theorem g_callTd {b : Nat} (hC : xOK K cc own n (rmE d0 b)) (hC0 : xZ K) {q : Nat} (hq : q < xldc.length) {y : MethodName} {bytes : ByteArray} {maxL na idx d' : Nat} (hy : mI y "java/lang/String" bytes maxL (some .double) na) (hlink : Cond.methodLink own idx y ∈ xw) (hR : d' + 1 ≤ d0) (As : List Value) {st0 : List Value} (hst : st0 = As.reverse ++ vs E q :: st) {v : UInt64} {S1 : xSt} (hM : ∀ l, Met l y (xws y bytes maxL (some .double)) (rmD d') (YPc E (vs E q :: As) S) (YQd E v S1) 0 0 (xA E)) (hn : As.length = na) (hcat : (st.map fun v => v.category).sum ≤ 8) {pc' : Nat} (hp : pc + 3 = pc') (d : decode cc pc = .ok (.invokevirtual idx, 3))
    (k : WG K E pc' lv (vd v :: st) S1) : WG K E pc lv st0 S := by
  subst hp
  obtain ⟨p, l, e, R, s, m, args, below, meth, c, nL, cl, sl, Q⟩ := K
  obtain ⟨hx, hb, hml, hown, hts, hlk, rfl, hRR⟩ := hC
  intro H locs ls hY hS hl
  subst hst
  exact va_calld (va_runV (As := As) (rest := st) ⟨hx, hb, hml, hown, hts⟩ (hM l) (cw_V hts hy hlink hR hRR) (YPreT hY hq) rfl hn hl.1 rfl (lv_room hcat) d (xz hC0)) hS (fun q _ h => h) (fun q h => h) (fun r9 u t H1 locs1 ht hvm hw hB _ _ hS1 => by subst hw; subst ht; exact k _ locs1 ls (YW_back hY hvm hB) hS1 hl)
theorem g_callSd {b : Nat} (hC : xOK K cc own n (rmE d0 b)) (hC0 : xZ K) {y : MethodName} {bytes : ByteArray} {maxL na idx d' : Nat} (hy : mS y bytes maxL (some .double) na) (hlink : Cond.methodLink own idx y ∈ xw) (hR : d' + 1 ≤ d0) (As : List Value) {st0 : List Value} (hst : st0 = As.reverse ++ st) {v : UInt64} {S1 : xSt} (hM : ∀ l, Met l y (xws y bytes maxL (some .double)) (rmD d') (YPc E As S) (YQd E v S1) 0 0 (xA E)) (hn : As.length = na) (hcat : (st.map fun v => v.category).sum ≤ 8) {pc' : Nat} (hp : pc + 3 = pc') (d : decode cc pc = .ok (.invokestatic idx, 3))
    (k : WG K E pc' lv (vd v :: st) S1) : WG K E pc lv st0 S := by
  subst hp
  obtain ⟨p, l, e, R, s, m, args, below, meth, c, nL, cl, sl, Q⟩ := K
  obtain ⟨hx, hb, hml, hown, hts, hlk, rfl, hRR⟩ := hC
  intro H locs ls hY hS hl
  subst hst
  exact va_calld (va_runS (As := As) (rest := st) ⟨hx, hb, hml, hown, hts⟩ (hM l) (cw_S hts hy hlink hR hRR) (YPreS hY) rfl hn hl.1 rfl (lv_room hcat) d (xz hC0)) hS (fun q _ h => h) (fun q h => h) (fun r9 u t H1 locs1 ht hvm hw hB _ _ hS1 => by subst hw; subst ht; exact k _ locs1 ls (YW_back hY hvm hB) hS1 hl)
theorem g_callNd {b : Nat} (hC : xOK K cc own n (rmE d0 b)) (hC0 : xZ K) {y : MethodName} {bytes : ByteArray} {maxL na idx d' : Nat} {host : String} (hy : mS y bytes maxL (some .double) na) (hlink : (own, idx, y, host) ∈ xnm) (hR : d' + 1 ≤ d0) (As : List Value) {st0 : List Value} (hst : st0 = As.reverse ++ st) {v : UInt64} {S1 : xSt} (hM : ∀ l, Met l y (xws y bytes maxL (some .double)) (rmD d') (YPc E As S) (YQd E v S1) 0 0 (xA E)) (hn : As.length = na) (hcat : (st.map fun v => v.category).sum ≤ 8) {pc' : Nat} (hp : pc + 3 = pc') (d : decode cc pc = .ok (.invokestatic idx, 3))
    (k : WG K E pc' lv (vd v :: st) S1) : WG K E pc lv st0 S := by
  subst hp
  obtain ⟨p, l, e, R, s, m, args, below, meth, c, nL, cl, sl, Q⟩ := K
  obtain ⟨hx, hb, hml, hown, hts, hlk, rfl, hRR⟩ := hC
  intro H locs ls hY hS hl
  subst hst
  exact va_calld (va_runSN (As := As) (rest := st) ⟨hx, hb, hml, hown, hts⟩ (hM l) (cw_N (U := s) hts hY.1.2.2.2.2 hy hlink hR hRR) (YPreS hY) rfl hn hl.1 rfl (lv_room hcat) d (xz hC0)) hS (fun q _ h => h) (fun q h => h) (fun r9 u t H1 locs1 ht hvm hw hB _ _ hS1 => by subst hw; subst ht; exact k _ locs1 ls (YW_back hY hvm hB) hS1 hl)
theorem g_callVf {b : Nat} (hC : xOK K cc own n (rmE d0 b)) (hC0 : xZ K) (hk : xkd E r = κ) {ci : Nat} {C : String} {T : u_T} {N : Nat} {ty : Nat → FieldType} (hc : xCl ci C T N ty) {fs : List xF} (hl0 : lay κ o = some (.inl (ci, fs))) {y : MethodName} {bytes : ByteArray} {maxL na idx d' : Nat} (hy : mI y C bytes maxL (some .float) na) (hlink : Cond.methodLink own idx y ∈ xw) (hR : d' + 1 ≤ d0) (As : List Value) {st0 : List Value} (hst : st0 = As.reverse ++ vr E r o :: st) {v : UInt32} {S1 : xSt} (hM : ∀ l, Met l y (xws y bytes maxL (some .float)) (rmD d') (YPc E (vr E r o :: As) S) (YQf E v S1) 0 0 (xA E)) (hn : As.length = na) (hcat : (st.map fun v => v.category).sum ≤ 8) {pc' : Nat} (hp : pc + 3 = pc') (d : decode cc pc = .ok (.invokevirtual idx, 3))
    (k : WG K E pc' lv (vf v :: st) S1) : WG K E pc lv st0 S := by
  subst hp
  obtain ⟨p, l, e, R, s, m, args, below, meth, c, nL, cl, sl, Q⟩ := K
  obtain ⟨hx, hb, hml, hown, hts, hlk, rfl, hRR⟩ := hC
  intro H locs ls hY hS hl
  subst hst
  exact va_callf (va_runV (As := As) (rest := st) ⟨hx, hb, hml, hown, hts⟩ (hM l) (cw_V hts hy hlink hR hRR) (YPreV hY (by rw [hk]; exact hl0) hc.1) rfl hn hl.1 rfl (lv_room hcat) d (xz hC0)) hS (fun q _ h => h) (fun q h => h) (fun r9 u t H1 locs1 ht hvm hw hB _ _ hS1 => by subst hw; subst ht; exact k _ locs1 ls (YW_back hY hvm hB) hS1 hl)
theorem g_callTf {b : Nat} (hC : xOK K cc own n (rmE d0 b)) (hC0 : xZ K) {q : Nat} (hq : q < xldc.length) {y : MethodName} {bytes : ByteArray} {maxL na idx d' : Nat} (hy : mI y "java/lang/String" bytes maxL (some .float) na) (hlink : Cond.methodLink own idx y ∈ xw) (hR : d' + 1 ≤ d0) (As : List Value) {st0 : List Value} (hst : st0 = As.reverse ++ vs E q :: st) {v : UInt32} {S1 : xSt} (hM : ∀ l, Met l y (xws y bytes maxL (some .float)) (rmD d') (YPc E (vs E q :: As) S) (YQf E v S1) 0 0 (xA E)) (hn : As.length = na) (hcat : (st.map fun v => v.category).sum ≤ 8) {pc' : Nat} (hp : pc + 3 = pc') (d : decode cc pc = .ok (.invokevirtual idx, 3))
    (k : WG K E pc' lv (vf v :: st) S1) : WG K E pc lv st0 S := by
  subst hp
  obtain ⟨p, l, e, R, s, m, args, below, meth, c, nL, cl, sl, Q⟩ := K
  obtain ⟨hx, hb, hml, hown, hts, hlk, rfl, hRR⟩ := hC
  intro H locs ls hY hS hl
  subst hst
  exact va_callf (va_runV (As := As) (rest := st) ⟨hx, hb, hml, hown, hts⟩ (hM l) (cw_V hts hy hlink hR hRR) (YPreT hY hq) rfl hn hl.1 rfl (lv_room hcat) d (xz hC0)) hS (fun q _ h => h) (fun q h => h) (fun r9 u t H1 locs1 ht hvm hw hB _ _ hS1 => by subst hw; subst ht; exact k _ locs1 ls (YW_back hY hvm hB) hS1 hl)
theorem g_callSf {b : Nat} (hC : xOK K cc own n (rmE d0 b)) (hC0 : xZ K) {y : MethodName} {bytes : ByteArray} {maxL na idx d' : Nat} (hy : mS y bytes maxL (some .float) na) (hlink : Cond.methodLink own idx y ∈ xw) (hR : d' + 1 ≤ d0) (As : List Value) {st0 : List Value} (hst : st0 = As.reverse ++ st) {v : UInt32} {S1 : xSt} (hM : ∀ l, Met l y (xws y bytes maxL (some .float)) (rmD d') (YPc E As S) (YQf E v S1) 0 0 (xA E)) (hn : As.length = na) (hcat : (st.map fun v => v.category).sum ≤ 8) {pc' : Nat} (hp : pc + 3 = pc') (d : decode cc pc = .ok (.invokestatic idx, 3))
    (k : WG K E pc' lv (vf v :: st) S1) : WG K E pc lv st0 S := by
  subst hp
  obtain ⟨p, l, e, R, s, m, args, below, meth, c, nL, cl, sl, Q⟩ := K
  obtain ⟨hx, hb, hml, hown, hts, hlk, rfl, hRR⟩ := hC
  intro H locs ls hY hS hl
  subst hst
  exact va_callf (va_runS (As := As) (rest := st) ⟨hx, hb, hml, hown, hts⟩ (hM l) (cw_S hts hy hlink hR hRR) (YPreS hY) rfl hn hl.1 rfl (lv_room hcat) d (xz hC0)) hS (fun q _ h => h) (fun q h => h) (fun r9 u t H1 locs1 ht hvm hw hB _ _ hS1 => by subst hw; subst ht; exact k _ locs1 ls (YW_back hY hvm hB) hS1 hl)
theorem g_callNf {b : Nat} (hC : xOK K cc own n (rmE d0 b)) (hC0 : xZ K) {y : MethodName} {bytes : ByteArray} {maxL na idx d' : Nat} {host : String} (hy : mS y bytes maxL (some .float) na) (hlink : (own, idx, y, host) ∈ xnm) (hR : d' + 1 ≤ d0) (As : List Value) {st0 : List Value} (hst : st0 = As.reverse ++ st) {v : UInt32} {S1 : xSt} (hM : ∀ l, Met l y (xws y bytes maxL (some .float)) (rmD d') (YPc E As S) (YQf E v S1) 0 0 (xA E)) (hn : As.length = na) (hcat : (st.map fun v => v.category).sum ≤ 8) {pc' : Nat} (hp : pc + 3 = pc') (d : decode cc pc = .ok (.invokestatic idx, 3))
    (k : WG K E pc' lv (vf v :: st) S1) : WG K E pc lv st0 S := by
  subst hp
  obtain ⟨p, l, e, R, s, m, args, below, meth, c, nL, cl, sl, Q⟩ := K
  obtain ⟨hx, hb, hml, hown, hts, hlk, rfl, hRR⟩ := hC
  intro H locs ls hY hS hl
  subst hst
  exact va_callf (va_runSN (As := As) (rest := st) ⟨hx, hb, hml, hown, hts⟩ (hM l) (cw_N (U := s) hts hY.1.2.2.2.2 hy hlink hR hRR) (YPreS hY) rfl hn hl.1 rfl (lv_room hcat) d (xz hC0)) hS (fun q _ h => h) (fun q h => h) (fun r9 u t H1 locs1 ht hvm hw hB _ _ hS1 => by subst hw; subst ht; exact k _ locs1 ls (YW_back hY hvm hB) hS1 hl)
theorem g_callVa {b : Nat} (hC : xOK K cc own n (rmE d0 b)) (hC0 : xZ K) (hk : xkd E r = κ) {ci : Nat} {C : String} {T : u_T} {N : Nat} {ty : Nat → FieldType} (hc : xCl ci C T N ty) {fs : List xF} (hl0 : lay κ o = some (.inl (ci, fs))) {y : MethodName} {bytes : ByteArray} {maxL na idx d' : Nat} (hy : mI y C bytes maxL (some (.object "java/lang/String")) na) (hlink : Cond.methodLink own idx y ∈ xw) (hR : d' + 1 ≤ d0) (As : List Value) {st0 : List Value} (hst : st0 = As.reverse ++ vr E r o :: st) {v : Nat} {S1 : xSt} (hM : ∀ l, Met l y (xws y bytes maxL (some (.object "java/lang/String"))) (rmD d') (YPc E (vr E r o :: As) S) (YQa E v S1) 0 0 (xA E)) (hn : As.length = na) (hcat : (st.map fun v => v.category).sum ≤ 8) {pc' : Nat} (hp : pc + 3 = pc') (d : decode cc pc = .ok (.invokevirtual idx, 3))
    (k : v < xldc.length → WG K E pc' lv (vs E v :: st) S1) : WG K E pc lv st0 S := by
  subst hp
  obtain ⟨p, l, e, R, s, m, args, below, meth, c, nL, cl, sl, Q⟩ := K
  obtain ⟨hx, hb, hml, hown, hts, hlk, rfl, hRR⟩ := hC
  intro H locs ls hY hS hl
  subst hst
  exact va_callr (va_runV (As := As) (rest := st) ⟨hx, hb, hml, hown, hts⟩ (hM l) (cw_V hts hy hlink hR hRR) (YPreV hY (by rw [hk]; exact hl0) hc.1) rfl hn hl.1 rfl (lv_room hcat) d (xz hC0)) hS (fun q _ h => h) (fun q h => h) (fun u r9 t H1 locs1 ht hvm hw hB _ _ hS1 => by obtain ⟨hw2, hB⟩ := hB; subst hw2; subst ht; exact k hw _ locs1 ls (YW_back hY hvm hB) hS1 hl)
theorem g_callTa {b : Nat} (hC : xOK K cc own n (rmE d0 b)) (hC0 : xZ K) {q : Nat} (hq : q < xldc.length) {y : MethodName} {bytes : ByteArray} {maxL na idx d' : Nat} (hy : mI y "java/lang/String" bytes maxL (some (.object "java/lang/String")) na) (hlink : Cond.methodLink own idx y ∈ xw) (hR : d' + 1 ≤ d0) (As : List Value) {st0 : List Value} (hst : st0 = As.reverse ++ vs E q :: st) {v : Nat} {S1 : xSt} (hM : ∀ l, Met l y (xws y bytes maxL (some (.object "java/lang/String"))) (rmD d') (YPc E (vs E q :: As) S) (YQa E v S1) 0 0 (xA E)) (hn : As.length = na) (hcat : (st.map fun v => v.category).sum ≤ 8) {pc' : Nat} (hp : pc + 3 = pc') (d : decode cc pc = .ok (.invokevirtual idx, 3))
    (k : v < xldc.length → WG K E pc' lv (vs E v :: st) S1) : WG K E pc lv st0 S := by
  subst hp
  obtain ⟨p, l, e, R, s, m, args, below, meth, c, nL, cl, sl, Q⟩ := K
  obtain ⟨hx, hb, hml, hown, hts, hlk, rfl, hRR⟩ := hC
  intro H locs ls hY hS hl
  subst hst
  exact va_callr (va_runV (As := As) (rest := st) ⟨hx, hb, hml, hown, hts⟩ (hM l) (cw_V hts hy hlink hR hRR) (YPreT hY hq) rfl hn hl.1 rfl (lv_room hcat) d (xz hC0)) hS (fun q _ h => h) (fun q h => h) (fun u r9 t H1 locs1 ht hvm hw hB _ _ hS1 => by obtain ⟨hw2, hB⟩ := hB; subst hw2; subst ht; exact k hw _ locs1 ls (YW_back hY hvm hB) hS1 hl)
theorem g_callSa {b : Nat} (hC : xOK K cc own n (rmE d0 b)) (hC0 : xZ K) {y : MethodName} {bytes : ByteArray} {maxL na idx d' : Nat} (hy : mS y bytes maxL (some (.object "java/lang/String")) na) (hlink : Cond.methodLink own idx y ∈ xw) (hR : d' + 1 ≤ d0) (As : List Value) {st0 : List Value} (hst : st0 = As.reverse ++ st) {v : Nat} {S1 : xSt} (hM : ∀ l, Met l y (xws y bytes maxL (some (.object "java/lang/String"))) (rmD d') (YPc E As S) (YQa E v S1) 0 0 (xA E)) (hn : As.length = na) (hcat : (st.map fun v => v.category).sum ≤ 8) {pc' : Nat} (hp : pc + 3 = pc') (d : decode cc pc = .ok (.invokestatic idx, 3))
    (k : v < xldc.length → WG K E pc' lv (vs E v :: st) S1) : WG K E pc lv st0 S := by
  subst hp
  obtain ⟨p, l, e, R, s, m, args, below, meth, c, nL, cl, sl, Q⟩ := K
  obtain ⟨hx, hb, hml, hown, hts, hlk, rfl, hRR⟩ := hC
  intro H locs ls hY hS hl
  subst hst
  exact va_callr (va_runS (As := As) (rest := st) ⟨hx, hb, hml, hown, hts⟩ (hM l) (cw_S hts hy hlink hR hRR) (YPreS hY) rfl hn hl.1 rfl (lv_room hcat) d (xz hC0)) hS (fun q _ h => h) (fun q h => h) (fun u r9 t H1 locs1 ht hvm hw hB _ _ hS1 => by obtain ⟨hw2, hB⟩ := hB; subst hw2; subst ht; exact k hw _ locs1 ls (YW_back hY hvm hB) hS1 hl)
theorem g_callNa {b : Nat} (hC : xOK K cc own n (rmE d0 b)) (hC0 : xZ K) {y : MethodName} {bytes : ByteArray} {maxL na idx d' : Nat} {host : String} (hy : mS y bytes maxL (some (.object "java/lang/String")) na) (hlink : (own, idx, y, host) ∈ xnm) (hR : d' + 1 ≤ d0) (As : List Value) {st0 : List Value} (hst : st0 = As.reverse ++ st) {v : Nat} {S1 : xSt} (hM : ∀ l, Met l y (xws y bytes maxL (some (.object "java/lang/String"))) (rmD d') (YPc E As S) (YQa E v S1) 0 0 (xA E)) (hn : As.length = na) (hcat : (st.map fun v => v.category).sum ≤ 8) {pc' : Nat} (hp : pc + 3 = pc') (d : decode cc pc = .ok (.invokestatic idx, 3))
    (k : v < xldc.length → WG K E pc' lv (vs E v :: st) S1) : WG K E pc lv st0 S := by
  subst hp
  obtain ⟨p, l, e, R, s, m, args, below, meth, c, nL, cl, sl, Q⟩ := K
  obtain ⟨hx, hb, hml, hown, hts, hlk, rfl, hRR⟩ := hC
  intro H locs ls hY hS hl
  subst hst
  exact va_callr (va_runSN (As := As) (rest := st) ⟨hx, hb, hml, hown, hts⟩ (hM l) (cw_N (U := s) hts hY.1.2.2.2.2 hy hlink hR hRR) (YPreS hY) rfl hn hl.1 rfl (lv_room hcat) d (xz hC0)) hS (fun q _ h => h) (fun q h => h) (fun u r9 t H1 locs1 ht hvm hw hB _ _ hS1 => by obtain ⟨hw2, hB⟩ := hB; subst hw2; subst ht; exact k hw _ locs1 ls (YW_back hY hvm hB) hS1 hl)
def iMin (x y : Int) : Int := if wr y < wr x then y else x
theorem g_mmin {b : Nat} (hC : xOK K cc own n (rmE d0 b)) (hZ : xZ K) {x y : Int} {idx : Nat} (h1 : Cond.methodLink own idx Lib.Math.min.name ∈ xw) (h2 : Cond.static Lib.Math.min.name ∈ xw) (h3 : Cond.initialized "java/lang/Math" ∈ xw) (h4 : Cond.code Lib.Math.min.name Lib.Math.min.code 2 (some .int) ∈ xw) (hf : 1 ≤ d0) (hlo : (st.map fun v => v.category).sum + 13 ≤ 28 * d0) {pc' : Nat} (hp : pc + 3 = pc') (d : decode cc pc = .ok (.invokestatic idx, 3))
    (k : WG K E pc' lv (vi (iMin x y) :: st) S) : WG K E pc lv (vi y :: vi x :: st) S := by
  subst hp
  obtain ⟨p, l, e, R, s, m, args, below, meth, c, nL, cl, sl, Q⟩ := K
  obtain ⟨hx, hb, hml, hown, hts, hlk, rfl, hRR⟩ := hC
  intro H locs ls hY hS hl
  have k := k H locs ls hY hS hl
  have e1 : vi (iMin x y) = .int (if Int32.ofInt y < Int32.ofInt x then Int32.ofInt y else Int32.ofInt x) := by
    unfold vi iMin
    congr 1
    by_cases h : wr y < wr x
    · rw [if_pos h, if_pos ((i32_lt _ _).mpr h)]
    · rw [if_neg h, if_neg (fun z => h ((i32_lt _ _).mp z))]
  rw [e1] at k
  have hz := xz hZ
  exact va_mmin hx hb (by rw [hml]; exact hl.1.symm) hown (hts _ h1) (hts _ h2) (hts _ h3) (hts _ h4) (by rw [hRR]; exact hf) (by rw [hRR]; exact hlo) hz.1 hz.2 d k
def iMax (x y : Int) : Int := if wr x < wr y then y else x
theorem g_mmax {b : Nat} (hC : xOK K cc own n (rmE d0 b)) (hZ : xZ K) {x y : Int} {idx : Nat} (h1 : Cond.methodLink own idx Lib.Math.max.name ∈ xw) (h2 : Cond.static Lib.Math.max.name ∈ xw) (h3 : Cond.initialized "java/lang/Math" ∈ xw) (h4 : Cond.code Lib.Math.max.name Lib.Math.max.code 2 (some .int) ∈ xw) (hf : 1 ≤ d0) (hlo : (st.map fun v => v.category).sum + 13 ≤ 28 * d0) {pc' : Nat} (hp : pc + 3 = pc') (d : decode cc pc = .ok (.invokestatic idx, 3))
    (k : WG K E pc' lv (vi (iMax x y) :: st) S) : WG K E pc lv (vi y :: vi x :: st) S := by
  subst hp
  obtain ⟨p, l, e, R, s, m, args, below, meth, c, nL, cl, sl, Q⟩ := K
  obtain ⟨hx, hb, hml, hown, hts, hlk, rfl, hRR⟩ := hC
  intro H locs ls hY hS hl
  have k := k H locs ls hY hS hl
  have e1 : vi (iMax x y) = .int (if Int32.ofInt x < Int32.ofInt y then Int32.ofInt y else Int32.ofInt x) := by
    unfold vi iMax
    congr 1
    by_cases h : wr x < wr y
    · rw [if_pos h, if_pos ((i32_lt _ _).mpr h)]
    · rw [if_neg h, if_neg (fun z => h ((i32_lt _ _).mp z))]
  rw [e1] at k
  have hz := xz hZ
  exact va_mmax hx hb (by rw [hml]; exact hl.1.symm) hown (hts _ h1) (hts _ h2) (hts _ h3) (hts _ h4) (by rw [hRR]; exact hf) (by rw [hRR]; exact hlo) hz.1 hz.2 d k
/-- the walk's end -/
def xEnd (K : xCtx) (E : xE) (ret : Option FieldType) (Qc : Array Value → State → Outcome → State → Prop) : Prop := match K with
  | (p, l, e, R, s, m, args, below, meth, c, nL, cl, sl, Q) => Q = MQ below Qc args s cl sl (xA E) ∧ meth.sig.returnType = ret

theorem g_iret {rm : Room} (hC : xOK K cc own n rm) {v : Int} (hE : xEnd K E (some .int) (YQi E v S))  (d : decode cc pc = .ok (.ireturn, 1)) : WG K E pc lv [vi v] S := by
  obtain ⟨p, l, e, R, s, m, args, below, meth, c, nL, cl, sl, Q⟩ := K
  obtain ⟨hx, hb, hml, hown, hts, hlk, rfl, rfl⟩ := hC
  obtain ⟨rfl, hr⟩ := hE
  intro H locs ls hY hS hl
  exact W.iret hx hb hr (fun t ht hW => ⟨⟨_, (), rfl, rfl, (show YW E S t t.heap by rw [ht]; exact YW_warm hW hY)⟩, hS.F ht⟩) hS.2.2 d hlk
theorem g_zret {rm : Room} (hC : xOK K cc own n rm) {v : Int} (hE : xEnd K E (some .boolean) (YQz E v S)) (hz : v = 0 ∨ v = 1) (d : decode cc pc = .ok (.ireturn, 1)) : WG K E pc lv [vi v] S := by
  obtain ⟨p, l, e, R, s, m, args, below, meth, c, nL, cl, sl, Q⟩ := K
  obtain ⟨hx, hb, hml, hown, hts, hlk, rfl, rfl⟩ := hC
  obtain ⟨rfl, hr⟩ := hE
  intro H locs ls hY hS hl
  exact W.zret hx hb hr (xB_n (xB_z hz)) (fun t ht hW => ⟨⟨_, (), rfl, ⟨rfl, hz⟩, (show YW E S t t.heap by rw [ht]; exact YW_warm hW hY)⟩, hS.F ht⟩) hS.2.2 d hlk
theorem g_bret {rm : Room} (hC : xOK K cc own n rm) {v : Int} (hE : xEnd K E (some .byte) (YQb E v S)) (hz : narrow .byte (vi v) = vi v) (d : decode cc pc = .ok (.ireturn, 1)) : WG K E pc lv [vi v] S := by
  obtain ⟨p, l, e, R, s, m, args, below, meth, c, nL, cl, sl, Q⟩ := K
  obtain ⟨hx, hb, hml, hown, hts, hlk, rfl, rfl⟩ := hC
  obtain ⟨rfl, hr⟩ := hE
  intro H locs ls hY hS hl
  exact W.zret hx hb hr hz (fun t ht hW => ⟨⟨_, (), rfl, ⟨rfl, hz⟩, (show YW E S t t.heap by rw [ht]; exact YW_warm hW hY)⟩, hS.F ht⟩) hS.2.2 d hlk
theorem g_cret {rm : Room} (hC : xOK K cc own n rm) {v : Int} (hE : xEnd K E (some .char) (YQc E v S)) (hz : narrow .char (vi v) = vi v) (d : decode cc pc = .ok (.ireturn, 1)) : WG K E pc lv [vi v] S := by
  obtain ⟨p, l, e, R, s, m, args, below, meth, c, nL, cl, sl, Q⟩ := K
  obtain ⟨hx, hb, hml, hown, hts, hlk, rfl, rfl⟩ := hC
  obtain ⟨rfl, hr⟩ := hE
  intro H locs ls hY hS hl
  exact W.zret hx hb hr hz (fun t ht hW => ⟨⟨_, (), rfl, ⟨rfl, hz⟩, (show YW E S t t.heap by rw [ht]; exact YW_warm hW hY)⟩, hS.F ht⟩) hS.2.2 d hlk
theorem g_vret {rm : Room} (hC : xOK K cc own n rm)  (hE : xEnd K E (none) (YQv E S))  (d : decode cc pc = .ok (.return_, 1)) : WG K E pc lv [] S := by
  obtain ⟨p, l, e, R, s, m, args, below, meth, c, nL, cl, sl, Q⟩ := K
  obtain ⟨hx, hb, hml, hown, hts, hlk, rfl, rfl⟩ := hC
  obtain ⟨rfl, hr⟩ := hE
  intro H locs ls hY hS hl
  exact W.vret hx hb hr (fun t ht hW => ⟨⟨(), rfl, trivial, (show YW E S t t.heap by rw [ht]; exact YW_warm hW hY)⟩, hS.F ht⟩) hS.2.2 d hlk
theorem g_dret {rm : Room} (hC : xOK K cc own n rm) {v : UInt64} (hE : xEnd K E (some .double) (YQd E v S))  (d : decode cc pc = .ok (.dreturn, 1)) : WG K E pc lv [vd v] S := by
  obtain ⟨p, l, e, R, s, m, args, below, meth, c, nL, cl, sl, Q⟩ := K
  obtain ⟨hx, hb, hml, hown, hts, hlk, rfl, rfl⟩ := hC
  obtain ⟨rfl, hr⟩ := hE
  intro H locs ls hY hS hl
  exact W.dret hx hb hr (fun t ht hW => ⟨⟨_, (), rfl, rfl, (show YW E S t t.heap by rw [ht]; exact YW_warm hW hY)⟩, hS.F ht⟩) hS.2.2 d hlk
theorem g_fret {rm : Room} (hC : xOK K cc own n rm) {v : UInt32} (hE : xEnd K E (some .float) (YQf E v S))  (d : decode cc pc = .ok (.freturn, 1)) : WG K E pc lv [vf v] S := by
  obtain ⟨p, l, e, R, s, m, args, below, meth, c, nL, cl, sl, Q⟩ := K
  obtain ⟨hx, hb, hml, hown, hts, hlk, rfl, rfl⟩ := hC
  obtain ⟨rfl, hr⟩ := hE
  intro H locs ls hY hS hl
  exact W.fret hx hb hr (fun t ht hW => ⟨⟨_, (), rfl, rfl, (show YW E S t t.heap by rw [ht]; exact YW_warm hW hY)⟩, hS.F ht⟩) hS.2.2 d hlk
theorem g_aret {rm : Room} (hC : xOK K cc own n rm) {v : Nat} (hE : xEnd K E (some (.object "java/lang/String")) (YQa E v S)) (hz : v < xldc.length) (d : decode cc pc = .ok (.areturn, 1)) : WG K E pc lv [vs E v] S := by
  obtain ⟨p, l, e, R, s, m, args, below, meth, c, nL, cl, sl, Q⟩ := K
  obtain ⟨hx, hb, hml, hown, hts, hlk, rfl, rfl⟩ := hC
  obtain ⟨rfl, hr⟩ := hE
  intro H locs ls hY hS hl
  exact W.aret hx hb hr (Or.inl ⟨_, rfl⟩) (Or.inr ⟨_, rfl⟩) (fun t ht hW => ⟨⟨(), xaK E v, rfl, hz, rfl, (show YW E S t t.heap by rw [ht]; exact YW_warm hW hY)⟩, hS.F ht⟩) hS.2.2 d hlk
theorem met_i {l : Launch} {y : MethodName} {nL d1 : Nat} {E : xE} {S S' : xSt} {avs : List Value} {v : Int} (hy : plainName y.cls = true) (hn : (lg_sl avs).length ≤ nL) (body : ∀ K, xOK K cc y.cls nL (rmD d1) → xZ K → xEnd K E (some .int) (YQi E v S') → WG K E 0 (lv_args 0 avs) [] S) : Met l y (xws y cc nL (some .int)) (rmD d1) (YPc E avs S) (YQi E v S') 0 0 (xA E) := by
  refine Met.ofW (cc := cc) (maxL := nL) (ret := some .int) hy rfl ?_
  intro p e s m args below meth c s₁ B hml hv
  obtain ⟨rfl, hY⟩ := hv
  have hts := atoms_spec (ws := xws y cc nL (some .int)) B.pre
  rw [lg_entry_eq]
  exact body (p, l, e, rmD d1, s, m, avs.toArray, below, meth, c, nL, 0, 0, _) ⟨B.exec, B.bytes, hml, findClass_of_methodNamed B.named, fun w hw => hts w (List.mem_cons_of_mem _ hw), B.notSynchronized, rfl, rfl⟩ ⟨rfl, rfl⟩ ⟨rfl, B.returns⟩ s.heap [] _ hY va_S.rf (lv_entry avs hn)
theorem met_z {l : Launch} {y : MethodName} {nL d1 : Nat} {E : xE} {S S' : xSt} {avs : List Value} {v : Int} (hy : plainName y.cls = true) (hn : (lg_sl avs).length ≤ nL) (body : ∀ K, xOK K cc y.cls nL (rmD d1) → xZ K → xEnd K E (some .boolean) (YQz E v S') → WG K E 0 (lv_args 0 avs) [] S) : Met l y (xws y cc nL (some .boolean)) (rmD d1) (YPc E avs S) (YQz E v S') 0 0 (xA E) := by
  refine Met.ofW (cc := cc) (maxL := nL) (ret := some .boolean) hy rfl ?_
  intro p e s m args below meth c s₁ B hml hv
  obtain ⟨rfl, hY⟩ := hv
  have hts := atoms_spec (ws := xws y cc nL (some .boolean)) B.pre
  rw [lg_entry_eq]
  exact body (p, l, e, rmD d1, s, m, avs.toArray, below, meth, c, nL, 0, 0, _) ⟨B.exec, B.bytes, hml, findClass_of_methodNamed B.named, fun w hw => hts w (List.mem_cons_of_mem _ hw), B.notSynchronized, rfl, rfl⟩ ⟨rfl, rfl⟩ ⟨rfl, B.returns⟩ s.heap [] _ hY va_S.rf (lv_entry avs hn)
theorem met_c {l : Launch} {y : MethodName} {nL d1 : Nat} {E : xE} {S S' : xSt} {avs : List Value} {v : Int} (hy : plainName y.cls = true) (hn : (lg_sl avs).length ≤ nL) (body : ∀ K, xOK K cc y.cls nL (rmD d1) → xZ K → xEnd K E (some .char) (YQc E v S') → WG K E 0 (lv_args 0 avs) [] S) : Met l y (xws y cc nL (some .char)) (rmD d1) (YPc E avs S) (YQc E v S') 0 0 (xA E) := by
  refine Met.ofW (cc := cc) (maxL := nL) (ret := some .char) hy rfl ?_
  intro p e s m args below meth c s₁ B hml hv
  obtain ⟨rfl, hY⟩ := hv
  have hts := atoms_spec (ws := xws y cc nL (some .char)) B.pre
  rw [lg_entry_eq]
  exact body (p, l, e, rmD d1, s, m, avs.toArray, below, meth, c, nL, 0, 0, _) ⟨B.exec, B.bytes, hml, findClass_of_methodNamed B.named, fun w hw => hts w (List.mem_cons_of_mem _ hw), B.notSynchronized, rfl, rfl⟩ ⟨rfl, rfl⟩ ⟨rfl, B.returns⟩ s.heap [] _ hY va_S.rf (lv_entry avs hn)
theorem met_b {l : Launch} {y : MethodName} {nL d1 : Nat} {E : xE} {S S' : xSt} {avs : List Value} {v : Int} (hy : plainName y.cls = true) (hn : (lg_sl avs).length ≤ nL) (body : ∀ K, xOK K cc y.cls nL (rmD d1) → xZ K → xEnd K E (some .byte) (YQb E v S') → WG K E 0 (lv_args 0 avs) [] S) : Met l y (xws y cc nL (some .byte)) (rmD d1) (YPc E avs S) (YQb E v S') 0 0 (xA E) := by
  refine Met.ofW (cc := cc) (maxL := nL) (ret := some .byte) hy rfl ?_
  intro p e s m args below meth c s₁ B hml hv
  obtain ⟨rfl, hY⟩ := hv
  have hts := atoms_spec (ws := xws y cc nL (some .byte)) B.pre
  rw [lg_entry_eq]
  exact body (p, l, e, rmD d1, s, m, avs.toArray, below, meth, c, nL, 0, 0, _) ⟨B.exec, B.bytes, hml, findClass_of_methodNamed B.named, fun w hw => hts w (List.mem_cons_of_mem _ hw), B.notSynchronized, rfl, rfl⟩ ⟨rfl, rfl⟩ ⟨rfl, B.returns⟩ s.heap [] _ hY va_S.rf (lv_entry avs hn)
theorem met_v {l : Launch} {y : MethodName} {nL d1 : Nat} {E : xE} {S S' : xSt} {avs : List Value}  (hy : plainName y.cls = true) (hn : (lg_sl avs).length ≤ nL) (body : ∀ K, xOK K cc y.cls nL (rmD d1) → xZ K → xEnd K E (none) (YQv E S') → WG K E 0 (lv_args 0 avs) [] S) : Met l y (xws y cc nL (none)) (rmD d1) (YPc E avs S) (YQv E S') 0 0 (xA E) := by
  refine Met.ofW (cc := cc) (maxL := nL) (ret := none) hy rfl ?_
  intro p e s m args below meth c s₁ B hml hv
  obtain ⟨rfl, hY⟩ := hv
  have hts := atoms_spec (ws := xws y cc nL (none)) B.pre
  rw [lg_entry_eq]
  exact body (p, l, e, rmD d1, s, m, avs.toArray, below, meth, c, nL, 0, 0, _) ⟨B.exec, B.bytes, hml, findClass_of_methodNamed B.named, fun w hw => hts w (List.mem_cons_of_mem _ hw), B.notSynchronized, rfl, rfl⟩ ⟨rfl, rfl⟩ ⟨rfl, B.returns⟩ s.heap [] _ hY va_S.rf (lv_entry avs hn)
theorem met_d {l : Launch} {y : MethodName} {nL d1 : Nat} {E : xE} {S S' : xSt} {avs : List Value} {v : UInt64} (hy : plainName y.cls = true) (hn : (lg_sl avs).length ≤ nL) (body : ∀ K, xOK K cc y.cls nL (rmD d1) → xZ K → xEnd K E (some .double) (YQd E v S') → WG K E 0 (lv_args 0 avs) [] S) : Met l y (xws y cc nL (some .double)) (rmD d1) (YPc E avs S) (YQd E v S') 0 0 (xA E) := by
  refine Met.ofW (cc := cc) (maxL := nL) (ret := some .double) hy rfl ?_
  intro p e s m args below meth c s₁ B hml hv
  obtain ⟨rfl, hY⟩ := hv
  have hts := atoms_spec (ws := xws y cc nL (some .double)) B.pre
  rw [lg_entry_eq]
  exact body (p, l, e, rmD d1, s, m, avs.toArray, below, meth, c, nL, 0, 0, _) ⟨B.exec, B.bytes, hml, findClass_of_methodNamed B.named, fun w hw => hts w (List.mem_cons_of_mem _ hw), B.notSynchronized, rfl, rfl⟩ ⟨rfl, rfl⟩ ⟨rfl, B.returns⟩ s.heap [] _ hY va_S.rf (lv_entry avs hn)
theorem met_f {l : Launch} {y : MethodName} {nL d1 : Nat} {E : xE} {S S' : xSt} {avs : List Value} {v : UInt32} (hy : plainName y.cls = true) (hn : (lg_sl avs).length ≤ nL) (body : ∀ K, xOK K cc y.cls nL (rmD d1) → xZ K → xEnd K E (some .float) (YQf E v S') → WG K E 0 (lv_args 0 avs) [] S) : Met l y (xws y cc nL (some .float)) (rmD d1) (YPc E avs S) (YQf E v S') 0 0 (xA E) := by
  refine Met.ofW (cc := cc) (maxL := nL) (ret := some .float) hy rfl ?_
  intro p e s m args below meth c s₁ B hml hv
  obtain ⟨rfl, hY⟩ := hv
  have hts := atoms_spec (ws := xws y cc nL (some .float)) B.pre
  rw [lg_entry_eq]
  exact body (p, l, e, rmD d1, s, m, avs.toArray, below, meth, c, nL, 0, 0, _) ⟨B.exec, B.bytes, hml, findClass_of_methodNamed B.named, fun w hw => hts w (List.mem_cons_of_mem _ hw), B.notSynchronized, rfl, rfl⟩ ⟨rfl, rfl⟩ ⟨rfl, B.returns⟩ s.heap [] _ hY va_S.rf (lv_entry avs hn)
theorem met_a {l : Launch} {y : MethodName} {nL d1 : Nat} {E : xE} {S S' : xSt} {avs : List Value} {v : Nat} (hy : plainName y.cls = true) (hn : (lg_sl avs).length ≤ nL) (body : ∀ K, xOK K cc y.cls nL (rmD d1) → xZ K → xEnd K E (some (.object "java/lang/String")) (YQa E v S') → WG K E 0 (lv_args 0 avs) [] S) : Met l y (xws y cc nL (some (.object "java/lang/String"))) (rmD d1) (YPc E avs S) (YQa E v S') 0 0 (xA E) := by
  refine Met.ofW (cc := cc) (maxL := nL) (ret := some (.object "java/lang/String")) hy rfl ?_
  intro p e s m args below meth c s₁ B hml hv
  obtain ⟨rfl, hY⟩ := hv
  have hts := atoms_spec (ws := xws y cc nL (some (.object "java/lang/String"))) B.pre
  rw [lg_entry_eq]
  exact body (p, l, e, rmD d1, s, m, avs.toArray, below, meth, c, nL, 0, 0, _) ⟨B.exec, B.bytes, hml, findClass_of_methodNamed B.named, fun w hw => hts w (List.mem_cons_of_mem _ hw), B.notSynchronized, rfl, rfl⟩ ⟨rfl, rfl⟩ ⟨rfl, B.returns⟩ s.heap [] _ hY va_S.rf (lv_entry avs hn)
end GC
