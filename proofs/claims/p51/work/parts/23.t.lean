def SPc (E : xE) (B : Nat) (av : List Value) (S : xSt) (ws : sW) : Array Value → State → Prop := va_Pc av (fun U => YW E S U U.heap ∧ PS E B ws U U.heap)
theorem SPc_blind {E : xE} {B : Nat} {av : List Value} {S : xSt} {ws : sW} : FrameBlind (SPc E B av S ws) := fun a U g mk q => ⟨q.1, YW_same (u := U) rfl q.2.1, PS_moved (u := U) (U := U.calling g mk a) (Vm.Alike.refl U.vm) q.2.2⟩
def SQi (E : xE) (B : Nat) (v : Int) (S : xSt) (ws : sW) : Array Value → State → Outcome → State → Prop := va_Qi (fun r (_ : Unit) => r = Int32.ofInt v) (fun _ t => YW E S t t.heap ∧ PS E B ws t t.heap) (fun a => B ≤ a)
def SQv (E : xE) (B : Nat) (S : xSt) (post : sW → Prop) : Array Value → State → Outcome → State → Prop := va_Qv post (fun u t => YW E S t t.heap ∧ PS E B u t t.heap) (fun a => B ≤ a)
def SQr (E : xE) (B : Nat) (S : xSt) (post : Nat → sW → Prop) : Array Value → State → Outcome → State → Prop := va_Qr (fun (_ : sW) => True) (fun u a t => post a u ∧ YW E S t t.heap ∧ PS E B u t t.heap) (fun a => B ≤ a)
theorem PreSS {E : xE} {B : Nat} {S : xSt} {ws : sW} {s : State} {H : Heap} {As : List Value} (hY : YW E S s H) (hP : PS E B ws s H) : PreS s H (SPc E B As S ws) As := ⟨SPc_blind, fun U hU hW => ⟨rfl, by rw [hU]; exact YW_warm hW hY, by rw [hU]; exact PS_moved hW.alike hP⟩⟩
theorem PreSV {E : xE} {B : Nat} {S : xSt} {ws : sW} {s : State} {H : Heap} {As : List Value} {a ci : Nat} {fs : List Value} {C : String} {T : u_T} {N : Nat} {ty : Nat → FieldType} (hY : YW E S s H) (hP : PS E B ws s H) (q0 : Nat) (hq0 : ws[q0]? = some (a, .inl (ci, fs))) (hc : xCl ci C T N ty) : PreV s H C a (SPc E B (.ref a :: As) S ws) As := by
  refine ⟨SPc_blind, ?_, fun U hU hW => ⟨rfl, by rw [hU]; exact YW_warm hW hY, by rw [hU]; exact PS_moved hW.alike hP⟩⟩
  obtain ⟨⟨r, h1, hlen, cell, q1, q2, q3, q4⟩, hdis⟩ := hP.2.1 _ (List.mem_of_getElem? hq0)
  cases h1.symm.trans hc.1
  exact ⟨cell, q1, by rw [q3]; rfl, by rw [q2]; exact (hY.1.1.1 ci _ hc.1).2.1⟩
theorem PreST {E : xE} {B : Nat} {S : xSt} {ws : sW} {s : State} {H : Heap} {As : List Value} {q : Nat} (hY : YW E S s H) (hP : PS E B ws s H) (hq : q < xldc.length) : PreV s H "java/lang/String" (xaK E q) (SPc E B (vs E q :: As) S ws) As := by
  refine ⟨SPc_blind, ?_, fun U hU hW => ⟨rfl, by rw [hU]; exact YW_warm hW hY, by rw [hU]; exact PS_moved hW.alike hP⟩⟩
  obtain ⟨cell, h1, h2, h3, h4⟩ := (hY.1.2.2.2.1.2.2 q _ (List.getElem?_eq_getElem hq)).1
  exact ⟨cell, h1, h2, h3⟩
def mU (y : MethodName) (bytes : ByteArray) (maxL : Nat) (ret : Option FieldType) (na : Nat) : Prop := (Cond.sameMethod RJ5 RJ5 y.name y.desc ∈ xw ∧ Cond.instanceMethod y ∈ xw ∧ Cond.initialized RJ5 ∈ xw ∧ Cond.code y bytes maxL ret ∈ xw) ∧ (y.cls = RJ5 ∧ (parseMethodDescriptor y.desc).map (fun d => d.parameters.length) = some na) ∧ maxL ≤ 9
theorem cw_LN {R : Room} {s : State} {args : Array Value} {own C : String} {y : MethodName} {bytes : ByteArray} {maxL : Nat} {ret : Option FieldType} {na idx d' mc ms : Nat} (hts : ∀ w ∈ xw, w.before args s = true) (hy : mI y C bytes maxL ret na) (hlink : Cond.methodLink own idx y ∈ xw) (hR : d' + 1 ≤ R.frames ∧ 28 * (d' + 1) ≤ R.locals) : CallW R s args own C idx y bytes maxL ret (xws y bytes maxL ret) (rmN d' mc ms) mc ms na := by
  refine cwV na hts (good_all fun w hw => ?_) rfl rfl rfl hy.2.1 (rm_n2 hR hy.2.2)
  rcases List.mem_append.mp hw with h | h
  · simp only [List.mem_cons, List.not_mem_nil, or_false] at h
    rcases h with rfl | rfl | rfl | rfl
    · exact hlink
    · exact hy.1.1
    · exact hy.1.2.1
    · exact hy.1.2.2.1
  · rcases List.mem_cons.mp h with rfl | h
    · exact hy.1.2.2.2
    · exact h
theorem cw_U {R : Room} {s : State} {args : Array Value} {own : String} {x y : MethodName} {bytes b0 : ByteArray} {maxL m0 : Nat} {ret r0 : Option FieldType} {na idx d' mc ms : Nat} (hts : ∀ w ∈ xw, w.before args s = true) (hx : x.cls = RJ5 ∧ (parseMethodDescriptor x.desc).map (fun d => d.parameters.length) = some na) (hsame : Cond.sameMethod RJ5 RJ5 x.name x.desc ∈ xw) (hxi : Cond.instanceMethod x ∈ xw) (hxc : Cond.code x b0 m0 r0 ∈ xw) (hyi : Cond.instanceMethod y ∈ xw) (hini : Cond.initialized y.cls ∈ xw) (hyc : Cond.code y bytes maxL ret ∈ xw) (hm : maxL ≤ 9) (hlink : Cond.methodLink own idx x ∈ xw) (hsel : (Cond.selects RJ4 x y).before args s = true) (hR : d' + 1 ≤ R.frames ∧ 28 * (d' + 1) ≤ R.locals) : va_CU R s args own RJ4 RJ5 idx x y bytes maxL ret (xws y bytes maxL ret) (rmN d' mc ms) mc ms na := by
  have e : (⟨RJ5, x.name, x.desc⟩ : MethodName) = x := by
    rw [← hx.1]
  have hR2 := rm_n2 (a := mc) (b := ms) hR hm
  refine ⟨⟨rfl, rfl, hR2.1, hR2.2, pay_in hts (good_all fun w hw => (List.mem_cons.mp hw).elim (fun e => by rw [e]; exact hyc) id), List.mem_cons_self⟩, hts _ hyc, hts _ hini, ⟨by decide +kernel, by decide +kernel⟩, fun sig h => ?_, hts _ hlink, ?_, ?_, hsel, hts _ hyi⟩
  · have h2 := hx.2
    rw [h] at h2
    exact (Option.some.inj h2).symm
  · rw [hx.1]
    exact hts _ hsame
  · rw [e]
    exact va_Decl.of (hts _ hxi) (hts _ hxc)
theorem cw_U1 {R : Room} {s : State} {args : Array Value} {own : String} {y : MethodName} {bytes : ByteArray} {maxL : Nat} {ret : Option FieldType} {na idx d' mc ms : Nat} (hts : ∀ w ∈ xw, w.before args s = true) (hy : mU y bytes maxL ret na) (hlink : Cond.methodLink own idx y ∈ xw) (hsel : (Cond.selects RJ4 y y).before args s = true) (hR : d' + 1 ≤ R.frames ∧ 28 * (d' + 1) ≤ R.locals) : va_CU R s args own RJ4 RJ5 idx y y bytes maxL ret (xws y bytes maxL ret) (rmN d' mc ms) mc ms na :=
  cw_U hts hy.2.1 hy.1.1 hy.1.2.1 hy.1.2.2.2 hy.1.2.1 (by rw [hy.2.1.1]; exact hy.1.2.2.1) hy.1.2.2.2 hy.2.2 hlink hsel hR
def mSU (y : MethodName) (bytes : ByteArray) (maxL : Nat) (ret : Option FieldType) (na : Nat) : Prop := (Cond.sameMethod y.cls y.cls y.name y.desc ∈ xw ∧ Cond.superclass RJ4 y.cls ∈ xw ∧ Cond.instanceMethod y ∈ xw ∧ Cond.initialized y.cls ∈ xw ∧ Cond.code y bytes maxL ret ∈ xw) ∧ (y.name ≠ "<init>" ∧ (parseMethodDescriptor y.desc).map (fun d => d.parameters.length) = some na) ∧ maxL ≤ 9
theorem cw_SU {R : Room} {s : State} {args : Array Value} {y : MethodName} {bytes : ByteArray} {maxL : Nat} {ret : Option FieldType} {na idx d' mc ms : Nat} (hts : ∀ w ∈ xw, w.before args s = true) (hy : mSU y bytes maxL ret na) (hlink : Cond.methodLink RJ4 idx y ∈ xw) (hR : d' + 1 ≤ R.frames ∧ 28 * (d' + 1) ≤ R.locals) : va_CS R s args RJ4 idx y bytes maxL ret (xws y bytes maxL ret) (rmN d' mc ms) mc ms na := by
  refine va_cwSU na hts (good_all fun w hw => ?_) rfl rfl rfl hy.2.1 (rm_n2 hR hy.2.2)
  rcases List.mem_append.mp hw with h | h
  · simp only [List.mem_cons, List.not_mem_nil, or_false] at h
    rcases h with rfl | rfl | rfl | rfl | rfl
    · exact hlink
    · exact hy.1.1
    · exact hy.1.2.1
    · exact hy.1.2.2.1
    · exact hy.1.2.2.2.1
  · rcases List.mem_cons.mp h with rfl | h
    · exact hy.1.2.2.2.2
    · exact h
section SC
variable {K : xCtx} {E : xE} {B : Nat} {Ψ : xPsi} {cl sl : Nat} {cc : ByteArray} {own : String} {n : Nat} {rm : Room} {pc : Nat} {lv : List (Nat × Value)} {st : List Value} {S : xSt} {ws : sW}

theorem s_callSi (hC : xOK K cc own n rm) {y : MethodName} {bytes : ByteArray} {maxL na idx d' mc ms : Nat} {ret : Option FieldType} (hy : mS y bytes maxL ret na) (hlink : Cond.methodLink own idx y ∈ xw) (hR : d' + 1 ≤ rm.frames ∧ 28 * (d' + 1) ≤ rm.locals) (hcl : cl + mc ≤ rm.cells) (hsl : sl + ms ≤ rm.slots) (As : List Value) {st0 : List Value} (hst : st0 = As.reverse ++ st) {v : Int} {ws1 : sW} (hM : ∀ l, Met l y (xws y bytes maxL ret) (rmN d' mc ms) (SPc E B As S ws) (SQi E B v S ws1) mc ms (fun a => B ≤ a)) (hn : As.length = na) (hcat : (st.map fun v => v.category).sum ≤ 8) {pc' : Nat} (hp : pc + 3 = pc') (d : decode cc pc = .ok (.invokestatic idx, 3))
    (k : WB B (PS E B ws1) (cl + mc) (sl + ms) K E pc' lv (vi v :: st) S) : WB B (PS E B ws) cl sl K E pc lv st0 S := by
  subst hp
  obtain ⟨p, l, e, R, s, m, args, below, meth, c, nL, cl0, sl0, Q⟩ := K
  obtain ⟨hx, hb, hml, hown, hts, hlk, rfl, hRR⟩ := hC
  intro H locs ls hY hP hS hl
  subst hst hRR
  exact va_calli (va_runS (As := As) (rest := st) ⟨hx, hb, hml, hown, hts⟩ (hM l) ⟨callB_of na hts (good_all fun w hw => (List.mem_cons.mp hw).elim (fun e => by rw [e]; exact hy.1.2.2) id) rfl rfl rfl (hts _ hy.1.2.1) (hts _ hlink) hy.2.1 (rm_n2 hR hy.2.2), hts _ hy.1.1⟩ (PreSS hY hP) rfl hn hl.1 rfl (lv_room hcat) d ⟨hcl, hsl⟩) hS (fun q _ h => h) (fun q h => h) (fun r9 u t H1 locs1 ht hvm hw hB _ _ hS1 => by obtain ⟨hB1, hB2⟩ := hB; subst hw; subst ht; exact k _ locs1 ls (YW_back hY hvm hB1) (PS_moved hvm.symm hB2) hS1 hl)

theorem s_callSv (hC : xOK K cc own n rm) {y : MethodName} {bytes : ByteArray} {maxL na idx d' mc ms : Nat} {ret : Option FieldType} (hy : mS y bytes maxL ret na) (hlink : Cond.methodLink own idx y ∈ xw) (hR : d' + 1 ≤ rm.frames ∧ 28 * (d' + 1) ≤ rm.locals) (hcl : cl + mc ≤ rm.cells) (hsl : sl + ms ≤ rm.slots) (As : List Value) {st0 : List Value} (hst : st0 = As.reverse ++ st) {post : sW → Prop} (hM : ∀ l, Met l y (xws y bytes maxL ret) (rmN d' mc ms) (SPc E B As S ws) (SQv E B S post) mc ms (fun a => B ≤ a)) (hn : As.length = na) (hcat : (st.map fun v => v.category).sum ≤ 8) {pc' : Nat} (hp : pc + 3 = pc') (d : decode cc pc = .ok (.invokestatic idx, 3))
    (k : ∀ u, post u → WB B (PS E B u) (cl + mc) (sl + ms) K E pc' lv st S) : WB B (PS E B ws) cl sl K E pc lv st0 S := by
  subst hp
  obtain ⟨p, l, e, R, s, m, args, below, meth, c, nL, cl0, sl0, Q⟩ := K
  obtain ⟨hx, hb, hml, hown, hts, hlk, rfl, hRR⟩ := hC
  intro H locs ls hY hP hS hl
  subst hst hRR
  exact va_callv (va_runS (As := As) (rest := st) ⟨hx, hb, hml, hown, hts⟩ (hM l) ⟨callB_of na hts (good_all fun w hw => (List.mem_cons.mp hw).elim (fun e => by rw [e]; exact hy.1.2.2) id) rfl rfl rfl (hts _ hy.1.2.1) (hts _ hlink) hy.2.1 (rm_n2 hR hy.2.2), hts _ hy.1.1⟩ (PreSS hY hP) rfl hn hl.1 rfl (lv_room hcat) d ⟨hcl, hsl⟩) hS (fun q _ h => h) (fun q h => h) (fun u t H1 locs1 ht hvm hw hB _ _ hS1 => by obtain ⟨hB1, hB2⟩ := hB; subst ht; exact k u hw _ locs1 ls (YW_back hY hvm hB1) (PS_moved hvm.symm hB2) hS1 hl)

theorem s_callSr (hC : xOK K cc own n rm) {y : MethodName} {bytes : ByteArray} {maxL na idx d' mc ms : Nat} {ret : Option FieldType} (hy : mS y bytes maxL ret na) (hlink : Cond.methodLink own idx y ∈ xw) (hR : d' + 1 ≤ rm.frames ∧ 28 * (d' + 1) ≤ rm.locals) (hcl : cl + mc ≤ rm.cells) (hsl : sl + ms ≤ rm.slots) (As : List Value) {st0 : List Value} (hst : st0 = As.reverse ++ st) {post : Nat → sW → Prop} (hM : ∀ l, Met l y (xws y bytes maxL ret) (rmN d' mc ms) (SPc E B As S ws) (SQr E B S post) mc ms (fun a => B ≤ a)) (hn : As.length = na) (hcat : (st.map fun v => v.category).sum ≤ 8) {pc' : Nat} (hp : pc + 3 = pc') (d : decode cc pc = .ok (.invokestatic idx, 3))
    (k : ∀ a u, post a u → WB B (PS E B u) (cl + mc) (sl + ms) K E pc' lv (.ref a :: st) S) : WB B (PS E B ws) cl sl K E pc lv st0 S := by
  subst hp
  obtain ⟨p, l, e, R, s, m, args, below, meth, c, nL, cl0, sl0, Q⟩ := K
  obtain ⟨hx, hb, hml, hown, hts, hlk, rfl, hRR⟩ := hC
  intro H locs ls hY hP hS hl
  subst hst hRR
  exact va_callr (va_runS (As := As) (rest := st) ⟨hx, hb, hml, hown, hts⟩ (hM l) ⟨callB_of na hts (good_all fun w hw => (List.mem_cons.mp hw).elim (fun e => by rw [e]; exact hy.1.2.2) id) rfl rfl rfl (hts _ hy.1.2.1) (hts _ hlink) hy.2.1 (rm_n2 hR hy.2.2), hts _ hy.1.1⟩ (PreSS hY hP) rfl hn hl.1 rfl (lv_room hcat) d ⟨hcl, hsl⟩) hS (fun q _ h => h) (fun q h => h) (fun u ra t H1 locs1 ht hvm hw hB _ _ hS1 => by obtain ⟨hB0, hB1, hB2⟩ := hB; subst ht; exact k ra u hB0 _ locs1 ls (YW_back hY hvm hB1) (PS_moved hvm.symm hB2) hS1 hl)

theorem s_callVr (hC : xOK K cc own n rm) (q0 : Nat) {a ci : Nat} {fs : List Value} (hq0 : ws[q0]? = some (a, .inl (ci, fs))) {C : String} {T : u_T} {N : Nat} {ty : Nat → FieldType} (hc : xCl ci C T N ty) {y : MethodName} {bytes : ByteArray} {maxL na idx d' mc ms : Nat} {ret : Option FieldType} (hy : mI y C bytes maxL ret na) (hlink : Cond.methodLink own idx y ∈ xw) (hR : d' + 1 ≤ rm.frames ∧ 28 * (d' + 1) ≤ rm.locals) (hcl : cl + mc ≤ rm.cells) (hsl : sl + ms ≤ rm.slots) (As : List Value) {st0 : List Value} (hst : st0 = As.reverse ++ .ref a :: st) {post : Nat → sW → Prop} (hM : ∀ l, Met l y (xws y bytes maxL ret) (rmN d' mc ms) (SPc E B (.ref a :: As) S ws) (SQr E B S post) mc ms (fun a => B ≤ a)) (hn : As.length = na) (hcat : (st.map fun v => v.category).sum ≤ 8) {pc' : Nat} (hp : pc + 3 = pc') (d : decode cc pc = .ok (.invokevirtual idx, 3))
    (k : ∀ a u, post a u → WB B (PS E B u) (cl + mc) (sl + ms) K E pc' lv (.ref a :: st) S) : WB B (PS E B ws) cl sl K E pc lv st0 S := by
  subst hp
  obtain ⟨p, l, e, R, s, m, args, below, meth, c, nL, cl0, sl0, Q⟩ := K
  obtain ⟨hx, hb, hml, hown, hts, hlk, rfl, hRR⟩ := hC
  intro H locs ls hY hP hS hl
  subst hst hRR
  exact va_callr (va_runV (As := As) (rest := st) ⟨hx, hb, hml, hown, hts⟩ (hM l) (cw_LN hts hy hlink hR) (PreSV hY hP q0 hq0 hc) rfl hn hl.1 rfl (lv_room hcat) d ⟨hcl, hsl⟩) hS (fun q _ h => h) (fun q h => h) (fun u ra t H1 locs1 ht hvm hw hB _ _ hS1 => by obtain ⟨hB0, hB1, hB2⟩ := hB; subst ht; exact k ra u hB0 _ locs1 ls (YW_back hY hvm hB1) (PS_moved hvm.symm hB2) hS1 hl)

theorem s_callTv (hC : xOK K cc own n rm) {q : Nat} (hq : q < xldc.length) {y : MethodName} {bytes : ByteArray} {maxL na idx d' mc ms : Nat} {ret : Option FieldType} (hy : mI y RJ0 bytes maxL ret na) (hlink : Cond.methodLink own idx y ∈ xw) (hR : d' + 1 ≤ rm.frames ∧ 28 * (d' + 1) ≤ rm.locals) (hcl : cl + mc ≤ rm.cells) (hsl : sl + ms ≤ rm.slots) (As : List Value) {st0 : List Value} (hst : st0 = As.reverse ++ vs E q :: st) {post : sW → Prop} (hM : ∀ l, Met l y (xws y bytes maxL ret) (rmN d' mc ms) (SPc E B (vs E q :: As) S ws) (SQv E B S post) mc ms (fun a => B ≤ a)) (hn : As.length = na) (hcat : (st.map fun v => v.category).sum ≤ 8) {pc' : Nat} (hp : pc + 3 = pc') (d : decode cc pc = .ok (.invokevirtual idx, 3))
    (k : ∀ u, post u → WB B (PS E B u) (cl + mc) (sl + ms) K E pc' lv st S) : WB B (PS E B ws) cl sl K E pc lv st0 S := by
  subst hp
  obtain ⟨p, l, e, R, s, m, args, below, meth, c, nL, cl0, sl0, Q⟩ := K
  obtain ⟨hx, hb, hml, hown, hts, hlk, rfl, hRR⟩ := hC
  intro H locs ls hY hP hS hl
  subst hst hRR
  exact va_callv (va_runV (C := RJ0) (As := As) (rest := st) ⟨hx, hb, hml, hown, hts⟩ (hM l) (cw_LN hts hy hlink hR) (PreST hY hP hq) rfl hn hl.1 rfl (lv_room hcat) d ⟨hcl, hsl⟩) hS (fun q _ h => h) (fun q h => h) (fun u t H1 locs1 ht hvm hw hB _ _ hS1 => by obtain ⟨hB1, hB2⟩ := hB; subst ht; exact k u hw _ locs1 ls (YW_back hY hvm hB1) (PS_moved hvm.symm hB2) hS1 hl)

theorem s_callUi (hC : xOK K cc own n rm) (q0 : Nat) {a : Nat} {fs : List Value} (hq0 : ws[q0]? = some (a, .inl (1, fs))) {x : MethodName} {y : MethodName} {bytes : ByteArray} {maxL na idx d' mc ms : Nat} {ret : Option FieldType} (hcw : ∀ {R : Room} {s : State} {args : Array Value}, (∀ w ∈ xw, w.before args s = true) → xPr s → d' + 1 ≤ R.frames ∧ 28 * (d' + 1) ≤ R.locals → va_CU R s args own RJ4 RJ5 idx x y bytes maxL ret (xws y bytes maxL ret) (rmN d' mc ms) mc ms na) (hR : d' + 1 ≤ rm.frames ∧ 28 * (d' + 1) ≤ rm.locals) (hcl : cl + mc ≤ rm.cells) (hsl : sl + ms ≤ rm.slots) (As : List Value) {st0 : List Value} (hst : st0 = As.reverse ++ .ref a :: st) {v : Int} {ws1 : sW} (hM : ∀ l, Met l y (xws y bytes maxL ret) (rmN d' mc ms) (SPc E B (.ref a :: As) S ws) (SQi E B v S ws1) mc ms (fun a => B ≤ a)) (hn : As.length = na) (hcat : (st.map fun v => v.category).sum ≤ 8) {pc' : Nat} (hp : pc + 3 = pc') (d : decode cc pc = .ok (.invokevirtual idx, 3))
    (k : WB B (PS E B ws1) (cl + mc) (sl + ms) K E pc' lv (vi v :: st) S) : WB B (PS E B ws) cl sl K E pc lv st0 S := by
  subst hp
  obtain ⟨p, l, e, R, s, m, args, below, meth, c, nL, cl0, sl0, Q⟩ := K
  obtain ⟨hx, hb, hml, hown, hts, hlk, rfl, hRR⟩ := hC
  intro H locs ls hY hP hS hl
  subst hst hRR
  exact va_calli (va_runU (As := As) (rest := st) ⟨hx, hb, hml, hown, hts⟩ (hM l) (hcw hts hP.2.2.2 hR) (PreSV hY hP q0 hq0 kclJ4) rfl hn hl.1 rfl (lv_room hcat) d ⟨hcl, hsl⟩) hS (fun q _ h => h) (fun q h => h) (fun r9 u t H1 locs1 ht hvm hw hB _ _ hS1 => by obtain ⟨hB1, hB2⟩ := hB; subst hw; subst ht; exact k _ locs1 ls (YW_back hY hvm hB1) (PS_moved hvm.symm hB2) hS1 hl)

theorem s_callUv (hC : xOK K cc own n rm) (q0 : Nat) {a : Nat} {fs : List Value} (hq0 : ws[q0]? = some (a, .inl (1, fs))) {x : MethodName} {y : MethodName} {bytes : ByteArray} {maxL na idx d' mc ms : Nat} {ret : Option FieldType} (hcw : ∀ {R : Room} {s : State} {args : Array Value}, (∀ w ∈ xw, w.before args s = true) → xPr s → d' + 1 ≤ R.frames ∧ 28 * (d' + 1) ≤ R.locals → va_CU R s args own RJ4 RJ5 idx x y bytes maxL ret (xws y bytes maxL ret) (rmN d' mc ms) mc ms na) (hR : d' + 1 ≤ rm.frames ∧ 28 * (d' + 1) ≤ rm.locals) (hcl : cl + mc ≤ rm.cells) (hsl : sl + ms ≤ rm.slots) (As : List Value) {st0 : List Value} (hst : st0 = As.reverse ++ .ref a :: st) {post : sW → Prop} (hM : ∀ l, Met l y (xws y bytes maxL ret) (rmN d' mc ms) (SPc E B (.ref a :: As) S ws) (SQv E B S post) mc ms (fun a => B ≤ a)) (hn : As.length = na) (hcat : (st.map fun v => v.category).sum ≤ 8) {pc' : Nat} (hp : pc + 3 = pc') (d : decode cc pc = .ok (.invokevirtual idx, 3))
    (k : ∀ u, post u → WB B (PS E B u) (cl + mc) (sl + ms) K E pc' lv st S) : WB B (PS E B ws) cl sl K E pc lv st0 S := by
  subst hp
  obtain ⟨p, l, e, R, s, m, args, below, meth, c, nL, cl0, sl0, Q⟩ := K
  obtain ⟨hx, hb, hml, hown, hts, hlk, rfl, hRR⟩ := hC
  intro H locs ls hY hP hS hl
  subst hst hRR
  exact va_callv (va_runU (As := As) (rest := st) ⟨hx, hb, hml, hown, hts⟩ (hM l) (hcw hts hP.2.2.2 hR) (PreSV hY hP q0 hq0 kclJ4) rfl hn hl.1 rfl (lv_room hcat) d ⟨hcl, hsl⟩) hS (fun q _ h => h) (fun q h => h) (fun u t H1 locs1 ht hvm hw hB _ _ hS1 => by obtain ⟨hB1, hB2⟩ := hB; subst ht; exact k u hw _ locs1 ls (YW_back hY hvm hB1) (PS_moved hvm.symm hB2) hS1 hl)

theorem s_callUr (hC : xOK K cc own n rm) (q0 : Nat) {a : Nat} {fs : List Value} (hq0 : ws[q0]? = some (a, .inl (1, fs))) {x : MethodName} {y : MethodName} {bytes : ByteArray} {maxL na idx d' mc ms : Nat} {ret : Option FieldType} (hcw : ∀ {R : Room} {s : State} {args : Array Value}, (∀ w ∈ xw, w.before args s = true) → xPr s → d' + 1 ≤ R.frames ∧ 28 * (d' + 1) ≤ R.locals → va_CU R s args own RJ4 RJ5 idx x y bytes maxL ret (xws y bytes maxL ret) (rmN d' mc ms) mc ms na) (hR : d' + 1 ≤ rm.frames ∧ 28 * (d' + 1) ≤ rm.locals) (hcl : cl + mc ≤ rm.cells) (hsl : sl + ms ≤ rm.slots) (As : List Value) {st0 : List Value} (hst : st0 = As.reverse ++ .ref a :: st) {post : Nat → sW → Prop} (hM : ∀ l, Met l y (xws y bytes maxL ret) (rmN d' mc ms) (SPc E B (.ref a :: As) S ws) (SQr E B S post) mc ms (fun a => B ≤ a)) (hn : As.length = na) (hcat : (st.map fun v => v.category).sum ≤ 8) {pc' : Nat} (hp : pc + 3 = pc') (d : decode cc pc = .ok (.invokevirtual idx, 3))
    (k : ∀ a u, post a u → WB B (PS E B u) (cl + mc) (sl + ms) K E pc' lv (.ref a :: st) S) : WB B (PS E B ws) cl sl K E pc lv st0 S := by
  subst hp
  obtain ⟨p, l, e, R, s, m, args, below, meth, c, nL, cl0, sl0, Q⟩ := K
  obtain ⟨hx, hb, hml, hown, hts, hlk, rfl, hRR⟩ := hC
  intro H locs ls hY hP hS hl
  subst hst hRR
  exact va_callr (va_runU (As := As) (rest := st) ⟨hx, hb, hml, hown, hts⟩ (hM l) (hcw hts hP.2.2.2 hR) (PreSV hY hP q0 hq0 kclJ4) rfl hn hl.1 rfl (lv_room hcat) d ⟨hcl, hsl⟩) hS (fun q _ h => h) (fun q h => h) (fun u ra t H1 locs1 ht hvm hw hB _ _ hS1 => by obtain ⟨hB0, hB1, hB2⟩ := hB; subst ht; exact k ra u hB0 _ locs1 ls (YW_back hY hvm hB1) (PS_moved hvm.symm hB2) hS1 hl)

theorem s_ctor (hC : xOK K cc own n rm) {a : Nat} {y : MethodName} {bytes : ByteArray} {maxL na idx d' mc ms : Nat} (hy : mC y bytes maxL na) (hlink : Cond.methodLink own idx y ∈ xw) (hR : d' + 1 ≤ rm.frames ∧ 28 * (d' + 1) ≤ rm.locals) (hcl : cl + mc ≤ rm.cells) (hsl : sl + ms ≤ rm.slots) (As : List Value) {st0 : List Value} (hst : st0 = As.reverse ++ .ref a :: st) {post : sW → Prop} (hM : ∀ l, Met l y (xws y bytes maxL none) (rmN d' mc ms) (SPc E B (.ref a :: As) S ws) (SQv E B S post) mc ms (fun a => B ≤ a)) (hn : As.length = na) (hcat : (st.map fun v => v.category).sum ≤ 8) {pc' : Nat} (hp : pc + 3 = pc') (d : decode cc pc = .ok (.invokespecial idx, 3))
    (k : ∀ u, post u → WB B (PS E B u) (cl + mc) (sl + ms) K E pc' lv st S) : WB B (PS E B ws) cl sl K E pc lv st0 S := by
  subst hp
  obtain ⟨p, l, e, R, s, m, args, below, meth, c, nL, cl0, sl0, Q⟩ := K
  obtain ⟨hx, hb, hml, hown, hts, hlk, rfl, hRR⟩ := hC
  intro H locs ls hY hP hS hl
  subst hst hRR
  exact va_callv (va_runI (As := As) (rest := st) ⟨hx, hb, hml, hown, hts⟩ (hM l) (cwI na hts (good_c hy.1.2.2) rfl rfl rfl (hts _ hy.1.2.1) (hts _ hlink) (hts _ hy.1.1) hy.2.1 hy.2.2.1 (rm_n2 hR hy.2.2.2)) (PreSS hY hP) rfl hn hl.1 rfl (lv_room hcat) d ⟨hcl, hsl⟩) hS (fun q _ h => h) (fun q h => h) (fun u t H1 locs1 ht hvm hw hB _ _ hS1 => by obtain ⟨hB1, hB2⟩ := hB; subst ht; exact k u hw _ locs1 ls (YW_back hY hvm hB1) (PS_moved hvm.symm hB2) hS1 hl)

theorem s_callSUr (hC : xOK K cc RJ4 n rm) (q0 : Nat) {a : Nat} {fs : List Value} (hq0 : ws[q0]? = some (a, .inl (1, fs))) {y : MethodName} {bytes : ByteArray} {maxL na idx d' mc ms : Nat} {ret : Option FieldType} (hy : mSU y bytes maxL ret na) (hlink : Cond.methodLink RJ4 idx y ∈ xw) (hR : d' + 1 ≤ rm.frames ∧ 28 * (d' + 1) ≤ rm.locals) (hcl : cl + mc ≤ rm.cells) (hsl : sl + ms ≤ rm.slots) (As : List Value) {st0 : List Value} (hst : st0 = As.reverse ++ .ref a :: st) {post : Nat → sW → Prop} (hM : ∀ l, Met l y (xws y bytes maxL ret) (rmN d' mc ms) (SPc E B (.ref a :: As) S ws) (SQr E B S post) mc ms (fun a => B ≤ a)) (hn : As.length = na) (hcat : (st.map fun v => v.category).sum ≤ 8) {pc' : Nat} (hp : pc + 3 = pc') (d : decode cc pc = .ok (.invokespecial idx, 3))
    (k : ∀ a u, post a u → WB B (PS E B u) (cl + mc) (sl + ms) K E pc' lv (.ref a :: st) S) : WB B (PS E B ws) cl sl K E pc lv st0 S := by
  subst hp
  obtain ⟨p, l, e, R, s, m, args, below, meth, c, nL, cl0, sl0, Q⟩ := K
  obtain ⟨hx, hb, hml, hown, hts, hlk, rfl, hRR⟩ := hC
  intro H locs ls hY hP hS hl
  subst hst hRR
  have hK := (hY.1.1.1 1 _ kclJ4.1).2
  obtain ⟨kC, hkC, hkind⟩ := hK.2
  exact va_callr (va_runSU (C := RJ4) (As := As) (rest := st) ⟨hK.1, kC, hkC, hkind⟩ ⟨hx, hb, hml, hown, hts⟩ (hM l) (cw_SU hts hy hlink hR) (PreSV hY hP q0 hq0 kclJ4) rfl hn hl.1 rfl (lv_room hcat) d ⟨hcl, hsl⟩) hS (fun q _ h => h) (fun q h => h) (fun u ra t H1 locs1 ht hvm hw hB _ _ hS1 => by obtain ⟨hB0, hB1, hB2⟩ := hB; subst ht; exact k ra u hB0 _ locs1 ls (YW_back hY hvm hB1) (PS_moved hvm.symm hB2) hS1 hl)

theorem s_callSUi (hC : xOK K cc RJ4 n rm) (q0 : Nat) {a : Nat} {fs : List Value} (hq0 : ws[q0]? = some (a, .inl (1, fs))) {y : MethodName} {bytes : ByteArray} {maxL na idx d' mc ms : Nat} {ret : Option FieldType} (hy : mSU y bytes maxL ret na) (hlink : Cond.methodLink RJ4 idx y ∈ xw) (hR : d' + 1 ≤ rm.frames ∧ 28 * (d' + 1) ≤ rm.locals) (hcl : cl + mc ≤ rm.cells) (hsl : sl + ms ≤ rm.slots) (As : List Value) {st0 : List Value} (hst : st0 = As.reverse ++ .ref a :: st) {v : Int} {ws1 : sW} (hM : ∀ l, Met l y (xws y bytes maxL ret) (rmN d' mc ms) (SPc E B (.ref a :: As) S ws) (SQi E B v S ws1) mc ms (fun a => B ≤ a)) (hn : As.length = na) (hcat : (st.map fun v => v.category).sum ≤ 8) {pc' : Nat} (hp : pc + 3 = pc') (d : decode cc pc = .ok (.invokespecial idx, 3))
    (k : WB B (PS E B ws1) (cl + mc) (sl + ms) K E pc' lv (vi v :: st) S) : WB B (PS E B ws) cl sl K E pc lv st0 S := by
  subst hp
  obtain ⟨p, l, e, R, s, m, args, below, meth, c, nL, cl0, sl0, Q⟩ := K
  obtain ⟨hx, hb, hml, hown, hts, hlk, rfl, hRR⟩ := hC
  intro H locs ls hY hP hS hl
  subst hst hRR
  have hK := (hY.1.1.1 1 _ kclJ4.1).2
  obtain ⟨kC, hkC, hkind⟩ := hK.2
  exact va_calli (va_runSU (C := RJ4) (As := As) (rest := st) ⟨hK.1, kC, hkC, hkind⟩ ⟨hx, hb, hml, hown, hts⟩ (hM l) (cw_SU hts hy hlink hR) (PreSV hY hP q0 hq0 kclJ4) rfl hn hl.1 rfl (lv_room hcat) d ⟨hcl, hsl⟩) hS (fun q _ h => h) (fun q h => h) (fun r9 u t H1 locs1 ht hvm hw hB _ _ hS1 => by obtain ⟨hB1, hB2⟩ := hB; subst hw; subst ht; exact k _ locs1 ls (YW_back hY hvm hB1) (PS_moved hvm.symm hB2) hS1 hl)

theorem b_callTi (hC : xOK K cc own n rm) (hΨ : (∀ a, xA E a → B ≤ a) ∧ xKeep E Ψ) (hz : cl ≤ rm.cells ∧ sl ≤ rm.slots) {q : Nat} (hq : q < xldc.length) {y : MethodName} {bytes : ByteArray} {maxL na idx d' : Nat} (hy : mI y RJ0 bytes maxL (some .int) na) (hlink : Cond.methodLink own idx y ∈ xw) (hR : d' + 1 ≤ rm.frames ∧ 28 * (d' + 1) ≤ rm.locals) (As : List Value) {st0 : List Value} (hst : st0 = As.reverse ++ vs E q :: st) {v : Int} {S1 : xSt} (hM : ∀ l, Met l y (xws y bytes maxL (some .int)) (rmD d') (YPc E (vs E q :: As) S) (YQi E v S1) 0 0 (xA E)) (hn : As.length = na) (hcat : (st.map fun v => v.category).sum ≤ 8) {pc' : Nat} (hp : pc + 3 = pc') (d : decode cc pc = .ok (.invokevirtual idx, 3))
    (k : WB B Ψ cl sl K E pc' lv (vi v :: st) S1) : WB B Ψ cl sl K E pc lv st0 S := by
  subst hp
  obtain ⟨p, l, e, R, s, m, args, below, meth, c, nL, cl0, sl0, Q⟩ := K
  obtain ⟨hx, hb, hml, hown, hts, hlk, rfl, hRR⟩ := hC
  intro H locs ls hY hP hS hl
  subst hst hRR
  exact va_calli (va_runV (C := RJ0) (As := As) (rest := st) ⟨hx, hb, hml, hown, hts⟩ (hM l) (cw_L hts hy hlink hR) (YPreT hY hq) rfl hn hl.1 rfl (lv_room hcat) d ⟨hz.1, hz.2⟩) hS (fun q _ h => hΨ.1 q h) (fun q h => hΨ.1 q h) (fun r9 u t H1 locs1 ht hvm hw hB hz9 hk9 hS1 => by subst hw; subst ht; exact k _ locs1 ls (YW_back hY hvm hB) (hΨ.2 _ _ _ hP hz9 hk9) hS1 hl)

theorem b_callTb (hC : xOK K cc own n rm) (hΨ : (∀ a, xA E a → B ≤ a) ∧ xKeep E Ψ) (hz : cl ≤ rm.cells ∧ sl ≤ rm.slots) {q : Nat} (hq : q < xldc.length) {y : MethodName} {bytes : ByteArray} {maxL na idx d' : Nat} (hy : mI y RJ0 bytes maxL (some .byte) na) (hlink : Cond.methodLink own idx y ∈ xw) (hR : d' + 1 ≤ rm.frames ∧ 28 * (d' + 1) ≤ rm.locals) (As : List Value) {st0 : List Value} (hst : st0 = As.reverse ++ vs E q :: st) {v : Int} {S1 : xSt} (hM : ∀ l, Met l y (xws y bytes maxL (some .byte)) (rmD d') (YPc E (vs E q :: As) S) (YQb E v S1) 0 0 (xA E)) (hn : As.length = na) (hcat : (st.map fun v => v.category).sum ≤ 8) {pc' : Nat} (hp : pc + 3 = pc') (d : decode cc pc = .ok (.invokevirtual idx, 3))
    (k : narrow .byte (vi v) = vi v → WB B Ψ cl sl K E pc' lv (vi v :: st) S1) : WB B Ψ cl sl K E pc lv st0 S := by
  subst hp
  obtain ⟨p, l, e, R, s, m, args, below, meth, c, nL, cl0, sl0, Q⟩ := K
  obtain ⟨hx, hb, hml, hown, hts, hlk, rfl, hRR⟩ := hC
  intro H locs ls hY hP hS hl
  subst hst hRR
  exact va_calli (va_runV (C := RJ0) (As := As) (rest := st) ⟨hx, hb, hml, hown, hts⟩ (hM l) (cw_L hts hy hlink hR) (YPreT hY hq) rfl hn hl.1 rfl (lv_room hcat) d ⟨hz.1, hz.2⟩) hS (fun q _ h => hΨ.1 q h) (fun q h => hΨ.1 q h) (fun r9 u t H1 locs1 ht hvm hw hB hz9 hk9 hS1 => by obtain ⟨hw, hb9⟩ := hw; subst hw; subst ht; exact k hb9 _ locs1 ls (YW_back hY hvm hB) (hΨ.2 _ _ _ hP hz9 hk9) hS1 hl)

theorem s_iret (hC : xOK K cc own n rm) {v : Int} (hE : xEndB K cl sl (some .int) (fun a => B ≤ a) (SQi E B v S ws)) (d : decode cc pc = .ok (.ireturn, 1)) : WB B (PS E B ws) cl sl K E pc lv [vi v] S := by
  obtain ⟨p, l, e, R, s, m, args, below, meth, c, nL, cl0, sl0, Q⟩ := K
  obtain ⟨hx, hb, hml, hown, hts, hlk, rfl, hRR⟩ := hC
  intro H locs ls hY hP hS hl
  obtain ⟨rfl, hr⟩ := hE
  exact W.iret hx hb hr (fun t ht hW => ⟨⟨Int32.ofInt v, (), rfl, rfl, (show YW E S t t.heap by rw [ht]; exact YW_warm hW hY), (show PS E B ws t t.heap by rw [ht]; exact PS_moved hW.alike hP)⟩, hS.F ht⟩) hS.2.2 d hlk
theorem s_zret (hC : xOK K cc own n rm) {v : Int} (hE : xEndB K cl sl (some .boolean) (fun a => B ≤ a) (SQi E B v S ws)) (hz : v = 0 ∨ v = 1) (d : decode cc pc = .ok (.ireturn, 1)) : WB B (PS E B ws) cl sl K E pc lv [vi v] S := by
  obtain ⟨p, l, e, R, s, m, args, below, meth, c, nL, cl0, sl0, Q⟩ := K
  obtain ⟨hx, hb, hml, hown, hts, hlk, rfl, hRR⟩ := hC
  intro H locs ls hY hP hS hl
  obtain ⟨rfl, hr⟩ := hE
  exact W.zret hx hb hr (xB_n (xB_z hz)) (fun t ht hW => ⟨⟨Int32.ofInt v, (), rfl, rfl, (show YW E S t t.heap by rw [ht]; exact YW_warm hW hY), (show PS E B ws t t.heap by rw [ht]; exact PS_moved hW.alike hP)⟩, hS.F ht⟩) hS.2.2 d hlk
theorem s_vret (hC : xOK K cc own n rm) {post : sW → Prop} (hE : xEndB K cl sl none (fun a => B ≤ a) (SQv E B S post)) (hp : post ws) (d : decode cc pc = .ok (.return_, 1)) : WB B (PS E B ws) cl sl K E pc lv [] S := by
  obtain ⟨p, l, e, R, s, m, args, below, meth, c, nL, cl0, sl0, Q⟩ := K
  obtain ⟨hx, hb, hml, hown, hts, hlk, rfl, hRR⟩ := hC
  intro H locs ls hY hP hS hl
  obtain ⟨rfl, hr⟩ := hE
  exact W.vret hx hb hr (fun t ht hW => ⟨⟨ws, rfl, hp, (show YW E S t t.heap by rw [ht]; exact YW_warm hW hY), (show PS E B ws t t.heap by rw [ht]; exact PS_moved hW.alike hP)⟩, hS.F ht⟩) hS.2.2 d hlk
theorem s_aret (hC : xOK K cc own n rm) {rt : FieldType} (hrt : (∃ n, rt = .object n) ∨ ∃ t, rt = .array t) {post : Nat → sW → Prop} {a : Nat} (hE : xEndB K cl sl (some rt) (fun a => B ≤ a) (SQr E B S post)) (hp : post a ws) (d : decode cc pc = .ok (.areturn, 1)) : WB B (PS E B ws) cl sl K E pc lv [.ref a] S := by
  obtain ⟨p, l, e, R, s, m, args, below, meth, c, nL, cl0, sl0, Q⟩ := K
  obtain ⟨hx, hb, hml, hown, hts, hlk, rfl, hRR⟩ := hC
  intro H locs ls hY hP hS hl
  obtain ⟨rfl, hr⟩ := hE
  exact W.aret hx hb hr hrt (Or.inr ⟨_, rfl⟩) (fun t ht hW => ⟨⟨ws, a, rfl, trivial, hp, (show YW E S t t.heap by rw [ht]; exact YW_warm hW hY), (show PS E B ws t t.heap by rw [ht]; exact PS_moved hW.alike hP)⟩, hS.F ht⟩) hS.2.2 d hlk
theorem metS {l : Launch} {y : MethodName} {nL d1 mc ms : Nat} {avs : List Value} {ret : Option FieldType} {Qc : Array Value → State → Outcome → State → Prop} (hy : plainName y.cls = true) (hn : (lg_sl avs).length ≤ nL) (body : ∀ K, xOK K cc y.cls nL (rmN d1 mc ms) → xEndB K mc ms ret (fun a => B ≤ a) Qc → WB B (PS E B ws) 0 0 K E 0 (lv_args 0 avs) [] S) : Met l y (xws y cc nL ret) (rmN d1 mc ms) (SPc E B avs S ws) Qc mc ms (fun a => B ≤ a) := by
  refine Met.ofW (cc := cc) (maxL := nL) (ret := ret) hy rfl ?_
  intro p e s m args below meth c s₁ B9 hml hv
  obtain ⟨rfl, hY, hP⟩ := hv
  have hts := atoms_spec (ws := xws y cc nL ret) B9.pre
  rw [lg_entry_eq]
  exact body (p, l, e, rmN d1 mc ms, s, m, avs.toArray, below, meth, c, nL, 0, 0, _) ⟨B9.exec, B9.bytes, hml, findClass_of_methodNamed B9.named, fun w hw => hts w (List.mem_cons_of_mem _ hw), B9.notSynchronized, rfl, rfl⟩ ⟨rfl, B9.returns⟩ s.heap [] _ hY hP va_S.rf (lv_entry avs hn)
theorem metSI {l : Launch} {y : MethodName} {nL d1 mc ms : Nat} {avs : List Value} {Qc : Array Value → State → Outcome → State → Prop} (hy : plainName y.cls = true) (hnm : y.name = "<init>") (hn : (lg_sl avs).length ≤ nL) (body : ∀ K, xOKN K cc y.cls nL (rmN d1 mc ms) → xEndB K mc ms none (fun a => B ≤ a) Qc → WB B (PS E B ws) 0 0 K E 0 (lv_args 0 avs) [] S) : Met l y (xws y cc nL none) (rmN d1 mc ms) (SPc E B avs S ws) Qc mc ms (fun a => B ≤ a) := by
  refine Met.ofW (cc := cc) (maxL := nL) (ret := none) hy rfl ?_
  intro p e s m args below meth c s₁ B9 hml hv
  obtain ⟨rfl, hY, hP⟩ := hv
  have hts := atoms_spec (ws := xws y cc nL none) B9.pre
  rw [lg_entry_eq]
  exact body (p, l, e, rmN d1 mc ms, s, m, avs.toArray, below, meth, c, nL, 0, 0, _) ⟨⟨B9.exec, B9.bytes, hml, findClass_of_methodNamed B9.named, fun w hw => hts w (List.mem_cons_of_mem _ hw), B9.notSynchronized, rfl, rfl⟩, ((name_of_methodNamed B9.named B9.method).1.trans hnm)⟩ ⟨rfl, B9.returns⟩ s.heap [] _ hY hP va_S.rf (lv_entry avs hn)
theorem s_objInit (hC : xOK K cc own n rm) {idx a : Nat} (h1 : Cond.methodLink own idx objectInit ∈ xw) (h2 : Cond.instanceMethod objectInit ∈ xw) (h3 : Cond.code objectInit ⟨#[0xb1]⟩ 1 none ∈ xw) (hf : 1 ≤ rm.frames) (hlo : (st.map fun v => v.category).sum + 12 ≤ rm.locals) {pc' : Nat} (hp : pc + 3 = pc') (d : decode cc pc = .ok (.invokespecial idx, 3))
    (k : WB B Ψ cl sl K E pc' lv st S) : WB B Ψ cl sl K E pc lv (.ref a :: st) S := by
  subst hp
  obtain ⟨p, l, e, R, s, m, args, below, meth, c, nL, cl0, sl0, Q⟩ := K
  obtain ⟨hx, hb, hml, hown, hts, hlk, rfl, hRR⟩ := hC
  intro H locs ls hY hP hS hl
  refine W.objInit hx hb hown (hts _ h1) (hts _ h2) (hts _ h3) rfl (by rw [hml]; exact hl.1) rfl d (by rw [hRR]; exact hf) (by rw [hRR]; show 2 * 0 + _ + 12 ≤ _; omega) ?_
  exact k H locs ls hY hP hS hl
theorem s_norm {ws' : sW} (h : ws = ws') (k : WB B (PS E B ws') cl sl K E pc lv st S) : WB B (PS E B ws) cl sl K E pc lv st S := by subst h; exact k
theorem PS_pick {U : State} {H : Heap} (h : PS E B ws U H) (ks : List Nat) (hn : ks.Nodup) : PS E B (ks.filterMap (fun k => ws[k]?)) U H := by
  refine ⟨h.1, fun q hq => ?_, List.pairwise_filterMap.mpr (hn.imp (fun hne b hb b' hb' => PS_ne h.2.2.1 hb hb' hne)), h.2.2.2⟩
  obtain ⟨k, -, hk⟩ := List.mem_filterMap.mp hq
  exact h.2.1 q (List.mem_of_getElem? hk)
theorem s_pick (ks : List Nat) (hn : ks.Nodup) {ws' : sW} (hw : ks.filterMap (fun k => ws[k]?) = ws') (k : WB B (PS E B ws') cl sl K E pc lv st S) : WB B (PS E B ws) cl sl K E pc lv st S := by subst hw; exact b_psi (fun _ _ h => PS_pick h ks hn) k
theorem s_weak {ws' : sW} (hs : ws'.Sublist ws) (k : WB B (PS E B ws') cl sl K E pc lv st S) : WB B (PS E B ws) cl sl K E pc lv st S := b_psi (fun _ _ h => PS_sub h hs) k
theorem s_eqf (q0 : Nat) {a N : Nat} {f g : Nat → Int} (hq0 : ws[q0]? = some (a, .inr (N, f))) (hf : ∀ j, j < N → f j = g j) (k : WB B (PS E B (ws.set q0 (a, .inr (N, g)))) cl sl K E pc lv st S) : WB B (PS E B ws) cl sl K E pc lv st S := b_psi (fun _ _ h => PS_congr h hq0 hf) k
end SC
