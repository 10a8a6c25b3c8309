/-- room left -/
def xZr (K : xCtx) (rm : Room) (a b : Nat) : Prop := match K with
  | (p, l, e, R, s, m, args, below, meth, c, nL, cl, sl, Q) => cl + a ≤ rm.cells ∧ sl + b ≤ rm.slots
def xTr (K : xCtx) : Prop := match K with
  | (p, l, e, R, s, m, args, below, meth, c, nL, cl, sl, Q) => l.stackTraces = false
def kc (K : xCtx) (b0 b1 k : Nat) : xCtx := match K with
  | (p, l, e, R, s, m, args, below, meth, c, nL, cl, sl, Q) => (p, l, e, R, s, m, args, below, meth, c, nL, b0 + k, b1 + 6 * k, Q)
theorem bump_kc (K : xCtx) (b0 b1 k : Nat) : bump (kc K b0 b1 k) = kc K b0 b1 (k + 1) := by
  obtain ⟨p, l, e, R, s, m, args, below, meth, c, nL, cl, sl, Q⟩ := K
  rfl
theorem rm_gen {R : Room} {d' maxL : Nat} (h : d' + 1 ≤ R.frames ∧ 64 * (d' + 1) ≤ R.locals) (hm : maxL ≤ 40) (b : Nat) : (rmE d' b).frames + 1 ≤ R.frames ∧ 8 + (maxL + 11) + (rmE d' b).locals ≤ R.locals := by
  refine ⟨h.1, ?_⟩
  show 8 + (maxL + 11) + 64 * d' ≤ R.locals
  omega
theorem cw_L {R : Room} {s : State} {args : Array Value} {own C : String} {y : MethodName} {bytes : ByteArray} {maxL : Nat} {ret : Option FieldType} {na idx d' : Nat} (hts : ∀ w ∈ xw, w.before args s = true) (hy : mI y C bytes maxL ret na) (hlink : Cond.methodLink own idx y ∈ xw) (hR : d' + 1 ≤ R.frames ∧ 64 * (d' + 1) ≤ R.locals) : CallW R s args own C idx y bytes maxL ret (xws y bytes maxL ret) (rmD d') 0 0 na := by
  refine cwV na hts (good_all fun w hw => ?_) rfl rfl rfl hy.2.1 (rm_gen hR hy.2.2 0)
  rcases List.mem_append.mp hw with h | h
  · simp only [List.mem_cons, List.not_mem_nil, or_false] at h
    rcases h with rfl | rfl | rfl | rfl
    · exact hlink
    · exact hy.1.1
    · exact hy.1.2.1
    · exact hy.1.2.2.1
  · rcases List.mem_cons.mp h with rfl | h
    · exact hy.1.2.2.2
    · exact h
/-- a static method with a table of handlers -/
def mW (y : MethodName) (bytes : ByteArray) (maxL : Nat) (hh : List (Nat × Nat × Nat × Nat)) (na : Nat) : Prop := (Cond.static y ∈ xw ∧ Cond.initialized y.cls ∈ xw ∧ Cond.codeWith y bytes maxL (some .int) hh ∈ xw) ∧ (y.cls ≠ "java/lang/invoke/MethodHandle" ∧ y.cls ≠ "java/lang/invoke/VarHandle" ∧ (parseMethodDescriptor y.desc).map (fun d => d.parameters.length) = some na) ∧ maxL ≤ 40
theorem cw_W {R : Room} {s : State} {args : Array Value} {own : String} {y : MethodName} {bytes : ByteArray} {maxL : Nat} {hh : List (Nat × Nat × Nat × Nat)} {na idx d' : Nat} (hts : ∀ w ∈ xw, w.before args s = true) (hy : mW y bytes maxL hh na) (hlink : Cond.methodLink own idx y ∈ xw) (hR : d' + 1 ≤ R.frames ∧ 64 * (d' + 1) ≤ R.locals) : vx_CSW R s args own idx y bytes maxL (some .int) hh (Cond.codeWith y bytes maxL (some .int) hh :: xw) (rmE d' 1) 1 6 na := by
  have hG : GoodIn xw (Cond.codeWith y bytes maxL (some .int) hh :: xw) := good_all fun w hw => by
    rcases List.mem_cons.mp hw with rfl | h
    · exact hy.1.2.2
    · exact h
  have hq := rm_gen (b := 1) hR hy.2.2
  refine ⟨⟨rfl, rfl, hq.1, hq.2, pay_in hts hG, List.mem_cons_self⟩, hts _ hy.1.2.2, hts _ hy.1.2.1, ⟨hy.2.1.1, hy.2.1.2.1⟩, fun sig h => ?_, hts _ hlink, hts _ hy.1.1⟩
  have h2 := hy.2.1.2.2
  rw [h] at h2
  exact (Option.some.inj h2).symm
section GL
variable {K : xCtx} {E : xE} {cc : ByteArray} {own : String} {n : Nat} {rm : Room} {pc : Nat} {lv : List (Nat × Value)} {st : List Value} {S : xSt} {r o κ : Nat}

theorem g_lcallVi (hC : xOK K cc own n rm) (hz : xZr K rm 0 0) (hk : xkd E r = κ) {ci : Nat} {C : String} {T : u_T} {N : Nat} {ty : Nat → FieldType} (hc : xCl ci C T N ty) {fs : List xF} (hl0 : lay κ o = some (.inl (ci, fs))) {y : MethodName} {bytes : ByteArray} {maxL na idx d' : Nat} (hy : mI y C bytes maxL (some .int) na) (hlink : Cond.methodLink own idx y ∈ xw) (hR : d' + 1 ≤ rm.frames ∧ 64 * (d' + 1) ≤ rm.locals) (As : List Value) {st0 : List Value} (hst : st0 = As.reverse ++ vr E r o :: st) {v : Int} {S1 : xSt} (hM : ∀ l, Met l y (xws y bytes maxL (some .int)) (rmD d') (YPc E (vr E r o :: As) S) (YQi E v S1) 0 0 (xA E)) (hn : As.length = na) (hcat : (st.map fun v => v.category).sum ≤ 8) {pc' : Nat} (hp : pc + 3 = pc') (d : decode cc pc = .ok (.invokevirtual idx, 3))
    (k : WG K E pc' lv (vi v :: st) S1) : WG K E pc lv st0 S := by
  subst hp
  obtain ⟨p, l, e, R, s, m, args, below, meth, c, nL, cl, sl, Q⟩ := K
  obtain ⟨hx, hb, hml, hown, hts, hlk, rfl, hRR⟩ := hC
  intro H locs ls hY hS hl
  subst hst hRR
  exact va_calli (va_runV (As := As) (rest := st) ⟨hx, hb, hml, hown, hts⟩ (hM l) (cw_L hts hy hlink hR) (YPreV hY (by rw [hk]; exact hl0) hc.1) rfl hn hl.1 rfl (lv_room hcat) d ⟨hz.1, hz.2⟩) hS (fun q _ h => h) (fun q h => h) (fun r9 u t H1 locs1 ht hvm hw hB _ _ hS1 => by subst hw; subst ht; exact k _ locs1 ls (YW_back hY hvm hB) hS1 hl)
theorem g_lcallVz (hC : xOK K cc own n rm) (hz : xZr K rm 0 0) (hk : xkd E r = κ) {ci : Nat} {C : String} {T : u_T} {N : Nat} {ty : Nat → FieldType} (hc : xCl ci C T N ty) {fs : List xF} (hl0 : lay κ o = some (.inl (ci, fs))) {y : MethodName} {bytes : ByteArray} {maxL na idx d' : Nat} (hy : mI y C bytes maxL (some .boolean) na) (hlink : Cond.methodLink own idx y ∈ xw) (hR : d' + 1 ≤ rm.frames ∧ 64 * (d' + 1) ≤ rm.locals) (As : List Value) {st0 : List Value} (hst : st0 = As.reverse ++ vr E r o :: st) {v : Int} {S1 : xSt} (hM : ∀ l, Met l y (xws y bytes maxL (some .boolean)) (rmD d') (YPc E (vr E r o :: As) S) (YQz E v S1) 0 0 (xA E)) (hn : As.length = na) (hcat : (st.map fun v => v.category).sum ≤ 8) {pc' : Nat} (hp : pc + 3 = pc') (d : decode cc pc = .ok (.invokevirtual idx, 3))
    (k : (v = 0 ∨ v = 1) → WG K E pc' lv (vi v :: st) S1) : WG K E pc lv st0 S := by
  subst hp
  obtain ⟨p, l, e, R, s, m, args, below, meth, c, nL, cl, sl, Q⟩ := K
  obtain ⟨hx, hb, hml, hown, hts, hlk, rfl, hRR⟩ := hC
  intro H locs ls hY hS hl
  subst hst hRR
  exact va_calli (va_runV (As := As) (rest := st) ⟨hx, hb, hml, hown, hts⟩ (hM l) (cw_L hts hy hlink hR) (YPreV hY (by rw [hk]; exact hl0) hc.1) rfl hn hl.1 rfl (lv_room hcat) d ⟨hz.1, hz.2⟩) hS (fun q _ h => h) (fun q h => h) (fun r9 u t H1 locs1 ht hvm hw hB _ _ hS1 => by obtain ⟨hw, hb9⟩ := hw; subst hw; subst ht; exact k hb9 _ locs1 ls (YW_back hY hvm hB) hS1 hl)
theorem g_lcallVv (hC : xOK K cc own n rm) (hz : xZr K rm 0 0) (hk : xkd E r = κ) {ci : Nat} {C : String} {T : u_T} {N : Nat} {ty : Nat → FieldType} (hc : xCl ci C T N ty) {fs : List xF} (hl0 : lay κ o = some (.inl (ci, fs))) {y : MethodName} {bytes : ByteArray} {maxL na idx d' : Nat} (hy : mI y C bytes maxL (none) na) (hlink : Cond.methodLink own idx y ∈ xw) (hR : d' + 1 ≤ rm.frames ∧ 64 * (d' + 1) ≤ rm.locals) (As : List Value) {st0 : List Value} (hst : st0 = As.reverse ++ vr E r o :: st)  {S1 : xSt} (hM : ∀ l, Met l y (xws y bytes maxL (none)) (rmD d') (YPc E (vr E r o :: As) S) (YQv E S1) 0 0 (xA E)) (hn : As.length = na) (hcat : (st.map fun v => v.category).sum ≤ 8) {pc' : Nat} (hp : pc + 3 = pc') (d : decode cc pc = .ok (.invokevirtual idx, 3))
    (k : WG K E pc' lv (st) S1) : WG K E pc lv st0 S := by
  subst hp
  obtain ⟨p, l, e, R, s, m, args, below, meth, c, nL, cl, sl, Q⟩ := K
  obtain ⟨hx, hb, hml, hown, hts, hlk, rfl, hRR⟩ := hC
  intro H locs ls hY hS hl
  subst hst hRR
  exact va_callv (va_runV (As := As) (rest := st) ⟨hx, hb, hml, hown, hts⟩ (hM l) (cw_L hts hy hlink hR) (YPreV hY (by rw [hk]; exact hl0) hc.1) rfl hn hl.1 rfl (lv_room hcat) d ⟨hz.1, hz.2⟩) hS (fun q _ h => h) (fun q h => h) (fun u t H1 locs1 ht hvm hw hB _ _ hS1 => by subst ht; exact k _ locs1 ls (YW_back hY hvm hB) hS1 hl)
theorem g_lcallVd (hC : xOK K cc own n rm) (hz : xZr K rm 0 0) (hk : xkd E r = κ) {ci : Nat} {C : String} {T : u_T} {N : Nat} {ty : Nat → FieldType} (hc : xCl ci C T N ty) {fs : List xF} (hl0 : lay κ o = some (.inl (ci, fs))) {y : MethodName} {bytes : ByteArray} {maxL na idx d' : Nat} (hy : mI y C bytes maxL (some .double) na) (hlink : Cond.methodLink own idx y ∈ xw) (hR : d' + 1 ≤ rm.frames ∧ 64 * (d' + 1) ≤ rm.locals) (As : List Value) {st0 : List Value} (hst : st0 = As.reverse ++ vr E r o :: st) {v : UInt64} {S1 : xSt} (hM : ∀ l, Met l y (xws y bytes maxL (some .double)) (rmD d') (YPc E (vr E r o :: As) S) (YQd E v S1) 0 0 (xA E)) (hn : As.length = na) (hcat : (st.map fun v => v.category).sum ≤ 8) {pc' : Nat} (hp : pc + 3 = pc') (d : decode cc pc = .ok (.invokevirtual idx, 3))
    (k : WG K E pc' lv (vd v :: st) S1) : WG K E pc lv st0 S := by
  subst hp
  obtain ⟨p, l, e, R, s, m, args, below, meth, c, nL, cl, sl, Q⟩ := K
  obtain ⟨hx, hb, hml, hown, hts, hlk, rfl, hRR⟩ := hC
  intro H locs ls hY hS hl
  subst hst hRR
  exact va_calld (va_runV (As := As) (rest := st) ⟨hx, hb, hml, hown, hts⟩ (hM l) (cw_L hts hy hlink hR) (YPreV hY (by rw [hk]; exact hl0) hc.1) rfl hn hl.1 rfl (lv_room hcat) d ⟨hz.1, hz.2⟩) hS (fun q _ h => h) (fun q h => h) (fun r9 u t H1 locs1 ht hvm hw hB _ _ hS1 => by subst hw; subst ht; exact k _ locs1 ls (YW_back hY hvm hB) hS1 hl)
theorem g_lcallVf (hC : xOK K cc own n rm) (hz : xZr K rm 0 0) (hk : xkd E r = κ) {ci : Nat} {C : String} {T : u_T} {N : Nat} {ty : Nat → FieldType} (hc : xCl ci C T N ty) {fs : List xF} (hl0 : lay κ o = some (.inl (ci, fs))) {y : MethodName} {bytes : ByteArray} {maxL na idx d' : Nat} (hy : mI y C bytes maxL (some .float) na) (hlink : Cond.methodLink own idx y ∈ xw) (hR : d' + 1 ≤ rm.frames ∧ 64 * (d' + 1) ≤ rm.locals) (As : List Value) {st0 : List Value} (hst : st0 = As.reverse ++ vr E r o :: st) {v : UInt32} {S1 : xSt} (hM : ∀ l, Met l y (xws y bytes maxL (some .float)) (rmD d') (YPc E (vr E r o :: As) S) (YQf E v S1) 0 0 (xA E)) (hn : As.length = na) (hcat : (st.map fun v => v.category).sum ≤ 8) {pc' : Nat} (hp : pc + 3 = pc') (d : decode cc pc = .ok (.invokevirtual idx, 3))
    (k : WG K E pc' lv (vf v :: st) S1) : WG K E pc lv st0 S := by
  subst hp
  obtain ⟨p, l, e, R, s, m, args, below, meth, c, nL, cl, sl, Q⟩ := K
  obtain ⟨hx, hb, hml, hown, hts, hlk, rfl, hRR⟩ := hC
  intro H locs ls hY hS hl
  subst hst hRR
  exact va_callf (va_runV (As := As) (rest := st) ⟨hx, hb, hml, hown, hts⟩ (hM l) (cw_L hts hy hlink hR) (YPreV hY (by rw [hk]; exact hl0) hc.1) rfl hn hl.1 rfl (lv_room hcat) d ⟨hz.1, hz.2⟩) hS (fun q _ h => h) (fun q h => h) (fun r9 u t H1 locs1 ht hvm hw hB _ _ hS1 => by subst hw; subst ht; exact k _ locs1 ls (YW_back hY hvm hB) hS1 hl)
theorem g_lcallW (hC : xOK K cc own n rm) (hz : xZr K rm 1 6) (hT : xTr K) {y : MethodName} {bytes : ByteArray} {maxL na idx d' : Nat} {hh : List (Nat × Nat × Nat × Nat)} (hy : mW y bytes maxL hh na) (hlink : Cond.methodLink own idx y ∈ xw) (hR : d' + 1 ≤ rm.frames ∧ 64 * (d' + 1) ≤ rm.locals) (As : List Value) {st0 : List Value} (hst : st0 = As.reverse ++ st) {v : Int} {S1 : xSt} (hM : ∀ l : Launch, l.stackTraces = false → Met l y (Cond.codeWith y bytes maxL (some .int) hh :: xw) (rmE d' 1) (YPc E As S) (YQi E v S1) 1 6 (xA E)) (hn : As.length = na) (hcat : (st.map fun v => v.category).sum ≤ 8) (d : decode cc pc = .ok (.invokestatic idx, 3))
    (k : WG (bump K) E (pc + 3) lv (vi v :: st) S1) : WG K E pc lv st0 S := by
  obtain ⟨p, l, e, R, s, m, args, below, meth, c, nL, cl, sl, Q⟩ := K
  obtain ⟨hx, hb, hml, hown, hts, hlk, rfl, hRR⟩ := hC
  intro H locs ls hY hS hl
  subst hst hRR
  exact va_calli (vx_runSW (As := As) (rest := st) ⟨hx, hb, hml, hown, hts⟩ (hM l hT) (cw_W hts hy hlink hR) (YPreS hY) rfl hn hl.1 rfl (lv_room hcat) d ⟨hz.1, hz.2⟩) hS (fun q _ h => h) (fun q h => h) (fun r9 u t H1 locs1 ht hvm hw hB _ _ hS1 => by subst hw; subst ht; exact k _ locs1 ls (YW_back hY hvm hB) hS1 hl)
/-- the script -/
def xSc (K : xCtx) (E : xE) (b L : Nat) (sc : Nat → Int) : Prop := match K with
  | (p, l, e, R, s, m, args, below, meth, c, nL, cl, sl, Q) => (∃ xs : Nat → Int32, va_X b L xs s s.heap ∧ sc = fun k => (xs k).toInt) ∧ b < s.heap.size ∧ ¬ xA E b ∧ L ≤ 3072
theorem g_sld (hC : xOK K cc own n rm) {b L : Nat} {sc : Nat → Int} (hs : xSc K E b L sc) {i : Int} (hi : 0 ≤ wr i ∧ wr i < (L : Int)) {pc' : Nat} (hp : pc + 1 = pc') (d : decode cc pc = .ok (.iaload, 1))
    (k : WG K E pc' lv (vi (sc (wr i).toNat) :: st) S) : WG K E pc lv (vi i :: .ref b :: st) S := by
  subst hp
  obtain ⟨p, l, e, R, s, m, args, below, meth, c, nL, cl, sl, Q⟩ := K
  obtain ⟨hx, hb, hml, hown, hts, hlk, rfl, hRR⟩ := hC
  intro H locs ls hY hS hl
  obtain ⟨⟨xs, h1, rfl⟩, h2, h3, h4⟩ := hs
  have k := k H locs ls hY hS hl
  unfold vi at k
  rw [Int32.ofInt_toInt, ← i32_nat] at k
  exact va_sld hx hb h1 h2 h3 hS (ck_in hi) d k
theorem g_slen (hC : xOK K cc own n rm) {b L : Nat} {sc : Nat → Int} (hs : xSc K E b L sc) {pc' : Nat} (hp : pc + 1 = pc') (d : decode cc pc = .ok (.arraylength, 1))
    (k : WG K E pc' lv (vi (L : Int) :: st) S) : WG K E pc lv (.ref b :: st) S := by
  subst hp
  obtain ⟨p, l, e, R, s, m, args, below, meth, c, nL, cl, sl, Q⟩ := K
  obtain ⟨hx, hb, hml, hown, hts, hlk, rfl, hRR⟩ := hC
  intro H locs ls hY hS hl
  obtain ⟨⟨xs, h1, rfl⟩, h2, h3, h4⟩ := hs
  exact va_slen hx hb h1 h2 h3 hS d (k H locs ls hY hS hl)
theorem l_wid {b0 b1 k0 : Nat} (k : WG (kc K b0 b1 (k0 + 1)) E pc lv st S) : WG (kc K b0 b1 k0) E pc lv st S := by
  obtain ⟨p, l, e, R, s, m, args, below, meth, c, nL, cl, sl, Q⟩ := K
  intro H locs ls hY hS hl
  exact W.widen (by omega) (by omega) (k H locs ls hY hS hl)
theorem g_f2d (hC : xOK K cc own n rm) {x : UInt32} (hn : vf_n64 (FP.f2d x)) {pc' : Nat} (hp : pc + 1 = pc') (d : decode cc pc = .ok (.f2d, 1))
    (k : WG K E pc' lv (vd (FP.f2d x) :: st) S) : WG K E pc lv (vf x :: st) S := by
  subst hp
  obtain ⟨p, l, e, R, s, m, args, below, meth, c, nL, cl, sl, Q⟩ := K
  obtain ⟨hx, hb, hml, hown, hts, hlk, rfl, hRR⟩ := hC
  intro H locs ls hY hS hl
  exact lv_f2d hx hb d hn (k H locs ls hY hS hl)
theorem g_dcmp (hC : xOK K cc own n rm) {x y : UInt64} {op : CmpOp} {pc' : Nat} (hp : pc + 1 = pc') (d : decode cc pc = .ok (.dcmp op, 1))
    (k : WG K E pc' lv (vi (Op.cmpValue (FP.dcmp x y) op).toInt :: st) S) : WG K E pc lv (vd y :: vd x :: st) S := by
  subst hp
  obtain ⟨p, l, e, R, s, m, args, below, meth, c, nL, cl, sl, Q⟩ := K
  obtain ⟨hx, hb, hml, hown, hts, hlk, rfl, hRR⟩ := hC
  intro H locs ls hY hS hl
  have k := k H locs ls hY hS hl
  unfold vi at k
  rw [Int32.ofInt_toInt] at k
  exact lv_dcmp hx hb d k
end GL

