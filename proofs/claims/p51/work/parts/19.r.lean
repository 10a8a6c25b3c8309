def rmN (d c s : Nat) : Room := { frames := d, cells := c, slots := s, locals := 28 * d }
def NPc (E : xE) (B : Nat) (av : List Value) (S : xSt) (ws : pW) : Array Value → State → Prop := va_Pc av (fun U => YW E S U U.heap ∧ PN E B ws U U.heap)
theorem NPc_blind {E : xE} {B : Nat} {av : List Value} {S : xSt} {ws : pW} : FrameBlind (NPc E B av S ws) := fun a U g mk q => ⟨q.1, YW_same (u := U) rfl q.2.1, PN_moved (u := U) (U := U.calling g mk a) (Vm.Alike.refl U.vm) q.2.2⟩
def NQ (B : Nat) (post : xE × xSt × pW → Prop) : Array Value → State → Outcome → State → Prop := va_Qv post (fun u t => YW u.1 u.2.1 t t.heap ∧ PN u.1 B u.2.2 t t.heap) (fun a => B ≤ a)
def xBase (E E' : xE) : Prop := E'.1 = E.1 ∧ E'.2.2.2.2 = E.2.2.2.2
theorem YN_back {E E' : xE} {S S' : xSt} {s t : State} {H H1 : Heap} (h : YW E S s H) (hb : xBase E E') (hvm : s.vm.Alike t.vm) (h1 : YW E' S' t H1) : YW E' S' s H1 := by
  obtain ⟨b1, b2⟩ := hb
  refine ⟨⟨?_, fun r o k hl => xat_moved hvm.symm (h1.1.2.1 r o k hl), h1.1.2.2.1, XStat_moved hvm.symm h1.1.2.2.2.1, ?_⟩, h1.2⟩
  · have := h.1.1
    unfold xD at this ⊢
    rw [b1]
    exact this
  · have := h.1.2.2.2.2
    unfold XTab xaK at this ⊢
    rw [b2]
    exact this
def mC (y : MethodName) (bytes : ByteArray) (maxL na : Nat) : Prop := (Cond.instanceMethod y ∈ xw ∧ Cond.initialized y.cls ∈ xw ∧ Cond.code y bytes maxL none ∈ xw) ∧ y.name = "<init>" ∧ (y.cls ≠ "java/lang/invoke/MethodHandle" ∧ y.cls ≠ "java/lang/invoke/VarHandle" ∧ (parseMethodDescriptor y.desc).map (fun d => d.parameters.length) = some na) ∧ maxL ≤ 9
theorem good_c {y : MethodName} {bytes : ByteArray} {maxL : Nat} (h : Cond.code y bytes maxL none ∈ xw) : GoodIn xw (xws y bytes maxL none) := good_all fun w hw => by
  rcases List.mem_cons.mp hw with rfl | h9
  · exact h
  · exact h9
theorem rm_n {R : Room} {d' maxL a b : Nat} (h : d' + 1 ≤ R.frames ∧ 28 * (d' + 1) ≤ R.locals) (hm : maxL ≤ 9) : (rmN d' a b).frames + 1 ≤ R.frames ∧ 8 + (maxL + 11) + (rmN d' a b).locals ≤ R.locals := by
  refine ⟨h.1, ?_⟩
  show 8 + (maxL + 11) + 28 * d' ≤ R.locals
  omega
def xEndN (K : xCtx) (B mc ms : Nat) (post : xE × xSt × pW → Prop) : Prop := match K with
  | (p, l, e, R, s, m, args, below, meth, c, nL, cl, sl, Q) => Q = MQ below (NQ B post) args s mc ms (fun a => B ≤ a) ∧ meth.sig.returnType = none
section PS
variable {K : xCtx} {E : xE} {B : Nat} {cc : ByteArray} {own : String} {n : Nat} {rm : Room} {pc : Nat} {lv : List (Nat × Value)} {st : List Value} {S : xSt} {ws : pW} {cl sl : Nat}

theorem n_ctor (hC : xOKN K cc own n rm) {y : MethodName} {bytes : ByteArray} {maxL na idx d' mc ms a : Nat} {host : String} (hy : mC y bytes maxL na) (hlink : Cond.methodLink own idx y ∈ xw) (hR : d' + 1 ≤ rm.frames ∧ 28 * (d' + 1) ≤ rm.locals) (hcl : cl + mc ≤ rm.cells) (hsl : sl + ms ≤ rm.slots) (As : List Value) {st0 : List Value} (hst : st0 = As.reverse ++ .ref a :: st) {post : xE × xSt × pW → Prop} (hbase : ∀ u, post u → xBase E u.1) (hM : ∀ l, Met l y (xws y bytes maxL none) (rmN d' mc ms) (NPc E B (.ref a :: As) S ws) (NQ B post) mc ms (fun a => B ≤ a)) (hn : As.length = na) (hcat : (st.map fun v => v.category).sum ≤ 8) (d : decode cc pc = .ok (.invokespecial idx, 3))
    (k : ∀ u, post u → WN K u.1 B (pc + 3) lv st u.2.1 u.2.2 (cl + mc) (sl + ms)) : WN K E B pc lv st0 S ws cl sl := by
  obtain ⟨p, l, e, R, s, m, args, below, meth, c, nL, cl0, sl0, Q⟩ := K
  obtain ⟨⟨hx, hb, hml, hown, hts, hlk, rfl, hRR⟩, hin⟩ := hC
  intro H locs ls hY hP hS hl
  subst hst
  have hBz := hP.2.2.2.2.1
  refine va_callv (va_runI (As := As) (rest := st) ⟨hx, hb, hml, hown, hts⟩ (hM l) (cwI na hts (good_c hy.1.2.2) rfl rfl rfl (hts _ hy.1.2.1) (hts _ hlink) (hts _ hy.1.1) hy.2.1 hy.2.2.1 (rm_n (by rw [hRR]; exact hR) hy.2.2.2)) ⟨NPc_blind, fun U hU hW => ⟨rfl, by rw [hU]; exact YW_warm hW hY, by rw [hU]; exact PN_moved hW.alike hP⟩⟩ rfl hn hl.1 rfl (lv_room hcat) d ⟨by rw [hRR]; exact hcl, by rw [hRR]; exact hsl⟩) hS (fun q _ h => h) (fun q h => h) (fun u t H1 locs1 ht hvm hw hB _ _ hS1 => ?_)
  obtain ⟨hB1, hB2⟩ := hB
  subst ht
  exact k u hw _ locs1 ls (YN_back hY (hbase u hw) hvm hB1) (PN_moved hvm.symm hB2) hS1 hl
theorem n_ctorN (hC : xOKN K cc own n rm) {y : MethodName} {bytes : ByteArray} {maxL na idx d' mc ms a : Nat} {host : String} (hy : mC y bytes maxL na) (hlink : (own, idx, y, host) ∈ xnm) (hR : d' + 1 ≤ rm.frames ∧ 28 * (d' + 1) ≤ rm.locals) (hcl : cl + mc ≤ rm.cells) (hsl : sl + ms ≤ rm.slots) (As : List Value) {st0 : List Value} (hst : st0 = As.reverse ++ .ref a :: st) {post : xE × xSt × pW → Prop} (hbase : ∀ u, post u → xBase E u.1) (hM : ∀ l, Met l y (xws y bytes maxL none) (rmN d' mc ms) (NPc E B (.ref a :: As) S ws) (NQ B post) mc ms (fun a => B ≤ a)) (hn : As.length = na) (hcat : (st.map fun v => v.category).sum ≤ 8) (d : decode cc pc = .ok (.invokespecial idx, 3))
    (k : ∀ u, post u → WN K u.1 B (pc + 3) lv st u.2.1 u.2.2 (cl + mc) (sl + ms)) : WN K E B pc lv st0 S ws cl sl := by
  obtain ⟨p, l, e, R, s, m, args, below, meth, c, nL, cl0, sl0, Q⟩ := K
  obtain ⟨⟨hx, hb, hml, hown, hts, hlk, rfl, hRR⟩, hin⟩ := hC
  intro H locs ls hY hP hS hl
  subst hst
  have hBz := hP.2.2.2.2.1
  refine va_callv (va_runIN (As := As) (rest := st) ⟨hx, hb, hml, hown, hts⟩ (hM l) ⟨va_cnB na hts (good_c hy.1.2.2) rfl rfl rfl (hY.1.2.2.2.2.2.2.1 _ hlink) (hts _ hy.1.2.1) hy.2.2.1 (rm_n (by rw [hRR]; exact hR) hy.2.2.2), hy.2.1, hts _ hy.1.1⟩ ⟨NPc_blind, fun U hU hW => ⟨rfl, by rw [hU]; exact YW_warm hW hY, by rw [hU]; exact PN_moved hW.alike hP⟩⟩ rfl hn hl.1 rfl (lv_room hcat) d ⟨by rw [hRR]; exact hcl, by rw [hRR]; exact hsl⟩) hS (fun q _ h => h) (fun q h => h) (fun u t H1 locs1 ht hvm hw hB _ _ hS1 => ?_)
  obtain ⟨hB1, hB2⟩ := hB
  subst ht
  exact k u hw _ locs1 ls (YN_back hY (hbase u hw) hvm hB1) (PN_moved hvm.symm hB2) hS1 hl
/-- a method of a region that stands -/
theorem n_vcall (hC : xOKN K cc own n rm) {r o κ : Nat} (hk : xkd E r = κ) {ci : Nat} {C : String} {T : u_T} {N : Nat} {ty : Nat → FieldType} (hc : xCl ci C T N ty) {fs : List xF} (hl0 : lay κ o = some (.inl (ci, fs))) {y : MethodName} {bytes : ByteArray} {maxL na idx d' : Nat} (hy : mI y C bytes maxL none na) (hlink : Cond.methodLink own idx y ∈ xw) (hR : d' + 1 ≤ rm.frames ∧ 28 * (d' + 1) ≤ rm.locals) (hcl : cl ≤ rm.cells) (hsl : sl ≤ rm.slots) (As : List Value) {st0 : List Value} (hst : st0 = As.reverse ++ vr E r o :: st) {S1 : xSt} (hM : ∀ l, Met l y (xws y bytes maxL none) (rmD d') (YPc E (vr E r o :: As) S) (YQv E S1) 0 0 (xA E)) (hn : As.length = na) (hcat : (st.map fun v => v.category).sum ≤ 8) (d : decode cc pc = .ok (.invokevirtual idx, 3))
    (k : WN K E B (pc + 3) lv st S1 ws cl sl) : WN K E B pc lv st0 S ws cl sl := by
  obtain ⟨p, l, e, R, s, m, args, below, meth, c, nL, cl0, sl0, Q⟩ := K
  obtain ⟨⟨hx, hb, hml, hown, hts, hlk, rfl, hRR⟩, hin⟩ := hC
  intro H locs ls hY hP hS hl
  subst hst hRR
  exact va_callv (va_runV (As := As) (rest := st) ⟨hx, hb, hml, hown, hts⟩ (hM l) (cw_L hts hy hlink hR) (YPreV hY (by rw [hk]; exact hl0) hc.1) rfl hn hl.1 rfl (lv_room hcat) d ⟨hcl, hsl⟩) hS (fun q _ h => hP.2.2.2.1 q h) (fun q h => hP.2.2.2.1 q h) (fun u t H1 locs1 ht hvm hw hB hz hk9 hS1 => by subst ht; exact k _ locs1 ls (YW_back hY hvm hB) (PN_kept hP hz hk9) hS1 hl)
theorem n_region {r κ : Nat} {f : Nat → Nat} {σ0 : Nat → Nat → Int} {ρ0 : Nat → Nat → Nat × Nat} {ws' : pW} (hr : xkd E r = 0) (ha : xApart E S r)
    (hcell : ∀ (o : Nat) (k : xK), lay κ o = some k → ∃ z, (f o, z) ∈ ws ∧ pmt (addR E r κ f) r z k (σ0 o) (ρ0 o))
    (hinj : ws.Pairwise (fun a b => a.1 ≠ b.1) → ∀ (o o' : Nat) (k k' : xK), lay κ o = some k → lay κ o' = some k' → f o = f o' → o = o')
    (hsub : ws'.Sublist ws) (hdis : ws.Pairwise (fun a b => a.1 ≠ b.1) → ∀ q ∈ ws', ∀ (o : Nat) (k : xK), lay κ o = some k → f o ≠ q.1)
    (k : WN K (addR E r κ f) B pc lv st (newS S r κ σ0 ρ0) ws' cl sl) : WN K E B pc lv st S ws cl sl := by
  obtain ⟨p, l, e, R, s, m, args, below, meth, c, nL, cl0, sl0, Q⟩ := K
  intro H locs ls hY hP hS hl
  obtain ⟨h1, h2⟩ := mk_region hY hP hr ha hcell (hinj hP.2.1) hsub (hdis hP.2.1)
  exact k H locs ls h1 h2 hS hl
theorem n_vret (hC : xOKN K cc own n rm) {post : xE × xSt × pW → Prop} (hE : xEndN K B cl sl post) (hp : post (E, S, ws)) (d : decode cc pc = .ok (.return_, 1)) : WN K E B pc lv [] S ws cl sl := by
  obtain ⟨p, l, e, R, s, m, args, below, meth, c, nL, cl0, sl0, Q⟩ := K
  obtain ⟨⟨hx, hb, hml, hown, hts, hlk, rfl, hRR⟩, hin⟩ := hC
  intro H locs ls hY hP hS hl
  obtain ⟨rfl, hr⟩ := hE
  exact W.vret hx hb hr (fun t ht hW => ⟨⟨(E, S, ws), rfl, hp, (show YW E S t t.heap by rw [ht]; exact YW_warm hW hY), (show PN E B ws t t.heap by rw [ht]; exact PN_moved hW.alike hP)⟩, hS.F ht⟩) hS.2.2 d hlk
theorem n_cast {lv' : List (Nat × Value)} {st' : List Value} {ws' : pW} (h : lv = lv') (h2 : st = st') (h3 : ws = ws') (k : WN K E B pc lv' st' S ws' cl sl) : WN K E B pc lv st S ws cl sl := by subst h; subst h2; subst h3; exact k
theorem n_iload_n (hC : xOKN K cc own n rm) {f : Fin 4} {i : Nat} (hi : (f : Nat) = i) (j : Nat) {x : Int} (hj : lv[j]? = some (i, vi x)) (d : decode cc pc = .ok (.iload_n f, 1))
    (k : WN K E B (pc + 1) lv (vi x :: st) S ws cl sl) : WN K E B pc lv st S ws cl sl := by
  obtain ⟨p, l, e, R, s, m, args, below, meth, c, nL, cl0, sl0, Q⟩ := K
  obtain ⟨⟨hx, hb, hml, hown, hts, hlk, rfl, hRR⟩, hin⟩ := hC
  intro H locs ls hY hP hS hl
  exact lv_iload_n hx hb d hi (lv_at hl j hj) (k H locs ls hY hP hS hl)
theorem n_istore_n (hC : xOKN K cc own n rm) {f : Fin 4} {i : Nat} (hi : (f : Nat) = i) {x : Int} (hn : i < n) {lv' : List (Nat × Value)} (hl' : (i, vi x) :: lv.filter (fun q => !(q.1 == i) && !(q.1 + 1 == i && q.2.category == 2)) = lv') (d : decode cc pc = .ok (.istore_n f, 1))
    (k : WN K E B (pc + 1) lv' st S ws cl sl) : WN K E B pc lv (vi x :: st) S ws cl sl := by
  obtain ⟨p, l, e, R, s, m, args, below, meth, c, nL, cl0, sl0, Q⟩ := K
  obtain ⟨⟨hx, hb, hml, hown, hts, hlk, rfl, hRR⟩, hin⟩ := hC
  intro H locs ls hY hP hS hl
  exact lv_istore_n hx hb d hi hl hn hl' (fun ls' h' => k H locs ls' hY hP hS h')
theorem n_iinc (hC : xOKN K cc own n rm) {i : Nat} {z : Int} (j : Nat) {x : Int} (hj : lv[j]? = some (i, vi x)) (hn : i < n) {w : Int} (hw : x + z = w) {lv' : List (Nat × Value)} (hl' : (i, vi w) :: lv.filter (fun q => !(q.1 == i) && !(q.1 + 1 == i && q.2.category == 2)) = lv') (d : decode cc pc = .ok (.iinc i z, 3))
    (k : WN K E B (pc + 3) lv' st S ws cl sl) : WN K E B pc lv st S ws cl sl := by
  obtain ⟨p, l, e, R, s, m, args, below, meth, c, nL, cl0, sl0, Q⟩ := K
  obtain ⟨⟨hx, hb, hml, hown, hts, hlk, rfl, hRR⟩, hin⟩ := hC
  intro H locs ls hY hP hS hl
  subst hw
  exact lv_iinc hx hb d hl hj (v := Int32.ofInt (x + z)) (by rw [Int32.ofInt_add]) hn hl' (fun ls' h' => k H locs ls' hY hP hS h')
theorem n_icmp_ge (hC : xOKN K cc own n rm) {x y : Int} {off : Int} {tgt : Nat} (ht : (pc : Int) + off = (tgt : Int)) (d : decode cc pc = .ok (.if_icmp .ge off, 3))
    (kt : wr y ≤ wr x → WN K E B tgt lv st S ws cl sl) (kf : ¬ (wr y ≤ wr x) → WN K E B (pc + 3) lv st S ws cl sl) : WN K E B pc lv (vi y :: vi x :: st) S ws cl sl := by
  obtain ⟨p, l, e, R, s, m, args, below, meth, c, nL, cl0, sl0, Q⟩ := K
  obtain ⟨⟨hx, hb, hml, hown, hts, hlk, rfl, hRR⟩, hin⟩ := hC
  intro H locs ls hY hP hS hl
  refine lv_icmp_ge hx hb d ht (fun h => kt ?_ H locs ls hY hP hS hl) (fun h => kf ?_ H locs ls hY hP hS hl)
  · first | exact (i32_le _ _).mp h | exact fun z => h ((i32_le _ _).mpr z)
  · exact fun z => h ((i32_le _ _).mpr z)
theorem n_goto (hC : xOKN K cc own n rm) {off : Int} {tgt : Nat} (ht : (pc : Int) + off = (tgt : Int)) (d : decode cc pc = .ok (.goto off, 3))
    (k : WN K E B tgt lv st S ws cl sl) : WN K E B pc lv st S ws cl sl := by
  obtain ⟨p, l, e, R, s, m, args, below, meth, c, nL, cl0, sl0, Q⟩ := K
  obtain ⟨⟨hx, hb, hml, hown, hts, hlk, rfl, hRR⟩, hin⟩ := hC
  intro H locs ls hY hP hS hl
  exact lv_goto hx hb d ht (k H locs ls hY hP hS hl)
theorem n_anew (hC : xOKN K cc own n rm) {C : String} {idx : Nat} (hlink : Cond.classLink own idx C ∈ xw) (hover : C = "FusionFront$Front") {z : Int} {N : Nat} (hz : 0 ≤ wr z) (hN : (wr z).toNat = N) (hby : N * 4 ≤ 536870912) (hcl : cl + 1 ≤ rm.cells) (hsl : sl + N ≤ rm.slots) (d : decode cc pc = .ok (.anewarray idx, 3))
    (k : ∀ a : Nat, WN K E B (pc + 3) lv (.ref a :: st) S ((a, .inr (.inr (C, List.replicate N none))) :: ws) (cl + 1) (sl + N)) : WN K E B pc lv (vi z :: st) S ws cl sl := by
  obtain ⟨p, l, e, R, s, m, args, below, meth, c, nL, cl0, sl0, Q⟩ := K
  obtain ⟨⟨hx, hb, hml, hown, hts, hlk, rfl, hRR⟩, hin⟩ := hC
  intro H locs ls hY hP hS hl
  have hN2 : (Int32.ofInt z).toNatClampNeg = N := by rw [i32_nat]; exact hN
  have e0 : wr 0 = 0 := by decide
  refine W.anew hx hb hown (hts _ hlink) (by rw [hover]; exact va_AO.use hP.2.2.2.2.2.2) rfl d rfl (fun q => by rw [i32_0, i32_lt] at q; omega) (by rw [hN2]; exact hby) (by rw [hRR]; exact hcl) (by rw [hN2, hRR]; exact hsl) fun cA kA comp f1 f2 f3 f4 => ?_
  rw [hN2]
  generalize hH1 : H.push ({ cls := cA, slots := Array.replicate N .null, vm := .none } : Cell) = H1
  have z1 : H1.size = H.size + 1 := by rw [← hH1, Array.size_push]
  have e1 : H1[H.size]? = some ({ cls := cA, slots := Array.replicate N .null, vm := .none } : Cell) := by rw [← hH1, Array.getElem?_push_size]
  have o1 : ∀ q : Nat, q < H.size → H1[q]? = H[q]? := fun q hq => by rw [← hH1, Array.getElem?_push, if_neg (Nat.ne_of_lt hq)]
  refine k H.size H1 locs ls (YW_push hY o1) (PN_push hY hP ⟨_, e1, ⟨⟨(fun k h => by cases h), kA, f2, comp, f3⟩, kA, comp, f2, f3, f4⟩, rfl, (by simp), fun j y hj => ?_⟩ z1 o1) ⟨Nat.le_trans hS.1 (by omega), fun x h1 h2 => (o1 x (Nat.lt_of_lt_of_le h1 hS.1)).trans (hS.2.1 x h1 h2), hS.2.2⟩ hl
  obtain ⟨h1, h2⟩ := List.getElem?_eq_some_iff.mp hj
  rw [List.length_replicate] at h1
  rw [List.getElem_replicate] at h2
  subst h2
  simp [h1, prf]
theorem n_aast (hC : xOKN K cc own n rm) (q0 : Nat) {a : Nat} {C : String} {es : List (Option Nat)} (hq0 : ws[q0]? = some (a, .inr (.inr (C, es)))) {r o κ ci : Nat} (hk : xkd E r = κ) {fs : List xF} (hl0 : lay κ o = some (.inl (ci, fs))) {T : u_T} {N : Nat} {ty : Nat → FieldType} (hc : xCl ci C T N ty) {i : Int} (hi : 0 ≤ wr i ∧ wr i < (es.length : Int)) {es' : List (Option Nat)} (hes : es.set (wr i).toNat (some (xad E r o)) = es') (d : decode cc pc = .ok (.aastore, 1))
    (k : WN K E B (pc + 1) lv st S (ws.set q0 (a, .inr (.inr (C, es')))) cl sl) : WN K E B pc lv (vr E r o :: vi i :: .ref a :: st) S ws cl sl := by
  obtain ⟨p, l, e, R, s, m, args, below, meth, c, nL, cl0, sl0, Q⟩ := K
  obtain ⟨⟨hx, hb, hml, hown, hts, hlk, rfl, hRR⟩, hin⟩ := hC
  intro H locs ls hY hP hS hl
  have hm := List.mem_of_getElem? hq0
  obtain ⟨⟨cell, g1, ⟨g2, kA, comp, k1, k2, k3⟩, g3, g4, g5⟩, hB, hdis⟩ := hP.1 _ hm
  obtain ⟨⟨c1, h1, hlen, cv, q1, q2, q3, q4⟩, hft⟩ := hY.1.2.1 r o _ (by rw [hk]; exact hl0)
  cases h1.symm.trans hc.1
  have hcls := (hY.1.1.1 ci _ hc.1).2
  have hcomp : comp = (xD E).1 ci := Option.some.inj (k3.symm.trans hcls.1)
  subst hcomp
  obtain ⟨kC, hkC, -⟩ := hcls.2
  have hi2 := ck_in hi
  obtain ⟨w1, w2⟩ := x_idx hi2 (Nat.le_of_eq g4.symm)
  refine W.aast hx hb g1 (fun q h => by rw [g3] at h; cases h) (fun h => by rw [g3] at h; cases h) k1 k2 rfl hkC ⟨fun q => hi2 (Or.inl q), by rw [g4]; exact w2⟩ q1 (fun q h => by rw [q3] at h; cases h) (by rw [q2]; exact hkC) (by rw [q2]; exact va_assign hcls) rfl rfl d fun H1 e1 z oq => ?_
  have hsz : (cell.setSlot (Int32.ofInt i).toNatClampNeg (.ref (xad E r o))).slots.size = cell.slots.size := by simp [Cell.setSlot]
  refine k H1 _ ls (YW_side hY hP hm oq) (PN_set hP hq0 ⟨_, e1, ⟨⟨g2.1, g2.2⟩, kA, _, k1, k2, k3⟩, g3, by rw [hsz, g4, ← hes, List.length_set], fun j y hj => ?_⟩ z oq) (hS.put z oq hB) hl
  rw [← hes, List.getElem?_set] at hj
  have e9 : (Int32.ofInt i).toNatClampNeg = (wr i).toNat := i32_nat i
  rw [e9] at w2 ⊢
  by_cases hij : (wr i).toNat = j
  · subst hij
    rw [if_pos rfl, if_pos w2] at hj
    cases hj
    have : (wr i).toNat < cell.slots.size := by rw [g4]; exact w2
    simp [Cell.setSlot, this, prf]
  · rw [if_neg hij] at hj
    rw [← g5 j y hj]
    simp [Cell.setSlot, Array.getElem?_setIfInBounds, hij]
theorem metN {l : Launch} {y : MethodName} {nL d1 mc ms : Nat} {avs : List Value} {post : xE × xSt × pW → Prop} (hy : plainName y.cls = true) (hnm : y.name = "<init>") (hn : (lg_sl avs).length ≤ nL) (body : ∀ K, xOKN K cc y.cls nL (rmN d1 mc ms) → xEndN K B mc ms post → WN K E B 0 (lv_args 0 avs) [] S ws 0 0) : Met l y (xws y cc nL none) (rmN d1 mc ms) (NPc E B avs S ws) (NQ B post) mc ms (fun a => B ≤ a) := by
  refine Met.ofW (cc := cc) (maxL := nL) (ret := none) hy rfl ?_
  intro p e s m args below meth c s₁ B9 hml hv
  obtain ⟨rfl, hY, hP⟩ := hv
  have hts := atoms_spec (ws := xws y cc nL none) B9.pre
  rw [lg_entry_eq]
  exact body (p, l, e, rmN d1 mc ms, s, m, avs.toArray, below, meth, c, nL, 0, 0, _) ⟨⟨B9.exec, B9.bytes, hml, findClass_of_methodNamed B9.named, fun w hw => hts w (List.mem_cons_of_mem _ hw), B9.notSynchronized, rfl, rfl⟩, ((name_of_methodNamed B9.named B9.method).1.trans hnm)⟩ ⟨rfl, B9.returns⟩ s.heap [] _ hY hP va_S.rf (lv_entry avs hn)
end PS
