/-! the law's entry: the machine's start, out of what is given -/
/-! THE CLAIM OUT OF ONE WALK OF THE LAW'S BODY. Your part is whole_start (and what it stands on); all else here is the same for every law, but numbers. -/
def R_law : String := "FusionFrontLaw"
def lw_P (b : Addr) (xs : List Int32) (args : Array Value) (s : State) : Prop := args = #[.ref b] ∧ s.IntsAt b xs ∧ xs.length ≤ 3072 ∧ (Jvm.Cond.and given_1 narrow_1).before args s = true
/-- what a walk over the start with the record d0 says of its end, said of the start itself -/
theorem lw_closed {s t : State} {o : Outcome} {d0 : Drawn} {L : List Loc} {k n : Nat} (hd0 : s.drawn.sameBut d0 lw_cs) (hv : ∃ v, o = .returned v) (hW : (s.setDrawn d0).WarmedH t.vm) (hs : (s.setDrawn d0).sameButNew ({ t with vm := s.vm } : State) L k n) : State.butDraws s t lw_cs (fun t1 => Framed s o t1 L k n) := by
  have h2 : t.drawn = d0 := congrArg State.drawn hs.1
  refine ⟨⟨hv, hW, State.sameButNew.setDrawn hs s.drawn⟩, ?_, by decide⟩
  rw [h2]
  exact hd0
def lw_Q (_ : Array Value) (s : State) (o : Outcome) (t : State) : Prop := o = .returned (some (.int 1)) ∧ State.butDraws s t lw_cs (fun t1 => Framed s o t1 [] 601024 7293034)
def lw_Z (below : List Frame) (a : Array Value) (s : State) : State → Prop := fun t => ∃ o, t.status = .running ∧ Ended t below o ∧ lw_Q a s o t
/-- the law's own end, with 1 on the stack, nothing written that was there before, its room as the claim has it; d0: the record of draws at this point (at the entry s.drawn: begin with 'refine W.base ?_' and 'have hd0 := Drawn.sameBut.refl s.drawn lw_cs') -/
theorem lw_ret {p : Program} {l : Launch} {e : Env} {s : State} {m : MethodId} {below : List Frame} {meth : Method} {c : Code} {b : Nat} {d0 : Drawn} (hd0 : s.drawn.sameBut d0 lw_cs) (hx : p.tables.exec = Jvm.exec) (hb : c.code = code) (hr : meth.sig.returnType = ret) (hlocks : meth.locks = false) {pc : Nat} {H : Heap} {ls : Array Slot} (hdg : decode code pc = .ok (.ireturn, 1)) : W p l e room_1 (s.setDrawn d0) m #[Value.ref b] below meth c H [] 601024 7293034 (lw_Z below #[Value.ref b] s) (F0 m pc ls [.int 1]) := by
  intro T hT X
  obtain ⟨fs, hret, hrun, hended, hW, hframe⟩ := X.leave (v := some (.int 1)) (hlocks := hlocks) (fun h => by rw [hr] at h; cases h)
  have hmeth' : T.vm.method? m = some meth := X.method'
  refine ⟨T.setFrames fs, ?_, .returned (some (.int 1)), hrun, hended, rfl, lw_closed hd0 ⟨_, rfl⟩ hW hframe⟩
  jvm_step X.here [X.here.top, hx, hb, hdg, hmeth', hr, ret, narrow_b1]
  (try refine ⟨rfl, ?_⟩); (try refine ⟨rfl, ?_⟩)
  first | (intro acts; rw [hret _ acts rfl rfl rfl]) | rw [hret _ _ rfl rfl rfl]
  exact Steps.refl _
/-- what holds at the law's entry: the machine, the code, the tables' words (any of lw_tbl by 'hts w (by decide +kernel)'), the script of L ints xs at the cell b, what the Statement gives of the start (any of its parts by flat_of_before) -/
def lw_At (p : Program) (s : State) (m : MethodId) (meth : Method) (c : Code) (b L : Nat) (xs : Nat → Int32) : Prop :=
  p.tables.exec = Jvm.exec ∧ c.code = code ∧ meth.sig.returnType = ret ∧ c.maxLocals = 9 ∧ s.vm.findClass R_law = some m.cls ∧ (∀ w ∈ lw_tbl, w.before #[Value.ref b] s = true) ∧ va_X b L xs s s.heap ∧ b < s.heap.size ∧ meth.locks = false ∧ (Jvm.Cond.and given_1 narrow_1).before #[Value.ref b] s = true
section OW
variable {K : xCtx} {E : xE} {B : Nat} {cc : ByteArray} {own : String} {n : Nat} {rm : Room} {pc : Nat} {lv : List (Nat × Value)} {st : List Value} {S : xSt} {ws : pW} {cl sl : Nat}
theorem o_iconst (hC : xOK K cc own n rm) {z : Int} (d : decode cc pc = .ok (.iconst z, 1))
    (k : WN K E B (pc + 1) lv (vi z :: st) S ws cl sl) : WN K E B pc lv (st) S ws cl sl := by
  obtain ⟨p, l, e, R, s, m, args, below, meth, c, nL, cl0, sl0, Q⟩ := K
  obtain ⟨hx, hb, hml, hown, hts, hlk, rfl, hRR⟩ := hC
  intro H locs ls hY hP hS hl
  exact lv_iconst hx hb d rfl (k H locs ls hY hP hS hl)
theorem o_dup (hC : xOK K cc own n rm) {v : Value} (hv : v.category = 1) (d : decode cc pc = .ok (.dup, 1))
    (k : WN K E B (pc + 1) lv (v :: v :: st) S ws cl sl) : WN K E B pc lv (v :: st) S ws cl sl := by
  obtain ⟨p, l, e, R, s, m, args, below, meth, c, nL, cl0, sl0, Q⟩ := K
  obtain ⟨hx, hb, hml, hown, hts, hlk, rfl, hRR⟩ := hC
  intro H locs ls hY hP hS hl
  exact lv_dup hx hb d hv (k H locs ls hY hP hS hl)
theorem o_new (hC : xOK K cc own n rm) {ci : Nat} {C : String} {T : u_T} {N : Nat} {ty : Nat → FieldType} (hc : xCl ci C T N ty) {idx : Nat} (h1 : Cond.classLink own idx C ∈ xw) (h2 : Cond.instantiable C N ∈ xw) (h3 : Cond.initialized C ∈ xw) (fs : List Value) (hlen : fs.length = N) (hfs : ∀ j, j < N → defaultValue (ty j) = fs.getD j .null) (hcl : cl + 1 ≤ rm.cells) (hsl : sl + N ≤ rm.slots) (d : decode cc pc = .ok (.new idx, 3))
    (k : ∀ a : Nat, WN K E B (pc + 3) lv (.ref a :: st) S ((a, .inl (ci, fs)) :: ws) (cl + 1) (sl + N)) : WN K E B pc lv st S ws cl sl := by
  obtain ⟨p, l, e, R, s, m, args, below, meth, c, nL, cl0, sl0, Q⟩ := K
  obtain ⟨hx, hb, hml, hown, hts, hlk, rfl, hRR⟩ := hC
  intro H locs ls hY hP hS hl
  have hKn := hY.1.1.1 ci _ hc.1
  refine W.newcK hx hb hown (hts _ h1) (hts _ h2) (hts _ h3) rfl d (by rw [hRR]; exact hcl) (by rw [hRR]; exact hsl) hKn.2.1 rfl fun H1 kC hkC e1 z1 o1 => ?_
  refine k H.size H1 locs ls (YW_push hY o1) (PN_push hY hP ⟨_, hc.1, hlen.symm, ?_⟩ z1 o1) ⟨Nat.le_trans hS.1 (by omega), fun x h1 h2 => (o1 x (Nat.lt_of_lt_of_le h1 hS.1)).trans (hS.2.1 x h1 h2), hS.2.2⟩ hl
  exact (u_born ty hts hc.2.1 hKn hkC e1 hc.2.2.1).to hfs
theorem o_newa (hC : xOK K cc own n rm) {atype : ArrayType} {et : FieldType} (het : newarray.typeOf atype = et) (harr : Cond.arrayClass et ∈ xw) {z : Int} {N : Nat} (hz : 0 ≤ wr z) (hN : (wr z).toNat = N) (hby : N * componentBytes et ≤ 536870912) (hcl : cl + 1 ≤ rm.cells) (hsl : sl + N ≤ rm.slots) (d : decode cc pc = .ok (.newarray atype, 2))
    (k : ∀ a : Nat, WN K E B (pc + 2) lv (.ref a :: st) S ((a, .inr (.inl (et, N))) :: ws) (cl + 1) (sl + N)) : WN K E B pc lv (vi z :: st) S ws cl sl := by
  obtain ⟨p, l, e, R, s, m, args, below, meth, c, nL, cl0, sl0, Q⟩ := K
  obtain ⟨hx, hb, hml, hown, hts, hlk, rfl, hRR⟩ := hC
  intro H locs ls hY hP hS hl
  subst het
  have e0 : wr 0 = 0 := by decide
  refine va_newaK hx hb (hts _ harr) rfl d rfl (fun q => by rw [i32_0, i32_lt] at q; omega) (by rw [i32_nat]; exact hN) hby (by rw [hRR]; exact hcl) (by rw [hRR]; exact hsl) rfl fun H1 cA e1 z1 o1 hAr hfc => ?_
  refine k H.size H1 locs ls (YW_push hY o1) (PN_push hY hP ⟨_, e1, hAr _ _, (fun q => by cases q), arrV_size _ _ _, fun j hj => arrV_read _ _ hj⟩ z1 o1) ⟨Nat.le_trans hS.1 (by omega), fun x h1 h2 => (o1 x (Nat.lt_of_lt_of_le h1 hS.1)).trans (hS.2.1 x h1 h2), hS.2.2⟩ hl
theorem o_ctor (hC : xOK K cc own n rm) {y : MethodName} {bytes : ByteArray} {maxL na idx d' mc ms a : Nat} (hy : mC y bytes maxL na) (hlink : Cond.methodLink own idx y ∈ xw) (hR : d' + 1 ≤ rm.frames ∧ 64 * (d' + 1) ≤ rm.locals) (hcl : cl + mc ≤ rm.cells) (hsl : sl + ms ≤ rm.slots) (As : List Value) {st0 : List Value} (hst : st0 = As.reverse ++ .ref a :: st) {post : xE × xSt × pW → Prop} (hbase : ∀ u, post u → xBase E u.1) (hM : ∀ l, Met l y (xws y bytes maxL none) (rmN d' mc ms) (NPc E B (.ref a :: As) S ws) (NQ B post) mc ms (fun a => B ≤ a)) (hn : As.length = na) (hcat : (st.map fun v => v.category).sum ≤ 8) (d : decode cc pc = .ok (.invokespecial idx, 3))
    (k : ∀ u, post u → WN K u.1 B (pc + 3) lv st u.2.1 u.2.2 (cl + mc) (sl + ms)) : WN K E B pc lv st0 S ws cl sl := by
  obtain ⟨p, l, e, R, s, m, args, below, meth, c, nL, cl0, sl0, Q⟩ := K
  obtain ⟨hx, hb, hml, hown, hts, hlk, rfl, hRR⟩ := hC
  intro H locs ls hY hP hS hl
  subst hst
  have hBz := hP.2.2.2.2.1
  refine va_callv (va_runI (As := As) (rest := st) ⟨hx, hb, hml, hown, hts⟩ (hM l) (cwI na hts (good_c hy.1.2.2) rfl rfl rfl (hts _ hy.1.2.1) (hts _ hlink) (hts _ hy.1.1) hy.2.1 hy.2.2.1 (rm_n (by rw [hRR]; exact hR) hy.2.2.2)) ⟨NPc_blind, fun U hU hW => ⟨rfl, by rw [hU]; exact YW_warm hW hY, by rw [hU]; exact PN_moved hW.alike hP⟩⟩ rfl hn hl.1 rfl (lv_room hcat) d ⟨by rw [hRR]; exact hcl, by rw [hRR]; exact hsl⟩) hS (fun q _ h => h) (fun q h => h) (fun u t H1 locs1 ht hvm hw hB _ _ hS1 => ?_)
  obtain ⟨hB1, hB2⟩ := hB
  subst ht
  exact k u hw _ locs1 ls (YN_back hY (hbase u hw) hvm hB1) (PN_moved hvm.symm hB2) hS1 hl
theorem o_astore_n (hC : xOK K cc own n rm) {f : Fin 4} {i : Nat} (hi : (f : Nat) = i) {a : Nat} (hn : i < n) {lv' : List (Nat × Value)} (hl' : (i, .ref a) :: lv.filter (fun q => !(q.1 == i) && !(q.1 + 1 == i && q.2.category == 2)) = lv') (d : decode cc pc = .ok (.astore_n f, 1))
    (k : WN K E B (pc + 1) lv' st S ws cl sl) : WN K E B pc lv (.ref a :: st) S ws cl sl := by
  obtain ⟨p, l, e, R, s, m, args, below, meth, c, nL, cl0, sl0, Q⟩ := K
  obtain ⟨hx, hb, hml, hown, hts, hlk, rfl, hRR⟩ := hC
  intro H locs ls hY hP hS hl
  exact lv_astore_n hx hb d hi hl hn hl' (fun ls' h' => k H locs ls' hY hP hS h')
theorem o_istore (hC : xOK K cc own n rm) {i : Nat} {x : Int} (hn : i < n) {lv' : List (Nat × Value)} (hl' : (i, vi x) :: lv.filter (fun q => !(q.1 == i) && !(q.1 + 1 == i && q.2.category == 2)) = lv') (d : decode cc pc = .ok (.istore i, 2))
    (k : WN K E B (pc + 2) lv' st S ws cl sl) : WN K E B pc lv (vi x :: st) S ws cl sl := by
  obtain ⟨p, l, e, R, s, m, args, below, meth, c, nL, cl0, sl0, Q⟩ := K
  obtain ⟨hx, hb, hml, hown, hts, hlk, rfl, hRR⟩ := hC
  intro H locs ls hY hP hS hl
  exact lv_istore hx hb d hl hn hl' (fun ls' h' => k H locs ls' hY hP hS h')
/-- from what is being made to what stands -/
theorem o_toG {p : Program} {l : Launch} {e : Env} {R : Room} {s : State} {m : MethodId} {args : Array Value} {below : List Frame} {meth : Method} {c : Code} {nL c0 s0 : Nat} {Q : State → Prop} (hB : s.heap.size ≤ B) (k : (∀ a, xA E a → B ≤ a) → WG (p, l, e, R, s, m, args, below, meth, c, nL, cl, sl, Q) E pc lv st S) : WN (p, l, e, R, s, m, args, below, meth, c, nL, c0, s0, Q) E B pc lv st S ws cl sl := by
  intro H locs ls hY hP hS hl
  have hA := hP.2.2.2.1
  refine va_forget (fun q hq => Nat.le_trans hB (hS.2.2 q hq)) ?_
  exact k hA H [] ls hY ⟨hS.1, fun q h1 _ => hS.2.1 q h1 (fun z => absurd (Nat.lt_of_lt_of_le h1 hB) (Nat.not_lt.mpr z)), fun _ h => by cases h⟩ hl
theorem layn5 : ∀ (o : Nat) (k : xK), lay 5 o = some k → o < 1 := by
  intro o k h
  by_cases hn : o < 1
  · exact hn
  · have : (xl5)[o]? = none := List.getElem?_eq_none (by show 1 ≤ o; omega)
    have h2 : (xl5)[o]? = some k := h
    rw [this] at h2
    cases h2
set_option maxRecDepth 100000 in
set_option maxHeartbeats 8000000 in
/-- the entry's walk behind the class's maker: the reference, the row of one long, the count -/
theorem o_start2 {b a1 : Nat} {SC SD : xSt} (hC : xOK K code RL 9 room_1) (hk13 : xkd E 13 = 0) (hk14 : xkd E 14 = 0) (ha13 : xApart E S 13) (h1 : f_X12_clears_p4_0 (newS S 13 4 sg13 (fun _ _ => nul)) 13 = some SC) (h2 : f_X12_takesDraft_p4_0 SC 13 = some SD) (ha14 : ∀ f, xApart (addR E 13 4 f) SD 14) (e1 : a1 = xad E 0 0) (hcl : cl = 233) (hsl : sl = 6390)
    (k : ∀ f g : Nat → Nat, WN K (addR (addR E 13 4 f) 14 5 g) B 23 [(4, vi 0), (3, vr (addR (addR E 13 4 f) 14 5 g) 14 0), (2, vr (addR (addR E 13 4 f) 14 5 g) 13 0), (1, vr (addR (addR E 13 4 f) 14 5 g) 0 0), (0, .ref b)] [] (newS SD 14 5 (fun _ _ => 0) (fun _ _ => nul)) [] 253 11667) : WN K E B 7 [(0, .ref b)] [.ref a1] S [] cl sl := by
  subst hcl hsl
  refine o_astore_n hC rfl (by decide) (lv' := [(1, .ref a1), (0, .ref b)]) rfl (xdt tt_L_law0 3 rfl) ?_
  refine o_new hC kclX12 q3 q4 q5 [.int 0, .int 0, .int 0, .int 0, .int 0, .null, .null, .null, .null, .null, .null, .null, .null, .null, .null, .null, .int 0, .int 0, .null, .int 0, .null, .int 0, .int 0, .int 0, .int 0, .int 0, .int 0, .int 0, .int 0, .int 0, .int 0, .int 0, .int 0, .int 0, .int 0, .int 0, .null, .null, .null, .null, .null, .int 0] rfl blkX12 (Nat.le_of_ble_eq_true rfl) (Nat.le_of_ble_eq_true rfl) (xdt tt_L_law0 4 rfl) (fun a2 => ?_)
  refine o_dup hC rfl (xdt tt_L_law0 5 rfl) ?_
  refine o_ctor hC mc_X12_init q192 ⟨(Nat.le_of_ble_eq_true rfl), (Nat.le_of_ble_eq_true rfl)⟩ (Nat.le_of_ble_eq_true rfl) (Nat.le_of_ble_eq_true rfl) [] rfl (fun u hu => hb_X12_init hu) (fun l => cN_X12_init l hk13 ha13 h1 h2) rfl (Nat.le_of_ble_eq_true rfl) (xdt tt_L_law0 6 rfl) (fun u hu => ?_)
  obtain ⟨f, hf, rfl⟩ := hu
  refine o_astore_n hC rfl (by decide) (lv' := [(2, .ref a2), (1, .ref a1), (0, .ref b)]) rfl (xdt tt_L_law0 7 rfl) ?_
  refine o_iconst hC (xdt tt_L_law0 8 rfl) ?_
  refine o_newa hC (et := .long) rfl q6 (by decide) (N := 1) (by decide) (Nat.le_of_ble_eq_true rfl) (Nat.le_of_ble_eq_true rfl) (Nat.le_of_ble_eq_true rfl) (xdt tt_L_law0 9 rfl) (fun a3 => ?_)
  refine o_astore_n hC rfl (by decide) (lv' := [(3, .ref a3), (2, .ref a2), (1, .ref a1), (0, .ref b)]) rfl (xdt tt_L_law0 10 rfl) ?_
  refine o_iconst hC (xdt tt_L_law0 11 rfl) ?_
  refine o_istore hC (by decide) (lv' := [(4, vi 0), (3, .ref a3), (2, .ref a2), (1, .ref a1), (0, .ref b)]) rfl (xdt tt_L_law0 12 rfl) ?_
  have hk : xkd (addR E 13 4 f) 14 = 0 := by rw [addR_kn (by decide)]; exact hk14
  refine n_region2 (E := addR E 13 4 f) (S := SD) (own := [(a3, .inr (.inl (.long, 1)))]) (ws0 := []) (r := 14) (κ := 5) [0] [a3] (σ0 := fun _ _ => 0) (ρ0 := fun _ _ => nul) layn5 rfl (by decide) hk (ha14 f) (fun o k hk => ?_) ?_
  · have ho := layn5 o k hk
    obtain rfl : o = 0 := by omega
    cases Option.some.inj (hk.symm.trans ly5_0)
    exact ⟨.inr (.inl (.long, 1)), rfl, ⟨rfl, fun _ => rfl, Or.inr (Or.inr (Or.inr rfl)), by decide⟩⟩
  · have k9 := k f (fun o => [a3].getD o 0)
    have z1 : vr (addR (addR E 13 4 f) 14 5 (fun o => [a3].getD o 0)) 0 0 = .ref a1 := by
      unfold vr
      rw [addR_n (by decide), addR_n (by decide), ← e1]
    have z2 : vr (addR (addR E 13 4 f) 14 5 (fun o => [a3].getD o 0)) 13 0 = .ref a2 := by
      unfold vr
      rw [addR_n (by decide), addR_s, hf]
    have z3 : vr (addR (addR E 13 4 f) 14 5 (fun o => [a3].getD o 0)) 14 0 = .ref a3 := by
      unfold vr
      rw [addR_s]
      rfl
    rw [z1, z2, z3] at k9
    exact k9
set_option maxRecDepth 100000 in
set_option maxHeartbeats 16000000 in
theorem o_start {b : Nat} (hC : xOK K code RL 9 room_1) (hE : ∀ r, xkd E r = 0) (f0 : 10000000 ≤ S.1.1)
    (k : ∀ (E' : xE) (S' : xSt), INV 0 S' → xkd E' 0 = 3 → xFam E' 0 → xkd E' 13 = 4 → xkd E' 14 = 5 → WN K E' B 23 [(4, vi 0), (3, vr E' 14 0), (2, vr E' 13 0), (1, vr E' 0 0), (0, .ref b)] [] S' [] 253 11667) : WN K E B 0 [(0, .ref b)] [] S [] 0 0 := by
  obtain ⟨S1, S2, S3, S4, S5, S6, S7, S8, S9, S10, S11, S12, ha10, hp10, ha11, hp11, ha12, hp12, ha1, hp1, ha2, hp2, ha3, hp3, ha4, hp4, ha5, hp5, ha6, hp6, ha7, hp7, ha8, hp8, ha9, hp9, ha0, hfu, k11, k12, hy, hz, p1, p2, p3, p4, p5, p6, p7, p8, p9⟩ := st_chain (E := E) hE (S := S) f0
  have hfu1 : 10000000 ≤ (newS S12 0 3 sg0 rg0).1.1 := by
    show 10000000 ≤ S12.1.1
    rw [hfu]
    exact f0
  obtain ⟨SC, SD, c1, c2, t, hM, hN, m16, m17, m21, m29, m30, m41⟩ := st_model (newS S12 0 3 sg0 rg0) hfu1
  have hI := st_inv (S := S12) hfu1 k11 k12 hy hz p1 t hM hN m16 m17 m21 m29 m30 m41
  have w1 : (newS S12 0 3 sg0 rg0).2.2 1 0 0 = (11, 0) := by rw [nS_p (by decide), p1]
  have d1 : SD.2.2 1 0 0 = (11, 0) := by rw [t.2.2.2.2 1 (by decide), w1]
  have w2 : (newS S12 0 3 sg0 rg0).2.2 2 0 0 = (11, 0) := by rw [nS_p (by decide), p2]
  have d2 : SD.2.2 2 0 0 = (11, 0) := by rw [t.2.2.2.2 2 (by decide), w2]
  have w3 : (newS S12 0 3 sg0 rg0).2.2 3 0 0 = (11, 0) := by rw [nS_p (by decide), p3]
  have d3 : SD.2.2 3 0 0 = (11, 0) := by rw [t.2.2.2.2 3 (by decide), w3]
  have w4 : (newS S12 0 3 sg0 rg0).2.2 4 0 0 = (11, 0) := by rw [nS_p (by decide), p4]
  have d4 : SD.2.2 4 0 0 = (11, 0) := by rw [t.2.2.2.2 4 (by decide), w4]
  have w5 : (newS S12 0 3 sg0 rg0).2.2 5 0 0 = (11, 0) := by rw [nS_p (by decide), p5]
  have d5 : SD.2.2 5 0 0 = (11, 0) := by rw [t.2.2.2.2 5 (by decide), w5]
  have w6 : (newS S12 0 3 sg0 rg0).2.2 6 0 0 = (11, 0) := by rw [nS_p (by decide), p6]
  have d6 : SD.2.2 6 0 0 = (11, 0) := by rw [t.2.2.2.2 6 (by decide), w6]
  have w7 : (newS S12 0 3 sg0 rg0).2.2 7 0 0 = (11, 0) := by rw [nS_p (by decide), p7]
  have d7 : SD.2.2 7 0 0 = (11, 0) := by rw [t.2.2.2.2 7 (by decide), w7]
  have w8 : (newS S12 0 3 sg0 rg0).2.2 8 0 0 = (11, 0) := by rw [nS_p (by decide), p8]
  have d8 : SD.2.2 8 0 0 = (11, 0) := by rw [t.2.2.2.2 8 (by decide), w8]
  have w9 : (newS S12 0 3 sg0 rg0).2.2 9 0 0 = (11, 0) := by rw [nS_p (by decide), p9]
  have d9 : SD.2.2 9 0 0 = (11, 0) := by rw [t.2.2.2.2 9 (by decide), w9]
  have ua : (newS S12 0 3 sg0 rg0).2.2 0 0 4 = (11, 0) := rfl
  have va : SD.2.2 0 0 4 = (11, 0) := by rw [t.2.2.2.2 0 (by decide), ua]
  have ub : (newS S12 0 3 sg0 rg0).2.2 0 0 5 = (12, 0) := rfl
  have vb : SD.2.2 0 0 5 = (12, 0) := by rw [t.2.2.2.2 0 (by decide), ub]
  have uc : (newS S12 0 3 sg0 rg0).2.2 0 2 0 = (0, 13) := rfl
  have vc : SD.2.2 0 2 0 = (0, 13) := by rw [t.2.2.2.2 0 (by decide), uc]
  have ud : (newS S12 0 3 sg0 rg0).2.2 0 2 2 = (10, 0) := rfl
  have vd : SD.2.2 0 2 2 = (10, 0) := by rw [t.2.2.2.2 0 (by decide), ud]
  refine o_new hC kclX11 q0 q1 q2 [.null, .int 0, .null, .null, .null, .null, .null, .null, .null, .int 0, .null, .null] rfl blkX11 (Nat.le_of_ble_eq_true rfl) (Nat.le_of_ble_eq_true rfl) (xdt tt_L_law0 0 rfl) (fun a1 => ?_)
  refine o_dup hC rfl (xdt tt_L_law0 1 rfl) ?_
  refine o_ctor hC mc_X11_init q7 ⟨(Nat.le_of_ble_eq_true rfl), (Nat.le_of_ble_eq_true rfl)⟩ (Nat.le_of_ble_eq_true rfl) (Nat.le_of_ble_eq_true rfl) [] rfl (fun u hu => hb_X11_init hu) (fun l => cN_X11_init l (hE 10) (hE 11) (hE 12) (hE 1) (hE 2) (hE 3) (hE 4) (hE 5) (hE 6) (hE 7) (hE 8) (hE 9) (hE 0) ha10 hp10 ha11 hp11 ha12 hp12 ha1 hp1 ha2 hp2 ha3 hp3 ha4 hp4 ha5 hp5 ha6 hp6 ha7 hp7 ha8 hp8 ha9 hp9 ha0) rfl (Nat.le_of_ble_eq_true rfl) (xdt tt_L_law0 2 rfl) (fun u hu => ?_)
  obtain ⟨f10, f11, f12, f1, f2, f3, f4, f5, f6, f7, f8, f9, f, hf, rfl⟩ := hu
  have x13 : xApart (addR (addR (addR (addR (addR (addR (addR (addR (addR (addR (addR (addR (addR E 10 2 f10) 11 2 f11) 12 2 f12) 1 1 f1) 2 1 f2) 3 1 f3) 4 1 f4) 5 1 f5) 6 1 f6) 7 1 f7) 8 1 f8) 9 1 f9) 0 3 f) (newS S12 0 3 sg0 rg0) 13 := xap (ao_3 (ao_1 (ao_1 (ao_1 (ao_1 (ao_1 (ao_1 (ao_1 (ao_1 (ao_1 (ao_2 (ao_2 (ao_2 (ao_z hE)))) (by rw [w1]; decide)) (by rw [w2]; decide)) (by rw [w3]; decide)) (by rw [w4]; decide)) (by rw [w5]; decide)) (by rw [w6]; decide)) (by rw [w7]; decide)) (by rw [w8]; decide)) (by rw [w9]; decide)) ⟨by decide, by rw [ua]; decide, by rw [ub]; decide, by rw [uc]; decide, by rw [ud]; decide⟩)
  have x14 : ∀ g, xApart (addR (addR (addR (addR (addR (addR (addR (addR (addR (addR (addR (addR (addR (addR E 10 2 f10) 11 2 f11) 12 2 f12) 1 1 f1) 2 1 f2) 3 1 f3) 4 1 f4) 5 1 f5) 6 1 f6) 7 1 f7) 8 1 f8) 9 1 f9) 0 3 f) 13 4 g) SD 14 := fun g => xap (ao_4 (ao_3 (ao_1 (ao_1 (ao_1 (ao_1 (ao_1 (ao_1 (ao_1 (ao_1 (ao_1 (ao_2 (ao_2 (ao_2 (ao_z hE)))) (by rw [d1]; decide)) (by rw [d2]; decide)) (by rw [d3]; decide)) (by rw [d4]; decide)) (by rw [d5]; decide)) (by rw [d6]; decide)) (by rw [d7]; decide)) (by rw [d8]; decide)) (by rw [d9]; decide)) ⟨by decide, by rw [va]; decide, by rw [vb]; decide, by rw [vc]; decide, by rw [vd]; decide⟩))
  have fam : xFam (addR (addR (addR (addR (addR (addR (addR (addR (addR (addR (addR (addR (addR E 10 2 f10) 11 2 f11) 12 2 f12) 1 1 f1) 2 1 f2) 3 1 f3) 4 1 f4) 5 1 f5) 6 1 f6) 7 1 f7) 8 1 f8) 9 1 f9) 0 3 f) 0 := by
    intro i i1 i2
    rcases (show i = 1 ∨ i = 2 ∨ i = 3 ∨ i = 4 ∨ i = 5 ∨ i = 6 ∨ i = 7 ∨ i = 8 ∨ i = 9 by omega) with rfl | rfl | rfl | rfl | rfl | rfl | rfl | rfl | rfl <;> rfl
  have y13 : xkd (addR (addR (addR (addR (addR (addR (addR (addR (addR (addR (addR (addR (addR E 10 2 f10) 11 2 f11) 12 2 f12) 1 1 f1) 2 1 f2) 3 1 f3) 4 1 f4) 5 1 f5) 6 1 f6) 7 1 f7) 8 1 f8) 9 1 f9) 0 3 f) 13 = 0 := hE 13
  have y14 : xkd (addR (addR (addR (addR (addR (addR (addR (addR (addR (addR (addR (addR (addR E 10 2 f10) 11 2 f11) 12 2 f12) 1 1 f1) 2 1 f2) 3 1 f3) 4 1 f4) 5 1 f5) 6 1 f6) 7 1 f7) 8 1 f8) 9 1 f9) 0 3 f) 14 = 0 := hE 14
  have y0 : xkd (addR (addR (addR (addR (addR (addR (addR (addR (addR (addR (addR (addR (addR E 10 2 f10) 11 2 f11) 12 2 f12) 1 1 f1) 2 1 f2) 3 1 f3) 4 1 f4) 5 1 f5) 6 1 f6) 7 1 f7) 8 1 f8) 9 1 f9) 0 3 f) 0 = 3 := rfl
  have g0 : a1 = xad (addR (addR (addR (addR (addR (addR (addR (addR (addR (addR (addR (addR (addR E 10 2 f10) 11 2 f11) 12 2 f12) 1 1 f1) 2 1 f2) 3 1 f3) 4 1 f4) 5 1 f5) 6 1 f6) 7 1 f7) 8 1 f8) 9 1 f9) 0 3 f) 0 0 := by rw [addR_s, hf]
  show WN K (addR (addR (addR (addR (addR (addR (addR (addR (addR (addR (addR (addR (addR E 10 2 f10) 11 2 f11) 12 2 f12) 1 1 f1) 2 1 f2) 3 1 f3) 4 1 f4) 5 1 f5) 6 1 f6) 7 1 f7) 8 1 f8) 9 1 f9) 0 3 f) B 7 [(0, .ref b)] [.ref a1] (newS S12 0 3 sg0 rg0) [] (0 + 1 + 232) (0 + 12 + 6378)
  clear hf
  generalize (addR (addR (addR (addR (addR (addR (addR (addR (addR (addR (addR (addR (addR E 10 2 f10) 11 2 f11) 12 2 f12) 1 1 f1) 2 1 f2) 3 1 f3) 4 1 f4) 5 1 f5) 6 1 f6) 7 1 f7) 8 1 f8) 9 1 f9) 0 3 f) = E1 at x13 x14 fam y13 y14 y0 g0 ⊢
  refine o_start2 hC y13 y14 x13 c1 c2 x14 g0 rfl rfl (fun f' g => ?_)
  refine k _ _ hI (by rw [addR_kn (by decide), addR_kn (by decide)]; exact y0) (fun i i1 i2 => ?_) (by rw [addR_kn (by decide), addR_ks]) addR_ks
  rw [addR_kn (by omega), addR_kn (by omega)]
  exact fam i i1 i2
end OW
theorem st_D {s : State} {args : Array Value} (hts : ∀ w ∈ lw_tbl, w.before args s = true) : ∃ D : va_G, va_K D vwCl [] s := by
  have htw : ∀ w ∈ xw, w.before args s = true := fun w h => hts w (xw_tbl w h)
  obtain ⟨c0, i0, h0⟩ := u_known htw kclX0.2.1 (htw _ q29)
  obtain ⟨c1, i1, h1⟩ := u_known htw kclX1.2.1 (htw _ q35)
  obtain ⟨c2, i2, h2⟩ := u_known htw kclX2.2.1 (htw _ q20)
  obtain ⟨c3, i3, h3⟩ := u_known htw kclX3.2.1 (htw _ q16)
  obtain ⟨c4, i4, h4⟩ := u_known htw kclX4.2.1 (htw _ q39)
  obtain ⟨c5, i5, h5⟩ := u_known htw kclX5.2.1 (htw _ q24)
  obtain ⟨c6, i6, h6⟩ := u_known htw kclX6.2.1 (htw _ q100)
  obtain ⟨c7, i7, h7⟩ := u_known htw kclX7.2.1 (htw _ q104)
  obtain ⟨c8, i8, h8⟩ := u_known htw kclX8.2.1 (htw _ q61)
  obtain ⟨c9, i9, h9⟩ := u_known htw kclX9.2.1 (htw _ q114)
  obtain ⟨c10, i10, h10⟩ := u_known htw kclX10.2.1 (htw _ q108)
  obtain ⟨c11, i11, h11⟩ := u_known htw kclX11.2.1 (htw _ q1)
  obtain ⟨c12, i12, h12⟩ := u_known htw kclX12.2.1 (htw _ q4)
  refine ⟨(fun k => [c0, c1, c2, c3, c4, c5, c6, c7, c8, c9, c10, c11, c12].getD k c0, fun k => [i0, i1, i2, i3, i4, i5, i6, i7, i8, i9, i10, i11, i12].getD k i0), fun c q hq => ?_, fun k q hk => by cases hk⟩
  have hc : c < 13 := (List.getElem?_eq_some_iff.mp hq).1
  rcases (show c = 0 ∨ c = 1 ∨ c = 2 ∨ c = 3 ∨ c = 4 ∨ c = 5 ∨ c = 6 ∨ c = 7 ∨ c = 8 ∨ c = 9 ∨ c = 10 ∨ c = 11 ∨ c = 12 by omega) with rfl | rfl | rfl | rfl | rfl | rfl | rfl | rfl | rfl | rfl | rfl | rfl | rfl
  · obtain rfl : (RX0, TX0, 18) = q := Option.some.inj hq
    exact h0
  · obtain rfl : (RX1, TX1, 3) = q := Option.some.inj hq
    exact h1
  · obtain rfl : (RX2, TX2, 2) = q := Option.some.inj hq
    exact h2
  · obtain rfl : (RX3, TX3, 13) = q := Option.some.inj hq
    exact h3
  · obtain rfl : (RX4, TX4, 2) = q := Option.some.inj hq
    exact h4
  · obtain rfl : (RX5, TX5, 11) = q := Option.some.inj hq
    exact h5
  · obtain rfl : (RX6, TX6, 3) = q := Option.some.inj hq
    exact h6
  · obtain rfl : (RX7, TX7, 5) = q := Option.some.inj hq
    exact h7
  · obtain rfl : (RX8, TX8, 3) = q := Option.some.inj hq
    exact h8
  · obtain rfl : (RX9, TX9, 5) = q := Option.some.inj hq
    exact h9
  · obtain rfl : (RX10, TX10, 1) = q := Option.some.inj hq
    exact h10
  · obtain rfl : (RX11, TX11, 12) = q := Option.some.inj hq
    exact h11
  · obtain rfl : (RX12, TX12, 42) = q := Option.some.inj hq
    exact h12
theorem st_E {s : State} {args : Array Value} (hts : ∀ w ∈ lw_tbl, w.before args s = true) (hfl : ∀ c ∈ FLs, c.before args s = true) : ∃ E : xE, (∀ r, xkd E r = 0) ∧ YW E ((10000000, fun _ => 0), (fun _ _ _ => 0), fun _ _ _ => nul) s s.heap ∧ PN E s.heap.size [] s s.heap := by
  obtain ⟨ts, aK, aV, hw⟩ := st_world hts hfl
  obtain ⟨D, hD⟩ := st_D hts
  have w0 := hw (D, (fun _ _ => 0), (fun _ => 0), (fun _ => False), aK, aV, ts) rfl rfl rfl (fun _ _ h => h)
  have w1 := hw (D, (fun _ _ => 0), (fun _ => 0), (fun a => s.heap.size ≤ a), aK, aV, ts) rfl rfl rfl (fun a h1 h2 => absurd h1 (Nat.not_lt.mpr h2))
  have no : ∀ {o : Nat} {k : xK}, lay 0 o = some k → False := fun {o k} h => nomatch (show (none : Option xK) = some k from h)
  refine ⟨(D, (fun _ _ => 0), (fun _ => 0), (fun _ => False), aK, aV, ts), fun _ => rfl, ⟨⟨hD, fun r o k h => (no h).elim, ⟨fun r o r' o' k k' h => (no h).elim, fun r o k h => (no h).elim⟩, w0.1, w0.2⟩, rfl⟩, ⟨(fun q h => by cases h), List.Pairwise.nil, (fun a (h : False) => h.elim), (fun a (h : False) => h.elim), Nat.le_refl _, w1.1, st_AO hts⟩⟩
set_option maxHeartbeats 4000000 in
theorem whole_start {p : Program} {e : Env} {s : State} {m : MethodId} {below : List Frame} {meth : Method} {c : Code} (l : Launch) (hflags : l.flags = flags0) {b L : Nat} {xs : Nat → Int32} (hL : L ≤ 3072) (C0 : lw_At p s m meth c b L xs) : W p l e room_1 s m #[Value.ref b] below meth c s.heap [] 0 0 (lw_Z below #[Value.ref b] s) (entryFrame m ([Value.ref b] : List Value).toArray 9) := by
  obtain ⟨hx, hb, hr, hml, hown, hts, hX, hbl, hlk, hgv⟩ := C0
  have hfl : ∀ c ∈ FLs, c.before #[Value.ref b] s = true := flat_of_before _ hgv
  have htw : ∀ w ∈ xw, w.before #[Value.ref b] s = true := fun w h => hts w (xw_tbl w h)
  have hst : l.stackTraces = false := by
    unfold Launch.stackTraces
    rw [hflags]
    decide +kernel
  obtain ⟨E, hE, hY, hP⟩ := st_E hts hfl
  have hC : xOK (p, l, e, room_1, s, m, #[Value.ref b], below, meth, c, 9, 0, 0, lw_Z below #[Value.ref b] s) code RL 9 room_1 := ⟨hx, hb, hml, hown, htw, hlk, rfl, rfl⟩
  have key := o_start (B := s.heap.size) (b := b) hC hE (S := ((10000000, fun _ => 0), (fun _ _ _ => 0), fun _ _ _ => nul)) (Nat.le_refl _) (fun E' S' hI h0 hfam h13 h14 => by
    refine o_toG (Nat.le_refl _) (fun hA => ?_)
    refine g_sub [4, 3, 2, 1, 0] (lv' := [(0, .ref b), (1, vr E' 0 0), (2, vr E' 13 0), (3, vr E' 14 0), (4, vi 0)]) rfl ?_
    obtain ⟨T, hT⟩ := law_all (sc := fun k => (xs k).toInt) hL (fun k => by rw [← wr_toInt, Int32.ofInt_toInt]) hI
    have hLC : lwC (p, l, e, room_1, s, m, #[Value.ref b], below, meth, c, 9, 0, 0, lw_Z below #[Value.ref b] s) E' 253 11667 b L (fun k => (xs k).toInt) := by
      refine ⟨fun _ => ⟨hx, hb, hml, hown, htw, hlk, rfl, rfl⟩, fun _ => ⟨⟨xs, hX, rfl⟩, hbl, fun z => absurd hbl (Nat.not_lt.mpr (hA b z)), hL⟩, fun _ => hst, ⟨by decide, by decide⟩, hL, fun m' pc lv S hm d => ?_⟩
      intro H locs ls _ hS _
      show W p l e room_1 s m #[Value.ref b] below meth c H locs (253 + m') (11667 + 6 * m') (lw_Z below #[Value.ref b] s) (F0 m pc ls [.int 1])
      refine W.widen (k := 601024) (n := 7293034) (by omega) (by omega) ?_
      refine va_forget (fun q hq => hA _ (hS.2.2 q hq)) ?_
      refine W.base ?_
      exact lw_ret (fun c => ⟨Nat.le_refl _, fun _ => rfl⟩) hx hb hr hlk d
    exact k_law_b23 hLC h0 hfam h13 h14 600 S' T 0 0 hT rfl (by decide))
  rw [lg_entry_eq]
  exact key s.heap [] _ hY hP va_S.rf (lv_entry [Value.ref b] (Nat.le_of_ble_eq_true rfl))
