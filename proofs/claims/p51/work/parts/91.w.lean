/-! the law's entry: the machine's start, out of what is given -/
/-! THE CLAIM OUT OF ONE WALK OF THE LAW'S BODY. Your part is whole_start (and what it stands on); all else here is the same for every law, but numbers. -/
def R_law : String := "FusionFrontLaw"
def lw_P (b : Addr) (xs : List Int32) (args : Array Value) (s : State) : Prop := args = #[.ref b] ∧ s.IntsAt b xs ∧ xs.length ≤ 260 ∧ (Jvm.Cond.and given_1 narrow_1).before args s = true
def lw_Q (_ : Array Value) (s : State) (o : Outcome) (t : State) : Prop := o = .returned (some (.int 1)) ∧ Framed s o t [] 600086 7301442
def lw_Z (below : List Frame) (a : Array Value) (s : State) : State → Prop := fun t => ∃ o, t.status = .running ∧ Ended t below o ∧ lw_Q a s o t
/-- the law's own end, with 1 on the stack, nothing written that was there before, its room as the claim has it -/
theorem lw_ret {p : Program} {l : Launch} {e : Env} {s : State} {m : MethodId} {below : List Frame} {meth : Method} {c : Code} {b : Nat} (hx : p.tables.exec = Jvm.exec) (hb : c.code = code) (hr : meth.sig.returnType = ret) (hlocks : meth.locks = false) {pc : Nat} {H : Heap} {ls : Array Slot} (hdg : decode code pc = .ok (.ireturn, 1)) : W p l e room_1 s m #[Value.ref b] below meth c H [] 600086 7301442 (lw_Z below #[Value.ref b] s) (F0 m pc ls [.int 1]) := by
  intro T hT X
  obtain ⟨fs, hret, hrun, hended, hW, hframe⟩ := X.leave (v := some (.int 1)) (hlocks := hlocks) (fun h => by rw [hr] at h; cases h)
  have hmeth' : T.vm.method? m = some meth := X.method'
  refine ⟨T.setFrames fs, ?_, .returned (some (.int 1)), hrun, hended, rfl, ⟨_, rfl⟩, hW, hframe⟩
  jvm_step X.here [X.here.top, hx, hb, hdg, hmeth', hr, ret, narrow_b1]
  (try refine ⟨rfl, ?_⟩); (try refine ⟨rfl, ?_⟩)
  first | (intro acts; rw [hret _ acts rfl rfl rfl]) | rw [hret _ _ rfl rfl rfl]
  exact Steps.refl _
/-- what holds at the law's entry: the machine, the code, the tables' words (any of lw_tbl by 'hts w (by decide +kernel)'), the script of L ints xs at the cell b, what the Statement gives of the start (any of its parts by flat_of_before) -/
def lw_At (p : Program) (s : State) (m : MethodId) (meth : Method) (c : Code) (b L : Nat) (xs : Nat → Int32) : Prop :=
  p.tables.exec = Jvm.exec ∧ c.code = code ∧ meth.sig.returnType = ret ∧ c.maxLocals = 17 ∧ s.vm.findClass R_law = some m.cls ∧ (∀ w ∈ lw_tbl, w.before #[Value.ref b] s = true) ∧ va_X b L xs s s.heap ∧ b < s.heap.size ∧ meth.locks = false ∧ (Jvm.Cond.and given_1 narrow_1).before #[Value.ref b] s = true
section OW
variable {K : xCtx} {E : xE} {B : Nat} {cc : ByteArray} {own : String} {n : Nat} {rm : Room} {pc : Nat} {lv : List (Nat × Value)} {st : List Value} {S : xSt} {ws : pW} {cl sl : Nat}
theorem o_dup (hC : xOK K cc own n rm) {v : Value} (hv : v.category = 1) (d : decode cc pc = .ok (.dup, 1))
    (k : WN K E B (pc + 1) lv (v :: v :: st) S ws cl sl) : WN K E B pc lv (v :: st) S ws cl sl := by
  obtain ⟨p, l, e, R, s, m, args, below, meth, c, nL, cl0, sl0, Q⟩ := K
  obtain ⟨hx, hb, hml, hown, hts, hlk, rfl, hRR⟩ := hC
  intro H locs ls hY hP hS hl
  exact lv_dup hx hb d hv (k H locs ls hY hP hS hl)
theorem o_new (hC : xOK K cc own n rm) {ci : Nat} {C : String} {T : u_T} {N : Nat} {ty : Nat → FieldType} (hc : xCl ci C T N ty) {idx : Nat} (h1 : Cond.classLink own idx C ∈ xw) (h2 : Cond.instantiable C N ∈ xw) (h3 : Cond.initialized C ∈ xw) (fs : List Value) (hlen : fs.length = N) (hfs : ∀ j, j < N → defaultValue (ty j) = fs.getD j .null) (hcl : cl + 1 ≤ rm.cells) (hsl : sl + N ≤ rm.slots) (d : decode cc pc = .ok (.new idx, 3))
    (k : ∀ a : Nat, WN K E B (pc + 3) lv (.ref a :: st) S ((a, .inl (ci, fs)) :: ws) (cl + 1) (sl + N)) : WN K E B pc lv st S ws cl sl := by
  obtain ⟨p, l, e, R, s, m, args, below, meth, c, nL, cl0, sl0, Q⟩ := K
  obtain ⟨hx, hb, hml, hown, hts, hlk, rfl, hRR⟩ := hC
  intro H locs ls hY hP hS hl
  have hKn := hY.1.1.1 ci _ hc.1
  refine W.newcK hx hb hown (hts _ h1) (hts _ h2) (hts _ h3) rfl d (by rw [hRR]; exact hcl) (by rw [hRR]; exact hsl) hKn.2.1 rfl fun H1 kC hkC e1 z1 o1 => ?_
  refine k H.size H1 locs ls (YW_push hY o1) (PN_push hY hP ⟨_, hc.1, hlen.symm, ?_⟩ z1 o1) ⟨Nat.le_trans hS.1 (by omega), fun x h1 h2 => (o1 x (Nat.lt_of_lt_of_le h1 hS.1)).trans (hS.2.1 x h1 h2), hS.2.2⟩ hl
  exact (u_born ty hts hc.2.1 hKn hkC e1 hc.2.2.1).to hfs
theorem o_ctor (hC : xOK K cc own n rm) {y : MethodName} {bytes : ByteArray} {maxL na idx d' mc ms a : Nat} (hy : mC y bytes maxL na) (hlink : Cond.methodLink own idx y ∈ xw) (hR : d' + 1 ≤ rm.frames ∧ 28 * (d' + 1) ≤ rm.locals) (hcl : cl + mc ≤ rm.cells) (hsl : sl + ms ≤ rm.slots) (As : List Value) {st0 : List Value} (hst : st0 = As.reverse ++ .ref a :: st) {post : xE × xSt × pW → Prop} (hbase : ∀ u, post u → xBase E u.1) (hM : ∀ l, Met l y (xws y bytes maxL none) (rmN d' mc ms) (NPc E B (.ref a :: As) S ws) (NQ B post) mc ms (fun a => B ≤ a)) (hn : As.length = na) (hcat : (st.map fun v => v.category).sum ≤ 8) (d : decode cc pc = .ok (.invokespecial idx, 3))
    (k : ∀ u, post u → WN K u.1 B (pc + 3) lv st u.2.1 u.2.2 (cl + mc) (sl + ms)) : WN K E B pc lv st0 S ws cl sl := by
  obtain ⟨p, l, e, R, s, m, args, below, meth, c, nL, cl0, sl0, Q⟩ := K
  obtain ⟨hx, hb, hml, hown, hts, hlk, rfl, hRR⟩ := hC
  intro H locs ls hY hP hS hl
  subst hst
  have hBz := hP.2.2.2.2.1
  refine va_callv (va_runI (As := As) (rest := st) ⟨hx, hb, hml, hown, hts⟩ (hM l) (cwI na hts (good_c hy.1.2.2) rfl rfl rfl (hts _ hy.1.2.1) (hts _ hlink) (hts _ hy.1.1) hy.2.1 hy.2.2.1 (rm_n (by rw [hRR]; exact hR) hy.2.2.2)) ⟨NPc_blind, fun U hU hW => ⟨rfl, by rw [hU]; exact YW_warm hW hY, by rw [hU]; exact PN_moved hW.alike hP⟩⟩ rfl hn hl.1 rfl (lv_room hcat) d ⟨by rw [hRR]; exact hcl, by rw [hRR]; exact hsl⟩) hS (fun q _ h => h) (fun q h => h) (fun u t H1 locs1 ht hvm hw hB _ _ hS1 => ?_)
  obtain ⟨hB1, hB2⟩ := hB
  subst ht
  exact k u hw _ locs1 ls (YN_back hY (hbase u hw) hvm hB1) (PN_moved hvm.symm hB2) hS1 hl
theorem o_astore_n (hC : xOK K cc own n rm) {f : Fin 4} {i : Nat} (hi : (f : Nat) = i) {a : Nat} (hn : i < n) {lv' : List (Nat × Value)} (hl' : (i, .ref a) :: lv.filter (fun q => !(q.1 == i) && !(q.1 + 1 == i && q.2.category == 2)) = lv') (d : decode cc pc = .ok (.astore_n f, 1))
    (k : WN K E B (pc + 1) lv' st S ws cl sl) : WN K E B pc lv (.ref a :: st) S ws cl sl := by
  obtain ⟨p, l, e, R, s, m, args, below, meth, c, nL, cl0, sl0, Q⟩ := K
  obtain ⟨hx, hb, hml, hown, hts, hlk, rfl, hRR⟩ := hC
  intro H locs ls hY hP hS hl
  exact lv_astore_n hx hb d hi hl hn hl' (fun ls' h' => k H locs ls' hY hP hS h')
set_option maxRecDepth 100000 in
set_option maxHeartbeats 8000000 in
/-- the entry's walk behind the class's maker -/
theorem o_start2 {b a1 L : Nat} {q : Nat → Int} (hC : xOK K code RL 17 room_1) (hpr : xPrK K) (hsb : xsb E = b) (hq : xsL E = L ∧ xsc E = q) (hn : L ≤ 260) (hk50 : xkd E 50 = 0) (hk0 : xkd E 0 = 3) (hfam : xFam E 0) (hap : xApart E S 50) (e1 : a1 = xad E 0 0) (hfu : 5 ≤ fu S) (hl : LAWOK L q S) (hcl : cl = 233) (hsl : sl = 6390)
    (hend : ∀ (E' : xE), (∀ a, xA E' a → B ≤ a) → lawE K E' B (PN E' B []) 364 126545) : WN K E B 7 [(0, .ref b)] [.ref a1] S [] cl sl := by
  subst hcl hsl
  refine o_astore_n hC rfl (by decide) (lv' := [(1, .ref a1), (0, .ref b)]) rfl (xdt tt_L_law 3 rfl) ?_
  refine b_ofN ?_
  refine z_hA (fun hA => ?_)
  refine b_sub [1, 0] (lv' := [(0, .ref b), (1, .ref a1)]) rfl ?_
  refine b_aload_n hC rfl 1 rfl (rfl : 8 + 1 = 9) (xdt tt_L_law 4 rfl) ?_
  refine b_aload_n hC rfl 0 rfl (rfl : 9 + 1 = 10) (xdt tt_L_law 5 rfl) ?_
  refine z_toS hpr ?_
  refine s_callSr hC m_L_setup q188 ⟨(Nat.le_of_ble_eq_true rfl), (Nat.le_of_ble_eq_true rfl)⟩ (Nat.le_of_ble_eq_true rfl) (Nat.le_of_ble_eq_true rfl) [.ref b] rfl (fun l => by rw [← hsb]; exact c_setup l hA hfu hq (by omega)) rfl (Nat.le_of_ble_eq_true rfl) (rfl : 10 + 3 = 13) (xdt tt_L_law 6 rfl) (fun a u hu => ?_)
  obtain ⟨x, g, rfl, hg⟩ := hu
  refine z_text hk50 hap ?_
  obtain ⟨Sx, N, S2, S3, S4, v1, v2, h0, hN, hF, hT, hP, hL⟩ := hl g hg
  rw [← h0]
  refine z_hA (fun hA' => ?_)
  have k0 : xkd (addR E 50 (100 + (setT L q).length) (txf a x)) 0 = 3 := by rw [addR_kn (by decide)]; exact hk0
  have fam' : xFam (addR E 50 (100 + (setT L q).length) (txf a x)) 0 := fun i i1 i2 => by rw [addR_kn (by omega)]; exact hfam i i1 i2
  have z0 : vr (addR E 50 (100 + (setT L q).length) (txf a x)) 0 0 = .ref a1 := by
    unfold vr
    rw [addR_n (by decide), ← e1]
  have z50 : vr (addR E 50 (100 + (setT L q).length) (txf a x)) 50 0 = .ref a := by
    unfold vr
    rw [addR_s]
    rfl
  have hm := setT_len (n := L) (q := q)
  refine b_ncallSi hC m_L_parsed q447 ⟨(Nat.le_of_ble_eq_true rfl), (Nat.le_of_ble_eq_true rfl)⟩ (Nat.le_of_ble_eq_true rfl) (Nat.le_of_ble_eq_true rfl) [.ref a1, .ref a] rfl (fun l => by rw [← z0, ← z50]; exact c_L_parsed l hA' k0 fam' addR_ks (by omega) (fun i hi => setT_asc i hi) hN hF hT hP) rfl (Nat.le_of_ble_eq_true rfl) (rfl : 13 + 3 = 16) (xdt tt_L_law 7 rfl) ?_
  have key := k_law (E := addR E 50 (100 + (setT L q).length) (txf a x)) (B := B) (cl := 364) (sl := 126545) hC ⟨hA', xKeep_PN⟩ ⟨(Nat.le_of_ble_eq_true rfl), (Nat.le_of_ble_eq_true rfl)⟩ rfl (hend _ hA') (r1 := 0) (show xsL (addR E 50 (100 + (setT L q).length) (txf a x)) = L ∧ xsc (addR E 50 (100 + (setT L q).length) (txf a x)) = q from hq) k0 fam' hL
  rw [z0] at key
  have hsb' : xsb (addR E 50 (100 + (setT L q).length) (txf a x)) = b := hsb
  rw [hsb'] at key
  exact key
set_option maxRecDepth 100000 in
set_option maxHeartbeats 16000000 in
theorem o_start {b L : Nat} {q : Nat → Int} (hC : xOK K code RL 17 room_1) (hE : ∀ r, xkd E r = 0) (hpr : xPrK K) (hsb : xsb E = b) (hq : xsL E = L ∧ xsc E = q) (hn : L ≤ 260) {S1 S2 S3 S4 S5 S6 S7 S8 S9 S10 S11 S12 : xSt} (hch : CHAIN E S S1 S2 S3 S4 S5 S6 S7 S8 S9 S10 S11 S12) (hpt : ∀ k, 1 ≤ k → k ≤ 9 → S12.2.2 k 0 0 = (11, 0)) (hfu : 5 ≤ fu S12) (hl : LAWOK L q (newS S12 0 3 sg0 rg0))
    (hend : ∀ (E' : xE), (∀ a, xA E' a → B ≤ a) → lawE K E' B (PN E' B []) 364 126545) : WN K E B 0 [(0, .ref b)] [] S [] 0 0 := by
  obtain ⟨ha10, hp10, ha11, hp11, ha12, hp12, ha1, hp1, ha2, hp2, ha3, hp3, ha4, hp4, ha5, hp5, ha6, hp6, ha7, hp7, ha8, hp8, ha9, hp9, ha0⟩ := hch
  have w1 : (newS S12 0 3 sg0 rg0).2.2 1 0 0 = (11, 0) := by
    show (if 1 = 0 then rg0 else S12.2.2 1) 0 0 = (11, 0)
    rw [if_neg (by decide)]
    exact hpt 1 (by decide) (by decide)
  have w2 : (newS S12 0 3 sg0 rg0).2.2 2 0 0 = (11, 0) := by
    show (if 2 = 0 then rg0 else S12.2.2 2) 0 0 = (11, 0)
    rw [if_neg (by decide)]
    exact hpt 2 (by decide) (by decide)
  have w3 : (newS S12 0 3 sg0 rg0).2.2 3 0 0 = (11, 0) := by
    show (if 3 = 0 then rg0 else S12.2.2 3) 0 0 = (11, 0)
    rw [if_neg (by decide)]
    exact hpt 3 (by decide) (by decide)
  have w4 : (newS S12 0 3 sg0 rg0).2.2 4 0 0 = (11, 0) := by
    show (if 4 = 0 then rg0 else S12.2.2 4) 0 0 = (11, 0)
    rw [if_neg (by decide)]
    exact hpt 4 (by decide) (by decide)
  have w5 : (newS S12 0 3 sg0 rg0).2.2 5 0 0 = (11, 0) := by
    show (if 5 = 0 then rg0 else S12.2.2 5) 0 0 = (11, 0)
    rw [if_neg (by decide)]
    exact hpt 5 (by decide) (by decide)
  have w6 : (newS S12 0 3 sg0 rg0).2.2 6 0 0 = (11, 0) := by
    show (if 6 = 0 then rg0 else S12.2.2 6) 0 0 = (11, 0)
    rw [if_neg (by decide)]
    exact hpt 6 (by decide) (by decide)
  have w7 : (newS S12 0 3 sg0 rg0).2.2 7 0 0 = (11, 0) := by
    show (if 7 = 0 then rg0 else S12.2.2 7) 0 0 = (11, 0)
    rw [if_neg (by decide)]
    exact hpt 7 (by decide) (by decide)
  have w8 : (newS S12 0 3 sg0 rg0).2.2 8 0 0 = (11, 0) := by
    show (if 8 = 0 then rg0 else S12.2.2 8) 0 0 = (11, 0)
    rw [if_neg (by decide)]
    exact hpt 8 (by decide) (by decide)
  have w9 : (newS S12 0 3 sg0 rg0).2.2 9 0 0 = (11, 0) := by
    show (if 9 = 0 then rg0 else S12.2.2 9) 0 0 = (11, 0)
    rw [if_neg (by decide)]
    exact hpt 9 (by decide) (by decide)
  have ua : (newS S12 0 3 sg0 rg0).2.2 0 0 4 = (11, 0) := rfl
  have ub : (newS S12 0 3 sg0 rg0).2.2 0 0 5 = (12, 0) := rfl
  have uc : (newS S12 0 3 sg0 rg0).2.2 0 2 0 = (0, 13) := rfl
  have ud : (newS S12 0 3 sg0 rg0).2.2 0 2 2 = (10, 0) := rfl
  refine o_new hC kclX11 q0 q1 q2 [.null, .int 0, .null, .null, .null, .null, .null, .null, .null, .int 0, .null, .null] rfl blkX11 (Nat.le_of_ble_eq_true rfl) (Nat.le_of_ble_eq_true rfl) (xdt tt_L_law 0 rfl) (fun a1 => ?_)
  refine o_dup hC rfl (xdt tt_L_law 1 rfl) ?_
  refine o_ctor hC mc_X11_init q3 ⟨(Nat.le_of_ble_eq_true rfl), (Nat.le_of_ble_eq_true rfl)⟩ (Nat.le_of_ble_eq_true rfl) (Nat.le_of_ble_eq_true rfl) [] rfl (fun u hu => hb_X11_init hu) (fun l => cN_X11_init l (hE 10) (hE 11) (hE 12) (hE 1) (hE 2) (hE 3) (hE 4) (hE 5) (hE 6) (hE 7) (hE 8) (hE 9) (hE 0) ha10 hp10 ha11 hp11 ha12 hp12 ha1 hp1 ha2 hp2 ha3 hp3 ha4 hp4 ha5 hp5 ha6 hp6 ha7 hp7 ha8 hp8 ha9 hp9 ha0) rfl (Nat.le_of_ble_eq_true rfl) (xdt tt_L_law 2 rfl) (fun u hu => ?_)
  obtain ⟨f10, f11, f12, f1, f2, f3, f4, f5, f6, f7, f8, f9, f, hf, rfl⟩ := hu
  have x50 : xApart (addR (addR (addR (addR (addR (addR (addR (addR (addR (addR (addR (addR (addR E 10 2 f10) 11 2 f11) 12 2 f12) 1 1 f1) 2 1 f2) 3 1 f3) 4 1 f4) 5 1 f5) 6 1 f6) 7 1 f7) 8 1 f8) 9 1 f9) 0 3 f) (newS S12 0 3 sg0 rg0) 50 := xap (ao_3 (ao_1 (ao_1 (ao_1 (ao_1 (ao_1 (ao_1 (ao_1 (ao_1 (ao_1 (ao_2 (ao_2 (ao_2 (ao_z hE)))) (by rw [w1]; decide)) (by rw [w2]; decide)) (by rw [w3]; decide)) (by rw [w4]; decide)) (by rw [w5]; decide)) (by rw [w6]; decide)) (by rw [w7]; decide)) (by rw [w8]; decide)) (by rw [w9]; decide)) ⟨by decide, by rw [ua]; decide, by rw [ub]; decide, by rw [uc]; decide, by rw [ud]; decide⟩)
  have fam : xFam (addR (addR (addR (addR (addR (addR (addR (addR (addR (addR (addR (addR (addR E 10 2 f10) 11 2 f11) 12 2 f12) 1 1 f1) 2 1 f2) 3 1 f3) 4 1 f4) 5 1 f5) 6 1 f6) 7 1 f7) 8 1 f8) 9 1 f9) 0 3 f) 0 := by
    intro i i1 i2
    rcases (show i = 1 ∨ i = 2 ∨ i = 3 ∨ i = 4 ∨ i = 5 ∨ i = 6 ∨ i = 7 ∨ i = 8 ∨ i = 9 by omega) with rfl | rfl | rfl | rfl | rfl | rfl | rfl | rfl | rfl <;> rfl
  have y50 : xkd (addR (addR (addR (addR (addR (addR (addR (addR (addR (addR (addR (addR (addR E 10 2 f10) 11 2 f11) 12 2 f12) 1 1 f1) 2 1 f2) 3 1 f3) 4 1 f4) 5 1 f5) 6 1 f6) 7 1 f7) 8 1 f8) 9 1 f9) 0 3 f) 50 = 0 := hE 50
  have y0 : xkd (addR (addR (addR (addR (addR (addR (addR (addR (addR (addR (addR (addR (addR E 10 2 f10) 11 2 f11) 12 2 f12) 1 1 f1) 2 1 f2) 3 1 f3) 4 1 f4) 5 1 f5) 6 1 f6) 7 1 f7) 8 1 f8) 9 1 f9) 0 3 f) 0 = 3 := rfl
  have g0 : a1 = xad (addR (addR (addR (addR (addR (addR (addR (addR (addR (addR (addR (addR (addR E 10 2 f10) 11 2 f11) 12 2 f12) 1 1 f1) 2 1 f2) 3 1 f3) 4 1 f4) 5 1 f5) 6 1 f6) 7 1 f7) 8 1 f8) 9 1 f9) 0 3 f) 0 0 := by rw [addR_s, hf]
  have hsb1 : xsb (addR (addR (addR (addR (addR (addR (addR (addR (addR (addR (addR (addR (addR E 10 2 f10) 11 2 f11) 12 2 f12) 1 1 f1) 2 1 f2) 3 1 f3) 4 1 f4) 5 1 f5) 6 1 f6) 7 1 f7) 8 1 f8) 9 1 f9) 0 3 f) = b := hsb
  have hq1 : xsL (addR (addR (addR (addR (addR (addR (addR (addR (addR (addR (addR (addR (addR E 10 2 f10) 11 2 f11) 12 2 f12) 1 1 f1) 2 1 f2) 3 1 f3) 4 1 f4) 5 1 f5) 6 1 f6) 7 1 f7) 8 1 f8) 9 1 f9) 0 3 f) = L ∧ xsc (addR (addR (addR (addR (addR (addR (addR (addR (addR (addR (addR (addR (addR E 10 2 f10) 11 2 f11) 12 2 f12) 1 1 f1) 2 1 f2) 3 1 f3) 4 1 f4) 5 1 f5) 6 1 f6) 7 1 f7) 8 1 f8) 9 1 f9) 0 3 f) = q := hq
  show WN K (addR (addR (addR (addR (addR (addR (addR (addR (addR (addR (addR (addR (addR E 10 2 f10) 11 2 f11) 12 2 f12) 1 1 f1) 2 1 f2) 3 1 f3) 4 1 f4) 5 1 f5) 6 1 f6) 7 1 f7) 8 1 f8) 9 1 f9) 0 3 f) B 7 [(0, .ref b)] [.ref a1] (newS S12 0 3 sg0 rg0) [] (0 + 1 + 232) (0 + 12 + 6378)
  clear hf
  generalize (addR (addR (addR (addR (addR (addR (addR (addR (addR (addR (addR (addR (addR E 10 2 f10) 11 2 f11) 12 2 f12) 1 1 f1) 2 1 f2) 3 1 f3) 4 1 f4) 5 1 f5) 6 1 f6) 7 1 f7) 8 1 f8) 9 1 f9) 0 3 f) = E1 at x50 fam y50 y0 g0 hsb1 hq1 ⊢
  exact o_start2 hC hpr hsb1 hq1 hn y50 y0 fam x50 g0 hfu hl rfl rfl hend
end OW
theorem st_D {s : State} {args : Array Value} (hts : ∀ w ∈ lw_tbl, w.before args s = true) : ∃ D : va_G, va_K D vwCl [] s := by
  have htw : ∀ w ∈ xw, w.before args s = true := fun w h => hts w (xw_tbl w h)
  obtain ⟨c0, i0, h0⟩ := u_known htw kclJ0.2.1 (htw _ q401)
  obtain ⟨c1, i1, h1⟩ := u_known htw kclJ4.2.1 (htw _ q193)
  obtain ⟨c2, i2, h2⟩ := u_known htw kclX0.2.1 (htw _ q25)
  obtain ⟨c3, i3, h3⟩ := u_known htw kclX1.2.1 (htw _ q31)
  obtain ⟨c4, i4, h4⟩ := u_known htw kclX2.2.1 (htw _ q16)
  obtain ⟨c5, i5, h5⟩ := u_known htw kclX3.2.1 (htw _ q12)
  obtain ⟨c6, i6, h6⟩ := u_known htw kclX4.2.1 (htw _ q35)
  obtain ⟨c7, i7, h7⟩ := u_known htw kclX5.2.1 (htw _ q20)
  obtain ⟨c8, i8, h8⟩ := u_known htw kclX6.2.1 (htw _ q96)
  obtain ⟨c9, i9, h9⟩ := u_known htw kclX7.2.1 (htw _ q100)
  obtain ⟨c10, i10, h10⟩ := u_known htw kclX8.2.1 (htw _ q57)
  obtain ⟨c11, i11, h11⟩ := u_known htw kclX9.2.1 (htw _ q110)
  obtain ⟨c12, i12, h12⟩ := u_known htw kclX10.2.1 (htw _ q104)
  obtain ⟨c13, i13, h13⟩ := u_known htw kclX11.2.1 (htw _ q1)
  refine ⟨(fun k => [c0, c1, c2, c3, c4, c5, c6, c7, c8, c9, c10, c11, c12, c13].getD k c0, fun k => [i0, i1, i2, i3, i4, i5, i6, i7, i8, i9, i10, i11, i12, i13].getD k i0), fun c q hq => ?_, fun k q hk => by cases hk⟩
  have hc : c < 14 := (List.getElem?_eq_some_iff.mp hq).1
  rcases (show c = 0 ∨ c = 1 ∨ c = 2 ∨ c = 3 ∨ c = 4 ∨ c = 5 ∨ c = 6 ∨ c = 7 ∨ c = 8 ∨ c = 9 ∨ c = 10 ∨ c = 11 ∨ c = 12 ∨ c = 13 by omega) with rfl | rfl | rfl | rfl | rfl | rfl | rfl | rfl | rfl | rfl | rfl | rfl | rfl | rfl
  · obtain rfl : (RJ0, TJ0, 4) = q := Option.some.inj hq
    exact h0
  · obtain rfl : (RJ4, TJ4, 4) = q := Option.some.inj hq
    exact h1
  · obtain rfl : (RX0, TX0, 18) = q := Option.some.inj hq
    exact h2
  · obtain rfl : (RX1, TX1, 3) = q := Option.some.inj hq
    exact h3
  · obtain rfl : (RX2, TX2, 2) = q := Option.some.inj hq
    exact h4
  · obtain rfl : (RX3, TX3, 13) = q := Option.some.inj hq
    exact h5
  · obtain rfl : (RX4, TX4, 2) = q := Option.some.inj hq
    exact h6
  · obtain rfl : (RX5, TX5, 11) = q := Option.some.inj hq
    exact h7
  · obtain rfl : (RX6, TX6, 3) = q := Option.some.inj hq
    exact h8
  · obtain rfl : (RX7, TX7, 5) = q := Option.some.inj hq
    exact h9
  · obtain rfl : (RX8, TX8, 3) = q := Option.some.inj hq
    exact h10
  · obtain rfl : (RX9, TX9, 5) = q := Option.some.inj hq
    exact h11
  · obtain rfl : (RX10, TX10, 1) = q := Option.some.inj hq
    exact h12
  · obtain rfl : (RX11, TX11, 12) = q := Option.some.inj hq
    exact h13
theorem st_pr {s : State} {args : Array Value} (hts : ∀ w ∈ lw_tbl, w.before args s = true) : xPr s := List.forall_mem_cons.mpr ⟨va_Nw.of rfl (sel_priv (y := yJ5_ensureCapacityInternal_d00df) (fun w h => hts w (xw_tbl w h)) rfl (hts _ (wt_5_4_in _ (List.mem_of_getElem? (i := 10) rfl))) q230), List.forall_mem_cons.mpr ⟨va_Nw.of rfl (sel_priv (y := yJ5_newCapacity_0f7a4) (fun w h => hts w (xw_tbl w h)) rfl (hts _ (wt_5_4_in _ (List.mem_of_getElem? (i := 14) rfl))) q234), List.forall_mem_cons.mpr ⟨va_Nw.of rfl (sel_priv (y := yJ5_putStringAt_47b60) (fun w h => hts w (xw_tbl w h)) rfl (hts _ (wt_5_7_in _ (List.mem_of_getElem? (i := 12) rfl))) q304), List.forall_mem_cons.mpr ⟨va_Nw.of rfl (sel_priv (y := yJ5_inflateIfNeededFor_a7421) (fun w h => hts w (xw_tbl w h)) rfl (hts _ (wt_5_8_in _ (List.mem_of_getElem? (i := 0) rfl))) q308), fun _ h => absurd h List.not_mem_nil⟩⟩⟩⟩
theorem st_E {s : State} {args : Array Value} (hts : ∀ w ∈ lw_tbl, w.before args s = true) (hfl : ∀ c ∈ FLs, c.before args s = true) {b L : Nat} {xs : Nat → Int32} (hX : va_X b L xs s s.heap) (hbl : b < s.heap.size) (hL : L ≤ 1000000) : ∃ E : xE, (∀ r, xkd E r = 0) ∧ xsb E = b ∧ (xsL E = L ∧ xsc E = fun j => (xs j).toInt) ∧ YW E ((10000000, fun _ => 0), (fun _ _ _ => 0), fun _ _ _ => nul) s s.heap ∧ PN E s.heap.size [] s s.heap := by
  obtain ⟨ts, aK, aV, hw⟩ := st_world hts hfl hX hbl hL
  obtain ⟨D, hD⟩ := st_D hts
  have w0 := hw (D, (fun _ _ => 0), (fun _ => 0), (fun _ => False), aK, aV, ts, (b, L, fun j => (xs j).toInt)) rfl rfl rfl rfl rfl (fun _ => rfl) (fun _ _ h => h)
  have w1 := hw (D, (fun _ _ => 0), (fun _ => 0), (fun a => s.heap.size ≤ a), aK, aV, ts, (b, L, fun j => (xs j).toInt)) rfl rfl rfl rfl rfl (fun _ => rfl) (fun a h1 h2 => absurd h1 (Nat.not_lt.mpr h2))
  have no : ∀ {o : Nat} {k : xK}, lay 0 o = some k → False := fun {o k} h => nomatch (show (none : Option xK) = some k from h)
  refine ⟨(D, (fun _ _ => 0), (fun _ => 0), (fun _ => False), aK, aV, ts, (b, L, fun j => (xs j).toInt)), fun _ => rfl, rfl, ⟨rfl, rfl⟩, ⟨⟨hD, fun r o k h => (no h).elim, ⟨fun r o r' o' k k' h => (no h).elim, fun r o k h => (no h).elim⟩, w0.1, w0.2⟩, rfl⟩, ⟨(fun q h => by cases h), List.Pairwise.nil, (fun a (h : False) => h.elim), (fun a (h : False) => h.elim), Nat.le_refl _, w1.1, st_AO hts⟩⟩
/-- what the mathematics gives -/
def MATHOK : Prop := ∀ (E : xE) (n : Nat) (q : Nat → Int), (∀ r, xkd E r = 0) → n ≤ 260 → (∀ j, wr (q j) = q j) → ∃ S1 S2 S3 S4 S5 S6 S7 S8 S9 S10 S11 S12 : xSt, CHAIN E ((10000000, fun _ => 0), (fun _ _ _ => 0), fun _ _ _ => nul) S1 S2 S3 S4 S5 S6 S7 S8 S9 S10 S11 S12 ∧ (∀ k, 1 ≤ k → k ≤ 9 → S12.2.2 k 0 0 = (11, 0)) ∧ 5 ≤ fu S12 ∧ LAWOK n q (newS S12 0 3 sg0 rg0)
set_option maxHeartbeats 4000000 in
theorem whole_of (hmath : MATHOK) {p : Program} {e : Env} {s : State} {m : MethodId} {below : List Frame} {meth : Method} {c : Code} (l : Launch) (hflags : l.flags = flags0) {b L : Nat} {xs : Nat → Int32} (hL : L ≤ 260) (C0 : lw_At p s m meth c b L xs) : W p l e room_1 s m #[Value.ref b] below meth c s.heap [] 0 0 (lw_Z below #[Value.ref b] s) (entryFrame m ([Value.ref b] : List Value).toArray 17) := by
  obtain ⟨hx, hb, hr, hml, hown, hts, hX, hbl, hlk, hgv⟩ := C0
  have hfl : ∀ c ∈ FLs, c.before #[Value.ref b] s = true := flat_of_before _ hgv
  have htw : ∀ w ∈ xw, w.before #[Value.ref b] s = true := fun w h => hts w (xw_tbl w h)
  obtain ⟨E, hE, hsb, hq, hY, hP⟩ := st_E hts hfl hX hbl (by omega)
  have hC : xOK (p, l, e, room_1, s, m, #[Value.ref b], below, meth, c, 17, 0, 0, lw_Z below #[Value.ref b] s) code RL 17 room_1 := ⟨hx, hb, hml, hown, htw, hlk, rfl, rfl⟩
  obtain ⟨S1, S2, S3, S4, S5, S6, S7, S8, S9, S10, S11, S12, hch, hpt, hfu, hl⟩ := hmath E L (fun j => (xs j).toInt) hE hL (fun j => by rw [← wr_toInt, Int32.ofInt_toInt])
  have key := o_start (B := s.heap.size) (b := b) hC hE (st_pr hts) hsb hq hL hch hpt hfu hl (fun E' hA pc lv S d => by
    intro H locs ls _ _ hS _
    show W p l e room_1 s m #[Value.ref b] below meth c H locs 364 126545 (lw_Z below #[Value.ref b] s) (F0 m pc ls [.int 1])
    refine W.widen (k := 600086) (n := 7301442) (by omega) (by omega) ?_
    refine va_forget (fun q hq => hS.2.2 q hq) ?_
    exact lw_ret hx hb hr hlk d)
  rw [lg_entry_eq]
  exact key s.heap [] _ hY hP va_S.rf (lv_entry [Value.ref b] (Nat.le_of_ble_eq_true rfl))
