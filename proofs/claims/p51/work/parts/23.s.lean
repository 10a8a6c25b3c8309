/-! THE BUILDER'S WORLD: objects with their fields' values and rows of bytes, beside the regions -/
abbrev sE : Type := (Nat × List Value) ⊕ (Nat × (Nat → Int))
abbrev sW : Type := List (Nat × sE)
def byA (U : State) (cell : Cell) : Prop := U.isArrayOf cell .byte ∧ cell.vm = .none ∧ U.vm.findClass "[B" = some cell.cls
theorem byA_moved {u U : State} {cell : Cell} (hvm : u.vm.Alike U.vm) (h : byA u cell) : byA U cell := ⟨State.isArrayOf_alike hvm h.1, h.2.1, by rw [hvm.findClass]; exact h.2.2⟩
def bR (n : Nat) (f : Nat → Int) (cell : Cell) : Prop := cell.slots.size = n ∧ ∀ j : Nat, j < n → cell.slots[j]? = some (vi (f j)) ∧ fits .byte (vi (f j)) = true
def sat (D : va_G) (q : Nat × sE) (U : State) (H : Heap) : Prop := match q.2 with
  | .inl z => ∃ c : vw_C, vwCl[z.1]? = some c ∧ c.2.2 = z.2.length ∧ t_OB q.1 (D.1 z.1) c.2.2 (D.2 z.1) H (fun j => z.2.getD j .null)
  | .inr z => ∃ cell : Cell, H[q.1]? = some cell ∧ byA U cell ∧ bR z.1 z.2 cell
theorem sat_lt {D : va_G} {q : Nat × sE} {U : State} {H : Heap} (h : sat D q U H) : q.1 < H.size := by
  obtain ⟨a, z | z⟩ := q
  · obtain ⟨c, h1, h2, cell, h3, h4⟩ := h
    exact (Array.getElem?_eq_some_iff.mp h3).1
  · obtain ⟨cell, h1, h2⟩ := h
    exact (Array.getElem?_eq_some_iff.mp h1).1
theorem sat_kept {D : va_G} {q : Nat × sE} {U : State} {H H1 : Heap} (h : sat D q U H) (hq : H1[q.1]? = H[q.1]?) : sat D q U H1 := by
  obtain ⟨a, z | z⟩ := q
  · obtain ⟨c, h1, h2, h3⟩ := h
    exact ⟨c, h1, h2, h3.kept hq⟩
  · obtain ⟨cell, h1, h2⟩ := h
    exact ⟨cell, hq.trans h1, h2⟩
theorem sat_moved {D : va_G} {q : Nat × sE} {u U : State} {H : Heap} (hvm : u.vm.Alike U.vm) (h : sat D q u H) : sat D q U H := by
  obtain ⟨a, z | z⟩ := q
  · exact h
  · obtain ⟨cell, h1, h2, h3⟩ := h
    exact ⟨cell, h1, byA_moved hvm h2, h3⟩
/-- the builder's private methods -/
def xpriv : List MethodName := [yJ5_ensureCapacityInternal_d00df, yJ5_newCapacity_0f7a4, yJ5_putStringAt_47b60, yJ5_inflateIfNeededFor_a7421]
def xPr (U : State) : Prop := ∀ y ∈ xpriv, va_Nw (.selects RJ4 y y) U
theorem xPr_moved {u U : State} (hvm : u.vm.Alike U.vm) (h : xPr u) : xPr U := fun y hy => va_tabs (u := u.setVm U.vm) rfl rfl (by
  have h9 := h y hy
  have e := Cond.value_setVm (args := #[]) (o := none) (s := u) hvm (.selects RJ4 y y) [] rfl
  unfold va_Nw Cond.before Cond.holds at *
  rw [e]
  exact h9)
def PS (E : xE) (B : Nat) (ws : sW) : xPsi := fun U H => PN E B [] U H ∧ (∀ q ∈ ws, sat (xD E) q U H ∧ B ≤ q.1 ∧ ∀ (r o : Nat) (k : xK), lay (xkd E r) o = some k → xad E r o ≠ q.1) ∧ ws.Pairwise (fun a b => a.1 ≠ b.1) ∧ xPr U
theorem PS_moved {E : xE} {B : Nat} {ws : sW} {u U : State} {H : Heap} (hvm : u.vm.Alike U.vm) (h : PS E B ws u H) : PS E B ws U H := ⟨PN_moved hvm h.1, fun q hq => ⟨sat_moved hvm (h.2.1 q hq).1, (h.2.1 q hq).2⟩, h.2.2.1, xPr_moved hvm h.2.2.2⟩
theorem PS_kept {E : xE} {B : Nat} {ws : sW} {U : State} {H H1 : Heap} (h : PS E B ws U H) (hz : H.size ≤ H1.size) (hk : ∀ q : Nat, q < H.size → ¬ xA E q → H1[q]? = H[q]?) : PS E B ws U H1 :=
  ⟨PN_kept h.1 hz hk, fun q hq => ⟨sat_kept (h.2.1 q hq).1 (hk _ (sat_lt (h.2.1 q hq).1) (fun z => by
    obtain ⟨r, o, k, h1, h2⟩ := h.1.2.2.1 _ z
    exact (h.2.1 q hq).2.2 r o k h1 h2)), (h.2.1 q hq).2⟩, h.2.2⟩
theorem PS_keep {E : xE} {B : Nat} {ws : sW} : xKeep E (PS E B ws) := fun _ _ _ h hz hk => PS_kept h hz hk
theorem PS_push {E : xE} {B : Nat} {S : xSt} {ws : sW} {U : State} {H H1 : Heap} (hY : YW E S U H) (h : PS E B ws U H) {z : sE} (hz : sat (xD E) (H.size, z) U H1) (hs : H1.size = H.size + 1) (hq : ∀ q : Nat, q < H.size → H1[q]? = H[q]?) : PS E B ((H.size, z) :: ws) U H1 := by
  refine ⟨PN_kept h.1 (by omega) (fun q h1 _ => hq q h1), fun q hq' => ?_, List.pairwise_cons.mpr ⟨fun q hq' => ?_, h.2.2.1⟩, h.2.2.2⟩
  · rcases List.mem_cons.mp hq' with rfl | hq'
    · exact ⟨hz, h.1.2.2.2.2.1, fun r o k hl => Nat.ne_of_lt (YW_lt hY hl)⟩
    · exact ⟨sat_kept (h.2.1 q hq').1 (hq _ (sat_lt (h.2.1 q hq').1)), (h.2.1 q hq').2⟩
  · exact (Nat.ne_of_lt (sat_lt (h.2.1 q hq').1)).symm
theorem pairS_set {ws : sW} {k a : Nat} {z z' : sE} (h : ws.Pairwise (fun a b => a.1 ≠ b.1)) (hk : ws[k]? = some (a, z)) : (ws.set k (a, z')).Pairwise (fun a b => a.1 ≠ b.1) := by
  rw [List.pairwise_iff_getElem] at h ⊢
  intro i j hi hj hij
  rw [List.length_set] at hi hj
  have e : ∀ i (hi : i < ws.length), ((ws.set k (a, z'))[i]'(by rw [List.length_set]; exact hi)).1 = (ws[i]).1 := by
    intro i hi
    rw [List.getElem_set]
    split
    · rename_i h9
      subst h9
      rw [List.getElem?_eq_getElem hi] at hk
      rw [Option.some.inj hk]
    · rfl
  rw [e i hi, e j hj]
  exact h i j hi hj hij
theorem PS_ne {ws : sW} (h : ws.Pairwise (fun a b => a.1 ≠ b.1)) {i k : Nat} {x y : Nat × sE} (hi : ws[i]? = some x) (hk : ws[k]? = some y) (hne : i ≠ k) : x.1 ≠ y.1 := by
  obtain ⟨h1, e1⟩ := List.getElem?_eq_some_iff.mp hi
  obtain ⟨h2, e2⟩ := List.getElem?_eq_some_iff.mp hk
  have hp := List.pairwise_iff_getElem.mp h
  rcases Nat.lt_or_gt_of_ne hne with g | g
  · have := hp i k h1 h2 g
    rw [e1, e2] at this
    exact this
  · have := hp k i h2 h1 g
    rw [e1, e2] at this
    exact fun e => this e.symm
theorem PS_set {E : xE} {B : Nat} {ws : sW} {U : State} {H H1 : Heap} (h : PS E B ws U H) {k a : Nat} {z z' : sE} (hk : ws[k]? = some (a, z)) (hz : sat (xD E) (a, z') U H1) (hs : H1.size = H.size) (hq : ∀ q : Nat, q ≠ a → H1[q]? = H[q]?) : PS E B (ws.set k (a, z')) U H1 := by
  have ha := h.2.1 _ (List.mem_of_getElem? hk)
  have hN := h.1
  refine ⟨⟨fun q h => absurd h List.not_mem_nil, List.Pairwise.nil, hN.2.2.1, hN.2.2.2.1, by rw [hs]; exact hN.2.2.2.2.1, XStat_kept hN.2.2.2.2.2.1 (fun b _ hb => hq b (fun e => hb (by rw [e]; exact ha.2.1))), hN.2.2.2.2.2.2⟩, fun q hq' => ?_, pairS_set h.2.2.1 hk, h.2.2.2⟩
  obtain ⟨i, hi⟩ := List.getElem?_of_mem hq'
  rw [List.getElem?_set] at hi
  split at hi
  · split at hi
    · cases hi
      exact ⟨hz, ha.2⟩
    · cases hi
  · rename_i hne
    have hm := List.mem_of_getElem? hi
    exact ⟨sat_kept (h.2.1 q hm).1 (hq _ (PS_ne h.2.2.1 hi hk (fun e => hne e.symm))), (h.2.1 q hm).2⟩
theorem YW_sideS {E : xE} {B : Nat} {S : xSt} {U : State} {H H1 : Heap} {ws : sW} (hY : YW E S U H) (h : PS E B ws U H) {q0 : Nat × sE} (hm : q0 ∈ ws) (hq : ∀ q : Nat, q ≠ q0.1 → H1[q]? = H[q]?) : YW E S U H1 :=
  ⟨⟨hY.1.1, fun r o k hl => xat_kept (hY.1.2.1 r o k hl) (hq _ ((h.2.1 q0 hm).2.2 r o k hl)), hY.1.2.2.1, XStat_narrow (XStat_kept h.1.2.2.2.2.2.1 (fun b _ hb => hq b (fun e => hb (by rw [e]; exact (h.2.1 q0 hm).2.1)))) h.1.2.2.2.1, hY.1.2.2.2.2⟩, hY.2⟩
theorem PS_sub {E : xE} {B : Nat} {ws ws' : sW} {U : State} {H : Heap} (h : PS E B ws U H) (hs : ws'.Sublist ws) : PS E B ws' U H := ⟨h.1, fun q hq => h.2.1 q (hs.subset hq), h.2.2.1.sublist hs, h.2.2.2⟩
theorem PS_congr {E : xE} {B : Nat} {ws : sW} {U : State} {H : Heap} (h : PS E B ws U H) {k a n : Nat} {f g : Nat → Int} (hk : ws[k]? = some (a, .inr (n, f))) (hf : ∀ j, j < n → f j = g j) : PS E B (ws.set k (a, .inr (n, g))) U H := by
  obtain ⟨cell, h1, h2, h3, h4⟩ := (h.2.1 _ (List.mem_of_getElem? hk)).1
  exact PS_set h hk ⟨cell, h1, h2, h3, fun j hj => by
    have h9 : cell.slots[j]? = some (vi (f j)) ∧ fits .byte (vi (f j)) = true := h4 j hj
    rw [hf j hj] at h9
    exact h9⟩ rfl (fun _ _ => rfl)
/-- the private methods that a builder has from above: what a call selects -/
theorem sel_priv {s : State} {args : Array Value} (hts : ∀ w ∈ xw, w.before args s = true) {y : MethodName} (hc : y.cls = RJ5) (hp : (Cond.privateMethod y).before args s = true) (hi : Cond.instanceMethod y ∈ xw) : (Cond.selects RJ4 y y).before args s = true := by
  obtain ⟨c, k, hcc, hk, -, hniab, -, -⟩ := Cond.instantiable_spec (hts _ q193)
  obtain ⟨mk, methM, hnamed, hmethM, -, -⟩ := Cond.instanceMethod_spec (hts _ hi)
  have hfound : s.methodFound? y.cls y.name y.desc = some mk := State.methodFound?_of_named hnamed ⟨by rw [hc]; decide +kernel, by rw [hc]; decide +kernel⟩
  have hsel : selectMethod {} s.vm c mk = .method mk := selectMethod_private hmethM (Cond.privateMethod_at hp mk methM hnamed hmethM)
  have h264 := hts _ q264
  obtain ⟨mL, methL, hnL, -, -, -⟩ := Cond.instanceMethod_spec (hts _ q265)
  have hfL : s.methodFound? yJ5_isLatin1_aae02.cls yJ5_isLatin1_aae02.name yJ5_isLatin1_aae02.desc = some mL := State.methodFound?_of_named hnL ⟨by decide +kernel, by decide +kernel⟩
  have e1 : s.vm.findClass y.cls = some mk.cls := findClass_of_methodNamed hnamed
  have e2 : s.vm.findClass yJ5_isLatin1_aae02.cls = some mL.cls := findClass_of_methodNamed hnL
  have e3 : mk.cls = mL.cls := by
    rw [hc] at e1
    exact Option.some.inj (e1.symm.trans e2)
  obtain ⟨kL, hkL, hni⟩ : ∃ kL, s.vm.classes[mL.cls]? = some kL ∧ kL.isInterface = false := by
    exact notFace_of_selects h264 mL hnL
  simp only [Cond.before, Cond.holds, Cond.value, hcc, hfound, hnamed, hsel, e3, hkL]
  simp
  exact hni

section SR
variable {K : xCtx} {E : xE} {B : Nat} {Ψ : xPsi} {cl sl : Nat} {cc : ByteArray} {own : String} {n : Nat} {rm : Room} {pc : Nat} {lv : List (Nat × Value)} {st : List Value} {S : xSt} {ws : sW}
theorem b_strV (hC : xOK K cc own n rm) {q : Nat} (hq : q < xldc.length) {idx : Nat} (hlink : Cond.fieldLink own idx "java/lang/String" "value" "[B" ∈ xw) {pc' : Nat} (hp : pc + 3 = pc') (d : decode cc pc = .ok (.getfield idx, 3))
    (k : WB B Ψ cl sl K E pc' lv (vv E q :: st) S) : WB B Ψ cl sl K E pc lv (vs E q :: st) S := by
  subst hp
  obtain ⟨p, l, e, R, s, m, args, below, meth, c, nL, cl0, sl0, Q⟩ := K
  obtain ⟨hx, hb, hml, hown, hts, hlk, rfl, hRR⟩ := hC
  intro H locs ls hY hP hS hl
  obtain ⟨-, -, h3, -⟩ := hY.1.2.2.2.1.2.2 q _ (List.getElem?_eq_getElem hq)
  obtain ⟨cf, k9, fi, f, cell, h1, h2, h3, h4, h5, h6⟩ := h3
  exact W.getf hx hb hown (hts _ hlink) h1 h2 h3 h4 (v := .ref (xaV E q)) h5 rfl rfl d (k H locs ls hY hP hS hl)


theorem b_strC (hC : xOK K cc own n rm) {q : Nat} (hq : q < xldc.length) {idx : Nat} (hlink : Cond.fieldLink own idx "java/lang/String" "coder" "B" ∈ xw) {pc' : Nat} (hp : pc + 3 = pc') (d : decode cc pc = .ok (.getfield idx, 3))
    (k : WB B Ψ cl sl K E pc' lv (vi 0 :: st) S) : WB B Ψ cl sl K E pc lv (vs E q :: st) S := by
  subst hp
  obtain ⟨p, l, e, R, s, m, args, below, meth, c, nL, cl0, sl0, Q⟩ := K
  obtain ⟨hx, hb, hml, hown, hts, hlk, rfl, hRR⟩ := hC
  intro H locs ls hY hP hS hl
  obtain ⟨-, h3, -⟩ := hY.1.2.2.2.1.2.2 q _ (List.getElem?_eq_getElem hq)
  obtain ⟨cf, k9, fi, f, cell, h1, h2, h3, h4, h5, h6⟩ := h3
  exact W.getf hx hb hown (hts _ hlink) h1 h2 h3 h4 (v := .int 0) h5 rfl rfl d (k H locs ls hY hP hS hl)


theorem b_strS (hC : xOK K cc own n rm) {idx : Nat} (hlink : Cond.fieldLink own idx "java/lang/String" "COMPACT_STRINGS" "Z" ∈ xw) {pc' : Nat} (hp : pc + 3 = pc') (d : decode cc pc = .ok (.getstatic idx, 3))
    (k : WB B Ψ cl sl K E pc' lv (vi 1 :: st) S) : WB B Ψ cl sl K E pc lv st S := by
  subst hp
  obtain ⟨p, l, e, R, s, m, args, below, meth, c, nL, cl0, sl0, Q⟩ := K
  obtain ⟨hx, hb, hml, hown, hts, hlk, rfl, hRR⟩ := hC
  intro H locs ls hY hP hS hl
  obtain ⟨cf, kf, fi, f, a, cell, h1, h2, h3, h4, h5, h6, h7, h8⟩ := hY.1.2.2.2.1.2.1.1
  exact W.gets hx hb hown (hts _ hlink) h1 h2 h3 h4 h5 (fun e => by rw [e] at h6; cases h6) h7 rfl d (k H locs ls hY hP hS hl)


theorem b_vlen (hC : xOK K cc own n rm) {q : Nat} (hq : q < xldc.length) {pc' : Nat} (hp : pc + 1 = pc') (d : decode cc pc = .ok (.arraylength, 1))
    (k : WB B Ψ cl sl K E pc' lv (vi (xln q) :: st) S) : WB B Ψ cl sl K E pc lv (vv E q :: st) S := by
  subst hp
  obtain ⟨p, l, e, R, s, m, args, below, meth, c, nL, cl0, sl0, Q⟩ := K
  obtain ⟨hx, hb, hml, hown, hts, hlk, rfl, hRR⟩ := hC
  intro H locs ls hY hP hS hl
  obtain ⟨-, -, -, cell, h1, h2, h3, h4, h5, h6, h7⟩ := hY.1.2.2.2.1.2.2 q _ (List.getElem?_eq_getElem hq)
  refine W.alen hx hb h1 h2 (h5.trans ?_) rfl rfl d (k H locs ls hY hP hS hl)
  rw [xln_of hq]
  rfl


theorem b_i2b (hC : xOK K cc own n rm) {x : Int} {pc' : Nat} (hp : pc + 1 = pc') (d : decode cc pc = .ok (.i2b, 1))
    (k : WB B Ψ cl sl K E pc' lv (vi (wb x) :: st) S) : WB B Ψ cl sl K E pc lv (vi x :: st) S := by
  subst hp
  obtain ⟨p, l, e, R, s, m, args, below, meth, c, nL, cl0, sl0, Q⟩ := K
  obtain ⟨hx, hb, hml, hown, hts, hlk, rfl, hRR⟩ := hC
  intro H locs ls hY hP hS hl
  exact lv_i2b hx hb d (i32_b x) (k H locs ls hY hP hS hl)


theorem b_i2c (hC : xOK K cc own n rm) {x : Int} {pc' : Nat} (hp : pc + 1 = pc') (d : decode cc pc = .ok (.i2c, 1))
    (k : WB B Ψ cl sl K E pc' lv (vi (iCh x) :: st) S) : WB B Ψ cl sl K E pc lv (vi x :: st) S := by
  subst hp
  obtain ⟨p, l, e, R, s, m, args, below, meth, c, nL, cl0, sl0, Q⟩ := K
  obtain ⟨hx, hb, hml, hown, hts, hlk, rfl, hRR⟩ := hC
  intro H locs ls hY hP hS hl
  exact lv_i2c hx hb d (Int32.ofInt_toInt _).symm (k H locs ls hY hP hS hl)


theorem b_null (hC : xOK K cc own n rm) {pc' : Nat} (hp : pc + 1 = pc') (d : decode cc pc = .ok (.aconst_null, 1)) (k : WB B Ψ cl sl K E pc' lv (.null :: st) S) : WB B Ψ cl sl K E pc lv st S := by
  subst hp
  obtain ⟨p, l, e, R, s, m, args, below, meth, c, nL, cl0, sl0, Q⟩ := K
  obtain ⟨hx, hb, hml, hown, hts, hlk, rfl, hRR⟩ := hC
  intro H locs ls hY hP hS hl
  exact lv_null hx hb d (k H locs ls hY hP hS hl)
theorem b_ifnonnull (hC : xOK K cc own n rm) {x : Nat} {off : Int} {tgt : Nat} (ht : (pc : Int) + off = (tgt : Int)) (d : decode cc pc = .ok (.ifnonnull off, 3)) (k : WB B Ψ cl sl K E tgt lv st S) : WB B Ψ cl sl K E pc lv (.ref x :: st) S := by
  obtain ⟨p, l, e, R, s, m, args, below, meth, c, nL, cl0, sl0, Q⟩ := K
  obtain ⟨hx, hb, hml, hown, hts, hlk, rfl, hRR⟩ := hC
  intro H locs ls hY hP hS hl
  exact lv_ifnonnull hx hb d ht (k H locs ls hY hP hS hl)
theorem b_dupx1 (hC : xOK K cc own n rm) {v w : Value} (hv : v.category = 1) (hw : w.category = 1) {pc' : Nat} (hp : pc + 1 = pc') (d : decode cc pc = .ok (.dup_x1, 1)) (k : WB B Ψ cl sl K E pc' lv (v :: w :: v :: st) S) : WB B Ψ cl sl K E pc lv (v :: w :: st) S := by
  subst hp
  obtain ⟨p, l, e, R, s, m, args, below, meth, c, nL, cl0, sl0, Q⟩ := K
  obtain ⟨hx, hb, hml, hown, hts, hlk, rfl, hRR⟩ := hC
  intro H locs ls hY hP hS hl
  exact lv_dup_x1 hx hb d hv hw (k H locs ls hY hP hS hl)
/-- Math.min of numbers that are small -/
theorem b_minN (hC : xOK K cc own n rm) (hz : cl ≤ rm.cells ∧ sl ≤ rm.slots) {x y : Nat} (hx0 : x ≤ 1000000) (hy0 : y ≤ 1000000) {idx : Nat} (h1 : Cond.methodLink own idx Lib.Math.min.name ∈ xw) (h2 : Cond.static Lib.Math.min.name ∈ xw) (h3 : Cond.initialized "java/lang/Math" ∈ xw) (h4 : Cond.code Lib.Math.min.name Lib.Math.min.code 2 (some .int) ∈ xw) (hf : 1 ≤ rm.frames) (hlo : (st.map fun v => v.category).sum + 13 ≤ rm.locals) {pc' : Nat} (hp : pc + 3 = pc') (d : decode cc pc = .ok (.invokestatic idx, 3))
    (k : WB B Ψ cl sl K E pc' lv (vi ((min x y : Nat) : Int) :: st) S) : WB B Ψ cl sl K E pc lv (vi (y : Int) :: vi (x : Int) :: st) S := by
  subst hp
  obtain ⟨p, l, e, R, s, m, args, below, meth, c, nL, cl0, sl0, Q⟩ := K
  obtain ⟨hx, hb, hml, hown, hts, hlk, rfl, hRR⟩ := hC
  intro H locs ls hY hP hS hl
  have k := k H locs ls hY hP hS hl
  have e1 : vi ((min x y : Nat) : Int) = .int (if Int32.ofInt (y : Int) < Int32.ofInt (x : Int) then Int32.ofInt (y : Int) else Int32.ofInt (x : Int)) := by
    unfold vi
    congr 1
    by_cases h : y < x
    · rw [if_pos ((i32_lt _ _).mpr ((wlt_nn hy0 hx0).mpr h)), Nat.min_eq_right (Nat.le_of_lt h)]
    · rw [if_neg (fun z => h ((wlt_nn hy0 hx0).mp ((i32_lt _ _).mp z))), Nat.min_eq_left (Nat.le_of_not_lt h)]
  rw [e1] at k
  exact va_mmin hx hb (by rw [hml]; exact hl.1.symm) hown (hts _ h1) (hts _ h2) (hts _ h3) (hts _ h4) (by rw [hRR]; exact hf) (by rw [hRR]; exact hlo) (by rw [hRR]; exact hz.1) (by rw [hRR]; exact hz.2) d k
theorem b_leZ (hC : xOK K cc own n rm) {a b : Nat} (ha : a ≤ 1000000) (hb : b ≤ 1000000) {off : Int} {t : Nat} (ht : (pc : Int) + off = (t : Int)) {pc' : Nat} (hp : pc + 3 = pc') (d : decode cc pc = .ok (.ifCond .le off, 3)) (k1 : a ≤ b → WB B Ψ cl sl K E t lv st S) (k2 : b < a → WB B Ψ cl sl K E pc' lv st S) : WB B Ψ cl sl K E pc lv (vi ((a : Int) - (b : Int)) :: st) S :=
  b_if_le hC ht hp d (fun h => k1 (by rw [wr_id (by omega)] at h; omega)) (fun h => k2 (by rw [wr_id (by omega)] at h; omega))
theorem b_eqN (hC : xOK K cc own n rm) {a b : Nat} (ha : a ≤ 1000000) (hb : b ≤ 1000000) {off : Int} {t : Nat} (ht : (pc : Int) + off = (t : Int)) {pc' : Nat} (hp : pc + 3 = pc') (d : decode cc pc = .ok (.if_icmp .eq off, 3)) (k1 : a = b → WB B Ψ cl sl K E t lv st S) (k2 : a ≠ b → WB B Ψ cl sl K E pc' lv st S) : WB B Ψ cl sl K E pc lv (vi (b : Int) :: vi (a : Int) :: st) S :=
  b_icmp_eq hC ht hp d (fun h => k1 ((weq_nn ha hb).mp h)) (fun h => k2 (fun z => h ((weq_nn ha hb).mpr z)))
theorem s_get (hC : xOK K cc own n rm) (q0 : Nat) {a ci : Nat} {fs : List Value} (hq0 : ws[q0]? = some (a, .inl (ci, fs))) {C : String} {T : u_T} {N : Nat} {ty : Nat → FieldType} (hc : xCl ci C T N ty) (j : Nat) (hj : j < N) {idx : Nat} (hlink : Cond.fieldLink own idx (T j).1 (T j).2.1 (T j).2.2.1 ∈ xw) {v : Value} (hv : fs.getD j .null = v) {pc' : Nat} (hp : pc + 3 = pc') (d : decode cc pc = .ok (.getfield idx, 3))
    (k : WB B (PS E B ws) cl sl K E pc' lv (v :: st) S) : WB B (PS E B ws) cl sl K E pc lv (.ref a :: st) S := by
  subst hp
  obtain ⟨p, l, e, R, s, m, args, below, meth, c, nL, cl0, sl0, Q⟩ := K
  obtain ⟨hx, hb, hml, hown, hts, hlk, rfl, hRR⟩ := hC
  intro H locs ls hY hP hS hl
  obtain ⟨⟨r, h1, hlen, cell, q1, q2, q3, q4⟩, hdis⟩ := hP.2.1 _ (List.mem_of_getElem? hq0)
  cases h1.symm.trans hc.1
  obtain ⟨hSl, hfc, kC, hkC, hkind⟩ := hY.1.1.1 ci _ hc.1
  obtain ⟨cf, kf, fi, f', hi, hsl⟩ := hSl j hj
  refine W.getf hx hb hown (hts _ hlink) hi (u_facts hfc hkC (u_lays hts hc.2.1 hj) hi).1 q1 (by rw [q3]; exact fun h => by cases h) (v := v) ?_ rfl rfl d (k H locs ls hY hP hS hl)
  rw [hsl, q4 j hj]
  exact congrArg some hv
theorem s_put (hC : xOK K cc own n rm) (q0 : Nat) {a ci : Nat} {fs : List Value} (hq0 : ws[q0]? = some (a, .inl (ci, fs))) {C : String} {T : u_T} {N : Nat} {ty : Nat → FieldType} (hc : xCl ci C T N ty) (j : Nat) (hj : j < N) (hfin : (T j).2.2.2 = false) {idx : Nat} (hlink : Cond.fieldLink own idx (T j).1 (T j).2.1 (T j).2.2.1 ∈ xw) {v : Value} (hn : narrow (ty j) v = v) (hfit : fits (ty j) v = true) {pc' : Nat} (hp : pc + 3 = pc') (d : decode cc pc = .ok (.putfield idx, 3))
    (k : WB B (PS E B (ws.set q0 (a, .inl (ci, fs.set j v)))) cl sl K E pc' lv st S) : WB B (PS E B ws) cl sl K E pc lv (v :: .ref a :: st) S := by
  subst hp
  obtain ⟨p, l, e, R, s, m, args, below, meth, c, nL, cl0, sl0, Q⟩ := K
  obtain ⟨hx, hb, hml, hown, hts, hlk, rfl, hRR⟩ := hC
  intro H locs ls hY hP hS hl
  have hK := hY.1.1
  have hap := va_apart (own := own) hts hc.2.1 ty hc.2.2.1 hc.2.2.2 hK hc.1
  have hm := List.mem_of_getElem? hq0
  obtain ⟨⟨r, h1, hlen, cell, q1, q2, q3, q4⟩, hdis⟩ := hP.2.1 _ hm
  cases h1.symm.trans hc.1
  obtain ⟨hSl, hfc, kC, hkC, hkind⟩ := hK.1 ci _ hc.1
  obtain ⟨cf, kf, fi, f, hi, hsl⟩ := hSl j hj
  have hlay := hts _ (hc.2.1 _ (u_in_lay hj))
  unfold u_lay at hlay
  rw [if_neg (by rw [hfin]; decide)] at hlay
  have hst := (u_facts hfc hkC (u_lays hts hc.2.1 hj) hi).1
  have h6 := u_store hfc hkC hkind hlay hi (hc.2.2.1 j hj) hn hfit
  refine W.putK hx hb (f := f) ⟨hown, hts _ hlink, ⟨_, _, _, hi⟩, hst⟩ (by rw [q2]; exact h6) q1 q3 (by rw [hsl]; exact k2_hasslot (q4 j hj)) rfl rfl d fun H' e1 e2 e3 => ?_
  rw [hsl] at e1 ⊢
  refine k H' _ ls ?_ (PS_set hP hq0 ⟨_, hc.1, by rw [List.length_set]; exact hlen, t_OB.to (V := updV (fun i => fs.getD i .null) j v) ⟨_, e1, q2, q3, t_set q4 hap hj v⟩ (fun i _ => ?_)⟩ e2 e3) (hS.put e2 e3 hdis.1) hl
  · exact YW_sideS hY hP hm e3
  · show (if i = j then v else fs.getD i .null) = (fs.set j v).getD i .null
    rw [List.getD_eq_getElem?_getD, List.getD_eq_getElem?_getD, List.getElem?_set]
    by_cases hij : i = j
    · subst hij
      rw [if_pos rfl, if_pos rfl, if_pos (show i < fs.length by rw [← hlen]; exact hj)]
      rfl
    · rw [if_neg hij, if_neg (Ne.symm hij)]
theorem s_putF (hC0 : xOKN K cc own n rm) (q0 : Nat) {a ci : Nat} {fs : List Value} (hq0 : ws[q0]? = some (a, .inl (ci, fs))) {C : String} {T : u_T} {N : Nat} {ty : Nat → FieldType} (hc : xCl ci C T N ty) (j : Nat) (hj : j < N) (hfin : (T j).2.2.2 = true) (hdecl : (T j).1 = own) {idx : Nat} (hlink : Cond.fieldLink own idx (T j).1 (T j).2.1 (T j).2.2.1 ∈ xw) {v : Value} (hn : narrow (ty j) v = v) (hfit : fits (ty j) v = true) {pc' : Nat} (hp : pc + 3 = pc') (d : decode cc pc = .ok (.putfield idx, 3))
    (k : WB B (PS E B (ws.set q0 (a, .inl (ci, fs.set j v)))) cl sl K E pc' lv st S) : WB B (PS E B ws) cl sl K E pc lv (v :: .ref a :: st) S := by
  subst hp
  obtain ⟨p, l, e, R, s, m, args, below, meth, c, nL, cl0, sl0, Q⟩ := K
  obtain ⟨⟨hx, hb, hml, hown, hts, hlk, rfl, hRR⟩, hin⟩ := hC0
  intro H locs ls hY hP hS hl
  have hK := hY.1.1
  have hap := va_apart (own := own) hts hc.2.1 ty hc.2.2.1 hc.2.2.2 hK hc.1
  have hm := List.mem_of_getElem? hq0
  obtain ⟨⟨r, h1, hlen, cell, q1, q2, q3, q4⟩, hdis⟩ := hP.2.1 _ hm
  cases h1.symm.trans hc.1
  obtain ⟨hSl, hfc, kC, hkC, hkind⟩ := hK.1 ci _ hc.1
  obtain ⟨cf, kf, fi, f, hi, hsl⟩ := hSl j hj
  have hlay := hts _ (hc.2.1 _ (u_in_lay hj))
  unfold u_lay at hlay
  rw [if_pos hfin] at hlay
  have hst := (u_facts hfc hkC (u_lays hts hc.2.1 hj) hi).1
  have hcf : m.cls = cf := by
    obtain ⟨_, _, c', _, _, _, -, -, hf', -, -, -, hown2, -⟩ := Cond.laysFinal_spec hlay
    have e1 : c' = cf := by have := hi.symm.trans hf'; simp at this; exact this.1.symm
    rw [hdecl] at hown2
    rw [← e1]; exact Option.some.inj (hown.symm.trans hown2)
  have h6 := u_fits hfc hkC hkind (Or.inr hlay) hi (hc.2.2.1 j hj) hn hfit
  refine W.putFinK hx hb hown (hts _ hlink) hi hst hcf hin (by rw [q2]; exact h6) q1 q3 (by rw [hsl]; exact k2_hasslot (q4 j hj)) rfl rfl d fun H' e1 e2 e3 => ?_
  rw [hsl] at e1 ⊢
  refine k H' _ ls ?_ (PS_set hP hq0 ⟨_, hc.1, by rw [List.length_set]; exact hlen, t_OB.to (V := updV (fun i => fs.getD i .null) j v) ⟨_, e1, q2, q3, t_set q4 hap hj v⟩ (fun i _ => ?_)⟩ e2 e3) (hS.put e2 e3 hdis.1) hl
  · exact YW_sideS hY hP hm e3
  · show (if i = j then v else fs.getD i .null) = (fs.set j v).getD i .null
    rw [List.getD_eq_getElem?_getD, List.getD_eq_getElem?_getD, List.getElem?_set]
    by_cases hij : i = j
    · subst hij
      rw [if_pos rfl, if_pos rfl, if_pos (show i < fs.length by rw [← hlen]; exact hj)]
      rfl
    · rw [if_neg hij, if_neg (Ne.symm hij)]
theorem s_new (hC : xOK K cc own n rm) {ci : Nat} {C : String} {T : u_T} {N : Nat} {ty : Nat → FieldType} (hc : xCl ci C T N ty) {idx : Nat} (h1 : Cond.classLink own idx C ∈ xw) (h2 : Cond.instantiable C N ∈ xw) (h3 : Cond.initialized C ∈ xw) (fs : List Value) (hlen : fs.length = N) (hfs : ∀ j, j < N → defaultValue (ty j) = fs.getD j .null) (hcl : cl + 1 ≤ rm.cells) (hsl : sl + N ≤ rm.slots) {pc' : Nat} (hp : pc + 3 = pc') (d : decode cc pc = .ok (.new idx, 3))
    (k : ∀ a : Nat, WB B (PS E B ((a, .inl (ci, fs)) :: ws)) (cl + 1) (sl + N) K E pc' lv (.ref a :: st) S) : WB B (PS E B ws) cl sl K E pc lv st S := by
  subst hp
  obtain ⟨p, l, e, R, s, m, args, below, meth, c, nL, cl0, sl0, Q⟩ := K
  obtain ⟨hx, hb, hml, hown, hts, hlk, rfl, hRR⟩ := hC
  intro H locs ls hY hP hS hl
  have hKn := hY.1.1.1 ci _ hc.1
  refine W.newcK hx hb hown (hts _ h1) (hts _ h2) (hts _ h3) rfl d (by rw [hRR]; exact hcl) (by rw [hRR]; exact hsl) hKn.2.1 rfl fun H1 kC hkC e1 z1 o1 => ?_
  refine k H.size H1 locs ls (YW_push hY o1) (PS_push hY hP ⟨_, hc.1, hlen.symm, ?_⟩ z1 o1) ⟨Nat.le_trans hS.1 (by omega), fun x h1 h2 => (o1 x (Nat.lt_of_lt_of_le h1 hS.1)).trans (hS.2.1 x h1 h2), hS.2.2⟩ hl
  exact (u_born ty hts hc.2.1 hKn hkC e1 hc.2.2.1).to hfs
theorem s_newb (hC : xOK K cc own n rm) (harr : Cond.arrayClass .byte ∈ xw) {N : Nat} (hN : N ≤ 1000000) (hcl : cl + 1 ≤ rm.cells) (hsl : sl + N ≤ rm.slots) {pc' : Nat} (hp : pc + 2 = pc') (d : decode cc pc = .ok (.newarray .byte, 2))
    (k : ∀ a : Nat, WB B (PS E B ((a, .inr (N, fun _ => 0)) :: ws)) (cl + 1) (sl + N) K E pc' lv (.ref a :: st) S) : WB B (PS E B ws) cl sl K E pc lv (vi (N : Int) :: st) S := by
  subst hp
  obtain ⟨p, l, e, R, s, m, args, below, meth, c, nL, cl0, sl0, Q⟩ := K
  obtain ⟨hx, hb, hml, hown, hts, hlk, rfl, hRR⟩ := hC
  intro H locs ls hY hP hS hl
  have e0 : wr 0 = 0 := by decide
  refine va_newaK (atype := .byte) hx hb (hts _ harr) rfl d rfl (fun q => by rw [i32_0, i32_lt, wrN hN, e0] at q; omega) (N := N) (by rw [i32_nat]; exact wtn hN) (show N * 1 ≤ 536870912 by omega) (by rw [hRR]; exact hcl) (by rw [hRR]; exact hsl) rfl fun H1 cA e1 z1 o1 hAr hfc => ?_
  refine k H.size H1 locs ls (YW_push hY o1) (PS_push hY hP ⟨_, e1, ⟨hAr _ _, rfl, (show s.vm.findClass "[B" = some cA from hfc)⟩, arrV_size _ _ _, fun j hj => ⟨arrV_read _ _ hj, rfl⟩⟩ z1 o1) ⟨Nat.le_trans hS.1 (by omega), fun x h1 h2 => (o1 x (Nat.lt_of_lt_of_le h1 hS.1)).trans (hS.2.1 x h1 h2), hS.2.2⟩ hl
theorem s_alen (hC : xOK K cc own n rm) (q0 : Nat) {a N : Nat} {f : Nat → Int} (hq0 : ws[q0]? = some (a, .inr (N, f))) {pc' : Nat} (hp : pc + 1 = pc') (d : decode cc pc = .ok (.arraylength, 1))
    (k : WB B (PS E B ws) cl sl K E pc' lv (vi (N : Int) :: st) S) : WB B (PS E B ws) cl sl K E pc lv (.ref a :: st) S := by
  subst hp
  obtain ⟨p, l, e, R, s, m, args, below, meth, c, nL, cl0, sl0, Q⟩ := K
  obtain ⟨hx, hb, hml, hown, hts, hlk, rfl, hRR⟩ := hC
  intro H locs ls hY hP hS hl
  obtain ⟨⟨cell, h1, h2, h3, h4⟩, hdis⟩ := hP.2.1 _ (List.mem_of_getElem? hq0)
  refine W.alen hx hb h1 h2.1 (n := Int32.ofInt (N : Int)) ?_ rfl rfl d (k H locs ls hY hP hS hl)
  rw [h3]
  rfl
theorem s_bast (hC : xOK K cc own n rm) (q0 : Nat) {a N : Nat} {f : Nat → Int} (hq0 : ws[q0]? = some (a, .inr (N, f))) {i : Nat} (hi : i < N) (hN : N ≤ 1000000) {x : Int} (hx0 : -128 ≤ x ∧ x < 128) {pc' : Nat} (hp : pc + 1 = pc') (d : decode cc pc = .ok (.bastore, 1))
    (k : WB B (PS E B (ws.set q0 (a, .inr (N, uN5 f i x)))) cl sl K E pc' lv st S) : WB B (PS E B ws) cl sl K E pc lv (vi x :: vi (i : Int) :: .ref a :: st) S := by
  subst hp
  obtain ⟨p, l, e, R, s, m, args, below, meth, c, nL, cl0, sl0, Q⟩ := K
  obtain ⟨hx, hb, hml, hown, hts, hlk, rfl, hRR⟩ := hC
  intro H locs ls hY hP hS hl
  have hm := List.mem_of_getElem? hq0
  obtain ⟨⟨cell, h1, h2, h3, h4⟩, hdis⟩ := hP.2.1 _ hm
  have hin : vp_in (Int32.ofInt (i : Int)) N := ck_in (wix hi hN)
  obtain ⟨g1, g2⟩ := x_idx hin (Nat.le_of_eq h3.symm)
  have ek : (Int32.ofInt (i : Int)).toNatClampNeg = i := by rw [i32_nat]; exact wtn (by omega)
  have ex : (Int32.ofInt x).toInt8.toInt32 = Int32.ofInt x := by rw [i32_b, wb_id hx0]
  refine W.bast hx hb h1 h2.1 (by rw [h2.2.1]; exact fun h => by cases h) g1 rfl rfl d fun H1 e1 z oq => ?_
  obtain ⟨k1, k2, k3⟩ := x_aput (ty := .byte) (f := fun j => Int32.ofInt (f j)) (x := (Int32.ofInt x).toInt8.toInt32) hin (Nat.le_of_eq h3.symm) h4 (x_b8 _)
  have e2 : H1[a]? = some (cell.setSlot (Int32.ofInt (i : Int)).toNatClampNeg (xav .byte (Int32.ofInt x).toInt8.toInt32)) := e1
  refine k H1 _ ls (YW_sideS hY hP hm oq) (PS_set hP hq0 ⟨_, e2, h2, k2.trans h3, fun j hj => ?_⟩ z oq) (hS.put z oq hdis.1) hl
  have h9 := k3 j hj
  rw [ek, ex] at h9 ⊢
  have e3 : vi (uN5 f i x j) = xav .byte (upd (fun j => Int32.ofInt (f j)) i (Int32.ofInt x) j) := by
    show Value.int (Int32.ofInt (if j = i then x else f j)) = Value.int (if j = i then Int32.ofInt x else Int32.ofInt (f j))
    split <;> rfl
  rw [e3]
  exact h9
theorem s_cp {cs cd : Cell} {f g : Nat → Int} {n1 n2 a b z : Nat} (h0 : n1 ≤ 1000000) (h1 : n2 ≤ 1000000) (hf : n1 ≤ cs.slots.size ∧ ∀ j : Nat, j < n1 → cs.slots[j]? = some (vi (f j)) ∧ fits .byte (vi (f j)) = true) (hg : bR n2 g cd) (h4 : a + z ≤ n1) (h5 : b + z ≤ n2) :
    (copied cs cd (Int32.ofInt (a : Int)) (Int32.ofInt (b : Int)) (Int32.ofInt (z : Int))).cls = cd.cls ∧ (copied cs cd (Int32.ofInt (a : Int)) (Int32.ofInt (b : Int)) (Int32.ofInt (z : Int))).vm = cd.vm ∧ bR n2 (cpI f g a b z) (copied cs cd (Int32.ofInt (a : Int)) (Int32.ofInt (b : Int)) (Int32.ofInt (z : Int))) := by
  have ea : (Int32.ofInt (a : Int)).toNatClampNeg = a := by rw [i32_nat]; exact wtn (by omega)
  have eb : (Int32.ofInt (b : Int)).toNatClampNeg = b := by rw [i32_nat]; exact wtn (by omega)
  have ez : (Int32.ofInt (z : Int)).toNatClampNeg = z := by rw [i32_nat]; exact wtn (by omega)
  obtain ⟨r1, r2, r3, r4⟩ := x_copied (ty := .byte) (cs := cs) (cd := cd) (n0 := n1) (n1 := n2) (f := fun j => Int32.ofInt (f j)) (g := fun j => Int32.ofInt (g j)) (sp := Int32.ofInt (a : Int)) (dp := Int32.ofInt (b : Int)) (n := Int32.ofInt (z : Int)) hf.1 (Nat.le_of_eq hg.1.symm) (fun j hj => (hf.2 j hj).1) (fun j hj => (hg.2 j hj).1) (by rw [ea, ez]; exact h4) (by rw [eb, ez]; exact h5)
  refine ⟨r1, r2, r3.trans hg.1, fun j hj => ?_⟩
  have r5 := r4 j hj
  rw [ea, eb, ez, ← cp_va] at r5
  refine ⟨r5, ?_⟩
  show fits .byte (vi (if b ≤ j ∧ j < b + z then f (a + (j - b)) else g j)) = true
  split
  · exact (hf.2 _ (by omega)).2
  · exact (hg.2 j hj).2
theorem hsz_of {H H1 : Heap} {a : Nat} {x y : Cell} (oq : ∀ q : Nat, q ≠ a → H1[q]? = H[q]?) (e1 : H1[a]? = some x) (e2 : H[a]? = some y) : H1.size = H.size := by
  have l1 := (Array.getElem?_eq_some_iff.mp e1).1
  have l2 := (Array.getElem?_eq_some_iff.mp e2).1
  refine Nat.le_antisymm (Nat.le_of_not_lt fun h => ?_) (Nat.le_of_not_lt fun h => ?_)
  · have := oq H.size (by omega)
    rw [Array.getElem?_eq_none_iff.mpr (Nat.le_refl _)] at this
    have := Array.getElem?_eq_none_iff.mp this
    omega
  · have := oq H1.size (by omega)
    rw [Array.getElem?_eq_none_iff.mpr (Nat.le_refl _)] at this
    have := Array.getElem?_eq_none_iff.mp this.symm
    omega
theorem xldc_all : xldc.all (fun z => z.2.2.2.all (fun x => fits .byte (.int x))) = true := by decide +kernel
theorem xldc_fit {q j : Nat} (hq : q < xldc.length) (hj : j < (xldc[q]).2.2.2.length) : fits .byte (.int ((xldc[q]).2.2.2.getD j 0)) = true := by
  have h1 := List.all_eq_true.mp xldc_all _ (List.getElem_mem hq)
  have h2 := List.all_eq_true.mp h1 _ (List.getElem_mem hj)
  rw [List.getD_eq_getElem?_getD, List.getElem?_eq_getElem hj]
  exact h2
theorem s_nr (x : Int32) (vm₁ : Vm) (T : State) (comp : ClassId) : (T.setVm vm₁).takes comp (xav .byte x) := by
  exact x_takesI x vm₁ T comp (fun h => by cases h)
theorem s_copy (hC : xOK K cc own n rm) (q1 q2 : Nat) {a1 a2 n1 n2 : Nat} {f g : Nat → Int} (hq1 : ws[q1]? = some (a1, .inr (n1, f))) (hq2 : ws[q2]? = some (a2, .inr (n2, g))) {a b z : Nat} (hn1 : n1 ≤ 1000000) (hn2 : n2 ≤ 1000000) (h4 : a + z ≤ n1) (h5 : b + z ≤ n2) {idx : Nat} (hlink : Cond.methodLink own idx arraycopyName ∈ xw) (hnat : Cond.native arraycopyName ∈ xw) (hstat : Cond.static arraycopyName ∈ xw) (hini : Cond.initialized "java/lang/System" ∈ xw) (hfr : 1 ≤ rm.frames) (hlo : (st.map fun v => v.category).sum + (nativeFrameWords "java/lang/System" "arraycopy" 5 + 11) ≤ rm.locals) {pc' : Nat} (hp : pc + 3 = pc') (d : decode cc pc = .ok (.invokestatic idx, 3))
    (k : WB B (PS E B (ws.set q2 (a2, .inr (n2, cpI f g a b z)))) cl sl K E pc' lv st S) : WB B (PS E B ws) cl sl K E pc lv (vi (z : Int) :: vi (b : Int) :: .ref a2 :: vi (a : Int) :: .ref a1 :: st) S := by
  subst hp
  obtain ⟨p, l, e, R, s, m, args, below, meth, c, nL, cl0, sl0, Q⟩ := K
  obtain ⟨hx, hb, hml, hown, hts, hlk, rfl, hRR⟩ := hC
  intro H locs ls hY hP hS hl
  have hm := List.mem_of_getElem? hq2
  obtain ⟨⟨c1, h11, h12, h13⟩, hdis1⟩ := hP.2.1 _ (List.mem_of_getElem? hq1)
  obtain ⟨⟨c2, h21, h22, h23⟩, hdis2⟩ := hP.2.1 _ hm
  have e0 : wr 0 = 0 := by decide
  have na : ∀ x : Nat, x ≤ 1000000 → ¬ Int32.ofInt (x : Int) < 0 := fun x hx h => by rw [i32_0, i32_lt, wrN hx, e0] at h; omega
  have nt : ∀ x : Nat, x ≤ 1000000 → (Int32.ofInt (x : Int)).toNatClampNeg = x := fun x hx => by rw [i32_nat]; exact wtn hx
  have kn : ∀ {w : Cell}, w.vm = .none → w.vm ≠ .unknown := fun h => by rw [h]; exact fun h => by cases h
  refine x_copyC (A := fun a => B ≤ a) (n0 := n1) (n1 := n2) (f := fun j => Int32.ofInt (f j)) (g := fun j => Int32.ofInt (g j)) hx hb (by rw [hml]; exact hl.1.symm) hown (hts _ hlink) (hts _ hnat) (hts _ hstat) (hts _ hini) hS h11 h21 h12.1 h22.1 (kn h12.2.1) (kn h22.2.1) rfl hdis2.1 (Nat.le_of_eq h13.1.symm) (Nat.le_of_eq h23.1.symm) h13.2 h23.2 (na a (by omega)) (na b (by omega)) (na z (by omega)) (by rw [nt a (by omega), nt z (by omega)]; exact h4) (by rw [nt b (by omega), nt z (by omega)]; exact h5) s_nr (by rw [hRR]; exact hfr) (by rw [hRR]; exact hlo) d (fun H1 locs1 e1 oq hS1 => ?_)
  obtain ⟨r1, r2, r3⟩ := s_cp hn1 hn2 ⟨Nat.le_of_eq h13.1.symm, h13.2⟩ h23 h4 h5
  have b2' : byA s (copied c1 c2 (Int32.ofInt (a : Int)) (Int32.ofInt (b : Int)) (Int32.ofInt (z : Int))) := ⟨by
    obtain ⟨z1, k1, hk1, z2⟩ := h22.1
    exact ⟨fun k => by rw [r2]; exact z1 k, k1, by rw [r1]; exact hk1, z2⟩, by rw [r2]; exact h22.2.1, by rw [r1]; exact h22.2.2⟩
  exact k H1 locs1 ls (YW_sideS hY hP hm oq) (PS_set hP hq2 ⟨_, e1, b2', r3⟩ (hsz_of oq e1 h21) oq) hS1 hl
theorem s_copyV (hC : xOK K cc own n rm) {q : Nat} (hq : q < xldc.length) (q2 : Nat) {a2 n2 : Nat} {g : Nat → Int} (hq2 : ws[q2]? = some (a2, .inr (n2, g))) {a b z : Nat} (hn2 : n2 ≤ 1000000) (h4 : a + z ≤ (xldc[q]).2.2.2.length) (hn1 : (xldc[q]).2.2.2.length ≤ 1000000) (h5 : b + z ≤ n2) {idx : Nat} (hlink : Cond.methodLink own idx arraycopyName ∈ xw) (hnat : Cond.native arraycopyName ∈ xw) (hstat : Cond.static arraycopyName ∈ xw) (hini : Cond.initialized "java/lang/System" ∈ xw) (hfr : 1 ≤ rm.frames) (hlo : (st.map fun v => v.category).sum + (nativeFrameWords "java/lang/System" "arraycopy" 5 + 11) ≤ rm.locals) {pc' : Nat} (hp : pc + 3 = pc') (d : decode cc pc = .ok (.invokestatic idx, 3))
    (k : WB B (PS E B (ws.set q2 (a2, .inr (n2, cpI (fun j => ((xldc[q]).2.2.2.getD j 0).toInt) g a b z)))) cl sl K E pc' lv st S) : WB B (PS E B ws) cl sl K E pc lv (vi (z : Int) :: vi (b : Int) :: .ref a2 :: vi (a : Int) :: vv E q :: st) S := by
  subst hp
  obtain ⟨p, l, e, R, s, m, args, below, meth, c, nL, cl0, sl0, Q⟩ := K
  obtain ⟨hx, hb, hml, hown, hts, hlk, rfl, hRR⟩ := hC
  intro H locs ls hY hP hS hl
  have hm := List.mem_of_getElem? hq2
  obtain ⟨-, -, -, c1, h11, h12, h13, h14, h15, h16, h17⟩ := hY.1.2.2.2.1.2.2 q _ (List.getElem?_eq_getElem hq)
  obtain ⟨⟨c2, h21, h22, h23⟩, hdis2⟩ := hP.2.1 _ hm
  have e0 : wr 0 = 0 := by decide
  have na : ∀ x : Nat, x ≤ 1000000 → ¬ Int32.ofInt (x : Int) < 0 := fun x hx h => by rw [i32_0, i32_lt, wrN hx, e0] at h; omega
  have nt : ∀ x : Nat, x ≤ 1000000 → (Int32.ofInt (x : Int)).toNatClampNeg = x := fun x hx => by rw [i32_nat]; exact wtn hx
  have kn : ∀ {w : Cell}, w.vm = .none → w.vm ≠ .unknown := fun h => by rw [h]; exact fun h => by cases h
  have ev : ∀ j : Nat, vi (((xldc[q]).2.2.2.getD j 0).toInt) = .int ((xldc[q]).2.2.2.getD j 0) := fun j => congrArg Value.int (Int32.ofInt_toInt _)
  have hf : (xldc[q]).2.2.2.length ≤ c1.slots.size ∧ ∀ j : Nat, j < (xldc[q]).2.2.2.length → c1.slots[j]? = some (vi (((xldc[q]).2.2.2.getD j 0).toInt)) ∧ fits .byte (vi (((xldc[q]).2.2.2.getD j 0).toInt)) = true := ⟨h14, fun j hj => by
    rw [ev]
    exact ⟨h16 j hj, xldc_fit hq hj⟩⟩
  refine x_copyC (A := fun a => B ≤ a) (n0 := (xldc[q]).2.2.2.length) (n1 := n2) (f := fun j => Int32.ofInt (((xldc[q]).2.2.2.getD j 0).toInt)) (g := fun j => Int32.ofInt (g j)) hx hb (by rw [hml]; exact hl.1.symm) hown (hts _ hlink) (hts _ hnat) (hts _ hstat) (hts _ hini) hS h11 h21 h12 h22.1 h13 (kn h22.2.1) rfl hdis2.1 h14 (Nat.le_of_eq h23.1.symm) hf.2 h23.2 (na a (by omega)) (na b (by omega)) (na z (by omega)) (by rw [nt a (by omega), nt z (by omega)]; exact h4) (by rw [nt b (by omega), nt z (by omega)]; exact h5) s_nr (by rw [hRR]; exact hfr) (by rw [hRR]; exact hlo) d (fun H1 locs1 e1 oq hS1 => ?_)
  obtain ⟨r1, r2, r3⟩ := s_cp hn1 hn2 hf h23 h4 h5
  have b2' : byA s (copied c1 c2 (Int32.ofInt (a : Int)) (Int32.ofInt (b : Int)) (Int32.ofInt (z : Int))) := ⟨by
    obtain ⟨z1, k1, hk1, z2⟩ := h22.1
    exact ⟨fun k => by rw [r2]; exact z1 k, k1, by rw [r1]; exact hk1, z2⟩, by rw [r2]; exact h22.2.1, by rw [r1]; exact h22.2.2⟩
  exact k H1 locs1 ls (YW_sideS hY hP hm oq) (PS_set hP hq2 ⟨_, e1, b2', r3⟩ (hsz_of oq e1 h21) oq) hS1 hl

/-- a copy of a whole row -/
theorem s_clone (hC : xOK K cc own n rm) (q0 : Nat) {a N : Nat} {f : Nat → Int} (hq0 : ws[q0]? = some (a, .inr (N, f))) {idx : Nat} (hlink : Cond.methodLink own idx ⟨"[B", "clone", "()Ljava/lang/Object;"⟩ ∈ xw) (hcl : cl + 1 ≤ rm.cells) (hsl : sl + N ≤ rm.slots) (hfr : 1 ≤ rm.frames) (hlo : (st.map fun v => v.category).sum + 14 ≤ rm.locals) {pc' : Nat} (hp : pc + 3 = pc') (d : decode cc pc = .ok (.invokevirtual idx, 3))
    (k : ∀ a1 : Nat, WB B (PS E B ((a1, .inr (N, f)) :: ws)) (cl + 1) (sl + N) K E pc' lv (.ref a1 :: st) S) : WB B (PS E B ws) cl sl K E pc lv (.ref a :: st) S := by
  subst hp
  obtain ⟨p, l, e, R, s, m, args, below, meth, c, nL, cl0, sl0, Q⟩ := K
  obtain ⟨hx, hb, hml, hown, hts, hlk, rfl, hRR⟩ := hC
  intro H locs ls hY hP hS hl
  obtain ⟨⟨cell, h1, h2, h3, h4⟩, hdis⟩ := hP.2.1 _ (List.mem_of_getElem? hq0)
  obtain ⟨c0, t0', f1, f2, f3⟩ := Cond.castable_spec (va_Nw.use (A := args) rfl (hY.1.2.2.2.2.2.2.2.2 ("[B", "java/lang/Cloneable") (List.mem_cons_of_mem _ List.mem_cons_self)))
  cases h2.2.2.symm.trans f1
  have h2' : byA s ({ cls := cell.cls, slots := cell.slots } : Cell) := ⟨⟨(fun k h => nomatch h), h2.1.2⟩, rfl, h2.2.2⟩
  intro T hT X
  obtain ⟨-, kA, hkA, comp, hkind⟩ := State.isArrayOf_alike X.warmed.alike h2.1
  obtain ⟨-, kS, hkS, compS, hkindS⟩ := id h2.1
  obtain ⟨vm', X', stp⟩ := X.cloneArray hx hown (hts _ hlink) (hts _ q253) (hts _ q254) (hts _ q255) (hts _ q256) (a := a) (cell := cell) (by rw [hT]; exact h1) (fun k h => by rw [h2.2.1] at h; cases h) (by rw [h2.2.1]; exact fun h => by cases h) h2.2.2 f2 f3
    (fun i v hv => by
      have hk' : T.vm.classes[cell.cls]? = some kA := hkA
      have hi : i < N := by have := (Array.getElem?_eq_some_iff.mp hv).1; omega
      have h5 := h4 i hi
      cases h5.1.symm.trans hv
      simpa [State.fitsSlot, State.slotType?, hk', hkind] using h5.2)
    (g := F0 m pc ls (.ref a :: st)) rfl (by rw [hml]; exact hl.1) rfl (by rw [hb]; exact d) (by rw [hRR]; exact hfr) (by rw [hRR]; show 2 * 0 + _ + 14 ≤ _; omega) (by rw [hRR]; exact hcl) (by rw [hRR, h3]; exact hsl) (hloader := Vm.clonesLoader_of_array hkS hkindS)
  rw [h3] at X'
  generalize hH1 : H.push ({ cls := cell.cls, slots := cell.slots } : Cell) = H1
  have z1 : H1.size = H.size + 1 := by rw [← hH1, Array.size_push]
  have e1 : H1[H.size]? = some ({ cls := cell.cls, slots := cell.slots } : Cell) := by rw [← hH1, Array.getElem?_push_size]
  have o1 : ∀ q : Nat, q < H.size → H1[q]? = H[q]? := fun q hq => by rw [← hH1, Array.getElem?_push, if_neg (Nat.ne_of_lt hq)]
  obtain ⟨t, b1, b2⟩ := k H.size H1 locs ls (YW_push hY o1) (PS_push hY hP ⟨_, e1, h2', h3, h4⟩ z1 o1) ⟨Nat.le_trans hS.1 (by omega), fun x h1 h2 => (o1 x (Nat.lt_of_lt_of_le h1 hS.1)).trans (hS.2.1 x h1 h2), hS.2.2⟩ hl ((T.setVm vm').pushCell ({ cls := cell.cls, slots := cell.slots } : Cell)) (by rw [← hH1, ← hT]; rfl) X'
  refine ⟨t, stp t ?_, b2⟩
  rw [hT]
  exact b1
theorem s_cast (hC : xOK K cc own n rm) (q0 : Nat) {a N : Nat} {f : Nat → Int} (hq0 : ws[q0]? = some (a, .inr (N, f))) {idx : Nat} (hlink : Cond.classLink own idx "[B" ∈ xw) {pc' : Nat} (hp : pc + 3 = pc') (d : decode cc pc = .ok (.checkcast idx, 3))
    (k : WB B (PS E B ws) cl sl K E pc' lv (.ref a :: st) S) : WB B (PS E B ws) cl sl K E pc lv (.ref a :: st) S := by
  subst hp
  obtain ⟨p, l, e, R, s, m, args, below, meth, c, nL, cl0, sl0, Q⟩ := K
  obtain ⟨hx, hb, hml, hown, hts, hlk, rfl, hRR⟩ := hC
  intro H locs ls hY hP hS hl
  obtain ⟨⟨cell, h1, h2, h3, h4⟩, hdis⟩ := hP.2.1 _ (List.mem_of_getElem? hq0)
  have k := k H locs ls hY hP hS hl
  intro T hT X
  obtain ⟨vm', X', stp⟩ := X.checkcastYes hx hown (hts _ hlink) (by rw [hT]; exact h1) (by rw [h2.2.1]; rfl) h2.2.2 (va_asg _ _) (g := F0 m pc ls (.ref a :: st)) rfl rfl (by rw [hb]; exact d)
  obtain ⟨t, a1, b1⟩ := k (T.setVm vm') hT X'
  exact ⟨t, stp t a1, b1⟩
/-- Integer's tables of digits -/
def PD (E : xE) (B : Nat) (ws : sW) (t : Nat) (f : Nat → Int32) : xPsi := fun s H => PS E B ws s H ∧ va_T .byte t 100 (fun j => .int (f j)) (fun a => B ≤ a) s H
theorem s_dig (hC : xOK K cc own n rm) {nm : String} {f : Nat → Int32} (hf : (nm = "DigitOnes" ∧ f = xd1) ∨ (nm = "DigitTens" ∧ f = xd2)) {idx : Nat} (hlink : Cond.fieldLink own idx "java/lang/Integer" nm "[B" ∈ xw) {pc' : Nat} (hp : pc + 3 = pc') (d : decode cc pc = .ok (.getstatic idx, 3))
    (k : ∀ t : Nat, WB B (PD E B ws t f) cl sl K E pc' lv (.ref t :: st) S) : WB B (PS E B ws) cl sl K E pc lv st S := by
  subst hp
  obtain ⟨p, l, e, R, s, m, args, below, meth, c, nL, cl0, sl0, Q⟩ := K
  obtain ⟨hx, hb, hml, hown, hts, hlk, rfl, hRR⟩ := hC
  intro H locs ls hY hP hS hl
  have h9 : XDig1 nm f (fun a => B ≤ a) s H := by
    rcases hf with ⟨rfl, rfl⟩ | ⟨rfl, rfl⟩
    · exact hP.1.2.2.2.2.2.1.2.1.2.2.2.1
    · exact hP.1.2.2.2.2.2.1.2.1.2.2.2.2
  obtain ⟨t, hZ, hTT⟩ := h9
  obtain ⟨cf, kf, fi, f', a, cell, h1, h2, h3, h4, h5, h6, h7, h8⟩ := hZ
  exact W.gets hx hb hown (hts _ hlink) h1 h2 h3 h4 h5 (fun e => by rw [e] at h6; cases h6) h7 rfl d (k t H locs ls hY ⟨hP, hTT⟩ hS hl)
theorem s_dald (hC : xOK K cc own n rm) {t : Nat} {f : Nat → Int32} {i : Nat} (hi : i < 100) {v : Int} (hv : f i = Int32.ofInt v) {pc' : Nat} (hp : pc + 1 = pc') (d : decode cc pc = .ok (.baload, 1))
    (k : WB B (PS E B ws) cl sl K E pc' lv (vi v :: st) S) : WB B (PD E B ws t f) cl sl K E pc lv (vi (i : Int) :: .ref t :: st) S := by
  subst hp
  obtain ⟨p, l, e, R, s, m, args, below, meth, c, nL, cl0, sl0, Q⟩ := K
  obtain ⟨hx, hb, hml, hown, hts, hlk, rfl, hRR⟩ := hC
  intro H locs ls hY hP hS hl
  obtain ⟨hP, cell, h1, h2, h3, h4, h5, h6, h7⟩ := hP
  have hin : vp_in (Int32.ofInt (i : Int)) 100 := ck_in (wix hi (by omega))
  obtain ⟨g1, g2⟩ := x_idx hin h4
  have ek : (Int32.ofInt (i : Int)).toNatClampNeg = i := by rw [i32_nat]; exact wtn (by omega)
  have h8 : cell.slots[(Int32.ofInt (i : Int)).toNatClampNeg]? = some (.int (f i)) := by
    rw [ek]
    exact h6 i hi
  rw [hv] at h8
  exact W.bald hx hb h1 h2 h3 g1 h8 rfl rfl d (k H locs ls hY hP hS hl)
end SR

