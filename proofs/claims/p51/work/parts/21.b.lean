/-! A WALK BESIDE THE REGIONS. All that is new lies from B on; what lies beside the regions is said by Ψ -/
abbrev xPsi : Type := State → Heap → Prop
def WB (B : Nat) (Ψ : xPsi) (cl sl : Nat) (K : xCtx) (E : xE) (pc : Nat) (lv : List (Nat × Value)) (st : List Value) (S : xSt) : Prop := match K with
  | (p, l, e, R, s, m, args, below, meth, c, nL, _, _, Q) => ∀ (H : Heap) (locs : List Loc) (ls : Array Slot), YW E S s H → Ψ s H → va_S (fun a => B ≤ a) s.heap H locs → lv_has ls nL lv → W p l e R s m args below meth c H locs cl sl Q (F0 m pc ls st)
/-- a write in the regions alone keeps it -/
def xKeep (E : xE) (Ψ : xPsi) : Prop := ∀ (s : State) (H H1 : Heap), Ψ s H → H.size ≤ H1.size → (∀ q : Nat, q < H.size → ¬ xA E q → H1[q]? = H[q]?) → Ψ s H1
theorem xKeep_PN {E : xE} {B : Nat} {ws : pW} : xKeep E (PN E B ws) := fun _ _ _ h hz hk => PN_kept h hz hk
section WB
variable {K : xCtx} {E : xE} {B : Nat} {Ψ : xPsi} {cl sl : Nat} {cc : ByteArray} {own : String} {n : Nat} {rm : Room} {pc : Nat} {lv : List (Nat × Value)} {st : List Value} {S : xSt} {r o κ : Nat}

theorem b_iconst (hC : xOK K cc own n rm) {z : Int} {pc' : Nat} (hp : pc + 1 = pc') (d : decode cc pc = .ok (.iconst z, 1))
    (k : WB B Ψ cl sl K E pc' lv (vi z :: st) S) : WB B Ψ cl sl K E pc lv (st) S := by
  subst hp
  obtain ⟨p, l, e, R, s, m, args, below, meth, c, nL, cl0, sl0, Q⟩ := K
  obtain ⟨hx, hb, hml, hown, hts, hlk, rfl, hRR⟩ := hC
  intro H locs ls hY hP hS hl
  exact lv_iconst hx hb d rfl (k H locs ls hY hP hS hl)

theorem b_bipush (hC : xOK K cc own n rm) {z : Int} (hz : (Int8.ofInt z).toInt32 = Int32.ofInt z) {pc' : Nat} (hp : pc + 2 = pc') (d : decode cc pc = .ok (.bipush z, 2))
    (k : WB B Ψ cl sl K E pc' lv (vi z :: st) S) : WB B Ψ cl sl K E pc lv (st) S := by
  subst hp
  obtain ⟨p, l, e, R, s, m, args, below, meth, c, nL, cl0, sl0, Q⟩ := K
  obtain ⟨hx, hb, hml, hown, hts, hlk, rfl, hRR⟩ := hC
  intro H locs ls hY hP hS hl
  exact lv_bipush hx hb d hz (k H locs ls hY hP hS hl)

theorem b_sipush (hC : xOK K cc own n rm) {z : Int} (hz : (Int16.ofInt z).toInt32 = Int32.ofInt z) {pc' : Nat} (hp : pc + 3 = pc') (d : decode cc pc = .ok (.sipush z, 3))
    (k : WB B Ψ cl sl K E pc' lv (vi z :: st) S) : WB B Ψ cl sl K E pc lv (st) S := by
  subst hp
  obtain ⟨p, l, e, R, s, m, args, below, meth, c, nL, cl0, sl0, Q⟩ := K
  obtain ⟨hx, hb, hml, hown, hts, hlk, rfl, hRR⟩ := hC
  intro H locs ls hY hP hS hl
  exact lv_sipush hx hb d hz (k H locs ls hY hP hS hl)

theorem b_iload_n (hC : xOK K cc own n rm) {f : Fin 4} {i : Nat} (hi : (f : Nat) = i) (j : Nat) {x : Int} (hj : lv[j]? = some (i, vi x)) {pc' : Nat} (hp : pc + 1 = pc') (d : decode cc pc = .ok (.iload_n f, 1))
    (k : WB B Ψ cl sl K E pc' lv (vi x :: st) S) : WB B Ψ cl sl K E pc lv (st) S := by
  subst hp
  obtain ⟨p, l, e, R, s, m, args, below, meth, c, nL, cl0, sl0, Q⟩ := K
  obtain ⟨hx, hb, hml, hown, hts, hlk, rfl, hRR⟩ := hC
  intro H locs ls hY hP hS hl
  exact lv_iload_n hx hb d hi (lv_at hl j hj) (k H locs ls hY hP hS hl)

theorem b_iload (hC : xOK K cc own n rm) {i : Nat} (j : Nat) {x : Int} (hj : lv[j]? = some (i, vi x)) {pc' : Nat} (hp : pc + 2 = pc') (d : decode cc pc = .ok (.iload i, 2))
    (k : WB B Ψ cl sl K E pc' lv (vi x :: st) S) : WB B Ψ cl sl K E pc lv (st) S := by
  subst hp
  obtain ⟨p, l, e, R, s, m, args, below, meth, c, nL, cl0, sl0, Q⟩ := K
  obtain ⟨hx, hb, hml, hown, hts, hlk, rfl, hRR⟩ := hC
  intro H locs ls hY hP hS hl
  exact lv_iload hx hb d (lv_at hl j hj) (k H locs ls hY hP hS hl)

theorem b_aload_n (hC : xOK K cc own n rm) {f : Fin 4} {i : Nat} (hi : (f : Nat) = i) (j : Nat) {a : Nat} (hj : lv[j]? = some (i, .ref a)) {pc' : Nat} (hp : pc + 1 = pc') (d : decode cc pc = .ok (.aload_n f, 1))
    (k : WB B Ψ cl sl K E pc' lv (.ref a :: st) S) : WB B Ψ cl sl K E pc lv (st) S := by
  subst hp
  obtain ⟨p, l, e, R, s, m, args, below, meth, c, nL, cl0, sl0, Q⟩ := K
  obtain ⟨hx, hb, hml, hown, hts, hlk, rfl, hRR⟩ := hC
  intro H locs ls hY hP hS hl
  exact lv_aload_n hx hb d hi (lv_at hl j hj) (k H locs ls hY hP hS hl)

theorem b_aload (hC : xOK K cc own n rm) {i : Nat} (j : Nat) {a : Nat} (hj : lv[j]? = some (i, .ref a)) {pc' : Nat} (hp : pc + 2 = pc') (d : decode cc pc = .ok (.aload i, 2))
    (k : WB B Ψ cl sl K E pc' lv (.ref a :: st) S) : WB B Ψ cl sl K E pc lv (st) S := by
  subst hp
  obtain ⟨p, l, e, R, s, m, args, below, meth, c, nL, cl0, sl0, Q⟩ := K
  obtain ⟨hx, hb, hml, hown, hts, hlk, rfl, hRR⟩ := hC
  intro H locs ls hY hP hS hl
  exact lv_aload hx hb d (lv_at hl j hj) (k H locs ls hY hP hS hl)

theorem b_istore_n (hC : xOK K cc own n rm) {f : Fin 4} {i : Nat} (hi : (f : Nat) = i) {x : Int} (hn : i < n) {lv' : List (Nat × Value)} (hl' : (i, vi x) :: lv.filter (fun q => !(q.1 == i) && !(q.1 + 1 == i && q.2.category == 2)) = lv') {pc' : Nat} (hp : pc + 1 = pc') (d : decode cc pc = .ok (.istore_n f, 1))
    (k : WB B Ψ cl sl K E pc' lv' st S) : WB B Ψ cl sl K E pc lv (vi x :: st) S := by
  subst hp
  obtain ⟨p, l, e, R, s, m, args, below, meth, c, nL, cl0, sl0, Q⟩ := K
  obtain ⟨hx, hb, hml, hown, hts, hlk, rfl, hRR⟩ := hC
  intro H locs ls hY hP hS hl
  exact lv_istore_n hx hb d hi hl hn hl' (fun ls' h' => k H locs ls' hY hP hS h')

theorem b_istore (hC : xOK K cc own n rm)  {i : Nat}  {x : Int} (hn : i < n) {lv' : List (Nat × Value)} (hl' : (i, vi x) :: lv.filter (fun q => !(q.1 == i) && !(q.1 + 1 == i && q.2.category == 2)) = lv') {pc' : Nat} (hp : pc + 2 = pc') (d : decode cc pc = .ok (.istore i, 2))
    (k : WB B Ψ cl sl K E pc' lv' st S) : WB B Ψ cl sl K E pc lv (vi x :: st) S := by
  subst hp
  obtain ⟨p, l, e, R, s, m, args, below, meth, c, nL, cl0, sl0, Q⟩ := K
  obtain ⟨hx, hb, hml, hown, hts, hlk, rfl, hRR⟩ := hC
  intro H locs ls hY hP hS hl
  exact lv_istore hx hb d hl hn hl' (fun ls' h' => k H locs ls' hY hP hS h')

theorem b_astore_n (hC : xOK K cc own n rm) {f : Fin 4} {i : Nat} (hi : (f : Nat) = i) {x : Nat} (hn : i < n) {lv' : List (Nat × Value)} (hl' : (i, Value.ref x) :: lv.filter (fun q => !(q.1 == i) && !(q.1 + 1 == i && q.2.category == 2)) = lv') {pc' : Nat} (hp : pc + 1 = pc') (d : decode cc pc = .ok (.astore_n f, 1))
    (k : WB B Ψ cl sl K E pc' lv' st S) : WB B Ψ cl sl K E pc lv (Value.ref x :: st) S := by
  subst hp
  obtain ⟨p, l, e, R, s, m, args, below, meth, c, nL, cl0, sl0, Q⟩ := K
  obtain ⟨hx, hb, hml, hown, hts, hlk, rfl, hRR⟩ := hC
  intro H locs ls hY hP hS hl
  exact lv_astore_n hx hb d hi hl hn hl' (fun ls' h' => k H locs ls' hY hP hS h')

theorem b_astore (hC : xOK K cc own n rm)  {i : Nat}  {x : Nat} (hn : i < n) {lv' : List (Nat × Value)} (hl' : (i, Value.ref x) :: lv.filter (fun q => !(q.1 == i) && !(q.1 + 1 == i && q.2.category == 2)) = lv') {pc' : Nat} (hp : pc + 2 = pc') (d : decode cc pc = .ok (.astore i, 2))
    (k : WB B Ψ cl sl K E pc' lv' st S) : WB B Ψ cl sl K E pc lv (Value.ref x :: st) S := by
  subst hp
  obtain ⟨p, l, e, R, s, m, args, below, meth, c, nL, cl0, sl0, Q⟩ := K
  obtain ⟨hx, hb, hml, hown, hts, hlk, rfl, hRR⟩ := hC
  intro H locs ls hY hP hS hl
  exact lv_astore hx hb d hl hn hl' (fun ls' h' => k H locs ls' hY hP hS h')

theorem b_iinc (hC : xOK K cc own n rm) {i : Nat} {z : Int} (j : Nat) {x : Int} (hj : lv[j]? = some (i, vi x)) (hn : i < n) {lv' : List (Nat × Value)} (hl' : (i, vi (x + z)) :: lv.filter (fun q => !(q.1 == i) && !(q.1 + 1 == i && q.2.category == 2)) = lv') {pc' : Nat} (hp : pc + 3 = pc') (d : decode cc pc = .ok (.iinc i z, 3))
    (k : WB B Ψ cl sl K E pc' lv' st S) : WB B Ψ cl sl K E pc lv st S := by
  subst hp
  obtain ⟨p, l, e, R, s, m, args, below, meth, c, nL, cl0, sl0, Q⟩ := K
  obtain ⟨hx, hb, hml, hown, hts, hlk, rfl, hRR⟩ := hC
  intro H locs ls hY hP hS hl
  exact lv_iinc hx hb d hl hj (v := Int32.ofInt (x + z)) (by rw [Int32.ofInt_add]) hn hl' (fun ls' h' => k H locs ls' hY hP hS h')

theorem b_iadd (hC : xOK K cc own n rm) {x y : Int} {pc' : Nat} (hp : pc + 1 = pc') (d : decode cc pc = .ok (.iadd, 1))
    (k : WB B Ψ cl sl K E pc' lv (vi (x + y) :: st) S) : WB B Ψ cl sl K E pc lv (vi y :: vi x :: st) S := by
  subst hp
  obtain ⟨p, l, e, R, s, m, args, below, meth, c, nL, cl0, sl0, Q⟩ := K
  obtain ⟨hx, hb, hml, hown, hts, hlk, rfl, hRR⟩ := hC
  intro H locs ls hY hP hS hl
  have k := k H locs ls hY hP hS hl
  unfold vi at k
  rw [Int32.ofInt_add] at k
  exact lv_iadd hx hb d k

theorem b_isub (hC : xOK K cc own n rm) {x y : Int} {pc' : Nat} (hp : pc + 1 = pc') (d : decode cc pc = .ok (.isub, 1))
    (k : WB B Ψ cl sl K E pc' lv (vi (x - y) :: st) S) : WB B Ψ cl sl K E pc lv (vi y :: vi x :: st) S := by
  subst hp
  obtain ⟨p, l, e, R, s, m, args, below, meth, c, nL, cl0, sl0, Q⟩ := K
  obtain ⟨hx, hb, hml, hown, hts, hlk, rfl, hRR⟩ := hC
  intro H locs ls hY hP hS hl
  have k := k H locs ls hY hP hS hl
  unfold vi at k
  rw [Int32.ofInt_sub] at k
  exact lv_isub hx hb d k

theorem b_imul (hC : xOK K cc own n rm) {x y : Int} {pc' : Nat} (hp : pc + 1 = pc') (d : decode cc pc = .ok (.imul, 1))
    (k : WB B Ψ cl sl K E pc' lv (vi (x * y) :: st) S) : WB B Ψ cl sl K E pc lv (vi y :: vi x :: st) S := by
  subst hp
  obtain ⟨p, l, e, R, s, m, args, below, meth, c, nL, cl0, sl0, Q⟩ := K
  obtain ⟨hx, hb, hml, hown, hts, hlk, rfl, hRR⟩ := hC
  intro H locs ls hY hP hS hl
  have k := k H locs ls hY hP hS hl
  unfold vi at k
  rw [Int32.ofInt_mul] at k
  exact lv_imul hx hb d k

theorem b_iand (hC : xOK K cc own n rm) {x y : Int} {pc' : Nat} (hp : pc + 1 = pc') (d : decode cc pc = .ok (.iand, 1))
    (k : WB B Ψ cl sl K E pc' lv (vi (iA x y) :: st) S) : WB B Ψ cl sl K E pc lv (vi y :: vi x :: st) S := by
  subst hp
  obtain ⟨p, l, e, R, s, m, args, below, meth, c, nL, cl0, sl0, Q⟩ := K
  obtain ⟨hx, hb, hml, hown, hts, hlk, rfl, hRR⟩ := hC
  intro H locs ls hY hP hS hl
  have k := k H locs ls hY hP hS hl
  unfold vi iA at k
  rw [Int32.ofInt_toInt] at k
  exact lv_iand hx hb d k

theorem b_ior (hC : xOK K cc own n rm) {x y : Int} {pc' : Nat} (hp : pc + 1 = pc') (d : decode cc pc = .ok (.ior, 1))
    (k : WB B Ψ cl sl K E pc' lv (vi (iO x y) :: st) S) : WB B Ψ cl sl K E pc lv (vi y :: vi x :: st) S := by
  subst hp
  obtain ⟨p, l, e, R, s, m, args, below, meth, c, nL, cl0, sl0, Q⟩ := K
  obtain ⟨hx, hb, hml, hown, hts, hlk, rfl, hRR⟩ := hC
  intro H locs ls hY hP hS hl
  have k := k H locs ls hY hP hS hl
  unfold vi iO at k
  rw [Int32.ofInt_toInt] at k
  exact lv_ior hx hb d k

theorem b_ishr (hC : xOK K cc own n rm) {x y : Int} {pc' : Nat} (hp : pc + 1 = pc') (d : decode cc pc = .ok (.ishr, 1))
    (k : WB B Ψ cl sl K E pc' lv (vi (iSr x y) :: st) S) : WB B Ψ cl sl K E pc lv (vi y :: vi x :: st) S := by
  subst hp
  obtain ⟨p, l, e, R, s, m, args, below, meth, c, nL, cl0, sl0, Q⟩ := K
  obtain ⟨hx, hb, hml, hown, hts, hlk, rfl, hRR⟩ := hC
  intro H locs ls hY hP hS hl
  have k := k H locs ls hY hP hS hl
  unfold vi iSr at k
  rw [Int32.ofInt_toInt] at k
  exact lv_ishr hx hb d k

theorem b_ishl (hC : xOK K cc own n rm) {x y : Int} {pc' : Nat} (hp : pc + 1 = pc') (d : decode cc pc = .ok (.ishl, 1))
    (k : WB B Ψ cl sl K E pc' lv (vi (iSl x y) :: st) S) : WB B Ψ cl sl K E pc lv (vi y :: vi x :: st) S := by
  subst hp
  obtain ⟨p, l, e, R, s, m, args, below, meth, c, nL, cl0, sl0, Q⟩ := K
  obtain ⟨hx, hb, hml, hown, hts, hlk, rfl, hRR⟩ := hC
  intro H locs ls hY hP hS hl
  have k := k H locs ls hY hP hS hl
  unfold vi iSl at k
  rw [Int32.ofInt_toInt] at k
  exact lv_ishl hx hb d k

theorem b_ineg (hC : xOK K cc own n rm) {x : Int} {pc' : Nat} (hp : pc + 1 = pc') (d : decode cc pc = .ok (.ineg, 1))
    (k : WB B Ψ cl sl K E pc' lv (vi (-x) :: st) S) : WB B Ψ cl sl K E pc lv (vi x :: st) S := by
  subst hp
  obtain ⟨p, l, e, R, s, m, args, below, meth, c, nL, cl0, sl0, Q⟩ := K
  obtain ⟨hx, hb, hml, hown, hts, hlk, rfl, hRR⟩ := hC
  intro H locs ls hY hP hS hl
  have k := k H locs ls hY hP hS hl
  unfold vi at k
  rw [Int32.ofInt_neg] at k
  exact lv_ineg hx hb d k

theorem b_idiv (hC : xOK K cc own n rm) {x y : Int} (h0 : ¬ wr y = 0) {pc' : Nat} (hp : pc + 1 = pc') (d : decode cc pc = .ok (.idiv, 1))
    (k : WB B Ψ cl sl K E pc' lv (vi (Int.tdiv (wr x) (wr y)) :: st) S) : WB B Ψ cl sl K E pc lv (vi y :: vi x :: st) S := by
  subst hp
  obtain ⟨p, l, e, R, s, m, args, below, meth, c, nL, cl0, sl0, Q⟩ := K
  obtain ⟨hx, hb, hml, hown, hts, hlk, rfl, hRR⟩ := hC
  intro H locs ls hY hP hS hl
  have k := k H locs ls hY hP hS hl
  unfold vi at k
  rw [← i32_div] at k
  exact lv_idiv hx hb d (fun h => h0 (by rw [i32_0, i32_eq] at h; rw [h]; decide)) k

theorem b_irem (hC : xOK K cc own n rm) {x y : Int} (h0 : ¬ wr y = 0) {pc' : Nat} (hp : pc + 1 = pc') (d : decode cc pc = .ok (.irem, 1))
    (k : WB B Ψ cl sl K E pc' lv (vi (Int.tmod (wr x) (wr y)) :: st) S) : WB B Ψ cl sl K E pc lv (vi y :: vi x :: st) S := by
  subst hp
  obtain ⟨p, l, e, R, s, m, args, below, meth, c, nL, cl0, sl0, Q⟩ := K
  obtain ⟨hx, hb, hml, hown, hts, hlk, rfl, hRR⟩ := hC
  intro H locs ls hY hP hS hl
  have k := k H locs ls hY hP hS hl
  unfold vi at k
  rw [← i32_rem] at k
  exact lv_irem hx hb d (fun h => h0 (by rw [i32_0, i32_eq] at h; rw [h]; decide)) k

theorem b_dup (hC : xOK K cc own n rm) {v : Value} (hv : v.category = 1) {pc' : Nat} (hp : pc + 1 = pc') (d : decode cc pc = .ok (.dup, 1))
    (k : WB B Ψ cl sl K E pc' lv (v :: v :: st) S) : WB B Ψ cl sl K E pc lv (v :: st) S := by
  subst hp
  obtain ⟨p, l, e, R, s, m, args, below, meth, c, nL, cl0, sl0, Q⟩ := K
  obtain ⟨hx, hb, hml, hown, hts, hlk, rfl, hRR⟩ := hC
  intro H locs ls hY hP hS hl
  exact lv_dup hx hb d hv (k H locs ls hY hP hS hl)

theorem b_pop (hC : xOK K cc own n rm) {v : Value} (hv : v.category = 1) {pc' : Nat} (hp : pc + 1 = pc') (d : decode cc pc = .ok (.pop, 1))
    (k : WB B Ψ cl sl K E pc' lv (st) S) : WB B Ψ cl sl K E pc lv (v :: st) S := by
  subst hp
  obtain ⟨p, l, e, R, s, m, args, below, meth, c, nL, cl0, sl0, Q⟩ := K
  obtain ⟨hx, hb, hml, hown, hts, hlk, rfl, hRR⟩ := hC
  intro H locs ls hY hP hS hl
  exact lv_pop hx hb d hv (k H locs ls hY hP hS hl)

theorem b_dup2 (hC : xOK K cc own n rm) {v w : Value} (hv : v.category = 1) (hw : w.category = 1) {pc' : Nat} (hp : pc + 1 = pc') (d : decode cc pc = .ok (.dup2, 1))
    (k : WB B Ψ cl sl K E pc' lv (v :: w :: v :: w :: st) S) : WB B Ψ cl sl K E pc lv (v :: w :: st) S := by
  subst hp
  obtain ⟨p, l, e, R, s, m, args, below, meth, c, nL, cl0, sl0, Q⟩ := K
  obtain ⟨hx, hb, hml, hown, hts, hlk, rfl, hRR⟩ := hC
  intro H locs ls hY hP hS hl
  exact lv_dup2_11 hx hb d hv hw (k H locs ls hY hP hS hl)

theorem b_icmp_eq (hC : xOK K cc own n rm) {x y : Int} {off : Int} {tgt : Nat} (ht : (pc : Int) + off = (tgt : Int)) {pc' : Nat} (hp : pc + 3 = pc') (d : decode cc pc = .ok (.if_icmp .eq off, 3))
    (kt : wr x = wr y → WB B Ψ cl sl K E tgt lv st S) (kf : ¬ (wr x = wr y) → WB B Ψ cl sl K E pc' lv st S) : WB B Ψ cl sl K E pc lv (vi y :: vi x :: st) S := by
  subst hp
  obtain ⟨p, l, e, R, s, m, args, below, meth, c, nL, cl0, sl0, Q⟩ := K
  obtain ⟨hx, hb, hml, hown, hts, hlk, rfl, hRR⟩ := hC
  intro H locs ls hY hP hS hl
  refine lv_icmp_eq hx hb d ht (fun h => kt ?_ H locs ls hY hP hS hl) (fun h => kf ?_ H locs ls hY hP hS hl)
  · first | exact (i32_eq _ _).mp h | exact fun z => h ((i32_eq _ _).mpr z)
  · first | exact fun z => h ((i32_eq _ _).mpr z) | exact fun z => z ((i32_eq _ _).mp (Decidable.not_not.mp h)) | exact fun z => z ((i32_eq _ _).mp h)

theorem b_if_eq (hC : xOK K cc own n rm) {x : Int} {off : Int} {tgt : Nat} (ht : (pc : Int) + off = (tgt : Int)) {pc' : Nat} (hp : pc + 3 = pc') (d : decode cc pc = .ok (.ifCond .eq off, 3))
    (kt : wr x = 0 → WB B Ψ cl sl K E tgt lv st S) (kf : ¬ (wr x = 0) → WB B Ψ cl sl K E pc' lv st S) : WB B Ψ cl sl K E pc lv (vi x :: st) S := by
  subst hp
  obtain ⟨p, l, e, R, s, m, args, below, meth, c, nL, cl0, sl0, Q⟩ := K
  obtain ⟨hx, hb, hml, hown, hts, hlk, rfl, hRR⟩ := hC
  intro H locs ls hY hP hS hl
  have e0 : wr 0 = 0 := by decide
  rw [← e0] at kt kf
  refine lv_if_eq hx hb d ht (fun h => kt ?_ H locs ls hY hP hS hl) (fun h => kf ?_ H locs ls hY hP hS hl)
  · rw [i32_0] at h; first | exact (i32_eq _ _).mp h | exact fun z => h ((i32_eq _ _).mpr z)
  · rw [i32_0] at h; first | exact fun z => h ((i32_eq _ _).mpr z) | exact fun z => z ((i32_eq _ _).mp (Decidable.not_not.mp h)) | exact fun z => z ((i32_eq _ _).mp h)

theorem b_icmp_ne (hC : xOK K cc own n rm) {x y : Int} {off : Int} {tgt : Nat} (ht : (pc : Int) + off = (tgt : Int)) {pc' : Nat} (hp : pc + 3 = pc') (d : decode cc pc = .ok (.if_icmp .ne off, 3))
    (kt : ¬ wr x = wr y → WB B Ψ cl sl K E tgt lv st S) (kf : ¬ (¬ wr x = wr y) → WB B Ψ cl sl K E pc' lv st S) : WB B Ψ cl sl K E pc lv (vi y :: vi x :: st) S := by
  subst hp
  obtain ⟨p, l, e, R, s, m, args, below, meth, c, nL, cl0, sl0, Q⟩ := K
  obtain ⟨hx, hb, hml, hown, hts, hlk, rfl, hRR⟩ := hC
  intro H locs ls hY hP hS hl
  refine lv_icmp_ne hx hb d ht (fun h => kt ?_ H locs ls hY hP hS hl) (fun h => kf ?_ H locs ls hY hP hS hl)
  · first | exact (i32_eq _ _).mp h | exact fun z => h ((i32_eq _ _).mpr z)
  · first | exact fun z => h ((i32_eq _ _).mpr z) | exact fun z => z ((i32_eq _ _).mp (Decidable.not_not.mp h)) | exact fun z => z ((i32_eq _ _).mp h)

theorem b_if_ne (hC : xOK K cc own n rm) {x : Int} {off : Int} {tgt : Nat} (ht : (pc : Int) + off = (tgt : Int)) {pc' : Nat} (hp : pc + 3 = pc') (d : decode cc pc = .ok (.ifCond .ne off, 3))
    (kt : ¬ wr x = 0 → WB B Ψ cl sl K E tgt lv st S) (kf : ¬ (¬ wr x = 0) → WB B Ψ cl sl K E pc' lv st S) : WB B Ψ cl sl K E pc lv (vi x :: st) S := by
  subst hp
  obtain ⟨p, l, e, R, s, m, args, below, meth, c, nL, cl0, sl0, Q⟩ := K
  obtain ⟨hx, hb, hml, hown, hts, hlk, rfl, hRR⟩ := hC
  intro H locs ls hY hP hS hl
  have e0 : wr 0 = 0 := by decide
  rw [← e0] at kt kf
  refine lv_if_ne hx hb d ht (fun h => kt ?_ H locs ls hY hP hS hl) (fun h => kf ?_ H locs ls hY hP hS hl)
  · rw [i32_0] at h; first | exact (i32_eq _ _).mp h | exact fun z => h ((i32_eq _ _).mpr z)
  · rw [i32_0] at h; first | exact fun z => h ((i32_eq _ _).mpr z) | exact fun z => z ((i32_eq _ _).mp (Decidable.not_not.mp h)) | exact fun z => z ((i32_eq _ _).mp h)

theorem b_icmp_lt (hC : xOK K cc own n rm) {x y : Int} {off : Int} {tgt : Nat} (ht : (pc : Int) + off = (tgt : Int)) {pc' : Nat} (hp : pc + 3 = pc') (d : decode cc pc = .ok (.if_icmp .lt off, 3))
    (kt : wr x < wr y → WB B Ψ cl sl K E tgt lv st S) (kf : ¬ (wr x < wr y) → WB B Ψ cl sl K E pc' lv st S) : WB B Ψ cl sl K E pc lv (vi y :: vi x :: st) S := by
  subst hp
  obtain ⟨p, l, e, R, s, m, args, below, meth, c, nL, cl0, sl0, Q⟩ := K
  obtain ⟨hx, hb, hml, hown, hts, hlk, rfl, hRR⟩ := hC
  intro H locs ls hY hP hS hl
  refine lv_icmp_lt hx hb d ht (fun h => kt ?_ H locs ls hY hP hS hl) (fun h => kf ?_ H locs ls hY hP hS hl)
  · first | exact (i32_lt _ _).mp h | exact fun z => h ((i32_lt _ _).mpr z)
  · first | exact fun z => h ((i32_lt _ _).mpr z) | exact fun z => z ((i32_lt _ _).mp (Decidable.not_not.mp h)) | exact fun z => z ((i32_lt _ _).mp h)

theorem b_if_lt (hC : xOK K cc own n rm) {x : Int} {off : Int} {tgt : Nat} (ht : (pc : Int) + off = (tgt : Int)) {pc' : Nat} (hp : pc + 3 = pc') (d : decode cc pc = .ok (.ifCond .lt off, 3))
    (kt : wr x < 0 → WB B Ψ cl sl K E tgt lv st S) (kf : ¬ (wr x < 0) → WB B Ψ cl sl K E pc' lv st S) : WB B Ψ cl sl K E pc lv (vi x :: st) S := by
  subst hp
  obtain ⟨p, l, e, R, s, m, args, below, meth, c, nL, cl0, sl0, Q⟩ := K
  obtain ⟨hx, hb, hml, hown, hts, hlk, rfl, hRR⟩ := hC
  intro H locs ls hY hP hS hl
  have e0 : wr 0 = 0 := by decide
  rw [← e0] at kt kf
  refine lv_if_lt hx hb d ht (fun h => kt ?_ H locs ls hY hP hS hl) (fun h => kf ?_ H locs ls hY hP hS hl)
  · rw [i32_0] at h; first | exact (i32_lt _ _).mp h | exact fun z => h ((i32_lt _ _).mpr z)
  · rw [i32_0] at h; first | exact fun z => h ((i32_lt _ _).mpr z) | exact fun z => z ((i32_lt _ _).mp (Decidable.not_not.mp h)) | exact fun z => z ((i32_lt _ _).mp h)

theorem b_icmp_ge (hC : xOK K cc own n rm) {x y : Int} {off : Int} {tgt : Nat} (ht : (pc : Int) + off = (tgt : Int)) {pc' : Nat} (hp : pc + 3 = pc') (d : decode cc pc = .ok (.if_icmp .ge off, 3))
    (kt : wr y ≤ wr x → WB B Ψ cl sl K E tgt lv st S) (kf : ¬ (wr y ≤ wr x) → WB B Ψ cl sl K E pc' lv st S) : WB B Ψ cl sl K E pc lv (vi y :: vi x :: st) S := by
  subst hp
  obtain ⟨p, l, e, R, s, m, args, below, meth, c, nL, cl0, sl0, Q⟩ := K
  obtain ⟨hx, hb, hml, hown, hts, hlk, rfl, hRR⟩ := hC
  intro H locs ls hY hP hS hl
  refine lv_icmp_ge hx hb d ht (fun h => kt ?_ H locs ls hY hP hS hl) (fun h => kf ?_ H locs ls hY hP hS hl)
  · first | exact (i32_le _ _).mp h | exact fun z => h ((i32_le _ _).mpr z)
  · first | exact fun z => h ((i32_le _ _).mpr z) | exact fun z => z ((i32_le _ _).mp (Decidable.not_not.mp h)) | exact fun z => z ((i32_le _ _).mp h)

theorem b_if_ge (hC : xOK K cc own n rm) {x : Int} {off : Int} {tgt : Nat} (ht : (pc : Int) + off = (tgt : Int)) {pc' : Nat} (hp : pc + 3 = pc') (d : decode cc pc = .ok (.ifCond .ge off, 3))
    (kt : 0 ≤ wr x → WB B Ψ cl sl K E tgt lv st S) (kf : ¬ (0 ≤ wr x) → WB B Ψ cl sl K E pc' lv st S) : WB B Ψ cl sl K E pc lv (vi x :: st) S := by
  subst hp
  obtain ⟨p, l, e, R, s, m, args, below, meth, c, nL, cl0, sl0, Q⟩ := K
  obtain ⟨hx, hb, hml, hown, hts, hlk, rfl, hRR⟩ := hC
  intro H locs ls hY hP hS hl
  have e0 : wr 0 = 0 := by decide
  rw [← e0] at kt kf
  refine lv_if_ge hx hb d ht (fun h => kt ?_ H locs ls hY hP hS hl) (fun h => kf ?_ H locs ls hY hP hS hl)
  · rw [i32_0] at h; first | exact (i32_le _ _).mp h | exact fun z => h ((i32_le _ _).mpr z)
  · rw [i32_0] at h; first | exact fun z => h ((i32_le _ _).mpr z) | exact fun z => z ((i32_le _ _).mp (Decidable.not_not.mp h)) | exact fun z => z ((i32_le _ _).mp h)

theorem b_icmp_gt (hC : xOK K cc own n rm) {x y : Int} {off : Int} {tgt : Nat} (ht : (pc : Int) + off = (tgt : Int)) {pc' : Nat} (hp : pc + 3 = pc') (d : decode cc pc = .ok (.if_icmp .gt off, 3))
    (kt : wr y < wr x → WB B Ψ cl sl K E tgt lv st S) (kf : ¬ (wr y < wr x) → WB B Ψ cl sl K E pc' lv st S) : WB B Ψ cl sl K E pc lv (vi y :: vi x :: st) S := by
  subst hp
  obtain ⟨p, l, e, R, s, m, args, below, meth, c, nL, cl0, sl0, Q⟩ := K
  obtain ⟨hx, hb, hml, hown, hts, hlk, rfl, hRR⟩ := hC
  intro H locs ls hY hP hS hl
  refine lv_icmp_gt hx hb d ht (fun h => kt ?_ H locs ls hY hP hS hl) (fun h => kf ?_ H locs ls hY hP hS hl)
  · first | exact (i32_lt _ _).mp h | exact fun z => h ((i32_lt _ _).mpr z)
  · first | exact fun z => h ((i32_lt _ _).mpr z) | exact fun z => z ((i32_lt _ _).mp (Decidable.not_not.mp h)) | exact fun z => z ((i32_lt _ _).mp h)

theorem b_if_gt (hC : xOK K cc own n rm) {x : Int} {off : Int} {tgt : Nat} (ht : (pc : Int) + off = (tgt : Int)) {pc' : Nat} (hp : pc + 3 = pc') (d : decode cc pc = .ok (.ifCond .gt off, 3))
    (kt : 0 < wr x → WB B Ψ cl sl K E tgt lv st S) (kf : ¬ (0 < wr x) → WB B Ψ cl sl K E pc' lv st S) : WB B Ψ cl sl K E pc lv (vi x :: st) S := by
  subst hp
  obtain ⟨p, l, e, R, s, m, args, below, meth, c, nL, cl0, sl0, Q⟩ := K
  obtain ⟨hx, hb, hml, hown, hts, hlk, rfl, hRR⟩ := hC
  intro H locs ls hY hP hS hl
  have e0 : wr 0 = 0 := by decide
  rw [← e0] at kt kf
  refine lv_if_gt hx hb d ht (fun h => kt ?_ H locs ls hY hP hS hl) (fun h => kf ?_ H locs ls hY hP hS hl)
  · rw [i32_0] at h; first | exact (i32_lt _ _).mp h | exact fun z => h ((i32_lt _ _).mpr z)
  · rw [i32_0] at h; first | exact fun z => h ((i32_lt _ _).mpr z) | exact fun z => z ((i32_lt _ _).mp (Decidable.not_not.mp h)) | exact fun z => z ((i32_lt _ _).mp h)

theorem b_icmp_le (hC : xOK K cc own n rm) {x y : Int} {off : Int} {tgt : Nat} (ht : (pc : Int) + off = (tgt : Int)) {pc' : Nat} (hp : pc + 3 = pc') (d : decode cc pc = .ok (.if_icmp .le off, 3))
    (kt : wr x ≤ wr y → WB B Ψ cl sl K E tgt lv st S) (kf : ¬ (wr x ≤ wr y) → WB B Ψ cl sl K E pc' lv st S) : WB B Ψ cl sl K E pc lv (vi y :: vi x :: st) S := by
  subst hp
  obtain ⟨p, l, e, R, s, m, args, below, meth, c, nL, cl0, sl0, Q⟩ := K
  obtain ⟨hx, hb, hml, hown, hts, hlk, rfl, hRR⟩ := hC
  intro H locs ls hY hP hS hl
  refine lv_icmp_le hx hb d ht (fun h => kt ?_ H locs ls hY hP hS hl) (fun h => kf ?_ H locs ls hY hP hS hl)
  · first | exact (i32_le _ _).mp h | exact fun z => h ((i32_le _ _).mpr z)
  · first | exact fun z => h ((i32_le _ _).mpr z) | exact fun z => z ((i32_le _ _).mp (Decidable.not_not.mp h)) | exact fun z => z ((i32_le _ _).mp h)

theorem b_if_le (hC : xOK K cc own n rm) {x : Int} {off : Int} {tgt : Nat} (ht : (pc : Int) + off = (tgt : Int)) {pc' : Nat} (hp : pc + 3 = pc') (d : decode cc pc = .ok (.ifCond .le off, 3))
    (kt : wr x ≤ 0 → WB B Ψ cl sl K E tgt lv st S) (kf : ¬ (wr x ≤ 0) → WB B Ψ cl sl K E pc' lv st S) : WB B Ψ cl sl K E pc lv (vi x :: st) S := by
  subst hp
  obtain ⟨p, l, e, R, s, m, args, below, meth, c, nL, cl0, sl0, Q⟩ := K
  obtain ⟨hx, hb, hml, hown, hts, hlk, rfl, hRR⟩ := hC
  intro H locs ls hY hP hS hl
  have e0 : wr 0 = 0 := by decide
  rw [← e0] at kt kf
  refine lv_if_le hx hb d ht (fun h => kt ?_ H locs ls hY hP hS hl) (fun h => kf ?_ H locs ls hY hP hS hl)
  · rw [i32_0] at h; first | exact (i32_le _ _).mp h | exact fun z => h ((i32_le _ _).mpr z)
  · rw [i32_0] at h; first | exact fun z => h ((i32_le _ _).mpr z) | exact fun z => z ((i32_le _ _).mp (Decidable.not_not.mp h)) | exact fun z => z ((i32_le _ _).mp h)

theorem b_goto (hC : xOK K cc own n rm) {off : Int} {tgt : Nat} (ht : (pc : Int) + off = (tgt : Int)) (d : decode cc pc = .ok (.goto off, 3))
    (k : WB B Ψ cl sl K E tgt lv st S) : WB B Ψ cl sl K E pc lv st S := by
  obtain ⟨p, l, e, R, s, m, args, below, meth, c, nL, cl0, sl0, Q⟩ := K
  obtain ⟨hx, hb, hml, hown, hts, hlk, rfl, hRR⟩ := hC
  intro H locs ls hY hP hS hl
  exact lv_goto hx hb d ht (k H locs ls hY hP hS hl)

theorem b_tabIn (hC : xOK K cc own n rm) {dflt lo hi : Int} {offs : Array Int} {len : Nat} {x : Int} {off : Int} {tgt : Nat} (d : decode cc pc = .ok (.tableswitch dflt lo hi offs, len)) (h1 : ¬ wr x < lo) (h2 : ¬ hi < wr x) (ho : offs[(wr x - lo).toNat]? = some off) (ht : (pc : Int) + off = (tgt : Int))
    (k : WB B Ψ cl sl K E tgt lv st S) : WB B Ψ cl sl K E pc lv (vi x :: st) S := by
  obtain ⟨p, l, e, R, s, m, args, below, meth, c, nL, cl0, sl0, Q⟩ := K
  obtain ⟨hx, hb, hml, hown, hts, hlk, rfl, hRR⟩ := hC
  intro H locs ls hY hP hS hl
  exact lv_tableIn hx hb d (by rw [wr_toInt]; exact h1) (by rw [wr_toInt]; exact h2) (by rw [wr_toInt]; exact ho) ht (k H locs ls hY hP hS hl)

theorem b_tabOut (hC : xOK K cc own n rm) {dflt lo hi : Int} {offs : Array Int} {len : Nat} {x : Int} {tgt : Nat} (d : decode cc pc = .ok (.tableswitch dflt lo hi offs, len)) (h1 : wr x < lo ∨ hi < wr x) (ht : (pc : Int) + dflt = (tgt : Int))
    (k : WB B Ψ cl sl K E tgt lv st S) : WB B Ψ cl sl K E pc lv (vi x :: st) S := by
  obtain ⟨p, l, e, R, s, m, args, below, meth, c, nL, cl0, sl0, Q⟩ := K
  obtain ⟨hx, hb, hml, hown, hts, hlk, rfl, hRR⟩ := hC
  intro H locs ls hY hP hS hl
  exact lv_tableOut hx hb d (by rw [wr_toInt]; exact h1) ht (k H locs ls hY hP hS hl)

theorem b_sub (ks : List Nat) {lv' : List (Nat × Value)} (hl' : lv_pick lv ks = lv') (k : WB B Ψ cl sl K E pc lv' st S) : WB B Ψ cl sl K E pc lv st S := by
  obtain ⟨p, l, e, R, s, m, args, below, meth, c, nL, cl0, sl0, Q⟩ := K
  intro H locs ls hY hP hS hl
  exact k H locs ls hY hP hS (lv_sub hl ks hl')

theorem b_eqi {x y : Int} (h : y = x) (k : WB B Ψ cl sl K E pc lv (vi y :: st) S) : WB B Ψ cl sl K E pc lv (vi x :: st) S := by subst h; exact k

theorem b_pc {pc' : Nat} (h : pc = pc') (k : WB B Ψ cl sl K E pc' lv st S) : WB B Ψ cl sl K E pc lv st S := by subst h; exact k

theorem b_ldcS (hC : xOK K cc own n rm) (q : Nat) {z0 : String × Nat × String × List Int32} (hq : xldc[q]? = some z0) (ho : z0.1 = own) {pc' : Nat} (hp : pc + 2 = pc') (d : decode cc pc = .ok (.ldc z0.2.1, 2))
    (k : WB B Ψ cl sl K E pc' lv (vs E q :: st) S) : WB B Ψ cl sl K E pc lv st S := by
  subst hp
  obtain ⟨p, l, e, R, s, m, args, below, meth, c, nL, cl0, sl0, Q⟩ := K
  obtain ⟨hx, hb, hml, hown, hts, hlk, rfl, hRR⟩ := hC
  intro H locs ls hY hP hS hl
  exact x_ldcS hx hb hY.1 q hq (by rw [ho]; exact hown) d (k H locs ls hY hP hS hl)

theorem b_ldcSW (hC : xOK K cc own n rm) (q : Nat) {z0 : String × Nat × String × List Int32} (hq : xldc[q]? = some z0) (ho : z0.1 = own) {pc' : Nat} (hp : pc + 3 = pc') (d : decode cc pc = .ok (.ldc_w z0.2.1, 3))
    (k : WB B Ψ cl sl K E pc' lv (vs E q :: st) S) : WB B Ψ cl sl K E pc lv st S := by
  subst hp
  obtain ⟨p, l, e, R, s, m, args, below, meth, c, nL, cl0, sl0, Q⟩ := K
  obtain ⟨hx, hb, hml, hown, hts, hlk, rfl, hRR⟩ := hC
  intro H locs ls hY hP hS hl
  intro T hT X
  obtain ⟨t, a1, b1⟩ := k H locs ls hY hP hS hl T hT X
  have hZ := hY.1.2.2.2.2.1 q z0 hq
  obtain ⟨k9, cf, i9, a', hk9, hcf, hcp, -, hr9, hev'⟩ := Cond.stringRef_spec (by rw [ho]; exact hown) hZ.1
  cases hZ.2.symm.trans hev'
  obtain ⟨k', hk', he⟩ := X.warmed.alike.2.2 _ _ hk9
  have hr' : k'.resolved[z0.2.1]? = some (some (.string (xaK E q))) := by
    rcases X.warmed.entry hk9 hk' z0.2.1 with h | ⟨h, -⟩
    · rw [h]; exact hr9
    · rw [hr9] at h; cases h
  refine ⟨t, ?_, b1⟩
  jvm_step X.here [X.here.top, hx, hb, d, ldc_w.wp_string (e := e) (s := T) (f := F0 m pc ls st) X.here.top hk' (by rw [he]; exact hcf) hcp hr']
  exact a1


theorem b_ldcI (hC : xOK K cc own n rm) {i : Nat} {z : Int} (hc : Cond.constant own i (Int32.ofInt z) ∈ xw) {pc' : Nat} (hp : pc + 2 = pc') (d : decode cc pc = .ok (.ldc i, 2))
    (k : WB B Ψ cl sl K E pc' lv (vi z :: st) S) : WB B Ψ cl sl K E pc lv st S := by
  subst hp
  obtain ⟨p, l, e, R, s, m, args, below, meth, c, nL, cl0, sl0, Q⟩ := K
  obtain ⟨hx, hb, hml, hown, hts, hlk, rfl, hRR⟩ := hC
  intro H locs ls hY hP hS hl
  exact lv_ldc hx hb hown (hts _ hc) d (k H locs ls hY hP hS hl)

theorem b_callVi (hC : xOK K cc own n rm) (hΨ : (∀ a, xA E a → B ≤ a) ∧ xKeep E Ψ) (hz : cl ≤ rm.cells ∧ sl ≤ rm.slots) (hk : xkd E r = κ) {ci : Nat} {C : String} {T : u_T} {N : Nat} {ty : Nat → FieldType} (hc : xCl ci C T N ty) {fs : List xF} (hl0 : lay κ o = some (.inl (ci, fs))) {y : MethodName} {bytes : ByteArray} {maxL na idx d' : Nat} (hy : mI y C bytes maxL (some .int) na) (hlink : Cond.methodLink own idx y ∈ xw) (hR : d' + 1 ≤ rm.frames ∧ 28 * (d' + 1) ≤ rm.locals) (As : List Value) {st0 : List Value} (hst : st0 = As.reverse ++ vr E r o :: st) {v : Int} {S1 : xSt} (hM : ∀ l, Met l y (xws y bytes maxL (some .int)) (rmD d') (YPc E (vr E r o :: As) S) (YQi E v S1) 0 0 (xA E)) (hn : As.length = na) (hcat : (st.map fun v => v.category).sum ≤ 8) {pc' : Nat} (hp : pc + 3 = pc') (d : decode cc pc = .ok (.invokevirtual idx, 3))
    (k : WB B Ψ cl sl K E pc' lv (vi v :: st) S1) : WB B Ψ cl sl K E pc lv st0 S := by
  subst hp
  obtain ⟨p, l, e, R, s, m, args, below, meth, c, nL, cl0, sl0, Q⟩ := K
  obtain ⟨hx, hb, hml, hown, hts, hlk, rfl, hRR⟩ := hC
  intro H locs ls hY hP hS hl
  subst hst hRR
  exact va_calli (va_runV (As := As) (rest := st) ⟨hx, hb, hml, hown, hts⟩ (hM l) (cw_L hts hy hlink hR) (YPreV hY (by rw [hk]; exact hl0) hc.1) rfl hn hl.1 rfl (lv_room hcat) d ⟨hz.1, hz.2⟩) hS (fun q _ h => hΨ.1 q h) (fun q h => hΨ.1 q h) (fun r9 u t H1 locs1 ht hvm hw hB hz9 hk9 hS1 => by subst hw; subst ht; exact k _ locs1 ls (YW_back hY hvm hB) (hΨ.2 _ _ _ hP hz9 hk9) hS1 hl)

theorem b_callSi (hC : xOK K cc own n rm) (hΨ : (∀ a, xA E a → B ≤ a) ∧ xKeep E Ψ) (hz : cl ≤ rm.cells ∧ sl ≤ rm.slots) {y : MethodName} {bytes : ByteArray} {maxL na idx d' : Nat} (hy : mS y bytes maxL (some .int) na) (hlink : Cond.methodLink own idx y ∈ xw) (hR : d' + 1 ≤ rm.frames ∧ 28 * (d' + 1) ≤ rm.locals) (As : List Value) {st0 : List Value} (hst : st0 = As.reverse ++ st) {v : Int} {S1 : xSt} (hM : ∀ l, Met l y (xws y bytes maxL (some .int)) (rmD d') (YPc E As S) (YQi E v S1) 0 0 (xA E)) (hn : As.length = na) (hcat : (st.map fun v => v.category).sum ≤ 8) {pc' : Nat} (hp : pc + 3 = pc') (d : decode cc pc = .ok (.invokestatic idx, 3))
    (k : WB B Ψ cl sl K E pc' lv (vi v :: st) S1) : WB B Ψ cl sl K E pc lv st0 S := by
  subst hp
  obtain ⟨p, l, e, R, s, m, args, below, meth, c, nL, cl0, sl0, Q⟩ := K
  obtain ⟨hx, hb, hml, hown, hts, hlk, rfl, hRR⟩ := hC
  intro H locs ls hY hP hS hl
  subst hst hRR
  exact va_calli (va_runS (As := As) (rest := st) ⟨hx, hb, hml, hown, hts⟩ (hM l) (cw_LS hts hy hlink hR) (YPreS hY) rfl hn hl.1 rfl (lv_room hcat) d ⟨hz.1, hz.2⟩) hS (fun q _ h => hΨ.1 q h) (fun q h => hΨ.1 q h) (fun r9 u t H1 locs1 ht hvm hw hB hz9 hk9 hS1 => by subst hw; subst ht; exact k _ locs1 ls (YW_back hY hvm hB) (hΨ.2 _ _ _ hP hz9 hk9) hS1 hl)

theorem b_callVz (hC : xOK K cc own n rm) (hΨ : (∀ a, xA E a → B ≤ a) ∧ xKeep E Ψ) (hz : cl ≤ rm.cells ∧ sl ≤ rm.slots) (hk : xkd E r = κ) {ci : Nat} {C : String} {T : u_T} {N : Nat} {ty : Nat → FieldType} (hc : xCl ci C T N ty) {fs : List xF} (hl0 : lay κ o = some (.inl (ci, fs))) {y : MethodName} {bytes : ByteArray} {maxL na idx d' : Nat} (hy : mI y C bytes maxL (some .boolean) na) (hlink : Cond.methodLink own idx y ∈ xw) (hR : d' + 1 ≤ rm.frames ∧ 28 * (d' + 1) ≤ rm.locals) (As : List Value) {st0 : List Value} (hst : st0 = As.reverse ++ vr E r o :: st) {v : Int} {S1 : xSt} (hM : ∀ l, Met l y (xws y bytes maxL (some .boolean)) (rmD d') (YPc E (vr E r o :: As) S) (YQz E v S1) 0 0 (xA E)) (hn : As.length = na) (hcat : (st.map fun v => v.category).sum ≤ 8) {pc' : Nat} (hp : pc + 3 = pc') (d : decode cc pc = .ok (.invokevirtual idx, 3))
    (k : (v = 0 ∨ v = 1) → WB B Ψ cl sl K E pc' lv (vi v :: st) S1) : WB B Ψ cl sl K E pc lv st0 S := by
  subst hp
  obtain ⟨p, l, e, R, s, m, args, below, meth, c, nL, cl0, sl0, Q⟩ := K
  obtain ⟨hx, hb, hml, hown, hts, hlk, rfl, hRR⟩ := hC
  intro H locs ls hY hP hS hl
  subst hst hRR
  exact va_calli (va_runV (As := As) (rest := st) ⟨hx, hb, hml, hown, hts⟩ (hM l) (cw_L hts hy hlink hR) (YPreV hY (by rw [hk]; exact hl0) hc.1) rfl hn hl.1 rfl (lv_room hcat) d ⟨hz.1, hz.2⟩) hS (fun q _ h => hΨ.1 q h) (fun q h => hΨ.1 q h) (fun r9 u t H1 locs1 ht hvm hw hB hz9 hk9 hS1 => by obtain ⟨hw, hb9⟩ := hw; subst hw; subst ht; exact k hb9 _ locs1 ls (YW_back hY hvm hB) (hΨ.2 _ _ _ hP hz9 hk9) hS1 hl)

theorem b_callSz (hC : xOK K cc own n rm) (hΨ : (∀ a, xA E a → B ≤ a) ∧ xKeep E Ψ) (hz : cl ≤ rm.cells ∧ sl ≤ rm.slots) {y : MethodName} {bytes : ByteArray} {maxL na idx d' : Nat} (hy : mS y bytes maxL (some .boolean) na) (hlink : Cond.methodLink own idx y ∈ xw) (hR : d' + 1 ≤ rm.frames ∧ 28 * (d' + 1) ≤ rm.locals) (As : List Value) {st0 : List Value} (hst : st0 = As.reverse ++ st) {v : Int} {S1 : xSt} (hM : ∀ l, Met l y (xws y bytes maxL (some .boolean)) (rmD d') (YPc E As S) (YQz E v S1) 0 0 (xA E)) (hn : As.length = na) (hcat : (st.map fun v => v.category).sum ≤ 8) {pc' : Nat} (hp : pc + 3 = pc') (d : decode cc pc = .ok (.invokestatic idx, 3))
    (k : (v = 0 ∨ v = 1) → WB B Ψ cl sl K E pc' lv (vi v :: st) S1) : WB B Ψ cl sl K E pc lv st0 S := by
  subst hp
  obtain ⟨p, l, e, R, s, m, args, below, meth, c, nL, cl0, sl0, Q⟩ := K
  obtain ⟨hx, hb, hml, hown, hts, hlk, rfl, hRR⟩ := hC
  intro H locs ls hY hP hS hl
  subst hst hRR
  exact va_calli (va_runS (As := As) (rest := st) ⟨hx, hb, hml, hown, hts⟩ (hM l) (cw_LS hts hy hlink hR) (YPreS hY) rfl hn hl.1 rfl (lv_room hcat) d ⟨hz.1, hz.2⟩) hS (fun q _ h => hΨ.1 q h) (fun q h => hΨ.1 q h) (fun r9 u t H1 locs1 ht hvm hw hB hz9 hk9 hS1 => by obtain ⟨hw, hb9⟩ := hw; subst hw; subst ht; exact k hb9 _ locs1 ls (YW_back hY hvm hB) (hΨ.2 _ _ _ hP hz9 hk9) hS1 hl)

theorem b_callVc (hC : xOK K cc own n rm) (hΨ : (∀ a, xA E a → B ≤ a) ∧ xKeep E Ψ) (hz : cl ≤ rm.cells ∧ sl ≤ rm.slots) (hk : xkd E r = κ) {ci : Nat} {C : String} {T : u_T} {N : Nat} {ty : Nat → FieldType} (hc : xCl ci C T N ty) {fs : List xF} (hl0 : lay κ o = some (.inl (ci, fs))) {y : MethodName} {bytes : ByteArray} {maxL na idx d' : Nat} (hy : mI y C bytes maxL (some .char) na) (hlink : Cond.methodLink own idx y ∈ xw) (hR : d' + 1 ≤ rm.frames ∧ 28 * (d' + 1) ≤ rm.locals) (As : List Value) {st0 : List Value} (hst : st0 = As.reverse ++ vr E r o :: st) {v : Int} {S1 : xSt} (hM : ∀ l, Met l y (xws y bytes maxL (some .char)) (rmD d') (YPc E (vr E r o :: As) S) (YQc E v S1) 0 0 (xA E)) (hn : As.length = na) (hcat : (st.map fun v => v.category).sum ≤ 8) {pc' : Nat} (hp : pc + 3 = pc') (d : decode cc pc = .ok (.invokevirtual idx, 3))
    (k : narrow .char (vi v) = vi v → WB B Ψ cl sl K E pc' lv (vi v :: st) S1) : WB B Ψ cl sl K E pc lv st0 S := by
  subst hp
  obtain ⟨p, l, e, R, s, m, args, below, meth, c, nL, cl0, sl0, Q⟩ := K
  obtain ⟨hx, hb, hml, hown, hts, hlk, rfl, hRR⟩ := hC
  intro H locs ls hY hP hS hl
  subst hst hRR
  exact va_calli (va_runV (As := As) (rest := st) ⟨hx, hb, hml, hown, hts⟩ (hM l) (cw_L hts hy hlink hR) (YPreV hY (by rw [hk]; exact hl0) hc.1) rfl hn hl.1 rfl (lv_room hcat) d ⟨hz.1, hz.2⟩) hS (fun q _ h => hΨ.1 q h) (fun q h => hΨ.1 q h) (fun r9 u t H1 locs1 ht hvm hw hB hz9 hk9 hS1 => by obtain ⟨hw, hb9⟩ := hw; subst hw; subst ht; exact k hb9 _ locs1 ls (YW_back hY hvm hB) (hΨ.2 _ _ _ hP hz9 hk9) hS1 hl)

theorem b_callSc (hC : xOK K cc own n rm) (hΨ : (∀ a, xA E a → B ≤ a) ∧ xKeep E Ψ) (hz : cl ≤ rm.cells ∧ sl ≤ rm.slots) {y : MethodName} {bytes : ByteArray} {maxL na idx d' : Nat} (hy : mS y bytes maxL (some .char) na) (hlink : Cond.methodLink own idx y ∈ xw) (hR : d' + 1 ≤ rm.frames ∧ 28 * (d' + 1) ≤ rm.locals) (As : List Value) {st0 : List Value} (hst : st0 = As.reverse ++ st) {v : Int} {S1 : xSt} (hM : ∀ l, Met l y (xws y bytes maxL (some .char)) (rmD d') (YPc E As S) (YQc E v S1) 0 0 (xA E)) (hn : As.length = na) (hcat : (st.map fun v => v.category).sum ≤ 8) {pc' : Nat} (hp : pc + 3 = pc') (d : decode cc pc = .ok (.invokestatic idx, 3))
    (k : narrow .char (vi v) = vi v → WB B Ψ cl sl K E pc' lv (vi v :: st) S1) : WB B Ψ cl sl K E pc lv st0 S := by
  subst hp
  obtain ⟨p, l, e, R, s, m, args, below, meth, c, nL, cl0, sl0, Q⟩ := K
  obtain ⟨hx, hb, hml, hown, hts, hlk, rfl, hRR⟩ := hC
  intro H locs ls hY hP hS hl
  subst hst hRR
  exact va_calli (va_runS (As := As) (rest := st) ⟨hx, hb, hml, hown, hts⟩ (hM l) (cw_LS hts hy hlink hR) (YPreS hY) rfl hn hl.1 rfl (lv_room hcat) d ⟨hz.1, hz.2⟩) hS (fun q _ h => hΨ.1 q h) (fun q h => hΨ.1 q h) (fun r9 u t H1 locs1 ht hvm hw hB hz9 hk9 hS1 => by obtain ⟨hw, hb9⟩ := hw; subst hw; subst ht; exact k hb9 _ locs1 ls (YW_back hY hvm hB) (hΨ.2 _ _ _ hP hz9 hk9) hS1 hl)

theorem b_callVv (hC : xOK K cc own n rm) (hΨ : (∀ a, xA E a → B ≤ a) ∧ xKeep E Ψ) (hz : cl ≤ rm.cells ∧ sl ≤ rm.slots) (hk : xkd E r = κ) {ci : Nat} {C : String} {T : u_T} {N : Nat} {ty : Nat → FieldType} (hc : xCl ci C T N ty) {fs : List xF} (hl0 : lay κ o = some (.inl (ci, fs))) {y : MethodName} {bytes : ByteArray} {maxL na idx d' : Nat} (hy : mI y C bytes maxL (none) na) (hlink : Cond.methodLink own idx y ∈ xw) (hR : d' + 1 ≤ rm.frames ∧ 28 * (d' + 1) ≤ rm.locals) (As : List Value) {st0 : List Value} (hst : st0 = As.reverse ++ vr E r o :: st)  {S1 : xSt} (hM : ∀ l, Met l y (xws y bytes maxL (none)) (rmD d') (YPc E (vr E r o :: As) S) (YQv E S1) 0 0 (xA E)) (hn : As.length = na) (hcat : (st.map fun v => v.category).sum ≤ 8) {pc' : Nat} (hp : pc + 3 = pc') (d : decode cc pc = .ok (.invokevirtual idx, 3))
    (k : WB B Ψ cl sl K E pc' lv (st) S1) : WB B Ψ cl sl K E pc lv st0 S := by
  subst hp
  obtain ⟨p, l, e, R, s, m, args, below, meth, c, nL, cl0, sl0, Q⟩ := K
  obtain ⟨hx, hb, hml, hown, hts, hlk, rfl, hRR⟩ := hC
  intro H locs ls hY hP hS hl
  subst hst hRR
  exact va_callv (va_runV (As := As) (rest := st) ⟨hx, hb, hml, hown, hts⟩ (hM l) (cw_L hts hy hlink hR) (YPreV hY (by rw [hk]; exact hl0) hc.1) rfl hn hl.1 rfl (lv_room hcat) d ⟨hz.1, hz.2⟩) hS (fun q _ h => hΨ.1 q h) (fun q h => hΨ.1 q h) (fun u t H1 locs1 ht hvm hw hB hz9 hk9 hS1 => by subst ht; exact k _ locs1 ls (YW_back hY hvm hB) (hΨ.2 _ _ _ hP hz9 hk9) hS1 hl)

theorem b_callSv (hC : xOK K cc own n rm) (hΨ : (∀ a, xA E a → B ≤ a) ∧ xKeep E Ψ) (hz : cl ≤ rm.cells ∧ sl ≤ rm.slots) {y : MethodName} {bytes : ByteArray} {maxL na idx d' : Nat} (hy : mS y bytes maxL (none) na) (hlink : Cond.methodLink own idx y ∈ xw) (hR : d' + 1 ≤ rm.frames ∧ 28 * (d' + 1) ≤ rm.locals) (As : List Value) {st0 : List Value} (hst : st0 = As.reverse ++ st)  {S1 : xSt} (hM : ∀ l, Met l y (xws y bytes maxL (none)) (rmD d') (YPc E As S) (YQv E S1) 0 0 (xA E)) (hn : As.length = na) (hcat : (st.map fun v => v.category).sum ≤ 8) {pc' : Nat} (hp : pc + 3 = pc') (d : decode cc pc = .ok (.invokestatic idx, 3))
    (k : WB B Ψ cl sl K E pc' lv (st) S1) : WB B Ψ cl sl K E pc lv st0 S := by
  subst hp
  obtain ⟨p, l, e, R, s, m, args, below, meth, c, nL, cl0, sl0, Q⟩ := K
  obtain ⟨hx, hb, hml, hown, hts, hlk, rfl, hRR⟩ := hC
  intro H locs ls hY hP hS hl
  subst hst hRR
  exact va_callv (va_runS (As := As) (rest := st) ⟨hx, hb, hml, hown, hts⟩ (hM l) (cw_LS hts hy hlink hR) (YPreS hY) rfl hn hl.1 rfl (lv_room hcat) d ⟨hz.1, hz.2⟩) hS (fun q _ h => hΨ.1 q h) (fun q h => hΨ.1 q h) (fun u t H1 locs1 ht hvm hw hB hz9 hk9 hS1 => by subst ht; exact k _ locs1 ls (YW_back hY hvm hB) (hΨ.2 _ _ _ hP hz9 hk9) hS1 hl)

theorem b_callVa (hC : xOK K cc own n rm) (hΨ : (∀ a, xA E a → B ≤ a) ∧ xKeep E Ψ) (hz : cl ≤ rm.cells ∧ sl ≤ rm.slots) (hk : xkd E r = κ) {ci : Nat} {C : String} {T : u_T} {N : Nat} {ty : Nat → FieldType} (hc : xCl ci C T N ty) {fs : List xF} (hl0 : lay κ o = some (.inl (ci, fs))) {y : MethodName} {bytes : ByteArray} {maxL na idx d' : Nat} (hy : mI y C bytes maxL (some (.object "java/lang/String")) na) (hlink : Cond.methodLink own idx y ∈ xw) (hR : d' + 1 ≤ rm.frames ∧ 28 * (d' + 1) ≤ rm.locals) (As : List Value) {st0 : List Value} (hst : st0 = As.reverse ++ vr E r o :: st) {v : Nat} {S1 : xSt} (hM : ∀ l, Met l y (xws y bytes maxL (some (.object "java/lang/String"))) (rmD d') (YPc E (vr E r o :: As) S) (YQa E v S1) 0 0 (xA E)) (hn : As.length = na) (hcat : (st.map fun v => v.category).sum ≤ 8) {pc' : Nat} (hp : pc + 3 = pc') (d : decode cc pc = .ok (.invokevirtual idx, 3))
    (k : v < xldc.length → WB B Ψ cl sl K E pc' lv (vs E v :: st) S1) : WB B Ψ cl sl K E pc lv st0 S := by
  subst hp
  obtain ⟨p, l, e, R, s, m, args, below, meth, c, nL, cl0, sl0, Q⟩ := K
  obtain ⟨hx, hb, hml, hown, hts, hlk, rfl, hRR⟩ := hC
  intro H locs ls hY hP hS hl
  subst hst hRR
  exact va_callr (va_runV (As := As) (rest := st) ⟨hx, hb, hml, hown, hts⟩ (hM l) (cw_L hts hy hlink hR) (YPreV hY (by rw [hk]; exact hl0) hc.1) rfl hn hl.1 rfl (lv_room hcat) d ⟨hz.1, hz.2⟩) hS (fun q _ h => hΨ.1 q h) (fun q h => hΨ.1 q h) (fun u r9 t H1 locs1 ht hvm hw hB hz9 hk9 hS1 => by obtain ⟨hw2, hB⟩ := hB; subst hw2; subst ht; exact k hw _ locs1 ls (YW_back hY hvm hB) (hΨ.2 _ _ _ hP hz9 hk9) hS1 hl)

theorem b_callSa (hC : xOK K cc own n rm) (hΨ : (∀ a, xA E a → B ≤ a) ∧ xKeep E Ψ) (hz : cl ≤ rm.cells ∧ sl ≤ rm.slots) {y : MethodName} {bytes : ByteArray} {maxL na idx d' : Nat} (hy : mS y bytes maxL (some (.object "java/lang/String")) na) (hlink : Cond.methodLink own idx y ∈ xw) (hR : d' + 1 ≤ rm.frames ∧ 28 * (d' + 1) ≤ rm.locals) (As : List Value) {st0 : List Value} (hst : st0 = As.reverse ++ st) {v : Nat} {S1 : xSt} (hM : ∀ l, Met l y (xws y bytes maxL (some (.object "java/lang/String"))) (rmD d') (YPc E As S) (YQa E v S1) 0 0 (xA E)) (hn : As.length = na) (hcat : (st.map fun v => v.category).sum ≤ 8) {pc' : Nat} (hp : pc + 3 = pc') (d : decode cc pc = .ok (.invokestatic idx, 3))
    (k : v < xldc.length → WB B Ψ cl sl K E pc' lv (vs E v :: st) S1) : WB B Ψ cl sl K E pc lv st0 S := by
  subst hp
  obtain ⟨p, l, e, R, s, m, args, below, meth, c, nL, cl0, sl0, Q⟩ := K
  obtain ⟨hx, hb, hml, hown, hts, hlk, rfl, hRR⟩ := hC
  intro H locs ls hY hP hS hl
  subst hst hRR
  exact va_callr (va_runS (As := As) (rest := st) ⟨hx, hb, hml, hown, hts⟩ (hM l) (cw_LS hts hy hlink hR) (YPreS hY) rfl hn hl.1 rfl (lv_room hcat) d ⟨hz.1, hz.2⟩) hS (fun q _ h => hΨ.1 q h) (fun q h => hΨ.1 q h) (fun u r9 t H1 locs1 ht hvm hw hB hz9 hk9 hS1 => by obtain ⟨hw2, hB⟩ := hB; subst hw2; subst ht; exact k hw _ locs1 ls (YW_back hY hvm hB) (hΨ.2 _ _ _ hP hz9 hk9) hS1 hl)

theorem b_psi {Ψ' : xPsi} (h : ∀ s H, Ψ s H → Ψ' s H) (k : WB B Ψ' cl sl K E pc lv st S) : WB B Ψ cl sl K E pc lv st S := by
  obtain ⟨p, l, e, R, s, m, args, below, meth, c, nL, cl0, sl0, Q⟩ := K
  intro H locs ls hY hP hS hl
  exact k H locs ls hY (h _ _ hP) hS hl
theorem b_wid {cl' sl' : Nat} (h1 : cl ≤ cl') (h2 : sl ≤ sl') (k : WB B Ψ cl' sl' K E pc lv st S) : WB B Ψ cl sl K E pc lv st S := by
  obtain ⟨p, l, e, R, s, m, args, below, meth, c, nL, cl0, sl0, Q⟩ := K
  intro H locs ls hY hP hS hl
  exact W.widen h1 h2 (k H locs ls hY hP hS hl)
theorem b_ofN {ws : pW} (k : WB B (PN E B ws) cl sl K E pc lv st S) : WN K E B pc lv st S ws cl sl := by
  obtain ⟨p, l, e, R, s, m, args, below, meth, c, nL, cl0, sl0, Q⟩ := K
  intro H locs ls hY hP hS hl
  exact k H locs ls hY hP hS hl
/-- a static method that makes cells -/
theorem rm_n2 {R : Room} {d' maxL a b : Nat} (h : d' + 1 ≤ R.frames ∧ 28 * (d' + 1) ≤ R.locals) (hm : maxL ≤ 9) : (rmN d' a b).frames + 1 ≤ R.frames ∧ 8 + (maxL + 11) + (rmN d' a b).locals ≤ R.locals := by
  refine ⟨h.1, ?_⟩
  show 8 + (maxL + 11) + 28 * d' ≤ R.locals
  omega
def NQi (E : xE) (B : Nat) (v : Int) (S : xSt) : Array Value → State → Outcome → State → Prop := va_Qi (fun r (_ : Unit) => r = Int32.ofInt v) (fun _ t => YW E S t t.heap ∧ PN E B [] t t.heap) (fun a => B ≤ a)
def NQv (E : xE) (B : Nat) (S : xSt) : Array Value → State → Outcome → State → Prop := va_Qv (fun (_ : Unit) => True) (fun _ t => YW E S t t.heap ∧ PN E B [] t t.heap) (fun a => B ≤ a)

theorem b_ncallSi (hC : xOK K cc own n rm) {y : MethodName} {bytes : ByteArray} {maxL na idx d' mc ms : Nat} (hy : mS y bytes maxL (some .int) na) (hlink : Cond.methodLink own idx y ∈ xw) (hR : d' + 1 ≤ rm.frames ∧ 28 * (d' + 1) ≤ rm.locals) (hcl : cl + mc ≤ rm.cells) (hsl : sl + ms ≤ rm.slots) (As : List Value) {st0 : List Value} (hst : st0 = As.reverse ++ st) {v : Int} {S1 : xSt} (hM : ∀ l, Met l y (xws y bytes maxL (some .int)) (rmN d' mc ms) (NPc E B As S []) (NQi E B v S1) mc ms (fun a => B ≤ a)) (hn : As.length = na) (hcat : (st.map fun v => v.category).sum ≤ 8) {pc' : Nat} (hp : pc + 3 = pc') (d : decode cc pc = .ok (.invokestatic idx, 3))
    (k : WB B (PN E B []) (cl + mc) (sl + ms) K E pc' lv (vi v :: st) S1) : WB B (PN E B []) cl sl K E pc lv st0 S := by
  subst hp
  obtain ⟨p, l, e, R, s, m, args, below, meth, c, nL, cl0, sl0, Q⟩ := K
  obtain ⟨hx, hb, hml, hown, hts, hlk, rfl, hRR⟩ := hC
  intro H locs ls hY hP hS hl
  subst hst hRR
  exact va_calli (va_runS (As := As) (rest := st) ⟨hx, hb, hml, hown, hts⟩ (hM l) ⟨callB_of na hts (good_all fun w hw => (List.mem_cons.mp hw).elim (fun e => by rw [e]; exact hy.1.2.2) id) rfl rfl rfl (hts _ hy.1.2.1) (hts _ hlink) hy.2.1 (rm_n2 hR hy.2.2), hts _ hy.1.1⟩ ⟨NPc_blind, fun U hU hW => ⟨rfl, by rw [hU]; exact YW_warm hW hY, by rw [hU]; exact PN_moved hW.alike hP⟩⟩ rfl hn hl.1 rfl (lv_room hcat) d ⟨hcl, hsl⟩) hS (fun q _ h => h) (fun q h => h) (fun r9 u t H1 locs1 ht hvm hw hB _ _ hS1 => by obtain ⟨hB1, hB2⟩ := hB; subst hw; subst ht; exact k _ locs1 ls (YW_back hY hvm hB1) (PN_moved hvm.symm hB2) hS1 hl)

theorem b_ncallSv (hC : xOK K cc own n rm) {y : MethodName} {bytes : ByteArray} {maxL na idx d' mc ms : Nat} (hy : mS y bytes maxL (none) na) (hlink : Cond.methodLink own idx y ∈ xw) (hR : d' + 1 ≤ rm.frames ∧ 28 * (d' + 1) ≤ rm.locals) (hcl : cl + mc ≤ rm.cells) (hsl : sl + ms ≤ rm.slots) (As : List Value) {st0 : List Value} (hst : st0 = As.reverse ++ st)  {S1 : xSt} (hM : ∀ l, Met l y (xws y bytes maxL (none)) (rmN d' mc ms) (NPc E B As S []) (NQv E B S1) mc ms (fun a => B ≤ a)) (hn : As.length = na) (hcat : (st.map fun v => v.category).sum ≤ 8) {pc' : Nat} (hp : pc + 3 = pc') (d : decode cc pc = .ok (.invokestatic idx, 3))
    (k : WB B (PN E B []) (cl + mc) (sl + ms) K E pc' lv (st) S1) : WB B (PN E B []) cl sl K E pc lv st0 S := by
  subst hp
  obtain ⟨p, l, e, R, s, m, args, below, meth, c, nL, cl0, sl0, Q⟩ := K
  obtain ⟨hx, hb, hml, hown, hts, hlk, rfl, hRR⟩ := hC
  intro H locs ls hY hP hS hl
  subst hst hRR
  exact va_callv (va_runS (As := As) (rest := st) ⟨hx, hb, hml, hown, hts⟩ (hM l) ⟨callB_of na hts (good_all fun w hw => (List.mem_cons.mp hw).elim (fun e => by rw [e]; exact hy.1.2.2) id) rfl rfl rfl (hts _ hy.1.2.1) (hts _ hlink) hy.2.1 (rm_n2 hR hy.2.2), hts _ hy.1.1⟩ ⟨NPc_blind, fun U hU hW => ⟨rfl, by rw [hU]; exact YW_warm hW hY, by rw [hU]; exact PN_moved hW.alike hP⟩⟩ rfl hn hl.1 rfl (lv_room hcat) d ⟨hcl, hsl⟩) hS (fun q _ h => h) (fun q h => h) (fun u t H1 locs1 ht hvm hw hB _ _ hS1 => by obtain ⟨hB1, hB2⟩ := hB; subst ht; exact k _ locs1 ls (YW_back hY hvm hB1) (PN_moved hvm.symm hB2) hS1 hl)

/-- numbers that are small: no 'wr' is left in sight -/
theorem wrN {n : Nat} (h : n ≤ 1000000) : wr (n : Int) = n := wr_id (by omega)
theorem wle_nn {a b : Nat} (ha : a ≤ 1000000) (hb : b ≤ 1000000) : wr (a : Int) ≤ wr (b : Int) ↔ a ≤ b := by rw [wrN ha, wrN hb]; omega
theorem wlt_nn {a b : Nat} (ha : a ≤ 1000000) (hb : b ≤ 1000000) : wr (a : Int) < wr (b : Int) ↔ a < b := by rw [wrN ha, wrN hb]; omega
theorem weq_nn {a b : Nat} (ha : a ≤ 1000000) (hb : b ≤ 1000000) : wr (a : Int) = wr (b : Int) ↔ a = b := by rw [wrN ha, wrN hb]; omega
theorem wix {j n : Nat} (h : j < n) (hn : n ≤ 1000000) : 0 ≤ wr (j : Int) ∧ wr (j : Int) < (n : Int) := by rw [wrN (by omega)]; omega
theorem wtn {j : Nat} (h : j ≤ 1000000) : (wr (j : Int)).toNat = j := by rw [wrN h]; omega
theorem tdvN {k q : Nat} (h : k ≤ 1000000) (hq : q ≤ 1000000) : ((k / q : Nat) : Int) = Int.tdiv (wr (k : Int)) (wr (q : Int)) := by rw [wrN h, wrN hq]; rfl
theorem tmdN {k q : Nat} (h : k ≤ 1000000) (hq : q ≤ 1000000) : ((k % q : Nat) : Int) = Int.tmod (wr (k : Int)) (wr (q : Int)) := by rw [wrN h, wrN hq]; rfl
theorem b_geN (hC : xOK K cc own n rm) {a b : Nat} (ha : a ≤ 1000000) (hb : b ≤ 1000000) {off : Int} {t : Nat} (ht : (pc : Int) + off = (t : Int)) {pc' : Nat} (hp : pc + 3 = pc') (d : decode cc pc = .ok (.if_icmp .ge off, 3)) (k1 : b ≤ a → WB B Ψ cl sl K E t lv st S) (k2 : a < b → WB B Ψ cl sl K E pc' lv st S) : WB B Ψ cl sl K E pc lv (vi (b : Int) :: vi (a : Int) :: st) S :=
  b_icmp_ge hC ht hp d (fun h => k1 ((wle_nn hb ha).mp h)) (fun h => k2 (Nat.lt_of_not_le (fun z => h ((wle_nn hb ha).mpr z))))
theorem b_neN (hC : xOK K cc own n rm) {a b : Nat} (ha : a ≤ 1000000) (hb : b ≤ 1000000) {off : Int} {t : Nat} (ht : (pc : Int) + off = (t : Int)) {pc' : Nat} (hp : pc + 3 = pc') (d : decode cc pc = .ok (.if_icmp .ne off, 3)) (k1 : a ≠ b → WB B Ψ cl sl K E t lv st S) (k2 : a = b → WB B Ψ cl sl K E pc' lv st S) : WB B Ψ cl sl K E pc lv (vi (b : Int) :: vi (a : Int) :: st) S :=
  b_icmp_ne hC ht hp d (fun h => k1 (fun z => h ((weq_nn ha hb).mpr z))) (fun h => k2 ((weq_nn ha hb).mp (Decidable.of_not_not h)))

end WB
