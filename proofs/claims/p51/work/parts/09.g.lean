/-! THE INT LEVEL: stores of Int; a machine int is Int32.ofInt of it. WG K E pc lv st S: the frame at pc, locals lv, stack st, store S, comes to K's end. -/
abbrev xSI : Type := Nat → Nat → Nat → Int
abbrev xSt : Type := (Nat × (Nat → Nat)) × xSI × xP
def gI (S : xSt) (r o k : Nat) : Int := S.2.1 r o k
def gP (S : xSt) (r o k : Nat) : Nat × Nat := S.2.2 r o k
def gk (S : xSt) (r : Nat) : Nat := S.1.2 r
def fu (S : xSt) : Nat := S.1.1
def wA (S : xSt) (r o : Nat) (f : Nat → Int) : xSt := (S.1, (fun r' o' => if r' = r ∧ o' = o then f else S.2.1 r' o'), S.2.2)
def wI (S : xSt) (r o k : Nat) (z : Int) : xSt := wA S r o (fun j => if j = k then z else S.2.1 r o j)
def wP (S : xSt) (r o k : Nat) (q : Nat × Nat) : xSt := (S.1, S.2.1, uP S.2.2 r o k q)
def cpI (f g : Nat → Int) (a b n : Nat) : Nat → Int := fun j => if b ≤ j ∧ j < b + n then f (a + (j - b)) else g j
def tS (σ : xSI) : xS := fun r o k => Int32.ofInt (σ r o k)
def wr (z : Int) : Int := (z + 2147483648) % 4294967296 - 2147483648
def wl (z : Int) : Int := (z + 9223372036854775808) % 18446744073709551616 - 9223372036854775808
def wb (z : Int) : Int := (z + 128) % 256 - 128
def iA (x y : Int) : Int := (Int32.ofInt x &&& Int32.ofInt y).toInt
def iO (x y : Int) : Int := (Int32.ofInt x ||| Int32.ofInt y).toInt
def iSr (x y : Int) : Int := (Int32.ofInt x >>> (Int32.ofInt y &&& 31)).toInt
def iSl (x y : Int) : Int := (Int32.ofInt x <<< (Int32.ofInt y &&& 31)).toInt
def iCh (x : Int) : Int := ((Int32.ofInt x).toUInt32 % 65536).toInt32.toInt
def iC (x y : Int) : Int := if x < y then -1 else if x = y then 0 else 1
theorem wr_toInt (z : Int) : (Int32.ofInt z).toInt = wr z := by
  rw [Int32.toInt_ofInt]
  unfold wr Int.bmod
  simp only [Int32.size]
  split <;> omega
theorem wl_toInt (z : Int) : (Int64.ofInt z).toInt = wl z := by
  rw [Int64.toInt_ofInt]
  unfold wl Int.bmod
  simp only [Int64.size]
  split <;> omega
theorem wr_of (x : Int32) : Int32.ofInt x.toInt = x := Int32.ofInt_toInt x
theorem wr_wr (z : Int) : Int32.ofInt (wr z) = Int32.ofInt z := by rw [← wr_toInt, Int32.ofInt_toInt]
theorem wr_id {z : Int} (h : -2147483648 ≤ z ∧ z < 2147483648) : wr z = z := by unfold wr; omega
theorem wl_id {z : Int} (h : -9223372036854775808 ≤ z ∧ z < 9223372036854775808) : wl z = z := by unfold wl; omega
theorem wr_rg (z : Int) : -2147483648 ≤ wr z ∧ wr z < 2147483648 := by unfold wr; omega
theorem wr2 (z : Int) : wr (wr z) = wr z := wr_id (wr_rg z)
theorem wl_wr (z : Int) : wl (wr z) = wr z := wl_id (by have := wr_rg z; omega)
theorem wb_id {z : Int} (h : -128 ≤ z ∧ z < 128) : wb z = z := by unfold wb; omega
theorem i32_lt (x y : Int) : Int32.ofInt x < Int32.ofInt y ↔ wr x < wr y := by rw [Int32.lt_iff_toInt_lt, wr_toInt, wr_toInt]
theorem i32_le (x y : Int) : Int32.ofInt x ≤ Int32.ofInt y ↔ wr x ≤ wr y := by rw [Int32.le_iff_toInt_le, wr_toInt, wr_toInt]
theorem i32_eq (x y : Int) : Int32.ofInt x = Int32.ofInt y ↔ wr x = wr y := by rw [← Int32.toInt_inj, wr_toInt, wr_toInt]
theorem i32_0 : (0 : Int32) = Int32.ofInt 0 := rfl
theorem i32_nat (z : Int) : (Int32.ofInt z).toNatClampNeg = (wr z).toNat := by rw [← wr_toInt]; rfl
theorem i64_of (z : Int) : (Int32.ofInt z).toInt64 = Int64.ofInt (wr z) := by
  apply Int64.toInt_inj.mp
  rw [Int32.toInt_toInt64, wl_toInt, wl_wr, wr_toInt]
theorem i32_div (x y : Int) : Int32.ofInt x / Int32.ofInt y = Int32.ofInt (Int.tdiv (wr x) (wr y)) := by
  apply Int32.toInt_inj.mp
  rw [Int32.toInt_div, wr_toInt, wr_toInt, Int32.toInt_ofInt]
theorem i32_rem (x y : Int) : Int32.ofInt x - Int32.ofInt x / Int32.ofInt y * Int32.ofInt y = Int32.ofInt (Int.tmod (wr x) (wr y)) := by
  have e1 := wr_wr x
  have e2 := wr_wr y
  rw [i32_div, Int.tmod_def, Int32.ofInt_sub, Int32.ofInt_mul, e1, e2, ← i32_div, Int32.mul_comm]
theorem i32_b (z : Int) : (Int32.ofInt z).toInt8.toInt32 = Int32.ofInt (wb z) := by
  apply Int32.toInt_inj.mp
  rw [Int8.toInt_toInt32, Int32.toInt_toInt8, wr_toInt, wr_toInt]
  unfold wr wb Int.bmod
  dsimp only
  split <;> omega
def vi (z : Int) : Value := .int (Int32.ofInt z)
def vl (z : Int) : Value := .long (Int64.ofInt z)
def vr (E : xE) (r o : Nat) : Value := .ref (xad E r o)
def vs (E : xE) (k : Nat) : Value := .ref (xaK E k)
def vt (E : xE) (k : Nat) : Value := .ref (xts E k)
def vd (x : UInt64) : Value := .double x
def vf (x : UInt32) : Value := .float x
/-! the words of a picture -/
def ckI {β : Type} (i : Int) (n : Nat) (k : Option β) : Option β := if 0 ≤ wr i ∧ wr i < (n : Int) then k else none
def ckZ {β : Type} (y : Int) (k : Option β) : Option β := if wr y = 0 then none else k
def ckB {β : Type} (z : Int) (k : Option β) : Option β := if z = 0 ∨ z = 1 then k else none
def ckR {β : Type} (z : Int) (k : Option β) : Option β := if wr z = z then k else none
def ckP {β : Type} (S : xSt) (r o k d oo : Nat) (f : Nat → Option β) : Option β := if (gP S r o k).2 = oo ∧ gk S (gP S r o k).1 = d then f (gP S r o k).1 else none
def ckC {β : Type} (a b n : Int) (n0 n1 : Nat) (k : Option β) : Option β := if 0 ≤ wr a ∧ 0 ≤ wr b ∧ 0 ≤ wr n ∧ wr a + wr n ≤ (n0 : Int) ∧ wr b + wr n ≤ (n1 : Int) then k else none
def ckK {β : Type} (k n : Nat) (f : Option β) : Option β := if k < n then f else none
def bd {α β : Type} (x : Option α) (f : α → Option β) : Option β := match x with
  | none => none
  | some a => f a
theorem bd_i {α β : Type} {x : Option α} {f : α → Option β} {r : β} (h : bd x f = some r) : ∃ a, x = some a ∧ f a = some r := by
  cases x with
  | none => cases h
  | some a => exact ⟨a, rfl, h⟩
theorem ckI_i {β : Type} {i : Int} {n : Nat} {k : Option β} {r : β} (h : ckI i n k = some r) : (0 ≤ wr i ∧ wr i < (n : Int)) ∧ k = some r := by
  unfold ckI at h; split at h
  · exact ⟨by assumption, h⟩
  · cases h
theorem ckZ_i {β : Type} {y : Int} {k : Option β} {r : β} (h : ckZ y k = some r) : ¬ wr y = 0 ∧ k = some r := by
  unfold ckZ at h; split at h
  · cases h
  · exact ⟨by assumption, h⟩
theorem ckB_i {β : Type} {z : Int} {k : Option β} {r : β} (h : ckB z k = some r) : (z = 0 ∨ z = 1) ∧ k = some r := by
  unfold ckB at h; split at h
  · exact ⟨by assumption, h⟩
  · cases h
theorem ckR_i {β : Type} {z : Int} {k : Option β} {r : β} (h : ckR z k = some r) : wr z = z ∧ k = some r := by
  unfold ckR at h; split at h
  · exact ⟨by assumption, h⟩
  · cases h
theorem ckK_i {β : Type} {k n : Nat} {f : Option β} {r : β} (h : ckK k n f = some r) : k < n ∧ f = some r := by
  unfold ckK at h; split at h
  · exact ⟨by assumption, h⟩
  · cases h
theorem ckP_i {β : Type} {S : xSt} {r o k d oo : Nat} {f : Nat → Option β} {x : β} (h : ckP S r o k d oo f = some x) : ∃ q, gP S r o k = (q, oo) ∧ gk S q = d ∧ f q = some x := by
  unfold ckP at h; split at h
  · rename_i c
    refine ⟨(gP S r o k).1, ?_, c.2, h⟩
    rw [← c.1]
  · cases h
theorem ckC_i {β : Type} {a b n : Int} {n0 n1 : Nat} {k : Option β} {r : β} (h : ckC a b n n0 n1 k = some r) : (0 ≤ wr a ∧ 0 ≤ wr b ∧ 0 ≤ wr n ∧ wr a + wr n ≤ (n0 : Int) ∧ wr b + wr n ≤ (n1 : Int)) ∧ k = some r := by
  unfold ckC at h; split at h
  · exact ⟨by assumption, h⟩
  · cases h
theorem ck_in {i : Int} {n : Nat} (h : 0 ≤ wr i ∧ wr i < (n : Int)) : vp_in (Int32.ofInt i) n := by
  unfold vp_in
  rw [i32_0, i32_lt, i32_nat]
  have e : wr 0 = 0 := by decide
  omega
/-! the world, at the Int level -/
def YW (E : xE) (S : xSt) (U : State) (H : Heap) : Prop := XW E (tS S.2.1) S.2.2 U H ∧ S.1.2 = xkd E
theorem YW_warm {E : xE} {S : xSt} {s U : State} {H : Heap} (hW : s.WarmedH U.vm) (h : YW E S s H) : YW E S U H := ⟨XW_warm hW h.1, h.2⟩
theorem YW_same {E : xE} {S : xSt} {u U : State} {H : Heap} (hv : U.vm = u.vm) (h : YW E S u H) : YW E S U H := ⟨XW_same hv h.1, h.2⟩
theorem YW_back {E : xE} {S S' : xSt} {s t : State} {H H1 : Heap} (h : YW E S s H) (hvm : s.vm.Alike t.vm) (h1 : YW E S' t H1) : YW E S' s H1 := ⟨XW_back h.1 hvm h1.1, h1.2⟩
theorem YW_k {E : xE} {S : xSt} {U : State} {H : Heap} (h : YW E S U H) (r : Nat) : gk S r = xkd E r := by unfold gk; rw [h.2]
theorem tS_u1 (S : xSt) (r o : Nat) (f : Nat → Int) : uR (tS S.2.1) r (u1 (tS S.2.1 r) o (fun j => Int32.ofInt (f j))) = tS (wA S r o f).2.1 := by
  funext r' o' k
  by_cases h : r' = r
  · subst h
    rw [uR_s]
    by_cases h2 : o' = o
    · subst h2
      rw [u1_s]
      show _ = Int32.ofInt ((if r' = r' ∧ o' = o' then f else S.2.1 r' o') k)
      rw [if_pos ⟨rfl, rfl⟩]
    · rw [u1_n h2]
      show _ = Int32.ofInt ((if r' = r' ∧ o' = o then f else S.2.1 r' o') k)
      rw [if_neg (fun z => h2 z.2)]
      rfl
  · rw [uR_n h]
    show _ = Int32.ofInt ((if r' = r ∧ o' = o then f else S.2.1 r' o') k)
    rw [if_neg (fun z => h z.1)]
    rfl
theorem tS_u2 (S : xSt) (r o k : Nat) (z : Int) : uR (tS S.2.1) r (u2 (tS S.2.1 r) o k (Int32.ofInt z)) = tS (wI S r o k z).2.1 := by
  unfold wI
  rw [← tS_u1]
  unfold u2
  congr 2
  funext j
  show (if j = k then _ else _) = _
  split <;> rfl
theorem gI_wA {S : xSt} {r o r' o' k : Nat} {f : Nat → Int} : gI (wA S r o f) r' o' k = if r' = r ∧ o' = o then f k else gI S r' o' k := by
  show (if r' = r ∧ o' = o then f else S.2.1 r' o') k = _
  split <;> rfl
theorem gI_wI {S : xSt} {r o k r' o' k' : Nat} {z : Int} : gI (wI S r o k z) r' o' k' = if r' = r ∧ o' = o ∧ k' = k then z else gI S r' o' k' := by
  unfold wI
  rw [gI_wA]
  by_cases h : r' = r ∧ o' = o
  · obtain ⟨rfl, rfl⟩ := h
    rw [if_pos ⟨rfl, rfl⟩]
    by_cases h2 : k' = k
    · rw [if_pos h2, if_pos ⟨rfl, rfl, h2⟩]
    · rw [if_neg h2, if_neg (fun z => h2 z.2.2)]; rfl
  · rw [if_neg h, if_neg (fun z => h ⟨z.1, z.2.1⟩)]
abbrev xCtx : Type := Program × Launch × Env × Room × State × MethodId × Array Value × List Frame × Method × Code × Nat × Nat × Nat × (State → Prop)
/-- what a walk needs of its frame -/
def xOK (K : xCtx) (cc : ByteArray) (own : String) (n : Nat) (rm : Room) : Prop := match K with
  | (p, l, e, R, s, m, args, below, meth, c, nL, cl, sl, Q) => p.tables.exec = Jvm.exec ∧ c.code = cc ∧ c.maxLocals = n ∧ s.vm.findClass own = some m.cls ∧ (∀ w ∈ xw, w.before args s = true) ∧ meth.locks = false ∧ nL = n ∧ R = rm
def WG (K : xCtx) (E : xE) (pc : Nat) (lv : List (Nat × Value)) (st : List Value) (S : xSt) : Prop := match K with
  | (p, l, e, R, s, m, args, below, meth, c, nL, cl, sl, Q) => ∀ (H : Heap) (locs : List Loc) (ls : Array Slot), YW E S s H → va_S (xA E) s.heap H locs → lv_has ls nL lv → W p l e R s m args below meth c H locs cl sl Q (F0 m pc ls st)
section GR
variable {K : xCtx} {E : xE} {cc : ByteArray} {own : String} {n : Nat} {rm : Room} {pc : Nat} {lv : List (Nat × Value)} {st : List Value} {S : xSt}

theorem g_iconst (hC : xOK K cc own n rm) {z : Int} {pc' : Nat} (hp : pc + 1 = pc') (d : decode cc pc = .ok (.iconst z, 1))
    (k : WG K E pc' lv (vi z :: st) S) : WG K E pc lv (st) S := by
  subst hp
  obtain ⟨p, l, e, R, s, m, args, below, meth, c, nL, cl, sl, Q⟩ := K
  obtain ⟨hx, hb, hml, hown, hts, hlk, rfl, rfl⟩ := hC
  intro H locs ls hY hS hl
  exact lv_iconst hx hb d rfl (k H locs ls hY hS hl)
theorem g_bipush (hC : xOK K cc own n rm) {z : Int} (hz : (Int8.ofInt z).toInt32 = Int32.ofInt z) {pc' : Nat} (hp : pc + 2 = pc') (d : decode cc pc = .ok (.bipush z, 2))
    (k : WG K E pc' lv (vi z :: st) S) : WG K E pc lv (st) S := by
  subst hp
  obtain ⟨p, l, e, R, s, m, args, below, meth, c, nL, cl, sl, Q⟩ := K
  obtain ⟨hx, hb, hml, hown, hts, hlk, rfl, rfl⟩ := hC
  intro H locs ls hY hS hl
  exact lv_bipush hx hb d hz (k H locs ls hY hS hl)
theorem g_sipush (hC : xOK K cc own n rm) {z : Int} (hz : (Int16.ofInt z).toInt32 = Int32.ofInt z) {pc' : Nat} (hp : pc + 3 = pc') (d : decode cc pc = .ok (.sipush z, 3))
    (k : WG K E pc' lv (vi z :: st) S) : WG K E pc lv (st) S := by
  subst hp
  obtain ⟨p, l, e, R, s, m, args, below, meth, c, nL, cl, sl, Q⟩ := K
  obtain ⟨hx, hb, hml, hown, hts, hlk, rfl, rfl⟩ := hC
  intro H locs ls hY hS hl
  exact lv_sipush hx hb d hz (k H locs ls hY hS hl)
theorem g_lconst (hC : xOK K cc own n rm) {f : Fin 2} {z : Int} (hz : Int64.ofNat (f : Nat) = Int64.ofInt z) {pc' : Nat} (hp : pc + 1 = pc') (d : decode cc pc = .ok (.lconst f, 1))
    (k : WG K E pc' lv (vl z :: st) S) : WG K E pc lv (st) S := by
  subst hp
  obtain ⟨p, l, e, R, s, m, args, below, meth, c, nL, cl, sl, Q⟩ := K
  obtain ⟨hx, hb, hml, hown, hts, hlk, rfl, rfl⟩ := hC
  intro H locs ls hY hS hl
  exact lv_lconst hx hb d hz (k H locs ls hY hS hl)
theorem g_ldc2 (hC : xOK K cc own n rm) {i : Nat} {z : Int} (hc : Cond.constantLong own i (Int64.ofInt z) ∈ xw) {pc' : Nat} (hp : pc + 3 = pc') (d : decode cc pc = .ok (.ldc2_w i, 3))
    (k : WG K E pc' lv (vl z :: st) S) : WG K E pc lv (st) S := by
  subst hp
  obtain ⟨p, l, e, R, s, m, args, below, meth, c, nL, cl, sl, Q⟩ := K
  obtain ⟨hx, hb, hml, hown, hts, hlk, rfl, rfl⟩ := hC
  intro H locs ls hY hS hl
  exact lv_ldc2 hx hb hown (hts _ hc) d (k H locs ls hY hS hl)
theorem g_dconst0 (hC : xOK K cc own n rm)  {pc' : Nat} (hp : pc + 1 = pc') (d : decode cc pc = .ok (.dconst 0, 1))
    (k : WG K E pc' lv (vd 0 :: st) S) : WG K E pc lv (st) S := by
  subst hp
  obtain ⟨p, l, e, R, s, m, args, below, meth, c, nL, cl, sl, Q⟩ := K
  obtain ⟨hx, hb, hml, hown, hts, hlk, rfl, rfl⟩ := hC
  intro H locs ls hY hS hl
  exact lv_dconst0 hx hb d (k H locs ls hY hS hl)
theorem g_fconst0 (hC : xOK K cc own n rm)  {pc' : Nat} (hp : pc + 1 = pc') (d : decode cc pc = .ok (.fconst 0, 1))
    (k : WG K E pc' lv (vf 0 :: st) S) : WG K E pc lv (st) S := by
  subst hp
  obtain ⟨p, l, e, R, s, m, args, below, meth, c, nL, cl, sl, Q⟩ := K
  obtain ⟨hx, hb, hml, hown, hts, hlk, rfl, rfl⟩ := hC
  intro H locs ls hY hS hl
  exact lv_fconst0 hx hb d (k H locs ls hY hS hl)
theorem g_iload_n (hC : xOK K cc own n rm) {f : Fin 4} {i : Nat} (hi : (f : Nat) = i) (j : Nat) {x : Int} (hj : lv[j]? = some (i, vi x)) {pc' : Nat} (hp : pc + 1 = pc') (d : decode cc pc = .ok (.iload_n f, 1))
    (k : WG K E pc' lv (vi x :: st) S) : WG K E pc lv (st) S := by
  subst hp
  obtain ⟨p, l, e, R, s, m, args, below, meth, c, nL, cl, sl, Q⟩ := K
  obtain ⟨hx, hb, hml, hown, hts, hlk, rfl, rfl⟩ := hC
  intro H locs ls hY hS hl
  exact lv_iload_n hx hb d hi (lv_at hl j hj) (k H locs ls hY hS hl)
theorem g_iload (hC : xOK K cc own n rm) {i : Nat} (j : Nat) {x : Int} (hj : lv[j]? = some (i, vi x)) {pc' : Nat} (hp : pc + 2 = pc') (d : decode cc pc = .ok (.iload i, 2))
    (k : WG K E pc' lv (vi x :: st) S) : WG K E pc lv (st) S := by
  subst hp
  obtain ⟨p, l, e, R, s, m, args, below, meth, c, nL, cl, sl, Q⟩ := K
  obtain ⟨hx, hb, hml, hown, hts, hlk, rfl, rfl⟩ := hC
  intro H locs ls hY hS hl
  exact lv_iload hx hb d (lv_at hl j hj) (k H locs ls hY hS hl)
theorem g_lload_n (hC : xOK K cc own n rm) {f : Fin 4} {i : Nat} (hi : (f : Nat) = i) (j : Nat) {x : Int} (hj : lv[j]? = some (i, vl x)) {pc' : Nat} (hp : pc + 1 = pc') (d : decode cc pc = .ok (.lload_n f, 1))
    (k : WG K E pc' lv (vl x :: st) S) : WG K E pc lv (st) S := by
  subst hp
  obtain ⟨p, l, e, R, s, m, args, below, meth, c, nL, cl, sl, Q⟩ := K
  obtain ⟨hx, hb, hml, hown, hts, hlk, rfl, rfl⟩ := hC
  intro H locs ls hY hS hl
  exact lv_lload_n hx hb d hi (lv_at hl j hj) (k H locs ls hY hS hl)
theorem g_lload (hC : xOK K cc own n rm) {i : Nat} (j : Nat) {x : Int} (hj : lv[j]? = some (i, vl x)) {pc' : Nat} (hp : pc + 2 = pc') (d : decode cc pc = .ok (.lload i, 2))
    (k : WG K E pc' lv (vl x :: st) S) : WG K E pc lv (st) S := by
  subst hp
  obtain ⟨p, l, e, R, s, m, args, below, meth, c, nL, cl, sl, Q⟩ := K
  obtain ⟨hx, hb, hml, hown, hts, hlk, rfl, rfl⟩ := hC
  intro H locs ls hY hS hl
  exact lv_lload hx hb d (lv_at hl j hj) (k H locs ls hY hS hl)
theorem g_dload_n (hC : xOK K cc own n rm) {f : Fin 4} {i : Nat} (hi : (f : Nat) = i) (j : Nat) {x : UInt64} (hj : lv[j]? = some (i, vd x)) {pc' : Nat} (hp : pc + 1 = pc') (d : decode cc pc = .ok (.dload_n f, 1))
    (k : WG K E pc' lv (vd x :: st) S) : WG K E pc lv (st) S := by
  subst hp
  obtain ⟨p, l, e, R, s, m, args, below, meth, c, nL, cl, sl, Q⟩ := K
  obtain ⟨hx, hb, hml, hown, hts, hlk, rfl, rfl⟩ := hC
  intro H locs ls hY hS hl
  exact lv_dload_n hx hb d hi (lv_at hl j hj) (k H locs ls hY hS hl)
theorem g_dload (hC : xOK K cc own n rm) {i : Nat} (j : Nat) {x : UInt64} (hj : lv[j]? = some (i, vd x)) {pc' : Nat} (hp : pc + 2 = pc') (d : decode cc pc = .ok (.dload i, 2))
    (k : WG K E pc' lv (vd x :: st) S) : WG K E pc lv (st) S := by
  subst hp
  obtain ⟨p, l, e, R, s, m, args, below, meth, c, nL, cl, sl, Q⟩ := K
  obtain ⟨hx, hb, hml, hown, hts, hlk, rfl, rfl⟩ := hC
  intro H locs ls hY hS hl
  exact lv_dload hx hb d (lv_at hl j hj) (k H locs ls hY hS hl)
theorem g_aload_n (hC : xOK K cc own n rm) {f : Fin 4} {i : Nat} (hi : (f : Nat) = i) (j : Nat) {a : Nat} (hj : lv[j]? = some (i, .ref a)) {pc' : Nat} (hp : pc + 1 = pc') (d : decode cc pc = .ok (.aload_n f, 1))
    (k : WG K E pc' lv (.ref a :: st) S) : WG K E pc lv (st) S := by
  subst hp
  obtain ⟨p, l, e, R, s, m, args, below, meth, c, nL, cl, sl, Q⟩ := K
  obtain ⟨hx, hb, hml, hown, hts, hlk, rfl, rfl⟩ := hC
  intro H locs ls hY hS hl
  exact lv_aload_n hx hb d hi (lv_at hl j hj) (k H locs ls hY hS hl)
theorem g_aload (hC : xOK K cc own n rm) {i : Nat} (j : Nat) {a : Nat} (hj : lv[j]? = some (i, .ref a)) {pc' : Nat} (hp : pc + 2 = pc') (d : decode cc pc = .ok (.aload i, 2))
    (k : WG K E pc' lv (.ref a :: st) S) : WG K E pc lv (st) S := by
  subst hp
  obtain ⟨p, l, e, R, s, m, args, below, meth, c, nL, cl, sl, Q⟩ := K
  obtain ⟨hx, hb, hml, hown, hts, hlk, rfl, rfl⟩ := hC
  intro H locs ls hY hS hl
  exact lv_aload hx hb d (lv_at hl j hj) (k H locs ls hY hS hl)
theorem g_istore_n (hC : xOK K cc own n rm) {f : Fin 4} {i : Nat} (hi : (f : Nat) = i) {x : Int} (hn : i < n) {lv' : List (Nat × Value)} (hl' : (i, vi x) :: lv.filter (fun q => !(q.1 == i) && !(q.1 + 1 == i && q.2.category == 2)) = lv') {pc' : Nat} (hp : pc + 1 = pc') (d : decode cc pc = .ok (.istore_n f, 1))
    (k : WG K E pc' lv' st S) : WG K E pc lv (vi x :: st) S := by
  subst hp
  obtain ⟨p, l, e, R, s, m, args, below, meth, c, nL, cl, sl, Q⟩ := K
  obtain ⟨hx, hb, hml, hown, hts, hlk, rfl, rfl⟩ := hC
  intro H locs ls hY hS hl
  exact lv_istore_n hx hb d hi hl hn hl' (fun ls' h' => k H locs ls' hY hS h')
theorem g_istore (hC : xOK K cc own n rm)  {i : Nat}  {x : Int} (hn : i < n) {lv' : List (Nat × Value)} (hl' : (i, vi x) :: lv.filter (fun q => !(q.1 == i) && !(q.1 + 1 == i && q.2.category == 2)) = lv') {pc' : Nat} (hp : pc + 2 = pc') (d : decode cc pc = .ok (.istore i, 2))
    (k : WG K E pc' lv' st S) : WG K E pc lv (vi x :: st) S := by
  subst hp
  obtain ⟨p, l, e, R, s, m, args, below, meth, c, nL, cl, sl, Q⟩ := K
  obtain ⟨hx, hb, hml, hown, hts, hlk, rfl, rfl⟩ := hC
  intro H locs ls hY hS hl
  exact lv_istore hx hb d hl hn hl' (fun ls' h' => k H locs ls' hY hS h')
theorem g_lstore_n (hC : xOK K cc own n rm) {f : Fin 4} {i : Nat} (hi : (f : Nat) = i) {x : Int} (hn : i + 1 < n) {lv' : List (Nat × Value)} (hl' : (i, vl x) :: lv.filter (fun q => !(q.1 == i) && (!(q.1 == i + 1) && !(q.1 + 1 == i && q.2.category == 2))) = lv') {pc' : Nat} (hp : pc + 1 = pc') (d : decode cc pc = .ok (.lstore_n f, 1))
    (k : WG K E pc' lv' st S) : WG K E pc lv (vl x :: st) S := by
  subst hp
  obtain ⟨p, l, e, R, s, m, args, below, meth, c, nL, cl, sl, Q⟩ := K
  obtain ⟨hx, hb, hml, hown, hts, hlk, rfl, rfl⟩ := hC
  intro H locs ls hY hS hl
  exact lv_lstore_n hx hb d hi hl hn hl' (fun ls' h' => k H locs ls' hY hS h')
theorem g_lstore (hC : xOK K cc own n rm)  {i : Nat}  {x : Int} (hn : i + 1 < n) {lv' : List (Nat × Value)} (hl' : (i, vl x) :: lv.filter (fun q => !(q.1 == i) && (!(q.1 == i + 1) && !(q.1 + 1 == i && q.2.category == 2))) = lv') {pc' : Nat} (hp : pc + 2 = pc') (d : decode cc pc = .ok (.lstore i, 2))
    (k : WG K E pc' lv' st S) : WG K E pc lv (vl x :: st) S := by
  subst hp
  obtain ⟨p, l, e, R, s, m, args, below, meth, c, nL, cl, sl, Q⟩ := K
  obtain ⟨hx, hb, hml, hown, hts, hlk, rfl, rfl⟩ := hC
  intro H locs ls hY hS hl
  exact lv_lstore hx hb d hl hn hl' (fun ls' h' => k H locs ls' hY hS h')
theorem g_dstore_n (hC : xOK K cc own n rm) {f : Fin 4} {i : Nat} (hi : (f : Nat) = i) {x : UInt64} (hn : i + 1 < n) {lv' : List (Nat × Value)} (hl' : (i, vd x) :: lv.filter (fun q => !(q.1 == i) && (!(q.1 == i + 1) && !(q.1 + 1 == i && q.2.category == 2))) = lv') {pc' : Nat} (hp : pc + 1 = pc') (d : decode cc pc = .ok (.dstore_n f, 1))
    (k : WG K E pc' lv' st S) : WG K E pc lv (vd x :: st) S := by
  subst hp
  obtain ⟨p, l, e, R, s, m, args, below, meth, c, nL, cl, sl, Q⟩ := K
  obtain ⟨hx, hb, hml, hown, hts, hlk, rfl, rfl⟩ := hC
  intro H locs ls hY hS hl
  exact lv_dstore_n hx hb d hi hl hn hl' (fun ls' h' => k H locs ls' hY hS h')
theorem g_dstore (hC : xOK K cc own n rm)  {i : Nat}  {x : UInt64} (hn : i + 1 < n) {lv' : List (Nat × Value)} (hl' : (i, vd x) :: lv.filter (fun q => !(q.1 == i) && (!(q.1 == i + 1) && !(q.1 + 1 == i && q.2.category == 2))) = lv') {pc' : Nat} (hp : pc + 2 = pc') (d : decode cc pc = .ok (.dstore i, 2))
    (k : WG K E pc' lv' st S) : WG K E pc lv (vd x :: st) S := by
  subst hp
  obtain ⟨p, l, e, R, s, m, args, below, meth, c, nL, cl, sl, Q⟩ := K
  obtain ⟨hx, hb, hml, hown, hts, hlk, rfl, rfl⟩ := hC
  intro H locs ls hY hS hl
  exact lv_dstore hx hb d hl hn hl' (fun ls' h' => k H locs ls' hY hS h')
theorem g_astore_n (hC : xOK K cc own n rm) {f : Fin 4} {i : Nat} (hi : (f : Nat) = i) {x : Nat} (hn : i < n) {lv' : List (Nat × Value)} (hl' : (i, Value.ref x) :: lv.filter (fun q => !(q.1 == i) && !(q.1 + 1 == i && q.2.category == 2)) = lv') {pc' : Nat} (hp : pc + 1 = pc') (d : decode cc pc = .ok (.astore_n f, 1))
    (k : WG K E pc' lv' st S) : WG K E pc lv (Value.ref x :: st) S := by
  subst hp
  obtain ⟨p, l, e, R, s, m, args, below, meth, c, nL, cl, sl, Q⟩ := K
  obtain ⟨hx, hb, hml, hown, hts, hlk, rfl, rfl⟩ := hC
  intro H locs ls hY hS hl
  exact lv_astore_n hx hb d hi hl hn hl' (fun ls' h' => k H locs ls' hY hS h')
theorem g_astore (hC : xOK K cc own n rm)  {i : Nat}  {x : Nat} (hn : i < n) {lv' : List (Nat × Value)} (hl' : (i, Value.ref x) :: lv.filter (fun q => !(q.1 == i) && !(q.1 + 1 == i && q.2.category == 2)) = lv') {pc' : Nat} (hp : pc + 2 = pc') (d : decode cc pc = .ok (.astore i, 2))
    (k : WG K E pc' lv' st S) : WG K E pc lv (Value.ref x :: st) S := by
  subst hp
  obtain ⟨p, l, e, R, s, m, args, below, meth, c, nL, cl, sl, Q⟩ := K
  obtain ⟨hx, hb, hml, hown, hts, hlk, rfl, rfl⟩ := hC
  intro H locs ls hY hS hl
  exact lv_astore hx hb d hl hn hl' (fun ls' h' => k H locs ls' hY hS h')
theorem g_iinc (hC : xOK K cc own n rm) {i : Nat} {z : Int} (j : Nat) {x : Int} (hj : lv[j]? = some (i, vi x)) (hn : i < n) {lv' : List (Nat × Value)} (hl' : (i, vi (x + z)) :: lv.filter (fun q => !(q.1 == i) && !(q.1 + 1 == i && q.2.category == 2)) = lv') {pc' : Nat} (hp : pc + 3 = pc') (d : decode cc pc = .ok (.iinc i z, 3))
    (k : WG K E pc' lv' st S) : WG K E pc lv st S := by
  subst hp
  obtain ⟨p, l, e, R, s, m, args, below, meth, c, nL, cl, sl, Q⟩ := K
  obtain ⟨hx, hb, hml, hown, hts, hlk, rfl, rfl⟩ := hC
  intro H locs ls hY hS hl
  exact lv_iinc hx hb d hl hj (v := Int32.ofInt (x + z)) (by rw [Int32.ofInt_add]) hn hl' (fun ls' h' => k H locs ls' hY hS h')
theorem g_iadd (hC : xOK K cc own n rm) {x y : Int} {pc' : Nat} (hp : pc + 1 = pc') (d : decode cc pc = .ok (.iadd, 1))
    (k : WG K E pc' lv (vi (x + y) :: st) S) : WG K E pc lv (vi y :: vi x :: st) S := by
  subst hp
  obtain ⟨p, l, e, R, s, m, args, below, meth, c, nL, cl, sl, Q⟩ := K
  obtain ⟨hx, hb, hml, hown, hts, hlk, rfl, rfl⟩ := hC
  intro H locs ls hY hS hl
  have k := k H locs ls hY hS hl
  unfold vi at k
  rw [Int32.ofInt_add] at k
  exact lv_iadd hx hb d k
theorem g_isub (hC : xOK K cc own n rm) {x y : Int} {pc' : Nat} (hp : pc + 1 = pc') (d : decode cc pc = .ok (.isub, 1))
    (k : WG K E pc' lv (vi (x - y) :: st) S) : WG K E pc lv (vi y :: vi x :: st) S := by
  subst hp
  obtain ⟨p, l, e, R, s, m, args, below, meth, c, nL, cl, sl, Q⟩ := K
  obtain ⟨hx, hb, hml, hown, hts, hlk, rfl, rfl⟩ := hC
  intro H locs ls hY hS hl
  have k := k H locs ls hY hS hl
  unfold vi at k
  rw [Int32.ofInt_sub] at k
  exact lv_isub hx hb d k
theorem g_imul (hC : xOK K cc own n rm) {x y : Int} {pc' : Nat} (hp : pc + 1 = pc') (d : decode cc pc = .ok (.imul, 1))
    (k : WG K E pc' lv (vi (x * y) :: st) S) : WG K E pc lv (vi y :: vi x :: st) S := by
  subst hp
  obtain ⟨p, l, e, R, s, m, args, below, meth, c, nL, cl, sl, Q⟩ := K
  obtain ⟨hx, hb, hml, hown, hts, hlk, rfl, rfl⟩ := hC
  intro H locs ls hY hS hl
  have k := k H locs ls hY hS hl
  unfold vi at k
  rw [Int32.ofInt_mul] at k
  exact lv_imul hx hb d k
theorem g_iand (hC : xOK K cc own n rm) {x y : Int} {pc' : Nat} (hp : pc + 1 = pc') (d : decode cc pc = .ok (.iand, 1))
    (k : WG K E pc' lv (vi (iA x y) :: st) S) : WG K E pc lv (vi y :: vi x :: st) S := by
  subst hp
  obtain ⟨p, l, e, R, s, m, args, below, meth, c, nL, cl, sl, Q⟩ := K
  obtain ⟨hx, hb, hml, hown, hts, hlk, rfl, rfl⟩ := hC
  intro H locs ls hY hS hl
  have k := k H locs ls hY hS hl
  unfold vi iA at k
  rw [Int32.ofInt_toInt] at k
  exact lv_iand hx hb d k
theorem g_ior (hC : xOK K cc own n rm) {x y : Int} {pc' : Nat} (hp : pc + 1 = pc') (d : decode cc pc = .ok (.ior, 1))
    (k : WG K E pc' lv (vi (iO x y) :: st) S) : WG K E pc lv (vi y :: vi x :: st) S := by
  subst hp
  obtain ⟨p, l, e, R, s, m, args, below, meth, c, nL, cl, sl, Q⟩ := K
  obtain ⟨hx, hb, hml, hown, hts, hlk, rfl, rfl⟩ := hC
  intro H locs ls hY hS hl
  have k := k H locs ls hY hS hl
  unfold vi iO at k
  rw [Int32.ofInt_toInt] at k
  exact lv_ior hx hb d k
theorem g_ishr (hC : xOK K cc own n rm) {x y : Int} {pc' : Nat} (hp : pc + 1 = pc') (d : decode cc pc = .ok (.ishr, 1))
    (k : WG K E pc' lv (vi (iSr x y) :: st) S) : WG K E pc lv (vi y :: vi x :: st) S := by
  subst hp
  obtain ⟨p, l, e, R, s, m, args, below, meth, c, nL, cl, sl, Q⟩ := K
  obtain ⟨hx, hb, hml, hown, hts, hlk, rfl, rfl⟩ := hC
  intro H locs ls hY hS hl
  have k := k H locs ls hY hS hl
  unfold vi iSr at k
  rw [Int32.ofInt_toInt] at k
  exact lv_ishr hx hb d k
theorem g_ishl (hC : xOK K cc own n rm) {x y : Int} {pc' : Nat} (hp : pc + 1 = pc') (d : decode cc pc = .ok (.ishl, 1))
    (k : WG K E pc' lv (vi (iSl x y) :: st) S) : WG K E pc lv (vi y :: vi x :: st) S := by
  subst hp
  obtain ⟨p, l, e, R, s, m, args, below, meth, c, nL, cl, sl, Q⟩ := K
  obtain ⟨hx, hb, hml, hown, hts, hlk, rfl, rfl⟩ := hC
  intro H locs ls hY hS hl
  have k := k H locs ls hY hS hl
  unfold vi iSl at k
  rw [Int32.ofInt_toInt] at k
  exact lv_ishl hx hb d k
theorem g_ineg (hC : xOK K cc own n rm) {x : Int} {pc' : Nat} (hp : pc + 1 = pc') (d : decode cc pc = .ok (.ineg, 1))
    (k : WG K E pc' lv (vi (-x) :: st) S) : WG K E pc lv (vi x :: st) S := by
  subst hp
  obtain ⟨p, l, e, R, s, m, args, below, meth, c, nL, cl, sl, Q⟩ := K
  obtain ⟨hx, hb, hml, hown, hts, hlk, rfl, rfl⟩ := hC
  intro H locs ls hY hS hl
  have k := k H locs ls hY hS hl
  unfold vi at k
  rw [Int32.ofInt_neg] at k
  exact lv_ineg hx hb d k
theorem g_idiv (hC : xOK K cc own n rm) {x y : Int} (h0 : ¬ wr y = 0) {pc' : Nat} (hp : pc + 1 = pc') (d : decode cc pc = .ok (.idiv, 1))
    (k : WG K E pc' lv (vi (Int.tdiv (wr x) (wr y)) :: st) S) : WG K E pc lv (vi y :: vi x :: st) S := by
  subst hp
  obtain ⟨p, l, e, R, s, m, args, below, meth, c, nL, cl, sl, Q⟩ := K
  obtain ⟨hx, hb, hml, hown, hts, hlk, rfl, rfl⟩ := hC
  intro H locs ls hY hS hl
  have k := k H locs ls hY hS hl
  unfold vi at k
  rw [← i32_div] at k
  exact lv_idiv hx hb d (fun h => h0 (by rw [i32_0, i32_eq] at h; rw [h]; decide)) k
theorem g_irem (hC : xOK K cc own n rm) {x y : Int} (h0 : ¬ wr y = 0) {pc' : Nat} (hp : pc + 1 = pc') (d : decode cc pc = .ok (.irem, 1))
    (k : WG K E pc' lv (vi (Int.tmod (wr x) (wr y)) :: st) S) : WG K E pc lv (vi y :: vi x :: st) S := by
  subst hp
  obtain ⟨p, l, e, R, s, m, args, below, meth, c, nL, cl, sl, Q⟩ := K
  obtain ⟨hx, hb, hml, hown, hts, hlk, rfl, rfl⟩ := hC
  intro H locs ls hY hS hl
  have k := k H locs ls hY hS hl
  unfold vi at k
  rw [← i32_rem] at k
  exact lv_irem hx hb d (fun h => h0 (by rw [i32_0, i32_eq] at h; rw [h]; decide)) k
theorem g_lsub (hC : xOK K cc own n rm) {x y : Int} {pc' : Nat} (hp : pc + 1 = pc') (d : decode cc pc = .ok (.lsub, 1))
    (k : WG K E pc' lv (vl (x - y) :: st) S) : WG K E pc lv (vl y :: vl x :: st) S := by
  subst hp
  obtain ⟨p, l, e, R, s, m, args, below, meth, c, nL, cl, sl, Q⟩ := K
  obtain ⟨hx, hb, hml, hown, hts, hlk, rfl, rfl⟩ := hC
  intro H locs ls hY hS hl
  have k := k H locs ls hY hS hl
  unfold vl at k
  rw [Int64.ofInt_sub] at k
  exact lv_lsub hx hb d k
theorem g_i2l (hC : xOK K cc own n rm) {x : Int} {pc' : Nat} (hp : pc + 1 = pc') (d : decode cc pc = .ok (.i2l, 1))
    (k : WG K E pc' lv (vl (wr x) :: st) S) : WG K E pc lv (vi x :: st) S := by
  subst hp
  obtain ⟨p, l, e, R, s, m, args, below, meth, c, nL, cl, sl, Q⟩ := K
  obtain ⟨hx, hb, hml, hown, hts, hlk, rfl, rfl⟩ := hC
  intro H locs ls hY hS hl
  exact lv_i2l hx hb d (i64_of x) (k H locs ls hY hS hl)
theorem g_i2b (hC : xOK K cc own n rm) {x : Int} {pc' : Nat} (hp : pc + 1 = pc') (d : decode cc pc = .ok (.i2b, 1))
    (k : WG K E pc' lv (vi (wb x) :: st) S) : WG K E pc lv (vi x :: st) S := by
  subst hp
  obtain ⟨p, l, e, R, s, m, args, below, meth, c, nL, cl, sl, Q⟩ := K
  obtain ⟨hx, hb, hml, hown, hts, hlk, rfl, rfl⟩ := hC
  intro H locs ls hY hS hl
  exact lv_i2b hx hb d (i32_b x) (k H locs ls hY hS hl)
theorem g_i2d (hC : xOK K cc own n rm) {x : Int} {pc' : Nat} (hp : pc + 1 = pc') (d : decode cc pc = .ok (.i2d, 1))
    (k : WG K E pc' lv (vd (FP.i2d (Int32.ofInt x)) :: st) S) : WG K E pc lv (vi x :: st) S := by
  subst hp
  obtain ⟨p, l, e, R, s, m, args, below, meth, c, nL, cl, sl, Q⟩ := K
  obtain ⟨hx, hb, hml, hown, hts, hlk, rfl, rfl⟩ := hC
  intro H locs ls hY hS hl
  exact lv_i2d hx hb d (k H locs ls hY hS hl)
theorem g_i2f (hC : xOK K cc own n rm) {x : Int} {pc' : Nat} (hp : pc + 1 = pc') (d : decode cc pc = .ok (.i2f, 1))
    (k : WG K E pc' lv (vf (FP.i2f (Int32.ofInt x)) :: st) S) : WG K E pc lv (vi x :: st) S := by
  subst hp
  obtain ⟨p, l, e, R, s, m, args, below, meth, c, nL, cl, sl, Q⟩ := K
  obtain ⟨hx, hb, hml, hown, hts, hlk, rfl, rfl⟩ := hC
  intro H locs ls hY hS hl
  exact lv_i2f hx hb d (k H locs ls hY hS hl)
theorem g_dup (hC : xOK K cc own n rm) {v : Value} (hv : v.category = 1) {pc' : Nat} (hp : pc + 1 = pc') (d : decode cc pc = .ok (.dup, 1))
    (k : WG K E pc' lv (v :: v :: st) S) : WG K E pc lv (v :: st) S := by
  subst hp
  obtain ⟨p, l, e, R, s, m, args, below, meth, c, nL, cl, sl, Q⟩ := K
  obtain ⟨hx, hb, hml, hown, hts, hlk, rfl, rfl⟩ := hC
  intro H locs ls hY hS hl
  exact lv_dup hx hb d hv (k H locs ls hY hS hl)
theorem g_pop (hC : xOK K cc own n rm) {v : Value} (hv : v.category = 1) {pc' : Nat} (hp : pc + 1 = pc') (d : decode cc pc = .ok (.pop, 1))
    (k : WG K E pc' lv (st) S) : WG K E pc lv (v :: st) S := by
  subst hp
  obtain ⟨p, l, e, R, s, m, args, below, meth, c, nL, cl, sl, Q⟩ := K
  obtain ⟨hx, hb, hml, hown, hts, hlk, rfl, rfl⟩ := hC
  intro H locs ls hY hS hl
  exact lv_pop hx hb d hv (k H locs ls hY hS hl)
theorem g_dup2 (hC : xOK K cc own n rm) {v w : Value} (hv : v.category = 1) (hw : w.category = 1) {pc' : Nat} (hp : pc + 1 = pc') (d : decode cc pc = .ok (.dup2, 1))
    (k : WG K E pc' lv (v :: w :: v :: w :: st) S) : WG K E pc lv (v :: w :: st) S := by
  subst hp
  obtain ⟨p, l, e, R, s, m, args, below, meth, c, nL, cl, sl, Q⟩ := K
  obtain ⟨hx, hb, hml, hown, hts, hlk, rfl, rfl⟩ := hC
  intro H locs ls hY hS hl
  exact lv_dup2_11 hx hb d hv hw (k H locs ls hY hS hl)
theorem g_icmp_eq (hC : xOK K cc own n rm) {x y : Int} {off : Int} {tgt : Nat} (ht : (pc : Int) + off = (tgt : Int)) {pc' : Nat} (hp : pc + 3 = pc') (d : decode cc pc = .ok (.if_icmp .eq off, 3))
    (kt : wr x = wr y → WG K E tgt lv st S) (kf : ¬ (wr x = wr y) → WG K E pc' lv st S) : WG K E pc lv (vi y :: vi x :: st) S := by
  subst hp
  obtain ⟨p, l, e, R, s, m, args, below, meth, c, nL, cl, sl, Q⟩ := K
  obtain ⟨hx, hb, hml, hown, hts, hlk, rfl, rfl⟩ := hC
  intro H locs ls hY hS hl
  refine lv_icmp_eq hx hb d ht (fun h => kt ?_ H locs ls hY hS hl) (fun h => kf ?_ H locs ls hY hS hl)
  · first | exact (i32_eq _ _).mp h | exact fun z => h ((i32_eq _ _).mpr z)
  · first | exact fun z => h ((i32_eq _ _).mpr z) | exact fun z => z ((i32_eq _ _).mp (Decidable.not_not.mp h)) | exact fun z => z ((i32_eq _ _).mp h)
theorem g_if_eq (hC : xOK K cc own n rm) {x : Int} {off : Int} {tgt : Nat} (ht : (pc : Int) + off = (tgt : Int)) {pc' : Nat} (hp : pc + 3 = pc') (d : decode cc pc = .ok (.ifCond .eq off, 3))
    (kt : wr x = 0 → WG K E tgt lv st S) (kf : ¬ (wr x = 0) → WG K E pc' lv st S) : WG K E pc lv (vi x :: st) S := by
  subst hp
  obtain ⟨p, l, e, R, s, m, args, below, meth, c, nL, cl, sl, Q⟩ := K
  obtain ⟨hx, hb, hml, hown, hts, hlk, rfl, rfl⟩ := hC
  intro H locs ls hY hS hl
  have e0 : wr 0 = 0 := by decide
  rw [← e0] at kt kf
  refine lv_if_eq hx hb d ht (fun h => kt ?_ H locs ls hY hS hl) (fun h => kf ?_ H locs ls hY hS hl)
  · rw [i32_0] at h; first | exact (i32_eq _ _).mp h | exact fun z => h ((i32_eq _ _).mpr z)
  · rw [i32_0] at h; first | exact fun z => h ((i32_eq _ _).mpr z) | exact fun z => z ((i32_eq _ _).mp (Decidable.not_not.mp h)) | exact fun z => z ((i32_eq _ _).mp h)
theorem g_icmp_ne (hC : xOK K cc own n rm) {x y : Int} {off : Int} {tgt : Nat} (ht : (pc : Int) + off = (tgt : Int)) {pc' : Nat} (hp : pc + 3 = pc') (d : decode cc pc = .ok (.if_icmp .ne off, 3))
    (kt : ¬ wr x = wr y → WG K E tgt lv st S) (kf : ¬ (¬ wr x = wr y) → WG K E pc' lv st S) : WG K E pc lv (vi y :: vi x :: st) S := by
  subst hp
  obtain ⟨p, l, e, R, s, m, args, below, meth, c, nL, cl, sl, Q⟩ := K
  obtain ⟨hx, hb, hml, hown, hts, hlk, rfl, rfl⟩ := hC
  intro H locs ls hY hS hl
  refine lv_icmp_ne hx hb d ht (fun h => kt ?_ H locs ls hY hS hl) (fun h => kf ?_ H locs ls hY hS hl)
  · first | exact (i32_eq _ _).mp h | exact fun z => h ((i32_eq _ _).mpr z)
  · first | exact fun z => h ((i32_eq _ _).mpr z) | exact fun z => z ((i32_eq _ _).mp (Decidable.not_not.mp h)) | exact fun z => z ((i32_eq _ _).mp h)
theorem g_if_ne (hC : xOK K cc own n rm) {x : Int} {off : Int} {tgt : Nat} (ht : (pc : Int) + off = (tgt : Int)) {pc' : Nat} (hp : pc + 3 = pc') (d : decode cc pc = .ok (.ifCond .ne off, 3))
    (kt : ¬ wr x = 0 → WG K E tgt lv st S) (kf : ¬ (¬ wr x = 0) → WG K E pc' lv st S) : WG K E pc lv (vi x :: st) S := by
  subst hp
  obtain ⟨p, l, e, R, s, m, args, below, meth, c, nL, cl, sl, Q⟩ := K
  obtain ⟨hx, hb, hml, hown, hts, hlk, rfl, rfl⟩ := hC
  intro H locs ls hY hS hl
  have e0 : wr 0 = 0 := by decide
  rw [← e0] at kt kf
  refine lv_if_ne hx hb d ht (fun h => kt ?_ H locs ls hY hS hl) (fun h => kf ?_ H locs ls hY hS hl)
  · rw [i32_0] at h; first | exact (i32_eq _ _).mp h | exact fun z => h ((i32_eq _ _).mpr z)
  · rw [i32_0] at h; first | exact fun z => h ((i32_eq _ _).mpr z) | exact fun z => z ((i32_eq _ _).mp (Decidable.not_not.mp h)) | exact fun z => z ((i32_eq _ _).mp h)
theorem g_icmp_lt (hC : xOK K cc own n rm) {x y : Int} {off : Int} {tgt : Nat} (ht : (pc : Int) + off = (tgt : Int)) {pc' : Nat} (hp : pc + 3 = pc') (d : decode cc pc = .ok (.if_icmp .lt off, 3))
    (kt : wr x < wr y → WG K E tgt lv st S) (kf : ¬ (wr x < wr y) → WG K E pc' lv st S) : WG K E pc lv (vi y :: vi x :: st) S := by
  subst hp
  obtain ⟨p, l, e, R, s, m, args, below, meth, c, nL, cl, sl, Q⟩ := K
  obtain ⟨hx, hb, hml, hown, hts, hlk, rfl, rfl⟩ := hC
  intro H locs ls hY hS hl
  refine lv_icmp_lt hx hb d ht (fun h => kt ?_ H locs ls hY hS hl) (fun h => kf ?_ H locs ls hY hS hl)
  · first | exact (i32_lt _ _).mp h | exact fun z => h ((i32_lt _ _).mpr z)
  · first | exact fun z => h ((i32_lt _ _).mpr z) | exact fun z => z ((i32_lt _ _).mp (Decidable.not_not.mp h)) | exact fun z => z ((i32_lt _ _).mp h)
theorem g_if_lt (hC : xOK K cc own n rm) {x : Int} {off : Int} {tgt : Nat} (ht : (pc : Int) + off = (tgt : Int)) {pc' : Nat} (hp : pc + 3 = pc') (d : decode cc pc = .ok (.ifCond .lt off, 3))
    (kt : wr x < 0 → WG K E tgt lv st S) (kf : ¬ (wr x < 0) → WG K E pc' lv st S) : WG K E pc lv (vi x :: st) S := by
  subst hp
  obtain ⟨p, l, e, R, s, m, args, below, meth, c, nL, cl, sl, Q⟩ := K
  obtain ⟨hx, hb, hml, hown, hts, hlk, rfl, rfl⟩ := hC
  intro H locs ls hY hS hl
  have e0 : wr 0 = 0 := by decide
  rw [← e0] at kt kf
  refine lv_if_lt hx hb d ht (fun h => kt ?_ H locs ls hY hS hl) (fun h => kf ?_ H locs ls hY hS hl)
  · rw [i32_0] at h; first | exact (i32_lt _ _).mp h | exact fun z => h ((i32_lt _ _).mpr z)
  · rw [i32_0] at h; first | exact fun z => h ((i32_lt _ _).mpr z) | exact fun z => z ((i32_lt _ _).mp (Decidable.not_not.mp h)) | exact fun z => z ((i32_lt _ _).mp h)
theorem g_icmp_ge (hC : xOK K cc own n rm) {x y : Int} {off : Int} {tgt : Nat} (ht : (pc : Int) + off = (tgt : Int)) {pc' : Nat} (hp : pc + 3 = pc') (d : decode cc pc = .ok (.if_icmp .ge off, 3))
    (kt : wr y ≤ wr x → WG K E tgt lv st S) (kf : ¬ (wr y ≤ wr x) → WG K E pc' lv st S) : WG K E pc lv (vi y :: vi x :: st) S := by
  subst hp
  obtain ⟨p, l, e, R, s, m, args, below, meth, c, nL, cl, sl, Q⟩ := K
  obtain ⟨hx, hb, hml, hown, hts, hlk, rfl, rfl⟩ := hC
  intro H locs ls hY hS hl
  refine lv_icmp_ge hx hb d ht (fun h => kt ?_ H locs ls hY hS hl) (fun h => kf ?_ H locs ls hY hS hl)
  · first | exact (i32_le _ _).mp h | exact fun z => h ((i32_le _ _).mpr z)
  · first | exact fun z => h ((i32_le _ _).mpr z) | exact fun z => z ((i32_le _ _).mp (Decidable.not_not.mp h)) | exact fun z => z ((i32_le _ _).mp h)
theorem g_if_ge (hC : xOK K cc own n rm) {x : Int} {off : Int} {tgt : Nat} (ht : (pc : Int) + off = (tgt : Int)) {pc' : Nat} (hp : pc + 3 = pc') (d : decode cc pc = .ok (.ifCond .ge off, 3))
    (kt : 0 ≤ wr x → WG K E tgt lv st S) (kf : ¬ (0 ≤ wr x) → WG K E pc' lv st S) : WG K E pc lv (vi x :: st) S := by
  subst hp
  obtain ⟨p, l, e, R, s, m, args, below, meth, c, nL, cl, sl, Q⟩ := K
  obtain ⟨hx, hb, hml, hown, hts, hlk, rfl, rfl⟩ := hC
  intro H locs ls hY hS hl
  have e0 : wr 0 = 0 := by decide
  rw [← e0] at kt kf
  refine lv_if_ge hx hb d ht (fun h => kt ?_ H locs ls hY hS hl) (fun h => kf ?_ H locs ls hY hS hl)
  · rw [i32_0] at h; first | exact (i32_le _ _).mp h | exact fun z => h ((i32_le _ _).mpr z)
  · rw [i32_0] at h; first | exact fun z => h ((i32_le _ _).mpr z) | exact fun z => z ((i32_le _ _).mp (Decidable.not_not.mp h)) | exact fun z => z ((i32_le _ _).mp h)
theorem g_icmp_gt (hC : xOK K cc own n rm) {x y : Int} {off : Int} {tgt : Nat} (ht : (pc : Int) + off = (tgt : Int)) {pc' : Nat} (hp : pc + 3 = pc') (d : decode cc pc = .ok (.if_icmp .gt off, 3))
    (kt : wr y < wr x → WG K E tgt lv st S) (kf : ¬ (wr y < wr x) → WG K E pc' lv st S) : WG K E pc lv (vi y :: vi x :: st) S := by
  subst hp
  obtain ⟨p, l, e, R, s, m, args, below, meth, c, nL, cl, sl, Q⟩ := K
  obtain ⟨hx, hb, hml, hown, hts, hlk, rfl, rfl⟩ := hC
  intro H locs ls hY hS hl
  refine lv_icmp_gt hx hb d ht (fun h => kt ?_ H locs ls hY hS hl) (fun h => kf ?_ H locs ls hY hS hl)
  · first | exact (i32_lt _ _).mp h | exact fun z => h ((i32_lt _ _).mpr z)
  · first | exact fun z => h ((i32_lt _ _).mpr z) | exact fun z => z ((i32_lt _ _).mp (Decidable.not_not.mp h)) | exact fun z => z ((i32_lt _ _).mp h)
theorem g_if_gt (hC : xOK K cc own n rm) {x : Int} {off : Int} {tgt : Nat} (ht : (pc : Int) + off = (tgt : Int)) {pc' : Nat} (hp : pc + 3 = pc') (d : decode cc pc = .ok (.ifCond .gt off, 3))
    (kt : 0 < wr x → WG K E tgt lv st S) (kf : ¬ (0 < wr x) → WG K E pc' lv st S) : WG K E pc lv (vi x :: st) S := by
  subst hp
  obtain ⟨p, l, e, R, s, m, args, below, meth, c, nL, cl, sl, Q⟩ := K
  obtain ⟨hx, hb, hml, hown, hts, hlk, rfl, rfl⟩ := hC
  intro H locs ls hY hS hl
  have e0 : wr 0 = 0 := by decide
  rw [← e0] at kt kf
  refine lv_if_gt hx hb d ht (fun h => kt ?_ H locs ls hY hS hl) (fun h => kf ?_ H locs ls hY hS hl)
  · rw [i32_0] at h; first | exact (i32_lt _ _).mp h | exact fun z => h ((i32_lt _ _).mpr z)
  · rw [i32_0] at h; first | exact fun z => h ((i32_lt _ _).mpr z) | exact fun z => z ((i32_lt _ _).mp (Decidable.not_not.mp h)) | exact fun z => z ((i32_lt _ _).mp h)
theorem g_icmp_le (hC : xOK K cc own n rm) {x y : Int} {off : Int} {tgt : Nat} (ht : (pc : Int) + off = (tgt : Int)) {pc' : Nat} (hp : pc + 3 = pc') (d : decode cc pc = .ok (.if_icmp .le off, 3))
    (kt : wr x ≤ wr y → WG K E tgt lv st S) (kf : ¬ (wr x ≤ wr y) → WG K E pc' lv st S) : WG K E pc lv (vi y :: vi x :: st) S := by
  subst hp
  obtain ⟨p, l, e, R, s, m, args, below, meth, c, nL, cl, sl, Q⟩ := K
  obtain ⟨hx, hb, hml, hown, hts, hlk, rfl, rfl⟩ := hC
  intro H locs ls hY hS hl
  refine lv_icmp_le hx hb d ht (fun h => kt ?_ H locs ls hY hS hl) (fun h => kf ?_ H locs ls hY hS hl)
  · first | exact (i32_le _ _).mp h | exact fun z => h ((i32_le _ _).mpr z)
  · first | exact fun z => h ((i32_le _ _).mpr z) | exact fun z => z ((i32_le _ _).mp (Decidable.not_not.mp h)) | exact fun z => z ((i32_le _ _).mp h)
theorem g_if_le (hC : xOK K cc own n rm) {x : Int} {off : Int} {tgt : Nat} (ht : (pc : Int) + off = (tgt : Int)) {pc' : Nat} (hp : pc + 3 = pc') (d : decode cc pc = .ok (.ifCond .le off, 3))
    (kt : wr x ≤ 0 → WG K E tgt lv st S) (kf : ¬ (wr x ≤ 0) → WG K E pc' lv st S) : WG K E pc lv (vi x :: st) S := by
  subst hp
  obtain ⟨p, l, e, R, s, m, args, below, meth, c, nL, cl, sl, Q⟩ := K
  obtain ⟨hx, hb, hml, hown, hts, hlk, rfl, rfl⟩ := hC
  intro H locs ls hY hS hl
  have e0 : wr 0 = 0 := by decide
  rw [← e0] at kt kf
  refine lv_if_le hx hb d ht (fun h => kt ?_ H locs ls hY hS hl) (fun h => kf ?_ H locs ls hY hS hl)
  · rw [i32_0] at h; first | exact (i32_le _ _).mp h | exact fun z => h ((i32_le _ _).mpr z)
  · rw [i32_0] at h; first | exact fun z => h ((i32_le _ _).mpr z) | exact fun z => z ((i32_le _ _).mp (Decidable.not_not.mp h)) | exact fun z => z ((i32_le _ _).mp h)
theorem g_goto (hC : xOK K cc own n rm) {off : Int} {tgt : Nat} (ht : (pc : Int) + off = (tgt : Int)) (d : decode cc pc = .ok (.goto off, 3))
    (k : WG K E tgt lv st S) : WG K E pc lv st S := by
  obtain ⟨p, l, e, R, s, m, args, below, meth, c, nL, cl, sl, Q⟩ := K
  obtain ⟨hx, hb, hml, hown, hts, hlk, rfl, rfl⟩ := hC
  intro H locs ls hY hS hl
  exact lv_goto hx hb d ht (k H locs ls hY hS hl)
theorem g_tabIn (hC : xOK K cc own n rm) {dflt lo hi : Int} {offs : Array Int} {len : Nat} {x : Int} {off : Int} {tgt : Nat} (d : decode cc pc = .ok (.tableswitch dflt lo hi offs, len)) (h1 : ¬ wr x < lo) (h2 : ¬ hi < wr x) (ho : offs[(wr x - lo).toNat]? = some off) (ht : (pc : Int) + off = (tgt : Int))
    (k : WG K E tgt lv st S) : WG K E pc lv (vi x :: st) S := by
  obtain ⟨p, l, e, R, s, m, args, below, meth, c, nL, cl, sl, Q⟩ := K
  obtain ⟨hx, hb, hml, hown, hts, hlk, rfl, rfl⟩ := hC
  intro H locs ls hY hS hl
  exact lv_tableIn hx hb d (by rw [wr_toInt]; exact h1) (by rw [wr_toInt]; exact h2) (by rw [wr_toInt]; exact ho) ht (k H locs ls hY hS hl)
theorem g_tabOut (hC : xOK K cc own n rm) {dflt lo hi : Int} {offs : Array Int} {len : Nat} {x : Int} {tgt : Nat} (d : decode cc pc = .ok (.tableswitch dflt lo hi offs, len)) (h1 : wr x < lo ∨ hi < wr x) (ht : (pc : Int) + dflt = (tgt : Int))
    (k : WG K E tgt lv st S) : WG K E pc lv (vi x :: st) S := by
  obtain ⟨p, l, e, R, s, m, args, below, meth, c, nL, cl, sl, Q⟩ := K
  obtain ⟨hx, hb, hml, hown, hts, hlk, rfl, rfl⟩ := hC
  intro H locs ls hY hS hl
  exact lv_tableOut hx hb d (by rw [wr_toInt]; exact h1) ht (k H locs ls hY hS hl)
theorem g_look (hC : xOK K cc own n rm) {dflt : Int} {ps : Array (Int × Int)} {len : Nat} {x : Int} {off : Int} {tgt : Nat} (d : decode cc pc = .ok (.lookupswitch dflt ps, len)) (hp : (ps.toList.zip (ps.toList.drop 1)).all (fun (a, next) => a.1 < next.1) = true) (ho : Op.lookupswitch.offset ps.toList dflt (wr x) = off) (ht : (pc : Int) + off = (tgt : Int))
    (k : WG K E tgt lv st S) : WG K E pc lv (vi x :: st) S := by
  obtain ⟨p, l, e, R, s, m, args, below, meth, c, nL, cl, sl, Q⟩ := K
  obtain ⟨hx, hb, hml, hown, hts, hlk, rfl, rfl⟩ := hC
  intro H locs ls hY hS hl
  exact lv_lookup hx hb d hp (by rw [wr_toInt]; exact ho) ht (k H locs ls hY hS hl)
end GR
