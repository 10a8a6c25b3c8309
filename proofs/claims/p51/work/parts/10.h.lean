section GH
variable {p : Program} {l : Launch} {e : Env} {R : Room} {s : State} {m : MethodId} {args : Array Value} {below : List Frame} {meth : Method} {c : Code} {H H0 : Heap} {locs : List Loc} {cells slots : Nat} {Q : State → Prop} {ls : Array Slot} {rest : List Value}
variable {K : xCtx} {E : xE} {cc : ByteArray} {own : String} {n : Nat} {rm : Room} {pc : Nat} {lv : List (Nat × Value)} {st : List Value} {S : xSt} {r o κ : Nat}
theorem g_lcmp (hC : xOK K cc own n rm) {x y : Int} {pc' : Nat} (hp : pc + 1 = pc') (d : decode cc pc = .ok (.lcmp, 1))
    (k : WG K E pc' lv (vi (iC (wl x) (wl y)) :: st) S) : WG K E pc lv (vl y :: vl x :: st) S := by
  subst hp
  obtain ⟨p, l, e, R, s, m, args, below, meth, c, nL, cl, sl, Q⟩ := K
  obtain ⟨hx, hb, hml, hown, hts, hlk, rfl, rfl⟩ := hC
  intro H locs ls hY hS hl
  have k := k H locs ls hY hS hl
  have e1 : vi (iC (wl x) (wl y)) = .int (lg_cmp (Int64.ofInt x) (Int64.ofInt y)) := by
    unfold vi iC lg_cmp
    simp only [gt_iff_lt, Int64.lt_iff_toInt_lt, ← Int64.toInt_inj, wl_toInt]
    by_cases h1 : wl x < wl y
    · rw [if_pos h1, if_neg (by omega), if_neg (by omega)]; rfl
    · rw [if_neg h1]
      by_cases h2 : wl x = wl y
      · rw [if_pos h2, if_neg (by omega), if_pos h2]; rfl
      · rw [if_neg h2, if_pos (by omega)]; rfl
  rw [e1] at k
  exact W.lcmp hx hb d k
theorem g_sub (ks : List Nat) {lv' : List (Nat × Value)} (hl' : lv_pick lv ks = lv') (k : WG K E pc lv' st S) : WG K E pc lv st S := by
  obtain ⟨p, l, e, R, s, m, args, below, meth, c, nL, cl, sl, Q⟩ := K
  intro H locs ls hY hS hl
  exact k H locs ls hY hS (lv_sub hl ks hl')
theorem g_eqi {x y : Int} (h : y = x) (k : WG K E pc lv (vi y :: st) S) : WG K E pc lv (vi x :: st) S := by subst h; exact k
theorem g_pc {pc' : Nat} (h : pc = pc') (k : WG K E pc' lv st S) : WG K E pc lv st S := by subst h; exact k
theorem nar_ch (x : Int) : narrow .char (vi (iCh x)) = vi (iCh x) := by
  unfold vi iCh
  rw [Int32.ofInt_toInt]
  show Value.int _ = Value.int _
  have e : ((Int32.ofInt x).toUInt32 % 65536).toInt32.toUInt32.toUInt16.toUInt32 = (Int32.ofInt x).toUInt32 % 65536 := by
    apply UInt32.toNat_inj.mp
    simp
  rw [e]
def ckNd {β : Type} (z : UInt64) (k : Option β) : Option β := if z &&& 0x7fffffffffffffff ≤ 0x7ff0000000000000 then k else none
def ckNf {β : Type} (z : UInt32) (k : Option β) : Option β := if z &&& 0x7fffffff ≤ 0x7f800000 then k else none
theorem ckNd_i {β : Type} {z : UInt64} {k : Option β} {r : β} (h : ckNd z k = some r) : vf_n64 z ∧ k = some r := by
  unfold ckNd at h; split at h
  · exact ⟨by assumption, h⟩
  · cases h
theorem ckNf_i {β : Type} {z : UInt32} {k : Option β} {r : β} (h : ckNf z k = some r) : vf_n32 z ∧ k = some r := by
  unfold ckNf at h; split at h
  · exact ⟨by assumption, h⟩
  · cases h
theorem g_ddiv (hC : xOK K cc own n rm) {x y : UInt64} (hn : vf_n64 (FP.ddiv x y)) {pc' : Nat} (hp : pc + 1 = pc') (d : decode cc pc = .ok (.ddiv, 1))
    (k : WG K E pc' lv (vd (FP.ddiv x y) :: st) S) : WG K E pc lv (vd y :: vd x :: st) S := by
  subst hp
  obtain ⟨p, l, e, R, s, m, args, below, meth, c, nL, cl, sl, Q⟩ := K
  obtain ⟨hx, hb, hml, hown, hts, hlk, rfl, rfl⟩ := hC
  intro H locs ls hY hS hl
  exact lv_ddiv hx hb d hn (k H locs ls hY hS hl)
theorem g_fdiv (hC : xOK K cc own n rm) {x y : UInt32} (hn : vf_n32 (FP.fdiv x y)) {pc' : Nat} (hp : pc + 1 = pc') (d : decode cc pc = .ok (.fdiv, 1))
    (k : WG K E pc' lv (vf (FP.fdiv x y) :: st) S) : WG K E pc lv (vf y :: vf x :: st) S := by
  subst hp
  obtain ⟨p, l, e, R, s, m, args, below, meth, c, nL, cl, sl, Q⟩ := K
  obtain ⟨hx, hb, hml, hown, hts, hlk, rfl, rfl⟩ := hC
  intro H locs ls hY hS hl
  exact lv_fdiv hx hb d hn (k H locs ls hY hS hl)
theorem g_cast {lv' : List (Nat × Value)} {st' : List Value} {S' : xSt} (h : lv = lv') (h2 : st = st') (h3 : S = S') (k : WG K E pc lv' st' S') : WG K E pc lv st S := by subst h; subst h2; subst h3; exact k
/-! the class of cells ci, and what is said of it once -/
def xCl (ci : Nat) (C : String) (T : u_T) (N : Nat) (ty : Nat → FieldType) : Prop := vwCl[ci]? = some (C, T, N) ∧ (∀ w ∈ u_ws C T N, w ∈ xw) ∧ (∀ k, k < N → parseFieldDescriptor (T k).2.2.1 = some (ty k)) ∧ (∀ a, a < N → ∀ b, b < N → a ≠ b → (T a).2.1 ≠ (T b).2.1)

theorem g_getI (hC : xOK K cc own n rm) (hk : xkd E r = κ) {ci : Nat} {C : String} {T : u_T} {N : Nat} {ty : Nat → FieldType} (hc : xCl ci C T N ty) {fs : List xF} (hl0 : lay κ o = some (.inl (ci, fs))) (j : Nat) (hj : j < N) {ft : FieldType} (hf : fs[j]? = some (.inl ft)) {idx : Nat} (hlink : Cond.fieldLink own idx (T j).1 (T j).2.1 (T j).2.2.1 ∈ xw) {pc' : Nat} (hp : pc + 3 = pc') (d : decode cc pc = .ok (.getfield idx, 3))
    (k : WG K E pc' lv (vi (gI S r o j) :: st) S) : WG K E pc lv (vr E r o :: st) S := by
  subst hp
  obtain ⟨p, l, e, R, s, m, args, below, meth, c, nL, cl, sl, Q⟩ := K
  obtain ⟨hx, hb, hml, hown, hts, hlk, rfl, rfl⟩ := hC
  intro H locs ls hY hS hl
  exact x_get hx hb hts hc.2.1 hown hY.1 (by rw [hk]; exact hl0) hc.1 j hj (hts _ hlink) (fun _ h => h) hf rfl d (k H locs ls hY hS hl)
theorem g_getP (hC : xOK K cc own n rm) (hk : xkd E r = κ) {ci : Nat} {C : String} {T : u_T} {N : Nat} {ty : Nat → FieldType} (hc : xCl ci C T N ty) {fs : List xF} (hl0 : lay κ o = some (.inl (ci, fs))) (j : Nat) (hj : j < N) {d0 o1 r1 : Nat} (hr : r + d0 = r1) (hf : fs[j]? = some (.inr (some (d0, o1)))) {idx : Nat} (hlink : Cond.fieldLink own idx (T j).1 (T j).2.1 (T j).2.2.1 ∈ xw) {pc' : Nat} (hp : pc + 3 = pc') (d : decode cc pc = .ok (.getfield idx, 3))
    (k : WG K E pc' lv (vr E r1 o1 :: st) S) : WG K E pc lv (vr E r o :: st) S := by
  subst hp
  obtain ⟨p, l, e, R, s, m, args, below, meth, c, nL, cl, sl, Q⟩ := K
  obtain ⟨hx, hb, hml, hown, hts, hlk, rfl, rfl⟩ := hC
  intro H locs ls hY hS hl
  exact x_get hx hb hts hc.2.1 hown hY.1 (by rw [hk]; exact hl0) hc.1 j hj (hts _ hlink) (fun _ h => h) hf (by subst hr; rfl) d (k H locs ls hY hS hl)
theorem g_getV (hC : xOK K cc own n rm) (hk : xkd E r = κ) {ci : Nat} {C : String} {T : u_T} {N : Nat} {ty : Nat → FieldType} (hc : xCl ci C T N ty) {fs : List xF} (hl0 : lay κ o = some (.inl (ci, fs))) (j : Nat) (hj : j < N) (hf : fs[j]? = some (.inr none)) {q oo κ' : Nat} (hq : gP S r o j = (q, oo)) (hg : gk S q = κ') (hoo : oo ≠ 77777) {idx : Nat} (hlink : Cond.fieldLink own idx (T j).1 (T j).2.1 (T j).2.2.1 ∈ xw) {pc' : Nat} (hp : pc + 3 = pc') (d : decode cc pc = .ok (.getfield idx, 3))
    (k : xkd E q = κ' → WG K E pc' lv (vr E q oo :: st) S) : WG K E pc lv (vr E r o :: st) S := by
  subst hp
  obtain ⟨p, l, e, R, s, m, args, below, meth, c, nL, cl, sl, Q⟩ := K
  obtain ⟨hx, hb, hml, hown, hts, hlk, rfl, rfl⟩ := hC
  intro H locs ls hY hS hl
  exact x_get hx hb hts hc.2.1 hown hY.1 (by rw [hk]; exact hl0) hc.1 j hj (hts _ hlink) (fun _ h => h) hf (show (if (gP S r o j).2 = 77777 then Value.null else Value.ref (xad E (gP S r o j).1 (gP S r o j).2)) = _ by rw [hq]; exact if_neg hoo) d (k (by rw [← YW_k hY q]; exact hg) H locs ls hY hS hl)
theorem YW_wI {S : xSt} {s : State} {H1 : Heap} {r o k : Nat} {z : Int} (h : XW E (tS (wI S r o k z).2.1) S.2.2 s H1) (hk : S.1.2 = xkd E) : YW E (wI S r o k z) s H1 := ⟨h, hk⟩
theorem g_putI (hC : xOK K cc own n rm) (hk : xkd E r = κ) {ci : Nat} {C : String} {T : u_T} {N : Nat} {ty : Nat → FieldType} (hc : xCl ci C T N ty) {fs : List xF} (hl0 : lay κ o = some (.inl (ci, fs))) (j : Nat) (hj : j < N) (hfin : (T j).2.2.2 = false) (hf : fs[j]? = some (.inl .int)) (hty : ty j = .int) {idx : Nat} (hlink : Cond.fieldLink own idx (T j).1 (T j).2.1 (T j).2.2.1 ∈ xw) {z : Int} {S1 : xSt} (h1 : S1 = wI S r o j z) {pc' : Nat} (hp : pc + 3 = pc') (d : decode cc pc = .ok (.putfield idx, 3))
    (k : WG K E pc' lv st S1) : WG K E pc lv (vi z :: vr E r o :: st) S := by
  subst hp
  obtain ⟨p, l, e, R, s, m, args, below, meth, c, nL, cl, sl, Q⟩ := K
  obtain ⟨hx, hb, hml, hown, hts, hlk, rfl, rfl⟩ := hC
  intro H locs ls hY hS hl
  exact x_put (τ := tS S.2.1 r) (τ' := u2 (tS S.2.1 r) o j (Int32.ofInt z)) hx hb hts hc.2.1 ty hc.2.2.1 hc.2.2.2 hown hY.1 hS (by rw [hk]; exact hl0) hc.1 j hj (hts _ hlink) (fun _ h => h) hfin (by rw [hc.2.2.1 j hj, hty]) hf rfl rfl rfl rfl (tS_u2 S r o j z) d (fun H1 locs1 h2 h3 => k H1 locs1 ls (by subst h1; exact YW_wI h2 hY.2) h3 hl)
theorem xB_z {z : Int} (h : z = 0 ∨ z = 1) : xB (Int32.ofInt z) := by
  rcases h with rfl | rfl
  · exact xB0
  · exact xB1
theorem g_putZ (hC : xOK K cc own n rm) (hk : xkd E r = κ) {ci : Nat} {C : String} {T : u_T} {N : Nat} {ty : Nat → FieldType} (hc : xCl ci C T N ty) {fs : List xF} (hl0 : lay κ o = some (.inl (ci, fs))) (j : Nat) (hj : j < N) (hfin : (T j).2.2.2 = false) (hf : fs[j]? = some (.inl .boolean)) (hty : ty j = .boolean) {idx : Nat} (hlink : Cond.fieldLink own idx (T j).1 (T j).2.1 (T j).2.2.1 ∈ xw) {z : Int} (hz : z = 0 ∨ z = 1) {S1 : xSt} (h1 : S1 = wI S r o j z) {pc' : Nat} (hp : pc + 3 = pc') (d : decode cc pc = .ok (.putfield idx, 3))
    (k : WG K E pc' lv st S1) : WG K E pc lv (vi z :: vr E r o :: st) S := by
  subst hp
  obtain ⟨p, l, e, R, s, m, args, below, meth, c, nL, cl, sl, Q⟩ := K
  obtain ⟨hx, hb, hml, hown, hts, hlk, rfl, rfl⟩ := hC
  intro H locs ls hY hS hl
  exact x_put (τ := tS S.2.1 r) (τ' := u2 (tS S.2.1 r) o j (Int32.ofInt z)) hx hb hts hc.2.1 ty hc.2.2.1 hc.2.2.2 hown hY.1 hS (by rw [hk]; exact hl0) hc.1 j hj (hts _ hlink) (fun _ h => h) hfin (by rw [hc.2.2.1 j hj, hty]) hf (xB_n (xB_z hz)) (xB_f (xB_z hz)) rfl rfl (tS_u2 S r o j z) d (fun H1 locs1 h2 h3 => k H1 locs1 ls (by subst h1; exact YW_wI h2 hY.2) h3 hl)
theorem g_putV (hC : xOK K cc own n rm) (hk : xkd E r = κ) {ci : Nat} {C : String} {T : u_T} {N : Nat} {ty : Nat → FieldType} (hc : xCl ci C T N ty) {fs : List xF} (hl0 : lay κ o = some (.inl (ci, fs))) (j : Nat) (hj : j < N) (hfin : (T j).2.2.2 = false) (hf : fs[j]? = some (.inr none)) {idx : Nat} (hlink : Cond.fieldLink own idx (T j).1 (T j).2.1 (T j).2.2.1 ∈ xw) {q oo : Nat} {S1 : xSt} (hn : ∀ a : Nat, narrow (ty j) (.ref a) = .ref a) (hfit : ∀ a : Nat, fits (ty j) (.ref a) = true) (hoo : oo ≠ 77777) (h1 : S1 = wP S r o j (q, oo)) {pc' : Nat} (hp : pc + 3 = pc') (d : decode cc pc = .ok (.putfield idx, 3))
    (k : WG K E pc' lv st S1) : WG K E pc lv (vr E q oo :: vr E r o :: st) S := by
  subst hp
  obtain ⟨p, l, e, R, s, m, args, below, meth, c, nL, cl, sl, Q⟩ := K
  obtain ⟨hx, hb, hml, hown, hts, hlk, rfl, rfl⟩ := hC
  intro H locs ls hY hS hl
  exact x_putR (q := (q, oo)) hx hb hts hc.2.1 ty hc.2.2.1 hc.2.2.2 hown hY.1 hS (by rw [hk]; exact hl0) hc.1 j hj (hts _ hlink) (fun _ h => h) hfin (hc.2.2.1 j hj) hf (hn _) (hfit _) hoo rfl d (fun H1 locs1 h2 h3 => k H1 locs1 ls (by subst h1; exact ⟨h2, hY.2⟩) h3 hl)
theorem g_iald (hC : xOK K cc own n rm) (hk : xkd E r = κ) {N : Nat} (hl0 : lay κ o = some (.inr (.inl (.int, N)))) {i : Int} (hi : 0 ≤ wr i ∧ wr i < (N : Int)) {pc' : Nat} (hp : pc + 1 = pc') (d : decode cc pc = .ok (.iaload, 1))
    {k0 : Nat} (hkk : (wr i).toNat = k0) (k : WG K E pc' lv (vi (gI S r o k0) :: st) S) : WG K E pc lv (vi i :: vr E r o :: st) S := by
  subst hp
  obtain ⟨p, l, e, R, s, m, args, below, meth, c, nL, cl, sl, Q⟩ := K
  obtain ⟨hx, hb, hml, hown, hts, hlk, rfl, rfl⟩ := hC
  intro H locs ls hY hS hl
  have k := k H locs ls hY hS hl
  rw [← hkk, ← i32_nat] at k
  exact x_iald hx hb hY.1 (by rw [hk]; exact hl0) rfl (ck_in hi) d k
theorem g_bald (hC : xOK K cc own n rm) (hk : xkd E r = κ) {N : Nat} (hl0 : lay κ o = some (.inr (.inl (.byte, N)))) {i : Int} (hi : 0 ≤ wr i ∧ wr i < (N : Int)) {pc' : Nat} (hp : pc + 1 = pc') (d : decode cc pc = .ok (.baload, 1))
    {k0 : Nat} (hkk : (wr i).toNat = k0) (k : WG K E pc' lv (vi (gI S r o k0) :: st) S) : WG K E pc lv (vi i :: vr E r o :: st) S := by
  subst hp
  obtain ⟨p, l, e, R, s, m, args, below, meth, c, nL, cl, sl, Q⟩ := K
  obtain ⟨hx, hb, hml, hown, hts, hlk, rfl, rfl⟩ := hC
  intro H locs ls hY hS hl
  have k := k H locs ls hY hS hl
  rw [← hkk, ← i32_nat] at k
  exact x_bald hx hb hY.1 (by rw [hk]; exact hl0) rfl (ck_in hi) d k
theorem g_zald (hC : xOK K cc own n rm) (hk : xkd E r = κ) {N : Nat} (hl0 : lay κ o = some (.inr (.inl (.boolean, N)))) {i : Int} (hi : 0 ≤ wr i ∧ wr i < (N : Int)) {pc' : Nat} (hp : pc + 1 = pc') (d : decode cc pc = .ok (.baload, 1))
    {k0 : Nat} (hkk : (wr i).toNat = k0) (k : WG K E pc' lv (vi (gI S r o k0) :: st) S) : WG K E pc lv (vi i :: vr E r o :: st) S := by
  subst hp
  obtain ⟨p, l, e, R, s, m, args, below, meth, c, nL, cl, sl, Q⟩ := K
  obtain ⟨hx, hb, hml, hown, hts, hlk, rfl, rfl⟩ := hC
  intro H locs ls hY hS hl
  have k := k H locs ls hY hS hl
  rw [← hkk, ← i32_nat] at k
  exact x_zald hx hb hY.1 (by rw [hk]; exact hl0) rfl (ck_in hi) d (fun _ => k)
theorem x_lald (hx : p.tables.exec = Jvm.exec) (hb : c.code = cc) {σ : xS} {ρ : xP} (hX : XW E σ ρ s H) {n : Nat} (hl : lay (xkd E r) o = some (.inr (.inl (.long, n)))) {i : Int32} (hin : vp_in i n) (hdg : decode cc pc = .ok (.laload, 1))
    (kk : W p l e R s m args below meth c H locs cells slots Q (F0 m (pc + 1) ls (.long (σ r o i.toNatClampNeg).toInt64 :: rest))) : W p l e R s m args below meth c H locs cells slots Q (F0 m pc ls (.int i :: .ref (xad E r o) :: rest)) := by
  obtain ⟨cell, h1, h2, h3, h4, h5, h6⟩ := hX.2.1 r o _ hl
  obtain ⟨g1, g2⟩ := x_idx hin h4
  exact W.lald hx hb h1 h2 h3 g1 (h6 _ g2).1 rfl rfl hdg kk
theorem g_lald (hC : xOK K cc own n rm) (hk : xkd E r = κ) {N : Nat} (hl0 : lay κ o = some (.inr (.inl (.long, N)))) {i : Int} (hi : 0 ≤ wr i ∧ wr i < (N : Int)) {pc' : Nat} (hp : pc + 1 = pc') (d : decode cc pc = .ok (.laload, 1))
    {k0 : Nat} (hkk : (wr i).toNat = k0) (k : WG K E pc' lv (vl (wr (gI S r o k0)) :: st) S) : WG K E pc lv (vi i :: vr E r o :: st) S := by
  subst hp
  obtain ⟨p, l, e, R, s, m, args, below, meth, c, nL, cl, sl, Q⟩ := K
  obtain ⟨hx, hb, hml, hown, hts, hlk, rfl, rfl⟩ := hC
  intro H locs ls hY hS hl
  have k := k H locs ls hY hS hl
  rw [← hkk, ← i32_nat] at k
  unfold vl at k
  rw [← i64_of] at k
  exact x_lald hx hb hY.1 (by rw [hk]; exact hl0) (ck_in hi) d k
theorem g_iast (hC : xOK K cc own n rm) (hk : xkd E r = κ) {N : Nat} (hl0 : lay κ o = some (.inr (.inl (.int, N)))) {i z : Int} (hi : 0 ≤ wr i ∧ wr i < (N : Int))  {k0 : Nat} (hkk : (wr i).toNat = k0) {S1 : xSt} (h1 : S1 = wI S r o k0 (z)) {pc' : Nat} (hp : pc + 1 = pc') (d : decode cc pc = .ok (.iastore, 1))
    (k : WG K E pc' lv st S1) : WG K E pc lv (vi z :: vi i :: vr E r o :: st) S := by
  subst hp
  obtain ⟨p, l, e, R, s, m, args, below, meth, c, nL, cl, sl, Q⟩ := K
  obtain ⟨hx, hb, hml, hown, hts, hlk, rfl, rfl⟩ := hC
  intro H locs ls hY hS hl
  exact x_iast (τ := tS S.2.1 r) (σ' := tS (wI S r o (wr i).toNat z).2.1) (τ' := u2 (tS S.2.1 r) o (Int32.ofInt i).toNatClampNeg (Int32.ofInt z)) hx hb hY.1 hS (by rw [hk]; exact hl0) (ck_in hi) rfl rfl (by rw [i32_nat]; exact tS_u2 S r o (wr i).toNat z) d (fun H1 locs1 h2 h3 => k H1 locs1 ls (by subst hkk h1; exact YW_wI h2 hY.2) h3 hl)
theorem g_zast (hC : xOK K cc own n rm) (hk : xkd E r = κ) {N : Nat} (hl0 : lay κ o = some (.inr (.inl (.boolean, N)))) {i z : Int} (hi : 0 ≤ wr i ∧ wr i < (N : Int)) (hz : z = 0 ∨ z = 1) {k0 : Nat} (hkk : (wr i).toNat = k0) {S1 : xSt} (h1 : S1 = wI S r o k0 (z)) {pc' : Nat} (hp : pc + 1 = pc') (d : decode cc pc = .ok (.bastore, 1))
    (k : WG K E pc' lv st S1) : WG K E pc lv (vi z :: vi i :: vr E r o :: st) S := by
  subst hp
  obtain ⟨p, l, e, R, s, m, args, below, meth, c, nL, cl, sl, Q⟩ := K
  obtain ⟨hx, hb, hml, hown, hts, hlk, rfl, rfl⟩ := hC
  intro H locs ls hY hS hl
  exact x_zast (τ := tS S.2.1 r) (σ' := tS (wI S r o (wr i).toNat z).2.1) (τ' := u2 (tS S.2.1 r) o (Int32.ofInt i).toNatClampNeg (Int32.ofInt z)) hx hb hY.1 hS (by rw [hk]; exact hl0) (xB_z hz) (ck_in hi) rfl rfl (by rw [i32_nat]; exact tS_u2 S r o (wr i).toNat z) d (fun H1 locs1 h2 h3 => k H1 locs1 ls (by subst hkk h1; exact YW_wI h2 hY.2) h3 hl)
theorem g_bast (hC : xOK K cc own n rm) (hk : xkd E r = κ) {N : Nat} (hl0 : lay κ o = some (.inr (.inl (.byte, N)))) {i z : Int} (hi : 0 ≤ wr i ∧ wr i < (N : Int)) {k0 : Nat} (hkk : (wr i).toNat = k0) {S1 : xSt} (h1 : S1 = wI S r o k0 (wb z)) {pc' : Nat} (hp : pc + 1 = pc') (d : decode cc pc = .ok (.bastore, 1))
    (k : WG K E pc' lv st S1) : WG K E pc lv (vi z :: vi i :: vr E r o :: st) S := by
  subst hp
  obtain ⟨p, l, e, R, s, m, args, below, meth, c, nL, cl, sl, Q⟩ := K
  obtain ⟨hx, hb, hml, hown, hts, hlk, rfl, rfl⟩ := hC
  intro H locs ls hY hS hl
  exact x_bast (τ := tS S.2.1 r) (σ' := tS (wI S r o (wr i).toNat (wb z)).2.1) (τ' := u2 (tS S.2.1 r) o (Int32.ofInt i).toNatClampNeg (Int32.ofInt z).toInt8.toInt32) hx hb hY.1 hS (by rw [hk]; exact hl0) (ck_in hi) rfl rfl (by rw [i32_nat, i32_b]; exact tS_u2 S r o (wr i).toNat (wb z)) d (fun H1 locs1 h2 h3 => k H1 locs1 ls (by subst hkk h1; exact YW_wI h2 hY.2) h3 hl)
theorem x_last {σ : xS} {ρ : xP} {τ : xT} (hx : p.tables.exec = Jvm.exec) (hb : c.code = cc) (hX : XW E σ ρ s H) (hS0 : va_S (xA E) H0 H locs) {n : Nat} (hl : lay (xkd E r) o = some (.inr (.inl (.long, n)))) {i x : Int32} (hin : vp_in i n) {τ' : xT} {σ' : xS} (hτ : σ r = τ) (hτ' : τ' = u2 τ o i.toNatClampNeg x) (he : uR σ r τ' = σ') (hdg : decode cc pc = .ok (.lastore, 1))
    (kk : ∀ (H1 : Heap) (locs1 : List Loc), XW E σ' ρ s H1 → va_S (xA E) H0 H1 locs1 → W p l e R s m args below meth c H1 locs1 cells slots Q (F0 m (pc + 1) ls rest)) : W p l e R s m args below meth c H locs cells slots Q (F0 m pc ls (.long x.toInt64 :: .int i :: .ref (xad E r o) :: rest)) := by
  obtain ⟨cell, h1, h2, h3, h4, h5, h6⟩ := hX.2.1 r o _ hl
  obtain ⟨g1, g2⟩ := x_idx hin h4
  refine W.last hx hb h1 h2 h3 g1 rfl rfl hdg fun H1 e1 z oq => ?_
  subst hτ'
  subst he
  obtain ⟨k1, k2, k3⟩ := x_aput (ty := .long) (x := x) hin h4 h6 rfl
  refine kk H1 _ (XW_put hX hl ⟨_, e1, h2, h3, k1, by rw [← h5]; exact congrArg Nat.toInt32 k2, ?_⟩ (fun r' o' hz => ⟨uR_o hτ r' o' hz, rfl⟩) oq) (hS0.put z oq (hX.2.2.1.2 r o _ hl))
  rw [uR_s]
  unfold u2
  rw [u1_s, ← hτ]
  exact k3
theorem g_last (hC : xOK K cc own n rm) (hk : xkd E r = κ) {N : Nat} (hl0 : lay κ o = some (.inr (.inl (.long, N)))) {i z : Int} (hi : 0 ≤ wr i ∧ wr i < (N : Int)) (hz : wr z = z) {k0 : Nat} (hkk : (wr i).toNat = k0) {S1 : xSt} (h1 : S1 = wI S r o k0 z) {pc' : Nat} (hp : pc + 1 = pc') (d : decode cc pc = .ok (.lastore, 1))
    (k : WG K E pc' lv st S1) : WG K E pc lv (vl z :: vi i :: vr E r o :: st) S := by
  subst hp
  obtain ⟨p, l, e, R, s, m, args, below, meth, c, nL, cl, sl, Q⟩ := K
  obtain ⟨hx, hb, hml, hown, hts, hlk, rfl, rfl⟩ := hC
  intro H locs ls hY hS hl
  have e0 : vl z = .long (Int32.ofInt z).toInt64 := by rw [i64_of, hz]; rfl
  rw [e0]
  exact x_last (τ := tS S.2.1 r) (σ' := tS (wI S r o (wr i).toNat z).2.1) (τ' := u2 (tS S.2.1 r) o (Int32.ofInt i).toNatClampNeg (Int32.ofInt z)) hx hb hY.1 hS (by rw [hk]; exact hl0) (ck_in hi) rfl rfl (by rw [i32_nat]; exact tS_u2 S r o (wr i).toNat z) d (fun H1 locs1 h2 h3 => k H1 locs1 ls (by subst hkk h1; exact YW_wI h2 hY.2) h3 hl)
theorem g_alen (hC : xOK K cc own n rm) (hk : xkd E r = κ) {N : Nat} {et : FieldType} (hl0 : lay κ o = some (.inr (.inl (et, N)))) {z : Int} (hz : Int32.ofNat N = Int32.ofInt z) {pc' : Nat} (hp : pc + 1 = pc') (d : decode cc pc = .ok (.arraylength, 1))
    (k : WG K E pc' lv (vi z :: st) S) : WG K E pc lv (vr E r o :: st) S := by
  subst hp
  obtain ⟨p, l, e, R, s, m, args, below, meth, c, nL, cl, sl, Q⟩ := K
  obtain ⟨hx, hb, hml, hown, hts, hlk, rfl, rfl⟩ := hC
  intro H locs ls hY hS hl
  exact x_alen hx hb hY.1 (by rw [hk]; exact hl0) hz d (k H locs ls hY hS hl)
theorem g_alenR (hC : xOK K cc own n rm) (hk : xkd E r = κ) {C : String} {es : List (Nat × Nat)} (hl0 : lay κ o = some (.inr (.inr (C, es)))) {z : Int} (hz : Int32.ofNat es.length = Int32.ofInt z) {pc' : Nat} (hp : pc + 1 = pc') (d : decode cc pc = .ok (.arraylength, 1))
    (k : WG K E pc' lv (vi z :: st) S) : WG K E pc lv (vr E r o :: st) S := by
  subst hp
  obtain ⟨p, l, e, R, s, m, args, below, meth, c, nL, cl, sl, Q⟩ := K
  obtain ⟨hx, hb, hml, hown, hts, hlk, rfl, rfl⟩ := hC
  intro H locs ls hY hS hl
  obtain ⟨cell, h1, h2, h3, h4, h5, h6⟩ := hY.1.2.1 r o _ (by rw [hk]; exact hl0)
  exact W.alen hx hb h1 h2 (h6.trans hz) rfl rfl d (k H locs ls hY hS hl)
theorem cp_va (f g : Nat → Int) (a b n : Nat) : (fun j => Int32.ofInt (cpI f g a b n j)) = va_cpy (fun j => Int32.ofInt (f j)) (fun j => Int32.ofInt (g j)) a b n := by
  funext j
  unfold cpI va_cpy
  split <;> rfl
theorem g_copy (hC : xOK K cc own n rm) {r0 o0 κ0 n0 n1 : Nat} {et : FieldType} (hk0 : xkd E r0 = κ0) (hk : xkd E r = κ) (hl0 : lay κ0 o0 = some (.inr (.inl (et, n0)))) (hl1 : lay κ o = some (.inr (.inl (et, n1)))) (hp : refKind et = false) (hnl : et ≠ .long) {a b z : Int} (hh : 0 ≤ wr a ∧ 0 ≤ wr b ∧ 0 ≤ wr z ∧ wr a + wr z ≤ (n0 : Int) ∧ wr b + wr z ≤ (n1 : Int)) {idx : Nat} (hlink : Cond.methodLink own idx arraycopyName ∈ xw) (hnat : Cond.native arraycopyName ∈ xw) (hstat : Cond.static arraycopyName ∈ xw) (hini : Cond.initialized "java/lang/System" ∈ xw) (hfr : 1 ≤ rm.frames) (hlo : (st.map fun v => v.category).sum + (nativeFrameWords "java/lang/System" "arraycopy" 5 + 11) ≤ rm.locals) {S1 : xSt} (h1 : S1 = wA S r o (cpI (S.2.1 r0 o0) (S.2.1 r o) (wr a).toNat (wr b).toNat (wr z).toNat)) {pc' : Nat} (hp : pc + 3 = pc') (d : decode cc pc = .ok (.invokestatic idx, 3))
    (k : WG K E pc' lv st S1) : WG K E pc lv (vi z :: vi b :: vr E r o :: vi a :: vr E r0 o0 :: st) S := by
  subst hp
  obtain ⟨p, l, e, R, s, m, args, below, meth, c, nL, cl, sl, Q⟩ := K
  obtain ⟨hx, hb, hml, hown, hts, hlk, rfl, rfl⟩ := hC
  intro H locs ls hY hS hl
  have e0 : wr 0 = 0 := by decide
  have na : ∀ x : Int, 0 ≤ wr x → ¬ Int32.ofInt x < 0 := fun x hx h => by rw [i32_0, i32_lt] at h; omega
  refine x_copy (τ0 := tS S.2.1 r0) (τ := tS S.2.1 r) (τ' := u1 (tS S.2.1 r) o (fun j => Int32.ofInt (cpI (S.2.1 r0 o0) (S.2.1 r o) (wr a).toNat (wr b).toNat (wr z).toNat j))) hx hb (by rw [hml]; exact hl.1.symm) hown (hts _ hlink) (hts _ hnat) (hts _ hstat) (hts _ hini) hY.1 hS (by rw [hk0]; exact hl0) (by rw [hk]; exact hl1) hp hnl rfl rfl (na a hh.1) (na b hh.2.1) (na z hh.2.2.1) ?_ ?_ ?_ (tS_u1 S r o _) hfr hlo d (fun H1 locs1 h2 h3 => k H1 locs1 ls (by subst h1; exact ⟨h2, hY.2⟩) h3 hl)
  · rw [i32_nat, i32_nat]; omega
  · rw [i32_nat, i32_nat]; omega
  · rw [i32_nat, i32_nat, i32_nat, cp_va]; rfl
def tbI (q : Nat) (j : Nat) : Int := match xsts[q]? with
  | some z => (z.2.2.getD j 0).toInt
  | none => 0
theorem tbI_of {q : Nat} {z : String × String × List Int32} (hq : xsts[q]? = some z) (j : Nat) : Int32.ofInt (tbI q j) = z.2.2.getD j 0 := by
  unfold tbI
  rw [hq]
  exact Int32.ofInt_toInt _
theorem g_copyT (hC : xOK K cc own n rm) {q n1 : Nat} {z0 : String × String × List Int32} (hq : xsts[q]? = some z0) (hk : xkd E r = κ) (hl1 : lay κ o = some (.inr (.inl (.int, n1)))) {a b z : Int} (hh : 0 ≤ wr a ∧ 0 ≤ wr b ∧ 0 ≤ wr z ∧ wr a + wr z ≤ (z0.2.2.length : Int) ∧ wr b + wr z ≤ (n1 : Int)) {idx : Nat} (hlink : Cond.methodLink own idx arraycopyName ∈ xw) (hnat : Cond.native arraycopyName ∈ xw) (hstat : Cond.static arraycopyName ∈ xw) (hini : Cond.initialized "java/lang/System" ∈ xw) (hfr : 1 ≤ rm.frames) (hlo : (st.map fun v => v.category).sum + (nativeFrameWords "java/lang/System" "arraycopy" 5 + 11) ≤ rm.locals) {S1 : xSt} (h1 : S1 = wA S r o (cpI (tbI q) (S.2.1 r o) (wr a).toNat (wr b).toNat (wr z).toNat)) {pc' : Nat} (hp : pc + 3 = pc') (d : decode cc pc = .ok (.invokestatic idx, 3))
    (k : WG K E pc' lv st S1) : WG K E pc lv (vi z :: vi b :: vr E r o :: vi a :: vt E q :: st) S := by
  subst hp
  obtain ⟨p, l, e, R, s, m, args, below, meth, c, nL, cl, sl, Q⟩ := K
  obtain ⟨hx, hb, hml, hown, hts, hlk, rfl, rfl⟩ := hC
  intro H locs ls hY hS hl
  have e0 : wr 0 = 0 := by decide
  have na : ∀ x : Int, 0 ≤ wr x → ¬ Int32.ofInt x < 0 := fun x hx h => by rw [i32_0, i32_lt] at h; omega
  refine x_copyT (τ := tS S.2.1 r) (τ' := u1 (tS S.2.1 r) o (fun j => Int32.ofInt (cpI (tbI q) (S.2.1 r o) (wr a).toNat (wr b).toNat (wr z).toNat j))) hx hb (by rw [hml]; exact hl.1.symm) hown (hts _ hlink) (hts _ hnat) (hts _ hstat) (hts _ hini) hY.1 hS q hq (by rw [hk]; exact hl1) rfl (na a hh.1) (na b hh.2.1) (na z hh.2.2.1) ?_ ?_ ?_ (tS_u1 S r o _) hfr hlo d (fun H1 locs1 h2 h3 => k H1 locs1 ls (by subst h1; exact ⟨h2, hY.2⟩) h3 hl)
  · rw [i32_nat, i32_nat]; omega
  · rw [i32_nat, i32_nat]; omega
  · rw [i32_nat, i32_nat, i32_nat, cp_va]
    congr 2
    funext j
    exact tbI_of hq j
theorem g_gets (hC : xOK K cc own n rm) (q : Nat) {z0 : String × String × List Int32} (hq : xsts[q]? = some z0) {idx : Nat} (hlink : Cond.fieldLink own idx z0.1 z0.2.1 "[I" ∈ xw) {pc' : Nat} (hp : pc + 3 = pc') (d : decode cc pc = .ok (.getstatic idx, 3))
    (k : WG K E pc' lv (vt E q :: st) S) : WG K E pc lv st S := by
  subst hp
  obtain ⟨p, l, e, R, s, m, args, below, meth, c, nL, cl, sl, Q⟩ := K
  obtain ⟨hx, hb, hml, hown, hts, hlk, rfl, rfl⟩ := hC
  intro H locs ls hY hS hl
  exact x_gets hx hb hY.1 q hq hown (hts _ hlink) (fun _ h => h) d (k H locs ls hY hS hl)
theorem g_getsN (hC : xOK K cc own n rm) (q : Nat) {z0 : String × String × List Int32} (hq : xsts[q]? = some z0) {idx : Nat} {host : String} (hlink : (own, idx, z0.1, z0.2.1, "[I", host) ∈ xnf) {pc' : Nat} (hp : pc + 3 = pc') (d : decode cc pc = .ok (.getstatic idx, 3))
    (k : WG K E pc' lv (vt E q :: st) S) : WG K E pc lv st S := by
  subst hp
  obtain ⟨p, l, e, R, s, m, args, below, meth, c, nL, cl, sl, Q⟩ := K
  obtain ⟨hx, hb, hml, hown, hts, hlk, rfl, rfl⟩ := hC
  intro H locs ls hY hS hl
  exact x_getsN hx hb hY.1 q hq hown hlink (fun _ h => h) d (k H locs ls hY hS hl)
theorem g_tald (hC : xOK K cc own n rm) {q : Nat} {z0 : String × String × List Int32} (hq : xsts[q]? = some z0) {N : Nat} (hN : z0.2.2.length = N) {i : Int} (hi : 0 ≤ wr i ∧ wr i < (N : Int)) {pc' : Nat} (hp : pc + 1 = pc') (d : decode cc pc = .ok (.iaload, 1))
    {k0 : Nat} (hkk : (wr i).toNat = k0) (k : WG K E pc' lv (vi (tbI q k0) :: st) S) : WG K E pc lv (vi i :: vt E q :: st) S := by
  subst hp
  obtain ⟨p, l, e, R, s, m, args, below, meth, c, nL, cl, sl, Q⟩ := K
  obtain ⟨hx, hb, hml, hown, hts, hlk, rfl, rfl⟩ := hC
  intro H locs ls hY hS hl
  have k := k H locs ls hY hS hl
  subst hN
  subst hkk
  exact x_tald hx hb hY.1 q hq (ck_in hi) (by rw [i32_nat]; exact (tbI_of hq _).symm) d k
theorem g_tlen (hC : xOK K cc own n rm) {q : Nat} {z0 : String × String × List Int32} (hq : xsts[q]? = some z0) {z : Int} (hz : Int32.ofNat z0.2.2.length = Int32.ofInt z) {pc' : Nat} (hp : pc + 1 = pc') (d : decode cc pc = .ok (.arraylength, 1))
    (k : WG K E pc' lv (vi z :: st) S) : WG K E pc lv (vt E q :: st) S := by
  subst hp
  obtain ⟨p, l, e, R, s, m, args, below, meth, c, nL, cl, sl, Q⟩ := K
  obtain ⟨hx, hb, hml, hown, hts, hlk, rfl, rfl⟩ := hC
  intro H locs ls hY hS hl
  exact x_tlen hx hb hY.1 q hq hz d (k H locs ls hY hS hl)
theorem g_aald (hC : xOK K cc own n rm) (hk : xkd E r = κ) {C : String} {es : List (Nat × Nat)} (hl0 : lay κ o = some (.inr (.inr (C, es)))) {i : Int} {N : Nat} (hN : es.length = N) (hi : 0 ≤ wr i ∧ wr i < (N : Int)) {z r1 o1 : Nat} (hz : es[(wr i).toNat]? = some (z, o1)) (hr : r + z = r1) {pc' : Nat} (hp : pc + 1 = pc') (d : decode cc pc = .ok (.aaload, 1))
    (k : WG K E pc' lv (vr E r1 o1 :: st) S) : WG K E pc lv (vi i :: vr E r o :: st) S := by
  subst hp
  obtain ⟨p, l, e, R, s, m, args, below, meth, c, nL, cl, sl, Q⟩ := K
  obtain ⟨hx, hb, hml, hown, hts, hlk, rfl, rfl⟩ := hC
  intro H locs ls hY hS hl
  have k := k H locs ls hY hS hl
  subst hr hN
  exact x_aald hx hb hY.1 (by rw [hk]; exact hl0) (ck_in hi) (z := (z, o1)) (by rw [i32_nat]; exact hz) d k
theorem g_ldcS (hC : xOK K cc own n rm) (q : Nat) {z0 : String × Nat × String × List Int32} (hq : xldc[q]? = some z0) (ho : z0.1 = own) {pc' : Nat} (hp : pc + 2 = pc') (d : decode cc pc = .ok (.ldc z0.2.1, 2))
    (k : WG K E pc' lv (vs E q :: st) S) : WG K E pc lv st S := by
  subst hp
  obtain ⟨p, l, e, R, s, m, args, below, meth, c, nL, cl, sl, Q⟩ := K
  obtain ⟨hx, hb, hml, hown, hts, hlk, rfl, rfl⟩ := hC
  intro H locs ls hY hS hl
  exact x_ldcS hx hb hY.1 q hq (by rw [ho]; exact hown) d (k H locs ls hY hS hl)
theorem g_ldcSW (hC : xOK K cc own n rm) (q : Nat) {z0 : String × Nat × String × List Int32} (hq : xldc[q]? = some z0) (ho : z0.1 = own) {pc' : Nat} (hp : pc + 3 = pc') (d : decode cc pc = .ok (.ldc_w z0.2.1, 3))
    (k : WG K E pc' lv (vs E q :: st) S) : WG K E pc lv st S := by
  subst hp
  obtain ⟨p, l, e, R, s, m, args, below, meth, c, nL, cl, sl, Q⟩ := K
  obtain ⟨hx, hb, hml, hown, hts, hlk, rfl, rfl⟩ := hC
  intro H locs ls hY hS hl
  intro T hT X
  obtain ⟨t, a1, b1⟩ := k H locs ls hY hS hl T hT X
  have hZ := hY.1.2.2.2.2.1 q z0 hq
  obtain ⟨k9, cf, i9, a', hk9, hcf, hcp, -, hr9, hev'⟩ := Cond.stringRef_spec (by rw [ho]; exact hown) hZ.1
  cases hZ.2.symm.trans hev'
  obtain ⟨k', hk', he⟩ := X.warmed.alike.2.2 _ _ hk9
  have hr' : k'.resolved[z0.2.1]? = some (some (.string (xaK E q))) := by
    rcases X.warmed.entry hk9 hk' z0.2.1 with h | ⟨h, -⟩
    · rw [h]; exact hr9
    · rw [hr9] at h; cases h
  refine ⟨t, ?_, b1⟩
  jvm_step X.here [X.here.top, hx, hb, d, ldc_w.wp_string (e := e) (s := T) (f := F0 m pc ls st) X.here.top hk' (by rw [he]; exact hcf) hcp hr']
  exact a1

def vv (E : xE) (k : Nat) : Value := .ref (xaV E k)
def xby (k : Nat) (j : Nat) : Int := match xldc[k]? with
  | some z => (z.2.2.2.getD j 0).toInt
  | none => 0
def xln (k : Nat) : Nat := match xldc[k]? with
  | some z => z.2.2.2.length
  | none => 0
theorem g_strV (hC : xOK K cc own n rm) {q : Nat} (hq : q < xldc.length) {idx : Nat} (hlink : Cond.fieldLink own idx "java/lang/String" "value" "[B" ∈ xw) {pc' : Nat} (hp : pc + 3 = pc') (d : decode cc pc = .ok (.getfield idx, 3))
    (k : WG K E pc' lv (vv E q :: st) S) : WG K E pc lv (vs E q :: st) S := by
  subst hp
  obtain ⟨p, l, e, R, s, m, args, below, meth, c, nL, cl, sl, Q⟩ := K
  obtain ⟨hx, hb, hml, hown, hts, hlk, rfl, rfl⟩ := hC
  intro H locs ls hY hS hl
  obtain ⟨-, -, h3, -⟩ := hY.1.2.2.2.1.2.2 q _ (List.getElem?_eq_getElem hq)
  obtain ⟨cf, k9, fi, f, cell, h1, h2, h3, h4, h5, h6⟩ := h3
  exact W.getf hx hb hown (hts _ hlink) h1 h2 h3 h4 (v := .ref (xaV E q)) h5 rfl rfl d (k H locs ls hY hS hl)
theorem g_strC (hC : xOK K cc own n rm) {q : Nat} (hq : q < xldc.length) {idx : Nat} (hlink : Cond.fieldLink own idx "java/lang/String" "coder" "B" ∈ xw) {pc' : Nat} (hp : pc + 3 = pc') (d : decode cc pc = .ok (.getfield idx, 3))
    (k : WG K E pc' lv (vi 0 :: st) S) : WG K E pc lv (vs E q :: st) S := by
  subst hp
  obtain ⟨p, l, e, R, s, m, args, below, meth, c, nL, cl, sl, Q⟩ := K
  obtain ⟨hx, hb, hml, hown, hts, hlk, rfl, rfl⟩ := hC
  intro H locs ls hY hS hl
  obtain ⟨-, h3, -⟩ := hY.1.2.2.2.1.2.2 q _ (List.getElem?_eq_getElem hq)
  obtain ⟨cf, k9, fi, f, cell, h1, h2, h3, h4, h5, h6⟩ := h3
  exact W.getf hx hb hown (hts _ hlink) h1 h2 h3 h4 (v := .int 0) h5 rfl rfl d (k H locs ls hY hS hl)
theorem g_strS (hC : xOK K cc own n rm) {idx : Nat} (hlink : Cond.fieldLink own idx "java/lang/String" "COMPACT_STRINGS" "Z" ∈ xw) {pc' : Nat} (hp : pc + 3 = pc') (d : decode cc pc = .ok (.getstatic idx, 3))
    (k : WG K E pc' lv (vi 1 :: st) S) : WG K E pc lv st S := by
  subst hp
  obtain ⟨p, l, e, R, s, m, args, below, meth, c, nL, cl, sl, Q⟩ := K
  obtain ⟨hx, hb, hml, hown, hts, hlk, rfl, rfl⟩ := hC
  intro H locs ls hY hS hl
  obtain ⟨cf, kf, fi, f, a, cell, h1, h2, h3, h4, h5, h6, h7, h8⟩ := hY.1.2.2.2.1.2.1.1
  exact W.gets hx hb hown (hts _ hlink) h1 h2 h3 h4 h5 (fun e => by rw [e] at h6; cases h6) h7 rfl d (k H locs ls hY hS hl)
theorem g_getsQ (hC : xOK K cc own n rm) {idx : Nat} (hlink : Cond.fieldLink own idx "jdk/internal/util/Preconditions" "SIOOBE_FORMATTER" "Ljava/util/function/BiFunction;" ∈ xw) {pc' : Nat} (hp : pc + 3 = pc') (d : decode cc pc = .ok (.getstatic idx, 3))
    (k : ∀ w : Value, (w = .null ∨ ∃ a : Nat, w = .ref a) → WG K E pc' lv (w :: st) S) : WG K E pc lv st S := by
  subst hp
  obtain ⟨p, l, e, R, s, m, args, below, meth, c, nL, cl, sl, Q⟩ := K
  obtain ⟨hx, hb, hml, hown, hts, hlk, rfl, rfl⟩ := hC
  intro H locs ls hY hS hl
  rcases hY.1.2.2.2.1.2.1.2.1 with h | ⟨t, h⟩
  · obtain ⟨cf, kf, fi, f, a, cell, h1, h2, h3, h4, h5, h6, h7, h8⟩ := h
    exact W.gets hx hb hown (hts _ hlink) h1 h2 h3 h4 h5 (fun e => by rw [e] at h6; cases h6) h7 rfl d (k _ (Or.inl rfl) H locs ls hY hS hl)
  · obtain ⟨cf, kf, fi, f, a, cell, h1, h2, h3, h4, h5, h6, h7, h8⟩ := h
    exact W.gets hx hb hown (hts _ hlink) h1 h2 h3 h4 h5 (fun e => by rw [e] at h6; cases h6) h7 rfl d (k _ (Or.inr ⟨t, rfl⟩) H locs ls hY hS hl)
theorem xby_of {q : Nat} (hq : q < xldc.length) (j : Nat) : Int32.ofInt (xby q j) = (xldc[q]).2.2.2.getD j 0 := by
  unfold xby
  rw [List.getElem?_eq_getElem hq]
  exact Int32.ofInt_toInt _
theorem xln_of {q : Nat} (hq : q < xldc.length) : xln q = (xldc[q]).2.2.2.length := by
  unfold xln
  rw [List.getElem?_eq_getElem hq]
theorem g_vald (hC : xOK K cc own n rm) {q : Nat} (hq : q < xldc.length) {i : Int} (hi : 0 ≤ wr i ∧ wr i < (xln q : Int)) {pc' : Nat} (hp : pc + 1 = pc') (d : decode cc pc = .ok (.baload, 1))
    {k0 : Nat} (hkk : (wr i).toNat = k0) (k : WG K E pc' lv (vi (xby q k0) :: st) S) : WG K E pc lv (vi i :: vv E q :: st) S := by
  subst hp
  obtain ⟨p, l, e, R, s, m, args, below, meth, c, nL, cl, sl, Q⟩ := K
  obtain ⟨hx, hb, hml, hown, hts, hlk, rfl, rfl⟩ := hC
  intro H locs ls hY hS hl
  have k := k H locs ls hY hS hl
  subst hkk
  obtain ⟨-, -, -, cell, h1, h2, h3, h4, h5, h6, h7⟩ := hY.1.2.2.2.1.2.2 q _ (List.getElem?_eq_getElem hq)
  rw [xln_of hq] at hi
  obtain ⟨g1, g2⟩ := x_idx (ck_in hi) h4
  refine W.bald hx hb h1 h2 h3 g1 ((h6 _ g2).trans (congrArg (fun z => some (Value.int z)) ?_)) rfl rfl d k
  rw [i32_nat, xby_of hq]
theorem g_vlen (hC : xOK K cc own n rm) {q : Nat} (hq : q < xldc.length) {pc' : Nat} (hp : pc + 1 = pc') (d : decode cc pc = .ok (.arraylength, 1))
    (k : WG K E pc' lv (vi (xln q) :: st) S) : WG K E pc lv (vv E q :: st) S := by
  subst hp
  obtain ⟨p, l, e, R, s, m, args, below, meth, c, nL, cl, sl, Q⟩ := K
  obtain ⟨hx, hb, hml, hown, hts, hlk, rfl, rfl⟩ := hC
  intro H locs ls hY hS hl
  obtain ⟨-, -, -, cell, h1, h2, h3, h4, h5, h6, h7⟩ := hY.1.2.2.2.1.2.2 q _ (List.getElem?_eq_getElem hq)
  refine W.alen hx hb h1 h2 (h5.trans ?_) rfl rfl d (k H locs ls hY hS hl)
  rw [xln_of hq]
  rfl
theorem g_i2c (hC : xOK K cc own n rm) {x : Int} {pc' : Nat} (hp : pc + 1 = pc') (d : decode cc pc = .ok (.i2c, 1))
    (k : WG K E pc' lv (vi (iCh x) :: st) S) : WG K E pc lv (vi x :: st) S := by
  subst hp
  obtain ⟨p, l, e, R, s, m, args, below, meth, c, nL, cl, sl, Q⟩ := K
  obtain ⟨hx, hb, hml, hown, hts, hlk, rfl, rfl⟩ := hC
  intro H locs ls hY hS hl
  exact lv_i2c hx hb d (Int32.ofInt_toInt _).symm (k H locs ls hY hS hl)
end GH

