def exn : Nat → String
  | 1 => "java/lang/IndexOutOfBoundsException"
  | 2 => "java/lang/IllegalArgumentException"
  | 3 => "java/lang/IllegalStateException"
  | _ => "java/util/NoSuchElementException"
def xbad : List Cond := xdecl.map (fun x => Cond.declares x) ++ xcast.map (fun C => Cond.castable C C)
def exnames : List String := ["java/lang/RuntimeException", "java/lang/Exception"]
/-- the world without what is said of the tables -/
def YW0 (E : xE) (S : xSt) (U : State) (H : Heap) : Prop := (XCells E (tS S.2.1) S.2.2 U H ∧ XJ E ∧ XStat E U H) ∧ S.1.2 = xkd E
theorem YW0_back {E : xE} {S S' : xSt} {s t : State} {H H1 : Heap} (h : YW E S s H) (hvm : s.vm.Alike t.vm) (h1 : YW0 E S' t H1) : YW E S' s H1 :=
  ⟨⟨h.1.1, fun r o k hl => xat_moved hvm.symm (h1.1.1 r o k hl), h1.1.2.1, XStat_moved hvm.symm h1.1.2.2, h.1.2.2.2.2⟩, h1.2⟩
theorem xat_lt {E : xE} {r o : Nat} {k : xK} {f : Nat → Int32} {g : Nat → Nat × Nat} {U : State} {H : Heap} (h : xat E r o k f g U H) : xad E r o < H.size := by
  rcases k with q | q | q
  · obtain ⟨⟨c, h1, h2, cell, h3, h4⟩, h5⟩ := h
    exact (Array.getElem?_eq_some_iff.mp h3).1
  · obtain ⟨cell, h1, h2⟩ := h
    exact (Array.getElem?_eq_some_iff.mp h1).1
  · obtain ⟨cell, h1, h2⟩ := h
    exact (Array.getElem?_eq_some_iff.mp h1).1
theorem YW0_of {E : xE} {S : xSt} {s t : State} {H : Heap} (h : YW E S s H) (hvm : s.vm.Alike t.vm) (hq : ∀ q : Nat, q < H.size → t.heap[q]? = H[q]?) : YW0 E S t t.heap :=
  ⟨⟨fun r o k hl => xat_moved hvm (xat_kept (h.1.2.1 r o k hl) (hq _ (xat_lt (h.1.2.1 r o k hl)))), h.1.2.2.1, XStat_moved hvm (XStat_kept h.1.2.2.2.1 (fun a ha _ => hq a ha))⟩, h.2⟩
def YXi (E : xE) (x : Int ⊕ Nat) (S : xSt) : Array Value → State → Outcome → State → Prop := va_Qi (fun r (_ : Unit) => ∃ v, x = .inl v ∧ r = Int32.ofInt v) (fun _ t => YW E S t t.heap) (xA E)
def YXz (E : xE) (x : Int ⊕ Nat) (S : xSt) : Array Value → State → Outcome → State → Prop := va_Qi (fun r (_ : Unit) => ∃ v, x = .inl v ∧ r = Int32.ofInt v ∧ (v = 0 ∨ v = 1)) (fun _ t => YW E S t t.heap) (xA E)
def YXC (E : xE) (x : Int ⊕ Nat) (S : xSt) : String → State → State → Prop := vx_X (fun k : Nat => x = .inr k) (fun nm k t => nm = exn k ∧ YW0 E S t t.heap) (xA E)
def xEndX (K : xCtx) (E : xE) (ret : Option FieldType) (Qc : Array Value → State → Outcome → State → Prop) (XC : String → State → State → Prop) : Prop := match K with
  | (p, l, e, R, s, m, args, below, meth, c, nL, cl, sl, Q) => Q = vx_MQ below Qc XC args s 1 6 (xA E) ∧ meth.sig.returnType = ret ∧ (∀ x ∈ c.exceptionTable.toList, False) ∧ cl = 0 ∧ sl = 0 ∧ l.stackTraces = false ∧ vx_Zq Bundle.tN "UNASSIGNED_STACK" Bundle.steD (xA E) s s.heap ∧ vx_Zq Bundle.tN "SUPPRESSED_SENTINEL" Bundle.listD (xA E) s s.heap
theorem xZX {K : xCtx} {E : xE} {ret : Option FieldType} {Qc : Array Value → State → Outcome → State → Prop} {XC : String → State → State → Prop} (h : xEndX K E ret Qc XC) : xZ K := by
  obtain ⟨p, l, e, R, s, m, args, below, meth, c, nL, cl, sl, Q⟩ := K
  exact ⟨h.2.2.2.1, h.2.2.2.2.1⟩
theorem bad_hold {E : xE} {S : xSt} {s : State} {H : Heap} {args : Array Value} (hY : YW E S s H) : ∀ w ∈ xbad, w.before args s = true := by
  intro w hw
  rcases List.mem_append.mp hw with h | h
  · obtain ⟨x, h1, rfl⟩ := List.mem_map.mp h
    exact va_Nw.use rfl (hY.1.2.2.2.2.2.2.2.2.1 x h1)
  · obtain ⟨x, h1, rfl⟩ := List.mem_map.mp h
    exact va_Nw.use rfl (hY.1.2.2.2.2.2.2.2.2.2 x h1)
theorem ot_all {L : List Cond} (hat : (∀ w ∈ L.filter goodWord, w ∈ xw) ∧ ∀ w ∈ L.filter (fun w => !goodWord w), w ∈ xbad) : ∀ w ∈ L, vx_ot w = true := by
  intro w hw
  by_cases g : goodWord w = true
  · unfold vx_ot; rw [g]; exact Bool.or_true _
  · have h1 := hat.2 w (List.mem_filter.mpr ⟨hw, by simpa using g⟩)
    have h2 : xbad.all vx_ot = true := by decide +kernel
    exact List.all_eq_true.mp h2 w h1
section GX
variable {K : xCtx} {E : xE} {cc : ByteArray} {own : String} {n d0 : Nat} {pc : Nat} {lv : List (Nat × Value)} {st : List Value} {S : xSt} {r o κ : Nat}

theorem g_iretX {b : Nat} (hC : xOK K cc own n (rmE d0 b)) {x : Int ⊕ Nat} {v : Int} (hE : xEndX K E (some .int) (YXi E x S) (YXC E x S)) (hx0 : x = .inl v)  (d : decode cc pc = .ok (.ireturn, 1)) : WG K E pc lv [vi v] S := by
  obtain ⟨p, l, e, R, s, m, args, below, meth, c, nL, cl, sl, Q⟩ := K
  obtain ⟨hx, hb, hml, hown, hts, hlk, rfl, hRR⟩ := hC
  obtain ⟨rfl, hr, -, rfl, rfl, -⟩ := hE
  intro H locs ls hY hS hl
  refine vx_ret (W.widen (k := 1) (n := 6) (by omega) (by omega) ?_)
  exact W.iret hx hb hr (fun t ht hW => ⟨⟨_, (), rfl, ⟨_, hx0, rfl⟩, (show YW E S t t.heap by rw [ht]; exact YW_warm hW hY)⟩, hS.F ht⟩) hS.2.2 d hlk
theorem g_zretX {b : Nat} (hC : xOK K cc own n (rmE d0 b)) {x : Int ⊕ Nat} {v : Int} (hE : xEndX K E (some .boolean) (YXz E x S) (YXC E x S)) (hx0 : x = .inl v) (hz : v = 0 ∨ v = 1) (d : decode cc pc = .ok (.ireturn, 1)) : WG K E pc lv [vi v] S := by
  obtain ⟨p, l, e, R, s, m, args, below, meth, c, nL, cl, sl, Q⟩ := K
  obtain ⟨hx, hb, hml, hown, hts, hlk, rfl, hRR⟩ := hC
  obtain ⟨rfl, hr, -, rfl, rfl, -⟩ := hE
  intro H locs ls hY hS hl
  refine vx_ret (W.widen (k := 1) (n := 6) (by omega) (by omega) ?_)
  exact W.zret hx hb hr (xB_n (xB_z hz)) (fun t ht hW => ⟨⟨_, (), rfl, ⟨_, hx0, rfl, hz⟩, (show YW E S t t.heap by rw [ht]; exact YW_warm hW hY)⟩, hS.F ht⟩) hS.2.2 d hlk
theorem g_throwS (hC : xOK K cc own n (rmE d0 1)) {ret : Option FieldType} {Qc : Array Value → State → Outcome → State → Prop} {x : Int ⊕ Nat} (hE : xEndX K E ret Qc (YXC E x S)) {k ik ic q : Nat} (hx0 : x = .inr k) {z0 : String × Nat × String × List Int32} (hq : xldc[q]? = some z0) (ho : z0.1 = own) (hcls : Bundle.fit (exn k) = true) (hk : Cond.classLink own ik (exn k) ∈ xw) (hini : Cond.initialized (exn k) ∈ xw) (hat : (∀ w ∈ (vx_atS own ic (exn k) exnames).filter goodWord, w ∈ xw) ∧ ∀ w ∈ (vx_atS own ic (exn k) exnames).filter (fun w => !goodWord w), w ∈ xbad) (hd : 6 ≤ d0) (hst : (st.map fun v => v.category).sum ≤ 8)
    (d : decode cc pc = .ok (.new ik, 3)) (d3 : decode cc (pc + 3) = .ok (.dup, 1)) (d4 : decode cc (pc + 4) = .ok (.ldc z0.2.1, 2)) (d6 : decode cc (pc + 6) = .ok (.invokespecial ic, 3)) (d9 : decode cc (pc + 9) = .ok (.athrow, 1)) : WG K E pc lv st S := by
  obtain ⟨p, l, e, R, s, m, args, below, meth, c, nL, cl, sl, Q⟩ := K
  obtain ⟨hx, hb, hml, hown, hts, hlk, rfl, hRR⟩ := hC
  obtain ⟨rfl, hr, hno, rfl, rfl, htr, hzU, hzN⟩ := hE
  intro H locs ls hY hS hl
  subst ho
  have gd : ∀ w ∈ xw, vx_ot w = true := fun w hw => by
    have := (List.mem_filter.mp hw).2
    unfold vx_ot
    rw [this]
    exact Bool.or_true _
  refine vx_throwS (A := xA E) hx hb htr hown hcls (by decide +kernel) (hts _ hk) (hts _ hini) (hY.1.2.2.2.2.1 q z0 hq) (vx_hat (fun w hw => hts w (hat.1 w hw)) hat.2 (bad_hold hY)) (fun w hw => ?_) hzU hzN hS (hl.1.trans hml.symm) d d3 d4 d6 d9 (fun z hz => (hno z hz).elim) ?_ ?_ ?_ ?_ hlk (fun t hvm hz hk2 => ?_) hS.2.2 (by omega) (by omega)
  · rcases List.mem_cons.mp hw with rfl | hw
    · exact gd _ hk
    · rcases List.mem_cons.mp hw with rfl | hw
      · exact gd _ hini
      · exact ot_all hat w hw
  · rw [hRR]; show 2 + 3 < d0; omega
  · rw [hRR]; show _ + (13 * 3 + 43) ≤ 64 * d0; omega
  · rw [hRR]; exact Nat.le_refl _
  · rw [hRR]; exact Nat.le_refl _
  · exact ⟨k, hx0, ⟨rfl, YW0_of hY hvm hk2⟩, ⟨Nat.le_trans hS.1 hz, fun q h1 h2 => by rw [hk2 q (Nat.lt_of_lt_of_le h1 hS.1)]; exact hS.2.1 q h1 h2⟩⟩
theorem g_throwW (hC : xOK K cc own n (rmE d0 1)) {ret : Option FieldType} {Qc : Array Value → State → Outcome → State → Prop} {x : Int ⊕ Nat} (hE : xEndX K E ret Qc (YXC E x S)) {k ik ic q : Nat} (hx0 : x = .inr k) {z0 : String × Nat × String × List Int32} (hq : xldc[q]? = some z0) (ho : z0.1 = own) (hcls : Bundle.fit (exn k) = true) (hk : Cond.classLink own ik (exn k) ∈ xw) (hini : Cond.initialized (exn k) ∈ xw) (hat : (∀ w ∈ (vx_atS own ic (exn k) exnames).filter goodWord, w ∈ xw) ∧ ∀ w ∈ (vx_atS own ic (exn k) exnames).filter (fun w => !goodWord w), w ∈ xbad) (hd : 6 ≤ d0) (hst : (st.map fun v => v.category).sum ≤ 8)
    (d : decode cc pc = .ok (.new ik, 3)) (d3 : decode cc (pc + 3) = .ok (.dup, 1)) (d4 : decode cc (pc + 4) = .ok (.ldc_w z0.2.1, 3)) (d6 : decode cc (pc + 7) = .ok (.invokespecial ic, 3)) (d9 : decode cc (pc + 10) = .ok (.athrow, 1)) : WG K E pc lv st S := by
  obtain ⟨p, l, e, R, s, m, args, below, meth, c, nL, cl, sl, Q⟩ := K
  obtain ⟨hx, hb, hml, hown, hts, hlk, rfl, hRR⟩ := hC
  obtain ⟨rfl, hr, hno, rfl, rfl, htr, hzU, hzN⟩ := hE
  intro H locs ls hY hS hl
  subst ho
  have gd : ∀ w ∈ xw, vx_ot w = true := fun w hw => by
    have := (List.mem_filter.mp hw).2
    unfold vx_ot
    rw [this]
    exact Bool.or_true _
  refine vx_throwSW (A := xA E) hx hb htr hown hcls (by decide +kernel) (hts _ hk) (hts _ hini) (hY.1.2.2.2.2.1 q z0 hq) (vx_hat (fun w hw => hts w (hat.1 w hw)) hat.2 (bad_hold hY)) (fun w hw => ?_) hzU hzN hS (hl.1.trans hml.symm) d d3 d4 d6 d9 (fun z hz => (hno z hz).elim) ?_ ?_ ?_ ?_ hlk (fun t hvm hz hk2 => ?_) hS.2.2 (by omega) (by omega)
  · rcases List.mem_cons.mp hw with rfl | hw
    · exact gd _ hk
    · rcases List.mem_cons.mp hw with rfl | hw
      · exact gd _ hini
      · exact ot_all hat w hw
  · rw [hRR]; show 2 + 3 < d0; omega
  · rw [hRR]; show _ + (13 * 3 + 43) ≤ 64 * d0; omega
  · rw [hRR]; exact Nat.le_refl _
  · rw [hRR]; exact Nat.le_refl _
  · exact ⟨k, hx0, ⟨rfl, YW0_of hY hvm hk2⟩, ⟨Nat.le_trans hS.1 hz, fun q h1 h2 => by rw [hk2 q (Nat.lt_of_lt_of_le h1 hS.1)]; exact hS.2.1 q h1 h2⟩⟩
theorem ns_split {own : String} {ic : Nat} {w : Cond} (h : w ∈ nsS own ic) : w = .methodLink own ic (Bundle.initS nsN) ∨ w ∈ nsS RX11 218 := by
  by_cases e : w = .methodLink own ic (Bundle.initS nsN)
  · exact Or.inl e
  refine Or.inr ?_
  obtain ⟨h1, h2⟩ := List.mem_filter.mp h
  refine List.mem_filter.mpr ⟨?_, h2⟩
  rcases List.mem_append.mp h1 with h3 | h3
  · exact List.mem_append_left _ h3
  · obtain ⟨h4, h5⟩ := List.mem_filter.mp h3
    refine List.mem_append_right _ (List.mem_filter.mpr ⟨?_, h5⟩)
    simp only [Bundle.ownAtoms, List.mem_append, List.mem_cons] at h4 ⊢
    rcases h4 with h4 | h4
    · exact Or.inl h4
    · rcases h4 with h4 | h4
      · exact absurd h4 e
      · exact Or.inr (Or.inr h4)
theorem ns_at : (∀ w ∈ (nsS RX11 218).filter goodWord, w ∈ xw) ∧ ∀ w ∈ (nsS RX11 218).filter (fun w => !goodWord w), w ∈ xbad := by
  have h : ((nsS RX11 218).filter goodWord).all (fun w => lw_tbl.contains w && goodWord w) = true := by decide +kernel
  have h2 : ((nsS RX11 218).filter (fun w => !goodWord w)).all (fun w => xbad.contains w) = true := by decide +kernel
  refine ⟨fun w hw => ?_, fun w hw => ?_⟩
  · have h1 := List.all_eq_true.mp h w hw
    simp only [Bool.and_eq_true, List.contains_iff_mem] at h1
    exact xw_of h1.1 h1.2
  · have h1 := List.all_eq_true.mp h2 w hw
    simp only [List.contains_iff_mem] at h1
    exact h1
/-- NoSuchElementException: its maker's link to RuntimeException's stands at another place (13) than the kit's words have it: part 14.n -/
theorem g_throwSN (hC : xOK K cc own n (rmE d0 1)) {ret : Option FieldType} {Qc : Array Value → State → Outcome → State → Prop} {x : Int ⊕ Nat} (hE : xEndX K E ret Qc (YXC E x S)) {ik ic q : Nat} (hx0 : x = .inr 4) {z0 : String × Nat × String × List Int32} (hq : xldc[q]? = some z0) (ho : z0.1 = own) (hcls : Bundle.fit (exn 4) = true) (hk : Cond.classLink own ik (exn 4) ∈ xw) (hini : Cond.initialized (exn 4) ∈ xw) (hml : Cond.methodLink own ic ⟨exn 4, "<init>", "(Ljava/lang/String;)V"⟩ ∈ xw) (hd : 6 ≤ d0) (hst : (st.map fun v => v.category).sum ≤ 8)
    (d : decode cc pc = .ok (.new ik, 3)) (d3 : decode cc (pc + 3) = .ok (.dup, 1)) (d4 : decode cc (pc + 4) = .ok (.ldc z0.2.1, 2)) (d6 : decode cc (pc + 6) = .ok (.invokespecial ic, 3)) (d9 : decode cc (pc + 9) = .ok (.athrow, 1)) : WG K E pc lv st S := by
  obtain ⟨p, l, e, R, s, m, args, below, meth, c, nL, cl, sl, Q⟩ := K
  obtain ⟨hx, hb, hmx, hown, hts, hlk, rfl, hRR⟩ := hC
  obtain ⟨rfl, hr, hno, rfl, rfl, htr, hzU, hzN⟩ := hE
  intro H locs ls hY hS hl
  subst ho
  have gd : ∀ w ∈ xw, vx_ot w = true := fun w hw => by
    have := (List.mem_filter.mp hw).2
    unfold vx_ot
    rw [this]
    exact Bool.or_true _
  refine ns_throwS (A := xA E) hx hb htr hown (hts _ hk) (hts _ hini) (hY.1.2.2.2.2.1 q z0 hq) (fun w hw => (ns_split hw).elim (fun e9 => by rw [e9]; exact hts _ hml) (fun h9 => vx_hat (fun w hw => hts w (ns_at.1 w hw)) ns_at.2 (bad_hold hY) w h9)) (hts _ hml) (fun w hw => ?_) hzU hzN hS (hl.1.trans hmx.symm) d d3 d4 d6 d9 (fun z hz => (hno z hz).elim) ?_ ?_ ?_ ?_ hlk (fun t hvm hz hk2 => ?_) hS.2.2 (by omega) (by omega)
  · rcases List.mem_cons.mp hw with rfl | hw
    · exact gd _ hk
    · rcases List.mem_cons.mp hw with rfl | hw
      · exact gd _ hini
      · rcases List.mem_cons.mp hw with rfl | hw
        · exact gd _ hml
        · rcases ns_split hw with rfl | hw
          · exact gd _ hml
          · exact ot_all ns_at w hw
  · rw [hRR]; show 5 < d0; omega
  · rw [hRR]; show _ + 82 ≤ 64 * d0; omega
  · rw [hRR]; exact Nat.le_refl _
  · rw [hRR]; exact Nat.le_refl _
  · exact ⟨4, hx0, ⟨rfl, YW0_of hY hvm hk2⟩, ⟨Nat.le_trans hS.1 hz, fun q h1 h2 => by rw [hk2 q (Nat.lt_of_lt_of_le h1 hS.1)]; exact hS.2.1 q h1 h2⟩⟩
/-- NoSuchElementException: its maker's link to RuntimeException's stands at another place (13) than the kit's words have it: part 14.n -/
theorem g_throwWN (hC : xOK K cc own n (rmE d0 1)) {ret : Option FieldType} {Qc : Array Value → State → Outcome → State → Prop} {x : Int ⊕ Nat} (hE : xEndX K E ret Qc (YXC E x S)) {ik ic q : Nat} (hx0 : x = .inr 4) {z0 : String × Nat × String × List Int32} (hq : xldc[q]? = some z0) (ho : z0.1 = own) (hcls : Bundle.fit (exn 4) = true) (hk : Cond.classLink own ik (exn 4) ∈ xw) (hini : Cond.initialized (exn 4) ∈ xw) (hml : Cond.methodLink own ic ⟨exn 4, "<init>", "(Ljava/lang/String;)V"⟩ ∈ xw) (hd : 6 ≤ d0) (hst : (st.map fun v => v.category).sum ≤ 8)
    (d : decode cc pc = .ok (.new ik, 3)) (d3 : decode cc (pc + 3) = .ok (.dup, 1)) (d4 : decode cc (pc + 4) = .ok (.ldc_w z0.2.1, 3)) (d6 : decode cc (pc + 7) = .ok (.invokespecial ic, 3)) (d9 : decode cc (pc + 10) = .ok (.athrow, 1)) : WG K E pc lv st S := by
  obtain ⟨p, l, e, R, s, m, args, below, meth, c, nL, cl, sl, Q⟩ := K
  obtain ⟨hx, hb, hmx, hown, hts, hlk, rfl, hRR⟩ := hC
  obtain ⟨rfl, hr, hno, rfl, rfl, htr, hzU, hzN⟩ := hE
  intro H locs ls hY hS hl
  subst ho
  have gd : ∀ w ∈ xw, vx_ot w = true := fun w hw => by
    have := (List.mem_filter.mp hw).2
    unfold vx_ot
    rw [this]
    exact Bool.or_true _
  refine ns_throwSW (A := xA E) hx hb htr hown (hts _ hk) (hts _ hini) (hY.1.2.2.2.2.1 q z0 hq) (fun w hw => (ns_split hw).elim (fun e9 => by rw [e9]; exact hts _ hml) (fun h9 => vx_hat (fun w hw => hts w (ns_at.1 w hw)) ns_at.2 (bad_hold hY) w h9)) (hts _ hml) (fun w hw => ?_) hzU hzN hS (hl.1.trans hmx.symm) d d3 d4 d6 d9 (fun z hz => (hno z hz).elim) ?_ ?_ ?_ ?_ hlk (fun t hvm hz hk2 => ?_) hS.2.2 (by omega) (by omega)
  · rcases List.mem_cons.mp hw with rfl | hw
    · exact gd _ hk
    · rcases List.mem_cons.mp hw with rfl | hw
      · exact gd _ hini
      · rcases List.mem_cons.mp hw with rfl | hw
        · exact gd _ hml
        · rcases ns_split hw with rfl | hw
          · exact gd _ hml
          · exact ot_all ns_at w hw
  · rw [hRR]; show 5 < d0; omega
  · rw [hRR]; show _ + 82 ≤ 64 * d0; omega
  · rw [hRR]; exact Nat.le_refl _
  · rw [hRR]; exact Nat.le_refl _
  · exact ⟨4, hx0, ⟨rfl, YW0_of hY hvm hk2⟩, ⟨Nat.le_trans hS.1 hz, fun q h1 h2 => by rw [hk2 q (Nat.lt_of_lt_of_le h1 hS.1)]; exact hS.2.1 q h1 h2⟩⟩
theorem metX_i {l : Launch} (htr : l.stackTraces = false) {y : MethodName} {nL d1 : Nat} {S S' : xSt} {avs : List Value} {x : Int ⊕ Nat} (hy : plainName y.cls = true) (hn : (lg_sl avs).length ≤ nL) (body : ∀ K, xOK K cc y.cls nL (rmE d1 1) → xEndX K E (some .int) (YXi E x S') (YXC E x S') → WG K E 0 (lv_args 0 avs) [] S) : vx_Met l y (xws y cc nL (some .int)) (rmE d1 1) (YPc E avs S) (YXi E x S') (YXC E x S') 1 6 (xA E) := by
  refine vx_ofW (cc := cc) (maxL := nL) (ret := some .int) hy rfl ?_
  intro p e s m args below meth c s₁ B hml hno hv
  obtain ⟨rfl, hY⟩ := hv
  have hts := atoms_spec (ws := xws y cc nL (some .int)) B.pre
  rw [lg_entry_eq]
  exact body (p, l, e, rmE d1 1, s, m, avs.toArray, below, meth, c, nL, 0, 0, _) ⟨B.exec, B.bytes, hml, findClass_of_methodNamed B.named, fun w hw => hts w (List.mem_cons_of_mem _ hw), B.notSynchronized, rfl, rfl⟩ ⟨rfl, B.returns, hno, rfl, rfl, htr, hY.1.2.2.2.1.2.1.2.2.1, hY.1.2.2.2.1.2.1.2.2.2⟩ s.heap [] _ hY va_S.rf (lv_entry avs hn)
theorem metX_z {l : Launch} (htr : l.stackTraces = false) {y : MethodName} {nL d1 : Nat} {S S' : xSt} {avs : List Value} {x : Int ⊕ Nat} (hy : plainName y.cls = true) (hn : (lg_sl avs).length ≤ nL) (body : ∀ K, xOK K cc y.cls nL (rmE d1 1) → xEndX K E (some .boolean) (YXz E x S') (YXC E x S') → WG K E 0 (lv_args 0 avs) [] S) : vx_Met l y (xws y cc nL (some .boolean)) (rmE d1 1) (YPc E avs S) (YXz E x S') (YXC E x S') 1 6 (xA E) := by
  refine vx_ofW (cc := cc) (maxL := nL) (ret := some .boolean) hy rfl ?_
  intro p e s m args below meth c s₁ B hml hno hv
  obtain ⟨rfl, hY⟩ := hv
  have hts := atoms_spec (ws := xws y cc nL (some .boolean)) B.pre
  rw [lg_entry_eq]
  exact body (p, l, e, rmE d1 1, s, m, avs.toArray, below, meth, c, nL, 0, 0, _) ⟨B.exec, B.bytes, hml, findClass_of_methodNamed B.named, fun w hw => hts w (List.mem_cons_of_mem _ hw), B.notSynchronized, rfl, rfl⟩ ⟨rfl, B.returns, hno, rfl, rfl, htr, hY.1.2.2.2.1.2.1.2.2.1, hY.1.2.2.2.1.2.1.2.2.2⟩ s.heap [] _ hY va_S.rf (lv_entry avs hn)
/-- one exception's room has gone -/
def bump : xCtx → xCtx
  | (p, l, e, R, s, m, args, below, meth, c, nL, cl, sl, Q) => (p, l, e, R, s, m, args, below, meth, c, nL, cl + 1, sl + 6, Q)
theorem bump_ok {K : xCtx} {rm : Room} (h : xOK K cc own n rm) : xOK (bump K) cc own n rm := by
  obtain ⟨p, l, e, R, s, m, args, below, meth, c, nL, cl, sl, Q⟩ := K
  exact h
/-- the method's table of handlers, and the launch -/
def xHd (K : xCtx) (tb : List ExceptionTableEntry) : Prop := match K with
  | (p, l, e, R, s, m, args, below, meth, c, nL, cl, sl, Q) => c.exceptionTable.toList = tb ∧ l.stackTraces = false
theorem cw_X {R : Room} {s : State} {args : Array Value} {own C : String} {y : MethodName} {bytes : ByteArray} {maxL : Nat} {ret : Option FieldType} {na idx d d' : Nat} (hts : ∀ w ∈ xw, w.before args s = true) (hy : mI y C bytes maxL ret na) (hlink : Cond.methodLink own idx y ∈ xw) (hR : d' + 1 ≤ d) (hr : R = rmE d 1) : CallW R s args own C idx y bytes maxL ret (xws y bytes maxL ret) (rmE d' 1) 1 6 na := by
  subst hr
  refine cwV na hts (good_all fun w hw => ?_) rfl rfl rfl hy.2.1 (rm_ok (b := 1) hR hy.2.2)
  rcases List.mem_append.mp hw with h | h
  · simp only [List.mem_cons, List.not_mem_nil, or_false] at h
    rcases h with rfl | rfl | rfl | rfl
    · exact hlink
    · exact hy.1.1
    · exact hy.1.2.1
    · exact hy.1.2.2.1
  · rcases List.mem_cons.mp h with rfl | h
    · exact hy.1.2.2.2
    · exact h

theorem g_callXi (hC : xOK K cc own n (rmE d0 1)) (hZ : xZ K) {tb : List ExceptionTableEntry} (hH : xHd K tb) (hk : xkd E r = κ) {ci : Nat} {C : String} {T : u_T} {N : Nat} {ty : Nat → FieldType} (hc : xCl ci C T N ty) {fs : List xF} (hl0 : lay κ o = some (.inl (ci, fs))) {y : MethodName} {bytes : ByteArray} {maxL na idx d' : Nat} (hy : mI y C bytes maxL (some .int) na) (hlink : Cond.methodLink own idx y ∈ xw) (hR : d' + 1 ≤ d0) (As : List Value) {st0 : List Value} (hst : st0 = As.reverse ++ vr E r o :: st) {x : Int ⊕ Nat} {S1 : xSt} (hM : ∀ l : Launch, l.stackTraces = false → vx_Met l y (xws y bytes maxL (some .int)) (rmE d' 1) (YPc E (vr E r o :: As) S) (YXi E x S1) (YXC E x S1) 1 6 (xA E)) (hn : As.length = na) (hcat : (st.map fun v => v.category).sum ≤ 8) (d : decode cc pc = .ok (.invokevirtual idx, 3))
    (kx : ∀ k, x = .inr k → ∃ (pre : List ExceptionTableEntry) (h : ExceptionTableEntry) (suf : List ExceptionTableEntry), tb = pre ++ h :: suf ∧ (∀ z ∈ pre, z.catchType ≠ 0 ∧ Cond.classLink own z.catchType "java/lang/IllegalArgumentException" ∈ xw ∧ k = 3) ∧ covers h pc = true ∧ h.catchType ≠ 0 ∧ Cond.classLink own h.catchType (exn k) ∈ xw ∧ exn k ∈ xcast ∧ ∀ a : Nat, WG (bump K) E h.handlerPc lv [.ref a] S1)
    (k : ∀ v, x = .inl v → WG (bump K) E (pc + 3) lv (vi v :: st) S1) : WG K E pc lv st0 S := by
  obtain ⟨p, l, e, R, s, m, args, below, meth, c, nL, cl, sl, Q⟩ := K
  obtain ⟨hx, hb, hml, hown, hts, hlk, rfl, hRR⟩ := hC
  obtain ⟨rfl, rfl⟩ := hZ
  obtain ⟨htb, htr⟩ := hH
  intro H locs ls hY hS hl
  subst hst
  refine vx_calli (vx_runV (As := As) (rest := st) ⟨hx, hb, hml, hown, hts⟩ (hM l htr) (cw_X hts hy hlink hR hRR) (YPreV hY (by rw [hk]; exact hl0) hc.1) rfl hn hl.1 rfl (lv_room hcat) d ⟨by rw [hRR]; exact Nat.le_refl _, by rw [hRR]; exact Nat.le_refl _⟩) hS (fun q _ h => h) (fun q h => h) (fun q _ h => h) (fun E0 ce q9 u t H1 locs1 ht hvm hw hB _ _ hS1 hce hcv hcl => ?_) (fun r9 u t H1 locs1 ht hvm hw hB _ _ hS1 => ?_)
  · obtain ⟨hE0, hB⟩ := hB
    subst hE0 ht
    obtain ⟨pre, h, suf, e1, e2, e3, e4, e5, e6, e7⟩ := kx u hw
    refine vx_catch hown pre h suf (htb.trans e1) (fun z hz => ?_) e3 e4 (hts _ e5) (bad_hold hY _ (List.mem_append_right _ (List.mem_map.mpr ⟨_, e6, rfl⟩))) hce hcv hcl (e7 q9 _ locs1 ls (YW0_back hY hvm hB) hS1 hl)
    obtain ⟨f1, f2, f3⟩ := e2 z hz
    subst f3
    exact Or.inr ⟨f1, _, hts _ f2, hY.1.2.2.2.2.2.2.2.1⟩
  · obtain ⟨v, hv, hw⟩ := hw
    subst hw ht
    exact k v hv _ locs1 ls (YW_back hY hvm hB) hS1 hl
theorem g_callXz (hC : xOK K cc own n (rmE d0 1)) (hZ : xZ K) {tb : List ExceptionTableEntry} (hH : xHd K tb) (hk : xkd E r = κ) {ci : Nat} {C : String} {T : u_T} {N : Nat} {ty : Nat → FieldType} (hc : xCl ci C T N ty) {fs : List xF} (hl0 : lay κ o = some (.inl (ci, fs))) {y : MethodName} {bytes : ByteArray} {maxL na idx d' : Nat} (hy : mI y C bytes maxL (some .boolean) na) (hlink : Cond.methodLink own idx y ∈ xw) (hR : d' + 1 ≤ d0) (As : List Value) {st0 : List Value} (hst : st0 = As.reverse ++ vr E r o :: st) {x : Int ⊕ Nat} {S1 : xSt} (hM : ∀ l : Launch, l.stackTraces = false → vx_Met l y (xws y bytes maxL (some .boolean)) (rmE d' 1) (YPc E (vr E r o :: As) S) (YXz E x S1) (YXC E x S1) 1 6 (xA E)) (hn : As.length = na) (hcat : (st.map fun v => v.category).sum ≤ 8) (d : decode cc pc = .ok (.invokevirtual idx, 3))
    (kx : ∀ k, x = .inr k → ∃ (pre : List ExceptionTableEntry) (h : ExceptionTableEntry) (suf : List ExceptionTableEntry), tb = pre ++ h :: suf ∧ (∀ z ∈ pre, z.catchType ≠ 0 ∧ Cond.classLink own z.catchType "java/lang/IllegalArgumentException" ∈ xw ∧ k = 3) ∧ covers h pc = true ∧ h.catchType ≠ 0 ∧ Cond.classLink own h.catchType (exn k) ∈ xw ∧ exn k ∈ xcast ∧ ∀ a : Nat, WG (bump K) E h.handlerPc lv [.ref a] S1)
    (k : ∀ v, x = .inl v → (v = 0 ∨ v = 1) → WG (bump K) E (pc + 3) lv (vi v :: st) S1) : WG K E pc lv st0 S := by
  obtain ⟨p, l, e, R, s, m, args, below, meth, c, nL, cl, sl, Q⟩ := K
  obtain ⟨hx, hb, hml, hown, hts, hlk, rfl, hRR⟩ := hC
  obtain ⟨rfl, rfl⟩ := hZ
  obtain ⟨htb, htr⟩ := hH
  intro H locs ls hY hS hl
  subst hst
  refine vx_calli (vx_runV (As := As) (rest := st) ⟨hx, hb, hml, hown, hts⟩ (hM l htr) (cw_X hts hy hlink hR hRR) (YPreV hY (by rw [hk]; exact hl0) hc.1) rfl hn hl.1 rfl (lv_room hcat) d ⟨by rw [hRR]; exact Nat.le_refl _, by rw [hRR]; exact Nat.le_refl _⟩) hS (fun q _ h => h) (fun q h => h) (fun q _ h => h) (fun E0 ce q9 u t H1 locs1 ht hvm hw hB _ _ hS1 hce hcv hcl => ?_) (fun r9 u t H1 locs1 ht hvm hw hB _ _ hS1 => ?_)
  · obtain ⟨hE0, hB⟩ := hB
    subst hE0 ht
    obtain ⟨pre, h, suf, e1, e2, e3, e4, e5, e6, e7⟩ := kx u hw
    refine vx_catch hown pre h suf (htb.trans e1) (fun z hz => ?_) e3 e4 (hts _ e5) (bad_hold hY _ (List.mem_append_right _ (List.mem_map.mpr ⟨_, e6, rfl⟩))) hce hcv hcl (e7 q9 _ locs1 ls (YW0_back hY hvm hB) hS1 hl)
    obtain ⟨f1, f2, f3⟩ := e2 z hz
    subst f3
    exact Or.inr ⟨f1, _, hts _ f2, hY.1.2.2.2.2.2.2.2.1⟩
  · obtain ⟨v, hv, hw, hz⟩ := hw
    subst hw ht
    exact k v hv hz _ locs1 ls (YW_back hY hvm hB) hS1 hl
/-- a method with handlers, that throws nothing -/
theorem metW {l : Launch} (htr : l.stackTraces = false) {y : MethodName} {nL d1 : Nat} {S S' : xSt} {avs : List Value} {v : Int} {hh : List (Nat × Nat × Nat × Nat)} (hy : plainName y.cls = true) (hn : (lg_sl avs).length ≤ nL) (body : ∀ K, xOK K cc y.cls nL (rmE d1 1) → xZ K → xHd K (tableOf hh) → xEnd (bump K) E (some .int) (YQi E v S') → WG K E 0 (lv_args 0 avs) [] S) : Met l y (Cond.codeWith y cc nL (some .int) hh :: xw) (rmE d1 1) (YPc E avs S) (YQi E v S') 1 6 (xA E) := by
  refine MetFree.of_bodyS (code := cc) (maxLocals := nL) (ret := some .int) hy ?_ ?_
  · intro args s m h hn2
    obtain ⟨m9, meth, c, hn9, h1, h2, h3, h4, -, h5, h6, -⟩ := Cond.codeWith_spec (atoms_spec (ws := Cond.codeWith y cc nL (some .int) hh :: xw) h _ List.mem_cons_self)
    cases hn2.symm.trans hn9
    exact ⟨meth, c, h1, h2, h3, h4, h5, h6⟩
  · intro p e s m args below meth c s₁ B hml hP _
    have hh0 : s₁.heap = s.heap := by rw [B.state]; rfl
    obtain ⟨rfl, hY⟩ := hP
    have hts := atoms_spec (ws := Cond.codeWith y cc nL (some .int) hh :: xw) B.pre
    have k := body (p, l, e, rmE d1 1, s, m, avs.toArray, below, meth, c, nL, 0, 0, _) ⟨B.exec, B.bytes, hml, findClass_of_methodNamed B.named, fun w hw => hts w (List.mem_cons_of_mem _ hw), B.notSynchronized, rfl, rfl⟩ ⟨rfl, rfl⟩ ⟨vx_table (x := y) B (hts _ List.mem_cons_self), htr⟩ ⟨rfl, B.returns⟩ s.heap [] _ hY va_S.rf (lv_entry avs hn)
    have k2 : W p l e (rmE d1 1) s m avs.toArray below meth c s.heap [] 0 0 (MQ below (YQi E v S') avs.toArray s (0 + 1) (0 + 6) (xA E)) (entryFrame m avs.toArray nL) := by rw [lg_entry_eq]; exact k
    obtain ⟨t, a1, o, b1, b2, b3⟩ := k2 s₁ hh0 (Stand.of_body B)
    exact ⟨t, o, a1, b1, b2, ⟨b3.1, b3.2⟩⟩
def ckX {β : Type} (x : Int ⊕ Nat) (f : Int → Option β) (g : Nat → Option β) : Option β := match x with
  | .inl v => f v
  | .inr k => g k
theorem ckX_l {β : Type} {v : Int} {f : Int → Option β} {g : Nat → Option β} : ckX (.inl v) f g = f v := rfl
theorem ckX_r {β : Type} {k : Nat} {f : Int → Option β} {g : Nat → Option β} : ckX (.inr k) f g = g k := rfl
theorem fit1 : Bundle.fit (exn 1) = true := by decide +kernel
theorem fit2 : Bundle.fit (exn 2) = true := by decide +kernel
theorem fit3 : Bundle.fit (exn 3) = true := by decide +kernel
theorem fit4 : Bundle.fit (exn 4) = true := by decide +kernel
theorem cst_4 : exn 4 ∈ xcast := by decide +kernel

theorem at_148 : (∀ w ∈ (vx_atS RX11 148 (exn 1) exnames).filter goodWord, w ∈ xw) ∧ ∀ w ∈ (vx_atS RX11 148 (exn 1) exnames).filter (fun w => !goodWord w), w ∈ xbad := by
  have h : ((vx_atS RX11 148 (exn 1) exnames).filter goodWord).all (fun w => lw_tbl.contains w && goodWord w) = true := by decide +kernel
  have h2 : ((vx_atS RX11 148 (exn 1) exnames).filter (fun w => !goodWord w)).all (fun w => xbad.contains w) = true := by decide +kernel
  refine ⟨fun w hw => ?_, fun w hw => ?_⟩
  · have h1 := List.all_eq_true.mp h w hw
    simp only [Bool.and_eq_true, List.contains_iff_mem] at h1
    exact xw_of h1.1 h1.2
  · have h1 := List.all_eq_true.mp h2 w hw
    simp only [List.contains_iff_mem] at h1
    exact h1
theorem cst_1 : exn 1 ∈ xcast := by decide +kernel
theorem at_202 : (∀ w ∈ (vx_atS RX11 202 (exn 2) exnames).filter goodWord, w ∈ xw) ∧ ∀ w ∈ (vx_atS RX11 202 (exn 2) exnames).filter (fun w => !goodWord w), w ∈ xbad := by
  have h : ((vx_atS RX11 202 (exn 2) exnames).filter goodWord).all (fun w => lw_tbl.contains w && goodWord w) = true := by decide +kernel
  have h2 : ((vx_atS RX11 202 (exn 2) exnames).filter (fun w => !goodWord w)).all (fun w => xbad.contains w) = true := by decide +kernel
  refine ⟨fun w hw => ?_, fun w hw => ?_⟩
  · have h1 := List.all_eq_true.mp h w hw
    simp only [Bool.and_eq_true, List.contains_iff_mem] at h1
    exact xw_of h1.1 h1.2
  · have h1 := List.all_eq_true.mp h2 w hw
    simp only [List.contains_iff_mem] at h1
    exact h1
theorem cst_2 : exn 2 ∈ xcast := by decide +kernel
theorem at_320 : (∀ w ∈ (vx_atS RX11 320 (exn 3) exnames).filter goodWord, w ∈ xw) ∧ ∀ w ∈ (vx_atS RX11 320 (exn 3) exnames).filter (fun w => !goodWord w), w ∈ xbad := by
  have h : ((vx_atS RX11 320 (exn 3) exnames).filter goodWord).all (fun w => lw_tbl.contains w && goodWord w) = true := by decide +kernel
  have h2 : ((vx_atS RX11 320 (exn 3) exnames).filter (fun w => !goodWord w)).all (fun w => xbad.contains w) = true := by decide +kernel
  refine ⟨fun w hw => ?_, fun w hw => ?_⟩
  · have h1 := List.all_eq_true.mp h w hw
    simp only [Bool.and_eq_true, List.contains_iff_mem] at h1
    exact xw_of h1.1 h1.2
  · have h1 := List.all_eq_true.mp h2 w hw
    simp only [List.contains_iff_mem] at h1
    exact h1
theorem cst_3 : exn 3 ∈ xcast := by decide +kernel
theorem nse_218 : Cond.methodLink RX11 218 ⟨exn 4, "<init>", "(Ljava/lang/String;)V"⟩ ∈ xw := xw_of (wt_4_14_in _ (List.mem_of_getElem? (i := 13) rfl)) rfl
end GX
