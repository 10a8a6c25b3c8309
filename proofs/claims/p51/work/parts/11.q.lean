theorem xat_lt {E : xE} {r o : Nat} {k : xK} {f : Nat → Int32} {g : Nat → Nat × Nat} {U : State} {H : Heap} (h : xat E r o k f g U H) : xad E r o < H.size := by
  rcases k with q | q | q
  · obtain ⟨⟨c, h1, h2, cell, h3, h4⟩, h5⟩ := h
    exact (Array.getElem?_eq_some_iff.mp h3).1
  · obtain ⟨cell, h1, h2⟩ := h
    exact (Array.getElem?_eq_some_iff.mp h1).1
  · obtain ⟨cell, h1, h2⟩ := h
    exact (Array.getElem?_eq_some_iff.mp h1).1
def ck0 {β : Type} (z : Int) (k : Option β) : Option β := if z = 0 then k else none
theorem ck0_i {β : Type} {z : Int} {k : Option β} {r : β} (h : ck0 z k = some r) : z = 0 ∧ k = some r := by
  unfold ck0 at h
  by_cases c : z = 0
  · rw [if_pos c] at h; exact ⟨c, h⟩
  · rw [if_neg c] at h; cases h
theorem ck0_e {β : Type} {z : Int} {k : Option β} (h : z = 0) : ck0 z k = k := if_pos h
section GQ
variable {K : xCtx} {E : xE} {cc : ByteArray} {own : String} {n : Nat} {rm : Room} {pc : Nat} {lv : List (Nat × Value)} {st : List Value} {S : xSt} {r o κ : Nat}
theorem g_qld (hC : xOK K cc own n rm) {L : Nat} {sc : Nat → Int} (hq : xsL E = L ∧ xsc E = sc) {i : Int} (hi : 0 ≤ wr i ∧ wr i < (L : Int)) {pc' : Nat} (hp : pc + 1 = pc') (d : decode cc pc = .ok (.iaload, 1))
    {k0 : Nat} (hkk : (wr i).toNat = k0) (k : WG K E pc' lv (vi (sc k0) :: st) S) : WG K E pc lv (vi i :: .ref (xsb E) :: st) S := by
  subst hp
  obtain ⟨p, l, e, R, s, m, args, below, meth, c, nL, cl, sl, Q⟩ := K
  obtain ⟨hx, hb, hml, hown, hts, hlk, rfl, hRR⟩ := hC
  intro H locs ls hY hS hl
  have k := k H locs ls hY hS hl
  obtain ⟨cell, h1, h2, h3, h4, h5, h6, h7⟩ := hY.1.2.2.2.1.2.1.2.2.1
  rw [hq.1] at h4 h5 h6
  rw [hq.2] at h6
  rw [← hkk, ← i32_nat] at k
  obtain ⟨g1, g2⟩ := x_idx (ck_in hi) h4
  exact W.iald hx hb h1 h2 h3 g1 (h6 _ g2) rfl rfl d k
theorem g_qlen (hC : xOK K cc own n rm) {L : Nat} {sc : Nat → Int} (hq : xsL E = L ∧ xsc E = sc) {pc' : Nat} (hp : pc + 1 = pc') (d : decode cc pc = .ok (.arraylength, 1))
    (k : WG K E pc' lv (vi (L : Int) :: st) S) : WG K E pc lv (.ref (xsb E) :: st) S := by
  subst hp
  obtain ⟨p, l, e, R, s, m, args, below, meth, c, nL, cl, sl, Q⟩ := K
  obtain ⟨hx, hb, hml, hown, hts, hlk, rfl, hRR⟩ := hC
  intro H locs ls hY hS hl
  obtain ⟨cell, h1, h2, h3, h4, h5, h6, h7⟩ := hY.1.2.2.2.1.2.1.2.2.1
  rw [hq.1] at h4 h5 h6
  exact W.alen hx hb h1 h2 (h5.trans rfl) rfl rfl d (k H locs ls hY hS hl)
theorem g_ldcI (hC : xOK K cc own n rm) {i : Nat} {z : Int} (hc : Cond.constant own i (Int32.ofInt z) ∈ xw) {pc' : Nat} (hp : pc + 2 = pc') (d : decode cc pc = .ok (.ldc i, 2))
    (k : WG K E pc' lv (vi z :: st) S) : WG K E pc lv st S := by
  subst hp
  obtain ⟨p, l, e, R, s, m, args, below, meth, c, nL, cl, sl, Q⟩ := K
  obtain ⟨hx, hb, hml, hown, hts, hlk, rfl, hRR⟩ := hC
  intro H locs ls hY hS hl
  exact lv_ldc hx hb hown (hts _ hc) d (k H locs ls hY hS hl)
end GQ
