theorem addR_0 {E : xE} {r κ : Nat} {f : Nat → Nat} {o : Nat} : xad (addR E r κ f) (r + 0) o = f o := if_pos rfl
theorem addR_0s {E : xE} {r κ a : Nat} {f : Nat → Nat} {o : Nat} (h : f o = a) : a = xad (addR E r κ f) (r + 0) o := by rw [addR_0, h]
def nul : Nat × Nat := (99999, 77777)
section PT
variable {K : xCtx} {E : xE} {B : Nat} {pc : Nat} {lv : List (Nat × Value)} {st : List Value} {S : xSt} {cl sl : Nat}
theorem n_region2 {own ws0 : pW} {N r κ : Nat} (ps al : List Nat) {σ0 : Nat → Nat → Int} {ρ0 : Nat → Nat → Nat × Nat} (hN : ∀ (o : Nat) (k : xK), lay κ o = some k → o < N) (hps : ps.length = N) (hnd : ps.Nodup) (hr : xkd E r = 0) (ha : xApart E S r)
    (hcell : ∀ (o : Nat) (k : xK), lay κ o = some k → ∃ z, own[ps.getD o 0]? = some (al.getD o 0, z) ∧ pmt (addR E r κ (fun o => al.getD o 0)) r z k (σ0 o) (ρ0 o))
    (k : WN K (addR E r κ (fun o => al.getD o 0)) B pc lv st (newS S r κ σ0 ρ0) ws0 cl sl) : WN K E B pc lv st S (own ++ ws0) cl sl := by
  refine n_region (f := fun o => al.getD o 0) hr ha (fun o k hk => ?_) (fun hp o o' k k' h1 h2 h3 => ?_) (List.sublist_append_right own ws0) (fun hp q hq o k hk e => ?_) k
  · obtain ⟨z, h1, h2⟩ := hcell o k hk
    exact ⟨z, List.mem_append_left _ (List.mem_of_getElem? h1), h2⟩
  · obtain ⟨z1, g1, -⟩ := hcell o k h1
    obtain ⟨z2, g2, -⟩ := hcell o' k' h2
    have hp1 := (List.pairwise_append.mp hp).1
    obtain ⟨l1, e1⟩ := List.getElem?_eq_some_iff.mp g1
    obtain ⟨l2, e2⟩ := List.getElem?_eq_some_iff.mp g2
    have hi : ps.getD o 0 = ps.getD o' 0 := by
      have hpp := List.pairwise_iff_getElem.mp hp1
      rcases Nat.lt_trichotomy (ps.getD o 0) (ps.getD o' 0) with g | g | g
      · have := hpp _ _ l1 l2 g
        rw [e1, e2] at this
        exact absurd h3 this
      · exact g
      · have := hpp _ _ l2 l1 g
        rw [e1, e2] at this
        exact absurd h3.symm this
    have o1 := hN o k h1
    have o2 := hN o' k' h2
    rw [← hps] at o1 o2
    rw [List.getD_eq_getElem?_getD, List.getD_eq_getElem?_getD, List.getElem?_eq_getElem o1, List.getElem?_eq_getElem o2] at hi
    have hq := List.pairwise_iff_getElem.mp hnd
    rcases Nat.lt_trichotomy o o' with g | g | g
    · exact absurd hi (hq o o' o1 o2 g)
    · exact g
    · exact absurd hi.symm (hq o' o o2 o1 g)
  · obtain ⟨z1, g1, -⟩ := hcell o k hk
    exact (List.pairwise_append.mp hp).2.2 _ (List.mem_of_getElem? g1) q hq e
end PT

theorem layn1 : ∀ (o : Nat) (k : xK), lay 1 o = some k → o < 20 := by
  intro o k h
  by_cases hn : o < 20
  · exact hn
  · have : (xl1)[o]? = none := List.getElem?_eq_none (by show 20 ≤ o; omega)
    have h2 : (xl1)[o]? = some k := h
    rw [this] at h2
    cases h2
theorem layn2 : ∀ (o : Nat) (k : xK), lay 2 o = some k → o < 13 := by
  intro o k h
  by_cases hn : o < 13
  · exact hn
  · have : (xl2)[o]? = none := List.getElem?_eq_none (by show 13 ≤ o; omega)
    have h2 : (xl2)[o]? = some k := h
    rw [this] at h2
    cases h2
theorem layn3 : ∀ (o : Nat) (k : xK), lay 3 o = some k → o < 14 := by
  intro o k h
  by_cases hn : o < 14
  · exact hn
  · have : (xl3)[o]? = none := List.getElem?_eq_none (by show 14 ≤ o; omega)
    have h2 : (xl3)[o]? = some k := h
    rw [this] at h2
    cases h2
theorem hb_X5_init {E : xE} {S1 : xSt} {r h0 : Nat} {ws0 : pW} {u : xE × xSt × pW} (hu : ∃ f : Nat → Nat, f 0 = h0 ∧ u = (addR E r 2 f, S1, ws0)) : xBase E u.1 := by
  obtain ⟨f, -, rfl⟩ := hu
  exact ⟨rfl, rfl⟩
set_option maxRecDepth 100000 in
set_option maxHeartbeats 8000000 in
theorem cN_X5_init (l : Launch) {E : xE} {B : Nat} {S S1 : xSt} {r h0 : Nat} {ws0 : pW} (hr : xkd E r = 0) (ha : xApart E S r) (h1 : f_X5_clear_p2_0 (newS S r 2 (fun _ _ => 0) (fun _ _ => nul)) r = some S1) : Met l yX5_init (xws yX5_init cX5_init 1 none) (rmN 3 12 504) (NPc E B [.ref h0] S ((h0, .inl (7, [.null, .null, .null, .null, .null, .null, .null, .null, .null, .null, .int 0])) :: ws0)) (NQ B (fun u => ∃ f : Nat → Nat, f 0 = h0 ∧ u = (addR E r 2 f, S1, ws0))) 12 504 (fun a => B ≤ a) := by
  refine metN (by decide +kernel) rfl (Nat.le_of_ble_eq_true rfl) (fun K hC hE => ?_)
  have hC : xOKN K cX5_init RX5 1 (rmN 3 12 504) := hC
  show WN K E B 0 [(0, .ref h0)] [] S ((h0, .inl (7, [.null, .null, .null, .null, .null, .null, .null, .null, .null, .null, .int 0])) :: ws0) 0 0
  refine n_aload_n hC rfl 0 rfl (xdt tt_X5_init 0 rfl) ?_
  refine n_objInit hC q54 q7 q8 (Nat.le_of_ble_eq_true rfl) (Nat.le_of_ble_eq_true rfl) (xdt tt_X5_init 1 rfl) ?_
  refine n_aload_n hC rfl 0 rfl (xdt tt_X5_init 2 rfl) ?_
  refine n_bipush hC (by decide) (xdt tt_X5_init 3 rfl) ?_
  refine n_newa hC (et := .int) rfl q44 (by decide) (N := 6) (by decide) (Nat.le_of_ble_eq_true rfl) (Nat.le_of_ble_eq_true rfl) (Nat.le_of_ble_eq_true rfl) (xdt tt_X5_init 4 rfl) (fun a1 => ?_)
  refine n_putF hC 1 rfl kclX5 0 (by decide) rfl rfl q55 rfl rfl (xdt tt_X5_init 5 rfl) ?_
  refine n_cast rfl rfl (ws' := (a1, .inr (.inl (.int, 6))) :: (h0, .inl (7, [.ref a1, .null, .null, .null, .null, .null, .null, .null, .null, .null, .int 0])) :: ws0) rfl ?_
  refine n_aload_n hC rfl 0 rfl (xdt tt_X5_init 6 rfl) ?_
  refine n_new hC kclX8 q56 q57 q58 [.null, .null, .int 0] rfl blkX8 (Nat.le_of_ble_eq_true rfl) (Nat.le_of_ble_eq_true rfl) (xdt tt_X5_init 7 rfl) (fun a2 => ?_)
  refine n_dup hC rfl (xdt tt_X5_init 8 rfl) ?_
  refine n_ctorN hC mc_X8_init (List.mem_of_getElem? (i := 0) rfl) ⟨(Nat.le_of_ble_eq_true rfl), (Nat.le_of_ble_eq_true rfl)⟩ (Nat.le_of_ble_eq_true rfl) (Nat.le_of_ble_eq_true rfl) [] rfl (fun u hu => hb_X8_init hu) (fun l => cN_X8_init l) rfl (Nat.le_of_ble_eq_true rfl) (xdt tt_X5_init 9 rfl) (fun u hu => ?_)
  obtain ⟨a3, a4, rfl⟩ := hu
  show WN K E B 20 [(0, .ref h0)] [.ref a2, .ref h0] S ((a4, .inr (.inl (.int, 7))) :: (a3, .inr (.inl (.int, 7))) :: (a2, .inl (10, [.ref a3, .ref a4, .int 0])) :: (a1, .inr (.inl (.int, 6))) :: (h0, .inl (7, [.ref a1, .null, .null, .null, .null, .null, .null, .null, .null, .null, .int 0])) :: ws0) 4 23
  refine n_putF hC 4 rfl kclX5 1 (by decide) rfl rfl q59 rfl rfl (xdt tt_X5_init 10 rfl) ?_
  refine n_cast rfl rfl (ws' := (a4, .inr (.inl (.int, 7))) :: (a3, .inr (.inl (.int, 7))) :: (a2, .inl (10, [.ref a3, .ref a4, .int 0])) :: (a1, .inr (.inl (.int, 6))) :: (h0, .inl (7, [.ref a1, .ref a2, .null, .null, .null, .null, .null, .null, .null, .null, .int 0])) :: ws0) rfl ?_
  refine n_aload_n hC rfl 0 rfl (xdt tt_X5_init 11 rfl) ?_
  refine n_bipush hC (by decide) (xdt tt_X5_init 12 rfl) ?_
  refine n_newa hC (et := .int) rfl q44 (by decide) (N := 60) (by decide) (Nat.le_of_ble_eq_true rfl) (Nat.le_of_ble_eq_true rfl) (Nat.le_of_ble_eq_true rfl) (xdt tt_X5_init 13 rfl) (fun a5 => ?_)
  refine n_putF hC 5 rfl kclX5 2 (by decide) rfl rfl q60 rfl rfl (xdt tt_X5_init 14 rfl) ?_
  refine n_cast rfl rfl (ws' := (a5, .inr (.inl (.int, 60))) :: (a4, .inr (.inl (.int, 7))) :: (a3, .inr (.inl (.int, 7))) :: (a2, .inl (10, [.ref a3, .ref a4, .int 0])) :: (a1, .inr (.inl (.int, 6))) :: (h0, .inl (7, [.ref a1, .ref a2, .ref a5, .null, .null, .null, .null, .null, .null, .null, .int 0])) :: ws0) rfl ?_
  refine n_aload_n hC rfl 0 rfl (xdt tt_X5_init 15 rfl) ?_
  refine n_bipush hC (by decide) (xdt tt_X5_init 16 rfl) ?_
  refine n_newa hC (et := .boolean) rfl q42 (by decide) (N := 60) (by decide) (Nat.le_of_ble_eq_true rfl) (Nat.le_of_ble_eq_true rfl) (Nat.le_of_ble_eq_true rfl) (xdt tt_X5_init 17 rfl) (fun a6 => ?_)
  refine n_putF hC 6 rfl kclX5 3 (by decide) rfl rfl q61 rfl rfl (xdt tt_X5_init 18 rfl) ?_
  refine n_cast rfl rfl (ws' := (a6, .inr (.inl (.boolean, 60))) :: (a5, .inr (.inl (.int, 60))) :: (a4, .inr (.inl (.int, 7))) :: (a3, .inr (.inl (.int, 7))) :: (a2, .inl (10, [.ref a3, .ref a4, .int 0])) :: (a1, .inr (.inl (.int, 6))) :: (h0, .inl (7, [.ref a1, .ref a2, .ref a5, .ref a6, .null, .null, .null, .null, .null, .null, .int 0])) :: ws0) rfl ?_
  refine n_aload_n hC rfl 0 rfl (xdt tt_X5_init 19 rfl) ?_
  refine n_bipush hC (by decide) (xdt tt_X5_init 20 rfl) ?_
  refine n_newa hC (et := .int) rfl q44 (by decide) (N := 60) (by decide) (Nat.le_of_ble_eq_true rfl) (Nat.le_of_ble_eq_true rfl) (Nat.le_of_ble_eq_true rfl) (xdt tt_X5_init 21 rfl) (fun a7 => ?_)
  refine n_putF hC 7 rfl kclX5 4 (by decide) rfl rfl q62 rfl rfl (xdt tt_X5_init 22 rfl) ?_
  refine n_cast rfl rfl (ws' := (a7, .inr (.inl (.int, 60))) :: (a6, .inr (.inl (.boolean, 60))) :: (a5, .inr (.inl (.int, 60))) :: (a4, .inr (.inl (.int, 7))) :: (a3, .inr (.inl (.int, 7))) :: (a2, .inl (10, [.ref a3, .ref a4, .int 0])) :: (a1, .inr (.inl (.int, 6))) :: (h0, .inl (7, [.ref a1, .ref a2, .ref a5, .ref a6, .ref a7, .null, .null, .null, .null, .null, .int 0])) :: ws0) rfl ?_
  refine n_aload_n hC rfl 0 rfl (xdt tt_X5_init 23 rfl) ?_
  refine n_bipush hC (by decide) (xdt tt_X5_init 24 rfl) ?_
  refine n_newa hC (et := .int) rfl q44 (by decide) (N := 60) (by decide) (Nat.le_of_ble_eq_true rfl) (Nat.le_of_ble_eq_true rfl) (Nat.le_of_ble_eq_true rfl) (xdt tt_X5_init 25 rfl) (fun a8 => ?_)
  refine n_putF hC 8 rfl kclX5 5 (by decide) rfl rfl q63 rfl rfl (xdt tt_X5_init 26 rfl) ?_
  refine n_cast rfl rfl (ws' := (a8, .inr (.inl (.int, 60))) :: (a7, .inr (.inl (.int, 60))) :: (a6, .inr (.inl (.boolean, 60))) :: (a5, .inr (.inl (.int, 60))) :: (a4, .inr (.inl (.int, 7))) :: (a3, .inr (.inl (.int, 7))) :: (a2, .inl (10, [.ref a3, .ref a4, .int 0])) :: (a1, .inr (.inl (.int, 6))) :: (h0, .inl (7, [.ref a1, .ref a2, .ref a5, .ref a6, .ref a7, .ref a8, .null, .null, .null, .null, .int 0])) :: ws0) rfl ?_
  refine n_aload_n hC rfl 0 rfl (xdt tt_X5_init 27 rfl) ?_
  refine n_bipush hC (by decide) (xdt tt_X5_init 28 rfl) ?_
  refine n_newa hC (et := .int) rfl q44 (by decide) (N := 61) (by decide) (Nat.le_of_ble_eq_true rfl) (Nat.le_of_ble_eq_true rfl) (Nat.le_of_ble_eq_true rfl) (xdt tt_X5_init 29 rfl) (fun a9 => ?_)
  refine n_putF hC 9 rfl kclX5 6 (by decide) rfl rfl q64 rfl rfl (xdt tt_X5_init 30 rfl) ?_
  refine n_cast rfl rfl (ws' := (a9, .inr (.inl (.int, 61))) :: (a8, .inr (.inl (.int, 60))) :: (a7, .inr (.inl (.int, 60))) :: (a6, .inr (.inl (.boolean, 60))) :: (a5, .inr (.inl (.int, 60))) :: (a4, .inr (.inl (.int, 7))) :: (a3, .inr (.inl (.int, 7))) :: (a2, .inl (10, [.ref a3, .ref a4, .int 0])) :: (a1, .inr (.inl (.int, 6))) :: (h0, .inl (7, [.ref a1, .ref a2, .ref a5, .ref a6, .ref a7, .ref a8, .ref a9, .null, .null, .null, .int 0])) :: ws0) rfl ?_
  refine n_aload_n hC rfl 0 rfl (xdt tt_X5_init 31 rfl) ?_
  refine n_bipush hC (by decide) (xdt tt_X5_init 32 rfl) ?_
  refine n_newa hC (et := .int) rfl q44 (by decide) (N := 60) (by decide) (Nat.le_of_ble_eq_true rfl) (Nat.le_of_ble_eq_true rfl) (Nat.le_of_ble_eq_true rfl) (xdt tt_X5_init 33 rfl) (fun a10 => ?_)
  refine n_putF hC 10 rfl kclX5 7 (by decide) rfl rfl q65 rfl rfl (xdt tt_X5_init 34 rfl) ?_
  refine n_cast rfl rfl (ws' := (a10, .inr (.inl (.int, 60))) :: (a9, .inr (.inl (.int, 61))) :: (a8, .inr (.inl (.int, 60))) :: (a7, .inr (.inl (.int, 60))) :: (a6, .inr (.inl (.boolean, 60))) :: (a5, .inr (.inl (.int, 60))) :: (a4, .inr (.inl (.int, 7))) :: (a3, .inr (.inl (.int, 7))) :: (a2, .inl (10, [.ref a3, .ref a4, .int 0])) :: (a1, .inr (.inl (.int, 6))) :: (h0, .inl (7, [.ref a1, .ref a2, .ref a5, .ref a6, .ref a7, .ref a8, .ref a9, .ref a10, .null, .null, .int 0])) :: ws0) rfl ?_
  refine n_aload_n hC rfl 0 rfl (xdt tt_X5_init 35 rfl) ?_
  refine n_bipush hC (by decide) (xdt tt_X5_init 36 rfl) ?_
  refine n_newa hC (et := .int) rfl q44 (by decide) (N := 60) (by decide) (Nat.le_of_ble_eq_true rfl) (Nat.le_of_ble_eq_true rfl) (Nat.le_of_ble_eq_true rfl) (xdt tt_X5_init 37 rfl) (fun a11 => ?_)
  refine n_putF hC 11 rfl kclX5 8 (by decide) rfl rfl q66 rfl rfl (xdt tt_X5_init 38 rfl) ?_
  refine n_cast rfl rfl (ws' := (a11, .inr (.inl (.int, 60))) :: (a10, .inr (.inl (.int, 60))) :: (a9, .inr (.inl (.int, 61))) :: (a8, .inr (.inl (.int, 60))) :: (a7, .inr (.inl (.int, 60))) :: (a6, .inr (.inl (.boolean, 60))) :: (a5, .inr (.inl (.int, 60))) :: (a4, .inr (.inl (.int, 7))) :: (a3, .inr (.inl (.int, 7))) :: (a2, .inl (10, [.ref a3, .ref a4, .int 0])) :: (a1, .inr (.inl (.int, 6))) :: (h0, .inl (7, [.ref a1, .ref a2, .ref a5, .ref a6, .ref a7, .ref a8, .ref a9, .ref a10, .ref a11, .null, .int 0])) :: ws0) rfl ?_
  refine n_aload_n hC rfl 0 rfl (xdt tt_X5_init 39 rfl) ?_
  refine n_bipush hC (by decide) (xdt tt_X5_init 40 rfl) ?_
  refine n_newa hC (et := .int) rfl q44 (by decide) (N := 60) (by decide) (Nat.le_of_ble_eq_true rfl) (Nat.le_of_ble_eq_true rfl) (Nat.le_of_ble_eq_true rfl) (xdt tt_X5_init 41 rfl) (fun a12 => ?_)
  refine n_putF hC 12 rfl kclX5 9 (by decide) rfl rfl q67 rfl rfl (xdt tt_X5_init 42 rfl) ?_
  refine n_cast rfl rfl (ws' := (a12, .inr (.inl (.int, 60))) :: (a11, .inr (.inl (.int, 60))) :: (a10, .inr (.inl (.int, 60))) :: (a9, .inr (.inl (.int, 61))) :: (a8, .inr (.inl (.int, 60))) :: (a7, .inr (.inl (.int, 60))) :: (a6, .inr (.inl (.boolean, 60))) :: (a5, .inr (.inl (.int, 60))) :: (a4, .inr (.inl (.int, 7))) :: (a3, .inr (.inl (.int, 7))) :: (a2, .inl (10, [.ref a3, .ref a4, .int 0])) :: (a1, .inr (.inl (.int, 6))) :: (h0, .inl (7, [.ref a1, .ref a2, .ref a5, .ref a6, .ref a7, .ref a8, .ref a9, .ref a10, .ref a11, .ref a12, .int 0])) :: ws0) rfl ?_
  refine n_aload_n hC rfl 0 rfl (xdt tt_X5_init 43 rfl) ?_
  refine n_cast rfl rfl (ws' := [(a12, .inr (.inl (.int, 60))), (a11, .inr (.inl (.int, 60))), (a10, .inr (.inl (.int, 60))), (a9, .inr (.inl (.int, 61))), (a8, .inr (.inl (.int, 60))), (a7, .inr (.inl (.int, 60))), (a6, .inr (.inl (.boolean, 60))), (a5, .inr (.inl (.int, 60))), (a4, .inr (.inl (.int, 7))), (a3, .inr (.inl (.int, 7))), (a2, .inl (10, [.ref a3, .ref a4, .int 0])), (a1, .inr (.inl (.int, 6))), (h0, .inl (7, [.ref a1, .ref a2, .ref a5, .ref a6, .ref a7, .ref a8, .ref a9, .ref a10, .ref a11, .ref a12, .int 0]))] ++ ws0) rfl ?_
  refine n_region2 (r := r) (κ := 2) [12, 11, 10, 9, 8, 7, 6, 5, 4, 3, 2, 1, 0] [h0, a1, a2, a3, a4, a5, a6, a7, a8, a9, a10, a11, a12] (σ0 := fun _ _ => 0) (ρ0 := fun _ _ => nul) layn2 rfl (by decide) hr ha (fun o k hk => ?_) ?_
  · have ho := layn2 o k hk
    rcases (show o = 0 ∨ o = 1 ∨ o = 2 ∨ o = 3 ∨ o = 4 ∨ o = 5 ∨ o = 6 ∨ o = 7 ∨ o = 8 ∨ o = 9 ∨ o = 10 ∨ o = 11 ∨ o = 12 by omega) with rfl | rfl | rfl | rfl | rfl | rfl | rfl | rfl | rfl | rfl | rfl | rfl | rfl
    · cases Option.some.inj (hk.symm.trans ly2_0)
      exact ⟨.inl (7, [.ref a1, .ref a2, .ref a5, .ref a6, .ref a7, .ref a8, .ref a9, .ref a10, .ref a11, .ref a12, .int 0]), rfl, ⟨rfl, rfl, fun j hj => (by rcases (show j = 0 ∨ j = 1 ∨ j = 2 ∨ j = 3 ∨ j = 4 ∨ j = 5 ∨ j = 6 ∨ j = 7 ∨ j = 8 ∨ j = 9 ∨ j = 10 from (by have : j < 11 := hj; omega)) with rfl | rfl | rfl | rfl | rfl | rfl | rfl | rfl | rfl | rfl | rfl <;> first | rfl | exact congrArg Value.ref (addR_0s rfl)), fun j ty h => (by have hj : j < 11 := (List.getElem?_eq_some_iff.mp h).1; rcases (show j = 0 ∨ j = 1 ∨ j = 2 ∨ j = 3 ∨ j = 4 ∨ j = 5 ∨ j = 6 ∨ j = 7 ∨ j = 8 ∨ j = 9 ∨ j = 10 by omega) with rfl | rfl | rfl | rfl | rfl | rfl | rfl | rfl | rfl | rfl | rfl <;> first | (cases Option.some.inj h; rfl) | cases Option.some.inj h)⟩⟩
    · cases Option.some.inj (hk.symm.trans ly2_1)
      exact ⟨.inr (.inl (.int, 6)), rfl, ⟨rfl, fun _ => rfl, Or.inl rfl, by decide⟩⟩
    · cases Option.some.inj (hk.symm.trans ly2_2)
      exact ⟨.inl (10, [.ref a3, .ref a4, .int 0]), rfl, ⟨rfl, rfl, fun j hj => (by rcases (show j = 0 ∨ j = 1 ∨ j = 2 from (by have : j < 3 := hj; omega)) with rfl | rfl | rfl <;> first | rfl | exact congrArg Value.ref (addR_0s rfl)), fun j ty h => (by have hj : j < 3 := (List.getElem?_eq_some_iff.mp h).1; rcases (show j = 0 ∨ j = 1 ∨ j = 2 by omega) with rfl | rfl | rfl <;> first | (cases Option.some.inj h; rfl) | cases Option.some.inj h)⟩⟩
    · cases Option.some.inj (hk.symm.trans ly2_3)
      exact ⟨.inr (.inl (.int, 7)), rfl, ⟨rfl, fun _ => rfl, Or.inl rfl, by decide⟩⟩
    · cases Option.some.inj (hk.symm.trans ly2_4)
      exact ⟨.inr (.inl (.int, 7)), rfl, ⟨rfl, fun _ => rfl, Or.inl rfl, by decide⟩⟩
    · cases Option.some.inj (hk.symm.trans ly2_5)
      exact ⟨.inr (.inl (.int, 60)), rfl, ⟨rfl, fun _ => rfl, Or.inl rfl, by decide⟩⟩
    · cases Option.some.inj (hk.symm.trans ly2_6)
      exact ⟨.inr (.inl (.boolean, 60)), rfl, ⟨rfl, fun _ => rfl, Or.inr (Or.inl rfl), by decide⟩⟩
    · cases Option.some.inj (hk.symm.trans ly2_7)
      exact ⟨.inr (.inl (.int, 60)), rfl, ⟨rfl, fun _ => rfl, Or.inl rfl, by decide⟩⟩
    · cases Option.some.inj (hk.symm.trans ly2_8)
      exact ⟨.inr (.inl (.int, 60)), rfl, ⟨rfl, fun _ => rfl, Or.inl rfl, by decide⟩⟩
    · cases Option.some.inj (hk.symm.trans ly2_9)
      exact ⟨.inr (.inl (.int, 61)), rfl, ⟨rfl, fun _ => rfl, Or.inl rfl, by decide⟩⟩
    · cases Option.some.inj (hk.symm.trans ly2_10)
      exact ⟨.inr (.inl (.int, 60)), rfl, ⟨rfl, fun _ => rfl, Or.inl rfl, by decide⟩⟩
    · cases Option.some.inj (hk.symm.trans ly2_11)
      exact ⟨.inr (.inl (.int, 60)), rfl, ⟨rfl, fun _ => rfl, Or.inl rfl, by decide⟩⟩
    · cases Option.some.inj (hk.symm.trans ly2_12)
      exact ⟨.inr (.inl (.int, 60)), rfl, ⟨rfl, fun _ => rfl, Or.inl rfl, by decide⟩⟩
  refine n_vcall hC addR_ks kclX5 ly2_0 m_X5_clear q73 ⟨(Nat.le_of_ble_eq_true rfl), (Nat.le_of_ble_eq_true rfl)⟩ (Nat.le_of_ble_eq_true rfl) (Nat.le_of_ble_eq_true rfl) [] (by show [Value.ref _] = [Value.ref _]; rw [addR_s]; rfl) (fun l => c_X5_clear_p2_0 l addR_ks h1) rfl (Nat.le_of_ble_eq_true rfl) (xdt tt_X5_init 44 rfl) ?_
  exact n_vret hC hE ⟨_, rfl, rfl⟩ (xdt tt_X5_init 45 rfl)
theorem hb_X0_init {E : xE} {S1 : xSt} {r h0 : Nat} {ws0 : pW} {u : xE × xSt × pW} (hu : ∃ f : Nat → Nat, f 0 = h0 ∧ u = (addR E r 1 f, S1, ws0)) : xBase E u.1 := by
  obtain ⟨f, -, rfl⟩ := hu
  exact ⟨rfl, rfl⟩
set_option maxRecDepth 100000 in
set_option maxHeartbeats 8000000 in
theorem cN_X0_init (l : Launch) {E : xE} {B : Nat} {S S1 : xSt} {r h0 : Nat} {ws0 : pW} (hr : xkd E r = 0) (ha : xApart E S r) {q p0 : Nat} (hq : xkd E q = 2) (hqr : q ≠ r) (hp0 : xad E q 0 = p0) (h1 : f_X0_begin_p1_0_2_0 (newS S r 1 (fun _ _ => 0) (fun _ _ => nul)) r q = some S1) : Met l yX0_init (xws yX0_init cX0_init 2 none) (rmN 4 19 438) (NPc E B [.ref h0, .ref p0] S ((h0, .inl (2, [.null, .null, .null, .null, .null, .null, .null, .null, .null, .int 0, .int 0, .int 0, .int 0, .int 0, .int 0, .int 0, .int 0, .int 0])) :: ws0)) (NQ B (fun u => ∃ f : Nat → Nat, f 0 = h0 ∧ u = (addR E r 1 f, S1, ws0))) 19 438 (fun a => B ≤ a) := by
  refine metN (by decide +kernel) rfl (Nat.le_of_ble_eq_true rfl) (fun K hC hE => ?_)
  have hC : xOKN K cX0_init RX0 2 (rmN 4 19 438) := hC
  show WN K E B 0 [(0, .ref h0), (1, .ref p0)] [] S ((h0, .inl (2, [.null, .null, .null, .null, .null, .null, .null, .null, .null, .int 0, .int 0, .int 0, .int 0, .int 0, .int 0, .int 0, .int 0, .int 0])) :: ws0) 0 0
  refine n_aload_n hC rfl 0 rfl (xdt tt_X0_init 0 rfl) ?_
  refine n_objInit hC q91 q7 q8 (Nat.le_of_ble_eq_true rfl) (Nat.le_of_ble_eq_true rfl) (xdt tt_X0_init 1 rfl) ?_
  refine n_aload_n hC rfl 0 rfl (xdt tt_X0_init 2 rfl) ?_
  refine n_bipush hC (by decide) (xdt tt_X0_init 3 rfl) ?_
  refine n_newa hC (et := .int) rfl q44 (by decide) (N := 6) (by decide) (Nat.le_of_ble_eq_true rfl) (Nat.le_of_ble_eq_true rfl) (Nat.le_of_ble_eq_true rfl) (xdt tt_X0_init 4 rfl) (fun a1 => ?_)
  refine n_putF hC 1 rfl kclX0 1 (by decide) rfl rfl q92 rfl rfl (xdt tt_X0_init 5 rfl) ?_
  refine n_cast rfl rfl (ws' := (a1, .inr (.inl (.int, 6))) :: (h0, .inl (2, [.null, .ref a1, .null, .null, .null, .null, .null, .null, .null, .int 0, .int 0, .int 0, .int 0, .int 0, .int 0, .int 0, .int 0, .int 0])) :: ws0) rfl ?_
  refine n_aload_n hC rfl 0 rfl (xdt tt_X0_init 6 rfl) ?_
  refine n_new hC kclX8 q93 q57 q58 [.null, .null, .int 0] rfl blkX8 (Nat.le_of_ble_eq_true rfl) (Nat.le_of_ble_eq_true rfl) (xdt tt_X0_init 7 rfl) (fun a2 => ?_)
  refine n_dup hC rfl (xdt tt_X0_init 8 rfl) ?_
  refine n_ctorN hC mc_X8_init (List.mem_of_getElem? (i := 2) rfl) ⟨(Nat.le_of_ble_eq_true rfl), (Nat.le_of_ble_eq_true rfl)⟩ (Nat.le_of_ble_eq_true rfl) (Nat.le_of_ble_eq_true rfl) [] rfl (fun u hu => hb_X8_init hu) (fun l => cN_X8_init l) rfl (Nat.le_of_ble_eq_true rfl) (xdt tt_X0_init 9 rfl) (fun u hu => ?_)
  obtain ⟨a3, a4, rfl⟩ := hu
  show WN K E B 20 [(0, .ref h0), (1, .ref p0)] [.ref a2, .ref h0] S ((a4, .inr (.inl (.int, 7))) :: (a3, .inr (.inl (.int, 7))) :: (a2, .inl (10, [.ref a3, .ref a4, .int 0])) :: (a1, .inr (.inl (.int, 6))) :: (h0, .inl (2, [.null, .ref a1, .null, .null, .null, .null, .null, .null, .null, .int 0, .int 0, .int 0, .int 0, .int 0, .int 0, .int 0, .int 0, .int 0])) :: ws0) 4 23
  refine n_putF hC 4 rfl kclX0 2 (by decide) rfl rfl q94 rfl rfl (xdt tt_X0_init 10 rfl) ?_
  refine n_cast rfl rfl (ws' := (a4, .inr (.inl (.int, 7))) :: (a3, .inr (.inl (.int, 7))) :: (a2, .inl (10, [.ref a3, .ref a4, .int 0])) :: (a1, .inr (.inl (.int, 6))) :: (h0, .inl (2, [.null, .ref a1, .ref a2, .null, .null, .null, .null, .null, .null, .int 0, .int 0, .int 0, .int 0, .int 0, .int 0, .int 0, .int 0, .int 0])) :: ws0) rfl ?_
  refine n_aload_n hC rfl 0 rfl (xdt tt_X0_init 11 rfl) ?_
  refine n_new hC kclX6 q95 q96 q97 [.null, .null, .int 0] rfl blkX6 (Nat.le_of_ble_eq_true rfl) (Nat.le_of_ble_eq_true rfl) (xdt tt_X0_init 12 rfl) (fun a5 => ?_)
  refine n_dup hC rfl (xdt tt_X0_init 13 rfl) ?_
  refine n_ctorN hC mc_X6_init (List.mem_of_getElem? (i := 3) rfl) ⟨(Nat.le_of_ble_eq_true rfl), (Nat.le_of_ble_eq_true rfl)⟩ (Nat.le_of_ble_eq_true rfl) (Nat.le_of_ble_eq_true rfl) [] rfl (fun u hu => hb_X6_init hu) (fun l => cN_X6_init l) rfl (Nat.le_of_ble_eq_true rfl) (xdt tt_X0_init 14 rfl) (fun u hu => ?_)
  obtain ⟨a6, a7, rfl⟩ := hu
  show WN K E B 31 [(0, .ref h0), (1, .ref p0)] [.ref a5, .ref h0] S ((a7, .inr (.inl (.boolean, 20))) :: (a6, .inr (.inl (.int, 20))) :: (a5, .inl (8, [.ref a6, .ref a7, .int 0])) :: (a4, .inr (.inl (.int, 7))) :: (a3, .inr (.inl (.int, 7))) :: (a2, .inl (10, [.ref a3, .ref a4, .int 0])) :: (a1, .inr (.inl (.int, 6))) :: (h0, .inl (2, [.null, .ref a1, .ref a2, .null, .null, .null, .null, .null, .null, .int 0, .int 0, .int 0, .int 0, .int 0, .int 0, .int 0, .int 0, .int 0])) :: ws0) 7 66
  refine n_putF hC 7 rfl kclX0 3 (by decide) rfl rfl q98 rfl rfl (xdt tt_X0_init 15 rfl) ?_
  refine n_cast rfl rfl (ws' := (a7, .inr (.inl (.boolean, 20))) :: (a6, .inr (.inl (.int, 20))) :: (a5, .inl (8, [.ref a6, .ref a7, .int 0])) :: (a4, .inr (.inl (.int, 7))) :: (a3, .inr (.inl (.int, 7))) :: (a2, .inl (10, [.ref a3, .ref a4, .int 0])) :: (a1, .inr (.inl (.int, 6))) :: (h0, .inl (2, [.null, .ref a1, .ref a2, .ref a5, .null, .null, .null, .null, .null, .int 0, .int 0, .int 0, .int 0, .int 0, .int 0, .int 0, .int 0, .int 0])) :: ws0) rfl ?_
  refine n_aload_n hC rfl 0 rfl (xdt tt_X0_init 16 rfl) ?_
  refine n_new hC kclX7 q99 q100 q101 [.int 0, .int 0, .int 0, .int 0, .int 0] rfl blkX7 (Nat.le_of_ble_eq_true rfl) (Nat.le_of_ble_eq_true rfl) (xdt tt_X0_init 17 rfl) (fun a8 => ?_)
  refine n_dup hC rfl (xdt tt_X0_init 18 rfl) ?_
  refine n_ctorN hC mc_X7_init (List.mem_of_getElem? (i := 4) rfl) ⟨(Nat.le_of_ble_eq_true rfl), (Nat.le_of_ble_eq_true rfl)⟩ (Nat.le_of_ble_eq_true rfl) (Nat.le_of_ble_eq_true rfl) [] rfl (fun u hu => hb_X7_init hu) (fun l => cN_X7_init l) rfl (Nat.le_of_ble_eq_true rfl) (xdt tt_X0_init 19 rfl) (fun u hu => ?_)
  subst hu
  show WN K E B 42 [(0, .ref h0), (1, .ref p0)] [.ref a8, .ref h0] S ((a8, .inl (9, [.int 0, .int 0, .int 0, .int 0, .int 0])) :: (a7, .inr (.inl (.boolean, 20))) :: (a6, .inr (.inl (.int, 20))) :: (a5, .inl (8, [.ref a6, .ref a7, .int 0])) :: (a4, .inr (.inl (.int, 7))) :: (a3, .inr (.inl (.int, 7))) :: (a2, .inl (10, [.ref a3, .ref a4, .int 0])) :: (a1, .inr (.inl (.int, 6))) :: (h0, .inl (2, [.null, .ref a1, .ref a2, .ref a5, .null, .null, .null, .null, .null, .int 0, .int 0, .int 0, .int 0, .int 0, .int 0, .int 0, .int 0, .int 0])) :: ws0) 8 71
  refine n_putF hC 8 rfl kclX0 4 (by decide) rfl rfl q102 rfl rfl (xdt tt_X0_init 20 rfl) ?_
  refine n_cast rfl rfl (ws' := (a8, .inl (9, [.int 0, .int 0, .int 0, .int 0, .int 0])) :: (a7, .inr (.inl (.boolean, 20))) :: (a6, .inr (.inl (.int, 20))) :: (a5, .inl (8, [.ref a6, .ref a7, .int 0])) :: (a4, .inr (.inl (.int, 7))) :: (a3, .inr (.inl (.int, 7))) :: (a2, .inl (10, [.ref a3, .ref a4, .int 0])) :: (a1, .inr (.inl (.int, 6))) :: (h0, .inl (2, [.null, .ref a1, .ref a2, .ref a5, .ref a8, .null, .null, .null, .null, .int 0, .int 0, .int 0, .int 0, .int 0, .int 0, .int 0, .int 0, .int 0])) :: ws0) rfl ?_
  refine n_aload_n hC rfl 0 rfl (xdt tt_X0_init 21 rfl) ?_
  refine n_new hC kclX10 q103 q104 q105 [.null] rfl blkX10 (Nat.le_of_ble_eq_true rfl) (Nat.le_of_ble_eq_true rfl) (xdt tt_X0_init 22 rfl) (fun a9 => ?_)
  refine n_dup hC rfl (xdt tt_X0_init 23 rfl) ?_
  refine n_ctorN hC mc_X10_init (List.mem_of_getElem? (i := 5) rfl) ⟨(Nat.le_of_ble_eq_true rfl), (Nat.le_of_ble_eq_true rfl)⟩ (Nat.le_of_ble_eq_true rfl) (Nat.le_of_ble_eq_true rfl) [] rfl (fun u hu => hb_X10_init hu) (fun l => cN_X10_init l) rfl (Nat.le_of_ble_eq_true rfl) (xdt tt_X0_init 24 rfl) (fun u hu => ?_)
  obtain ⟨a10, rfl⟩ := hu
  show WN K E B 53 [(0, .ref h0), (1, .ref p0)] [.ref a9, .ref h0] S ((a10, .inr (.inl (.int, 60))) :: (a9, .inl (12, [.ref a10])) :: (a8, .inl (9, [.int 0, .int 0, .int 0, .int 0, .int 0])) :: (a7, .inr (.inl (.boolean, 20))) :: (a6, .inr (.inl (.int, 20))) :: (a5, .inl (8, [.ref a6, .ref a7, .int 0])) :: (a4, .inr (.inl (.int, 7))) :: (a3, .inr (.inl (.int, 7))) :: (a2, .inl (10, [.ref a3, .ref a4, .int 0])) :: (a1, .inr (.inl (.int, 6))) :: (h0, .inl (2, [.null, .ref a1, .ref a2, .ref a5, .ref a8, .null, .null, .null, .null, .int 0, .int 0, .int 0, .int 0, .int 0, .int 0, .int 0, .int 0, .int 0])) :: ws0) 10 132
  refine n_putF hC 10 rfl kclX0 5 (by decide) rfl rfl q106 rfl rfl (xdt tt_X0_init 25 rfl) ?_
  refine n_cast rfl rfl (ws' := (a10, .inr (.inl (.int, 60))) :: (a9, .inl (12, [.ref a10])) :: (a8, .inl (9, [.int 0, .int 0, .int 0, .int 0, .int 0])) :: (a7, .inr (.inl (.boolean, 20))) :: (a6, .inr (.inl (.int, 20))) :: (a5, .inl (8, [.ref a6, .ref a7, .int 0])) :: (a4, .inr (.inl (.int, 7))) :: (a3, .inr (.inl (.int, 7))) :: (a2, .inl (10, [.ref a3, .ref a4, .int 0])) :: (a1, .inr (.inl (.int, 6))) :: (h0, .inl (2, [.null, .ref a1, .ref a2, .ref a5, .ref a8, .ref a9, .null, .null, .null, .int 0, .int 0, .int 0, .int 0, .int 0, .int 0, .int 0, .int 0, .int 0])) :: ws0) rfl ?_
  refine n_aload_n hC rfl 0 rfl (xdt tt_X0_init 26 rfl) ?_
  refine n_new hC kclX4 q107 q35 q36 [.null, .int 0] rfl blkX4 (Nat.le_of_ble_eq_true rfl) (Nat.le_of_ble_eq_true rfl) (xdt tt_X0_init 27 rfl) (fun a11 => ?_)
  refine n_dup hC rfl (xdt tt_X0_init 28 rfl) ?_
  refine n_ctorN hC mc_X4_init (List.mem_of_getElem? (i := 6) rfl) ⟨(Nat.le_of_ble_eq_true rfl), (Nat.le_of_ble_eq_true rfl)⟩ (Nat.le_of_ble_eq_true rfl) (Nat.le_of_ble_eq_true rfl) [] rfl (fun u hu => hb_X4_init hu) (fun l => cN_X4_init l) rfl (Nat.le_of_ble_eq_true rfl) (xdt tt_X0_init 29 rfl) (fun u hu => ?_)
  obtain ⟨a12, a13, rfl⟩ := hu
  show WN K E B 64 [(0, .ref h0), (1, .ref p0)] [.ref a11, .ref h0] S ((a13, .inr (.inl (.int, 60))) :: (a12, .inl (12, [.ref a13])) :: (a11, .inl (6, [.ref a12, .int 0])) :: (a10, .inr (.inl (.int, 60))) :: (a9, .inl (12, [.ref a10])) :: (a8, .inl (9, [.int 0, .int 0, .int 0, .int 0, .int 0])) :: (a7, .inr (.inl (.boolean, 20))) :: (a6, .inr (.inl (.int, 20))) :: (a5, .inl (8, [.ref a6, .ref a7, .int 0])) :: (a4, .inr (.inl (.int, 7))) :: (a3, .inr (.inl (.int, 7))) :: (a2, .inl (10, [.ref a3, .ref a4, .int 0])) :: (a1, .inr (.inl (.int, 6))) :: (h0, .inl (2, [.null, .ref a1, .ref a2, .ref a5, .ref a8, .ref a9, .null, .null, .null, .int 0, .int 0, .int 0, .int 0, .int 0, .int 0, .int 0, .int 0, .int 0])) :: ws0) 13 195
  refine n_putF hC 13 rfl kclX0 6 (by decide) rfl rfl q108 rfl rfl (xdt tt_X0_init 30 rfl) ?_
  refine n_cast rfl rfl (ws' := (a13, .inr (.inl (.int, 60))) :: (a12, .inl (12, [.ref a13])) :: (a11, .inl (6, [.ref a12, .int 0])) :: (a10, .inr (.inl (.int, 60))) :: (a9, .inl (12, [.ref a10])) :: (a8, .inl (9, [.int 0, .int 0, .int 0, .int 0, .int 0])) :: (a7, .inr (.inl (.boolean, 20))) :: (a6, .inr (.inl (.int, 20))) :: (a5, .inl (8, [.ref a6, .ref a7, .int 0])) :: (a4, .inr (.inl (.int, 7))) :: (a3, .inr (.inl (.int, 7))) :: (a2, .inl (10, [.ref a3, .ref a4, .int 0])) :: (a1, .inr (.inl (.int, 6))) :: (h0, .inl (2, [.null, .ref a1, .ref a2, .ref a5, .ref a8, .ref a9, .ref a11, .null, .null, .int 0, .int 0, .int 0, .int 0, .int 0, .int 0, .int 0, .int 0, .int 0])) :: ws0) rfl ?_
  refine n_aload_n hC rfl 0 rfl (xdt tt_X0_init 31 rfl) ?_
  refine n_new hC kclX9 q109 q110 q111 [.null, .null, .null, .null, .int 0] rfl blkX9 (Nat.le_of_ble_eq_true rfl) (Nat.le_of_ble_eq_true rfl) (xdt tt_X0_init 32 rfl) (fun a14 => ?_)
  refine n_dup hC rfl (xdt tt_X0_init 33 rfl) ?_
  refine n_ctorN hC mc_X9_init (List.mem_of_getElem? (i := 8) rfl) ⟨(Nat.le_of_ble_eq_true rfl), (Nat.le_of_ble_eq_true rfl)⟩ (Nat.le_of_ble_eq_true rfl) (Nat.le_of_ble_eq_true rfl) [] rfl (fun u hu => hb_X9_init hu) (fun l => cN_X9_init l) rfl (Nat.le_of_ble_eq_true rfl) (xdt tt_X0_init 34 rfl) (fun u hu => ?_)
  obtain ⟨a15, a16, a17, a18, rfl⟩ := hu
  show WN K E B 75 [(0, .ref h0), (1, .ref p0)] [.ref a14, .ref h0] S ((a18, .inr (.inl (.int, 100))) :: (a17, .inr (.inl (.int, 60))) :: (a16, .inr (.inl (.int, 9))) :: (a15, .inr (.inl (.int, 9))) :: (a14, .inl (11, [.ref a15, .ref a16, .ref a17, .ref a18, .int 0])) :: (a13, .inr (.inl (.int, 60))) :: (a12, .inl (12, [.ref a13])) :: (a11, .inl (6, [.ref a12, .int 0])) :: (a10, .inr (.inl (.int, 60))) :: (a9, .inl (12, [.ref a10])) :: (a8, .inl (9, [.int 0, .int 0, .int 0, .int 0, .int 0])) :: (a7, .inr (.inl (.boolean, 20))) :: (a6, .inr (.inl (.int, 20))) :: (a5, .inl (8, [.ref a6, .ref a7, .int 0])) :: (a4, .inr (.inl (.int, 7))) :: (a3, .inr (.inl (.int, 7))) :: (a2, .inl (10, [.ref a3, .ref a4, .int 0])) :: (a1, .inr (.inl (.int, 6))) :: (h0, .inl (2, [.null, .ref a1, .ref a2, .ref a5, .ref a8, .ref a9, .ref a11, .null, .null, .int 0, .int 0, .int 0, .int 0, .int 0, .int 0, .int 0, .int 0, .int 0])) :: ws0) 18 378
  refine n_putF hC 18 rfl kclX0 7 (by decide) rfl rfl q112 rfl rfl (xdt tt_X0_init 35 rfl) ?_
  refine n_cast rfl rfl (ws' := (a18, .inr (.inl (.int, 100))) :: (a17, .inr (.inl (.int, 60))) :: (a16, .inr (.inl (.int, 9))) :: (a15, .inr (.inl (.int, 9))) :: (a14, .inl (11, [.ref a15, .ref a16, .ref a17, .ref a18, .int 0])) :: (a13, .inr (.inl (.int, 60))) :: (a12, .inl (12, [.ref a13])) :: (a11, .inl (6, [.ref a12, .int 0])) :: (a10, .inr (.inl (.int, 60))) :: (a9, .inl (12, [.ref a10])) :: (a8, .inl (9, [.int 0, .int 0, .int 0, .int 0, .int 0])) :: (a7, .inr (.inl (.boolean, 20))) :: (a6, .inr (.inl (.int, 20))) :: (a5, .inl (8, [.ref a6, .ref a7, .int 0])) :: (a4, .inr (.inl (.int, 7))) :: (a3, .inr (.inl (.int, 7))) :: (a2, .inl (10, [.ref a3, .ref a4, .int 0])) :: (a1, .inr (.inl (.int, 6))) :: (h0, .inl (2, [.null, .ref a1, .ref a2, .ref a5, .ref a8, .ref a9, .ref a11, .ref a14, .null, .int 0, .int 0, .int 0, .int 0, .int 0, .int 0, .int 0, .int 0, .int 0])) :: ws0) rfl ?_
  refine n_aload_n hC rfl 0 rfl (xdt tt_X0_init 36 rfl) ?_
  refine n_bipush hC (by decide) (xdt tt_X0_init 37 rfl) ?_
  refine n_newa hC (et := .boolean) rfl q42 (by decide) (N := 60) (by decide) (Nat.le_of_ble_eq_true rfl) (Nat.le_of_ble_eq_true rfl) (Nat.le_of_ble_eq_true rfl) (xdt tt_X0_init 38 rfl) (fun a19 => ?_)
  refine n_putF hC 19 rfl kclX0 8 (by decide) rfl rfl q113 rfl rfl (xdt tt_X0_init 39 rfl) ?_
  refine n_cast rfl rfl (ws' := (a19, .inr (.inl (.boolean, 60))) :: (a18, .inr (.inl (.int, 100))) :: (a17, .inr (.inl (.int, 60))) :: (a16, .inr (.inl (.int, 9))) :: (a15, .inr (.inl (.int, 9))) :: (a14, .inl (11, [.ref a15, .ref a16, .ref a17, .ref a18, .int 0])) :: (a13, .inr (.inl (.int, 60))) :: (a12, .inl (12, [.ref a13])) :: (a11, .inl (6, [.ref a12, .int 0])) :: (a10, .inr (.inl (.int, 60))) :: (a9, .inl (12, [.ref a10])) :: (a8, .inl (9, [.int 0, .int 0, .int 0, .int 0, .int 0])) :: (a7, .inr (.inl (.boolean, 20))) :: (a6, .inr (.inl (.int, 20))) :: (a5, .inl (8, [.ref a6, .ref a7, .int 0])) :: (a4, .inr (.inl (.int, 7))) :: (a3, .inr (.inl (.int, 7))) :: (a2, .inl (10, [.ref a3, .ref a4, .int 0])) :: (a1, .inr (.inl (.int, 6))) :: (h0, .inl (2, [.null, .ref a1, .ref a2, .ref a5, .ref a8, .ref a9, .ref a11, .ref a14, .ref a19, .int 0, .int 0, .int 0, .int 0, .int 0, .int 0, .int 0, .int 0, .int 0])) :: ws0) rfl ?_
  refine n_aload_n hC rfl 0 rfl (xdt tt_X0_init 40 rfl) ?_
  refine n_aload_n hC rfl 1 rfl (xdt tt_X0_init 41 rfl) ?_
  refine n_cast rfl rfl (ws' := [(a19, .inr (.inl (.boolean, 60))), (a18, .inr (.inl (.int, 100))), (a17, .inr (.inl (.int, 60))), (a16, .inr (.inl (.int, 9))), (a15, .inr (.inl (.int, 9))), (a14, .inl (11, [.ref a15, .ref a16, .ref a17, .ref a18, .int 0])), (a13, .inr (.inl (.int, 60))), (a12, .inl (12, [.ref a13])), (a11, .inl (6, [.ref a12, .int 0])), (a10, .inr (.inl (.int, 60))), (a9, .inl (12, [.ref a10])), (a8, .inl (9, [.int 0, .int 0, .int 0, .int 0, .int 0])), (a7, .inr (.inl (.boolean, 20))), (a6, .inr (.inl (.int, 20))), (a5, .inl (8, [.ref a6, .ref a7, .int 0])), (a4, .inr (.inl (.int, 7))), (a3, .inr (.inl (.int, 7))), (a2, .inl (10, [.ref a3, .ref a4, .int 0])), (a1, .inr (.inl (.int, 6))), (h0, .inl (2, [.null, .ref a1, .ref a2, .ref a5, .ref a8, .ref a9, .ref a11, .ref a14, .ref a19, .int 0, .int 0, .int 0, .int 0, .int 0, .int 0, .int 0, .int 0, .int 0]))] ++ ws0) rfl ?_
  refine n_region2 (r := r) (κ := 1) [19, 18, 17, 16, 15, 14, 13, 12, 11, 10, 9, 8, 7, 6, 5, 4, 3, 2, 1, 0] [h0, a1, a2, a3, a4, a5, a6, a7, a8, a9, a10, a11, a12, a13, a14, a15, a16, a17, a18, a19] (σ0 := fun _ _ => 0) (ρ0 := fun _ _ => nul) layn1 rfl (by decide) hr ha (fun o k hk => ?_) ?_
  · have ho := layn1 o k hk
    rcases (show o = 0 ∨ o = 1 ∨ o = 2 ∨ o = 3 ∨ o = 4 ∨ o = 5 ∨ o = 6 ∨ o = 7 ∨ o = 8 ∨ o = 9 ∨ o = 10 ∨ o = 11 ∨ o = 12 ∨ o = 13 ∨ o = 14 ∨ o = 15 ∨ o = 16 ∨ o = 17 ∨ o = 18 ∨ o = 19 by omega) with rfl | rfl | rfl | rfl | rfl | rfl | rfl | rfl | rfl | rfl | rfl | rfl | rfl | rfl | rfl | rfl | rfl | rfl | rfl | rfl
    · cases Option.some.inj (hk.symm.trans ly1_0)
      exact ⟨.inl (2, [.null, .ref a1, .ref a2, .ref a5, .ref a8, .ref a9, .ref a11, .ref a14, .ref a19, .int 0, .int 0, .int 0, .int 0, .int 0, .int 0, .int 0, .int 0, .int 0]), rfl, ⟨rfl, rfl, fun j hj => (by rcases (show j = 0 ∨ j = 1 ∨ j = 2 ∨ j = 3 ∨ j = 4 ∨ j = 5 ∨ j = 6 ∨ j = 7 ∨ j = 8 ∨ j = 9 ∨ j = 10 ∨ j = 11 ∨ j = 12 ∨ j = 13 ∨ j = 14 ∨ j = 15 ∨ j = 16 ∨ j = 17 from (by have : j < 18 := hj; omega)) with rfl | rfl | rfl | rfl | rfl | rfl | rfl | rfl | rfl | rfl | rfl | rfl | rfl | rfl | rfl | rfl | rfl | rfl <;> first | rfl | exact congrArg Value.ref (addR_0s rfl)), fun j ty h => (by have hj : j < 18 := (List.getElem?_eq_some_iff.mp h).1; rcases (show j = 0 ∨ j = 1 ∨ j = 2 ∨ j = 3 ∨ j = 4 ∨ j = 5 ∨ j = 6 ∨ j = 7 ∨ j = 8 ∨ j = 9 ∨ j = 10 ∨ j = 11 ∨ j = 12 ∨ j = 13 ∨ j = 14 ∨ j = 15 ∨ j = 16 ∨ j = 17 by omega) with rfl | rfl | rfl | rfl | rfl | rfl | rfl | rfl | rfl | rfl | rfl | rfl | rfl | rfl | rfl | rfl | rfl | rfl <;> first | (cases Option.some.inj h; rfl) | cases Option.some.inj h)⟩⟩
    · cases Option.some.inj (hk.symm.trans ly1_1)
      exact ⟨.inr (.inl (.int, 6)), rfl, ⟨rfl, fun _ => rfl, Or.inl rfl, by decide⟩⟩
    · cases Option.some.inj (hk.symm.trans ly1_2)
      exact ⟨.inl (10, [.ref a3, .ref a4, .int 0]), rfl, ⟨rfl, rfl, fun j hj => (by rcases (show j = 0 ∨ j = 1 ∨ j = 2 from (by have : j < 3 := hj; omega)) with rfl | rfl | rfl <;> first | rfl | exact congrArg Value.ref (addR_0s rfl)), fun j ty h => (by have hj : j < 3 := (List.getElem?_eq_some_iff.mp h).1; rcases (show j = 0 ∨ j = 1 ∨ j = 2 by omega) with rfl | rfl | rfl <;> first | (cases Option.some.inj h; rfl) | cases Option.some.inj h)⟩⟩
    · cases Option.some.inj (hk.symm.trans ly1_3)
      exact ⟨.inr (.inl (.int, 7)), rfl, ⟨rfl, fun _ => rfl, Or.inl rfl, by decide⟩⟩
    · cases Option.some.inj (hk.symm.trans ly1_4)
      exact ⟨.inr (.inl (.int, 7)), rfl, ⟨rfl, fun _ => rfl, Or.inl rfl, by decide⟩⟩
    · cases Option.some.inj (hk.symm.trans ly1_5)
      exact ⟨.inl (8, [.ref a6, .ref a7, .int 0]), rfl, ⟨rfl, rfl, fun j hj => (by rcases (show j = 0 ∨ j = 1 ∨ j = 2 from (by have : j < 3 := hj; omega)) with rfl | rfl | rfl <;> first | rfl | exact congrArg Value.ref (addR_0s rfl)), fun j ty h => (by have hj : j < 3 := (List.getElem?_eq_some_iff.mp h).1; rcases (show j = 0 ∨ j = 1 ∨ j = 2 by omega) with rfl | rfl | rfl <;> first | (cases Option.some.inj h; rfl) | cases Option.some.inj h)⟩⟩
    · cases Option.some.inj (hk.symm.trans ly1_6)
      exact ⟨.inr (.inl (.int, 20)), rfl, ⟨rfl, fun _ => rfl, Or.inl rfl, by decide⟩⟩
    · cases Option.some.inj (hk.symm.trans ly1_7)
      exact ⟨.inr (.inl (.boolean, 20)), rfl, ⟨rfl, fun _ => rfl, Or.inr (Or.inl rfl), by decide⟩⟩
    · cases Option.some.inj (hk.symm.trans ly1_8)
      exact ⟨.inl (9, [.int 0, .int 0, .int 0, .int 0, .int 0]), rfl, ⟨rfl, rfl, fun j hj => (by rcases (show j = 0 ∨ j = 1 ∨ j = 2 ∨ j = 3 ∨ j = 4 from (by have : j < 5 := hj; omega)) with rfl | rfl | rfl | rfl | rfl <;> first | rfl | exact congrArg Value.ref (addR_0s rfl)), fun j ty h => (by have hj : j < 5 := (List.getElem?_eq_some_iff.mp h).1; rcases (show j = 0 ∨ j = 1 ∨ j = 2 ∨ j = 3 ∨ j = 4 by omega) with rfl | rfl | rfl | rfl | rfl <;> first | (cases Option.some.inj h; rfl) | cases Option.some.inj h)⟩⟩
    · cases Option.some.inj (hk.symm.trans ly1_9)
      exact ⟨.inl (12, [.ref a10]), rfl, ⟨rfl, rfl, fun j hj => (by rcases (show j = 0 from (by have : j < 1 := hj; omega)) with rfl <;> first | rfl | exact congrArg Value.ref (addR_0s rfl)), fun j ty h => (by have hj : j < 1 := (List.getElem?_eq_some_iff.mp h).1; rcases (show j = 0 by omega) with rfl <;> first | (cases Option.some.inj h; rfl) | cases Option.some.inj h)⟩⟩
    · cases Option.some.inj (hk.symm.trans ly1_10)
      exact ⟨.inr (.inl (.int, 60)), rfl, ⟨rfl, fun _ => rfl, Or.inl rfl, by decide⟩⟩
    · cases Option.some.inj (hk.symm.trans ly1_11)
      exact ⟨.inl (6, [.ref a12, .int 0]), rfl, ⟨rfl, rfl, fun j hj => (by rcases (show j = 0 ∨ j = 1 from (by have : j < 2 := hj; omega)) with rfl | rfl <;> first | rfl | exact congrArg Value.ref (addR_0s rfl)), fun j ty h => (by have hj : j < 2 := (List.getElem?_eq_some_iff.mp h).1; rcases (show j = 0 ∨ j = 1 by omega) with rfl | rfl <;> first | (cases Option.some.inj h; rfl) | cases Option.some.inj h)⟩⟩
    · cases Option.some.inj (hk.symm.trans ly1_12)
      exact ⟨.inl (12, [.ref a13]), rfl, ⟨rfl, rfl, fun j hj => (by rcases (show j = 0 from (by have : j < 1 := hj; omega)) with rfl <;> first | rfl | exact congrArg Value.ref (addR_0s rfl)), fun j ty h => (by have hj : j < 1 := (List.getElem?_eq_some_iff.mp h).1; rcases (show j = 0 by omega) with rfl <;> first | (cases Option.some.inj h; rfl) | cases Option.some.inj h)⟩⟩
    · cases Option.some.inj (hk.symm.trans ly1_13)
      exact ⟨.inr (.inl (.int, 60)), rfl, ⟨rfl, fun _ => rfl, Or.inl rfl, by decide⟩⟩
    · cases Option.some.inj (hk.symm.trans ly1_14)
      exact ⟨.inl (11, [.ref a15, .ref a16, .ref a17, .ref a18, .int 0]), rfl, ⟨rfl, rfl, fun j hj => (by rcases (show j = 0 ∨ j = 1 ∨ j = 2 ∨ j = 3 ∨ j = 4 from (by have : j < 5 := hj; omega)) with rfl | rfl | rfl | rfl | rfl <;> first | rfl | exact congrArg Value.ref (addR_0s rfl)), fun j ty h => (by have hj : j < 5 := (List.getElem?_eq_some_iff.mp h).1; rcases (show j = 0 ∨ j = 1 ∨ j = 2 ∨ j = 3 ∨ j = 4 by omega) with rfl | rfl | rfl | rfl | rfl <;> first | (cases Option.some.inj h; rfl) | cases Option.some.inj h)⟩⟩
    · cases Option.some.inj (hk.symm.trans ly1_15)
      exact ⟨.inr (.inl (.int, 9)), rfl, ⟨rfl, fun _ => rfl, Or.inl rfl, by decide⟩⟩
    · cases Option.some.inj (hk.symm.trans ly1_16)
      exact ⟨.inr (.inl (.int, 9)), rfl, ⟨rfl, fun _ => rfl, Or.inl rfl, by decide⟩⟩
    · cases Option.some.inj (hk.symm.trans ly1_17)
      exact ⟨.inr (.inl (.int, 60)), rfl, ⟨rfl, fun _ => rfl, Or.inl rfl, by decide⟩⟩
    · cases Option.some.inj (hk.symm.trans ly1_18)
      exact ⟨.inr (.inl (.int, 100)), rfl, ⟨rfl, fun _ => rfl, Or.inl rfl, by decide⟩⟩
    · cases Option.some.inj (hk.symm.trans ly1_19)
      exact ⟨.inr (.inl (.boolean, 60)), rfl, ⟨rfl, fun _ => rfl, Or.inr (Or.inl rfl), by decide⟩⟩
  refine n_vcall hC addR_ks kclX0 ly1_0 m_X0_begin q138 ⟨(Nat.le_of_ble_eq_true rfl), (Nat.le_of_ble_eq_true rfl)⟩ (Nat.le_of_ble_eq_true rfl) (Nat.le_of_ble_eq_true rfl) [vr (addR E r 1 (fun o => [h0, a1, a2, a3, a4, a5, a6, a7, a8, a9, a10, a11, a12, a13, a14, a15, a16, a17, a18, a19].getD o 0)) q 0] (by show [Value.ref _, Value.ref _] = [Value.ref _, Value.ref _]; rw [addR_s, addR_n hqr, hp0]; rfl) (fun l => c_X0_begin_p1_0_2_0 l addR_ks ((addR_kn hqr).trans hq) h1) rfl (Nat.le_of_ble_eq_true rfl) (xdt tt_X0_init 42 rfl) ?_
  exact n_vret hC hE ⟨_, rfl, rfl⟩ (xdt tt_X0_init 43 rfl)
