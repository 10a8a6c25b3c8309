def emp : String := ""
theorem hb_X3_init {E : xE} {S1 : xSt}  {h0 : Nat} {ws0 : pW} {u : xE × xSt × pW} (hu : (fun u => ∃ f10 : Nat → Nat, ∃ a1 : Nat, ∃ a2 : Nat, ∃ a3 : Nat, ∃ a4 : Nat, u = ((addR E 10 2 f10), S1, (a4, .inr (.inl (.byte, 0))) :: (a3, .inr (.inl (.int, 2))) :: (a2, .inr (.inl (.int, 2))) :: (a1, .inr (.inl (.boolean, 6))) :: (h0, .inl (3, [.ref a4, .int 0, .ref (f10 0), .int 0, .int 0, .int 0, .int 0, .ref a1, .ref a2, .ref a3, .int 0, .int 0, .int (Int32.ofInt (-1))])) :: ws0)) u) : xBase E u.1 := by
  obtain ⟨f10, a1, a2, a3, a4, rfl⟩ := hu
  exact ⟨rfl, rfl⟩
set_option maxRecDepth 100000 in
set_option maxHeartbeats 16000000 in
theorem cN_X3_init (l : Launch) {E : xE} {B : Nat} {S S1 : xSt} {h0 : Nat} {ws0 : pW}  (hr10 : xkd E 10 = 0) (ha10 : xApart E S 10) (hp10 : f_X5_clear_p2_0 (newS S 10 2 (fun _ _ => 0) (fun _ _ => nul)) 10 = some S1) : Met l yX3_init (xws yX3_init cX3_init 1 none) (rmN 4 17 525) (NPc E B [.ref h0] S ((h0, .inl (3, [.null, .int 0, .null, .int 0, .int 0, .int 0, .int 0, .null, .null, .null, .int 0, .int 0, .int 0])) :: ws0)) (NQ B (fun u => ∃ f10 : Nat → Nat, ∃ a1 : Nat, ∃ a2 : Nat, ∃ a3 : Nat, ∃ a4 : Nat, u = ((addR E 10 2 f10), S1, (a4, .inr (.inl (.byte, 0))) :: (a3, .inr (.inl (.int, 2))) :: (a2, .inr (.inl (.int, 2))) :: (a1, .inr (.inl (.boolean, 6))) :: (h0, .inl (3, [.ref a4, .int 0, .ref (f10 0), .int 0, .int 0, .int 0, .int 0, .ref a1, .ref a2, .ref a3, .int 0, .int 0, .int (Int32.ofInt (-1))])) :: ws0))) 17 525 (fun a => B ≤ a) := by
  refine metN (by decide +kernel) rfl (Nat.le_of_ble_eq_true rfl) (fun K hC hE => ?_)
  have hC : xOKN K cX3_init RX3 1 (rmN 4 17 525) := hC
  show WN K E B 0 [(0, .ref h0)] [] S ((h0, .inl (3, [.null, .int 0, .null, .int 0, .int 0, .int 0, .int 0, .null, .null, .null, .int 0, .int 0, .int 0])) :: ws0) 0 0
  refine n_aload_n hC rfl 0 rfl (xdt tt_X3_init 0 rfl) ?_
  refine n_objInit hC q45 q11 q12 (Nat.le_of_ble_eq_true rfl) (Nat.le_of_ble_eq_true rfl) (xdt tt_X3_init 1 rfl) ?_
  refine n_aload_n hC rfl 0 rfl (xdt tt_X3_init 2 rfl) ?_
  refine n_bipush hC (by decide) (xdt tt_X3_init 3 rfl) ?_
  refine n_newa hC (et := .boolean) rfl q46 (by decide) (N := 6) (by decide) (Nat.le_of_ble_eq_true rfl) (Nat.le_of_ble_eq_true rfl) (Nat.le_of_ble_eq_true rfl) (xdt tt_X3_init 4 rfl) (fun a1 => ?_)
  refine n_putF hC 1 rfl kclX3 7 (by decide) rfl rfl q47 rfl rfl (xdt tt_X3_init 5 rfl) ?_
  refine n_cast rfl rfl (ws' := (a1, .inr (.inl (.boolean, 6))) :: (h0, .inl (3, [.null, .int 0, .null, .int 0, .int 0, .int 0, .int 0, .ref a1, .null, .null, .int 0, .int 0, .int 0])) :: ws0) rfl ?_
  refine n_aload_n hC rfl 0 rfl (xdt tt_X3_init 6 rfl) ?_
  refine n_iconst hC (xdt tt_X3_init 7 rfl) ?_
  refine n_newa hC (et := .int) rfl q48 (by decide) (N := 2) (by decide) (Nat.le_of_ble_eq_true rfl) (Nat.le_of_ble_eq_true rfl) (Nat.le_of_ble_eq_true rfl) (xdt tt_X3_init 8 rfl) (fun a2 => ?_)
  refine n_putF hC 2 rfl kclX3 8 (by decide) rfl rfl q49 rfl rfl (xdt tt_X3_init 9 rfl) ?_
  refine n_cast rfl rfl (ws' := (a2, .inr (.inl (.int, 2))) :: (a1, .inr (.inl (.boolean, 6))) :: (h0, .inl (3, [.null, .int 0, .null, .int 0, .int 0, .int 0, .int 0, .ref a1, .ref a2, .null, .int 0, .int 0, .int 0])) :: ws0) rfl ?_
  refine n_aload_n hC rfl 0 rfl (xdt tt_X3_init 10 rfl) ?_
  refine n_iconst hC (xdt tt_X3_init 11 rfl) ?_
  refine n_newa hC (et := .int) rfl q48 (by decide) (N := 2) (by decide) (Nat.le_of_ble_eq_true rfl) (Nat.le_of_ble_eq_true rfl) (Nat.le_of_ble_eq_true rfl) (xdt tt_X3_init 12 rfl) (fun a3 => ?_)
  refine n_putF hC 3 rfl kclX3 9 (by decide) rfl rfl q50 rfl rfl (xdt tt_X3_init 13 rfl) ?_
  refine n_cast rfl rfl (ws' := (a3, .inr (.inl (.int, 2))) :: (a2, .inr (.inl (.int, 2))) :: (a1, .inr (.inl (.boolean, 6))) :: (h0, .inl (3, [.null, .int 0, .null, .int 0, .int 0, .int 0, .int 0, .ref a1, .ref a2, .ref a3, .int 0, .int 0, .int 0])) :: ws0) rfl ?_
  refine n_aload_n hC rfl 0 rfl (xdt tt_X3_init 14 rfl) ?_
  refine n_iconst hC (xdt tt_X3_init 15 rfl) ?_
  refine n_newa hC (et := .byte) rfl q13 (by decide) (N := 0) (by decide) (Nat.le_of_ble_eq_true rfl) (Nat.le_of_ble_eq_true rfl) (Nat.le_of_ble_eq_true rfl) (xdt tt_X3_init 16 rfl) (fun a4 => ?_)
  refine n_put hC 4 rfl kclX3 0 (by decide) rfl q51 rfl rfl (xdt tt_X3_init 17 rfl) ?_
  refine n_cast rfl rfl (ws' := (a4, .inr (.inl (.byte, 0))) :: (a3, .inr (.inl (.int, 2))) :: (a2, .inr (.inl (.int, 2))) :: (a1, .inr (.inl (.boolean, 6))) :: (h0, .inl (3, [.ref a4, .int 0, .null, .int 0, .int 0, .int 0, .int 0, .ref a1, .ref a2, .ref a3, .int 0, .int 0, .int 0])) :: ws0) rfl ?_
  refine n_aload_n hC rfl 0 rfl (xdt tt_X3_init 18 rfl) ?_
  refine n_new hC kclX5 q52 q24 q25 [.null, .null, .null, .null, .null, .null, .null, .null, .null, .null, .int 0] rfl blkX5 (Nat.le_of_ble_eq_true rfl) (Nat.le_of_ble_eq_true rfl) (xdt tt_X3_init 19 rfl) (fun a5 => ?_)
  refine n_dup hC rfl (xdt tt_X3_init 20 rfl) ?_
  refine n_ctor hC mc_X5_init (host := emp) q55 ⟨(Nat.le_of_ble_eq_true rfl), (Nat.le_of_ble_eq_true rfl)⟩ (Nat.le_of_ble_eq_true rfl) (Nat.le_of_ble_eq_true rfl) [] rfl (fun u hu => hb_X5_init hu) (fun l => cN_X5_init l (E := E) (S := S) (r := 10) hr10 ha10 hp10) rfl (Nat.le_of_ble_eq_true rfl) (xdt tt_X3_init 21 rfl) (fun u hu => ?_)
  obtain ⟨f10, rfl, rfl⟩ := hu
  show WN K (addR E 10 2 f10) B 41 [(0, .ref h0)] [.ref (f10 0), .ref h0] S1 ((a4, .inr (.inl (.byte, 0))) :: (a3, .inr (.inl (.int, 2))) :: (a2, .inr (.inl (.int, 2))) :: (a1, .inr (.inl (.boolean, 6))) :: (h0, .inl (3, [.ref a4, .int 0, .null, .int 0, .int 0, .int 0, .int 0, .ref a1, .ref a2, .ref a3, .int 0, .int 0, .int 0])) :: ws0) 17 525
  refine n_put hC 4 rfl kclX3 2 (by decide) rfl q53 rfl rfl (xdt tt_X3_init 22 rfl) ?_
  refine n_cast rfl rfl (ws' := (a4, .inr (.inl (.byte, 0))) :: (a3, .inr (.inl (.int, 2))) :: (a2, .inr (.inl (.int, 2))) :: (a1, .inr (.inl (.boolean, 6))) :: (h0, .inl (3, [.ref a4, .int 0, .ref (f10 0), .int 0, .int 0, .int 0, .int 0, .ref a1, .ref a2, .ref a3, .int 0, .int 0, .int 0])) :: ws0) rfl ?_
  refine n_aload_n hC rfl 0 rfl (xdt tt_X3_init 23 rfl) ?_
  refine n_iconst hC (xdt tt_X3_init 24 rfl) ?_
  refine n_put hC 4 rfl kclX3 12 (by decide) rfl q54 rfl rfl (xdt tt_X3_init 25 rfl) ?_
  refine n_cast rfl rfl (ws' := (a4, .inr (.inl (.byte, 0))) :: (a3, .inr (.inl (.int, 2))) :: (a2, .inr (.inl (.int, 2))) :: (a1, .inr (.inl (.boolean, 6))) :: (h0, .inl (3, [.ref a4, .int 0, .ref (f10 0), .int 0, .int 0, .int 0, .int 0, .ref a1, .ref a2, .ref a3, .int 0, .int 0, .int (Int32.ofInt (-1))])) :: ws0) rfl ?_
  exact n_vret hC hE ⟨f10, a1, a2, a3, a4, rfl⟩ (xdt tt_X3_init 26 rfl)
theorem hb_X1_init {E : xE} {S6 : xSt}  {h0 : Nat} {ws0 : pW} {u : xE × xSt × pW} (hu : (fun u => ∃ f4 : Nat → Nat, ∃ f5 : Nat → Nat, ∃ f6 : Nat → Nat, ∃ f7 : Nat → Nat, ∃ f8 : Nat → Nat, ∃ f9 : Nat → Nat, ∃ a1 : Nat, u = ((addR (addR (addR (addR (addR (addR E 4 1 f4) 5 1 f5) 6 1 f6) 7 1 f7) 8 1 f8) 9 1 f9), S6, (a1, .inr (.inr ("FusionFront$Front", [some (f4 0), some (f5 0), some (f6 0), some (f7 0), some (f8 0), some (f9 0)]))) :: (h0, .inl (1, [.ref a1, .int 0, .int 0])) :: ws0)) u) : xBase E u.1 := by
  obtain ⟨f4, f5, f6, f7, f8, f9, a1, rfl⟩ := hu
  exact ⟨rfl, rfl⟩
set_option maxRecDepth 100000 in
set_option maxHeartbeats 16000000 in
theorem cN_X1_init (l : Launch) {E : xE} {B : Nat} {S S1 S2 S3 S4 S5 S6 : xSt} {h0 : Nat} {ws0 : pW} {p0 : Nat} (hq : xkd E 11 = 2) (hp0 : xad E 11 0 = p0) (hr4 : xkd E 4 = 0) (hr5 : xkd E 5 = 0) (hr6 : xkd E 6 = 0) (hr7 : xkd E 7 = 0) (hr8 : xkd E 8 = 0) (hr9 : xkd E 9 = 0) (ha4 : xApart E S 4) (hp4 : f_X0_begin_p1_0_2_0 (newS S 4 1 (fun _ _ => 0) (fun _ _ => nul)) 4 11 = some S1) (ha5 : xApart (addR E 4 1 (fun _ => 0)) S1 5) (hp5 : f_X0_begin_p1_0_2_0 (newS S1 5 1 (fun _ _ => 0) (fun _ _ => nul)) 5 11 = some S2) (ha6 : xApart (addR (addR E 4 1 (fun _ => 0)) 5 1 (fun _ => 0)) S2 6) (hp6 : f_X0_begin_p1_0_2_0 (newS S2 6 1 (fun _ _ => 0) (fun _ _ => nul)) 6 11 = some S3) (ha7 : xApart (addR (addR (addR E 4 1 (fun _ => 0)) 5 1 (fun _ => 0)) 6 1 (fun _ => 0)) S3 7) (hp7 : f_X0_begin_p1_0_2_0 (newS S3 7 1 (fun _ _ => 0) (fun _ _ => nul)) 7 11 = some S4) (ha8 : xApart (addR (addR (addR (addR E 4 1 (fun _ => 0)) 5 1 (fun _ => 0)) 6 1 (fun _ => 0)) 7 1 (fun _ => 0)) S4 8) (hp8 : f_X0_begin_p1_0_2_0 (newS S4 8 1 (fun _ _ => 0) (fun _ _ => nul)) 8 11 = some S5) (ha9 : xApart (addR (addR (addR (addR (addR E 4 1 (fun _ => 0)) 5 1 (fun _ => 0)) 6 1 (fun _ => 0)) 7 1 (fun _ => 0)) 8 1 (fun _ => 0)) S5 9) (hp9 : f_X0_begin_p1_0_2_0 (newS S5 9 1 (fun _ _ => 0) (fun _ _ => nul)) 9 11 = some S6) : Met l yX1_init (xws yX1_init cX1_init 3 none) (rmN 5 121 2742) (NPc E B [.ref h0, .ref p0] S ((h0, .inl (1, [.null, .int 0, .int 0])) :: ws0)) (NQ B (fun u => ∃ f4 : Nat → Nat, ∃ f5 : Nat → Nat, ∃ f6 : Nat → Nat, ∃ f7 : Nat → Nat, ∃ f8 : Nat → Nat, ∃ f9 : Nat → Nat, ∃ a1 : Nat, u = ((addR (addR (addR (addR (addR (addR E 4 1 f4) 5 1 f5) 6 1 f6) 7 1 f7) 8 1 f8) 9 1 f9), S6, (a1, .inr (.inr ("FusionFront$Front", [some (f4 0), some (f5 0), some (f6 0), some (f7 0), some (f8 0), some (f9 0)]))) :: (h0, .inl (1, [.ref a1, .int 0, .int 0])) :: ws0))) 121 2742 (fun a => B ≤ a) := by
  refine metN (by decide +kernel) rfl (Nat.le_of_ble_eq_true rfl) (fun K hC hE => ?_)
  have hC : xOKN K cX1_init RX1 3 (rmN 5 121 2742) := hC
  show WN K E B 0 [(0, .ref h0), (1, .ref p0)] [] S ((h0, .inl (1, [.null, .int 0, .int 0])) :: ws0) 0 0
  refine n_aload_n hC rfl 0 rfl (xdt tt_X1_init 0 rfl) ?_
  refine n_objInit hC q188 q11 q12 (Nat.le_of_ble_eq_true rfl) (Nat.le_of_ble_eq_true rfl) (xdt tt_X1_init 1 rfl) ?_
  refine n_aload_n hC rfl 0 rfl (xdt tt_X1_init 2 rfl) ?_
  refine n_bipush hC (by decide) (xdt tt_X1_init 3 rfl) ?_
  refine n_anew hC q189 rfl (by decide) (N := 6) (by decide) (Nat.le_of_ble_eq_true rfl) (Nat.le_of_ble_eq_true rfl) (Nat.le_of_ble_eq_true rfl) (xdt tt_X1_init 4 rfl) (fun a1 => ?_)
  refine n_cast rfl rfl (ws' := (a1, .inr (.inr ("FusionFront$Front", [none, none, none, none, none, none]))) :: (h0, .inl (1, [.null, .int 0, .int 0])) :: ws0) rfl ?_
  refine n_putF hC 1 rfl kclX1 0 (by decide) rfl rfl q190 rfl rfl (xdt tt_X1_init 5 rfl) ?_
  refine n_cast rfl rfl (ws' := (a1, .inr (.inr ("FusionFront$Front", [none, none, none, none, none, none]))) :: (h0, .inl (1, [.ref a1, .int 0, .int 0])) :: ws0) rfl ?_
  refine n_iconst hC (xdt tt_X1_init 6 rfl) ?_
  refine n_istore_n hC rfl (by decide) (lv' := [(2, vi 0), (0, .ref h0), (1, .ref p0)]) rfl (xdt tt_X1_init 7 rfl) ?_
  refine n_iload_n hC rfl 0 rfl (xdt tt_X1_init 8 rfl) ?_
  refine n_bipush hC (by decide) (xdt tt_X1_init 9 rfl) ?_
  refine n_icmp_ge hC (show ((18 : Nat) : Int) + 23 = ((41 : Nat) : Int) by decide) (xdt tt_X1_init 10 rfl) (fun h => absurd h (by decide)) (fun _ => ?_)
  refine n_aload_n hC rfl 1 rfl (xdt tt_X1_init 11 rfl) ?_
  refine n_get hC 1 rfl kclX1 0 (by decide) q190 (v := .ref a1) rfl (xdt tt_X1_init 12 rfl) ?_
  refine n_iload_n hC rfl 0 rfl (xdt tt_X1_init 13 rfl) ?_
  refine n_new hC kclX0 q189 q29 q30 [.null, .null, .null, .null, .null, .null, .null, .null, .null, .int 0, .int 0, .int 0, .int 0, .int 0, .int 0, .int 0, .int 0, .int 0] rfl blkX0 (Nat.le_of_ble_eq_true rfl) (Nat.le_of_ble_eq_true rfl) (xdt tt_X1_init 14 rfl) (fun a2 => ?_)
  refine n_dup hC rfl (xdt tt_X1_init 15 rfl) ?_
  refine n_aload_n hC rfl 2 rfl (xdt tt_X1_init 16 rfl) ?_
  refine n_ctor hC mc_X0_init (host := emp) q191 ⟨(Nat.le_of_ble_eq_true rfl), (Nat.le_of_ble_eq_true rfl)⟩ (Nat.le_of_ble_eq_true rfl) (Nat.le_of_ble_eq_true rfl) [.ref p0] rfl (fun u hu => hb_X0_init hu) (fun l => cN_X0_init l (E := E) (S := S) (r := 4) hr4 ha4 (q := 11) (p0 := p0) hq (by decide) hp0 hp4) rfl (Nat.le_of_ble_eq_true rfl) (xdt tt_X1_init 17 rfl) (fun u hu => ?_)
  obtain ⟨f4, rfl, rfl⟩ := hu
  show WN K (addR E 4 1 f4) B 34 [(2, vi 0), (0, .ref h0), (1, .ref p0)] [.ref (f4 0), vi 0, .ref a1] S1 ((a1, .inr (.inr ("FusionFront$Front", [none, none, none, none, none, none]))) :: (h0, .inl (1, [.ref a1, .int 0, .int 0])) :: ws0) 21 462
  refine n_cast rfl (st' := vr (addR E 4 1 f4) 4 0 :: vi 0 :: .ref a1 :: []) rfl rfl ?_
  refine n_aast hC 0 rfl (r := 4) (o := 0) (κ := 1) rfl ly1_0 kclX0 (i := 0) (by decide) (es' := [some (f4 0), none, none, none, none, none]) rfl (xdt tt_X1_init 18 rfl) ?_
  refine n_cast rfl rfl (ws' := (a1, .inr (.inr ("FusionFront$Front", [some (f4 0), none, none, none, none, none]))) :: (h0, .inl (1, [.ref a1, .int 0, .int 0])) :: ws0) rfl ?_
  refine n_iinc hC 0 rfl (by decide) (w := 1) rfl (lv' := [(2, vi 1), (0, .ref h0), (1, .ref p0)]) rfl (xdt tt_X1_init 19 rfl) ?_
  refine n_goto hC (show ((38 : Nat) : Int) + (-23) = ((15 : Nat) : Int) by decide) (xdt tt_X1_init 20 rfl) ?_
  refine n_iload_n hC rfl 0 rfl (xdt tt_X1_init 8 rfl) ?_
  refine n_bipush hC (by decide) (xdt tt_X1_init 9 rfl) ?_
  refine n_icmp_ge hC (show ((18 : Nat) : Int) + 23 = ((41 : Nat) : Int) by decide) (xdt tt_X1_init 10 rfl) (fun h => absurd h (by decide)) (fun _ => ?_)
  refine n_aload_n hC rfl 1 rfl (xdt tt_X1_init 11 rfl) ?_
  refine n_get hC 1 rfl kclX1 0 (by decide) q190 (v := .ref a1) rfl (xdt tt_X1_init 12 rfl) ?_
  refine n_iload_n hC rfl 0 rfl (xdt tt_X1_init 13 rfl) ?_
  refine n_new hC kclX0 q189 q29 q30 [.null, .null, .null, .null, .null, .null, .null, .null, .null, .int 0, .int 0, .int 0, .int 0, .int 0, .int 0, .int 0, .int 0, .int 0] rfl blkX0 (Nat.le_of_ble_eq_true rfl) (Nat.le_of_ble_eq_true rfl) (xdt tt_X1_init 14 rfl) (fun a3 => ?_)
  refine n_dup hC rfl (xdt tt_X1_init 15 rfl) ?_
  refine n_aload_n hC rfl 2 rfl (xdt tt_X1_init 16 rfl) ?_
  refine n_ctor hC mc_X0_init (host := emp) q191 ⟨(Nat.le_of_ble_eq_true rfl), (Nat.le_of_ble_eq_true rfl)⟩ (Nat.le_of_ble_eq_true rfl) (Nat.le_of_ble_eq_true rfl) [.ref p0] rfl (fun u hu => hb_X0_init hu) (fun l => cN_X0_init l (E := (addR E 4 1 f4)) (S := S1) (r := 5) hr5 ha5 (q := 11) (p0 := p0) hq (by decide) hp0 hp5) rfl (Nat.le_of_ble_eq_true rfl) (xdt tt_X1_init 17 rfl) (fun u hu => ?_)
  obtain ⟨f5, rfl, rfl⟩ := hu
  show WN K (addR (addR E 4 1 f4) 5 1 f5) B 34 [(2, vi 1), (0, .ref h0), (1, .ref p0)] [.ref (f5 0), vi 1, .ref a1] S2 ((a1, .inr (.inr ("FusionFront$Front", [some (f4 0), none, none, none, none, none]))) :: (h0, .inl (1, [.ref a1, .int 0, .int 0])) :: ws0) 41 918
  refine n_cast rfl (st' := vr (addR (addR E 4 1 f4) 5 1 f5) 5 0 :: vi 1 :: .ref a1 :: []) rfl rfl ?_
  refine n_aast hC 0 rfl (r := 5) (o := 0) (κ := 1) rfl ly1_0 kclX0 (i := 1) (by decide) (es' := [some (f4 0), some (f5 0), none, none, none, none]) rfl (xdt tt_X1_init 18 rfl) ?_
  refine n_cast rfl rfl (ws' := (a1, .inr (.inr ("FusionFront$Front", [some (f4 0), some (f5 0), none, none, none, none]))) :: (h0, .inl (1, [.ref a1, .int 0, .int 0])) :: ws0) rfl ?_
  refine n_iinc hC 0 rfl (by decide) (w := 2) rfl (lv' := [(2, vi 2), (0, .ref h0), (1, .ref p0)]) rfl (xdt tt_X1_init 19 rfl) ?_
  refine n_goto hC (show ((38 : Nat) : Int) + (-23) = ((15 : Nat) : Int) by decide) (xdt tt_X1_init 20 rfl) ?_
  refine n_iload_n hC rfl 0 rfl (xdt tt_X1_init 8 rfl) ?_
  refine n_bipush hC (by decide) (xdt tt_X1_init 9 rfl) ?_
  refine n_icmp_ge hC (show ((18 : Nat) : Int) + 23 = ((41 : Nat) : Int) by decide) (xdt tt_X1_init 10 rfl) (fun h => absurd h (by decide)) (fun _ => ?_)
  refine n_aload_n hC rfl 1 rfl (xdt tt_X1_init 11 rfl) ?_
  refine n_get hC 1 rfl kclX1 0 (by decide) q190 (v := .ref a1) rfl (xdt tt_X1_init 12 rfl) ?_
  refine n_iload_n hC rfl 0 rfl (xdt tt_X1_init 13 rfl) ?_
  refine n_new hC kclX0 q189 q29 q30 [.null, .null, .null, .null, .null, .null, .null, .null, .null, .int 0, .int 0, .int 0, .int 0, .int 0, .int 0, .int 0, .int 0, .int 0] rfl blkX0 (Nat.le_of_ble_eq_true rfl) (Nat.le_of_ble_eq_true rfl) (xdt tt_X1_init 14 rfl) (fun a4 => ?_)
  refine n_dup hC rfl (xdt tt_X1_init 15 rfl) ?_
  refine n_aload_n hC rfl 2 rfl (xdt tt_X1_init 16 rfl) ?_
  refine n_ctor hC mc_X0_init (host := emp) q191 ⟨(Nat.le_of_ble_eq_true rfl), (Nat.le_of_ble_eq_true rfl)⟩ (Nat.le_of_ble_eq_true rfl) (Nat.le_of_ble_eq_true rfl) [.ref p0] rfl (fun u hu => hb_X0_init hu) (fun l => cN_X0_init l (E := (addR (addR E 4 1 f4) 5 1 f5)) (S := S2) (r := 6) hr6 ha6 (q := 11) (p0 := p0) hq (by decide) hp0 hp6) rfl (Nat.le_of_ble_eq_true rfl) (xdt tt_X1_init 17 rfl) (fun u hu => ?_)
  obtain ⟨f6, rfl, rfl⟩ := hu
  show WN K (addR (addR (addR E 4 1 f4) 5 1 f5) 6 1 f6) B 34 [(2, vi 2), (0, .ref h0), (1, .ref p0)] [.ref (f6 0), vi 2, .ref a1] S3 ((a1, .inr (.inr ("FusionFront$Front", [some (f4 0), some (f5 0), none, none, none, none]))) :: (h0, .inl (1, [.ref a1, .int 0, .int 0])) :: ws0) 61 1374
  refine n_cast rfl (st' := vr (addR (addR (addR E 4 1 f4) 5 1 f5) 6 1 f6) 6 0 :: vi 2 :: .ref a1 :: []) rfl rfl ?_
  refine n_aast hC 0 rfl (r := 6) (o := 0) (κ := 1) rfl ly1_0 kclX0 (i := 2) (by decide) (es' := [some (f4 0), some (f5 0), some (f6 0), none, none, none]) rfl (xdt tt_X1_init 18 rfl) ?_
  refine n_cast rfl rfl (ws' := (a1, .inr (.inr ("FusionFront$Front", [some (f4 0), some (f5 0), some (f6 0), none, none, none]))) :: (h0, .inl (1, [.ref a1, .int 0, .int 0])) :: ws0) rfl ?_
  refine n_iinc hC 0 rfl (by decide) (w := 3) rfl (lv' := [(2, vi 3), (0, .ref h0), (1, .ref p0)]) rfl (xdt tt_X1_init 19 rfl) ?_
  refine n_goto hC (show ((38 : Nat) : Int) + (-23) = ((15 : Nat) : Int) by decide) (xdt tt_X1_init 20 rfl) ?_
  refine n_iload_n hC rfl 0 rfl (xdt tt_X1_init 8 rfl) ?_
  refine n_bipush hC (by decide) (xdt tt_X1_init 9 rfl) ?_
  refine n_icmp_ge hC (show ((18 : Nat) : Int) + 23 = ((41 : Nat) : Int) by decide) (xdt tt_X1_init 10 rfl) (fun h => absurd h (by decide)) (fun _ => ?_)
  refine n_aload_n hC rfl 1 rfl (xdt tt_X1_init 11 rfl) ?_
  refine n_get hC 1 rfl kclX1 0 (by decide) q190 (v := .ref a1) rfl (xdt tt_X1_init 12 rfl) ?_
  refine n_iload_n hC rfl 0 rfl (xdt tt_X1_init 13 rfl) ?_
  refine n_new hC kclX0 q189 q29 q30 [.null, .null, .null, .null, .null, .null, .null, .null, .null, .int 0, .int 0, .int 0, .int 0, .int 0, .int 0, .int 0, .int 0, .int 0] rfl blkX0 (Nat.le_of_ble_eq_true rfl) (Nat.le_of_ble_eq_true rfl) (xdt tt_X1_init 14 rfl) (fun a5 => ?_)
  refine n_dup hC rfl (xdt tt_X1_init 15 rfl) ?_
  refine n_aload_n hC rfl 2 rfl (xdt tt_X1_init 16 rfl) ?_
  refine n_ctor hC mc_X0_init (host := emp) q191 ⟨(Nat.le_of_ble_eq_true rfl), (Nat.le_of_ble_eq_true rfl)⟩ (Nat.le_of_ble_eq_true rfl) (Nat.le_of_ble_eq_true rfl) [.ref p0] rfl (fun u hu => hb_X0_init hu) (fun l => cN_X0_init l (E := (addR (addR (addR E 4 1 f4) 5 1 f5) 6 1 f6)) (S := S3) (r := 7) hr7 ha7 (q := 11) (p0 := p0) hq (by decide) hp0 hp7) rfl (Nat.le_of_ble_eq_true rfl) (xdt tt_X1_init 17 rfl) (fun u hu => ?_)
  obtain ⟨f7, rfl, rfl⟩ := hu
  show WN K (addR (addR (addR (addR E 4 1 f4) 5 1 f5) 6 1 f6) 7 1 f7) B 34 [(2, vi 3), (0, .ref h0), (1, .ref p0)] [.ref (f7 0), vi 3, .ref a1] S4 ((a1, .inr (.inr ("FusionFront$Front", [some (f4 0), some (f5 0), some (f6 0), none, none, none]))) :: (h0, .inl (1, [.ref a1, .int 0, .int 0])) :: ws0) 81 1830
  refine n_cast rfl (st' := vr (addR (addR (addR (addR E 4 1 f4) 5 1 f5) 6 1 f6) 7 1 f7) 7 0 :: vi 3 :: .ref a1 :: []) rfl rfl ?_
  refine n_aast hC 0 rfl (r := 7) (o := 0) (κ := 1) rfl ly1_0 kclX0 (i := 3) (by decide) (es' := [some (f4 0), some (f5 0), some (f6 0), some (f7 0), none, none]) rfl (xdt tt_X1_init 18 rfl) ?_
  refine n_cast rfl rfl (ws' := (a1, .inr (.inr ("FusionFront$Front", [some (f4 0), some (f5 0), some (f6 0), some (f7 0), none, none]))) :: (h0, .inl (1, [.ref a1, .int 0, .int 0])) :: ws0) rfl ?_
  refine n_iinc hC 0 rfl (by decide) (w := 4) rfl (lv' := [(2, vi 4), (0, .ref h0), (1, .ref p0)]) rfl (xdt tt_X1_init 19 rfl) ?_
  refine n_goto hC (show ((38 : Nat) : Int) + (-23) = ((15 : Nat) : Int) by decide) (xdt tt_X1_init 20 rfl) ?_
  refine n_iload_n hC rfl 0 rfl (xdt tt_X1_init 8 rfl) ?_
  refine n_bipush hC (by decide) (xdt tt_X1_init 9 rfl) ?_
  refine n_icmp_ge hC (show ((18 : Nat) : Int) + 23 = ((41 : Nat) : Int) by decide) (xdt tt_X1_init 10 rfl) (fun h => absurd h (by decide)) (fun _ => ?_)
  refine n_aload_n hC rfl 1 rfl (xdt tt_X1_init 11 rfl) ?_
  refine n_get hC 1 rfl kclX1 0 (by decide) q190 (v := .ref a1) rfl (xdt tt_X1_init 12 rfl) ?_
  refine n_iload_n hC rfl 0 rfl (xdt tt_X1_init 13 rfl) ?_
  refine n_new hC kclX0 q189 q29 q30 [.null, .null, .null, .null, .null, .null, .null, .null, .null, .int 0, .int 0, .int 0, .int 0, .int 0, .int 0, .int 0, .int 0, .int 0] rfl blkX0 (Nat.le_of_ble_eq_true rfl) (Nat.le_of_ble_eq_true rfl) (xdt tt_X1_init 14 rfl) (fun a6 => ?_)
  refine n_dup hC rfl (xdt tt_X1_init 15 rfl) ?_
  refine n_aload_n hC rfl 2 rfl (xdt tt_X1_init 16 rfl) ?_
  refine n_ctor hC mc_X0_init (host := emp) q191 ⟨(Nat.le_of_ble_eq_true rfl), (Nat.le_of_ble_eq_true rfl)⟩ (Nat.le_of_ble_eq_true rfl) (Nat.le_of_ble_eq_true rfl) [.ref p0] rfl (fun u hu => hb_X0_init hu) (fun l => cN_X0_init l (E := (addR (addR (addR (addR E 4 1 f4) 5 1 f5) 6 1 f6) 7 1 f7)) (S := S4) (r := 8) hr8 ha8 (q := 11) (p0 := p0) hq (by decide) hp0 hp8) rfl (Nat.le_of_ble_eq_true rfl) (xdt tt_X1_init 17 rfl) (fun u hu => ?_)
  obtain ⟨f8, rfl, rfl⟩ := hu
  show WN K (addR (addR (addR (addR (addR E 4 1 f4) 5 1 f5) 6 1 f6) 7 1 f7) 8 1 f8) B 34 [(2, vi 4), (0, .ref h0), (1, .ref p0)] [.ref (f8 0), vi 4, .ref a1] S5 ((a1, .inr (.inr ("FusionFront$Front", [some (f4 0), some (f5 0), some (f6 0), some (f7 0), none, none]))) :: (h0, .inl (1, [.ref a1, .int 0, .int 0])) :: ws0) 101 2286
  refine n_cast rfl (st' := vr (addR (addR (addR (addR (addR E 4 1 f4) 5 1 f5) 6 1 f6) 7 1 f7) 8 1 f8) 8 0 :: vi 4 :: .ref a1 :: []) rfl rfl ?_
  refine n_aast hC 0 rfl (r := 8) (o := 0) (κ := 1) rfl ly1_0 kclX0 (i := 4) (by decide) (es' := [some (f4 0), some (f5 0), some (f6 0), some (f7 0), some (f8 0), none]) rfl (xdt tt_X1_init 18 rfl) ?_
  refine n_cast rfl rfl (ws' := (a1, .inr (.inr ("FusionFront$Front", [some (f4 0), some (f5 0), some (f6 0), some (f7 0), some (f8 0), none]))) :: (h0, .inl (1, [.ref a1, .int 0, .int 0])) :: ws0) rfl ?_
  refine n_iinc hC 0 rfl (by decide) (w := 5) rfl (lv' := [(2, vi 5), (0, .ref h0), (1, .ref p0)]) rfl (xdt tt_X1_init 19 rfl) ?_
  refine n_goto hC (show ((38 : Nat) : Int) + (-23) = ((15 : Nat) : Int) by decide) (xdt tt_X1_init 20 rfl) ?_
  refine n_iload_n hC rfl 0 rfl (xdt tt_X1_init 8 rfl) ?_
  refine n_bipush hC (by decide) (xdt tt_X1_init 9 rfl) ?_
  refine n_icmp_ge hC (show ((18 : Nat) : Int) + 23 = ((41 : Nat) : Int) by decide) (xdt tt_X1_init 10 rfl) (fun h => absurd h (by decide)) (fun _ => ?_)
  refine n_aload_n hC rfl 1 rfl (xdt tt_X1_init 11 rfl) ?_
  refine n_get hC 1 rfl kclX1 0 (by decide) q190 (v := .ref a1) rfl (xdt tt_X1_init 12 rfl) ?_
  refine n_iload_n hC rfl 0 rfl (xdt tt_X1_init 13 rfl) ?_
  refine n_new hC kclX0 q189 q29 q30 [.null, .null, .null, .null, .null, .null, .null, .null, .null, .int 0, .int 0, .int 0, .int 0, .int 0, .int 0, .int 0, .int 0, .int 0] rfl blkX0 (Nat.le_of_ble_eq_true rfl) (Nat.le_of_ble_eq_true rfl) (xdt tt_X1_init 14 rfl) (fun a7 => ?_)
  refine n_dup hC rfl (xdt tt_X1_init 15 rfl) ?_
  refine n_aload_n hC rfl 2 rfl (xdt tt_X1_init 16 rfl) ?_
  refine n_ctor hC mc_X0_init (host := emp) q191 ⟨(Nat.le_of_ble_eq_true rfl), (Nat.le_of_ble_eq_true rfl)⟩ (Nat.le_of_ble_eq_true rfl) (Nat.le_of_ble_eq_true rfl) [.ref p0] rfl (fun u hu => hb_X0_init hu) (fun l => cN_X0_init l (E := (addR (addR (addR (addR (addR E 4 1 f4) 5 1 f5) 6 1 f6) 7 1 f7) 8 1 f8)) (S := S5) (r := 9) hr9 ha9 (q := 11) (p0 := p0) hq (by decide) hp0 hp9) rfl (Nat.le_of_ble_eq_true rfl) (xdt tt_X1_init 17 rfl) (fun u hu => ?_)
  obtain ⟨f9, rfl, rfl⟩ := hu
  show WN K (addR (addR (addR (addR (addR (addR E 4 1 f4) 5 1 f5) 6 1 f6) 7 1 f7) 8 1 f8) 9 1 f9) B 34 [(2, vi 5), (0, .ref h0), (1, .ref p0)] [.ref (f9 0), vi 5, .ref a1] S6 ((a1, .inr (.inr ("FusionFront$Front", [some (f4 0), some (f5 0), some (f6 0), some (f7 0), some (f8 0), none]))) :: (h0, .inl (1, [.ref a1, .int 0, .int 0])) :: ws0) 121 2742
  refine n_cast rfl (st' := vr (addR (addR (addR (addR (addR (addR E 4 1 f4) 5 1 f5) 6 1 f6) 7 1 f7) 8 1 f8) 9 1 f9) 9 0 :: vi 5 :: .ref a1 :: []) rfl rfl ?_
  refine n_aast hC 0 rfl (r := 9) (o := 0) (κ := 1) rfl ly1_0 kclX0 (i := 5) (by decide) (es' := [some (f4 0), some (f5 0), some (f6 0), some (f7 0), some (f8 0), some (f9 0)]) rfl (xdt tt_X1_init 18 rfl) ?_
  refine n_cast rfl rfl (ws' := (a1, .inr (.inr ("FusionFront$Front", [some (f4 0), some (f5 0), some (f6 0), some (f7 0), some (f8 0), some (f9 0)]))) :: (h0, .inl (1, [.ref a1, .int 0, .int 0])) :: ws0) rfl ?_
  refine n_iinc hC 0 rfl (by decide) (w := 6) rfl (lv' := [(2, vi 6), (0, .ref h0), (1, .ref p0)]) rfl (xdt tt_X1_init 19 rfl) ?_
  refine n_goto hC (show ((38 : Nat) : Int) + (-23) = ((15 : Nat) : Int) by decide) (xdt tt_X1_init 20 rfl) ?_
  refine n_iload_n hC rfl 0 rfl (xdt tt_X1_init 8 rfl) ?_
  refine n_bipush hC (by decide) (xdt tt_X1_init 9 rfl) ?_
  refine n_icmp_ge hC (show ((18 : Nat) : Int) + 23 = ((41 : Nat) : Int) by decide) (xdt tt_X1_init 10 rfl) (fun _ => ?_) (fun h => absurd (by decide) h)
  exact n_vret hC hE ⟨f4, f5, f6, f7, f8, f9, a1, rfl⟩ (xdt tt_X1_init 21 rfl)
theorem hb_X11_init {E : xE} {S12 : xSt}  {h0 : Nat} {ws0 : pW} {u : xE × xSt × pW} (hu : (fun u => ∃ f10 : Nat → Nat, ∃ f11 : Nat → Nat, ∃ f12 : Nat → Nat, ∃ f1 : Nat → Nat, ∃ f2 : Nat → Nat, ∃ f3 : Nat → Nat, ∃ f4 : Nat → Nat, ∃ f5 : Nat → Nat, ∃ f6 : Nat → Nat, ∃ f7 : Nat → Nat, ∃ f8 : Nat → Nat, ∃ f9 : Nat → Nat, ∃ f : Nat → Nat, f 0 = h0 ∧ u = (addR (addR (addR (addR (addR (addR (addR (addR (addR (addR (addR (addR (addR E 10 2 f10) 11 2 f11) 12 2 f12) 1 1 f1) 2 1 f2) 3 1 f3) 4 1 f4) 5 1 f5) 6 1 f6) 7 1 f7) 8 1 f8) 9 1 f9) 0 3 f, newS S12 0 3 (fun o j => if o = 2 ∧ j = 12 then -1 else 0) (fun o j => if o = 0 then (if j = 4 then (11, 0) else if j = 5 then (12, 0) else nul) else if o = 2 then (if j = 0 then (0, 13) else if j = 2 then (10, 0) else nul) else nul), ws0)) u) : xBase E u.1 := by
  obtain ⟨f10, f11, f12, f1, f2, f3, f4, f5, f6, f7, f8, f9, f, -, rfl⟩ := hu
  exact ⟨rfl, rfl⟩
set_option maxRecDepth 100000 in
set_option maxHeartbeats 16000000 in
theorem cN_X11_init (l : Launch) {E : xE} {B : Nat} {S S1 S2 S3 S4 S5 S6 S7 S8 S9 S10 S11 S12 : xSt} {h0 : Nat} {ws0 : pW}  (hr10 : xkd E 10 = 0) (hr11 : xkd E 11 = 0) (hr12 : xkd E 12 = 0) (hr1 : xkd E 1 = 0) (hr2 : xkd E 2 = 0) (hr3 : xkd E 3 = 0) (hr4 : xkd E 4 = 0) (hr5 : xkd E 5 = 0) (hr6 : xkd E 6 = 0) (hr7 : xkd E 7 = 0) (hr8 : xkd E 8 = 0) (hr9 : xkd E 9 = 0) (hr0 : xkd E 0 = 0) (ha10 : xApart E S 10) (hp10 : f_X5_clear_p2_0 (newS S 10 2 (fun _ _ => 0) (fun _ _ => nul)) 10 = some S1) (ha11 : xApart (addR E 10 2 (fun _ => 0)) S1 11) (hp11 : f_X5_clear_p2_0 (newS S1 11 2 (fun _ _ => 0) (fun _ _ => nul)) 11 = some S2) (ha12 : xApart (addR (addR E 10 2 (fun _ => 0)) 11 2 (fun _ => 0)) S2 12) (hp12 : f_X5_clear_p2_0 (newS S2 12 2 (fun _ _ => 0) (fun _ _ => nul)) 12 = some S3) (ha1 : xApart (addR (addR (addR E 10 2 (fun _ => 0)) 11 2 (fun _ => 0)) 12 2 (fun _ => 0)) S3 1) (hp1 : f_X0_begin_p1_0_2_0 (newS S3 1 1 (fun _ _ => 0) (fun _ _ => nul)) 1 11 = some S4) (ha2 : xApart (addR (addR (addR (addR E 10 2 (fun _ => 0)) 11 2 (fun _ => 0)) 12 2 (fun _ => 0)) 1 1 (fun _ => 0)) S4 2) (hp2 : f_X0_begin_p1_0_2_0 (newS S4 2 1 (fun _ _ => 0) (fun _ _ => nul)) 2 11 = some S5) (ha3 : xApart (addR (addR (addR (addR (addR E 10 2 (fun _ => 0)) 11 2 (fun _ => 0)) 12 2 (fun _ => 0)) 1 1 (fun _ => 0)) 2 1 (fun _ => 0)) S5 3) (hp3 : f_X0_begin_p1_0_2_0 (newS S5 3 1 (fun _ _ => 0) (fun _ _ => nul)) 3 11 = some S6) (ha4 : xApart (addR (addR (addR (addR (addR (addR E 10 2 (fun _ => 0)) 11 2 (fun _ => 0)) 12 2 (fun _ => 0)) 1 1 (fun _ => 0)) 2 1 (fun _ => 0)) 3 1 (fun _ => 0)) S6 4) (hp4 : f_X0_begin_p1_0_2_0 (newS S6 4 1 (fun _ _ => 0) (fun _ _ => nul)) 4 11 = some S7) (ha5 : xApart (addR (addR (addR (addR (addR (addR (addR E 10 2 (fun _ => 0)) 11 2 (fun _ => 0)) 12 2 (fun _ => 0)) 1 1 (fun _ => 0)) 2 1 (fun _ => 0)) 3 1 (fun _ => 0)) 4 1 (fun _ => 0)) S7 5) (hp5 : f_X0_begin_p1_0_2_0 (newS S7 5 1 (fun _ _ => 0) (fun _ _ => nul)) 5 11 = some S8) (ha6 : xApart (addR (addR (addR (addR (addR (addR (addR (addR E 10 2 (fun _ => 0)) 11 2 (fun _ => 0)) 12 2 (fun _ => 0)) 1 1 (fun _ => 0)) 2 1 (fun _ => 0)) 3 1 (fun _ => 0)) 4 1 (fun _ => 0)) 5 1 (fun _ => 0)) S8 6) (hp6 : f_X0_begin_p1_0_2_0 (newS S8 6 1 (fun _ _ => 0) (fun _ _ => nul)) 6 11 = some S9) (ha7 : xApart (addR (addR (addR (addR (addR (addR (addR (addR (addR E 10 2 (fun _ => 0)) 11 2 (fun _ => 0)) 12 2 (fun _ => 0)) 1 1 (fun _ => 0)) 2 1 (fun _ => 0)) 3 1 (fun _ => 0)) 4 1 (fun _ => 0)) 5 1 (fun _ => 0)) 6 1 (fun _ => 0)) S9 7) (hp7 : f_X0_begin_p1_0_2_0 (newS S9 7 1 (fun _ _ => 0) (fun _ _ => nul)) 7 11 = some S10) (ha8 : xApart (addR (addR (addR (addR (addR (addR (addR (addR (addR (addR E 10 2 (fun _ => 0)) 11 2 (fun _ => 0)) 12 2 (fun _ => 0)) 1 1 (fun _ => 0)) 2 1 (fun _ => 0)) 3 1 (fun _ => 0)) 4 1 (fun _ => 0)) 5 1 (fun _ => 0)) 6 1 (fun _ => 0)) 7 1 (fun _ => 0)) S10 8) (hp8 : f_X0_begin_p1_0_2_0 (newS S10 8 1 (fun _ _ => 0) (fun _ _ => nul)) 8 11 = some S11) (ha9 : xApart (addR (addR (addR (addR (addR (addR (addR (addR (addR (addR (addR E 10 2 (fun _ => 0)) 11 2 (fun _ => 0)) 12 2 (fun _ => 0)) 1 1 (fun _ => 0)) 2 1 (fun _ => 0)) 3 1 (fun _ => 0)) 4 1 (fun _ => 0)) 5 1 (fun _ => 0)) 6 1 (fun _ => 0)) 7 1 (fun _ => 0)) 8 1 (fun _ => 0)) S11 9) (hp9 : f_X0_begin_p1_0_2_0 (newS S11 9 1 (fun _ _ => 0) (fun _ _ => nul)) 9 11 = some S12) (ha0 : xApart (addR (addR (addR (addR (addR (addR (addR (addR (addR (addR (addR (addR E 10 2 (fun _ => 0)) 11 2 (fun _ => 0)) 12 2 (fun _ => 0)) 1 1 (fun _ => 0)) 2 1 (fun _ => 0)) 3 1 (fun _ => 0)) 4 1 (fun _ => 0)) 5 1 (fun _ => 0)) 6 1 (fun _ => 0)) 7 1 (fun _ => 0)) 8 1 (fun _ => 0)) 9 1 (fun _ => 0)) S12 0) : Met l yX11_init (xws yX11_init cX11_init 1 none) (rmN 6 232 6378) (NPc E B [.ref h0] S ((h0, .inl (11, [.null, .int 0, .null, .null, .null, .null, .null, .null, .null, .int 0, .null, .null])) :: ws0)) (NQ B (fun u => ∃ f10 : Nat → Nat, ∃ f11 : Nat → Nat, ∃ f12 : Nat → Nat, ∃ f1 : Nat → Nat, ∃ f2 : Nat → Nat, ∃ f3 : Nat → Nat, ∃ f4 : Nat → Nat, ∃ f5 : Nat → Nat, ∃ f6 : Nat → Nat, ∃ f7 : Nat → Nat, ∃ f8 : Nat → Nat, ∃ f9 : Nat → Nat, ∃ f : Nat → Nat, f 0 = h0 ∧ u = (addR (addR (addR (addR (addR (addR (addR (addR (addR (addR (addR (addR (addR E 10 2 f10) 11 2 f11) 12 2 f12) 1 1 f1) 2 1 f2) 3 1 f3) 4 1 f4) 5 1 f5) 6 1 f6) 7 1 f7) 8 1 f8) 9 1 f9) 0 3 f, newS S12 0 3 (fun o j => if o = 2 ∧ j = 12 then -1 else 0) (fun o j => if o = 0 then (if j = 4 then (11, 0) else if j = 5 then (12, 0) else nul) else if o = 2 then (if j = 0 then (0, 13) else if j = 2 then (10, 0) else nul) else nul), ws0))) 232 6378 (fun a => B ≤ a) := by
  refine metN (by decide +kernel) rfl (Nat.le_of_ble_eq_true rfl) (fun K hC hE => ?_)
  have hC : xOKN K cX11_init RX11 1 (rmN 6 232 6378) := hC
  show WN K E B 0 [(0, .ref h0)] [] S ((h0, .inl (11, [.null, .int 0, .null, .null, .null, .null, .null, .null, .null, .int 0, .null, .null])) :: ws0) 0 0
  refine n_aload_n hC rfl 0 rfl (xdt tt_X11_init 0 rfl) ?_
  refine n_objInit hC q10 q11 q12 (Nat.le_of_ble_eq_true rfl) (Nat.le_of_ble_eq_true rfl) (xdt tt_X11_init 1 rfl) ?_
  refine n_aload_n hC rfl 0 rfl (xdt tt_X11_init 2 rfl) ?_
  refine n_sipush hC (by decide) (xdt tt_X11_init 3 rfl) ?_
  refine n_newa hC (et := .byte) rfl q13 (by decide) (N := 600) (by decide) (Nat.le_of_ble_eq_true rfl) (Nat.le_of_ble_eq_true rfl) (Nat.le_of_ble_eq_true rfl) (xdt tt_X11_init 4 rfl) (fun a1 => ?_)
  refine n_putF hC 1 rfl kclX11 0 (by decide) rfl rfl q14 rfl rfl (xdt tt_X11_init 5 rfl) ?_
  refine n_cast rfl rfl (ws' := (a1, .inr (.inl (.byte, 600))) :: (h0, .inl (11, [.ref a1, .int 0, .null, .null, .null, .null, .null, .null, .null, .int 0, .null, .null])) :: ws0) rfl ?_
  refine n_aload_n hC rfl 0 rfl (xdt tt_X11_init 6 rfl) ?_
  refine n_new hC kclX3 q15 q16 q17 [.null, .int 0, .null, .int 0, .int 0, .int 0, .int 0, .null, .null, .null, .int 0, .int 0, .int 0] rfl blkX3 (Nat.le_of_ble_eq_true rfl) (Nat.le_of_ble_eq_true rfl) (xdt tt_X11_init 7 rfl) (fun a2 => ?_)
  refine n_dup hC rfl (xdt tt_X11_init 8 rfl) ?_
  refine n_ctor hC mc_X3_init (host := emp) q42 ⟨(Nat.le_of_ble_eq_true rfl), (Nat.le_of_ble_eq_true rfl)⟩ (Nat.le_of_ble_eq_true rfl) (Nat.le_of_ble_eq_true rfl) [] rfl (fun u hu => hb_X3_init hu) (fun l => cN_X3_init l (E := E) (S := S) hr10 ha10 hp10) rfl (Nat.le_of_ble_eq_true rfl) (xdt tt_X11_init 9 rfl) (fun u hu => ?_)
  obtain ⟨f10, a3, a4, a5, a6, rfl⟩ := hu
  show WN K (addR E 10 2 f10) B 21 [(0, .ref h0)] [.ref a2, .ref h0] S1 ((a6, .inr (.inl (.byte, 0))) :: (a5, .inr (.inl (.int, 2))) :: (a4, .inr (.inl (.int, 2))) :: (a3, .inr (.inl (.boolean, 6))) :: (a2, .inl (3, [.ref a6, .int 0, .ref (f10 0), .int 0, .int 0, .int 0, .int 0, .ref a3, .ref a4, .ref a5, .int 0, .int 0, .int (Int32.ofInt (-1))])) :: (a1, .inr (.inl (.byte, 600))) :: (h0, .inl (11, [.ref a1, .int 0, .null, .null, .null, .null, .null, .null, .null, .int 0, .null, .null])) :: ws0) 19 1138
  refine n_putF hC 6 rfl kclX11 2 (by decide) rfl rfl q18 rfl rfl (xdt tt_X11_init 10 rfl) ?_
  refine n_cast rfl rfl (ws' := (a6, .inr (.inl (.byte, 0))) :: (a5, .inr (.inl (.int, 2))) :: (a4, .inr (.inl (.int, 2))) :: (a3, .inr (.inl (.boolean, 6))) :: (a2, .inl (3, [.ref a6, .int 0, .ref (f10 0), .int 0, .int 0, .int 0, .int 0, .ref a3, .ref a4, .ref a5, .int 0, .int 0, .int (Int32.ofInt (-1))])) :: (a1, .inr (.inl (.byte, 600))) :: (h0, .inl (11, [.ref a1, .int 0, .ref a2, .null, .null, .null, .null, .null, .null, .int 0, .null, .null])) :: ws0) rfl ?_
  refine n_aload_n hC rfl 0 rfl (xdt tt_X11_init 11 rfl) ?_
  refine n_new hC kclX2 q19 q20 q21 [.null, .int 0] rfl blkX2 (Nat.le_of_ble_eq_true rfl) (Nat.le_of_ble_eq_true rfl) (xdt tt_X11_init 12 rfl) (fun a7 => ?_)
  refine n_dup hC rfl (xdt tt_X11_init 13 rfl) ?_
  refine n_ctorN hC mc_X2_init (List.mem_of_getElem? (i := 1) rfl) ⟨(Nat.le_of_ble_eq_true rfl), (Nat.le_of_ble_eq_true rfl)⟩ (Nat.le_of_ble_eq_true rfl) (Nat.le_of_ble_eq_true rfl) [] rfl (fun u hu => hb_X2_init hu) (fun l => cN_X2_init l) rfl (Nat.le_of_ble_eq_true rfl) (xdt tt_X11_init 14 rfl) (fun u hu => ?_)
  obtain ⟨a8, rfl⟩ := hu
  show WN K (addR E 10 2 f10) B 32 [(0, .ref h0)] [.ref a7, .ref h0] S1 ((a8, .inr (.inl (.byte, 32))) :: (a7, .inl (2, [.ref a8, .int 0])) :: (a6, .inr (.inl (.byte, 0))) :: (a5, .inr (.inl (.int, 2))) :: (a4, .inr (.inl (.int, 2))) :: (a3, .inr (.inl (.boolean, 6))) :: (a2, .inl (3, [.ref a6, .int 0, .ref (f10 0), .int 0, .int 0, .int 0, .int 0, .ref a3, .ref a4, .ref a5, .int 0, .int 0, .int (Int32.ofInt (-1))])) :: (a1, .inr (.inl (.byte, 600))) :: (h0, .inl (11, [.ref a1, .int 0, .ref a2, .null, .null, .null, .null, .null, .null, .int 0, .null, .null])) :: ws0) 21 1172
  refine n_putF hC 8 rfl kclX11 3 (by decide) rfl rfl q22 rfl rfl (xdt tt_X11_init 15 rfl) ?_
  refine n_cast rfl rfl (ws' := (a8, .inr (.inl (.byte, 32))) :: (a7, .inl (2, [.ref a8, .int 0])) :: (a6, .inr (.inl (.byte, 0))) :: (a5, .inr (.inl (.int, 2))) :: (a4, .inr (.inl (.int, 2))) :: (a3, .inr (.inl (.boolean, 6))) :: (a2, .inl (3, [.ref a6, .int 0, .ref (f10 0), .int 0, .int 0, .int 0, .int 0, .ref a3, .ref a4, .ref a5, .int 0, .int 0, .int (Int32.ofInt (-1))])) :: (a1, .inr (.inl (.byte, 600))) :: (h0, .inl (11, [.ref a1, .int 0, .ref a2, .ref a7, .null, .null, .null, .null, .null, .int 0, .null, .null])) :: ws0) rfl ?_
  refine n_aload_n hC rfl 0 rfl (xdt tt_X11_init 16 rfl) ?_
  refine n_new hC kclX5 q23 q24 q25 [.null, .null, .null, .null, .null, .null, .null, .null, .null, .null, .int 0] rfl blkX5 (Nat.le_of_ble_eq_true rfl) (Nat.le_of_ble_eq_true rfl) (xdt tt_X11_init 17 rfl) (fun a9 => ?_)
  refine n_dup hC rfl (xdt tt_X11_init 18 rfl) ?_
  refine n_ctor hC mc_X5_init (host := emp) q91 ⟨(Nat.le_of_ble_eq_true rfl), (Nat.le_of_ble_eq_true rfl)⟩ (Nat.le_of_ble_eq_true rfl) (Nat.le_of_ble_eq_true rfl) [] rfl (fun u hu => hb_X5_init hu) (fun l => cN_X5_init l (E := (addR E 10 2 f10)) (S := S1) (r := 11) hr11 ha11 hp11) rfl (Nat.le_of_ble_eq_true rfl) (xdt tt_X11_init 19 rfl) (fun u hu => ?_)
  obtain ⟨f11, rfl, rfl⟩ := hu
  show WN K (addR (addR E 10 2 f10) 11 2 f11) B 43 [(0, .ref h0)] [.ref (f11 0), .ref h0] S2 ((a8, .inr (.inl (.byte, 32))) :: (a7, .inl (2, [.ref a8, .int 0])) :: (a6, .inr (.inl (.byte, 0))) :: (a5, .inr (.inl (.int, 2))) :: (a4, .inr (.inl (.int, 2))) :: (a3, .inr (.inl (.boolean, 6))) :: (a2, .inl (3, [.ref a6, .int 0, .ref (f10 0), .int 0, .int 0, .int 0, .int 0, .ref a3, .ref a4, .ref a5, .int 0, .int 0, .int (Int32.ofInt (-1))])) :: (a1, .inr (.inl (.byte, 600))) :: (h0, .inl (11, [.ref a1, .int 0, .ref a2, .ref a7, .null, .null, .null, .null, .null, .int 0, .null, .null])) :: ws0) 34 1687
  refine n_put hC 8 rfl kclX11 4 (by decide) rfl q26 rfl rfl (xdt tt_X11_init 20 rfl) ?_
  refine n_cast rfl rfl (ws' := (a8, .inr (.inl (.byte, 32))) :: (a7, .inl (2, [.ref a8, .int 0])) :: (a6, .inr (.inl (.byte, 0))) :: (a5, .inr (.inl (.int, 2))) :: (a4, .inr (.inl (.int, 2))) :: (a3, .inr (.inl (.boolean, 6))) :: (a2, .inl (3, [.ref a6, .int 0, .ref (f10 0), .int 0, .int 0, .int 0, .int 0, .ref a3, .ref a4, .ref a5, .int 0, .int 0, .int (Int32.ofInt (-1))])) :: (a1, .inr (.inl (.byte, 600))) :: (h0, .inl (11, [.ref a1, .int 0, .ref a2, .ref a7, .ref (f11 0), .null, .null, .null, .null, .int 0, .null, .null])) :: ws0) rfl ?_
  refine n_aload_n hC rfl 0 rfl (xdt tt_X11_init 21 rfl) ?_
  refine n_new hC kclX5 q23 q24 q25 [.null, .null, .null, .null, .null, .null, .null, .null, .null, .null, .int 0] rfl blkX5 (Nat.le_of_ble_eq_true rfl) (Nat.le_of_ble_eq_true rfl) (xdt tt_X11_init 22 rfl) (fun a10 => ?_)
  refine n_dup hC rfl (xdt tt_X11_init 23 rfl) ?_
  refine n_ctor hC mc_X5_init (host := emp) q91 ⟨(Nat.le_of_ble_eq_true rfl), (Nat.le_of_ble_eq_true rfl)⟩ (Nat.le_of_ble_eq_true rfl) (Nat.le_of_ble_eq_true rfl) [] rfl (fun u hu => hb_X5_init hu) (fun l => cN_X5_init l (E := (addR (addR E 10 2 f10) 11 2 f11)) (S := S2) (r := 12) hr12 ha12 hp12) rfl (Nat.le_of_ble_eq_true rfl) (xdt tt_X11_init 24 rfl) (fun u hu => ?_)
  obtain ⟨f12, rfl, rfl⟩ := hu
  show WN K (addR (addR (addR E 10 2 f10) 11 2 f11) 12 2 f12) B 54 [(0, .ref h0)] [.ref (f12 0), .ref h0] S3 ((a8, .inr (.inl (.byte, 32))) :: (a7, .inl (2, [.ref a8, .int 0])) :: (a6, .inr (.inl (.byte, 0))) :: (a5, .inr (.inl (.int, 2))) :: (a4, .inr (.inl (.int, 2))) :: (a3, .inr (.inl (.boolean, 6))) :: (a2, .inl (3, [.ref a6, .int 0, .ref (f10 0), .int 0, .int 0, .int 0, .int 0, .ref a3, .ref a4, .ref a5, .int 0, .int 0, .int (Int32.ofInt (-1))])) :: (a1, .inr (.inl (.byte, 600))) :: (h0, .inl (11, [.ref a1, .int 0, .ref a2, .ref a7, .ref (f11 0), .null, .null, .null, .null, .int 0, .null, .null])) :: ws0) 47 2202
  refine n_put hC 8 rfl kclX11 5 (by decide) rfl q27 rfl rfl (xdt tt_X11_init 25 rfl) ?_
  refine n_cast rfl rfl (ws' := (a8, .inr (.inl (.byte, 32))) :: (a7, .inl (2, [.ref a8, .int 0])) :: (a6, .inr (.inl (.byte, 0))) :: (a5, .inr (.inl (.int, 2))) :: (a4, .inr (.inl (.int, 2))) :: (a3, .inr (.inl (.boolean, 6))) :: (a2, .inl (3, [.ref a6, .int 0, .ref (f10 0), .int 0, .int 0, .int 0, .int 0, .ref a3, .ref a4, .ref a5, .int 0, .int 0, .int (Int32.ofInt (-1))])) :: (a1, .inr (.inl (.byte, 600))) :: (h0, .inl (11, [.ref a1, .int 0, .ref a2, .ref a7, .ref (f11 0), .ref (f12 0), .null, .null, .null, .int 0, .null, .null])) :: ws0) rfl ?_
  refine n_aload_n hC rfl 0 rfl (xdt tt_X11_init 26 rfl) ?_
  refine n_new hC kclX0 q28 q29 q30 [.null, .null, .null, .null, .null, .null, .null, .null, .null, .int 0, .int 0, .int 0, .int 0, .int 0, .int 0, .int 0, .int 0, .int 0] rfl blkX0 (Nat.le_of_ble_eq_true rfl) (Nat.le_of_ble_eq_true rfl) (xdt tt_X11_init 27 rfl) (fun a11 => ?_)
  refine n_dup hC rfl (xdt tt_X11_init 28 rfl) ?_
  refine n_aload_n hC rfl 0 rfl (xdt tt_X11_init 29 rfl) ?_
  refine n_get hC 9 rfl kclX11 4 (by decide) q26 (v := .ref (f11 0)) rfl (xdt tt_X11_init 30 rfl) ?_
  refine n_ctor hC mc_X0_init (host := emp) q92 ⟨(Nat.le_of_ble_eq_true rfl), (Nat.le_of_ble_eq_true rfl)⟩ (Nat.le_of_ble_eq_true rfl) (Nat.le_of_ble_eq_true rfl) [.ref (f11 0)] rfl (fun u hu => hb_X0_init hu) (fun l => cN_X0_init l (E := (addR (addR (addR E 10 2 f10) 11 2 f11) 12 2 f12)) (S := S3) (r := 1) hr1 ha1 (q := 11) (p0 := (f11 0)) rfl (by decide) rfl hp1) rfl (Nat.le_of_ble_eq_true rfl) (xdt tt_X11_init 31 rfl) (fun u hu => ?_)
  obtain ⟨f1, rfl, rfl⟩ := hu
  show WN K (addR (addR (addR (addR E 10 2 f10) 11 2 f11) 12 2 f12) 1 1 f1) B 69 [(0, .ref h0)] [.ref (f1 0), .ref h0] S4 ((a8, .inr (.inl (.byte, 32))) :: (a7, .inl (2, [.ref a8, .int 0])) :: (a6, .inr (.inl (.byte, 0))) :: (a5, .inr (.inl (.int, 2))) :: (a4, .inr (.inl (.int, 2))) :: (a3, .inr (.inl (.boolean, 6))) :: (a2, .inl (3, [.ref a6, .int 0, .ref (f10 0), .int 0, .int 0, .int 0, .int 0, .ref a3, .ref a4, .ref a5, .int 0, .int 0, .int (Int32.ofInt (-1))])) :: (a1, .inr (.inl (.byte, 600))) :: (h0, .inl (11, [.ref a1, .int 0, .ref a2, .ref a7, .ref (f11 0), .ref (f12 0), .null, .null, .null, .int 0, .null, .null])) :: ws0) 67 2658
  refine n_putF hC 8 rfl kclX11 6 (by decide) rfl rfl q31 rfl rfl (xdt tt_X11_init 32 rfl) ?_
  refine n_cast rfl rfl (ws' := (a8, .inr (.inl (.byte, 32))) :: (a7, .inl (2, [.ref a8, .int 0])) :: (a6, .inr (.inl (.byte, 0))) :: (a5, .inr (.inl (.int, 2))) :: (a4, .inr (.inl (.int, 2))) :: (a3, .inr (.inl (.boolean, 6))) :: (a2, .inl (3, [.ref a6, .int 0, .ref (f10 0), .int 0, .int 0, .int 0, .int 0, .ref a3, .ref a4, .ref a5, .int 0, .int 0, .int (Int32.ofInt (-1))])) :: (a1, .inr (.inl (.byte, 600))) :: (h0, .inl (11, [.ref a1, .int 0, .ref a2, .ref a7, .ref (f11 0), .ref (f12 0), .ref (f1 0), .null, .null, .int 0, .null, .null])) :: ws0) rfl ?_
  refine n_aload_n hC rfl 0 rfl (xdt tt_X11_init 33 rfl) ?_
  refine n_new hC kclX0 q28 q29 q30 [.null, .null, .null, .null, .null, .null, .null, .null, .null, .int 0, .int 0, .int 0, .int 0, .int 0, .int 0, .int 0, .int 0, .int 0] rfl blkX0 (Nat.le_of_ble_eq_true rfl) (Nat.le_of_ble_eq_true rfl) (xdt tt_X11_init 34 rfl) (fun a12 => ?_)
  refine n_dup hC rfl (xdt tt_X11_init 35 rfl) ?_
  refine n_aload_n hC rfl 0 rfl (xdt tt_X11_init 36 rfl) ?_
  refine n_get hC 9 rfl kclX11 4 (by decide) q26 (v := .ref (f11 0)) rfl (xdt tt_X11_init 37 rfl) ?_
  refine n_ctor hC mc_X0_init (host := emp) q92 ⟨(Nat.le_of_ble_eq_true rfl), (Nat.le_of_ble_eq_true rfl)⟩ (Nat.le_of_ble_eq_true rfl) (Nat.le_of_ble_eq_true rfl) [.ref (f11 0)] rfl (fun u hu => hb_X0_init hu) (fun l => cN_X0_init l (E := (addR (addR (addR (addR E 10 2 f10) 11 2 f11) 12 2 f12) 1 1 f1)) (S := S4) (r := 2) hr2 ha2 (q := 11) (p0 := (f11 0)) rfl (by decide) rfl hp2) rfl (Nat.le_of_ble_eq_true rfl) (xdt tt_X11_init 38 rfl) (fun u hu => ?_)
  obtain ⟨f2, rfl, rfl⟩ := hu
  show WN K (addR (addR (addR (addR (addR E 10 2 f10) 11 2 f11) 12 2 f12) 1 1 f1) 2 1 f2) B 84 [(0, .ref h0)] [.ref (f2 0), .ref h0] S5 ((a8, .inr (.inl (.byte, 32))) :: (a7, .inl (2, [.ref a8, .int 0])) :: (a6, .inr (.inl (.byte, 0))) :: (a5, .inr (.inl (.int, 2))) :: (a4, .inr (.inl (.int, 2))) :: (a3, .inr (.inl (.boolean, 6))) :: (a2, .inl (3, [.ref a6, .int 0, .ref (f10 0), .int 0, .int 0, .int 0, .int 0, .ref a3, .ref a4, .ref a5, .int 0, .int 0, .int (Int32.ofInt (-1))])) :: (a1, .inr (.inl (.byte, 600))) :: (h0, .inl (11, [.ref a1, .int 0, .ref a2, .ref a7, .ref (f11 0), .ref (f12 0), .ref (f1 0), .null, .null, .int 0, .null, .null])) :: ws0) 87 3114
  refine n_putF hC 8 rfl kclX11 7 (by decide) rfl rfl q32 rfl rfl (xdt tt_X11_init 39 rfl) ?_
  refine n_cast rfl rfl (ws' := (a8, .inr (.inl (.byte, 32))) :: (a7, .inl (2, [.ref a8, .int 0])) :: (a6, .inr (.inl (.byte, 0))) :: (a5, .inr (.inl (.int, 2))) :: (a4, .inr (.inl (.int, 2))) :: (a3, .inr (.inl (.boolean, 6))) :: (a2, .inl (3, [.ref a6, .int 0, .ref (f10 0), .int 0, .int 0, .int 0, .int 0, .ref a3, .ref a4, .ref a5, .int 0, .int 0, .int (Int32.ofInt (-1))])) :: (a1, .inr (.inl (.byte, 600))) :: (h0, .inl (11, [.ref a1, .int 0, .ref a2, .ref a7, .ref (f11 0), .ref (f12 0), .ref (f1 0), .ref (f2 0), .null, .int 0, .null, .null])) :: ws0) rfl ?_
  refine n_aload_n hC rfl 0 rfl (xdt tt_X11_init 40 rfl) ?_
  refine n_new hC kclX0 q28 q29 q30 [.null, .null, .null, .null, .null, .null, .null, .null, .null, .int 0, .int 0, .int 0, .int 0, .int 0, .int 0, .int 0, .int 0, .int 0] rfl blkX0 (Nat.le_of_ble_eq_true rfl) (Nat.le_of_ble_eq_true rfl) (xdt tt_X11_init 41 rfl) (fun a13 => ?_)
  refine n_dup hC rfl (xdt tt_X11_init 42 rfl) ?_
  refine n_aload_n hC rfl 0 rfl (xdt tt_X11_init 43 rfl) ?_
  refine n_get hC 9 rfl kclX11 4 (by decide) q26 (v := .ref (f11 0)) rfl (xdt tt_X11_init 44 rfl) ?_
  refine n_ctor hC mc_X0_init (host := emp) q92 ⟨(Nat.le_of_ble_eq_true rfl), (Nat.le_of_ble_eq_true rfl)⟩ (Nat.le_of_ble_eq_true rfl) (Nat.le_of_ble_eq_true rfl) [.ref (f11 0)] rfl (fun u hu => hb_X0_init hu) (fun l => cN_X0_init l (E := (addR (addR (addR (addR (addR E 10 2 f10) 11 2 f11) 12 2 f12) 1 1 f1) 2 1 f2)) (S := S5) (r := 3) hr3 ha3 (q := 11) (p0 := (f11 0)) rfl (by decide) rfl hp3) rfl (Nat.le_of_ble_eq_true rfl) (xdt tt_X11_init 45 rfl) (fun u hu => ?_)
  obtain ⟨f3, rfl, rfl⟩ := hu
  show WN K (addR (addR (addR (addR (addR (addR E 10 2 f10) 11 2 f11) 12 2 f12) 1 1 f1) 2 1 f2) 3 1 f3) B 99 [(0, .ref h0)] [.ref (f3 0), .ref h0] S6 ((a8, .inr (.inl (.byte, 32))) :: (a7, .inl (2, [.ref a8, .int 0])) :: (a6, .inr (.inl (.byte, 0))) :: (a5, .inr (.inl (.int, 2))) :: (a4, .inr (.inl (.int, 2))) :: (a3, .inr (.inl (.boolean, 6))) :: (a2, .inl (3, [.ref a6, .int 0, .ref (f10 0), .int 0, .int 0, .int 0, .int 0, .ref a3, .ref a4, .ref a5, .int 0, .int 0, .int (Int32.ofInt (-1))])) :: (a1, .inr (.inl (.byte, 600))) :: (h0, .inl (11, [.ref a1, .int 0, .ref a2, .ref a7, .ref (f11 0), .ref (f12 0), .ref (f1 0), .ref (f2 0), .null, .int 0, .null, .null])) :: ws0) 107 3570
  refine n_putF hC 8 rfl kclX11 8 (by decide) rfl rfl q33 rfl rfl (xdt tt_X11_init 46 rfl) ?_
  refine n_cast rfl rfl (ws' := (a8, .inr (.inl (.byte, 32))) :: (a7, .inl (2, [.ref a8, .int 0])) :: (a6, .inr (.inl (.byte, 0))) :: (a5, .inr (.inl (.int, 2))) :: (a4, .inr (.inl (.int, 2))) :: (a3, .inr (.inl (.boolean, 6))) :: (a2, .inl (3, [.ref a6, .int 0, .ref (f10 0), .int 0, .int 0, .int 0, .int 0, .ref a3, .ref a4, .ref a5, .int 0, .int 0, .int (Int32.ofInt (-1))])) :: (a1, .inr (.inl (.byte, 600))) :: (h0, .inl (11, [.ref a1, .int 0, .ref a2, .ref a7, .ref (f11 0), .ref (f12 0), .ref (f1 0), .ref (f2 0), .ref (f3 0), .int 0, .null, .null])) :: ws0) rfl ?_
  refine n_aload_n hC rfl 0 rfl (xdt tt_X11_init 47 rfl) ?_
  refine n_new hC kclX1 q34 q35 q36 [.null, .int 0, .int 0] rfl blkX1 (Nat.le_of_ble_eq_true rfl) (Nat.le_of_ble_eq_true rfl) (xdt tt_X11_init 48 rfl) (fun a14 => ?_)
  refine n_dup hC rfl (xdt tt_X11_init 49 rfl) ?_
  refine n_aload_n hC rfl 0 rfl (xdt tt_X11_init 50 rfl) ?_
  refine n_get hC 9 rfl kclX11 4 (by decide) q26 (v := .ref (f11 0)) rfl (xdt tt_X11_init 51 rfl) ?_
  refine n_ctor hC mc_X1_init (host := emp) q185 ⟨(Nat.le_of_ble_eq_true rfl), (Nat.le_of_ble_eq_true rfl)⟩ (Nat.le_of_ble_eq_true rfl) (Nat.le_of_ble_eq_true rfl) [.ref (f11 0)] rfl (fun u hu => hb_X1_init hu) (fun l => cN_X1_init l (E := (addR (addR (addR (addR (addR (addR E 10 2 f10) 11 2 f11) 12 2 f12) 1 1 f1) 2 1 f2) 3 1 f3)) (S := S6) (p0 := (f11 0)) rfl rfl hr4 hr5 hr6 hr7 hr8 hr9 ha4 hp4 ha5 hp5 ha6 hp6 ha7 hp7 ha8 hp8 ha9 hp9) rfl (Nat.le_of_ble_eq_true rfl) (xdt tt_X11_init 52 rfl) (fun u hu => ?_)
  obtain ⟨f4, f5, f6, f7, f8, f9, a15, rfl⟩ := hu
  show WN K (addR (addR (addR (addR (addR (addR (addR (addR (addR (addR (addR (addR E 10 2 f10) 11 2 f11) 12 2 f12) 1 1 f1) 2 1 f2) 3 1 f3) 4 1 f4) 5 1 f5) 6 1 f6) 7 1 f7) 8 1 f8) 9 1 f9) B 114 [(0, .ref h0)] [.ref a14, .ref h0] S12 ((a15, .inr (.inr ("FusionFront$Front", [some (f4 0), some (f5 0), some (f6 0), some (f7 0), some (f8 0), some (f9 0)]))) :: (a14, .inl (1, [.ref a15, .int 0, .int 0])) :: (a8, .inr (.inl (.byte, 32))) :: (a7, .inl (2, [.ref a8, .int 0])) :: (a6, .inr (.inl (.byte, 0))) :: (a5, .inr (.inl (.int, 2))) :: (a4, .inr (.inl (.int, 2))) :: (a3, .inr (.inl (.boolean, 6))) :: (a2, .inl (3, [.ref a6, .int 0, .ref (f10 0), .int 0, .int 0, .int 0, .int 0, .ref a3, .ref a4, .ref a5, .int 0, .int 0, .int (Int32.ofInt (-1))])) :: (a1, .inr (.inl (.byte, 600))) :: (h0, .inl (11, [.ref a1, .int 0, .ref a2, .ref a7, .ref (f11 0), .ref (f12 0), .ref (f1 0), .ref (f2 0), .ref (f3 0), .int 0, .null, .null])) :: ws0) 229 6315
  refine n_putF hC 10 rfl kclX11 10 (by decide) rfl rfl q37 rfl rfl (xdt tt_X11_init 53 rfl) ?_
  refine n_cast rfl rfl (ws' := (a15, .inr (.inr ("FusionFront$Front", [some (f4 0), some (f5 0), some (f6 0), some (f7 0), some (f8 0), some (f9 0)]))) :: (a14, .inl (1, [.ref a15, .int 0, .int 0])) :: (a8, .inr (.inl (.byte, 32))) :: (a7, .inl (2, [.ref a8, .int 0])) :: (a6, .inr (.inl (.byte, 0))) :: (a5, .inr (.inl (.int, 2))) :: (a4, .inr (.inl (.int, 2))) :: (a3, .inr (.inl (.boolean, 6))) :: (a2, .inl (3, [.ref a6, .int 0, .ref (f10 0), .int 0, .int 0, .int 0, .int 0, .ref a3, .ref a4, .ref a5, .int 0, .int 0, .int (Int32.ofInt (-1))])) :: (a1, .inr (.inl (.byte, 600))) :: (h0, .inl (11, [.ref a1, .int 0, .ref a2, .ref a7, .ref (f11 0), .ref (f12 0), .ref (f1 0), .ref (f2 0), .ref (f3 0), .int 0, .ref a14, .null])) :: ws0) rfl ?_
  refine n_aload_n hC rfl 0 rfl (xdt tt_X11_init 54 rfl) ?_
  refine n_new hC kclX4 q38 q39 q40 [.null, .int 0] rfl blkX4 (Nat.le_of_ble_eq_true rfl) (Nat.le_of_ble_eq_true rfl) (xdt tt_X11_init 55 rfl) (fun a16 => ?_)
  refine n_dup hC rfl (xdt tt_X11_init 56 rfl) ?_
  refine n_ctorN hC mc_X4_init (List.mem_of_getElem? (i := 9) rfl) ⟨(Nat.le_of_ble_eq_true rfl), (Nat.le_of_ble_eq_true rfl)⟩ (Nat.le_of_ble_eq_true rfl) (Nat.le_of_ble_eq_true rfl) [] rfl (fun u hu => hb_X4_init hu) (fun l => cN_X4_init l) rfl (Nat.le_of_ble_eq_true rfl) (xdt tt_X11_init 57 rfl) (fun u hu => ?_)
  obtain ⟨a17, a18, rfl⟩ := hu
  show WN K (addR (addR (addR (addR (addR (addR (addR (addR (addR (addR (addR (addR E 10 2 f10) 11 2 f11) 12 2 f12) 1 1 f1) 2 1 f2) 3 1 f3) 4 1 f4) 5 1 f5) 6 1 f6) 7 1 f7) 8 1 f8) 9 1 f9) B 125 [(0, .ref h0)] [.ref a16, .ref h0] S12 ((a18, .inr (.inl (.int, 60))) :: (a17, .inl (10, [.ref a18])) :: (a16, .inl (4, [.ref a17, .int 0])) :: (a15, .inr (.inr ("FusionFront$Front", [some (f4 0), some (f5 0), some (f6 0), some (f7 0), some (f8 0), some (f9 0)]))) :: (a14, .inl (1, [.ref a15, .int 0, .int 0])) :: (a8, .inr (.inl (.byte, 32))) :: (a7, .inl (2, [.ref a8, .int 0])) :: (a6, .inr (.inl (.byte, 0))) :: (a5, .inr (.inl (.int, 2))) :: (a4, .inr (.inl (.int, 2))) :: (a3, .inr (.inl (.boolean, 6))) :: (a2, .inl (3, [.ref a6, .int 0, .ref (f10 0), .int 0, .int 0, .int 0, .int 0, .ref a3, .ref a4, .ref a5, .int 0, .int 0, .int (Int32.ofInt (-1))])) :: (a1, .inr (.inl (.byte, 600))) :: (h0, .inl (11, [.ref a1, .int 0, .ref a2, .ref a7, .ref (f11 0), .ref (f12 0), .ref (f1 0), .ref (f2 0), .ref (f3 0), .int 0, .ref a14, .null])) :: ws0) 232 6378
  refine n_putF hC 13 rfl kclX11 11 (by decide) rfl rfl q41 rfl rfl (xdt tt_X11_init 58 rfl) ?_
  refine n_cast rfl rfl (ws' := (a18, .inr (.inl (.int, 60))) :: (a17, .inl (10, [.ref a18])) :: (a16, .inl (4, [.ref a17, .int 0])) :: (a15, .inr (.inr ("FusionFront$Front", [some (f4 0), some (f5 0), some (f6 0), some (f7 0), some (f8 0), some (f9 0)]))) :: (a14, .inl (1, [.ref a15, .int 0, .int 0])) :: (a8, .inr (.inl (.byte, 32))) :: (a7, .inl (2, [.ref a8, .int 0])) :: (a6, .inr (.inl (.byte, 0))) :: (a5, .inr (.inl (.int, 2))) :: (a4, .inr (.inl (.int, 2))) :: (a3, .inr (.inl (.boolean, 6))) :: (a2, .inl (3, [.ref a6, .int 0, .ref (f10 0), .int 0, .int 0, .int 0, .int 0, .ref a3, .ref a4, .ref a5, .int 0, .int 0, .int (Int32.ofInt (-1))])) :: (a1, .inr (.inl (.byte, 600))) :: (h0, .inl (11, [.ref a1, .int 0, .ref a2, .ref a7, .ref (f11 0), .ref (f12 0), .ref (f1 0), .ref (f2 0), .ref (f3 0), .int 0, .ref a14, .ref a16])) :: ws0) rfl ?_
  refine n_cast rfl rfl (ws' := [(a18, .inr (.inl (.int, 60))), (a17, .inl (10, [.ref a18])), (a16, .inl (4, [.ref a17, .int 0])), (a15, .inr (.inr ("FusionFront$Front", [some (f4 0), some (f5 0), some (f6 0), some (f7 0), some (f8 0), some (f9 0)]))), (a14, .inl (1, [.ref a15, .int 0, .int 0])), (a8, .inr (.inl (.byte, 32))), (a7, .inl (2, [.ref a8, .int 0])), (a6, .inr (.inl (.byte, 0))), (a5, .inr (.inl (.int, 2))), (a4, .inr (.inl (.int, 2))), (a3, .inr (.inl (.boolean, 6))), (a2, .inl (3, [.ref a6, .int 0, .ref (f10 0), .int 0, .int 0, .int 0, .int 0, .ref a3, .ref a4, .ref a5, .int 0, .int 0, .int (Int32.ofInt (-1))])), (a1, .inr (.inl (.byte, 600))), (h0, .inl (11, [.ref a1, .int 0, .ref a2, .ref a7, .ref (f11 0), .ref (f12 0), .ref (f1 0), .ref (f2 0), .ref (f3 0), .int 0, .ref a14, .ref a16]))] ++ ws0) rfl ?_
  refine n_region2 (r := 0) (κ := 3) [13, 12, 11, 10, 9, 8, 6, 5, 4, 3, 2, 1, 0, 7] [h0, a1, a2, a3, a4, a5, a7, a8, a14, a15, a16, a17, a18, a6] (σ0 := fun o j => if o = 2 ∧ j = 12 then -1 else 0) (ρ0 := fun o j => if o = 0 then (if j = 4 then (11, 0) else if j = 5 then (12, 0) else nul) else if o = 2 then (if j = 0 then (0, 13) else if j = 2 then (10, 0) else nul) else nul) layn3 rfl (by decide) hr0 ha0 (fun o k hk => ?_) ?_
  · have ho := layn3 o k hk
    rcases (show o = 0 ∨ o = 1 ∨ o = 2 ∨ o = 3 ∨ o = 4 ∨ o = 5 ∨ o = 6 ∨ o = 7 ∨ o = 8 ∨ o = 9 ∨ o = 10 ∨ o = 11 ∨ o = 12 ∨ o = 13 by omega) with rfl | rfl | rfl | rfl | rfl | rfl | rfl | rfl | rfl | rfl | rfl | rfl | rfl | rfl
    · cases Option.some.inj (hk.symm.trans ly3_0)
      exact ⟨.inl (11, [.ref a1, .int 0, .ref a2, .ref a7, .ref (f11 0), .ref (f12 0), .ref (f1 0), .ref (f2 0), .ref (f3 0), .int 0, .ref a14, .ref a16]), rfl, ⟨rfl, rfl, fun j hj => (by rcases (show j = 0 ∨ j = 1 ∨ j = 2 ∨ j = 3 ∨ j = 4 ∨ j = 5 ∨ j = 6 ∨ j = 7 ∨ j = 8 ∨ j = 9 ∨ j = 10 ∨ j = 11 from (by have : j < 12 := hj; omega)) with rfl | rfl | rfl | rfl | rfl | rfl | rfl | rfl | rfl | rfl | rfl | rfl <;> first | rfl | exact congrArg Value.ref (addR_0s rfl)), fun j ty h => (by have hj : j < 12 := (List.getElem?_eq_some_iff.mp h).1; rcases (show j = 0 ∨ j = 1 ∨ j = 2 ∨ j = 3 ∨ j = 4 ∨ j = 5 ∨ j = 6 ∨ j = 7 ∨ j = 8 ∨ j = 9 ∨ j = 10 ∨ j = 11 by omega) with rfl | rfl | rfl | rfl | rfl | rfl | rfl | rfl | rfl | rfl | rfl | rfl <;> first | (cases Option.some.inj h; rfl) | cases Option.some.inj h)⟩⟩
    · cases Option.some.inj (hk.symm.trans ly3_1)
      exact ⟨.inr (.inl (.byte, 600)), rfl, ⟨rfl, fun _ => rfl, Or.inr (Or.inr (Or.inl rfl)), by decide⟩⟩
    · cases Option.some.inj (hk.symm.trans ly3_2)
      exact ⟨.inl (3, [.ref a6, .int 0, .ref (f10 0), .int 0, .int 0, .int 0, .int 0, .ref a3, .ref a4, .ref a5, .int 0, .int 0, .int (Int32.ofInt (-1))]), rfl, ⟨rfl, rfl, fun j hj => (by rcases (show j = 0 ∨ j = 1 ∨ j = 2 ∨ j = 3 ∨ j = 4 ∨ j = 5 ∨ j = 6 ∨ j = 7 ∨ j = 8 ∨ j = 9 ∨ j = 10 ∨ j = 11 ∨ j = 12 from (by have : j < 13 := hj; omega)) with rfl | rfl | rfl | rfl | rfl | rfl | rfl | rfl | rfl | rfl | rfl | rfl | rfl <;> first | rfl | exact congrArg Value.ref (addR_0s rfl)), fun j ty h => (by have hj : j < 13 := (List.getElem?_eq_some_iff.mp h).1; rcases (show j = 0 ∨ j = 1 ∨ j = 2 ∨ j = 3 ∨ j = 4 ∨ j = 5 ∨ j = 6 ∨ j = 7 ∨ j = 8 ∨ j = 9 ∨ j = 10 ∨ j = 11 ∨ j = 12 by omega) with rfl | rfl | rfl | rfl | rfl | rfl | rfl | rfl | rfl | rfl | rfl | rfl | rfl <;> first | (cases Option.some.inj h; rfl) | cases Option.some.inj h)⟩⟩
    · cases Option.some.inj (hk.symm.trans ly3_3)
      exact ⟨.inr (.inl (.boolean, 6)), rfl, ⟨rfl, fun _ => rfl, Or.inr (Or.inl rfl), by decide⟩⟩
    · cases Option.some.inj (hk.symm.trans ly3_4)
      exact ⟨.inr (.inl (.int, 2)), rfl, ⟨rfl, fun _ => rfl, Or.inl rfl, by decide⟩⟩
    · cases Option.some.inj (hk.symm.trans ly3_5)
      exact ⟨.inr (.inl (.int, 2)), rfl, ⟨rfl, fun _ => rfl, Or.inl rfl, by decide⟩⟩
    · cases Option.some.inj (hk.symm.trans ly3_6)
      exact ⟨.inl (2, [.ref a8, .int 0]), rfl, ⟨rfl, rfl, fun j hj => (by rcases (show j = 0 ∨ j = 1 from (by have : j < 2 := hj; omega)) with rfl | rfl <;> first | rfl | exact congrArg Value.ref (addR_0s rfl)), fun j ty h => (by have hj : j < 2 := (List.getElem?_eq_some_iff.mp h).1; rcases (show j = 0 ∨ j = 1 by omega) with rfl | rfl <;> first | (cases Option.some.inj h; rfl) | cases Option.some.inj h)⟩⟩
    · cases Option.some.inj (hk.symm.trans ly3_7)
      exact ⟨.inr (.inl (.byte, 32)), rfl, ⟨rfl, fun _ => rfl, Or.inr (Or.inr (Or.inl rfl)), by decide⟩⟩
    · cases Option.some.inj (hk.symm.trans ly3_8)
      exact ⟨.inl (1, [.ref a15, .int 0, .int 0]), rfl, ⟨rfl, rfl, fun j hj => (by rcases (show j = 0 ∨ j = 1 ∨ j = 2 from (by have : j < 3 := hj; omega)) with rfl | rfl | rfl <;> first | rfl | exact congrArg Value.ref (addR_0s rfl)), fun j ty h => (by have hj : j < 3 := (List.getElem?_eq_some_iff.mp h).1; rcases (show j = 0 ∨ j = 1 ∨ j = 2 by omega) with rfl | rfl | rfl <;> first | (cases Option.some.inj h; rfl) | cases Option.some.inj h)⟩⟩
    · cases Option.some.inj (hk.symm.trans ly3_9)
      exact ⟨.inr (.inr ("FusionFront$Front", [some (f4 0), some (f5 0), some (f6 0), some (f7 0), some (f8 0), some (f9 0)])), rfl, ⟨rfl, rfl, fun j d h => (by have hj : j < 6 := (List.getElem?_eq_some_iff.mp h).1; rcases (show j = 0 ∨ j = 1 ∨ j = 2 ∨ j = 3 ∨ j = 4 ∨ j = 5 by omega) with rfl | rfl | rfl | rfl | rfl | rfl <;> (cases Option.some.inj h; rfl)), by decide⟩⟩
    · cases Option.some.inj (hk.symm.trans ly3_10)
      exact ⟨.inl (4, [.ref a17, .int 0]), rfl, ⟨rfl, rfl, fun j hj => (by rcases (show j = 0 ∨ j = 1 from (by have : j < 2 := hj; omega)) with rfl | rfl <;> first | rfl | exact congrArg Value.ref (addR_0s rfl)), fun j ty h => (by have hj : j < 2 := (List.getElem?_eq_some_iff.mp h).1; rcases (show j = 0 ∨ j = 1 by omega) with rfl | rfl <;> first | (cases Option.some.inj h; rfl) | cases Option.some.inj h)⟩⟩
    · cases Option.some.inj (hk.symm.trans ly3_11)
      exact ⟨.inl (10, [.ref a18]), rfl, ⟨rfl, rfl, fun j hj => (by rcases (show j = 0 from (by have : j < 1 := hj; omega)) with rfl <;> first | rfl | exact congrArg Value.ref (addR_0s rfl)), fun j ty h => (by have hj : j < 1 := (List.getElem?_eq_some_iff.mp h).1; rcases (show j = 0 by omega) with rfl <;> first | (cases Option.some.inj h; rfl) | cases Option.some.inj h)⟩⟩
    · cases Option.some.inj (hk.symm.trans ly3_12)
      exact ⟨.inr (.inl (.int, 60)), rfl, ⟨rfl, fun _ => rfl, Or.inl rfl, by decide⟩⟩
    · cases Option.some.inj (hk.symm.trans ly3_13)
      exact ⟨.inr (.inl (.byte, 0)), rfl, ⟨rfl, fun _ => rfl, Or.inr (Or.inr (Or.inl rfl)), by decide⟩⟩
  exact n_vret hC hE ⟨f10, f11, f12, f1, f2, f3, f4, f5, f6, f7, f8, f9, _, rfl, rfl⟩ (xdt tt_X11_init 59 rfl)
