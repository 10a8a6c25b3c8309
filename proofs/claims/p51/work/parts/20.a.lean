theorem blkX0 : ∀ j, j < 18 → defaultValue (tyX0 j) = ([.null, .null, .null, .null, .null, .null, .null, .null, .null, .int 0, .int 0, .int 0, .int 0, .int 0, .int 0, .int 0, .int 0, .int 0] : List Value).getD j .null := by
  intro j hj
  rcases (show j = 0 ∨ j = 1 ∨ j = 2 ∨ j = 3 ∨ j = 4 ∨ j = 5 ∨ j = 6 ∨ j = 7 ∨ j = 8 ∨ j = 9 ∨ j = 10 ∨ j = 11 ∨ j = 12 ∨ j = 13 ∨ j = 14 ∨ j = 15 ∨ j = 16 ∨ j = 17 by omega) with rfl | rfl | rfl | rfl | rfl | rfl | rfl | rfl | rfl | rfl | rfl | rfl | rfl | rfl | rfl | rfl | rfl | rfl <;> rfl
theorem blkX1 : ∀ j, j < 3 → defaultValue (tyX1 j) = ([.null, .int 0, .int 0] : List Value).getD j .null := by
  intro j hj
  rcases (show j = 0 ∨ j = 1 ∨ j = 2 by omega) with rfl | rfl | rfl <;> rfl
theorem blkX2 : ∀ j, j < 2 → defaultValue (tyX2 j) = ([.null, .int 0] : List Value).getD j .null := by
  intro j hj
  rcases (show j = 0 ∨ j = 1 by omega) with rfl | rfl <;> rfl
theorem blkX3 : ∀ j, j < 13 → defaultValue (tyX3 j) = ([.null, .int 0, .null, .int 0, .int 0, .int 0, .int 0, .null, .null, .null, .int 0, .int 0, .int 0] : List Value).getD j .null := by
  intro j hj
  rcases (show j = 0 ∨ j = 1 ∨ j = 2 ∨ j = 3 ∨ j = 4 ∨ j = 5 ∨ j = 6 ∨ j = 7 ∨ j = 8 ∨ j = 9 ∨ j = 10 ∨ j = 11 ∨ j = 12 by omega) with rfl | rfl | rfl | rfl | rfl | rfl | rfl | rfl | rfl | rfl | rfl | rfl | rfl <;> rfl
theorem blkX4 : ∀ j, j < 2 → defaultValue (tyX4 j) = ([.null, .int 0] : List Value).getD j .null := by
  intro j hj
  rcases (show j = 0 ∨ j = 1 by omega) with rfl | rfl <;> rfl
theorem blkX5 : ∀ j, j < 11 → defaultValue (tyX5 j) = ([.null, .null, .null, .null, .null, .null, .null, .null, .null, .null, .int 0] : List Value).getD j .null := by
  intro j hj
  rcases (show j = 0 ∨ j = 1 ∨ j = 2 ∨ j = 3 ∨ j = 4 ∨ j = 5 ∨ j = 6 ∨ j = 7 ∨ j = 8 ∨ j = 9 ∨ j = 10 by omega) with rfl | rfl | rfl | rfl | rfl | rfl | rfl | rfl | rfl | rfl | rfl <;> rfl
theorem blkX6 : ∀ j, j < 3 → defaultValue (tyX6 j) = ([.null, .null, .int 0] : List Value).getD j .null := by
  intro j hj
  rcases (show j = 0 ∨ j = 1 ∨ j = 2 by omega) with rfl | rfl | rfl <;> rfl
theorem blkX7 : ∀ j, j < 5 → defaultValue (tyX7 j) = ([.int 0, .int 0, .int 0, .int 0, .int 0] : List Value).getD j .null := by
  intro j hj
  rcases (show j = 0 ∨ j = 1 ∨ j = 2 ∨ j = 3 ∨ j = 4 by omega) with rfl | rfl | rfl | rfl | rfl <;> rfl
theorem blkX8 : ∀ j, j < 3 → defaultValue (tyX8 j) = ([.null, .null, .int 0] : List Value).getD j .null := by
  intro j hj
  rcases (show j = 0 ∨ j = 1 ∨ j = 2 by omega) with rfl | rfl | rfl <;> rfl
theorem blkX9 : ∀ j, j < 5 → defaultValue (tyX9 j) = ([.null, .null, .null, .null, .int 0] : List Value).getD j .null := by
  intro j hj
  rcases (show j = 0 ∨ j = 1 ∨ j = 2 ∨ j = 3 ∨ j = 4 by omega) with rfl | rfl | rfl | rfl | rfl <;> rfl
theorem blkX10 : ∀ j, j < 1 → defaultValue (tyX10 j) = ([.null] : List Value).getD j .null := by
  intro j hj
  rcases (show j = 0 by omega) with rfl <;> rfl
theorem blkX11 : ∀ j, j < 12 → defaultValue (tyX11 j) = ([.null, .int 0, .null, .null, .null, .null, .null, .null, .null, .int 0, .null, .null] : List Value).getD j .null := by
  intro j hj
  rcases (show j = 0 ∨ j = 1 ∨ j = 2 ∨ j = 3 ∨ j = 4 ∨ j = 5 ∨ j = 6 ∨ j = 7 ∨ j = 8 ∨ j = 9 ∨ j = 10 ∨ j = 11 by omega) with rfl | rfl | rfl | rfl | rfl | rfl | rfl | rfl | rfl | rfl | rfl | rfl <;> rfl
abbrev ttX0_init_ : List (Nat × Instr × Nat) := [(0, .aload_n 0, 1), (1, .invokespecial 3, 3), (4, .aload_n 0, 1), (5, .bipush 6, 2), (7, .newarray .int, 2), (9, .putfield 9, 3), (12, .aload_n 0, 1), (13, .new 15, 3), (16, .dup, 1), (17, .invokespecial 17, 3), (20, .putfield 18, 3), (23, .aload_n 0, 1), (24, .new 22, 3), (27, .dup, 1), (28, .invokespecial 24, 3), (31, .putfield 25, 3), (34, .aload_n 0, 1), (35, .new 29, 3), (38, .dup, 1), (39, .invokespecial 31, 3), (42, .putfield 32, 3), (45, .aload_n 0, 1), (46, .new 36, 3), (49, .dup, 1), (50, .invokespecial 38, 3), (53, .putfield 39, 3), (56, .aload_n 0, 1), (57, .new 43, 3), (60, .dup, 1), (61, .invokespecial 45, 3), (64, .putfield 46, 3), (67, .aload_n 0, 1), (68, .new 50, 3), (71, .dup, 1), (72, .invokespecial 52, 3), (75, .putfield 53, 3), (78, .aload_n 0, 1), (79, .bipush 60, 2), (81, .newarray .boolean, 2), (83, .putfield 57, 3), (86, .aload_n 0, 1), (87, .aload_n 1, 1), (88, .invokevirtual 61, 3), (91, .return_, 1)]
theorem tt_X0_init : xdc cX0_init ttX0_init_ = true := by decide +kernel
theorem mc_X0_init : mC yX0_init cX0_init 2 1 := ⟨⟨q89, q26, q90⟩, rfl, ⟨by decide +kernel, by decide +kernel, by decide +kernel⟩, by decide⟩
abbrev ttX1_init_ : List (Nat × Instr × Nat) := [(0, .aload_n 0, 1), (1, .invokespecial 3, 3), (4, .aload_n 0, 1), (5, .bipush 6, 2), (7, .anewarray 9, 3), (10, .putfield 11, 3), (13, .iconst 0, 1), (14, .istore_n 2, 1), (15, .iload_n 2, 1), (16, .bipush 6, 2), (18, .if_icmp .ge 23, 3), (21, .aload_n 0, 1), (22, .getfield 11, 3), (25, .iload_n 2, 1), (26, .new 9, 3), (29, .dup, 1), (30, .aload_n 1, 1), (31, .invokespecial 17, 3), (34, .aastore, 1), (35, .iinc 2 1, 3), (38, .goto (-23), 3), (41, .return_, 1)]
theorem tt_X1_init : xdc cX1_init ttX1_init_ = true := by decide +kernel
theorem mc_X1_init : mC yX1_init cX1_init 3 1 := ⟨⟨q182, q32, q183⟩, rfl, ⟨by decide +kernel, by decide +kernel, by decide +kernel⟩, by decide⟩
abbrev ttX2_init_ : List (Nat × Instr × Nat) := [(0, .aload_n 0, 1), (1, .invokespecial 3, 3), (4, .aload_n 0, 1), (5, .bipush 32, 2), (7, .newarray .byte, 2), (9, .putfield 9, 3), (12, .return_, 1)]
theorem tt_X2_init : xdc cX2_init ttX2_init_ = true := by decide +kernel
theorem mc_X2_init : mC yX2_init cX2_init 1 0 := ⟨⟨q83, q17, q84⟩, rfl, ⟨by decide +kernel, by decide +kernel, by decide +kernel⟩, by decide⟩
abbrev ttX3_init_ : List (Nat × Instr × Nat) := [(0, .aload_n 0, 1), (1, .invokespecial 3, 3), (4, .aload_n 0, 1), (5, .bipush 6, 2), (7, .newarray .boolean, 2), (9, .putfield 9, 3), (12, .aload_n 0, 1), (13, .iconst 2, 1), (14, .newarray .int, 2), (16, .putfield 15, 3), (19, .aload_n 0, 1), (20, .iconst 2, 1), (21, .newarray .int, 2), (23, .putfield 19, 3), (26, .aload_n 0, 1), (27, .iconst 0, 1), (28, .newarray .byte, 2), (30, .putfield 22, 3), (33, .aload_n 0, 1), (34, .new 26, 3), (37, .dup, 1), (38, .invokespecial 28, 3), (41, .putfield 29, 3), (44, .aload_n 0, 1), (45, .iconst (-1), 1), (46, .putfield 33, 3), (49, .return_, 1)]
theorem tt_X3_init : xdc cX3_init ttX3_init_ = true := by decide +kernel
theorem mc_X3_init : mC yX3_init cX3_init 1 0 := ⟨⟨q39, q13, q40⟩, rfl, ⟨by decide +kernel, by decide +kernel, by decide +kernel⟩, by decide⟩
abbrev ttX4_init_ : List (Nat × Instr × Nat) := [(0, .aload_n 0, 1), (1, .invokespecial 3, 3), (4, .aload_n 0, 1), (5, .new 9, 3), (8, .dup, 1), (9, .invokespecial 11, 3), (12, .putfield 12, 3), (15, .return_, 1)]
theorem tt_X4_init : xdc cX4_init ttX4_init_ = true := by decide +kernel
theorem mc_X4_init : mC yX4_init cX4_init 1 0 := ⟨⟨q126, q36, q127⟩, rfl, ⟨by decide +kernel, by decide +kernel, by decide +kernel⟩, by decide⟩
abbrev ttX5_init_ : List (Nat × Instr × Nat) := [(0, .aload_n 0, 1), (1, .invokespecial 3, 3), (4, .aload_n 0, 1), (5, .bipush 6, 2), (7, .newarray .int, 2), (9, .putfield 9, 3), (12, .aload_n 0, 1), (13, .new 15, 3), (16, .dup, 1), (17, .invokespecial 17, 3), (20, .putfield 18, 3), (23, .aload_n 0, 1), (24, .bipush 60, 2), (26, .newarray .int, 2), (28, .putfield 22, 3), (31, .aload_n 0, 1), (32, .bipush 60, 2), (34, .newarray .boolean, 2), (36, .putfield 25, 3), (39, .aload_n 0, 1), (40, .bipush 60, 2), (42, .newarray .int, 2), (44, .putfield 29, 3), (47, .aload_n 0, 1), (48, .bipush 60, 2), (50, .newarray .int, 2), (52, .putfield 32, 3), (55, .aload_n 0, 1), (56, .bipush 61, 2), (58, .newarray .int, 2), (60, .putfield 35, 3), (63, .aload_n 0, 1), (64, .bipush 60, 2), (66, .newarray .int, 2), (68, .putfield 38, 3), (71, .aload_n 0, 1), (72, .bipush 60, 2), (74, .newarray .int, 2), (76, .putfield 41, 3), (79, .aload_n 0, 1), (80, .bipush 60, 2), (82, .newarray .int, 2), (84, .putfield 44, 3), (87, .aload_n 0, 1), (88, .invokevirtual 47, 3), (91, .return_, 1)]
theorem tt_X5_init : xdc cX5_init ttX5_init_ = true := by decide +kernel
theorem mc_X5_init : mC yX5_init cX5_init 1 0 := ⟨⟨q52, q21, q53⟩, rfl, ⟨by decide +kernel, by decide +kernel, by decide +kernel⟩, by decide⟩
abbrev ttX6_init_ : List (Nat × Instr × Nat) := [(0, .aload_n 0, 1), (1, .invokespecial 3, 3), (4, .aload_n 0, 1), (5, .bipush 20, 2), (7, .newarray .int, 2), (9, .putfield 9, 3), (12, .aload_n 0, 1), (13, .bipush 20, 2), (15, .newarray .boolean, 2), (17, .putfield 15, 3), (20, .return_, 1)]
theorem tt_X6_init : xdc cX6_init ttX6_init_ = true := by decide +kernel
theorem mc_X6_init : mC yX6_init cX6_init 1 0 := ⟨⟨q114, q97, q115⟩, rfl, ⟨by decide +kernel, by decide +kernel, by decide +kernel⟩, by decide⟩
abbrev ttX7_init_ : List (Nat × Instr × Nat) := [(0, .aload_n 0, 1), (1, .invokespecial 1, 3), (4, .return_, 1)]
theorem tt_X7_init : xdc cX7_init ttX7_init_ = true := by decide +kernel
theorem mc_X7_init : mC yX7_init cX7_init 1 0 := ⟨⟨q119, q101, q120⟩, rfl, ⟨by decide +kernel, by decide +kernel, by decide +kernel⟩, by decide⟩
abbrev ttX8_init_ : List (Nat × Instr × Nat) := [(0, .aload_n 0, 1), (1, .invokespecial 3, 3), (4, .aload_n 0, 1), (5, .bipush 7, 2), (7, .newarray .int, 2), (9, .putfield 9, 3), (12, .aload_n 0, 1), (13, .bipush 7, 2), (15, .newarray .int, 2), (17, .putfield 15, 3), (20, .return_, 1)]
theorem tt_X8_init : xdc cX8_init ttX8_init_ = true := by decide +kernel
theorem mc_X8_init : mC yX8_init cX8_init 1 0 := ⟨⟨q68, q58, q69⟩, rfl, ⟨by decide +kernel, by decide +kernel, by decide +kernel⟩, by decide⟩
abbrev ttX9_init_ : List (Nat × Instr × Nat) := [(0, .aload_n 0, 1), (1, .invokespecial 3, 3), (4, .aload_n 0, 1), (5, .bipush 9, 2), (7, .newarray .int, 2), (9, .putfield 9, 3), (12, .aload_n 0, 1), (13, .bipush 9, 2), (15, .newarray .int, 2), (17, .putfield 15, 3), (20, .aload_n 0, 1), (21, .bipush 60, 2), (23, .newarray .int, 2), (25, .putfield 18, 3), (28, .aload_n 0, 1), (29, .bipush 100, 2), (31, .newarray .int, 2), (33, .putfield 21, 3), (36, .return_, 1)]
theorem tt_X9_init : xdc cX9_init ttX9_init_ = true := by decide +kernel
theorem mc_X9_init : mC yX9_init cX9_init 1 0 := ⟨⟨q131, q111, q132⟩, rfl, ⟨by decide +kernel, by decide +kernel, by decide +kernel⟩, by decide⟩
abbrev ttX10_init_ : List (Nat × Instr × Nat) := [(0, .aload_n 0, 1), (1, .invokespecial 3, 3), (4, .aload_n 0, 1), (5, .bipush 60, 2), (7, .newarray .int, 2), (9, .putfield 9, 3), (12, .return_, 1)]
theorem tt_X10_init : xdc cX10_init ttX10_init_ = true := by decide +kernel
theorem mc_X10_init : mC yX10_init cX10_init 1 0 := ⟨⟨q122, q105, q123⟩, rfl, ⟨by decide +kernel, by decide +kernel, by decide +kernel⟩, by decide⟩
abbrev ttX11_init_ : List (Nat × Instr × Nat) := [(0, .aload_n 0, 1), (1, .invokespecial 1, 3), (4, .aload_n 0, 1), (5, .sipush 600, 3), (8, .newarray .byte, 2), (10, .putfield 9, 3), (13, .aload_n 0, 1), (14, .new 13, 3), (17, .dup, 1), (18, .invokespecial 15, 3), (21, .putfield 16, 3), (24, .aload_n 0, 1), (25, .new 20, 3), (28, .dup, 1), (29, .invokespecial 22, 3), (32, .putfield 23, 3), (35, .aload_n 0, 1), (36, .new 27, 3), (39, .dup, 1), (40, .invokespecial 29, 3), (43, .putfield 30, 3), (46, .aload_n 0, 1), (47, .new 27, 3), (50, .dup, 1), (51, .invokespecial 29, 3), (54, .putfield 34, 3), (57, .aload_n 0, 1), (58, .new 37, 3), (61, .dup, 1), (62, .aload_n 0, 1), (63, .getfield 30, 3), (66, .invokespecial 39, 3), (69, .putfield 42, 3), (72, .aload_n 0, 1), (73, .new 37, 3), (76, .dup, 1), (77, .aload_n 0, 1), (78, .getfield 30, 3), (81, .invokespecial 39, 3), (84, .putfield 46, 3), (87, .aload_n 0, 1), (88, .new 37, 3), (91, .dup, 1), (92, .aload_n 0, 1), (93, .getfield 30, 3), (96, .invokespecial 39, 3), (99, .putfield 49, 3), (102, .aload_n 0, 1), (103, .new 52, 3), (106, .dup, 1), (107, .aload_n 0, 1), (108, .getfield 30, 3), (111, .invokespecial 54, 3), (114, .putfield 55, 3), (117, .aload_n 0, 1), (118, .new 59, 3), (121, .dup, 1), (122, .invokespecial 61, 3), (125, .putfield 62, 3), (128, .return_, 1)]
theorem tt_X11_init : xdc cX11_init ttX11_init_ = true := by decide +kernel
theorem mc_X11_init : mC yX11_init cX11_init 1 0 := ⟨⟨q4, q2, q5⟩, rfl, ⟨by decide +kernel, by decide +kernel, by decide +kernel⟩, by decide⟩
theorem hb_X2_init {E : xE} {S : xSt} {h0 : Nat} {ws0 : pW} {u : xE × xSt × pW} (hu : (fun u => ∃ a1 : Nat, u = (E, S, (a1, .inr (.inl (.byte, 32))) :: (h0, .inl (4, [.ref a1, .int 0])) :: ws0)) u) : xBase E u.1 := by
  obtain ⟨a1, rfl⟩ := hu
  exact ⟨rfl, rfl⟩
set_option maxRecDepth 100000 in
set_option maxHeartbeats 4000000 in
theorem cN_X2_init (l : Launch) {E : xE} {B : Nat} {S : xSt} {h0 : Nat} {ws0 : pW} : Met l yX2_init (xws yX2_init cX2_init 1 none) (rmN 1 1 32) (NPc E B [.ref h0] S ((h0, .inl (4, [.null, .int 0])) :: ws0)) (NQ B (fun u => ∃ a1 : Nat, u = (E, S, (a1, .inr (.inl (.byte, 32))) :: (h0, .inl (4, [.ref a1, .int 0])) :: ws0))) 1 32 (fun a => B ≤ a) := by
  refine metN (by decide +kernel) rfl (Nat.le_of_ble_eq_true rfl) (fun K hC hE => ?_)
  have hC : xOKN K cX2_init RX2 1 (rmN 1 1 32) := hC
  show WN K E B 0 [(0, .ref h0)] [] S ((h0, .inl (4, [.null, .int 0])) :: ws0) 0 0
  refine n_aload_n hC rfl 0 rfl (xdt tt_X2_init 0 rfl) ?_
  refine n_objInit hC q85 q7 q8 (Nat.le_of_ble_eq_true rfl) (Nat.le_of_ble_eq_true rfl) (xdt tt_X2_init 1 rfl) ?_
  refine n_aload_n hC rfl 0 rfl (xdt tt_X2_init 2 rfl) ?_
  refine n_bipush hC (by decide) (xdt tt_X2_init 3 rfl) ?_
  refine n_newa hC (et := .byte) rfl q9 (by decide) (N := 32) (by decide) (Nat.le_of_ble_eq_true rfl) (Nat.le_of_ble_eq_true rfl) (Nat.le_of_ble_eq_true rfl) (xdt tt_X2_init 4 rfl) (fun a1 => ?_)
  refine n_putF hC 1 rfl kclX2 0 (by decide) rfl rfl q86 rfl rfl (xdt tt_X2_init 5 rfl) ?_
  refine n_cast rfl rfl (ws' := (a1, .inr (.inl (.byte, 32))) :: (h0, .inl (4, [.ref a1, .int 0])) :: ws0) rfl ?_
  exact n_vret hC hE ⟨a1, rfl⟩ (xdt tt_X2_init 6 rfl)
theorem hb_X6_init {E : xE} {S : xSt} {h0 : Nat} {ws0 : pW} {u : xE × xSt × pW} (hu : (fun u => ∃ a1 : Nat, ∃ a2 : Nat, u = (E, S, (a2, .inr (.inl (.boolean, 20))) :: (a1, .inr (.inl (.int, 20))) :: (h0, .inl (8, [.ref a1, .ref a2, .int 0])) :: ws0)) u) : xBase E u.1 := by
  obtain ⟨a1, a2, rfl⟩ := hu
  exact ⟨rfl, rfl⟩
set_option maxRecDepth 100000 in
set_option maxHeartbeats 4000000 in
theorem cN_X6_init (l : Launch) {E : xE} {B : Nat} {S : xSt} {h0 : Nat} {ws0 : pW} : Met l yX6_init (xws yX6_init cX6_init 1 none) (rmN 1 2 40) (NPc E B [.ref h0] S ((h0, .inl (8, [.null, .null, .int 0])) :: ws0)) (NQ B (fun u => ∃ a1 : Nat, ∃ a2 : Nat, u = (E, S, (a2, .inr (.inl (.boolean, 20))) :: (a1, .inr (.inl (.int, 20))) :: (h0, .inl (8, [.ref a1, .ref a2, .int 0])) :: ws0))) 2 40 (fun a => B ≤ a) := by
  refine metN (by decide +kernel) rfl (Nat.le_of_ble_eq_true rfl) (fun K hC hE => ?_)
  have hC : xOKN K cX6_init RX6 1 (rmN 1 2 40) := hC
  show WN K E B 0 [(0, .ref h0)] [] S ((h0, .inl (8, [.null, .null, .int 0])) :: ws0) 0 0
  refine n_aload_n hC rfl 0 rfl (xdt tt_X6_init 0 rfl) ?_
  refine n_objInit hC q116 q7 q8 (Nat.le_of_ble_eq_true rfl) (Nat.le_of_ble_eq_true rfl) (xdt tt_X6_init 1 rfl) ?_
  refine n_aload_n hC rfl 0 rfl (xdt tt_X6_init 2 rfl) ?_
  refine n_bipush hC (by decide) (xdt tt_X6_init 3 rfl) ?_
  refine n_newa hC (et := .int) rfl q44 (by decide) (N := 20) (by decide) (Nat.le_of_ble_eq_true rfl) (Nat.le_of_ble_eq_true rfl) (Nat.le_of_ble_eq_true rfl) (xdt tt_X6_init 4 rfl) (fun a1 => ?_)
  refine n_putF hC 1 rfl kclX6 0 (by decide) rfl rfl q117 rfl rfl (xdt tt_X6_init 5 rfl) ?_
  refine n_cast rfl rfl (ws' := (a1, .inr (.inl (.int, 20))) :: (h0, .inl (8, [.ref a1, .null, .int 0])) :: ws0) rfl ?_
  refine n_aload_n hC rfl 0 rfl (xdt tt_X6_init 6 rfl) ?_
  refine n_bipush hC (by decide) (xdt tt_X6_init 7 rfl) ?_
  refine n_newa hC (et := .boolean) rfl q42 (by decide) (N := 20) (by decide) (Nat.le_of_ble_eq_true rfl) (Nat.le_of_ble_eq_true rfl) (Nat.le_of_ble_eq_true rfl) (xdt tt_X6_init 8 rfl) (fun a2 => ?_)
  refine n_putF hC 2 rfl kclX6 1 (by decide) rfl rfl q118 rfl rfl (xdt tt_X6_init 9 rfl) ?_
  refine n_cast rfl rfl (ws' := (a2, .inr (.inl (.boolean, 20))) :: (a1, .inr (.inl (.int, 20))) :: (h0, .inl (8, [.ref a1, .ref a2, .int 0])) :: ws0) rfl ?_
  exact n_vret hC hE ⟨a1, a2, rfl⟩ (xdt tt_X6_init 10 rfl)
theorem hb_X7_init {E : xE} {S : xSt} {h0 : Nat} {ws0 : pW} {u : xE × xSt × pW} (hu : (fun u => u = (E, S, (h0, .inl (9, [.int 0, .int 0, .int 0, .int 0, .int 0])) :: ws0)) u) : xBase E u.1 := by
  subst hu
  exact ⟨rfl, rfl⟩
set_option maxRecDepth 100000 in
set_option maxHeartbeats 4000000 in
theorem cN_X7_init (l : Launch) {E : xE} {B : Nat} {S : xSt} {h0 : Nat} {ws0 : pW} : Met l yX7_init (xws yX7_init cX7_init 1 none) (rmN 1 0 0) (NPc E B [.ref h0] S ((h0, .inl (9, [.int 0, .int 0, .int 0, .int 0, .int 0])) :: ws0)) (NQ B (fun u => u = (E, S, (h0, .inl (9, [.int 0, .int 0, .int 0, .int 0, .int 0])) :: ws0))) 0 0 (fun a => B ≤ a) := by
  refine metN (by decide +kernel) rfl (Nat.le_of_ble_eq_true rfl) (fun K hC hE => ?_)
  have hC : xOKN K cX7_init RX7 1 (rmN 1 0 0) := hC
  show WN K E B 0 [(0, .ref h0)] [] S ((h0, .inl (9, [.int 0, .int 0, .int 0, .int 0, .int 0])) :: ws0) 0 0
  refine n_aload_n hC rfl 0 rfl (xdt tt_X7_init 0 rfl) ?_
  refine n_objInit hC q121 q7 q8 (Nat.le_of_ble_eq_true rfl) (Nat.le_of_ble_eq_true rfl) (xdt tt_X7_init 1 rfl) ?_
  exact n_vret hC hE rfl (xdt tt_X7_init 2 rfl)
theorem hb_X8_init {E : xE} {S : xSt} {h0 : Nat} {ws0 : pW} {u : xE × xSt × pW} (hu : (fun u => ∃ a1 : Nat, ∃ a2 : Nat, u = (E, S, (a2, .inr (.inl (.int, 7))) :: (a1, .inr (.inl (.int, 7))) :: (h0, .inl (10, [.ref a1, .ref a2, .int 0])) :: ws0)) u) : xBase E u.1 := by
  obtain ⟨a1, a2, rfl⟩ := hu
  exact ⟨rfl, rfl⟩
set_option maxRecDepth 100000 in
set_option maxHeartbeats 4000000 in
theorem cN_X8_init (l : Launch) {E : xE} {B : Nat} {S : xSt} {h0 : Nat} {ws0 : pW} : Met l yX8_init (xws yX8_init cX8_init 1 none) (rmN 1 2 14) (NPc E B [.ref h0] S ((h0, .inl (10, [.null, .null, .int 0])) :: ws0)) (NQ B (fun u => ∃ a1 : Nat, ∃ a2 : Nat, u = (E, S, (a2, .inr (.inl (.int, 7))) :: (a1, .inr (.inl (.int, 7))) :: (h0, .inl (10, [.ref a1, .ref a2, .int 0])) :: ws0))) 2 14 (fun a => B ≤ a) := by
  refine metN (by decide +kernel) rfl (Nat.le_of_ble_eq_true rfl) (fun K hC hE => ?_)
  have hC : xOKN K cX8_init RX8 1 (rmN 1 2 14) := hC
  show WN K E B 0 [(0, .ref h0)] [] S ((h0, .inl (10, [.null, .null, .int 0])) :: ws0) 0 0
  refine n_aload_n hC rfl 0 rfl (xdt tt_X8_init 0 rfl) ?_
  refine n_objInit hC q70 q7 q8 (Nat.le_of_ble_eq_true rfl) (Nat.le_of_ble_eq_true rfl) (xdt tt_X8_init 1 rfl) ?_
  refine n_aload_n hC rfl 0 rfl (xdt tt_X8_init 2 rfl) ?_
  refine n_bipush hC (by decide) (xdt tt_X8_init 3 rfl) ?_
  refine n_newa hC (et := .int) rfl q44 (by decide) (N := 7) (by decide) (Nat.le_of_ble_eq_true rfl) (Nat.le_of_ble_eq_true rfl) (Nat.le_of_ble_eq_true rfl) (xdt tt_X8_init 4 rfl) (fun a1 => ?_)
  refine n_putF hC 1 rfl kclX8 0 (by decide) rfl rfl q71 rfl rfl (xdt tt_X8_init 5 rfl) ?_
  refine n_cast rfl rfl (ws' := (a1, .inr (.inl (.int, 7))) :: (h0, .inl (10, [.ref a1, .null, .int 0])) :: ws0) rfl ?_
  refine n_aload_n hC rfl 0 rfl (xdt tt_X8_init 6 rfl) ?_
  refine n_bipush hC (by decide) (xdt tt_X8_init 7 rfl) ?_
  refine n_newa hC (et := .int) rfl q44 (by decide) (N := 7) (by decide) (Nat.le_of_ble_eq_true rfl) (Nat.le_of_ble_eq_true rfl) (Nat.le_of_ble_eq_true rfl) (xdt tt_X8_init 8 rfl) (fun a2 => ?_)
  refine n_putF hC 2 rfl kclX8 1 (by decide) rfl rfl q72 rfl rfl (xdt tt_X8_init 9 rfl) ?_
  refine n_cast rfl rfl (ws' := (a2, .inr (.inl (.int, 7))) :: (a1, .inr (.inl (.int, 7))) :: (h0, .inl (10, [.ref a1, .ref a2, .int 0])) :: ws0) rfl ?_
  exact n_vret hC hE ⟨a1, a2, rfl⟩ (xdt tt_X8_init 10 rfl)
theorem hb_X9_init {E : xE} {S : xSt} {h0 : Nat} {ws0 : pW} {u : xE × xSt × pW} (hu : (fun u => ∃ a1 : Nat, ∃ a2 : Nat, ∃ a3 : Nat, ∃ a4 : Nat, u = (E, S, (a4, .inr (.inl (.int, 100))) :: (a3, .inr (.inl (.int, 60))) :: (a2, .inr (.inl (.int, 9))) :: (a1, .inr (.inl (.int, 9))) :: (h0, .inl (11, [.ref a1, .ref a2, .ref a3, .ref a4, .int 0])) :: ws0)) u) : xBase E u.1 := by
  obtain ⟨a1, a2, a3, a4, rfl⟩ := hu
  exact ⟨rfl, rfl⟩
set_option maxRecDepth 100000 in
set_option maxHeartbeats 4000000 in
theorem cN_X9_init (l : Launch) {E : xE} {B : Nat} {S : xSt} {h0 : Nat} {ws0 : pW} : Met l yX9_init (xws yX9_init cX9_init 1 none) (rmN 1 4 178) (NPc E B [.ref h0] S ((h0, .inl (11, [.null, .null, .null, .null, .int 0])) :: ws0)) (NQ B (fun u => ∃ a1 : Nat, ∃ a2 : Nat, ∃ a3 : Nat, ∃ a4 : Nat, u = (E, S, (a4, .inr (.inl (.int, 100))) :: (a3, .inr (.inl (.int, 60))) :: (a2, .inr (.inl (.int, 9))) :: (a1, .inr (.inl (.int, 9))) :: (h0, .inl (11, [.ref a1, .ref a2, .ref a3, .ref a4, .int 0])) :: ws0))) 4 178 (fun a => B ≤ a) := by
  refine metN (by decide +kernel) rfl (Nat.le_of_ble_eq_true rfl) (fun K hC hE => ?_)
  have hC : xOKN K cX9_init RX9 1 (rmN 1 4 178) := hC
  show WN K E B 0 [(0, .ref h0)] [] S ((h0, .inl (11, [.null, .null, .null, .null, .int 0])) :: ws0) 0 0
  refine n_aload_n hC rfl 0 rfl (xdt tt_X9_init 0 rfl) ?_
  refine n_objInit hC q133 q7 q8 (Nat.le_of_ble_eq_true rfl) (Nat.le_of_ble_eq_true rfl) (xdt tt_X9_init 1 rfl) ?_
  refine n_aload_n hC rfl 0 rfl (xdt tt_X9_init 2 rfl) ?_
  refine n_bipush hC (by decide) (xdt tt_X9_init 3 rfl) ?_
  refine n_newa hC (et := .int) rfl q44 (by decide) (N := 9) (by decide) (Nat.le_of_ble_eq_true rfl) (Nat.le_of_ble_eq_true rfl) (Nat.le_of_ble_eq_true rfl) (xdt tt_X9_init 4 rfl) (fun a1 => ?_)
  refine n_putF hC 1 rfl kclX9 0 (by decide) rfl rfl q134 rfl rfl (xdt tt_X9_init 5 rfl) ?_
  refine n_cast rfl rfl (ws' := (a1, .inr (.inl (.int, 9))) :: (h0, .inl (11, [.ref a1, .null, .null, .null, .int 0])) :: ws0) rfl ?_
  refine n_aload_n hC rfl 0 rfl (xdt tt_X9_init 6 rfl) ?_
  refine n_bipush hC (by decide) (xdt tt_X9_init 7 rfl) ?_
  refine n_newa hC (et := .int) rfl q44 (by decide) (N := 9) (by decide) (Nat.le_of_ble_eq_true rfl) (Nat.le_of_ble_eq_true rfl) (Nat.le_of_ble_eq_true rfl) (xdt tt_X9_init 8 rfl) (fun a2 => ?_)
  refine n_putF hC 2 rfl kclX9 1 (by decide) rfl rfl q135 rfl rfl (xdt tt_X9_init 9 rfl) ?_
  refine n_cast rfl rfl (ws' := (a2, .inr (.inl (.int, 9))) :: (a1, .inr (.inl (.int, 9))) :: (h0, .inl (11, [.ref a1, .ref a2, .null, .null, .int 0])) :: ws0) rfl ?_
  refine n_aload_n hC rfl 0 rfl (xdt tt_X9_init 10 rfl) ?_
  refine n_bipush hC (by decide) (xdt tt_X9_init 11 rfl) ?_
  refine n_newa hC (et := .int) rfl q44 (by decide) (N := 60) (by decide) (Nat.le_of_ble_eq_true rfl) (Nat.le_of_ble_eq_true rfl) (Nat.le_of_ble_eq_true rfl) (xdt tt_X9_init 12 rfl) (fun a3 => ?_)
  refine n_putF hC 3 rfl kclX9 2 (by decide) rfl rfl q136 rfl rfl (xdt tt_X9_init 13 rfl) ?_
  refine n_cast rfl rfl (ws' := (a3, .inr (.inl (.int, 60))) :: (a2, .inr (.inl (.int, 9))) :: (a1, .inr (.inl (.int, 9))) :: (h0, .inl (11, [.ref a1, .ref a2, .ref a3, .null, .int 0])) :: ws0) rfl ?_
  refine n_aload_n hC rfl 0 rfl (xdt tt_X9_init 14 rfl) ?_
  refine n_bipush hC (by decide) (xdt tt_X9_init 15 rfl) ?_
  refine n_newa hC (et := .int) rfl q44 (by decide) (N := 100) (by decide) (Nat.le_of_ble_eq_true rfl) (Nat.le_of_ble_eq_true rfl) (Nat.le_of_ble_eq_true rfl) (xdt tt_X9_init 16 rfl) (fun a4 => ?_)
  refine n_putF hC 4 rfl kclX9 3 (by decide) rfl rfl q137 rfl rfl (xdt tt_X9_init 17 rfl) ?_
  refine n_cast rfl rfl (ws' := (a4, .inr (.inl (.int, 100))) :: (a3, .inr (.inl (.int, 60))) :: (a2, .inr (.inl (.int, 9))) :: (a1, .inr (.inl (.int, 9))) :: (h0, .inl (11, [.ref a1, .ref a2, .ref a3, .ref a4, .int 0])) :: ws0) rfl ?_
  exact n_vret hC hE ⟨a1, a2, a3, a4, rfl⟩ (xdt tt_X9_init 18 rfl)
theorem hb_X10_init {E : xE} {S : xSt} {h0 : Nat} {ws0 : pW} {u : xE × xSt × pW} (hu : (fun u => ∃ a1 : Nat, u = (E, S, (a1, .inr (.inl (.int, 60))) :: (h0, .inl (12, [.ref a1])) :: ws0)) u) : xBase E u.1 := by
  obtain ⟨a1, rfl⟩ := hu
  exact ⟨rfl, rfl⟩
set_option maxRecDepth 100000 in
set_option maxHeartbeats 4000000 in
theorem cN_X10_init (l : Launch) {E : xE} {B : Nat} {S : xSt} {h0 : Nat} {ws0 : pW} : Met l yX10_init (xws yX10_init cX10_init 1 none) (rmN 1 1 60) (NPc E B [.ref h0] S ((h0, .inl (12, [.null])) :: ws0)) (NQ B (fun u => ∃ a1 : Nat, u = (E, S, (a1, .inr (.inl (.int, 60))) :: (h0, .inl (12, [.ref a1])) :: ws0))) 1 60 (fun a => B ≤ a) := by
  refine metN (by decide +kernel) rfl (Nat.le_of_ble_eq_true rfl) (fun K hC hE => ?_)
  have hC : xOKN K cX10_init RX10 1 (rmN 1 1 60) := hC
  show WN K E B 0 [(0, .ref h0)] [] S ((h0, .inl (12, [.null])) :: ws0) 0 0
  refine n_aload_n hC rfl 0 rfl (xdt tt_X10_init 0 rfl) ?_
  refine n_objInit hC q124 q7 q8 (Nat.le_of_ble_eq_true rfl) (Nat.le_of_ble_eq_true rfl) (xdt tt_X10_init 1 rfl) ?_
  refine n_aload_n hC rfl 0 rfl (xdt tt_X10_init 2 rfl) ?_
  refine n_bipush hC (by decide) (xdt tt_X10_init 3 rfl) ?_
  refine n_newa hC (et := .int) rfl q44 (by decide) (N := 60) (by decide) (Nat.le_of_ble_eq_true rfl) (Nat.le_of_ble_eq_true rfl) (Nat.le_of_ble_eq_true rfl) (xdt tt_X10_init 4 rfl) (fun a1 => ?_)
  refine n_putF hC 1 rfl kclX10 0 (by decide) rfl rfl q125 rfl rfl (xdt tt_X10_init 5 rfl) ?_
  refine n_cast rfl rfl (ws' := (a1, .inr (.inl (.int, 60))) :: (h0, .inl (12, [.ref a1])) :: ws0) rfl ?_
  exact n_vret hC hE ⟨a1, rfl⟩ (xdt tt_X10_init 6 rfl)
theorem hb_X4_init {E : xE} {S : xSt} {h0 : Nat} {ws0 : pW} {u : xE × xSt × pW} (hu : (fun u => ∃ a1 : Nat, ∃ a2 : Nat, u = (E, S, (a2, .inr (.inl (.int, 60))) :: (a1, .inl (12, [.ref a2])) :: (h0, .inl (6, [.ref a1, .int 0])) :: ws0)) u) : xBase E u.1 := by
  obtain ⟨a1, a2, rfl⟩ := hu
  exact ⟨rfl, rfl⟩
set_option maxRecDepth 100000 in
set_option maxHeartbeats 4000000 in
theorem cN_X4_init (l : Launch) {E : xE} {B : Nat} {S : xSt} {h0 : Nat} {ws0 : pW} : Met l yX4_init (xws yX4_init cX4_init 1 none) (rmN 2 2 61) (NPc E B [.ref h0] S ((h0, .inl (6, [.null, .int 0])) :: ws0)) (NQ B (fun u => ∃ a1 : Nat, ∃ a2 : Nat, u = (E, S, (a2, .inr (.inl (.int, 60))) :: (a1, .inl (12, [.ref a2])) :: (h0, .inl (6, [.ref a1, .int 0])) :: ws0))) 2 61 (fun a => B ≤ a) := by
  refine metN (by decide +kernel) rfl (Nat.le_of_ble_eq_true rfl) (fun K hC hE => ?_)
  have hC : xOKN K cX4_init RX4 1 (rmN 2 2 61) := hC
  show WN K E B 0 [(0, .ref h0)] [] S ((h0, .inl (6, [.null, .int 0])) :: ws0) 0 0
  refine n_aload_n hC rfl 0 rfl (xdt tt_X4_init 0 rfl) ?_
  refine n_objInit hC q128 q7 q8 (Nat.le_of_ble_eq_true rfl) (Nat.le_of_ble_eq_true rfl) (xdt tt_X4_init 1 rfl) ?_
  refine n_aload_n hC rfl 0 rfl (xdt tt_X4_init 2 rfl) ?_
  refine n_new hC kclX10 q129 q104 q105 [.null] rfl blkX10 (Nat.le_of_ble_eq_true rfl) (Nat.le_of_ble_eq_true rfl) (xdt tt_X4_init 3 rfl) (fun a1 => ?_)
  refine n_dup hC rfl (xdt tt_X4_init 4 rfl) ?_
  refine n_ctorN hC mc_X10_init (List.mem_of_getElem? (i := 7) rfl) ⟨(Nat.le_of_ble_eq_true rfl), (Nat.le_of_ble_eq_true rfl)⟩ (Nat.le_of_ble_eq_true rfl) (Nat.le_of_ble_eq_true rfl) [] rfl (fun u hu => hb_X10_init hu) (fun l => cN_X10_init l) rfl (Nat.le_of_ble_eq_true rfl) (xdt tt_X4_init 5 rfl) (fun u hu => ?_)
  obtain ⟨a2, rfl⟩ := hu
  show WN K E B 12 [(0, .ref h0)] [.ref a1, .ref h0] S ((a2, .inr (.inl (.int, 60))) :: (a1, .inl (12, [.ref a2])) :: (h0, .inl (6, [.null, .int 0])) :: ws0) 2 61
  refine n_putF hC 2 rfl kclX4 0 (by decide) rfl rfl q130 rfl rfl (xdt tt_X4_init 6 rfl) ?_
  refine n_cast rfl rfl (ws' := (a2, .inr (.inl (.int, 60))) :: (a1, .inl (12, [.ref a2])) :: (h0, .inl (6, [.ref a1, .int 0])) :: ws0) rfl ?_
  exact n_vret hC hE ⟨a1, a2, rfl⟩ (xdt tt_X4_init 7 rfl)
