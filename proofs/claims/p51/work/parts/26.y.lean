/-- the law's own end, with 1 -/
def lawE (K : xCtx) (E : xE) (B : Nat) (Ψ : xPsi) (cl sl : Nat) : Prop := ∀ (pc : Nat) (lv : List (Nat × Value)) (S : xSt), decode code pc = .ok (.ireturn, 1) → WB B Ψ cl sl K E pc lv [vi 1] S
theorem l_zret {K : xCtx} {E : xE} {B : Nat} {Ψ : xPsi} {cl sl pc : Nat} {lv : List (Nat × Value)} {S : xSt} {v : Int} (hv : v = 1) (hE : lawE K E B Ψ cl sl) (d : decode code pc = .ok (.ireturn, 1)) : WB B Ψ cl sl K E pc lv [vi v] S := by
  subst hv
  exact hE _ _ _ d
abbrev ttL_law_ : List (Nat × Instr × Nat) := [(0, .new 26, 3), (3, .dup, 1), (4, .invokespecial 147, 3), (7, .astore_n 1, 1), (8, .aload_n 1, 1), (9, .aload_n 0, 1), (10, .invokestatic 148, 3), (13, .invokestatic 152, 3), (16, .aload_n 0, 1), (17, .bipush 8, 2), (19, .iconst 1, 1), (20, .bipush 12, 2), (22, .invokestatic 66, 3), (25, .if_icmp .eq 5, 3), (28, .iconst 0, 1), (29, .ireturn, 1), (30, .aload_n 0, 1), (31, .bipush 40, 2), (33, .iconst 2, 1), (34, .bipush 12, 2), (36, .invokestatic 66, 3), (39, .istore_n 2, 1), (40, .iconst 0, 1), (41, .istore_n 3, 1), (42, .iload_n 3, 1), (43, .iload_n 2, 1), (44, .if_icmp .ge 39, 3), (47, .aload_n 1, 1), (48, .aload_n 0, 1), (49, .iload_n 3, 1), (50, .bipush 14, 2), (52, .iadd, 1), (53, .invokestatic 156, 3), (56, .aload_n 1, 1), (57, .bipush 10, 2), (59, .invokevirtual 121, 3), (62, .sipush 9999, 3), (65, .if_icmp .gt 10, 3), (68, .aload_n 1, 1), (69, .invokestatic 160, 3), (72, .ifCond .ne 5, 3), (75, .iconst 0, 1), (76, .ireturn, 1), (77, .iinc 3 1, 3), (80, .goto (-38), 3), (83, .aload_n 1, 1), (84, .iconst 2, 1), (85, .invokevirtual 121, 3), (88, .istore_n 3, 1), (89, .aload_n 1, 1), (90, .invokestatic 164, 3), (93, .istore 4, 2), (95, .aload_n 1, 1), (96, .bipush 10, 2), (98, .invokevirtual 121, 3), (101, .istore 5, 2), (103, .aload_n 1, 1), (104, .bipush 12, 2), (106, .invokevirtual 121, 3), (109, .istore 6, 2), (111, .aload_n 1, 1), (112, .bipush 24, 2), (114, .invokevirtual 121, 3), (117, .istore 7, 2), (119, .aload_n 0, 1), (120, .bipush 41, 2), (122, .iconst 1, 1), (123, .bipush 20, 2), (125, .invokestatic 66, 3), (128, .istore 8, 2), (130, .aload_n 1, 1), (131, .iload 8, 2), (133, .bipush 6, 2), (135, .invokevirtual 168, 3), (138, .istore 9, 2), (140, .aload_n 1, 1), (141, .iload 8, 2), (143, .invokevirtual 171, 3), (146, .istore 10, 2), (148, .aload_n 1, 1), (149, .bipush 6, 2), (151, .invokevirtual 118, 3), (154, .istore 11, 2), (156, .aload_n 1, 1), (157, .iload 8, 2), (159, .invokevirtual 115, 3), (162, .istore 12, 2), (164, .aload_n 1, 1), (165, .invokestatic 164, 3), (168, .iload 4, 2), (170, .isub, 1), (171, .iload 12, 2), (173, .iadd, 1), (174, .aload_n 1, 1), (175, .bipush 12, 2), (177, .invokevirtual 121, 3), (180, .iload 6, 2), (182, .isub, 1), (183, .isub, 1), (184, .iload_n 3, 1), (185, .iload 8, 2), (187, .imul, 1), (188, .if_icmp .ne 42, 3), (191, .aload_n 1, 1), (192, .bipush 6, 2), (194, .invokevirtual 118, 3), (197, .iload 11, 2), (199, .isub, 1), (200, .iload 9, 2), (202, .if_icmp .ne 28, 3), (205, .aload_n 1, 1), (206, .bipush 18, 2), (208, .invokevirtual 121, 3), (211, .iload 10, 2), (213, .if_icmp .gt 17, 3), (216, .aload_n 1, 1), (217, .bipush 10, 2), (219, .invokevirtual 121, 3), (222, .iload 5, 2), (224, .iload 12, 2), (226, .iadd, 1), (227, .if_icmp .eq 5, 3), (230, .iconst 0, 1), (231, .ireturn, 1), (232, .aload_n 1, 1), (233, .iconst 5, 1), (234, .invokevirtual 174, 3), (237, .istore 13, 2), (239, .aload_n 1, 1), (240, .invokevirtual 177, 3), (243, .istore 14, 2), (245, .aload_n 1, 1), (246, .bipush 10, 2), (248, .invokevirtual 121, 3), (251, .iload 5, 2), (253, .if_icmp .ne 26, 3), (256, .aload_n 1, 1), (257, .invokestatic 164, 3), (260, .iload 4, 2), (262, .if_icmp .ne 17, 3), (265, .iload 7, 2), (267, .bipush 6, 2), (269, .if_icmp .ge 12, 3), (272, .iload 14, 2), (274, .iload 7, 2), (276, .if_icmp .eq 5, 3), (279, .iconst 0, 1), (280, .ireturn, 1), (281, .aload_n 1, 1), (282, .iload 8, 2), (284, .invokevirtual 115, 3), (287, .istore 15, 2), (289, .iload 15, 2), (291, .iload 12, 2), (293, .if_icmp .ne 50, 3), (296, .aload_n 1, 1), (297, .iconst 5, 1), (298, .invokevirtual 174, 3), (301, .iload 13, 2), (303, .if_icmp .ne 40, 3), (306, .iload 13, 2), (308, .ifCond .le 37, 3), (311, .aload_n 1, 1), (312, .iload 5, 2), (314, .iload 12, 2), (316, .iadd, 1), (317, .iconst 5, 1), (318, .iadd, 1), (319, .invokevirtual 112, 3), (322, .iload 13, 2), (324, .if_icmp .ne 19, 3), (327, .aload_n 1, 1), (328, .bipush 10, 2), (330, .invokevirtual 121, 3), (333, .iload 5, 2), (335, .iload 12, 2), (337, .iadd, 1), (338, .iconst 5, 1), (339, .iadd, 1), (340, .if_icmp .ge 5, 3), (343, .iconst 0, 1), (344, .ireturn, 1), (345, .aload_n 1, 1), (346, .bipush 9, 2), (348, .invokevirtual 121, 3), (351, .istore 16, 2), (353, .aload_n 1, 1), (354, .invokevirtual 180, 3), (357, .iload 16, 2), (359, .if_icmp .ne 40, 3), (362, .aload_n 1, 1), (363, .iconst 3, 1), (364, .invokevirtual 115, 3), (367, .ifCond .lt 32, 3), (370, .aload_n 1, 1), (371, .invokevirtual 183, 3), (374, .iload 16, 2), (376, .if_icmp .ne 23, 3), (379, .aload_n 1, 1), (380, .bipush 24, 2), (382, .invokevirtual 121, 3), (385, .ifCond .ne 14, 3), (388, .aload_n 1, 1), (389, .invokestatic 160, 3), (392, .ifCond .eq 7, 3), (395, .iconst 1, 1), (396, .goto 4, 3), (399, .iconst 0, 1), (400, .ireturn, 1)]
theorem tt_L_law : xdc code ttL_law_ = true := by decide +kernel
def f_law_b345  (n0 : Nat) (q0 : Nat → Int) (r1 : Nat) (S : xSt)  : Option (Int × xSt) :=
  bd2 (f_X11_count_p3_0 S r1 9) fun v72 S71 =>
  bd2 (f_X11_saveState_p3_0 S71 r1) fun v75 S74 =>
  if ¬ wr v75 = wr v72 then
    (some (0, S74))
  else
    (bd2 (f_X11_run_p3_0 S74 r1 3) fun v78 S77 =>
    if wr v78 < 0 then
      (some (0, S77))
    else
      (bd2 (f_X11_restoreState_p3_0 S77 r1) fun v81 S80 =>
      if ¬ wr v81 = wr v72 then
        (some (0, S80))
      else
        (bd2 (f_X11_count_p3_0 S80 r1 24) fun v84 S83 =>
        if ¬ wr v84 = 0 then
          (some (0, S83))
        else
          (bd2 (f_L_isSound_p3_0 S83 r1) fun v87 S86 =>
          if wr v87 = 0 then
            (some (0, S86))
          else
            (some (1, S86))))))
def f_law_b281  (n0 : Nat) (q0 : Nat → Int) (r1 : Nat) (S : xSt) (x5 : Int) (x8 : Int) (x12 : Int) (x13 : Int) : Option (Int × xSt) :=
  bd2 (f_X11_run_p3_0 S r1 x8) fun v66 S65 =>
  if ¬ wr v66 = wr x12 then
    (some (0, S65))
  else
    (bd2 (f_X11_cyclesTo_p3_0 S65 r1 5) fun v69 S68 =>
    if ¬ wr v69 = wr x13 then
      (some (0, S68))
    else
      (if wr x13 ≤ 0 then
        (f_law_b345 n0 q0 r1 S68 )
      else
        (bd2 (f_X11_runTo_p3_0 S68 r1 ((x5 + x12) + 5)) fun v96 S95 =>
        if ¬ wr v96 = wr x13 then
          (some (0, S95))
        else
          (bd2 (f_X11_count_p3_0 S95 r1 10) fun v99 S98 =>
          if wr ((x5 + x12) + 5) ≤ wr v99 then
            (f_law_b345 n0 q0 r1 S98 )
          else
            (some (0, S98))))))
def f_law_b42  (n0 : Nat) (q0 : Nat → Int) (r1 : Nat) : Nat → xSt → Int → Int → Option (Int × xSt)
  | 0, _, _, _ => none
  | fuel + 1, S, x2, x3 =>
    if wr x2 ≤ wr x3 then
      (bd2 (f_X11_count_p3_0 S r1 2) fun v9 S8 =>
      bd2 (f_L_allBubbles_p3_0 S8 r1) fun v12 S11 =>
      bd2 (f_X11_count_p3_0 S11 r1 10) fun v15 S14 =>
      bd2 (f_X11_count_p3_0 S14 r1 12) fun v18 S17 =>
      bd2 (f_X11_count_p3_0 S17 r1 24) fun v21 S20 =>
      bd2 (f_L_draw S20 n0 q0 41 1 20) fun v24 S23 =>
      bd2 (f_X11_bubblesIn_p3_0 S23 r1 v24 6) fun v27 S26 =>
      bd2 (f_X11_roomNeeded_p3_0 S26 r1 v24) fun v30 S29 =>
      bd2 (f_X11_bubbles_p3_0 S29 r1 6) fun v33 S32 =>
      bd2 (f_X11_run_p3_0 S32 r1 v24) fun v36 S35 =>
      bd2 (f_L_allBubbles_p3_0 S35 r1) fun v39 S38 =>
      bd2 (f_X11_count_p3_0 S38 r1 12) fun v42 S41 =>
      if ¬ wr (((v39 - v12) + v36) - (v42 - v18)) = wr (v9 * v24) then
        (some (0, S41))
      else
        (bd2 (f_X11_bubbles_p3_0 S41 r1 6) fun v45 S44 =>
        if ¬ wr (v45 - v33) = wr v27 then
          (some (0, S44))
        else
          (bd2 (f_X11_count_p3_0 S44 r1 18) fun v48 S47 =>
          if wr v30 < wr v48 then
            (some (0, S47))
          else
            (bd2 (f_X11_count_p3_0 S47 r1 10) fun v51 S50 =>
            if wr v51 = wr (v15 + v36) then
              (bd2 (f_X11_cyclesTo_p3_0 S50 r1 5) fun v54 S53 =>
              bd2 (f_X11_undo_p3_0 S53 r1) fun v57 S56 =>
              bd2 (f_X11_count_p3_0 S56 r1 10) fun v60 S59 =>
              if ¬ wr v60 = wr v15 then
                (some (0, S59))
              else
                (bd2 (f_L_allBubbles_p3_0 S59 r1) fun v63 S62 =>
                if ¬ wr v63 = wr v12 then
                  (some (0, S62))
                else
                  (if wr 6 ≤ wr v21 then
                    (f_law_b281 n0 q0 r1 S62 v15 v24 v36 v54)
                  else
                    (if wr v57 = wr v21 then
                      (f_law_b281 n0 q0 r1 S62 v15 v24 v36 v54)
                    else
                      (some (0, S62))))))
            else
              (some (0, S50))))))
    else
      (bd (f_L_act_p3_0 S r1 n0 q0 (x3 + 14)) fun S114 =>
      bd2 (f_X11_count_p3_0 S114 r1 10) fun v117 S116 =>
      if wr 9999 < wr v117 then
        (some (0, S116))
      else
        (bd2 (f_L_isSound_p3_0 S116 r1) fun v120 S119 =>
        if ¬ wr v120 = 0 then
          ((f_law_b42 n0 q0 r1 fuel) S119 x2 (x3 + 1))
        else
          (some (0, S119))))
def f_law (S : xSt) (n0 : Nat) (q0 : Nat → Int) (r1 : Nat) (x0 : Int) : Option (Int × xSt) :=
  bd2 (f_L_draw S n0 q0 8 1 12) fun v3 S2 =>
  if wr x0 = wr v3 then
    (bd2 (f_L_draw S2 n0 q0 40 2 12) fun v6 S5 =>
    f_law_b42 n0 q0 r1 (fu S5) S5 v6 0)
  else
    (some (0, S2))
set_option maxRecDepth 100000 in
set_option maxHeartbeats 4000000 in
theorem k_law_b345 {K : xCtx} {E : xE} {B : Nat} {Ψ : xPsi} {cl sl : Nat} (hC : xOK K code RL 17 room_1) (hΨ : (∀ a, xA E a → B ≤ a) ∧ xKeep E Ψ) (hz : cl ≤ room_1.cells ∧ sl ≤ room_1.slots) {v : Int} {S' : xSt} (hv : v = 1) (hE : lawE K E B Ψ cl sl) {n0 : Nat} {q0 : Nat → Int} {r1 : Nat}  (hq0 : xsL E = n0 ∧ xsc E = q0) (hk1 : xkd E r1 = 3) (hA1 : xFam E r1)  : ∀ (S : xSt) , f_law_b345  n0 q0 r1 S  = some (v, S') → WB B Ψ cl sl K E 345 [(1, vr E r1 0)] [] S := by
  intro S  h
  unfold f_law_b345 at h
  refine b_aload_n hC rfl 0 rfl (rfl : 345 + 1 = 346) (xdt tt_L_law 182 rfl) ?_
  refine b_bipush hC (by decide) (rfl : 346 + 2 = 348) (xdt tt_L_law 183 rfl) ?_
  obtain ⟨v72, S71, hc70, h⟩ := bd2_i h
  refine b_callVi hC hΨ hz hk1 kclX11 ly3_0 m_X11_count q837 ⟨Nat.le_of_ble_eq_true rfl, Nat.le_of_ble_eq_true rfl⟩ [vi 9] rfl (fun l => c_X11_count_p3_0 l hk1 hA1 hc70) rfl (Nat.le_of_ble_eq_true rfl) (rfl : 348 + 3 = 351) (xdt tt_L_law 184 rfl) ?_
  refine b_istore hC (by decide) (lv' := [(16, vi v72), (1, vr E r1 0)]) rfl (rfl : 351 + 2 = 353) (xdt tt_L_law 185 rfl) ?_
  refine b_aload_n hC rfl 1 rfl (rfl : 353 + 1 = 354) (xdt tt_L_law 186 rfl) ?_
  obtain ⟨v75, S74, hc73, h⟩ := bd2_i h
  refine b_callVi hC hΨ hz hk1 kclX11 ly3_0 m_X11_saveState q945 ⟨Nat.le_of_ble_eq_true rfl, Nat.le_of_ble_eq_true rfl⟩ [] rfl (fun l => c_X11_saveState_p3_0 l hk1 hA1 hc73) rfl (Nat.le_of_ble_eq_true rfl) (rfl : 354 + 3 = 357) (xdt tt_L_law 187 rfl) ?_
  refine b_iload hC 0 rfl (rfl : 357 + 2 = 359) (xdt tt_L_law 188 rfl) ?_
  refine b_icmp_ne hC (show ((359 : Nat) : Int) + 40 = ((399 : Nat) : Int) by decide) (rfl : 359 + 3 = 362) (xdt tt_L_law 189 rfl) (fun hc93 => ?_) (fun hc93 => ?_)
  · replace h := (if_pos hc93).symm.trans h
    refine b_iconst hC (rfl : 399 + 1 = 400) (xdt tt_L_law 207 rfl) ?_
    cases h
    exact l_zret hv hE (xdt tt_L_law 208 rfl)
  · replace h := (if_neg hc93).symm.trans h
    refine b_aload_n hC rfl 1 rfl (rfl : 362 + 1 = 363) (xdt tt_L_law 190 rfl) ?_
    refine b_iconst hC (rfl : 363 + 1 = 364) (xdt tt_L_law 191 rfl) ?_
    obtain ⟨v78, S77, hc76, h⟩ := bd2_i h
    refine b_callVi hC hΨ hz hk1 kclX11 ly3_0 m_X11_run q828 ⟨Nat.le_of_ble_eq_true rfl, Nat.le_of_ble_eq_true rfl⟩ [vi 3] rfl (fun l => c_X11_run_p3_0 l hk1 hA1 hc76) rfl (Nat.le_of_ble_eq_true rfl) (rfl : 364 + 3 = 367) (xdt tt_L_law 192 rfl) ?_
    refine b_if_lt hC (show ((367 : Nat) : Int) + 32 = ((399 : Nat) : Int) by decide) (rfl : 367 + 3 = 370) (xdt tt_L_law 193 rfl) (fun hc92 => ?_) (fun hc92 => ?_)
    · replace h := (if_pos hc92).symm.trans h
      refine b_iconst hC (rfl : 399 + 1 = 400) (xdt tt_L_law 207 rfl) ?_
      cases h
      exact l_zret hv hE (xdt tt_L_law 208 rfl)
    · replace h := (if_neg hc92).symm.trans h
      refine b_aload_n hC rfl 1 rfl (rfl : 370 + 1 = 371) (xdt tt_L_law 194 rfl) ?_
      obtain ⟨v81, S80, hc79, h⟩ := bd2_i h
      refine b_callVi hC hΨ hz hk1 kclX11 ly3_0 m_X11_restoreState q949 ⟨Nat.le_of_ble_eq_true rfl, Nat.le_of_ble_eq_true rfl⟩ [] rfl (fun l => c_X11_restoreState_p3_0 l hk1 hA1 hc79) rfl (Nat.le_of_ble_eq_true rfl) (rfl : 371 + 3 = 374) (xdt tt_L_law 195 rfl) ?_
      refine b_iload hC 0 rfl (rfl : 374 + 2 = 376) (xdt tt_L_law 196 rfl) ?_
      refine b_icmp_ne hC (show ((376 : Nat) : Int) + 23 = ((399 : Nat) : Int) by decide) (rfl : 376 + 3 = 379) (xdt tt_L_law 197 rfl) (fun hc91 => ?_) (fun hc91 => ?_)
      · replace h := (if_pos hc91).symm.trans h
        refine b_iconst hC (rfl : 399 + 1 = 400) (xdt tt_L_law 207 rfl) ?_
        cases h
        exact l_zret hv hE (xdt tt_L_law 208 rfl)
      · replace h := (if_neg hc91).symm.trans h
        refine b_aload_n hC rfl 1 rfl (rfl : 379 + 1 = 380) (xdt tt_L_law 198 rfl) ?_
        refine b_bipush hC (by decide) (rfl : 380 + 2 = 382) (xdt tt_L_law 199 rfl) ?_
        obtain ⟨v84, S83, hc82, h⟩ := bd2_i h
        refine b_callVi hC hΨ hz hk1 kclX11 ly3_0 m_X11_count q837 ⟨Nat.le_of_ble_eq_true rfl, Nat.le_of_ble_eq_true rfl⟩ [vi 24] rfl (fun l => c_X11_count_p3_0 l hk1 hA1 hc82) rfl (Nat.le_of_ble_eq_true rfl) (rfl : 382 + 3 = 385) (xdt tt_L_law 200 rfl) ?_
        refine b_if_ne hC (show ((385 : Nat) : Int) + 14 = ((399 : Nat) : Int) by decide) (rfl : 385 + 3 = 388) (xdt tt_L_law 201 rfl) (fun hc90 => ?_) (fun hc90 => ?_)
        · replace h := (if_pos hc90).symm.trans h
          refine b_iconst hC (rfl : 399 + 1 = 400) (xdt tt_L_law 207 rfl) ?_
          cases h
          exact l_zret hv hE (xdt tt_L_law 208 rfl)
        · replace h := (if_neg hc90).symm.trans h
          refine b_aload_n hC rfl 1 rfl (rfl : 388 + 1 = 389) (xdt tt_L_law 202 rfl) ?_
          obtain ⟨v87, S86, hc85, h⟩ := bd2_i h
          refine b_callSz hC hΨ hz m_L_isSound q855 ⟨Nat.le_of_ble_eq_true rfl, Nat.le_of_ble_eq_true rfl⟩ [vr E r1 0] rfl (fun l => c_L_isSound_p3_0 l hk1 hA1 hc85) rfl (Nat.le_of_ble_eq_true rfl) (rfl : 389 + 3 = 392) (xdt tt_L_law 203 rfl) (fun hb88 => ?_)
          refine b_if_eq hC (show ((392 : Nat) : Int) + 7 = ((399 : Nat) : Int) by decide) (rfl : 392 + 3 = 395) (xdt tt_L_law 204 rfl) (fun hc89 => ?_) (fun hc89 => ?_)
          · replace h := (if_pos hc89).symm.trans h
            refine b_iconst hC (rfl : 399 + 1 = 400) (xdt tt_L_law 207 rfl) ?_
            cases h
            exact l_zret hv hE (xdt tt_L_law 208 rfl)
          · replace h := (if_neg hc89).symm.trans h
            refine b_iconst hC (rfl : 395 + 1 = 396) (xdt tt_L_law 205 rfl) ?_
            refine b_goto hC (show ((396 : Nat) : Int) + 4 = ((400 : Nat) : Int) by decide) (xdt tt_L_law 206 rfl) ?_
            cases h
            exact l_zret hv hE (xdt tt_L_law 208 rfl)
set_option maxRecDepth 100000 in
set_option maxHeartbeats 4000000 in
theorem k_law_b281 {K : xCtx} {E : xE} {B : Nat} {Ψ : xPsi} {cl sl : Nat} (hC : xOK K code RL 17 room_1) (hΨ : (∀ a, xA E a → B ≤ a) ∧ xKeep E Ψ) (hz : cl ≤ room_1.cells ∧ sl ≤ room_1.slots) {v : Int} {S' : xSt} (hv : v = 1) (hE : lawE K E B Ψ cl sl) {n0 : Nat} {q0 : Nat → Int} {r1 : Nat}  (hq0 : xsL E = n0 ∧ xsc E = q0) (hk1 : xkd E r1 = 3) (hA1 : xFam E r1)  : ∀ (S : xSt) (x5 : Int) (x8 : Int) (x12 : Int) (x13 : Int), f_law_b281  n0 q0 r1 S x5 x8 x12 x13 = some (v, S') → WB B Ψ cl sl K E 281 [(1, vr E r1 0), (5, vi x5), (8, vi x8), (12, vi x12), (13, vi x13)] [] S := by
  intro S x5 x8 x12 x13 h
  unfold f_law_b281 at h
  refine b_aload_n hC rfl 0 rfl (rfl : 281 + 1 = 282) (xdt tt_L_law 148 rfl) ?_
  refine b_iload hC 2 rfl (rfl : 282 + 2 = 284) (xdt tt_L_law 149 rfl) ?_
  obtain ⟨v66, S65, hc64, h⟩ := bd2_i h
  refine b_callVi hC hΨ hz hk1 kclX11 ly3_0 m_X11_run q828 ⟨Nat.le_of_ble_eq_true rfl, Nat.le_of_ble_eq_true rfl⟩ [vi x8] rfl (fun l => c_X11_run_p3_0 l hk1 hA1 hc64) rfl (Nat.le_of_ble_eq_true rfl) (rfl : 284 + 3 = 287) (xdt tt_L_law 150 rfl) ?_
  refine b_istore hC (by decide) (lv' := [(15, vi v66), (1, vr E r1 0), (5, vi x5), (8, vi x8), (12, vi x12), (13, vi x13)]) rfl (rfl : 287 + 2 = 289) (xdt tt_L_law 151 rfl) ?_
  refine b_iload hC 0 rfl (rfl : 289 + 2 = 291) (xdt tt_L_law 152 rfl) ?_
  refine b_iload hC 4 rfl (rfl : 291 + 2 = 293) (xdt tt_L_law 153 rfl) ?_
  refine b_icmp_ne hC (show ((293 : Nat) : Int) + 50 = ((343 : Nat) : Int) by decide) (rfl : 293 + 3 = 296) (xdt tt_L_law 154 rfl) (fun hc104 => ?_) (fun hc104 => ?_)
  · replace h := (if_pos hc104).symm.trans h
    refine b_iconst hC (rfl : 343 + 1 = 344) (xdt tt_L_law 180 rfl) ?_
    cases h
    exact l_zret hv hE (xdt tt_L_law 181 rfl)
  · replace h := (if_neg hc104).symm.trans h
    refine b_aload_n hC rfl 1 rfl (rfl : 296 + 1 = 297) (xdt tt_L_law 155 rfl) ?_
    refine b_iconst hC (rfl : 297 + 1 = 298) (xdt tt_L_law 156 rfl) ?_
    obtain ⟨v69, S68, hc67, h⟩ := bd2_i h
    refine b_callVi hC hΨ hz hk1 kclX11 ly3_0 m_X11_cyclesTo q931 ⟨Nat.le_of_ble_eq_true rfl, Nat.le_of_ble_eq_true rfl⟩ [vi 5] rfl (fun l => c_X11_cyclesTo_p3_0 l hk1 hA1 hc67) rfl (Nat.le_of_ble_eq_true rfl) (rfl : 298 + 3 = 301) (xdt tt_L_law 157 rfl) ?_
    refine b_iload hC 5 rfl (rfl : 301 + 2 = 303) (xdt tt_L_law 158 rfl) ?_
    refine b_icmp_ne hC (show ((303 : Nat) : Int) + 40 = ((343 : Nat) : Int) by decide) (rfl : 303 + 3 = 306) (xdt tt_L_law 159 rfl) (fun hc103 => ?_) (fun hc103 => ?_)
    · replace h := (if_pos hc103).symm.trans h
      refine b_iconst hC (rfl : 343 + 1 = 344) (xdt tt_L_law 180 rfl) ?_
      cases h
      exact l_zret hv hE (xdt tt_L_law 181 rfl)
    · replace h := (if_neg hc103).symm.trans h
      refine b_iload hC 5 rfl (rfl : 306 + 2 = 308) (xdt tt_L_law 160 rfl) ?_
      refine b_if_le hC (show ((308 : Nat) : Int) + 37 = ((345 : Nat) : Int) by decide) (rfl : 308 + 3 = 311) (xdt tt_L_law 161 rfl) (fun hc102 => ?_) (fun hc102 => ?_)
      · replace h := (if_pos hc102).symm.trans h
        refine b_sub [1] (lv' := [(1, vr E r1 0)]) rfl ?_
        exact k_law_b345 hC hΨ hz hv hE hq0 hk1 hA1 _ h
      · replace h := (if_neg hc102).symm.trans h
        refine b_aload_n hC rfl 1 rfl (rfl : 311 + 1 = 312) (xdt tt_L_law 162 rfl) ?_
        refine b_iload hC 2 rfl (rfl : 312 + 2 = 314) (xdt tt_L_law 163 rfl) ?_
        refine b_iload hC 4 rfl (rfl : 314 + 2 = 316) (xdt tt_L_law 164 rfl) ?_
        refine b_iadd hC (rfl : 316 + 1 = 317) (xdt tt_L_law 165 rfl) ?_
        refine b_iconst hC (rfl : 317 + 1 = 318) (xdt tt_L_law 166 rfl) ?_
        refine b_iadd hC (rfl : 318 + 1 = 319) (xdt tt_L_law 167 rfl) ?_
        obtain ⟨v96, S95, hc94, h⟩ := bd2_i h
        refine b_callVi hC hΨ hz hk1 kclX11 ly3_0 m_X11_runTo q679 ⟨Nat.le_of_ble_eq_true rfl, Nat.le_of_ble_eq_true rfl⟩ [vi ((x5 + x12) + 5)] rfl (fun l => c_X11_runTo_p3_0 l hk1 hA1 hc94) rfl (Nat.le_of_ble_eq_true rfl) (rfl : 319 + 3 = 322) (xdt tt_L_law 168 rfl) ?_
        refine b_iload hC 5 rfl (rfl : 322 + 2 = 324) (xdt tt_L_law 169 rfl) ?_
        refine b_icmp_ne hC (show ((324 : Nat) : Int) + 19 = ((343 : Nat) : Int) by decide) (rfl : 324 + 3 = 327) (xdt tt_L_law 170 rfl) (fun hc101 => ?_) (fun hc101 => ?_)
        · replace h := (if_pos hc101).symm.trans h
          refine b_iconst hC (rfl : 343 + 1 = 344) (xdt tt_L_law 180 rfl) ?_
          cases h
          exact l_zret hv hE (xdt tt_L_law 181 rfl)
        · replace h := (if_neg hc101).symm.trans h
          refine b_aload_n hC rfl 1 rfl (rfl : 327 + 1 = 328) (xdt tt_L_law 171 rfl) ?_
          refine b_bipush hC (by decide) (rfl : 328 + 2 = 330) (xdt tt_L_law 172 rfl) ?_
          obtain ⟨v99, S98, hc97, h⟩ := bd2_i h
          refine b_callVi hC hΨ hz hk1 kclX11 ly3_0 m_X11_count q837 ⟨Nat.le_of_ble_eq_true rfl, Nat.le_of_ble_eq_true rfl⟩ [vi 10] rfl (fun l => c_X11_count_p3_0 l hk1 hA1 hc97) rfl (Nat.le_of_ble_eq_true rfl) (rfl : 330 + 3 = 333) (xdt tt_L_law 173 rfl) ?_
          refine b_iload hC 2 rfl (rfl : 333 + 2 = 335) (xdt tt_L_law 174 rfl) ?_
          refine b_iload hC 4 rfl (rfl : 335 + 2 = 337) (xdt tt_L_law 175 rfl) ?_
          refine b_iadd hC (rfl : 337 + 1 = 338) (xdt tt_L_law 176 rfl) ?_
          refine b_iconst hC (rfl : 338 + 1 = 339) (xdt tt_L_law 177 rfl) ?_
          refine b_iadd hC (rfl : 339 + 1 = 340) (xdt tt_L_law 178 rfl) ?_
          refine b_icmp_ge hC (show ((340 : Nat) : Int) + 5 = ((345 : Nat) : Int) by decide) (rfl : 340 + 3 = 343) (xdt tt_L_law 179 rfl) (fun hc100 => ?_) (fun hc100 => ?_)
          · replace h := (if_pos hc100).symm.trans h
            refine b_sub [1] (lv' := [(1, vr E r1 0)]) rfl ?_
            exact k_law_b345 hC hΨ hz hv hE hq0 hk1 hA1 _ h
          · replace h := (if_neg hc100).symm.trans h
            refine b_iconst hC (rfl : 343 + 1 = 344) (xdt tt_L_law 180 rfl) ?_
            cases h
            exact l_zret hv hE (xdt tt_L_law 181 rfl)
set_option maxRecDepth 100000 in
set_option maxHeartbeats 4000000 in
theorem k_law_b42 {K : xCtx} {E : xE} {B : Nat} {Ψ : xPsi} {cl sl : Nat} (hC : xOK K code RL 17 room_1) (hΨ : (∀ a, xA E a → B ≤ a) ∧ xKeep E Ψ) (hz : cl ≤ room_1.cells ∧ sl ≤ room_1.slots) {v : Int} {S' : xSt} (hv : v = 1) (hE : lawE K E B Ψ cl sl) {n0 : Nat} {q0 : Nat → Int} {r1 : Nat}  (hq0 : xsL E = n0 ∧ xsc E = q0) (hk1 : xkd E r1 = 3) (hA1 : xFam E r1)  : ∀ (fuel : Nat) (S : xSt) (x2 : Int) (x3 : Int), f_law_b42  n0 q0 r1 fuel S x2 x3 = some (v, S') → WB B Ψ cl sl K E 42 [(0, .ref (xsb E)), (1, vr E r1 0), (2, vi x2), (3, vi x3)] [] S := by
  intro fuel
  induction fuel with
  | zero => intro S x2 x3 h; cases h
  | succ fuel ih =>
    intro S x2 x3 h
    rw [f_law_b42] at h
    refine b_iload_n hC rfl 3 rfl (rfl : 42 + 1 = 43) (xdt tt_L_law 24 rfl) ?_
    refine b_iload_n hC rfl 2 rfl (rfl : 43 + 1 = 44) (xdt tt_L_law 25 rfl) ?_
    refine b_icmp_ge hC (show ((44 : Nat) : Int) + 39 = ((83 : Nat) : Int) by decide) (rfl : 44 + 3 = 47) (xdt tt_L_law 26 rfl) (fun hc124 => ?_) (fun hc124 => ?_)
    · replace h := (if_pos hc124).symm.trans h
      refine b_aload_n hC rfl 1 rfl (rfl : 83 + 1 = 84) (xdt tt_L_law 45 rfl) ?_
      refine b_iconst hC (rfl : 84 + 1 = 85) (xdt tt_L_law 46 rfl) ?_
      obtain ⟨v9, S8, hc7, h⟩ := bd2_i h
      refine b_callVi hC hΨ hz hk1 kclX11 ly3_0 m_X11_count q837 ⟨Nat.le_of_ble_eq_true rfl, Nat.le_of_ble_eq_true rfl⟩ [vi 2] rfl (fun l => c_X11_count_p3_0 l hk1 hA1 hc7) rfl (Nat.le_of_ble_eq_true rfl) (rfl : 85 + 3 = 88) (xdt tt_L_law 47 rfl) ?_
      refine b_istore_n hC rfl (by decide) (lv' := [(3, vi v9), (0, .ref (xsb E)), (1, vr E r1 0), (2, vi x2)]) rfl (rfl : 88 + 1 = 89) (xdt tt_L_law 48 rfl) ?_
      refine b_aload_n hC rfl 2 rfl (rfl : 89 + 1 = 90) (xdt tt_L_law 49 rfl) ?_
      obtain ⟨v12, S11, hc10, h⟩ := bd2_i h
      refine b_callSi hC hΨ hz m_L_allBubbles q913 ⟨Nat.le_of_ble_eq_true rfl, Nat.le_of_ble_eq_true rfl⟩ [vr E r1 0] rfl (fun l => c_L_allBubbles_p3_0 l hk1 hA1 hc10) rfl (Nat.le_of_ble_eq_true rfl) (rfl : 90 + 3 = 93) (xdt tt_L_law 50 rfl) ?_
      refine b_istore hC (by decide) (lv' := [(4, vi v12), (3, vi v9), (0, .ref (xsb E)), (1, vr E r1 0), (2, vi x2)]) rfl (rfl : 93 + 2 = 95) (xdt tt_L_law 51 rfl) ?_
      refine b_aload_n hC rfl 3 rfl (rfl : 95 + 1 = 96) (xdt tt_L_law 52 rfl) ?_
      refine b_bipush hC (by decide) (rfl : 96 + 2 = 98) (xdt tt_L_law 53 rfl) ?_
      obtain ⟨v15, S14, hc13, h⟩ := bd2_i h
      refine b_callVi hC hΨ hz hk1 kclX11 ly3_0 m_X11_count q837 ⟨Nat.le_of_ble_eq_true rfl, Nat.le_of_ble_eq_true rfl⟩ [vi 10] rfl (fun l => c_X11_count_p3_0 l hk1 hA1 hc13) rfl (Nat.le_of_ble_eq_true rfl) (rfl : 98 + 3 = 101) (xdt tt_L_law 54 rfl) ?_
      refine b_istore hC (by decide) (lv' := [(5, vi v15), (4, vi v12), (3, vi v9), (0, .ref (xsb E)), (1, vr E r1 0), (2, vi x2)]) rfl (rfl : 101 + 2 = 103) (xdt tt_L_law 55 rfl) ?_
      refine b_aload_n hC rfl 4 rfl (rfl : 103 + 1 = 104) (xdt tt_L_law 56 rfl) ?_
      refine b_bipush hC (by decide) (rfl : 104 + 2 = 106) (xdt tt_L_law 57 rfl) ?_
      obtain ⟨v18, S17, hc16, h⟩ := bd2_i h
      refine b_callVi hC hΨ hz hk1 kclX11 ly3_0 m_X11_count q837 ⟨Nat.le_of_ble_eq_true rfl, Nat.le_of_ble_eq_true rfl⟩ [vi 12] rfl (fun l => c_X11_count_p3_0 l hk1 hA1 hc16) rfl (Nat.le_of_ble_eq_true rfl) (rfl : 106 + 3 = 109) (xdt tt_L_law 58 rfl) ?_
      refine b_istore hC (by decide) (lv' := [(6, vi v18), (5, vi v15), (4, vi v12), (3, vi v9), (0, .ref (xsb E)), (1, vr E r1 0), (2, vi x2)]) rfl (rfl : 109 + 2 = 111) (xdt tt_L_law 59 rfl) ?_
      refine b_aload_n hC rfl 5 rfl (rfl : 111 + 1 = 112) (xdt tt_L_law 60 rfl) ?_
      refine b_bipush hC (by decide) (rfl : 112 + 2 = 114) (xdt tt_L_law 61 rfl) ?_
      obtain ⟨v21, S20, hc19, h⟩ := bd2_i h
      refine b_callVi hC hΨ hz hk1 kclX11 ly3_0 m_X11_count q837 ⟨Nat.le_of_ble_eq_true rfl, Nat.le_of_ble_eq_true rfl⟩ [vi 24] rfl (fun l => c_X11_count_p3_0 l hk1 hA1 hc19) rfl (Nat.le_of_ble_eq_true rfl) (rfl : 114 + 3 = 117) (xdt tt_L_law 62 rfl) ?_
      refine b_istore hC (by decide) (lv' := [(7, vi v21), (6, vi v18), (5, vi v15), (4, vi v12), (3, vi v9), (0, .ref (xsb E)), (1, vr E r1 0), (2, vi x2)]) rfl (rfl : 117 + 2 = 119) (xdt tt_L_law 63 rfl) ?_
      refine b_aload_n hC rfl 5 rfl (rfl : 119 + 1 = 120) (xdt tt_L_law 64 rfl) ?_
      refine b_bipush hC (by decide) (rfl : 120 + 2 = 122) (xdt tt_L_law 65 rfl) ?_
      refine b_iconst hC (rfl : 122 + 1 = 123) (xdt tt_L_law 66 rfl) ?_
      refine b_bipush hC (by decide) (rfl : 123 + 2 = 125) (xdt tt_L_law 67 rfl) ?_
      obtain ⟨v24, S23, hc22, h⟩ := bd2_i h
      refine b_callSi hC hΨ hz m_L_draw q337 ⟨Nat.le_of_ble_eq_true rfl, Nat.le_of_ble_eq_true rfl⟩ [.ref (xsb E), vi 41, vi 1, vi 20] rfl (fun l => c_L_draw l hq0 hc22) rfl (Nat.le_of_ble_eq_true rfl) (rfl : 125 + 3 = 128) (xdt tt_L_law 68 rfl) ?_
      refine b_istore hC (by decide) (lv' := [(8, vi v24), (7, vi v21), (6, vi v18), (5, vi v15), (4, vi v12), (3, vi v9), (0, .ref (xsb E)), (1, vr E r1 0), (2, vi x2)]) rfl (rfl : 128 + 2 = 130) (xdt tt_L_law 69 rfl) ?_
      refine b_aload_n hC rfl 7 rfl (rfl : 130 + 1 = 131) (xdt tt_L_law 70 rfl) ?_
      refine b_iload hC 0 rfl (rfl : 131 + 2 = 133) (xdt tt_L_law 71 rfl) ?_
      refine b_bipush hC (by decide) (rfl : 133 + 2 = 135) (xdt tt_L_law 72 rfl) ?_
      obtain ⟨v27, S26, hc25, h⟩ := bd2_i h
      refine b_callVi hC hΨ hz hk1 kclX11 ly3_0 m_X11_bubblesIn q921 ⟨Nat.le_of_ble_eq_true rfl, Nat.le_of_ble_eq_true rfl⟩ [vi v24, vi 6] rfl (fun l => c_X11_bubblesIn_p3_0 l hk1 hA1 hc25) rfl (Nat.le_of_ble_eq_true rfl) (rfl : 135 + 3 = 138) (xdt tt_L_law 73 rfl) ?_
      refine b_istore hC (by decide) (lv' := [(9, vi v27), (8, vi v24), (7, vi v21), (6, vi v18), (5, vi v15), (4, vi v12), (3, vi v9), (0, .ref (xsb E)), (1, vr E r1 0), (2, vi x2)]) rfl (rfl : 138 + 2 = 140) (xdt tt_L_law 74 rfl) ?_
      refine b_aload_n hC rfl 8 rfl (rfl : 140 + 1 = 141) (xdt tt_L_law 75 rfl) ?_
      refine b_iload hC 1 rfl (rfl : 141 + 2 = 143) (xdt tt_L_law 76 rfl) ?_
      obtain ⟨v30, S29, hc28, h⟩ := bd2_i h
      refine b_callVi hC hΨ hz hk1 kclX11 ly3_0 m_X11_roomNeeded q926 ⟨Nat.le_of_ble_eq_true rfl, Nat.le_of_ble_eq_true rfl⟩ [vi v24] rfl (fun l => c_X11_roomNeeded_p3_0 l hk1 hA1 hc28) rfl (Nat.le_of_ble_eq_true rfl) (rfl : 143 + 3 = 146) (xdt tt_L_law 77 rfl) ?_
      refine b_istore hC (by decide) (lv' := [(10, vi v30), (9, vi v27), (8, vi v24), (7, vi v21), (6, vi v18), (5, vi v15), (4, vi v12), (3, vi v9), (0, .ref (xsb E)), (1, vr E r1 0), (2, vi x2)]) rfl (rfl : 146 + 2 = 148) (xdt tt_L_law 78 rfl) ?_
      refine b_aload_n hC rfl 9 rfl (rfl : 148 + 1 = 149) (xdt tt_L_law 79 rfl) ?_
      refine b_bipush hC (by decide) (rfl : 149 + 2 = 151) (xdt tt_L_law 80 rfl) ?_
      obtain ⟨v33, S32, hc31, h⟩ := bd2_i h
      refine b_callVi hC hΨ hz hk1 kclX11 ly3_0 m_X11_bubbles q916 ⟨Nat.le_of_ble_eq_true rfl, Nat.le_of_ble_eq_true rfl⟩ [vi 6] rfl (fun l => c_X11_bubbles_p3_0 l hk1 hA1 hc31) rfl (Nat.le_of_ble_eq_true rfl) (rfl : 151 + 3 = 154) (xdt tt_L_law 81 rfl) ?_
      refine b_istore hC (by decide) (lv' := [(11, vi v33), (10, vi v30), (9, vi v27), (8, vi v24), (7, vi v21), (6, vi v18), (5, vi v15), (4, vi v12), (3, vi v9), (0, .ref (xsb E)), (1, vr E r1 0), (2, vi x2)]) rfl (rfl : 154 + 2 = 156) (xdt tt_L_law 82 rfl) ?_
      refine b_aload_n hC rfl 10 rfl (rfl : 156 + 1 = 157) (xdt tt_L_law 83 rfl) ?_
      refine b_iload hC 3 rfl (rfl : 157 + 2 = 159) (xdt tt_L_law 84 rfl) ?_
      obtain ⟨v36, S35, hc34, h⟩ := bd2_i h
      refine b_callVi hC hΨ hz hk1 kclX11 ly3_0 m_X11_run q828 ⟨Nat.le_of_ble_eq_true rfl, Nat.le_of_ble_eq_true rfl⟩ [vi v24] rfl (fun l => c_X11_run_p3_0 l hk1 hA1 hc34) rfl (Nat.le_of_ble_eq_true rfl) (rfl : 159 + 3 = 162) (xdt tt_L_law 85 rfl) ?_
      refine b_istore hC (by decide) (lv' := [(12, vi v36), (11, vi v33), (10, vi v30), (9, vi v27), (8, vi v24), (7, vi v21), (6, vi v18), (5, vi v15), (4, vi v12), (3, vi v9), (0, .ref (xsb E)), (1, vr E r1 0), (2, vi x2)]) rfl (rfl : 162 + 2 = 164) (xdt tt_L_law 86 rfl) ?_
      refine b_aload_n hC rfl 11 rfl (rfl : 164 + 1 = 165) (xdt tt_L_law 87 rfl) ?_
      obtain ⟨v39, S38, hc37, h⟩ := bd2_i h
      refine b_callSi hC hΨ hz m_L_allBubbles q913 ⟨Nat.le_of_ble_eq_true rfl, Nat.le_of_ble_eq_true rfl⟩ [vr E r1 0] rfl (fun l => c_L_allBubbles_p3_0 l hk1 hA1 hc37) rfl (Nat.le_of_ble_eq_true rfl) (rfl : 165 + 3 = 168) (xdt tt_L_law 88 rfl) ?_
      refine b_iload hC 8 rfl (rfl : 168 + 2 = 170) (xdt tt_L_law 89 rfl) ?_
      refine b_isub hC (rfl : 170 + 1 = 171) (xdt tt_L_law 90 rfl) ?_
      refine b_iload hC 0 rfl (rfl : 171 + 2 = 173) (xdt tt_L_law 91 rfl) ?_
      refine b_iadd hC (rfl : 173 + 1 = 174) (xdt tt_L_law 92 rfl) ?_
      refine b_aload_n hC rfl 11 rfl (rfl : 174 + 1 = 175) (xdt tt_L_law 93 rfl) ?_
      refine b_bipush hC (by decide) (rfl : 175 + 2 = 177) (xdt tt_L_law 94 rfl) ?_
      obtain ⟨v42, S41, hc40, h⟩ := bd2_i h
      refine b_callVi hC hΨ hz hk1 kclX11 ly3_0 m_X11_count q837 ⟨Nat.le_of_ble_eq_true rfl, Nat.le_of_ble_eq_true rfl⟩ [vi 12] rfl (fun l => c_X11_count_p3_0 l hk1 hA1 hc40) rfl (Nat.le_of_ble_eq_true rfl) (rfl : 177 + 3 = 180) (xdt tt_L_law 95 rfl) ?_
      refine b_iload hC 6 rfl (rfl : 180 + 2 = 182) (xdt tt_L_law 96 rfl) ?_
      refine b_isub hC (rfl : 182 + 1 = 183) (xdt tt_L_law 97 rfl) ?_
      refine b_isub hC (rfl : 183 + 1 = 184) (xdt tt_L_law 98 rfl) ?_
      refine b_iload_n hC rfl 9 rfl (rfl : 184 + 1 = 185) (xdt tt_L_law 99 rfl) ?_
      refine b_iload hC 4 rfl (rfl : 185 + 2 = 187) (xdt tt_L_law 100 rfl) ?_
      refine b_imul hC (rfl : 187 + 1 = 188) (xdt tt_L_law 101 rfl) ?_
      refine b_icmp_ne hC (show ((188 : Nat) : Int) + 42 = ((230 : Nat) : Int) by decide) (rfl : 188 + 3 = 191) (xdt tt_L_law 102 rfl) (fun hc112 => ?_) (fun hc112 => ?_)
      · replace h := (if_pos hc112).symm.trans h
        refine b_iconst hC (rfl : 230 + 1 = 231) (xdt tt_L_law 122 rfl) ?_
        cases h
        exact l_zret hv hE (xdt tt_L_law 123 rfl)
      · replace h := (if_neg hc112).symm.trans h
        refine b_aload_n hC rfl 11 rfl (rfl : 191 + 1 = 192) (xdt tt_L_law 103 rfl) ?_
        refine b_bipush hC (by decide) (rfl : 192 + 2 = 194) (xdt tt_L_law 104 rfl) ?_
        obtain ⟨v45, S44, hc43, h⟩ := bd2_i h
        refine b_callVi hC hΨ hz hk1 kclX11 ly3_0 m_X11_bubbles q916 ⟨Nat.le_of_ble_eq_true rfl, Nat.le_of_ble_eq_true rfl⟩ [vi 6] rfl (fun l => c_X11_bubbles_p3_0 l hk1 hA1 hc43) rfl (Nat.le_of_ble_eq_true rfl) (rfl : 194 + 3 = 197) (xdt tt_L_law 105 rfl) ?_
        refine b_iload hC 1 rfl (rfl : 197 + 2 = 199) (xdt tt_L_law 106 rfl) ?_
        refine b_isub hC (rfl : 199 + 1 = 200) (xdt tt_L_law 107 rfl) ?_
        refine b_iload hC 3 rfl (rfl : 200 + 2 = 202) (xdt tt_L_law 108 rfl) ?_
        refine b_icmp_ne hC (show ((202 : Nat) : Int) + 28 = ((230 : Nat) : Int) by decide) (rfl : 202 + 3 = 205) (xdt tt_L_law 109 rfl) (fun hc111 => ?_) (fun hc111 => ?_)
        · replace h := (if_pos hc111).symm.trans h
          refine b_iconst hC (rfl : 230 + 1 = 231) (xdt tt_L_law 122 rfl) ?_
          cases h
          exact l_zret hv hE (xdt tt_L_law 123 rfl)
        · replace h := (if_neg hc111).symm.trans h
          refine b_aload_n hC rfl 11 rfl (rfl : 205 + 1 = 206) (xdt tt_L_law 110 rfl) ?_
          refine b_bipush hC (by decide) (rfl : 206 + 2 = 208) (xdt tt_L_law 111 rfl) ?_
          obtain ⟨v48, S47, hc46, h⟩ := bd2_i h
          refine b_callVi hC hΨ hz hk1 kclX11 ly3_0 m_X11_count q837 ⟨Nat.le_of_ble_eq_true rfl, Nat.le_of_ble_eq_true rfl⟩ [vi 18] rfl (fun l => c_X11_count_p3_0 l hk1 hA1 hc46) rfl (Nat.le_of_ble_eq_true rfl) (rfl : 208 + 3 = 211) (xdt tt_L_law 112 rfl) ?_
          refine b_iload hC 2 rfl (rfl : 211 + 2 = 213) (xdt tt_L_law 113 rfl) ?_
          refine b_icmp_gt hC (show ((213 : Nat) : Int) + 17 = ((230 : Nat) : Int) by decide) (rfl : 213 + 3 = 216) (xdt tt_L_law 114 rfl) (fun hc110 => ?_) (fun hc110 => ?_)
          · replace h := (if_pos hc110).symm.trans h
            refine b_iconst hC (rfl : 230 + 1 = 231) (xdt tt_L_law 122 rfl) ?_
            cases h
            exact l_zret hv hE (xdt tt_L_law 123 rfl)
          · replace h := (if_neg hc110).symm.trans h
            refine b_aload_n hC rfl 11 rfl (rfl : 216 + 1 = 217) (xdt tt_L_law 115 rfl) ?_
            refine b_bipush hC (by decide) (rfl : 217 + 2 = 219) (xdt tt_L_law 116 rfl) ?_
            obtain ⟨v51, S50, hc49, h⟩ := bd2_i h
            refine b_callVi hC hΨ hz hk1 kclX11 ly3_0 m_X11_count q837 ⟨Nat.le_of_ble_eq_true rfl, Nat.le_of_ble_eq_true rfl⟩ [vi 10] rfl (fun l => c_X11_count_p3_0 l hk1 hA1 hc49) rfl (Nat.le_of_ble_eq_true rfl) (rfl : 219 + 3 = 222) (xdt tt_L_law 117 rfl) ?_
            refine b_iload hC 7 rfl (rfl : 222 + 2 = 224) (xdt tt_L_law 118 rfl) ?_
            refine b_iload hC 0 rfl (rfl : 224 + 2 = 226) (xdt tt_L_law 119 rfl) ?_
            refine b_iadd hC (rfl : 226 + 1 = 227) (xdt tt_L_law 120 rfl) ?_
            refine b_icmp_eq hC (show ((227 : Nat) : Int) + 5 = ((232 : Nat) : Int) by decide) (rfl : 227 + 3 = 230) (xdt tt_L_law 121 rfl) (fun hc109 => ?_) (fun hc109 => ?_)
            · replace h := (if_pos hc109).symm.trans h
              refine b_aload_n hC rfl 11 rfl (rfl : 232 + 1 = 233) (xdt tt_L_law 124 rfl) ?_
              refine b_iconst hC (rfl : 233 + 1 = 234) (xdt tt_L_law 125 rfl) ?_
              obtain ⟨v54, S53, hc52, h⟩ := bd2_i h
              refine b_callVi hC hΨ hz hk1 kclX11 ly3_0 m_X11_cyclesTo q931 ⟨Nat.le_of_ble_eq_true rfl, Nat.le_of_ble_eq_true rfl⟩ [vi 5] rfl (fun l => c_X11_cyclesTo_p3_0 l hk1 hA1 hc52) rfl (Nat.le_of_ble_eq_true rfl) (rfl : 234 + 3 = 237) (xdt tt_L_law 126 rfl) ?_
              refine b_istore hC (by decide) (lv' := [(13, vi v54), (12, vi v36), (11, vi v33), (10, vi v30), (9, vi v27), (8, vi v24), (7, vi v21), (6, vi v18), (5, vi v15), (4, vi v12), (3, vi v9), (0, .ref (xsb E)), (1, vr E r1 0), (2, vi x2)]) rfl (rfl : 237 + 2 = 239) (xdt tt_L_law 127 rfl) ?_
              refine b_aload_n hC rfl 12 rfl (rfl : 239 + 1 = 240) (xdt tt_L_law 128 rfl) ?_
              obtain ⟨v57, S56, hc55, h⟩ := bd2_i h
              refine b_callVi hC hΨ hz hk1 kclX11 ly3_0 m_X11_undo q935 ⟨Nat.le_of_ble_eq_true rfl, Nat.le_of_ble_eq_true rfl⟩ [] rfl (fun l => c_X11_undo_p3_0 l hk1 hA1 hc55) rfl (Nat.le_of_ble_eq_true rfl) (rfl : 240 + 3 = 243) (xdt tt_L_law 129 rfl) ?_
              refine b_istore hC (by decide) (lv' := [(14, vi v57), (13, vi v54), (12, vi v36), (11, vi v33), (10, vi v30), (9, vi v27), (8, vi v24), (7, vi v21), (6, vi v18), (5, vi v15), (4, vi v12), (3, vi v9), (0, .ref (xsb E)), (1, vr E r1 0), (2, vi x2)]) rfl (rfl : 243 + 2 = 245) (xdt tt_L_law 130 rfl) ?_
              refine b_aload_n hC rfl 13 rfl (rfl : 245 + 1 = 246) (xdt tt_L_law 131 rfl) ?_
              refine b_bipush hC (by decide) (rfl : 246 + 2 = 248) (xdt tt_L_law 132 rfl) ?_
              obtain ⟨v60, S59, hc58, h⟩ := bd2_i h
              refine b_callVi hC hΨ hz hk1 kclX11 ly3_0 m_X11_count q837 ⟨Nat.le_of_ble_eq_true rfl, Nat.le_of_ble_eq_true rfl⟩ [vi 10] rfl (fun l => c_X11_count_p3_0 l hk1 hA1 hc58) rfl (Nat.le_of_ble_eq_true rfl) (rfl : 248 + 3 = 251) (xdt tt_L_law 133 rfl) ?_
              refine b_iload hC 9 rfl (rfl : 251 + 2 = 253) (xdt tt_L_law 134 rfl) ?_
              refine b_icmp_ne hC (show ((253 : Nat) : Int) + 26 = ((279 : Nat) : Int) by decide) (rfl : 253 + 3 = 256) (xdt tt_L_law 135 rfl) (fun hc108 => ?_) (fun hc108 => ?_)
              · replace h := (if_pos hc108).symm.trans h
                refine b_iconst hC (rfl : 279 + 1 = 280) (xdt tt_L_law 146 rfl) ?_
                cases h
                exact l_zret hv hE (xdt tt_L_law 147 rfl)
              · replace h := (if_neg hc108).symm.trans h
                refine b_aload_n hC rfl 13 rfl (rfl : 256 + 1 = 257) (xdt tt_L_law 136 rfl) ?_
                obtain ⟨v63, S62, hc61, h⟩ := bd2_i h
                refine b_callSi hC hΨ hz m_L_allBubbles q913 ⟨Nat.le_of_ble_eq_true rfl, Nat.le_of_ble_eq_true rfl⟩ [vr E r1 0] rfl (fun l => c_L_allBubbles_p3_0 l hk1 hA1 hc61) rfl (Nat.le_of_ble_eq_true rfl) (rfl : 257 + 3 = 260) (xdt tt_L_law 137 rfl) ?_
                refine b_iload hC 10 rfl (rfl : 260 + 2 = 262) (xdt tt_L_law 138 rfl) ?_
                refine b_icmp_ne hC (show ((262 : Nat) : Int) + 17 = ((279 : Nat) : Int) by decide) (rfl : 262 + 3 = 265) (xdt tt_L_law 139 rfl) (fun hc107 => ?_) (fun hc107 => ?_)
                · replace h := (if_pos hc107).symm.trans h
                  refine b_iconst hC (rfl : 279 + 1 = 280) (xdt tt_L_law 146 rfl) ?_
                  cases h
                  exact l_zret hv hE (xdt tt_L_law 147 rfl)
                · replace h := (if_neg hc107).symm.trans h
                  refine b_iload hC 7 rfl (rfl : 265 + 2 = 267) (xdt tt_L_law 140 rfl) ?_
                  refine b_bipush hC (by decide) (rfl : 267 + 2 = 269) (xdt tt_L_law 141 rfl) ?_
                  refine b_icmp_ge hC (show ((269 : Nat) : Int) + 12 = ((281 : Nat) : Int) by decide) (rfl : 269 + 3 = 272) (xdt tt_L_law 142 rfl) (fun hc106 => ?_) (fun hc106 => ?_)
                  · replace h := (if_pos hc106).symm.trans h
                    refine b_sub [13, 9, 6, 2, 1] (lv' := [(1, vr E r1 0), (5, vi v15), (8, vi v24), (12, vi v36), (13, vi v54)]) rfl ?_
                    exact k_law_b281 hC hΨ hz hv hE hq0 hk1 hA1 _ _ _ _ _ h
                  · replace h := (if_neg hc106).symm.trans h
                    refine b_iload hC 0 rfl (rfl : 272 + 2 = 274) (xdt tt_L_law 143 rfl) ?_
                    refine b_iload hC 7 rfl (rfl : 274 + 2 = 276) (xdt tt_L_law 144 rfl) ?_
                    refine b_icmp_eq hC (show ((276 : Nat) : Int) + 5 = ((281 : Nat) : Int) by decide) (rfl : 276 + 3 = 279) (xdt tt_L_law 145 rfl) (fun hc105 => ?_) (fun hc105 => ?_)
                    · replace h := (if_pos hc105).symm.trans h
                      refine b_sub [13, 9, 6, 2, 1] (lv' := [(1, vr E r1 0), (5, vi v15), (8, vi v24), (12, vi v36), (13, vi v54)]) rfl ?_
                      exact k_law_b281 hC hΨ hz hv hE hq0 hk1 hA1 _ _ _ _ _ h
                    · replace h := (if_neg hc105).symm.trans h
                      refine b_iconst hC (rfl : 279 + 1 = 280) (xdt tt_L_law 146 rfl) ?_
                      cases h
                      exact l_zret hv hE (xdt tt_L_law 147 rfl)
            · replace h := (if_neg hc109).symm.trans h
              refine b_iconst hC (rfl : 230 + 1 = 231) (xdt tt_L_law 122 rfl) ?_
              cases h
              exact l_zret hv hE (xdt tt_L_law 123 rfl)
    · replace h := (if_neg hc124).symm.trans h
      refine b_aload_n hC rfl 1 rfl (rfl : 47 + 1 = 48) (xdt tt_L_law 27 rfl) ?_
      refine b_aload_n hC rfl 0 rfl (rfl : 48 + 1 = 49) (xdt tt_L_law 28 rfl) ?_
      refine b_iload_n hC rfl 3 rfl (rfl : 49 + 1 = 50) (xdt tt_L_law 29 rfl) ?_
      refine b_bipush hC (by decide) (rfl : 50 + 2 = 52) (xdt tt_L_law 30 rfl) ?_
      refine b_iadd hC (rfl : 52 + 1 = 53) (xdt tt_L_law 31 rfl) ?_
      obtain ⟨S114, hc113, h⟩ := bd_i h
      refine b_callSv hC hΨ hz m_L_act q624 ⟨Nat.le_of_ble_eq_true rfl, Nat.le_of_ble_eq_true rfl⟩ [vr E r1 0, .ref (xsb E), vi (x3 + 14)] rfl (fun l => c_L_act_p3_0 l hk1 hA1 hq0 hc113) rfl (Nat.le_of_ble_eq_true rfl) (rfl : 53 + 3 = 56) (xdt tt_L_law 32 rfl) ?_
      refine b_aload_n hC rfl 1 rfl (rfl : 56 + 1 = 57) (xdt tt_L_law 33 rfl) ?_
      refine b_bipush hC (by decide) (rfl : 57 + 2 = 59) (xdt tt_L_law 34 rfl) ?_
      obtain ⟨v117, S116, hc115, h⟩ := bd2_i h
      refine b_callVi hC hΨ hz hk1 kclX11 ly3_0 m_X11_count q837 ⟨Nat.le_of_ble_eq_true rfl, Nat.le_of_ble_eq_true rfl⟩ [vi 10] rfl (fun l => c_X11_count_p3_0 l hk1 hA1 hc115) rfl (Nat.le_of_ble_eq_true rfl) (rfl : 59 + 3 = 62) (xdt tt_L_law 35 rfl) ?_
      refine b_sipush hC (by decide) (rfl : 62 + 3 = 65) (xdt tt_L_law 36 rfl) ?_
      refine b_icmp_gt hC (show ((65 : Nat) : Int) + 10 = ((75 : Nat) : Int) by decide) (rfl : 65 + 3 = 68) (xdt tt_L_law 37 rfl) (fun hc123 => ?_) (fun hc123 => ?_)
      · replace h := (if_pos hc123).symm.trans h
        refine b_iconst hC (rfl : 75 + 1 = 76) (xdt tt_L_law 41 rfl) ?_
        cases h
        exact l_zret hv hE (xdt tt_L_law 42 rfl)
      · replace h := (if_neg hc123).symm.trans h
        refine b_aload_n hC rfl 1 rfl (rfl : 68 + 1 = 69) (xdt tt_L_law 38 rfl) ?_
        obtain ⟨v120, S119, hc118, h⟩ := bd2_i h
        refine b_callSz hC hΨ hz m_L_isSound q855 ⟨Nat.le_of_ble_eq_true rfl, Nat.le_of_ble_eq_true rfl⟩ [vr E r1 0] rfl (fun l => c_L_isSound_p3_0 l hk1 hA1 hc118) rfl (Nat.le_of_ble_eq_true rfl) (rfl : 69 + 3 = 72) (xdt tt_L_law 39 rfl) (fun hb121 => ?_)
        refine b_if_ne hC (show ((72 : Nat) : Int) + 5 = ((77 : Nat) : Int) by decide) (rfl : 72 + 3 = 75) (xdt tt_L_law 40 rfl) (fun hc122 => ?_) (fun hc122 => ?_)
        · replace h := (if_pos hc122).symm.trans h
          refine b_iinc hC 3 rfl (by decide) (lv' := [(3, vi (x3 + 1)), (0, .ref (xsb E)), (1, vr E r1 0), (2, vi x2)]) rfl (rfl : 77 + 3 = 80) (xdt tt_L_law 43 rfl) ?_
          refine b_goto hC (show ((80 : Nat) : Int) + (-38) = ((42 : Nat) : Int) by decide) (xdt tt_L_law 44 rfl) ?_
          refine b_sub [1, 2, 3, 0] (lv' := [(0, .ref (xsb E)), (1, vr E r1 0), (2, vi x2), (3, vi (x3 + 1))]) rfl ?_
          exact ih _ _ _ h
        · replace h := (if_neg hc122).symm.trans h
          refine b_iconst hC (rfl : 75 + 1 = 76) (xdt tt_L_law 41 rfl) ?_
          cases h
          exact l_zret hv hE (xdt tt_L_law 42 rfl)
set_option maxRecDepth 100000 in
set_option maxHeartbeats 4000000 in
theorem k_law {K : xCtx} {E : xE} {B : Nat} {Ψ : xPsi} {cl sl : Nat} (hC : xOK K code RL 17 room_1) (hΨ : (∀ a, xA E a → B ≤ a) ∧ xKeep E Ψ) (hz : cl ≤ room_1.cells ∧ sl ≤ room_1.slots) {v : Int} {S' : xSt} (hv : v = 1) (hE : lawE K E B Ψ cl sl) {n0 : Nat} {q0 : Nat → Int} {r1 : Nat} {x0 : Int} (hq0 : xsL E = n0 ∧ xsc E = q0) (hk1 : xkd E r1 = 3) (hA1 : xFam E r1) {S : xSt} (h : f_law S n0 q0 r1 x0 = some (v, S')) : WB B Ψ cl sl K E 16 [(0, .ref (xsb E)), (1, vr E r1 0)] [vi x0] S := by
  unfold f_law at h
  refine b_aload_n hC rfl 0 rfl (rfl : 16 + 1 = 17) (xdt tt_L_law 8 rfl) ?_
  refine b_bipush hC (by decide) (rfl : 17 + 2 = 19) (xdt tt_L_law 9 rfl) ?_
  refine b_iconst hC (rfl : 19 + 1 = 20) (xdt tt_L_law 10 rfl) ?_
  refine b_bipush hC (by decide) (rfl : 20 + 2 = 22) (xdt tt_L_law 11 rfl) ?_
  obtain ⟨v3, S2, hc1, h⟩ := bd2_i h
  refine b_callSi hC hΨ hz m_L_draw q337 ⟨Nat.le_of_ble_eq_true rfl, Nat.le_of_ble_eq_true rfl⟩ [.ref (xsb E), vi 8, vi 1, vi 12] rfl (fun l => c_L_draw l hq0 hc1) rfl (Nat.le_of_ble_eq_true rfl) (rfl : 22 + 3 = 25) (xdt tt_L_law 12 rfl) ?_
  refine b_icmp_eq hC (show ((25 : Nat) : Int) + 5 = ((30 : Nat) : Int) by decide) (rfl : 25 + 3 = 28) (xdt tt_L_law 13 rfl) (fun hc125 => ?_) (fun hc125 => ?_)
  · replace h := (if_pos hc125).symm.trans h
    refine b_aload_n hC rfl 0 rfl (rfl : 30 + 1 = 31) (xdt tt_L_law 16 rfl) ?_
    refine b_bipush hC (by decide) (rfl : 31 + 2 = 33) (xdt tt_L_law 17 rfl) ?_
    refine b_iconst hC (rfl : 33 + 1 = 34) (xdt tt_L_law 18 rfl) ?_
    refine b_bipush hC (by decide) (rfl : 34 + 2 = 36) (xdt tt_L_law 19 rfl) ?_
    obtain ⟨v6, S5, hc4, h⟩ := bd2_i h
    refine b_callSi hC hΨ hz m_L_draw q337 ⟨Nat.le_of_ble_eq_true rfl, Nat.le_of_ble_eq_true rfl⟩ [.ref (xsb E), vi 40, vi 2, vi 12] rfl (fun l => c_L_draw l hq0 hc4) rfl (Nat.le_of_ble_eq_true rfl) (rfl : 36 + 3 = 39) (xdt tt_L_law 20 rfl) ?_
    refine b_istore_n hC rfl (by decide) (lv' := [(2, vi v6), (0, .ref (xsb E)), (1, vr E r1 0)]) rfl (rfl : 39 + 1 = 40) (xdt tt_L_law 21 rfl) ?_
    refine b_iconst hC (rfl : 40 + 1 = 41) (xdt tt_L_law 22 rfl) ?_
    refine b_istore_n hC rfl (by decide) (lv' := [(3, vi 0), (2, vi v6), (0, .ref (xsb E)), (1, vr E r1 0)]) rfl (rfl : 41 + 1 = 42) (xdt tt_L_law 23 rfl) ?_
    refine b_sub [2, 3, 1, 0] (lv' := [(0, .ref (xsb E)), (1, vr E r1 0), (2, vi v6), (3, vi 0)]) rfl ?_
    exact k_law_b42 hC hΨ hz hv hE hq0 hk1 hA1 _ _ _ _ h
  · replace h := (if_neg hc125).symm.trans h
    refine b_iconst hC (rfl : 28 + 1 = 29) (xdt tt_L_law 14 rfl) ?_
    cases h
    exact l_zret hv hE (xdt tt_L_law 15 rfl)
