abbrev ttJ7_copyOf_9075b_ : List (Nat × Instr × Nat) := [(0, .iload_n 1, 1), (1, .aload_n 0, 1), (2, .arraylength, 1), (3, .if_icmp .ne 11, 3), (6, .aload_n 0, 1), (7, .invokevirtual 310, 3), (10, .checkcast 311, 3), (13, .areturn, 1), (14, .iload_n 1, 1), (15, .newarray .byte, 2), (17, .astore_n 2, 1), (18, .aload_n 0, 1), (19, .iconst 0, 1), (20, .aload_n 2, 1), (21, .iconst 0, 1), (22, .aload_n 0, 1), (23, .arraylength, 1), (24, .iload_n 1, 1), (25, .invokestatic 304, 3), (28, .invokestatic 150, 3), (31, .aload_n 2, 1), (32, .areturn, 1)]
theorem tt_J7_copyOf_9075b : xdc cJ7_copyOf_9075b ttJ7_copyOf_9075b_ = true := by decide +kernel
theorem m_J7_copyOf_9075b : mS yJ7_copyOf_9075b cJ7_copyOf_9075b 3 (some (.array .byte)) 2 := ⟨⟨q250, q166, q251⟩, ⟨by decide +kernel, by decide +kernel, by decide +kernel⟩, by decide⟩
abbrev ttJ7_copyOfRange_39247_ : List (Nat × Instr × Nat) := [(0, .iload_n 1, 1), (1, .ifCond .ne 9, 3), (4, .iload_n 2, 1), (5, .aload_n 0, 1), (6, .arraylength, 1), (7, .if_icmp .eq 10, 3), (10, .aload_n 0, 1), (11, .iload_n 1, 1), (12, .iload_n 2, 1), (13, .invokestatic 339, 3), (16, .areturn, 1), (17, .aload_n 0, 1), (18, .invokevirtual 310, 3), (21, .checkcast 311, 3), (24, .areturn, 1)]
theorem tt_J7_copyOfRange_39247 : xdc cJ7_copyOfRange_39247 ttJ7_copyOfRange_39247_ = true := by decide +kernel
theorem m_J7_copyOfRange_39247 : mS yJ7_copyOfRange_39247 cJ7_copyOfRange_39247 3 (some (.array .byte)) 3 := ⟨⟨q426, q166, q427⟩, ⟨by decide +kernel, by decide +kernel, by decide +kernel⟩, by decide⟩
abbrev ttJ7_copyOfRangeByte_39247_ : List (Nat × Instr × Nat) := [(0, .iload_n 1, 1), (1, .iload_n 2, 1), (2, .invokestatic 343, 3), (5, .iload_n 2, 1), (6, .iload_n 1, 1), (7, .isub, 1), (8, .istore_n 3, 1), (9, .iload_n 3, 1), (10, .newarray .byte, 2), (12, .astore 4, 2), (14, .aload_n 0, 1), (15, .iload_n 1, 1), (16, .aload 4, 2), (18, .iconst 0, 1), (19, .aload_n 0, 1), (20, .arraylength, 1), (21, .iload_n 1, 1), (22, .isub, 1), (23, .iload_n 3, 1), (24, .invokestatic 304, 3), (27, .invokestatic 150, 3), (30, .aload 4, 2), (32, .areturn, 1)]
theorem tt_J7_copyOfRangeByte_39247 : xdc cJ7_copyOfRangeByte_39247 ttJ7_copyOfRangeByte_39247_ = true := by decide +kernel
theorem m_J7_copyOfRangeByte_39247 : mS yJ7_copyOfRangeByte_39247 cJ7_copyOfRangeByte_39247 5 (some (.array .byte)) 3 := ⟨⟨q429, q166, q430⟩, ⟨by decide +kernel, by decide +kernel, by decide +kernel⟩, by decide⟩
abbrev ttJ6_getChars_ba4f3_ : List (Nat × Instr × Nat) := [(0, .iload_n 1, 1), (1, .istore 5, 2), (3, .iload_n 0, 1), (4, .ifCond .ge 7, 3), (7, .iconst 1, 1), (8, .goto 4, 3), (11, .iconst 0, 1), (12, .istore 6, 2), (14, .iload 6, 2), (16, .ifCond .ne 6, 3), (19, .iload_n 0, 1), (20, .ineg, 1), (21, .istore_n 0, 1), (22, .iload_n 0, 1), (23, .bipush (-100), 2), (25, .if_icmp .gt 47, 3), (28, .iload_n 0, 1), (29, .bipush 100, 2), (31, .idiv, 1), (32, .istore_n 3, 1), (33, .iload_n 3, 1), (34, .bipush 100, 2), (36, .imul, 1), (37, .iload_n 0, 1), (38, .isub, 1), (39, .istore 4, 2), (41, .iload_n 3, 1), (42, .istore_n 0, 1), (43, .aload_n 2, 1), (44, .iinc 5 (-1), 3), (47, .iload 5, 2), (49, .getstatic 83, 3), (52, .iload 4, 2), (54, .baload, 1), (55, .bastore, 1), (56, .aload_n 2, 1), (57, .iinc 5 (-1), 3), (60, .iload 5, 2), (62, .getstatic 87, 3), (65, .iload 4, 2), (67, .baload, 1), (68, .bastore, 1), (69, .goto (-47), 3), (72, .aload_n 2, 1), (73, .iinc 5 (-1), 3), (76, .iload 5, 2), (78, .getstatic 83, 3), (81, .iload_n 0, 1), (82, .ineg, 1), (83, .baload, 1), (84, .bastore, 1), (85, .iload_n 0, 1), (86, .bipush (-9), 2), (88, .if_icmp .ge 16, 3), (91, .aload_n 2, 1), (92, .iinc 5 (-1), 3), (95, .iload 5, 2), (97, .getstatic 87, 3), (100, .iload_n 0, 1), (101, .ineg, 1), (102, .baload, 1), (103, .bastore, 1), (104, .iload 6, 2), (106, .ifCond .eq 12, 3), (109, .aload_n 2, 1), (110, .iinc 5 (-1), 3), (113, .iload 5, 2), (115, .bipush 45, 2), (117, .bastore, 1), (118, .iload 5, 2), (120, .ireturn, 1)]
theorem tt_J6_getChars_ba4f3 : xdc cJ6_getChars_ba4f3 ttJ6_getChars_ba4f3_ = true := by decide +kernel
theorem m_J6_getChars_ba4f3 : mS yJ6_getChars_ba4f3 cJ6_getChars_ba4f3 7 (some .int) 3 := ⟨⟨q358, q355, q359⟩, ⟨by decide +kernel, by decide +kernel, by decide +kernel⟩, by decide⟩
abbrev ttJ6_stringSize_0f7a4_ : List (Nat × Instr × Nat) := [(0, .iconst 1, 1), (1, .istore_n 1, 1), (2, .iload_n 0, 1), (3, .ifCond .lt 8, 3), (6, .iconst 0, 1), (7, .istore_n 1, 1), (8, .iload_n 0, 1), (9, .ineg, 1), (10, .istore_n 0, 1), (11, .bipush (-10), 2), (13, .istore_n 2, 1), (14, .iconst 1, 1), (15, .istore_n 3, 1), (16, .iload_n 3, 1), (17, .bipush 10, 2), (19, .if_icmp .ge 23, 3), (22, .iload_n 0, 1), (23, .iload_n 2, 1), (24, .if_icmp .le 7, 3), (27, .iload_n 3, 1), (28, .iload_n 1, 1), (29, .iadd, 1), (30, .ireturn, 1), (31, .bipush 10, 2), (33, .iload_n 2, 1), (34, .imul, 1), (35, .istore_n 2, 1), (36, .iinc 3 1, 3), (39, .goto (-23), 3), (42, .bipush 10, 2), (44, .iload_n 1, 1), (45, .iadd, 1), (46, .ireturn, 1)]
theorem tt_J6_stringSize_0f7a4 : xdc cJ6_stringSize_0f7a4 ttJ6_stringSize_0f7a4_ = true := by decide +kernel
theorem m_J6_stringSize_0f7a4 : mS yJ6_stringSize_0f7a4 cJ6_stringSize_0f7a4 4 (some .int) 1 := ⟨⟨q354, q355, q356⟩, ⟨by decide +kernel, by decide +kernel, by decide +kernel⟩, by decide⟩
abbrev ttJ1_canEncode_fc78d_ : List (Nat × Instr × Nat) := [(0, .iload_n 0, 1), (1, .sipush 255, 3), (4, .if_icmp .gt 7, 3), (7, .iconst 1, 1), (8, .goto 4, 3), (11, .iconst 0, 1), (12, .ireturn, 1)]
theorem tt_J1_canEncode_fc78d : xdc cJ1_canEncode_fc78d ttJ1_canEncode_fc78d_ = true := by decide +kernel
theorem m_J1_canEncode_fc78d : mS yJ1_canEncode_fc78d cJ1_canEncode_fc78d 1 (some .boolean) 1 := ⟨⟨q382, q317, q383⟩, ⟨by decide +kernel, by decide +kernel, by decide +kernel⟩, by decide⟩
abbrev ttJ7_checkLength_df160_ : List (Nat × Instr × Nat) := [(0, .iload_n 1, 1), (1, .iload_n 0, 1), (2, .if_icmp .ge 35, 3), (5, .new 43, 3), (8, .dup, 1), (9, .new 45, 3), (12, .dup, 1), (13, .invokespecial 47, 3), (16, .iload_n 0, 1), (17, .invokevirtual 54, 3), (20, .ldc_w 337, 3), (23, .invokevirtual 50, 3), (26, .iload_n 1, 1), (27, .invokevirtual 54, 3), (30, .invokevirtual 61, 3), (33, .invokespecial 65, 3), (36, .athrow, 1), (37, .return_, 1)]
theorem tt_J7_checkLength_df160 : xdc cJ7_checkLength_df160 ttJ7_checkLength_df160_ = true := by decide +kernel
theorem m_J7_checkLength_df160 : mS yJ7_checkLength_df160 cJ7_checkLength_df160 2 (none) 2 := ⟨⟨q432, q166, q433⟩, ⟨by decide +kernel, by decide +kernel, by decide +kernel⟩, by decide⟩
abbrev ttJ8_newLength_cabcc_ : List (Nat × Instr × Nat) := [(0, .iload_n 0, 1), (1, .iload_n 1, 1), (2, .iload_n 2, 1), (3, .invokestatic 194, 3), (6, .iadd, 1), (7, .istore_n 3, 1), (8, .iconst 0, 1), (9, .iload_n 3, 1), (10, .if_icmp .ge 11, 3), (13, .iload_n 3, 1), (14, .ldc 200, 2), (16, .if_icmp .gt 5, 3), (19, .iload_n 3, 1), (20, .ireturn, 1), (21, .iload_n 0, 1), (22, .iload_n 1, 1), (23, .invokestatic 201, 3), (26, .ireturn, 1)]
theorem tt_J8_newLength_cabcc : xdc cJ8_newLength_cabcc ttJ8_newLength_cabcc_ = true := by decide +kernel
theorem m_J8_newLength_cabcc : mS yJ8_newLength_cabcc cJ8_newLength_cabcc 4 (some .int) 3 := ⟨⟨q238, q239, q240⟩, ⟨by decide +kernel, by decide +kernel, by decide +kernel⟩, by decide⟩
abbrev ttJ8_hugeLength_7cf53_ : List (Nat × Instr × Nat) := [(0, .iload_n 0, 1), (1, .iload_n 1, 1), (2, .iadd, 1), (3, .istore_n 2, 1), (4, .iload_n 2, 1), (5, .ifCond .ge 44, 3), (8, .new 204, 3), (11, .dup, 1), (12, .new 89, 3), (15, .dup, 1), (16, .invokespecial 91, 3), (19, .ldc 206, 2), (21, .invokevirtual 94, 3), (24, .iload_n 0, 1), (25, .invokevirtual 98, 3), (28, .ldc 208, 2), (30, .invokevirtual 94, 3), (33, .iload_n 1, 1), (34, .invokevirtual 98, 3), (37, .ldc 210, 2), (39, .invokevirtual 94, 3), (42, .invokevirtual 101, 3), (45, .invokespecial 212, 3), (48, .athrow, 1), (49, .iload_n 2, 1), (50, .ldc 200, 2), (52, .if_icmp .gt 6, 3), (55, .ldc 200, 2), (57, .ireturn, 1), (58, .iload_n 2, 1), (59, .ireturn, 1)]
theorem tt_J8_hugeLength_7cf53 : xdc cJ8_hugeLength_7cf53 ttJ8_hugeLength_7cf53_ = true := by decide +kernel
theorem m_J8_hugeLength_7cf53 : mS yJ8_hugeLength_7cf53 cJ8_hugeLength_7cf53 3 (some .int) 2 := ⟨⟨q247, q239, q248⟩, ⟨by decide +kernel, by decide +kernel, by decide +kernel⟩, by decide⟩
abbrev ttL_setup_ : List (Nat × Instr × Nat) := [(0, .new 57, 3), (3, .dup, 1), (4, .invokespecial 59, 3), (7, .astore_n 1, 1), (8, .aload_n 1, 1), (9, .ldc 60, 2), (11, .invokevirtual 62, 3), (14, .aload_n 0, 1), (15, .iconst 0, 1), (16, .iconst 1, 1), (17, .bipush 6, 2), (19, .invokestatic 66, 3), (22, .invokevirtual 70, 3), (25, .ldc 73, 2), (27, .invokevirtual 62, 3), (30, .bipush 8, 2), (32, .aload_n 0, 1), (33, .iconst 1, 1), (34, .iconst 0, 1), (35, .iconst 2, 1), (36, .invokestatic 66, 3), (39, .ishl, 1), (40, .invokevirtual 70, 3), (43, .ldc 75, 2), (45, .invokevirtual 62, 3), (48, .aload_n 0, 1), (49, .iconst 2, 1), (50, .iconst 2, 1), (51, .bipush 20, 2), (53, .invokestatic 66, 3), (56, .invokevirtual 70, 3), (59, .ldc 77, 2), (61, .invokevirtual 62, 3), (64, .aload_n 0, 1), (65, .iconst 3, 1), (66, .iconst 4, 1), (67, .bipush 40, 2), (69, .invokestatic 66, 3), (72, .invokevirtual 70, 3), (75, .ldc 79, 2), (77, .invokevirtual 62, 3), (80, .aload_n 0, 1), (81, .iconst 4, 1), (82, .iconst 1, 1), (83, .bipush 8, 2), (85, .invokestatic 66, 3), (88, .invokevirtual 70, 3), (91, .ldc 81, 2), (93, .invokevirtual 62, 3), (96, .aload_n 0, 1), (97, .iconst 5, 1), (98, .iconst 0, 1), (99, .bipush 30, 2), (101, .invokestatic 66, 3), (104, .invokevirtual 70, 3), (107, .ldc 83, 2), (109, .invokevirtual 62, 3), (112, .aload_n 0, 1), (113, .bipush 6, 2), (115, .iconst 0, 1), (116, .iconst 4, 1), (117, .invokestatic 66, 3), (120, .invokestatic 85, 3), (123, .invokevirtual 62, 3), (126, .bipush 32, 2), (128, .invokevirtual 89, 3), (131, .aload_n 0, 1), (132, .bipush 7, 2), (134, .iconst 0, 1), (135, .bipush 7, 2), (137, .invokestatic 66, 3), (140, .invokestatic 85, 3), (143, .invokevirtual 62, 3), (146, .bipush 59, 2), (148, .invokevirtual 89, 3), (151, .pop, 1), (152, .aload_n 0, 1), (153, .bipush 8, 2), (155, .iconst 1, 1), (156, .bipush 12, 2), (158, .invokestatic 66, 3), (161, .istore_n 2, 1), (162, .iconst 0, 1), (163, .istore_n 3, 1), (164, .iload_n 3, 1), (165, .iload_n 2, 1), (166, .if_icmp .ge 150, 3), (169, .aload_n 0, 1), (170, .bipush 9, 2), (172, .iconst 2, 1), (173, .iload_n 3, 1), (174, .imul, 1), (175, .iadd, 1), (176, .iconst 0, 1), (177, .bipush 11, 2), (179, .invokestatic 66, 3), (182, .istore 4, 2), (184, .aload_n 0, 1), (185, .bipush 10, 2), (187, .iconst 2, 1), (188, .iload_n 3, 1), (189, .imul, 1), (190, .iadd, 1), (191, .iconst 0, 1), (192, .bipush 8, 2), (194, .invokestatic 66, 3), (197, .istore 5, 2), (199, .iload 4, 2), (201, .bipush 10, 2), (203, .if_icmp .ne 43, 3), (206, .iload_n 3, 1), (207, .ifCond .le 39, 3), (210, .aload_n 1, 1), (211, .ldc 92, 2), (213, .invokevirtual 62, 3), (216, .iconst 1, 1), (217, .iload 5, 2), (219, .iload_n 3, 1), (220, .irem, 1), (221, .iadd, 1), (222, .invokevirtual 70, 3), (225, .ldc 94, 2), (227, .invokevirtual 62, 3), (230, .iconst 1, 1), (231, .iload 5, 2), (233, .iadd, 1), (234, .invokevirtual 70, 3), (237, .bipush 59, 2), (239, .invokevirtual 89, 3), (242, .pop, 1), (243, .goto 67, 3), (246, .iload 4, 2), (248, .bipush 11, 2), (250, .if_icmp .ne 25, 3), (253, .aload_n 1, 1), (254, .ldc 96, 2), (256, .invokevirtual 62, 3), (259, .iload 5, 2), (261, .iconst 3, 1), (262, .irem, 1), (263, .invokevirtual 70, 3), (266, .bipush 59, 2), (268, .invokevirtual 89, 3), (271, .pop, 1), (272, .goto 38, 3), (275, .iload 4, 2), (277, .bipush 9, 2), (279, .if_icmp .ne 13, 3), (282, .aload_n 1, 1), (283, .ldc 98, 2), (285, .invokevirtual 62, 3), (288, .pop, 1), (289, .goto 21, 3), (292, .aload_n 1, 1), (293, .iload 4, 2), (295, .bipush 8, 2), (297, .irem, 1), (298, .invokestatic 85, 3), (301, .invokevirtual 62, 3), (304, .bipush 59, 2), (306, .invokevirtual 89, 3), (309, .pop, 1), (310, .iinc 3 1, 3), (313, .goto (-149), 3), (316, .aload_n 1, 1), (317, .invokevirtual 100, 3), (320, .areturn, 1)]
theorem tt_L_setup : xdc cL_setup ttL_setup_ = true := by decide +kernel
theorem m_L_setup : mS yL_setup cL_setup 6 (some (.object "java/lang/String")) 1 := ⟨⟨q189, q190, q191⟩, ⟨by decide +kernel, by decide +kernel, by decide +kernel⟩, by decide⟩
abbrev ttJ4_append_15ec4_ : List (Nat × Instr × Nat) := [(0, .aload_n 0, 1), (1, .aload_n 1, 1), (2, .invokespecial 29, 3), (5, .pop, 1), (6, .aload_n 0, 1), (7, .areturn, 1)]
theorem tt_J4_append_15ec4 : xdc cJ4_append_15ec4 ttJ4_append_15ec4_ = true := by decide +kernel
theorem m_J4_append_15ec4 : mI yJ4_append_15ec4 RJ4 cJ4_append_15ec4 2 (some (.object "java/lang/StringBuilder")) 1 := ⟨⟨q215, q216, q194, q217⟩, ⟨rfl, by decide +kernel, by decide +kernel, by decide +kernel⟩, by decide⟩
abbrev ttJ4_append_bf812_ : List (Nat × Instr × Nat) := [(0, .aload_n 0, 1), (1, .iload_n 1, 1), (2, .invokespecial 53, 3), (5, .pop, 1), (6, .aload_n 0, 1), (7, .areturn, 1)]
theorem tt_J4_append_bf812 : xdc cJ4_append_bf812 ttJ4_append_bf812_ = true := by decide +kernel
theorem m_J4_append_bf812 : mI yJ4_append_bf812 RJ4 cJ4_append_bf812 2 (some (.object "java/lang/StringBuilder")) 1 := ⟨⟨q346, q347, q194, q348⟩, ⟨rfl, by decide +kernel, by decide +kernel, by decide +kernel⟩, by decide⟩
abbrev ttJ4_append_cf468_ : List (Nat × Instr × Nat) := [(0, .aload_n 0, 1), (1, .iload_n 1, 1), (2, .invokespecial 50, 3), (5, .pop, 1), (6, .aload_n 0, 1), (7, .areturn, 1)]
theorem tt_J4_append_cf468 : xdc cJ4_append_cf468 ttJ4_append_cf468_ = true := by decide +kernel
theorem m_J4_append_cf468 : mI yJ4_append_cf468 RJ4 cJ4_append_cf468 2 (some (.object "java/lang/StringBuilder")) 1 := ⟨⟨q374, q375, q194, q376⟩, ⟨rfl, by decide +kernel, by decide +kernel, by decide +kernel⟩, by decide⟩
abbrev ttJ4_toString_0e30d_ : List (Nat × Instr × Nat) := [(0, .new 18, 3), (3, .dup, 1), (4, .aload_n 0, 1), (5, .invokespecial 137, 3), (8, .areturn, 1)]
theorem tt_J4_toString_0e30d : xdc cJ4_toString_0e30d ttJ4_toString_0e30d_ = true := by decide +kernel
theorem m_J4_toString_0e30d : mI yJ4_toString_0e30d RJ4 cJ4_toString_0e30d 1 (some (.object "java/lang/String")) 0 := ⟨⟨q397, q398, q194, q399⟩, ⟨rfl, by decide +kernel, by decide +kernel, by decide +kernel⟩, by decide⟩
abbrev ttJ0_getBytes_840e7_ : List (Nat × Instr × Nat) := [(0, .aload_n 0, 1), (1, .invokevirtual 335, 3), (4, .iload_n 3, 1), (5, .if_icmp .ne 23, 3), (8, .aload_n 0, 1), (9, .getfield 9, 3), (12, .iconst 0, 1), (13, .aload_n 1, 1), (14, .iload_n 2, 1), (15, .iload_n 3, 1), (16, .ishl, 1), (17, .aload_n 0, 1), (18, .getfield 9, 3), (21, .arraylength, 1), (22, .invokestatic 212, 3), (25, .goto 18, 3), (28, .aload_n 0, 1), (29, .getfield 9, 3), (32, .iconst 0, 1), (33, .aload_n 1, 1), (34, .iload_n 2, 1), (35, .aload_n 0, 1), (36, .getfield 9, 3), (39, .arraylength, 1), (40, .invokestatic 106, 3), (43, .return_, 1)]
theorem tt_J0_getBytes_840e7 : xdc cJ0_getBytes_840e7 ttJ0_getBytes_840e7_ = true := by decide +kernel
theorem m_J0_getBytes_840e7 : mI yJ0_getBytes_840e7 RJ0 cJ0_getBytes_840e7 4 (none) 3 := ⟨⟨q332, q333, q279, q334⟩, ⟨rfl, by decide +kernel, by decide +kernel, by decide +kernel⟩, by decide⟩
abbrev ttJ5_ensureCapacityInternal_d00df_ : List (Nat × Instr × Nat) := [(0, .aload_n 0, 1), (1, .getfield 15, 3), (4, .arraylength, 1), (5, .aload_n 0, 1), (6, .getfield 22, 3), (9, .ishr, 1), (10, .istore_n 2, 1), (11, .iload_n 1, 1), (12, .iload_n 2, 1), (13, .isub, 1), (14, .ifCond .le 24, 3), (17, .aload_n 0, 1), (18, .aload_n 0, 1), (19, .getfield 15, 3), (22, .aload_n 0, 1), (23, .iload_n 1, 1), (24, .invokevirtual 104, 3), (27, .aload_n 0, 1), (28, .getfield 22, 3), (31, .ishl, 1), (32, .invokestatic 108, 3), (35, .putfield 15, 3), (38, .return_, 1)]
theorem tt_J5_ensureCapacityInternal_d00df : xdc cJ5_ensureCapacityInternal_d00df ttJ5_ensureCapacityInternal_d00df_ = true := by decide +kernel
theorem m_J5_ensureCapacityInternal_d00df : mU yJ5_ensureCapacityInternal_d00df cJ5_ensureCapacityInternal_d00df 3 (none) 1 := ⟨⟨q229, q230, q200, q231⟩, ⟨rfl, by decide +kernel⟩, by decide⟩
abbrev ttJ5_newCapacity_0f7a4_ : List (Nat × Instr × Nat) := [(0, .aload_n 0, 1), (1, .getfield 15, 3), (4, .arraylength, 1), (5, .istore_n 2, 1), (6, .iload_n 1, 1), (7, .aload_n 0, 1), (8, .getfield 22, 3), (11, .ishl, 1), (12, .istore_n 3, 1), (13, .iload_n 3, 1), (14, .iload_n 2, 1), (15, .isub, 1), (16, .istore 4, 2), (18, .iload_n 2, 1), (19, .iload 4, 2), (21, .iload_n 2, 1), (22, .iconst 2, 1), (23, .aload_n 0, 1), (24, .getfield 22, 3), (27, .ishl, 1), (28, .iadd, 1), (29, .invokestatic 114, 3), (32, .istore 5, 2), (34, .iload 5, 2), (36, .ldc 39, 2), (38, .if_icmp .ne 13, 3), (41, .new 120, 3), (44, .dup, 1), (45, .ldc 122, 2), (47, .invokespecial 124, 3), (50, .athrow, 1), (51, .iload 5, 2), (53, .aload_n 0, 1), (54, .getfield 22, 3), (57, .ishr, 1), (58, .ireturn, 1)]
theorem tt_J5_newCapacity_0f7a4 : xdc cJ5_newCapacity_0f7a4 ttJ5_newCapacity_0f7a4_ = true := by decide +kernel
theorem m_J5_newCapacity_0f7a4 : mU yJ5_newCapacity_0f7a4 cJ5_newCapacity_0f7a4 6 (some .int) 1 := ⟨⟨q233, q234, q200, q235⟩, ⟨rfl, by decide +kernel⟩, by decide⟩
abbrev ttJ5_putStringAt_47b60_ : List (Nat × Instr × Nat) := [(0, .aload_n 0, 1), (1, .aload_n 2, 1), (2, .invokevirtual 397, 3), (5, .aload_n 2, 1), (6, .aload_n 0, 1), (7, .getfield 15, 3), (10, .iload_n 1, 1), (11, .aload_n 0, 1), (12, .getfield 22, 3), (15, .invokevirtual 399, 3), (18, .return_, 1)]
theorem tt_J5_putStringAt_47b60 : xdc cJ5_putStringAt_47b60 ttJ5_putStringAt_47b60_ = true := by decide +kernel
theorem m_J5_putStringAt_47b60 : mU yJ5_putStringAt_47b60 cJ5_putStringAt_47b60 3 (none) 2 := ⟨⟨q303, q304, q200, q305⟩, ⟨rfl, by decide +kernel⟩, by decide⟩
abbrev ttJ5_inflateIfNeededFor_a7421_ : List (Nat × Instr × Nat) := [(0, .getstatic 18, 3), (3, .ifCond .eq 18, 3), (6, .aload_n 0, 1), (7, .getfield 22, 3), (10, .aload_n 1, 1), (11, .invokevirtual 40, 3), (14, .if_icmp .eq 7, 3), (17, .aload_n 0, 1), (18, .invokevirtual 195, 3), (21, .return_, 1)]
theorem tt_J5_inflateIfNeededFor_a7421 : xdc cJ5_inflateIfNeededFor_a7421 ttJ5_inflateIfNeededFor_a7421_ = true := by decide +kernel
theorem m_J5_inflateIfNeededFor_a7421 : mU yJ5_inflateIfNeededFor_a7421 cJ5_inflateIfNeededFor_a7421 2 (none) 1 := ⟨⟨q307, q308, q200, q309⟩, ⟨rfl, by decide +kernel⟩, by decide⟩
abbrev ttJ5_isLatin1_aae02_ : List (Nat × Instr × Nat) := [(0, .getstatic 18, 3), (3, .ifCond .eq 14, 3), (6, .aload_n 0, 1), (7, .getfield 22, 3), (10, .ifCond .ne 7, 3), (13, .iconst 1, 1), (14, .goto 4, 3), (17, .iconst 0, 1), (18, .ireturn, 1)]
theorem tt_J5_isLatin1_aae02 : xdc cJ5_isLatin1_aae02 ttJ5_isLatin1_aae02_ = true := by decide +kernel
theorem m_J5_isLatin1_aae02 : mU yJ5_isLatin1_aae02 cJ5_isLatin1_aae02 1 (some .boolean) 0 := ⟨⟨q263, q265, q200, q266⟩, ⟨rfl, by decide +kernel⟩, by decide⟩
abbrev ttJ5_getValue_6d5f1_ : List (Nat × Instr × Nat) := [(0, .aload_n 0, 1), (1, .getfield 15, 3), (4, .areturn, 1)]
theorem tt_J5_getValue_6d5f1 : xdc cJ5_getValue_6d5f1 ttJ5_getValue_6d5f1_ = true := by decide +kernel
theorem m_J5_getValue_6d5f1 : mU yJ5_getValue_6d5f1 cJ5_getValue_6d5f1 1 (some (.array .byte)) 0 := ⟨⟨q411, q413, q200, q414⟩, ⟨rfl, by decide +kernel⟩, by decide⟩
abbrev ttJ5_append_c97b9_ : List (Nat × Instr × Nat) := [(0, .aload_n 0, 1), (1, .getfield 79, 3), (4, .istore_n 2, 1), (5, .iload_n 2, 1), (6, .iload_n 1, 1), (7, .invokestatic 245, 3), (10, .iadd, 1), (11, .istore_n 3, 1), (12, .aload_n 0, 1), (13, .iload_n 3, 1), (14, .invokevirtual 100, 3), (17, .aload_n 0, 1), (18, .invokevirtual 83, 3), (21, .ifCond .eq 16, 3), (24, .iload_n 1, 1), (25, .iload_n 3, 1), (26, .aload_n 0, 1), (27, .getfield 15, 3), (30, .invokestatic 248, 3), (33, .pop, 1), (34, .goto 14, 3), (37, .iload_n 1, 1), (38, .iload_n 2, 1), (39, .iload_n 3, 1), (40, .aload_n 0, 1), (41, .getfield 15, 3), (44, .invokestatic 251, 3), (47, .pop, 1), (48, .aload_n 0, 1), (49, .iload_n 3, 1), (50, .putfield 79, 3), (53, .aload_n 0, 1), (54, .areturn, 1)]
theorem tt_J5_append_c97b9 : xdc cJ5_append_c97b9 ttJ5_append_c97b9_ = true := by decide +kernel
theorem m_J5_append_c97b9 : mSU yJ5_append_c97b9 cJ5_append_c97b9 4 (some (.object "java/lang/AbstractStringBuilder")) 1 := ⟨⟨q350, q220, q351, q200, q352⟩, ⟨by decide +kernel, by decide +kernel⟩, by decide⟩
abbrev ttJ5_append_cf1ce_ : List (Nat × Instr × Nat) := [(0, .aload_n 1, 1), (1, .ifnonnull 8, 3), (4, .aload_n 0, 1), (5, .invokevirtual 204, 3), (8, .areturn, 1), (9, .aload_n 1, 1), (10, .invokevirtual 32, 3), (13, .istore_n 2, 1), (14, .aload_n 0, 1), (15, .aload_n 0, 1), (16, .getfield 79, 3), (19, .iload_n 2, 1), (20, .iadd, 1), (21, .invokevirtual 100, 3), (24, .aload_n 0, 1), (25, .aload_n 0, 1), (26, .getfield 79, 3), (29, .aload_n 1, 1), (30, .invokevirtual 208, 3), (33, .aload_n 0, 1), (34, .dup, 1), (35, .getfield 79, 3), (38, .iload_n 2, 1), (39, .iadd, 1), (40, .putfield 79, 3), (43, .aload_n 0, 1), (44, .areturn, 1)]
theorem tt_J5_append_cf1ce : xdc cJ5_append_cf1ce ttJ5_append_cf1ce_ = true := by decide +kernel
theorem m_J5_append_cf1ce : mSU yJ5_append_cf1ce cJ5_append_cf1ce 3 (some (.object "java/lang/AbstractStringBuilder")) 1 := ⟨⟨q219, q220, q221, q200, q222⟩, ⟨by decide +kernel, by decide +kernel⟩, by decide⟩
abbrev ttJ5_append_3fe6f_ : List (Nat × Instr × Nat) := [(0, .aload_n 0, 1), (1, .aload_n 0, 1), (2, .getfield 79, 3), (5, .iconst 1, 1), (6, .iadd, 1), (7, .invokevirtual 100, 3), (10, .aload_n 0, 1), (11, .invokevirtual 83, 3), (14, .ifCond .eq 31, 3), (17, .iload_n 1, 1), (18, .invokestatic 191, 3), (21, .ifCond .eq 24, 3), (24, .aload_n 0, 1), (25, .getfield 15, 3), (28, .aload_n 0, 1), (29, .dup, 1), (30, .getfield 79, 3), (33, .dup_x1, 1), (34, .iconst 1, 1), (35, .iadd, 1), (36, .putfield 79, 3), (39, .iload_n 1, 1), (40, .i2b, 1), (41, .bastore, 1), (42, .goto 33, 3), (45, .aload_n 0, 1), (46, .invokevirtual 83, 3), (49, .ifCond .eq 7, 3), (52, .aload_n 0, 1), (53, .invokevirtual 195, 3), (56, .aload_n 0, 1), (57, .getfield 15, 3), (60, .aload_n 0, 1), (61, .dup, 1), (62, .getfield 79, 3), (65, .dup_x1, 1), (66, .iconst 1, 1), (67, .iadd, 1), (68, .putfield 79, 3), (71, .iload_n 1, 1), (72, .invokestatic 197, 3), (75, .aload_n 0, 1), (76, .areturn, 1)]
theorem tt_J5_append_3fe6f : xdc cJ5_append_3fe6f ttJ5_append_3fe6f_ = true := by decide +kernel
theorem m_J5_append_3fe6f : mSU yJ5_append_3fe6f cJ5_append_3fe6f 2 (some (.object "java/lang/AbstractStringBuilder")) 1 := ⟨⟨q378, q220, q379, q200, q380⟩, ⟨by decide +kernel, by decide +kernel⟩, by decide⟩
abbrev ttJ5_length_8abf5_ : List (Nat × Instr × Nat) := [(0, .aload_n 0, 1), (1, .getfield 79, 3), (4, .ireturn, 1)]
theorem tt_J5_length_8abf5 : xdc cJ5_length_8abf5 ttJ5_length_8abf5_ = true := by decide +kernel
abbrev ttJ4_length_8abf5_ : List (Nat × Instr × Nat) := [(0, .aload_n 0, 1), (1, .invokespecial 343, 3), (4, .ireturn, 1)]
theorem tt_J4_length_8abf5 : xdc cJ4_length_8abf5 ttJ4_length_8abf5_ = true := by decide +kernel
abbrev ttJ4_init_da8c8_ : List (Nat × Instr × Nat) := [(0, .aload_n 0, 1), (1, .bipush 16, 2), (3, .invokespecial 1, 3), (6, .return_, 1)]
theorem tt_J4_init_da8c8 : xdc cJ4_init_da8c8 ttJ4_init_da8c8_ = true := by decide +kernel
theorem m_J4_init_da8c8 : mC yJ4_init_da8c8 cJ4_init_da8c8 1 0 := ⟨⟨q196, q194, q197⟩, rfl, ⟨by decide +kernel, by decide +kernel, by decide +kernel⟩, by decide⟩
abbrev ttJ5_init_d00df_ : List (Nat × Instr × Nat) := [(0, .aload_n 0, 1), (1, .invokespecial 3, 3), (4, .getstatic 18, 3), (7, .ifCond .eq 18, 3), (10, .aload_n 0, 1), (11, .iload_n 1, 1), (12, .newarray .byte, 2), (14, .putfield 15, 3), (17, .aload_n 0, 1), (18, .iconst 0, 1), (19, .putfield 22, 3), (22, .goto 16, 3), (25, .aload_n 0, 1), (26, .iload_n 1, 1), (27, .invokestatic 26, 3), (30, .putfield 15, 3), (33, .aload_n 0, 1), (34, .iconst 1, 1), (35, .putfield 22, 3), (38, .return_, 1)]
theorem tt_J5_init_d00df : xdc cJ5_init_d00df ttJ5_init_d00df_ = true := by decide +kernel
theorem m_J5_init_d00df : mC yJ5_init_d00df cJ5_init_d00df 2 1 := ⟨⟨q199, q200, q201⟩, rfl, ⟨by decide +kernel, by decide +kernel, by decide +kernel⟩, by decide⟩
abbrev ttJ0_init_81219_ : List (Nat × Instr × Nat) := [(0, .aload_n 0, 1), (1, .aload_n 1, 1), (2, .aconst_null, 1), (3, .invokespecial 489, 3), (6, .return_, 1)]
theorem tt_J0_init_81219 : xdc cJ0_init_81219 ttJ0_init_81219_ = true := by decide +kernel
theorem m_J0_init_81219 : mC yJ0_init_81219 cJ0_init_81219 2 1 := ⟨⟨q403, q279, q404⟩, rfl, ⟨by decide +kernel, by decide +kernel, by decide +kernel⟩, by decide⟩
abbrev ttJ0_init_db425_ : List (Nat × Instr × Nat) := [(0, .aload_n 0, 1), (1, .invokespecial 1, 3), (4, .aload_n 1, 1), (5, .invokevirtual 552, 3), (8, .astore_n 3, 1), (9, .aload_n 1, 1), (10, .invokevirtual 549, 3), (13, .istore 4, 2), (15, .aload_n 1, 1), (16, .invokevirtual 1047, 3), (19, .ifCond .eq 22, 3), (22, .aload_n 0, 1), (23, .iconst 0, 1), (24, .putfield 15, 3), (27, .aload_n 0, 1), (28, .aload_n 3, 1), (29, .iconst 0, 1), (30, .iload 4, 2), (32, .invokestatic 54, 3), (35, .putfield 9, 3), (38, .goto 59, 3), (41, .getstatic 38, 3), (44, .ifCond .eq 35, 3), (47, .aload_n 1, 1), (48, .getfield 1048, 3), (51, .ifCond .eq 28, 3), (54, .aload_n 0, 1), (55, .aload_n 3, 1), (56, .iconst 0, 1), (57, .iload 4, 2), (59, .invokestatic 1051, 3), (62, .putfield 9, 3), (65, .aload_n 0, 1), (66, .aload_n 0, 1), (67, .getfield 9, 3), (70, .iload 4, 2), (72, .invokestatic 47, 3), (75, .putfield 15, 3), (78, .return_, 1), (79, .aload_n 0, 1), (80, .iconst 1, 1), (81, .putfield 15, 3), (84, .aload_n 0, 1), (85, .aload_n 3, 1), (86, .iconst 0, 1), (87, .iload 4, 2), (89, .iconst 1, 1), (90, .ishl, 1), (91, .invokestatic 54, 3), (94, .putfield 9, 3), (97, .return_, 1)]
theorem tt_J0_init_db425 : xdc cJ0_init_db425 ttJ0_init_db425_ = true := by decide +kernel
theorem m_J0_init_db425 : mC yJ0_init_db425 cJ0_init_db425 5 2 := ⟨⟨q406, q279, q407⟩, rfl, ⟨by decide +kernel, by decide +kernel, by decide +kernel⟩, by decide⟩
def f_J6_stringSize_0f7a4_b16 : Nat → xSt → Int → Int → Int → Int → Option (Int × xSt)
  | 0, _, _, _, _, _ => none
  | fuel + 1, S, x0, x1, x2, x3 =>
    if wr 10 ≤ wr x3 then
      (some ((10 + x1), S))
    else
      (if wr x0 ≤ wr x2 then
        ((f_J6_stringSize_0f7a4_b16 fuel) S x0 x1 (10 * x2) (x3 + 1))
      else
        (some ((x3 + x1), S)))
def f_J6_stringSize_0f7a4 (S : xSt) (a0 : Int) : Option (Int × xSt) :=
  if wr a0 < 0 then
    (f_J6_stringSize_0f7a4_b16 (fu S) S a0 1 (-10) 1)
  else
    (f_J6_stringSize_0f7a4_b16 (fu S) S (-a0) 0 (-10) 1)
set_option maxRecDepth 100000 in
set_option maxHeartbeats 4000000 in
theorem k_J6_stringSize_0f7a4_b16 {K : xCtx} {E : xE} {b : Nat} (hC : xOK K cJ6_stringSize_0f7a4 RJ6 4 (rmE 1 b)) (hZ : xZ K) {v : Int} {S' : xSt} (hE : xEnd K E (some .int) (YQi E v S')) : ∀ (fuel : Nat) (S : xSt) (x0 : Int) (x1 : Int) (x2 : Int) (x3 : Int), f_J6_stringSize_0f7a4_b16 fuel S x0 x1 x2 x3 = some (v, S') → WG K E 16 [(0, vi x0), (1, vi x1), (2, vi x2), (3, vi x3)] [] S := by
  intro fuel
  induction fuel with
  | zero => intro S x0 x1 x2 x3 h; cases h
  | succ fuel ih =>
    intro S x0 x1 x2 x3 h
    rw [f_J6_stringSize_0f7a4_b16] at h
    refine g_iload_n hC rfl 3 rfl (rfl : 16 + 1 = 17) (xdt tt_J6_stringSize_0f7a4 13 rfl) ?_
    refine g_bipush hC (by decide) (rfl : 17 + 2 = 19) (xdt tt_J6_stringSize_0f7a4 14 rfl) ?_
    refine g_icmp_ge hC (show ((19 : Nat) : Int) + 23 = ((42 : Nat) : Int) by decide) (rfl : 19 + 3 = 22) (xdt tt_J6_stringSize_0f7a4 15 rfl) (fun hc2 => ?_) (fun hc2 => ?_)
    · replace h := (if_pos hc2).symm.trans h
      refine g_bipush hC (by decide) (rfl : 42 + 2 = 44) (xdt tt_J6_stringSize_0f7a4 29 rfl) ?_
      refine g_iload_n hC rfl 1 rfl (rfl : 44 + 1 = 45) (xdt tt_J6_stringSize_0f7a4 30 rfl) ?_
      refine g_iadd hC (rfl : 45 + 1 = 46) (xdt tt_J6_stringSize_0f7a4 31 rfl) ?_
      cases h
      exact g_iret hC hE (xdt tt_J6_stringSize_0f7a4 32 rfl)
    · replace h := (if_neg hc2).symm.trans h
      refine g_iload_n hC rfl 0 rfl (rfl : 22 + 1 = 23) (xdt tt_J6_stringSize_0f7a4 16 rfl) ?_
      refine g_iload_n hC rfl 2 rfl (rfl : 23 + 1 = 24) (xdt tt_J6_stringSize_0f7a4 17 rfl) ?_
      refine g_icmp_le hC (show ((24 : Nat) : Int) + 7 = ((31 : Nat) : Int) by decide) (rfl : 24 + 3 = 27) (xdt tt_J6_stringSize_0f7a4 18 rfl) (fun hc1 => ?_) (fun hc1 => ?_)
      · replace h := (if_pos hc1).symm.trans h
        refine g_bipush hC (by decide) (rfl : 31 + 2 = 33) (xdt tt_J6_stringSize_0f7a4 23 rfl) ?_
        refine g_iload_n hC rfl 2 rfl (rfl : 33 + 1 = 34) (xdt tt_J6_stringSize_0f7a4 24 rfl) ?_
        refine g_imul hC (rfl : 34 + 1 = 35) (xdt tt_J6_stringSize_0f7a4 25 rfl) ?_
        refine g_istore_n hC rfl (by decide) (lv' := [(2, vi (10 * x2)), (0, vi x0), (1, vi x1), (3, vi x3)]) rfl (rfl : 35 + 1 = 36) (xdt tt_J6_stringSize_0f7a4 26 rfl) ?_
        refine g_iinc hC 3 rfl (by decide) (lv' := [(3, vi (x3 + 1)), (2, vi (10 * x2)), (0, vi x0), (1, vi x1)]) rfl (rfl : 36 + 3 = 39) (xdt tt_J6_stringSize_0f7a4 27 rfl) ?_
        refine g_goto hC (show ((39 : Nat) : Int) + (-23) = ((16 : Nat) : Int) by decide) (xdt tt_J6_stringSize_0f7a4 28 rfl) ?_
        refine g_sub [2, 3, 1, 0] (lv' := [(0, vi x0), (1, vi x1), (2, vi (10 * x2)), (3, vi (x3 + 1))]) rfl ?_
        exact ih _ _ _ _ _ h
      · replace h := (if_neg hc1).symm.trans h
        refine g_iload_n hC rfl 3 rfl (rfl : 27 + 1 = 28) (xdt tt_J6_stringSize_0f7a4 19 rfl) ?_
        refine g_iload_n hC rfl 1 rfl (rfl : 28 + 1 = 29) (xdt tt_J6_stringSize_0f7a4 20 rfl) ?_
        refine g_iadd hC (rfl : 29 + 1 = 30) (xdt tt_J6_stringSize_0f7a4 21 rfl) ?_
        cases h
        exact g_iret hC hE (xdt tt_J6_stringSize_0f7a4 22 rfl)
set_option maxRecDepth 100000 in
set_option maxHeartbeats 4000000 in
theorem c_J6_stringSize_0f7a4 (l : Launch) {E : xE} {S S' : xSt} {a0 : Int} {v : Int} (h : f_J6_stringSize_0f7a4 S a0 = some (v, S')) : Met l yJ6_stringSize_0f7a4 (xws yJ6_stringSize_0f7a4 cJ6_stringSize_0f7a4 4 (some .int)) (rmD 1) (YPc E [vi a0] S) (YQi E v S') 0 0 (xA E) := by
  unfold f_J6_stringSize_0f7a4 at h
  refine met_i (by decide +kernel) (Nat.le_of_ble_eq_true rfl) (fun K hC hZ hE => ?_)
  have hC : xOK K cJ6_stringSize_0f7a4 RJ6 4 (rmE 1 0) := hC
  show WG K E 0 [(0, vi a0)] [] S
  refine g_iconst hC (rfl : 0 + 1 = 1) (xdt tt_J6_stringSize_0f7a4 0 rfl) ?_
  refine g_istore_n hC rfl (by decide) (lv' := [(1, vi 1), (0, vi a0)]) rfl (rfl : 1 + 1 = 2) (xdt tt_J6_stringSize_0f7a4 1 rfl) ?_
  refine g_iload_n hC rfl 1 rfl (rfl : 2 + 1 = 3) (xdt tt_J6_stringSize_0f7a4 2 rfl) ?_
  refine g_if_lt hC (show ((3 : Nat) : Int) + 8 = ((11 : Nat) : Int) by decide) (rfl : 3 + 3 = 6) (xdt tt_J6_stringSize_0f7a4 3 rfl) (fun hc3 => ?_) (fun hc3 => ?_)
  · replace h := (if_pos hc3).symm.trans h
    refine g_bipush hC (by decide) (rfl : 11 + 2 = 13) (xdt tt_J6_stringSize_0f7a4 9 rfl) ?_
    refine g_istore_n hC rfl (by decide) (lv' := [(2, vi (-10)), (1, vi 1), (0, vi a0)]) rfl (rfl : 13 + 1 = 14) (xdt tt_J6_stringSize_0f7a4 10 rfl) ?_
    refine g_iconst hC (rfl : 14 + 1 = 15) (xdt tt_J6_stringSize_0f7a4 11 rfl) ?_
    refine g_istore_n hC rfl (by decide) (lv' := [(3, vi 1), (2, vi (-10)), (1, vi 1), (0, vi a0)]) rfl (rfl : 15 + 1 = 16) (xdt tt_J6_stringSize_0f7a4 12 rfl) ?_
    refine g_sub [3, 2, 1, 0] (lv' := [(0, vi a0), (1, vi 1), (2, vi (-10)), (3, vi 1)]) rfl ?_
    exact k_J6_stringSize_0f7a4_b16 hC hZ hE _ _ _ _ _ _ h
  · replace h := (if_neg hc3).symm.trans h
    refine g_iconst hC (rfl : 6 + 1 = 7) (xdt tt_J6_stringSize_0f7a4 4 rfl) ?_
    refine g_istore_n hC rfl (by decide) (lv' := [(1, vi 0), (0, vi a0)]) rfl (rfl : 7 + 1 = 8) (xdt tt_J6_stringSize_0f7a4 5 rfl) ?_
    refine g_iload_n hC rfl 1 rfl (rfl : 8 + 1 = 9) (xdt tt_J6_stringSize_0f7a4 6 rfl) ?_
    refine g_ineg hC (rfl : 9 + 1 = 10) (xdt tt_J6_stringSize_0f7a4 7 rfl) ?_
    refine g_istore_n hC rfl (by decide) (lv' := [(0, vi (-a0)), (1, vi 0)]) rfl (rfl : 10 + 1 = 11) (xdt tt_J6_stringSize_0f7a4 8 rfl) ?_
    refine g_bipush hC (by decide) (rfl : 11 + 2 = 13) (xdt tt_J6_stringSize_0f7a4 9 rfl) ?_
    refine g_istore_n hC rfl (by decide) (lv' := [(2, vi (-10)), (0, vi (-a0)), (1, vi 0)]) rfl (rfl : 13 + 1 = 14) (xdt tt_J6_stringSize_0f7a4 10 rfl) ?_
    refine g_iconst hC (rfl : 14 + 1 = 15) (xdt tt_J6_stringSize_0f7a4 11 rfl) ?_
    refine g_istore_n hC rfl (by decide) (lv' := [(3, vi 1), (2, vi (-10)), (0, vi (-a0)), (1, vi 0)]) rfl (rfl : 15 + 1 = 16) (xdt tt_J6_stringSize_0f7a4 12 rfl) ?_
    refine g_sub [2, 3, 1, 0] (lv' := [(0, vi (-a0)), (1, vi 0), (2, vi (-10)), (3, vi 1)]) rfl ?_
    exact k_J6_stringSize_0f7a4_b16 hC hZ hE _ _ _ _ _ _ h
def f_J1_canEncode_fc78d (S : xSt) (a0 : Int) : Option (Int × xSt) :=
  if wr 255 < wr a0 then
    (some (0, S))
  else
    (some (1, S))
set_option maxRecDepth 100000 in
set_option maxHeartbeats 4000000 in
theorem c_J1_canEncode_fc78d (l : Launch) {E : xE} {S S' : xSt} {a0 : Int} {v : Int} (h : f_J1_canEncode_fc78d S a0 = some (v, S')) : Met l yJ1_canEncode_fc78d (xws yJ1_canEncode_fc78d cJ1_canEncode_fc78d 1 (some .boolean)) (rmD 1) (YPc E [vi a0] S) (YQz E v S') 0 0 (xA E) := by
  unfold f_J1_canEncode_fc78d at h
  refine met_z (by decide +kernel) (Nat.le_of_ble_eq_true rfl) (fun K hC hZ hE => ?_)
  have hC : xOK K cJ1_canEncode_fc78d RJ1 1 (rmE 1 0) := hC
  show WG K E 0 [(0, vi a0)] [] S
  refine g_iload_n hC rfl 0 rfl (rfl : 0 + 1 = 1) (xdt tt_J1_canEncode_fc78d 0 rfl) ?_
  refine g_sipush hC (by decide) (rfl : 1 + 3 = 4) (xdt tt_J1_canEncode_fc78d 1 rfl) ?_
  refine g_icmp_gt hC (show ((4 : Nat) : Int) + 7 = ((11 : Nat) : Int) by decide) (rfl : 4 + 3 = 7) (xdt tt_J1_canEncode_fc78d 2 rfl) (fun hc1 => ?_) (fun hc1 => ?_)
  · replace h := (if_pos hc1).symm.trans h
    refine g_iconst hC (rfl : 11 + 1 = 12) (xdt tt_J1_canEncode_fc78d 5 rfl) ?_
    cases h
    exact g_zret hC hE (Or.inl rfl) (xdt tt_J1_canEncode_fc78d 6 rfl)
  · replace h := (if_neg hc1).symm.trans h
    refine g_iconst hC (rfl : 7 + 1 = 8) (xdt tt_J1_canEncode_fc78d 3 rfl) ?_
    refine g_goto hC (show ((8 : Nat) : Int) + 4 = ((12 : Nat) : Int) by decide) (xdt tt_J1_canEncode_fc78d 4 rfl) ?_
    cases h
    exact g_zret hC hE (Or.inr rfl) (xdt tt_J1_canEncode_fc78d 6 rfl)
def f_J7_checkLength_df160 (S : xSt) (a0 : Int) (a1 : Int) : Option (xSt) :=
  if wr a0 ≤ wr a1 then
    (some S)
  else
    (none)
set_option maxRecDepth 100000 in
set_option maxHeartbeats 4000000 in
theorem c_J7_checkLength_df160 (l : Launch) {E : xE} {S S' : xSt} {a0 : Int} {a1 : Int} (h : f_J7_checkLength_df160 S a0 a1 = some S') : Met l yJ7_checkLength_df160 (xws yJ7_checkLength_df160 cJ7_checkLength_df160 2 none) (rmD 1) (YPc E [vi a0, vi a1] S) (YQv E S') 0 0 (xA E) := by
  unfold f_J7_checkLength_df160 at h
  refine met_v (by decide +kernel) (Nat.le_of_ble_eq_true rfl) (fun K hC hZ hE => ?_)
  have hC : xOK K cJ7_checkLength_df160 RJ7 2 (rmE 1 0) := hC
  show WG K E 0 [(0, vi a0), (1, vi a1)] [] S
  refine g_iload_n hC rfl 1 rfl (rfl : 0 + 1 = 1) (xdt tt_J7_checkLength_df160 0 rfl) ?_
  refine g_iload_n hC rfl 0 rfl (rfl : 1 + 1 = 2) (xdt tt_J7_checkLength_df160 1 rfl) ?_
  refine g_icmp_ge hC (show ((2 : Nat) : Int) + 35 = ((37 : Nat) : Int) by decide) (rfl : 2 + 3 = 5) (xdt tt_J7_checkLength_df160 2 rfl) (fun hc1 => ?_) (fun hc1 => ?_)
  · replace h := (if_pos hc1).symm.trans h
    cases h
    exact g_vret hC hE (xdt tt_J7_checkLength_df160 17 rfl)
  · replace h := (if_neg hc1).symm.trans h
    cases h
def f_J8_hugeLength_7cf53 (S : xSt) (a0 : Int) (a1 : Int) : Option (Int × xSt) :=
  if 0 ≤ wr (a0 + a1) then
    (if wr 2147483639 < wr (a0 + a1) then
      (some ((a0 + a1), S))
    else
      (some (2147483639, S)))
  else
    (none)
set_option maxRecDepth 100000 in
set_option maxHeartbeats 4000000 in
theorem c_J8_hugeLength_7cf53 (l : Launch) {E : xE} {S S' : xSt} {a0 : Int} {a1 : Int} {v : Int} (h : f_J8_hugeLength_7cf53 S a0 a1 = some (v, S')) : Met l yJ8_hugeLength_7cf53 (xws yJ8_hugeLength_7cf53 cJ8_hugeLength_7cf53 3 (some .int)) (rmD 1) (YPc E [vi a0, vi a1] S) (YQi E v S') 0 0 (xA E) := by
  unfold f_J8_hugeLength_7cf53 at h
  refine met_i (by decide +kernel) (Nat.le_of_ble_eq_true rfl) (fun K hC hZ hE => ?_)
  have hC : xOK K cJ8_hugeLength_7cf53 RJ8 3 (rmE 1 0) := hC
  show WG K E 0 [(0, vi a0), (1, vi a1)] [] S
  refine g_iload_n hC rfl 0 rfl (rfl : 0 + 1 = 1) (xdt tt_J8_hugeLength_7cf53 0 rfl) ?_
  refine g_iload_n hC rfl 1 rfl (rfl : 1 + 1 = 2) (xdt tt_J8_hugeLength_7cf53 1 rfl) ?_
  refine g_iadd hC (rfl : 2 + 1 = 3) (xdt tt_J8_hugeLength_7cf53 2 rfl) ?_
  refine g_istore_n hC rfl (by decide) (lv' := [(2, vi (a0 + a1)), (0, vi a0), (1, vi a1)]) rfl (rfl : 3 + 1 = 4) (xdt tt_J8_hugeLength_7cf53 3 rfl) ?_
  refine g_iload_n hC rfl 0 rfl (rfl : 4 + 1 = 5) (xdt tt_J8_hugeLength_7cf53 4 rfl) ?_
  refine g_if_ge hC (show ((5 : Nat) : Int) + 44 = ((49 : Nat) : Int) by decide) (rfl : 5 + 3 = 8) (xdt tt_J8_hugeLength_7cf53 5 rfl) (fun hc2 => ?_) (fun hc2 => ?_)
  · replace h := (if_pos hc2).symm.trans h
    refine g_iload_n hC rfl 0 rfl (rfl : 49 + 1 = 50) (xdt tt_J8_hugeLength_7cf53 24 rfl) ?_
    refine g_ldcI hC (z := 2147483639) q245 (rfl : 50 + 2 = 52) (xdt tt_J8_hugeLength_7cf53 25 rfl) ?_
    refine g_icmp_gt hC (show ((52 : Nat) : Int) + 6 = ((58 : Nat) : Int) by decide) (rfl : 52 + 3 = 55) (xdt tt_J8_hugeLength_7cf53 26 rfl) (fun hc1 => ?_) (fun hc1 => ?_)
    · replace h := (if_pos hc1).symm.trans h
      refine g_iload_n hC rfl 0 rfl (rfl : 58 + 1 = 59) (xdt tt_J8_hugeLength_7cf53 29 rfl) ?_
      cases h
      exact g_iret hC hE (xdt tt_J8_hugeLength_7cf53 30 rfl)
    · replace h := (if_neg hc1).symm.trans h
      refine g_ldcI hC (z := 2147483639) q245 (rfl : 55 + 2 = 57) (xdt tt_J8_hugeLength_7cf53 27 rfl) ?_
      cases h
      exact g_iret hC hE (xdt tt_J8_hugeLength_7cf53 28 rfl)
  · replace h := (if_neg hc2).symm.trans h
    cases h
def f_J8_newLength_cabcc (S : xSt) (a0 : Int) (a1 : Int) (a2 : Int) : Option (Int × xSt) :=
  if wr (a0 + (iMax a1 a2)) ≤ wr 0 then
    (bd2 (f_J8_hugeLength_7cf53 S a0 a1) fun v3 S2 =>
    some (v3, S2))
  else
    (if wr 2147483639 < wr (a0 + (iMax a1 a2)) then
      (bd2 (f_J8_hugeLength_7cf53 S a0 a1) fun v6 S5 =>
      some (v6, S5))
    else
      (some ((a0 + (iMax a1 a2)), S)))
set_option maxRecDepth 100000 in
set_option maxHeartbeats 4000000 in
theorem c_J8_newLength_cabcc (l : Launch) {E : xE} {S S' : xSt} {a0 : Int} {a1 : Int} {a2 : Int} {v : Int} (h : f_J8_newLength_cabcc S a0 a1 a2 = some (v, S')) : Met l yJ8_newLength_cabcc (xws yJ8_newLength_cabcc cJ8_newLength_cabcc 4 (some .int)) (rmD 2) (YPc E [vi a0, vi a1, vi a2] S) (YQi E v S') 0 0 (xA E) := by
  unfold f_J8_newLength_cabcc at h
  refine met_i (by decide +kernel) (Nat.le_of_ble_eq_true rfl) (fun K hC hZ hE => ?_)
  have hC : xOK K cJ8_newLength_cabcc RJ8 4 (rmE 2 0) := hC
  show WG K E 0 [(0, vi a0), (1, vi a1), (2, vi a2)] [] S
  refine g_iload_n hC rfl 0 rfl (rfl : 0 + 1 = 1) (xdt tt_J8_newLength_cabcc 0 rfl) ?_
  refine g_iload_n hC rfl 1 rfl (rfl : 1 + 1 = 2) (xdt tt_J8_newLength_cabcc 1 rfl) ?_
  refine g_iload_n hC rfl 2 rfl (rfl : 2 + 1 = 3) (xdt tt_J8_newLength_cabcc 2 rfl) ?_
  refine g_mmax hC hZ q241 q242 q243 q244 (Nat.le_of_ble_eq_true rfl) (Nat.le_of_ble_eq_true rfl) (rfl : 3 + 3 = 6) (xdt tt_J8_newLength_cabcc 3 rfl) ?_
  refine g_iadd hC (rfl : 6 + 1 = 7) (xdt tt_J8_newLength_cabcc 4 rfl) ?_
  refine g_istore_n hC rfl (by decide) (lv' := [(3, vi (a0 + (iMax a1 a2))), (0, vi a0), (1, vi a1), (2, vi a2)]) rfl (rfl : 7 + 1 = 8) (xdt tt_J8_newLength_cabcc 5 rfl) ?_
  refine g_iconst hC (rfl : 8 + 1 = 9) (xdt tt_J8_newLength_cabcc 6 rfl) ?_
  refine g_iload_n hC rfl 0 rfl (rfl : 9 + 1 = 10) (xdt tt_J8_newLength_cabcc 7 rfl) ?_
  refine g_icmp_ge hC (show ((10 : Nat) : Int) + 11 = ((21 : Nat) : Int) by decide) (rfl : 10 + 3 = 13) (xdt tt_J8_newLength_cabcc 8 rfl) (fun hc8 => ?_) (fun hc8 => ?_)
  · replace h := (if_pos hc8).symm.trans h
    refine g_iload_n hC rfl 1 rfl (rfl : 21 + 1 = 22) (xdt tt_J8_newLength_cabcc 14 rfl) ?_
    refine g_iload_n hC rfl 2 rfl (rfl : 22 + 1 = 23) (xdt tt_J8_newLength_cabcc 15 rfl) ?_
    obtain ⟨v3, S2, hc1, h⟩ := bd2_i h
    refine g_callSi hC hZ m_J8_hugeLength_7cf53 q246 (Nat.le_of_ble_eq_true rfl) [vi a0, vi a1] rfl (fun l => c_J8_hugeLength_7cf53 l hc1) rfl (Nat.le_of_ble_eq_true rfl) (rfl : 23 + 3 = 26) (xdt tt_J8_newLength_cabcc 16 rfl) ?_
    cases h
    exact g_iret hC hE (xdt tt_J8_newLength_cabcc 17 rfl)
  · replace h := (if_neg hc8).symm.trans h
    refine g_iload_n hC rfl 0 rfl (rfl : 13 + 1 = 14) (xdt tt_J8_newLength_cabcc 9 rfl) ?_
    refine g_ldcI hC (z := 2147483639) q245 (rfl : 14 + 2 = 16) (xdt tt_J8_newLength_cabcc 10 rfl) ?_
    refine g_icmp_gt hC (show ((16 : Nat) : Int) + 5 = ((21 : Nat) : Int) by decide) (rfl : 16 + 3 = 19) (xdt tt_J8_newLength_cabcc 11 rfl) (fun hc7 => ?_) (fun hc7 => ?_)
    · replace h := (if_pos hc7).symm.trans h
      refine g_iload_n hC rfl 1 rfl (rfl : 21 + 1 = 22) (xdt tt_J8_newLength_cabcc 14 rfl) ?_
      refine g_iload_n hC rfl 2 rfl (rfl : 22 + 1 = 23) (xdt tt_J8_newLength_cabcc 15 rfl) ?_
      obtain ⟨v6, S5, hc4, h⟩ := bd2_i h
      refine g_callSi hC hZ m_J8_hugeLength_7cf53 q246 (Nat.le_of_ble_eq_true rfl) [vi a0, vi a1] rfl (fun l => c_J8_hugeLength_7cf53 l hc4) rfl (Nat.le_of_ble_eq_true rfl) (rfl : 23 + 3 = 26) (xdt tt_J8_newLength_cabcc 16 rfl) ?_
      cases h
      exact g_iret hC hE (xdt tt_J8_newLength_cabcc 17 rfl)
    · replace h := (if_neg hc7).symm.trans h
      refine g_iload_n hC rfl 0 rfl (rfl : 19 + 1 = 20) (xdt tt_J8_newLength_cabcc 12 rfl) ?_
      cases h
      exact g_iret hC hE (xdt tt_J8_newLength_cabcc 13 rfl)

