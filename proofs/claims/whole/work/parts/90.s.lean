/-! the start's world: statics, strings, links, out of what the Statement gives -/
def FLs : List Cond := flatC (Jvm.Cond.and given_1 narrow_1)
def segA (tm : Term) (ty : FieldType) (bs : List Int32) : List Cond := .arrayOf tm ty :: .eq (.length tm) (.int (Int32.ofNat bs.length)) :: (List.range bs.length).map (fun j => .eq (.elem tm (.int (Int32.ofNat j))) (.int (bs.getD j 0)))
def segT (q : String × String × List Int32) : List Cond := segA (.static q.1 q.2.1 "[I") .int q.2.2
def segS (q : String × Nat × String × List Int32) : List Cond := .exactly (.string q.1 q.2.1) "java/lang/String" :: .eq (.field (.string q.1 q.2.1) "java/lang/String" "coder" "B") (.int 0) :: segA (.field (.string q.1 q.2.1) "java/lang/String" "value" "[B") .byte q.2.2.2
theorem seg_in {L : List Cond} {a n : Nat} (h : (FLs.drop a).take n = L) : ∀ c ∈ L, c ∈ FLs := fun c hc => List.mem_of_mem_drop (List.mem_of_mem_take (by rw [h]; exact hc))
theorem segA_T {args : Array Value} {s : State} {A : Nat → Prop} {tm : Term} {ty : FieldType} {bs : List Int32} (h : ∀ c ∈ segA tm ty bs, c.before args s = true) (hN : bs.length < 2 ^ 31) (hA : ∀ a : Nat, a < s.heap.size → ¬ A a) : ∃ t : Nat, tm.eval args s none [] s = some (.ref t) ∧ va_T ty t bs.length (fun j => .int (bs.getD j 0)) A s s.heap :=
  va_Tof hN (h _ List.mem_cons_self) (va_eqt (h _ (List.mem_cons_of_mem _ List.mem_cons_self))) (fun j hj => va_eqt (h _ (List.mem_cons_of_mem _ (List.mem_cons_of_mem _ (List.mem_map.mpr ⟨j, List.mem_range.mpr hj, rfl⟩))))) hA
theorem sg_T0 : (FLs.drop 54).take 8 = segT ("FusionFront", "GREATEST", [6, 32, 20, 40, 8, 30]) := by decide +kernel
theorem sg_T1 : (FLs.drop 27).take 12 = segT ("FusionFront", "KIND_OPS", [1, 1, 1, 1, 2, 1, 1, 4, 1, 1]) := by decide +kernel
theorem sg_T2 : (FLs.drop 45).take 8 = segT ("FusionFront", "LEAST", [1, 8, 2, 4, 1, 0]) := by decide +kernel
theorem sg_T3 : (FLs.drop 14).take 12 = segT ("FusionFront", "LENGTHS", [1, 2, 3, 4, 4, 3, 2, 3, 2, 2]) := by decide +kernel
theorem sg_T4 : (FLs.drop 63).take 11 = segT ("FusionFront", "NO_UNUSED", [0, 0, 0, 0, 0, 0, 0, 0, 0]) := by decide +kernel
theorem sg_T5 : (FLs.drop 5).take 8 = segT ("FusionFront", "USUAL", [4, 16, 8, 16, 4, 0]) := by decide +kernel
theorem sg_T6 : (FLs.drop 77).take 12 = segT ("FusionFrontModel", "LENGTHS", [1, 2, 3, 4, 4, 3, 2, 3, 2, 2]) := by decide +kernel
theorem sg_T7 : (FLs.drop 90).take 12 = segT ("FusionFrontModel", "OPS", [1, 1, 1, 1, 2, 1, 1, 4, 1, 1]) := by decide +kernel
theorem st_ok : ∀ q ∈ xsts, Cond.laysStatic q.1 q.2.1 "[I" ∈ lw_tbl ∧ Cond.initialized q.1 ∈ lw_tbl ∧ (∀ c ∈ segT q, c ∈ FLs) ∧ q.2.2.length + 1 ≤ 2 ^ 31 := List.forall_mem_cons.mpr ⟨⟨(wt_3_11_in _ (List.mem_of_getElem? (i := 3) rfl)), (wt_1_0_in _ (List.mem_of_getElem? (i := 1) rfl)), seg_in sg_T0, Nat.le_of_ble_eq_true rfl⟩, List.forall_mem_cons.mpr ⟨⟨(wt_3_2_in _ (List.mem_of_getElem? (i := 0) rfl)), (wt_1_0_in _ (List.mem_of_getElem? (i := 1) rfl)), seg_in sg_T1, Nat.le_of_ble_eq_true rfl⟩, List.forall_mem_cons.mpr ⟨⟨(wt_3_11_in _ (List.mem_of_getElem? (i := 1) rfl)), (wt_1_0_in _ (List.mem_of_getElem? (i := 1) rfl)), seg_in sg_T2, Nat.le_of_ble_eq_true rfl⟩, List.forall_mem_cons.mpr ⟨⟨(wt_3_1_in _ (List.mem_of_getElem? (i := 14) rfl)), (wt_1_0_in _ (List.mem_of_getElem? (i := 1) rfl)), seg_in sg_T3, Nat.le_of_ble_eq_true rfl⟩, List.forall_mem_cons.mpr ⟨⟨(wt_4_1_in _ (List.mem_of_getElem? (i := 2) rfl)), (wt_1_0_in _ (List.mem_of_getElem? (i := 1) rfl)), seg_in sg_T4, Nat.le_of_ble_eq_true rfl⟩, List.forall_mem_cons.mpr ⟨⟨(wt_1_4_in _ (List.mem_of_getElem? (i := 13) rfl)), (wt_1_0_in _ (List.mem_of_getElem? (i := 1) rfl)), seg_in sg_T5, Nat.le_of_ble_eq_true rfl⟩, List.forall_mem_cons.mpr ⟨⟨(wt_6_9_in _ (List.mem_of_getElem? (i := 8) rfl)), (wt_1_0_in _ (List.mem_of_getElem? (i := 15) rfl)), seg_in sg_T6, Nat.le_of_ble_eq_true rfl⟩, List.forall_mem_cons.mpr ⟨⟨(wt_7_8_in _ (List.mem_of_getElem? (i := 7) rfl)), (wt_1_0_in _ (List.mem_of_getElem? (i := 15) rfl)), seg_in sg_T7, Nat.le_of_ble_eq_true rfl⟩, fun _ h => absurd h List.not_mem_nil⟩⟩⟩⟩⟩⟩⟩⟩
def SSP (q : String × Nat × String × List Int32) : Prop := Cond.stringRef q.1 q.2.1 q.2.2.1 ∈ lw_tbl ∧ (∀ c ∈ segS q, c ∈ FLs) ∧ q.2.2.2.length + 1 ≤ 2 ^ 31
theorem sg_S0 : (FLs.drop 166).take 10 = segS ("FusionFront$Parser", 88, "repeat", [114, 101, 112, 101, 97, 116]) := by decide +kernel
theorem ss_0 : SSP ("FusionFront$Parser", 88, "repeat", [114, 101, 112, 101, 97, 116]) := ⟨(wt_3_4_in _ (List.mem_of_getElem? (i := 1) rfl)), seg_in sg_S0, Nat.le_of_ble_eq_true rfl⟩
theorem sg_S1 : (FLs.drop 176).take 8 = segS ("FusionFront$Parser", 97, "fuse", [102, 117, 115, 101]) := by decide +kernel
theorem ss_1 : SSP ("FusionFront$Parser", 97, "fuse", [102, 117, 115, 101]) := ⟨(wt_3_7_in _ (List.mem_of_getElem? (i := 14) rfl)), seg_in sg_S1, Nat.le_of_ble_eq_true rfl⟩
theorem sg_S2 : (FLs.drop 184).take 7 = segS ("FusionFront", 373, "nop", [110, 111, 112]) := by decide +kernel
theorem ss_2 : SSP ("FusionFront", 373, "nop", [110, 111, 112]) := ⟨(wt_3_8_in _ (List.mem_of_getElem? (i := 10) rfl)), seg_in sg_S2, Nat.le_of_ble_eq_true rfl⟩
theorem sg_S3 : (FLs.drop 191).take 7 = segS ("FusionFront", 375, "add", [97, 100, 100]) := by decide +kernel
theorem ss_3 : SSP ("FusionFront", 375, "add", [97, 100, 100]) := ⟨(wt_3_8_in _ (List.mem_of_getElem? (i := 11) rfl)), seg_in sg_S3, Nat.le_of_ble_eq_true rfl⟩
theorem sg_S4 : (FLs.drop 198).take 7 = segS ("FusionFront", 377, "mov", [109, 111, 118]) := by decide +kernel
theorem ss_4 : SSP ("FusionFront", 377, "mov", [109, 111, 118]) := ⟨(wt_3_8_in _ (List.mem_of_getElem? (i := 12) rfl)), seg_in sg_S4, Nat.le_of_ble_eq_true rfl⟩
theorem sg_S5 : (FLs.drop 205).take 8 = segS ("FusionFront", 379, "load", [108, 111, 97, 100]) := by decide +kernel
theorem ss_5 : SSP ("FusionFront", 379, "load", [108, 111, 97, 100]) := ⟨(wt_3_8_in _ (List.mem_of_getElem? (i := 13) rfl)), seg_in sg_S5, Nat.le_of_ble_eq_true rfl⟩
theorem sg_S6 : (FLs.drop 213).take 9 = segS ("FusionFront", 381, "store", [115, 116, 111, 114, 101]) := by decide +kernel
theorem ss_6 : SSP ("FusionFront", 381, "store", [115, 116, 111, 114, 101]) := ⟨(wt_3_8_in _ (List.mem_of_getElem? (i := 14) rfl)), seg_in sg_S6, Nat.le_of_ble_eq_true rfl⟩
theorem sg_S7 : (FLs.drop 222).take 7 = segS ("FusionFront", 383, "cmp", [99, 109, 112]) := by decide +kernel
theorem ss_7 : SSP ("FusionFront", 383, "cmp", [99, 109, 112]) := ⟨(wt_3_8_in _ (List.mem_of_getElem? (i := 15) rfl)), seg_in sg_S7, Nat.le_of_ble_eq_true rfl⟩
theorem sg_S8 : (FLs.drop 229).take 8 = segS ("FusionFront", 385, "test", [116, 101, 115, 116]) := by decide +kernel
theorem ss_8 : SSP ("FusionFront", 385, "test", [116, 101, 115, 116]) := ⟨(wt_3_9_in _ (List.mem_of_getElem? (i := 0) rfl)), seg_in sg_S8, Nat.le_of_ble_eq_true rfl⟩
theorem sg_S9 : (FLs.drop 237).take 7 = segS ("FusionFront", 387, "div", [100, 105, 118]) := by decide +kernel
theorem ss_9 : SSP ("FusionFront", 387, "div", [100, 105, 118]) := ⟨(wt_3_9_in _ (List.mem_of_getElem? (i := 1) rfl)), seg_in sg_S9, Nat.le_of_ble_eq_true rfl⟩
theorem sg_S10 : (FLs.drop 244).take 8 = segS ("FusionFront", 389, "jump", [106, 117, 109, 112]) := by decide +kernel
theorem ss_10 : SSP ("FusionFront", 389, "jump", [106, 117, 109, 112]) := ⟨(wt_3_9_in _ (List.mem_of_getElem? (i := 2) rfl)), seg_in sg_S10, Nat.le_of_ble_eq_true rfl⟩
theorem sg_S11 : (FLs.drop 252).take 10 = segS ("FusionFront", 391, "branch", [98, 114, 97, 110, 99, 104]) := by decide +kernel
theorem ss_11 : SSP ("FusionFront", 391, "branch", [98, 114, 97, 110, 99, 104]) := ⟨(wt_3_9_in _ (List.mem_of_getElem? (i := 3) rfl)), seg_in sg_S11, Nat.le_of_ble_eq_true rfl⟩
theorem sg_S12 : (FLs.drop 262).take 9 = segS ("FusionFront", 393, "lanes", [108, 97, 110, 101, 115]) := by decide +kernel
theorem ss_12 : SSP ("FusionFront", 393, "lanes", [108, 97, 110, 101, 115]) := ⟨(wt_3_10_in _ (List.mem_of_getElem? (i := 3) rfl)), seg_in sg_S12, Nat.le_of_ble_eq_true rfl⟩
theorem sg_S13 : (FLs.drop 271).take 10 = segS ("FusionFront", 395, "window", [119, 105, 110, 100, 111, 119]) := by decide +kernel
theorem ss_13 : SSP ("FusionFront", 395, "window", [119, 105, 110, 100, 111, 119]) := ⟨(wt_3_10_in _ (List.mem_of_getElem? (i := 4) rfl)), seg_in sg_S13, Nat.le_of_ble_eq_true rfl⟩
theorem sg_S14 : (FLs.drop 281).take 9 = segS ("FusionFront", 397, "queue", [113, 117, 101, 117, 101]) := by decide +kernel
theorem ss_14 : SSP ("FusionFront", 397, "queue", [113, 117, 101, 117, 101]) := ⟨(wt_3_10_in _ (List.mem_of_getElem? (i := 5) rfl)), seg_in sg_S14, Nat.le_of_ble_eq_true rfl⟩
theorem sg_S15 : (FLs.drop 290).take 7 = segS ("FusionFront", 398, "ops", [111, 112, 115]) := by decide +kernel
theorem ss_15 : SSP ("FusionFront", 398, "ops", [111, 112, 115]) := ⟨(wt_3_10_in _ (List.mem_of_getElem? (i := 6) rfl)), seg_in sg_S15, Nat.le_of_ble_eq_true rfl⟩
theorem sg_S16 : (FLs.drop 297).take 8 = segS ("FusionFront", 399, "rate", [114, 97, 116, 101]) := by decide +kernel
theorem ss_16 : SSP ("FusionFront", 399, "rate", [114, 97, 116, 101]) := ⟨(wt_3_10_in _ (List.mem_of_getElem? (i := 7) rfl)), seg_in sg_S16, Nat.le_of_ble_eq_true rfl⟩
theorem sg_S17 : (FLs.drop 305).take 8 = segS ("FusionFront", 401, "loop", [108, 111, 111, 112]) := by decide +kernel
theorem ss_17 : SSP ("FusionFront", 401, "loop", [108, 111, 111, 112]) := ⟨(wt_3_10_in _ (List.mem_of_getElem? (i := 8) rfl)), seg_in sg_S17, Nat.le_of_ble_eq_true rfl⟩
theorem sg_S18 : (FLs.drop 313).take 8 = segS ("FusionFront$Parser", 148, "long", [108, 111, 110, 103]) := by decide +kernel
theorem ss_18 : SSP ("FusionFront$Parser", 148, "long", [108, 111, 110, 103]) := ⟨(wt_3_11_in _ (List.mem_of_getElem? (i := 8) rfl)), seg_in sg_S18, Nat.le_of_ble_eq_true rfl⟩
theorem sg_S19 : (FLs.drop 321).take 8 = segS ("FusionFront$Parser", 159, "back", [98, 97, 99, 107]) := by decide +kernel
theorem ss_19 : SSP ("FusionFront$Parser", 159, "back", [98, 97, 99, 107]) := ⟨(wt_3_11_in _ (List.mem_of_getElem? (i := 13) rfl)), seg_in sg_S19, Nat.le_of_ble_eq_true rfl⟩
theorem sg_S20 : (FLs.drop 329).take 9 = segS ("FusionFront$Parser", 161, "ahead", [97, 104, 101, 97, 100]) := by decide +kernel
theorem ss_20 : SSP ("FusionFront$Parser", 161, "ahead", [97, 104, 101, 97, 100]) := ⟨(wt_3_11_in _ (List.mem_of_getElem? (i := 14) rfl)), seg_in sg_S20, Nat.le_of_ble_eq_true rfl⟩
theorem sg_S21 : (FLs.drop 338).take 9 = segS ("FusionFront$Parser", 163, "times", [116, 105, 109, 101, 115]) := by decide +kernel
theorem ss_21 : SSP ("FusionFront$Parser", 163, "times", [116, 105, 109, 101, 115]) := ⟨(wt_3_12_in _ (List.mem_of_getElem? (i := 3) rfl)), seg_in sg_S21, Nat.le_of_ble_eq_true rfl⟩
theorem sg_S22 : (FLs.drop 347).take 23 = segS ("FusionFront", 146, "no such instruction", [110, 111, 32, 115, 117, 99, 104, 32, 105, 110, 115, 116, 114, 117, 99, 116, 105, 111, 110]) := by decide +kernel
theorem ss_22 : SSP ("FusionFront", 146, "no such instruction", [110, 111, 32, 115, 117, 99, 104, 32, 105, 110, 115, 116, 114, 117, 99, 116, 105, 111, 110]) := ⟨(wt_4_7_in _ (List.mem_of_getElem? (i := 10) rfl)), seg_in sg_S22, Nat.le_of_ble_eq_true rfl⟩
theorem sg_S23 : (FLs.drop 370).take 20 = segS ("FusionFront", 177, "no such property", [110, 111, 32, 115, 117, 99, 104, 32, 112, 114, 111, 112, 101, 114, 116, 121]) := by decide +kernel
theorem ss_23 : SSP ("FusionFront", 177, "no such property", [110, 111, 32, 115, 117, 99, 104, 32, 112, 114, 111, 112, 101, 114, 116, 121]) := ⟨(wt_4_10_in _ (List.mem_of_getElem? (i := 1) rfl)), seg_in sg_S23, Nat.le_of_ble_eq_true rfl⟩
theorem sg_S24 : (FLs.drop 390).take 16 = segS ("FusionFront", 200, "no such kind", [110, 111, 32, 115, 117, 99, 104, 32, 107, 105, 110, 100]) := by decide +kernel
theorem ss_24 : SSP ("FusionFront", 200, "no such kind", [110, 111, 32, 115, 117, 99, 104, 32, 107, 105, 110, 100]) := ⟨(wt_4_12_in _ (List.mem_of_getElem? (i := 12) rfl)), seg_in sg_S24, Nat.le_of_ble_eq_true rfl⟩
theorem sg_S25 : (FLs.drop 406).take 16 = segS ("FusionFront", 206, "no such rule", [110, 111, 32, 115, 117, 99, 104, 32, 114, 117, 108, 101]) := by decide +kernel
theorem ss_25 : SSP ("FusionFront", 206, "no such rule", [110, 111, 32, 115, 117, 99, 104, 32, 114, 117, 108, 101]) := ⟨(wt_4_13_in _ (List.mem_of_getElem? (i := 10) rfl)), seg_in sg_S25, Nat.le_of_ble_eq_true rfl⟩
theorem sg_S26 : (FLs.drop 422).take 30 = segS ("FusionFront", 216, "no such index in the queue", [110, 111, 32, 115, 117, 99, 104, 32, 105, 110, 100, 101, 120, 32, 105, 110, 32, 116, 104, 101, 32, 113, 117, 101, 117, 101]) := by decide +kernel
theorem ss_26 : SSP ("FusionFront", 216, "no such index in the queue", [110, 111, 32, 115, 117, 99, 104, 32, 105, 110, 100, 101, 120, 32, 105, 110, 32, 116, 104, 101, 32, 113, 117, 101, 117, 101]) := ⟨(wt_4_14_in _ (List.mem_of_getElem? (i := 12) rfl)), seg_in sg_S26, Nat.le_of_ble_eq_true rfl⟩
theorem sg_S27 : (FLs.drop 452).take 30 = segS ("FusionFront", 222, "no such property of a loop", [110, 111, 32, 115, 117, 99, 104, 32, 112, 114, 111, 112, 101, 114, 116, 121, 32, 111, 102, 32, 97, 32, 108, 111, 111, 112]) := by decide +kernel
theorem ss_27 : SSP ("FusionFront", 222, "no such property of a loop", [110, 111, 32, 115, 117, 99, 104, 32, 112, 114, 111, 112, 101, 114, 116, 121, 32, 111, 102, 32, 97, 32, 108, 111, 111, 112]) := ⟨(wt_5_0_in _ (List.mem_of_getElem? (i := 10) rfl)), seg_in sg_S27, Nat.le_of_ble_eq_true rfl⟩
theorem sg_S28 : (FLs.drop 482).take 17 = segS ("FusionFront", 247, "no such cause", [110, 111, 32, 115, 117, 99, 104, 32, 99, 97, 117, 115, 101]) := by decide +kernel
theorem ss_28 : SSP ("FusionFront", 247, "no such cause", [110, 111, 32, 115, 117, 99, 104, 32, 99, 97, 117, 115, 101]) := ⟨(wt_5_1_in _ (List.mem_of_getElem? (i := 2) rfl)), seg_in sg_S28, Nat.le_of_ble_eq_true rfl⟩
theorem sg_S29 : (FLs.drop 499).take 46 = segS ("FusionFront", 259, "not one of the latest decoded instructions", [110, 111, 116, 32, 111, 110, 101, 32, 111, 102, 32, 116, 104, 101, 32, 108, 97, 116, 101, 115, 116, 32, 100, 101, 99, 111, 100, 101, 100, 32, 105, 110, 115, 116, 114, 117, 99, 116, 105, 111, 110, 115]) := by decide +kernel
theorem ss_29 : SSP ("FusionFront", 259, "not one of the latest decoded instructions", [110, 111, 116, 32, 111, 110, 101, 32, 111, 102, 32, 116, 104, 101, 32, 108, 97, 116, 101, 115, 116, 32, 100, 101, 99, 111, 100, 101, 100, 32, 105, 110, 115, 116, 114, 117, 99, 116, 105, 111, 110, 115]) := ⟨(wt_5_1_in _ (List.mem_of_getElem? (i := 10) rfl)), seg_in sg_S29, Nat.le_of_ble_eq_true rfl⟩
theorem sg_S30 : (FLs.drop 545).take 22 = segS ("FusionFront", 264, "index out of range", [105, 110, 100, 101, 120, 32, 111, 117, 116, 32, 111, 102, 32, 114, 97, 110, 103, 101]) := by decide +kernel
theorem ss_30 : SSP ("FusionFront", 264, "index out of range", [105, 110, 100, 101, 120, 32, 111, 117, 116, 32, 111, 102, 32, 114, 97, 110, 103, 101]) := ⟨(wt_5_2_in _ (List.mem_of_getElem? (i := 2) rfl)), seg_in sg_S30, Nat.le_of_ble_eq_true rfl⟩
theorem sg_S31 : (FLs.drop 567).take 23 = segS ("FusionFront", 280, "cycles out of range", [99, 121, 99, 108, 101, 115, 32, 111, 117, 116, 32, 111, 102, 32, 114, 97, 110, 103, 101]) := by decide +kernel
theorem ss_31 : SSP ("FusionFront", 280, "cycles out of range", [99, 121, 99, 108, 101, 115, 32, 111, 117, 116, 32, 111, 102, 32, 114, 97, 110, 103, 101]) := ⟨(wt_5_3_in _ (List.mem_of_getElem? (i := 10) rfl)), seg_in sg_S31, Nat.le_of_ble_eq_true rfl⟩
theorem sg_S32 : (FLs.drop 590).take 21 = segS ("FusionFront", 289, "many out of range", [109, 97, 110, 121, 32, 111, 117, 116, 32, 111, 102, 32, 114, 97, 110, 103, 101]) := by decide +kernel
theorem ss_32 : SSP ("FusionFront", 289, "many out of range", [109, 97, 110, 121, 32, 111, 117, 116, 32, 111, 102, 32, 114, 97, 110, 103, 101]) := ⟨(wt_5_11_in _ (List.mem_of_getElem? (i := 0) rfl)), seg_in sg_S32, Nat.le_of_ble_eq_true rfl⟩
theorem sg_S33 : (FLs.drop 611).take 30 = segS ("FusionFront", 294, "no setting that can be set", [110, 111, 32, 115, 101, 116, 116, 105, 110, 103, 32, 116, 104, 97, 116, 32, 99, 97, 110, 32, 98, 101, 32, 115, 101, 116]) := by decide +kernel
theorem ss_33 : SSP ("FusionFront", 294, "no setting that can be set", [110, 111, 32, 115, 101, 116, 116, 105, 110, 103, 32, 116, 104, 97, 116, 32, 99, 97, 110, 32, 98, 101, 32, 115, 101, 116]) := ⟨(wt_5_12_in _ (List.mem_of_getElem? (i := 0) rfl)), seg_in sg_S33, Nat.le_of_ble_eq_true rfl⟩
theorem sg_S34 : (FLs.drop 641).take 22 = segS ("FusionFront", 300, "value out of range", [118, 97, 108, 117, 101, 32, 111, 117, 116, 32, 111, 102, 32, 114, 97, 110, 103, 101]) := by decide +kernel
theorem ss_34 : SSP ("FusionFront", 300, "value out of range", [118, 97, 108, 117, 101, 32, 111, 117, 116, 32, 111, 102, 32, 114, 97, 110, 103, 101]) := ⟨(wt_5_12_in _ (List.mem_of_getElem? (i := 2) rfl)), seg_in sg_S34, Nat.le_of_ble_eq_true rfl⟩
theorem sg_S35 : (FLs.drop 663).take 23 = segS ("FusionFront", 311, "a kind out of range", [97, 32, 107, 105, 110, 100, 32, 111, 117, 116, 32, 111, 102, 32, 114, 97, 110, 103, 101]) := by decide +kernel
theorem ss_35 : SSP ("FusionFront", 311, "a kind out of range", [97, 32, 107, 105, 110, 100, 32, 111, 117, 116, 32, 111, 102, 32, 114, 97, 110, 103, 101]) := ⟨(wt_5_12_in _ (List.mem_of_getElem? (i := 14) rfl)), seg_in sg_S35, Nat.le_of_ble_eq_true rfl⟩
theorem sg_S36 : (FLs.drop 686).take 32 = segS ("FusionFront", 318, "there is such a rule already", [116, 104, 101, 114, 101, 32, 105, 115, 32, 115, 117, 99, 104, 32, 97, 32, 114, 117, 108, 101, 32, 97, 108, 114, 101, 97, 100, 121]) := by decide +kernel
theorem ss_36 : SSP ("FusionFront", 318, "there is such a rule already", [116, 104, 101, 114, 101, 32, 105, 115, 32, 115, 117, 99, 104, 32, 97, 32, 114, 117, 108, 101, 32, 97, 108, 114, 101, 97, 100, 121]) := ⟨(wt_5_13_in _ (List.mem_of_getElem? (i := 9) rfl)), seg_in sg_S36, Nat.le_of_ble_eq_true rfl⟩
theorem sg_S37 : (FLs.drop 718).take 17 = segS ("FusionFront", 321, "no more rules", [110, 111, 32, 109, 111, 114, 101, 32, 114, 117, 108, 101, 115]) := by decide +kernel
theorem ss_37 : SSP ("FusionFront", 321, "no more rules", [110, 111, 32, 109, 111, 114, 101, 32, 114, 117, 108, 101, 115]) := ⟨(wt_5_14_in _ (List.mem_of_getElem? (i := 0) rfl)), seg_in sg_S37, Nat.le_of_ble_eq_true rfl⟩
theorem sg_S38 : (FLs.drop 735).take 25 = segS ("FusionFront", 332, "nothing can be undone", [110, 111, 116, 104, 105, 110, 103, 32, 99, 97, 110, 32, 98, 101, 32, 117, 110, 100, 111, 110, 101]) := by decide +kernel
theorem ss_38 : SSP ("FusionFront", 332, "nothing can be undone", [110, 111, 116, 104, 105, 110, 103, 32, 99, 97, 110, 32, 98, 101, 32, 117, 110, 100, 111, 110, 101]) := ⟨(wt_6_0_in _ (List.mem_of_getElem? (i := 12) rfl)), seg_in sg_S38, Nat.le_of_ble_eq_true rfl⟩
theorem sg_S39 : (FLs.drop 760).take 21 = segS ("FusionFront", 337, "more out of range", [109, 111, 114, 101, 32, 111, 117, 116, 32, 111, 102, 32, 114, 97, 110, 103, 101]) := by decide +kernel
theorem ss_39 : SSP ("FusionFront", 337, "more out of range", [109, 111, 114, 101, 32, 111, 117, 116, 32, 111, 102, 32, 114, 97, 110, 103, 101]) := ⟨(wt_6_1_in _ (List.mem_of_getElem? (i := 8) rfl)), seg_in sg_S39, Nat.le_of_ble_eq_true rfl⟩
theorem sg_S40 : (FLs.drop 781).take 9 = segS ("FusionFront", 357, "long ", [108, 111, 110, 103, 32]) := by decide +kernel
theorem ss_40 : SSP ("FusionFront", 357, "long ", [108, 111, 110, 103, 32]) := ⟨(wt_6_7_in _ (List.mem_of_getElem? (i := 1) rfl)), seg_in sg_S40, Nat.le_of_ble_eq_true rfl⟩
theorem sg_S41 : (FLs.drop 790).take 21 = segS ("FusionFront", 371, "no state is saved", [110, 111, 32, 115, 116, 97, 116, 101, 32, 105, 115, 32, 115, 97, 118, 101, 100]) := by decide +kernel
theorem ss_41 : SSP ("FusionFront", 371, "no state is saved", [110, 111, 32, 115, 116, 97, 116, 101, 32, 105, 115, 32, 115, 97, 118, 101, 100]) := ⟨(wt_6_8_in _ (List.mem_of_getElem? (i := 0) rfl)), seg_in sg_S41, Nat.le_of_ble_eq_true rfl⟩
theorem sg_S42 : (FLs.drop 811).take 119 = segS ("FusionFrontModel", 365, "nop add mov load store cmp test div jump branch lanes window queue ops rate loop fuse repeat long times back ahead ", [110, 111, 112, 32, 97, 100, 100, 32, 109, 111, 118, 32, 108, 111, 97, 100, 32, 115, 116, 111, 114, 101, 32, 99, 109, 112, 32, 116, 101, 115, 116, 32, 100, 105, 118, 32, 106, 117, 109, 112, 32, 98, 114, 97, 110, 99, 104, 32, 108, 97, 110, 101, 115, 32, 119, 105, 110, 100, 111, 119, 32, 113, 117, 101, 117, 101, 32, 111, 112, 115, 32, 114, 97, 116, 101, 32, 108, 111, 111, 112, 32, 102, 117, 115, 101, 32, 114, 101, 112, 101, 97, 116, 32, 108, 111, 110, 103, 32, 116, 105, 109, 101, 115, 32, 98, 97, 99, 107, 32, 97, 104, 101, 97, 100, 32]) := by decide +kernel
theorem ss_42 : SSP ("FusionFrontModel", 365, "nop add mov load store cmp test div jump branch lanes window queue ops rate loop fuse repeat long times back ahead ", [110, 111, 112, 32, 97, 100, 100, 32, 109, 111, 118, 32, 108, 111, 97, 100, 32, 115, 116, 111, 114, 101, 32, 99, 109, 112, 32, 116, 101, 115, 116, 32, 100, 105, 118, 32, 106, 117, 109, 112, 32, 98, 114, 97, 110, 99, 104, 32, 108, 97, 110, 101, 115, 32, 119, 105, 110, 100, 111, 119, 32, 113, 117, 101, 117, 101, 32, 111, 112, 115, 32, 114, 97, 116, 101, 32, 108, 111, 111, 112, 32, 102, 117, 115, 101, 32, 114, 101, 112, 101, 97, 116, 32, 108, 111, 110, 103, 32, 116, 105, 109, 101, 115, 32, 98, 97, 99, 107, 32, 97, 104, 101, 97, 100, 32]) := ⟨(wt_8_14_in _ (List.mem_of_getElem? (i := 0) rfl)), seg_in sg_S42, Nat.le_of_ble_eq_true rfl⟩
set_option maxRecDepth 20000 in
theorem ss_ok : ∀ q ∈ xldc, SSP q := List.forall_mem_cons.mpr ⟨ss_0, List.forall_mem_cons.mpr ⟨ss_1, List.forall_mem_cons.mpr ⟨ss_2, List.forall_mem_cons.mpr ⟨ss_3, List.forall_mem_cons.mpr ⟨ss_4, List.forall_mem_cons.mpr ⟨ss_5, List.forall_mem_cons.mpr ⟨ss_6, List.forall_mem_cons.mpr ⟨ss_7, List.forall_mem_cons.mpr ⟨ss_8, List.forall_mem_cons.mpr ⟨ss_9, List.forall_mem_cons.mpr ⟨ss_10, List.forall_mem_cons.mpr ⟨ss_11, List.forall_mem_cons.mpr ⟨ss_12, List.forall_mem_cons.mpr ⟨ss_13, List.forall_mem_cons.mpr ⟨ss_14, List.forall_mem_cons.mpr ⟨ss_15, List.forall_mem_cons.mpr ⟨ss_16, List.forall_mem_cons.mpr ⟨ss_17, List.forall_mem_cons.mpr ⟨ss_18, List.forall_mem_cons.mpr ⟨ss_19, List.forall_mem_cons.mpr ⟨ss_20, List.forall_mem_cons.mpr ⟨ss_21, List.forall_mem_cons.mpr ⟨ss_22, List.forall_mem_cons.mpr ⟨ss_23, List.forall_mem_cons.mpr ⟨ss_24, List.forall_mem_cons.mpr ⟨ss_25, List.forall_mem_cons.mpr ⟨ss_26, List.forall_mem_cons.mpr ⟨ss_27, List.forall_mem_cons.mpr ⟨ss_28, List.forall_mem_cons.mpr ⟨ss_29, List.forall_mem_cons.mpr ⟨ss_30, List.forall_mem_cons.mpr ⟨ss_31, List.forall_mem_cons.mpr ⟨ss_32, List.forall_mem_cons.mpr ⟨ss_33, List.forall_mem_cons.mpr ⟨ss_34, List.forall_mem_cons.mpr ⟨ss_35, List.forall_mem_cons.mpr ⟨ss_36, List.forall_mem_cons.mpr ⟨ss_37, List.forall_mem_cons.mpr ⟨ss_38, List.forall_mem_cons.mpr ⟨ss_39, List.forall_mem_cons.mpr ⟨ss_40, List.forall_mem_cons.mpr ⟨ss_41, List.forall_mem_cons.mpr ⟨ss_42, fun _ h => absurd h List.not_mem_nil⟩⟩⟩⟩⟩⟩⟩⟩⟩⟩⟩⟩⟩⟩⟩⟩⟩⟩⟩⟩⟩⟩⟩⟩⟩⟩⟩⟩⟩⟩⟩⟩⟩⟩⟩⟩⟩⟩⟩⟩⟩⟩⟩
theorem nf_ok : ∀ q ∈ xnf, Cond.fieldLinkNest q.1 q.2.1 q.2.2.1 q.2.2.2.1 q.2.2.2.2.1 q.2.2.2.2.2 ∈ lw_tbl := List.forall_mem_cons.mpr ⟨(wt_1_4_in _ (List.mem_of_getElem? (i := 12) rfl)), List.forall_mem_cons.mpr ⟨(wt_3_1_in _ (List.mem_of_getElem? (i := 13) rfl)), List.forall_mem_cons.mpr ⟨(wt_3_1_in _ (List.mem_of_getElem? (i := 15) rfl)), fun _ h => absurd h List.not_mem_nil⟩⟩⟩
theorem nm_ok : ∀ q ∈ xnm, Cond.methodLinkNest q.1 q.2.1 q.2.2.1 q.2.2.2 ∈ lw_tbl := List.forall_mem_cons.mpr ⟨(wt_1_3_in _ (List.mem_of_getElem? (i := 2) rfl)), List.forall_mem_cons.mpr ⟨(wt_1_11_in _ (List.mem_of_getElem? (i := 7) rfl)), List.forall_mem_cons.mpr ⟨(wt_1_12_in _ (List.mem_of_getElem? (i := 13) rfl)), List.forall_mem_cons.mpr ⟨(wt_1_13_in _ (List.mem_of_getElem? (i := 0) rfl)), List.forall_mem_cons.mpr ⟨(wt_1_14_in _ (List.mem_of_getElem? (i := 5) rfl)), List.forall_mem_cons.mpr ⟨(wt_2_1_in _ (List.mem_of_getElem? (i := 4) rfl)), List.forall_mem_cons.mpr ⟨(wt_2_2_in _ (List.mem_of_getElem? (i := 0) rfl)), List.forall_mem_cons.mpr ⟨(wt_2_2_in _ (List.mem_of_getElem? (i := 5) rfl)), List.forall_mem_cons.mpr ⟨(wt_2_2_in _ (List.mem_of_getElem? (i := 15) rfl)), List.forall_mem_cons.mpr ⟨(wt_2_11_in _ (List.mem_of_getElem? (i := 7) rfl)), List.forall_mem_cons.mpr ⟨(wt_3_8_in _ (List.mem_of_getElem? (i := 7) rfl)), List.forall_mem_cons.mpr ⟨(wt_3_10_in _ (List.mem_of_getElem? (i := 0) rfl)), List.forall_mem_cons.mpr ⟨(wt_3_10_in _ (List.mem_of_getElem? (i := 13) rfl)), fun _ h => absurd h List.not_mem_nil⟩⟩⟩⟩⟩⟩⟩⟩⟩⟩⟩⟩⟩
theorem de_ok : ∀ x ∈ xdecl, Cond.declares x ∈ lw_tbl := List.forall_mem_cons.mpr ⟨(wt_4_5_in _ (List.mem_of_getElem? (i := 4) rfl)), List.forall_mem_cons.mpr ⟨(wt_4_5_in _ (List.mem_of_getElem? (i := 6) rfl)), List.forall_mem_cons.mpr ⟨(wt_4_5_in _ (List.mem_of_getElem? (i := 8) rfl)), fun _ h => absurd h List.not_mem_nil⟩⟩⟩
theorem ca_ok : ∀ C ∈ xcast, Cond.castable C C ∈ lw_tbl := List.forall_mem_cons.mpr ⟨(wt_4_5_in _ (List.mem_of_getElem? (i := 2) rfl)), List.forall_mem_cons.mpr ⟨(wt_4_12_in _ (List.mem_of_getElem? (i := 5) rfl)), List.forall_mem_cons.mpr ⟨(wt_5_13_in _ (List.mem_of_getElem? (i := 2) rfl)), List.forall_mem_cons.mpr ⟨(wt_4_14_in _ (List.mem_of_getElem? (i := 5) rfl)), fun _ h => absurd h List.not_mem_nil⟩⟩⟩⟩
theorem fl_nc : (Cond.not (.castable "java/lang/IllegalStateException" "java/lang/IllegalArgumentException")) ∈ FLs := List.mem_of_getElem? (i := 133) (by decide +kernel)
theorem fl_cs : (Cond.eq (.static "java/lang/String" "COMPACT_STRINGS" "Z") (.int 1)) ∈ FLs := List.mem_of_getElem? (i := 39) (by decide +kernel)
theorem fl_pf : (Cond.isRef (.static "jdk/internal/util/Preconditions" "SIOOBE_FORMATTER" "Ljava/util/function/BiFunction;")) ∈ FLs := List.mem_of_getElem? (i := 40) (by decide +kernel)
theorem fl_us : (Cond.isRef (.static "java/lang/Throwable" "UNASSIGNED_STACK" "[Ljava/lang/StackTraceElement;")) ∈ FLs := List.mem_of_getElem? (i := 74) (by decide +kernel)
theorem fl_ss : (Cond.isRef (.static "java/lang/Throwable" "SUPPRESSED_SENTINEL" "Ljava/util/List;")) ∈ FLs := List.mem_of_getElem? (i := 75) (by decide +kernel)
theorem st_world {s : State} {args : Array Value} (hts : ∀ w ∈ lw_tbl, w.before args s = true) (hfl : ∀ c ∈ FLs, c.before args s = true) : ∃ ts aK aV : Nat → Nat, ∀ E : xE, xts E = ts → xaK E = aK → xaV E = aV → (∀ a : Nat, a < s.heap.size → ¬ xA E a) → XStat E s s.heap ∧ XTab E s := by
  have h1 : ∀ k : Nat, ∃ t : Nat, ∀ q, xsts[k]? = some q → (Term.static q.1 q.2.1 "[I").eval args s none [] s = some (.ref t) := by
    intro k
    cases hk : xsts[k]? with
    | none => exact ⟨0, fun q h => by cases h⟩
    | some q =>
      obtain ⟨a1, a2, a3, a4⟩ := st_ok q (List.mem_of_getElem? hk)
      obtain ⟨t, t1, -⟩ := segA_T (A := fun _ => False) (fun c hc => hfl c (a3 c hc)) (by omega) (fun _ _ h => h)
      exact ⟨t, fun q' h => by cases h; exact t1⟩
  have h2 : ∀ k : Nat, ∃ t : Nat, ∀ q, xldc[k]? = some q → (Term.string q.1 q.2.1).eval args s none [] s = some (.ref t) := by
    intro k
    cases hk : xldc[k]? with
    | none => exact ⟨0, fun q h => by cases h⟩
    | some q =>
      obtain ⟨a1, a2, a3⟩ := ss_ok q (List.mem_of_getElem? hk)
      obtain ⟨t, c, cA, kA, q1, -⟩ := Cond.exactly_spec (args := args) (first := s) (o := none) (s := s) (idx := []) (t := .string q.1 q.2.1) (cls := "java/lang/String") (hfl _ (a2 _ List.mem_cons_self))
      exact ⟨t, fun q' h => by cases h; exact q1⟩
  have h3 : ∀ k : Nat, ∃ t : Nat, ∀ q, xldc[k]? = some q → (Term.field (.string q.1 q.2.1) "java/lang/String" "value" "[B").eval args s none [] s = some (.ref t) := by
    intro k
    cases hk : xldc[k]? with
    | none => exact ⟨0, fun q h => by cases h⟩
    | some q =>
      obtain ⟨a1, a2, a3⟩ := ss_ok q (List.mem_of_getElem? hk)
      obtain ⟨t, t1, -⟩ := segA_T (A := fun _ => False) (fun c hc => hfl c (a2 c (List.mem_cons_of_mem _ (List.mem_cons_of_mem _ hc)))) (by omega) (fun _ _ h => h)
      exact ⟨t, fun q' h => by cases h; exact t1⟩
  obtain ⟨ts, k1⟩ := Classical.axiomOfChoice h1
  obtain ⟨aK, k2⟩ := Classical.axiomOfChoice h2
  obtain ⟨aV, k3⟩ := Classical.axiomOfChoice h3
  refine ⟨ts, aK, aV, fun E e1 e2 e3 hA => ⟨⟨fun k q hq => ?_, ⟨?_, ?_, ?_, ?_⟩, fun k q hq => ?_⟩, fun k q hq => ?_, fun q hq => ?_, fun q hq => ?_, ?_, fun x hx => ?_, fun C hC => ?_⟩⟩
  · obtain ⟨a1, a2, a3, a4⟩ := st_ok q (List.mem_of_getElem? hq)
    obtain ⟨t, t1, t2⟩ := segA_T (A := xA E) (fun c hc => hfl c (a3 c hc)) (by omega) hA
    have e : t = ts k := by
      have := t1.symm.trans (k1 k q hq)
      injection this with h
      injection h
    rw [e1, ← e]
    exact ⟨va_Zof (hts _ a1) (hts _ a2) t1 hA, t2⟩
  · exact va_Zof (hts _ (wt_3_4_in _ (List.mem_of_getElem? (i := 15) rfl))) (hts _ (wt_1_1_in _ (List.mem_of_getElem? (i := 1) rfl))) (va_eqt (hfl _ fl_cs)) hA
  · exact va_Zqof (hts _ (wt_3_5_in _ (List.mem_of_getElem? (i := 15) rfl))) (hts _ (wt_1_1_in _ (List.mem_of_getElem? (i := 3) rfl))) (hfl _ fl_pf) hA
  · exact vx_Zqof (hts _ (wt_4_6_in _ (List.mem_of_getElem? (i := 11) rfl))) (hts _ (wt_1_1_in _ (List.mem_of_getElem? (i := 5) rfl))) (hfl _ fl_us) hA
  · exact vx_Zqof (hts _ (wt_4_6_in _ (List.mem_of_getElem? (i := 13) rfl))) (hts _ (wt_1_1_in _ (List.mem_of_getElem? (i := 5) rfl))) (hfl _ fl_ss) hA
  · obtain ⟨a1, a2, a3⟩ := ss_ok q (List.mem_of_getElem? hq)
    obtain ⟨t, t1, t2⟩ := segA_T (A := xA E) (fun c hc => hfl c (a2 c (List.mem_cons_of_mem _ (List.mem_cons_of_mem _ hc)))) (by omega) hA
    have e : t = aV k := by
      have := t1.symm.trans (k3 k q hq)
      injection this with h
      injection h
    rw [e2, e3, ← e]
    exact ⟨va_Oof (hfl _ (a2 _ List.mem_cons_self)) (k2 k q hq) hA, vk_OFof (k2 k q hq) (va_eqt (hfl _ (a2 _ (List.mem_cons_of_mem _ List.mem_cons_self)))) hA, vk_OFof (k2 k q hq) t1 hA, t2⟩
  · obtain ⟨a1, a2, a3⟩ := ss_ok q (List.mem_of_getElem? hq)
    rw [e2]
    exact vk_R.of (hts _ a1) (k2 k q hq)
  · exact va_Nw.of rfl (hts _ (nf_ok q hq))
  · exact va_Nw.of rfl (hts _ (nm_ok q hq))
  · exact va_Nc.of (hfl _ fl_nc)
  · exact va_Nw.of rfl (hts _ (de_ok x hx))
  · exact va_Nw.of rfl (hts _ (ca_ok C hC))
theorem st_AO {s : State} {args : Array Value} (hts : ∀ w ∈ lw_tbl, w.before args s = true) : va_AO "FusionFront$Front" s := va_AO.of (hts _ (wt_2_10_in _ (List.mem_of_getElem? (i := 9) rfl)))
