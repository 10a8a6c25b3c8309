/-! the start's world: statics, strings, links, out of what the Statement gives -/
def FLs : List Cond := flatC (Jvm.Cond.and given_1 narrow_1)
def segA (tm : Term) (ty : FieldType) (bs : List Int32) : List Cond := .arrayOf tm ty :: .eq (.length tm) (.int (Int32.ofNat bs.length)) :: (List.range bs.length).map (fun j => .eq (.elem tm (.int (Int32.ofNat j))) (.int (bs.getD j 0)))
def segT (q : String × String × List Int32) : List Cond := segA (.static q.1 q.2.1 "[I") .int q.2.2
def segS (q : String × Nat × String × List Int32) : List Cond := .exactly (.string q.1 q.2.1) "java/lang/String" :: .eq (.field (.string q.1 q.2.1) "java/lang/String" "coder" "B") (.int 0) :: segA (.field (.string q.1 q.2.1) "java/lang/String" "value" "[B") .byte q.2.2.2
theorem seg_in {L : List Cond} {a n : Nat} (h : (FLs.drop a).take n = L) : ∀ c ∈ L, c ∈ FLs := fun c hc => List.mem_of_mem_drop (List.mem_of_mem_take (by rw [h]; exact hc))
theorem segA_T {args : Array Value} {s : State} {A : Nat → Prop} {tm : Term} {ty : FieldType} {bs : List Int32} (h : ∀ c ∈ segA tm ty bs, c.before args s = true) (hN : bs.length < 2 ^ 31) (hA : ∀ a : Nat, a < s.heap.size → ¬ A a) : ∃ t : Nat, tm.eval args s none [] s = some (.ref t) ∧ va_T ty t bs.length (fun j => .int (bs.getD j 0)) A s s.heap :=
  va_Tof hN (h _ List.mem_cons_self) (va_eqt (h _ (List.mem_cons_of_mem _ List.mem_cons_self))) (fun j hj => va_eqt (h _ (List.mem_cons_of_mem _ (List.mem_cons_of_mem _ (List.mem_map.mpr ⟨j, List.mem_range.mpr hj, rfl⟩))))) hA
theorem sg_T0 : (FLs.drop 56).take 8 = segT ("FusionFront", "GREATEST", [6, 32, 20, 40, 8, 30]) := by decide +kernel
theorem sg_T1 : (FLs.drop 34).take 12 = segT ("FusionFront", "KIND_OPS", [1, 1, 1, 1, 2, 1, 1, 4, 1, 1]) := by decide +kernel
theorem sg_T2 : (FLs.drop 47).take 8 = segT ("FusionFront", "LEAST", [1, 8, 2, 4, 1, 0]) := by decide +kernel
theorem sg_T3 : (FLs.drop 21).take 12 = segT ("FusionFront", "LENGTHS", [1, 2, 3, 4, 4, 3, 2, 3, 2, 2]) := by decide +kernel
theorem sg_T4 : (FLs.drop 5).take 8 = segT ("FusionFront", "USUAL", [4, 16, 8, 16, 4, 0]) := by decide +kernel
theorem st_ok : ∀ q ∈ xsts, Cond.laysStatic q.1 q.2.1 "[I" ∈ lw_tbl ∧ Cond.initialized q.1 ∈ lw_tbl ∧ (∀ c ∈ segT q, c ∈ FLs) ∧ q.2.2.length + 1 ≤ 2 ^ 31 := List.forall_mem_cons.mpr ⟨⟨(wt_5_0_in _ (List.mem_of_getElem? (i := 9) rfl)), (wt_1_0_in _ (List.mem_of_getElem? (i := 1) rfl)), seg_in sg_T0, Nat.le_of_ble_eq_true rfl⟩, List.forall_mem_cons.mpr ⟨⟨(wt_4_9_in _ (List.mem_of_getElem? (i := 7) rfl)), (wt_1_0_in _ (List.mem_of_getElem? (i := 1) rfl)), seg_in sg_T1, Nat.le_of_ble_eq_true rfl⟩, List.forall_mem_cons.mpr ⟨⟨(wt_5_0_in _ (List.mem_of_getElem? (i := 7) rfl)), (wt_1_0_in _ (List.mem_of_getElem? (i := 1) rfl)), seg_in sg_T2, Nat.le_of_ble_eq_true rfl⟩, List.forall_mem_cons.mpr ⟨⟨(wt_4_9_in _ (List.mem_of_getElem? (i := 5) rfl)), (wt_1_0_in _ (List.mem_of_getElem? (i := 1) rfl)), seg_in sg_T3, Nat.le_of_ble_eq_true rfl⟩, List.forall_mem_cons.mpr ⟨⟨(wt_1_4_in _ (List.mem_of_getElem? (i := 15) rfl)), (wt_1_0_in _ (List.mem_of_getElem? (i := 1) rfl)), seg_in sg_T4, Nat.le_of_ble_eq_true rfl⟩, fun _ h => absurd h List.not_mem_nil⟩⟩⟩⟩⟩
def SSP (q : String × Nat × String × List Int32) : Prop := Cond.stringRef q.1 q.2.1 q.2.2.1 ∈ lw_tbl ∧ (∀ c ∈ segS q, c ∈ FLs) ∧ q.2.2.2.length + 1 ≤ 2 ^ 31
theorem sg_S0 : (FLs.drop 270).take 17 = segS ("FusionFront", 247, "no such cause", [110, 111, 32, 115, 117, 99, 104, 32, 99, 97, 117, 115, 101]) := by decide +kernel
theorem ss_0 : SSP ("FusionFront", 247, "no such cause", [110, 111, 32, 115, 117, 99, 104, 32, 99, 97, 117, 115, 101]) := ⟨(wt_3_1_in _ (List.mem_of_getElem? (i := 12) rfl)), seg_in sg_S0, Nat.le_of_ble_eq_true rfl⟩
theorem sg_S1 : (FLs.drop 287).take 23 = segS ("FusionFront", 280, "cycles out of range", [99, 121, 99, 108, 101, 115, 32, 111, 117, 116, 32, 111, 102, 32, 114, 97, 110, 103, 101]) := by decide +kernel
theorem ss_1 : SSP ("FusionFront", 280, "cycles out of range", [99, 121, 99, 108, 101, 115, 32, 111, 117, 116, 32, 111, 102, 32, 114, 97, 110, 103, 101]) := ⟨(wt_3_3_in _ (List.mem_of_getElem? (i := 10) rfl)), seg_in sg_S1, Nat.le_of_ble_eq_true rfl⟩
theorem sg_S2 : (FLs.drop 310).take 21 = segS ("FusionFront", 289, "many out of range", [109, 97, 110, 121, 32, 111, 117, 116, 32, 111, 102, 32, 114, 97, 110, 103, 101]) := by decide +kernel
theorem ss_2 : SSP ("FusionFront", 289, "many out of range", [109, 97, 110, 121, 32, 111, 117, 116, 32, 111, 102, 32, 114, 97, 110, 103, 101]) := ⟨(wt_3_14_in _ (List.mem_of_getElem? (i := 4) rfl)), seg_in sg_S2, Nat.le_of_ble_eq_true rfl⟩
theorem sg_S3 : (FLs.drop 331).take 25 = segS ("FusionFront", 332, "nothing can be undone", [110, 111, 116, 104, 105, 110, 103, 32, 99, 97, 110, 32, 98, 101, 32, 117, 110, 100, 111, 110, 101]) := by decide +kernel
theorem ss_3 : SSP ("FusionFront", 332, "nothing can be undone", [110, 111, 116, 104, 105, 110, 103, 32, 99, 97, 110, 32, 98, 101, 32, 117, 110, 100, 111, 110, 101]) := ⟨(wt_4_0_in _ (List.mem_of_getElem? (i := 3) rfl)), seg_in sg_S3, Nat.le_of_ble_eq_true rfl⟩
theorem sg_S4 : (FLs.drop 356).take 21 = segS ("FusionFront", 337, "more out of range", [109, 111, 114, 101, 32, 111, 117, 116, 32, 111, 102, 32, 114, 97, 110, 103, 101]) := by decide +kernel
theorem ss_4 : SSP ("FusionFront", 337, "more out of range", [109, 111, 114, 101, 32, 111, 117, 116, 32, 111, 102, 32, 114, 97, 110, 103, 101]) := ⟨(wt_4_1_in _ (List.mem_of_getElem? (i := 2) rfl)), seg_in sg_S4, Nat.le_of_ble_eq_true rfl⟩
theorem sg_S5 : (FLs.drop 377).take 21 = segS ("FusionFront", 371, "no state is saved", [110, 111, 32, 115, 116, 97, 116, 101, 32, 105, 115, 32, 115, 97, 118, 101, 100]) := by decide +kernel
theorem ss_5 : SSP ("FusionFront", 371, "no state is saved", [110, 111, 32, 115, 116, 97, 116, 101, 32, 105, 115, 32, 115, 97, 118, 101, 100]) := ⟨(wt_4_2_in _ (List.mem_of_getElem? (i := 5) rfl)), seg_in sg_S5, Nat.le_of_ble_eq_true rfl⟩
theorem sg_S6 : (FLs.drop 398).take 10 = segS ("FusionFront$Parser", 88, "repeat", [114, 101, 112, 101, 97, 116]) := by decide +kernel
theorem ss_6 : SSP ("FusionFront$Parser", 88, "repeat", [114, 101, 112, 101, 97, 116]) := ⟨(wt_4_11_in _ (List.mem_of_getElem? (i := 8) rfl)), seg_in sg_S6, Nat.le_of_ble_eq_true rfl⟩
theorem sg_S7 : (FLs.drop 408).take 8 = segS ("FusionFront$Parser", 97, "fuse", [102, 117, 115, 101]) := by decide +kernel
theorem ss_7 : SSP ("FusionFront$Parser", 97, "fuse", [102, 117, 115, 101]) := ⟨(wt_4_12_in _ (List.mem_of_getElem? (i := 7) rfl)), seg_in sg_S7, Nat.le_of_ble_eq_true rfl⟩
theorem sg_S8 : (FLs.drop 416).take 7 = segS ("FusionFront", 373, "nop", [110, 111, 112]) := by decide +kernel
theorem ss_8 : SSP ("FusionFront", 373, "nop", [110, 111, 112]) := ⟨(wt_4_13_in _ (List.mem_of_getElem? (i := 3) rfl)), seg_in sg_S8, Nat.le_of_ble_eq_true rfl⟩
theorem sg_S9 : (FLs.drop 423).take 7 = segS ("FusionFront", 375, "add", [97, 100, 100]) := by decide +kernel
theorem ss_9 : SSP ("FusionFront", 375, "add", [97, 100, 100]) := ⟨(wt_4_13_in _ (List.mem_of_getElem? (i := 4) rfl)), seg_in sg_S9, Nat.le_of_ble_eq_true rfl⟩
theorem sg_S10 : (FLs.drop 430).take 7 = segS ("FusionFront", 377, "mov", [109, 111, 118]) := by decide +kernel
theorem ss_10 : SSP ("FusionFront", 377, "mov", [109, 111, 118]) := ⟨(wt_4_13_in _ (List.mem_of_getElem? (i := 5) rfl)), seg_in sg_S10, Nat.le_of_ble_eq_true rfl⟩
theorem sg_S11 : (FLs.drop 437).take 8 = segS ("FusionFront", 379, "load", [108, 111, 97, 100]) := by decide +kernel
theorem ss_11 : SSP ("FusionFront", 379, "load", [108, 111, 97, 100]) := ⟨(wt_4_13_in _ (List.mem_of_getElem? (i := 6) rfl)), seg_in sg_S11, Nat.le_of_ble_eq_true rfl⟩
theorem sg_S12 : (FLs.drop 445).take 9 = segS ("FusionFront", 381, "store", [115, 116, 111, 114, 101]) := by decide +kernel
theorem ss_12 : SSP ("FusionFront", 381, "store", [115, 116, 111, 114, 101]) := ⟨(wt_4_13_in _ (List.mem_of_getElem? (i := 7) rfl)), seg_in sg_S12, Nat.le_of_ble_eq_true rfl⟩
theorem sg_S13 : (FLs.drop 454).take 7 = segS ("FusionFront", 383, "cmp", [99, 109, 112]) := by decide +kernel
theorem ss_13 : SSP ("FusionFront", 383, "cmp", [99, 109, 112]) := ⟨(wt_4_13_in _ (List.mem_of_getElem? (i := 8) rfl)), seg_in sg_S13, Nat.le_of_ble_eq_true rfl⟩
theorem sg_S14 : (FLs.drop 461).take 8 = segS ("FusionFront", 385, "test", [116, 101, 115, 116]) := by decide +kernel
theorem ss_14 : SSP ("FusionFront", 385, "test", [116, 101, 115, 116]) := ⟨(wt_4_13_in _ (List.mem_of_getElem? (i := 9) rfl)), seg_in sg_S14, Nat.le_of_ble_eq_true rfl⟩
theorem sg_S15 : (FLs.drop 469).take 7 = segS ("FusionFront", 387, "div", [100, 105, 118]) := by decide +kernel
theorem ss_15 : SSP ("FusionFront", 387, "div", [100, 105, 118]) := ⟨(wt_4_13_in _ (List.mem_of_getElem? (i := 10) rfl)), seg_in sg_S15, Nat.le_of_ble_eq_true rfl⟩
theorem sg_S16 : (FLs.drop 476).take 8 = segS ("FusionFront", 389, "jump", [106, 117, 109, 112]) := by decide +kernel
theorem ss_16 : SSP ("FusionFront", 389, "jump", [106, 117, 109, 112]) := ⟨(wt_4_13_in _ (List.mem_of_getElem? (i := 11) rfl)), seg_in sg_S16, Nat.le_of_ble_eq_true rfl⟩
theorem sg_S17 : (FLs.drop 484).take 10 = segS ("FusionFront", 391, "branch", [98, 114, 97, 110, 99, 104]) := by decide +kernel
theorem ss_17 : SSP ("FusionFront", 391, "branch", [98, 114, 97, 110, 99, 104]) := ⟨(wt_4_13_in _ (List.mem_of_getElem? (i := 12) rfl)), seg_in sg_S17, Nat.le_of_ble_eq_true rfl⟩
theorem sg_S18 : (FLs.drop 494).take 9 = segS ("FusionFront", 393, "lanes", [108, 97, 110, 101, 115]) := by decide +kernel
theorem ss_18 : SSP ("FusionFront", 393, "lanes", [108, 97, 110, 101, 115]) := ⟨(wt_4_14_in _ (List.mem_of_getElem? (i := 9) rfl)), seg_in sg_S18, Nat.le_of_ble_eq_true rfl⟩
theorem sg_S19 : (FLs.drop 503).take 10 = segS ("FusionFront", 395, "window", [119, 105, 110, 100, 111, 119]) := by decide +kernel
theorem ss_19 : SSP ("FusionFront", 395, "window", [119, 105, 110, 100, 111, 119]) := ⟨(wt_4_14_in _ (List.mem_of_getElem? (i := 10) rfl)), seg_in sg_S19, Nat.le_of_ble_eq_true rfl⟩
theorem sg_S20 : (FLs.drop 513).take 9 = segS ("FusionFront", 397, "queue", [113, 117, 101, 117, 101]) := by decide +kernel
theorem ss_20 : SSP ("FusionFront", 397, "queue", [113, 117, 101, 117, 101]) := ⟨(wt_4_14_in _ (List.mem_of_getElem? (i := 11) rfl)), seg_in sg_S20, Nat.le_of_ble_eq_true rfl⟩
theorem sg_S21 : (FLs.drop 522).take 7 = segS ("FusionFront", 398, "ops", [111, 112, 115]) := by decide +kernel
theorem ss_21 : SSP ("FusionFront", 398, "ops", [111, 112, 115]) := ⟨(wt_4_14_in _ (List.mem_of_getElem? (i := 12) rfl)), seg_in sg_S21, Nat.le_of_ble_eq_true rfl⟩
theorem sg_S22 : (FLs.drop 529).take 8 = segS ("FusionFront", 399, "rate", [114, 97, 116, 101]) := by decide +kernel
theorem ss_22 : SSP ("FusionFront", 399, "rate", [114, 97, 116, 101]) := ⟨(wt_4_14_in _ (List.mem_of_getElem? (i := 13) rfl)), seg_in sg_S22, Nat.le_of_ble_eq_true rfl⟩
theorem sg_S23 : (FLs.drop 537).take 8 = segS ("FusionFront", 401, "loop", [108, 111, 111, 112]) := by decide +kernel
theorem ss_23 : SSP ("FusionFront", 401, "loop", [108, 111, 111, 112]) := ⟨(wt_4_14_in _ (List.mem_of_getElem? (i := 14) rfl)), seg_in sg_S23, Nat.le_of_ble_eq_true rfl⟩
theorem sg_S24 : (FLs.drop 545).take 8 = segS ("FusionFront$Parser", 148, "long", [108, 111, 110, 103]) := by decide +kernel
theorem ss_24 : SSP ("FusionFront$Parser", 148, "long", [108, 111, 110, 103]) := ⟨(wt_5_0_in _ (List.mem_of_getElem? (i := 14) rfl)), seg_in sg_S24, Nat.le_of_ble_eq_true rfl⟩
theorem sg_S25 : (FLs.drop 553).take 8 = segS ("FusionFront$Parser", 159, "back", [98, 97, 99, 107]) := by decide +kernel
theorem ss_25 : SSP ("FusionFront$Parser", 159, "back", [98, 97, 99, 107]) := ⟨(wt_5_1_in _ (List.mem_of_getElem? (i := 3) rfl)), seg_in sg_S25, Nat.le_of_ble_eq_true rfl⟩
theorem sg_S26 : (FLs.drop 561).take 9 = segS ("FusionFront$Parser", 161, "ahead", [97, 104, 101, 97, 100]) := by decide +kernel
theorem ss_26 : SSP ("FusionFront$Parser", 161, "ahead", [97, 104, 101, 97, 100]) := ⟨(wt_5_1_in _ (List.mem_of_getElem? (i := 4) rfl)), seg_in sg_S26, Nat.le_of_ble_eq_true rfl⟩
theorem sg_S27 : (FLs.drop 570).take 9 = segS ("FusionFront$Parser", 163, "times", [116, 105, 109, 101, 115]) := by decide +kernel
theorem ss_27 : SSP ("FusionFront$Parser", 163, "times", [116, 105, 109, 101, 115]) := ⟨(wt_5_1_in _ (List.mem_of_getElem? (i := 9) rfl)), seg_in sg_S27, Nat.le_of_ble_eq_true rfl⟩
theorem sg_S28 : (FLs.drop 579).take 10 = segS ("FusionFrontLaw", 60, "lanes ", [108, 97, 110, 101, 115, 32]) := by decide +kernel
theorem ss_28 : SSP ("FusionFrontLaw", 60, "lanes ", [108, 97, 110, 101, 115, 32]) := ⟨(wt_5_3_in _ (List.mem_of_getElem? (i := 13) rfl)), seg_in sg_S28, Nat.le_of_ble_eq_true rfl⟩
theorem sg_S29 : (FLs.drop 589).take 12 = segS ("FusionFrontLaw", 73, ";window ", [59, 119, 105, 110, 100, 111, 119, 32]) := by decide +kernel
theorem ss_29 : SSP ("FusionFrontLaw", 73, ";window ", [59, 119, 105, 110, 100, 111, 119, 32]) := ⟨(wt_5_11_in _ (List.mem_of_getElem? (i := 6) rfl)), seg_in sg_S29, Nat.le_of_ble_eq_true rfl⟩
theorem sg_S30 : (FLs.drop 601).take 11 = segS ("FusionFrontLaw", 75, ";queue ", [59, 113, 117, 101, 117, 101, 32]) := by decide +kernel
theorem ss_30 : SSP ("FusionFrontLaw", 75, ";queue ", [59, 113, 117, 101, 117, 101, 32]) := ⟨(wt_5_11_in _ (List.mem_of_getElem? (i := 7) rfl)), seg_in sg_S30, Nat.le_of_ble_eq_true rfl⟩
theorem sg_S31 : (FLs.drop 612).take 9 = segS ("FusionFrontLaw", 77, ";ops ", [59, 111, 112, 115, 32]) := by decide +kernel
theorem ss_31 : SSP ("FusionFrontLaw", 77, ";ops ", [59, 111, 112, 115, 32]) := ⟨(wt_5_11_in _ (List.mem_of_getElem? (i := 8) rfl)), seg_in sg_S31, Nat.le_of_ble_eq_true rfl⟩
theorem sg_S32 : (FLs.drop 621).take 10 = segS ("FusionFrontLaw", 79, ";rate ", [59, 114, 97, 116, 101, 32]) := by decide +kernel
theorem ss_32 : SSP ("FusionFrontLaw", 79, ";rate ", [59, 114, 97, 116, 101, 32]) := ⟨(wt_5_11_in _ (List.mem_of_getElem? (i := 9) rfl)), seg_in sg_S32, Nat.le_of_ble_eq_true rfl⟩
theorem sg_S33 : (FLs.drop 631).take 10 = segS ("FusionFrontLaw", 81, ";loop ", [59, 108, 111, 111, 112, 32]) := by decide +kernel
theorem ss_33 : SSP ("FusionFrontLaw", 81, ";loop ", [59, 108, 111, 111, 112, 32]) := ⟨(wt_5_11_in _ (List.mem_of_getElem? (i := 10) rfl)), seg_in sg_S33, Nat.le_of_ble_eq_true rfl⟩
theorem sg_S34 : (FLs.drop 641).take 26 = segS ("FusionFrontLaw", 83, ";fuse cmp branch;fuse ", [59, 102, 117, 115, 101, 32, 99, 109, 112, 32, 98, 114, 97, 110, 99, 104, 59, 102, 117, 115, 101, 32]) := by decide +kernel
theorem ss_34 : SSP ("FusionFrontLaw", 83, ";fuse cmp branch;fuse ", [59, 102, 117, 115, 101, 32, 99, 109, 112, 32, 98, 114, 97, 110, 99, 104, 59, 102, 117, 115, 101, 32]) := ⟨(wt_5_11_in _ (List.mem_of_getElem? (i := 11) rfl)), seg_in sg_S34, Nat.le_of_ble_eq_true rfl⟩
theorem sg_S35 : (FLs.drop 667).take 7 = segS ("FusionFrontLaw", 41, "nop", [110, 111, 112]) := by decide +kernel
theorem ss_35 : SSP ("FusionFrontLaw", 41, "nop", [110, 111, 112]) := ⟨(wt_5_11_in _ (List.mem_of_getElem? (i := 15) rfl)), seg_in sg_S35, Nat.le_of_ble_eq_true rfl⟩
theorem sg_S36 : (FLs.drop 675).take 7 = segS ("FusionFrontLaw", 43, "add", [97, 100, 100]) := by decide +kernel
theorem ss_36 : SSP ("FusionFrontLaw", 43, "add", [97, 100, 100]) := ⟨(wt_5_12_in _ (List.mem_of_getElem? (i := 0) rfl)), seg_in sg_S36, Nat.le_of_ble_eq_true rfl⟩
theorem sg_S37 : (FLs.drop 683).take 7 = segS ("FusionFrontLaw", 45, "mov", [109, 111, 118]) := by decide +kernel
theorem ss_37 : SSP ("FusionFrontLaw", 45, "mov", [109, 111, 118]) := ⟨(wt_5_12_in _ (List.mem_of_getElem? (i := 1) rfl)), seg_in sg_S37, Nat.le_of_ble_eq_true rfl⟩
theorem sg_S38 : (FLs.drop 691).take 8 = segS ("FusionFrontLaw", 47, "load", [108, 111, 97, 100]) := by decide +kernel
theorem ss_38 : SSP ("FusionFrontLaw", 47, "load", [108, 111, 97, 100]) := ⟨(wt_5_12_in _ (List.mem_of_getElem? (i := 2) rfl)), seg_in sg_S38, Nat.le_of_ble_eq_true rfl⟩
theorem sg_S39 : (FLs.drop 700).take 9 = segS ("FusionFrontLaw", 49, "store", [115, 116, 111, 114, 101]) := by decide +kernel
theorem ss_39 : SSP ("FusionFrontLaw", 49, "store", [115, 116, 111, 114, 101]) := ⟨(wt_5_12_in _ (List.mem_of_getElem? (i := 3) rfl)), seg_in sg_S39, Nat.le_of_ble_eq_true rfl⟩
theorem sg_S40 : (FLs.drop 710).take 7 = segS ("FusionFrontLaw", 51, "cmp", [99, 109, 112]) := by decide +kernel
theorem ss_40 : SSP ("FusionFrontLaw", 51, "cmp", [99, 109, 112]) := ⟨(wt_5_12_in _ (List.mem_of_getElem? (i := 4) rfl)), seg_in sg_S40, Nat.le_of_ble_eq_true rfl⟩
theorem sg_S41 : (FLs.drop 718).take 8 = segS ("FusionFrontLaw", 53, "test", [116, 101, 115, 116]) := by decide +kernel
theorem ss_41 : SSP ("FusionFrontLaw", 53, "test", [116, 101, 115, 116]) := ⟨(wt_5_12_in _ (List.mem_of_getElem? (i := 5) rfl)), seg_in sg_S41, Nat.le_of_ble_eq_true rfl⟩
theorem sg_S42 : (FLs.drop 727).take 7 = segS ("FusionFrontLaw", 55, "div", [100, 105, 118]) := by decide +kernel
theorem ss_42 : SSP ("FusionFrontLaw", 55, "div", [100, 105, 118]) := ⟨(wt_5_12_in _ (List.mem_of_getElem? (i := 6) rfl)), seg_in sg_S42, Nat.le_of_ble_eq_true rfl⟩
theorem sg_S43 : (FLs.drop 735).take 16 = segS ("FusionFrontLaw", 92, "branch back ", [98, 114, 97, 110, 99, 104, 32, 98, 97, 99, 107, 32]) := by decide +kernel
theorem ss_43 : SSP ("FusionFrontLaw", 92, "branch back ", [98, 114, 97, 110, 99, 104, 32, 98, 97, 99, 107, 32]) := ⟨(wt_5_13_in _ (List.mem_of_getElem? (i := 4) rfl)), seg_in sg_S43, Nat.le_of_ble_eq_true rfl⟩
theorem sg_S44 : (FLs.drop 751).take 11 = segS ("FusionFrontLaw", 94, " times ", [32, 116, 105, 109, 101, 115, 32]) := by decide +kernel
theorem ss_44 : SSP ("FusionFrontLaw", 94, " times ", [32, 116, 105, 109, 101, 115, 32]) := ⟨(wt_5_13_in _ (List.mem_of_getElem? (i := 5) rfl)), seg_in sg_S44, Nat.le_of_ble_eq_true rfl⟩
theorem sg_S45 : (FLs.drop 762).take 15 = segS ("FusionFrontLaw", 96, "jump ahead ", [106, 117, 109, 112, 32, 97, 104, 101, 97, 100, 32]) := by decide +kernel
theorem ss_45 : SSP ("FusionFrontLaw", 96, "jump ahead ", [106, 117, 109, 112, 32, 97, 104, 101, 97, 100, 32]) := ⟨(wt_5_13_in _ (List.mem_of_getElem? (i := 6) rfl)), seg_in sg_S45, Nat.le_of_ble_eq_true rfl⟩
theorem sg_S46 : (FLs.drop 777).take 13 = segS ("FusionFrontLaw", 98, "long add;", [108, 111, 110, 103, 32, 97, 100, 100, 59]) := by decide +kernel
theorem ss_46 : SSP ("FusionFrontLaw", 98, "long add;", [108, 111, 110, 103, 32, 97, 100, 100, 59]) := ⟨(wt_5_13_in _ (List.mem_of_getElem? (i := 7) rfl)), seg_in sg_S46, Nat.le_of_ble_eq_true rfl⟩
theorem sg_S47 : (FLs.drop 790).take 30 = segS ("FusionFront", 294, "no setting that can be set", [110, 111, 32, 115, 101, 116, 116, 105, 110, 103, 32, 116, 104, 97, 116, 32, 99, 97, 110, 32, 98, 101, 32, 115, 101, 116]) := by decide +kernel
theorem ss_47 : SSP ("FusionFront", 294, "no setting that can be set", [110, 111, 32, 115, 101, 116, 116, 105, 110, 103, 32, 116, 104, 97, 116, 32, 99, 97, 110, 32, 98, 101, 32, 115, 101, 116]) := ⟨(wt_6_2_in _ (List.mem_of_getElem? (i := 12) rfl)), seg_in sg_S47, Nat.le_of_ble_eq_true rfl⟩
theorem sg_S48 : (FLs.drop 820).take 22 = segS ("FusionFront", 300, "value out of range", [118, 97, 108, 117, 101, 32, 111, 117, 116, 32, 111, 102, 32, 114, 97, 110, 103, 101]) := by decide +kernel
theorem ss_48 : SSP ("FusionFront", 300, "value out of range", [118, 97, 108, 117, 101, 32, 111, 117, 116, 32, 111, 102, 32, 114, 97, 110, 103, 101]) := ⟨(wt_6_2_in _ (List.mem_of_getElem? (i := 14) rfl)), seg_in sg_S48, Nat.le_of_ble_eq_true rfl⟩
theorem sg_S49 : (FLs.drop 842).take 23 = segS ("FusionFront", 146, "no such instruction", [110, 111, 32, 115, 117, 99, 104, 32, 105, 110, 115, 116, 114, 117, 99, 116, 105, 111, 110]) := by decide +kernel
theorem ss_49 : SSP ("FusionFront", 146, "no such instruction", [110, 111, 32, 115, 117, 99, 104, 32, 105, 110, 115, 116, 114, 117, 99, 116, 105, 111, 110]) := ⟨(wt_6_4_in _ (List.mem_of_getElem? (i := 2) rfl)), seg_in sg_S49, Nat.le_of_ble_eq_true rfl⟩
theorem sg_S50 : (FLs.drop 865).take 20 = segS ("FusionFront", 177, "no such property", [110, 111, 32, 115, 117, 99, 104, 32, 112, 114, 111, 112, 101, 114, 116, 121]) := by decide +kernel
theorem ss_50 : SSP ("FusionFront", 177, "no such property", [110, 111, 32, 115, 117, 99, 104, 32, 112, 114, 111, 112, 101, 114, 116, 121]) := ⟨(wt_6_5_in _ (List.mem_of_getElem? (i := 7) rfl)), seg_in sg_S50, Nat.le_of_ble_eq_true rfl⟩
theorem sg_S51 : (FLs.drop 885).take 16 = segS ("FusionFront", 200, "no such kind", [110, 111, 32, 115, 117, 99, 104, 32, 107, 105, 110, 100]) := by decide +kernel
theorem ss_51 : SSP ("FusionFront", 200, "no such kind", [110, 111, 32, 115, 117, 99, 104, 32, 107, 105, 110, 100]) := ⟨(wt_6_6_in _ (List.mem_of_getElem? (i := 1) rfl)), seg_in sg_S51, Nat.le_of_ble_eq_true rfl⟩
theorem sg_S52 : (FLs.drop 901).take 46 = segS ("FusionFront", 259, "not one of the latest decoded instructions", [110, 111, 116, 32, 111, 110, 101, 32, 111, 102, 32, 116, 104, 101, 32, 108, 97, 116, 101, 115, 116, 32, 100, 101, 99, 111, 100, 101, 100, 32, 105, 110, 115, 116, 114, 117, 99, 116, 105, 111, 110, 115]) := by decide +kernel
theorem ss_52 : SSP ("FusionFront", 259, "not one of the latest decoded instructions", [110, 111, 116, 32, 111, 110, 101, 32, 111, 102, 32, 116, 104, 101, 32, 108, 97, 116, 101, 115, 116, 32, 100, 101, 99, 111, 100, 101, 100, 32, 105, 110, 115, 116, 114, 117, 99, 116, 105, 111, 110, 115]) := ⟨(wt_6_7_in _ (List.mem_of_getElem? (i := 4) rfl)), seg_in sg_S52, Nat.le_of_ble_eq_true rfl⟩
theorem sg_S53 : (FLs.drop 947).take 22 = segS ("FusionFront", 264, "index out of range", [105, 110, 100, 101, 120, 32, 111, 117, 116, 32, 111, 102, 32, 114, 97, 110, 103, 101]) := by decide +kernel
theorem ss_53 : SSP ("FusionFront", 264, "index out of range", [105, 110, 100, 101, 120, 32, 111, 117, 116, 32, 111, 102, 32, 114, 97, 110, 103, 101]) := ⟨(wt_6_7_in _ (List.mem_of_getElem? (i := 15) rfl)), seg_in sg_S53, Nat.le_of_ble_eq_true rfl⟩
set_option maxRecDepth 20000 in
theorem ss_ok : ∀ q ∈ xldc, SSP q := List.forall_mem_cons.mpr ⟨ss_0, List.forall_mem_cons.mpr ⟨ss_1, List.forall_mem_cons.mpr ⟨ss_2, List.forall_mem_cons.mpr ⟨ss_3, List.forall_mem_cons.mpr ⟨ss_4, List.forall_mem_cons.mpr ⟨ss_5, List.forall_mem_cons.mpr ⟨ss_6, List.forall_mem_cons.mpr ⟨ss_7, List.forall_mem_cons.mpr ⟨ss_8, List.forall_mem_cons.mpr ⟨ss_9, List.forall_mem_cons.mpr ⟨ss_10, List.forall_mem_cons.mpr ⟨ss_11, List.forall_mem_cons.mpr ⟨ss_12, List.forall_mem_cons.mpr ⟨ss_13, List.forall_mem_cons.mpr ⟨ss_14, List.forall_mem_cons.mpr ⟨ss_15, List.forall_mem_cons.mpr ⟨ss_16, List.forall_mem_cons.mpr ⟨ss_17, List.forall_mem_cons.mpr ⟨ss_18, List.forall_mem_cons.mpr ⟨ss_19, List.forall_mem_cons.mpr ⟨ss_20, List.forall_mem_cons.mpr ⟨ss_21, List.forall_mem_cons.mpr ⟨ss_22, List.forall_mem_cons.mpr ⟨ss_23, List.forall_mem_cons.mpr ⟨ss_24, List.forall_mem_cons.mpr ⟨ss_25, List.forall_mem_cons.mpr ⟨ss_26, List.forall_mem_cons.mpr ⟨ss_27, List.forall_mem_cons.mpr ⟨ss_28, List.forall_mem_cons.mpr ⟨ss_29, List.forall_mem_cons.mpr ⟨ss_30, List.forall_mem_cons.mpr ⟨ss_31, List.forall_mem_cons.mpr ⟨ss_32, List.forall_mem_cons.mpr ⟨ss_33, List.forall_mem_cons.mpr ⟨ss_34, List.forall_mem_cons.mpr ⟨ss_35, List.forall_mem_cons.mpr ⟨ss_36, List.forall_mem_cons.mpr ⟨ss_37, List.forall_mem_cons.mpr ⟨ss_38, List.forall_mem_cons.mpr ⟨ss_39, List.forall_mem_cons.mpr ⟨ss_40, List.forall_mem_cons.mpr ⟨ss_41, List.forall_mem_cons.mpr ⟨ss_42, List.forall_mem_cons.mpr ⟨ss_43, List.forall_mem_cons.mpr ⟨ss_44, List.forall_mem_cons.mpr ⟨ss_45, List.forall_mem_cons.mpr ⟨ss_46, List.forall_mem_cons.mpr ⟨ss_47, List.forall_mem_cons.mpr ⟨ss_48, List.forall_mem_cons.mpr ⟨ss_49, List.forall_mem_cons.mpr ⟨ss_50, List.forall_mem_cons.mpr ⟨ss_51, List.forall_mem_cons.mpr ⟨ss_52, List.forall_mem_cons.mpr ⟨ss_53, fun _ h => absurd h List.not_mem_nil⟩⟩⟩⟩⟩⟩⟩⟩⟩⟩⟩⟩⟩⟩⟩⟩⟩⟩⟩⟩⟩⟩⟩⟩⟩⟩⟩⟩⟩⟩⟩⟩⟩⟩⟩⟩⟩⟩⟩⟩⟩⟩⟩⟩⟩⟩⟩⟩⟩⟩⟩⟩⟩⟩
theorem nf_ok : ∀ q ∈ xnf, Cond.fieldLinkNest q.1 q.2.1 q.2.2.1 q.2.2.2.1 q.2.2.2.2.1 q.2.2.2.2.2 ∈ lw_tbl := List.forall_mem_cons.mpr ⟨(wt_1_4_in _ (List.mem_of_getElem? (i := 14) rfl)), List.forall_mem_cons.mpr ⟨(wt_4_9_in _ (List.mem_of_getElem? (i := 4) rfl)), List.forall_mem_cons.mpr ⟨(wt_4_9_in _ (List.mem_of_getElem? (i := 6) rfl)), fun _ h => absurd h List.not_mem_nil⟩⟩⟩
theorem nm_ok : ∀ q ∈ xnm, Cond.methodLinkNest q.1 q.2.1 q.2.2.1 q.2.2.2 ∈ lw_tbl := List.forall_mem_cons.mpr ⟨(wt_1_3_in _ (List.mem_of_getElem? (i := 6) rfl)), List.forall_mem_cons.mpr ⟨(wt_1_11_in _ (List.mem_of_getElem? (i := 7) rfl)), List.forall_mem_cons.mpr ⟨(wt_1_12_in _ (List.mem_of_getElem? (i := 10) rfl)), List.forall_mem_cons.mpr ⟨(wt_1_12_in _ (List.mem_of_getElem? (i := 13) rfl)), List.forall_mem_cons.mpr ⟨(wt_1_14_in _ (List.mem_of_getElem? (i := 1) rfl)), List.forall_mem_cons.mpr ⟨(wt_2_0_in _ (List.mem_of_getElem? (i := 11) rfl)), List.forall_mem_cons.mpr ⟨(wt_2_1_in _ (List.mem_of_getElem? (i := 7) rfl)), List.forall_mem_cons.mpr ⟨(wt_2_1_in _ (List.mem_of_getElem? (i := 12) rfl)), List.forall_mem_cons.mpr ⟨(wt_2_2_in _ (List.mem_of_getElem? (i := 6) rfl)), List.forall_mem_cons.mpr ⟨(wt_2_10_in _ (List.mem_of_getElem? (i := 12) rfl)), List.forall_mem_cons.mpr ⟨(wt_4_13_in _ (List.mem_of_getElem? (i := 0) rfl)), List.forall_mem_cons.mpr ⟨(wt_4_14_in _ (List.mem_of_getElem? (i := 6) rfl)), List.forall_mem_cons.mpr ⟨(wt_5_0_in _ (List.mem_of_getElem? (i := 3) rfl)), fun _ h => absurd h List.not_mem_nil⟩⟩⟩⟩⟩⟩⟩⟩⟩⟩⟩⟩⟩
theorem de_of {s : State} {args : Array Value} {x : MethodName} {b : ByteArray} {m : Nat} {ret : Option FieldType} (hi : (Cond.instanceMethod x).before args s = true) (hc : (Cond.code x b m ret).before args s = true) : va_Nw (.declares x) s := by
  obtain ⟨r0, r, h1, h2, h3, h4⟩ := va_Decl.of hi hc
  unfold va_Nw Cond.before Cond.holds
  simp only [Cond.value, h1, Option.bind_some, h2, Option.map_some, h3, h4]
  simp
theorem de_ok {s : State} {args : Array Value} (hts : ∀ w ∈ xw, w.before args s = true) : ∀ x ∈ xdecl, va_Nw (.declares x) s := List.forall_mem_cons.mpr ⟨(de_of (x := yJ4_append_15ec4) (hts _ q215) (hts _ q217)), List.forall_mem_cons.mpr ⟨(de_of (x := yJ4_append_cf468) (hts _ q374) (hts _ q376)), List.forall_mem_cons.mpr ⟨(de_of (x := yJ4_append_bf812) (hts _ q346) (hts _ q348)), List.forall_mem_cons.mpr ⟨(de_of (x := yJ4_toString_0e30d) (hts _ q397) (hts _ q399)), List.forall_mem_cons.mpr ⟨(de_of (x := yJ5_isLatin1_aae02) (hts _ q265) (hts _ q266)), List.forall_mem_cons.mpr ⟨(de_of (x := yJ5_getValue_6d5f1) (hts _ q413) (hts _ q414)), List.forall_mem_cons.mpr ⟨(de_of (x := yJ5_length_8abf5) (hts _ q422) (hts _ q423)), List.forall_mem_cons.mpr ⟨(de_of (x := yJ0_coder_7d493) (hts _ q297) (hts _ q299)), List.forall_mem_cons.mpr ⟨(de_of (x := yJ0_length_8abf5) (hts _ q292) (hts _ q294)), fun _ h => absurd h List.not_mem_nil⟩⟩⟩⟩⟩⟩⟩⟩⟩
theorem ca_str {s : State} {args : Array Value} (hts : ∀ w ∈ xw, w.before args s = true) : va_Nw (.castable "java/lang/String" "java/lang/String") s := by
  obtain ⟨c, k, hc, hk, -⟩ := Cond.instantiable_spec (hts _ q401)
  have hc : s.vm.findClass "java/lang/String" = some c := hc
  unfold va_Nw Cond.before Cond.holds
  simp only [Cond.value, hc]
  simp [va_asg]
theorem ca_ok {s : State} {args : Array Value} (hts : ∀ w ∈ lw_tbl, w.before args s = true) : ∀ q ∈ xcast, va_Nw (.castable q.1 q.2) s := List.forall_mem_cons.mpr ⟨ca_str (fun w h => hts w (xw_tbl w h)), List.forall_mem_cons.mpr ⟨va_Nw.of rfl (hts _ (wt_5_6_in _ (List.mem_of_getElem? (i := 2) rfl))), fun _ h => absurd h List.not_mem_nil⟩⟩
theorem sg_D1 : (FLs.drop 65).take 102 = segA (.static "java/lang/Integer" "DigitOnes" "[B") .byte [48, 49, 50, 51, 52, 53, 54, 55, 56, 57, 48, 49, 50, 51, 52, 53, 54, 55, 56, 57, 48, 49, 50, 51, 52, 53, 54, 55, 56, 57, 48, 49, 50, 51, 52, 53, 54, 55, 56, 57, 48, 49, 50, 51, 52, 53, 54, 55, 56, 57, 48, 49, 50, 51, 52, 53, 54, 55, 56, 57, 48, 49, 50, 51, 52, 53, 54, 55, 56, 57, 48, 49, 50, 51, 52, 53, 54, 55, 56, 57, 48, 49, 50, 51, 52, 53, 54, 55, 56, 57, 48, 49, 50, 51, 52, 53, 54, 55, 56, 57] := by decide +kernel
theorem dv_1 : ∀ j : Nat, j < 100 → ([48, 49, 50, 51, 52, 53, 54, 55, 56, 57, 48, 49, 50, 51, 52, 53, 54, 55, 56, 57, 48, 49, 50, 51, 52, 53, 54, 55, 56, 57, 48, 49, 50, 51, 52, 53, 54, 55, 56, 57, 48, 49, 50, 51, 52, 53, 54, 55, 56, 57, 48, 49, 50, 51, 52, 53, 54, 55, 56, 57, 48, 49, 50, 51, 52, 53, 54, 55, 56, 57, 48, 49, 50, 51, 52, 53, 54, 55, 56, 57, 48, 49, 50, 51, 52, 53, 54, 55, 56, 57, 48, 49, 50, 51, 52, 53, 54, 55, 56, 57] : List Int32).getD j 0 = xd1 j := by decide +kernel
theorem sg_D2 : (FLs.drop 168).take 102 = segA (.static "java/lang/Integer" "DigitTens" "[B") .byte [48, 48, 48, 48, 48, 48, 48, 48, 48, 48, 49, 49, 49, 49, 49, 49, 49, 49, 49, 49, 50, 50, 50, 50, 50, 50, 50, 50, 50, 50, 51, 51, 51, 51, 51, 51, 51, 51, 51, 51, 52, 52, 52, 52, 52, 52, 52, 52, 52, 52, 53, 53, 53, 53, 53, 53, 53, 53, 53, 53, 54, 54, 54, 54, 54, 54, 54, 54, 54, 54, 55, 55, 55, 55, 55, 55, 55, 55, 55, 55, 56, 56, 56, 56, 56, 56, 56, 56, 56, 56, 57, 57, 57, 57, 57, 57, 57, 57, 57, 57] := by decide +kernel
theorem dv_2 : ∀ j : Nat, j < 100 → ([48, 48, 48, 48, 48, 48, 48, 48, 48, 48, 49, 49, 49, 49, 49, 49, 49, 49, 49, 49, 50, 50, 50, 50, 50, 50, 50, 50, 50, 50, 51, 51, 51, 51, 51, 51, 51, 51, 51, 51, 52, 52, 52, 52, 52, 52, 52, 52, 52, 52, 53, 53, 53, 53, 53, 53, 53, 53, 53, 53, 54, 54, 54, 54, 54, 54, 54, 54, 54, 54, 55, 55, 55, 55, 55, 55, 55, 55, 55, 55, 56, 56, 56, 56, 56, 56, 56, 56, 56, 56, 57, 57, 57, 57, 57, 57, 57, 57, 57, 57] : List Int32).getD j 0 = xd2 j := by decide +kernel
theorem fl_cs : (Cond.eq (.static "java/lang/String" "COMPACT_STRINGS" "Z") (.int 1)) ∈ FLs := List.mem_of_getElem? (i := 15) (by decide +kernel)
theorem fl_pf : (Cond.isRef (.static "jdk/internal/util/Preconditions" "SIOOBE_FORMATTER" "Ljava/util/function/BiFunction;")) ∈ FLs := List.mem_of_getElem? (i := 16) (by decide +kernel)
theorem st_tdig {t : Nat} {L : List Int32} {f : Nat → Int32} {A : Nat → Prop} {U : State} {H : Heap} (hf : ∀ j : Nat, j < 100 → L.getD j 0 = f j) (hl : L.length = 100) (h : va_T .byte t L.length (fun j => .int (L.getD j 0)) A U H) : va_T .byte t 100 (fun j => .int (f j)) A U H := by
  rw [hl] at h
  obtain ⟨cell, h1, h2, h3, h4, h5, h6, h7⟩ := h
  exact ⟨cell, h1, h2, h3, h4, h5, fun j hj => (h6 j hj).trans (congrArg (fun z => some (Value.int z)) (hf j hj)), h7⟩
theorem st_world {s : State} {args : Array Value} (hts : ∀ w ∈ lw_tbl, w.before args s = true) (hfl : ∀ c ∈ FLs, c.before args s = true) {b L : Nat} {xs : Nat → Int32} (hX : va_X b L xs s s.heap) (hbl : b < s.heap.size) (hL : L ≤ 1000000) : ∃ ts aK aV : Nat → Nat, ∀ E : xE, xts E = ts → xaK E = aK → xaV E = aV → xsb E = b → xsL E = L → (∀ j, xsc E j = (xs j).toInt) → (∀ a : Nat, a < s.heap.size → ¬ xA E a) → XStat E s s.heap ∧ XTab E s := by
  have h1 : ∀ k : Nat, ∃ t : Nat, ∀ q, xsts[k]? = some q → (Term.static q.1 q.2.1 "[I").eval args s none [] s = some (.ref t) := by
    intro k
    cases hk : xsts[k]? with
    | none => exact ⟨0, fun q h => by cases h⟩
    | some q =>
      obtain ⟨a1, a2, a3, a4⟩ := st_ok q (List.mem_of_getElem? hk)
      obtain ⟨t, t1, -⟩ := segA_T (A := fun _ => False) (fun c hc => hfl c (a3 c hc)) (by omega) (fun _ _ h => h)
      exact ⟨t, fun q' h => by cases h; exact t1⟩
  have h2 : ∀ k : Nat, ∃ t : Nat, ∀ q, xldc[k]? = some q → (Term.string q.1 q.2.1).eval args s none [] s = some (.ref t) := by
    intro k
    cases hk : xldc[k]? with
    | none => exact ⟨0, fun q h => by cases h⟩
    | some q =>
      obtain ⟨a1, a2, a3⟩ := ss_ok q (List.mem_of_getElem? hk)
      obtain ⟨t, c, cA, kA, q1, -⟩ := Cond.exactly_spec (args := args) (first := s) (o := none) (s := s) (idx := []) (t := .string q.1 q.2.1) (cls := "java/lang/String") (hfl _ (a2 _ List.mem_cons_self))
      exact ⟨t, fun q' h => by cases h; exact q1⟩
  have h3 : ∀ k : Nat, ∃ t : Nat, ∀ q, xldc[k]? = some q → (Term.field (.string q.1 q.2.1) "java/lang/String" "value" "[B").eval args s none [] s = some (.ref t) := by
    intro k
    cases hk : xldc[k]? with
    | none => exact ⟨0, fun q h => by cases h⟩
    | some q =>
      obtain ⟨a1, a2, a3⟩ := ss_ok q (List.mem_of_getElem? hk)
      obtain ⟨t, t1, -⟩ := segA_T (A := fun _ => False) (fun c hc => hfl c (a2 c (List.mem_cons_of_mem _ (List.mem_cons_of_mem _ hc)))) (by omega) (fun _ _ h => h)
      exact ⟨t, fun q' h => by cases h; exact t1⟩
  obtain ⟨ts, k1⟩ := Classical.axiomOfChoice h1
  obtain ⟨aK, k2⟩ := Classical.axiomOfChoice h2
  obtain ⟨aV, k3⟩ := Classical.axiomOfChoice h3
  refine ⟨ts, aK, aV, fun E e1 e2 e3 e4 e5 e6 hA => ⟨⟨fun k q hq => ?_, ⟨?_, ?_, ?_, ?_, ?_⟩, fun k q hq => ?_⟩, fun k q hq => ?_, fun q hq => ?_, fun q hq => ?_, fun x hx => ?_, fun q hq => ?_⟩⟩
  · obtain ⟨a1, a2, a3, a4⟩ := st_ok q (List.mem_of_getElem? hq)
    obtain ⟨t, t1, t2⟩ := segA_T (A := xA E) (fun c hc => hfl c (a3 c hc)) (by omega) hA
    have e : t = ts k := by
      have := t1.symm.trans (k1 k q hq)
      injection this with h
      injection h
    rw [e1, ← e]
    exact ⟨va_Zof (hts _ a1) (hts _ a2) t1 hA, t2⟩
  · exact va_Zof (hts _ (wt_4_4_in _ (List.mem_of_getElem? (i := 1) rfl))) (hts _ (wt_1_1_in _ (List.mem_of_getElem? (i := 1) rfl))) (va_eqt (hfl _ fl_cs)) hA
  · exact va_Zqof (hts _ (wt_4_5_in _ (List.mem_of_getElem? (i := 1) rfl))) (hts _ (wt_1_1_in _ (List.mem_of_getElem? (i := 5) rfl))) (hfl _ fl_pf) hA
  · obtain ⟨scr, x1, x2, x3, x4, x5⟩ := hX
    rw [e4, e5]
    refine ⟨scr, x1, x2, x3, Nat.le_of_eq x4.symm, by rw [x4], fun j hj => (x5 j hj).trans ?_, hA _ hbl⟩
    show some (Value.int (xs j)) = some (Value.int (Int32.ofInt (xsc E j)))
    rw [e6, Int32.ofInt_toInt]
  · obtain ⟨t, t1, t2⟩ := segA_T (A := xA E) (fun c hc => hfl c (seg_in sg_D1 c hc)) (Nat.le_of_ble_eq_true rfl) hA
    exact ⟨t, va_Zof (hts _ (wt_5_10_in _ (List.mem_of_getElem? (i := 11) rfl))) (hts _ (wt_1_1_in _ (List.mem_of_getElem? (i := 8) rfl))) t1 hA, st_tdig dv_1 rfl t2⟩
  · obtain ⟨t, t1, t2⟩ := segA_T (A := xA E) (fun c hc => hfl c (seg_in sg_D2 c hc)) (Nat.le_of_ble_eq_true rfl) hA
    exact ⟨t, va_Zof (hts _ (wt_5_10_in _ (List.mem_of_getElem? (i := 13) rfl))) (hts _ (wt_1_1_in _ (List.mem_of_getElem? (i := 8) rfl))) t1 hA, st_tdig dv_2 rfl t2⟩
  · obtain ⟨a1, a2, a3⟩ := ss_ok q (List.mem_of_getElem? hq)
    obtain ⟨t, t1, t2⟩ := segA_T (A := xA E) (fun c hc => hfl c (a2 c (List.mem_cons_of_mem _ (List.mem_cons_of_mem _ hc)))) (by omega) hA
    have e : t = aV k := by
      have := t1.symm.trans (k3 k q hq)
      injection this with h
      injection h
    rw [e2, e3, ← e]
    exact ⟨va_Oof (hfl _ (a2 _ List.mem_cons_self)) (k2 k q hq) hA, vk_OFof (k2 k q hq) (va_eqt (hfl _ (a2 _ (List.mem_cons_of_mem _ List.mem_cons_self)))) hA, vk_OFof (k2 k q hq) t1 hA, t2⟩
  · obtain ⟨a1, a2, a3⟩ := ss_ok q (List.mem_of_getElem? hq)
    rw [e2]
    exact vk_R.of (hts _ a1) (k2 k q hq)
  · exact va_Nw.of rfl (hts _ (nf_ok q hq))
  · exact va_Nw.of rfl (hts _ (nm_ok q hq))
  · exact de_ok (fun w h => hts w (xw_tbl w h)) x hx
  · exact ca_ok hts q hq
theorem st_AO {s : State} {args : Array Value} (hts : ∀ w ∈ lw_tbl, w.before args s = true) : va_AO "FusionFront$Front" s := va_AO.of (hts _ (wt_2_9_in _ (List.mem_of_getElem? (i := 14) rfl)))
