/-! mathematics: the cases of the law, from the pairs of calls -/
theorem step_b2457 {r1 r2 r3 L : Nat} {sc : Nat → Int} {Inv : Nat → xSt → Prop} (hL : L ≤ 3072) (hsc : ∀ k, wr (sc k) = sc k) (h : ∀ (m : Nat) (S : xSt) (i1 : Int), m < 512 → wr i1 = i1 → Inv m S → ∃ v1 S1, ∃ v2 S2, f_X11_outputByte_p3_0 S r1 i1 = some (v1, S1) ∧ f_X12_outputByte_p4_0 S1 r2 i1 = some (v2, S2) ∧ wr v1 = wr v2 ∧ Inv (m + 1) S2) : stepOK Inv L (fun c S x => f_law_b2457 c r1 r2 r3 L sc S x) := by
  intro c S m hI hx hgo
  obtain ⟨v1, S1, v2, S2, e1, e2, e4, hI2⟩ := h m S (sc (wr (6 * (m : Int) + 1)).toNat) (by omega) (hsc _) hI
  show ∃ T, f_law_b2457 c r1 r2 r3 L sc S (6 * (m : Int)) = some T
  unfold f_law_b2457 ckI
  rw [if_pos (ckb (k := 1) hL hx (by decide)), bd2_s e1, if_pos (ckb (k := 1) hL hx (by decide)), bd2_s e2, if_pos e4]
  exact hgo S2 hI2
theorem step_b2482 {r1 r2 r3 L : Nat} {sc : Nat → Int} {Inv : Nat → xSt → Prop} (hL : L ≤ 3072) (hsc : ∀ k, wr (sc k) = sc k) (h : ∀ (m : Nat) (S : xSt) , m < 512 → Inv m S → ∃ v1 S1, ∃ v2 S2, f_X11_saveState_p3_0 S r1 = some (v1, S1) ∧ f_X12_saveState_p4_0 S1 r2 = some (v2, S2) ∧ wr v1 = wr v2 ∧ Inv (m + 1) S2) : stepOK Inv L (fun c S x => f_law_b2482 c r1 r2 r3 L sc S x) := by
  intro c S m hI hx hgo
  obtain ⟨v1, S1, v2, S2, e1, e2, e4, hI2⟩ := h m S  (by omega) hI
  show ∃ T, f_law_b2482 c r1 r2 r3 L sc S (6 * (m : Int)) = some T
  unfold f_law_b2482
  rw [bd2_s e1, bd2_s e2, if_pos e4]
  exact hgo S2 hI2
theorem ke_1 {e k : Nat} (h : KE e k = 1 ∨ KE e k = 2) : k = e ∧ KE e k = 1 := by
  by_cases c : k = e
  · exact ⟨c, if_pos c⟩
  · have h0 : KE e k = 0 := if_neg c
    rw [h0] at h
    exact absurd h (by decide)
theorem k2_1 {k : Nat} (h : K2 k = 1 ∨ K2 k = 2) : (k = 2 ∧ K2 k = 1) ∨ (k = 3 ∧ K2 k = 2) := by
  by_cases c : k = 3
  · exact Or.inr ⟨c, if_pos c⟩
  · by_cases c2 : k = 2
    · refine Or.inl ⟨c2, ?_⟩
      subst c2
      rfl
    · have h0 : K2 k = 0 := by
        unfold K2
        rw [if_neg c, if_neg c2]
      rw [h0] at h
      exact absurd h (by decide)
/-- the law's wrapper of a call that answers a boolean -/
theorem glueB {m : Nat} {S : xSt} {fc : Option ((Int ⊕ Nat) × xSt)} {fm : xSt → Option (Int × xSt)} {fl : Option (Int × xSt)} {K : Nat → Int} (hI : INV m S) (h : CALL m S fc fm (fun x v' μ' => match x with | .inl v => ((v = 0 ∨ v = 1) ∧ v = v') ∧ μ' 0 0 = 0 | .inr k => K k = μ' 0 0 ∧ (K k = 1 ∨ K k = 2)))
    (hl : ∀ v S2, (v = 0 ∨ v = 1) → fc = some (.inl v, S2) → fl = some (0, wI S2 14 0 0 v)) (hr : ∀ k S2, fc = some (.inr k, S2) → (K k = 1 ∨ K k = 2) → fl = some (K k, S2)) :
    ∃ v1 S1, ∃ v2 S2, ∃ v3 S3, fl = some (v1, S1) ∧ fm S1 = some (v2, S2) ∧ f_X12_thrown_p4_0 S2 13 = some (v3, S3) ∧ wr v3 = wr v1 ∧ (wr v1 = 0 → wr (iC (wl (wr (gI S3 14 0 0))) (wl (if wr v2 = 0 then 0 else 1))) = 0) ∧ INV (m + 1) S3 := by
  obtain ⟨v, S', e1, e4, e5, e2⟩ := h
  have hfu : 10000000 ≤ fu S' := by
    show 10000000 ≤ S'.1.1
    rw [e4]
    exact hI.1
  rcases v with v | k
  · have eT : (wI S' 14 0 0 v).2.1 13 = S.2.1 13 := by
      rw [← e5]
      funext o' k'
      exact (gI_wI (S := S') (r := 14) (o := 0) (k := 0) (r' := 13) (o' := o') (k' := k') (z := v)).trans (if_neg (fun z => absurd z.1 (by decide)))
    obtain ⟨v', μ', q, q2, e7, e3, e6⟩ := e2 (wI S' 14 0 0 v) hfu eT
    obtain ⟨⟨f1, f3⟩, f2⟩ := e3
    subst f3
    refine ⟨0, wI S' 14 0 0 v, v, sR (wI S' 14 0 0 v) 13 μ', μ' 0 0, sR (wI S' 14 0 0 v) 13 μ', hl v S' f1 e1, e7, ?_, by rw [f2], fun _ => ?_, inv_of (T := wI S' 14 0 0 v) hI e4 rfl rfl (fun r hr => ?_) e6⟩
    · unfold f_X12_thrown_p4_0
      rw [sR_g]
    · rw [sR_n (by decide), gI_wI, if_pos ⟨rfl, rfl, rfl⟩]
      rcases f1 with rfl | rfl
      · decide
      · decide
    · funext o' k'
      exact (gI_wI (S := S') (r := 14) (o := 0) (k := 0) (r' := r) (o' := o') (k' := k') (z := v)).trans (if_neg (fun z => absurd z.1 (by omega)))
  · obtain ⟨v', μ', q, q2, e7, e3, e6⟩ := e2 S' hfu e5
    obtain ⟨f1, f2⟩ := e3
    refine ⟨K k, S', v', _, μ' 0 0, _, hr k S' e1 f2, e7, ?_, by rw [f1], fun hz => ?_, inv_of hI e4 rfl rfl (fun r _ => rfl) e6⟩
    · unfold f_X12_thrown_p4_0
      rw [sR_g]
    · rcases f2 with f2 | f2
      · rw [f2] at hz
        exact absurd hz (by decide)
      · rw [f2] at hz
        exact absurd hz (by decide)
section GL
variable {L : Nat} {sc : Nat → Int}
theorem gl_feed (hL : L ≤ 3072) (hsc : ∀ k, wr (sc k) = sc k) : stepOK INV L (fun c S x => f_law_b248 c 0 13 14 L sc S x) := step_b248 hL hsc (fun m S i1 i2 i3 i4 i5 hm hi1 hi2 hi3 hi4 hi5 hI => by
  obtain ⟨v1, S1, v2, S2, e1, e2, e3, e4⟩ := glueA hI (k_feed hI)
  exact ⟨v1, S1, v2, S2, e1, e2, e3, e4⟩)
theorem gl_truncate (hL : L ≤ 3072) (hsc : ∀ k, wr (sc k) = sc k) : stepOK INV L (fun c S x => f_law_b321 c 0 13 14 L sc S x) := step_b321 hL hsc (fun m S i1 hm hi1 hI => by
  obtain ⟨v1, S1, v2, S2, e1, e2, e3, e4⟩ := glueA hI (k_truncate hI hi1)
  exact ⟨v1, S1, v2, S2, e1, e2, e3, e4⟩)
theorem gl_parse (hL : L ≤ 3072) (hsc : ∀ k, wr (sc k) = sc k) : stepOK INV L (fun c S x => f_law_b346 c 0 13 14 L sc S x) := step_b346 hL hsc (fun m S hm hI => by
  obtain ⟨v1, S1, v2, S2, e1, e2, e3, e4⟩ := glueA hI (k_parse hI)
  exact ⟨v1, S1, v2, S2, e1, e2, e3, e4⟩)
theorem gl_errorCode (hL : L ≤ 3072) (hsc : ∀ k, wr (sc k) = sc k) : stepOK INV L (fun c S x => f_law_b359 c 0 13 14 L sc S x) := step_b359 hL hsc (fun m S hm hI => by
  obtain ⟨v1, S1, v2, S2, e1, e2, e3, e4⟩ := glueA hI (k_errorCode hI)
  exact ⟨v1, S1, v2, S2, e1, e2, e3, e4⟩)
theorem gl_errorOffset (hL : L ≤ 3072) (hsc : ∀ k, wr (sc k) = sc k) : stepOK INV L (fun c S x => f_law_b372 c 0 13 14 L sc S x) := step_b372 hL hsc (fun m S hm hI => by
  obtain ⟨v1, S1, v2, S2, e1, e2, e3, e4⟩ := glueA hI (k_errorOffset hI)
  exact ⟨v1, S1, v2, S2, e1, e2, e3, e4⟩)
theorem gl_count (hL : L ≤ 3072) (hsc : ∀ k, wr (sc k) = sc k) : stepOK INV L (fun c S x => f_law_b385 c 0 13 14 L sc S x) := step_b385 hL hsc (fun m S i1 hm hi1 hI => by
  obtain ⟨v1, S1, v2, S2, e1, e2, e3, e4⟩ := glueA hI (k_count hI hi1)
  exact ⟨v1, S1, v2, S2, e1, e2, e3, e4⟩)
theorem gl_instruction (hL : L ≤ 3072) (hsc : ∀ k, wr (sc k) = sc k) : stepOK INV L (fun c S x => f_law_b410 c 0 13 14 L sc S x) := step_b410 hL hsc (fun m S i1 i2 hm hi1 hi2 hI => glueX hI (k_instruction hI hi1 hi2) (fun v S2 h => by
    unfold f_L_instruction_p3_0_5_0
    rw [h, bd2_e, ckX_l, ckR_e (wr2 _), lt1_e]) (fun k S2 h hk => by
    unfold f_L_instruction_p3_0_5_0
    obtain ⟨c, hK⟩ := ke_1 hk
    rw [h, bd2_e, ckX_r, hK, if_pos c]))
theorem gl_at (hL : L ≤ 3072) (hsc : ∀ k, wr (sc k) = sc k) : stepOK INV L (fun c S x => f_law_b478 c 0 13 14 L sc S x) := step_b478 hL hsc (fun m S i1 hm hi1 hI => by
  obtain ⟨v1, S1, v2, S2, e1, e2, e3, e4⟩ := glueA hI (k_at hI hi1)
  exact ⟨v1, S1, v2, S2, e1, e2, e3, e4⟩)
theorem gl_fusable (hL : L ≤ 3072) (hsc : ∀ k, wr (sc k) = sc k) : stepOK INV L (fun c S x => f_law_b692 c 0 13 14 L sc S x) := step_b692 hL hsc (fun m S hm hI => by
  obtain ⟨v1, S1, v2, S2, e1, e2, e3, e4⟩ := glueA hI (k_fusable hI)
  exact ⟨v1, S1, v2, S2, e1, e2, e3, e4⟩)
theorem gl_crossing (hL : L ≤ 3072) (hsc : ∀ k, wr (sc k) = sc k) : stepOK INV L (fun c S x => f_law_b705 c 0 13 14 L sc S x) := step_b705 hL hsc (fun m S hm hI => by
  obtain ⟨v1, S1, v2, S2, e1, e2, e3, e4⟩ := glueA hI (k_crossing hI)
  exact ⟨v1, S1, v2, S2, e1, e2, e3, e4⟩)
theorem gl_queueAt (hL : L ≤ 3072) (hsc : ∀ k, wr (sc k) = sc k) : stepOK INV L (fun c S x => f_law_b886 c 0 13 14 L sc S x) := step_b886 hL hsc (fun m S i1 hm hi1 hI => glueX hI (k_queueAt hI hi1) (fun v S2 h => by
    unfold f_L_queueAt_p3_0_5_0
    rw [h, bd2_e, ckX_l, ckR_e (wr2 _), lt1_e]) (fun k S2 h hk => by
    unfold f_L_queueAt_p3_0_5_0
    obtain ⟨c, hK⟩ := ke_1 hk
    rw [h, bd2_e, ckX_r, hK, if_pos c]))
theorem gl_loop (hL : L ≤ 3072) (hsc : ∀ k, wr (sc k) = sc k) : stepOK INV L (fun c S x => f_law_b942 c 0 13 14 L sc S x) := step_b942 hL hsc (fun m S i1 hm hi1 hI => glueX hI (k_loop hI hi1) (fun v S2 h => by
    unfold f_L_loop_p3_0_5_0
    rw [h, bd2_e, ckX_l, ckR_e (wr2 _), lt1_e]) (fun k S2 h hk => by
    unfold f_L_loop_p3_0_5_0
    obtain ⟨c, hK⟩ := ke_1 hk
    rw [h, bd2_e, ckX_r, hK, if_pos c]))
theorem gl_isCut (hL : L ≤ 3072) (hsc : ∀ k, wr (sc k) = sc k) : stepOK INV L (fun c S x => f_law_b998 c 0 13 14 L sc S x) := step_b998 hL hsc (fun m S hm hI => by
  obtain ⟨v1, S1, v2, S2, e1, e2, e3, e4⟩ := glueA hI (k_isCut hI)
  exact ⟨v1, S1, v2, S2, e1, e2, e3, e4⟩)
theorem gl_bubbles (hL : L ≤ 3072) (hsc : ∀ k, wr (sc k) = sc k) : stepOK INV L (fun c S x => f_law_b1011 c 0 13 14 L sc S x) := step_b1011 hL hsc (fun m S i1 hm hi1 hI => glueX hI (k_bubbles hI hi1) (fun v S2 h => by
    unfold f_L_bubbles_p3_0_5_0
    rw [h, bd2_e, ckX_l, ckR_e (wr2 _), lt1_e]) (fun k S2 h hk => by
    unfold f_L_bubbles_p3_0_5_0
    obtain ⟨c, hK⟩ := ke_1 hk
    rw [h, bd2_e, ckX_r, hK, if_pos c]))
theorem gl_mainCause (hL : L ≤ 3072) (hsc : ∀ k, wr (sc k) = sc k) : stepOK INV L (fun c S x => f_law_b1067 c 0 13 14 L sc S x) := step_b1067 hL hsc (fun m S hm hI => by
  obtain ⟨v1, S1, v2, S2, e1, e2, e3, e4⟩ := glueA hI (k_mainCause hI)
  exact ⟨v1, S1, v2, S2, e1, e2, e3, e4⟩)
theorem gl_decoded (hL : L ≤ 3072) (hsc : ∀ k, wr (sc k) = sc k) : stepOK INV L (fun c S x => f_law_b1080 c 0 13 14 L sc S x) := step_b1080 hL hsc (fun m S i1 hm hi1 hI => glueX hI (k_decoded hI hm hi1) (fun v S2 h => by
    unfold f_L_decoded_p3_0_5_0
    rw [h, bd2_e, ckX_l, ckR_e (wr2 _), lt1_e]) (fun k S2 h hk => by
    unfold f_L_decoded_p3_0_5_0
    obtain ⟨c, hK⟩ := ke_1 hk
    rw [h, bd2_e, ckX_r, hK, if_pos c]))
theorem gl_plain (hL : L ≤ 3072) (hsc : ∀ k, wr (sc k) = sc k) : stepOK INV L (fun c S x => f_law_b1136 c 0 13 14 L sc S x) := step_b1136 hL hsc (fun m S i1 hm hi1 hI => glueX hI (k_plain hI hi1) (fun v S2 h => by
    unfold f_L_plain_p3_0_5_0
    rw [h, bd2_e, ckX_l, ckR_e (wr2 _), lt1_e]) (fun k S2 h hk => by
    unfold f_L_plain_p3_0_5_0
    obtain ⟨c, hK⟩ := ke_1 hk
    rw [h, bd2_e, ckX_r, hK, if_pos c]))
theorem gl_agrees (hL : L ≤ 3072) (hsc : ∀ k, wr (sc k) = sc k) : stepOK INV L (fun c S x => f_law_b1192 c 0 13 14 L sc S x) := step_b1192 hL hsc (fun m S hm hI => by
  obtain ⟨v1, S1, v2, S2, e1, e2, e3, e4⟩ := glueA hI (k_agrees hI hm)
  exact ⟨v1, S1, v2, S2, e1, e2, e3, e4⟩)
theorem gl_times (hL : L ≤ 3072) (hsc : ∀ k, wr (sc k) = sc k) : stepOK INV L (fun c S x => f_law_b1205 c 0 13 14 L sc S x) := step_b1205 hL hsc (fun m S i1 hm hi1 hI => glueX hI (k_times hI hi1) (fun v S2 h => by
    unfold f_L_times_p3_0_5_0
    rw [h, bd2_e, ckX_l, ckR_e (wr2 _), lt1_e]) (fun k S2 h hk => by
    unfold f_L_times_p3_0_5_0
    obtain ⟨c, hK⟩ := ke_1 hk
    rw [h, bd2_e, ckX_r, hK, if_pos c]))
theorem gl_run (hL : L ≤ 3072) (hsc : ∀ k, wr (sc k) = sc k) : stepOK INV L (fun c S x => f_law_b1345 c 0 13 14 L sc S x) := step_b1345 hL hsc (fun m S i1 hm hi1 hI => glueX hI (k_run hI hm hi1) (fun v S2 h => by
    unfold f_L_run_p3_0_5_0
    rw [h, bd2_e, ckX_l, ckR_e (wr2 _), lt1_e]) (fun k S2 h hk => by
    unfold f_L_run_p3_0_5_0
    obtain ⟨c, hK⟩ := ke_1 hk
    rw [h, bd2_e, ckX_r, hK, if_pos c]))
theorem gl_runTo (hL : L ≤ 3072) (hsc : ∀ k, wr (sc k) = sc k) : stepOK INV L (fun c S x => f_law_b1401 c 0 13 14 L sc S x) := step_b1401 hL hsc (fun m S i1 hm hi1 hI => glueX hI (k_runTo hI hm hi1) (fun v S2 h => by
    unfold f_L_runTo_p3_0_5_0
    rw [h, bd2_e, ckX_l, ckR_e (wr2 _), lt1_e]) (fun k S2 h hk => by
    unfold f_L_runTo_p3_0_5_0
    obtain ⟨c, hK⟩ := ke_1 hk
    rw [h, bd2_e, ckX_r, hK, if_pos c]))
theorem gl_stall (hL : L ≤ 3072) (hsc : ∀ k, wr (sc k) = sc k) : stepOK INV L (fun c S x => f_law_b1457 c 0 13 14 L sc S x) := step_b1457 hL hsc (fun m S i1 hm hi1 hI => glueX hI (k_stall hI hi1) (fun v S2 h => by
    unfold f_L_stall_p3_0_5_0
    rw [h, bd2_e, ckX_l, ckR_e (wr2 _), lt1_e]) (fun k S2 h hk => by
    unfold f_L_stall_p3_0_5_0
    obtain ⟨c, hK⟩ := ke_1 hk
    rw [h, bd2_e, ckX_r, hK, if_pos c]))
theorem gl_set (hL : L ≤ 3072) (hsc : ∀ k, wr (sc k) = sc k) : stepOK INV L (fun c S x => f_law_b1513 c 0 13 14 L sc S x) := step_b1513 hL hsc (fun m S i1 i2 hm hi1 hi2 hI => glueX hI (k_set hI hi1 hi2) (fun v S2 h => by
    unfold f_L_set_p3_0_5_0
    rw [h, bd2_e, ckX_l, ckR_e (wr2 _), lt1_e]) (fun k S2 h hk => by
    unfold f_L_set_p3_0_5_0
    obtain ⟨c, hK⟩ := ke_1 hk
    rw [h, bd2_e, ckX_r, hK, if_pos c]))
theorem gl_addRule (hL : L ≤ 3072) (hsc : ∀ k, wr (sc k) = sc k) : stepOK INV L (fun c S x => f_law_b1581 c 0 13 14 L sc S x) := step_b1581 hL hsc (fun m S i1 i2 hm hi1 hi2 hI => glueX hI (k_addRule hI hi1 hi2) (fun v S2 h => by
    unfold f_L_addRule_p3_0_5_0
    rw [h, bd2_e, ckX_l, ckR_e (wr2 _), lt1_e]) (fun k S2 h hk => by
    unfold f_L_addRule_p3_0_5_0
    rcases k2_1 hk with ⟨c, hK⟩ | ⟨c, hK⟩
    · rw [h, bd2_e, ckX_r, hK, if_pos c]
    · rw [h, bd2_e, ckX_r, hK, if_neg (by omega), if_pos c]))
theorem gl_removeRule (hL : L ≤ 3072) (hsc : ∀ k, wr (sc k) = sc k) : stepOK INV L (fun c S x => f_law_b1649 c 0 13 14 L sc S x) := step_b1649 hL hsc (fun m S i1 hm hi1 hI => glueX hI (k_removeRule hI hi1) (fun v S2 h => by
    unfold f_L_removeRule_p3_0_5_0
    rw [h, bd2_e, ckX_l, ckR_e (wr2 _), lt1_e]) (fun k S2 h hk => by
    unfold f_L_removeRule_p3_0_5_0
    obtain ⟨c, hK⟩ := ke_1 hk
    rw [h, bd2_e, ckX_r, hK, if_pos c]))
theorem gl_redirect (hL : L ≤ 3072) (hsc : ∀ k, wr (sc k) = sc k) : stepOK INV L (fun c S x => f_law_b1705 c 0 13 14 L sc S x) := step_b1705 hL hsc (fun m S i1 hm hi1 hI => glueX hI (k_redirect hI hi1) (fun v S2 h => by
    unfold f_L_redirect_p3_0_5_0
    rw [h, bd2_e, ckX_l, ckR_e (wr2 _), lt1_e]) (fun k S2 h hk => by
    unfold f_L_redirect_p3_0_5_0
    obtain ⟨c, hK⟩ := ke_1 hk
    rw [h, bd2_e, ckX_r, hK, if_pos c]))
theorem gl_undo (hL : L ≤ 3072) (hsc : ∀ k, wr (sc k) = sc k) : stepOK INV L (fun c S x => f_law_b1761 c 0 13 14 L sc S x) := step_b1761 hL hsc (fun m S hm hI => glueX hI (k_undo hI) (fun v S2 h => by
    unfold f_L_undo_p3_0_5_0
    rw [h, bd2_e, ckX_l, ckR_e (wr2 _), lt1_e]) (fun k S2 h hk => by
    unfold f_L_undo_p3_0_5_0
    obtain ⟨c, hK⟩ := ke_1 hk
    rw [h, bd2_e, ckX_r, hK, if_pos c]))
theorem gl_cyclesTo (hL : L ≤ 3072) (hsc : ∀ k, wr (sc k) = sc k) : stepOK INV L (fun c S x => f_law_b1805 c 0 13 14 L sc S x) := step_b1805 hL hsc (fun m S i1 hm hi1 hI => glueX hI (k_cyclesTo hI hm hi1) (fun v S2 h => by
    unfold f_L_cyclesTo_p3_0_5_0
    rw [h, bd2_e, ckX_l, ckR_e (wr2 _), lt1_e]) (fun k S2 h hk => by
    unfold f_L_cyclesTo_p3_0_5_0
    obtain ⟨c, hK⟩ := ke_1 hk
    rw [h, bd2_e, ckX_r, hK, if_pos c]))
theorem gl_nextBubbles (hL : L ≤ 3072) (hsc : ∀ k, wr (sc k) = sc k) : stepOK INV L (fun c S x => f_law_b1861 c 0 13 14 L sc S x) := step_b1861 hL hsc (fun m S i1 hm hi1 hI => glueX hI (k_nextBubbles hI hm hi1) (fun v S2 h => by
    unfold f_L_nextBubbles_p3_0_5_0
    rw [h, bd2_e, ckX_l, ckR_e (wr2 _), lt1_e]) (fun k S2 h hk => by
    unfold f_L_nextBubbles_p3_0_5_0
    obtain ⟨c, hK⟩ := ke_1 hk
    rw [h, bd2_e, ckX_r, hK, if_pos c]))
theorem gl_bubblesIn (hL : L ≤ 3072) (hsc : ∀ k, wr (sc k) = sc k) : stepOK INV L (fun c S x => f_law_b1917 c 0 13 14 L sc S x) := step_b1917 hL hsc (fun m S i1 i2 hm hi1 hi2 hI => glueX hI (k_bubblesIn hI hm hi1 hi2) (fun v S2 h => by
    unfold f_L_bubblesIn_p3_0_5_0
    rw [h, bd2_e, ckX_l, ckR_e (wr2 _), lt1_e]) (fun k S2 h hk => by
    unfold f_L_bubblesIn_p3_0_5_0
    obtain ⟨c, hK⟩ := ke_1 hk
    rw [h, bd2_e, ckX_r, hK, if_pos c]))
theorem gl_roomNeeded (hL : L ≤ 3072) (hsc : ∀ k, wr (sc k) = sc k) : stepOK INV L (fun c S x => f_law_b1985 c 0 13 14 L sc S x) := step_b1985 hL hsc (fun m S i1 hm hi1 hI => glueX hI (k_roomNeeded hI hm hi1) (fun v S2 h => by
    unfold f_L_roomNeeded_p3_0_5_0
    rw [h, bd2_e, ckX_l, ckR_e (wr2 _), lt1_e]) (fun k S2 h hk => by
    unfold f_L_roomNeeded_p3_0_5_0
    obtain ⟨c, hK⟩ := ke_1 hk
    rw [h, bd2_e, ckX_r, hK, if_pos c]))
theorem gl_bestLanes (hL : L ≤ 3072) (hsc : ∀ k, wr (sc k) = sc k) : stepOK INV L (fun c S x => f_law_b2041 c 0 13 14 L sc S x) := step_b2041 hL hsc (fun m S i1 hm hi1 hI => glueX hI (k_bestLanes hI hm hi1) (fun v S2 h => by
    unfold f_L_bestLanes_p3_0_5_0
    rw [h, bd2_e, ckX_l, ckR_e (wr2 _), lt1_e]) (fun k S2 h hk => by
    unfold f_L_bestLanes_p3_0_5_0
    obtain ⟨c, hK⟩ := ke_1 hk
    rw [h, bd2_e, ckX_r, hK, if_pos c]))
theorem gl_bestRate (hL : L ≤ 3072) (hsc : ∀ k, wr (sc k) = sc k) : stepOK INV L (fun c S x => f_law_b2097 c 0 13 14 L sc S x) := step_b2097 hL hsc (fun m S i1 hm hi1 hI => glueX hI (k_bestRate hI hm hi1) (fun v S2 h => by
    unfold f_L_bestRate_p3_0_5_0
    rw [h, bd2_e, ckX_l, ckR_e (wr2 _), lt1_e]) (fun k S2 h hk => by
    unfold f_L_bestRate_p3_0_5_0
    obtain ⟨c, hK⟩ := ke_1 hk
    rw [h, bd2_e, ckX_r, hK, if_pos c]))
theorem gl_bestLoop (hL : L ≤ 3072) (hsc : ∀ k, wr (sc k) = sc k) : stepOK INV L (fun c S x => f_law_b2153 c 0 13 14 L sc S x) := step_b2153 hL hsc (fun m S i1 hm hi1 hI => glueX hI (k_bestLoop hI hm hi1) (fun v S2 h => by
    unfold f_L_bestLoop_p3_0_5_0
    rw [h, bd2_e, ckX_l, ckR_e (wr2 _), lt1_e]) (fun k S2 h hk => by
    unfold f_L_bestLoop_p3_0_5_0
    obtain ⟨c, hK⟩ := ke_1 hk
    rw [h, bd2_e, ckX_r, hK, if_pos c]))
theorem gl_cyclesUntil (hL : L ≤ 3072) (hsc : ∀ k, wr (sc k) = sc k) : stepOK INV L (fun c S x => f_law_b2209 c 0 13 14 L sc S x) := step_b2209 hL hsc (fun m S i1 hm hi1 hI => glueX hI (k_cyclesUntil hI hm hi1) (fun v S2 h => by
    unfold f_L_cyclesUntil_p3_0_5_0
    rw [h, bd2_e, ckX_l, ckR_e (wr2 _), lt1_e]) (fun k S2 h hk => by
    unfold f_L_cyclesUntil_p3_0_5_0
    obtain ⟨c, hK⟩ := ke_1 hk
    rw [h, bd2_e, ckX_r, hK, if_pos c]))
theorem gl_mainCauseIn (hL : L ≤ 3072) (hsc : ∀ k, wr (sc k) = sc k) : stepOK INV L (fun c S x => f_law_b2265 c 0 13 14 L sc S x) := step_b2265 hL hsc (fun m S i1 hm hi1 hI => glueX hI (k_mainCauseIn hI hm hi1) (fun v S2 h => by
    unfold f_L_mainCauseIn_p3_0_5_0
    rw [h, bd2_e, ckX_l, ckR_e (wr2 _), lt1_e]) (fun k S2 h hk => by
    unfold f_L_mainCauseIn_p3_0_5_0
    obtain ⟨c, hK⟩ := ke_1 hk
    rw [h, bd2_e, ckX_r, hK, if_pos c]))
theorem gl_ruleGain (hL : L ≤ 3072) (hsc : ∀ k, wr (sc k) = sc k) : stepOK INV L (fun c S x => f_law_b2321 c 0 13 14 L sc S x) := step_b2321 hL hsc (fun m S i1 i2 i3 hm hi1 hi2 hi3 hI => glueX hI (k_ruleGain hI hm hi1 hi2 hi3) (fun v S2 h => by
    unfold f_L_ruleGain_p3_0_5_0
    rw [h, bd2_e, ckX_l, ckR_e (wr2 _), lt1_e]) (fun k S2 h hk => by
    unfold f_L_ruleGain_p3_0_5_0
    obtain ⟨c, hK⟩ := ke_1 hk
    rw [h, bd2_e, ckX_r, hK, if_pos c]))
theorem gl_printInstruction (hL : L ≤ 3072) (hsc : ∀ k, wr (sc k) = sc k) : stepOK INV L (fun c S x => f_law_b2401 c 0 13 14 L sc S x) := step_b2401 hL hsc (fun m S i1 hm hi1 hI => glueX hI (k_printInstruction hI hi1) (fun v S2 h => by
    unfold f_L_printInstruction_p3_0_5_0
    rw [h, bd2_e, ckX_l, ckR_e (wr2 _), lt1_e]) (fun k S2 h hk => by
    unfold f_L_printInstruction_p3_0_5_0
    obtain ⟨c, hK⟩ := ke_1 hk
    rw [h, bd2_e, ckX_r, hK, if_pos c]))
theorem gl_restoreState (hL : L ≤ 3072) (hsc : ∀ k, wr (sc k) = sc k) : stepOK INV L (fun c S x => f_law_b2495 c 0 13 14 L sc S x) := step_b2495 hL hsc (fun m S hm hI => glueX hI (k_restoreState hI) (fun v S2 h => by
    unfold f_L_restoreState_p3_0_5_0
    rw [h, bd2_e, ckX_l, ckR_e (wr2 _), lt1_e]) (fun k S2 h hk => by
    unfold f_L_restoreState_p3_0_5_0
    obtain ⟨c, hK⟩ := ke_1 hk
    rw [h, bd2_e, ckX_r, hK, if_pos c]))
theorem gl_crosses (hL : L ≤ 3072) (hsc : ∀ k, wr (sc k) = sc k) : stepOK INV L (fun c S x => f_law_b503 c 0 13 14 L sc S x) := step_b503 hL hsc (fun m S i1 hm hi1 hI => glueB hI (k_crosses hI hi1) (fun v S2 hv h => by
    unfold f_L_crosses_p3_0_5_0
    rw [h, bd2_e, ckX_l]
    rcases hv with rfl | rfl
    · rfl
    · rfl) (fun k S2 h hk => by
    unfold f_L_crosses_p3_0_5_0
    obtain ⟨c, hK⟩ := ke_1 hk
    rw [h, bd2_e, ckX_r, hK, if_pos c]))
theorem gl_fuses (hL : L ≤ 3072) (hsc : ∀ k, wr (sc k) = sc k) : stepOK INV L (fun c S x => f_law_b566 c 0 13 14 L sc S x) := step_b566 hL hsc (fun m S i1 hm hi1 hI => glueB hI (k_fuses hI hi1) (fun v S2 hv h => by
    unfold f_L_fuses_p3_0_5_0
    rw [h, bd2_e, ckX_l]
    rcases hv with rfl | rfl
    · rfl
    · rfl) (fun k S2 h hk => by
    unfold f_L_fuses_p3_0_5_0
    obtain ⟨c, hK⟩ := ke_1 hk
    rw [h, bd2_e, ckX_r, hK, if_pos c]))
theorem gl_isLoopable (hL : L ≤ 3072) (hsc : ∀ k, wr (sc k) = sc k) : stepOK INV L (fun c S x => f_law_b629 c 0 13 14 L sc S x) := step_b629 hL hsc (fun m S i1 hm hi1 hI => glueB hI (k_isLoopable hI hi1) (fun v S2 hv h => by
    unfold f_L_isLoopable_p3_0_5_0
    rw [h, bd2_e, ckX_l]
    rcases hv with rfl | rfl
    · rfl
    · rfl) (fun k S2 h hk => by
    unfold f_L_isLoopable_p3_0_5_0
    obtain ⟨c, hK⟩ := ke_1 hk
    rw [h, bd2_e, ckX_r, hK, if_pos c]))
theorem gl_ofKind (hL : L ≤ 3072) (hsc : ∀ k, wr (sc k) = sc k) : stepOK INV L (fun c S x => f_law_b718 c 0 13 14 L sc S x) := step_b718 hL hsc (fun m S i1 z hm hi1 hz hI => glueX hI (k_ofKind hI hi1 hz) (fun v S2 h => by
    unfold f_L_ofKind_p3_0_5_0
    rw [h, bd2_e, ckX_l, ckR_e (wr2 _), lt1_e]) (fun k S2 h hk => by
    unfold f_L_ofKind_p3_0_5_0
    obtain ⟨c, hK⟩ := ke_1 hk
    rw [h, bd2_e, ckX_r, hK, if_pos c]))
theorem gl_rule (hL : L ≤ 3072) (hsc : ∀ k, wr (sc k) = sc k) : stepOK INV L (fun c S x => f_law_b802 c 0 13 14 L sc S x) := step_b802 hL hsc (fun m S i1 z hm hi1 hz hI => glueX hI (k_rule hI hi1 hz) (fun v S2 h => by
    unfold f_L_rule_p3_0_5_0
    rw [h, bd2_e, ckX_l, ckR_e (wr2 _), lt1_e]) (fun k S2 h hk => by
    unfold f_L_rule_p3_0_5_0
    obtain ⟨c, hK⟩ := ke_1 hk
    rw [h, bd2_e, ckX_r, hK, if_pos c]))
theorem gl_outputByte (hL : L ≤ 3072) (hsc : ∀ k, wr (sc k) = sc k) : stepOK INV L (fun c S x => f_law_b2457 c 0 13 14 L sc S x) := step_b2457 hL hsc (fun m S i1 hm hi1 hI => by
  obtain ⟨v1, S1, v2, S2, e1, e2, e3, e4⟩ := glueA hI (k_outputByte hI hi1)
  exact ⟨v1, S1, v2, S2, e1, e2, e3, e4⟩)
theorem gl_saveState (hL : L ≤ 3072) (hsc : ∀ k, wr (sc k) = sc k) : stepOK INV L (fun c S x => f_law_b2482 c 0 13 14 L sc S x) := step_b2482 hL hsc (fun m S hm hI => by
  obtain ⟨v1, S1, v2, S2, e1, e2, e3, e4⟩ := glueA hI (k_saveState hI)
  exact ⟨v1, S1, v2, S2, e1, e2, e3, e4⟩)
end GL
