/-! mathematics: cases of the two common shapes -/
theorem step_b248 {r1 r2 r3 L : Nat} {sc : Nat → Int} {Inv : Nat → xSt → Prop} (hL : L ≤ 3072) (hsc : ∀ k, wr (sc k) = sc k) (h : ∀ (m : Nat) (S : xSt) (i1 : Int) (i2 : Int) (i3 : Int) (i4 : Int) (i5 : Int), m < 512 → wr i1 = i1 → wr i2 = i2 → wr i3 = i3 → wr i4 = i4 → wr i5 = i5 → Inv m S → ∃ v1 S1, ∃ v2 S2, f_X11_feed_p3_0 S r1 i1 i2 i3 i4 i5 = some (v1, S1) ∧ f_X12_feed_p4_0 S1 r2 i1 i2 i3 i4 i5 = some (v2, S2) ∧ wr v1 = wr v2 ∧ Inv (m + 1) S2) : stepOK Inv L (fun c S x => f_law_b248 c r1 r2 r3 L sc S x) := by
  intro c S m hI hx hgo
  obtain ⟨v1, S1, v2, S2, e1, e2, e4, hI2⟩ := h m S (sc (wr (6 * (m : Int) + 1)).toNat) (sc (wr (6 * (m : Int) + 2)).toNat) (sc (wr (6 * (m : Int) + 3)).toNat) (sc (wr (6 * (m : Int) + 4)).toNat) (sc (wr (6 * (m : Int) + 5)).toNat) (by omega) (hsc _) (hsc _) (hsc _) (hsc _) (hsc _) hI
  show ∃ T, f_law_b248 c r1 r2 r3 L sc S (6 * (m : Int)) = some T
  unfold f_law_b248 ckI
  rw [if_pos (ckb (k := 1) hL hx (by decide)), if_pos (ckb (k := 2) hL hx (by decide)), if_pos (ckb (k := 3) hL hx (by decide)), if_pos (ckb (k := 4) hL hx (by decide)), if_pos (ckb (k := 5) hL hx (by decide)), bd2_s e1, if_pos (ckb (k := 1) hL hx (by decide)), if_pos (ckb (k := 2) hL hx (by decide)), if_pos (ckb (k := 3) hL hx (by decide)), if_pos (ckb (k := 4) hL hx (by decide)), if_pos (ckb (k := 5) hL hx (by decide)), bd2_s e2, if_pos e4]
  exact hgo S2 hI2
theorem step_b321 {r1 r2 r3 L : Nat} {sc : Nat → Int} {Inv : Nat → xSt → Prop} (hL : L ≤ 3072) (hsc : ∀ k, wr (sc k) = sc k) (h : ∀ (m : Nat) (S : xSt) (i1 : Int), m < 512 → wr i1 = i1 → Inv m S → ∃ v1 S1, ∃ v2 S2, f_X11_truncate_p3_0 S r1 i1 = some (v1, S1) ∧ f_X12_truncate_p4_0 S1 r2 i1 = some (v2, S2) ∧ wr v1 = wr v2 ∧ Inv (m + 1) S2) : stepOK Inv L (fun c S x => f_law_b321 c r1 r2 r3 L sc S x) := by
  intro c S m hI hx hgo
  obtain ⟨v1, S1, v2, S2, e1, e2, e4, hI2⟩ := h m S (sc (wr (6 * (m : Int) + 1)).toNat) (by omega) (hsc _) hI
  show ∃ T, f_law_b321 c r1 r2 r3 L sc S (6 * (m : Int)) = some T
  unfold f_law_b321 ckI
  rw [if_pos (ckb (k := 1) hL hx (by decide)), bd2_s e1, if_pos (ckb (k := 1) hL hx (by decide)), bd2_s e2, if_pos e4]
  exact hgo S2 hI2
theorem step_b346 {r1 r2 r3 L : Nat} {sc : Nat → Int} {Inv : Nat → xSt → Prop} (hL : L ≤ 3072) (hsc : ∀ k, wr (sc k) = sc k) (h : ∀ (m : Nat) (S : xSt) , m < 512 → Inv m S → ∃ v1 S1, ∃ v2 S2, f_X11_parse_p3_0 S r1 = some (v1, S1) ∧ f_X12_parse_p4_0 S1 r2 = some (v2, S2) ∧ wr v1 = wr v2 ∧ Inv (m + 1) S2) : stepOK Inv L (fun c S x => f_law_b346 c r1 r2 r3 L sc S x) := by
  intro c S m hI hx hgo
  obtain ⟨v1, S1, v2, S2, e1, e2, e4, hI2⟩ := h m S  (by omega) hI
  show ∃ T, f_law_b346 c r1 r2 r3 L sc S (6 * (m : Int)) = some T
  unfold f_law_b346
  rw [bd2_s e1, bd2_s e2, if_pos e4]
  exact hgo S2 hI2
theorem step_b359 {r1 r2 r3 L : Nat} {sc : Nat → Int} {Inv : Nat → xSt → Prop} (hL : L ≤ 3072) (hsc : ∀ k, wr (sc k) = sc k) (h : ∀ (m : Nat) (S : xSt) , m < 512 → Inv m S → ∃ v1 S1, ∃ v2 S2, f_X11_errorCode_p3_0 S r1 = some (v1, S1) ∧ f_X12_errorCode_p4_0 S1 r2 = some (v2, S2) ∧ wr v1 = wr v2 ∧ Inv (m + 1) S2) : stepOK Inv L (fun c S x => f_law_b359 c r1 r2 r3 L sc S x) := by
  intro c S m hI hx hgo
  obtain ⟨v1, S1, v2, S2, e1, e2, e4, hI2⟩ := h m S  (by omega) hI
  show ∃ T, f_law_b359 c r1 r2 r3 L sc S (6 * (m : Int)) = some T
  unfold f_law_b359
  rw [bd2_s e1, bd2_s e2, if_pos e4]
  exact hgo S2 hI2
theorem step_b372 {r1 r2 r3 L : Nat} {sc : Nat → Int} {Inv : Nat → xSt → Prop} (hL : L ≤ 3072) (hsc : ∀ k, wr (sc k) = sc k) (h : ∀ (m : Nat) (S : xSt) , m < 512 → Inv m S → ∃ v1 S1, ∃ v2 S2, f_X11_errorOffset_p3_0 S r1 = some (v1, S1) ∧ f_X12_errorOffset_p4_0 S1 r2 = some (v2, S2) ∧ wr v1 = wr v2 ∧ Inv (m + 1) S2) : stepOK Inv L (fun c S x => f_law_b372 c r1 r2 r3 L sc S x) := by
  intro c S m hI hx hgo
  obtain ⟨v1, S1, v2, S2, e1, e2, e4, hI2⟩ := h m S  (by omega) hI
  show ∃ T, f_law_b372 c r1 r2 r3 L sc S (6 * (m : Int)) = some T
  unfold f_law_b372
  rw [bd2_s e1, bd2_s e2, if_pos e4]
  exact hgo S2 hI2
theorem step_b385 {r1 r2 r3 L : Nat} {sc : Nat → Int} {Inv : Nat → xSt → Prop} (hL : L ≤ 3072) (hsc : ∀ k, wr (sc k) = sc k) (h : ∀ (m : Nat) (S : xSt) (i1 : Int), m < 512 → wr i1 = i1 → Inv m S → ∃ v1 S1, ∃ v2 S2, f_X11_count_p3_0 S r1 i1 = some (v1, S1) ∧ f_X12_count_p4_0 S1 r2 i1 = some (v2, S2) ∧ wr v1 = wr v2 ∧ Inv (m + 1) S2) : stepOK Inv L (fun c S x => f_law_b385 c r1 r2 r3 L sc S x) := by
  intro c S m hI hx hgo
  obtain ⟨v1, S1, v2, S2, e1, e2, e4, hI2⟩ := h m S (sc (wr (6 * (m : Int) + 1)).toNat) (by omega) (hsc _) hI
  show ∃ T, f_law_b385 c r1 r2 r3 L sc S (6 * (m : Int)) = some T
  unfold f_law_b385 ckI
  rw [if_pos (ckb (k := 1) hL hx (by decide)), bd2_s e1, if_pos (ckb (k := 1) hL hx (by decide)), bd2_s e2, if_pos e4]
  exact hgo S2 hI2
theorem step_b410 {r1 r2 r3 L : Nat} {sc : Nat → Int} {Inv : Nat → xSt → Prop} (hL : L ≤ 3072) (hsc : ∀ k, wr (sc k) = sc k) (h : ∀ (m : Nat) (S : xSt) (i1 : Int) (i2 : Int), m < 512 → wr i1 = i1 → wr i2 = i2 → Inv m S → ∃ v1 S1, ∃ v2 S2, ∃ v3 S3, f_L_instruction_p3_0_5_0 S r1 i1 i2 r3 = some (v1, S1) ∧ f_X12_instruction_p4_0 S1 r2 i1 i2 = some (v2, S2) ∧ f_X12_thrown_p4_0 S2 r2 = some (v3, S3) ∧ wr v3 = wr v1 ∧ (wr v1 = 0 → wr (iC (wl (wr (gI S3 r3 0 0))) (wl (wr v2))) = 0) ∧ Inv (m + 1) S3) : stepOK Inv L (fun c S x => f_law_b410 c r1 r2 r3 L sc S x) := by
  intro c S m hI hx hgo
  obtain ⟨v1, S1, v2, S2, v3, S3, e1, e2, e3, e4, e5, hI2⟩ := h m S (sc (wr (6 * (m : Int) + 1)).toNat) (sc (wr (6 * (m : Int) + 2)).toNat) (by omega) (hsc _) (hsc _) hI
  show ∃ T, f_law_b410 c r1 r2 r3 L sc S (6 * (m : Int)) = some T
  unfold f_law_b410 ckI
  rw [if_pos (ckb (k := 1) hL hx (by decide)), if_pos (ckb (k := 2) hL hx (by decide)), bd2_s e1, if_pos (ckb (k := 1) hL hx (by decide)), if_pos (ckb (k := 2) hL hx (by decide)), bd2_s e2, bd2_s e3, if_pos e4]
  by_cases hz : wr v1 = 0
  · rw [if_neg (fun hn => hn hz), if_pos (e5 hz)]
    exact hgo S3 hI2
  · rw [if_pos hz]
    exact hgo S3 hI2
theorem step_b478 {r1 r2 r3 L : Nat} {sc : Nat → Int} {Inv : Nat → xSt → Prop} (hL : L ≤ 3072) (hsc : ∀ k, wr (sc k) = sc k) (h : ∀ (m : Nat) (S : xSt) (i1 : Int), m < 512 → wr i1 = i1 → Inv m S → ∃ v1 S1, ∃ v2 S2, f_X11_at_p3_0 S r1 i1 = some (v1, S1) ∧ f_X12_at_p4_0 S1 r2 i1 = some (v2, S2) ∧ wr v1 = wr v2 ∧ Inv (m + 1) S2) : stepOK Inv L (fun c S x => f_law_b478 c r1 r2 r3 L sc S x) := by
  intro c S m hI hx hgo
  obtain ⟨v1, S1, v2, S2, e1, e2, e4, hI2⟩ := h m S (sc (wr (6 * (m : Int) + 1)).toNat) (by omega) (hsc _) hI
  show ∃ T, f_law_b478 c r1 r2 r3 L sc S (6 * (m : Int)) = some T
  unfold f_law_b478 ckI
  rw [if_pos (ckb (k := 1) hL hx (by decide)), bd2_s e1, if_pos (ckb (k := 1) hL hx (by decide)), bd2_s e2, if_pos e4]
  exact hgo S2 hI2
theorem step_b692 {r1 r2 r3 L : Nat} {sc : Nat → Int} {Inv : Nat → xSt → Prop} (hL : L ≤ 3072) (hsc : ∀ k, wr (sc k) = sc k) (h : ∀ (m : Nat) (S : xSt) , m < 512 → Inv m S → ∃ v1 S1, ∃ v2 S2, f_X11_fusable_p3_0 S r1 = some (v1, S1) ∧ f_X12_fusable_p4_0 S1 r2 = some (v2, S2) ∧ wr v1 = wr v2 ∧ Inv (m + 1) S2) : stepOK Inv L (fun c S x => f_law_b692 c r1 r2 r3 L sc S x) := by
  intro c S m hI hx hgo
  obtain ⟨v1, S1, v2, S2, e1, e2, e4, hI2⟩ := h m S  (by omega) hI
  show ∃ T, f_law_b692 c r1 r2 r3 L sc S (6 * (m : Int)) = some T
  unfold f_law_b692
  rw [bd2_s e1, bd2_s e2, if_pos e4]
  exact hgo S2 hI2
theorem step_b705 {r1 r2 r3 L : Nat} {sc : Nat → Int} {Inv : Nat → xSt → Prop} (hL : L ≤ 3072) (hsc : ∀ k, wr (sc k) = sc k) (h : ∀ (m : Nat) (S : xSt) , m < 512 → Inv m S → ∃ v1 S1, ∃ v2 S2, f_X11_crossing_p3_0 S r1 = some (v1, S1) ∧ f_X12_crossing_p4_0 S1 r2 = some (v2, S2) ∧ wr v1 = wr v2 ∧ Inv (m + 1) S2) : stepOK Inv L (fun c S x => f_law_b705 c r1 r2 r3 L sc S x) := by
  intro c S m hI hx hgo
  obtain ⟨v1, S1, v2, S2, e1, e2, e4, hI2⟩ := h m S  (by omega) hI
  show ∃ T, f_law_b705 c r1 r2 r3 L sc S (6 * (m : Int)) = some T
  unfold f_law_b705
  rw [bd2_s e1, bd2_s e2, if_pos e4]
  exact hgo S2 hI2
theorem step_b886 {r1 r2 r3 L : Nat} {sc : Nat → Int} {Inv : Nat → xSt → Prop} (hL : L ≤ 3072) (hsc : ∀ k, wr (sc k) = sc k) (h : ∀ (m : Nat) (S : xSt) (i1 : Int), m < 512 → wr i1 = i1 → Inv m S → ∃ v1 S1, ∃ v2 S2, ∃ v3 S3, f_L_queueAt_p3_0_5_0 S r1 i1 r3 = some (v1, S1) ∧ f_X12_queueAt_p4_0 S1 r2 i1 = some (v2, S2) ∧ f_X12_thrown_p4_0 S2 r2 = some (v3, S3) ∧ wr v3 = wr v1 ∧ (wr v1 = 0 → wr (iC (wl (wr (gI S3 r3 0 0))) (wl (wr v2))) = 0) ∧ Inv (m + 1) S3) : stepOK Inv L (fun c S x => f_law_b886 c r1 r2 r3 L sc S x) := by
  intro c S m hI hx hgo
  obtain ⟨v1, S1, v2, S2, v3, S3, e1, e2, e3, e4, e5, hI2⟩ := h m S (sc (wr (6 * (m : Int) + 1)).toNat) (by omega) (hsc _) hI
  show ∃ T, f_law_b886 c r1 r2 r3 L sc S (6 * (m : Int)) = some T
  unfold f_law_b886 ckI
  rw [if_pos (ckb (k := 1) hL hx (by decide)), bd2_s e1, if_pos (ckb (k := 1) hL hx (by decide)), bd2_s e2, bd2_s e3, if_pos e4]
  by_cases hz : wr v1 = 0
  · rw [if_neg (fun hn => hn hz), if_pos (e5 hz)]
    exact hgo S3 hI2
  · rw [if_pos hz]
    exact hgo S3 hI2
theorem step_b942 {r1 r2 r3 L : Nat} {sc : Nat → Int} {Inv : Nat → xSt → Prop} (hL : L ≤ 3072) (hsc : ∀ k, wr (sc k) = sc k) (h : ∀ (m : Nat) (S : xSt) (i1 : Int), m < 512 → wr i1 = i1 → Inv m S → ∃ v1 S1, ∃ v2 S2, ∃ v3 S3, f_L_loop_p3_0_5_0 S r1 i1 r3 = some (v1, S1) ∧ f_X12_loop_p4_0 S1 r2 i1 = some (v2, S2) ∧ f_X12_thrown_p4_0 S2 r2 = some (v3, S3) ∧ wr v3 = wr v1 ∧ (wr v1 = 0 → wr (iC (wl (wr (gI S3 r3 0 0))) (wl (wr v2))) = 0) ∧ Inv (m + 1) S3) : stepOK Inv L (fun c S x => f_law_b942 c r1 r2 r3 L sc S x) := by
  intro c S m hI hx hgo
  obtain ⟨v1, S1, v2, S2, v3, S3, e1, e2, e3, e4, e5, hI2⟩ := h m S (sc (wr (6 * (m : Int) + 1)).toNat) (by omega) (hsc _) hI
  show ∃ T, f_law_b942 c r1 r2 r3 L sc S (6 * (m : Int)) = some T
  unfold f_law_b942 ckI
  rw [if_pos (ckb (k := 1) hL hx (by decide)), bd2_s e1, if_pos (ckb (k := 1) hL hx (by decide)), bd2_s e2, bd2_s e3, if_pos e4]
  by_cases hz : wr v1 = 0
  · rw [if_neg (fun hn => hn hz), if_pos (e5 hz)]
    exact hgo S3 hI2
  · rw [if_pos hz]
    exact hgo S3 hI2
theorem step_b998 {r1 r2 r3 L : Nat} {sc : Nat → Int} {Inv : Nat → xSt → Prop} (hL : L ≤ 3072) (hsc : ∀ k, wr (sc k) = sc k) (h : ∀ (m : Nat) (S : xSt) , m < 512 → Inv m S → ∃ v1 S1, ∃ v2 S2, f_X11_isCut_p3_0 S r1 = some (v1, S1) ∧ f_X12_isCut_p4_0 S1 r2 = some (v2, S2) ∧ wr v1 = wr v2 ∧ Inv (m + 1) S2) : stepOK Inv L (fun c S x => f_law_b998 c r1 r2 r3 L sc S x) := by
  intro c S m hI hx hgo
  obtain ⟨v1, S1, v2, S2, e1, e2, e4, hI2⟩ := h m S  (by omega) hI
  show ∃ T, f_law_b998 c r1 r2 r3 L sc S (6 * (m : Int)) = some T
  unfold f_law_b998
  rw [bd2_s e1, bd2_s e2, if_pos e4]
  exact hgo S2 hI2
theorem step_b1011 {r1 r2 r3 L : Nat} {sc : Nat → Int} {Inv : Nat → xSt → Prop} (hL : L ≤ 3072) (hsc : ∀ k, wr (sc k) = sc k) (h : ∀ (m : Nat) (S : xSt) (i1 : Int), m < 512 → wr i1 = i1 → Inv m S → ∃ v1 S1, ∃ v2 S2, ∃ v3 S3, f_L_bubbles_p3_0_5_0 S r1 i1 r3 = some (v1, S1) ∧ f_X12_bubbles_p4_0 S1 r2 i1 = some (v2, S2) ∧ f_X12_thrown_p4_0 S2 r2 = some (v3, S3) ∧ wr v3 = wr v1 ∧ (wr v1 = 0 → wr (iC (wl (wr (gI S3 r3 0 0))) (wl (wr v2))) = 0) ∧ Inv (m + 1) S3) : stepOK Inv L (fun c S x => f_law_b1011 c r1 r2 r3 L sc S x) := by
  intro c S m hI hx hgo
  obtain ⟨v1, S1, v2, S2, v3, S3, e1, e2, e3, e4, e5, hI2⟩ := h m S (sc (wr (6 * (m : Int) + 1)).toNat) (by omega) (hsc _) hI
  show ∃ T, f_law_b1011 c r1 r2 r3 L sc S (6 * (m : Int)) = some T
  unfold f_law_b1011 ckI
  rw [if_pos (ckb (k := 1) hL hx (by decide)), bd2_s e1, if_pos (ckb (k := 1) hL hx (by decide)), bd2_s e2, bd2_s e3, if_pos e4]
  by_cases hz : wr v1 = 0
  · rw [if_neg (fun hn => hn hz), if_pos (e5 hz)]
    exact hgo S3 hI2
  · rw [if_pos hz]
    exact hgo S3 hI2
theorem step_b1067 {r1 r2 r3 L : Nat} {sc : Nat → Int} {Inv : Nat → xSt → Prop} (hL : L ≤ 3072) (hsc : ∀ k, wr (sc k) = sc k) (h : ∀ (m : Nat) (S : xSt) , m < 512 → Inv m S → ∃ v1 S1, ∃ v2 S2, f_X11_mainCause_p3_0 S r1 = some (v1, S1) ∧ f_X12_mainCause_p4_0 S1 r2 = some (v2, S2) ∧ wr v1 = wr v2 ∧ Inv (m + 1) S2) : stepOK Inv L (fun c S x => f_law_b1067 c r1 r2 r3 L sc S x) := by
  intro c S m hI hx hgo
  obtain ⟨v1, S1, v2, S2, e1, e2, e4, hI2⟩ := h m S  (by omega) hI
  show ∃ T, f_law_b1067 c r1 r2 r3 L sc S (6 * (m : Int)) = some T
  unfold f_law_b1067
  rw [bd2_s e1, bd2_s e2, if_pos e4]
  exact hgo S2 hI2
theorem step_b1080 {r1 r2 r3 L : Nat} {sc : Nat → Int} {Inv : Nat → xSt → Prop} (hL : L ≤ 3072) (hsc : ∀ k, wr (sc k) = sc k) (h : ∀ (m : Nat) (S : xSt) (i1 : Int), m < 512 → wr i1 = i1 → Inv m S → ∃ v1 S1, ∃ v2 S2, ∃ v3 S3, f_L_decoded_p3_0_5_0 S r1 i1 r3 = some (v1, S1) ∧ f_X12_decoded_p4_0 S1 r2 i1 = some (v2, S2) ∧ f_X12_thrown_p4_0 S2 r2 = some (v3, S3) ∧ wr v3 = wr v1 ∧ (wr v1 = 0 → wr (iC (wl (wr (gI S3 r3 0 0))) (wl (wr v2))) = 0) ∧ Inv (m + 1) S3) : stepOK Inv L (fun c S x => f_law_b1080 c r1 r2 r3 L sc S x) := by
  intro c S m hI hx hgo
  obtain ⟨v1, S1, v2, S2, v3, S3, e1, e2, e3, e4, e5, hI2⟩ := h m S (sc (wr (6 * (m : Int) + 1)).toNat) (by omega) (hsc _) hI
  show ∃ T, f_law_b1080 c r1 r2 r3 L sc S (6 * (m : Int)) = some T
  unfold f_law_b1080 ckI
  rw [if_pos (ckb (k := 1) hL hx (by decide)), bd2_s e1, if_pos (ckb (k := 1) hL hx (by decide)), bd2_s e2, bd2_s e3, if_pos e4]
  by_cases hz : wr v1 = 0
  · rw [if_neg (fun hn => hn hz), if_pos (e5 hz)]
    exact hgo S3 hI2
  · rw [if_pos hz]
    exact hgo S3 hI2
theorem step_b1136 {r1 r2 r3 L : Nat} {sc : Nat → Int} {Inv : Nat → xSt → Prop} (hL : L ≤ 3072) (hsc : ∀ k, wr (sc k) = sc k) (h : ∀ (m : Nat) (S : xSt) (i1 : Int), m < 512 → wr i1 = i1 → Inv m S → ∃ v1 S1, ∃ v2 S2, ∃ v3 S3, f_L_plain_p3_0_5_0 S r1 i1 r3 = some (v1, S1) ∧ f_X12_plain_p4_0 S1 r2 i1 = some (v2, S2) ∧ f_X12_thrown_p4_0 S2 r2 = some (v3, S3) ∧ wr v3 = wr v1 ∧ (wr v1 = 0 → wr (iC (wl (wr (gI S3 r3 0 0))) (wl (wr v2))) = 0) ∧ Inv (m + 1) S3) : stepOK Inv L (fun c S x => f_law_b1136 c r1 r2 r3 L sc S x) := by
  intro c S m hI hx hgo
  obtain ⟨v1, S1, v2, S2, v3, S3, e1, e2, e3, e4, e5, hI2⟩ := h m S (sc (wr (6 * (m : Int) + 1)).toNat) (by omega) (hsc _) hI
  show ∃ T, f_law_b1136 c r1 r2 r3 L sc S (6 * (m : Int)) = some T
  unfold f_law_b1136 ckI
  rw [if_pos (ckb (k := 1) hL hx (by decide)), bd2_s e1, if_pos (ckb (k := 1) hL hx (by decide)), bd2_s e2, bd2_s e3, if_pos e4]
  by_cases hz : wr v1 = 0
  · rw [if_neg (fun hn => hn hz), if_pos (e5 hz)]
    exact hgo S3 hI2
  · rw [if_pos hz]
    exact hgo S3 hI2
theorem step_b1192 {r1 r2 r3 L : Nat} {sc : Nat → Int} {Inv : Nat → xSt → Prop} (hL : L ≤ 3072) (hsc : ∀ k, wr (sc k) = sc k) (h : ∀ (m : Nat) (S : xSt) , m < 512 → Inv m S → ∃ v1 S1, ∃ v2 S2, f_X11_agrees_p3_0 S r1 = some (v1, S1) ∧ f_X12_agrees_p4_0 S1 r2 = some (v2, S2) ∧ wr v1 = wr v2 ∧ Inv (m + 1) S2) : stepOK Inv L (fun c S x => f_law_b1192 c r1 r2 r3 L sc S x) := by
  intro c S m hI hx hgo
  obtain ⟨v1, S1, v2, S2, e1, e2, e4, hI2⟩ := h m S  (by omega) hI
  show ∃ T, f_law_b1192 c r1 r2 r3 L sc S (6 * (m : Int)) = some T
  unfold f_law_b1192
  rw [bd2_s e1, bd2_s e2, if_pos e4]
  exact hgo S2 hI2
theorem step_b1205 {r1 r2 r3 L : Nat} {sc : Nat → Int} {Inv : Nat → xSt → Prop} (hL : L ≤ 3072) (hsc : ∀ k, wr (sc k) = sc k) (h : ∀ (m : Nat) (S : xSt) (i1 : Int), m < 512 → wr i1 = i1 → Inv m S → ∃ v1 S1, ∃ v2 S2, ∃ v3 S3, f_L_times_p3_0_5_0 S r1 i1 r3 = some (v1, S1) ∧ f_X12_times_p4_0 S1 r2 i1 = some (v2, S2) ∧ f_X12_thrown_p4_0 S2 r2 = some (v3, S3) ∧ wr v3 = wr v1 ∧ (wr v1 = 0 → wr (iC (wl (wr (gI S3 r3 0 0))) (wl (wr v2))) = 0) ∧ Inv (m + 1) S3) : stepOK Inv L (fun c S x => f_law_b1205 c r1 r2 r3 L sc S x) := by
  intro c S m hI hx hgo
  obtain ⟨v1, S1, v2, S2, v3, S3, e1, e2, e3, e4, e5, hI2⟩ := h m S (sc (wr (6 * (m : Int) + 1)).toNat) (by omega) (hsc _) hI
  show ∃ T, f_law_b1205 c r1 r2 r3 L sc S (6 * (m : Int)) = some T
  unfold f_law_b1205 ckI
  rw [if_pos (ckb (k := 1) hL hx (by decide)), bd2_s e1, if_pos (ckb (k := 1) hL hx (by decide)), bd2_s e2, bd2_s e3, if_pos e4]
  by_cases hz : wr v1 = 0
  · rw [if_neg (fun hn => hn hz), if_pos (e5 hz)]
    exact hgo S3 hI2
  · rw [if_pos hz]
    exact hgo S3 hI2
theorem step_b1345 {r1 r2 r3 L : Nat} {sc : Nat → Int} {Inv : Nat → xSt → Prop} (hL : L ≤ 3072) (hsc : ∀ k, wr (sc k) = sc k) (h : ∀ (m : Nat) (S : xSt) (i1 : Int), m < 512 → wr i1 = i1 → Inv m S → ∃ v1 S1, ∃ v2 S2, ∃ v3 S3, f_L_run_p3_0_5_0 S r1 i1 r3 = some (v1, S1) ∧ f_X12_run_p4_0 S1 r2 i1 = some (v2, S2) ∧ f_X12_thrown_p4_0 S2 r2 = some (v3, S3) ∧ wr v3 = wr v1 ∧ (wr v1 = 0 → wr (iC (wl (wr (gI S3 r3 0 0))) (wl (wr v2))) = 0) ∧ Inv (m + 1) S3) : stepOK Inv L (fun c S x => f_law_b1345 c r1 r2 r3 L sc S x) := by
  intro c S m hI hx hgo
  obtain ⟨v1, S1, v2, S2, v3, S3, e1, e2, e3, e4, e5, hI2⟩ := h m S (sc (wr (6 * (m : Int) + 1)).toNat) (by omega) (hsc _) hI
  show ∃ T, f_law_b1345 c r1 r2 r3 L sc S (6 * (m : Int)) = some T
  unfold f_law_b1345 ckI
  rw [if_pos (ckb (k := 1) hL hx (by decide)), bd2_s e1, if_pos (ckb (k := 1) hL hx (by decide)), bd2_s e2, bd2_s e3, if_pos e4]
  by_cases hz : wr v1 = 0
  · rw [if_neg (fun hn => hn hz), if_pos (e5 hz)]
    exact hgo S3 hI2
  · rw [if_pos hz]
    exact hgo S3 hI2
theorem step_b1401 {r1 r2 r3 L : Nat} {sc : Nat → Int} {Inv : Nat → xSt → Prop} (hL : L ≤ 3072) (hsc : ∀ k, wr (sc k) = sc k) (h : ∀ (m : Nat) (S : xSt) (i1 : Int), m < 512 → wr i1 = i1 → Inv m S → ∃ v1 S1, ∃ v2 S2, ∃ v3 S3, f_L_runTo_p3_0_5_0 S r1 i1 r3 = some (v1, S1) ∧ f_X12_runTo_p4_0 S1 r2 i1 = some (v2, S2) ∧ f_X12_thrown_p4_0 S2 r2 = some (v3, S3) ∧ wr v3 = wr v1 ∧ (wr v1 = 0 → wr (iC (wl (wr (gI S3 r3 0 0))) (wl (wr v2))) = 0) ∧ Inv (m + 1) S3) : stepOK Inv L (fun c S x => f_law_b1401 c r1 r2 r3 L sc S x) := by
  intro c S m hI hx hgo
  obtain ⟨v1, S1, v2, S2, v3, S3, e1, e2, e3, e4, e5, hI2⟩ := h m S (sc (wr (6 * (m : Int) + 1)).toNat) (by omega) (hsc _) hI
  show ∃ T, f_law_b1401 c r1 r2 r3 L sc S (6 * (m : Int)) = some T
  unfold f_law_b1401 ckI
  rw [if_pos (ckb (k := 1) hL hx (by decide)), bd2_s e1, if_pos (ckb (k := 1) hL hx (by decide)), bd2_s e2, bd2_s e3, if_pos e4]
  by_cases hz : wr v1 = 0
  · rw [if_neg (fun hn => hn hz), if_pos (e5 hz)]
    exact hgo S3 hI2
  · rw [if_pos hz]
    exact hgo S3 hI2
theorem step_b1457 {r1 r2 r3 L : Nat} {sc : Nat → Int} {Inv : Nat → xSt → Prop} (hL : L ≤ 3072) (hsc : ∀ k, wr (sc k) = sc k) (h : ∀ (m : Nat) (S : xSt) (i1 : Int), m < 512 → wr i1 = i1 → Inv m S → ∃ v1 S1, ∃ v2 S2, ∃ v3 S3, f_L_stall_p3_0_5_0 S r1 i1 r3 = some (v1, S1) ∧ f_X12_stall_p4_0 S1 r2 i1 = some (v2, S2) ∧ f_X12_thrown_p4_0 S2 r2 = some (v3, S3) ∧ wr v3 = wr v1 ∧ (wr v1 = 0 → wr (iC (wl (wr (gI S3 r3 0 0))) (wl (wr v2))) = 0) ∧ Inv (m + 1) S3) : stepOK Inv L (fun c S x => f_law_b1457 c r1 r2 r3 L sc S x) := by
  intro c S m hI hx hgo
  obtain ⟨v1, S1, v2, S2, v3, S3, e1, e2, e3, e4, e5, hI2⟩ := h m S (sc (wr (6 * (m : Int) + 1)).toNat) (by omega) (hsc _) hI
  show ∃ T, f_law_b1457 c r1 r2 r3 L sc S (6 * (m : Int)) = some T
  unfold f_law_b1457 ckI
  rw [if_pos (ckb (k := 1) hL hx (by decide)), bd2_s e1, if_pos (ckb (k := 1) hL hx (by decide)), bd2_s e2, bd2_s e3, if_pos e4]
  by_cases hz : wr v1 = 0
  · rw [if_neg (fun hn => hn hz), if_pos (e5 hz)]
    exact hgo S3 hI2
  · rw [if_pos hz]
    exact hgo S3 hI2
theorem step_b1513 {r1 r2 r3 L : Nat} {sc : Nat → Int} {Inv : Nat → xSt → Prop} (hL : L ≤ 3072) (hsc : ∀ k, wr (sc k) = sc k) (h : ∀ (m : Nat) (S : xSt) (i1 : Int) (i2 : Int), m < 512 → wr i1 = i1 → wr i2 = i2 → Inv m S → ∃ v1 S1, ∃ v2 S2, ∃ v3 S3, f_L_set_p3_0_5_0 S r1 i1 i2 r3 = some (v1, S1) ∧ f_X12_set_p4_0 S1 r2 i1 i2 = some (v2, S2) ∧ f_X12_thrown_p4_0 S2 r2 = some (v3, S3) ∧ wr v3 = wr v1 ∧ (wr v1 = 0 → wr (iC (wl (wr (gI S3 r3 0 0))) (wl (wr v2))) = 0) ∧ Inv (m + 1) S3) : stepOK Inv L (fun c S x => f_law_b1513 c r1 r2 r3 L sc S x) := by
  intro c S m hI hx hgo
  obtain ⟨v1, S1, v2, S2, v3, S3, e1, e2, e3, e4, e5, hI2⟩ := h m S (sc (wr (6 * (m : Int) + 1)).toNat) (sc (wr (6 * (m : Int) + 2)).toNat) (by omega) (hsc _) (hsc _) hI
  show ∃ T, f_law_b1513 c r1 r2 r3 L sc S (6 * (m : Int)) = some T
  unfold f_law_b1513 ckI
  rw [if_pos (ckb (k := 1) hL hx (by decide)), if_pos (ckb (k := 2) hL hx (by decide)), bd2_s e1, if_pos (ckb (k := 1) hL hx (by decide)), if_pos (ckb (k := 2) hL hx (by decide)), bd2_s e2, bd2_s e3, if_pos e4]
  by_cases hz : wr v1 = 0
  · rw [if_neg (fun hn => hn hz), if_pos (e5 hz)]
    exact hgo S3 hI2
  · rw [if_pos hz]
    exact hgo S3 hI2
theorem step_b1581 {r1 r2 r3 L : Nat} {sc : Nat → Int} {Inv : Nat → xSt → Prop} (hL : L ≤ 3072) (hsc : ∀ k, wr (sc k) = sc k) (h : ∀ (m : Nat) (S : xSt) (i1 : Int) (i2 : Int), m < 512 → wr i1 = i1 → wr i2 = i2 → Inv m S → ∃ v1 S1, ∃ v2 S2, ∃ v3 S3, f_L_addRule_p3_0_5_0 S r1 i1 i2 r3 = some (v1, S1) ∧ f_X12_addRule_p4_0 S1 r2 i1 i2 = some (v2, S2) ∧ f_X12_thrown_p4_0 S2 r2 = some (v3, S3) ∧ wr v3 = wr v1 ∧ (wr v1 = 0 → wr (iC (wl (wr (gI S3 r3 0 0))) (wl (wr v2))) = 0) ∧ Inv (m + 1) S3) : stepOK Inv L (fun c S x => f_law_b1581 c r1 r2 r3 L sc S x) := by
  intro c S m hI hx hgo
  obtain ⟨v1, S1, v2, S2, v3, S3, e1, e2, e3, e4, e5, hI2⟩ := h m S (sc (wr (6 * (m : Int) + 1)).toNat) (sc (wr (6 * (m : Int) + 2)).toNat) (by omega) (hsc _) (hsc _) hI
  show ∃ T, f_law_b1581 c r1 r2 r3 L sc S (6 * (m : Int)) = some T
  unfold f_law_b1581 ckI
  rw [if_pos (ckb (k := 1) hL hx (by decide)), if_pos (ckb (k := 2) hL hx (by decide)), bd2_s e1, if_pos (ckb (k := 1) hL hx (by decide)), if_pos (ckb (k := 2) hL hx (by decide)), bd2_s e2, bd2_s e3, if_pos e4]
  by_cases hz : wr v1 = 0
  · rw [if_neg (fun hn => hn hz), if_pos (e5 hz)]
    exact hgo S3 hI2
  · rw [if_pos hz]
    exact hgo S3 hI2
theorem step_b1649 {r1 r2 r3 L : Nat} {sc : Nat → Int} {Inv : Nat → xSt → Prop} (hL : L ≤ 3072) (hsc : ∀ k, wr (sc k) = sc k) (h : ∀ (m : Nat) (S : xSt) (i1 : Int), m < 512 → wr i1 = i1 → Inv m S → ∃ v1 S1, ∃ v2 S2, ∃ v3 S3, f_L_removeRule_p3_0_5_0 S r1 i1 r3 = some (v1, S1) ∧ f_X12_removeRule_p4_0 S1 r2 i1 = some (v2, S2) ∧ f_X12_thrown_p4_0 S2 r2 = some (v3, S3) ∧ wr v3 = wr v1 ∧ (wr v1 = 0 → wr (iC (wl (wr (gI S3 r3 0 0))) (wl (wr v2))) = 0) ∧ Inv (m + 1) S3) : stepOK Inv L (fun c S x => f_law_b1649 c r1 r2 r3 L sc S x) := by
  intro c S m hI hx hgo
  obtain ⟨v1, S1, v2, S2, v3, S3, e1, e2, e3, e4, e5, hI2⟩ := h m S (sc (wr (6 * (m : Int) + 1)).toNat) (by omega) (hsc _) hI
  show ∃ T, f_law_b1649 c r1 r2 r3 L sc S (6 * (m : Int)) = some T
  unfold f_law_b1649 ckI
  rw [if_pos (ckb (k := 1) hL hx (by decide)), bd2_s e1, if_pos (ckb (k := 1) hL hx (by decide)), bd2_s e2, bd2_s e3, if_pos e4]
  by_cases hz : wr v1 = 0
  · rw [if_neg (fun hn => hn hz), if_pos (e5 hz)]
    exact hgo S3 hI2
  · rw [if_pos hz]
    exact hgo S3 hI2
theorem step_b1705 {r1 r2 r3 L : Nat} {sc : Nat → Int} {Inv : Nat → xSt → Prop} (hL : L ≤ 3072) (hsc : ∀ k, wr (sc k) = sc k) (h : ∀ (m : Nat) (S : xSt) (i1 : Int), m < 512 → wr i1 = i1 → Inv m S → ∃ v1 S1, ∃ v2 S2, ∃ v3 S3, f_L_redirect_p3_0_5_0 S r1 i1 r3 = some (v1, S1) ∧ f_X12_redirect_p4_0 S1 r2 i1 = some (v2, S2) ∧ f_X12_thrown_p4_0 S2 r2 = some (v3, S3) ∧ wr v3 = wr v1 ∧ (wr v1 = 0 → wr (iC (wl (wr (gI S3 r3 0 0))) (wl (wr v2))) = 0) ∧ Inv (m + 1) S3) : stepOK Inv L (fun c S x => f_law_b1705 c r1 r2 r3 L sc S x) := by
  intro c S m hI hx hgo
  obtain ⟨v1, S1, v2, S2, v3, S3, e1, e2, e3, e4, e5, hI2⟩ := h m S (sc (wr (6 * (m : Int) + 1)).toNat) (by omega) (hsc _) hI
  show ∃ T, f_law_b1705 c r1 r2 r3 L sc S (6 * (m : Int)) = some T
  unfold f_law_b1705 ckI
  rw [if_pos (ckb (k := 1) hL hx (by decide)), bd2_s e1, if_pos (ckb (k := 1) hL hx (by decide)), bd2_s e2, bd2_s e3, if_pos e4]
  by_cases hz : wr v1 = 0
  · rw [if_neg (fun hn => hn hz), if_pos (e5 hz)]
    exact hgo S3 hI2
  · rw [if_pos hz]
    exact hgo S3 hI2
theorem step_b1761 {r1 r2 r3 L : Nat} {sc : Nat → Int} {Inv : Nat → xSt → Prop} (hL : L ≤ 3072) (hsc : ∀ k, wr (sc k) = sc k) (h : ∀ (m : Nat) (S : xSt) , m < 512 → Inv m S → ∃ v1 S1, ∃ v2 S2, ∃ v3 S3, f_L_undo_p3_0_5_0 S r1 r3 = some (v1, S1) ∧ f_X12_undo_p4_0 S1 r2 = some (v2, S2) ∧ f_X12_thrown_p4_0 S2 r2 = some (v3, S3) ∧ wr v3 = wr v1 ∧ (wr v1 = 0 → wr (iC (wl (wr (gI S3 r3 0 0))) (wl (wr v2))) = 0) ∧ Inv (m + 1) S3) : stepOK Inv L (fun c S x => f_law_b1761 c r1 r2 r3 L sc S x) := by
  intro c S m hI hx hgo
  obtain ⟨v1, S1, v2, S2, v3, S3, e1, e2, e3, e4, e5, hI2⟩ := h m S  (by omega) hI
  show ∃ T, f_law_b1761 c r1 r2 r3 L sc S (6 * (m : Int)) = some T
  unfold f_law_b1761
  rw [bd2_s e1, bd2_s e2, bd2_s e3, if_pos e4]
  by_cases hz : wr v1 = 0
  · rw [if_neg (fun hn => hn hz), if_pos (e5 hz)]
    exact hgo S3 hI2
  · rw [if_pos hz]
    exact hgo S3 hI2
theorem step_b1805 {r1 r2 r3 L : Nat} {sc : Nat → Int} {Inv : Nat → xSt → Prop} (hL : L ≤ 3072) (hsc : ∀ k, wr (sc k) = sc k) (h : ∀ (m : Nat) (S : xSt) (i1 : Int), m < 512 → wr i1 = i1 → Inv m S → ∃ v1 S1, ∃ v2 S2, ∃ v3 S3, f_L_cyclesTo_p3_0_5_0 S r1 i1 r3 = some (v1, S1) ∧ f_X12_cyclesTo_p4_0 S1 r2 i1 = some (v2, S2) ∧ f_X12_thrown_p4_0 S2 r2 = some (v3, S3) ∧ wr v3 = wr v1 ∧ (wr v1 = 0 → wr (iC (wl (wr (gI S3 r3 0 0))) (wl (wr v2))) = 0) ∧ Inv (m + 1) S3) : stepOK Inv L (fun c S x => f_law_b1805 c r1 r2 r3 L sc S x) := by
  intro c S m hI hx hgo
  obtain ⟨v1, S1, v2, S2, v3, S3, e1, e2, e3, e4, e5, hI2⟩ := h m S (sc (wr (6 * (m : Int) + 1)).toNat) (by omega) (hsc _) hI
  show ∃ T, f_law_b1805 c r1 r2 r3 L sc S (6 * (m : Int)) = some T
  unfold f_law_b1805 ckI
  rw [if_pos (ckb (k := 1) hL hx (by decide)), bd2_s e1, if_pos (ckb (k := 1) hL hx (by decide)), bd2_s e2, bd2_s e3, if_pos e4]
  by_cases hz : wr v1 = 0
  · rw [if_neg (fun hn => hn hz), if_pos (e5 hz)]
    exact hgo S3 hI2
  · rw [if_pos hz]
    exact hgo S3 hI2
theorem step_b1861 {r1 r2 r3 L : Nat} {sc : Nat → Int} {Inv : Nat → xSt → Prop} (hL : L ≤ 3072) (hsc : ∀ k, wr (sc k) = sc k) (h : ∀ (m : Nat) (S : xSt) (i1 : Int), m < 512 → wr i1 = i1 → Inv m S → ∃ v1 S1, ∃ v2 S2, ∃ v3 S3, f_L_nextBubbles_p3_0_5_0 S r1 i1 r3 = some (v1, S1) ∧ f_X12_nextBubbles_p4_0 S1 r2 i1 = some (v2, S2) ∧ f_X12_thrown_p4_0 S2 r2 = some (v3, S3) ∧ wr v3 = wr v1 ∧ (wr v1 = 0 → wr (iC (wl (wr (gI S3 r3 0 0))) (wl (wr v2))) = 0) ∧ Inv (m + 1) S3) : stepOK Inv L (fun c S x => f_law_b1861 c r1 r2 r3 L sc S x) := by
  intro c S m hI hx hgo
  obtain ⟨v1, S1, v2, S2, v3, S3, e1, e2, e3, e4, e5, hI2⟩ := h m S (sc (wr (6 * (m : Int) + 1)).toNat) (by omega) (hsc _) hI
  show ∃ T, f_law_b1861 c r1 r2 r3 L sc S (6 * (m : Int)) = some T
  unfold f_law_b1861 ckI
  rw [if_pos (ckb (k := 1) hL hx (by decide)), bd2_s e1, if_pos (ckb (k := 1) hL hx (by decide)), bd2_s e2, bd2_s e3, if_pos e4]
  by_cases hz : wr v1 = 0
  · rw [if_neg (fun hn => hn hz), if_pos (e5 hz)]
    exact hgo S3 hI2
  · rw [if_pos hz]
    exact hgo S3 hI2
theorem step_b1917 {r1 r2 r3 L : Nat} {sc : Nat → Int} {Inv : Nat → xSt → Prop} (hL : L ≤ 3072) (hsc : ∀ k, wr (sc k) = sc k) (h : ∀ (m : Nat) (S : xSt) (i1 : Int) (i2 : Int), m < 512 → wr i1 = i1 → wr i2 = i2 → Inv m S → ∃ v1 S1, ∃ v2 S2, ∃ v3 S3, f_L_bubblesIn_p3_0_5_0 S r1 i1 i2 r3 = some (v1, S1) ∧ f_X12_bubblesIn_p4_0 S1 r2 i1 i2 = some (v2, S2) ∧ f_X12_thrown_p4_0 S2 r2 = some (v3, S3) ∧ wr v3 = wr v1 ∧ (wr v1 = 0 → wr (iC (wl (wr (gI S3 r3 0 0))) (wl (wr v2))) = 0) ∧ Inv (m + 1) S3) : stepOK Inv L (fun c S x => f_law_b1917 c r1 r2 r3 L sc S x) := by
  intro c S m hI hx hgo
  obtain ⟨v1, S1, v2, S2, v3, S3, e1, e2, e3, e4, e5, hI2⟩ := h m S (sc (wr (6 * (m : Int) + 1)).toNat) (sc (wr (6 * (m : Int) + 2)).toNat) (by omega) (hsc _) (hsc _) hI
  show ∃ T, f_law_b1917 c r1 r2 r3 L sc S (6 * (m : Int)) = some T
  unfold f_law_b1917 ckI
  rw [if_pos (ckb (k := 1) hL hx (by decide)), if_pos (ckb (k := 2) hL hx (by decide)), bd2_s e1, if_pos (ckb (k := 1) hL hx (by decide)), if_pos (ckb (k := 2) hL hx (by decide)), bd2_s e2, bd2_s e3, if_pos e4]
  by_cases hz : wr v1 = 0
  · rw [if_neg (fun hn => hn hz), if_pos (e5 hz)]
    exact hgo S3 hI2
  · rw [if_pos hz]
    exact hgo S3 hI2
theorem step_b1985 {r1 r2 r3 L : Nat} {sc : Nat → Int} {Inv : Nat → xSt → Prop} (hL : L ≤ 3072) (hsc : ∀ k, wr (sc k) = sc k) (h : ∀ (m : Nat) (S : xSt) (i1 : Int), m < 512 → wr i1 = i1 → Inv m S → ∃ v1 S1, ∃ v2 S2, ∃ v3 S3, f_L_roomNeeded_p3_0_5_0 S r1 i1 r3 = some (v1, S1) ∧ f_X12_roomNeeded_p4_0 S1 r2 i1 = some (v2, S2) ∧ f_X12_thrown_p4_0 S2 r2 = some (v3, S3) ∧ wr v3 = wr v1 ∧ (wr v1 = 0 → wr (iC (wl (wr (gI S3 r3 0 0))) (wl (wr v2))) = 0) ∧ Inv (m + 1) S3) : stepOK Inv L (fun c S x => f_law_b1985 c r1 r2 r3 L sc S x) := by
  intro c S m hI hx hgo
  obtain ⟨v1, S1, v2, S2, v3, S3, e1, e2, e3, e4, e5, hI2⟩ := h m S (sc (wr (6 * (m : Int) + 1)).toNat) (by omega) (hsc _) hI
  show ∃ T, f_law_b1985 c r1 r2 r3 L sc S (6 * (m : Int)) = some T
  unfold f_law_b1985 ckI
  rw [if_pos (ckb (k := 1) hL hx (by decide)), bd2_s e1, if_pos (ckb (k := 1) hL hx (by decide)), bd2_s e2, bd2_s e3, if_pos e4]
  by_cases hz : wr v1 = 0
  · rw [if_neg (fun hn => hn hz), if_pos (e5 hz)]
    exact hgo S3 hI2
  · rw [if_pos hz]
    exact hgo S3 hI2
theorem step_b2041 {r1 r2 r3 L : Nat} {sc : Nat → Int} {Inv : Nat → xSt → Prop} (hL : L ≤ 3072) (hsc : ∀ k, wr (sc k) = sc k) (h : ∀ (m : Nat) (S : xSt) (i1 : Int), m < 512 → wr i1 = i1 → Inv m S → ∃ v1 S1, ∃ v2 S2, ∃ v3 S3, f_L_bestLanes_p3_0_5_0 S r1 i1 r3 = some (v1, S1) ∧ f_X12_bestLanes_p4_0 S1 r2 i1 = some (v2, S2) ∧ f_X12_thrown_p4_0 S2 r2 = some (v3, S3) ∧ wr v3 = wr v1 ∧ (wr v1 = 0 → wr (iC (wl (wr (gI S3 r3 0 0))) (wl (wr v2))) = 0) ∧ Inv (m + 1) S3) : stepOK Inv L (fun c S x => f_law_b2041 c r1 r2 r3 L sc S x) := by
  intro c S m hI hx hgo
  obtain ⟨v1, S1, v2, S2, v3, S3, e1, e2, e3, e4, e5, hI2⟩ := h m S (sc (wr (6 * (m : Int) + 1)).toNat) (by omega) (hsc _) hI
  show ∃ T, f_law_b2041 c r1 r2 r3 L sc S (6 * (m : Int)) = some T
  unfold f_law_b2041 ckI
  rw [if_pos (ckb (k := 1) hL hx (by decide)), bd2_s e1, if_pos (ckb (k := 1) hL hx (by decide)), bd2_s e2, bd2_s e3, if_pos e4]
  by_cases hz : wr v1 = 0
  · rw [if_neg (fun hn => hn hz), if_pos (e5 hz)]
    exact hgo S3 hI2
  · rw [if_pos hz]
    exact hgo S3 hI2
theorem step_b2097 {r1 r2 r3 L : Nat} {sc : Nat → Int} {Inv : Nat → xSt → Prop} (hL : L ≤ 3072) (hsc : ∀ k, wr (sc k) = sc k) (h : ∀ (m : Nat) (S : xSt) (i1 : Int), m < 512 → wr i1 = i1 → Inv m S → ∃ v1 S1, ∃ v2 S2, ∃ v3 S3, f_L_bestRate_p3_0_5_0 S r1 i1 r3 = some (v1, S1) ∧ f_X12_bestRate_p4_0 S1 r2 i1 = some (v2, S2) ∧ f_X12_thrown_p4_0 S2 r2 = some (v3, S3) ∧ wr v3 = wr v1 ∧ (wr v1 = 0 → wr (iC (wl (wr (gI S3 r3 0 0))) (wl (wr v2))) = 0) ∧ Inv (m + 1) S3) : stepOK Inv L (fun c S x => f_law_b2097 c r1 r2 r3 L sc S x) := by
  intro c S m hI hx hgo
  obtain ⟨v1, S1, v2, S2, v3, S3, e1, e2, e3, e4, e5, hI2⟩ := h m S (sc (wr (6 * (m : Int) + 1)).toNat) (by omega) (hsc _) hI
  show ∃ T, f_law_b2097 c r1 r2 r3 L sc S (6 * (m : Int)) = some T
  unfold f_law_b2097 ckI
  rw [if_pos (ckb (k := 1) hL hx (by decide)), bd2_s e1, if_pos (ckb (k := 1) hL hx (by decide)), bd2_s e2, bd2_s e3, if_pos e4]
  by_cases hz : wr v1 = 0
  · rw [if_neg (fun hn => hn hz), if_pos (e5 hz)]
    exact hgo S3 hI2
  · rw [if_pos hz]
    exact hgo S3 hI2
theorem step_b2153 {r1 r2 r3 L : Nat} {sc : Nat → Int} {Inv : Nat → xSt → Prop} (hL : L ≤ 3072) (hsc : ∀ k, wr (sc k) = sc k) (h : ∀ (m : Nat) (S : xSt) (i1 : Int), m < 512 → wr i1 = i1 → Inv m S → ∃ v1 S1, ∃ v2 S2, ∃ v3 S3, f_L_bestLoop_p3_0_5_0 S r1 i1 r3 = some (v1, S1) ∧ f_X12_bestLoop_p4_0 S1 r2 i1 = some (v2, S2) ∧ f_X12_thrown_p4_0 S2 r2 = some (v3, S3) ∧ wr v3 = wr v1 ∧ (wr v1 = 0 → wr (iC (wl (wr (gI S3 r3 0 0))) (wl (wr v2))) = 0) ∧ Inv (m + 1) S3) : stepOK Inv L (fun c S x => f_law_b2153 c r1 r2 r3 L sc S x) := by
  intro c S m hI hx hgo
  obtain ⟨v1, S1, v2, S2, v3, S3, e1, e2, e3, e4, e5, hI2⟩ := h m S (sc (wr (6 * (m : Int) + 1)).toNat) (by omega) (hsc _) hI
  show ∃ T, f_law_b2153 c r1 r2 r3 L sc S (6 * (m : Int)) = some T
  unfold f_law_b2153 ckI
  rw [if_pos (ckb (k := 1) hL hx (by decide)), bd2_s e1, if_pos (ckb (k := 1) hL hx (by decide)), bd2_s e2, bd2_s e3, if_pos e4]
  by_cases hz : wr v1 = 0
  · rw [if_neg (fun hn => hn hz), if_pos (e5 hz)]
    exact hgo S3 hI2
  · rw [if_pos hz]
    exact hgo S3 hI2
theorem step_b2209 {r1 r2 r3 L : Nat} {sc : Nat → Int} {Inv : Nat → xSt → Prop} (hL : L ≤ 3072) (hsc : ∀ k, wr (sc k) = sc k) (h : ∀ (m : Nat) (S : xSt) (i1 : Int), m < 512 → wr i1 = i1 → Inv m S → ∃ v1 S1, ∃ v2 S2, ∃ v3 S3, f_L_cyclesUntil_p3_0_5_0 S r1 i1 r3 = some (v1, S1) ∧ f_X12_cyclesUntil_p4_0 S1 r2 i1 = some (v2, S2) ∧ f_X12_thrown_p4_0 S2 r2 = some (v3, S3) ∧ wr v3 = wr v1 ∧ (wr v1 = 0 → wr (iC (wl (wr (gI S3 r3 0 0))) (wl (wr v2))) = 0) ∧ Inv (m + 1) S3) : stepOK Inv L (fun c S x => f_law_b2209 c r1 r2 r3 L sc S x) := by
  intro c S m hI hx hgo
  obtain ⟨v1, S1, v2, S2, v3, S3, e1, e2, e3, e4, e5, hI2⟩ := h m S (sc (wr (6 * (m : Int) + 1)).toNat) (by omega) (hsc _) hI
  show ∃ T, f_law_b2209 c r1 r2 r3 L sc S (6 * (m : Int)) = some T
  unfold f_law_b2209 ckI
  rw [if_pos (ckb (k := 1) hL hx (by decide)), bd2_s e1, if_pos (ckb (k := 1) hL hx (by decide)), bd2_s e2, bd2_s e3, if_pos e4]
  by_cases hz : wr v1 = 0
  · rw [if_neg (fun hn => hn hz), if_pos (e5 hz)]
    exact hgo S3 hI2
  · rw [if_pos hz]
    exact hgo S3 hI2
theorem step_b2265 {r1 r2 r3 L : Nat} {sc : Nat → Int} {Inv : Nat → xSt → Prop} (hL : L ≤ 3072) (hsc : ∀ k, wr (sc k) = sc k) (h : ∀ (m : Nat) (S : xSt) (i1 : Int), m < 512 → wr i1 = i1 → Inv m S → ∃ v1 S1, ∃ v2 S2, ∃ v3 S3, f_L_mainCauseIn_p3_0_5_0 S r1 i1 r3 = some (v1, S1) ∧ f_X12_mainCauseIn_p4_0 S1 r2 i1 = some (v2, S2) ∧ f_X12_thrown_p4_0 S2 r2 = some (v3, S3) ∧ wr v3 = wr v1 ∧ (wr v1 = 0 → wr (iC (wl (wr (gI S3 r3 0 0))) (wl (wr v2))) = 0) ∧ Inv (m + 1) S3) : stepOK Inv L (fun c S x => f_law_b2265 c r1 r2 r3 L sc S x) := by
  intro c S m hI hx hgo
  obtain ⟨v1, S1, v2, S2, v3, S3, e1, e2, e3, e4, e5, hI2⟩ := h m S (sc (wr (6 * (m : Int) + 1)).toNat) (by omega) (hsc _) hI
  show ∃ T, f_law_b2265 c r1 r2 r3 L sc S (6 * (m : Int)) = some T
  unfold f_law_b2265 ckI
  rw [if_pos (ckb (k := 1) hL hx (by decide)), bd2_s e1, if_pos (ckb (k := 1) hL hx (by decide)), bd2_s e2, bd2_s e3, if_pos e4]
  by_cases hz : wr v1 = 0
  · rw [if_neg (fun hn => hn hz), if_pos (e5 hz)]
    exact hgo S3 hI2
  · rw [if_pos hz]
    exact hgo S3 hI2
theorem step_b2321 {r1 r2 r3 L : Nat} {sc : Nat → Int} {Inv : Nat → xSt → Prop} (hL : L ≤ 3072) (hsc : ∀ k, wr (sc k) = sc k) (h : ∀ (m : Nat) (S : xSt) (i1 : Int) (i2 : Int) (i3 : Int), m < 512 → wr i1 = i1 → wr i2 = i2 → wr i3 = i3 → Inv m S → ∃ v1 S1, ∃ v2 S2, ∃ v3 S3, f_L_ruleGain_p3_0_5_0 S r1 i1 i2 i3 r3 = some (v1, S1) ∧ f_X12_ruleGain_p4_0 S1 r2 i1 i2 i3 = some (v2, S2) ∧ f_X12_thrown_p4_0 S2 r2 = some (v3, S3) ∧ wr v3 = wr v1 ∧ (wr v1 = 0 → wr (iC (wl (wr (gI S3 r3 0 0))) (wl (wr v2))) = 0) ∧ Inv (m + 1) S3) : stepOK Inv L (fun c S x => f_law_b2321 c r1 r2 r3 L sc S x) := by
  intro c S m hI hx hgo
  obtain ⟨v1, S1, v2, S2, v3, S3, e1, e2, e3, e4, e5, hI2⟩ := h m S (sc (wr (6 * (m : Int) + 1)).toNat) (sc (wr (6 * (m : Int) + 2)).toNat) (sc (wr (6 * (m : Int) + 3)).toNat) (by omega) (hsc _) (hsc _) (hsc _) hI
  show ∃ T, f_law_b2321 c r1 r2 r3 L sc S (6 * (m : Int)) = some T
  unfold f_law_b2321 ckI
  rw [if_pos (ckb (k := 1) hL hx (by decide)), if_pos (ckb (k := 2) hL hx (by decide)), if_pos (ckb (k := 3) hL hx (by decide)), bd2_s e1, if_pos (ckb (k := 1) hL hx (by decide)), if_pos (ckb (k := 2) hL hx (by decide)), if_pos (ckb (k := 3) hL hx (by decide)), bd2_s e2, bd2_s e3, if_pos e4]
  by_cases hz : wr v1 = 0
  · rw [if_neg (fun hn => hn hz), if_pos (e5 hz)]
    exact hgo S3 hI2
  · rw [if_pos hz]
    exact hgo S3 hI2
theorem step_b2401 {r1 r2 r3 L : Nat} {sc : Nat → Int} {Inv : Nat → xSt → Prop} (hL : L ≤ 3072) (hsc : ∀ k, wr (sc k) = sc k) (h : ∀ (m : Nat) (S : xSt) (i1 : Int), m < 512 → wr i1 = i1 → Inv m S → ∃ v1 S1, ∃ v2 S2, ∃ v3 S3, f_L_printInstruction_p3_0_5_0 S r1 i1 r3 = some (v1, S1) ∧ f_X12_printInstruction_p4_0 S1 r2 i1 = some (v2, S2) ∧ f_X12_thrown_p4_0 S2 r2 = some (v3, S3) ∧ wr v3 = wr v1 ∧ (wr v1 = 0 → wr (iC (wl (wr (gI S3 r3 0 0))) (wl (wr v2))) = 0) ∧ Inv (m + 1) S3) : stepOK Inv L (fun c S x => f_law_b2401 c r1 r2 r3 L sc S x) := by
  intro c S m hI hx hgo
  obtain ⟨v1, S1, v2, S2, v3, S3, e1, e2, e3, e4, e5, hI2⟩ := h m S (sc (wr (6 * (m : Int) + 1)).toNat) (by omega) (hsc _) hI
  show ∃ T, f_law_b2401 c r1 r2 r3 L sc S (6 * (m : Int)) = some T
  unfold f_law_b2401 ckI
  rw [if_pos (ckb (k := 1) hL hx (by decide)), bd2_s e1, if_pos (ckb (k := 1) hL hx (by decide)), bd2_s e2, bd2_s e3, if_pos e4]
  by_cases hz : wr v1 = 0
  · rw [if_neg (fun hn => hn hz), if_pos (e5 hz)]
    exact hgo S3 hI2
  · rw [if_pos hz]
    exact hgo S3 hI2
theorem step_b2495 {r1 r2 r3 L : Nat} {sc : Nat → Int} {Inv : Nat → xSt → Prop} (hL : L ≤ 3072) (hsc : ∀ k, wr (sc k) = sc k) (h : ∀ (m : Nat) (S : xSt) , m < 512 → Inv m S → ∃ v1 S1, ∃ v2 S2, ∃ v3 S3, f_L_restoreState_p3_0_5_0 S r1 r3 = some (v1, S1) ∧ f_X12_restoreState_p4_0 S1 r2 = some (v2, S2) ∧ f_X12_thrown_p4_0 S2 r2 = some (v3, S3) ∧ wr v3 = wr v1 ∧ (wr v1 = 0 → wr (iC (wl (wr (gI S3 r3 0 0))) (wl (wr v2))) = 0) ∧ Inv (m + 1) S3) : stepOK Inv L (fun c S x => f_law_b2495 c r1 r2 r3 L sc S x) := by
  intro c S m hI hx hgo
  obtain ⟨v1, S1, v2, S2, v3, S3, e1, e2, e3, e4, e5, hI2⟩ := h m S  (by omega) hI
  show ∃ T, f_law_b2495 c r1 r2 r3 L sc S (6 * (m : Int)) = some T
  unfold f_law_b2495
  rw [bd2_s e1, bd2_s e2, bd2_s e3, if_pos e4]
  by_cases hz : wr v1 = 0
  · rw [if_neg (fun hn => hn hz), if_pos (e5 hz)]
    exact hgo S3 hI2
  · rw [if_pos hz]
    exact hgo S3 hI2
