/-! mathematics: the seven other cases -/
theorem step_b503 {r1 r2 r3 L : Nat} {sc : Nat → Int} {Inv : Nat → xSt → Prop} (hL : L ≤ 3072) (hsc : ∀ k, wr (sc k) = sc k) (h : ∀ (m : Nat) (S : xSt) (i1 : Int), m < 512 → wr i1 = i1 → Inv m S → ∃ v1 S1, ∃ v2 S2, ∃ v3 S3, f_L_crosses_p3_0_5_0 S r1 i1 r3 = some (v1, S1) ∧ f_X12_crosses_p4_0 S1 r2 i1 = some (v2, S2) ∧ f_X12_thrown_p4_0 S2 r2 = some (v3, S3) ∧ wr v3 = wr v1 ∧ (wr v1 = 0 → wr (iC (wl (wr (gI S3 r3 0 0))) (wl (if wr v2 = 0 then 0 else 1))) = 0) ∧ Inv (m + 1) S3) : stepOK Inv L (fun c S x => f_law_b503 c r1 r2 r3 L sc S x) := by
  intro c S m hI hx hgo
  obtain ⟨v1, S1, v2, S2, v3, S3, e1, e2, e3, e4, e5, hI2⟩ := h m S (sc (wr (6 * (m : Int) + 1)).toNat) (by omega) (hsc _) hI
  show ∃ T, f_law_b503 c r1 r2 r3 L sc S (6 * (m : Int)) = some T
  unfold f_law_b503 ckI
  rw [if_pos (ckb (k := 1) hL hx (by decide)), bd2_s e1, if_pos (ckb (k := 1) hL hx (by decide)), bd2_s e2, bd2_s e3, if_pos e4]
  by_cases hz : wr v1 = 0
  · rw [if_neg (fun hn => hn hz)]
    replace e5 := e5 hz
    by_cases hb : wr v2 = 0
    · rw [if_pos hb] at e5
      rw [if_pos hb, if_pos e5]
      exact hgo S3 hI2
    · rw [if_neg hb] at e5
      rw [if_neg hb, if_pos e5]
      exact hgo S3 hI2
  · rw [if_pos hz]
    exact hgo S3 hI2
theorem step_b566 {r1 r2 r3 L : Nat} {sc : Nat → Int} {Inv : Nat → xSt → Prop} (hL : L ≤ 3072) (hsc : ∀ k, wr (sc k) = sc k) (h : ∀ (m : Nat) (S : xSt) (i1 : Int), m < 512 → wr i1 = i1 → Inv m S → ∃ v1 S1, ∃ v2 S2, ∃ v3 S3, f_L_fuses_p3_0_5_0 S r1 i1 r3 = some (v1, S1) ∧ f_X12_fuses_p4_0 S1 r2 i1 = some (v2, S2) ∧ f_X12_thrown_p4_0 S2 r2 = some (v3, S3) ∧ wr v3 = wr v1 ∧ (wr v1 = 0 → wr (iC (wl (wr (gI S3 r3 0 0))) (wl (if wr v2 = 0 then 0 else 1))) = 0) ∧ Inv (m + 1) S3) : stepOK Inv L (fun c S x => f_law_b566 c r1 r2 r3 L sc S x) := by
  intro c S m hI hx hgo
  obtain ⟨v1, S1, v2, S2, v3, S3, e1, e2, e3, e4, e5, hI2⟩ := h m S (sc (wr (6 * (m : Int) + 1)).toNat) (by omega) (hsc _) hI
  show ∃ T, f_law_b566 c r1 r2 r3 L sc S (6 * (m : Int)) = some T
  unfold f_law_b566 ckI
  rw [if_pos (ckb (k := 1) hL hx (by decide)), bd2_s e1, if_pos (ckb (k := 1) hL hx (by decide)), bd2_s e2, bd2_s e3, if_pos e4]
  by_cases hz : wr v1 = 0
  · rw [if_neg (fun hn => hn hz)]
    replace e5 := e5 hz
    by_cases hb : wr v2 = 0
    · rw [if_pos hb] at e5
      rw [if_pos hb, if_pos e5]
      exact hgo S3 hI2
    · rw [if_neg hb] at e5
      rw [if_neg hb, if_pos e5]
      exact hgo S3 hI2
  · rw [if_pos hz]
    exact hgo S3 hI2
theorem step_b629 {r1 r2 r3 L : Nat} {sc : Nat → Int} {Inv : Nat → xSt → Prop} (hL : L ≤ 3072) (hsc : ∀ k, wr (sc k) = sc k) (h : ∀ (m : Nat) (S : xSt) (i1 : Int), m < 512 → wr i1 = i1 → Inv m S → ∃ v1 S1, ∃ v2 S2, ∃ v3 S3, f_L_isLoopable_p3_0_5_0 S r1 i1 r3 = some (v1, S1) ∧ f_X12_isLoopable_p4_0 S1 r2 i1 = some (v2, S2) ∧ f_X12_thrown_p4_0 S2 r2 = some (v3, S3) ∧ wr v3 = wr v1 ∧ (wr v1 = 0 → wr (iC (wl (wr (gI S3 r3 0 0))) (wl (if wr v2 = 0 then 0 else 1))) = 0) ∧ Inv (m + 1) S3) : stepOK Inv L (fun c S x => f_law_b629 c r1 r2 r3 L sc S x) := by
  intro c S m hI hx hgo
  obtain ⟨v1, S1, v2, S2, v3, S3, e1, e2, e3, e4, e5, hI2⟩ := h m S (sc (wr (6 * (m : Int) + 1)).toNat) (by omega) (hsc _) hI
  show ∃ T, f_law_b629 c r1 r2 r3 L sc S (6 * (m : Int)) = some T
  unfold f_law_b629 ckI
  rw [if_pos (ckb (k := 1) hL hx (by decide)), bd2_s e1, if_pos (ckb (k := 1) hL hx (by decide)), bd2_s e2, bd2_s e3, if_pos e4]
  by_cases hz : wr v1 = 0
  · rw [if_neg (fun hn => hn hz)]
    replace e5 := e5 hz
    by_cases hb : wr v2 = 0
    · rw [if_pos hb] at e5
      rw [if_pos hb, if_pos e5]
      exact hgo S3 hI2
    · rw [if_neg hb] at e5
      rw [if_neg hb, if_pos e5]
      exact hgo S3 hI2
  · rw [if_pos hz]
    exact hgo S3 hI2
theorem step_b718 {r1 r2 r3 L : Nat} {sc : Nat → Int} {Inv : Nat → xSt → Prop} (hL : L ≤ 3072) (hsc : ∀ k, wr (sc k) = sc k) (h : ∀ (m : Nat) (S : xSt) (i1 z : Int), m < 512 → wr i1 = i1 → z = 0 ∨ z = 1 → Inv m S → ∃ v1 S1, ∃ v2 S2, ∃ v3 S3, f_L_ofKind_p3_0_5_0 S r1 i1 z r3 = some (v1, S1) ∧ f_X12_ofKind_p4_0 S1 r2 i1 z = some (v2, S2) ∧ f_X12_thrown_p4_0 S2 r2 = some (v3, S3) ∧ wr v3 = wr v1 ∧ (wr v1 = 0 → wr (iC (wl (wr (gI S3 r3 0 0))) (wl (wr v2))) = 0) ∧ Inv (m + 1) S3) : stepOK Inv L (fun c S x => f_law_b718 c r1 r2 r3 L sc S x) := by
  intro c S m hI hx hgo
  show ∃ T, f_law_b718 c r1 r2 r3 L sc S (6 * (m : Int)) = some T
  unfold f_law_b718 ckI
  by_cases hb : wr (sc (wr (6 * (m : Int) + 2)).toNat) = 0
  · obtain ⟨v1, S1, v2, S2, v3, S3, e1, e2, e3, e4, e5, hI2⟩ := h m S (sc (wr (6 * (m : Int) + 1)).toNat) 0 (by omega) (hsc _) (by decide) hI
    rw [if_pos (ckb (k := 1) hL hx (by decide)), if_pos (ckb (k := 2) hL hx (by decide)), if_pos hb, bd2_s e1, if_pos (ckb (k := 1) hL hx (by decide)), if_pos (ckb (k := 2) hL hx (by decide)), if_pos hb, bd2_s e2, bd2_s e3, if_pos e4]
    by_cases hz : wr v1 = 0
    · rw [if_neg (fun hn => hn hz), if_pos (e5 hz)]
      exact hgo S3 hI2
    · rw [if_pos hz]
      exact hgo S3 hI2
  · obtain ⟨v1, S1, v2, S2, v3, S3, e1, e2, e3, e4, e5, hI2⟩ := h m S (sc (wr (6 * (m : Int) + 1)).toNat) 1 (by omega) (hsc _) (by decide) hI
    rw [if_pos (ckb (k := 1) hL hx (by decide)), if_pos (ckb (k := 2) hL hx (by decide)), if_neg hb, bd2_s e1, if_pos (ckb (k := 1) hL hx (by decide)), if_pos (ckb (k := 2) hL hx (by decide)), if_neg hb, bd2_s e2, bd2_s e3, if_pos e4]
    by_cases hz : wr v1 = 0
    · rw [if_neg (fun hn => hn hz), if_pos (e5 hz)]
      exact hgo S3 hI2
    · rw [if_pos hz]
      exact hgo S3 hI2
theorem step_b802 {r1 r2 r3 L : Nat} {sc : Nat → Int} {Inv : Nat → xSt → Prop} (hL : L ≤ 3072) (hsc : ∀ k, wr (sc k) = sc k) (h : ∀ (m : Nat) (S : xSt) (i1 z : Int), m < 512 → wr i1 = i1 → z = 0 ∨ z = 1 → Inv m S → ∃ v1 S1, ∃ v2 S2, ∃ v3 S3, f_L_rule_p3_0_5_0 S r1 i1 z r3 = some (v1, S1) ∧ f_X12_rule_p4_0 S1 r2 i1 z = some (v2, S2) ∧ f_X12_thrown_p4_0 S2 r2 = some (v3, S3) ∧ wr v3 = wr v1 ∧ (wr v1 = 0 → wr (iC (wl (wr (gI S3 r3 0 0))) (wl (wr v2))) = 0) ∧ Inv (m + 1) S3) : stepOK Inv L (fun c S x => f_law_b802 c r1 r2 r3 L sc S x) := by
  intro c S m hI hx hgo
  show ∃ T, f_law_b802 c r1 r2 r3 L sc S (6 * (m : Int)) = some T
  unfold f_law_b802 ckI
  by_cases hb : wr (sc (wr (6 * (m : Int) + 2)).toNat) = 0
  · obtain ⟨v1, S1, v2, S2, v3, S3, e1, e2, e3, e4, e5, hI2⟩ := h m S (sc (wr (6 * (m : Int) + 1)).toNat) 0 (by omega) (hsc _) (by decide) hI
    rw [if_pos (ckb (k := 1) hL hx (by decide)), if_pos (ckb (k := 2) hL hx (by decide)), if_pos hb, bd2_s e1, if_pos (ckb (k := 1) hL hx (by decide)), if_pos (ckb (k := 2) hL hx (by decide)), if_pos hb, bd2_s e2, bd2_s e3, if_pos e4]
    by_cases hz : wr v1 = 0
    · rw [if_neg (fun hn => hn hz), if_pos (e5 hz)]
      exact hgo S3 hI2
    · rw [if_pos hz]
      exact hgo S3 hI2
  · obtain ⟨v1, S1, v2, S2, v3, S3, e1, e2, e3, e4, e5, hI2⟩ := h m S (sc (wr (6 * (m : Int) + 1)).toNat) 1 (by omega) (hsc _) (by decide) hI
    rw [if_pos (ckb (k := 1) hL hx (by decide)), if_pos (ckb (k := 2) hL hx (by decide)), if_neg hb, bd2_s e1, if_pos (ckb (k := 1) hL hx (by decide)), if_pos (ckb (k := 2) hL hx (by decide)), if_neg hb, bd2_s e2, bd2_s e3, if_pos e4]
    by_cases hz : wr v1 = 0
    · rw [if_neg (fun hn => hn hz), if_pos (e5 hz)]
      exact hgo S3 hI2
    · rw [if_pos hz]
      exact hgo S3 hI2
theorem step_b1261 {r1 r2 r3 L : Nat} {sc : Nat → Int} {Inv : Nat → xSt → Prop} (hL : L ≤ 3072) (hsc : ∀ k, wr (sc k) = sc k) (h : ∀ (m : Nat) (S : xSt), m < 512 → Inv m S → ∃ v1 S1, ∃ v2 S2, f_X11_perCycle_p3_0 S r1 = some (v1, S1) ∧ f_X12_perCycle_p4_0 S1 r2 = some (v2, S2) ∧ wr (Op.cmpValue (FP.dcmp v1 v2) .l).toInt = 0 ∧ Inv (m + 1) S2) : stepOK Inv L (fun c S x => f_law_b1261 c r1 r2 r3 L sc S x) := by
  intro c S m hI hx hgo
  obtain ⟨v1, S1, v2, S2, e1, e2, e4, hI2⟩ := h m S (by omega) hI
  show ∃ T, f_law_b1261 c r1 r2 r3 L sc S (6 * (m : Int)) = some T
  unfold f_law_b1261
  rw [bd2_s e1, bd2_s e2, if_pos e4]
  exact hgo S2 hI2
theorem step_b1302 {r1 r2 r3 L : Nat} {sc : Nat → Int} {Inv : Nat → xSt → Prop} (hL : L ≤ 3072) (hsc : ∀ k, wr (sc k) = sc k) (h : ∀ (m : Nat) (S : xSt), m < 512 → Inv m S → ∃ v1 S1, ∃ v2 S2, f_X11_fusedShare_p3_0 S r1 = some (v1, S1) ∧ f_X12_fusedShare_p4_0 S1 r2 = some (v2, S2) ∧ (∀ k : Option xSt, ckNd (FP.f2d v1) k = k) ∧ (∀ k : Option xSt, ckNd (FP.f2d v2) k = k) ∧ wr (Op.cmpValue (FP.dcmp (FP.f2d v1) (FP.f2d v2)) .l).toInt = 0 ∧ Inv (m + 1) S2) : stepOK Inv L (fun c S x => f_law_b1302 c r1 r2 r3 L sc S x) := by
  intro c S m hI hx hgo
  obtain ⟨v1, S1, v2, S2, e1, e2, e3, e5, e4, hI2⟩ := h m S (by omega) hI
  show ∃ T, f_law_b1302 c r1 r2 r3 L sc S (6 * (m : Int)) = some T
  unfold f_law_b1302
  rw [bd2_s e1, e3, bd2_s e2, e5, if_pos e4]
  exact hgo S2 hI2
