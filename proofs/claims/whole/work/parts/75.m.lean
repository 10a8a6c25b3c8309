/-! mathematics: the words of the text -/
def wln (w : Nat) : Nat := ([3, 3, 3, 4, 5, 3, 4, 3, 4, 6, 5, 6, 5, 3, 4, 4, 4, 6, 4, 5, 4, 5] : List Nat).getD w 0
def wps (w : Nat) : Nat := ([0, 4, 8, 12, 17, 23, 27, 32, 36, 41, 48, 54, 61, 67, 71, 76, 81, 86, 93, 98, 104, 109, 115] : List Nat).getD w 0
def wtx (w : Nat) : Nat := ([2, 3, 4, 5, 6, 7, 8, 9, 10, 11, 12, 13, 14, 15, 16, 17, 1, 0, 18, 21, 19, 20] : List Nat).getD w 0
theorem w_next : ∀ w : Nat, w < 22 → wps (w + 1) = wps w + wln w + 1 ∧ chv 42 (wps w + wln w) = 32 ∧ wps w + wln w + 1 ≤ 115 := by decide +kernel
theorem w_in : ∀ w : Nat, w < 22 → ∀ j : Nat, j < wln w → (97 ≤ chv 42 (wps w + j) ∧ chv 42 (wps w + j) ≤ 122) := by decide +kernel
theorem w_len : ∀ w : Nat, w < 22 → 3 ≤ wln w ∧ wln w ≤ 6 := by decide +kernel
theorem w_dist : ∀ w : Nat, w < 22 → ∀ u : Nat, u < 22 → w ≠ u → wln w ≠ wln u ∨ ∃ j : Nat, j < wln w ∧ chv 42 (wps w + j) ≠ chv 42 (wps u + j) := by decide +kernel
theorem ch_0 {S : xSt} {j : Nat} (h : j < 6) : f_J0_charAt_5068e S 0 (j : Int) = some (chv 0 j, S) := by
  have hN : xln 0 = 6 := by decide +kernel
  unfold f_J0_charAt_5068e f_J0_isLatin1_aae02 f_J1_charAt_3b067
  rw [hN, bd2_e, if_neg (by decide), idx_e h (by decide), bd_e, cki_e h (by decide), wrj_e h (by decide), bd2_e]
  rfl
theorem tk_0 : tOK 0 6 6 6 (chv 0) := ⟨fun S j h => ch_0 h, fun S => by
  have h : iSr ((xln 0 : Nat) : Int) 0 = 6 := by decide +kernel
  show some (iSr ((xln 0 : Nat) : Int) 0, S) = some (6, S)
  rw [h], by decide, Nat.le_refl _⟩
theorem ch_1 {S : xSt} {j : Nat} (h : j < 4) : f_J0_charAt_5068e S 1 (j : Int) = some (chv 1 j, S) := by
  have hN : xln 1 = 4 := by decide +kernel
  unfold f_J0_charAt_5068e f_J0_isLatin1_aae02 f_J1_charAt_3b067
  rw [hN, bd2_e, if_neg (by decide), idx_e h (by decide), bd_e, cki_e h (by decide), wrj_e h (by decide), bd2_e]
  rfl
theorem tk_1 : tOK 1 4 4 4 (chv 1) := ⟨fun S j h => ch_1 h, fun S => by
  have h : iSr ((xln 1 : Nat) : Int) 0 = 4 := by decide +kernel
  show some (iSr ((xln 1 : Nat) : Int) 0, S) = some (4, S)
  rw [h], by decide, Nat.le_refl _⟩
theorem ch_12 {S : xSt} {j : Nat} (h : j < 5) : f_J0_charAt_5068e S 12 (j : Int) = some (chv 12 j, S) := by
  have hN : xln 12 = 5 := by decide +kernel
  unfold f_J0_charAt_5068e f_J0_isLatin1_aae02 f_J1_charAt_3b067
  rw [hN, bd2_e, if_neg (by decide), idx_e h (by decide), bd_e, cki_e h (by decide), wrj_e h (by decide), bd2_e]
  rfl
theorem tk_12 : tOK 12 5 5 5 (chv 12) := ⟨fun S j h => ch_12 h, fun S => by
  have h : iSr ((xln 12 : Nat) : Int) 0 = 5 := by decide +kernel
  show some (iSr ((xln 12 : Nat) : Int) 0, S) = some (5, S)
  rw [h], by decide, Nat.le_refl _⟩
theorem ch_13 {S : xSt} {j : Nat} (h : j < 6) : f_J0_charAt_5068e S 13 (j : Int) = some (chv 13 j, S) := by
  have hN : xln 13 = 6 := by decide +kernel
  unfold f_J0_charAt_5068e f_J0_isLatin1_aae02 f_J1_charAt_3b067
  rw [hN, bd2_e, if_neg (by decide), idx_e h (by decide), bd_e, cki_e h (by decide), wrj_e h (by decide), bd2_e]
  rfl
theorem tk_13 : tOK 13 6 6 6 (chv 13) := ⟨fun S j h => ch_13 h, fun S => by
  have h : iSr ((xln 13 : Nat) : Int) 0 = 6 := by decide +kernel
  show some (iSr ((xln 13 : Nat) : Int) 0, S) = some (6, S)
  rw [h], by decide, Nat.le_refl _⟩
theorem ch_14 {S : xSt} {j : Nat} (h : j < 5) : f_J0_charAt_5068e S 14 (j : Int) = some (chv 14 j, S) := by
  have hN : xln 14 = 5 := by decide +kernel
  unfold f_J0_charAt_5068e f_J0_isLatin1_aae02 f_J1_charAt_3b067
  rw [hN, bd2_e, if_neg (by decide), idx_e h (by decide), bd_e, cki_e h (by decide), wrj_e h (by decide), bd2_e]
  rfl
theorem tk_14 : tOK 14 5 5 5 (chv 14) := ⟨fun S j h => ch_14 h, fun S => by
  have h : iSr ((xln 14 : Nat) : Int) 0 = 5 := by decide +kernel
  show some (iSr ((xln 14 : Nat) : Int) 0, S) = some (5, S)
  rw [h], by decide, Nat.le_refl _⟩
theorem ch_15 {S : xSt} {j : Nat} (h : j < 3) : f_J0_charAt_5068e S 15 (j : Int) = some (chv 15 j, S) := by
  have hN : xln 15 = 3 := by decide +kernel
  unfold f_J0_charAt_5068e f_J0_isLatin1_aae02 f_J1_charAt_3b067
  rw [hN, bd2_e, if_neg (by decide), idx_e h (by decide), bd_e, cki_e h (by decide), wrj_e h (by decide), bd2_e]
  rfl
theorem tk_15 : tOK 15 3 3 3 (chv 15) := ⟨fun S j h => ch_15 h, fun S => by
  have h : iSr ((xln 15 : Nat) : Int) 0 = 3 := by decide +kernel
  show some (iSr ((xln 15 : Nat) : Int) 0, S) = some (3, S)
  rw [h], by decide, Nat.le_refl _⟩
theorem ch_16 {S : xSt} {j : Nat} (h : j < 4) : f_J0_charAt_5068e S 16 (j : Int) = some (chv 16 j, S) := by
  have hN : xln 16 = 4 := by decide +kernel
  unfold f_J0_charAt_5068e f_J0_isLatin1_aae02 f_J1_charAt_3b067
  rw [hN, bd2_e, if_neg (by decide), idx_e h (by decide), bd_e, cki_e h (by decide), wrj_e h (by decide), bd2_e]
  rfl
theorem tk_16 : tOK 16 4 4 4 (chv 16) := ⟨fun S j h => ch_16 h, fun S => by
  have h : iSr ((xln 16 : Nat) : Int) 0 = 4 := by decide +kernel
  show some (iSr ((xln 16 : Nat) : Int) 0, S) = some (4, S)
  rw [h], by decide, Nat.le_refl _⟩
theorem ch_17 {S : xSt} {j : Nat} (h : j < 4) : f_J0_charAt_5068e S 17 (j : Int) = some (chv 17 j, S) := by
  have hN : xln 17 = 4 := by decide +kernel
  unfold f_J0_charAt_5068e f_J0_isLatin1_aae02 f_J1_charAt_3b067
  rw [hN, bd2_e, if_neg (by decide), idx_e h (by decide), bd_e, cki_e h (by decide), wrj_e h (by decide), bd2_e]
  rfl
theorem tk_17 : tOK 17 4 4 4 (chv 17) := ⟨fun S j h => ch_17 h, fun S => by
  have h : iSr ((xln 17 : Nat) : Int) 0 = 4 := by decide +kernel
  show some (iSr ((xln 17 : Nat) : Int) 0, S) = some (4, S)
  rw [h], by decide, Nat.le_refl _⟩
theorem ch_18 {S : xSt} {j : Nat} (h : j < 4) : f_J0_charAt_5068e S 18 (j : Int) = some (chv 18 j, S) := by
  have hN : xln 18 = 4 := by decide +kernel
  unfold f_J0_charAt_5068e f_J0_isLatin1_aae02 f_J1_charAt_3b067
  rw [hN, bd2_e, if_neg (by decide), idx_e h (by decide), bd_e, cki_e h (by decide), wrj_e h (by decide), bd2_e]
  rfl
theorem tk_18 : tOK 18 4 4 4 (chv 18) := ⟨fun S j h => ch_18 h, fun S => by
  have h : iSr ((xln 18 : Nat) : Int) 0 = 4 := by decide +kernel
  show some (iSr ((xln 18 : Nat) : Int) 0, S) = some (4, S)
  rw [h], by decide, Nat.le_refl _⟩
theorem ch_19 {S : xSt} {j : Nat} (h : j < 4) : f_J0_charAt_5068e S 19 (j : Int) = some (chv 19 j, S) := by
  have hN : xln 19 = 4 := by decide +kernel
  unfold f_J0_charAt_5068e f_J0_isLatin1_aae02 f_J1_charAt_3b067
  rw [hN, bd2_e, if_neg (by decide), idx_e h (by decide), bd_e, cki_e h (by decide), wrj_e h (by decide), bd2_e]
  rfl
theorem tk_19 : tOK 19 4 4 4 (chv 19) := ⟨fun S j h => ch_19 h, fun S => by
  have h : iSr ((xln 19 : Nat) : Int) 0 = 4 := by decide +kernel
  show some (iSr ((xln 19 : Nat) : Int) 0, S) = some (4, S)
  rw [h], by decide, Nat.le_refl _⟩
theorem ch_20 {S : xSt} {j : Nat} (h : j < 5) : f_J0_charAt_5068e S 20 (j : Int) = some (chv 20 j, S) := by
  have hN : xln 20 = 5 := by decide +kernel
  unfold f_J0_charAt_5068e f_J0_isLatin1_aae02 f_J1_charAt_3b067
  rw [hN, bd2_e, if_neg (by decide), idx_e h (by decide), bd_e, cki_e h (by decide), wrj_e h (by decide), bd2_e]
  rfl
theorem tk_20 : tOK 20 5 5 5 (chv 20) := ⟨fun S j h => ch_20 h, fun S => by
  have h : iSr ((xln 20 : Nat) : Int) 0 = 5 := by decide +kernel
  show some (iSr ((xln 20 : Nat) : Int) 0, S) = some (5, S)
  rw [h], by decide, Nat.le_refl _⟩
theorem ch_21 {S : xSt} {j : Nat} (h : j < 5) : f_J0_charAt_5068e S 21 (j : Int) = some (chv 21 j, S) := by
  have hN : xln 21 = 5 := by decide +kernel
  unfold f_J0_charAt_5068e f_J0_isLatin1_aae02 f_J1_charAt_3b067
  rw [hN, bd2_e, if_neg (by decide), idx_e h (by decide), bd_e, cki_e h (by decide), wrj_e h (by decide), bd2_e]
  rfl
theorem tk_21 : tOK 21 5 5 5 (chv 21) := ⟨fun S j h => ch_21 h, fun S => by
  have h : iSr ((xln 21 : Nat) : Int) 0 = 5 := by decide +kernel
  show some (iSr ((xln 21 : Nat) : Int) 0, S) = some (5, S)
  rw [h], by decide, Nat.le_refl _⟩
theorem wc_2 : ∀ j : Nat, j < 3 → chv 2 j = chv 42 (0 + j) := by decide +kernel
theorem wc_3 : ∀ j : Nat, j < 3 → chv 3 j = chv 42 (4 + j) := by decide +kernel
theorem wc_4 : ∀ j : Nat, j < 3 → chv 4 j = chv 42 (8 + j) := by decide +kernel
theorem wc_5 : ∀ j : Nat, j < 4 → chv 5 j = chv 42 (12 + j) := by decide +kernel
theorem wc_6 : ∀ j : Nat, j < 5 → chv 6 j = chv 42 (17 + j) := by decide +kernel
theorem wc_7 : ∀ j : Nat, j < 3 → chv 7 j = chv 42 (23 + j) := by decide +kernel
theorem wc_8 : ∀ j : Nat, j < 4 → chv 8 j = chv 42 (27 + j) := by decide +kernel
theorem wc_9 : ∀ j : Nat, j < 3 → chv 9 j = chv 42 (32 + j) := by decide +kernel
theorem wc_10 : ∀ j : Nat, j < 4 → chv 10 j = chv 42 (36 + j) := by decide +kernel
theorem wc_11 : ∀ j : Nat, j < 6 → chv 11 j = chv 42 (41 + j) := by decide +kernel
theorem wc_12 : ∀ j : Nat, j < 5 → chv 12 j = chv 42 (48 + j) := by decide +kernel
theorem wc_13 : ∀ j : Nat, j < 6 → chv 13 j = chv 42 (54 + j) := by decide +kernel
theorem wc_14 : ∀ j : Nat, j < 5 → chv 14 j = chv 42 (61 + j) := by decide +kernel
theorem wc_15 : ∀ j : Nat, j < 3 → chv 15 j = chv 42 (67 + j) := by decide +kernel
theorem wc_16 : ∀ j : Nat, j < 4 → chv 16 j = chv 42 (71 + j) := by decide +kernel
theorem wc_17 : ∀ j : Nat, j < 4 → chv 17 j = chv 42 (76 + j) := by decide +kernel
theorem wc_1 : ∀ j : Nat, j < 4 → chv 1 j = chv 42 (81 + j) := by decide +kernel
theorem wc_0 : ∀ j : Nat, j < 6 → chv 0 j = chv 42 (86 + j) := by decide +kernel
theorem wc_18 : ∀ j : Nat, j < 4 → chv 18 j = chv 42 (93 + j) := by decide +kernel
theorem wc_21 : ∀ j : Nat, j < 5 → chv 21 j = chv 42 (98 + j) := by decide +kernel
theorem wc_19 : ∀ j : Nat, j < 4 → chv 19 j = chv 42 (104 + j) := by decide +kernel
theorem wc_20 : ∀ j : Nat, j < 5 → chv 20 j = chv 42 (109 + j) := by decide +kernel
/-- the letters from p to e are the word w -/
def MW (b : Nat → Int) (p e : Int) (w : Nat) : Prop := e - p = (wln w : Int) ∧ ∀ j : Nat, j < wln w → b (p.toNat + j) = chv 42 (wps w + j)
theorem mw_one {b : Nat → Int} {p e : Int} {w u : Nat} (hw : w < 22) (hu : u < 22) (h1 : MW b p e w) (h2 : MW b p e u) : w = u := by
  by_cases c : w = u
  · exact c
  · rcases w_dist w hw u hu c with h | ⟨j, hj, h⟩
    · exact absurd (by have a := h1.1; have b := h2.1; omega) h
    · exact absurd ((h1.2 j hj).symm.trans (h2.2 j (by have a := h1.1; have b := h2.1; omega))) h
/-- the reference's word: its number, or -1 -/
def WDn (b : Nat → Int) (p e v : Int) : Prop := (-1 ≤ v ∧ v ≤ 21) ∧ ∀ w : Nat, w < 22 → (v = (w : Int) ↔ MW b p e w)
section WD
variable {S T : xSt} {X μ : xR} {n p e : Int} {b : Nat → Int}
theorem j42 {S : xSt} : f_J0_length_8abf5 S 42 = some (115, S) := tk_42.2.1 S
theorem m_b102 (c4 : xSt → Int → Int → Option (Int × xSt)) {w : Nat} (hw : w < 22) {x1 : Int} : ∀ (d i : Nat) (f : Nat), i + d = wln w → d < f → f_X12_wordHere_p4_0_b102 c4 13 f S x1 ((wps w + i : Nat) : Int) = c4 S (x1 + 1) ((wps (w + 1) : Nat) : Int) := by
  obtain ⟨a1, a2, a3⟩ := w_next w hw
  intro d
  induction d with
  | zero =>
    intro i f h hf
    obtain ⟨f, rfl⟩ := fs_e (show 0 < f by omega)
    have ei : i = wln w := by omega
    subst ei
    rw [f_X12_wordHere_p4_0_b102, ch_42 (by omega), bd2_e, a2, if_pos rfl, a1]
    rfl
  | succ d ih =>
    intro i f h hf
    obtain ⟨f, rfl⟩ := fs_e (show 0 < f by omega)
    have k := w_in w hw i (by omega)
    rw [f_X12_wordHere_p4_0_b102, ch_42 (by omega), bd2_e, wr_e (z := chv 42 (wps w + i)) (by omega), wr_e (z := 32) (by decide), if_neg (by omega)]
    exact ih (i + 1) f (by omega) (by omega)
theorem m_b16 (c4 : xSt → Int → Int → Option (Int × xSt)) {w : Nat} (hw : w < 22) (hby : ∀ k : Nat, (k : Int) < n → μ 13 k = b k ∧ -128 ≤ b k ∧ b k ≤ 127) (hn : n ≤ 600) (hp : 0 ≤ p ∧ p ≤ e ∧ e ≤ n) (h24 : μ 0 24 = p) (h23 : μ 0 23 = e) (hT : 10000000 ≤ fu T) {x1 : Int} : ∀ (d j : Nat) (f : Nat), j + d = wln w → d < f → p + (j : Int) ≤ e → (∀ i : Nat, i < j → b (p.toNat + i) = chv 42 (wps w + i)) → (MW b p e w ∧ f_X12_wordHere_p4_0_b16 c4 13 f (sR T 13 μ) x1 ((wps w : Nat) : Int) ((j : Nat) : Int) = some (x1, sR T 13 μ)) ∨ (¬ MW b p e w ∧ f_X12_wordHere_p4_0_b16 c4 13 f (sR T 13 μ) x1 ((wps w : Nat) : Int) ((j : Nat) : Int) = c4 (sR T 13 μ) (x1 + 1) ((wps (w + 1) : Nat) : Int)) := by
  obtain ⟨a1, a2, a3⟩ := w_next w hw
  have hl := w_len w hw
  have h102 : f_X12_wordHere_p4_0_b102 c4 13 (fu (sR T 13 μ)) (sR T 13 μ) x1 ((wps w : Nat) : Int) = c4 (sR T 13 μ) (x1 + 1) ((wps (w + 1) : Nat) : Int) := m_b102 c4 hw (wln w) 0 (fu (sR T 13 μ)) (by omega) (by rw [sR_fu]; omega)
  intro d
  induction d with
  | zero =>
    intro j f h hf hje hall
    obtain ⟨f, rfl⟩ := fs_e (show 0 < f by omega)
    have ej : j = wln w := by omega
    subst ej
    have es : ((wps w : Nat) : Int) + ((wln w : Nat) : Int) = ((wps w + wln w : Nat) : Int) := by omega
    have hc : f_J0_charAt_5068e (sR T 13 μ) 42 (((wps w : Nat) : Int) + ((wln w : Nat) : Int)) = some (32, sR T 13 μ) := by
      rw [es, ch_42 (by omega), a2]
    have e0 : f_X12_wordHere_p4_0_b16 c4 13 (f + 1) (sR T 13 μ) x1 ((wps w : Nat) : Int) ((wln w : Nat) : Int) = if ¬ wr (p + ((wln w : Nat) : Int)) = wr e then f_X12_wordHere_p4_0_b102 c4 13 (fu (sR T 13 μ)) (sR T 13 μ) x1 ((wps w : Nat) : Int) else some (x1, sR T 13 μ) := by
      rw [f_X12_wordHere_p4_0_b16, hc, bd2_e, if_pos rfl]
      unfold f_X12_wordHere_p4_0_b73
      rw [hc, bd2_e, if_neg (fun h => h rfl), sR_g, h24, sR_g, h23]
    rw [e0, wr_e (z := p + ((wln w : Nat) : Int)) (by omega), wr_e (z := e) (by omega)]
    by_cases c : p + ((wln w : Nat) : Int) = e
    · left
      exact ⟨⟨by omega, hall⟩, if_neg (fun h => h c)⟩
    · right
      refine ⟨fun h => c (by have := h.1; omega), ?_⟩
      rw [if_pos c, h102]
  | succ d ih =>
    intro j f h hf hje hall
    obtain ⟨f, rfl⟩ := fs_e (show 0 < f by omega)
    have k := w_in w hw j (by omega)
    have es : ((wps w : Nat) : Int) + ((j : Nat) : Int) = ((wps w + j : Nat) : Int) := by omega
    have hc : f_J0_charAt_5068e (sR T 13 μ) 42 (((wps w : Nat) : Int) + ((j : Nat) : Int)) = some (chv 42 (wps w + j), sR T 13 μ) := by
      rw [es, ch_42 (by omega)]
    have h73 : f_X12_wordHere_p4_0_b73 c4 13 (sR T 13 μ) x1 ((wps w : Nat) : Int) ((j : Nat) : Int) = c4 (sR T 13 μ) (x1 + 1) ((wps (w + 1) : Nat) : Int) := by
      unfold f_X12_wordHere_p4_0_b73
      rw [hc, bd2_e, wr_e (z := chv 42 (wps w + j)) (by omega), wr_e (z := 32) (by decide), if_pos (by omega), h102]
    rw [f_X12_wordHere_p4_0_b16, hc, bd2_e, wr_e (z := chv 42 (wps w + j)) (by omega), wr_e (z := 32) (by decide), if_neg (show ¬ chv 42 (wps w + j) = 32 by omega), sR_g, h23, sR_g, h24, wr_e (z := e) (by omega), wr_e (z := p + ((j : Nat) : Int)) (by omega)]
    by_cases c : e ≤ p + ((j : Nat) : Int)
    · right
      refine ⟨fun h => by have := h.1; omega, ?_⟩
      rw [if_pos c, h73]
    · obtain ⟨k1, k2⟩ := hby (p.toNat + j) (by omega)
      have et : (p + ((j : Nat) : Int)).toNat = p.toNat + j := by omega
      rw [if_neg c, ckI_e (by omega), hc, bd2_e, sR_g, et, k1, wr_e (z := b (p.toNat + j)) (by omega), wr_e (z := chv 42 (wps w + j)) (by omega)]
      by_cases c2 : b (p.toNat + j) = chv 42 (wps w + j)
      · rw [if_neg (fun h => h c2)]
        have i := ih (j + 1) f (by omega) (by omega) (by omega) (fun i hi => by
          by_cases e9 : i = j
          · subst e9
            exact c2
          · exact hall i (by omega))
        rw [show ((j + 1 : Nat) : Int) = ((j : Nat) : Int) + 1 by omega] at i
        exact i
      · right
        refine ⟨fun h => c2 (h.2 j (by omega)), ?_⟩
        rw [if_pos c2, h73]
theorem m_word (hby : ∀ k : Nat, (k : Int) < n → μ 13 k = b k ∧ -128 ≤ b k ∧ b k ≤ 127) (hn : n ≤ 600) (hp : 0 ≤ p ∧ p ≤ e ∧ e ≤ n) (h24 : μ 0 24 = p) (h23 : μ 0 23 = e) (hT : 10000000 ≤ fu T) : ∃ v, f_X12_wordHere_p4_0 (sR T 13 μ) 13 = some (v, sR T 13 μ) ∧ WDn b p e v := by
  have key : ∀ (r w : Nat) (f : Nat), w + r = 22 → r < f → (∀ u : Nat, u < w → ¬ MW b p e u) → ∃ v, f_X12_wordHere_p4_0_b4 13 f (sR T 13 μ) ((w : Nat) : Int) ((wps w : Nat) : Int) = some (v, sR T 13 μ) ∧ WDn b p e v := by
    intro r
    induction r with
    | zero =>
      intro w f h hf hall
      obtain ⟨f, rfl⟩ := fs_e (show 0 < f by omega)
      have ew : w = 22 := by omega
      subst ew
      refine ⟨-1, ?_, ⟨by decide, by decide⟩, fun w hw => ⟨fun h => absurd h (by omega), fun h => absurd h (hall w hw)⟩⟩
      rw [f_X12_wordHere_p4_0_b4, j42, bd2_e, if_pos (by decide)]
    | succ r ih =>
      intro w f h hf hall
      obtain ⟨f, rfl⟩ := fs_e (show 0 < f by omega)
      obtain ⟨a1, a2, a3⟩ := w_next w (by omega)
      have hl := w_len w (by omega)
      rw [f_X12_wordHere_p4_0_b4, j42, bd2_e, wr_e (z := 115) (by decide), wr_e (z := ((wps w : Nat) : Int)) (by omega), if_neg (by omega)]
      rcases m_b16 (b := b) (n := n) (T := T) (μ := μ) (x1 := ((w : Nat) : Int)) (f_X12_wordHere_p4_0_b4 13 f) (w := w) (by omega) hby hn hp h24 h23 hT (wln w) 0 (fu (sR T 13 μ)) (by omega) (by rw [sR_fu]; omega) (by omega) (fun i hi => absurd hi (by omega)) with ⟨m1, m2⟩ | ⟨m1, m2⟩
      · refine ⟨((w : Nat) : Int), m2, by omega, fun u hu => ⟨fun h => ?_, fun h => ?_⟩⟩
        · have : w = u := by omega
          subst this
          exact m1
        · rw [mw_one (by omega) hu m1 h]
      · obtain ⟨v, i1, i2⟩ := ih (w + 1) f (by omega) (by omega) (fun u hu => by
          by_cases e9 : u = w
          · subst e9
            exact m1
          · exact hall u (by omega))
        rw [show ((w + 1 : Nat) : Int) = ((w : Nat) : Int) + 1 by omega] at i1
        exact ⟨v, m2.trans i1, i2⟩
  have k := key 22 0 (fu (sR T 13 μ)) (by decide) (by rw [sR_fu]; omega) (fun u hu => absurd hu (by omega))
  exact k
end WD
