/-! mathematics: the law behind the acts -/
section C36
variable {π F G H : xR} {S S' S2 : xSt} {i c : Int} {b : Nat} {B : Int} {n : Nat} {q : Nat → Int}
theorem w_sav (hW : WD π S F i c) (hF : FI π B F) : ∃ S1, f_X11_saveState_p3_0 S 0 = some (F 15 0, S1) ∧ WD π S1 F i c ∧ HD S1 3 F ∧ S1.2.1 0 0 9 = 1 := by
  have hK := wd_fok hW hF
  obtain ⟨w1, w2, w3, w4, w5, w6, w7, w8, w9⟩ := id hW
  obtain ⟨S1, H', e, ⟨c1, c2, c3, c4, c5⟩, h1, h2, h3⟩ := w_save hK w3 (w7 3 (by omega))
  rw [r_1 hW] at e
  refine ⟨_, e, ⟨?_, ?_, ?_, ?_, ?_, ?_, ?_, ?_, ?_⟩, ⟨c4, ?_⟩, ?_⟩
  · show 10000000 ≤ S1.1.1
    rw [c1]
    exact w1
  · show S1.2.2 0 0 4 = _
    rw [c5 0 (by omega)]
    exact w2
  · show S1.1.2 12 = _
    rw [c1]
    exact w3
  · rw [sR_n1 (by decide), c3 12 (by omega)]
    exact w4
  · show S1.2.2 1 0 0 = _
    rw [c5 1 (by omega)]
    exact w5
  · rw [sR_n1 (by decide), c3 1 (by omega)]
    exact w6
  · intro k hk
    rw [sR_n1 (by omega)]
    by_cases e : k = 3
    · rw [e, c2, w6]
      exact hF.2.2.2.2.2.2.2.2.2
    · rw [c3 k e]
      exact w7 k hk
  · rw [sR_g1]
    exact (h1 8 1 (by decide)).trans w8
  · rw [sR_g1]
    exact (h1 8 2 (by decide)).trans w9
  · rw [sR_n1 (by decide), c2, w6]
  · rw [sR_g1]
    exact h2
theorem w_res (hW : WD π S F i c) (hH : HD S 3 G) (h9 : S.2.1 0 0 9 = 1) (hF : FI π B F) (hG : FI π B G) : ∃ S1, f_X11_restoreState_p3_0 S 0 = some (G 15 0, S1) ∧ WD π S1 G i 0 := by
  obtain ⟨w1, w2, w3, w4, w5, w6, w7, w8, w9⟩ := id hW
  obtain ⟨S1, H', e, ⟨c1, c2, c3, c4, c5⟩, h1, h2, h3⟩ := w_rest (S := S) (q := 12) (fok_fi hH.1 hH.2 hG) w3 (by rw [w6]; exact hF.2.2.2.2.2.2.2.2.2) h9
  have e3 : gI S 3 15 0 = G 15 0 := by
    show S.2.1 3 15 0 = _
    rw [hH.2]
  rw [e3] at e
  refine ⟨_, e, ?_, ?_, ?_, ?_, ?_, ?_, ?_, ?_, ?_⟩
  · show 10000000 ≤ S1.1.1
    rw [c1]
    exact w1
  · show S1.2.2 0 0 4 = _
    rw [c5 0 (by omega)]
    exact w2
  · show S1.1.2 12 = _
    rw [c1]
    exact w3
  · rw [sR_n1 (by decide), c3 12 (by omega)]
    exact w4
  · exact c4
  · rw [sR_n1 (by decide), c2, hH.2]
  · intro k hk
    rw [sR_n1 (by omega), c3 k (by omega)]
    exact w7 k hk
  · rw [sR_g1]
    exact h2.trans w8
  · rw [sR_g1]
    exact h3
theorem w_un (hW : WD π S F i c) (hi : 0 ≤ i ∧ i ≤ 5) (hc : 1 ≤ c ∧ c ≤ 6) (hH : HD S b G) (hb : 4 ≤ b ∧ b ≤ 9) (eb : (b : Int) = 4 + (i + c - 1) % 6) (hF : FI π B F) {B' : Int} (hG : FI π B' G) : ∃ S1, f_X11_undo_p3_0 S 0 = some (c - 1, S1) ∧ WD π S1 G i (c - 1) := by
  obtain ⟨w1, w2, w3, w4, w5, w6, w7, w8, w9⟩ := id hW
  have e8 : gI S 0 8 1 = i := w8
  have e9 : gI S 0 8 2 = c := w9
  obtain ⟨S1, H', e, ⟨c1, c2, c3, c4, c5⟩, h1, h2, h3⟩ := w_und (S := S) (q := 12) (b := b) (by omega) (by omega) (by rw [e8, e9]; exact eb) (fok_fi hH.1 hH.2 hG) w3 (by rw [w6]; exact hF.2.2.2.2.2.2.2.2.2)
  rw [e9] at e h3
  refine ⟨_, e, ?_, ?_, ?_, ?_, ?_, ?_, ?_, ?_, ?_⟩
  · show 10000000 ≤ S1.1.1
    rw [c1]
    exact w1
  · show S1.2.2 0 0 4 = _
    rw [c5 0 (by omega)]
    exact w2
  · show S1.1.2 12 = _
    rw [c1]
    exact w3
  · rw [sR_n1 (by decide), c3 12 (by omega)]
    exact w4
  · exact c4
  · rw [sR_n1 (by decide), c2, hH.2]
  · intro k hk
    rw [sR_n1 (by omega), c3 k (by omega)]
    exact w7 k hk
  · rw [sR_g1]
    exact h2.trans w8
  · rw [sR_g1]
    exact h3
/-- from saveState on -/
theorem l_345 (hR : PR π) (hW : WD π S F i c) (hi : 0 ≤ i ∧ i ≤ 5) (hc : 0 ≤ c ∧ c ≤ 6) (hF : FI π B F) (hB : B ≤ 20000000) (hD : F 15 1 ≤ 9999) : ∃ S', f_law_b345 n q 0 S = some (1, S') := by
  have n0 := hF.2.2.2.2.2.2.2.2.1.1 0
  have n1 := hF.2.2.2.2.2.2.2.2.1.1 1
  obtain ⟨S1, e1, hW1, hH1, h9⟩ := w_sav hW hF
  obtain ⟨F', ef, f1, -, -, -, k4, k5⟩ := p_for hR hF (n := 3) (by decide) (by omega)
  obtain ⟨S2, i', c', b, e2, hW2, hi2, hc2, -, hb, -, -, h3, h92⟩ := w_run hW1 hi hc hF (n := 3) (by decide) ef
  have hH2 : HD S2 3 F := ⟨by rw [h3.2]; exact hH1.1, h3.1.trans hH1.2⟩
  obtain ⟨S3, e3, hW3⟩ := w_res hW2 hH2 (h92.trans h9) f1 (fi_mono hF (by omega))
  obtain ⟨S4, e4, -⟩ := r_snd hR hW3 hF (by omega) hD
  refine ⟨S4, ?_⟩
  unfold f_law_b345
  rw [r_c9 hW, bd2_e, e1, bd2_e, if_neg (fun z => z rfl), e2, bd2_e, wr_e (z := F' 15 1 - F 15 1) (by omega), if_neg (by omega), e3, bd2_e, if_neg (fun z => z rfl), r_c24 hW3, bd2_e, if_neg (fun z => z (by decide)), e4, bd2_e, if_neg (by decide)]
/-- from the second run on -/
theorem l_281 (hR : PR π) (hW : WD π S F i c) (hi : 0 ≤ i ∧ i ≤ 5) (hc : 0 ≤ c ∧ c ≤ 6) (hF : FI π B F) {m v t : Int} (hm : 1 ≤ m ∧ m ≤ 500) {F' F2 : xR} {B' : Int} (hF' : FI π B' F') (hB' : B' ≤ 20000000) (hF2 : FI π B' F2) (he : ∀ S r q, CC S r q π → f_X0_decodeFor_p1_0 (sR S r F) r m = some (F' 15 1 - F 15 1, sR S r F')) (ht : ∀ S q f, CC S 1 q π → 501 < f → f_X11_runTo_p3_0_b35 0 f (sR S 1 F') (F' 15 1 + 5) 0 = some (t, sR S 1 F2)) (hv : ∀ S q f, CC S 2 q π → 501 < f → f_X11_cyclesTo_p3_0_b51 0 f (sR S 2 F') (F' 15 1 + 5) 1 = some (v, sR S 2 F2)) (ho : v = -1 ∨ (v = t ∧ F' 15 1 + 5 ≤ F2 15 1 ∧ 1 ≤ v ∧ v ≤ 500)) (hD : F' 15 1 ≤ 9900) (hD2 : F2 15 1 < F' 15 1 + 5 + 12) : ∃ S', f_law_b281 n q 0 S (F 15 1) m (F' 15 1 - F 15 1) v = some (1, S') := by
  have n1 := hF'.2.2.2.2.2.2.2.2.1.1 1
  obtain ⟨S1, i1, c1, b1, e1, hm1⟩ := w_run hW hi hc hF hm he
  obtain ⟨S2, e2, h2⟩ := w_cyTo hm1.1 hF' hF2.2.2.2.2.2.2.2.2.2 hv
  have hW2 := sm_wd h2 hm1.1
  have hi1 := hm1.2.1
  have hc1 := hm1.2.2.1
  unfold f_law_b281
  rw [e1, bd2_e, if_neg (fun z => z rfl), e2, bd2_e, if_neg (fun z => z rfl)]
  have eg : F 15 1 + (F' 15 1 - F 15 1) + 5 = F' 15 1 + 5 := by omega
  rcases ho with hv1 | ⟨hv1, hv2, hv3⟩
  · rw [if_pos (by rw [wr_e (by omega)]; omega)]
    exact l_345 hR hW2 hi1 (by omega) hF' hB' (by omega)
  · obtain ⟨S3, i3, c3, b3, e3, hm3⟩ := w_runTo hW2 hi1 (by omega) hF' (g := F' 15 1 + 5) (by omega) ht
    have hc3 := hm3.2.2.1
    rw [if_neg (by rw [wr_e (by omega)]; omega), eg, e3, bd2_e, if_neg (fun z => z (by rw [hv1])), r_c10 hm3.1, bd2_e, wr_e (z := F' 15 1 + 5) (by omega), wr_e (z := F2 15 1) (by omega), if_pos (by omega)]
    exact l_345 hR hm3.1 hm3.2.1 (by omega) hF2 hB' (by omega)
/-- behind the acts -/
theorem l_fin (hR : PR π) (hn : n ≤ 1000000) (hW : WD π S F i c) (hi : 0 ≤ i ∧ i ≤ 5) (hc : 0 ≤ c ∧ c ≤ 6) (hF : FI π B F) (hB : B ≤ 10000000) (hD : F 15 1 ≤ 9000) {x2 x3 : Int} (hx : wr x2 ≤ wr x3) (f : Nat) : ∃ S', f_law_b42 n q 0 (f + 1) S x2 x3 = some (1, S') := by
  obtain ⟨m, em, hm⟩ := dr_i (q := q) hn (i := 41) (lo := 1) (hi := 20) (by decide) (by decide)
  obtain ⟨F', ef, f1, kac, k1, k2, k4, k5⟩ := p_for hR hF (n := m) (by omega) (by omega)
  have z1 := f1.2.2.2.2.2.2.2.2.2
  have n1 := hF.2.2.2.2.2.2.2.2.1.1 1
  obtain ⟨F2, t, v, et, ev, f2, ho, hD2⟩ := w_both hR 500 F' (B + 300 * m) 0 (F' 15 1 + 5) f1 (by omega) (by decide) (by decide) (by omega) (by omega)
  have p4 := hR.2.2.2.2.1
  have r0 := hF.1.1
  have r14 := f1.1.2.2.2.2.2.2.2.2.2.1
  have r13 := f1.1.2.2.2.2.2.1
  obtain ⟨S1, e1, h1⟩ := w_bub hW hF (n := m) (by omega) z1 ef
  have hW1 := sm_wd h1 hW
  obtain ⟨S2, rm, e2, h2, hrm, hrm2⟩ := w_room hR hW1 hF (by omega) (n := m) (by omega) z1 ef
  have hW2 := sm_wd h2 hW1
  obtain ⟨S3, i3, c3, b3, e3, hW3, hi3, hc3, hcc, hb3, eb3, hH3, -, -⟩ := w_run hW2 hi hc hF (n := m) (by omega) ef
  obtain ⟨S4, e4, h4⟩ := w_cyTo (v := v) hW3 f1 f2.2.2.2.2.2.2.2.2.2 (fun S q f hC hf => ev S q f hC hf)
  have hW4 := sm_wd h4 hW3
  have hH4 := sm_hd h4 (by omega) hH3
  obtain ⟨S5, e5, hW5⟩ := w_un hW4 hi3 hc3 hH4 hb3 eb3 f1 hF
  obtain ⟨S', e6⟩ := l_281 (n := n) (q := q) (S := S5) hR hW5 hi3 (by omega) hF (m := m) (v := v) (t := t) (by omega) (B' := B + 300 * m + 300 * 500) (fi_mono f1 (by omega)) (by omega) f2 ef (fun S q f hC hf => et S q f hC hf) (fun S q f hC hf => ev S q f hC hf) ho (by omega) hD2
  refine ⟨S', ?_⟩
  have hac : (sm (F' 16) 9 - F' 16 0) - (sm (F 16) 9 - F 16 0) + (F' 15 1 - F 15 1) - (F' 15 3 - F 15 3) = F 1 0 * m := by
    unfold ac at kac
    simp only [sm]
    omega
  rw [f_law_b42, if_pos hx, r_c2 hW, bd2_e, r_ab hW, bd2_e, r_c10 hW, bd2_e, r_c12 hW, bd2_e, r_c24 hW, bd2_e, em, bd2_e, e1, bd2_e, e2, bd2_e, r_bb hW2 (by decide), bd2_e, e3, bd2_e, r_ab hW3, bd2_e, r_c12 hW3, bd2_e, hac, if_neg (fun z => z rfl), r_bb hW3 (by decide), bd2_e, if_neg (fun z => z rfl), r_c18 hW3, bd2_e, wr_e (z := rm) (by omega), wr_e (z := F' 0 14) (by omega), if_neg (by omega), r_c10 hW3, bd2_e, if_pos (by rw [show F 15 1 + (F' 15 1 - F 15 1) = F' 15 1 by omega]), e4, bd2_e, e5, bd2_e, r_c10 hW5, bd2_e, if_neg (fun z => z rfl), r_ab hW5, bd2_e, if_neg (fun z => z rfl)]
  by_cases c6 : 6 ≤ c
  · rw [if_pos (by rw [wr_e (by omega), wr_e (by omega)]; exact c6), e6]
  · have := hcc (by omega)
    rw [if_neg (by rw [wr_e (by omega), wr_e (by omega)]; exact c6), if_pos (by rw [show c3 - 1 = c by omega]), e6]
/-- the acts -/
theorem l_42 (hR : PR π) (hn : n ≤ 1000000) {x2 : Int} (h2 : 0 ≤ x2 ∧ x2 ≤ 12) : ∀ (d : Nat) (x3 : Int) (S : xSt) (F : xR) (i c B M : Int) (f : Nat), 0 ≤ x3 → x3 + d = x2 → d < f → WD π S F i c → (0 ≤ i ∧ i ≤ 5) → (0 ≤ c ∧ c ≤ 6) → FI π B F → B + 150000 * d ≤ 10000000 → 80 ≤ M → F 15 1 ≤ M → M + 180 * d ≤ 9000 → ∃ S', f_law_b42 n q 0 f S x2 x3 = some (1, S') := by
  intro d
  induction d with
  | zero =>
    intro x3 S F i c B M f hx hd hf hW hi hc hF hB hM hD hMd
    obtain ⟨f, rfl⟩ := fs_e (show 0 < f by omega)
    have e : x3 = x2 := by omega
    rw [e]
    exact l_fin hR hn hW hi hc hF (by omega) (by omega) (Int.le_refl _) f
  | succ d ih =>
    intro x3 S F i c B M f hx hd hf hW hi hc hF hB hM hD hMd
    obtain ⟨f, rfl⟩ := fs_e (show 0 < f by omega)
    obtain ⟨S1, F', i', c', e1, hW1, hi1, hc1, f1, hD1⟩ := w_act (q := q) hR hn hW hi hc hF (by omega) hM hD (k := x3 + 14) (by omega)
    have n1 := f1.2.2.2.2.2.2.2.2.1.1 1
    obtain ⟨S2, e2, h2⟩ := r_snd hR hW1 f1 (by omega) (by omega)
    obtain ⟨S', e3⟩ := ih (x3 + 1) S2 F' i' c' (B + 150000) (M + 180) f (by omega) (by omega) (by omega) (sm_wd h2 hW1) hi1 hc1 f1 (by omega) (by omega) hD1 (by omega)
    refine ⟨S', ?_⟩
    rw [f_law_b42, if_neg (by rw [wr_e (by omega), wr_e (by omega)]; omega), e1, bd_e, r_c10 hW1, bd2_e, wr_e (z := F' 15 1) (by omega), wr_e (z := 9999) (by omega), if_neg (by omega), e2, bd2_e, if_pos (by decide)]
    exact e3
/-- the law behind parse -/
theorem l_law (hR : PR π) (hn : n ≤ 1000000) (hW : WD π S F i c) (hi : 0 ≤ i ∧ i ≤ 5) (hc : 0 ≤ c ∧ c ≤ 6) (hF : FI π B F) (hB : B ≤ 1000000) (hD : F 15 1 ≤ 80) : ∃ S', f_law S n q 0 ((drN n q 8 1 12 : Nat) : Int) = some (1, S') := by
  obtain ⟨v, ev, hv⟩ := dr_i (q := q) hn (i := 40) (lo := 2) (hi := 12) (by decide) (by decide)
  have e8 := dr_e (S := S) (n := n) (q := q) (i := 8) (lo := 1) (hi := 12) hn (by decide) (by decide) (by decide)
  replace e8 : f_L_draw S n q 8 1 12 = some (((drN n q 8 1 12 : Nat) : Int), S) := e8
  have hf := hW.1
  obtain ⟨S', e⟩ := l_42 (q := q) hR hn (x2 := v) (by omega) v.toNat 0 S F i c B 80 (fu S) (by decide) (by omega) (by show _ < S.1.1; omega) hW hi hc hF (by omega) (by decide) hD (by omega)
  refine ⟨S', ?_⟩
  unfold f_law
  rw [e8, bd2_e, if_pos rfl, ev, bd2_e, e]
end C36
