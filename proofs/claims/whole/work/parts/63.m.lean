/-! mathematics: cycles that pass: run, runTo -/
theorem c_dfor {S : xSt} {r : Nat} {Fs : Nat → xR} {n : Nat} (hp : ∀ i, i < n → f_X0_passCycle_p1_0 (sR S r (Fs i)) r = some (sR S r (Fs (i + 1)))) (hn : n ≤ 500) (x2 : Int) : ∀ (d j f : Nat), j + d = n → d < f → f_X0_decodeFor_p1_0_b12 r f (sR S r (Fs j)) (n : Int) x2 (j : Int) = some (Fs n 15 1 - x2, sR S r (Fs n)) := by
  intro d
  induction d with
  | zero =>
    intro j f hd hf
    obtain ⟨f, rfl⟩ := fs_e (show 0 < f by omega)
    have ej : j = n := by omega
    subst ej
    rw [f_X0_decodeFor_p1_0_b12, wr_e (by omega), if_pos (Int.le_refl _), sR_g]
  | succ d ih =>
    intro j f hd hf
    obtain ⟨f, rfl⟩ := fs_e (show 0 < f by omega)
    rw [f_X0_decodeFor_p1_0_b12, wr_e (z := (n : Int)) (by omega), wr_e (z := (j : Int)) (by omega), if_neg (by omega), hp j (by omega)]
    simp only [bd_e]
    have k := ih (j + 1) f (by omega) (by omega)
    rw [show ((j + 1 : Nat) : Int) = (j : Int) + 1 by omega] at k
    exact k
theorem c_dfor0 {S : xSt} {r : Nat} {Fs : Nat → xR} {n : Nat} (hp : ∀ i, i < n → f_X0_passCycle_p1_0 (sR S r (Fs i)) r = some (sR S r (Fs (i + 1)))) (hn : n ≤ 500) (hfu : 10000000 ≤ fu S) {x : Int} (hx : x = (n : Int)) : f_X0_decodeFor_p1_0 (sR S r (Fs 0)) r x = some (Fs n 15 1 - Fs 0 15 1, sR S r (Fs n)) := by
  subst hx
  unfold f_X0_decodeFor_p1_0
  rw [sR_g, sR_fu]
  exact c_dfor hp hn _ n 0 (fu S) (by omega) (by omega)
theorem m_run {T : xSt} {Ns : Nat → Nat → Int} {n : Nat} {x2 : Int} (hp : ∀ i, i < n → f_X12_cycles_p4_0 (wA T 13 6 (Ns i)) 13 = some (wA T 13 6 (Ns (i + 1)))) (hn : n ≤ 500) : ∀ (d j f : Nat), j + d = n → d < f → f_X12_run_p4_0_b27 13 f (wA T 13 6 (Ns j)) (n : Int) x2 (j : Int) = (bd2 (f_X12_done_p4_0 (wA T 13 6 (Ns n)) 13 (Ns n 17 - x2)) fun a b => some (a, b)) := by
  intro d
  induction d with
  | zero =>
    intro j f hd hf
    obtain ⟨f, rfl⟩ := fs_e (show 0 < f by omega)
    have ej : j = n := by omega
    subst ej
    rw [f_X12_run_p4_0_b27, wr_e (z := (j : Int)) (by omega), if_pos (Int.le_refl _)]
    all_goals simp only [wN_g]
  | succ d ih =>
    intro j f hd hf
    obtain ⟨f, rfl⟩ := fs_e (show 0 < f by omega)
    rw [f_X12_run_p4_0_b27, wr_e (z := (n : Int)) (by omega), wr_e (z := (j : Int)) (by omega), if_neg (by omega), hp j (by omega)]
    simp only [bd_e]
    have k := ih (j + 1) f (by omega) (by omega)
    rw [show ((j + 1 : Nat) : Int) = (j : Int) + 1 by omega] at k
    exact k
theorem m_bub {T : xSt} {Ns : Nat → Nat → Int} {n : Nat} {x2 x3 : Int} (hp : ∀ i, i < n → f_X12_cycles_p4_0 (wA T 13 6 (Ns i)) 13 = some (wA T 13 6 (Ns (i + 1)))) (hn : n ≤ 500) : ∀ (d j f : Nat), j + d = n → d < f → f_X12_bubblesWithin_p4_0_b17 13 f (wA T 13 6 (Ns j)) (n : Int) x2 x3 (j : Int) = (ckI (25 + x2) 363 <| bd2 (f_X12_laysBack_p4_0 (wA T 13 6 (Ns n)) 13 (Ns n (wr (25 + x2)).toNat - x3)) fun a b => some (a, b)) := by
  intro d
  induction d with
  | zero =>
    intro j f hd hf
    obtain ⟨f, rfl⟩ := fs_e (show 0 < f by omega)
    have ej : j = n := by omega
    subst ej
    rw [f_X12_bubblesWithin_p4_0_b17, wr_e (z := (j : Int)) (by omega), if_pos (Int.le_refl _)]
    all_goals simp only [wN_g]
  | succ d ih =>
    intro j f hd hf
    obtain ⟨f, rfl⟩ := fs_e (show 0 < f by omega)
    rw [f_X12_bubblesWithin_p4_0_b17, wr_e (z := (n : Int)) (by omega), wr_e (z := (j : Int)) (by omega), if_neg (by omega), hp j (by omega)]
    simp only [bd_e]
    have k := ih (j + 1) f (by omega) (by omega)
    rw [show ((j + 1 : Nat) : Int) = (j : Int) + 1 by omega] at k
    exact k
theorem m_din {T : xSt} {Ns : Nat → Nat → Int} {n : Nat} {x2 : Int} (hp : ∀ i, i < n → f_X12_cycles_p4_0 (wA T 13 6 (Ns i)) 13 = some (wA T 13 6 (Ns (i + 1)))) (hn : n ≤ 500) : ∀ (d j f : Nat), j + d = n → d < f → f_X12_decodedIn_p4_0_b10 13 f (wA T 13 6 (Ns j)) (n : Int) x2 (j : Int) = (bd2 (f_X12_laysBack_p4_0 (wA T 13 6 (Ns n)) 13 (Ns n 17 - x2)) fun a b => some (a, b)) := by
  intro d
  induction d with
  | zero =>
    intro j f hd hf
    obtain ⟨f, rfl⟩ := fs_e (show 0 < f by omega)
    have ej : j = n := by omega
    subst ej
    rw [f_X12_decodedIn_p4_0_b10, wr_e (z := (j : Int)) (by omega), if_pos (Int.le_refl _)]
    all_goals simp only [wN_g]
  | succ d ih =>
    intro j f hd hf
    obtain ⟨f, rfl⟩ := fs_e (show 0 < f by omega)
    rw [f_X12_decodedIn_p4_0_b10, wr_e (z := (n : Int)) (by omega), wr_e (z := (j : Int)) (by omega), if_neg (by omega), hp j (by omega)]
    simp only [bd_e]
    have k := ih (j + 1) f (by omega) (by omega)
    rw [show ((j + 1 : Nat) : Int) = (j : Int) + 1 by omega] at k
    exact k
theorem m_mci {T : xSt} {Ns : Nat → Nat → Int} {n : Nat} (hp : ∀ i, i < n → f_X12_cycles_p4_0 (wA T 13 6 (Ns i)) 13 = some (wA T 13 6 (Ns (i + 1)))) (hn : n ≤ 500) : ∀ (d j f : Nat), j + d = n → d < f → f_X12_mainCauseIn_p4_0_b19 13 f (wA T 13 6 (Ns j)) (n : Int) (j : Int) = (f_X12_mainCauseIn_p4_0_b41 13 (fu (wA T 13 6 (Ns n))) (wA T 13 6 (Ns n)) (-1) 0 1) := by
  intro d
  induction d with
  | zero =>
    intro j f hd hf
    obtain ⟨f, rfl⟩ := fs_e (show 0 < f by omega)
    have ej : j = n := by omega
    subst ej
    rw [f_X12_mainCauseIn_p4_0_b19, wr_e (z := (j : Int)) (by omega), if_pos (Int.le_refl _)]
    all_goals simp only [wN_g]
  | succ d ih =>
    intro j f hd hf
    obtain ⟨f, rfl⟩ := fs_e (show 0 < f by omega)
    rw [f_X12_mainCauseIn_p4_0_b19, wr_e (z := (n : Int)) (by omega), wr_e (z := (j : Int)) (by omega), if_neg (by omega), hp j (by omega)]
    simp only [bd_e]
    have k := ih (j + 1) f (by omega) (by omega)
    rw [show ((j + 1 : Nat) : Int) = (j : Int) + 1 by omega] at k
    exact k
section E9
variable {m : Nat} {S : xSt} {i j : Int}
theorem p_isCyc {T : xSt} (hi : wr i = i) : f_X12_isCycles T i = some (if 1 ≤ i ∧ i ≤ 500 then 1 else 0, T) := by
  unfold f_X12_isCycles
  rw [hi, p_isIn (wr_r hi) (by decide) (by decide)]
  rfl
theorem gf_17 {π F : xR} {N : Nat → Int} {B : Int} (h : GF π B F N) : N 17 = F 15 1 := h.1.1.2.2.2.2.2.2.2.2.2.2.2.2.2.2.1
theorem gf_d {π F : xR} {N : Nat → Int} {B : Int} (h : GF π B F N) : 0 ≤ F 15 1 ∧ F 15 1 ≤ B := h.1.2.1.2.2.2.2.2.2.2.2.2.2.2.2.1
theorem k_run (hI : INV m S) (hm5 : m < 512) (hi : wr i = i) : CALL m S (f_X11_run_p3_0 S 0 i) (fun T => f_X12_run_p4_0 T 13 i) (XR (KE 2)) := by
  have hi2 := wr_r hi
  obtain ⟨S1, q, q2, r1, r2, r3, r4, r5, r6, r7, hq, hk, hS, hdone⟩ := t_rem hI
  have hGF := hS.2.2.2.2.2.2.1
  have hR := hS.2.2.2.2.1
  have hR0 : PR (uG (S.2.1 q) 77 (fun _ => 0)) := PR_pe pe_lo hR
  have hM := hS.2.2.2.2.2.1
  have hF := hGF.1
  have hbb : BB m ≤ BB (m + 1) := by unfold BB; omega
  have hfu := hI.1
  have e1 := sR_i r3
  have hBm : BB m ≤ 10000000 := by unfold BB; omega
  by_cases c : 1 ≤ i ∧ i ≤ 500
  · obtain ⟨n, hn⟩ : ∃ n : Nat, n = i.toNat := ⟨_, rfl⟩
    have hin : i = (n : Int) := by omega
    have efu : fu S1 = fu S := by
      show S1.1.1 = S.1.1
      rw [r2]
    have ek : gk S1 q = 2 := by
      show S1.1.2 q = 2
      rw [r2]
      exact hk
    obtain ⟨Fs, f0, f1, f2⟩ := t_runU (S := S1) (T0 := S) (r := 1) (q := q) (π := S.2.1 q) ⟨r6, ek, by omega, r5, rfl, by omega, hfu, hR, hM⟩ hGF (by omega) (n := n) (by omega)
    refine ⟨.inl (Fs n 15 1 - S.2.1 1 15 1), sR S1 1 (Fs n), ?_, r2, by rw [sR_n1 (by decide)]; exact r4, fun T hT hμ => ?_⟩
    · unfold f_X11_run_p3_0
      rw [hi, wr_e (z := 1) (by decide), wr_e (z := 500) (by decide), if_neg (show ¬ i < 1 by omega), if_pos c.2, Nat.zero_add, r1]
      simp only [bd_e]
      have k := c_dfor0 (S := S1) (r := 1) (fun j hj => (f1 j hj).1) (by omega) (by omega) hin
      rw [f0, ← e1] at k
      rw [k]
      rfl
    have hT13 := sR_i hμ
    obtain ⟨g8, k1, k2⟩ := p_cop6_8 (T := T) (μ := uF (S.2.1 13) 0 0 (1 - 1)) hT
    rw [uF_6] at k2
    obtain ⟨Ns, n0, n1, n2⟩ := f2 (sR T 13 (uG (uF (S.2.1 13) 0 0 (1 - 1)) 8 g8)) (uG (uF (S.2.1 13) 0 0 (1 - 1)) 8 g8) (S.2.1 13 6) ⟨r6, ek, by omega, r5, sR_g1, by omega, hT, hR, (by have := pm_told (z := 1 - 1) hM; unfold PM at this ⊢; simp (disch := omega) only [uF_e, uF_o, uF_k, uG_e, uG_o, uN_e, uN_k, true_or, or_true]; exact (by unfold PM at hM; exact hM))⟩ hGF
    have hG := n2 n (Nat.le_refl n)
    have e17 := gf_17 hG
    have e17' := gf_17 hGF
    obtain ⟨μ', d1, d2, d3⟩ := hdone T (Fs n) (Ns n) g8 (Fs n 15 1 - S.2.1 1 15 1) (1 - 1) hT (gf_mono hG (by unfold BB; omega)) k2
    refine ⟨_, μ', q, q2, ?_, ⟨rfl, d2⟩, d3⟩
    show f_X12_run_p4_0 T 13 i = _
    rw [hT13]
    unfold f_X12_run_p4_0 f_X12_starts_p4_0
    rw [p_isCyc hi, if_pos c]
    simp only [bd2_e]
    rw [p_is (Or.inr rfl)]
    simp only [bd2_e]
    rw [if_pos (by decide), k1]
    simp only [bd_e]
    have k := m_run (x2 := S.2.1 1 15 1) n1 (by omega) n 0 (fu T) (by omega) (by omega)
    rw [n0, wN_j, wN_j, ← hin] at k
    have eN : uG (uG (uF (S.2.1 13) 0 0 (1 - 1)) 8 g8) 6 (S.2.1 13 6) = uG (uF (S.2.1 13) 0 0 (1 - 1)) 8 g8 := by
      have k := uG_i (F := uG (uF (S.2.1 13) 0 0 (1 - 1)) 8 g8) (o := 6)
      rw [uG_h (by decide), uF_6] at k
      exact k
    rw [eN] at k
    rw [sR_g, uG_o (by decide), uF_o (by decide), e17', sR_fu]
    refine k.trans ?_
    rw [e17, d1]
    simp only [bd2_e]
    rw [sR_s]
  · refine callR hI (v := .inr 2) (v' := 0) (z := 1 - 0) ?_ (fun T hT => ?_) ⟨uF_e.symm, Or.inl rfl⟩
    · unfold f_X11_run_p3_0
      rw [hi, wr_e (z := 1) (by decide), wr_e (z := 500) (by decide)]
      by_cases c2 : i < 1
      · rw [if_pos c2]
      · rw [if_neg c2, if_neg (by omega)]
    · unfold f_X12_run_p4_0
      rw [p_isCyc hi, if_neg c]
      simp only [bd2_e]
      rw [p_is (Or.inl rfl)]
      simp only [bd2_e]
      rw [if_neg (by decide)]
/-- both sides run until so many are decoded, at most 500 cycles -/
theorem t_to {S : xSt} {r : Nat} {Fs : Nat → xR} {B x1 : Int} (hp : ∀ i, i < 500 → f_X0_passCycle_p1_0 (sR S r (Fs i)) r = some (sR S r (Fs (i + 1)))) (hx : wr x1 = x1) (hd : ∀ i, i ≤ 500 → 0 ≤ Fs i 15 1 ∧ Fs i 15 1 ≤ 1000000000) : ∀ (d j : Nat), j + d = 500 → ∃ n, n ≤ 500 ∧ j ≤ n ∧ (∀ i, j ≤ i → i < n → Fs i 15 1 < x1) ∧ (n = 500 ∨ x1 ≤ Fs n 15 1) ∧ ∀ (T : xSt) (Ns : Nat → Nat → Int) (f : Nat), d < f → (∀ i, i < 500 → f_X12_cycles_p4_0 (wA T 13 6 (Ns i)) 13 = some (wA T 13 6 (Ns (i + 1)))) → (∀ i, i ≤ 500 → Ns i 17 = Fs i 15 1) → f_X12_runsTo_p4_0_b2 13 f (wA T 13 6 (Ns j)) x1 (j : Int) = some ((n : Int), wA T 13 6 (Ns n)) := by
  intro d
  induction d with
  | zero =>
    intro j hj
    refine ⟨500, Nat.le_refl _, by omega, fun i h1 h2 => absurd h2 (by omega), Or.inl rfl, fun T Ns f hf hN h17 => ?_⟩
    obtain ⟨f, rfl⟩ := fs_e (show 0 < f by omega)
    have ej : j = 500 := by omega
    subst ej
    rw [f_X12_runsTo_p4_0_b2, if_pos (by decide)]
  | succ d ih =>
    intro j hj
    have h9 := hd j (by omega)
    by_cases c : x1 ≤ Fs j 15 1
    · refine ⟨j, by omega, Nat.le_refl _, fun i h1 h2 => absurd h2 (by omega), Or.inr c, fun T Ns f hf hN h17 => ?_⟩
      obtain ⟨f, rfl⟩ := fs_e (show 0 < f by omega)
      rw [f_X12_runsTo_p4_0_b2, wr_e (z := 500) (by decide), wr_e (z := (j : Int)) (by omega), if_neg (by omega), hx, wN_g, h17 j (by omega), wr_e (z := Fs j 15 1) (by omega), if_pos c]
    · obtain ⟨n, i1, i2, i3, i4, i5⟩ := ih (j + 1) (by omega)
      refine ⟨n, i1, by omega, fun i h1 h2 => ?_, i4, fun T Ns f hf hN h17 => ?_⟩
      · by_cases e : i = j
        · subst e
          omega
        · exact i3 i (by omega) h2
      · obtain ⟨f, rfl⟩ := fs_e (show 0 < f by omega)
        rw [f_X12_runsTo_p4_0_b2, wr_e (z := 500) (by decide), wr_e (z := (j : Int)) (by omega), if_neg (by omega), hx, wN_g, h17 j (by omega), wr_e (z := Fs j 15 1) (by omega), if_neg c, hN j (by omega)]
        simp only [bd_e]
        have k := i5 T Ns f (by omega) hN h17
        rw [show ((j + 1 : Nat) : Int) = (j : Int) + 1 by omega] at k
        exact k
theorem c_runTo {S : xSt} {Fs : Nat → xR} {x1 : Int} {n : Nat} (hp : ∀ i, i < 500 → f_X0_passCycle_p1_0 (sR S 1 (Fs i)) 1 = some (sR S 1 (Fs (i + 1)))) (hx : wr x1 = x1) (hd : ∀ i, i ≤ 500 → 0 ≤ Fs i 15 1 ∧ Fs i 15 1 ≤ 1000000000) (hn : n ≤ 500) (h1 : ∀ i, i < n → Fs i 15 1 < x1) (h2 : n = 500 ∨ x1 ≤ Fs n 15 1) : ∀ (d j f : Nat), j + d = n → d < f → f_X11_runTo_p3_0_b35 0 f (sR S 1 (Fs j)) x1 (j : Int) = some (.inl (n : Int), sR S 1 (Fs n)) := by
  intro d
  induction d with
  | zero =>
    intro j f hj hf
    obtain ⟨f, rfl⟩ := fs_e (show 0 < f by omega)
    have ej : j = n := by omega
    subst ej
    have h9 := hd j hn
    rw [f_X11_runTo_p3_0_b35, wr_e (z := 500) (by decide), wr_e (z := (j : Int)) (by omega), hx, Nat.zero_add, sR_g, wr_e (z := Fs j 15 1) (by omega)]
    by_cases c : (500 : Int) ≤ (j : Int)
    · rw [if_pos c]
    · rw [if_neg c, if_pos (by omega)]
  | succ d ih =>
    intro j f hj hf
    obtain ⟨f, rfl⟩ := fs_e (show 0 < f by omega)
    have h9 := hd j (by omega)
    have h8 := h1 j (by omega)
    rw [f_X11_runTo_p3_0_b35, wr_e (z := 500) (by decide), wr_e (z := (j : Int)) (by omega), hx, Nat.zero_add, sR_g, wr_e (z := Fs j 15 1) (by omega), if_neg (by omega), if_neg (by omega), hp j (by omega)]
    simp only [bd_e]
    have k := ih (j + 1) f (by omega) (by omega)
    rw [show ((j + 1 : Nat) : Int) = (j : Int) + 1 by omega] at k
    exact k
theorem k_runTo (hI : INV m S) (hm5 : m < 512) (hi : wr i = i) : CALL m S (f_X11_runTo_p3_0 S 0 i) (fun T => f_X12_runTo_p4_0 T 13 i) (XR (KE 2)) := by
  have hi2 := wr_r hi
  obtain ⟨S1, q, q2, r1, r2, r3, r4, r5, r6, r7, hq, hk, hS, hdone⟩ := t_rem hI
  have hGF := hS.2.2.2.2.2.2.1
  have hR := hS.2.2.2.2.1
  have hR0 : PR (uG (S.2.1 q) 77 (fun _ => 0)) := PR_pe pe_lo hR
  have hM := hS.2.2.2.2.2.1
  have hF := hGF.1
  have hbb : BB m ≤ BB (m + 1) := by unfold BB; omega
  have hfu := hI.1
  have e1 := sR_i r3
  have hBm : BB m ≤ 10000000 := by unfold BB; omega
  by_cases c : 0 ≤ i ∧ i ≤ 9999
  · have efu : fu S1 = fu S := by
      show S1.1.1 = S.1.1
      rw [r2]
    have ek : gk S1 q = 2 := by
      show S1.1.2 q = 2
      rw [r2]
      exact hk
    obtain ⟨Fs, f0, f1, f2⟩ := t_runU (S := S1) (T0 := S) (r := 1) (q := q) (π := S.2.1 q) ⟨r6, ek, by omega, r5, rfl, by omega, hfu, hR, hM⟩ hGF (by omega) (n := 500) (by omega)
    obtain ⟨Ns0, -, -, n20⟩ := f2 S (S.2.1 13) (S.2.1 13 6) ⟨r6, ek, by omega, r5, rfl, by omega, hfu, hR, hM⟩ hGF
    have hd : ∀ i, i ≤ 500 → 0 ≤ Fs i 15 1 ∧ Fs i 15 1 ≤ 1000000000 := fun i hi => by
      have := gf_d (n20 i hi)
      omega
    obtain ⟨n, g1, -, g2, g3, g4⟩ := t_to (S := S1) (r := 1) (B := 0) (x1 := i) (fun j hj => (f1 j hj).1) hi hd 500 0 (by omega)
    refine ⟨.inl (n : Int), sR S1 1 (Fs n), ?_, r2, by rw [sR_n1 (by decide)]; exact r4, fun T hT hμ => ?_⟩
    · unfold f_X11_runTo_p3_0
      rw [hi, wr_e (z := 9999) (by decide), if_neg (show ¬ i < 0 by omega), if_pos c.2, Nat.zero_add, r1]
      simp only [bd_e]
      have k := c_runTo (S := S1) (fun j hj => (f1 j hj).1) hi hd g1 (fun j hj => g2 j (Nat.zero_le _) hj) g3 n 0 (fu S) (by omega) (by omega)
      rw [f0, ← e1] at k
      rw [efu]
      exact k
    have hT13 := sR_i hμ
    obtain ⟨g8, k1, k2⟩ := p_cop6_8 (T := T) (μ := uF (S.2.1 13) 0 0 (1 - 1)) hT
    rw [uF_6] at k2
    obtain ⟨Ns, n0, n1, n2⟩ := f2 (sR T 13 (uG (uF (S.2.1 13) 0 0 (1 - 1)) 8 g8)) (uG (uF (S.2.1 13) 0 0 (1 - 1)) 8 g8) (S.2.1 13 6) ⟨r6, ek, by omega, r5, sR_g1, by omega, hT, hR, (by have := pm_told (z := 1 - 1) hM; unfold PM at this ⊢; simp (disch := omega) only [uF_e, uF_o, uF_k, uG_e, uG_o, uN_e, uN_k, true_or, or_true]; exact (by unfold PM at hM; exact hM))⟩ hGF
    have hG := n2 n g1
    obtain ⟨μ', d1, d2, d3⟩ := hdone T (Fs n) (Ns n) g8 (n : Int) (1 - 1) hT (gf_mono hG (by unfold BB; omega)) k2
    refine ⟨_, μ', q, q2, ?_, ⟨rfl, d2⟩, d3⟩
    show f_X12_runTo_p4_0 T 13 i = _
    rw [hT13]
    unfold f_X12_runTo_p4_0 f_X12_starts_p4_0
    rw [hi, p_isIn hi2 (by decide) (by decide), if_pos c]
    simp only [bd2_e]
    rw [p_is (Or.inr rfl)]
    simp only [bd2_e]
    rw [if_pos (by decide), k1]
    simp only [bd_e]
    have k := g4 (sR T 13 (uG (uF (S.2.1 13) 0 0 (1 - 1)) 8 g8)) Ns (fu T) (by omega) n1 (fun j hj => gf_17 (n2 j hj))
    rw [n0, wN_j, wN_j] at k
    have eN : uG (uG (uF (S.2.1 13) 0 0 (1 - 1)) 8 g8) 6 (S.2.1 13 6) = uG (uF (S.2.1 13) 0 0 (1 - 1)) 8 g8 := by
      have k := uG_i (F := uG (uF (S.2.1 13) 0 0 (1 - 1)) 8 g8) (o := 6)
      rw [uG_h (by decide), uF_6] at k
      exact k
    rw [eN] at k
    unfold f_X12_runsTo_p4_0
    rw [sR_fu]
    have k' : f_X12_runsTo_p4_0_b2 13 (fu T) (sR T 13 (uG (uF (S.2.1 13) 0 0 (1 - 1)) 8 g8)) i 0 = _ := k
    rw [k']
    simp only [bd2_e]
    rw [d1]
    simp only [bd2_e]
    rw [sR_s]
  · refine callR hI (v := .inr 2) (v' := 0) (z := 1 - 0) ?_ (fun T hT => ?_) ⟨uF_e.symm, Or.inl rfl⟩
    · unfold f_X11_runTo_p3_0
      rw [hi, wr_e (z := 9999) (by decide)]
      by_cases c2 : i < 0
      · rw [if_pos c2]
      · rw [if_neg c2, if_neg (by omega)]
    · unfold f_X12_runTo_p4_0
      rw [hi, p_isIn hi2 (by decide) (by decide), if_neg c]
      simp only [bd2_e]
      rw [p_is (Or.inl rfl)]
      simp only [bd2_e]
      rw [if_neg (by decide)]
end E9
