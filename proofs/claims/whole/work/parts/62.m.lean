/-! mathematics: rules added and removed; cycles run -/
section E8
variable {m : Nat} {S : xSt} {i j : Int}
theorem p_areK {T : xSt} (hi : wr i = i) (hj : wr j = j) : f_X12_areKinds T i j = some (if (0 ≤ i ∧ i ≤ 7) ∧ 0 ≤ j ∧ j ≤ 9 then 1 else 0, T) := by
  unfold f_X12_areKinds
  rw [hi, hj, p_isIn (wr_r hi) (by decide) (by decide)]
  simp only [bd2_e]
  by_cases c : 0 ≤ i ∧ i ≤ 7
  · rw [if_pos c, if_neg (by decide), p_isIn (wr_r hj) (by decide) (by decide)]
    simp only [bd2_e]
    by_cases d : 0 ≤ j ∧ j ≤ 9
    · rw [if_pos d, if_neg (by decide), if_pos ⟨c, d⟩]
    · rw [if_neg d, if_pos (by decide), if_neg (fun h => d h.2)]
  · rw [if_neg c, if_pos (by decide), if_neg (fun h => c h.1)]
theorem p_isRuleC (hi : wr i = i) (hj : wr j = j) : f_X11_isRule S i j = some (if (0 ≤ i ∧ i ≤ 7) ∧ 0 ≤ j ∧ j ≤ 9 then 1 else 0, S) := by
  unfold f_X11_isRule
  rw [hi, hj, wr_e (z := 8) (by decide), wr_e (z := 10) (by decide)]
  by_cases a : i < 0
  · rw [if_pos a, if_neg (by omega)]
  · rw [if_neg a]
    by_cases b : 8 ≤ i
    · rw [if_pos b, if_neg (by omega)]
    · rw [if_neg b]
      by_cases d : j < 0
      · rw [if_pos d, if_neg (by omega)]
      · rw [if_neg d]
        by_cases e : 10 ≤ j
        · rw [if_pos e, if_neg (by omega)]
        · rw [if_neg e, if_pos (by omega)]
def K2 : Nat → Int := fun k => if k = 3 then 2 else if k = 2 then 1 else 0
theorem p_app {r : Nat} {F : xR} (hsz : 0 ≤ F 2 2 ∧ F 2 2 ≤ 6) : f_X8_append_p1_2 (sR S r F) r i j = some (sR S r (uF (uF (uF F 3 (F 2 2).toNat i) 4 (F 2 2).toNat j) 2 2 (F 2 2 + 1))) := by
  unfold f_X8_append_p1_2
  simp (disch := omega) only [sR_g, sR_w, wr_e, ckI_e, lt1_e, uF_o, uF_k]
  rw [if_neg (show ¬ F 2 2 < 0 by omega), if_neg (show ¬ 7 ≤ F 2 2 by omega)]
theorem p_adds {T : xSt} {μ : xR} (hsz : 0 ≤ μ 6 34 ∧ μ 6 34 ≤ 6) : f_X12_adds_p4_0 (sR T 13 μ) 13 i j = some (μ 6 34, sR T 13 (uG μ 6 (uN (uN (μ 6) (35 + (μ 6 34).toNat) (10 * i + j)) 34 (μ 6 34 + 1)))) := by
  have ea : (35 + μ 6 34).toNat = 35 + (μ 6 34).toNat := by omega
  unfold f_X12_adds_p4_0
  simp (disch := omega) only [sR_g, sR_w, wr_e, ckI_e, lt1_e, uF_k, ea, uF_e]
  rw [uF_G, uF_G, uG_f, uG_G, show μ 6 34 + 1 - 1 = μ 6 34 by omega]
theorem p_mayX {T : xSt} {μ : xR} {a c : Int} (ha : a = 0 ∨ a = 1) : f_X12_may_p4_0 (sR T 13 μ) 13 a c = some (a, sR T 13 (uF μ 0 0 (if a = 0 then c else 0))) := by
  unfold f_X12_may_p4_0
  rcases ha with rfl | rfl
  · rw [if_pos (by decide), sR_w, lt1_e, ckB_e (Or.inl rfl), if_pos rfl]
  · rw [if_neg (by decide), sR_w, lt1_e, ckB_e (Or.inr rfl), if_neg (by decide)]
theorem k_addRule (hI : INV m S) (hi : wr i = i) (hj : wr j = j) : CALL m S (f_X11_addRule_p3_0 S 0 i j) (fun T => f_X12_addRule_p4_0 T 13 i j) (XR K2) := by
  have hi2 := wr_r hi
  obtain ⟨S1, q, q2, r1, r2, r3, r4, r5, r6, r7, hq, hk, hS, hdone⟩ := t_rem hI
  have hGF := hS.2.2.2.2.2.2.1
  have hR := hS.2.2.2.2.1
  have hR0 : PR (uG (S.2.1 q) 77 (fun _ => 0)) := PR_pe pe_lo hR
  have hM := hS.2.2.2.2.2.1
  have hF := hGF.1
  have hbb : BB m ≤ BB (m + 1) := by unfold BB; omega
  have hfu := hI.1
  have e1 := sR_i r3
  have e34 := hF.1.2.2.2.2.2.2.2.2.2.2.2.2.2.2.2.2.2.2.2.2.2.2.1
  have r13 := hF.2.1.2.2.2.2.2.2.2.2.2.2.2.2.2.1
  by_cases c : (0 ≤ i ∧ i ≤ 7) ∧ 0 ≤ j ∧ j ≤ 9
  · have hct : ∀ T : xSt, 10000000 ≤ fu T → CT S 1 q (sR T 13 (uF (S.2.1 13) 0 0 (1 - 1))) 13 (uG (S.2.1 q) 77 (fun _ => 0)) (uF (S.2.1 13) 0 0 (1 - 1)) := fun T hT => cx_ct ⟨hS.2.2.2.1, hk, by omega, rfl, sR_g1, hfu, hT, hR, pm_told hM⟩ _
    have hF9 : RF (uG (S.2.1 q) 77 (fun _ => 0)) (BB m) 0 0 0 (S.2.1 1) ((uF (S.2.1 13) 0 0 (1 - 1)) 6) := by
      rw [uF_6]
      exact hF
    obtain ⟨hv, hv0, i1, -⟩ := p_has (hct S hfu) hF9 (a := i) (b := j) (by omega) c.2
    rw [sR_e] at i1
    have hm1 : ∀ T : xSt, 10000000 ≤ fu T → f_X12_addRule_p4_0 (sR T 13 (S.2.1 13)) 13 i j = f_X12_addRule_p4_0_b39 13 (sR T 13 (uF (S.2.1 13) 0 0 (1 - 1))) i j (if hv = 0 ∧ S.2.1 1 2 2 < 6 then 1 else 0) := by
      intro T hT
      obtain ⟨hv2, -, j1, j2⟩ := p_has (hct T hT) hF9 (a := i) (b := j) (by omega) c.2
      rw [sR_e] at j1
      have ev : hv2 = hv := congrArg Prod.fst (Option.some.inj (j1.symm.trans i1))
      subst ev
      rw [wN_i] at j2
      unfold f_X12_addRule_p4_0 f_X12_addRule_p4_0_b38
      rw [p_areK hi hj, if_pos c]
      simp only [bd2_e]
      rw [p_is (Or.inr rfl)]
      simp only [bd2_e]
      rw [if_neg (by decide), j2]
      simp only [bd2_e, sR_g, ite_not]
      rw [wr_e (z := hv2) (by omega), wr_e (z := 6) (by decide), uF_6, e34, wr_e (z := S.2.1 1 2 2) (by omega)]
      by_cases a : hv2 = 0
      · rw [if_pos a]
        by_cases b : 6 ≤ S.2.1 1 2 2
        · rw [if_pos b, if_neg (by omega)]
        · rw [if_neg b, if_pos (by omega)]
      · rw [if_neg a, if_neg (fun h => a h.1)]
    by_cases d : hv = 0 ∧ S.2.1 1 2 2 < 6
    · refine ⟨.inl (S.2.1 1 2 2), sR S1 1 (uF (uF (uF (S.2.1 1) 3 (S.2.1 1 2 2).toNat i) 4 (S.2.1 1 2 2).toNat j) 2 2 (S.2.1 1 2 2 + 1)), ?_, r2, by rw [sR_n1 (by decide)]; exact r4, fun T hT hμ => ?_⟩
      · unfold f_X11_addRule_p3_0
        rw [p_isRuleC hi hj, if_pos c]
        simp only [bd2_e]
        rw [if_pos (by decide), Nat.zero_add, i1]
        simp only [bd2_e]
        rw [d.1, if_pos (by decide), show gI S 1 2 2 = S.2.1 1 2 2 from rfl, wr_e (z := S.2.1 1 2 2) (by omega), wr_e (z := 6) (by decide), if_pos d.2, r1]
        simp only [bd_e]
        rw [e1, p_app (by omega)]
        simp only [bd_e]
        rw [sR_g, uF_e, sR_s, show S.2.1 1 2 2 + 1 - 1 = S.2.1 1 2 2 by omega]
      · have hT13 := sR_i hμ
        obtain ⟨g8, k1, k2⟩ := p_cop6_8 (T := T) (μ := uF (uF (S.2.1 13) 0 0 (1 - 1)) 0 0 0) hT
        have e00 : uF (uF (S.2.1 13) 0 0 (1 - 1)) 0 0 0 = uF (S.2.1 13) 0 0 (1 - 1) := by
          have k := uF_i (F := uF (S.2.1 13) 0 0 (1 - 1)) (o := 0) (k := 0)
          rw [uF_e] at k
          exact k
        rw [e00] at k1 k2
        rw [uF_6] at k2
        obtain ⟨μ', d1, d2, d3⟩ := hdone T (uF (uF (uF (S.2.1 1) 3 (S.2.1 1 2 2).toNat i) 4 (S.2.1 1 2 2).toNat j) 2 2 (S.2.1 1 2 2 + 1)) (uN (uN (S.2.1 13 6) (35 + (S.2.1 1 2 2).toNat) (10 * i + j)) 34 (S.2.1 1 2 2 + 1)) g8 (S.2.1 1 2 2) (1 - 1) hT (gf_of (q_addr hR0 hF c.1 c.2 (by rw [uG_e]; omega)) (by simp (disch := omega) only [uF_e, uF_o, uF_k, uG_e, uG_o, uN_e, uN_k, true_or, or_true]; exact hGF.2) hbb) k2
        refine ⟨S.2.1 1 2 2, μ', q, q2, ?_, ⟨rfl, d2⟩, d3⟩
        show f_X12_addRule_p4_0 T 13 i j = _
        have eN : (uG (uF (S.2.1 13) 0 0 (1 - 1)) 8 g8) 6 = S.2.1 13 6 := by
          rw [uG_h (by decide), uF_6]
        rw [hT13, hm1 T hT, if_pos d]
        unfold f_X12_addRule_p4_0_b39 f_X12_starts_p4_0
        rw [p_mayX (Or.inr rfl), if_neg (by decide), e00]
        simp only [bd2_e]
        rw [if_pos (by decide), k1]
        simp only [bd_e]
        rw [p_adds (by rw [eN, e34]; omega), eN, e34]
        simp only [bd2_e]
        rw [d1]
        simp only [bd2_e]
        rw [sR_s]
    · refine callR hI (v := .inr 3) (v' := 0) (z := 2) ?_ (fun T hT => ?_) ⟨uF_e.symm, Or.inr rfl⟩
      · unfold f_X11_addRule_p3_0
        rw [p_isRuleC hi hj, if_pos c]
        simp only [bd2_e]
        rw [if_pos (by decide), Nat.zero_add, i1]
        simp only [bd2_e]
        rw [wr_e (z := hv) (by omega)]
        by_cases a : hv = 0
        · rw [if_pos a, show gI S 1 2 2 = S.2.1 1 2 2 from rfl, wr_e (z := S.2.1 1 2 2) (by omega), wr_e (z := 6) (by decide), if_neg (by omega)]
        · rw [if_neg a]
      · rw [hm1 T hT, if_neg d]
        unfold f_X12_addRule_p4_0_b39
        rw [p_mayX (Or.inl rfl), if_pos rfl]
        simp only [bd2_e]
        rw [if_neg (by decide)]
        congr 3
        funext o' k'
        show (if o' = 0 ∧ k' = 0 then (2 : Int) else if o' = 0 ∧ k' = 0 then 1 - 1 else S.2.1 13 o' k') = if o' = 0 ∧ k' = 0 then 2 else S.2.1 13 o' k'
        split <;> rfl
  · refine callR hI (v := .inr 2) (v' := 0) (z := 1 - 0) ?_ (fun T hT => ?_) ⟨uF_e.symm, Or.inl rfl⟩
    · unfold f_X11_addRule_p3_0
      rw [p_isRuleC hi hj, if_neg c]
      simp only [bd2_e]
      rw [if_neg (by decide)]
    · unfold f_X12_addRule_p4_0
      rw [p_areK hi hj, if_neg c]
      simp only [bd2_e]
      rw [p_is (Or.inl rfl)]
      simp only [bd2_e]
      rw [if_pos (by decide)]
/-- takeOut -/
theorem p_out_b {S : xSt} {r : Nat} {F : xR} {n : Nat} : ∀ (d : Nat) (x : Int) (f1 : Nat) (g h : Nat → Int), (n : Int) < x → x + d = F 2 2 → F 2 2 ≤ 7 → d < f1 → (∀ j : Nat, (j : Int) + 1 < x → g j = F 3 (if j < n then j else j + 1) ∧ h j = F 4 (if j < n then j else j + 1)) → (∀ j : Nat, x ≤ (j : Int) + 1 → g j = F 3 j ∧ h j = F 4 j) →
    ∃ g' h', f_X8_takeOut_p1_2_b17 r f1 (sR S r (uG (uG F 3 g) 4 h)) x = some (sR S r (uF (uG (uG F 3 g') 4 h') 2 2 (F 2 2 - 1))) ∧ ∀ j : Nat, (j : Int) + 1 < F 2 2 → g' j = F 3 (if j < n then j else j + 1) ∧ h' j = F 4 (if j < n then j else j + 1) := by
  intro d
  induction d with
  | zero =>
    intro x f1 g h hx hd h7 hf h1 h2
    obtain ⟨f1, rfl⟩ := fs_e (show 0 < f1 by omega)
    refine ⟨g, h, ?_, fun j hj => h1 j (by omega)⟩
    rw [f_X8_takeOut_p1_2_b17]
    simp (disch := omega) only [sR_g, sR_w, lt1_e, uG_o, uG_e, wr_e]
    rw [if_pos (by omega)]
  | succ d ih =>
    intro x f1 g h hx hd h7 hf h1 h2
    obtain ⟨f1, rfl⟩ := fs_e (show 0 < f1 by omega)
    have a1 := (h2 x.toNat (by omega)).1
    have a2 := (h2 x.toNat (by omega)).2
    rw [f_X8_takeOut_p1_2_b17]
    simp (disch := omega) only [sR_g, sR_w, lt1_e, uG_o, uG_e, wr_e, ckI_e, uF_o, a1, a2]
    rw [if_neg (by omega)]
    have e1 : uF (uF (uG (uG F 3 g) 4 h) 3 (x - 1).toNat (F 3 x.toNat)) 4 (x - 1).toNat (F 4 x.toNat) = uG (uG F 3 (uN g (x - 1).toNat (F 3 x.toNat))) 4 (uN h (x - 1).toNat (F 4 x.toNat)) := by
      rw [uF_G, uF_G, uG_h (show 3 ≠ 4 by decide), uG_f, uG_h (show 4 ≠ 3 by decide), uG_f, uG_c (show 4 ≠ 3 by decide), uG_G, uG_G]
    rw [e1]
    refine ih (x + 1) f1 _ _ (by omega) (by omega) h7 (by omega) ?_ ?_
    · intro j hj
      by_cases c : j = (x - 1).toNat
      · subst c
        rw [uN_e, uN_e, if_neg (by omega), show (x - 1).toNat + 1 = x.toNat by omega]
        exact ⟨rfl, rfl⟩
      · rw [uN_k c, uN_k c]
        exact h1 j (by omega)
    · intro j hj
      rw [uN_k (by omega), uN_k (by omega)]
      exact h2 j (by omega)
theorem p_rem_b {T : xSt} {μ : xR} {v sz : Int} {n : Nat} {N : Nat → Int} (hsz : 0 ≤ sz ∧ sz ≤ 6) : ∀ (d : Nat) (x : Int) (f1 : Nat) (N1 : Nat → Int), (n : Int) ≤ x → x + d = sz → d < f1 → N1 34 = sz → (∀ j : Nat, (j : Int) < x → N1 (35 + j) = N (35 + (if j < n then j else j + 1))) → (∀ j : Nat, x ≤ (j : Int) → j ≤ 6 → N1 (35 + j) = N (35 + j)) → (∀ k : Nat, (k < 34 ∨ 42 ≤ k) → N1 k = N k) →
    ∃ N2, f_X12_removeRule_p4_0_b46 13 f1 (sR T 13 (uG μ 6 N1)) v x = (bd2 (f_X12_done_p4_0 (sR T 13 (uG μ 6 N2)) 13 v) fun a b => some (a, b)) ∧ (∀ j : Nat, (j : Int) < sz → N2 (35 + j) = N (35 + (if j < n then j else j + 1))) ∧ (∀ k : Nat, (k < 34 ∨ 42 ≤ k) → N2 k = N k) ∧ N2 34 = sz := by
  intro d
  induction d with
  | zero =>
    intro x f1 N1 hx hd hf h34 h1 h2 h3
    obtain ⟨f1, rfl⟩ := fs_e (show 0 < f1 by omega)
    refine ⟨uN N1 (35 + sz.toNat) 0, ?_, fun j hj => by rw [uN_k (by omega)]; exact h1 j (by omega), fun k hk => by rw [uN_k (by omega)]; exact h3 k hk, by rw [uN_k (by omega)]; exact h34⟩
    rw [f_X12_removeRule_p4_0_b46, sR_g, uG_e, h34, wr_e (z := sz) (by omega), wr_e (z := x) (by omega), if_pos (by omega), ckI_e (by omega), wr_e (z := 35 + sz) (by omega), sR_w, lt1_e, uF_G, uG_f, uG_G, show (35 + sz).toNat = 35 + sz.toNat by omega]
  | succ d ih =>
    intro x f1 N1 hx hd hf h34 h1 h2 h3
    obtain ⟨f1, rfl⟩ := fs_e (show 0 < f1 by omega)
    have a2 := h2 (x.toNat + 1) (by omega) (by omega)
    rw [f_X12_removeRule_p4_0_b46, sR_g, uG_e, h34, wr_e (z := sz) (by omega), wr_e (z := x) (by omega), if_neg (by omega), ckI_e (by omega), ckI_e (by omega), wr_e (z := 35 + x + 1) (by omega), wr_e (z := 35 + x) (by omega), sR_w, lt1_e, uF_G, uG_f, uG_G, sR_g, uG_e, show (35 + x).toNat = 35 + x.toNat by omega, show (35 + x + 1).toNat = 35 + (x.toNat + 1) by omega, a2]
    refine ih (x + 1) f1 _ (by omega) (by omega) (by omega) (by rw [uN_k (by omega)]; exact h34) ?_ ?_ ?_
    · intro j hj
      by_cases c : j = x.toNat
      · subst c
        rw [uN_e, if_neg (by omega)]
      · rw [uN_k (by omega)]
        exact h1 j (by omega)
    · intro j hj h6
      rw [uN_k (by omega)]
      exact h2 j (by omega) h6
    · intro k hk
      rw [uN_k (by omega)]
      exact h3 k hk
theorem k_removeRule (hI : INV m S) (hi : wr i = i) : CALL m S (f_X11_removeRule_p3_0 S 0 i) (fun T => f_X12_removeRule_p4_0 T 13 i) (XR (KE 1)) := by
  have hi2 := wr_r hi
  obtain ⟨S1, q, q2, r1, r2, r3, r4, r5, r6, r7, hq, hk, hS, hdone⟩ := t_rem hI
  have hGF := hS.2.2.2.2.2.2.1
  have hR := hS.2.2.2.2.1
  have hR0 : PR (uG (S.2.1 q) 77 (fun _ => 0)) := PR_pe pe_lo hR
  have hM := hS.2.2.2.2.2.1
  have hF := hGF.1
  have hbb : BB m ≤ BB (m + 1) := by unfold BB; omega
  have hfu := hI.1
  have e1 := sR_i r3
  have e34 := hF.1.2.2.2.2.2.2.2.2.2.2.2.2.2.2.2.2.2.2.2.2.2.2.1
  have r13 := hF.2.1.2.2.2.2.2.2.2.2.2.2.2.2.2.1
  have hu := hF.2.2.2.1
  by_cases c : 0 ≤ i ∧ i < S.2.1 1 2 2
  · obtain ⟨g', h', o1, o2⟩ := p_out_b (S := S1) (r := 1) (F := S.2.1 1) (n := i.toNat) (S.2.1 1 2 2 - (i + 1)).toNat (i + 1) (fu S) (S.2.1 1 3) (S.2.1 1 4) (by omega) (by omega) r13.2.2 (by omega) (fun j hj => by rw [if_pos (by omega)]; exact ⟨rfl, rfl⟩) (fun j hj => ⟨rfl, rfl⟩)
    rw [uG_i, uG_i] at o1
    obtain ⟨t1, t2, t3⟩ := hu i.toNat (by omega)
    refine ⟨.inl (10 * S.2.1 1 3 i.toNat + S.2.1 1 4 i.toNat), sR S1 1 (uF (uG (uG (S.2.1 1) 3 g') 4 h') 2 2 (S.2.1 1 2 2 - 1)), ?_, r2, by rw [sR_n1 (by decide)]; exact r4, fun T hT hμ => ?_⟩
    · unfold f_X11_removeRule_p3_0
      rw [hi, Nat.zero_add, show gI S 1 2 2 = S.2.1 1 2 2 from rfl, wr_e (z := S.2.1 1 2 2) (by omega), if_neg (show ¬ i < 0 by omega), if_pos c.2, r1]
      simp only [bd_e]
      rw [ckI_e (by omega), ckI_e (by omega)]
      unfold f_X8_takeOut_p1_2
      have efu : fu S1 = fu S := by
        show S1.1.1 = S.1.1
        rw [r2]
      rw [hi, show gI S1 1 2 2 = S.2.1 1 2 2 by show S1.2.1 1 2 2 = _; rw [r3], wr_e (z := S.2.1 1 2 2) (by omega), if_neg (show ¬ i < 0 by omega), if_pos c.2, efu]
      rw [← e1] at o1
      rw [o1]
      simp only [bd_e]
      rw [show gI S1 1 3 i.toNat = S.2.1 1 3 i.toNat by show S1.2.1 1 3 _ = _; rw [r3], show gI S1 1 4 i.toNat = S.2.1 1 4 i.toNat by show S1.2.1 1 4 _ = _; rw [r3]]
    have hT13 := sR_i hμ
    obtain ⟨g8, k1, k2⟩ := p_cop6_8 (T := T) (μ := uF (S.2.1 13) 0 0 (1 - 1)) hT
    rw [uF_6] at k2
    have eN : uG (uF (S.2.1 13) 0 0 (1 - 1)) 8 g8 = uG (uG (uF (S.2.1 13) 0 0 (1 - 1)) 8 g8) 6 (S.2.1 13 6) := by
      have k := uG_i (F := uG (uF (S.2.1 13) 0 0 (1 - 1)) 8 g8) (o := 6)
      rw [uG_h (by decide), uF_6] at k
      exact k.symm
    obtain ⟨N2, w1, w2, w3, w4⟩ := p_rem_b (T := T) (μ := uG (uF (S.2.1 13) 0 0 (1 - 1)) 8 g8) (v := 10 * S.2.1 1 3 i.toNat + S.2.1 1 4 i.toNat) (sz := S.2.1 1 2 2 - 1) (n := i.toNat) (N := S.2.1 13 6) (by omega) (S.2.1 1 2 2 - 1 - i).toNat i (fu T) (uN (S.2.1 13 6) 34 (S.2.1 1 2 2 - 1)) (by omega) (by omega) (by omega) uN_e (fun j hj => by rw [if_pos (by omega), uN_k (by omega)]) (fun j hj _ => by rw [uN_k (by omega)]) (fun k hk => by rw [uN_k (by omega)])
    obtain ⟨μ', d1, d2, d3⟩ := hdone T (uF (uG (uG (S.2.1 1) 3 g') 4 h') 2 2 (S.2.1 1 2 2 - 1)) N2 g8 (10 * S.2.1 1 3 i.toNat + S.2.1 1 4 i.toNat) (1 - 1) hT (gf_of (q_remr hR0 hF (n := i.toNat) (by omega) o2 (fun j hj => w2 j (by omega)) w3 w4) (by simp (disch := omega) only [uF_e, uF_o, uF_k, uG_e, uG_o, uN_e, uN_k, true_or, or_true]; exact hGF.2) hbb) k2
    refine ⟨_, μ', q, q2, ?_, ⟨rfl, d2⟩, d3⟩
    show f_X12_removeRule_p4_0 T 13 i = _
    rw [hT13]
    unfold f_X12_removeRule_p4_0 f_X12_isRule_p4_0 f_X12_starts_p4_0
    rw [hi, sR_g, e34, wr_e (z := S.2.1 1 2 2 - 1) (by omega), p_isIn hi2 (by decide) (by omega), if_pos (by omega)]
    simp only [bd2_e]
    rw [p_is (Or.inr rfl)]
    simp only [bd2_e]
    rw [if_pos (by decide), k1]
    simp only [bd_e]
    rw [eN, ckI_e (by omega), wr_e (z := 35 + i) (by omega), sR_g, uG_e, sR_g, uG_e, sR_w, lt1_e, uF_G, uG_f, uG_G, e34, sR_fu, show (35 + i).toNat = 35 + i.toNat by omega, t1, w1, d1]
    simp only [bd2_e]
    rw [sR_s]
  · refine callR hI (v := .inr 1) (v' := 0) (z := 1 - 0) ?_ (fun T hT => ?_) ⟨uF_e.symm, Or.inl rfl⟩
    · unfold f_X11_removeRule_p3_0
      rw [hi, Nat.zero_add, show gI S 1 2 2 = S.2.1 1 2 2 from rfl, wr_e (z := S.2.1 1 2 2) (by omega)]
      by_cases c2 : i < 0
      · rw [if_pos c2]
      · rw [if_neg c2, if_neg (by omega)]
    · unfold f_X12_removeRule_p4_0 f_X12_isRule_p4_0
      rw [hi, sR_g, e34, wr_e (z := S.2.1 1 2 2 - 1) (by omega), p_isIn hi2 (by decide) (by omega), if_neg (by omega)]
      simp only [bd2_e]
      rw [p_is (Or.inl rfl)]
      simp only [bd2_e]
      rw [if_neg (by decide)]
end E8
