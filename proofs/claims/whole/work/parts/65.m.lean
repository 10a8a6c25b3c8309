/-! mathematics: more forecasts -/
section F2
variable {m : Nat} {S : xSt} {i j : Int}
theorem c_cyUn {S : xSt} {Fs : Nat → xR} {x1 b : Int} (hp : ∀ i, i < 500 → f_X0_passCycle_p1_0 (sR S 2 (Fs i)) 2 = some (sR S 2 (Fs (i + 1)))) (hx : 0 ≤ x1 ∧ x1 < 60) (hb : 0 ≤ b ∧ b ≤ 1000000000) (hd : ∀ i, i ≤ 500 → b ≤ Fs i 17 x1.toNat ∧ Fs i 17 x1.toNat ≤ 1000000000) (hmono : ∀ i, i < 500 → Fs i 17 x1.toNat ≤ Fs (i + 1) 17 x1.toNat) : ∀ (d j : Nat), j + d = 500 → Fs j 17 x1.toNat = b → ∃ n, n ≤ 500 ∧ (∀ f : Nat, d + 1 < f → f_X11_cyclesUntil_p3_0_b51 0 f (sR S 2 (Fs j)) x1 b ((j : Int) + 1) = some (.inl (if b < Fs n 17 x1.toNat then (n : Int) else -1), sR S 2 (Fs n))) ∧ ∀ (T : xSt) (Ns : Nat → Nat → Int) (f : Nat), d < f → (∀ i, i < 500 → f_X12_cycles_p4_0 (wA T 13 6 (Ns i)) 13 = some (wA T 13 6 (Ns (i + 1)))) → (∀ i, i ≤ 500 → Ns i (203 + x1.toNat) = Fs i 17 x1.toNat) → f_X12_cyclesUntil_p4_0_b31 13 f (wA T 13 6 (Ns j)) x1 b (j : Int) = f_X12_laysBack_p4_0 (wA T 13 6 (Ns n)) 13 (if b < Fs n 17 x1.toNat then (n : Int) else -1) := by
  have hbd : ∀ x : Option (Int × xSt), (bd2 x fun v S => some (v, S)) = x := by
    intro x
    cases x with
    | none => rfl
    | some y => rfl
  have h203 : (203 + x1).toNat = 203 + x1.toNat := by omega
  intro d
  induction d with
  | zero =>
    intro j hj hjb
    have ej : j = 500 := by omega
    subst ej
    refine ⟨500, Nat.le_refl _, fun f hf => ?_, fun T Ns f hf hN h17 => ?_⟩
    · obtain ⟨f, rfl⟩ := fs_e (show 0 < f by omega)
      rw [f_X11_cyclesUntil_p3_0_b51, if_pos (by decide), if_neg (by omega)]
    · obtain ⟨f, rfl⟩ := fs_e (show 0 < f by omega)
      rw [f_X12_cyclesUntil_p4_0_b31, if_pos (by decide)]
      unfold f_X12_cyclesUntil_p4_0_b63 f_X12_cyclesUntil_p4_0_b82
      rw [hbd, hbd, ckI_e (by omega), wr_e (z := 203 + x1) (by omega), h203, wN_g, h17 500 (Nat.le_refl _), hjb, if_pos (Int.le_refl _), if_pos (by decide), if_neg (by omega)]
  | succ d ih =>
    intro j hj hjb
    have h9 := hd (j + 1) (by omega)
    have h8 := hmono j (by omega)
    by_cases c : Fs (j + 1) 17 x1.toNat = b
    · obtain ⟨n, i1, i2, i3⟩ := ih (j + 1) (by omega) c
      rw [show ((j + 1 : Nat) : Int) = (j : Int) + 1 by omega] at i2 i3
      refine ⟨n, i1, fun f hf => ?_, fun T Ns f hf hN h17 => ?_⟩
      · obtain ⟨f, rfl⟩ := fs_e (show 0 < f by omega)
        rw [f_X11_cyclesUntil_p3_0_b51, wr_e (z := 500) (by decide), wr_e (z := (j : Int) + 1) (by omega), if_neg (by omega), Nat.zero_add, hp j (by omega)]
        simp only [bd_e, sR_g]
        rw [ckI_e (by omega), wr_e (z := x1) (by omega), c, if_pos (Int.le_refl _), i2 f (by omega)]
      · obtain ⟨f, rfl⟩ := fs_e (show 0 < f by omega)
        rw [f_X12_cyclesUntil_p4_0_b31, wr_e (z := 500) (by decide), wr_e (z := (j : Int)) (by omega), if_neg (by omega), ckI_e (by omega), wr_e (z := 203 + x1) (by omega), h203, wN_g, h17 j (by omega), hjb, if_neg (fun h => h rfl), hN j (by omega)]
        simp only [bd_e]
        exact i3 T Ns f (by omega) hN h17
    · refine ⟨j + 1, by omega, fun f hf => ?_, fun T Ns f hf hN h17 => ?_⟩
      · obtain ⟨f, rfl⟩ := fs_e (show 0 < f by omega)
        rw [f_X11_cyclesUntil_p3_0_b51, wr_e (z := 500) (by decide), wr_e (z := (j : Int) + 1) (by omega), if_neg (by omega), Nat.zero_add, hp j (by omega)]
        simp only [bd_e, sR_g]
        rw [ckI_e (by omega), wr_e (z := x1) (by omega), wr_e (z := Fs (j + 1) 17 x1.toNat) (by omega), wr_e (z := b) (by omega), if_neg (by omega), if_pos (by omega)]
        congr 3
      · obtain ⟨f, rfl⟩ := fs_e (show 0 < f by omega)
        have e63 : f_X12_cyclesUntil_p4_0_b63 13 (wA T 13 6 (Ns (j + 1))) x1 b ((j : Int) + 1) = f_X12_laysBack_p4_0 (wA T 13 6 (Ns (j + 1))) 13 ((j : Int) + 1) := by
          unfold f_X12_cyclesUntil_p4_0_b63 f_X12_cyclesUntil_p4_0_b82
          rw [hbd, hbd, ckI_e (by omega), wr_e (z := 203 + x1) (by omega), h203, wN_g, h17 (j + 1) (by omega), wr_e (z := Fs (j + 1) 17 x1.toNat) (by omega), wr_e (z := b) (by omega), if_neg (by omega), if_neg (by decide)]
        rw [f_X12_cyclesUntil_p4_0_b31, wr_e (z := 500) (by decide), wr_e (z := (j : Int)) (by omega), if_neg (by omega), ckI_e (by omega), wr_e (z := 203 + x1) (by omega), h203, wN_g, h17 j (by omega), hjb, if_neg (fun h => h rfl), hN j (by omega)]
        simp only [bd_e]
        obtain ⟨f, rfl⟩ := fs_e (show 0 < f by omega)
        rw [f_X12_cyclesUntil_p4_0_b31, e63, wr_e (z := 500) (by decide), wr_e (z := (j : Int) + 1) (by omega), ckI_e (by omega), wr_e (z := 203 + x1) (by omega), h203, wN_g, h17 (j + 1) (by omega), wr_e (z := Fs (j + 1) 17 x1.toNat) (by omega), wr_e (z := b) (by omega), if_pos (show ¬ Fs (j + 1) 17 x1.toNat = b from c), ite_self, if_pos (by omega)]
        congr 1
theorem gf_p {π F : xR} {N : Nat → Int} {B : Int} (h : GF π B F N) (k : Nat) (hk : k < 60) : N (203 + k) = F 17 k ∧ 0 ≤ F 17 k ∧ F 17 k ≤ B := by
  have h1 := h.1.2.2.2.2.2.2.2.1 k hk
  have h2 := gf_d h
  omega
theorem k_cyclesUntil (hI : INV m S) (hm5 : m < 512) (hi : wr i = i) : CALL m S (f_X11_cyclesUntil_p3_0 S 0 i) (fun T => f_X12_cyclesUntil_p4_0 T 13 i) (XR (KE 1)) := by
  have hi2 := wr_r hi
  obtain ⟨G, q, q2, r1, r2, hS, hq, hk, hG, hcx⟩ := t_ahead hI
  have hGF := hS.2.2.2.2.2.2.1
  have hR := hS.2.2.2.2.1
  have hM := hS.2.2.2.2.2.1
  have hF := hGF.1
  have hbb : BB m ≤ BB (m + 1) := by unfold BB; omega
  have hfu := hI.1
  have hBm : BB m ≤ 10000000 := by unfold BB; omega
  have p0 := hR.1
  have gP4 : gP S 0 0 4 = (q, 0) := hS.2.1
  have gQ0 : gI S q 0 10 = S.2.1 q 0 10 := rfl
  by_cases c : 0 ≤ i ∧ i < S.2.1 q 0 10
  · have hg0 := gf_p hGF i.toNat (by omega)
    have hg1 := gf_p hG i.toNat (by omega)
    obtain ⟨Fs, f0, f1, f2⟩ := t_runU (S := wP S 2 0 0 (q, 0)) (T0 := sR S 13 (S.2.1 13)) (r := 2) (q := q) (π := S.2.1 q) (hcx S (S.2.1 13) hfu hM) hG (by omega) (n := 500) (by omega)
    obtain ⟨Ns0, -, -, n20⟩ := f2 (sR S 13 (S.2.1 13)) (S.2.1 13) (S.2.1 13 6) (hcx S (S.2.1 13) hfu hM) hG
    have hmono : ∀ i', i' < 500 → Fs i' 17 i.toNat ≤ Fs (i' + 1) 17 i.toNat := fun i' hi' => (f1 i' hi').2.1 i.toNat (by omega)
    have hlow : ∀ i', i' ≤ 500 → S.2.1 1 17 i.toNat ≤ Fs i' 17 i.toNat := by
      intro i'
      induction i' with
      | zero =>
        intro _
        rw [f0]
        omega
      | succ k ih =>
        intro hk9
        have a := ih (by omega)
        have b := hmono k (by omega)
        omega
    have hd : ∀ i', i' ≤ 500 → S.2.1 1 17 i.toNat ≤ Fs i' 17 i.toNat ∧ Fs i' 17 i.toNat ≤ 1000000000 := fun i' hi' => by
      have a := gf_p (n20 i' hi') i.toNat (by omega)
      have b := hlow i' hi'
      omega
    obtain ⟨n, t1, t2, t3⟩ := c_cyUn (S := wP S 2 0 0 (q, 0)) (Fs := Fs) (x1 := i) (b := S.2.1 1 17 i.toNat) (fun j hj => (f1 j hj).1) (by omega) (by omega) hd hmono 500 0 (by omega) (by rw [f0]; omega)
    refine ⟨.inl (if S.2.1 1 17 i.toNat < Fs n 17 i.toNat then (n : Int) else -1), sR (wP S 2 0 0 (q, 0)) 2 (Fs n), ?_, rfl, by rw [sR_n1 (by decide)]; rfl, fun T hT hμ => ?_⟩
    · unfold f_X11_cyclesUntil_p3_0
      rw [hi, ckP_e gP4 hk, gQ0, wr_e (z := S.2.1 q 0 10) (by omega), if_neg (show ¬ i < 0 by omega), if_pos c.2, Nat.zero_add, Nat.zero_add, r1]
      simp only [bd_e]
      rw [ckI_e (by omega), g_1, sR_fu]
      have k := t2 (fu S) (by omega)
      rw [f0] at k
      exact k
    have hT13 := sR_i hμ
    obtain ⟨g9, k1, k2⟩ := p_cop6_9 (T := T) (μ := uF (S.2.1 13) 0 0 (1 - 1)) hT
    rw [uF_6] at k2
    obtain ⟨Ns, n0, n1, n2⟩ := f2 (sR T 13 (uG (uF (S.2.1 13) 0 0 (1 - 1)) 9 g9)) _ (S.2.1 13 6) (hcx T _ hT (pm_9 hM)) hG
    obtain ⟨g6, w1, w2⟩ := m_back (T := T) (μ2 := uG (uF (S.2.1 13) 0 0 (1 - 1)) 9 g9) (N := Ns n) (v := if S.2.1 1 17 i.toNat < Fs n 17 i.toNat then (n : Int) else -1) hT
    refine ⟨_, _, q, q2, ?_, ⟨rfl, ?_⟩, sim_fore (z := 1 - 1) (g9 := g9) (g6 := g6) hS hbb (fun k hk => by rw [w2 k hk, uG_e, k2 k hk])⟩
    · show f_X12_cyclesUntil_p4_0 T 13 i = _
      rw [hT13]
      unfold f_X12_cyclesUntil_p4_0 f_X12_tries_p4_0
      rw [p_isNum hR hM hi, if_pos c]
      simp only [bd2_e]
      rw [p_is (Or.inr rfl)]
      simp only [bd2_e]
      rw [if_pos (by decide), k1]
      simp only [bd_e]
      have k := t3 (sR T 13 (uG (uF (S.2.1 13) 0 0 (1 - 1)) 9 g9)) Ns (fu T) (by omega) n1 (fun j hj => (gf_p (n2 j hj) i.toNat (by omega)).1)
      rw [n0, wN_k, w1] at k
      rw [ckI_e (by omega), wr_e (z := 203 + i) (by omega), sR_g, uG_o (by decide), uF_o (by decide), show (203 + i).toNat = 203 + i.toNat by omega, hg0.1, sR_fu]
      have k' : f_X12_cyclesUntil_p4_0_b31 13 (fu T) (sR T 13 (uG (uF (S.2.1 13) 0 0 (1 - 1)) 9 g9)) i (S.2.1 1 17 i.toNat) 0 = _ := k
      rw [k', sR_s]
    · simp (disch := omega) only [uF_e, uF_o, uF_k, uG_e, uG_o, uN_e, uN_k, true_or, or_true]
      rfl
  · refine callR hI (v := .inr 1) (v' := 0) (z := 1 - 0) ?_ (fun T hT => ?_) ⟨uF_e.symm, Or.inl rfl⟩
    · unfold f_X11_cyclesUntil_p3_0
      rw [hi, ckP_e gP4 hk, gQ0, wr_e (z := S.2.1 q 0 10) (by omega)]
      by_cases c2 : i < 0
      · rw [if_pos c2]
      · rw [if_neg c2, if_neg (by omega)]
    · unfold f_X12_cyclesUntil_p4_0
      rw [p_isNum hR hM hi, if_neg c]
      simp only [bd2_e]
      rw [p_is (Or.inl rfl)]
      simp only [bd2_e]
      rw [if_neg (by decide)]
theorem t_mci {S : xSt} {Fn : xR} {N g9 : Nat → Int} {q : Nat} {μ : xR} {F : xR} (hF1 : S.2.1 1 = F) (hN : ∀ c : Nat, 1 ≤ c → c ≤ 8 → N (25 + c) = Fn 16 c) (h9 : ∀ c : Nat, 1 ≤ c → c ≤ 8 → g9 (25 + c) = F 16 c) : ∀ (d : Nat) (x a b : Int), 1 ≤ x → x + d = 9 → ∃ v, (∀ f : Nat, d < f → f_X9_mostUnusedSince_p1_14_1_16_b7 2 1 f (sR (wP S 2 0 0 (q, 0)) 2 Fn) a b x = some (v, sR (wP S 2 0 0 (q, 0)) 2 Fn)) ∧ ∀ (T : xSt) (f : Nat), d < f → T.2.1 13 9 = g9 → f_X12_mainCauseIn_p4_0_b41 13 f (wA T 13 6 N) a b x = (bd2 (f_X12_laysBack_p4_0 (wA T 13 6 N) 13 v) fun a b => some (a, b)) := by
  intro d
  induction d with
  | zero =>
    intro x a b hx hd
    refine ⟨a, fun f hf => ?_, fun T f hf hT => ?_⟩
    · obtain ⟨f, rfl⟩ := fs_e (show 0 < f by omega)
      rw [f_X9_mostUnusedSince_p1_14_1_16_b7, wr_e (z := 8) (by decide), wr_e (z := x) (by omega), if_pos (by omega)]
    · obtain ⟨f, rfl⟩ := fs_e (show 0 < f by omega)
      rw [f_X12_mainCauseIn_p4_0_b41, wr_e (z := 8) (by decide), wr_e (z := x) (by omega), if_pos (by omega)]
  | succ d ih =>
    intro x a b hx hd
    have q1 := hN x.toNat (by omega) (by omega)
    have q2 := h9 x.toNat (by omega) (by omega)
    obtain ⟨w1, a1, a2⟩ := ih (x + 1) a b (by omega) (by omega)
    obtain ⟨w2, b1, b2⟩ := ih (x + 1) x (Fn 16 x.toNat - F 16 x.toNat) (by omega) (by omega)
    refine ⟨if wr (Fn 16 x.toNat - F 16 x.toNat) ≤ wr b then w1 else w2, fun f hf => ?_, fun T f hf hT => ?_⟩
    · obtain ⟨f, rfl⟩ := fs_e (show 0 < f by omega)
      have a1' := a1 f (by omega)
      have b1' := b1 f (by omega)
      rw [f_X9_mostUnusedSince_p1_14_1_16_b7, wr_e (z := 8) (by decide), wr_e (z := x) (by omega), if_neg (by omega), wr_e (z := 9) (by decide), if_neg (by omega), ckI_e (by omega), ckI_e (by omega), sR_g, g_1, hF1]
      by_cases c : wr (Fn 16 x.toNat - F 16 x.toNat) ≤ wr b
      · rw [if_pos c, if_pos c, a1']
      · rw [if_neg c, if_neg c, b1']
    · obtain ⟨f, rfl⟩ := fs_e (show 0 < f by omega)
      have hT9 : gI T 13 9 (25 + x.toNat) = F 16 x.toNat := by
        rw [← q2, ← hT]
        rfl
      rw [f_X12_mainCauseIn_p4_0_b41, wr_e (z := 8) (by decide), wr_e (z := x) (by omega), if_neg (by omega), ckI_e (by omega), ckI_e (by omega), wr_e (z := 25 + x) (by omega), wN_g, wN_o (by decide), show (25 + x).toNat = 25 + x.toNat by omega, q1, hT9]
      by_cases c : wr (Fn 16 x.toNat - F 16 x.toNat) ≤ wr b
      · rw [if_neg (by omega), if_pos c, a2 T f (by omega) hT]
      · rw [if_pos (by omega), if_neg c, b2 T f (by omega) hT]
theorem k_mainCauseIn (hI : INV m S) (hm5 : m < 512) (hi : wr i = i) : CALL m S (f_X11_mainCauseIn_p3_0 S 0 i) (fun T => f_X12_mainCauseIn_p4_0 T 13 i) (XR (KE 2)) := by
  have hi2 := wr_r hi
  obtain ⟨G, q, q2, r1, r2, hS, hq, hk, hG, hcx⟩ := t_ahead hI
  have hGF := hS.2.2.2.2.2.2.1
  have hR := hS.2.2.2.2.1
  have hM := hS.2.2.2.2.2.1
  have hF := hGF.1
  have hbb : BB m ≤ BB (m + 1) := by unfold BB; omega
  have hfu := hI.1
  have hBm : BB m ≤ 10000000 := by unfold BB; omega
  have hb := hF.2.2.1
  by_cases c : 1 ≤ i ∧ i ≤ 500
  · obtain ⟨n, hn⟩ : ∃ n : Nat, n = i.toNat := ⟨_, rfl⟩
    have hin : i = (n : Int) := by omega
    obtain ⟨Fs, f0, f1, f2⟩ := t_runU (S := wP S 2 0 0 (q, 0)) (T0 := sR S 13 (S.2.1 13)) (r := 2) (q := q) (π := S.2.1 q) (hcx S (S.2.1 13) hfu hM) hG (by omega) (n := n) (by omega)
    obtain ⟨Ns0, -, -, n20⟩ := f2 (sR S 13 (S.2.1 13)) (S.2.1 13) (S.2.1 13 6) (hcx S (S.2.1 13) hfu hM) hG
    obtain ⟨v, t1, -⟩ := t_mci (S := S) (Fn := Fs n) (N := Ns0 n) (g9 := S.2.1 13 6) (q := q) (μ := S.2.1 13) rfl (n20 n (Nat.le_refl n)).1.2.2.1 hb 8 1 (-1) 0 (by decide) (by decide)
    refine ⟨.inl v, sR (wP S 2 0 0 (q, 0)) 2 (Fs n), ?_, rfl, by rw [sR_n1 (by decide)]; rfl, fun T hT hμ => ?_⟩
    · unfold f_X11_mainCauseIn_p3_0
      rw [hi, wr_e (z := 1) (by decide), wr_e (z := 500) (by decide), if_neg (show ¬ i < 1 by omega), if_pos c.2, Nat.zero_add, Nat.zero_add, r1]
      simp only [bd_e]
      have k := c_dfor0 (S := wP S 2 0 0 (q, 0)) (r := 2) (fun j hj => (f1 j hj).1) (by omega) hfu hin
      rw [f0] at k
      rw [k]
      simp only [bd2_e]
      unfold f_X9_mostUnusedSince_p1_14_1_16
      rw [sR_fu, t1 _ (show 8 < fu (wP S 2 0 0 (q, 0)) by show 8 < fu S; omega)]
      rfl
    have hT13 := sR_i hμ
    obtain ⟨g9, k1, k2⟩ := p_cop6_9 (T := T) (μ := uF (S.2.1 13) 0 0 (1 - 1)) hT
    rw [uF_6] at k2
    obtain ⟨Ns, n0, n1, n2⟩ := f2 (sR T 13 (uG (uF (S.2.1 13) 0 0 (1 - 1)) 9 g9)) _ (S.2.1 13 6) (hcx T _ hT (pm_9 hM)) hG
    obtain ⟨v2, s1, s2⟩ := t_mci (S := S) (Fn := Fs n) (N := Ns n) (g9 := g9) (q := q) (μ := S.2.1 13) rfl (n2 n (Nat.le_refl n)).1.2.2.1 (fun c h1 h2 => by rw [k2 _ (by omega)]; exact hb c h1 h2) 8 1 (-1) 0 (by decide) (by decide)
    have ev : v2 = v := by
      have a := s1 9 (by decide)
      rw [t1 9 (by decide)] at a
      exact (congrArg Prod.fst (Option.some.inj a)).symm
    subst ev
    obtain ⟨g6, w1, w2⟩ := m_back (T := T) (μ2 := uG (uF (S.2.1 13) 0 0 (1 - 1)) 9 g9) (N := Ns n) (v := v2) hT
    refine ⟨_, _, q, q2, ?_, ⟨rfl, ?_⟩, sim_fore (z := 1 - 1) (g9 := g9) (g6 := g6) hS hbb (fun k hk => by rw [w2 k hk, uG_e, k2 k hk])⟩
    · show f_X12_mainCauseIn_p4_0 T 13 i = _
      rw [hT13]
      unfold f_X12_mainCauseIn_p4_0 f_X12_tries_p4_0
      rw [p_isCyc hi, if_pos c]
      simp only [bd2_e]
      rw [p_is (Or.inr rfl)]
      simp only [bd2_e]
      rw [if_pos (by decide), k1]
      simp only [bd_e]
      have k := m_mci n1 (by omega) n 0 (fu T) (by omega) (by omega)
      have e9 : (sR T 13 (uG (uF (S.2.1 13) 0 0 (1 - 1)) 9 g9)).2.1 13 9 = g9 := by rw [sR_g1, uG_f]
      rw [s2 _ _ (by rw [wN_fu, sR_fu]; omega) e9, n0, wN_k, ← hin, w1] at k
      have k' : f_X12_mainCauseIn_p4_0_b19 13 (fu T) (sR T 13 (uG (uF (S.2.1 13) 0 0 (1 - 1)) 9 g9)) i 0 = _ := k
      rw [sR_fu, k']
      simp only [bd2_e]
      rw [sR_s]
    · simp (disch := omega) only [uF_e, uF_o, uF_k, uG_e, uG_o, uN_e, uN_k, true_or, or_true]
      rfl
  · refine callR hI (v := .inr 2) (v' := 0) (z := 1 - 0) ?_ (fun T hT => ?_) ⟨uF_e.symm, Or.inl rfl⟩
    · unfold f_X11_mainCauseIn_p3_0
      rw [hi, wr_e (z := 1) (by decide), wr_e (z := 500) (by decide)]
      by_cases c2 : i < 1
      · rw [if_pos c2]
      · rw [if_neg c2, if_neg (by omega)]
    · unfold f_X12_mainCauseIn_p4_0
      rw [p_isCyc hi, if_neg c]
      simp only [bd2_e]
      rw [p_is (Or.inl rfl)]
      simp only [bd2_e]
      rw [if_neg (by decide)]
end F2
