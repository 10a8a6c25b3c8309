/-! mathematics: forecasts of other settings, of a rule more -/
section F3
variable {m : Nat} {S : xSt} {i j : Int}
theorem t_again {S : xSt} {q : Nat} {π : xR} {B : Int} {N : Nat → Int} {X : xR} (h4 : S.2.2 1 0 0 = (q, 0)) (hk : gk S q = 2) (hF : GF π B (S.2.1 1) N) : ∃ G, f_X0_copyFrom_p1_0_1_0 (sR (wP S 2 0 0 (q, 0)) 2 X) 2 1 = some (sR (wP S 2 0 0 (q, 0)) 2 G) ∧ AG G (S.2.1 1) := by
  have r := hF.1.2.1
  obtain ⟨G, k1, k2⟩ := p_copyX (S := wP S 2 0 0 (q, 0)) (X := X) (r0 := 2) (r1 := 1) (q := q) (by decide) (by
    show uP S.2.2 2 0 0 (q, 0) 1 0 0 = (q, 0)
    unfold uP
    rw [if_neg (by decide)]
    exact h4) hk r.2.2.2.2.2.2.2.2.2.2.1 r.2.2.2.2.1 r.2.2.2.2.2.1
  rw [wP_P] at k1
  exact ⟨G, k1, k2⟩
theorem gx_17 {s : Int} {π F : xR} {N : Nat → Int} {B : Int} (h : GX s π B F N) : N 17 = F 15 1 := h.1.1.2.2.2.2.2.2.2.2.2.2.2.2.2.2.1
theorem gx_d {s : Int} {π F : xR} {N : Nat → Int} {B : Int} (h : GX s π B F N) : 0 ≤ F 15 1 ∧ F 15 1 ≤ B := h.1.2.1.2.2.2.2.2.2.2.2.2.2.2.2.1
theorem pm_99 {π μ : xR} {g : Nat → Int} (h : PM π μ) : PM π (uG μ 9 g) := by
  unfold PM at h ⊢
  simp (disch := omega) only [uF_e, uF_o, uF_k, uG_e, uG_o, uN_e, uN_k, true_or, or_true]
  exact h
/-- both sides decode for so many cycles, and tell how many more are decoded -/
theorem t_dec {s : Int} {S T0 : xSt} {q : Nat} {π μ0 F : xR} {N0 : Nat → Int} {B x : Int} {n : Nat} (hC : CX S 2 q T0 π μ0) (hG : GX s π B F N0) (hB : B ≤ 10000000) (hn : n ≤ 500) (hx : x = (n : Int)) : ∃ Fn v, f_X0_decodeFor_p1_0 (sR S 2 F) 2 x = some (v, sR S 2 Fn) ∧ (0 ≤ v ∧ v ≤ 1000000000) ∧ ∀ (T : xSt) (μ9 : xR) (g9 N : Nat → Int), 10000000 ≤ fu T → PM π μ9 → GX s π B F N → ∃ g6, f_X12_decodedIn_p4_0 (sR T 13 (uG (uG μ9 9 g9) 6 N)) 13 x = some (v, sR T 13 (uG (uG μ9 9 g9) 6 g6)) ∧ ∀ k, k < 363 → g6 k = g9 k := by
  obtain ⟨Fs, f0, f1, f2⟩ := t_runX hC hG (by omega) (n := n) hn
  obtain ⟨Ns0, -, -, n20⟩ := f2 T0 μ0 N0 hC hG
  have hup : ∀ i, i ≤ n → F 15 1 ≤ Fs i 15 1 := by
    intro i
    induction i with
    | zero =>
      intro _
      rw [f0]
      exact Int.le_refl _
    | succ k ih =>
      intro hk9
      have a := ih (by omega)
      have b := (f1 k (by omega)).2.2
      omega
  have b0 := gx_d hG
  have b1 := gx_d (n20 n (Nat.le_refl n))
  have b2 := hup n (Nat.le_refl n)
  have hfu : 10000000 ≤ fu S := hC.2.2.2.2.2.1
  refine ⟨Fs n, Fs n 15 1 - F 15 1, ?_, by omega, fun T μ9 g9 N hT hM hN => ?_⟩
  · have k := c_dfor0 (S := S) (r := 2) (fun j hj => (f1 j hj).1) hn hfu hx
    rw [f0] at k
    exact k
  · obtain ⟨c1, c2, c3, c4, c5, c6, c7, c8, c9⟩ := hC
    obtain ⟨Ns, n0, n1, n2⟩ := f2 (sR T 13 (uG μ9 9 g9)) (uG μ9 9 g9) N ⟨c1, c2, c3, c4, sR_g1, c6, hT, c8, pm_99 hM⟩ hN
    obtain ⟨g6, w1, w2⟩ := m_back (T := T) (μ2 := uG μ9 9 g9) (N := Ns n) (v := Fs n 15 1 - F 15 1) hT
    refine ⟨g6, ?_, fun k hk => by rw [w2 k hk, uG_e]⟩
    have k := m_din (x2 := F 15 1) n1 hn n 0 (fu T) (by omega) (by omega)
    rw [gx_17 (n2 n (Nat.le_refl n)), w1, n0, wN_j] at k
    unfold f_X12_decodedIn_p4_0
    rw [sR_g, uG_e, gx_17 hN, sR_fu, hx]
    exact k
/-- the reference tries a row with one number changed -/
theorem m_with {T : xSt} {μ9 : xR} {g9 g6 : Nat → Int} {a x i : Int} (hT : 10000000 ≤ fu T) (ha : 0 ≤ a ∧ a < 363) : ∃ h9, f_X12_decodedWith_p4_0 (sR T 13 (uG (uG μ9 9 g9) 6 g6)) 13 a x i = (bd2 (f_X12_decodedIn_p4_0 (sR T 13 (uG (uG μ9 9 h9) 6 (uN g6 a.toNat x))) 13 i) fun v7 S6 => some (v7, S6)) ∧ ∀ k, k < 363 → h9 k = g6 k := by
  obtain ⟨h9, k1, k2⟩ := p_cop6_9 (T := T) (μ := uG (uG μ9 9 g9) 6 g6) hT
  refine ⟨h9, ?_, fun k hk => by rw [k2 k hk, uG_e]⟩
  unfold f_X12_decodedWith_p4_0 f_X12_tries_p4_0
  rw [k1, uG_c (show 6 ≠ 9 by decide), uG_G]
  simp only [bd_e]
  rw [ckI_e (by omega), wr_e (z := a) (by omega), sR_w, lt1_e, uGF]
theorem t_best {S Sx : xSt} {q : Nat} {B i c a lo top : Int} {n : Nat} (h4 : S.2.2 1 0 0 = (q, 0)) (hk : gk S q = 2) (hR : PR (S.2.1 q)) (hGF : GF (S.2.1 q) B (S.2.1 1) (S.2.1 13 6)) (hM0 : PM (S.2.1 q) (S.2.1 13)) (hfu : 10000000 ≤ fu S) (hq : q = 11 ∨ q = 12) (hB : B ≤ 10000000) (hn : n ≤ 500) (hx : i = (n : Int)) (hc : 0 ≤ c ∧ c < 6) (hab : 0 ≤ a ∧ a ≤ 2) (htop : tbI 0 c.toNat = top) (htb : lo ≤ top ∧ 0 ≤ lo ∧ top ≤ 30) (hset : ∀ (x : Int) (F : xR) (N : Nat → Int), lo ≤ x ∧ x ≤ top → GF (S.2.1 q) B F N → GF (S.2.1 q) B (uF F 1 c.toNat x) (uN N a.toNat x)) : ∀ (d : Nat) (j b cnt : Int) (Sx : xSt), lo ≤ j → j + d = top + 1 → ((Sx = S ∧ 0 < d) ∨ ∃ X, Sx = sR (wP S 2 0 0 (q, 0)) 2 X) → ∃ v X', (∀ f, d < f → f_X11_bestValue_p3_0_b24 0 f Sx c i b cnt j = some (v, sR (wP S 2 0 0 (q, 0)) 2 X')) ∧ ∀ (T : xSt) (μ9 : xR) (g9 g6 : Nat → Int) (b' : Int), 10000000 ≤ fu T → PM (S.2.1 q) μ9 → (∀ k, k < 363 → g6 k = S.2.1 13 6 k) → (b' = b ∨ (cnt = -1 ∧ 0 < d ∧ b' = b')) → ∀ f, d < f → ∃ h9 h6, f_X12_bestOf_p4_0_b9 13 f (sR T 13 (uG (uG μ9 9 g9) 6 g6)) a top i b' cnt j = some (v, sR T 13 (uG (uG μ9 9 h9) 6 h6)) ∧ ∀ k, k < 363 → h6 k = S.2.1 13 6 k := by
  have hcp : ∀ Sx : xSt, (Sx = S ∨ ∃ X, Sx = sR (wP S 2 0 0 (q, 0)) 2 X) → ∃ G, f_X0_copyFrom_p1_0_1_0 Sx 2 1 = some (sR (wP S 2 0 0 (q, 0)) 2 G) ∧ AG G (S.2.1 1) := by
    intro Sx h
    rcases h with rfl | ⟨X, rfl⟩
    · exact p_copy (by decide) h4 hk hGF
    · exact t_again h4 hk hGF
  have hcx : CX (wP S 2 0 0 (q, 0)) 2 q (sR S 13 (S.2.1 13)) (S.2.1 q) (S.2.1 13) := by
    refine ⟨?_, hk, by omega, rfl, sR_g1, hfu, hfu, hR, hM0⟩
    show uP S.2.2 2 0 0 (q, 0) 2 0 0 = (q, 0)
    unfold uP
    rw [if_pos ⟨rfl, rfl, rfl⟩]
  intro d
  induction d with
  | zero =>
    intro j b cnt Sx hj hd hS
    rcases hS with hS | ⟨X, rfl⟩
    · exact absurd hS.2 (by decide)
    refine ⟨b, X, fun f hf => ?_, fun T μ9 g9 g6 b' hT hM h6 hb f hf => ⟨g9, g6, ?_, h6⟩⟩
    · obtain ⟨f, rfl⟩ := fs_e (show 0 < f by omega)
      rw [f_X11_bestValue_p3_0_b24, ckI_e (by omega), wr_e (z := c) (by omega), htop, wr_e (z := top) (by omega), wr_e (z := j) (by omega), if_pos (by omega)]
    · obtain ⟨f, rfl⟩ := fs_e (show 0 < f by omega)
      rcases hb with rfl | hb
      · rw [f_X12_bestOf_p4_0_b9, wr_e (z := top) (by omega), wr_e (z := j) (by omega), if_pos (by omega)]
      · exact absurd hb.2.1 (by decide)
  | succ d ih =>
    intro j b cnt Sx hj hd hS
    obtain ⟨G, k1, k2⟩ := hcp Sx (by
      rcases hS with hS | hS
      · exact Or.inl hS.1
      · exact Or.inr hS)
    have hG := hset j G _ (by omega) (gf_ag hR k2 hGF)
    obtain ⟨Fn, v, d1, d2, d3⟩ := t_dec (s := 0) hcx (by rw [gx_gf]; exact hG) hB hn hx
    have hcl : ∀ f, f_X11_bestValue_p3_0_b24 0 (f + 1) Sx c i b cnt j = if wr v ≤ wr cnt then f_X11_bestValue_p3_0_b24 0 f (sR (wP S 2 0 0 (q, 0)) 2 Fn) c i b cnt (j + 1) else f_X11_bestValue_p3_0_b24 0 f (sR (wP S 2 0 0 (q, 0)) 2 Fn) c i j v (j + 1) := by
      intro f
      rw [f_X11_bestValue_p3_0_b24, ckI_e (by omega), wr_e (z := c) (by omega), htop, wr_e (z := top) (by omega), wr_e (z := j) (by omega), if_neg (by omega), show 0 + 2 = 2 from rfl, show 0 + 1 = 1 from rfl, k1]
      simp only [bd_e]
      rw [ckI_e (by omega), sR_w, lt1_e, d1]
      simp only [bd2_e]
    have hml : ∀ (T : xSt) (μ9 : xR) (g9 g6 : Nat → Int) (b' : Int), 10000000 ≤ fu T → PM (S.2.1 q) μ9 → (∀ k, k < 363 → g6 k = S.2.1 13 6 k) → ∃ h9 h6, (∀ f, f_X12_bestOf_p4_0_b9 13 (f + 1) (sR T 13 (uG (uG μ9 9 g9) 6 g6)) a top i b' cnt j = if wr cnt < wr v then f_X12_bestOf_p4_0_b9 13 f (sR T 13 (uG (uG μ9 9 h9) 6 h6)) a top i j v (j + 1) else f_X12_bestOf_p4_0_b9 13 f (sR T 13 (uG (uG μ9 9 h9) 6 h6)) a top i b' cnt (j + 1)) ∧ ∀ k, k < 363 → h6 k = S.2.1 13 6 k := by
      intro T μ9 g9 g6 b' hT hM h6
      obtain ⟨h9, w1, w2⟩ := m_with (T := T) (μ9 := μ9) (g9 := g9) (g6 := g6) (a := a) (x := j) (i := i) hT (by omega)
      obtain ⟨p6, y1, y2⟩ := d3 T μ9 h9 (uN g6 a.toNat j) hT hM (by rw [gx_gf]; exact hset j G g6 (by omega) (gf_ag hR k2 (gf_ext hR h6 hGF)))
      refine ⟨h9, p6, fun f => ?_, fun k hk => by rw [y2 k hk, w2 k hk, h6 k hk]⟩
      rw [f_X12_bestOf_p4_0_b9, wr_e (z := top) (by omega), wr_e (z := j) (by omega), if_neg (by omega), w1, y1]
      simp only [bd2_e]
    by_cases cc : wr v ≤ wr cnt
    · obtain ⟨w, X', i1, i2⟩ := ih (j + 1) b cnt (sR (wP S 2 0 0 (q, 0)) 2 Fn) (by omega) (by omega) (Or.inr ⟨_, rfl⟩)
      refine ⟨w, X', fun f hf => ?_, fun T μ9 g9 g6 b' hT hM h6 hb f hf => ?_⟩
      · obtain ⟨f, rfl⟩ := fs_e (show 0 < f by omega)
        rw [hcl, if_pos cc, i1 f (by omega)]
      · obtain ⟨f, rfl⟩ := fs_e (show 0 < f by omega)
        obtain ⟨h9, p6, z1, z2⟩ := hml T μ9 g9 g6 b' hT hM h6
        have hb' : b' = b := by
          rcases hb with hb | hb
          · exact hb
          · rw [hb.1, wr_e (z := v) (by omega), wr_e (z := -1) (by decide)] at cc
            exact absurd cc (by omega)
        obtain ⟨u9, u6, v1, v2⟩ := i2 T μ9 h9 p6 b' hT hM z2 (Or.inl hb') f (by omega)
        exact ⟨u9, u6, by rw [z1 f, if_neg (by omega), v1], v2⟩
    · obtain ⟨w, X', i1, i2⟩ := ih (j + 1) j v (sR (wP S 2 0 0 (q, 0)) 2 Fn) (by omega) (by omega) (Or.inr ⟨_, rfl⟩)
      refine ⟨w, X', fun f hf => ?_, fun T μ9 g9 g6 b' hT hM h6 hb f hf => ?_⟩
      · obtain ⟨f, rfl⟩ := fs_e (show 0 < f by omega)
        rw [hcl, if_neg cc, i1 f (by omega)]
      · obtain ⟨f, rfl⟩ := fs_e (show 0 < f by omega)
        obtain ⟨h9, p6, z1, z2⟩ := hml T μ9 g9 g6 b' hT hM h6
        obtain ⟨u9, u6, v1, v2⟩ := i2 T μ9 h9 p6 j hT hM z2 (Or.inl rfl) f (by omega)
        exact ⟨u9, u6, by rw [z1 f, if_pos (by omega), v1], v2⟩
theorem uGG {μ : xR} {z : Int} {g9 : Nat → Int} : uF μ 0 0 z = uG (uG (uF μ 0 0 z) 9 (μ 9)) 6 (μ 6) := by
  have a := uG_i (F := uF μ 0 0 z) (o := 9)
  have b := uG_i (F := uF μ 0 0 z) (o := 6)
  have e9 : (uF μ 0 0 z) 9 = μ 9 := by
    funext k
    simp (disch := omega) only [uF_e, uF_o, uF_k, uG_e, uG_o, uN_e, uN_k, true_or, or_true]
  rw [e9] at a
  rw [uF_6] at b
  rw [a, b]
theorem k_bestLanes (hI : INV m S) (hm5 : m < 512) (hi : wr i = i) : CALL m S (f_X11_bestLanes_p3_0 S 0 i) (fun T => f_X12_bestLanes_p4_0 T 13 i) (XR (KE 2)) := by
  have hi2 := wr_r hi
  obtain ⟨G, q, q2, r1, r2, hS, hq, hk, hG, hcx⟩ := t_ahead hI
  have hGF := hS.2.2.2.2.2.2.1
  have hR := hS.2.2.2.2.1
  have hM := hS.2.2.2.2.2.1
  have hF := hGF.1
  have hbb : BB m ≤ BB (m + 1) := by unfold BB; omega
  have hfu := hI.1
  have hBm : BB m ≤ 10000000 := by unfold BB; omega
  have hR0 : PR (uG (S.2.1 q) 77 (fun _ => 0)) := PR_pe pe_lo hR
  by_cases c : 1 ≤ i ∧ i ≤ 500
  · obtain ⟨n, hn⟩ : ∃ n : Nat, n = i.toNat := ⟨_, rfl⟩
    have hin : i = (n : Int) := by omega
    have t1 : tbI 0 0 = 6 := by decide +kernel
    have t2 : tbI 2 0 = 1 := by decide +kernel
    obtain ⟨v, X', y1, y2⟩ := t_best (S := S) (Sx := S) (c := 0) (a := 0) (lo := 1) (top := 6) hS.2.2.2.1 hk hR hGF hM hfu hq hBm (by omega) hin (by decide) (by decide) t1 (by decide) (fun x F N hx h => gf_of (q_lanes hR0 h.1 hx) (by simp (disch := omega) only [uF_e, uF_o, uF_k, uG_e, uG_o, uN_e, uN_k, true_or, or_true]; exact h.2) (Int.le_refl _)) 6 1 (-1) (-1) S (by decide) (by decide) (Or.inl ⟨rfl, by decide⟩)
    refine ⟨.inl v, sR (wP S 2 0 0 (q, 0)) 2 X', ?_, rfl, by rw [sR_n1 (by decide)]; rfl, fun T hT hμ => ?_⟩
    · unfold f_X11_bestLanes_p3_0 f_X11_bestValue_p3_0
      rw [hi, wr_e (z := 1) (by decide), wr_e (z := 500) (by decide), if_neg (show ¬ i < 1 by omega), if_pos c.2, if_neg (by decide), if_pos (by decide), ckI_e (by decide), show (wr 0).toNat = 0 by decide, t2, y1 _ (by omega)]
      rfl
    · have hT13 := sR_i hμ
      have eu := uGG (μ := S.2.1 13) (z := 1 - 1) (g9 := fun _ => 0)
      obtain ⟨h9, h6, z1, z2⟩ := y2 T (uF (S.2.1 13) 0 0 (1 - 1)) (S.2.1 13 9) (S.2.1 13 6) 1 hT (pm_told hM) (fun k _ => rfl) (Or.inr ⟨rfl, by decide, rfl⟩) (fu T) (by omega)
      rw [← eu] at z1
      refine ⟨v, _, q, q2, ?_, ⟨rfl, ?_⟩, sim_fore (z := 1 - 1) (g9 := h9) (g6 := h6) hS hbb z2⟩
      · show f_X12_bestLanes_p4_0 T 13 i = _
        rw [hT13]
        unfold f_X12_bestLanes_p4_0 f_X12_bestOf_p4_0
        rw [p_isCyc hi, if_pos c]
        simp only [bd2_e]
        rw [p_is (Or.inr rfl)]
        simp only [bd2_e]
        rw [if_pos (by decide), sR_fu, z1]
        simp only [bd2_e]
        rw [sR_s]
      · simp (disch := omega) only [uF_e, uF_o, uF_k, uG_e, uG_o, uN_e, uN_k, true_or, or_true]
        rfl
  · refine callR hI (v := .inr 2) (v' := 0) (z := 1 - 0) ?_ (fun T hT => ?_) ⟨uF_e.symm, Or.inl rfl⟩
    · unfold f_X11_bestLanes_p3_0
      rw [hi, wr_e (z := 1) (by decide), wr_e (z := 500) (by decide)]
      by_cases c2 : i < 1
      · rw [if_pos c2]
      · rw [if_neg c2, if_neg (by omega)]
    · unfold f_X12_bestLanes_p4_0
      rw [p_isCyc hi, if_neg c]
      simp only [bd2_e]
      rw [p_is (Or.inl rfl)]
      simp only [bd2_e]
      rw [if_neg (by decide)]
theorem k_bestRate (hI : INV m S) (hm5 : m < 512) (hi : wr i = i) : CALL m S (f_X11_bestRate_p3_0 S 0 i) (fun T => f_X12_bestRate_p4_0 T 13 i) (XR (KE 2)) := by
  have hi2 := wr_r hi
  obtain ⟨G, q, q2, r1, r2, hS, hq, hk, hG, hcx⟩ := t_ahead hI
  have hGF := hS.2.2.2.2.2.2.1
  have hR := hS.2.2.2.2.1
  have hM := hS.2.2.2.2.2.1
  have hF := hGF.1
  have hbb : BB m ≤ BB (m + 1) := by unfold BB; omega
  have hfu := hI.1
  have hBm : BB m ≤ 10000000 := by unfold BB; omega
  have hR0 : PR (uG (S.2.1 q) 77 (fun _ => 0)) := PR_pe pe_lo hR
  by_cases c : 1 ≤ i ∧ i ≤ 500
  · obtain ⟨n, hn⟩ : ∃ n : Nat, n = i.toNat := ⟨_, rfl⟩
    have hin : i = (n : Int) := by omega
    have t1 : tbI 0 4 = 8 := by decide +kernel
    have t2 : tbI 2 4 = 1 := by decide +kernel
    obtain ⟨v, X', y1, y2⟩ := t_best (S := S) (Sx := S) (c := 4) (a := 1) (lo := 1) (top := 8) hS.2.2.2.1 hk hR hGF hM hfu hq hBm (by omega) hin (by decide) (by decide) t1 (by decide) (fun x F N hx h => gf_of (q_rate hR0 h.1 hx) (by simp (disch := omega) only [uF_e, uF_o, uF_k, uG_e, uG_o, uN_e, uN_k, true_or, or_true]; exact h.2) (Int.le_refl _)) 8 1 (-1) (-1) S (by decide) (by decide) (Or.inl ⟨rfl, by decide⟩)
    refine ⟨.inl v, sR (wP S 2 0 0 (q, 0)) 2 X', ?_, rfl, by rw [sR_n1 (by decide)]; rfl, fun T hT hμ => ?_⟩
    · unfold f_X11_bestRate_p3_0 f_X11_bestValue_p3_0
      rw [hi, wr_e (z := 1) (by decide), wr_e (z := 500) (by decide), if_neg (show ¬ i < 1 by omega), if_pos c.2, if_neg (by decide), if_pos (by decide), ckI_e (by decide), show (wr 4).toNat = 4 by decide, t2, y1 _ (by omega)]
      rfl
    · have hT13 := sR_i hμ
      have eu := uGG (μ := S.2.1 13) (z := 1 - 1) (g9 := fun _ => 0)
      obtain ⟨h9, h6, z1, z2⟩ := y2 T (uF (S.2.1 13) 0 0 (1 - 1)) (S.2.1 13 9) (S.2.1 13 6) 1 hT (pm_told hM) (fun k _ => rfl) (Or.inr ⟨rfl, by decide, rfl⟩) (fu T) (by omega)
      rw [← eu] at z1
      refine ⟨v, _, q, q2, ?_, ⟨rfl, ?_⟩, sim_fore (z := 1 - 1) (g9 := h9) (g6 := h6) hS hbb z2⟩
      · show f_X12_bestRate_p4_0 T 13 i = _
        rw [hT13]
        unfold f_X12_bestRate_p4_0 f_X12_bestOf_p4_0
        rw [p_isCyc hi, if_pos c]
        simp only [bd2_e]
        rw [p_is (Or.inr rfl)]
        simp only [bd2_e]
        rw [if_pos (by decide), sR_fu, z1]
        simp only [bd2_e]
        rw [sR_s]
      · simp (disch := omega) only [uF_e, uF_o, uF_k, uG_e, uG_o, uN_e, uN_k, true_or, or_true]
        rfl
  · refine callR hI (v := .inr 2) (v' := 0) (z := 1 - 0) ?_ (fun T hT => ?_) ⟨uF_e.symm, Or.inl rfl⟩
    · unfold f_X11_bestRate_p3_0
      rw [hi, wr_e (z := 1) (by decide), wr_e (z := 500) (by decide)]
      by_cases c2 : i < 1
      · rw [if_pos c2]
      · rw [if_neg c2, if_neg (by omega)]
    · unfold f_X12_bestRate_p4_0
      rw [p_isCyc hi, if_neg c]
      simp only [bd2_e]
      rw [p_is (Or.inl rfl)]
      simp only [bd2_e]
      rw [if_neg (by decide)]
theorem k_bestLoop (hI : INV m S) (hm5 : m < 512) (hi : wr i = i) : CALL m S (f_X11_bestLoop_p3_0 S 0 i) (fun T => f_X12_bestLoop_p4_0 T 13 i) (XR (KE 2)) := by
  have hi2 := wr_r hi
  obtain ⟨G, q, q2, r1, r2, hS, hq, hk, hG, hcx⟩ := t_ahead hI
  have hGF := hS.2.2.2.2.2.2.1
  have hR := hS.2.2.2.2.1
  have hM := hS.2.2.2.2.2.1
  have hF := hGF.1
  have hbb : BB m ≤ BB (m + 1) := by unfold BB; omega
  have hfu := hI.1
  have hBm : BB m ≤ 10000000 := by unfold BB; omega
  have hR0 : PR (uG (S.2.1 q) 77 (fun _ => 0)) := PR_pe pe_lo hR
  by_cases c : 1 ≤ i ∧ i ≤ 500
  · obtain ⟨n, hn⟩ : ∃ n : Nat, n = i.toNat := ⟨_, rfl⟩
    have hin : i = (n : Int) := by omega
    have t1 : tbI 0 5 = 30 := by decide +kernel
    have t2 : tbI 2 5 = 0 := by decide +kernel
    obtain ⟨v, X', y1, y2⟩ := t_best (S := S) (Sx := S) (c := 5) (a := 2) (lo := 0) (top := 30) hS.2.2.2.1 hk hR hGF hM hfu hq hBm (by omega) hin (by decide) (by decide) t1 (by decide) (fun x F N hx h => gf_of (q_loopset hR0 h.1 hx) (by simp (disch := omega) only [uF_e, uF_o, uF_k, uG_e, uG_o, uN_e, uN_k, true_or, or_true]; exact h.2) (Int.le_refl _)) 31 0 (-1) (-1) S (by decide) (by decide) (Or.inl ⟨rfl, by decide⟩)
    refine ⟨.inl v, sR (wP S 2 0 0 (q, 0)) 2 X', ?_, rfl, by rw [sR_n1 (by decide)]; rfl, fun T hT hμ => ?_⟩
    · unfold f_X11_bestLoop_p3_0 f_X11_bestValue_p3_0
      rw [hi, wr_e (z := 1) (by decide), wr_e (z := 500) (by decide), if_neg (show ¬ i < 1 by omega), if_pos c.2, if_neg (by decide), if_pos (by decide), ckI_e (by decide), show (wr 5).toNat = 5 by decide, t2, y1 _ (by omega)]
      rfl
    · have hT13 := sR_i hμ
      have eu := uGG (μ := S.2.1 13) (z := 1 - 1) (g9 := fun _ => 0)
      obtain ⟨h9, h6, z1, z2⟩ := y2 T (uF (S.2.1 13) 0 0 (1 - 1)) (S.2.1 13 9) (S.2.1 13 6) 0 hT (pm_told hM) (fun k _ => rfl) (Or.inr ⟨rfl, by decide, rfl⟩) (fu T) (by omega)
      rw [← eu] at z1
      refine ⟨v, _, q, q2, ?_, ⟨rfl, ?_⟩, sim_fore (z := 1 - 1) (g9 := h9) (g6 := h6) hS hbb z2⟩
      · show f_X12_bestLoop_p4_0 T 13 i = _
        rw [hT13]
        unfold f_X12_bestLoop_p4_0 f_X12_bestOf_p4_0
        rw [p_isCyc hi, if_pos c]
        simp only [bd2_e]
        rw [p_is (Or.inr rfl)]
        simp only [bd2_e]
        rw [if_pos (by decide), sR_fu, z1]
        simp only [bd2_e]
        rw [sR_s]
      · simp (disch := omega) only [uF_e, uF_o, uF_k, uG_e, uG_o, uN_e, uN_k, true_or, or_true]
        rfl
  · refine callR hI (v := .inr 2) (v' := 0) (z := 1 - 0) ?_ (fun T hT => ?_) ⟨uF_e.symm, Or.inl rfl⟩
    · unfold f_X11_bestLoop_p3_0
      rw [hi, wr_e (z := 1) (by decide), wr_e (z := 500) (by decide)]
      by_cases c2 : i < 1
      · rw [if_pos c2]
      · rw [if_neg c2, if_neg (by omega)]
    · unfold f_X12_bestLoop_p4_0
      rw [p_isCyc hi, if_neg c]
      simp only [bd2_e]
      rw [p_is (Or.inl rfl)]
      simp only [bd2_e]
      rw [if_neg (by decide)]
end F3
