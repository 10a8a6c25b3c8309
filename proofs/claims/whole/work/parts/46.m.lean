/-! mathematics: lanes are wasted; loops; turns -/
section C7
variable {S T : xSt} {r q M : Nat} {π μ F : xR} {N : Nat → Int} {B e w o : Int}

theorem p_wst (hC : CT S r q T M π μ) (hF : RF π B e w o F N) {x c : Int} (hx : 0 ≤ x ∧ x ≤ F 1 0) (hc : 1 ≤ c ∧ c ≤ 8) : ∃ N', f_X12_stops_p4_0 (wA T M 6 N) M x c = some (F 1 0, wA T M 6 N') ∧ f_X12_wastes_p4_0 (wA T M 6 N) M x c = some (wA T M 6 N') ∧ RF π B e w o (uF F 16 c.toNat (F 16 c.toNat + (F 1 0 - x))) N' := by
  obtain ⟨hs, hr, hb, hu, hq, ht, hw, hp, hg, hl, hd⟩ := hF
  obtain ⟨e0, e1, e2, e3, e4, e5, e6, e7, e8, e9, e10, e11, e15, e16, e17, e18, e19, e20, e21, e22, e23, e24, e34, e42, x1, x2, x3⟩ := id hs
  obtain ⟨r0, r1, r2, r3, r4, r5, r6, r7, r8, r9, r10, r11, r12, r13, r14⟩ := id hr
  obtain ⟨p0, p1, p2, p3, p4, p5, p6, p7, p8, p9, p10⟩ := id (ct_R hC)
  obtain ⟨m1, m2, m3, m4, m5, m6⟩ := id (ct_M hC)
  have ec : (25 + c).toNat = 25 + c.toNat := by omega
  have hbc := hb c.toNat (by omega) (by omega)
  unfold f_X12_stops_p4_0 f_X12_wastes_p4_0
  simp (disch := omega) only [lt1_e, bd_e, bd2_e, sR_g, sR_w, sR_a, sR_s, wN_g, wN_w, wN_s, ct_p hC, ct_q hC, ct_m hC, ckI_e, wr_e, ite_not, uF_e, uF_o, uF_k, uG_e, uG_o, uN_e, uN_k, e0, ec, hbc]
  by_cases d : F 1 0 ≤ x
  · rw [if_pos d]
    refine ⟨N, by simp (disch := omega) only [lt1_e, bd_e, bd2_e, sR_g, sR_w, sR_a, sR_s, wN_g, wN_w, wN_s, ct_p hC, ct_q hC, ct_m hC, ckI_e, wr_e, ite_not, uF_e, uF_o, uF_k, uG_e, uG_o, uN_e, uN_k, e0], rfl, ?_⟩
    rw [show F 16 c.toNat + (F 1 0 - x) = F 16 c.toNat by omega, uF_i]
    exact ⟨hs, hr, hb, hu, hq, ht, hw, hp, hg, hl, hd⟩
  · rw [if_neg d]
    refine ⟨uN N (25 + c.toNat) (F 16 c.toNat + F 1 0 - x), by simp (disch := omega) only [lt1_e, bd_e, bd2_e, sR_g, sR_w, sR_a, sR_s, wN_g, wN_w, wN_s, ct_p hC, ct_q hC, ct_m hC, ckI_e, wr_e, ite_not, uF_e, uF_o, uF_k, uG_e, uG_o, uN_e, uN_k, e0], rfl, ?_⟩

    refine ⟨?_, ?_, ?_, ?_, ?_, ?_, ?_, ?_, ?_, ?_, ?_⟩
    · unfold RFs
      refine ⟨?_, ?_, ?_, ?_, ?_, ?_, ?_, ?_, ?_, ?_, ?_, ?_, ?_, ?_, ?_, ?_, ?_, ?_, ?_, ?_, ?_, ?_, ?_, ?_, ?_, ?_, ?_⟩ <;> (try simp (disch := omega) only [uF_e, uF_o, uF_k, uG_e, uG_o, uN_e, uN_k, true_or, or_true]) <;> omega
    · unfold RFr
      refine ⟨?_, ?_, ?_, ?_, ?_, ?_, ?_, ?_, ?_, ?_, ?_, ?_, ?_, ?_, ?_⟩ <;> (try simp (disch := omega) only [uF_e, uF_o, uF_k, uG_e, uG_o, uN_e, uN_k, true_or, or_true]) <;> omega
    · intro c2 h1 h2
      by_cases d2 : c2 = c.toNat
      · subst d2
        rw [uN_e, uF_e]
        omega
      · simp (disch := omega) only [uF_e, uF_o, uF_k, uG_e, uG_o, uN_e, uN_k, true_or, or_true]
        exact hb c2 h1 h2
    · intro j hj
      try simp (disch := omega) only [uF_e, uF_o, uF_k, uG_e, uG_o, uN_e, uN_k, true_or, or_true] at hj
      try simp (disch := omega) only [uF_e, uF_o, uF_k, uG_e, uG_o, uN_e, uN_k, true_or, or_true]
      exact hu j hj
    · intro j hj
      try simp (disch := omega) only [uF_e, uF_o, uF_k, uG_e, uG_o, uN_e, uN_k, true_or, or_true] at hj
      try simp (disch := omega) only [uF_e, uF_o, uF_k, uG_e, uG_o, uN_e, uN_k, true_or, or_true]
      first | exact hq j hj | exact absurd hj (by omega)
    · intro k hk h9
      try simp (disch := omega) only [uF_e, uF_o, uF_k, uG_e, uG_o, uN_e, uN_k, true_or, or_true]
      exact ht k hk h9
    · intro k hk
      try simp (disch := omega) only [uF_e, uF_o, uF_k, uG_e, uG_o, uN_e, uN_k, true_or, or_true]
      exact hw k hk
    · intro k hk
      try simp (disch := omega) only [uF_e, uF_o, uF_k, uG_e, uG_o, uN_e, uN_k, true_or, or_true]
      exact hp k hk
    · intro k hk h2
      try simp (disch := omega) only [uF_e, uF_o, uF_k, uG_e, uG_o, uN_e, uN_k, true_or, or_true] at h2
      try simp (disch := omega) only [uF_e, uF_o, uF_k, uG_e, uG_o, uN_e, uN_k, true_or, or_true]
      exact hg k hk h2
    · intro h1
      try simp (disch := omega) only [uF_e, uF_o, uF_k, uG_e, uG_o, uN_e, uN_k, true_or, or_true] at h1
      try simp (disch := omega) only [uF_e, uF_o, uF_k, uG_e, uG_o, uN_e, uN_k, true_or, or_true]
      first | exact hl h1 | exact absurd h1 (by decide)
    · unfold RFd
      try simp (disch := omega) only [uF_e, uF_o, uF_k, uG_e, uG_o, uN_e, uN_k, true_or, or_true]
      exact hd
theorem p_turn (hC : CT S r q T M π μ) {k : Int} (hk : 0 ≤ k ∧ k < π 0 10) : f_X12_doesTurn_p4_0 (wA T M 6 N) M k = some (if 8 ≤ π 5 k.toNat then 1 else 0, wA T M 6 N) := by
  have p0 := pr_n (ct_R hC)
  have hk1 : (k.toNat : Int) < π 0 10 := by omega
  have k1 := (pr_k (ct_R hC) hk1).1
  have a1 := (pm_k (ct_M hC) hk1).1
  unfold f_X12_doesTurn_p4_0
  simp (disch := omega) only [lt1_e, bd_e, bd2_e, sR_g, sR_w, sR_a, sR_s, wN_g, wN_w, wN_s, ct_p hC, ct_q hC, ct_m hC, ckI_e, wr_e, ite_not, uF_e, uF_o, uF_k, uG_e, uG_o, uN_e, uN_k, a1]
  by_cases c : 8 ≤ π 5 k.toNat
  · rw [if_pos c, if_neg (show ¬ π 5 k.toNat < 8 by omega)]
  · rw [if_neg c, if_pos (show π 5 k.toNat < 8 by omega)]
theorem osm_r {π : xR} (hR : PR π) (a : Nat) : ∀ m : Nat, (a : Int) + m ≤ π 0 10 → 0 ≤ osm π a m ∧ osm π a m ≤ 4 * m := by
  intro m
  induction m with
  | zero => intro _; exact ⟨Int.le_refl 0, by show (0 : Int) ≤ 4 * (0 : Nat); decide⟩
  | succ m ih =>
    intro h
    have h1 := ih (by omega)
    have hk : ((a + m : Nat) : Int) < π 0 10 := by omega
    have g := pr_k hR hk
    have gt := tb1_r (π 5 (a + m)).toNat (by have := g.1; omega)
    have g10 := g.2.2.2.2.2.1
    show 0 ≤ osm π a m + π 10 (a + m) ∧ osm π a m + π 10 (a + m) ≤ 4 * ((m + 1 : Nat) : Int)
    omega
theorem p_osum_b (hC : CT S r q T M π μ) {a b : Int} (ha : 0 ≤ a) (hb : b < π 0 10) : ∀ (d : Nat) (i : Nat) (f : Nat), a + i + d = b + 1 → d < f → f_X12_opsOfLoop_p4_0_b5 M f (wA T M 6 N) b (osm π a.toNat i) (a + i) = some (osm π a.toNat (i + d), wA T M 6 N) := by
  have p0 := pr_n (ct_R hC)
  intro d
  induction d with
  | zero =>
    intro i f h hf
    obtain ⟨f, rfl⟩ := fs_e (show 0 < f by omega)
    rw [f_X12_opsOfLoop_p4_0_b5]
    simp (disch := omega) only [wr_e]
    rw [if_pos (by omega)]
    rfl
  | succ d ih =>
    intro i f h hf
    obtain ⟨f, rfl⟩ := fs_e (show 0 < f by omega)
    rw [f_X12_opsOfLoop_p4_0_b5]
    simp (disch := omega) only [wr_e]
    rw [if_neg (by omega), (p_ops hC (k := a + i) (by omega)).2]
    simp only [bd2_e]
    have k := ih (i + 1) f (by omega) (by omega)
    rw [show a + ((i + 1 : Nat) : Int) = a + i + 1 by omega, show i + 1 + d = i + (d + 1) by omega] at k
    rw [← k]
    show _ = f_X12_opsOfLoop_p4_0_b5 M f (wA T M 6 N) b (osm π a.toNat i + π 10 (a.toNat + i)) (a + i + 1)
    rw [show (a + (i : Int)).toNat = a.toNat + i by omega]
theorem p_osum (hC : CT S r q T M π μ) {a b : Int} (ha : 0 ≤ a) (hab : a ≤ b + 1) (hb : b < π 0 10) : f_X12_opsOfLoop_p4_0 (wA T M 6 N) M a b = some (osm π a.toNat (b + 1 - a).toNat, wA T M 6 N) := by
  have p0 := pr_n (ct_R hC)
  have k := p_osum_b (N := N) hC ha hb (b + 1 - a).toNat 0 (fu T) (by omega) (by have := ct_fT hC; omega)
  rw [show a + ((0 : Nat) : Int) = a by omega, Nat.zero_add] at k
  exact k
theorem p_isl_b (hC : CT S r q T M π μ) (hF : RF π B e w o F N) {l : Int} (hl2 : 0 ≤ l ∧ l < π 0 10) (h8 : 8 ≤ π 5 l.toNat) : ∀ (d : Nat) (x : Int) (f : Nat), 0 ≤ x → x + d = l → d < f → π 11 l.toNat ≤ x →
    ∃ z, f_X12_isLoop_p4_0_b27 M f (wA T M 6 N) l x = some (z, wA T M 6 N) ∧ ((∀ j : Nat, x ≤ (j : Int) → (j : Int) < l → π 5 j < 8) → z = if F 1 5 < osm π (π 11 l.toNat).toNat (l + 1 - π 11 l.toNat).toNat then 0 else 1) ∧ ((¬ ∀ j : Nat, x ≤ (j : Int) → (j : Int) < l → π 5 j < 8) → z = 0) := by
  have p0 := pr_n (ct_R hC)
  have e2 := hF.1.2.2.1
  have r2 := hF.2.1.2.2.1
  have hk1 : (l.toNat : Int) < π 0 10 := by omega
  have t1 := (pr_k (ct_R hC) hk1).2.2.1 h8
  have a3 := (pm_k (ct_M hC) hk1).2.2.1
  intro d
  induction d with
  | zero =>
    intro x f hx h hf ht
    obtain ⟨f, rfl⟩ := fs_e (show 0 < f by omega)
    have o1 := osm_r (ct_R hC) (π 11 l.toNat).toNat (l + 1 - π 11 l.toNat).toNat (by omega)
    rw [f_X12_isLoop_p4_0_b27]
    simp (disch := omega) only [lt1_e, bd_e, bd2_e, sR_g, sR_w, sR_a, sR_s, wN_g, wN_w, wN_s, ct_p hC, ct_q hC, ct_m hC, ckI_e, wr_e, ite_not, uF_e, uF_o, uF_k, uG_e, uG_o, uN_e, uN_k, a3]
    rw [if_pos (by omega), p_osum hC t1.1 (by omega) hl2.2]
    simp only [bd2_e]
    simp (disch := omega) only [lt1_e, bd_e, bd2_e, sR_g, sR_w, sR_a, sR_s, wN_g, wN_w, wN_s, ct_p hC, ct_q hC, ct_m hC, ckI_e, wr_e, ite_not, uF_e, uF_o, uF_k, uG_e, uG_o, uN_e, uN_k, e2]
    have hall : ∀ j : Nat, x ≤ (j : Int) → (j : Int) < l → π 5 j < 8 := fun j h1 h2 => absurd h2 (by omega)
    by_cases c : F 1 5 < osm π (π 11 l.toNat).toNat (l + 1 - π 11 l.toNat).toNat
    · rw [if_pos c]
      exact ⟨0, rfl, fun _ => (if_pos c).symm, fun h => absurd hall h⟩
    · rw [if_neg c]
      exact ⟨1, rfl, fun _ => (if_neg c).symm, fun h => absurd hall h⟩
  | succ d ih =>
    intro x f hx h hf ht
    obtain ⟨f, rfl⟩ := fs_e (show 0 < f by omega)
    rw [f_X12_isLoop_p4_0_b27]
    simp (disch := omega) only [wr_e]
    rw [if_neg (by omega), p_turn hC (show 0 ≤ x ∧ x < π 0 10 by omega)]
    simp only [bd2_e]
    by_cases c : 8 ≤ π 5 x.toNat
    · rw [if_pos c, wr_e (by decide), if_neg (by decide)]
      refine ⟨0, rfl, fun hall => ?_, fun _ => rfl⟩
      have := hall x.toNat (by omega) (by omega)
      omega
    · rw [if_neg c, wr_e (by decide), if_pos rfl]
      obtain ⟨z, i1, i2, i3⟩ := ih (x + 1) f (by omega) (by omega) (by omega) (by omega)
      have he : (∀ j : Nat, x + 1 ≤ (j : Int) → (j : Int) < l → π 5 j < 8) → (∀ j : Nat, x ≤ (j : Int) → (j : Int) < l → π 5 j < 8) := by
        intro hall j h1 h2
        by_cases e9 : j = x.toNat
        · subst e9
          omega
        · exact hall j (by omega) h2
      exact ⟨z, i1, fun hall => i2 (fun j h1 h2 => hall j (by omega) h2), fun h => i3 (fun hall => h (he hall))⟩
theorem p_loop (hC : CT S r q T M π μ) (hF : RF π B e w o F N) {l : Int} (hl2 : 0 ≤ l ∧ l < π 0 10) : ∃ z, (z = 0 ∨ z = 1) ∧ (z = 1 → lpk π l.toNat) ∧ f_X0_closesLoop_p1_0 (sR S r F) r l = some (z, sR S r F) ∧ f_X12_isLoop_p4_0 (wA T M 6 N) M l = some (z, wA T M 6 N) := by
  have p0 := pr_n (ct_R hC)
  have e2 := hF.1.2.2.1
  have r2 := hF.2.1.2.2.1
  have hk1 : (l.toNat : Int) < π 0 10 := by omega
  have pk := pr_k (ct_R hC) hk1
  have a3 := (pm_k (ct_M hC) hk1).2.2.1
  obtain ⟨k1, -, k3, k4, -, -, -, k8, k9⟩ := pk
  unfold f_X12_isLoop_p4_0
  rw [p_turn hC hl2]
  simp only [bd2_e]
  by_cases c8 : 8 ≤ π 5 l.toNat
  · have t1 := k3 c8
    rw [if_pos c8, wr_e (by decide), if_neg (by decide)]
    have hcl : ∀ y : Int, π 12 l.toNat = y → (-1 ≤ y ∧ y ≤ 1000) → f_X0_closesLoop_p1_0 (sR S r F) r l = some (if y = -1 then 0 else if F 1 5 < y then 0 else 1, sR S r F) := by
      intro y hy hy2
      unfold f_X0_closesLoop_p1_0
      simp (disch := omega) only [lt1_e, bd_e, bd2_e, sR_g, sR_w, sR_a, sR_s, wN_g, wN_w, wN_s, ct_p hC, ct_q hC, ct_m hC, ckI_e, wr_e, ite_not, uF_e, uF_o, uF_k, uG_e, uG_o, uN_e, uN_k, hy]
      rw [if_neg (show ¬ l < 0 by omega), if_pos hl2.2]
      by_cases c : y = -1
      · rw [if_pos c, if_pos c]
      · rw [if_neg c, if_neg c]
        by_cases c2 : F 1 5 < y
        · rw [if_pos c2, if_pos c2]
        · rw [if_neg c2, if_neg c2]
    by_cases ct : π 11 l.toNat ≤ l
    · simp (disch := omega) only [lt1_e, bd_e, bd2_e, sR_g, sR_w, sR_a, sR_s, wN_g, wN_w, wN_s, ct_p hC, ct_q hC, ct_m hC, ckI_e, wr_e, ite_not, uF_e, uF_o, uF_k, uG_e, uG_o, uN_e, uN_k, a3]
      obtain ⟨z, i1, i2, i3⟩ := p_isl_b hC hF hl2 c8 (l - π 11 l.toNat).toNat (π 11 l.toNat) (fu T) (by omega) (by omega) (by have := ct_fT hC; omega) (by omega)
      rw [if_pos ct, wN_fu, i1]
      have o1 := osm_r (ct_R hC) (π 11 l.toNat).toNat (l + 1 - π 11 l.toNat).toNat (by omega)
      by_cases cl : lpk π l.toNat
      · have e12 := k8 cl
        rw [show l.toNat + 1 - (π 11 l.toNat).toNat = (l + 1 - π 11 l.toNat).toNat by omega] at e12
        have ez := i2 (fun j h1 h2 => cl.2.2 j h1 (by omega))
        have h9 := hcl _ e12 (by omega)
        rw [if_neg (by omega), ← ez] at h9
        refine ⟨z, ?_, fun _ => cl, h9, rfl⟩
        rw [ez]
        split
        · exact Or.inl rfl
        · exact Or.inr rfl
      · have ez := i3 (fun h => cl ⟨c8, by omega, fun j h1 h2 => h j h1 (by omega)⟩)
        have h9 := hcl _ (k9 cl) (by omega)
        rw [if_pos rfl] at h9
        rw [ez]
        exact ⟨0, Or.inl rfl, fun h => absurd h (by decide), h9, rfl⟩
    · simp (disch := omega) only [lt1_e, bd_e, bd2_e, sR_g, sR_w, sR_a, sR_s, wN_g, wN_w, wN_s, ct_p hC, ct_q hC, ct_m hC, ckI_e, wr_e, ite_not, uF_e, uF_o, uF_k, uG_e, uG_o, uN_e, uN_k, a3]
      rw [if_neg ct]
      have h9 := hcl _ (k9 (fun h => ct (by have := h.2.1; omega))) (by omega)
      rw [if_pos rfl] at h9
      exact ⟨0, Or.inl rfl, fun h => absurd h (by decide), h9, rfl⟩
  · rw [if_neg c8, wr_e (by decide), if_pos rfl]
    refine ⟨0, Or.inl rfl, fun h => absurd h (by decide), ?_, rfl⟩
    have e12 := k9 (fun h => c8 h.1)
    unfold f_X0_closesLoop_p1_0
    simp (disch := omega) only [lt1_e, bd_e, bd2_e, sR_g, sR_w, sR_a, sR_s, wN_g, wN_w, wN_s, ct_p hC, ct_q hC, ct_m hC, ckI_e, wr_e, ite_not, uF_e, uF_o, uF_k, uG_e, uG_o, uN_e, uN_k, e12]
    rw [if_neg (show ¬ l < 0 by omega), if_pos hl2.2, if_pos trivial]
theorem p_turns (hC : CT S r q T M π μ) (hF : RF π B e w o F N) {l : Int} (hl2 : 0 ≤ l ∧ l < π 0 10) (h8 : 8 ≤ π 5 l.toNat) : f_X12_turns_p4_0 (wA T M 6 N) M l = some (gtV π (F 10) l.toNat, wA T M 6 (if π 5 l.toNat = 9 then uN (uN N (83 + l.toNat) (if F 10 l.toNat < π 8 l.toNat then F 10 l.toNat + 1 else 0)) (143 + l.toNat) (gtV π (F 10) l.toNat) else N)) := by
  have p0 := pr_n (ct_R hC)
  have ht := hF.2.2.2.2.2.1
  have hk1 : (l.toNat : Int) < π 0 10 := by omega
  obtain ⟨k1, -, -, -, k5, -⟩ := pr_k (ct_R hC) hk1
  obtain ⟨a1, -, -, a4⟩ := pm_k (ct_M hC) hk1
  have ea : (83 + l).toNat = 83 + l.toNat := by omega
  have eb : (143 + l).toNat = 143 + l.toNat := by omega
  unfold f_X12_turns_p4_0 f_X12_turns_p4_0_b29 f_X12_turns_p4_0_b34 f_X12_turns_p4_0_b73 gtV
  by_cases c : π 5 l.toNat = 8
  · simp (disch := omega) only [lt1_e, bd_e, bd2_e, sR_g, sR_w, sR_a, sR_s, wN_g, wN_w, wN_s, ct_p hC, ct_q hC, ct_m hC, ckI_e, wr_e, ite_not, uF_e, uF_o, uF_k, uG_e, uG_o, uN_e, uN_k, a1]
    rw [if_pos c, if_pos c, if_neg (show ¬ π 5 l.toNat = 9 by omega), if_neg (show ¬ π 5 l.toNat = 9 by omega), ckB_e (Or.inr rfl)]
  · have c9 : π 5 l.toNat = 9 := by omega
    have t1 := ht l.toNat hk1 c9
    have t2 := k5 c9
    have a4' := a4 c9
    have t3 := t1.1
    simp (disch := omega) only [lt1_e, bd_e, bd2_e, sR_g, sR_w, sR_a, sR_s, wN_g, wN_w, wN_s, ct_p hC, ct_q hC, ct_m hC, ckI_e, wr_e, ite_not, uF_e, uF_o, uF_k, uG_e, uG_o, uN_e, uN_k, a1, ea, eb, a4', t3]
    simp only [if_neg c, if_pos c9]
    by_cases d : π 8 l.toNat ≤ F 10 l.toNat
    · simp only [if_pos d, if_neg (show ¬ F 10 l.toNat < π 8 l.toNat by omega), if_pos, ckB_e (show (0 : Int) = 0 ∨ (0 : Int) = 1 from Or.inl rfl)]
    · simp only [if_neg d, if_pos (show F 10 l.toNat < π 8 l.toNat by omega), if_neg (show ¬ (1 : Int) = 0 by decide), ckB_e (show (1 : Int) = 0 ∨ (1 : Int) = 1 from Or.inr rfl)]
end C7
