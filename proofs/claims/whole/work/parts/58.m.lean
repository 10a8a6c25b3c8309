/-! mathematics: at, counts over the program, causes, the latest -/
section E4
variable {m : Nat} {S : xSt} {i : Int}
theorem k_at (hI : INV m S) (hi : wr i = i) : CALL m S (f_X11_at_p3_0 S 0 i) (fun T => f_X12_at_p4_0 T 13 i) (fun v v' _ => wr v = wr v') := by
  obtain ⟨q, F, X, π, μ, hμ, gF, gX, gQ, gP4, gkq, hR, hM, hF, hn, hio, hSe, hct, hfu, hhi, hsv⟩ := inv_all hI
  have p0 := hR.1
  have m1 := hM.1
  have hi2 := wr_r hi
  have hC := hct S μ hfu hM
  by_cases c : 0 ≤ i
  · have hloop : ∀ (d : Nat) (x : Int), 0 ≤ x → x + d = π 0 10 → ∃ v, (∀ f : Nat, d < f → f_X11_at_p3_0_b8 0 f S i x = some (v, S)) ∧ ∀ (T : xSt) (f : Nat), d < f → f_X12_at_p4_0_b13 13 f (sR T 13 (uF μ 0 0 0)) i x = some (v, sR T 13 (uF μ 0 0 0)) := by
      intro d
      induction d with
      | zero =>
        intro x hx hd
        refine ⟨-1, fun f hf => ?_, fun T f hf => ?_⟩
        · obtain ⟨f, rfl⟩ := fs_e (show 0 < f by omega)
          rw [f_X11_at_p3_0_b8, ckP_e gP4 gkq, gQ _ _ (by decide), wr_e (z := π 0 10) (by omega), wr_e (z := x) (by omega), if_pos (by omega)]
        · obtain ⟨f, rfl⟩ := fs_e (show 0 < f by omega)
          rw [f_X12_at_p4_0_b13, sR_g, uF_k (by decide), m1, wr_e (z := π 0 10) (by omega), wr_e (z := x) (by omega), if_pos (by omega)]
      | succ d ih =>
        intro x hx hd
        obtain ⟨v, i1, i2⟩ := ih (x + 1) (by omega) (by omega)
        have s1 := pm_s hM (show ((x + 1).toNat : Int) ≤ π 0 10 by omega)
        have st := p_start (F := F) hC (a := x + 1) (by omega)
        rw [hSe] at st
        refine ⟨if wr (π 9 (x + 1).toNat) ≤ i then v else x, fun f hf => ?_, fun T f hf => ?_⟩
        · obtain ⟨f, rfl⟩ := fs_e (show 0 < f by omega)
          rw [f_X11_at_p3_0_b8, ckP_e gP4 gkq, gQ _ _ (by decide), wr_e (z := π 0 10) (by omega), wr_e (z := x) (by omega), if_neg (by omega), ckP_e gP4 gkq, st]
          simp only [bd2_e]
          rw [hi]
          by_cases c2 : wr (π 9 (x + 1).toNat) ≤ i
          · rw [if_pos c2, if_pos c2, i1 f (by omega)]
          · rw [if_neg c2, if_neg c2]
        · obtain ⟨f, rfl⟩ := fs_e (show 0 < f by omega)
          rw [f_X12_at_p4_0_b13, sR_g, uF_k (by decide), m1, wr_e (z := π 0 10) (by omega), wr_e (z := x) (by omega), if_neg (by omega), ckI_e (by omega), wr_e (z := x + 1) (by omega), sR_g, uF_o (by decide), s1, hi]
          by_cases c2 : wr (π 9 (x + 1).toNat) ≤ i
          · rw [if_pos c2, if_pos c2, i2 T f (by omega)]
          · rw [if_neg c2, if_neg c2]
    obtain ⟨v, i1, i2⟩ := hloop (π 0 10).toNat 0 (by omega) (by omega)
    refine callR hI (v := v) (v' := v) (z := 0) ?_ (fun T hT => ?_) rfl
    · unfold f_X11_at_p3_0
      rw [hi, if_pos c, i1 _ (by omega)]
    · rw [hμ]
      unfold f_X12_at_p4_0
      rw [lt1_e, hi, if_pos c, sR_w, sR_fu, i2 T _ (by omega)]
  · refine callR hI (v := -1) (v' := -1) (z := 0) ?_ (fun T hT => ?_) rfl
    · unfold f_X11_at_p3_0
      rw [hi, if_neg c]
    · rw [hμ]
      unfold f_X12_at_p4_0
      rw [lt1_e, hi, if_neg c, sR_w]
theorem k_fusable (hI : INV m S) : CALL m S (f_X11_fusable_p3_0 S 0) (fun T => f_X12_fusable_p4_0 T 13) (fun v v' _ => wr v = wr v') := by
  obtain ⟨q, F, X, π, μ, hμ, gF, gX, gQ, gP4, gkq, hR, hM, hF, hn, hio, hSe, hct, hfu, hhi, hsv⟩ := inv_all hI
  have p0 := hR.1
  have m1 := hM.1
  have hC := hct S (uF μ 0 0 0) hfu (pm_told hM)
  have hF9 : RF π (BB m) 0 0 0 F ((uF μ 0 0 0) 6) := by
    rw [uF_6]
    exact hF
  have hloop : ∀ (d : Nat) (x n : Int), 0 ≤ x → x + d = π 0 10 → ∃ v, (∀ f : Nat, d < f → f_X11_fusable_p3_0_b4 0 f S n x = some (v, S)) ∧ ∀ (T : xSt) (f : Nat), 10000000 ≤ fu T → d < f → f_X12_fusable_p4_0_b9 13 f (sR T 13 (uF μ 0 0 0)) n x = some (v, sR T 13 (uF μ 0 0 0)) := by
    intro d
    induction d with
    | zero =>
      intro x n hx hd
      refine ⟨n, fun f hf => ?_, fun T f hT hf => ?_⟩
      · obtain ⟨f, rfl⟩ := fs_e (show 0 < f by omega)
        rw [f_X11_fusable_p3_0_b4, ckP_e gP4 gkq, gQ _ _ (by decide), wr_e (z := π 0 10) (by omega), wr_e (z := x) (by omega), if_pos (by omega)]
      · obtain ⟨f, rfl⟩ := fs_e (show 0 < f by omega)
        rw [f_X12_fusable_p4_0_b9, sR_g, uF_k (by decide), m1, wr_e (z := π 0 10) (by omega), wr_e (z := x) (by omega), if_pos (by omega)]
    | succ d ih =>
      intro x n hx hd
      have hx2 : 0 ≤ x ∧ x < π 0 10 := by omega
      obtain ⟨v, hv, -, i1, i2⟩ := p_fuse hC hF9 hx2
      rw [hSe] at i1
      obtain ⟨w, a1, a2⟩ := ih (x + 1) (if v = 0 then n else n + 1) (by omega) (by omega)
      refine ⟨w, fun f hf => ?_, fun T f hT hf => ?_⟩
      · obtain ⟨f, rfl⟩ := fs_e (show 0 < f by omega)
        rw [f_X11_fusable_p3_0_b4, ckP_e gP4 gkq, gQ _ _ (by decide), wr_e (z := π 0 10) (by omega), wr_e (z := x) (by omega), if_neg (by omega), i1]
        simp only [bd2_e]
        rw [wr_e (z := v) (by omega)]
        have h9 := a1 f (by omega)
        by_cases c : v = 0
        · rw [if_pos c] at h9
          rw [if_pos c, h9]
        · rw [if_neg c] at h9
          rw [if_neg c, h9]
      · obtain ⟨f, rfl⟩ := fs_e (show 0 < f by omega)
        obtain ⟨v2, hv2, -, j1, j2⟩ := p_fuse (hct T (uF μ 0 0 0) hT (pm_told hM)) hF9 hx2
        rw [hSe] at j1
        have ev : v2 = v := congrArg Prod.fst (Option.some.inj (j1.symm.trans i1))
        subst ev
        rw [wN_i] at j2
        rw [f_X12_fusable_p4_0_b9, sR_g, uF_k (by decide), m1, wr_e (z := π 0 10) (by omega), wr_e (z := x) (by omega), if_neg (by omega), j2]
        simp only [bd2_e, ite_not]
        rw [wr_e (z := v2) (by omega)]
        have h9 := a2 T f hT (by omega)
        by_cases c : v2 = 0
        · rw [if_pos c] at h9
          rw [if_pos c, h9]
        · rw [if_neg c] at h9
          rw [if_neg c, h9]
  obtain ⟨v, i1, i2⟩ := hloop (π 0 10).toNat 0 0 (by omega) (by omega)
  refine callR hI (v := v) (v' := v) (z := 0) ?_ (fun T hT => ?_) rfl
  · unfold f_X11_fusable_p3_0
    rw [i1 _ (by omega)]
  · rw [hμ]
    unfold f_X12_fusable_p4_0
    rw [lt1_e, sR_w, sR_fu, i2 T _ hT (by omega)]
theorem k_crossing (hI : INV m S) : CALL m S (f_X11_crossing_p3_0 S 0) (fun T => f_X12_crossing_p4_0 T 13) (fun v v' _ => wr v = wr v') := by
  obtain ⟨q, F, X, π, μ, hμ, gF, gX, gQ, gP4, gkq, hR, hM, hF, hn, hio, hSe, hct, hfu, hhi, hsv⟩ := inv_all hI
  have p0 := hR.1
  have m1 := hM.1
  have hC := hct S (uF μ 0 0 0) hfu (pm_told hM)
  have hF9 : RF π (BB m) 0 0 0 F ((uF μ 0 0 0) 6) := by
    rw [uF_6]
    exact hF
  have hloop : ∀ (d : Nat) (x n : Int), 0 ≤ x → x + d = π 0 10 → ∃ v, (∀ f : Nat, d < f → f_X11_crossing_p3_0_b4 0 f S n x = some (v, S)) ∧ ∀ (T : xSt) (f : Nat), 10000000 ≤ fu T → d < f → f_X12_crossing_p4_0_b9 13 f (sR T 13 (uF μ 0 0 0)) n x = some (v, sR T 13 (uF μ 0 0 0)) := by
    intro d
    induction d with
    | zero =>
      intro x n hx hd
      refine ⟨n, fun f hf => ?_, fun T f hT hf => ?_⟩
      · obtain ⟨f, rfl⟩ := fs_e (show 0 < f by omega)
        rw [f_X11_crossing_p3_0_b4, ckP_e gP4 gkq, gQ _ _ (by decide), wr_e (z := π 0 10) (by omega), wr_e (z := x) (by omega), if_pos (by omega)]
      · obtain ⟨f, rfl⟩ := fs_e (show 0 < f by omega)
        rw [f_X12_crossing_p4_0_b9, sR_g, uF_k (by decide), m1, wr_e (z := π 0 10) (by omega), wr_e (z := x) (by omega), if_pos (by omega)]
    | succ d ih =>
      intro x n hx hd
      have hx2 : 0 ≤ x ∧ x < π 0 10 := by omega
      obtain ⟨v, hv, i1, i2⟩ := p_cross (F := F) (N := (uF μ 0 0 0) 6) hC hx2
      rw [hSe] at i1
      obtain ⟨w, a1, a2⟩ := ih (x + 1) (if v = 0 then n else n + 1) (by omega) (by omega)
      refine ⟨w, fun f hf => ?_, fun T f hT hf => ?_⟩
      · obtain ⟨f, rfl⟩ := fs_e (show 0 < f by omega)
        rw [f_X11_crossing_p3_0_b4, ckP_e gP4 gkq, gQ _ _ (by decide), wr_e (z := π 0 10) (by omega), wr_e (z := x) (by omega), if_neg (by omega), ckP_e gP4 gkq, i1]
        simp only [bd2_e]
        rw [wr_e (z := v) (by omega)]
        have h9 := a1 f (by omega)
        by_cases c : v = 0
        · rw [if_pos c] at h9
          rw [if_pos c, h9]
        · rw [if_neg c] at h9
          rw [if_neg c, h9]
      · obtain ⟨f, rfl⟩ := fs_e (show 0 < f by omega)
        obtain ⟨v2, hv2, j1, j2⟩ := p_cross (F := F) (N := (uF μ 0 0 0) 6) (hct T (uF μ 0 0 0) hT (pm_told hM)) hx2
        rw [hSe] at j1
        have ev : v2 = v := congrArg Prod.fst (Option.some.inj (j1.symm.trans i1))
        subst ev
        rw [wN_i] at j2
        rw [f_X12_crossing_p4_0_b9, sR_g, uF_k (by decide), m1, wr_e (z := π 0 10) (by omega), wr_e (z := x) (by omega), if_neg (by omega), j2]
        simp only [bd2_e]
        rw [wr_e (z := v2) (by omega)]
        have h9 := a2 T f hT (by omega)
        by_cases c : v2 = 0
        · rw [if_pos c] at h9
          rw [if_pos c, h9]
        · rw [if_neg c] at h9
          rw [if_neg c, h9]
  obtain ⟨v, i1, i2⟩ := hloop (π 0 10).toNat 0 0 (by omega) (by omega)
  refine callR hI (v := v) (v' := v) (z := 0) ?_ (fun T hT => ?_) rfl
  · unfold f_X11_crossing_p3_0
    rw [i1 _ (by omega)]
  · rw [hμ]
    unfold f_X12_crossing_p4_0
    rw [lt1_e, sR_w, sR_fu, i2 T _ hT (by omega)]
theorem k_ofKind {z : Int} (hI : INV m S) (hi : wr i = i) (hz : z = 0 ∨ z = 1) : CALL m S (f_X11_ofKind_p3_0 S 0 i z) (fun T => f_X12_ofKind_p4_0 T 13 i z) (XR (KE 2)) := by
  obtain ⟨q, F, X, π, μ, hμ, gF, gX, gQ, gP4, gkq, hR, hM, hF, hn, hio, hSe, hct, hfu, hhi, hsv⟩ := inv_all hI
  have p0 := hR.1
  have m1 := hM.1
  have hp := hF.2.2.2.2.2.2.2.1
  have hi2 := wr_r hi
  by_cases c : 0 ≤ i ∧ i ≤ 9
  · have hloop : ∀ (d : Nat) (x n : Int), 0 ≤ x → x + d = π 0 10 → ∃ v, (∀ f : Nat, d < f → f_X11_ofKind_p3_0_b25 0 f S i z n x = some (.inl v, S)) ∧ ∀ (T : xSt) (f : Nat), 10000000 ≤ fu T → d < f → f_X12_ofKind_p4_0_b23 13 f (sR T 13 (uF μ 0 0 (1 - 1))) i z n x = some (v, sR T 13 (uF μ 0 0 (1 - 1))) := by
      intro d
      induction d with
      | zero =>
        intro x n hx hd
        refine ⟨n, fun f hf => ?_, fun T f hT hf => ?_⟩
        · obtain ⟨f, rfl⟩ := fs_e (show 0 < f by omega)
          rw [f_X11_ofKind_p3_0_b25, ckP_e gP4 gkq, gQ _ _ (by decide), wr_e (z := π 0 10) (by omega), wr_e (z := x) (by omega), if_pos (by omega)]
        · obtain ⟨f, rfl⟩ := fs_e (show 0 < f by omega)
          rw [f_X12_ofKind_p4_0_b23, sR_g, uF_k (by decide), m1, wr_e (z := π 0 10) (by omega), wr_e (z := x) (by omega), if_pos (by omega)]
      | succ d ih =>
        intro x n hx hd
        have hk1 : (x.toNat : Int) < π 0 10 := by omega
        have k1 := (pr_k hR hk1).1
        have a1' := (pm_k hM hk1).1
        have q1 := (hp x.toNat (by omega)).1
        obtain ⟨w, a1, a2⟩ := ih (x + 1) (if π 5 x.toNat = i then (if z = 0 then n + 1 else n + F 17 x.toNat) else n) (by omega) (by omega)
        refine ⟨w, fun f hf => ?_, fun T f hT hf => ?_⟩
        · obtain ⟨f, rfl⟩ := fs_e (show 0 < f by omega)
          rw [f_X11_ofKind_p3_0_b25, ckP_e gP4 gkq, gQ _ _ (by decide), wr_e (z := π 0 10) (by omega), wr_e (z := x) (by omega), if_neg (by omega), ckP_e gP4 gkq, ckI_e (by omega), gQ _ _ (by decide), wr_e (z := π 5 x.toNat) (by omega), hi, wr_e (z := z) (by omega), ckI_e (by omega), gF]
          have h9 := a1 f (by omega)
          by_cases c2 : π 5 x.toNat = i
          · rw [if_pos c2] at h9
            rw [if_neg (fun h => h c2)]
            by_cases c3 : z = 0
            · rw [if_pos c3] at h9
              rw [if_pos c3, h9]
            · rw [if_neg c3] at h9
              rw [if_neg c3, h9]
          · rw [if_neg c2] at h9
            rw [if_pos c2, h9]
        · obtain ⟨f, rfl⟩ := fs_e (show 0 < f by omega)
          rw [f_X12_ofKind_p4_0_b23, sR_g, uF_k (by decide), m1, wr_e (z := π 0 10) (by omega), wr_e (z := x) (by omega), if_neg (by omega), ckI_e (by omega), sR_g, uF_o (by decide), a1', wr_e (z := π 5 x.toNat) (by omega), hi, wr_e (z := z) (by omega), ckI_e (by omega), wr_e (z := 203 + x) (by omega), sR_g, uF_o (by decide), show (203 + x).toNat = 203 + x.toNat by omega, q1]
          have h9 := a2 T f hT (by omega)
          by_cases c2 : π 5 x.toNat = i
          · rw [if_pos c2] at h9
            rw [if_neg (fun h => h c2)]
            by_cases c3 : z = 0
            · rw [if_pos c3] at h9
              rw [if_pos c3, h9]
            · rw [if_neg c3] at h9
              rw [if_neg c3, h9]
          · rw [if_neg c2] at h9
            rw [if_pos c2, h9]
    obtain ⟨v, i1, i2⟩ := hloop (π 0 10).toNat 0 0 (by omega) (by omega)
    refine callR hI (v := .inl v) (v' := v) (z := 1 - 1) ?_ (fun T hT => ?_) ⟨rfl, uF_e⟩
    · unfold f_X11_ofKind_p3_0
      rw [hi, if_neg (show ¬ i < 0 by omega), wr_e (z := 10) (by decide), if_pos (show i < 10 by omega), i1 _ (by omega)]
    · rw [hμ]
      unfold f_X12_ofKind_p4_0
      rw [hi, p_isIn hi2 (by decide) (by decide), if_pos c]
      simp only [bd2_e]
      rw [p_is (Or.inr rfl)]
      simp only [bd2_e]
      rw [if_pos (by decide), sR_fu, i2 T _ hT (by omega)]
  · refine callR hI (v := .inr 2) (v' := 0) (z := 1 - 0) ?_ (fun T hT => ?_) ⟨uF_e.symm, Or.inl rfl⟩
    · unfold f_X11_ofKind_p3_0
      rw [hi, wr_e (z := 10) (by decide)]
      by_cases c2 : i < 0
      · rw [if_pos c2]
      · rw [if_neg c2, if_neg (by omega)]
    · rw [hμ]
      unfold f_X12_ofKind_p4_0
      rw [hi, p_isIn hi2 (by decide) (by decide), if_neg c]
      simp only [bd2_e]
      rw [p_is (Or.inl rfl)]
      simp only [bd2_e]
      rw [if_neg (by decide)]
theorem k_mainCause (hI : INV m S) : CALL m S (f_X11_mainCause_p3_0 S 0) (fun T => f_X12_mainCause_p4_0 T 13) (fun v v' _ => wr v = wr v') := by
  obtain ⟨q, F, X, π, μ, hμ, gF, gX, gQ, gP4, gkq, hR, hM, hF, hn, hio, hSe, hct, hfu, hhi, hsv⟩ := inv_all hI
  have hb := hF.2.2.1
  have hloop : ∀ (d : Nat) (x a b : Int), 1 ≤ x → x + d = 9 → ∃ v, (∀ f : Nat, d < f → f_X9_mostUnusedSince_p1_14_t4_b7 1 f S a b x = some (v, S)) ∧ ∀ (T : xSt) (f : Nat), d < f → f_X12_mainCause_p4_0_b11 13 f (sR T 13 (uF μ 0 0 0)) a b x = some (v, sR T 13 (uF μ 0 0 0)) := by
    intro d
    induction d with
    | zero =>
      intro x a b hx hd
      refine ⟨a, fun f hf => ?_, fun T f hf => ?_⟩
      · obtain ⟨f, rfl⟩ := fs_e (show 0 < f by omega)
        rw [f_X9_mostUnusedSince_p1_14_t4_b7, wr_e (z := 8) (by decide), wr_e (z := x) (by omega), if_pos (by omega)]
      · obtain ⟨f, rfl⟩ := fs_e (show 0 < f by omega)
        rw [f_X12_mainCause_p4_0_b11, wr_e (z := 8) (by decide), wr_e (z := x) (by omega), if_pos (by omega)]
    | succ d ih =>
      intro x a b hx hd
      have q1 := hb x.toNat (by omega) (by omega)
      obtain ⟨w1, a1, a2⟩ := ih (x + 1) a b (by omega) (by omega)
      obtain ⟨w2, b1, b2⟩ := ih (x + 1) x (F 16 x.toNat) (by omega) (by omega)
      refine ⟨if wr (F 16 x.toNat) ≤ wr b then w1 else w2, fun f hf => ?_, fun T f hf => ?_⟩
      · obtain ⟨f, rfl⟩ := fs_e (show 0 < f by omega)
        rw [f_X9_mostUnusedSince_p1_14_t4_b7, wr_e (z := 8) (by decide), wr_e (z := x) (by omega), if_neg (by omega), wr_e (z := 9) (by decide), if_neg (by omega), ckI_e (by omega), ckI_e (by omega), gF, tb4 _ (by omega), Int.sub_zero]
        by_cases c : wr (F 16 x.toNat) ≤ wr b
        · rw [if_pos c, if_pos c, a1 f (by omega)]
        · rw [if_neg c, if_neg c, b1 f (by omega)]
      · obtain ⟨f, rfl⟩ := fs_e (show 0 < f by omega)
        rw [f_X12_mainCause_p4_0_b11, wr_e (z := 8) (by decide), wr_e (z := x) (by omega), if_neg (by omega), ckI_e (by omega), ckI_e (by omega), wr_e (z := 25 + x) (by omega), sR_g, uF_o (by decide), show (25 + x).toNat = 25 + x.toNat by omega, q1]
        by_cases c : wr (F 16 x.toNat) ≤ wr b
        · rw [if_neg (by omega), if_pos c, a2 T f (by omega)]
        · rw [if_pos (by omega), if_neg c, b2 T f (by omega)]
  obtain ⟨v, i1, i2⟩ := hloop 8 1 (-1) 0 (by decide) (by decide)
  refine callR hI (v := v) (v' := v) (z := 0) ?_ (fun T hT => ?_) rfl
  · unfold f_X11_mainCause_p3_0 f_X9_mostUnusedSince_p1_14_t4
    rw [i1 _ (by omega)]
    rfl
  · rw [hμ]
    unfold f_X12_mainCause_p4_0
    rw [lt1_e, sR_w, sR_fu, i2 T _ (by omega)]
theorem k_decoded (hI : INV m S) (hm5 : m < 512) (hi : wr i = i) : CALL m S (f_X11_decoded_p3_0 S 0 i) (fun T => f_X12_decoded_p4_0 T 13 i) (XR (KE 4)) := by
  obtain ⟨q, F, X, π, μ, hμ, gF, gX, gQ, gP4, gkq, hR, hM, hF, hn, hio, hSe, hct, hfu, hhi, hsv⟩ := inv_all hI
  have e17 := hF.1.2.2.2.2.2.2.2.2.2.2.2.2.2.2.1
  have r12 := hF.2.1.2.2.2.2.2.2.2.2.2.2.2.2.1
  have hg := hF.2.2.2.2.2.2.2.2.1
  have hi2 := wr_r hi
  have hbb : BB m ≤ 10000000 := by
    unfold BB
    omega
  by_cases c : 0 ≤ i ∧ i < F 15 1 ∧ i < 100
  · have et : Int.tmod (F 15 1 - 1 - i) 100 = (F 15 1 - 1 - i) % 100 := tm100 (by omega)
    have q1 := (hg ((F 15 1 - 1 - i) % 100).toNat (by omega) (by omega)).1
    refine callR hI (v := .inl (F 18 ((F 15 1 - 1 - i) % 100).toNat)) (v' := F 18 ((F 15 1 - 1 - i) % 100).toNat) (z := 1 - 1) ?_ (fun T hT => ?_) ⟨rfl, uF_e⟩
    · unfold f_X11_decoded_p3_0
      rw [hi, gF, wr_e (z := F 15 1) (by omega), wr_e (z := 100) (by decide), if_neg (show ¬ i < 0 by omega), if_neg (show ¬ F 15 1 ≤ i by omega), if_pos c.2.2, wr_e (z := F 15 1 - 1 - i) (by omega), et, ckI_e (by omega), wr_e (z := (F 15 1 - 1 - i) % 100) (by omega), gF]
    · rw [hμ]
      unfold f_X12_decoded_p4_0 f_X12_isLatest_p4_0
      rw [hi, p_isIn hi2 (by decide) (by decide), if_pos (by omega)]
      simp only [bd2_e, sR_g]
      rw [if_neg (by decide), e17, wr_e (z := F 15 1) (by omega), if_neg (show ¬ F 15 1 ≤ i by omega)]
      simp only [bd2_e]
      rw [p_is (Or.inr rfl)]
      simp only [bd2_e]
      rw [if_neg (by decide)]
      unfold f_X12_latest_p4_0
      rw [sR_g, uF_o (by decide), e17, wr_e (z := F 15 1 - 1 - i) (by omega), wr_e (z := 100) (by decide), et, ckI_e (by omega), wr_e (z := 263 + (F 15 1 - 1 - i) % 100) (by omega), sR_g, uF_o (by decide), show (263 + (F 15 1 - 1 - i) % 100).toNat = 263 + ((F 15 1 - 1 - i) % 100).toNat by omega, q1]
      rfl
  · refine callR hI (v := .inr 4) (v' := 0) (z := 1 - 0) ?_ (fun T hT => ?_) ⟨uF_e.symm, Or.inl rfl⟩
    · unfold f_X11_decoded_p3_0
      rw [hi, gF, wr_e (z := F 15 1) (by omega), wr_e (z := 100) (by decide)]
      by_cases c2 : i < 0
      · rw [if_pos c2]
      · rw [if_neg c2]
        by_cases c3 : F 15 1 ≤ i
        · rw [if_pos c3]
        · rw [if_neg c3, if_neg (by omega)]
    · rw [hμ]
      unfold f_X12_decoded_p4_0 f_X12_isLatest_p4_0
      rw [hi, p_isIn hi2 (by decide) (by decide)]
      simp only [bd2_e, sR_g]
      by_cases c2 : 0 ≤ i ∧ i ≤ 99
      · rw [if_pos c2, if_neg (by decide), e17, wr_e (z := F 15 1) (by omega), if_pos (show F 15 1 ≤ i by omega)]
        simp only [bd2_e]
        rw [p_is (Or.inl rfl)]
        simp only [bd2_e]
        rw [if_pos (by decide)]
      · rw [if_neg c2, if_pos (by decide)]
        simp only [bd2_e]
        rw [p_is (Or.inl rfl)]
        simp only [bd2_e]
        rw [if_pos (by decide)]
end E4
