/-! mathematics: more calls that only read -/
section E2
variable {m : Nat} {S : xSt} {i : Int}
theorem k_count (hI : INV m S) (hi : wr i = i) : CALL m S (f_X11_count_p3_0 S 0 i) (fun T => f_X12_count_p4_0 T 13 i) (fun v v' _ => wr v = wr v') := by
  obtain ⟨q, F, X, π, μ, hμ, gF, gX, gQ, gP4, gkq, hR, hM, hF, hn, hio, hSe, hct, hfu, hhi, hsv⟩ := inv_all hI
  have p0 := hR.1
  have m1 := hM.1
  have m2 := hM.2.1
  have m3 := hM.2.2.1
  have m4 := hM.2.2.2.1
  have e0 := hF.1.1
  have e1 := hF.1.2.1
  have e2 := hF.1.2.2.1
  have e3 := hF.1.2.2.2.1
  have e6 := hF.1.2.2.2.2.2.2.1
  have e7 := hF.1.2.2.2.2.2.2.2.1
  have e8 := hF.1.2.2.2.2.2.2.2.2.1
  have e9 := hF.1.2.2.2.2.2.2.2.2.2.1
  have e16 := hF.1.2.2.2.2.2.2.2.2.2.2.2.2.2.1
  have e17 := hF.1.2.2.2.2.2.2.2.2.2.2.2.2.2.2.1
  have e18 := hF.1.2.2.2.2.2.2.2.2.2.2.2.2.2.2.2.1
  have e19 := hF.1.2.2.2.2.2.2.2.2.2.2.2.2.2.2.2.2.1
  have e20 := hF.1.2.2.2.2.2.2.2.2.2.2.2.2.2.2.2.2.2.1
  have e21 := hF.1.2.2.2.2.2.2.2.2.2.2.2.2.2.2.2.2.2.2.1
  have e22 := hF.1.2.2.2.2.2.2.2.2.2.2.2.2.2.2.2.2.2.2.2.1
  have e23 := hF.1.2.2.2.2.2.2.2.2.2.2.2.2.2.2.2.2.2.2.2.2.1
  have e24 := hF.1.2.2.2.2.2.2.2.2.2.2.2.2.2.2.2.2.2.2.2.2.2.1
  have e34 := hF.1.2.2.2.2.2.2.2.2.2.2.2.2.2.2.2.2.2.2.2.2.2.2.1
  have e42 := hF.1.2.2.2.2.2.2.2.2.2.2.2.2.2.2.2.2.2.2.2.2.2.2.2.1
  have x1 := hF.1.2.2.2.2.2.2.2.2.2.2.2.2.2.2.2.2.2.2.2.2.2.2.2.2.1
  have x2 := hF.1.2.2.2.2.2.2.2.2.2.2.2.2.2.2.2.2.2.2.2.2.2.2.2.2.2.1
  have x3 := hF.1.2.2.2.2.2.2.2.2.2.2.2.2.2.2.2.2.2.2.2.2.2.2.2.2.2.2
  have hC := hct S μ hfu hM
  have s1 := pm_s hM (show ((π 0 10).toNat : Int) ≤ π 0 10 by omega)
  have hby : f_X5_bytes_p2_0 S q = some (π 9 (π 0 10).toNat, S) := by
    have k := p_start (F := F) hC (a := π 0 10) (by omega)
    rw [hSe] at k
    unfold f_X5_bytes_p2_0
    rw [gQ _ _ (by decide), k]
    rfl
  have hi2 := wr_r hi
  have e6' : μ 6 6 = F 0 14 := by omega
  have e16' : μ 6 16 = F 15 0 := by omega
  have e18' : μ 6 18 = F 15 2 := by omega
  by_cases c : i < 0 ∨ 24 < i
  · refine callR hI (v := -1) (v' := -1) (z := 0) ?_ (fun T hT => ?_) rfl
    · unfold f_X11_count_p3_0 f_X11_count_p3_0_b23 f_X11_count_p3_0_b51
      rw [hi, wr_e (z := 2) (by decide), wr_e (z := 8) (by decide), wr_e (z := 9) (by decide), wr_e (z := 18) (by decide), if_pos c]
      by_cases c2 : i < 0
      · rw [if_pos (by omega), if_pos (by omega)]
      · rw [if_neg (by omega), if_pos (by omega), if_neg (by omega), if_pos (by omega)]
    · rw [hμ]
      unfold f_X12_count_p4_0
      rw [lt1_e, hi, if_pos c, sR_w]
  · obtain ⟨n, hn9⟩ : ∃ n : Nat, n = i.toNat := ⟨_, rfl⟩
    have hin : i = (n : Int) := by omega
    subst hin
    have hn24 : n ≤ 24 := by omega

    by_cases c0 : n = 0
    · subst c0
      refine callR hI (v := π 0 10) (v' := π 0 10) (z := 0) ?_ (fun T hT => ?_) rfl
      · have h1 : f_X11_count_p3_0 S 0 ((0 : Nat) : Int) = (ckP S 0 0 4 2 0 fun rg2 => some (gI S rg2 0 10, S)) := rfl
        rw [h1, ckP_e gP4 gkq, gQ _ _ (by decide)]
      · rw [hμ]
        have h1 : f_X12_count_p4_0 (sR T 13 μ) 13 ((0 : Nat) : Int) = (some (gI (wI (sR T 13 μ) 13 0 0 0) 13 0 1, wI (sR T 13 μ) 13 0 0 0)) := rfl
        rw [h1, sR_w, sR_g, uF_k (by decide), m1]
    by_cases c1 : n = 1
    · subst c1
      refine callR hI (v := π 9 (π 0 10).toNat) (v' := π 9 (π 0 10).toNat) (z := 0) ?_ (fun T hT => ?_) rfl
      · have h1 : f_X11_count_p3_0 S 0 ((1 : Nat) : Int) = (ckP S 0 0 4 2 0 fun rg4 => bd2 (f_X5_bytes_p2_0 S rg4) fun v7 S6 => some (v7, S6)) := rfl
        rw [h1, ckP_e gP4 gkq, hby]
        rfl
      · rw [hμ]
        have h1 : f_X12_count_p4_0 (sR T 13 μ) 13 ((1 : Nat) : Int) = (ckI (gI (wI (sR T 13 μ) 13 0 0 0) 13 0 1) 61 <| some (gI (wI (sR T 13 μ) 13 0 0 0) 13 5 (wr (gI (wI (sR T 13 μ) 13 0 0 0) 13 0 1)).toNat, wI (sR T 13 μ) 13 0 0 0)) := rfl
        rw [h1, sR_w, sR_g, uF_k (by decide), m1, ckI_e (by omega), sR_g, uF_o (by decide), wr_e (z := π 0 10) (by omega), s1]
    by_cases c2 : n = 2
    · subst c2
      refine callR hI (v := F 1 0) (v' := F 1 0) (z := 0) ?_ (fun T hT => ?_) rfl
      · have h1 : f_X11_count_p3_0 S 0 ((2 : Nat) : Int) = (some (gI S 1 1 0, S)) := rfl
        rw [h1, gF]
      · rw [hμ]
        have h1 : f_X12_count_p4_0 (sR T 13 μ) 13 ((2 : Nat) : Int) = (some (gI (wI (sR T 13 μ) 13 0 0 0) 13 6 0, wI (sR T 13 μ) 13 0 0 0)) := rfl
        rw [h1, sR_w, sR_g, uF_o (by decide), e0]
    by_cases c3 : n = 3
    · subst c3
      refine callR hI (v := π 1 1) (v' := π 1 1) (z := 0) ?_ (fun T hT => ?_) rfl
      · have h1 : f_X11_count_p3_0 S 0 ((3 : Nat) : Int) = (some (gI S 1 1 1, S)) := rfl
        rw [h1, gF, x1]
      · rw [hμ]
        have h1 : f_X12_count_p4_0 (sR T 13 μ) 13 ((3 : Nat) : Int) = (some (gI (wI (sR T 13 μ) 13 0 0 0) 13 0 2, wI (sR T 13 μ) 13 0 0 0)) := rfl
        rw [h1, sR_w, sR_g, uF_k (by decide), m2]
    by_cases c4 : n = 4
    · subst c4
      refine callR hI (v := π 1 2) (v' := π 1 2) (z := 0) ?_ (fun T hT => ?_) rfl
      · have h1 : f_X11_count_p3_0 S 0 ((4 : Nat) : Int) = (some (gI S 1 1 2, S)) := rfl
        rw [h1, gF, x2]
      · rw [hμ]
        have h1 : f_X12_count_p4_0 (sR T 13 μ) 13 ((4 : Nat) : Int) = (some (gI (wI (sR T 13 μ) 13 0 0 0) 13 0 3, wI (sR T 13 μ) 13 0 0 0)) := rfl
        rw [h1, sR_w, sR_g, uF_k (by decide), m3]
    by_cases c5 : n = 5
    · subst c5
      refine callR hI (v := π 1 3) (v' := π 1 3) (z := 0) ?_ (fun T hT => ?_) rfl
      · have h1 : f_X11_count_p3_0 S 0 ((5 : Nat) : Int) = (some (gI S 1 1 3, S)) := rfl
        rw [h1, gF, x3]
      · rw [hμ]
        have h1 : f_X12_count_p4_0 (sR T 13 μ) 13 ((5 : Nat) : Int) = (some (gI (wI (sR T 13 μ) 13 0 0 0) 13 0 4, wI (sR T 13 μ) 13 0 0 0)) := rfl
        rw [h1, sR_w, sR_g, uF_k (by decide), m4]
    by_cases c6 : n = 6
    · subst c6
      refine callR hI (v := F 1 4) (v' := F 1 4) (z := 0) ?_ (fun T hT => ?_) rfl
      · have h1 : f_X11_count_p3_0 S 0 ((6 : Nat) : Int) = (some (gI S 1 1 4, S)) := rfl
        rw [h1, gF]
      · rw [hμ]
        have h1 : f_X12_count_p4_0 (sR T 13 μ) 13 ((6 : Nat) : Int) = (some (gI (wI (sR T 13 μ) 13 0 0 0) 13 6 1, wI (sR T 13 μ) 13 0 0 0)) := rfl
        rw [h1, sR_w, sR_g, uF_o (by decide), e1]
    by_cases c7 : n = 7
    · subst c7
      refine callR hI (v := F 1 5) (v' := F 1 5) (z := 0) ?_ (fun T hT => ?_) rfl
      · have h1 : f_X11_count_p3_0 S 0 ((7 : Nat) : Int) = (some (gI S 1 1 5, S)) := rfl
        rw [h1, gF]
      · rw [hμ]
        have h1 : f_X12_count_p4_0 (sR T 13 μ) 13 ((7 : Nat) : Int) = (some (gI (wI (sR T 13 μ) 13 0 0 0) 13 6 2, wI (sR T 13 μ) 13 0 0 0)) := rfl
        rw [h1, sR_w, sR_g, uF_o (by decide), e2]
    by_cases c8 : n = 8
    · subst c8
      refine callR hI (v := F 2 2) (v' := F 2 2) (z := 0) ?_ (fun T hT => ?_) rfl
      · have h1 : f_X11_count_p3_0 S 0 ((8 : Nat) : Int) = (some (gI S 1 2 2, S)) := rfl
        rw [h1, gF]
      · rw [hμ]
        have h1 : f_X12_count_p4_0 (sR T 13 μ) 13 ((8 : Nat) : Int) = (some (gI (wI (sR T 13 μ) 13 0 0 0) 13 6 34, wI (sR T 13 μ) 13 0 0 0)) := rfl
        rw [h1, sR_w, sR_g, uF_o (by decide), e34]
    by_cases c9 : n = 9
    · subst c9
      refine callR hI (v := F 15 0) (v' := F 15 0) (z := 0) ?_ (fun T hT => ?_) rfl
      · have h1 : f_X11_count_p3_0 S 0 ((9 : Nat) : Int) = (some (gI S 1 15 0, S)) := rfl
        rw [h1, gF]
      · rw [hμ]
        have h1 : f_X12_count_p4_0 (sR T 13 μ) 13 ((9 : Nat) : Int) = (some (gI (wI (sR T 13 μ) 13 0 0 0) 13 6 16, wI (sR T 13 μ) 13 0 0 0)) := rfl
        rw [h1, sR_w, sR_g, uF_o (by decide), e16']
    by_cases c10 : n = 10
    · subst c10
      refine callR hI (v := F 15 1) (v' := F 15 1) (z := 0) ?_ (fun T hT => ?_) rfl
      · have h1 : f_X11_count_p3_0 S 0 ((10 : Nat) : Int) = (some (gI S 1 15 1, S)) := rfl
        rw [h1, gF]
      · rw [hμ]
        have h1 : f_X12_count_p4_0 (sR T 13 μ) 13 ((10 : Nat) : Int) = (some (gI (wI (sR T 13 μ) 13 0 0 0) 13 6 17, wI (sR T 13 μ) 13 0 0 0)) := rfl
        rw [h1, sR_w, sR_g, uF_o (by decide), e17]
    by_cases c11 : n = 11
    · subst c11
      refine callR hI (v := F 15 2) (v' := F 15 2) (z := 0) ?_ (fun T hT => ?_) rfl
      · have h1 : f_X11_count_p3_0 S 0 ((11 : Nat) : Int) = (some (gI S 1 15 2, S)) := rfl
        rw [h1, gF]
      · rw [hμ]
        have h1 : f_X12_count_p4_0 (sR T 13 μ) 13 ((11 : Nat) : Int) = (some (gI (wI (sR T 13 μ) 13 0 0 0) 13 6 18, wI (sR T 13 μ) 13 0 0 0)) := rfl
        rw [h1, sR_w, sR_g, uF_o (by decide), e18']
    by_cases c12 : n = 12
    · subst c12
      refine callR hI (v := F 15 3) (v' := F 15 3) (z := 0) ?_ (fun T hT => ?_) rfl
      · have h1 : f_X11_count_p3_0 S 0 ((12 : Nat) : Int) = (some (gI S 1 15 3, S)) := rfl
        rw [h1, gF]
      · rw [hμ]
        have h1 : f_X12_count_p4_0 (sR T 13 μ) 13 ((12 : Nat) : Int) = (some (gI (wI (sR T 13 μ) 13 0 0 0) 13 6 19, wI (sR T 13 μ) 13 0 0 0)) := rfl
        rw [h1, sR_w, sR_g, uF_o (by decide), e19]
    by_cases c13 : n = 13
    · subst c13
      refine callR hI (v := F 15 4) (v' := F 15 4) (z := 0) ?_ (fun T hT => ?_) rfl
      · have h1 : f_X11_count_p3_0 S 0 ((13 : Nat) : Int) = (some (gI S 1 15 4, S)) := rfl
        rw [h1, gF]
      · rw [hμ]
        have h1 : f_X12_count_p4_0 (sR T 13 μ) 13 ((13 : Nat) : Int) = (some (gI (wI (sR T 13 μ) 13 0 0 0) 13 6 20, wI (sR T 13 μ) 13 0 0 0)) := rfl
        rw [h1, sR_w, sR_g, uF_o (by decide), e20]
    by_cases c14 : n = 14
    · subst c14
      refine callR hI (v := F 15 5) (v' := F 15 5) (z := 0) ?_ (fun T hT => ?_) rfl
      · have h1 : f_X11_count_p3_0 S 0 ((14 : Nat) : Int) = (some (gI S 1 15 5, S)) := rfl
        rw [h1, gF]
      · rw [hμ]
        have h1 : f_X12_count_p4_0 (sR T 13 μ) 13 ((14 : Nat) : Int) = (some (gI (wI (sR T 13 μ) 13 0 0 0) 13 6 21, wI (sR T 13 μ) 13 0 0 0)) := rfl
        rw [h1, sR_w, sR_g, uF_o (by decide), e21]
    by_cases c15 : n = 15
    · subst c15
      refine callR hI (v := F 15 6) (v' := F 15 6) (z := 0) ?_ (fun T hT => ?_) rfl
      · have h1 : f_X11_count_p3_0 S 0 ((15 : Nat) : Int) = (some (gI S 1 15 6, S)) := rfl
        rw [h1, gF]
      · rw [hμ]
        have h1 : f_X12_count_p4_0 (sR T 13 μ) 13 ((15 : Nat) : Int) = (some (gI (wI (sR T 13 μ) 13 0 0 0) 13 6 22, wI (sR T 13 μ) 13 0 0 0)) := rfl
        rw [h1, sR_w, sR_g, uF_o (by decide), e22]
    by_cases c16 : n = 16
    · subst c16
      refine callR hI (v := F 15 7) (v' := F 15 7) (z := 0) ?_ (fun T hT => ?_) rfl
      · have h1 : f_X11_count_p3_0 S 0 ((16 : Nat) : Int) = (some (gI S 1 15 7, S)) := rfl
        rw [h1, gF]
      · rw [hμ]
        have h1 : f_X12_count_p4_0 (sR T 13 μ) 13 ((16 : Nat) : Int) = (some (gI (wI (sR T 13 μ) 13 0 0 0) 13 6 23, wI (sR T 13 μ) 13 0 0 0)) := rfl
        rw [h1, sR_w, sR_g, uF_o (by decide), e23]
    by_cases c17 : n = 17
    · subst c17
      refine callR hI (v := F 15 8) (v' := F 15 8) (z := 0) ?_ (fun T hT => ?_) rfl
      · have h1 : f_X11_count_p3_0 S 0 ((17 : Nat) : Int) = (some (gI S 1 15 8, S)) := rfl
        rw [h1, gF]
      · rw [hμ]
        have h1 : f_X12_count_p4_0 (sR T 13 μ) 13 ((17 : Nat) : Int) = (some (gI (wI (sR T 13 μ) 13 0 0 0) 13 6 24, wI (sR T 13 μ) 13 0 0 0)) := rfl
        rw [h1, sR_w, sR_g, uF_o (by decide), e24]
    by_cases c18 : n = 18
    · subst c18
      refine callR hI (v := F 0 14) (v' := F 0 14) (z := 0) ?_ (fun T hT => ?_) rfl
      · have h1 : f_X11_count_p3_0 S 0 ((18 : Nat) : Int) = (some (gI S 1 0 14, S)) := rfl
        rw [h1, gF]
      · rw [hμ]
        have h1 : f_X12_count_p4_0 (sR T 13 μ) 13 ((18 : Nat) : Int) = (some (gI (wI (sR T 13 μ) 13 0 0 0) 13 6 6, wI (sR T 13 μ) 13 0 0 0)) := rfl
        rw [h1, sR_w, sR_g, uF_o (by decide), e6']
    by_cases c19 : n = 19
    · subst c19
      refine callR hI (v := F 5 2) (v' := F 5 2) (z := 0) ?_ (fun T hT => ?_) rfl
      · have h1 : f_X11_count_p3_0 S 0 ((19 : Nat) : Int) = (some (gI S 1 5 2, S)) := rfl
        rw [h1, gF]
      · rw [hμ]
        have h1 : f_X12_count_p4_0 (sR T 13 μ) 13 ((19 : Nat) : Int) = (some (gI (wI (sR T 13 μ) 13 0 0 0) 13 6 42, wI (sR T 13 μ) 13 0 0 0)) := rfl
        rw [h1, sR_w, sR_g, uF_o (by decide), e42]
    by_cases c20 : n = 20
    · subst c20
      refine callR hI (v := F 0 10) (v' := F 0 10) (z := 0) ?_ (fun T hT => ?_) rfl
      · have h1 : f_X11_count_p3_0 S 0 ((20 : Nat) : Int) = (some (gI S 1 0 10, S)) := rfl
        rw [h1, gF]
      · rw [hμ]
        have h1 : f_X12_count_p4_0 (sR T 13 μ) 13 ((20 : Nat) : Int) = (some (gI (wI (sR T 13 μ) 13 0 0 0) 13 6 3, wI (sR T 13 μ) 13 0 0 0)) := rfl
        rw [h1, sR_w, sR_g, uF_o (by decide), e3]
    by_cases c21 : n = 21
    · subst c21
      refine callR hI (v := F 0 15) (v' := F 0 15) (z := 0) ?_ (fun T hT => ?_) rfl
      · have h1 : f_X11_count_p3_0 S 0 ((21 : Nat) : Int) = (some (gI S 1 0 15, S)) := rfl
        rw [h1, gF]
      · rw [hμ]
        have h1 : f_X12_count_p4_0 (sR T 13 μ) 13 ((21 : Nat) : Int) = (some (gI (wI (sR T 13 μ) 13 0 0 0) 13 6 8, wI (sR T 13 μ) 13 0 0 0)) := rfl
        rw [h1, sR_w, sR_g, uF_o (by decide), e8]
    by_cases c22 : n = 22
    · subst c22
      refine callR hI (v := F 0 16) (v' := F 0 16) (z := 0) ?_ (fun T hT => ?_) rfl
      · have h1 : f_X11_count_p3_0 S 0 ((22 : Nat) : Int) = (some (gI S 1 0 16, S)) := rfl
        rw [h1, gF]
      · rw [hμ]
        have h1 : f_X12_count_p4_0 (sR T 13 μ) 13 ((22 : Nat) : Int) = (some (gI (wI (sR T 13 μ) 13 0 0 0) 13 6 9, wI (sR T 13 μ) 13 0 0 0)) := rfl
        rw [h1, sR_w, sR_g, uF_o (by decide), e9]
    by_cases c23 : n = 23
    · subst c23
      refine callR hI (v := F 0 17) (v' := F 0 17) (z := 0) ?_ (fun T hT => ?_) rfl
      · have h1 : f_X11_count_p3_0 S 0 ((23 : Nat) : Int) = (some (gI S 1 0 17, S)) := rfl
        rw [h1, gF]
      · rw [hμ]
        have h1 : f_X12_count_p4_0 (sR T 13 μ) 13 ((23 : Nat) : Int) = (some (gI (wI (sR T 13 μ) 13 0 0 0) 13 6 7, wI (sR T 13 μ) 13 0 0 0)) := rfl
        rw [h1, sR_w, sR_g, uF_o (by decide), e7]
    by_cases c24 : n = 24
    · subst c24
      refine callR hI (v := μ 0 16) (v' := μ 0 16) (z := 0) ?_ (fun T hT => ?_) rfl
      · have h1 : f_X11_count_p3_0 S 0 ((24 : Nat) : Int) = (some (gI S 0 8 2, S)) := rfl
        rw [h1, gX, hhi.1]
      · rw [hμ]
        have h1 : f_X12_count_p4_0 (sR T 13 μ) 13 ((24 : Nat) : Int) = (some (gI (wI (sR T 13 μ) 13 0 0 0) 13 0 16, wI (sR T 13 μ) 13 0 0 0)) := rfl
        rw [h1, sR_w, sR_g, uF_k (by decide)]
    omega
theorem p_cross {T : xSt} {r q M : Nat} {π μ F : xR} {N : Nat → Int} {k : Int} (hC : CT S r q T M π μ) (hk : 0 ≤ k ∧ k < π 0 10) : ∃ v, (v = 0 ∨ v = 1) ∧ f_X5_crossesWindows_p2_0 (sR S r F) q k = some (v, sR S r F) ∧ f_X12_doesCross_p4_0 (wA T M 6 N) M k = some (v, wA T M 6 N) := by
  have p0 := pr_n (ct_R hC)
  have s1 := pm_s (ct_M hC) (show (k.toNat : Int) ≤ π 0 10 by omega)
  have s2 := pm_s (ct_M hC) (show ((k + 1).toNat : Int) ≤ π 0 10 by omega)
  obtain ⟨w1, w2⟩ := p_win (F := F) (N := N) hC (π 9 k.toNat)
  obtain ⟨w3, w4⟩ := p_win (F := F) (N := N) hC (π 9 (k + 1).toNat - 1)
  unfold f_X5_crossesWindows_p2_0 f_X12_doesCross_p4_0
  rw [p_start hC (show 0 ≤ k ∧ k ≤ π 0 10 by omega)]
  simp only [bd2_e]
  rw [w1]
  simp only [bd2_e]
  rw [p_start hC (show 0 ≤ k + 1 ∧ k + 1 ≤ π 0 10 by omega)]
  simp only [bd2_e]
  rw [w3]
  simp only [bd2_e]
  rw [ckI_e (by omega), ct_m hC (by decide), wr_e (z := k) (by omega), s1, w2]
  simp only [bd2_e]
  rw [ckI_e (by omega), ct_m hC (by decide), wr_e (z := k + 1) (by omega), s2, w4]
  simp only [bd2_e]
  by_cases c : wr (Int.tdiv (wr (π 9 k.toNat)) (π 1 1)) = wr (Int.tdiv (wr (π 9 (k + 1).toNat - 1)) (π 1 1))
  · rw [if_pos c, if_pos c]
    exact ⟨0, Or.inl rfl, rfl, rfl⟩
  · rw [if_neg c, if_neg c]
    exact ⟨1, Or.inr rfl, rfl, rfl⟩
theorem k_crosses (hI : INV m S) (hi : wr i = i) : CALL m S (f_X11_crosses_p3_0 S 0 i) (fun T => f_X12_crosses_p4_0 T 13 i) (fun x v' μ' => match x with | .inl v => ((v = 0 ∨ v = 1) ∧ v = v') ∧ μ' 0 0 = 0 | .inr k => KE 1 k = μ' 0 0 ∧ (KE 1 k = 1 ∨ KE 1 k = 2)) := by
  obtain ⟨q, F, X, π, μ, hμ, gF, gX, gQ, gP4, gkq, hR, hM, hF, hn, hio, hSe, hct, hfu, hhi, hsv⟩ := inv_all hI
  have p0 := hR.1
  have hi2 := wr_r hi
  by_cases c : 0 ≤ i ∧ i < π 0 10
  · have hF9 : RF π (BB m) 0 0 0 F ((uF μ 0 0 (1 - 1)) 6) := by
      rw [uF_6]
      exact hF
    have hv0 : ∃ v, (v = 0 ∨ v = 1) ∧ f_X11_crosses_p3_0 S 0 i = some (.inl v, S) ∧ ∀ T : xSt, 10000000 ≤ fu T → f_X12_crosses_p4_0 (sR T 13 μ) 13 i = some (v, sR T 13 (uF μ 0 0 (1 - 1))) := by
      have hC := hct S (uF μ 0 0 (1 - 1)) hfu (pm_told hM)
      obtain ⟨v, hv, i1, i2⟩ := p_cross (F := F) (N := (uF μ 0 0 (1 - 1)) 6) hC c
      rw [hSe] at i1
      refine ⟨v, hv, ?_, fun T hT => ?_⟩
      · unfold f_X11_crosses_p3_0
        rw [hi, ckP_e gP4 gkq, gQ _ _ (by decide), wr_e (z := π 0 10) (by omega), if_neg (show ¬ i < 0 by omega), if_pos c.2]
        rw [ckP_e gP4 gkq, i1]
        rfl
      · have hC := hct T (uF μ 0 0 (1 - 1)) hT (pm_told hM)
        have e9 := i1
        obtain ⟨v2, hv2, j1, j2⟩ := p_cross (F := F) (N := (uF μ 0 0 (1 - 1)) 6) hC c
        rw [hSe] at j1
        have ev : v2 = v := by
          have := j1.symm.trans i1
          exact congrArg Prod.fst (Option.some.inj this)
        subst ev
        rw [wN_i] at j2
        unfold f_X12_crosses_p4_0
        rw [p_isNum hR hM hi, if_pos c]
        simp only [bd2_e]
        rw [p_is (Or.inr rfl)]
        simp only [bd2_e]
        rw [if_neg (by decide), j2]
        simp only [bd2_e]
        rcases hv with rfl | rfl
        · rfl
        · rfl
    obtain ⟨v, hv, h1, h2⟩ := hv0
    refine callR hI (v := .inl v) (v' := v) (z := 1 - 1) h1 (fun T hT => by rw [hμ]; exact h2 T hT) ⟨⟨hv, rfl⟩, uF_e⟩
  · refine callR hI (v := .inr 1) (v' := 0) (z := 1 - 0) ?_ (fun T hT => ?_) ⟨uF_e.symm, Or.inl rfl⟩
    · unfold f_X11_crosses_p3_0
      rw [hi, ckP_e gP4 gkq, gQ _ _ (by decide), wr_e (z := π 0 10) (by omega)]
      by_cases c2 : i < 0
      · rw [if_pos c2]
      · rw [if_neg c2, if_neg (by omega)]
    · rw [hμ]
      unfold f_X12_crosses_p4_0
      rw [p_isNum hR hM hi, if_neg c]
      simp only [bd2_e]
      rw [p_is (Or.inl rfl)]
      simp only [bd2_e]
      rw [if_pos (by decide)]
theorem k_fuses (hI : INV m S) (hi : wr i = i) : CALL m S (f_X11_fuses_p3_0 S 0 i) (fun T => f_X12_fuses_p4_0 T 13 i) (fun x v' μ' => match x with | .inl v => ((v = 0 ∨ v = 1) ∧ v = v') ∧ μ' 0 0 = 0 | .inr k => KE 1 k = μ' 0 0 ∧ (KE 1 k = 1 ∨ KE 1 k = 2)) := by
  obtain ⟨q, F, X, π, μ, hμ, gF, gX, gQ, gP4, gkq, hR, hM, hF, hn, hio, hSe, hct, hfu, hhi, hsv⟩ := inv_all hI
  have p0 := hR.1
  have hi2 := wr_r hi
  by_cases c : 0 ≤ i ∧ i < π 0 10
  · have hF9 : RF π (BB m) 0 0 0 F ((uF μ 0 0 (1 - 1)) 6) := by
      rw [uF_6]
      exact hF
    have hv0 : ∃ v, (v = 0 ∨ v = 1) ∧ f_X11_fuses_p3_0 S 0 i = some (.inl v, S) ∧ ∀ T : xSt, 10000000 ≤ fu T → f_X12_fuses_p4_0 (sR T 13 μ) 13 i = some (v, sR T 13 (uF μ 0 0 (1 - 1))) := by
      have hC := hct S (uF μ 0 0 (1 - 1)) hfu (pm_told hM)
      obtain ⟨v, hv, -, i1, i2⟩ := p_fuse hC hF9 c
      rw [hSe] at i1
      refine ⟨v, hv, ?_, fun T hT => ?_⟩
      · unfold f_X11_fuses_p3_0
        rw [hi, ckP_e gP4 gkq, gQ _ _ (by decide), wr_e (z := π 0 10) (by omega), if_neg (show ¬ i < 0 by omega), if_pos c.2]
        rw [i1]
        rfl
      · have hC := hct T (uF μ 0 0 (1 - 1)) hT (pm_told hM)
        have e9 := i1
        obtain ⟨v2, hv2, -, j1, j2⟩ := p_fuse hC hF9 c
        rw [hSe] at j1
        have ev : v2 = v := by
          have := j1.symm.trans i1
          exact congrArg Prod.fst (Option.some.inj this)
        subst ev
        rw [wN_i] at j2
        unfold f_X12_fuses_p4_0
        rw [p_isNum hR hM hi, if_pos c]
        simp only [bd2_e]
        rw [p_is (Or.inr rfl)]
        simp only [bd2_e]
        rw [if_neg (by decide), j2]
        simp only [bd2_e]
        rcases hv with rfl | rfl
        · rfl
        · rfl
    obtain ⟨v, hv, h1, h2⟩ := hv0
    refine callR hI (v := .inl v) (v' := v) (z := 1 - 1) h1 (fun T hT => by rw [hμ]; exact h2 T hT) ⟨⟨hv, rfl⟩, uF_e⟩
  · refine callR hI (v := .inr 1) (v' := 0) (z := 1 - 0) ?_ (fun T hT => ?_) ⟨uF_e.symm, Or.inl rfl⟩
    · unfold f_X11_fuses_p3_0
      rw [hi, ckP_e gP4 gkq, gQ _ _ (by decide), wr_e (z := π 0 10) (by omega)]
      by_cases c2 : i < 0
      · rw [if_pos c2]
      · rw [if_neg c2, if_neg (by omega)]
    · rw [hμ]
      unfold f_X12_fuses_p4_0
      rw [p_isNum hR hM hi, if_neg c]
      simp only [bd2_e]
      rw [p_is (Or.inl rfl)]
      simp only [bd2_e]
      rw [if_pos (by decide)]
theorem k_isLoopable (hI : INV m S) (hi : wr i = i) : CALL m S (f_X11_isLoopable_p3_0 S 0 i) (fun T => f_X12_isLoopable_p4_0 T 13 i) (fun x v' μ' => match x with | .inl v => ((v = 0 ∨ v = 1) ∧ v = v') ∧ μ' 0 0 = 0 | .inr k => KE 1 k = μ' 0 0 ∧ (KE 1 k = 1 ∨ KE 1 k = 2)) := by
  obtain ⟨q, F, X, π, μ, hμ, gF, gX, gQ, gP4, gkq, hR, hM, hF, hn, hio, hSe, hct, hfu, hhi, hsv⟩ := inv_all hI
  have p0 := hR.1
  have hi2 := wr_r hi
  by_cases c : 0 ≤ i ∧ i < π 0 10
  · have hF9 : RF π (BB m) 0 0 0 F ((uF μ 0 0 (1 - 1)) 6) := by
      rw [uF_6]
      exact hF
    have hv0 : ∃ v, (v = 0 ∨ v = 1) ∧ f_X11_isLoopable_p3_0 S 0 i = some (.inl v, S) ∧ ∀ T : xSt, 10000000 ≤ fu T → f_X12_isLoopable_p4_0 (sR T 13 μ) 13 i = some (v, sR T 13 (uF μ 0 0 (1 - 1))) := by
      have hC := hct S (uF μ 0 0 (1 - 1)) hfu (pm_told hM)
      obtain ⟨v, hv, -, i1, i2⟩ := p_loop hC hF9 c
      rw [hSe] at i1
      refine ⟨v, hv, ?_, fun T hT => ?_⟩
      · unfold f_X11_isLoopable_p3_0
        rw [hi, ckP_e gP4 gkq, gQ _ _ (by decide), wr_e (z := π 0 10) (by omega), if_neg (show ¬ i < 0 by omega), if_pos c.2]
        rw [i1]
        rfl
      · have hC := hct T (uF μ 0 0 (1 - 1)) hT (pm_told hM)
        have e9 := i1
        obtain ⟨v2, hv2, -, j1, j2⟩ := p_loop hC hF9 c
        rw [hSe] at j1
        have ev : v2 = v := by
          have := j1.symm.trans i1
          exact congrArg Prod.fst (Option.some.inj this)
        subst ev
        rw [wN_i] at j2
        unfold f_X12_isLoopable_p4_0
        rw [p_isNum hR hM hi, if_pos c]
        simp only [bd2_e]
        rw [p_is (Or.inr rfl)]
        simp only [bd2_e]
        rw [if_neg (by decide), j2]
        simp only [bd2_e]
        rcases hv with rfl | rfl
        · rfl
        · rfl
    obtain ⟨v, hv, h1, h2⟩ := hv0
    refine callR hI (v := .inl v) (v' := v) (z := 1 - 1) h1 (fun T hT => by rw [hμ]; exact h2 T hT) ⟨⟨hv, rfl⟩, uF_e⟩
  · refine callR hI (v := .inr 1) (v' := 0) (z := 1 - 0) ?_ (fun T hT => ?_) ⟨uF_e.symm, Or.inl rfl⟩
    · unfold f_X11_isLoopable_p3_0
      rw [hi, ckP_e gP4 gkq, gQ _ _ (by decide), wr_e (z := π 0 10) (by omega)]
      by_cases c2 : i < 0
      · rw [if_pos c2]
      · rw [if_neg c2, if_neg (by omega)]
    · rw [hμ]
      unfold f_X12_isLoopable_p4_0
      rw [p_isNum hR hM hi, if_neg c]
      simp only [bd2_e]
      rw [p_is (Or.inl rfl)]
      simp only [bd2_e]
      rw [if_pos (by decide)]
end E2
