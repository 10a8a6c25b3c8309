/-! mathematics: isSound -/
section C34
variable {π F G H : xR} {S S' S2 : xSt} {i c : Int} {b : Nat} {B : Int}
theorem r_ag (hW : WD π S F i c) (hF : FI π B F) (hB : B ≤ 40000000) : f_X11_agrees_p3_0 S 0 = some (1, S) := by
  obtain ⟨hr, hu, hq, ht, hd, hl, hc, hp, hn, hz⟩ := id hF
  have n1 := hn.1 1
  have p := hp.2.2.1
  have e : iMin 100 (F 15 1) = if F 15 1 < 100 then F 15 1 else 100 := by
    unfold iMin
    rw [wr_e (by omega), wr_e (by omega)]
  unfold f_X11_agrees_p3_0
  rw [show (0 : Nat) + 1 = 1 from rfl, r_1 hW, r_1 hW, e, p]
  by_cases x : F 15 1 < 100
  · rw [if_pos x, if_neg (by omega)]
  · rw [if_neg x, wr_e (z := F 15 1) (by omega), wr_e (z := 100) (by omega), if_neg (by omega)]
theorem r_dec (hR : PR π) (hW : WD π S F i c) (hF : FI π B F) (hB : B ≤ 40000000) (h0 : 0 < F 15 1) : f_X11_decoded_p3_0 S 0 0 = some ((plS π ((F 15 1).toNat - 1)).1, S) := by
  obtain ⟨hr, hu, hq, ht, hd, hl, hc, hp, hn, hz⟩ := id hF
  have n1 := hn.1 1
  have p := (hp.2.2.2 h0).1
  have e : Int.tmod (wr (F 15 1 - 1 - 0)) (wr 100) = (F 15 1 - 1) % 100 := by
    rw [wr_e (by omega), wr_e (by omega), Int.sub_zero, Int.tmod_eq_emod_of_nonneg (by omega)]
  have e2 : (wr ((F 15 1 - 1) % 100)).toNat = ((F 15 1).toNat - 1) % 100 := by
    rw [wr_e (by omega)]
    omega
  unfold f_X11_decoded_p3_0
  rw [if_neg (by decide), show (0 : Nat) + 1 = 1 from rfl, r_1 hW, wr_e (z := F 15 1) (by omega), wr_e (z := 0) (by omega), if_neg (by omega), if_pos (by decide), e, ckI_e (by omega), e2, r_1 hW, p]
/-- the end of isSound -/
theorem r_end (hR : PR π) (hW : WD π S F i c) (hF : FI π B F) (hB : B ≤ 40000000) (hD : F 15 1 ≤ 9999) (f : Nat) : ∃ S', f_L_isSound_p3_0_b70 0 (f + 1) S (F 15 1) (F 15 1) 10 = some (1, S') ∧ SM S S' := by
  obtain ⟨hr, hu, hq, ht, hd, hl, hc, hp, hn, hz⟩ := id hF
  obtain ⟨-, -, -, r3, r4, r5, -, -, -, r9, -, -, -, -, -, r15, -, -⟩ := id hr
  obtain ⟨n0, n1, n2, n3, n4⟩ := id hn
  obtain ⟨p0, p1, p2, p3, p4, p5, p6, p7, p8, p9, p10⟩ := id hR
  have a1 := n0 1
  have a2 := n0 2
  have a3 := n0 3
  have a8 := n0 8
  by_cases c0 : F 15 1 = 0
  · refine ⟨S, ?_, sm_r⟩
    rw [f_L_isSound_p3_0_b70, if_pos (by decide), r_c10 hW, bd2_e, r_ag hW hF hB, bd2_e, if_neg (by decide), wr_e (z := F 15 1) (by omega), if_neg (by omega), if_neg (by omega), r_c11 hW, bd2_e, r_c18 hW, bd2_e, wr_e (z := F 15 2) (by omega), wr_e (z := F 0 14) (by omega), if_neg (by omega), r_c17 hW, bd2_e, wr_e (z := F 15 8) (by omega), if_neg (by omega), r_c12 hW, bd2_e, wr_e (z := 2 * F 15 3) (by omega), if_neg (by omega), r_c18 hW, bd2_e, r_c5 hW, bd2_e, wr_e (z := F 1 3) (by omega), wr_e (z := F 0 14) (by omega), if_neg (by omega), r_c19 hW, bd2_e, r_c4 hW, bd2_e, wr_e (z := F 5 2) (by omega), wr_e (z := F 1 2) (by omega), if_pos (by omega), if_pos c0]
  · have h0 : 0 < F 15 1 := by omega
    have ed := r_dec hR hW hF hB h0
    have q1 := hp.2.2.2 h0
    obtain ⟨S1, ep, hs⟩ := r_pl hR hW (m := F 15 1 - 1) (by omega)
    have hW1 := sm_wd hs hW
    have ed1 := r_dec hR hW1 hF hB h0
    have eD : (F 15 1 - 1).toNat = (F 15 1).toNat - 1 := by omega
    rw [eD] at ep
    have ev : plV π (plS π ((F 15 1).toNat - 1)) = (plS π ((F 15 1).toNat - 1)).1 := if_neg (by omega)
    rw [ev] at ep
    have et := r_times hR hW1 (k := (plS π ((F 15 1).toNat - 1)).1) (by omega)
    have q2 : 1 ≤ F 17 (plS π ((F 15 1).toNat - 1)).1.toNat := by
      have := q1.2.1
      rw [q1.1] at this
      exact this
    have q3 := (hp.1 (plS π ((F 15 1).toNat - 1)).1.toNat).2
    refine ⟨S1, ?_, hs⟩
    rw [f_L_isSound_p3_0_b70, if_pos (by decide), r_c10 hW, bd2_e, r_ag hW hF hB, bd2_e, if_neg (by decide), wr_e (z := F 15 1) (by omega), if_neg (by omega), if_neg (by omega), r_c11 hW, bd2_e, r_c18 hW, bd2_e, wr_e (z := F 15 2) (by omega), wr_e (z := F 0 14) (by omega), if_neg (by omega), r_c17 hW, bd2_e, wr_e (z := F 15 8) (by omega), if_neg (by omega), r_c12 hW, bd2_e, wr_e (z := 2 * F 15 3) (by omega), if_neg (by omega), r_c18 hW, bd2_e, r_c5 hW, bd2_e, wr_e (z := F 1 3) (by omega), wr_e (z := F 0 14) (by omega), if_neg (by omega), r_c19 hW, bd2_e, r_c4 hW, bd2_e, wr_e (z := F 5 2) (by omega), wr_e (z := F 1 2) (by omega), if_pos (by omega), if_neg c0, ed, bd2_e, ep, bd2_e, if_neg (fun z => z rfl), ed1, bd2_e, et, bd2_e, wr_e (z := F 17 _) (by omega), if_neg (by omega)]
theorem r_b70 (hR : PR π) (hW : WD π S F i c) (hF : FI π B F) (hB : B ≤ 40000000) (hD : F 15 1 ≤ 9999) : ∀ (d : Nat) (x : Int) (f : Nat), 0 ≤ x → x + d = 10 → d < f → ∃ S', f_L_isSound_p3_0_b70 0 f S (F 15 1) (sm (fun j => sm (ok1 π F (j : Int)) (π 0 10).toNat) x.toNat) x = some (1, S') ∧ SM S S' := by
  have p0 := pr_n hR
  intro d
  induction d with
  | zero =>
    intro x f hx hd hf
    obtain ⟨f, rfl⟩ := fs_e (show 0 < f by omega)
    have e : x = 10 := by omega
    have e2 : sm (fun j => sm (ok1 π F (j : Int)) (π 0 10).toNat) (10 : Int).toNat = F 15 1 := (sm_kd hR (π 0 10).toNat (by omega)).trans hF.2.2.2.2.2.2.2.1.2.1
    rw [e, e2]
    exact r_end hR hW hF hB hD f
  | succ d ih =>
    intro x f hx hd hf
    obtain ⟨f, rfl⟩ := fs_e (show 0 < f by omega)
    obtain ⟨S', g, hs⟩ := ih (x + 1) f (by omega) (by omega) (by omega)
    refine ⟨S', ?_, hs⟩
    have e1 : (x + 1).toNat = x.toNat + 1 := by omega
    have e2 : sm (fun j => sm (ok1 π F (j : Int)) (π 0 10).toNat) (x + 1).toNat = sm (fun j => sm (ok1 π F (j : Int)) (π 0 10).toNat) x.toNat + sm (ok1 π F x) (π 0 10).toNat := by
      rw [e1]
      show _ + sm (ok1 π F ((x.toNat : Nat) : Int)) (π 0 10).toNat = _
      rw [show ((x.toNat : Nat) : Int) = x by omega]
    rw [f_L_isSound_p3_0_b70, wr_e (z := 10) (by omega), wr_e (z := x) (by omega), if_neg (by omega), r_ok hR hW (by omega), bd2_e, ← e2]
    exact g
theorem r_b4 (hR : PR π) (hW : WD π S F i c) (hF : FI π B F) (hB : B ≤ 40000000) (hD : F 15 1 ≤ 9999) : ∀ (d : Nat) (x : Int) (f : Nat), 0 ≤ x → x + d = π 0 10 → d < f → ∃ S', f_L_isSound_p3_0_b4 0 f S (sm (F 17) x.toNat) x = some (1, S') ∧ SM S S' := by
  have p0 := pr_n hR
  have hfu := hW.1
  intro d
  induction d with
  | zero =>
    intro x f hx hd hf
    obtain ⟨f, rfl⟩ := fs_e (show 0 < f by omega)
    have e : x = π 0 10 := by omega
    obtain ⟨S', g, hs⟩ := r_b70 hR hW hF hB hD 10 0 (fu S) (by decide) (by decide) (by show _ < S.1.1; omega)
    refine ⟨S', ?_, hs⟩
    rw [f_L_isSound_p3_0_b4, r_c0 hW, bd2_e, wr_e (z := π 0 10) (by omega), wr_e (z := x) (by omega), if_pos (by omega), e, hF.2.2.2.2.2.2.2.1.2.1]
    exact g
  | succ d ih =>
    intro x f hx hd hf
    obtain ⟨f, rfl⟩ := fs_e (show 0 < f by omega)
    obtain ⟨S', g, hs⟩ := ih (x + 1) f (by omega) (by omega) (by omega)
    refine ⟨S', ?_, hs⟩
    have e1 : (x + 1).toNat = x.toNat + 1 := by omega
    have s1 := st_s hR (k := x.toNat) (by omega)
    rw [← e1] at s1
    have e2 : sm (F 17) (x + 1).toNat = sm (F 17) x.toNat + F 17 x.toNat := by
      rw [e1]
      rfl
    have a1 := r_at hR hW (k := x) (a := π 9 x.toNat) (by omega) (by omega)
    have a2 := r_at hR hW (k := x) (a := π 9 x.toNat + (π 9 (x + 1).toNat - π 9 x.toNat) - 1) (by omega) (by omega)
    rw [f_L_isSound_p3_0_b4, r_c0 hW, bd2_e, wr_e (z := π 0 10) (by omega), wr_e (z := x) (by omega), if_neg (by omega), r_times hR hW (by omega), bd2_e, r_in1 hR hW (by omega), bd2_e, a1, bd2_e, wr_e (z := x) (by omega), if_neg (fun z => z rfl), r_in1 hR hW (by omega), bd2_e, r_in2 hR hW (by omega), bd2_e, a2, bd2_e, if_pos (by rw [wr_e (by omega)]), ← e2]
    exact g
/-- isSound -/
theorem r_snd (hR : PR π) (hW : WD π S F i c) (hF : FI π B F) (hB : B ≤ 40000000) (hD : F 15 1 ≤ 9999) : ∃ S', f_L_isSound_p3_0 S 0 = some (1, S') ∧ SM S S' := by
  have p0 := pr_n hR
  have hfu := hW.1
  exact r_b4 hR hW hF hB hD (π 0 10).toNat 0 (fu S) (by decide) (by omega) (by show _ < S.1.1; omega)
end C34
