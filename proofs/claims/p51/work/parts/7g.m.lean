/-! mathematics: parse -/
section C3G
variable {T S Z : xSt} {H H' H1 H2 P P' : xR} {L : List Int} {n : Nat} {q : Nat → Int} {π : xR}
theorem pz_e : S = PZ S (S.2.1 0) (S.2.1 12) := by
  unfold PZ
  rw [sR_e, sR_e]
theorem pz_wP {o k : Nat} {z : Nat × Nat} : wP (PZ Z H P) 0 o k z = PZ (wP Z 0 o k z) H P := by
  unfold PZ
  rw [wP_s, wP_s]
theorem bg_b : ∀ (d : Nat) (x : Int) (F : xR) (f : Nat), 0 ≤ x → x + d = 6 → (∀ j : Nat, (j : Int) < x → F 3 j = 0) → d < f → ∃ F', f_X3_begin_p3_2_3_1_2_0_b40 0 0 12 f (PZ T F P) x = some (PZ T F' P) ∧ (∀ j : Nat, j < 6 → F' 3 j = 0) ∧ (∀ o k, o ≠ 2 → o ≠ 3 → F' o k = F o k) ∧ ∀ k, k ≠ 11 → k ≠ 12 → F' 2 k = F 2 k := by
  intro d
  induction d with
  | zero =>
    intro x F f hx hd hz hf
    obtain ⟨f, rfl⟩ := fs_e (show 0 < f by omega)
    refine ⟨uF (uF F 2 11 0) 2 12 (-1), ?_, fun j hj => ?_, fun o k h2 h3 => ?_, fun k h1 h2 => ?_⟩
    · rw [f_X3_begin_p3_2_3_1_2_0_b40, wr_e (z := 6) (by decide), wr_e (z := x) (by omega), if_pos (by omega), ps_w0, lt1_e, ps_w0, lt1_e]
    · rw [uF_o (by decide), uF_o (by decide)]
      exact hz j (by omega)
    · rw [uF_o h2, uF_o h2]
    · rw [uF_k h2, uF_k h1]
  | succ d ih =>
    intro x F f hx hd hz hf
    obtain ⟨f, rfl⟩ := fs_e (show 0 < f by omega)
    obtain ⟨F', e, a1, a2, a3⟩ := ih (x + 1) (uF F 3 x.toNat 0) f (by omega) (by omega) (fun j hj => by
      by_cases c : j = x.toNat
      · rw [c, uF_e]
      · rw [uF_k c]
        exact hz j (by omega)) (by omega)
    refine ⟨F', ?_, a1, fun o k h2 h3 => (a2 o k h2 h3).trans (uF_o h3), fun k h1 h2 => (a3 k h1 h2).trans (uF_o (by decide))⟩
    rw [f_X3_begin_p3_2_3_1_2_0_b40, wr_e (z := 6) (by decide), wr_e (z := x) (by omega), if_neg (by omega), ckI_e (by omega), ps_w0, lt1_e]
    exact e
/-- the parser begins -/
theorem pb_e (k0 : Z.1.2 0 = 3) (k12 : Z.1.2 12 = 2) (hfu : 10000000 ≤ Z.1.1) {m : Int} (hm : 0 ≤ m ∧ m ≤ 500) : ∃ T H' P', f_X3_begin_p3_2_3_1_2_0 (PZ Z H P) 0 0 m 12 = some (PZ T H' P') ∧ TC T ∧ (T.1 = Z.1 ∧ T.2.1 = Z.2.1 ∧ (∀ k, k ≠ 0 → T.2.2 k = Z.2.2 k) ∧ T.2.2 0 0 = Z.2.2 0 0) ∧ (H' 2 1 = m ∧ H' 2 5 = 0 ∧ H' 2 10 = 0) ∧ (∀ j : Nat, j < 6 → H' 3 j = 0) ∧ (∀ o k, o ≠ 2 → o ≠ 3 → H' o k = H o k) ∧ P' 2 2 = 0 ∧ P' 0 10 = 0 ∧ P' 9 0 = 0 := by
  have em : iMin m 600 = m := by
    unfold iMin
    rw [wr_e (z := 600) (by decide), wr_e (z := m) (by omega), if_neg (by omega)]
  obtain ⟨H', e, a1, a2, a3⟩ := bg_b (T := wP (wP Z 0 2 0 (0, 1)) 0 2 2 (12, 0)) (P := uF (uF (uF (uG P 1 (cpI (tbI 4) (P 1) (wr 0).toNat (wr 0).toNat (wr 6).toNat)) 2 2 0) 0 10 0) 9 0 0) 6 0 (uF (uF (uF H 2 1 m) 2 5 0) 2 10 0) Z.1.1 (by decide) (by decide) (fun j hj => absurd hj (by omega)) (by omega)
  have hk : ∀ {β : Type} {f : Nat → Option β}, ckP (PZ (wP (wP Z 0 2 0 (0, 1)) 0 2 2 (12, 0)) (uF H 2 1 m) P) 0 2 2 2 0 f = f 12 := fun {β f} => ckP_e rfl k12
  have hw : ∀ g, wA (PZ (wP (wP Z 0 2 0 (0, 1)) 0 2 2 (12, 0)) (uF H 2 1 m) P) 12 1 g = PZ (wP (wP Z 0 2 0 (0, 1)) 0 2 2 (12, 0)) (uF H 2 1 m) (uG P 1 g) := fun g => sR_a
  have hg : (PZ (wP (wP Z 0 2 0 (0, 1)) 0 2 2 (12, 0)) (uF H 2 1 m) P).2.1 12 = P := sR_g1
  refine ⟨wP (wP Z 0 2 0 (0, 1)) 0 2 2 (12, 0), H', uF (uF (uF (uG P 1 (cpI (tbI 4) (P 1) (wr 0).toNat (wr 0).toNat (wr 6).toNat)) 2 2 0) 0 10 0) 9 0 0, ?_, ⟨rfl, rfl, k0, k12, hfu⟩, ⟨rfl, rfl, fun k hk => ?_, rfl⟩, ⟨?_, ?_, ?_⟩, a1, fun o k h2 h3 => ?_, ?_, ?_, ?_⟩
  · unfold f_X3_begin_p3_2_3_1_2_0
    rw [pz_wP, lt1_e, em, ps_w0, lt1_e, pz_wP, lt1_e, hk]
    unfold f_X5_clear_p2_0
    rw [hg, hw, lt1_e, ps_w12, lt1_e, ps_w12, lt1_e, ps_w12, lt1_e, bd_e, ps_w0, lt1_e, ps_w0, lt1_e]
    exact e
  · funext o j
    show (if k = 0 ∧ o = 2 ∧ j = 2 then (12, 0) else if k = 0 ∧ o = 2 ∧ j = 0 then (0, 1) else Z.2.2 k o j) = Z.2.2 k o j
    rw [if_neg (fun z => hk z.1), if_neg (fun z => hk z.1)]
  · rw [a3 1 (by decide) (by decide), uF_k (by decide), uF_k (by decide), uF_e]
  · rw [a3 5 (by decide) (by decide), uF_k (by decide), uF_e]
  · rw [a3 10 (by decide) (by decide), uF_e]
  · rw [a2 o k h2 h3, uF_o h2, uF_o h2, uF_o h2]
  · rw [uF_o (by decide), uF_o (by decide), uF_e]
  · rw [uF_o (by decide), uF_e]
  · rw [uF_e]
theorem set_l : 22 ≤ (setT n q).length := by
  obtain ⟨R, e⟩ := bod_p (n := n) (q := q) 0 (drN n q 8 1 12)
  rw [Nat.zero_add] at e
  have e2 : setT n q = hdrT n q ++ R := e
  have l := lns.2.2.2.2.2.2.1
  rw [e2]
  unfold hdrT hdrF
  simp only [List.length_append, l]
  omega
/-- readText -/
theorem rt_all (k0 : Z.1.2 0 = 3) (k12 : Z.1.2 12 = 2) (hfu : 10000000 ≤ Z.1.1) (hH : ∀ j : Nat, j < (setT n q).length → H 1 j = (setT n q).getD j 0) : ∃ T H' π, f_X3_readText_p3_2_3_1_2_0 (PZ Z H P) 0 0 ((setT n q).length : Int) 12 = some (1, PZ T H' π) ∧ (T.1 = Z.1 ∧ T.2.1 = Z.2.1 ∧ (∀ k, k ≠ 0 → T.2.2 k = Z.2.2 k) ∧ T.2.2 0 0 = Z.2.2 0 0) ∧ (∀ o k, o ≠ 2 → o ≠ 3 → H' o k = H o k) ∧ PR π ∧ π 0 10 = ((drN n q 8 1 12 : Nat) : Int) := by
  have hl := setT_len (n := n) (q := q)
  have hl2 := set_l (n := n) (q := q)
  obtain ⟨T, H1, P1, e1, hT, t, ⟨b1, b2, b3⟩, b4, b5, b6, b7, b8⟩ := pb_e (H := H) (P := P) k0 k12 hfu (m := ((setT n q).length : Int)) (by omega)
  have hX : TX H1 (setT n q) := ⟨b1, by omega, fun j hj => (b5 1 j (by decide) (by decide)).trans (hH j hj), fun x hx => asc_bod _ x hx⟩
  obtain ⟨H2, P2, s, v, w, w9⟩ := s_txt (P := P1) hT rfl hX b2 b3 b4 b6 b7
  have b8' := drN_le (n := n) (q := q) (i := 8) (lo := 1) (hi := 12) (by decide)
  obtain ⟨s1, s2, s3, s4, s5⟩ := s
  obtain ⟨H3, e3, t3⟩ := rt_e (P := P2) hT s2 s3
  obtain ⟨π, e4, hR, hn⟩ := l_link (T := T) (H := H3) hT.2.2.2.2 b8'.2 v w ((w9 0).trans b8)
  have k10 : H3 2 10 = 0 := (t3.2.2.2.2 10 (by decide) (by decide) (by decide) (by decide)).trans s4
  refine ⟨T, H3, π, ?_, t, fun o k h2 h3 => ?_, hR, hn⟩
  · unfold f_X3_readText_p3_2_3_1_2_0
    rw [e1, bd_e]
    have hc : 8 + drN n q 8 1 12 ≤ 20 := by omega
    generalize 8 + drN n q 8 1 12 = c at s1 hc
    generalize hLl : (setT n q).length = l at s1 hl hl2
    obtain ⟨f, ef⟩ : ∃ f, fu (PZ T H1 P1) = f + 1 + c := ⟨T.1.1 - 1 - c, by have := hT.2.2.2.2; show T.1.1 = _; omega⟩
    have g := s1 (f + 1) 0 (by decide) (by omega)
    rw [ef, g]
    obtain ⟨y, ey⟩ : ∃ y : Int, y = 0 + (c : Int) := ⟨_, rfl⟩
    obtain ⟨l', el⟩ : ∃ l' : Int, l' = (l : Int) := ⟨_, rfl⟩
    rw [← ey, f_X3_readText_p3_2_3_1_2_0_b10, ps_0, s2.1, hLl, ← el, wr_e (z := l') (by omega), wr_e (z := y) (by omega), if_neg (by omega), e3, bd_e, ps_0, t3.1, if_neg (by decide), ps_0, k10, if_neg (by decide), ps_p hT, e4, bd_e]
  · rw [t3.2.2.2.1 o k h2, s5.1 o k h2 h3, b5 o k h2 h3]
end C3G
