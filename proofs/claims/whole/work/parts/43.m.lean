/-! mathematics: the plain decoder, and the decoding of a unit -/
def gtV (π : xR) (t : Nat → Int) (k : Nat) : Int := if π 5 k = 8 then 1 else if π 5 k = 9 then (if t k < π 8 k then 1 else 0) else 0
def gtF (π : xR) (t : Nat → Int) (k : Nat) : Nat → Int := if π 5 k = 9 then uN t k (if t k < π 8 k then t k + 1 else 0) else t
theorem gtV_z {π : xR} {t : Nat → Int} {k : Nat} : gtV π t k = 0 ∨ gtV π t k = 1 := by
  unfold gtV
  split
  · exact Or.inr rfl
  · split
    · split
      · exact Or.inr rfl
      · exact Or.inl rfl
    · exact Or.inl rfl
theorem pl_rng {π : xR} (hR : PR π) : ∀ d : Nat, (0 ≤ (plS π d).1 ∧ (plS π d).1 ≤ π 0 10) ∧ ∀ k : Nat, (k : Int) < π 0 10 → π 5 k = 9 → 0 ≤ (plS π d).2 k ∧ (plS π d).2 k ≤ 99 := by
  intro d
  induction d with
  | zero => exact ⟨⟨Int.le_refl 0, (pr_n hR).1⟩, fun k _ _ => ⟨Int.le_refl 0, by show (0 : Int) ≤ 99; decide⟩⟩
  | succ d ih =>
    show (0 ≤ (plN π (plS π d)).1 ∧ (plN π (plS π d)).1 ≤ π 0 10) ∧ ∀ k : Nat, (k : Int) < π 0 10 → π 5 k = 9 → 0 ≤ (plN π (plS π d)).2 k ∧ (plN π (plS π d)).2 k ≤ 99
    obtain ⟨h1, h2⟩ := ih
    generalize plS π d = s at h1 h2
    unfold plN
    by_cases c : s.1 < 0 ∨ π 0 10 ≤ s.1
    · rw [if_pos c]
      exact ⟨h1, h2⟩
    · rw [if_neg c]
      have hk : (s.1.toNat : Int) < π 0 10 := by omega
      obtain ⟨k1, k2, k3, k4, k5, -⟩ := pr_k hR hk
      by_cases c2 : π 5 s.1.toNat < 8
      · rw [if_pos c2]
        exact ⟨(by show 0 ≤ s.1 + 1 ∧ s.1 + 1 ≤ π 0 10; omega), h2⟩
      · rw [if_neg c2]
        have t1 := k3 (by omega)
        by_cases c3 : π 5 s.1.toNat = 8
        · rw [if_pos c3]
          exact ⟨t1, h2⟩
        · rw [if_neg c3]
          have t2 := k5 (by omega)
          have t3 := h2 s.1.toNat hk (by omega)
          by_cases c4 : s.2 s.1.toNat < π 8 s.1.toNat
          · rw [if_pos c4]
            refine ⟨t1, fun k a b => ?_⟩
            by_cases e : k = s.1.toNat
            · subst e
              show 0 ≤ uN s.2 s.1.toNat _ s.1.toNat ∧ uN s.2 s.1.toNat _ s.1.toNat ≤ 99
              rw [uN_e]
              omega
            · show 0 ≤ uN s.2 s.1.toNat _ k ∧ uN s.2 s.1.toNat _ k ≤ 99
              rw [uN_k e]
              exact h2 k a b
          · rw [if_neg c4]
            refine ⟨(by show 0 ≤ s.1 + 1 ∧ s.1 + 1 ≤ π 0 10; omega), fun k a b => ?_⟩
            by_cases e : k = s.1.toNat
            · subst e
              show 0 ≤ uN s.2 s.1.toNat _ s.1.toNat ∧ uN s.2 s.1.toNat _ s.1.toNat ≤ 99
              rw [uN_e]
              decide
            · show 0 ≤ uN s.2 s.1.toNat _ k ∧ uN s.2 s.1.toNat _ k ≤ 99
              rw [uN_k e]
              exact h2 k a b
/-- the count of those like the plain decoder's, a step on -/
theorem rd_step {π F F' : xR} (hd : RFd π F) (h15 : 0 ≤ F 15 1) {x : Int} (a1 : F' 11 1 = (plS π ((F 15 1).toNat + 1)).1) (a2 : ∀ k : Nat, k < 60 → F' 13 k = (plS π ((F 15 1).toNat + 1)).2 k) (a3 : F' 15 1 = F 15 1 + 1) (a4 : F' 14 4 = if x = plV π (plS π (F 15 1).toNat) then F 14 4 + 1 else 0) (a5 : ∀ k, F' 18 k = if k = (F 15 1).toNat % 100 then x else F 18 k) : RFd π F' := by
  obtain ⟨-, -, d3, d4⟩ := hd
  have e : (F' 15 1).toNat = (F 15 1).toNat + 1 := by omega
  refine ⟨by rw [e]; exact a1, fun k hk => by rw [e]; exact a2 k hk, ?_, ?_⟩
  · rw [a3, a4]
    split <;> omega
  · intro t ht ht2
    rw [a3] at ht2 ⊢
    rw [a4]
    cases t with
    | zero =>
      constructor
      · intro _ i h1 h2
        exact absurd h2 (by omega)
      · intro _
        split <;> omega
    | succ t =>
      have k := d4 t (by omega) (by omega)
      have hrest : (∀ i : Nat, F 15 1 + 1 - ((t + 1 : Nat) : Int) ≤ (i : Int) → (i : Int) < F 15 1 + 1 → F' 18 (i % 100) = plV π (plS π i)) ↔ (x = plV π (plS π (F 15 1).toNat) ∧ ∀ i : Nat, F 15 1 - (t : Int) ≤ (i : Int) → (i : Int) < F 15 1 → F 18 (i % 100) = plV π (plS π i)) := by
        constructor
        · intro h
          refine ⟨?_, fun i h1 h2 => ?_⟩
          · have h9 := h (F 15 1).toNat (by omega) (by omega)
            rw [a5, if_pos rfl] at h9
            exact h9
          · have h9 := h i (by omega) (by omega)
            rw [a5, if_neg (by omega)] at h9
            exact h9
        · intro h i h1 h2
          rw [a5]
          by_cases c : i = (F 15 1).toNat
          · subst c
            rw [if_pos rfl]
            exact h.1
          · rw [if_neg (by omega)]
            exact h.2 i (by omega) (by omega)
      rw [hrest, ← k]
      by_cases c : x = plV π (plS π (F 15 1).toNat)
      · rw [if_pos c]
        constructor
        · intro h
          exact ⟨c, by omega⟩
        · intro h
          have := h.2
          omega
      · rw [if_neg c]
        constructor
        · intro h
          exact absurd h (by omega)
        · intro h
          exact absurd h.1 c
section C4
variable {S T : xSt} {r q M : Nat} {π μ F : xR} {N : Nat → Int} {B e w o : Int}

theorem p_gt13 (hC : CT S r q T M π μ) {k : Int} (hk : 0 ≤ k ∧ k < π 0 10) (ht : π 5 k.toNat = 9 → 0 ≤ F 13 k.toNat ∧ F 13 k.toNat ≤ 99) : f_X10_goesToTarget_p1_12_2_0 (sR S r F) r q k = some (gtV π (F 13) k.toNat, sR S r (uG F 13 (gtF π (F 13) k.toNat))) := by
  have p0 := pr_n (ct_R hC)
  obtain ⟨k1, -, -, -, k5, -⟩ := pr_k (ct_R hC) (show (k.toNat : Int) < π 0 10 by omega)
  unfold f_X10_goesToTarget_p1_12_2_0 gtV gtF
  simp (disch := omega) only [lt1_e, bd_e, bd2_e, sR_g, sR_w, sR_a, sR_s, wN_g, wN_w, wN_s, ct_p hC, ct_q hC, ct_m hC, ckI_e, wr_e, ite_not, uF_e, uF_o, uF_k, uG_e, uG_o, uN_e, uN_k]
  rw [if_neg (show ¬ k < 0 by omega), if_neg (show ¬ π 0 10 ≤ k by omega)]
  by_cases c : 8 ≤ π 5 k.toNat
  · rw [if_pos c]
    by_cases c2 : π 5 k.toNat = 8
    · rw [if_pos c2, if_pos c2, if_neg (show ¬ π 5 k.toNat = 9 by omega), uG_i]
    · have c9 : π 5 k.toNat = 9 := by omega
      have t1 := ht c9
      have t2 := k5 c9
      rw [if_neg c2, if_neg c2, if_pos c9, if_pos c9]
      by_cases c3 : π 8 k.toNat ≤ F 13 k.toNat
      · rw [if_pos c3, if_neg (show ¬ F 13 k.toNat < π 8 k.toNat by omega), if_neg (show ¬ F 13 k.toNat < π 8 k.toNat by omega), uF_G]
      · rw [if_neg c3, if_pos (show F 13 k.toNat < π 8 k.toNat by omega), if_pos (show F 13 k.toNat < π 8 k.toNat by omega), uF_G]
  · rw [if_neg c, if_neg (show ¬ π 5 k.toNat = 8 by omega), if_neg (show ¬ π 5 k.toNat = 9 by omega), if_neg (show ¬ π 5 k.toNat = 9 by omega), uG_i]
theorem p_gt10 (hC : CT S r q T M π μ) {k : Int} (hk : 0 ≤ k ∧ k < π 0 10) (ht : π 5 k.toNat = 9 → 0 ≤ F 10 k.toNat ∧ F 10 k.toNat ≤ 99) : f_X10_goesToTarget_p1_9_2_0 (sR S r F) r q k = some (gtV π (F 10) k.toNat, sR S r (uG F 10 (gtF π (F 10) k.toNat))) := by
  have p0 := pr_n (ct_R hC)
  obtain ⟨k1, -, -, -, k5, -⟩ := pr_k (ct_R hC) (show (k.toNat : Int) < π 0 10 by omega)
  unfold f_X10_goesToTarget_p1_9_2_0 gtV gtF
  simp (disch := omega) only [lt1_e, bd_e, bd2_e, sR_g, sR_w, sR_a, sR_s, wN_g, wN_w, wN_s, ct_p hC, ct_q hC, ct_m hC, ckI_e, wr_e, ite_not, uF_e, uF_o, uF_k, uG_e, uG_o, uN_e, uN_k]
  rw [if_neg (show ¬ k < 0 by omega), if_neg (show ¬ π 0 10 ≤ k by omega)]
  by_cases c : 8 ≤ π 5 k.toNat
  · rw [if_pos c]
    by_cases c2 : π 5 k.toNat = 8
    · rw [if_pos c2, if_pos c2, if_neg (show ¬ π 5 k.toNat = 9 by omega), uG_i]
    · have c9 : π 5 k.toNat = 9 := by omega
      have t1 := ht c9
      have t2 := k5 c9
      rw [if_neg c2, if_neg c2, if_pos c9, if_pos c9]
      by_cases c3 : π 8 k.toNat ≤ F 10 k.toNat
      · rw [if_pos c3, if_neg (show ¬ F 10 k.toNat < π 8 k.toNat by omega), if_neg (show ¬ F 10 k.toNat < π 8 k.toNat by omega), uF_G]
      · rw [if_neg c3, if_pos (show F 10 k.toNat < π 8 k.toNat by omega), if_pos (show F 10 k.toNat < π 8 k.toNat by omega), uF_G]
  · rw [if_neg c, if_neg (show ¬ π 5 k.toNat = 8 by omega), if_neg (show ¬ π 5 k.toNat = 9 by omega), if_neg (show ¬ π 5 k.toNat = 9 by omega), uG_i]
theorem p_next (hC : CT S r q T M π μ) (hd : RFd π F) (h15 : 0 ≤ F 15 1) : ∃ g, f_X4_next_p1_11_2_0 (sR S r F) r q = some (plV π (plS π (F 15 1).toNat), sR S r (uF (uG F 13 g) 11 1 (plS π ((F 15 1).toNat + 1)).1)) ∧ ∀ k : Nat, k < 60 → g k = (plS π ((F 15 1).toNat + 1)).2 k := by
  obtain ⟨d1, d2, -, -⟩ := hd
  have p0 := pr_n (ct_R hC)
  obtain ⟨g1, g2⟩ := pl_rng (ct_R hC) (F 15 1).toNat
  have ep : plS π ((F 15 1).toNat + 1) = plN π (plS π (F 15 1).toNat) := rfl
  rw [ep]
  generalize plS π (F 15 1).toNat = s at d1 d2 g1 g2
  rw [← d1] at g1
  unfold plN plV f_X4_next_p1_11_2_0
  rw [← d1]
  by_cases c : F 11 1 < π 0 10
  · have hk : ((F 11 1).toNat : Int) < π 0 10 := by omega
    have c' : ¬ (F 11 1 < 0 ∨ π 0 10 ≤ F 11 1) := by omega
    obtain ⟨k1, -, -, -, k5, -⟩ := pr_k (ct_R hC) hk
    have t0 := d2 (F 11 1).toNat (by omega)
    have hg := p_gt13 (F := F) hC (k := F 11 1) (by omega) (fun h => by rw [t0]; exact g2 _ hk h)
    simp (disch := omega) only [lt1_e, bd_e, bd2_e, sR_g, sR_w, sR_a, sR_s, wN_g, wN_w, wN_s, ct_p hC, ct_q hC, ct_m hC, ckI_e, wr_e, ite_not, uF_e, uF_o, uF_k, uG_e, uG_o, uN_e, uN_k]
    rw [if_neg (show ¬ F 11 1 < 0 by omega), if_pos c, if_neg c', if_neg c']
    rw [hg]
    simp only [bd2_e]
    simp (disch := omega) only [lt1_e, bd_e, bd2_e, sR_g, sR_w, sR_a, sR_s, wN_g, wN_w, wN_s, ct_p hC, ct_q hC, ct_m hC, ckI_e, wr_e, ite_not, uF_e, uF_o, uF_k, uG_e, uG_o, uN_e, uN_k]
    unfold gtV gtF
    by_cases c2 : π 5 (F 11 1).toNat < 8
    · rw [if_neg (show ¬ π 5 (F 11 1).toNat = 8 by omega), if_neg (show ¬ π 5 (F 11 1).toNat = 9 by omega), if_pos c2]
      refine ⟨F 13, ?_, fun k hk => d2 k hk⟩
      rw [wr_e (by decide), if_pos rfl, if_neg (show ¬ π 5 (F 11 1).toNat = 9 by omega)]
    · rw [if_neg c2]
      by_cases c3 : π 5 (F 11 1).toNat = 8
      · rw [if_pos c3, if_pos c3]
        refine ⟨F 13, ?_, fun k hk => d2 k hk⟩
        rw [wr_e (by decide), if_neg (by decide), if_neg (show ¬ π 5 (F 11 1).toNat = 9 by omega)]
      · have c9 : π 5 (F 11 1).toNat = 9 := by omega
        rw [if_neg c3, if_neg c3, if_pos c9, ← t0]
        by_cases c4 : F 13 (F 11 1).toNat < π 8 (F 11 1).toNat
        · simp only [if_pos c4]
          refine ⟨uN (F 13) (F 11 1).toNat (F 13 (F 11 1).toNat + 1), ?_, fun k hk => ?_⟩
          · rw [wr_e (by decide), if_neg (by decide), if_pos c9]
          · by_cases e9 : k = (F 11 1).toNat
            · subst e9
              rw [uN_e]
              exact (uN_e).symm
            · rw [uN_k e9, d2 k hk]
              exact (uN_k e9).symm
        · simp only [if_neg c4]
          refine ⟨uN (F 13) (F 11 1).toNat 0, ?_, fun k hk => ?_⟩
          · rw [wr_e (by decide), if_pos rfl, if_pos c9]
          · by_cases e9 : k = (F 11 1).toNat
            · subst e9
              rw [uN_e]
              exact (uN_e).symm
            · rw [uN_k e9, d2 k hk]
              exact (uN_k e9).symm
  · have c' : (F 11 1 < 0 ∨ π 0 10 ≤ F 11 1) := by omega
    simp (disch := omega) only [lt1_e, bd_e, bd2_e, sR_g, sR_w, sR_a, sR_s, wN_g, wN_w, wN_s, ct_p hC, ct_q hC, ct_m hC, ckI_e, wr_e, ite_not, uF_e, uF_o, uF_k, uG_e, uG_o, uN_e, uN_k]
    rw [if_neg (show ¬ F 11 1 < 0 by omega), if_neg c, if_pos c', if_pos c']
    refine ⟨F 13, ?_, fun k hk => d2 k hk⟩
    rw [uG_i, ← d1, uF_i]
theorem tm100 {d : Int} (h : 0 ≤ d) : Int.tmod d 100 = d % 100 := Int.tmod_eq_emod_of_nonneg h
theorem p_add {x v : Int} (hx : 0 ≤ x ∧ x < 60) (hv : -1 ≤ v ∧ v ≤ 60) (h15 : 0 ≤ F 15 1 ∧ F 15 1 ≤ 1000000000) : f_X9_addDecoded_p1_14 (sR S r F) r x v = some (sR S r (uF (uF (uF (uF F 17 x.toNat (F 17 x.toNat + 1)) 18 ((F 15 1).toNat % 100) x) 15 1 (F 15 1 + 1)) 14 4 (if x = v then F 14 4 + 1 else 0))) := by
  have hm : (F 15 1 % 100).toNat = (F 15 1).toNat % 100 := by omega
  have hi : iMax (F 15 1) 0 = F 15 1 := by
    unfold iMax
    rw [wr_e (by omega), wr_e (by decide)]
    by_cases c : F 15 1 < 0
    · exact absurd c (by omega)
    · rw [if_neg c]
  unfold f_X9_addDecoded_p1_14
  simp (disch := omega) only [wr_e, ckI_e, sR_g, sR_w, lt1_e, uF_o, uF_e, hi, tm100, hm, ite_not]
  rw [if_neg (show ¬ x < 0 by omega), if_pos (show x < 60 by omega)]
  by_cases c : x = v
  · rw [if_pos c, if_pos c]
  · rw [if_neg c, if_neg c]
theorem p_repz {z : Int} (h : N 11 = z) (hz : z = 0 ∨ z = 1) : f_X12_isReplayed_p4_0 (wA T M 6 N) M = some (z, wA T M 6 N) := by
  unfold f_X12_isReplayed_p4_0
  simp (disch := omega) only [wN_g, h, wr_e, ite_not]
  rcases hz with rfl | rfl
  · rfl
  · rfl
theorem p_notes {x z : Int} (hx : 0 ≤ x ∧ x < 60) (h17 : 0 ≤ N 17 ∧ N 17 ≤ 1000000000) (h : N 11 = z) (hz : z = 0 ∨ z = 1) : f_X12_notes_p4_0 (wA T M 6 N) M x = some (wA T M 6 (uN (uN (uN (uN N (263 + (N 17).toNat % 100) x) 17 (N 17 + 1)) (203 + x.toNat) (N (203 + x.toNat) + 1)) 24 (N 24 + z))) := by
  have hm : (263 + N 17 % 100).toNat = 263 + (N 17).toNat % 100 := by omega
  have hm2 : (203 + x).toNat = 203 + x.toNat := by omega
  unfold f_X12_notes_p4_0
  simp (disch := omega) only [wr_e, ckI_e, wN_g, wN_w, lt1_e, uN_k, uN_e, tm100, hm, hm2]
  rw [p_repz (z := z) (by simp (disch := omega) only [uN_k, h]) hz]
  simp (disch := omega) only [bd2_e, wN_g, wN_w, lt1_e, uN_k, wr_e]
  rcases hz with rfl | rfl
  · rw [if_pos rfl]
    congr 1
    congr 1
    funext j
    by_cases c : j = 24
    · subst c
      rw [uN_e, uN_k (by omega), uN_k (by omega), uN_k (by omega), Int.add_zero]
    · rw [uN_k c]
  · rw [if_neg (by decide)]
end C4
