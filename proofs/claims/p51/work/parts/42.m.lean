/-! mathematics: turns, the plain decoder, the queue's first, what is decoded -/
def gtV (π : xR) (t : Nat → Int) (k : Nat) : Int := if π 5 k = 8 then 1 else if π 5 k = 9 then (if t k < π 8 k then 1 else 0) else 0
def gtF (π : xR) (t : Nat → Int) (k : Nat) : Nat → Int := if π 5 k = 9 then uN t k (if t k < π 8 k then t k + 1 else 0) else t
theorem gtV_z {π : xR} {t : Nat → Int} {k : Nat} : gtV π t k = 0 ∨ gtV π t k = 1 := by
  unfold gtV
  split
  · exact Or.inr rfl
  · split
    · split
      · exact Or.inr rfl
      · exact Or.inl rfl
    · exact Or.inl rfl
theorem pl_rng {π : xR} (hR : PR π) : ∀ d : Nat, (0 ≤ (plS π d).1 ∧ (plS π d).1 ≤ π 0 10) ∧ ∀ k : Nat, (k : Int) < π 0 10 → π 5 k = 9 → 0 ≤ (plS π d).2 k ∧ (plS π d).2 k ≤ 99 := by
  intro d
  induction d with
  | zero => exact ⟨⟨Int.le_refl 0, (pr_n hR).1⟩, fun k _ _ => ⟨Int.le_refl 0, by show (0 : Int) ≤ 99; decide⟩⟩
  | succ d ih =>
    show (0 ≤ (plN π (plS π d)).1 ∧ (plN π (plS π d)).1 ≤ π 0 10) ∧ ∀ k : Nat, (k : Int) < π 0 10 → π 5 k = 9 → 0 ≤ (plN π (plS π d)).2 k ∧ (plN π (plS π d)).2 k ≤ 99
    obtain ⟨h1, h2⟩ := ih
    generalize plS π d = s at h1 h2
    unfold plN
    by_cases c : s.1 < 0 ∨ π 0 10 ≤ s.1
    · rw [if_pos c]
      exact ⟨h1, h2⟩
    · rw [if_neg c]
      have hk : (s.1.toNat : Int) < π 0 10 := by omega
      obtain ⟨k1, k2, k3, k4, k5, -⟩ := pr_k hR hk
      by_cases c2 : π 5 s.1.toNat < 8
      · rw [if_pos c2]
        exact ⟨(by show 0 ≤ s.1 + 1 ∧ s.1 + 1 ≤ π 0 10; omega), h2⟩
      · rw [if_neg c2]
        have t1 := k3 (by omega)
        by_cases c3 : π 5 s.1.toNat = 8
        · rw [if_pos c3]
          exact ⟨t1, h2⟩
        · rw [if_neg c3]
          have t2 := k5 (by omega)
          have t3 := h2 s.1.toNat hk (by omega)
          by_cases c4 : s.2 s.1.toNat < π 8 s.1.toNat
          · rw [if_pos c4]
            refine ⟨t1, fun k a b => ?_⟩
            by_cases e : k = s.1.toNat
            · subst e
              show 0 ≤ uN s.2 s.1.toNat _ s.1.toNat ∧ uN s.2 s.1.toNat _ s.1.toNat ≤ 99
              rw [uN_e]
              omega
            · show 0 ≤ uN s.2 s.1.toNat _ k ∧ uN s.2 s.1.toNat _ k ≤ 99
              rw [uN_k e]
              exact h2 k a b
          · rw [if_neg c4]
            refine ⟨(by show 0 ≤ s.1 + 1 ∧ s.1 + 1 ≤ π 0 10; omega), fun k a b => ?_⟩
            by_cases e : k = s.1.toNat
            · subst e
              show 0 ≤ uN s.2 s.1.toNat _ s.1.toNat ∧ uN s.2 s.1.toNat _ s.1.toNat ≤ 99
              rw [uN_e]
              decide
            · show 0 ≤ uN s.2 s.1.toNat _ k ∧ uN s.2 s.1.toNat _ k ≤ 99
              rw [uN_k e]
              exact h2 k a b
theorem tm100 {d : Int} (h : 0 ≤ d) : Int.tmod d 100 = d % 100 := Int.tmod_eq_emod_of_nonneg h
section C2
variable {S : xSt} {r q : Nat} {π F : xR} {B : Int}
theorem p_gt13 (hR : PR π) (hC : CC S r q π) {k : Int} (hk : 0 ≤ k ∧ k < π 0 10) (ht : π 5 k.toNat = 9 → 0 ≤ F 13 k.toNat ∧ F 13 k.toNat ≤ 99) : f_X10_goesToTarget_p1_12_2_0 (sR S r F) r q k = some (gtV π (F 13) k.toNat, sR S r (uG F 13 (gtF π (F 13) k.toNat))) := by
  have p0 := pr_n hR
  obtain ⟨k1, -, -, -, k5, -⟩ := pr_k hR (show (k.toNat : Int) < π 0 10 by omega)
  unfold f_X10_goesToTarget_p1_12_2_0 gtV gtF
  simp (disch := omega) only [lt1_e, bd_e, bd2_e, sR_g, sR_w, sR_a, sR_s, cc_p hC, cc_q hC, ckI_e, wr_e, ite_not, uF_e, uF_o, uF_k, uG_e, uG_o, uN_e, uN_k]
  rw [if_neg (show ¬ k < 0 by omega), if_neg (show ¬ π 0 10 ≤ k by omega)]
  by_cases c : 8 ≤ π 5 k.toNat
  · rw [if_pos c]
    by_cases c2 : π 5 k.toNat = 8
    · rw [if_pos c2, if_pos c2, if_neg (show ¬ π 5 k.toNat = 9 by omega), uG_i]
    · have c9 : π 5 k.toNat = 9 := by omega
      have t1 := ht c9
      have t2 := k5 c9
      rw [if_neg c2, if_neg c2, if_pos c9, if_pos c9]
      by_cases c3 : π 8 k.toNat ≤ F 13 k.toNat
      · rw [if_pos c3, if_neg (show ¬ F 13 k.toNat < π 8 k.toNat by omega), if_neg (show ¬ F 13 k.toNat < π 8 k.toNat by omega), uF_G]
      · rw [if_neg c3, if_pos (show F 13 k.toNat < π 8 k.toNat by omega), if_pos (show F 13 k.toNat < π 8 k.toNat by omega), uF_G]
  · rw [if_neg c, if_neg (show ¬ π 5 k.toNat = 8 by omega), if_neg (show ¬ π 5 k.toNat = 9 by omega), if_neg (show ¬ π 5 k.toNat = 9 by omega), uG_i]
theorem p_gt10 (hR : PR π) (hC : CC S r q π) {k : Int} (hk : 0 ≤ k ∧ k < π 0 10) (ht : π 5 k.toNat = 9 → 0 ≤ F 10 k.toNat ∧ F 10 k.toNat ≤ 99) : f_X10_goesToTarget_p1_9_2_0 (sR S r F) r q k = some (gtV π (F 10) k.toNat, sR S r (uG F 10 (gtF π (F 10) k.toNat))) := by
  have p0 := pr_n hR
  obtain ⟨k1, -, -, -, k5, -⟩ := pr_k hR (show (k.toNat : Int) < π 0 10 by omega)
  unfold f_X10_goesToTarget_p1_9_2_0 gtV gtF
  simp (disch := omega) only [lt1_e, bd_e, bd2_e, sR_g, sR_w, sR_a, sR_s, cc_p hC, cc_q hC, ckI_e, wr_e, ite_not, uF_e, uF_o, uF_k, uG_e, uG_o, uN_e, uN_k]
  rw [if_neg (show ¬ k < 0 by omega), if_neg (show ¬ π 0 10 ≤ k by omega)]
  by_cases c : 8 ≤ π 5 k.toNat
  · rw [if_pos c]
    by_cases c2 : π 5 k.toNat = 8
    · rw [if_pos c2, if_pos c2, if_neg (show ¬ π 5 k.toNat = 9 by omega), uG_i]
    · have c9 : π 5 k.toNat = 9 := by omega
      have t1 := ht c9
      have t2 := k5 c9
      rw [if_neg c2, if_neg c2, if_pos c9, if_pos c9]
      by_cases c3 : π 8 k.toNat ≤ F 10 k.toNat
      · rw [if_pos c3, if_neg (show ¬ F 10 k.toNat < π 8 k.toNat by omega), if_neg (show ¬ F 10 k.toNat < π 8 k.toNat by omega), uF_G]
      · rw [if_neg c3, if_pos (show F 10 k.toNat < π 8 k.toNat by omega), if_pos (show F 10 k.toNat < π 8 k.toNat by omega), uF_G]
  · rw [if_neg c, if_neg (show ¬ π 5 k.toNat = 8 by omega), if_neg (show ¬ π 5 k.toNat = 9 by omega), if_neg (show ¬ π 5 k.toNat = 9 by omega), uG_i]
theorem p_add {x v : Int} (hx : 0 ≤ x ∧ x < 60) (hv : -1 ≤ v ∧ v ≤ 60) (h15 : 0 ≤ F 15 1 ∧ F 15 1 ≤ 1000000000) : f_X9_addDecoded_p1_14 (sR S r F) r x v = some (sR S r (uF (uF (uF (uF F 17 x.toNat (F 17 x.toNat + 1)) 18 ((F 15 1).toNat % 100) x) 15 1 (F 15 1 + 1)) 14 4 (if x = v then F 14 4 + 1 else 0))) := by
  have hm : (F 15 1 % 100).toNat = (F 15 1).toNat % 100 := by omega
  have hi : iMax (F 15 1) 0 = F 15 1 := by
    unfold iMax
    rw [wr_e (by omega), wr_e (by decide)]
    by_cases c : F 15 1 < 0
    · exact absurd c (by omega)
    · rw [if_neg c]
  unfold f_X9_addDecoded_p1_14
  simp (disch := omega) only [wr_e, ckI_e, sR_g, sR_w, lt1_e, uF_o, uF_e, hi, tm100, hm, ite_not]
  rw [if_neg (show ¬ x < 0 by omega), if_pos (show x < 60 by omega)]
  by_cases c : x = v
  · rw [if_pos c, if_pos c]
  · rw [if_neg c, if_neg c]
/-- what the plain decoder does next -/
theorem gt_pl (hR : PR π) (hd : FD π F) (hk : 0 ≤ F 11 1 ∧ F 11 1 < π 0 10) : (plS π ((F 15 1).toNat + 1)).1 = (if gtV π (F 13) (F 11 1).toNat = 1 then π 11 (F 11 1).toNat else F 11 1 + 1) ∧ ∀ k : Nat, (k : Int) < π 0 10 → π 5 k = 9 → gtF π (F 13) (F 11 1).toNat k = (plS π ((F 15 1).toNat + 1)).2 k := by
  obtain ⟨d1, d2⟩ := hd
  have ep : plS π ((F 15 1).toNat + 1) = plN π (plS π (F 15 1).toNat) := rfl
  rw [ep]
  generalize plS π (F 15 1).toNat = s at d1 d2
  have hk2 : ((F 11 1).toNat : Int) < π 0 10 := by omega
  obtain ⟨k1, -, -, -, k5, -⟩ := pr_k hR hk2
  unfold plN gtV gtF
  rw [← d1, if_neg (show ¬ (F 11 1 < 0 ∨ π 0 10 ≤ F 11 1) by omega)]
  by_cases c : π 5 (F 11 1).toNat < 8
  · rw [if_pos c, if_neg (show ¬ π 5 (F 11 1).toNat = 8 by omega), if_neg (show ¬ π 5 (F 11 1).toNat = 9 by omega), if_neg (by decide), if_neg (show ¬ π 5 (F 11 1).toNat = 9 by omega)]
    exact ⟨rfl, fun k h1 h2 => d2 k h1 h2⟩
  · rw [if_neg c]
    by_cases c3 : π 5 (F 11 1).toNat = 8
    · rw [if_pos c3, if_pos c3, if_pos rfl, if_neg (show ¬ π 5 (F 11 1).toNat = 9 by omega)]
      exact ⟨rfl, fun k h1 h2 => d2 k h1 h2⟩
    · have c9 : π 5 (F 11 1).toNat = 9 := by omega
      have e := d2 (F 11 1).toNat hk2 c9
      rw [if_neg c3, if_neg c3, if_pos c9, if_pos c9, ← e]
      by_cases c4 : F 13 (F 11 1).toNat < π 8 (F 11 1).toNat
      · rw [if_pos c4, if_pos c4, if_pos rfl, if_pos c4]
        refine ⟨rfl, fun k h1 h2 => ?_⟩
        show uN _ _ _ k = uN _ _ _ k
        by_cases e9 : k = (F 11 1).toNat
        · rw [e9, uN_e, uN_e]
        · rw [uN_k e9, uN_k e9]
          exact d2 k h1 h2
      · rw [if_neg c4, if_neg c4, if_neg (by decide), if_neg c4]
        refine ⟨rfl, fun k h1 h2 => ?_⟩
        show uN _ _ _ k = uN _ _ _ k
        by_cases e9 : k = (F 11 1).toNat
        · rw [e9, uN_e, uN_e]
        · rw [uN_k e9, uN_k e9]
          exact d2 k h1 h2
theorem p_next (hR : PR π) (hd : FD π F) (hk : 0 ≤ F 11 1 ∧ F 11 1 < π 0 10) (hC : CC S r q π) : f_X4_next_p1_11_2_0 (sR S r F) r q = some (F 11 1, sR S r (uF (uG F 13 (gtF π (F 13) (F 11 1).toNat)) 11 1 (plS π ((F 15 1).toNat + 1)).1)) := by
  have p0 := pr_n hR
  obtain ⟨e1, -⟩ := gt_pl hR hd hk
  obtain ⟨g1, g2⟩ := pl_rng hR (F 15 1).toNat
  have hk2 : ((F 11 1).toNat : Int) < π 0 10 := by omega
  have hg := p_gt13 (F := F) hR hC (k := F 11 1) (by omega) (fun h => by rw [hd.2 _ hk2 h]; exact g2 _ hk2 h)
  have h01 : gtV π (F 13) (F 11 1).toNat = 0 ∨ gtV π (F 13) (F 11 1).toNat = 1 := gtV_z
  unfold f_X4_next_p1_11_2_0
  simp (disch := omega) only [lt1_e, bd_e, bd2_e, sR_g, sR_w, sR_a, sR_s, cc_p hC, cc_q hC, ckI_e, wr_e, ite_not, uF_e, uF_o, uF_k, uG_e, uG_o]
  rw [if_neg (show ¬ F 11 1 < 0 by omega), if_pos hk.2, hg]
  simp only [bd2_e]
  simp (disch := omega) only [lt1_e, bd_e, bd2_e, sR_g, sR_w, sR_a, sR_s, cc_p hC, cc_q hC, ckI_e, wr_e, ite_not, uF_e, uF_o, uF_k, uG_e, uG_o]
  rw [e1]
  rcases h01 with h | h
  · rw [h, if_pos (by decide), if_neg (by decide)]
  · rw [h, if_neg (by decide), if_pos rfl]
/-- a row whose first x go one down -/
def sh (x : Nat) (f : Nat → Int) : Nat → Int := fun k => if k + 1 < x then f (k + 1) else f k
theorem sh_1 {f : Nat → Int} : sh 1 f = f := by
  funext k
  exact if_neg (by omega)
theorem sh_s {x : Nat} {f : Nat → Int} (h : 1 ≤ x) : uN (sh x f) (x - 1) (f x) = sh (x + 1) f := by
  funext k
  unfold uN sh
  by_cases c : k = x - 1
  · rw [if_pos c, if_pos (by omega), show k + 1 = x by omega]
  · rw [if_neg c]
    by_cases c2 : k + 1 < x
    · rw [if_pos c2, if_pos (by omega)]
    · rw [if_neg c2, if_neg (by omega)]
theorem sh_x {x : Nat} {f : Nat → Int} : sh x f x = f x := if_neg (by omega)
theorem sh_eq {f g : Nat → Int} {a b : Nat} {v w : Int} : uF (uF (uG (uG F 6 f) 7 g) 6 a v) 7 b w = uG (uG F 6 (uN f a v)) 7 (uN g b w) := by
  funext o k
  unfold uF uG uN
  by_cases c7 : o = 7
  · subst c7
    simp
  · by_cases c6 : o = 6
    · subst c6
      simp
    · simp [c6, c7]
theorem p_drop_b (h5 : 1 ≤ F 5 2 ∧ F 5 2 ≤ 20) (h7 : ∀ j : Nat, (j : Int) < F 5 2 → F 7 j = 0 ∨ F 7 j = 1) : ∀ (d : Nat) (x : Int) (f1 : Nat), 1 ≤ x → x + d = F 5 2 → d < f1 → f_X6_dropFirst_p1_5_b2 r f1 (sR S r (uG (uG F 6 (sh x.toNat (F 6))) 7 (sh x.toNat (F 7)))) x = some (sR S r (uF (uG (uG F 6 (sh (F 5 2).toNat (F 6))) 7 (sh (F 5 2).toNat (F 7))) 5 2 (F 5 2 - 1))) := by
  intro d
  induction d with
  | zero =>
    intro x f1 h1 h2 h3
    obtain ⟨f1, rfl⟩ := fs_e (show 0 < f1 by omega)
    have e : F 5 2 = x := by omega
    have w0 : iMax (F 5 2 - 1) 0 = F 5 2 - 1 := by
      unfold iMax
      rw [wr_e (by omega), wr_e (by decide)]
      by_cases c : F 5 2 - 1 < 0
      · exact absurd c (by omega)
      · rw [if_neg c]
    rw [f_X6_dropFirst_p1_5_b2]
    simp (disch := omega) only [lt1_e, sR_g, sR_w, wr_e, uG_o, w0]
    rw [if_pos (by omega), e]
  | succ d ih =>
    intro x f1 h1 h2 h3
    obtain ⟨f1, rfl⟩ := fs_e (show 0 < f1 by omega)
    have e1 : (x - 1).toNat = x.toNat - 1 := by omega
    have e3 : (x + 1).toNat = x.toNat + 1 := by omega
    have hb := h7 x.toNat (by omega)
    rw [f_X6_dropFirst_p1_5_b2]
    simp (disch := omega) only [lt1_e, sR_g, sR_w, wr_e, uG_o, uG_e, uF_o, ckI_e, e1, sh_x, ckB_e]
    rw [if_neg (by omega), ← ih (x + 1) f1 (by omega) (by omega) (by omega), e3, ← sh_s (show 1 ≤ x.toNat by omega), ← sh_s (show 1 ≤ x.toNat by omega), sh_eq]
theorem p_drop (h5 : 1 ≤ F 5 2 ∧ F 5 2 ≤ 20) (h7 : ∀ j : Nat, (j : Int) < F 5 2 → F 7 j = 0 ∨ F 7 j = 1) (hf : 10000000 ≤ fu S) : f_X6_dropFirst_p1_5 (sR S r F) r = some (sR S r (uF (uG (uG F 6 (sh (F 5 2).toNat (F 6))) 7 (sh (F 5 2).toNat (F 7))) 5 2 (F 5 2 - 1))) := by
  have := p_drop_b (S := S) (r := r) h5 h7 ((F 5 2).toNat - 1) 1 (fu (sR S r F)) (by omega) (by omega) (by rw [sR_fu]; omega)
  have e1 : Int.toNat 1 = 1 := rfl
  rw [e1, sh_1, sh_1, uG_i] at this
  have e : uG F 7 (F 7) = F := uG_i
  rw [e] at this
  exact this
end C2
