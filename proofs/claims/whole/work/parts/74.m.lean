/-! mathematics: numbers; a token -/
section TN
variable {n : Int} {b : Nat → Int}
theorem t_dig {x0 : Int} (hn : BT n b) (h0 : 0 ≤ x0) : ∀ (d : Nat) (x v : Int), x0 ≤ x → x + d = n → 0 ≤ v → v ≤ 99 → (x = x0 → v = 0) → (x = x0 + 1 → v ≤ 9) → ∃ e w, x ≤ e ∧ e ≤ n ∧ (0 ≤ w ∧ w ≤ 99) ∧ (x < n → 48 ≤ b x.toNat ∧ b x.toNat ≤ 57 → x < e) ∧ (∀ (S : xSt) (X : xR) f, W0 S → CB n b X → d < f → f_X3_endOfNumber_p3_2_b7 0 f (sR S 0 (uF X 2 6 v)) x0 x = some (e, sR S 0 (uF (uF X 2 6 w) 2 3 (if x0 + 2 < e then 3 else 2)))) ∧ ∀ (T : xSt) (μ : xR) f, MB n b μ → μ 0 24 = x0 → d < f → f_X12_next_p4_0_b152 13 f (sR T 13 (uF (uF μ 0 27 v) 0 23 x)) = some (sR T 13 (uF (uF (uF μ 0 27 w) 0 23 e) 0 25 (if x0 + 2 < e then 4 else 2))) := by
  obtain ⟨h3, h4⟩ := id hn
  intro d
  induction d with
  | zero =>
    intro x v hx hd v0 v9 vz v1
    have hh := fun (T : xSt) (μ : xR) (h : MB n b μ) => here_e (T := T) hn (mb_m (k := 23) (z := x) (mb_m (k := 27) (z := v) h (by decide)) (by decide)) (x := x) (by omega)
    refine ⟨x, v, Int.le_refl _, by omega, ⟨v0, v9⟩, fun h => absurd h (by omega), fun S X f hS hX hf => ?_, fun T μ f hM h24 hf => ?_⟩
    · obtain ⟨f, rfl⟩ := fs_e (show 0 < f by omega)
      rw [f_X3_endOfNumber_p3_2_b7, sR_g, uF_k (by decide), hX.1, wr_e (z := n) (by omega), wr_e (z := x) (by omega), if_pos (by omega)]
      unfold f_X3_endOfNumber_p3_2_b71
      rw [wr_e (z := x0 + 2) (by omega), wr_e (z := x) (by omega)]
      by_cases c : x0 + 2 < x
      · rw [if_pos c, if_pos c, sR_w, lt1_e]
      · rw [if_neg c, if_neg c, sR_w, lt1_e]
    · obtain ⟨f, rfl⟩ := fs_e (show 0 < f by omega)
      rw [f_X12_next_p4_0_b152, sR_g, uF_e, hh T μ hM, bd2_e, if_pos (show n ≤ x by omega), wr_e (z := -1) (by decide), p_isIn (by decide) (by decide) (by decide), bd2_e, if_neg (show ¬ ((48 : Int) ≤ -1 ∧ (-1 : Int) ≤ 57) by decide), if_pos (by decide), sR_g, uF_e, sR_g, uF_k (by decide), uF_k (by decide), h24, wr_e (z := x - x0) (by omega), wr_e (z := 2) (by decide)]
      by_cases c : x0 + 2 < x
      · rw [if_neg (by omega), if_pos c, sR_w, lt1_e]
      · rw [if_pos (by omega), if_neg c, sR_w, lt1_e]
  | succ d ih =>
    intro x v hx hd v0 v9 vz v1
    have k3 := h4 x.toNat (by omega)
    obtain ⟨u1, -, u3⟩ := ub_r k3
    have hh := fun (T : xSt) (μ : xR) (h : MB n b μ) => here_e (T := T) hn (mb_m (k := 23) (z := x) (mb_m (k := 27) (z := v) h (by decide)) (by decide)) (x := x) (by omega)
    have u4 := u3 48 57 (by decide) (by decide)
    have k1' : ∀ X : xR, CB n b X → ∀ z, (uF X 2 6 z) 1 x.toNat = b x.toNat := fun X hX z => by rw [uF_o (by decide), hX.2 x.toNat (by omega)]
    by_cases c : 48 ≤ b x.toNat ∧ b x.toNat ≤ 57
    · have ue : ub (b x.toNat) = b x.toNat := by
        unfold ub
        rw [if_neg (by omega)]
      by_cases c2 : x0 + 2 ≤ x
      · obtain ⟨e, w, i1, i2, i3, i4, i5, i6⟩ := ih (x + 1) v (by omega) (by omega) v0 v9 (fun h => absurd h (by omega)) (fun h => absurd h (by omega))
        refine ⟨e, w, by omega, i2, i3, fun _ _ => by omega, fun S X f hS hX hf => ?_, fun T μ f hM h24 hf => ?_⟩
        · obtain ⟨f, rfl⟩ := fs_e (show 0 < f by omega)
          rw [f_X3_endOfNumber_p3_2_b7, sR_g, uF_k (by decide), hX.1, wr_e (z := n) (by omega), wr_e (z := x) (by omega), if_neg (by omega), ckP_e (w0_p hS _) (w0_k hS _), ckI_e (by omega), sR_g, k1' X hX, wr_e (z := b x.toNat) (by omega), wr_e (z := 48) (by decide), if_neg (by omega), ckP_e (w0_p hS _) (w0_k hS _), ckI_e (by omega), sR_g, k1' X hX, wr_e (z := b x.toNat) (by omega), wr_e (z := 57) (by decide), if_neg (by omega), wr_e (z := x0 + 2) (by omega), if_pos (by omega), i5 S X f hS hX (by omega)]
        · obtain ⟨f, rfl⟩ := fs_e (show 0 < f by omega)
          rw [f_X12_next_p4_0_b152, sR_g, uF_e, hh T μ hM, bd2_e, if_neg (show ¬ n ≤ x by omega), wr_e (z := ub (b x.toNat)) (by omega), p_isIn (by omega) (by decide) (by decide), bd2_e, if_pos (u4.mpr c), if_neg (by decide), sR_g, uF_e, sR_g, uF_k (by decide), uF_k (by decide), h24, wr_e (z := x - x0) (by omega), wr_e (z := 2) (by decide), if_pos (by omega)]
          unfold f_X12_next_p4_0_b209
          rw [sR_g, uF_e, sR_w, uF_s, lt1_e, i6 T μ f hM h24 (by omega)]
      · obtain ⟨e, w, i1, i2, i3, i4, i5, i6⟩ := ih (x + 1) (10 * v + b x.toNat - 48) (by omega) (by omega) (by omega) (by omega) (fun h => absurd h (by omega)) (fun h => by omega)
        refine ⟨e, w, by omega, i2, i3, fun _ _ => by omega, fun S X f hS hX hf => ?_, fun T μ f hM h24 hf => ?_⟩
        · obtain ⟨f, rfl⟩ := fs_e (show 0 < f by omega)
          rw [f_X3_endOfNumber_p3_2_b7, sR_g, uF_k (by decide), hX.1, wr_e (z := n) (by omega), wr_e (z := x) (by omega), if_neg (by omega), ckP_e (w0_p hS _) (w0_k hS _), ckI_e (by omega), sR_g, k1' X hX, wr_e (z := b x.toNat) (by omega), wr_e (z := 48) (by decide), if_neg (by omega), ckP_e (w0_p hS _) (w0_k hS _), ckI_e (by omega), sR_g, k1' X hX, wr_e (z := b x.toNat) (by omega), wr_e (z := 57) (by decide), if_neg (by omega), wr_e (z := x0 + 2) (by omega), if_neg (by omega), ckP_e (w0_p hS _) (w0_k hS _), ckI_e (by omega), sR_g, uF_e, sR_g, k1' X hX, sR_w, uF_s, lt1_e, i5 S X f hS hX (by omega)]
        · obtain ⟨f, rfl⟩ := fs_e (show 0 < f by omega)
          rw [f_X12_next_p4_0_b152, sR_g, uF_e, hh T μ hM, bd2_e, if_neg (show ¬ n ≤ x by omega), wr_e (z := ub (b x.toNat)) (by omega), p_isIn (by omega) (by decide) (by decide), bd2_e, if_pos (u4.mpr c), if_neg (by decide), sR_g, uF_e, sR_g, uF_k (by decide), uF_k (by decide), h24, wr_e (z := x - x0) (by omega), wr_e (z := 2) (by decide), if_neg (by omega), hh T μ hM, bd2_e, if_neg (show ¬ n ≤ x by omega), sR_g, uF_k (by decide), uF_e, sR_w, ue]
          unfold f_X12_next_p4_0_b209
          rw [lt1_e, sR_g, uF_k (by decide), uF_e, sR_w, lt1_e, uF_c (F := uF μ 0 27 v) (k := 23) (k' := 27) (Or.inr (by decide)), uF_s, uF_s, i6 T μ f hM h24 (by omega)]
    · refine ⟨x, v, Int.le_refl _, by omega, ⟨v0, v9⟩, fun _ h => absurd h c, fun S X f hS hX hf => ?_, fun T μ f hM h24 hf => ?_⟩
      · obtain ⟨f, rfl⟩ := fs_e (show 0 < f by omega)
        have h71 : f_X3_endOfNumber_p3_2_b71 0 (sR S 0 (uF X 2 6 v)) x0 x = some (x, sR S 0 (uF (uF X 2 6 v) 2 3 (if x0 + 2 < x then 3 else 2))) := by
          unfold f_X3_endOfNumber_p3_2_b71
          rw [wr_e (z := x0 + 2) (by omega), wr_e (z := x) (by omega)]
          by_cases c : x0 + 2 < x
          · rw [if_pos c, if_pos c, sR_w, lt1_e]
          · rw [if_neg c, if_neg c, sR_w, lt1_e]
        rw [f_X3_endOfNumber_p3_2_b7, sR_g, uF_k (by decide), hX.1, wr_e (z := n) (by omega), wr_e (z := x) (by omega), if_neg (by omega), ckP_e (w0_p hS _) (w0_k hS _), ckI_e (by omega), sR_g, k1' X hX, wr_e (z := b x.toNat) (by omega), wr_e (z := 48) (by decide)]
        by_cases c2 : b x.toNat < 48
        · rw [if_pos c2, h71]
        · rw [if_neg c2, ckP_e (w0_p hS _) (w0_k hS _), ckI_e (by omega), sR_g, k1' X hX, wr_e (z := b x.toNat) (by omega), wr_e (z := 57) (by decide), if_pos (by omega), h71]
      · obtain ⟨f, rfl⟩ := fs_e (show 0 < f by omega)
        rw [f_X12_next_p4_0_b152, sR_g, uF_e, hh T μ hM, bd2_e, if_neg (show ¬ n ≤ x by omega), wr_e (z := ub (b x.toNat)) (by omega), p_isIn (by omega) (by decide) (by decide), bd2_e, if_neg (fun h => c (u4.mp h)), if_pos (by decide), sR_g, uF_e, sR_g, uF_k (by decide), uF_k (by decide), h24, wr_e (z := x - x0) (by omega), wr_e (z := 2) (by decide)]
        by_cases c2 : x0 + 2 < x
        · rw [if_neg (by omega), if_pos c2, sR_w, lt1_e]
        · rw [if_pos (by omega), if_neg c2, sR_w, lt1_e]
end TN
