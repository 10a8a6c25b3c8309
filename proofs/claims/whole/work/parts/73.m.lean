/-! mathematics: the text's tokens -/
theorem uF_s {F : xR} {o k : Nat} {z w : Int} : uF (uF F o k z) o k w = uF F o k w := by
  funext a c
  unfold uF
  split <;> rfl
theorem uF_c {F : xR} {o k o' k' : Nat} {z w : Int} (h : o ≠ o' ∨ k ≠ k') : uF (uF F o k z) o' k' w = uF (uF F o' k' w) o k z := by
  funext a c
  unfold uF
  by_cases h1 : a = o' ∧ c = k'
  · rw [if_pos h1, if_neg (by omega), if_pos h1]
  · rw [if_neg h1, if_neg h1]
def ub (z : Int) : Int := if z < 0 then z + 256 else z
theorem iA_d : ∀ k : Nat, k < 256 → iA ((k : Int) - 128) 255 = ub ((k : Int) - 128) := by decide +kernel
theorem iA_u {z : Int} (h : -128 ≤ z ∧ z ≤ 127) : iA z 255 = ub z := by
  have k := iA_d (z + 128).toNat (by omega)
  rw [show (((z + 128).toNat : Nat) : Int) - 128 = z by omega] at k
  exact k
theorem ub_r {z : Int} (h : -128 ≤ z ∧ z ≤ 127) : (0 ≤ ub z ∧ ub z ≤ 255) ∧ (∀ c : Int, 0 ≤ c → c ≤ 127 → (ub z = c ↔ z = c)) ∧ ∀ a c : Int, 0 ≤ a → c ≤ 127 → ((a ≤ ub z ∧ ub z ≤ c) ↔ (a ≤ z ∧ z ≤ c)) := by
  unfold ub
  split
  · refine ⟨by omega, fun c h1 h2 => by omega, fun a c h1 h2 => by omega⟩
  · refine ⟨by omega, fun c h1 h2 => Iff.rfl, fun a c h1 h2 => Iff.rfl⟩
/-- the text: n bytes b; in the class, in the reference -/
def BT (n : Int) (b : Nat → Int) : Prop := (0 ≤ n ∧ n ≤ 600) ∧ ∀ k : Nat, (k : Int) < n → -128 ≤ b k ∧ b k ≤ 127
def CB (n : Int) (b : Nat → Int) (X : xR) : Prop := X 2 1 = n ∧ ∀ k : Nat, (k : Int) < n → X 1 k = b k
def MB (n : Int) (b : Nat → Int) (μ : xR) : Prop := μ 0 22 = n ∧ ∀ k : Nat, (k : Int) < n → μ 13 k = b k
def W0 (S : xSt) : Prop := gP S 0 2 0 = (0, 1) ∧ gk S 0 = 3 ∧ 10000000 ≤ fu S
section TK
variable {n : Int} {b : Nat → Int}
theorem w0_p {S : xSt} (h : W0 S) (X : xR) : gP (sR S 0 X) 0 2 0 = (0, 1) := h.1
theorem w0_k {S : xSt} (h : W0 S) (X : xR) : gk (sR S 0 X) 0 = 3 := h.2.1
theorem cb_X {X : xR} (h : CB n b X) {k : Nat} {z : Int} (hk : k ≠ 1) : CB n b (uF X 2 k z) := by
  obtain ⟨h1, h4⟩ := h
  exact ⟨by rw [uF_k (by omega)]; exact h1, fun j hj => by rw [uF_o (by decide)]; exact h4 j hj⟩
theorem mb_m {μ : xR} (h : MB n b μ) {k : Nat} {z : Int} (hk : k ≠ 22) : MB n b (uF μ 0 k z) := by
  obtain ⟨h2, h4⟩ := h
  exact ⟨by rw [uF_k (by omega)]; exact h2, fun j hj => by rw [uF_o (by decide)]; exact h4 j hj⟩
theorem here_e {T : xSt} {μ : xR} (hn : BT n b) (h : MB n b μ) {x : Int} (hx : 0 ≤ x ∧ x ≤ n) : f_X12_here_p4_0 (sR T 13 μ) 13 x = some (if n ≤ x then -1 else ub (b x.toNat), sR T 13 μ) := by
  obtain ⟨h3, h4⟩ := hn
  obtain ⟨h2, h5⟩ := h
  unfold f_X12_here_p4_0
  rw [sR_g, h2, wr_e (z := n) (by omega), wr_e (z := x) (by omega)]
  by_cases c : n ≤ x
  · rw [if_pos c, if_pos c]
  · have k2 := h5 x.toNat (by omega)
    have k3 := h4 x.toNat (by omega)
    rw [if_neg c, if_neg c, ckI_e (by omega), sR_g, k2, iA_u k3]
theorem t_skip (hn : BT n b) : ∀ (d : Nat) (x : Int), 0 ≤ x → x + d = n → ∃ p, x ≤ p ∧ p ≤ n ∧ (p < n → b p.toNat ≠ 32 ∧ b p.toNat ≠ 10) ∧ (∀ (S : xSt) (X : xR) f, W0 S → CB n b X → d < f → f_X3_readToken_p3_2_b5 0 f (sR S 0 X) x = f_X3_readToken_p3_2_b41 0 (sR S 0 X) p) ∧ ∀ (T : xSt) (μ : xR) f, MB n b μ → d < f → ∃ f', f_X12_next_p4_0_b0 13 f (sR T 13 (uF μ 0 23 x)) = f_X12_next_p4_0_b0 13 (f' + 1) (sR T 13 (uF μ 0 23 p)) := by
  obtain ⟨h3, h4⟩ := id hn
  intro d
  induction d with
  | zero =>
    intro x hx hd
    refine ⟨x, Int.le_refl _, by omega, fun h => absurd h (by omega), fun S X f hS hX hf => ?_, fun T μ f hM hf => ?_⟩
    · obtain ⟨f, rfl⟩ := fs_e (show 0 < f by omega)
      rw [f_X3_readToken_p3_2_b5, sR_g, hX.1, wr_e (z := n) (by omega), wr_e (z := x) (by omega), if_pos (by omega)]
    · obtain ⟨f, rfl⟩ := fs_e (show 0 < f by omega)
      exact ⟨f, rfl⟩
  | succ d ih =>
    intro x hx hd
    have k3 := h4 x.toNat (by omega)
    obtain ⟨u1, u2, -⟩ := ub_r k3
    have hh := fun (T : xSt) (μ : xR) (h : MB n b μ) => here_e (T := T) hn (mb_m (k := 23) (z := x) h (by decide)) (x := x) (by omega)
    by_cases c : b x.toNat = 32 ∨ b x.toNat = 10
    · obtain ⟨p, i1, i2, i3, i4, i5⟩ := ih (x + 1) (by omega) (by omega)
      refine ⟨p, by omega, i2, i3, fun S X f hS hX hf => ?_, fun T μ f hM hf => ?_⟩
      · obtain ⟨f, rfl⟩ := fs_e (show 0 < f by omega)
        have k1 := hX.2 x.toNat (by omega)
        rw [f_X3_readToken_p3_2_b5, sR_g, hX.1, wr_e (z := n) (by omega), wr_e (z := x) (by omega), if_neg (by omega), ckP_e (w0_p hS X) (w0_k hS X), ckI_e (by omega), sR_g, k1, wr_e (z := b x.toNat) (by omega), wr_e (z := 32) (by decide)]
        by_cases c2 : b x.toNat = 32
        · rw [if_pos c2, i4 S X f hS hX (by omega)]
        · rw [if_neg c2, ckP_e (w0_p hS X) (w0_k hS X), ckI_e (by omega), sR_g, k1, wr_e (z := b x.toNat) (by omega), wr_e (z := 10) (by decide), if_neg (by omega), i4 S X f hS hX (by omega)]
      · obtain ⟨f, rfl⟩ := fs_e (show 0 < f by omega)
        obtain ⟨f', j⟩ := i5 T μ f hM (by omega)
        refine ⟨f', ?_⟩
        rw [f_X12_next_p4_0_b0, sR_g, uF_e, hh T μ hM, bd2_e, if_neg (show ¬ n ≤ x by omega), wr_e (z := ub (b x.toNat)) (by omega), wr_e (z := 32) (by decide)]
        unfold f_X12_next_p4_0_b26
        by_cases c2 : b x.toNat = 32
        · rw [if_pos ((u2 32 (by decide) (by decide)).mpr c2), sR_g, uF_e, sR_w, uF_s, lt1_e, j]
        · rw [if_neg (fun h => c2 ((u2 32 (by decide) (by decide)).mp h)), sR_g, uF_e, hh T μ hM, bd2_e, if_neg (show ¬ n ≤ x by omega), wr_e (z := ub (b x.toNat)) (by omega), wr_e (z := 10) (by decide), if_neg (fun h => h ((u2 10 (by decide) (by decide)).mpr (by omega))), sR_g, uF_e, sR_w, uF_s, lt1_e, j]
    · refine ⟨x, Int.le_refl _, by omega, fun _ => by omega, fun S X f hS hX hf => ?_, fun T μ f hM hf => ?_⟩
      · obtain ⟨f, rfl⟩ := fs_e (show 0 < f by omega)
        have k1 := hX.2 x.toNat (by omega)
        rw [f_X3_readToken_p3_2_b5, sR_g, hX.1, wr_e (z := n) (by omega), wr_e (z := x) (by omega), if_neg (by omega), ckP_e (w0_p hS X) (w0_k hS X), ckI_e (by omega), sR_g, k1, wr_e (z := b x.toNat) (by omega), wr_e (z := 32) (by decide), if_neg (by omega), ckP_e (w0_p hS X) (w0_k hS X), ckI_e (by omega), sR_g, k1, wr_e (z := b x.toNat) (by omega), wr_e (z := 10) (by decide), if_pos (by omega)]
      · obtain ⟨f, rfl⟩ := fs_e (show 0 < f by omega)
        exact ⟨f, rfl⟩
theorem t_let (hn : BT n b) : ∀ (d : Nat) (x : Int), 0 ≤ x → x + d = n → ∃ e, x ≤ e ∧ e ≤ n ∧ (∀ j : Nat, x ≤ (j : Int) → (j : Int) < e → 97 ≤ b j ∧ b j ≤ 122) ∧ (e < n → ¬ (97 ≤ b e.toNat ∧ b e.toNat ≤ 122)) ∧ (x < n → 97 ≤ b x.toNat ∧ b x.toNat ≤ 122 → x < e) ∧ (∀ (S : xSt) (X : xR) f, W0 S → CB n b X → d < f → f_X3_endOfWord_p3_2_b2 0 f (sR S 0 X) x = some (e, sR S 0 (uF X 2 3 1))) ∧ ∀ (T : xSt) (μ : xR) f, MB n b μ → d < f → f_X12_next_p4_0_b83 13 f (sR T 13 (uF μ 0 23 x)) = (bd2 (f_X12_wordHere_p4_0 (sR T 13 (uF (uF μ 0 23 e) 0 25 1)) 13) fun v58 S57 => lt1 (wI S57 13 0 26 v58) fun S59 => some S59) := by
  obtain ⟨h3, h4⟩ := id hn
  intro d
  induction d with
  | zero =>
    intro x hx hd
    have hh := fun (T : xSt) (μ : xR) (h : MB n b μ) => here_e (T := T) hn (mb_m (k := 23) (z := x) h (by decide)) (x := x) (by omega)
    refine ⟨x, Int.le_refl _, by omega, fun j a c => absurd c (by omega), fun h => absurd h (by omega), fun h => absurd h (by omega), fun S X f hS hX hf => ?_, fun T μ f hM hf => ?_⟩
    · obtain ⟨f, rfl⟩ := fs_e (show 0 < f by omega)
      rw [f_X3_endOfWord_p3_2_b2, sR_g, hX.1, wr_e (z := n) (by omega), wr_e (z := x) (by omega), if_pos (by omega), sR_w, lt1_e]
    · obtain ⟨f, rfl⟩ := fs_e (show 0 < f by omega)
      rw [f_X12_next_p4_0_b83, sR_g, uF_e, hh T μ hM, bd2_e, if_pos (show n ≤ x by omega), wr_e (z := -1) (by decide), p_isIn (by decide) (by decide) (by decide), bd2_e, if_neg (show ¬ ((97 : Int) ≤ -1 ∧ (-1 : Int) ≤ 122) by decide), if_pos (by decide), sR_w, lt1_e]
  | succ d ih =>
    intro x hx hd
    have k3 := h4 x.toNat (by omega)
    obtain ⟨u1, -, u3⟩ := ub_r k3
    have hh := fun (T : xSt) (μ : xR) (h : MB n b μ) => here_e (T := T) hn (mb_m (k := 23) (z := x) h (by decide)) (x := x) (by omega)
    have u4 := u3 97 122 (by decide) (by decide)
    by_cases c : 97 ≤ b x.toNat ∧ b x.toNat ≤ 122
    · obtain ⟨e, i1, i2, i3, i4, i7, i5, i6⟩ := ih (x + 1) (by omega) (by omega)
      refine ⟨e, by omega, i2, fun j a1 a2 => ?_, i4, fun _ _ => by omega, fun S X f hS hX hf => ?_, fun T μ f hM hf => ?_⟩
      · by_cases e9 : j = x.toNat
        · subst e9
          exact c
        · exact i3 j (by omega) a2
      · obtain ⟨f, rfl⟩ := fs_e (show 0 < f by omega)
        have k1 := hX.2 x.toNat (by omega)
        rw [f_X3_endOfWord_p3_2_b2, sR_g, hX.1, wr_e (z := n) (by omega), wr_e (z := x) (by omega), if_neg (by omega), ckP_e (w0_p hS X) (w0_k hS X), ckI_e (by omega), sR_g, k1, wr_e (z := b x.toNat) (by omega), wr_e (z := 97) (by decide), if_neg (by omega), ckP_e (w0_p hS X) (w0_k hS X), ckI_e (by omega), sR_g, k1, wr_e (z := b x.toNat) (by omega), wr_e (z := 122) (by decide), if_neg (by omega), i5 S X f hS hX (by omega)]
      · obtain ⟨f, rfl⟩ := fs_e (show 0 < f by omega)
        rw [f_X12_next_p4_0_b83, sR_g, uF_e, hh T μ hM, bd2_e, if_neg (show ¬ n ≤ x by omega), wr_e (z := ub (b x.toNat)) (by omega), p_isIn (by omega) (by decide) (by decide), bd2_e, if_pos (u4.mpr c), if_neg (by decide), sR_g, uF_e, sR_w, uF_s, lt1_e, i6 T μ f hM (by omega)]
    · refine ⟨x, Int.le_refl _, by omega, fun j a1 a2 => absurd a2 (by omega), fun _ => c, fun _ h => absurd h c, fun S X f hS hX hf => ?_, fun T μ f hM hf => ?_⟩
      · obtain ⟨f, rfl⟩ := fs_e (show 0 < f by omega)
        have k1 := hX.2 x.toNat (by omega)
        rw [f_X3_endOfWord_p3_2_b2, sR_g, hX.1, wr_e (z := n) (by omega), wr_e (z := x) (by omega), if_neg (by omega), ckP_e (w0_p hS X) (w0_k hS X), ckI_e (by omega), sR_g, k1, wr_e (z := b x.toNat) (by omega), wr_e (z := 97) (by decide)]
        by_cases c2 : b x.toNat < 97
        · rw [if_pos c2, sR_w, lt1_e]
        · rw [if_neg c2, ckP_e (w0_p hS X) (w0_k hS X), ckI_e (by omega), sR_g, k1, wr_e (z := b x.toNat) (by omega), wr_e (z := 122) (by decide), if_pos (by omega), sR_w, lt1_e]
      · obtain ⟨f, rfl⟩ := fs_e (show 0 < f by omega)
        rw [f_X12_next_p4_0_b83, sR_g, uF_e, hh T μ hM, bd2_e, if_neg (show ¬ n ≤ x by omega), wr_e (z := ub (b x.toNat)) (by omega), p_isIn (by omega) (by decide) (by decide), bd2_e, if_neg (fun h => c (u4.mp h)), if_pos (by decide), sR_w, lt1_e]
end TK
