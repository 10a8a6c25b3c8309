/-! mathematics: a program out of its drafts, on both sides -/
theorem osm_c {π π' : xR} (h : ∀ k, π' 10 k = π 10 k) (a : Nat) : ∀ m, osm π' a m = osm π a m := by
  intro m
  induction m with
  | zero => rfl
  | succ m ih =>
    show osm π' a m + π' 10 (a + m) = osm π a m + π 10 (a + m)
    rw [ih, h]
theorem lpk_c {π π' : xR} (h5 : ∀ k, π' 5 k = π 5 k) (h11 : ∀ k, π' 11 k = π 11 k) {k : Nat} : lpk π' k ↔ lpk π k := by
  unfold lpk
  simp only [h5, h11]
theorem tb6_3 : ∀ k : Nat, k < 10 → tbI 6 k = tbI 3 k := by decide +kernel
theorem iM9 {z : Int} (h : 0 ≤ z ∧ z ≤ 9) : iMin (iMax z 0) 9 = z := by
  rw [iMx (by omega)]
  unfold iMin
  rw [wr_e (z := 9) (by decide), wr_e (z := z) (by omega), if_neg (by omega)]
/-- what link needs of a program of s instructions -/
def LKP (Y : xR) (s : Nat) : Prop := Y 0 10 = (s : Int) ∧ s ≤ 60 ∧ ∀ k : Nat, k < s → (0 ≤ Y 5 k ∧ Y 5 k ≤ 9) ∧ (Y 6 k = 0 ∨ Y 6 k = 1) ∧ (8 ≤ Y 5 k → -(k : Int) ≤ Y 7 k ∧ Y 7 k ≤ 10)
def tgo (s : Nat) (z : Int) : Int := if (s : Int) < z then (s : Int) else z
def LK1 (Y Y' : xR) (s m : Nat) : Prop := (∀ o k : Nat, o ≠ 9 → o ≠ 10 → o ≠ 11 → Y' o k = Y o k) ∧ Y' 9 0 = Y 9 0 ∧ ∀ j : Nat, j < m → Y' 9 (j + 1) = Y' 9 j + tbI 3 (Y 5 j).toNat + Y 6 j ∧ Y' 10 j = tbI 1 (Y 5 j).toNat ∧ (8 ≤ Y 5 j → Y' 11 j = tgo s ((j : Int) + Y 7 j)) ∧ (Y 5 j < 8 → Y' 11 j = -1)
section LI
variable {S T : xSt} {q s : Nat} {Y Y1 Y' μ μ' : xR}
theorem c_ijb (h0 : Y 0 10 = (s : Int)) (h60 : s ≤ 60) {k : Nat} (hk : k < s) (h5 : 0 ≤ Y 5 k ∧ Y 5 k ≤ 9) : f_X5_isJumpOrBranch_p2_0 (sR S q Y) q (k : Int) = some (if 8 ≤ Y 5 k then 1 else 0, sR S q Y) := by
  unfold f_X5_isJumpOrBranch_p2_0
  rw [wr_e (z := (k : Int)) (by omega), if_neg (by omega), sR_g, h0, wr_e (z := (s : Int)) (by omega), if_neg (by omega), ckI_e (by omega), sR_g, Int.toNat_natCast, wr_e (z := Y 5 k) (by omega), wr_e (z := 8) (by decide)]
  by_cases c : Y 5 k < 8
  · rw [if_pos c, if_neg (by omega)]
  · rw [if_neg c, if_pos (by omega)]
theorem lk_step (hL : LKP Y s) {k : Nat} (hk : k < s) (h1 : LK1 Y Y1 s k) {f : Nat} : ∃ Y2, f_X5_link_p2_0_b2 q (f + 1) (sR S q Y1) (k : Int) = f_X5_link_p2_0_b2 q f (sR S q Y2) ((k + 1 : Nat) : Int) ∧ LK1 Y Y2 s (k + 1) := by
  obtain ⟨i1, i2, i3⟩ := hL
  obtain ⟨j1, j2, j3⟩ := h1
  obtain ⟨k5, k6, k7⟩ := i3 k hk
  have e0 : Y1 0 10 = (s : Int) := by rw [j1 0 10 (by decide) (by decide) (by decide), i1]
  have e5 : Y1 5 k = Y 5 k := j1 5 k (by decide) (by decide) (by decide)
  have e6 : Y1 6 k = Y 6 k := j1 6 k (by decide) (by decide) (by decide)
  have e7 : Y1 7 k = Y 7 k := j1 7 k (by decide) (by decide) (by decide)
  refine ⟨uF (uF (uF Y1 9 (k + 1) (Y1 9 k + tbI 3 (Y 5 k).toNat + Y 6 k)) 10 k (tbI 1 (Y 5 k).toNat)) 11 k (if 8 ≤ Y 5 k then tgo s ((k : Int) + Y 7 k) else -1), ?_, ?_⟩
  · have h59 : f_X5_link_p2_0_b59 (f_X5_link_p2_0_b2 q f) q (sR S q Y1) (k : Int) (Y 5 k) (Y 6 k) (Y1 9 k + tbI 3 (Y 5 k).toNat) ((k : Int) + 1) = f_X5_link_p2_0_b2 q f (sR S q (uF (uF (uF Y1 9 (k + 1) (Y1 9 k + tbI 3 (Y 5 k).toNat + Y 6 k)) 10 k (tbI 1 (Y 5 k).toNat)) 11 k (if 8 ≤ Y 5 k then tgo s ((k : Int) + Y 7 k) else -1))) ((k + 1 : Nat) : Int) := by
      unfold f_X5_link_p2_0_b59
      rw [ckI_e (by omega), wr_e (z := (k : Int) + 1) (by omega), show ((k : Int) + 1).toNat = k + 1 by omega, sR_w, lt1_e, ckI_e (by omega), ckI_e (by omega), wr_e (z := (k : Int)) (by omega), Int.toNat_natCast, wr_e (z := Y 5 k) (by omega), sR_w, lt1_e, c_ijb (s := s) (by simp (disch := omega) only [uF_e, uF_n]; exact e0) i2 hk (by simp (disch := omega) only [uF_e, uF_n]; rw [e5]; exact k5), bd2_e]
      have e5b : (uF (uF Y1 9 (k + 1) (Y1 9 k + tbI 3 (Y 5 k).toNat + Y 6 k)) 10 k (tbI 1 (Y 5 k).toNat)) 5 k = Y 5 k := by
        simp (disch := omega) only [uF_e, uF_n]
        exact e5
      rw [e5b]
      by_cases c : 8 ≤ Y 5 k
      · have k7 := k7 c
        rw [if_pos c, if_neg (by decide), if_pos c, ckI_e (by omega), ckI_e (by omega), sR_g, sR_g, uF_n (by omega), uF_n (by omega), uF_n (by omega), uF_n (by omega), e7, e0, sR_w, lt1_e]
        have em : iMin ((k : Int) + Y 7 k) (s : Int) = tgo s ((k : Int) + Y 7 k) := by
          unfold iMin tgo
          rw [wr_e (z := (s : Int)) (by omega), wr_e (z := (k : Int) + Y 7 k) (by omega)]
        rw [em]
        rfl
      · rw [if_neg c, if_pos (by decide), if_neg c, ckI_e (by omega), sR_w, lt1_e]
        rfl
    rw [f_X5_link_p2_0_b2, sR_g, e0, wr_e (z := (s : Int)) (by omega), wr_e (z := (k : Int)) (by omega), if_neg (by omega), ckI_e (by omega), ckI_e (by omega), sR_g, Int.toNat_natCast, e5, iM9 k5, ckI_e (by omega), sR_g, wr_e (z := Y 5 k) (by omega), lt1_e, ckI_e (by omega), sR_g, e6]
    rcases k6 with c | c
    · rw [c, if_pos (by decide)]
      rw [c] at h59
      exact h59
    · rw [c, if_neg (by decide)]
      rw [c] at h59
      exact h59
  · refine ⟨fun o k' a b c => ?_, ?_, fun j hj => ?_⟩
    · simp (disch := omega) only [uF_e, uF_n]
      exact j1 o k' a b c
    · simp (disch := omega) only [uF_e, uF_n]
      exact j2
    · by_cases c : j = k
      · subst c
        simp (disch := omega) only [uF_e, uF_n]
        refine ⟨trivial, trivial, fun h => if_pos h, fun h => if_neg (by omega)⟩
      · obtain ⟨a1, a2, a3, a4⟩ := j3 j (by omega)
        simp (disch := omega) only [uF_e, uF_n]
        exact ⟨a1, a2, a3, a4⟩
theorem lk_1 (hL : LKP Y s) : ∀ (d k f : Nat) (Y1 : xR), k + d = s → d < f → LK1 Y Y1 s k → ∃ Y2, f_X5_link_p2_0_b2 q f (sR S q Y1) (k : Int) = f_X5_link_p2_0_b113 q (fu S) (sR S q Y2) 0 ∧ LK1 Y Y2 s s := by
  intro d
  induction d with
  | zero =>
    intro k f Y1 hk hf h1
    obtain ⟨f, rfl⟩ := fs_e (show 0 < f by omega)
    have ek : k = s := by omega
    subst ek
    refine ⟨Y1, ?_, h1⟩
    have e0 : Y1 0 10 = (k : Int) := by rw [h1.1 0 10 (by decide) (by decide) (by decide), hL.1]
    rw [f_X5_link_p2_0_b2, sR_g, e0, if_pos (Int.le_refl _)]
    rfl
  | succ d ih =>
    intro k f Y1 hk hf h1
    obtain ⟨f, rfl⟩ := fs_e (show 0 < f by omega)
    obtain ⟨Y2, a1, a2⟩ := lk_step (S := S) (q := q) hL (show k < s by omega) h1 (f := f)
    obtain ⟨Y3, b1, b2⟩ := ih (k + 1) f Y2 (by omega) (by omega) a2
    exact ⟨Y3, a1.trans b1, b2⟩
/-- a linked program, but for the loops' ops -/
def LKD (Y : xR) (s : Nat) : Prop := Y 0 10 = (s : Int) ∧ s ≤ 60 ∧ ∀ k : Nat, k < s → (0 ≤ Y 5 k ∧ Y 5 k ≤ 9) ∧ (8 ≤ Y 5 k → 0 ≤ Y 11 k ∧ Y 11 k ≤ (s : Int)) ∧ (Y 5 k < 8 → Y 11 k = -1)
theorem oft_b (hL : LKD Y s) {k a : Nat} (hk : k < s) : ∀ (d i f : Nat), a + i + d = k → d < f → (∀ j : Nat, a ≤ j → j < a + i → Y 5 j < 8) → ((∀ j : Nat, a ≤ j → j < k → Y 5 j < 8) ∧ f_X5_opsFromTarget_p2_0_b23 q f (sR S q Y) (k : Int) (osm Y a i) ((a + i : Nat) : Int) = some (osm Y a (k + 1 - a), sR S q Y)) ∨ (¬ (∀ j : Nat, a ≤ j → j < k → Y 5 j < 8) ∧ f_X5_opsFromTarget_p2_0_b23 q f (sR S q Y) (k : Int) (osm Y a i) ((a + i : Nat) : Int) = some (-1, sR S q Y)) := by
  obtain ⟨i1, i2, i3⟩ := hL
  intro d
  induction d with
  | zero =>
    intro i f hi hf hall
    obtain ⟨f, rfl⟩ := fs_e (show 0 < f by omega)
    left
    have ek : k = a + i := by omega
    subst ek
    refine ⟨hall, ?_⟩
    rw [f_X5_opsFromTarget_p2_0_b23, if_pos (Int.le_refl _), ckI_e (by omega), sR_g, wr_e (z := ((a + i : Nat) : Int)) (by omega), Int.toNat_natCast, show a + i + 1 - a = i + 1 by omega]
    rfl
  | succ d ih =>
    intro i f hi hf hall
    obtain ⟨f, rfl⟩ := fs_e (show 0 < f by omega)
    have h5 := (i3 (a + i) (by omega)).1
    have step : f_X5_opsFromTarget_p2_0_b23 q (f + 1) (sR S q Y) (k : Int) (osm Y a i) ((a + i : Nat) : Int) = (if 8 ≤ Y 5 (a + i) then some (-1, sR S q Y) else f_X5_opsFromTarget_p2_0_b23 q f (sR S q Y) (k : Int) (osm Y a (i + 1)) ((a + (i + 1) : Nat) : Int)) := by
      rw [f_X5_opsFromTarget_p2_0_b23, wr_e (z := (k : Int)) (by omega), wr_e (z := ((a + i : Nat) : Int)) (by omega), if_neg (by omega), c_ijb i1 i2 (show a + i < s by omega) h5, bd2_e]
      by_cases c : 8 ≤ Y 5 (a + i)
      · rw [if_pos c, if_neg (by decide), if_pos c]
      · rw [if_neg c, if_pos (by decide), if_neg c, ckI_e (by omega), sR_g, Int.toNat_natCast, show ((a + i : Nat) : Int) + 1 = ((a + (i + 1) : Nat) : Int) by omega]
        rfl
    rw [step]
    by_cases c : 8 ≤ Y 5 (a + i)
    · right
      exact ⟨fun h => absurd (h (a + i) (by omega) (by omega)) (by omega), if_pos c⟩
    · rw [if_neg c]
      exact ih (i + 1) f (by omega) (by omega) (fun j h1 h2 => by
        by_cases e9 : j = a + i
        · subst e9
          omega
        · exact hall j h1 (by omega))
theorem c_oft (hL : LKD Y s) (hf : 10000000 ≤ fu S) {k : Nat} (hk : k < s) : ∃ v, f_X5_opsFromTarget_p2_0 (sR S q Y) q (k : Int) = some (v, sR S q Y) ∧ (lpk Y k → v = osm Y (Y 11 k).toNat (k + 1 - (Y 11 k).toNat)) ∧ (¬ lpk Y k → v = -1) := by
  obtain ⟨i1, i2, i3⟩ := id hL
  obtain ⟨k5, k8, k7⟩ := i3 k hk
  have h11 : -1 ≤ Y 11 k ∧ Y 11 k ≤ 60 := by
    by_cases c : 8 ≤ Y 5 k
    · have := k8 c
      omega
    · have := k7 (by omega)
      omega
  have st : f_X5_opsFromTarget_p2_0 (sR S q Y) q (k : Int) = (if Y 11 k < 0 then some (-1, sR S q Y) else if Y 11 k ≤ (k : Int) then f_X5_opsFromTarget_p2_0_b23 q (fu S) (sR S q Y) (k : Int) 0 (Y 11 k) else some (-1, sR S q Y)) := by
    unfold f_X5_opsFromTarget_p2_0
    rw [ckI_e (by omega), sR_g, wr_e (z := (k : Int)) (by omega), Int.toNat_natCast, wr_e (z := Y 11 k) (by omega)]
    rfl
  rw [st]
  by_cases c1 : Y 11 k < 0
  · refine ⟨-1, if_pos c1, fun h => ?_, fun _ => rfl⟩
    have := k8 h.1
    omega
  · rw [if_neg c1]
    by_cases c2 : Y 11 k ≤ (k : Int)
    · rw [if_pos c2]
      have ea : (((Y 11 k).toNat + 0 : Nat) : Int) = Y 11 k := by omega
      have h8 : 8 ≤ Y 5 k := by
        by_cases c : 8 ≤ Y 5 k
        · exact c
        · have := k7 (by omega)
          omega
      rcases oft_b (S := S) (q := q) hL (a := (Y 11 k).toNat) hk (k - (Y 11 k).toNat) 0 (fu S) (by omega) (by omega) (fun j h1 h2 => absurd h1 (by omega)) with ⟨a1, a2⟩ | ⟨a1, a2⟩
      · rw [ea] at a2
        exact ⟨_, a2, fun _ => rfl, fun h => absurd ⟨h8, c2, fun j h1 h2 => a1 j (by omega) h2⟩ h⟩
      · rw [ea] at a2
        exact ⟨_, a2, fun h => absurd (fun j h1 h2 => h.2.2 j (by omega) h2) a1, fun _ => rfl⟩
    · refine ⟨-1, if_neg c2, fun h => absurd h.2.1 c2, fun _ => rfl⟩
theorem lk_2 (hf : 10000000 ≤ fu S) : ∀ (d k f : Nat) (Y1 : xR), k + d = s → d < f → LKD Y1 s → (∀ j : Nat, j < k → (lpk Y1 j → Y1 12 j = osm Y1 (Y1 11 j).toNat (j + 1 - (Y1 11 j).toNat)) ∧ (¬ lpk Y1 j → Y1 12 j = -1)) → ∃ Y2, f_X5_link_p2_0_b113 q f (sR S q Y1) (k : Int) = some (sR S q Y2) ∧ (∀ o k : Nat, o ≠ 12 → Y2 o k = Y1 o k) ∧ ∀ j : Nat, j < s → (lpk Y2 j → Y2 12 j = osm Y2 (Y2 11 j).toNat (j + 1 - (Y2 11 j).toNat)) ∧ (¬ lpk Y2 j → Y2 12 j = -1) := by
  intro d
  induction d with
  | zero =>
    intro k f Y1 hk hff hL h1
    obtain ⟨f, rfl⟩ := fs_e (show 0 < f by omega)
    have ek : k = s := by omega
    subst ek
    refine ⟨Y1, ?_, fun _ _ _ => rfl, h1⟩
    rw [f_X5_link_p2_0_b113, sR_g, hL.1, if_pos (Int.le_refl _)]
  | succ d ih =>
    intro k f Y1 hk hff hL h1
    obtain ⟨f, rfl⟩ := fs_e (show 0 < f by omega)
    have h60 := hL.2.1
    obtain ⟨v, c1, c2, c3⟩ := c_oft (q := q) hL hf (show k < s by omega)
    have e5 : ∀ j, (uF Y1 12 k v) 5 j = Y1 5 j := fun j => uF_o (by decide)
    have e10 : ∀ j, (uF Y1 12 k v) 10 j = Y1 10 j := fun j => uF_o (by decide)
    have e11 : ∀ j, (uF Y1 12 k v) 11 j = Y1 11 j := fun j => uF_o (by decide)
    have hL2 : LKD (uF Y1 12 k v) s := by
      unfold LKD at hL ⊢
      simp only [e5, e11]
      rw [uF_o (by decide)]
      exact hL
    obtain ⟨Y2, b1, b2, b3⟩ := ih (k + 1) f (uF Y1 12 k v) (by omega) (by omega) hL2 (fun j hj => by
      rw [lpk_c e5 e11, osm_c e10, e11]
      by_cases c : j = k
      · subst c
        rw [uF_e]
        exact ⟨c2, c3⟩
      · rw [uF_k c]
        exact h1 j (by omega))
    refine ⟨Y2, ?_, fun o k' ho => ?_, b3⟩
    · rw [f_X5_link_p2_0_b113, sR_g, hL.1, wr_e (z := (s : Int)) (by omega), wr_e (z := (k : Int)) (by omega), if_neg (by omega), c1, bd2_e, ckI_e (by omega), Int.toNat_natCast, sR_w, lt1_e]
      exact b1
    · rw [b2 o k' ho, uF_o ho]
/-- the class's link -/
theorem c_link (hf : 10000000 ≤ fu S) (hL : LKP Y s) : ∃ Y1 Y2, f_X5_link_p2_0 (sR S q Y) q = some (sR S q Y2) ∧ LK1 Y Y1 s s ∧ (∀ o k : Nat, o ≠ 12 → Y2 o k = Y1 o k) ∧ ∀ j : Nat, j < s → (lpk Y2 j → Y2 12 j = osm Y2 (Y2 11 j).toNat (j + 1 - (Y2 11 j).toNat)) ∧ (¬ lpk Y2 j → Y2 12 j = -1) := by
  have hs := hL.2.1
  obtain ⟨Y1, a1, a2⟩ := lk_1 (S := S) (q := q) hL s 0 (fu S) Y (by omega) (by omega) ⟨fun _ _ _ _ _ => rfl, rfl, fun j hj => absurd hj (by omega)⟩
  have hD : LKD Y1 s := by
    refine ⟨by rw [a2.1 0 10 (by decide) (by decide) (by decide), hL.1], hs, fun k hk => ?_⟩
    obtain ⟨k5, k6, k7⟩ := hL.2.2 k hk
    obtain ⟨b1, b2, b3, b4⟩ := a2.2.2 k hk
    rw [a2.1 5 k (by decide) (by decide) (by decide)]
    refine ⟨k5, fun h => ?_, b4⟩
    have k7 := k7 h
    rw [b3 h]
    unfold tgo
    split <;> omega
  obtain ⟨Y2, c1, c2, c3⟩ := lk_2 (S := S) (q := q) hf s 0 (fu S) Y1 (by omega) (by omega) hD (fun j hj => absurd hj (by omega))
  refine ⟨Y1, Y2, ?_, a2, c2, c3⟩
  unfold f_X5_link_p2_0
  exact a1.trans c1
/-! the reference's program -/
def MT1 (μ μ' : xR) (s m : Nat) : Prop := (∀ o k : Nat, ¬ (1 ≤ o ∧ o ≤ 4) → μ' o k = μ o k) ∧ ∀ j : Nat, j < m → μ' 1 j = μ 14 j ∧ μ' 2 j = μ 15 j ∧ μ' 3 j = (if 8 ≤ μ 14 j then tgo s ((j : Int) + μ 16 j) else -1) ∧ μ' 4 j = μ 17 j
def MT2 (μ μ' : xR) (m : Nat) : Prop := (∀ o k : Nat, o ≠ 5 → μ' o k = μ o k) ∧ μ' 5 0 = 0 ∧ ∀ j : Nat, j < m → μ' 5 (j + 1) = μ' 5 j + (tbI 6 (μ 1 j).toNat + μ 2 j)
def MTP (μ : xR) (s : Nat) : Prop := s ≤ 60 ∧ ∀ k : Nat, k < s → (0 ≤ μ 14 k ∧ μ 14 k ≤ 9) ∧ (8 ≤ μ 14 k → -(k : Int) ≤ μ 16 k ∧ μ 16 k ≤ 10)
theorem m_tof {μ1 : xR} (hP : MTP μ s) {k : Nat} (hk : k < s) (h1 : μ1 0 1 = (s : Int)) (h14 : μ1 14 k = μ 14 k) (h16 : μ1 16 k = μ 16 k) : f_X12_targetOf_p4_0 (sR T 13 μ1) 13 (k : Int) = some (if 8 ≤ μ 14 k then tgo s ((k : Int) + μ 16 k) else -1, sR T 13 μ1) := by
  obtain ⟨p1, p2⟩ := hP
  obtain ⟨k1, k2⟩ := p2 k hk
  unfold f_X12_targetOf_p4_0
  rw [ckI_e (by omega), sR_g, wr_e (z := (k : Int)) (by omega), Int.toNat_natCast, h14, wr_e (z := μ 14 k) (by omega), wr_e (z := 8) (by decide)]
  by_cases c : 8 ≤ μ 14 k
  · have k2 := k2 c
    rw [if_pos c, ckI_e (by omega), sR_g, h16, sR_g, h1, wr_e (z := (k : Int) + μ 16 k) (by omega), wr_e (z := (s : Int)) (by omega), if_pos c]
    unfold tgo
    by_cases c2 : (k : Int) + μ 16 k ≤ (s : Int)
    · rw [if_pos c2, if_neg (by omega)]
    · rw [if_neg c2, if_pos (by omega)]
  · rw [if_neg c, if_neg c]
theorem mt_1 (hP : MTP μ s) (hs : μ 0 1 = (s : Int)) : ∀ (d k f : Nat) (μ1 : xR), k + d = s → d < f → MT1 μ μ1 s k → ∃ μ2, f_X12_takesDraft_p4_0_b34 13 f (sR T 13 μ1) (k : Int) = f_X12_takesDraft_p4_0_b104 13 (fu T) (sR T 13 (uF μ2 5 0 0)) 0 ∧ MT1 μ μ2 s s := by
  have h60 := hP.1
  intro d
  induction d with
  | zero =>
    intro k f μ1 hk hf h1
    obtain ⟨f, rfl⟩ := fs_e (show 0 < f by omega)
    have ek : k = s := by omega
    subst ek
    refine ⟨μ1, ?_, h1⟩
    rw [f_X12_takesDraft_p4_0_b34, sR_g, h1.1 0 1 (by omega), hs, if_pos (Int.le_refl _), sR_w, lt1_e]
    rfl
  | succ d ih =>
    intro k f μ1 hk hf h1
    obtain ⟨f, rfl⟩ := fs_e (show 0 < f by omega)
    have hks : k < s := by omega
    obtain ⟨j1, j2⟩ := h1
    have e14 := j1 14 k (by omega)
    have e15 := j1 15 k (by omega)
    have e16 := j1 16 k (by omega)
    have e17 := j1 17 k (by omega)
    have e01 : μ1 0 1 = (s : Int) := by rw [j1 0 1 (by omega), hs]
    obtain ⟨μ2, b1, b2⟩ := ih (k + 1) f (uF (uF (uF (uF μ1 1 k (μ 14 k)) 2 k (μ 15 k)) 3 k (if 8 ≤ μ 14 k then tgo s ((k : Int) + μ 16 k) else -1)) 4 k (μ 17 k)) (by omega) (by omega) ⟨fun o k' h => by
      simp (disch := omega) only [uF_e, uF_n]
      exact j1 o k' h, fun j hj => by
      by_cases c : j = k
      · subst c
        refine ⟨?_, ?_, ?_, ?_⟩
        · rw [uF_n (by omega), uF_n (by omega), uF_n (by omega), uF_e]
        · rw [uF_n (by omega), uF_n (by omega), uF_e]
        · rw [uF_n (by omega), uF_e]
        · rw [uF_e]
      · simp (disch := omega) only [uF_e, uF_n]
        exact j2 j (by omega)⟩
    refine ⟨μ2, ?_, b2⟩
    rw [f_X12_takesDraft_p4_0_b34, sR_g, e01, wr_e (z := (s : Int)) (by omega), wr_e (z := (k : Int)) (by omega), if_neg (by omega), ckI_e (by omega), ckI_e (by omega), sR_g, Int.toNat_natCast, e14, sR_w, lt1_e, ckI_e (by omega), ckI_e (by omega), sR_g, uF_n (by omega), e15, sR_w, lt1_e, m_tof hP hks (by rw [uF_n (by omega), uF_n (by omega)]; exact e01) (by rw [uF_n (by omega), uF_n (by omega)]; exact e14) (by rw [uF_n (by omega), uF_n (by omega)]; exact e16), bd2_e, ckI_e (by omega), sR_w, lt1_e, ckI_e (by omega), ckI_e (by omega), sR_g, uF_n (by omega), uF_n (by omega), uF_n (by omega), e17, sR_w, lt1_e]
    exact b1
theorem mt_2 (h60 : s ≤ 60) (hs : μ 0 1 = (s : Int)) (h1 : ∀ j : Nat, j < s → 0 ≤ μ 1 j ∧ μ 1 j ≤ 9) : ∀ (d k f : Nat) (μ1 : xR), k + d = s → d < f → MT2 μ μ1 k → ∃ μ2, f_X12_takesDraft_p4_0_b104 13 f (sR T 13 μ1) (k : Int) = (bd (f_X12_copies_p4_7_4_6 (sR T 13 μ2) 13 13) fun S7 => lt1 (wI S7 13 0 16 0) fun S8 => lt1 (wI S8 13 0 17 0) fun S9 => some S9) ∧ MT2 μ μ2 s := by
  intro d
  induction d with
  | zero =>
    intro k f μ1 hk hf h
    obtain ⟨f, rfl⟩ := fs_e (show 0 < f by omega)
    have ek : k = s := by omega
    subst ek
    refine ⟨μ1, ?_, h⟩
    rw [f_X12_takesDraft_p4_0_b104, sR_g, h.1 0 1 (by omega), hs, if_pos (Int.le_refl _)]
  | succ d ih =>
    intro k f μ1 hk hf h
    obtain ⟨f, rfl⟩ := fs_e (show 0 < f by omega)
    obtain ⟨j1, j2, j3⟩ := h
    have k1 := h1 k (by omega)
    have e01 : μ1 0 1 = (s : Int) := by rw [j1 0 1 (by omega), hs]
    have e1 := j1 1 k (by omega)
    have e2 := j1 2 k (by omega)
    obtain ⟨μ2, b1, b2⟩ := ih (k + 1) f (uF μ1 5 (k + 1) (μ1 5 k + (tbI 6 (μ 1 k).toNat + μ 2 k))) (by omega) (by omega) ⟨fun o k' h => by
      rw [uF_n (by omega)]
      exact j1 o k' h, by
      rw [uF_n (by omega)]
      exact j2, fun j hj => by
      by_cases c : j = k
      · subst c
        rw [uF_e, uF_n (by omega)]
      · rw [uF_n (by omega), uF_n (by omega)]
        exact j3 j (by omega)⟩
    refine ⟨μ2, ?_, b2⟩
    have hlen : f_X12_lengthOf_p4_0 (sR T 13 μ1) 13 (k : Int) = some (tbI 6 (μ 1 k).toNat + μ 2 k, sR T 13 μ1) := by
      unfold f_X12_lengthOf_p4_0
      rw [ckI_e (by omega), sR_g, wr_e (z := (k : Int)) (by omega), Int.toNat_natCast, e1, ckI_e (by omega), ckI_e (by omega), sR_g, e2, wr_e (z := μ 1 k) (by omega)]
    rw [f_X12_takesDraft_p4_0_b104, sR_g, e01, wr_e (z := (s : Int)) (by omega), wr_e (z := (k : Int)) (by omega), if_neg (by omega), ckI_e (by omega), hlen, bd2_e, ckI_e (by omega), wr_e (z := (k : Int) + 1) (by omega), show ((k : Int) + 1).toNat = k + 1 by omega, sR_g, Int.toNat_natCast, sR_w, lt1_e, show (k : Int) + 1 = ((k + 1 : Nat) : Int) by omega]
    exact b1
/-- the reference takes its drafts -/
theorem m_take (hT : 10000000 ≤ fu T) (hs : μ 0 31 = (s : Int)) (hP : MTP μ s) : ∃ μ', f_X12_takesDraft_p4_0 (sR T 13 μ) 13 = some (sR T 13 μ') ∧ (∀ o k : Nat, ¬ (1 ≤ o ∧ o ≤ 6) → ¬ (o = 0 ∧ (k = 1 ∨ k = 2 ∨ k = 3 ∨ k = 4 ∨ k = 16 ∨ k = 17)) → μ' o k = μ o k) ∧ μ' 0 1 = (s : Int) ∧ μ' 0 2 = μ 0 33 ∧ μ' 0 3 = μ 0 34 ∧ μ' 0 4 = μ 0 35 ∧ μ' 0 16 = 0 ∧ μ' 0 17 = 0 ∧ (∀ k : Nat, k < 363 → μ' 6 k = μ 7 k) ∧ (∀ j : Nat, j < s → μ' 1 j = μ 14 j ∧ μ' 2 j = μ 15 j ∧ μ' 3 j = (if 8 ≤ μ 14 j then tgo s ((j : Int) + μ 16 j) else -1) ∧ μ' 4 j = μ 17 j) ∧ μ' 5 0 = 0 ∧ ∀ j : Nat, j < s → μ' 5 (j + 1) = μ' 5 j + (tbI 6 (μ 14 j).toNat + μ 15 j) := by
  have h60 := hP.1
  have hP0 : MTP (uF (uF (uF (uF μ 0 1 (μ 0 31)) 0 2 (μ 0 33)) 0 3 (μ 0 34)) 0 4 (μ 0 35)) s := by
    unfold MTP at hP ⊢
    simp (disch := omega) only [uF_e, uF_n]
    exact hP
  obtain ⟨μ2, a1, a2, a3⟩ := mt_1 (T := T) hP0 (by simp (disch := omega) only [uF_e, uF_n]; exact hs) s 0 (fu T) _ (by omega) (by omega) ⟨fun _ _ _ => rfl, fun j hj => absurd hj (by omega)⟩
  have c3 : ∀ j : Nat, j < s → μ2 1 j = μ 14 j ∧ μ2 2 j = μ 15 j ∧ μ2 3 j = (if 8 ≤ μ 14 j then tgo s ((j : Int) + μ 16 j) else -1) ∧ μ2 4 j = μ 17 j := fun j hj => by
    have k := a3 j hj
    rw [uF_n (by omega), uF_n (by omega), uF_n (by omega), uF_n (by omega), uF_n (by omega), uF_n (by omega), uF_n (by omega), uF_n (by omega), uF_n (by omega), uF_n (by omega), uF_n (by omega), uF_n (by omega), uF_n (by omega), uF_n (by omega), uF_n (by omega), uF_n (by omega)] at k
    exact k
  obtain ⟨μ3, b1, b2, b3, b4⟩ := mt_2 (T := T) (μ := uF μ2 5 0 0) h60 (by rw [uF_n (by omega), a2 0 1 (by omega)]; simp (disch := omega) only [uF_e, uF_n]; exact hs) (fun j hj => by
    rw [uF_n (by omega), (c3 j hj).1]
    exact (hP.2 j hj).1) s 0 (fu T) (uF μ2 5 0 0) (by omega) (by omega) ⟨fun _ _ _ => rfl, uF_e, fun j hj => absurd hj (by omega)⟩
  obtain ⟨g, g1, g2⟩ := p_cop7_6 (T := T) (μ := μ3) hT
  refine ⟨uF (uF (uG μ3 6 g) 0 16 0) 0 17 0, ?_, fun o k h1 h2 => ?_, ?_, ?_, ?_, ?_, ?_, ?_, fun k hk => ?_, fun j hj => ?_, ?_, fun j hj => ?_⟩
  · unfold f_X12_takesDraft_p4_0
    rw [sR_g, sR_w, lt1_e, sR_g, uF_n (by omega), sR_w, lt1_e, sR_g, uF_n (by omega), uF_n (by omega), sR_w, lt1_e, sR_g, uF_n (by omega), uF_n (by omega), uF_n (by omega), sR_w, lt1_e]
    refine a1.trans (b1.trans ?_)
    rw [g1, bd_e, sR_w, lt1_e, sR_w, lt1_e]
  · rw [uF_n (by omega), uF_n (by omega), uG_o (by omega), b2 o k (by omega), uF_n (by omega), a2 o k (by omega), uF_n (by omega), uF_n (by omega), uF_n (by omega), uF_n (by omega)]
  · rw [uF_n (by omega), uF_n (by omega), uG_o (by omega), b2 0 1 (by omega), uF_n (by omega), a2 0 1 (by omega), uF_n (by omega), uF_n (by omega), uF_n (by omega), uF_e, hs]
  · rw [uF_n (by omega), uF_n (by omega), uG_o (by omega), b2 0 2 (by omega), uF_n (by omega), a2 0 2 (by omega), uF_n (by omega), uF_n (by omega), uF_e]
  · rw [uF_n (by omega), uF_n (by omega), uG_o (by omega), b2 0 3 (by omega), uF_n (by omega), a2 0 3 (by omega), uF_n (by omega), uF_e]
  · rw [uF_n (by omega), uF_n (by omega), uG_o (by omega), b2 0 4 (by omega), uF_n (by omega), a2 0 4 (by omega), uF_e]
  · rw [uF_n (by omega), uF_e]
  · rw [uF_e]
  · rw [uF_n (by omega), uF_n (by omega), uG_e, g2 k hk, b2 7 k (by omega), uF_n (by omega), a2 7 k (by omega), uF_n (by omega), uF_n (by omega), uF_n (by omega), uF_n (by omega)]
  · rw [uF_n (by omega), uF_n (by omega), uG_o (by omega), uF_n (by omega), uF_n (by omega), uG_o (by omega), uF_n (by omega), uF_n (by omega), uG_o (by omega), uF_n (by omega), uF_n (by omega), uG_o (by omega), b2 1 j (by omega), b2 2 j (by omega), b2 3 j (by omega), b2 4 j (by omega), uF_n (by omega), uF_n (by omega), uF_n (by omega), uF_n (by omega)]
    exact c3 j hj
  · rw [uF_n (by omega), uF_n (by omega), uG_o (by omega)]
    exact b3
  · rw [uF_n (by omega), uF_n (by omega), uG_o (by omega), uF_n (by omega), uF_n (by omega), uG_o (by omega), b4 j hj, uF_n (by omega), uF_n (by omega), (c3 j hj).1, (c3 j hj).2.1]
end LI
