/-! mathematics: link -/
def tgt (P : xR) (n : Int) (k : Nat) : Int := if P 5 k < 8 then -1 else if n < (k : Int) + P 7 k then n else (k : Int) + P 7 k
def LK1 (P0 : xR) (n : Int) (P : xR) (x : Int) : Prop := (∀ o k, o ≤ 8 → P o k = P0 o k) ∧ P 9 0 = 0 ∧ ∀ k : Nat, (k : Int) < x → P 9 (k + 1) = P 9 k + tbI 3 (P0 5 k).toNat + P0 6 k ∧ P 10 k = tbI 1 (P0 5 k).toNat ∧ P 11 k = tgt P0 n k
section C3F
variable {T S : xSt} {H H' H1 H2 P P' P0 P1 P2 : xR} {L : List Int} {n : Int}
theorem mm_e {x : Int} (h : 0 ≤ x ∧ x ≤ 9) : iMin (iMax x 0) 9 = x := by
  have e : iMax x 0 = x := by
    unfold iMax
    rw [wr_e (z := x) (by omega), wr_e (z := 0) (by decide), if_neg (by omega)]
  rw [e]
  unfold iMin
  rw [wr_e (z := x) (by omega), wr_e (z := 9) (by decide), if_neg (by omega)]
theorem jb_e (hn : P 0 10 = n) (hn2 : 0 ≤ n ∧ n ≤ 60) {x : Int} (hx : 0 ≤ x ∧ x < n) (h5 : 0 ≤ P 5 x.toNat ∧ P 5 x.toNat ≤ 9) : f_X5_isJumpOrBranch_p2_0 (PZ T H P) 12 x = some (if P 5 x.toNat < 8 then 0 else 1, PZ T H P) := by
  unfold f_X5_isJumpOrBranch_p2_0
  rw [wr_e (z := x) (by omega), if_neg (by omega), ps_12, hn, wr_e (z := n) (by omega), if_neg (by omega), ckI_e (by omega), ps_12, wr_e (z := P 5 x.toNat) (by omega), wr_e (z := 8) (by decide)]
  by_cases c : P 5 x.toNat < 8
  · rw [if_pos c, if_pos c]
  · rw [if_neg c, if_neg c]
/-- one step of link's first loop -/
theorem lk_1 {m : Nat} (hI : IVP P0 m) (hm : m ≤ 12) {x : Int} (hx : 0 ≤ x ∧ x < (m : Int)) (hP : LK1 P0 (m : Int) P x) : ∃ P', LK1 P0 (m : Int) P' (x + 1) ∧ ∀ f, f_X5_link_p2_0_b2 12 (f + 1) (PZ T H P) x = f_X5_link_p2_0_b2 12 f (PZ T H P') (x + 1) := by
  obtain ⟨a1, a2, a3⟩ := id hP
  obtain ⟨i1, i2⟩ := id hI
  obtain ⟨j1, j2, j3, j4⟩ := i2 x.toNat (by omega)
  have hn : P 0 10 = (m : Int) := (a1 0 10 (by decide)).trans i1
  have h5 : P 5 x.toNat = P0 5 x.toNat := a1 5 _ (by decide)
  have h6 : P 6 x.toNat = P0 6 x.toNat := a1 6 _ (by decide)
  have h7 : P 7 x.toNat = P0 7 x.toNat := a1 7 _ (by decide)
  obtain ⟨n, en⟩ : ∃ n : Int, n = (m : Int) := ⟨_, rfl⟩
  rw [← en] at hn hx
  have ex : (x + 1).toNat = x.toNat + 1 := by omega
  have ek : ((x.toNat : Nat) : Int) = x := by omega
  refine ⟨uF (uF (uF P 9 (x + 1).toNat (P 9 x.toNat + tbI 3 (P0 5 x.toNat).toNat + P0 6 x.toNat)) 10 x.toNat (tbI 1 (P0 5 x.toNat).toNat)) 11 x.toNat (tgt P0 (m : Int) x.toNat), ⟨fun o k ho => ?_, ?_, fun k hk => ?_⟩, fun f => ?_⟩
  · rw [uF_o (by omega), uF_o (by omega), uF_o (by omega)]
    exact a1 o k ho
  · rw [uF_o (by decide), uF_o (by decide), uF_k (by omega)]
    exact a2
  · by_cases c : k = x.toNat
    · rw [c, uF_o (by decide), uF_o (by decide), ← ex, uF_e, uF_o (by decide), uF_o (by decide), uF_k (by omega), uF_o (by decide), uF_e, uF_e]
      exact ⟨rfl, rfl, rfl⟩
    · rw [uF_o (by decide), uF_o (by decide), uF_k (by omega), uF_o (by decide), uF_o (by decide), uF_k (by omega), uF_o (by decide), uF_k c, uF_o (by decide), uF_k c, uF_o (by decide), uF_o (by decide)]
      exact a3 k (by omega)
  · have h59 : ∀ s0 : Int, s0 = P0 6 x.toNat → f_X5_link_p2_0_b59 (f_X5_link_p2_0_b2 12 f) 12 (PZ T H P) x (P0 5 x.toNat) s0 (P 9 x.toNat + tbI 3 (P0 5 x.toNat).toNat) (x + 1) = f_X5_link_p2_0_b2 12 f (PZ T H (uF (uF (uF P 9 (x + 1).toNat (P 9 x.toNat + tbI 3 (P0 5 x.toNat).toNat + P0 6 x.toNat)) 10 x.toNat (tbI 1 (P0 5 x.toNat).toNat)) 11 x.toNat (tgt P0 (m : Int) x.toNat))) (x + 1) := fun s0 hs => by
      unfold f_X5_link_p2_0_b59
      rw [ckI_e (by omega), wr_e (z := x + 1) (by omega), ps_w12, lt1_e, ckI_e (by omega), ckI_e (by omega), wr_e (z := x) (by omega), wr_e (z := P0 5 x.toNat) (by omega), ps_w12, lt1_e, hs]
      generalize eQ : uF (uF P 9 (x + 1).toNat (P 9 x.toNat + tbI 3 (P0 5 x.toNat).toNat + P0 6 x.toNat)) 10 x.toNat (tbI 1 (P0 5 x.toNat).toNat) = Q
      have q0 : Q 0 10 = n := by
        rw [← eQ, uF_o (by decide), uF_o (by decide)]
        exact hn
      have q5 : Q 5 x.toNat = P0 5 x.toNat := by
        rw [← eQ, uF_o (by decide), uF_o (by decide)]
        exact h5
      have q7 : Q 7 x.toNat = P0 7 x.toNat := by
        rw [← eQ, uF_o (by decide), uF_o (by decide)]
        exact h7
      rw [jb_e q0 (by omega) hx (by rw [q5]; exact j1), q5]
      by_cases c : P0 5 x.toNat < 8
      · have et : tgt P0 (m : Int) x.toNat = -1 := if_pos c
        rw [if_pos c, bd2_e, if_pos (by decide), ckI_e (by omega), ps_w12, lt1_e, et]
      · have k3 := j3 (by omega)
        have em : iMin (x + P0 7 x.toNat) n = tgt P0 (m : Int) x.toNat := by
          unfold iMin tgt
          rw [if_neg c, ek, ← en, wr_e (z := n) (by omega), wr_e (z := x + P0 7 x.toNat) (by omega)]
        rw [if_neg c, bd2_e, if_neg (by decide), ckI_e (by omega), ckI_e (by omega), ps_12, ps_12, q0, q7, em, ps_w12, lt1_e]
    rw [f_X5_link_p2_0_b2, ps_12, hn, wr_e (z := n) (by omega), wr_e (z := x) (by omega), if_neg (by omega), ckI_e (by omega), ckI_e (by omega), ps_12, h5, mm_e j1, ckI_e (by omega), lt1_e, ckI_e (by omega), ps_12, ps_12, h6, wr_e (z := P0 5 x.toNat) (by omega)]
    rcases j2 with h | h
    · rw [h, if_pos (by decide)]
      rw [h] at h59
      exact h59 0 rfl
    · rw [h, if_neg (by decide)]
      rw [h] at h59
      exact h59 1 rfl
theorem lk_a {m : Nat} (hI : IVP P0 m) (hm : m ≤ 12) : ∀ (d : Nat) (x : Int) (P : xR), 0 ≤ x → x + d = (m : Int) → LK1 P0 (m : Int) P x → ∃ P', LK1 P0 (m : Int) P' (m : Int) ∧ ∀ f, d < f → f_X5_link_p2_0_b2 12 f (PZ T H P) x = f_X5_link_p2_0_b113 12 (fu (PZ T H P')) (PZ T H P') 0 := by
  intro d
  induction d with
  | zero =>
    intro x P hx hd hP
    have e : x = (m : Int) := by omega
    refine ⟨P, by rw [← e]; rw [← e] at hP; exact hP, fun f hf => ?_⟩
    obtain ⟨f, rfl⟩ := fs_e (show 0 < f by omega)
    have hn : P 0 10 = (m : Int) := (hP.1 0 10 (by decide)).trans hI.1
    rw [f_X5_link_p2_0_b2, ps_12, hn, if_pos (by rw [e]; exact Int.le_refl _)]
  | succ d ih =>
    intro x P hx hd hP
    obtain ⟨P1, h1, e1⟩ := lk_1 (T := T) (H := H) hI hm (by omega) hP
    obtain ⟨P2, h2, e2⟩ := ih (x + 1) P1 (by omega) (by omega) h1
    refine ⟨P2, h2, fun f hf => ?_⟩
    obtain ⟨f, rfl⟩ := fs_e (show 0 < f by omega)
    rw [e1, e2 f (by omega)]
/-- the ops of a loop -/
theorem ot_b (hn : P 0 10 = n) (hn2 : 0 ≤ n ∧ n ≤ 60) (h5 : ∀ j : Nat, (j : Int) < n → 0 ≤ P 5 j ∧ P 5 j ≤ 9) {k t : Int} (hk : 0 ≤ k ∧ k < n) (ht : 0 ≤ t) : ∀ (d : Nat) (x4 x3 : Int), t ≤ x4 → x4 + d = k → x3 = osm P t.toNat (x4 - t).toNat → (∀ j : Nat, t ≤ (j : Int) → (j : Int) < x4 → P 5 j < 8) → ∃ v, (∀ f, d < f → f_X5_opsFromTarget_p2_0_b23 12 f (PZ T H P) k x3 x4 = some (v, PZ T H P)) ∧ ((∀ j : Nat, t ≤ (j : Int) → (j : Int) < k → P 5 j < 8) → v = osm P t.toNat (k + 1 - t).toNat) ∧ (¬ (∀ j : Nat, t ≤ (j : Int) → (j : Int) < k → P 5 j < 8) → v = -1) := by
  intro d
  induction d with
  | zero =>
    intro x4 x3 h1 h2 h3 h4
    have e : x4 = k := by omega
    subst e
    have e1 : osm P t.toNat (x4 + 1 - t).toNat = osm P t.toNat (x4 - t).toNat + P 10 x4.toNat := by
      rw [show (x4 + 1 - t).toNat = (x4 - t).toNat + 1 by omega]
      show osm P t.toNat (x4 - t).toNat + P 10 (t.toNat + (x4 - t).toNat) = _
      rw [show t.toNat + (x4 - t).toNat = x4.toNat by omega]
    refine ⟨x3 + P 10 x4.toNat, fun f hf => ?_, fun _ => by rw [e1, h3], fun z => absurd h4 z⟩
    obtain ⟨f, rfl⟩ := fs_e (show 0 < f by omega)
    rw [f_X5_opsFromTarget_p2_0_b23, if_pos (Int.le_refl _), ckI_e (by omega), ps_12, wr_e (z := x4) (by omega)]
  | succ d ih =>
    intro x4 x3 h1 h2 h3 h4
    have j5 := h5 x4.toNat (by omega)
    by_cases c : P 5 x4.toNat < 8
    · have e1 : osm P t.toNat (x4 + 1 - t).toNat = osm P t.toNat (x4 - t).toNat + P 10 x4.toNat := by
        rw [show (x4 + 1 - t).toNat = (x4 - t).toNat + 1 by omega]
        show osm P t.toNat (x4 - t).toNat + P 10 (t.toNat + (x4 - t).toNat) = _
        rw [show t.toNat + (x4 - t).toNat = x4.toNat by omega]
      obtain ⟨v, g1, g2, g3⟩ := ih (x4 + 1) (x3 + P 10 x4.toNat) (by omega) (by omega) (by rw [e1, h3]) (fun j a b => by
        by_cases cj : j = x4.toNat
        · rw [cj]
          exact c
        · exact h4 j a (by omega))
      refine ⟨v, fun f hf => ?_, g2, g3⟩
      obtain ⟨f, rfl⟩ := fs_e (show 0 < f by omega)
      rw [f_X5_opsFromTarget_p2_0_b23, wr_e (z := k) (by omega), wr_e (z := x4) (by omega), if_neg (by omega), jb_e hn hn2 (by omega) j5, if_pos c, bd2_e, if_pos (by decide), ckI_e (by omega), ps_12]
      exact g1 f (by omega)
    · refine ⟨-1, fun f hf => ?_, fun z => absurd (z x4.toNat (by omega) (by omega)) c, fun _ => rfl⟩
      obtain ⟨f, rfl⟩ := fs_e (show 0 < f by omega)
      rw [f_X5_opsFromTarget_p2_0_b23, wr_e (z := k) (by omega), wr_e (z := x4) (by omega), if_neg (by omega), jb_e hn hn2 (by omega) j5, if_neg c, bd2_e, if_neg (by decide)]
theorem ot_e (hfu : 10000000 ≤ T.1.1) (hn : P 0 10 = n) (hn2 : 0 ≤ n ∧ n ≤ 60) (h5 : ∀ j : Nat, (j : Int) < n → 0 ≤ P 5 j ∧ P 5 j ≤ 9) {k : Int} (hk : 0 ≤ k ∧ k < n) (hg : (8 ≤ P 5 k.toNat → 0 ≤ P 11 k.toNat ∧ P 11 k.toNat ≤ n) ∧ (P 5 k.toNat < 8 → P 11 k.toNat = -1)) : ∃ v, f_X5_opsFromTarget_p2_0 (PZ T H P) 12 k = some (v, PZ T H P) ∧ (lpk P k.toNat → v = osm P (P 11 k.toNat).toNat (k.toNat + 1 - (P 11 k.toNat).toNat)) ∧ (¬ lpk P k.toNat → v = -1) := by
  have ek : ((k.toNat : Nat) : Int) = k := by omega
  have eu : f_X5_opsFromTarget_p2_0 (PZ T H P) 12 k = if wr (P 11 k.toNat) < 0 then some (-1, PZ T H P) else if wr (P 11 k.toNat) ≤ wr k then f_X5_opsFromTarget_p2_0_b23 12 (fu (PZ T H P)) (PZ T H P) k 0 (P 11 k.toNat) else some (-1, PZ T H P) := by
    unfold f_X5_opsFromTarget_p2_0
    rw [ckI_e (by omega), ps_12, wr_e (z := k) (by omega)]
  rw [eu]
  by_cases c8 : 8 ≤ P 5 k.toNat
  · have ht := hg.1 c8
    rw [wr_e (z := P 11 k.toNat) (by omega), wr_e (z := k) (by omega), if_neg (by omega)]
    by_cases c : P 11 k.toNat ≤ k
    · obtain ⟨v, g1, g2, g3⟩ := ot_b (T := T) (H := H) hn hn2 h5 hk ht.1 (k - P 11 k.toNat).toNat (P 11 k.toNat) 0 (Int.le_refl _) (by omega) (by rw [Int.sub_self]; rfl) (fun j a b => absurd b (by omega))
      rw [if_pos c]
      refine ⟨v, g1 _ (by show _ < T.1.1; omega), fun z => ?_, fun z => g3 (fun y => z ⟨c8, by omega, fun j a b => y j a (by omega)⟩)⟩
      rw [g2 (fun j a b => z.2.2 j a (by omega))]
      exact congrArg (osm P (P 11 k.toNat).toNat) (by omega)
    · rw [if_neg c]
      exact ⟨-1, rfl, fun z => absurd z.2.1 (by omega), fun _ => rfl⟩
  · have ht := hg.2 (by omega)
    rw [ht, if_pos (by decide)]
    exact ⟨-1, rfl, fun z => absurd z.1 c8, fun _ => rfl⟩
theorem lpk_c (h : ∀ o k, o ≠ 12 → P o k = P1 o k) {k : Nat} : lpk P k ↔ lpk P1 k := by
  unfold lpk
  rw [h 5 k (by decide), h 11 k (by decide)]
  have e : ∀ j, P 5 j = P1 5 j := fun j => h 5 j (by decide)
  simp only [e]
theorem osm_c (h : ∀ o k, o ≠ 12 → P o k = P1 o k) {a : Nat} : ∀ m : Nat, osm P a m = osm P1 a m := by
  intro m
  induction m with
  | zero => rfl
  | succ m ih =>
    show osm P a m + P 10 (a + m) = osm P1 a m + P1 10 (a + m)
    rw [ih, h 10 _ (by decide)]
def LK2 (P1 P : xR) (x : Int) : Prop := (∀ o k, o ≠ 12 → P o k = P1 o k) ∧ ∀ k : Nat, (k : Int) < x → (lpk P1 k → P 12 k = osm P1 (P1 11 k).toNat (k + 1 - (P1 11 k).toNat)) ∧ (¬ lpk P1 k → P 12 k = -1)
theorem lk_b (hfu : 10000000 ≤ T.1.1) (hn : P1 0 10 = n) (hn2 : 0 ≤ n ∧ n ≤ 60) (h5 : ∀ j : Nat, (j : Int) < n → 0 ≤ P1 5 j ∧ P1 5 j ≤ 9) (hg : ∀ k : Nat, (k : Int) < n → (8 ≤ P1 5 k → 0 ≤ P1 11 k ∧ P1 11 k ≤ n) ∧ (P1 5 k < 8 → P1 11 k = -1)) : ∀ (d : Nat) (x : Int) (P : xR), 0 ≤ x → x + d = n → LK2 P1 P x → ∃ P', LK2 P1 P' n ∧ ∀ f, d < f → f_X5_link_p2_0_b113 12 f (PZ T H P) x = some (PZ T H P') := by
  intro d
  induction d with
  | zero =>
    intro x P hx hd hP
    have e : x = n := by omega
    refine ⟨P, by rw [← e]; exact hP, fun f hf => ?_⟩
    obtain ⟨f, rfl⟩ := fs_e (show 0 < f by omega)
    rw [f_X5_link_p2_0_b113, ps_12, (hP.1 0 10 (by decide)).trans hn, e, if_pos (Int.le_refl _)]
  | succ d ih =>
    intro x P hx hd hP
    obtain ⟨a1, a2⟩ := id hP
    have hnP : P 0 10 = n := (a1 0 10 (by decide)).trans hn
    have ek : ((x.toNat : Nat) : Int) = x := by omega
    obtain ⟨v, e1, e2, e3⟩ := ot_e (T := T) (H := H) hfu hnP hn2 (fun j hj => by rw [a1 5 j (by decide)]; exact h5 j hj) (k := x) (by omega) (by rw [a1 5 _ (by decide), a1 11 _ (by decide)]; exact hg x.toNat (by omega))
    rw [lpk_c a1, osm_c a1, a1 11 _ (by decide)] at e2
    rw [lpk_c a1] at e3
    obtain ⟨P2, h2, g2⟩ := ih (x + 1) (uF P 12 x.toNat v) (by omega) (by omega) ⟨fun o k ho => (uF_o ho).trans (a1 o k ho), fun k hk => by
      by_cases c : k = x.toNat
      · rw [c, uF_e]
        exact ⟨e2, e3⟩
      · rw [uF_k c]
        exact a2 k (by omega)⟩
    refine ⟨P2, h2, fun f hf => ?_⟩
    obtain ⟨f, rfl⟩ := fs_e (show 0 < f by omega)
    rw [f_X5_link_p2_0_b113, ps_12, hnP, wr_e (z := n) (by omega), wr_e (z := x) (by omega), if_neg (by omega), e1, bd2_e, ckI_e (by omega), ps_w12, lt1_e]
    exact g2 f (by omega)
/-- link -/
theorem l_link (hfu : 10000000 ≤ T.1.1) {m : Nat} (hm : m ≤ 12) (hI : IVP P m) (hH : HDR P) (h9 : P 9 0 = 0) : ∃ π, f_X5_link_p2_0 (PZ T H P) 12 = some (PZ T H π) ∧ PR π ∧ π 0 10 = (m : Int) := by
  obtain ⟨P1, a, e1⟩ := lk_a (T := T) (H := H) hI hm m 0 P (by decide) (by omega) ⟨fun _ _ _ => rfl, h9, fun k hk => absurd hk (by omega)⟩
  obtain ⟨a1, a2, a3⟩ := id a
  have hn1 : P1 0 10 = (m : Int) := (a1 0 10 (by decide)).trans hI.1
  have hg : ∀ k : Nat, (k : Int) < (m : Int) → (8 ≤ P1 5 k → 0 ≤ P1 11 k ∧ P1 11 k ≤ (m : Int)) ∧ (P1 5 k < 8 → P1 11 k = -1) := fun k hk => by
    obtain ⟨j1, j2, j3, j4⟩ := hI.2 k (by omega)
    obtain ⟨-, -, t⟩ := a3 k hk
    rw [t, a1 5 k (by decide)]
    unfold tgt
    refine ⟨fun z => ?_, fun z => if_pos z⟩
    rw [if_neg (by omega)]
    have := j3 z
    split <;> omega
  obtain ⟨π, b, e2⟩ := lk_b (T := T) (H := H) hfu hn1 (by omega) (fun j hj => by rw [a1 5 j (by decide)]; exact (hI.2 j (by omega)).1) hg m 0 P1 (by decide) (by omega) ⟨fun _ _ _ => rfl, fun k hk => absurd hk (by omega)⟩
  obtain ⟨b1, b2⟩ := id b
  have c1 : ∀ o k, o ≤ 8 → π o k = P o k := fun o k ho => (b1 o k (by omega)).trans (a1 o k ho)
  have hn : π 0 10 = (m : Int) := (b1 0 10 (by decide)).trans hn1
  refine ⟨π, ?_, ⟨?_, ?_, ?_⟩, hn⟩
  · unfold f_X5_link_p2_0
    rw [e1 _ (by show _ < T.1.1; omega), e2 _ (by show _ < T.1.1; omega)]
  · rw [hn]
    omega
  · rw [b1 9 0 (by decide)]
    exact a2
  · have hH2 : HDR π := by
      unfold HDR at hH ⊢
      have e1 : ∀ k, π 1 k = P 1 k := fun k => c1 1 k (by decide)
      have e2 : ∀ k, π 2 k = P 2 k := fun k => c1 2 k (by decide)
      have e3 : ∀ k, π 3 k = P 3 k := fun k => c1 3 k (by decide)
      have e4 : ∀ k, π 4 k = P 4 k := fun k => c1 4 k (by decide)
      simp only [e1, e2, e3, e4]
      exact hH
    obtain ⟨d1, d2, d3, d4, d5, d6, d7, d8⟩ := hH2
    refine ⟨d1, d2, d3, d4, d5, d6, d7, d8, fun k hk => ?_⟩
    rw [hn] at hk
    obtain ⟨j1, j2, j3, j4⟩ := hI.2 k (by omega)
    obtain ⟨t1, t2, t3⟩ := a3 k hk
    obtain ⟨g1, g2⟩ := hg k hk
    obtain ⟨u1, u2⟩ := b2 k hk
    rw [a1 5 k (by decide)] at g1 g2
    unfold PRk
    rw [lpk_c b1, osm_c b1, hn, c1 5 k (by decide), c1 6 k (by decide), c1 8 k (by decide), b1 10 k (by decide), b1 9 _ (by decide), b1 9 k (by decide), b1 11 k (by decide)]
    exact ⟨j1, j2, g1, g2, j4, t2, t1, u1, u2⟩
end C3F
