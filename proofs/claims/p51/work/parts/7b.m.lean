/-! mathematics: statements: settings and rules -/
/-- what tokens don't touch -/
def KT (H H' : xR) : Prop := (∀ o k, o ≠ 2 → H' o k = H o k) ∧ ∀ k, k ≠ 3 → k ≠ 4 → k ≠ 5 → k ≠ 6 → H' 2 k = H 2 k
/-- what statements don't touch -/
def KP (H H' : xR) : Prop := (∀ o k, o ≠ 2 → o ≠ 3 → H' o k = H o k) ∧ ∀ k, k ≠ 3 → k ≠ 4 → k ≠ 5 → k ≠ 6 → H' 2 k = H 2 k
/-- a statement was read: the parser stands behind A2 -/
def STM (T : xSt) (L : List Int) (H P : xR) (A2 : List Int) (H' P' : xR) : Prop := (∀ (f : Nat) (x4 : Int), 0 ≤ x4 → x4 ≤ (L.length : Int) → f_X3_readText_p3_2_3_1_2_0_b10 0 0 12 (f + 1) (PZ T H P) x4 = f_X3_readText_p3_2_3_1_2_0_b10 0 0 12 f (PZ T H' P') (x4 + 1)) ∧ TX H' L ∧ H' 2 5 = (A2.length : Int) ∧ H' 2 10 = 0 ∧ KP H H'
section C3B
variable {T S : xSt} {H H' H1 H2 P P' : xR} {L : List Int}
theorem kt_k {t a e : Int} (h : TK H H' t a e) : KT H H' := ⟨h.2.2.2.1, h.2.2.2.2⟩
theorem kt_t (h : KT H H1) (h2 : KT H1 H2) : KT H H2 := ⟨fun o k ho => (h2.1 o k ho).trans (h.1 o k ho), fun k a b c d => (h2.2 k a b c d).trans (h.2 k a b c d)⟩
theorem kt_p (h : KT H H') : KP H H' := ⟨fun o k ho _ => h.1 o k ho, h.2⟩
theorem kp_t (h : KP H H1) (h2 : KP H1 H2) : KP H H2 := ⟨fun o k ho h3 => (h2.1 o k ho h3).trans (h.1 o k ho h3), fun k a b c d => (h2.2 k a b c d).trans (h.2 k a b c d)⟩
theorem kp_3 {k : Nat} {z : Int} : KP H (uF H 3 k z) := ⟨fun o k _ h3 => uF_o h3, fun k _ _ _ _ => uF_o (by decide)⟩
theorem tx_kp (h : TX H L) (hk : KP H H') : TX H' L := by
  obtain ⟨h1, h2, h3, h4⟩ := h
  obtain ⟨k4, k5⟩ := hk
  exact ⟨(k5 1 (by decide) (by decide) (by decide) (by decide)).trans h1, h2, fun j hj => (k4 1 j (by decide) (by decide)).trans (h3 j hj), h4⟩
/-- the ; of a statement -/
theorem rg (hT : TC T) (hX : TX H L) {A M : List Int} (h5 : H 2 5 = (A.length : Int)) (hL : L = A ++ 59 :: M) : ∃ H', f_X3_readSign_p3_2 (PZ T H P) 0 59 = some (1, PZ T H' P) ∧ KT H H' ∧ H' 2 5 = ((A ++ [59]).length : Int) := by
  obtain ⟨H', e, t⟩ := rt_s (P := P) hT hX h5 hL
  refine ⟨H', ?_, kt_k t, t.2.2.1⟩
  unfold f_X3_readSign_p3_2
  rw [e, bd_e, ps_0, t.1, if_pos rfl]
theorem rn (hT : TC T) (hX : TX H L) {A M : List Int} {c : Int} {v : Nat} (h5 : H 2 5 = (A.length : Int)) (hL : L = A ++ 32 :: (dgL v ++ c :: M)) (hc : c = 32 ∨ c = 59) (hv : v < 100) {a1 a2 : Int} (ha : 0 ≤ a1 ∧ a1 ≤ (v : Int) ∧ (v : Int) ≤ a2 ∧ a2 ≤ 1000) : ∃ H', f_X3_readNumber_p3_2 (PZ T H P) 0 a1 a2 = some ((v : Int), PZ T H' P) ∧ KT H H' ∧ H' 2 5 = ((A ++ [32] ++ dgL v).length : Int) := by
  obtain ⟨H', e, t, t6⟩ := rt_n (P := P) hT hX h5 (Or.inr rfl) (s := [32]) (c := c) (M := M) (by rw [hL]; simp only [List.append_assoc, List.cons_append, List.nil_append, List.append_nil]) hc hv
  refine ⟨H', ?_, kt_k t, t.2.2.1⟩
  unfold f_X3_readNumber_p3_2
  rw [e, bd_e, ps_0, ps_0, t.1, t6]
  have hw : wr (v : Int) = (v : Int) := wr_e (by omega)
  rw [hw, wr_e (z := a1) (by omega), wr_e (z := a2) (by omega), if_pos rfl, if_neg (by omega), if_pos (by omega)]
/-- the loop over the statements -/
theorem s_lp (hX : TX H L) {t : Int} {A2 : List Int} (e1 : f_X3_readToken_p3_2 (PZ T H P) 0 = some (PZ T H1 P)) (h3 : H1 2 3 = 1) (e2 : f_X3_readStatement_p3_2 (PZ T H1 P) 0 = some (1, PZ T H' P')) (hK : KP H H') (h5 : H' 2 5 = (A2.length : Int)) (h10 : H 2 10 = 0) : STM T L H P A2 H' P' := by
  have hl := hX.2.1
  refine ⟨fun f x4 h0 hx => ?_, tx_kp hX hK, h5, (hK.2 10 (by decide) (by decide) (by decide) (by decide)).trans h10, hK⟩
  rw [f_X3_readText_p3_2_3_1_2_0_b10, ps_0, hX.1, wr_e (z := x4) (by omega), if_neg (by rw [wr_e (by omega)]; omega), e1, bd_e, ps_0, h3, if_pos (by decide)]
  unfold f_X3_readText_p3_2_3_1_2_0_b46
  rw [e2, bd2_e, if_pos (by decide)]
/-- a setting -/
theorem s_set (hT : TC T) (hX : TX H L) {A M : List Int} (h5 : H 2 5 = (A.length : Int)) (h10 : H 2 10 = 0) {q : Nat} (hq : 18 ≤ q ∧ q ≤ 23) {z : Int} (hz : z = (q : Int) - 18) {v : Nat} (hv : v < 100) (hal : ∀ S, f_X11_isAllowed S z (v : Int) = some (1, S)) (hst : H 3 z.toNat = 0) (hL : L = A ++ (ldL q ++ 32 :: (dgL v ++ 59 :: M))) : ∃ H', STM T L H P (A ++ ldL q ++ [32] ++ dgL v ++ [59]) H' (uF P 1 z.toNat (v : Int)) ∧ H' 3 = uN (H 3) z.toNat 1 := by
  have hw := lw_abc (q - 6) (by omega)
  rw [show q - 6 + 6 = q by omega] at hw
  obtain ⟨H1, e1, t1⟩ := rt_w (P := P) hT hX h5 (Or.inl rfl) (s := []) hL (by decide) (fun x hx => of_decide_eq_true (List.all_eq_true.mp hw.2.2 x hx)) hw.2.1
  rw [List.append_nil] at t1
  have hX1 := tx_tk hX t1
  have eS := so_q (P := P) hT hX1 hq hL t1.1 t1.2.1 t1.2.2.1
  have e6 := ti_q (P := P) hT hX1 (by omega) hL t1.1 t1.2.1 t1.2.2.1 (k := 6) (by decide)
  have e7 := ti_q (P := P) hT hX1 (by omega) hL t1.1 t1.2.1 t1.2.2.1 (k := 7) (by decide)
  rw [if_neg (by omega)] at e6 e7
  rw [← hz] at eS
  have k10 : H1 2 10 = 0 := (t1.2.2.2.2 10 (by decide) (by decide) (by decide) (by decide)).trans h10
  have k3 : H1 3 z.toNat = 0 := (t1.2.2.2.1 3 _ (by decide)).trans hst
  have hX2 : TX (uF H1 3 z.toNat 1) L := tx_kp hX1 kp_3
  obtain ⟨H2, e2, t2, v2⟩ := rt_n (P := P) (v := v) (A := A ++ ldL q) hT hX2 ((uF_o (by decide)).trans t1.2.2.1) (Or.inr rfl) (s := [32]) (c := 59) (M := M) (by rw [hL]; simp only [List.append_assoc, List.cons_append, List.nil_append, List.append_nil]) (Or.inr rfl) hv
  have hX3 := tx_tk hX2 t2
  obtain ⟨H3, e3, t3, t5⟩ := rg (P := uF P 1 z.toNat (v : Int)) (A := A ++ ldL q ++ [32] ++ dgL v) (M := M) hT hX3 t2.2.2.1 (by rw [hL]; simp only [List.append_assoc, List.cons_append, List.nil_append, List.append_nil])
  have eR : f_X3_readSetting_p3_2 (PZ T H1 P) 0 z = some (1, PZ T H2 (uF P 1 z.toNat (v : Int))) := by
    unfold f_X3_readSetting_p3_2
    rw [ps_0, k10, if_neg (by decide), wr_e (z := z) (by omega), if_neg (by omega), wr_e (z := 6) (by decide), if_pos (by omega), ckI_e (by omega), ps_0, k3, if_pos (by decide), ckI_e (by omega), ps_w0, lt1_e, e2, bd_e, ps_0, t2.1, if_pos rfl, ps_0, v2, hal, bd2_e, if_pos (by decide), ps_p hT, ckI_e (by omega), ps_0, v2, ps_w12, lt1_e]
  have eT : f_X3_readStatement_p3_2 (PZ T H1 P) 0 = some (1, PZ T H3 (uF P 1 z.toNat (v : Int))) := by
    unfold f_X3_readStatement_p3_2
    rw [ps_0, t1.1, if_pos (by decide)]
    unfold f_X3_readStatement_p3_2_b38
    rw [e6, bd2_e, if_pos (by decide), e7, bd2_e, if_pos (by decide), eS, bd2_e, if_neg (by rw [wr_e (by omega)]; show ¬ z = -1; omega), eR, bd2_e, if_neg (by decide), e3, bd2_e, if_neg (by decide)]
  refine ⟨H3, s_lp (t := 0) hX e1 t1.1 eT (kp_t (kt_p (kt_k t1)) (kp_t kp_3 (kp_t (kt_p (kt_k t2)) (kt_p t3)))) t5 h10, ?_⟩
  funext j
  rw [t3.1 3 j (by decide), t2.2.2.2.1 3 j (by decide)]
  show (if 3 = 3 ∧ j = z.toNat then 1 else H1 3 j) = if j = z.toNat then 1 else H 3 j
  rw [t1.2.2.2.1 3 j (by decide)]
  by_cases c : j = z.toNat
  · rw [if_pos ⟨rfl, c⟩, if_pos c]
  · rw [if_neg (fun y => c y.2), if_neg c]
/-- no such rule yet -/
theorem ha_b {a b m : Int} (hm : P 2 2 = m) (hm2 : 0 ≤ m ∧ m ≤ 6) (hab : (0 ≤ a ∧ a ≤ 9) ∧ 0 ≤ b ∧ b ≤ 9) (hr : ∀ j : Nat, (j : Int) < m → (0 ≤ P 3 j ∧ P 3 j ≤ 9) ∧ (0 ≤ P 4 j ∧ P 4 j ≤ 9) ∧ ¬ (P 3 j = a ∧ P 4 j = b)) : ∀ (d : Nat) (x : Int) (f : Nat), 0 ≤ x → x + d = m → d < f → f_X8_has_p2_2_b2 12 f (PZ T H P) a b x = some (0, PZ T H P) := by
  intro d
  induction d with
  | zero =>
    intro x f hx hd hf
    obtain ⟨f, rfl⟩ := fs_e (show 0 < f by omega)
    rw [f_X8_has_p2_2_b2, ps_12, hm, wr_e (z := m) (by omega), wr_e (z := x) (by omega), if_pos (by omega)]
  | succ d ih =>
    intro x f hx hd hf
    obtain ⟨f, rfl⟩ := fs_e (show 0 < f by omega)
    obtain ⟨r1, r2, r3⟩ := hr x.toNat (by omega)
    have g := ih (x + 1) f (by omega) (by omega) (by omega)
    rw [f_X8_has_p2_2_b2, ps_12, hm, wr_e (z := m) (by omega), wr_e (z := x) (by omega), if_neg (by omega), ckI_e (by omega), ps_12, wr_e (z := P 3 x.toNat) (by omega), wr_e (z := a) (by omega)]
    by_cases c : P 3 x.toNat = a
    · rw [if_neg (fun y => y c), ckI_e (by omega), ps_12, wr_e (z := P 4 x.toNat) (by omega), wr_e (z := b) (by omega), if_pos (fun y => r3 ⟨c, y⟩)]
      exact g
    · rw [if_pos c]
      exact g
/-- a rule -/
theorem s_fus (hT : TC T) (hX : TX H L) {A M : List Int} (h5 : H 2 5 = (A.length : Int)) (h10 : H 2 10 = 0) {p q : Nat} (hp : 8 ≤ p ∧ p ≤ 15) (hq : 8 ≤ q ∧ q ≤ 17) {a b m : Int} (ha : a = (p : Int) - 8) (hb : b = (q : Int) - 8) (hm : P 2 2 = m) (hm2 : 0 ≤ m ∧ m ≤ 5) (hr : ∀ j : Nat, (j : Int) < m → (0 ≤ P 3 j ∧ P 3 j ≤ 9) ∧ (0 ≤ P 4 j ∧ P 4 j ≤ 9) ∧ ¬ (P 3 j = a ∧ P 4 j = b)) (hL : L = A ++ (ldL 7 ++ 32 :: (ldL p ++ 32 :: (ldL q ++ 59 :: M)))) : ∃ H', STM T L H P (A ++ ldL 7 ++ [32] ++ ldL p ++ [32] ++ ldL q ++ [59]) H' (uF (uF (uF P 3 m.toNat a) 4 m.toNat b) 2 2 (m + 1)) ∧ H' 3 = H 3 := by
  have hw7 := lw_abc 1 (by decide)
  have hwp := lw_abc (p - 6) (by omega)
  rw [show p - 6 + 6 = p by omega] at hwp
  have hwq := lw_abc (q - 6) (by omega)
  rw [show q - 6 + 6 = q by omega] at hwq
  obtain ⟨H1, e1, t1⟩ := rt_w (P := P) (w := ldL 7) hT hX h5 (Or.inl rfl) (s := []) hL (by decide) (fun x hx => of_decide_eq_true (List.all_eq_true.mp hw7.2.2 x hx)) hw7.2.1
  rw [List.append_nil] at t1
  have hX1 := tx_tk hX t1
  have e6 := ti_q (P := P) (q := 7) hT hX1 (by decide) hL t1.1 t1.2.1 t1.2.2.1 (k := 6) (by decide)
  have e7 := ti_q (P := P) (q := 7) hT hX1 (by decide) hL t1.1 t1.2.1 t1.2.2.1 (k := 7) (by decide)
  rw [if_neg (by decide)] at e6
  rw [if_pos rfl] at e7
  have k10 : H1 2 10 = 0 := (t1.2.2.2.2 10 (by decide) (by decide) (by decide) (by decide)).trans h10
  obtain ⟨H2, e2, t2⟩ := rt_w (P := P) (w := ldL p) (A := A ++ ldL 7) (c := 32) (M := ldL q ++ 59 :: M) hT hX1 t1.2.2.1 (Or.inr rfl) (s := [32]) (by rw [hL]; simp only [List.append_assoc, List.cons_append, List.nil_append, List.append_nil]) (by decide) (fun x hx => of_decide_eq_true (List.all_eq_true.mp hwp.2.2 x hx)) hwp.2.1
  have hX2 := tx_tk hX1 t2
  have f2 := kt_q (P := P) (q := p) (A := A ++ ldL 7 ++ [32]) (M := 32 :: (ldL q ++ 59 :: M)) hT hX2 (by omega) (by rw [hL]; simp only [List.append_assoc, List.cons_append, List.nil_append, List.append_nil]) t2.1 t2.2.1 t2.2.2.1
  rw [← ha] at f2
  obtain ⟨H3, e3, t3⟩ := rt_w (P := P) (w := ldL q) (A := A ++ ldL 7 ++ [32] ++ ldL p) (c := 59) (M := M) hT hX2 t2.2.2.1 (Or.inr rfl) (s := [32]) (by rw [hL]; simp only [List.append_assoc, List.cons_append, List.nil_append, List.append_nil]) (by decide) (fun x hx => of_decide_eq_true (List.all_eq_true.mp hwq.2.2 x hx)) hwq.2.1
  have hX3 := tx_tk hX2 t3
  have f3 := kt_q (P := P) (q := q) (A := A ++ ldL 7 ++ [32] ++ ldL p ++ [32]) (M := 59 :: M) hT hX3 (by omega) (by rw [hL]; simp only [List.append_assoc, List.cons_append, List.nil_append, List.append_nil]) t3.1 t3.2.1 t3.2.2.1
  rw [← hb] at f3
  have f4 := ha_b (T := T) (H := H3) (P := P) hm (by omega) (a := a) (b := b) (by omega) hr m.toNat 0 (fu (PZ T H3 P)) (by decide) (by omega) (by show _ < T.1.1; have := hT.2.2.2.2; omega)
  obtain ⟨H4, e4, t4, t5⟩ := rg (P := uF (uF (uF P 3 m.toNat a) 4 m.toNat b) 2 2 (m + 1)) (A := A ++ ldL 7 ++ [32] ++ ldL p ++ [32] ++ ldL q) (M := M) hT hX3 t3.2.2.1 (by rw [hL]; simp only [List.append_assoc, List.cons_append, List.nil_append, List.append_nil])
  have eA : f_X8_append_p2_2 (PZ T H3 P) 12 a b = some (PZ T H3 (uF (uF (uF P 3 m.toNat a) 4 m.toNat b) 2 2 (m + 1))) := by
    unfold f_X8_append_p2_2
    rw [ps_12, hm, wr_e (z := m) (by omega), if_neg (by omega), if_neg (by show ¬ 7 ≤ m; omega), ckI_e (by omega), ps_w12, lt1_e, ps_12, uF_o (by decide), hm, ckI_e (by omega), wr_e (z := m) (by omega), ps_w12, lt1_e, ps_12, uF_o (by decide), uF_o (by decide), hm, ps_w12, lt1_e]
  have eR : f_X3_readRule_p3_2 (PZ T H1 P) 0 = some (1, PZ T H3 (uF (uF (uF P 3 m.toNat a) 4 m.toNat b) 2 2 (m + 1))) := by
    unfold f_X3_readRule_p3_2
    rw [ps_0, k10, if_pos (by decide), ps_p hT, ps_12, hm, wr_e (z := m) (by omega), if_pos (by show m < 6; omega), e2, bd_e, f2, bd2_e, wr_e (z := a) (by omega), if_pos (by show ¬ a = -1; omega), if_pos (by show a < 8; omega), e3, bd_e, f3, bd2_e, wr_e (z := b) (by omega), if_pos (by show ¬ b = -1; omega), ps_p hT]
    unfold f_X8_has_p2_2
    rw [f4, bd2_e, if_pos (by decide), ps_p hT, eA, bd_e]
  have eT : f_X3_readStatement_p3_2 (PZ T H1 P) 0 = some (1, PZ T H4 (uF (uF (uF P 3 m.toNat a) 4 m.toNat b) 2 2 (m + 1))) := by
    unfold f_X3_readStatement_p3_2
    rw [ps_0, t1.1, if_pos (by decide)]
    unfold f_X3_readStatement_p3_2_b38
    rw [e6, bd2_e, if_pos (by decide), e7, bd2_e, if_neg (by decide), eR, bd2_e, if_neg (by decide), e4, bd2_e, if_neg (by decide)]
  refine ⟨H4, s_lp (t := 0) hX e1 t1.1 eT (kt_p (kt_t (kt_k t1) (kt_t (kt_k t2) (kt_t (kt_k t3) t4)))) t5 h10, ?_⟩
  funext j
  rw [t4.1 3 j (by decide), t3.2.2.2.1 3 j (by decide), t2.2.2.2.1 3 j (by decide), t1.2.2.2.1 3 j (by decide)]
end C3B
