/-! mathematics: statements: instructions -/
/-- an instruction more -/
def ainF (P : xR) (n kd lg st ti : Int) : xR := uF (uF (uF (uF (uF P 5 n.toNat kd) 6 n.toNat lg) 7 n.toNat st) 8 n.toNat ti) 0 10 (n + 1)
section C3C
variable {T S : xSt} {H H' H1 H2 P P' : xR} {L : List Int}
theorem ap_z {n kd lg st ti : Int} (hn : P 0 10 = n) (h : 0 ≤ n ∧ n < 60) (hl : lg = 0 ∨ lg = 1) : f_X5_append_p2_0 (PZ T H P) 12 kd lg st ti = some (PZ T H (ainF P n kd lg st ti)) := by
  have g : ∀ o k, o ≠ 0 → ∀ w z, (uF P o k w) 0 z = P 0 z := fun o k h w z => uF_o (fun y => h y.symm)
  unfold f_X5_append_p2_0 ainF
  rw [ps_12, hn, wr_e (z := n) (by omega), if_neg (by omega), wr_e (z := 60) (by decide), if_neg (by omega), ckI_e (by omega), ps_w12, lt1_e, ps_12, uF_o (by decide), hn, ckI_e (by omega), ckB_e hl, wr_e (z := n) (by omega), ps_w12, lt1_e, ps_12, uF_o (by decide), uF_o (by decide), hn, ckI_e (by omega), wr_e (z := n) (by omega), ps_w12, lt1_e, ps_12, uF_o (by decide), uF_o (by decide), uF_o (by decide), hn, ckI_e (by omega), wr_e (z := n) (by omega), ps_w12, lt1_e, ps_12, uF_o (by decide), uF_o (by decide), uF_o (by decide), uF_o (by decide), hn, ps_w12, lt1_e]
/-- an instruction's statement -/
theorem s_ins (hT : TC T) (hX : TX H L) {A A2 R M : List Int} (h5 : H 2 5 = (A.length : Int)) (h10 : H 2 10 = 0) {q : Nat} (hq : (8 ≤ q ∧ q ≤ 17) ∨ q = 24) {c : Int} (hc : c < 97) (hL : L = A ++ (ldL q ++ c :: R)) (eI : ∀ H1, TX H1 L → TK H H1 1 (A.length : Int) ((A ++ ldL q).length : Int) → ∃ H2, f_X3_readInstruction_p3_2 (PZ T H1 P) 0 = some (1, PZ T H2 P') ∧ KT H1 H2 ∧ H2 2 5 = (A2.length : Int)) (hL2 : L = A2 ++ 59 :: M) : ∃ H', STM T L H P (A2 ++ [59]) H' P' ∧ H' 3 = H 3 := by
  have hw := lw_abc (q - 6) (by omega)
  rw [show q - 6 + 6 = q by omega] at hw
  obtain ⟨H1, e1, t1⟩ := rt_w (P := P) hT hX h5 (Or.inl rfl) (s := []) hL hc (fun x hx => of_decide_eq_true (List.all_eq_true.mp hw.2.2 x hx)) hw.2.1
  rw [List.append_nil] at t1
  have hX1 := tx_tk hX t1
  have eS := so_n (P := P) hT hX1 (by omega) hL t1.1 t1.2.1 t1.2.2.1
  have e6 := ti_q (P := P) hT hX1 (by omega) hL t1.1 t1.2.1 t1.2.2.1 (k := 6) (by decide)
  have e7 := ti_q (P := P) hT hX1 (by omega) hL t1.1 t1.2.1 t1.2.2.1 (k := 7) (by decide)
  rw [if_neg (by omega)] at e6 e7
  obtain ⟨H2, e2, t2, t25⟩ := eI H1 hX1 t1
  obtain ⟨H3, e3, t3, t5⟩ := rg (P := P') hT (tx_kp hX1 (kt_p t2)) t25 hL2
  have eT : f_X3_readStatement_p3_2 (PZ T H1 P) 0 = some (1, PZ T H3 P') := by
    unfold f_X3_readStatement_p3_2
    rw [ps_0, t1.1, if_pos (by decide)]
    unfold f_X3_readStatement_p3_2_b38
    rw [e6, bd2_e, if_pos (by decide), e7, bd2_e, if_pos (by decide), eS, bd2_e, if_pos rfl, e2, bd2_e, if_neg (by decide), e3, bd2_e, if_neg (by decide)]
  refine ⟨H3, s_lp (t := 0) hX e1 t1.1 eT (kt_p (kt_t (kt_k t1) (kt_t t2 t3))) t5 h10, ?_⟩
  funext j
  rw [t3.1 3 j (by decide), t2.1 3 j (by decide), t1.2.2.2.1 3 j (by decide)]
theorem i_51 (hT : TC T) (hX : TX H L) {A M : List Int} {q : Nat} (hq : 8 ≤ q ∧ q ≤ 15) (hL : L = A ++ (ldL q ++ M)) (h3 : H 2 3 = 1) (h4 : H 2 4 = (A.length : Int)) (h5 : H 2 5 = ((A ++ ldL q).length : Int)) {n kd lg : Int} (hk : kd = (q : Int) - 8) (hn : P 0 10 = n) (h : 0 ≤ n ∧ n < 60) (hl : lg = 0 ∨ lg = 1) : f_X3_readInstruction_p3_2_b51 0 (PZ T H P) lg = some (1, PZ T H (ainF P n kd lg (-1) 0)) := by
  have e := kt_q (P := P) hT hX (by omega) hL h3 h4 h5
  rw [← hk] at e
  unfold f_X3_readInstruction_p3_2_b51
  rw [e, bd2_e, wr_e (z := kd) (by omega), if_pos (by show ¬ kd = -1; omega), if_pos (by show kd < 8; omega)]
  unfold f_X3_readInstruction_p3_2_b81
  rw [if_pos (by decide), wr_e (z := kd) (by omega), if_pos (by show ¬ kd = 9; omega)]
  unfold f_X3_readInstruction_p3_2_b102
  rw [if_pos (by decide), ps_p hT, ap_z hn h hl, bd_e]
/-- a plain instruction -/
theorem s_pl (hT : TC T) (hX : TX H L) {A M : List Int} (h5 : H 2 5 = (A.length : Int)) (h10 : H 2 10 = 0) {q : Nat} (hq : 8 ≤ q ∧ q ≤ 15) {n kd : Int} (hk : kd = (q : Int) - 8) (hn : P 0 10 = n) (h : 0 ≤ n ∧ n < 60) (hL : L = A ++ (ldL q ++ 59 :: M)) : ∃ H', STM T L H P (A ++ ldL q ++ [59]) H' (ainF P n kd 0 (-1) 0) ∧ H' 3 = H 3 := by
  refine s_ins (A2 := A ++ ldL q) hT hX h5 h10 (Or.inl (by omega)) (c := 59) (by decide) hL (fun H1 hX1 t1 => ⟨H1, ?_, ⟨fun _ _ _ => rfl, fun _ _ _ _ _ => rfl⟩, t1.2.2.1⟩) (by rw [hL, List.append_assoc])
  have e24 := ti_q (P := P) hT hX1 (by omega) hL t1.1 t1.2.1 t1.2.2.1 (k := 24) (by decide)
  rw [if_neg (by omega)] at e24
  have e := kt_q (P := P) hT hX1 (by omega) hL t1.1 t1.2.1 t1.2.2.1
  rw [← hk] at e
  unfold f_X3_readInstruction_p3_2
  rw [e24, bd2_e, if_neg (by decide), e, bd2_e, wr_e (z := kd) (by omega), if_pos (by show ¬ kd = -1; omega)]
  unfold f_X3_readInstruction_p3_2_b25
  rw [ps_p hT, ps_12, hn, wr_e (z := n) (by omega), if_pos (by show n < 60; omega), if_pos (by decide)]
  exact i_51 hT hX1 hq hL t1.1 t1.2.1 t1.2.2.1 hk hn h (Or.inl rfl)
/-- a long one -/
theorem s_lg (hT : TC T) (hX : TX H L) {A M : List Int} (h5 : H 2 5 = (A.length : Int)) (h10 : H 2 10 = 0) {q : Nat} (hq : 8 ≤ q ∧ q ≤ 15) {n kd : Int} (hk : kd = (q : Int) - 8) (hn : P 0 10 = n) (h : 0 ≤ n ∧ n < 60) (hL : L = A ++ (ldL 24 ++ 32 :: (ldL q ++ 59 :: M))) : ∃ H', STM T L H P (A ++ ldL 24 ++ [32] ++ ldL q ++ [59]) H' (ainF P n kd 1 (-1) 0) ∧ H' 3 = H 3 := by
  have hw := lw_abc (q - 6) (by omega)
  rw [show q - 6 + 6 = q by omega] at hw
  refine s_ins (A2 := A ++ ldL 24 ++ [32] ++ ldL q) (M := M) (q := 24) hT hX h5 h10 (Or.inr rfl) (c := 32) (by decide) hL (fun H1 hX1 t1 => ?_) (by rw [hL]; simp only [List.append_assoc, List.cons_append, List.nil_append, List.append_nil])
  have e24 := ti_q (P := P) (q := 24) hT hX1 (by decide) hL t1.1 t1.2.1 t1.2.2.1 (k := 24) (by decide)
  rw [if_pos rfl] at e24
  obtain ⟨H2, e2, t2⟩ := rt_w (P := P) (w := ldL q) (A := A ++ ldL 24) (c := 59) (M := M) hT hX1 t1.2.2.1 (Or.inr rfl) (s := [32]) (by rw [hL]; simp only [List.append_assoc, List.cons_append, List.nil_append, List.append_nil]) (by decide) (fun x hx => of_decide_eq_true (List.all_eq_true.mp hw.2.2 x hx)) hw.2.1
  have hX2 := tx_tk hX1 t2
  refine ⟨H2, ?_, kt_k t2, t2.2.2.1⟩
  unfold f_X3_readInstruction_p3_2
  rw [e24, bd2_e, if_pos (by decide)]
  unfold f_X3_readInstruction_p3_2_b25
  rw [ps_p hT, ps_12, hn, wr_e (z := n) (by omega), if_pos (by show n < 60; omega), if_neg (by decide), e2, bd_e]
  exact i_51 (A := A ++ ldL 24 ++ [32]) (M := 59 :: M) hT hX2 hq (by rw [hL]; simp only [List.append_assoc, List.cons_append, List.nil_append, List.append_nil]) t2.1 t2.2.1 t2.2.2.1 hk hn h (Or.inr rfl)
/-- a jump -/
theorem s_jmp (hT : TC T) (hX : TX H L) {A M : List Int} (h5 : H 2 5 = (A.length : Int)) (h10 : H 2 10 = 0) {v : Nat} {n w : Int} (hw : w = (v : Int)) (hv : v ≤ 9) (hn : P 0 10 = n) (h : 0 ≤ n ∧ n < 60) (hL : L = A ++ (ldL 16 ++ 32 :: (ldL 26 ++ 32 :: (dgL v ++ 59 :: M)))) : ∃ H', STM T L H P (A ++ ldL 16 ++ [32] ++ ldL 26 ++ [32] ++ dgL v ++ [59]) H' (ainF P n 8 0 (w + 1) 0) ∧ H' 3 = H 3 := by
  have hw26 := lw_abc 20 (by decide)
  refine s_ins (A2 := A ++ ldL 16 ++ [32] ++ ldL 26 ++ [32] ++ dgL v) (M := M) (q := 16) hT hX h5 h10 (Or.inl (by decide)) (c := 32) (by decide) hL (fun H1 hX1 t1 => ?_) (by rw [hL]; simp only [List.append_assoc, List.cons_append, List.nil_append, List.append_nil])
  have e24 := ti_q (P := P) (q := 16) hT hX1 (by decide) hL t1.1 t1.2.1 t1.2.2.1 (k := 24) (by decide)
  rw [if_neg (by decide)] at e24
  have e := kt_q (P := P) (q := 16) hT hX1 (by decide) hL t1.1 t1.2.1 t1.2.2.1
  replace e : f_X3_kindOfToken_p3_2 (PZ T H1 P) 0 = some (8, PZ T H1 P) := e
  obtain ⟨H2, e2, t2⟩ := rt_w (P := P) (w := ldL 26) (A := A ++ ldL 16) (c := 32) (M := dgL v ++ 59 :: M) hT hX1 t1.2.2.1 (Or.inr rfl) (s := [32]) (by rw [hL]; simp only [List.append_assoc, List.cons_append, List.nil_append, List.append_nil]) (by decide) (fun x hx => of_decide_eq_true (List.all_eq_true.mp hw26.2.2 x hx)) hw26.2.1
  have hX2 := tx_tk hX1 t2
  have hL2 : L = (A ++ ldL 16 ++ [32]) ++ (ldL 26 ++ 32 :: (dgL v ++ 59 :: M)) := by rw [hL]; simp only [List.append_assoc, List.cons_append, List.nil_append, List.append_nil]
  have e25 := ti_q (P := P) (q := 26) hT hX2 (by decide) hL2 t2.1 t2.2.1 t2.2.2.1 (k := 25) (by decide)
  rw [if_neg (by decide)] at e25
  have e26 := ti_q (P := P) (q := 26) hT hX2 (by decide) hL2 t2.1 t2.2.1 t2.2.2.1 (k := 26) (by decide)
  rw [if_pos rfl] at e26
  obtain ⟨H3, e3, t3, t35⟩ := rn (P := P) (v := v) (A := A ++ ldL 16 ++ [32] ++ ldL 26) (c := 59) (M := M) hT hX2 t2.2.2.1 (by rw [hL]; simp only [List.append_assoc, List.cons_append, List.nil_append, List.append_nil]) (Or.inr rfl) (by omega) (a1 := 0) (a2 := 9) (by omega)
  rw [← hw] at e3
  refine ⟨H3, ?_, kt_t (kt_k t2) t3, t35⟩
  unfold f_X3_readInstruction_p3_2
  rw [e24, bd2_e, if_neg (by decide), e, bd2_e, if_pos (by decide)]
  unfold f_X3_readInstruction_p3_2_b25
  rw [ps_p hT, ps_12, hn, wr_e (z := n) (by omega), if_pos (by show n < 60; omega), if_pos (by decide)]
  unfold f_X3_readInstruction_p3_2_b51
  rw [e, bd2_e, if_pos (by decide), if_neg (by decide)]
  unfold f_X3_readTarget_p3_2
  rw [e2, bd_e, e25, bd2_e, if_pos (by decide), e26, bd2_e, if_neg (by decide), e3, bd2_e, wr_e (z := w) (by omega), if_pos (by show ¬ w = -1; omega), bd2_e]
  unfold f_X3_readInstruction_p3_2_b81
  rw [wr_e (z := w + 1) (by omega), if_pos (by omega), if_pos (by decide)]
  unfold f_X3_readInstruction_p3_2_b102
  rw [if_pos (by decide), ps_p hT, ap_z hn h (Or.inl rfl), bd_e]
/-- a branch -/
theorem s_br (hT : TC T) (hX : TX H L) {A M : List Int} (h5 : H 2 5 = (A.length : Int)) (h10 : H 2 10 = 0) {v u : Nat} {n w y : Int} (hw : w = (v : Int)) (hy : y = (u : Int)) (hn : P 0 10 = n) (h : 0 ≤ n ∧ n < 60) (hv : 1 ≤ w ∧ w ≤ n) (hu : 1 ≤ y ∧ y ≤ 99) (hL : L = A ++ (ldL 17 ++ 32 :: (ldL 25 ++ 32 :: (dgL v ++ 32 :: (ldL 27 ++ 32 :: (dgL u ++ 59 :: M)))))) : ∃ H', STM T L H P (A ++ ldL 17 ++ [32] ++ ldL 25 ++ [32] ++ dgL v ++ [32] ++ ldL 27 ++ [32] ++ dgL u ++ [59]) H' (ainF P n 9 0 (-w) y) ∧ H' 3 = H 3 := by
  have hw25 := lw_abc 19 (by decide)
  have hw27 := lw_abc 21 (by decide)
  refine s_ins (A2 := A ++ ldL 17 ++ [32] ++ ldL 25 ++ [32] ++ dgL v ++ [32] ++ ldL 27 ++ [32] ++ dgL u) (M := M) (q := 17) hT hX h5 h10 (Or.inl (by decide)) (c := 32) (by decide) hL (fun H1 hX1 t1 => ?_) (by rw [hL]; simp only [List.append_assoc, List.cons_append, List.nil_append, List.append_nil])
  have e24 := ti_q (P := P) (q := 17) hT hX1 (by decide) hL t1.1 t1.2.1 t1.2.2.1 (k := 24) (by decide)
  rw [if_neg (by decide)] at e24
  have e := kt_q (P := P) (q := 17) hT hX1 (by decide) hL t1.1 t1.2.1 t1.2.2.1
  replace e : f_X3_kindOfToken_p3_2 (PZ T H1 P) 0 = some (9, PZ T H1 P) := e
  obtain ⟨H2, e2, t2⟩ := rt_w (P := P) (w := ldL 25) (A := A ++ ldL 17) (c := 32) (M := dgL v ++ 32 :: (ldL 27 ++ 32 :: (dgL u ++ 59 :: M))) hT hX1 t1.2.2.1 (Or.inr rfl) (s := [32]) (by rw [hL]; simp only [List.append_assoc, List.cons_append, List.nil_append, List.append_nil]) (by decide) (fun x hx => of_decide_eq_true (List.all_eq_true.mp hw25.2.2 x hx)) hw25.2.1
  have hX2 := tx_tk hX1 t2
  have hL2 : L = (A ++ ldL 17 ++ [32]) ++ (ldL 25 ++ 32 :: (dgL v ++ 32 :: (ldL 27 ++ 32 :: (dgL u ++ 59 :: M)))) := by rw [hL]; simp only [List.append_assoc, List.cons_append, List.nil_append, List.append_nil]
  have e25 := ti_q (P := P) (q := 25) hT hX2 (by decide) hL2 t2.1 t2.2.1 t2.2.2.1 (k := 25) (by decide)
  rw [if_pos rfl] at e25
  obtain ⟨H3, e3, t3, t35⟩ := rn (P := P) (v := v) (A := A ++ ldL 17 ++ [32] ++ ldL 25) (c := 32) (M := ldL 27 ++ 32 :: (dgL u ++ 59 :: M)) hT hX2 t2.2.2.1 (by rw [hL]; simp only [List.append_assoc, List.cons_append, List.nil_append, List.append_nil]) (Or.inl rfl) (by omega) (a1 := 1) (a2 := n) (by omega)
  rw [← hw] at e3
  have hX3 := tx_kp hX2 (kt_p t3)
  obtain ⟨H4, e4, t4⟩ := rt_w (P := P) (w := ldL 27) (A := A ++ ldL 17 ++ [32] ++ ldL 25 ++ [32] ++ dgL v) (c := 32) (M := dgL u ++ 59 :: M) hT hX3 t35 (Or.inr rfl) (s := [32]) (by rw [hL]; simp only [List.append_assoc, List.cons_append, List.nil_append, List.append_nil]) (by decide) (fun x hx => of_decide_eq_true (List.all_eq_true.mp hw27.2.2 x hx)) hw27.2.1
  have hX4 := tx_tk hX3 t4
  have hL4 : L = (A ++ ldL 17 ++ [32] ++ ldL 25 ++ [32] ++ dgL v ++ [32]) ++ (ldL 27 ++ 32 :: (dgL u ++ 59 :: M)) := by rw [hL]; simp only [List.append_assoc, List.cons_append, List.nil_append, List.append_nil]
  have e27 := ti_q (P := P) (q := 27) hT hX4 (by decide) hL4 t4.1 t4.2.1 t4.2.2.1 (k := 27) (by decide)
  rw [if_pos rfl] at e27
  obtain ⟨H5, e5, t5, t55⟩ := rn (P := P) (v := u) (A := A ++ ldL 17 ++ [32] ++ ldL 25 ++ [32] ++ dgL v ++ [32] ++ ldL 27) (c := 59) (M := M) hT hX4 t4.2.2.1 (by rw [hL]; simp only [List.append_assoc, List.cons_append, List.nil_append, List.append_nil]) (Or.inr rfl) (by omega) (a1 := 1) (a2 := 99) (by omega)
  rw [← hy] at e5
  refine ⟨H5, ?_, kt_t (kt_k t2) (kt_t t3 (kt_t (kt_k t4) t5)), t55⟩
  unfold f_X3_readInstruction_p3_2
  rw [e24, bd2_e, if_neg (by decide), e, bd2_e, if_pos (by decide)]
  unfold f_X3_readInstruction_p3_2_b25
  rw [ps_p hT, ps_12, hn, wr_e (z := n) (by omega), if_pos (by show n < 60; omega), if_pos (by decide)]
  unfold f_X3_readInstruction_p3_2_b51
  rw [e, bd2_e, if_pos (by decide), if_neg (by decide)]
  unfold f_X3_readTarget_p3_2
  rw [e2, bd_e, e25, bd2_e, if_neg (by decide), ps_p hT, ps_12, hn, e3, bd2_e, wr_e (z := w) (by omega), if_pos (by show ¬ w = -1; omega), bd2_e]
  unfold f_X3_readInstruction_p3_2_b81
  rw [wr_e (z := -w) (by omega), if_pos (by omega), if_neg (by decide)]
  unfold f_X3_readTimes_p3_2
  rw [e4, bd_e, e27, bd2_e, if_pos (by decide), e5, bd2_e, bd2_e]
  unfold f_X3_readInstruction_p3_2_b102
  rw [wr_e (z := y) (by omega), if_pos (by show ¬ y = -1; omega), ps_p hT, ap_z hn h (Or.inl rfl), bd_e]
end C3C
