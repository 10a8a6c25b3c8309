/-! mathematics: tokens: numbers, reading one, comparing it with a word -/
/-- a token is being read that began at a -/
def RK (H F : xR) (a : Int) : Prop := F 2 4 = a ∧ (∀ o k, o ≠ 2 → F o k = H o k) ∧ ∀ k, k ≠ 3 → k ≠ 4 → k ≠ 5 → k ≠ 6 → F 2 k = H 2 k
theorem lw_inj : ∀ i : Nat, i < 22 → ∀ j : Nat, j < 22 → ldL (i + 6) = ldL (j + 6) → i = j := by decide +kernel
theorem lw_abc : ∀ i : Nat, i < 22 → (ldL (i + 6)).length ≤ 6 ∧ 0 < (ldL (i + 6)).length ∧ (ldL (i + 6)).all (fun x => decide (97 ≤ x ∧ x ≤ 122)) = true := by decide +kernel
theorem xldc_l : 28 ≤ xldc.length := by decide +kernel
section C39
variable {T : xSt} {H H' P : xR} {L : List Int}
theorem rk_0 {a : Int} : RK H (uF (uF H 2 4 a) 2 3 0) a := ⟨by rw [uF_k (by decide), uF_e], fun o k h => by rw [uF_o h, uF_o h], fun k h3 h4 h5 h6 => by rw [uF_k h3, uF_k h4]⟩
theorem rk_6 {F : xR} {a z : Int} (h : RK H F a) : RK H (uF F 2 6 z) a := ⟨(uF_k (by decide)).trans h.1, fun o k ho => (uF_o ho).trans (h.2.1 o k ho), fun k h3 h4 h5 h6 => (uF_k h6).trans (h.2.2 k h3 h4 h5 h6)⟩
theorem tk_r {F : xR} {a t e : Int} (h : RK H F a) : TK H (uF (uF F 2 3 t) 2 5 e) t a e := by
  obtain ⟨h1, h2, h3⟩ := h
  refine ⟨?_, ?_, uF_e, fun o k ho => ?_, fun k k3 k4 k5 k6 => ?_⟩
  · rw [uF_k (by decide), uF_e]
  · rw [uF_k (by decide), uF_k (by decide), h1]
  · rw [uF_o ho, uF_o ho, h2 o k ho]
  · rw [uF_k k5, uF_k k3, h3 k k3 k4 k5 k6]
theorem rk_1 {F : xR} {a : Int} (h : RK H F a) : F 1 = H 1 := funext fun k => h.2.1 1 k (by decide)
/-- one digit -/
theorem en_d (hT : TC T) (hX : TX H L) {F : xR} {a : Int} (hF : RK H F a) {A M : List Int} {d x0 : Int} (hL : L = A ++ d :: M) (hd : 48 ≤ d ∧ d ≤ 57) (hx : 0 ≤ x0 ∧ (A.length : Int) < x0 + 2 ∧ x0 ≤ 1000) (f : Nat) : f_X3_endOfNumber_p3_2_b7 0 (f + 1) (PZ T F P) x0 (A.length : Int) = f_X3_endOfNumber_p3_2_b7 0 f (PZ T (uF F 2 6 (10 * F 2 6 + d - 48)) P) x0 ((A ++ [d]).length : Int) := by
  have hl := hX.2.1
  obtain ⟨a1, a2, a3⟩ := tx_l hX hL
  obtain ⟨b1, b2⟩ := tx_w (P := P) hT hX hL (rk_1 hF)
  have b3 : gI (PZ T F P) 0 1 (wr (A.length : Int)).toNat = d := by
    have e : (wr (A.length : Int)).toNat = A.length := by
      rw [wr_e (by omega)]
      omega
    rw [e, ps_0, rk_1 hF, a1]
  rw [List.length_append, List.length_singleton, f_X3_endOfNumber_p3_2_b7, ps_0, hF.2.2 1 (by decide) (by decide) (by decide) (by decide), hX.1, wr_e (z := (L.length : Int)) (by omega), if_neg (by rw [wr_e (by omega)]; omega), ps_t hT, b2, b1, if_neg (by rw [wr_e (by omega)]; omega), ps_t hT, b2, b1, if_neg (by rw [wr_e (by omega)]; omega), wr_e (z := x0 + 2) (by omega), if_neg (by rw [wr_e (by omega)]; omega), ps_t hT, b2, b3, ps_0, ps_w0, lt1_e]
  exact congrArg (fun z => f_X3_endOfNumber_p3_2_b7 0 f (PZ T (uF F 2 6 (10 * F 2 6 + d - 48)) P) x0 z) (by omega)
/-- behind the digits -/
theorem en_e (hT : TC T) (hX : TX H L) {F : xR} {a : Int} (hF : RK H F a) {A M : List Int} {c x0 : Int} (hL : L = A ++ c :: M) (hc : c = 32 ∨ c = 59) (hx : 0 ≤ x0 ∧ (A.length : Int) ≤ x0 + 2 ∧ x0 ≤ 1000) (f : Nat) : f_X3_endOfNumber_p3_2_b7 0 (f + 1) (PZ T F P) x0 (A.length : Int) = some ((A.length : Int), PZ T (uF F 2 3 2) P) := by
  have hl := hX.2.1
  obtain ⟨a1, a2, a3⟩ := tx_l hX hL
  obtain ⟨b1, b2⟩ := tx_w (P := P) hT hX hL (rk_1 hF)
  have h71 : f_X3_endOfNumber_p3_2_b71 0 (PZ T F P) x0 (A.length : Int) = some ((A.length : Int), PZ T (uF F 2 3 2) P) := by
    unfold f_X3_endOfNumber_p3_2_b71
    rw [wr_e (z := x0 + 2) (by omega), if_neg (by rw [wr_e (by omega)]; omega), ps_w0, lt1_e]
  rw [f_X3_endOfNumber_p3_2_b7, ps_0, hF.2.2 1 (by decide) (by decide) (by decide) (by decide), hX.1, wr_e (z := (L.length : Int)) (by omega), if_neg (by rw [wr_e (by omega)]; omega), ps_t hT, b2, b1]
  rcases hc with rfl | rfl
  · rw [if_pos (by decide), h71]
  · rw [if_neg (by decide), ps_t hT, b2, b1, if_pos (by decide), h71]
/-- b41 on a number -/
theorem b41_n (hT : TC T) (hX : TX H L) {c : Int} {v : Nat} {A M : List Int} (hc : c = 32 ∨ c = 59) (hv : v < 100) (hL : L = A ++ (dgL v ++ c :: M)) : ∃ H', f_X3_readToken_p3_2_b41 0 (PZ T H P) (A.length : Int) = some (PZ T H' P) ∧ TK H H' 2 (A.length : Int) ((A ++ dgL v).length : Int) ∧ H' 2 6 = (v : Int) := by
  have hl := hX.2.1
  have hfu := hT.2.2.2.2
  have r0 := rk_6 (z := 0) (rk_0 (H := H) (a := (A.length : Int)))
  have hlen : A.length < L.length := by
    rw [hL, List.length_append, List.length_append, List.length_cons]
    omega
  obtain ⟨f, ef⟩ : ∃ f, fu (PZ T (uF (uF (uF H 2 4 (A.length : Int)) 2 3 0) 2 6 0) P) = f + 3 := ⟨T.1.1 - 3, by show T.1.1 = _; omega⟩
  have e60 : (uF (uF (uF H 2 4 (A.length : Int)) 2 3 0) 2 6 0) 2 6 = 0 := uF_e
  by_cases cv : v < 10
  · have ed : dgL v = [((48 + v : Nat) : Int)] := if_pos cv
    rw [ed] at hL ⊢
    have hL1 : L = A ++ ((48 + v : Nat) : Int) :: (c :: M) := hL
    have hL2 : L = (A ++ [((48 + v : Nat) : Int)]) ++ c :: M := by
      rw [hL, List.append_assoc]
    obtain ⟨a1, a2, a3⟩ := tx_l hX hL1
    obtain ⟨b1, b2⟩ := tx_w (P := P) (F := uF (uF H 2 4 (A.length : Int)) 2 3 0) hT hX hL1 u1_H
    have b3 : gI (PZ T (uF (uF H 2 4 (A.length : Int)) 2 3 0) P) 0 1 (wr (A.length : Int)).toNat = ((48 + v : Nat) : Int) := by
      have e : (wr (A.length : Int)).toNat = A.length := by
        rw [wr_e (by omega)]
        omega
      rw [e, ps_0, u1_H, a1]
    have s1 := en_d (P := P) hT hX r0 hL1 (x0 := (A.length : Int)) (by omega) (by omega) (f + 2)
    have s2 := en_e (P := P) hT hX (rk_6 (z := 10 * (uF (uF (uF H 2 4 (A.length : Int)) 2 3 0) 2 6 0) 2 6 + ((48 + v : Nat) : Int) - 48) r0) hL2 hc (x0 := (A.length : Int)) (by rw [List.length_append, List.length_singleton]; omega) (f + 1)
    refine ⟨_, ?_, tk_r (rk_6 (z := 10 * (uF (uF (uF H 2 4 (A.length : Int)) 2 3 0) 2 6 0) 2 6 + ((48 + v : Nat) : Int) - 48) r0), ?_⟩
    · unfold f_X3_readToken_p3_2_b41
      rw [ps_w0, lt1_e, ps_w0, lt1_e, ps_0, u1_L, hX.1, wr_e (z := (L.length : Int)) (by omega), if_neg (by rw [wr_e (by omega)]; omega), ps_t hT, b2, b1, if_pos (by rw [wr_e (by omega)]; omega), b3]
      unfold f_X3_readToken_p3_2_b87
      rw [if_neg (by rw [wr_e (by omega), wr_e (by omega)]; omega), if_neg (by rw [wr_e (by omega), wr_e (by omega)]; omega)]
      unfold f_X3_endOfNumber_p3_2
      rw [ps_w0, lt1_e, ef, s1, s2, bd2_e, ps_w0, lt1_e]
    · rw [uF_k (by decide), uF_k (by decide), uF_e, e60]
      omega
  · have ed : dgL v = [((48 + v / 10 : Nat) : Int), ((48 + v % 10 : Nat) : Int)] := if_neg cv
    rw [ed] at hL ⊢
    have hL1 : L = A ++ ((48 + v / 10 : Nat) : Int) :: (((48 + v % 10 : Nat) : Int) :: c :: M) := hL
    have hL2 : L = (A ++ [((48 + v / 10 : Nat) : Int)]) ++ ((48 + v % 10 : Nat) : Int) :: c :: M := by
      rw [hL, List.append_assoc]
      rfl
    have hL3 : L = ((A ++ [((48 + v / 10 : Nat) : Int)]) ++ [((48 + v % 10 : Nat) : Int)]) ++ c :: M := by
      rw [hL2, List.append_assoc _ [((48 + v % 10 : Nat) : Int)]]
      rfl
    obtain ⟨a1, a2, a3⟩ := tx_l hX hL1
    obtain ⟨b1, b2⟩ := tx_w (P := P) (F := uF (uF H 2 4 (A.length : Int)) 2 3 0) hT hX hL1 u1_H
    have b3 : gI (PZ T (uF (uF H 2 4 (A.length : Int)) 2 3 0) P) 0 1 (wr (A.length : Int)).toNat = ((48 + v / 10 : Nat) : Int) := by
      have e : (wr (A.length : Int)).toNat = A.length := by
        rw [wr_e (by omega)]
        omega
      rw [e, ps_0, u1_H, a1]
    have r1 := rk_6 (z := 10 * (uF (uF (uF H 2 4 (A.length : Int)) 2 3 0) 2 6 0) 2 6 + ((48 + v / 10 : Nat) : Int) - 48) r0
    have s1 := en_d (P := P) hT hX r0 hL1 (x0 := (A.length : Int)) (by omega) (by omega) (f + 2)
    have s2 := en_d (P := P) hT hX r1 hL2 (x0 := (A.length : Int)) (by omega) (by rw [List.length_append, List.length_singleton]; omega) (f + 1)
    generalize eF : uF (uF (uF (uF H 2 4 (A.length : Int)) 2 3 0) 2 6 0) 2 6 (10 * (uF (uF (uF H 2 4 (A.length : Int)) 2 3 0) 2 6 0) 2 6 + ((48 + v / 10 : Nat) : Int) - 48) = F1 at r1 s1 s2
    have e61 : F1 2 6 = ((v / 10 : Nat) : Int) := by
      rw [← eF, uF_e, e60]
      omega
    have s3 := en_e (P := P) hT hX (rk_6 (z := 10 * F1 2 6 + ((48 + v % 10 : Nat) : Int) - 48) r1) hL3 hc (x0 := (A.length : Int)) (by rw [List.length_append, List.length_append, List.length_singleton, List.length_singleton]; omega) f
    have eA : A ++ [((48 + v / 10 : Nat) : Int), ((48 + v % 10 : Nat) : Int)] = (A ++ [((48 + v / 10 : Nat) : Int)]) ++ [((48 + v % 10 : Nat) : Int)] := by
      rw [List.append_assoc]
      rfl
    rw [eA]
    refine ⟨_, ?_, tk_r (rk_6 (z := 10 * F1 2 6 + ((48 + v % 10 : Nat) : Int) - 48) r1), ?_⟩
    · unfold f_X3_readToken_p3_2_b41
      rw [ps_w0, lt1_e, ps_w0, lt1_e, ps_0, u1_L, hX.1, wr_e (z := (L.length : Int)) (by omega), if_neg (by rw [wr_e (by omega)]; omega), ps_t hT, b2, b1, if_pos (by rw [wr_e (by omega)]; omega), b3]
      unfold f_X3_readToken_p3_2_b87
      rw [if_neg (by rw [wr_e (by omega), wr_e (by omega)]; omega), if_neg (by rw [wr_e (by omega), wr_e (by omega)]; omega)]
      unfold f_X3_endOfNumber_p3_2
      rw [ps_w0, lt1_e, ef, s1, s2, s3, bd2_e, ps_w0, lt1_e]
    · rw [uF_k (by decide), uF_k (by decide), uF_e, e61]
      omega
/-- readToken, a blank before the token or none -/
theorem rt_b (hT : TC T) (hX : TX H L) {A s M : List Int} {x : Int} (h5 : H 2 5 = (A.length : Int)) (hs : s = [] ∨ s = [32]) (hL : L = A ++ (s ++ x :: M)) (hx : x ≠ 32 ∧ x ≠ 10) : f_X3_readToken_p3_2 (PZ T H P) 0 = f_X3_readToken_p3_2_b41 0 (PZ T H P) ((A ++ s).length : Int) := by
  have hl := hX.2.1
  have hfu := hT.2.2.2.2
  have g : ∀ (B M : List Int) (f : Nat), L = B ++ x :: M → f_X3_readToken_p3_2_b5 0 (f + 1) (PZ T H P) (B.length : Int) = f_X3_readToken_p3_2_b41 0 (PZ T H P) (B.length : Int) := fun B M f hB => by
    obtain ⟨a1, a2, a3⟩ := tx_l hX hB
    obtain ⟨b1, b2⟩ := tx_w (P := P) hT hX hB rfl
    rw [f_X3_readToken_p3_2_b5, ps_0, hX.1, wr_e (z := (L.length : Int)) (by omega), if_neg (by rw [wr_e (by omega)]; omega), ps_t hT, b2, b1, if_neg (by rw [wr_e (by omega)]; omega), ps_t hT, b2, b1, if_pos (by rw [wr_e (by omega)]; omega)]
  unfold f_X3_readToken_p3_2
  obtain ⟨f, ef⟩ : ∃ f, fu (PZ T H P) = f + 2 := ⟨T.1.1 - 2, by show T.1.1 = _; omega⟩
  rw [ef, ps_0, h5]
  rcases hs with rfl | rfl
  · rw [List.append_nil]
    exact g A M (f + 1) hL
  · have hL1 : L = A ++ 32 :: (x :: M) := hL
    have hL2 : L = (A ++ [32]) ++ x :: M := by
      rw [hL, List.append_assoc]
    obtain ⟨a1, a2, a3⟩ := tx_l hX hL1
    obtain ⟨b1, b2⟩ := tx_w (P := P) hT hX hL1 rfl
    have g2 := g (A ++ [32]) M f hL2
    have e : ((A ++ [32]).length : Int) = (A.length : Int) + 1 := by
      rw [List.length_append, List.length_singleton]
      omega
    rw [e] at g2 ⊢
    rw [f_X3_readToken_p3_2_b5, ps_0, hX.1, wr_e (z := (L.length : Int)) (by omega), if_neg (by rw [wr_e (by omega)]; omega), ps_t hT, b2, b1, if_pos (by decide)]
    exact g2
theorem rt_w (hT : TC T) (hX : TX H L) {A s w M : List Int} {c : Int} (h5 : H 2 5 = (A.length : Int)) (hs : s = [] ∨ s = [32]) (hL : L = A ++ (s ++ (w ++ c :: M))) (hc : c < 97) (hw : ∀ x ∈ w, 97 ≤ x ∧ x ≤ 122) (h0 : 0 < w.length) : ∃ H', f_X3_readToken_p3_2 (PZ T H P) 0 = some (PZ T H' P) ∧ TK H H' 1 ((A ++ s).length : Int) ((A ++ s ++ w).length : Int) := by
  obtain ⟨x, w', hw'⟩ : ∃ x w', w = x :: w' := by
    cases w with
    | nil => exact absurd h0 (by decide)
    | cons x w' => exact ⟨x, w', rfl⟩
  have hx := hw x (by rw [hw']; exact List.mem_cons_self)
  have hL2 : L = A ++ (s ++ x :: (w' ++ c :: M)) := by
    rw [hL, hw']
    rfl
  rw [rt_b hT hX h5 hs hL2 (by omega)]
  obtain ⟨H', e, t⟩ := b41_w (P := P) hT hX (A := A ++ s) hc (by rw [hL, List.append_assoc]) hw h0
  refine ⟨H', e, ?_⟩
  rw [List.length_append (as := A ++ s)]
  exact t
theorem rt_n (hT : TC T) (hX : TX H L) {A s M : List Int} {c : Int} {v : Nat} (h5 : H 2 5 = (A.length : Int)) (hs : s = [] ∨ s = [32]) (hL : L = A ++ (s ++ (dgL v ++ c :: M))) (hc : c = 32 ∨ c = 59) (hv : v < 100) : ∃ H', f_X3_readToken_p3_2 (PZ T H P) 0 = some (PZ T H' P) ∧ TK H H' 2 ((A ++ s).length : Int) ((A ++ s ++ dgL v).length : Int) ∧ H' 2 6 = (v : Int) := by
  obtain ⟨x, w', hw', hx⟩ : ∃ x w', dgL v = x :: w' ∧ (48 ≤ x ∧ x ≤ 57) := by
    unfold dgL
    split
    · exact ⟨_, _, rfl, by omega⟩
    · exact ⟨_, _, rfl, by omega⟩
  have hL2 : L = A ++ (s ++ x :: (w' ++ c :: M)) := by
    rw [hL, hw']
    rfl
  rw [rt_b hT hX h5 hs hL2 (by omega)]
  exact b41_n hT hX (A := A ++ s) hc hv (by rw [hL, List.append_assoc])
theorem rt_s (hT : TC T) (hX : TX H L) {A M : List Int} (h5 : H 2 5 = (A.length : Int)) (hL : L = A ++ 59 :: M) : ∃ H', f_X3_readToken_p3_2 (PZ T H P) 0 = some (PZ T H' P) ∧ TK H H' 59 (A.length : Int) ((A ++ [59]).length : Int) := by
  rw [rt_b hT hX h5 (Or.inl rfl) (s := []) (x := 59) hL (by decide), List.append_nil, List.length_append, List.length_singleton]
  exact b41_s hT hX hL
theorem rt_e (hT : TC T) (hX : TX H L) (h5 : H 2 5 = (L.length : Int)) : ∃ H', f_X3_readToken_p3_2 (PZ T H P) 0 = some (PZ T H' P) ∧ TK H H' 0 (L.length : Int) (L.length : Int) := by
  have hfu := hT.2.2.2.2
  unfold f_X3_readToken_p3_2
  obtain ⟨f, ef⟩ : ∃ f, fu (PZ T H P) = f + 1 := ⟨T.1.1 - 1, by show T.1.1 = _; omega⟩
  rw [ef, ps_0, h5, f_X3_readToken_p3_2_b5, ps_0, hX.1, if_pos (Int.le_refl _)]
  exact b41_e hX
end C39
