/-! mathematics: tokens -/
theorem sR_c {S : xSt} {r r' : Nat} {F G : xR} (h : r ≠ r') : sR (sR S r F) r' G = sR (sR S r' G) r F := by
  have e : (fun k => if k = r' then G else (sR S r F).2.1 k) = fun k => if k = r then F else (sR S r' G).2.1 k := by
    funext k
    by_cases c : k = r'
    · rw [if_pos c, if_neg (fun z => h (z.symm.trans c)), c, sR_g1]
    · rw [if_neg c]
      by_cases c2 : k = r
      · rw [if_pos c2, c2, sR_g1]
      · rw [if_neg c2, sR_n1 c2, sR_n1 c]
  show (S.1, (fun k => if k = r' then G else (sR S r F).2.1 k), S.2.2) = (S.1, (fun k => if k = r then F else (sR S r' G).2.1 k), S.2.2)
  rw [e]
/-- the parser's world: h is H, the new program P -/
def PZ (T : xSt) (H P : xR) : xSt := sR (sR T 0 H) 12 P
def TC (T : xSt) : Prop := T.2.2 0 2 0 = (0, 1) ∧ T.2.2 0 2 2 = (12, 0) ∧ T.1.2 0 = 3 ∧ T.1.2 12 = 2 ∧ 10000000 ≤ T.1.1
/-- the text is L -/
def TX (H : xR) (L : List Int) : Prop := H 2 1 = (L.length : Int) ∧ L.length ≤ 500 ∧ (∀ j : Nat, j < L.length → H 1 j = L.getD j 0) ∧ ∀ x ∈ L, 0 ≤ x ∧ x ≤ 127
/-- a token from a to e was read -/
def TK (H H' : xR) (t a e : Int) : Prop := H' 2 3 = t ∧ H' 2 4 = a ∧ H' 2 5 = e ∧ (∀ o k, o ≠ 2 → H' o k = H o k) ∧ ∀ k, k ≠ 3 → k ≠ 4 → k ≠ 5 → k ≠ 6 → H' 2 k = H 2 k
section C38
variable {T : xSt} {H H' P : xR} {L : List Int}
theorem ps_0 {o k : Nat} : gI (PZ T H P) 0 o k = H o k := (sR_n (by decide)).trans sR_g
theorem ps_12 {o k : Nat} : gI (PZ T H P) 12 o k = P o k := sR_g
theorem ps_w0 {o k : Nat} {z : Int} : wI (PZ T H P) 0 o k z = PZ T (uF H o k z) P := by
  unfold PZ
  rw [sR_c (by decide), sR_w, sR_c (by decide)]
theorem ps_w12 {o k : Nat} {z : Int} : wI (PZ T H P) 12 o k z = PZ T H (uF P o k z) := sR_w
theorem ps_t (hT : TC T) {β : Type} {f : Nat → Option β} : ckP (PZ T H P) 0 2 0 3 1 f = f 0 := by
  unfold ckP
  rw [show gP (PZ T H P) 0 2 0 = (0, 1) from hT.1]
  exact if_pos ⟨rfl, hT.2.2.1⟩
theorem ps_p (hT : TC T) {β : Type} {f : Nat → Option β} : ckP (PZ T H P) 0 2 2 2 0 f = f 12 := ckP_e hT.2.1 hT.2.2.2.1
theorem tx_tk {t a e : Int} (h : TX H L) (hk : TK H H' t a e) : TX H' L := by
  obtain ⟨h1, h2, h3, h4⟩ := h
  obtain ⟨-, -, -, k4, k5⟩ := hk
  exact ⟨(k5 1 (by decide) (by decide) (by decide) (by decide)).trans h1, h2, fun j hj => (k4 1 j (by decide)).trans (h3 j hj), h4⟩
theorem tx_l (h : TX H L) {A M : List Int} {x : Int} (hL : L = A ++ x :: M) : H 1 A.length = x ∧ (0 ≤ x ∧ x ≤ 127) ∧ A.length < L.length := by
  obtain ⟨h1, h2, h3, h4⟩ := h
  have hl : A.length < L.length := by
    rw [hL, List.length_append, List.length_cons]
    omega
  refine ⟨?_, h4 x (by rw [hL]; exact List.mem_append_right _ List.mem_cons_self), hl⟩
  rw [h3 A.length hl, hL, getD_app, if_neg (by omega), Nat.sub_self]
  rfl
theorem tx_w (hT : TC T) (h : TX H L) {A M : List Int} {x : Int} (hL : L = A ++ x :: M) {F : xR} (hF : F 1 = H 1) : (wr (gI (PZ T F P) 0 1 (wr (A.length : Int)).toNat) = x) ∧ ∀ {β : Type} {k : Option β}, ckI (A.length : Int) 600 k = k := by
  obtain ⟨a, b, c⟩ := tx_l h hL
  have h2 := h.2.1
  have e : (wr (A.length : Int)).toNat = A.length := by
    rw [wr_e (by omega)]
    omega
  refine ⟨?_, ckI_e (by omega)⟩
  rw [e, ps_0, hF, a, wr_e (by omega)]
/-- the end of a word -/
theorem ew (hT : TC T) (hX : TX H L) {c : Int} {M : List Int} (hc : c < 97) {F : xR} (h1 : F 1 = H 1) (h2 : F 2 1 = H 2 1) : ∀ (w A : List Int) (f : Nat), L = A ++ (w ++ c :: M) → (∀ x ∈ w, 97 ≤ x ∧ x ≤ 122) → w.length < f → f_X3_endOfWord_p3_2_b2 0 f (PZ T F P) (A.length : Int) = some (((A.length + w.length : Nat) : Int), PZ T (uF F 2 3 1) P) := by
  intro w
  have hl := hX.2.1
  induction w with
  | nil =>
    intro A f hL hw hf
    obtain ⟨f, rfl⟩ := fs_e (show 0 < f by omega)
    obtain ⟨a1, a2, a3⟩ := tx_l hX hL
    obtain ⟨b1, b2⟩ := tx_w (P := P) hT hX hL h1
    rw [f_X3_endOfWord_p3_2_b2, ps_0, h2, hX.1, wr_e (z := (L.length : Int)) (by omega), if_neg (by rw [wr_e (by omega)]; omega), ps_t hT, b2, b1, if_pos (by rw [wr_e (by omega)]; omega), ps_w0, lt1_e]
    rfl
  | cons x w ih =>
    intro A f hL hw hf
    obtain ⟨f, rfl⟩ := fs_e (show 0 < f by omega)
    obtain ⟨a1, a2, a3⟩ := tx_l hX hL
    obtain ⟨b1, b2⟩ := tx_w (P := P) hT hX hL h1
    have hx := hw x List.mem_cons_self
    have g := ih (A ++ [x]) f (by rw [hL, List.append_assoc]; rfl) (fun y hy => hw y (List.mem_cons_of_mem _ hy)) (by rw [List.length_cons] at hf; omega)
    rw [List.length_append] at g
    have e : ((A.length + [x].length : Nat) : Int) = (A.length : Int) + 1 := by
      rw [List.length_singleton]
      omega
    rw [e] at g
    rw [f_X3_endOfWord_p3_2_b2, ps_0, h2, hX.1, wr_e (z := (L.length : Int)) (by omega), if_neg (by rw [wr_e (by omega)]; omega), ps_t hT, b2, b1, if_neg (by rw [wr_e (by omega)]; omega), ps_t hT, b2, b1, if_neg (by rw [wr_e (by omega)]; omega), g]
    rw [List.length_singleton, List.length_cons]
    exact congrArg (fun z => some (z, PZ T (uF F 2 3 1) P)) (by omega)
theorem tk_u {t a e : Int} : TK H (uF (uF (uF (uF H 2 4 a) 2 3 0) 2 3 t) 2 5 e) t a e := by
  refine ⟨?_, ?_, uF_e, fun o k h => ?_, fun k h3 h4 h5 h6 => ?_⟩
  · rw [uF_k (by decide), uF_e]
  · rw [uF_k (by decide), uF_k (by decide), uF_k (by decide), uF_e]
  · rw [uF_o h, uF_o h, uF_o h, uF_o h]
  · rw [uF_k h5, uF_k h3, uF_k h3, uF_k h4]
theorem u1_H {a : Int} : (uF (uF H 2 4 a) 2 3 0) 1 = H 1 := by
  funext k
  rw [uF_o (by decide), uF_o (by decide)]
theorem u1_L {a : Int} : (uF (uF H 2 4 a) 2 3 0) 2 1 = H 2 1 := by
  rw [uF_k (by decide), uF_k (by decide)]
/-- b41 on a word -/
theorem b41_w (hT : TC T) (hX : TX H L) {c : Int} {A w M : List Int} (hc : c < 97) (hL : L = A ++ (w ++ c :: M)) (hw : ∀ x ∈ w, 97 ≤ x ∧ x ≤ 122) (h0 : 0 < w.length) : ∃ H', f_X3_readToken_p3_2_b41 0 (PZ T H P) (A.length : Int) = some (PZ T H' P) ∧ TK H H' 1 (A.length : Int) ((A.length + w.length : Nat) : Int) := by
  have hl := hX.2.1
  have hlen : A.length + w.length < L.length := by
    rw [hL, List.length_append, List.length_append, List.length_cons]
    omega
  obtain ⟨x, w', hw'⟩ : ∃ x w', w = x :: w' := by
    cases w with
    | nil => exact absurd h0 (by decide)
    | cons x w' => exact ⟨x, w', rfl⟩
  have hx := hw x (by rw [hw']; exact List.mem_cons_self)
  have hL2 : L = A ++ x :: (w' ++ c :: M) := by
    rw [hL, hw']
    rfl
  obtain ⟨a1, a2, a3⟩ := tx_l hX hL2
  obtain ⟨b1, b2⟩ := tx_w (P := P) (F := uF (uF H 2 4 (A.length : Int)) 2 3 0) hT hX hL2 u1_H
  refine ⟨_, ?_, tk_u⟩
  unfold f_X3_readToken_p3_2_b41
  rw [ps_w0, lt1_e, ps_w0, lt1_e, ps_0, u1_L, hX.1, wr_e (z := (L.length : Int)) (by omega), if_neg (by rw [wr_e (by omega)]; omega), ps_t hT, b2, b1, if_neg (by rw [wr_e (by omega)]; omega), if_neg (by rw [wr_e (by omega)]; omega)]
  unfold f_X3_endOfWord_p3_2
  rw [ew hT hX hc u1_H u1_L w A _ hL hw (by show _ < T.1.1; have := hT.2.2.2.2; omega), bd2_e, ps_w0, lt1_e]
/-- b41 on a ; -/
theorem b41_s (hT : TC T) (hX : TX H L) {A M : List Int} (hL : L = A ++ 59 :: M) : ∃ H', f_X3_readToken_p3_2_b41 0 (PZ T H P) (A.length : Int) = some (PZ T H' P) ∧ TK H H' 59 (A.length : Int) ((A.length + 1 : Nat) : Int) := by
  have hl := hX.2.1
  obtain ⟨a1, a2, a3⟩ := tx_l hX hL
  obtain ⟨b1, b2⟩ := tx_w (P := P) (F := uF (uF H 2 4 (A.length : Int)) 2 3 0) hT hX hL u1_H
  have b3 : gI (PZ T (uF (uF H 2 4 (A.length : Int)) 2 3 0) P) 0 1 (wr (A.length : Int)).toNat = 59 := by
    have e : (wr (A.length : Int)).toNat = A.length := by
      rw [wr_e (by omega)]
      omega
    rw [e, ps_0, u1_H, a1]
  refine ⟨_, ?_, tk_u⟩
  unfold f_X3_readToken_p3_2_b41
  rw [ps_w0, lt1_e, ps_w0, lt1_e, ps_0, u1_L, hX.1, wr_e (z := (L.length : Int)) (by omega), if_neg (by rw [wr_e (by omega)]; omega), ps_t hT, b2, b1, if_pos (by decide), b3]
  unfold f_X3_readToken_p3_2_b87
  rw [if_neg (by decide), if_pos (by decide)]
  unfold f_X3_readToken_p3_2_b108
  rw [if_pos rfl]
  unfold f_X3_readToken_p3_2_b127
  rw [ps_w0, lt1_e, ps_w0, lt1_e]
  rfl
/-- b41 at the end -/
theorem b41_e (hX : TX H L) : ∃ H', f_X3_readToken_p3_2_b41 0 (PZ T H P) (L.length : Int) = some (PZ T H' P) ∧ TK H H' 0 (L.length : Int) (L.length : Int) := by
  refine ⟨uF (uF (uF H 2 4 (L.length : Int)) 2 3 0) 2 5 (L.length : Int), ?_, ?_, ?_, uF_e, fun o k h => ?_, fun k h3 h4 h5 h6 => ?_⟩
  · unfold f_X3_readToken_p3_2_b41
    rw [ps_w0, lt1_e, ps_w0, lt1_e, ps_0, u1_L, hX.1, if_pos (Int.le_refl _), ps_w0, lt1_e]
  · rw [uF_k (by decide), uF_e]
  · rw [uF_k (by decide), uF_k (by decide), uF_e]
  · rw [uF_o h, uF_o h, uF_o h]
  · rw [uF_k h5, uF_k h3, uF_k h4]
end C38
