/-! mathematics: an instruction's words -/
def chv (k j : Nat) : Int := iCh (iA (xby k j) 255)
def tw (c : Nat → Int) (n : Nat) : Nat → Nat → Option (List Int)
  | 0, _ => none
  | f + 1, x => if n ≤ x then some [] else (tw c n f (x + 1)).map (fun L => c x :: L)
def sw : Nat → Nat → Option (List Int)
  | 0, _ => none
  | f + 1, x => if x < 110 then (if chv 42 x = 32 then some [] else (sw f (x + 1)).map (fun L => chv 42 x :: L)) else none
def wk (a : Nat) : Nat → Nat → Nat → Option Nat
  | 0, _, _ => none
  | f + 1, x2, x3 => if a ≤ x3 then some x2 else if x2 < 110 then (if chv 42 x2 = 32 then wk a f (x2 + 1) (x3 + 1) else wk a f (x2 + 1) x3) else none
/-- what is said of a text of the pool -/
def tOK (k N l : Nat) (z : Int) (c : Nat → Int) : Prop := (∀ (S : xSt) (j : Nat), j < N → f_J0_charAt_5068e S k (j : Int) = some (c j, S)) ∧ (∀ S : xSt, f_J0_length_8abf5 S k = some (z, S)) ∧ wr z = (l : Int) ∧ l ≤ N
/-- the words the two sides write for a kind are the same -/
def wOK (k a : Nat) (more : List Int) : Prop := ∃ c N l z L p, tOK k N l z c ∧ l ≤ 10 ∧ tw c l 12 0 = some (L ++ more) ∧ wk a 200 0 0 = some p ∧ sw 12 p = some L ∧ L.length ≤ 6
theorem wOK_of {k a N l : Nat} {z : Int} {c : Nat → Int} {more : List Int} (hk : tOK k N l z c) (hl : l ≤ 10) (h : (((wk a 200 0 0).bind (sw 12)).map (fun L => L ++ more) = tw c l 12 0) ∧ (((wk a 200 0 0).bind (sw 12)).map List.length).getD 99 ≤ 6) : wOK k a more := by
  obtain ⟨h1, h2⟩ := h
  cases e : wk a 200 0 0 with
  | none =>
    rw [e] at h2
    exact absurd h2 (by decide)
  | some p =>
    rw [e] at h1 h2
    cases e2 : sw 12 p with
    | none =>
      have e3 : (some p).bind (sw 12) = none := e2
      rw [e3] at h2
      exact absurd h2 (by decide)
    | some L =>
      have e3 : (some p).bind (sw 12) = some L := e2
      rw [e3] at h1 h2
      exact ⟨c, N, l, z, L, p, hk, hl, h1.symm, e, e2, h2⟩
theorem wr_iCh {z : Int} : wr (iCh z) = iCh z := by
  unfold iCh
  rw [← wr_toInt, Int32.ofInt_toInt]
theorem idx_e {S : xSt} {j N : Nat} (h : j < N) (h2 : N ≤ 1000) : f_J0_checkIndex_df160 S (j : Int) ((N : Nat) : Int) = some S := by
  unfold f_J0_checkIndex_df160 f_J3_checkIndex_8e157
  rw [wr_e (z := (j : Int)) (by omega), wr_e (z := (N : Int)) (by omega), if_neg (by omega), if_pos (by omega)]
  rfl
theorem cki_e {β : Type} {j N : Nat} {k : Option β} (h : j < N) (h2 : N ≤ 1000) : ckI (j : Int) N k = k := ckI_e (by omega)
theorem wrj_e {j N : Nat} (h : j < N) (h2 : N ≤ 1000) : (wr (j : Int)).toNat = j := by
  rw [wr_e (by omega)]
  rfl
theorem ch_2 {S : xSt} {j : Nat} (h : j < 3) : f_J0_charAt_5068e S 2 (j : Int) = some (chv 2 j, S) := by
  have hN : xln 2 = 3 := by decide +kernel
  unfold f_J0_charAt_5068e f_J0_isLatin1_aae02 f_J1_charAt_3b067
  rw [hN, bd2_e, if_neg (by decide), idx_e h (by decide), bd_e, cki_e h (by decide), wrj_e h (by decide), bd2_e]
  rfl
theorem tk_2 : tOK 2 3 3 3 (chv 2) := ⟨fun S j h => ch_2 h, fun S => by
  have h : iSr ((xln 2 : Nat) : Int) 0 = 3 := by decide +kernel
  show some (iSr ((xln 2 : Nat) : Int) 0, S) = some (3, S)
  rw [h], by decide, Nat.le_refl _⟩
theorem ch_3 {S : xSt} {j : Nat} (h : j < 3) : f_J0_charAt_5068e S 3 (j : Int) = some (chv 3 j, S) := by
  have hN : xln 3 = 3 := by decide +kernel
  unfold f_J0_charAt_5068e f_J0_isLatin1_aae02 f_J1_charAt_3b067
  rw [hN, bd2_e, if_neg (by decide), idx_e h (by decide), bd_e, cki_e h (by decide), wrj_e h (by decide), bd2_e]
  rfl
theorem tk_3 : tOK 3 3 3 3 (chv 3) := ⟨fun S j h => ch_3 h, fun S => by
  have h : iSr ((xln 3 : Nat) : Int) 0 = 3 := by decide +kernel
  show some (iSr ((xln 3 : Nat) : Int) 0, S) = some (3, S)
  rw [h], by decide, Nat.le_refl _⟩
theorem ch_4 {S : xSt} {j : Nat} (h : j < 3) : f_J0_charAt_5068e S 4 (j : Int) = some (chv 4 j, S) := by
  have hN : xln 4 = 3 := by decide +kernel
  unfold f_J0_charAt_5068e f_J0_isLatin1_aae02 f_J1_charAt_3b067
  rw [hN, bd2_e, if_neg (by decide), idx_e h (by decide), bd_e, cki_e h (by decide), wrj_e h (by decide), bd2_e]
  rfl
theorem tk_4 : tOK 4 3 3 3 (chv 4) := ⟨fun S j h => ch_4 h, fun S => by
  have h : iSr ((xln 4 : Nat) : Int) 0 = 3 := by decide +kernel
  show some (iSr ((xln 4 : Nat) : Int) 0, S) = some (3, S)
  rw [h], by decide, Nat.le_refl _⟩
theorem ch_5 {S : xSt} {j : Nat} (h : j < 4) : f_J0_charAt_5068e S 5 (j : Int) = some (chv 5 j, S) := by
  have hN : xln 5 = 4 := by decide +kernel
  unfold f_J0_charAt_5068e f_J0_isLatin1_aae02 f_J1_charAt_3b067
  rw [hN, bd2_e, if_neg (by decide), idx_e h (by decide), bd_e, cki_e h (by decide), wrj_e h (by decide), bd2_e]
  rfl
theorem tk_5 : tOK 5 4 4 4 (chv 5) := ⟨fun S j h => ch_5 h, fun S => by
  have h : iSr ((xln 5 : Nat) : Int) 0 = 4 := by decide +kernel
  show some (iSr ((xln 5 : Nat) : Int) 0, S) = some (4, S)
  rw [h], by decide, Nat.le_refl _⟩
theorem ch_6 {S : xSt} {j : Nat} (h : j < 5) : f_J0_charAt_5068e S 6 (j : Int) = some (chv 6 j, S) := by
  have hN : xln 6 = 5 := by decide +kernel
  unfold f_J0_charAt_5068e f_J0_isLatin1_aae02 f_J1_charAt_3b067
  rw [hN, bd2_e, if_neg (by decide), idx_e h (by decide), bd_e, cki_e h (by decide), wrj_e h (by decide), bd2_e]
  rfl
theorem tk_6 : tOK 6 5 5 5 (chv 6) := ⟨fun S j h => ch_6 h, fun S => by
  have h : iSr ((xln 6 : Nat) : Int) 0 = 5 := by decide +kernel
  show some (iSr ((xln 6 : Nat) : Int) 0, S) = some (5, S)
  rw [h], by decide, Nat.le_refl _⟩
theorem ch_7 {S : xSt} {j : Nat} (h : j < 3) : f_J0_charAt_5068e S 7 (j : Int) = some (chv 7 j, S) := by
  have hN : xln 7 = 3 := by decide +kernel
  unfold f_J0_charAt_5068e f_J0_isLatin1_aae02 f_J1_charAt_3b067
  rw [hN, bd2_e, if_neg (by decide), idx_e h (by decide), bd_e, cki_e h (by decide), wrj_e h (by decide), bd2_e]
  rfl
theorem tk_7 : tOK 7 3 3 3 (chv 7) := ⟨fun S j h => ch_7 h, fun S => by
  have h : iSr ((xln 7 : Nat) : Int) 0 = 3 := by decide +kernel
  show some (iSr ((xln 7 : Nat) : Int) 0, S) = some (3, S)
  rw [h], by decide, Nat.le_refl _⟩
theorem ch_8 {S : xSt} {j : Nat} (h : j < 4) : f_J0_charAt_5068e S 8 (j : Int) = some (chv 8 j, S) := by
  have hN : xln 8 = 4 := by decide +kernel
  unfold f_J0_charAt_5068e f_J0_isLatin1_aae02 f_J1_charAt_3b067
  rw [hN, bd2_e, if_neg (by decide), idx_e h (by decide), bd_e, cki_e h (by decide), wrj_e h (by decide), bd2_e]
  rfl
theorem tk_8 : tOK 8 4 4 4 (chv 8) := ⟨fun S j h => ch_8 h, fun S => by
  have h : iSr ((xln 8 : Nat) : Int) 0 = 4 := by decide +kernel
  show some (iSr ((xln 8 : Nat) : Int) 0, S) = some (4, S)
  rw [h], by decide, Nat.le_refl _⟩
theorem ch_9 {S : xSt} {j : Nat} (h : j < 3) : f_J0_charAt_5068e S 9 (j : Int) = some (chv 9 j, S) := by
  have hN : xln 9 = 3 := by decide +kernel
  unfold f_J0_charAt_5068e f_J0_isLatin1_aae02 f_J1_charAt_3b067
  rw [hN, bd2_e, if_neg (by decide), idx_e h (by decide), bd_e, cki_e h (by decide), wrj_e h (by decide), bd2_e]
  rfl
theorem tk_9 : tOK 9 3 3 3 (chv 9) := ⟨fun S j h => ch_9 h, fun S => by
  have h : iSr ((xln 9 : Nat) : Int) 0 = 3 := by decide +kernel
  show some (iSr ((xln 9 : Nat) : Int) 0, S) = some (3, S)
  rw [h], by decide, Nat.le_refl _⟩
theorem ch_10 {S : xSt} {j : Nat} (h : j < 4) : f_J0_charAt_5068e S 10 (j : Int) = some (chv 10 j, S) := by
  have hN : xln 10 = 4 := by decide +kernel
  unfold f_J0_charAt_5068e f_J0_isLatin1_aae02 f_J1_charAt_3b067
  rw [hN, bd2_e, if_neg (by decide), idx_e h (by decide), bd_e, cki_e h (by decide), wrj_e h (by decide), bd2_e]
  rfl
theorem tk_10 : tOK 10 4 4 4 (chv 10) := ⟨fun S j h => ch_10 h, fun S => by
  have h : iSr ((xln 10 : Nat) : Int) 0 = 4 := by decide +kernel
  show some (iSr ((xln 10 : Nat) : Int) 0, S) = some (4, S)
  rw [h], by decide, Nat.le_refl _⟩
theorem ch_11 {S : xSt} {j : Nat} (h : j < 6) : f_J0_charAt_5068e S 11 (j : Int) = some (chv 11 j, S) := by
  have hN : xln 11 = 6 := by decide +kernel
  unfold f_J0_charAt_5068e f_J0_isLatin1_aae02 f_J1_charAt_3b067
  rw [hN, bd2_e, if_neg (by decide), idx_e h (by decide), bd_e, cki_e h (by decide), wrj_e h (by decide), bd2_e]
  rfl
theorem tk_11 : tOK 11 6 6 6 (chv 11) := ⟨fun S j h => ch_11 h, fun S => by
  have h : iSr ((xln 11 : Nat) : Int) 0 = 6 := by decide +kernel
  show some (iSr ((xln 11 : Nat) : Int) 0, S) = some (6, S)
  rw [h], by decide, Nat.le_refl _⟩
theorem ch_40 {S : xSt} {j : Nat} (h : j < 5) : f_J0_charAt_5068e S 40 (j : Int) = some (chv 40 j, S) := by
  have hN : xln 40 = 5 := by decide +kernel
  unfold f_J0_charAt_5068e f_J0_isLatin1_aae02 f_J1_charAt_3b067
  rw [hN, bd2_e, if_neg (by decide), idx_e h (by decide), bd_e, cki_e h (by decide), wrj_e h (by decide), bd2_e]
  rfl
theorem tk_40 : tOK 40 5 5 5 (chv 40) := ⟨fun S j h => ch_40 h, fun S => by
  have h : iSr ((xln 40 : Nat) : Int) 0 = 5 := by decide +kernel
  show some (iSr ((xln 40 : Nat) : Int) 0, S) = some (5, S)
  rw [h], by decide, Nat.le_refl _⟩
theorem ch_42 {S : xSt} {j : Nat} (h : j < 115) : f_J0_charAt_5068e S 42 (j : Int) = some (chv 42 j, S) := by
  have hN : xln 42 = 115 := by decide +kernel
  unfold f_J0_charAt_5068e f_J0_isLatin1_aae02 f_J1_charAt_3b067
  rw [hN, bd2_e, if_neg (by decide), idx_e h (by decide), bd_e, cki_e h (by decide), wrj_e h (by decide), bd2_e]
  rfl
theorem tk_42 : tOK 42 115 115 115 (chv 42) := ⟨fun S j h => ch_42 h, fun S => by
  have h : iSr ((xln 42 : Nat) : Int) 0 = 115 := by decide +kernel
  show some (iSr ((xln 42 : Nat) : Int) 0, S) = some (115, S)
  rw [h], by decide, Nat.le_refl _⟩
theorem wt0 : wOK 2 0 [] := wOK_of tk_2 (by decide) (by decide +kernel)
theorem wt1 : wOK 3 1 [] := wOK_of tk_3 (by decide) (by decide +kernel)
theorem wt2 : wOK 4 2 [] := wOK_of tk_4 (by decide) (by decide +kernel)
theorem wt3 : wOK 5 3 [] := wOK_of tk_5 (by decide) (by decide +kernel)
theorem wt4 : wOK 6 4 [] := wOK_of tk_6 (by decide) (by decide +kernel)
theorem wt5 : wOK 7 5 [] := wOK_of tk_7 (by decide) (by decide +kernel)
theorem wt6 : wOK 8 6 [] := wOK_of tk_8 (by decide) (by decide +kernel)
theorem wt7 : wOK 9 7 [] := wOK_of tk_9 (by decide) (by decide +kernel)
theorem wt8 : wOK 10 8 [] := wOK_of tk_10 (by decide) (by decide +kernel)
theorem wt9 : wOK 11 9 [] := wOK_of tk_11 (by decide) (by decide +kernel)
theorem wt18 : wOK 40 18 [32] := wOK_of tk_40 (by decide) (by decide +kernel)
section Q1
variable {S T : xSt} {X μ : xR}
def oC (X : xR) (b : Int) : xR := uF (uF X 7 (X 6 1).toNat (wb (wb b))) 6 1 (X 6 1 + 1)
def oM (μ : xR) (b : Int) : xR := uF (uF μ 18 (μ 0 41).toNat (wb (wb b))) 0 41 (μ 0 41 + 1)
def oCs (X : xR) : List Int → xR
  | [] => X
  | b :: L => oCs (oC X b) L
def oMs (μ : xR) : List Int → xR
  | [] => μ
  | b :: L => oMs (oM μ b) L
theorem oC_n {b : Int} : (oC X b) 6 1 = X 6 1 + 1 := by unfold oC; rw [uF_e]
theorem oM_n {b : Int} : (oM μ b) 0 41 = μ 0 41 + 1 := by unfold oM; rw [uF_e]
theorem oCs_n : ∀ (L : List Int) (X : xR), (oCs X L) 6 1 = X 6 1 + L.length := by
  intro L
  induction L with
  | nil => intro X; show X 6 1 = X 6 1 + ((0 : Nat) : Int); omega
  | cons b L ih =>
    intro X
    show (oCs (oC X b) L) 6 1 = X 6 1 + ((L.length + 1 : Nat) : Int)
    rw [ih, oC_n]
    omega
theorem oMs_n : ∀ (L : List Int) (μ : xR), (oMs μ L) 0 41 = μ 0 41 + L.length := by
  intro L
  induction L with
  | nil => intro μ; show μ 0 41 = μ 0 41 + ((0 : Nat) : Int); omega
  | cons b L ih =>
    intro μ
    show (oMs (oM μ b) L) 0 41 = μ 0 41 + ((L.length + 1 : Nat) : Int)
    rw [ih, oM_n]
    omega
theorem oMs_k {b : Int} : ∀ (L : List Int) (μ : xR) (o k : Nat), o ≠ 18 → (o ≠ 0 ∨ k ≠ 41) → (oMs μ L) o k = μ o k := by
  intro L
  induction L with
  | nil => intro μ o k _ _; rfl
  | cons b L ih =>
    intro μ o k h1 h2
    show (oMs (oM μ b) L) o k = μ o k
    rw [ih _ o k h1 h2]
    unfold oM
    rcases h2 with h2 | h2
    · rw [uF_o h2, uF_o h1]
    · by_cases e : o = 0
      · subst e
        rw [uF_k h2, uF_o h1]
      · rw [uF_o e, uF_o h1]
theorem oMs_a : ∀ (L M : List Int) (μ : xR), oMs μ (L ++ M) = oMs (oMs μ L) M := by
  intro L
  induction L with
  | nil => intro M μ; rfl
  | cons b L ih => intro M μ; exact ih M (oM μ b)
/-- what the two outputs say of each other, and what stays -/
def OIO (X0 μ0 X μ : xR) (n : Int) : Prop := SIO X μ ∧ μ 0 41 = n ∧ (∀ o k, o ≠ 7 → (o ≠ 6 ∨ k ≠ 1) → X o k = X0 o k) ∧ (∀ o k, o ≠ 18 → (o ≠ 0 ∨ k ≠ 41) → μ o k = μ0 o k)
theorem oio_b {X0 μ0 : xR} {n b : Int} (h : OIO X0 μ0 X μ n) (hn : n < 32) : OIO X0 μ0 (oC X b) (oM μ b) (n + 1) := by
  obtain ⟨h1, h2, h3, h4⟩ := h
  unfold SIO at h1
  obtain ⟨i1, i2, i3, i4, i5, i6, i7, i8⟩ := h1
  unfold oC oM
  refine ⟨?_, by rw [uF_e, h2], fun o k ho hk => ?_, fun o k a1 a2 => ?_⟩
  · unfold SIO
    simp (disch := omega) only [uF_e, uF_o, uF_k, uG_e, uG_o, uN_e, uN_k, true_or, or_true, i6]
    refine ⟨i1, i2, i3, i4, i5, trivial, by omega, fun k hk => ?_⟩
    by_cases c : k = (μ 0 41).toNat
    · subst c
      rw [uF_e, uF_e]
    · rw [uF_k c, uF_k c]
      exact i8 k (by omega)
  · rw [← h3 o k ho hk]
    rcases hk with hk | hk
    · rw [uF_o hk, uF_o ho]
    · by_cases e : o = 6
      · subst e
        rw [uF_k hk, uF_o ho]
      · rw [uF_o e, uF_o ho]
  · rw [← h4 o k a1 a2]
    rcases a2 with a2 | a2
    · rw [uF_o a2, uF_o a1]
    · by_cases e : o = 0
      · subst e
        rw [uF_k a2, uF_o a1]
      · rw [uF_o e, uF_o a1]
theorem oio_L {X0 μ0 : xR} : ∀ (L : List Int) (X μ : xR) (n : Int), OIO X0 μ0 X μ n → n + L.length ≤ 32 → OIO X0 μ0 (oCs X L) (oMs μ L) (n + L.length) := by
  intro L
  induction L with
  | nil =>
    intro X μ n h _
    have e : n + ((([] : List Int).length : Nat) : Int) = n := by
      show n + ((0 : Nat) : Int) = n
      omega
    rw [e]
    exact h
  | cons b L ih =>
    intro X μ n h hn
    have hl : (((b :: L).length : Nat) : Int) = (L.length : Int) + 1 := by
      show ((L.length + 1 : Nat) : Int) = _
      omega
    rw [hl] at hn ⊢
    have k := ih (oC X b) (oM μ b) (n + 1) (oio_b h (by omega)) (by omega)
    rw [show n + 1 + (L.length : Int) = n + ((L.length : Int) + 1) by omega] at k
    exact k
theorem c_byte {n b : Int} (h : X 6 1 = n) (hn : 0 ≤ n ∧ n < 32) : f_X2_addByte_p3_6 (sR S 0 X) 0 b = some (sR S 0 (oC X b)) := by
  unfold f_X2_addByte_p3_6 oC
  rw [sR_g, h, wr_e (z := n) (by omega), wr_e (z := 32) (by decide), if_neg (by omega), if_neg (by omega), ckI_e (by omega), sR_w, lt1_e, sR_g, uF_o (by decide), h, sR_w, lt1_e]
theorem m_byte {n b : Int} (h : μ 0 41 = n) (hn : 0 ≤ n ∧ n < 40) : f_X12_says_p4_0 (sR T 13 μ) 13 b = some (sR T 13 (oM μ b)) := by
  unfold f_X12_says_p4_0 oM
  rw [sR_g, h, wr_e (z := n) (by omega), ckI_e (by omega), sR_w, lt1_e, sR_g, uF_o (by decide), h, sR_w, lt1_e]
theorem c_text {k N l : Nat} {z : Int} {c : Nat → Int} (hk : tOK k N l z c) (h3 : l ≤ 10) : ∀ (g x : Nat) (L : List Int) (X : xR) (f : Nat), tw c l g x = some L → g ≤ f → x ≤ l → 0 ≤ X 6 1 → X 6 1 + L.length ≤ 32 → f_X2_addText_p3_6_b2 0 k f (sR S 0 X) (x : Int) = some (sR S 0 (oCs X L)) := by
  obtain ⟨hch, hlen, h4, h5⟩ := hk
  intro g
  induction g with
  | zero =>
    intro x L X f h
    exact absurd h (by intro h; cases h)
  | succ g ih =>
    intro x L X f h hf hx h0 hn
    obtain ⟨f, rfl⟩ := fs_e (show 0 < f by omega)
    rw [f_X2_addText_p3_6_b2, hlen, bd2_e]
    rw [tw] at h
    by_cases c9 : l ≤ x
    · rw [if_pos c9] at h
      have e : L = [] := (Option.some.inj h).symm
      subst e
      rw [h4, wr_e (z := (x : Int)) (by have := h3; omega), if_pos (by omega)]
      rfl
    · rw [if_neg c9] at h
      rw [h4, wr_e (z := (x : Int)) (by omega), if_neg (by omega)]
      cases e : tw c l g (x + 1) with
      | none =>
        rw [e] at h
        cases h
      | some M =>
        rw [e] at h
        have e2 : L = c x :: M := (Option.some.inj h).symm
        subst e2
        have hl : (((c x :: M).length : Nat) : Int) = (M.length : Int) + 1 := by
          show ((M.length + 1 : Nat) : Int) = _
          omega
        rw [hl] at hn
        rw [hch _ x (by omega)]
        simp only [bd2_e]
        rw [c_byte rfl (by omega)]
        simp only [bd_e]
        have i := ih (x + 1) M (oC X (c x)) f e (by omega) (by omega) (by rw [oC_n]; omega) (by rw [oC_n]; omega)
        rw [show ((x + 1 : Nat) : Int) = (x : Int) + 1 by omega] at i
        exact i
theorem m_sw : ∀ (g x : Nat) (L : List Int) (μ : xR) (f : Nat), sw g x = some L → g ≤ f → 0 ≤ μ 0 41 → μ 0 41 + L.length ≤ 39 → f_X12_saysWord_p4_0_b31 13 f (sR T 13 μ) (x : Int) = some (sR T 13 (oMs μ L)) := by
  intro g
  induction g with
  | zero =>
    intro x L μ f h
    exact absurd h (by intro h; cases h)
  | succ g ih =>
    intro x L μ f h hf h0 hn
    obtain ⟨f, rfl⟩ := fs_e (show 0 < f by omega)
    rw [sw] at h
    by_cases c : x < 110
    · rw [if_pos c] at h
      have hch : ∀ S : xSt, f_J0_charAt_5068e S 42 (x : Int) = some (chv 42 x, S) := fun S => ch_42 (by omega)
      rw [f_X12_saysWord_p4_0_b31, hch]
      simp only [bd2_e]
      have hw : wr (chv 42 x) = wr 32 ↔ chv 42 x = 32 := by
        have a : wr (chv 42 x) = chv 42 x := wr_iCh
        rw [a]
        exact Iff.rfl
      by_cases d : chv 42 x = 32
      · rw [if_pos d] at h
        have e : L = [] := (Option.some.inj h).symm
        subst e
        rw [if_pos (hw.mpr d)]
        rfl
      · rw [if_neg d] at h
        rw [if_neg (fun h => d (hw.mp h)), hch]
        simp only [bd2_e]
        cases e : sw g (x + 1) with
        | none =>
          rw [e] at h
          cases h
        | some M =>
          rw [e] at h
          have e2 : L = chv 42 x :: M := (Option.some.inj h).symm
          subst e2
          have hl : (((chv 42 x :: M).length : Nat) : Int) = (M.length : Int) + 1 := by
            show ((M.length + 1 : Nat) : Int) = _
            omega
          rw [hl] at hn
          rw [m_byte rfl (by omega)]
          simp only [bd_e]
          have i := ih (x + 1) M (oM μ (chv 42 x)) f e (by omega) (by rw [oM_n]; omega) (by rw [oM_n]; omega)
          rw [show ((x + 1 : Nat) : Int) = (x : Int) + 1 by omega] at i
          exact i
    · rw [if_neg c] at h
      cases h
theorem m_wk {a p : Nat} (ha : a ≤ 100) : ∀ (g x2 x3 : Nat) (f : Nat), wk a g x2 x3 = some p → g ≤ f → x3 ≤ a → f_X12_saysWord_p4_0_b4 13 f (sR T 13 μ) (a : Int) (x2 : Int) (x3 : Int) = f_X12_saysWord_p4_0_b31 13 (fu (sR T 13 μ)) (sR T 13 μ) (p : Int) := by
  intro g
  induction g with
  | zero =>
    intro x2 x3 f h
    exact absurd h (by intro h; cases h)
  | succ g ih =>
    intro x2 x3 f h hf h3
    obtain ⟨f, rfl⟩ := fs_e (show 0 < f by omega)
    rw [wk] at h
    rw [f_X12_saysWord_p4_0_b4, wr_e (z := (a : Int)) (by omega), wr_e (z := (x3 : Int)) (by omega)]
    by_cases c : a ≤ x3
    · rw [if_pos c] at h
      have e := Option.some.inj h
      subst e
      rw [if_pos (by omega)]
    · rw [if_neg c] at h
      rw [if_neg (by omega)]
      by_cases c2 : x2 < 110
      · rw [if_pos c2] at h
        rw [ch_42 (by omega)]
        simp only [bd2_e]
        have hw : wr (chv 42 x2) = wr 32 ↔ chv 42 x2 = 32 := by
          have a : wr (chv 42 x2) = chv 42 x2 := wr_iCh
          rw [a]
          exact Iff.rfl
        by_cases d : chv 42 x2 = 32
        · rw [if_pos d] at h
          have i := ih (x2 + 1) (x3 + 1) f h (by omega) (by omega)
          rw [show ((x2 + 1 : Nat) : Int) = (x2 : Int) + 1 by omega, show ((x3 + 1 : Nat) : Int) = (x3 : Int) + 1 by omega] at i
          rw [if_neg (fun h => h (hw.mpr d))]
          exact i
        · rw [if_neg d] at h
          have i := ih (x2 + 1) x3 f h (by omega) (by omega)
          rw [show ((x2 + 1 : Nat) : Int) = (x2 : Int) + 1 by omega] at i
          rw [if_pos (fun h => d (hw.mp h))]
          exact i
      · rw [if_neg c2] at h
        cases h
/-- both write a word -/
theorem b_word {k a : Nat} {more : List Int} (ha : a ≤ 100) (h : wOK k a more) : ∃ L, (L.length ≤ 6) ∧ (∀ (S : xSt) (X : xR), 10000000 ≤ fu S → 0 ≤ X 6 1 → X 6 1 + (L ++ more).length ≤ 32 → f_X2_addText_p3_6 (sR S 0 X) 0 k = some (sR S 0 (oCs X (L ++ more)))) ∧ ∀ (T : xSt) (μ : xR), 10000000 ≤ fu T → 0 ≤ μ 0 41 → μ 0 41 + L.length ≤ 39 → f_X12_saysWord_p4_0 (sR T 13 μ) 13 (a : Int) = some (sR T 13 (oMs μ L)) := by
  obtain ⟨c, N, l, z, L, p, hk, hl, h1, h2, h3, h4⟩ := h
  refine ⟨L, h4, fun S X hS h0 hn => ?_, fun T μ hT h0 hn => ?_⟩
  · unfold f_X2_addText_p3_6
    rw [sR_fu]
    exact c_text hk hl 12 0 (L ++ more) X (fu S) h1 (by omega) (Nat.zero_le _) h0 hn
  · unfold f_X12_saysWord_p4_0
    have e := m_wk (T := T) (μ := μ) ha 200 0 0 (fu (sR T 13 μ)) h2 (by rw [sR_fu]; omega) (Nat.zero_le _)
    refine e.trans ?_
    exact m_sw 12 p L μ (fu (sR T 13 μ)) h3 (by rw [sR_fu]; omega) h0 hn
/-! numbers -/
def dg (a : Int) : List Int := if a < 10 then [48 + a % 10] else if a < 100 then [48 + a / 10 % 10, 48 + a % 10] else [48 + a / 100 % 10, 48 + a / 10 % 10, 48 + a % 10]
theorem dg_l {a : Int} : (dg a).length ≤ 3 ∧ 1 ≤ (dg a).length := by
  unfold dg
  split
  · exact ⟨by show (1 : Nat) ≤ 3; decide, by show (1 : Nat) ≤ 1; decide⟩
  · split
    · exact ⟨by show (2 : Nat) ≤ 3; decide, by show (1 : Nat) ≤ 2; decide⟩
    · exact ⟨by show (3 : Nat) ≤ 3; decide, by show (1 : Nat) ≤ 3; decide⟩
theorem c_num {a : Int} (ha : 0 ≤ a ∧ a ≤ 999) (h0 : 0 ≤ X 6 1 ∧ X 6 1 + 3 ≤ 32) : f_X2_addNumber_p3_6 (sR S 0 X) 0 a = some (sR S 0 (oCs X (dg a))) := by
  have t10 : Int.tdiv a 10 = a / 10 := Int.tdiv_eq_ediv_of_nonneg ha.1
  have t100 : Int.tdiv a 100 = a / 100 := Int.tdiv_eq_ediv_of_nonneg ha.1
  have m1 : Int.tmod a 10 = a % 10 := Int.tmod_eq_emod_of_nonneg ha.1
  have m2 : Int.tmod (a / 10) 10 = a / 10 % 10 := Int.tmod_eq_emod_of_nonneg (by omega)
  have m3 : Int.tmod (a / 100) 10 = a / 100 % 10 := Int.tmod_eq_emod_of_nonneg (by omega)
  unfold f_X2_addNumber_p3_6 f_X2_addNumber_p3_6_b20 f_X2_addNumber_p3_6_b40 dg
  rw [wr_e (z := a) (by omega), wr_e (z := 10) (by decide), wr_e (z := 100) (by decide), t10, t100, wr_e (z := a / 10) (by omega), wr_e (z := a / 100) (by omega), m1, m2, m3]
  by_cases c : a < 10
  · rw [if_pos (show a < 100 by omega), if_pos c, if_pos c, c_byte rfl (by omega)]
    rfl
  · simp only [if_neg c]
    by_cases c2 : a < 100
    · rw [if_pos c2, if_pos c2, c_byte rfl (by omega)]
      simp only [bd_e]
      rw [c_byte rfl (by rw [oC_n]; omega)]
      rfl
    · rw [if_neg c2, if_neg c2, c_byte rfl (by omega)]
      simp only [bd_e]
      rw [c_byte rfl (by rw [oC_n]; omega)]
      simp only [bd_e]
      rw [c_byte rfl (by rw [oC_n, oC_n]; omega)]
      rfl
theorem m_num {a : Int} (ha : 0 ≤ a ∧ a ≤ 999) (h0 : 0 ≤ μ 0 41 ∧ μ 0 41 + 3 ≤ 39) : f_X12_saysNumber_p4_0 12 (sR T 13 μ) 13 a = some (sR T 13 (oMs μ (dg a))) := by
  have t10 : Int.tdiv a 10 = a / 10 := Int.tdiv_eq_ediv_of_nonneg ha.1
  have t100 : Int.tdiv (a / 10) 10 = a / 100 := by
    rw [Int.tdiv_eq_ediv_of_nonneg (by omega)]
    omega
  have m1 : Int.tmod a 10 = a % 10 := Int.tmod_eq_emod_of_nonneg ha.1
  have m2 : Int.tmod (a / 10) 10 = a / 10 % 10 := Int.tmod_eq_emod_of_nonneg (by omega)
  have m3 : Int.tmod (a / 100) 10 = a / 100 % 10 := Int.tmod_eq_emod_of_nonneg (by omega)
  unfold dg
  rw [f_X12_saysNumber_p4_0, wr_e (z := a) (by omega), wr_e (z := 9) (by decide), wr_e (z := 10) (by decide), t10]
  unfold f_X12_saysNumber_p4_0_b14
  rw [wr_e (z := a) (by omega), wr_e (z := 10) (by decide), m1]
  by_cases c : a < 10
  · rw [if_pos (show a ≤ 9 by omega), if_pos c, m_byte rfl (by omega)]
    rfl
  · rw [if_neg (show ¬ a ≤ 9 by omega), if_neg c, f_X12_saysNumber_p4_0, wr_e (z := a / 10) (by omega), wr_e (z := 9) (by decide), wr_e (z := 10) (by decide), t100]
    unfold f_X12_saysNumber_p4_0_b14
    rw [wr_e (z := a / 10) (by omega), wr_e (z := 10) (by decide), m2]
    by_cases c2 : a < 100
    · rw [if_pos (show a / 10 ≤ 9 by omega), if_pos c2, m_byte rfl (by omega)]
      simp only [bd_e]
      rw [m_byte rfl (by rw [oM_n]; omega)]
      rfl
    · rw [if_neg (show ¬ a / 10 ≤ 9 by omega), if_neg c2, f_X12_saysNumber_p4_0, wr_e (z := a / 100) (by omega), wr_e (z := 9) (by decide), if_pos (show a / 100 ≤ 9 by omega)]
      unfold f_X12_saysNumber_p4_0_b14
      rw [wr_e (z := a / 100) (by omega), wr_e (z := 10) (by decide), m3, m_byte rfl (by omega)]
      simp only [bd_e]
      rw [m_byte rfl (by rw [oM_n]; omega)]
      simp only [bd_e]
      rw [m_byte rfl (by rw [oM_n, oM_n]; omega)]
      rfl
end Q1
