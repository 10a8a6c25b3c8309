/-! mathematics: a token and the words -/
section C3A
variable {T S : xSt} {H H' P : xR} {L : List Int}
theorem ch_e {k j : Nat} (hk : k < 28) (hj : j < (ldL k).length) : f_J0_charAt_5068e S k (j : Int) = some ((ldL k).getD j 0, S) := by
  have hl : k < xldc.length := Nat.lt_of_lt_of_le hk xldc_l
  have h1 := ldL_len hl
  have h2 := xln_le hl
  have e : (wr (j : Int)).toNat = j := by
    rw [wr_e (by omega)]
    omega
  have hm : (ldL k).getD j 0 ∈ ldL k := by
    rw [List.getD_eq_getElem?_getD, List.getElem?_eq_getElem hj]
    exact List.getElem_mem hj
  have ha := asc_ld k _ hm
  have hx : xby k j = (ldL k).getD j 0 := by
    unfold xby
    rw [List.getElem?_eq_getElem hl]
    exact congrFun (ldF_of hl) j
  obtain ⟨n1, n2⟩ := iA_n ((ldL k).getD j 0).toNat (by omega)
  rw [show ((((ldL k).getD j 0).toNat : Nat) : Int) = (ldL k).getD j 0 by omega] at n1 n2
  unfold f_J0_charAt_5068e f_J0_isLatin1_aae02
  rw [bd2_e, if_neg (by decide)]
  unfold f_J1_charAt_3b067 f_J0_checkIndex_df160 f_J3_checkIndex_8e157
  rw [if_neg (by rw [wr_e (by omega)]; omega), if_pos (by rw [wr_e (by omega), wr_e (by omega)]; omega), bd2_e, bd_e, ckI_e (by omega), e, hx, n1, n2, bd2_e]
theorem ch_i {k : Nat} {j : Int} (hk : k < 28) (hj : 0 ≤ j ∧ j < ((ldL k).length : Int)) : f_J0_charAt_5068e S k j = some ((ldL k).getD j.toNat 0, S) := by
  have h := ch_e (S := S) (k := k) (j := j.toNat) hk (by omega)
  rw [show ((j.toNat : Nat) : Int) = j by omega] at h
  exact h
theorem xl_i {k : Nat} (hk : k < 28) : ∃ n : Int, n = ((ldL k).length : Int) ∧ n ≤ 100 ∧ ∀ S : xSt, f_J0_length_8abf5 S k = some (n, S) := by
  have hl : k < xldc.length := Nat.lt_of_lt_of_le hk xldc_l
  have h1 := ldL_len hl
  have h2 := xln_le hl
  exact ⟨((xln k : Nat) : Int), by omega, by omega, fun S => xlen_e hl⟩
theorem ti_b (hT : TC T) (hX : TX H L) {k : Nat} (hk : k < 28) {n : Int} (hn : n = ((ldL k).length : Int)) (hn2 : n ≤ 100) (hle : ∀ S : xSt, f_J0_length_8abf5 S k = some (n, S)) {A M : List Int} {a : Int} (h4 : H 2 4 = a) (ha : a = (A.length : Int)) : ∀ (w v U V : List Int) (u : Int) (f : Nat), u = (U.length : Int) → L = A ++ (U ++ (w ++ M)) → ldL k = V ++ v → U.length = V.length → w.length = v.length → w.length < f → f_X3_tokenIs_p3_2_b28 0 k f (PZ T H P) u = some (if w = v then 1 else 0, PZ T H P) := by
  have hl := hX.2.1
  intro w
  induction w with
  | nil =>
    intro v U V u f hu hL hv hU hw hf
    obtain ⟨f, rfl⟩ := fs_e (show 0 < f by omega)
    have e0 : v = [] := List.eq_nil_of_length_eq_zero hw.symm
    have e1 : n = u := by
      rw [hn, hv, e0, List.append_nil, hu, hU]
    rw [f_X3_tokenIs_p3_2_b28, hle, bd2_e, e1, if_pos (Int.le_refl _), e0, if_pos rfl]
  | cons x w ih =>
    intro v U V u f hu hL hv hU hw hf
    obtain ⟨f, rfl⟩ := fs_e (show 0 < f by omega)
    obtain ⟨y, v', hv'⟩ : ∃ y v', v = y :: v' := by
      cases v with
      | nil => exact absurd hw (by rw [List.length_cons]; exact Nat.succ_ne_zero _)
      | cons y v' => exact ⟨y, v', rfl⟩
    have hxl : n = u + ((w.length : Int) + 1) := by
      rw [hn, hv, List.length_append, ← hU, ← hw, List.length_cons, hu]
      omega
    have hL2 : L = (A ++ U) ++ x :: (w ++ M) := by
      rw [hL, List.append_assoc]
      rfl
    obtain ⟨a1, a2, a3⟩ := tx_l hX hL2
    have eA : (A ++ U).length = A.length + U.length := List.length_append
    rw [eA] at a1 a3
    have e5 : (wr (a + u)).toNat = A.length + U.length := by
      rw [wr_e (by omega)]
      omega
    have ec : (ldL k).getD u.toNat 0 = y := by
      rw [hv, hv', getD_app, if_neg (by omega), show u.toNat - V.length = 0 by omega]
      rfl
    have hc := ch_i (S := PZ T H P) hk (j := u) (by omega)
    rw [ec] at hc
    have hy : -2147483648 ≤ y ∧ y ≤ 2147483647 := by
      have := asc_ld k y (by rw [hv, hv']; exact List.mem_append_right _ List.mem_cons_self)
      omega
    rw [f_X3_tokenIs_p3_2_b28, hle, bd2_e, wr_e (z := n) (by omega), wr_e (z := u) (by omega), if_neg (by omega), ps_t hT, ps_0, h4, ckI_e (by omega), hc, bd2_e, e5, ps_0, a1, wr_e (z := x) (by omega), wr_e (z := y) hy, hv']
    by_cases cx : x = y
    · have g := ih v' (U ++ [x]) (V ++ [y]) (u + 1) f (by rw [List.length_append, List.length_singleton]; omega) (by rw [hL]; simp only [List.append_assoc, List.cons_append, List.nil_append]) (by rw [hv, hv', List.append_assoc]; rfl) (by rw [List.length_append, List.length_append, hU, List.length_singleton, List.length_singleton]) (by rw [hv', List.length_cons, List.length_cons] at hw; omega) (by rw [List.length_cons] at hf; omega)
      rw [if_pos cx, g, cx]
      by_cases cw : w = v'
      · rw [if_pos cw, if_pos (by rw [cw])]
      · rw [if_neg cw, if_neg (fun z => cw (List.cons.inj z).2)]
    · rw [if_neg cx, if_neg (fun z => cx (List.cons.inj z).1)]
/-- a word is compared -/
theorem ti_w (hT : TC T) (hX : TX H L) {A w M : List Int} (hL : L = A ++ (w ++ M)) (h3 : H 2 3 = 1) (h4 : H 2 4 = (A.length : Int)) (h5 : H 2 5 = ((A ++ w).length : Int)) {k : Nat} (hk : k < 28) : f_X3_tokenIs_p3_2 (PZ T H P) 0 k = some (if w = ldL k then 1 else 0, PZ T H P) := by
  have hl := hX.2.1
  have hfu := hT.2.2.2.2
  obtain ⟨n, hn, hn2, hle⟩ := xl_i hk
  have hlen : A.length + w.length ≤ L.length := by
    rw [hL, List.length_append, List.length_append]
    omega
  rw [List.length_append] at h5
  have e5 : H 2 5 - H 2 4 = (w.length : Int) := by omega
  unfold f_X3_tokenIs_p3_2
  rw [ps_0, h3, if_neg (fun z => z rfl), hle, bd2_e, ps_0, ps_0, e5, wr_e (z := (w.length : Int)) (by omega), wr_e (z := n) (by omega)]
  by_cases c : w.length = (ldL k).length
  · rw [if_pos (by omega)]
    exact ti_b (P := P) hT hX hk hn hn2 hle h4 rfl w (ldL k) [] [] 0 (fu (PZ T H P)) rfl hL rfl rfl c (by show _ < T.1.1; omega)
  · rw [if_neg (by omega), if_neg (fun z => c (by rw [z]))]
/-- one of the words -/
theorem ti_q (hT : TC T) (hX : TX H L) {A M : List Int} {q : Nat} (hq : 6 ≤ q ∧ q < 28) (hL : L = A ++ (ldL q ++ M)) (h3 : H 2 3 = 1) (h4 : H 2 4 = (A.length : Int)) (h5 : H 2 5 = ((A ++ ldL q).length : Int)) {k : Nat} (hk : 6 ≤ k ∧ k < 28) : f_X3_tokenIs_p3_2 (PZ T H P) 0 k = some (if q = k then 1 else 0, PZ T H P) := by
  rw [ti_w hT hX hL h3 h4 h5 hk.2]
  by_cases c : q = k
  · rw [if_pos c, if_pos (by rw [c])]
  · rw [if_neg c, if_neg (fun z => c ?_)]
    have := lw_inj (q - 6) (by omega) (k - 6) (by omega)
    rw [show q - 6 + 6 = q by omega, show k - 6 + 6 = k by omega] at this
    have := this z
    omega
theorem wk_e {x : Int} (hx : 0 ≤ x ∧ x ≤ 9) : f_X11_wordOfKind S x = some (8 + x.toNat, S) := by
  rcases (show x = 0 ∨ x = 1 ∨ x = 2 ∨ x = 3 ∨ x = 4 ∨ x = 5 ∨ x = 6 ∨ x = 7 ∨ x = 8 ∨ x = 9 by omega) with rfl | rfl | rfl | rfl | rfl | rfl | rfl | rfl | rfl | rfl <;> rfl
theorem ws_e {x : Int} (hx : 0 ≤ x ∧ x ≤ 5) : f_X11_wordOfSetting S x = some (18 + x.toNat, S) := by
  rcases (show x = 0 ∨ x = 1 ∨ x = 2 ∨ x = 3 ∨ x = 4 ∨ x = 5 by omega) with rfl | rfl | rfl | rfl | rfl | rfl <;> rfl
/-- the kind of a word -/
theorem kt_q (hT : TC T) (hX : TX H L) {A M : List Int} {q : Nat} (hq : 8 ≤ q ∧ q ≤ 17) (hL : L = A ++ (ldL q ++ M)) (h3 : H 2 3 = 1) (h4 : H 2 4 = (A.length : Int)) (h5 : H 2 5 = ((A ++ ldL q).length : Int)) : f_X3_kindOfToken_p3_2 (PZ T H P) 0 = some ((q : Int) - 8, PZ T H P) := by
  have hfu := hT.2.2.2.2
  have g : ∀ (d : Nat) (x : Int) (f : Nat), 0 ≤ x → x + d = (q : Int) - 8 → d < f → f_X3_kindOfToken_p3_2_b2 0 f (PZ T H P) x = some ((q : Int) - 8, PZ T H P) := by
    intro d
    induction d with
    | zero =>
      intro x f hx hd hf
      obtain ⟨f, rfl⟩ := fs_e (show 0 < f by omega)
      rw [f_X3_kindOfToken_p3_2_b2, wr_e (z := 10) (by omega), wr_e (z := x) (by omega), if_neg (by omega), wk_e (by omega), bd2_e, ti_q hT hX (by omega) hL h3 h4 h5 (by omega), if_pos (by omega), bd2_e, if_neg (by decide)]
      exact congrArg (fun z => some (z, PZ T H P)) (by omega)
    | succ d ih =>
      intro x f hx hd hf
      obtain ⟨f, rfl⟩ := fs_e (show 0 < f by omega)
      rw [f_X3_kindOfToken_p3_2_b2, wr_e (z := 10) (by omega), wr_e (z := x) (by omega), if_neg (by omega), wk_e (by omega), bd2_e, ti_q hT hX (by omega) hL h3 h4 h5 (by omega), if_neg (by omega), bd2_e, if_pos (by decide)]
      exact ih (x + 1) f (by omega) (by omega) (by omega)
  exact g (q - 8) 0 _ (by decide) (by omega) (by show _ < T.1.1; omega)
/-- the setting of a word -/
theorem so_q (hT : TC T) (hX : TX H L) {A M : List Int} {q : Nat} (hq : 18 ≤ q ∧ q ≤ 23) (hL : L = A ++ (ldL q ++ M)) (h3 : H 2 3 = 1) (h4 : H 2 4 = (A.length : Int)) (h5 : H 2 5 = ((A ++ ldL q).length : Int)) : f_X3_settingOfToken_p3_2 (PZ T H P) 0 = some ((q : Int) - 18, PZ T H P) := by
  have hfu := hT.2.2.2.2
  have g : ∀ (d : Nat) (x : Int) (f : Nat), 0 ≤ x → x + d = (q : Int) - 18 → d < f → f_X3_settingOfToken_p3_2_b2 0 f (PZ T H P) x = some ((q : Int) - 18, PZ T H P) := by
    intro d
    induction d with
    | zero =>
      intro x f hx hd hf
      obtain ⟨f, rfl⟩ := fs_e (show 0 < f by omega)
      rw [f_X3_settingOfToken_p3_2_b2, wr_e (z := 6) (by omega), wr_e (z := x) (by omega), if_neg (by omega), ws_e (by omega), bd2_e, ti_q hT hX (by omega) hL h3 h4 h5 (by omega), if_pos (by omega), bd2_e, if_neg (by decide)]
      exact congrArg (fun z => some (z, PZ T H P)) (by omega)
    | succ d ih =>
      intro x f hx hd hf
      obtain ⟨f, rfl⟩ := fs_e (show 0 < f by omega)
      rw [f_X3_settingOfToken_p3_2_b2, wr_e (z := 6) (by omega), wr_e (z := x) (by omega), if_neg (by omega), ws_e (by omega), bd2_e, ti_q hT hX (by omega) hL h3 h4 h5 (by omega), if_neg (by omega), bd2_e, if_pos (by decide)]
      exact ih (x + 1) f (by omega) (by omega) (by omega)
  exact g (q - 18) 0 _ (by decide) (by omega) (by show _ < T.1.1; omega)
theorem so_n (hT : TC T) (hX : TX H L) {A M : List Int} {q : Nat} (hq : 6 ≤ q ∧ q < 28 ∧ (q < 18 ∨ 23 < q)) (hL : L = A ++ (ldL q ++ M)) (h3 : H 2 3 = 1) (h4 : H 2 4 = (A.length : Int)) (h5 : H 2 5 = ((A ++ ldL q).length : Int)) : f_X3_settingOfToken_p3_2 (PZ T H P) 0 = some (-1, PZ T H P) := by
  have hfu := hT.2.2.2.2
  have g : ∀ (d : Nat) (x : Int) (f : Nat), 0 ≤ x → x + d = 6 → d < f → f_X3_settingOfToken_p3_2_b2 0 f (PZ T H P) x = some (-1, PZ T H P) := by
    intro d
    induction d with
    | zero =>
      intro x f hx hd hf
      obtain ⟨f, rfl⟩ := fs_e (show 0 < f by omega)
      rw [f_X3_settingOfToken_p3_2_b2, wr_e (z := 6) (by omega), wr_e (z := x) (by omega), if_pos (by omega)]
    | succ d ih =>
      intro x f hx hd hf
      obtain ⟨f, rfl⟩ := fs_e (show 0 < f by omega)
      rw [f_X3_settingOfToken_p3_2_b2, wr_e (z := 6) (by omega), wr_e (z := x) (by omega), if_neg (by omega), ws_e (by omega), bd2_e, ti_q hT hX (by omega) hL h3 h4 h5 (by omega), if_neg (by omega), bd2_e, if_pos (by decide)]
      exact ih (x + 1) f (by omega) (by omega) (by omega)
  exact g 6 0 _ (by decide) (by decide) (by show _ < T.1.1; omega)
end C3A
