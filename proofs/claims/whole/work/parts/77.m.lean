/-! mathematics: what both sides ask of a token -/
theorem sR_cm {S : xSt} {r r' : Nat} {F G : xR} (h : r ≠ r') : sR (sR S r F) r' G = sR (sR S r' G) r F := by
  have e : (fun a => if a = r' then G else (sR S r F).2.1 a) = fun a => if a = r then F else (sR S r' G).2.1 a := by
    funext a
    by_cases h1 : a = r'
    · subst h1
      rw [if_pos rfl, if_neg (fun z => h z.symm), sR_g1]
    · rw [if_neg h1]
      by_cases h2 : a = r
      · subst h2
        rw [if_pos rfl, sR_g1]
      · rw [if_neg h2, sR_n1 h2, sR_n1 h1]
  show (S.1, (fun a => if a = r' then G else (sR S r F).2.1 a), S.2.2) = _
  rw [e]
  rfl
def W2 (q : Nat) (S : xSt) : Prop := W0 S ∧ gP S 0 2 2 = (q, 0) ∧ gk S q = 2 ∧ (q = 11 ∨ q = 12)
theorem tk_w : ∀ w : Nat, w < 22 → ∃ z, tOK (wtx w) (wln w) (wln w) z (chv (wtx w)) := by
  intro w hw
  have h : w = 0 ∨ w = 1 ∨ w = 2 ∨ w = 3 ∨ w = 4 ∨ w = 5 ∨ w = 6 ∨ w = 7 ∨ w = 8 ∨ w = 9 ∨ w = 10 ∨ w = 11 ∨ w = 12 ∨ w = 13 ∨ w = 14 ∨ w = 15 ∨ w = 16 ∨ w = 17 ∨ w = 18 ∨ w = 19 ∨ w = 20 ∨ w = 21 := by omega
  rcases h with rfl | rfl | rfl | rfl | rfl | rfl | rfl | rfl | rfl | rfl | rfl | rfl | rfl | rfl | rfl | rfl | rfl | rfl | rfl | rfl | rfl | rfl
  · exact ⟨_, tk_2⟩
  · exact ⟨_, tk_3⟩
  · exact ⟨_, tk_4⟩
  · exact ⟨_, tk_5⟩
  · exact ⟨_, tk_6⟩
  · exact ⟨_, tk_7⟩
  · exact ⟨_, tk_8⟩
  · exact ⟨_, tk_9⟩
  · exact ⟨_, tk_10⟩
  · exact ⟨_, tk_11⟩
  · exact ⟨_, tk_12⟩
  · exact ⟨_, tk_13⟩
  · exact ⟨_, tk_14⟩
  · exact ⟨_, tk_15⟩
  · exact ⟨_, tk_16⟩
  · exact ⟨_, tk_17⟩
  · exact ⟨_, tk_1⟩
  · exact ⟨_, tk_0⟩
  · exact ⟨_, tk_18⟩
  · exact ⟨_, tk_21⟩
  · exact ⟨_, tk_19⟩
  · exact ⟨_, tk_20⟩
theorem wc_w : ∀ w : Nat, w < 22 → ∀ j : Nat, j < wln w → chv (wtx w) j = chv 42 (wps w + j) := by decide +kernel
theorem wset : ∀ k : Nat, k < 6 → ∀ S : xSt, f_X11_wordOfSetting S (k : Int) = some (wtx (10 + k), S) := by
  intro k hk S
  have h : k = 0 ∨ k = 1 ∨ k = 2 ∨ k = 3 ∨ k = 4 ∨ k = 5 := by omega
  rcases h with rfl | rfl | rfl | rfl | rfl | rfl <;> rfl
theorem wkind : ∀ k : Nat, k < 10 → ∀ S : xSt, f_X11_wordOfKind S (k : Int) = some (wtx k, S) := by
  intro k hk S
  have h := (kw k hk).2 S
  have e : wtx k = k + 2 := by
    have : ∀ k : Nat, k < 10 → wtx k = k + 2 := by decide
    exact this k hk
  rw [e]
  exact h
section CQ
variable {S T : xSt} {q : Nat} {n p e t v : Int} {b : Nat → Int} {X Y μ : xR}
theorem cs_x {o k : Nat} : gI (cs S q X Y) 0 o k = X o k := sR_g
theorem cs_y (h : W2 q S) {o k : Nat} : gI (cs S q X Y) q o k = Y o k := by
  have hq : q ≠ 0 := by have := h.2.2.2; omega
  unfold cs
  rw [sR_n hq, sR_g]
theorem cs_wx {o k : Nat} {z : Int} : wI (cs S q X Y) 0 o k z = cs S q (uF X o k z) Y := sR_w
theorem cs_q (h : W2 q S) : cs S q X Y = sR (sR S 0 X) q Y := sR_cm (by have := h.2.2.2; omega)
theorem cs_p (h : W2 q S) {β : Type} {f : Nat → Option β} : ckP (cs S q X Y) 0 2 2 2 0 f = f q := ckP_e (S := cs S q X Y) h.2.1 h.2.2.1
theorem cs_t (h : W2 q S) {β : Type} {f : Nat → Option β} : ckP (cs S q X Y) 0 2 0 3 1 f = f 0 := ckP_e (S := cs S q X Y) h.1.1 h.1.2.1
theorem cs_fu : fu (cs S q X Y) = fu S := rfl
theorem c_b28 (hS : W2 q S) (hn : BT n b) (hX : CB n b X) (h4 : X 2 4 = p) {k l : Nat} {z : Int} (hk : tOK k l l z (chv k)) (hc : ∀ j : Nat, j < l → 97 ≤ chv k j ∧ chv k j ≤ 122) (hp : 0 ≤ p ∧ p + (l : Int) ≤ n) (hl : l ≤ 6) : ∀ (d j : Nat) (f : Nat), j + d = l → d < f → (∀ i : Nat, i < j → b (p.toNat + i) = chv k i) → ((∀ i : Nat, i < l → b (p.toNat + i) = chv k i) ∧ f_X3_tokenIs_p3_2_b28 0 k f (cs S q X Y) (j : Int) = some (1, cs S q X Y)) ∨ (¬ (∀ i : Nat, i < l → b (p.toNat + i) = chv k i) ∧ f_X3_tokenIs_p3_2_b28 0 k f (cs S q X Y) (j : Int) = some (0, cs S q X Y)) := by
  have hn0 := hn.1
  intro d
  induction d with
  | zero =>
    intro j f h hf hall
    obtain ⟨f, rfl⟩ := fs_e (show 0 < f by omega)
    have ej : j = l := by omega
    subst ej
    left
    refine ⟨hall, ?_⟩
    rw [f_X3_tokenIs_p3_2_b28, hk.2.1, bd2_e, hk.2.2.1, wr_e (z := ((j : Nat) : Int)) (by omega), if_pos (Int.le_refl _)]
  | succ d ih =>
    intro j f h hf hall
    obtain ⟨f, rfl⟩ := fs_e (show 0 < f by omega)
    have k1 := hX.2 (p.toNat + j) (by omega)
    have k3 := hn.2 (p.toNat + j) (by omega)
    have k4 := hc j (by omega)
    have et : (p + ((j : Nat) : Int)).toNat = p.toNat + j := by omega
    have e0 : f_X3_tokenIs_p3_2_b28 0 k (f + 1) (cs S q X Y) (j : Int) = if b (p.toNat + j) = chv k j then f_X3_tokenIs_p3_2_b28 0 k f (cs S q X Y) ((j : Int) + 1) else some (0, cs S q X Y) := by
      rw [f_X3_tokenIs_p3_2_b28, hk.2.1, bd2_e, hk.2.2.1, wr_e (z := ((j : Nat) : Int)) (by omega), if_neg (by omega), cs_t hS, cs_x, h4, ckI_e (by omega), hk.1 _ j (by omega), bd2_e, cs_x, wr_e (z := p + ((j : Nat) : Int)) (by omega), et, k1, wr_e (z := b (p.toNat + j)) (by omega), wr_e (z := chv k j) (by omega)]
    rw [e0]
    by_cases c : b (p.toNat + j) = chv k j
    · rw [if_pos c]
      have i := ih (j + 1) f (by omega) (by omega) (fun i hi => by
        by_cases e9 : i = j
        · subst e9
          exact c
        · exact hall i (by omega))
      rw [show ((j + 1 : Nat) : Int) = ((j : Nat) : Int) + 1 by omega] at i
      exact i
    · rw [if_neg c]
      right
      exact ⟨fun h => c (h j (by omega)), rfl⟩
theorem c_tok (hS : W2 q S) (hn : BT n b) (h : CTK n b X p e t v) (ht : TOK n b p e t v) {w : Nat} (hw : w < 22) : f_X3_tokenIs_p3_2 (cs S q X Y) 0 (wtx w) = some (if t = 1 ∧ v = (w : Int) then 1 else 0, cs S q X Y) := by
  obtain ⟨h1, h2, h3, h5, h6⟩ := h
  obtain ⟨t1, t2, t3, t4, t5⟩ := ht
  have hn0 := hn.1
  obtain ⟨z, hk⟩ := tk_w w hw
  have hl := w_len w hw
  have hwc := wc_w w hw
  have hwi := w_in w hw
  unfold f_X3_tokenIs_p3_2
  rw [cs_x, h2, wr_e (z := t) (by omega), wr_e (z := 1) (by decide)]
  by_cases c : t = 1
  · have hd := t3 c
    rw [if_neg (fun h => h c), hk.2.1, bd2_e, hk.2.2.1, cs_x, h5, cs_x, h3, wr_e (z := e - p) (by omega)]
    by_cases c2 : e - p = (wln w : Int)
    · rw [if_pos c2]
      rcases c_b28 (Y := Y) hS hn h1 h3 hk (fun j hj => by rw [hwc j hj]; exact hwi j hj) (by omega) (by omega) (wln w) 0 (fu (cs S q X Y)) (by omega) (by rw [cs_fu]; have := hS.1.2.2; omega) (fun i hi => absurd hi (by omega)) with ⟨m1, m2⟩ | ⟨m1, m2⟩
      · have hv : v = (w : Int) := (hd.2 w hw).mpr ⟨c2, fun j hj => by rw [m1 j hj, hwc j hj]⟩
        rw [if_pos ⟨c, hv⟩]
        exact m2
      · have hv : ¬ v = (w : Int) := fun hv => m1 (fun i hi => by rw [((hd.2 w hw).mp hv).2 i hi, hwc i hi])
        rw [if_neg (fun h => hv h.2)]
        exact m2
    · have hv : ¬ v = (w : Int) := fun hv => c2 ((hd.2 w hw).mp hv).1
      rw [if_neg c2, if_neg (fun h => hv h.2)]
  · rw [if_pos c, if_neg (fun h => c h.1)]
theorem c_kind (hS : W2 q S) (hn : BT n b) (h : CTK n b X p e t v) (ht : TOK n b p e t v) : f_X3_kindOfToken_p3_2 (cs S q X Y) 0 = some (if t = 1 ∧ 0 ≤ v ∧ v ≤ 9 then v else -1, cs S q X Y) := by
  have key : ∀ (d k f : Nat), k + d = 10 → d < f → (∀ u : Nat, u < k → ¬ (t = 1 ∧ v = (u : Int))) → f_X3_kindOfToken_p3_2_b2 0 f (cs S q X Y) (k : Int) = some (if t = 1 ∧ 0 ≤ v ∧ v ≤ 9 then v else -1, cs S q X Y) := by
    intro d
    induction d with
    | zero =>
      intro k f hk hf hall
      obtain ⟨f, rfl⟩ := fs_e (show 0 < f by omega)
      rw [f_X3_kindOfToken_p3_2_b2, wr_e (z := 10) (by decide), wr_e (z := (k : Int)) (by omega), if_pos (by omega)]
      rw [if_neg (fun hh => hall v.toNat (by omega) ⟨hh.1, by omega⟩)]
    | succ d ih =>
      intro k f hk hf hall
      obtain ⟨f, rfl⟩ := fs_e (show 0 < f by omega)
      rw [f_X3_kindOfToken_p3_2_b2, wr_e (z := 10) (by decide), wr_e (z := (k : Int)) (by omega), if_neg (by omega), wkind k (by omega), bd2_e, c_tok hS hn h ht (show k < 22 by omega), bd2_e]
      by_cases c : t = 1 ∧ v = (k : Int)
      · rw [if_pos c, if_neg (by decide), if_pos ⟨c.1, by omega, by omega⟩, c.2]
      · rw [if_neg c, if_pos (by decide)]
        have i := ih (k + 1) f (by omega) (by omega) (fun u hu => by
          by_cases e9 : u = k
          · subst e9
            exact c
          · exact hall u (by omega))
        rw [show ((k + 1 : Nat) : Int) = ((k : Nat) : Int) + 1 by omega] at i
        exact i
  exact key 10 0 (fu (cs S q X Y)) (by decide) (by rw [cs_fu]; have := hS.1.2.2; omega) (fun u hu => absurd hu (by omega))
theorem c_set (hS : W2 q S) (hn : BT n b) (h : CTK n b X p e t v) (ht : TOK n b p e t v) : f_X3_settingOfToken_p3_2 (cs S q X Y) 0 = some (if t = 1 ∧ 10 ≤ v ∧ v ≤ 15 then v - 10 else -1, cs S q X Y) := by
  have key : ∀ (d k f : Nat), k + d = 6 → d < f → (∀ u : Nat, u < k → ¬ (t = 1 ∧ v = ((10 + u : Nat) : Int))) → f_X3_settingOfToken_p3_2_b2 0 f (cs S q X Y) (k : Int) = some (if t = 1 ∧ 10 ≤ v ∧ v ≤ 15 then v - 10 else -1, cs S q X Y) := by
    intro d
    induction d with
    | zero =>
      intro k f hk hf hall
      obtain ⟨f, rfl⟩ := fs_e (show 0 < f by omega)
      rw [f_X3_settingOfToken_p3_2_b2, wr_e (z := 6) (by decide), wr_e (z := (k : Int)) (by omega), if_pos (by omega)]
      rw [if_neg (fun hh => hall (v - 10).toNat (by omega) ⟨hh.1, by omega⟩)]
    | succ d ih =>
      intro k f hk hf hall
      obtain ⟨f, rfl⟩ := fs_e (show 0 < f by omega)
      rw [f_X3_settingOfToken_p3_2_b2, wr_e (z := 6) (by decide), wr_e (z := (k : Int)) (by omega), if_neg (by omega), wset k (by omega), bd2_e, c_tok hS hn h ht (show 10 + k < 22 by omega), bd2_e]
      by_cases c : t = 1 ∧ v = ((10 + k : Nat) : Int)
      · rw [if_pos c, if_neg (by decide), if_pos ⟨c.1, by omega, by omega⟩]
        have e1 : v - 10 = (k : Int) := by omega
        rw [e1]
      · rw [if_neg c, if_pos (by decide)]
        have i := ih (k + 1) f (by omega) (by omega) (fun u hu => by
          by_cases e9 : u = k
          · subst e9
            exact c
          · exact hall u (by omega))
        rw [show ((k + 1 : Nat) : Int) = ((k : Nat) : Int) + 1 by omega] at i
        exact i
  exact key 6 0 (fu (cs S q X Y)) (by decide) (by rw [cs_fu]; have := hS.1.2.2; omega) (fun u hu => absurd hu (by omega))
/-- the class's error -/
def FX (X : xR) (c : Int) : xR := uF (uF X 2 11 c) 2 12 (X 2 4)
theorem c_fail {c : Int} : f_X3_fail_p3_2 (cs S q X Y) 0 c = some (0, cs S q (FX X c) Y) := by
  unfold f_X3_fail_p3_2 FX
  rw [cs_wx, lt1_e, cs_x, uF_n (by omega), cs_wx, lt1_e]
/-- the reference's error -/
def EM (μ : xR) (c : Int) : xR := uF (uF μ 0 29 c) 0 30 (μ 0 24)
theorem m_fine (h : μ 0 29 = 0) : f_X12_fine_p4_0 (sR T 13 μ) 13 = some (1, sR T 13 μ) := by
  unfold f_X12_fine_p4_0
  rw [sR_g, h, if_neg (by decide)]
theorem m_yes {c : Int} : f_X12_needs_p4_0 (sR T 13 μ) 13 1 c = some (sR T 13 μ) := by
  unfold f_X12_needs_p4_0
  rw [sR_g]
  split
  · rfl
  · rw [if_neg (by decide)]
theorem m_no (h : μ 0 29 = 0) {c : Int} : f_X12_needs_p4_0 (sR T 13 μ) 13 0 c = some (sR T 13 (EM μ c)) := by
  unfold f_X12_needs_p4_0 EM
  rw [sR_g, h, if_neg (by decide), if_pos (by decide), sR_w, lt1_e, sR_g, uF_n (by omega), sR_w, lt1_e]
theorem m_on (h : μ 0 29 = 0) : f_X12_goOn_p4_0 (sR T 13 μ) 13 = (bd (f_X12_next_p4_0 (sR T 13 μ) 13) fun S6 => some S6) := by
  unfold f_X12_goOn_p4_0
  rw [m_fine h, bd2_e, if_neg (by decide)]
theorem m_tn (hM : MTK n b μ p e t v) (ht : TOK n b p e t v) : wr (μ 0 25) = wr 2 ↔ t = 2 := by
  obtain ⟨h1, h2, h3, h4, h5, h6, h7⟩ := hM
  have h2' := ht.2.1
  rw [h4]
  rcases h2' with rfl | rfl | rfl | rfl | rfl | rfl | rfl <;> decide
theorem m_end (hM : MTK n b μ p e t v) (ht : TOK n b p e t v) : wr (μ 0 25) = 0 ↔ t = 0 := by
  obtain ⟨h1, h2, h3, h4, h5, h6, h7⟩ := hM
  have h2' := ht.2.1
  rw [h4]
  rcases h2' with rfl | rfl | rfl | rfl | rfl | rfl | rfl <;> decide
theorem m_t1 (hM : MTK n b μ p e t v) (ht : TOK n b p e t v) : wr (μ 0 25) = wr 1 ↔ t = 1 := by
  obtain ⟨h1, h2, h3, h4, h5, h6, h7⟩ := hM
  have h2' := ht.2.1
  rw [h4]
  rcases h2' with rfl | rfl | rfl | rfl | rfl | rfl | rfl <;> decide
theorem m_ts (hM : MTK n b μ p e t v) (ht : TOK n b p e t v) : wr (μ 0 25) = wr 3 ↔ (t = 59 ∨ t = 40 ∨ t = 41) := by
  obtain ⟨h1, h2, h3, h4, h5, h6, h7⟩ := hM
  have h2' := ht.2.1
  rw [h4]
  rcases h2' with rfl | rfl | rfl | rfl | rfl | rfl | rfl <;> decide
theorem m_isw (h : μ 0 29 = 0) (hM : MTK n b μ p e t v) (ht : TOK n b p e t v) {w : Int} (hw : 0 ≤ w ∧ w ≤ 21) : f_X12_isWord_p4_0 (sR T 13 μ) 13 w = some (if t = 1 ∧ v = w then 1 else 0, sR T 13 μ) := by
  have h1 := m_t1 hM ht
  have h5 := hM.2.2.2.2.1
  unfold f_X12_isWord_p4_0
  rw [m_fine h, bd2_e, if_neg (by decide), sR_g]
  by_cases c : t = 1
  · have hv := (ht.2.2.1 c).1
    rw [if_neg (fun h => h (h1.mpr c)), sR_g, h5 c, wr_e (z := v) (by omega), wr_e (z := w) (by omega)]
    by_cases c2 : v = w
    · rw [if_neg (fun h => h c2), if_pos ⟨c, c2⟩]
    · rw [if_pos c2, if_neg (show ¬ (t = 1 ∧ v = w) from fun h => c2 h.2)]
  · rw [if_pos (fun h => c (h1.mp h)), if_neg (show ¬ (t = 1 ∧ v = w) from fun h => c h.1)]
theorem m_kind (h : μ 0 29 = 0) (hM : MTK n b μ p e t v) (ht : TOK n b p e t v) : f_X12_isKindHere_p4_0 (sR T 13 μ) 13 = some (if t = 1 ∧ 0 ≤ v ∧ v ≤ 9 then 1 else 0, sR T 13 μ) := by
  have h1 := m_t1 hM ht
  have h5 := hM.2.2.2.2.1
  unfold f_X12_isKindHere_p4_0
  rw [m_fine h, bd2_e, if_neg (by decide), sR_g]
  by_cases c : t = 1
  · have hv := (ht.2.2.1 c).1
    rw [if_neg (fun h => h (h1.mpr c)), sR_g, h5 c, wr_e (z := v) (by omega), p_isIn (by omega) (by decide) (by decide), bd2_e]
    by_cases c2 : 0 ≤ v ∧ v ≤ 9
    · rw [if_pos c2, if_neg (by decide), if_pos ⟨c, c2⟩]
    · rw [if_neg c2, if_pos (by decide), if_neg (show ¬ (t = 1 ∧ 0 ≤ v ∧ v ≤ 9) from fun h => c2 h.2)]
  · rw [if_pos (fun h => c (h1.mp h)), if_neg (show ¬ (t = 1 ∧ 0 ≤ v ∧ v ≤ 9) from fun h => c h.1)]
theorem m_sign (h : μ 0 29 = 0) (hM : MTK n b μ p e t v) (ht : TOK n b p e t v) {s : Int} (hs : s = 59 ∨ s = 40 ∨ s = 41) : f_X12_isSign_p4_0 (sR T 13 μ) 13 s = some (if t = s then 1 else 0, sR T 13 μ) := by
  have h1 := m_ts hM ht
  have h7 := hM.2.2.2.2.2.2
  unfold f_X12_isSign_p4_0
  rw [m_fine h, bd2_e, if_neg (by decide), sR_g]
  by_cases c : t = 59 ∨ t = 40 ∨ t = 41
  · rw [if_neg (fun h => h (h1.mpr c)), sR_g, h7 c, wr_e (z := t) (by omega), wr_e (z := s) (by omega)]
    by_cases c2 : t = s
    · rw [if_neg (fun h => h c2), if_pos c2]
    · rw [if_pos c2, if_neg c2]
  · rw [if_pos (fun h => c (h1.mp h)), if_neg (show ¬ t = s by omega)]
/-! after an error the reference goes on without effect -/
def HE (μ : xR) : Prop := ¬ wr (μ 0 29) = 0
theorem he_EM {c : Int} (hc : 1 ≤ c ∧ c ≤ 4) : HE (EM μ c) := by
  unfold HE EM
  rw [uF_n (by omega), uF_e, wr_e (by omega)]
  omega
theorem he_u {o k : Nat} {z : Int} (h : HE μ) (hk : ¬ (0 = o ∧ 29 = k)) : HE (uF μ o k z) := by
  unfold HE
  rw [uF_n hk]
  exact h
theorem e_fine (h : HE μ) : f_X12_fine_p4_0 (sR T 13 μ) 13 = some (0, sR T 13 μ) := by
  unfold f_X12_fine_p4_0
  rw [sR_g, if_pos (show ¬ wr (μ 0 29) = 0 from h)]
theorem e_needs (h : HE μ) {a c : Int} : f_X12_needs_p4_0 (sR T 13 μ) 13 a c = some (sR T 13 μ) := by
  unfold f_X12_needs_p4_0
  rw [sR_g, if_pos (show ¬ wr (μ 0 29) = 0 from h)]
theorem e_on (h : HE μ) : f_X12_goOn_p4_0 (sR T 13 μ) 13 = some (sR T 13 μ) := by
  unfold f_X12_goOn_p4_0
  rw [e_fine h, bd2_e, if_pos (by decide)]
theorem e_word (h : HE μ) {w : Int} : f_X12_isWord_p4_0 (sR T 13 μ) 13 w = some (0, sR T 13 μ) := by
  unfold f_X12_isWord_p4_0
  rw [e_fine h, bd2_e, if_pos (by decide)]
theorem e_kind (h : HE μ) : f_X12_isKindHere_p4_0 (sR T 13 μ) 13 = some (0, sR T 13 μ) := by
  unfold f_X12_isKindHere_p4_0
  rw [e_fine h, bd2_e, if_pos (by decide)]
theorem e_sign (h : HE μ) {w : Int} : f_X12_isSign_p4_0 (sR T 13 μ) 13 w = some (0, sR T 13 μ) := by
  unfold f_X12_isSign_p4_0
  rw [e_fine h, bd2_e, if_pos (by decide)]
theorem e_nsign (h : HE μ) {w : Int} : f_X12_needsSign_p4_0 (sR T 13 μ) 13 w = some (sR T 13 μ) := by
  unfold f_X12_needsSign_p4_0
  rw [e_sign h, bd2_e, e_needs h, bd_e, e_on h, bd_e]
theorem e_num (h : HE μ) {lo hi : Int} : f_X12_number_p4_0 (sR T 13 μ) 13 lo hi = some (μ 0 27, sR T 13 μ) := by
  have k : ∀ a, f_X12_number_p4_0_b14 13 (sR T 13 μ) lo hi a = some (μ 0 27, sR T 13 μ) := fun a => by
    unfold f_X12_number_p4_0_b14
    rw [e_needs h, bd_e, e_fine h, bd2_e, if_pos (by decide), e_on h, bd_e, sR_g]
  unfold f_X12_number_p4_0
  split <;> exact k _
theorem e_width (h : HE μ) : f_X12_width_p4_0 (sR T 13 μ) 13 = some (μ 0 27, sR T 13 μ) := by
  have k : ∀ a, f_X12_width_p4_0_b14 13 (sR T 13 μ) a = some (μ 0 27, sR T 13 μ) := fun a => by
    unfold f_X12_width_p4_0_b14
    rw [e_needs h, bd_e, e_fine h, bd2_e, if_pos (by decide), e_on h, bd_e, sR_g]
  unfold f_X12_width_p4_0
  split <;> exact k _
end CQ
