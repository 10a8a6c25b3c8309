/-! mathematics: one token after the other, on both sides -/
theorem uF_n {F : xR} {o o' k k' : Nat} {z : Int} (h : ¬ (o' = o ∧ k' = k)) : uF F o k z o' k' = F o' k' := if_neg h
theorem wdn_one {b : Nat → Int} {p e v v' : Int} (h : WDn b p e v) (h' : WDn b p e v') : v = v' := by
  obtain ⟨h1, h2⟩ := h
  obtain ⟨h3, h4⟩ := h'
  by_cases c : v = -1
  · by_cases c' : v' = -1
    · omega
    · have k := (h2 v'.toNat (by omega)).mpr ((h4 v'.toNat (by omega)).mp (by omega))
      omega
  · have k := (h4 v.toNat (by omega)).mpr ((h2 v.toNat (by omega)).mp (by omega))
    omega
theorem uF_j {F : xR} {o k : Nat} {z : Int} (h : F o k = z) : uF F o k z = F := by
  funext a c
  unfold uF
  split
  · rename_i h1
    rw [h1.1, h1.2, h]
  · rfl
/-- a token from p to e, of kind t; v: its word or its number -/
def TOK (n : Int) (b : Nat → Int) (p e t v : Int) : Prop := (0 ≤ p ∧ p ≤ e ∧ e ≤ n) ∧ (t = 0 ∨ t = 1 ∨ t = 2 ∨ t = 3 ∨ t = 59 ∨ t = 40 ∨ t = 41) ∧ (t = 1 → WDn b p e v) ∧ (t = 2 → 0 ≤ v ∧ v ≤ 99) ∧ (t ≠ 0 → p < e)
def CTK (n : Int) (b : Nat → Int) (X : xR) (p e t v : Int) : Prop := CB n b X ∧ X 2 3 = t ∧ X 2 4 = p ∧ X 2 5 = e ∧ (t = 2 → X 2 6 = v)
def MTK (n : Int) (b : Nat → Int) (μ : xR) (p e t v : Int) : Prop := MB n b μ ∧ μ 0 24 = p ∧ μ 0 23 = e ∧ μ 0 25 = (if t = 0 then 0 else if t = 1 then 1 else if t = 2 then 2 else if t = 3 then 4 else 3) ∧ (t = 1 → μ 0 26 = v) ∧ (t = 2 → μ 0 27 = v) ∧ (t = 59 ∨ t = 40 ∨ t = 41 → μ 0 28 = t)
def XF (X X' : xR) : Prop := ∀ o k : Nat, ¬ (o = 2 ∧ 3 ≤ k ∧ k ≤ 6) → X' o k = X o k
def MF (μ μ' : xR) : Prop := ∀ o k : Nat, ¬ (o = 0 ∧ 23 ≤ k ∧ k ≤ 28) → μ' o k = μ o k
def cs (S : xSt) (q : Nat) (X Y : xR) : xSt := sR (sR S q Y) 0 X
/-- the token behind x -/
def NXT (S T : xSt) (q : Nat) (n : Int) (b : Nat → Int) (x p e t v : Int) : Prop := TOK n b p e t v ∧ x ≤ p ∧ (∀ X Y : xR, CB n b X → X 2 5 = x → ∃ X1, f_X3_readToken_p3_2 (cs S q X Y) 0 = some (cs S q X1 Y) ∧ CTK n b X1 p e t v ∧ XF X X1) ∧ ∀ μ : xR, MB n b μ → μ 0 23 = x → ∃ μ1, f_X12_next_p4_0 (sR T 13 μ) 13 = some (sR T 13 μ1) ∧ MTK n b μ1 p e t v ∧ MF μ μ1
section TX
variable {S T : xSt} {q : Nat} {n : Int} {b : Nat → Int} {X Y μ : xR}
theorem c_nb41 (hS : W0 S) (hn : BT n b) {p : Int} (hp : 0 ≤ p ∧ p < n) {X : xR} (hX : CB n b X) (Y : xR) : f_X3_readToken_p3_2_b41 0 (cs S q X Y) p = (if b p.toNat < 97 then f_X3_readToken_p3_2_b87 0 (cs S q (uF (uF X 2 4 p) 2 3 0) Y) p (b p.toNat) else if 122 < b p.toNat then f_X3_readToken_p3_2_b87 0 (cs S q (uF (uF X 2 4 p) 2 3 0) Y) p (b p.toNat) else bd2 (f_X3_endOfWord_p3_2 (cs S q (uF (uF X 2 4 p) 2 3 0) Y) 0 p) fun v21 S20 => lt1 (wI S20 0 2 5 v21) fun S22 => some S22) := by
  have k3 := hn.2 p.toNat (by omega)
  have k1 := hX.2 p.toNat (by omega)
  have hn0 := hn.1
  unfold f_X3_readToken_p3_2_b41 cs
  rw [sR_w, lt1_e, sR_w, lt1_e, sR_g, uF_k (by decide), uF_k (by decide), hX.1, wr_e (z := n) (by omega), wr_e (z := p) (by omega), if_neg (by omega), ckP_e (w0_p (S := sR S q Y) hS _) (w0_k (S := sR S q Y) hS _), ckI_e (by omega), sR_g, uF_o (by decide), uF_o (by decide), k1, wr_e (z := b p.toNat) (by omega), wr_e (z := 97) (by decide), wr_e (z := 122) (by decide)]
theorem m_nb0 (hn : BT n b) {p : Int} (hp : 0 ≤ p ∧ p < n) (hb : b p.toNat ≠ 32 ∧ b p.toNat ≠ 10) (h : MB n b μ) {f : Nat} : f_X12_next_p4_0_b0 13 (f + 1) (sR T 13 (uF μ 0 23 p)) = (if 97 ≤ b p.toNat ∧ b p.toNat ≤ 122 then f_X12_next_p4_0_b83 13 (fu T) (sR T 13 (uF (uF μ 0 24 p) 0 23 p)) else if 48 ≤ b p.toNat ∧ b p.toNat ≤ 57 then f_X12_next_p4_0_b152 13 (fu T) (sR T 13 (uF (uF (uF μ 0 24 p) 0 27 0) 0 23 p)) else some (sR T 13 (uF (uF (uF (uF μ 0 24 p) 0 23 (p + 1)) 0 28 (ub (b p.toNat))) 0 25 (if b p.toNat = 59 ∨ b p.toNat = 40 ∨ b p.toNat = 41 then 3 else 4)))) := by
  have k3 := hn.2 p.toNat (by omega)
  have hn0 := hn.1
  obtain ⟨u1, u2, u3⟩ := ub_r k3
  have hh := here_e (T := T) hn (mb_m (k := 23) (z := p) h (by decide)) (x := p) (by omega)
  have hh2 := here_e (T := T) hn (mb_m (k := 24) (z := p) (mb_m (k := 23) (z := p) h (by decide)) (by decide)) (x := p) (by omega)
  have u4 := u3 97 122 (by decide) (by decide)
  have u5 := u3 48 57 (by decide) (by decide)
  have v1 := u2 32 (by decide) (by decide)
  have v2 := u2 10 (by decide) (by decide)
  have v3 := u2 59 (by decide) (by decide)
  have v4 := u2 40 (by decide) (by decide)
  have v5 := u2 41 (by decide) (by decide)
  rw [f_X12_next_p4_0_b0, sR_g, uF_e, hh, bd2_e, if_neg (show ¬ n ≤ p by omega), wr_e (z := ub (b p.toNat)) (by omega), wr_e (z := 32) (by decide), if_neg (show ¬ ub (b p.toNat) = 32 by omega), sR_g, uF_e, hh, bd2_e, if_neg (show ¬ n ≤ p by omega), wr_e (z := ub (b p.toNat)) (by omega), wr_e (z := 10) (by decide), if_pos (show ¬ ub (b p.toNat) = 10 by omega), sR_g, uF_e, sR_w, lt1_e, sR_g, uF_k (by decide), uF_e, hh2, bd2_e, if_neg (show ¬ n ≤ p by omega), wr_e (z := ub (b p.toNat)) (by omega), wr_e (z := -1) (by decide), if_pos (show ¬ ub (b p.toNat) = -1 by omega), p_isIn (by omega) (by decide) (by decide), bd2_e]
  by_cases c : 97 ≤ b p.toNat ∧ b p.toNat ≤ 122
  · rw [if_pos (u4.mpr c), if_neg (by decide), if_pos c, uF_c (k := 23) (k' := 24) (Or.inr (by decide))]
    rfl
  · rw [if_neg (fun h => c (u4.mp h)), if_pos (by decide), if_neg c, p_isIn (by omega) (by decide) (by decide), bd2_e]
    by_cases c2 : 48 ≤ b p.toNat ∧ b p.toNat ≤ 57
    · rw [if_pos (u5.mpr c2), if_neg (by decide), if_pos c2, sR_w, lt1_e, uF_c (k := 23) (k' := 24) (Or.inr (by decide)), uF_c (k := 23) (k' := 27) (Or.inr (by decide))]
      rfl
    · rw [if_neg (fun h => c2 (u5.mp h)), if_pos (by decide), if_neg c2, sR_g, uF_k (by decide), uF_e, sR_w, lt1_e, sR_w, lt1_e, uF_c (k := 23) (k' := 24) (Or.inr (by decide)), uF_s, wr_e (z := 59) (by decide), wr_e (z := 40) (by decide), wr_e (z := 41) (by decide)]
      by_cases d1 : b p.toNat = 59
      · rw [if_pos (v3.mpr d1), sR_w, lt1_e, if_pos (Or.inl d1)]
      · rw [if_neg (fun h => d1 (v3.mp h))]
        by_cases d2 : b p.toNat = 40
        · rw [if_pos (v4.mpr d2), sR_w, lt1_e, if_pos (Or.inr (Or.inl d2))]
        · rw [if_neg (fun h => d2 (v4.mp h))]
          by_cases d3 : b p.toNat = 41
          · rw [if_neg (fun h => h (v5.mpr d3)), sR_w, lt1_e, if_pos (Or.inr (Or.inr d3))]
          · rw [if_pos (fun h => d3 (v5.mp h)), sR_w, lt1_e, if_neg (by omega)]
theorem t_next (hS : W0 S) (hT : 10000000 ≤ fu T) (hn : BT n b) {x : Int} (hx : 0 ≤ x ∧ x ≤ n) : ∃ p e t v, NXT S T q n b x p e t v := by
  have hn0 := hn.1
  obtain ⟨p, s1, s2, s3, s4, s5⟩ := t_skip hn (n - x).toNat x hx.1 (by omega)
  have hSq : ∀ Y : xR, W0 (sR S q Y) := fun Y => hS
  have cls : ∀ X Y : xR, CB n b X → X 2 5 = x → f_X3_readToken_p3_2 (cs S q X Y) 0 = f_X3_readToken_p3_2_b41 0 (cs S q X Y) p := fun X Y hX h5 => by
    unfold f_X3_readToken_p3_2 cs
    rw [sR_g, h5]
    exact s4 (sR S q Y) X _ (hSq Y) hX (by have := hS.2.2; show _ < fu S; omega)
  have ref : ∀ μ : xR, MB n b μ → μ 0 23 = x → ∃ f', f_X12_next_p4_0 (sR T 13 μ) 13 = f_X12_next_p4_0_b0 13 (f' + 1) (sR T 13 (uF μ 0 23 p)) := fun μ hM h23 => by
    obtain ⟨f', k⟩ := s5 T μ (fu T) hM (by omega)
    rw [uF_j h23] at k
    exact ⟨f', k⟩
  by_cases c0 : p = n
  · refine ⟨p, p, 0, 0, ⟨⟨by omega, Or.inl rfl, fun h => absurd h (by decide), fun h => absurd h (by decide), fun h => absurd rfl h⟩, s1, fun X Y hX h5 => ⟨uF (uF (uF X 2 4 p) 2 3 0) 2 5 p, ?_, ?_, ?_⟩, fun μ hM h23 => ⟨uF (uF (uF μ 0 23 p) 0 24 p) 0 25 0, ?_, ?_, ?_⟩⟩⟩
    · rw [cls X Y hX h5]
      unfold f_X3_readToken_p3_2_b41 cs
      rw [sR_w, lt1_e, sR_w, lt1_e, sR_g, uF_k (by decide), uF_k (by decide), hX.1, wr_e (z := n) (by omega), wr_e (z := p) (by omega), if_pos (by omega), sR_w, lt1_e]
    · exact ⟨cb_X (cb_X (cb_X hX (by decide)) (by decide)) (by decide), by simp (disch := omega) only [uF_e, uF_n], by simp (disch := omega) only [uF_e, uF_n], by simp (disch := omega) only [uF_e, uF_n], fun h => absurd h (by decide)⟩
    · intro o k h
      simp (disch := omega) only [uF_e, uF_n]
    · obtain ⟨f', k⟩ := ref μ hM h23
      have hh := here_e (T := T) hn (mb_m (k := 23) (z := p) hM (by decide)) (x := p) (by omega)
      have hh2 := here_e (T := T) hn (mb_m (k := 24) (z := p) (mb_m (k := 23) (z := p) hM (by decide)) (by decide)) (x := p) (by omega)
      rw [k, f_X12_next_p4_0_b0, sR_g, uF_e, hh, bd2_e, if_pos (show n ≤ p by omega), if_neg (by decide), sR_g, uF_e, hh, bd2_e, if_pos (show n ≤ p by omega), if_pos (by decide), sR_g, uF_e, sR_w, lt1_e, sR_g, uF_k (by decide), uF_e, hh2, bd2_e, if_pos (show n ≤ p by omega), if_neg (by decide), sR_w, lt1_e]
    · exact ⟨mb_m (mb_m (mb_m hM (by decide)) (by decide)) (by decide), by simp (disch := omega) only [uF_e, uF_n], by simp (disch := omega) only [uF_e, uF_n], by simp (disch := omega) only [uF_e, uF_n]; rfl, fun h => absurd h (by decide), fun h => absurd h (by decide), fun h => absurd h (by decide)⟩
    · intro o k h
      simp (disch := omega) only [uF_e, uF_n]
  · have hp : 0 ≤ p ∧ p < n := by omega
    have hb := s3 hp.2
    have k3 := hn.2 p.toNat (by omega)
    have ref2 : ∀ μ : xR, MB n b μ → μ 0 23 = x → f_X12_next_p4_0 (sR T 13 μ) 13 = _ := fun μ hM h23 => by
      obtain ⟨f', k⟩ := ref μ hM h23
      exact k.trans (m_nb0 hn hp hb hM)
    by_cases c1 : 97 ≤ b p.toNat ∧ b p.toNat ≤ 122
    · obtain ⟨e, l1, l2, l3, l4, l5, l6, l7⟩ := t_let hn (n - p).toNat p hp.1 (by omega)
      have pe := l5 hp.2 c1
      have hw0 : ∀ k : Nat, (k : Int) < n → b k = b k ∧ -128 ≤ b k ∧ b k ≤ 127 := fun k hk => ⟨rfl, hn.2 k hk⟩
      obtain ⟨v, w1, w2⟩ := m_word (T := T) (μ := fun o k => if o = 13 then b k else if k = 24 then p else e) (n := n) (p := p) (e := e) (b := b) hw0 hn0.2 ⟨hp.1, l1, l2⟩ rfl rfl hT
      refine ⟨p, e, 1, v, ⟨⟨⟨hp.1, l1, l2⟩, Or.inr (Or.inl rfl), fun _ => w2, fun h => absurd h (by decide), fun _ => pe⟩, s1, fun X Y hX h5 => ⟨uF (uF (uF (uF X 2 4 p) 2 3 0) 2 3 1) 2 5 e, ?_, ?_, ?_⟩, fun μ hM h23 => ?_⟩⟩
      · rw [cls X Y hX h5, c_nb41 hS hn hp hX Y, if_neg (by omega), if_neg (by omega)]
        unfold f_X3_endOfWord_p3_2 cs
        rw [l6 (sR S q Y) _ _ (hSq Y) (cb_X (cb_X hX (by decide)) (by decide)) (by have := hS.2.2; show _ < fu S; omega), bd2_e, sR_w, lt1_e]
      · exact ⟨cb_X (cb_X (cb_X (cb_X hX (by decide)) (by decide)) (by decide)) (by decide), by simp (disch := omega) only [uF_e, uF_n], by simp (disch := omega) only [uF_e, uF_n], by simp (disch := omega) only [uF_e, uF_n], fun h => absurd h (by decide)⟩
      · intro o k h
        simp (disch := omega) only [uF_e, uF_n]
      · have hM1 : MB n b (uF μ 0 24 p) := mb_m hM (by decide)
        have hM2 : MB n b (uF (uF (uF μ 0 24 p) 0 23 e) 0 25 1) := mb_m (mb_m hM1 (by decide)) (by decide)
        obtain ⟨v', z1, z2⟩ := m_word (T := T) (μ := uF (uF (uF μ 0 24 p) 0 23 e) 0 25 1) (n := n) (p := p) (e := e) (b := b) (fun k hk => ⟨hM2.2 k hk, hn.2 k hk⟩) hn0.2 ⟨hp.1, l1, l2⟩ (by simp (disch := omega) only [uF_e, uF_n]) (by simp (disch := omega) only [uF_e, uF_n]) hT
        have hv : v' = v := wdn_one z2 w2
        subst hv
        refine ⟨uF (uF (uF (uF μ 0 24 p) 0 23 e) 0 25 1) 0 26 v', ?_, ?_, ?_⟩
        · rw [ref2 μ hM h23, if_pos c1, l7 T (uF μ 0 24 p) (fu T) hM1 (by omega), z1, bd2_e, sR_w, lt1_e]
        · exact ⟨mb_m hM2 (by decide), by simp (disch := omega) only [uF_e, uF_n], by simp (disch := omega) only [uF_e, uF_n], by simp (disch := omega) only [uF_e, uF_n]; rfl, fun _ => by simp (disch := omega) only [uF_e, uF_n], fun h => absurd h (by decide), fun h => absurd h (by decide)⟩
        · intro o k h
          simp (disch := omega) only [uF_e, uF_n]
    · by_cases c2 : 48 ≤ b p.toNat ∧ b p.toNat ≤ 57
      · obtain ⟨e, w, l1, l2, l3, l4, l6, l7⟩ := t_dig hn hp.1 (n - p).toNat p 0 (Int.le_refl _) (by omega) (by decide) (by decide) (fun _ => rfl) (fun h => absurd h (by omega))
        have pe := l4 hp.2 c2
        have cX : ∀ X Y : xR, CB n b X → X 2 5 = x → f_X3_readToken_p3_2 (cs S q X Y) 0 = some (cs S q (uF (uF (uF (uF (uF X 2 4 p) 2 3 0) 2 6 w) 2 3 (if p + 2 < e then 3 else 2)) 2 5 e) Y) := fun X Y hX h5 => by
          have hnum : ∀ z : Int, f_X3_readToken_p3_2_b87 0 (cs S q (uF (uF X 2 4 p) 2 3 0) Y) p (b p.toNat) = some (cs S q (uF (uF (uF (uF (uF X 2 4 p) 2 3 0) 2 6 w) 2 3 (if p + 2 < e then 3 else 2)) 2 5 e) Y) := fun _ => by
            unfold f_X3_readToken_p3_2_b87 f_X3_endOfNumber_p3_2 cs
            rw [wr_e (z := b p.toNat) (by omega), wr_e (z := 48) (by decide), wr_e (z := 57) (by decide), if_neg (by omega), if_neg (by omega), sR_w, lt1_e, l6 (sR S q Y) _ _ (hSq Y) (cb_X (cb_X hX (by decide)) (by decide)) (by have := hS.2.2; show _ < fu S; omega), bd2_e, sR_w, lt1_e]
          rw [cls X Y hX h5, c_nb41 hS hn hp hX Y, hnum 0, if_pos (by omega)]
        have mX : ∀ μ : xR, MB n b μ → μ 0 23 = x → f_X12_next_p4_0 (sR T 13 μ) 13 = some (sR T 13 (uF (uF (uF (uF μ 0 24 p) 0 27 w) 0 23 e) 0 25 (if p + 2 < e then 4 else 2))) := fun μ hM h23 => by
          rw [ref2 μ hM h23, if_neg c1, if_pos c2, l7 T (uF μ 0 24 p) (fu T) (mb_m hM (by decide)) uF_e (by omega)]
        by_cases c3 : p + 2 < e
        · refine ⟨p, e, 3, 0, ⟨⟨⟨hp.1, l1, l2⟩, Or.inr (Or.inr (Or.inr (Or.inl rfl))), fun h => absurd h (by decide), fun h => absurd h (by decide), fun _ => pe⟩, s1, fun X Y hX h5 => ⟨_, cX X Y hX h5, ?_, ?_⟩, fun μ hM h23 => ⟨_, mX μ hM h23, ?_, ?_⟩⟩⟩
          · rw [if_pos c3]
            exact ⟨cb_X (cb_X (cb_X (cb_X (cb_X hX (by decide)) (by decide)) (by decide)) (by decide)) (by decide), by simp (disch := omega) only [uF_e, uF_n], by simp (disch := omega) only [uF_e, uF_n], by simp (disch := omega) only [uF_e, uF_n], fun h => absurd h (by decide)⟩
          · intro o k h
            simp (disch := omega) only [uF_e, uF_n]
          · rw [if_pos c3]
            exact ⟨mb_m (mb_m (mb_m (mb_m hM (by decide)) (by decide)) (by decide)) (by decide), by simp (disch := omega) only [uF_e, uF_n], by simp (disch := omega) only [uF_e, uF_n], by simp (disch := omega) only [uF_e, uF_n]; rfl, fun h => absurd h (by decide), fun h => absurd h (by decide), fun h => absurd h (by decide)⟩
          · intro o k h
            simp (disch := omega) only [uF_e, uF_n]
        · refine ⟨p, e, 2, w, ⟨⟨⟨hp.1, l1, l2⟩, Or.inr (Or.inr (Or.inl rfl)), fun h => absurd h (by decide), fun _ => l3, fun _ => pe⟩, s1, fun X Y hX h5 => ⟨_, cX X Y hX h5, ?_, ?_⟩, fun μ hM h23 => ⟨_, mX μ hM h23, ?_, ?_⟩⟩⟩
          · rw [if_neg c3]
            exact ⟨cb_X (cb_X (cb_X (cb_X (cb_X hX (by decide)) (by decide)) (by decide)) (by decide)) (by decide), by simp (disch := omega) only [uF_e, uF_n], by simp (disch := omega) only [uF_e, uF_n], by simp (disch := omega) only [uF_e, uF_n], fun _ => by simp (disch := omega) only [uF_e, uF_n]⟩
          · intro o k h
            simp (disch := omega) only [uF_e, uF_n]
          · rw [if_neg c3]
            exact ⟨mb_m (mb_m (mb_m (mb_m hM (by decide)) (by decide)) (by decide)) (by decide), by simp (disch := omega) only [uF_e, uF_n], by simp (disch := omega) only [uF_e, uF_n], by simp (disch := omega) only [uF_e, uF_n]; rfl, fun h => absurd h (by decide), fun _ => by simp (disch := omega) only [uF_e, uF_n], fun h => absurd h (by decide)⟩
          · intro o k h
            simp (disch := omega) only [uF_e, uF_n]
      · have cX : ∀ X Y : xR, CB n b X → X 2 5 = x → f_X3_readToken_p3_2 (cs S q X Y) 0 = some (cs S q (uF (uF (uF (uF X 2 4 p) 2 3 0) 2 3 (if b p.toNat = 59 ∨ b p.toNat = 40 ∨ b p.toNat = 41 then b p.toNat else 3)) 2 5 (p + 1)) Y) := fun X Y hX h5 => by
          have h127 : ∀ z : Int, f_X3_readToken_p3_2_b127 0 (cs S q (uF (uF X 2 4 p) 2 3 0) Y) p z = some (cs S q (uF (uF (uF (uF X 2 4 p) 2 3 0) 2 3 z) 2 5 (p + 1)) Y) := fun z => by
            unfold f_X3_readToken_p3_2_b127 cs
            rw [sR_w, lt1_e, sR_w, lt1_e]
          have h108 : f_X3_readToken_p3_2_b108 0 (cs S q (uF (uF X 2 4 p) 2 3 0) Y) p (b p.toNat) = some (cs S q (uF (uF (uF (uF X 2 4 p) 2 3 0) 2 3 (if b p.toNat = 59 ∨ b p.toNat = 40 ∨ b p.toNat = 41 then b p.toNat else 3)) 2 5 (p + 1)) Y) := by
            unfold f_X3_readToken_p3_2_b108
            rw [wr_e (z := b p.toNat) (by omega), wr_e (z := 59) (by decide), wr_e (z := 40) (by decide), wr_e (z := 41) (by decide), h127]
            by_cases d1 : b p.toNat = 59
            · rw [if_pos d1, if_pos (Or.inl d1)]
            · rw [if_neg d1]
              by_cases d2 : b p.toNat = 40
              · rw [if_pos d2, if_pos (Or.inr (Or.inl d2))]
              · rw [if_neg d2]
                by_cases d3 : b p.toNat = 41
                · rw [if_neg (fun h => h d3), if_pos (Or.inr (Or.inr d3))]
                · rw [if_pos d3, if_neg (by omega)]
                  unfold cs
                  rw [sR_w, lt1_e, sR_w, lt1_e]
          have h87 : f_X3_readToken_p3_2_b87 0 (cs S q (uF (uF X 2 4 p) 2 3 0) Y) p (b p.toNat) = f_X3_readToken_p3_2_b108 0 (cs S q (uF (uF X 2 4 p) 2 3 0) Y) p (b p.toNat) := by
            unfold f_X3_readToken_p3_2_b87
            rw [wr_e (z := b p.toNat) (by omega), wr_e (z := 48) (by decide), wr_e (z := 57) (by decide)]
            by_cases d1 : b p.toNat < 48
            · rw [if_pos d1]
            · rw [if_neg d1, if_pos (by omega)]
          rw [cls X Y hX h5, c_nb41 hS hn hp hX Y, h87, h108]
          by_cases d1 : b p.toNat < 97
          · rw [if_pos d1]
          · rw [if_neg d1, if_pos (by omega)]
        have mX : ∀ μ : xR, MB n b μ → μ 0 23 = x → f_X12_next_p4_0 (sR T 13 μ) 13 = some (sR T 13 (uF (uF (uF (uF μ 0 24 p) 0 23 (p + 1)) 0 28 (ub (b p.toNat))) 0 25 (if b p.toNat = 59 ∨ b p.toNat = 40 ∨ b p.toNat = 41 then 3 else 4))) := fun μ hM h23 => by
          rw [ref2 μ hM h23, if_neg c1, if_neg c2]
        by_cases c3 : b p.toNat = 59 ∨ b p.toNat = 40 ∨ b p.toNat = 41
        · have ue : ub (b p.toNat) = b p.toNat := by
            unfold ub
            rw [if_neg (by omega)]
          refine ⟨p, p + 1, b p.toNat, 0, ⟨⟨by omega, by omega, fun h => absurd h (by omega), fun h => absurd h (by omega), fun _ => by omega⟩, s1, fun X Y hX h5 => ⟨_, cX X Y hX h5, ?_, ?_⟩, fun μ hM h23 => ⟨_, mX μ hM h23, ?_, ?_⟩⟩⟩
          · rw [if_pos c3]
            exact ⟨cb_X (cb_X (cb_X (cb_X hX (by decide)) (by decide)) (by decide)) (by decide), by simp (disch := omega) only [uF_e, uF_n], by simp (disch := omega) only [uF_e, uF_n], by simp (disch := omega) only [uF_e, uF_n], fun h => absurd h (by omega)⟩
          · intro o k h
            simp (disch := omega) only [uF_e, uF_n]
          · rw [if_pos c3, ue]
            refine ⟨mb_m (mb_m (mb_m (mb_m hM (by decide)) (by decide)) (by decide)) (by decide), by simp (disch := omega) only [uF_e, uF_n], by simp (disch := omega) only [uF_e, uF_n], ?_, fun h => absurd h (by omega), fun h => absurd h (by omega), fun _ => by simp (disch := omega) only [uF_e, uF_n]⟩
            rw [uF_e, if_neg (by omega), if_neg (by omega), if_neg (by omega), if_neg (by omega)]
          · intro o k h
            simp (disch := omega) only [uF_e, uF_n]
        · refine ⟨p, p + 1, 3, 0, ⟨⟨by omega, Or.inr (Or.inr (Or.inr (Or.inl rfl))), fun h => absurd h (by decide), fun h => absurd h (by decide), fun _ => by omega⟩, s1, fun X Y hX h5 => ⟨_, cX X Y hX h5, ?_, ?_⟩, fun μ hM h23 => ⟨_, mX μ hM h23, ?_, ?_⟩⟩⟩
          · rw [if_neg c3]
            exact ⟨cb_X (cb_X (cb_X (cb_X hX (by decide)) (by decide)) (by decide)) (by decide), by simp (disch := omega) only [uF_e, uF_n], by simp (disch := omega) only [uF_e, uF_n], by simp (disch := omega) only [uF_e, uF_n], fun h => absurd h (by decide)⟩
          · intro o k h
            simp (disch := omega) only [uF_e, uF_n]
          · rw [if_neg c3]
            exact ⟨mb_m (mb_m (mb_m (mb_m hM (by decide)) (by decide)) (by decide)) (by decide), by simp (disch := omega) only [uF_e, uF_n], by simp (disch := omega) only [uF_e, uF_n], by simp (disch := omega) only [uF_e, uF_n]; rfl, fun h => absurd h (by decide), fun h => absurd h (by decide), fun h => absurd h (by decide)⟩
          · intro o k h
            simp (disch := omega) only [uF_e, uF_n]
end TX
