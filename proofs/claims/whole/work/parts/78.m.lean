/-! mathematics: what a parser has drafted; numbers, signs, targets, times -/
def XG (X X' : xR) : Prop := ∀ o k : Nat, ¬ (o = 2 ∧ 3 ≤ k ∧ k ≤ 6) → o ≠ 3 → X' o k = X o k
def XB (X X' : xR) : Prop := ∀ o k : Nat, o ≠ 2 → o ≠ 3 → o ≠ 4 → o ≠ 5 → X' o k = X o k
def MD (μ μ' : xR) : Prop := ∀ o k : Nat, ¬ (o = 0 ∧ 23 ≤ k ∧ k ≤ 35) → o ≠ 7 → ¬ (14 ≤ o ∧ o ≤ 17) → μ' o k = μ o k
def ED (μ μ' : xR) : Prop := MD μ μ' ∧ μ' 0 29 = μ 0 29 ∧ μ' 0 30 = μ 0 30
def ERR (X μ X' μ' : xR) : Prop := ∃ c : Int, (1 ≤ c ∧ c ≤ 4) ∧ X' 2 11 = c ∧ μ' 0 29 = c ∧ X' 2 12 = μ' 0 30 ∧ XB X X' ∧ MD μ μ'
section FR
variable {X X1 X2 X' μ μ1 μ2 μ' : xR}
theorem xf_r : XF X X := fun o k h => rfl
theorem xf_t (h : XF X X1) (h2 : XF X1 X2) : XF X X2 := fun o k a => (h2 o k a).trans (h o k a)
theorem mf_r : MF μ μ := fun o k h => rfl
theorem mf_t (h : MF μ μ1) (h2 : MF μ1 μ2) : MF μ μ2 := fun o k a => (h2 o k a).trans (h o k a)
theorem xf_g (h : XF X X1) : XG X X1 := fun o k a _ => h o k a
theorem xg_t (h : XG X X1) (h2 : XG X1 X2) : XG X X2 := fun o k a b => (h2 o k a b).trans (h o k a b)
theorem xg_b (h : XG X X1) : XB X X1 := fun o k a b _ _ => h o k (fun z => a z.1) b
theorem xf_b (h : XF X X1) : XB X X1 := xg_b (xf_g h)
theorem xb_t (h : XB X X1) (h2 : XB X1 X2) : XB X X2 := fun o k a b c d => (h2 o k a b c d).trans (h o k a b c d)
theorem mf_d (h : MF μ μ1) : MD μ μ1 := fun o k a b c => h o k (fun z => a ⟨z.1, z.2.1, by omega⟩)
theorem md_r : MD μ μ := fun o k _ _ _ => rfl
theorem md_t (h : MD μ μ1) (h2 : MD μ1 μ2) : MD μ μ2 := fun o k a b c => (h2 o k a b c).trans (h o k a b c)
theorem md_u (h : MD μ μ1) {o k : Nat} {z : Int} (ho : (o = 0 ∧ 23 ≤ k ∧ k ≤ 35) ∨ o = 7 ∨ (14 ≤ o ∧ o ≤ 17)) : MD μ (uF μ1 o k z) := fun o' k' a b c => by
  rw [uF_n (by omega)]
  exact h o' k' a b c
theorem ed_r : ED μ μ := ⟨md_r, rfl, rfl⟩
theorem ed_u (h : ED μ μ1) {o k : Nat} {z : Int} (ho : (o = 0 ∧ 23 ≤ k ∧ k ≤ 35) ∨ o = 7 ∨ (14 ≤ o ∧ o ≤ 17)) (h2 : ¬ (o = 0 ∧ (k = 29 ∨ k = 30))) : ED μ (uF μ1 o k z) := ⟨md_u h.1 ho, by rw [uF_n (by omega)]; exact h.2.1, by rw [uF_n (by omega)]; exact h.2.2⟩
theorem ed_t (h : ED μ μ1) (h2 : ED μ1 μ2) : ED μ μ2 := ⟨md_t h.1 h2.1, h2.2.1.trans h.2.1, h2.2.2.trans h.2.2⟩
theorem he_ed (h : ED μ μ1) (h2 : HE μ) : HE μ1 := by
  unfold HE
  rw [h.2.1]
  exact h2
theorem md_EM {c : Int} : MD μ (EM μ c) := md_u (md_u md_r (Or.inl (by omega))) (Or.inl (by omega))
theorem err_of {c : Int} (hc : 1 ≤ c ∧ c ≤ 4) (h1 : XB X X1) (h2 : MD μ μ1) (h3 : X1 2 4 = μ1 0 24) (h4 : ED (EM μ1 c) μ') : ERR X μ (FX X1 c) μ' := by
  refine ⟨c, hc, ?_, ?_, ?_, ?_, md_t h2 (md_t md_EM h4.1)⟩
  · unfold FX
    simp (disch := omega) only [uF_e, uF_n]
  · rw [h4.2.1]
    unfold EM
    simp (disch := omega) only [uF_e, uF_n]
  · rw [h4.2.2]
    unfold EM FX
    simp (disch := omega) only [uF_e, uF_n]
    exact h3
  · intro o k a b c d
    unfold FX
    simp (disch := omega) only [uF_e, uF_n]
    exact h1 o k a b c d
theorem err_ed (h : ERR X μ X' μ1) (h2 : ED μ1 μ') : ERR X μ X' μ' := by
  obtain ⟨c, h1, h3, h4, h5, h6, h7⟩ := h
  exact ⟨c, h1, h3, h2.2.1.trans h4, h5.trans h2.2.2.symm, h6, md_t h7 h2.1⟩
theorem err_he (h : ERR X μ X' μ') : HE μ' := by
  obtain ⟨c, h1, h3, h4, h5, h6, h7⟩ := h
  unfold HE
  rw [h4, wr_e (by omega)]
  omega
theorem err_tr (h1 : XB X X1) (h2 : MD μ μ1) (h : ERR X1 μ1 X' μ') : ERR X μ X' μ' := by
  obtain ⟨c, h0, h3, h4, h5, h6, h7⟩ := h
  exact ⟨c, h0, h3, h4, h5, xb_t h1 h6, md_t h2 h7⟩
end FR
/-! the drafts -/
def DRs (Y μ : xR) : Prop := Y 1 0 = μ 7 0 ∧ Y 1 4 = μ 7 1 ∧ Y 1 5 = μ 7 2 ∧ Y 1 1 = μ 0 33 ∧ Y 1 2 = μ 0 34 ∧ Y 1 3 = μ 0 35 ∧ (Y 1 1 = 8 ∨ Y 1 1 = 16 ∨ Y 1 1 = 32) ∧ (2 ≤ Y 1 2 ∧ Y 1 2 ≤ 20) ∧ (4 ≤ Y 1 3 ∧ Y 1 3 ≤ 40) ∧ (1 ≤ Y 1 0 ∧ Y 1 0 ≤ 6) ∧ (1 ≤ Y 1 4 ∧ Y 1 4 ≤ 8) ∧ (0 ≤ Y 1 5 ∧ Y 1 5 ≤ 30)
def DRo (X μ : xR) : Prop := ∃ m : Nat, m < 64 ∧ μ 0 32 = ((1024 * m : Nat) : Int) ∧ ∀ s : Nat, s < 6 → X 3 s = ((m / 2 ^ s % 2 : Nat) : Int)
def DRr (Y μ : xR) : Prop := Y 2 2 = μ 7 34 ∧ (0 ≤ Y 2 2 ∧ Y 2 2 ≤ 6) ∧ ∀ j : Nat, (j : Int) < Y 2 2 → μ 7 (35 + j) = 10 * Y 3 j + Y 4 j ∧ (0 ≤ Y 3 j ∧ Y 3 j ≤ 7) ∧ (0 ≤ Y 4 j ∧ Y 4 j ≤ 9)
def DRk (Y μ : xR) (k : Nat) : Prop := (0 ≤ Y 5 k ∧ Y 5 k ≤ 9) ∧ μ 14 k = Y 5 k ∧ (Y 6 k = 0 ∨ Y 6 k = 1) ∧ μ 15 k = Y 6 k ∧ (8 ≤ Y 5 k → Y 7 k = μ 16 k ∧ -(k : Int) ≤ Y 7 k ∧ Y 7 k ≤ 10) ∧ (Y 5 k = 9 → Y 8 k = μ 17 k ∧ 1 ≤ Y 8 k ∧ Y 8 k ≤ 99)
def DRi (Y μ : xR) : Prop := Y 0 10 = μ 0 31 ∧ (0 ≤ Y 0 10 ∧ Y 0 10 ≤ 60) ∧ ∀ k : Nat, (k : Int) < Y 0 10 → DRk Y μ k
def DRz (μ : xR) : Prop := ∀ k : Nat, 3 ≤ k → k < 363 → ¬ (34 ≤ k ∧ k ≤ 41) → μ 7 k = if k = 15 then -1 else 0
def DR (X Y μ : xR) : Prop := DRs Y μ ∧ DRo X μ ∧ DRr Y μ ∧ DRi Y μ ∧ DRz μ ∧ Y 9 0 = 0 ∧ μ 0 30 = -1
section DD
variable {X X' Y μ μ' : xR}
/-- what the drafts are made of is not moved -/
def MK (μ μ' : xR) : Prop := ∀ o k : Nat, ((o = 0 ∧ 30 ≤ k ∧ k ≤ 35) ∨ o = 7 ∨ (14 ≤ o ∧ o ≤ 17)) → μ' o k = μ o k
theorem mk_f (h : MF μ μ') : MK μ μ' := fun o k a => h o k (by omega)
theorem dr_k (hX : ∀ k, X' 3 k = X 3 k) (hM : MK μ μ') (h : DR X Y μ) : DR X' Y μ' := by
  obtain ⟨h1, h2, h3, h4, h5, h6⟩ := h
  have e7 : ∀ k, μ' 7 k = μ 7 k := fun k => hM 7 k (by omega)
  have e0 : ∀ k, 31 ≤ k → k ≤ 35 → μ' 0 k = μ 0 k := fun k a b => hM 0 k (by omega)
  have e14 : ∀ k, μ' 14 k = μ 14 k := fun k => hM 14 k (by omega)
  have e15 : ∀ k, μ' 15 k = μ 15 k := fun k => hM 15 k (by omega)
  have e16 : ∀ k, μ' 16 k = μ 16 k := fun k => hM 16 k (by omega)
  have e17 : ∀ k, μ' 17 k = μ 17 k := fun k => hM 17 k (by omega)
  refine ⟨?_, ?_, ?_, ?_, ?_, h6.1, by rw [hM 0 30 (by omega)]; exact h6.2⟩
  · unfold DRs at h1 ⊢
    rw [e7, e7, e7, e0 33 (by decide) (by decide), e0 34 (by decide) (by decide), e0 35 (by decide) (by decide)]
    exact h1
  · obtain ⟨m, a, b, c⟩ := h2
    exact ⟨m, a, by rw [e0 32 (by decide) (by decide)]; exact b, fun s hs => by rw [hX]; exact c s hs⟩
  · unfold DRr at h3 ⊢
    simp only [e7]
    exact h3
  · unfold DRi DRk at h4 ⊢
    simp only [e14, e15, e16, e17, e0 31 (by decide) (by decide)]
    exact h4
  · unfold DRz at h5 ⊢
    simp only [e7]
    exact h5
theorem xf_3 (h : XF X X') : ∀ k, X' 3 k = X 3 k := fun k => h 3 k (by omega)
end DD
section AV
variable {S T : xSt} {q : Nat} {n x p e t v p2 e2 t2 v2 : Int} {b : Nat → Int} {X Y μ : xR}
theorem mtk_u (h : MTK n b μ p e t v) {o k : Nat} {z : Int} (hk : ¬ (o = 0 ∧ 22 ≤ k ∧ k ≤ 28)) (h13 : o ≠ 13) : MTK n b (uF μ o k z) p e t v := by
  obtain ⟨⟨h0, h1⟩, h2, h3, h4, h5, h6, h7⟩ := h
  unfold MTK MB
  simp (disch := omega) only [uF_e, uF_n]
  exact ⟨⟨h0, h1⟩, h2, h3, h4, h5, h6, h7⟩
/-- the class stands ahead of the token that the reference has loaded -/
def SN (S T : xSt) (q : Nat) (n : Int) (b : Nat → Int) (X μ : xR) (x p e t v : Int) : Prop := CB n b X ∧ X 2 5 = x ∧ NXT S T q n b x p e t v ∧ MTK n b μ p e t v ∧ μ 0 29 = 0
theorem nx (hS : W2 q S) (hT : 10000000 ≤ fu T) (hn : BT n b) (ht : TOK n b p e t v) : ∃ p2 e2 t2 v2, NXT S T q n b e p2 e2 t2 v2 := t_next hS.1 hT hn (by have := ht.1; omega)
theorem av_c (h : CTK n b X p e t v) (hN : NXT S T q n b e p2 e2 t2 v2) (Y : xR) : ∃ X1, f_X3_readToken_p3_2 (cs S q X Y) 0 = some (cs S q X1 Y) ∧ CTK n b X1 p2 e2 t2 v2 ∧ XF X X1 := hN.2.2.1 X Y h.1 h.2.2.2.1
theorem av_m (h : MTK n b μ p e t v) (hc : μ 0 29 = 0) (hN : NXT S T q n b e p2 e2 t2 v2) : ∃ μ1, f_X12_goOn_p4_0 (sR T 13 μ) 13 = some (sR T 13 μ1) ∧ MTK n b μ1 p2 e2 t2 v2 ∧ MF μ μ1 ∧ μ1 0 29 = 0 := by
  obtain ⟨μ1, h1, h2, h3⟩ := hN.2.2.2 μ h.1 h.2.2.1
  refine ⟨μ1, ?_, h2, h3, by rw [h3 0 29 (by omega)]; exact hc⟩
  rw [m_on hc, h1, bd_e]
theorem sn_c (h : SN S T q n b X μ x p e t v) (Y : xR) : ∃ X1, f_X3_readToken_p3_2 (cs S q X Y) 0 = some (cs S q X1 Y) ∧ CTK n b X1 p e t v ∧ XF X X1 := h.2.2.1.2.2.1 X Y h.1 h.2.1
theorem sn_of (h : CTK n b X p e t v) (hN : NXT S T q n b e p2 e2 t2 v2) (hM : MTK n b μ p2 e2 t2 v2) (hc : μ 0 29 = 0) : SN S T q n b X μ e p2 e2 t2 v2 := ⟨h.1, h.2.2.2.1, hN, hM, hc⟩
theorem ck_4 (h : CTK n b X p e t v) (hM : MTK n b μ p e t v) : X 2 4 = μ 0 24 := by rw [h.2.2.1, hM.2.1]
theorem m_number (hM : MTK n b μ p e t v) (ht : TOK n b p e t v) (hc : μ 0 29 = 0) {lo hi : Int} (hl : -1000 ≤ lo ∧ hi ≤ 1000 ∧ lo ≤ 1000 ∧ -1000 ≤ hi) : f_X12_number_p4_0 (sR T 13 μ) 13 lo hi = (if t = 2 then (if lo ≤ v ∧ v ≤ hi then (bd (f_X12_goOn_p4_0 (sR T 13 μ) 13) fun S16 => some (v, S16)) else some (v, sR T 13 (EM μ 2))) else some (μ 0 27, sR T 13 (EM μ 1))) := by
  have h2 := m_tn hM ht
  unfold f_X12_number_p4_0
  rw [sR_g]
  by_cases c : t = 2
  · have hv := ht.2.2.2.1 c
    have h27 := hM.2.2.2.2.2.1 c
    rw [if_neg (fun h => h (h2.mpr c)), if_pos c]
    unfold f_X12_number_p4_0_b14
    rw [m_yes, bd_e, m_fine hc, bd2_e, if_neg (by decide), sR_g, h27, wr_e (z := v) (by omega), wr_e (z := lo) (by omega), wr_e (z := hi) (by omega), p_isIn (by omega) (by omega) (by omega), bd2_e]
    by_cases c2 : lo ≤ v ∧ v ≤ hi
    · rw [if_pos c2, if_pos c2, m_yes, bd_e, sR_g, h27]
    · have hE : HE (EM μ 2) := he_EM (by decide)
      rw [if_neg c2, if_neg c2, m_no hc, bd_e, e_on hE, bd_e, sR_g]
      unfold EM
      rw [uF_n (by omega), uF_n (by omega), h27]
  · have hE : HE (EM μ 1) := he_EM (by decide)
    rw [if_pos (fun h => c (h2.mp h)), if_neg c]
    unfold f_X12_number_p4_0_b14
    rw [m_no hc, bd_e, e_fine hE, bd2_e, if_pos (by decide), e_on hE, bd_e, sR_g]
    unfold EM
    rw [uF_n (by omega), uF_n (by omega)]
/-- numbers -/
theorem k_num (hS : W2 q S) (hT : 10000000 ≤ fu T) (hn : BT n b) (h : SN S T q n b X μ x p e t v) {lo hi : Int} (hl : -1000 ≤ lo ∧ hi ≤ 1000 ∧ lo ≤ 1000 ∧ -1000 ≤ hi) (Y : xR) : (∃ X1 μ1 p2 e2 t2 v2, (lo ≤ v ∧ v ≤ hi ∧ 0 ≤ v ∧ v ≤ 99) ∧ f_X3_readNumber_p3_2 (cs S q X Y) 0 lo hi = some (v, cs S q X1 Y) ∧ f_X12_number_p4_0 (sR T 13 μ) 13 lo hi = some (v, sR T 13 μ1) ∧ SN S T q n b X1 μ1 e p2 e2 t2 v2 ∧ XF X X1 ∧ MF μ μ1 ∧ x ≤ e) ∨ (∃ X' z μ', f_X3_readNumber_p3_2 (cs S q X Y) 0 lo hi = some (-1, cs S q X' Y) ∧ f_X12_number_p4_0 (sR T 13 μ) 13 lo hi = some (z, sR T 13 μ') ∧ ERR X μ X' μ') := by
  obtain ⟨h1, h2, h3, h4, h5⟩ := id h
  have ht := h3.1
  obtain ⟨X1, r1, r2, r3⟩ := sn_c h Y
  have hN := m_number (T := T) h4 ht h5 hl
  have h24 := ck_4 r2 h4
  by_cases c : t = 2
  · have hv := ht.2.2.2.1 c
    have e6 := r2.2.2.2.2 c
    rw [if_pos c] at hN
    by_cases c2 : lo ≤ v ∧ v ≤ hi
    · left
      obtain ⟨p2, e2, t2, v2, n1⟩ := nx hS hT hn ht
      obtain ⟨μ1, g1, g2, g3, g4⟩ := av_m h4 h5 n1
      refine ⟨X1, μ1, p2, e2, t2, v2, by omega, ?_, ?_, sn_of r2 n1 g2 g4, r3, g3, by have := h3.2.1; have := ht.1; omega⟩
      · unfold f_X3_readNumber_p3_2
        rw [r1, bd_e, cs_x, r2.2.1, c, if_pos rfl, cs_x, e6, wr_e (z := v) (by omega), wr_e (z := lo) (by omega), wr_e (z := hi) (by omega), if_neg (by omega), if_pos (by omega)]
      · rw [hN, if_pos c2, g1, bd_e]
    · right
      rw [if_neg c2] at hN
      refine ⟨FX X1 2, v, EM μ 2, ?_, hN, err_of (by decide) (xf_b r3) md_r h24 ed_r⟩
      unfold f_X3_readNumber_p3_2
      rw [r1, bd_e, cs_x, r2.2.1, c, if_pos rfl, cs_x, e6, wr_e (z := v) (by omega), wr_e (z := lo) (by omega), wr_e (z := hi) (by omega), c_fail, bd2_e]
      by_cases c3 : v < lo
      · rw [if_pos c3]
      · rw [if_neg c3, if_neg (by omega)]
  · right
    rw [if_neg c] at hN
    refine ⟨FX X1 1, _, EM μ 1, ?_, hN, err_of (by decide) (xf_b r3) md_r h24 ed_r⟩
    have htt := ht.2.1
    unfold f_X3_readNumber_p3_2
    rw [r1, bd_e, cs_x, r2.2.1, wr_e (z := t) (by omega), wr_e (z := 2) (by decide), if_neg c, c_fail, bd2_e]
/-- signs -/
theorem k_sign (hS : W2 q S) (hT : 10000000 ≤ fu T) (hn : BT n b) (h : SN S T q n b X μ x p e t v) {s : Int} (hs : s = 59 ∨ s = 40 ∨ s = 41) (Y : xR) : (∃ X1 μ1 p2 e2 t2 v2, f_X3_readSign_p3_2 (cs S q X Y) 0 s = some (1, cs S q X1 Y) ∧ f_X12_needsSign_p4_0 (sR T 13 μ) 13 s = some (sR T 13 μ1) ∧ SN S T q n b X1 μ1 e p2 e2 t2 v2 ∧ XF X X1 ∧ MF μ μ1 ∧ x < e) ∨ (∃ X' μ', f_X3_readSign_p3_2 (cs S q X Y) 0 s = some (0, cs S q X' Y) ∧ f_X12_needsSign_p4_0 (sR T 13 μ) 13 s = some (sR T 13 μ') ∧ ERR X μ X' μ') := by
  obtain ⟨h1, h2, h3, h4, h5⟩ := id h
  have ht := h3.1
  have htt := ht.2.1
  obtain ⟨X1, r1, r2, r3⟩ := sn_c h Y
  have h24 := ck_4 r2 h4
  have hg := m_sign (T := T) h5 h4 ht hs
  by_cases c : t = s
  · left
    obtain ⟨p2, e2, t2, v2, n1⟩ := nx hS hT hn ht
    obtain ⟨μ1, g1, g2, g3, g4⟩ := av_m h4 h5 n1
    refine ⟨X1, μ1, p2, e2, t2, v2, ?_, ?_, sn_of r2 n1 g2 g4, r3, g3, by have := h3.2.1; have := ht.2.2.2.2 (by omega); omega⟩
    · unfold f_X3_readSign_p3_2
      rw [r1, bd_e, cs_x, r2.2.1, c, if_pos rfl]
    · unfold f_X12_needsSign_p4_0
      rw [hg, bd2_e, if_pos c, m_yes, bd_e, g1, bd_e]
  · right
    refine ⟨FX X1 1, EM μ 1, ?_, ?_, err_of (by decide) (xf_b r3) md_r h24 ed_r⟩
    · unfold f_X3_readSign_p3_2
      rw [r1, bd_e, cs_x, r2.2.1, wr_e (z := t) (by omega), wr_e (z := s) (by omega), if_neg c, c_fail, bd2_e, if_pos (by decide)]
    · have hE : HE (EM μ 1) := he_EM (by decide)
      unfold f_X12_needsSign_p4_0
      rw [hg, bd2_e, if_neg c, m_no h5, bd_e, e_on hE, bd_e]
theorem e_tgt (h : HE μ) {k : Nat} (hk : k < 60) : ∃ μ', f_X12_readsTarget_p4_0 (sR T 13 μ) 13 (k : Int) = some (sR T 13 μ') ∧ ED μ μ' := by
  have ew : wr ((k : Nat) : Int) = (k : Int) := wr_e (by omega)
  refine ⟨uF μ 16 k (μ 0 27 + 1), ?_, ed_u ed_r (by omega) (by omega)⟩
  unfold f_X12_readsTarget_p4_0
  rw [e_word h, bd2_e, if_neg (by decide), e_word h, bd2_e, if_pos (by decide)]
  unfold f_X12_readsTarget_p4_0_b26
  rw [e_needs h, bd_e, e_on h, bd_e, if_pos (by decide), e_num h, bd2_e]
  unfold f_X12_readsTarget_p4_0_b65
  rw [if_pos (by decide), ckI_e (by omega), ew, Int.toNat_natCast, sR_w, lt1_e]
theorem e_tim (h : HE μ) {k : Nat} (hk : k < 60) : ∃ μ', f_X12_readsTimes_p4_0 (sR T 13 μ) 13 (k : Int) = some (sR T 13 μ') ∧ ED μ μ' := by
  have ew : wr ((k : Nat) : Int) = (k : Int) := wr_e (by omega)
  refine ⟨uF μ 17 k (μ 0 27), ?_, ed_u ed_r (by omega) (by omega)⟩
  unfold f_X12_readsTimes_p4_0
  rw [e_word h, bd2_e, e_needs h, bd_e, e_on h, bd_e, e_num h, bd2_e, ckI_e (by omega), ew, Int.toNat_natCast, sR_w, lt1_e]
/-- the turns of a branch -/
theorem k_tim (hS : W2 q S) (hT : 10000000 ≤ fu T) (hn : BT n b) (h : SN S T q n b X μ x p e t v) {k : Nat} (hk : k < 60) (Y : xR) : (∃ tm X1 μ1 x2 p2 e2 t2 v2, (1 ≤ tm ∧ tm ≤ 99) ∧ f_X3_readTimes_p3_2 (cs S q X Y) 0 = some (tm, cs S q X1 Y) ∧ f_X12_readsTimes_p4_0 (sR T 13 μ) 13 (k : Int) = some (sR T 13 (uF μ1 17 k tm)) ∧ SN S T q n b X1 μ1 x2 p2 e2 t2 v2 ∧ XF X X1 ∧ MF μ μ1 ∧ x ≤ x2) ∨ (∃ X' μ', f_X3_readTimes_p3_2 (cs S q X Y) 0 = some (-1, cs S q X' Y) ∧ f_X12_readsTimes_p4_0 (sR T 13 μ) 13 (k : Int) = some (sR T 13 μ') ∧ ERR X μ X' μ') := by
  have ew : wr ((k : Nat) : Int) = (k : Int) := wr_e (by omega)
  obtain ⟨h1, h2, h3, h4, h5⟩ := id h
  have ht := h3.1
  obtain ⟨X1, r1, r2, r3⟩ := sn_c h Y
  have h24 := ck_4 r2 h4
  have hg := m_isw (T := T) h5 h4 ht (w := 19) (by decide)
  have hq := c_tok (Y := Y) hS hn r2 ht (w := 19) (by decide)
  rw [show wtx 19 = 21 by decide, show ((19 : Nat) : Int) = 19 by decide] at hq
  have hx : x ≤ e := by have := h3.2.1; have := ht.1; omega
  by_cases c : t = 1 ∧ v = 19
  · obtain ⟨p2, e2, t2, v2, n1⟩ := nx hS hT hn ht
    obtain ⟨μ1, g1, g2, g3, g4⟩ := av_m h4 h5 n1
    rw [if_pos c] at hg hq
    rcases k_num hS hT hn (sn_of r2 n1 g2 g4) (lo := 1) (hi := 99) (by decide) Y with ⟨X3, μ3, p3, e3, t3, v3, a0, a1, a2, a3, a4, a5, a6⟩ | ⟨X3, z, μ3, a1, a2, a3⟩
    · left
      refine ⟨v2, X3, μ3, e2, p3, e3, t3, v3, by omega, ?_, ?_, a3, xf_t r3 a4, mf_t g3 a5, by omega⟩
      · unfold f_X3_readTimes_p3_2
        rw [r1, bd_e, hq, bd2_e, if_pos (by decide), a1, bd2_e]
      · unfold f_X12_readsTimes_p4_0
        rw [hg, bd2_e, m_yes, bd_e, g1, bd_e, a2, bd2_e, ckI_e (by omega), ew, Int.toNat_natCast, sR_w, lt1_e]
    · right
      refine ⟨X3, uF μ3 17 k z, ?_, ?_, err_ed (err_tr (xf_b r3) (mf_d g3) a3) (ed_u ed_r (by omega) (by omega))⟩
      · unfold f_X3_readTimes_p3_2
        rw [r1, bd_e, hq, bd2_e, if_pos (by decide), a1, bd2_e]
      · unfold f_X12_readsTimes_p4_0
        rw [hg, bd2_e, m_yes, bd_e, g1, bd_e, a2, bd2_e, ckI_e (by omega), ew, Int.toNat_natCast, sR_w, lt1_e]
  · right
    rw [if_neg c] at hg hq
    have hE : HE (EM μ 1) := he_EM (by decide)
    refine ⟨FX X1 1, uF (EM μ 1) 17 k (EM μ 1 0 27), ?_, ?_, err_of (by decide) (xf_b r3) md_r h24 (ed_u ed_r (by omega) (by omega))⟩
    · unfold f_X3_readTimes_p3_2
      rw [r1, bd_e, hq, bd2_e, if_neg (by decide), c_fail, bd2_e]
    · unfold f_X12_readsTimes_p4_0
      rw [hg, bd2_e, m_no h5, bd_e, e_on hE, bd_e, e_num hE, bd2_e, ckI_e (by omega), ew, Int.toNat_natCast, sR_w, lt1_e]
/-- where a jump or branch leads -/
theorem k_tgt (hS : W2 q S) (hT : 10000000 ≤ fu T) (hn : BT n b) (h : SN S T q n b X μ x p e t v) {k : Nat} (hk : k < 60) {Y : xR} (hY : Y 0 10 = (k : Int)) : (∃ st X1 μ1 x2 p2 e2 t2 v2, (st ≠ 0 ∧ -(k : Int) ≤ st ∧ st ≤ 10) ∧ f_X3_readTarget_p3_2 (cs S q X Y) 0 = some (st, cs S q X1 Y) ∧ f_X12_readsTarget_p4_0 (sR T 13 μ) 13 (k : Int) = some (sR T 13 (uF μ1 16 k st)) ∧ SN S T q n b X1 μ1 x2 p2 e2 t2 v2 ∧ XF X X1 ∧ MF μ μ1 ∧ x ≤ x2) ∨ (∃ X' μ', f_X3_readTarget_p3_2 (cs S q X Y) 0 = some (0, cs S q X' Y) ∧ f_X12_readsTarget_p4_0 (sR T 13 μ) 13 (k : Int) = some (sR T 13 μ') ∧ ERR X μ X' μ') := by
  have ew : wr ((k : Nat) : Int) = (k : Int) := wr_e (by omega)
  obtain ⟨h1, h2, h3, h4, h5⟩ := id h
  have ht := h3.1
  obtain ⟨X1, r1, r2, r3⟩ := sn_c h Y
  have h24 := ck_4 r2 h4
  have hg1 := m_isw (T := T) h5 h4 ht (w := 20) (by decide)
  have hg2 := m_isw (T := T) h5 h4 ht (w := 21) (by decide)
  have hq1 := c_tok (Y := Y) hS hn r2 ht (w := 20) (by decide)
  have hq2 := c_tok (Y := Y) hS hn r2 ht (w := 21) (by decide)
  rw [show wtx 20 = 19 by decide, show ((20 : Nat) : Int) = 20 by decide] at hq1
  rw [show wtx 21 = 20 by decide, show ((21 : Nat) : Int) = 21 by decide] at hq2
  have hx : x ≤ e := by have := h3.2.1; have := ht.1; omega
  by_cases c : t = 1 ∧ v = 20
  · obtain ⟨p2, e2, t2, v2, n1⟩ := nx hS hT hn ht
    obtain ⟨μ1, g1, g2, g3, g4⟩ := av_m h4 h5 n1
    rw [if_pos c] at hg1 hq1
    have hc : ∀ o : Option (Int × xSt), f_X3_readNumber_p3_2 (cs S q X1 Y) 0 1 (k : Int) = o → f_X3_readTarget_p3_2 (cs S q X Y) 0 = (bd2 o fun v23 S22 => if ¬ wr v23 = wr (-1) then some (-v23, S22) else some (0, S22)) := fun o ho => by
      unfold f_X3_readTarget_p3_2
      rw [r1, bd_e, hq1, bd2_e, if_neg (by decide), cs_p hS, cs_y hS, hY, ho]
    have hm : ∀ o : Option (Int × xSt), f_X12_number_p4_0 (sR T 13 μ1) 13 1 (k : Int) = o → f_X12_readsTarget_p4_0 (sR T 13 μ) 13 (k : Int) = (bd2 o fun v19 S18 => f_X12_readsTarget_p4_0_b65 13 S18 (k : Int) 1 v19) := fun o ho => by
      unfold f_X12_readsTarget_p4_0
      rw [hg1, bd2_e, if_pos (by decide)]
      unfold f_X12_readsTarget_p4_0_b21 f_X12_readsTarget_p4_0_b26
      rw [m_yes, bd_e, g1, bd_e, if_neg (by decide), ew, wr_e (z := 99) (by decide), if_neg (by omega)]
      unfold f_X12_readsTarget_p4_0_b52
      rw [ho]
    rcases k_num hS hT hn (sn_of r2 n1 g2 g4) (lo := 1) (hi := (k : Int)) (by omega) Y with ⟨X3, μ3, p3, e3, t3, v3, a0, a1, a2, a3, a4, a5, a6⟩ | ⟨X3, z, μ3, a1, a2, a3⟩
    · left
      refine ⟨-v2, X3, μ3, e2, p3, e3, t3, v3, by omega, ?_, ?_, a3, xf_t r3 a4, mf_t g3 a5, by omega⟩
      · rw [hc _ a1, bd2_e, wr_e (z := v2) (by omega), wr_e (z := -1) (by decide), if_pos (by omega)]
      · rw [hm _ a2, bd2_e]
        unfold f_X12_readsTarget_p4_0_b65
        rw [if_neg (by decide), ckI_e (by omega), ew, Int.toNat_natCast, sR_w, lt1_e]
    · right
      refine ⟨X3, uF μ3 16 k (-z), ?_, ?_, err_ed (err_tr (xf_b r3) (mf_d g3) a3) (ed_u ed_r (by omega) (by omega))⟩
      · rw [hc _ a1, bd2_e, if_neg (by decide)]
      · rw [hm _ a2, bd2_e]
        unfold f_X12_readsTarget_p4_0_b65
        rw [if_neg (by decide), ckI_e (by omega), ew, Int.toNat_natCast, sR_w, lt1_e]
  · rw [if_neg c] at hg1 hq1
    by_cases c2 : t = 1 ∧ v = 21
    · obtain ⟨p2, e2, t2, v2, n1⟩ := nx hS hT hn ht
      obtain ⟨μ1, g1, g2, g3, g4⟩ := av_m h4 h5 n1
      rw [if_pos c2] at hg2 hq2
      have hc : ∀ o : Option (Int × xSt), f_X3_readNumber_p3_2 (cs S q X1 Y) 0 0 9 = o → f_X3_readTarget_p3_2 (cs S q X Y) 0 = (bd2 o fun v17 S16 => if ¬ wr v17 = wr (-1) then some (v17 + 1, S16) else some (0, S16)) := fun o ho => by
        unfold f_X3_readTarget_p3_2
        rw [r1, bd_e, hq1, bd2_e, if_pos (by decide), hq2, bd2_e, if_neg (by decide), ho]
      have hm : ∀ o : Option (Int × xSt), f_X12_number_p4_0 (sR T 13 μ1) 13 0 9 = o → f_X12_readsTarget_p4_0 (sR T 13 μ) 13 (k : Int) = (bd2 o fun v19 S18 => f_X12_readsTarget_p4_0_b65 13 S18 (k : Int) 0 v19) := fun o ho => by
        unfold f_X12_readsTarget_p4_0
        rw [hg1, bd2_e, if_neg (by decide), hg2, bd2_e, if_neg (by decide)]
        unfold f_X12_readsTarget_p4_0_b21 f_X12_readsTarget_p4_0_b26
        rw [m_yes, bd_e, g1, bd_e, if_pos (by decide), ho]
      rcases k_num hS hT hn (sn_of r2 n1 g2 g4) (lo := 0) (hi := 9) (by decide) Y with ⟨X3, μ3, p3, e3, t3, v3, a0, a1, a2, a3, a4, a5, a6⟩ | ⟨X3, z, μ3, a1, a2, a3⟩
      · left
        refine ⟨v2 + 1, X3, μ3, e2, p3, e3, t3, v3, by omega, ?_, ?_, a3, xf_t r3 a4, mf_t g3 a5, by omega⟩
        · rw [hc _ a1, bd2_e, wr_e (z := v2) (by omega), wr_e (z := -1) (by decide), if_pos (by omega)]
        · rw [hm _ a2, bd2_e]
          unfold f_X12_readsTarget_p4_0_b65
          rw [if_pos (by decide), ckI_e (by omega), ew, Int.toNat_natCast, sR_w, lt1_e]
      · right
        refine ⟨X3, uF μ3 16 k (z + 1), ?_, ?_, err_ed (err_tr (xf_b r3) (mf_d g3) a3) (ed_u ed_r (by omega) (by omega))⟩
        · rw [hc _ a1, bd2_e, if_neg (by decide)]
        · rw [hm _ a2, bd2_e]
          unfold f_X12_readsTarget_p4_0_b65
          rw [if_pos (by decide), ckI_e (by omega), ew, Int.toNat_natCast, sR_w, lt1_e]
    · right
      rw [if_neg c2] at hg2 hq2
      have hE : HE (EM μ 1) := he_EM (by decide)
      refine ⟨FX X1 1, uF (EM μ 1) 16 k (EM μ 1 0 27 + 1), ?_, ?_, err_of (by decide) (xf_b r3) md_r h24 (ed_u ed_r (by omega) (by omega))⟩
      · unfold f_X3_readTarget_p3_2
        rw [r1, bd_e, hq1, bd2_e, if_pos (by decide), hq2, bd2_e, if_pos (by decide), c_fail, bd2_e]
      · unfold f_X12_readsTarget_p4_0
        rw [hg1, bd2_e, if_neg (by decide), hg2, bd2_e, if_pos (by decide)]
        unfold f_X12_readsTarget_p4_0_b26
        rw [m_no h5, bd_e, e_on hE, bd_e, if_pos (by decide), e_num hE, bd2_e]
        unfold f_X12_readsTarget_p4_0_b65
        rw [if_pos (by decide), ckI_e (by omega), ew, Int.toNat_natCast, sR_w, lt1_e]
end AV
