/-! mathematics: repeats; a text -/
def gB (q f : Nat) (Sc : xSt) (x4 : Int) : Option (Int × xSt) := f_X3_readText_p3_2_3_1_2_0_b10 0 0 q f Sc x4
def gG (q f : Nat) (Sc : xSt) (x4 : Int) : Option (Int × xSt) := f_X3_readText_p3_2_3_1_2_0_b46 (f_X3_readText_p3_2_3_1_2_0_b10 0 0 q f) 0 0 q Sc x4
/-- but for tokens, settings seen and repeats from depth x on, the parser is not moved -/
def XL (x : Nat) (X X' : xR) : Prop := ∀ o k : Nat, ¬ (o = 2 ∧ 3 ≤ k ∧ k ≤ 6) → o ≠ 3 → ¬ ((o = 4 ∨ o = 5) ∧ x ≤ k) → X' o k = X o k
def STO (S T : xSt) (q : Nat) (n : Int) (b : Nat → Int) (fm : Option xSt) (x : Nat) (X Y μ : xR) (p : Int) : Prop := (∃ (k : Nat) (X' Y' μ' : xR) (xx p' e' t' v' : Int), (∀ (f : Nat) (x4 : Int), 0 ≤ x4 → x4 ≤ p → gG q (f + k) (cs S q X Y) x4 = gB q f (cs S q X' Y') (x4 + k + 1)) ∧ fm = some (sR T 13 μ') ∧ SN S T q n b X' μ' xx p' e' t' v' ∧ DR X' Y' μ' ∧ XL x X X' ∧ MD μ μ' ∧ Y 0 10 ≤ Y' 0 10 ∧ p + k + 1 ≤ xx) ∨ (∃ (k : Nat) (X' Y' μ' : xR), (∀ (f : Nat) (x4 : Int), 0 ≤ x4 → x4 ≤ p → gG q (f + k) (cs S q X Y) x4 = some (0, cs S q X' Y')) ∧ fm = some (sR T 13 μ') ∧ ERR X μ X' μ' ∧ p + k ≤ n)
def STM (S T : xSt) (q : Nat) (n : Int) (b : Nat → Int) (d x : Nat) : Prop := ∀ (X Y μ : xR) (p e t v : Int), CTK n b X p e t v → MTK n b μ p e t v → TOK n b p e t v → μ 0 29 = 0 → DR X Y μ → X 2 10 = (x : Int) → ¬ (t = 41 ∧ 0 < x) → STO S T q n b (f_X12_statement_p4_0 d (sR T 13 μ) 13 (x : Int)) x X Y μ p
section RP
variable {S T : xSt} {q s s0 m w sz a d : Nat} {n xx p e t v : Int} {b : Nat → Int} {X X1 X2 X' Y Y0 Y' μ μ0 μ1 μ2 μ' : xR} {fm : Option xSt}
theorem xg_l (h : XG X X1) {x : Nat} : XL x X X1 := fun o k a b _ => h o k a b
theorem xl_t {x : Nat} (h : XL x X X1) (h2 : XL x X1 X2) : XL x X X2 := fun o k a b c => (h2 o k a b c).trans (h o k a b c)
theorem xl_b {x : Nat} (h : XL x X X1) : XB X X1 := fun o k a b c d => h o k (fun z => a z.1) b (fun z => by omega)
theorem gG_y {f : Nat} {Sc S' : xSt} {x4 : Int} (h : f_X3_readStatement_p3_2 Sc 0 = some (1, S')) : gG q f Sc x4 = gB q f S' (x4 + 1) := by
  unfold gG gB f_X3_readText_p3_2_3_1_2_0_b46
  rw [h, bd2_e, if_pos (by decide)]
theorem gG_n {f : Nat} {Sc S' : xSt} {x4 : Int} (h : f_X3_readStatement_p3_2 Sc 0 = some (0, S')) : gG q f Sc x4 = some (0, S') := by
  unfold gG f_X3_readText_p3_2_3_1_2_0_b46
  rw [h, bd2_e, if_neg (by decide)]
theorem sto_out {x : Nat} (hp : p ≤ n) (h : OUT S T q n b (f_X3_readStatement_p3_2 (cs S q X Y) 0) fm X Y μ p) : STO S T q n b fm x X Y μ p := by
  rcases h with ⟨X', Y', μ', x', p', e', t', v', a1, a2, a3, a4, a5, a6, a7, a8⟩ | ⟨X', Y', μ', a1, a2, a3⟩
  · left
    refine ⟨0, X', Y', μ', x', p', e', t', v', fun f x4 _ _ => ?_, a2, a3, a4, xg_l a5, a6, a7, by omega⟩
    rw [gG_y a1, show x4 + ((0 : Nat) : Int) + 1 = x4 + 1 by omega]
    rfl
  · right
    exact ⟨0, X', Y', μ', fun f x4 _ _ => gG_n a1, a2, a3, by omega⟩
theorem gB_s (hn : BT n b) (h : SN S T q n b X μ xx p e t v) (hd : t ≠ 0 ∨ X 2 10 ≠ 0) (hx : 0 ≤ X 2 10 ∧ X 2 10 ≤ 2) (Y : xR) : ∃ X1, CTK n b X1 p e t v ∧ XF X X1 ∧ ∀ (f : Nat) (x4 : Int), 0 ≤ x4 → x4 ≤ xx → gB q (f + 1) (cs S q X Y) x4 = gG q f (cs S q X1 Y) x4 := by
  obtain ⟨X1, r1, r2, r3⟩ := sn_c h Y
  have htt := h.2.2.1.1
  have hxp := h.2.2.1.2.1
  have hn0 := hn.1
  refine ⟨X1, r2, r3, fun f x4 h0 h1 => ?_⟩
  have t1 := htt.1
  have t2 := htt.2.1
  have e10 : X1 2 10 = X 2 10 := r3 2 10 (by omega)
  unfold gB gG
  rw [f_X3_readText_p3_2_3_1_2_0_b10, cs_x, h.1.1, wr_e (z := n) (by omega), wr_e (z := x4) (by omega), if_neg (by omega), r1, bd_e, cs_x, r2.2.1, wr_e (z := t) (by omega), cs_x, e10, wr_e (z := X 2 10) (by omega)]
  by_cases c : t = 0
  · rw [if_neg (fun h => h c), if_pos (by omega)]
  · rw [if_pos c]
theorem gB_e (hS : W2 q S) (hn : BT n b) (h : SN S T q n b X μ xx p e t v) (hd : t = 0) (hx : X 2 10 = 0) (Y : xR) : ∃ X1, CTK n b X1 p e t v ∧ XF X X1 ∧ ∀ (f : Nat) (x4 : Int), 0 ≤ x4 → x4 ≤ xx → gB q (f + 1) (cs S q X Y) x4 = (bd (f_X5_link_p2_0 (cs S q X1 Y) q) fun S16 => some (1, S16)) := by
  obtain ⟨X1, r1, r2, r3⟩ := sn_c h Y
  have htt := h.2.2.1.1
  have hxp := h.2.2.1.2.1
  have hn0 := hn.1
  refine ⟨X1, r2, r3, fun f x4 h0 h1 => ?_⟩
  have t1 := htt.1
  have e10 : X1 2 10 = X 2 10 := r3 2 10 (by omega)
  unfold gB
  rw [f_X3_readText_p3_2_3_1_2_0_b10, cs_x, h.1.1, wr_e (z := n) (by omega), wr_e (z := x4) (by omega), if_neg (by omega), r1, bd_e, cs_x, r2.2.1, hd, if_neg (by decide), cs_x, e10, hx, if_neg (by decide), cs_p hS]
theorem e_b38 (h : HE μ) (cst : xSt → Nat → Int → Option xSt) {x1 x2 x3 : Int} {f : Nat} : f_X12_readsRepeat_p4_0_b38 cst 13 (f + 1) (sR T 13 μ) x1 x2 x3 = some (sR T 13 μ) := by
  have k : ∀ a, f_X12_readsRepeat_p4_0_b89 cst 13 (sR T 13 μ) x2 x3 ((gI (sR T 13 μ) 13 0 31) - x3) a = some (sR T 13 μ) := fun a => by
    unfold f_X12_readsRepeat_p4_0_b89
    rw [e_needs h, bd_e, e_fine h, bd2_e, if_neg (by decide)]
  rw [f_X12_readsRepeat_p4_0_b38, e_fine h, bd2_e, if_pos (by decide)]
  unfold f_X12_readsRepeat_p4_0_b64
  split <;> exact k _
theorem sn_X (h : SN S T q n b X μ xx p e t v) (h1 : ∀ k, X' 1 k = X 1 k) (h2 : X' 2 1 = X 2 1) (h3 : X' 2 5 = X 2 5) : SN S T q n b X' μ xx p e t v := by
  obtain ⟨⟨a1, a2⟩, a3, a4⟩ := h
  exact ⟨⟨by rw [h2]; exact a1, fun k hk => by rw [h1]; exact a2 k hk⟩, by rw [h3]; exact a3, a4⟩
theorem k_lop {x : Nat} (hn : BT n b) (hSt : STM S T q n b d (x + 1)) (hx : x ≤ 1) {x2 sz : Int} : ∀ (g : Nat) (X Y μ : xR) (xx p e t v : Int) (fm : Nat), SN S T q n b X μ xx p e t v → DR X Y μ → X 2 10 = ((x + 1 : Nat) : Int) → n - p < (g : Int) → g + 1 < fm → (∃ (k : Nat) (X' Y' μ' : xR) (p' e' v' : Int), (∀ (f : Nat) (x4 : Int), 0 ≤ x4 → x4 ≤ xx → gB q (f + k + 1) (cs S q X Y) x4 = gG q f (cs S q X' Y') (x4 + k)) ∧ CTK n b X' p' e' 41 v' ∧ MTK n b μ' p' e' 41 v' ∧ TOK n b p' e' 41 v' ∧ μ' 0 29 = 0 ∧ f_X12_readsRepeat_p4_0_b38 (f_X12_statement_p4_0 d) 13 fm (sR T 13 μ) (x : Int) x2 sz = f_X12_readsRepeat_p4_0_b64 (f_X12_statement_p4_0 d) 13 (sR T 13 μ') x2 sz ∧ DR X' Y' μ' ∧ XL (x + 1) X X' ∧ MD μ μ' ∧ Y 0 10 ≤ Y' 0 10 ∧ xx + k ≤ p') ∨ (∃ (k : Nat) (X' Y' μ' : xR), (∀ (f : Nat) (x4 : Int), 0 ≤ x4 → x4 ≤ xx → gB q (f + k + 1) (cs S q X Y) x4 = some (0, cs S q X' Y')) ∧ f_X12_readsRepeat_p4_0_b38 (f_X12_statement_p4_0 d) 13 fm (sR T 13 μ) (x : Int) x2 sz = some (sR T 13 μ') ∧ ERR X μ X' μ' ∧ xx + k ≤ n) := by
  intro g
  induction g with
  | zero =>
    intro X Y μ xx p e t v fm hSN hD h10 hg hfm
    have := hSN.2.2.1.1.1
    exact absurd hg (by omega)
  | succ g ih =>
    intro X Y μ xx p e t v fm hSN hD h10 hg hfm
    have ht := hSN.2.2.1.1
    have hM := hSN.2.2.2.1
    have hc := hSN.2.2.2.2
    have hxp := hSN.2.2.1.2.1
    obtain ⟨X1, c1, c2, c3⟩ := gB_s hn hSN (Or.inr (by omega)) (by omega) Y
    obtain ⟨fm, rfl⟩ := fs_e (show 0 < fm by omega)
    have hmod : f_X12_readsRepeat_p4_0_b38 (f_X12_statement_p4_0 d) 13 (fm + 1) (sR T 13 μ) (x : Int) x2 sz = (if t = 41 then f_X12_readsRepeat_p4_0_b64 (f_X12_statement_p4_0 d) 13 (sR T 13 μ) x2 sz else bd (f_X12_statement_p4_0 d (sR T 13 μ) 13 ((x + 1 : Nat) : Int)) fun S43 => f_X12_readsRepeat_p4_0_b38 (f_X12_statement_p4_0 d) 13 fm S43 (x : Int) x2 sz) := by
      rw [f_X12_readsRepeat_p4_0_b38, m_fine hc, bd2_e, if_neg (by decide), m_sign hc hM ht (Or.inr (Or.inr rfl)), bd2_e]
      by_cases c : t = 41
      · rw [if_pos c, if_pos (by decide), if_pos c]
      · rw [if_neg c, if_neg (by decide), if_neg c]
        rfl
    by_cases c : t = 41
    · left
      rw [if_pos c] at hmod
      subst c
      refine ⟨0, X1, Y, μ, p, e, v, fun f x4 a1 a2 => ?_, c1, hM, ht, hc, hmod, dr_k (xf_3 c2) (fun _ _ _ => rfl) hD, xg_l (xf_g c2), md_r, Int.le_refl _, by omega⟩
      rw [show x4 + ((0 : Nat) : Int) = x4 by omega]
      exact c3 f x4 a1 a2
    · rw [if_neg c] at hmod
      have e10 : X1 2 10 = ((x + 1 : Nat) : Int) := by rw [c2 2 10 (by omega), h10]
      rcases hSt X1 Y μ p e t v c1 hM ht hc (dr_k (xf_3 c2) (fun _ _ _ => rfl) hD) e10 (fun h => c h.1) with ⟨k, X2, Y2, μ2, y2, p2, e2, t2, v2, a1, a2, a3, a4, a5, a6, a7, a8⟩ | ⟨k, X2, Y2, μ2, a1, a2, a3, a9⟩
      · have hp2 := a3.2.2.1.2.1
        have e10b : X2 2 10 = ((x + 1 : Nat) : Int) := by rw [a5 2 10 (by omega) (by omega) (by omega), e10]
        rw [a2, bd_e] at hmod
        rcases ih X2 Y2 μ2 y2 p2 e2 t2 v2 fm a3 a4 e10b (by omega) (by omega) with ⟨k2, X3, Y3, μ3, p3, e3, v3, b1, b2, b3, b4, b5, b6, b7, b8, b9, b10, b11⟩ | ⟨k2, X3, Y3, μ3, b1, b2, b3, b9⟩
        · left
          refine ⟨k + 1 + k2, X3, Y3, μ3, p3, e3, v3, fun f x4 h1 h2 => ?_, b2, b3, b4, b5, hmod.trans b6, b7, xl_t (xg_l (xf_g c2)) (xl_t a5 b8), md_t a6 b9, Int.le_trans a7 b10, by omega⟩
          rw [c3 _ x4 h1 h2, show f + (k + 1 + k2) = f + k2 + 1 + k by omega, a1 _ x4 h1 (by omega), b1 f _ (by omega) (by omega), show x4 + (k : Int) + 1 + (k2 : Int) = x4 + ((k + 1 + k2 : Nat) : Int) by omega]
        · right
          refine ⟨k + 1 + k2, X3, Y3, μ3, fun f x4 h1 h2 => ?_, hmod.trans b2, err_tr (xb_t (xf_b c2) (xl_b a5)) a6 b3, by omega⟩
          rw [c3 _ x4 h1 h2, show f + (k + 1 + k2) = f + k2 + 1 + k by omega, a1 _ x4 h1 (by omega), b1 f _ (by omega) (by omega)]
      · right
        rw [a2, bd_e] at hmod
        obtain ⟨fm, rfl⟩ := fs_e (show 0 < fm by omega)
        rw [e_b38 (err_he a3)] at hmod
        refine ⟨k, X2, Y2, μ2, fun f x4 h1 h2 => ?_, hmod, err_tr (xf_b c2) md_r a3, by omega⟩
        rw [c3 _ x4 h1 h2, a1 _ x4 h1 (by omega)]
theorem mtk_c (h : MTK n b μ p e t v) (h0 : ∀ k, 22 ≤ k → k ≤ 28 → μ' 0 k = μ 0 k) (h13 : ∀ k, μ' 13 k = μ 13 k) : MTK n b μ' p e t v := by
  obtain ⟨⟨a0, a1⟩, a2, a3, a4, a5, a6, a7⟩ := h
  unfold MTK MB
  rw [h0 22 (by omega) (by omega), h0 23 (by omega) (by omega), h0 24 (by omega) (by omega), h0 25 (by omega) (by omega), h0 26 (by omega) (by omega), h0 27 (by omega) (by omega), h0 28 (by omega) (by omega)]
  simp only [h13]
  exact ⟨⟨a0, a1⟩, a2, a3, a4, a5, a6, a7⟩
theorem ctk_u (h : CTK n b X p e t v) {o k : Nat} {z : Int} (hk : ¬ (o = 2 ∧ (k = 1 ∨ (3 ≤ k ∧ k ≤ 6)))) (h1 : o ≠ 1) : CTK n b (uF X o k z) p e t v := by
  obtain ⟨⟨a0, a1⟩, a2, a3, a4, a5⟩ := h
  unfold CTK CB
  simp (disch := omega) only [uF_e, uF_n]
  exact ⟨⟨a0, a1⟩, a2, a3, a4, a5⟩
theorem iMn {z : Int} (h : 0 ≤ z ∧ z ≤ 2) : iMin z 2 = z := by
  unfold iMin
  rw [wr_e (z := 2) (by decide), wr_e (z := z) (by omega), if_neg (by omega)]
def XC (X X' : xR) : Prop := ∀ o k : Nat, ¬ (o = 2 ∧ 3 ≤ k ∧ k ≤ 6) → ¬ (o = 2 ∧ k = 10) → X' o k = X o k
def PRD (a b c : Nat) : Prop := a * b = c
theorem prd_e {a b c : Nat} (h : PRD a b c) : a * b = c := h
theorem prd_0 {a b c : Nat} (h : PRD a b c) (h0 : a = 0) : c = 0 := by
  have k := prd_e h
  rw [h0, Nat.zero_mul] at k
  exact k.symm
theorem prd_1 {w cc M sz s0 : Nat} {v2 : Int} (h : PRD w cc M) (hcc : v2 = (cc : Int) + 1) (hw : s0 = sz + w) : HD (sz : Int) (w : Int) v2 (s0 + M) := by
  unfold HD
  rw [hcc, ← prd_e h, hw, Int.mul_add, Int.mul_one, Int.natCast_add, Int.natCast_add, Int.natCast_mul, Int.add_assoc, Int.add_comm (w : Int) ((w : Int) * (cc : Int))]
theorem prd_2 {w cc M s0 : Nat} (h : PRD w cc M) : HD (s0 : Int) (w : Int) (cc : Int) (s0 + M) := by
  unfold HD
  rw [← prd_e h, Int.natCast_add, Int.natCast_mul]
theorem k_close (cst : xSt → Nat → Int → Option xSt) {x : Nat} {v2 : Int} (hS : W2 q S) (hT : 10000000 ≤ fu T) (hn : BT n b) (hx : x ≤ 1) (hX : CTK n b X p e 41 v) (hM : MTK n b μ p e 41 v) (ht : TOK n b p e 41 v) (hc : μ 0 29 = 0) (hD : DR X Y μ) (h10 : X 2 10 = (x : Int) + 1) (h4 : X 4 x = (sz : Int)) (h5 : X 5 x = v2 - 1) (hv2 : 1 ≤ v2 ∧ v2 ≤ 9) (hsz : (sz : Int) ≤ Y 0 10) : (∃ (X' Y' μ' : xR) (x' p' e' t' v' : Int), f_X3_readStatement_p3_2 (cs S q X Y) 0 = some (1, cs S q X' Y') ∧ (bd (f_X12_readsRepeat_p4_0_b64 cst 13 (sR T 13 μ) v2 (sz : Int)) fun S43 => bd (f_X12_needsSign_p4_0 S43 13 59) fun S45 => some S45) = some (sR T 13 μ') ∧ SN S T q n b X' μ' x' p' e' t' v' ∧ DR X' Y' μ' ∧ X' 2 10 = (x : Int) ∧ XC X X' ∧ MD μ μ' ∧ Y 0 10 ≤ Y' 0 10 ∧ p < x') ∨ (∃ (X' Y' μ' : xR), f_X3_readStatement_p3_2 (cs S q X Y) 0 = some (0, cs S q X' Y') ∧ (bd (f_X12_readsRepeat_p4_0_b64 cst 13 (sR T 13 μ) v2 (sz : Int)) fun S43 => bd (f_X12_needsSign_p4_0 S43 13 59) fun S45 => some S45) = some (sR T 13 μ') ∧ ERR X μ X' μ') := by
  have hpe := ht.2.2.2.2 (by decide)
  obtain ⟨s0, hs0⟩ : ∃ s0 : Nat, Y 0 10 = (s0 : Int) := ⟨(Y 0 10).toNat, by have := hD.2.2.2.1.2.1; omega⟩
  have h60 := hD.2.2.2.1.2.1
  obtain ⟨w, hw⟩ : ∃ w : Nat, s0 = sz + w := ⟨s0 - sz, by omega⟩
  obtain ⟨cc, hcc⟩ : ∃ cc : Nat, v2 = (cc : Int) + 1 := ⟨(v2 - 1).toNat, by omega⟩
  obtain ⟨M, hMw⟩ : ∃ M : Nat, PRD w cc M := ⟨w * cc, rfl⟩
  have hmul : M ≤ 480 := by
    have k : w * cc ≤ 60 * 8 := Nat.mul_le_mul (by omega) (by omega)
    rw [prd_e hMw] at k
    exact k
  have h31 : μ 0 31 = (s0 : Int) := by rw [← hD.2.2.2.1.1, hs0]
  have hw1 : (s0 : Int) - (sz : Int) = (w : Int) := by omega
  have hv1 : v2 - 1 = (cc : Int) := by omega
  have hend : HD (sz : Int) (w : Int) v2 (s0 + M) := prd_1 hMw hcc hw
  have hy5 : HD (s0 : Int) (w : Int) (cc : Int) (s0 + M) := prd_2 hMw
  have hcl0 : f_X3_readStatement_p3_2 (cs S q X Y) 0 = (bd2 (f_X3_closeRepeat_p3_2 (cs S q X Y) 0) fun v51 S50 => if wr v51 = 0 then some (0, S50) else bd2 (f_X3_readSign_p3_2 S50 0 59) fun v55 S54 => if wr v55 = 0 then some (0, S54) else some (1, S54)) := by
    unfold f_X3_readStatement_p3_2
    rw [cs_x, hX.2.1, if_neg (fun h => h rfl), cs_x, h10, wr_e (z := (x : Int) + 1) (by omega), if_neg (by omega)]
  have hcl1 : f_X3_closeRepeat_p3_2 (cs S q X Y) 0 = (if ((s0 + M : Nat) : Int) ≤ 60 then (bd (f_X5_repeatFrom_p2_0 (cs S q X Y) q (sz : Int) (cc : Int)) fun S10 => lt1 (wI S10 0 2 10 ((gI S10 0 2 10) - 1)) fun S11 => some (1, S11)) else some (0, cs S q (FX X 4) Y)) := by
    unfold f_X3_closeRepeat_p3_2
    rw [cs_x, h10, iMn (by omega), Int.add_sub_cancel, wr_e (z := (x : Int)) (by omega), if_pos (by omega), cs_p hS, ckI_e (by omega), cs_p hS, ckI_e (by omega), Int.toNat_natCast, cs_x, h4, cs_x, h5, cs_y hS, hs0, hw1, lt1_e, hv1, hd_e hy5, wr_e (z := ((s0 + M : Nat) : Int)) (by omega), wr_e (z := 60) (by decide), cs_p hS, ckI_e (by omega), ckI_e (by omega), c_fail, bd2_e]
  have hm0 : f_X12_readsRepeat_p4_0_b64 cst 13 (sR T 13 μ) v2 (sz : Int) = (if 60 < ((s0 + M : Nat) : Int) then f_X12_readsRepeat_p4_0_b89 cst 13 (sR T 13 μ) v2 (sz : Int) (w : Int) 0 else f_X12_readsRepeat_p4_0_b89 cst 13 (sR T 13 μ) v2 (sz : Int) (w : Int) 1) := by
    unfold f_X12_readsRepeat_p4_0_b64
    rw [sR_g, h31, hw1, hd_e hend, wr_e (z := ((s0 + M : Nat) : Int)) (by omega), wr_e (z := 60) (by decide)]
  by_cases c60 : s0 + M ≤ 60
  · rw [if_pos (by omega)] at hcl1
    rw [if_neg (by omega)] at hm0
    have hfu := hS.1.2.2
    have hB : ∀ k : Nat, k < s0 → Y 6 k = 0 ∨ Y 6 k = 1 := fun k hk => (hD.2.2.2.1.2.2 k (by omega)).2.2.1
    obtain ⟨Y5, j1, j2, j3⟩ := c_rep8 (g := fun d => w * d) (Nat.mul_zero w) (fun d => Nat.mul_succ w d) (X := X) (Y0 := Y) hS hw (by omega) (c := cc) (by omega) cc 0 s0 (fu (cs S q X Y)) Y (by omega) (by rw [cs_fu]; omega) (by show s0 + w * cc ≤ 60; rw [prd_e hMw]; exact c60) (Nat.le_refl _) (cpy_r (Nat.le_refl _)) hs0 hB (fun o u b1 b2 b3 => by rw [show s0 - w = sz by omega])
    have j2' : CPY 5 Y Y5 s0 (s0 + w * cc) w := j2
    have j3' : Y5 0 10 = ((s0 + w * cc : Nat) : Int) := j3
    rw [prd_e hMw] at j2' j3'
    clear j2 j3
    have hrf : f_X5_repeatFrom_p2_0 (cs S q X Y) q (sz : Int) (cc : Int) = some (cs S q X Y5) := by
      unfold f_X5_repeatFrom_p2_0
      rw [cs_y hS, hs0]
      exact j1
    obtain ⟨μ5, k1, k2⟩ := m_rep (T := T) (μ0 := μ) cst (x2 := v2) (x3 := (sz : Int)) (x4 := (w : Int)) (w := w) (s0 := s0) (m := M) rfl (by omega) c60 hend M s0 (fu T) μ (by omega) (by omega) (Nat.le_refl _) (cpy_r (Nat.le_refl _))
    have hm1 : f_X12_readsRepeat_p4_0_b64 cst 13 (sR T 13 μ) v2 (sz : Int) = (bd (f_X12_goOn_p4_0 (sR T 13 (uF μ5 0 31 ((s0 + M : Nat) : Int))) 13) fun S22 => some S22) := by
      rw [hm0]
      unfold f_X12_readsRepeat_p4_0_b89
      rw [m_yes, bd_e, m_fine hc, bd2_e, if_pos (by decide), show (sz : Int) + (w : Int) = (s0 : Int) by omega]
      exact k1
    have c0 : ∀ k, 22 ≤ k → k ≤ 30 → (uF μ5 0 31 ((s0 + M : Nat) : Int)) 0 k = μ 0 k := fun k a1 a2 => by
      rw [uF_n (by omega)]
      exact k2.1 0 k (by omega) (by omega)
    have hM5 : MTK n b (uF μ5 0 31 ((s0 + M : Nat) : Int)) p e 41 v := mtk_c hM (fun k a1 a2 => c0 k a1 (by omega)) (fun k => by
      rw [uF_n (by omega)]
      exact k2.1 13 k (by omega) (by omega))
    have hc5 : (uF μ5 0 31 ((s0 + M : Nat) : Int)) 0 29 = 0 := by rw [c0 29 (by omega) (by omega), hc]
    obtain ⟨p2, e2, t2, v3, n1⟩ := nx hS hT hn ht
    obtain ⟨μ6, g1, g2, g3, g4⟩ := av_m hM5 hc5 n1
    have md5 : MD μ (uF μ5 0 31 ((s0 + M : Nat) : Int)) := md_u (fun o k a1 a2 a3 => k2.1 o k (by omega) (by omega)) (by omega)
    have hX5 : CTK n b (uF X 2 10 (x : Int)) p e 41 v := ctk_u hX (by omega) (by decide)
    have hD5 : DR (uF X 2 10 (x : Int)) Y5 μ6 := dr_k (fun _ => rfl) (mk_f g3) (dr_cpy hD (fun k => by simp (disch := omega) only [uF_e, uF_n]) hs0 (m := M) (w := w) (by
      by_cases c : 1 ≤ w
      · exact Or.inl c
      · exact Or.inr (prd_0 hMw (by omega))) (by omega) c60 j2' j3' (μ' := uF μ5 0 31 ((s0 + M : Nat) : Int)) ⟨fun o k a1 a2 => by
        rw [uF_n (by omega)]
        exact k2.1 o k a1 a2, fun o k a1 a2 a3 => by
        rw [uF_n (by omega)]
        exact k2.2.1 o k a1 a2 a3, fun o k a1 a2 a3 a4 => by
        rw [uF_n (by omega), uF_n (by omega)]
        exact k2.2.2 o k a1 a2 a3 a4⟩ uF_e)
    have hcl2 : f_X3_closeRepeat_p3_2 (cs S q X Y) 0 = some (1, cs S q (uF X 2 10 (x : Int)) Y5) := by
      rw [hcl1, hrf, bd_e, cs_x, h10, cs_wx, lt1_e, Int.add_sub_cancel]
    rw [hm1, g1, bd_e, bd_e]
    rw [hcl0, hcl2, bd2_e, if_neg (by decide)]
    have xc5 : ∀ X7 : xR, XF (uF X 2 10 (x : Int)) X7 → XC X X7 := fun X7 h o k a1 a2 => by
      rw [h o k a1, uF_n (by omega)]
    rcases k_sign hS hT hn (sn_of hX5 n1 g2 g4) (s := 59) (Or.inl rfl) Y5 with ⟨X7, μ7, p3, e3, t3, v4, b1, b2, b3, b4, b5, b6⟩ | ⟨X7, μ7, b1, b2, b3⟩
    · left
      refine ⟨X7, Y5, μ7, e2, p3, e3, t3, v4, ?_, ?_, b3, dr_k (xf_3 b4) (mk_f b5) hD5, ?_, xc5 X7 b4, md_t md5 (md_t (mf_d g3) (mf_d b5)), by omega, by omega⟩
      · rw [b1, bd2_e, if_neg (by decide)]
      · rw [b2, bd_e]
      · rw [b4 2 10 (by omega), uF_e]
    · right
      refine ⟨X7, Y5, μ7, ?_, ?_, err_tr (fun o k a1 a2 a3 a4 => by rw [uF_n (by omega)]) (md_t md5 (mf_d g3)) b3⟩
      · rw [b1, bd2_e, if_pos (by decide)]
      · rw [b2, bd_e]
  · right
    rw [if_neg (by omega)] at hcl1
    rw [if_pos (by omega)] at hm0
    have hE : HE (EM μ 4) := he_EM (by decide)
    refine ⟨FX X 4, Y, EM μ 4, ?_, ?_, err_of (by decide) (xf_b xf_r) md_r (ck_4 hX hM) ed_r⟩
    · rw [hcl0, hcl1, bd2_e, if_pos (by decide)]
    · rw [hm0]
      unfold f_X12_readsRepeat_p4_0_b89
      rw [m_no hc, bd_e, e_fine hE, bd2_e, if_neg (by decide), bd_e, e_nsign hE, bd_e]
theorem k_rep {x : Nat} (hS : W2 q S) (hT : 10000000 ≤ fu T) (hn : BT n b) (hx : x ≤ 2) (hSt : x ≤ 1 → STM S T q n b d (x + 1)) (hX : CTK n b X p e t v) (hM : MTK n b μ p e t v) (ht : TOK n b p e t v) (hc : μ 0 29 = 0) (hD : DR X Y μ) (h10 : X 2 10 = (x : Int)) (h17 : t = 1 ∧ v = 17) : STO S T q n b (f_X12_statement_p4_0 (d + 1) (sR T 13 μ) 13 (x : Int)) x X Y μ p := by
  have hpe := ht.2.2.2.2 (by omega)
  have hpn : p ≤ n := by have := ht.1; omega
  have g0 := m_kind (T := T) hc hM ht
  have g18 := m_isw (T := T) hc hM ht (w := 18) (by decide)
  have g17 := m_isw (T := T) hc hM ht (w := 17) (by decide)
  have q17 := c_tok (Y := Y) hS hn hX ht (w := 17) (by decide)
  rw [show wtx 17 = 0 by decide, show ((17 : Nat) : Int) = 17 by decide, if_pos h17] at q17
  rw [if_neg (show ¬ (t = 1 ∧ 0 ≤ v ∧ v ≤ 9) by omega)] at g0
  rw [if_neg (show ¬ (t = 1 ∧ v = 18) by omega)] at g18
  rw [if_pos h17] at g17
  have hm0 : f_X12_statement_p4_0 (d + 1) (sR T 13 μ) 13 (x : Int) = (bd (f_X12_readsRepeat_p4_0 (f_X12_statement_p4_0 d) (sR T 13 μ) 13 (x : Int)) fun S43 => bd (f_X12_needsSign_p4_0 S43 13 59) fun S45 => some S45) := by
    rw [f_X12_statement_p4_0, g0, bd2_e, if_neg (by decide), g18, bd2_e, if_pos (by decide), g17, bd2_e, if_neg (by decide)]
  have hc0 : f_X3_readStatement_p3_2 (cs S q X Y) 0 = (bd2 (f_X3_openRepeat_p3_2 (cs S q X Y) 0) fun v46 S45 => some (v46, S45)) := by
    unfold f_X3_readStatement_p3_2
    rw [cs_x, hX.2.1, h17.1, if_pos (by decide)]
    unfold f_X3_readStatement_p3_2_b38
    rw [q17, bd2_e, if_neg (by decide)]
  by_cases hx1 : x ≤ 1
  · obtain ⟨p2, e2, t2, v2, n1⟩ := nx hS hT hn ht
    obtain ⟨μ1, g1, g2, g3, g4⟩ := av_m hM hc n1
    have hm1 : f_X12_readsRepeat_p4_0 (f_X12_statement_p4_0 d) (sR T 13 μ) 13 (x : Int) = (bd2 (f_X12_number_p4_0 (sR T 13 μ1) 13 1 9) fun v7 S6 => bd (f_X12_needsSign_p4_0 S6 13 40) fun S9 => f_X12_readsRepeat_p4_0_b38 (f_X12_statement_p4_0 d) 13 (fu S9) S9 (x : Int) v7 (gI S9 13 0 31)) := by
      unfold f_X12_readsRepeat_p4_0
      rw [wr_e (z := (x : Int)) (by omega), wr_e (z := 2) (by decide), if_neg (by omega)]
      unfold f_X12_readsRepeat_p4_0_b11
      rw [m_yes, bd_e, g1, bd_e]
    have hc1 : f_X3_openRepeat_p3_2 (cs S q X Y) 0 = (bd2 (f_X3_readNumber_p3_2 (cs S q X Y) 0 1 9) fun v3 S2 => if wr v3 = wr (-1) then some (0, S2) else bd2 (f_X3_readSign_p3_2 S2 0 40) fun v6 S5 => if ¬ wr v6 = 0 then (ckP S5 0 2 2 2 0 fun rg8 => ckI (gI S5 0 2 10) 2 <| lt1 (wI S5 0 4 (wr (gI S5 0 2 10)).toNat (gI S5 rg8 0 10)) fun S10 => ckI (gI S10 0 2 10) 2 <| lt1 (wI S10 0 5 (wr (gI S10 0 2 10)).toNat (v3 - 1)) fun S12 => lt1 (wI S12 0 2 10 ((gI S12 0 2 10) + 1)) fun S13 => some (1, S13)) else some (0, S5)) := by
      unfold f_X3_openRepeat_p3_2
      rw [cs_x, h10, wr_e (z := (x : Int)) (by omega), wr_e (z := 2) (by decide), if_pos (by omega)]
    rcases k_num hS hT hn (sn_of hX n1 g2 g4) (lo := 1) (hi := 9) (by decide) Y with ⟨X1, μ2, p3, e3, t3, v3, a0, a1, a2, a3, a4, a5, a6⟩ | ⟨X1, z, μ2, a1, a2, a3⟩
    · rw [a1, bd2_e, wr_e (z := v2) (by omega), wr_e (z := -1) (by decide), if_neg (by omega)] at hc1
      rw [a2, bd2_e] at hm1
      rcases k_sign hS hT hn a3 (s := 40) (Or.inr (Or.inl rfl)) Y with ⟨X2, μ3, p4, e4, t4, v4, b1, b2, b3, b4, b5, b6⟩ | ⟨X2, μ3, b1, b2, b3⟩
      · have x02 := xf_t a4 b4
        have m02 := mf_t g3 (mf_t a5 b5)
        have e10 : X2 2 10 = (x : Int) := by rw [x02 2 10 (by omega), h10]
        obtain ⟨sz, hsz⟩ : ∃ sz : Nat, Y 0 10 = (sz : Int) := ⟨(Y 0 10).toNat, by have := hD.2.2.2.1.2.1; omega⟩
        have h31 : μ3 0 31 = (sz : Int) := by rw [m02 0 31 (by omega), ← hD.2.2.2.1.1, hsz]
        rw [b1, bd2_e, if_pos (by decide), cs_p hS, cs_x, e10, ckI_e (by omega), wr_e (z := (x : Int)) (by omega), Int.toNat_natCast, cs_y hS, hsz, cs_wx, lt1_e, cs_x, uF_n (by omega), e10, ckI_e (by omega), wr_e (z := (x : Int)) (by omega), Int.toNat_natCast, cs_wx, lt1_e, cs_x, uF_n (by omega), uF_n (by omega), e10, cs_wx, lt1_e] at hc1
        rw [hc1, bd2_e] at hc0
        rw [b2, bd_e, sR_g, h31] at hm1
        have hfT : fu (sR T 13 μ3) = fu T := rfl
        rw [hfT] at hm1
        have d3 : DR (uF (uF (uF X2 4 x (sz : Int)) 5 x (v2 - 1)) 2 10 ((x : Int) + 1)) Y μ3 := dr_k (fun k => by
          simp (disch := omega) only [uF_e, uF_n]
          exact xf_3 x02 k) (mk_f m02) hD
        have hp4 := b3.2.2.1.2.1
        have ht4 := b3.2.2.1.1.1
        have hn0 := hn.1
        have hp2e := n1.2.1
        have hp2f := n1.1.1
        rcases k_lop hn (hSt hx1) hx1 (x2 := v2) (sz := (sz : Int)) 601 (uF (uF (uF X2 4 x (sz : Int)) 5 x (v2 - 1)) 2 10 ((x : Int) + 1)) Y μ3 e3 p4 e4 t4 v4 (fu T) (sn_X b3 (fun k => by simp (disch := omega) only [uF_e, uF_n]) (by simp (disch := omega) only [uF_e, uF_n]) (by simp (disch := omega) only [uF_e, uF_n])) d3 (by rw [uF_e]; omega) (by omega) (by omega) with ⟨k, X4, Y4, μ4, p5, e5, v5, l1, l2, l3, l4, l5, l6, l7, l8, l9, l10, l11⟩ | ⟨k, X4, Y4, μ4, l1, l2, l3, l9⟩
        · have f10 : X4 2 10 = (x : Int) + 1 := by rw [l8 2 10 (by omega) (by omega) (by omega), uF_e]
          have f4 : X4 4 x = (sz : Int) := by rw [l8 4 x (by omega) (by omega) (by omega), uF_n (by omega), uF_n (by omega), uF_e]
          have f5 : X4 5 x = v2 - 1 := by rw [l8 5 x (by omega) (by omega) (by omega), uF_n (by omega), uF_e]
          rcases k_close (f_X12_statement_p4_0 d) hS hT hn hx1 l2 l3 l4 l5 l7 f10 f4 f5 (by omega) (by omega) with ⟨X6, Y6, μ6, x6, p6, e6, t6, v6, c1, c2, c3, c4, c5, c6, c7, c8, c9⟩ | ⟨X6, Y6, μ6, c1, c2, c3⟩
          · left
            refine ⟨k + 1, X6, Y6, μ6, x6, p6, e6, t6, v6, fun f x4 h1 h2 => ?_, ?_, c3, c4, fun o j z1 z2 z3 => ?_, md_t (mf_d m02) (md_t l9 c7), Int.le_trans l10 c8, by omega⟩
            · rw [gG_y hc0, show f + (k + 1) = f + k + 1 by omega, l1 f _ (by omega) (by omega), gG_y c1, show x4 + 1 + (k : Int) + 1 = x4 + ((k + 1 : Nat) : Int) + 1 by omega]
            · rw [hm0, hm1, l6]
              exact c2
            · by_cases h : o = 2 ∧ j = 10
              · rw [h.1, h.2, c5, h10]
              · rw [c6 o j z1 h, l8 o j z1 z2 (by omega), uF_n (by omega), uF_n (by omega), uF_n (by omega)]
                exact x02 o j z1
          · right
            refine ⟨k + 1, X6, Y6, μ6, fun f x4 h1 h2 => ?_, ?_, err_tr (xb_t (fun o j z1 z2 z3 z4 => ?_) (xl_b l8)) (md_t (mf_d m02) l9) c3, by have := l4.1; omega⟩
            · rw [gG_y hc0, show f + (k + 1) = f + k + 1 by omega, l1 f _ (by omega) (by omega), gG_n c1]
            · rw [hm0, hm1, l6]
              exact c2
            · rw [uF_n (by omega), uF_n (by omega), uF_n (by omega)]
              exact xf_b x02 o j z1 z2 z3 z4
        · right
          refine ⟨k + 1, X4, Y4, μ4, fun f x4 h1 h2 => ?_, ?_, err_tr (fun o k a b c d => ?_) (mf_d m02) l3, by omega⟩
          · rw [gG_y hc0, show f + (k + 1) = f + k + 1 by omega]
            exact l1 f _ (by omega) (by omega)
          · rw [hm0, hm1, l2, bd_e, e_nsign (err_he l3), bd_e]
          · simp (disch := omega) only [uF_e, uF_n]
            exact xf_b x02 o k a b c d
      · refine sto_out hpn (Or.inr ⟨X2, Y, μ3, ?_, ?_, err_tr (xf_b a4) (mf_d (mf_t g3 a5)) b3⟩)
        · rw [hc0, hc1, b1, bd2_e, if_neg (by decide), bd2_e]
        · have hE := err_he b3
          obtain ⟨f, hf⟩ := fs_e (show 0 < fu (sR T 13 μ3) by show 0 < fu T; omega)
          rw [hm0, hm1, b2, bd_e, hf, e_b38 hE, bd_e, e_nsign hE, bd_e]
    · refine sto_out hpn (Or.inr ⟨X1, Y, μ2, ?_, ?_, err_tr (xf_b xf_r) (mf_d g3) a3⟩)
      · rw [hc0, hc1, a1, bd2_e, if_pos rfl, bd2_e]
      · have hE := err_he a3
        obtain ⟨f, hf⟩ := fs_e (show 0 < fu (sR T 13 μ2) by show 0 < fu T; omega)
        rw [hm0, hm1, a2, bd2_e, e_nsign hE, bd_e, hf, e_b38 hE, bd_e, e_nsign hE, bd_e]
  · have hE : HE (EM μ 4) := he_EM (by decide)
    refine sto_out hpn (Or.inr ⟨FX X 4, Y, EM μ 4, ?_, ?_, err_of (by decide) (xf_b xf_r) md_r (ck_4 hX hM) ed_r⟩)
    · rw [hc0]
      unfold f_X3_openRepeat_p3_2
      rw [cs_x, h10, wr_e (z := (x : Int)) (by omega), wr_e (z := 2) (by decide), if_neg (by omega), c_fail, bd2_e, bd2_e]
    · obtain ⟨f, hf⟩ := fs_e (show 0 < fu (sR T 13 (EM μ 4)) by show 0 < fu T; omega)
      rw [hm0]
      unfold f_X12_readsRepeat_p4_0
      rw [wr_e (z := (x : Int)) (by omega), wr_e (z := 2) (by decide), if_pos (by omega)]
      unfold f_X12_readsRepeat_p4_0_b11
      rw [m_no hc, bd_e, e_on hE, bd_e, e_num hE, bd2_e, e_nsign hE, bd_e, hf, e_b38 hE, bd_e, e_nsign hE, bd_e]
theorem k_stm {x : Nat} (hS : W2 q S) (hT : 10000000 ≤ fu T) (hn : BT n b) (hx : x ≤ 2) (hSt : x ≤ 1 → STM S T q n b d (x + 1)) : STM S T q n b (d + 1) x := by
  intro X Y μ p e t v hX hM ht hc hD h10 h41
  by_cases h17 : t = 1 ∧ v = 17
  · exact k_rep hS hT hn hx hSt hX hM ht hc hD h10 h17
  · exact sto_out (by have := ht.1; omega) (k_sim hS hT hn hX hM ht hc hD h10 (by omega) (by omega) h17)
theorem k_stm0 (hS : W2 q S) (hT : 10000000 ≤ fu T) (hn : BT n b) : STM S T q n b 8 0 := k_stm hS hT hn (by decide) (fun _ => k_stm hS hT hn (by decide) (fun _ => k_stm hS hT hn (by decide) (fun h => absurd h (by decide))))
/-- a text -/
theorem k_top (hS : W2 q S) (hT : 10000000 ≤ fu T) (hn : BT n b) : ∀ (g : Nat) (X Y μ : xR) (xx p e t v : Int) (fm : Nat), SN S T q n b X μ xx p e t v → DR X Y μ → X 2 10 = 0 → n - p < (g : Int) → g + 1 < fm → (∃ (k : Nat) (X' Y' μ' : xR), (∀ (f : Nat) (x4 : Int), 0 ≤ x4 → x4 ≤ xx → gB q (f + k + 1) (cs S q X Y) x4 = (bd (f_X5_link_p2_0 (cs S q X' Y') q) fun S16 => some (1, S16))) ∧ f_X12_parse_p4_0_b23 13 fm (sR T 13 μ) = f_X12_parse_p4_0_b45 13 (sR T 13 μ') ∧ μ' 0 29 = 0 ∧ DR X' Y' μ' ∧ XL 0 X X' ∧ MD μ μ' ∧ xx + k ≤ n) ∨ (∃ (k : Nat) (X' Y' μ' : xR), (∀ (f : Nat) (x4 : Int), 0 ≤ x4 → x4 ≤ xx → gB q (f + k + 1) (cs S q X Y) x4 = some (0, cs S q X' Y')) ∧ f_X12_parse_p4_0_b23 13 fm (sR T 13 μ) = some (-1, sR T 13 μ') ∧ ERR X μ X' μ' ∧ xx + k ≤ n) := by
  intro g
  induction g with
  | zero =>
    intro X Y μ xx p e t v fm hSN hD h10 hg hfm
    have := hSN.2.2.1.1.1
    exact absurd hg (by omega)
  | succ g ih =>
    intro X Y μ xx p e t v fm hSN hD h10 hg hfm
    have ht := hSN.2.2.1.1
    have hM := hSN.2.2.2.1
    have hc := hSN.2.2.2.2
    have hxp := hSN.2.2.1.2.1
    have htt := ht.1
    obtain ⟨fm, rfl⟩ := fs_e (show 0 < fm by omega)
    have hmod : f_X12_parse_p4_0_b23 13 (fm + 1) (sR T 13 μ) = (if t = 0 then f_X12_parse_p4_0_b45 13 (sR T 13 μ) else bd (f_X12_statement_p4_0 8 (sR T 13 μ) 13 0) fun S20 => f_X12_parse_p4_0_b23 13 fm S20) := by
      rw [f_X12_parse_p4_0_b23, m_fine hc, bd2_e, if_neg (by decide), sR_g]
      by_cases c : t = 0
      · rw [if_pos ((m_end hM ht).mpr c), if_pos c]
      · rw [if_neg (fun h => c ((m_end hM ht).mp h)), if_neg c]
    by_cases c : t = 0
    · left
      rw [if_pos c] at hmod
      obtain ⟨X1, c1, c2, c3⟩ := gB_e hS hn hSN c h10 Y
      exact ⟨0, X1, Y, μ, fun f x4 a1 a2 => c3 f x4 a1 a2, hmod, hc, dr_k (xf_3 c2) (fun _ _ _ => rfl) hD, xg_l (xf_g c2), md_r, by omega⟩
    · rw [if_neg c] at hmod
      obtain ⟨X1, c1, c2, c3⟩ := gB_s hn hSN (Or.inl c) (by omega) Y
      have e10 : X1 2 10 = ((0 : Nat) : Int) := by rw [c2 2 10 (by omega), h10]; rfl
      rcases k_stm0 hS hT hn X1 Y μ p e t v c1 hM ht hc (dr_k (xf_3 c2) (fun _ _ _ => rfl) hD) e10 (fun h => absurd h.2 (by decide)) with ⟨k, X2, Y2, μ2, y2, p2, e2, t2, v2, a1, a2, a3, a4, a5, a6, a7, a8⟩ | ⟨k, X2, Y2, μ2, a1, a2, a3, a9⟩
      · have hp2 := a3.2.2.1.2.1
        have e10b : X2 2 10 = 0 := by rw [a5 2 10 (by omega) (by omega) (by omega), e10]; rfl
        rw [show ((0 : Nat) : Int) = 0 by rfl] at a2
        rw [a2, bd_e] at hmod
        rcases ih X2 Y2 μ2 y2 p2 e2 t2 v2 fm a3 a4 e10b (by omega) (by omega) with ⟨k2, X3, Y3, μ3, b1, b2, b3, b4, b5, b6, b7⟩ | ⟨k2, X3, Y3, μ3, b1, b2, b3, b9⟩
        · left
          refine ⟨k + 1 + k2, X3, Y3, μ3, fun f x4 h1 h2 => ?_, hmod.trans b2, b3, b4, xl_t (xg_l (xf_g c2)) (xl_t a5 b5), md_t a6 b6, by omega⟩
          rw [c3 _ x4 h1 h2, show f + (k + 1 + k2) = f + k2 + 1 + k by omega, a1 _ x4 h1 (by omega), b1 f _ (by omega) (by omega)]
        · right
          refine ⟨k + 1 + k2, X3, Y3, μ3, fun f x4 h1 h2 => ?_, hmod.trans b2, err_tr (xb_t (xf_b c2) (xl_b a5)) a6 b3, by omega⟩
          rw [c3 _ x4 h1 h2, show f + (k + 1 + k2) = f + k2 + 1 + k by omega, a1 _ x4 h1 (by omega), b1 f _ (by omega) (by omega)]
      · right
        rw [show ((0 : Nat) : Int) = 0 by rfl] at a2
        rw [a2, bd_e] at hmod
        obtain ⟨fm, rfl⟩ := fs_e (show 0 < fm by omega)
        have hE := err_he a3
        have e23 : f_X12_parse_p4_0_b23 13 (fm + 1) (sR T 13 μ2) = some (-1, sR T 13 μ2) := by
          rw [f_X12_parse_p4_0_b23, e_fine hE, bd2_e, if_pos (by decide)]
          unfold f_X12_parse_p4_0_b45
          rw [e_fine hE, bd2_e, if_neg (by decide)]
        rw [e23] at hmod
        refine ⟨k, X2, Y2, μ2, fun f x4 h1 h2 => ?_, hmod, err_tr (xf_b c2) md_r a3, by omega⟩
        rw [c3 _ x4 h1 h2, a1 _ x4 h1 (by omega)]
end RP
