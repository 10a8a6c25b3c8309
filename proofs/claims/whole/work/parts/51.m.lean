/-! mathematics: marking, fetching, a cycle -/
section D3
variable {S T : xSt} {r q M : Nat} {π μ F : xR} {N : Nat → Int} {B e w o : Int}

theorem uFG_c {F : xR} {o k o2 k2 : Nat} {a b : Int} (h : o ≠ o2 ∨ k ≠ k2) : uF (uF F o k a) o2 k2 b = uF (uF F o2 k2 b) o k a := by
  funext o' k'
  show (if o' = o2 ∧ k' = k2 then b else if o' = o ∧ k' = k then a else F o' k') = if o' = o ∧ k' = k then a else if o' = o2 ∧ k' = k2 then b else F o' k'
  by_cases c : o' = o2 ∧ k' = k2
  · rw [if_pos c, if_neg (fun d => by rcases h with h | h <;> omega), if_pos c]
  · rw [if_neg c, if_neg c]
/-- one turn of the marking -/
theorem p_mark (hC : CT S r q T M π μ) (hF : RF π B e w o F N) : ∃ z F' N', (z = 0 ∨ z = 1) ∧ (∀ (f : Nat) (x : Int), 0 ≤ x → x ≤ 20 → f_X0_fetch_p1_0_b51 r (f + 1) (sR S r F) 1 x = f_X0_fetch_p1_0_b51 r f (sR S r F') z (x + 1)) ∧ f_X12_marks_p4_0 (wA T M 6 N) M = some (z, wA T M 6 N') ∧ RF π B e w o F' N' ∧ (∀ k, F' 8 k = F 8 k) ∧ (z = 1 → F' 5 2 = F 5 2 + 1 ∧ F' 5 2 ≤ π 1 2) := by
  have p0 := (ct_R hC).1
  have p3 := (ct_R hC).2.2.2.1
  have m1 := (ct_M hC).1
  have m3 := (ct_M hC).2.2.1
  have e3 := hF.1.2.2.2.1
  have e4 := hF.1.2.2.2.2.1
  have e5 := hF.1.2.2.2.2.2.1
  have e9 := hF.1.2.2.2.2.2.2.2.2.2.1
  have e10 := hF.1.2.2.2.2.2.2.2.2.2.2.1
  have e21 := hF.1.2.2.2.2.2.2.2.2.2.2.2.2.2.2.2.2.2.2.1
  have e42 := hF.1.2.2.2.2.2.2.2.2.2.2.2.2.2.2.2.2.2.2.2.2.2.2.2.1
  have r3 := hF.2.1.2.2.2.1
  have r4 := hF.2.1.2.2.2.2.1
  have r9 := hF.2.1.2.2.2.2.2.2.2.2.2.1
  have r14 := hF.2.1.2.2.2.2.2.2.2.2.2.2.2.2.2.2
  have x2 := hF.1.2.2.2.2.2.2.2.2.2.2.2.2.2.2.2.2.2.2.2.2.2.2.2.2.2.1
  have hit : ∀ (f : Nat) (x : Int), 0 ≤ x → x ≤ 20 → f_X0_fetch_p1_0_b51 r (f + 1) (sR S r F) 1 x = bd2 (f_X0_canMark_p1_0 (sR S r F) r) fun v6 S5 => if wr v6 = 0 then f_X0_fetch_p1_0_b51 r f S5 0 (x + 1) else bd2 (f_X0_mark_p1_0 S5 r) fun v10 S9 => if wr v10 = 0 then f_X0_fetch_p1_0_b51 r f S9 0 (x + 1) else f_X0_fetch_p1_0_b51 r f S9 1 (x + 1) := by
    intro f x h1 h2
    rw [f_X0_fetch_p1_0_b51, wr_e (z := 1) (by decide), if_neg (by decide), wr_e (z := 20) (by decide), wr_e (z := x) (by omega), if_neg (show ¬ 20 < x by omega)]
  by_cases c1 : F 0 10 < π 0 10
  · have s1 := pm_s (ct_M hC) (show ((F 0 10).toNat : Int) ≤ π 0 10 by omega)
    have s2 := pm_s (ct_M hC) (show ((F 0 10 + 1).toNat : Int) ≤ π 0 10 by omega)
    by_cases c2 : F 5 2 < π 1 2
    · by_cases c3 : wr (π 9 (F 0 10 + 1).toNat) ≤ wr (F 0 12)
      · -- it is marked
        obtain ⟨v, hv, hv8, i1, i2⟩ := p_pred hC hF (k := F 0 10) (by omega)
        have hk1 : ((F 0 10).toNat : Int) < π 0 10 := by omega
        obtain ⟨k1, k2, k3, -⟩ := pr_k (ct_R hC) hk1
        obtain ⟨a1, a2, a3, -⟩ := pm_k (ct_M hC) hk1
        have ea : (43 + F 5 2).toNat = 43 + (F 5 2).toNat := by omega
        have eb : (63 + F 5 2).toNat = 63 + (F 5 2).toNat := by omega
        have ht1 : v = 1 → 0 ≤ π 11 (F 0 10).toNat ∧ π 11 (F 0 10).toNat ≤ π 0 10 := fun h => k3 (hv8 h)
        have hcan : f_X0_canMark_p1_0 (sR S r F) r = some (1, sR S r F) := by
          unfold f_X0_canMark_p1_0
          rw [ct_p hC]
          simp only [sR_g, ct_q hC (show (0 : Nat) ≠ 77 by decide)]
          rw [wr_e (z := π 0 10) (by omega), wr_e (z := F 0 10) (by omega), if_neg (show ¬ π 0 10 ≤ F 0 10 by omega), x2, wr_e (z := F 5 2) (by omega), wr_e (z := π 1 2) (by omega), if_pos c2, ct_p hC, p_start hC (show 0 ≤ F 0 10 + 1 ∧ F 0 10 + 1 ≤ π 0 10 by omega)]
          simp only [bd2_e, sR_g]
          rw [if_neg (show ¬ wr (F 0 12) < wr (π 9 (F 0 10 + 1).toNat) by omega)]
        have happ : f_X6_append_p1_5 (sR S r F) r (F 0 10) v = some (sR S r (uF (uF (uF F 6 (F 5 2).toNat (F 0 10)) 7 (F 5 2).toNat v) 5 2 (F 5 2 + 1))) := by
          unfold f_X6_append_p1_5
          simp (disch := omega) only [sR_g, sR_w, wr_e, ckI_e, lt1_e, uF_o, uF_k, ckB_e]
          rw [if_neg (show ¬ F 5 2 < 0 by omega), if_neg (show ¬ 20 ≤ F 5 2 by omega)]
        obtain ⟨lp, hlp⟩ : ∃ lp, lp = if π 6 (F 0 10).toNat = 0 then F 0 16 else 3 := ⟨_, rfl⟩
        obtain ⟨y, hy⟩ : ∃ y, y = if v = 0 then F 0 10 + 1 else π 11 (F 0 10).toNat := ⟨_, rfl⟩
        obtain ⟨zz, hzz⟩ : ∃ zz, zz = if v = 0 then F 0 11 else 1 := ⟨_, rfl⟩
        obtain ⟨z, hz⟩ : ∃ z : Int, z = if v = 0 ∧ π 6 (F 0 10).toNat = 0 then 1 else 0 := ⟨_, rfl⟩
        have hzr : z = 0 ∨ z = 1 := by
          rw [hz]
          split
          · exact Or.inr rfl
          · exact Or.inl rfl
        have hq := q_mark hC hF (k := F 0 10) (v := v) (y := y) (z := zz) (lp := lp) (by omega) hv (by rw [hy]; split <;> omega) (by rw [hzz]; split <;> omega) (by rw [hlp]; split <;> omega) c2
        have hmk : f_X0_mark_p1_0 (sR S r F) r = some (z, sR S r (uF (uF (uF (uF (uF (uF F 6 (F 5 2).toNat (F 0 10)) 7 (F 5 2).toNat v) 5 2 (F 5 2 + 1)) 0 10 y) 0 11 zz) 0 16 lp)) := by
          have h81 : ∀ G : xR, f_X0_mark_p1_0_b81 r (sR S r G) (F 0 10) v = some (z, sR S r G) := by
            intro G
            unfold f_X0_mark_p1_0_b81
            rw [wr_e (z := v) (by omega), ct_p hC, ckI_e (by omega), ct_q hC (by decide), wr_e (z := F 0 10) (by omega), wr_e (z := π 6 (F 0 10).toNat) (by omega)]
            by_cases d : v = 0
            · rw [if_neg (fun h => h d)]
              by_cases d2 : π 6 (F 0 10).toNat = 0
              · rw [if_neg (fun h => h d2), hz, if_pos ⟨d, d2⟩]
              · rw [if_pos d2, hz, if_neg (fun h => d2 h.2)]
            · rw [if_pos d, hz, if_neg (fun h => d h.1)]
          have h64 : ∀ G : xR, G 0 16 = F 0 16 → f_X0_mark_p1_0_b64 r (sR S r G) (F 0 10) v = some (z, sR S r (uF G 0 16 lp)) := by
            intro G hG
            unfold f_X0_mark_p1_0_b64
            rw [ct_p hC, ckI_e (by omega), ct_q hC (by decide), wr_e (z := F 0 10) (by omega), wr_e (z := π 6 (F 0 10).toNat) (by omega)]
            by_cases d2 : π 6 (F 0 10).toNat = 0
            · rw [if_pos d2, h81, hlp, if_pos d2, ← hG, uF_i]
            · rw [if_neg d2, sR_w, lt1_e, h81, hlp, if_neg d2]
          unfold f_X0_mark_p1_0 f_X0_setPlace_p1_0
          simp only [sR_g]
          rw [wr_e (z := F 0 10) (by omega), if_neg (show ¬ F 0 10 < 0 by omega), ct_p hC, ct_q hC (by decide), wr_e (z := π 0 10) (by omega), if_pos c1, i1]
          simp only [bd2_e]
          rw [happ]
          simp only [bd_e]
          rw [wr_e (z := v) (by omega)]
          by_cases d : v = 0
          · rw [if_pos d, sR_w, lt1_e, h64 _ (by simp (disch := omega) only [uF_e, uF_o, uF_k, uG_e, uG_o, uN_e, uN_k, true_or, or_true]), hy, if_pos d, hzz, if_pos d]
            congr 2
            have e9 : (uF (uF (uF (uF F 6 (F 5 2).toNat (F 0 10)) 7 (F 5 2).toNat v) 5 2 (F 5 2 + 1)) 0 10 (F 0 10 + 1)) 0 11 = F 0 11 := by simp (disch := omega) only [uF_e, uF_o, uF_k, uG_e, uG_o, uN_e, uN_k, true_or, or_true]
            have e8 := uF_i (F := uF (uF (uF (uF F 6 (F 5 2).toNat (F 0 10)) 7 (F 5 2).toNat v) 5 2 (F 5 2 + 1)) 0 10 (F 0 10 + 1)) (o := 0) (k := 11)
            rw [e9] at e8
            rw [e8]
          · rw [if_neg d, ct_p hC, ckI_e (by omega), ct_q hC (by decide), sR_w, lt1_e, sR_w, lt1_e]
            simp only [bd_e]
            rw [h64 _ (by simp (disch := omega) only [uF_e, uF_o, uF_k, uG_e, uG_o, uN_e, uN_k, true_or, or_true]), hy, if_neg d, hzz, if_neg d]
        have hmm : f_X12_marks_p4_0 (wA T M 6 N) M = some (z, wA T M 6 (uN (uN (uN (uN (uN (uN N (43 + (F 5 2).toNat) (F 0 10)) (63 + (F 5 2).toNat) v) 42 (F 5 2 + 1)) 3 y) 4 zz) 9 lp)) := by
          have h194 : ∀ G : Nat → Int, f_X12_marks_p4_0_b194 M (wA T M 6 G) (F 0 10) v = some (z, wA T M 6 G) := by
            intro G
            unfold f_X12_marks_p4_0_b194
            rw [ckI_e (by omega), ct_m hC (by decide), wr_e (z := F 0 10) (by omega), a2, wr_e (z := π 6 (F 0 10).toNat) (by omega), wr_e (z := v) (by omega)]
            by_cases d2 : π 6 (F 0 10).toNat = 0
            · rw [if_neg (fun h => h d2)]
              by_cases d : v = 0
              · rw [if_neg (fun h => h d), hz, if_pos ⟨d, d2⟩]
              · rw [if_pos d, hz, if_neg (fun h => d h.1)]
            · rw [if_pos d2, hz, if_neg (fun h => d2 h.2)]
          have h136 : ∀ G : Nat → Int, G 42 = F 5 2 → G 4 = F 0 11 → G 9 = F 0 16 → f_X12_marks_p4_0_b136 M (wA T M 6 G) (F 0 10) v v (63 + F 5 2) = some (z, wA T M 6 (uN (uN (uN (uN (uN G (63 + (F 5 2).toNat) v) 42 (F 5 2 + 1)) 3 y) 4 zz) 9 lp)) := by
            intro G hG1 hG2 hG3
            unfold f_X12_marks_p4_0_b136 f_X12_marks_p4_0_b180 f_X12_sets_p4_0
            simp (disch := omega) only [wN_g, wN_w, lt1_e, ckI_e, wr_e (z := 63 + F 5 2), eb, uN_k, hG1, ct_m hC, wr_e (z := F 0 10), a2, a3, wr_e (z := π 6 (F 0 10).toNat), wr_e (z := 1), wr_e (z := v), ite_not, bd_e]
            by_cases d : v = 0
            · rw [if_pos d, if_pos d, h194, h194]
              by_cases d2 : π 6 (F 0 10).toNat = 1
              · rw [if_pos d2]
                congr 3
                rw [hy, if_pos d, hzz, if_pos d, hlp, if_neg (by omega)]
                funext j
                by_cases j9 : j = 9
                · subst j9
                  rw [uN_e, uN_e]
                · rw [uN_k j9, uN_k j9]
                  by_cases j4 : j = 4
                  · subst j4
                    rw [uN_e, uN_k (by omega), uN_k (by omega), uN_k (by omega), hG2]
                  · rw [uN_k j4]
              · rw [if_neg d2]
                congr 3
                rw [hy, if_pos d, hzz, if_pos d, hlp, if_pos (by omega)]
                funext j
                by_cases j9 : j = 9
                · subst j9
                  rw [uN_e, uN_k (by omega), uN_k (by omega), uN_k (by omega), hG3]
                · rw [uN_k j9]
                  by_cases j4 : j = 4
                  · subst j4
                    rw [uN_e, uN_k (by omega), uN_k (by omega), uN_k (by omega), hG2]
                  · rw [uN_k j4]
            · rw [if_neg d, if_neg d, h194, h194]
              by_cases d2 : π 6 (F 0 10).toNat = 1
              · rw [if_pos d2]
                congr 3
                rw [hy, if_neg d, hzz, if_neg d, hlp, if_neg (by omega)]
                funext j
                by_cases j9 : j = 9
                · subst j9
                  rw [uN_e, uN_k (by omega), uN_k (by omega), uN_e]
                · rw [uN_k j9]
                  by_cases j4 : j = 4
                  · subst j4
                    rw [uN_e, uN_e]
                  · rw [uN_k j4, uN_k j4]
                    by_cases j3 : j = 3
                    · subst j3
                      rw [uN_e, uN_e]
                    · rw [uN_k j3, uN_k j3, uN_k j9, uN_k j3]
              · rw [if_neg d2]
                congr 3
                rw [hy, if_neg d, hzz, if_neg d, hlp, if_pos (by omega)]
                funext j
                by_cases j9 : j = 9
                · subst j9
                  rw [uN_e, uN_k (by omega), uN_k (by omega), uN_k (by omega), uN_k (by omega), uN_k (by omega), hG3]
                · rw [uN_k j9]
                  by_cases j4 : j = 4
                  · subst j4
                    rw [uN_e, uN_e]
                  · rw [uN_k j4, uN_k j4]
                    by_cases j3 : j = 3
                    · subst j3
                      rw [uN_e, uN_e]
                    · rw [uN_k j3, uN_k j3, uN_k j3]
          have h1 := h136 (uN N (43 + (F 5 2).toNat) (F 0 10)) (by rw [uN_k (by omega)]; exact e42) (by rw [uN_k (by omega)]; exact e4) (by rw [uN_k (by omega)]; exact e9)
          unfold f_X12_marks_p4_0
          simp only [wN_g, e3, e42, e5]
          rw [ct_m hC (by decide), m1, wr_e (z := F 0 10) (by omega), wr_e (z := π 0 10) (by omega), if_neg (show ¬ F 0 10 = π 0 10 by omega), ct_m hC (by decide), m3, wr_e (z := F 5 2) (by omega), wr_e (z := π 1 2) (by omega), if_pos (show ¬ F 5 2 = π 1 2 by omega), ckI_e (by omega), ct_m hC (by decide), wr_e (z := F 0 10 + 1) (by omega), s2, if_pos c3, i2]
          simp only [bd2_e, wN_g, e42]
          rw [ckI_e (by omega), wr_e (z := 43 + F 5 2) (by omega), ea, wN_w, lt1_e, wr_e (z := v) (by omega)]
          simp only [wN_g]
          rw [uN_k (show 42 ≠ 43 + (F 5 2).toNat by omega), e42]
          rcases hv with rfl | rfl
          · rw [if_pos rfl]
            exact h1
          · rw [if_neg (by decide)]
            exact h1
        refine ⟨z, _, _, hzr, fun f x h1 h2 => ?_, hmm, hq, fun k => by simp (disch := omega) only [uF_e, uF_o, uF_k, uG_e, uG_o, uN_e, uN_k, true_or, or_true], fun _ => ⟨by simp (disch := omega) only [uF_e, uF_o, uF_k, uG_e, uG_o, uN_e, uN_k, true_or, or_true], by simp (disch := omega) only [uF_e, uF_o, uF_k, uG_e, uG_o, uN_e, uN_k, true_or, or_true]; omega⟩⟩
        rw [hit f x h1 h2, hcan]
        simp only [bd2_e]
        rw [wr_e (z := 1) (by decide), if_neg (by decide), hmk]
        simp only [bd2_e]
        rw [wr_e (z := z) (by omega)]
        rcases hzr with h9 | h9
        · rw [if_pos h9, h9]
        · rw [if_neg (show ¬ z = 0 by omega), h9]
      · -- its last byte is beyond
        have hmm : f_X12_marks_p4_0 (wA T M 6 N) M = if wr (π 9 (F 0 10).toNat) < wr (F 0 12) then some (0, wA T M 6 (uN (uN N 10 1) 21 (N 21 + 1))) else some (0, wA T M 6 N) := by
          unfold f_X12_marks_p4_0
          simp only [wN_g, e3, e42, e5]
          rw [ct_m hC (by decide), m1, wr_e (z := F 0 10) (by omega), wr_e (z := π 0 10) (by omega), if_neg (show ¬ F 0 10 = π 0 10 by omega), ct_m hC (by decide), m3, wr_e (z := F 5 2) (by omega), wr_e (z := π 1 2) (by omega), if_pos (show ¬ F 5 2 = π 1 2 by omega), ckI_e (by omega), ct_m hC (by decide), wr_e (z := F 0 10 + 1) (by omega), s2, if_neg c3, ckI_e (by omega), ct_m hC (by decide), s1]
          by_cases d : wr (π 9 (F 0 10).toNat) < wr (F 0 12)
          · rw [if_pos d, if_pos d, wN_w, lt1_e, wN_w, lt1_e, wN_g, uN_k (by decide)]
          · rw [if_neg d, if_neg d]
        have hcan : f_X0_canMark_p1_0 (sR S r F) r = if wr (π 9 (F 0 10).toNat) < wr (F 0 12) then some (0, sR S r (uF (uF F 0 13 1) 15 5 (F 15 5 + 1))) else some (0, sR S r F) := by
          unfold f_X0_canMark_p1_0
          rw [ct_p hC]
          simp only [sR_g, ct_q hC (show (0 : Nat) ≠ 77 by decide)]
          rw [wr_e (z := π 0 10) (by omega), wr_e (z := F 0 10) (by omega), if_neg (show ¬ π 0 10 ≤ F 0 10 by omega), x2, wr_e (z := F 5 2) (by omega), wr_e (z := π 1 2) (by omega), if_pos c2, ct_p hC, p_start hC (show 0 ≤ F 0 10 + 1 ∧ F 0 10 + 1 ≤ π 0 10 by omega)]
          simp only [bd2_e, sR_g]
          rw [if_pos (show wr (F 0 12) < wr (π 9 (F 0 10 + 1).toNat) by omega), ct_p hC, p_start hC (show 0 ≤ F 0 10 ∧ F 0 10 ≤ π 0 10 by omega)]
          simp only [bd2_e, sR_g]
          by_cases d : wr (π 9 (F 0 10).toNat) < wr (F 0 12)
          · rw [if_pos d, if_neg (by omega), sR_w, lt1_e, sR_w, lt1_e, sR_g, uF_o (by decide)]
          · rw [if_neg d, if_pos (by omega)]
        by_cases d : wr (π 9 (F 0 10).toNat) < wr (F 0 12)
        · rw [if_pos d] at hmm hcan
          refine ⟨0, _, _, Or.inl rfl, fun f x h1 h2 => ?_, hmm, q_cut hC hF, fun k => by simp (disch := omega) only [uF_e, uF_o, uF_k, uG_e, uG_o, uN_e, uN_k, true_or, or_true], fun h => absurd h (by decide)⟩
          rw [hit f x h1 h2, hcan]
          simp only [bd2_e]
          rw [if_pos (by decide)]
        · rw [if_neg d] at hmm hcan
          refine ⟨0, F, N, Or.inl rfl, fun f x h1 h2 => ?_, hmm, hF, fun k => rfl, fun h => absurd h (by decide)⟩
          rw [hit f x h1 h2, hcan]
          simp only [bd2_e]
          rw [if_pos (by decide)]
    · refine ⟨0, F, N, Or.inl rfl, fun f x h1 h2 => ?_, ?_, hF, fun k => rfl, fun h => absurd h (by decide)⟩
      · have hcan : f_X0_canMark_p1_0 (sR S r F) r = some (0, sR S r F) := by
          unfold f_X0_canMark_p1_0
          rw [ct_p hC]
          simp only [sR_g, ct_q hC (show (0 : Nat) ≠ 77 by decide)]
          rw [wr_e (z := π 0 10) (by omega), wr_e (z := F 0 10) (by omega), if_neg (show ¬ π 0 10 ≤ F 0 10 by omega), x2, wr_e (z := F 5 2) (by omega), wr_e (z := π 1 2) (by omega), if_neg c2]
        rw [hit f x h1 h2, hcan]
        simp only [bd2_e]
        rw [if_pos (by decide)]
      · unfold f_X12_marks_p4_0
        simp only [wN_g, e3, e42, e5]
        rw [ct_m hC (by decide), m1, wr_e (z := F 0 10) (by omega), wr_e (z := π 0 10) (by omega), if_neg (show ¬ F 0 10 = π 0 10 by omega), ct_m hC (by decide), m3, wr_e (z := F 5 2) (by omega), wr_e (z := π 1 2) (by omega), if_neg (show ¬ ¬ F 5 2 = π 1 2 by omega)]
  · refine ⟨0, F, N, Or.inl rfl, fun f x h1 h2 => ?_, ?_, hF, fun k => rfl, fun h => absurd h (by decide)⟩
    · have hcan : f_X0_canMark_p1_0 (sR S r F) r = some (0, sR S r F) := by
        unfold f_X0_canMark_p1_0
        rw [ct_p hC]
        simp only [sR_g, ct_q hC (show (0 : Nat) ≠ 77 by decide)]
        rw [wr_e (z := π 0 10) (by omega), wr_e (z := F 0 10) (by omega), if_pos (show π 0 10 ≤ F 0 10 by omega)]
      rw [hit f x h1 h2, hcan]
      simp only [bd2_e]
      rw [if_pos (by decide)]
    · unfold f_X12_marks_p4_0
      simp only [wN_g, e3]
      rw [ct_m hC (by decide), m1, wr_e (z := F 0 10) (by omega), wr_e (z := π 0 10) (by omega), if_pos (show F 0 10 = π 0 10 by omega)]
theorem p_marks_b (hC : CT S r q T M π μ) : ∀ (d : Nat) (x z : Int) (F : xR) (N : Nat → Int) (f g : Nat), RF π B e w o F N → (z = 0 ∨ z = 1) → 0 ≤ x → (z = 1 → F 5 2 + d = π 1 2 ∧ x ≤ F 5 2) → d + 2 < f → d + 2 < g →
    ∃ F' N', f_X0_fetch_p1_0_b51 r f (sR S r F) z x = some (sR S r F') ∧ f_X12_fetches_p4_0_b54 M g (wA T M 6 N) z = some (wA T M 6 N') ∧ RF π B e w o F' N' ∧ (∀ k, F' 8 k = F 8 k) := by
  have p3 := (ct_R hC).2.2.2.1
  have hend : ∀ (x : Int) (F : xR) (N : Nat → Int) (f g : Nat), RF π B e w o F N → 0 < f → 0 < g → ∃ F' N', f_X0_fetch_p1_0_b51 r f (sR S r F) 0 x = some (sR S r F') ∧ f_X12_fetches_p4_0_b54 M g (wA T M 6 N) 0 = some (wA T M 6 N') ∧ RF π B e w o F' N' ∧ (∀ k, F' 8 k = F 8 k) := by
    intro x F N f g hF hf hg
    obtain ⟨f, rfl⟩ := fs_e hf
    obtain ⟨g, rfl⟩ := fs_e hg
    refine ⟨F, N, ?_, ?_, hF, fun k => rfl⟩
    · rw [f_X0_fetch_p1_0_b51, if_pos (by decide)]
    · rw [f_X12_fetches_p4_0_b54, if_pos (by decide)]
  intro d
  induction d with
  | zero =>
    intro x z F N f g hF hz hx h1 hf hg
    rcases hz with rfl | rfl
    · exact hend x F N f g hF (by omega) (by omega)
    · obtain ⟨f, rfl⟩ := fs_e (show 0 < f by omega)
      obtain ⟨g, rfl⟩ := fs_e (show 0 < g by omega)
      have h1 := h1 rfl
      obtain ⟨z, F1, N1, a1, a2, a3, a4, a5, a6⟩ := p_mark hC hF
      have a2' := a2 f x hx (by omega)
      rw [a2', f_X12_fetches_p4_0_b54, wr_e (z := 1) (by decide), if_neg (by decide), a3]
      simp only [bd2_e]
      have z0 : z = 0 := by
        rcases a1 with h | h
        · exact h
        · have := a6 h
          omega
      subst z0
      obtain ⟨F', N', b1, b2, b3, b4⟩ := hend (x + 1) F1 N1 f g a4 (by omega) (by omega)
      exact ⟨F', N', b1, b2, b3, fun k => by rw [b4, a5]⟩
  | succ d ih =>
    intro x z F N f g hF hz hx h1 hf hg
    rcases hz with rfl | rfl
    · exact hend x F N f g hF (by omega) (by omega)
    · obtain ⟨f, rfl⟩ := fs_e (show 0 < f by omega)
      obtain ⟨g, rfl⟩ := fs_e (show 0 < g by omega)
      have h1 := h1 rfl
      obtain ⟨z, F1, N1, a1, a2, a3, a4, a5, a6⟩ := p_mark hC hF
      have a2' := a2 f x hx (by omega)
      rw [a2', f_X12_fetches_p4_0_b54, wr_e (z := 1) (by decide), if_neg (by decide), a3]
      simp only [bd2_e]
      obtain ⟨F', N', b1, b2, b3, b4⟩ := ih (x + 1) z F1 N1 f g a4 a1 (by omega) (fun h => by have := a6 h; omega) (by omega) (by omega)
      exact ⟨F', N', b1, b2, b3, fun k => by rw [b4, a5]⟩
end D3
