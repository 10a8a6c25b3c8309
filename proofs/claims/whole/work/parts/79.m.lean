/-! mathematics: an instruction of the text -/
def APP (Y : xR) (a1 a2 a3 a4 : Int) : xR := uF (uF (uF (uF (uF Y 5 (Y 0 10).toNat a1) 6 (Y 0 10).toNat a2) 7 (Y 0 10).toNat a3) 8 (Y 0 10).toNat a4) 0 10 (Y 0 10 + 1)
/-- but for the draft s, the drafts are not moved -/
def MS (s : Nat) (μ μ' : xR) : Prop := ∀ o k : Nat, ((o = 0 ∧ (k = 30 ∨ (32 ≤ k ∧ k ≤ 35))) ∨ o = 7 ∨ (14 ≤ o ∧ o ≤ 17 ∧ k ≠ s)) → μ' o k = μ o k
section IN
variable {S T : xSt} {q s : Nat} {n x p e t v : Int} {b : Nat → Int} {X X' Y μ μ1 μ2 μ' : xR}
theorem ms_f (h : MF μ μ1) : MS s μ μ1 := fun o k a => h o k (by omega)
theorem ms_r : MS s μ μ := fun o k a => rfl
theorem ms_t (h : MS s μ μ1) (h2 : MS s μ1 μ2) : MS s μ μ2 := fun o k a => (h2 o k a).trans (h o k a)
theorem ms_u (h : MS s μ μ1) {o k : Nat} {z : Int} (ho : (14 ≤ o ∧ o ≤ 17 ∧ k = s) ∨ (o = 0 ∧ k = 31)) : MS s μ (uF μ1 o k z) := fun o' k' a => by
  rw [uF_n (by omega)]
  exact h o' k' a
theorem sn_u (h : SN S T q n b X μ x p e t v) {o k : Nat} {z : Int} (hk : ¬ (o = 0 ∧ 22 ≤ k ∧ k ≤ 29)) (h13 : o ≠ 13) : SN S T q n b X (uF μ o k z) x p e t v := by
  obtain ⟨h1, h2, h3, h4, h5⟩ := h
  exact ⟨h1, h2, h3, mtk_u h4 (by omega) h13, by rw [uF_n (by omega)]; exact h5⟩
theorem c_append (hS : W2 q S) (hs : Y 0 10 = (s : Int)) (hs2 : s < 60) {a1 a2 a3 a4 : Int} (h2 : a2 = 0 ∨ a2 = 1) : f_X5_append_p2_0 (cs S q X Y) q a1 a2 a3 a4 = some (cs S q X (APP Y a1 a2 a3 a4)) := by
  have ew : wr ((s : Nat) : Int) = (s : Int) := wr_e (by omega)
  unfold f_X5_append_p2_0 APP
  rw [cs_q hS, cs_q hS, sR_g, hs, ew, wr_e (z := 60) (by decide), if_neg (by omega), if_neg (by omega), ckI_e (by omega), Int.toNat_natCast, sR_w, lt1_e, sR_g, uF_n (by omega), hs, ckI_e (by omega), ckB_e h2, ew, Int.toNat_natCast, sR_w, lt1_e, sR_g, uF_n (by omega), uF_n (by omega), hs, ckI_e (by omega), ew, Int.toNat_natCast, sR_w, lt1_e, sR_g, uF_n (by omega), uF_n (by omega), uF_n (by omega), hs, ckI_e (by omega), ew, Int.toNat_natCast, sR_w, lt1_e, sR_g, uF_n (by omega), uF_n (by omega), uF_n (by omega), uF_n (by omega), hs, sR_w, lt1_e]
theorem dr_app {kd lg st tm : Int} (h : DR X Y μ) (hs : Y 0 10 = (s : Int)) (hs2 : s < 60) (hX : ∀ k, X' 3 k = X 3 k) (hM : MS s μ μ') (h31 : μ' 0 31 = (s : Int) + 1) (h14 : μ' 14 s = kd) (h15 : μ' 15 s = lg) (h16 : 8 ≤ kd → μ' 16 s = st ∧ -(s : Int) ≤ st ∧ st ≤ 10) (h17 : kd = 9 → μ' 17 s = tm ∧ 1 ≤ tm ∧ tm ≤ 99) (hk : 0 ≤ kd ∧ kd ≤ 9) (hl : lg = 0 ∨ lg = 1) : DR X' (APP Y kd lg st tm) μ' := by
  obtain ⟨h1, h2, h3, h4, h5, h6⟩ := h
  have e7 : ∀ k, μ' 7 k = μ 7 k := fun k => hM 7 k (by omega)
  have e0 : ∀ k, 32 ≤ k → k ≤ 35 → μ' 0 k = μ 0 k := fun k a b => hM 0 k (by omega)
  have es : (Y 0 10).toNat = s := by omega
  unfold APP
  rw [es, hs]
  refine ⟨?_, ?_, ?_, ?_, ?_, ?_⟩
  · unfold DRs at h1 ⊢
    simp (disch := omega) only [uF_e, uF_n]
    rw [e7, e7, e7, e0 33 (by decide) (by decide), e0 34 (by decide) (by decide), e0 35 (by decide) (by decide)]
    exact h1
  · obtain ⟨m, a, b, c⟩ := h2
    exact ⟨m, a, by rw [e0 32 (by decide) (by decide)]; exact b, fun s hs => by rw [hX]; exact c s hs⟩
  · unfold DRr at h3 ⊢
    simp (disch := omega) only [uF_e, uF_n]
    simp only [e7]
    exact h3
  · obtain ⟨i1, i2, i3⟩ := h4
    refine ⟨?_, ?_, fun k hk2 => ?_⟩
    · simp (disch := omega) only [uF_e, uF_n]
      omega
    · simp (disch := omega) only [uF_e, uF_n]
      omega
    · rw [uF_e] at hk2
      unfold DRk
      by_cases c : k = s
      · subst c
        simp (disch := omega) only [uF_e, uF_n]
        exact ⟨hk, h14, hl, h15, fun a => by obtain ⟨u1, u2, u3⟩ := h16 a; exact ⟨u1.symm, u2, u3⟩, fun a => by obtain ⟨u1, u2, u3⟩ := h17 a; exact ⟨u1.symm, u2, u3⟩⟩
      · have d := i3 k (by omega)
        unfold DRk at d
        simp (disch := omega) only [uF_e, uF_n]
        rw [hM 14 k (by omega), hM 15 k (by omega), hM 16 k (by omega), hM 17 k (by omega)]
        exact d
  · unfold DRz at h5 ⊢
    simp only [e7]
    exact h5
  · simp (disch := omega) only [uF_e, uF_n]
    rw [hM 0 30 (by omega)]
    exact h6
def OUT (S T : xSt) (q : Nat) (n : Int) (b : Nat → Int) (fc : Option (Int × xSt)) (fm : Option xSt) (X Y μ : xR) (p0 : Int) : Prop := (∃ X' Y' μ' x p e t v, fc = some (1, cs S q X' Y') ∧ fm = some (sR T 13 μ') ∧ SN S T q n b X' μ' x p e t v ∧ DR X' Y' μ' ∧ XG X X' ∧ MD μ μ' ∧ Y 0 10 ≤ Y' 0 10 ∧ p0 < x) ∨ (∃ X' Y' μ', fc = some (0, cs S q X' Y') ∧ fm = some (sR T 13 μ') ∧ ERR X μ X' μ')
theorem k_ins2 (hS : W2 q S) (hT : 10000000 ≤ fu T) (hn : BT n b) (hX : CTK n b X p e t v) (hM : MTK n b μ p e t v) (ht : TOK n b p e t v) (hc : μ 0 29 = 0) (hD : DR X Y μ) (hs : Y 0 10 = (s : Int)) (hs2 : s < 60) {lg : Int} (hl : lg = 0 ∨ lg = 1) (h15 : μ 15 s = lg) : OUT S T q n b (f_X3_readInstruction_p3_2_b51 0 (cs S q X Y) lg) (f_X12_readsInstruction_p4_0_b66 13 (sR T 13 μ) (s : Int)) X Y μ p := by
  have ew : wr ((s : Nat) : Int) = (s : Int) := wr_e (by omega)
  have hgk := m_kind (T := T) hc hM ht
  have hqk := c_kind (Y := Y) hS hn hX ht
  have hpe := ht.2.2.2.2
  by_cases c : t = 1 ∧ 0 ≤ v ∧ v ≤ 9
  · have hpe := hpe (by omega)
    rw [if_pos c] at hgk hqk
    obtain ⟨p2, e2, t2, v2, n1⟩ := nx hS hT hn ht
    have h26 := hM.2.2.2.2.1 c.1
    obtain ⟨μ1, g1, g2, g3, g4⟩ := av_m (mtk_u hM (o := 14) (k := s) (z := v) (by omega) (by decide)) (by rw [uF_n (by omega)]; exact hc) n1
    have hMa : MTK n b (uF (uF μ1 16 s 0) 17 s 0) p2 e2 t2 v2 := mtk_u (mtk_u g2 (by omega) (by decide)) (by omega) (by decide)
    have hca : (uF (uF μ1 16 s 0) 17 s 0) 0 29 = 0 := by
      simp (disch := omega) only [uF_e, uF_n]
      exact g4
    have h14a : (uF (uF μ1 16 s 0) 17 s 0) 14 s = v := by
      simp (disch := omega) only [uF_e, uF_n]
      rw [g3 14 s (by omega), uF_e]
    have h15a : (uF (uF μ1 16 s 0) 17 s 0) 15 s = lg := by
      simp (disch := omega) only [uF_e, uF_n]
      rw [g3 15 s (by omega), uF_n (by omega), h15]
    have msa : MS s μ (uF (uF μ1 16 s 0) 17 s 0) := ms_u (ms_u (ms_t (ms_u ms_r (o := 14) (k := s) (z := v) (by omega)) (ms_f g3)) (by omega)) (by omega)
    have mda : MD μ (uF (uF μ1 16 s 0) 17 s 0) := md_u (md_u (md_t (md_u md_r (o := 14) (k := s) (z := v) (by omega)) (mf_d g3)) (by omega)) (by omega)
    have hm : f_X12_readsInstruction_p4_0_b66 13 (sR T 13 μ) (s : Int) = (if v < 8 then f_X12_readsInstruction_p4_0_b127 13 (sR T 13 (uF (uF μ1 16 s 0) 17 s 0)) (s : Int) else bd (f_X12_readsTarget_p4_0 (sR T 13 (uF (uF μ1 16 s 0) 17 s 0)) 13 (s : Int)) fun S44 => f_X12_readsInstruction_p4_0_b127 13 S44 (s : Int)) := by
      unfold f_X12_readsInstruction_p4_0_b66
      rw [hgk, bd2_e, m_yes, bd_e, ckI_e (by omega), sR_g, h26, ew, Int.toNat_natCast, sR_w, lt1_e, g1, bd_e, ckI_e (by omega), sR_w, lt1_e, ckI_e (by omega), sR_w, lt1_e, m_fine hca, bd2_e, if_pos (by decide), ckI_e (by omega), sR_g, h14a, wr_e (z := v) (by omega), wr_e (z := 8) (by decide)]
    have hcl : f_X3_readInstruction_p3_2_b51 0 (cs S q X Y) lg = (if v < 8 then f_X3_readInstruction_p3_2_b81 0 (cs S q X Y) lg v (-1) else bd2 (f_X3_readTarget_p3_2 (cs S q X Y) 0) fun v20 S19 => f_X3_readInstruction_p3_2_b81 0 S19 lg v v20) := by
      unfold f_X3_readInstruction_p3_2_b51
      rw [hqk, bd2_e, wr_e (z := v) (by omega), wr_e (z := -1) (by decide), wr_e (z := 8) (by decide), if_pos (by omega)]
    have hSN := sn_of hX n1 hMa hca
    have h102 : ∀ (X' : xR) (st tm : Int), ¬ tm = -1 → (0 ≤ tm ∧ tm ≤ 99) → f_X3_readInstruction_p3_2_b102 0 (cs S q X' Y) lg v st tm = some (1, cs S q X' (APP Y v lg st tm)) := fun X' st tm h1 h2 => by
      unfold f_X3_readInstruction_p3_2_b102
      rw [wr_e (z := tm) (by omega), wr_e (z := -1) (by decide), if_pos h1, cs_p hS, c_append hS hs hs2 hl, bd_e]
    have h143 : ∀ μ' : xR, μ' 0 29 = 0 → f_X12_readsInstruction_p4_0_b143 13 (sR T 13 μ') (s : Int) = some (sR T 13 (uF μ' 0 31 ((s : Int) + 1))) := fun μ' h => by
      unfold f_X12_readsInstruction_p4_0_b143
      rw [m_fine h, bd2_e, if_neg (by decide), sR_w, lt1_e]
    have e143 : ∀ μ' : xR, HE μ' → f_X12_readsInstruction_p4_0_b143 13 (sR T 13 μ') (s : Int) = some (sR T 13 μ') := fun μ' h => by
      unfold f_X12_readsInstruction_p4_0_b143
      rw [e_fine h, bd2_e, if_pos (by decide)]
    have h127 : ∀ μ' : xR, μ' 14 s = v → f_X12_readsInstruction_p4_0_b127 13 (sR T 13 μ') (s : Int) = (if ¬ v = 9 then f_X12_readsInstruction_p4_0_b143 13 (sR T 13 μ') (s : Int) else bd (f_X12_readsTimes_p4_0 (sR T 13 μ') 13 (s : Int)) fun S41 => f_X12_readsInstruction_p4_0_b143 13 S41 (s : Int)) := fun μ' h => by
      unfold f_X12_readsInstruction_p4_0_b127
      rw [ckI_e (by omega), sR_g, ew, Int.toNat_natCast, h, wr_e (z := v) (by omega), wr_e (z := 9) (by decide)]
    have h10 : ∀ st tm : Int, Y 0 10 ≤ (APP Y v lg st tm) 0 10 := fun st tm => by
      unfold APP
      rw [uF_e]
      omega
    by_cases c8 : v < 8
    · left
      refine ⟨X, APP Y v lg (-1) 0, uF (uF (uF μ1 16 s 0) 17 s 0) 0 31 ((s : Int) + 1), e, p2, e2, t2, v2, ?_, ?_, sn_u hSN (by omega) (by decide), dr_app hD hs hs2 (fun _ => rfl) (ms_u msa (by omega)) uF_e (by rw [uF_n (by omega)]; exact h14a) (by rw [uF_n (by omega)]; exact h15a) (fun h => absurd h (by omega)) (fun h => absurd h (by omega)) c.2 hl, fun o k _ _ => rfl, md_u mda (by omega), h10 _ _, hpe⟩
      · rw [hcl, if_pos c8]
        unfold f_X3_readInstruction_p3_2_b81
        rw [if_pos (by decide), wr_e (z := v) (by omega), wr_e (z := 9) (by decide), if_pos (by omega), h102 X _ _ (by decide) (by decide)]
      · rw [hm, if_pos c8, h127 _ h14a, if_pos (by omega), h143 _ hca]
    · rw [if_neg c8] at hm hcl
      rcases k_tgt hS hT hn hSN hs2 hs with ⟨st, X1, μ2, x2, p3, e3, t3, v3, a0, a1, a2, a3, a4, a5, a6⟩ | ⟨X1, μ2, a1, a2, a3⟩
      · have h14b : (uF μ2 16 s st) 14 s = v := by
          rw [uF_n (by omega), a5 14 s (by omega), h14a]
        have h15b : (uF μ2 16 s st) 15 s = lg := by
          rw [uF_n (by omega), a5 15 s (by omega), h15a]
        have msb : MS s μ (uF μ2 16 s st) := ms_u (ms_t msa (ms_f a5)) (by omega)
        have mdb : MD μ (uF μ2 16 s st) := md_u (md_t mda (mf_d a5)) (by omega)
        have hSb : SN S T q n b X1 (uF μ2 16 s st) x2 p3 e3 t3 v3 := sn_u a3 (by omega) (by decide)
        have h81 : f_X3_readInstruction_p3_2_b81 0 (cs S q X1 Y) lg v st = (if ¬ v = 9 then f_X3_readInstruction_p3_2_b102 0 (cs S q X1 Y) lg v st 0 else bd2 (f_X3_readTimes_p3_2 (cs S q X1 Y) 0) fun v15 S14 => f_X3_readInstruction_p3_2_b102 0 S14 lg v st v15) := by
          unfold f_X3_readInstruction_p3_2_b81
          rw [wr_e (z := st) (by omega), if_pos a0.1, wr_e (z := v) (by omega), wr_e (z := 9) (by decide)]
        by_cases c9 : v = 9
        · rw [if_neg (fun h => h c9)] at h81
          rcases k_tim hS hT hn hSb hs2 Y with ⟨tm, X2, μ3, x3, p4, e4, t4, v4, d0, d1, d2, d3, d4, d5, d6⟩ | ⟨X2, μ3, d1, d2, d3⟩
          · left
            refine ⟨X2, APP Y v lg st tm, uF (uF μ3 17 s tm) 0 31 ((s : Int) + 1), x3, p4, e4, t4, v4, ?_, ?_, sn_u (sn_u d3 (by omega) (by decide)) (by omega) (by decide), dr_app hD hs hs2 (fun k => (xf_3 d4 k).trans (xf_3 a4 k)) (ms_u (ms_u (ms_t msb (ms_f d5)) (by omega)) (by omega)) uF_e ?_ ?_ (fun _ => ⟨?_, a0.2⟩) (fun _ => ⟨by rw [uF_n (by omega), uF_e], d0⟩) c.2 hl, xf_g (xf_t a4 d4), md_u (md_u (md_t mdb (mf_d d5)) (by omega)) (by omega), h10 _ _, by omega⟩
            · rw [hcl, a1, bd2_e, h81, d1, bd2_e, h102 X2 _ _ (by omega) (by omega)]
            · rw [hm, a2, bd_e, h127 _ h14b, if_neg (fun h => h c9), d2, bd_e, h143 _ (by rw [uF_n (by omega)]; exact d3.2.2.2.2)]
            · rw [uF_n (by omega), uF_n (by omega), d5 14 s (by omega), h14b]
            · rw [uF_n (by omega), uF_n (by omega), d5 15 s (by omega), h15b]
            · rw [uF_n (by omega), uF_n (by omega), d5 16 s (by omega), uF_e]
          · right
            refine ⟨X2, Y, μ3, ?_, ?_, err_tr (xf_b a4) mdb d3⟩
            · rw [hcl, a1, bd2_e, h81, d1, bd2_e]
              unfold f_X3_readInstruction_p3_2_b102
              rw [if_neg (by decide)]
            · rw [hm, a2, bd_e, h127 _ h14b, if_neg (fun h => h c9), d2, bd_e, e143 _ (err_he d3)]
        · rw [if_pos c9] at h81
          left
          refine ⟨X1, APP Y v lg st 0, uF (uF μ2 16 s st) 0 31 ((s : Int) + 1), x2, p3, e3, t3, v3, ?_, ?_, sn_u hSb (by omega) (by decide), dr_app hD hs hs2 (xf_3 a4) (ms_u msb (by omega)) uF_e (by rw [uF_n (by omega)]; exact h14b) (by rw [uF_n (by omega)]; exact h15b) (fun _ => ⟨by rw [uF_n (by omega), uF_e], a0.2⟩) (fun h => absurd h c9) c.2 hl, xf_g a4, md_u mdb (by omega), h10 _ _, by omega⟩
          · rw [hcl, a1, bd2_e, h81, h102 X1 _ _ (by decide) (by decide)]
          · rw [hm, a2, bd_e, h127 _ h14b, if_pos c9, h143 _ hSb.2.2.2.2]
      · right
        have hE := err_he a3
        have hc0 : f_X3_readInstruction_p3_2_b51 0 (cs S q X Y) lg = some (0, cs S q X1 Y) := by
          rw [hcl, a1, bd2_e]
          unfold f_X3_readInstruction_p3_2_b81
          rw [if_neg (by decide)]
        by_cases c9 : wr (μ2 14 s) = wr 9
        · obtain ⟨μ3, d1, d2⟩ := e_tim (T := T) hE hs2
          refine ⟨X1, Y, μ3, hc0, ?_, err_ed (err_tr (xf_b xf_r) mda a3) d2⟩
          rw [hm, a2, bd_e]
          unfold f_X12_readsInstruction_p4_0_b127
          rw [ckI_e (by omega), sR_g, ew, Int.toNat_natCast, if_neg (fun h => h c9), d1, bd_e, e143 _ (he_ed d2 hE)]
        · refine ⟨X1, Y, μ2, hc0, ?_, err_tr (xf_b xf_r) mda a3⟩
          rw [hm, a2, bd_e]
          unfold f_X12_readsInstruction_p4_0_b127
          rw [ckI_e (by omega), sR_g, ew, Int.toNat_natCast, if_pos c9, e143 _ hE]
  · right
    rw [if_neg c] at hgk hqk
    have hE : HE (EM μ 1) := he_EM (by decide)
    have hE1 : HE (uF (EM μ 1) 14 s (EM μ 1 0 26)) := he_u hE (by omega)
    have hE2 : HE (uF (uF (uF (EM μ 1) 14 s (EM μ 1 0 26)) 16 s 0) 17 s 0) := he_u (he_u hE1 (by omega)) (by omega)
    refine ⟨FX X 1, Y, uF (uF (uF (EM μ 1) 14 s (EM μ 1 0 26)) 16 s 0) 17 s 0, ?_, ?_, err_of (by decide) (xf_b xf_r) md_r (ck_4 hX hM) (ed_u (ed_u (ed_u ed_r (by omega) (by omega)) (by omega) (by omega)) (by omega) (by omega))⟩
    · unfold f_X3_readInstruction_p3_2_b51
      rw [hqk, bd2_e, if_neg (by decide), c_fail, bd2_e]
    · unfold f_X12_readsInstruction_p4_0_b66
      rw [hgk, bd2_e, m_no hc, bd_e, ckI_e (by omega), sR_g, ew, Int.toNat_natCast, sR_w, lt1_e, e_on hE1, bd_e, ckI_e (by omega), sR_w, lt1_e, ckI_e (by omega), sR_w, lt1_e, e_fine hE2, bd2_e, if_neg (by decide)]
theorem k_ins (hS : W2 q S) (hT : 10000000 ≤ fu T) (hn : BT n b) (hX : CTK n b X p e t v) (hM : MTK n b μ p e t v) (ht : TOK n b p e t v) (hc : μ 0 29 = 0) (hD : DR X Y μ) (hk : t = 1 ∧ ((0 ≤ v ∧ v ≤ 9) ∨ v = 18)) : OUT S T q n b (f_X3_readInstruction_p3_2 (cs S q X Y) 0) (f_X12_readsInstruction_p4_0 (sR T 13 μ) 13) X Y μ p := by
  obtain ⟨i1, i2, i3⟩ := id hD.2.2.2.1
  obtain ⟨s, hs⟩ : ∃ s : Nat, Y 0 10 = (s : Int) := ⟨(Y 0 10).toNat, by omega⟩
  have ew : wr ((s : Nat) : Int) = (s : Int) := wr_e (by omega)
  have h31 : μ 0 31 = (s : Int) := by rw [← i1, hs]
  have hgw := m_isw (T := T) hc hM ht (w := 18) (by decide)
  have hqw := c_tok (Y := Y) hS hn hX ht (w := 18) (by decide)
  rw [show wtx 18 = 18 by decide, show ((18 : Nat) : Int) = 18 by decide] at hqw
  have hqk := c_kind (Y := Y) hS hn hX ht
  have hpe := ht.2.2.2.2 (by omega)
  have hcl : f_X3_readInstruction_p3_2 (cs S q X Y) 0 = f_X3_readInstruction_p3_2_b25 0 (cs S q X Y) (if v = 18 then 1 else 0) := by
    unfold f_X3_readInstruction_p3_2
    rw [hqw, bd2_e]
    by_cases c : v = 18
    · rw [if_pos (show t = 1 ∧ v = 18 from ⟨hk.1, c⟩), if_pos (by decide), if_pos c]
    · rw [if_neg (show ¬ (t = 1 ∧ v = 18) from fun h => c h.2), if_neg (by decide), hqk, bd2_e, if_pos (show t = 1 ∧ 0 ≤ v ∧ v ≤ 9 by omega), wr_e (z := v) (by omega), wr_e (z := -1) (by decide), if_pos (by omega), if_neg c]
  by_cases hs2 : s < 60
  · have hm : f_X12_readsInstruction_p4_0 (sR T 13 μ) 13 = (if v = 18 then f_X12_readsInstruction_p4_0_b51 13 (sR T 13 μ) (s : Int) 1 (s : Int) else f_X12_readsInstruction_p4_0_b51 13 (sR T 13 μ) (s : Int) 0 (s : Int)) := by
      unfold f_X12_readsInstruction_p4_0
      rw [sR_g, h31, ew, wr_e (z := 60) (by decide), if_neg (by omega)]
      unfold f_X12_readsInstruction_p4_0_b15
      rw [m_yes, bd_e, m_fine hc, bd2_e, if_pos (by decide), hgw, bd2_e]
      by_cases c : v = 18
      · rw [if_pos (show t = 1 ∧ v = 18 from ⟨hk.1, c⟩), if_neg (by decide), if_pos c, sR_g, h31]
      · rw [if_neg (show ¬ (t = 1 ∧ v = 18) from fun h => c h.2), if_pos (by decide), if_neg c, sR_g, h31]
    have hcl2 : ∀ lg : Int, f_X3_readInstruction_p3_2_b25 0 (cs S q X Y) lg = (if wr lg = 0 then f_X3_readInstruction_p3_2_b51 0 (cs S q X Y) lg else bd (f_X3_readToken_p3_2 (cs S q X Y) 0) fun S28 => f_X3_readInstruction_p3_2_b51 0 S28 lg) := fun lg => by
      unfold f_X3_readInstruction_p3_2_b25
      rw [cs_p hS, cs_y hS, hs, ew, wr_e (z := 60) (by decide), if_pos (by omega)]
    have hM1 : ∀ lg : Int, MTK n b (uF μ 15 s lg) p e t v := fun lg => mtk_u hM (by omega) (by decide)
    have hc1 : ∀ lg : Int, (uF μ 15 s lg) 0 29 = 0 := fun lg => by rw [uF_n (by omega)]; exact hc
    have ms1 : ∀ lg : Int, MS s μ (uF μ 15 s lg) := fun lg => ms_u ms_r (by omega)
    have md1 : ∀ lg : Int, MD μ (uF μ 15 s lg) := fun lg => md_u md_r (by omega)
    have hD1 : ∀ (lg : Int), DR X Y (uF μ 15 s lg) := fun lg => by
      obtain ⟨h1, h2, h3, h4, h5, h6⟩ := hD
      refine ⟨?_, ?_, ?_, ?_, ?_, h6.1, by rw [uF_n (by omega)]; exact h6.2⟩
      · unfold DRs at h1 ⊢
        simp (disch := omega) only [uF_e, uF_n]
        exact h1
      · unfold DRo at h2 ⊢
        simp (disch := omega) only [uF_e, uF_n]
        exact h2
      · unfold DRr at h3 ⊢
        simp (disch := omega) only [uF_e, uF_n]
        exact h3
      · refine ⟨by rw [uF_n (by omega)]; exact i1, i2, fun k hk => ?_⟩
        have d := i3 k hk
        unfold DRk at d ⊢
        simp (disch := omega) only [uF_e, uF_n]
        exact d
      · unfold DRz at h5 ⊢
        simp (disch := omega) only [uF_e, uF_n]
        exact h5
    by_cases c : v = 18
    · rw [if_pos c] at hm hcl
      obtain ⟨p2, e2, t2, v2, n1⟩ := nx hS hT hn ht
      obtain ⟨X1, r1, r2, r3⟩ := av_c hX n1 Y
      obtain ⟨μ1, g1, g2, g3, g4⟩ := av_m (hM1 1) (hc1 1) n1
      have hm2 : f_X12_readsInstruction_p4_0 (sR T 13 μ) 13 = f_X12_readsInstruction_p4_0_b66 13 (sR T 13 μ1) (s : Int) := by
        rw [hm]
        unfold f_X12_readsInstruction_p4_0_b51
        rw [ckI_e (by omega), ew, Int.toNat_natCast, sR_w, lt1_e, ckI_e (by omega), sR_g, uF_e, if_neg (fun h => h rfl), g1, bd_e]
      have hc2 : f_X3_readInstruction_p3_2 (cs S q X Y) 0 = f_X3_readInstruction_p3_2_b51 0 (cs S q X1 Y) 1 := by
        rw [hcl, hcl2, if_neg (by decide), r1, bd_e]
      have hx2 : p < p2 := by have := n1.2.1; omega
      rcases k_ins2 hS hT hn r2 g2 n1.1 g4 (dr_k (xf_3 r3) (mk_f g3) (hD1 1)) hs hs2 (lg := 1) (Or.inr rfl) (by rw [g3 15 s (by omega), uF_e]) with ⟨X', Y', μ', x', p', e', t', v', a1, a2, a3, a4, a5, a6, a7, a8⟩ | ⟨X', Y', μ', a1, a2, a3⟩
      · left
        exact ⟨X', Y', μ', x', p', e', t', v', hc2.trans a1, hm2.trans a2, a3, a4, xg_t (xf_g r3) a5, md_t (md_t (md1 1) (mf_d g3)) a6, a7, by omega⟩
      · right
        exact ⟨X', Y', μ', hc2.trans a1, hm2.trans a2, err_tr (xf_b r3) (md_t (md1 1) (mf_d g3)) a3⟩
    · rw [if_neg c] at hm hcl
      have hm2 : f_X12_readsInstruction_p4_0 (sR T 13 μ) 13 = f_X12_readsInstruction_p4_0_b66 13 (sR T 13 (uF μ 15 s 0)) (s : Int) := by
        rw [hm]
        unfold f_X12_readsInstruction_p4_0_b51
        rw [ckI_e (by omega), ew, Int.toNat_natCast, sR_w, lt1_e, ckI_e (by omega), sR_g, uF_e, if_pos (by decide)]
      have hc2 : f_X3_readInstruction_p3_2 (cs S q X Y) 0 = f_X3_readInstruction_p3_2_b51 0 (cs S q X Y) 0 := by
        rw [hcl, hcl2, if_pos (by decide)]
      rcases k_ins2 hS hT hn hX (hM1 0) ht (hc1 0) (hD1 0) hs hs2 (lg := 0) (Or.inl rfl) uF_e with ⟨X', Y', μ', x', p', e', t', v', a1, a2, a3, a4, a5, a6, a7, a8⟩ | ⟨X', Y', μ', a1, a2, a3⟩
      · left
        exact ⟨X', Y', μ', x', p', e', t', v', hc2.trans a1, hm2.trans a2, a3, a4, a5, md_t (md1 0) a6, a7, a8⟩
      · right
        exact ⟨X', Y', μ', hc2.trans a1, hm2.trans a2, err_tr (xf_b xf_r) (md1 0) a3⟩
  · right
    have hE : HE (EM μ 4) := he_EM (by decide)
    refine ⟨FX X 4, Y, EM μ 4, ?_, ?_, err_of (by decide) (xf_b xf_r) md_r (ck_4 hX hM) ed_r⟩
    · rw [hcl]
      unfold f_X3_readInstruction_p3_2_b25
      rw [cs_p hS, cs_y hS, hs, ew, wr_e (z := 60) (by decide), if_neg (by omega), c_fail, bd2_e]
    · unfold f_X12_readsInstruction_p4_0
      rw [sR_g, h31, ew, wr_e (z := 60) (by decide), if_pos (by omega)]
      unfold f_X12_readsInstruction_p4_0_b15
      rw [m_no hc, bd_e, e_fine hE, bd2_e, if_neg (by decide)]
end IN
