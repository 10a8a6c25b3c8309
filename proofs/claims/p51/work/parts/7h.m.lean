/-! mathematics: parse ends; the law holds -/
section C3H
variable {T S S6 Z : xSt} {H H' P : xR} {n : Nat} {q : Nat → Int} {π : xR}
/-- what parse does behind readText -/
theorem tail_e (hR : PR π) (hf : 10000000 ≤ S6.1.1) (p4 : S6.2.2 0 0 4 = (11, 0)) (p5 : S6.2.2 0 0 5 = (12, 0)) (k11 : S6.1.2 11 = 2) (k12 : S6.1.2 12 = 2) (hπ : S6.2.1 12 = π) (hz : ∀ k : Nat, 1 ≤ k ∧ k ≤ 9 → ZB (S6.2.1 k)) (h8 : S6.2.1 0 8 1 = 0) : ∃ S', (ckP S6 0 0 4 2 0 fun rg7 => ckP S6 0 0 5 2 0 fun rg8 => lt1 (wP S6 0 0 4 (rg8, 0)) fun S9 => lt1 (wP S9 0 0 5 (rg7, 0)) fun S10 => ckP S10 0 0 4 2 0 fun rg11 => bd (f_X0_begin_p1_0_2_0 S10 (0 + 1) rg11) fun S13 => bd (f_X1_forget_p3_8 S13 0) fun S15 => lt1 (wI S15 0 0 9 0) fun S16 => ckP S16 0 0 4 2 0 fun rg17 => some ((gI S16 rg17 0 10), S16)) = some (π 0 10, S') ∧ WD π S' (bgF π (S6.2.1 1)) 0 0 := by
  generalize e10 : wP (wP S6 0 0 4 (12, 0)) 0 0 5 (11, 0) = S10
  have t1 : S10.1 = S6.1 := by
    rw [← e10]
    rfl
  have t2 : S10.2.1 = S6.2.1 := by
    rw [← e10]
    rfl
  have t4 : S10.2.2 0 0 4 = (12, 0) := by
    rw [← e10]
    rfl
  have hb := p_begin (S := S10) (r := 1) (r1 := 12) (G := S10.2.1 1) (π := π) (by decide) (by rw [t2]; exact hπ) (by show _ ≤ S10.1.1; rw [t1]; exact hf) (by rw [t2]; exact hz 1 (by decide))
  rw [sR_e, t2] at hb
  generalize e13 : wP S10 1 0 0 (12, 0) = S12 at hb
  have u1 : S12.1 = S6.1 := by
    rw [← e13]
    exact t1
  have u2 : S12.2.1 = S6.2.1 := by
    rw [← e13]
    exact t2
  have u4 : S12.2.2 0 0 4 = (12, 0) := by
    rw [← e13]
    exact t4
  have u5 : S12.2.2 1 0 0 = (12, 0) := by
    rw [← e13]
    rfl
  have c1 : ∀ {β : Type} {f : Nat → Option β}, ckP S6 0 0 4 2 0 f = f 11 := fun {β f} => ckP_e p4 k11
  have c2 : ∀ {β : Type} {f : Nat → Option β}, ckP S6 0 0 5 2 0 f = f 12 := fun {β f} => ckP_e p5 k12
  have c3 : ∀ {β : Type} {f : Nat → Option β}, ckP S10 0 0 4 2 0 f = f 12 := fun {β f} => ckP_e t4 (by show S10.1.2 12 = 2; rw [t1]; exact k12)
  have w1 := w_wI (S := sR S12 1 (bgF π (S6.2.1 1))) (r := 0) (o := 8) (k := 2) (z := 0)
  rw [sR_n1 (by decide), u2] at w1
  have w2 := w_wI (S := sR (sR S12 1 (bgF π (S6.2.1 1))) 0 (uF (S6.2.1 0) 8 2 0)) (r := 0) (o := 0) (k := 9) (z := 0)
  rw [sR_g1, sR_s] at w2
  have c4 : ∀ {β : Type} {f : Nat → Option β}, ckP (sR (sR S12 1 (bgF π (S6.2.1 1))) 0 (uF (uF (S6.2.1 0) 8 2 0) 0 9 0)) 0 0 4 2 0 f = f 12 := fun {β f} => ckP_e u4 (by show S12.1.2 12 = 2; rw [u1]; exact k12)
  have g12 : gI (sR (sR S12 1 (bgF π (S6.2.1 1))) 0 (uF (uF (S6.2.1 0) 8 2 0) 0 9 0)) 12 0 10 = π 0 10 := by
    rw [sR_n (by decide), sR_n (by decide)]
    show S12.2.1 12 0 10 = _
    rw [u2, hπ]
  refine ⟨sR (sR S12 1 (bgF π (S6.2.1 1))) 0 (uF (uF (S6.2.1 0) 8 2 0) 0 9 0), ?_, ?_, u4, ?_, ?_, u5, ?_, fun k hk => ?_, ?_, ?_⟩
  · rw [c1, c2, lt1_e, lt1_e, e10, c3, show (0 : Nat) + 1 = 1 from rfl, hb, bd_e]
    unfold f_X1_forget_p3_8
    rw [w1, lt1_e, bd_e, w2, lt1_e, c4, g12]
  · show 10000000 ≤ S12.1.1
    rw [u1]
    exact hf
  · show S12.1.2 12 = 2
    rw [u1]
    exact k12
  · rw [sR_n1 (by decide), sR_n1 (by decide), u2]
    exact hπ
  · rw [sR_n1 (by decide), sR_g1]
  · rw [sR_n1 (by omega), sR_n1 (by omega), u2]
    exact hz k (by omega)
  · rw [sR_g1, uF_o (by decide), uF_k (by decide)]
    exact h8
  · rw [sR_g1, uF_o (by decide), uF_e]
/-- parse -/
theorem par_e (k0 : Z.1.2 0 = 3) (k11 : Z.1.2 11 = 2) (k12 : Z.1.2 12 = 2) (hfu : 10000000 ≤ Z.1.1) (p4 : Z.2.2 0 0 4 = (11, 0)) (p5 : Z.2.2 0 0 5 = (12, 0)) (hz : ∀ k : Nat, 1 ≤ k ∧ k ≤ 9 → ZB (Z.2.1 k)) (h8 : H 8 1 = 0) (hl : H 0 1 = ((setT n q).length : Int)) (hH : ∀ j : Nat, j < (setT n q).length → H 1 j = (setT n q).getD j 0) : ∃ S' π F, f_X11_parse_p3_0 (PZ Z H P) 0 = some (((drN n q 8 1 12 : Nat) : Int), S') ∧ PR π ∧ FI π 0 F ∧ F 15 1 = 0 ∧ WD π S' F 0 0 := by
  obtain ⟨T, H', π, e, ⟨t1, t2, t3, t4⟩, hK, hR, hn⟩ := rt_all (P := P) k0 k12 hfu hH
  have c1 : ∀ {β : Type} {f : Nat → Option β}, ckP (PZ Z H P) 0 0 5 2 0 f = f 12 := fun {β f} => ckP_e p5 k12
  have z1 : ∀ k : Nat, 1 ≤ k ∧ k ≤ 9 → (PZ T (uF H' 0 1 0) π).2.1 k = Z.2.1 k := fun k hk => by
    unfold PZ
    rw [sR_n1 (by omega), sR_n1 (by omega), t2]
  obtain ⟨S', e2, hW⟩ := tail_e (S6 := PZ T (uF H' 0 1 0) π) hR (by show _ ≤ T.1.1; rw [t1]; exact hfu) (by show T.2.2 0 0 4 = _; rw [t4]; exact p4) (by show T.2.2 0 0 5 = _; rw [t4]; exact p5) (by show T.1.2 11 = 2; rw [t1]; exact k11) (by show T.1.2 12 = 2; rw [t1]; exact k12) sR_g1 (fun k hk => by rw [z1 k hk]; exact hz k hk) (by
    unfold PZ
    rw [sR_n1 (by decide), sR_g1, uF_o (by decide), hK 8 1 (by decide) (by decide)]
    exact h8)
  have zG : ZB ((PZ T (uF H' 0 1 0) π).2.1 1) := by
    rw [z1 1 (by decide)]
    exact hz 1 (by decide)
  refine ⟨S', π, _, ?_, hR, bg_fi hR zG, rfl, hW⟩
  unfold f_X11_parse_p3_0
  rw [c1, ps_0, hl, e, bd2_e, ps_w0, lt1_e, if_pos (by decide), e2, hn]
/-- the law behind the makers -/
theorem law_ok {S12 : xSt} (hn : n ≤ 260) (hf : 10000000 ≤ S12.1.1) (hz : ∀ k : Nat, 1 ≤ k ∧ k ≤ 9 → ZB (S12.2.1 k)) (k11 : S12.1.2 11 = 2) (k12 : S12.1.2 12 = 2) : LAWOK n q (newS S12 0 3 sg0 rg0) := by
  intro g hg
  have hl := setT_len (n := n) (q := q)
  generalize eZ : newS (newS S12 0 3 sg0 rg0) 50 (100 + (setT n q).length) (txs g) (fun _ _ => nul) = Z
  have f1 : 10000000 ≤ Z.1.1 := by
    rw [← eZ]
    exact hf
  have a0 : Z.1.2 0 = 3 := by
    rw [← eZ, nS_k (by decide)]
    exact nS_s
  have a11 : Z.1.2 11 = 2 := by
    rw [← eZ, nS_k (by decide), nS_k (by decide)]
    exact k11
  have a12 : Z.1.2 12 = 2 := by
    rw [← eZ, nS_k (by decide), nS_k (by decide)]
    exact k12
  have b0 : Z.2.1 0 = sg0 := by
    rw [← eZ, nS_n (by decide)]
    exact nS_1
  have b50 : Z.2.1 50 = txs g := by
    rw [← eZ]
    exact nS_1
  have bk : ∀ k : Nat, 1 ≤ k ∧ k ≤ 9 → ZB (Z.2.1 k) := fun k hk => by
    rw [← eZ, nS_n (by omega), nS_n (by omega)]
    exact hz k hk
  have c0 : Z.2.2 0 = rg0 := by
    rw [← eZ, nS_p (by decide)]
    rfl
  obtain ⟨Sx, N, H', e0, hN, hD, hT, h1, h2, h3⟩ := fd_all (S := Z) (m := (setT n q).length) (tx := fun j => (setT n q).getD j 0) (fun i hi => setT_asc i hi) (by omega) f1 (by rw [b0]; rfl) ⟨by show Z.2.1 50 0 1 = 0; rw [b50]; rfl, fun k hk => by
    show Z.2.1 50 1 k = _
    rw [b50]
    exact hg k hk⟩
  have h8 : H' 8 1 = 0 := by
    rw [h3 8 1 (by decide) (Or.inl (by decide)), b0]
    rfl
  obtain ⟨S', π, F, e3, hR, hF, hD0, hW⟩ := par_e (P := Z.2.1 12) a0 a11 a12 f1 (by rw [c0]; rfl) (by rw [c0]; rfl) bk h8 h1 h2
  have eP : PZ Z H' (Z.2.1 12) = sR Z 0 H' := by
    unfold PZ
    exact (sR_i (sR_n1 (by decide))).symm
  rw [eP] at e3
  obtain ⟨S4, e4⟩ := l_law (n := n) (q := q) hR (by omega) hW (by decide) (by decide) hF (by decide) (by omega)
  exact ⟨Sx, N, sR Z 0 H', S', S4, 1, _, e0, hN, hD, hT, e3, e4⟩
end C3H
