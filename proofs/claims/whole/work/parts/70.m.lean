/-! mathematics: whether what was decoded agrees with the plain decoder -/
section P3
variable {T : xSt} {π μ : xR}
def AOK (π : xR) (n : Nat) (R : Nat → Int) (i : Nat) : Prop := (plS π i).1 < π 0 10 ∧ (n ≤ i + 100 → R (i % 100) = (plS π i).1)
theorem m_agr {n : Nat} {R : Nat → Int} (hR : PR π) (h17 : μ 6 17 = (n : Int)) (hn : n ≤ 9000000) (hr : ∀ k : Nat, k < 100 → (k : Int) < (n : Int) → μ 6 (263 + k) = R k ∧ 0 ≤ R k ∧ R k < π 0 10) : ∀ (e d : Nat) (f : Nat) (g : Nat → Int) (z : Int), d + e = n → e < f → PM π (uF (uG μ 12 g) 0 19 z) → PMd π (uF (uG μ 12 g) 0 19 z) d → ∃ v g' z', f_X12_agrees_p4_0_b11 13 f (sR T 13 (uF (uG μ 12 g) 0 19 z)) (d : Int) = some (v, sR T 13 (uF (uG μ 12 g') 0 19 z')) ∧ ((∀ i : Nat, d ≤ i → i < n → AOK π n R i) → v = 1) ∧ ((¬ ∀ i : Nat, d ≤ i → i < n → AOK π n R i) → v = 0) := by
  have p0 := pr_n hR
  intro e
  induction e with
  | zero =>
    intro d f g z h hf hM hd
    obtain ⟨f, rfl⟩ := fs_e (show 0 < f by omega)
    refine ⟨1, g, z, ?_, fun _ => rfl, fun h2 => absurd (fun i a b => absurd b (by omega)) h2⟩
    rw [f_X12_agrees_p4_0_b11, sR_g, uF_o (by decide), uG_o (by decide), h17, wr_e (z := (n : Int)) (by omega), wr_e (z := (d : Int)) (by omega), if_pos (by omega)]
  | succ e ih =>
    intro d f g z h hf hM hd
    obtain ⟨f, rfl⟩ := fs_e (show 0 < f by omega)
    have hz : z = (plS π d).1 := by
      have := hd.1
      rw [uF_e] at this
      exact this
    have r := (pl_rng hR d).1
    rw [f_X12_agrees_p4_0_b11, sR_g, uF_o (by decide), uG_o (by decide), h17, wr_e (z := (n : Int)) (by omega), wr_e (z := (d : Int)) (by omega), if_neg (by omega), sR_g, uF_e, sR_g, hM.1, wr_e (z := z) (by omega), wr_e (z := π 0 10) (by omega)]
    by_cases c : z = π 0 10
    · refine ⟨0, g, z, by rw [if_neg (fun h => h c)], fun h2 => ?_, fun _ => rfl⟩
      have := (h2 d (Nat.le_refl d) (by omega)).1
      exact absurd this (by omega)
    · rw [if_pos c, wr_e (z := 100) (by decide), wr_e (z := (n : Int) - 1 - d) (by omega)]
      have hgo : ∀ f, (∃ v g' z', (bd (f_X12_plainGoesOn_p4_0 (sR T 13 (uF (uG μ 12 g) 0 19 z)) 13) fun S5 => f_X12_agrees_p4_0_b11 13 f S5 ((d : Int) + 1)) = some (v, sR T 13 (uF (uG μ 12 g') 0 19 z')) ∧ ((∀ i : Nat, d + 1 ≤ i → i < n → AOK π n R i) → v = 1) ∧ ((¬ ∀ i : Nat, d + 1 ≤ i → i < n → AOK π n R i) → v = 0)) ∨ ¬ e < f := by
        intro f
        by_cases hf : e < f
        · left
          obtain ⟨g2, w1, w2⟩ := m_goes (T := T) hR hM hd (by omega)
          rw [uF_GG] at w1 w2
          have hM2 : PM π (uF (uG μ 12 g2) 0 19 (plS π (d + 1)).1) := by
            have := pm_u (g := g2) (z := (plS π (d + 1)).1) hM
            rw [uF_GG] at this
            exact this
          obtain ⟨v, g', z', i1, i2, i3⟩ := ih (d + 1) f g2 _ (by omega) hf hM2 w2
          refine ⟨v, g', z', ?_, i2, i3⟩
          rw [w1]
          simp only [bd_e]
          rw [show ((d + 1 : Nat) : Int) = (d : Int) + 1 by omega] at i1
          exact i1
        · exact Or.inr hf
      have hall : AOK π n R d → ((∀ i : Nat, d + 1 ≤ i → i < n → AOK π n R i) ↔ ∀ i : Nat, d ≤ i → i < n → AOK π n R i) := by
        intro h0
        constructor
        · intro h i a b
          by_cases e : i = d
          · subst e
            exact h0
          · exact h i (by omega) b
        · intro h i a b
          exact h i (by omega) b
      by_cases c1 : 100 ≤ (n : Int) - 1 - d
      · rcases hgo f with ⟨v, g', z', i1, i2, i3⟩ | hx
        · have h0 : AOK π n R d := ⟨by omega, fun h => absurd h (by omega)⟩
          rw [hall h0] at i2 i3
          exact ⟨v, g', z', by rw [if_pos c1, i1], i2, i3⟩
        · exact absurd (by omega) hx
      · obtain ⟨q1, q2, q3⟩ := hr (d % 100) (by omega) (by omega)
        have et : Int.tmod ((d : Nat) : Int) 100 = ((d % 100 : Nat) : Int) := by
          rw [tm100 (by omega)]
          omega
        have hl : f_X12_latest_p4_0 (sR T 13 (uF (uG μ 12 g) 0 19 z)) 13 ((n : Int) - 1 - d) = some (R (d % 100), sR T 13 (uF (uG μ 12 g) 0 19 z)) := by
          unfold f_X12_latest_p4_0
          rw [sR_g, uF_o (by decide), uG_o (by decide), h17, show (n : Int) - 1 - ((n : Int) - 1 - d) = d by omega, wr_e (z := (d : Int)) (by omega), wr_e (z := 100) (by decide), et, ckI_e (by omega), wr_e (z := 263 + ((d % 100 : Nat) : Int)) (by omega), sR_g, uF_o (by decide), uG_o (by decide), show (263 + ((d % 100 : Nat) : Int)).toNat = 263 + d % 100 by omega, q1]
        rw [if_neg c1, hl]
        simp only [bd2_e]
        rw [sR_g, uF_e, wr_e (z := R (d % 100)) (by omega), wr_e (z := z) (by omega)]
        by_cases c2 : R (d % 100) = z
        · rcases hgo f with ⟨v, g', z', i1, i2, i3⟩ | hx
          · have h0 : AOK π n R d := ⟨by omega, fun _ => by rw [c2, hz]⟩
            rw [hall h0] at i2 i3
            exact ⟨v, g', z', by rw [if_pos c2, i1], i2, i3⟩
          · exact absurd (by omega) hx
        · refine ⟨0, g, z, by rw [if_neg c2], fun h2 => ?_, fun _ => rfl⟩
          have := (h2 d (Nat.le_refl d) (by omega)).2 (by omega)
          exact absurd (by rw [this, hz]) c2
theorem agr_iff {F : xR} {n t : Nat} (hR : PR π) (hd : RFd π F) (hn : F 15 1 = (n : Int)) (ht : t ≤ 100) (htn : t ≤ n) (ht2 : t = 100 ∨ t = n) (hr : ∀ k : Nat, k < 100 → (k : Int) < (n : Int) → 0 ≤ F 18 k) : (∀ i : Nat, 0 ≤ i → i < n → AOK π n (F 18) i) ↔ (t : Int) ≤ F 14 4 := by
  have hk := hd.2.2.2 t ht (by omega)
  rw [hk, hn]
  constructor
  · intro h i a b
    obtain ⟨x1, x2⟩ := h i (Nat.zero_le _) (by omega)
    have r := (pl_rng hR i).1
    rw [x2 (by omega)]
    unfold plV
    rw [if_neg (by omega)]
  · intro h i _ b
    have x1 : (plS π i).1 < π 0 10 := by
      by_cases c : (plS π i).1 < π 0 10
      · exact c
      · have st := pl_stay (π := π) (d := i) (by omega) (n - 1 - i)
        rw [show i + (n - 1 - i) = n - 1 by omega] at st
        have h1 := h (n - 1) (by omega) (by omega)
        rw [st] at h1
        unfold plV at h1
        rw [if_pos (Or.inr (by omega))] at h1
        have h2 := hr ((n - 1) % 100) (by omega) (by omega)
        omega
    refine ⟨x1, fun hw => ?_⟩
    have r := (pl_rng hR i).1
    have h1 := h i (by omega) (by omega)
    unfold plV at h1
    rw [if_neg (by omega)] at h1
    exact h1
end P3
section P4
variable {m : Nat} {S : xSt} {i j : Int}
theorem k_agrees (hI : INV m S) (hm5 : m < 512) : CALL m S (f_X11_agrees_p3_0 S 0) (fun T => f_X12_agrees_p4_0 T 13) (fun v v' _ => wr v = wr v') := by
  obtain ⟨q, q2, hS, hk, hq, hcx⟩ := inv_cx hI
  have hbb : BB m ≤ BB (m + 1) := by unfold BB; omega
  have hBm : BB m ≤ 9000000 := by unfold BB; omega
  have hR := hS.2.2.2.2.1
  have hM := hS.2.2.2.2.2.1
  have hio := hS.2.2.2.2.2.2.2.2.2
  have hF := hS.2.2.2.2.2.2.1.1
  have hR0 : PR (uG (S.2.1 q) 77 (fun _ => 0)) := PR_pe pe_lo hR
  have hd : RFd (S.2.1 q) (S.2.1 1) := by
    have h := hF.2.2.2.2.2.2.2.2.2.2
    unfold RFd at h ⊢
    simp only [plS_pe pe_lo, plV_pe pe_lo] at h
    exact h
  have e17 := hF.1.2.2.2.2.2.2.2.2.2.2.2.2.2.2.1
  have r12 := hF.2.1.2.2.2.2.2.2.2.2.2.2.2.2.1
  have hg := hF.2.2.2.2.2.2.2.2.1
  obtain ⟨n, hn⟩ : ∃ n : Nat, S.2.1 1 15 1 = (n : Int) := ⟨(S.2.1 1 15 1).toNat, by omega⟩
  obtain ⟨t, ht⟩ : ∃ t : Nat, t = if n < 100 then n else 100 := ⟨_, rfl⟩
  have ht1 : t ≤ 100 ∧ t ≤ n ∧ (t = 100 ∨ t = n) := by
    rw [ht]
    split <;> omega
  have hrr : ∀ k : Nat, k < 100 → (k : Int) < (n : Int) → (S.2.1 13) 6 (263 + k) = S.2.1 1 18 k ∧ 0 ≤ S.2.1 1 18 k ∧ S.2.1 1 18 k < S.2.1 q 0 10 := by
    intro k h1 h2
    have h := hg k h1 (by omega)
    rw [uG_o (by decide)] at h
    exact h
  have hiff := agr_iff (F := S.2.1 1) hR hd hn ht1.1 ht1.2.1 ht1.2.2 (fun k h1 h2 => (hrr k h1 h2).2.1)
  have h14 := hd.2.2.1
  have emin : iMin 100 (S.2.1 1 15 1) = (t : Int) := by
    unfold iMin
    rw [hn, wr_e (z := (n : Int)) (by omega), wr_e (z := 100) (by decide), ht]
    by_cases c : n < 100
    · rw [if_pos c, if_pos (by omega)]
    · rw [if_neg c, if_neg (by omega)]
      rfl
  refine ⟨if S.2.1 1 14 4 < (t : Int) then 0 else 1, S, ?_, rfl, rfl, fun T hT hμ => ?_⟩
  · unfold f_X11_agrees_p3_0
    rw [show gI S (0 + 1) 14 4 = S.2.1 1 14 4 from rfl, show gI S (0 + 1) 15 1 = S.2.1 1 15 1 from rfl, emin, wr_e (z := S.2.1 1 14 4) (by omega), wr_e (z := (t : Int)) (by omega)]
    by_cases c : S.2.1 1 14 4 < (t : Int)
    · rw [if_pos c, if_pos c]
    · rw [if_neg c, if_neg c]
  · have hT13 := sR_i hμ
    obtain ⟨g2, z1, z2⟩ := m_pbeg (T := T) (μ := uF (S.2.1 13) 0 0 0) hT hR
    obtain ⟨v, g3, z3, w1, w2, w3⟩ := m_agr (T := T) (μ := uF (S.2.1 13) 0 0 0) (n := n) (R := S.2.1 1 18) hR (by rw [uF_o (by decide), e17, hn]) (by omega) (fun k h1 h2 => by rw [uF_o (by decide)]; exact hrr k h1 h2) n 0 (fu T) g2 0 (by omega) (by omega) (pm_u (pm_told hM)) z2
    refine ⟨v, uF (uG (uF (S.2.1 13) 0 0 0) 12 g3) 0 19 z3, q, q2, ?_, ?_, ?_⟩
    · show f_X12_agrees_p4_0 T 13 = _
      rw [hT13]
      unfold f_X12_agrees_p4_0
      rw [sR_w, lt1_e, z1]
      simp only [bd_e]
      rw [sR_s, sR_fu]
      exact w1
    · show wr (if S.2.1 1 14 4 < (t : Int) then 0 else 1) = wr v
      by_cases c : S.2.1 1 14 4 < (t : Int)
      · rw [if_pos c, w3 (fun h => by have := hiff.mp h; omega)]
      · rw [if_neg c, w2 (hiff.mpr (by omega))]
    · have hμ' : ∀ o k, o ≠ 12 → (o ≠ 0 ∨ (k ≠ 0 ∧ k ≠ 19)) → (uF (uG (uF (S.2.1 13) 0 0 0) 12 g3) 0 19 z3) o k = S.2.1 13 o k := by
        intro o k a1 a2
        rcases a2 with a2 | ⟨a2, a3⟩
        · rw [uF_o a2, uG_o a1, uF_o a2]
        · by_cases e : o = 0
          · subst e
            rw [uF_k a3, uG_o a1, uF_k a2]
          · rw [uF_o e, uG_o a1, uF_o e]
      exact sim_io hS hbb (fun r hr => rfl) rfl rfl rfl (fun o k a1 a2 a3 a4 => hμ' o k a4 (Or.inl a1)) (fun k a1 a2 a3 a4 => hμ' 0 k (by decide) (Or.inr ⟨a1, a4⟩)) (sio_x hio (fun o k _ _ => rfl) hμ')
end P4
