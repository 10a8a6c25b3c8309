/-! mathematics: the invariant of the law's loop, and how a pair of calls keeps it -/
/-- input, errors, output -/
def SIO (C μ : xR) : Prop := C 0 1 = μ 0 21 ∧ (0 ≤ μ 0 21 ∧ μ 0 21 ≤ 600) ∧ (∀ k : Nat, (k : Int) < μ 0 21 → C 1 k = μ 13 k ∧ -128 ≤ μ 13 k ∧ μ 13 k ≤ 127) ∧ C 2 11 = μ 0 29 ∧ C 2 12 = μ 0 30 ∧ C 6 1 = μ 0 41 ∧ (0 ≤ μ 0 41 ∧ μ 0 41 ≤ 32) ∧ ∀ k : Nat, (k : Int) < μ 0 41 → C 7 k = μ 18 k
/-- the changes that can be undone: B bounds what only grows -/
def SHI (B : Int) (q : Nat) (P : xP) (C : xSI) (μ : xR) : Prop := C 0 8 2 = μ 0 16 ∧ (0 ≤ μ 0 16 ∧ μ 0 16 ≤ 6) ∧ (0 ≤ C 0 8 1 ∧ C 0 8 1 ≤ 5) ∧ ∀ i : Nat, (i : Int) < μ 0 16 → P (4 + ((C 0 8 1).toNat + i) % 6) 0 0 = (q, 0) ∧ GF (C q) B (C (4 + ((C 0 8 1).toNat + i) % 6)) (fun k => μ 11 (363 * i + k))
def SSA (B : Int) (q : Nat) (P : xP) (C : xSI) (μ : xR) : Prop := C 0 0 9 = μ 0 17 ∧ (μ 0 17 = 0 ∨ μ 0 17 = 1) ∧ (μ 0 17 = 1 → P 3 0 0 = (q, 0) ∧ GF (C q) B (C 3) (μ 10))
def SIM (B : Int) (q q2 : Nat) (P : xP) (C : xSI) (μ : xR) : Prop := ((q = 11 ∧ q2 = 12) ∨ (q = 12 ∧ q2 = 11)) ∧ P 0 0 4 = (q, 0) ∧ P 0 0 5 = (q2, 0) ∧ P 1 0 0 = (q, 0) ∧ PR (C q) ∧ PM (C q) μ ∧ GF (C q) B (C 1) (μ 6) ∧ SHI B q P C μ ∧ SSA B q P C μ ∧ SIO (C 0) μ
def BB (m : Nat) : Int := 6500 * (m : Int)
def INV (m : Nat) (S : xSt) : Prop := 10000000 ≤ fu S ∧ gk S 11 = 2 ∧ (gk S 12 = 2 ∧ gk S 0 = 3) ∧ ∃ q q2, SIM (BB m) q q2 S.2.2 S.2.1 (S.2.1 13)
theorem shi_mono {B B' : Int} {q : Nat} {P : xP} {C : xSI} {μ : xR} (h : SHI B q P C μ) (hb : B ≤ B') : SHI B' q P C μ := ⟨h.1, h.2.1, h.2.2.1, fun i hi => ⟨(h.2.2.2 i hi).1, gf_mono (h.2.2.2 i hi).2 hb⟩⟩
theorem ssa_mono {B B' : Int} {q : Nat} {P : xP} {C : xSI} {μ : xR} (h : SSA B q P C μ) (hb : B ≤ B') : SSA B' q P C μ := ⟨h.1, h.2.1, fun hi => ⟨(h.2.2 hi).1, gf_mono (h.2.2 hi).2 hb⟩⟩
theorem sim_mono {B B' : Int} {q q2 : Nat} {P : xP} {C : xSI} {μ : xR} (h : SIM B q q2 P C μ) (hb : B ≤ B') : SIM B' q q2 P C μ := by
  obtain ⟨h1, h2, h3, h4, h5, h6, h7, h8, h9, h10⟩ := h
  exact ⟨h1, h2, h3, h4, h5, h6, gf_mono h7 hb, shi_mono h8 hb, ssa_mono h9 hb, h10⟩
theorem sim_congr {B : Int} {q q2 : Nat} {P : xP} {C C' : xSI} {μ : xR} (hC : ∀ r, r < 13 → C' r = C r) (h : SIM B q q2 P C μ) : SIM B q q2 P C' μ := by
  obtain ⟨h1, h2, h3, h4, h5, h6, h7, h8, h9, h10⟩ := h
  have hq : C' q = C q := hC q (by omega)
  have c0 := hC 0 (by decide)
  have c1 := hC 1 (by decide)
  have c3 := hC 3 (by decide)
  refine ⟨h1, h2, h3, h4, by rw [hq]; exact h5, by rw [hq]; exact h6, by rw [hq, c1]; exact h7, ?_, ?_, by rw [c0]; exact h10⟩
  · unfold SHI at h8 ⊢
    rw [c0, hq]
    refine ⟨h8.1, h8.2.1, h8.2.2.1, fun i hi => ?_⟩
    rw [hC (4 + ((C 0 8 1).toNat + i) % 6) (by omega)]
    exact h8.2.2.2 i hi
  · unfold SSA at h9 ⊢
    rw [c0, hq, c3]
    exact h9
theorem inv_mono (m : Nat) (S : xSt) (_ : m < 512) (h : INV m S) : INV (m + 1) S := by
  obtain ⟨h1, h2, h3, q, q2, h4⟩ := h
  exact ⟨h1, h2, h3, q, q2, sim_mono h4 (by unfold BB; omega)⟩
/-- a pair of calls: the class's gives v and the store S', the reference's v' and its region's content μ' -/
def CALL {α β : Type} (m : Nat) (S : xSt) (fc : Option (α × xSt)) (fm : xSt → Option (β × xSt)) (R : α → β → xR → Prop) : Prop :=
  ∃ v S', fc = some (v, S') ∧ S'.1 = S.1 ∧ S'.2.1 13 = S.2.1 13 ∧ ∀ T : xSt, 10000000 ≤ fu T → T.2.1 13 = S.2.1 13 → ∃ v' μ' q q2, fm T = some (v', sR T 13 μ') ∧ R v v' μ' ∧ SIM (BB (m + 1)) q q2 S'.2.2 S'.2.1 μ'
theorem inv_of {m q q2 : Nat} {S S1 T : xSt} {μ' : xR} (hI : INV m S) (h1 : S1.1 = S.1) (hT : T.1 = S1.1) (hP : T.2.2 = S1.2.2) (hC : ∀ r, r < 13 → T.2.1 r = S1.2.1 r) (hs : SIM (BB (m + 1)) q q2 S1.2.2 S1.2.1 μ') : INV (m + 1) (sR T 13 μ') := by
  refine ⟨?_, ?_, ?_, q, q2, ?_⟩
  · show 10000000 ≤ T.1.1
    rw [hT, h1]
    exact hI.1
  · show T.1.2 11 = 2
    rw [hT, h1]
    exact hI.2.1
  · refine ⟨?_, ?_⟩
    · show T.1.2 12 = 2
      rw [hT, h1]
      exact hI.2.2.1.1
    · show T.1.2 0 = 3
      rw [hT, h1]
      exact hI.2.2.1.2
  · rw [sR_g1]
    show SIM (BB (m + 1)) q q2 T.2.2 _ μ'
    rw [hP]
    refine sim_congr (fun r hr => ?_) hs
    rw [sR_n1 (by omega), hC r hr]
theorem glueA {α β : Type} {m : Nat} {S : xSt} {fc : Option (α × xSt)} {fm : xSt → Option (β × xSt)} {R : α → β → xR → Prop} (hI : INV m S) (h : CALL m S fc fm R) : ∃ v1 S1 v2 S2, fc = some (v1, S1) ∧ fm S1 = some (v2, S2) ∧ R v1 v2 (S2.2.1 13) ∧ INV (m + 1) S2 := by
  obtain ⟨v, S', e1, e4, e5, e2⟩ := h
  have hfu : 10000000 ≤ fu S' := by
    show 10000000 ≤ S'.1.1
    rw [e4]
    exact hI.1
  obtain ⟨v', μ', q, q2, e6, e3, e7⟩ := e2 S' hfu e5
  exact ⟨v, S', v', sR S' 13 μ', e1, e6, by rw [sR_g1]; exact e3, inv_of hI e4 rfl rfl (fun r _ => rfl) e7⟩
def XR (K : Nat → Int) (x : Int ⊕ Nat) (v' : Int) (μ' : xR) : Prop := match x with
  | .inl v => wr v = wr v' ∧ μ' 0 0 = 0
  | .inr k => K k = μ' 0 0 ∧ (K k = 1 ∨ K k = 2)
theorem iC_z {x y : Int} (h : wr x = wr y) : wr (iC (wl (wr (wr x))) (wl (wr y))) = 0 := by
  rw [wr2, h]
  unfold iC
  rw [if_neg (Int.lt_irrefl _), if_pos rfl]
  decide
theorem ckR_e {β : Type} {z : Int} {k : Option β} (h : wr z = z) : ckR z k = k := if_pos h
/-- the law's wrapper of a call that may throw -/
theorem glueX {m : Nat} {S : xSt} {fc : Option ((Int ⊕ Nat) × xSt)} {fm : xSt → Option (Int × xSt)} {fl : Option (Int × xSt)} {K : Nat → Int} (hI : INV m S) (h : CALL m S fc fm (XR K))
    (hl : ∀ v S2, fc = some (.inl v, S2) → fl = some (0, wI S2 14 0 0 (wr v))) (hr : ∀ k S2, fc = some (.inr k, S2) → (K k = 1 ∨ K k = 2) → fl = some (K k, S2)) :
    ∃ v1 S1, ∃ v2 S2, ∃ v3 S3, fl = some (v1, S1) ∧ fm S1 = some (v2, S2) ∧ f_X12_thrown_p4_0 S2 13 = some (v3, S3) ∧ wr v3 = wr v1 ∧ (wr v1 = 0 → wr (iC (wl (wr (gI S3 14 0 0))) (wl (wr v2))) = 0) ∧ INV (m + 1) S3 := by
  obtain ⟨v, S', e1, e4, e5, e2⟩ := h
  have hfu : 10000000 ≤ fu S' := by
    show 10000000 ≤ S'.1.1
    rw [e4]
    exact hI.1
  rcases v with v | k
  · have eT : (wI S' 14 0 0 (wr v)).2.1 13 = S.2.1 13 := by
      rw [← e5]
      funext o' k'
      exact (gI_wI (S := S') (r := 14) (o := 0) (k := 0) (r' := 13) (o' := o') (k' := k') (z := wr v)).trans (if_neg (fun z => absurd z.1 (by decide)))
    obtain ⟨v', μ', q, q2, e7, e3, e6⟩ := e2 (wI S' 14 0 0 (wr v)) hfu eT
    obtain ⟨f1, f2⟩ := e3
    refine ⟨0, wI S' 14 0 0 (wr v), v', sR (wI S' 14 0 0 (wr v)) 13 μ', μ' 0 0, sR (wI S' 14 0 0 (wr v)) 13 μ', hl v S' e1, e7, ?_, by rw [f2], fun _ => ?_, inv_of (T := wI S' 14 0 0 (wr v)) hI e4 rfl rfl (fun r hr => ?_) e6⟩
    · unfold f_X12_thrown_p4_0
      rw [sR_g]
    · rw [sR_n (by decide), gI_wI, if_pos ⟨rfl, rfl, rfl⟩]
      exact iC_z f1
    · funext o' k'
      exact (gI_wI (S := S') (r := 14) (o := 0) (k := 0) (r' := r) (o' := o') (k' := k') (z := wr v)).trans (if_neg (fun z => absurd z.1 (by omega)))
  · obtain ⟨v', μ', q, q2, e7, e3, e6⟩ := e2 S' hfu e5
    obtain ⟨f1, f2⟩ := e3
    refine ⟨K k, S', v', _, μ' 0 0, _, hr k S' e1 f2, e7, ?_, by rw [f1], fun hz => ?_, inv_of hI e4 rfl rfl (fun r _ => rfl) e6⟩
    · unfold f_X12_thrown_p4_0
      rw [sR_g]
    · rcases f2 with f2 | f2
      · rw [f2] at hz
        exact absurd hz (by decide)
      · rw [f2] at hz
        exact absurd hz (by decide)
/-- what the two sides' words say is not moved by 'told' -/
theorem sim_told {B : Int} {q q2 : Nat} {P : xP} {C : xSI} {μ : xR} {z : Int} (h : SIM B q q2 P C μ) : SIM B q q2 P C (uF μ 0 0 z) := by
  obtain ⟨h1, h2, h3, h4, h5, h6, h7, h8, h9, h10⟩ := h
  refine ⟨h1, h2, h3, h4, h5, ?_, h7, ?_, ?_, ?_⟩
  · unfold PM at h6 ⊢
    simp (disch := omega) only [uF_e, uF_o, uF_k, uG_e, uG_o, uN_e, uN_k, true_or, or_true]
    exact h6
  · unfold SHI at h8 ⊢
    simp (disch := omega) only [uF_e, uF_o, uF_k, uG_e, uG_o, uN_e, uN_k, true_or, or_true]
    exact h8
  · have e : (uF μ 0 0 z) 10 = μ 10 := by
      funext k
      simp (disch := omega) only [uF_e, uF_o, uF_k, uG_e, uG_o, uN_e, uN_k, true_or, or_true]
    unfold SSA at h9 ⊢
    rw [e]
    simp (disch := omega) only [uF_e, uF_o, uF_k, uG_e, uG_o, uN_e, uN_k, true_or, or_true]
    exact h9
  · unfold SIO at h10 ⊢
    simp (disch := omega) only [uF_e, uF_o, uF_k, uG_e, uG_o, uN_e, uN_k, true_or, or_true]
    exact h10
theorem wN_i {T : xSt} {μ : xR} : wA (sR T 13 μ) 13 6 (μ 6) = sR T 13 μ := by
  have k := wN_e (T := sR T 13 μ) (M := 13)
  rw [sR_g1] at k
  exact k
theorem wN_j {T : xSt} {μ : xR} {N : Nat → Int} : wA (sR T 13 μ) 13 6 N = sR T 13 (uG μ 6 N) := sR_a
/-- a call that reads only -/
theorem callR {α β : Type} {m : Nat} {S : xSt} {fc : Option (α × xSt)} {fm : xSt → Option (β × xSt)} {R : α → β → xR → Prop} {v : α} {v' : β} {z : Int} (hI : INV m S) (h1 : fc = some (v, S)) (h2 : ∀ T : xSt, 10000000 ≤ fu T → fm (sR T 13 (S.2.1 13)) = some (v', sR T 13 (uF (S.2.1 13) 0 0 z))) (h3 : R v v' (uF (S.2.1 13) 0 0 z)) : CALL m S fc fm R := by
  obtain ⟨i1, i2, i3, q, q2, i4⟩ := hI
  refine ⟨v, S, h1, rfl, rfl, fun T hT hμ => ⟨v', uF (S.2.1 13) 0 0 z, q, q2, ?_, h3, sim_told (sim_mono i4 (by unfold BB; omega))⟩⟩
  have e : T = sR T 13 (S.2.1 13) := by rw [← hμ, sR_e]
  rw [e]
  have k := h2 T hT
  rw [k, sR_s]
theorem inv_cx {m : Nat} {S : xSt} (hI : INV m S) : ∃ q q2, SIM (BB m) q q2 S.2.2 S.2.1 (S.2.1 13) ∧ gk S q = 2 ∧ (q = 11 ∨ q = 12) ∧ (∀ (T : xSt) (μ : xR), 10000000 ≤ fu T → PM (S.2.1 q) μ → CX S 1 q (sR T 13 μ) (S.2.1 q) μ) := by
  obtain ⟨i1, i2, i3, q, q2, i4⟩ := hI
  have hq : q = 11 ∨ q = 12 := by have := i4.1; omega
  have hk : gk S q = 2 := by
    rcases hq with rfl | rfl
    · exact i2
    · exact i3.1
  refine ⟨q, q2, i4, hk, hq, fun T μ hT hM => ⟨i4.2.2.2.1, hk, by omega, rfl, sR_g1, i1, hT, i4.2.2.2.2.1, hM⟩⟩
theorem p_isIn {S : xSt} {a b c : Int} (ha : -2147483648 ≤ a ∧ a ≤ 2147483647) (hb : -2147483649 ≤ b ∧ b ≤ 2147483647) (hc : -2147483649 ≤ c ∧ c ≤ 2147483647) : f_X12_isIn S a b c = some (if b ≤ a ∧ a ≤ c then 1 else 0, S) := by
  unfold f_X12_isIn
  rw [wl_id (by omega), wl_id (by omega), wl_id (by omega)]
  unfold iC
  by_cases c1 : a < b
  · rw [if_pos c1, if_pos (by decide), if_neg (by omega)]
  · rw [if_neg c1, if_neg (by split <;> decide)]
    by_cases c2 : a < c
    · rw [if_pos c2, if_neg (by decide), if_pos (by omega)]
    · rw [if_neg c2]
      by_cases c3 : a = c
      · rw [if_pos c3, if_neg (by decide), if_pos (by omega)]
      · rw [if_neg c3, if_pos (by decide), if_neg (by omega)]
theorem p_is {T : xSt} {μ : xR} {a : Int} (ha : a = 0 ∨ a = 1) : f_X12_is_p4_0 (sR T 13 μ) 13 a = some (a, sR T 13 (uF μ 0 0 (1 - a))) := by
  unfold f_X12_is_p4_0
  rcases ha with rfl | rfl
  · rw [if_pos (by decide), sR_w, lt1_e, ckB_e (Or.inl rfl)]
    rfl
  · rw [if_neg (by decide), sR_w, lt1_e, ckB_e (Or.inr rfl)]
    rfl
theorem wr_r {i : Int} (h : wr i = i) : -2147483648 ≤ i ∧ i ≤ 2147483647 := by
  have := wr_rg i
  rw [h] at this
  omega
