/-! mathematics: what the relation depends on; copies; runs of cycles -/
def pe (π π' : xR) : Prop := ∀ o k : Nat, o ≠ 77 → π' o k = π o k
theorem pe_lo {π : xR} {f : Nat → Int} : pe π (uG π 77 f) := fun o k h => uG_o h
theorem pe_s {π π' : xR} (h : pe π π') : pe π' π := fun o k ho => (h o k ho).symm
theorem osm_pe {π π' : xR} (h : pe π π') (a : Nat) : ∀ m, osm π' a m = osm π a m := by
  intro m
  induction m with
  | zero => rfl
  | succ m ih =>
    show osm π' a m + π' 10 (a + m) = osm π a m + π 10 (a + m)
    rw [ih, h 10 _ (by decide)]
theorem lpk_pe {π π' : xR} (h : pe π π') {k : Nat} : lpk π' k ↔ lpk π k := by
  have h' : ∀ o k : Nat, o ≠ 77 → π' o k = π o k := h
  unfold lpk
  simp (disch := omega) only [h']
theorem plN_pe {π π' : xR} (h : pe π π') (s : Int × (Nat → Int)) : plN π' s = plN π s := by
  have h' : ∀ o k : Nat, o ≠ 77 → π' o k = π o k := h
  unfold plN
  simp (disch := omega) only [h']
theorem plS_pe {π π' : xR} (h : pe π π') : ∀ d, plS π' d = plS π d := by
  intro d
  induction d with
  | zero => rfl
  | succ d ih =>
    show plN π' (plS π' d) = plN π (plS π d)
    rw [ih, plN_pe h]
theorem plV_pe {π π' : xR} (h : pe π π') (s : Int × (Nat → Int)) : plV π' s = plV π s := by
  have h' : ∀ o k : Nat, o ≠ 77 → π' o k = π o k := h
  unfold plV
  simp (disch := omega) only [h']
theorem PR_pe {π π' : xR} (h : pe π π') (hR : PR π) : PR π' := by
  have h' : ∀ o k : Nat, o ≠ 77 → π' o k = π o k := h
  unfold PR PRk at hR ⊢
  simp (disch := omega) only [h', osm_pe h, lpk_pe h]
  exact hR
theorem PM_pe {π π' μ : xR} (h : pe π π') (hM : PM π μ) : PM π' μ := by
  have h' : ∀ o k : Nat, o ≠ 77 → π' o k = π o k := h
  unfold PM at hM ⊢
  simp (disch := omega) only [h']
  exact hM
theorem RF_pe {π π' : xR} {B e w o : Int} {F : xR} {N : Nat → Int} (h : pe π π') (hl : ∀ k : Nat, k < 60 → π' 77 k ≤ F 17 k) (hl2 : π' 77 60 ≤ F 15 1) (hl3 : F 2 2 ≤ 6 + π' 77 61) (hF : RF π B e w o F N) : RF π' B e w o F N := by
  have h' : ∀ o k : Nat, o ≠ 77 → π' o k = π o k := h
  obtain ⟨hs, hr, hb, hu, hq, ht, hw, hp, hg, hll, hd⟩ := hF
  refine ⟨?_, ?_, hb, hu, ?_, ?_, ?_, ?_, ?_, ?_, ?_⟩
  · unfold RFs at hs ⊢
    simp (disch := omega) only [h']
    exact hs
  · unfold RFr at hr ⊢
    simp (disch := omega) only [h']
    obtain ⟨r0, r1, r2, r3, r4, r5, r6, r7, r8, r9, r10, r11, r12, r13, r14⟩ := hr
    exact ⟨r0, r1, r2, r3, r4, r5, r6, r7, r8, r9, r10, r11, r12, ⟨r13.1, hl3, r13.2.2⟩, r14⟩
  · unfold RFq at hq ⊢
    simp (disch := omega) only [h']
    exact hq
  · unfold RFt at ht ⊢
    simp (disch := omega) only [h']
    exact ht
  · unfold RFw at hw ⊢
    simp (disch := omega) only [h']
    exact hw
  · intro k hk
    have h9 := hp k hk
    exact ⟨h9.1, ⟨h9.2.1.1, hl k hk⟩, h9.2.2.1, hl2⟩
  · unfold RFg at hg ⊢
    simp (disch := omega) only [h']
    exact hg
  · unfold RFl at hll ⊢
    simp (disch := omega) only [h', osm_pe h]
    exact hll
  · unfold RFd at hd ⊢
    simp only [plS_pe h, plV_pe h]
    exact hd
/-- two Fronts that hold the same -/
def AG (G F : xR) : Prop := (∀ k, 9 ≤ k → k ≤ 17 → G 0 k = F 0 k) ∧ (∀ k, k < 6 → G 1 k = F 1 k) ∧ G 2 2 = F 2 2 ∧ (∀ k, k < 7 → G 3 k = F 3 k) ∧ (∀ k, k < 7 → G 4 k = F 4 k) ∧ G 5 2 = F 5 2 ∧ (∀ k, k < 20 → G 6 k = F 6 k) ∧ (∀ k, k < 20 → G 7 k = F 7 k) ∧ (∀ k, k < 5 → G 8 k = F 8 k) ∧ (∀ k, k < 60 → G 10 k = F 10 k) ∧ G 11 1 = F 11 1 ∧ (∀ k, k < 60 → G 13 k = F 13 k) ∧ G 14 4 = F 14 4 ∧ (∀ k, k < 9 → G 15 k = F 15 k) ∧ (∀ k, k < 9 → G 16 k = F 16 k) ∧ (∀ k, k < 60 → G 17 k = F 17 k) ∧ (∀ k, k < 100 → G 18 k = F 18 k) ∧ ∀ k, k < 60 → G 19 k = F 19 k
theorem rf_ag {π : xR} {B e w o : Int} {F G : xR} {N : Nat → Int} (hR : PR π) (ha : AG G F) (hF : RF π B e w o F N) : RF π B e w o G N := by
  obtain ⟨a0, a1, a2, a3, a4, a5, a6, a7, a8, a10, a11, a13, a14, a15, a16, a17, a18, a19⟩ := ha
  obtain ⟨hs, hr, hb, hu, hq, ht, hw, hp, hg, hll, hd⟩ := hF
  have p0 := hR.1
  have p3 := hR.2.2.2.1
  have r13 := hr.2.2.2.2.2.2.2.2.2.2.2.2.2.1
  have r14 := hr.2.2.2.2.2.2.2.2.2.2.2.2.2.2
  refine ⟨?_, ?_, ?_, ?_, ?_, ?_, ?_, ?_, ?_, ?_, ?_⟩
  · unfold RFs at hs ⊢
    simp (disch := omega) only [a0, a1, a2, a5, a8, a15]
    exact hs
  · unfold RFr at hr ⊢
    simp (disch := omega) only [a0, a1, a2, a5, a8, a15]
    exact hr
  · intro c h1 h2
    rw [a16 _ (by omega)]
    exact hb c h1 h2
  · intro j hj
    rw [a2] at hj
    rw [a3 _ (by omega), a4 _ (by omega)]
    exact hu j hj
  · intro j hj
    rw [a5] at hj
    rw [a6 _ (by omega), a7 _ (by omega)]
    exact hq j hj
  · intro k hk h9
    rw [a10 _ (by omega), a19 _ (by omega)]
    exact ht k hk h9
  · intro k hk
    rw [a19 _ hk]
    exact hw k hk
  · intro k hk
    rw [a17 _ hk, a15 _ (by omega)]
    exact hp k hk
  · intro k hk h2
    rw [a15 _ (by omega)] at h2
    rw [a18 _ hk]
    exact hg k hk h2
  · unfold RFl at hll ⊢
    simp (disch := omega) only [a8]
    exact hll
  · obtain ⟨d1, d2, d3, d4⟩ := hd
    unfold RFd
    rw [a11, a14, a15 _ (by omega)]
    refine ⟨d1, fun k hk => by rw [a13 _ hk]; exact d2 k hk, d3, fun t h1 h2 => ?_⟩
    have h9 := d4 t h1 h2
    rw [h9]
    constructor
    · intro h i h3 h4
      rw [a18 _ (by omega)]
      exact h i h3 h4
    · intro h i h3 h4
      have := h i h3 h4
      rw [a18 _ (by omega)] at this
      exact this
theorem rf_ext {π : xR} {B e w o : Int} {F : xR} {N N' : Nat → Int} (hR : PR π) (hN : ∀ k, k < 363 → N' k = N k) (hF : RF π B e w o F N) : RF π B e w o F N' := by
  obtain ⟨hs, hr, hb, hu, hq, ht, hw, hp, hg, hll, hd⟩ := hF
  have p0 := hR.1
  have p3 := hR.2.2.2.1
  have r13 := hr.2.2.2.2.2.2.2.2.2.2.2.2.2.1
  have r14 := hr.2.2.2.2.2.2.2.2.2.2.2.2.2.2
  refine ⟨?_, hr, ?_, ?_, ?_, ?_, hw, ?_, ?_, ?_, hd⟩
  · unfold RFs at hs ⊢
    simp (disch := omega) only [hN]
    exact hs
  · intro c h1 h2
    rw [hN _ (by omega)]
    exact hb c h1 h2
  · intro j hj
    rw [hN _ (by omega)]
    exact hu j hj
  · intro j hj
    rw [hN _ (by omega), hN _ (by omega)]
    exact hq j hj
  · intro k hk h9
    rw [hN _ (by omega), hN _ (by omega)]
    exact ht k hk h9
  · intro k hk
    rw [hN _ (by omega)]
    exact hp k hk
  · intro k hk h2
    rw [hN _ (by omega)]
    exact hg k hk h2
  · unfold RFl at hll ⊢
    simp (disch := omega) only [hN]
    exact hll
/-- a Front and a row that hold the same, between cycles -/
def GF (π : xR) (B : Int) (F : xR) (N : Nat → Int) : Prop := RF (uG π 77 (fun _ => 0)) B 0 0 0 F N ∧ (F 8 0 = 1 → F 8 3 ≤ F 8 2)
theorem gf_mono {π : xR} {B B' : Int} {F : xR} {N : Nat → Int} (h : GF π B F N) (hb : B ≤ B') : GF π B' F N := ⟨rf_mono h.1 hb, h.2⟩
theorem gf_ag {π : xR} {B : Int} {F G : xR} {N : Nat → Int} (hR : PR π) (ha : AG G F) (h : GF π B F N) : GF π B G N := by
  refine ⟨rf_ag (PR_pe pe_lo hR) ha h.1, ?_⟩
  have a8 := ha.2.2.2.2.2.2.2.2.1
  rw [a8 _ (by omega), a8 _ (by omega), a8 _ (by omega)]
  exact h.2
theorem gf_ext {π : xR} {B : Int} {F : xR} {N N' : Nat → Int} (hR : PR π) (hN : ∀ k, k < 363 → N' k = N k) (h : GF π B F N) : GF π B F N' := ⟨rf_ext (PR_pe pe_lo hR) hN h.1, h.2⟩
/-- what a run of cycles needs of the two stores -/
def CX (S : xSt) (r q : Nat) (T : xSt) (π μ : xR) : Prop := gP S r 0 0 = (q, 0) ∧ gk S q = 2 ∧ q ≠ r ∧ S.2.1 q = π ∧ T.2.1 13 = μ ∧ 10000000 ≤ fu S ∧ 10000000 ≤ fu T ∧ PR π ∧ PM π μ
theorem cx_ct {S T : xSt} {r q : Nat} {π μ : xR} (h : CX S r q T π μ) (f : Nat → Int) : CT S r q T 13 (uG π 77 f) μ := by
  obtain ⟨h1, h2, h3, h4, h5, h6, h7, h8, h9⟩ := h
  refine ⟨h1, h2, h3, fun o k ho => ?_, h5, h6, h7, PR_pe pe_lo h8, PM_pe pe_lo h9⟩
  rw [uG_o ho, h4]
def sl (s : Int) : Nat → Int := fun k => if k = 61 then s else 0
/-- the same, where the rules may be s more -/
def GX (s : Int) (π : xR) (B : Int) (F : xR) (N : Nat → Int) : Prop := RF (uG π 77 (sl s)) B 0 0 0 F N ∧ (F 8 0 = 1 → F 8 3 ≤ F 8 2)
theorem gx_mono {s : Int} {π : xR} {B B' : Int} {F : xR} {N : Nat → Int} (h : GX s π B F N) (hb : B ≤ B') : GX s π B' F N := ⟨rf_mono h.1 hb, h.2⟩
theorem gx_gf {π : xR} {B : Int} {F : xR} {N : Nat → Int} : GX 0 π B F N = GF π B F N := by
  have e : sl 0 = fun _ => 0 := by
    funext k
    unfold sl
    split <;> rfl
  unfold GX GF
  rw [e]
theorem gx_up {s : Int} {π : xR} {B : Int} {F : xR} {N : Nat → Int} (hs : 0 ≤ s) (h : GF π B F N) : GX s π B F N := by
  have hp := h.1.2.2.2.2.2.2.2.1
  have h13 := h.1.2.1.2.2.2.2.2.2.2.2.2.2.2.2.2.1
  have h12 := h.1.2.1.2.2.2.2.2.2.2.2.2.2.2.2.1
  rw [uG_e] at h13
  refine ⟨RF_pe (π := uG π 77 (fun _ => 0)) (fun o k ho => by rw [uG_o ho, uG_o ho]) (fun k hk => ?_) ?_ ?_ h.1, h.2⟩
  · rw [uG_e]
    have := (hp k hk).2.1.1
    unfold sl
    rw [if_neg (by omega)]
    exact this
  · rw [uG_e]
    unfold sl
    rw [if_neg (by decide)]
    exact h12.1
  · rw [uG_e]
    unfold sl
    rw [if_pos rfl]
    omega
theorem t_cycle {s : Int} {S T : xSt} {r q : Nat} {π μ F : xR} {N : Nat → Int} {B : Int} (hC : CX S r q T π μ) (hF : GX s π B F N) (hB : B ≤ 99970000) : ∃ F' N', f_X0_passCycle_p1_0 (sR S r F) r = some (sR S r F') ∧ f_X12_cycles_p4_0 (wA T 13 6 N) 13 = some (wA T 13 6 N') ∧ GX s π (B + 13) F' N' ∧ (∀ k : Nat, k < 60 → F 17 k ≤ F' 17 k) ∧ F 15 1 ≤ F' 15 1 := by
  obtain ⟨lo, hlo⟩ : ∃ lo : Nat → Int, lo = fun k => if k = 60 then F 15 1 else if k = 61 then s else F 17 k := ⟨_, rfl⟩
  have lo60 : lo 60 = F 15 1 := by
    rw [hlo]
    exact if_pos rfl
  have lok : ∀ k, k < 60 → lo k = F 17 k := by
    intro k hk
    rw [hlo]
    show (if k = 60 then F 15 1 else if k = 61 then s else F 17 k) = F 17 k
    rw [if_neg (by omega), if_neg (by omega)]
  have lo61 : lo 61 = s := by
    rw [hlo]
    show (if (61 : Nat) = 60 then F 15 1 else if (61 : Nat) = 61 then s else F 17 61) = s
    rw [if_neg (by decide), if_pos rfl]
  have sl61 : sl s 61 = s := if_pos rfl
  have slk : ∀ k, k ≠ 61 → sl s k = 0 := fun k hk => if_neg hk
  have h13 := hF.1.2.1.2.2.2.2.2.2.2.2.2.2.2.2.2.1
  rw [uG_e, sl61] at h13
  have hC1 := cx_ct hC lo
  have hF1 : RF (uG π 77 lo) B 0 0 0 F N := by
    refine RF_pe (π := uG π 77 (sl s)) (fun o k ho => by rw [uG_o ho, uG_o ho]) (fun k hk => by rw [uG_e, lok k hk]; exact Int.le_refl _) (by rw [uG_e, lo60]; exact Int.le_refl _) (by rw [uG_e, lo61]; exact h13.2.1) hF.1
  obtain ⟨F', N', a1, a2, a3, a4⟩ := p_cycle hC1 hF1 hB hF.2
  have hp := a3.2.2.2.2.2.2.2.1
  have h13' := a3.2.1.2.2.2.2.2.2.2.2.2.2.2.2.2.1
  rw [uG_e, lo61] at h13'
  refine ⟨F', N', a1, a2, ⟨RF_pe (π := uG π 77 lo) (fun o k ho => by rw [uG_o ho, uG_o ho]) (fun k hk => by rw [uG_e, slk k (by omega)]; exact (hp k hk).2.1.1) (by rw [uG_e, slk 60 (by decide)]; exact a3.2.1.2.2.2.2.2.2.2.2.2.2.2.2.1.1) (by rw [uG_e, sl61]; exact h13'.2.1) a3, a4⟩, fun k hk => ?_, ?_⟩
  · have := (hp k hk).2.1.2
    rw [uG_e, lok k hk] at this
    exact this
  · have := (hp 0 (by decide)).2.2.2
    rw [uG_e, lo60] at this
    exact this
/-- n cycles, with all states between -/
theorem t_run {s : Int} {S T : xSt} {r q : Nat} {π μ F : xR} {N : Nat → Int} {B : Int} (hC : CX S r q T π μ) (hF : GX s π B F N) (hB : B ≤ 90000000) : ∀ n : Nat, n ≤ 500 → ∃ (Fs : Nat → xR) (Ns : Nat → Nat → Int), Fs 0 = F ∧ Ns 0 = N ∧ (∀ i, i < n → f_X0_passCycle_p1_0 (sR S r (Fs i)) r = some (sR S r (Fs (i + 1))) ∧ f_X12_cycles_p4_0 (wA T 13 6 (Ns i)) 13 = some (wA T 13 6 (Ns (i + 1))) ∧ (∀ k : Nat, k < 60 → Fs i 17 k ≤ Fs (i + 1) 17 k) ∧ Fs i 15 1 ≤ Fs (i + 1) 15 1) ∧ ∀ i, i ≤ n → GX s π (B + 13 * i) (Fs i) (Ns i) := by
  intro n
  induction n with
  | zero =>
    intro _
    refine ⟨fun _ => F, fun _ => N, rfl, rfl, fun i hi => absurd hi (by omega), fun i hi => ?_⟩
    exact gx_mono hF (by omega)
  | succ n ih =>
    intro hn
    obtain ⟨Fs, Ns, a1, a2, a3, a4⟩ := ih (by omega)
    obtain ⟨F', N', b1, b2, b3, b4, b5⟩ := t_cycle hC (a4 n (Nat.le_refl n)) (by omega)
    refine ⟨fun i => if i ≤ n then Fs i else F', fun i => if i ≤ n then Ns i else N', ?_, ?_, fun i hi => ?_, fun i hi => ?_⟩
    · dsimp only
      rw [if_pos (Nat.zero_le n)]
      exact a1
    · dsimp only
      rw [if_pos (Nat.zero_le n)]
      exact a2
    · by_cases c : i < n
      · dsimp only
        rw [if_pos (show i ≤ n by omega), if_pos (show i + 1 ≤ n by omega), if_pos (show i ≤ n by omega), if_pos (show i + 1 ≤ n by omega)]
        exact a3 i c
      · have e9 : i = n := by omega
        subst e9
        dsimp only
        rw [if_pos (Nat.le_refl i), if_neg (show ¬ i + 1 ≤ i by omega), if_pos (Nat.le_refl i), if_neg (show ¬ i + 1 ≤ i by omega)]
        exact ⟨b1, b2, b4, b5⟩
    · by_cases c : i ≤ n
      · dsimp only
        rw [if_pos c, if_pos c]
        exact a4 i c
      · have e9 : i = n + 1 := by omega
        subst e9
        dsimp only
        rw [if_neg c, if_neg c]
        exact gx_mono b3 (by omega)
theorem sR_inj {S : xSt} {r : Nat} {F G : xR} (h : sR S r F = sR S r G) : F = G := by
  have k := congrArg (fun X : xSt => X.2.1 r) h
  rw [sR_g1, sR_g1] at k
  exact k
/-- the class's states are the same whatever the reference's store is -/
theorem t_runX {s : Int} {S T0 : xSt} {r q : Nat} {π μ0 F : xR} {N0 : Nat → Int} {B : Int} (hC : CX S r q T0 π μ0) (hF : GX s π B F N0) (hB : B ≤ 90000000) {n : Nat} (hn : n ≤ 500) : ∃ (Fs : Nat → xR), Fs 0 = F ∧ (∀ i, i < n → f_X0_passCycle_p1_0 (sR S r (Fs i)) r = some (sR S r (Fs (i + 1))) ∧ (∀ k : Nat, k < 60 → Fs i 17 k ≤ Fs (i + 1) 17 k) ∧ Fs i 15 1 ≤ Fs (i + 1) 15 1) ∧ ∀ (T : xSt) (μ : xR) (N : Nat → Int), CX S r q T π μ → GX s π B F N → ∃ (Ns : Nat → Nat → Int), Ns 0 = N ∧ (∀ i, i < n → f_X12_cycles_p4_0 (wA T 13 6 (Ns i)) 13 = some (wA T 13 6 (Ns (i + 1)))) ∧ ∀ i, i ≤ n → GX s π (B + 13 * i) (Fs i) (Ns i) := by
  obtain ⟨Fs, Ns0, a1, -, a3, -⟩ := t_run hC hF hB n hn
  refine ⟨Fs, a1, fun i hi => ⟨(a3 i hi).1, (a3 i hi).2.2⟩, fun T μ N hC2 hF2 => ?_⟩
  obtain ⟨Gs, Ns, b1, b2, b3, b4⟩ := t_run hC2 hF2 hB n hn
  have hsame : ∀ i, i ≤ n → Gs i = Fs i := by
    intro i
    induction i with
    | zero =>
      intro _
      rw [a1, b1]
    | succ i ih =>
      intro hi
      have e1 := (a3 i (by omega)).1
      have e2 := (b3 i (by omega)).1
      rw [ih (by omega)] at e2
      exact (sR_inj (Option.some.inj (e1.symm.trans e2))).symm
  refine ⟨Ns, b2, fun i hi => (b3 i hi).2.1, fun i hi => ?_⟩
  rw [← hsame i hi]
  exact b4 i hi
theorem t_runU {S T0 : xSt} {r q : Nat} {π μ0 F : xR} {N0 : Nat → Int} {B : Int} (hC : CX S r q T0 π μ0) (hF : GF π B F N0) (hB : B ≤ 90000000) {n : Nat} (hn : n ≤ 500) : ∃ (Fs : Nat → xR), Fs 0 = F ∧ (∀ i, i < n → f_X0_passCycle_p1_0 (sR S r (Fs i)) r = some (sR S r (Fs (i + 1))) ∧ (∀ k : Nat, k < 60 → Fs i 17 k ≤ Fs (i + 1) 17 k) ∧ Fs i 15 1 ≤ Fs (i + 1) 15 1) ∧ ∀ (T : xSt) (μ : xR) (N : Nat → Int), CX S r q T π μ → GF π B F N → ∃ (Ns : Nat → Nat → Int), Ns 0 = N ∧ (∀ i, i < n → f_X12_cycles_p4_0 (wA T 13 6 (Ns i)) 13 = some (wA T 13 6 (Ns (i + 1)))) ∧ ∀ i, i ≤ n → GF π (B + 13 * i) (Fs i) (Ns i) := by
  have k := t_runX (s := 0) hC (by rw [gx_gf]; exact hF) hB hn
  simp only [gx_gf] at k
  exact k
/-! copies -/
theorem cpI_0 {f g : Nat → Int} {n j : Nat} (h : j < n) : cpI f g 0 0 n j = f j := by
  unfold cpI
  rw [if_pos ⟨Nat.zero_le _, by omega⟩]
  congr 1
  omega
theorem wP_g {S : xSt} {r o k a b c : Nat} {z : Nat × Nat} : gI (wP S r o k z) a b c = gI S a b c := rfl
theorem wP_1 {S : xSt} {r o k : Nat} {z : Nat × Nat} : (wP S r o k z).2.1 = S.2.1 := rfl
theorem wP_s {S : xSt} {r r' o k : Nat} {z : Nat × Nat} {X : xR} : wP (sR S r X) r' o k z = sR (wP S r' o k z) r X := rfl
set_option maxHeartbeats 4000000 in
theorem p_copyX {S : xSt} {r0 r1 q : Nat} {X : xR} (h : r1 ≠ r0) (hp : gP S r1 0 0 = (q, 0)) (hk : gk S q = 2) (h8 : S.2.1 r1 8 0 = 0 ∨ S.2.1 r1 8 0 = 1) (h11 : S.2.1 r1 0 11 = 0 ∨ S.2.1 r1 0 11 = 1) (h13 : S.2.1 r1 0 13 = 0 ∨ S.2.1 r1 0 13 = 1) : ∃ G, f_X0_copyFrom_p1_0_1_0 (sR S r0 X) r0 r1 = some (sR (wP S r0 0 0 (q, 0)) r0 G) ∧ AG G (S.2.1 r1) := by
  unfold f_X0_copyFrom_p1_0_1_0 f_X8_copyFrom_p1_2_1_2 f_X6_copyFrom_p1_5_1_5 f_X7_copyFrom_p1_8_1_8 f_X10_copyFrom_p1_9_1_9 f_X4_copyFrom_p1_11_1_11 f_X10_copyFrom_p1_12_1_12 f_X9_copyFrom_p1_14_1_14
  rw [ckP_e (q := q) (by rw [sR_gP]; exact hp) (by rw [sR_gk]; exact hk)]
  have w0 : (wr 0).toNat = 0 := by decide
  have w6 : (wr 6).toNat = 6 := by decide
  have w7 : (wr 7).toNat = 7 := by decide
  have w9 : (wr 9).toNat = 9 := by decide
  have w20 : (wr 20).toNat = 20 := by decide
  have w60 : (wr 60).toNat = 60 := by decide
  have w100 : (wr 100).toNat = 100 := by decide
  simp only [w0, w6, w7, w9, w20, w60, w100, lt1_e, bd_e, wP_s, sR_a, sR_w, sR_n1 h, sR_g1, sR_n h, wP_1, wP_g]
  rw [ckB_e (show gI S r1 8 0 = 0 ∨ gI S r1 8 0 = 1 from h8), bd_e]
  simp only [w0, w6, w7, w9, w20, w60, w100, lt1_e, bd_e, wP_s, sR_a, sR_w, sR_n1 h, sR_g1, sR_n h, wP_1, wP_g]
  rw [ckB_e (show gI S r1 0 11 = 0 ∨ gI S r1 0 11 = 1 from h11), ckB_e (show gI S r1 0 13 = 0 ∨ gI S r1 0 13 = 1 from h13)]
  refine ⟨_, rfl, ?_⟩
  have hg : ∀ o k, gI S r1 o k = S.2.1 r1 o k := fun o k => rfl
  refine ⟨fun k h1 h2 => ?_, fun k hk => ?_, ?_, fun k hk => ?_, fun k hk => ?_, ?_, fun k hk => ?_, fun k hk => ?_, fun k hk => ?_, fun k hk => ?_, ?_, fun k hk => ?_, ?_, fun k hk => ?_, fun k hk => ?_, fun k hk => ?_, fun k hk => ?_, fun k hk => ?_⟩
  · rcases (show k = 9 ∨ k = 10 ∨ k = 11 ∨ k = 12 ∨ k = 13 ∨ k = 14 ∨ k = 15 ∨ k = 16 ∨ k = 17 by omega) with rfl | rfl | rfl | rfl | rfl | rfl | rfl | rfl | rfl <;> simp (disch := omega) only [uF_e, uF_o, uF_k, uG_e, uG_o, hg]
  · simp (disch := omega) only [uF_e, uF_o, uF_k, uG_e, uG_o, hg, cpI_0]
  · simp (disch := omega) only [uF_e, uF_o, uF_k, uG_e, uG_o, hg]
  · simp (disch := omega) only [uF_e, uF_o, uF_k, uG_e, uG_o, hg, cpI_0]
  · simp (disch := omega) only [uF_e, uF_o, uF_k, uG_e, uG_o, hg, cpI_0]
  · simp (disch := omega) only [uF_e, uF_o, uF_k, uG_e, uG_o, hg]
  · simp (disch := omega) only [uF_e, uF_o, uF_k, uG_e, uG_o, hg, cpI_0]
  · simp (disch := omega) only [uF_e, uF_o, uF_k, uG_e, uG_o, hg, cpI_0]
  · rcases (show k = 0 ∨ k = 1 ∨ k = 2 ∨ k = 3 ∨ k = 4 by omega) with rfl | rfl | rfl | rfl | rfl <;> simp (disch := omega) only [uF_e, uF_o, uF_k, uG_e, uG_o, hg]
  · simp (disch := omega) only [uF_e, uF_o, uF_k, uG_e, uG_o, hg, cpI_0]
  · simp (disch := omega) only [uF_e, uF_o, uF_k, uG_e, uG_o, hg]
  · simp (disch := omega) only [uF_e, uF_o, uF_k, uG_e, uG_o, hg, cpI_0]
  · simp (disch := omega) only [uF_e, uF_o, uF_k, uG_e, uG_o, hg]
  · simp (disch := omega) only [uF_e, uF_o, uF_k, uG_e, uG_o, hg, cpI_0]
  · simp (disch := omega) only [uF_e, uF_o, uF_k, uG_e, uG_o, hg, cpI_0]
  · simp (disch := omega) only [uF_e, uF_o, uF_k, uG_e, uG_o, hg, cpI_0]
  · simp (disch := omega) only [uF_e, uF_o, uF_k, uG_e, uG_o, hg, cpI_0]
  · simp (disch := omega) only [uF_e, uF_o, uF_k, uG_e, uG_o, hg, cpI_0]
theorem p_copy {S : xSt} {r0 r1 q : Nat} {π : xR} {B : Int} {N : Nat → Int} (h : r1 ≠ r0) (hp : gP S r1 0 0 = (q, 0)) (hk : gk S q = 2) (hF : GF π B (S.2.1 r1) N) : ∃ G, f_X0_copyFrom_p1_0_1_0 S r0 r1 = some (sR (wP S r0 0 0 (q, 0)) r0 G) ∧ AG G (S.2.1 r1) := by
  have r := hF.1.2.1
  have k := p_copyX (X := S.2.1 r0) h hp hk r.2.2.2.2.2.2.2.2.2.2.1 r.2.2.2.2.1 r.2.2.2.2.2.1
  rw [sR_e] at k
  exact k
theorem p_cop7_6_b {T : xSt} {f : Nat → Int} {μ : xR} : ∀ (d : Nat) (x : Int) (n : Nat) (g : Nat → Int), 0 ≤ x → x + d = 363 → d < n → (∀ k : Nat, (k : Int) < x → g k = μ 7 k) →
    ∃ g', f_X12_copies_p4_7_4_6_b2 13 13 n (sR T 13 (uG μ 6 g)) x = some (sR T 13 (uG μ 6 g')) ∧ ∀ k : Nat, k < 363 → g' k = μ 7 k := by
  intro d
  induction d with
  | zero =>
    intro x n g hx hd hn hg
    obtain ⟨n, rfl⟩ := fs_e (show 0 < n by omega)
    refine ⟨g, ?_, fun k hk => hg k (by omega)⟩
    rw [f_X12_copies_p4_7_4_6_b2, wr_e (by decide), wr_e (by omega), if_pos (by omega)]
  | succ d ih =>
    intro x n g hx hd hn hg
    obtain ⟨n, rfl⟩ := fs_e (show 0 < n by omega)
    rw [f_X12_copies_p4_7_4_6_b2, wr_e (z := 363) (by decide), wr_e (z := x) (by omega), if_neg (by omega), ckI_e (by omega), ckI_e (by omega), sR_g, uG_o (by decide), sR_w, lt1_e, uF_G, uG_f, uG_G]
    refine ih (x + 1) n _ (by omega) (by omega) (by omega) ?_
    intro k hk
    by_cases c : k = x.toNat
    · subst c
      rw [uN_e]
    · rw [uN_k c]
      exact hg k (by omega)
theorem p_cop7_6 {T : xSt} {μ : xR} (hT : 10000000 ≤ fu T) : ∃ g, f_X12_copies_p4_7_4_6 (sR T 13 μ) 13 13 = some (sR T 13 (uG μ 6 g)) ∧ ∀ k : Nat, k < 363 → g k = μ 7 k := by
  have k := p_cop7_6_b (T := T) (f := μ 6) (μ := μ) 363 0 (fu T) (μ 6) (by decide) (by decide) (by omega) (fun k hk => absurd hk (by omega))
  rw [uG_i] at k
  exact k
theorem p_cop6_8_b {T : xSt} {f : Nat → Int} {μ : xR} : ∀ (d : Nat) (x : Int) (n : Nat) (g : Nat → Int), 0 ≤ x → x + d = 363 → d < n → (∀ k : Nat, (k : Int) < x → g k = μ 6 k) →
    ∃ g', f_X12_copies_p4_6_4_8_b2 13 13 n (sR T 13 (uG μ 8 g)) x = some (sR T 13 (uG μ 8 g')) ∧ ∀ k : Nat, k < 363 → g' k = μ 6 k := by
  intro d
  induction d with
  | zero =>
    intro x n g hx hd hn hg
    obtain ⟨n, rfl⟩ := fs_e (show 0 < n by omega)
    refine ⟨g, ?_, fun k hk => hg k (by omega)⟩
    rw [f_X12_copies_p4_6_4_8_b2, wr_e (by decide), wr_e (by omega), if_pos (by omega)]
  | succ d ih =>
    intro x n g hx hd hn hg
    obtain ⟨n, rfl⟩ := fs_e (show 0 < n by omega)
    rw [f_X12_copies_p4_6_4_8_b2, wr_e (z := 363) (by decide), wr_e (z := x) (by omega), if_neg (by omega), ckI_e (by omega), ckI_e (by omega), sR_g, uG_o (by decide), sR_w, lt1_e, uF_G, uG_f, uG_G]
    refine ih (x + 1) n _ (by omega) (by omega) (by omega) ?_
    intro k hk
    by_cases c : k = x.toNat
    · subst c
      rw [uN_e]
    · rw [uN_k c]
      exact hg k (by omega)
theorem p_cop6_8 {T : xSt} {μ : xR} (hT : 10000000 ≤ fu T) : ∃ g, f_X12_copies_p4_6_4_8 (sR T 13 μ) 13 13 = some (sR T 13 (uG μ 8 g)) ∧ ∀ k : Nat, k < 363 → g k = μ 6 k := by
  have k := p_cop6_8_b (T := T) (f := μ 8) (μ := μ) 363 0 (fu T) (μ 8) (by decide) (by decide) (by omega) (fun k hk => absurd hk (by omega))
  rw [uG_i] at k
  exact k
theorem p_cop6_10_b {T : xSt} {f : Nat → Int} {μ : xR} : ∀ (d : Nat) (x : Int) (n : Nat) (g : Nat → Int), 0 ≤ x → x + d = 363 → d < n → (∀ k : Nat, (k : Int) < x → g k = μ 6 k) →
    ∃ g', f_X12_copies_p4_6_4_10_b2 13 13 n (sR T 13 (uG μ 10 g)) x = some (sR T 13 (uG μ 10 g')) ∧ ∀ k : Nat, k < 363 → g' k = μ 6 k := by
  intro d
  induction d with
  | zero =>
    intro x n g hx hd hn hg
    obtain ⟨n, rfl⟩ := fs_e (show 0 < n by omega)
    refine ⟨g, ?_, fun k hk => hg k (by omega)⟩
    rw [f_X12_copies_p4_6_4_10_b2, wr_e (by decide), wr_e (by omega), if_pos (by omega)]
  | succ d ih =>
    intro x n g hx hd hn hg
    obtain ⟨n, rfl⟩ := fs_e (show 0 < n by omega)
    rw [f_X12_copies_p4_6_4_10_b2, wr_e (z := 363) (by decide), wr_e (z := x) (by omega), if_neg (by omega), ckI_e (by omega), ckI_e (by omega), sR_g, uG_o (by decide), sR_w, lt1_e, uF_G, uG_f, uG_G]
    refine ih (x + 1) n _ (by omega) (by omega) (by omega) ?_
    intro k hk
    by_cases c : k = x.toNat
    · subst c
      rw [uN_e]
    · rw [uN_k c]
      exact hg k (by omega)
theorem p_cop6_10 {T : xSt} {μ : xR} (hT : 10000000 ≤ fu T) : ∃ g, f_X12_copies_p4_6_4_10 (sR T 13 μ) 13 13 = some (sR T 13 (uG μ 10 g)) ∧ ∀ k : Nat, k < 363 → g k = μ 6 k := by
  have k := p_cop6_10_b (T := T) (f := μ 10) (μ := μ) 363 0 (fu T) (μ 10) (by decide) (by decide) (by omega) (fun k hk => absurd hk (by omega))
  rw [uG_i] at k
  exact k
theorem p_cop10_6_b {T : xSt} {f : Nat → Int} {μ : xR} : ∀ (d : Nat) (x : Int) (n : Nat) (g : Nat → Int), 0 ≤ x → x + d = 363 → d < n → (∀ k : Nat, (k : Int) < x → g k = μ 10 k) →
    ∃ g', f_X12_copies_p4_10_4_6_b2 13 13 n (sR T 13 (uG μ 6 g)) x = some (sR T 13 (uG μ 6 g')) ∧ ∀ k : Nat, k < 363 → g' k = μ 10 k := by
  intro d
  induction d with
  | zero =>
    intro x n g hx hd hn hg
    obtain ⟨n, rfl⟩ := fs_e (show 0 < n by omega)
    refine ⟨g, ?_, fun k hk => hg k (by omega)⟩
    rw [f_X12_copies_p4_10_4_6_b2, wr_e (by decide), wr_e (by omega), if_pos (by omega)]
  | succ d ih =>
    intro x n g hx hd hn hg
    obtain ⟨n, rfl⟩ := fs_e (show 0 < n by omega)
    rw [f_X12_copies_p4_10_4_6_b2, wr_e (z := 363) (by decide), wr_e (z := x) (by omega), if_neg (by omega), ckI_e (by omega), ckI_e (by omega), sR_g, uG_o (by decide), sR_w, lt1_e, uF_G, uG_f, uG_G]
    refine ih (x + 1) n _ (by omega) (by omega) (by omega) ?_
    intro k hk
    by_cases c : k = x.toNat
    · subst c
      rw [uN_e]
    · rw [uN_k c]
      exact hg k (by omega)
theorem p_cop10_6 {T : xSt} {μ : xR} (hT : 10000000 ≤ fu T) : ∃ g, f_X12_copies_p4_10_4_6 (sR T 13 μ) 13 13 = some (sR T 13 (uG μ 6 g)) ∧ ∀ k : Nat, k < 363 → g k = μ 10 k := by
  have k := p_cop10_6_b (T := T) (f := μ 6) (μ := μ) 363 0 (fu T) (μ 6) (by decide) (by decide) (by omega) (fun k hk => absurd hk (by omega))
  rw [uG_i] at k
  exact k
theorem p_cop6_9_b {T : xSt} {f : Nat → Int} {μ : xR} : ∀ (d : Nat) (x : Int) (n : Nat) (g : Nat → Int), 0 ≤ x → x + d = 363 → d < n → (∀ k : Nat, (k : Int) < x → g k = μ 6 k) →
    ∃ g', f_X12_copies_p4_6_4_9_b2 13 13 n (sR T 13 (uG μ 9 g)) x = some (sR T 13 (uG μ 9 g')) ∧ ∀ k : Nat, k < 363 → g' k = μ 6 k := by
  intro d
  induction d with
  | zero =>
    intro x n g hx hd hn hg
    obtain ⟨n, rfl⟩ := fs_e (show 0 < n by omega)
    refine ⟨g, ?_, fun k hk => hg k (by omega)⟩
    rw [f_X12_copies_p4_6_4_9_b2, wr_e (by decide), wr_e (by omega), if_pos (by omega)]
  | succ d ih =>
    intro x n g hx hd hn hg
    obtain ⟨n, rfl⟩ := fs_e (show 0 < n by omega)
    rw [f_X12_copies_p4_6_4_9_b2, wr_e (z := 363) (by decide), wr_e (z := x) (by omega), if_neg (by omega), ckI_e (by omega), ckI_e (by omega), sR_g, uG_o (by decide), sR_w, lt1_e, uF_G, uG_f, uG_G]
    refine ih (x + 1) n _ (by omega) (by omega) (by omega) ?_
    intro k hk
    by_cases c : k = x.toNat
    · subst c
      rw [uN_e]
    · rw [uN_k c]
      exact hg k (by omega)
theorem p_cop6_9 {T : xSt} {μ : xR} (hT : 10000000 ≤ fu T) : ∃ g, f_X12_copies_p4_6_4_9 (sR T 13 μ) 13 13 = some (sR T 13 (uG μ 9 g)) ∧ ∀ k : Nat, k < 363 → g k = μ 6 k := by
  have k := p_cop6_9_b (T := T) (f := μ 9) (μ := μ) 363 0 (fu T) (μ 9) (by decide) (by decide) (by omega) (fun k hk => absurd hk (by omega))
  rw [uG_i] at k
  exact k
theorem p_cop9_6_b {T : xSt} {f : Nat → Int} {μ : xR} : ∀ (d : Nat) (x : Int) (n : Nat) (g : Nat → Int), 0 ≤ x → x + d = 363 → d < n → (∀ k : Nat, (k : Int) < x → g k = μ 9 k) →
    ∃ g', f_X12_copies_p4_9_4_6_b2 13 13 n (sR T 13 (uG μ 6 g)) x = some (sR T 13 (uG μ 6 g')) ∧ ∀ k : Nat, k < 363 → g' k = μ 9 k := by
  intro d
  induction d with
  | zero =>
    intro x n g hx hd hn hg
    obtain ⟨n, rfl⟩ := fs_e (show 0 < n by omega)
    refine ⟨g, ?_, fun k hk => hg k (by omega)⟩
    rw [f_X12_copies_p4_9_4_6_b2, wr_e (by decide), wr_e (by omega), if_pos (by omega)]
  | succ d ih =>
    intro x n g hx hd hn hg
    obtain ⟨n, rfl⟩ := fs_e (show 0 < n by omega)
    rw [f_X12_copies_p4_9_4_6_b2, wr_e (z := 363) (by decide), wr_e (z := x) (by omega), if_neg (by omega), ckI_e (by omega), ckI_e (by omega), sR_g, uG_o (by decide), sR_w, lt1_e, uF_G, uG_f, uG_G]
    refine ih (x + 1) n _ (by omega) (by omega) (by omega) ?_
    intro k hk
    by_cases c : k = x.toNat
    · subst c
      rw [uN_e]
    · rw [uN_k c]
      exact hg k (by omega)
theorem p_cop9_6 {T : xSt} {μ : xR} (hT : 10000000 ≤ fu T) : ∃ g, f_X12_copies_p4_9_4_6 (sR T 13 μ) 13 13 = some (sR T 13 (uG μ 6 g)) ∧ ∀ k : Nat, k < 363 → g k = μ 9 k := by
  have k := p_cop9_6_b (T := T) (f := μ 6) (μ := μ) 363 0 (fu T) (μ 6) (by decide) (by decide) (by omega) (fun k hk => absurd hk (by omega))
  rw [uG_i] at k
  exact k
