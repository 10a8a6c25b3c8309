/-! mathematics: perCycle and fusedShare are no NaN -/
/-- bits of a number or an infinity -/
def GBt (f : FP.Core.Fmt) (n : Nat) : Prop := ∃ (s : Bool) (E t : Nat), n = FP.Core.assemble f s E t ∧ t < f.tails ∧ (E + 1 < f.exps ∨ (E + 1 = f.exps ∧ t = 0))
/-- what rounding gives -/
def RDt (f : FP.Core.Fmt) (d : FP.Core.Datum) : Prop := (∃ s, d = .inf s) ∨ ∃ s c q, d = .fin s c q ∧ c < 2 ^ f.p ∧ q ≤ f.qmax
def FHt (f : FP.Core.Fmt) : Prop := 1 ≤ f.p ∧ 2 ≤ f.exps ∧ f.qmin ≤ f.qmax ∧ f.qmax - f.qmin + 2 < (f.exps : Int)
section FL
variable {f : FP.Core.Fmt}
theorem tails_p (f : FP.Core.Fmt) : 0 < f.tails := Nat.two_pow_pos _
theorem asm_T {s : Bool} {E t : Nat} (ht : t < f.tails) : FP.Core.fieldT f (FP.Core.assemble f s E t) = t := by
  unfold FP.Core.fieldT FP.Core.assemble
  rw [Nat.add_comm, Nat.add_mul_mod_self_right, Nat.mod_eq_of_lt ht]
theorem asm_E {s : Bool} {E t : Nat} (hE : E < f.exps) (ht : t < f.tails) : FP.Core.fieldE f (FP.Core.assemble f s E t) = E := by
  unfold FP.Core.fieldE FP.Core.assemble
  rw [Nat.add_comm, Nat.add_mul_div_right _ _ (tails_p f), Nat.div_eq_of_lt ht, Nat.zero_add, Nat.add_comm, Nat.add_mul_mod_self_right, Nat.mod_eq_of_lt hE]
theorem gbt_nan {n : Nat} (h : GBt f n) : FP.Core.decode f n ≠ .nan := by
  obtain ⟨s, E, t, rfl, ht, hE⟩ := h
  unfold FP.Core.decode
  rw [asm_T ht, asm_E (by omega) ht]
  by_cases c : E = f.exps - 1
  · rw [if_pos c, if_pos (by omega)]
    exact fun h => nomatch h
  · rw [if_neg c]
    split
    · exact fun h => nomatch h
    · exact fun h => nomatch h
theorem pow_tails (hp : 1 ≤ f.p) : 2 ^ f.p = 2 * f.tails := by
  unfold FP.Core.Fmt.tails
  obtain ⟨k, hk⟩ : ∃ k, f.p = k + 1 := ⟨f.p - 1, by omega⟩
  rw [hk, Nat.pow_succ, Nat.add_sub_cancel, Nat.mul_comm]
theorem gbt_enc (hf : FHt f) {d : FP.Core.Datum} (h : RDt f d) : GBt f (FP.Core.encode f d) := by
  obtain ⟨h1, h2, h3, h4⟩ := hf
  have hp := pow_tails h1
  have ht := tails_p f
  rcases h with ⟨s, rfl⟩ | ⟨s, c, q, rfl, hc, hq⟩
  · exact ⟨s, f.exps - 1, 0, rfl, ht, Or.inr ⟨by omega, rfl⟩⟩
  · show GBt f (if c < f.tails then FP.Core.assemble f s 0 c else FP.Core.assemble f s ((q - f.qmin).toNat + 1) (c - f.tails))
    by_cases cc : c < f.tails
    · rw [if_pos cc]
      exact ⟨s, 0, c, rfl, cc, Or.inl (by omega)⟩
    · rw [if_neg cc]
      exact ⟨s, (q - f.qmin).toNat + 1, c - f.tails, rfl, by omega, Or.inl (by omega)⟩
theorem rdt_bound {s : Bool} {c : Nat} {q : Int} (hc : c < 2 ^ f.p) : RDt f (FP.Core.bound f s c q) := by
  unfold FP.Core.bound
  split
  · exact Or.inr ⟨s, c, q, rfl, hc, by assumption⟩
  · exact Or.inl ⟨s, rfl⟩
theorem rdt_ratio (hf : FHt f) {s : Bool} {a b : Nat} {e : Int} : RDt f (FP.Core.roundRatio f s a b e) := by
  have hp := pow_tails hf.1
  have ht := tails_p f
  unfold FP.Core.roundRatio
  split
  · exact Or.inr ⟨s, 0, f.qmin, rfl, by omega, hf.2.2.1⟩
  · unfold FP.Core.roundAt FP.Core.settle
    split
    · rename_i h
      exact rdt_bound h
    · exact rdt_bound (by omega)
theorem fh32 : FHt FP.Core.b32 := by unfold FHt; decide
theorem fh64 : FHt FP.Core.b64 := by unfold FHt; decide
theorem gb64_lt {n : Nat} (h : GBt FP.Core.b64 n) : n < 2 ^ 64 ∧ n % 2 ^ 63 ≤ 9218868437227405312 := by
  obtain ⟨s, E, t, rfl, ht, hE⟩ := h
  have e1 : FP.Core.b64.tails = 4503599627370496 := by decide
  have e2 : FP.Core.b64.exps = 2048 := by decide
  unfold FP.Core.assemble
  rw [e1] at ht ⊢
  rw [e2] at hE ⊢
  cases s
  · rw [show (false).toNat = 0 from rfl]
    omega
  · rw [show (true).toNat = 1 from rfl]
    omega
theorem gb32_lt {n : Nat} (h : GBt FP.Core.b32 n) : n < 2 ^ 32 ∧ n % 2 ^ 31 ≤ 2139095040 := by
  obtain ⟨s, E, t, rfl, ht, hE⟩ := h
  have e1 : FP.Core.b32.tails = 8388608 := by decide
  have e2 : FP.Core.b32.exps = 256 := by decide
  unfold FP.Core.assemble
  rw [e1] at ht ⊢
  rw [e2] at hE ⊢
  cases s
  · rw [show (false).toNat = 0 from rfl]
    omega
  · rw [show (true).toNat = 1 from rfl]
    omega
theorem u64_n {n : Nat} (h : GBt FP.Core.b64 n) : (UInt64.ofNat n).toNat = n := by
  rw [UInt64.toNat_ofNat']
  exact Nat.mod_eq_of_lt (gb64_lt h).1
theorem u32_n {n : Nat} (h : GBt FP.Core.b32 n) : (UInt32.ofNat n).toNat = n := by
  rw [UInt32.toNat_ofNat']
  exact Nat.mod_eq_of_lt (gb32_lt h).1
theorem ckNd_g {β : Type} {n : Nat} (h : GBt FP.Core.b64 n) {k : Option β} : ckNd (UInt64.ofNat n) k = k := by
  unfold ckNd
  refine if_pos ?_
  rw [UInt64.le_iff_toNat_le, UInt64.toNat_and, u64_n h]
  have e : (9223372036854775807 : UInt64).toNat = 2 ^ 63 - 1 := by decide
  rw [e, Nat.and_two_pow_sub_one_eq_mod]
  exact (gb64_lt h).2
theorem ckNf_g {β : Type} {n : Nat} (h : GBt FP.Core.b32 n) {k : Option β} : ckNf (UInt32.ofNat n) k = k := by
  unfold ckNf
  refine if_pos ?_
  rw [UInt32.le_iff_toNat_le, UInt32.toNat_and, u32_n h]
  have e : (2147483647 : UInt32).toNat = 2 ^ 31 - 1 := by decide
  rw [e, Nat.and_two_pow_sub_one_eq_mod]
  exact (gb32_lt h).2
theorem ord_self {d : FP.Core.Datum} (h : d ≠ .nan) : FP.Core.order d d = some .eq := by
  cases d with
  | nan => exact absurd rfl h
  | inf s =>
    show some (compare (FP.Core.signed s 1) (FP.Core.signed s 1)) = some .eq
    rw [Int.compare_eq_eq.mpr rfl]
  | fin s c q =>
    show some (compare _ _) = some .eq
    rw [Int.compare_eq_eq.mpr rfl]
theorem dcmp_self {n : Nat} (h : GBt FP.Core.b64 n) : FP.dcmp (UInt64.ofNat n) (UInt64.ofNat n) = some .eq := by
  show FP.Core.cmp FP.Core.b64 (UInt64.ofNat n).toNat (UInt64.ofNat n).toNat = some .eq
  rw [u64_n h]
  exact ord_self (gbt_nan h)
/-- a number other than zero -/
def NZt (f : FP.Core.Fmt) (n : Nat) : Prop := GBt f n ∧ ∃ s c q, FP.Core.decode f n = .fin s c q ∧ c ≠ 0
theorem nz_of (hf : FHt f) {s : Bool} {c : Nat} {q : Int} (h0 : c ≠ 0) (hc : c < 2 ^ f.p) (hq : q ≤ f.qmax) : NZt f (FP.Core.encode f (.fin s c q)) := by
  refine ⟨gbt_enc hf (Or.inr ⟨s, c, q, rfl, hc, hq⟩), ?_⟩
  obtain ⟨h1, h2, h3, h4⟩ := hf
  have hp := pow_tails h1
  have ht := tails_p f
  show ∃ s' c' q', FP.Core.decode f (if c < f.tails then FP.Core.assemble f s 0 c else FP.Core.assemble f s ((q - f.qmin).toNat + 1) (c - f.tails)) = .fin s' c' q' ∧ c' ≠ 0
  by_cases cc : c < f.tails
  · rw [if_pos cc]
    unfold FP.Core.decode
    rw [asm_T cc, asm_E (by omega) cc, if_neg (by omega), if_pos rfl]
    exact ⟨_, _, _, rfl, h0⟩
  · have hT : c - f.tails < f.tails := by omega
    rw [if_neg cc]
    unfold FP.Core.decode
    rw [asm_T hT, asm_E (by omega) hT, if_neg (by omega), if_neg (by omega)]
    exact ⟨_, _, _, rfl, by omega⟩
theorem near1 (x : Nat) : FP.Core.nearest x 1 = x := by
  unfold FP.Core.nearest
  rw [Nat.mod_one, if_pos (by decide), Nat.div_one]
theorem lead1 {b j : Nat} (h : b < 2 ^ j) (hj : 1 ≤ j) : FP.Core.leading b 1 ≤ (j : Int) := by
  have h1 : Nat.log2 1 = 0 := by decide
  have h2 : b.log2 ≤ j := by
    by_cases c : b = 0
    · subst c
      have : Nat.log2 0 = 0 := by decide
      omega
    · have := (Nat.log2_lt c).mpr h
      omega
  unfold FP.Core.leading
  rw [h1]
  dsimp only
  split <;> omega
theorem nz_int (hf : FHt f) {b j : Nat} (hb : b ≠ 0) (hbj : b < 2 ^ j) (hj : 1 ≤ j ∧ j + 1 ≤ f.p) (hq : f.qmin ≤ 0 ∧ 1 ≤ f.qmax) : NZt f (FP.Core.encode f (FP.Core.round f (FP.Core.ofInt (b : Int)))) := by
  have hp := pow_tails hf.1
  have ht := tails_p f
  have hl := lead1 hbj hj.1
  have e0 : FP.Core.round f (FP.Core.ofInt (b : Int)) = FP.Core.roundRatio f (decide ((b : Int) < 0)) b 1 0 := rfl
  rw [e0]
  unfold FP.Core.roundRatio
  rw [if_neg hb]
  have hqn : FP.Core.quantum f b 1 0 ≤ 0 := by
    unfold FP.Core.quantum
    omega
  generalize FP.Core.quantum f b 1 0 = q at hqn
  unfold FP.Core.roundAt FP.Core.unitsNum FP.Core.unitsDen
  rw [show (q - 0).toNat = 0 by omega, Nat.pow_zero, Nat.mul_one, near1]
  have hnz : b * 2 ^ (0 - q).toNat ≠ 0 := Nat.mul_ne_zero hb (Nat.ne_of_gt (Nat.two_pow_pos _))
  generalize b * 2 ^ (0 - q).toNat = c at hnz
  unfold FP.Core.settle FP.Core.bound
  by_cases cc : c < 2 ^ f.p
  · rw [if_pos cc, if_pos (by omega)]
    exact nz_of hf hnz cc (by omega)
  · rw [if_neg cc, if_pos (by omega)]
    exact nz_of hf (by omega) (by omega) (by omega)
theorem gb_int (hf : FHt f) {i : Int} : GBt f (FP.Core.encode f (FP.Core.round f (FP.Core.ofInt i))) := gbt_enc hf (rdt_ratio hf)
theorem gb_quot (hf : FHt f) {a b : Nat} (ha : GBt f a) (hb : NZt f b) : GBt f (FP.Core.encode f (FP.Core.quotient f (FP.Core.decode f a) (FP.Core.decode f b))) := by
  obtain ⟨hb1, s, c, q, hb2, hb3⟩ := hb
  have hp := pow_tails hf.1
  have ht := tails_p f
  have hn := gbt_nan ha
  refine gbt_enc hf ?_
  rw [hb2]
  cases hd : FP.Core.decode f a with
  | nan => exact absurd hd hn
  | inf t => exact Or.inl ⟨_, rfl⟩
  | fin t c2 q2 =>
    show RDt f (if c = 0 then (if c2 = 0 then .nan else .inf (t != s)) else FP.Core.roundRatio f (t != s) c2 c (q2 - q))
    rw [if_neg hb3]
    exact rdt_ratio hf
theorem i32_i {z : Int} (h : -2147483648 ≤ z ∧ z ≤ 2147483647) : (Int32.ofInt z).toInt = z := Int32.toInt_ofInt_of_le (by omega) (by omega)
/-- a quotient of doubles of whole numbers -/
theorem gb_dd {a b : Int} (hb : 0 < b ∧ b < 4194304) : ∃ n, GBt FP.Core.b64 n ∧ FP.ddiv (FP.i2d (Int32.ofInt a)) (FP.i2d (Int32.ofInt b)) = UInt64.ofNat n := by
  have g1 : GBt FP.Core.b64 (FP.Core.encode FP.Core.b64 (FP.Core.round FP.Core.b64 (FP.Core.ofInt (Int32.ofInt a).toInt))) := gb_int fh64
  have g2 : NZt FP.Core.b64 (FP.Core.encode FP.Core.b64 (FP.Core.round FP.Core.b64 (FP.Core.ofInt (Int32.ofInt b).toInt))) := by
    rw [i32_i (by omega)]
    have k := nz_int (b := b.toNat) (j := 22) fh64 (by omega) (by omega) (by decide) (by decide)
    rw [show ((b.toNat : Nat) : Int) = b by omega] at k
    exact k
  refine ⟨_, gb_quot fh64 g1 g2, ?_⟩
  show UInt64.ofNat (FP.Core.div FP.Core.b64 (UInt64.ofNat (FP.Core.encode FP.Core.b64 (FP.Core.round FP.Core.b64 (FP.Core.ofInt (Int32.ofInt a).toInt)))).toNat (UInt64.ofNat (FP.Core.encode FP.Core.b64 (FP.Core.round FP.Core.b64 (FP.Core.ofInt (Int32.ofInt b).toInt)))).toNat) = _
  rw [u64_n g1, u64_n g2.1]
  rfl
theorem gb_ff {a b : Int} (hb : 0 < b ∧ b < 4194304) : ∃ n, GBt FP.Core.b32 n ∧ FP.fdiv (FP.i2f (Int32.ofInt a)) (FP.i2f (Int32.ofInt b)) = UInt32.ofNat n := by
  have g1 : GBt FP.Core.b32 (FP.Core.encode FP.Core.b32 (FP.Core.round FP.Core.b32 (FP.Core.ofInt (Int32.ofInt a).toInt))) := gb_int fh32
  have g2 : NZt FP.Core.b32 (FP.Core.encode FP.Core.b32 (FP.Core.round FP.Core.b32 (FP.Core.ofInt (Int32.ofInt b).toInt))) := by
    rw [i32_i (by omega)]
    have k := nz_int (b := b.toNat) (j := 22) fh32 (by omega) (by omega) (by decide) (by decide)
    rw [show ((b.toNat : Nat) : Int) = b by omega] at k
    exact k
  refine ⟨_, gb_quot fh32 g1 g2, ?_⟩
  show UInt32.ofNat (FP.Core.div FP.Core.b32 (UInt32.ofNat (FP.Core.encode FP.Core.b32 (FP.Core.round FP.Core.b32 (FP.Core.ofInt (Int32.ofInt a).toInt)))).toNat (UInt32.ofNat (FP.Core.encode FP.Core.b32 (FP.Core.round FP.Core.b32 (FP.Core.ofInt (Int32.ofInt b).toInt)))).toNat) = _
  rw [u32_n g1, u32_n g2.1]
  rfl
theorem gb_f2d {n : Nat} (h : GBt FP.Core.b32 n) : ∃ k, GBt FP.Core.b64 k ∧ FP.f2d (UInt32.ofNat n) = UInt64.ofNat k := by
  have hn := gbt_nan h
  have e1 : FP.Core.fIsNaN (UInt32.ofNat n) = false := by
    show decide (FP.Core.decode FP.Core.b32 (UInt32.ofNat n).toNat = .nan) = false
    rw [u32_n h]
    exact decide_eq_false hn
  refine ⟨FP.Core.encode FP.Core.b64 (FP.Core.round FP.Core.b64 (FP.Core.decode FP.Core.b32 n)), gbt_enc fh64 ?_, ?_⟩
  · cases hd : FP.Core.decode FP.Core.b32 n with
    | nan => exact absurd hd hn
    | inf t => exact Or.inl ⟨t, rfl⟩
    | fin t c q => exact rdt_ratio fh64
  · unfold FP.f2d
    rw [e1]
    show UInt64.ofNat (FP.Core.convert FP.Core.b32 FP.Core.b64 (UInt32.ofNat n).toNat) = _
    rw [u32_n h]
    rfl
theorem gb_0 : GBt FP.Core.b64 0 := ⟨false, 0, 0, by decide, by decide, Or.inl (by decide)⟩
theorem gb_0f : GBt FP.Core.b32 0 := ⟨false, 0, 0, by decide, by decide, Or.inl (by decide)⟩
theorem cmp_0 : wr (Op.cmpValue (some .eq) .l).toInt = 0 := by decide
end FL
section FC
variable {m L : Nat} {S : xSt} {sc : Nat → Int}
theorem k_perCycle (hI : INV m S) (hm : m < 512) : CALL m S (f_X11_perCycle_p3_0 S 0) (fun T => f_X12_perCycle_p4_0 T 13) (fun v v' _ => v = v' ∧ ∃ n, GBt FP.Core.b64 n ∧ v = UInt64.ofNat n) := by
  obtain ⟨q, F, X, π, μ, hμ, gF, gX, gQ, gP4, gkq, hR, hM, hF, hn, hio, hSe, hct, hfu, hhi, hsv⟩ := inv_all hI
  have r11 := hF.2.1.2.2.2.2.2.2.2.2.2.2.2.1
  have e16 : μ 6 16 = F 15 0 := by have := hF.1.2.2.2.2.2.2.2.2.2.2.2.2.2.1; omega
  have e17 : μ 6 17 = F 15 1 := hF.1.2.2.2.2.2.2.2.2.2.2.2.2.2.2.1
  have hb : BB m ≤ 3328000 := by unfold BB; omega
  have c0 : gI S (0 + 1) 15 0 = F 15 0 := gF 15 0
  have c1 : gI S (0 + 1) 15 1 = F 15 1 := gF 15 1
  by_cases c : 0 < F 15 0
  · obtain ⟨n, n1, n2⟩ := gb_dd (a := F 15 1) (b := F 15 0) ⟨c, by omega⟩
    refine callR hI (v := UInt64.ofNat n) (v' := UInt64.ofNat n) (z := 0) ?_ (fun T hT => ?_) ⟨rfl, n, n1, rfl⟩
    · unfold f_X11_perCycle_p3_0
      rw [c0, c1, wr_e (z := F 15 0) (by omega), if_pos c, n2, ckNd_g n1]
    · unfold f_X12_perCycle_p4_0
      rw [hμ, sR_w, lt1_e, sR_g, uF_n (by omega), e16, wr_e (z := F 15 0) (by omega), if_pos (by omega), sR_g, uF_n (by omega), e17, n2, ckNd_g n1]
  · refine callR hI (v := 0) (v' := 0) (z := 0) ?_ (fun T hT => ?_) ⟨rfl, 0, gb_0, rfl⟩
    · unfold f_X11_perCycle_p3_0
      rw [c0, wr_e (z := F 15 0) (by omega), if_neg c]
    · unfold f_X12_perCycle_p4_0
      rw [hμ, sR_w, lt1_e, sR_g, uF_n (by omega), e16, wr_e (z := F 15 0) (by omega), if_neg (by omega)]
theorem k_fusedShare (hI : INV m S) (hm : m < 512) : CALL m S (f_X11_fusedShare_p3_0 S 0) (fun T => f_X12_fusedShare_p4_0 T 13) (fun v v' _ => v = v' ∧ ∃ n, GBt FP.Core.b32 n ∧ v = UInt32.ofNat n) := by
  obtain ⟨q, F, X, π, μ, hμ, gF, gX, gQ, gP4, gkq, hR, hM, hF, hn, hio, hSe, hct, hfu, hhi, hsv⟩ := inv_all hI
  have r12 := hF.2.1.2.2.2.2.2.2.2.2.2.2.2.2.1
  have e17 : μ 6 17 = F 15 1 := hF.1.2.2.2.2.2.2.2.2.2.2.2.2.2.2.1
  have e19 : μ 6 19 = F 15 3 := hF.1.2.2.2.2.2.2.2.2.2.2.2.2.2.2.2.2.1
  have hb : BB m ≤ 3328000 := by unfold BB; omega
  have c1 : gI S (0 + 1) 15 1 = F 15 1 := gF 15 1
  have c3 : gI S (0 + 1) 15 3 = F 15 3 := gF 15 3
  by_cases c : 0 < F 15 1
  · obtain ⟨n, n1, n2⟩ := gb_ff (a := 2 * F 15 3) (b := F 15 1) ⟨c, by omega⟩
    refine callR hI (v := UInt32.ofNat n) (v' := UInt32.ofNat n) (z := 0) ?_ (fun T hT => ?_) ⟨rfl, n, n1, rfl⟩
    · unfold f_X11_fusedShare_p3_0
      rw [c1, c3, wr_e (z := F 15 1) (by omega), if_pos c, n2, ckNf_g n1]
    · unfold f_X12_fusedShare_p4_0
      rw [hμ, sR_w, lt1_e, sR_g, uF_n (by omega), e17, wr_e (z := F 15 1) (by omega), if_pos (by omega), sR_g, uF_n (by omega), e19, n2, ckNf_g n1]
  · refine callR hI (v := 0) (v' := 0) (z := 0) ?_ (fun T hT => ?_) ⟨rfl, 0, gb_0f, rfl⟩
    · unfold f_X11_fusedShare_p3_0
      rw [c1, wr_e (z := F 15 1) (by omega), if_neg c]
    · unfold f_X12_fusedShare_p4_0
      rw [hμ, sR_w, lt1_e, sR_g, uF_n (by omega), e17, wr_e (z := F 15 1) (by omega), if_neg (by omega)]
theorem gl_perCycle (hL : L ≤ 3072) (hsc : ∀ k, wr (sc k) = sc k) : stepOK INV L (fun c S x => f_law_b1261 c 0 13 14 L sc S x) := step_b1261 hL hsc (fun m S hm hI => by
  obtain ⟨v1, S1, v2, S2, e1, e2, ⟨e3, n, n1, n2⟩, e4⟩ := glueA hI (k_perCycle hI hm)
  refine ⟨v1, S1, v2, S2, e1, e2, ?_, e4⟩
  rw [← e3, n2, dcmp_self n1]
  exact cmp_0)
theorem gl_fusedShare (hL : L ≤ 3072) (hsc : ∀ k, wr (sc k) = sc k) : stepOK INV L (fun c S x => f_law_b1302 c 0 13 14 L sc S x) := step_b1302 hL hsc (fun m S hm hI => by
  obtain ⟨v1, S1, v2, S2, e1, e2, ⟨e3, n, n1, n2⟩, e4⟩ := glueA hI (k_fusedShare hI hm)
  obtain ⟨k, k1, k2⟩ := gb_f2d n1
  refine ⟨v1, S1, v2, S2, e1, e2, fun _ => ?_, fun _ => ?_, ?_, e4⟩
  · rw [n2, k2, ckNd_g k1]
  · rw [← e3, n2, k2, ckNd_g k1]
  · rw [← e3, n2, k2, dcmp_self k1]
    exact cmp_0)
end FC
