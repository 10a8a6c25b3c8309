abbrev ttL_feed_ : List (Nat × Instr × Nat) := [(0, .iconst 0, 1), (1, .istore_n 2, 1), (2, .iload_n 2, 1), (3, .aload_n 1, 1), (4, .invokevirtual 15, 3), (7, .if_icmp .ge 93, 3), (10, .iconst 5, 1), (11, .newarray .int, 2), (13, .astore_n 3, 1), (14, .iconst 0, 1), (15, .istore 4, 2), (17, .iload 4, 2), (19, .bipush 20, 2), (21, .if_icmp .ge 53, 3), (24, .aload_n 3, 1), (25, .iload 4, 2), (27, .iconst 4, 1), (28, .idiv, 1), (29, .dup2, 1), (30, .iaload, 1), (31, .iload_n 2, 1), (32, .iload 4, 2), (34, .iadd, 1), (35, .aload_n 1, 1), (36, .invokevirtual 15, 3), (39, .if_icmp .ge 14, 3), (42, .aload_n 1, 1), (43, .iload_n 2, 1), (44, .iload 4, 2), (46, .iadd, 1), (47, .invokevirtual 21, 3), (50, .goto 5, 3), (53, .bipush 32, 2), (55, .bipush 24, 2), (57, .bipush 8, 2), (59, .iload 4, 2), (61, .iconst 4, 1), (62, .irem, 1), (63, .imul, 1), (64, .isub, 1), (65, .ishl, 1), (66, .ior, 1), (67, .iastore, 1), (68, .iinc 4 1, 3), (71, .goto (-54), 3), (74, .aload_n 0, 1), (75, .aload_n 3, 1), (76, .iconst 0, 1), (77, .iaload, 1), (78, .aload_n 3, 1), (79, .iconst 1, 1), (80, .iaload, 1), (81, .aload_n 3, 1), (82, .iconst 2, 1), (83, .iaload, 1), (84, .aload_n 3, 1), (85, .iconst 3, 1), (86, .iaload, 1), (87, .aload_n 3, 1), (88, .iconst 4, 1), (89, .iaload, 1), (90, .invokevirtual 25, 3), (93, .pop, 1), (94, .iinc 2 20, 3), (97, .goto (-95), 3), (100, .aload_n 0, 1), (101, .aload_n 1, 1), (102, .invokevirtual 15, 3), (105, .invokevirtual 31, 3), (108, .pop, 1), (109, .return_, 1)]
theorem tt_L_feed : xdc cL_feed ttL_feed_ = true := by decide +kernel
theorem m_L_feed : mS yL_feed cL_feed 5 (none) 2 := ⟨⟨q451, q190, q452⟩, ⟨by decide +kernel, by decide +kernel, by decide +kernel⟩, by decide⟩
abbrev ttL_parsed_ : List (Nat × Instr × Nat) := [(0, .aload_n 0, 1), (1, .aload_n 1, 1), (2, .invokestatic 35, 3), (5, .aload_n 0, 1), (6, .invokevirtual 38, 3), (9, .ireturn, 1)]
theorem tt_L_parsed : xdc cL_parsed ttL_parsed_ = true := by decide +kernel
theorem m_L_parsed : mS yL_parsed cL_parsed 2 ((some .int)) 2 := ⟨⟨q448, q190, q449⟩, ⟨by decide +kernel, by decide +kernel, by decide +kernel⟩, by decide⟩
/-! a row of five ints beside the regions -/
def uN5 (f : Nat → Int) (k : Nat) (z : Int) : Nat → Int := fun j => if j = k then z else f j
def arr5 (E : xE) (B a : Nat) (f : Nat → Int) : xPsi := fun s H => ∃ cell : Cell, H[a]? = some cell ∧ s.isArrayOf cell .int ∧ cell.vm ≠ .unknown ∧ cell.slots.size = 5 ∧ (∀ j : Nat, j < 5 → cell.slots[j]? = some (vi (f j))) ∧ B ≤ a ∧ ∀ (r o : Nat) (k : xK), lay (xkd E r) o = some k → xad E r o ≠ a
def PA (E : xE) (B a : Nat) (f : Nat → Int) : xPsi := fun s H => PN E B [] s H ∧ arr5 E B a f s H
theorem PA_keep {E : xE} {B a : Nat} {f : Nat → Int} : xKeep E (PA E B a f) := fun s H H1 h hz hk => ⟨PN_kept h.1 hz hk, by
  obtain ⟨h1, cell, h2, h3⟩ := h
  refine ⟨cell, (hk a (Array.getElem?_eq_some_iff.mp h2).1 (fun z => ?_)).trans h2, h3⟩
  obtain ⟨r, o, k, g1, g2⟩ := h1.2.2.1 _ z
  exact h3.2.2.2.2.2 r o k g1 g2⟩
section FA
variable {K : xCtx} {E : xE} {B : Nat} {cl sl : Nat} {cc : ByteArray} {own : String} {n : Nat} {rm : Room} {pc : Nat} {lv : List (Nat × Value)} {st : List Value} {S : xSt} {a : Nat} {f : Nat → Int}
theorem b_new5 (hC : xOK K cc own n rm) (harr : Cond.arrayClass .int ∈ xw) (hcl : cl + 1 ≤ rm.cells) (hsl : sl + 5 ≤ rm.slots) {pc' : Nat} (hp : pc + 2 = pc') (d : decode cc pc = .ok (.newarray .int, 2))
    (k : ∀ a : Nat, WB B (PA E B a (fun _ => 0)) (cl + 1) (sl + 5) K E pc' lv (.ref a :: st) S) : WB B (PN E B []) cl sl K E pc lv (vi 5 :: st) S := by
  subst hp
  obtain ⟨p, l, e, R, s, m, args, below, meth, c, nL, cl0, sl0, Q⟩ := K
  obtain ⟨hx, hb, hml, hown, hts, hlk, rfl, hRR⟩ := hC
  intro H locs ls hY hP hS hl
  have e5 : wr 5 = 5 := by decide
  have e0 : wr 0 = 0 := by decide
  refine va_newaK (atype := .int) hx hb (hts _ harr) rfl d rfl (fun q => by rw [i32_0, i32_lt] at q; omega) (N := 5) (by rw [i32_nat]; decide) (by decide) (by rw [hRR]; exact hcl) (by rw [hRR]; exact hsl) rfl fun H1 cA e1 z1 o1 hAr hfc => ?_
  have P1 := PN_push (z := .inr (.inl (.int, 5))) hY hP ⟨_, e1, hAr _ _, (fun q => by cases q), arrV_size _ _ _, fun j hj => arrV_read _ _ hj⟩ z1 o1
  obtain ⟨⟨cell, g1, g2, g3, g4, g5⟩, gB, gp⟩ := P1.1 _ List.mem_cons_self
  exact k H.size H1 locs ls (YW_push hY o1) ⟨⟨fun q h => absurd h List.not_mem_nil, List.Pairwise.nil, P1.2.2⟩, cell, g1, g2, g3, g4, fun j hj => (g5 j hj).trans rfl, gB, gp⟩ ⟨Nat.le_trans hS.1 (by omega), fun x h1 h2 => (o1 x (Nat.lt_of_lt_of_le h1 hS.1)).trans (hS.2.1 x h1 h2), hS.2.2⟩ hl
theorem b_ald5 (hC : xOK K cc own n rm) {i : Int} (hi : 0 ≤ wr i ∧ wr i < ((5 : Nat) : Int)) {pc' : Nat} (hp : pc + 1 = pc') (d : decode cc pc = .ok (.iaload, 1)) {k0 : Nat} (hkk : (wr i).toNat = k0)
    (k : WB B (PA E B a f) cl sl K E pc' lv (vi (f k0) :: st) S) : WB B (PA E B a f) cl sl K E pc lv (vi i :: .ref a :: st) S := by
  subst hp
  obtain ⟨p, l, e, R, s, m, args, below, meth, c, nL, cl0, sl0, Q⟩ := K
  obtain ⟨hx, hb, hml, hown, hts, hlk, rfl, hRR⟩ := hC
  intro H locs ls hY hP hS hl
  have k := k H locs ls hY hP hS hl
  obtain ⟨cell, h1, h2, h3, h4, h5, h6⟩ := hP.2
  rw [← hkk, ← i32_nat] at k
  obtain ⟨g1, g2⟩ := x_idx (ck_in hi) (Nat.le_of_eq h4.symm)
  exact W.iald hx hb h1 h2 h3 g1 (h5 _ g2) rfl rfl d k
theorem b_ast5 (hC : xOK K cc own n rm) {i z : Int} (hi : 0 ≤ wr i ∧ wr i < ((5 : Nat) : Int)) {pc' : Nat} (hp : pc + 1 = pc') (d : decode cc pc = .ok (.iastore, 1)) {k0 : Nat} (hkk : (wr i).toNat = k0)
    (k : WB B (PA E B a (uN5 f k0 z)) cl sl K E pc' lv st S) : WB B (PA E B a f) cl sl K E pc lv (vi z :: vi i :: .ref a :: st) S := by
  subst hp
  obtain ⟨p, l, e, R, s, m, args, below, meth, c, nL, cl0, sl0, Q⟩ := K
  obtain ⟨hx, hb, hml, hown, hts, hlk, rfl, hRR⟩ := hC
  intro H locs ls hY hP hS hl
  obtain ⟨hN, cell, h1, h2, h3, h4, h5, h6, h7⟩ := hP
  obtain ⟨g1, g2⟩ := x_idx (ck_in hi) (Nat.le_of_eq h4.symm)
  have ek : (Int32.ofInt i).toNatClampNeg = k0 := by rw [i32_nat]; exact hkk
  rw [ek] at g2
  refine W.iast hx hb h1 h2 h3 g1 rfl rfl d fun H1 e1 z1 oq => ?_
  rw [ek] at e1
  have hXB := XStat_kept (E := eB E B) hN.2.2.2.2.2.1 (fun b _ hb => oq b (fun e => hb (by rw [e]; exact h6)))
  have hx1 : H1.size = H.size := z1
  refine k H1 _ ls ⟨⟨hY.1.1, fun r o k hl => xat_kept (hY.1.2.1 r o k hl) (oq _ (h7 r o k hl)), hY.1.2.2.1, XStat_narrow hXB hN.2.2.2.1, hY.1.2.2.2.2⟩, hY.2⟩ ⟨⟨fun q h => absurd h List.not_mem_nil, List.Pairwise.nil, hN.2.2.1, hN.2.2.2.1, by rw [hx1]; exact hN.2.2.2.2.1, hXB, hN.2.2.2.2.2.2⟩, _, e1, h2, h3, by rw [← h4]; simp [Cell.setSlot], fun j hj => ?_, h6, h7⟩ (hS.put z1 oq h6) hl
  unfold uN5
  by_cases c : j = k0
  · subst c
    rw [if_pos rfl]
    have : j < cell.slots.size := by omega
    simp [Cell.setSlot, this, vi]
  · rw [if_neg c, ← h5 j hj]
    simp [Cell.setSlot, Array.getElem?_setIfInBounds, Ne.symm c]
end FA

/-! what length and charAt answer on a text that was made; four letters in an int -/
def TXo (S : xSt) (r m : Nat) (tx : Nat → Int) : Prop := gI S r 0 1 = 0 ∧ ∀ k : Nat, k < m → gI S r 1 k = tx k
def chT (m : Nat) (tx : Nat → Int) (i : Nat) : Int := if i < m then tx i else 32
def wdT (m : Nat) (tx : Nat → Int) (i : Nat) : Int := chT m tx i * 16777216 + chT m tx (i + 1) * 65536 + chT m tx (i + 2) * 256 + chT m tx (i + 3)
def pwT (m : Nat) (tx : Nat → Int) (at_ k j : Nat) : Int := (if 4 * j < k then chT m tx (at_ + 4 * j) * 16777216 else 0) + (if 4 * j + 1 < k then chT m tx (at_ + 4 * j + 1) * 65536 else 0) + (if 4 * j + 2 < k then chT m tx (at_ + 4 * j + 2) * 256 else 0) + (if 4 * j + 3 < k then chT m tx (at_ + 4 * j + 3) else 0)
theorem bd_s {α β : Type} {a : α} {f : α → Option β} : bd (some a) f = f a := rfl
theorem bd2_s {α β γ : Type} {a : α} {b : β} {f : α → β → Option γ} : bd2 (some (a, b)) f = f a b := rfl
theorem chT_r {m : Nat} {tx : Nat → Int} (hb : ∀ i : Nat, i < m → 0 ≤ tx i ∧ tx i ≤ 127) (i : Nat) : 0 ≤ chT m tx i ∧ chT m tx i ≤ 127 := by
  unfold chT
  split
  · exact hb i (by assumption)
  · omega
theorem iA_n : ∀ c : Nat, c < 128 → iA (c : Int) 255 = c ∧ iCh (c : Int) = c := by decide +kernel
theorem iSl_n : ∀ c : Nat, c < 128 → iSl (c : Int) 24 = c * 16777216 ∧ iSl (c : Int) 16 = c * 65536 ∧ iSl (c : Int) 8 = c * 256 ∧ iSl (c : Int) 0 = c := by decide +kernel
theorem iSr_0 (n : Nat) (h : n ≤ 1000000) : iSr (n : Int) 0 = n := by
  unfold iSr
  have e : (Int32.ofInt (n : Int)) >>> ((Int32.ofInt 0) &&& 31) = Int32.ofInt (n : Int) := sb_shr0 _
  rw [e, wr_toInt, wr_id (by omega)]
theorem iO_n {a b : Nat} (ha : a < 2 ^ 31) (hb : b < 2 ^ 31) : iO (a : Int) (b : Int) = ((a ||| b : Nat) : Int) := by
  have h1 : (Int32.ofInt (a : Int)).toBitVec.toNat = a := pk_tn (n := a) (by omega)
  have h2 : (Int32.ofInt (b : Int)).toBitVec.toNat = b := pk_tn (n := b) (by omega)
  have h3 : (Int32.ofInt (a : Int) ||| Int32.ofInt (b : Int)).toBitVec.toNat = a ||| b := by
    rw [Int32.toBitVec_or, BitVec.toNat_or, h1, h2]
  have h4 : a ||| b < 2 ^ 31 := Nat.or_lt_two_pow ha hb
  show (Int32.ofInt (a : Int) ||| Int32.ofInt (b : Int)).toBitVec.toInt = _
  rw [BitVec.toInt_eq_toNat_of_lt (by rw [h3]; omega), h3]
theorem iO_s {X C i : Nat} (hC : C < 2 ^ i) (hx : X < 2 ^ 31) (hc : C < 2 ^ 31) {a : Nat} (ha : X = a <<< i) : iO (X : Int) (C : Int) = ((X + C : Nat) : Int) := by
  rw [iO_n hx hc, ha, Nat.shiftLeft_add_eq_or_of_lt hC]
theorem tx_nat {m : Nat} {tx : Nat → Int} (hb : ∀ i : Nat, i < m → 0 ≤ tx i ∧ tx i ≤ 127) (i : Nat) : ∃ c : Nat, c < 128 ∧ chT m tx i = c := by
  have := chT_r hb i
  exact ⟨(chT m tx i).toNat, by omega, by omega⟩
/-- one letter more -/
theorem pwT_s {m : Nat} {tx : Nat → Int} (hb : ∀ i : Nat, i < m → 0 ≤ tx i ∧ tx i ≤ 127) {at_ k : Nat} : iO (pwT m tx at_ k (k / 4)) (iSl (chT m tx (at_ + k)) (24 - 8 * ((k % 4 : Nat) : Int))) = pwT m tx at_ (k + 1) (k / 4) := by
  obtain ⟨c0, h0, e0⟩ := tx_nat hb (at_ + 4 * (k / 4))
  obtain ⟨c1, h1, e1⟩ := tx_nat hb (at_ + 4 * (k / 4) + 1)
  obtain ⟨c2, h2, e2⟩ := tx_nat hb (at_ + 4 * (k / 4) + 2)
  obtain ⟨c3, h3, e3⟩ := tx_nat hb (at_ + 4 * (k / 4) + 3)
  unfold pwT
  rw [e0, e1, e2, e3]
  rcases (show k % 4 = 0 ∨ k % 4 = 1 ∨ k % 4 = 2 ∨ k % 4 = 3 by omega) with h | h | h | h
  · have e : at_ + k = at_ + 4 * (k / 4) := by omega
    rw [e, e0, h, if_neg (by omega), if_neg (by omega), if_neg (by omega), if_neg (by omega), if_pos (by omega), if_neg (by omega), if_neg (by omega), if_neg (by omega)]
    show iO 0 (iSl (c0 : Int) 24) = _
    rw [(iSl_n c0 h0).1]
    have := iO_n (a := 0) (b := c0 * 16777216) (by omega) (by omega)
    rw [Nat.zero_or] at this
    have e9 : ((c0 * 16777216 : Nat) : Int) = (c0 : Int) * 16777216 := by omega
    rw [e9] at this
    rw [show (0 : Int) = ((0 : Nat) : Int) from rfl, this]
    omega
  · have e : at_ + k = at_ + 4 * (k / 4) + 1 := by omega
    rw [e, e1, h, if_pos (by omega), if_neg (by omega), if_neg (by omega), if_neg (by omega), if_pos (by omega), if_pos (by omega), if_neg (by omega), if_neg (by omega)]
    show iO _ (iSl (c1 : Int) 16) = _
    rw [(iSl_n c1 h1).2.1]
    have := iO_s (X := c0 * 16777216) (C := c1 * 65536) (i := 24) (by omega) (by omega) (by omega) (a := c0) (by rw [Nat.shiftLeft_eq])
    have e8 : (c0 : Int) * 16777216 + 0 + 0 + 0 = ((c0 * 16777216 : Nat) : Int) := by omega
    have e9 : (c1 : Int) * 65536 = ((c1 * 65536 : Nat) : Int) := by omega
    rw [e8, e9, this]
    omega
  · have e : at_ + k = at_ + 4 * (k / 4) + 2 := by omega
    rw [e, e2, h, if_pos (by omega), if_pos (by omega), if_neg (by omega), if_neg (by omega), if_pos (by omega), if_pos (by omega), if_pos (by omega), if_neg (by omega)]
    show iO _ (iSl (c2 : Int) 8) = _
    rw [(iSl_n c2 h2).2.2.1]
    have := iO_s (X := c0 * 16777216 + c1 * 65536) (C := c2 * 256) (i := 16) (by omega) (by omega) (by omega) (a := c0 * 256 + c1) (by rw [Nat.shiftLeft_eq]; omega)
    have e8 : (c0 : Int) * 16777216 + (c1 : Int) * 65536 + 0 + 0 = ((c0 * 16777216 + c1 * 65536 : Nat) : Int) := by omega
    have e9 : (c2 : Int) * 256 = ((c2 * 256 : Nat) : Int) := by omega
    rw [e8, e9, this]
    omega
  · have e : at_ + k = at_ + 4 * (k / 4) + 3 := by omega
    rw [e, e3, h, if_pos (by omega), if_pos (by omega), if_pos (by omega), if_neg (by omega), if_pos (by omega), if_pos (by omega), if_pos (by omega), if_pos (by omega)]
    show iO _ (iSl (c3 : Int) 0) = _
    rw [(iSl_n c3 h3).2.2.2]
    have := iO_s (X := c0 * 16777216 + c1 * 65536 + c2 * 256) (C := c3) (i := 8) (by omega) (by omega) (by omega) (a := c0 * 65536 + c1 * 256 + c2) (by rw [Nat.shiftLeft_eq]; omega)
    have e8 : (c0 : Int) * 16777216 + (c1 : Int) * 65536 + (c2 : Int) * 256 + 0 = ((c0 * 16777216 + c1 * 65536 + c2 * 256 : Nat) : Int) := by omega
    rw [e8, this]
    omega
theorem pwT_o {m : Nat} {tx : Nat → Int} {at_ k j : Nat} (h : j ≠ k / 4) : pwT m tx at_ (k + 1) j = pwT m tx at_ k j := by
  unfold pwT
  have a0 : (4 * j < k + 1) = (4 * j < k) := propext (by omega)
  have a1 : (4 * j + 1 < k + 1) = (4 * j + 1 < k) := propext (by omega)
  have a2 : (4 * j + 2 < k + 1) = (4 * j + 2 < k) := propext (by omega)
  have a3 : (4 * j + 3 < k + 1) = (4 * j + 3 < k) := propext (by omega)
  simp only [a0, a1, a2, a3]
theorem pwT_0 {m : Nat} {tx : Nat → Int} {at_ j : Nat} : pwT m tx at_ 0 j = 0 := by
  unfold pwT
  rw [if_neg (by omega), if_neg (by omega), if_neg (by omega), if_neg (by omega)]
  rfl
theorem pwT_20 {m : Nat} {tx : Nat → Int} {at_ j : Nat} (h : j < 5) : pwT m tx at_ 20 j = wdT m tx (at_ + 4 * j) := by
  unfold pwT wdT
  rw [if_pos (by omega), if_pos (by omega), if_pos (by omega), if_pos (by omega)]
theorem tx_len {S : xSt} {r m : Nat} {tx : Nat → Int} (h : TXo S r m tx) (hm : m ≤ 1000000) : f_J0_length_8abf5_pS_0 S r m = some ((m : Int), S) := by
  unfold f_J0_length_8abf5_pS_0 f_J0_coder_7d493_pS_0
  rw [ck0_e h.1]
  show some (iSr (m : Int) 0, S) = _
  rw [iSr_0 m hm]
theorem tx_at {S : xSt} {r m : Nat} {tx : Nat → Int} (h : TXo S r m tx) (hm : m ≤ 1000000) (hb : ∀ i : Nat, i < m → 0 ≤ tx i ∧ tx i ≤ 127) {i : Nat} (hi : i < m) : f_J0_charAt_5068e_pS_0 S r m (i : Int) = some (chT m tx i, S) := by
  obtain ⟨c, hc, ec⟩ := tx_nat hb i
  have e1 : tx i = c := by rw [← ec]; unfold chT; rw [if_pos hi]
  have n0 : ¬ wr (i : Int) < 0 := fun z => by have := (wlt_nn (a := i) (b := 0) (by omega) (by omega)).mp z; omega
  have n1 : wr (i : Int) < wr (m : Int) := (wlt_nn (by omega) hm).mpr hi
  have n2 : (wr (i : Int)).toNat = i := wtn (by omega)
  have n3 : 0 ≤ wr (i : Int) ∧ wr (i : Int) < (m : Int) := wix hi hm
  have w1 : ¬ wr 1 = 0 := by decide
  have e3 : f_J1_charAt_3b067_pS_1 S r m (i : Int) = some (iCh (iA (gI S r 1 i) 255), S) := by
    unfold f_J1_charAt_3b067_pS_1 f_J0_checkIndex_df160 f_J3_checkIndex_8e157
    rw [if_neg n0, if_pos n1, bd2_s, bd_s]
    unfold ckI
    rw [if_pos n3, n2]
  have e4 : f_J0_isLatin1_aae02_pS_0 S r m = some (1, S) := by
    unfold f_J0_isLatin1_aae02_pS_0
    exact ck0_e h.1
  unfold f_J0_charAt_5068e_pS_0
  rw [e4, bd2_s, if_neg w1, e3, bd2_s]
  rw [h.2 i hi, e1, (iA_n c hc).1, (iA_n c hc).2, ec]
theorem b_pa {K : xCtx} {E : xE} {B : Nat} {cl sl pc : Nat} {lv : List (Nat × Value)} {st : List Value} {S : xSt} {a : Nat} {f g : Nat → Int} (h : ∀ j : Nat, j < 5 → f j = g j) (k : WB B (PA E B a g) cl sl K E pc lv st S) : WB B (PA E B a f) cl sl K E pc lv st S :=
  b_psi (fun s H hP => ⟨hP.1, by
    obtain ⟨cell, h1, h2, h3, h4, h5, h6⟩ := hP.2
    exact ⟨cell, h1, h2, h3, h4, fun j hj => (h5 j hj).trans (by rw [h j hj]), h6⟩⟩) k

theorem tm24 {k : Nat} (h : k ≤ 1000000) : 24 - 8 * ((k % 4 : Nat) : Int) = 24 - 8 * Int.tmod (wr (k : Int)) (wr 4) := by rw [tmdN (q := 4) h (by omega)]; rfl
set_option maxHeartbeats 4000000 in
theorem fd_in {K : xCtx} {E : xE} {B cl sl : Nat} {rm : Room} {r0 r1 m : Nat} {tx : Nat → Int} {S : xSt} (hC : xOK K cL_feed RL 5 rm) (hA : ∀ a, xA E a → B ≤ a) (hrm : 6 ≤ rm.frames ∧ 28 * 6 ≤ rm.locals) (hz : cl ≤ rm.cells ∧ sl ≤ rm.slots) (hk1 : xkd E r1 = 100 + m) (hm : m ≤ 600) (ht : TXo S r1 m tx) (hb : ∀ i : Nat, i < m → 0 ≤ tx i ∧ tx i ≤ 127) {at_ : Nat} (hat : at_ ≤ 600) {a : Nat} (kx : WB B (PA E B a (fun j => wdT m tx (at_ + 4 * j))) cl sl K E 74 [(0, vr E r0 0), (1, vr E r1 0), (2, vi (at_ : Int)), (3, .ref a), (4, vi ((20 : Nat) : Int))] [] S) : ∀ (d k : Nat), k + d = 20 → WB B (PA E B a (pwT m tx at_ k)) cl sl K E 17 [(0, vr E r0 0), (1, vr E r1 0), (2, vi (at_ : Int)), (3, .ref a), (4, vi (k : Int))] [] S := by
  intro d
  induction d with
  | zero =>
    intro k hk
    obtain rfl : k = 20 := hk
    refine b_iload hC 4 rfl (rfl : 17 + 2 = 19) (xdt tt_L_feed 11 rfl) ?_
    refine b_bipush hC (by decide) (rfl : 19 + 2 = 21) (xdt tt_L_feed 12 rfl) ?_
    refine b_geN hC (a := 20) (b := 20) (by omega) (by omega) (show ((21 : Nat) : Int) + 53 = ((74 : Nat) : Int) by decide) (rfl : 21 + 3 = 24) (xdt tt_L_feed 13 rfl) (fun _ => ?_) (fun hc => absurd hc (by omega))
    exact b_pa (fun j hj => pwT_20 hj) kx
  | succ d ih =>
    intro k hk
    have hk6 : k ≤ 1000000 := by omega
    refine b_iload hC 4 rfl (rfl : 17 + 2 = 19) (xdt tt_L_feed 11 rfl) ?_
    refine b_bipush hC (by decide) (rfl : 19 + 2 = 21) (xdt tt_L_feed 12 rfl) ?_
    refine b_geN hC (a := k) (b := 20) (by omega) (by omega) (show ((21 : Nat) : Int) + 53 = ((74 : Nat) : Int) by decide) (rfl : 21 + 3 = 24) (xdt tt_L_feed 13 rfl) (fun hc => absurd hc (by omega)) (fun _ => ?_)
    refine b_aload_n hC rfl 3 rfl (rfl : 24 + 1 = 25) (xdt tt_L_feed 14 rfl) ?_
    refine b_iload hC 4 rfl (rfl : 25 + 2 = 27) (xdt tt_L_feed 15 rfl) ?_
    refine b_iconst hC (rfl : 27 + 1 = 28) (xdt tt_L_feed 16 rfl) ?_
    refine b_idiv hC (by decide) (rfl : 28 + 1 = 29) (xdt tt_L_feed 17 rfl) ?_
    refine b_eqi (y := ((k / 4 : Nat) : Int)) (tdvN (q := 4) hk6 (by omega)) ?_
    have hk4 : k / 4 < 5 := by omega
    refine b_dup2 hC rfl rfl (rfl : 29 + 1 = 30) (xdt tt_L_feed 18 rfl) ?_
    refine b_ald5 hC (wix hk4 (by omega)) (rfl : 30 + 1 = 31) (xdt tt_L_feed 19 rfl) (wtn (by omega)) ?_
    refine b_iload_n hC rfl 2 rfl (rfl : 31 + 1 = 32) (xdt tt_L_feed 20 rfl) ?_
    refine b_iload hC 4 rfl (rfl : 32 + 2 = 34) (xdt tt_L_feed 21 rfl) ?_
    refine b_iadd hC (rfl : 34 + 1 = 35) (xdt tt_L_feed 22 rfl) ?_
    refine b_eqi (y := ((at_ + k : Nat) : Int)) (by omega) ?_
    refine b_aload_n hC rfl 1 rfl (rfl : 35 + 1 = 36) (xdt tt_L_feed 23 rfl) ?_
    refine b_callVi hC ⟨hA, PA_keep⟩ hz hk1 kclJ0 lyS_0 m_J0_length_8abf5 q453 ⟨Nat.le_trans (by decide) hrm.1, Nat.le_trans (by decide) hrm.2⟩ [] rfl (fun l => c_J0_length_8abf5_pS_0 l hk1 (tx_len ht (by omega))) rfl (Nat.le_of_ble_eq_true rfl) (rfl : 36 + 3 = 39) (xdt tt_L_feed 24 rfl) ?_
    have key : WB B (PA E B a (pwT m tx at_ k)) cl sl K E 55 [(0, vr E r0 0), (1, vr E r1 0), (2, vi (at_ : Int)), (3, .ref a), (4, vi (k : Int))] (vi (chT m tx (at_ + k)) :: vi (pwT m tx at_ k (k / 4)) :: vi ((k / 4 : Nat) : Int) :: .ref a :: []) S := by
      refine b_bipush hC (by decide) (rfl : 55 + 2 = 57) (xdt tt_L_feed 33 rfl) ?_
      refine b_bipush hC (by decide) (rfl : 57 + 2 = 59) (xdt tt_L_feed 34 rfl) ?_
      refine b_iload hC 4 rfl (rfl : 59 + 2 = 61) (xdt tt_L_feed 35 rfl) ?_
      refine b_iconst hC (rfl : 61 + 1 = 62) (xdt tt_L_feed 36 rfl) ?_
      refine b_irem hC (by decide) (rfl : 62 + 1 = 63) (xdt tt_L_feed 37 rfl) ?_
      refine b_imul hC (rfl : 63 + 1 = 64) (xdt tt_L_feed 38 rfl) ?_
      refine b_isub hC (rfl : 64 + 1 = 65) (xdt tt_L_feed 39 rfl) ?_
      refine b_eqi (y := 24 - 8 * ((k % 4 : Nat) : Int)) (tm24 hk6) ?_
      refine b_ishl hC (rfl : 65 + 1 = 66) (xdt tt_L_feed 40 rfl) ?_
      refine b_ior hC (rfl : 66 + 1 = 67) (xdt tt_L_feed 41 rfl) ?_
      refine b_eqi (y := pwT m tx at_ (k + 1) (k / 4)) (pwT_s hb).symm ?_
      refine b_ast5 hC (wix hk4 (by omega)) (rfl : 67 + 1 = 68) (xdt tt_L_feed 42 rfl) (wtn (by omega)) ?_
      refine b_pa (g := pwT m tx at_ (k + 1)) (fun j hj => ?_) ?_
      · unfold uN5
        by_cases c : j = k / 4
        · rw [if_pos c, c]
        · rw [if_neg c, pwT_o c]
      refine b_iinc hC 4 rfl (by decide) (lv' := [(4, vi ((k : Int) + 1)), (0, vr E r0 0), (1, vr E r1 0), (2, vi (at_ : Int)), (3, .ref a)]) rfl (rfl : 68 + 3 = 71) (xdt tt_L_feed 43 rfl) ?_
      refine b_goto hC (show ((71 : Nat) : Int) + (-54) = ((17 : Nat) : Int) by decide) (xdt tt_L_feed 44 rfl) ?_
      refine b_sub [1, 2, 3, 4, 0] (lv' := [(0, vr E r0 0), (1, vr E r1 0), (2, vi (at_ : Int)), (3, .ref a), (4, vi ((k : Int) + 1))]) rfl ?_
      have e9 : ((k : Int) + 1) = ((k + 1 : Nat) : Int) := by omega
      rw [e9]
      exact ih (k + 1) (by omega)
    refine b_geN hC (a := at_ + k) (b := m) (by omega) (by omega) (show ((39 : Nat) : Int) + 14 = ((53 : Nat) : Int) by decide) (rfl : 39 + 3 = 42) (xdt tt_L_feed 25 rfl) (fun hc => ?_) (fun hc => ?_)
    · refine b_bipush hC (by decide) (rfl : 53 + 2 = 55) (xdt tt_L_feed 32 rfl) ?_
      have e8 : chT m tx (at_ + k) = 32 := by unfold chT; rw [if_neg (by omega)]
      rw [e8] at key
      exact key
    · refine b_aload_n hC rfl 1 rfl (rfl : 42 + 1 = 43) (xdt tt_L_feed 26 rfl) ?_
      refine b_iload_n hC rfl 2 rfl (rfl : 43 + 1 = 44) (xdt tt_L_feed 27 rfl) ?_
      refine b_iload hC 4 rfl (rfl : 44 + 2 = 46) (xdt tt_L_feed 28 rfl) ?_
      refine b_iadd hC (rfl : 46 + 1 = 47) (xdt tt_L_feed 29 rfl) ?_
      refine b_eqi (y := ((at_ + k : Nat) : Int)) (by omega) ?_
      refine b_callVc hC ⟨hA, PA_keep⟩ hz hk1 kclJ0 lyS_0 m_J0_charAt_5068e q454 ⟨Nat.le_trans (by decide) hrm.1, Nat.le_trans (by decide) hrm.2⟩ [vi ((at_ + k : Nat) : Int)] rfl (fun l => c_J0_charAt_5068e_pS_0 l hk1 (tx_at ht (by omega) hb (by omega))) rfl (Nat.le_of_ble_eq_true rfl) (rfl : 47 + 3 = 50) (xdt tt_L_feed 30 rfl) (fun _ => ?_)
      refine b_goto hC (show ((50 : Nat) : Int) + 5 = ((55 : Nat) : Int) by decide) (xdt tt_L_feed 31 rfl) ?_
      exact key
/-- what the calls of feed make of the store, one behind the other -/
def FDs (r0 r1 m : Nat) (tx : Nat → Int) (Sx : Nat → xSt) (N : Nat) : Prop := (∀ i : Nat, i < N → 20 * i < m ∧ ∃ v : Int, f_X11_feed_p3_0 (Sx i) r0 (wdT m tx (20 * i)) (wdT m tx (20 * i + 4)) (wdT m tx (20 * i + 8)) (wdT m tx (20 * i + 12)) (wdT m tx (20 * i + 16)) = some (v, Sx (i + 1))) ∧ m ≤ 20 * N ∧ ∀ i : Nat, i ≤ N → TXo (Sx i) r1 m tx
def xEndB (K : xCtx) (mc ms : Nat) (ret : Option FieldType) (free : Nat → Prop) (Qc : Array Value → State → Outcome → State → Prop) : Prop := match K with
  | (p, l, e, R, s, m, args, below, meth, c, nL, cl, sl, Q) => Q = MQ below Qc args s mc ms free ∧ meth.sig.returnType = ret
section EB
variable {K : xCtx} {E : xE} {B : Nat} {cl sl : Nat} {cc : ByteArray} {own : String} {n : Nat} {rm : Room} {pc : Nat} {lv : List (Nat × Value)} {st : List Value} {S : xSt}
theorem b_vretN (hC : xOK K cc own n rm) (hE : xEndB K cl sl none (fun a => B ≤ a) (NQv E B S)) (d : decode cc pc = .ok (.return_, 1)) : WB B (PN E B []) cl sl K E pc lv [] S := by
  obtain ⟨p, l, e, R, s, m, args, below, meth, c, nL, cl0, sl0, Q⟩ := K
  obtain ⟨hx, hb, hml, hown, hts, hlk, rfl, hRR⟩ := hC
  intro H locs ls hY hP hS hl
  obtain ⟨rfl, hr⟩ := hE
  exact W.vret hx hb hr (fun t ht hW => ⟨⟨(), rfl, trivial, (show YW E S t t.heap by rw [ht]; exact YW_warm hW hY), (show PN E B [] t t.heap by rw [ht]; exact PN_moved hW.alike hP)⟩, hS.F ht⟩) hS.2.2 d hlk
theorem b_iretN (hC : xOK K cc own n rm) {v : Int} (hE : xEndB K cl sl (some .int) (fun a => B ≤ a) (NQi E B v S)) (d : decode cc pc = .ok (.ireturn, 1)) : WB B (PN E B []) cl sl K E pc lv [vi v] S := by
  obtain ⟨p, l, e, R, s, m, args, below, meth, c, nL, cl0, sl0, Q⟩ := K
  obtain ⟨hx, hb, hml, hown, hts, hlk, rfl, hRR⟩ := hC
  intro H locs ls hY hP hS hl
  obtain ⟨rfl, hr⟩ := hE
  exact W.iret hx hb hr (fun t ht hW => ⟨⟨Int32.ofInt v, (), rfl, rfl, (show YW E S t t.heap by rw [ht]; exact YW_warm hW hY), (show PN E B [] t t.heap by rw [ht]; exact PN_moved hW.alike hP)⟩, hS.F ht⟩) hS.2.2 d hlk
theorem metB {l : Launch} {y : MethodName} {nL d1 mc ms : Nat} {avs : List Value} {ret : Option FieldType} {Qc : Array Value → State → Outcome → State → Prop} (hy : plainName y.cls = true) (hn : (lg_sl avs).length ≤ nL) (body : ∀ K, xOK K cc y.cls nL (rmN d1 mc ms) → xEndB K mc ms ret (fun a => B ≤ a) Qc → WB B (PN E B []) 0 0 K E 0 (lv_args 0 avs) [] S) : Met l y (xws y cc nL ret) (rmN d1 mc ms) (NPc E B avs S []) Qc mc ms (fun a => B ≤ a) := by
  refine Met.ofW (cc := cc) (maxL := nL) (ret := ret) hy rfl ?_
  intro p e s m args below meth c s₁ B9 hml hv
  obtain ⟨rfl, hY, hP⟩ := hv
  have hts := atoms_spec (ws := xws y cc nL ret) B9.pre
  rw [lg_entry_eq]
  exact body (p, l, e, rmN d1 mc ms, s, m, avs.toArray, below, meth, c, nL, 0, 0, _) ⟨B9.exec, B9.bytes, hml, findClass_of_methodNamed B9.named, fun w hw => hts w (List.mem_cons_of_mem _ hw), B9.notSynchronized, rfl, rfl⟩ ⟨rfl, B9.returns⟩ s.heap [] _ hY hP va_S.rf (lv_entry avs hn)
end EB
set_option maxHeartbeats 4000000 in
theorem fd_out {K : xCtx} {E : xE} {B : Nat} {rm : Room} {r0 r1 m : Nat} {tx : Nat → Int} (hC : xOK K cL_feed RL 5 rm) (hA : ∀ a, xA E a → B ≤ a) (hrm : 6 ≤ rm.frames ∧ 28 * 6 ≤ rm.locals) (hk0 : xkd E r0 = 3) (hA0 : xFam E r0) (hk1 : xkd E r1 = 100 + m) (hm : m ≤ 600) (hb : ∀ i : Nat, i < m → 0 ≤ tx i ∧ tx i ≤ 127) {Sx : Nat → xSt} {N : Nat} (hF : FDs r0 r1 m tx Sx N) {S1 : xSt} {v1 : Int} (hT : f_X11_truncate_p3_0 (Sx N) r0 (m : Int) = some (v1, S1)) (hcs : 31 ≤ rm.cells ∧ 155 ≤ rm.slots) (hE : xEndB K 31 155 none (fun a => B ≤ a) (NQv E B S1)) : ∀ (d i : Nat), i + d = N → N ≤ 31 → WB B (PN E B []) i (5 * i) K E 2 [(0, vr E r0 0), (1, vr E r1 0), (2, vi ((20 * i : Nat) : Int))] [] (Sx i) := by
  intro d
  induction d with
  | zero =>
    intro i hi hN
    obtain rfl : i = N := hi
    have ht := hF.2.2 i (Nat.le_refl _)
    have hz : i ≤ rm.cells ∧ 5 * i ≤ rm.slots := by omega
    refine b_iload_n hC rfl 2 rfl (rfl : 2 + 1 = 3) (xdt tt_L_feed 2 rfl) ?_
    refine b_aload_n hC rfl 1 rfl (rfl : 3 + 1 = 4) (xdt tt_L_feed 3 rfl) ?_
    refine b_callVi hC ⟨hA, xKeep_PN⟩ hz hk1 kclJ0 lyS_0 m_J0_length_8abf5 q453 ⟨Nat.le_trans (by decide) hrm.1, Nat.le_trans (by decide) hrm.2⟩ [] rfl (fun l => c_J0_length_8abf5_pS_0 l hk1 (tx_len ht (by omega))) rfl (Nat.le_of_ble_eq_true rfl) (rfl : 4 + 3 = 7) (xdt tt_L_feed 4 rfl) ?_
    have hF1 := hF.2.1
    refine b_geN hC (a := 20 * i) (b := m) (by omega) (by omega) (show ((7 : Nat) : Int) + 93 = ((100 : Nat) : Int) by decide) (rfl : 7 + 3 = 10) (xdt tt_L_feed 5 rfl) (fun _ => ?_) (fun hc => absurd hc (by omega))
    refine b_aload_n hC rfl 0 rfl (rfl : 100 + 1 = 101) (xdt tt_L_feed 65 rfl) ?_
    refine b_aload_n hC rfl 1 rfl (rfl : 101 + 1 = 102) (xdt tt_L_feed 66 rfl) ?_
    refine b_callVi hC ⟨hA, xKeep_PN⟩ hz hk1 kclJ0 lyS_0 m_J0_length_8abf5 q453 ⟨Nat.le_trans (by decide) hrm.1, Nat.le_trans (by decide) hrm.2⟩ [] rfl (fun l => c_J0_length_8abf5_pS_0 l hk1 (tx_len ht (by omega))) rfl (Nat.le_of_ble_eq_true rfl) (rfl : 102 + 3 = 105) (xdt tt_L_feed 67 rfl) ?_
    refine b_callVz hC ⟨hA, xKeep_PN⟩ hz hk0 kclX11 ly3_0 m_X11_truncate q478 ⟨Nat.le_trans (by decide) hrm.1, Nat.le_trans (by decide) hrm.2⟩ [vi (m : Int)] rfl (fun l => c_X11_truncate_p3_0 l hk0 hA0 hT) rfl (Nat.le_of_ble_eq_true rfl) (rfl : 105 + 3 = 108) (xdt tt_L_feed 68 rfl) (fun _ => ?_)
    refine b_pop hC rfl (rfl : 108 + 1 = 109) (xdt tt_L_feed 69 rfl) ?_
    refine b_wid (cl' := 31) (sl' := 155) (by omega) (by omega) ?_
    exact b_vretN hC hE (xdt tt_L_feed 70 rfl)
  | succ d ih =>
    intro i hi hN
    have ht := hF.2.2 i (by omega)
    obtain ⟨hlt, v, hf⟩ := hF.1 i (by omega)
    have hz : i ≤ rm.cells ∧ 5 * i ≤ rm.slots := by omega
    refine b_iload_n hC rfl 2 rfl (rfl : 2 + 1 = 3) (xdt tt_L_feed 2 rfl) ?_
    refine b_aload_n hC rfl 1 rfl (rfl : 3 + 1 = 4) (xdt tt_L_feed 3 rfl) ?_
    refine b_callVi hC ⟨hA, xKeep_PN⟩ hz hk1 kclJ0 lyS_0 m_J0_length_8abf5 q453 ⟨Nat.le_trans (by decide) hrm.1, Nat.le_trans (by decide) hrm.2⟩ [] rfl (fun l => c_J0_length_8abf5_pS_0 l hk1 (tx_len ht (by omega))) rfl (Nat.le_of_ble_eq_true rfl) (rfl : 4 + 3 = 7) (xdt tt_L_feed 4 rfl) ?_
    refine b_geN hC (a := 20 * i) (b := m) (by omega) (by omega) (show ((7 : Nat) : Int) + 93 = ((100 : Nat) : Int) by decide) (rfl : 7 + 3 = 10) (xdt tt_L_feed 5 rfl) (fun hc => absurd hc (by omega)) (fun _ => ?_)
    refine b_iconst hC (rfl : 10 + 1 = 11) (xdt tt_L_feed 6 rfl) ?_
    refine b_new5 hC q44 (by omega) (by omega) (rfl : 11 + 2 = 13) (xdt tt_L_feed 7 rfl) (fun a => ?_)
    have hz : i + 1 ≤ rm.cells ∧ 5 * i + 5 ≤ rm.slots := by omega
    refine b_astore_n hC rfl (by decide) (lv' := [(3, .ref a), (0, vr E r0 0), (1, vr E r1 0), (2, vi ((20 * i : Nat) : Int))]) rfl (rfl : 13 + 1 = 14) (xdt tt_L_feed 8 rfl) ?_
    refine b_iconst hC (rfl : 14 + 1 = 15) (xdt tt_L_feed 9 rfl) ?_
    refine b_istore hC (by decide) (lv' := [(4, vi 0), (3, .ref a), (0, vr E r0 0), (1, vr E r1 0), (2, vi ((20 * i : Nat) : Int))]) rfl (rfl : 15 + 2 = 17) (xdt tt_L_feed 10 rfl) ?_
    refine b_sub [2, 3, 4, 1, 0] (lv' := [(0, vr E r0 0), (1, vr E r1 0), (2, vi ((20 * i : Nat) : Int)), (3, .ref a), (4, vi ((0 : Nat) : Int))]) rfl ?_
    refine b_pa (g := pwT m tx (20 * i) 0) (fun j hj => pwT_0.symm) ?_
    refine fd_in hC hA hrm hz hk1 hm ht hb (by omega) ?_ 20 0 rfl
    refine b_aload_n hC rfl 0 rfl (rfl : 74 + 1 = 75) (xdt tt_L_feed 45 rfl) ?_
    refine b_aload_n hC rfl 3 rfl (rfl : 75 + 1 = 76) (xdt tt_L_feed 46 rfl) ?_
    refine b_iconst hC (rfl : 76 + 1 = 77) (xdt tt_L_feed 47 rfl) ?_
    refine b_ald5 hC (by decide) (rfl : 77 + 1 = 78) (xdt tt_L_feed 48 rfl) (k0 := 0) (by decide) ?_
    refine b_aload_n hC rfl 3 rfl (rfl : 78 + 1 = 79) (xdt tt_L_feed 49 rfl) ?_
    refine b_iconst hC (rfl : 79 + 1 = 80) (xdt tt_L_feed 50 rfl) ?_
    refine b_ald5 hC (by decide) (rfl : 80 + 1 = 81) (xdt tt_L_feed 51 rfl) (k0 := 1) (by decide) ?_
    refine b_aload_n hC rfl 3 rfl (rfl : 81 + 1 = 82) (xdt tt_L_feed 52 rfl) ?_
    refine b_iconst hC (rfl : 82 + 1 = 83) (xdt tt_L_feed 53 rfl) ?_
    refine b_ald5 hC (by decide) (rfl : 83 + 1 = 84) (xdt tt_L_feed 54 rfl) (k0 := 2) (by decide) ?_
    refine b_aload_n hC rfl 3 rfl (rfl : 84 + 1 = 85) (xdt tt_L_feed 55 rfl) ?_
    refine b_iconst hC (rfl : 85 + 1 = 86) (xdt tt_L_feed 56 rfl) ?_
    refine b_ald5 hC (by decide) (rfl : 86 + 1 = 87) (xdt tt_L_feed 57 rfl) (k0 := 3) (by decide) ?_
    refine b_aload_n hC rfl 3 rfl (rfl : 87 + 1 = 88) (xdt tt_L_feed 58 rfl) ?_
    refine b_iconst hC (rfl : 88 + 1 = 89) (xdt tt_L_feed 59 rfl) ?_
    refine b_ald5 hC (by decide) (rfl : 89 + 1 = 90) (xdt tt_L_feed 60 rfl) (k0 := 4) (by decide) ?_
    refine b_callVi hC ⟨hA, PA_keep⟩ hz hk0 kclX11 ly3_0 m_X11_feed q469 ⟨Nat.le_trans (by decide) hrm.1, Nat.le_trans (by decide) hrm.2⟩ [vi (wdT m tx (20 * i)), vi (wdT m tx (20 * i + 4)), vi (wdT m tx (20 * i + 8)), vi (wdT m tx (20 * i + 12)), vi (wdT m tx (20 * i + 16))] rfl (fun l => c_X11_feed_p3_0 l hk0 hA0 hf) rfl (Nat.le_of_ble_eq_true rfl) (rfl : 90 + 3 = 93) (xdt tt_L_feed 61 rfl) ?_
    refine b_pop hC rfl (rfl : 93 + 1 = 94) (xdt tt_L_feed 62 rfl) ?_
    refine b_iinc hC 2 rfl (by decide) (lv' := [(2, vi (((20 * i : Nat) : Int) + 20)), (0, vr E r0 0), (1, vr E r1 0), (3, .ref a), (4, vi ((20 : Nat) : Int))]) rfl (rfl : 94 + 3 = 97) (xdt tt_L_feed 63 rfl) ?_
    refine b_goto hC (show ((97 : Nat) : Int) + (-95) = ((2 : Nat) : Int) by decide) (xdt tt_L_feed 64 rfl) ?_
    refine b_sub [1, 2, 0] (lv' := [(0, vr E r0 0), (1, vr E r1 0), (2, vi (((20 * i : Nat) : Int) + 20))]) rfl ?_
    have e9 : (((20 * i : Nat) : Int) + 20) = ((20 * (i + 1) : Nat) : Int) := by omega
    rw [e9]
    refine b_psi (fun s H hP => hP.1) ?_
    exact ih (i + 1) (by omega) hN
theorem c_L_feed (l : Launch) {E : xE} {B : Nat} {r0 r1 m : Nat} {tx : Nat → Int} (hA : ∀ a, xA E a → B ≤ a) (hk0 : xkd E r0 = 3) (hA0 : xFam E r0) (hk1 : xkd E r1 = 100 + m) (hm : m ≤ 600) (hb : ∀ i : Nat, i < m → 0 ≤ tx i ∧ tx i ≤ 127) {Sx : Nat → xSt} {N : Nat} (hN : N ≤ 31) (hF : FDs r0 r1 m tx Sx N) {S1 : xSt} {v1 : Int} (hT : f_X11_truncate_p3_0 (Sx N) r0 (m : Int) = some (v1, S1)) : Met l yL_feed (xws yL_feed cL_feed 5 none) (rmN 6 31 155) (NPc E B [vr E r0 0, vr E r1 0] (Sx 0) []) (NQv E B S1) 31 155 (fun a => B ≤ a) := by
  refine metB (by decide +kernel) (Nat.le_of_ble_eq_true rfl) (fun K hC hE => ?_)
  have hC : xOK K cL_feed RL 5 (rmN 6 31 155) := hC
  show WB B (PN E B []) 0 0 K E 0 [(0, vr E r0 0), (1, vr E r1 0)] [] (Sx 0)
  refine b_iconst hC (rfl : 0 + 1 = 1) (xdt tt_L_feed 0 rfl) ?_
  refine b_istore_n hC rfl (by decide) (lv' := [(2, vi 0), (0, vr E r0 0), (1, vr E r1 0)]) rfl (rfl : 1 + 1 = 2) (xdt tt_L_feed 1 rfl) ?_
  refine b_sub [1, 2, 0] (lv' := [(0, vr E r0 0), (1, vr E r1 0), (2, vi ((20 * 0 : Nat) : Int))]) rfl ?_
  exact fd_out hC hA ⟨by decide, by decide⟩ hk0 hA0 hk1 hm hb hF hT ⟨by decide, by decide⟩ hE N 0 (by omega) hN
theorem c_L_parsed (l : Launch) {E : xE} {B : Nat} {r0 r1 m : Nat} {tx : Nat → Int} (hA : ∀ a, xA E a → B ≤ a) (hk0 : xkd E r0 = 3) (hA0 : xFam E r0) (hk1 : xkd E r1 = 100 + m) (hm : m ≤ 600) (hb : ∀ i : Nat, i < m → 0 ≤ tx i ∧ tx i ≤ 127) {Sx : Nat → xSt} {N : Nat} (hN : N ≤ 31) (hF : FDs r0 r1 m tx Sx N) {S1 S2 : xSt} {v1 v2 : Int} (hT : f_X11_truncate_p3_0 (Sx N) r0 (m : Int) = some (v1, S1)) (hP : f_X11_parse_p3_0 S1 r0 = some (v2, S2)) : Met l yL_parsed (xws yL_parsed cL_parsed 2 (some .int)) (rmN 12 31 155) (NPc E B [vr E r0 0, vr E r1 0] (Sx 0) []) (NQi E B v2 S2) 31 155 (fun a => B ≤ a) := by
  refine metB (by decide +kernel) (Nat.le_of_ble_eq_true rfl) (fun K hC hE => ?_)
  have hC : xOK K cL_parsed RL 2 (rmN 12 31 155) := hC
  show WB B (PN E B []) 0 0 K E 0 [(0, vr E r0 0), (1, vr E r1 0)] [] (Sx 0)
  refine b_aload_n hC rfl 0 rfl (rfl : 0 + 1 = 1) (xdt tt_L_parsed 0 rfl) ?_
  refine b_aload_n hC rfl 1 rfl (rfl : 1 + 1 = 2) (xdt tt_L_parsed 1 rfl) ?_
  refine b_ncallSv hC m_L_feed q450 ⟨by decide, by decide⟩ (by decide) (by decide) [vr E r0 0, vr E r1 0] rfl (fun l => c_L_feed l hA hk0 hA0 hk1 hm hb hN hF hT) rfl (Nat.le_of_ble_eq_true rfl) (rfl : 2 + 3 = 5) (xdt tt_L_parsed 2 rfl) ?_
  refine b_aload_n hC rfl 0 rfl (rfl : 5 + 1 = 6) (xdt tt_L_parsed 3 rfl) ?_
  refine b_callVi hC ⟨hA, xKeep_PN⟩ ⟨by decide, by decide⟩ hk0 kclX11 ly3_0 m_X11_parse q482 ⟨by decide, by decide⟩ [] rfl (fun l => c_X11_parse_p3_0 l hk0 hA0 hP) rfl (Nat.le_of_ble_eq_true rfl) (rfl : 6 + 3 = 9) (xdt tt_L_parsed 4 rfl) ?_
  exact b_iretN hC hE (xdt tt_L_parsed 5 rfl)
