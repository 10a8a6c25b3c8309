theorem t_app {K : xCtx} {E : xE} {B : Nat} {cl sl : Nat} {cc : ByteArray} {own : String} {n : Nat} {rm : Room} {pc : Nat} {lv : List (Nat × Value)} {st : List Value} {S : xSt} {ws : sW} (hC : xOK K cc own n rm) {L L' : List Int} {sb : Nat} (hw : SBD L sb ws) {y : MethodName} {bytes : ByteArray} {maxL na idx d' : Nat} {ret : Option FieldType} (hy : mI y RJ4 bytes maxL ret na) (hlink : Cond.methodLink own idx y ∈ xw) (hR : d' + 1 ≤ rm.frames ∧ 28 * (d' + 1) ≤ rm.locals) (hcl : cl + 1 ≤ rm.cells) (hsl : sl + 1200 ≤ rm.slots) (As : List Value) {st0 : List Value} (hst : st0 = As.reverse ++ .ref sb :: st) (hM : ∀ l, Met l y (xws y bytes maxL ret) (rmN d' 1 1200) (SPc E B (.ref sb :: As) S ws) (SQr E B S (fun a u => a = sb ∧ SBD L' sb u)) 1 1200 (fun a => B ≤ a)) (hn : As.length = na) (hcat : (st.map fun v => v.category).sum ≤ 8) {pc' : Nat} (hp : pc + 3 = pc') (d : decode cc pc = .ok (.invokevirtual idx, 3))
    (k : ∀ u, SBD L' sb u → WB B (PS E B u) (cl + 1) (sl + 1200) K E pc' lv (.ref sb :: st) S) : WB B (PS E B ws) cl sl K E pc lv st0 S := by
  obtain ⟨b, m, f, rfl, h1, h2, h3⟩ := hw
  refine s_callVr hC 0 rfl kclJ4 hy hlink hR hcl hsl As hst hM hn hcat hp d (fun a u hu => ?_)
  obtain ⟨e, hu⟩ := hu
  rw [e]
  exact k u hu
theorem iA_nn (x : Int) : ∃ c : Nat, iA x 2147483647 = c ∧ c < 2147483648 := by
  have h1 : (Int32.ofInt 2147483647).toBitVec.toNat = 2147483647 := by decide
  have h3 : ((Int32.ofInt x) &&& (Int32.ofInt 2147483647)).toBitVec.toNat ≤ 2147483647 := by
    rw [Int32.toBitVec_and, BitVec.toNat_and, h1]
    exact Nat.and_le_right
  refine ⟨((Int32.ofInt x) &&& (Int32.ofInt 2147483647)).toBitVec.toNat, ?_, by omega⟩
  show ((Int32.ofInt x) &&& (Int32.ofInt 2147483647)).toBitVec.toInt = _
  exact BitVec.toInt_eq_toNat_of_lt (by omega)
/-- an int of the script, a draw of it -/
def celN (n : Nat) (q : Nat → Int) (i : Nat) : Int := if n ≤ i then 1013904223 * (i : Int) + 73 else q i
def drN (n : Nat) (q : Nat → Int) (i lo hi : Nat) : Nat := lo + (iA (celN n q i) 2147483647).toNat % (hi - lo + 1)
theorem drN_le {n : Nat} {q : Nat → Int} {i lo hi : Nat} (h : lo ≤ hi) : lo ≤ drN n q i lo hi ∧ drN n q i lo hi ≤ hi := by
  unfold drN
  have := Nat.mod_lt (iA (celN n q i) 2147483647).toNat (show 0 < hi - lo + 1 by omega)
  omega
theorem cel_e {S : xSt} {n : Nat} {q : Nat → Int} {i : Nat} (hn : n ≤ 1000000) (hi : i ≤ 1000000) : f_L_cell S n q (i : Int) = some (celN n q i, S) := by
  unfold f_L_cell celN
  by_cases c : n ≤ i
  · rw [if_pos ((wle_nn hn hi).mpr c), if_pos c]
  · rw [if_neg (fun z => c ((wle_nn hn hi).mp z)), if_neg c]
    unfold ckI
    rw [if_pos (wix (by omega) hn), wtn hi]
theorem dr_e {S : xSt} {n : Nat} {q : Nat → Int} {i lo hi : Nat} (hn : n ≤ 1000000) (hi1 : i ≤ 1000000) (hl : lo ≤ hi) (hh : hi ≤ 1000) : f_L_draw S n q (i : Int) (lo : Int) (hi : Int) = some ((drN n q i lo hi : Int), S) := by
  unfold f_L_draw
  rw [cel_e hn hi1, bd2_s]
  have e1 : ((hi : Int) - (lo : Int)) + 1 = ((hi - lo + 1 : Nat) : Int) := by omega
  rw [e1]
  unfold ckZ
  rw [if_neg (by rw [wrN (by omega)]; omega)]
  unfold drN
  obtain ⟨c, hc, hc2⟩ := iA_nn (celN n q i)
  have e2 : wr ((hi - lo + 1 : Nat) : Int) = ((hi - lo + 1 : Nat) : Int) := wrN (by omega)
  have e3 : wr (c : Int) = c := wr_id (by omega)
  rw [hc, e2, e3]
  have e4 : Int.tmod (c : Int) ((hi - lo + 1 : Nat) : Int) = ((c % (hi - lo + 1) : Nat) : Int) := rfl
  rw [e4]
  have e5 : ((c : Int)).toNat = c := by omega
  rw [e5]
  congr 2
theorem kind_e {S : xSt} {a : Nat} (ha : a ≤ 7) : f_L_kind S (a : Int) = some (35 + a, S) := by
  rcases (show a = 0 ∨ a = 1 ∨ a = 2 ∨ a = 3 ∨ a = 4 ∨ a = 5 ∨ a = 6 ∨ a = 7 by omega) with h | h | h | h | h | h | h | h <;> subst h <;> rfl
theorem kln : ∀ a : Nat, a < 8 → 35 + a < xldc.length ∧ xln (35 + a) ≤ 5 ∧ (ldL (35 + a)).length ≤ 5 := by decide +kernel
theorem lns : (ldL 28).length = 6 ∧ (ldL 29).length = 8 ∧ (ldL 30).length = 7 ∧ (ldL 31).length = 5 ∧ (ldL 32).length = 6 ∧ (ldL 33).length = 6 ∧ (ldL 34).length = 22 ∧ (ldL 43).length = 12 ∧ (ldL 44).length = 7 ∧ (ldL 45).length = 11 ∧ (ldL 46).length = 9 := by decide +kernel
theorem xls : xln 28 = 6 ∧ xln 29 = 8 ∧ xln 30 = 7 ∧ xln 31 = 5 ∧ xln 32 = 6 ∧ xln 33 = 6 ∧ xln 34 = 22 ∧ xln 43 = 12 ∧ xln 44 = 7 ∧ xln 45 = 11 ∧ xln 46 = 9 := by decide +kernel
theorem dgL_le (v : Nat) : (dgL v).length ≤ 2 := by rw [dgL_len]; unfold dgN; split <;> omega
theorem b_le0N {K : xCtx} {E : xE} {B : Nat} {Ψ : xPsi} {cl sl : Nat} {cc : ByteArray} {own : String} {n : Nat} {rm : Room} {pc : Nat} {lv : List (Nat × Value)} {st : List Value} {S : xSt} (hC : xOK K cc own n rm) {a : Nat} (ha : a ≤ 1000000) {off : Int} {t : Nat} (ht : (pc : Int) + off = (t : Int)) {pc' : Nat} (hp : pc + 3 = pc') (d : decode cc pc = .ok (.ifCond .le off, 3)) (k1 : a = 0 → WB B Ψ cl sl K E t lv st S) (k2 : 0 < a → WB B Ψ cl sl K E pc' lv st S) : WB B Ψ cl sl K E pc lv (vi (a : Int) :: st) S :=
  b_if_le hC ht hp d (fun h => k1 (by rw [wrN ha] at h; omega)) (fun h => k2 (by rw [wrN ha] at h; omega))
/-- the text that setup builds -/
def hdrF (d0 d1 d2 d3 d4 d5 k6 k7 : Nat) : List Int := ((((((((((((((((([] ++ ldL 28) ++ dgL d0) ++ ldL 29) ++ dgL (8 * 2 ^ d1)) ++ ldL 30) ++ dgL d2) ++ ldL 31) ++ dgL d3) ++ ldL 32) ++ dgL d4) ++ ldL 33) ++ dgL d5) ++ ldL 34) ++ ldL (35 + k6)) ++ [((32 : Nat) : Int)]) ++ ldL (35 + k7)) ++ [((59 : Nat) : Int)])
def hdrT (n : Nat) (q : Nat → Int) : List Int := hdrF (drN n q 0 1 6) (drN n q 1 0 2) (drN n q 2 2 20) (drN n q 3 4 40) (drN n q 4 1 8) (drN n q 5 0 30) (drN n q 6 0 4) (drN n q 7 0 7)
def addL (L : List Int) (i kd ar : Nat) : List Int := if kd = 10 ∧ 0 < i then ((((L ++ ldL 43) ++ dgL (1 + ar % i)) ++ ldL 44) ++ dgL (1 + ar)) ++ [((59 : Nat) : Int)] else if kd = 11 then ((L ++ ldL 45) ++ dgL (ar % 3)) ++ [((59 : Nat) : Int)] else if kd = 9 then L ++ ldL 46 else (L ++ ldL (35 + kd % 8)) ++ [((59 : Nat) : Int)]
def bodT (n : Nat) (q : Nat → Int) : Nat → List Int
  | 0 => hdrT n q
  | i + 1 => addL (bodT n q i) i (drN n q (9 + 2 * i) 0 11) (drN n q (10 + 2 * i) 0 8)
def setT (n : Nat) (q : Nat → Int) : List Int := bodT n q (drN n q 8 1 12)
theorem hdrF_len {d0 d1 d2 d3 d4 d5 k6 k7 : Nat} (h6 : k6 < 8) (h7 : k7 < 8) : (hdrF d0 d1 d2 d3 d4 d5 k6 k7).length ≤ 100 := by
  unfold hdrF
  obtain ⟨l1, l2, l3, l4, l5, l6, l7, -⟩ := lns
  have a0 := dgL_le d0
  have a1 := dgL_le (8 * 2 ^ d1)
  have a2 := dgL_le d2
  have a3 := dgL_le d3
  have a4 := dgL_le d4
  have a5 := dgL_le d5
  have b6 := (kln k6 h6).2.2
  have b7 := (kln k7 h7).2.2
  simp only [List.length_append, List.length_nil, List.length_cons, l1, l2, l3, l4, l5, l6, l7]
  omega
theorem addL_len {L : List Int} {i kd ar : Nat} : (addL L i kd ar).length ≤ L.length + 24 := by
  obtain ⟨-, -, -, -, -, -, -, l1, l2, l3, l4⟩ := lns
  unfold addL
  have a0 := dgL_le (1 + ar % i)
  have a1 := dgL_le (1 + ar)
  have a2 := dgL_le (ar % 3)
  have b6 := (kln (kd % 8) (by omega)).2.2
  split
  · simp only [List.length_append, List.length_nil, List.length_cons, l1, l2]
    omega
  · split
    · simp only [List.length_append, List.length_nil, List.length_cons, l3]
      omega
    · split
      · simp only [List.length_append, l4]
        omega
      · simp only [List.length_append, List.length_nil, List.length_cons]
        omega
theorem bodT_len {n : Nat} {q : Nat → Int} : ∀ i : Nat, (bodT n q i).length ≤ 100 + 24 * i := by
  intro i
  induction i with
  | zero => exact hdrF_len (Nat.lt_of_le_of_lt (drN_le (by omega)).2 (by omega)) (Nat.lt_of_le_of_lt (drN_le (by omega)).2 (by omega))
  | succ i ih =>
    have := addL_len (L := bodT n q i) (i := i) (kd := drN n q (9 + 2 * i) 0 11) (ar := drN n q (10 + 2 * i) 0 8)
    show (addL _ _ _ _).length ≤ _
    omega
def strE (L : List Int) (a : Nat) (u : sW) : Prop := ∃ (x : Nat) (g : Nat → Int), u = [(a, .inl (0, [.ref x, vi 0, vi 0, vi 0])), (x, .inr (L.length, g))] ∧ ∀ j, j < L.length → g j = L.getD j 0

theorem sh8 {d : Nat} (h : d ≤ 2) : iSl 8 (d : Int) = ((8 * 2 ^ d : Nat) : Int) := by
  rcases (show d = 0 ∨ d = 1 ∨ d = 2 by omega) with h | h | h <;> subst h <;> decide
theorem sh8b {d : Nat} (h : d ≤ 2) : 8 * 2 ^ d ≤ 32 := by
  rcases (show d = 0 ∨ d = 1 ∨ d = 2 by omega) with h | h | h <;> subst h <;> decide
set_option maxHeartbeats 8000000 in
theorem su_loop {K : xCtx} {E : xE} {B : Nat} {S : xSt} {n sb k : Nat} {q : Nat → Int} (hC : xOK K cL_setup RL 6 (rmN 7 100 120000)) (hA : ∀ a, xA E a → B ≤ a) (hfu : 5 ≤ fu S) (hq : xsL E = n ∧ xsc E = q) (hn : n ≤ 1000000) (hk : k ≤ 12) (hE : xEndB K 100 120000 (some (.object "java/lang/String")) (fun a => B ≤ a) (SQr E B S (strE (bodT n q k)))) : ∀ (d i : Nat), i + d = k → ∀ u, SBD (bodT n q i) sb u → WB B (PS E B u) (19 + 5 * i) (30000 + 6000 * i) K E 164 [(0, .ref (xsb E)), (1, .ref sb), (2, vi (k : Int)), (3, vi (i : Int))] [] S := by
  intro d
  induction d with
  | zero =>
    intro i hi u hw
    obtain rfl : i = k := hi
    refine b_iload_n hC rfl 3 rfl (rfl : 164 + 1 = 165) (xdt tt_L_setup 84 rfl) ?_
    refine b_iload_n hC rfl 2 rfl (rfl : 165 + 1 = 166) (xdt tt_L_setup 85 rfl) ?_
    refine b_geN hC (by omega) (by omega) (show ((166 : Nat) : Int) + 150 = ((316 : Nat) : Int) by decide) (rfl : 166 + 3 = 169) (xdt tt_L_setup 86 rfl) (fun _ => ?_) (fun h => absurd h (by omega))
    refine b_aload_n hC rfl 1 rfl (rfl : 316 + 1 = 317) (xdt tt_L_setup 164 rfl) ?_
    obtain ⟨b, m, f, rfl, h1, h2, h3⟩ := hw
    refine s_callVr hC 0 rfl kclJ4 m_J4_toString_0e30d q396 ⟨by decide, by decide⟩ (show _ ≤ (100 : Nat) by omega) (show _ ≤ (120000 : Nat) by omega) [] rfl (fun l => c_toS l hA ⟨b, m, f, rfl, h1, h2, h3⟩) rfl (Nat.le_of_ble_eq_true rfl) (rfl : 317 + 3 = 320) (xdt tt_L_setup 165 rfl) (fun a u hu => ?_)
    refine b_wid (cl' := 100) (sl' := 120000) (by omega) (by omega) ?_
    exact s_aret hC (Or.inl ⟨_, rfl⟩) hE hu (xdt tt_L_setup 166 rfl)
  | succ d ih =>
    intro i hi u hw
    have hb := bodT_len (n := n) (q := q) i
    refine b_iload_n hC rfl 3 rfl (rfl : 164 + 1 = 165) (xdt tt_L_setup 84 rfl) ?_
    refine b_iload_n hC rfl 2 rfl (rfl : 165 + 1 = 166) (xdt tt_L_setup 85 rfl) ?_
    refine b_geN hC (by omega) (by omega) (show ((166 : Nat) : Int) + 150 = ((316 : Nat) : Int) by decide) (rfl : 166 + 3 = 169) (xdt tt_L_setup 86 rfl) (fun h => absurd h (by omega)) (fun _ => ?_)
    refine b_aload_n hC rfl 0 rfl (rfl : 169 + 1 = 170) (xdt tt_L_setup 87 rfl) ?_
    refine b_bipush hC (by decide) (rfl : 170 + 2 = 172) (xdt tt_L_setup 88 rfl) ?_
    refine b_iconst hC (rfl : 172 + 1 = 173) (xdt tt_L_setup 89 rfl) ?_
    refine b_iload_n hC rfl 3 rfl (rfl : 173 + 1 = 174) (xdt tt_L_setup 90 rfl) ?_
    refine b_imul hC (rfl : 174 + 1 = 175) (xdt tt_L_setup 91 rfl) ?_
    refine b_iadd hC (rfl : 175 + 1 = 176) (xdt tt_L_setup 92 rfl) ?_
    refine b_eqi (y := ((9 + 2 * i : Nat) : Int)) (by omega) ?_
    refine b_iconst hC (rfl : 176 + 1 = 177) (xdt tt_L_setup 93 rfl) ?_
    refine b_bipush hC (by decide) (rfl : 177 + 2 = 179) (xdt tt_L_setup 94 rfl) ?_
    refine b_callSi hC ⟨hA, PS_keep⟩ ⟨(show _ ≤ (100 : Nat) by omega), (show _ ≤ (120000 : Nat) by omega)⟩ m_L_draw q337 ⟨by decide, by decide⟩ [.ref (xsb E), vi ((9 + 2 * i : Nat) : Int), vi 0, vi 11] rfl (fun l => c_L_draw l hq (show f_L_draw S n q ((9 + 2 * i : Nat) : Int) 0 11 = some ((drN n q (9 + 2 * i) 0 11 : Int), S) from dr_e (i := (9 + 2 * i)) (lo := 0) (hi := 11) hn (by omega) (by omega) (by omega))) rfl (Nat.le_of_ble_eq_true rfl) (rfl : 179 + 3 = 182) (xdt tt_L_setup 95 rfl) ?_
    have b_kd := drN_le (n := n) (q := q) (i := (9 + 2 * i)) (lo := 0) (hi := 11) (by omega)
    generalize h_kd : drN n q (9 + 2 * i) 0 11 = kd at b_kd ⊢
    refine b_istore hC (by decide) (lv' := [(4, vi (kd : Int)), (0, .ref (xsb E)), (1, .ref sb), (2, vi (k : Int)), (3, vi (i : Int))]) rfl (rfl : 182 + 2 = 184) (xdt tt_L_setup 96 rfl) ?_
    refine b_sub [1, 2, 3, 4, 0] (lv' := [(0, .ref (xsb E)), (1, .ref sb), (2, vi (k : Int)), (3, vi (i : Int)), (4, vi (kd : Int))]) rfl ?_
    refine b_aload_n hC rfl 0 rfl (rfl : 184 + 1 = 185) (xdt tt_L_setup 97 rfl) ?_
    refine b_bipush hC (by decide) (rfl : 185 + 2 = 187) (xdt tt_L_setup 98 rfl) ?_
    refine b_iconst hC (rfl : 187 + 1 = 188) (xdt tt_L_setup 99 rfl) ?_
    refine b_iload_n hC rfl 3 rfl (rfl : 188 + 1 = 189) (xdt tt_L_setup 100 rfl) ?_
    refine b_imul hC (rfl : 189 + 1 = 190) (xdt tt_L_setup 101 rfl) ?_
    refine b_iadd hC (rfl : 190 + 1 = 191) (xdt tt_L_setup 102 rfl) ?_
    refine b_eqi (y := ((10 + 2 * i : Nat) : Int)) (by omega) ?_
    refine b_iconst hC (rfl : 191 + 1 = 192) (xdt tt_L_setup 103 rfl) ?_
    refine b_bipush hC (by decide) (rfl : 192 + 2 = 194) (xdt tt_L_setup 104 rfl) ?_
    refine b_callSi hC ⟨hA, PS_keep⟩ ⟨(show _ ≤ (100 : Nat) by omega), (show _ ≤ (120000 : Nat) by omega)⟩ m_L_draw q337 ⟨by decide, by decide⟩ [.ref (xsb E), vi ((10 + 2 * i : Nat) : Int), vi 0, vi 8] rfl (fun l => c_L_draw l hq (show f_L_draw S n q ((10 + 2 * i : Nat) : Int) 0 8 = some ((drN n q (10 + 2 * i) 0 8 : Int), S) from dr_e (i := (10 + 2 * i)) (lo := 0) (hi := 8) hn (by omega) (by omega) (by omega))) rfl (Nat.le_of_ble_eq_true rfl) (rfl : 194 + 3 = 197) (xdt tt_L_setup 105 rfl) ?_
    have b_ar := drN_le (n := n) (q := q) (i := (10 + 2 * i)) (lo := 0) (hi := 8) (by omega)
    generalize h_ar : drN n q (10 + 2 * i) 0 8 = ar at b_ar ⊢
    refine b_istore hC (by decide) (lv' := [(5, vi (ar : Int)), (0, .ref (xsb E)), (1, .ref sb), (2, vi (k : Int)), (3, vi (i : Int)), (4, vi (kd : Int))]) rfl (rfl : 197 + 2 = 199) (xdt tt_L_setup 106 rfl) ?_
    refine b_sub [1, 2, 3, 4, 5, 0] (lv' := [(0, .ref (xsb E)), (1, .ref sb), (2, vi (k : Int)), (3, vi (i : Int)), (4, vi (kd : Int)), (5, vi (ar : Int))]) rfl ?_
    have next : ∀ u, SBD (addL (bodT n q i) i kd ar) sb u → WB B (PS E B u) (19 + 5 * i + 5) (30000 + 6000 * i + 6000) K E 310 [(0, .ref (xsb E)), (1, .ref sb), (2, vi (k : Int)), (3, vi (i : Int)), (4, vi (kd : Int)), (5, vi (ar : Int))] [] S := by
      intro u hw
      refine b_iinc hC 3 rfl (by decide) (lv' := [(3, vi ((i : Int) + 1)), (0, .ref (xsb E)), (1, .ref sb), (2, vi (k : Int)), (4, vi (kd : Int)), (5, vi (ar : Int))]) rfl (rfl : 310 + 3 = 313) (xdt tt_L_setup 162 rfl) ?_
      refine b_sub [1, 2, 3, 0, 4, 5] (lv' := [(0, .ref (xsb E)), (1, .ref sb), (2, vi (k : Int)), (3, vi ((i : Int) + 1)), (4, vi (kd : Int)), (5, vi (ar : Int))]) rfl ?_
      refine b_sub [0, 1, 2, 3] (lv' := [(0, .ref (xsb E)), (1, .ref sb), (2, vi (k : Int)), (3, vi ((i : Int) + 1))]) rfl ?_
      refine b_goto hC (show ((313 : Nat) : Int) + (-149) = ((164 : Nat) : Int) by decide) (xdt tt_L_setup 163 rfl) ?_
      refine b_wid (cl' := 19 + 5 * (i + 1)) (sl' := 30000 + 6000 * (i + 1)) (by omega) (by omega) ?_
      have e9 : ((i : Int) + 1) = ((i + 1 : Nat) : Int) := by omega
      rw [e9]
      refine ih (i + 1) (by omega) u ?_
      show SBD (addL (bodT n q i) i (drN n q (9 + 2 * i) 0 11) (drN n q (10 + 2 * i) 0 8)) sb u
      rw [h_kd, h_ar]
      exact hw
    have key : ¬ (kd = 10 ∧ 0 < i) → WB B (PS E B u) (19 + 5 * i) (30000 + 6000 * i) K E 246 [(0, .ref (xsb E)), (1, .ref sb), (2, vi (k : Int)), (3, vi (i : Int)), (4, vi (kd : Int)), (5, vi (ar : Int))] [] S := by
      intro hno
      obtain ⟨L0, e0⟩ : ∃ L, L = bodT n q i := ⟨_, rfl⟩
      rw [← e0] at hw hb next
      refine b_iload hC 4 rfl (rfl : 246 + 2 = 248) (xdt tt_L_setup 131 rfl) ?_
      refine b_bipush hC (by decide) (rfl : 248 + 2 = 250) (xdt tt_L_setup 132 rfl) ?_
      refine b_neN hC (a := kd) (b := 11) (by omega) (by omega) (show ((250 : Nat) : Int) + 25 = ((275 : Nat) : Int) by decide) (rfl : 250 + 3 = 253) (xdt tt_L_setup 133 rfl) (fun h11 => ?_) (fun h11 => ?_)
      · refine b_iload hC 4 rfl (rfl : 275 + 2 = 277) (xdt tt_L_setup 145 rfl) ?_
        refine b_bipush hC (by decide) (rfl : 277 + 2 = 279) (xdt tt_L_setup 146 rfl) ?_
        refine b_neN hC (a := kd) (b := 9) (by omega) (by omega) (show ((279 : Nat) : Int) + 13 = ((292 : Nat) : Int) by decide) (rfl : 279 + 3 = 282) (xdt tt_L_setup 147 rfl) (fun h9 => ?_) (fun h9 => ?_)
        · refine b_aload_n hC rfl 1 rfl (rfl : 292 + 1 = 293) (xdt tt_L_setup 153 rfl) ?_
          refine b_iload hC 4 rfl (rfl : 293 + 2 = 295) (xdt tt_L_setup 154 rfl) ?_
          refine b_bipush hC (by decide) (rfl : 295 + 2 = 297) (xdt tt_L_setup 155 rfl) ?_
          refine b_irem hC (by decide) (rfl : 297 + 1 = 298) (xdt tt_L_setup 156 rfl) ?_
          refine b_eqi (y := ((kd % 8 : Nat) : Int)) (tmdN (by omega) (by omega)) ?_
          refine b_callSa hC ⟨hA, PS_keep⟩ ⟨(show _ ≤ (100 : Nat) by omega), (show _ ≤ (120000 : Nat) by omega)⟩ m_L_kind q370 ⟨by decide, by decide⟩ [vi ((kd % 8 : Nat) : Int)] rfl (fun l => c_L_kind l (kind_e (a := kd % 8) (by omega))) rfl (Nat.le_of_ble_eq_true rfl) (rfl : 298 + 3 = 301) (xdt tt_L_setup 157 rfl) (fun hk_ => ?_)
          refine t_app hC hw m_J4_append_15ec4 q214 ⟨by decide, by decide⟩ (show _ ≤ (100 : Nat) by omega) (show _ ≤ (120000 : Nat) by omega) [vs E (35 + kd % 8)] rfl (fun l => c_appS l hA hk_ (by have := (kln (kd % 8) (by omega)).2.1; omega) hw) rfl (Nat.le_of_ble_eq_true rfl) (rfl : 301 + 3 = 304) (xdt tt_L_setup 158 rfl) (fun u hw => ?_)
          obtain ⟨L1, e1⟩ : ∃ L, L = L0 ++ ldL (35 + kd % 8) := ⟨_, rfl⟩
          rw [← e1] at hw
          have l1 : L1.length ≤ L0.length + 5 := by rw [e1, List.length_append]; have := (kln (kd % 8) (by omega)).2.2; omega
          refine b_bipush hC (by decide) (rfl : 304 + 2 = 306) (xdt tt_L_setup 159 rfl) ?_
          refine t_app hC hw m_J4_append_cf468 q373 ⟨by decide, by decide⟩ (show _ ≤ (100 : Nat) by omega) (show _ ≤ (120000 : Nat) by omega) [vi 59] rfl (fun l => c_appC l hA (c := 59) (by omega) (by omega) hw) rfl (Nat.le_of_ble_eq_true rfl) (rfl : 306 + 3 = 309) (xdt tt_L_setup 160 rfl) (fun u hw => ?_)
          obtain ⟨L2, e2⟩ : ∃ L, L = L1 ++ [((59 : Nat) : Int)] := ⟨_, rfl⟩
          rw [← e2] at hw
          have l2 : L2.length ≤ L0.length + 5 + 1 := by rw [e2, List.length_append]; have : ([((59 : Nat) : Int)] : List Int).length = 1 := rfl; omega
          refine b_pop hC rfl (rfl : 309 + 1 = 310) (xdt tt_L_setup 161 rfl) ?_
          refine b_wid (cl' := 19 + 5 * i + 5) (sl' := 30000 + 6000 * i + 6000) (by omega) (by omega) ?_
          refine next _ ?_
          unfold addL
          rw [if_neg hno, if_neg h11, if_neg h9, ← e1, ← e2]
          exact hw
        · refine b_aload_n hC rfl 1 rfl (rfl : 282 + 1 = 283) (xdt tt_L_setup 148 rfl) ?_
          refine b_ldcS hC 46 rfl rfl (rfl : 283 + 2 = 285) (xdt tt_L_setup 149 rfl) ?_
          refine t_app hC hw m_J4_append_15ec4 q214 ⟨by decide, by decide⟩ (show _ ≤ (100 : Nat) by omega) (show _ ≤ (120000 : Nat) by omega) [vs E 46] rfl (fun l => c_appS l hA (show 46 < xldc.length by decide) (by have := xls; omega) hw) rfl (Nat.le_of_ble_eq_true rfl) (rfl : 285 + 3 = 288) (xdt tt_L_setup 150 rfl) (fun u hw => ?_)
          obtain ⟨L1, e1⟩ : ∃ L, L = L0 ++ ldL 46 := ⟨_, rfl⟩
          rw [← e1] at hw
          have l1 : L1.length ≤ L0.length + 9 := by rw [e1, List.length_append]; have := lns; omega
          refine b_pop hC rfl (rfl : 288 + 1 = 289) (xdt tt_L_setup 151 rfl) ?_
          refine b_goto hC (show ((289 : Nat) : Int) + 21 = ((310 : Nat) : Int) by decide) (xdt tt_L_setup 152 rfl) ?_
          refine b_wid (cl' := 19 + 5 * i + 5) (sl' := 30000 + 6000 * i + 6000) (by omega) (by omega) ?_
          refine next _ ?_
          unfold addL
          rw [if_neg hno, if_neg h11, if_pos h9, ← e1]
          exact hw
      · refine b_aload_n hC rfl 1 rfl (rfl : 253 + 1 = 254) (xdt tt_L_setup 134 rfl) ?_
        refine b_ldcS hC 45 rfl rfl (rfl : 254 + 2 = 256) (xdt tt_L_setup 135 rfl) ?_
        refine t_app hC hw m_J4_append_15ec4 q214 ⟨by decide, by decide⟩ (show _ ≤ (100 : Nat) by omega) (show _ ≤ (120000 : Nat) by omega) [vs E 45] rfl (fun l => c_appS l hA (show 45 < xldc.length by decide) (by have := xls; omega) hw) rfl (Nat.le_of_ble_eq_true rfl) (rfl : 256 + 3 = 259) (xdt tt_L_setup 136 rfl) (fun u hw => ?_)
        obtain ⟨L1, e1⟩ : ∃ L, L = L0 ++ ldL 45 := ⟨_, rfl⟩
        rw [← e1] at hw
        have l1 : L1.length ≤ L0.length + 11 := by rw [e1, List.length_append]; have := lns; omega
        refine b_iload hC 5 rfl (rfl : 259 + 2 = 261) (xdt tt_L_setup 137 rfl) ?_
        refine b_iconst hC (rfl : 261 + 1 = 262) (xdt tt_L_setup 138 rfl) ?_
        refine b_irem hC (by decide) (rfl : 262 + 1 = 263) (xdt tt_L_setup 139 rfl) ?_
        refine b_eqi (y := ((ar % 3 : Nat) : Int)) (tmdN (by omega) (by omega)) ?_
        refine t_app hC hw m_J4_append_bf812 q345 ⟨by decide, by decide⟩ (show _ ≤ (100 : Nat) by omega) (show _ ≤ (120000 : Nat) by omega) [vi ((ar % 3 : Nat) : Int)] rfl (fun l => c_appI l hA (v := ar % 3) (by omega) hfu (by omega) hw) rfl (Nat.le_of_ble_eq_true rfl) (rfl : 263 + 3 = 266) (xdt tt_L_setup 140 rfl) (fun u hw => ?_)
        obtain ⟨L2, e2⟩ : ∃ L, L = L1 ++ dgL (ar % 3) := ⟨_, rfl⟩
        rw [← e2] at hw
        have l2 : L2.length ≤ L0.length + 11 + 2 := by rw [e2, List.length_append]; have := dgL_le (ar % 3); omega
        refine b_bipush hC (by decide) (rfl : 266 + 2 = 268) (xdt tt_L_setup 141 rfl) ?_
        refine t_app hC hw m_J4_append_cf468 q373 ⟨by decide, by decide⟩ (show _ ≤ (100 : Nat) by omega) (show _ ≤ (120000 : Nat) by omega) [vi 59] rfl (fun l => c_appC l hA (c := 59) (by omega) (by omega) hw) rfl (Nat.le_of_ble_eq_true rfl) (rfl : 268 + 3 = 271) (xdt tt_L_setup 142 rfl) (fun u hw => ?_)
        obtain ⟨L3, e3⟩ : ∃ L, L = L2 ++ [((59 : Nat) : Int)] := ⟨_, rfl⟩
        rw [← e3] at hw
        have l3 : L3.length ≤ L0.length + 11 + 2 + 1 := by rw [e3, List.length_append]; have : ([((59 : Nat) : Int)] : List Int).length = 1 := rfl; omega
        refine b_pop hC rfl (rfl : 271 + 1 = 272) (xdt tt_L_setup 143 rfl) ?_
        refine b_goto hC (show ((272 : Nat) : Int) + 38 = ((310 : Nat) : Int) by decide) (xdt tt_L_setup 144 rfl) ?_
        refine b_wid (cl' := 19 + 5 * i + 5) (sl' := 30000 + 6000 * i + 6000) (by omega) (by omega) ?_
        refine next _ ?_
        unfold addL
        rw [if_neg hno, if_pos h11, ← e1, ← e2, ← e3]
        exact hw
    refine b_iload hC 4 rfl (rfl : 199 + 2 = 201) (xdt tt_L_setup 107 rfl) ?_
    refine b_bipush hC (by decide) (rfl : 201 + 2 = 203) (xdt tt_L_setup 108 rfl) ?_
    refine b_neN hC (a := kd) (b := 10) (by omega) (by omega) (show ((203 : Nat) : Int) + 43 = ((246 : Nat) : Int) by decide) (rfl : 203 + 3 = 206) (xdt tt_L_setup 109 rfl) (fun h10 => key (fun z => h10 z.1)) (fun h10 => ?_)
    refine b_iload_n hC rfl 3 rfl (rfl : 206 + 1 = 207) (xdt tt_L_setup 110 rfl) ?_
    refine b_le0N hC (a := i) (by omega) (show ((207 : Nat) : Int) + 39 = ((246 : Nat) : Int) by decide) (rfl : 207 + 3 = 210) (xdt tt_L_setup 111 rfl) (fun h0 => key (fun z => absurd z.2 (by omega))) (fun h0 => ?_)
    clear key
    obtain ⟨L0, e0⟩ : ∃ L, L = bodT n q i := ⟨_, rfl⟩
    rw [← e0] at hw hb next
    refine b_aload_n hC rfl 1 rfl (rfl : 210 + 1 = 211) (xdt tt_L_setup 112 rfl) ?_
    refine b_ldcS hC 43 rfl rfl (rfl : 211 + 2 = 213) (xdt tt_L_setup 113 rfl) ?_
    refine t_app hC hw m_J4_append_15ec4 q214 ⟨by decide, by decide⟩ (show _ ≤ (100 : Nat) by omega) (show _ ≤ (120000 : Nat) by omega) [vs E 43] rfl (fun l => c_appS l hA (show 43 < xldc.length by decide) (by have := xls; omega) hw) rfl (Nat.le_of_ble_eq_true rfl) (rfl : 213 + 3 = 216) (xdt tt_L_setup 114 rfl) (fun u hw => ?_)
    obtain ⟨L1, e1⟩ : ∃ L, L = L0 ++ ldL 43 := ⟨_, rfl⟩
    rw [← e1] at hw
    have l1 : L1.length ≤ L0.length + 12 := by rw [e1, List.length_append]; have := lns; omega
    refine b_iconst hC (rfl : 216 + 1 = 217) (xdt tt_L_setup 115 rfl) ?_
    refine b_iload hC 5 rfl (rfl : 217 + 2 = 219) (xdt tt_L_setup 116 rfl) ?_
    refine b_iload_n hC rfl 3 rfl (rfl : 219 + 1 = 220) (xdt tt_L_setup 117 rfl) ?_
    refine b_irem hC (by rw [wrN (by omega)]; omega) (rfl : 220 + 1 = 221) (xdt tt_L_setup 118 rfl) ?_
    refine b_eqi (y := ((ar % i : Nat) : Int)) (tmdN (by omega) (by omega)) ?_
    have hmod := Nat.mod_lt ar h0
    refine b_iadd hC (rfl : 221 + 1 = 222) (xdt tt_L_setup 119 rfl) ?_
    refine b_eqi (y := ((1 + ar % i : Nat) : Int)) (by omega) ?_
    refine t_app hC hw m_J4_append_bf812 q345 ⟨by decide, by decide⟩ (show _ ≤ (100 : Nat) by omega) (show _ ≤ (120000 : Nat) by omega) [vi ((1 + ar % i : Nat) : Int)] rfl (fun l => c_appI l hA (v := 1 + ar % i) (by omega) hfu (by omega) hw) rfl (Nat.le_of_ble_eq_true rfl) (rfl : 222 + 3 = 225) (xdt tt_L_setup 120 rfl) (fun u hw => ?_)
    obtain ⟨L2, e2⟩ : ∃ L, L = L1 ++ dgL (1 + ar % i) := ⟨_, rfl⟩
    rw [← e2] at hw
    have l2 : L2.length ≤ L0.length + 12 + 2 := by rw [e2, List.length_append]; have := dgL_le (1 + ar % i); omega
    refine b_ldcS hC 44 rfl rfl (rfl : 225 + 2 = 227) (xdt tt_L_setup 121 rfl) ?_
    refine t_app hC hw m_J4_append_15ec4 q214 ⟨by decide, by decide⟩ (show _ ≤ (100 : Nat) by omega) (show _ ≤ (120000 : Nat) by omega) [vs E 44] rfl (fun l => c_appS l hA (show 44 < xldc.length by decide) (by have := xls; omega) hw) rfl (Nat.le_of_ble_eq_true rfl) (rfl : 227 + 3 = 230) (xdt tt_L_setup 122 rfl) (fun u hw => ?_)
    obtain ⟨L3, e3⟩ : ∃ L, L = L2 ++ ldL 44 := ⟨_, rfl⟩
    rw [← e3] at hw
    have l3 : L3.length ≤ L0.length + 12 + 2 + 7 := by rw [e3, List.length_append]; have := lns; omega
    refine b_iconst hC (rfl : 230 + 1 = 231) (xdt tt_L_setup 123 rfl) ?_
    refine b_iload hC 5 rfl (rfl : 231 + 2 = 233) (xdt tt_L_setup 124 rfl) ?_
    refine b_iadd hC (rfl : 233 + 1 = 234) (xdt tt_L_setup 125 rfl) ?_
    refine b_eqi (y := ((1 + ar : Nat) : Int)) (by omega) ?_
    refine t_app hC hw m_J4_append_bf812 q345 ⟨by decide, by decide⟩ (show _ ≤ (100 : Nat) by omega) (show _ ≤ (120000 : Nat) by omega) [vi ((1 + ar : Nat) : Int)] rfl (fun l => c_appI l hA (v := 1 + ar) (by omega) hfu (by omega) hw) rfl (Nat.le_of_ble_eq_true rfl) (rfl : 234 + 3 = 237) (xdt tt_L_setup 126 rfl) (fun u hw => ?_)
    obtain ⟨L4, e4⟩ : ∃ L, L = L3 ++ dgL (1 + ar) := ⟨_, rfl⟩
    rw [← e4] at hw
    have l4 : L4.length ≤ L0.length + 12 + 2 + 7 + 2 := by rw [e4, List.length_append]; have := dgL_le (1 + ar); omega
    refine b_bipush hC (by decide) (rfl : 237 + 2 = 239) (xdt tt_L_setup 127 rfl) ?_
    refine t_app hC hw m_J4_append_cf468 q373 ⟨by decide, by decide⟩ (show _ ≤ (100 : Nat) by omega) (show _ ≤ (120000 : Nat) by omega) [vi 59] rfl (fun l => c_appC l hA (c := 59) (by omega) (by omega) hw) rfl (Nat.le_of_ble_eq_true rfl) (rfl : 239 + 3 = 242) (xdt tt_L_setup 128 rfl) (fun u hw => ?_)
    obtain ⟨L5, e5⟩ : ∃ L, L = L4 ++ [((59 : Nat) : Int)] := ⟨_, rfl⟩
    rw [← e5] at hw
    have l5 : L5.length ≤ L0.length + 12 + 2 + 7 + 2 + 1 := by rw [e5, List.length_append]; have : ([((59 : Nat) : Int)] : List Int).length = 1 := rfl; omega
    refine b_pop hC rfl (rfl : 242 + 1 = 243) (xdt tt_L_setup 129 rfl) ?_
    refine b_goto hC (show ((243 : Nat) : Int) + 67 = ((310 : Nat) : Int) by decide) (xdt tt_L_setup 130 rfl) ?_
    refine b_wid (cl' := 19 + 5 * i + 5) (sl' := 30000 + 6000 * i + 6000) (by omega) (by omega) ?_
    refine next _ ?_
    unfold addL
    rw [if_pos ⟨h10, h0⟩, ← e1, ← e2, ← e3, ← e4, ← e5]
    exact hw
set_option maxHeartbeats 8000000 in
theorem c_setup (l : Launch) {E : xE} {B : Nat} {S : xSt} {n : Nat} {q : Nat → Int} (hA : ∀ a, xA E a → B ≤ a) (hfu : 5 ≤ fu S) (hq : xsL E = n ∧ xsc E = q) (hn : n ≤ 1000000) : Met l yL_setup (xws yL_setup cL_setup 6 (some (.object "java/lang/String"))) (rmN 7 100 120000) (SPc E B [.ref (xsb E)] S []) (SQr E B S (strE (setT n q))) 100 120000 (fun a => B ≤ a) := by
  refine metS (by decide +kernel) (Nat.le_of_ble_eq_true rfl) (fun K hC hE => ?_)
  have hC : xOK K cL_setup RL 6 (rmN 7 100 120000) := hC
  show WB B (PS E B []) 0 0 K E 0 [(0, .ref (xsb E))] [] S
  refine s_new hC kclJ4 q192 q193 q194 [.null, vi 0, vi 0, vi 0] rfl (fun j hj => by rcases (show j = 0 ∨ j = 1 ∨ j = 2 ∨ j = 3 by omega) with rfl | rfl | rfl | rfl <;> rfl) (by decide) (by decide) (rfl : 0 + 3 = 3) (xdt tt_L_setup 0 rfl) (fun sb => ?_)
  refine b_dup hC rfl (rfl : 3 + 1 = 4) (xdt tt_L_setup 1 rfl) ?_
  refine s_ctor hC m_J4_init_da8c8 q195 ⟨by decide, by decide⟩ (by decide) (by decide) [] rfl (fun l => c_binit l) rfl (Nat.le_of_ble_eq_true rfl) (rfl : 4 + 3 = 7) (xdt tt_L_setup 2 rfl) (fun u hw => ?_)
  obtain ⟨L0, e0⟩ : ∃ L : List Int, L = [] := ⟨_, rfl⟩
  rw [← e0] at hw
  have l0 : L0.length ≤ 0 := by rw [e0]; decide
  refine b_astore_n hC rfl (by decide) (lv' := [(1, .ref sb), (0, .ref (xsb E))]) rfl (rfl : 7 + 1 = 8) (xdt tt_L_setup 3 rfl) ?_
  refine b_sub [1, 0] (lv' := [(0, .ref (xsb E)), (1, .ref sb)]) rfl ?_
  refine b_aload_n hC rfl 1 rfl (rfl : 8 + 1 = 9) (xdt tt_L_setup 4 rfl) ?_
  refine b_ldcS hC 28 rfl rfl (rfl : 9 + 2 = 11) (xdt tt_L_setup 5 rfl) ?_
  refine t_app hC hw m_J4_append_15ec4 q214 ⟨by decide, by decide⟩ (show _ ≤ (100 : Nat) by omega) (show _ ≤ (120000 : Nat) by omega) [vs E 28] rfl (fun l => c_appS l hA (show 28 < xldc.length by decide) (by have := xls; omega) hw) rfl (Nat.le_of_ble_eq_true rfl) (rfl : 11 + 3 = 14) (xdt tt_L_setup 6 rfl) (fun u hw => ?_)
  obtain ⟨L1, e1⟩ : ∃ L, L = L0 ++ ldL 28 := ⟨_, rfl⟩
  rw [← e1] at hw
  have l1 : L1.length ≤ 0 + 6 := by rw [e1, List.length_append]; have := lns; omega
  refine b_aload_n hC rfl 0 rfl (rfl : 14 + 1 = 15) (xdt tt_L_setup 7 rfl) ?_
  refine b_iconst hC (rfl : 15 + 1 = 16) (xdt tt_L_setup 8 rfl) ?_
  refine b_iconst hC (rfl : 16 + 1 = 17) (xdt tt_L_setup 9 rfl) ?_
  refine b_bipush hC (by decide) (rfl : 17 + 2 = 19) (xdt tt_L_setup 10 rfl) ?_
  refine b_callSi hC ⟨hA, PS_keep⟩ ⟨(show _ ≤ (100 : Nat) by omega), (show _ ≤ (120000 : Nat) by omega)⟩ m_L_draw q337 ⟨by decide, by decide⟩ [.ref (xsb E), vi 0, vi 1, vi 6] rfl (fun l => c_L_draw l hq (show f_L_draw S n q 0 1 6 = some ((drN n q 0 1 6 : Int), S) from dr_e (i := 0) (lo := 1) (hi := 6) hn (by omega) (by omega) (by omega))) rfl (Nat.le_of_ble_eq_true rfl) (rfl : 19 + 3 = 22) (xdt tt_L_setup 11 rfl) ?_
  have b_d0 := drN_le (n := n) (q := q) (i := 0) (lo := 1) (hi := 6) (by omega)
  generalize h_d0 : drN n q 0 1 6 = d0 at b_d0 ⊢
  refine t_app hC hw m_J4_append_bf812 q345 ⟨by decide, by decide⟩ (show _ ≤ (100 : Nat) by omega) (show _ ≤ (120000 : Nat) by omega) [vi (d0 : Int)] rfl (fun l => c_appI l hA (v := d0) (by omega) hfu (by omega) hw) rfl (Nat.le_of_ble_eq_true rfl) (rfl : 22 + 3 = 25) (xdt tt_L_setup 12 rfl) (fun u hw => ?_)
  obtain ⟨L2, e2⟩ : ∃ L, L = L1 ++ dgL (d0) := ⟨_, rfl⟩
  rw [← e2] at hw
  have l2 : L2.length ≤ 6 + 2 := by rw [e2, List.length_append]; have := dgL_le (d0); omega
  refine b_ldcS hC 29 rfl rfl (rfl : 25 + 2 = 27) (xdt tt_L_setup 13 rfl) ?_
  refine t_app hC hw m_J4_append_15ec4 q214 ⟨by decide, by decide⟩ (show _ ≤ (100 : Nat) by omega) (show _ ≤ (120000 : Nat) by omega) [vs E 29] rfl (fun l => c_appS l hA (show 29 < xldc.length by decide) (by have := xls; omega) hw) rfl (Nat.le_of_ble_eq_true rfl) (rfl : 27 + 3 = 30) (xdt tt_L_setup 14 rfl) (fun u hw => ?_)
  obtain ⟨L3, e3⟩ : ∃ L, L = L2 ++ ldL 29 := ⟨_, rfl⟩
  rw [← e3] at hw
  have l3 : L3.length ≤ 8 + 8 := by rw [e3, List.length_append]; have := lns; omega
  refine b_bipush hC (by decide) (rfl : 30 + 2 = 32) (xdt tt_L_setup 15 rfl) ?_
  refine b_aload_n hC rfl 0 rfl (rfl : 32 + 1 = 33) (xdt tt_L_setup 16 rfl) ?_
  refine b_iconst hC (rfl : 33 + 1 = 34) (xdt tt_L_setup 17 rfl) ?_
  refine b_iconst hC (rfl : 34 + 1 = 35) (xdt tt_L_setup 18 rfl) ?_
  refine b_iconst hC (rfl : 35 + 1 = 36) (xdt tt_L_setup 19 rfl) ?_
  refine b_callSi hC ⟨hA, PS_keep⟩ ⟨(show _ ≤ (100 : Nat) by omega), (show _ ≤ (120000 : Nat) by omega)⟩ m_L_draw q337 ⟨by decide, by decide⟩ [.ref (xsb E), vi 1, vi 0, vi 2] rfl (fun l => c_L_draw l hq (show f_L_draw S n q 1 0 2 = some ((drN n q 1 0 2 : Int), S) from dr_e (i := 1) (lo := 0) (hi := 2) hn (by omega) (by omega) (by omega))) rfl (Nat.le_of_ble_eq_true rfl) (rfl : 36 + 3 = 39) (xdt tt_L_setup 20 rfl) ?_
  have b_d1 := drN_le (n := n) (q := q) (i := 1) (lo := 0) (hi := 2) (by omega)
  generalize h_d1 : drN n q 1 0 2 = d1 at b_d1 ⊢
  refine b_ishl hC (rfl : 39 + 1 = 40) (xdt tt_L_setup 21 rfl) ?_
  refine b_eqi (y := ((8 * 2 ^ d1 : Nat) : Int)) (sh8 b_d1.2).symm ?_
  have s8 := sh8b b_d1.2
  refine t_app hC hw m_J4_append_bf812 q345 ⟨by decide, by decide⟩ (show _ ≤ (100 : Nat) by omega) (show _ ≤ (120000 : Nat) by omega) [vi ((8 * 2 ^ d1 : Nat) : Int)] rfl (fun l => c_appI l hA (v := 8 * 2 ^ d1) (by omega) hfu (by omega) hw) rfl (Nat.le_of_ble_eq_true rfl) (rfl : 40 + 3 = 43) (xdt tt_L_setup 22 rfl) (fun u hw => ?_)
  obtain ⟨L4, e4⟩ : ∃ L, L = L3 ++ dgL (8 * 2 ^ d1) := ⟨_, rfl⟩
  rw [← e4] at hw
  have l4 : L4.length ≤ 16 + 2 := by rw [e4, List.length_append]; have := dgL_le (8 * 2 ^ d1); omega
  refine b_ldcS hC 30 rfl rfl (rfl : 43 + 2 = 45) (xdt tt_L_setup 23 rfl) ?_
  refine t_app hC hw m_J4_append_15ec4 q214 ⟨by decide, by decide⟩ (show _ ≤ (100 : Nat) by omega) (show _ ≤ (120000 : Nat) by omega) [vs E 30] rfl (fun l => c_appS l hA (show 30 < xldc.length by decide) (by have := xls; omega) hw) rfl (Nat.le_of_ble_eq_true rfl) (rfl : 45 + 3 = 48) (xdt tt_L_setup 24 rfl) (fun u hw => ?_)
  obtain ⟨L5, e5⟩ : ∃ L, L = L4 ++ ldL 30 := ⟨_, rfl⟩
  rw [← e5] at hw
  have l5 : L5.length ≤ 18 + 7 := by rw [e5, List.length_append]; have := lns; omega
  refine b_aload_n hC rfl 0 rfl (rfl : 48 + 1 = 49) (xdt tt_L_setup 25 rfl) ?_
  refine b_iconst hC (rfl : 49 + 1 = 50) (xdt tt_L_setup 26 rfl) ?_
  refine b_iconst hC (rfl : 50 + 1 = 51) (xdt tt_L_setup 27 rfl) ?_
  refine b_bipush hC (by decide) (rfl : 51 + 2 = 53) (xdt tt_L_setup 28 rfl) ?_
  refine b_callSi hC ⟨hA, PS_keep⟩ ⟨(show _ ≤ (100 : Nat) by omega), (show _ ≤ (120000 : Nat) by omega)⟩ m_L_draw q337 ⟨by decide, by decide⟩ [.ref (xsb E), vi 2, vi 2, vi 20] rfl (fun l => c_L_draw l hq (show f_L_draw S n q 2 2 20 = some ((drN n q 2 2 20 : Int), S) from dr_e (i := 2) (lo := 2) (hi := 20) hn (by omega) (by omega) (by omega))) rfl (Nat.le_of_ble_eq_true rfl) (rfl : 53 + 3 = 56) (xdt tt_L_setup 29 rfl) ?_
  have b_d2 := drN_le (n := n) (q := q) (i := 2) (lo := 2) (hi := 20) (by omega)
  generalize h_d2 : drN n q 2 2 20 = d2 at b_d2 ⊢
  refine t_app hC hw m_J4_append_bf812 q345 ⟨by decide, by decide⟩ (show _ ≤ (100 : Nat) by omega) (show _ ≤ (120000 : Nat) by omega) [vi (d2 : Int)] rfl (fun l => c_appI l hA (v := d2) (by omega) hfu (by omega) hw) rfl (Nat.le_of_ble_eq_true rfl) (rfl : 56 + 3 = 59) (xdt tt_L_setup 30 rfl) (fun u hw => ?_)
  obtain ⟨L6, e6⟩ : ∃ L, L = L5 ++ dgL (d2) := ⟨_, rfl⟩
  rw [← e6] at hw
  have l6 : L6.length ≤ 25 + 2 := by rw [e6, List.length_append]; have := dgL_le (d2); omega
  refine b_ldcS hC 31 rfl rfl (rfl : 59 + 2 = 61) (xdt tt_L_setup 31 rfl) ?_
  refine t_app hC hw m_J4_append_15ec4 q214 ⟨by decide, by decide⟩ (show _ ≤ (100 : Nat) by omega) (show _ ≤ (120000 : Nat) by omega) [vs E 31] rfl (fun l => c_appS l hA (show 31 < xldc.length by decide) (by have := xls; omega) hw) rfl (Nat.le_of_ble_eq_true rfl) (rfl : 61 + 3 = 64) (xdt tt_L_setup 32 rfl) (fun u hw => ?_)
  obtain ⟨L7, e7⟩ : ∃ L, L = L6 ++ ldL 31 := ⟨_, rfl⟩
  rw [← e7] at hw
  have l7 : L7.length ≤ 27 + 5 := by rw [e7, List.length_append]; have := lns; omega
  refine b_aload_n hC rfl 0 rfl (rfl : 64 + 1 = 65) (xdt tt_L_setup 33 rfl) ?_
  refine b_iconst hC (rfl : 65 + 1 = 66) (xdt tt_L_setup 34 rfl) ?_
  refine b_iconst hC (rfl : 66 + 1 = 67) (xdt tt_L_setup 35 rfl) ?_
  refine b_bipush hC (by decide) (rfl : 67 + 2 = 69) (xdt tt_L_setup 36 rfl) ?_
  refine b_callSi hC ⟨hA, PS_keep⟩ ⟨(show _ ≤ (100 : Nat) by omega), (show _ ≤ (120000 : Nat) by omega)⟩ m_L_draw q337 ⟨by decide, by decide⟩ [.ref (xsb E), vi 3, vi 4, vi 40] rfl (fun l => c_L_draw l hq (show f_L_draw S n q 3 4 40 = some ((drN n q 3 4 40 : Int), S) from dr_e (i := 3) (lo := 4) (hi := 40) hn (by omega) (by omega) (by omega))) rfl (Nat.le_of_ble_eq_true rfl) (rfl : 69 + 3 = 72) (xdt tt_L_setup 37 rfl) ?_
  have b_d3 := drN_le (n := n) (q := q) (i := 3) (lo := 4) (hi := 40) (by omega)
  generalize h_d3 : drN n q 3 4 40 = d3 at b_d3 ⊢
  refine t_app hC hw m_J4_append_bf812 q345 ⟨by decide, by decide⟩ (show _ ≤ (100 : Nat) by omega) (show _ ≤ (120000 : Nat) by omega) [vi (d3 : Int)] rfl (fun l => c_appI l hA (v := d3) (by omega) hfu (by omega) hw) rfl (Nat.le_of_ble_eq_true rfl) (rfl : 72 + 3 = 75) (xdt tt_L_setup 38 rfl) (fun u hw => ?_)
  obtain ⟨L8, e8⟩ : ∃ L, L = L7 ++ dgL (d3) := ⟨_, rfl⟩
  rw [← e8] at hw
  have l8 : L8.length ≤ 32 + 2 := by rw [e8, List.length_append]; have := dgL_le (d3); omega
  refine b_ldcS hC 32 rfl rfl (rfl : 75 + 2 = 77) (xdt tt_L_setup 39 rfl) ?_
  refine t_app hC hw m_J4_append_15ec4 q214 ⟨by decide, by decide⟩ (show _ ≤ (100 : Nat) by omega) (show _ ≤ (120000 : Nat) by omega) [vs E 32] rfl (fun l => c_appS l hA (show 32 < xldc.length by decide) (by have := xls; omega) hw) rfl (Nat.le_of_ble_eq_true rfl) (rfl : 77 + 3 = 80) (xdt tt_L_setup 40 rfl) (fun u hw => ?_)
  obtain ⟨L9, e9⟩ : ∃ L, L = L8 ++ ldL 32 := ⟨_, rfl⟩
  rw [← e9] at hw
  have l9 : L9.length ≤ 34 + 6 := by rw [e9, List.length_append]; have := lns; omega
  refine b_aload_n hC rfl 0 rfl (rfl : 80 + 1 = 81) (xdt tt_L_setup 41 rfl) ?_
  refine b_iconst hC (rfl : 81 + 1 = 82) (xdt tt_L_setup 42 rfl) ?_
  refine b_iconst hC (rfl : 82 + 1 = 83) (xdt tt_L_setup 43 rfl) ?_
  refine b_bipush hC (by decide) (rfl : 83 + 2 = 85) (xdt tt_L_setup 44 rfl) ?_
  refine b_callSi hC ⟨hA, PS_keep⟩ ⟨(show _ ≤ (100 : Nat) by omega), (show _ ≤ (120000 : Nat) by omega)⟩ m_L_draw q337 ⟨by decide, by decide⟩ [.ref (xsb E), vi 4, vi 1, vi 8] rfl (fun l => c_L_draw l hq (show f_L_draw S n q 4 1 8 = some ((drN n q 4 1 8 : Int), S) from dr_e (i := 4) (lo := 1) (hi := 8) hn (by omega) (by omega) (by omega))) rfl (Nat.le_of_ble_eq_true rfl) (rfl : 85 + 3 = 88) (xdt tt_L_setup 45 rfl) ?_
  have b_d4 := drN_le (n := n) (q := q) (i := 4) (lo := 1) (hi := 8) (by omega)
  generalize h_d4 : drN n q 4 1 8 = d4 at b_d4 ⊢
  refine t_app hC hw m_J4_append_bf812 q345 ⟨by decide, by decide⟩ (show _ ≤ (100 : Nat) by omega) (show _ ≤ (120000 : Nat) by omega) [vi (d4 : Int)] rfl (fun l => c_appI l hA (v := d4) (by omega) hfu (by omega) hw) rfl (Nat.le_of_ble_eq_true rfl) (rfl : 88 + 3 = 91) (xdt tt_L_setup 46 rfl) (fun u hw => ?_)
  obtain ⟨L10, e10⟩ : ∃ L, L = L9 ++ dgL (d4) := ⟨_, rfl⟩
  rw [← e10] at hw
  have l10 : L10.length ≤ 40 + 2 := by rw [e10, List.length_append]; have := dgL_le (d4); omega
  refine b_ldcS hC 33 rfl rfl (rfl : 91 + 2 = 93) (xdt tt_L_setup 47 rfl) ?_
  refine t_app hC hw m_J4_append_15ec4 q214 ⟨by decide, by decide⟩ (show _ ≤ (100 : Nat) by omega) (show _ ≤ (120000 : Nat) by omega) [vs E 33] rfl (fun l => c_appS l hA (show 33 < xldc.length by decide) (by have := xls; omega) hw) rfl (Nat.le_of_ble_eq_true rfl) (rfl : 93 + 3 = 96) (xdt tt_L_setup 48 rfl) (fun u hw => ?_)
  obtain ⟨L11, e11⟩ : ∃ L, L = L10 ++ ldL 33 := ⟨_, rfl⟩
  rw [← e11] at hw
  have l11 : L11.length ≤ 42 + 6 := by rw [e11, List.length_append]; have := lns; omega
  refine b_aload_n hC rfl 0 rfl (rfl : 96 + 1 = 97) (xdt tt_L_setup 49 rfl) ?_
  refine b_iconst hC (rfl : 97 + 1 = 98) (xdt tt_L_setup 50 rfl) ?_
  refine b_iconst hC (rfl : 98 + 1 = 99) (xdt tt_L_setup 51 rfl) ?_
  refine b_bipush hC (by decide) (rfl : 99 + 2 = 101) (xdt tt_L_setup 52 rfl) ?_
  refine b_callSi hC ⟨hA, PS_keep⟩ ⟨(show _ ≤ (100 : Nat) by omega), (show _ ≤ (120000 : Nat) by omega)⟩ m_L_draw q337 ⟨by decide, by decide⟩ [.ref (xsb E), vi 5, vi 0, vi 30] rfl (fun l => c_L_draw l hq (show f_L_draw S n q 5 0 30 = some ((drN n q 5 0 30 : Int), S) from dr_e (i := 5) (lo := 0) (hi := 30) hn (by omega) (by omega) (by omega))) rfl (Nat.le_of_ble_eq_true rfl) (rfl : 101 + 3 = 104) (xdt tt_L_setup 53 rfl) ?_
  have b_d5 := drN_le (n := n) (q := q) (i := 5) (lo := 0) (hi := 30) (by omega)
  generalize h_d5 : drN n q 5 0 30 = d5 at b_d5 ⊢
  refine t_app hC hw m_J4_append_bf812 q345 ⟨by decide, by decide⟩ (show _ ≤ (100 : Nat) by omega) (show _ ≤ (120000 : Nat) by omega) [vi (d5 : Int)] rfl (fun l => c_appI l hA (v := d5) (by omega) hfu (by omega) hw) rfl (Nat.le_of_ble_eq_true rfl) (rfl : 104 + 3 = 107) (xdt tt_L_setup 54 rfl) (fun u hw => ?_)
  obtain ⟨L12, e12⟩ : ∃ L, L = L11 ++ dgL (d5) := ⟨_, rfl⟩
  rw [← e12] at hw
  have l12 : L12.length ≤ 48 + 2 := by rw [e12, List.length_append]; have := dgL_le (d5); omega
  refine b_ldcS hC 34 rfl rfl (rfl : 107 + 2 = 109) (xdt tt_L_setup 55 rfl) ?_
  refine t_app hC hw m_J4_append_15ec4 q214 ⟨by decide, by decide⟩ (show _ ≤ (100 : Nat) by omega) (show _ ≤ (120000 : Nat) by omega) [vs E 34] rfl (fun l => c_appS l hA (show 34 < xldc.length by decide) (by have := xls; omega) hw) rfl (Nat.le_of_ble_eq_true rfl) (rfl : 109 + 3 = 112) (xdt tt_L_setup 56 rfl) (fun u hw => ?_)
  obtain ⟨L13, e13⟩ : ∃ L, L = L12 ++ ldL 34 := ⟨_, rfl⟩
  rw [← e13] at hw
  have l13 : L13.length ≤ 50 + 22 := by rw [e13, List.length_append]; have := lns; omega
  refine b_aload_n hC rfl 0 rfl (rfl : 112 + 1 = 113) (xdt tt_L_setup 57 rfl) ?_
  refine b_bipush hC (by decide) (rfl : 113 + 2 = 115) (xdt tt_L_setup 58 rfl) ?_
  refine b_iconst hC (rfl : 115 + 1 = 116) (xdt tt_L_setup 59 rfl) ?_
  refine b_iconst hC (rfl : 116 + 1 = 117) (xdt tt_L_setup 60 rfl) ?_
  refine b_callSi hC ⟨hA, PS_keep⟩ ⟨(show _ ≤ (100 : Nat) by omega), (show _ ≤ (120000 : Nat) by omega)⟩ m_L_draw q337 ⟨by decide, by decide⟩ [.ref (xsb E), vi 6, vi 0, vi 4] rfl (fun l => c_L_draw l hq (show f_L_draw S n q 6 0 4 = some ((drN n q 6 0 4 : Int), S) from dr_e (i := 6) (lo := 0) (hi := 4) hn (by omega) (by omega) (by omega))) rfl (Nat.le_of_ble_eq_true rfl) (rfl : 117 + 3 = 120) (xdt tt_L_setup 61 rfl) ?_
  have b_k6 := drN_le (n := n) (q := q) (i := 6) (lo := 0) (hi := 4) (by omega)
  generalize h_k6 : drN n q 6 0 4 = k6 at b_k6 ⊢
  refine b_callSa hC ⟨hA, PS_keep⟩ ⟨(show _ ≤ (100 : Nat) by omega), (show _ ≤ (120000 : Nat) by omega)⟩ m_L_kind q370 ⟨by decide, by decide⟩ [vi (k6 : Int)] rfl (fun l => c_L_kind l (kind_e (a := k6) (by omega))) rfl (Nat.le_of_ble_eq_true rfl) (rfl : 120 + 3 = 123) (xdt tt_L_setup 62 rfl) (fun hk_ => ?_)
  refine t_app hC hw m_J4_append_15ec4 q214 ⟨by decide, by decide⟩ (show _ ≤ (100 : Nat) by omega) (show _ ≤ (120000 : Nat) by omega) [vs E (35 + k6)] rfl (fun l => c_appS l hA hk_ (by have := (kln (k6) (by omega)).2.1; omega) hw) rfl (Nat.le_of_ble_eq_true rfl) (rfl : 123 + 3 = 126) (xdt tt_L_setup 63 rfl) (fun u hw => ?_)
  obtain ⟨L14, e14⟩ : ∃ L, L = L13 ++ ldL (35 + k6) := ⟨_, rfl⟩
  rw [← e14] at hw
  have l14 : L14.length ≤ 72 + 5 := by rw [e14, List.length_append]; have := (kln (k6) (by omega)).2.2; omega
  refine b_bipush hC (by decide) (rfl : 126 + 2 = 128) (xdt tt_L_setup 64 rfl) ?_
  refine t_app hC hw m_J4_append_cf468 q373 ⟨by decide, by decide⟩ (show _ ≤ (100 : Nat) by omega) (show _ ≤ (120000 : Nat) by omega) [vi 32] rfl (fun l => c_appC l hA (c := 32) (by omega) (by omega) hw) rfl (Nat.le_of_ble_eq_true rfl) (rfl : 128 + 3 = 131) (xdt tt_L_setup 65 rfl) (fun u hw => ?_)
  obtain ⟨L15, e15⟩ : ∃ L, L = L14 ++ [((32 : Nat) : Int)] := ⟨_, rfl⟩
  rw [← e15] at hw
  have l15 : L15.length ≤ 77 + 1 := by rw [e15, List.length_append]; have : ([((32 : Nat) : Int)] : List Int).length = 1 := rfl; omega
  refine b_aload_n hC rfl 0 rfl (rfl : 131 + 1 = 132) (xdt tt_L_setup 66 rfl) ?_
  refine b_bipush hC (by decide) (rfl : 132 + 2 = 134) (xdt tt_L_setup 67 rfl) ?_
  refine b_iconst hC (rfl : 134 + 1 = 135) (xdt tt_L_setup 68 rfl) ?_
  refine b_bipush hC (by decide) (rfl : 135 + 2 = 137) (xdt tt_L_setup 69 rfl) ?_
  refine b_callSi hC ⟨hA, PS_keep⟩ ⟨(show _ ≤ (100 : Nat) by omega), (show _ ≤ (120000 : Nat) by omega)⟩ m_L_draw q337 ⟨by decide, by decide⟩ [.ref (xsb E), vi 7, vi 0, vi 7] rfl (fun l => c_L_draw l hq (show f_L_draw S n q 7 0 7 = some ((drN n q 7 0 7 : Int), S) from dr_e (i := 7) (lo := 0) (hi := 7) hn (by omega) (by omega) (by omega))) rfl (Nat.le_of_ble_eq_true rfl) (rfl : 137 + 3 = 140) (xdt tt_L_setup 70 rfl) ?_
  have b_k7 := drN_le (n := n) (q := q) (i := 7) (lo := 0) (hi := 7) (by omega)
  generalize h_k7 : drN n q 7 0 7 = k7 at b_k7 ⊢
  refine b_callSa hC ⟨hA, PS_keep⟩ ⟨(show _ ≤ (100 : Nat) by omega), (show _ ≤ (120000 : Nat) by omega)⟩ m_L_kind q370 ⟨by decide, by decide⟩ [vi (k7 : Int)] rfl (fun l => c_L_kind l (kind_e (a := k7) (by omega))) rfl (Nat.le_of_ble_eq_true rfl) (rfl : 140 + 3 = 143) (xdt tt_L_setup 71 rfl) (fun hk_ => ?_)
  refine t_app hC hw m_J4_append_15ec4 q214 ⟨by decide, by decide⟩ (show _ ≤ (100 : Nat) by omega) (show _ ≤ (120000 : Nat) by omega) [vs E (35 + k7)] rfl (fun l => c_appS l hA hk_ (by have := (kln (k7) (by omega)).2.1; omega) hw) rfl (Nat.le_of_ble_eq_true rfl) (rfl : 143 + 3 = 146) (xdt tt_L_setup 72 rfl) (fun u hw => ?_)
  obtain ⟨L16, e16⟩ : ∃ L, L = L15 ++ ldL (35 + k7) := ⟨_, rfl⟩
  rw [← e16] at hw
  have l16 : L16.length ≤ 78 + 5 := by rw [e16, List.length_append]; have := (kln (k7) (by omega)).2.2; omega
  refine b_bipush hC (by decide) (rfl : 146 + 2 = 148) (xdt tt_L_setup 73 rfl) ?_
  refine t_app hC hw m_J4_append_cf468 q373 ⟨by decide, by decide⟩ (show _ ≤ (100 : Nat) by omega) (show _ ≤ (120000 : Nat) by omega) [vi 59] rfl (fun l => c_appC l hA (c := 59) (by omega) (by omega) hw) rfl (Nat.le_of_ble_eq_true rfl) (rfl : 148 + 3 = 151) (xdt tt_L_setup 74 rfl) (fun u hw => ?_)
  obtain ⟨L17, e17⟩ : ∃ L, L = L16 ++ [((59 : Nat) : Int)] := ⟨_, rfl⟩
  rw [← e17] at hw
  have l17 : L17.length ≤ 83 + 1 := by rw [e17, List.length_append]; have : ([((59 : Nat) : Int)] : List Int).length = 1 := rfl; omega
  refine b_pop hC rfl (rfl : 151 + 1 = 152) (xdt tt_L_setup 75 rfl) ?_
  refine b_aload_n hC rfl 0 rfl (rfl : 152 + 1 = 153) (xdt tt_L_setup 76 rfl) ?_
  refine b_bipush hC (by decide) (rfl : 153 + 2 = 155) (xdt tt_L_setup 77 rfl) ?_
  refine b_iconst hC (rfl : 155 + 1 = 156) (xdt tt_L_setup 78 rfl) ?_
  refine b_bipush hC (by decide) (rfl : 156 + 2 = 158) (xdt tt_L_setup 79 rfl) ?_
  refine b_callSi hC ⟨hA, PS_keep⟩ ⟨(show _ ≤ (100 : Nat) by omega), (show _ ≤ (120000 : Nat) by omega)⟩ m_L_draw q337 ⟨by decide, by decide⟩ [.ref (xsb E), vi 8, vi 1, vi 12] rfl (fun l => c_L_draw l hq (show f_L_draw S n q 8 1 12 = some ((drN n q 8 1 12 : Int), S) from dr_e (i := 8) (lo := 1) (hi := 12) hn (by omega) (by omega) (by omega))) rfl (Nat.le_of_ble_eq_true rfl) (rfl : 158 + 3 = 161) (xdt tt_L_setup 80 rfl) ?_
  have b_kk := drN_le (n := n) (q := q) (i := 8) (lo := 1) (hi := 12) (by omega)
  generalize h_kk : drN n q 8 1 12 = kk at b_kk ⊢
  refine b_istore_n hC rfl (by decide) (lv' := [(2, vi (kk : Int)), (0, .ref (xsb E)), (1, .ref sb)]) rfl (rfl : 161 + 1 = 162) (xdt tt_L_setup 81 rfl) ?_
  refine b_sub [1, 2, 0] (lv' := [(0, .ref (xsb E)), (1, .ref sb), (2, vi (kk : Int))]) rfl ?_
  refine b_iconst hC (rfl : 162 + 1 = 163) (xdt tt_L_setup 82 rfl) ?_
  refine b_istore_n hC rfl (by decide) (lv' := [(3, vi 0), (0, .ref (xsb E)), (1, .ref sb), (2, vi (kk : Int))]) rfl (rfl : 163 + 1 = 164) (xdt tt_L_setup 83 rfl) ?_
  refine b_sub [1, 2, 3, 0] (lv' := [(0, .ref (xsb E)), (1, .ref sb), (2, vi (kk : Int)), (3, vi 0)]) rfl ?_
  refine b_wid (cl' := 19 + 5 * 0) (sl' := 30000 + 6000 * 0) (by omega) (by omega) ?_
  refine su_loop (k := kk) hC hA hfu hq hn b_kk.2 (by rw [← h_kk] at *; exact hE) kk 0 (by omega) u ?_
  show SBD (hdrF (drN n q 0 1 6) (drN n q 1 0 2) (drN n q 2 2 20) (drN n q 3 4 40) (drN n q 4 1 8) (drN n q 5 0 30) (drN n q 6 0 4) (drN n q 7 0 7)) sb u
  rw [h_d0, h_d1, h_d2, h_d3, h_d4, h_d5, h_k6, h_k7]
  unfold hdrF
  rw [e17, e16, e15, e14, e13, e12, e11, e10, e9, e8, e7, e6, e5, e4, e3, e2, e1, e0] at hw
  exact hw
