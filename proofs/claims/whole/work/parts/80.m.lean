/-! mathematics: the frame -/
theorem ckb {m L : Nat} {k : Int} (hL : L ≤ 3072) (hx : 6 * m + 6 ≤ L) (hk : 0 ≤ k ∧ k ≤ 5) : 0 ≤ wr (6 * (m : Int) + k) ∧ wr (6 * (m : Int) + k) < (L : Int) := by
  rw [wr_id (by omega)]
  omega
theorem bd2_s {α β γ : Type} {x : Option (α × β)} {f : α → β → Option γ} {a : α} {b : β} (h : x = some (a, b)) : bd2 x f = f a b := by
  rw [h]
  rfl
def stepOK (Inv : Nat → xSt → Prop) (L : Nat) (F : (xSt → Int → Option xSt) → xSt → Int → Option xSt) : Prop := ∀ (c : xSt → Int → Option xSt) (S : xSt) (m : Nat), Inv m S → 6 * m + 6 ≤ L → (∀ S', Inv (m + 1) S' → ∃ T, c S' (6 * (m : Int) + 6) = some T) → ∃ T, F c S (6 * (m : Int)) = some T
set_option maxRecDepth 100000 in
set_option maxHeartbeats 16000000 in
theorem law_frame {r1 r2 r3 L : Nat} {sc : Nat → Int} {Inv : Nat → xSt → Prop} (hL : L ≤ 3072) (hmono : ∀ (m : Nat) (S : xSt), m < 512 → Inv m S → Inv (m + 1) S) (h0 : stepOK Inv L (fun c S x => f_law_b248 c r1 r2 r3 L sc S x)) (h1 : stepOK Inv L (fun c S x => f_law_b321 c r1 r2 r3 L sc S x)) (h2 : stepOK Inv L (fun c S x => f_law_b346 c r1 r2 r3 L sc S x)) (h3 : stepOK Inv L (fun c S x => f_law_b359 c r1 r2 r3 L sc S x)) (h4 : stepOK Inv L (fun c S x => f_law_b372 c r1 r2 r3 L sc S x)) (h5 : stepOK Inv L (fun c S x => f_law_b385 c r1 r2 r3 L sc S x)) (h6 : stepOK Inv L (fun c S x => f_law_b410 c r1 r2 r3 L sc S x)) (h7 : stepOK Inv L (fun c S x => f_law_b478 c r1 r2 r3 L sc S x)) (h8 : stepOK Inv L (fun c S x => f_law_b503 c r1 r2 r3 L sc S x)) (h9 : stepOK Inv L (fun c S x => f_law_b566 c r1 r2 r3 L sc S x)) (h10 : stepOK Inv L (fun c S x => f_law_b629 c r1 r2 r3 L sc S x)) (h11 : stepOK Inv L (fun c S x => f_law_b692 c r1 r2 r3 L sc S x)) (h12 : stepOK Inv L (fun c S x => f_law_b705 c r1 r2 r3 L sc S x)) (h13 : stepOK Inv L (fun c S x => f_law_b718 c r1 r2 r3 L sc S x)) (h14 : stepOK Inv L (fun c S x => f_law_b802 c r1 r2 r3 L sc S x)) (h15 : stepOK Inv L (fun c S x => f_law_b886 c r1 r2 r3 L sc S x)) (h16 : stepOK Inv L (fun c S x => f_law_b942 c r1 r2 r3 L sc S x)) (h17 : stepOK Inv L (fun c S x => f_law_b998 c r1 r2 r3 L sc S x)) (h18 : stepOK Inv L (fun c S x => f_law_b1011 c r1 r2 r3 L sc S x)) (h19 : stepOK Inv L (fun c S x => f_law_b1067 c r1 r2 r3 L sc S x)) (h20 : stepOK Inv L (fun c S x => f_law_b1080 c r1 r2 r3 L sc S x)) (h21 : stepOK Inv L (fun c S x => f_law_b1136 c r1 r2 r3 L sc S x)) (h22 : stepOK Inv L (fun c S x => f_law_b1192 c r1 r2 r3 L sc S x)) (h23 : stepOK Inv L (fun c S x => f_law_b1205 c r1 r2 r3 L sc S x)) (h24 : stepOK Inv L (fun c S x => f_law_b1261 c r1 r2 r3 L sc S x)) (h25 : stepOK Inv L (fun c S x => f_law_b1302 c r1 r2 r3 L sc S x)) (h26 : stepOK Inv L (fun c S x => f_law_b1345 c r1 r2 r3 L sc S x)) (h27 : stepOK Inv L (fun c S x => f_law_b1401 c r1 r2 r3 L sc S x)) (h28 : stepOK Inv L (fun c S x => f_law_b1457 c r1 r2 r3 L sc S x)) (h29 : stepOK Inv L (fun c S x => f_law_b1513 c r1 r2 r3 L sc S x)) (h30 : stepOK Inv L (fun c S x => f_law_b1581 c r1 r2 r3 L sc S x)) (h31 : stepOK Inv L (fun c S x => f_law_b1649 c r1 r2 r3 L sc S x)) (h32 : stepOK Inv L (fun c S x => f_law_b1705 c r1 r2 r3 L sc S x)) (h33 : stepOK Inv L (fun c S x => f_law_b1761 c r1 r2 r3 L sc S x)) (h34 : stepOK Inv L (fun c S x => f_law_b1805 c r1 r2 r3 L sc S x)) (h35 : stepOK Inv L (fun c S x => f_law_b1861 c r1 r2 r3 L sc S x)) (h36 : stepOK Inv L (fun c S x => f_law_b1917 c r1 r2 r3 L sc S x)) (h37 : stepOK Inv L (fun c S x => f_law_b1985 c r1 r2 r3 L sc S x)) (h38 : stepOK Inv L (fun c S x => f_law_b2041 c r1 r2 r3 L sc S x)) (h39 : stepOK Inv L (fun c S x => f_law_b2097 c r1 r2 r3 L sc S x)) (h40 : stepOK Inv L (fun c S x => f_law_b2153 c r1 r2 r3 L sc S x)) (h41 : stepOK Inv L (fun c S x => f_law_b2209 c r1 r2 r3 L sc S x)) (h42 : stepOK Inv L (fun c S x => f_law_b2265 c r1 r2 r3 L sc S x)) (h43 : stepOK Inv L (fun c S x => f_law_b2321 c r1 r2 r3 L sc S x)) (h44 : stepOK Inv L (fun c S x => f_law_b2401 c r1 r2 r3 L sc S x)) (h45 : stepOK Inv L (fun c S x => f_law_b2457 c r1 r2 r3 L sc S x)) (h46 : stepOK Inv L (fun c S x => f_law_b2482 c r1 r2 r3 L sc S x)) (h47 : stepOK Inv L (fun c S x => f_law_b2495 c r1 r2 r3 L sc S x)) : ∀ (fuel : Nat) (S : xSt) (m : Nat), Inv m S → 6 * m ≤ L → L < 6 * m + 6 * fuel → ∃ T, f_law_b23 r1 r2 r3 L sc fuel S (6 * (m : Int)) = some T := by
  intro fuel
  induction fuel with
  | zero =>
    intro S m hI hm hf
    exact absurd hf (by omega)
  | succ fuel ih =>
    intro S m hI hm hf
    have hw : wr (6 * (m : Int)) = 6 * (m : Int) := wr_id (by omega)
    have hw2 : wr ((L : Int) - 6) = (L : Int) - 6 := wr_id (by omega)
    have hrec : 6 * m + 6 ≤ L → ∀ S', Inv (m + 1) S' → ∃ T, f_law_b23 r1 r2 r3 L sc fuel S' (6 * (m : Int) + 6) = some T := by
      intro hx S' h'
      have h9 := ih S' (m + 1) h' (by omega) (by omega)
      rw [show 6 * ((m + 1 : Nat) : Int) = 6 * (m : Int) + 6 by omega] at h9
      exact h9
    unfold f_law_b23
    by_cases hs : wr ((L : Int) - 6) < wr (6 * (m : Int))
    · rw [if_pos hs]
      exact ⟨_, rfl⟩
    rw [if_neg hs]
    have hx : 6 * m + 6 ≤ L := by
      rw [hw, hw2] at hs
      omega
    have hgo := hrec hx
    unfold ckI
    rw [if_pos (show 0 ≤ wr (6 * (m : Int)) ∧ wr (6 * (m : Int)) < (L : Int) by rw [hw]; omega)]
    by_cases c : wr (iA (sc (wr (6 * (m : Int))).toNat) 63) < 0 ∨ 47 < wr (iA (sc (wr (6 * (m : Int))).toNat) 63)
    · rw [if_pos c]
      exact hgo S (hmono m S (by omega) hI)
    rw [if_neg c]
    by_cases c0 : wr (iA (sc (wr (6 * (m : Int))).toNat) 63) = 0
    · rw [if_pos c0]
      exact h0 _ S m hI hx hgo
    rw [if_neg c0]
    by_cases c1 : wr (iA (sc (wr (6 * (m : Int))).toNat) 63) = 1
    · rw [if_pos c1]
      exact h1 _ S m hI hx hgo
    rw [if_neg c1]
    by_cases c2 : wr (iA (sc (wr (6 * (m : Int))).toNat) 63) = 2
    · rw [if_pos c2]
      exact h2 _ S m hI hx hgo
    rw [if_neg c2]
    by_cases c3 : wr (iA (sc (wr (6 * (m : Int))).toNat) 63) = 3
    · rw [if_pos c3]
      exact h3 _ S m hI hx hgo
    rw [if_neg c3]
    by_cases c4 : wr (iA (sc (wr (6 * (m : Int))).toNat) 63) = 4
    · rw [if_pos c4]
      exact h4 _ S m hI hx hgo
    rw [if_neg c4]
    by_cases c5 : wr (iA (sc (wr (6 * (m : Int))).toNat) 63) = 5
    · rw [if_pos c5]
      exact h5 _ S m hI hx hgo
    rw [if_neg c5]
    by_cases c6 : wr (iA (sc (wr (6 * (m : Int))).toNat) 63) = 6
    · rw [if_pos c6]
      exact h6 _ S m hI hx hgo
    rw [if_neg c6]
    by_cases c7 : wr (iA (sc (wr (6 * (m : Int))).toNat) 63) = 7
    · rw [if_pos c7]
      exact h7 _ S m hI hx hgo
    rw [if_neg c7]
    by_cases c8 : wr (iA (sc (wr (6 * (m : Int))).toNat) 63) = 8
    · rw [if_pos c8]
      exact h8 _ S m hI hx hgo
    rw [if_neg c8]
    by_cases c9 : wr (iA (sc (wr (6 * (m : Int))).toNat) 63) = 9
    · rw [if_pos c9]
      exact h9 _ S m hI hx hgo
    rw [if_neg c9]
    by_cases c10 : wr (iA (sc (wr (6 * (m : Int))).toNat) 63) = 10
    · rw [if_pos c10]
      exact h10 _ S m hI hx hgo
    rw [if_neg c10]
    by_cases c11 : wr (iA (sc (wr (6 * (m : Int))).toNat) 63) = 11
    · rw [if_pos c11]
      exact h11 _ S m hI hx hgo
    rw [if_neg c11]
    by_cases c12 : wr (iA (sc (wr (6 * (m : Int))).toNat) 63) = 12
    · rw [if_pos c12]
      exact h12 _ S m hI hx hgo
    rw [if_neg c12]
    by_cases c13 : wr (iA (sc (wr (6 * (m : Int))).toNat) 63) = 13
    · rw [if_pos c13]
      exact h13 _ S m hI hx hgo
    rw [if_neg c13]
    by_cases c14 : wr (iA (sc (wr (6 * (m : Int))).toNat) 63) = 14
    · rw [if_pos c14]
      exact h14 _ S m hI hx hgo
    rw [if_neg c14]
    by_cases c15 : wr (iA (sc (wr (6 * (m : Int))).toNat) 63) = 15
    · rw [if_pos c15]
      exact h15 _ S m hI hx hgo
    rw [if_neg c15]
    by_cases c16 : wr (iA (sc (wr (6 * (m : Int))).toNat) 63) = 16
    · rw [if_pos c16]
      exact h16 _ S m hI hx hgo
    rw [if_neg c16]
    by_cases c17 : wr (iA (sc (wr (6 * (m : Int))).toNat) 63) = 17
    · rw [if_pos c17]
      exact h17 _ S m hI hx hgo
    rw [if_neg c17]
    by_cases c18 : wr (iA (sc (wr (6 * (m : Int))).toNat) 63) = 18
    · rw [if_pos c18]
      exact h18 _ S m hI hx hgo
    rw [if_neg c18]
    by_cases c19 : wr (iA (sc (wr (6 * (m : Int))).toNat) 63) = 19
    · rw [if_pos c19]
      exact h19 _ S m hI hx hgo
    rw [if_neg c19]
    by_cases c20 : wr (iA (sc (wr (6 * (m : Int))).toNat) 63) = 20
    · rw [if_pos c20]
      exact h20 _ S m hI hx hgo
    rw [if_neg c20]
    by_cases c21 : wr (iA (sc (wr (6 * (m : Int))).toNat) 63) = 21
    · rw [if_pos c21]
      exact h21 _ S m hI hx hgo
    rw [if_neg c21]
    by_cases c22 : wr (iA (sc (wr (6 * (m : Int))).toNat) 63) = 22
    · rw [if_pos c22]
      exact h22 _ S m hI hx hgo
    rw [if_neg c22]
    by_cases c23 : wr (iA (sc (wr (6 * (m : Int))).toNat) 63) = 23
    · rw [if_pos c23]
      exact h23 _ S m hI hx hgo
    rw [if_neg c23]
    by_cases c24 : wr (iA (sc (wr (6 * (m : Int))).toNat) 63) = 24
    · rw [if_pos c24]
      exact h24 _ S m hI hx hgo
    rw [if_neg c24]
    by_cases c25 : wr (iA (sc (wr (6 * (m : Int))).toNat) 63) = 25
    · rw [if_pos c25]
      exact h25 _ S m hI hx hgo
    rw [if_neg c25]
    by_cases c26 : wr (iA (sc (wr (6 * (m : Int))).toNat) 63) = 26
    · rw [if_pos c26]
      exact h26 _ S m hI hx hgo
    rw [if_neg c26]
    by_cases c27 : wr (iA (sc (wr (6 * (m : Int))).toNat) 63) = 27
    · rw [if_pos c27]
      exact h27 _ S m hI hx hgo
    rw [if_neg c27]
    by_cases c28 : wr (iA (sc (wr (6 * (m : Int))).toNat) 63) = 28
    · rw [if_pos c28]
      exact h28 _ S m hI hx hgo
    rw [if_neg c28]
    by_cases c29 : wr (iA (sc (wr (6 * (m : Int))).toNat) 63) = 29
    · rw [if_pos c29]
      exact h29 _ S m hI hx hgo
    rw [if_neg c29]
    by_cases c30 : wr (iA (sc (wr (6 * (m : Int))).toNat) 63) = 30
    · rw [if_pos c30]
      exact h30 _ S m hI hx hgo
    rw [if_neg c30]
    by_cases c31 : wr (iA (sc (wr (6 * (m : Int))).toNat) 63) = 31
    · rw [if_pos c31]
      exact h31 _ S m hI hx hgo
    rw [if_neg c31]
    by_cases c32 : wr (iA (sc (wr (6 * (m : Int))).toNat) 63) = 32
    · rw [if_pos c32]
      exact h32 _ S m hI hx hgo
    rw [if_neg c32]
    by_cases c33 : wr (iA (sc (wr (6 * (m : Int))).toNat) 63) = 33
    · rw [if_pos c33]
      exact h33 _ S m hI hx hgo
    rw [if_neg c33]
    by_cases c34 : wr (iA (sc (wr (6 * (m : Int))).toNat) 63) = 34
    · rw [if_pos c34]
      exact h34 _ S m hI hx hgo
    rw [if_neg c34]
    by_cases c35 : wr (iA (sc (wr (6 * (m : Int))).toNat) 63) = 35
    · rw [if_pos c35]
      exact h35 _ S m hI hx hgo
    rw [if_neg c35]
    by_cases c36 : wr (iA (sc (wr (6 * (m : Int))).toNat) 63) = 36
    · rw [if_pos c36]
      exact h36 _ S m hI hx hgo
    rw [if_neg c36]
    by_cases c37 : wr (iA (sc (wr (6 * (m : Int))).toNat) 63) = 37
    · rw [if_pos c37]
      exact h37 _ S m hI hx hgo
    rw [if_neg c37]
    by_cases c38 : wr (iA (sc (wr (6 * (m : Int))).toNat) 63) = 38
    · rw [if_pos c38]
      exact h38 _ S m hI hx hgo
    rw [if_neg c38]
    by_cases c39 : wr (iA (sc (wr (6 * (m : Int))).toNat) 63) = 39
    · rw [if_pos c39]
      exact h39 _ S m hI hx hgo
    rw [if_neg c39]
    by_cases c40 : wr (iA (sc (wr (6 * (m : Int))).toNat) 63) = 40
    · rw [if_pos c40]
      exact h40 _ S m hI hx hgo
    rw [if_neg c40]
    by_cases c41 : wr (iA (sc (wr (6 * (m : Int))).toNat) 63) = 41
    · rw [if_pos c41]
      exact h41 _ S m hI hx hgo
    rw [if_neg c41]
    by_cases c42 : wr (iA (sc (wr (6 * (m : Int))).toNat) 63) = 42
    · rw [if_pos c42]
      exact h42 _ S m hI hx hgo
    rw [if_neg c42]
    by_cases c43 : wr (iA (sc (wr (6 * (m : Int))).toNat) 63) = 43
    · rw [if_pos c43]
      exact h43 _ S m hI hx hgo
    rw [if_neg c43]
    by_cases c44 : wr (iA (sc (wr (6 * (m : Int))).toNat) 63) = 44
    · rw [if_pos c44]
      exact h44 _ S m hI hx hgo
    rw [if_neg c44]
    by_cases c45 : wr (iA (sc (wr (6 * (m : Int))).toNat) 63) = 45
    · rw [if_pos c45]
      exact h45 _ S m hI hx hgo
    rw [if_neg c45]
    by_cases c46 : wr (iA (sc (wr (6 * (m : Int))).toNat) 63) = 46
    · rw [if_pos c46]
      exact h46 _ S m hI hx hgo
    rw [if_neg c46]
    by_cases c47 : wr (iA (sc (wr (6 * (m : Int))).toNat) 63) = 47
    · rw [if_pos c47]
      exact h47 _ S m hI hx hgo
    rw [if_neg c47]
    omega
