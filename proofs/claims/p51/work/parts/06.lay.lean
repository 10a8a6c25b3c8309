def xl1 : List xK := [.inl (2, [.inr none, .inr (some (0, 1)), .inr (some (0, 2)), .inr (some (0, 5)), .inr (some (0, 8)), .inr (some (0, 9)), .inr (some (0, 11)), .inr (some (0, 14)), .inr (some (0, 19)), .inl .int, .inl .int, .inl .boolean, .inl .int, .inl .boolean, .inl .int, .inl .int, .inl .int, .inl .int]), .inr (.inl (.int, 6)), .inl (10, [.inr (some (0, 3)), .inr (some (0, 4)), .inl .int]), .inr (.inl (.int, 7)), .inr (.inl (.int, 7)), .inl (8, [.inr (some (0, 6)), .inr (some (0, 7)), .inl .int]), .inr (.inl (.int, 20)), .inr (.inl (.boolean, 20)), .inl (9, [.inl .boolean, .inl .int, .inl .int, .inl .int, .inl .int]), .inl (12, [.inr (some (0, 10))]), .inr (.inl (.int, 60)), .inl (6, [.inr (some (0, 12)), .inl .int]), .inl (12, [.inr (some (0, 13))]), .inr (.inl (.int, 60)), .inl (11, [.inr (some (0, 15)), .inr (some (0, 16)), .inr (some (0, 17)), .inr (some (0, 18)), .inl .int]), .inr (.inl (.int, 9)), .inr (.inl (.int, 9)), .inr (.inl (.int, 60)), .inr (.inl (.int, 100)), .inr (.inl (.boolean, 60))]
def xl2 : List xK := [.inl (7, [.inr (some (0, 1)), .inr (some (0, 2)), .inr (some (0, 5)), .inr (some (0, 6)), .inr (some (0, 7)), .inr (some (0, 8)), .inr (some (0, 9)), .inr (some (0, 10)), .inr (some (0, 11)), .inr (some (0, 12)), .inl .int]), .inr (.inl (.int, 6)), .inl (10, [.inr (some (0, 3)), .inr (some (0, 4)), .inl .int]), .inr (.inl (.int, 7)), .inr (.inl (.int, 7)), .inr (.inl (.int, 60)), .inr (.inl (.boolean, 60)), .inr (.inl (.int, 60)), .inr (.inl (.int, 60)), .inr (.inl (.int, 61)), .inr (.inl (.int, 60)), .inr (.inl (.int, 60)), .inr (.inl (.int, 60))]
def xl3 : List xK := [.inl (13, [.inr (some (0, 1)), .inl .int, .inr (some (0, 2)), .inr (some (0, 6)), .inr none, .inr none, .inr (some (1, 0)), .inr (some (2, 0)), .inr (some (3, 0)), .inl .boolean, .inr (some (0, 8)), .inr (some (0, 10))]), .inr (.inl (.byte, 600)), .inl (5, [.inr none, .inl .int, .inr none, .inl .int, .inl .int, .inl .int, .inl .int, .inr (some (0, 3)), .inr (some (0, 4)), .inr (some (0, 5)), .inl .int, .inl .int, .inl .int]), .inr (.inl (.boolean, 6)), .inr (.inl (.int, 2)), .inr (.inl (.int, 2)), .inl (4, [.inr (some (0, 7)), .inl .int]), .inr (.inl (.byte, 32)), .inl (3, [.inr (some (0, 9)), .inl .int, .inl .int]), .inr (.inr ("FusionFront$Front", [(4, 0), (5, 0), (6, 0), (7, 0), (8, 0), (9, 0)])), .inl (6, [.inr (some (0, 11)), .inl .int]), .inl (12, [.inr (some (0, 12))]), .inr (.inl (.int, 60)), .inr (.inl (.byte, 0))]
def xl6 : List xK := [.inr (.inl (.int, 5))]
def lay (k o : Nat) : Option xK := match k with
  | 1 => xl1[o]?
  | 2 => xl2[o]?
  | 3 => xl3[o]?
  | 6 => xl6[o]?
  | k => if 100 ≤ k then (match o with | 0 => some (.inl (0, [.inr (some (0, 1)), .inl .byte, .inl .int, .inl .boolean])) | 1 => some (.inr (.inl (.byte, k - 100))) | _ => none) else none
theorem lyS_0 {n : Nat} : lay (100 + n) 0 = some (.inl (0, [.inr (some (0, 1)), .inl .byte, .inl .int, .inl .boolean])) := by
  unfold lay
  split <;> first | omega | exact (if_pos (by omega)).trans rfl
theorem lyS_1 {n : Nat} : lay (100 + n) 1 = some (.inr (.inl (.byte, n))) := by
  unfold lay
  split <;> first | omega | (refine (if_pos (by omega)).trans ?_; show some (Sum.inr (Sum.inl (FieldType.byte, 100 + n - 100))) = _; rw [Nat.add_sub_cancel_left])
theorem lyS_o {n o : Nat} {k : xK} (h : lay (100 + n) o = some k) : o < 2 := by
  unfold lay at h
  split at h <;> first | omega | (rw [if_pos (by omega)] at h; split at h <;> first | omega | cases h)
theorem l1_0 {E : xE} {r : Nat} (h : xkd E r = 1) : lay (xkd E r) 0 = some (.inl (2, [.inr none, .inr (some (0, 1)), .inr (some (0, 2)), .inr (some (0, 5)), .inr (some (0, 8)), .inr (some (0, 9)), .inr (some (0, 11)), .inr (some (0, 14)), .inr (some (0, 19)), .inl .int, .inl .int, .inl .boolean, .inl .int, .inl .boolean, .inl .int, .inl .int, .inl .int, .inl .int])) := by rw [h]; rfl
theorem l1_1 {E : xE} {r : Nat} (h : xkd E r = 1) : lay (xkd E r) 1 = some (.inr (.inl (.int, 6))) := by rw [h]; rfl
theorem l1_2 {E : xE} {r : Nat} (h : xkd E r = 1) : lay (xkd E r) 2 = some (.inl (10, [.inr (some (0, 3)), .inr (some (0, 4)), .inl .int])) := by rw [h]; rfl
theorem l1_3 {E : xE} {r : Nat} (h : xkd E r = 1) : lay (xkd E r) 3 = some (.inr (.inl (.int, 7))) := by rw [h]; rfl
theorem l1_4 {E : xE} {r : Nat} (h : xkd E r = 1) : lay (xkd E r) 4 = some (.inr (.inl (.int, 7))) := by rw [h]; rfl
theorem l1_5 {E : xE} {r : Nat} (h : xkd E r = 1) : lay (xkd E r) 5 = some (.inl (8, [.inr (some (0, 6)), .inr (some (0, 7)), .inl .int])) := by rw [h]; rfl
theorem l1_6 {E : xE} {r : Nat} (h : xkd E r = 1) : lay (xkd E r) 6 = some (.inr (.inl (.int, 20))) := by rw [h]; rfl
theorem l1_7 {E : xE} {r : Nat} (h : xkd E r = 1) : lay (xkd E r) 7 = some (.inr (.inl (.boolean, 20))) := by rw [h]; rfl
theorem l1_8 {E : xE} {r : Nat} (h : xkd E r = 1) : lay (xkd E r) 8 = some (.inl (9, [.inl .boolean, .inl .int, .inl .int, .inl .int, .inl .int])) := by rw [h]; rfl
theorem l1_9 {E : xE} {r : Nat} (h : xkd E r = 1) : lay (xkd E r) 9 = some (.inl (12, [.inr (some (0, 10))])) := by rw [h]; rfl
theorem l1_10 {E : xE} {r : Nat} (h : xkd E r = 1) : lay (xkd E r) 10 = some (.inr (.inl (.int, 60))) := by rw [h]; rfl
theorem l1_11 {E : xE} {r : Nat} (h : xkd E r = 1) : lay (xkd E r) 11 = some (.inl (6, [.inr (some (0, 12)), .inl .int])) := by rw [h]; rfl
theorem l1_12 {E : xE} {r : Nat} (h : xkd E r = 1) : lay (xkd E r) 12 = some (.inl (12, [.inr (some (0, 13))])) := by rw [h]; rfl
theorem l1_13 {E : xE} {r : Nat} (h : xkd E r = 1) : lay (xkd E r) 13 = some (.inr (.inl (.int, 60))) := by rw [h]; rfl
theorem l1_14 {E : xE} {r : Nat} (h : xkd E r = 1) : lay (xkd E r) 14 = some (.inl (11, [.inr (some (0, 15)), .inr (some (0, 16)), .inr (some (0, 17)), .inr (some (0, 18)), .inl .int])) := by rw [h]; rfl
theorem l1_15 {E : xE} {r : Nat} (h : xkd E r = 1) : lay (xkd E r) 15 = some (.inr (.inl (.int, 9))) := by rw [h]; rfl
theorem l1_16 {E : xE} {r : Nat} (h : xkd E r = 1) : lay (xkd E r) 16 = some (.inr (.inl (.int, 9))) := by rw [h]; rfl
theorem l1_17 {E : xE} {r : Nat} (h : xkd E r = 1) : lay (xkd E r) 17 = some (.inr (.inl (.int, 60))) := by rw [h]; rfl
theorem l1_18 {E : xE} {r : Nat} (h : xkd E r = 1) : lay (xkd E r) 18 = some (.inr (.inl (.int, 100))) := by rw [h]; rfl
theorem l1_19 {E : xE} {r : Nat} (h : xkd E r = 1) : lay (xkd E r) 19 = some (.inr (.inl (.boolean, 60))) := by rw [h]; rfl
theorem l2_0 {E : xE} {r : Nat} (h : xkd E r = 2) : lay (xkd E r) 0 = some (.inl (7, [.inr (some (0, 1)), .inr (some (0, 2)), .inr (some (0, 5)), .inr (some (0, 6)), .inr (some (0, 7)), .inr (some (0, 8)), .inr (some (0, 9)), .inr (some (0, 10)), .inr (some (0, 11)), .inr (some (0, 12)), .inl .int])) := by rw [h]; rfl
theorem l2_1 {E : xE} {r : Nat} (h : xkd E r = 2) : lay (xkd E r) 1 = some (.inr (.inl (.int, 6))) := by rw [h]; rfl
theorem l2_2 {E : xE} {r : Nat} (h : xkd E r = 2) : lay (xkd E r) 2 = some (.inl (10, [.inr (some (0, 3)), .inr (some (0, 4)), .inl .int])) := by rw [h]; rfl
theorem l2_3 {E : xE} {r : Nat} (h : xkd E r = 2) : lay (xkd E r) 3 = some (.inr (.inl (.int, 7))) := by rw [h]; rfl
theorem l2_4 {E : xE} {r : Nat} (h : xkd E r = 2) : lay (xkd E r) 4 = some (.inr (.inl (.int, 7))) := by rw [h]; rfl
theorem l2_5 {E : xE} {r : Nat} (h : xkd E r = 2) : lay (xkd E r) 5 = some (.inr (.inl (.int, 60))) := by rw [h]; rfl
theorem l2_6 {E : xE} {r : Nat} (h : xkd E r = 2) : lay (xkd E r) 6 = some (.inr (.inl (.boolean, 60))) := by rw [h]; rfl
theorem l2_7 {E : xE} {r : Nat} (h : xkd E r = 2) : lay (xkd E r) 7 = some (.inr (.inl (.int, 60))) := by rw [h]; rfl
theorem l2_8 {E : xE} {r : Nat} (h : xkd E r = 2) : lay (xkd E r) 8 = some (.inr (.inl (.int, 60))) := by rw [h]; rfl
theorem l2_9 {E : xE} {r : Nat} (h : xkd E r = 2) : lay (xkd E r) 9 = some (.inr (.inl (.int, 61))) := by rw [h]; rfl
theorem l2_10 {E : xE} {r : Nat} (h : xkd E r = 2) : lay (xkd E r) 10 = some (.inr (.inl (.int, 60))) := by rw [h]; rfl
theorem l2_11 {E : xE} {r : Nat} (h : xkd E r = 2) : lay (xkd E r) 11 = some (.inr (.inl (.int, 60))) := by rw [h]; rfl
theorem l2_12 {E : xE} {r : Nat} (h : xkd E r = 2) : lay (xkd E r) 12 = some (.inr (.inl (.int, 60))) := by rw [h]; rfl
theorem l3_0 {E : xE} {r : Nat} (h : xkd E r = 3) : lay (xkd E r) 0 = some (.inl (13, [.inr (some (0, 1)), .inl .int, .inr (some (0, 2)), .inr (some (0, 6)), .inr none, .inr none, .inr (some (1, 0)), .inr (some (2, 0)), .inr (some (3, 0)), .inl .boolean, .inr (some (0, 8)), .inr (some (0, 10))])) := by rw [h]; rfl
theorem l3_1 {E : xE} {r : Nat} (h : xkd E r = 3) : lay (xkd E r) 1 = some (.inr (.inl (.byte, 600))) := by rw [h]; rfl
theorem l3_2 {E : xE} {r : Nat} (h : xkd E r = 3) : lay (xkd E r) 2 = some (.inl (5, [.inr none, .inl .int, .inr none, .inl .int, .inl .int, .inl .int, .inl .int, .inr (some (0, 3)), .inr (some (0, 4)), .inr (some (0, 5)), .inl .int, .inl .int, .inl .int])) := by rw [h]; rfl
theorem l3_3 {E : xE} {r : Nat} (h : xkd E r = 3) : lay (xkd E r) 3 = some (.inr (.inl (.boolean, 6))) := by rw [h]; rfl
theorem l3_4 {E : xE} {r : Nat} (h : xkd E r = 3) : lay (xkd E r) 4 = some (.inr (.inl (.int, 2))) := by rw [h]; rfl
theorem l3_5 {E : xE} {r : Nat} (h : xkd E r = 3) : lay (xkd E r) 5 = some (.inr (.inl (.int, 2))) := by rw [h]; rfl
theorem l3_6 {E : xE} {r : Nat} (h : xkd E r = 3) : lay (xkd E r) 6 = some (.inl (4, [.inr (some (0, 7)), .inl .int])) := by rw [h]; rfl
theorem l3_7 {E : xE} {r : Nat} (h : xkd E r = 3) : lay (xkd E r) 7 = some (.inr (.inl (.byte, 32))) := by rw [h]; rfl
theorem l3_8 {E : xE} {r : Nat} (h : xkd E r = 3) : lay (xkd E r) 8 = some (.inl (3, [.inr (some (0, 9)), .inl .int, .inl .int])) := by rw [h]; rfl
theorem l3_9 {E : xE} {r : Nat} (h : xkd E r = 3) : lay (xkd E r) 9 = some (.inr (.inr ("FusionFront$Front", [(4, 0), (5, 0), (6, 0), (7, 0), (8, 0), (9, 0)]))) := by rw [h]; rfl
theorem l3_10 {E : xE} {r : Nat} (h : xkd E r = 3) : lay (xkd E r) 10 = some (.inl (6, [.inr (some (0, 11)), .inl .int])) := by rw [h]; rfl
theorem l3_11 {E : xE} {r : Nat} (h : xkd E r = 3) : lay (xkd E r) 11 = some (.inl (12, [.inr (some (0, 12))])) := by rw [h]; rfl
theorem l3_12 {E : xE} {r : Nat} (h : xkd E r = 3) : lay (xkd E r) 12 = some (.inr (.inl (.int, 60))) := by rw [h]; rfl
theorem l3_13 {E : xE} {r : Nat} (h : xkd E r = 3) : lay (xkd E r) 13 = some (.inr (.inl (.byte, 0))) := by rw [h]; rfl
theorem l6_0 {E : xE} {r : Nat} (h : xkd E r = 6) : lay (xkd E r) 0 = some (.inr (.inl (.int, 5))) := by rw [h]; rfl
def isX8 (E : xE) (r o : Nat) : Prop := lay (xkd E r) o = some (.inl (10, [.inr (some (0, o + 1)), .inr (some (0, o + 2)), .inl .int])) ∧ lay (xkd E r) (o + 1) = some (.inr (.inl (.int, 7))) ∧ lay (xkd E r) (o + 2) = some (.inr (.inl (.int, 7)))
def isX10 (E : xE) (r o : Nat) : Prop := lay (xkd E r) o = some (.inl (12, [.inr (some (0, o + 1))])) ∧ lay (xkd E r) (o + 1) = some (.inr (.inl (.int, 60)))
def isX4 (E : xE) (r o : Nat) : Prop := lay (xkd E r) o = some (.inl (6, [.inr (some (0, o + 1)), .inl .int])) ∧ isX10 E r (o + 1)
theorem isX8_1_2 {E : xE} {r : Nat} (h : xkd E r = 1) : isX8 E r 2 := by unfold isX8; rw [h]; refine ⟨rfl, rfl, rfl⟩
theorem isX8_2_2 {E : xE} {r : Nat} (h : xkd E r = 2) : isX8 E r 2 := by unfold isX8; rw [h]; refine ⟨rfl, rfl, rfl⟩
theorem isX10_1_9 {E : xE} {r : Nat} (h : xkd E r = 1) : isX10 E r 9 := by unfold isX10; rw [h]; refine ⟨rfl, rfl⟩
theorem isX10_1_12 {E : xE} {r : Nat} (h : xkd E r = 1) : isX10 E r 12 := by unfold isX10; rw [h]; refine ⟨rfl, rfl⟩
theorem isX10_3_11 {E : xE} {r : Nat} (h : xkd E r = 3) : isX10 E r 11 := by unfold isX10; rw [h]; refine ⟨rfl, rfl⟩
theorem isX4_1_11 {E : xE} {r : Nat} (h : xkd E r = 1) : isX4 E r 11 := by unfold isX4 isX10; rw [h]; refine ⟨rfl, ⟨rfl, rfl⟩⟩
theorem isX4_3_10 {E : xE} {r : Nat} (h : xkd E r = 3) : isX4 E r 10 := by unfold isX4 isX10; rw [h]; refine ⟨rfl, ⟨rfl, rfl⟩⟩
def xsts : List (String × String × List Int32) := [("FusionFront", "GREATEST", [6, 32, 20, 40, 8, 30]), ("FusionFront", "KIND_OPS", [1, 1, 1, 1, 2, 1, 1, 4, 1, 1]), ("FusionFront", "LEAST", [1, 8, 2, 4, 1, 0]), ("FusionFront", "LENGTHS", [1, 2, 3, 4, 4, 3, 2, 3, 2, 2]), ("FusionFront", "USUAL", [4, 16, 8, 16, 4, 0])]
def xtx0 : List Int32 := [110, 111, 32, 115, 117, 99, 104, 32, 99, 97, 117, 115, 101]
def xtx1 : List Int32 := [99, 121, 99, 108, 101, 115, 32, 111, 117, 116, 32, 111, 102, 32, 114, 97, 110, 103, 101]
def xtx2 : List Int32 := [109, 97, 110, 121, 32, 111, 117, 116, 32, 111, 102, 32, 114, 97, 110, 103, 101]
def xtx3 : List Int32 := [110, 111, 116, 104, 105, 110, 103, 32, 99, 97, 110, 32, 98, 101, 32, 117, 110, 100, 111, 110, 101]
def xtx4 : List Int32 := [109, 111, 114, 101, 32, 111, 117, 116, 32, 111, 102, 32, 114, 97, 110, 103, 101]
def xtx5 : List Int32 := [110, 111, 32, 115, 116, 97, 116, 101, 32, 105, 115, 32, 115, 97, 118, 101, 100]
def xtx6 : List Int32 := [114, 101, 112, 101, 97, 116]
def xtx7 : List Int32 := [102, 117, 115, 101]
def xtx8 : List Int32 := [110, 111, 112]
def xtx9 : List Int32 := [97, 100, 100]
def xtx10 : List Int32 := [109, 111, 118]
def xtx11 : List Int32 := [108, 111, 97, 100]
def xtx12 : List Int32 := [115, 116, 111, 114, 101]
def xtx13 : List Int32 := [99, 109, 112]
def xtx14 : List Int32 := [116, 101, 115, 116]
def xtx15 : List Int32 := [100, 105, 118]
def xtx16 : List Int32 := [106, 117, 109, 112]
def xtx17 : List Int32 := [98, 114, 97, 110, 99, 104]
def xtx18 : List Int32 := [108, 97, 110, 101, 115]
def xtx19 : List Int32 := [119, 105, 110, 100, 111, 119]
def xtx20 : List Int32 := [113, 117, 101, 117, 101]
def xtx21 : List Int32 := [111, 112, 115]
def xtx22 : List Int32 := [114, 97, 116, 101]
def xtx23 : List Int32 := [108, 111, 111, 112]
def xtx24 : List Int32 := [108, 111, 110, 103]
def xtx25 : List Int32 := [98, 97, 99, 107]
def xtx26 : List Int32 := [97, 104, 101, 97, 100]
def xtx27 : List Int32 := [116, 105, 109, 101, 115]
def xtx28 : List Int32 := [108, 97, 110, 101, 115, 32]
def xtx29 : List Int32 := [59, 119, 105, 110, 100, 111, 119, 32]
def xtx30 : List Int32 := [59, 113, 117, 101, 117, 101, 32]
def xtx31 : List Int32 := [59, 111, 112, 115, 32]
def xtx32 : List Int32 := [59, 114, 97, 116, 101, 32]
def xtx33 : List Int32 := [59, 108, 111, 111, 112, 32]
def xtx34 : List Int32 := [59, 102, 117, 115, 101, 32, 99, 109, 112, 32, 98, 114, 97, 110, 99, 104, 59, 102, 117, 115, 101, 32]
def xtx35 : List Int32 := [98, 114, 97, 110, 99, 104, 32, 98, 97, 99, 107, 32]
def xtx36 : List Int32 := [32, 116, 105, 109, 101, 115, 32]
def xtx37 : List Int32 := [106, 117, 109, 112, 32, 97, 104, 101, 97, 100, 32]
def xtx38 : List Int32 := [108, 111, 110, 103, 32, 97, 100, 100, 59]
def xtx39 : List Int32 := [110, 111, 32, 115, 101, 116, 116, 105, 110, 103, 32, 116, 104, 97, 116, 32, 99, 97, 110, 32, 98, 101, 32, 115, 101, 116]
def xtx40 : List Int32 := [118, 97, 108, 117, 101, 32, 111, 117, 116, 32, 111, 102, 32, 114, 97, 110, 103, 101]
def xtx41 : List Int32 := [110, 111, 32, 115, 117, 99, 104, 32, 105, 110, 115, 116, 114, 117, 99, 116, 105, 111, 110]
def xtx42 : List Int32 := [110, 111, 32, 115, 117, 99, 104, 32, 112, 114, 111, 112, 101, 114, 116, 121]
def xtx43 : List Int32 := [110, 111, 32, 115, 117, 99, 104, 32, 107, 105, 110, 100]
def xtx44 : List Int32 := [110, 111, 116, 32, 111, 110, 101, 32, 111, 102, 32, 116, 104, 101, 32, 108, 97, 116, 101, 115, 116, 32, 100, 101, 99, 111, 100, 101, 100, 32, 105, 110, 115, 116, 114, 117, 99, 116, 105, 111, 110, 115]
def xtx45 : List Int32 := [105, 110, 100, 101, 120, 32, 111, 117, 116, 32, 111, 102, 32, 114, 97, 110, 103, 101]
def xldc : List (String × Nat × String × List Int32) := [("FusionFront", 247, "no such cause", xtx0), ("FusionFront", 280, "cycles out of range", xtx1), ("FusionFront", 289, "many out of range", xtx2), ("FusionFront", 332, "nothing can be undone", xtx3), ("FusionFront", 337, "more out of range", xtx4), ("FusionFront", 371, "no state is saved", xtx5), ("FusionFront$Parser", 88, "repeat", xtx6), ("FusionFront$Parser", 97, "fuse", xtx7), ("FusionFront", 373, "nop", xtx8), ("FusionFront", 375, "add", xtx9), ("FusionFront", 377, "mov", xtx10), ("FusionFront", 379, "load", xtx11), ("FusionFront", 381, "store", xtx12), ("FusionFront", 383, "cmp", xtx13), ("FusionFront", 385, "test", xtx14), ("FusionFront", 387, "div", xtx15), ("FusionFront", 389, "jump", xtx16), ("FusionFront", 391, "branch", xtx17), ("FusionFront", 393, "lanes", xtx18), ("FusionFront", 395, "window", xtx19), ("FusionFront", 397, "queue", xtx20), ("FusionFront", 398, "ops", xtx21), ("FusionFront", 399, "rate", xtx22), ("FusionFront", 401, "loop", xtx23), ("FusionFront$Parser", 148, "long", xtx24), ("FusionFront$Parser", 159, "back", xtx25), ("FusionFront$Parser", 161, "ahead", xtx26), ("FusionFront$Parser", 163, "times", xtx27), ("FusionFrontLaw", 60, "lanes ", xtx28), ("FusionFrontLaw", 73, ";window ", xtx29), ("FusionFrontLaw", 75, ";queue ", xtx30), ("FusionFrontLaw", 77, ";ops ", xtx31), ("FusionFrontLaw", 79, ";rate ", xtx32), ("FusionFrontLaw", 81, ";loop ", xtx33), ("FusionFrontLaw", 83, ";fuse cmp branch;fuse ", xtx34), ("FusionFrontLaw", 41, "nop", xtx8), ("FusionFrontLaw", 43, "add", xtx9), ("FusionFrontLaw", 45, "mov", xtx10), ("FusionFrontLaw", 47, "load", xtx11), ("FusionFrontLaw", 49, "store", xtx12), ("FusionFrontLaw", 51, "cmp", xtx13), ("FusionFrontLaw", 53, "test", xtx14), ("FusionFrontLaw", 55, "div", xtx15), ("FusionFrontLaw", 92, "branch back ", xtx35), ("FusionFrontLaw", 94, " times ", xtx36), ("FusionFrontLaw", 96, "jump ahead ", xtx37), ("FusionFrontLaw", 98, "long add;", xtx38), ("FusionFront", 294, "no setting that can be set", xtx39), ("FusionFront", 300, "value out of range", xtx40), ("FusionFront", 146, "no such instruction", xtx41), ("FusionFront", 177, "no such property", xtx42), ("FusionFront", 200, "no such kind", xtx43), ("FusionFront", 259, "not one of the latest decoded instructions", xtx44), ("FusionFront", 264, "index out of range", xtx45)]
def xnf : List (String × Nat × String × String × String × String) := [("FusionFront$Program", 50, "FusionFront", "USUAL", "[I", "FusionFront"), ("FusionFront$Program", 77, "FusionFront", "LENGTHS", "[I", "FusionFront"), ("FusionFront$Program", 80, "FusionFront", "KIND_OPS", "[I", "FusionFront")]
def xnm : List (String × Nat × MethodName × String) := [("FusionFront$Program", 17, ⟨"FusionFront$Rules", "<init>", "()V"⟩, "FusionFront"), ("FusionFront", 22, ⟨"FusionFront$Output", "<init>", "()V"⟩, "FusionFront"), ("FusionFront$Front", 17, ⟨"FusionFront$Rules", "<init>", "()V"⟩, "FusionFront"), ("FusionFront$Front", 24, ⟨"FusionFront$Queue", "<init>", "()V"⟩, "FusionFront"), ("FusionFront$Front", 31, ⟨"FusionFront$Replay", "<init>", "()V"⟩, "FusionFront"), ("FusionFront$Front", 38, ⟨"FusionFront$Turns", "<init>", "()V"⟩, "FusionFront"), ("FusionFront$Front", 45, ⟨"FusionFront$PlainDecoder", "<init>", "()V"⟩, "FusionFront"), ("FusionFront$PlainDecoder", 11, ⟨"FusionFront$Turns", "<init>", "()V"⟩, "FusionFront"), ("FusionFront$Front", 52, ⟨"FusionFront$Tally", "<init>", "()V"⟩, "FusionFront"), ("FusionFront", 61, ⟨"FusionFront$PlainDecoder", "<init>", "()V"⟩, "FusionFront"), ("FusionFront$Parser", 173, ⟨"FusionFront", "wordOfKind", "(I)Ljava/lang/String;"⟩, "FusionFront"), ("FusionFront$Parser", 177, ⟨"FusionFront", "wordOfSetting", "(I)Ljava/lang/String;"⟩, "FusionFront"), ("FusionFront$Parser", 125, ⟨"FusionFront", "isAllowed", "(II)Z"⟩, "FusionFront")]
