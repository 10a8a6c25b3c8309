/-- what the law's walk stands on -/
def lwC (K : xCtx) (E : xE) (b0 b1 b L : Nat) (sc : Nat → Int) : Prop := (∀ m, xOK (kc K b0 b1 m) code RL 9 room_1) ∧ (∀ m, xSc (kc K b0 b1 m) E b L sc) ∧ (∀ m, xTr (kc K b0 b1 m)) ∧ (b0 + 513 ≤ 601024 ∧ b1 + 6 * 513 ≤ 7293034) ∧ L ≤ 3072 ∧ ∀ (m : Nat) (pc : Nat) (lv : List (Nat × Value)) (S : xSt), m ≤ 512 → decode code pc = .ok (.ireturn, 1) → WG (kc K b0 b1 m) E pc lv [vi 1] S
theorem lw_m {K : xCtx} {E : xE} {b0 b1 b L m : Nat} {sc : Nat → Int} {z : Int} (h : lwC K E b0 b1 b L sc) (hm : z = 6 * (m : Int)) (hm2 : m ≤ 512) (hc : ¬ wr ((L : Int) - 6) < wr z) : m < 512 := by
  have := h.2.2.2.2.1
  rw [wr_id (by omega), wr_id (by omega)] at hc
  omega
theorem lw_tr {K : xCtx} {E : xE} {b0 b1 b L m : Nat} {sc : Nat → Int} (h : lwC K E b0 b1 b L sc) : xTr (kc K b0 b1 m) := h.2.2.1 m
theorem lw_end {K : xCtx} {E : xE} {b0 b1 b L m : Nat} {sc : Nat → Int} (h : lwC K E b0 b1 b L sc) (hm : m ≤ 512) {pc : Nat} {lv : List (Nat × Value)} {S : xSt} (d : decode code pc = .ok (.ireturn, 1)) : WG (kc K b0 b1 m) E pc lv [vi 1] S := h.2.2.2.2.2 m pc lv S hm d
theorem lw_z0 {K : xCtx} {E : xE} {b0 b1 b L m : Nat} {sc : Nat → Int} (h : lwC K E b0 b1 b L sc) (hm : m ≤ 512) : xZr (kc K b0 b1 m) room_1 0 0 := by
  obtain ⟨p, l, e, R, s, m', args, below, meth, c, nL, cl, sl, Q⟩ := K
  have := h.2.2.2.1
  refine ⟨?_, ?_⟩
  · show b0 + m + 0 ≤ 601024; omega
  · show b1 + 6 * m + 0 ≤ 7293034; omega
theorem lw_z16 {K : xCtx} {E : xE} {b0 b1 b L m : Nat} {sc : Nat → Int} (h : lwC K E b0 b1 b L sc) (hm : m < 512) : xZr (kc K b0 b1 m) room_1 1 6 := by
  obtain ⟨p, l, e, R, s, m', args, below, meth, c, nL, cl, sl, Q⟩ := K
  have := h.2.2.2.1
  refine ⟨?_, ?_⟩
  · show b0 + m + 1 ≤ 601024; omega
  · show b1 + 6 * m + 6 ≤ 7293034; omega
theorem mw_L_instruction : mW yL_instruction cL_instruction 5 [(0, 10, 13, 13)] 4 := ⟨⟨q615, q616, q617⟩, ⟨by decide +kernel, by decide +kernel, by decide +kernel⟩, by decide⟩
theorem mw_L_crosses : mW yL_crosses cL_crosses 4 [(0, 16, 19, 13)] 3 := ⟨⟨q686, q616, q687⟩, ⟨by decide +kernel, by decide +kernel, by decide +kernel⟩, by decide⟩
theorem mw_L_fuses : mW yL_fuses cL_fuses 4 [(0, 16, 19, 13)] 3 := ⟨⟨q713, q616, q714⟩, ⟨by decide +kernel, by decide +kernel, by decide +kernel⟩, by decide⟩
theorem mw_L_isLoopable : mW yL_isLoopable cL_isLoopable 4 [(0, 16, 19, 13)] 3 := ⟨⟨q740, q616, q741⟩, ⟨by decide +kernel, by decide +kernel, by decide +kernel⟩, by decide⟩
theorem mw_L_ofKind : mW yL_ofKind cL_ofKind 5 [(0, 10, 13, 29)] 4 := ⟨⟨q780, q616, q781⟩, ⟨by decide +kernel, by decide +kernel, by decide +kernel⟩, by decide⟩
theorem mw_L_rule : mW yL_rule cL_rule 5 [(0, 10, 13, 13)] 4 := ⟨⟨q795, q616, q796⟩, ⟨by decide +kernel, by decide +kernel, by decide +kernel⟩, by decide⟩
theorem mw_L_queueAt : mW yL_queueAt cL_queueAt 4 [(0, 9, 12, 38)] 3 := ⟨⟨q812, q616, q813⟩, ⟨by decide +kernel, by decide +kernel, by decide +kernel⟩, by decide⟩
theorem mw_L_loop : mW yL_loop cL_loop 4 [(0, 9, 12, 29)] 3 := ⟨⟨q827, q616, q828⟩, ⟨by decide +kernel, by decide +kernel, by decide +kernel⟩, by decide⟩
theorem mw_L_bubbles : mW yL_bubbles cL_bubbles 4 [(0, 9, 12, 29)] 3 := ⟨⟨q858, q616, q859⟩, ⟨by decide +kernel, by decide +kernel, by decide +kernel⟩, by decide⟩
theorem mw_L_decoded : mW yL_decoded cL_decoded 4 [(0, 9, 12, 38)] 3 := ⟨⟨q887, q616, q888⟩, ⟨by decide +kernel, by decide +kernel, by decide +kernel⟩, by decide⟩
theorem mw_L_plain : mW yL_plain cL_plain 4 [(0, 9, 12, 29)] 3 := ⟨⟨q908, q616, q909⟩, ⟨by decide +kernel, by decide +kernel, by decide +kernel⟩, by decide⟩
theorem mw_L_times : mW yL_times cL_times 4 [(0, 9, 12, 13)] 3 := ⟨⟨q953, q616, q954⟩, ⟨by decide +kernel, by decide +kernel, by decide +kernel⟩, by decide⟩
theorem mw_L_run : mW yL_run cL_run 4 [(0, 9, 12, 29)] 3 := ⟨⟨q980, q616, q981⟩, ⟨by decide +kernel, by decide +kernel, by decide +kernel⟩, by decide⟩
theorem mw_L_runTo : mW yL_runTo cL_runTo 4 [(0, 9, 12, 29)] 3 := ⟨⟨q1235, q616, q1236⟩, ⟨by decide +kernel, by decide +kernel, by decide +kernel⟩, by decide⟩
theorem mw_L_stall : mW yL_stall cL_stall 4 [(0, 9, 12, 29)] 3 := ⟨⟨q1251, q616, q1252⟩, ⟨by decide +kernel, by decide +kernel, by decide +kernel⟩, by decide⟩
theorem mw_L_set : mW yL_set cL_set 5 [(0, 10, 13, 29)] 4 := ⟨⟨q1262, q616, q1263⟩, ⟨by decide +kernel, by decide +kernel, by decide +kernel⟩, by decide⟩
theorem mw_L_addRule : mW yL_addRule cL_addRule 5 [(0, 10, 13, 29), (0, 10, 17, 70)] 4 := ⟨⟨q1279, q616, q1280⟩, ⟨by decide +kernel, by decide +kernel, by decide +kernel⟩, by decide⟩
theorem mw_L_removeRule : mW yL_removeRule cL_removeRule 4 [(0, 9, 12, 13)] 3 := ⟨⟨q1309, q616, q1310⟩, ⟨by decide +kernel, by decide +kernel, by decide +kernel⟩, by decide⟩
theorem mw_L_redirect : mW yL_redirect cL_redirect 4 [(0, 9, 12, 13)] 3 := ⟨⟨q1324, q616, q1325⟩, ⟨by decide +kernel, by decide +kernel, by decide +kernel⟩, by decide⟩
theorem mw_L_undo : mW yL_undo cL_undo 3 [(0, 8, 11, 70)] 2 := ⟨⟨q1336, q616, q1337⟩, ⟨by decide +kernel, by decide +kernel, by decide +kernel⟩, by decide⟩
theorem mw_L_cyclesTo : mW yL_cyclesTo cL_cyclesTo 4 [(0, 9, 12, 29)] 3 := ⟨⟨q1351, q616, q1352⟩, ⟨by decide +kernel, by decide +kernel, by decide +kernel⟩, by decide⟩
theorem mw_L_nextBubbles : mW yL_nextBubbles cL_nextBubbles 4 [(0, 9, 12, 29)] 3 := ⟨⟨q1372, q616, q1373⟩, ⟨by decide +kernel, by decide +kernel, by decide +kernel⟩, by decide⟩
theorem mw_L_bubblesIn : mW yL_bubblesIn cL_bubblesIn 5 [(0, 10, 13, 29)] 4 := ⟨⟨q1387, q616, q1388⟩, ⟨by decide +kernel, by decide +kernel, by decide +kernel⟩, by decide⟩
theorem mw_L_roomNeeded : mW yL_roomNeeded cL_roomNeeded 4 [(0, 9, 12, 29)] 3 := ⟨⟨q1398, q616, q1399⟩, ⟨by decide +kernel, by decide +kernel, by decide +kernel⟩, by decide⟩
theorem mw_L_bestLanes : mW yL_bestLanes cL_bestLanes 4 [(0, 9, 12, 29)] 3 := ⟨⟨q1410, q616, q1411⟩, ⟨by decide +kernel, by decide +kernel, by decide +kernel⟩, by decide⟩
theorem mw_L_bestRate : mW yL_bestRate cL_bestRate 4 [(0, 9, 12, 29)] 3 := ⟨⟨q1437, q616, q1438⟩, ⟨by decide +kernel, by decide +kernel, by decide +kernel⟩, by decide⟩
theorem mw_L_bestLoop : mW yL_bestLoop cL_bestLoop 4 [(0, 9, 12, 29)] 3 := ⟨⟨q1448, q616, q1449⟩, ⟨by decide +kernel, by decide +kernel, by decide +kernel⟩, by decide⟩
theorem mw_L_cyclesUntil : mW yL_cyclesUntil cL_cyclesUntil 4 [(0, 9, 12, 13)] 3 := ⟨⟨q1459, q616, q1460⟩, ⟨by decide +kernel, by decide +kernel, by decide +kernel⟩, by decide⟩
theorem mw_L_mainCauseIn : mW yL_mainCauseIn cL_mainCauseIn 4 [(0, 9, 12, 29)] 3 := ⟨⟨q1470, q616, q1471⟩, ⟨by decide +kernel, by decide +kernel, by decide +kernel⟩, by decide⟩
theorem mw_L_ruleGain : mW yL_ruleGain cL_ruleGain 6 [(0, 12, 15, 29)] 5 := ⟨⟨q1481, q616, q1482⟩, ⟨by decide +kernel, by decide +kernel, by decide +kernel⟩, by decide⟩
theorem mw_L_printInstruction : mW yL_printInstruction cL_printInstruction 4 [(0, 9, 12, 13)] 3 := ⟨⟨q1496, q616, q1497⟩, ⟨by decide +kernel, by decide +kernel, by decide +kernel⟩, by decide⟩
theorem mw_L_restoreState : mW yL_restoreState cL_restoreState 3 [(0, 8, 11, 70)] 2 := ⟨⟨q1559, q616, q1560⟩, ⟨by decide +kernel, by decide +kernel, by decide +kernel⟩, by decide⟩
