def f_L_instruction_p3_0_5_0 (S : xSt) (r0 : Nat) (a1 : Int) (a2 : Int) (r3 : Nat) : Option (Int × xSt) :=
  bd2 (f_X11_instruction_p3_0 S r0 a1 a2) fun v1 S2 =>
  ckX v1 (fun v5 =>
    ckR (wr v5) <|
    lt1 (wI S2 r3 0 0 (wr v5)) fun S11 =>
    some (0, S11)) (fun k6 =>
    if k6 = 1 then
      (some (1, S2))
    else none)
set_option maxRecDepth 100000 in
set_option maxHeartbeats 4000000 in
theorem c_L_instruction_p3_0_5_0 (l : Launch) (htr : l.stackTraces = false) {E : xE} {S S' : xSt} {r0 : Nat} {a1 : Int} {a2 : Int} {r3 : Nat} (hk0 : xkd E r0 = 3) (hA0 : xFam E r0) (hk3 : xkd E r3 = 5) {v : Int} (h : f_L_instruction_p3_0_5_0 S r0 a1 a2 r3 = some (v, S')) : Met l yL_instruction (Cond.codeWith yL_instruction cL_instruction 5 (some .int) [(0, 10, 13, 13)] :: xw) (rmE 7 1) (YPc E [vr E r0 0, vi a1, vi a2, vr E r3 0] S) (YQi E v S') 1 6 (xA E) := by
  unfold f_L_instruction_p3_0_5_0 at h
  refine metW htr (by decide +kernel) (Nat.le_of_ble_eq_true rfl) (fun K hC hZ hH hE => ?_)
  have hC : xOK K cL_instruction RL 5 (rmE 7 1) := hC
  show WG K E 0 [(0, vr E r0 0), (1, vi a1), (2, vi a2), (3, vr E r3 0)] [] S
  refine g_aload_n hC rfl 3 rfl (rfl : 0 + 1 = 1) (xdt tt_L_instruction 0 rfl) ?_
  refine g_iconst hC (rfl : 1 + 1 = 2) (xdt tt_L_instruction 1 rfl) ?_
  refine g_aload_n hC rfl 0 rfl (rfl : 2 + 1 = 3) (xdt tt_L_instruction 2 rfl) ?_
  refine g_iload_n hC rfl 1 rfl (rfl : 3 + 1 = 4) (xdt tt_L_instruction 3 rfl) ?_
  refine g_iload_n hC rfl 2 rfl (rfl : 4 + 1 = 5) (xdt tt_L_instruction 4 rfl) ?_
  obtain ⟨v1, S2, hc3, h⟩ := bd2_i h
  refine g_callXi hC hZ hH hk0 kclX11 ly3_0 m_X11_instruction q619 (Nat.le_of_ble_eq_true rfl) [vi a1, vi a2] rfl (fun l htr => c_X11_instruction_p3_0 l htr hk0 hA0 hc3) rfl (Nat.le_of_ble_eq_true rfl) (xdt tt_L_instruction 5 rfl) (fun k6 hx4 => ?_) (fun v5 hx4 => ?_)
  · subst hx4
    replace h := ckX_r.symm.trans h
    by_cases hq9 : k6 = 1
    · replace h := (if_pos hq9).symm.trans h
      subst hq9
      refine ⟨[], _, _, rfl, (fun z hz => nomatch hz), by decide, by decide, q618, cst_1, fun a8 => ?_⟩
      have hC := bump_ok hC
      refine g_astore hC (by decide) (lv' := [(4, .ref a8), (0, vr E r0 0), (1, vi a1), (2, vi a2), (3, vr E r3 0)]) rfl (rfl : 13 + 2 = 15) (xdt tt_L_instruction 9 rfl) ?_
      refine g_iconst hC (rfl : 15 + 1 = 16) (xdt tt_L_instruction 10 rfl) ?_
      cases h
      exact g_iret hC hE (xdt tt_L_instruction 11 rfl)
    · replace h := (if_neg hq9).symm.trans h
      cases h
  · subst hx4
    replace h := ckX_l.symm.trans h
    have hC := bump_ok hC
    refine g_i2l hC (rfl : 8 + 1 = 9) (xdt tt_L_instruction 6 rfl) ?_
    obtain ⟨hr10, h⟩ := ckR_i h
    obtain ⟨S11, hS11, h⟩ := lt1_i h
    refine g_last hC hk3 ly5_0 (by decide) hr10 (by decide) hS11 (rfl : 9 + 1 = 10) (xdt tt_L_instruction 7 rfl) ?_
    refine g_goto hC (show ((10 : Nat) : Int) + 7 = ((17 : Nat) : Int) by decide) (xdt tt_L_instruction 8 rfl) ?_
    refine g_iconst hC (rfl : 17 + 1 = 18) (xdt tt_L_instruction 12 rfl) ?_
    cases h
    exact g_iret hC hE (xdt tt_L_instruction 13 rfl)
def f_L_crosses_p3_0_5_0 (S : xSt) (r0 : Nat) (a1 : Int) (r2 : Nat) : Option (Int × xSt) :=
  bd2 (f_X11_crosses_p3_0 S r0 a1) fun v1 S2 =>
  ckX v1 (fun v5 =>
    if wr v5 = 0 then
      (ckR 0 <|
      lt1 (wI S2 r2 0 0 0) fun S11 =>
      some (0, S11))
    else
      (ckR 1 <|
      lt1 (wI S2 r2 0 0 1) fun S13 =>
      some (0, S13))) (fun k6 =>
    if k6 = 1 then
      (some (1, S2))
    else none)
set_option maxRecDepth 100000 in
set_option maxHeartbeats 4000000 in
theorem c_L_crosses_p3_0_5_0 (l : Launch) (htr : l.stackTraces = false) {E : xE} {S S' : xSt} {r0 : Nat} {a1 : Int} {r2 : Nat} (hk0 : xkd E r0 = 3) (hA0 : xFam E r0) (hk2 : xkd E r2 = 5) {v : Int} (h : f_L_crosses_p3_0_5_0 S r0 a1 r2 = some (v, S')) : Met l yL_crosses (Cond.codeWith yL_crosses cL_crosses 4 (some .int) [(0, 16, 19, 13)] :: xw) (rmE 7 1) (YPc E [vr E r0 0, vi a1, vr E r2 0] S) (YQi E v S') 1 6 (xA E) := by
  unfold f_L_crosses_p3_0_5_0 at h
  refine metW htr (by decide +kernel) (Nat.le_of_ble_eq_true rfl) (fun K hC hZ hH hE => ?_)
  have hC : xOK K cL_crosses RL 4 (rmE 7 1) := hC
  show WG K E 0 [(0, vr E r0 0), (1, vi a1), (2, vr E r2 0)] [] S
  refine g_aload_n hC rfl 2 rfl (rfl : 0 + 1 = 1) (xdt tt_L_crosses 0 rfl) ?_
  refine g_iconst hC (rfl : 1 + 1 = 2) (xdt tt_L_crosses 1 rfl) ?_
  refine g_aload_n hC rfl 0 rfl (rfl : 2 + 1 = 3) (xdt tt_L_crosses 2 rfl) ?_
  refine g_iload_n hC rfl 1 rfl (rfl : 3 + 1 = 4) (xdt tt_L_crosses 3 rfl) ?_
  obtain ⟨v1, S2, hc3, h⟩ := bd2_i h
  refine g_callXz hC hZ hH hk0 kclX11 ly3_0 m_X11_crosses q688 (Nat.le_of_ble_eq_true rfl) [vi a1] rfl (fun l htr => c_X11_crosses_p3_0 l htr hk0 hA0 hc3) rfl (Nat.le_of_ble_eq_true rfl) (xdt tt_L_crosses 4 rfl) (fun k6 hx4 => ?_) (fun v5 hx4 hb7 => ?_)
  · subst hx4
    replace h := ckX_r.symm.trans h
    by_cases hq9 : k6 = 1
    · replace h := (if_pos hq9).symm.trans h
      subst hq9
      refine ⟨[], _, _, rfl, (fun z hz => nomatch hz), by decide, by decide, q618, cst_1, fun a8 => ?_⟩
      have hC := bump_ok hC
      refine g_astore_n hC rfl (by decide) (lv' := [(3, .ref a8), (0, vr E r0 0), (1, vi a1), (2, vr E r2 0)]) rfl (rfl : 19 + 1 = 20) (xdt tt_L_crosses 11 rfl) ?_
      refine g_iconst hC (rfl : 20 + 1 = 21) (xdt tt_L_crosses 12 rfl) ?_
      cases h
      exact g_iret hC hE (xdt tt_L_crosses 13 rfl)
    · replace h := (if_neg hq9).symm.trans h
      cases h
  · subst hx4
    replace h := ckX_l.symm.trans h
    have hC := bump_ok hC
    refine g_if_eq hC (show ((7 : Nat) : Int) + 7 = ((14 : Nat) : Int) by decide) (rfl : 7 + 3 = 10) (xdt tt_L_crosses 5 rfl) (fun hc14 => ?_) (fun hc14 => ?_)
    · replace h := (if_pos hc14).symm.trans h
      refine g_lconst hC (z := 0) (by decide) (rfl : 14 + 1 = 15) (xdt tt_L_crosses 8 rfl) ?_
      obtain ⟨hr10, h⟩ := ckR_i h
      obtain ⟨S11, hS11, h⟩ := lt1_i h
      refine g_last hC hk2 ly5_0 (by decide) hr10 (by decide) hS11 (rfl : 15 + 1 = 16) (xdt tt_L_crosses 9 rfl) ?_
      refine g_goto hC (show ((16 : Nat) : Int) + 6 = ((22 : Nat) : Int) by decide) (xdt tt_L_crosses 10 rfl) ?_
      refine g_iconst hC (rfl : 22 + 1 = 23) (xdt tt_L_crosses 14 rfl) ?_
      cases h
      exact g_iret hC hE (xdt tt_L_crosses 15 rfl)
    · replace h := (if_neg hc14).symm.trans h
      refine g_lconst hC (z := 1) (by decide) (rfl : 10 + 1 = 11) (xdt tt_L_crosses 6 rfl) ?_
      refine g_goto hC (show ((11 : Nat) : Int) + 4 = ((15 : Nat) : Int) by decide) (xdt tt_L_crosses 7 rfl) ?_
      obtain ⟨hr12, h⟩ := ckR_i h
      obtain ⟨S13, hS13, h⟩ := lt1_i h
      refine g_last hC hk2 ly5_0 (by decide) hr12 (by decide) hS13 (rfl : 15 + 1 = 16) (xdt tt_L_crosses 9 rfl) ?_
      refine g_goto hC (show ((16 : Nat) : Int) + 6 = ((22 : Nat) : Int) by decide) (xdt tt_L_crosses 10 rfl) ?_
      refine g_iconst hC (rfl : 22 + 1 = 23) (xdt tt_L_crosses 14 rfl) ?_
      cases h
      exact g_iret hC hE (xdt tt_L_crosses 15 rfl)
def f_L_fuses_p3_0_5_0 (S : xSt) (r0 : Nat) (a1 : Int) (r2 : Nat) : Option (Int × xSt) :=
  bd2 (f_X11_fuses_p3_0 S r0 a1) fun v1 S2 =>
  ckX v1 (fun v5 =>
    if wr v5 = 0 then
      (ckR 0 <|
      lt1 (wI S2 r2 0 0 0) fun S11 =>
      some (0, S11))
    else
      (ckR 1 <|
      lt1 (wI S2 r2 0 0 1) fun S13 =>
      some (0, S13))) (fun k6 =>
    if k6 = 1 then
      (some (1, S2))
    else none)
set_option maxRecDepth 100000 in
set_option maxHeartbeats 4000000 in
theorem c_L_fuses_p3_0_5_0 (l : Launch) (htr : l.stackTraces = false) {E : xE} {S S' : xSt} {r0 : Nat} {a1 : Int} {r2 : Nat} (hk0 : xkd E r0 = 3) (hA0 : xFam E r0) (hk2 : xkd E r2 = 5) {v : Int} (h : f_L_fuses_p3_0_5_0 S r0 a1 r2 = some (v, S')) : Met l yL_fuses (Cond.codeWith yL_fuses cL_fuses 4 (some .int) [(0, 16, 19, 13)] :: xw) (rmE 7 1) (YPc E [vr E r0 0, vi a1, vr E r2 0] S) (YQi E v S') 1 6 (xA E) := by
  unfold f_L_fuses_p3_0_5_0 at h
  refine metW htr (by decide +kernel) (Nat.le_of_ble_eq_true rfl) (fun K hC hZ hH hE => ?_)
  have hC : xOK K cL_fuses RL 4 (rmE 7 1) := hC
  show WG K E 0 [(0, vr E r0 0), (1, vi a1), (2, vr E r2 0)] [] S
  refine g_aload_n hC rfl 2 rfl (rfl : 0 + 1 = 1) (xdt tt_L_fuses 0 rfl) ?_
  refine g_iconst hC (rfl : 1 + 1 = 2) (xdt tt_L_fuses 1 rfl) ?_
  refine g_aload_n hC rfl 0 rfl (rfl : 2 + 1 = 3) (xdt tt_L_fuses 2 rfl) ?_
  refine g_iload_n hC rfl 1 rfl (rfl : 3 + 1 = 4) (xdt tt_L_fuses 3 rfl) ?_
  obtain ⟨v1, S2, hc3, h⟩ := bd2_i h
  refine g_callXz hC hZ hH hk0 kclX11 ly3_0 m_X11_fuses q715 (Nat.le_of_ble_eq_true rfl) [vi a1] rfl (fun l htr => c_X11_fuses_p3_0 l htr hk0 hA0 hc3) rfl (Nat.le_of_ble_eq_true rfl) (xdt tt_L_fuses 4 rfl) (fun k6 hx4 => ?_) (fun v5 hx4 hb7 => ?_)
  · subst hx4
    replace h := ckX_r.symm.trans h
    by_cases hq9 : k6 = 1
    · replace h := (if_pos hq9).symm.trans h
      subst hq9
      refine ⟨[], _, _, rfl, (fun z hz => nomatch hz), by decide, by decide, q618, cst_1, fun a8 => ?_⟩
      have hC := bump_ok hC
      refine g_astore_n hC rfl (by decide) (lv' := [(3, .ref a8), (0, vr E r0 0), (1, vi a1), (2, vr E r2 0)]) rfl (rfl : 19 + 1 = 20) (xdt tt_L_fuses 11 rfl) ?_
      refine g_iconst hC (rfl : 20 + 1 = 21) (xdt tt_L_fuses 12 rfl) ?_
      cases h
      exact g_iret hC hE (xdt tt_L_fuses 13 rfl)
    · replace h := (if_neg hq9).symm.trans h
      cases h
  · subst hx4
    replace h := ckX_l.symm.trans h
    have hC := bump_ok hC
    refine g_if_eq hC (show ((7 : Nat) : Int) + 7 = ((14 : Nat) : Int) by decide) (rfl : 7 + 3 = 10) (xdt tt_L_fuses 5 rfl) (fun hc14 => ?_) (fun hc14 => ?_)
    · replace h := (if_pos hc14).symm.trans h
      refine g_lconst hC (z := 0) (by decide) (rfl : 14 + 1 = 15) (xdt tt_L_fuses 8 rfl) ?_
      obtain ⟨hr10, h⟩ := ckR_i h
      obtain ⟨S11, hS11, h⟩ := lt1_i h
      refine g_last hC hk2 ly5_0 (by decide) hr10 (by decide) hS11 (rfl : 15 + 1 = 16) (xdt tt_L_fuses 9 rfl) ?_
      refine g_goto hC (show ((16 : Nat) : Int) + 6 = ((22 : Nat) : Int) by decide) (xdt tt_L_fuses 10 rfl) ?_
      refine g_iconst hC (rfl : 22 + 1 = 23) (xdt tt_L_fuses 14 rfl) ?_
      cases h
      exact g_iret hC hE (xdt tt_L_fuses 15 rfl)
    · replace h := (if_neg hc14).symm.trans h
      refine g_lconst hC (z := 1) (by decide) (rfl : 10 + 1 = 11) (xdt tt_L_fuses 6 rfl) ?_
      refine g_goto hC (show ((11 : Nat) : Int) + 4 = ((15 : Nat) : Int) by decide) (xdt tt_L_fuses 7 rfl) ?_
      obtain ⟨hr12, h⟩ := ckR_i h
      obtain ⟨S13, hS13, h⟩ := lt1_i h
      refine g_last hC hk2 ly5_0 (by decide) hr12 (by decide) hS13 (rfl : 15 + 1 = 16) (xdt tt_L_fuses 9 rfl) ?_
      refine g_goto hC (show ((16 : Nat) : Int) + 6 = ((22 : Nat) : Int) by decide) (xdt tt_L_fuses 10 rfl) ?_
      refine g_iconst hC (rfl : 22 + 1 = 23) (xdt tt_L_fuses 14 rfl) ?_
      cases h
      exact g_iret hC hE (xdt tt_L_fuses 15 rfl)
def f_L_isLoopable_p3_0_5_0 (S : xSt) (r0 : Nat) (a1 : Int) (r2 : Nat) : Option (Int × xSt) :=
  bd2 (f_X11_isLoopable_p3_0 S r0 a1) fun v1 S2 =>
  ckX v1 (fun v5 =>
    if wr v5 = 0 then
      (ckR 0 <|
      lt1 (wI S2 r2 0 0 0) fun S11 =>
      some (0, S11))
    else
      (ckR 1 <|
      lt1 (wI S2 r2 0 0 1) fun S13 =>
      some (0, S13))) (fun k6 =>
    if k6 = 1 then
      (some (1, S2))
    else none)
set_option maxRecDepth 100000 in
set_option maxHeartbeats 4000000 in
theorem c_L_isLoopable_p3_0_5_0 (l : Launch) (htr : l.stackTraces = false) {E : xE} {S S' : xSt} {r0 : Nat} {a1 : Int} {r2 : Nat} (hk0 : xkd E r0 = 3) (hA0 : xFam E r0) (hk2 : xkd E r2 = 5) {v : Int} (h : f_L_isLoopable_p3_0_5_0 S r0 a1 r2 = some (v, S')) : Met l yL_isLoopable (Cond.codeWith yL_isLoopable cL_isLoopable 4 (some .int) [(0, 16, 19, 13)] :: xw) (rmE 7 1) (YPc E [vr E r0 0, vi a1, vr E r2 0] S) (YQi E v S') 1 6 (xA E) := by
  unfold f_L_isLoopable_p3_0_5_0 at h
  refine metW htr (by decide +kernel) (Nat.le_of_ble_eq_true rfl) (fun K hC hZ hH hE => ?_)
  have hC : xOK K cL_isLoopable RL 4 (rmE 7 1) := hC
  show WG K E 0 [(0, vr E r0 0), (1, vi a1), (2, vr E r2 0)] [] S
  refine g_aload_n hC rfl 2 rfl (rfl : 0 + 1 = 1) (xdt tt_L_isLoopable 0 rfl) ?_
  refine g_iconst hC (rfl : 1 + 1 = 2) (xdt tt_L_isLoopable 1 rfl) ?_
  refine g_aload_n hC rfl 0 rfl (rfl : 2 + 1 = 3) (xdt tt_L_isLoopable 2 rfl) ?_
  refine g_iload_n hC rfl 1 rfl (rfl : 3 + 1 = 4) (xdt tt_L_isLoopable 3 rfl) ?_
  obtain ⟨v1, S2, hc3, h⟩ := bd2_i h
  refine g_callXz hC hZ hH hk0 kclX11 ly3_0 m_X11_isLoopable q742 (Nat.le_of_ble_eq_true rfl) [vi a1] rfl (fun l htr => c_X11_isLoopable_p3_0 l htr hk0 hA0 hc3) rfl (Nat.le_of_ble_eq_true rfl) (xdt tt_L_isLoopable 4 rfl) (fun k6 hx4 => ?_) (fun v5 hx4 hb7 => ?_)
  · subst hx4
    replace h := ckX_r.symm.trans h
    by_cases hq9 : k6 = 1
    · replace h := (if_pos hq9).symm.trans h
      subst hq9
      refine ⟨[], _, _, rfl, (fun z hz => nomatch hz), by decide, by decide, q618, cst_1, fun a8 => ?_⟩
      have hC := bump_ok hC
      refine g_astore_n hC rfl (by decide) (lv' := [(3, .ref a8), (0, vr E r0 0), (1, vi a1), (2, vr E r2 0)]) rfl (rfl : 19 + 1 = 20) (xdt tt_L_isLoopable 11 rfl) ?_
      refine g_iconst hC (rfl : 20 + 1 = 21) (xdt tt_L_isLoopable 12 rfl) ?_
      cases h
      exact g_iret hC hE (xdt tt_L_isLoopable 13 rfl)
    · replace h := (if_neg hq9).symm.trans h
      cases h
  · subst hx4
    replace h := ckX_l.symm.trans h
    have hC := bump_ok hC
    refine g_if_eq hC (show ((7 : Nat) : Int) + 7 = ((14 : Nat) : Int) by decide) (rfl : 7 + 3 = 10) (xdt tt_L_isLoopable 5 rfl) (fun hc14 => ?_) (fun hc14 => ?_)
    · replace h := (if_pos hc14).symm.trans h
      refine g_lconst hC (z := 0) (by decide) (rfl : 14 + 1 = 15) (xdt tt_L_isLoopable 8 rfl) ?_
      obtain ⟨hr10, h⟩ := ckR_i h
      obtain ⟨S11, hS11, h⟩ := lt1_i h
      refine g_last hC hk2 ly5_0 (by decide) hr10 (by decide) hS11 (rfl : 15 + 1 = 16) (xdt tt_L_isLoopable 9 rfl) ?_
      refine g_goto hC (show ((16 : Nat) : Int) + 6 = ((22 : Nat) : Int) by decide) (xdt tt_L_isLoopable 10 rfl) ?_
      refine g_iconst hC (rfl : 22 + 1 = 23) (xdt tt_L_isLoopable 14 rfl) ?_
      cases h
      exact g_iret hC hE (xdt tt_L_isLoopable 15 rfl)
    · replace h := (if_neg hc14).symm.trans h
      refine g_lconst hC (z := 1) (by decide) (rfl : 10 + 1 = 11) (xdt tt_L_isLoopable 6 rfl) ?_
      refine g_goto hC (show ((11 : Nat) : Int) + 4 = ((15 : Nat) : Int) by decide) (xdt tt_L_isLoopable 7 rfl) ?_
      obtain ⟨hr12, h⟩ := ckR_i h
      obtain ⟨S13, hS13, h⟩ := lt1_i h
      refine g_last hC hk2 ly5_0 (by decide) hr12 (by decide) hS13 (rfl : 15 + 1 = 16) (xdt tt_L_isLoopable 9 rfl) ?_
      refine g_goto hC (show ((16 : Nat) : Int) + 6 = ((22 : Nat) : Int) by decide) (xdt tt_L_isLoopable 10 rfl) ?_
      refine g_iconst hC (rfl : 22 + 1 = 23) (xdt tt_L_isLoopable 14 rfl) ?_
      cases h
      exact g_iret hC hE (xdt tt_L_isLoopable 15 rfl)
def f_L_ofKind_p3_0_5_0 (S : xSt) (r0 : Nat) (a1 : Int) (a2 : Int) (r3 : Nat) : Option (Int × xSt) :=
  bd2 (f_X11_ofKind_p3_0 S r0 a1 a2) fun v1 S2 =>
  ckX v1 (fun v5 =>
    ckR (wr v5) <|
    lt1 (wI S2 r3 0 0 (wr v5)) fun S11 =>
    some (0, S11)) (fun k6 =>
    if k6 = 2 then
      (some (1, S2))
    else none)
set_option maxRecDepth 100000 in
set_option maxHeartbeats 4000000 in
theorem c_L_ofKind_p3_0_5_0 (l : Launch) (htr : l.stackTraces = false) {E : xE} {S S' : xSt} {r0 : Nat} {a1 : Int} {a2 : Int} {r3 : Nat} (hk0 : xkd E r0 = 3) (hA0 : xFam E r0) (hk3 : xkd E r3 = 5) {v : Int} (h : f_L_ofKind_p3_0_5_0 S r0 a1 a2 r3 = some (v, S')) : Met l yL_ofKind (Cond.codeWith yL_ofKind cL_ofKind 5 (some .int) [(0, 10, 13, 29)] :: xw) (rmE 7 1) (YPc E [vr E r0 0, vi a1, vi a2, vr E r3 0] S) (YQi E v S') 1 6 (xA E) := by
  unfold f_L_ofKind_p3_0_5_0 at h
  refine metW htr (by decide +kernel) (Nat.le_of_ble_eq_true rfl) (fun K hC hZ hH hE => ?_)
  have hC : xOK K cL_ofKind RL 5 (rmE 7 1) := hC
  show WG K E 0 [(0, vr E r0 0), (1, vi a1), (2, vi a2), (3, vr E r3 0)] [] S
  refine g_aload_n hC rfl 3 rfl (rfl : 0 + 1 = 1) (xdt tt_L_ofKind 0 rfl) ?_
  refine g_iconst hC (rfl : 1 + 1 = 2) (xdt tt_L_ofKind 1 rfl) ?_
  refine g_aload_n hC rfl 0 rfl (rfl : 2 + 1 = 3) (xdt tt_L_ofKind 2 rfl) ?_
  refine g_iload_n hC rfl 1 rfl (rfl : 3 + 1 = 4) (xdt tt_L_ofKind 3 rfl) ?_
  refine g_iload_n hC rfl 2 rfl (rfl : 4 + 1 = 5) (xdt tt_L_ofKind 4 rfl) ?_
  obtain ⟨v1, S2, hc3, h⟩ := bd2_i h
  refine g_callXi hC hZ hH hk0 kclX11 ly3_0 m_X11_ofKind q783 (Nat.le_of_ble_eq_true rfl) [vi a1, vi a2] rfl (fun l htr => c_X11_ofKind_p3_0 l htr hk0 hA0 hc3) rfl (Nat.le_of_ble_eq_true rfl) (xdt tt_L_ofKind 5 rfl) (fun k6 hx4 => ?_) (fun v5 hx4 => ?_)
  · subst hx4
    replace h := ckX_r.symm.trans h
    by_cases hq9 : k6 = 2
    · replace h := (if_pos hq9).symm.trans h
      subst hq9
      refine ⟨[], _, _, rfl, (fun z hz => nomatch hz), by decide, by decide, q782, cst_2, fun a8 => ?_⟩
      have hC := bump_ok hC
      refine g_astore hC (by decide) (lv' := [(4, .ref a8), (0, vr E r0 0), (1, vi a1), (2, vi a2), (3, vr E r3 0)]) rfl (rfl : 13 + 2 = 15) (xdt tt_L_ofKind 9 rfl) ?_
      refine g_iconst hC (rfl : 15 + 1 = 16) (xdt tt_L_ofKind 10 rfl) ?_
      cases h
      exact g_iret hC hE (xdt tt_L_ofKind 11 rfl)
    · replace h := (if_neg hq9).symm.trans h
      cases h
  · subst hx4
    replace h := ckX_l.symm.trans h
    have hC := bump_ok hC
    refine g_i2l hC (rfl : 8 + 1 = 9) (xdt tt_L_ofKind 6 rfl) ?_
    obtain ⟨hr10, h⟩ := ckR_i h
    obtain ⟨S11, hS11, h⟩ := lt1_i h
    refine g_last hC hk3 ly5_0 (by decide) hr10 (by decide) hS11 (rfl : 9 + 1 = 10) (xdt tt_L_ofKind 7 rfl) ?_
    refine g_goto hC (show ((10 : Nat) : Int) + 7 = ((17 : Nat) : Int) by decide) (xdt tt_L_ofKind 8 rfl) ?_
    refine g_iconst hC (rfl : 17 + 1 = 18) (xdt tt_L_ofKind 12 rfl) ?_
    cases h
    exact g_iret hC hE (xdt tt_L_ofKind 13 rfl)
def f_L_rule_p3_0_5_0 (S : xSt) (r0 : Nat) (a1 : Int) (a2 : Int) (r3 : Nat) : Option (Int × xSt) :=
  bd2 (f_X11_rule_p3_0 S r0 a1 a2) fun v1 S2 =>
  ckX v1 (fun v5 =>
    ckR (wr v5) <|
    lt1 (wI S2 r3 0 0 (wr v5)) fun S11 =>
    some (0, S11)) (fun k6 =>
    if k6 = 1 then
      (some (1, S2))
    else none)
set_option maxRecDepth 100000 in
set_option maxHeartbeats 4000000 in
theorem c_L_rule_p3_0_5_0 (l : Launch) (htr : l.stackTraces = false) {E : xE} {S S' : xSt} {r0 : Nat} {a1 : Int} {a2 : Int} {r3 : Nat} (hk0 : xkd E r0 = 3) (hA0 : xFam E r0) (hk3 : xkd E r3 = 5) {v : Int} (h : f_L_rule_p3_0_5_0 S r0 a1 a2 r3 = some (v, S')) : Met l yL_rule (Cond.codeWith yL_rule cL_rule 5 (some .int) [(0, 10, 13, 13)] :: xw) (rmE 7 1) (YPc E [vr E r0 0, vi a1, vi a2, vr E r3 0] S) (YQi E v S') 1 6 (xA E) := by
  unfold f_L_rule_p3_0_5_0 at h
  refine metW htr (by decide +kernel) (Nat.le_of_ble_eq_true rfl) (fun K hC hZ hH hE => ?_)
  have hC : xOK K cL_rule RL 5 (rmE 7 1) := hC
  show WG K E 0 [(0, vr E r0 0), (1, vi a1), (2, vi a2), (3, vr E r3 0)] [] S
  refine g_aload_n hC rfl 3 rfl (rfl : 0 + 1 = 1) (xdt tt_L_rule 0 rfl) ?_
  refine g_iconst hC (rfl : 1 + 1 = 2) (xdt tt_L_rule 1 rfl) ?_
  refine g_aload_n hC rfl 0 rfl (rfl : 2 + 1 = 3) (xdt tt_L_rule 2 rfl) ?_
  refine g_iload_n hC rfl 1 rfl (rfl : 3 + 1 = 4) (xdt tt_L_rule 3 rfl) ?_
  refine g_iload_n hC rfl 2 rfl (rfl : 4 + 1 = 5) (xdt tt_L_rule 4 rfl) ?_
  obtain ⟨v1, S2, hc3, h⟩ := bd2_i h
  refine g_callXi hC hZ hH hk0 kclX11 ly3_0 m_X11_rule q797 (Nat.le_of_ble_eq_true rfl) [vi a1, vi a2] rfl (fun l htr => c_X11_rule_p3_0 l htr hk0 hA0 hc3) rfl (Nat.le_of_ble_eq_true rfl) (xdt tt_L_rule 5 rfl) (fun k6 hx4 => ?_) (fun v5 hx4 => ?_)
  · subst hx4
    replace h := ckX_r.symm.trans h
    by_cases hq9 : k6 = 1
    · replace h := (if_pos hq9).symm.trans h
      subst hq9
      refine ⟨[], _, _, rfl, (fun z hz => nomatch hz), by decide, by decide, q618, cst_1, fun a8 => ?_⟩
      have hC := bump_ok hC
      refine g_astore hC (by decide) (lv' := [(4, .ref a8), (0, vr E r0 0), (1, vi a1), (2, vi a2), (3, vr E r3 0)]) rfl (rfl : 13 + 2 = 15) (xdt tt_L_rule 9 rfl) ?_
      refine g_iconst hC (rfl : 15 + 1 = 16) (xdt tt_L_rule 10 rfl) ?_
      cases h
      exact g_iret hC hE (xdt tt_L_rule 11 rfl)
    · replace h := (if_neg hq9).symm.trans h
      cases h
  · subst hx4
    replace h := ckX_l.symm.trans h
    have hC := bump_ok hC
    refine g_i2l hC (rfl : 8 + 1 = 9) (xdt tt_L_rule 6 rfl) ?_
    obtain ⟨hr10, h⟩ := ckR_i h
    obtain ⟨S11, hS11, h⟩ := lt1_i h
    refine g_last hC hk3 ly5_0 (by decide) hr10 (by decide) hS11 (rfl : 9 + 1 = 10) (xdt tt_L_rule 7 rfl) ?_
    refine g_goto hC (show ((10 : Nat) : Int) + 7 = ((17 : Nat) : Int) by decide) (xdt tt_L_rule 8 rfl) ?_
    refine g_iconst hC (rfl : 17 + 1 = 18) (xdt tt_L_rule 12 rfl) ?_
    cases h
    exact g_iret hC hE (xdt tt_L_rule 13 rfl)
def f_L_queueAt_p3_0_5_0 (S : xSt) (r0 : Nat) (a1 : Int) (r2 : Nat) : Option (Int × xSt) :=
  bd2 (f_X11_queueAt_p3_0 S r0 a1) fun v1 S2 =>
  ckX v1 (fun v5 =>
    ckR (wr v5) <|
    lt1 (wI S2 r2 0 0 (wr v5)) fun S11 =>
    some (0, S11)) (fun k6 =>
    if k6 = 4 then
      (some (1, S2))
    else none)
set_option maxRecDepth 100000 in
set_option maxHeartbeats 4000000 in
theorem c_L_queueAt_p3_0_5_0 (l : Launch) (htr : l.stackTraces = false) {E : xE} {S S' : xSt} {r0 : Nat} {a1 : Int} {r2 : Nat} (hk0 : xkd E r0 = 3) (hA0 : xFam E r0) (hk2 : xkd E r2 = 5) {v : Int} (h : f_L_queueAt_p3_0_5_0 S r0 a1 r2 = some (v, S')) : Met l yL_queueAt (Cond.codeWith yL_queueAt cL_queueAt 4 (some .int) [(0, 9, 12, 38)] :: xw) (rmE 7 1) (YPc E [vr E r0 0, vi a1, vr E r2 0] S) (YQi E v S') 1 6 (xA E) := by
  unfold f_L_queueAt_p3_0_5_0 at h
  refine metW htr (by decide +kernel) (Nat.le_of_ble_eq_true rfl) (fun K hC hZ hH hE => ?_)
  have hC : xOK K cL_queueAt RL 4 (rmE 7 1) := hC
  show WG K E 0 [(0, vr E r0 0), (1, vi a1), (2, vr E r2 0)] [] S
  refine g_aload_n hC rfl 2 rfl (rfl : 0 + 1 = 1) (xdt tt_L_queueAt 0 rfl) ?_
  refine g_iconst hC (rfl : 1 + 1 = 2) (xdt tt_L_queueAt 1 rfl) ?_
  refine g_aload_n hC rfl 0 rfl (rfl : 2 + 1 = 3) (xdt tt_L_queueAt 2 rfl) ?_
  refine g_iload_n hC rfl 1 rfl (rfl : 3 + 1 = 4) (xdt tt_L_queueAt 3 rfl) ?_
  obtain ⟨v1, S2, hc3, h⟩ := bd2_i h
  refine g_callXi hC hZ hH hk0 kclX11 ly3_0 m_X11_queueAt q815 (Nat.le_of_ble_eq_true rfl) [vi a1] rfl (fun l htr => c_X11_queueAt_p3_0 l htr hk0 hA0 hc3) rfl (Nat.le_of_ble_eq_true rfl) (xdt tt_L_queueAt 4 rfl) (fun k6 hx4 => ?_) (fun v5 hx4 => ?_)
  · subst hx4
    replace h := ckX_r.symm.trans h
    by_cases hq9 : k6 = 4
    · replace h := (if_pos hq9).symm.trans h
      subst hq9
      refine ⟨[], _, _, rfl, (fun z hz => nomatch hz), by decide, by decide, q814, cst_4, fun a8 => ?_⟩
      have hC := bump_ok hC
      refine g_astore_n hC rfl (by decide) (lv' := [(3, .ref a8), (0, vr E r0 0), (1, vi a1), (2, vr E r2 0)]) rfl (rfl : 12 + 1 = 13) (xdt tt_L_queueAt 8 rfl) ?_
      refine g_iconst hC (rfl : 13 + 1 = 14) (xdt tt_L_queueAt 9 rfl) ?_
      cases h
      exact g_iret hC hE (xdt tt_L_queueAt 10 rfl)
    · replace h := (if_neg hq9).symm.trans h
      cases h
  · subst hx4
    replace h := ckX_l.symm.trans h
    have hC := bump_ok hC
    refine g_i2l hC (rfl : 7 + 1 = 8) (xdt tt_L_queueAt 5 rfl) ?_
    obtain ⟨hr10, h⟩ := ckR_i h
    obtain ⟨S11, hS11, h⟩ := lt1_i h
    refine g_last hC hk2 ly5_0 (by decide) hr10 (by decide) hS11 (rfl : 8 + 1 = 9) (xdt tt_L_queueAt 6 rfl) ?_
    refine g_goto hC (show ((9 : Nat) : Int) + 6 = ((15 : Nat) : Int) by decide) (xdt tt_L_queueAt 7 rfl) ?_
    refine g_iconst hC (rfl : 15 + 1 = 16) (xdt tt_L_queueAt 11 rfl) ?_
    cases h
    exact g_iret hC hE (xdt tt_L_queueAt 12 rfl)
def f_L_loop_p3_0_5_0 (S : xSt) (r0 : Nat) (a1 : Int) (r2 : Nat) : Option (Int × xSt) :=
  bd2 (f_X11_loop_p3_0 S r0 a1) fun v1 S2 =>
  ckX v1 (fun v5 =>
    ckR (wr v5) <|
    lt1 (wI S2 r2 0 0 (wr v5)) fun S11 =>
    some (0, S11)) (fun k6 =>
    if k6 = 2 then
      (some (1, S2))
    else none)
set_option maxRecDepth 100000 in
set_option maxHeartbeats 4000000 in
theorem c_L_loop_p3_0_5_0 (l : Launch) (htr : l.stackTraces = false) {E : xE} {S S' : xSt} {r0 : Nat} {a1 : Int} {r2 : Nat} (hk0 : xkd E r0 = 3) (hA0 : xFam E r0) (hk2 : xkd E r2 = 5) {v : Int} (h : f_L_loop_p3_0_5_0 S r0 a1 r2 = some (v, S')) : Met l yL_loop (Cond.codeWith yL_loop cL_loop 4 (some .int) [(0, 9, 12, 29)] :: xw) (rmE 7 1) (YPc E [vr E r0 0, vi a1, vr E r2 0] S) (YQi E v S') 1 6 (xA E) := by
  unfold f_L_loop_p3_0_5_0 at h
  refine metW htr (by decide +kernel) (Nat.le_of_ble_eq_true rfl) (fun K hC hZ hH hE => ?_)
  have hC : xOK K cL_loop RL 4 (rmE 7 1) := hC
  show WG K E 0 [(0, vr E r0 0), (1, vi a1), (2, vr E r2 0)] [] S
  refine g_aload_n hC rfl 2 rfl (rfl : 0 + 1 = 1) (xdt tt_L_loop 0 rfl) ?_
  refine g_iconst hC (rfl : 1 + 1 = 2) (xdt tt_L_loop 1 rfl) ?_
  refine g_aload_n hC rfl 0 rfl (rfl : 2 + 1 = 3) (xdt tt_L_loop 2 rfl) ?_
  refine g_iload_n hC rfl 1 rfl (rfl : 3 + 1 = 4) (xdt tt_L_loop 3 rfl) ?_
  obtain ⟨v1, S2, hc3, h⟩ := bd2_i h
  refine g_callXi hC hZ hH hk0 kclX11 ly3_0 m_X11_loop q829 (Nat.le_of_ble_eq_true rfl) [vi a1] rfl (fun l htr => c_X11_loop_p3_0 l htr hk0 hA0 hc3) rfl (Nat.le_of_ble_eq_true rfl) (xdt tt_L_loop 4 rfl) (fun k6 hx4 => ?_) (fun v5 hx4 => ?_)
  · subst hx4
    replace h := ckX_r.symm.trans h
    by_cases hq9 : k6 = 2
    · replace h := (if_pos hq9).symm.trans h
      subst hq9
      refine ⟨[], _, _, rfl, (fun z hz => nomatch hz), by decide, by decide, q782, cst_2, fun a8 => ?_⟩
      have hC := bump_ok hC
      refine g_astore_n hC rfl (by decide) (lv' := [(3, .ref a8), (0, vr E r0 0), (1, vi a1), (2, vr E r2 0)]) rfl (rfl : 12 + 1 = 13) (xdt tt_L_loop 8 rfl) ?_
      refine g_iconst hC (rfl : 13 + 1 = 14) (xdt tt_L_loop 9 rfl) ?_
      cases h
      exact g_iret hC hE (xdt tt_L_loop 10 rfl)
    · replace h := (if_neg hq9).symm.trans h
      cases h
  · subst hx4
    replace h := ckX_l.symm.trans h
    have hC := bump_ok hC
    refine g_i2l hC (rfl : 7 + 1 = 8) (xdt tt_L_loop 5 rfl) ?_
    obtain ⟨hr10, h⟩ := ckR_i h
    obtain ⟨S11, hS11, h⟩ := lt1_i h
    refine g_last hC hk2 ly5_0 (by decide) hr10 (by decide) hS11 (rfl : 8 + 1 = 9) (xdt tt_L_loop 6 rfl) ?_
    refine g_goto hC (show ((9 : Nat) : Int) + 6 = ((15 : Nat) : Int) by decide) (xdt tt_L_loop 7 rfl) ?_
    refine g_iconst hC (rfl : 15 + 1 = 16) (xdt tt_L_loop 11 rfl) ?_
    cases h
    exact g_iret hC hE (xdt tt_L_loop 12 rfl)
def f_L_bubbles_p3_0_5_0 (S : xSt) (r0 : Nat) (a1 : Int) (r2 : Nat) : Option (Int × xSt) :=
  bd2 (f_X11_bubbles_p3_0 S r0 a1) fun v1 S2 =>
  ckX v1 (fun v5 =>
    ckR (wr v5) <|
    lt1 (wI S2 r2 0 0 (wr v5)) fun S11 =>
    some (0, S11)) (fun k6 =>
    if k6 = 2 then
      (some (1, S2))
    else none)
set_option maxRecDepth 100000 in
set_option maxHeartbeats 4000000 in
theorem c_L_bubbles_p3_0_5_0 (l : Launch) (htr : l.stackTraces = false) {E : xE} {S S' : xSt} {r0 : Nat} {a1 : Int} {r2 : Nat} (hk0 : xkd E r0 = 3) (hA0 : xFam E r0) (hk2 : xkd E r2 = 5) {v : Int} (h : f_L_bubbles_p3_0_5_0 S r0 a1 r2 = some (v, S')) : Met l yL_bubbles (Cond.codeWith yL_bubbles cL_bubbles 4 (some .int) [(0, 9, 12, 29)] :: xw) (rmE 7 1) (YPc E [vr E r0 0, vi a1, vr E r2 0] S) (YQi E v S') 1 6 (xA E) := by
  unfold f_L_bubbles_p3_0_5_0 at h
  refine metW htr (by decide +kernel) (Nat.le_of_ble_eq_true rfl) (fun K hC hZ hH hE => ?_)
  have hC : xOK K cL_bubbles RL 4 (rmE 7 1) := hC
  show WG K E 0 [(0, vr E r0 0), (1, vi a1), (2, vr E r2 0)] [] S
  refine g_aload_n hC rfl 2 rfl (rfl : 0 + 1 = 1) (xdt tt_L_bubbles 0 rfl) ?_
  refine g_iconst hC (rfl : 1 + 1 = 2) (xdt tt_L_bubbles 1 rfl) ?_
  refine g_aload_n hC rfl 0 rfl (rfl : 2 + 1 = 3) (xdt tt_L_bubbles 2 rfl) ?_
  refine g_iload_n hC rfl 1 rfl (rfl : 3 + 1 = 4) (xdt tt_L_bubbles 3 rfl) ?_
  obtain ⟨v1, S2, hc3, h⟩ := bd2_i h
  refine g_callXi hC hZ hH hk0 kclX11 ly3_0 m_X11_bubbles q860 (Nat.le_of_ble_eq_true rfl) [vi a1] rfl (fun l htr => c_X11_bubbles_p3_0 l htr hk0 hA0 hc3) rfl (Nat.le_of_ble_eq_true rfl) (xdt tt_L_bubbles 4 rfl) (fun k6 hx4 => ?_) (fun v5 hx4 => ?_)
  · subst hx4
    replace h := ckX_r.symm.trans h
    by_cases hq9 : k6 = 2
    · replace h := (if_pos hq9).symm.trans h
      subst hq9
      refine ⟨[], _, _, rfl, (fun z hz => nomatch hz), by decide, by decide, q782, cst_2, fun a8 => ?_⟩
      have hC := bump_ok hC
      refine g_astore_n hC rfl (by decide) (lv' := [(3, .ref a8), (0, vr E r0 0), (1, vi a1), (2, vr E r2 0)]) rfl (rfl : 12 + 1 = 13) (xdt tt_L_bubbles 8 rfl) ?_
      refine g_iconst hC (rfl : 13 + 1 = 14) (xdt tt_L_bubbles 9 rfl) ?_
      cases h
      exact g_iret hC hE (xdt tt_L_bubbles 10 rfl)
    · replace h := (if_neg hq9).symm.trans h
      cases h
  · subst hx4
    replace h := ckX_l.symm.trans h
    have hC := bump_ok hC
    refine g_i2l hC (rfl : 7 + 1 = 8) (xdt tt_L_bubbles 5 rfl) ?_
    obtain ⟨hr10, h⟩ := ckR_i h
    obtain ⟨S11, hS11, h⟩ := lt1_i h
    refine g_last hC hk2 ly5_0 (by decide) hr10 (by decide) hS11 (rfl : 8 + 1 = 9) (xdt tt_L_bubbles 6 rfl) ?_
    refine g_goto hC (show ((9 : Nat) : Int) + 6 = ((15 : Nat) : Int) by decide) (xdt tt_L_bubbles 7 rfl) ?_
    refine g_iconst hC (rfl : 15 + 1 = 16) (xdt tt_L_bubbles 11 rfl) ?_
    cases h
    exact g_iret hC hE (xdt tt_L_bubbles 12 rfl)
def f_L_decoded_p3_0_5_0 (S : xSt) (r0 : Nat) (a1 : Int) (r2 : Nat) : Option (Int × xSt) :=
  bd2 (f_X11_decoded_p3_0 S r0 a1) fun v1 S2 =>
  ckX v1 (fun v5 =>
    ckR (wr v5) <|
    lt1 (wI S2 r2 0 0 (wr v5)) fun S11 =>
    some (0, S11)) (fun k6 =>
    if k6 = 4 then
      (some (1, S2))
    else none)
set_option maxRecDepth 100000 in
set_option maxHeartbeats 4000000 in
theorem c_L_decoded_p3_0_5_0 (l : Launch) (htr : l.stackTraces = false) {E : xE} {S S' : xSt} {r0 : Nat} {a1 : Int} {r2 : Nat} (hk0 : xkd E r0 = 3) (hA0 : xFam E r0) (hk2 : xkd E r2 = 5) {v : Int} (h : f_L_decoded_p3_0_5_0 S r0 a1 r2 = some (v, S')) : Met l yL_decoded (Cond.codeWith yL_decoded cL_decoded 4 (some .int) [(0, 9, 12, 38)] :: xw) (rmE 7 1) (YPc E [vr E r0 0, vi a1, vr E r2 0] S) (YQi E v S') 1 6 (xA E) := by
  unfold f_L_decoded_p3_0_5_0 at h
  refine metW htr (by decide +kernel) (Nat.le_of_ble_eq_true rfl) (fun K hC hZ hH hE => ?_)
  have hC : xOK K cL_decoded RL 4 (rmE 7 1) := hC
  show WG K E 0 [(0, vr E r0 0), (1, vi a1), (2, vr E r2 0)] [] S
  refine g_aload_n hC rfl 2 rfl (rfl : 0 + 1 = 1) (xdt tt_L_decoded 0 rfl) ?_
  refine g_iconst hC (rfl : 1 + 1 = 2) (xdt tt_L_decoded 1 rfl) ?_
  refine g_aload_n hC rfl 0 rfl (rfl : 2 + 1 = 3) (xdt tt_L_decoded 2 rfl) ?_
  refine g_iload_n hC rfl 1 rfl (rfl : 3 + 1 = 4) (xdt tt_L_decoded 3 rfl) ?_
  obtain ⟨v1, S2, hc3, h⟩ := bd2_i h
  refine g_callXi hC hZ hH hk0 kclX11 ly3_0 m_X11_decoded q889 (Nat.le_of_ble_eq_true rfl) [vi a1] rfl (fun l htr => c_X11_decoded_p3_0 l htr hk0 hA0 hc3) rfl (Nat.le_of_ble_eq_true rfl) (xdt tt_L_decoded 4 rfl) (fun k6 hx4 => ?_) (fun v5 hx4 => ?_)
  · subst hx4
    replace h := ckX_r.symm.trans h
    by_cases hq9 : k6 = 4
    · replace h := (if_pos hq9).symm.trans h
      subst hq9
      refine ⟨[], _, _, rfl, (fun z hz => nomatch hz), by decide, by decide, q814, cst_4, fun a8 => ?_⟩
      have hC := bump_ok hC
      refine g_astore_n hC rfl (by decide) (lv' := [(3, .ref a8), (0, vr E r0 0), (1, vi a1), (2, vr E r2 0)]) rfl (rfl : 12 + 1 = 13) (xdt tt_L_decoded 8 rfl) ?_
      refine g_iconst hC (rfl : 13 + 1 = 14) (xdt tt_L_decoded 9 rfl) ?_
      cases h
      exact g_iret hC hE (xdt tt_L_decoded 10 rfl)
    · replace h := (if_neg hq9).symm.trans h
      cases h
  · subst hx4
    replace h := ckX_l.symm.trans h
    have hC := bump_ok hC
    refine g_i2l hC (rfl : 7 + 1 = 8) (xdt tt_L_decoded 5 rfl) ?_
    obtain ⟨hr10, h⟩ := ckR_i h
    obtain ⟨S11, hS11, h⟩ := lt1_i h
    refine g_last hC hk2 ly5_0 (by decide) hr10 (by decide) hS11 (rfl : 8 + 1 = 9) (xdt tt_L_decoded 6 rfl) ?_
    refine g_goto hC (show ((9 : Nat) : Int) + 6 = ((15 : Nat) : Int) by decide) (xdt tt_L_decoded 7 rfl) ?_
    refine g_iconst hC (rfl : 15 + 1 = 16) (xdt tt_L_decoded 11 rfl) ?_
    cases h
    exact g_iret hC hE (xdt tt_L_decoded 12 rfl)
def f_L_plain_p3_0_5_0 (S : xSt) (r0 : Nat) (a1 : Int) (r2 : Nat) : Option (Int × xSt) :=
  bd2 (f_X11_plain_p3_0 S r0 a1) fun v1 S2 =>
  ckX v1 (fun v5 =>
    ckR (wr v5) <|
    lt1 (wI S2 r2 0 0 (wr v5)) fun S11 =>
    some (0, S11)) (fun k6 =>
    if k6 = 2 then
      (some (1, S2))
    else none)
set_option maxRecDepth 100000 in
set_option maxHeartbeats 4000000 in
theorem c_L_plain_p3_0_5_0 (l : Launch) (htr : l.stackTraces = false) {E : xE} {S S' : xSt} {r0 : Nat} {a1 : Int} {r2 : Nat} (hk0 : xkd E r0 = 3) (hA0 : xFam E r0) (hk2 : xkd E r2 = 5) {v : Int} (h : f_L_plain_p3_0_5_0 S r0 a1 r2 = some (v, S')) : Met l yL_plain (Cond.codeWith yL_plain cL_plain 4 (some .int) [(0, 9, 12, 29)] :: xw) (rmE 7 1) (YPc E [vr E r0 0, vi a1, vr E r2 0] S) (YQi E v S') 1 6 (xA E) := by
  unfold f_L_plain_p3_0_5_0 at h
  refine metW htr (by decide +kernel) (Nat.le_of_ble_eq_true rfl) (fun K hC hZ hH hE => ?_)
  have hC : xOK K cL_plain RL 4 (rmE 7 1) := hC
  show WG K E 0 [(0, vr E r0 0), (1, vi a1), (2, vr E r2 0)] [] S
  refine g_aload_n hC rfl 2 rfl (rfl : 0 + 1 = 1) (xdt tt_L_plain 0 rfl) ?_
  refine g_iconst hC (rfl : 1 + 1 = 2) (xdt tt_L_plain 1 rfl) ?_
  refine g_aload_n hC rfl 0 rfl (rfl : 2 + 1 = 3) (xdt tt_L_plain 2 rfl) ?_
  refine g_iload_n hC rfl 1 rfl (rfl : 3 + 1 = 4) (xdt tt_L_plain 3 rfl) ?_
  obtain ⟨v1, S2, hc3, h⟩ := bd2_i h
  refine g_callXi hC hZ hH hk0 kclX11 ly3_0 m_X11_plain q910 (Nat.le_of_ble_eq_true rfl) [vi a1] rfl (fun l htr => c_X11_plain_p3_0 l htr hk0 hA0 hc3) rfl (Nat.le_of_ble_eq_true rfl) (xdt tt_L_plain 4 rfl) (fun k6 hx4 => ?_) (fun v5 hx4 => ?_)
  · subst hx4
    replace h := ckX_r.symm.trans h
    by_cases hq9 : k6 = 2
    · replace h := (if_pos hq9).symm.trans h
      subst hq9
      refine ⟨[], _, _, rfl, (fun z hz => nomatch hz), by decide, by decide, q782, cst_2, fun a8 => ?_⟩
      have hC := bump_ok hC
      refine g_astore_n hC rfl (by decide) (lv' := [(3, .ref a8), (0, vr E r0 0), (1, vi a1), (2, vr E r2 0)]) rfl (rfl : 12 + 1 = 13) (xdt tt_L_plain 8 rfl) ?_
      refine g_iconst hC (rfl : 13 + 1 = 14) (xdt tt_L_plain 9 rfl) ?_
      cases h
      exact g_iret hC hE (xdt tt_L_plain 10 rfl)
    · replace h := (if_neg hq9).symm.trans h
      cases h
  · subst hx4
    replace h := ckX_l.symm.trans h
    have hC := bump_ok hC
    refine g_i2l hC (rfl : 7 + 1 = 8) (xdt tt_L_plain 5 rfl) ?_
    obtain ⟨hr10, h⟩ := ckR_i h
    obtain ⟨S11, hS11, h⟩ := lt1_i h
    refine g_last hC hk2 ly5_0 (by decide) hr10 (by decide) hS11 (rfl : 8 + 1 = 9) (xdt tt_L_plain 6 rfl) ?_
    refine g_goto hC (show ((9 : Nat) : Int) + 6 = ((15 : Nat) : Int) by decide) (xdt tt_L_plain 7 rfl) ?_
    refine g_iconst hC (rfl : 15 + 1 = 16) (xdt tt_L_plain 11 rfl) ?_
    cases h
    exact g_iret hC hE (xdt tt_L_plain 12 rfl)
def f_L_times_p3_0_5_0 (S : xSt) (r0 : Nat) (a1 : Int) (r2 : Nat) : Option (Int × xSt) :=
  bd2 (f_X11_times_p3_0 S r0 a1) fun v1 S2 =>
  ckX v1 (fun v5 =>
    ckR (wr v5) <|
    lt1 (wI S2 r2 0 0 (wr v5)) fun S11 =>
    some (0, S11)) (fun k6 =>
    if k6 = 1 then
      (some (1, S2))
    else none)
set_option maxRecDepth 100000 in
set_option maxHeartbeats 4000000 in
theorem c_L_times_p3_0_5_0 (l : Launch) (htr : l.stackTraces = false) {E : xE} {S S' : xSt} {r0 : Nat} {a1 : Int} {r2 : Nat} (hk0 : xkd E r0 = 3) (hA0 : xFam E r0) (hk2 : xkd E r2 = 5) {v : Int} (h : f_L_times_p3_0_5_0 S r0 a1 r2 = some (v, S')) : Met l yL_times (Cond.codeWith yL_times cL_times 4 (some .int) [(0, 9, 12, 13)] :: xw) (rmE 7 1) (YPc E [vr E r0 0, vi a1, vr E r2 0] S) (YQi E v S') 1 6 (xA E) := by
  unfold f_L_times_p3_0_5_0 at h
  refine metW htr (by decide +kernel) (Nat.le_of_ble_eq_true rfl) (fun K hC hZ hH hE => ?_)
  have hC : xOK K cL_times RL 4 (rmE 7 1) := hC
  show WG K E 0 [(0, vr E r0 0), (1, vi a1), (2, vr E r2 0)] [] S
  refine g_aload_n hC rfl 2 rfl (rfl : 0 + 1 = 1) (xdt tt_L_times 0 rfl) ?_
  refine g_iconst hC (rfl : 1 + 1 = 2) (xdt tt_L_times 1 rfl) ?_
  refine g_aload_n hC rfl 0 rfl (rfl : 2 + 1 = 3) (xdt tt_L_times 2 rfl) ?_
  refine g_iload_n hC rfl 1 rfl (rfl : 3 + 1 = 4) (xdt tt_L_times 3 rfl) ?_
  obtain ⟨v1, S2, hc3, h⟩ := bd2_i h
  refine g_callXi hC hZ hH hk0 kclX11 ly3_0 m_X11_times q955 (Nat.le_of_ble_eq_true rfl) [vi a1] rfl (fun l htr => c_X11_times_p3_0 l htr hk0 hA0 hc3) rfl (Nat.le_of_ble_eq_true rfl) (xdt tt_L_times 4 rfl) (fun k6 hx4 => ?_) (fun v5 hx4 => ?_)
  · subst hx4
    replace h := ckX_r.symm.trans h
    by_cases hq9 : k6 = 1
    · replace h := (if_pos hq9).symm.trans h
      subst hq9
      refine ⟨[], _, _, rfl, (fun z hz => nomatch hz), by decide, by decide, q618, cst_1, fun a8 => ?_⟩
      have hC := bump_ok hC
      refine g_astore_n hC rfl (by decide) (lv' := [(3, .ref a8), (0, vr E r0 0), (1, vi a1), (2, vr E r2 0)]) rfl (rfl : 12 + 1 = 13) (xdt tt_L_times 8 rfl) ?_
      refine g_iconst hC (rfl : 13 + 1 = 14) (xdt tt_L_times 9 rfl) ?_
      cases h
      exact g_iret hC hE (xdt tt_L_times 10 rfl)
    · replace h := (if_neg hq9).symm.trans h
      cases h
  · subst hx4
    replace h := ckX_l.symm.trans h
    have hC := bump_ok hC
    refine g_i2l hC (rfl : 7 + 1 = 8) (xdt tt_L_times 5 rfl) ?_
    obtain ⟨hr10, h⟩ := ckR_i h
    obtain ⟨S11, hS11, h⟩ := lt1_i h
    refine g_last hC hk2 ly5_0 (by decide) hr10 (by decide) hS11 (rfl : 8 + 1 = 9) (xdt tt_L_times 6 rfl) ?_
    refine g_goto hC (show ((9 : Nat) : Int) + 6 = ((15 : Nat) : Int) by decide) (xdt tt_L_times 7 rfl) ?_
    refine g_iconst hC (rfl : 15 + 1 = 16) (xdt tt_L_times 11 rfl) ?_
    cases h
    exact g_iret hC hE (xdt tt_L_times 12 rfl)
def f_L_run_p3_0_5_0 (S : xSt) (r0 : Nat) (a1 : Int) (r2 : Nat) : Option (Int × xSt) :=
  bd2 (f_X11_run_p3_0 S r0 a1) fun v1 S2 =>
  ckX v1 (fun v5 =>
    ckR (wr v5) <|
    lt1 (wI S2 r2 0 0 (wr v5)) fun S11 =>
    some (0, S11)) (fun k6 =>
    if k6 = 2 then
      (some (1, S2))
    else none)
set_option maxRecDepth 100000 in
set_option maxHeartbeats 4000000 in
theorem c_L_run_p3_0_5_0 (l : Launch) (htr : l.stackTraces = false) {E : xE} {S S' : xSt} {r0 : Nat} {a1 : Int} {r2 : Nat} (hk0 : xkd E r0 = 3) (hA0 : xFam E r0) (hk2 : xkd E r2 = 5) {v : Int} (h : f_L_run_p3_0_5_0 S r0 a1 r2 = some (v, S')) : Met l yL_run (Cond.codeWith yL_run cL_run 4 (some .int) [(0, 9, 12, 29)] :: xw) (rmE 8 1) (YPc E [vr E r0 0, vi a1, vr E r2 0] S) (YQi E v S') 1 6 (xA E) := by
  unfold f_L_run_p3_0_5_0 at h
  refine metW htr (by decide +kernel) (Nat.le_of_ble_eq_true rfl) (fun K hC hZ hH hE => ?_)
  have hC : xOK K cL_run RL 4 (rmE 8 1) := hC
  show WG K E 0 [(0, vr E r0 0), (1, vi a1), (2, vr E r2 0)] [] S
  refine g_aload_n hC rfl 2 rfl (rfl : 0 + 1 = 1) (xdt tt_L_run 0 rfl) ?_
  refine g_iconst hC (rfl : 1 + 1 = 2) (xdt tt_L_run 1 rfl) ?_
  refine g_aload_n hC rfl 0 rfl (rfl : 2 + 1 = 3) (xdt tt_L_run 2 rfl) ?_
  refine g_iload_n hC rfl 1 rfl (rfl : 3 + 1 = 4) (xdt tt_L_run 3 rfl) ?_
  obtain ⟨v1, S2, hc3, h⟩ := bd2_i h
  refine g_callXi hC hZ hH hk0 kclX11 ly3_0 m_X11_run q982 (Nat.le_of_ble_eq_true rfl) [vi a1] rfl (fun l htr => c_X11_run_p3_0 l htr hk0 hA0 hc3) rfl (Nat.le_of_ble_eq_true rfl) (xdt tt_L_run 4 rfl) (fun k6 hx4 => ?_) (fun v5 hx4 => ?_)
  · subst hx4
    replace h := ckX_r.symm.trans h
    by_cases hq9 : k6 = 2
    · replace h := (if_pos hq9).symm.trans h
      subst hq9
      refine ⟨[], _, _, rfl, (fun z hz => nomatch hz), by decide, by decide, q782, cst_2, fun a8 => ?_⟩
      have hC := bump_ok hC
      refine g_astore_n hC rfl (by decide) (lv' := [(3, .ref a8), (0, vr E r0 0), (1, vi a1), (2, vr E r2 0)]) rfl (rfl : 12 + 1 = 13) (xdt tt_L_run 8 rfl) ?_
      refine g_iconst hC (rfl : 13 + 1 = 14) (xdt tt_L_run 9 rfl) ?_
      cases h
      exact g_iret hC hE (xdt tt_L_run 10 rfl)
    · replace h := (if_neg hq9).symm.trans h
      cases h
  · subst hx4
    replace h := ckX_l.symm.trans h
    have hC := bump_ok hC
    refine g_i2l hC (rfl : 7 + 1 = 8) (xdt tt_L_run 5 rfl) ?_
    obtain ⟨hr10, h⟩ := ckR_i h
    obtain ⟨S11, hS11, h⟩ := lt1_i h
    refine g_last hC hk2 ly5_0 (by decide) hr10 (by decide) hS11 (rfl : 8 + 1 = 9) (xdt tt_L_run 6 rfl) ?_
    refine g_goto hC (show ((9 : Nat) : Int) + 6 = ((15 : Nat) : Int) by decide) (xdt tt_L_run 7 rfl) ?_
    refine g_iconst hC (rfl : 15 + 1 = 16) (xdt tt_L_run 11 rfl) ?_
    cases h
    exact g_iret hC hE (xdt tt_L_run 12 rfl)
def f_L_runTo_p3_0_5_0 (S : xSt) (r0 : Nat) (a1 : Int) (r2 : Nat) : Option (Int × xSt) :=
  bd2 (f_X11_runTo_p3_0 S r0 a1) fun v1 S2 =>
  ckX v1 (fun v5 =>
    ckR (wr v5) <|
    lt1 (wI S2 r2 0 0 (wr v5)) fun S11 =>
    some (0, S11)) (fun k6 =>
    if k6 = 2 then
      (some (1, S2))
    else none)
set_option maxRecDepth 100000 in
set_option maxHeartbeats 4000000 in
theorem c_L_runTo_p3_0_5_0 (l : Launch) (htr : l.stackTraces = false) {E : xE} {S S' : xSt} {r0 : Nat} {a1 : Int} {r2 : Nat} (hk0 : xkd E r0 = 3) (hA0 : xFam E r0) (hk2 : xkd E r2 = 5) {v : Int} (h : f_L_runTo_p3_0_5_0 S r0 a1 r2 = some (v, S')) : Met l yL_runTo (Cond.codeWith yL_runTo cL_runTo 4 (some .int) [(0, 9, 12, 29)] :: xw) (rmE 7 1) (YPc E [vr E r0 0, vi a1, vr E r2 0] S) (YQi E v S') 1 6 (xA E) := by
  unfold f_L_runTo_p3_0_5_0 at h
  refine metW htr (by decide +kernel) (Nat.le_of_ble_eq_true rfl) (fun K hC hZ hH hE => ?_)
  have hC : xOK K cL_runTo RL 4 (rmE 7 1) := hC
  show WG K E 0 [(0, vr E r0 0), (1, vi a1), (2, vr E r2 0)] [] S
  refine g_aload_n hC rfl 2 rfl (rfl : 0 + 1 = 1) (xdt tt_L_runTo 0 rfl) ?_
  refine g_iconst hC (rfl : 1 + 1 = 2) (xdt tt_L_runTo 1 rfl) ?_
  refine g_aload_n hC rfl 0 rfl (rfl : 2 + 1 = 3) (xdt tt_L_runTo 2 rfl) ?_
  refine g_iload_n hC rfl 1 rfl (rfl : 3 + 1 = 4) (xdt tt_L_runTo 3 rfl) ?_
  obtain ⟨v1, S2, hc3, h⟩ := bd2_i h
  refine g_callXi hC hZ hH hk0 kclX11 ly3_0 m_X11_runTo q1237 (Nat.le_of_ble_eq_true rfl) [vi a1] rfl (fun l htr => c_X11_runTo_p3_0 l htr hk0 hA0 hc3) rfl (Nat.le_of_ble_eq_true rfl) (xdt tt_L_runTo 4 rfl) (fun k6 hx4 => ?_) (fun v5 hx4 => ?_)
  · subst hx4
    replace h := ckX_r.symm.trans h
    by_cases hq9 : k6 = 2
    · replace h := (if_pos hq9).symm.trans h
      subst hq9
      refine ⟨[], _, _, rfl, (fun z hz => nomatch hz), by decide, by decide, q782, cst_2, fun a8 => ?_⟩
      have hC := bump_ok hC
      refine g_astore_n hC rfl (by decide) (lv' := [(3, .ref a8), (0, vr E r0 0), (1, vi a1), (2, vr E r2 0)]) rfl (rfl : 12 + 1 = 13) (xdt tt_L_runTo 8 rfl) ?_
      refine g_iconst hC (rfl : 13 + 1 = 14) (xdt tt_L_runTo 9 rfl) ?_
      cases h
      exact g_iret hC hE (xdt tt_L_runTo 10 rfl)
    · replace h := (if_neg hq9).symm.trans h
      cases h
  · subst hx4
    replace h := ckX_l.symm.trans h
    have hC := bump_ok hC
    refine g_i2l hC (rfl : 7 + 1 = 8) (xdt tt_L_runTo 5 rfl) ?_
    obtain ⟨hr10, h⟩ := ckR_i h
    obtain ⟨S11, hS11, h⟩ := lt1_i h
    refine g_last hC hk2 ly5_0 (by decide) hr10 (by decide) hS11 (rfl : 8 + 1 = 9) (xdt tt_L_runTo 6 rfl) ?_
    refine g_goto hC (show ((9 : Nat) : Int) + 6 = ((15 : Nat) : Int) by decide) (xdt tt_L_runTo 7 rfl) ?_
    refine g_iconst hC (rfl : 15 + 1 = 16) (xdt tt_L_runTo 11 rfl) ?_
    cases h
    exact g_iret hC hE (xdt tt_L_runTo 12 rfl)
def f_L_stall_p3_0_5_0 (S : xSt) (r0 : Nat) (a1 : Int) (r2 : Nat) : Option (Int × xSt) :=
  bd2 (f_X11_stall_p3_0 S r0 a1) fun v1 S2 =>
  ckX v1 (fun v5 =>
    ckR (wr v5) <|
    lt1 (wI S2 r2 0 0 (wr v5)) fun S11 =>
    some (0, S11)) (fun k6 =>
    if k6 = 2 then
      (some (1, S2))
    else none)
set_option maxRecDepth 100000 in
set_option maxHeartbeats 4000000 in
theorem c_L_stall_p3_0_5_0 (l : Launch) (htr : l.stackTraces = false) {E : xE} {S S' : xSt} {r0 : Nat} {a1 : Int} {r2 : Nat} (hk0 : xkd E r0 = 3) (hA0 : xFam E r0) (hk2 : xkd E r2 = 5) {v : Int} (h : f_L_stall_p3_0_5_0 S r0 a1 r2 = some (v, S')) : Met l yL_stall (Cond.codeWith yL_stall cL_stall 4 (some .int) [(0, 9, 12, 29)] :: xw) (rmE 7 1) (YPc E [vr E r0 0, vi a1, vr E r2 0] S) (YQi E v S') 1 6 (xA E) := by
  unfold f_L_stall_p3_0_5_0 at h
  refine metW htr (by decide +kernel) (Nat.le_of_ble_eq_true rfl) (fun K hC hZ hH hE => ?_)
  have hC : xOK K cL_stall RL 4 (rmE 7 1) := hC
  show WG K E 0 [(0, vr E r0 0), (1, vi a1), (2, vr E r2 0)] [] S
  refine g_aload_n hC rfl 2 rfl (rfl : 0 + 1 = 1) (xdt tt_L_stall 0 rfl) ?_
  refine g_iconst hC (rfl : 1 + 1 = 2) (xdt tt_L_stall 1 rfl) ?_
  refine g_aload_n hC rfl 0 rfl (rfl : 2 + 1 = 3) (xdt tt_L_stall 2 rfl) ?_
  refine g_iload_n hC rfl 1 rfl (rfl : 3 + 1 = 4) (xdt tt_L_stall 3 rfl) ?_
  obtain ⟨v1, S2, hc3, h⟩ := bd2_i h
  refine g_callXi hC hZ hH hk0 kclX11 ly3_0 m_X11_stall q1253 (Nat.le_of_ble_eq_true rfl) [vi a1] rfl (fun l htr => c_X11_stall_p3_0 l htr hk0 hA0 hc3) rfl (Nat.le_of_ble_eq_true rfl) (xdt tt_L_stall 4 rfl) (fun k6 hx4 => ?_) (fun v5 hx4 => ?_)
  · subst hx4
    replace h := ckX_r.symm.trans h
    by_cases hq9 : k6 = 2
    · replace h := (if_pos hq9).symm.trans h
      subst hq9
      refine ⟨[], _, _, rfl, (fun z hz => nomatch hz), by decide, by decide, q782, cst_2, fun a8 => ?_⟩
      have hC := bump_ok hC
      refine g_astore_n hC rfl (by decide) (lv' := [(3, .ref a8), (0, vr E r0 0), (1, vi a1), (2, vr E r2 0)]) rfl (rfl : 12 + 1 = 13) (xdt tt_L_stall 8 rfl) ?_
      refine g_iconst hC (rfl : 13 + 1 = 14) (xdt tt_L_stall 9 rfl) ?_
      cases h
      exact g_iret hC hE (xdt tt_L_stall 10 rfl)
    · replace h := (if_neg hq9).symm.trans h
      cases h
  · subst hx4
    replace h := ckX_l.symm.trans h
    have hC := bump_ok hC
    refine g_i2l hC (rfl : 7 + 1 = 8) (xdt tt_L_stall 5 rfl) ?_
    obtain ⟨hr10, h⟩ := ckR_i h
    obtain ⟨S11, hS11, h⟩ := lt1_i h
    refine g_last hC hk2 ly5_0 (by decide) hr10 (by decide) hS11 (rfl : 8 + 1 = 9) (xdt tt_L_stall 6 rfl) ?_
    refine g_goto hC (show ((9 : Nat) : Int) + 6 = ((15 : Nat) : Int) by decide) (xdt tt_L_stall 7 rfl) ?_
    refine g_iconst hC (rfl : 15 + 1 = 16) (xdt tt_L_stall 11 rfl) ?_
    cases h
    exact g_iret hC hE (xdt tt_L_stall 12 rfl)
def f_L_set_p3_0_5_0 (S : xSt) (r0 : Nat) (a1 : Int) (a2 : Int) (r3 : Nat) : Option (Int × xSt) :=
  bd2 (f_X11_set_p3_0 S r0 a1 a2) fun v1 S2 =>
  ckX v1 (fun v5 =>
    ckR (wr v5) <|
    lt1 (wI S2 r3 0 0 (wr v5)) fun S11 =>
    some (0, S11)) (fun k6 =>
    if k6 = 2 then
      (some (1, S2))
    else none)
set_option maxRecDepth 100000 in
set_option maxHeartbeats 4000000 in
theorem c_L_set_p3_0_5_0 (l : Launch) (htr : l.stackTraces = false) {E : xE} {S S' : xSt} {r0 : Nat} {a1 : Int} {a2 : Int} {r3 : Nat} (hk0 : xkd E r0 = 3) (hA0 : xFam E r0) (hk3 : xkd E r3 = 5) {v : Int} (h : f_L_set_p3_0_5_0 S r0 a1 a2 r3 = some (v, S')) : Met l yL_set (Cond.codeWith yL_set cL_set 5 (some .int) [(0, 10, 13, 29)] :: xw) (rmE 7 1) (YPc E [vr E r0 0, vi a1, vi a2, vr E r3 0] S) (YQi E v S') 1 6 (xA E) := by
  unfold f_L_set_p3_0_5_0 at h
  refine metW htr (by decide +kernel) (Nat.le_of_ble_eq_true rfl) (fun K hC hZ hH hE => ?_)
  have hC : xOK K cL_set RL 5 (rmE 7 1) := hC
  show WG K E 0 [(0, vr E r0 0), (1, vi a1), (2, vi a2), (3, vr E r3 0)] [] S
  refine g_aload_n hC rfl 3 rfl (rfl : 0 + 1 = 1) (xdt tt_L_set 0 rfl) ?_
  refine g_iconst hC (rfl : 1 + 1 = 2) (xdt tt_L_set 1 rfl) ?_
  refine g_aload_n hC rfl 0 rfl (rfl : 2 + 1 = 3) (xdt tt_L_set 2 rfl) ?_
  refine g_iload_n hC rfl 1 rfl (rfl : 3 + 1 = 4) (xdt tt_L_set 3 rfl) ?_
  refine g_iload_n hC rfl 2 rfl (rfl : 4 + 1 = 5) (xdt tt_L_set 4 rfl) ?_
  obtain ⟨v1, S2, hc3, h⟩ := bd2_i h
  refine g_callXi hC hZ hH hk0 kclX11 ly3_0 m_X11_set q1264 (Nat.le_of_ble_eq_true rfl) [vi a1, vi a2] rfl (fun l htr => c_X11_set_p3_0 l htr hk0 hA0 hc3) rfl (Nat.le_of_ble_eq_true rfl) (xdt tt_L_set 5 rfl) (fun k6 hx4 => ?_) (fun v5 hx4 => ?_)
  · subst hx4
    replace h := ckX_r.symm.trans h
    by_cases hq9 : k6 = 2
    · replace h := (if_pos hq9).symm.trans h
      subst hq9
      refine ⟨[], _, _, rfl, (fun z hz => nomatch hz), by decide, by decide, q782, cst_2, fun a8 => ?_⟩
      have hC := bump_ok hC
      refine g_astore hC (by decide) (lv' := [(4, .ref a8), (0, vr E r0 0), (1, vi a1), (2, vi a2), (3, vr E r3 0)]) rfl (rfl : 13 + 2 = 15) (xdt tt_L_set 9 rfl) ?_
      refine g_iconst hC (rfl : 15 + 1 = 16) (xdt tt_L_set 10 rfl) ?_
      cases h
      exact g_iret hC hE (xdt tt_L_set 11 rfl)
    · replace h := (if_neg hq9).symm.trans h
      cases h
  · subst hx4
    replace h := ckX_l.symm.trans h
    have hC := bump_ok hC
    refine g_i2l hC (rfl : 8 + 1 = 9) (xdt tt_L_set 6 rfl) ?_
    obtain ⟨hr10, h⟩ := ckR_i h
    obtain ⟨S11, hS11, h⟩ := lt1_i h
    refine g_last hC hk3 ly5_0 (by decide) hr10 (by decide) hS11 (rfl : 9 + 1 = 10) (xdt tt_L_set 7 rfl) ?_
    refine g_goto hC (show ((10 : Nat) : Int) + 7 = ((17 : Nat) : Int) by decide) (xdt tt_L_set 8 rfl) ?_
    refine g_iconst hC (rfl : 17 + 1 = 18) (xdt tt_L_set 12 rfl) ?_
    cases h
    exact g_iret hC hE (xdt tt_L_set 13 rfl)
def f_L_addRule_p3_0_5_0 (S : xSt) (r0 : Nat) (a1 : Int) (a2 : Int) (r3 : Nat) : Option (Int × xSt) :=
  bd2 (f_X11_addRule_p3_0 S r0 a1 a2) fun v1 S2 =>
  ckX v1 (fun v5 =>
    ckR (wr v5) <|
    lt1 (wI S2 r3 0 0 (wr v5)) fun S13 =>
    some (0, S13)) (fun k6 =>
    if k6 = 2 then
      (some (1, S2))
    else if k6 = 3 then
      (some (2, S2))
    else none)
set_option maxRecDepth 100000 in
set_option maxHeartbeats 4000000 in
theorem c_L_addRule_p3_0_5_0 (l : Launch) (htr : l.stackTraces = false) {E : xE} {S S' : xSt} {r0 : Nat} {a1 : Int} {a2 : Int} {r3 : Nat} (hk0 : xkd E r0 = 3) (hA0 : xFam E r0) (hk3 : xkd E r3 = 5) {v : Int} (h : f_L_addRule_p3_0_5_0 S r0 a1 a2 r3 = some (v, S')) : Met l yL_addRule (Cond.codeWith yL_addRule cL_addRule 5 (some .int) [(0, 10, 13, 29), (0, 10, 17, 70)] :: xw) (rmE 7 1) (YPc E [vr E r0 0, vi a1, vi a2, vr E r3 0] S) (YQi E v S') 1 6 (xA E) := by
  unfold f_L_addRule_p3_0_5_0 at h
  refine metW htr (by decide +kernel) (Nat.le_of_ble_eq_true rfl) (fun K hC hZ hH hE => ?_)
  have hC : xOK K cL_addRule RL 5 (rmE 7 1) := hC
  show WG K E 0 [(0, vr E r0 0), (1, vi a1), (2, vi a2), (3, vr E r3 0)] [] S
  refine g_aload_n hC rfl 3 rfl (rfl : 0 + 1 = 1) (xdt tt_L_addRule 0 rfl) ?_
  refine g_iconst hC (rfl : 1 + 1 = 2) (xdt tt_L_addRule 1 rfl) ?_
  refine g_aload_n hC rfl 0 rfl (rfl : 2 + 1 = 3) (xdt tt_L_addRule 2 rfl) ?_
  refine g_iload_n hC rfl 1 rfl (rfl : 3 + 1 = 4) (xdt tt_L_addRule 3 rfl) ?_
  refine g_iload_n hC rfl 2 rfl (rfl : 4 + 1 = 5) (xdt tt_L_addRule 4 rfl) ?_
  obtain ⟨v1, S2, hc3, h⟩ := bd2_i h
  refine g_callXi hC hZ hH hk0 kclX11 ly3_0 m_X11_addRule q1282 (Nat.le_of_ble_eq_true rfl) [vi a1, vi a2] rfl (fun l htr => c_X11_addRule_p3_0 l htr hk0 hA0 hc3) rfl (Nat.le_of_ble_eq_true rfl) (xdt tt_L_addRule 5 rfl) (fun k6 hx4 => ?_) (fun v5 hx4 => ?_)
  · subst hx4
    replace h := ckX_r.symm.trans h
    by_cases hq9 : k6 = 2
    · replace h := (if_pos hq9).symm.trans h
      subst hq9
      refine ⟨[], _, _, rfl, (fun z hz => nomatch hz), by decide, by decide, q782, cst_2, fun a8 => ?_⟩
      have hC := bump_ok hC
      refine g_astore hC (by decide) (lv' := [(4, .ref a8), (0, vr E r0 0), (1, vi a1), (2, vi a2), (3, vr E r3 0)]) rfl (rfl : 13 + 2 = 15) (xdt tt_L_addRule 9 rfl) ?_
      refine g_iconst hC (rfl : 15 + 1 = 16) (xdt tt_L_addRule 10 rfl) ?_
      cases h
      exact g_iret hC hE (xdt tt_L_addRule 11 rfl)
    · replace h := (if_neg hq9).symm.trans h
      by_cases hq11 : k6 = 3
      · replace h := (if_pos hq11).symm.trans h
        subst hq11
        refine ⟨[_], _, _, rfl, (fun z hz => by rcases List.mem_singleton.mp hz with rfl; exact ⟨by decide, q782, rfl⟩), by decide, by decide, q1281, cst_3, fun a10 => ?_⟩
        have hC := bump_ok hC
        refine g_astore hC (by decide) (lv' := [(4, .ref a10), (0, vr E r0 0), (1, vi a1), (2, vi a2), (3, vr E r3 0)]) rfl (rfl : 17 + 2 = 19) (xdt tt_L_addRule 12 rfl) ?_
        refine g_iconst hC (rfl : 19 + 1 = 20) (xdt tt_L_addRule 13 rfl) ?_
        cases h
        exact g_iret hC hE (xdt tt_L_addRule 14 rfl)
      · replace h := (if_neg hq11).symm.trans h
        cases h
  · subst hx4
    replace h := ckX_l.symm.trans h
    have hC := bump_ok hC
    refine g_i2l hC (rfl : 8 + 1 = 9) (xdt tt_L_addRule 6 rfl) ?_
    obtain ⟨hr12, h⟩ := ckR_i h
    obtain ⟨S13, hS13, h⟩ := lt1_i h
    refine g_last hC hk3 ly5_0 (by decide) hr12 (by decide) hS13 (rfl : 9 + 1 = 10) (xdt tt_L_addRule 7 rfl) ?_
    refine g_goto hC (show ((10 : Nat) : Int) + 11 = ((21 : Nat) : Int) by decide) (xdt tt_L_addRule 8 rfl) ?_
    refine g_iconst hC (rfl : 21 + 1 = 22) (xdt tt_L_addRule 15 rfl) ?_
    cases h
    exact g_iret hC hE (xdt tt_L_addRule 16 rfl)
def f_L_removeRule_p3_0_5_0 (S : xSt) (r0 : Nat) (a1 : Int) (r2 : Nat) : Option (Int × xSt) :=
  bd2 (f_X11_removeRule_p3_0 S r0 a1) fun v1 S2 =>
  ckX v1 (fun v5 =>
    ckR (wr v5) <|
    lt1 (wI S2 r2 0 0 (wr v5)) fun S11 =>
    some (0, S11)) (fun k6 =>
    if k6 = 1 then
      (some (1, S2))
    else none)
set_option maxRecDepth 100000 in
set_option maxHeartbeats 4000000 in
theorem c_L_removeRule_p3_0_5_0 (l : Launch) (htr : l.stackTraces = false) {E : xE} {S S' : xSt} {r0 : Nat} {a1 : Int} {r2 : Nat} (hk0 : xkd E r0 = 3) (hA0 : xFam E r0) (hk2 : xkd E r2 = 5) {v : Int} (h : f_L_removeRule_p3_0_5_0 S r0 a1 r2 = some (v, S')) : Met l yL_removeRule (Cond.codeWith yL_removeRule cL_removeRule 4 (some .int) [(0, 9, 12, 13)] :: xw) (rmE 7 1) (YPc E [vr E r0 0, vi a1, vr E r2 0] S) (YQi E v S') 1 6 (xA E) := by
  unfold f_L_removeRule_p3_0_5_0 at h
  refine metW htr (by decide +kernel) (Nat.le_of_ble_eq_true rfl) (fun K hC hZ hH hE => ?_)
  have hC : xOK K cL_removeRule RL 4 (rmE 7 1) := hC
  show WG K E 0 [(0, vr E r0 0), (1, vi a1), (2, vr E r2 0)] [] S
  refine g_aload_n hC rfl 2 rfl (rfl : 0 + 1 = 1) (xdt tt_L_removeRule 0 rfl) ?_
  refine g_iconst hC (rfl : 1 + 1 = 2) (xdt tt_L_removeRule 1 rfl) ?_
  refine g_aload_n hC rfl 0 rfl (rfl : 2 + 1 = 3) (xdt tt_L_removeRule 2 rfl) ?_
  refine g_iload_n hC rfl 1 rfl (rfl : 3 + 1 = 4) (xdt tt_L_removeRule 3 rfl) ?_
  obtain ⟨v1, S2, hc3, h⟩ := bd2_i h
  refine g_callXi hC hZ hH hk0 kclX11 ly3_0 m_X11_removeRule q1311 (Nat.le_of_ble_eq_true rfl) [vi a1] rfl (fun l htr => c_X11_removeRule_p3_0 l htr hk0 hA0 hc3) rfl (Nat.le_of_ble_eq_true rfl) (xdt tt_L_removeRule 4 rfl) (fun k6 hx4 => ?_) (fun v5 hx4 => ?_)
  · subst hx4
    replace h := ckX_r.symm.trans h
    by_cases hq9 : k6 = 1
    · replace h := (if_pos hq9).symm.trans h
      subst hq9
      refine ⟨[], _, _, rfl, (fun z hz => nomatch hz), by decide, by decide, q618, cst_1, fun a8 => ?_⟩
      have hC := bump_ok hC
      refine g_astore_n hC rfl (by decide) (lv' := [(3, .ref a8), (0, vr E r0 0), (1, vi a1), (2, vr E r2 0)]) rfl (rfl : 12 + 1 = 13) (xdt tt_L_removeRule 8 rfl) ?_
      refine g_iconst hC (rfl : 13 + 1 = 14) (xdt tt_L_removeRule 9 rfl) ?_
      cases h
      exact g_iret hC hE (xdt tt_L_removeRule 10 rfl)
    · replace h := (if_neg hq9).symm.trans h
      cases h
  · subst hx4
    replace h := ckX_l.symm.trans h
    have hC := bump_ok hC
    refine g_i2l hC (rfl : 7 + 1 = 8) (xdt tt_L_removeRule 5 rfl) ?_
    obtain ⟨hr10, h⟩ := ckR_i h
    obtain ⟨S11, hS11, h⟩ := lt1_i h
    refine g_last hC hk2 ly5_0 (by decide) hr10 (by decide) hS11 (rfl : 8 + 1 = 9) (xdt tt_L_removeRule 6 rfl) ?_
    refine g_goto hC (show ((9 : Nat) : Int) + 6 = ((15 : Nat) : Int) by decide) (xdt tt_L_removeRule 7 rfl) ?_
    refine g_iconst hC (rfl : 15 + 1 = 16) (xdt tt_L_removeRule 11 rfl) ?_
    cases h
    exact g_iret hC hE (xdt tt_L_removeRule 12 rfl)
def f_L_redirect_p3_0_5_0 (S : xSt) (r0 : Nat) (a1 : Int) (r2 : Nat) : Option (Int × xSt) :=
  bd2 (f_X11_redirect_p3_0 S r0 a1) fun v1 S2 =>
  ckX v1 (fun v5 =>
    ckR (wr v5) <|
    lt1 (wI S2 r2 0 0 (wr v5)) fun S11 =>
    some (0, S11)) (fun k6 =>
    if k6 = 1 then
      (some (1, S2))
    else none)
set_option maxRecDepth 100000 in
set_option maxHeartbeats 4000000 in
theorem c_L_redirect_p3_0_5_0 (l : Launch) (htr : l.stackTraces = false) {E : xE} {S S' : xSt} {r0 : Nat} {a1 : Int} {r2 : Nat} (hk0 : xkd E r0 = 3) (hA0 : xFam E r0) (hk2 : xkd E r2 = 5) {v : Int} (h : f_L_redirect_p3_0_5_0 S r0 a1 r2 = some (v, S')) : Met l yL_redirect (Cond.codeWith yL_redirect cL_redirect 4 (some .int) [(0, 9, 12, 13)] :: xw) (rmE 7 1) (YPc E [vr E r0 0, vi a1, vr E r2 0] S) (YQi E v S') 1 6 (xA E) := by
  unfold f_L_redirect_p3_0_5_0 at h
  refine metW htr (by decide +kernel) (Nat.le_of_ble_eq_true rfl) (fun K hC hZ hH hE => ?_)
  have hC : xOK K cL_redirect RL 4 (rmE 7 1) := hC
  show WG K E 0 [(0, vr E r0 0), (1, vi a1), (2, vr E r2 0)] [] S
  refine g_aload_n hC rfl 2 rfl (rfl : 0 + 1 = 1) (xdt tt_L_redirect 0 rfl) ?_
  refine g_iconst hC (rfl : 1 + 1 = 2) (xdt tt_L_redirect 1 rfl) ?_
  refine g_aload_n hC rfl 0 rfl (rfl : 2 + 1 = 3) (xdt tt_L_redirect 2 rfl) ?_
  refine g_iload_n hC rfl 1 rfl (rfl : 3 + 1 = 4) (xdt tt_L_redirect 3 rfl) ?_
  obtain ⟨v1, S2, hc3, h⟩ := bd2_i h
  refine g_callXi hC hZ hH hk0 kclX11 ly3_0 m_X11_redirect q1326 (Nat.le_of_ble_eq_true rfl) [vi a1] rfl (fun l htr => c_X11_redirect_p3_0 l htr hk0 hA0 hc3) rfl (Nat.le_of_ble_eq_true rfl) (xdt tt_L_redirect 4 rfl) (fun k6 hx4 => ?_) (fun v5 hx4 => ?_)
  · subst hx4
    replace h := ckX_r.symm.trans h
    by_cases hq9 : k6 = 1
    · replace h := (if_pos hq9).symm.trans h
      subst hq9
      refine ⟨[], _, _, rfl, (fun z hz => nomatch hz), by decide, by decide, q618, cst_1, fun a8 => ?_⟩
      have hC := bump_ok hC
      refine g_astore_n hC rfl (by decide) (lv' := [(3, .ref a8), (0, vr E r0 0), (1, vi a1), (2, vr E r2 0)]) rfl (rfl : 12 + 1 = 13) (xdt tt_L_redirect 8 rfl) ?_
      refine g_iconst hC (rfl : 13 + 1 = 14) (xdt tt_L_redirect 9 rfl) ?_
      cases h
      exact g_iret hC hE (xdt tt_L_redirect 10 rfl)
    · replace h := (if_neg hq9).symm.trans h
      cases h
  · subst hx4
    replace h := ckX_l.symm.trans h
    have hC := bump_ok hC
    refine g_i2l hC (rfl : 7 + 1 = 8) (xdt tt_L_redirect 5 rfl) ?_
    obtain ⟨hr10, h⟩ := ckR_i h
    obtain ⟨S11, hS11, h⟩ := lt1_i h
    refine g_last hC hk2 ly5_0 (by decide) hr10 (by decide) hS11 (rfl : 8 + 1 = 9) (xdt tt_L_redirect 6 rfl) ?_
    refine g_goto hC (show ((9 : Nat) : Int) + 6 = ((15 : Nat) : Int) by decide) (xdt tt_L_redirect 7 rfl) ?_
    refine g_iconst hC (rfl : 15 + 1 = 16) (xdt tt_L_redirect 11 rfl) ?_
    cases h
    exact g_iret hC hE (xdt tt_L_redirect 12 rfl)
def f_L_undo_p3_0_5_0 (S : xSt) (r0 : Nat) (r1 : Nat) : Option (Int × xSt) :=
  bd2 (f_X11_undo_p3_0 S r0) fun v1 S2 =>
  ckX v1 (fun v5 =>
    ckR (wr v5) <|
    lt1 (wI S2 r1 0 0 (wr v5)) fun S11 =>
    some (0, S11)) (fun k6 =>
    if k6 = 3 then
      (some (1, S2))
    else none)
set_option maxRecDepth 100000 in
set_option maxHeartbeats 4000000 in
theorem c_L_undo_p3_0_5_0 (l : Launch) (htr : l.stackTraces = false) {E : xE} {S S' : xSt} {r0 : Nat} {r1 : Nat} (hk0 : xkd E r0 = 3) (hA0 : xFam E r0) (hk1 : xkd E r1 = 5) {v : Int} (h : f_L_undo_p3_0_5_0 S r0 r1 = some (v, S')) : Met l yL_undo (Cond.codeWith yL_undo cL_undo 3 (some .int) [(0, 8, 11, 70)] :: xw) (rmE 7 1) (YPc E [vr E r0 0, vr E r1 0] S) (YQi E v S') 1 6 (xA E) := by
  unfold f_L_undo_p3_0_5_0 at h
  refine metW htr (by decide +kernel) (Nat.le_of_ble_eq_true rfl) (fun K hC hZ hH hE => ?_)
  have hC : xOK K cL_undo RL 3 (rmE 7 1) := hC
  show WG K E 0 [(0, vr E r0 0), (1, vr E r1 0)] [] S
  refine g_aload_n hC rfl 1 rfl (rfl : 0 + 1 = 1) (xdt tt_L_undo 0 rfl) ?_
  refine g_iconst hC (rfl : 1 + 1 = 2) (xdt tt_L_undo 1 rfl) ?_
  refine g_aload_n hC rfl 0 rfl (rfl : 2 + 1 = 3) (xdt tt_L_undo 2 rfl) ?_
  obtain ⟨v1, S2, hc3, h⟩ := bd2_i h
  refine g_callXi hC hZ hH hk0 kclX11 ly3_0 m_X11_undo q1338 (Nat.le_of_ble_eq_true rfl) [] rfl (fun l htr => c_X11_undo_p3_0 l htr hk0 hA0 hc3) rfl (Nat.le_of_ble_eq_true rfl) (xdt tt_L_undo 3 rfl) (fun k6 hx4 => ?_) (fun v5 hx4 => ?_)
  · subst hx4
    replace h := ckX_r.symm.trans h
    by_cases hq9 : k6 = 3
    · replace h := (if_pos hq9).symm.trans h
      subst hq9
      refine ⟨[], _, _, rfl, (fun z hz => nomatch hz), by decide, by decide, q1281, cst_3, fun a8 => ?_⟩
      have hC := bump_ok hC
      refine g_astore_n hC rfl (by decide) (lv' := [(2, .ref a8), (0, vr E r0 0), (1, vr E r1 0)]) rfl (rfl : 11 + 1 = 12) (xdt tt_L_undo 7 rfl) ?_
      refine g_iconst hC (rfl : 12 + 1 = 13) (xdt tt_L_undo 8 rfl) ?_
      cases h
      exact g_iret hC hE (xdt tt_L_undo 9 rfl)
    · replace h := (if_neg hq9).symm.trans h
      cases h
  · subst hx4
    replace h := ckX_l.symm.trans h
    have hC := bump_ok hC
    refine g_i2l hC (rfl : 6 + 1 = 7) (xdt tt_L_undo 4 rfl) ?_
    obtain ⟨hr10, h⟩ := ckR_i h
    obtain ⟨S11, hS11, h⟩ := lt1_i h
    refine g_last hC hk1 ly5_0 (by decide) hr10 (by decide) hS11 (rfl : 7 + 1 = 8) (xdt tt_L_undo 5 rfl) ?_
    refine g_goto hC (show ((8 : Nat) : Int) + 6 = ((14 : Nat) : Int) by decide) (xdt tt_L_undo 6 rfl) ?_
    refine g_iconst hC (rfl : 14 + 1 = 15) (xdt tt_L_undo 10 rfl) ?_
    cases h
    exact g_iret hC hE (xdt tt_L_undo 11 rfl)
def f_L_cyclesTo_p3_0_5_0 (S : xSt) (r0 : Nat) (a1 : Int) (r2 : Nat) : Option (Int × xSt) :=
  bd2 (f_X11_cyclesTo_p3_0 S r0 a1) fun v1 S2 =>
  ckX v1 (fun v5 =>
    ckR (wr v5) <|
    lt1 (wI S2 r2 0 0 (wr v5)) fun S11 =>
    some (0, S11)) (fun k6 =>
    if k6 = 2 then
      (some (1, S2))
    else none)
set_option maxRecDepth 100000 in
set_option maxHeartbeats 4000000 in
theorem c_L_cyclesTo_p3_0_5_0 (l : Launch) (htr : l.stackTraces = false) {E : xE} {S S' : xSt} {r0 : Nat} {a1 : Int} {r2 : Nat} (hk0 : xkd E r0 = 3) (hA0 : xFam E r0) (hk2 : xkd E r2 = 5) {v : Int} (h : f_L_cyclesTo_p3_0_5_0 S r0 a1 r2 = some (v, S')) : Met l yL_cyclesTo (Cond.codeWith yL_cyclesTo cL_cyclesTo 4 (some .int) [(0, 9, 12, 29)] :: xw) (rmE 7 1) (YPc E [vr E r0 0, vi a1, vr E r2 0] S) (YQi E v S') 1 6 (xA E) := by
  unfold f_L_cyclesTo_p3_0_5_0 at h
  refine metW htr (by decide +kernel) (Nat.le_of_ble_eq_true rfl) (fun K hC hZ hH hE => ?_)
  have hC : xOK K cL_cyclesTo RL 4 (rmE 7 1) := hC
  show WG K E 0 [(0, vr E r0 0), (1, vi a1), (2, vr E r2 0)] [] S
  refine g_aload_n hC rfl 2 rfl (rfl : 0 + 1 = 1) (xdt tt_L_cyclesTo 0 rfl) ?_
  refine g_iconst hC (rfl : 1 + 1 = 2) (xdt tt_L_cyclesTo 1 rfl) ?_
  refine g_aload_n hC rfl 0 rfl (rfl : 2 + 1 = 3) (xdt tt_L_cyclesTo 2 rfl) ?_
  refine g_iload_n hC rfl 1 rfl (rfl : 3 + 1 = 4) (xdt tt_L_cyclesTo 3 rfl) ?_
  obtain ⟨v1, S2, hc3, h⟩ := bd2_i h
  refine g_callXi hC hZ hH hk0 kclX11 ly3_0 m_X11_cyclesTo q1353 (Nat.le_of_ble_eq_true rfl) [vi a1] rfl (fun l htr => c_X11_cyclesTo_p3_0 l htr hk0 hA0 hc3) rfl (Nat.le_of_ble_eq_true rfl) (xdt tt_L_cyclesTo 4 rfl) (fun k6 hx4 => ?_) (fun v5 hx4 => ?_)
  · subst hx4
    replace h := ckX_r.symm.trans h
    by_cases hq9 : k6 = 2
    · replace h := (if_pos hq9).symm.trans h
      subst hq9
      refine ⟨[], _, _, rfl, (fun z hz => nomatch hz), by decide, by decide, q782, cst_2, fun a8 => ?_⟩
      have hC := bump_ok hC
      refine g_astore_n hC rfl (by decide) (lv' := [(3, .ref a8), (0, vr E r0 0), (1, vi a1), (2, vr E r2 0)]) rfl (rfl : 12 + 1 = 13) (xdt tt_L_cyclesTo 8 rfl) ?_
      refine g_iconst hC (rfl : 13 + 1 = 14) (xdt tt_L_cyclesTo 9 rfl) ?_
      cases h
      exact g_iret hC hE (xdt tt_L_cyclesTo 10 rfl)
    · replace h := (if_neg hq9).symm.trans h
      cases h
  · subst hx4
    replace h := ckX_l.symm.trans h
    have hC := bump_ok hC
    refine g_i2l hC (rfl : 7 + 1 = 8) (xdt tt_L_cyclesTo 5 rfl) ?_
    obtain ⟨hr10, h⟩ := ckR_i h
    obtain ⟨S11, hS11, h⟩ := lt1_i h
    refine g_last hC hk2 ly5_0 (by decide) hr10 (by decide) hS11 (rfl : 8 + 1 = 9) (xdt tt_L_cyclesTo 6 rfl) ?_
    refine g_goto hC (show ((9 : Nat) : Int) + 6 = ((15 : Nat) : Int) by decide) (xdt tt_L_cyclesTo 7 rfl) ?_
    refine g_iconst hC (rfl : 15 + 1 = 16) (xdt tt_L_cyclesTo 11 rfl) ?_
    cases h
    exact g_iret hC hE (xdt tt_L_cyclesTo 12 rfl)
def f_L_nextBubbles_p3_0_5_0 (S : xSt) (r0 : Nat) (a1 : Int) (r2 : Nat) : Option (Int × xSt) :=
  bd2 (f_X11_nextBubbles_p3_0 S r0 a1) fun v1 S2 =>
  ckX v1 (fun v5 =>
    ckR (wr v5) <|
    lt1 (wI S2 r2 0 0 (wr v5)) fun S11 =>
    some (0, S11)) (fun k6 =>
    if k6 = 2 then
      (some (1, S2))
    else none)
set_option maxRecDepth 100000 in
set_option maxHeartbeats 4000000 in
theorem c_L_nextBubbles_p3_0_5_0 (l : Launch) (htr : l.stackTraces = false) {E : xE} {S S' : xSt} {r0 : Nat} {a1 : Int} {r2 : Nat} (hk0 : xkd E r0 = 3) (hA0 : xFam E r0) (hk2 : xkd E r2 = 5) {v : Int} (h : f_L_nextBubbles_p3_0_5_0 S r0 a1 r2 = some (v, S')) : Met l yL_nextBubbles (Cond.codeWith yL_nextBubbles cL_nextBubbles 4 (some .int) [(0, 9, 12, 29)] :: xw) (rmE 7 1) (YPc E [vr E r0 0, vi a1, vr E r2 0] S) (YQi E v S') 1 6 (xA E) := by
  unfold f_L_nextBubbles_p3_0_5_0 at h
  refine metW htr (by decide +kernel) (Nat.le_of_ble_eq_true rfl) (fun K hC hZ hH hE => ?_)
  have hC : xOK K cL_nextBubbles RL 4 (rmE 7 1) := hC
  show WG K E 0 [(0, vr E r0 0), (1, vi a1), (2, vr E r2 0)] [] S
  refine g_aload_n hC rfl 2 rfl (rfl : 0 + 1 = 1) (xdt tt_L_nextBubbles 0 rfl) ?_
  refine g_iconst hC (rfl : 1 + 1 = 2) (xdt tt_L_nextBubbles 1 rfl) ?_
  refine g_aload_n hC rfl 0 rfl (rfl : 2 + 1 = 3) (xdt tt_L_nextBubbles 2 rfl) ?_
  refine g_iload_n hC rfl 1 rfl (rfl : 3 + 1 = 4) (xdt tt_L_nextBubbles 3 rfl) ?_
  obtain ⟨v1, S2, hc3, h⟩ := bd2_i h
  refine g_callXi hC hZ hH hk0 kclX11 ly3_0 m_X11_nextBubbles q1374 (Nat.le_of_ble_eq_true rfl) [vi a1] rfl (fun l htr => c_X11_nextBubbles_p3_0 l htr hk0 hA0 hc3) rfl (Nat.le_of_ble_eq_true rfl) (xdt tt_L_nextBubbles 4 rfl) (fun k6 hx4 => ?_) (fun v5 hx4 => ?_)
  · subst hx4
    replace h := ckX_r.symm.trans h
    by_cases hq9 : k6 = 2
    · replace h := (if_pos hq9).symm.trans h
      subst hq9
      refine ⟨[], _, _, rfl, (fun z hz => nomatch hz), by decide, by decide, q782, cst_2, fun a8 => ?_⟩
      have hC := bump_ok hC
      refine g_astore_n hC rfl (by decide) (lv' := [(3, .ref a8), (0, vr E r0 0), (1, vi a1), (2, vr E r2 0)]) rfl (rfl : 12 + 1 = 13) (xdt tt_L_nextBubbles 8 rfl) ?_
      refine g_iconst hC (rfl : 13 + 1 = 14) (xdt tt_L_nextBubbles 9 rfl) ?_
      cases h
      exact g_iret hC hE (xdt tt_L_nextBubbles 10 rfl)
    · replace h := (if_neg hq9).symm.trans h
      cases h
  · subst hx4
    replace h := ckX_l.symm.trans h
    have hC := bump_ok hC
    refine g_i2l hC (rfl : 7 + 1 = 8) (xdt tt_L_nextBubbles 5 rfl) ?_
    obtain ⟨hr10, h⟩ := ckR_i h
    obtain ⟨S11, hS11, h⟩ := lt1_i h
    refine g_last hC hk2 ly5_0 (by decide) hr10 (by decide) hS11 (rfl : 8 + 1 = 9) (xdt tt_L_nextBubbles 6 rfl) ?_
    refine g_goto hC (show ((9 : Nat) : Int) + 6 = ((15 : Nat) : Int) by decide) (xdt tt_L_nextBubbles 7 rfl) ?_
    refine g_iconst hC (rfl : 15 + 1 = 16) (xdt tt_L_nextBubbles 11 rfl) ?_
    cases h
    exact g_iret hC hE (xdt tt_L_nextBubbles 12 rfl)
def f_L_bubblesIn_p3_0_5_0 (S : xSt) (r0 : Nat) (a1 : Int) (a2 : Int) (r3 : Nat) : Option (Int × xSt) :=
  bd2 (f_X11_bubblesIn_p3_0 S r0 a1 a2) fun v1 S2 =>
  ckX v1 (fun v5 =>
    ckR (wr v5) <|
    lt1 (wI S2 r3 0 0 (wr v5)) fun S11 =>
    some (0, S11)) (fun k6 =>
    if k6 = 2 then
      (some (1, S2))
    else none)
set_option maxRecDepth 100000 in
set_option maxHeartbeats 4000000 in
theorem c_L_bubblesIn_p3_0_5_0 (l : Launch) (htr : l.stackTraces = false) {E : xE} {S S' : xSt} {r0 : Nat} {a1 : Int} {a2 : Int} {r3 : Nat} (hk0 : xkd E r0 = 3) (hA0 : xFam E r0) (hk3 : xkd E r3 = 5) {v : Int} (h : f_L_bubblesIn_p3_0_5_0 S r0 a1 a2 r3 = some (v, S')) : Met l yL_bubblesIn (Cond.codeWith yL_bubblesIn cL_bubblesIn 5 (some .int) [(0, 10, 13, 29)] :: xw) (rmE 8 1) (YPc E [vr E r0 0, vi a1, vi a2, vr E r3 0] S) (YQi E v S') 1 6 (xA E) := by
  unfold f_L_bubblesIn_p3_0_5_0 at h
  refine metW htr (by decide +kernel) (Nat.le_of_ble_eq_true rfl) (fun K hC hZ hH hE => ?_)
  have hC : xOK K cL_bubblesIn RL 5 (rmE 8 1) := hC
  show WG K E 0 [(0, vr E r0 0), (1, vi a1), (2, vi a2), (3, vr E r3 0)] [] S
  refine g_aload_n hC rfl 3 rfl (rfl : 0 + 1 = 1) (xdt tt_L_bubblesIn 0 rfl) ?_
  refine g_iconst hC (rfl : 1 + 1 = 2) (xdt tt_L_bubblesIn 1 rfl) ?_
  refine g_aload_n hC rfl 0 rfl (rfl : 2 + 1 = 3) (xdt tt_L_bubblesIn 2 rfl) ?_
  refine g_iload_n hC rfl 1 rfl (rfl : 3 + 1 = 4) (xdt tt_L_bubblesIn 3 rfl) ?_
  refine g_iload_n hC rfl 2 rfl (rfl : 4 + 1 = 5) (xdt tt_L_bubblesIn 4 rfl) ?_
  obtain ⟨v1, S2, hc3, h⟩ := bd2_i h
  refine g_callXi hC hZ hH hk0 kclX11 ly3_0 m_X11_bubblesIn q1389 (Nat.le_of_ble_eq_true rfl) [vi a1, vi a2] rfl (fun l htr => c_X11_bubblesIn_p3_0 l htr hk0 hA0 hc3) rfl (Nat.le_of_ble_eq_true rfl) (xdt tt_L_bubblesIn 5 rfl) (fun k6 hx4 => ?_) (fun v5 hx4 => ?_)
  · subst hx4
    replace h := ckX_r.symm.trans h
    by_cases hq9 : k6 = 2
    · replace h := (if_pos hq9).symm.trans h
      subst hq9
      refine ⟨[], _, _, rfl, (fun z hz => nomatch hz), by decide, by decide, q782, cst_2, fun a8 => ?_⟩
      have hC := bump_ok hC
      refine g_astore hC (by decide) (lv' := [(4, .ref a8), (0, vr E r0 0), (1, vi a1), (2, vi a2), (3, vr E r3 0)]) rfl (rfl : 13 + 2 = 15) (xdt tt_L_bubblesIn 9 rfl) ?_
      refine g_iconst hC (rfl : 15 + 1 = 16) (xdt tt_L_bubblesIn 10 rfl) ?_
      cases h
      exact g_iret hC hE (xdt tt_L_bubblesIn 11 rfl)
    · replace h := (if_neg hq9).symm.trans h
      cases h
  · subst hx4
    replace h := ckX_l.symm.trans h
    have hC := bump_ok hC
    refine g_i2l hC (rfl : 8 + 1 = 9) (xdt tt_L_bubblesIn 6 rfl) ?_
    obtain ⟨hr10, h⟩ := ckR_i h
    obtain ⟨S11, hS11, h⟩ := lt1_i h
    refine g_last hC hk3 ly5_0 (by decide) hr10 (by decide) hS11 (rfl : 9 + 1 = 10) (xdt tt_L_bubblesIn 7 rfl) ?_
    refine g_goto hC (show ((10 : Nat) : Int) + 7 = ((17 : Nat) : Int) by decide) (xdt tt_L_bubblesIn 8 rfl) ?_
    refine g_iconst hC (rfl : 17 + 1 = 18) (xdt tt_L_bubblesIn 12 rfl) ?_
    cases h
    exact g_iret hC hE (xdt tt_L_bubblesIn 13 rfl)
def f_L_roomNeeded_p3_0_5_0 (S : xSt) (r0 : Nat) (a1 : Int) (r2 : Nat) : Option (Int × xSt) :=
  bd2 (f_X11_roomNeeded_p3_0 S r0 a1) fun v1 S2 =>
  ckX v1 (fun v5 =>
    ckR (wr v5) <|
    lt1 (wI S2 r2 0 0 (wr v5)) fun S11 =>
    some (0, S11)) (fun k6 =>
    if k6 = 2 then
      (some (1, S2))
    else none)
set_option maxRecDepth 100000 in
set_option maxHeartbeats 4000000 in
theorem c_L_roomNeeded_p3_0_5_0 (l : Launch) (htr : l.stackTraces = false) {E : xE} {S S' : xSt} {r0 : Nat} {a1 : Int} {r2 : Nat} (hk0 : xkd E r0 = 3) (hA0 : xFam E r0) (hk2 : xkd E r2 = 5) {v : Int} (h : f_L_roomNeeded_p3_0_5_0 S r0 a1 r2 = some (v, S')) : Met l yL_roomNeeded (Cond.codeWith yL_roomNeeded cL_roomNeeded 4 (some .int) [(0, 9, 12, 29)] :: xw) (rmE 7 1) (YPc E [vr E r0 0, vi a1, vr E r2 0] S) (YQi E v S') 1 6 (xA E) := by
  unfold f_L_roomNeeded_p3_0_5_0 at h
  refine metW htr (by decide +kernel) (Nat.le_of_ble_eq_true rfl) (fun K hC hZ hH hE => ?_)
  have hC : xOK K cL_roomNeeded RL 4 (rmE 7 1) := hC
  show WG K E 0 [(0, vr E r0 0), (1, vi a1), (2, vr E r2 0)] [] S
  refine g_aload_n hC rfl 2 rfl (rfl : 0 + 1 = 1) (xdt tt_L_roomNeeded 0 rfl) ?_
  refine g_iconst hC (rfl : 1 + 1 = 2) (xdt tt_L_roomNeeded 1 rfl) ?_
  refine g_aload_n hC rfl 0 rfl (rfl : 2 + 1 = 3) (xdt tt_L_roomNeeded 2 rfl) ?_
  refine g_iload_n hC rfl 1 rfl (rfl : 3 + 1 = 4) (xdt tt_L_roomNeeded 3 rfl) ?_
  obtain ⟨v1, S2, hc3, h⟩ := bd2_i h
  refine g_callXi hC hZ hH hk0 kclX11 ly3_0 m_X11_roomNeeded q1400 (Nat.le_of_ble_eq_true rfl) [vi a1] rfl (fun l htr => c_X11_roomNeeded_p3_0 l htr hk0 hA0 hc3) rfl (Nat.le_of_ble_eq_true rfl) (xdt tt_L_roomNeeded 4 rfl) (fun k6 hx4 => ?_) (fun v5 hx4 => ?_)
  · subst hx4
    replace h := ckX_r.symm.trans h
    by_cases hq9 : k6 = 2
    · replace h := (if_pos hq9).symm.trans h
      subst hq9
      refine ⟨[], _, _, rfl, (fun z hz => nomatch hz), by decide, by decide, q782, cst_2, fun a8 => ?_⟩
      have hC := bump_ok hC
      refine g_astore_n hC rfl (by decide) (lv' := [(3, .ref a8), (0, vr E r0 0), (1, vi a1), (2, vr E r2 0)]) rfl (rfl : 12 + 1 = 13) (xdt tt_L_roomNeeded 8 rfl) ?_
      refine g_iconst hC (rfl : 13 + 1 = 14) (xdt tt_L_roomNeeded 9 rfl) ?_
      cases h
      exact g_iret hC hE (xdt tt_L_roomNeeded 10 rfl)
    · replace h := (if_neg hq9).symm.trans h
      cases h
  · subst hx4
    replace h := ckX_l.symm.trans h
    have hC := bump_ok hC
    refine g_i2l hC (rfl : 7 + 1 = 8) (xdt tt_L_roomNeeded 5 rfl) ?_
    obtain ⟨hr10, h⟩ := ckR_i h
    obtain ⟨S11, hS11, h⟩ := lt1_i h
    refine g_last hC hk2 ly5_0 (by decide) hr10 (by decide) hS11 (rfl : 8 + 1 = 9) (xdt tt_L_roomNeeded 6 rfl) ?_
    refine g_goto hC (show ((9 : Nat) : Int) + 6 = ((15 : Nat) : Int) by decide) (xdt tt_L_roomNeeded 7 rfl) ?_
    refine g_iconst hC (rfl : 15 + 1 = 16) (xdt tt_L_roomNeeded 11 rfl) ?_
    cases h
    exact g_iret hC hE (xdt tt_L_roomNeeded 12 rfl)
def f_L_bestLanes_p3_0_5_0 (S : xSt) (r0 : Nat) (a1 : Int) (r2 : Nat) : Option (Int × xSt) :=
  bd2 (f_X11_bestLanes_p3_0 S r0 a1) fun v1 S2 =>
  ckX v1 (fun v5 =>
    ckR (wr v5) <|
    lt1 (wI S2 r2 0 0 (wr v5)) fun S11 =>
    some (0, S11)) (fun k6 =>
    if k6 = 2 then
      (some (1, S2))
    else none)
set_option maxRecDepth 100000 in
set_option maxHeartbeats 4000000 in
theorem c_L_bestLanes_p3_0_5_0 (l : Launch) (htr : l.stackTraces = false) {E : xE} {S S' : xSt} {r0 : Nat} {a1 : Int} {r2 : Nat} (hk0 : xkd E r0 = 3) (hA0 : xFam E r0) (hk2 : xkd E r2 = 5) {v : Int} (h : f_L_bestLanes_p3_0_5_0 S r0 a1 r2 = some (v, S')) : Met l yL_bestLanes (Cond.codeWith yL_bestLanes cL_bestLanes 4 (some .int) [(0, 9, 12, 29)] :: xw) (rmE 9 1) (YPc E [vr E r0 0, vi a1, vr E r2 0] S) (YQi E v S') 1 6 (xA E) := by
  unfold f_L_bestLanes_p3_0_5_0 at h
  refine metW htr (by decide +kernel) (Nat.le_of_ble_eq_true rfl) (fun K hC hZ hH hE => ?_)
  have hC : xOK K cL_bestLanes RL 4 (rmE 9 1) := hC
  show WG K E 0 [(0, vr E r0 0), (1, vi a1), (2, vr E r2 0)] [] S
  refine g_aload_n hC rfl 2 rfl (rfl : 0 + 1 = 1) (xdt tt_L_bestLanes 0 rfl) ?_
  refine g_iconst hC (rfl : 1 + 1 = 2) (xdt tt_L_bestLanes 1 rfl) ?_
  refine g_aload_n hC rfl 0 rfl (rfl : 2 + 1 = 3) (xdt tt_L_bestLanes 2 rfl) ?_
  refine g_iload_n hC rfl 1 rfl (rfl : 3 + 1 = 4) (xdt tt_L_bestLanes 3 rfl) ?_
  obtain ⟨v1, S2, hc3, h⟩ := bd2_i h
  refine g_callXi hC hZ hH hk0 kclX11 ly3_0 m_X11_bestLanes q1412 (Nat.le_of_ble_eq_true rfl) [vi a1] rfl (fun l htr => c_X11_bestLanes_p3_0 l htr hk0 hA0 hc3) rfl (Nat.le_of_ble_eq_true rfl) (xdt tt_L_bestLanes 4 rfl) (fun k6 hx4 => ?_) (fun v5 hx4 => ?_)
  · subst hx4
    replace h := ckX_r.symm.trans h
    by_cases hq9 : k6 = 2
    · replace h := (if_pos hq9).symm.trans h
      subst hq9
      refine ⟨[], _, _, rfl, (fun z hz => nomatch hz), by decide, by decide, q782, cst_2, fun a8 => ?_⟩
      have hC := bump_ok hC
      refine g_astore_n hC rfl (by decide) (lv' := [(3, .ref a8), (0, vr E r0 0), (1, vi a1), (2, vr E r2 0)]) rfl (rfl : 12 + 1 = 13) (xdt tt_L_bestLanes 8 rfl) ?_
      refine g_iconst hC (rfl : 13 + 1 = 14) (xdt tt_L_bestLanes 9 rfl) ?_
      cases h
      exact g_iret hC hE (xdt tt_L_bestLanes 10 rfl)
    · replace h := (if_neg hq9).symm.trans h
      cases h
  · subst hx4
    replace h := ckX_l.symm.trans h
    have hC := bump_ok hC
    refine g_i2l hC (rfl : 7 + 1 = 8) (xdt tt_L_bestLanes 5 rfl) ?_
    obtain ⟨hr10, h⟩ := ckR_i h
    obtain ⟨S11, hS11, h⟩ := lt1_i h
    refine g_last hC hk2 ly5_0 (by decide) hr10 (by decide) hS11 (rfl : 8 + 1 = 9) (xdt tt_L_bestLanes 6 rfl) ?_
    refine g_goto hC (show ((9 : Nat) : Int) + 6 = ((15 : Nat) : Int) by decide) (xdt tt_L_bestLanes 7 rfl) ?_
    refine g_iconst hC (rfl : 15 + 1 = 16) (xdt tt_L_bestLanes 11 rfl) ?_
    cases h
    exact g_iret hC hE (xdt tt_L_bestLanes 12 rfl)
def f_L_bestRate_p3_0_5_0 (S : xSt) (r0 : Nat) (a1 : Int) (r2 : Nat) : Option (Int × xSt) :=
  bd2 (f_X11_bestRate_p3_0 S r0 a1) fun v1 S2 =>
  ckX v1 (fun v5 =>
    ckR (wr v5) <|
    lt1 (wI S2 r2 0 0 (wr v5)) fun S11 =>
    some (0, S11)) (fun k6 =>
    if k6 = 2 then
      (some (1, S2))
    else none)
set_option maxRecDepth 100000 in
set_option maxHeartbeats 4000000 in
theorem c_L_bestRate_p3_0_5_0 (l : Launch) (htr : l.stackTraces = false) {E : xE} {S S' : xSt} {r0 : Nat} {a1 : Int} {r2 : Nat} (hk0 : xkd E r0 = 3) (hA0 : xFam E r0) (hk2 : xkd E r2 = 5) {v : Int} (h : f_L_bestRate_p3_0_5_0 S r0 a1 r2 = some (v, S')) : Met l yL_bestRate (Cond.codeWith yL_bestRate cL_bestRate 4 (some .int) [(0, 9, 12, 29)] :: xw) (rmE 9 1) (YPc E [vr E r0 0, vi a1, vr E r2 0] S) (YQi E v S') 1 6 (xA E) := by
  unfold f_L_bestRate_p3_0_5_0 at h
  refine metW htr (by decide +kernel) (Nat.le_of_ble_eq_true rfl) (fun K hC hZ hH hE => ?_)
  have hC : xOK K cL_bestRate RL 4 (rmE 9 1) := hC
  show WG K E 0 [(0, vr E r0 0), (1, vi a1), (2, vr E r2 0)] [] S
  refine g_aload_n hC rfl 2 rfl (rfl : 0 + 1 = 1) (xdt tt_L_bestRate 0 rfl) ?_
  refine g_iconst hC (rfl : 1 + 1 = 2) (xdt tt_L_bestRate 1 rfl) ?_
  refine g_aload_n hC rfl 0 rfl (rfl : 2 + 1 = 3) (xdt tt_L_bestRate 2 rfl) ?_
  refine g_iload_n hC rfl 1 rfl (rfl : 3 + 1 = 4) (xdt tt_L_bestRate 3 rfl) ?_
  obtain ⟨v1, S2, hc3, h⟩ := bd2_i h
  refine g_callXi hC hZ hH hk0 kclX11 ly3_0 m_X11_bestRate q1439 (Nat.le_of_ble_eq_true rfl) [vi a1] rfl (fun l htr => c_X11_bestRate_p3_0 l htr hk0 hA0 hc3) rfl (Nat.le_of_ble_eq_true rfl) (xdt tt_L_bestRate 4 rfl) (fun k6 hx4 => ?_) (fun v5 hx4 => ?_)
  · subst hx4
    replace h := ckX_r.symm.trans h
    by_cases hq9 : k6 = 2
    · replace h := (if_pos hq9).symm.trans h
      subst hq9
      refine ⟨[], _, _, rfl, (fun z hz => nomatch hz), by decide, by decide, q782, cst_2, fun a8 => ?_⟩
      have hC := bump_ok hC
      refine g_astore_n hC rfl (by decide) (lv' := [(3, .ref a8), (0, vr E r0 0), (1, vi a1), (2, vr E r2 0)]) rfl (rfl : 12 + 1 = 13) (xdt tt_L_bestRate 8 rfl) ?_
      refine g_iconst hC (rfl : 13 + 1 = 14) (xdt tt_L_bestRate 9 rfl) ?_
      cases h
      exact g_iret hC hE (xdt tt_L_bestRate 10 rfl)
    · replace h := (if_neg hq9).symm.trans h
      cases h
  · subst hx4
    replace h := ckX_l.symm.trans h
    have hC := bump_ok hC
    refine g_i2l hC (rfl : 7 + 1 = 8) (xdt tt_L_bestRate 5 rfl) ?_
    obtain ⟨hr10, h⟩ := ckR_i h
    obtain ⟨S11, hS11, h⟩ := lt1_i h
    refine g_last hC hk2 ly5_0 (by decide) hr10 (by decide) hS11 (rfl : 8 + 1 = 9) (xdt tt_L_bestRate 6 rfl) ?_
    refine g_goto hC (show ((9 : Nat) : Int) + 6 = ((15 : Nat) : Int) by decide) (xdt tt_L_bestRate 7 rfl) ?_
    refine g_iconst hC (rfl : 15 + 1 = 16) (xdt tt_L_bestRate 11 rfl) ?_
    cases h
    exact g_iret hC hE (xdt tt_L_bestRate 12 rfl)
def f_L_bestLoop_p3_0_5_0 (S : xSt) (r0 : Nat) (a1 : Int) (r2 : Nat) : Option (Int × xSt) :=
  bd2 (f_X11_bestLoop_p3_0 S r0 a1) fun v1 S2 =>
  ckX v1 (fun v5 =>
    ckR (wr v5) <|
    lt1 (wI S2 r2 0 0 (wr v5)) fun S11 =>
    some (0, S11)) (fun k6 =>
    if k6 = 2 then
      (some (1, S2))
    else none)
set_option maxRecDepth 100000 in
set_option maxHeartbeats 4000000 in
theorem c_L_bestLoop_p3_0_5_0 (l : Launch) (htr : l.stackTraces = false) {E : xE} {S S' : xSt} {r0 : Nat} {a1 : Int} {r2 : Nat} (hk0 : xkd E r0 = 3) (hA0 : xFam E r0) (hk2 : xkd E r2 = 5) {v : Int} (h : f_L_bestLoop_p3_0_5_0 S r0 a1 r2 = some (v, S')) : Met l yL_bestLoop (Cond.codeWith yL_bestLoop cL_bestLoop 4 (some .int) [(0, 9, 12, 29)] :: xw) (rmE 9 1) (YPc E [vr E r0 0, vi a1, vr E r2 0] S) (YQi E v S') 1 6 (xA E) := by
  unfold f_L_bestLoop_p3_0_5_0 at h
  refine metW htr (by decide +kernel) (Nat.le_of_ble_eq_true rfl) (fun K hC hZ hH hE => ?_)
  have hC : xOK K cL_bestLoop RL 4 (rmE 9 1) := hC
  show WG K E 0 [(0, vr E r0 0), (1, vi a1), (2, vr E r2 0)] [] S
  refine g_aload_n hC rfl 2 rfl (rfl : 0 + 1 = 1) (xdt tt_L_bestLoop 0 rfl) ?_
  refine g_iconst hC (rfl : 1 + 1 = 2) (xdt tt_L_bestLoop 1 rfl) ?_
  refine g_aload_n hC rfl 0 rfl (rfl : 2 + 1 = 3) (xdt tt_L_bestLoop 2 rfl) ?_
  refine g_iload_n hC rfl 1 rfl (rfl : 3 + 1 = 4) (xdt tt_L_bestLoop 3 rfl) ?_
  obtain ⟨v1, S2, hc3, h⟩ := bd2_i h
  refine g_callXi hC hZ hH hk0 kclX11 ly3_0 m_X11_bestLoop q1450 (Nat.le_of_ble_eq_true rfl) [vi a1] rfl (fun l htr => c_X11_bestLoop_p3_0 l htr hk0 hA0 hc3) rfl (Nat.le_of_ble_eq_true rfl) (xdt tt_L_bestLoop 4 rfl) (fun k6 hx4 => ?_) (fun v5 hx4 => ?_)
  · subst hx4
    replace h := ckX_r.symm.trans h
    by_cases hq9 : k6 = 2
    · replace h := (if_pos hq9).symm.trans h
      subst hq9
      refine ⟨[], _, _, rfl, (fun z hz => nomatch hz), by decide, by decide, q782, cst_2, fun a8 => ?_⟩
      have hC := bump_ok hC
      refine g_astore_n hC rfl (by decide) (lv' := [(3, .ref a8), (0, vr E r0 0), (1, vi a1), (2, vr E r2 0)]) rfl (rfl : 12 + 1 = 13) (xdt tt_L_bestLoop 8 rfl) ?_
      refine g_iconst hC (rfl : 13 + 1 = 14) (xdt tt_L_bestLoop 9 rfl) ?_
      cases h
      exact g_iret hC hE (xdt tt_L_bestLoop 10 rfl)
    · replace h := (if_neg hq9).symm.trans h
      cases h
  · subst hx4
    replace h := ckX_l.symm.trans h
    have hC := bump_ok hC
    refine g_i2l hC (rfl : 7 + 1 = 8) (xdt tt_L_bestLoop 5 rfl) ?_
    obtain ⟨hr10, h⟩ := ckR_i h
    obtain ⟨S11, hS11, h⟩ := lt1_i h
    refine g_last hC hk2 ly5_0 (by decide) hr10 (by decide) hS11 (rfl : 8 + 1 = 9) (xdt tt_L_bestLoop 6 rfl) ?_
    refine g_goto hC (show ((9 : Nat) : Int) + 6 = ((15 : Nat) : Int) by decide) (xdt tt_L_bestLoop 7 rfl) ?_
    refine g_iconst hC (rfl : 15 + 1 = 16) (xdt tt_L_bestLoop 11 rfl) ?_
    cases h
    exact g_iret hC hE (xdt tt_L_bestLoop 12 rfl)
def f_L_cyclesUntil_p3_0_5_0 (S : xSt) (r0 : Nat) (a1 : Int) (r2 : Nat) : Option (Int × xSt) :=
  bd2 (f_X11_cyclesUntil_p3_0 S r0 a1) fun v1 S2 =>
  ckX v1 (fun v5 =>
    ckR (wr v5) <|
    lt1 (wI S2 r2 0 0 (wr v5)) fun S11 =>
    some (0, S11)) (fun k6 =>
    if k6 = 1 then
      (some (1, S2))
    else none)
set_option maxRecDepth 100000 in
set_option maxHeartbeats 4000000 in
theorem c_L_cyclesUntil_p3_0_5_0 (l : Launch) (htr : l.stackTraces = false) {E : xE} {S S' : xSt} {r0 : Nat} {a1 : Int} {r2 : Nat} (hk0 : xkd E r0 = 3) (hA0 : xFam E r0) (hk2 : xkd E r2 = 5) {v : Int} (h : f_L_cyclesUntil_p3_0_5_0 S r0 a1 r2 = some (v, S')) : Met l yL_cyclesUntil (Cond.codeWith yL_cyclesUntil cL_cyclesUntil 4 (some .int) [(0, 9, 12, 13)] :: xw) (rmE 7 1) (YPc E [vr E r0 0, vi a1, vr E r2 0] S) (YQi E v S') 1 6 (xA E) := by
  unfold f_L_cyclesUntil_p3_0_5_0 at h
  refine metW htr (by decide +kernel) (Nat.le_of_ble_eq_true rfl) (fun K hC hZ hH hE => ?_)
  have hC : xOK K cL_cyclesUntil RL 4 (rmE 7 1) := hC
  show WG K E 0 [(0, vr E r0 0), (1, vi a1), (2, vr E r2 0)] [] S
  refine g_aload_n hC rfl 2 rfl (rfl : 0 + 1 = 1) (xdt tt_L_cyclesUntil 0 rfl) ?_
  refine g_iconst hC (rfl : 1 + 1 = 2) (xdt tt_L_cyclesUntil 1 rfl) ?_
  refine g_aload_n hC rfl 0 rfl (rfl : 2 + 1 = 3) (xdt tt_L_cyclesUntil 2 rfl) ?_
  refine g_iload_n hC rfl 1 rfl (rfl : 3 + 1 = 4) (xdt tt_L_cyclesUntil 3 rfl) ?_
  obtain ⟨v1, S2, hc3, h⟩ := bd2_i h
  refine g_callXi hC hZ hH hk0 kclX11 ly3_0 m_X11_cyclesUntil q1461 (Nat.le_of_ble_eq_true rfl) [vi a1] rfl (fun l htr => c_X11_cyclesUntil_p3_0 l htr hk0 hA0 hc3) rfl (Nat.le_of_ble_eq_true rfl) (xdt tt_L_cyclesUntil 4 rfl) (fun k6 hx4 => ?_) (fun v5 hx4 => ?_)
  · subst hx4
    replace h := ckX_r.symm.trans h
    by_cases hq9 : k6 = 1
    · replace h := (if_pos hq9).symm.trans h
      subst hq9
      refine ⟨[], _, _, rfl, (fun z hz => nomatch hz), by decide, by decide, q618, cst_1, fun a8 => ?_⟩
      have hC := bump_ok hC
      refine g_astore_n hC rfl (by decide) (lv' := [(3, .ref a8), (0, vr E r0 0), (1, vi a1), (2, vr E r2 0)]) rfl (rfl : 12 + 1 = 13) (xdt tt_L_cyclesUntil 8 rfl) ?_
      refine g_iconst hC (rfl : 13 + 1 = 14) (xdt tt_L_cyclesUntil 9 rfl) ?_
      cases h
      exact g_iret hC hE (xdt tt_L_cyclesUntil 10 rfl)
    · replace h := (if_neg hq9).symm.trans h
      cases h
  · subst hx4
    replace h := ckX_l.symm.trans h
    have hC := bump_ok hC
    refine g_i2l hC (rfl : 7 + 1 = 8) (xdt tt_L_cyclesUntil 5 rfl) ?_
    obtain ⟨hr10, h⟩ := ckR_i h
    obtain ⟨S11, hS11, h⟩ := lt1_i h
    refine g_last hC hk2 ly5_0 (by decide) hr10 (by decide) hS11 (rfl : 8 + 1 = 9) (xdt tt_L_cyclesUntil 6 rfl) ?_
    refine g_goto hC (show ((9 : Nat) : Int) + 6 = ((15 : Nat) : Int) by decide) (xdt tt_L_cyclesUntil 7 rfl) ?_
    refine g_iconst hC (rfl : 15 + 1 = 16) (xdt tt_L_cyclesUntil 11 rfl) ?_
    cases h
    exact g_iret hC hE (xdt tt_L_cyclesUntil 12 rfl)
def f_L_mainCauseIn_p3_0_5_0 (S : xSt) (r0 : Nat) (a1 : Int) (r2 : Nat) : Option (Int × xSt) :=
  bd2 (f_X11_mainCauseIn_p3_0 S r0 a1) fun v1 S2 =>
  ckX v1 (fun v5 =>
    ckR (wr v5) <|
    lt1 (wI S2 r2 0 0 (wr v5)) fun S11 =>
    some (0, S11)) (fun k6 =>
    if k6 = 2 then
      (some (1, S2))
    else none)
set_option maxRecDepth 100000 in
set_option maxHeartbeats 4000000 in
theorem c_L_mainCauseIn_p3_0_5_0 (l : Launch) (htr : l.stackTraces = false) {E : xE} {S S' : xSt} {r0 : Nat} {a1 : Int} {r2 : Nat} (hk0 : xkd E r0 = 3) (hA0 : xFam E r0) (hk2 : xkd E r2 = 5) {v : Int} (h : f_L_mainCauseIn_p3_0_5_0 S r0 a1 r2 = some (v, S')) : Met l yL_mainCauseIn (Cond.codeWith yL_mainCauseIn cL_mainCauseIn 4 (some .int) [(0, 9, 12, 29)] :: xw) (rmE 8 1) (YPc E [vr E r0 0, vi a1, vr E r2 0] S) (YQi E v S') 1 6 (xA E) := by
  unfold f_L_mainCauseIn_p3_0_5_0 at h
  refine metW htr (by decide +kernel) (Nat.le_of_ble_eq_true rfl) (fun K hC hZ hH hE => ?_)
  have hC : xOK K cL_mainCauseIn RL 4 (rmE 8 1) := hC
  show WG K E 0 [(0, vr E r0 0), (1, vi a1), (2, vr E r2 0)] [] S
  refine g_aload_n hC rfl 2 rfl (rfl : 0 + 1 = 1) (xdt tt_L_mainCauseIn 0 rfl) ?_
  refine g_iconst hC (rfl : 1 + 1 = 2) (xdt tt_L_mainCauseIn 1 rfl) ?_
  refine g_aload_n hC rfl 0 rfl (rfl : 2 + 1 = 3) (xdt tt_L_mainCauseIn 2 rfl) ?_
  refine g_iload_n hC rfl 1 rfl (rfl : 3 + 1 = 4) (xdt tt_L_mainCauseIn 3 rfl) ?_
  obtain ⟨v1, S2, hc3, h⟩ := bd2_i h
  refine g_callXi hC hZ hH hk0 kclX11 ly3_0 m_X11_mainCauseIn q1472 (Nat.le_of_ble_eq_true rfl) [vi a1] rfl (fun l htr => c_X11_mainCauseIn_p3_0 l htr hk0 hA0 hc3) rfl (Nat.le_of_ble_eq_true rfl) (xdt tt_L_mainCauseIn 4 rfl) (fun k6 hx4 => ?_) (fun v5 hx4 => ?_)
  · subst hx4
    replace h := ckX_r.symm.trans h
    by_cases hq9 : k6 = 2
    · replace h := (if_pos hq9).symm.trans h
      subst hq9
      refine ⟨[], _, _, rfl, (fun z hz => nomatch hz), by decide, by decide, q782, cst_2, fun a8 => ?_⟩
      have hC := bump_ok hC
      refine g_astore_n hC rfl (by decide) (lv' := [(3, .ref a8), (0, vr E r0 0), (1, vi a1), (2, vr E r2 0)]) rfl (rfl : 12 + 1 = 13) (xdt tt_L_mainCauseIn 8 rfl) ?_
      refine g_iconst hC (rfl : 13 + 1 = 14) (xdt tt_L_mainCauseIn 9 rfl) ?_
      cases h
      exact g_iret hC hE (xdt tt_L_mainCauseIn 10 rfl)
    · replace h := (if_neg hq9).symm.trans h
      cases h
  · subst hx4
    replace h := ckX_l.symm.trans h
    have hC := bump_ok hC
    refine g_i2l hC (rfl : 7 + 1 = 8) (xdt tt_L_mainCauseIn 5 rfl) ?_
    obtain ⟨hr10, h⟩ := ckR_i h
    obtain ⟨S11, hS11, h⟩ := lt1_i h
    refine g_last hC hk2 ly5_0 (by decide) hr10 (by decide) hS11 (rfl : 8 + 1 = 9) (xdt tt_L_mainCauseIn 6 rfl) ?_
    refine g_goto hC (show ((9 : Nat) : Int) + 6 = ((15 : Nat) : Int) by decide) (xdt tt_L_mainCauseIn 7 rfl) ?_
    refine g_iconst hC (rfl : 15 + 1 = 16) (xdt tt_L_mainCauseIn 11 rfl) ?_
    cases h
    exact g_iret hC hE (xdt tt_L_mainCauseIn 12 rfl)
def f_L_ruleGain_p3_0_5_0 (S : xSt) (r0 : Nat) (a1 : Int) (a2 : Int) (a3 : Int) (r4 : Nat) : Option (Int × xSt) :=
  bd2 (f_X11_ruleGain_p3_0 S r0 a1 a2 a3) fun v1 S2 =>
  ckX v1 (fun v5 =>
    ckR (wr v5) <|
    lt1 (wI S2 r4 0 0 (wr v5)) fun S11 =>
    some (0, S11)) (fun k6 =>
    if k6 = 2 then
      (some (1, S2))
    else none)
set_option maxRecDepth 100000 in
set_option maxHeartbeats 4000000 in
theorem c_L_ruleGain_p3_0_5_0 (l : Launch) (htr : l.stackTraces = false) {E : xE} {S S' : xSt} {r0 : Nat} {a1 : Int} {a2 : Int} {a3 : Int} {r4 : Nat} (hk0 : xkd E r0 = 3) (hA0 : xFam E r0) (hk4 : xkd E r4 = 5) {v : Int} (h : f_L_ruleGain_p3_0_5_0 S r0 a1 a2 a3 r4 = some (v, S')) : Met l yL_ruleGain (Cond.codeWith yL_ruleGain cL_ruleGain 6 (some .int) [(0, 12, 15, 29)] :: xw) (rmE 8 1) (YPc E [vr E r0 0, vi a1, vi a2, vi a3, vr E r4 0] S) (YQi E v S') 1 6 (xA E) := by
  unfold f_L_ruleGain_p3_0_5_0 at h
  refine metW htr (by decide +kernel) (Nat.le_of_ble_eq_true rfl) (fun K hC hZ hH hE => ?_)
  have hC : xOK K cL_ruleGain RL 6 (rmE 8 1) := hC
  show WG K E 0 [(0, vr E r0 0), (1, vi a1), (2, vi a2), (3, vi a3), (4, vr E r4 0)] [] S
  refine g_aload hC 4 rfl (rfl : 0 + 2 = 2) (xdt tt_L_ruleGain 0 rfl) ?_
  refine g_iconst hC (rfl : 2 + 1 = 3) (xdt tt_L_ruleGain 1 rfl) ?_
  refine g_aload_n hC rfl 0 rfl (rfl : 3 + 1 = 4) (xdt tt_L_ruleGain 2 rfl) ?_
  refine g_iload_n hC rfl 1 rfl (rfl : 4 + 1 = 5) (xdt tt_L_ruleGain 3 rfl) ?_
  refine g_iload_n hC rfl 2 rfl (rfl : 5 + 1 = 6) (xdt tt_L_ruleGain 4 rfl) ?_
  refine g_iload_n hC rfl 3 rfl (rfl : 6 + 1 = 7) (xdt tt_L_ruleGain 5 rfl) ?_
  obtain ⟨v1, S2, hc3, h⟩ := bd2_i h
  refine g_callXi hC hZ hH hk0 kclX11 ly3_0 m_X11_ruleGain q1483 (Nat.le_of_ble_eq_true rfl) [vi a1, vi a2, vi a3] rfl (fun l htr => c_X11_ruleGain_p3_0 l htr hk0 hA0 hc3) rfl (Nat.le_of_ble_eq_true rfl) (xdt tt_L_ruleGain 6 rfl) (fun k6 hx4 => ?_) (fun v5 hx4 => ?_)
  · subst hx4
    replace h := ckX_r.symm.trans h
    by_cases hq9 : k6 = 2
    · replace h := (if_pos hq9).symm.trans h
      subst hq9
      refine ⟨[], _, _, rfl, (fun z hz => nomatch hz), by decide, by decide, q782, cst_2, fun a8 => ?_⟩
      have hC := bump_ok hC
      refine g_astore hC (by decide) (lv' := [(5, .ref a8), (0, vr E r0 0), (1, vi a1), (2, vi a2), (3, vi a3), (4, vr E r4 0)]) rfl (rfl : 15 + 2 = 17) (xdt tt_L_ruleGain 10 rfl) ?_
      refine g_iconst hC (rfl : 17 + 1 = 18) (xdt tt_L_ruleGain 11 rfl) ?_
      cases h
      exact g_iret hC hE (xdt tt_L_ruleGain 12 rfl)
    · replace h := (if_neg hq9).symm.trans h
      cases h
  · subst hx4
    replace h := ckX_l.symm.trans h
    have hC := bump_ok hC
    refine g_i2l hC (rfl : 10 + 1 = 11) (xdt tt_L_ruleGain 7 rfl) ?_
    obtain ⟨hr10, h⟩ := ckR_i h
    obtain ⟨S11, hS11, h⟩ := lt1_i h
    refine g_last hC hk4 ly5_0 (by decide) hr10 (by decide) hS11 (rfl : 11 + 1 = 12) (xdt tt_L_ruleGain 8 rfl) ?_
    refine g_goto hC (show ((12 : Nat) : Int) + 7 = ((19 : Nat) : Int) by decide) (xdt tt_L_ruleGain 9 rfl) ?_
    refine g_iconst hC (rfl : 19 + 1 = 20) (xdt tt_L_ruleGain 13 rfl) ?_
    cases h
    exact g_iret hC hE (xdt tt_L_ruleGain 14 rfl)
def f_L_printInstruction_p3_0_5_0 (S : xSt) (r0 : Nat) (a1 : Int) (r2 : Nat) : Option (Int × xSt) :=
  bd2 (f_X11_printInstruction_p3_0 S r0 a1) fun v1 S2 =>
  ckX v1 (fun v5 =>
    ckR (wr v5) <|
    lt1 (wI S2 r2 0 0 (wr v5)) fun S11 =>
    some (0, S11)) (fun k6 =>
    if k6 = 1 then
      (some (1, S2))
    else none)
set_option maxRecDepth 100000 in
set_option maxHeartbeats 4000000 in
theorem c_L_printInstruction_p3_0_5_0 (l : Launch) (htr : l.stackTraces = false) {E : xE} {S S' : xSt} {r0 : Nat} {a1 : Int} {r2 : Nat} (hk0 : xkd E r0 = 3) (hA0 : xFam E r0) (hk2 : xkd E r2 = 5) {v : Int} (h : f_L_printInstruction_p3_0_5_0 S r0 a1 r2 = some (v, S')) : Met l yL_printInstruction (Cond.codeWith yL_printInstruction cL_printInstruction 4 (some .int) [(0, 9, 12, 13)] :: xw) (rmE 8 1) (YPc E [vr E r0 0, vi a1, vr E r2 0] S) (YQi E v S') 1 6 (xA E) := by
  unfold f_L_printInstruction_p3_0_5_0 at h
  refine metW htr (by decide +kernel) (Nat.le_of_ble_eq_true rfl) (fun K hC hZ hH hE => ?_)
  have hC : xOK K cL_printInstruction RL 4 (rmE 8 1) := hC
  show WG K E 0 [(0, vr E r0 0), (1, vi a1), (2, vr E r2 0)] [] S
  refine g_aload_n hC rfl 2 rfl (rfl : 0 + 1 = 1) (xdt tt_L_printInstruction 0 rfl) ?_
  refine g_iconst hC (rfl : 1 + 1 = 2) (xdt tt_L_printInstruction 1 rfl) ?_
  refine g_aload_n hC rfl 0 rfl (rfl : 2 + 1 = 3) (xdt tt_L_printInstruction 2 rfl) ?_
  refine g_iload_n hC rfl 1 rfl (rfl : 3 + 1 = 4) (xdt tt_L_printInstruction 3 rfl) ?_
  obtain ⟨v1, S2, hc3, h⟩ := bd2_i h
  refine g_callXi hC hZ hH hk0 kclX11 ly3_0 m_X11_printInstruction q1498 (Nat.le_of_ble_eq_true rfl) [vi a1] rfl (fun l htr => c_X11_printInstruction_p3_0 l htr hk0 hA0 hc3) rfl (Nat.le_of_ble_eq_true rfl) (xdt tt_L_printInstruction 4 rfl) (fun k6 hx4 => ?_) (fun v5 hx4 => ?_)
  · subst hx4
    replace h := ckX_r.symm.trans h
    by_cases hq9 : k6 = 1
    · replace h := (if_pos hq9).symm.trans h
      subst hq9
      refine ⟨[], _, _, rfl, (fun z hz => nomatch hz), by decide, by decide, q618, cst_1, fun a8 => ?_⟩
      have hC := bump_ok hC
      refine g_astore_n hC rfl (by decide) (lv' := [(3, .ref a8), (0, vr E r0 0), (1, vi a1), (2, vr E r2 0)]) rfl (rfl : 12 + 1 = 13) (xdt tt_L_printInstruction 8 rfl) ?_
      refine g_iconst hC (rfl : 13 + 1 = 14) (xdt tt_L_printInstruction 9 rfl) ?_
      cases h
      exact g_iret hC hE (xdt tt_L_printInstruction 10 rfl)
    · replace h := (if_neg hq9).symm.trans h
      cases h
  · subst hx4
    replace h := ckX_l.symm.trans h
    have hC := bump_ok hC
    refine g_i2l hC (rfl : 7 + 1 = 8) (xdt tt_L_printInstruction 5 rfl) ?_
    obtain ⟨hr10, h⟩ := ckR_i h
    obtain ⟨S11, hS11, h⟩ := lt1_i h
    refine g_last hC hk2 ly5_0 (by decide) hr10 (by decide) hS11 (rfl : 8 + 1 = 9) (xdt tt_L_printInstruction 6 rfl) ?_
    refine g_goto hC (show ((9 : Nat) : Int) + 6 = ((15 : Nat) : Int) by decide) (xdt tt_L_printInstruction 7 rfl) ?_
    refine g_iconst hC (rfl : 15 + 1 = 16) (xdt tt_L_printInstruction 11 rfl) ?_
    cases h
    exact g_iret hC hE (xdt tt_L_printInstruction 12 rfl)
def f_L_restoreState_p3_0_5_0 (S : xSt) (r0 : Nat) (r1 : Nat) : Option (Int × xSt) :=
  bd2 (f_X11_restoreState_p3_0 S r0) fun v1 S2 =>
  ckX v1 (fun v5 =>
    ckR (wr v5) <|
    lt1 (wI S2 r1 0 0 (wr v5)) fun S11 =>
    some (0, S11)) (fun k6 =>
    if k6 = 3 then
      (some (1, S2))
    else none)
set_option maxRecDepth 100000 in
set_option maxHeartbeats 4000000 in
theorem c_L_restoreState_p3_0_5_0 (l : Launch) (htr : l.stackTraces = false) {E : xE} {S S' : xSt} {r0 : Nat} {r1 : Nat} (hk0 : xkd E r0 = 3) (hA0 : xFam E r0) (hk1 : xkd E r1 = 5) {v : Int} (h : f_L_restoreState_p3_0_5_0 S r0 r1 = some (v, S')) : Met l yL_restoreState (Cond.codeWith yL_restoreState cL_restoreState 3 (some .int) [(0, 8, 11, 70)] :: xw) (rmE 7 1) (YPc E [vr E r0 0, vr E r1 0] S) (YQi E v S') 1 6 (xA E) := by
  unfold f_L_restoreState_p3_0_5_0 at h
  refine metW htr (by decide +kernel) (Nat.le_of_ble_eq_true rfl) (fun K hC hZ hH hE => ?_)
  have hC : xOK K cL_restoreState RL 3 (rmE 7 1) := hC
  show WG K E 0 [(0, vr E r0 0), (1, vr E r1 0)] [] S
  refine g_aload_n hC rfl 1 rfl (rfl : 0 + 1 = 1) (xdt tt_L_restoreState 0 rfl) ?_
  refine g_iconst hC (rfl : 1 + 1 = 2) (xdt tt_L_restoreState 1 rfl) ?_
  refine g_aload_n hC rfl 0 rfl (rfl : 2 + 1 = 3) (xdt tt_L_restoreState 2 rfl) ?_
  obtain ⟨v1, S2, hc3, h⟩ := bd2_i h
  refine g_callXi hC hZ hH hk0 kclX11 ly3_0 m_X11_restoreState q1561 (Nat.le_of_ble_eq_true rfl) [] rfl (fun l htr => c_X11_restoreState_p3_0 l htr hk0 hA0 hc3) rfl (Nat.le_of_ble_eq_true rfl) (xdt tt_L_restoreState 3 rfl) (fun k6 hx4 => ?_) (fun v5 hx4 => ?_)
  · subst hx4
    replace h := ckX_r.symm.trans h
    by_cases hq9 : k6 = 3
    · replace h := (if_pos hq9).symm.trans h
      subst hq9
      refine ⟨[], _, _, rfl, (fun z hz => nomatch hz), by decide, by decide, q1281, cst_3, fun a8 => ?_⟩
      have hC := bump_ok hC
      refine g_astore_n hC rfl (by decide) (lv' := [(2, .ref a8), (0, vr E r0 0), (1, vr E r1 0)]) rfl (rfl : 11 + 1 = 12) (xdt tt_L_restoreState 7 rfl) ?_
      refine g_iconst hC (rfl : 12 + 1 = 13) (xdt tt_L_restoreState 8 rfl) ?_
      cases h
      exact g_iret hC hE (xdt tt_L_restoreState 9 rfl)
    · replace h := (if_neg hq9).symm.trans h
      cases h
  · subst hx4
    replace h := ckX_l.symm.trans h
    have hC := bump_ok hC
    refine g_i2l hC (rfl : 6 + 1 = 7) (xdt tt_L_restoreState 4 rfl) ?_
    obtain ⟨hr10, h⟩ := ckR_i h
    obtain ⟨S11, hS11, h⟩ := lt1_i h
    refine g_last hC hk1 ly5_0 (by decide) hr10 (by decide) hS11 (rfl : 7 + 1 = 8) (xdt tt_L_restoreState 5 rfl) ?_
    refine g_goto hC (show ((8 : Nat) : Int) + 6 = ((14 : Nat) : Int) by decide) (xdt tt_L_restoreState 6 rfl) ?_
    refine g_iconst hC (rfl : 14 + 1 = 15) (xdt tt_L_restoreState 10 rfl) ?_
    cases h
    exact g_iret hC hE (xdt tt_L_restoreState 11 rfl)
