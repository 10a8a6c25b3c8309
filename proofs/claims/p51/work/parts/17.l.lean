theorem rm_gen {R : Room} {d' maxL : Nat} (h : d' + 1 ≤ R.frames ∧ 28 * (d' + 1) ≤ R.locals) (hm : maxL ≤ 9) (b : Nat) : (rmE d' b).frames + 1 ≤ R.frames ∧ 8 + (maxL + 11) + (rmE d' b).locals ≤ R.locals := by
  refine ⟨h.1, ?_⟩
  show 8 + (maxL + 11) + 28 * d' ≤ R.locals
  omega
theorem cw_L {R : Room} {s : State} {args : Array Value} {own C : String} {y : MethodName} {bytes : ByteArray} {maxL : Nat} {ret : Option FieldType} {na idx d' : Nat} (hts : ∀ w ∈ xw, w.before args s = true) (hy : mI y C bytes maxL ret na) (hlink : Cond.methodLink own idx y ∈ xw) (hR : d' + 1 ≤ R.frames ∧ 28 * (d' + 1) ≤ R.locals) : CallW R s args own C idx y bytes maxL ret (xws y bytes maxL ret) (rmD d') 0 0 na := by
  refine cwV na hts (good_all fun w hw => ?_) rfl rfl rfl hy.2.1 (rm_gen hR hy.2.2 0)
  rcases List.mem_append.mp hw with h | h
  · simp only [List.mem_cons, List.not_mem_nil, or_false] at h
    rcases h with rfl | rfl | rfl | rfl
    · exact hlink
    · exact hy.1.1
    · exact hy.1.2.1
    · exact hy.1.2.2.1
  · rcases List.mem_cons.mp h with rfl | h
    · exact hy.1.2.2.2
    · exact h
theorem cw_LS {R : Room} {s : State} {args : Array Value} {own : String} {y : MethodName} {bytes : ByteArray} {maxL : Nat} {ret : Option FieldType} {na idx d' : Nat} (hts : ∀ w ∈ xw, w.before args s = true) (hy : mS y bytes maxL ret na) (hlink : Cond.methodLink own idx y ∈ xw) (hR : d' + 1 ≤ R.frames ∧ 28 * (d' + 1) ≤ R.locals) : CallB R s args own idx y bytes maxL ret (xws y bytes maxL ret) (rmD d') 0 0 na ∧ (Cond.static y).before args s = true := by
  refine ⟨callB_of na hts (good_all fun w hw => ?_) rfl rfl rfl (hts _ hy.1.2.1) (hts _ hlink) hy.2.1 (rm_gen hR hy.2.2 0), hts _ hy.1.1⟩
  rcases List.mem_cons.mp hw with rfl | h
  · exact hy.1.2.2
  · exact h
