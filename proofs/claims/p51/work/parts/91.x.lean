/-! the mathematics meets the machine -/
theorem math_ok : MATHOK := by
  intro E n q hE hn hq
  obtain ⟨S1, S2, S3, S4, S5, S6, S7, S8, S9, S10, S11, S12, hch, hk, hf, -, -, k11, k12⟩ := st_chain (E := E) (S := ((10000000, fun _ => 0), (fun _ _ _ => 0), fun _ _ _ => nul)) hE (Nat.le_refl _)
  refine ⟨S1, S2, S3, S4, S5, S6, S7, S8, S9, S10, S11, S12, hch, fun k h1 h2 => (hk k ⟨h1, h2⟩).1, ?_, law_ok hn hf (fun k h => (hk k h).2.1) k11 k12⟩
  show 5 ≤ S12.1.1
  omega
theorem whole_start {p : Program} {e : Env} {s : State} {m : MethodId} {below : List Frame} {meth : Method} {c : Code} (l : Launch) (hflags : l.flags = flags0) {b L : Nat} {xs : Nat → Int32} (hL : L ≤ 260) (C0 : lw_At p s m meth c b L xs) : W p l e room_1 s m #[Value.ref b] below meth c s.heap [] 0 0 (lw_Z below #[Value.ref b] s) (entryFrame m ([Value.ref b] : List Value).toArray 17) := whole_of math_ok l hflags hL C0
