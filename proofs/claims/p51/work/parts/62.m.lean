/-! mathematics: what begin makes is in order -/
section C21
variable {G π : xR}
theorem bg_fi (hR : PR π) (zG : ZB G) : FI π 0 (bgF π G) := by
  obtain ⟨p0, p1, p2, p3, p4, p5, p6, p7, p8, p9, p10⟩ := id hR
  have e1 : ∀ k, k < 6 → bgF π G 1 k = π 1 k := fun k hk => cpI_0 hk
  have e3 : ∀ k, k < 7 → bgF π G 3 k = π 3 k := fun k hk => cpI_0 hk
  have e4 : ∀ k, k < 7 → bgF π G 4 k = π 4 k := fun k hk => cpI_0 hk
  have c0 := e1 0 (by decide)
  have c1 := e1 1 (by decide)
  have c2 := e1 2 (by decide)
  have c3 := e1 3 (by decide)
  have c4 := e1 4 (by decide)
  have c5 := e1 5 (by decide)
  have v0_9 : bgF π G 0 9 = -1 := rfl
  have v0_10 : bgF π G 0 10 = 0 := rfl
  have v0_11 : bgF π G 0 11 = 0 := rfl
  have v0_12 : bgF π G 0 12 = 0 := rfl
  have v0_13 : bgF π G 0 13 = 0 := rfl
  have v0_14 : bgF π G 0 14 = 0 := rfl
  have v0_15 : bgF π G 0 15 = 0 := rfl
  have v0_16 : bgF π G 0 16 = 0 := rfl
  have v0_17 : bgF π G 0 17 = 0 := rfl
  have v5_2 : bgF π G 5 2 = 0 := rfl
  have v8_0 : bgF π G 8 0 = 0 := rfl
  have v11_1 : bgF π G 11 1 = 0 := rfl
  have v14_4 : bgF π G 14 4 = 0 := rfl
  have v15 : ∀ k, bgF π G 15 k = 0 := fun k => rfl
  have v16 : ∀ k, bgF π G 16 k = 0 := fun k => rfl
  have v17 : ∀ k, bgF π G 17 k = 0 := fun k => rfl
  have v13 : ∀ k, bgF π G 13 k = 0 := fun k => rfl
  have v10 : ∀ k, bgF π G 10 k = 0 := fun k => rfl
  have v19 : ∀ k, bgF π G 19 k = 0 := fun k => rfl
  have hsm : ∀ m, sm (bgF π G 17) m = 0 := by
    intro m
    induction m with
    | zero => rfl
    | succ m ih =>
      show sm (bgF π G 17) m + bgF π G 17 m = 0
      rw [ih, v17]
      rfl
  refine ⟨⟨by omega, by omega, by omega, c1, c2, c3, by omega, Or.inl v0_11, Or.inl v0_13, by omega, by omega, by omega, by omega, by omega, by omega, by omega, Or.inl v8_0, rfl⟩, fun j hj => ⟨e3 j hj, e4 j hj⟩, fun j hj => ?_, ⟨fun k hk => ⟨Or.inl (v19 k), fun h => ?_⟩, fun k hk h9 => ?_⟩, ⟨?_, fun k hk h9 => ?_⟩, fun h => ?_, fun _ => ⟨fun h => ?_, fun j hj => ?_, fun _ => ?_, fun j hj => ?_⟩, ⟨fun k => ?_, ?_, ?_, fun h => ?_⟩, ⟨fun k => ?_, fun k => ?_, ?_, ?_, ?_⟩, bg_z zG⟩
  · rw [v5_2] at hj
    omega
  · rw [v19] at h
    omega
  · rw [v10, v13]
  · rw [v15, v11_1]
    rfl
  · rw [v15, v13]
    rfl
  · rw [v8_0] at h
    omega
  · rw [v5_2] at h
    omega
  · rw [v5_2] at hj
    omega
  · rw [v0_10, v11_1]
  · rw [v5_2] at hj
    omega
  · rw [v17, v15]
    decide
  · rw [hsm, v15]
  · rw [v14_4, v15]
  · rw [v15] at h
    omega
  · rw [v15]
    decide
  · rw [v16]
    decide
  · rw [v15, v15]
    decide
  · rw [v15, v15]
    decide
  · rw [v0_14, v15]
    decide
end C21
