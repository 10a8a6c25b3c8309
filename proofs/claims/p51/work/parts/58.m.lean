/-! mathematics: one Front becomes another -/
/-- all that copyFrom copies -/
def cpF (F A : xR) : xR := uF (uF (uF (uF (uF (uF (uF (uF (uF (uG (uF (uG (uG (uG (uG (uF (uG (uG (uF (uF (uF (uF (uF (uF (uG (uG (uF (uG (uG (uG F 1 (A 1)) 3 (A 3)) 4 (A 4)) 2 2 (A 2 2)) 6 (A 6)) 7 (A 7)) 5 2 (A 5 2)) 8 0 (A 8 0)) 8 1 (A 8 1)) 8 2 (A 8 2)) 8 3 (A 8 3)) 8 4 (A 8 4)) 10 (A 10)) 13 (A 13)) 11 1 (A 11 1)) 15 (A 15)) 16 (A 16)) 17 (A 17)) 18 (A 18)) 14 4 (A 14 4)) 19 (A 19)) 0 9 (A 0 9)) 0 10 (A 0 10)) 0 11 (A 0 11)) 0 12 (A 0 12)) 0 13 (A 0 13)) 0 14 (A 0 14)) 0 15 (A 0 15)) 0 16 (A 0 16)) 0 17 (A 0 17)
theorem cp_z {F A : xR} (hz : ZB F) (zA : ZB A) : ZB (cpF F A) := by
  unfold cpF
  repeat' first | exact hz | refine zb_F ?_ rfl | refine zb_G ?_ (zA _)
theorem cp_0 {F A : xR} {k : Nat} (h : 9 ≤ k ∧ k ≤ 17) : cpF F A 0 k = A 0 k := by
  have h9 : k = 9 ∨ k = 10 ∨ k = 11 ∨ k = 12 ∨ k = 13 ∨ k = 14 ∨ k = 15 ∨ k = 16 ∨ k = 17 := by omega
  rcases h9 with rfl | rfl | rfl | rfl | rfl | rfl | rfl | rfl | rfl <;> rfl
theorem cp_8 {F A : xR} {k : Nat} (h : k < 5) : cpF F A 8 k = A 8 k := by
  have h9 : k = 0 ∨ k = 1 ∨ k = 2 ∨ k = 3 ∨ k = 4 := by omega
  rcases h9 with rfl | rfl | rfl | rfl | rfl <;> rfl
theorem cp_all {F A : xR} (hz : ZB F) (zA : ZB A) : cpF F A = A := by
  funext o k
  by_cases h : inb o k = true
  · unfold inb at h
    split at h
    · exact cp_0 (of_decide_eq_true h)
    · rfl
    · have e := of_decide_eq_true h
      rw [e]
      rfl
    · rfl
    · rfl
    · have e := of_decide_eq_true h
      rw [e]
      rfl
    · rfl
    · rfl
    · exact cp_8 (of_decide_eq_true h)
    · rfl
    · have e := of_decide_eq_true h
      rw [e]
      rfl
    · rfl
    · have e := of_decide_eq_true h
      rw [e]
      rfl
    · rfl
    · rfl
    · rfl
    · rfl
    · rfl
    · cases h
  · have h' : inb o k = false := by
      cases hb : inb o k with
      | true => exact absurd hb h
      | false => rfl
    rw [zA o k h', cp_z hz zA o k h']
theorem cp_row {T : xSt} {r0 r1 o a b n : Nat} {F A : xR} (h : r1 ≠ r0) (hA : T.2.1 r1 = A) (ha : a = 0) (hb : b = 0) (zA : ∀ k, ¬ k < n → A o k = 0) (zF : ∀ k, ¬ k < n → F o k = 0) : wA (sR T r0 F) r0 o (cpI ((sR T r0 F).2.1 r1 o) ((sR T r0 F).2.1 r0 o) a b n) = sR T r0 (uG F o (A o)) := by
  subst ha hb
  have e : cpI (A o) (F o) 0 0 n = A o := by
    funext k
    by_cases c : k < n
    · exact cpI_0 c
    · unfold cpI
      rw [if_neg (by omega), zA k c, zF k c]
  rw [sR_a, sR_g1, sR_n1 h, hA, e]
