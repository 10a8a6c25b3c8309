/-! mathematics: the makers one behind the other -/
theorem st_chain {E : xE} {S : xSt} (hE : ∀ r, xkd E r = 0) (f0 : 10000000 ≤ S.1.1) : ∃ S1 S2 S3 S4 S5 S6 S7 S8 S9 S10 S11 S12 : xSt, CHAIN E S S1 S2 S3 S4 S5 S6 S7 S8 S9 S10 S11 S12 ∧ (∀ k : Nat, 1 ≤ k ∧ k ≤ 9 → S12.2.2 k 0 0 = (11, 0) ∧ ZB (S12.2.1 k) ∧ S12.1.2 k = 1) ∧ 10000000 ≤ S12.1.1 ∧ (S12.2.1 10 = CLR ∧ S12.2.1 11 = CLR ∧ S12.2.1 12 = CLR) ∧ S12.1.2 10 = 2 ∧ S12.1.2 11 = 2 ∧ S12.1.2 12 = 2 := by
  obtain ⟨S1, c1, t1, y1_10⟩ := st_clear S 10
  have f1 : 10000000 ≤ S1.1.1 := by rw [t1.1]; exact f0
  have k1_10 : S1.1.2 10 = 2 := t1.2.1
  obtain ⟨S2, c2, t2, y2_11⟩ := st_clear S1 11
  have f2 : 10000000 ≤ S2.1.1 := by rw [t2.1]; exact f1
  have k2_11 : S2.1.2 11 = 2 := t2.2.1
  have y2_10 : S2.2.1 10 = CLR := by rw [t2.2.2.2.1 10 (by decide), y1_10]
  have k2_10 : S2.1.2 10 = 2 := by rw [t2.2.2.1 10 (by decide), k1_10]
  obtain ⟨S3, c3, t3, y3_12⟩ := st_clear S2 12
  have f3 : 10000000 ≤ S3.1.1 := by rw [t3.1]; exact f2
  have k3_12 : S3.1.2 12 = 2 := t3.2.1
  have y3_10 : S3.2.1 10 = CLR := by rw [t3.2.2.2.1 10 (by decide), y2_10]
  have k3_10 : S3.1.2 10 = 2 := by rw [t3.2.2.1 10 (by decide), k2_10]
  have y3_11 : S3.2.1 11 = CLR := by rw [t3.2.2.2.1 11 (by decide), y2_11]
  have k3_11 : S3.1.2 11 = 2 := by rw [t3.2.2.1 11 (by decide), k2_11]
  obtain ⟨S4, c4, t4, p4_1, z4_1⟩ := st_begin (S := S3) (r := 1) f3 (q := 11) (by decide)
  have f4 : 10000000 ≤ S4.1.1 := by rw [t4.1]; exact f3
  have k4_1 : S4.1.2 1 = 1 := t4.2.1
  have y4_10 : S4.2.1 10 = CLR := by rw [t4.2.2.2.1 10 (by decide), y3_10]
  have k4_10 : S4.1.2 10 = 2 := by rw [t4.2.2.1 10 (by decide), k3_10]
  have y4_11 : S4.2.1 11 = CLR := by rw [t4.2.2.2.1 11 (by decide), y3_11]
  have k4_11 : S4.1.2 11 = 2 := by rw [t4.2.2.1 11 (by decide), k3_11]
  have y4_12 : S4.2.1 12 = CLR := by rw [t4.2.2.2.1 12 (by decide), y3_12]
  have k4_12 : S4.1.2 12 = 2 := by rw [t4.2.2.1 12 (by decide), k3_12]
  obtain ⟨S5, c5, t5, p5_2, z5_2⟩ := st_begin (S := S4) (r := 2) f4 (q := 11) (by decide)
  have f5 : 10000000 ≤ S5.1.1 := by rw [t5.1]; exact f4
  have k5_2 : S5.1.2 2 = 1 := t5.2.1
  have y5_10 : S5.2.1 10 = CLR := by rw [t5.2.2.2.1 10 (by decide), y4_10]
  have k5_10 : S5.1.2 10 = 2 := by rw [t5.2.2.1 10 (by decide), k4_10]
  have y5_11 : S5.2.1 11 = CLR := by rw [t5.2.2.2.1 11 (by decide), y4_11]
  have k5_11 : S5.1.2 11 = 2 := by rw [t5.2.2.1 11 (by decide), k4_11]
  have y5_12 : S5.2.1 12 = CLR := by rw [t5.2.2.2.1 12 (by decide), y4_12]
  have k5_12 : S5.1.2 12 = 2 := by rw [t5.2.2.1 12 (by decide), k4_12]
  have p5_1 : S5.2.2 1 0 0 = (11, 0) := by rw [t5.2.2.2.2 1 (by decide), p4_1]
  have z5_1 : ZB (S5.2.1 1) := by rw [t5.2.2.2.1 1 (by decide)]; exact z4_1
  have k5_1 : S5.1.2 1 = 1 := by rw [t5.2.2.1 1 (by decide), k4_1]
  obtain ⟨S6, c6, t6, p6_3, z6_3⟩ := st_begin (S := S5) (r := 3) f5 (q := 11) (by decide)
  have f6 : 10000000 ≤ S6.1.1 := by rw [t6.1]; exact f5
  have k6_3 : S6.1.2 3 = 1 := t6.2.1
  have y6_10 : S6.2.1 10 = CLR := by rw [t6.2.2.2.1 10 (by decide), y5_10]
  have k6_10 : S6.1.2 10 = 2 := by rw [t6.2.2.1 10 (by decide), k5_10]
  have y6_11 : S6.2.1 11 = CLR := by rw [t6.2.2.2.1 11 (by decide), y5_11]
  have k6_11 : S6.1.2 11 = 2 := by rw [t6.2.2.1 11 (by decide), k5_11]
  have y6_12 : S6.2.1 12 = CLR := by rw [t6.2.2.2.1 12 (by decide), y5_12]
  have k6_12 : S6.1.2 12 = 2 := by rw [t6.2.2.1 12 (by decide), k5_12]
  have p6_1 : S6.2.2 1 0 0 = (11, 0) := by rw [t6.2.2.2.2 1 (by decide), p5_1]
  have z6_1 : ZB (S6.2.1 1) := by rw [t6.2.2.2.1 1 (by decide)]; exact z5_1
  have k6_1 : S6.1.2 1 = 1 := by rw [t6.2.2.1 1 (by decide), k5_1]
  have p6_2 : S6.2.2 2 0 0 = (11, 0) := by rw [t6.2.2.2.2 2 (by decide), p5_2]
  have z6_2 : ZB (S6.2.1 2) := by rw [t6.2.2.2.1 2 (by decide)]; exact z5_2
  have k6_2 : S6.1.2 2 = 1 := by rw [t6.2.2.1 2 (by decide), k5_2]
  obtain ⟨S7, c7, t7, p7_4, z7_4⟩ := st_begin (S := S6) (r := 4) f6 (q := 11) (by decide)
  have f7 : 10000000 ≤ S7.1.1 := by rw [t7.1]; exact f6
  have k7_4 : S7.1.2 4 = 1 := t7.2.1
  have y7_10 : S7.2.1 10 = CLR := by rw [t7.2.2.2.1 10 (by decide), y6_10]
  have k7_10 : S7.1.2 10 = 2 := by rw [t7.2.2.1 10 (by decide), k6_10]
  have y7_11 : S7.2.1 11 = CLR := by rw [t7.2.2.2.1 11 (by decide), y6_11]
  have k7_11 : S7.1.2 11 = 2 := by rw [t7.2.2.1 11 (by decide), k6_11]
  have y7_12 : S7.2.1 12 = CLR := by rw [t7.2.2.2.1 12 (by decide), y6_12]
  have k7_12 : S7.1.2 12 = 2 := by rw [t7.2.2.1 12 (by decide), k6_12]
  have p7_1 : S7.2.2 1 0 0 = (11, 0) := by rw [t7.2.2.2.2 1 (by decide), p6_1]
  have z7_1 : ZB (S7.2.1 1) := by rw [t7.2.2.2.1 1 (by decide)]; exact z6_1
  have k7_1 : S7.1.2 1 = 1 := by rw [t7.2.2.1 1 (by decide), k6_1]
  have p7_2 : S7.2.2 2 0 0 = (11, 0) := by rw [t7.2.2.2.2 2 (by decide), p6_2]
  have z7_2 : ZB (S7.2.1 2) := by rw [t7.2.2.2.1 2 (by decide)]; exact z6_2
  have k7_2 : S7.1.2 2 = 1 := by rw [t7.2.2.1 2 (by decide), k6_2]
  have p7_3 : S7.2.2 3 0 0 = (11, 0) := by rw [t7.2.2.2.2 3 (by decide), p6_3]
  have z7_3 : ZB (S7.2.1 3) := by rw [t7.2.2.2.1 3 (by decide)]; exact z6_3
  have k7_3 : S7.1.2 3 = 1 := by rw [t7.2.2.1 3 (by decide), k6_3]
  obtain ⟨S8, c8, t8, p8_5, z8_5⟩ := st_begin (S := S7) (r := 5) f7 (q := 11) (by decide)
  have f8 : 10000000 ≤ S8.1.1 := by rw [t8.1]; exact f7
  have k8_5 : S8.1.2 5 = 1 := t8.2.1
  have y8_10 : S8.2.1 10 = CLR := by rw [t8.2.2.2.1 10 (by decide), y7_10]
  have k8_10 : S8.1.2 10 = 2 := by rw [t8.2.2.1 10 (by decide), k7_10]
  have y8_11 : S8.2.1 11 = CLR := by rw [t8.2.2.2.1 11 (by decide), y7_11]
  have k8_11 : S8.1.2 11 = 2 := by rw [t8.2.2.1 11 (by decide), k7_11]
  have y8_12 : S8.2.1 12 = CLR := by rw [t8.2.2.2.1 12 (by decide), y7_12]
  have k8_12 : S8.1.2 12 = 2 := by rw [t8.2.2.1 12 (by decide), k7_12]
  have p8_1 : S8.2.2 1 0 0 = (11, 0) := by rw [t8.2.2.2.2 1 (by decide), p7_1]
  have z8_1 : ZB (S8.2.1 1) := by rw [t8.2.2.2.1 1 (by decide)]; exact z7_1
  have k8_1 : S8.1.2 1 = 1 := by rw [t8.2.2.1 1 (by decide), k7_1]
  have p8_2 : S8.2.2 2 0 0 = (11, 0) := by rw [t8.2.2.2.2 2 (by decide), p7_2]
  have z8_2 : ZB (S8.2.1 2) := by rw [t8.2.2.2.1 2 (by decide)]; exact z7_2
  have k8_2 : S8.1.2 2 = 1 := by rw [t8.2.2.1 2 (by decide), k7_2]
  have p8_3 : S8.2.2 3 0 0 = (11, 0) := by rw [t8.2.2.2.2 3 (by decide), p7_3]
  have z8_3 : ZB (S8.2.1 3) := by rw [t8.2.2.2.1 3 (by decide)]; exact z7_3
  have k8_3 : S8.1.2 3 = 1 := by rw [t8.2.2.1 3 (by decide), k7_3]
  have p8_4 : S8.2.2 4 0 0 = (11, 0) := by rw [t8.2.2.2.2 4 (by decide), p7_4]
  have z8_4 : ZB (S8.2.1 4) := by rw [t8.2.2.2.1 4 (by decide)]; exact z7_4
  have k8_4 : S8.1.2 4 = 1 := by rw [t8.2.2.1 4 (by decide), k7_4]
  obtain ⟨S9, c9, t9, p9_6, z9_6⟩ := st_begin (S := S8) (r := 6) f8 (q := 11) (by decide)
  have f9 : 10000000 ≤ S9.1.1 := by rw [t9.1]; exact f8
  have k9_6 : S9.1.2 6 = 1 := t9.2.1
  have y9_10 : S9.2.1 10 = CLR := by rw [t9.2.2.2.1 10 (by decide), y8_10]
  have k9_10 : S9.1.2 10 = 2 := by rw [t9.2.2.1 10 (by decide), k8_10]
  have y9_11 : S9.2.1 11 = CLR := by rw [t9.2.2.2.1 11 (by decide), y8_11]
  have k9_11 : S9.1.2 11 = 2 := by rw [t9.2.2.1 11 (by decide), k8_11]
  have y9_12 : S9.2.1 12 = CLR := by rw [t9.2.2.2.1 12 (by decide), y8_12]
  have k9_12 : S9.1.2 12 = 2 := by rw [t9.2.2.1 12 (by decide), k8_12]
  have p9_1 : S9.2.2 1 0 0 = (11, 0) := by rw [t9.2.2.2.2 1 (by decide), p8_1]
  have z9_1 : ZB (S9.2.1 1) := by rw [t9.2.2.2.1 1 (by decide)]; exact z8_1
  have k9_1 : S9.1.2 1 = 1 := by rw [t9.2.2.1 1 (by decide), k8_1]
  have p9_2 : S9.2.2 2 0 0 = (11, 0) := by rw [t9.2.2.2.2 2 (by decide), p8_2]
  have z9_2 : ZB (S9.2.1 2) := by rw [t9.2.2.2.1 2 (by decide)]; exact z8_2
  have k9_2 : S9.1.2 2 = 1 := by rw [t9.2.2.1 2 (by decide), k8_2]
  have p9_3 : S9.2.2 3 0 0 = (11, 0) := by rw [t9.2.2.2.2 3 (by decide), p8_3]
  have z9_3 : ZB (S9.2.1 3) := by rw [t9.2.2.2.1 3 (by decide)]; exact z8_3
  have k9_3 : S9.1.2 3 = 1 := by rw [t9.2.2.1 3 (by decide), k8_3]
  have p9_4 : S9.2.2 4 0 0 = (11, 0) := by rw [t9.2.2.2.2 4 (by decide), p8_4]
  have z9_4 : ZB (S9.2.1 4) := by rw [t9.2.2.2.1 4 (by decide)]; exact z8_4
  have k9_4 : S9.1.2 4 = 1 := by rw [t9.2.2.1 4 (by decide), k8_4]
  have p9_5 : S9.2.2 5 0 0 = (11, 0) := by rw [t9.2.2.2.2 5 (by decide), p8_5]
  have z9_5 : ZB (S9.2.1 5) := by rw [t9.2.2.2.1 5 (by decide)]; exact z8_5
  have k9_5 : S9.1.2 5 = 1 := by rw [t9.2.2.1 5 (by decide), k8_5]
  obtain ⟨S10, c10, t10, p10_7, z10_7⟩ := st_begin (S := S9) (r := 7) f9 (q := 11) (by decide)
  have f10 : 10000000 ≤ S10.1.1 := by rw [t10.1]; exact f9
  have k10_7 : S10.1.2 7 = 1 := t10.2.1
  have y10_10 : S10.2.1 10 = CLR := by rw [t10.2.2.2.1 10 (by decide), y9_10]
  have k10_10 : S10.1.2 10 = 2 := by rw [t10.2.2.1 10 (by decide), k9_10]
  have y10_11 : S10.2.1 11 = CLR := by rw [t10.2.2.2.1 11 (by decide), y9_11]
  have k10_11 : S10.1.2 11 = 2 := by rw [t10.2.2.1 11 (by decide), k9_11]
  have y10_12 : S10.2.1 12 = CLR := by rw [t10.2.2.2.1 12 (by decide), y9_12]
  have k10_12 : S10.1.2 12 = 2 := by rw [t10.2.2.1 12 (by decide), k9_12]
  have p10_1 : S10.2.2 1 0 0 = (11, 0) := by rw [t10.2.2.2.2 1 (by decide), p9_1]
  have z10_1 : ZB (S10.2.1 1) := by rw [t10.2.2.2.1 1 (by decide)]; exact z9_1
  have k10_1 : S10.1.2 1 = 1 := by rw [t10.2.2.1 1 (by decide), k9_1]
  have p10_2 : S10.2.2 2 0 0 = (11, 0) := by rw [t10.2.2.2.2 2 (by decide), p9_2]
  have z10_2 : ZB (S10.2.1 2) := by rw [t10.2.2.2.1 2 (by decide)]; exact z9_2
  have k10_2 : S10.1.2 2 = 1 := by rw [t10.2.2.1 2 (by decide), k9_2]
  have p10_3 : S10.2.2 3 0 0 = (11, 0) := by rw [t10.2.2.2.2 3 (by decide), p9_3]
  have z10_3 : ZB (S10.2.1 3) := by rw [t10.2.2.2.1 3 (by decide)]; exact z9_3
  have k10_3 : S10.1.2 3 = 1 := by rw [t10.2.2.1 3 (by decide), k9_3]
  have p10_4 : S10.2.2 4 0 0 = (11, 0) := by rw [t10.2.2.2.2 4 (by decide), p9_4]
  have z10_4 : ZB (S10.2.1 4) := by rw [t10.2.2.2.1 4 (by decide)]; exact z9_4
  have k10_4 : S10.1.2 4 = 1 := by rw [t10.2.2.1 4 (by decide), k9_4]
  have p10_5 : S10.2.2 5 0 0 = (11, 0) := by rw [t10.2.2.2.2 5 (by decide), p9_5]
  have z10_5 : ZB (S10.2.1 5) := by rw [t10.2.2.2.1 5 (by decide)]; exact z9_5
  have k10_5 : S10.1.2 5 = 1 := by rw [t10.2.2.1 5 (by decide), k9_5]
  have p10_6 : S10.2.2 6 0 0 = (11, 0) := by rw [t10.2.2.2.2 6 (by decide), p9_6]
  have z10_6 : ZB (S10.2.1 6) := by rw [t10.2.2.2.1 6 (by decide)]; exact z9_6
  have k10_6 : S10.1.2 6 = 1 := by rw [t10.2.2.1 6 (by decide), k9_6]
  obtain ⟨S11, c11, t11, p11_8, z11_8⟩ := st_begin (S := S10) (r := 8) f10 (q := 11) (by decide)
  have f11 : 10000000 ≤ S11.1.1 := by rw [t11.1]; exact f10
  have k11_8 : S11.1.2 8 = 1 := t11.2.1
  have y11_10 : S11.2.1 10 = CLR := by rw [t11.2.2.2.1 10 (by decide), y10_10]
  have k11_10 : S11.1.2 10 = 2 := by rw [t11.2.2.1 10 (by decide), k10_10]
  have y11_11 : S11.2.1 11 = CLR := by rw [t11.2.2.2.1 11 (by decide), y10_11]
  have k11_11 : S11.1.2 11 = 2 := by rw [t11.2.2.1 11 (by decide), k10_11]
  have y11_12 : S11.2.1 12 = CLR := by rw [t11.2.2.2.1 12 (by decide), y10_12]
  have k11_12 : S11.1.2 12 = 2 := by rw [t11.2.2.1 12 (by decide), k10_12]
  have p11_1 : S11.2.2 1 0 0 = (11, 0) := by rw [t11.2.2.2.2 1 (by decide), p10_1]
  have z11_1 : ZB (S11.2.1 1) := by rw [t11.2.2.2.1 1 (by decide)]; exact z10_1
  have k11_1 : S11.1.2 1 = 1 := by rw [t11.2.2.1 1 (by decide), k10_1]
  have p11_2 : S11.2.2 2 0 0 = (11, 0) := by rw [t11.2.2.2.2 2 (by decide), p10_2]
  have z11_2 : ZB (S11.2.1 2) := by rw [t11.2.2.2.1 2 (by decide)]; exact z10_2
  have k11_2 : S11.1.2 2 = 1 := by rw [t11.2.2.1 2 (by decide), k10_2]
  have p11_3 : S11.2.2 3 0 0 = (11, 0) := by rw [t11.2.2.2.2 3 (by decide), p10_3]
  have z11_3 : ZB (S11.2.1 3) := by rw [t11.2.2.2.1 3 (by decide)]; exact z10_3
  have k11_3 : S11.1.2 3 = 1 := by rw [t11.2.2.1 3 (by decide), k10_3]
  have p11_4 : S11.2.2 4 0 0 = (11, 0) := by rw [t11.2.2.2.2 4 (by decide), p10_4]
  have z11_4 : ZB (S11.2.1 4) := by rw [t11.2.2.2.1 4 (by decide)]; exact z10_4
  have k11_4 : S11.1.2 4 = 1 := by rw [t11.2.2.1 4 (by decide), k10_4]
  have p11_5 : S11.2.2 5 0 0 = (11, 0) := by rw [t11.2.2.2.2 5 (by decide), p10_5]
  have z11_5 : ZB (S11.2.1 5) := by rw [t11.2.2.2.1 5 (by decide)]; exact z10_5
  have k11_5 : S11.1.2 5 = 1 := by rw [t11.2.2.1 5 (by decide), k10_5]
  have p11_6 : S11.2.2 6 0 0 = (11, 0) := by rw [t11.2.2.2.2 6 (by decide), p10_6]
  have z11_6 : ZB (S11.2.1 6) := by rw [t11.2.2.2.1 6 (by decide)]; exact z10_6
  have k11_6 : S11.1.2 6 = 1 := by rw [t11.2.2.1 6 (by decide), k10_6]
  have p11_7 : S11.2.2 7 0 0 = (11, 0) := by rw [t11.2.2.2.2 7 (by decide), p10_7]
  have z11_7 : ZB (S11.2.1 7) := by rw [t11.2.2.2.1 7 (by decide)]; exact z10_7
  have k11_7 : S11.1.2 7 = 1 := by rw [t11.2.2.1 7 (by decide), k10_7]
  obtain ⟨S12, c12, t12, p12_9, z12_9⟩ := st_begin (S := S11) (r := 9) f11 (q := 11) (by decide)
  have f12 : 10000000 ≤ S12.1.1 := by rw [t12.1]; exact f11
  have k12_9 : S12.1.2 9 = 1 := t12.2.1
  have y12_10 : S12.2.1 10 = CLR := by rw [t12.2.2.2.1 10 (by decide), y11_10]
  have k12_10 : S12.1.2 10 = 2 := by rw [t12.2.2.1 10 (by decide), k11_10]
  have y12_11 : S12.2.1 11 = CLR := by rw [t12.2.2.2.1 11 (by decide), y11_11]
  have k12_11 : S12.1.2 11 = 2 := by rw [t12.2.2.1 11 (by decide), k11_11]
  have y12_12 : S12.2.1 12 = CLR := by rw [t12.2.2.2.1 12 (by decide), y11_12]
  have k12_12 : S12.1.2 12 = 2 := by rw [t12.2.2.1 12 (by decide), k11_12]
  have p12_1 : S12.2.2 1 0 0 = (11, 0) := by rw [t12.2.2.2.2 1 (by decide), p11_1]
  have z12_1 : ZB (S12.2.1 1) := by rw [t12.2.2.2.1 1 (by decide)]; exact z11_1
  have k12_1 : S12.1.2 1 = 1 := by rw [t12.2.2.1 1 (by decide), k11_1]
  have p12_2 : S12.2.2 2 0 0 = (11, 0) := by rw [t12.2.2.2.2 2 (by decide), p11_2]
  have z12_2 : ZB (S12.2.1 2) := by rw [t12.2.2.2.1 2 (by decide)]; exact z11_2
  have k12_2 : S12.1.2 2 = 1 := by rw [t12.2.2.1 2 (by decide), k11_2]
  have p12_3 : S12.2.2 3 0 0 = (11, 0) := by rw [t12.2.2.2.2 3 (by decide), p11_3]
  have z12_3 : ZB (S12.2.1 3) := by rw [t12.2.2.2.1 3 (by decide)]; exact z11_3
  have k12_3 : S12.1.2 3 = 1 := by rw [t12.2.2.1 3 (by decide), k11_3]
  have p12_4 : S12.2.2 4 0 0 = (11, 0) := by rw [t12.2.2.2.2 4 (by decide), p11_4]
  have z12_4 : ZB (S12.2.1 4) := by rw [t12.2.2.2.1 4 (by decide)]; exact z11_4
  have k12_4 : S12.1.2 4 = 1 := by rw [t12.2.2.1 4 (by decide), k11_4]
  have p12_5 : S12.2.2 5 0 0 = (11, 0) := by rw [t12.2.2.2.2 5 (by decide), p11_5]
  have z12_5 : ZB (S12.2.1 5) := by rw [t12.2.2.2.1 5 (by decide)]; exact z11_5
  have k12_5 : S12.1.2 5 = 1 := by rw [t12.2.2.1 5 (by decide), k11_5]
  have p12_6 : S12.2.2 6 0 0 = (11, 0) := by rw [t12.2.2.2.2 6 (by decide), p11_6]
  have z12_6 : ZB (S12.2.1 6) := by rw [t12.2.2.2.1 6 (by decide)]; exact z11_6
  have k12_6 : S12.1.2 6 = 1 := by rw [t12.2.2.1 6 (by decide), k11_6]
  have p12_7 : S12.2.2 7 0 0 = (11, 0) := by rw [t12.2.2.2.2 7 (by decide), p11_7]
  have z12_7 : ZB (S12.2.1 7) := by rw [t12.2.2.2.1 7 (by decide)]; exact z11_7
  have k12_7 : S12.1.2 7 = 1 := by rw [t12.2.2.1 7 (by decide), k11_7]
  have p12_8 : S12.2.2 8 0 0 = (11, 0) := by rw [t12.2.2.2.2 8 (by decide), p11_8]
  have z12_8 : ZB (S12.2.1 8) := by rw [t12.2.2.2.1 8 (by decide)]; exact z11_8
  have k12_8 : S12.1.2 8 = 1 := by rw [t12.2.2.1 8 (by decide), k11_8]
  have hall : ∀ k : Nat, 1 ≤ k ∧ k ≤ 9 → S12.2.2 k 0 0 = (11, 0) ∧ ZB (S12.2.1 k) ∧ S12.1.2 k = 1 := by
    intro k hk
    have h : k = 1 ∨ k = 2 ∨ k = 3 ∨ k = 4 ∨ k = 5 ∨ k = 6 ∨ k = 7 ∨ k = 8 ∨ k = 9 := by omega
    rcases h with rfl | rfl | rfl | rfl | rfl | rfl | rfl | rfl | rfl
    · exact ⟨p12_1, z12_1, k12_1⟩
    · exact ⟨p12_2, z12_2, k12_2⟩
    · exact ⟨p12_3, z12_3, k12_3⟩
    · exact ⟨p12_4, z12_4, k12_4⟩
    · exact ⟨p12_5, z12_5, k12_5⟩
    · exact ⟨p12_6, z12_6, k12_6⟩
    · exact ⟨p12_7, z12_7, k12_7⟩
    · exact ⟨p12_8, z12_8, k12_8⟩
    · exact ⟨p12_9, z12_9, k12_9⟩
  exact ⟨S1, S2, S3, S4, S5, S6, S7, S8, S9, S10, S11, S12, ⟨xap (ao_z hE), c1, xap (ao_2 (ao_z hE)), c2, xap (ao_2 (ao_2 (ao_z hE))), c3, xap (ao_2 (ao_2 (ao_2 (ao_z hE)))), c4, xap (ao_1 (ao_2 (ao_2 (ao_2 (ao_z hE)))) (by rw [p4_1]; decide)), c5, xap (ao_1 (ao_1 (ao_2 (ao_2 (ao_2 (ao_z hE)))) (by rw [p5_1]; decide)) (by rw [p5_2]; decide)), c6, xap (ao_1 (ao_1 (ao_1 (ao_2 (ao_2 (ao_2 (ao_z hE)))) (by rw [p6_1]; decide)) (by rw [p6_2]; decide)) (by rw [p6_3]; decide)), c7, xap (ao_1 (ao_1 (ao_1 (ao_1 (ao_2 (ao_2 (ao_2 (ao_z hE)))) (by rw [p7_1]; decide)) (by rw [p7_2]; decide)) (by rw [p7_3]; decide)) (by rw [p7_4]; decide)), c8, xap (ao_1 (ao_1 (ao_1 (ao_1 (ao_1 (ao_2 (ao_2 (ao_2 (ao_z hE)))) (by rw [p8_1]; decide)) (by rw [p8_2]; decide)) (by rw [p8_3]; decide)) (by rw [p8_4]; decide)) (by rw [p8_5]; decide)), c9, xap (ao_1 (ao_1 (ao_1 (ao_1 (ao_1 (ao_1 (ao_2 (ao_2 (ao_2 (ao_z hE)))) (by rw [p9_1]; decide)) (by rw [p9_2]; decide)) (by rw [p9_3]; decide)) (by rw [p9_4]; decide)) (by rw [p9_5]; decide)) (by rw [p9_6]; decide)), c10, xap (ao_1 (ao_1 (ao_1 (ao_1 (ao_1 (ao_1 (ao_1 (ao_2 (ao_2 (ao_2 (ao_z hE)))) (by rw [p10_1]; decide)) (by rw [p10_2]; decide)) (by rw [p10_3]; decide)) (by rw [p10_4]; decide)) (by rw [p10_5]; decide)) (by rw [p10_6]; decide)) (by rw [p10_7]; decide)), c11, xap (ao_1 (ao_1 (ao_1 (ao_1 (ao_1 (ao_1 (ao_1 (ao_1 (ao_2 (ao_2 (ao_2 (ao_z hE)))) (by rw [p11_1]; decide)) (by rw [p11_2]; decide)) (by rw [p11_3]; decide)) (by rw [p11_4]; decide)) (by rw [p11_5]; decide)) (by rw [p11_6]; decide)) (by rw [p11_7]; decide)) (by rw [p11_8]; decide)), c12, xap (ao_1 (ao_1 (ao_1 (ao_1 (ao_1 (ao_1 (ao_1 (ao_1 (ao_1 (ao_2 (ao_2 (ao_2 (ao_z hE)))) (by rw [p12_1]; decide)) (by rw [p12_2]; decide)) (by rw [p12_3]; decide)) (by rw [p12_4]; decide)) (by rw [p12_5]; decide)) (by rw [p12_6]; decide)) (by rw [p12_7]; decide)) (by rw [p12_8]; decide)) (by rw [p12_9]; decide))⟩, hall, f12, ⟨y12_10, y12_11, y12_12⟩, k12_10, k12_11, k12_12⟩
