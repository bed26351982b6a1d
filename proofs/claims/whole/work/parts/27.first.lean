/-! Methods with premises; and both sides of an operation together. -/
variable {L d : Nat} {σ σ1 : Nat → Nat → Int} {Q : Option gV → (Nat → Nat → Int) → Prop} {a0 a1 a2 a3 a4 a5 a6 a7 a8 a9 a10 a11 s0 s1 s2 s3 s4 s5 s6 s7 s8 s9 : Int} {l0 l1 l2 l3 l4 l5 l6 l7 l8 l9 l10 l11 t0 t1 t2 t3 t4 t5 t6 t7 t8 t9 : gV} {b0 b1 b2 b3 b4 b5 b6 b7 b8 b9 b10 b11 c0 c1 c2 c3 c4 c5 c6 c7 c8 c9 : Nat} {r : Option gV}
theorem r_M_becomes_0 : Wp L d k_M_becomes 0 [vR b0, l1, l2, l3] [] σ Q ↔ Wp L d k_M_becomes 1 [vR b0, l1, l2, l3] [vR b0] σ Q := wp_aload rfl rfl
theorem r_M_becomes_1 (h : gK c0 = 12) : Wp L d k_M_becomes 1 [l0, l1, l2, l3] [vR c0] σ Q ↔ Wp L d k_M_becomes 4 [l0, l1, l2, l3] [vR (gq c0 0)] σ Q := wp_getR (c := 3200) rfl rfl rfl rfl rfl h
theorem r_M_becomes_4 : Wp L d k_M_becomes 4 [l0, vI a1, l2, l3] [vR c0] σ Q ↔ Wp L d k_M_becomes 5 [l0, vI a1, l2, l3] [vI a1, vR c0] σ Q := wp_iload rfl rfl
theorem r_M_becomes_5 (h : gK c0 = 100) (hx : 0 ≤ s1 ∧ s1 < gN c0) : Wp L d k_M_becomes 5 [l0, l1, l2, l3] [vI s1, vR c0] σ Q ↔ Wp L d k_M_becomes 6 [l0, l1, l2, l3] [vI (σ c0 s1.toNat)] σ Q := wp_iald rfl h hx
theorem r_M_becomes_6 : Wp L d k_M_becomes 6 [l0, l1, vI a2, l3] [vI s0] σ Q ↔ Wp L d k_M_becomes 7 [l0, l1, vI a2, vI s0] [] σ Q := wp_istore (i := 3) (ls := [l0, l1, vI a2, l3]) rfl rfl
theorem r_M_becomes_7 : Wp L d k_M_becomes 7 [vR b0, l1, l2, l3] [] σ Q ↔ Wp L d k_M_becomes 8 [vR b0, l1, l2, l3] [vR b0] σ Q := wp_aload rfl rfl
theorem r_M_becomes_8 (h : gK c0 = 12) : Wp L d k_M_becomes 8 [l0, l1, l2, l3] [vR c0] σ Q ↔ Wp L d k_M_becomes 11 [l0, l1, l2, l3] [vR (gq c0 0)] σ Q := wp_getR (c := 3200) rfl rfl rfl rfl rfl h
theorem r_M_becomes_11 : Wp L d k_M_becomes 11 [l0, vI a1, l2, l3] [vR c0] σ Q ↔ Wp L d k_M_becomes 12 [l0, vI a1, l2, l3] [vI a1, vR c0] σ Q := wp_iload rfl rfl
theorem r_M_becomes_12 : Wp L d k_M_becomes 12 [l0, l1, vI a2, l3] [vI s1, vR c0] σ Q ↔ Wp L d k_M_becomes 13 [l0, l1, vI a2, l3] [vI a2, vI s1, vR c0] σ Q := wp_iload rfl rfl
theorem r_M_becomes_13 (h : gK c0 = 100) (hx : 0 ≤ s1 ∧ s1 < gN c0) : Wp L d k_M_becomes 13 [l0, l1, l2, l3] [vI s2, vI s1, vR c0] σ Q ↔ Wp L d k_M_becomes 14 [l0, l1, l2, l3] [] (gupd σ c0 s1.toNat s2) Q := wp_iast rfl h hx
theorem r_M_becomes_14 : Wp L d k_M_becomes 14 [l0, l1, l2, vI a3] [] σ Q ↔ Wp L d k_M_becomes 15 [l0, l1, l2, vI a3] [vI a3] σ Q := wp_iload rfl rfl
theorem r_M_becomes_15 : Wp L d k_M_becomes 15 [l0, l1, l2, l3] [vI s0] σ Q ↔ Q (some (vI s0)) σ := wp_iret rfl
theorem sp_M_becomes (h : 0 ≤ a1 ∧ a1 < 3540) : Run L d 198 [vR 293, vI a1, vI a2] σ (some (vI (σ 294 a1.toNat))) (gupd σ 294 a1.toNat a2) := by
  refine Run_of (C' := k_M_becomes) rfl ?_
  show Wp L d k_M_becomes 0 [vR 293, vI a1, vI a2, vU] [] σ _
  simp only [r_M_becomes_0, r_M_becomes_1, r_M_becomes_4, r_M_becomes_5, r_M_becomes_6, r_M_becomes_7, r_M_becomes_8, r_M_becomes_11, r_M_becomes_12, r_M_becomes_13, r_M_becomes_14, r_M_becomes_15, gK_27, gK_28, gK_29, gq_27_0, gq_27_1, gK_293, gq_293_0, gK_294, gN_294, h, Int.reduceLE, Int.reduceLT, Int.reduceEq, Int.reduceToNat, gb_01, eq_self, true_or, or_true, and_true, true_and, and_self, if_true, if_false, not_true_eq_false, not_false_eq_true, ne_eq, gb_ne0, gb_eq0]
theorem r_X_gust_0 : Wp L d k_X_gust 0 [l0, vI a1, l2, l3] [] σ Q ↔ Wp L d k_X_gust 1 [l0, vI a1, l2, l3] [vI a1] σ Q := wp_iload rfl rfl
theorem r_X_gust_4 : Wp L d k_X_gust 4 [l0, l1, l2, l3] [vI s0] σ Q ↔ (if s0 = 0 then Wp L d k_X_gust 14 [l0, l1, l2, l3] [] σ Q else Wp L d k_X_gust 7 [l0, l1, l2, l3] [] σ Q) := wp_if_eq rfl
theorem r_X_gust_7 : Wp L d k_X_gust 7 [l0, l1, vI a2, l3] [] σ Q ↔ Wp L d k_X_gust 8 [l0, l1, vI a2, l3] [vI a2] σ Q := wp_iload rfl rfl
theorem r_X_gust_11 : Wp L d k_X_gust 11 [l0, l1, l2, l3] [vI s0] σ Q ↔ (if s0 ≠ 0 then Wp L d k_X_gust 17 [l0, l1, l2, l3] [] σ Q else Wp L d k_X_gust 14 [l0, l1, l2, l3] [] σ Q) := wp_if_ne rfl
theorem r_X_gust_14 : Wp L d k_X_gust 14 [l0, l1, l2, l3] [] σ Q ↔ Wp L d k_X_gust 16 [l0, l1, l2, l3] [vI (-1000000001)] σ Q := wp_push rfl
theorem r_X_gust_16 : Wp L d k_X_gust 16 [l0, l1, l2, l3] [vI s0] σ Q ↔ Q (some (vI s0)) σ := wp_iret rfl
theorem r_X_gust_17 : Wp L d k_X_gust 17 [vR b0, l1, l2, l3] [] σ Q ↔ Wp L d k_X_gust 18 [vR b0, l1, l2, l3] [vR b0] σ Q := wp_aload rfl rfl
theorem r_X_gust_18 (h : gK c0 = 0) : Wp L d k_X_gust 18 [l0, l1, l2, l3] [vR c0] σ Q ↔ Wp L d k_X_gust 21 [l0, l1, l2, l3] [vR (gq c0 0)] σ Q := wp_getR (c := 128) rfl rfl rfl rfl rfl h
theorem r_X_gust_21 (h : gK c0 = 5) : Wp L d k_X_gust 21 [l0, l1, l2, l3] [vR c0] σ Q ↔ Wp L d k_X_gust 24 [l0, l1, l2, l3] [vR (gq c0 2)] σ Q := wp_getR (c := 1410) rfl rfl rfl rfl rfl h
theorem r_X_gust_24 (h : gK c0 = 2) : Wp L d k_X_gust 24 [l0, l1, l2, l3] [vR c0] σ Q ↔ Wp L d k_X_gust 27 [l0, l1, l2, l3] [vR (gq c0 0)] σ Q := wp_getR (c := 640) rfl rfl rfl rfl rfl h
theorem r_X_gust_27 : Wp L d k_X_gust 27 [l0, vI a1, l2, l3] [vR c0] σ Q ↔ Wp L d k_X_gust 28 [l0, vI a1, l2, l3] [vI a1, vR c0] σ Q := wp_iload rfl rfl
theorem r_X_gust_28 (h : gK c0 = 100) (hx : 0 ≤ s1 ∧ s1 < gN c0) : Wp L d k_X_gust 28 [l0, l1, l2, l3] [vI s1, vR c0] σ Q ↔ Wp L d k_X_gust 29 [l0, l1, l2, l3] [vI (σ c0 s1.toNat)] σ Q := wp_iald rfl h hx
theorem r_X_gust_29 : Wp L d k_X_gust 29 [l0, l1, vI a2, l3] [vI s0] σ Q ↔ Wp L d k_X_gust 30 [l0, l1, vI a2, vI s0] [] σ Q := wp_istore (i := 3) (ls := [l0, l1, vI a2, l3]) rfl rfl
theorem r_X_gust_30 : Wp L d k_X_gust 30 [vR b0, l1, l2, l3] [] σ Q ↔ Wp L d k_X_gust 31 [vR b0, l1, l2, l3] [vR b0] σ Q := wp_aload rfl rfl
theorem r_X_gust_31 (h : gK c0 = 0) : Wp L d k_X_gust 31 [l0, l1, l2, l3] [vR c0] σ Q ↔ Wp L d k_X_gust 34 [l0, l1, l2, l3] [vR (gq c0 0)] σ Q := wp_getR (c := 128) rfl rfl rfl rfl rfl h
theorem r_X_gust_34 (h : gK c0 = 5) : Wp L d k_X_gust 34 [l0, l1, l2, l3] [vR c0] σ Q ↔ Wp L d k_X_gust 37 [l0, l1, l2, l3] [vR (gq c0 2)] σ Q := wp_getR (c := 1410) rfl rfl rfl rfl rfl h
theorem r_X_gust_37 (h : gK c0 = 2) : Wp L d k_X_gust 37 [l0, l1, l2, l3] [vR c0] σ Q ↔ Wp L d k_X_gust 40 [l0, l1, l2, l3] [vR (gq c0 0)] σ Q := wp_getR (c := 640) rfl rfl rfl rfl rfl h
theorem r_X_gust_40 : Wp L d k_X_gust 40 [l0, vI a1, l2, l3] [vR c0] σ Q ↔ Wp L d k_X_gust 41 [l0, vI a1, l2, l3] [vI a1, vR c0] σ Q := wp_iload rfl rfl
theorem r_X_gust_41 : Wp L d k_X_gust 41 [l0, l1, vI a2, l3] [vI s1, vR c0] σ Q ↔ Wp L d k_X_gust 42 [l0, l1, vI a2, l3] [vI a2, vI s1, vR c0] σ Q := wp_iload rfl rfl
theorem r_X_gust_42 (h : gK c0 = 100) (hx : 0 ≤ s1 ∧ s1 < gN c0) : Wp L d k_X_gust 42 [l0, l1, l2, l3] [vI s2, vI s1, vR c0] σ Q ↔ Wp L d k_X_gust 43 [l0, l1, l2, l3] [] (gupd σ c0 s1.toNat s2) Q := wp_iast rfl h hx
theorem r_X_gust_43 : Wp L d k_X_gust 43 [l0, l1, l2, vI a3] [] σ Q ↔ Wp L d k_X_gust 44 [l0, l1, l2, vI a3] [vI a3] σ Q := wp_iload rfl rfl
theorem r_X_gust_44 : Wp L d k_X_gust 44 [l0, l1, l2, l3] [vI s0] σ Q ↔ Q (some (vI s0)) σ := wp_iret rfl
theorem r_X_gust_1 : Wp L (d + 2) k_X_gust 1 [l0, l1, l2, l3] [vI s0] σ Q ↔ Wp L (d + 2) k_X_gust 4 [l0, l1, l2, l3] [vI (gb (0 ≤ s0 ∧ s0 ≤ 59))] σ Q := wp_callR (d := d + 1) (as := [vI s0]) (rest := []) rfl rfl rfl rfl rfl rfl rfl rfl (sp_X_isSecond)
theorem r_X_gust_8 : Wp L (d + 2) k_X_gust 8 [l0, l1, l2, l3] [vI s0] σ Q ↔ Wp L (d + 2) k_X_gust 11 [l0, l1, l2, l3] [vI (gb (0 ≤ s0 ∧ s0 ≤ 99))] σ Q := wp_callR (d := d + 1) (as := [vI s0]) (rest := []) rfl rfl rfl rfl rfl rfl rfl rfl (sp_X_isGust)
theorem sp_X_gust_b (h : ¬ ((0 ≤ a1 ∧ a1 ≤ 59) ∧ (0 ≤ a2 ∧ a2 ≤ 99))) : Run L (d + 2) 49 [vR 27, vI a1, vI a2] σ (some (vI (-1000000001))) σ := by
  refine Run_of (C' := k_X_gust) rfl ?_
  show Wp L (d + 2) k_X_gust 0 [vR 27, vI a1, vI a2, vU] [] σ _
  simp only [r_X_gust_0, r_X_gust_1, r_X_gust_4, r_X_gust_7, r_X_gust_8, r_X_gust_11, r_X_gust_14, r_X_gust_16, r_X_gust_17, r_X_gust_18, r_X_gust_21, r_X_gust_24, r_X_gust_27, r_X_gust_28, r_X_gust_29, r_X_gust_30, r_X_gust_31, r_X_gust_34, r_X_gust_37, r_X_gust_40, r_X_gust_41, r_X_gust_42, r_X_gust_43, r_X_gust_44, gK_27, gK_28, gK_29, gq_27_0, gq_27_1, gK_293, gq_293_0, gK_294, gN_294, Int.reduceLE, Int.reduceLT, Int.reduceEq, Int.reduceToNat, gb_01, eq_self, true_or, or_true, and_true, true_and, and_self, if_true, if_false, not_true_eq_false, not_false_eq_true, ne_eq, gb_ne0, gb_eq0]
  repeat' split
  all_goals first | trivial | omega
theorem sp_X_gust (h1 : 0 ≤ a1 ∧ a1 ≤ 59) (h2 : 0 ≤ a2 ∧ a2 ≤ 99) : Run L (d + 2) 49 [vR 27, vI a1, vI a2] σ (some (vI (σ 98 a1.toNat))) (gupd σ 98 a1.toNat a2) := by
  have h3 : a1 < 60 := by omega
  refine Run_of (C' := k_X_gust) rfl ?_
  show Wp L (d + 2) k_X_gust 0 [vR 27, vI a1, vI a2, vU] [] σ _
  simp only [r_X_gust_0, r_X_gust_1, r_X_gust_4, r_X_gust_7, r_X_gust_8, r_X_gust_11, r_X_gust_14, r_X_gust_16, r_X_gust_17, r_X_gust_18, r_X_gust_21, r_X_gust_24, r_X_gust_27, r_X_gust_28, r_X_gust_29, r_X_gust_30, r_X_gust_31, r_X_gust_34, r_X_gust_37, r_X_gust_40, r_X_gust_41, r_X_gust_42, r_X_gust_43, r_X_gust_44, gK_27, gK_28, gK_29, gq_27_0, gq_27_1, gK_293, gq_293_0, gK_294, gN_294, h1, h2, h3, h1.1, gq_28_2, gK_97, gq_97_0, gK_98, gN_98, Int.reduceLE, Int.reduceLT, Int.reduceEq, Int.reduceToNat, gb_01, eq_self, true_or, or_true, and_true, true_and, and_self, if_true, if_false, not_true_eq_false, not_false_eq_true, ne_eq, gb_ne0, gb_eq0]
theorem r_M_gust_0 : Wp L d k_M_gust 0 [l0, vI a1, l2] [] σ Q ↔ Wp L d k_M_gust 1 [l0, vI a1, l2] [vI a1] σ Q := wp_iload rfl rfl
theorem r_M_gust_1 : Wp L d k_M_gust 1 [l0, l1, l2] [vI s0] σ Q ↔ Wp L d k_M_gust 2 [l0, l1, l2] [vL s0] σ Q := wp_i2l rfl
theorem r_M_gust_2 : Wp L d k_M_gust 2 [l0, l1, l2] [vL s0] σ Q ↔ Wp L d k_M_gust 3 [l0, l1, l2] [vL 0, vL s0] σ Q := wp_pushL rfl
theorem r_M_gust_3 : Wp L d k_M_gust 3 [l0, l1, l2] [vL s1, vL s0] σ Q ↔ Wp L d k_M_gust 6 [l0, l1, l2] [vL 59, vL s1, vL s0] σ Q := wp_pushL rfl
theorem r_M_gust_9 : Wp L d k_M_gust 9 [l0, l1, l2] [vI s0] σ Q ↔ (if s0 = 0 then Wp L d k_M_gust 31 [l0, l1, l2] [] σ Q else Wp L d k_M_gust 12 [l0, l1, l2] [] σ Q) := wp_if_eq rfl
theorem r_M_gust_12 : Wp L d k_M_gust 12 [l0, l1, vI a2] [] σ Q ↔ Wp L d k_M_gust 13 [l0, l1, vI a2] [vI a2] σ Q := wp_iload rfl rfl
theorem r_M_gust_16 : Wp L d k_M_gust 16 [l0, l1, l2] [vI s0] σ Q ↔ (if s0 = 0 then Wp L d k_M_gust 31 [l0, l1, l2] [] σ Q else Wp L d k_M_gust 19 [l0, l1, l2] [] σ Q) := wp_if_eq rfl
theorem r_M_gust_19 : Wp L d k_M_gust 19 [vR b0, l1, l2] [] σ Q ↔ Wp L d k_M_gust 20 [vR b0, l1, l2] [vR b0] σ Q := wp_aload rfl rfl
theorem r_M_gust_20 : Wp L d k_M_gust 20 [l0, l1, l2] [vR c0] σ Q ↔ Wp L d k_M_gust 22 [l0, l1, l2] [vI 60, vR c0] σ Q := wp_push rfl
theorem r_M_gust_22 : Wp L d k_M_gust 22 [l0, vI a1, l2] [vI s1, vR c0] σ Q ↔ Wp L d k_M_gust 23 [l0, vI a1, l2] [vI a1, vI s1, vR c0] σ Q := wp_iload rfl rfl
theorem r_M_gust_23 : Wp L d k_M_gust 23 [l0, l1, l2] [vI s2, vI s1, vR c0] σ Q ↔ Wp L d k_M_gust 24 [l0, l1, l2] [vI (w32 (s1 + s2)), vR c0] σ Q := wp_iadd rfl
theorem r_M_gust_24 : Wp L d k_M_gust 24 [l0, l1, vI a2] [vI s1, vR c0] σ Q ↔ Wp L d k_M_gust 25 [l0, l1, vI a2] [vI a2, vI s1, vR c0] σ Q := wp_iload rfl rfl
theorem r_M_gust_28 : Wp L d k_M_gust 28 [l0, l1, l2] [vI s0] σ Q ↔ Wp L d k_M_gust 33 [l0, l1, l2] [vI s0] σ Q := wp_goto rfl
theorem r_M_gust_31 : Wp L d k_M_gust 31 [l0, l1, l2] [] σ Q ↔ Wp L d k_M_gust 33 [l0, l1, l2] [vI (-1000000001)] σ Q := wp_push rfl
theorem r_M_gust_33 : Wp L d k_M_gust 33 [l0, l1, l2] [vI s0] σ Q ↔ Q (some (vI s0)) σ := wp_iret rfl
theorem r_M_gust_6 : Wp L (d + 2) k_M_gust 6 [l0, l1, l2] [vL s2, vL s1, vL s0] σ Q ↔ Wp L (d + 2) k_M_gust 9 [l0, l1, l2] [vI (gb (s1 ≤ s0 ∧ s0 ≤ s2))] σ Q := wp_callR (d := d + 1) (as := [vL s0, vL s1, vL s2]) (rest := []) rfl rfl rfl rfl rfl rfl rfl rfl (sp_M_isIn)
theorem r_M_gust_13 : Wp L (d + 2) k_M_gust 13 [l0, l1, l2] [vI s0] σ Q ↔ Wp L (d + 2) k_M_gust 16 [l0, l1, l2] [vI (gb (0 ≤ s0 ∧ s0 ≤ 99))] σ Q := wp_callR (d := d + 1) (as := [vI s0]) (rest := []) rfl rfl rfl rfl rfl rfl rfl rfl (sp_M_isGust)
theorem r_M_gust_25 (h : 0 ≤ s1 ∧ s1 < 3540) : Wp L (d + 2) k_M_gust 25 [l0, l1, l2] [vI s2, vI s1, vR 293] σ Q ↔ Wp L (d + 2) k_M_gust 28 [l0, l1, l2] [vI (σ 294 s1.toNat)] (gupd σ 294 s1.toNat s2) Q := wp_callR (d := d + 1) (as := [vR 293, vI s1, vI s2]) (rest := []) rfl rfl rfl rfl rfl rfl rfl (grecv_k (by rw [gK_293]) rfl) (sp_M_becomes h)
theorem sp_M_gust_b (h : ¬ ((0 ≤ a1 ∧ a1 ≤ 59) ∧ (0 ≤ a2 ∧ a2 ≤ 99))) : Run L (d + 2) 270 [vR 293, vI a1, vI a2] σ (some (vI (-1000000001))) σ := by
  refine Run_of (C' := k_M_gust) rfl ?_
  show Wp L (d + 2) k_M_gust 0 [vR 293, vI a1, vI a2] [] σ _
  simp only [r_M_gust_0, r_M_gust_1, r_M_gust_2, r_M_gust_3, r_M_gust_6, r_M_gust_9, r_M_gust_12, r_M_gust_13, r_M_gust_16, r_M_gust_19, r_M_gust_20, r_M_gust_22, r_M_gust_23, r_M_gust_24, r_M_gust_25, r_M_gust_28, r_M_gust_31, r_M_gust_33, gK_27, gK_28, gK_29, gq_27_0, gq_27_1, gK_293, gq_293_0, gK_294, gN_294, Int.reduceLE, Int.reduceLT, Int.reduceEq, Int.reduceToNat, gb_01, eq_self, true_or, or_true, and_true, true_and, and_self, if_true, if_false, not_true_eq_false, not_false_eq_true, ne_eq, gb_ne0, gb_eq0]
  repeat' split
  all_goals first | trivial | omega
theorem sp_M_gust (h1 : 0 ≤ a1 ∧ a1 ≤ 59) (h2 : 0 ≤ a2 ∧ a2 ≤ 99) : Run L (d + 2) 270 [vR 293, vI a1, vI a2] σ (some (vI (σ 294 (60 + a1).toNat))) (gupd σ 294 (60 + a1).toNat a2) := by
  have h3 : w32 (60 + a1) = 60 + a1 := w32_id (by unfold gr32; omega)
  have h4 : 0 ≤ 60 + a1 := by omega
  have h5 : 60 + a1 < 3540 := by omega
  refine Run_of (C' := k_M_gust) rfl ?_
  show Wp L (d + 2) k_M_gust 0 [vR 293, vI a1, vI a2] [] σ _
  simp only [r_M_gust_0, r_M_gust_1, r_M_gust_2, r_M_gust_3, r_M_gust_6, r_M_gust_9, r_M_gust_12, r_M_gust_13, r_M_gust_16, r_M_gust_19, r_M_gust_20, r_M_gust_22, r_M_gust_23, r_M_gust_24, r_M_gust_25, r_M_gust_28, r_M_gust_31, r_M_gust_33, gK_27, gK_28, gK_29, gq_27_0, gq_27_1, gK_293, gq_293_0, gK_294, gN_294, h1, h2, h3, h4, h5, Int.reduceLE, Int.reduceLT, Int.reduceEq, Int.reduceToNat, gb_01, eq_self, true_or, or_true, and_true, true_and, and_self, if_true, if_false, not_true_eq_false, not_false_eq_true, ne_eq, gb_ne0, gb_eq0]
def Op (x m : Nat) (as : List gV) : Prop := ∀ (L d : Nat) (σ : gMm), Inv σ → ∃ (r : Int) (σ1 σ2 : gMm), Run L (d + 1000) x (vR 27 :: as) σ (some (vI r)) σ1 ∧ Run L (d + 1000) m (vR 293 :: as) σ1 (some (vI r)) σ2 ∧ Inv σ2
theorem Run_r {L d y : Nat} {as : List gV} {σ σ1 : gMm} {r r' : Int} (h : Run L d y as σ (some (vI r)) σ1) (e : r = r') : Run L d y as σ (some (vI r')) σ1 := e ▸ h
theorem iB {σ : gMm} (hI : Inv σ) : WB (σ 294) ∧ CB 29 (σ 294) σ := ⟨hI.1.1, hI.2.1.1⟩
theorem iT {σ : gMm} (hI : Inv σ) : WT (σ 294) ∧ CT 78 (σ 294) σ := ⟨hI.1.2.1, hI.2.1.2.1⟩
theorem iG {σ : gMm} (hI : Inv σ) : WG (σ 294) ∧ CG 97 (σ 294) σ := ⟨hI.1.2.2.1, hI.2.1.2.2.1⟩
theorem iS {σ : gMm} (hI : Inv σ) : WS (σ 294) ∧ CS 99 (σ 294) σ := ⟨hI.1.2.2.2.1, hI.2.1.2.2.2.1⟩
theorem iW {σ : gMm} (hI : Inv σ) : WW (σ 294) ∧ CW 109 (σ 294) σ := ⟨hI.1.2.2.2.2.1, hI.2.1.2.2.2.2.1⟩
theorem iP {σ : gMm} (hI : Inv σ) : WP (σ 294) ∧ CP 123 (σ 294) σ := ⟨hI.1.2.2.2.2.2.1, hI.2.1.2.2.2.2.2.1⟩
theorem iR {σ : gMm} (hI : Inv σ) : WR (σ 294) ∧ CR 125 (σ 294) σ := ⟨hI.1.2.2.2.2.2.2.1, hI.2.1.2.2.2.2.2.2.1⟩
theorem iM {σ : gMm} (hI : Inv σ) : WM (σ 294) ∧ CM 28 (σ 294) σ := ⟨hI.1.2.2.2.2.2.2.2, hI.2.1.2.2.2.2.2.2.2⟩
theorem op_gust (a1 a2 : Int) : Op 49 270 [vI a1, vI a2] := by
  intro L d σ hI
  by_cases h : (0 ≤ a1 ∧ a1 ≤ 59) ∧ (0 ≤ a2 ∧ a2 ≤ 99)
  · obtain ⟨h1, h2⟩ := h
    have e1 : (60 + a1).toNat = 60 + a1.toNat := by omega
    obtain ⟨⟨w1, w2, w3⟩, c1, c2, c3⟩ := iG hI
    refine ⟨_, _, _, sp_X_gust h1 h2, Run_r (sp_M_gust h1 h2) ?_, ?_⟩
    · rw [e1, gupd_ne (by omega), c3 _ (by omega)]
    · rw [e1]
      refine Inv_mk (P := fun k j => k = 98 ∨ (k = 294 ∧ 60 ≤ j ∧ j < 120)) hI (Agr_upd (Agr_upd (Agr_refl _ _) (by omega)) (by omega)) (Or.inl (fun k j hz hp => by unfold ZB at hz; omega)) (Or.inl (fun k j hz hp => by unfold ZT at hz; omega)) (Or.inr ?_) (Or.inl (fun k j hz hp => by unfold ZS at hz; omega)) (Or.inl (fun k j hz hp => by unfold ZW at hz; omega)) (Or.inl (fun k j hz hp => by unfold ZP at hz; omega)) (Or.inl (fun k j hz hp => by unfold ZR ZK at hz; omega)) (Or.inl (fun k j hz hp => by unfold ZM at hz; omega)) (Or.inl (fun k j hz hp => by unfold ZTape at hz; omega)) (Or.inl (fun k j hz hp => by unfold ZTest at hz; omega)) (Or.inl (fun k j hz hp => by unfold ZWait at hz; omega)) (Or.inl (fun k j hz hp => by unfold ZImg at hz; omega))
      refine ⟨⟨?_, ?_, fun j hj => ?_⟩, ?_, ?_, fun j hj => ?_⟩
      · rw [gupd_ne (by omega), gupd_ne (by omega)]
        exact w1
      · rw [gupd_ne (by omega), gupd_ne (by omega)]
        exact w2
      · by_cases e : j = a1.toNat
        · rw [e, gupd_eq]
          exact h2
        · rw [gupd_ne (by omega), gupd_ne (by omega)]
          exact w3 j hj
      · rw [gupd_ne (by omega), gupd_ne (by omega), gupd_ne (by omega), gupd_ne (by omega)]
        exact c1
      · rw [gupd_ne (by omega), gupd_ne (by omega), gupd_ne (by omega), gupd_ne (by omega)]
        exact c2
      · by_cases e : j = a1.toNat
        · rw [e, gupd_eq, gupd_ne (by omega), gupd_eq]
        · rw [gupd_ne (by omega), gupd_ne (by omega), gupd_ne (by omega), gupd_ne (by omega)]
          exact c3 j hj
  · exact ⟨_, _, _, sp_X_gust_b h, sp_M_gust_b h, hI⟩
