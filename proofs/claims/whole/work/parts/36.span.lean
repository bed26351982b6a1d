/-! span. -/
variable {L d : Nat} {σ σ1 : Nat → Nat → Int} {Q : Option gV → (Nat → Nat → Int) → Prop} {a0 a1 a2 a3 a4 a5 a6 a7 a8 a9 a10 a11 s0 s1 s2 s3 s4 s5 s6 s7 s8 s9 : Int} {l0 l1 l2 l3 l4 l5 l6 l7 l8 l9 l10 l11 t0 t1 t2 t3 t4 t5 t6 t7 t8 t9 : gV} {b0 b1 b2 b3 b4 b5 b6 b7 b8 b9 b10 b11 c0 c1 c2 c3 c4 c5 c6 c7 c8 c9 : Nat} {r : Option gV}
theorem r_B_changeTrain_0 : Wp L d k_B_changeTrain 0 [l0, vI a1, l2, l3] [] σ Q ↔ Wp L d k_B_changeTrain 1 [l0, vI a1, l2, l3] [vI a1] σ Q := wp_iload rfl rfl
theorem r_B_changeTrain_1 : Wp L d k_B_changeTrain 1 [l0, l1, l2, l3] [vI s0] σ Q ↔ (if s0 ≠ 0 then Wp L d k_B_changeTrain 11 [l0, l1, l2, l3] [] σ Q else Wp L d k_B_changeTrain 4 [l0, l1, l2, l3] [] σ Q) := wp_if_ne rfl
theorem r_B_changeTrain_4 : Wp L d k_B_changeTrain 4 [vR b0, l1, l2, l3] [] σ Q ↔ Wp L d k_B_changeTrain 5 [vR b0, l1, l2, l3] [vR b0] σ Q := wp_aload rfl rfl
theorem r_B_changeTrain_5 (h : gK c0 = 1) : Wp L d k_B_changeTrain 5 [l0, l1, l2, l3] [vR c0] σ Q ↔ Wp L d k_B_changeTrain 8 [l0, l1, l2, l3] [vI (σ c0 10)] σ Q := wp_getI (c := 266) rfl rfl rfl rfl h
theorem r_B_changeTrain_8 : Wp L d k_B_changeTrain 8 [l0, l1, l2, l3] [vI s0] σ Q ↔ Wp L d k_B_changeTrain 15 [l0, l1, l2, l3] [vI s0] σ Q := wp_goto rfl
theorem r_B_changeTrain_11 : Wp L d k_B_changeTrain 11 [vR b0, l1, l2, l3] [] σ Q ↔ Wp L d k_B_changeTrain 12 [vR b0, l1, l2, l3] [vR b0] σ Q := wp_aload rfl rfl
theorem r_B_changeTrain_12 (h : gK c0 = 1) : Wp L d k_B_changeTrain 12 [l0, l1, l2, l3] [vR c0] σ Q ↔ Wp L d k_B_changeTrain 15 [l0, l1, l2, l3] [vI (σ c0 11)] σ Q := wp_getI (c := 267) rfl rfl rfl rfl h
theorem r_B_changeTrain_15 : Wp L d k_B_changeTrain 15 [l0, l1, vI a2, l3] [vI s0] σ Q ↔ Wp L d k_B_changeTrain 16 [l0, l1, vI a2, vI s0] [] σ Q := wp_istore (i := 3) (ls := [l0, l1, vI a2, l3]) rfl rfl
theorem r_B_changeTrain_16 : Wp L d k_B_changeTrain 16 [l0, vI a1, l2, l3] [] σ Q ↔ Wp L d k_B_changeTrain 17 [l0, vI a1, l2, l3] [vI a1] σ Q := wp_iload rfl rfl
theorem r_B_changeTrain_17 : Wp L d k_B_changeTrain 17 [l0, l1, l2, l3] [vI s0] σ Q ↔ (if s0 ≠ 0 then Wp L d k_B_changeTrain 28 [l0, l1, l2, l3] [] σ Q else Wp L d k_B_changeTrain 20 [l0, l1, l2, l3] [] σ Q) := wp_if_ne rfl
theorem r_B_changeTrain_20 : Wp L d k_B_changeTrain 20 [vR b0, l1, l2, l3] [] σ Q ↔ Wp L d k_B_changeTrain 21 [vR b0, l1, l2, l3] [vR b0] σ Q := wp_aload rfl rfl
theorem r_B_changeTrain_21 : Wp L d k_B_changeTrain 21 [l0, l1, vI a2, l3] [vR c0] σ Q ↔ Wp L d k_B_changeTrain 22 [l0, l1, vI a2, l3] [vI a2, vR c0] σ Q := wp_iload rfl rfl
theorem r_B_changeTrain_22 (h : gK c0 = 1) : Wp L d k_B_changeTrain 22 [l0, l1, l2, l3] [vI s1, vR c0] σ Q ↔ Wp L d k_B_changeTrain 25 [l0, l1, l2, l3] [] (gupd σ c0 10 s1) Q := wp_putI (c := 266) rfl rfl rfl rfl h
theorem r_B_changeTrain_25 : Wp L d k_B_changeTrain 25 [l0, l1, l2, l3] [] σ Q ↔ Wp L d k_B_changeTrain 33 [l0, l1, l2, l3] [] σ Q := wp_goto rfl
theorem r_B_changeTrain_28 : Wp L d k_B_changeTrain 28 [vR b0, l1, l2, l3] [] σ Q ↔ Wp L d k_B_changeTrain 29 [vR b0, l1, l2, l3] [vR b0] σ Q := wp_aload rfl rfl
theorem r_B_changeTrain_29 : Wp L d k_B_changeTrain 29 [l0, l1, vI a2, l3] [vR c0] σ Q ↔ Wp L d k_B_changeTrain 30 [l0, l1, vI a2, l3] [vI a2, vR c0] σ Q := wp_iload rfl rfl
theorem r_B_changeTrain_30 (h : gK c0 = 1) : Wp L d k_B_changeTrain 30 [l0, l1, l2, l3] [vI s1, vR c0] σ Q ↔ Wp L d k_B_changeTrain 33 [l0, l1, l2, l3] [] (gupd σ c0 11 s1) Q := wp_putI (c := 267) rfl rfl rfl rfl h
theorem r_B_changeTrain_33 : Wp L d k_B_changeTrain 33 [l0, l1, l2, vI a3] [] σ Q ↔ Wp L d k_B_changeTrain 34 [l0, l1, l2, vI a3] [vI a3] σ Q := wp_iload rfl rfl
theorem r_B_changeTrain_34 : Wp L d k_B_changeTrain 34 [l0, l1, l2, l3] [vI s0] σ Q ↔ Q (some (vI s0)) σ := wp_iret rfl
theorem sp_B_changeTrain : Run L d 92 [vR 29, vI a1, vI a2] σ (some (vI (if a1 = 0 then σ 29 10 else σ 29 11))) (gupd σ 29 (if a1 = 0 then 10 else 11) a2) := by
  refine Run_of (C' := k_B_changeTrain) rfl ?_
  show Wp L d k_B_changeTrain 0 [vR 29, vI a1, vI a2, vU] [] σ _
  by_cases e : a1 = 0
  · simp only [r_B_changeTrain_0, r_B_changeTrain_1, r_B_changeTrain_4, r_B_changeTrain_5, r_B_changeTrain_8, r_B_changeTrain_11, r_B_changeTrain_12, r_B_changeTrain_15, r_B_changeTrain_16, r_B_changeTrain_17, r_B_changeTrain_20, r_B_changeTrain_21, r_B_changeTrain_22, r_B_changeTrain_25, r_B_changeTrain_28, r_B_changeTrain_29, r_B_changeTrain_30, r_B_changeTrain_33, r_B_changeTrain_34, gK_27, gK_28, gK_29, gq_27_0, gq_27_1, gK_293, gq_293_0, gK_294, gN_294, Int.reduceLE, Int.reduceLT, Int.reduceEq, Int.reduceToNat, gb_01, eq_self, true_or, or_true, and_true, true_and, and_self, if_true, if_false, not_true_eq_false, not_false_eq_true, ne_eq, gb_ne0, gb_eq0, e]
  · simp only [r_B_changeTrain_0, r_B_changeTrain_1, r_B_changeTrain_4, r_B_changeTrain_5, r_B_changeTrain_8, r_B_changeTrain_11, r_B_changeTrain_12, r_B_changeTrain_15, r_B_changeTrain_16, r_B_changeTrain_17, r_B_changeTrain_20, r_B_changeTrain_21, r_B_changeTrain_22, r_B_changeTrain_25, r_B_changeTrain_28, r_B_changeTrain_29, r_B_changeTrain_30, r_B_changeTrain_33, r_B_changeTrain_34, gK_27, gK_28, gK_29, gq_27_0, gq_27_1, gK_293, gq_293_0, gK_294, gN_294, Int.reduceLE, Int.reduceLT, Int.reduceEq, Int.reduceToNat, gb_01, eq_self, true_or, or_true, and_true, true_and, and_self, if_true, if_false, not_true_eq_false, not_false_eq_true, ne_eq, gb_ne0, gb_eq0, e]
theorem r_B_changeSpan_0 : Wp L d k_B_changeSpan 0 [l0, l1, vI a2, l3, l4, l5] [] σ Q ↔ Wp L d k_B_changeSpan 1 [l0, l1, vI a2, l3, l4, l5] [vI a2] σ Q := wp_iload rfl rfl
theorem r_B_changeSpan_1 : Wp L d k_B_changeSpan 1 [l0, l1, l2, l3, l4, l5] [vI s0] σ Q ↔ (if s0 ≠ 0 then Wp L d k_B_changeSpan 11 [l0, l1, l2, l3, l4, l5] [] σ Q else Wp L d k_B_changeSpan 4 [l0, l1, l2, l3, l4, l5] [] σ Q) := wp_if_ne rfl
theorem r_B_changeSpan_4 : Wp L d k_B_changeSpan 4 [vR b0, l1, l2, l3, l4, l5] [] σ Q ↔ Wp L d k_B_changeSpan 5 [vR b0, l1, l2, l3, l4, l5] [vR b0] σ Q := wp_aload rfl rfl
theorem r_B_changeSpan_5 (h : gK c0 = 1) : Wp L d k_B_changeSpan 5 [l0, l1, l2, l3, l4, l5] [vR c0] σ Q ↔ Wp L d k_B_changeSpan 8 [l0, l1, l2, l3, l4, l5] [vR (gq c0 0)] σ Q := wp_getR (c := 384) rfl rfl rfl rfl rfl h
theorem r_B_changeSpan_8 : Wp L d k_B_changeSpan 8 [l0, l1, l2, l3, l4, l5] [vR c0] σ Q ↔ Wp L d k_B_changeSpan 15 [l0, l1, l2, l3, l4, l5] [vR c0] σ Q := wp_goto rfl
theorem r_B_changeSpan_11 : Wp L d k_B_changeSpan 11 [vR b0, l1, l2, l3, l4, l5] [] σ Q ↔ Wp L d k_B_changeSpan 12 [vR b0, l1, l2, l3, l4, l5] [vR b0] σ Q := wp_aload rfl rfl
theorem r_B_changeSpan_12 (h : gK c0 = 1) : Wp L d k_B_changeSpan 12 [l0, l1, l2, l3, l4, l5] [vR c0] σ Q ↔ Wp L d k_B_changeSpan 15 [l0, l1, l2, l3, l4, l5] [vR (gq c0 1)] σ Q := wp_getR (c := 385) rfl rfl rfl rfl rfl h
theorem r_B_changeSpan_15 : Wp L d k_B_changeSpan 15 [l0, l1, l2, vI a3, l4, l5] [vR c0] σ Q ↔ Wp L d k_B_changeSpan 17 [l0, l1, l2, vI a3, vR c0, l5] [] σ Q := wp_astore (i := 4) (ls := [l0, l1, l2, vI a3, l4, l5]) rfl rfl
theorem r_B_changeSpan_17 : Wp L d k_B_changeSpan 17 [l0, l1, l2, l3, vR b4, l5] [] σ Q ↔ Wp L d k_B_changeSpan 19 [l0, l1, l2, l3, vR b4, l5] [vR b4] σ Q := wp_aload rfl rfl
theorem r_B_changeSpan_19 : Wp L d k_B_changeSpan 19 [l0, vI a1, l2, l3, l4, l5] [vR c0] σ Q ↔ Wp L d k_B_changeSpan 20 [l0, vI a1, l2, l3, l4, l5] [vI a1, vR c0] σ Q := wp_iload rfl rfl
theorem r_B_changeSpan_20 (h : gK c0 = 100) (hx : 0 ≤ s1 ∧ s1 < gN c0) : Wp L d k_B_changeSpan 20 [l0, l1, l2, l3, l4, l5] [vI s1, vR c0] σ Q ↔ Wp L d k_B_changeSpan 21 [l0, l1, l2, l3, l4, l5] [vI (σ c0 s1.toNat)] σ Q := wp_iald rfl h hx
theorem r_B_changeSpan_21 : Wp L d k_B_changeSpan 21 [l0, l1, l2, l3, vR b4, l5] [vI s0] σ Q ↔ Wp L d k_B_changeSpan 23 [l0, l1, l2, l3, vR b4, vI s0] [] σ Q := wp_istore (i := 5) (ls := [l0, l1, l2, l3, vR b4, l5]) rfl rfl
theorem r_B_changeSpan_23 : Wp L d k_B_changeSpan 23 [l0, l1, l2, l3, vR b4, l5] [] σ Q ↔ Wp L d k_B_changeSpan 25 [l0, l1, l2, l3, vR b4, l5] [vR b4] σ Q := wp_aload rfl rfl
theorem r_B_changeSpan_25 : Wp L d k_B_changeSpan 25 [l0, vI a1, l2, l3, l4, l5] [vR c0] σ Q ↔ Wp L d k_B_changeSpan 26 [l0, vI a1, l2, l3, l4, l5] [vI a1, vR c0] σ Q := wp_iload rfl rfl
theorem r_B_changeSpan_26 : Wp L d k_B_changeSpan 26 [l0, l1, l2, vI a3, l4, l5] [vI s1, vR c0] σ Q ↔ Wp L d k_B_changeSpan 27 [l0, l1, l2, vI a3, l4, l5] [vI a3, vI s1, vR c0] σ Q := wp_iload rfl rfl
theorem r_B_changeSpan_27 (h : gK c0 = 100) (hx : 0 ≤ s1 ∧ s1 < gN c0) : Wp L d k_B_changeSpan 27 [l0, l1, l2, l3, l4, l5] [vI s2, vI s1, vR c0] σ Q ↔ Wp L d k_B_changeSpan 28 [l0, l1, l2, l3, l4, l5] [] (gupd σ c0 s1.toNat s2) Q := wp_iast rfl h hx
theorem r_B_changeSpan_28 : Wp L d k_B_changeSpan 28 [l0, l1, l2, l3, l4, vI a5] [] σ Q ↔ Wp L d k_B_changeSpan 30 [l0, l1, l2, l3, l4, vI a5] [vI a5] σ Q := wp_iload rfl rfl
theorem r_B_changeSpan_30 : Wp L d k_B_changeSpan 30 [l0, l1, l2, l3, l4, l5] [vI s0] σ Q ↔ Q (some (vI s0)) σ := wp_iret rfl
theorem sp_B_changeSpan (h : 0 ≤ a1 ∧ a1 < 12) : Run L d 93 [vR 29, vI a1, vI a2, vI a3] σ (some (vI (σ (if a2 = 0 then 30 else 31) a1.toNat))) (gupd σ (if a2 = 0 then 30 else 31) a1.toNat a3) := by
  refine Run_of (C' := k_B_changeSpan) rfl ?_
  show Wp L d k_B_changeSpan 0 [vR 29, vI a1, vI a2, vI a3, vU, vU] [] σ _
  by_cases e : a2 = 0
  · simp only [r_B_changeSpan_0, r_B_changeSpan_1, r_B_changeSpan_4, r_B_changeSpan_5, r_B_changeSpan_8, r_B_changeSpan_11, r_B_changeSpan_12, r_B_changeSpan_15, r_B_changeSpan_17, r_B_changeSpan_19, r_B_changeSpan_20, r_B_changeSpan_21, r_B_changeSpan_23, r_B_changeSpan_25, r_B_changeSpan_26, r_B_changeSpan_27, r_B_changeSpan_28, r_B_changeSpan_30, gK_27, gK_28, gK_29, gq_27_0, gq_27_1, gK_293, gq_293_0, gK_294, gN_294, gq_29_0, gq_29_1, gq_29_2, gK_30, gK_31, gK_32, gN_30, gN_31, gN_32, h, Int.reduceLE, Int.reduceLT, Int.reduceEq, Int.reduceToNat, gb_01, eq_self, true_or, or_true, and_true, true_and, and_self, if_true, if_false, not_true_eq_false, not_false_eq_true, ne_eq, gb_ne0, gb_eq0, e]
  · simp only [r_B_changeSpan_0, r_B_changeSpan_1, r_B_changeSpan_4, r_B_changeSpan_5, r_B_changeSpan_8, r_B_changeSpan_11, r_B_changeSpan_12, r_B_changeSpan_15, r_B_changeSpan_17, r_B_changeSpan_19, r_B_changeSpan_20, r_B_changeSpan_21, r_B_changeSpan_23, r_B_changeSpan_25, r_B_changeSpan_26, r_B_changeSpan_27, r_B_changeSpan_28, r_B_changeSpan_30, gK_27, gK_28, gK_29, gq_27_0, gq_27_1, gK_293, gq_293_0, gK_294, gN_294, gq_29_0, gq_29_1, gq_29_2, gK_30, gK_31, gK_32, gN_30, gN_31, gN_32, h, Int.reduceLE, Int.reduceLT, Int.reduceEq, Int.reduceToNat, gb_01, eq_self, true_or, or_true, and_true, true_and, and_self, if_true, if_false, not_true_eq_false, not_false_eq_true, ne_eq, gb_ne0, gb_eq0, e]
theorem r_X_span_0 : Wp L d k_X_span 0 [l0, vI a1, l2, l3] [] σ Q ↔ Wp L d k_X_span 1 [l0, vI a1, l2, l3] [vI a1] σ Q := wp_iload rfl rfl
theorem r_X_span_1 : Wp L d k_X_span 1 [l0, l1, l2, l3] [vI s0] σ Q ↔ Wp L d k_X_span 2 [l0, l1, l2, l3] [vI (-1), vI s0] σ Q := wp_push rfl
theorem r_X_span_2 : Wp L d k_X_span 2 [l0, l1, l2, l3] [vI s1, vI s0] σ Q ↔ (if s0 = s1 then Wp L d k_X_span 13 [l0, l1, l2, l3] [] σ Q else Wp L d k_X_span 5 [l0, l1, l2, l3] [] σ Q) := wp_cmp_eq rfl
theorem r_X_span_5 : Wp L d k_X_span 5 [vR b0, l1, l2, l3] [] σ Q ↔ Wp L d k_X_span 6 [vR b0, l1, l2, l3] [vR b0] σ Q := wp_aload rfl rfl
theorem r_X_span_6 : Wp L d k_X_span 6 [l0, vI a1, l2, l3] [vR c0] σ Q ↔ Wp L d k_X_span 7 [l0, vI a1, l2, l3] [vI a1, vR c0] σ Q := wp_iload rfl rfl
theorem r_X_span_10 : Wp L d k_X_span 10 [l0, l1, l2, l3] [vI s0] σ Q ↔ (if s0 = 0 then Wp L d k_X_span 32 [l0, l1, l2, l3] [] σ Q else Wp L d k_X_span 13 [l0, l1, l2, l3] [] σ Q) := wp_if_eq rfl
theorem r_X_span_13 : Wp L d k_X_span 13 [l0, l1, vI a2, l3] [] σ Q ↔ Wp L d k_X_span 14 [l0, l1, vI a2, l3] [vI a2] σ Q := wp_iload rfl rfl
theorem r_X_span_14 : Wp L d k_X_span 14 [l0, l1, l2, l3] [vI s0] σ Q ↔ Wp L d k_X_span 15 [l0, l1, l2, l3] [vI 0, vI s0] σ Q := wp_push rfl
theorem r_X_span_15 : Wp L d k_X_span 15 [l0, l1, l2, l3] [vI s1, vI s0] σ Q ↔ Wp L d k_X_span 16 [l0, l1, l2, l3] [vI 1, vI s1, vI s0] σ Q := wp_push rfl
theorem r_X_span_19 : Wp L d k_X_span 19 [l0, l1, l2, l3] [vI s0] σ Q ↔ (if s0 = 0 then Wp L d k_X_span 32 [l0, l1, l2, l3] [] σ Q else Wp L d k_X_span 22 [l0, l1, l2, l3] [] σ Q) := wp_if_eq rfl
theorem r_X_span_22 : Wp L d k_X_span 22 [l0, l1, l2, vI a3] [] σ Q ↔ Wp L d k_X_span 23 [l0, l1, l2, vI a3] [vI a3] σ Q := wp_iload rfl rfl
theorem r_X_span_23 : Wp L d k_X_span 23 [l0, l1, l2, l3] [vI s0] σ Q ↔ Wp L d k_X_span 24 [l0, l1, l2, l3] [vI 0, vI s0] σ Q := wp_push rfl
theorem r_X_span_24 : Wp L d k_X_span 24 [l0, l1, l2, l3] [vI s1, vI s0] σ Q ↔ Wp L d k_X_span 26 [l0, l1, l2, l3] [vI 99, vI s1, vI s0] σ Q := wp_push rfl
theorem r_X_span_29 : Wp L d k_X_span 29 [l0, l1, l2, l3] [vI s0] σ Q ↔ (if s0 ≠ 0 then Wp L d k_X_span 35 [l0, l1, l2, l3] [] σ Q else Wp L d k_X_span 32 [l0, l1, l2, l3] [] σ Q) := wp_if_ne rfl
theorem r_X_span_32 : Wp L d k_X_span 32 [l0, l1, l2, l3] [] σ Q ↔ Wp L d k_X_span 34 [l0, l1, l2, l3] [vI (-1000000001)] σ Q := wp_push rfl
theorem r_X_span_34 : Wp L d k_X_span 34 [l0, l1, l2, l3] [vI s0] σ Q ↔ Q (some (vI s0)) σ := wp_iret rfl
theorem r_X_span_35 : Wp L d k_X_span 35 [l0, vI a1, l2, l3] [] σ Q ↔ Wp L d k_X_span 36 [l0, vI a1, l2, l3] [vI a1] σ Q := wp_iload rfl rfl
theorem r_X_span_36 : Wp L d k_X_span 36 [l0, l1, l2, l3] [vI s0] σ Q ↔ Wp L d k_X_span 37 [l0, l1, l2, l3] [vI (-1), vI s0] σ Q := wp_push rfl
theorem r_X_span_37 : Wp L d k_X_span 37 [l0, l1, l2, l3] [vI s1, vI s0] σ Q ↔ (if s0 ≠ s1 then Wp L d k_X_span 52 [l0, l1, l2, l3] [] σ Q else Wp L d k_X_span 40 [l0, l1, l2, l3] [] σ Q) := wp_cmp_ne rfl
theorem r_X_span_40 : Wp L d k_X_span 40 [vR b0, l1, l2, l3] [] σ Q ↔ Wp L d k_X_span 41 [vR b0, l1, l2, l3] [vR b0] σ Q := wp_aload rfl rfl
theorem r_X_span_41 (h : gK c0 = 0) : Wp L d k_X_span 41 [l0, l1, l2, l3] [vR c0] σ Q ↔ Wp L d k_X_span 44 [l0, l1, l2, l3] [vR (gq c0 1)] σ Q := wp_getR (c := 129) rfl rfl rfl rfl rfl h
theorem r_X_span_44 : Wp L d k_X_span 44 [l0, l1, vI a2, l3] [vR c0] σ Q ↔ Wp L d k_X_span 45 [l0, l1, vI a2, l3] [vI a2, vR c0] σ Q := wp_iload rfl rfl
theorem r_X_span_45 : Wp L d k_X_span 45 [l0, l1, l2, vI a3] [vI s1, vR c0] σ Q ↔ Wp L d k_X_span 46 [l0, l1, l2, vI a3] [vI a3, vI s1, vR c0] σ Q := wp_iload rfl rfl
theorem r_X_span_49 : Wp L d k_X_span 49 [l0, l1, l2, l3] [vI s0] σ Q ↔ Wp L d k_X_span 62 [l0, l1, l2, l3] [vI s0] σ Q := wp_goto rfl
theorem r_X_span_52 : Wp L d k_X_span 52 [vR b0, l1, l2, l3] [] σ Q ↔ Wp L d k_X_span 53 [vR b0, l1, l2, l3] [vR b0] σ Q := wp_aload rfl rfl
theorem r_X_span_53 (h : gK c0 = 0) : Wp L d k_X_span 53 [l0, l1, l2, l3] [vR c0] σ Q ↔ Wp L d k_X_span 56 [l0, l1, l2, l3] [vR (gq c0 1)] σ Q := wp_getR (c := 129) rfl rfl rfl rfl rfl h
theorem r_X_span_56 : Wp L d k_X_span 56 [l0, vI a1, l2, l3] [vR c0] σ Q ↔ Wp L d k_X_span 57 [l0, vI a1, l2, l3] [vI a1, vR c0] σ Q := wp_iload rfl rfl
theorem r_X_span_57 : Wp L d k_X_span 57 [l0, l1, vI a2, l3] [vI s1, vR c0] σ Q ↔ Wp L d k_X_span 58 [l0, l1, vI a2, l3] [vI a2, vI s1, vR c0] σ Q := wp_iload rfl rfl
theorem r_X_span_58 : Wp L d k_X_span 58 [l0, l1, l2, vI a3] [vI s2, vI s1, vR c0] σ Q ↔ Wp L d k_X_span 59 [l0, l1, l2, vI a3] [vI a3, vI s2, vI s1, vR c0] σ Q := wp_iload rfl rfl
theorem r_X_span_62 : Wp L d k_X_span 62 [l0, l1, l2, l3] [vI s0] σ Q ↔ Q (some (vI s0)) σ := wp_iret rfl
theorem r_X_span_7 : Wp L (d + 2) k_X_span 7 [l0, l1, l2, l3] [vI s1, vR 27] σ Q ↔ Wp L (d + 2) k_X_span 10 [l0, l1, l2, l3] [vI (gb (0 ≤ s1 ∧ s1 ≤ w32 (σ 29 8 - 1)))] σ Q := wp_callR (d := d + 1) (as := [vR 27, vI s1]) (rest := []) rfl rfl rfl rfl rfl rfl rfl (grecv_k (by rw [gK_27]) rfl) (sp_X_isSpan)
theorem r_X_span_16 : Wp L (d + 2) k_X_span 16 [l0, l1, l2, l3] [vI s2, vI s1, vI s0] σ Q ↔ Wp L (d + 2) k_X_span 19 [l0, l1, l2, l3] [vI (gb (s1 ≤ s0 ∧ s0 ≤ s2))] σ Q := wp_callR (d := d + 1) (as := [vI s0, vI s1, vI s2]) (rest := []) rfl rfl rfl rfl rfl rfl rfl rfl (sp_X_within)
theorem r_X_span_26 : Wp L (d + 2) k_X_span 26 [l0, l1, l2, l3] [vI s2, vI s1, vI s0] σ Q ↔ Wp L (d + 2) k_X_span 29 [l0, l1, l2, l3] [vI (gb (s1 ≤ s0 ∧ s0 ≤ s2))] σ Q := wp_callR (d := d + 1) (as := [vI s0, vI s1, vI s2]) (rest := []) rfl rfl rfl rfl rfl rfl rfl rfl (sp_X_within)
theorem r_X_span_46 : Wp L (d + 2) k_X_span 46 [l0, l1, l2, l3] [vI s2, vI s1, vR 29] σ Q ↔ Wp L (d + 2) k_X_span 49 [l0, l1, l2, l3] [vI (if s1 = 0 then σ 29 10 else σ 29 11)] (gupd σ 29 (if s1 = 0 then 10 else 11) s2) Q := wp_callR (d := d + 1) (as := [vR 29, vI s1, vI s2]) (rest := []) rfl rfl rfl rfl rfl rfl rfl (grecv_k (by rw [gK_29]) rfl) (sp_B_changeTrain)
theorem r_X_span_59 (h : 0 ≤ s1 ∧ s1 < 12) : Wp L (d + 2) k_X_span 59 [l0, l1, l2, l3] [vI s3, vI s2, vI s1, vR 29] σ Q ↔ Wp L (d + 2) k_X_span 62 [l0, l1, l2, l3] [vI (σ (if s2 = 0 then 30 else 31) s1.toNat)] (gupd σ (if s2 = 0 then 30 else 31) s1.toNat s3) Q := wp_callR (d := d + 1) (as := [vR 29, vI s1, vI s2, vI s3]) (rest := []) rfl rfl rfl rfl rfl rfl rfl (grecv_k (by rw [gK_29]) rfl) (sp_B_changeSpan h)
theorem sp_X_span_b (hn : w32 (σ 29 8 - 1) = σ 29 8 - 1) (h : ¬ ((a1 = -1 ∨ 0 ≤ a1 ∧ a1 ≤ σ 29 8 - 1) ∧ (0 ≤ a2 ∧ a2 ≤ 1) ∧ 0 ≤ a3 ∧ a3 ≤ 99)) : Run L (d + 2) 16 [vR 27, vI a1, vI a2, vI a3] σ (some (vI (-1000000001))) σ := by
  refine Run_of (C' := k_X_span) rfl ?_
  show Wp L (d + 2) k_X_span 0 [vR 27, vI a1, vI a2, vI a3] [] σ _
  simp only [r_X_span_0, r_X_span_1, r_X_span_2, r_X_span_5, r_X_span_6, r_X_span_7, r_X_span_10, r_X_span_13, r_X_span_14, r_X_span_15, r_X_span_16, r_X_span_19, r_X_span_22, r_X_span_23, r_X_span_24, r_X_span_26, r_X_span_29, r_X_span_32, r_X_span_34, gK_27, gK_28, gK_29, gq_27_0, gq_27_1, gK_293, gq_293_0, gK_294, gN_294, hn, Int.reduceLE, Int.reduceLT, Int.reduceEq, Int.reduceToNat, gb_01, eq_self, true_or, or_true, and_true, true_and, and_self, if_true, if_false, not_true_eq_false, not_false_eq_true, ne_eq, gb_ne0, gb_eq0]
  repeat' split
  all_goals first | trivial | omega
theorem sp_X_span_t0 (h3 : 0 ≤ a3 ∧ a3 ≤ 99) : Run L (d + 2) 16 [vR 27, vI (-1), vI 0, vI a3] σ (some (vI (σ 29 10))) (gupd σ 29 10 a3) := by
  refine Run_of (C' := k_X_span) rfl ?_
  show Wp L (d + 2) k_X_span 0 [vR 27, vI (-1), vI 0, vI a3] [] σ _
  simp only [r_X_span_0, r_X_span_1, r_X_span_2, r_X_span_5, r_X_span_6, r_X_span_7, r_X_span_10, r_X_span_13, r_X_span_14, r_X_span_15, r_X_span_16, r_X_span_19, r_X_span_22, r_X_span_23, r_X_span_24, r_X_span_26, r_X_span_29, r_X_span_32, r_X_span_34, r_X_span_35, r_X_span_36, r_X_span_37, r_X_span_40, r_X_span_41, r_X_span_44, r_X_span_45, r_X_span_46, r_X_span_49, r_X_span_52, r_X_span_53, r_X_span_56, r_X_span_57, r_X_span_58, r_X_span_59, r_X_span_62, gK_27, gK_28, gK_29, gq_27_0, gq_27_1, gK_293, gq_293_0, gK_294, gN_294, h3, Int.reduceLE, Int.reduceLT, Int.reduceEq, Int.reduceToNat, gb_01, eq_self, true_or, or_true, and_true, true_and, and_self, if_true, if_false, not_true_eq_false, not_false_eq_true, ne_eq, gb_ne0, gb_eq0]
theorem sp_X_span_s0 (hn : w32 (σ 29 8 - 1) = σ 29 8 - 1) (hb : σ 29 8 ≤ 12) (h : 0 ≤ a1 ∧ a1 ≤ σ 29 8 - 1) (h3 : 0 ≤ a3 ∧ a3 ≤ 99) : Run L (d + 2) 16 [vR 27, vI a1, vI 0, vI a3] σ (some (vI (σ 30 a1.toNat))) (gupd σ 30 a1.toNat a3) := by
  have h0 : ¬ a1 = -1 := by omega
  have h4 : a1 < 12 := by omega
  refine Run_of (C' := k_X_span) rfl ?_
  show Wp L (d + 2) k_X_span 0 [vR 27, vI a1, vI 0, vI a3] [] σ _
  simp only [r_X_span_0, r_X_span_1, r_X_span_2, r_X_span_5, r_X_span_6, r_X_span_7, r_X_span_10, r_X_span_13, r_X_span_14, r_X_span_15, r_X_span_16, r_X_span_19, r_X_span_22, r_X_span_23, r_X_span_24, r_X_span_26, r_X_span_29, r_X_span_32, r_X_span_34, r_X_span_35, r_X_span_36, r_X_span_37, r_X_span_40, r_X_span_41, r_X_span_44, r_X_span_45, r_X_span_46, r_X_span_49, r_X_span_52, r_X_span_53, r_X_span_56, r_X_span_57, r_X_span_58, r_X_span_59, r_X_span_62, gK_27, gK_28, gK_29, gq_27_0, gq_27_1, gK_293, gq_293_0, gK_294, gN_294, gq_29_0, gq_29_1, gq_29_2, gK_30, gK_31, gK_32, gN_30, gN_31, gN_32, hn, h, h.1, h0, h3, h4, Int.reduceLE, Int.reduceLT, Int.reduceEq, Int.reduceToNat, gb_01, eq_self, true_or, or_true, and_true, true_and, and_self, if_true, if_false, not_true_eq_false, not_false_eq_true, ne_eq, gb_ne0, gb_eq0]
theorem sp_X_span_t1 (h3 : 0 ≤ a3 ∧ a3 ≤ 99) : Run L (d + 2) 16 [vR 27, vI (-1), vI 1, vI a3] σ (some (vI (σ 29 11))) (gupd σ 29 11 a3) := by
  refine Run_of (C' := k_X_span) rfl ?_
  show Wp L (d + 2) k_X_span 0 [vR 27, vI (-1), vI 1, vI a3] [] σ _
  simp only [r_X_span_0, r_X_span_1, r_X_span_2, r_X_span_5, r_X_span_6, r_X_span_7, r_X_span_10, r_X_span_13, r_X_span_14, r_X_span_15, r_X_span_16, r_X_span_19, r_X_span_22, r_X_span_23, r_X_span_24, r_X_span_26, r_X_span_29, r_X_span_32, r_X_span_34, r_X_span_35, r_X_span_36, r_X_span_37, r_X_span_40, r_X_span_41, r_X_span_44, r_X_span_45, r_X_span_46, r_X_span_49, r_X_span_52, r_X_span_53, r_X_span_56, r_X_span_57, r_X_span_58, r_X_span_59, r_X_span_62, gK_27, gK_28, gK_29, gq_27_0, gq_27_1, gK_293, gq_293_0, gK_294, gN_294, h3, Int.reduceLE, Int.reduceLT, Int.reduceEq, Int.reduceToNat, gb_01, eq_self, true_or, or_true, and_true, true_and, and_self, if_true, if_false, not_true_eq_false, not_false_eq_true, ne_eq, gb_ne0, gb_eq0]
theorem sp_X_span_s1 (hn : w32 (σ 29 8 - 1) = σ 29 8 - 1) (hb : σ 29 8 ≤ 12) (h : 0 ≤ a1 ∧ a1 ≤ σ 29 8 - 1) (h3 : 0 ≤ a3 ∧ a3 ≤ 99) : Run L (d + 2) 16 [vR 27, vI a1, vI 1, vI a3] σ (some (vI (σ 31 a1.toNat))) (gupd σ 31 a1.toNat a3) := by
  have h0 : ¬ a1 = -1 := by omega
  have h4 : a1 < 12 := by omega
  refine Run_of (C' := k_X_span) rfl ?_
  show Wp L (d + 2) k_X_span 0 [vR 27, vI a1, vI 1, vI a3] [] σ _
  simp only [r_X_span_0, r_X_span_1, r_X_span_2, r_X_span_5, r_X_span_6, r_X_span_7, r_X_span_10, r_X_span_13, r_X_span_14, r_X_span_15, r_X_span_16, r_X_span_19, r_X_span_22, r_X_span_23, r_X_span_24, r_X_span_26, r_X_span_29, r_X_span_32, r_X_span_34, r_X_span_35, r_X_span_36, r_X_span_37, r_X_span_40, r_X_span_41, r_X_span_44, r_X_span_45, r_X_span_46, r_X_span_49, r_X_span_52, r_X_span_53, r_X_span_56, r_X_span_57, r_X_span_58, r_X_span_59, r_X_span_62, gK_27, gK_28, gK_29, gq_27_0, gq_27_1, gK_293, gq_293_0, gK_294, gN_294, gq_29_0, gq_29_1, gq_29_2, gK_30, gK_31, gK_32, gN_30, gN_31, gN_32, hn, h, h.1, h0, h3, h4, Int.reduceLE, Int.reduceLT, Int.reduceEq, Int.reduceToNat, gb_01, eq_self, true_or, or_true, and_true, true_and, and_self, if_true, if_false, not_true_eq_false, not_false_eq_true, ne_eq, gb_ne0, gb_eq0]
theorem r_M_span_0 : Wp L d k_M_span 0 [l0, vI a1, l2, l3] [] σ Q ↔ Wp L d k_M_span 1 [l0, vI a1, l2, l3] [vI a1] σ Q := wp_iload rfl rfl
theorem r_M_span_1 : Wp L d k_M_span 1 [l0, l1, l2, l3] [vI s0] σ Q ↔ Wp L d k_M_span 2 [l0, l1, l2, l3] [vI (-1), vI s0] σ Q := wp_push rfl
theorem r_M_span_2 : Wp L d k_M_span 2 [l0, l1, l2, l3] [vI s1, vI s0] σ Q ↔ (if s0 = s1 then Wp L d k_M_span 13 [l0, l1, l2, l3] [] σ Q else Wp L d k_M_span 5 [l0, l1, l2, l3] [] σ Q) := wp_cmp_eq rfl
theorem r_M_span_5 : Wp L d k_M_span 5 [vR b0, l1, l2, l3] [] σ Q ↔ Wp L d k_M_span 6 [vR b0, l1, l2, l3] [vR b0] σ Q := wp_aload rfl rfl
theorem r_M_span_6 : Wp L d k_M_span 6 [l0, vI a1, l2, l3] [vR c0] σ Q ↔ Wp L d k_M_span 7 [l0, vI a1, l2, l3] [vI a1, vR c0] σ Q := wp_iload rfl rfl
theorem r_M_span_10 : Wp L d k_M_span 10 [l0, l1, l2, l3] [vI s0] σ Q ↔ (if s0 = 0 then Wp L d k_M_span 35 [l0, l1, l2, l3] [] σ Q else Wp L d k_M_span 13 [l0, l1, l2, l3] [] σ Q) := wp_if_eq rfl
theorem r_M_span_13 : Wp L d k_M_span 13 [l0, l1, vI a2, l3] [] σ Q ↔ Wp L d k_M_span 14 [l0, l1, vI a2, l3] [vI a2] σ Q := wp_iload rfl rfl
theorem r_M_span_14 : Wp L d k_M_span 14 [l0, l1, l2, l3] [vI s0] σ Q ↔ Wp L d k_M_span 15 [l0, l1, l2, l3] [vL s0] σ Q := wp_i2l rfl
theorem r_M_span_15 : Wp L d k_M_span 15 [l0, l1, l2, l3] [vL s0] σ Q ↔ Wp L d k_M_span 16 [l0, l1, l2, l3] [vL 0, vL s0] σ Q := wp_pushL rfl
theorem r_M_span_16 : Wp L d k_M_span 16 [l0, l1, l2, l3] [vL s1, vL s0] σ Q ↔ Wp L d k_M_span 17 [l0, l1, l2, l3] [vL 1, vL s1, vL s0] σ Q := wp_pushL rfl
theorem r_M_span_20 : Wp L d k_M_span 20 [l0, l1, l2, l3] [vI s0] σ Q ↔ (if s0 = 0 then Wp L d k_M_span 35 [l0, l1, l2, l3] [] σ Q else Wp L d k_M_span 23 [l0, l1, l2, l3] [] σ Q) := wp_if_eq rfl
theorem r_M_span_23 : Wp L d k_M_span 23 [l0, l1, l2, vI a3] [] σ Q ↔ Wp L d k_M_span 24 [l0, l1, l2, vI a3] [vI a3] σ Q := wp_iload rfl rfl
theorem r_M_span_24 : Wp L d k_M_span 24 [l0, l1, l2, l3] [vI s0] σ Q ↔ Wp L d k_M_span 25 [l0, l1, l2, l3] [vL s0] σ Q := wp_i2l rfl
theorem r_M_span_25 : Wp L d k_M_span 25 [l0, l1, l2, l3] [vL s0] σ Q ↔ Wp L d k_M_span 26 [l0, l1, l2, l3] [vL 0, vL s0] σ Q := wp_pushL rfl
theorem r_M_span_26 : Wp L d k_M_span 26 [l0, l1, l2, l3] [vL s1, vL s0] σ Q ↔ Wp L d k_M_span 29 [l0, l1, l2, l3] [vL 99, vL s1, vL s0] σ Q := wp_pushL rfl
theorem r_M_span_32 : Wp L d k_M_span 32 [l0, l1, l2, l3] [vI s0] σ Q ↔ (if s0 ≠ 0 then Wp L d k_M_span 38 [l0, l1, l2, l3] [] σ Q else Wp L d k_M_span 35 [l0, l1, l2, l3] [] σ Q) := wp_if_ne rfl
theorem r_M_span_35 : Wp L d k_M_span 35 [l0, l1, l2, l3] [] σ Q ↔ Wp L d k_M_span 37 [l0, l1, l2, l3] [vI (-1000000001)] σ Q := wp_push rfl
theorem r_M_span_37 : Wp L d k_M_span 37 [l0, l1, l2, l3] [vI s0] σ Q ↔ Q (some (vI s0)) σ := wp_iret rfl
theorem r_M_span_38 : Wp L d k_M_span 38 [vR b0, l1, l2, l3] [] σ Q ↔ Wp L d k_M_span 39 [vR b0, l1, l2, l3] [vR b0] σ Q := wp_aload rfl rfl
theorem r_M_span_39 : Wp L d k_M_span 39 [l0, vI a1, l2, l3] [vR c0] σ Q ↔ Wp L d k_M_span 40 [l0, vI a1, l2, l3] [vI a1, vR c0] σ Q := wp_iload rfl rfl
theorem r_M_span_40 : Wp L d k_M_span 40 [l0, l1, l2, l3] [vI s1, vR c0] σ Q ↔ Wp L d k_M_span 41 [l0, l1, l2, l3] [vI (-1), vI s1, vR c0] σ Q := wp_push rfl
theorem r_M_span_41 : Wp L d k_M_span 41 [l0, l1, l2, l3] [vI s2, vI s1, vR c0] σ Q ↔ (if s1 ≠ s2 then Wp L d k_M_span 51 [l0, l1, l2, l3] [vR c0] σ Q else Wp L d k_M_span 44 [l0, l1, l2, l3] [vR c0] σ Q) := wp_cmp_ne rfl
theorem r_M_span_44 : Wp L d k_M_span 44 [l0, l1, l2, l3] [vR c0] σ Q ↔ Wp L d k_M_span 46 [l0, l1, l2, l3] [vI 9, vR c0] σ Q := wp_push rfl
theorem r_M_span_46 : Wp L d k_M_span 46 [l0, l1, vI a2, l3] [vI s1, vR c0] σ Q ↔ Wp L d k_M_span 47 [l0, l1, vI a2, l3] [vI a2, vI s1, vR c0] σ Q := wp_iload rfl rfl
theorem r_M_span_47 : Wp L d k_M_span 47 [l0, l1, l2, l3] [vI s2, vI s1, vR c0] σ Q ↔ Wp L d k_M_span 48 [l0, l1, l2, l3] [vI (w32 (s1 + s2)), vR c0] σ Q := wp_iadd rfl
theorem r_M_span_48 : Wp L d k_M_span 48 [l0, l1, l2, l3] [vI s1, vR c0] σ Q ↔ Wp L d k_M_span 58 [l0, l1, l2, l3] [vI s1, vR c0] σ Q := wp_goto rfl
theorem r_M_span_51 : Wp L d k_M_span 51 [vR b0, l1, l2, l3] [vR c0] σ Q ↔ Wp L d k_M_span 52 [vR b0, l1, l2, l3] [vR b0, vR c0] σ Q := wp_aload rfl rfl
theorem r_M_span_52 : Wp L d k_M_span 52 [l0, vI a1, l2, l3] [vR c1, vR c0] σ Q ↔ Wp L d k_M_span 53 [l0, vI a1, l2, l3] [vI a1, vR c1, vR c0] σ Q := wp_iload rfl rfl
theorem r_M_span_56 : Wp L d k_M_span 56 [l0, l1, vI a2, l3] [vI s1, vR c0] σ Q ↔ Wp L d k_M_span 57 [l0, l1, vI a2, l3] [vI a2, vI s1, vR c0] σ Q := wp_iload rfl rfl
theorem r_M_span_57 : Wp L d k_M_span 57 [l0, l1, l2, l3] [vI s2, vI s1, vR c0] σ Q ↔ Wp L d k_M_span 58 [l0, l1, l2, l3] [vI (w32 (s1 + s2)), vR c0] σ Q := wp_iadd rfl
theorem r_M_span_58 : Wp L d k_M_span 58 [l0, l1, l2, vI a3] [vI s1, vR c0] σ Q ↔ Wp L d k_M_span 59 [l0, l1, l2, vI a3] [vI a3, vI s1, vR c0] σ Q := wp_iload rfl rfl
theorem r_M_span_62 : Wp L d k_M_span 62 [l0, l1, l2, l3] [vI s0] σ Q ↔ Q (some (vI s0)) σ := wp_iret rfl
theorem r_M_span_7 : Wp L (d + 2) k_M_span 7 [l0, l1, l2, l3] [vI s1, vR 293] σ Q ↔ Wp L (d + 2) k_M_span 10 [l0, l1, l2, l3] [vI (gb (0 ≤ s1 ∧ s1 ≤ w32 (σ 294 0 - 1)))] σ Q := wp_callR (d := d + 1) (as := [vR 293, vI s1]) (rest := []) rfl rfl rfl rfl rfl rfl rfl (grecv_k (by rw [gK_293]) rfl) (sp_M_isSpan)
theorem r_M_span_17 : Wp L (d + 2) k_M_span 17 [l0, l1, l2, l3] [vL s2, vL s1, vL s0] σ Q ↔ Wp L (d + 2) k_M_span 20 [l0, l1, l2, l3] [vI (gb (s1 ≤ s0 ∧ s0 ≤ s2))] σ Q := wp_callR (d := d + 1) (as := [vL s0, vL s1, vL s2]) (rest := []) rfl rfl rfl rfl rfl rfl rfl rfl (sp_M_isIn)
theorem r_M_span_29 : Wp L (d + 2) k_M_span 29 [l0, l1, l2, l3] [vL s2, vL s1, vL s0] σ Q ↔ Wp L (d + 2) k_M_span 32 [l0, l1, l2, l3] [vI (gb (s1 ≤ s0 ∧ s0 ≤ s2))] σ Q := wp_callR (d := d + 1) (as := [vL s0, vL s1, vL s2]) (rest := []) rfl rfl rfl rfl rfl rfl rfl rfl (sp_M_isIn)
theorem r_M_span_53 : Wp L (d + 2) k_M_span 53 [l0, l1, l2, l3] [vI s2, vR 293, vR c0] σ Q ↔ Wp L (d + 2) k_M_span 56 [l0, l1, l2, l3] [vI (w32 (20 + w32 (3 * s2))), vR c0] σ Q := wp_callR (d := d + 1) (as := [vR 293, vI s2]) (rest := [vR c0]) rfl rfl rfl rfl rfl rfl rfl (grecv_k (by rw [gK_293]) rfl) (sp_M_spanAt)
theorem r_M_span_59 (h : 0 ≤ s1 ∧ s1 < 3540) : Wp L (d + 2) k_M_span 59 [l0, l1, l2, l3] [vI s2, vI s1, vR 293] σ Q ↔ Wp L (d + 2) k_M_span 62 [l0, l1, l2, l3] [vI (σ 294 s1.toNat)] (gupd σ 294 s1.toNat s2) Q := wp_callR (d := d + 1) (as := [vR 293, vI s1, vI s2]) (rest := []) rfl rfl rfl rfl rfl rfl rfl (grecv_k (by rw [gK_293]) rfl) (sp_M_becomes h)
theorem sp_M_span_b (hn : w32 (σ 294 0 - 1) = σ 294 0 - 1) (h : ¬ ((a1 = -1 ∨ 0 ≤ a1 ∧ a1 ≤ σ 294 0 - 1) ∧ (0 ≤ a2 ∧ a2 ≤ 1) ∧ 0 ≤ a3 ∧ a3 ≤ 99)) : Run L (d + 2) 196 [vR 293, vI a1, vI a2, vI a3] σ (some (vI (-1000000001))) σ := by
  refine Run_of (C' := k_M_span) rfl ?_
  show Wp L (d + 2) k_M_span 0 [vR 293, vI a1, vI a2, vI a3] [] σ _
  simp only [r_M_span_0, r_M_span_1, r_M_span_2, r_M_span_5, r_M_span_6, r_M_span_7, r_M_span_10, r_M_span_13, r_M_span_14, r_M_span_15, r_M_span_16, r_M_span_17, r_M_span_20, r_M_span_23, r_M_span_24, r_M_span_25, r_M_span_26, r_M_span_29, r_M_span_32, r_M_span_35, r_M_span_37, gK_27, gK_28, gK_29, gq_27_0, gq_27_1, gK_293, gq_293_0, gK_294, gN_294, hn, Int.reduceLE, Int.reduceLT, Int.reduceEq, Int.reduceToNat, gb_01, eq_self, true_or, or_true, and_true, true_and, and_self, if_true, if_false, not_true_eq_false, not_false_eq_true, ne_eq, gb_ne0, gb_eq0]
  repeat' split
  all_goals first | trivial | omega
theorem sp_M_span_t0 (h3 : 0 ≤ a3 ∧ a3 ≤ 99) : Run L (d + 2) 196 [vR 293, vI (-1), vI 0, vI a3] σ (some (vI (σ 294 9))) (gupd σ 294 9 a3) := by
  have z : w32 (9 + 0) = 9 := by decide
  refine Run_of (C' := k_M_span) rfl ?_
  show Wp L (d + 2) k_M_span 0 [vR 293, vI (-1), vI 0, vI a3] [] σ _
  simp only [r_M_span_0, r_M_span_1, r_M_span_2, r_M_span_5, r_M_span_6, r_M_span_7, r_M_span_10, r_M_span_13, r_M_span_14, r_M_span_15, r_M_span_16, r_M_span_17, r_M_span_20, r_M_span_23, r_M_span_24, r_M_span_25, r_M_span_26, r_M_span_29, r_M_span_32, r_M_span_35, r_M_span_37, r_M_span_38, r_M_span_39, r_M_span_40, r_M_span_41, r_M_span_44, r_M_span_46, r_M_span_47, r_M_span_48, r_M_span_51, r_M_span_52, r_M_span_53, r_M_span_56, r_M_span_57, r_M_span_58, r_M_span_59, r_M_span_62, gK_27, gK_28, gK_29, gq_27_0, gq_27_1, gK_293, gq_293_0, gK_294, gN_294, h3, z, Int.reduceLE, Int.reduceLT, Int.reduceEq, Int.reduceToNat, gb_01, eq_self, true_or, or_true, and_true, true_and, and_self, if_true, if_false, not_true_eq_false, not_false_eq_true, ne_eq, gb_ne0, gb_eq0]
theorem sp_M_span_s0 (hn : w32 (σ 294 0 - 1) = σ 294 0 - 1) (hb : σ 294 0 ≤ 12) (h : 0 ≤ a1 ∧ a1 ≤ σ 294 0 - 1) (h3 : 0 ≤ a3 ∧ a3 ≤ 99) : Run L (d + 2) 196 [vR 293, vI a1, vI 0, vI a3] σ (some (vI (σ 294 (20 + 3 * a1.toNat + 0)))) (gupd σ 294 (20 + 3 * a1.toNat + 0) a3) := by
  have h0 : ¬ a1 = -1 := by omega
  have w0 : w32 (3 * a1) = 3 * a1 := w32_id (by unfold gr32; omega)
  have w1 : w32 (20 + 3 * a1) = 20 + 3 * a1 := w32_id (by unfold gr32; omega)
  have w2 : w32 (20 + 3 * a1 + 0) = 20 + 3 * a1 + 0 := w32_id (by unfold gr32; omega)
  have h4 : 0 ≤ 20 + 3 * a1 + 0 := by omega
  have h5 : 20 + 3 * a1 + 0 < 3540 := by omega
  have t0 : (20 + 3 * a1 + 0).toNat = 20 + 3 * a1.toNat + 0 := by omega
  refine Run_of (C' := k_M_span) rfl ?_
  show Wp L (d + 2) k_M_span 0 [vR 293, vI a1, vI 0, vI a3] [] σ _
  simp only [r_M_span_0, r_M_span_1, r_M_span_2, r_M_span_5, r_M_span_6, r_M_span_7, r_M_span_10, r_M_span_13, r_M_span_14, r_M_span_15, r_M_span_16, r_M_span_17, r_M_span_20, r_M_span_23, r_M_span_24, r_M_span_25, r_M_span_26, r_M_span_29, r_M_span_32, r_M_span_35, r_M_span_37, r_M_span_38, r_M_span_39, r_M_span_40, r_M_span_41, r_M_span_44, r_M_span_46, r_M_span_47, r_M_span_48, r_M_span_51, r_M_span_52, r_M_span_53, r_M_span_56, r_M_span_57, r_M_span_58, r_M_span_59, r_M_span_62, gK_27, gK_28, gK_29, gq_27_0, gq_27_1, gK_293, gq_293_0, gK_294, gN_294, hn, h, h.1, h0, h3, h4, h5, t0, w0, w1, w2, Int.reduceLE, Int.reduceLT, Int.reduceEq, Int.reduceToNat, gb_01, eq_self, true_or, or_true, and_true, true_and, and_self, if_true, if_false, not_true_eq_false, not_false_eq_true, ne_eq, gb_ne0, gb_eq0]
theorem sp_M_span_t1 (h3 : 0 ≤ a3 ∧ a3 ≤ 99) : Run L (d + 2) 196 [vR 293, vI (-1), vI 1, vI a3] σ (some (vI (σ 294 10))) (gupd σ 294 10 a3) := by
  have z : w32 (9 + 1) = 10 := by decide
  refine Run_of (C' := k_M_span) rfl ?_
  show Wp L (d + 2) k_M_span 0 [vR 293, vI (-1), vI 1, vI a3] [] σ _
  simp only [r_M_span_0, r_M_span_1, r_M_span_2, r_M_span_5, r_M_span_6, r_M_span_7, r_M_span_10, r_M_span_13, r_M_span_14, r_M_span_15, r_M_span_16, r_M_span_17, r_M_span_20, r_M_span_23, r_M_span_24, r_M_span_25, r_M_span_26, r_M_span_29, r_M_span_32, r_M_span_35, r_M_span_37, r_M_span_38, r_M_span_39, r_M_span_40, r_M_span_41, r_M_span_44, r_M_span_46, r_M_span_47, r_M_span_48, r_M_span_51, r_M_span_52, r_M_span_53, r_M_span_56, r_M_span_57, r_M_span_58, r_M_span_59, r_M_span_62, gK_27, gK_28, gK_29, gq_27_0, gq_27_1, gK_293, gq_293_0, gK_294, gN_294, h3, z, Int.reduceLE, Int.reduceLT, Int.reduceEq, Int.reduceToNat, gb_01, eq_self, true_or, or_true, and_true, true_and, and_self, if_true, if_false, not_true_eq_false, not_false_eq_true, ne_eq, gb_ne0, gb_eq0]
theorem sp_M_span_s1 (hn : w32 (σ 294 0 - 1) = σ 294 0 - 1) (hb : σ 294 0 ≤ 12) (h : 0 ≤ a1 ∧ a1 ≤ σ 294 0 - 1) (h3 : 0 ≤ a3 ∧ a3 ≤ 99) : Run L (d + 2) 196 [vR 293, vI a1, vI 1, vI a3] σ (some (vI (σ 294 (20 + 3 * a1.toNat + 1)))) (gupd σ 294 (20 + 3 * a1.toNat + 1) a3) := by
  have h0 : ¬ a1 = -1 := by omega
  have w0 : w32 (3 * a1) = 3 * a1 := w32_id (by unfold gr32; omega)
  have w1 : w32 (20 + 3 * a1) = 20 + 3 * a1 := w32_id (by unfold gr32; omega)
  have w2 : w32 (20 + 3 * a1 + 1) = 20 + 3 * a1 + 1 := w32_id (by unfold gr32; omega)
  have h4 : 0 ≤ 20 + 3 * a1 + 1 := by omega
  have h5 : 20 + 3 * a1 + 1 < 3540 := by omega
  have t0 : (20 + 3 * a1 + 1).toNat = 20 + 3 * a1.toNat + 1 := by omega
  refine Run_of (C' := k_M_span) rfl ?_
  show Wp L (d + 2) k_M_span 0 [vR 293, vI a1, vI 1, vI a3] [] σ _
  simp only [r_M_span_0, r_M_span_1, r_M_span_2, r_M_span_5, r_M_span_6, r_M_span_7, r_M_span_10, r_M_span_13, r_M_span_14, r_M_span_15, r_M_span_16, r_M_span_17, r_M_span_20, r_M_span_23, r_M_span_24, r_M_span_25, r_M_span_26, r_M_span_29, r_M_span_32, r_M_span_35, r_M_span_37, r_M_span_38, r_M_span_39, r_M_span_40, r_M_span_41, r_M_span_44, r_M_span_46, r_M_span_47, r_M_span_48, r_M_span_51, r_M_span_52, r_M_span_53, r_M_span_56, r_M_span_57, r_M_span_58, r_M_span_59, r_M_span_62, gK_27, gK_28, gK_29, gq_27_0, gq_27_1, gK_293, gq_293_0, gK_294, gN_294, hn, h, h.1, h0, h3, h4, h5, t0, w0, w1, w2, Int.reduceLE, Int.reduceLT, Int.reduceEq, Int.reduceToNat, gb_01, eq_self, true_or, or_true, and_true, true_and, and_self, if_true, if_false, not_true_eq_false, not_false_eq_true, ne_eq, gb_ne0, gb_eq0]
theorem op_span (a1 a2 a3 : Int) : Op 16 196 [vI a1, vI a2, vI a3] := by
  intro L d σ hI
  obtain ⟨⟨w1, w2, w3, w4, w5, w6, w7, w8⟩, c1, c2, c3, c4, c5, c6, c7, c8⟩ := iB hI
  have hn : w32 (σ 29 8 - 1) = σ 29 8 - 1 := w32_id (by unfold gr32; omega)
  have hm : w32 (σ 294 0 - 1) = σ 294 0 - 1 := w32_id (by unfold gr32; omega)
  
  by_cases h : (a1 = -1 ∨ 0 ≤ a1 ∧ a1 ≤ σ 29 8 - 1) ∧ (0 ≤ a2 ∧ a2 ≤ 1) ∧ 0 ≤ a3 ∧ a3 ≤ 99
  · obtain ⟨h, h2, h3⟩ := h
    have z : a2 = 0 ∨ a2 = 1 := by omega
    by_cases e : a1 = -1
    · subst e
      rcases z with rfl | rfl
      · refine ⟨_, _, _, sp_X_span_t0 h3, Run_r (sp_M_span_t0 h3) (by rw [gupd_ne (by omega)]; exact c5.symm), ?_⟩
        refine Inv_mk (P := fun k j => (k = 29 ∧ j = 10) ∨ (k = 294 ∧ j = 9)) hI (Agr_upd (Agr_upd (Agr_refl _ _) (by omega)) (by omega)) (Or.inr ?_) (Or.inl (fun k j hz hp => by unfold ZT at hz; omega)) (Or.inl (fun k j hz hp => by unfold ZG at hz; omega)) (Or.inl (fun k j hz hp => by unfold ZS at hz; omega)) (Or.inl (fun k j hz hp => by unfold ZW at hz; omega)) (Or.inl (fun k j hz hp => by unfold ZP at hz; omega)) (Or.inl (fun k j hz hp => by unfold ZR ZK at hz; omega)) (Or.inl (fun k j hz hp => by unfold ZM at hz; omega)) (Or.inl (fun k j hz hp => by unfold ZTape at hz; omega)) (Or.inl (fun k j hz hp => by unfold ZTest at hz; omega)) (Or.inl (fun k j hz hp => by unfold ZWait at hz; omega)) (Or.inl (fun k j hz hp => by unfold ZImg at hz; omega))
        refine B_mk (P := fun k j => (k = 29 ∧ j = 10) ∨ (k = 294 ∧ j = 9)) hI (Agr_upd (Agr_upd (Agr_refl _ _) (by omega)) (by omega)) (fun k j hz hp => by unfold ZC at hz; omega) (Or.inl (fun k j hz hp => by unfold ZSp at hz; omega)) (Or.inl (fun k j hz hp => by unfold ZPt at hz; omega)) (Or.inr ?_)
        refine ⟨⟨?_, ?_, ?_, ?_⟩, ?_, ?_, ?_, ?_⟩
        · rw [gupd_eq]; exact h3
        · rw [gupd_ne (by omega), gupd_ne (by omega)]; exact w6
        · rw [gupd_ne (by omega), gupd_ne (by omega)]; exact w7
        · rw [gupd_ne (by omega), gupd_ne (by omega)]; exact w8
        · rw [gupd_eq, gupd_ne (by omega), gupd_eq]
        · rw [gupd_ne (by omega), gupd_ne (by omega), gupd_ne (by omega), gupd_ne (by omega)]; exact c6
        · rw [gupd_ne (by omega), gupd_ne (by omega), gupd_ne (by omega), gupd_ne (by omega)]; exact c7
        · rw [gupd_ne (by omega), gupd_ne (by omega), gupd_ne (by omega), gupd_ne (by omega)]; exact c8
      · refine ⟨_, _, _, sp_X_span_t1 h3, Run_r (sp_M_span_t1 h3) (by rw [gupd_ne (by omega)]; exact c6.symm), ?_⟩
        refine Inv_mk (P := fun k j => (k = 29 ∧ j = 11) ∨ (k = 294 ∧ j = 10)) hI (Agr_upd (Agr_upd (Agr_refl _ _) (by omega)) (by omega)) (Or.inr ?_) (Or.inl (fun k j hz hp => by unfold ZT at hz; omega)) (Or.inl (fun k j hz hp => by unfold ZG at hz; omega)) (Or.inl (fun k j hz hp => by unfold ZS at hz; omega)) (Or.inl (fun k j hz hp => by unfold ZW at hz; omega)) (Or.inl (fun k j hz hp => by unfold ZP at hz; omega)) (Or.inl (fun k j hz hp => by unfold ZR ZK at hz; omega)) (Or.inl (fun k j hz hp => by unfold ZM at hz; omega)) (Or.inl (fun k j hz hp => by unfold ZTape at hz; omega)) (Or.inl (fun k j hz hp => by unfold ZTest at hz; omega)) (Or.inl (fun k j hz hp => by unfold ZWait at hz; omega)) (Or.inl (fun k j hz hp => by unfold ZImg at hz; omega))
        refine B_mk (P := fun k j => (k = 29 ∧ j = 11) ∨ (k = 294 ∧ j = 10)) hI (Agr_upd (Agr_upd (Agr_refl _ _) (by omega)) (by omega)) (fun k j hz hp => by unfold ZC at hz; omega) (Or.inl (fun k j hz hp => by unfold ZSp at hz; omega)) (Or.inl (fun k j hz hp => by unfold ZPt at hz; omega)) (Or.inr ?_)
        refine ⟨⟨?_, ?_, ?_, ?_⟩, ?_, ?_, ?_, ?_⟩
        · rw [gupd_ne (by omega), gupd_ne (by omega)]; exact w5
        · rw [gupd_eq]; exact h3
        · rw [gupd_ne (by omega), gupd_ne (by omega)]; exact w7
        · rw [gupd_ne (by omega), gupd_ne (by omega)]; exact w8
        · rw [gupd_ne (by omega), gupd_ne (by omega), gupd_ne (by omega), gupd_ne (by omega)]; exact c5
        · rw [gupd_eq, gupd_ne (by omega), gupd_eq]
        · rw [gupd_ne (by omega), gupd_ne (by omega), gupd_ne (by omega), gupd_ne (by omega)]; exact c7
        · rw [gupd_ne (by omega), gupd_ne (by omega), gupd_ne (by omega), gupd_ne (by omega)]; exact c8
    · have h : 0 ≤ a1 ∧ a1 ≤ σ 29 8 - 1 := by omega
      have q := c3 a1.toNat (by omega)
      rcases z with rfl | rfl
      · refine ⟨_, _, _, sp_X_span_s0 hn (by omega) h h3, Run_r (sp_M_span_s0 (by rw [gupd_ne (by omega)]; exact hm) (by rw [gupd_ne (by omega)]; omega) (by rw [gupd_ne (by omega)]; omega) h3) (by rw [gupd_ne (by omega)]; exact q.1.symm), ?_⟩
        refine Inv_mk (P := fun k j => (k = 30 ∧ j = a1.toNat) ∨ (k = 294 ∧ j = 20 + 3 * a1.toNat + 0)) hI (Agr_upd (Agr_upd (Agr_refl _ _) (by omega)) (by omega)) (Or.inr ?_) (Or.inl (fun k j hz hp => by unfold ZT at hz; omega)) (Or.inl (fun k j hz hp => by unfold ZG at hz; omega)) (Or.inl (fun k j hz hp => by unfold ZS at hz; omega)) (Or.inl (fun k j hz hp => by unfold ZW at hz; omega)) (Or.inl (fun k j hz hp => by unfold ZP at hz; omega)) (Or.inl (fun k j hz hp => by unfold ZR ZK at hz; omega)) (Or.inl (fun k j hz hp => by unfold ZM at hz; omega)) (Or.inl (fun k j hz hp => by unfold ZTape at hz; omega)) (Or.inl (fun k j hz hp => by unfold ZTest at hz; omega)) (Or.inl (fun k j hz hp => by unfold ZWait at hz; omega)) (Or.inl (fun k j hz hp => by unfold ZImg at hz; omega))
        refine B_mk (P := fun k j => (k = 30 ∧ j = a1.toNat) ∨ (k = 294 ∧ j = 20 + 3 * a1.toNat + 0)) hI (Agr_upd (Agr_upd (Agr_refl _ _) (by omega)) (by omega)) (fun k j hz hp => by unfold ZC at hz; omega) (Or.inr ?_) (Or.inl (fun k j hz hp => by unfold ZPt at hz; omega)) (Or.inl (fun k j hz hp => by unfold ZTr at hz; omega))
        intro k hk
        have a := w3 k hk
        have b := c3 k hk
        by_cases e : k = a1.toNat
        · rw [e] at a b ⊢
          unfold WSp CSp
          refine ⟨⟨?_, ?_, ?_⟩, ?_, ?_, ?_⟩
          · rw [show 20 + 3 * a1.toNat = 20 + 3 * a1.toNat + 0 from rfl, gupd_eq]; exact h3
          · rw [gupd_ne (by omega), gupd_ne (by omega)]; exact a.2.1
          · rw [gupd_ne (by omega), gupd_ne (by omega)]; exact a.2.2
          · rw [show 20 + 3 * a1.toNat = 20 + 3 * a1.toNat + 0 from rfl, gupd_eq, gupd_ne (by omega), gupd_eq]
          · rw [gupd_ne (by omega), gupd_ne (by omega), gupd_ne (by omega), gupd_ne (by omega)]; exact b.2.1
          · rw [gupd_ne (by omega), gupd_ne (by omega), gupd_ne (by omega), gupd_ne (by omega)]; exact b.2.2
        · unfold WSp CSp
          rw [gupd_ne (k' := 294) (j' := 20 + 3 * k) (by omega), gupd_ne (k' := 294) (j' := 20 + 3 * k) (by omega), gupd_ne (k' := 294) (j' := 20 + 3 * k + 1) (by omega), gupd_ne (k' := 294) (j' := 20 + 3 * k + 1) (by omega), gupd_ne (k' := 294) (j' := 20 + 3 * k + 2) (by omega), gupd_ne (k' := 294) (j' := 20 + 3 * k + 2) (by omega), gupd_ne (k' := 30) (by omega), gupd_ne (k' := 30) (by omega), gupd_ne (k' := 31) (by omega), gupd_ne (k' := 31) (by omega), gupd_ne (k' := 32) (by omega), gupd_ne (k' := 32) (by omega)]
          exact ⟨a, b⟩
      · refine ⟨_, _, _, sp_X_span_s1 hn (by omega) h h3, Run_r (sp_M_span_s1 (by rw [gupd_ne (by omega)]; exact hm) (by rw [gupd_ne (by omega)]; omega) (by rw [gupd_ne (by omega)]; omega) h3) (by rw [gupd_ne (by omega)]; exact q.2.1.symm), ?_⟩
        refine Inv_mk (P := fun k j => (k = 31 ∧ j = a1.toNat) ∨ (k = 294 ∧ j = 20 + 3 * a1.toNat + 1)) hI (Agr_upd (Agr_upd (Agr_refl _ _) (by omega)) (by omega)) (Or.inr ?_) (Or.inl (fun k j hz hp => by unfold ZT at hz; omega)) (Or.inl (fun k j hz hp => by unfold ZG at hz; omega)) (Or.inl (fun k j hz hp => by unfold ZS at hz; omega)) (Or.inl (fun k j hz hp => by unfold ZW at hz; omega)) (Or.inl (fun k j hz hp => by unfold ZP at hz; omega)) (Or.inl (fun k j hz hp => by unfold ZR ZK at hz; omega)) (Or.inl (fun k j hz hp => by unfold ZM at hz; omega)) (Or.inl (fun k j hz hp => by unfold ZTape at hz; omega)) (Or.inl (fun k j hz hp => by unfold ZTest at hz; omega)) (Or.inl (fun k j hz hp => by unfold ZWait at hz; omega)) (Or.inl (fun k j hz hp => by unfold ZImg at hz; omega))
        refine B_mk (P := fun k j => (k = 31 ∧ j = a1.toNat) ∨ (k = 294 ∧ j = 20 + 3 * a1.toNat + 1)) hI (Agr_upd (Agr_upd (Agr_refl _ _) (by omega)) (by omega)) (fun k j hz hp => by unfold ZC at hz; omega) (Or.inr ?_) (Or.inl (fun k j hz hp => by unfold ZPt at hz; omega)) (Or.inl (fun k j hz hp => by unfold ZTr at hz; omega))
        intro k hk
        have a := w3 k hk
        have b := c3 k hk
        by_cases e : k = a1.toNat
        · rw [e] at a b ⊢
          unfold WSp CSp
          refine ⟨⟨?_, ?_, ?_⟩, ?_, ?_, ?_⟩
          · rw [gupd_ne (by omega), gupd_ne (by omega)]; exact a.1
          · rw [gupd_eq]; exact h3
          · rw [gupd_ne (by omega), gupd_ne (by omega)]; exact a.2.2
          · rw [gupd_ne (by omega), gupd_ne (by omega), gupd_ne (by omega), gupd_ne (by omega)]; exact b.1
          · rw [gupd_eq, gupd_ne (by omega), gupd_eq]
          · rw [gupd_ne (by omega), gupd_ne (by omega), gupd_ne (by omega), gupd_ne (by omega)]; exact b.2.2
        · unfold WSp CSp
          rw [gupd_ne (k' := 294) (j' := 20 + 3 * k) (by omega), gupd_ne (k' := 294) (j' := 20 + 3 * k) (by omega), gupd_ne (k' := 294) (j' := 20 + 3 * k + 1) (by omega), gupd_ne (k' := 294) (j' := 20 + 3 * k + 1) (by omega), gupd_ne (k' := 294) (j' := 20 + 3 * k + 2) (by omega), gupd_ne (k' := 294) (j' := 20 + 3 * k + 2) (by omega), gupd_ne (k' := 30) (by omega), gupd_ne (k' := 30) (by omega), gupd_ne (k' := 31) (by omega), gupd_ne (k' := 31) (by omega), gupd_ne (k' := 32) (by omega), gupd_ne (k' := 32) (by omega)]
          exact ⟨a, b⟩
  · exact ⟨_, _, _, sp_X_span_b hn (by omega), sp_M_span_b hm (by omega), hI⟩
