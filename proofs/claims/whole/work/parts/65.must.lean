/-! knew, blind, must. -/
variable {L d : Nat} {σ σ1 : Nat → Nat → Int} {Q : Option gV → (Nat → Nat → Int) → Prop} {a0 a1 a2 a3 a4 a5 a6 a7 a8 a9 a10 a11 s0 s1 s2 s3 s4 s5 s6 s7 s8 s9 : Int} {l0 l1 l2 l3 l4 l5 l6 l7 l8 l9 l10 l11 t0 t1 t2 t3 t4 t5 t6 t7 t8 t9 : gV} {b0 b1 b2 b3 b4 b5 b6 b7 b8 b9 b10 b11 c0 c1 c2 c3 c4 c5 c6 c7 c8 c9 : Nat} {r : Option gV}
theorem r_X_knew_0 : Wp L d k_X_knew 0 [l0, vI a1, l2, l3] [] σ Q ↔ Wp L d k_X_knew 1 [l0, vI a1, l2, l3] [vI a1] σ Q := wp_iload rfl rfl
theorem r_X_knew_4 : Wp L d k_X_knew 4 [l0, l1, l2, l3] [vI s0] σ Q ↔ (if s0 = 0 then Wp L d k_X_knew 21 [l0, l1, l2, l3] [] σ Q else Wp L d k_X_knew 7 [l0, l1, l2, l3] [] σ Q) := wp_if_eq rfl
theorem r_X_knew_7 : Wp L d k_X_knew 7 [l0, l1, vI a2, l3] [] σ Q ↔ Wp L d k_X_knew 8 [l0, l1, vI a2, l3] [vI a2] σ Q := wp_iload rfl rfl
theorem r_X_knew_11 : Wp L d k_X_knew 11 [l0, l1, l2, l3] [vI s0] σ Q ↔ (if s0 = 0 then Wp L d k_X_knew 21 [l0, l1, l2, l3] [] σ Q else Wp L d k_X_knew 14 [l0, l1, l2, l3] [] σ Q) := wp_if_eq rfl
theorem r_X_knew_14 : Wp L d k_X_knew 14 [l0, l1, l2, vI a3] [] σ Q ↔ Wp L d k_X_knew 15 [l0, l1, l2, vI a3] [vI a3] σ Q := wp_iload rfl rfl
theorem r_X_knew_18 : Wp L d k_X_knew 18 [l0, l1, l2, l3] [vI s0] σ Q ↔ (if s0 ≠ 0 then Wp L d k_X_knew 24 [l0, l1, l2, l3] [] σ Q else Wp L d k_X_knew 21 [l0, l1, l2, l3] [] σ Q) := wp_if_ne rfl
theorem r_X_knew_21 : Wp L d k_X_knew 21 [l0, l1, l2, l3] [] σ Q ↔ Wp L d k_X_knew 23 [l0, l1, l2, l3] [vI (-1000000001)] σ Q := wp_push rfl
theorem r_X_knew_23 : Wp L d k_X_knew 23 [l0, l1, l2, l3] [vI s0] σ Q ↔ Q (some (vI s0)) σ := wp_iret rfl
theorem r_X_knew_24 : Wp L d k_X_knew 24 [vR b0, l1, l2, l3] [] σ Q ↔ Wp L d k_X_knew 25 [vR b0, l1, l2, l3] [vR b0] σ Q := wp_aload rfl rfl
theorem r_X_knew_25 (h : gK c0 = 0) : Wp L d k_X_knew 25 [l0, l1, l2, l3] [vR c0] σ Q ↔ Wp L d k_X_knew 28 [l0, l1, l2, l3] [vR (gq c0 0)] σ Q := wp_getR (c := 128) rfl rfl rfl rfl rfl h
theorem r_X_knew_28 (h : gK c0 = 5) : Wp L d k_X_knew 28 [l0, l1, l2, l3] [vR c0] σ Q ↔ Wp L d k_X_knew 31 [l0, l1, l2, l3] [vR (gq c0 4)] σ Q := wp_getR (c := 1412) rfl rfl rfl rfl rfl h
theorem r_X_knew_31 : Wp L d k_X_knew 31 [l0, l1, vI a2, l3] [vR c0] σ Q ↔ Wp L d k_X_knew 32 [l0, l1, vI a2, l3] [vI a2, vR c0] σ Q := wp_iload rfl rfl
theorem r_X_knew_32 : Wp L d k_X_knew 32 [l0, l1, l2, vI a3] [vI s1, vR c0] σ Q ↔ Wp L d k_X_knew 33 [l0, l1, l2, vI a3] [vI a3, vI s1, vR c0] σ Q := wp_iload rfl rfl
theorem c_X_knew_33 (hR : Run L d 187 [vR c0, vI s1, vI s2] σ r σ1) (h : gK c0 = 11) : Wp L (d + 1) k_X_knew 33 [l0, l1, l2, l3] [vI s2, vI s1, vR c0] σ Q ↔ Wp L (d + 1) k_X_knew 36 [l0, l1, l2, l3] (r.toList ++ []) σ1 Q := wp_callR (as := [vR c0, vI s1, vI s2]) (rest := []) rfl rfl rfl rfl rfl rfl rfl (grecv_k (by rw [h]) rfl) hR
theorem r_X_knew_36 : Wp L d k_X_knew 36 [l0, vI a1, l2, l3] [vI s0] σ Q ↔ Wp L d k_X_knew 37 [l0, vI a1, l2, l3] [vI a1, vI s0] σ Q := wp_iload rfl rfl
theorem r_X_knew_37 : Wp L d k_X_knew 37 [l0, l1, l2, l3] [vI s1, vI s0] σ Q ↔ Wp L d k_X_knew 38 [l0, l1, l2, l3] [vI (gshr s0 s1)] σ Q := wp_ishr rfl
theorem r_X_knew_38 : Wp L d k_X_knew 38 [l0, l1, l2, l3] [vI s0] σ Q ↔ Wp L d k_X_knew 39 [l0, l1, l2, l3] [vI 1, vI s0] σ Q := wp_push rfl
theorem r_X_knew_39 : Wp L d k_X_knew 39 [l0, l1, l2, l3] [vI s1, vI s0] σ Q ↔ Wp L d k_X_knew 40 [l0, l1, l2, l3] [vI (gand s0 s1)] σ Q := wp_iand rfl
theorem r_X_knew_40 : Wp L d k_X_knew 40 [l0, l1, l2, l3] [vI s0] σ Q ↔ Q (some (vI s0)) σ := wp_iret rfl
theorem r_X_knew_1 : Wp L (d + 2) k_X_knew 1 [l0, l1, l2, l3] [vI s0] σ Q ↔ Wp L (d + 2) k_X_knew 4 [l0, l1, l2, l3] [vI (gb (0 ≤ s0 ∧ s0 ≤ 7))] σ Q := wp_callR (d := d + 1) (as := [vI s0]) (rest := []) rfl rfl rfl rfl rfl rfl rfl rfl (sp_X_isOffice)
theorem r_X_knew_8 : Wp L (d + 2) k_X_knew 8 [l0, l1, l2, l3] [vI s0] σ Q ↔ Wp L (d + 2) k_X_knew 11 [l0, l1, l2, l3] [vI (gb (0 ≤ s0 ∧ s0 ≤ 9))] σ Q := wp_callR (d := d + 1) (as := [vI s0]) (rest := []) rfl rfl rfl rfl rfl rfl rfl rfl (sp_X_isMatter)
theorem r_X_knew_15 : Wp L (d + 2) k_X_knew 15 [l0, l1, l2, l3] [vI s0] σ Q ↔ Wp L (d + 2) k_X_knew 18 [l0, l1, l2, l3] [vI (gb (0 ≤ s0 ∧ s0 ≤ 9999))] σ Q := wp_callR (d := d + 1) (as := [vI s0]) (rest := []) rfl rfl rfl rfl rfl rfl rfl rfl (sp_X_isDay)
theorem sp_X_knew_b (h : ¬ ((0 ≤ a1 ∧ a1 ≤ 7) ∧ (0 ≤ a2 ∧ a2 ≤ 9) ∧ 0 ≤ a3 ∧ a3 ≤ 9999)) : Run L (d + 2) 66 [vR 27, vI a1, vI a2, vI a3] σ (some (vI (-1000000001))) σ := by
  refine Run_of (C' := k_X_knew) rfl ?_
  show Wp L (d + 2) k_X_knew 0 [vR 27, vI a1, vI a2, vI a3] [] σ _
  obtain ⟨K27, K28, K29, K78, K97, K99, K109, K123, K125, K279, K282⟩ := litX
  by_cases e1 : 0 ≤ a1 ∧ a1 ≤ 7
  · by_cases e2 : 0 ≤ a2 ∧ a2 ≤ 9
    · simp (disch := first | assumption | exact gb_01 _ | omega) only [r_X_knew_0, r_X_knew_1, r_X_knew_4, r_X_knew_7, r_X_knew_8, r_X_knew_11, r_X_knew_14, r_X_knew_15, r_X_knew_18, r_X_knew_21, r_X_knew_23, gq_27_0, gq_27_1, gq_27_2, gq_27_3, gq_27_4, gq_27_5, gq_27_6, gq_28_0, gq_28_1, gq_28_2, gq_28_3, gq_28_4, gq_28_5, gq_28_6, w32_gb, w32i, tn_add, tn_mul, Int.toNat_natCast, Int.toNat_zero, Int.reduceLE, Int.reduceLT, Int.reduceEq, Int.reduceNe, gb_T, gb_F, Int.reduceToNat, eq_self, true_or, or_true, and_true, true_and, and_self, ↓ite_gb0, ↓ite_gbn, ↓if_pos, ↓if_neg, if_true, if_false, not_true_eq_false, not_false_eq_true, gb_ne0, gb_eq0]
    · simp (disch := first | assumption | exact gb_01 _ | omega) only [r_X_knew_0, r_X_knew_1, r_X_knew_4, r_X_knew_7, r_X_knew_8, r_X_knew_11, r_X_knew_14, r_X_knew_15, r_X_knew_18, r_X_knew_21, r_X_knew_23, gq_27_0, gq_27_1, gq_27_2, gq_27_3, gq_27_4, gq_27_5, gq_27_6, gq_28_0, gq_28_1, gq_28_2, gq_28_3, gq_28_4, gq_28_5, gq_28_6, w32_gb, w32i, tn_add, tn_mul, Int.toNat_natCast, Int.toNat_zero, Int.reduceLE, Int.reduceLT, Int.reduceEq, Int.reduceNe, gb_T, gb_F, Int.reduceToNat, eq_self, true_or, or_true, and_true, true_and, and_self, ↓ite_gb0, ↓ite_gbn, ↓if_pos, ↓if_neg, if_true, if_false, not_true_eq_false, not_false_eq_true, gb_ne0, gb_eq0]
  · simp (disch := first | assumption | exact gb_01 _ | omega) only [r_X_knew_0, r_X_knew_1, r_X_knew_4, r_X_knew_7, r_X_knew_8, r_X_knew_11, r_X_knew_14, r_X_knew_15, r_X_knew_18, r_X_knew_21, r_X_knew_23, gq_27_0, gq_27_1, gq_27_2, gq_27_3, gq_27_4, gq_27_5, gq_27_6, gq_28_0, gq_28_1, gq_28_2, gq_28_3, gq_28_4, gq_28_5, gq_28_6, w32_gb, w32i, tn_add, tn_mul, Int.toNat_natCast, Int.toNat_zero, Int.reduceLE, Int.reduceLT, Int.reduceEq, Int.reduceNe, gb_T, gb_F, Int.reduceToNat, eq_self, true_or, or_true, and_true, true_and, and_self, ↓ite_gb0, ↓ite_gbn, ↓if_pos, ↓if_neg, if_true, if_false, not_true_eq_false, not_false_eq_true, gb_ne0, gb_eq0]
theorem r_M_knew_0 : Wp L d k_M_knew 0 [l0, vI a1, l2, l3] [] σ Q ↔ Wp L d k_M_knew 1 [l0, vI a1, l2, l3] [vI a1] σ Q := wp_iload rfl rfl
theorem r_M_knew_4 : Wp L d k_M_knew 4 [l0, l1, l2, l3] [vI s0] σ Q ↔ (if s0 = 0 then Wp L d k_M_knew 34 [l0, l1, l2, l3] [] σ Q else Wp L d k_M_knew 7 [l0, l1, l2, l3] [] σ Q) := wp_if_eq rfl
theorem r_M_knew_7 : Wp L d k_M_knew 7 [l0, l1, vI a2, l3] [] σ Q ↔ Wp L d k_M_knew 8 [l0, l1, vI a2, l3] [vI a2] σ Q := wp_iload rfl rfl
theorem r_M_knew_11 : Wp L d k_M_knew 11 [l0, l1, l2, l3] [vI s0] σ Q ↔ (if s0 = 0 then Wp L d k_M_knew 34 [l0, l1, l2, l3] [] σ Q else Wp L d k_M_knew 14 [l0, l1, l2, l3] [] σ Q) := wp_if_eq rfl
theorem r_M_knew_14 : Wp L d k_M_knew 14 [l0, l1, l2, vI a3] [] σ Q ↔ Wp L d k_M_knew 15 [l0, l1, l2, vI a3] [vI a3] σ Q := wp_iload rfl rfl
theorem r_M_knew_18 : Wp L d k_M_knew 18 [l0, l1, l2, l3] [vI s0] σ Q ↔ (if s0 = 0 then Wp L d k_M_knew 34 [l0, l1, l2, l3] [] σ Q else Wp L d k_M_knew 21 [l0, l1, l2, l3] [] σ Q) := wp_if_eq rfl
theorem r_M_knew_21 : Wp L d k_M_knew 21 [vR b0, l1, l2, l3] [] σ Q ↔ Wp L d k_M_knew 22 [vR b0, l1, l2, l3] [vR b0] σ Q := wp_aload rfl rfl
theorem r_M_knew_22 : Wp L d k_M_knew 22 [l0, l1, vI a2, l3] [vR c0] σ Q ↔ Wp L d k_M_knew 23 [l0, l1, vI a2, l3] [vI a2, vR c0] σ Q := wp_iload rfl rfl
theorem r_M_knew_23 : Wp L d k_M_knew 23 [l0, l1, l2, vI a3] [vI s1, vR c0] σ Q ↔ Wp L d k_M_knew 24 [l0, l1, l2, vI a3] [vI a3, vI s1, vR c0] σ Q := wp_iload rfl rfl
theorem c_M_knew_24 (hR : Run L d 292 [vR c0, vI s1, vI s2] σ r σ1) (h : gK c0 = 12) : Wp L (d + 1) k_M_knew 24 [l0, l1, l2, l3] [vI s2, vI s1, vR c0] σ Q ↔ Wp L (d + 1) k_M_knew 27 [l0, l1, l2, l3] (r.toList ++ []) σ1 Q := wp_callR (as := [vR c0, vI s1, vI s2]) (rest := []) rfl rfl rfl rfl rfl rfl rfl (grecv_k (by rw [h]) rfl) hR
theorem r_M_knew_27 : Wp L d k_M_knew 27 [l0, vI a1, l2, l3] [vI s0] σ Q ↔ Wp L d k_M_knew 28 [l0, vI a1, l2, l3] [vI a1, vI s0] σ Q := wp_iload rfl rfl
theorem r_M_knew_28 : Wp L d k_M_knew 28 [l0, l1, l2, l3] [vI s1, vI s0] σ Q ↔ Wp L d k_M_knew 29 [l0, l1, l2, l3] [vI (gshr s0 s1)] σ Q := wp_ishr rfl
theorem r_M_knew_29 : Wp L d k_M_knew 29 [l0, l1, l2, l3] [vI s0] σ Q ↔ Wp L d k_M_knew 30 [l0, l1, l2, l3] [vI 1, vI s0] σ Q := wp_push rfl
theorem r_M_knew_30 : Wp L d k_M_knew 30 [l0, l1, l2, l3] [vI s1, vI s0] σ Q ↔ Wp L d k_M_knew 31 [l0, l1, l2, l3] [vI (gand s0 s1)] σ Q := wp_iand rfl
theorem r_M_knew_31 : Wp L d k_M_knew 31 [l0, l1, l2, l3] [vI s0] σ Q ↔ Wp L d k_M_knew 36 [l0, l1, l2, l3] [vI s0] σ Q := wp_goto rfl
theorem r_M_knew_34 : Wp L d k_M_knew 34 [l0, l1, l2, l3] [] σ Q ↔ Wp L d k_M_knew 36 [l0, l1, l2, l3] [vI (-1000000001)] σ Q := wp_push rfl
theorem r_M_knew_36 : Wp L d k_M_knew 36 [l0, l1, l2, l3] [vI s0] σ Q ↔ Q (some (vI s0)) σ := wp_iret rfl
theorem r_M_knew_1 : Wp L (d + 2) k_M_knew 1 [l0, l1, l2, l3] [vI s0] σ Q ↔ Wp L (d + 2) k_M_knew 4 [l0, l1, l2, l3] [vI (gb (0 ≤ s0 ∧ s0 ≤ 7))] σ Q := wp_callR (d := d + 1) (as := [vI s0]) (rest := []) rfl rfl rfl rfl rfl rfl rfl rfl (sp_M_isOffice)
theorem r_M_knew_8 : Wp L (d + 2) k_M_knew 8 [l0, l1, l2, l3] [vI s0] σ Q ↔ Wp L (d + 2) k_M_knew 11 [l0, l1, l2, l3] [vI (gb (0 ≤ s0 ∧ s0 ≤ 9))] σ Q := wp_callR (d := d + 1) (as := [vI s0]) (rest := []) rfl rfl rfl rfl rfl rfl rfl rfl (sp_M_isMatter)
theorem r_M_knew_15 : Wp L (d + 2) k_M_knew 15 [l0, l1, l2, l3] [vI s0] σ Q ↔ Wp L (d + 2) k_M_knew 18 [l0, l1, l2, l3] [vI (gb (0 ≤ s0 ∧ s0 ≤ 9999))] σ Q := wp_callR (d := d + 1) (as := [vI s0]) (rest := []) rfl rfl rfl rfl rfl rfl rfl rfl (sp_M_isDay)
theorem sp_M_knew_b (h : ¬ ((0 ≤ a1 ∧ a1 ≤ 7) ∧ (0 ≤ a2 ∧ a2 ≤ 9) ∧ 0 ≤ a3 ∧ a3 ≤ 9999)) : Run L (d + 2) 291 [vR 293, vI a1, vI a2, vI a3] σ (some (vI (-1000000001))) σ := by
  refine Run_of (C' := k_M_knew) rfl ?_
  show Wp L (d + 2) k_M_knew 0 [vR 293, vI a1, vI a2, vI a3] [] σ _
  obtain ⟨K293, Q293, K294, N294⟩ := litM
  by_cases e1 : 0 ≤ a1 ∧ a1 ≤ 7
  · by_cases e2 : 0 ≤ a2 ∧ a2 ≤ 9
    · simp (disch := first | assumption | exact gb_01 _ | omega) only [r_M_knew_0, r_M_knew_1, r_M_knew_4, r_M_knew_7, r_M_knew_8, r_M_knew_11, r_M_knew_14, r_M_knew_15, r_M_knew_18, r_M_knew_21, r_M_knew_22, r_M_knew_23, r_M_knew_27, r_M_knew_28, r_M_knew_29, r_M_knew_30, r_M_knew_31, r_M_knew_34, r_M_knew_36, Q293, w32_gb, w32i, tn_add, tn_mul, Int.toNat_natCast, Int.toNat_zero, Int.reduceLE, Int.reduceLT, Int.reduceEq, Int.reduceNe, gb_T, gb_F, Int.reduceToNat, eq_self, true_or, or_true, and_true, true_and, and_self, ↓ite_gb0, ↓ite_gbn, ↓if_pos, ↓if_neg, if_true, if_false, not_true_eq_false, not_false_eq_true, gb_ne0, gb_eq0]
    · simp (disch := first | assumption | exact gb_01 _ | omega) only [r_M_knew_0, r_M_knew_1, r_M_knew_4, r_M_knew_7, r_M_knew_8, r_M_knew_11, r_M_knew_14, r_M_knew_15, r_M_knew_18, r_M_knew_21, r_M_knew_22, r_M_knew_23, r_M_knew_27, r_M_knew_28, r_M_knew_29, r_M_knew_30, r_M_knew_31, r_M_knew_34, r_M_knew_36, Q293, w32_gb, w32i, tn_add, tn_mul, Int.toNat_natCast, Int.toNat_zero, Int.reduceLE, Int.reduceLT, Int.reduceEq, Int.reduceNe, gb_T, gb_F, Int.reduceToNat, eq_self, true_or, or_true, and_true, true_and, and_self, ↓ite_gb0, ↓ite_gbn, ↓if_pos, ↓if_neg, if_true, if_false, not_true_eq_false, not_false_eq_true, gb_ne0, gb_eq0]
  · simp (disch := first | assumption | exact gb_01 _ | omega) only [r_M_knew_0, r_M_knew_1, r_M_knew_4, r_M_knew_7, r_M_knew_8, r_M_knew_11, r_M_knew_14, r_M_knew_15, r_M_knew_18, r_M_knew_21, r_M_knew_22, r_M_knew_23, r_M_knew_27, r_M_knew_28, r_M_knew_29, r_M_knew_30, r_M_knew_31, r_M_knew_34, r_M_knew_36, Q293, w32_gb, w32i, tn_add, tn_mul, Int.toNat_natCast, Int.toNat_zero, Int.reduceLE, Int.reduceLT, Int.reduceEq, Int.reduceNe, gb_T, gb_F, Int.reduceToNat, eq_self, true_or, or_true, and_true, true_and, and_self, ↓ite_gb0, ↓ite_gbn, ↓if_pos, ↓if_neg, if_true, if_false, not_true_eq_false, not_false_eq_true, gb_ne0, gb_eq0]
theorem sp_X_knew {f : Nat → Int} {o : Nat → Nat} (hw : WW f) (hc : CW 109 f σ) (ho : gord (fun i => f (600 + 4 * i)) (f 3).toNat o) (h : (0 ≤ a1 ∧ a1 ≤ 7) ∧ (0 ≤ a2 ∧ a2 ≤ 9) ∧ 0 ≤ a3 ∧ a3 ≤ 9999) : Run L (d + 2) 66 [vR 27, vI a1, vI a2, vI a3] σ (some (vI (gbt (wkf f a2 a3 (wkn f o a2 a3 (f 3).toNat).1 8) a1))) σ := by
  refine Run_of (C' := k_X_knew) rfl ?_
  show Wp L (d + 2) k_X_knew 0 [vR 27, vI a1, vI a2, vI a3] [] σ _
  obtain ⟨K27, K28, K29, K78, K97, K99, K109, K123, K125, K279, K282⟩ := litX
  have hR := sp_D_knowing (L := L) (d := d + 0) (σ := σ) (a1 := a2) (a2 := a3) hw hc ho h.2.1 h.2.2
  simp (disch := first | assumption | exact gb_01 _ | omega) only [r_X_knew_0, r_X_knew_1, r_X_knew_4, r_X_knew_7, r_X_knew_8, r_X_knew_11, r_X_knew_14, r_X_knew_15, r_X_knew_18, r_X_knew_21, r_X_knew_23, r_X_knew_24, r_X_knew_25, r_X_knew_28, r_X_knew_31, r_X_knew_32, r_X_knew_36, r_X_knew_37, r_X_knew_38, r_X_knew_39, r_X_knew_40, c_X_knew_33 hR, Option.toList, List.singleton_append, List.cons_append, List.nil_append, List.append_nil, gq_27_0, gq_27_1, gq_27_2, gq_27_3, gq_27_4, gq_27_5, gq_27_6, gq_28_0, gq_28_1, gq_28_2, gq_28_3, gq_28_4, gq_28_5, gq_28_6, w32_gb, w32i, tn_add, tn_mul, Int.toNat_natCast, Int.toNat_zero, Int.reduceLE, Int.reduceLT, Int.reduceEq, Int.reduceNe, gb_T, gb_F, Int.reduceToNat, eq_self, true_or, or_true, and_true, true_and, and_self, ↓ite_gb0, ↓ite_gbn, ↓if_pos, ↓if_neg, if_true, if_false, not_true_eq_false, not_false_eq_true, gb_ne0, gb_eq0]
  rfl
theorem sp_M_knew (hw : WW (σ 294)) (h : (0 ≤ a1 ∧ a1 ≤ 7) ∧ (0 ≤ a2 ∧ a2 ≤ 9) ∧ 0 ≤ a3 ∧ a3 ≤ 9999) : ∃ o : Nat → Nat, gord (fun i => σ 294 (600 + 4 * i)) (σ 294 3).toNat o ∧ ∃ σ', Run L (d + 2) 291 [vR 293, vI a1, vI a2, vI a3] σ (some (vI (gbt (wkf (σ 294) a2 a3 (wkn (σ 294) o a2 a3 (σ 294 3).toNat).1 8) a1))) σ' ∧ Agr σ σ' (fun k j => k = 304 ∨ (k = 293 ∧ j = 23)) := by
  obtain ⟨o, ho, τ, hR, hb, hA⟩ := sp_M_whoKnew (L := L) (d := d + 0) (σ := σ) (a1 := a2) (a2 := a3) hw h.2.1 h.2.2
  refine ⟨o, ho, ?_⟩
  refine Run_ex (C' := k_M_knew) rfl ?_
  show Wp L (d + 2) k_M_knew 0 [vR 293, vI a1, vI a2, vI a3] [] σ _
  obtain ⟨K293, Q293, K294, N294⟩ := litM
  simp (disch := first | assumption | exact gb_01 _ | omega) only [r_M_knew_0, r_M_knew_1, r_M_knew_4, r_M_knew_7, r_M_knew_8, r_M_knew_11, r_M_knew_14, r_M_knew_15, r_M_knew_18, r_M_knew_21, r_M_knew_22, r_M_knew_23, r_M_knew_27, r_M_knew_28, r_M_knew_29, r_M_knew_30, r_M_knew_31, r_M_knew_34, r_M_knew_36, c_M_knew_24 hR, Option.toList, List.singleton_append, List.cons_append, List.nil_append, List.append_nil, Q293, w32_gb, w32i, tn_add, tn_mul, Int.toNat_natCast, Int.toNat_zero, Int.reduceLE, Int.reduceLT, Int.reduceEq, Int.reduceNe, gb_T, gb_F, Int.reduceToNat, eq_self, true_or, or_true, and_true, true_and, and_self, ↓ite_gb0, ↓ite_gbn, ↓if_pos, ↓if_neg, if_true, if_false, not_true_eq_false, not_false_eq_true, gb_ne0, gb_eq0]
  exact ⟨rfl, hA⟩
theorem op_knew (a1 a2 a3 : Int) : Op 66 291 [vI a1, vI a2, vI a3] := by
  intro L d σ hI
  obtain ⟨hw, hc⟩ := iW hI
  by_cases h : (0 ≤ a1 ∧ a1 ≤ 7) ∧ (0 ≤ a2 ∧ a2 ≤ 9) ∧ 0 ≤ a3 ∧ a3 ≤ 9999
  · obtain ⟨o, ho, σ2, hR2, hA2⟩ := sp_M_knew (L := L) (d := d + 998) (σ := σ) (a1 := a1) (a2 := a2) (a3 := a3) hw h
    exact ⟨_, _, _, sp_X_knew hw hc ho h, hR2, Inv_free hI (Agr_mono hA2 (fun k j hk => by unfold ZFr; omega))⟩
  · exact ⟨_, _, _, sp_X_knew_b h, sp_M_knew_b h, hI⟩
theorem r_X_blind_0 : Wp L d k_X_blind 0 [l0, vI a1] [] σ Q ↔ Wp L d k_X_blind 1 [l0, vI a1] [vI a1] σ Q := wp_iload rfl rfl
theorem r_X_blind_4 : Wp L d k_X_blind 4 [l0, l1] [vI s0] σ Q ↔ (if s0 = 0 then Wp L d k_X_blind 21 [l0, l1] [] σ Q else Wp L d k_X_blind 7 [l0, l1] [] σ Q) := wp_if_eq rfl
theorem r_X_blind_7 : Wp L d k_X_blind 7 [vR b0, l1] [] σ Q ↔ Wp L d k_X_blind 8 [vR b0, l1] [vR b0] σ Q := wp_aload rfl rfl
theorem r_X_blind_8 (h : gK c0 = 0) : Wp L d k_X_blind 8 [l0, l1] [vR c0] σ Q ↔ Wp L d k_X_blind 11 [l0, l1] [vR (gq c0 0)] σ Q := wp_getR (c := 128) rfl rfl rfl rfl rfl h
theorem r_X_blind_11 (h : gK c0 = 5) : Wp L d k_X_blind 11 [l0, l1] [vR c0] σ Q ↔ Wp L d k_X_blind 14 [l0, l1] [vR (gq c0 4)] σ Q := wp_getR (c := 1412) rfl rfl rfl rfl rfl h
theorem r_X_blind_14 : Wp L d k_X_blind 14 [l0, vI a1] [vR c0] σ Q ↔ Wp L d k_X_blind 15 [l0, vI a1] [vI a1, vR c0] σ Q := wp_iload rfl rfl
theorem c_X_blind_15 (hR : Run L d 189 [vR c0, vI s1] σ r σ1) (h : gK c0 = 11) : Wp L (d + 1) k_X_blind 15 [l0, l1] [vI s1, vR c0] σ Q ↔ Wp L (d + 1) k_X_blind 18 [l0, l1] (r.toList ++ []) σ1 Q := wp_callR (as := [vR c0, vI s1]) (rest := []) rfl rfl rfl rfl rfl rfl rfl (grecv_k (by rw [h]) rfl) hR
theorem r_X_blind_18 : Wp L d k_X_blind 18 [l0, l1] [vI s0] σ Q ↔ Wp L d k_X_blind 23 [l0, l1] [vI s0] σ Q := wp_goto rfl
theorem r_X_blind_21 : Wp L d k_X_blind 21 [l0, l1] [] σ Q ↔ Wp L d k_X_blind 23 [l0, l1] [vI (-1000000001)] σ Q := wp_push rfl
theorem r_X_blind_23 : Wp L d k_X_blind 23 [l0, l1] [vI s0] σ Q ↔ Q (some (vI s0)) σ := wp_iret rfl
theorem r_X_blind_1 : Wp L (d + 2) k_X_blind 1 [l0, l1] [vI s0] σ Q ↔ Wp L (d + 2) k_X_blind 4 [l0, l1] [vI (gb (0 ≤ s0 ∧ s0 ≤ 9))] σ Q := wp_callR (d := d + 1) (as := [vI s0]) (rest := []) rfl rfl rfl rfl rfl rfl rfl rfl (sp_X_isMatter)
theorem sp_X_blind_b (h : ¬ (0 ≤ a1 ∧ a1 ≤ 9)) : Run L (d + 2) 67 [vR 27, vI a1] σ (some (vI (-1000000001))) σ := by
  refine Run_of (C' := k_X_blind) rfl ?_
  show Wp L (d + 2) k_X_blind 0 [vR 27, vI a1] [] σ _
  obtain ⟨K27, K28, K29, K78, K97, K99, K109, K123, K125, K279, K282⟩ := litX
  simp (disch := first | assumption | exact gb_01 _ | omega) only [r_X_blind_0, r_X_blind_1, r_X_blind_4, r_X_blind_7, r_X_blind_8, r_X_blind_11, r_X_blind_14, r_X_blind_18, r_X_blind_21, r_X_blind_23, gq_27_0, gq_27_1, gq_27_2, gq_27_3, gq_27_4, gq_27_5, gq_27_6, gq_28_0, gq_28_1, gq_28_2, gq_28_3, gq_28_4, gq_28_5, gq_28_6, w32_gb, w32i, tn_add, tn_mul, Int.toNat_natCast, Int.toNat_zero, Int.reduceLE, Int.reduceLT, Int.reduceEq, Int.reduceNe, gb_T, gb_F, Int.reduceToNat, eq_self, true_or, or_true, and_true, true_and, and_self, ↓ite_gb0, ↓ite_gbn, ↓if_pos, ↓if_neg, if_true, if_false, not_true_eq_false, not_false_eq_true, gb_ne0, gb_eq0]
theorem r_M_blind_0 : Wp L d k_M_blind 0 [l0, vI a1, l2] [] σ Q ↔ Wp L d k_M_blind 1 [l0, vI a1, l2] [vI a1] σ Q := wp_iload rfl rfl
theorem r_M_blind_4 : Wp L d k_M_blind 4 [l0, l1, l2] [vI s0] σ Q ↔ (if s0 ≠ 0 then Wp L d k_M_blind 10 [l0, l1, l2] [] σ Q else Wp L d k_M_blind 7 [l0, l1, l2] [] σ Q) := wp_if_ne rfl
theorem r_M_blind_7 : Wp L d k_M_blind 7 [l0, l1, l2] [] σ Q ↔ Wp L d k_M_blind 9 [l0, l1, l2] [vI (-1000000001)] σ Q := wp_push rfl
theorem r_M_blind_9 : Wp L d k_M_blind 9 [l0, l1, l2] [vI s0] σ Q ↔ Q (some (vI s0)) σ := wp_iret rfl
theorem r_M_blind_10 : Wp L d k_M_blind 10 [vR b0, l1, l2] [] σ Q ↔ Wp L d k_M_blind 11 [vR b0, l1, l2] [vR b0] σ Q := wp_aload rfl rfl
theorem r_M_blind_11 : Wp L d k_M_blind 11 [l0, vI a1, l2] [vR c0] σ Q ↔ Wp L d k_M_blind 12 [l0, vI a1, l2] [vI a1, vR c0] σ Q := wp_iload rfl rfl
theorem r_M_blind_12 : Wp L d k_M_blind 12 [l0, l1, l2] [vI s1, vR c0] σ Q ↔ Wp L d k_M_blind 15 [l0, l1, l2] [vI 9999, vI s1, vR c0] σ Q := wp_push rfl
theorem c_M_blind_15 (hR : Run L d 292 [vR c0, vI s1, vI s2] σ r σ1) (h : gK c0 = 12) : Wp L (d + 1) k_M_blind 15 [l0, l1, l2] [vI s2, vI s1, vR c0] σ Q ↔ Wp L (d + 1) k_M_blind 18 [l0, l1, l2] (r.toList ++ []) σ1 Q := wp_callR (as := [vR c0, vI s1, vI s2]) (rest := []) rfl rfl rfl rfl rfl rfl rfl (grecv_k (by rw [h]) rfl) hR
theorem r_M_blind_18 : Wp L d k_M_blind 18 [l0, vI a1, l2] [vI s0] σ Q ↔ Wp L d k_M_blind 19 [l0, vI a1, vI s0] [] σ Q := wp_istore (i := 2) (ls := [l0, vI a1, l2]) rfl rfl
theorem r_M_blind_19 : Wp L d k_M_blind 19 [vR b0, l1, l2] [] σ Q ↔ Wp L d k_M_blind 20 [vR b0, l1, l2] [vR b0] σ Q := wp_aload rfl rfl
theorem r_M_blind_20 (h : gK c0 = 12) : Wp L d k_M_blind 20 [l0, l1, l2] [vR c0] σ Q ↔ Wp L d k_M_blind 23 [l0, l1, l2] [vI (σ c0 23)] σ Q := wp_getI (c := 3095) rfl rfl rfl rfl h
theorem r_M_blind_23 : Wp L d k_M_blind 23 [l0, l1, l2] [vI s0] σ Q ↔ Q (some (vI s0)) σ := wp_iret rfl
theorem r_M_blind_1 : Wp L (d + 2) k_M_blind 1 [l0, l1, l2] [vI s0] σ Q ↔ Wp L (d + 2) k_M_blind 4 [l0, l1, l2] [vI (gb (0 ≤ s0 ∧ s0 ≤ 9))] σ Q := wp_callR (d := d + 1) (as := [vI s0]) (rest := []) rfl rfl rfl rfl rfl rfl rfl rfl (sp_M_isMatter)
theorem sp_M_blind_b (h : ¬ (0 ≤ a1 ∧ a1 ≤ 9)) : Run L (d + 2) 295 [vR 293, vI a1] σ (some (vI (-1000000001))) σ := by
  refine Run_of (C' := k_M_blind) rfl ?_
  show Wp L (d + 2) k_M_blind 0 [vR 293, vI a1, vU] [] σ _
  obtain ⟨K293, Q293, K294, N294⟩ := litM
  simp (disch := first | assumption | exact gb_01 _ | omega) only [r_M_blind_0, r_M_blind_1, r_M_blind_4, r_M_blind_7, r_M_blind_9, r_M_blind_10, r_M_blind_11, r_M_blind_12, r_M_blind_18, r_M_blind_19, r_M_blind_20, r_M_blind_23, Q293, w32_gb, w32i, tn_add, tn_mul, Int.toNat_natCast, Int.toNat_zero, Int.reduceLE, Int.reduceLT, Int.reduceEq, Int.reduceNe, gb_T, gb_F, Int.reduceToNat, eq_self, true_or, or_true, and_true, true_and, and_self, ↓ite_gb0, ↓ite_gbn, ↓if_pos, ↓if_neg, if_true, if_false, not_true_eq_false, not_false_eq_true, gb_ne0, gb_eq0]
theorem sp_X_blind {f : Nat → Int} {o : Nat → Nat} (hw : WW f) (hc : CW 109 f σ) (ho : gord (fun i => f (600 + 4 * i)) (f 3).toNat o) (h : 0 ≤ a1 ∧ a1 ≤ 9) : Run L (d + 2) 67 [vR 27, vI a1] σ (some (vI (wkn f o a1 9999 (f 3).toNat).2)) σ := by
  refine Run_of (C' := k_X_blind) rfl ?_
  show Wp L (d + 2) k_X_blind 0 [vR 27, vI a1] [] σ _
  obtain ⟨K27, K28, K29, K78, K97, K99, K109, K123, K125, K279, K282⟩ := litX
  have hR := sp_D_blindOf (L := L) (d := d + 0) (σ := σ) (a1 := a1) hw hc ho h
  simp (disch := first | assumption | exact gb_01 _ | omega) only [r_X_blind_0, r_X_blind_1, r_X_blind_4, r_X_blind_7, r_X_blind_8, r_X_blind_11, r_X_blind_14, r_X_blind_18, r_X_blind_21, r_X_blind_23, c_X_blind_15 hR, Option.toList, List.singleton_append, List.cons_append, List.nil_append, List.append_nil, gq_27_0, gq_27_1, gq_27_2, gq_27_3, gq_27_4, gq_27_5, gq_27_6, gq_28_0, gq_28_1, gq_28_2, gq_28_3, gq_28_4, gq_28_5, gq_28_6, w32_gb, w32i, tn_add, tn_mul, Int.toNat_natCast, Int.toNat_zero, Int.reduceLE, Int.reduceLT, Int.reduceEq, Int.reduceNe, gb_T, gb_F, Int.reduceToNat, eq_self, true_or, or_true, and_true, true_and, and_self, ↓ite_gb0, ↓ite_gbn, ↓if_pos, ↓if_neg, if_true, if_false, not_true_eq_false, not_false_eq_true, gb_ne0, gb_eq0]
theorem sp_M_blind (hw : WW (σ 294)) (h : 0 ≤ a1 ∧ a1 ≤ 9) : ∃ o : Nat → Nat, gord (fun i => σ 294 (600 + 4 * i)) (σ 294 3).toNat o ∧ ∃ σ', Run L (d + 2) 295 [vR 293, vI a1] σ (some (vI (wkn (σ 294) o a1 9999 (σ 294 3).toNat).2)) σ' ∧ Agr σ σ' (fun k j => k = 304 ∨ (k = 293 ∧ j = 23)) := by
  obtain ⟨o, ho, τ, hR, hb, hA⟩ := sp_M_whoKnew (L := L) (d := d + 0) (σ := σ) (a1 := a1) (a2 := 9999) hw h (by omega)
  refine ⟨o, ho, ?_⟩
  refine Run_ex (C' := k_M_blind) rfl ?_
  show Wp L (d + 2) k_M_blind 0 [vR 293, vI a1, vU] [] σ _
  obtain ⟨K293, Q293, K294, N294⟩ := litM
  simp (disch := first | assumption | exact gb_01 _ | omega) only [r_M_blind_0, r_M_blind_1, r_M_blind_4, r_M_blind_7, r_M_blind_9, r_M_blind_10, r_M_blind_11, r_M_blind_12, r_M_blind_18, r_M_blind_19, r_M_blind_20, r_M_blind_23, c_M_blind_15 hR, Option.toList, List.singleton_append, List.cons_append, List.nil_append, List.append_nil, Q293, hb, w32_gb, w32i, tn_add, tn_mul, Int.toNat_natCast, Int.toNat_zero, Int.reduceLE, Int.reduceLT, Int.reduceEq, Int.reduceNe, gb_T, gb_F, Int.reduceToNat, eq_self, true_or, or_true, and_true, true_and, and_self, ↓ite_gb0, ↓ite_gbn, ↓if_pos, ↓if_neg, if_true, if_false, not_true_eq_false, not_false_eq_true, gb_ne0, gb_eq0]
  exact hA
theorem op_blind (a1 : Int) : Op 67 295 [vI a1] := by
  intro L d σ hI
  obtain ⟨hw, hc⟩ := iW hI
  by_cases h : 0 ≤ a1 ∧ a1 ≤ 9
  · obtain ⟨o, ho, σ2, hR2, hA2⟩ := sp_M_blind (L := L) (d := d + 998) (σ := σ) (a1 := a1) hw h
    exact ⟨_, _, _, sp_X_blind hw hc ho h, hR2, Inv_free hI (Agr_mono hA2 (fun k j hk => by unfold ZFr; omega))⟩
  · exact ⟨_, _, _, sp_X_blind_b h, sp_M_blind_b h, hI⟩
def bmu (f : Nat → Int) (x m : Int) : Nat → Int
  | 0 => 0
  | k + 1 => if gbt x (k : Int) = 1 ∧ ¬ brrl f 3 (k : Int) m 0 = 0 then gor (bmu f x m k) (gshl 1 (k : Int)) else bmu f x m k
theorem gor_r (a b : Int) : gr32 (gor a b) := by
  unfold gor
  rw [← o32_of (Int32.ofInt a ||| Int32.ofInt b), o32_toInt]
  exact w32_r _
theorem bmu_r (f : Nat → Int) (x m : Int) : ∀ k, gr32 (bmu f x m k)
  | 0 => r32_0
  | k + 1 => by
    unfold bmu
    split
    · exact gor_r _ _
    · exact bmu_r f x m k
theorem r_S_boundToTell_0 : Wp L d k_S_boundToTell 0 [vR b0, l1, l2, l3, l4, l5] [] σ Q ↔ Wp L d k_S_boundToTell 1 [vR b0, l1, l2, l3, l4, l5] [vR b0] σ Q := wp_aload rfl rfl
theorem r_S_boundToTell_1 (h : gK c0 = 5) : Wp L d k_S_boundToTell 1 [l0, l1, l2, l3, l4, l5] [vR c0] σ Q ↔ Wp L d k_S_boundToTell 4 [l0, l1, l2, l3, l4, l5] [vR (gq c0 4)] σ Q := wp_getR (c := 1412) rfl rfl rfl rfl rfl h
theorem r_S_boundToTell_4 : Wp L d k_S_boundToTell 4 [l0, vI a1, l2, l3, l4, l5] [vR c0] σ Q ↔ Wp L d k_S_boundToTell 5 [l0, vI a1, l2, l3, l4, l5] [vI a1, vR c0] σ Q := wp_iload rfl rfl
theorem r_S_boundToTell_5 : Wp L d k_S_boundToTell 5 [l0, l1, vI a2, l3, l4, l5] [vI s1, vR c0] σ Q ↔ Wp L d k_S_boundToTell 6 [l0, l1, vI a2, l3, l4, l5] [vI a2, vI s1, vR c0] σ Q := wp_iload rfl rfl
theorem c_S_boundToTell_6 (hR : Run L d 187 [vR c0, vI s1, vI s2] σ r σ1) (h : gK c0 = 11) : Wp L (d + 1) k_S_boundToTell 6 [l0, l1, l2, l3, l4, l5] [vI s2, vI s1, vR c0] σ Q ↔ Wp L (d + 1) k_S_boundToTell 9 [l0, l1, l2, l3, l4, l5] (r.toList ++ []) σ1 Q := wp_callR (as := [vR c0, vI s1, vI s2]) (rest := []) rfl rfl rfl rfl rfl rfl rfl (grecv_k (by rw [h]) rfl) hR
theorem r_S_boundToTell_9 : Wp L d k_S_boundToTell 9 [l0, l1, vI a2, l3, l4, l5] [vI s0] σ Q ↔ Wp L d k_S_boundToTell 10 [l0, l1, vI a2, vI s0, l4, l5] [] σ Q := wp_istore (i := 3) (ls := [l0, l1, vI a2, l3, l4, l5]) rfl rfl
theorem r_S_boundToTell_10 : Wp L d k_S_boundToTell 10 [l0, l1, l2, l3, l4, l5] [] σ Q ↔ Wp L d k_S_boundToTell 11 [l0, l1, l2, l3, l4, l5] [vI 0] σ Q := wp_push rfl
theorem r_S_boundToTell_11 : Wp L d k_S_boundToTell 11 [l0, l1, l2, vI a3, l4, l5] [vI s0] σ Q ↔ Wp L d k_S_boundToTell 13 [l0, l1, l2, vI a3, vI s0, l5] [] σ Q := wp_istore (i := 4) (ls := [l0, l1, l2, vI a3, l4, l5]) rfl rfl
theorem r_S_boundToTell_13 : Wp L d k_S_boundToTell 13 [l0, l1, l2, l3, l4, l5] [] σ Q ↔ Wp L d k_S_boundToTell 14 [l0, l1, l2, l3, l4, l5] [vI 0] σ Q := wp_push rfl
theorem r_S_boundToTell_14 : Wp L d k_S_boundToTell 14 [l0, l1, l2, l3, vI a4, l5] [vI s0] σ Q ↔ Wp L d k_S_boundToTell 16 [l0, l1, l2, l3, vI a4, vI s0] [] σ Q := wp_istore (i := 5) (ls := [l0, l1, l2, l3, vI a4, l5]) rfl rfl
theorem r_S_boundToTell_16 : Wp L d k_S_boundToTell 16 [l0, l1, l2, l3, l4, vI a5] [] σ Q ↔ Wp L d k_S_boundToTell 18 [l0, l1, l2, l3, l4, vI a5] [vI a5] σ Q := wp_iload rfl rfl
theorem r_S_boundToTell_18 : Wp L d k_S_boundToTell 18 [l0, l1, l2, l3, l4, l5] [vI s0] σ Q ↔ Wp L d k_S_boundToTell 20 [l0, l1, l2, l3, l4, l5] [vI 8, vI s0] σ Q := wp_push rfl
theorem r_S_boundToTell_20 : Wp L d k_S_boundToTell 20 [l0, l1, l2, l3, l4, l5] [vI s1, vI s0] σ Q ↔ (if s1 ≤ s0 then Wp L d k_S_boundToTell 60 [l0, l1, l2, l3, l4, l5] [] σ Q else Wp L d k_S_boundToTell 23 [l0, l1, l2, l3, l4, l5] [] σ Q) := wp_cmp_ge rfl
theorem r_S_boundToTell_23 : Wp L d k_S_boundToTell 23 [l0, l1, l2, vI a3, l4, l5] [] σ Q ↔ Wp L d k_S_boundToTell 24 [l0, l1, l2, vI a3, l4, l5] [vI a3] σ Q := wp_iload rfl rfl
theorem r_S_boundToTell_24 : Wp L d k_S_boundToTell 24 [l0, l1, l2, l3, l4, vI a5] [vI s0] σ Q ↔ Wp L d k_S_boundToTell 26 [l0, l1, l2, l3, l4, vI a5] [vI a5, vI s0] σ Q := wp_iload rfl rfl
theorem r_S_boundToTell_26 : Wp L d k_S_boundToTell 26 [l0, l1, l2, l3, l4, l5] [vI s1, vI s0] σ Q ↔ Wp L d k_S_boundToTell 27 [l0, l1, l2, l3, l4, l5] [vI (gshr s0 s1)] σ Q := wp_ishr rfl
theorem r_S_boundToTell_27 : Wp L d k_S_boundToTell 27 [l0, l1, l2, l3, l4, l5] [vI s0] σ Q ↔ Wp L d k_S_boundToTell 28 [l0, l1, l2, l3, l4, l5] [vI 1, vI s0] σ Q := wp_push rfl
theorem r_S_boundToTell_28 : Wp L d k_S_boundToTell 28 [l0, l1, l2, l3, l4, l5] [vI s1, vI s0] σ Q ↔ Wp L d k_S_boundToTell 29 [l0, l1, l2, l3, l4, l5] [vI (gand s0 s1)] σ Q := wp_iand rfl
theorem r_S_boundToTell_29 : Wp L d k_S_boundToTell 29 [l0, l1, l2, l3, l4, l5] [vI s0] σ Q ↔ Wp L d k_S_boundToTell 30 [l0, l1, l2, l3, l4, l5] [vI 1, vI s0] σ Q := wp_push rfl
theorem r_S_boundToTell_30 : Wp L d k_S_boundToTell 30 [l0, l1, l2, l3, l4, l5] [vI s1, vI s0] σ Q ↔ (if s0 ≠ s1 then Wp L d k_S_boundToTell 54 [l0, l1, l2, l3, l4, l5] [] σ Q else Wp L d k_S_boundToTell 33 [l0, l1, l2, l3, l4, l5] [] σ Q) := wp_cmp_ne rfl
theorem r_S_boundToTell_33 : Wp L d k_S_boundToTell 33 [vR b0, l1, l2, l3, l4, l5] [] σ Q ↔ Wp L d k_S_boundToTell 34 [vR b0, l1, l2, l3, l4, l5] [vR b0] σ Q := wp_aload rfl rfl
theorem r_S_boundToTell_34 : Wp L d k_S_boundToTell 34 [l0, l1, l2, l3, l4, l5] [vR c0] σ Q ↔ Wp L d k_S_boundToTell 35 [l0, l1, l2, l3, l4, l5] [vI 3, vR c0] σ Q := wp_push rfl
theorem r_S_boundToTell_35 : Wp L d k_S_boundToTell 35 [l0, l1, l2, l3, l4, vI a5] [vI s1, vR c0] σ Q ↔ Wp L d k_S_boundToTell 37 [l0, l1, l2, l3, l4, vI a5] [vI a5, vI s1, vR c0] σ Q := wp_iload rfl rfl
theorem r_S_boundToTell_37 : Wp L d k_S_boundToTell 37 [l0, vI a1, l2, l3, l4, l5] [vI s2, vI s1, vR c0] σ Q ↔ Wp L d k_S_boundToTell 38 [l0, vI a1, l2, l3, l4, l5] [vI a1, vI s2, vI s1, vR c0] σ Q := wp_iload rfl rfl
theorem r_S_boundToTell_38 : Wp L d k_S_boundToTell 38 [l0, l1, l2, l3, l4, l5] [vI s3, vI s2, vI s1, vR c0] σ Q ↔ Wp L d k_S_boundToTell 39 [l0, l1, l2, l3, l4, l5] [vI 0, vI s3, vI s2, vI s1, vR c0] σ Q := wp_push rfl
theorem c_S_boundToTell_39 (hR : Run L d 135 [vR c0, vI s1, vI s2, vI s3, vI s4] σ r σ1) (h : gK c0 = 5) : Wp L (d + 1) k_S_boundToTell 39 [l0, l1, l2, l3, l4, l5] [vI s4, vI s3, vI s2, vI s1, vR c0] σ Q ↔ Wp L (d + 1) k_S_boundToTell 42 [l0, l1, l2, l3, l4, l5] (r.toList ++ []) σ1 Q := wp_callR (as := [vR c0, vI s1, vI s2, vI s3, vI s4]) (rest := []) rfl rfl rfl rfl rfl rfl rfl (grecv_k (by rw [h]) rfl) hR
theorem r_S_boundToTell_42 : Wp L d k_S_boundToTell 42 [l0, l1, l2, l3, l4, l5] [vI s0] σ Q ↔ (if s0 = 0 then Wp L d k_S_boundToTell 54 [l0, l1, l2, l3, l4, l5] [] σ Q else Wp L d k_S_boundToTell 45 [l0, l1, l2, l3, l4, l5] [] σ Q) := wp_if_eq rfl
theorem r_S_boundToTell_45 : Wp L d k_S_boundToTell 45 [l0, l1, l2, l3, vI a4, l5] [] σ Q ↔ Wp L d k_S_boundToTell 47 [l0, l1, l2, l3, vI a4, l5] [vI a4] σ Q := wp_iload rfl rfl
theorem r_S_boundToTell_47 : Wp L d k_S_boundToTell 47 [l0, l1, l2, l3, l4, l5] [vI s0] σ Q ↔ Wp L d k_S_boundToTell 48 [l0, l1, l2, l3, l4, l5] [vI 1, vI s0] σ Q := wp_push rfl
theorem r_S_boundToTell_48 : Wp L d k_S_boundToTell 48 [l0, l1, l2, l3, l4, vI a5] [vI s1, vI s0] σ Q ↔ Wp L d k_S_boundToTell 50 [l0, l1, l2, l3, l4, vI a5] [vI a5, vI s1, vI s0] σ Q := wp_iload rfl rfl
theorem r_S_boundToTell_50 : Wp L d k_S_boundToTell 50 [l0, l1, l2, l3, l4, l5] [vI s2, vI s1, vI s0] σ Q ↔ Wp L d k_S_boundToTell 51 [l0, l1, l2, l3, l4, l5] [vI (gshl s1 s2), vI s0] σ Q := wp_ishl rfl
theorem r_S_boundToTell_51 : Wp L d k_S_boundToTell 51 [l0, l1, l2, l3, l4, l5] [vI s1, vI s0] σ Q ↔ Wp L d k_S_boundToTell 52 [l0, l1, l2, l3, l4, l5] [vI (gor s0 s1)] σ Q := wp_ior rfl
theorem r_S_boundToTell_52 : Wp L d k_S_boundToTell 52 [l0, l1, l2, vI a3, l4, l5] [vI s0] σ Q ↔ Wp L d k_S_boundToTell 54 [l0, l1, l2, vI a3, vI s0, l5] [] σ Q := wp_istore (i := 4) (ls := [l0, l1, l2, vI a3, l4, l5]) rfl rfl
theorem r_S_boundToTell_54 : Wp L d k_S_boundToTell 54 [l0, l1, l2, l3, vI a4, vI a5] [] σ Q ↔ Wp L d k_S_boundToTell 57 [l0, l1, l2, l3, vI a4, vI (w32 (a5 + 1))] [] σ Q := wp_iinc (i := 5) (ls := [l0, l1, l2, l3, vI a4, vI a5]) rfl rfl
theorem r_S_boundToTell_57 : Wp L d k_S_boundToTell 57 [l0, l1, l2, l3, l4, l5] [] σ Q ↔ Wp L d k_S_boundToTell 16 [l0, l1, l2, l3, l4, l5] [] σ Q := wp_goto rfl
theorem r_S_boundToTell_60 : Wp L d k_S_boundToTell 60 [l0, l1, l2, l3, vI a4, l5] [] σ Q ↔ Wp L d k_S_boundToTell 62 [l0, l1, l2, l3, vI a4, l5] [vI a4] σ Q := wp_iload rfl rfl
theorem r_S_boundToTell_62 : Wp L d k_S_boundToTell 62 [l0, l1, l2, l3, l4, l5] [vI s0] σ Q ↔ Q (some (vI s0)) σ := wp_iret rfl
theorem sp_S_boundToTell {f : Nat → Int} {o : Nat → Nat} (hw : WW f) (hc : CW 109 f σ) (ho : gord (fun i => f (600 + 4 * i)) (f 3).toNat o) (ht : WT f) (hct : CT 78 f σ) (hm : σ 28 7 = f 7) (h : 0 ≤ a1 ∧ a1 ≤ 9) (h2 : 0 ≤ a2 ∧ a2 ≤ 9999) : ∃ σ', Run L (d + 4) 139 [vR 28, vI a1, vI a2] σ (some (vI (bmu f (wkf f a1 a2 (wkn f o a1 a2 (f 3).toNat).1 8) a1 8))) σ' ∧ Agr σ σ' (fun k _ => k = 96) := by
  refine Run_ex (C' := k_S_boundToTell) rfl ?_
  show Wp L (d + 4) k_S_boundToTell 0 [vR 28, vI a1, vI a2, vU, vU, vU] [] σ _
  obtain ⟨K27, K28, K29, K78, K97, K99, K109, K123, K125, K279, K282⟩ := litX
  have hK := sp_D_knowing (L := L) (d := d + 2) (σ := σ) (a1 := a1) (a2 := a2) hw hc ho h h2
  generalize wkf f a1 a2 (wkn f o a1 a2 (f 3).toNat).1 8 = x at hK ⊢
  simp (disch := first | assumption | exact gb_01 _ | omega) only [r_S_boundToTell_0, r_S_boundToTell_1, r_S_boundToTell_4, r_S_boundToTell_5, r_S_boundToTell_9, r_S_boundToTell_10, r_S_boundToTell_11, r_S_boundToTell_13, r_S_boundToTell_14, r_S_boundToTell_18, r_S_boundToTell_20, r_S_boundToTell_23, r_S_boundToTell_24, r_S_boundToTell_26, r_S_boundToTell_27, r_S_boundToTell_28, r_S_boundToTell_29, r_S_boundToTell_30, r_S_boundToTell_33, r_S_boundToTell_34, r_S_boundToTell_35, r_S_boundToTell_37, r_S_boundToTell_38, r_S_boundToTell_42, r_S_boundToTell_45, r_S_boundToTell_47, r_S_boundToTell_48, r_S_boundToTell_50, r_S_boundToTell_51, r_S_boundToTell_52, r_S_boundToTell_54, r_S_boundToTell_57, r_S_boundToTell_60, r_S_boundToTell_62, c_S_boundToTell_6 hK, Option.toList, List.singleton_append, List.cons_append, List.nil_append, List.append_nil, gq_27_0, gq_27_1, gq_27_2, gq_27_3, gq_27_4, gq_27_5, gq_27_6, gq_28_0, gq_28_1, gq_28_2, gq_28_3, gq_28_4, gq_28_5, gq_28_6, w32_gb, w32i, tn_add, tn_mul, Int.toNat_natCast, Int.toNat_zero, Int.reduceLE, Int.reduceLT, Int.reduceEq, Int.reduceNe, gb_T, gb_F, Int.reduceToNat, eq_self, true_or, or_true, and_true, true_and, and_self, ↓ite_gb0, ↓ite_gbn, ↓if_pos, ↓if_neg, if_true, if_false, not_true_eq_false, not_false_eq_true, gb_ne0, gb_eq0]
  refine wloop (n := 8) (I := fun k ls τ => ls = [vR 28, vI a1, vI a2, vI x, vI (bmu f x a1 k), vI (k : Int)] ∧ Agr σ τ (fun k _ => k = 96)) (fun k ls τ hk hi hq => ?_) (fun ls τ hi => ?_) 8 0 (by omega) _ _ ⟨rfl, Agr_refl _ _⟩
  · obtain ⟨rfl, hA⟩ := hi
    obtain ⟨τ1, hR, hA1⟩ := sp_S_ruleOf (L := L) (d := d + 0) (σ := τ) (a1 := 3) (a2 := (k : Int)) (a3 := a1) (a4 := 0) ht (CT_agr (fun k j hk => hA k j (by omega)) (fun _ _ => rfl) ht hct) (by rw [hA 28 7 (by omega)]; exact hm)
    have b2 : gand (gshr x (k : Int)) 1 = gbt x (k : Nat) := rfl
    rw [r_S_boundToTell_16]
    by_cases c1 : gbt x (k : Int) = 1
    · by_cases c2 : brrl f 3 (k : Int) a1 0 = 0
      · simp (disch := first | assumption | exact gb_01 _ | omega) only [r_S_boundToTell_0, r_S_boundToTell_1, r_S_boundToTell_4, r_S_boundToTell_5, r_S_boundToTell_9, r_S_boundToTell_10, r_S_boundToTell_11, r_S_boundToTell_13, r_S_boundToTell_14, r_S_boundToTell_18, r_S_boundToTell_20, r_S_boundToTell_23, r_S_boundToTell_24, r_S_boundToTell_26, r_S_boundToTell_27, r_S_boundToTell_28, r_S_boundToTell_29, r_S_boundToTell_30, r_S_boundToTell_33, r_S_boundToTell_34, r_S_boundToTell_35, r_S_boundToTell_37, r_S_boundToTell_38, r_S_boundToTell_42, r_S_boundToTell_45, r_S_boundToTell_47, r_S_boundToTell_48, r_S_boundToTell_50, r_S_boundToTell_51, r_S_boundToTell_52, r_S_boundToTell_54, r_S_boundToTell_57, r_S_boundToTell_60, r_S_boundToTell_62, c_S_boundToTell_39 hR, Option.toList, List.singleton_append, List.cons_append, List.nil_append, List.append_nil, gq_27_0, gq_27_1, gq_27_2, gq_27_3, gq_27_4, gq_27_5, gq_27_6, gq_28_0, gq_28_1, gq_28_2, gq_28_3, gq_28_4, gq_28_5, gq_28_6, b2, w32_gb, w32i, tn_add, tn_mul, Int.toNat_natCast, Int.toNat_zero, Int.reduceLE, Int.reduceLT, Int.reduceEq, Int.reduceNe, gb_T, gb_F, Int.reduceToNat, eq_self, true_or, or_true, and_true, true_and, and_self, ↓ite_gb0, ↓ite_gbn, ↓if_pos, ↓if_neg, if_true, if_false, not_true_eq_false, not_false_eq_true, gb_ne0, gb_eq0]
        exact hq _ _ ⟨by rw [show bmu f x a1 (k + 1) = bmu f x a1 k from if_neg (fun z => z.2 c2)]; simp only [List.cons.injEq, vI_inj, vR_inj, and_true, true_and]; omega, Agr_trans hA hA1⟩
      · simp (disch := first | assumption | exact gb_01 _ | omega) only [r_S_boundToTell_0, r_S_boundToTell_1, r_S_boundToTell_4, r_S_boundToTell_5, r_S_boundToTell_9, r_S_boundToTell_10, r_S_boundToTell_11, r_S_boundToTell_13, r_S_boundToTell_14, r_S_boundToTell_18, r_S_boundToTell_20, r_S_boundToTell_23, r_S_boundToTell_24, r_S_boundToTell_26, r_S_boundToTell_27, r_S_boundToTell_28, r_S_boundToTell_29, r_S_boundToTell_30, r_S_boundToTell_33, r_S_boundToTell_34, r_S_boundToTell_35, r_S_boundToTell_37, r_S_boundToTell_38, r_S_boundToTell_42, r_S_boundToTell_45, r_S_boundToTell_47, r_S_boundToTell_48, r_S_boundToTell_50, r_S_boundToTell_51, r_S_boundToTell_52, r_S_boundToTell_54, r_S_boundToTell_57, r_S_boundToTell_60, r_S_boundToTell_62, c_S_boundToTell_39 hR, Option.toList, List.singleton_append, List.cons_append, List.nil_append, List.append_nil, gq_27_0, gq_27_1, gq_27_2, gq_27_3, gq_27_4, gq_27_5, gq_27_6, gq_28_0, gq_28_1, gq_28_2, gq_28_3, gq_28_4, gq_28_5, gq_28_6, b2, w32_gb, w32i, tn_add, tn_mul, Int.toNat_natCast, Int.toNat_zero, Int.reduceLE, Int.reduceLT, Int.reduceEq, Int.reduceNe, gb_T, gb_F, Int.reduceToNat, eq_self, true_or, or_true, and_true, true_and, and_self, ↓ite_gb0, ↓ite_gbn, ↓if_pos, ↓if_neg, if_true, if_false, not_true_eq_false, not_false_eq_true, gb_ne0, gb_eq0]
        exact hq _ _ ⟨by rw [show bmu f x a1 (k + 1) = gor (bmu f x a1 k) (gshl 1 (k : Int)) from if_pos ⟨c1, c2⟩]; simp only [List.cons.injEq, vI_inj, vR_inj, and_true, true_and]; omega, Agr_trans hA hA1⟩
    · simp (disch := first | assumption | exact gb_01 _ | omega) only [r_S_boundToTell_0, r_S_boundToTell_1, r_S_boundToTell_4, r_S_boundToTell_5, r_S_boundToTell_9, r_S_boundToTell_10, r_S_boundToTell_11, r_S_boundToTell_13, r_S_boundToTell_14, r_S_boundToTell_18, r_S_boundToTell_20, r_S_boundToTell_23, r_S_boundToTell_24, r_S_boundToTell_26, r_S_boundToTell_27, r_S_boundToTell_28, r_S_boundToTell_29, r_S_boundToTell_30, r_S_boundToTell_33, r_S_boundToTell_34, r_S_boundToTell_35, r_S_boundToTell_37, r_S_boundToTell_38, r_S_boundToTell_42, r_S_boundToTell_45, r_S_boundToTell_47, r_S_boundToTell_48, r_S_boundToTell_50, r_S_boundToTell_51, r_S_boundToTell_52, r_S_boundToTell_54, r_S_boundToTell_57, r_S_boundToTell_60, r_S_boundToTell_62, c_S_boundToTell_39 hR, Option.toList, List.singleton_append, List.cons_append, List.nil_append, List.append_nil, gq_27_0, gq_27_1, gq_27_2, gq_27_3, gq_27_4, gq_27_5, gq_27_6, gq_28_0, gq_28_1, gq_28_2, gq_28_3, gq_28_4, gq_28_5, gq_28_6, b2, w32_gb, w32i, tn_add, tn_mul, Int.toNat_natCast, Int.toNat_zero, Int.reduceLE, Int.reduceLT, Int.reduceEq, Int.reduceNe, gb_T, gb_F, Int.reduceToNat, eq_self, true_or, or_true, and_true, true_and, and_self, ↓ite_gb0, ↓ite_gbn, ↓if_pos, ↓if_neg, if_true, if_false, not_true_eq_false, not_false_eq_true, gb_ne0, gb_eq0]
      exact hq _ _ ⟨by rw [show bmu f x a1 (k + 1) = bmu f x a1 k from if_neg (fun z => c1 z.1)]; simp only [List.cons.injEq, vI_inj, vR_inj, and_true, true_and]; omega, hA⟩
  · obtain ⟨rfl, hA⟩ := hi
    rw [r_S_boundToTell_16]
    simp (disch := first | assumption | exact gb_01 _ | omega) only [r_S_boundToTell_0, r_S_boundToTell_1, r_S_boundToTell_4, r_S_boundToTell_5, r_S_boundToTell_9, r_S_boundToTell_10, r_S_boundToTell_11, r_S_boundToTell_13, r_S_boundToTell_14, r_S_boundToTell_18, r_S_boundToTell_20, r_S_boundToTell_23, r_S_boundToTell_24, r_S_boundToTell_26, r_S_boundToTell_27, r_S_boundToTell_28, r_S_boundToTell_29, r_S_boundToTell_30, r_S_boundToTell_33, r_S_boundToTell_34, r_S_boundToTell_35, r_S_boundToTell_37, r_S_boundToTell_38, r_S_boundToTell_42, r_S_boundToTell_45, r_S_boundToTell_47, r_S_boundToTell_48, r_S_boundToTell_50, r_S_boundToTell_51, r_S_boundToTell_52, r_S_boundToTell_54, r_S_boundToTell_57, r_S_boundToTell_60, r_S_boundToTell_62, gq_27_0, gq_27_1, gq_27_2, gq_27_3, gq_27_4, gq_27_5, gq_27_6, gq_28_0, gq_28_1, gq_28_2, gq_28_3, gq_28_4, gq_28_5, gq_28_6, w32_gb, w32i, tn_add, tn_mul, Int.toNat_natCast, Int.toNat_zero, Int.reduceLE, Int.reduceLT, Int.reduceEq, Int.reduceNe, gb_T, gb_F, Int.reduceToNat, eq_self, true_or, or_true, and_true, true_and, and_self, ↓ite_gb0, ↓ite_gbn, ↓if_pos, ↓if_neg, if_true, if_false, not_true_eq_false, not_false_eq_true, gb_ne0, gb_eq0]
    exact hA
theorem r_X_must_0 : Wp L d k_X_must 0 [l0, vI a1, l2] [] σ Q ↔ Wp L d k_X_must 1 [l0, vI a1, l2] [vI a1] σ Q := wp_iload rfl rfl
theorem r_X_must_4 : Wp L d k_X_must 4 [l0, l1, l2] [vI s0] σ Q ↔ (if s0 = 0 then Wp L d k_X_must 26 [l0, l1, l2] [] σ Q else Wp L d k_X_must 7 [l0, l1, l2] [] σ Q) := wp_if_eq rfl
theorem r_X_must_7 : Wp L d k_X_must 7 [l0, l1, vI a2] [] σ Q ↔ Wp L d k_X_must 8 [l0, l1, vI a2] [vI a2] σ Q := wp_iload rfl rfl
theorem r_X_must_11 : Wp L d k_X_must 11 [l0, l1, l2] [vI s0] σ Q ↔ (if s0 = 0 then Wp L d k_X_must 26 [l0, l1, l2] [] σ Q else Wp L d k_X_must 14 [l0, l1, l2] [] σ Q) := wp_if_eq rfl
theorem r_X_must_14 : Wp L d k_X_must 14 [vR b0, l1, l2] [] σ Q ↔ Wp L d k_X_must 15 [vR b0, l1, l2] [vR b0] σ Q := wp_aload rfl rfl
theorem r_X_must_15 (h : gK c0 = 0) : Wp L d k_X_must 15 [l0, l1, l2] [vR c0] σ Q ↔ Wp L d k_X_must 18 [l0, l1, l2] [vR (gq c0 0)] σ Q := wp_getR (c := 128) rfl rfl rfl rfl rfl h
theorem r_X_must_18 : Wp L d k_X_must 18 [l0, vI a1, l2] [vR c0] σ Q ↔ Wp L d k_X_must 19 [l0, vI a1, l2] [vI a1, vR c0] σ Q := wp_iload rfl rfl
theorem r_X_must_19 : Wp L d k_X_must 19 [l0, l1, vI a2] [vI s1, vR c0] σ Q ↔ Wp L d k_X_must 20 [l0, l1, vI a2] [vI a2, vI s1, vR c0] σ Q := wp_iload rfl rfl
theorem c_X_must_20 (hR : Run L d 139 [vR c0, vI s1, vI s2] σ r σ1) (h : gK c0 = 5) : Wp L (d + 1) k_X_must 20 [l0, l1, l2] [vI s2, vI s1, vR c0] σ Q ↔ Wp L (d + 1) k_X_must 23 [l0, l1, l2] (r.toList ++ []) σ1 Q := wp_callR (as := [vR c0, vI s1, vI s2]) (rest := []) rfl rfl rfl rfl rfl rfl rfl (grecv_k (by rw [h]) rfl) hR
theorem r_X_must_23 : Wp L d k_X_must 23 [l0, l1, l2] [vI s0] σ Q ↔ Wp L d k_X_must 28 [l0, l1, l2] [vI s0] σ Q := wp_goto rfl
theorem r_X_must_26 : Wp L d k_X_must 26 [l0, l1, l2] [] σ Q ↔ Wp L d k_X_must 28 [l0, l1, l2] [vI (-1000000001)] σ Q := wp_push rfl
theorem r_X_must_28 : Wp L d k_X_must 28 [l0, l1, l2] [vI s0] σ Q ↔ Q (some (vI s0)) σ := wp_iret rfl
theorem r_X_must_1 : Wp L (d + 5) k_X_must 1 [l0, l1, l2] [vI s0] σ Q ↔ Wp L (d + 5) k_X_must 4 [l0, l1, l2] [vI (gb (0 ≤ s0 ∧ s0 ≤ 9))] σ Q := wp_callR (d := d + 4) (as := [vI s0]) (rest := []) rfl rfl rfl rfl rfl rfl rfl rfl (sp_X_isMatter)
theorem r_X_must_8 : Wp L (d + 5) k_X_must 8 [l0, l1, l2] [vI s0] σ Q ↔ Wp L (d + 5) k_X_must 11 [l0, l1, l2] [vI (gb (0 ≤ s0 ∧ s0 ≤ 9999))] σ Q := wp_callR (d := d + 4) (as := [vI s0]) (rest := []) rfl rfl rfl rfl rfl rfl rfl rfl (sp_X_isDay)
theorem sp_X_must_b (h : ¬ ((0 ≤ a1 ∧ a1 ≤ 9) ∧ 0 ≤ a2 ∧ a2 ≤ 9999)) : Run L (d + 5) 68 [vR 27, vI a1, vI a2] σ (some (vI (-1000000001))) σ := by
  refine Run_of (C' := k_X_must) rfl ?_
  show Wp L (d + 5) k_X_must 0 [vR 27, vI a1, vI a2] [] σ _
  obtain ⟨K27, K28, K29, K78, K97, K99, K109, K123, K125, K279, K282⟩ := litX
  by_cases e1 : 0 ≤ a1 ∧ a1 ≤ 9
  · simp (disch := first | assumption | exact gb_01 _ | omega) only [r_X_must_0, r_X_must_1, r_X_must_4, r_X_must_7, r_X_must_8, r_X_must_11, r_X_must_14, r_X_must_15, r_X_must_18, r_X_must_19, r_X_must_23, r_X_must_26, r_X_must_28, gq_27_0, gq_27_1, gq_27_2, gq_27_3, gq_27_4, gq_27_5, gq_27_6, gq_28_0, gq_28_1, gq_28_2, gq_28_3, gq_28_4, gq_28_5, gq_28_6, w32_gb, w32i, tn_add, tn_mul, Int.toNat_natCast, Int.toNat_zero, Int.reduceLE, Int.reduceLT, Int.reduceEq, Int.reduceNe, gb_T, gb_F, Int.reduceToNat, eq_self, true_or, or_true, and_true, true_and, and_self, ↓ite_gb0, ↓ite_gbn, ↓if_pos, ↓if_neg, if_true, if_false, not_true_eq_false, not_false_eq_true, gb_ne0, gb_eq0]
  · simp (disch := first | assumption | exact gb_01 _ | omega) only [r_X_must_0, r_X_must_1, r_X_must_4, r_X_must_7, r_X_must_8, r_X_must_11, r_X_must_14, r_X_must_15, r_X_must_18, r_X_must_19, r_X_must_23, r_X_must_26, r_X_must_28, gq_27_0, gq_27_1, gq_27_2, gq_27_3, gq_27_4, gq_27_5, gq_27_6, gq_28_0, gq_28_1, gq_28_2, gq_28_3, gq_28_4, gq_28_5, gq_28_6, w32_gb, w32i, tn_add, tn_mul, Int.toNat_natCast, Int.toNat_zero, Int.reduceLE, Int.reduceLT, Int.reduceEq, Int.reduceNe, gb_T, gb_F, Int.reduceToNat, eq_self, true_or, or_true, and_true, true_and, and_self, ↓ite_gb0, ↓ite_gbn, ↓if_pos, ↓if_neg, if_true, if_false, not_true_eq_false, not_false_eq_true, gb_ne0, gb_eq0]
theorem r_M_must_0 : Wp L d k_M_must 0 [l0, vI a1, l2, l3, l4, l5] [] σ Q ↔ Wp L d k_M_must 1 [l0, vI a1, l2, l3, l4, l5] [vI a1] σ Q := wp_iload rfl rfl
theorem r_M_must_4 : Wp L d k_M_must 4 [l0, l1, l2, l3, l4, l5] [vI s0] σ Q ↔ (if s0 = 0 then Wp L d k_M_must 14 [l0, l1, l2, l3, l4, l5] [] σ Q else Wp L d k_M_must 7 [l0, l1, l2, l3, l4, l5] [] σ Q) := wp_if_eq rfl
theorem r_M_must_7 : Wp L d k_M_must 7 [l0, l1, vI a2, l3, l4, l5] [] σ Q ↔ Wp L d k_M_must 8 [l0, l1, vI a2, l3, l4, l5] [vI a2] σ Q := wp_iload rfl rfl
theorem r_M_must_11 : Wp L d k_M_must 11 [l0, l1, l2, l3, l4, l5] [vI s0] σ Q ↔ (if s0 ≠ 0 then Wp L d k_M_must 17 [l0, l1, l2, l3, l4, l5] [] σ Q else Wp L d k_M_must 14 [l0, l1, l2, l3, l4, l5] [] σ Q) := wp_if_ne rfl
theorem r_M_must_14 : Wp L d k_M_must 14 [l0, l1, l2, l3, l4, l5] [] σ Q ↔ Wp L d k_M_must 16 [l0, l1, l2, l3, l4, l5] [vI (-1000000001)] σ Q := wp_push rfl
theorem r_M_must_16 : Wp L d k_M_must 16 [l0, l1, l2, l3, l4, l5] [vI s0] σ Q ↔ Q (some (vI s0)) σ := wp_iret rfl
theorem r_M_must_17 : Wp L d k_M_must 17 [vR b0, l1, l2, l3, l4, l5] [] σ Q ↔ Wp L d k_M_must 18 [vR b0, l1, l2, l3, l4, l5] [vR b0] σ Q := wp_aload rfl rfl
theorem r_M_must_18 : Wp L d k_M_must 18 [l0, vI a1, l2, l3, l4, l5] [vR c0] σ Q ↔ Wp L d k_M_must 19 [l0, vI a1, l2, l3, l4, l5] [vI a1, vR c0] σ Q := wp_iload rfl rfl
theorem r_M_must_19 : Wp L d k_M_must 19 [l0, l1, vI a2, l3, l4, l5] [vI s1, vR c0] σ Q ↔ Wp L d k_M_must 20 [l0, l1, vI a2, l3, l4, l5] [vI a2, vI s1, vR c0] σ Q := wp_iload rfl rfl
theorem c_M_must_20 (hR : Run L d 292 [vR c0, vI s1, vI s2] σ r σ1) (h : gK c0 = 12) : Wp L (d + 1) k_M_must 20 [l0, l1, l2, l3, l4, l5] [vI s2, vI s1, vR c0] σ Q ↔ Wp L (d + 1) k_M_must 23 [l0, l1, l2, l3, l4, l5] (r.toList ++ []) σ1 Q := wp_callR (as := [vR c0, vI s1, vI s2]) (rest := []) rfl rfl rfl rfl rfl rfl rfl (grecv_k (by rw [h]) rfl) hR
theorem r_M_must_23 : Wp L d k_M_must 23 [l0, l1, vI a2, l3, l4, l5] [vI s0] σ Q ↔ Wp L d k_M_must 24 [l0, l1, vI a2, vI s0, l4, l5] [] σ Q := wp_istore (i := 3) (ls := [l0, l1, vI a2, l3, l4, l5]) rfl rfl
theorem r_M_must_24 : Wp L d k_M_must 24 [l0, l1, l2, l3, l4, l5] [] σ Q ↔ Wp L d k_M_must 25 [l0, l1, l2, l3, l4, l5] [vI 0] σ Q := wp_push rfl
theorem r_M_must_25 : Wp L d k_M_must 25 [l0, l1, l2, vI a3, l4, l5] [vI s0] σ Q ↔ Wp L d k_M_must 27 [l0, l1, l2, vI a3, vI s0, l5] [] σ Q := wp_istore (i := 4) (ls := [l0, l1, l2, vI a3, l4, l5]) rfl rfl
theorem r_M_must_27 : Wp L d k_M_must 27 [l0, l1, l2, l3, l4, l5] [] σ Q ↔ Wp L d k_M_must 28 [l0, l1, l2, l3, l4, l5] [vI 0] σ Q := wp_push rfl
theorem r_M_must_28 : Wp L d k_M_must 28 [l0, l1, l2, l3, vI a4, l5] [vI s0] σ Q ↔ Wp L d k_M_must 30 [l0, l1, l2, l3, vI a4, vI s0] [] σ Q := wp_istore (i := 5) (ls := [l0, l1, l2, l3, vI a4, l5]) rfl rfl
theorem r_M_must_30 : Wp L d k_M_must 30 [l0, l1, l2, l3, l4, vI a5] [] σ Q ↔ Wp L d k_M_must 32 [l0, l1, l2, l3, l4, vI a5] [vI a5] σ Q := wp_iload rfl rfl
theorem r_M_must_32 : Wp L d k_M_must 32 [l0, l1, l2, l3, l4, l5] [vI s0] σ Q ↔ Wp L d k_M_must 34 [l0, l1, l2, l3, l4, l5] [vI 8, vI s0] σ Q := wp_push rfl
theorem r_M_must_34 : Wp L d k_M_must 34 [l0, l1, l2, l3, l4, l5] [vI s1, vI s0] σ Q ↔ (if s1 ≤ s0 then Wp L d k_M_must 78 [l0, l1, l2, l3, l4, l5] [] σ Q else Wp L d k_M_must 37 [l0, l1, l2, l3, l4, l5] [] σ Q) := wp_cmp_ge rfl
theorem r_M_must_37 : Wp L d k_M_must 37 [l0, l1, l2, l3, vI a4, l5] [] σ Q ↔ Wp L d k_M_must 39 [l0, l1, l2, l3, vI a4, l5] [vI a4] σ Q := wp_iload rfl rfl
theorem r_M_must_39 : Wp L d k_M_must 39 [l0, l1, l2, vI a3, l4, l5] [vI s0] σ Q ↔ Wp L d k_M_must 40 [l0, l1, l2, vI a3, l4, l5] [vI a3, vI s0] σ Q := wp_iload rfl rfl
theorem r_M_must_40 : Wp L d k_M_must 40 [l0, l1, l2, l3, l4, vI a5] [vI s1, vI s0] σ Q ↔ Wp L d k_M_must 42 [l0, l1, l2, l3, l4, vI a5] [vI a5, vI s1, vI s0] σ Q := wp_iload rfl rfl
theorem r_M_must_42 : Wp L d k_M_must 42 [l0, l1, l2, l3, l4, l5] [vI s2, vI s1, vI s0] σ Q ↔ Wp L d k_M_must 43 [l0, l1, l2, l3, l4, l5] [vI (gshr s1 s2), vI s0] σ Q := wp_ishr rfl
theorem r_M_must_43 : Wp L d k_M_must 43 [l0, l1, l2, l3, l4, l5] [vI s1, vI s0] σ Q ↔ Wp L d k_M_must 44 [l0, l1, l2, l3, l4, l5] [vI 1, vI s1, vI s0] σ Q := wp_push rfl
theorem r_M_must_44 : Wp L d k_M_must 44 [l0, l1, l2, l3, l4, l5] [vI s2, vI s1, vI s0] σ Q ↔ Wp L d k_M_must 45 [l0, l1, l2, l3, l4, l5] [vI (gand s1 s2), vI s0] σ Q := wp_iand rfl
theorem r_M_must_45 : Wp L d k_M_must 45 [l0, l1, l2, l3, l4, l5] [vI s1, vI s0] σ Q ↔ Wp L d k_M_must 46 [l0, l1, l2, l3, l4, l5] [vI 1, vI s1, vI s0] σ Q := wp_push rfl
theorem r_M_must_46 : Wp L d k_M_must 46 [l0, l1, l2, l3, l4, l5] [vI s2, vI s1, vI s0] σ Q ↔ (if s1 ≠ s2 then Wp L d k_M_must 68 [l0, l1, l2, l3, l4, l5] [vI s0] σ Q else Wp L d k_M_must 49 [l0, l1, l2, l3, l4, l5] [vI s0] σ Q) := wp_cmp_ne rfl
theorem r_M_must_49 : Wp L d k_M_must 49 [vR b0, l1, l2, l3, l4, l5] [vI s0] σ Q ↔ Wp L d k_M_must 50 [vR b0, l1, l2, l3, l4, l5] [vR b0, vI s0] σ Q := wp_aload rfl rfl
theorem r_M_must_50 : Wp L d k_M_must 50 [l0, l1, l2, l3, l4, l5] [vR c1, vI s0] σ Q ↔ Wp L d k_M_must 51 [l0, l1, l2, l3, l4, l5] [vI 3, vR c1, vI s0] σ Q := wp_push rfl
theorem r_M_must_51 : Wp L d k_M_must 51 [l0, l1, l2, l3, l4, vI a5] [vI s2, vR c1, vI s0] σ Q ↔ Wp L d k_M_must 53 [l0, l1, l2, l3, l4, vI a5] [vI a5, vI s2, vR c1, vI s0] σ Q := wp_iload rfl rfl
theorem r_M_must_53 : Wp L d k_M_must 53 [l0, vI a1, l2, l3, l4, l5] [vI s3, vI s2, vR c1, vI s0] σ Q ↔ Wp L d k_M_must 54 [l0, vI a1, l2, l3, l4, l5] [vI a1, vI s3, vI s2, vR c1, vI s0] σ Q := wp_iload rfl rfl
theorem r_M_must_54 : Wp L d k_M_must 54 [l0, l1, l2, l3, l4, l5] [vI s4, vI s3, vI s2, vR c1, vI s0] σ Q ↔ Wp L d k_M_must 55 [l0, l1, l2, l3, l4, l5] [vI 0, vI s4, vI s3, vI s2, vR c1, vI s0] σ Q := wp_push rfl
theorem c_M_must_55 (hR : Run L d 261 [vR c1, vI s2, vI s3, vI s4, vI s5] σ r σ1) (h : gK c1 = 12) : Wp L (d + 1) k_M_must 55 [l0, l1, l2, l3, l4, l5] [vI s5, vI s4, vI s3, vI s2, vR c1, vI s0] σ Q ↔ Wp L (d + 1) k_M_must 58 [l0, l1, l2, l3, l4, l5] (r.toList ++ [vI s0]) σ1 Q := wp_callR (as := [vR c1, vI s2, vI s3, vI s4, vI s5]) (rest := [vI s0]) rfl rfl rfl rfl rfl rfl rfl (grecv_k (by rw [h]) rfl) hR
theorem r_M_must_58 : Wp L d k_M_must 58 [l0, l1, l2, l3, l4, l5] [vI s1, vI s0] σ Q ↔ (if s1 = 0 then Wp L d k_M_must 68 [l0, l1, l2, l3, l4, l5] [vI s0] σ Q else Wp L d k_M_must 61 [l0, l1, l2, l3, l4, l5] [vI s0] σ Q) := wp_if_eq rfl
theorem r_M_must_61 : Wp L d k_M_must 61 [l0, l1, l2, l3, l4, l5] [vI s0] σ Q ↔ Wp L d k_M_must 62 [l0, l1, l2, l3, l4, l5] [vI 1, vI s0] σ Q := wp_push rfl
theorem r_M_must_62 : Wp L d k_M_must 62 [l0, l1, l2, l3, l4, vI a5] [vI s1, vI s0] σ Q ↔ Wp L d k_M_must 64 [l0, l1, l2, l3, l4, vI a5] [vI a5, vI s1, vI s0] σ Q := wp_iload rfl rfl
theorem r_M_must_64 : Wp L d k_M_must 64 [l0, l1, l2, l3, l4, l5] [vI s2, vI s1, vI s0] σ Q ↔ Wp L d k_M_must 65 [l0, l1, l2, l3, l4, l5] [vI (gshl s1 s2), vI s0] σ Q := wp_ishl rfl
theorem r_M_must_65 : Wp L d k_M_must 65 [l0, l1, l2, l3, l4, l5] [vI s1, vI s0] σ Q ↔ Wp L d k_M_must 69 [l0, l1, l2, l3, l4, l5] [vI s1, vI s0] σ Q := wp_goto rfl
theorem r_M_must_68 : Wp L d k_M_must 68 [l0, l1, l2, l3, l4, l5] [vI s0] σ Q ↔ Wp L d k_M_must 69 [l0, l1, l2, l3, l4, l5] [vI 0, vI s0] σ Q := wp_push rfl
theorem r_M_must_69 : Wp L d k_M_must 69 [l0, l1, l2, l3, l4, l5] [vI s1, vI s0] σ Q ↔ Wp L d k_M_must 70 [l0, l1, l2, l3, l4, l5] [vI (gor s0 s1)] σ Q := wp_ior rfl
theorem r_M_must_70 : Wp L d k_M_must 70 [l0, l1, l2, vI a3, l4, l5] [vI s0] σ Q ↔ Wp L d k_M_must 72 [l0, l1, l2, vI a3, vI s0, l5] [] σ Q := wp_istore (i := 4) (ls := [l0, l1, l2, vI a3, l4, l5]) rfl rfl
theorem r_M_must_72 : Wp L d k_M_must 72 [l0, l1, l2, l3, vI a4, vI a5] [] σ Q ↔ Wp L d k_M_must 75 [l0, l1, l2, l3, vI a4, vI (w32 (a5 + 1))] [] σ Q := wp_iinc (i := 5) (ls := [l0, l1, l2, l3, vI a4, vI a5]) rfl rfl
theorem r_M_must_75 : Wp L d k_M_must 75 [l0, l1, l2, l3, l4, l5] [] σ Q ↔ Wp L d k_M_must 30 [l0, l1, l2, l3, l4, l5] [] σ Q := wp_goto rfl
theorem r_M_must_78 : Wp L d k_M_must 78 [l0, l1, l2, l3, vI a4, l5] [] σ Q ↔ Wp L d k_M_must 80 [l0, l1, l2, l3, vI a4, l5] [vI a4] σ Q := wp_iload rfl rfl
theorem r_M_must_80 : Wp L d k_M_must 80 [l0, l1, l2, l3, l4, l5] [vI s0] σ Q ↔ Q (some (vI s0)) σ := wp_iret rfl
theorem r_M_must_1 : Wp L (d + 3) k_M_must 1 [l0, l1, l2, l3, l4, l5] [vI s0] σ Q ↔ Wp L (d + 3) k_M_must 4 [l0, l1, l2, l3, l4, l5] [vI (gb (0 ≤ s0 ∧ s0 ≤ 9))] σ Q := wp_callR (d := d + 2) (as := [vI s0]) (rest := []) rfl rfl rfl rfl rfl rfl rfl rfl (sp_M_isMatter)
theorem r_M_must_8 : Wp L (d + 3) k_M_must 8 [l0, l1, l2, l3, l4, l5] [vI s0] σ Q ↔ Wp L (d + 3) k_M_must 11 [l0, l1, l2, l3, l4, l5] [vI (gb (0 ≤ s0 ∧ s0 ≤ 9999))] σ Q := wp_callR (d := d + 2) (as := [vI s0]) (rest := []) rfl rfl rfl rfl rfl rfl rfl rfl (sp_M_isDay)
theorem sp_M_must_b (h : ¬ ((0 ≤ a1 ∧ a1 ≤ 9) ∧ 0 ≤ a2 ∧ a2 ≤ 9999)) : Run L (d + 3) 296 [vR 293, vI a1, vI a2] σ (some (vI (-1000000001))) σ := by
  refine Run_of (C' := k_M_must) rfl ?_
  show Wp L (d + 3) k_M_must 0 [vR 293, vI a1, vI a2, vU, vU, vU] [] σ _
  obtain ⟨K293, Q293, K294, N294⟩ := litM
  by_cases e1 : 0 ≤ a1 ∧ a1 ≤ 9
  · simp (disch := first | assumption | exact gb_01 _ | omega) only [r_M_must_0, r_M_must_1, r_M_must_4, r_M_must_7, r_M_must_8, r_M_must_11, r_M_must_14, r_M_must_16, Q293, w32_gb, w32i, tn_add, tn_mul, Int.toNat_natCast, Int.toNat_zero, Int.reduceLE, Int.reduceLT, Int.reduceEq, Int.reduceNe, gb_T, gb_F, Int.reduceToNat, eq_self, true_or, or_true, and_true, true_and, and_self, ↓ite_gb0, ↓ite_gbn, ↓if_pos, ↓if_neg, if_true, if_false, not_true_eq_false, not_false_eq_true, gb_ne0, gb_eq0]
  · simp (disch := first | assumption | exact gb_01 _ | omega) only [r_M_must_0, r_M_must_1, r_M_must_4, r_M_must_7, r_M_must_8, r_M_must_11, r_M_must_14, r_M_must_16, Q293, w32_gb, w32i, tn_add, tn_mul, Int.toNat_natCast, Int.toNat_zero, Int.reduceLE, Int.reduceLT, Int.reduceEq, Int.reduceNe, gb_T, gb_F, Int.reduceToNat, eq_self, true_or, or_true, and_true, true_and, and_self, ↓ite_gb0, ↓ite_gbn, ↓if_pos, ↓if_neg, if_true, if_false, not_true_eq_false, not_false_eq_true, gb_ne0, gb_eq0]
theorem sp_X_must {f : Nat → Int} {o : Nat → Nat} (hw : WW f) (hc : CW 109 f σ) (ho : gord (fun i => f (600 + 4 * i)) (f 3).toNat o) (ht : WT f) (hct : CT 78 f σ) (hm : σ 28 7 = f 7) (h : (0 ≤ a1 ∧ a1 ≤ 9) ∧ 0 ≤ a2 ∧ a2 ≤ 9999) : ∃ σ', Run L (d + 5) 68 [vR 27, vI a1, vI a2] σ (some (vI (bmu f (wkf f a1 a2 (wkn f o a1 a2 (f 3).toNat).1 8) a1 8))) σ' ∧ Agr σ σ' (fun k _ => k = 96) := by
  refine Run_ex (C' := k_X_must) rfl ?_
  show Wp L (d + 5) k_X_must 0 [vR 27, vI a1, vI a2] [] σ _
  obtain ⟨K27, K28, K29, K78, K97, K99, K109, K123, K125, K279, K282⟩ := litX
  obtain ⟨τ, hR, hA⟩ := sp_S_boundToTell (L := L) (d := d + 0) (σ := σ) (a1 := a1) (a2 := a2) hw hc ho ht hct hm h.1 h.2
  simp (disch := first | assumption | exact gb_01 _ | omega) only [r_X_must_0, r_X_must_1, r_X_must_4, r_X_must_7, r_X_must_8, r_X_must_11, r_X_must_14, r_X_must_15, r_X_must_18, r_X_must_19, r_X_must_23, r_X_must_26, r_X_must_28, c_X_must_20 hR, Option.toList, List.singleton_append, List.cons_append, List.nil_append, List.append_nil, gq_27_0, gq_27_1, gq_27_2, gq_27_3, gq_27_4, gq_27_5, gq_27_6, gq_28_0, gq_28_1, gq_28_2, gq_28_3, gq_28_4, gq_28_5, gq_28_6, w32_gb, w32i, tn_add, tn_mul, Int.toNat_natCast, Int.toNat_zero, Int.reduceLE, Int.reduceLT, Int.reduceEq, Int.reduceNe, gb_T, gb_F, Int.reduceToNat, eq_self, true_or, or_true, and_true, true_and, and_self, ↓ite_gb0, ↓ite_gbn, ↓if_pos, ↓if_neg, if_true, if_false, not_true_eq_false, not_false_eq_true, gb_ne0, gb_eq0]
  exact hA
theorem sp_M_must (hw : WW (σ 294)) (ht : WT (σ 294)) (h : (0 ≤ a1 ∧ a1 ≤ 9) ∧ 0 ≤ a2 ∧ a2 ≤ 9999) : ∃ o : Nat → Nat, gord (fun i => σ 294 (600 + 4 * i)) (σ 294 3).toNat o ∧ ∃ σ', Run L (d + 3) 296 [vR 293, vI a1, vI a2] σ (some (vI (bmu (σ 294) (wkf (σ 294) a1 a2 (wkn (σ 294) o a1 a2 (σ 294 3).toNat).1 8) a1 8))) σ' ∧ Agr σ σ' (fun k j => k = 304 ∨ (k = 293 ∧ j = 23) ∨ k = 302 ∨ k = 303) := by
  obtain ⟨o, ho, τ0, hR, hb, hA0⟩ := sp_M_whoKnew (L := L) (d := d + 1) (σ := σ) (a1 := a1) (a2 := a2) hw h.1 h.2
  refine ⟨o, ho, ?_⟩
  refine Run_ex (C' := k_M_must) rfl ?_
  show Wp L (d + 3) k_M_must 0 [vR 293, vI a1, vI a2, vU, vU, vU] [] σ _
  obtain ⟨K293, Q293, K294, N294⟩ := litM
  generalize wkf (σ 294) a1 a2 (wkn (σ 294) o a1 a2 (σ 294 3).toNat).1 8 = x at hR ⊢
  simp (disch := first | assumption | exact gb_01 _ | omega) only [r_M_must_0, r_M_must_1, r_M_must_4, r_M_must_7, r_M_must_8, r_M_must_11, r_M_must_14, r_M_must_16, r_M_must_17, r_M_must_18, r_M_must_19, r_M_must_23, r_M_must_24, r_M_must_25, r_M_must_27, r_M_must_28, r_M_must_32, r_M_must_34, r_M_must_37, r_M_must_39, r_M_must_40, r_M_must_42, r_M_must_43, r_M_must_44, r_M_must_45, r_M_must_46, r_M_must_49, r_M_must_50, r_M_must_51, r_M_must_53, r_M_must_54, r_M_must_58, r_M_must_61, r_M_must_62, r_M_must_64, r_M_must_65, r_M_must_68, r_M_must_69, r_M_must_70, r_M_must_72, r_M_must_75, r_M_must_78, r_M_must_80, c_M_must_20 hR, Option.toList, List.singleton_append, List.cons_append, List.nil_append, List.append_nil, Q293, w32_gb, w32i, tn_add, tn_mul, Int.toNat_natCast, Int.toNat_zero, Int.reduceLE, Int.reduceLT, Int.reduceEq, Int.reduceNe, gb_T, gb_F, Int.reduceToNat, eq_self, true_or, or_true, and_true, true_and, and_self, ↓ite_gb0, ↓ite_gbn, ↓if_pos, ↓if_neg, if_true, if_false, not_true_eq_false, not_false_eq_true, gb_ne0, gb_eq0]
  refine wloop (n := 8) (I := fun k ls τ => ls = [vR 293, vI a1, vI a2, vI x, vI (bmu (σ 294) x a1 k), vI (k : Int)] ∧ Agr σ τ (fun k j => k = 304 ∨ (k = 293 ∧ j = 23) ∨ k = 302 ∨ k = 303)) (fun k ls τ hk hi hq => ?_) (fun ls τ hi => ?_) 8 0 (by omega) _ _ ⟨rfl, Agr_mono hA0 (fun k j hk => by omega)⟩
  · obtain ⟨rfl, hA⟩ := hi
    have e4 : τ 294 = σ 294 := funext (fun j => hA 294 j (by omega))
    obtain ⟨τ1, hR1, hA1⟩ := sp_M_ruleOf_3 (L := L) (d := d + 0) (σ := τ) (a2 := (k : Int)) (a3 := a1) (a4 := 0) (by rw [e4]; exact ht)
    rw [e4] at hR1
    have b2 : gand (gshr x (k : Int)) 1 = gbt x (k : Nat) := rfl
    have br := gor_0 (bmu_r (σ 294) x a1 k)
    rw [r_M_must_30]
    by_cases c1 : gbt x (k : Int) = 1
    · by_cases c2 : brrl (σ 294) 3 (k : Int) a1 0 = 0
      · simp (disch := first | assumption | exact gb_01 _ | omega) only [r_M_must_0, r_M_must_1, r_M_must_4, r_M_must_7, r_M_must_8, r_M_must_11, r_M_must_14, r_M_must_16, r_M_must_17, r_M_must_18, r_M_must_19, r_M_must_23, r_M_must_24, r_M_must_25, r_M_must_27, r_M_must_28, r_M_must_32, r_M_must_34, r_M_must_37, r_M_must_39, r_M_must_40, r_M_must_42, r_M_must_43, r_M_must_44, r_M_must_45, r_M_must_46, r_M_must_49, r_M_must_50, r_M_must_51, r_M_must_53, r_M_must_54, r_M_must_58, r_M_must_61, r_M_must_62, r_M_must_64, r_M_must_65, r_M_must_68, r_M_must_69, r_M_must_70, r_M_must_72, r_M_must_75, r_M_must_78, r_M_must_80, c_M_must_55 hR1, Option.toList, List.singleton_append, List.cons_append, List.nil_append, List.append_nil, Q293, b2, br, w32_gb, w32i, tn_add, tn_mul, Int.toNat_natCast, Int.toNat_zero, Int.reduceLE, Int.reduceLT, Int.reduceEq, Int.reduceNe, gb_T, gb_F, Int.reduceToNat, eq_self, true_or, or_true, and_true, true_and, and_self, ↓ite_gb0, ↓ite_gbn, ↓if_pos, ↓if_neg, if_true, if_false, not_true_eq_false, not_false_eq_true, gb_ne0, gb_eq0]
        exact hq _ _ ⟨by rw [show bmu (σ 294) x a1 (k + 1) = bmu (σ 294) x a1 k from if_neg (fun z => z.2 c2)]; simp only [List.cons.injEq, vI_inj, vR_inj, and_true, true_and]; omega, Agr_trans hA (Agr_mono hA1 (fun k j hk => by omega))⟩
      · simp (disch := first | assumption | exact gb_01 _ | omega) only [r_M_must_0, r_M_must_1, r_M_must_4, r_M_must_7, r_M_must_8, r_M_must_11, r_M_must_14, r_M_must_16, r_M_must_17, r_M_must_18, r_M_must_19, r_M_must_23, r_M_must_24, r_M_must_25, r_M_must_27, r_M_must_28, r_M_must_32, r_M_must_34, r_M_must_37, r_M_must_39, r_M_must_40, r_M_must_42, r_M_must_43, r_M_must_44, r_M_must_45, r_M_must_46, r_M_must_49, r_M_must_50, r_M_must_51, r_M_must_53, r_M_must_54, r_M_must_58, r_M_must_61, r_M_must_62, r_M_must_64, r_M_must_65, r_M_must_68, r_M_must_69, r_M_must_70, r_M_must_72, r_M_must_75, r_M_must_78, r_M_must_80, c_M_must_55 hR1, Option.toList, List.singleton_append, List.cons_append, List.nil_append, List.append_nil, Q293, b2, br, w32_gb, w32i, tn_add, tn_mul, Int.toNat_natCast, Int.toNat_zero, Int.reduceLE, Int.reduceLT, Int.reduceEq, Int.reduceNe, gb_T, gb_F, Int.reduceToNat, eq_self, true_or, or_true, and_true, true_and, and_self, ↓ite_gb0, ↓ite_gbn, ↓if_pos, ↓if_neg, if_true, if_false, not_true_eq_false, not_false_eq_true, gb_ne0, gb_eq0]
        exact hq _ _ ⟨by rw [show bmu (σ 294) x a1 (k + 1) = gor (bmu (σ 294) x a1 k) (gshl 1 (k : Int)) from if_pos ⟨c1, c2⟩]; simp only [List.cons.injEq, vI_inj, vR_inj, and_true, true_and]; omega, Agr_trans hA (Agr_mono hA1 (fun k j hk => by omega))⟩
    · simp (disch := first | assumption | exact gb_01 _ | omega) only [r_M_must_0, r_M_must_1, r_M_must_4, r_M_must_7, r_M_must_8, r_M_must_11, r_M_must_14, r_M_must_16, r_M_must_17, r_M_must_18, r_M_must_19, r_M_must_23, r_M_must_24, r_M_must_25, r_M_must_27, r_M_must_28, r_M_must_32, r_M_must_34, r_M_must_37, r_M_must_39, r_M_must_40, r_M_must_42, r_M_must_43, r_M_must_44, r_M_must_45, r_M_must_46, r_M_must_49, r_M_must_50, r_M_must_51, r_M_must_53, r_M_must_54, r_M_must_58, r_M_must_61, r_M_must_62, r_M_must_64, r_M_must_65, r_M_must_68, r_M_must_69, r_M_must_70, r_M_must_72, r_M_must_75, r_M_must_78, r_M_must_80, c_M_must_55 hR1, Option.toList, List.singleton_append, List.cons_append, List.nil_append, List.append_nil, Q293, b2, br, w32_gb, w32i, tn_add, tn_mul, Int.toNat_natCast, Int.toNat_zero, Int.reduceLE, Int.reduceLT, Int.reduceEq, Int.reduceNe, gb_T, gb_F, Int.reduceToNat, eq_self, true_or, or_true, and_true, true_and, and_self, ↓ite_gb0, ↓ite_gbn, ↓if_pos, ↓if_neg, if_true, if_false, not_true_eq_false, not_false_eq_true, gb_ne0, gb_eq0]
      exact hq _ _ ⟨by rw [show bmu (σ 294) x a1 (k + 1) = bmu (σ 294) x a1 k from if_neg (fun z => c1 z.1)]; simp only [List.cons.injEq, vI_inj, vR_inj, and_true, true_and]; omega, hA⟩
  · obtain ⟨rfl, hA⟩ := hi
    rw [r_M_must_30]
    simp (disch := first | assumption | exact gb_01 _ | omega) only [r_M_must_0, r_M_must_1, r_M_must_4, r_M_must_7, r_M_must_8, r_M_must_11, r_M_must_14, r_M_must_16, r_M_must_17, r_M_must_18, r_M_must_19, r_M_must_23, r_M_must_24, r_M_must_25, r_M_must_27, r_M_must_28, r_M_must_32, r_M_must_34, r_M_must_37, r_M_must_39, r_M_must_40, r_M_must_42, r_M_must_43, r_M_must_44, r_M_must_45, r_M_must_46, r_M_must_49, r_M_must_50, r_M_must_51, r_M_must_53, r_M_must_54, r_M_must_58, r_M_must_61, r_M_must_62, r_M_must_64, r_M_must_65, r_M_must_68, r_M_must_69, r_M_must_70, r_M_must_72, r_M_must_75, r_M_must_78, r_M_must_80, Q293, w32_gb, w32i, tn_add, tn_mul, Int.toNat_natCast, Int.toNat_zero, Int.reduceLE, Int.reduceLT, Int.reduceEq, Int.reduceNe, gb_T, gb_F, Int.reduceToNat, eq_self, true_or, or_true, and_true, true_and, and_self, ↓ite_gb0, ↓ite_gbn, ↓if_pos, ↓if_neg, if_true, if_false, not_true_eq_false, not_false_eq_true, gb_ne0, gb_eq0]
    exact hA
theorem op_must (a1 a2 : Int) : Op 68 296 [vI a1, vI a2] := by
  intro L d σ hI
  obtain ⟨hw, hc⟩ := iW hI
  obtain ⟨ht, hct⟩ := iT hI
  have hM := (iM hI).2.1
  by_cases h : (0 ≤ a1 ∧ a1 ≤ 9) ∧ 0 ≤ a2 ∧ a2 ≤ 9999
  · obtain ⟨o, ho, -⟩ := sp_M_whoKnew (L := L) (d := d) (σ := σ) (a1 := a1) (a2 := a2) hw h.1 h.2
    obtain ⟨σ1, hR1, hA1⟩ := sp_X_must (L := L) (d := d + 995) (σ := σ) (a1 := a1) (a2 := a2) hw hc ho ht hct hM h
    have e : σ1 294 = σ 294 := funext (fun j => hA1 294 j (by omega))
    obtain ⟨o2, ho2, σ2, hR2, hA2⟩ := sp_M_must (L := L) (d := d + 997) (σ := σ1) (a1 := a1) (a2 := a2) (by rw [e]; exact hw) (by rw [e]; exact ht) h
    rw [e] at ho2 hR2
    rw [wkn_congr (o := o2) (p := o) _ (fun i hi => gord_uni ho2 ho (i + 1) i (by omega) hi)] at hR2
    exact ⟨_, _, _, hR1, hR2, Inv_free hI (Agr_trans (Agr_mono hA1 (fun k j hk => by unfold ZFr; omega)) (Agr_mono hA2 (fun k j hk => by unfold ZFr; omega)))⟩
  · exact ⟨_, _, _, sp_X_must_b h, sp_M_must_b h, hI⟩
