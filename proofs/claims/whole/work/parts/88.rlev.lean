/-! text: the reference's levels, by what they call. -/
variable {L d : Nat} {σ σ1 : Nat → Nat → Int} {Q : Option gV → (Nat → Nat → Int) → Prop} {a0 a1 a2 a3 a4 a5 a6 a7 a8 a9 a10 a11 s0 s1 s2 s3 s4 s5 s6 s7 s8 s9 : Int} {l0 l1 l2 l3 l4 l5 l6 l7 l8 l9 l10 l11 t0 t1 t2 t3 t4 t5 t6 t7 t8 t9 : gV} {b0 b1 b2 b3 b4 b5 b6 b7 b8 b9 b10 b11 c0 c1 c2 c3 c4 c5 c6 c7 c8 c9 : Nat} {r : Option gV}
set_option maxRecDepth 4000 in
theorem r_M_either_0 : Wp L d k_M_either 0 [vR b0, l1] [] σ Q ↔ Wp L d k_M_either 1 [vR b0, l1] [vR b0] σ Q := wp_aload rfl rfl
set_option maxRecDepth 4000 in
theorem r_M_either_1 : Wp L d k_M_either 1 [l0, vI a1] [vR c0] σ Q ↔ Wp L d k_M_either 2 [l0, vI a1] [vI a1, vR c0] σ Q := wp_iload rfl rfl
set_option maxRecDepth 4000 in
theorem c_M_either_2 (hR : Run L d 248 [vR c0, vI s1] σ r σ1) (h : gK c0 = 12) : Wp L (d + 1) k_M_either 2 [l0, l1] [vI s1, vR c0] σ Q ↔ Wp L (d + 1) k_M_either 5 [l0, l1] (r.toList ++ []) σ1 Q := wp_callR (as := [vR c0, vI s1]) (rest := []) rfl rfl rfl rfl rfl rfl rfl (grecv_k (by rw [h]) rfl) hR
set_option maxRecDepth 4000 in
theorem r_M_either_5 : Wp L d k_M_either 5 [l0, l1] [vI s0] σ Q ↔ (if s0 ≠ 0 then Wp L d k_M_either 10 [l0, l1] [] σ Q else Wp L d k_M_either 8 [l0, l1] [] σ Q) := wp_if_ne rfl
set_option maxRecDepth 4000 in
theorem r_M_either_8 : Wp L d k_M_either 8 [l0, l1] [] σ Q ↔ Wp L d k_M_either 9 [l0, l1] [vI 0] σ Q := wp_push rfl
set_option maxRecDepth 4000 in
theorem r_M_either_9 (h : s0 = 0 ∨ s0 = 1) : Wp L d k_M_either 9 [l0, l1] [vI s0] σ Q ↔ Q (some (vI s0)) σ := wp_zret rfl h
set_option maxRecDepth 4000 in
theorem r_M_either_10 : Wp L d k_M_either 10 [vR b0, l1] [] σ Q ↔ Wp L d k_M_either 11 [vR b0, l1] [vR b0] σ Q := wp_aload rfl rfl
set_option maxRecDepth 4000 in
theorem r_M_either_11 : Wp L d k_M_either 11 [l0, l1] [vR c0] σ Q ↔ Wp L d k_M_either 13 [l0, l1] [vI 124, vR c0] σ Q := wp_push rfl
set_option maxRecDepth 4000 in
theorem c_M_either_13 (hR : Run L d 255 [vR c0, vI s1] σ r σ1) (h : gK c0 = 12) : Wp L (d + 1) k_M_either 13 [l0, l1] [vI s1, vR c0] σ Q ↔ Wp L (d + 1) k_M_either 16 [l0, l1] (r.toList ++ []) σ1 Q := wp_callR (as := [vR c0, vI s1]) (rest := []) rfl rfl rfl rfl rfl rfl rfl (grecv_k (by rw [h]) rfl) hR
set_option maxRecDepth 4000 in
theorem r_M_either_16 : Wp L d k_M_either 16 [l0, l1] [vI s0] σ Q ↔ (if s0 = 0 then Wp L d k_M_either 43 [l0, l1] [] σ Q else Wp L d k_M_either 19 [l0, l1] [] σ Q) := wp_if_eq rfl
set_option maxRecDepth 4000 in
theorem r_M_either_19 : Wp L d k_M_either 19 [vR b0, l1] [] σ Q ↔ Wp L d k_M_either 20 [vR b0, l1] [vR b0] σ Q := wp_aload rfl rfl
set_option maxRecDepth 4000 in
theorem c_M_either_20 (hR : Run L d 241 [vR c0] σ r σ1) (h : gK c0 = 12) : Wp L (d + 1) k_M_either 20 [l0, l1] [vR c0] σ Q ↔ Wp L (d + 1) k_M_either 23 [l0, l1] (r.toList ++ []) σ1 Q := wp_callR (as := [vR c0]) (rest := []) rfl rfl rfl rfl rfl rfl rfl (grecv_k (by rw [h]) rfl) hR
set_option maxRecDepth 4000 in
theorem r_M_either_23 : Wp L d k_M_either 23 [vR b0, l1] [] σ Q ↔ Wp L d k_M_either 24 [vR b0, l1] [vR b0] σ Q := wp_aload rfl rfl
set_option maxRecDepth 4000 in
theorem r_M_either_24 : Wp L d k_M_either 24 [l0, vI a1] [vR c0] σ Q ↔ Wp L d k_M_either 25 [l0, vI a1] [vI a1, vR c0] σ Q := wp_iload rfl rfl
set_option maxRecDepth 4000 in
theorem c_M_either_25 (hR : Run L d 248 [vR c0, vI s1] σ r σ1) (h : gK c0 = 12) : Wp L (d + 1) k_M_either 25 [l0, l1] [vI s1, vR c0] σ Q ↔ Wp L (d + 1) k_M_either 28 [l0, l1] (r.toList ++ []) σ1 Q := wp_callR (as := [vR c0, vI s1]) (rest := []) rfl rfl rfl rfl rfl rfl rfl (grecv_k (by rw [h]) rfl) hR
set_option maxRecDepth 4000 in
theorem r_M_either_28 : Wp L d k_M_either 28 [l0, l1] [vI s0] σ Q ↔ (if s0 ≠ 0 then Wp L d k_M_either 33 [l0, l1] [] σ Q else Wp L d k_M_either 31 [l0, l1] [] σ Q) := wp_if_ne rfl
set_option maxRecDepth 4000 in
theorem r_M_either_31 : Wp L d k_M_either 31 [l0, l1] [] σ Q ↔ Wp L d k_M_either 32 [l0, l1] [vI 0] σ Q := wp_push rfl
set_option maxRecDepth 4000 in
theorem r_M_either_32 (h : s0 = 0 ∨ s0 = 1) : Wp L d k_M_either 32 [l0, l1] [vI s0] σ Q ↔ Q (some (vI s0)) σ := wp_zret rfl h
set_option maxRecDepth 4000 in
theorem r_M_either_33 : Wp L d k_M_either 33 [vR b0, l1] [] σ Q ↔ Wp L d k_M_either 34 [vR b0, l1] [vR b0] σ Q := wp_aload rfl rfl
set_option maxRecDepth 4000 in
theorem r_M_either_34 : Wp L d k_M_either 34 [l0, l1] [vR c0] σ Q ↔ Wp L d k_M_either 35 [l0, l1] [vI 2, vR c0] σ Q := wp_push rfl
set_option maxRecDepth 4000 in
theorem r_M_either_35 : Wp L d k_M_either 35 [l0, l1] [vI s1, vR c0] σ Q ↔ Wp L d k_M_either 37 [l0, l1] [vI 124, vI s1, vR c0] σ Q := wp_push rfl
set_option maxRecDepth 4000 in
theorem c_M_either_37 (hR : Run L d 253 [vR c0, vI s1, vI s2] σ r σ1) (h : gK c0 = 12) : Wp L (d + 1) k_M_either 37 [l0, l1] [vI s2, vI s1, vR c0] σ Q ↔ Wp L (d + 1) k_M_either 40 [l0, l1] (r.toList ++ []) σ1 Q := wp_callR (as := [vR c0, vI s1, vI s2]) (rest := []) rfl rfl rfl rfl rfl rfl rfl (grecv_k (by rw [h]) rfl) hR
set_option maxRecDepth 4000 in
theorem r_M_either_40 : Wp L d k_M_either 40 [l0, l1] [] σ Q ↔ Wp L d k_M_either 10 [l0, l1] [] σ Q := wp_goto rfl
set_option maxRecDepth 4000 in
theorem r_M_either_43 : Wp L d k_M_either 43 [l0, l1] [] σ Q ↔ Wp L d k_M_either 44 [l0, l1] [vI 1] σ Q := wp_push rfl
set_option maxRecDepth 4000 in
theorem r_M_either_44 (h : s0 = 0 ∨ s0 = 1) : Wp L d k_M_either 44 [l0, l1] [vI s0] σ Q ↔ Q (some (vI s0)) σ := wp_zret rfl h
set_option maxRecDepth 4000 in
theorem rl_in_0 {σ2 : gMm} {key : Int}  (hU : Run L (d + 7) 248 [vR 293, vI key] σ (some (vI 1)) σ2) (hq : Wp L (d + 8) k_M_either 10 [vR 293, vI key] [] σ2 Q) : Wp L (d + 8) k_M_either 0 [vR 293, vI key] [] σ Q := by
  have K293 := gK_293
  simp (disch := first | assumption | exact gb_01 _ | omega) only [r_M_either_0, r_M_either_1, r_M_either_5, r_M_either_8, r_M_either_9, r_M_either_11, r_M_either_16, r_M_either_19, r_M_either_23, r_M_either_24, r_M_either_28, r_M_either_31, r_M_either_32, r_M_either_33, r_M_either_34, r_M_either_35, r_M_either_40, r_M_either_43, r_M_either_44, c_M_either_2 hU, Option.toList, List.singleton_append, List.cons_append, List.nil_append, List.append_nil, w32_gb, w32i, tn_add, tn_mul, Int.toNat_natCast, Int.toNat_zero, Int.reduceLE, Int.reduceLT, Int.reduceEq, Int.reduceNe, gb_T, gb_F, Int.reduceToNat, eq_self, true_or, or_true, and_true, true_and, and_self, ↓ite_gb0, ↓ite_gbn, ↓if_pos, ↓if_neg, if_true, if_false, not_true_eq_false, not_false_eq_true, gb_ne0, gb_eq0]
  exact hq
set_option maxRecDepth 4000 in
theorem rl_in0_0 {σ2 : gMm} {key : Int}  (hU : Run L (d + 7) 248 [vR 293, vI key] σ (some (vI 0)) σ2) (hq : Q (some (vI 0)) σ2) : Wp L (d + 8) k_M_either 0 [vR 293, vI key] [] σ Q := by
  have K293 := gK_293
  simp (disch := first | assumption | exact gb_01 _ | omega) only [r_M_either_0, r_M_either_1, r_M_either_5, r_M_either_8, r_M_either_9, r_M_either_11, r_M_either_16, r_M_either_19, r_M_either_23, r_M_either_24, r_M_either_28, r_M_either_31, r_M_either_32, r_M_either_33, r_M_either_34, r_M_either_35, r_M_either_40, r_M_either_43, r_M_either_44, c_M_either_2 hU, Option.toList, List.singleton_append, List.cons_append, List.nil_append, List.append_nil, w32_gb, w32i, tn_add, tn_mul, Int.toNat_natCast, Int.toNat_zero, Int.reduceLE, Int.reduceLT, Int.reduceEq, Int.reduceNe, gb_T, gb_F, Int.reduceToNat, eq_self, true_or, or_true, and_true, true_and, and_self, ↓ite_gb0, ↓ite_gbn, ↓if_pos, ↓if_neg, if_true, if_false, not_true_eq_false, not_false_eq_true, gb_ne0, gb_eq0]
  exact hq
set_option maxRecDepth 4000 in
theorem rl_exit_0  {key : Int}  (hS0 : Run L (d + 7) 255 [vR 293, vI 124] σ (some (vI 0)) σ) (hq : Q (some (vI 1)) σ) : Wp L (d + 8) k_M_either 10 [vR 293, vI key] [] σ Q := by
  have K293 := gK_293
  rw [r_M_either_10]
  simp (disch := first | assumption | exact gb_01 _ | omega) only [r_M_either_0, r_M_either_1, r_M_either_5, r_M_either_8, r_M_either_9, r_M_either_11, r_M_either_16, r_M_either_19, r_M_either_23, r_M_either_24, r_M_either_28, r_M_either_31, r_M_either_32, r_M_either_33, r_M_either_34, r_M_either_35, r_M_either_40, r_M_either_43, r_M_either_44, c_M_either_13 hS0, Option.toList, List.singleton_append, List.cons_append, List.nil_append, List.append_nil, w32_gb, w32i, tn_add, tn_mul, Int.toNat_natCast, Int.toNat_zero, Int.reduceLE, Int.reduceLT, Int.reduceEq, Int.reduceNe, gb_T, gb_F, Int.reduceToNat, eq_self, true_or, or_true, and_true, true_and, and_self, ↓ite_gb0, ↓ite_gbn, ↓if_pos, ↓if_neg, if_true, if_false, not_true_eq_false, not_false_eq_true, gb_ne0, gb_eq0]
  exact hq
set_option maxRecDepth 4000 in
theorem rl_step_0_0 {σ2 σ3 σ4 : gMm} {key : Int}  (hS0 : Run L (d + 7) 255 [vR 293, vI 124] σ (some (vI 1)) σ) (hN : Run L (d + 7) 241 [vR 293] σ none σ2) (hU : Run L (d + 7) 248 [vR 293, vI key] σ2 (some (vI 1)) σ3) (hL : Run L (d + 7) 253 [vR 293, vI 2, vI 124] σ3 none σ4) (hq : Wp L (d + 8) k_M_either 10 [vR 293, vI key] [] σ4 Q) : Wp L (d + 8) k_M_either 10 [vR 293, vI key] [] σ Q := by
  have K293 := gK_293
  rw [r_M_either_10]
  simp (disch := first | assumption | exact gb_01 _ | omega) only [r_M_either_0, r_M_either_1, r_M_either_5, r_M_either_8, r_M_either_9, r_M_either_11, r_M_either_16, r_M_either_19, r_M_either_23, r_M_either_24, r_M_either_28, r_M_either_31, r_M_either_32, r_M_either_33, r_M_either_34, r_M_either_35, r_M_either_40, r_M_either_43, r_M_either_44, c_M_either_13 hS0, c_M_either_20 hN, c_M_either_25 hU, c_M_either_37 hL, Option.toList, List.singleton_append, List.cons_append, List.nil_append, List.append_nil, w32_gb, w32i, tn_add, tn_mul, Int.toNat_natCast, Int.toNat_zero, Int.reduceLE, Int.reduceLT, Int.reduceEq, Int.reduceNe, gb_T, gb_F, Int.reduceToNat, eq_self, true_or, or_true, and_true, true_and, and_self, ↓ite_gb0, ↓ite_gbn, ↓if_pos, ↓if_neg, if_true, if_false, not_true_eq_false, not_false_eq_true, gb_ne0, gb_eq0]
  exact hq
set_option maxRecDepth 4000 in
theorem rl_step0_0_0 {σ2 σ3 : gMm} {key : Int}  (hS0 : Run L (d + 7) 255 [vR 293, vI 124] σ (some (vI 1)) σ) (hN : Run L (d + 7) 241 [vR 293] σ none σ2) (hU : Run L (d + 7) 248 [vR 293, vI key] σ2 (some (vI 0)) σ3) (hq : Q (some (vI 0)) σ3) : Wp L (d + 8) k_M_either 10 [vR 293, vI key] [] σ Q := by
  have K293 := gK_293
  rw [r_M_either_10]
  simp (disch := first | assumption | exact gb_01 _ | omega) only [r_M_either_0, r_M_either_1, r_M_either_5, r_M_either_8, r_M_either_9, r_M_either_11, r_M_either_16, r_M_either_19, r_M_either_23, r_M_either_24, r_M_either_28, r_M_either_31, r_M_either_32, r_M_either_33, r_M_either_34, r_M_either_35, r_M_either_40, r_M_either_43, r_M_either_44, c_M_either_13 hS0, c_M_either_20 hN, c_M_either_25 hU, Option.toList, List.singleton_append, List.cons_append, List.nil_append, List.append_nil, w32_gb, w32i, tn_add, tn_mul, Int.toNat_natCast, Int.toNat_zero, Int.reduceLE, Int.reduceLT, Int.reduceEq, Int.reduceNe, gb_T, gb_F, Int.reduceToNat, eq_self, true_or, or_true, and_true, true_and, and_self, ↓ite_gb0, ↓ite_gbn, ↓if_pos, ↓if_neg, if_true, if_false, not_true_eq_false, not_false_eq_true, gb_ne0, gb_eq0]
  exact hq
set_option maxRecDepth 4000 in
theorem r_M_both_0 : Wp L d k_M_both 0 [vR b0, l1] [] σ Q ↔ Wp L d k_M_both 1 [vR b0, l1] [vR b0] σ Q := wp_aload rfl rfl
set_option maxRecDepth 4000 in
theorem r_M_both_1 : Wp L d k_M_both 1 [l0, vI a1] [vR c0] σ Q ↔ Wp L d k_M_both 2 [l0, vI a1] [vI a1, vR c0] σ Q := wp_iload rfl rfl
set_option maxRecDepth 4000 in
theorem c_M_both_2 (hR : Run L d 249 [vR c0, vI s1] σ r σ1) (h : gK c0 = 12) : Wp L (d + 1) k_M_both 2 [l0, l1] [vI s1, vR c0] σ Q ↔ Wp L (d + 1) k_M_both 5 [l0, l1] (r.toList ++ []) σ1 Q := wp_callR (as := [vR c0, vI s1]) (rest := []) rfl rfl rfl rfl rfl rfl rfl (grecv_k (by rw [h]) rfl) hR
set_option maxRecDepth 4000 in
theorem r_M_both_5 : Wp L d k_M_both 5 [l0, l1] [vI s0] σ Q ↔ (if s0 ≠ 0 then Wp L d k_M_both 10 [l0, l1] [] σ Q else Wp L d k_M_both 8 [l0, l1] [] σ Q) := wp_if_ne rfl
set_option maxRecDepth 4000 in
theorem r_M_both_8 : Wp L d k_M_both 8 [l0, l1] [] σ Q ↔ Wp L d k_M_both 9 [l0, l1] [vI 0] σ Q := wp_push rfl
set_option maxRecDepth 4000 in
theorem r_M_both_9 (h : s0 = 0 ∨ s0 = 1) : Wp L d k_M_both 9 [l0, l1] [vI s0] σ Q ↔ Q (some (vI s0)) σ := wp_zret rfl h
set_option maxRecDepth 4000 in
theorem r_M_both_10 : Wp L d k_M_both 10 [vR b0, l1] [] σ Q ↔ Wp L d k_M_both 11 [vR b0, l1] [vR b0] σ Q := wp_aload rfl rfl
set_option maxRecDepth 4000 in
theorem r_M_both_11 : Wp L d k_M_both 11 [l0, l1] [vR c0] σ Q ↔ Wp L d k_M_both 13 [l0, l1] [vI 38, vR c0] σ Q := wp_push rfl
set_option maxRecDepth 4000 in
theorem c_M_both_13 (hR : Run L d 255 [vR c0, vI s1] σ r σ1) (h : gK c0 = 12) : Wp L (d + 1) k_M_both 13 [l0, l1] [vI s1, vR c0] σ Q ↔ Wp L (d + 1) k_M_both 16 [l0, l1] (r.toList ++ []) σ1 Q := wp_callR (as := [vR c0, vI s1]) (rest := []) rfl rfl rfl rfl rfl rfl rfl (grecv_k (by rw [h]) rfl) hR
set_option maxRecDepth 4000 in
theorem r_M_both_16 : Wp L d k_M_both 16 [l0, l1] [vI s0] σ Q ↔ (if s0 = 0 then Wp L d k_M_both 43 [l0, l1] [] σ Q else Wp L d k_M_both 19 [l0, l1] [] σ Q) := wp_if_eq rfl
set_option maxRecDepth 4000 in
theorem r_M_both_19 : Wp L d k_M_both 19 [vR b0, l1] [] σ Q ↔ Wp L d k_M_both 20 [vR b0, l1] [vR b0] σ Q := wp_aload rfl rfl
set_option maxRecDepth 4000 in
theorem c_M_both_20 (hR : Run L d 241 [vR c0] σ r σ1) (h : gK c0 = 12) : Wp L (d + 1) k_M_both 20 [l0, l1] [vR c0] σ Q ↔ Wp L (d + 1) k_M_both 23 [l0, l1] (r.toList ++ []) σ1 Q := wp_callR (as := [vR c0]) (rest := []) rfl rfl rfl rfl rfl rfl rfl (grecv_k (by rw [h]) rfl) hR
set_option maxRecDepth 4000 in
theorem r_M_both_23 : Wp L d k_M_both 23 [vR b0, l1] [] σ Q ↔ Wp L d k_M_both 24 [vR b0, l1] [vR b0] σ Q := wp_aload rfl rfl
set_option maxRecDepth 4000 in
theorem r_M_both_24 : Wp L d k_M_both 24 [l0, vI a1] [vR c0] σ Q ↔ Wp L d k_M_both 25 [l0, vI a1] [vI a1, vR c0] σ Q := wp_iload rfl rfl
set_option maxRecDepth 4000 in
theorem c_M_both_25 (hR : Run L d 249 [vR c0, vI s1] σ r σ1) (h : gK c0 = 12) : Wp L (d + 1) k_M_both 25 [l0, l1] [vI s1, vR c0] σ Q ↔ Wp L (d + 1) k_M_both 28 [l0, l1] (r.toList ++ []) σ1 Q := wp_callR (as := [vR c0, vI s1]) (rest := []) rfl rfl rfl rfl rfl rfl rfl (grecv_k (by rw [h]) rfl) hR
set_option maxRecDepth 4000 in
theorem r_M_both_28 : Wp L d k_M_both 28 [l0, l1] [vI s0] σ Q ↔ (if s0 ≠ 0 then Wp L d k_M_both 33 [l0, l1] [] σ Q else Wp L d k_M_both 31 [l0, l1] [] σ Q) := wp_if_ne rfl
set_option maxRecDepth 4000 in
theorem r_M_both_31 : Wp L d k_M_both 31 [l0, l1] [] σ Q ↔ Wp L d k_M_both 32 [l0, l1] [vI 0] σ Q := wp_push rfl
set_option maxRecDepth 4000 in
theorem r_M_both_32 (h : s0 = 0 ∨ s0 = 1) : Wp L d k_M_both 32 [l0, l1] [vI s0] σ Q ↔ Q (some (vI s0)) σ := wp_zret rfl h
set_option maxRecDepth 4000 in
theorem r_M_both_33 : Wp L d k_M_both 33 [vR b0, l1] [] σ Q ↔ Wp L d k_M_both 34 [vR b0, l1] [vR b0] σ Q := wp_aload rfl rfl
set_option maxRecDepth 4000 in
theorem r_M_both_34 : Wp L d k_M_both 34 [l0, l1] [vR c0] σ Q ↔ Wp L d k_M_both 35 [l0, l1] [vI 2, vR c0] σ Q := wp_push rfl
set_option maxRecDepth 4000 in
theorem r_M_both_35 : Wp L d k_M_both 35 [l0, l1] [vI s1, vR c0] σ Q ↔ Wp L d k_M_both 37 [l0, l1] [vI 38, vI s1, vR c0] σ Q := wp_push rfl
set_option maxRecDepth 4000 in
theorem c_M_both_37 (hR : Run L d 253 [vR c0, vI s1, vI s2] σ r σ1) (h : gK c0 = 12) : Wp L (d + 1) k_M_both 37 [l0, l1] [vI s2, vI s1, vR c0] σ Q ↔ Wp L (d + 1) k_M_both 40 [l0, l1] (r.toList ++ []) σ1 Q := wp_callR (as := [vR c0, vI s1, vI s2]) (rest := []) rfl rfl rfl rfl rfl rfl rfl (grecv_k (by rw [h]) rfl) hR
set_option maxRecDepth 4000 in
theorem r_M_both_40 : Wp L d k_M_both 40 [l0, l1] [] σ Q ↔ Wp L d k_M_both 10 [l0, l1] [] σ Q := wp_goto rfl
set_option maxRecDepth 4000 in
theorem r_M_both_43 : Wp L d k_M_both 43 [l0, l1] [] σ Q ↔ Wp L d k_M_both 44 [l0, l1] [vI 1] σ Q := wp_push rfl
set_option maxRecDepth 4000 in
theorem r_M_both_44 (h : s0 = 0 ∨ s0 = 1) : Wp L d k_M_both 44 [l0, l1] [vI s0] σ Q ↔ Q (some (vI s0)) σ := wp_zret rfl h
set_option maxRecDepth 4000 in
theorem rl_in_1 {σ2 : gMm} {key : Int}  (hU : Run L (d + 7) 249 [vR 293, vI key] σ (some (vI 1)) σ2) (hq : Wp L (d + 8) k_M_both 10 [vR 293, vI key] [] σ2 Q) : Wp L (d + 8) k_M_both 0 [vR 293, vI key] [] σ Q := by
  have K293 := gK_293
  simp (disch := first | assumption | exact gb_01 _ | omega) only [r_M_both_0, r_M_both_1, r_M_both_5, r_M_both_8, r_M_both_9, r_M_both_11, r_M_both_16, r_M_both_19, r_M_both_23, r_M_both_24, r_M_both_28, r_M_both_31, r_M_both_32, r_M_both_33, r_M_both_34, r_M_both_35, r_M_both_40, r_M_both_43, r_M_both_44, c_M_both_2 hU, Option.toList, List.singleton_append, List.cons_append, List.nil_append, List.append_nil, w32_gb, w32i, tn_add, tn_mul, Int.toNat_natCast, Int.toNat_zero, Int.reduceLE, Int.reduceLT, Int.reduceEq, Int.reduceNe, gb_T, gb_F, Int.reduceToNat, eq_self, true_or, or_true, and_true, true_and, and_self, ↓ite_gb0, ↓ite_gbn, ↓if_pos, ↓if_neg, if_true, if_false, not_true_eq_false, not_false_eq_true, gb_ne0, gb_eq0]
  exact hq
set_option maxRecDepth 4000 in
theorem rl_in0_1 {σ2 : gMm} {key : Int}  (hU : Run L (d + 7) 249 [vR 293, vI key] σ (some (vI 0)) σ2) (hq : Q (some (vI 0)) σ2) : Wp L (d + 8) k_M_both 0 [vR 293, vI key] [] σ Q := by
  have K293 := gK_293
  simp (disch := first | assumption | exact gb_01 _ | omega) only [r_M_both_0, r_M_both_1, r_M_both_5, r_M_both_8, r_M_both_9, r_M_both_11, r_M_both_16, r_M_both_19, r_M_both_23, r_M_both_24, r_M_both_28, r_M_both_31, r_M_both_32, r_M_both_33, r_M_both_34, r_M_both_35, r_M_both_40, r_M_both_43, r_M_both_44, c_M_both_2 hU, Option.toList, List.singleton_append, List.cons_append, List.nil_append, List.append_nil, w32_gb, w32i, tn_add, tn_mul, Int.toNat_natCast, Int.toNat_zero, Int.reduceLE, Int.reduceLT, Int.reduceEq, Int.reduceNe, gb_T, gb_F, Int.reduceToNat, eq_self, true_or, or_true, and_true, true_and, and_self, ↓ite_gb0, ↓ite_gbn, ↓if_pos, ↓if_neg, if_true, if_false, not_true_eq_false, not_false_eq_true, gb_ne0, gb_eq0]
  exact hq
set_option maxRecDepth 4000 in
theorem rl_exit_1  {key : Int}  (hS0 : Run L (d + 7) 255 [vR 293, vI 38] σ (some (vI 0)) σ) (hq : Q (some (vI 1)) σ) : Wp L (d + 8) k_M_both 10 [vR 293, vI key] [] σ Q := by
  have K293 := gK_293
  rw [r_M_both_10]
  simp (disch := first | assumption | exact gb_01 _ | omega) only [r_M_both_0, r_M_both_1, r_M_both_5, r_M_both_8, r_M_both_9, r_M_both_11, r_M_both_16, r_M_both_19, r_M_both_23, r_M_both_24, r_M_both_28, r_M_both_31, r_M_both_32, r_M_both_33, r_M_both_34, r_M_both_35, r_M_both_40, r_M_both_43, r_M_both_44, c_M_both_13 hS0, Option.toList, List.singleton_append, List.cons_append, List.nil_append, List.append_nil, w32_gb, w32i, tn_add, tn_mul, Int.toNat_natCast, Int.toNat_zero, Int.reduceLE, Int.reduceLT, Int.reduceEq, Int.reduceNe, gb_T, gb_F, Int.reduceToNat, eq_self, true_or, or_true, and_true, true_and, and_self, ↓ite_gb0, ↓ite_gbn, ↓if_pos, ↓if_neg, if_true, if_false, not_true_eq_false, not_false_eq_true, gb_ne0, gb_eq0]
  exact hq
set_option maxRecDepth 4000 in
theorem rl_step_1_0 {σ2 σ3 σ4 : gMm} {key : Int}  (hS0 : Run L (d + 7) 255 [vR 293, vI 38] σ (some (vI 1)) σ) (hN : Run L (d + 7) 241 [vR 293] σ none σ2) (hU : Run L (d + 7) 249 [vR 293, vI key] σ2 (some (vI 1)) σ3) (hL : Run L (d + 7) 253 [vR 293, vI 2, vI 38] σ3 none σ4) (hq : Wp L (d + 8) k_M_both 10 [vR 293, vI key] [] σ4 Q) : Wp L (d + 8) k_M_both 10 [vR 293, vI key] [] σ Q := by
  have K293 := gK_293
  rw [r_M_both_10]
  simp (disch := first | assumption | exact gb_01 _ | omega) only [r_M_both_0, r_M_both_1, r_M_both_5, r_M_both_8, r_M_both_9, r_M_both_11, r_M_both_16, r_M_both_19, r_M_both_23, r_M_both_24, r_M_both_28, r_M_both_31, r_M_both_32, r_M_both_33, r_M_both_34, r_M_both_35, r_M_both_40, r_M_both_43, r_M_both_44, c_M_both_13 hS0, c_M_both_20 hN, c_M_both_25 hU, c_M_both_37 hL, Option.toList, List.singleton_append, List.cons_append, List.nil_append, List.append_nil, w32_gb, w32i, tn_add, tn_mul, Int.toNat_natCast, Int.toNat_zero, Int.reduceLE, Int.reduceLT, Int.reduceEq, Int.reduceNe, gb_T, gb_F, Int.reduceToNat, eq_self, true_or, or_true, and_true, true_and, and_self, ↓ite_gb0, ↓ite_gbn, ↓if_pos, ↓if_neg, if_true, if_false, not_true_eq_false, not_false_eq_true, gb_ne0, gb_eq0]
  exact hq
set_option maxRecDepth 4000 in
theorem rl_step0_1_0 {σ2 σ3 : gMm} {key : Int}  (hS0 : Run L (d + 7) 255 [vR 293, vI 38] σ (some (vI 1)) σ) (hN : Run L (d + 7) 241 [vR 293] σ none σ2) (hU : Run L (d + 7) 249 [vR 293, vI key] σ2 (some (vI 0)) σ3) (hq : Q (some (vI 0)) σ3) : Wp L (d + 8) k_M_both 10 [vR 293, vI key] [] σ Q := by
  have K293 := gK_293
  rw [r_M_both_10]
  simp (disch := first | assumption | exact gb_01 _ | omega) only [r_M_both_0, r_M_both_1, r_M_both_5, r_M_both_8, r_M_both_9, r_M_both_11, r_M_both_16, r_M_both_19, r_M_both_23, r_M_both_24, r_M_both_28, r_M_both_31, r_M_both_32, r_M_both_33, r_M_both_34, r_M_both_35, r_M_both_40, r_M_both_43, r_M_both_44, c_M_both_13 hS0, c_M_both_20 hN, c_M_both_25 hU, Option.toList, List.singleton_append, List.cons_append, List.nil_append, List.append_nil, w32_gb, w32i, tn_add, tn_mul, Int.toNat_natCast, Int.toNat_zero, Int.reduceLE, Int.reduceLT, Int.reduceEq, Int.reduceNe, gb_T, gb_F, Int.reduceToNat, eq_self, true_or, or_true, and_true, true_and, and_self, ↓ite_gb0, ↓ite_gbn, ↓if_pos, ↓if_neg, if_true, if_false, not_true_eq_false, not_false_eq_true, gb_ne0, gb_eq0]
  exact hq
set_option maxRecDepth 4000 in
theorem r_M_test_I_0 : Wp L d k_M_test_I 0 [vR b0, l1, l2] [] σ Q ↔ Wp L d k_M_test_I 1 [vR b0, l1, l2] [vR b0] σ Q := wp_aload rfl rfl
set_option maxRecDepth 4000 in
theorem r_M_test_I_1 : Wp L d k_M_test_I 1 [l0, vI a1, l2] [vR c0] σ Q ↔ Wp L d k_M_test_I 2 [l0, vI a1, l2] [vI a1, vR c0] σ Q := wp_iload rfl rfl
set_option maxRecDepth 4000 in
theorem c_M_test_I_2 (hR : Run L d 250 [vR c0, vI s1] σ r σ1) (h : gK c0 = 12) : Wp L (d + 1) k_M_test_I 2 [l0, l1, l2] [vI s1, vR c0] σ Q ↔ Wp L (d + 1) k_M_test_I 5 [l0, l1, l2] (r.toList ++ []) σ1 Q := wp_callR (as := [vR c0, vI s1]) (rest := []) rfl rfl rfl rfl rfl rfl rfl (grecv_k (by rw [h]) rfl) hR
set_option maxRecDepth 4000 in
theorem r_M_test_I_5 : Wp L d k_M_test_I 5 [l0, l1, l2] [vI s0] σ Q ↔ (if s0 ≠ 0 then Wp L d k_M_test_I 10 [l0, l1, l2] [] σ Q else Wp L d k_M_test_I 8 [l0, l1, l2] [] σ Q) := wp_if_ne rfl
set_option maxRecDepth 4000 in
theorem r_M_test_I_8 : Wp L d k_M_test_I 8 [l0, l1, l2] [] σ Q ↔ Wp L d k_M_test_I 9 [l0, l1, l2] [vI 0] σ Q := wp_push rfl
set_option maxRecDepth 4000 in
theorem r_M_test_I_9 (h : s0 = 0 ∨ s0 = 1) : Wp L d k_M_test_I 9 [l0, l1, l2] [vI s0] σ Q ↔ Q (some (vI s0)) σ := wp_zret rfl h
set_option maxRecDepth 4000 in
theorem r_M_test_I_10 : Wp L d k_M_test_I 10 [vR b0, l1, l2] [] σ Q ↔ Wp L d k_M_test_I 11 [vR b0, l1, l2] [vR b0] σ Q := wp_aload rfl rfl
set_option maxRecDepth 4000 in
theorem r_M_test_I_11 : Wp L d k_M_test_I 11 [l0, l1, l2] [vR c0] σ Q ↔ Wp L d k_M_test_I 13 [l0, l1, l2] [vI 60, vR c0] σ Q := wp_push rfl
set_option maxRecDepth 4000 in
theorem c_M_test_I_13 (hR : Run L d 255 [vR c0, vI s1] σ r σ1) (h : gK c0 = 12) : Wp L (d + 1) k_M_test_I 13 [l0, l1, l2] [vI s1, vR c0] σ Q ↔ Wp L (d + 1) k_M_test_I 16 [l0, l1, l2] (r.toList ++ []) σ1 Q := wp_callR (as := [vR c0, vI s1]) (rest := []) rfl rfl rfl rfl rfl rfl rfl (grecv_k (by rw [h]) rfl) hR
set_option maxRecDepth 4000 in
theorem r_M_test_I_16 : Wp L d k_M_test_I 16 [l0, l1, l2] [vI s0] σ Q ↔ (if s0 ≠ 0 then Wp L d k_M_test_I 37 [l0, l1, l2] [] σ Q else Wp L d k_M_test_I 19 [l0, l1, l2] [] σ Q) := wp_if_ne rfl
set_option maxRecDepth 4000 in
theorem r_M_test_I_19 : Wp L d k_M_test_I 19 [vR b0, l1, l2] [] σ Q ↔ Wp L d k_M_test_I 20 [vR b0, l1, l2] [vR b0] σ Q := wp_aload rfl rfl
set_option maxRecDepth 4000 in
theorem r_M_test_I_20 : Wp L d k_M_test_I 20 [l0, l1, l2] [vR c0] σ Q ↔ Wp L d k_M_test_I 22 [l0, l1, l2] [vI 61, vR c0] σ Q := wp_push rfl
set_option maxRecDepth 4000 in
theorem c_M_test_I_22 (hR : Run L d 255 [vR c0, vI s1] σ r σ1) (h : gK c0 = 12) : Wp L (d + 1) k_M_test_I 22 [l0, l1, l2] [vI s1, vR c0] σ Q ↔ Wp L (d + 1) k_M_test_I 25 [l0, l1, l2] (r.toList ++ []) σ1 Q := wp_callR (as := [vR c0, vI s1]) (rest := []) rfl rfl rfl rfl rfl rfl rfl (grecv_k (by rw [h]) rfl) hR
set_option maxRecDepth 4000 in
theorem r_M_test_I_25 : Wp L d k_M_test_I 25 [l0, l1, l2] [vI s0] σ Q ↔ (if s0 ≠ 0 then Wp L d k_M_test_I 37 [l0, l1, l2] [] σ Q else Wp L d k_M_test_I 28 [l0, l1, l2] [] σ Q) := wp_if_ne rfl
set_option maxRecDepth 4000 in
theorem r_M_test_I_28 : Wp L d k_M_test_I 28 [vR b0, l1, l2] [] σ Q ↔ Wp L d k_M_test_I 29 [vR b0, l1, l2] [vR b0] σ Q := wp_aload rfl rfl
set_option maxRecDepth 4000 in
theorem r_M_test_I_29 : Wp L d k_M_test_I 29 [l0, l1, l2] [vR c0] σ Q ↔ Wp L d k_M_test_I 31 [l0, l1, l2] [vI 62, vR c0] σ Q := wp_push rfl
set_option maxRecDepth 4000 in
theorem c_M_test_I_31 (hR : Run L d 255 [vR c0, vI s1] σ r σ1) (h : gK c0 = 12) : Wp L (d + 1) k_M_test_I 31 [l0, l1, l2] [vI s1, vR c0] σ Q ↔ Wp L (d + 1) k_M_test_I 34 [l0, l1, l2] (r.toList ++ []) σ1 Q := wp_callR (as := [vR c0, vI s1]) (rest := []) rfl rfl rfl rfl rfl rfl rfl (grecv_k (by rw [h]) rfl) hR
set_option maxRecDepth 4000 in
theorem r_M_test_I_34 : Wp L d k_M_test_I 34 [l0, l1, l2] [vI s0] σ Q ↔ (if s0 = 0 then Wp L d k_M_test_I 62 [l0, l1, l2] [] σ Q else Wp L d k_M_test_I 37 [l0, l1, l2] [] σ Q) := wp_if_eq rfl
set_option maxRecDepth 4000 in
theorem r_M_test_I_37 : Wp L d k_M_test_I 37 [vR b0, l1, l2] [] σ Q ↔ Wp L d k_M_test_I 38 [vR b0, l1, l2] [vR b0] σ Q := wp_aload rfl rfl
set_option maxRecDepth 4000 in
theorem r_M_test_I_38 (h : gK c0 = 12) : Wp L d k_M_test_I 38 [l0, l1, l2] [vR c0] σ Q ↔ Wp L d k_M_test_I 41 [l0, l1, l2] [vI (σ c0 14)] σ Q := wp_getI (c := 3086) rfl rfl rfl rfl h
set_option maxRecDepth 4000 in
theorem r_M_test_I_41 : Wp L d k_M_test_I 41 [l0, vI a1, l2] [vI s0] σ Q ↔ Wp L d k_M_test_I 42 [l0, vI a1, vI s0] [] σ Q := wp_istore (i := 2) (ls := [l0, vI a1, l2]) rfl rfl
set_option maxRecDepth 4000 in
theorem r_M_test_I_42 : Wp L d k_M_test_I 42 [vR b0, l1, l2] [] σ Q ↔ Wp L d k_M_test_I 43 [vR b0, l1, l2] [vR b0] σ Q := wp_aload rfl rfl
set_option maxRecDepth 4000 in
theorem c_M_test_I_43 (hR : Run L d 241 [vR c0] σ r σ1) (h : gK c0 = 12) : Wp L (d + 1) k_M_test_I 43 [l0, l1, l2] [vR c0] σ Q ↔ Wp L (d + 1) k_M_test_I 46 [l0, l1, l2] (r.toList ++ []) σ1 Q := wp_callR (as := [vR c0]) (rest := []) rfl rfl rfl rfl rfl rfl rfl (grecv_k (by rw [h]) rfl) hR
set_option maxRecDepth 4000 in
theorem r_M_test_I_46 : Wp L d k_M_test_I 46 [vR b0, l1, l2] [] σ Q ↔ Wp L d k_M_test_I 47 [vR b0, l1, l2] [vR b0] σ Q := wp_aload rfl rfl
set_option maxRecDepth 4000 in
theorem r_M_test_I_47 : Wp L d k_M_test_I 47 [l0, vI a1, l2] [vR c0] σ Q ↔ Wp L d k_M_test_I 48 [l0, vI a1, l2] [vI a1, vR c0] σ Q := wp_iload rfl rfl
set_option maxRecDepth 4000 in
theorem c_M_test_I_48 (hR : Run L d 250 [vR c0, vI s1] σ r σ1) (h : gK c0 = 12) : Wp L (d + 1) k_M_test_I 48 [l0, l1, l2] [vI s1, vR c0] σ Q ↔ Wp L (d + 1) k_M_test_I 51 [l0, l1, l2] (r.toList ++ []) σ1 Q := wp_callR (as := [vR c0, vI s1]) (rest := []) rfl rfl rfl rfl rfl rfl rfl (grecv_k (by rw [h]) rfl) hR
set_option maxRecDepth 4000 in
theorem r_M_test_I_51 : Wp L d k_M_test_I 51 [l0, l1, l2] [vI s0] σ Q ↔ (if s0 ≠ 0 then Wp L d k_M_test_I 56 [l0, l1, l2] [] σ Q else Wp L d k_M_test_I 54 [l0, l1, l2] [] σ Q) := wp_if_ne rfl
set_option maxRecDepth 4000 in
theorem r_M_test_I_54 : Wp L d k_M_test_I 54 [l0, l1, l2] [] σ Q ↔ Wp L d k_M_test_I 55 [l0, l1, l2] [vI 0] σ Q := wp_push rfl
set_option maxRecDepth 4000 in
theorem r_M_test_I_55 (h : s0 = 0 ∨ s0 = 1) : Wp L d k_M_test_I 55 [l0, l1, l2] [vI s0] σ Q ↔ Q (some (vI s0)) σ := wp_zret rfl h
set_option maxRecDepth 4000 in
theorem r_M_test_I_56 : Wp L d k_M_test_I 56 [vR b0, l1, l2] [] σ Q ↔ Wp L d k_M_test_I 57 [vR b0, l1, l2] [vR b0] σ Q := wp_aload rfl rfl
set_option maxRecDepth 4000 in
theorem r_M_test_I_57 : Wp L d k_M_test_I 57 [l0, l1, l2] [vR c0] σ Q ↔ Wp L d k_M_test_I 58 [l0, l1, l2] [vI 2, vR c0] σ Q := wp_push rfl
set_option maxRecDepth 4000 in
theorem r_M_test_I_58 : Wp L d k_M_test_I 58 [l0, l1, vI a2] [vI s1, vR c0] σ Q ↔ Wp L d k_M_test_I 59 [l0, l1, vI a2] [vI a2, vI s1, vR c0] σ Q := wp_iload rfl rfl
set_option maxRecDepth 4000 in
theorem c_M_test_I_59 (hR : Run L d 253 [vR c0, vI s1, vI s2] σ r σ1) (h : gK c0 = 12) : Wp L (d + 1) k_M_test_I 59 [l0, l1, l2] [vI s2, vI s1, vR c0] σ Q ↔ Wp L (d + 1) k_M_test_I 62 [l0, l1, l2] (r.toList ++ []) σ1 Q := wp_callR (as := [vR c0, vI s1, vI s2]) (rest := []) rfl rfl rfl rfl rfl rfl rfl (grecv_k (by rw [h]) rfl) hR
set_option maxRecDepth 4000 in
theorem r_M_test_I_62 : Wp L d k_M_test_I 62 [l0, l1, l2] [] σ Q ↔ Wp L d k_M_test_I 63 [l0, l1, l2] [vI 1] σ Q := wp_push rfl
set_option maxRecDepth 4000 in
theorem r_M_test_I_63 (h : s0 = 0 ∨ s0 = 1) : Wp L d k_M_test_I 63 [l0, l1, l2] [vI s0] σ Q ↔ Q (some (vI s0)) σ := wp_zret rfl h
set_option maxRecDepth 4000 in
theorem rl_in_2 {σ2 : gMm} {key : Int}  (hU : Run L (d + 7) 250 [vR 293, vI key] σ (some (vI 1)) σ2) (hq : Wp L (d + 8) k_M_test_I 10 [vR 293, vI key, vU] [] σ2 Q) : Wp L (d + 8) k_M_test_I 0 [vR 293, vI key, vU] [] σ Q := by
  have K293 := gK_293
  simp (disch := first | assumption | exact gb_01 _ | omega) only [r_M_test_I_0, r_M_test_I_1, r_M_test_I_5, r_M_test_I_8, r_M_test_I_9, r_M_test_I_11, r_M_test_I_16, r_M_test_I_19, r_M_test_I_20, r_M_test_I_25, r_M_test_I_28, r_M_test_I_29, r_M_test_I_34, r_M_test_I_37, r_M_test_I_38, r_M_test_I_41, r_M_test_I_42, r_M_test_I_46, r_M_test_I_47, r_M_test_I_51, r_M_test_I_54, r_M_test_I_55, r_M_test_I_56, r_M_test_I_57, r_M_test_I_58, r_M_test_I_62, r_M_test_I_63, c_M_test_I_2 hU, Option.toList, List.singleton_append, List.cons_append, List.nil_append, List.append_nil, w32_gb, w32i, tn_add, tn_mul, Int.toNat_natCast, Int.toNat_zero, Int.reduceLE, Int.reduceLT, Int.reduceEq, Int.reduceNe, gb_T, gb_F, Int.reduceToNat, eq_self, true_or, or_true, and_true, true_and, and_self, ↓ite_gb0, ↓ite_gbn, ↓if_pos, ↓if_neg, if_true, if_false, not_true_eq_false, not_false_eq_true, gb_ne0, gb_eq0]
  exact hq
set_option maxRecDepth 4000 in
theorem rl_in0_2 {σ2 : gMm} {key : Int}  (hU : Run L (d + 7) 250 [vR 293, vI key] σ (some (vI 0)) σ2) (hq : Q (some (vI 0)) σ2) : Wp L (d + 8) k_M_test_I 0 [vR 293, vI key, vU] [] σ Q := by
  have K293 := gK_293
  simp (disch := first | assumption | exact gb_01 _ | omega) only [r_M_test_I_0, r_M_test_I_1, r_M_test_I_5, r_M_test_I_8, r_M_test_I_9, r_M_test_I_11, r_M_test_I_16, r_M_test_I_19, r_M_test_I_20, r_M_test_I_25, r_M_test_I_28, r_M_test_I_29, r_M_test_I_34, r_M_test_I_37, r_M_test_I_38, r_M_test_I_41, r_M_test_I_42, r_M_test_I_46, r_M_test_I_47, r_M_test_I_51, r_M_test_I_54, r_M_test_I_55, r_M_test_I_56, r_M_test_I_57, r_M_test_I_58, r_M_test_I_62, r_M_test_I_63, c_M_test_I_2 hU, Option.toList, List.singleton_append, List.cons_append, List.nil_append, List.append_nil, w32_gb, w32i, tn_add, tn_mul, Int.toNat_natCast, Int.toNat_zero, Int.reduceLE, Int.reduceLT, Int.reduceEq, Int.reduceNe, gb_T, gb_F, Int.reduceToNat, eq_self, true_or, or_true, and_true, true_and, and_self, ↓ite_gb0, ↓ite_gbn, ↓if_pos, ↓if_neg, if_true, if_false, not_true_eq_false, not_false_eq_true, gb_ne0, gb_eq0]
  exact hq
set_option maxRecDepth 4000 in
theorem rl_exit_2  {key : Int} {x : gV} (hS0 : Run L (d + 7) 255 [vR 293, vI 60] σ (some (vI 0)) σ) (hS1 : Run L (d + 7) 255 [vR 293, vI 61] σ (some (vI 0)) σ) (hS2 : Run L (d + 7) 255 [vR 293, vI 62] σ (some (vI 0)) σ) (hq : Q (some (vI 1)) σ) : Wp L (d + 8) k_M_test_I 10 [vR 293, vI key, x] [] σ Q := by
  have K293 := gK_293
  rw [r_M_test_I_10]
  simp (disch := first | assumption | exact gb_01 _ | omega) only [r_M_test_I_0, r_M_test_I_1, r_M_test_I_5, r_M_test_I_8, r_M_test_I_9, r_M_test_I_11, r_M_test_I_16, r_M_test_I_19, r_M_test_I_20, r_M_test_I_25, r_M_test_I_28, r_M_test_I_29, r_M_test_I_34, r_M_test_I_37, r_M_test_I_38, r_M_test_I_41, r_M_test_I_42, r_M_test_I_46, r_M_test_I_47, r_M_test_I_51, r_M_test_I_54, r_M_test_I_55, r_M_test_I_56, r_M_test_I_57, r_M_test_I_58, r_M_test_I_62, r_M_test_I_63, c_M_test_I_13 hS0, c_M_test_I_22 hS1, c_M_test_I_31 hS2, Option.toList, List.singleton_append, List.cons_append, List.nil_append, List.append_nil, w32_gb, w32i, tn_add, tn_mul, Int.toNat_natCast, Int.toNat_zero, Int.reduceLE, Int.reduceLT, Int.reduceEq, Int.reduceNe, gb_T, gb_F, Int.reduceToNat, eq_self, true_or, or_true, and_true, true_and, and_self, ↓ite_gb0, ↓ite_gbn, ↓if_pos, ↓if_neg, if_true, if_false, not_true_eq_false, not_false_eq_true, gb_ne0, gb_eq0]
  exact hq
set_option maxRecDepth 4000 in
theorem rl_step_2_0 {σ2 σ3 σ4 : gMm} {key : Int} {x : gV} (hS0 : Run L (d + 7) 255 [vR 293, vI 60] σ (some (vI 1)) σ) (hc : σ 293 14 = 60) (hN : Run L (d + 7) 241 [vR 293] σ none σ2) (hU : Run L (d + 7) 250 [vR 293, vI key] σ2 (some (vI 1)) σ3) (hL : Run L (d + 7) 253 [vR 293, vI 2, vI 60] σ3 none σ4) (hq : Q (some (vI 1)) σ4) : Wp L (d + 8) k_M_test_I 10 [vR 293, vI key, x] [] σ Q := by
  have K293 := gK_293
  rw [r_M_test_I_10]
  simp (disch := first | assumption | exact gb_01 _ | omega) only [r_M_test_I_0, r_M_test_I_1, r_M_test_I_5, r_M_test_I_8, r_M_test_I_9, r_M_test_I_11, r_M_test_I_16, r_M_test_I_19, r_M_test_I_20, r_M_test_I_25, r_M_test_I_28, r_M_test_I_29, r_M_test_I_34, r_M_test_I_37, r_M_test_I_38, r_M_test_I_41, r_M_test_I_42, r_M_test_I_46, r_M_test_I_47, r_M_test_I_51, r_M_test_I_54, r_M_test_I_55, r_M_test_I_56, r_M_test_I_57, r_M_test_I_58, r_M_test_I_62, r_M_test_I_63, c_M_test_I_13 hS0, c_M_test_I_43 hN, c_M_test_I_48 hU, c_M_test_I_59 hL, Option.toList, List.singleton_append, List.cons_append, List.nil_append, List.append_nil, hc, w32_gb, w32i, tn_add, tn_mul, Int.toNat_natCast, Int.toNat_zero, Int.reduceLE, Int.reduceLT, Int.reduceEq, Int.reduceNe, gb_T, gb_F, Int.reduceToNat, eq_self, true_or, or_true, and_true, true_and, and_self, ↓ite_gb0, ↓ite_gbn, ↓if_pos, ↓if_neg, if_true, if_false, not_true_eq_false, not_false_eq_true, gb_ne0, gb_eq0]
  exact hq
set_option maxRecDepth 4000 in
theorem rl_step0_2_0 {σ2 σ3 : gMm} {key : Int} {x : gV} (hS0 : Run L (d + 7) 255 [vR 293, vI 60] σ (some (vI 1)) σ) (hc : σ 293 14 = 60) (hN : Run L (d + 7) 241 [vR 293] σ none σ2) (hU : Run L (d + 7) 250 [vR 293, vI key] σ2 (some (vI 0)) σ3) (hq : Q (some (vI 0)) σ3) : Wp L (d + 8) k_M_test_I 10 [vR 293, vI key, x] [] σ Q := by
  have K293 := gK_293
  rw [r_M_test_I_10]
  simp (disch := first | assumption | exact gb_01 _ | omega) only [r_M_test_I_0, r_M_test_I_1, r_M_test_I_5, r_M_test_I_8, r_M_test_I_9, r_M_test_I_11, r_M_test_I_16, r_M_test_I_19, r_M_test_I_20, r_M_test_I_25, r_M_test_I_28, r_M_test_I_29, r_M_test_I_34, r_M_test_I_37, r_M_test_I_38, r_M_test_I_41, r_M_test_I_42, r_M_test_I_46, r_M_test_I_47, r_M_test_I_51, r_M_test_I_54, r_M_test_I_55, r_M_test_I_56, r_M_test_I_57, r_M_test_I_58, r_M_test_I_62, r_M_test_I_63, c_M_test_I_13 hS0, c_M_test_I_43 hN, c_M_test_I_48 hU, Option.toList, List.singleton_append, List.cons_append, List.nil_append, List.append_nil, hc, w32_gb, w32i, tn_add, tn_mul, Int.toNat_natCast, Int.toNat_zero, Int.reduceLE, Int.reduceLT, Int.reduceEq, Int.reduceNe, gb_T, gb_F, Int.reduceToNat, eq_self, true_or, or_true, and_true, true_and, and_self, ↓ite_gb0, ↓ite_gbn, ↓if_pos, ↓if_neg, if_true, if_false, not_true_eq_false, not_false_eq_true, gb_ne0, gb_eq0]
  exact hq
set_option maxRecDepth 4000 in
theorem rl_step_2_1 {σ2 σ3 σ4 : gMm} {key : Int} {x : gV} (hS0 : Run L (d + 7) 255 [vR 293, vI 60] σ (some (vI 0)) σ) (hS1 : Run L (d + 7) 255 [vR 293, vI 61] σ (some (vI 1)) σ) (hc : σ 293 14 = 61) (hN : Run L (d + 7) 241 [vR 293] σ none σ2) (hU : Run L (d + 7) 250 [vR 293, vI key] σ2 (some (vI 1)) σ3) (hL : Run L (d + 7) 253 [vR 293, vI 2, vI 61] σ3 none σ4) (hq : Q (some (vI 1)) σ4) : Wp L (d + 8) k_M_test_I 10 [vR 293, vI key, x] [] σ Q := by
  have K293 := gK_293
  rw [r_M_test_I_10]
  simp (disch := first | assumption | exact gb_01 _ | omega) only [r_M_test_I_0, r_M_test_I_1, r_M_test_I_5, r_M_test_I_8, r_M_test_I_9, r_M_test_I_11, r_M_test_I_16, r_M_test_I_19, r_M_test_I_20, r_M_test_I_25, r_M_test_I_28, r_M_test_I_29, r_M_test_I_34, r_M_test_I_37, r_M_test_I_38, r_M_test_I_41, r_M_test_I_42, r_M_test_I_46, r_M_test_I_47, r_M_test_I_51, r_M_test_I_54, r_M_test_I_55, r_M_test_I_56, r_M_test_I_57, r_M_test_I_58, r_M_test_I_62, r_M_test_I_63, c_M_test_I_13 hS0, c_M_test_I_22 hS1, c_M_test_I_43 hN, c_M_test_I_48 hU, c_M_test_I_59 hL, Option.toList, List.singleton_append, List.cons_append, List.nil_append, List.append_nil, hc, w32_gb, w32i, tn_add, tn_mul, Int.toNat_natCast, Int.toNat_zero, Int.reduceLE, Int.reduceLT, Int.reduceEq, Int.reduceNe, gb_T, gb_F, Int.reduceToNat, eq_self, true_or, or_true, and_true, true_and, and_self, ↓ite_gb0, ↓ite_gbn, ↓if_pos, ↓if_neg, if_true, if_false, not_true_eq_false, not_false_eq_true, gb_ne0, gb_eq0]
  exact hq
set_option maxRecDepth 4000 in
theorem rl_step0_2_1 {σ2 σ3 : gMm} {key : Int} {x : gV} (hS0 : Run L (d + 7) 255 [vR 293, vI 60] σ (some (vI 0)) σ) (hS1 : Run L (d + 7) 255 [vR 293, vI 61] σ (some (vI 1)) σ) (hc : σ 293 14 = 61) (hN : Run L (d + 7) 241 [vR 293] σ none σ2) (hU : Run L (d + 7) 250 [vR 293, vI key] σ2 (some (vI 0)) σ3) (hq : Q (some (vI 0)) σ3) : Wp L (d + 8) k_M_test_I 10 [vR 293, vI key, x] [] σ Q := by
  have K293 := gK_293
  rw [r_M_test_I_10]
  simp (disch := first | assumption | exact gb_01 _ | omega) only [r_M_test_I_0, r_M_test_I_1, r_M_test_I_5, r_M_test_I_8, r_M_test_I_9, r_M_test_I_11, r_M_test_I_16, r_M_test_I_19, r_M_test_I_20, r_M_test_I_25, r_M_test_I_28, r_M_test_I_29, r_M_test_I_34, r_M_test_I_37, r_M_test_I_38, r_M_test_I_41, r_M_test_I_42, r_M_test_I_46, r_M_test_I_47, r_M_test_I_51, r_M_test_I_54, r_M_test_I_55, r_M_test_I_56, r_M_test_I_57, r_M_test_I_58, r_M_test_I_62, r_M_test_I_63, c_M_test_I_13 hS0, c_M_test_I_22 hS1, c_M_test_I_43 hN, c_M_test_I_48 hU, Option.toList, List.singleton_append, List.cons_append, List.nil_append, List.append_nil, hc, w32_gb, w32i, tn_add, tn_mul, Int.toNat_natCast, Int.toNat_zero, Int.reduceLE, Int.reduceLT, Int.reduceEq, Int.reduceNe, gb_T, gb_F, Int.reduceToNat, eq_self, true_or, or_true, and_true, true_and, and_self, ↓ite_gb0, ↓ite_gbn, ↓if_pos, ↓if_neg, if_true, if_false, not_true_eq_false, not_false_eq_true, gb_ne0, gb_eq0]
  exact hq
set_option maxRecDepth 4000 in
theorem rl_step_2_2 {σ2 σ3 σ4 : gMm} {key : Int} {x : gV} (hS0 : Run L (d + 7) 255 [vR 293, vI 60] σ (some (vI 0)) σ) (hS1 : Run L (d + 7) 255 [vR 293, vI 61] σ (some (vI 0)) σ) (hS2 : Run L (d + 7) 255 [vR 293, vI 62] σ (some (vI 1)) σ) (hc : σ 293 14 = 62) (hN : Run L (d + 7) 241 [vR 293] σ none σ2) (hU : Run L (d + 7) 250 [vR 293, vI key] σ2 (some (vI 1)) σ3) (hL : Run L (d + 7) 253 [vR 293, vI 2, vI 62] σ3 none σ4) (hq : Q (some (vI 1)) σ4) : Wp L (d + 8) k_M_test_I 10 [vR 293, vI key, x] [] σ Q := by
  have K293 := gK_293
  rw [r_M_test_I_10]
  simp (disch := first | assumption | exact gb_01 _ | omega) only [r_M_test_I_0, r_M_test_I_1, r_M_test_I_5, r_M_test_I_8, r_M_test_I_9, r_M_test_I_11, r_M_test_I_16, r_M_test_I_19, r_M_test_I_20, r_M_test_I_25, r_M_test_I_28, r_M_test_I_29, r_M_test_I_34, r_M_test_I_37, r_M_test_I_38, r_M_test_I_41, r_M_test_I_42, r_M_test_I_46, r_M_test_I_47, r_M_test_I_51, r_M_test_I_54, r_M_test_I_55, r_M_test_I_56, r_M_test_I_57, r_M_test_I_58, r_M_test_I_62, r_M_test_I_63, c_M_test_I_13 hS0, c_M_test_I_22 hS1, c_M_test_I_31 hS2, c_M_test_I_43 hN, c_M_test_I_48 hU, c_M_test_I_59 hL, Option.toList, List.singleton_append, List.cons_append, List.nil_append, List.append_nil, hc, w32_gb, w32i, tn_add, tn_mul, Int.toNat_natCast, Int.toNat_zero, Int.reduceLE, Int.reduceLT, Int.reduceEq, Int.reduceNe, gb_T, gb_F, Int.reduceToNat, eq_self, true_or, or_true, and_true, true_and, and_self, ↓ite_gb0, ↓ite_gbn, ↓if_pos, ↓if_neg, if_true, if_false, not_true_eq_false, not_false_eq_true, gb_ne0, gb_eq0]
  exact hq
set_option maxRecDepth 4000 in
theorem rl_step0_2_2 {σ2 σ3 : gMm} {key : Int} {x : gV} (hS0 : Run L (d + 7) 255 [vR 293, vI 60] σ (some (vI 0)) σ) (hS1 : Run L (d + 7) 255 [vR 293, vI 61] σ (some (vI 0)) σ) (hS2 : Run L (d + 7) 255 [vR 293, vI 62] σ (some (vI 1)) σ) (hc : σ 293 14 = 62) (hN : Run L (d + 7) 241 [vR 293] σ none σ2) (hU : Run L (d + 7) 250 [vR 293, vI key] σ2 (some (vI 0)) σ3) (hq : Q (some (vI 0)) σ3) : Wp L (d + 8) k_M_test_I 10 [vR 293, vI key, x] [] σ Q := by
  have K293 := gK_293
  rw [r_M_test_I_10]
  simp (disch := first | assumption | exact gb_01 _ | omega) only [r_M_test_I_0, r_M_test_I_1, r_M_test_I_5, r_M_test_I_8, r_M_test_I_9, r_M_test_I_11, r_M_test_I_16, r_M_test_I_19, r_M_test_I_20, r_M_test_I_25, r_M_test_I_28, r_M_test_I_29, r_M_test_I_34, r_M_test_I_37, r_M_test_I_38, r_M_test_I_41, r_M_test_I_42, r_M_test_I_46, r_M_test_I_47, r_M_test_I_51, r_M_test_I_54, r_M_test_I_55, r_M_test_I_56, r_M_test_I_57, r_M_test_I_58, r_M_test_I_62, r_M_test_I_63, c_M_test_I_13 hS0, c_M_test_I_22 hS1, c_M_test_I_31 hS2, c_M_test_I_43 hN, c_M_test_I_48 hU, Option.toList, List.singleton_append, List.cons_append, List.nil_append, List.append_nil, hc, w32_gb, w32i, tn_add, tn_mul, Int.toNat_natCast, Int.toNat_zero, Int.reduceLE, Int.reduceLT, Int.reduceEq, Int.reduceNe, gb_T, gb_F, Int.reduceToNat, eq_self, true_or, or_true, and_true, true_and, and_self, ↓ite_gb0, ↓ite_gbn, ↓if_pos, ↓if_neg, if_true, if_false, not_true_eq_false, not_false_eq_true, gb_ne0, gb_eq0]
  exact hq
set_option maxRecDepth 4000 in
theorem r_M_sum_0 : Wp L d k_M_sum 0 [vR b0, l1, l2] [] σ Q ↔ Wp L d k_M_sum 1 [vR b0, l1, l2] [vR b0] σ Q := wp_aload rfl rfl
set_option maxRecDepth 4000 in
theorem r_M_sum_1 : Wp L d k_M_sum 1 [l0, vI a1, l2] [vR c0] σ Q ↔ Wp L d k_M_sum 2 [l0, vI a1, l2] [vI a1, vR c0] σ Q := wp_iload rfl rfl
set_option maxRecDepth 4000 in
theorem c_M_sum_2 (hR : Run L d 251 [vR c0, vI s1] σ r σ1) (h : gK c0 = 12) : Wp L (d + 1) k_M_sum 2 [l0, l1, l2] [vI s1, vR c0] σ Q ↔ Wp L (d + 1) k_M_sum 5 [l0, l1, l2] (r.toList ++ []) σ1 Q := wp_callR (as := [vR c0, vI s1]) (rest := []) rfl rfl rfl rfl rfl rfl rfl (grecv_k (by rw [h]) rfl) hR
set_option maxRecDepth 4000 in
theorem r_M_sum_5 : Wp L d k_M_sum 5 [l0, l1, l2] [vI s0] σ Q ↔ (if s0 ≠ 0 then Wp L d k_M_sum 10 [l0, l1, l2] [] σ Q else Wp L d k_M_sum 8 [l0, l1, l2] [] σ Q) := wp_if_ne rfl
set_option maxRecDepth 4000 in
theorem r_M_sum_8 : Wp L d k_M_sum 8 [l0, l1, l2] [] σ Q ↔ Wp L d k_M_sum 9 [l0, l1, l2] [vI 0] σ Q := wp_push rfl
set_option maxRecDepth 4000 in
theorem r_M_sum_9 (h : s0 = 0 ∨ s0 = 1) : Wp L d k_M_sum 9 [l0, l1, l2] [vI s0] σ Q ↔ Q (some (vI s0)) σ := wp_zret rfl h
set_option maxRecDepth 4000 in
theorem r_M_sum_10 : Wp L d k_M_sum 10 [vR b0, l1, l2] [] σ Q ↔ Wp L d k_M_sum 11 [vR b0, l1, l2] [vR b0] σ Q := wp_aload rfl rfl
set_option maxRecDepth 4000 in
theorem r_M_sum_11 : Wp L d k_M_sum 11 [l0, l1, l2] [vR c0] σ Q ↔ Wp L d k_M_sum 13 [l0, l1, l2] [vI 43, vR c0] σ Q := wp_push rfl
set_option maxRecDepth 4000 in
theorem c_M_sum_13 (hR : Run L d 255 [vR c0, vI s1] σ r σ1) (h : gK c0 = 12) : Wp L (d + 1) k_M_sum 13 [l0, l1, l2] [vI s1, vR c0] σ Q ↔ Wp L (d + 1) k_M_sum 16 [l0, l1, l2] (r.toList ++ []) σ1 Q := wp_callR (as := [vR c0, vI s1]) (rest := []) rfl rfl rfl rfl rfl rfl rfl (grecv_k (by rw [h]) rfl) hR
set_option maxRecDepth 4000 in
theorem r_M_sum_16 : Wp L d k_M_sum 16 [l0, l1, l2] [vI s0] σ Q ↔ (if s0 ≠ 0 then Wp L d k_M_sum 28 [l0, l1, l2] [] σ Q else Wp L d k_M_sum 19 [l0, l1, l2] [] σ Q) := wp_if_ne rfl
set_option maxRecDepth 4000 in
theorem r_M_sum_19 : Wp L d k_M_sum 19 [vR b0, l1, l2] [] σ Q ↔ Wp L d k_M_sum 20 [vR b0, l1, l2] [vR b0] σ Q := wp_aload rfl rfl
set_option maxRecDepth 4000 in
theorem r_M_sum_20 : Wp L d k_M_sum 20 [l0, l1, l2] [vR c0] σ Q ↔ Wp L d k_M_sum 22 [l0, l1, l2] [vI 45, vR c0] σ Q := wp_push rfl
set_option maxRecDepth 4000 in
theorem c_M_sum_22 (hR : Run L d 255 [vR c0, vI s1] σ r σ1) (h : gK c0 = 12) : Wp L (d + 1) k_M_sum 22 [l0, l1, l2] [vI s1, vR c0] σ Q ↔ Wp L (d + 1) k_M_sum 25 [l0, l1, l2] (r.toList ++ []) σ1 Q := wp_callR (as := [vR c0, vI s1]) (rest := []) rfl rfl rfl rfl rfl rfl rfl (grecv_k (by rw [h]) rfl) hR
set_option maxRecDepth 4000 in
theorem r_M_sum_25 : Wp L d k_M_sum 25 [l0, l1, l2] [vI s0] σ Q ↔ (if s0 = 0 then Wp L d k_M_sum 56 [l0, l1, l2] [] σ Q else Wp L d k_M_sum 28 [l0, l1, l2] [] σ Q) := wp_if_eq rfl
set_option maxRecDepth 4000 in
theorem r_M_sum_28 : Wp L d k_M_sum 28 [vR b0, l1, l2] [] σ Q ↔ Wp L d k_M_sum 29 [vR b0, l1, l2] [vR b0] σ Q := wp_aload rfl rfl
set_option maxRecDepth 4000 in
theorem r_M_sum_29 (h : gK c0 = 12) : Wp L d k_M_sum 29 [l0, l1, l2] [vR c0] σ Q ↔ Wp L d k_M_sum 32 [l0, l1, l2] [vI (σ c0 14)] σ Q := wp_getI (c := 3086) rfl rfl rfl rfl h
set_option maxRecDepth 4000 in
theorem r_M_sum_32 : Wp L d k_M_sum 32 [l0, vI a1, l2] [vI s0] σ Q ↔ Wp L d k_M_sum 33 [l0, vI a1, vI s0] [] σ Q := wp_istore (i := 2) (ls := [l0, vI a1, l2]) rfl rfl
set_option maxRecDepth 4000 in
theorem r_M_sum_33 : Wp L d k_M_sum 33 [vR b0, l1, l2] [] σ Q ↔ Wp L d k_M_sum 34 [vR b0, l1, l2] [vR b0] σ Q := wp_aload rfl rfl
set_option maxRecDepth 4000 in
theorem c_M_sum_34 (hR : Run L d 241 [vR c0] σ r σ1) (h : gK c0 = 12) : Wp L (d + 1) k_M_sum 34 [l0, l1, l2] [vR c0] σ Q ↔ Wp L (d + 1) k_M_sum 37 [l0, l1, l2] (r.toList ++ []) σ1 Q := wp_callR (as := [vR c0]) (rest := []) rfl rfl rfl rfl rfl rfl rfl (grecv_k (by rw [h]) rfl) hR
set_option maxRecDepth 4000 in
theorem r_M_sum_37 : Wp L d k_M_sum 37 [vR b0, l1, l2] [] σ Q ↔ Wp L d k_M_sum 38 [vR b0, l1, l2] [vR b0] σ Q := wp_aload rfl rfl
set_option maxRecDepth 4000 in
theorem r_M_sum_38 : Wp L d k_M_sum 38 [l0, vI a1, l2] [vR c0] σ Q ↔ Wp L d k_M_sum 39 [l0, vI a1, l2] [vI a1, vR c0] σ Q := wp_iload rfl rfl
set_option maxRecDepth 4000 in
theorem c_M_sum_39 (hR : Run L d 251 [vR c0, vI s1] σ r σ1) (h : gK c0 = 12) : Wp L (d + 1) k_M_sum 39 [l0, l1, l2] [vI s1, vR c0] σ Q ↔ Wp L (d + 1) k_M_sum 42 [l0, l1, l2] (r.toList ++ []) σ1 Q := wp_callR (as := [vR c0, vI s1]) (rest := []) rfl rfl rfl rfl rfl rfl rfl (grecv_k (by rw [h]) rfl) hR
set_option maxRecDepth 4000 in
theorem r_M_sum_42 : Wp L d k_M_sum 42 [l0, l1, l2] [vI s0] σ Q ↔ (if s0 ≠ 0 then Wp L d k_M_sum 47 [l0, l1, l2] [] σ Q else Wp L d k_M_sum 45 [l0, l1, l2] [] σ Q) := wp_if_ne rfl
set_option maxRecDepth 4000 in
theorem r_M_sum_45 : Wp L d k_M_sum 45 [l0, l1, l2] [] σ Q ↔ Wp L d k_M_sum 46 [l0, l1, l2] [vI 0] σ Q := wp_push rfl
set_option maxRecDepth 4000 in
theorem r_M_sum_46 (h : s0 = 0 ∨ s0 = 1) : Wp L d k_M_sum 46 [l0, l1, l2] [vI s0] σ Q ↔ Q (some (vI s0)) σ := wp_zret rfl h
set_option maxRecDepth 4000 in
theorem r_M_sum_47 : Wp L d k_M_sum 47 [vR b0, l1, l2] [] σ Q ↔ Wp L d k_M_sum 48 [vR b0, l1, l2] [vR b0] σ Q := wp_aload rfl rfl
set_option maxRecDepth 4000 in
theorem r_M_sum_48 : Wp L d k_M_sum 48 [l0, l1, l2] [vR c0] σ Q ↔ Wp L d k_M_sum 49 [l0, l1, l2] [vI 2, vR c0] σ Q := wp_push rfl
set_option maxRecDepth 4000 in
theorem r_M_sum_49 : Wp L d k_M_sum 49 [l0, l1, vI a2] [vI s1, vR c0] σ Q ↔ Wp L d k_M_sum 50 [l0, l1, vI a2] [vI a2, vI s1, vR c0] σ Q := wp_iload rfl rfl
set_option maxRecDepth 4000 in
theorem c_M_sum_50 (hR : Run L d 253 [vR c0, vI s1, vI s2] σ r σ1) (h : gK c0 = 12) : Wp L (d + 1) k_M_sum 50 [l0, l1, l2] [vI s2, vI s1, vR c0] σ Q ↔ Wp L (d + 1) k_M_sum 53 [l0, l1, l2] (r.toList ++ []) σ1 Q := wp_callR (as := [vR c0, vI s1, vI s2]) (rest := []) rfl rfl rfl rfl rfl rfl rfl (grecv_k (by rw [h]) rfl) hR
set_option maxRecDepth 4000 in
theorem r_M_sum_53 : Wp L d k_M_sum 53 [l0, l1, l2] [] σ Q ↔ Wp L d k_M_sum 10 [l0, l1, l2] [] σ Q := wp_goto rfl
set_option maxRecDepth 4000 in
theorem r_M_sum_56 : Wp L d k_M_sum 56 [l0, l1, l2] [] σ Q ↔ Wp L d k_M_sum 57 [l0, l1, l2] [vI 1] σ Q := wp_push rfl
set_option maxRecDepth 4000 in
theorem r_M_sum_57 (h : s0 = 0 ∨ s0 = 1) : Wp L d k_M_sum 57 [l0, l1, l2] [vI s0] σ Q ↔ Q (some (vI s0)) σ := wp_zret rfl h
set_option maxRecDepth 4000 in
theorem rl_in_3 {σ2 : gMm} {key : Int}  (hU : Run L (d + 7) 251 [vR 293, vI key] σ (some (vI 1)) σ2) (hq : Wp L (d + 8) k_M_sum 10 [vR 293, vI key, vU] [] σ2 Q) : Wp L (d + 8) k_M_sum 0 [vR 293, vI key, vU] [] σ Q := by
  have K293 := gK_293
  simp (disch := first | assumption | exact gb_01 _ | omega) only [r_M_sum_0, r_M_sum_1, r_M_sum_5, r_M_sum_8, r_M_sum_9, r_M_sum_11, r_M_sum_16, r_M_sum_19, r_M_sum_20, r_M_sum_25, r_M_sum_28, r_M_sum_29, r_M_sum_32, r_M_sum_33, r_M_sum_37, r_M_sum_38, r_M_sum_42, r_M_sum_45, r_M_sum_46, r_M_sum_47, r_M_sum_48, r_M_sum_49, r_M_sum_53, r_M_sum_56, r_M_sum_57, c_M_sum_2 hU, Option.toList, List.singleton_append, List.cons_append, List.nil_append, List.append_nil, w32_gb, w32i, tn_add, tn_mul, Int.toNat_natCast, Int.toNat_zero, Int.reduceLE, Int.reduceLT, Int.reduceEq, Int.reduceNe, gb_T, gb_F, Int.reduceToNat, eq_self, true_or, or_true, and_true, true_and, and_self, ↓ite_gb0, ↓ite_gbn, ↓if_pos, ↓if_neg, if_true, if_false, not_true_eq_false, not_false_eq_true, gb_ne0, gb_eq0]
  exact hq
set_option maxRecDepth 4000 in
theorem rl_in0_3 {σ2 : gMm} {key : Int}  (hU : Run L (d + 7) 251 [vR 293, vI key] σ (some (vI 0)) σ2) (hq : Q (some (vI 0)) σ2) : Wp L (d + 8) k_M_sum 0 [vR 293, vI key, vU] [] σ Q := by
  have K293 := gK_293
  simp (disch := first | assumption | exact gb_01 _ | omega) only [r_M_sum_0, r_M_sum_1, r_M_sum_5, r_M_sum_8, r_M_sum_9, r_M_sum_11, r_M_sum_16, r_M_sum_19, r_M_sum_20, r_M_sum_25, r_M_sum_28, r_M_sum_29, r_M_sum_32, r_M_sum_33, r_M_sum_37, r_M_sum_38, r_M_sum_42, r_M_sum_45, r_M_sum_46, r_M_sum_47, r_M_sum_48, r_M_sum_49, r_M_sum_53, r_M_sum_56, r_M_sum_57, c_M_sum_2 hU, Option.toList, List.singleton_append, List.cons_append, List.nil_append, List.append_nil, w32_gb, w32i, tn_add, tn_mul, Int.toNat_natCast, Int.toNat_zero, Int.reduceLE, Int.reduceLT, Int.reduceEq, Int.reduceNe, gb_T, gb_F, Int.reduceToNat, eq_self, true_or, or_true, and_true, true_and, and_self, ↓ite_gb0, ↓ite_gbn, ↓if_pos, ↓if_neg, if_true, if_false, not_true_eq_false, not_false_eq_true, gb_ne0, gb_eq0]
  exact hq
set_option maxRecDepth 4000 in
theorem rl_exit_3  {key : Int} {x : gV} (hS0 : Run L (d + 7) 255 [vR 293, vI 43] σ (some (vI 0)) σ) (hS1 : Run L (d + 7) 255 [vR 293, vI 45] σ (some (vI 0)) σ) (hq : Q (some (vI 1)) σ) : Wp L (d + 8) k_M_sum 10 [vR 293, vI key, x] [] σ Q := by
  have K293 := gK_293
  rw [r_M_sum_10]
  simp (disch := first | assumption | exact gb_01 _ | omega) only [r_M_sum_0, r_M_sum_1, r_M_sum_5, r_M_sum_8, r_M_sum_9, r_M_sum_11, r_M_sum_16, r_M_sum_19, r_M_sum_20, r_M_sum_25, r_M_sum_28, r_M_sum_29, r_M_sum_32, r_M_sum_33, r_M_sum_37, r_M_sum_38, r_M_sum_42, r_M_sum_45, r_M_sum_46, r_M_sum_47, r_M_sum_48, r_M_sum_49, r_M_sum_53, r_M_sum_56, r_M_sum_57, c_M_sum_13 hS0, c_M_sum_22 hS1, Option.toList, List.singleton_append, List.cons_append, List.nil_append, List.append_nil, w32_gb, w32i, tn_add, tn_mul, Int.toNat_natCast, Int.toNat_zero, Int.reduceLE, Int.reduceLT, Int.reduceEq, Int.reduceNe, gb_T, gb_F, Int.reduceToNat, eq_self, true_or, or_true, and_true, true_and, and_self, ↓ite_gb0, ↓ite_gbn, ↓if_pos, ↓if_neg, if_true, if_false, not_true_eq_false, not_false_eq_true, gb_ne0, gb_eq0]
  exact hq
set_option maxRecDepth 4000 in
theorem rl_step_3_0 {σ2 σ3 σ4 : gMm} {key : Int} {x : gV} (hS0 : Run L (d + 7) 255 [vR 293, vI 43] σ (some (vI 1)) σ) (hc : σ 293 14 = 43) (hN : Run L (d + 7) 241 [vR 293] σ none σ2) (hU : Run L (d + 7) 251 [vR 293, vI key] σ2 (some (vI 1)) σ3) (hL : Run L (d + 7) 253 [vR 293, vI 2, vI 43] σ3 none σ4) (hq : Wp L (d + 8) k_M_sum 10 [vR 293, vI key, vI 43] [] σ4 Q) : Wp L (d + 8) k_M_sum 10 [vR 293, vI key, x] [] σ Q := by
  have K293 := gK_293
  rw [r_M_sum_10]
  simp (disch := first | assumption | exact gb_01 _ | omega) only [r_M_sum_0, r_M_sum_1, r_M_sum_5, r_M_sum_8, r_M_sum_9, r_M_sum_11, r_M_sum_16, r_M_sum_19, r_M_sum_20, r_M_sum_25, r_M_sum_28, r_M_sum_29, r_M_sum_32, r_M_sum_33, r_M_sum_37, r_M_sum_38, r_M_sum_42, r_M_sum_45, r_M_sum_46, r_M_sum_47, r_M_sum_48, r_M_sum_49, r_M_sum_53, r_M_sum_56, r_M_sum_57, c_M_sum_13 hS0, c_M_sum_34 hN, c_M_sum_39 hU, c_M_sum_50 hL, Option.toList, List.singleton_append, List.cons_append, List.nil_append, List.append_nil, hc, w32_gb, w32i, tn_add, tn_mul, Int.toNat_natCast, Int.toNat_zero, Int.reduceLE, Int.reduceLT, Int.reduceEq, Int.reduceNe, gb_T, gb_F, Int.reduceToNat, eq_self, true_or, or_true, and_true, true_and, and_self, ↓ite_gb0, ↓ite_gbn, ↓if_pos, ↓if_neg, if_true, if_false, not_true_eq_false, not_false_eq_true, gb_ne0, gb_eq0]
  exact hq
set_option maxRecDepth 4000 in
theorem rl_step0_3_0 {σ2 σ3 : gMm} {key : Int} {x : gV} (hS0 : Run L (d + 7) 255 [vR 293, vI 43] σ (some (vI 1)) σ) (hc : σ 293 14 = 43) (hN : Run L (d + 7) 241 [vR 293] σ none σ2) (hU : Run L (d + 7) 251 [vR 293, vI key] σ2 (some (vI 0)) σ3) (hq : Q (some (vI 0)) σ3) : Wp L (d + 8) k_M_sum 10 [vR 293, vI key, x] [] σ Q := by
  have K293 := gK_293
  rw [r_M_sum_10]
  simp (disch := first | assumption | exact gb_01 _ | omega) only [r_M_sum_0, r_M_sum_1, r_M_sum_5, r_M_sum_8, r_M_sum_9, r_M_sum_11, r_M_sum_16, r_M_sum_19, r_M_sum_20, r_M_sum_25, r_M_sum_28, r_M_sum_29, r_M_sum_32, r_M_sum_33, r_M_sum_37, r_M_sum_38, r_M_sum_42, r_M_sum_45, r_M_sum_46, r_M_sum_47, r_M_sum_48, r_M_sum_49, r_M_sum_53, r_M_sum_56, r_M_sum_57, c_M_sum_13 hS0, c_M_sum_34 hN, c_M_sum_39 hU, Option.toList, List.singleton_append, List.cons_append, List.nil_append, List.append_nil, hc, w32_gb, w32i, tn_add, tn_mul, Int.toNat_natCast, Int.toNat_zero, Int.reduceLE, Int.reduceLT, Int.reduceEq, Int.reduceNe, gb_T, gb_F, Int.reduceToNat, eq_self, true_or, or_true, and_true, true_and, and_self, ↓ite_gb0, ↓ite_gbn, ↓if_pos, ↓if_neg, if_true, if_false, not_true_eq_false, not_false_eq_true, gb_ne0, gb_eq0]
  exact hq
set_option maxRecDepth 4000 in
theorem rl_step_3_1 {σ2 σ3 σ4 : gMm} {key : Int} {x : gV} (hS0 : Run L (d + 7) 255 [vR 293, vI 43] σ (some (vI 0)) σ) (hS1 : Run L (d + 7) 255 [vR 293, vI 45] σ (some (vI 1)) σ) (hc : σ 293 14 = 45) (hN : Run L (d + 7) 241 [vR 293] σ none σ2) (hU : Run L (d + 7) 251 [vR 293, vI key] σ2 (some (vI 1)) σ3) (hL : Run L (d + 7) 253 [vR 293, vI 2, vI 45] σ3 none σ4) (hq : Wp L (d + 8) k_M_sum 10 [vR 293, vI key, vI 45] [] σ4 Q) : Wp L (d + 8) k_M_sum 10 [vR 293, vI key, x] [] σ Q := by
  have K293 := gK_293
  rw [r_M_sum_10]
  simp (disch := first | assumption | exact gb_01 _ | omega) only [r_M_sum_0, r_M_sum_1, r_M_sum_5, r_M_sum_8, r_M_sum_9, r_M_sum_11, r_M_sum_16, r_M_sum_19, r_M_sum_20, r_M_sum_25, r_M_sum_28, r_M_sum_29, r_M_sum_32, r_M_sum_33, r_M_sum_37, r_M_sum_38, r_M_sum_42, r_M_sum_45, r_M_sum_46, r_M_sum_47, r_M_sum_48, r_M_sum_49, r_M_sum_53, r_M_sum_56, r_M_sum_57, c_M_sum_13 hS0, c_M_sum_22 hS1, c_M_sum_34 hN, c_M_sum_39 hU, c_M_sum_50 hL, Option.toList, List.singleton_append, List.cons_append, List.nil_append, List.append_nil, hc, w32_gb, w32i, tn_add, tn_mul, Int.toNat_natCast, Int.toNat_zero, Int.reduceLE, Int.reduceLT, Int.reduceEq, Int.reduceNe, gb_T, gb_F, Int.reduceToNat, eq_self, true_or, or_true, and_true, true_and, and_self, ↓ite_gb0, ↓ite_gbn, ↓if_pos, ↓if_neg, if_true, if_false, not_true_eq_false, not_false_eq_true, gb_ne0, gb_eq0]
  exact hq
set_option maxRecDepth 4000 in
theorem rl_step0_3_1 {σ2 σ3 : gMm} {key : Int} {x : gV} (hS0 : Run L (d + 7) 255 [vR 293, vI 43] σ (some (vI 0)) σ) (hS1 : Run L (d + 7) 255 [vR 293, vI 45] σ (some (vI 1)) σ) (hc : σ 293 14 = 45) (hN : Run L (d + 7) 241 [vR 293] σ none σ2) (hU : Run L (d + 7) 251 [vR 293, vI key] σ2 (some (vI 0)) σ3) (hq : Q (some (vI 0)) σ3) : Wp L (d + 8) k_M_sum 10 [vR 293, vI key, x] [] σ Q := by
  have K293 := gK_293
  rw [r_M_sum_10]
  simp (disch := first | assumption | exact gb_01 _ | omega) only [r_M_sum_0, r_M_sum_1, r_M_sum_5, r_M_sum_8, r_M_sum_9, r_M_sum_11, r_M_sum_16, r_M_sum_19, r_M_sum_20, r_M_sum_25, r_M_sum_28, r_M_sum_29, r_M_sum_32, r_M_sum_33, r_M_sum_37, r_M_sum_38, r_M_sum_42, r_M_sum_45, r_M_sum_46, r_M_sum_47, r_M_sum_48, r_M_sum_49, r_M_sum_53, r_M_sum_56, r_M_sum_57, c_M_sum_13 hS0, c_M_sum_22 hS1, c_M_sum_34 hN, c_M_sum_39 hU, Option.toList, List.singleton_append, List.cons_append, List.nil_append, List.append_nil, hc, w32_gb, w32i, tn_add, tn_mul, Int.toNat_natCast, Int.toNat_zero, Int.reduceLE, Int.reduceLT, Int.reduceEq, Int.reduceNe, gb_T, gb_F, Int.reduceToNat, eq_self, true_or, or_true, and_true, true_and, and_self, ↓ite_gb0, ↓ite_gbn, ↓if_pos, ↓if_neg, if_true, if_false, not_true_eq_false, not_false_eq_true, gb_ne0, gb_eq0]
  exact hq
set_option maxRecDepth 4000 in
theorem r_M_term_0 : Wp L d k_M_term 0 [vR b0, l1, l2] [] σ Q ↔ Wp L d k_M_term 1 [vR b0, l1, l2] [vR b0] σ Q := wp_aload rfl rfl
set_option maxRecDepth 4000 in
theorem r_M_term_1 : Wp L d k_M_term 1 [l0, vI a1, l2] [vR c0] σ Q ↔ Wp L d k_M_term 2 [l0, vI a1, l2] [vI a1, vR c0] σ Q := wp_iload rfl rfl
set_option maxRecDepth 4000 in
theorem c_M_term_2 (hR : Run L d 252 [vR c0, vI s1] σ r σ1) (h : gK c0 = 12) : Wp L (d + 1) k_M_term 2 [l0, l1, l2] [vI s1, vR c0] σ Q ↔ Wp L (d + 1) k_M_term 5 [l0, l1, l2] (r.toList ++ []) σ1 Q := wp_callR (as := [vR c0, vI s1]) (rest := []) rfl rfl rfl rfl rfl rfl rfl (grecv_k (by rw [h]) rfl) hR
set_option maxRecDepth 4000 in
theorem r_M_term_5 : Wp L d k_M_term 5 [l0, l1, l2] [vI s0] σ Q ↔ (if s0 ≠ 0 then Wp L d k_M_term 10 [l0, l1, l2] [] σ Q else Wp L d k_M_term 8 [l0, l1, l2] [] σ Q) := wp_if_ne rfl
set_option maxRecDepth 4000 in
theorem r_M_term_8 : Wp L d k_M_term 8 [l0, l1, l2] [] σ Q ↔ Wp L d k_M_term 9 [l0, l1, l2] [vI 0] σ Q := wp_push rfl
set_option maxRecDepth 4000 in
theorem r_M_term_9 (h : s0 = 0 ∨ s0 = 1) : Wp L d k_M_term 9 [l0, l1, l2] [vI s0] σ Q ↔ Q (some (vI s0)) σ := wp_zret rfl h
set_option maxRecDepth 4000 in
theorem r_M_term_10 : Wp L d k_M_term 10 [vR b0, l1, l2] [] σ Q ↔ Wp L d k_M_term 11 [vR b0, l1, l2] [vR b0] σ Q := wp_aload rfl rfl
set_option maxRecDepth 4000 in
theorem r_M_term_11 : Wp L d k_M_term 11 [l0, l1, l2] [vR c0] σ Q ↔ Wp L d k_M_term 13 [l0, l1, l2] [vI 42, vR c0] σ Q := wp_push rfl
set_option maxRecDepth 4000 in
theorem c_M_term_13 (hR : Run L d 255 [vR c0, vI s1] σ r σ1) (h : gK c0 = 12) : Wp L (d + 1) k_M_term 13 [l0, l1, l2] [vI s1, vR c0] σ Q ↔ Wp L (d + 1) k_M_term 16 [l0, l1, l2] (r.toList ++ []) σ1 Q := wp_callR (as := [vR c0, vI s1]) (rest := []) rfl rfl rfl rfl rfl rfl rfl (grecv_k (by rw [h]) rfl) hR
set_option maxRecDepth 4000 in
theorem r_M_term_16 : Wp L d k_M_term 16 [l0, l1, l2] [vI s0] σ Q ↔ (if s0 ≠ 0 then Wp L d k_M_term 28 [l0, l1, l2] [] σ Q else Wp L d k_M_term 19 [l0, l1, l2] [] σ Q) := wp_if_ne rfl
set_option maxRecDepth 4000 in
theorem r_M_term_19 : Wp L d k_M_term 19 [vR b0, l1, l2] [] σ Q ↔ Wp L d k_M_term 20 [vR b0, l1, l2] [vR b0] σ Q := wp_aload rfl rfl
set_option maxRecDepth 4000 in
theorem r_M_term_20 : Wp L d k_M_term 20 [l0, l1, l2] [vR c0] σ Q ↔ Wp L d k_M_term 22 [l0, l1, l2] [vI 47, vR c0] σ Q := wp_push rfl
set_option maxRecDepth 4000 in
theorem c_M_term_22 (hR : Run L d 255 [vR c0, vI s1] σ r σ1) (h : gK c0 = 12) : Wp L (d + 1) k_M_term 22 [l0, l1, l2] [vI s1, vR c0] σ Q ↔ Wp L (d + 1) k_M_term 25 [l0, l1, l2] (r.toList ++ []) σ1 Q := wp_callR (as := [vR c0, vI s1]) (rest := []) rfl rfl rfl rfl rfl rfl rfl (grecv_k (by rw [h]) rfl) hR
set_option maxRecDepth 4000 in
theorem r_M_term_25 : Wp L d k_M_term 25 [l0, l1, l2] [vI s0] σ Q ↔ (if s0 = 0 then Wp L d k_M_term 56 [l0, l1, l2] [] σ Q else Wp L d k_M_term 28 [l0, l1, l2] [] σ Q) := wp_if_eq rfl
set_option maxRecDepth 4000 in
theorem r_M_term_28 : Wp L d k_M_term 28 [vR b0, l1, l2] [] σ Q ↔ Wp L d k_M_term 29 [vR b0, l1, l2] [vR b0] σ Q := wp_aload rfl rfl
set_option maxRecDepth 4000 in
theorem r_M_term_29 (h : gK c0 = 12) : Wp L d k_M_term 29 [l0, l1, l2] [vR c0] σ Q ↔ Wp L d k_M_term 32 [l0, l1, l2] [vI (σ c0 14)] σ Q := wp_getI (c := 3086) rfl rfl rfl rfl h
set_option maxRecDepth 4000 in
theorem r_M_term_32 : Wp L d k_M_term 32 [l0, vI a1, l2] [vI s0] σ Q ↔ Wp L d k_M_term 33 [l0, vI a1, vI s0] [] σ Q := wp_istore (i := 2) (ls := [l0, vI a1, l2]) rfl rfl
set_option maxRecDepth 4000 in
theorem r_M_term_33 : Wp L d k_M_term 33 [vR b0, l1, l2] [] σ Q ↔ Wp L d k_M_term 34 [vR b0, l1, l2] [vR b0] σ Q := wp_aload rfl rfl
set_option maxRecDepth 4000 in
theorem c_M_term_34 (hR : Run L d 241 [vR c0] σ r σ1) (h : gK c0 = 12) : Wp L (d + 1) k_M_term 34 [l0, l1, l2] [vR c0] σ Q ↔ Wp L (d + 1) k_M_term 37 [l0, l1, l2] (r.toList ++ []) σ1 Q := wp_callR (as := [vR c0]) (rest := []) rfl rfl rfl rfl rfl rfl rfl (grecv_k (by rw [h]) rfl) hR
set_option maxRecDepth 4000 in
theorem r_M_term_37 : Wp L d k_M_term 37 [vR b0, l1, l2] [] σ Q ↔ Wp L d k_M_term 38 [vR b0, l1, l2] [vR b0] σ Q := wp_aload rfl rfl
set_option maxRecDepth 4000 in
theorem r_M_term_38 : Wp L d k_M_term 38 [l0, vI a1, l2] [vR c0] σ Q ↔ Wp L d k_M_term 39 [l0, vI a1, l2] [vI a1, vR c0] σ Q := wp_iload rfl rfl
set_option maxRecDepth 4000 in
theorem c_M_term_39 (hR : Run L d 252 [vR c0, vI s1] σ r σ1) (h : gK c0 = 12) : Wp L (d + 1) k_M_term 39 [l0, l1, l2] [vI s1, vR c0] σ Q ↔ Wp L (d + 1) k_M_term 42 [l0, l1, l2] (r.toList ++ []) σ1 Q := wp_callR (as := [vR c0, vI s1]) (rest := []) rfl rfl rfl rfl rfl rfl rfl (grecv_k (by rw [h]) rfl) hR
set_option maxRecDepth 4000 in
theorem r_M_term_42 : Wp L d k_M_term 42 [l0, l1, l2] [vI s0] σ Q ↔ (if s0 ≠ 0 then Wp L d k_M_term 47 [l0, l1, l2] [] σ Q else Wp L d k_M_term 45 [l0, l1, l2] [] σ Q) := wp_if_ne rfl
set_option maxRecDepth 4000 in
theorem r_M_term_45 : Wp L d k_M_term 45 [l0, l1, l2] [] σ Q ↔ Wp L d k_M_term 46 [l0, l1, l2] [vI 0] σ Q := wp_push rfl
set_option maxRecDepth 4000 in
theorem r_M_term_46 (h : s0 = 0 ∨ s0 = 1) : Wp L d k_M_term 46 [l0, l1, l2] [vI s0] σ Q ↔ Q (some (vI s0)) σ := wp_zret rfl h
set_option maxRecDepth 4000 in
theorem r_M_term_47 : Wp L d k_M_term 47 [vR b0, l1, l2] [] σ Q ↔ Wp L d k_M_term 48 [vR b0, l1, l2] [vR b0] σ Q := wp_aload rfl rfl
set_option maxRecDepth 4000 in
theorem r_M_term_48 : Wp L d k_M_term 48 [l0, l1, l2] [vR c0] σ Q ↔ Wp L d k_M_term 49 [l0, l1, l2] [vI 2, vR c0] σ Q := wp_push rfl
set_option maxRecDepth 4000 in
theorem r_M_term_49 : Wp L d k_M_term 49 [l0, l1, vI a2] [vI s1, vR c0] σ Q ↔ Wp L d k_M_term 50 [l0, l1, vI a2] [vI a2, vI s1, vR c0] σ Q := wp_iload rfl rfl
set_option maxRecDepth 4000 in
theorem c_M_term_50 (hR : Run L d 253 [vR c0, vI s1, vI s2] σ r σ1) (h : gK c0 = 12) : Wp L (d + 1) k_M_term 50 [l0, l1, l2] [vI s2, vI s1, vR c0] σ Q ↔ Wp L (d + 1) k_M_term 53 [l0, l1, l2] (r.toList ++ []) σ1 Q := wp_callR (as := [vR c0, vI s1, vI s2]) (rest := []) rfl rfl rfl rfl rfl rfl rfl (grecv_k (by rw [h]) rfl) hR
set_option maxRecDepth 4000 in
theorem r_M_term_53 : Wp L d k_M_term 53 [l0, l1, l2] [] σ Q ↔ Wp L d k_M_term 10 [l0, l1, l2] [] σ Q := wp_goto rfl
set_option maxRecDepth 4000 in
theorem r_M_term_56 : Wp L d k_M_term 56 [l0, l1, l2] [] σ Q ↔ Wp L d k_M_term 57 [l0, l1, l2] [vI 1] σ Q := wp_push rfl
set_option maxRecDepth 4000 in
theorem r_M_term_57 (h : s0 = 0 ∨ s0 = 1) : Wp L d k_M_term 57 [l0, l1, l2] [vI s0] σ Q ↔ Q (some (vI s0)) σ := wp_zret rfl h
set_option maxRecDepth 4000 in
theorem rl_in_4 {σ2 : gMm} {key : Int}  (hU : Run L (d + 7) 252 [vR 293, vI key] σ (some (vI 1)) σ2) (hq : Wp L (d + 8) k_M_term 10 [vR 293, vI key, vU] [] σ2 Q) : Wp L (d + 8) k_M_term 0 [vR 293, vI key, vU] [] σ Q := by
  have K293 := gK_293
  simp (disch := first | assumption | exact gb_01 _ | omega) only [r_M_term_0, r_M_term_1, r_M_term_5, r_M_term_8, r_M_term_9, r_M_term_11, r_M_term_16, r_M_term_19, r_M_term_20, r_M_term_25, r_M_term_28, r_M_term_29, r_M_term_32, r_M_term_33, r_M_term_37, r_M_term_38, r_M_term_42, r_M_term_45, r_M_term_46, r_M_term_47, r_M_term_48, r_M_term_49, r_M_term_53, r_M_term_56, r_M_term_57, c_M_term_2 hU, Option.toList, List.singleton_append, List.cons_append, List.nil_append, List.append_nil, w32_gb, w32i, tn_add, tn_mul, Int.toNat_natCast, Int.toNat_zero, Int.reduceLE, Int.reduceLT, Int.reduceEq, Int.reduceNe, gb_T, gb_F, Int.reduceToNat, eq_self, true_or, or_true, and_true, true_and, and_self, ↓ite_gb0, ↓ite_gbn, ↓if_pos, ↓if_neg, if_true, if_false, not_true_eq_false, not_false_eq_true, gb_ne0, gb_eq0]
  exact hq
set_option maxRecDepth 4000 in
theorem rl_in0_4 {σ2 : gMm} {key : Int}  (hU : Run L (d + 7) 252 [vR 293, vI key] σ (some (vI 0)) σ2) (hq : Q (some (vI 0)) σ2) : Wp L (d + 8) k_M_term 0 [vR 293, vI key, vU] [] σ Q := by
  have K293 := gK_293
  simp (disch := first | assumption | exact gb_01 _ | omega) only [r_M_term_0, r_M_term_1, r_M_term_5, r_M_term_8, r_M_term_9, r_M_term_11, r_M_term_16, r_M_term_19, r_M_term_20, r_M_term_25, r_M_term_28, r_M_term_29, r_M_term_32, r_M_term_33, r_M_term_37, r_M_term_38, r_M_term_42, r_M_term_45, r_M_term_46, r_M_term_47, r_M_term_48, r_M_term_49, r_M_term_53, r_M_term_56, r_M_term_57, c_M_term_2 hU, Option.toList, List.singleton_append, List.cons_append, List.nil_append, List.append_nil, w32_gb, w32i, tn_add, tn_mul, Int.toNat_natCast, Int.toNat_zero, Int.reduceLE, Int.reduceLT, Int.reduceEq, Int.reduceNe, gb_T, gb_F, Int.reduceToNat, eq_self, true_or, or_true, and_true, true_and, and_self, ↓ite_gb0, ↓ite_gbn, ↓if_pos, ↓if_neg, if_true, if_false, not_true_eq_false, not_false_eq_true, gb_ne0, gb_eq0]
  exact hq
set_option maxRecDepth 4000 in
theorem rl_exit_4  {key : Int} {x : gV} (hS0 : Run L (d + 7) 255 [vR 293, vI 42] σ (some (vI 0)) σ) (hS1 : Run L (d + 7) 255 [vR 293, vI 47] σ (some (vI 0)) σ) (hq : Q (some (vI 1)) σ) : Wp L (d + 8) k_M_term 10 [vR 293, vI key, x] [] σ Q := by
  have K293 := gK_293
  rw [r_M_term_10]
  simp (disch := first | assumption | exact gb_01 _ | omega) only [r_M_term_0, r_M_term_1, r_M_term_5, r_M_term_8, r_M_term_9, r_M_term_11, r_M_term_16, r_M_term_19, r_M_term_20, r_M_term_25, r_M_term_28, r_M_term_29, r_M_term_32, r_M_term_33, r_M_term_37, r_M_term_38, r_M_term_42, r_M_term_45, r_M_term_46, r_M_term_47, r_M_term_48, r_M_term_49, r_M_term_53, r_M_term_56, r_M_term_57, c_M_term_13 hS0, c_M_term_22 hS1, Option.toList, List.singleton_append, List.cons_append, List.nil_append, List.append_nil, w32_gb, w32i, tn_add, tn_mul, Int.toNat_natCast, Int.toNat_zero, Int.reduceLE, Int.reduceLT, Int.reduceEq, Int.reduceNe, gb_T, gb_F, Int.reduceToNat, eq_self, true_or, or_true, and_true, true_and, and_self, ↓ite_gb0, ↓ite_gbn, ↓if_pos, ↓if_neg, if_true, if_false, not_true_eq_false, not_false_eq_true, gb_ne0, gb_eq0]
  exact hq
set_option maxRecDepth 4000 in
theorem rl_step_4_0 {σ2 σ3 σ4 : gMm} {key : Int} {x : gV} (hS0 : Run L (d + 7) 255 [vR 293, vI 42] σ (some (vI 1)) σ) (hc : σ 293 14 = 42) (hN : Run L (d + 7) 241 [vR 293] σ none σ2) (hU : Run L (d + 7) 252 [vR 293, vI key] σ2 (some (vI 1)) σ3) (hL : Run L (d + 7) 253 [vR 293, vI 2, vI 42] σ3 none σ4) (hq : Wp L (d + 8) k_M_term 10 [vR 293, vI key, vI 42] [] σ4 Q) : Wp L (d + 8) k_M_term 10 [vR 293, vI key, x] [] σ Q := by
  have K293 := gK_293
  rw [r_M_term_10]
  simp (disch := first | assumption | exact gb_01 _ | omega) only [r_M_term_0, r_M_term_1, r_M_term_5, r_M_term_8, r_M_term_9, r_M_term_11, r_M_term_16, r_M_term_19, r_M_term_20, r_M_term_25, r_M_term_28, r_M_term_29, r_M_term_32, r_M_term_33, r_M_term_37, r_M_term_38, r_M_term_42, r_M_term_45, r_M_term_46, r_M_term_47, r_M_term_48, r_M_term_49, r_M_term_53, r_M_term_56, r_M_term_57, c_M_term_13 hS0, c_M_term_34 hN, c_M_term_39 hU, c_M_term_50 hL, Option.toList, List.singleton_append, List.cons_append, List.nil_append, List.append_nil, hc, w32_gb, w32i, tn_add, tn_mul, Int.toNat_natCast, Int.toNat_zero, Int.reduceLE, Int.reduceLT, Int.reduceEq, Int.reduceNe, gb_T, gb_F, Int.reduceToNat, eq_self, true_or, or_true, and_true, true_and, and_self, ↓ite_gb0, ↓ite_gbn, ↓if_pos, ↓if_neg, if_true, if_false, not_true_eq_false, not_false_eq_true, gb_ne0, gb_eq0]
  exact hq
set_option maxRecDepth 4000 in
theorem rl_step0_4_0 {σ2 σ3 : gMm} {key : Int} {x : gV} (hS0 : Run L (d + 7) 255 [vR 293, vI 42] σ (some (vI 1)) σ) (hc : σ 293 14 = 42) (hN : Run L (d + 7) 241 [vR 293] σ none σ2) (hU : Run L (d + 7) 252 [vR 293, vI key] σ2 (some (vI 0)) σ3) (hq : Q (some (vI 0)) σ3) : Wp L (d + 8) k_M_term 10 [vR 293, vI key, x] [] σ Q := by
  have K293 := gK_293
  rw [r_M_term_10]
  simp (disch := first | assumption | exact gb_01 _ | omega) only [r_M_term_0, r_M_term_1, r_M_term_5, r_M_term_8, r_M_term_9, r_M_term_11, r_M_term_16, r_M_term_19, r_M_term_20, r_M_term_25, r_M_term_28, r_M_term_29, r_M_term_32, r_M_term_33, r_M_term_37, r_M_term_38, r_M_term_42, r_M_term_45, r_M_term_46, r_M_term_47, r_M_term_48, r_M_term_49, r_M_term_53, r_M_term_56, r_M_term_57, c_M_term_13 hS0, c_M_term_34 hN, c_M_term_39 hU, Option.toList, List.singleton_append, List.cons_append, List.nil_append, List.append_nil, hc, w32_gb, w32i, tn_add, tn_mul, Int.toNat_natCast, Int.toNat_zero, Int.reduceLE, Int.reduceLT, Int.reduceEq, Int.reduceNe, gb_T, gb_F, Int.reduceToNat, eq_self, true_or, or_true, and_true, true_and, and_self, ↓ite_gb0, ↓ite_gbn, ↓if_pos, ↓if_neg, if_true, if_false, not_true_eq_false, not_false_eq_true, gb_ne0, gb_eq0]
  exact hq
set_option maxRecDepth 4000 in
theorem rl_step_4_1 {σ2 σ3 σ4 : gMm} {key : Int} {x : gV} (hS0 : Run L (d + 7) 255 [vR 293, vI 42] σ (some (vI 0)) σ) (hS1 : Run L (d + 7) 255 [vR 293, vI 47] σ (some (vI 1)) σ) (hc : σ 293 14 = 47) (hN : Run L (d + 7) 241 [vR 293] σ none σ2) (hU : Run L (d + 7) 252 [vR 293, vI key] σ2 (some (vI 1)) σ3) (hL : Run L (d + 7) 253 [vR 293, vI 2, vI 47] σ3 none σ4) (hq : Wp L (d + 8) k_M_term 10 [vR 293, vI key, vI 47] [] σ4 Q) : Wp L (d + 8) k_M_term 10 [vR 293, vI key, x] [] σ Q := by
  have K293 := gK_293
  rw [r_M_term_10]
  simp (disch := first | assumption | exact gb_01 _ | omega) only [r_M_term_0, r_M_term_1, r_M_term_5, r_M_term_8, r_M_term_9, r_M_term_11, r_M_term_16, r_M_term_19, r_M_term_20, r_M_term_25, r_M_term_28, r_M_term_29, r_M_term_32, r_M_term_33, r_M_term_37, r_M_term_38, r_M_term_42, r_M_term_45, r_M_term_46, r_M_term_47, r_M_term_48, r_M_term_49, r_M_term_53, r_M_term_56, r_M_term_57, c_M_term_13 hS0, c_M_term_22 hS1, c_M_term_34 hN, c_M_term_39 hU, c_M_term_50 hL, Option.toList, List.singleton_append, List.cons_append, List.nil_append, List.append_nil, hc, w32_gb, w32i, tn_add, tn_mul, Int.toNat_natCast, Int.toNat_zero, Int.reduceLE, Int.reduceLT, Int.reduceEq, Int.reduceNe, gb_T, gb_F, Int.reduceToNat, eq_self, true_or, or_true, and_true, true_and, and_self, ↓ite_gb0, ↓ite_gbn, ↓if_pos, ↓if_neg, if_true, if_false, not_true_eq_false, not_false_eq_true, gb_ne0, gb_eq0]
  exact hq
set_option maxRecDepth 4000 in
theorem rl_step0_4_1 {σ2 σ3 : gMm} {key : Int} {x : gV} (hS0 : Run L (d + 7) 255 [vR 293, vI 42] σ (some (vI 0)) σ) (hS1 : Run L (d + 7) 255 [vR 293, vI 47] σ (some (vI 1)) σ) (hc : σ 293 14 = 47) (hN : Run L (d + 7) 241 [vR 293] σ none σ2) (hU : Run L (d + 7) 252 [vR 293, vI key] σ2 (some (vI 0)) σ3) (hq : Q (some (vI 0)) σ3) : Wp L (d + 8) k_M_term 10 [vR 293, vI key, x] [] σ Q := by
  have K293 := gK_293
  rw [r_M_term_10]
  simp (disch := first | assumption | exact gb_01 _ | omega) only [r_M_term_0, r_M_term_1, r_M_term_5, r_M_term_8, r_M_term_9, r_M_term_11, r_M_term_16, r_M_term_19, r_M_term_20, r_M_term_25, r_M_term_28, r_M_term_29, r_M_term_32, r_M_term_33, r_M_term_37, r_M_term_38, r_M_term_42, r_M_term_45, r_M_term_46, r_M_term_47, r_M_term_48, r_M_term_49, r_M_term_53, r_M_term_56, r_M_term_57, c_M_term_13 hS0, c_M_term_22 hS1, c_M_term_34 hN, c_M_term_39 hU, Option.toList, List.singleton_append, List.cons_append, List.nil_append, List.append_nil, hc, w32_gb, w32i, tn_add, tn_mul, Int.toNat_natCast, Int.toNat_zero, Int.reduceLE, Int.reduceLT, Int.reduceEq, Int.reduceNe, gb_T, gb_F, Int.reduceToNat, eq_self, true_or, or_true, and_true, true_and, and_self, ↓ite_gb0, ↓ite_gbn, ↓if_pos, ↓if_neg, if_true, if_false, not_true_eq_false, not_false_eq_true, gb_ne0, gb_eq0]
  exact hq
set_option maxRecDepth 4000 in
theorem r_M_part0_0 : Wp L d k_M_part0 0 [vR b0, l1] [] σ Q ↔ Wp L d k_M_part0 1 [vR b0, l1] [vR b0] σ Q := wp_aload rfl rfl
set_option maxRecDepth 4000 in
theorem r_M_part0_1 (h : gK c0 = 12) : Wp L d k_M_part0 1 [l0, l1] [vR c0] σ Q ↔ Wp L d k_M_part0 4 [l0, l1] [vI (σ c0 12)] σ Q := wp_getI (c := 3084) rfl rfl rfl rfl h
set_option maxRecDepth 4000 in
theorem r_M_part0_4 : Wp L d k_M_part0 4 [l0, l1] [vI s0] σ Q ↔ Wp L d k_M_part0 5 [l0, l1] [vI 2, vI s0] σ Q := wp_push rfl
set_option maxRecDepth 4000 in
theorem r_M_part0_5 : Wp L d k_M_part0 5 [l0, l1] [vI s1, vI s0] σ Q ↔ (if s0 ≠ s1 then Wp L d k_M_part0 33 [l0, l1] [] σ Q else Wp L d k_M_part0 8 [l0, l1] [] σ Q) := wp_cmp_ne rfl
set_option maxRecDepth 4000 in
theorem r_M_part0_8 : Wp L d k_M_part0 8 [vR b0, l1] [] σ Q ↔ Wp L d k_M_part0 9 [vR b0, l1] [vR b0] σ Q := wp_aload rfl rfl
set_option maxRecDepth 4000 in
theorem r_M_part0_9 : Wp L d k_M_part0 9 [l0, l1] [vR c0] σ Q ↔ Wp L d k_M_part0 10 [l0, l1] [vI 0, vR c0] σ Q := wp_push rfl
set_option maxRecDepth 4000 in
theorem r_M_part0_10 : Wp L d k_M_part0 10 [vR b0, l1] [vI s1, vR c0] σ Q ↔ Wp L d k_M_part0 11 [vR b0, l1] [vR b0, vI s1, vR c0] σ Q := wp_aload rfl rfl
set_option maxRecDepth 4000 in
theorem r_M_part0_11 (h : gK c2 = 12) : Wp L d k_M_part0 11 [l0, l1] [vR c2, vI s1, vR c0] σ Q ↔ Wp L d k_M_part0 14 [l0, l1] [vI (σ c2 13), vI s1, vR c0] σ Q := wp_getI (c := 3085) rfl rfl rfl rfl h
set_option maxRecDepth 4000 in
theorem c_M_part0_14 (hR : Run L d 253 [vR c0, vI s1, vI s2] σ r σ1) (h : gK c0 = 12) : Wp L (d + 1) k_M_part0 14 [l0, l1] [vI s2, vI s1, vR c0] σ Q ↔ Wp L (d + 1) k_M_part0 17 [l0, l1] (r.toList ++ []) σ1 Q := wp_callR (as := [vR c0, vI s1, vI s2]) (rest := []) rfl rfl rfl rfl rfl rfl rfl (grecv_k (by rw [h]) rfl) hR
set_option maxRecDepth 4000 in
theorem r_M_part0_17 : Wp L d k_M_part0 17 [vR b0, l1] [] σ Q ↔ Wp L d k_M_part0 18 [vR b0, l1] [vR b0] σ Q := wp_aload rfl rfl
set_option maxRecDepth 4000 in
theorem r_M_part0_18 : Wp L d k_M_part0 18 [l0, l1] [vR c0] σ Q ↔ Wp L d k_M_part0 19 [l0, l1] [vR c0, vR c0] σ Q := wp_dupR rfl
set_option maxRecDepth 4000 in
theorem r_M_part0_19 (h : gK c1 = 12) : Wp L d k_M_part0 19 [l0, l1] [vR c1, vR c0] σ Q ↔ Wp L d k_M_part0 22 [l0, l1] [vI (σ c1 19), vR c0] σ Q := wp_getI (c := 3091) rfl rfl rfl rfl h
set_option maxRecDepth 4000 in
theorem r_M_part0_22 : Wp L d k_M_part0 22 [l0, l1] [vI s1, vR c0] σ Q ↔ Wp L d k_M_part0 23 [l0, l1] [vI 1, vI s1, vR c0] σ Q := wp_push rfl
set_option maxRecDepth 4000 in
theorem r_M_part0_23 : Wp L d k_M_part0 23 [l0, l1] [vI s2, vI s1, vR c0] σ Q ↔ Wp L d k_M_part0 24 [l0, l1] [vI (w32 (s1 + s2)), vR c0] σ Q := wp_iadd rfl
set_option maxRecDepth 4000 in
theorem r_M_part0_24 (h : gK c0 = 12) : Wp L d k_M_part0 24 [l0, l1] [vI s1, vR c0] σ Q ↔ Wp L d k_M_part0 27 [l0, l1] [] (gupd σ c0 19 s1) Q := wp_putI (c := 3091) rfl rfl rfl rfl h
set_option maxRecDepth 4000 in
theorem r_M_part0_27 : Wp L d k_M_part0 27 [vR b0, l1] [] σ Q ↔ Wp L d k_M_part0 28 [vR b0, l1] [vR b0] σ Q := wp_aload rfl rfl
set_option maxRecDepth 4000 in
theorem c_M_part0_28 (hR : Run L d 241 [vR c0] σ r σ1) (h : gK c0 = 12) : Wp L (d + 1) k_M_part0 28 [l0, l1] [vR c0] σ Q ↔ Wp L (d + 1) k_M_part0 31 [l0, l1] (r.toList ++ []) σ1 Q := wp_callR (as := [vR c0]) (rest := []) rfl rfl rfl rfl rfl rfl rfl (grecv_k (by rw [h]) rfl) hR
set_option maxRecDepth 4000 in
theorem r_M_part0_31 : Wp L d k_M_part0 31 [l0, l1] [] σ Q ↔ Wp L d k_M_part0 32 [l0, l1] [vI 1] σ Q := wp_push rfl
set_option maxRecDepth 4000 in
theorem r_M_part0_32 (h : s0 = 0 ∨ s0 = 1) : Wp L d k_M_part0 32 [l0, l1] [vI s0] σ Q ↔ Q (some (vI s0)) σ := wp_zret rfl h
set_option maxRecDepth 4000 in
theorem r_M_part0_33 : Wp L d k_M_part0 33 [vR b0, l1] [] σ Q ↔ Wp L d k_M_part0 34 [vR b0, l1] [vR b0] σ Q := wp_aload rfl rfl
set_option maxRecDepth 4000 in
theorem r_M_part0_34 (h : gK c0 = 12) : Wp L d k_M_part0 34 [l0, l1] [vR c0] σ Q ↔ Wp L d k_M_part0 37 [l0, l1] [vI (σ c0 12)] σ Q := wp_getI (c := 3084) rfl rfl rfl rfl h
set_option maxRecDepth 4000 in
theorem r_M_part0_37 : Wp L d k_M_part0 37 [l0, l1] [vI s0] σ Q ↔ Wp L d k_M_part0 38 [l0, l1] [vI 1, vI s0] σ Q := wp_push rfl
set_option maxRecDepth 4000 in
theorem r_M_part0_38 : Wp L d k_M_part0 38 [l0, l1] [vI s1, vI s0] σ Q ↔ (if s0 ≠ s1 then Wp L d k_M_part0 84 [l0, l1] [] σ Q else Wp L d k_M_part0 41 [l0, l1] [] σ Q) := wp_cmp_ne rfl
set_option maxRecDepth 4000 in
theorem r_M_part0_41 : Wp L d k_M_part0 41 [vR b0, l1] [] σ Q ↔ Wp L d k_M_part0 42 [vR b0, l1] [vR b0] σ Q := wp_aload rfl rfl
set_option maxRecDepth 4000 in
theorem r_M_part0_42 (h : gK c0 = 12) : Wp L d k_M_part0 42 [l0, l1] [vR c0] σ Q ↔ Wp L d k_M_part0 45 [l0, l1] [vI (σ c0 14)] σ Q := wp_getI (c := 3086) rfl rfl rfl rfl h
set_option maxRecDepth 4000 in
theorem r_M_part0_45 : Wp L d k_M_part0 45 [l0, l1] [vI s0] σ Q ↔ (if s0 = 0 then Wp L d k_M_part0 84 [l0, l1] [] σ Q else Wp L d k_M_part0 48 [l0, l1] [] σ Q) := wp_if_eq rfl
set_option maxRecDepth 4000 in
theorem r_M_part0_48 : Wp L d k_M_part0 48 [l0, vI a1] [] σ Q ↔ Wp L d k_M_part0 49 [l0, vI a1] [vI a1] σ Q := wp_iload rfl rfl
set_option maxRecDepth 4000 in
theorem r_M_part0_49 : Wp L d k_M_part0 49 [vR b0, l1] [vI s0] σ Q ↔ Wp L d k_M_part0 50 [vR b0, l1] [vR b0, vI s0] σ Q := wp_aload rfl rfl
set_option maxRecDepth 4000 in
theorem r_M_part0_50 (h : gK c1 = 12) : Wp L d k_M_part0 50 [l0, l1] [vR c1, vI s0] σ Q ↔ Wp L d k_M_part0 53 [l0, l1] [vI (σ c1 14), vI s0] σ Q := wp_getI (c := 3086) rfl rfl rfl rfl h
set_option maxRecDepth 4000 in
theorem c_M_part0_53 (hR : Run L d 254 [vI s0, vI s1] σ r σ1) : Wp L (d + 1) k_M_part0 53 [l0, l1] [vI s1, vI s0] σ Q ↔ Wp L (d + 1) k_M_part0 56 [l0, l1] (r.toList ++ []) σ1 Q := wp_callR (as := [vI s0, vI s1]) (rest := []) rfl rfl rfl rfl rfl rfl rfl rfl hR
set_option maxRecDepth 4000 in
theorem r_M_part0_56 : Wp L d k_M_part0 56 [l0, l1] [vI s0] σ Q ↔ (if s0 = 0 then Wp L d k_M_part0 84 [l0, l1] [] σ Q else Wp L d k_M_part0 59 [l0, l1] [] σ Q) := wp_if_eq rfl
set_option maxRecDepth 4000 in
theorem r_M_part0_59 : Wp L d k_M_part0 59 [vR b0, l1] [] σ Q ↔ Wp L d k_M_part0 60 [vR b0, l1] [vR b0] σ Q := wp_aload rfl rfl
set_option maxRecDepth 4000 in
theorem r_M_part0_60 : Wp L d k_M_part0 60 [l0, l1] [vR c0] σ Q ↔ Wp L d k_M_part0 61 [l0, l1] [vI 1, vR c0] σ Q := wp_push rfl
set_option maxRecDepth 4000 in
theorem r_M_part0_61 : Wp L d k_M_part0 61 [vR b0, l1] [vI s1, vR c0] σ Q ↔ Wp L d k_M_part0 62 [vR b0, l1] [vR b0, vI s1, vR c0] σ Q := wp_aload rfl rfl
set_option maxRecDepth 4000 in
theorem r_M_part0_62 (h : gK c2 = 12) : Wp L d k_M_part0 62 [l0, l1] [vR c2, vI s1, vR c0] σ Q ↔ Wp L d k_M_part0 65 [l0, l1] [vI (σ c2 14), vI s1, vR c0] σ Q := wp_getI (c := 3086) rfl rfl rfl rfl h
set_option maxRecDepth 4000 in
theorem c_M_part0_65 (hR : Run L d 253 [vR c0, vI s1, vI s2] σ r σ1) (h : gK c0 = 12) : Wp L (d + 1) k_M_part0 65 [l0, l1] [vI s2, vI s1, vR c0] σ Q ↔ Wp L (d + 1) k_M_part0 68 [l0, l1] (r.toList ++ []) σ1 Q := wp_callR (as := [vR c0, vI s1, vI s2]) (rest := []) rfl rfl rfl rfl rfl rfl rfl (grecv_k (by rw [h]) rfl) hR
set_option maxRecDepth 4000 in
theorem r_M_part0_68 : Wp L d k_M_part0 68 [vR b0, l1] [] σ Q ↔ Wp L d k_M_part0 69 [vR b0, l1] [vR b0] σ Q := wp_aload rfl rfl
set_option maxRecDepth 4000 in
theorem r_M_part0_69 : Wp L d k_M_part0 69 [l0, l1] [vR c0] σ Q ↔ Wp L d k_M_part0 70 [l0, l1] [vR c0, vR c0] σ Q := wp_dupR rfl
set_option maxRecDepth 4000 in
theorem r_M_part0_70 (h : gK c1 = 12) : Wp L d k_M_part0 70 [l0, l1] [vR c1, vR c0] σ Q ↔ Wp L d k_M_part0 73 [l0, l1] [vI (σ c1 19), vR c0] σ Q := wp_getI (c := 3091) rfl rfl rfl rfl h
set_option maxRecDepth 4000 in
theorem r_M_part0_73 : Wp L d k_M_part0 73 [l0, l1] [vI s1, vR c0] σ Q ↔ Wp L d k_M_part0 74 [l0, l1] [vI 1, vI s1, vR c0] σ Q := wp_push rfl
set_option maxRecDepth 4000 in
theorem r_M_part0_74 : Wp L d k_M_part0 74 [l0, l1] [vI s2, vI s1, vR c0] σ Q ↔ Wp L d k_M_part0 75 [l0, l1] [vI (w32 (s1 + s2)), vR c0] σ Q := wp_iadd rfl
set_option maxRecDepth 4000 in
theorem r_M_part0_75 (h : gK c0 = 12) : Wp L d k_M_part0 75 [l0, l1] [vI s1, vR c0] σ Q ↔ Wp L d k_M_part0 78 [l0, l1] [] (gupd σ c0 19 s1) Q := wp_putI (c := 3091) rfl rfl rfl rfl h
set_option maxRecDepth 4000 in
theorem r_M_part0_78 : Wp L d k_M_part0 78 [vR b0, l1] [] σ Q ↔ Wp L d k_M_part0 79 [vR b0, l1] [vR b0] σ Q := wp_aload rfl rfl
set_option maxRecDepth 4000 in
theorem c_M_part0_79 (hR : Run L d 241 [vR c0] σ r σ1) (h : gK c0 = 12) : Wp L (d + 1) k_M_part0 79 [l0, l1] [vR c0] σ Q ↔ Wp L (d + 1) k_M_part0 82 [l0, l1] (r.toList ++ []) σ1 Q := wp_callR (as := [vR c0]) (rest := []) rfl rfl rfl rfl rfl rfl rfl (grecv_k (by rw [h]) rfl) hR
set_option maxRecDepth 4000 in
theorem r_M_part0_82 : Wp L d k_M_part0 82 [l0, l1] [] σ Q ↔ Wp L d k_M_part0 83 [l0, l1] [vI 1] σ Q := wp_push rfl
set_option maxRecDepth 4000 in
theorem r_M_part0_83 (h : s0 = 0 ∨ s0 = 1) : Wp L d k_M_part0 83 [l0, l1] [vI s0] σ Q ↔ Q (some (vI s0)) σ := wp_zret rfl h
set_option maxRecDepth 4000 in
theorem r_M_part0_84 : Wp L d k_M_part0 84 [vR b0, l1] [] σ Q ↔ Wp L d k_M_part0 85 [vR b0, l1] [vR b0] σ Q := wp_aload rfl rfl
set_option maxRecDepth 4000 in
theorem r_M_part0_85 : Wp L d k_M_part0 85 [l0, l1] [vR c0] σ Q ↔ Wp L d k_M_part0 87 [l0, l1] [vI 33, vR c0] σ Q := wp_push rfl
set_option maxRecDepth 4000 in
theorem c_M_part0_87 (hR : Run L d 255 [vR c0, vI s1] σ r σ1) (h : gK c0 = 12) : Wp L (d + 1) k_M_part0 87 [l0, l1] [vI s1, vR c0] σ Q ↔ Wp L (d + 1) k_M_part0 90 [l0, l1] (r.toList ++ []) σ1 Q := wp_callR (as := [vR c0, vI s1]) (rest := []) rfl rfl rfl rfl rfl rfl rfl (grecv_k (by rw [h]) rfl) hR
set_option maxRecDepth 4000 in
theorem r_M_part0_90 : Wp L d k_M_part0 90 [l0, l1] [vI s0] σ Q ↔ (if s0 = 0 then Wp L d k_M_part0 145 [l0, l1] [] σ Q else Wp L d k_M_part0 93 [l0, l1] [] σ Q) := wp_if_eq rfl
set_option maxRecDepth 4000 in
theorem r_M_part0_93 : Wp L d k_M_part0 93 [vR b0, l1] [] σ Q ↔ Wp L d k_M_part0 94 [vR b0, l1] [vR b0] σ Q := wp_aload rfl rfl
set_option maxRecDepth 4000 in
theorem r_M_part0_94 (h : gK c0 = 12) : Wp L d k_M_part0 94 [l0, l1] [vR c0] σ Q ↔ Wp L d k_M_part0 97 [l0, l1] [vI (σ c0 16)] σ Q := wp_getI (c := 3088) rfl rfl rfl rfl h
set_option maxRecDepth 4000 in
theorem r_M_part0_97 : Wp L d k_M_part0 97 [l0, l1] [vI s0] σ Q ↔ Wp L d k_M_part0 99 [l0, l1] [vI 8, vI s0] σ Q := wp_push rfl
set_option maxRecDepth 4000 in
theorem r_M_part0_99 : Wp L d k_M_part0 99 [l0, l1] [vI s1, vI s0] σ Q ↔ (if s1 ≤ s0 then Wp L d k_M_part0 145 [l0, l1] [] σ Q else Wp L d k_M_part0 102 [l0, l1] [] σ Q) := wp_cmp_ge rfl
set_option maxRecDepth 4000 in
theorem r_M_part0_102 : Wp L d k_M_part0 102 [vR b0, l1] [] σ Q ↔ Wp L d k_M_part0 103 [vR b0, l1] [vR b0] σ Q := wp_aload rfl rfl
set_option maxRecDepth 4000 in
theorem r_M_part0_103 : Wp L d k_M_part0 103 [l0, l1] [vR c0] σ Q ↔ Wp L d k_M_part0 104 [l0, l1] [vR c0, vR c0] σ Q := wp_dupR rfl
set_option maxRecDepth 4000 in
theorem r_M_part0_104 (h : gK c1 = 12) : Wp L d k_M_part0 104 [l0, l1] [vR c1, vR c0] σ Q ↔ Wp L d k_M_part0 107 [l0, l1] [vI (σ c1 16), vR c0] σ Q := wp_getI (c := 3088) rfl rfl rfl rfl h
set_option maxRecDepth 4000 in
theorem r_M_part0_107 : Wp L d k_M_part0 107 [l0, l1] [vI s1, vR c0] σ Q ↔ Wp L d k_M_part0 108 [l0, l1] [vI 1, vI s1, vR c0] σ Q := wp_push rfl
set_option maxRecDepth 4000 in
theorem r_M_part0_108 : Wp L d k_M_part0 108 [l0, l1] [vI s2, vI s1, vR c0] σ Q ↔ Wp L d k_M_part0 109 [l0, l1] [vI (w32 (s1 + s2)), vR c0] σ Q := wp_iadd rfl
set_option maxRecDepth 4000 in
theorem r_M_part0_109 (h : gK c0 = 12) : Wp L d k_M_part0 109 [l0, l1] [vI s1, vR c0] σ Q ↔ Wp L d k_M_part0 112 [l0, l1] [] (gupd σ c0 16 s1) Q := wp_putI (c := 3088) rfl rfl rfl rfl h
set_option maxRecDepth 4000 in
theorem r_M_part0_112 : Wp L d k_M_part0 112 [vR b0, l1] [] σ Q ↔ Wp L d k_M_part0 113 [vR b0, l1] [vR b0] σ Q := wp_aload rfl rfl
set_option maxRecDepth 4000 in
theorem c_M_part0_113 (hR : Run L d 241 [vR c0] σ r σ1) (h : gK c0 = 12) : Wp L (d + 1) k_M_part0 113 [l0, l1] [vR c0] σ Q ↔ Wp L (d + 1) k_M_part0 116 [l0, l1] (r.toList ++ []) σ1 Q := wp_callR (as := [vR c0]) (rest := []) rfl rfl rfl rfl rfl rfl rfl (grecv_k (by rw [h]) rfl) hR
set_option maxRecDepth 4000 in
theorem r_M_part0_116 : Wp L d k_M_part0 116 [vR b0, l1] [] σ Q ↔ Wp L d k_M_part0 117 [vR b0, l1] [vR b0] σ Q := wp_aload rfl rfl
set_option maxRecDepth 4000 in
theorem r_M_part0_117 : Wp L d k_M_part0 117 [l0, vI a1] [vR c0] σ Q ↔ Wp L d k_M_part0 118 [l0, vI a1] [vI a1, vR c0] σ Q := wp_iload rfl rfl
set_option maxRecDepth 4000 in
theorem c_M_part0_118 (hR : Run L d 252 [vR c0, vI s1] σ r σ1) (h : gK c0 = 12) : Wp L (d + 1) k_M_part0 118 [l0, l1] [vI s1, vR c0] σ Q ↔ Wp L (d + 1) k_M_part0 121 [l0, l1] (r.toList ++ []) σ1 Q := wp_callR (as := [vR c0, vI s1]) (rest := []) rfl rfl rfl rfl rfl rfl rfl (grecv_k (by rw [h]) rfl) hR
set_option maxRecDepth 4000 in
theorem r_M_part0_121 : Wp L d k_M_part0 121 [l0, l1] [vI s0] σ Q ↔ (if s0 ≠ 0 then Wp L d k_M_part0 126 [l0, l1] [] σ Q else Wp L d k_M_part0 124 [l0, l1] [] σ Q) := wp_if_ne rfl
set_option maxRecDepth 4000 in
theorem r_M_part0_124 : Wp L d k_M_part0 124 [l0, l1] [] σ Q ↔ Wp L d k_M_part0 125 [l0, l1] [vI 0] σ Q := wp_push rfl
set_option maxRecDepth 4000 in
theorem r_M_part0_125 (h : s0 = 0 ∨ s0 = 1) : Wp L d k_M_part0 125 [l0, l1] [vI s0] σ Q ↔ Q (some (vI s0)) σ := wp_zret rfl h
set_option maxRecDepth 4000 in
theorem r_M_part0_126 : Wp L d k_M_part0 126 [vR b0, l1] [] σ Q ↔ Wp L d k_M_part0 127 [vR b0, l1] [vR b0] σ Q := wp_aload rfl rfl
set_option maxRecDepth 4000 in
theorem r_M_part0_127 : Wp L d k_M_part0 127 [l0, l1] [vR c0] σ Q ↔ Wp L d k_M_part0 128 [l0, l1] [vR c0, vR c0] σ Q := wp_dupR rfl
set_option maxRecDepth 4000 in
theorem r_M_part0_128 (h : gK c1 = 12) : Wp L d k_M_part0 128 [l0, l1] [vR c1, vR c0] σ Q ↔ Wp L d k_M_part0 131 [l0, l1] [vI (σ c1 16), vR c0] σ Q := wp_getI (c := 3088) rfl rfl rfl rfl h
set_option maxRecDepth 4000 in
theorem r_M_part0_131 : Wp L d k_M_part0 131 [l0, l1] [vI s1, vR c0] σ Q ↔ Wp L d k_M_part0 132 [l0, l1] [vI 1, vI s1, vR c0] σ Q := wp_push rfl
set_option maxRecDepth 4000 in
theorem r_M_part0_132 : Wp L d k_M_part0 132 [l0, l1] [vI s2, vI s1, vR c0] σ Q ↔ Wp L d k_M_part0 133 [l0, l1] [vI (w32 (s1 - s2)), vR c0] σ Q := wp_isub rfl
set_option maxRecDepth 4000 in
theorem r_M_part0_133 (h : gK c0 = 12) : Wp L d k_M_part0 133 [l0, l1] [vI s1, vR c0] σ Q ↔ Wp L d k_M_part0 136 [l0, l1] [] (gupd σ c0 16 s1) Q := wp_putI (c := 3088) rfl rfl rfl rfl h
set_option maxRecDepth 4000 in
theorem r_M_part0_136 : Wp L d k_M_part0 136 [vR b0, l1] [] σ Q ↔ Wp L d k_M_part0 137 [vR b0, l1] [vR b0] σ Q := wp_aload rfl rfl
set_option maxRecDepth 4000 in
theorem r_M_part0_137 : Wp L d k_M_part0 137 [l0, l1] [vR c0] σ Q ↔ Wp L d k_M_part0 138 [l0, l1] [vI 2, vR c0] σ Q := wp_push rfl
set_option maxRecDepth 4000 in
theorem r_M_part0_138 : Wp L d k_M_part0 138 [l0, l1] [vI s1, vR c0] σ Q ↔ Wp L d k_M_part0 140 [l0, l1] [vI 33, vI s1, vR c0] σ Q := wp_push rfl
set_option maxRecDepth 4000 in
theorem c_M_part0_140 (hR : Run L d 253 [vR c0, vI s1, vI s2] σ r σ1) (h : gK c0 = 12) : Wp L (d + 1) k_M_part0 140 [l0, l1] [vI s2, vI s1, vR c0] σ Q ↔ Wp L (d + 1) k_M_part0 143 [l0, l1] (r.toList ++ []) σ1 Q := wp_callR (as := [vR c0, vI s1, vI s2]) (rest := []) rfl rfl rfl rfl rfl rfl rfl (grecv_k (by rw [h]) rfl) hR
set_option maxRecDepth 4000 in
theorem r_M_part0_143 : Wp L d k_M_part0 143 [l0, l1] [] σ Q ↔ Wp L d k_M_part0 144 [l0, l1] [vI 1] σ Q := wp_push rfl
set_option maxRecDepth 4000 in
theorem r_M_part0_144 (h : s0 = 0 ∨ s0 = 1) : Wp L d k_M_part0 144 [l0, l1] [vI s0] σ Q ↔ Q (some (vI s0)) σ := wp_zret rfl h
set_option maxRecDepth 4000 in
theorem r_M_part0_145 : Wp L d k_M_part0 145 [vR b0, l1] [] σ Q ↔ Wp L d k_M_part0 146 [vR b0, l1] [vR b0] σ Q := wp_aload rfl rfl
set_option maxRecDepth 4000 in
theorem r_M_part0_146 : Wp L d k_M_part0 146 [l0, l1] [vR c0] σ Q ↔ Wp L d k_M_part0 148 [l0, l1] [vI 40, vR c0] σ Q := wp_push rfl
set_option maxRecDepth 4000 in
theorem c_M_part0_148 (hR : Run L d 255 [vR c0, vI s1] σ r σ1) (h : gK c0 = 12) : Wp L (d + 1) k_M_part0 148 [l0, l1] [vI s1, vR c0] σ Q ↔ Wp L (d + 1) k_M_part0 151 [l0, l1] (r.toList ++ []) σ1 Q := wp_callR (as := [vR c0, vI s1]) (rest := []) rfl rfl rfl rfl rfl rfl rfl (grecv_k (by rw [h]) rfl) hR
set_option maxRecDepth 4000 in
theorem r_M_part0_151 : Wp L d k_M_part0 151 [l0, l1] [vI s0] σ Q ↔ (if s0 = 0 then Wp L d k_M_part0 163 [l0, l1] [] σ Q else Wp L d k_M_part0 154 [l0, l1] [] σ Q) := wp_if_eq rfl
set_option maxRecDepth 4000 in
theorem r_M_part0_154 : Wp L d k_M_part0 154 [vR b0, l1] [] σ Q ↔ Wp L d k_M_part0 155 [vR b0, l1] [vR b0] σ Q := wp_aload rfl rfl
set_option maxRecDepth 4000 in
theorem r_M_part0_155 (h : gK c0 = 12) : Wp L d k_M_part0 155 [l0, l1] [vR c0] σ Q ↔ Wp L d k_M_part0 158 [l0, l1] [vI (σ c0 15)] σ Q := wp_getI (c := 3087) rfl rfl rfl rfl h
set_option maxRecDepth 4000 in
theorem r_M_part0_158 : Wp L d k_M_part0 158 [l0, l1] [vI s0] σ Q ↔ Wp L d k_M_part0 160 [l0, l1] [vI 8, vI s0] σ Q := wp_push rfl
set_option maxRecDepth 4000 in
theorem r_M_part0_160 : Wp L d k_M_part0 160 [l0, l1] [vI s1, vI s0] σ Q ↔ (if s0 ≠ s1 then Wp L d k_M_part0 165 [l0, l1] [] σ Q else Wp L d k_M_part0 163 [l0, l1] [] σ Q) := wp_cmp_ne rfl
set_option maxRecDepth 4000 in
theorem r_M_part0_163 : Wp L d k_M_part0 163 [l0, l1] [] σ Q ↔ Wp L d k_M_part0 164 [l0, l1] [vI 0] σ Q := wp_push rfl
set_option maxRecDepth 4000 in
theorem r_M_part0_164 (h : s0 = 0 ∨ s0 = 1) : Wp L d k_M_part0 164 [l0, l1] [vI s0] σ Q ↔ Q (some (vI s0)) σ := wp_zret rfl h
set_option maxRecDepth 4000 in
theorem r_M_part0_165 : Wp L d k_M_part0 165 [vR b0, l1] [] σ Q ↔ Wp L d k_M_part0 166 [vR b0, l1] [vR b0] σ Q := wp_aload rfl rfl
set_option maxRecDepth 4000 in
theorem r_M_part0_166 : Wp L d k_M_part0 166 [l0, l1] [vR c0] σ Q ↔ Wp L d k_M_part0 167 [l0, l1] [vR c0, vR c0] σ Q := wp_dupR rfl
set_option maxRecDepth 4000 in
theorem r_M_part0_167 (h : gK c1 = 12) : Wp L d k_M_part0 167 [l0, l1] [vR c1, vR c0] σ Q ↔ Wp L d k_M_part0 170 [l0, l1] [vI (σ c1 15), vR c0] σ Q := wp_getI (c := 3087) rfl rfl rfl rfl h
set_option maxRecDepth 4000 in
theorem r_M_part0_170 : Wp L d k_M_part0 170 [l0, l1] [vI s1, vR c0] σ Q ↔ Wp L d k_M_part0 171 [l0, l1] [vI 1, vI s1, vR c0] σ Q := wp_push rfl
set_option maxRecDepth 4000 in
theorem r_M_part0_171 : Wp L d k_M_part0 171 [l0, l1] [vI s2, vI s1, vR c0] σ Q ↔ Wp L d k_M_part0 172 [l0, l1] [vI (w32 (s1 + s2)), vR c0] σ Q := wp_iadd rfl
set_option maxRecDepth 4000 in
theorem r_M_part0_172 (h : gK c0 = 12) : Wp L d k_M_part0 172 [l0, l1] [vI s1, vR c0] σ Q ↔ Wp L d k_M_part0 175 [l0, l1] [] (gupd σ c0 15 s1) Q := wp_putI (c := 3087) rfl rfl rfl rfl h
set_option maxRecDepth 4000 in
theorem r_M_part0_175 : Wp L d k_M_part0 175 [vR b0, l1] [] σ Q ↔ Wp L d k_M_part0 176 [vR b0, l1] [vR b0] σ Q := wp_aload rfl rfl
set_option maxRecDepth 4000 in
theorem c_M_part0_176 (hR : Run L d 241 [vR c0] σ r σ1) (h : gK c0 = 12) : Wp L (d + 1) k_M_part0 176 [l0, l1] [vR c0] σ Q ↔ Wp L (d + 1) k_M_part0 179 [l0, l1] (r.toList ++ []) σ1 Q := wp_callR (as := [vR c0]) (rest := []) rfl rfl rfl rfl rfl rfl rfl (grecv_k (by rw [h]) rfl) hR
set_option maxRecDepth 4000 in
theorem r_M_part0_179 : Wp L d k_M_part0 179 [vR b0, l1] [] σ Q ↔ Wp L d k_M_part0 180 [vR b0, l1] [vR b0] σ Q := wp_aload rfl rfl
set_option maxRecDepth 4000 in
theorem r_M_part0_180 : Wp L d k_M_part0 180 [l0, vI a1] [vR c0] σ Q ↔ Wp L d k_M_part0 181 [l0, vI a1] [vI a1, vR c0] σ Q := wp_iload rfl rfl
set_option maxRecDepth 4000 in
theorem c_M_part0_181 (hR : Run L d 247 [vR c0, vI s1] σ r σ1) (h : gK c0 = 12) : Wp L (d + 1) k_M_part0 181 [l0, l1] [vI s1, vR c0] σ Q ↔ Wp L (d + 1) k_M_part0 184 [l0, l1] (r.toList ++ []) σ1 Q := wp_callR (as := [vR c0, vI s1]) (rest := []) rfl rfl rfl rfl rfl rfl rfl (grecv_k (by rw [h]) rfl) hR
set_option maxRecDepth 4000 in
theorem r_M_part0_184 : Wp L d k_M_part0 184 [l0, l1] [vI s0] σ Q ↔ (if s0 = 0 then Wp L d k_M_part0 196 [l0, l1] [] σ Q else Wp L d k_M_part0 187 [l0, l1] [] σ Q) := wp_if_eq rfl
set_option maxRecDepth 4000 in
theorem r_M_part0_187 : Wp L d k_M_part0 187 [vR b0, l1] [] σ Q ↔ Wp L d k_M_part0 188 [vR b0, l1] [vR b0] σ Q := wp_aload rfl rfl
set_option maxRecDepth 4000 in
theorem r_M_part0_188 : Wp L d k_M_part0 188 [l0, l1] [vR c0] σ Q ↔ Wp L d k_M_part0 190 [l0, l1] [vI 41, vR c0] σ Q := wp_push rfl
set_option maxRecDepth 4000 in
theorem c_M_part0_190 (hR : Run L d 255 [vR c0, vI s1] σ r σ1) (h : gK c0 = 12) : Wp L (d + 1) k_M_part0 190 [l0, l1] [vI s1, vR c0] σ Q ↔ Wp L (d + 1) k_M_part0 193 [l0, l1] (r.toList ++ []) σ1 Q := wp_callR (as := [vR c0, vI s1]) (rest := []) rfl rfl rfl rfl rfl rfl rfl (grecv_k (by rw [h]) rfl) hR
set_option maxRecDepth 4000 in
theorem r_M_part0_193 : Wp L d k_M_part0 193 [l0, l1] [vI s0] σ Q ↔ (if s0 ≠ 0 then Wp L d k_M_part0 198 [l0, l1] [] σ Q else Wp L d k_M_part0 196 [l0, l1] [] σ Q) := wp_if_ne rfl
set_option maxRecDepth 4000 in
theorem r_M_part0_196 : Wp L d k_M_part0 196 [l0, l1] [] σ Q ↔ Wp L d k_M_part0 197 [l0, l1] [vI 0] σ Q := wp_push rfl
set_option maxRecDepth 4000 in
theorem r_M_part0_197 (h : s0 = 0 ∨ s0 = 1) : Wp L d k_M_part0 197 [l0, l1] [vI s0] σ Q ↔ Q (some (vI s0)) σ := wp_zret rfl h
set_option maxRecDepth 4000 in
theorem r_M_part0_198 : Wp L d k_M_part0 198 [vR b0, l1] [] σ Q ↔ Wp L d k_M_part0 199 [vR b0, l1] [vR b0] σ Q := wp_aload rfl rfl
set_option maxRecDepth 4000 in
theorem r_M_part0_199 : Wp L d k_M_part0 199 [l0, l1] [vR c0] σ Q ↔ Wp L d k_M_part0 200 [l0, l1] [vR c0, vR c0] σ Q := wp_dupR rfl
set_option maxRecDepth 4000 in
theorem r_M_part0_200 (h : gK c1 = 12) : Wp L d k_M_part0 200 [l0, l1] [vR c1, vR c0] σ Q ↔ Wp L d k_M_part0 203 [l0, l1] [vI (σ c1 15), vR c0] σ Q := wp_getI (c := 3087) rfl rfl rfl rfl h
set_option maxRecDepth 4000 in
theorem r_M_part0_203 : Wp L d k_M_part0 203 [l0, l1] [vI s1, vR c0] σ Q ↔ Wp L d k_M_part0 204 [l0, l1] [vI 1, vI s1, vR c0] σ Q := wp_push rfl
set_option maxRecDepth 4000 in
theorem r_M_part0_204 : Wp L d k_M_part0 204 [l0, l1] [vI s2, vI s1, vR c0] σ Q ↔ Wp L d k_M_part0 205 [l0, l1] [vI (w32 (s1 - s2)), vR c0] σ Q := wp_isub rfl
set_option maxRecDepth 4000 in
theorem r_M_part0_205 (h : gK c0 = 12) : Wp L d k_M_part0 205 [l0, l1] [vI s1, vR c0] σ Q ↔ Wp L d k_M_part0 208 [l0, l1] [] (gupd σ c0 15 s1) Q := wp_putI (c := 3087) rfl rfl rfl rfl h
set_option maxRecDepth 4000 in
theorem r_M_part0_208 : Wp L d k_M_part0 208 [vR b0, l1] [] σ Q ↔ Wp L d k_M_part0 209 [vR b0, l1] [vR b0] σ Q := wp_aload rfl rfl
set_option maxRecDepth 4000 in
theorem c_M_part0_209 (hR : Run L d 241 [vR c0] σ r σ1) (h : gK c0 = 12) : Wp L (d + 1) k_M_part0 209 [l0, l1] [vR c0] σ Q ↔ Wp L (d + 1) k_M_part0 212 [l0, l1] (r.toList ++ []) σ1 Q := wp_callR (as := [vR c0]) (rest := []) rfl rfl rfl rfl rfl rfl rfl (grecv_k (by rw [h]) rfl) hR
set_option maxRecDepth 4000 in
theorem r_M_part0_212 : Wp L d k_M_part0 212 [l0, l1] [] σ Q ↔ Wp L d k_M_part0 213 [l0, l1] [vI 1] σ Q := wp_push rfl
set_option maxRecDepth 4000 in
theorem r_M_part0_213 (h : s0 = 0 ∨ s0 = 1) : Wp L d k_M_part0 213 [l0, l1] [vI s0] σ Q ↔ Q (some (vI s0)) σ := wp_zret rfl h
set_option maxRecDepth 4000 in
theorem mp_num {σ2 σ3 : gMm} {key : Int}  (h1 : σ 293 12 = 2) (hL : Run L (d + 7) 253 [vR 293, vI 0, vI (σ 293 13)] σ none σ2) (hv : 0 ≤ σ2 293 19 ∧ σ2 293 19 < 96) (hN : Run L (d + 7) 241 [vR 293] (gupd σ2 293 19 (σ2 293 19 + 1)) none σ3) : Run L (d + 8) 252 [vR 293, vI key] σ (some (vI 1)) σ3 := by
  refine Run_of (C' := k_M_part0) rfl ?_
  show Wp L (d + 8) k_M_part0 0 [vR 293, vI key] [] σ _
  obtain ⟨K293, Q293, K294, N294⟩ := litM
  simp (disch := first | assumption | exact gb_01 _ | omega) only [r_M_part0_0, r_M_part0_1, r_M_part0_4, r_M_part0_5, r_M_part0_8, r_M_part0_9, r_M_part0_10, r_M_part0_11, r_M_part0_17, r_M_part0_18, r_M_part0_19, r_M_part0_22, r_M_part0_23, r_M_part0_24, r_M_part0_27, r_M_part0_31, r_M_part0_32, r_M_part0_33, r_M_part0_34, r_M_part0_37, r_M_part0_38, r_M_part0_41, r_M_part0_42, r_M_part0_45, r_M_part0_48, r_M_part0_49, r_M_part0_50, r_M_part0_56, r_M_part0_59, r_M_part0_60, r_M_part0_61, r_M_part0_62, r_M_part0_68, r_M_part0_69, r_M_part0_70, r_M_part0_73, r_M_part0_74, r_M_part0_75, r_M_part0_78, r_M_part0_82, r_M_part0_83, r_M_part0_84, r_M_part0_85, r_M_part0_90, r_M_part0_93, r_M_part0_94, r_M_part0_97, r_M_part0_99, r_M_part0_102, r_M_part0_103, r_M_part0_104, r_M_part0_107, r_M_part0_108, r_M_part0_109, r_M_part0_112, r_M_part0_116, r_M_part0_117, r_M_part0_121, r_M_part0_124, r_M_part0_125, r_M_part0_126, r_M_part0_127, r_M_part0_128, r_M_part0_131, r_M_part0_132, r_M_part0_133, r_M_part0_136, r_M_part0_137, r_M_part0_138, r_M_part0_143, r_M_part0_144, r_M_part0_145, r_M_part0_146, r_M_part0_151, r_M_part0_154, r_M_part0_155, r_M_part0_158, r_M_part0_160, r_M_part0_163, r_M_part0_164, r_M_part0_165, r_M_part0_166, r_M_part0_167, r_M_part0_170, r_M_part0_171, r_M_part0_172, r_M_part0_175, r_M_part0_179, r_M_part0_180, r_M_part0_184, r_M_part0_187, r_M_part0_188, r_M_part0_193, r_M_part0_196, r_M_part0_197, r_M_part0_198, r_M_part0_199, r_M_part0_200, r_M_part0_203, r_M_part0_204, r_M_part0_205, r_M_part0_208, r_M_part0_212, r_M_part0_213, c_M_part0_14 hL, c_M_part0_28 hN, Option.toList, List.singleton_append, List.cons_append, List.nil_append, List.append_nil, h1, w32_gb, w32i, tn_add, tn_mul, Int.toNat_natCast, Int.toNat_zero, Int.reduceLE, Int.reduceLT, Int.reduceEq, Int.reduceNe, gb_T, gb_F, Int.reduceToNat, eq_self, true_or, or_true, and_true, true_and, and_self, ↓ite_gb0, ↓ite_gbn, ↓if_pos, ↓if_neg, if_true, if_false, not_true_eq_false, not_false_eq_true, gb_ne0, gb_eq0]
set_option maxRecDepth 4000 in
theorem mp_name {σ2 σ3 : gMm} {key : Int}  (h1 : σ 293 12 = 1) (h2 : σ 293 14 ≠ 0) (hI : Run L (d + 7) 254 [vI key, vI (σ 293 14)] σ (some (vI 1)) σ) (hL : Run L (d + 7) 253 [vR 293, vI 1, vI (σ 293 14)] σ none σ2) (hv : 0 ≤ σ2 293 19 ∧ σ2 293 19 < 96) (hN : Run L (d + 7) 241 [vR 293] (gupd σ2 293 19 (σ2 293 19 + 1)) none σ3) : Run L (d + 8) 252 [vR 293, vI key] σ (some (vI 1)) σ3 := by
  refine Run_of (C' := k_M_part0) rfl ?_
  show Wp L (d + 8) k_M_part0 0 [vR 293, vI key] [] σ _
  obtain ⟨K293, Q293, K294, N294⟩ := litM
  simp (disch := first | assumption | exact gb_01 _ | omega) only [r_M_part0_0, r_M_part0_1, r_M_part0_4, r_M_part0_5, r_M_part0_8, r_M_part0_9, r_M_part0_10, r_M_part0_11, r_M_part0_17, r_M_part0_18, r_M_part0_19, r_M_part0_22, r_M_part0_23, r_M_part0_24, r_M_part0_27, r_M_part0_31, r_M_part0_32, r_M_part0_33, r_M_part0_34, r_M_part0_37, r_M_part0_38, r_M_part0_41, r_M_part0_42, r_M_part0_45, r_M_part0_48, r_M_part0_49, r_M_part0_50, r_M_part0_56, r_M_part0_59, r_M_part0_60, r_M_part0_61, r_M_part0_62, r_M_part0_68, r_M_part0_69, r_M_part0_70, r_M_part0_73, r_M_part0_74, r_M_part0_75, r_M_part0_78, r_M_part0_82, r_M_part0_83, r_M_part0_84, r_M_part0_85, r_M_part0_90, r_M_part0_93, r_M_part0_94, r_M_part0_97, r_M_part0_99, r_M_part0_102, r_M_part0_103, r_M_part0_104, r_M_part0_107, r_M_part0_108, r_M_part0_109, r_M_part0_112, r_M_part0_116, r_M_part0_117, r_M_part0_121, r_M_part0_124, r_M_part0_125, r_M_part0_126, r_M_part0_127, r_M_part0_128, r_M_part0_131, r_M_part0_132, r_M_part0_133, r_M_part0_136, r_M_part0_137, r_M_part0_138, r_M_part0_143, r_M_part0_144, r_M_part0_145, r_M_part0_146, r_M_part0_151, r_M_part0_154, r_M_part0_155, r_M_part0_158, r_M_part0_160, r_M_part0_163, r_M_part0_164, r_M_part0_165, r_M_part0_166, r_M_part0_167, r_M_part0_170, r_M_part0_171, r_M_part0_172, r_M_part0_175, r_M_part0_179, r_M_part0_180, r_M_part0_184, r_M_part0_187, r_M_part0_188, r_M_part0_193, r_M_part0_196, r_M_part0_197, r_M_part0_198, r_M_part0_199, r_M_part0_200, r_M_part0_203, r_M_part0_204, r_M_part0_205, r_M_part0_208, r_M_part0_212, r_M_part0_213, c_M_part0_53 hI, c_M_part0_65 hL, c_M_part0_79 hN, Option.toList, List.singleton_append, List.cons_append, List.nil_append, List.append_nil, h1, w32_gb, w32i, tn_add, tn_mul, Int.toNat_natCast, Int.toNat_zero, Int.reduceLE, Int.reduceLT, Int.reduceEq, Int.reduceNe, gb_T, gb_F, Int.reduceToNat, eq_self, true_or, or_true, and_true, true_and, and_self, ↓ite_gb0, ↓ite_gbn, ↓if_pos, ↓if_neg, if_true, if_false, not_true_eq_false, not_false_eq_true, gb_ne0, gb_eq0]
set_option maxRecDepth 4000 in
theorem mp_not0 {σ2 σ3 : gMm} {key : Int}  (h1 : σ 293 12 = 3) (h2 : 0 ≤ σ 293 16 ∧ σ 293 16 < 8) (hS : Run L (d + 7) 255 [vR 293, vI 33] σ (some (vI 1)) σ) (hN : Run L (d + 7) 241 [vR 293] (gupd σ 293 16 (σ 293 16 + 1)) none σ2) (hU : Run L (d + 7) 252 [vR 293, vI key] σ2 (some (vI 0)) σ3) : Run L (d + 8) 252 [vR 293, vI key] σ (some (vI 0)) σ3 := by
  refine Run_of (C' := k_M_part0) rfl ?_
  show Wp L (d + 8) k_M_part0 0 [vR 293, vI key] [] σ _
  obtain ⟨K293, Q293, K294, N294⟩ := litM
  simp (disch := first | assumption | exact gb_01 _ | omega) only [r_M_part0_0, r_M_part0_1, r_M_part0_4, r_M_part0_5, r_M_part0_8, r_M_part0_9, r_M_part0_10, r_M_part0_11, r_M_part0_17, r_M_part0_18, r_M_part0_19, r_M_part0_22, r_M_part0_23, r_M_part0_24, r_M_part0_27, r_M_part0_31, r_M_part0_32, r_M_part0_33, r_M_part0_34, r_M_part0_37, r_M_part0_38, r_M_part0_41, r_M_part0_42, r_M_part0_45, r_M_part0_48, r_M_part0_49, r_M_part0_50, r_M_part0_56, r_M_part0_59, r_M_part0_60, r_M_part0_61, r_M_part0_62, r_M_part0_68, r_M_part0_69, r_M_part0_70, r_M_part0_73, r_M_part0_74, r_M_part0_75, r_M_part0_78, r_M_part0_82, r_M_part0_83, r_M_part0_84, r_M_part0_85, r_M_part0_90, r_M_part0_93, r_M_part0_94, r_M_part0_97, r_M_part0_99, r_M_part0_102, r_M_part0_103, r_M_part0_104, r_M_part0_107, r_M_part0_108, r_M_part0_109, r_M_part0_112, r_M_part0_116, r_M_part0_117, r_M_part0_121, r_M_part0_124, r_M_part0_125, r_M_part0_126, r_M_part0_127, r_M_part0_128, r_M_part0_131, r_M_part0_132, r_M_part0_133, r_M_part0_136, r_M_part0_137, r_M_part0_138, r_M_part0_143, r_M_part0_144, r_M_part0_145, r_M_part0_146, r_M_part0_151, r_M_part0_154, r_M_part0_155, r_M_part0_158, r_M_part0_160, r_M_part0_163, r_M_part0_164, r_M_part0_165, r_M_part0_166, r_M_part0_167, r_M_part0_170, r_M_part0_171, r_M_part0_172, r_M_part0_175, r_M_part0_179, r_M_part0_180, r_M_part0_184, r_M_part0_187, r_M_part0_188, r_M_part0_193, r_M_part0_196, r_M_part0_197, r_M_part0_198, r_M_part0_199, r_M_part0_200, r_M_part0_203, r_M_part0_204, r_M_part0_205, r_M_part0_208, r_M_part0_212, r_M_part0_213, c_M_part0_87 hS, c_M_part0_113 hN, c_M_part0_118 hU, Option.toList, List.singleton_append, List.cons_append, List.nil_append, List.append_nil, h1, w32_gb, w32i, tn_add, tn_mul, Int.toNat_natCast, Int.toNat_zero, Int.reduceLE, Int.reduceLT, Int.reduceEq, Int.reduceNe, gb_T, gb_F, Int.reduceToNat, eq_self, true_or, or_true, and_true, true_and, and_self, ↓ite_gb0, ↓ite_gbn, ↓if_pos, ↓if_neg, if_true, if_false, not_true_eq_false, not_false_eq_true, gb_ne0, gb_eq0]
set_option maxRecDepth 4000 in
theorem mp_not1 {σ2 σ3 σ4 : gMm} {key : Int}  (h1 : σ 293 12 = 3) (h2 : 0 ≤ σ 293 16 ∧ σ 293 16 < 8) (hS : Run L (d + 7) 255 [vR 293, vI 33] σ (some (vI 1)) σ) (hN : Run L (d + 7) 241 [vR 293] (gupd σ 293 16 (σ 293 16 + 1)) none σ2) (hU : Run L (d + 7) 252 [vR 293, vI key] σ2 (some (vI 1)) σ3) (h3 : 1 ≤ σ3 293 16 ∧ σ3 293 16 ≤ 8) (hL : Run L (d + 7) 253 [vR 293, vI 2, vI 33] (gupd σ3 293 16 (σ3 293 16 - 1)) none σ4) : Run L (d + 8) 252 [vR 293, vI key] σ (some (vI 1)) σ4 := by
  refine Run_of (C' := k_M_part0) rfl ?_
  show Wp L (d + 8) k_M_part0 0 [vR 293, vI key] [] σ _
  obtain ⟨K293, Q293, K294, N294⟩ := litM
  simp (disch := first | assumption | exact gb_01 _ | omega) only [r_M_part0_0, r_M_part0_1, r_M_part0_4, r_M_part0_5, r_M_part0_8, r_M_part0_9, r_M_part0_10, r_M_part0_11, r_M_part0_17, r_M_part0_18, r_M_part0_19, r_M_part0_22, r_M_part0_23, r_M_part0_24, r_M_part0_27, r_M_part0_31, r_M_part0_32, r_M_part0_33, r_M_part0_34, r_M_part0_37, r_M_part0_38, r_M_part0_41, r_M_part0_42, r_M_part0_45, r_M_part0_48, r_M_part0_49, r_M_part0_50, r_M_part0_56, r_M_part0_59, r_M_part0_60, r_M_part0_61, r_M_part0_62, r_M_part0_68, r_M_part0_69, r_M_part0_70, r_M_part0_73, r_M_part0_74, r_M_part0_75, r_M_part0_78, r_M_part0_82, r_M_part0_83, r_M_part0_84, r_M_part0_85, r_M_part0_90, r_M_part0_93, r_M_part0_94, r_M_part0_97, r_M_part0_99, r_M_part0_102, r_M_part0_103, r_M_part0_104, r_M_part0_107, r_M_part0_108, r_M_part0_109, r_M_part0_112, r_M_part0_116, r_M_part0_117, r_M_part0_121, r_M_part0_124, r_M_part0_125, r_M_part0_126, r_M_part0_127, r_M_part0_128, r_M_part0_131, r_M_part0_132, r_M_part0_133, r_M_part0_136, r_M_part0_137, r_M_part0_138, r_M_part0_143, r_M_part0_144, r_M_part0_145, r_M_part0_146, r_M_part0_151, r_M_part0_154, r_M_part0_155, r_M_part0_158, r_M_part0_160, r_M_part0_163, r_M_part0_164, r_M_part0_165, r_M_part0_166, r_M_part0_167, r_M_part0_170, r_M_part0_171, r_M_part0_172, r_M_part0_175, r_M_part0_179, r_M_part0_180, r_M_part0_184, r_M_part0_187, r_M_part0_188, r_M_part0_193, r_M_part0_196, r_M_part0_197, r_M_part0_198, r_M_part0_199, r_M_part0_200, r_M_part0_203, r_M_part0_204, r_M_part0_205, r_M_part0_208, r_M_part0_212, r_M_part0_213, c_M_part0_87 hS, c_M_part0_113 hN, c_M_part0_118 hU, c_M_part0_140 hL, Option.toList, List.singleton_append, List.cons_append, List.nil_append, List.append_nil, h1, w32_gb, w32i, tn_add, tn_mul, Int.toNat_natCast, Int.toNat_zero, Int.reduceLE, Int.reduceLT, Int.reduceEq, Int.reduceNe, gb_T, gb_F, Int.reduceToNat, eq_self, true_or, or_true, and_true, true_and, and_self, ↓ite_gb0, ↓ite_gbn, ↓if_pos, ↓if_neg, if_true, if_false, not_true_eq_false, not_false_eq_true, gb_ne0, gb_eq0]
set_option maxRecDepth 4000 in
theorem mp_par0 {σ2 σ3 : gMm} {key : Int}  (h1 : σ 293 12 = 3) (h2 : 0 ≤ σ 293 15 ∧ σ 293 15 < 8) (hS : Run L (d + 7) 255 [vR 293, vI 33] σ (some (vI 0)) σ) (hS2 : Run L (d + 7) 255 [vR 293, vI 40] σ (some (vI 1)) σ) (hN : Run L (d + 7) 241 [vR 293] (gupd σ 293 15 (σ 293 15 + 1)) none σ2) (hU : Run L (d + 7) 247 [vR 293, vI key] σ2 (some (vI 0)) σ3) : Run L (d + 8) 252 [vR 293, vI key] σ (some (vI 0)) σ3 := by
  refine Run_of (C' := k_M_part0) rfl ?_
  show Wp L (d + 8) k_M_part0 0 [vR 293, vI key] [] σ _
  obtain ⟨K293, Q293, K294, N294⟩ := litM
  simp (disch := first | assumption | exact gb_01 _ | omega) only [r_M_part0_0, r_M_part0_1, r_M_part0_4, r_M_part0_5, r_M_part0_8, r_M_part0_9, r_M_part0_10, r_M_part0_11, r_M_part0_17, r_M_part0_18, r_M_part0_19, r_M_part0_22, r_M_part0_23, r_M_part0_24, r_M_part0_27, r_M_part0_31, r_M_part0_32, r_M_part0_33, r_M_part0_34, r_M_part0_37, r_M_part0_38, r_M_part0_41, r_M_part0_42, r_M_part0_45, r_M_part0_48, r_M_part0_49, r_M_part0_50, r_M_part0_56, r_M_part0_59, r_M_part0_60, r_M_part0_61, r_M_part0_62, r_M_part0_68, r_M_part0_69, r_M_part0_70, r_M_part0_73, r_M_part0_74, r_M_part0_75, r_M_part0_78, r_M_part0_82, r_M_part0_83, r_M_part0_84, r_M_part0_85, r_M_part0_90, r_M_part0_93, r_M_part0_94, r_M_part0_97, r_M_part0_99, r_M_part0_102, r_M_part0_103, r_M_part0_104, r_M_part0_107, r_M_part0_108, r_M_part0_109, r_M_part0_112, r_M_part0_116, r_M_part0_117, r_M_part0_121, r_M_part0_124, r_M_part0_125, r_M_part0_126, r_M_part0_127, r_M_part0_128, r_M_part0_131, r_M_part0_132, r_M_part0_133, r_M_part0_136, r_M_part0_137, r_M_part0_138, r_M_part0_143, r_M_part0_144, r_M_part0_145, r_M_part0_146, r_M_part0_151, r_M_part0_154, r_M_part0_155, r_M_part0_158, r_M_part0_160, r_M_part0_163, r_M_part0_164, r_M_part0_165, r_M_part0_166, r_M_part0_167, r_M_part0_170, r_M_part0_171, r_M_part0_172, r_M_part0_175, r_M_part0_179, r_M_part0_180, r_M_part0_184, r_M_part0_187, r_M_part0_188, r_M_part0_193, r_M_part0_196, r_M_part0_197, r_M_part0_198, r_M_part0_199, r_M_part0_200, r_M_part0_203, r_M_part0_204, r_M_part0_205, r_M_part0_208, r_M_part0_212, r_M_part0_213, c_M_part0_87 hS, c_M_part0_148 hS2, c_M_part0_176 hN, c_M_part0_181 hU, Option.toList, List.singleton_append, List.cons_append, List.nil_append, List.append_nil, h1, w32_gb, w32i, tn_add, tn_mul, Int.toNat_natCast, Int.toNat_zero, Int.reduceLE, Int.reduceLT, Int.reduceEq, Int.reduceNe, gb_T, gb_F, Int.reduceToNat, eq_self, true_or, or_true, and_true, true_and, and_self, ↓ite_gb0, ↓ite_gbn, ↓if_pos, ↓if_neg, if_true, if_false, not_true_eq_false, not_false_eq_true, gb_ne0, gb_eq0]
set_option maxRecDepth 4000 in
theorem mp_par1 {σ2 σ3 : gMm} {key : Int}  (h1 : σ 293 12 = 3) (h2 : 0 ≤ σ 293 15 ∧ σ 293 15 < 8) (hS : Run L (d + 7) 255 [vR 293, vI 33] σ (some (vI 0)) σ) (hS2 : Run L (d + 7) 255 [vR 293, vI 40] σ (some (vI 1)) σ) (hN : Run L (d + 7) 241 [vR 293] (gupd σ 293 15 (σ 293 15 + 1)) none σ2) (hU : Run L (d + 7) 247 [vR 293, vI key] σ2 (some (vI 1)) σ3) (hS3 : Run L (d + 7) 255 [vR 293, vI 41] σ3 (some (vI 0)) σ3) : Run L (d + 8) 252 [vR 293, vI key] σ (some (vI 0)) σ3 := by
  refine Run_of (C' := k_M_part0) rfl ?_
  show Wp L (d + 8) k_M_part0 0 [vR 293, vI key] [] σ _
  obtain ⟨K293, Q293, K294, N294⟩ := litM
  simp (disch := first | assumption | exact gb_01 _ | omega) only [r_M_part0_0, r_M_part0_1, r_M_part0_4, r_M_part0_5, r_M_part0_8, r_M_part0_9, r_M_part0_10, r_M_part0_11, r_M_part0_17, r_M_part0_18, r_M_part0_19, r_M_part0_22, r_M_part0_23, r_M_part0_24, r_M_part0_27, r_M_part0_31, r_M_part0_32, r_M_part0_33, r_M_part0_34, r_M_part0_37, r_M_part0_38, r_M_part0_41, r_M_part0_42, r_M_part0_45, r_M_part0_48, r_M_part0_49, r_M_part0_50, r_M_part0_56, r_M_part0_59, r_M_part0_60, r_M_part0_61, r_M_part0_62, r_M_part0_68, r_M_part0_69, r_M_part0_70, r_M_part0_73, r_M_part0_74, r_M_part0_75, r_M_part0_78, r_M_part0_82, r_M_part0_83, r_M_part0_84, r_M_part0_85, r_M_part0_90, r_M_part0_93, r_M_part0_94, r_M_part0_97, r_M_part0_99, r_M_part0_102, r_M_part0_103, r_M_part0_104, r_M_part0_107, r_M_part0_108, r_M_part0_109, r_M_part0_112, r_M_part0_116, r_M_part0_117, r_M_part0_121, r_M_part0_124, r_M_part0_125, r_M_part0_126, r_M_part0_127, r_M_part0_128, r_M_part0_131, r_M_part0_132, r_M_part0_133, r_M_part0_136, r_M_part0_137, r_M_part0_138, r_M_part0_143, r_M_part0_144, r_M_part0_145, r_M_part0_146, r_M_part0_151, r_M_part0_154, r_M_part0_155, r_M_part0_158, r_M_part0_160, r_M_part0_163, r_M_part0_164, r_M_part0_165, r_M_part0_166, r_M_part0_167, r_M_part0_170, r_M_part0_171, r_M_part0_172, r_M_part0_175, r_M_part0_179, r_M_part0_180, r_M_part0_184, r_M_part0_187, r_M_part0_188, r_M_part0_193, r_M_part0_196, r_M_part0_197, r_M_part0_198, r_M_part0_199, r_M_part0_200, r_M_part0_203, r_M_part0_204, r_M_part0_205, r_M_part0_208, r_M_part0_212, r_M_part0_213, c_M_part0_87 hS, c_M_part0_148 hS2, c_M_part0_176 hN, c_M_part0_181 hU, c_M_part0_190 hS3, Option.toList, List.singleton_append, List.cons_append, List.nil_append, List.append_nil, h1, w32_gb, w32i, tn_add, tn_mul, Int.toNat_natCast, Int.toNat_zero, Int.reduceLE, Int.reduceLT, Int.reduceEq, Int.reduceNe, gb_T, gb_F, Int.reduceToNat, eq_self, true_or, or_true, and_true, true_and, and_self, ↓ite_gb0, ↓ite_gbn, ↓if_pos, ↓if_neg, if_true, if_false, not_true_eq_false, not_false_eq_true, gb_ne0, gb_eq0]
set_option maxRecDepth 4000 in
theorem mp_par2 {σ2 σ3 σ4 : gMm} {key : Int}  (h1 : σ 293 12 = 3) (h2 : 0 ≤ σ 293 15 ∧ σ 293 15 < 8) (hS : Run L (d + 7) 255 [vR 293, vI 33] σ (some (vI 0)) σ) (hS2 : Run L (d + 7) 255 [vR 293, vI 40] σ (some (vI 1)) σ) (hN : Run L (d + 7) 241 [vR 293] (gupd σ 293 15 (σ 293 15 + 1)) none σ2) (hU : Run L (d + 7) 247 [vR 293, vI key] σ2 (some (vI 1)) σ3) (hS3 : Run L (d + 7) 255 [vR 293, vI 41] σ3 (some (vI 1)) σ3) (h3 : 1 ≤ σ3 293 15 ∧ σ3 293 15 ≤ 8) (hN2 : Run L (d + 7) 241 [vR 293] (gupd σ3 293 15 (σ3 293 15 - 1)) none σ4) : Run L (d + 8) 252 [vR 293, vI key] σ (some (vI 1)) σ4 := by
  refine Run_of (C' := k_M_part0) rfl ?_
  show Wp L (d + 8) k_M_part0 0 [vR 293, vI key] [] σ _
  obtain ⟨K293, Q293, K294, N294⟩ := litM
  simp (disch := first | assumption | exact gb_01 _ | omega) only [r_M_part0_0, r_M_part0_1, r_M_part0_4, r_M_part0_5, r_M_part0_8, r_M_part0_9, r_M_part0_10, r_M_part0_11, r_M_part0_17, r_M_part0_18, r_M_part0_19, r_M_part0_22, r_M_part0_23, r_M_part0_24, r_M_part0_27, r_M_part0_31, r_M_part0_32, r_M_part0_33, r_M_part0_34, r_M_part0_37, r_M_part0_38, r_M_part0_41, r_M_part0_42, r_M_part0_45, r_M_part0_48, r_M_part0_49, r_M_part0_50, r_M_part0_56, r_M_part0_59, r_M_part0_60, r_M_part0_61, r_M_part0_62, r_M_part0_68, r_M_part0_69, r_M_part0_70, r_M_part0_73, r_M_part0_74, r_M_part0_75, r_M_part0_78, r_M_part0_82, r_M_part0_83, r_M_part0_84, r_M_part0_85, r_M_part0_90, r_M_part0_93, r_M_part0_94, r_M_part0_97, r_M_part0_99, r_M_part0_102, r_M_part0_103, r_M_part0_104, r_M_part0_107, r_M_part0_108, r_M_part0_109, r_M_part0_112, r_M_part0_116, r_M_part0_117, r_M_part0_121, r_M_part0_124, r_M_part0_125, r_M_part0_126, r_M_part0_127, r_M_part0_128, r_M_part0_131, r_M_part0_132, r_M_part0_133, r_M_part0_136, r_M_part0_137, r_M_part0_138, r_M_part0_143, r_M_part0_144, r_M_part0_145, r_M_part0_146, r_M_part0_151, r_M_part0_154, r_M_part0_155, r_M_part0_158, r_M_part0_160, r_M_part0_163, r_M_part0_164, r_M_part0_165, r_M_part0_166, r_M_part0_167, r_M_part0_170, r_M_part0_171, r_M_part0_172, r_M_part0_175, r_M_part0_179, r_M_part0_180, r_M_part0_184, r_M_part0_187, r_M_part0_188, r_M_part0_193, r_M_part0_196, r_M_part0_197, r_M_part0_198, r_M_part0_199, r_M_part0_200, r_M_part0_203, r_M_part0_204, r_M_part0_205, r_M_part0_208, r_M_part0_212, r_M_part0_213, c_M_part0_87 hS, c_M_part0_148 hS2, c_M_part0_176 hN, c_M_part0_181 hU, c_M_part0_190 hS3, c_M_part0_209 hN2, Option.toList, List.singleton_append, List.cons_append, List.nil_append, List.append_nil, h1, w32_gb, w32i, tn_add, tn_mul, Int.toNat_natCast, Int.toNat_zero, Int.reduceLE, Int.reduceLT, Int.reduceEq, Int.reduceNe, gb_T, gb_F, Int.reduceToNat, eq_self, true_or, or_true, and_true, true_and, and_self, ↓ite_gb0, ↓ite_gbn, ↓if_pos, ↓if_neg, if_true, if_false, not_true_eq_false, not_false_eq_true, gb_ne0, gb_eq0]
set_option maxRecDepth 4000 in
theorem mp_none  {key f : Int}  {g : Int} (h1 : σ 293 12 ≠ 2) (h0 : σ 293 12 = 1 → σ 293 14 ≠ 0 → Run L (d + 7) 254 [vI key, vI (σ 293 14)] σ (some (vI 0)) σ) (hf : f = 0 ∨ f = 1 ∧ 8 ≤ σ 293 16) (hg : g = 0 ∨ g = 1 ∧ σ 293 15 = 8) (hS : Run L (d + 7) 255 [vR 293, vI 33] σ (some (vI f)) σ) (hS2 : Run L (d + 7) 255 [vR 293, vI 40] σ (some (vI g)) σ)  : Run L (d + 8) 252 [vR 293, vI key] σ (some (vI 0)) σ := by
  refine Run_of (C' := k_M_part0) rfl ?_
  show Wp L (d + 8) k_M_part0 0 [vR 293, vI key] [] σ _
  obtain ⟨K293, Q293, K294, N294⟩ := litM

  have fin : Wp L (d + 8) k_M_part0 84 [vR 293, vI key] [] σ (fun r' σ' => r' = some (vI 0) ∧ σ' = σ) := by
    rcases hf with rfl | ⟨rfl, hf⟩
    · rcases hg with rfl | ⟨rfl, hg⟩
      · simp (disch := first | assumption | exact gb_01 _ | omega) only [r_M_part0_0, r_M_part0_1, r_M_part0_4, r_M_part0_5, r_M_part0_8, r_M_part0_9, r_M_part0_10, r_M_part0_11, r_M_part0_17, r_M_part0_18, r_M_part0_19, r_M_part0_22, r_M_part0_23, r_M_part0_24, r_M_part0_27, r_M_part0_31, r_M_part0_32, r_M_part0_33, r_M_part0_34, r_M_part0_37, r_M_part0_38, r_M_part0_41, r_M_part0_42, r_M_part0_45, r_M_part0_48, r_M_part0_49, r_M_part0_50, r_M_part0_56, r_M_part0_59, r_M_part0_60, r_M_part0_61, r_M_part0_62, r_M_part0_68, r_M_part0_69, r_M_part0_70, r_M_part0_73, r_M_part0_74, r_M_part0_75, r_M_part0_78, r_M_part0_82, r_M_part0_83, r_M_part0_84, r_M_part0_85, r_M_part0_90, r_M_part0_93, r_M_part0_94, r_M_part0_97, r_M_part0_99, r_M_part0_102, r_M_part0_103, r_M_part0_104, r_M_part0_107, r_M_part0_108, r_M_part0_109, r_M_part0_112, r_M_part0_116, r_M_part0_117, r_M_part0_121, r_M_part0_124, r_M_part0_125, r_M_part0_126, r_M_part0_127, r_M_part0_128, r_M_part0_131, r_M_part0_132, r_M_part0_133, r_M_part0_136, r_M_part0_137, r_M_part0_138, r_M_part0_143, r_M_part0_144, r_M_part0_145, r_M_part0_146, r_M_part0_151, r_M_part0_154, r_M_part0_155, r_M_part0_158, r_M_part0_160, r_M_part0_163, r_M_part0_164, r_M_part0_165, r_M_part0_166, r_M_part0_167, r_M_part0_170, r_M_part0_171, r_M_part0_172, r_M_part0_175, r_M_part0_179, r_M_part0_180, r_M_part0_184, r_M_part0_187, r_M_part0_188, r_M_part0_193, r_M_part0_196, r_M_part0_197, r_M_part0_198, r_M_part0_199, r_M_part0_200, r_M_part0_203, r_M_part0_204, r_M_part0_205, r_M_part0_208, r_M_part0_212, r_M_part0_213, c_M_part0_87 hS, c_M_part0_148 hS2, Option.toList, List.singleton_append, List.cons_append, List.nil_append, List.append_nil, w32_gb, w32i, tn_add, tn_mul, Int.toNat_natCast, Int.toNat_zero, Int.reduceLE, Int.reduceLT, Int.reduceEq, Int.reduceNe, gb_T, gb_F, Int.reduceToNat, eq_self, true_or, or_true, and_true, true_and, and_self, ↓ite_gb0, ↓ite_gbn, ↓if_pos, ↓if_neg, if_true, if_false, not_true_eq_false, not_false_eq_true, gb_ne0, gb_eq0]
      · simp (disch := first | assumption | exact gb_01 _ | omega) only [r_M_part0_0, r_M_part0_1, r_M_part0_4, r_M_part0_5, r_M_part0_8, r_M_part0_9, r_M_part0_10, r_M_part0_11, r_M_part0_17, r_M_part0_18, r_M_part0_19, r_M_part0_22, r_M_part0_23, r_M_part0_24, r_M_part0_27, r_M_part0_31, r_M_part0_32, r_M_part0_33, r_M_part0_34, r_M_part0_37, r_M_part0_38, r_M_part0_41, r_M_part0_42, r_M_part0_45, r_M_part0_48, r_M_part0_49, r_M_part0_50, r_M_part0_56, r_M_part0_59, r_M_part0_60, r_M_part0_61, r_M_part0_62, r_M_part0_68, r_M_part0_69, r_M_part0_70, r_M_part0_73, r_M_part0_74, r_M_part0_75, r_M_part0_78, r_M_part0_82, r_M_part0_83, r_M_part0_84, r_M_part0_85, r_M_part0_90, r_M_part0_93, r_M_part0_94, r_M_part0_97, r_M_part0_99, r_M_part0_102, r_M_part0_103, r_M_part0_104, r_M_part0_107, r_M_part0_108, r_M_part0_109, r_M_part0_112, r_M_part0_116, r_M_part0_117, r_M_part0_121, r_M_part0_124, r_M_part0_125, r_M_part0_126, r_M_part0_127, r_M_part0_128, r_M_part0_131, r_M_part0_132, r_M_part0_133, r_M_part0_136, r_M_part0_137, r_M_part0_138, r_M_part0_143, r_M_part0_144, r_M_part0_145, r_M_part0_146, r_M_part0_151, r_M_part0_154, r_M_part0_155, r_M_part0_158, r_M_part0_160, r_M_part0_163, r_M_part0_164, r_M_part0_165, r_M_part0_166, r_M_part0_167, r_M_part0_170, r_M_part0_171, r_M_part0_172, r_M_part0_175, r_M_part0_179, r_M_part0_180, r_M_part0_184, r_M_part0_187, r_M_part0_188, r_M_part0_193, r_M_part0_196, r_M_part0_197, r_M_part0_198, r_M_part0_199, r_M_part0_200, r_M_part0_203, r_M_part0_204, r_M_part0_205, r_M_part0_208, r_M_part0_212, r_M_part0_213, c_M_part0_87 hS, c_M_part0_148 hS2, Option.toList, List.singleton_append, List.cons_append, List.nil_append, List.append_nil, w32_gb, w32i, tn_add, tn_mul, Int.toNat_natCast, Int.toNat_zero, Int.reduceLE, Int.reduceLT, Int.reduceEq, Int.reduceNe, gb_T, gb_F, Int.reduceToNat, eq_self, true_or, or_true, and_true, true_and, and_self, ↓ite_gb0, ↓ite_gbn, ↓if_pos, ↓if_neg, if_true, if_false, not_true_eq_false, not_false_eq_true, gb_ne0, gb_eq0]
    · rcases hg with rfl | ⟨rfl, hg⟩
      · simp (disch := first | assumption | exact gb_01 _ | omega) only [r_M_part0_0, r_M_part0_1, r_M_part0_4, r_M_part0_5, r_M_part0_8, r_M_part0_9, r_M_part0_10, r_M_part0_11, r_M_part0_17, r_M_part0_18, r_M_part0_19, r_M_part0_22, r_M_part0_23, r_M_part0_24, r_M_part0_27, r_M_part0_31, r_M_part0_32, r_M_part0_33, r_M_part0_34, r_M_part0_37, r_M_part0_38, r_M_part0_41, r_M_part0_42, r_M_part0_45, r_M_part0_48, r_M_part0_49, r_M_part0_50, r_M_part0_56, r_M_part0_59, r_M_part0_60, r_M_part0_61, r_M_part0_62, r_M_part0_68, r_M_part0_69, r_M_part0_70, r_M_part0_73, r_M_part0_74, r_M_part0_75, r_M_part0_78, r_M_part0_82, r_M_part0_83, r_M_part0_84, r_M_part0_85, r_M_part0_90, r_M_part0_93, r_M_part0_94, r_M_part0_97, r_M_part0_99, r_M_part0_102, r_M_part0_103, r_M_part0_104, r_M_part0_107, r_M_part0_108, r_M_part0_109, r_M_part0_112, r_M_part0_116, r_M_part0_117, r_M_part0_121, r_M_part0_124, r_M_part0_125, r_M_part0_126, r_M_part0_127, r_M_part0_128, r_M_part0_131, r_M_part0_132, r_M_part0_133, r_M_part0_136, r_M_part0_137, r_M_part0_138, r_M_part0_143, r_M_part0_144, r_M_part0_145, r_M_part0_146, r_M_part0_151, r_M_part0_154, r_M_part0_155, r_M_part0_158, r_M_part0_160, r_M_part0_163, r_M_part0_164, r_M_part0_165, r_M_part0_166, r_M_part0_167, r_M_part0_170, r_M_part0_171, r_M_part0_172, r_M_part0_175, r_M_part0_179, r_M_part0_180, r_M_part0_184, r_M_part0_187, r_M_part0_188, r_M_part0_193, r_M_part0_196, r_M_part0_197, r_M_part0_198, r_M_part0_199, r_M_part0_200, r_M_part0_203, r_M_part0_204, r_M_part0_205, r_M_part0_208, r_M_part0_212, r_M_part0_213, c_M_part0_87 hS, c_M_part0_148 hS2, Option.toList, List.singleton_append, List.cons_append, List.nil_append, List.append_nil, w32_gb, w32i, tn_add, tn_mul, Int.toNat_natCast, Int.toNat_zero, Int.reduceLE, Int.reduceLT, Int.reduceEq, Int.reduceNe, gb_T, gb_F, Int.reduceToNat, eq_self, true_or, or_true, and_true, true_and, and_self, ↓ite_gb0, ↓ite_gbn, ↓if_pos, ↓if_neg, if_true, if_false, not_true_eq_false, not_false_eq_true, gb_ne0, gb_eq0]
      · simp (disch := first | assumption | exact gb_01 _ | omega) only [r_M_part0_0, r_M_part0_1, r_M_part0_4, r_M_part0_5, r_M_part0_8, r_M_part0_9, r_M_part0_10, r_M_part0_11, r_M_part0_17, r_M_part0_18, r_M_part0_19, r_M_part0_22, r_M_part0_23, r_M_part0_24, r_M_part0_27, r_M_part0_31, r_M_part0_32, r_M_part0_33, r_M_part0_34, r_M_part0_37, r_M_part0_38, r_M_part0_41, r_M_part0_42, r_M_part0_45, r_M_part0_48, r_M_part0_49, r_M_part0_50, r_M_part0_56, r_M_part0_59, r_M_part0_60, r_M_part0_61, r_M_part0_62, r_M_part0_68, r_M_part0_69, r_M_part0_70, r_M_part0_73, r_M_part0_74, r_M_part0_75, r_M_part0_78, r_M_part0_82, r_M_part0_83, r_M_part0_84, r_M_part0_85, r_M_part0_90, r_M_part0_93, r_M_part0_94, r_M_part0_97, r_M_part0_99, r_M_part0_102, r_M_part0_103, r_M_part0_104, r_M_part0_107, r_M_part0_108, r_M_part0_109, r_M_part0_112, r_M_part0_116, r_M_part0_117, r_M_part0_121, r_M_part0_124, r_M_part0_125, r_M_part0_126, r_M_part0_127, r_M_part0_128, r_M_part0_131, r_M_part0_132, r_M_part0_133, r_M_part0_136, r_M_part0_137, r_M_part0_138, r_M_part0_143, r_M_part0_144, r_M_part0_145, r_M_part0_146, r_M_part0_151, r_M_part0_154, r_M_part0_155, r_M_part0_158, r_M_part0_160, r_M_part0_163, r_M_part0_164, r_M_part0_165, r_M_part0_166, r_M_part0_167, r_M_part0_170, r_M_part0_171, r_M_part0_172, r_M_part0_175, r_M_part0_179, r_M_part0_180, r_M_part0_184, r_M_part0_187, r_M_part0_188, r_M_part0_193, r_M_part0_196, r_M_part0_197, r_M_part0_198, r_M_part0_199, r_M_part0_200, r_M_part0_203, r_M_part0_204, r_M_part0_205, r_M_part0_208, r_M_part0_212, r_M_part0_213, c_M_part0_87 hS, c_M_part0_148 hS2, Option.toList, List.singleton_append, List.cons_append, List.nil_append, List.append_nil, w32_gb, w32i, tn_add, tn_mul, Int.toNat_natCast, Int.toNat_zero, Int.reduceLE, Int.reduceLT, Int.reduceEq, Int.reduceNe, gb_T, gb_F, Int.reduceToNat, eq_self, true_or, or_true, and_true, true_and, and_self, ↓ite_gb0, ↓ite_gbn, ↓if_pos, ↓if_neg, if_true, if_false, not_true_eq_false, not_false_eq_true, gb_ne0, gb_eq0]
  by_cases z1 : σ 293 12 = 1
  · by_cases z2 : σ 293 14 = 0
    · simp (disch := first | assumption | exact gb_01 _ | omega) only [r_M_part0_0, r_M_part0_1, r_M_part0_4, r_M_part0_5, r_M_part0_8, r_M_part0_9, r_M_part0_10, r_M_part0_11, r_M_part0_17, r_M_part0_18, r_M_part0_19, r_M_part0_22, r_M_part0_23, r_M_part0_24, r_M_part0_27, r_M_part0_31, r_M_part0_32, r_M_part0_33, r_M_part0_34, r_M_part0_37, r_M_part0_38, r_M_part0_41, r_M_part0_42, r_M_part0_45, r_M_part0_48, r_M_part0_49, r_M_part0_50, r_M_part0_56, r_M_part0_59, r_M_part0_60, r_M_part0_61, r_M_part0_62, r_M_part0_68, r_M_part0_69, r_M_part0_70, r_M_part0_73, r_M_part0_74, r_M_part0_75, r_M_part0_78, r_M_part0_82, r_M_part0_83, w32_gb, w32i, tn_add, tn_mul, Int.toNat_natCast, Int.toNat_zero, Int.reduceLE, Int.reduceLT, Int.reduceEq, Int.reduceNe, gb_T, gb_F, Int.reduceToNat, eq_self, true_or, or_true, and_true, true_and, and_self, ↓ite_gb0, ↓ite_gbn, ↓if_pos, ↓if_neg, if_true, if_false, not_true_eq_false, not_false_eq_true, gb_ne0, gb_eq0]
      exact fin
    · have hI := h0 z1 z2
      simp (disch := first | assumption | exact gb_01 _ | omega) only [r_M_part0_0, r_M_part0_1, r_M_part0_4, r_M_part0_5, r_M_part0_8, r_M_part0_9, r_M_part0_10, r_M_part0_11, r_M_part0_17, r_M_part0_18, r_M_part0_19, r_M_part0_22, r_M_part0_23, r_M_part0_24, r_M_part0_27, r_M_part0_31, r_M_part0_32, r_M_part0_33, r_M_part0_34, r_M_part0_37, r_M_part0_38, r_M_part0_41, r_M_part0_42, r_M_part0_45, r_M_part0_48, r_M_part0_49, r_M_part0_50, r_M_part0_56, r_M_part0_59, r_M_part0_60, r_M_part0_61, r_M_part0_62, r_M_part0_68, r_M_part0_69, r_M_part0_70, r_M_part0_73, r_M_part0_74, r_M_part0_75, r_M_part0_78, r_M_part0_82, r_M_part0_83, c_M_part0_53 hI, Option.toList, List.singleton_append, List.cons_append, List.nil_append, List.append_nil, w32_gb, w32i, tn_add, tn_mul, Int.toNat_natCast, Int.toNat_zero, Int.reduceLE, Int.reduceLT, Int.reduceEq, Int.reduceNe, gb_T, gb_F, Int.reduceToNat, eq_self, true_or, or_true, and_true, true_and, and_self, ↓ite_gb0, ↓ite_gbn, ↓if_pos, ↓if_neg, if_true, if_false, not_true_eq_false, not_false_eq_true, gb_ne0, gb_eq0]
      exact fin
  · simp (disch := first | assumption | exact gb_01 _ | omega) only [r_M_part0_0, r_M_part0_1, r_M_part0_4, r_M_part0_5, r_M_part0_8, r_M_part0_9, r_M_part0_10, r_M_part0_11, r_M_part0_17, r_M_part0_18, r_M_part0_19, r_M_part0_22, r_M_part0_23, r_M_part0_24, r_M_part0_27, r_M_part0_31, r_M_part0_32, r_M_part0_33, r_M_part0_34, r_M_part0_37, r_M_part0_38, r_M_part0_41, r_M_part0_42, r_M_part0_45, r_M_part0_48, r_M_part0_49, r_M_part0_50, r_M_part0_56, r_M_part0_59, r_M_part0_60, r_M_part0_61, r_M_part0_62, r_M_part0_68, r_M_part0_69, r_M_part0_70, r_M_part0_73, r_M_part0_74, r_M_part0_75, r_M_part0_78, r_M_part0_82, r_M_part0_83, w32_gb, w32i, tn_add, tn_mul, Int.toNat_natCast, Int.toNat_zero, Int.reduceLE, Int.reduceLT, Int.reduceEq, Int.reduceNe, gb_T, gb_F, Int.reduceToNat, eq_self, true_or, or_true, and_true, true_and, and_self, ↓ite_gb0, ↓ite_gbn, ↓if_pos, ↓if_neg, if_true, if_false, not_true_eq_false, not_false_eq_true, gb_ne0, gb_eq0]
    exact fin
