/-! text: the parser, by what it calls. -/
variable {L d : Nat} {σ σ1 : Nat → Nat → Int} {Q : Option gV → (Nat → Nat → Int) → Prop} {a0 a1 a2 a3 a4 a5 a6 a7 a8 a9 a10 a11 s0 s1 s2 s3 s4 s5 s6 s7 s8 s9 : Int} {l0 l1 l2 l3 l4 l5 l6 l7 l8 l9 l10 l11 t0 t1 t2 t3 t4 t5 t6 t7 t8 t9 : gV} {b0 b1 b2 b3 b4 b5 b6 b7 b8 b9 b10 b11 c0 c1 c2 c3 c4 c5 c6 c7 c8 c9 : Nat} {r : Option gV}
set_option maxRecDepth 4000 in
theorem r_U_parse_0 : Wp L d k_U_parse 0 [vR b0] [] σ Q ↔ Wp L d k_U_parse 1 [vR b0] [vR b0] σ Q := wp_aload rfl rfl
set_option maxRecDepth 4000 in
theorem r_U_parse_1 : Wp L d k_U_parse 1 [l0] [vR c0] σ Q ↔ Wp L d k_U_parse 2 [l0] [vI 0, vR c0] σ Q := wp_push rfl
set_option maxRecDepth 4000 in
theorem r_U_parse_2 (h : gK c0 = 8) : Wp L d k_U_parse 2 [l0] [vI s1, vR c0] σ Q ↔ Wp L d k_U_parse 5 [l0] [] (gupd σ c0 3 s1) Q := wp_putI (c := 2051) rfl rfl rfl rfl h
set_option maxRecDepth 4000 in
theorem r_U_parse_5 : Wp L d k_U_parse 5 [vR b0] [] σ Q ↔ Wp L d k_U_parse 6 [vR b0] [vR b0] σ Q := wp_aload rfl rfl
set_option maxRecDepth 4000 in
theorem r_U_parse_6 : Wp L d k_U_parse 6 [l0] [vR c0] σ Q ↔ Wp L d k_U_parse 7 [l0] [vI 0, vR c0] σ Q := wp_push rfl
set_option maxRecDepth 4000 in
theorem r_U_parse_7 (h : gK c0 = 8) : Wp L d k_U_parse 7 [l0] [vI s1, vR c0] σ Q ↔ Wp L d k_U_parse 10 [l0] [] (gupd σ c0 4 s1) Q := wp_putI (c := 2052) rfl rfl rfl rfl h
set_option maxRecDepth 4000 in
theorem r_U_parse_10 : Wp L d k_U_parse 10 [vR b0] [] σ Q ↔ Wp L d k_U_parse 11 [vR b0] [vR b0] σ Q := wp_aload rfl rfl
set_option maxRecDepth 4000 in
theorem r_U_parse_11 : Wp L d k_U_parse 11 [l0] [vR c0] σ Q ↔ Wp L d k_U_parse 12 [l0] [vI 0, vR c0] σ Q := wp_push rfl
set_option maxRecDepth 4000 in
theorem r_U_parse_12 (h : gK c0 = 8) : Wp L d k_U_parse 12 [l0] [vI s1, vR c0] σ Q ↔ Wp L d k_U_parse 15 [l0] [] (gupd σ c0 6 s1) Q := wp_putI (c := 2054) rfl rfl rfl rfl h
set_option maxRecDepth 4000 in
theorem r_U_parse_15 : Wp L d k_U_parse 15 [vR b0] [] σ Q ↔ Wp L d k_U_parse 16 [vR b0] [vR b0] σ Q := wp_aload rfl rfl
set_option maxRecDepth 4000 in
theorem r_U_parse_16 : Wp L d k_U_parse 16 [l0] [vR c0] σ Q ↔ Wp L d k_U_parse 17 [l0] [vI 0, vR c0] σ Q := wp_push rfl
set_option maxRecDepth 4000 in
theorem r_U_parse_17 (h : gK c0 = 8) : Wp L d k_U_parse 17 [l0] [vI s1, vR c0] σ Q ↔ Wp L d k_U_parse 20 [l0] [] (gupd σ c0 7 s1) Q := wp_putI (c := 2055) rfl rfl rfl rfl h
set_option maxRecDepth 4000 in
theorem r_U_parse_20 : Wp L d k_U_parse 20 [vR b0] [] σ Q ↔ Wp L d k_U_parse 21 [vR b0] [vR b0] σ Q := wp_aload rfl rfl
set_option maxRecDepth 4000 in
theorem c_U_parse_21 (hR : Run L d 157 [vR c0] σ r σ1) (h : gK c0 = 8) : Wp L (d + 1) k_U_parse 21 [l0] [vR c0] σ Q ↔ Wp L (d + 1) k_U_parse 24 [l0] (r.toList ++ []) σ1 Q := wp_callR (as := [vR c0]) (rest := []) rfl rfl rfl rfl rfl rfl rfl (grecv_k (by rw [h]) rfl) hR
set_option maxRecDepth 4000 in
theorem r_U_parse_24 : Wp L d k_U_parse 24 [vR b0] [] σ Q ↔ Wp L d k_U_parse 25 [vR b0] [vR b0] σ Q := wp_aload rfl rfl
set_option maxRecDepth 4000 in
theorem r_U_parse_25 : Wp L d k_U_parse 25 [vR b0] [vR c0] σ Q ↔ Wp L d k_U_parse 26 [vR b0] [vR b0, vR c0] σ Q := wp_aload rfl rfl
set_option maxRecDepth 4000 in
theorem c_U_parse_26 (hR : Run L d 159 [vR c1] σ r σ1) (h : gK c1 = 8) : Wp L (d + 1) k_U_parse 26 [l0] [vR c1, vR c0] σ Q ↔ Wp L (d + 1) k_U_parse 29 [l0] (r.toList ++ [vR c0]) σ1 Q := wp_callR (as := [vR c1]) (rest := [vR c0]) rfl rfl rfl rfl rfl rfl rfl (grecv_k (by rw [h]) rfl) hR
set_option maxRecDepth 4000 in
theorem r_U_parse_29 (h : gK c0 = 8) : Wp L d k_U_parse 29 [l0] [vI s1, vR c0] σ Q ↔ Wp L d k_U_parse 32 [l0] [] (gupd σ c0 8 s1) Q := wp_putI (c := 2056) rfl rfl rfl rfl h
set_option maxRecDepth 4000 in
theorem r_U_parse_32 : Wp L d k_U_parse 32 [vR b0] [] σ Q ↔ Wp L d k_U_parse 33 [vR b0] [vR b0] σ Q := wp_aload rfl rfl
set_option maxRecDepth 4000 in
theorem r_U_parse_33 (h : gK c0 = 8) : Wp L d k_U_parse 33 [l0] [vR c0] σ Q ↔ Wp L d k_U_parse 36 [l0] [vI (σ c0 8)] σ Q := wp_getI (c := 2056) rfl rfl rfl rfl h
set_option maxRecDepth 4000 in
theorem r_U_parse_36 : Wp L d k_U_parse 36 [l0] [vI s0] σ Q ↔ Wp L d k_U_parse 38 [l0] [vI (-1000000005), vI s0] σ Q := wp_push rfl
set_option maxRecDepth 4000 in
theorem r_U_parse_38 : Wp L d k_U_parse 38 [l0] [vI s1, vI s0] σ Q ↔ (if s0 ≠ s1 then Wp L d k_U_parse 46 [l0] [] σ Q else Wp L d k_U_parse 41 [l0] [] σ Q) := wp_cmp_ne rfl
set_option maxRecDepth 4000 in
theorem r_U_parse_41 : Wp L d k_U_parse 41 [vR b0] [] σ Q ↔ Wp L d k_U_parse 42 [vR b0] [vR b0] σ Q := wp_aload rfl rfl
set_option maxRecDepth 4000 in
theorem r_U_parse_42 (h : gK c0 = 8) : Wp L d k_U_parse 42 [l0] [vR c0] σ Q ↔ Wp L d k_U_parse 45 [l0] [vI (σ c0 2)] σ Q := wp_getI (c := 2050) rfl rfl rfl rfl h
set_option maxRecDepth 4000 in
theorem r_U_parse_45 : Wp L d k_U_parse 45 [l0] [vI s0] σ Q ↔ Q (some (vI s0)) σ := wp_iret rfl
set_option maxRecDepth 4000 in
theorem r_U_parse_46 : Wp L d k_U_parse 46 [vR b0] [] σ Q ↔ Wp L d k_U_parse 47 [vR b0] [vR b0] σ Q := wp_aload rfl rfl
set_option maxRecDepth 4000 in
theorem c_U_parse_47 (hR : Run L d 157 [vR c0] σ r σ1) (h : gK c0 = 8) : Wp L (d + 1) k_U_parse 47 [l0] [vR c0] σ Q ↔ Wp L (d + 1) k_U_parse 50 [l0] (r.toList ++ []) σ1 Q := wp_callR (as := [vR c0]) (rest := []) rfl rfl rfl rfl rfl rfl rfl (grecv_k (by rw [h]) rfl) hR
set_option maxRecDepth 4000 in
theorem r_U_parse_50 : Wp L d k_U_parse 50 [vR b0] [] σ Q ↔ Wp L d k_U_parse 51 [vR b0] [vR b0] σ Q := wp_aload rfl rfl
set_option maxRecDepth 4000 in
theorem r_U_parse_51 : Wp L d k_U_parse 51 [l0] [vR c0] σ Q ↔ Wp L d k_U_parse 52 [l0] [vI 0, vR c0] σ Q := wp_push rfl
set_option maxRecDepth 4000 in
theorem r_U_parse_52 : Wp L d k_U_parse 52 [l0] [vI s1, vR c0] σ Q ↔ Wp L d k_U_parse 53 [l0] [vI 0, vI s1, vR c0] σ Q := wp_push rfl
set_option maxRecDepth 4000 in
theorem r_U_parse_53 : Wp L d k_U_parse 53 [l0] [vI s2, vI s1, vR c0] σ Q ↔ Wp L d k_U_parse 54 [l0] [vI 0, vI s2, vI s1, vR c0] σ Q := wp_push rfl
set_option maxRecDepth 4000 in
theorem c_U_parse_54 (hR : Run L d 162 [vR c0, vI s1, vI s2, vI s3] σ r σ1) (h : gK c0 = 8) : Wp L (d + 1) k_U_parse 54 [l0] [vI s3, vI s2, vI s1, vR c0] σ Q ↔ Wp L (d + 1) k_U_parse 57 [l0] (r.toList ++ []) σ1 Q := wp_callR (as := [vR c0, vI s1, vI s2, vI s3]) (rest := []) rfl rfl rfl rfl rfl rfl rfl (grecv_k (by rw [h]) rfl) hR
set_option maxRecDepth 4000 in
theorem r_U_parse_57 : Wp L d k_U_parse 57 [l0] [vI s0] σ Q ↔ (if s0 = 0 then Wp L d k_U_parse 72 [l0] [] σ Q else Wp L d k_U_parse 60 [l0] [] σ Q) := wp_if_eq rfl
set_option maxRecDepth 4000 in
theorem r_U_parse_60 : Wp L d k_U_parse 60 [vR b0] [] σ Q ↔ Wp L d k_U_parse 61 [vR b0] [vR b0] σ Q := wp_aload rfl rfl
set_option maxRecDepth 4000 in
theorem r_U_parse_61 (h : gK c0 = 8) : Wp L d k_U_parse 61 [l0] [vR c0] σ Q ↔ Wp L d k_U_parse 64 [l0] [vI (σ c0 4)] σ Q := wp_getI (c := 2052) rfl rfl rfl rfl h
set_option maxRecDepth 4000 in
theorem r_U_parse_64 : Wp L d k_U_parse 64 [l0] [vI s0] σ Q ↔ (if s0 ≠ 0 then Wp L d k_U_parse 72 [l0] [] σ Q else Wp L d k_U_parse 67 [l0] [] σ Q) := wp_if_ne rfl
set_option maxRecDepth 4000 in
theorem r_U_parse_67 : Wp L d k_U_parse 67 [l0] [] σ Q ↔ Wp L d k_U_parse 69 [l0] [vI (-1000000005)] σ Q := wp_push rfl
set_option maxRecDepth 4000 in
theorem r_U_parse_69 : Wp L d k_U_parse 69 [l0] [vI s0] σ Q ↔ Wp L d k_U_parse 76 [l0] [vI s0] σ Q := wp_goto rfl
set_option maxRecDepth 4000 in
theorem r_U_parse_72 : Wp L d k_U_parse 72 [vR b0] [] σ Q ↔ Wp L d k_U_parse 73 [vR b0] [vR b0] σ Q := wp_aload rfl rfl
set_option maxRecDepth 4000 in
theorem r_U_parse_73 (h : gK c0 = 8) : Wp L d k_U_parse 73 [l0] [vR c0] σ Q ↔ Wp L d k_U_parse 76 [l0] [vI (σ c0 2)] σ Q := wp_getI (c := 2050) rfl rfl rfl rfl h
set_option maxRecDepth 4000 in
theorem r_U_parse_76 : Wp L d k_U_parse 76 [l0] [vI s0] σ Q ↔ Q (some (vI s0)) σ := wp_iret rfl
set_option maxRecDepth 4000 in
theorem up_none {σ2 : gMm} (hT : Run L (d + 99) 157 [vR 279] (gupd (gupd (gupd (gupd σ 279 3 0) 279 4 0) 279 6 0) 279 7 0) none σ2) (hK : Run L (d + 99) 159 [vR 279] σ2 (some (vI (-1000000005))) σ2) : Run L (d + 100) 156 [vR 279] σ (some (vI (σ2 279 2))) (gupd σ2 279 8 (-1000000005)) := by
  refine Run_of (C' := k_U_parse) rfl ?_
  show Wp L (d + 100) k_U_parse 0 [vR 279] [] σ _
  obtain ⟨K280, N280, K281, N281⟩ := litC
  have K279 := gK_279
  simp (disch := first | assumption | exact gb_01 _ | omega) only [r_U_parse_0, r_U_parse_1, r_U_parse_2, r_U_parse_5, r_U_parse_6, r_U_parse_7, r_U_parse_10, r_U_parse_11, r_U_parse_12, r_U_parse_15, r_U_parse_16, r_U_parse_17, r_U_parse_20, r_U_parse_24, r_U_parse_25, r_U_parse_29, r_U_parse_32, r_U_parse_33, r_U_parse_36, r_U_parse_38, r_U_parse_41, r_U_parse_42, r_U_parse_45, r_U_parse_46, r_U_parse_50, r_U_parse_51, r_U_parse_52, r_U_parse_53, r_U_parse_57, r_U_parse_60, r_U_parse_61, r_U_parse_64, r_U_parse_67, r_U_parse_69, r_U_parse_72, r_U_parse_73, r_U_parse_76, c_U_parse_21 hT, c_U_parse_26 hK, Option.toList, List.singleton_append, List.cons_append, List.nil_append, List.append_nil, gq_279_0, gq_279_5, gupd_ne, gupd_eq, w32_gb, w32i, tn_add, tn_mul, Int.toNat_natCast, Int.toNat_zero, Int.reduceLE, Int.reduceLT, Int.reduceEq, Int.reduceNe, gb_T, gb_F, Int.reduceToNat, eq_self, true_or, or_true, and_true, true_and, and_self, ↓ite_gb0, ↓ite_gbn, ↓if_pos, ↓if_neg, if_true, if_false, not_true_eq_false, not_false_eq_true, gb_ne0, gb_eq0]
set_option maxRecDepth 4000 in
theorem up_f {σ2 σ3 σ4 : gMm} {key : Int} (hT : Run L (d + 99) 157 [vR 279] (gupd (gupd (gupd (gupd σ 279 3 0) 279 4 0) 279 6 0) 279 7 0) none σ2) (hk : 0 ≤ key) (hK : Run L (d + 99) 159 [vR 279] σ2 (some (vI key)) σ2) (hT2 : Run L (d + 99) 157 [vR 279] (gupd σ2 279 8 key) none σ3) (hU : Run L (d + 99) 162 [vR 279, vI 0, vI 0, vI 0] σ3 (some (vI 0)) σ4) : Run L (d + 100) 156 [vR 279] σ (some (vI (σ4 279 2))) σ4 := by
  refine Run_of (C' := k_U_parse) rfl ?_
  show Wp L (d + 100) k_U_parse 0 [vR 279] [] σ _
  obtain ⟨K280, N280, K281, N281⟩ := litC
  have K279 := gK_279
  simp (disch := first | assumption | exact gb_01 _ | omega) only [r_U_parse_0, r_U_parse_1, r_U_parse_2, r_U_parse_5, r_U_parse_6, r_U_parse_7, r_U_parse_10, r_U_parse_11, r_U_parse_12, r_U_parse_15, r_U_parse_16, r_U_parse_17, r_U_parse_20, r_U_parse_24, r_U_parse_25, r_U_parse_29, r_U_parse_32, r_U_parse_33, r_U_parse_36, r_U_parse_38, r_U_parse_41, r_U_parse_42, r_U_parse_45, r_U_parse_46, r_U_parse_50, r_U_parse_51, r_U_parse_52, r_U_parse_53, r_U_parse_57, r_U_parse_60, r_U_parse_61, r_U_parse_64, r_U_parse_67, r_U_parse_69, r_U_parse_72, r_U_parse_73, r_U_parse_76, c_U_parse_21 hT, c_U_parse_26 hK, c_U_parse_47 hT2, c_U_parse_54 hU, Option.toList, List.singleton_append, List.cons_append, List.nil_append, List.append_nil, gq_279_0, gq_279_5, gupd_ne, gupd_eq, w32_gb, w32i, tn_add, tn_mul, Int.toNat_natCast, Int.toNat_zero, Int.reduceLE, Int.reduceLT, Int.reduceEq, Int.reduceNe, gb_T, gb_F, Int.reduceToNat, eq_self, true_or, or_true, and_true, true_and, and_self, ↓ite_gb0, ↓ite_gbn, ↓if_pos, ↓if_neg, if_true, if_false, not_true_eq_false, not_false_eq_true, gb_ne0, gb_eq0]
set_option maxRecDepth 4000 in
theorem up_e {σ2 σ3 σ4 : gMm} {key : Int} (hT : Run L (d + 99) 157 [vR 279] (gupd (gupd (gupd (gupd σ 279 3 0) 279 4 0) 279 6 0) 279 7 0) none σ2) (hk : 0 ≤ key) (hK : Run L (d + 99) 159 [vR 279] σ2 (some (vI key)) σ2) (hT2 : Run L (d + 99) 157 [vR 279] (gupd σ2 279 8 key) none σ3) (hU : Run L (d + 99) 162 [vR 279, vI 0, vI 0, vI 0] σ3 (some (vI 1)) σ4) (h4 : σ4 279 4 ≠ 0) : Run L (d + 100) 156 [vR 279] σ (some (vI (σ4 279 2))) σ4 := by
  refine Run_of (C' := k_U_parse) rfl ?_
  show Wp L (d + 100) k_U_parse 0 [vR 279] [] σ _
  obtain ⟨K280, N280, K281, N281⟩ := litC
  have K279 := gK_279
  simp (disch := first | assumption | exact gb_01 _ | omega) only [r_U_parse_0, r_U_parse_1, r_U_parse_2, r_U_parse_5, r_U_parse_6, r_U_parse_7, r_U_parse_10, r_U_parse_11, r_U_parse_12, r_U_parse_15, r_U_parse_16, r_U_parse_17, r_U_parse_20, r_U_parse_24, r_U_parse_25, r_U_parse_29, r_U_parse_32, r_U_parse_33, r_U_parse_36, r_U_parse_38, r_U_parse_41, r_U_parse_42, r_U_parse_45, r_U_parse_46, r_U_parse_50, r_U_parse_51, r_U_parse_52, r_U_parse_53, r_U_parse_57, r_U_parse_60, r_U_parse_61, r_U_parse_64, r_U_parse_67, r_U_parse_69, r_U_parse_72, r_U_parse_73, r_U_parse_76, c_U_parse_21 hT, c_U_parse_26 hK, c_U_parse_47 hT2, c_U_parse_54 hU, Option.toList, List.singleton_append, List.cons_append, List.nil_append, List.append_nil, gq_279_0, gq_279_5, gupd_ne, gupd_eq, w32_gb, w32i, tn_add, tn_mul, Int.toNat_natCast, Int.toNat_zero, Int.reduceLE, Int.reduceLT, Int.reduceEq, Int.reduceNe, gb_T, gb_F, Int.reduceToNat, eq_self, true_or, or_true, and_true, true_and, and_self, ↓ite_gb0, ↓ite_gbn, ↓if_pos, ↓if_neg, if_true, if_false, not_true_eq_false, not_false_eq_true, gb_ne0, gb_eq0]
set_option maxRecDepth 4000 in
theorem up_s {σ2 σ3 σ4 : gMm} {key : Int} (hT : Run L (d + 99) 157 [vR 279] (gupd (gupd (gupd (gupd σ 279 3 0) 279 4 0) 279 6 0) 279 7 0) none σ2) (hk : 0 ≤ key) (hK : Run L (d + 99) 159 [vR 279] σ2 (some (vI key)) σ2) (hT2 : Run L (d + 99) 157 [vR 279] (gupd σ2 279 8 key) none σ3) (hU : Run L (d + 99) 162 [vR 279, vI 0, vI 0, vI 0] σ3 (some (vI 1)) σ4) (h4 : σ4 279 4 = 0) : Run L (d + 100) 156 [vR 279] σ (some (vI (-1000000005))) σ4 := by
  refine Run_of (C' := k_U_parse) rfl ?_
  show Wp L (d + 100) k_U_parse 0 [vR 279] [] σ _
  obtain ⟨K280, N280, K281, N281⟩ := litC
  have K279 := gK_279
  simp (disch := first | assumption | exact gb_01 _ | omega) only [r_U_parse_0, r_U_parse_1, r_U_parse_2, r_U_parse_5, r_U_parse_6, r_U_parse_7, r_U_parse_10, r_U_parse_11, r_U_parse_12, r_U_parse_15, r_U_parse_16, r_U_parse_17, r_U_parse_20, r_U_parse_24, r_U_parse_25, r_U_parse_29, r_U_parse_32, r_U_parse_33, r_U_parse_36, r_U_parse_38, r_U_parse_41, r_U_parse_42, r_U_parse_45, r_U_parse_46, r_U_parse_50, r_U_parse_51, r_U_parse_52, r_U_parse_53, r_U_parse_57, r_U_parse_60, r_U_parse_61, r_U_parse_64, r_U_parse_67, r_U_parse_69, r_U_parse_72, r_U_parse_73, r_U_parse_76, c_U_parse_21 hT, c_U_parse_26 hK, c_U_parse_47 hT2, c_U_parse_54 hU, Option.toList, List.singleton_append, List.cons_append, List.nil_append, List.append_nil, gq_279_0, gq_279_5, gupd_ne, gupd_eq, h4, w32_gb, w32i, tn_add, tn_mul, Int.toNat_natCast, Int.toNat_zero, Int.reduceLE, Int.reduceLT, Int.reduceEq, Int.reduceNe, gb_T, gb_F, Int.reduceToNat, eq_self, true_or, or_true, and_true, true_and, and_self, ↓ite_gb0, ↓ite_gbn, ↓if_pos, ↓if_neg, if_true, if_false, not_true_eq_false, not_false_eq_true, gb_ne0, gb_eq0]
set_option maxRecDepth 4000 in
theorem r_M_parse_0 : Wp L d k_M_parse 0 [vR b0, l1, l2] [] σ Q ↔ Wp L d k_M_parse 1 [vR b0, l1, l2] [vR b0] σ Q := wp_aload rfl rfl
set_option maxRecDepth 4000 in
theorem r_M_parse_1 : Wp L d k_M_parse 1 [l0, l1, l2] [vR c0] σ Q ↔ Wp L d k_M_parse 2 [l0, l1, l2] [vI 0, vR c0] σ Q := wp_push rfl
set_option maxRecDepth 4000 in
theorem r_M_parse_2 (h : gK c0 = 12) : Wp L d k_M_parse 2 [l0, l1, l2] [vI s1, vR c0] σ Q ↔ Wp L d k_M_parse 5 [l0, l1, l2] [] (gupd σ c0 11 s1) Q := wp_putI (c := 3083) rfl rfl rfl rfl h
set_option maxRecDepth 4000 in
theorem r_M_parse_5 : Wp L d k_M_parse 5 [vR b0, l1, l2] [] σ Q ↔ Wp L d k_M_parse 6 [vR b0, l1, l2] [vR b0] σ Q := wp_aload rfl rfl
set_option maxRecDepth 4000 in
theorem r_M_parse_6 : Wp L d k_M_parse 6 [l0, l1, l2] [vR c0] σ Q ↔ Wp L d k_M_parse 7 [l0, l1, l2] [vI 3, vR c0] σ Q := wp_push rfl
set_option maxRecDepth 4000 in
theorem r_M_parse_7 (h : gK c0 = 12) : Wp L d k_M_parse 7 [l0, l1, l2] [vI s1, vR c0] σ Q ↔ Wp L d k_M_parse 10 [l0, l1, l2] [] (gupd σ c0 12 s1) Q := wp_putI (c := 3084) rfl rfl rfl rfl h
set_option maxRecDepth 4000 in
theorem r_M_parse_10 : Wp L d k_M_parse 10 [vR b0, l1, l2] [] σ Q ↔ Wp L d k_M_parse 11 [vR b0, l1, l2] [vR b0] σ Q := wp_aload rfl rfl
set_option maxRecDepth 4000 in
theorem r_M_parse_11 : Wp L d k_M_parse 11 [l0, l1, l2] [vR c0] σ Q ↔ Wp L d k_M_parse 12 [l0, l1, l2] [vI 0, vR c0] σ Q := wp_push rfl
set_option maxRecDepth 4000 in
theorem r_M_parse_12 (h : gK c0 = 12) : Wp L d k_M_parse 12 [l0, l1, l2] [vI s1, vR c0] σ Q ↔ Wp L d k_M_parse 15 [l0, l1, l2] [] (gupd σ c0 15 s1) Q := wp_putI (c := 3087) rfl rfl rfl rfl h
set_option maxRecDepth 4000 in
theorem r_M_parse_15 : Wp L d k_M_parse 15 [vR b0, l1, l2] [] σ Q ↔ Wp L d k_M_parse 16 [vR b0, l1, l2] [vR b0] σ Q := wp_aload rfl rfl
set_option maxRecDepth 4000 in
theorem r_M_parse_16 : Wp L d k_M_parse 16 [l0, l1, l2] [vR c0] σ Q ↔ Wp L d k_M_parse 17 [l0, l1, l2] [vI 0, vR c0] σ Q := wp_push rfl
set_option maxRecDepth 4000 in
theorem r_M_parse_17 (h : gK c0 = 12) : Wp L d k_M_parse 17 [l0, l1, l2] [vI s1, vR c0] σ Q ↔ Wp L d k_M_parse 20 [l0, l1, l2] [] (gupd σ c0 16 s1) Q := wp_putI (c := 3088) rfl rfl rfl rfl h
set_option maxRecDepth 4000 in
theorem r_M_parse_20 : Wp L d k_M_parse 20 [vR b0, l1, l2] [] σ Q ↔ Wp L d k_M_parse 21 [vR b0, l1, l2] [vR b0] σ Q := wp_aload rfl rfl
set_option maxRecDepth 4000 in
theorem r_M_parse_21 : Wp L d k_M_parse 21 [l0, l1, l2] [vR c0] σ Q ↔ Wp L d k_M_parse 22 [l0, l1, l2] [vI 0, vR c0] σ Q := wp_push rfl
set_option maxRecDepth 4000 in
theorem r_M_parse_22 (h : gK c0 = 12) : Wp L d k_M_parse 22 [l0, l1, l2] [vI s1, vR c0] σ Q ↔ Wp L d k_M_parse 25 [l0, l1, l2] [] (gupd σ c0 17 s1) Q := wp_putI (c := 3089) rfl rfl rfl rfl h
set_option maxRecDepth 4000 in
theorem r_M_parse_25 : Wp L d k_M_parse 25 [vR b0, l1, l2] [] σ Q ↔ Wp L d k_M_parse 26 [vR b0, l1, l2] [vR b0] σ Q := wp_aload rfl rfl
set_option maxRecDepth 4000 in
theorem r_M_parse_26 : Wp L d k_M_parse 26 [l0, l1, l2] [vR c0] σ Q ↔ Wp L d k_M_parse 27 [l0, l1, l2] [vI 0, vR c0] σ Q := wp_push rfl
set_option maxRecDepth 4000 in
theorem r_M_parse_27 (h : gK c0 = 12) : Wp L d k_M_parse 27 [l0, l1, l2] [vI s1, vR c0] σ Q ↔ Wp L d k_M_parse 30 [l0, l1, l2] [] (gupd σ c0 19 s1) Q := wp_putI (c := 3091) rfl rfl rfl rfl h
set_option maxRecDepth 4000 in
theorem r_M_parse_30 : Wp L d k_M_parse 30 [vR b0, l1, l2] [] σ Q ↔ Wp L d k_M_parse 31 [vR b0, l1, l2] [vR b0] σ Q := wp_aload rfl rfl
set_option maxRecDepth 4000 in
theorem r_M_parse_31 : Wp L d k_M_parse 31 [vR b0, l1, l2] [vR c0] σ Q ↔ Wp L d k_M_parse 32 [vR b0, l1, l2] [vR b0, vR c0] σ Q := wp_aload rfl rfl
set_option maxRecDepth 4000 in
theorem r_M_parse_32 (h : gK c1 = 12) : Wp L d k_M_parse 32 [l0, l1, l2] [vR c1, vR c0] σ Q ↔ Wp L d k_M_parse 35 [l0, l1, l2] [vR (gq c1 0), vR c0] σ Q := wp_getR (c := 3200) rfl rfl rfl rfl rfl h
set_option maxRecDepth 4000 in
theorem r_M_parse_35 : Wp L d k_M_parse 35 [l0, l1, l2] [vR c1, vR c0] σ Q ↔ Wp L d k_M_parse 36 [l0, l1, l2] [vI 2, vR c1, vR c0] σ Q := wp_push rfl
set_option maxRecDepth 4000 in
theorem r_M_parse_36 (h : gK c1 = 100) (hx : 0 ≤ s2 ∧ s2 < gN c1) : Wp L d k_M_parse 36 [l0, l1, l2] [vI s2, vR c1, vR c0] σ Q ↔ Wp L d k_M_parse 37 [l0, l1, l2] [vI (σ c1 s2.toNat), vR c0] σ Q := wp_iald rfl h hx
set_option maxRecDepth 4000 in
theorem r_M_parse_37 : Wp L d k_M_parse 37 [l0, l1, l2] [vI s1, vR c0] σ Q ↔ Wp L d k_M_parse 39 [l0, l1, l2] [vI 12, vI s1, vR c0] σ Q := wp_push rfl
set_option maxRecDepth 4000 in
theorem r_M_parse_39 : Wp L d k_M_parse 39 [l0, l1, l2] [vI s2, vI s1, vR c0] σ Q ↔ (if s2 ≤ s1 then Wp L d k_M_parse 57 [l0, l1, l2] [vR c0] σ Q else Wp L d k_M_parse 42 [l0, l1, l2] [vR c0] σ Q) := wp_cmp_ge rfl
set_option maxRecDepth 4000 in
theorem r_M_parse_42 : Wp L d k_M_parse 42 [vR b0, l1, l2] [vR c0] σ Q ↔ Wp L d k_M_parse 43 [vR b0, l1, l2] [vR b0, vR c0] σ Q := wp_aload rfl rfl
set_option maxRecDepth 4000 in
theorem r_M_parse_43 : Wp L d k_M_parse 43 [vR b0, l1, l2] [vR c1, vR c0] σ Q ↔ Wp L d k_M_parse 44 [vR b0, l1, l2] [vR b0, vR c1, vR c0] σ Q := wp_aload rfl rfl
set_option maxRecDepth 4000 in
theorem r_M_parse_44 (h : gK c2 = 12) : Wp L d k_M_parse 44 [l0, l1, l2] [vR c2, vR c1, vR c0] σ Q ↔ Wp L d k_M_parse 47 [l0, l1, l2] [vR (gq c2 0), vR c1, vR c0] σ Q := wp_getR (c := 3200) rfl rfl rfl rfl rfl h
set_option maxRecDepth 4000 in
theorem r_M_parse_47 : Wp L d k_M_parse 47 [l0, l1, l2] [vR c2, vR c1, vR c0] σ Q ↔ Wp L d k_M_parse 48 [l0, l1, l2] [vI 2, vR c2, vR c1, vR c0] σ Q := wp_push rfl
set_option maxRecDepth 4000 in
theorem r_M_parse_48 (h : gK c2 = 100) (hx : 0 ≤ s3 ∧ s3 < gN c2) : Wp L d k_M_parse 48 [l0, l1, l2] [vI s3, vR c2, vR c1, vR c0] σ Q ↔ Wp L d k_M_parse 49 [l0, l1, l2] [vI (σ c2 s3.toNat), vR c1, vR c0] σ Q := wp_iald rfl h hx
set_option maxRecDepth 4000 in
theorem r_M_parse_52 : Wp L d k_M_parse 52 [l0, l1, l2] [vI s1, vR c0] σ Q ↔ Wp L d k_M_parse 53 [l0, l1, l2] [vI 4, vI s1, vR c0] σ Q := wp_push rfl
set_option maxRecDepth 4000 in
theorem r_M_parse_53 : Wp L d k_M_parse 53 [l0, l1, l2] [vI s2, vI s1, vR c0] σ Q ↔ Wp L d k_M_parse 54 [l0, l1, l2] [vI (w32 (s1 + s2)), vR c0] σ Q := wp_iadd rfl
set_option maxRecDepth 4000 in
theorem r_M_parse_54 : Wp L d k_M_parse 54 [l0, l1, l2] [vI s1, vR c0] σ Q ↔ Wp L d k_M_parse 60 [l0, l1, l2] [vI s1, vR c0] σ Q := wp_goto rfl
set_option maxRecDepth 4000 in
theorem r_M_parse_57 : Wp L d k_M_parse 57 [l0, l1, l2] [vR c0] σ Q ↔ Wp L d k_M_parse 60 [l0, l1, l2] [vI 3340, vR c0] σ Q := wp_push rfl
set_option maxRecDepth 4000 in
theorem r_M_parse_60 (h : gK c0 = 12) : Wp L d k_M_parse 60 [l0, l1, l2] [vI s1, vR c0] σ Q ↔ Wp L d k_M_parse 63 [l0, l1, l2] [] (gupd σ c0 18 s1) Q := wp_putI (c := 3090) rfl rfl rfl rfl h
set_option maxRecDepth 4000 in
theorem r_M_parse_63 : Wp L d k_M_parse 63 [vR b0, l1, l2] [] σ Q ↔ Wp L d k_M_parse 64 [vR b0, l1, l2] [vR b0] σ Q := wp_aload rfl rfl
set_option maxRecDepth 4000 in
theorem c_M_parse_64 (hR : Run L d 241 [vR c0] σ r σ1) (h : gK c0 = 12) : Wp L (d + 1) k_M_parse 64 [l0, l1, l2] [vR c0] σ Q ↔ Wp L (d + 1) k_M_parse 67 [l0, l1, l2] (r.toList ++ []) σ1 Q := wp_callR (as := [vR c0]) (rest := []) rfl rfl rfl rfl rfl rfl rfl (grecv_k (by rw [h]) rfl) hR
set_option maxRecDepth 4000 in
theorem r_M_parse_67 : Wp L d k_M_parse 67 [vR b0, l1, l2] [] σ Q ↔ Wp L d k_M_parse 68 [vR b0, l1, l2] [vR b0] σ Q := wp_aload rfl rfl
set_option maxRecDepth 4000 in
theorem c_M_parse_68 (hR : Run L d 244 [vR c0] σ r σ1) (h : gK c0 = 12) : Wp L (d + 1) k_M_parse 68 [l0, l1, l2] [vR c0] σ Q ↔ Wp L (d + 1) k_M_parse 71 [l0, l1, l2] (r.toList ++ []) σ1 Q := wp_callR (as := [vR c0]) (rest := []) rfl rfl rfl rfl rfl rfl rfl (grecv_k (by rw [h]) rfl) hR
set_option maxRecDepth 4000 in
theorem r_M_parse_71 : Wp L d k_M_parse 71 [vR b0, l1, l2] [vI s0] σ Q ↔ Wp L d k_M_parse 72 [vR b0, vI s0, l2] [] σ Q := wp_istore (i := 1) (ls := [vR b0, l1, l2]) rfl rfl
set_option maxRecDepth 4000 in
theorem r_M_parse_72 : Wp L d k_M_parse 72 [l0, vI a1, l2] [] σ Q ↔ Wp L d k_M_parse 73 [l0, vI a1, l2] [vI a1] σ Q := wp_iload rfl rfl
set_option maxRecDepth 4000 in
theorem r_M_parse_73 : Wp L d k_M_parse 73 [l0, l1, l2] [vI s0] σ Q ↔ (if s0 < 0 then Wp L d k_M_parse 80 [l0, l1, l2] [] σ Q else Wp L d k_M_parse 76 [l0, l1, l2] [] σ Q) := wp_if_lt rfl
set_option maxRecDepth 4000 in
theorem r_M_parse_76 : Wp L d k_M_parse 76 [l0, l1, l2] [] σ Q ↔ Wp L d k_M_parse 77 [l0, l1, l2] [vI 1] σ Q := wp_push rfl
set_option maxRecDepth 4000 in
theorem r_M_parse_77 : Wp L d k_M_parse 77 [l0, l1, l2] [vI s0] σ Q ↔ Wp L d k_M_parse 81 [l0, l1, l2] [vI s0] σ Q := wp_goto rfl
set_option maxRecDepth 4000 in
theorem r_M_parse_80 : Wp L d k_M_parse 80 [l0, l1, l2] [] σ Q ↔ Wp L d k_M_parse 81 [l0, l1, l2] [vI 0] σ Q := wp_push rfl
set_option maxRecDepth 4000 in
theorem r_M_parse_81 : Wp L d k_M_parse 81 [l0, vI a1, l2] [vI s0] σ Q ↔ Wp L d k_M_parse 82 [l0, vI a1, vI s0] [] σ Q := wp_istore (i := 2) (ls := [l0, vI a1, l2]) rfl rfl
set_option maxRecDepth 4000 in
theorem r_M_parse_82 : Wp L d k_M_parse 82 [l0, l1, vI a2] [] σ Q ↔ Wp L d k_M_parse 83 [l0, l1, vI a2] [vI a2] σ Q := wp_iload rfl rfl
set_option maxRecDepth 4000 in
theorem r_M_parse_83 : Wp L d k_M_parse 83 [l0, l1, l2] [vI s0] σ Q ↔ (if s0 = 0 then Wp L d k_M_parse 111 [l0, l1, l2] [] σ Q else Wp L d k_M_parse 86 [l0, l1, l2] [] σ Q) := wp_if_eq rfl
set_option maxRecDepth 4000 in
theorem r_M_parse_86 : Wp L d k_M_parse 86 [vR b0, l1, l2] [] σ Q ↔ Wp L d k_M_parse 87 [vR b0, l1, l2] [vR b0] σ Q := wp_aload rfl rfl
set_option maxRecDepth 4000 in
theorem c_M_parse_87 (hR : Run L d 241 [vR c0] σ r σ1) (h : gK c0 = 12) : Wp L (d + 1) k_M_parse 87 [l0, l1, l2] [vR c0] σ Q ↔ Wp L (d + 1) k_M_parse 90 [l0, l1, l2] (r.toList ++ []) σ1 Q := wp_callR (as := [vR c0]) (rest := []) rfl rfl rfl rfl rfl rfl rfl (grecv_k (by rw [h]) rfl) hR
set_option maxRecDepth 4000 in
theorem r_M_parse_90 : Wp L d k_M_parse 90 [vR b0, l1, l2] [] σ Q ↔ Wp L d k_M_parse 91 [vR b0, l1, l2] [vR b0] σ Q := wp_aload rfl rfl
set_option maxRecDepth 4000 in
theorem r_M_parse_91 : Wp L d k_M_parse 91 [l0, vI a1, l2] [vR c0] σ Q ↔ Wp L d k_M_parse 92 [l0, vI a1, l2] [vI a1, vR c0] σ Q := wp_iload rfl rfl
set_option maxRecDepth 4000 in
theorem c_M_parse_92 (hR : Run L d 247 [vR c0, vI s1] σ r σ1) (h : gK c0 = 12) : Wp L (d + 1) k_M_parse 92 [l0, l1, l2] [vI s1, vR c0] σ Q ↔ Wp L (d + 1) k_M_parse 95 [l0, l1, l2] (r.toList ++ []) σ1 Q := wp_callR (as := [vR c0, vI s1]) (rest := []) rfl rfl rfl rfl rfl rfl rfl (grecv_k (by rw [h]) rfl) hR
set_option maxRecDepth 4000 in
theorem r_M_parse_95 : Wp L d k_M_parse 95 [l0, l1, l2] [vI s0] σ Q ↔ (if s0 = 0 then Wp L d k_M_parse 109 [l0, l1, l2] [] σ Q else Wp L d k_M_parse 98 [l0, l1, l2] [] σ Q) := wp_if_eq rfl
set_option maxRecDepth 4000 in
theorem r_M_parse_98 : Wp L d k_M_parse 98 [vR b0, l1, l2] [] σ Q ↔ Wp L d k_M_parse 99 [vR b0, l1, l2] [vR b0] σ Q := wp_aload rfl rfl
set_option maxRecDepth 4000 in
theorem r_M_parse_99 (h : gK c0 = 12) : Wp L d k_M_parse 99 [l0, l1, l2] [vR c0] σ Q ↔ Wp L d k_M_parse 102 [l0, l1, l2] [vI (σ c0 12)] σ Q := wp_getI (c := 3084) rfl rfl rfl rfl h
set_option maxRecDepth 4000 in
theorem r_M_parse_102 : Wp L d k_M_parse 102 [l0, l1, l2] [vI s0] σ Q ↔ (if s0 ≠ 0 then Wp L d k_M_parse 109 [l0, l1, l2] [] σ Q else Wp L d k_M_parse 105 [l0, l1, l2] [] σ Q) := wp_if_ne rfl
set_option maxRecDepth 4000 in
theorem r_M_parse_105 : Wp L d k_M_parse 105 [l0, l1, l2] [] σ Q ↔ Wp L d k_M_parse 106 [l0, l1, l2] [vI 1] σ Q := wp_push rfl
set_option maxRecDepth 4000 in
theorem r_M_parse_106 : Wp L d k_M_parse 106 [l0, l1, l2] [vI s0] σ Q ↔ Wp L d k_M_parse 110 [l0, l1, l2] [vI s0] σ Q := wp_goto rfl
set_option maxRecDepth 4000 in
theorem r_M_parse_109 : Wp L d k_M_parse 109 [l0, l1, l2] [] σ Q ↔ Wp L d k_M_parse 110 [l0, l1, l2] [vI 0] σ Q := wp_push rfl
set_option maxRecDepth 4000 in
theorem r_M_parse_110 : Wp L d k_M_parse 110 [l0, vI a1, l2] [vI s0] σ Q ↔ Wp L d k_M_parse 111 [l0, vI a1, vI s0] [] σ Q := wp_istore (i := 2) (ls := [l0, vI a1, l2]) rfl rfl
set_option maxRecDepth 4000 in
theorem r_M_parse_111 : Wp L d k_M_parse 111 [vR b0, l1, l2] [] σ Q ↔ Wp L d k_M_parse 112 [vR b0, l1, l2] [vR b0] σ Q := wp_aload rfl rfl
set_option maxRecDepth 4000 in
theorem r_M_parse_112 : Wp L d k_M_parse 112 [l0, l1, l2] [vR c0] σ Q ↔ Wp L d k_M_parse 113 [l0, l1, l2] [vI 0, vR c0] σ Q := wp_push rfl
set_option maxRecDepth 4000 in
theorem r_M_parse_113 (h : gK c0 = 12) : Wp L d k_M_parse 113 [l0, l1, l2] [vI s1, vR c0] σ Q ↔ Wp L d k_M_parse 116 [l0, l1, l2] [] (gupd σ c0 9 s1) Q := wp_putI (c := 3081) rfl rfl rfl rfl h
set_option maxRecDepth 4000 in
theorem r_M_parse_116 : Wp L d k_M_parse 116 [l0, l1, vI a2] [] σ Q ↔ Wp L d k_M_parse 117 [l0, l1, vI a2] [vI a2] σ Q := wp_iload rfl rfl
set_option maxRecDepth 4000 in
theorem r_M_parse_117 : Wp L d k_M_parse 117 [l0, l1, l2] [vI s0] σ Q ↔ (if s0 = 0 then Wp L d k_M_parse 124 [l0, l1, l2] [] σ Q else Wp L d k_M_parse 120 [l0, l1, l2] [] σ Q) := wp_if_eq rfl
set_option maxRecDepth 4000 in
theorem r_M_parse_120 : Wp L d k_M_parse 120 [l0, vI a1, l2] [] σ Q ↔ Wp L d k_M_parse 121 [l0, vI a1, l2] [vI a1] σ Q := wp_iload rfl rfl
set_option maxRecDepth 4000 in
theorem r_M_parse_121 : Wp L d k_M_parse 121 [l0, l1, l2] [vI s0] σ Q ↔ Wp L d k_M_parse 125 [l0, l1, l2] [vI s0] σ Q := wp_goto rfl
set_option maxRecDepth 4000 in
theorem r_M_parse_124 : Wp L d k_M_parse 124 [l0, l1, l2] [] σ Q ↔ Wp L d k_M_parse 125 [l0, l1, l2] [vI (-1)] σ Q := wp_push rfl
set_option maxRecDepth 4000 in
theorem r_M_parse_125 : Wp L d k_M_parse 125 [l0, l1, l2] [vI s0] σ Q ↔ Q (some (vI s0)) σ := wp_iret rfl
set_option maxRecDepth 4000 in
theorem r_M_parse_49 : Wp L (d + 9) k_M_parse 49 [l0, l1, l2] [vI s2, vR 293, vR c0] σ Q ↔ Wp L (d + 9) k_M_parse 52 [l0, l1, l2] [vI (w32 (930 + w32 (200 * s2))), vR c0] σ Q := wp_callR (d := d + 8) (as := [vR 293, vI s2]) (rest := [vR c0]) rfl rfl rfl rfl rfl rfl rfl (grecv_k (by rw [gK_293]) rfl) (sp_M_textAt)
set_option maxRecDepth 4000 in
theorem mq_in {B : Nat} (h : 0 ≤ σ 294 2 ∧ σ 294 2 ≤ 12) (hB : σ 294 2 < 12 ∧ (B : Int) = 930 + 200 * σ 294 2 + 4 ∨ σ 294 2 = 12 ∧ B = 3340) (hq : Wp L (d + 100) k_M_parse 63 [vR 293, vU, vU] [] (gupd (gupd (gupd (gupd (gupd (gupd (gupd σ 293 11 0) 293 12 3) 293 15 0) 293 16 0) 293 17 0) 293 19 0) 293 18 (B : Int)) Q) : Wp L (d + 100) k_M_parse 0 [vR 293, vU, vU] [] σ Q := by
  obtain ⟨K293, Q293, K294, N294⟩ := litM
  have i2 : (0 : Int) ≤ 2 ∧ (2 : Int) < ((gN 294 : Nat) : Int) := by omega
  have hX : ∀ a : Int, 0 ≤ a ∧ a < 12 → w32 (930 + w32 (200 * a)) = 930 + 200 * a := fun a ha => by rw [w32i (x := 200 * a) (by omega), w32i (by omega)]
  rcases hB with ⟨h1, h2⟩ | ⟨h1, h2⟩
  · rw [h2] at hq
    have e1 := hX (σ 294 2) (by omega)
    simp (disch := first | assumption | exact gb_01 _ | omega) only [r_M_parse_0, r_M_parse_1, r_M_parse_2, r_M_parse_5, r_M_parse_6, r_M_parse_7, r_M_parse_10, r_M_parse_11, r_M_parse_12, r_M_parse_15, r_M_parse_16, r_M_parse_17, r_M_parse_20, r_M_parse_21, r_M_parse_22, r_M_parse_25, r_M_parse_26, r_M_parse_27, r_M_parse_30, r_M_parse_31, r_M_parse_32, r_M_parse_35, r_M_parse_36, r_M_parse_37, r_M_parse_39, r_M_parse_42, r_M_parse_43, r_M_parse_44, r_M_parse_47, r_M_parse_48, r_M_parse_49, r_M_parse_52, r_M_parse_53, r_M_parse_54, r_M_parse_57, r_M_parse_60, r_M_parse_67, r_M_parse_71, r_M_parse_72, r_M_parse_73, r_M_parse_76, r_M_parse_77, r_M_parse_80, r_M_parse_81, r_M_parse_82, r_M_parse_83, r_M_parse_86, r_M_parse_90, r_M_parse_91, r_M_parse_95, r_M_parse_98, r_M_parse_99, r_M_parse_102, r_M_parse_105, r_M_parse_106, r_M_parse_109, r_M_parse_110, r_M_parse_111, r_M_parse_112, r_M_parse_113, r_M_parse_116, r_M_parse_117, r_M_parse_120, r_M_parse_121, r_M_parse_124, r_M_parse_125, Q293, gupd_ne, gupd_eq, e1, w32_gb, w32i, tn_add, tn_mul, Int.toNat_natCast, Int.toNat_zero, Int.reduceLE, Int.reduceLT, Int.reduceEq, Int.reduceNe, gb_T, gb_F, Int.reduceToNat, eq_self, true_or, or_true, and_true, true_and, and_self, ↓ite_gb0, ↓ite_gbn, ↓if_pos, ↓if_neg, if_true, if_false, not_true_eq_false, not_false_eq_true, gb_ne0, gb_eq0]
    exact hq
  · subst h2
    simp (disch := first | assumption | exact gb_01 _ | omega) only [r_M_parse_0, r_M_parse_1, r_M_parse_2, r_M_parse_5, r_M_parse_6, r_M_parse_7, r_M_parse_10, r_M_parse_11, r_M_parse_12, r_M_parse_15, r_M_parse_16, r_M_parse_17, r_M_parse_20, r_M_parse_21, r_M_parse_22, r_M_parse_25, r_M_parse_26, r_M_parse_27, r_M_parse_30, r_M_parse_31, r_M_parse_32, r_M_parse_35, r_M_parse_36, r_M_parse_37, r_M_parse_39, r_M_parse_42, r_M_parse_43, r_M_parse_44, r_M_parse_47, r_M_parse_48, r_M_parse_49, r_M_parse_52, r_M_parse_53, r_M_parse_54, r_M_parse_57, r_M_parse_60, r_M_parse_67, r_M_parse_71, r_M_parse_72, r_M_parse_73, r_M_parse_76, r_M_parse_77, r_M_parse_80, r_M_parse_81, r_M_parse_82, r_M_parse_83, r_M_parse_86, r_M_parse_90, r_M_parse_91, r_M_parse_95, r_M_parse_98, r_M_parse_99, r_M_parse_102, r_M_parse_105, r_M_parse_106, r_M_parse_109, r_M_parse_110, r_M_parse_111, r_M_parse_112, r_M_parse_113, r_M_parse_116, r_M_parse_117, r_M_parse_120, r_M_parse_121, r_M_parse_124, r_M_parse_125, Q293, gupd_ne, gupd_eq, h1, w32_gb, w32i, tn_add, tn_mul, Int.toNat_natCast, Int.toNat_zero, Int.reduceLE, Int.reduceLT, Int.reduceEq, Int.reduceNe, gb_T, gb_F, Int.reduceToNat, eq_self, true_or, or_true, and_true, true_and, and_self, ↓ite_gb0, ↓ite_gbn, ↓if_pos, ↓if_neg, if_true, if_false, not_true_eq_false, not_false_eq_true, gb_ne0, gb_eq0]
    exact hq
set_option maxRecDepth 4000 in
theorem mq_none {σ2 : gMm} (hN : Run L (d + 99) 241 [vR 293] σ none σ2) (hK : Run L (d + 99) 244 [vR 293] σ2 (some (vI (-1))) σ2) (hq : Q (some (vI (-1))) (gupd σ2 293 9 0)) : Wp L (d + 100) k_M_parse 63 [vR 293, vU, vU] [] σ Q := by
  obtain ⟨K293, Q293, K294, N294⟩ := litM
  rw [r_M_parse_63]
  simp (disch := first | assumption | exact gb_01 _ | omega) only [r_M_parse_0, r_M_parse_1, r_M_parse_2, r_M_parse_5, r_M_parse_6, r_M_parse_7, r_M_parse_10, r_M_parse_11, r_M_parse_12, r_M_parse_15, r_M_parse_16, r_M_parse_17, r_M_parse_20, r_M_parse_21, r_M_parse_22, r_M_parse_25, r_M_parse_26, r_M_parse_27, r_M_parse_30, r_M_parse_31, r_M_parse_32, r_M_parse_35, r_M_parse_36, r_M_parse_37, r_M_parse_39, r_M_parse_42, r_M_parse_43, r_M_parse_44, r_M_parse_47, r_M_parse_48, r_M_parse_49, r_M_parse_52, r_M_parse_53, r_M_parse_54, r_M_parse_57, r_M_parse_60, r_M_parse_67, r_M_parse_71, r_M_parse_72, r_M_parse_73, r_M_parse_76, r_M_parse_77, r_M_parse_80, r_M_parse_81, r_M_parse_82, r_M_parse_83, r_M_parse_86, r_M_parse_90, r_M_parse_91, r_M_parse_95, r_M_parse_98, r_M_parse_99, r_M_parse_102, r_M_parse_105, r_M_parse_106, r_M_parse_109, r_M_parse_110, r_M_parse_111, r_M_parse_112, r_M_parse_113, r_M_parse_116, r_M_parse_117, r_M_parse_120, r_M_parse_121, r_M_parse_124, r_M_parse_125, c_M_parse_64 hN, c_M_parse_68 hK, Option.toList, List.singleton_append, List.cons_append, List.nil_append, List.append_nil, Q293, gupd_ne, gupd_eq, w32_gb, w32i, tn_add, tn_mul, Int.toNat_natCast, Int.toNat_zero, Int.reduceLE, Int.reduceLT, Int.reduceEq, Int.reduceNe, gb_T, gb_F, Int.reduceToNat, eq_self, true_or, or_true, and_true, true_and, and_self, ↓ite_gb0, ↓ite_gbn, ↓if_pos, ↓if_neg, if_true, if_false, not_true_eq_false, not_false_eq_true, gb_ne0, gb_eq0]
  exact hq
set_option maxRecDepth 4000 in
theorem mq_f {σ2 σ3 σ4 : gMm} {key : Int} (hN : Run L (d + 99) 241 [vR 293] σ none σ2) (hk : 0 ≤ key) (hK : Run L (d + 99) 244 [vR 293] σ2 (some (vI key)) σ2) (hN2 : Run L (d + 99) 241 [vR 293] σ2 none σ3) (hU : Run L (d + 99) 247 [vR 293, vI key] σ3 (some (vI 0)) σ4) (hq : Q (some (vI (-1))) (gupd σ4 293 9 0)) : Wp L (d + 100) k_M_parse 63 [vR 293, vU, vU] [] σ Q := by
  obtain ⟨K293, Q293, K294, N294⟩ := litM
  rw [r_M_parse_63]
  simp (disch := first | assumption | exact gb_01 _ | omega) only [r_M_parse_0, r_M_parse_1, r_M_parse_2, r_M_parse_5, r_M_parse_6, r_M_parse_7, r_M_parse_10, r_M_parse_11, r_M_parse_12, r_M_parse_15, r_M_parse_16, r_M_parse_17, r_M_parse_20, r_M_parse_21, r_M_parse_22, r_M_parse_25, r_M_parse_26, r_M_parse_27, r_M_parse_30, r_M_parse_31, r_M_parse_32, r_M_parse_35, r_M_parse_36, r_M_parse_37, r_M_parse_39, r_M_parse_42, r_M_parse_43, r_M_parse_44, r_M_parse_47, r_M_parse_48, r_M_parse_49, r_M_parse_52, r_M_parse_53, r_M_parse_54, r_M_parse_57, r_M_parse_60, r_M_parse_67, r_M_parse_71, r_M_parse_72, r_M_parse_73, r_M_parse_76, r_M_parse_77, r_M_parse_80, r_M_parse_81, r_M_parse_82, r_M_parse_83, r_M_parse_86, r_M_parse_90, r_M_parse_91, r_M_parse_95, r_M_parse_98, r_M_parse_99, r_M_parse_102, r_M_parse_105, r_M_parse_106, r_M_parse_109, r_M_parse_110, r_M_parse_111, r_M_parse_112, r_M_parse_113, r_M_parse_116, r_M_parse_117, r_M_parse_120, r_M_parse_121, r_M_parse_124, r_M_parse_125, c_M_parse_64 hN, c_M_parse_68 hK, c_M_parse_87 hN2, c_M_parse_92 hU, Option.toList, List.singleton_append, List.cons_append, List.nil_append, List.append_nil, Q293, gupd_ne, gupd_eq, w32_gb, w32i, tn_add, tn_mul, Int.toNat_natCast, Int.toNat_zero, Int.reduceLE, Int.reduceLT, Int.reduceEq, Int.reduceNe, gb_T, gb_F, Int.reduceToNat, eq_self, true_or, or_true, and_true, true_and, and_self, ↓ite_gb0, ↓ite_gbn, ↓if_pos, ↓if_neg, if_true, if_false, not_true_eq_false, not_false_eq_true, gb_ne0, gb_eq0]
  exact hq
set_option maxRecDepth 4000 in
theorem mq_e {σ2 σ3 σ4 : gMm} {key : Int} (hN : Run L (d + 99) 241 [vR 293] σ none σ2) (hk : 0 ≤ key) (hK : Run L (d + 99) 244 [vR 293] σ2 (some (vI key)) σ2) (hN2 : Run L (d + 99) 241 [vR 293] σ2 none σ3) (hU : Run L (d + 99) 247 [vR 293, vI key] σ3 (some (vI 1)) σ4) (h4 : σ4 293 12 ≠ 0) (hq : Q (some (vI (-1))) (gupd σ4 293 9 0)) : Wp L (d + 100) k_M_parse 63 [vR 293, vU, vU] [] σ Q := by
  obtain ⟨K293, Q293, K294, N294⟩ := litM
  rw [r_M_parse_63]
  simp (disch := first | assumption | exact gb_01 _ | omega) only [r_M_parse_0, r_M_parse_1, r_M_parse_2, r_M_parse_5, r_M_parse_6, r_M_parse_7, r_M_parse_10, r_M_parse_11, r_M_parse_12, r_M_parse_15, r_M_parse_16, r_M_parse_17, r_M_parse_20, r_M_parse_21, r_M_parse_22, r_M_parse_25, r_M_parse_26, r_M_parse_27, r_M_parse_30, r_M_parse_31, r_M_parse_32, r_M_parse_35, r_M_parse_36, r_M_parse_37, r_M_parse_39, r_M_parse_42, r_M_parse_43, r_M_parse_44, r_M_parse_47, r_M_parse_48, r_M_parse_49, r_M_parse_52, r_M_parse_53, r_M_parse_54, r_M_parse_57, r_M_parse_60, r_M_parse_67, r_M_parse_71, r_M_parse_72, r_M_parse_73, r_M_parse_76, r_M_parse_77, r_M_parse_80, r_M_parse_81, r_M_parse_82, r_M_parse_83, r_M_parse_86, r_M_parse_90, r_M_parse_91, r_M_parse_95, r_M_parse_98, r_M_parse_99, r_M_parse_102, r_M_parse_105, r_M_parse_106, r_M_parse_109, r_M_parse_110, r_M_parse_111, r_M_parse_112, r_M_parse_113, r_M_parse_116, r_M_parse_117, r_M_parse_120, r_M_parse_121, r_M_parse_124, r_M_parse_125, c_M_parse_64 hN, c_M_parse_68 hK, c_M_parse_87 hN2, c_M_parse_92 hU, Option.toList, List.singleton_append, List.cons_append, List.nil_append, List.append_nil, Q293, gupd_ne, gupd_eq, w32_gb, w32i, tn_add, tn_mul, Int.toNat_natCast, Int.toNat_zero, Int.reduceLE, Int.reduceLT, Int.reduceEq, Int.reduceNe, gb_T, gb_F, Int.reduceToNat, eq_self, true_or, or_true, and_true, true_and, and_self, ↓ite_gb0, ↓ite_gbn, ↓if_pos, ↓if_neg, if_true, if_false, not_true_eq_false, not_false_eq_true, gb_ne0, gb_eq0]
  exact hq
set_option maxRecDepth 4000 in
theorem mq_s {σ2 σ3 σ4 : gMm} {key : Int} (hN : Run L (d + 99) 241 [vR 293] σ none σ2) (hk : 0 ≤ key) (hK : Run L (d + 99) 244 [vR 293] σ2 (some (vI key)) σ2) (hN2 : Run L (d + 99) 241 [vR 293] σ2 none σ3) (hU : Run L (d + 99) 247 [vR 293, vI key] σ3 (some (vI 1)) σ4) (h4 : σ4 293 12 = 0) (hq : Q (some (vI key)) (gupd σ4 293 9 0)) : Wp L (d + 100) k_M_parse 63 [vR 293, vU, vU] [] σ Q := by
  obtain ⟨K293, Q293, K294, N294⟩ := litM
  rw [r_M_parse_63]
  simp (disch := first | assumption | exact gb_01 _ | omega) only [r_M_parse_0, r_M_parse_1, r_M_parse_2, r_M_parse_5, r_M_parse_6, r_M_parse_7, r_M_parse_10, r_M_parse_11, r_M_parse_12, r_M_parse_15, r_M_parse_16, r_M_parse_17, r_M_parse_20, r_M_parse_21, r_M_parse_22, r_M_parse_25, r_M_parse_26, r_M_parse_27, r_M_parse_30, r_M_parse_31, r_M_parse_32, r_M_parse_35, r_M_parse_36, r_M_parse_37, r_M_parse_39, r_M_parse_42, r_M_parse_43, r_M_parse_44, r_M_parse_47, r_M_parse_48, r_M_parse_49, r_M_parse_52, r_M_parse_53, r_M_parse_54, r_M_parse_57, r_M_parse_60, r_M_parse_67, r_M_parse_71, r_M_parse_72, r_M_parse_73, r_M_parse_76, r_M_parse_77, r_M_parse_80, r_M_parse_81, r_M_parse_82, r_M_parse_83, r_M_parse_86, r_M_parse_90, r_M_parse_91, r_M_parse_95, r_M_parse_98, r_M_parse_99, r_M_parse_102, r_M_parse_105, r_M_parse_106, r_M_parse_109, r_M_parse_110, r_M_parse_111, r_M_parse_112, r_M_parse_113, r_M_parse_116, r_M_parse_117, r_M_parse_120, r_M_parse_121, r_M_parse_124, r_M_parse_125, c_M_parse_64 hN, c_M_parse_68 hK, c_M_parse_87 hN2, c_M_parse_92 hU, Option.toList, List.singleton_append, List.cons_append, List.nil_append, List.append_nil, Q293, gupd_ne, gupd_eq, h4, w32_gb, w32i, tn_add, tn_mul, Int.toNat_natCast, Int.toNat_zero, Int.reduceLE, Int.reduceLT, Int.reduceEq, Int.reduceNe, gb_T, gb_F, Int.reduceToNat, eq_self, true_or, or_true, and_true, true_and, and_self, ↓ite_gb0, ↓ite_gbn, ↓if_pos, ↓if_neg, if_true, if_false, not_true_eq_false, not_false_eq_true, gb_ne0, gb_eq0]
  exact hq
