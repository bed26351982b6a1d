/-! of, why, rules, fast, judged. -/
variable {L d : Nat} {σ σ1 : Nat → Nat → Int} {Q : Option gV → (Nat → Nat → Int) → Prop} {a0 a1 a2 a3 a4 a5 a6 a7 a8 a9 a10 a11 s0 s1 s2 s3 s4 s5 s6 s7 s8 s9 : Int} {l0 l1 l2 l3 l4 l5 l6 l7 l8 l9 l10 l11 t0 t1 t2 t3 t4 t5 t6 t7 t8 t9 : gV} {b0 b1 b2 b3 b4 b5 b6 b7 b8 b9 b10 b11 c0 c1 c2 c3 c4 c5 c6 c7 c8 c9 : Nat} {r : Option gV}
theorem r_M_ruleOf_0 : Wp L d k_M_ruleOf 0 [vR b0, l1, l2, l3, l4, l5] [] σ Q ↔ Wp L d k_M_ruleOf 1 [vR b0, l1, l2, l3, l4, l5] [vR b0] σ Q := wp_aload rfl rfl
theorem r_M_ruleOf_1 (h : gK c0 = 12) : Wp L d k_M_ruleOf 1 [l0, l1, l2, l3, l4, l5] [vR c0] σ Q ↔ Wp L d k_M_ruleOf 4 [l0, l1, l2, l3, l4, l5] [vR (gq c0 20)] σ Q := wp_getR (c := 3220) rfl rfl rfl rfl rfl h
theorem r_M_ruleOf_4 : Wp L d k_M_ruleOf 4 [l0, vI a1, l2, l3, l4, l5] [vR c0] σ Q ↔ Wp L d k_M_ruleOf 5 [l0, vI a1, l2, l3, l4, l5] [vI a1, vR c0] σ Q := wp_iload rfl rfl
theorem r_M_ruleOf_5 : Wp L d k_M_ruleOf 5 [l0, l1, l2, l3, l4, l5] [vI s1, vR c0] σ Q ↔ (if s1 ≠ 0 then Wp L d k_M_ruleOf 13 [l0, l1, l2, l3, l4, l5] [vR c0] σ Q else Wp L d k_M_ruleOf 8 [l0, l1, l2, l3, l4, l5] [vR c0] σ Q) := wp_if_ne rfl
theorem r_M_ruleOf_8 : Wp L d k_M_ruleOf 8 [l0, l1, l2, l3, l4, l5] [vR c0] σ Q ↔ Wp L d k_M_ruleOf 10 [l0, l1, l2, l3, l4, l5] [vI 112, vR c0] σ Q := wp_push rfl
theorem r_M_ruleOf_10 : Wp L d k_M_ruleOf 10 [l0, l1, l2, l3, l4, l5] [vI s1, vR c0] σ Q ↔ Wp L d k_M_ruleOf 35 [l0, l1, l2, l3, l4, l5] [vI s1, vR c0] σ Q := wp_goto rfl
theorem r_M_ruleOf_13 : Wp L d k_M_ruleOf 13 [l0, vI a1, l2, l3, l4, l5] [vR c0] σ Q ↔ Wp L d k_M_ruleOf 14 [l0, vI a1, l2, l3, l4, l5] [vI a1, vR c0] σ Q := wp_iload rfl rfl
theorem r_M_ruleOf_14 : Wp L d k_M_ruleOf 14 [l0, l1, l2, l3, l4, l5] [vI s1, vR c0] σ Q ↔ Wp L d k_M_ruleOf 15 [l0, l1, l2, l3, l4, l5] [vI 1, vI s1, vR c0] σ Q := wp_push rfl
theorem r_M_ruleOf_15 : Wp L d k_M_ruleOf 15 [l0, l1, l2, l3, l4, l5] [vI s2, vI s1, vR c0] σ Q ↔ (if s1 ≠ s2 then Wp L d k_M_ruleOf 23 [l0, l1, l2, l3, l4, l5] [vR c0] σ Q else Wp L d k_M_ruleOf 18 [l0, l1, l2, l3, l4, l5] [vR c0] σ Q) := wp_cmp_ne rfl
theorem r_M_ruleOf_18 : Wp L d k_M_ruleOf 18 [l0, l1, l2, l3, l4, l5] [vR c0] σ Q ↔ Wp L d k_M_ruleOf 20 [l0, l1, l2, l3, l4, l5] [vI 119, vR c0] σ Q := wp_push rfl
theorem r_M_ruleOf_20 : Wp L d k_M_ruleOf 20 [l0, l1, l2, l3, l4, l5] [vI s1, vR c0] σ Q ↔ Wp L d k_M_ruleOf 35 [l0, l1, l2, l3, l4, l5] [vI s1, vR c0] σ Q := wp_goto rfl
theorem r_M_ruleOf_23 : Wp L d k_M_ruleOf 23 [l0, vI a1, l2, l3, l4, l5] [vR c0] σ Q ↔ Wp L d k_M_ruleOf 24 [l0, vI a1, l2, l3, l4, l5] [vI a1, vR c0] σ Q := wp_iload rfl rfl
theorem r_M_ruleOf_24 : Wp L d k_M_ruleOf 24 [l0, l1, l2, l3, l4, l5] [vI s1, vR c0] σ Q ↔ Wp L d k_M_ruleOf 25 [l0, l1, l2, l3, l4, l5] [vI 2, vI s1, vR c0] σ Q := wp_push rfl
theorem r_M_ruleOf_25 : Wp L d k_M_ruleOf 25 [l0, l1, l2, l3, l4, l5] [vI s2, vI s1, vR c0] σ Q ↔ (if s1 ≠ s2 then Wp L d k_M_ruleOf 33 [l0, l1, l2, l3, l4, l5] [vR c0] σ Q else Wp L d k_M_ruleOf 28 [l0, l1, l2, l3, l4, l5] [vR c0] σ Q) := wp_cmp_ne rfl
theorem r_M_ruleOf_28 : Wp L d k_M_ruleOf 28 [l0, l1, l2, l3, l4, l5] [vR c0] σ Q ↔ Wp L d k_M_ruleOf 30 [l0, l1, l2, l3, l4, l5] [vI 115, vR c0] σ Q := wp_push rfl
theorem r_M_ruleOf_30 : Wp L d k_M_ruleOf 30 [l0, l1, l2, l3, l4, l5] [vI s1, vR c0] σ Q ↔ Wp L d k_M_ruleOf 35 [l0, l1, l2, l3, l4, l5] [vI s1, vR c0] σ Q := wp_goto rfl
theorem r_M_ruleOf_33 : Wp L d k_M_ruleOf 33 [l0, l1, l2, l3, l4, l5] [vR c0] σ Q ↔ Wp L d k_M_ruleOf 35 [l0, l1, l2, l3, l4, l5] [vI 111, vR c0] σ Q := wp_push rfl
theorem r_M_ruleOf_35 : Wp L d k_M_ruleOf 35 [l0, l1, vI a2, l3, l4, l5] [vI s1, vR c0] σ Q ↔ Wp L d k_M_ruleOf 36 [l0, l1, vI a2, l3, l4, l5] [vI a2, vI s1, vR c0] σ Q := wp_iload rfl rfl
theorem r_M_ruleOf_36 (h : gK c0 = 100) (hx : 0 ≤ s1 ∧ s1 < gN c0) : Wp L d k_M_ruleOf 36 [l0, l1, l2, l3, l4, l5] [vI s2, vI s1, vR c0] σ Q ↔ Wp L d k_M_ruleOf 37 [l0, l1, l2, l3, l4, l5] [] (gupd σ c0 s1.toNat s2) Q := wp_iast rfl h hx
theorem r_M_ruleOf_37 : Wp L d k_M_ruleOf 37 [vR b0, l1, l2, l3, l4, l5] [] σ Q ↔ Wp L d k_M_ruleOf 38 [vR b0, l1, l2, l3, l4, l5] [vR b0] σ Q := wp_aload rfl rfl
theorem r_M_ruleOf_38 (h : gK c0 = 12) : Wp L d k_M_ruleOf 38 [l0, l1, l2, l3, l4, l5] [vR c0] σ Q ↔ Wp L d k_M_ruleOf 41 [l0, l1, l2, l3, l4, l5] [vR (gq c0 20)] σ Q := wp_getR (c := 3220) rfl rfl rfl rfl rfl h
theorem r_M_ruleOf_41 : Wp L d k_M_ruleOf 41 [l0, vI a1, l2, l3, l4, l5] [vR c0] σ Q ↔ Wp L d k_M_ruleOf 42 [l0, vI a1, l2, l3, l4, l5] [vI a1, vR c0] σ Q := wp_iload rfl rfl
theorem r_M_ruleOf_42 : Wp L d k_M_ruleOf 42 [l0, l1, l2, l3, l4, l5] [vI s1, vR c0] σ Q ↔ (if s1 ≠ 0 then Wp L d k_M_ruleOf 50 [l0, l1, l2, l3, l4, l5] [vR c0] σ Q else Wp L d k_M_ruleOf 45 [l0, l1, l2, l3, l4, l5] [vR c0] σ Q) := wp_if_ne rfl
theorem r_M_ruleOf_45 : Wp L d k_M_ruleOf 45 [l0, l1, l2, l3, l4, l5] [vR c0] σ Q ↔ Wp L d k_M_ruleOf 47 [l0, l1, l2, l3, l4, l5] [vI 109, vR c0] σ Q := wp_push rfl
theorem r_M_ruleOf_47 : Wp L d k_M_ruleOf 47 [l0, l1, l2, l3, l4, l5] [vI s1, vR c0] σ Q ↔ Wp L d k_M_ruleOf 72 [l0, l1, l2, l3, l4, l5] [vI s1, vR c0] σ Q := wp_goto rfl
theorem r_M_ruleOf_50 : Wp L d k_M_ruleOf 50 [l0, vI a1, l2, l3, l4, l5] [vR c0] σ Q ↔ Wp L d k_M_ruleOf 51 [l0, vI a1, l2, l3, l4, l5] [vI a1, vR c0] σ Q := wp_iload rfl rfl
theorem r_M_ruleOf_51 : Wp L d k_M_ruleOf 51 [l0, l1, l2, l3, l4, l5] [vI s1, vR c0] σ Q ↔ Wp L d k_M_ruleOf 52 [l0, l1, l2, l3, l4, l5] [vI 1, vI s1, vR c0] σ Q := wp_push rfl
theorem r_M_ruleOf_52 : Wp L d k_M_ruleOf 52 [l0, l1, l2, l3, l4, l5] [vI s2, vI s1, vR c0] σ Q ↔ (if s1 ≠ s2 then Wp L d k_M_ruleOf 60 [l0, l1, l2, l3, l4, l5] [vR c0] σ Q else Wp L d k_M_ruleOf 55 [l0, l1, l2, l3, l4, l5] [vR c0] σ Q) := wp_cmp_ne rfl
theorem r_M_ruleOf_55 : Wp L d k_M_ruleOf 55 [l0, l1, l2, l3, l4, l5] [vR c0] σ Q ↔ Wp L d k_M_ruleOf 57 [l0, l1, l2, l3, l4, l5] [vI 103, vR c0] σ Q := wp_push rfl
theorem r_M_ruleOf_57 : Wp L d k_M_ruleOf 57 [l0, l1, l2, l3, l4, l5] [vI s1, vR c0] σ Q ↔ Wp L d k_M_ruleOf 72 [l0, l1, l2, l3, l4, l5] [vI s1, vR c0] σ Q := wp_goto rfl
theorem r_M_ruleOf_60 : Wp L d k_M_ruleOf 60 [l0, vI a1, l2, l3, l4, l5] [vR c0] σ Q ↔ Wp L d k_M_ruleOf 61 [l0, vI a1, l2, l3, l4, l5] [vI a1, vR c0] σ Q := wp_iload rfl rfl
theorem r_M_ruleOf_61 : Wp L d k_M_ruleOf 61 [l0, l1, l2, l3, l4, l5] [vI s1, vR c0] σ Q ↔ Wp L d k_M_ruleOf 62 [l0, l1, l2, l3, l4, l5] [vI 2, vI s1, vR c0] σ Q := wp_push rfl
theorem r_M_ruleOf_62 : Wp L d k_M_ruleOf 62 [l0, l1, l2, l3, l4, l5] [vI s2, vI s1, vR c0] σ Q ↔ (if s1 ≠ s2 then Wp L d k_M_ruleOf 70 [l0, l1, l2, l3, l4, l5] [vR c0] σ Q else Wp L d k_M_ruleOf 65 [l0, l1, l2, l3, l4, l5] [vR c0] σ Q) := wp_cmp_ne rfl
theorem r_M_ruleOf_65 : Wp L d k_M_ruleOf 65 [l0, l1, l2, l3, l4, l5] [vR c0] σ Q ↔ Wp L d k_M_ruleOf 67 [l0, l1, l2, l3, l4, l5] [vI 102, vR c0] σ Q := wp_push rfl
theorem r_M_ruleOf_67 : Wp L d k_M_ruleOf 67 [l0, l1, l2, l3, l4, l5] [vI s1, vR c0] σ Q ↔ Wp L d k_M_ruleOf 72 [l0, l1, l2, l3, l4, l5] [vI s1, vR c0] σ Q := wp_goto rfl
theorem r_M_ruleOf_70 : Wp L d k_M_ruleOf 70 [l0, l1, l2, l3, l4, l5] [vR c0] σ Q ↔ Wp L d k_M_ruleOf 72 [l0, l1, l2, l3, l4, l5] [vI 120, vR c0] σ Q := wp_push rfl
theorem r_M_ruleOf_72 : Wp L d k_M_ruleOf 72 [l0, l1, l2, vI a3, l4, l5] [vI s1, vR c0] σ Q ↔ Wp L d k_M_ruleOf 73 [l0, l1, l2, vI a3, l4, l5] [vI a3, vI s1, vR c0] σ Q := wp_iload rfl rfl
theorem r_M_ruleOf_73 (h : gK c0 = 100) (hx : 0 ≤ s1 ∧ s1 < gN c0) : Wp L d k_M_ruleOf 73 [l0, l1, l2, l3, l4, l5] [vI s2, vI s1, vR c0] σ Q ↔ Wp L d k_M_ruleOf 74 [l0, l1, l2, l3, l4, l5] [] (gupd σ c0 s1.toNat s2) Q := wp_iast rfl h hx
theorem r_M_ruleOf_74 : Wp L d k_M_ruleOf 74 [l0, vI a1, l2, l3, l4, l5] [] σ Q ↔ Wp L d k_M_ruleOf 75 [l0, vI a1, l2, l3, l4, l5] [vI a1] σ Q := wp_iload rfl rfl
theorem r_M_ruleOf_75 : Wp L d k_M_ruleOf 75 [l0, l1, l2, l3, l4, l5] [vI s0] σ Q ↔ Wp L d k_M_ruleOf 76 [l0, l1, l2, l3, l4, l5] [vI 2, vI s0] σ Q := wp_push rfl
theorem r_M_ruleOf_76 : Wp L d k_M_ruleOf 76 [l0, l1, l2, l3, l4, l5] [vI s1, vI s0] σ Q ↔ (if s0 ≠ s1 then Wp L d k_M_ruleOf 88 [l0, l1, l2, l3, l4, l5] [] σ Q else Wp L d k_M_ruleOf 79 [l0, l1, l2, l3, l4, l5] [] σ Q) := wp_cmp_ne rfl
theorem r_M_ruleOf_79 : Wp L d k_M_ruleOf 79 [vR b0, l1, l2, l3, l4, l5] [] σ Q ↔ Wp L d k_M_ruleOf 80 [vR b0, l1, l2, l3, l4, l5] [vR b0] σ Q := wp_aload rfl rfl
theorem r_M_ruleOf_80 (h : gK c0 = 12) : Wp L d k_M_ruleOf 80 [l0, l1, l2, l3, l4, l5] [vR c0] σ Q ↔ Wp L d k_M_ruleOf 83 [l0, l1, l2, l3, l4, l5] [vR (gq c0 20)] σ Q := wp_getR (c := 3220) rfl rfl rfl rfl rfl h
theorem r_M_ruleOf_83 : Wp L d k_M_ruleOf 83 [l0, l1, l2, l3, l4, l5] [vR c0] σ Q ↔ Wp L d k_M_ruleOf 85 [l0, l1, l2, l3, l4, l5] [vI 107, vR c0] σ Q := wp_push rfl
theorem r_M_ruleOf_85 : Wp L d k_M_ruleOf 85 [l0, l1, l2, l3, vI a4, l5] [vI s1, vR c0] σ Q ↔ Wp L d k_M_ruleOf 87 [l0, l1, l2, l3, vI a4, l5] [vI a4, vI s1, vR c0] σ Q := wp_iload rfl rfl
theorem r_M_ruleOf_87 (h : gK c0 = 100) (hx : 0 ≤ s1 ∧ s1 < gN c0) : Wp L d k_M_ruleOf 87 [l0, l1, l2, l3, l4, l5] [vI s2, vI s1, vR c0] σ Q ↔ Wp L d k_M_ruleOf 88 [l0, l1, l2, l3, l4, l5] [] (gupd σ c0 s1.toNat s2) Q := wp_iast rfl h hx
theorem r_M_ruleOf_88 : Wp L d k_M_ruleOf 88 [vR b0, l1, l2, l3, l4, l5] [] σ Q ↔ Wp L d k_M_ruleOf 89 [vR b0, l1, l2, l3, l4, l5] [vR b0] σ Q := wp_aload rfl rfl
theorem r_M_ruleOf_89 : Wp L d k_M_ruleOf 89 [l0, vI a1, l2, l3, l4, l5] [vR c0] σ Q ↔ Wp L d k_M_ruleOf 90 [l0, vI a1, l2, l3, l4, l5] [vI a1, vR c0] σ Q := wp_iload rfl rfl
theorem r_M_ruleOf_93 : Wp L d k_M_ruleOf 93 [l0, l1, l2, l3, vI a4, l5] [vI s0] σ Q ↔ Wp L d k_M_ruleOf 95 [l0, l1, l2, l3, vI a4, vI s0] [] σ Q := wp_istore (i := 5) (ls := [l0, l1, l2, l3, vI a4, l5]) rfl rfl
theorem r_M_ruleOf_95 : Wp L d k_M_ruleOf 95 [l0, l1, l2, l3, l4, vI a5] [] σ Q ↔ Wp L d k_M_ruleOf 97 [l0, l1, l2, l3, l4, vI a5] [vI a5] σ Q := wp_iload rfl rfl
theorem r_M_ruleOf_97 : Wp L d k_M_ruleOf 97 [l0, l1, l2, l3, l4, l5] [vI s0] σ Q ↔ (if 0 ≤ s0 then Wp L d k_M_ruleOf 123 [l0, l1, l2, l3, l4, l5] [] σ Q else Wp L d k_M_ruleOf 100 [l0, l1, l2, l3, l4, l5] [] σ Q) := wp_if_ge rfl
theorem r_M_ruleOf_100 : Wp L d k_M_ruleOf 100 [l0, vI a1, l2, l3, l4, l5] [] σ Q ↔ Wp L d k_M_ruleOf 101 [l0, vI a1, l2, l3, l4, l5] [vI a1] σ Q := wp_iload rfl rfl
theorem r_M_ruleOf_101 : Wp L d k_M_ruleOf 101 [l0, l1, l2, l3, l4, l5] [vI s0] σ Q ↔ (if s0 ≠ 0 then Wp L d k_M_ruleOf 109 [l0, l1, l2, l3, l4, l5] [] σ Q else Wp L d k_M_ruleOf 104 [l0, l1, l2, l3, l4, l5] [] σ Q) := wp_if_ne rfl
theorem r_M_ruleOf_104 : Wp L d k_M_ruleOf 104 [l0, l1, l2, l3, l4, l5] [] σ Q ↔ Wp L d k_M_ruleOf 106 [l0, l1, l2, l3, l4, l5] [vI 10] σ Q := wp_push rfl
theorem r_M_ruleOf_106 : Wp L d k_M_ruleOf 106 [l0, l1, l2, l3, l4, l5] [vI s0] σ Q ↔ Wp L d k_M_ruleOf 129 [l0, l1, l2, l3, l4, l5] [vI s0] σ Q := wp_goto rfl
theorem r_M_ruleOf_109 : Wp L d k_M_ruleOf 109 [l0, vI a1, l2, l3, l4, l5] [] σ Q ↔ Wp L d k_M_ruleOf 110 [l0, vI a1, l2, l3, l4, l5] [vI a1] σ Q := wp_iload rfl rfl
theorem r_M_ruleOf_110 : Wp L d k_M_ruleOf 110 [l0, l1, l2, l3, l4, l5] [vI s0] σ Q ↔ Wp L d k_M_ruleOf 111 [l0, l1, l2, l3, l4, l5] [vI 1, vI s0] σ Q := wp_push rfl
theorem r_M_ruleOf_111 : Wp L d k_M_ruleOf 111 [l0, l1, l2, l3, l4, l5] [vI s1, vI s0] σ Q ↔ (if s0 ≠ s1 then Wp L d k_M_ruleOf 119 [l0, l1, l2, l3, l4, l5] [] σ Q else Wp L d k_M_ruleOf 114 [l0, l1, l2, l3, l4, l5] [] σ Q) := wp_cmp_ne rfl
theorem r_M_ruleOf_114 : Wp L d k_M_ruleOf 114 [l0, l1, l2, l3, l4, l5] [] σ Q ↔ Wp L d k_M_ruleOf 116 [l0, l1, l2, l3, l4, l5] [vI 99] σ Q := wp_push rfl
theorem r_M_ruleOf_116 : Wp L d k_M_ruleOf 116 [l0, l1, l2, l3, l4, l5] [vI s0] σ Q ↔ Wp L d k_M_ruleOf 129 [l0, l1, l2, l3, l4, l5] [vI s0] σ Q := wp_goto rfl
theorem r_M_ruleOf_119 : Wp L d k_M_ruleOf 119 [l0, l1, l2, l3, l4, l5] [] σ Q ↔ Wp L d k_M_ruleOf 120 [l0, l1, l2, l3, l4, l5] [vI 0] σ Q := wp_push rfl
theorem r_M_ruleOf_120 : Wp L d k_M_ruleOf 120 [l0, l1, l2, l3, l4, l5] [vI s0] σ Q ↔ Wp L d k_M_ruleOf 129 [l0, l1, l2, l3, l4, l5] [vI s0] σ Q := wp_goto rfl
theorem r_M_ruleOf_123 : Wp L d k_M_ruleOf 123 [vR b0, l1, l2, l3, l4, l5] [] σ Q ↔ Wp L d k_M_ruleOf 124 [vR b0, l1, l2, l3, l4, l5] [vR b0] σ Q := wp_aload rfl rfl
theorem r_M_ruleOf_124 : Wp L d k_M_ruleOf 124 [l0, l1, l2, l3, l4, vI a5] [vR c0] σ Q ↔ Wp L d k_M_ruleOf 126 [l0, l1, l2, l3, l4, vI a5] [vI a5, vR c0] σ Q := wp_iload rfl rfl
theorem c_M_ruleOf_126 (hR : Run L d 262 [vR c0, vI s1] σ r σ1) (h : gK c0 = 12) : Wp L (d + 1) k_M_ruleOf 126 [l0, l1, l2, l3, l4, l5] [vI s1, vR c0] σ Q ↔ Wp L (d + 1) k_M_ruleOf 129 [l0, l1, l2, l3, l4, l5] (r.toList ++ []) σ1 Q := wp_callR (as := [vR c0, vI s1]) (rest := []) rfl rfl rfl rfl rfl rfl rfl (grecv_k (by rw [h]) rfl) hR
theorem r_M_ruleOf_129 : Wp L d k_M_ruleOf 129 [l0, l1, l2, l3, l4, l5] [vI s0] σ Q ↔ Q (some (vI s0)) σ := wp_iret rfl
theorem r_M_ruleOf_90 (hw : WT (σ 294)) : Wp L (d + 2) k_M_ruleOf 90 [l0, l1, l2, l3, l4, l5] [vI s1, vR 293] σ Q ↔ Wp L (d + 2) k_M_ruleOf 93 [l0, l1, l2, l3, l4, l5] [vI (brct (σ 294) s1 (σ 294 2).toNat)] σ Q := wp_callR (d := d + 1) (as := [vR 293, vI s1]) (rest := []) rfl rfl rfl rfl rfl rfl rfl (grecv_k (by rw [gK_293]) rfl) (sp_M_counts hw)
theorem sp_M_ruleOf_0 (hw : WT (σ 294)) : ∃ σ', Run L (d + 2) 261 [vR 293, vI 0, vI a2, vI a3, vI a4] σ (some (vI (brrl (σ 294) 0 a2 a3 a4))) σ' ∧ Agr σ σ' (fun k _ => k = 302 ∨ k = 303) := by
  refine Run_ex (C' := k_M_ruleOf) rfl ?_
  show Wp L (d + 2) k_M_ruleOf 0 [vR 293, vI 0, vI a2, vI a3, vI a4, vU] [] σ _
  obtain ⟨K293, Q293, K294, N294⟩ := litM
  obtain ⟨n20, n21, K302, K303, N302, N303⟩ := litN
  have w1 := hw.1
  have e4 : (gupd (gupd σ 302 112 a2) 302 109 a3) 294 = σ 294 := by simp (disch := omega) only [gupd_rw]
  have hw2 : WT ((gupd (gupd σ 302 112 a2) 302 109 a3) 294) := by rw [e4]; exact hw
  have hA0 : Agr σ (gupd (gupd σ 302 112 a2) 302 109 a3) (fun k _ => k = 302 ∨ k = 303) := Agr_upd (Agr_upd (Agr_refl _ _) (Or.inl rfl)) (Or.inl rfl)
  have b := brct_bd (σ 294) 0 (σ 294 2).toNat
  unfold brrl
  by_cases e : brct (σ 294) 0 (σ 294 2).toNat < 0
  · rw [if_pos e]
    simp (disch := first | assumption | exact gb_01 _ | omega) only [r_M_ruleOf_0, r_M_ruleOf_1, r_M_ruleOf_4, r_M_ruleOf_5, r_M_ruleOf_8, r_M_ruleOf_10, r_M_ruleOf_13, r_M_ruleOf_14, r_M_ruleOf_15, r_M_ruleOf_18, r_M_ruleOf_20, r_M_ruleOf_23, r_M_ruleOf_24, r_M_ruleOf_25, r_M_ruleOf_28, r_M_ruleOf_30, r_M_ruleOf_33, r_M_ruleOf_35, r_M_ruleOf_36, r_M_ruleOf_37, r_M_ruleOf_38, r_M_ruleOf_41, r_M_ruleOf_42, r_M_ruleOf_45, r_M_ruleOf_47, r_M_ruleOf_50, r_M_ruleOf_51, r_M_ruleOf_52, r_M_ruleOf_55, r_M_ruleOf_57, r_M_ruleOf_60, r_M_ruleOf_61, r_M_ruleOf_62, r_M_ruleOf_65, r_M_ruleOf_67, r_M_ruleOf_70, r_M_ruleOf_72, r_M_ruleOf_73, r_M_ruleOf_74, r_M_ruleOf_75, r_M_ruleOf_76, r_M_ruleOf_79, r_M_ruleOf_80, r_M_ruleOf_83, r_M_ruleOf_85, r_M_ruleOf_87, r_M_ruleOf_88, r_M_ruleOf_89, r_M_ruleOf_90, r_M_ruleOf_93, r_M_ruleOf_95, r_M_ruleOf_97, r_M_ruleOf_100, r_M_ruleOf_101, r_M_ruleOf_104, r_M_ruleOf_106, r_M_ruleOf_109, r_M_ruleOf_110, r_M_ruleOf_111, r_M_ruleOf_114, r_M_ruleOf_116, r_M_ruleOf_119, r_M_ruleOf_120, r_M_ruleOf_123, r_M_ruleOf_124, r_M_ruleOf_129, Q293, n20, n21, e4, w32_gb, w32i, tn_add, tn_mul, Int.toNat_natCast, Int.toNat_zero, Int.reduceLE, Int.reduceLT, Int.reduceEq, Int.reduceNe, gb_T, gb_F, Int.reduceToNat, eq_self, true_or, or_true, and_true, true_and, and_self, ↓ite_gb0, ↓ite_gbn, ↓if_pos, ↓if_neg, if_true, if_false, not_true_eq_false, not_false_eq_true, gb_ne0, gb_eq0]
    exact hA0
  · rw [if_neg e]
    have hk := brct_key (σ 294) 0 (σ 294 2).toNat (by omega)
    obtain ⟨τ, hW, hA⟩ := sp_M_worked (L := L) (d := d + 0) (σ := gupd (gupd σ 302 112 a2) 302 109 a3) (t := (brct (σ 294) 0 (σ 294 2).toNat).toNat) (a := a2) (b := a3) (c := a4) hw2 (by rw [e4]; omega) (fun v hv => by
      rw [e4, hk] at hv ⊢
      by_cases v112 : v = 112
      · subst v112
        rfl
      by_cases v109 : v = 109
      · subst v109
        rfl
      exfalso
      unfold gnm at hv
      simp [v112, v109] at hv)
    rw [show (((brct (σ 294) 0 (σ 294 2).toNat).toNat : Nat) : Int) = brct (σ 294) 0 (σ 294 2).toNat by omega, e4] at hW
    simp (disch := first | assumption | exact gb_01 _ | omega) only [r_M_ruleOf_0, r_M_ruleOf_1, r_M_ruleOf_4, r_M_ruleOf_5, r_M_ruleOf_8, r_M_ruleOf_10, r_M_ruleOf_13, r_M_ruleOf_14, r_M_ruleOf_15, r_M_ruleOf_18, r_M_ruleOf_20, r_M_ruleOf_23, r_M_ruleOf_24, r_M_ruleOf_25, r_M_ruleOf_28, r_M_ruleOf_30, r_M_ruleOf_33, r_M_ruleOf_35, r_M_ruleOf_36, r_M_ruleOf_37, r_M_ruleOf_38, r_M_ruleOf_41, r_M_ruleOf_42, r_M_ruleOf_45, r_M_ruleOf_47, r_M_ruleOf_50, r_M_ruleOf_51, r_M_ruleOf_52, r_M_ruleOf_55, r_M_ruleOf_57, r_M_ruleOf_60, r_M_ruleOf_61, r_M_ruleOf_62, r_M_ruleOf_65, r_M_ruleOf_67, r_M_ruleOf_70, r_M_ruleOf_72, r_M_ruleOf_73, r_M_ruleOf_74, r_M_ruleOf_75, r_M_ruleOf_76, r_M_ruleOf_79, r_M_ruleOf_80, r_M_ruleOf_83, r_M_ruleOf_85, r_M_ruleOf_87, r_M_ruleOf_88, r_M_ruleOf_89, r_M_ruleOf_90, r_M_ruleOf_93, r_M_ruleOf_95, r_M_ruleOf_97, r_M_ruleOf_100, r_M_ruleOf_101, r_M_ruleOf_104, r_M_ruleOf_106, r_M_ruleOf_109, r_M_ruleOf_110, r_M_ruleOf_111, r_M_ruleOf_114, r_M_ruleOf_116, r_M_ruleOf_119, r_M_ruleOf_120, r_M_ruleOf_123, r_M_ruleOf_124, r_M_ruleOf_129, c_M_ruleOf_126 hW, Option.toList, List.singleton_append, List.cons_append, List.nil_append, List.append_nil, Q293, n20, n21, e4, w32_gb, w32i, tn_add, tn_mul, Int.toNat_natCast, Int.toNat_zero, Int.reduceLE, Int.reduceLT, Int.reduceEq, Int.reduceNe, gb_T, gb_F, Int.reduceToNat, eq_self, true_or, or_true, and_true, true_and, and_self, ↓ite_gb0, ↓ite_gbn, ↓if_pos, ↓if_neg, if_true, if_false, not_true_eq_false, not_false_eq_true, gb_ne0, gb_eq0]
    exact Agr_trans hA0 (Agr_mono hA (fun k j hk => Or.inr hk))
theorem sp_M_ruleOf_1 (hw : WT (σ 294)) : ∃ σ', Run L (d + 2) 261 [vR 293, vI 1, vI a2, vI a3, vI a4] σ (some (vI (brrl (σ 294) 1 a2 a3 a4))) σ' ∧ Agr σ σ' (fun k _ => k = 302 ∨ k = 303) := by
  refine Run_ex (C' := k_M_ruleOf) rfl ?_
  show Wp L (d + 2) k_M_ruleOf 0 [vR 293, vI 1, vI a2, vI a3, vI a4, vU] [] σ _
  obtain ⟨K293, Q293, K294, N294⟩ := litM
  obtain ⟨n20, n21, K302, K303, N302, N303⟩ := litN
  have w1 := hw.1
  have e4 : (gupd (gupd σ 302 119 a2) 302 103 a3) 294 = σ 294 := by simp (disch := omega) only [gupd_rw]
  have hw2 : WT ((gupd (gupd σ 302 119 a2) 302 103 a3) 294) := by rw [e4]; exact hw
  have hA0 : Agr σ (gupd (gupd σ 302 119 a2) 302 103 a3) (fun k _ => k = 302 ∨ k = 303) := Agr_upd (Agr_upd (Agr_refl _ _) (Or.inl rfl)) (Or.inl rfl)
  have b := brct_bd (σ 294) 1 (σ 294 2).toNat
  unfold brrl
  by_cases e : brct (σ 294) 1 (σ 294 2).toNat < 0
  · rw [if_pos e]
    simp (disch := first | assumption | exact gb_01 _ | omega) only [r_M_ruleOf_0, r_M_ruleOf_1, r_M_ruleOf_4, r_M_ruleOf_5, r_M_ruleOf_8, r_M_ruleOf_10, r_M_ruleOf_13, r_M_ruleOf_14, r_M_ruleOf_15, r_M_ruleOf_18, r_M_ruleOf_20, r_M_ruleOf_23, r_M_ruleOf_24, r_M_ruleOf_25, r_M_ruleOf_28, r_M_ruleOf_30, r_M_ruleOf_33, r_M_ruleOf_35, r_M_ruleOf_36, r_M_ruleOf_37, r_M_ruleOf_38, r_M_ruleOf_41, r_M_ruleOf_42, r_M_ruleOf_45, r_M_ruleOf_47, r_M_ruleOf_50, r_M_ruleOf_51, r_M_ruleOf_52, r_M_ruleOf_55, r_M_ruleOf_57, r_M_ruleOf_60, r_M_ruleOf_61, r_M_ruleOf_62, r_M_ruleOf_65, r_M_ruleOf_67, r_M_ruleOf_70, r_M_ruleOf_72, r_M_ruleOf_73, r_M_ruleOf_74, r_M_ruleOf_75, r_M_ruleOf_76, r_M_ruleOf_79, r_M_ruleOf_80, r_M_ruleOf_83, r_M_ruleOf_85, r_M_ruleOf_87, r_M_ruleOf_88, r_M_ruleOf_89, r_M_ruleOf_90, r_M_ruleOf_93, r_M_ruleOf_95, r_M_ruleOf_97, r_M_ruleOf_100, r_M_ruleOf_101, r_M_ruleOf_104, r_M_ruleOf_106, r_M_ruleOf_109, r_M_ruleOf_110, r_M_ruleOf_111, r_M_ruleOf_114, r_M_ruleOf_116, r_M_ruleOf_119, r_M_ruleOf_120, r_M_ruleOf_123, r_M_ruleOf_124, r_M_ruleOf_129, Q293, n20, n21, e4, w32_gb, w32i, tn_add, tn_mul, Int.toNat_natCast, Int.toNat_zero, Int.reduceLE, Int.reduceLT, Int.reduceEq, Int.reduceNe, gb_T, gb_F, Int.reduceToNat, eq_self, true_or, or_true, and_true, true_and, and_self, ↓ite_gb0, ↓ite_gbn, ↓if_pos, ↓if_neg, if_true, if_false, not_true_eq_false, not_false_eq_true, gb_ne0, gb_eq0]
    exact hA0
  · rw [if_neg e]
    have hk := brct_key (σ 294) 1 (σ 294 2).toNat (by omega)
    obtain ⟨τ, hW, hA⟩ := sp_M_worked (L := L) (d := d + 0) (σ := gupd (gupd σ 302 119 a2) 302 103 a3) (t := (brct (σ 294) 1 (σ 294 2).toNat).toNat) (a := a2) (b := a3) (c := a4) hw2 (by rw [e4]; omega) (fun v hv => by
      rw [e4, hk] at hv ⊢
      by_cases v119 : v = 119
      · subst v119
        rfl
      by_cases v103 : v = 103
      · subst v103
        rfl
      exfalso
      unfold gnm at hv
      simp [v119, v103] at hv)
    rw [show (((brct (σ 294) 1 (σ 294 2).toNat).toNat : Nat) : Int) = brct (σ 294) 1 (σ 294 2).toNat by omega, e4] at hW
    simp (disch := first | assumption | exact gb_01 _ | omega) only [r_M_ruleOf_0, r_M_ruleOf_1, r_M_ruleOf_4, r_M_ruleOf_5, r_M_ruleOf_8, r_M_ruleOf_10, r_M_ruleOf_13, r_M_ruleOf_14, r_M_ruleOf_15, r_M_ruleOf_18, r_M_ruleOf_20, r_M_ruleOf_23, r_M_ruleOf_24, r_M_ruleOf_25, r_M_ruleOf_28, r_M_ruleOf_30, r_M_ruleOf_33, r_M_ruleOf_35, r_M_ruleOf_36, r_M_ruleOf_37, r_M_ruleOf_38, r_M_ruleOf_41, r_M_ruleOf_42, r_M_ruleOf_45, r_M_ruleOf_47, r_M_ruleOf_50, r_M_ruleOf_51, r_M_ruleOf_52, r_M_ruleOf_55, r_M_ruleOf_57, r_M_ruleOf_60, r_M_ruleOf_61, r_M_ruleOf_62, r_M_ruleOf_65, r_M_ruleOf_67, r_M_ruleOf_70, r_M_ruleOf_72, r_M_ruleOf_73, r_M_ruleOf_74, r_M_ruleOf_75, r_M_ruleOf_76, r_M_ruleOf_79, r_M_ruleOf_80, r_M_ruleOf_83, r_M_ruleOf_85, r_M_ruleOf_87, r_M_ruleOf_88, r_M_ruleOf_89, r_M_ruleOf_90, r_M_ruleOf_93, r_M_ruleOf_95, r_M_ruleOf_97, r_M_ruleOf_100, r_M_ruleOf_101, r_M_ruleOf_104, r_M_ruleOf_106, r_M_ruleOf_109, r_M_ruleOf_110, r_M_ruleOf_111, r_M_ruleOf_114, r_M_ruleOf_116, r_M_ruleOf_119, r_M_ruleOf_120, r_M_ruleOf_123, r_M_ruleOf_124, r_M_ruleOf_129, c_M_ruleOf_126 hW, Option.toList, List.singleton_append, List.cons_append, List.nil_append, List.append_nil, Q293, n20, n21, e4, w32_gb, w32i, tn_add, tn_mul, Int.toNat_natCast, Int.toNat_zero, Int.reduceLE, Int.reduceLT, Int.reduceEq, Int.reduceNe, gb_T, gb_F, Int.reduceToNat, eq_self, true_or, or_true, and_true, true_and, and_self, ↓ite_gb0, ↓ite_gbn, ↓if_pos, ↓if_neg, if_true, if_false, not_true_eq_false, not_false_eq_true, gb_ne0, gb_eq0]
    exact Agr_trans hA0 (Agr_mono hA (fun k j hk => Or.inr hk))
theorem sp_M_ruleOf_2 (hw : WT (σ 294)) : ∃ σ', Run L (d + 2) 261 [vR 293, vI 2, vI a2, vI a3, vI a4] σ (some (vI (brrl (σ 294) 2 a2 a3 a4))) σ' ∧ Agr σ σ' (fun k _ => k = 302 ∨ k = 303) := by
  refine Run_ex (C' := k_M_ruleOf) rfl ?_
  show Wp L (d + 2) k_M_ruleOf 0 [vR 293, vI 2, vI a2, vI a3, vI a4, vU] [] σ _
  obtain ⟨K293, Q293, K294, N294⟩ := litM
  obtain ⟨n20, n21, K302, K303, N302, N303⟩ := litN
  have w1 := hw.1
  have e4 : (gupd (gupd (gupd σ 302 115 a2) 302 102 a3) 302 107 a4) 294 = σ 294 := by simp (disch := omega) only [gupd_rw]
  have hw2 : WT ((gupd (gupd (gupd σ 302 115 a2) 302 102 a3) 302 107 a4) 294) := by rw [e4]; exact hw
  have hA0 : Agr σ (gupd (gupd (gupd σ 302 115 a2) 302 102 a3) 302 107 a4) (fun k _ => k = 302 ∨ k = 303) := Agr_upd (Agr_upd (Agr_upd (Agr_refl _ _) (Or.inl rfl)) (Or.inl rfl)) (Or.inl rfl)
  have b := brct_bd (σ 294) 2 (σ 294 2).toNat
  unfold brrl
  by_cases e : brct (σ 294) 2 (σ 294 2).toNat < 0
  · rw [if_pos e]
    simp (disch := first | assumption | exact gb_01 _ | omega) only [r_M_ruleOf_0, r_M_ruleOf_1, r_M_ruleOf_4, r_M_ruleOf_5, r_M_ruleOf_8, r_M_ruleOf_10, r_M_ruleOf_13, r_M_ruleOf_14, r_M_ruleOf_15, r_M_ruleOf_18, r_M_ruleOf_20, r_M_ruleOf_23, r_M_ruleOf_24, r_M_ruleOf_25, r_M_ruleOf_28, r_M_ruleOf_30, r_M_ruleOf_33, r_M_ruleOf_35, r_M_ruleOf_36, r_M_ruleOf_37, r_M_ruleOf_38, r_M_ruleOf_41, r_M_ruleOf_42, r_M_ruleOf_45, r_M_ruleOf_47, r_M_ruleOf_50, r_M_ruleOf_51, r_M_ruleOf_52, r_M_ruleOf_55, r_M_ruleOf_57, r_M_ruleOf_60, r_M_ruleOf_61, r_M_ruleOf_62, r_M_ruleOf_65, r_M_ruleOf_67, r_M_ruleOf_70, r_M_ruleOf_72, r_M_ruleOf_73, r_M_ruleOf_74, r_M_ruleOf_75, r_M_ruleOf_76, r_M_ruleOf_79, r_M_ruleOf_80, r_M_ruleOf_83, r_M_ruleOf_85, r_M_ruleOf_87, r_M_ruleOf_88, r_M_ruleOf_89, r_M_ruleOf_90, r_M_ruleOf_93, r_M_ruleOf_95, r_M_ruleOf_97, r_M_ruleOf_100, r_M_ruleOf_101, r_M_ruleOf_104, r_M_ruleOf_106, r_M_ruleOf_109, r_M_ruleOf_110, r_M_ruleOf_111, r_M_ruleOf_114, r_M_ruleOf_116, r_M_ruleOf_119, r_M_ruleOf_120, r_M_ruleOf_123, r_M_ruleOf_124, r_M_ruleOf_129, Q293, n20, n21, e4, w32_gb, w32i, tn_add, tn_mul, Int.toNat_natCast, Int.toNat_zero, Int.reduceLE, Int.reduceLT, Int.reduceEq, Int.reduceNe, gb_T, gb_F, Int.reduceToNat, eq_self, true_or, or_true, and_true, true_and, and_self, ↓ite_gb0, ↓ite_gbn, ↓if_pos, ↓if_neg, if_true, if_false, not_true_eq_false, not_false_eq_true, gb_ne0, gb_eq0]
    exact hA0
  · rw [if_neg e]
    have hk := brct_key (σ 294) 2 (σ 294 2).toNat (by omega)
    obtain ⟨τ, hW, hA⟩ := sp_M_worked (L := L) (d := d + 0) (σ := gupd (gupd (gupd σ 302 115 a2) 302 102 a3) 302 107 a4) (t := (brct (σ 294) 2 (σ 294 2).toNat).toNat) (a := a2) (b := a3) (c := a4) hw2 (by rw [e4]; omega) (fun v hv => by
      rw [e4, hk] at hv ⊢
      by_cases v115 : v = 115
      · subst v115
        rfl
      by_cases v102 : v = 102
      · subst v102
        rfl
      by_cases v107 : v = 107
      · subst v107
        rfl
      exfalso
      unfold gnm at hv
      simp [v115, v102, v107] at hv)
    rw [show (((brct (σ 294) 2 (σ 294 2).toNat).toNat : Nat) : Int) = brct (σ 294) 2 (σ 294 2).toNat by omega, e4] at hW
    simp (disch := first | assumption | exact gb_01 _ | omega) only [r_M_ruleOf_0, r_M_ruleOf_1, r_M_ruleOf_4, r_M_ruleOf_5, r_M_ruleOf_8, r_M_ruleOf_10, r_M_ruleOf_13, r_M_ruleOf_14, r_M_ruleOf_15, r_M_ruleOf_18, r_M_ruleOf_20, r_M_ruleOf_23, r_M_ruleOf_24, r_M_ruleOf_25, r_M_ruleOf_28, r_M_ruleOf_30, r_M_ruleOf_33, r_M_ruleOf_35, r_M_ruleOf_36, r_M_ruleOf_37, r_M_ruleOf_38, r_M_ruleOf_41, r_M_ruleOf_42, r_M_ruleOf_45, r_M_ruleOf_47, r_M_ruleOf_50, r_M_ruleOf_51, r_M_ruleOf_52, r_M_ruleOf_55, r_M_ruleOf_57, r_M_ruleOf_60, r_M_ruleOf_61, r_M_ruleOf_62, r_M_ruleOf_65, r_M_ruleOf_67, r_M_ruleOf_70, r_M_ruleOf_72, r_M_ruleOf_73, r_M_ruleOf_74, r_M_ruleOf_75, r_M_ruleOf_76, r_M_ruleOf_79, r_M_ruleOf_80, r_M_ruleOf_83, r_M_ruleOf_85, r_M_ruleOf_87, r_M_ruleOf_88, r_M_ruleOf_89, r_M_ruleOf_90, r_M_ruleOf_93, r_M_ruleOf_95, r_M_ruleOf_97, r_M_ruleOf_100, r_M_ruleOf_101, r_M_ruleOf_104, r_M_ruleOf_106, r_M_ruleOf_109, r_M_ruleOf_110, r_M_ruleOf_111, r_M_ruleOf_114, r_M_ruleOf_116, r_M_ruleOf_119, r_M_ruleOf_120, r_M_ruleOf_123, r_M_ruleOf_124, r_M_ruleOf_129, c_M_ruleOf_126 hW, Option.toList, List.singleton_append, List.cons_append, List.nil_append, List.append_nil, Q293, n20, n21, e4, w32_gb, w32i, tn_add, tn_mul, Int.toNat_natCast, Int.toNat_zero, Int.reduceLE, Int.reduceLT, Int.reduceEq, Int.reduceNe, gb_T, gb_F, Int.reduceToNat, eq_self, true_or, or_true, and_true, true_and, and_self, ↓ite_gb0, ↓ite_gbn, ↓if_pos, ↓if_neg, if_true, if_false, not_true_eq_false, not_false_eq_true, gb_ne0, gb_eq0]
    exact Agr_trans hA0 (Agr_mono hA (fun k j hk => Or.inr hk))
theorem sp_M_ruleOf_3 (hw : WT (σ 294)) : ∃ σ', Run L (d + 2) 261 [vR 293, vI 3, vI a2, vI a3, vI a4] σ (some (vI (brrl (σ 294) 3 a2 a3 a4))) σ' ∧ Agr σ σ' (fun k _ => k = 302 ∨ k = 303) := by
  refine Run_ex (C' := k_M_ruleOf) rfl ?_
  show Wp L (d + 2) k_M_ruleOf 0 [vR 293, vI 3, vI a2, vI a3, vI a4, vU] [] σ _
  obtain ⟨K293, Q293, K294, N294⟩ := litM
  obtain ⟨n20, n21, K302, K303, N302, N303⟩ := litN
  have w1 := hw.1
  have e4 : (gupd (gupd σ 302 111 a2) 302 120 a3) 294 = σ 294 := by simp (disch := omega) only [gupd_rw]
  have hw2 : WT ((gupd (gupd σ 302 111 a2) 302 120 a3) 294) := by rw [e4]; exact hw
  have hA0 : Agr σ (gupd (gupd σ 302 111 a2) 302 120 a3) (fun k _ => k = 302 ∨ k = 303) := Agr_upd (Agr_upd (Agr_refl _ _) (Or.inl rfl)) (Or.inl rfl)
  have b := brct_bd (σ 294) 3 (σ 294 2).toNat
  unfold brrl
  by_cases e : brct (σ 294) 3 (σ 294 2).toNat < 0
  · rw [if_pos e]
    simp (disch := first | assumption | exact gb_01 _ | omega) only [r_M_ruleOf_0, r_M_ruleOf_1, r_M_ruleOf_4, r_M_ruleOf_5, r_M_ruleOf_8, r_M_ruleOf_10, r_M_ruleOf_13, r_M_ruleOf_14, r_M_ruleOf_15, r_M_ruleOf_18, r_M_ruleOf_20, r_M_ruleOf_23, r_M_ruleOf_24, r_M_ruleOf_25, r_M_ruleOf_28, r_M_ruleOf_30, r_M_ruleOf_33, r_M_ruleOf_35, r_M_ruleOf_36, r_M_ruleOf_37, r_M_ruleOf_38, r_M_ruleOf_41, r_M_ruleOf_42, r_M_ruleOf_45, r_M_ruleOf_47, r_M_ruleOf_50, r_M_ruleOf_51, r_M_ruleOf_52, r_M_ruleOf_55, r_M_ruleOf_57, r_M_ruleOf_60, r_M_ruleOf_61, r_M_ruleOf_62, r_M_ruleOf_65, r_M_ruleOf_67, r_M_ruleOf_70, r_M_ruleOf_72, r_M_ruleOf_73, r_M_ruleOf_74, r_M_ruleOf_75, r_M_ruleOf_76, r_M_ruleOf_79, r_M_ruleOf_80, r_M_ruleOf_83, r_M_ruleOf_85, r_M_ruleOf_87, r_M_ruleOf_88, r_M_ruleOf_89, r_M_ruleOf_90, r_M_ruleOf_93, r_M_ruleOf_95, r_M_ruleOf_97, r_M_ruleOf_100, r_M_ruleOf_101, r_M_ruleOf_104, r_M_ruleOf_106, r_M_ruleOf_109, r_M_ruleOf_110, r_M_ruleOf_111, r_M_ruleOf_114, r_M_ruleOf_116, r_M_ruleOf_119, r_M_ruleOf_120, r_M_ruleOf_123, r_M_ruleOf_124, r_M_ruleOf_129, Q293, n20, n21, e4, w32_gb, w32i, tn_add, tn_mul, Int.toNat_natCast, Int.toNat_zero, Int.reduceLE, Int.reduceLT, Int.reduceEq, Int.reduceNe, gb_T, gb_F, Int.reduceToNat, eq_self, true_or, or_true, and_true, true_and, and_self, ↓ite_gb0, ↓ite_gbn, ↓if_pos, ↓if_neg, if_true, if_false, not_true_eq_false, not_false_eq_true, gb_ne0, gb_eq0]
    exact hA0
  · rw [if_neg e]
    have hk := brct_key (σ 294) 3 (σ 294 2).toNat (by omega)
    obtain ⟨τ, hW, hA⟩ := sp_M_worked (L := L) (d := d + 0) (σ := gupd (gupd σ 302 111 a2) 302 120 a3) (t := (brct (σ 294) 3 (σ 294 2).toNat).toNat) (a := a2) (b := a3) (c := a4) hw2 (by rw [e4]; omega) (fun v hv => by
      rw [e4, hk] at hv ⊢
      by_cases v111 : v = 111
      · subst v111
        rfl
      by_cases v120 : v = 120
      · subst v120
        rfl
      exfalso
      unfold gnm at hv
      simp [v111, v120] at hv)
    rw [show (((brct (σ 294) 3 (σ 294 2).toNat).toNat : Nat) : Int) = brct (σ 294) 3 (σ 294 2).toNat by omega, e4] at hW
    simp (disch := first | assumption | exact gb_01 _ | omega) only [r_M_ruleOf_0, r_M_ruleOf_1, r_M_ruleOf_4, r_M_ruleOf_5, r_M_ruleOf_8, r_M_ruleOf_10, r_M_ruleOf_13, r_M_ruleOf_14, r_M_ruleOf_15, r_M_ruleOf_18, r_M_ruleOf_20, r_M_ruleOf_23, r_M_ruleOf_24, r_M_ruleOf_25, r_M_ruleOf_28, r_M_ruleOf_30, r_M_ruleOf_33, r_M_ruleOf_35, r_M_ruleOf_36, r_M_ruleOf_37, r_M_ruleOf_38, r_M_ruleOf_41, r_M_ruleOf_42, r_M_ruleOf_45, r_M_ruleOf_47, r_M_ruleOf_50, r_M_ruleOf_51, r_M_ruleOf_52, r_M_ruleOf_55, r_M_ruleOf_57, r_M_ruleOf_60, r_M_ruleOf_61, r_M_ruleOf_62, r_M_ruleOf_65, r_M_ruleOf_67, r_M_ruleOf_70, r_M_ruleOf_72, r_M_ruleOf_73, r_M_ruleOf_74, r_M_ruleOf_75, r_M_ruleOf_76, r_M_ruleOf_79, r_M_ruleOf_80, r_M_ruleOf_83, r_M_ruleOf_85, r_M_ruleOf_87, r_M_ruleOf_88, r_M_ruleOf_89, r_M_ruleOf_90, r_M_ruleOf_93, r_M_ruleOf_95, r_M_ruleOf_97, r_M_ruleOf_100, r_M_ruleOf_101, r_M_ruleOf_104, r_M_ruleOf_106, r_M_ruleOf_109, r_M_ruleOf_110, r_M_ruleOf_111, r_M_ruleOf_114, r_M_ruleOf_116, r_M_ruleOf_119, r_M_ruleOf_120, r_M_ruleOf_123, r_M_ruleOf_124, r_M_ruleOf_129, c_M_ruleOf_126 hW, Option.toList, List.singleton_append, List.cons_append, List.nil_append, List.append_nil, Q293, n20, n21, e4, w32_gb, w32i, tn_add, tn_mul, Int.toNat_natCast, Int.toNat_zero, Int.reduceLE, Int.reduceLT, Int.reduceEq, Int.reduceNe, gb_T, gb_F, Int.reduceToNat, eq_self, true_or, or_true, and_true, true_and, and_self, ↓ite_gb0, ↓ite_gbn, ↓if_pos, ↓if_neg, if_true, if_false, not_true_eq_false, not_false_eq_true, gb_ne0, gb_eq0]
    exact Agr_trans hA0 (Agr_mono hA (fun k j hk => Or.inr hk))
theorem sp_M_ruleOf (hw : WT (σ 294)) (h : 0 ≤ a1 ∧ a1 ≤ 3) : ∃ σ', Run L (d + 2) 261 [vR 293, vI a1, vI a2, vI a3, vI a4] σ (some (vI (brrl (σ 294) a1 a2 a3 a4))) σ' ∧ Agr σ σ' (fun k _ => k = 302 ∨ k = 303) := by
  have : a1 = 0 ∨ a1 = 1 ∨ a1 = 2 ∨ a1 = 3 := by omega
  rcases this with rfl | rfl | rfl | rfl
  · exact sp_M_ruleOf_0 hw
  · exact sp_M_ruleOf_1 hw
  · exact sp_M_ruleOf_2 hw
  · exact sp_M_ruleOf_3 hw
theorem r_X_of_0 : Wp L d k_X_of 0 [l0, vI a1, l2] [] σ Q ↔ Wp L d k_X_of 1 [l0, vI a1, l2] [vI a1] σ Q := wp_iload rfl rfl
theorem r_X_of_1 : Wp L d k_X_of 1 [l0, l1, l2] [vI s0] σ Q ↔ Wp L d k_X_of 2 [l0, l1, l2] [vI 0, vI s0] σ Q := wp_push rfl
theorem r_X_of_2 : Wp L d k_X_of 2 [vR b0, l1, l2] [vI s1, vI s0] σ Q ↔ Wp L d k_X_of 3 [vR b0, l1, l2] [vR b0, vI s1, vI s0] σ Q := wp_aload rfl rfl
theorem r_X_of_3 (h : gK c2 = 0) : Wp L d k_X_of 3 [l0, l1, l2] [vR c2, vI s1, vI s0] σ Q ↔ Wp L d k_X_of 6 [l0, l1, l2] [vR (gq c2 0), vI s1, vI s0] σ Q := wp_getR (c := 128) rfl rfl rfl rfl rfl h
theorem r_X_of_6 (h : gK c2 = 5) : Wp L d k_X_of 6 [l0, l1, l2] [vR c2, vI s1, vI s0] σ Q ↔ Wp L d k_X_of 9 [l0, l1, l2] [vR (gq c2 1), vI s1, vI s0] σ Q := wp_getR (c := 1409) rfl rfl rfl rfl rfl h
theorem r_X_of_9 (h : gK c2 = 10) : Wp L d k_X_of 9 [l0, l1, l2] [vR c2, vI s1, vI s0] σ Q ↔ Wp L d k_X_of 12 [l0, l1, l2] [vI (σ c2 6), vI s1, vI s0] σ Q := wp_getI (c := 2566) rfl rfl rfl rfl h
theorem r_X_of_12 : Wp L d k_X_of 12 [l0, l1, l2] [vI s2, vI s1, vI s0] σ Q ↔ Wp L d k_X_of 13 [l0, l1, l2] [vI 1, vI s2, vI s1, vI s0] σ Q := wp_push rfl
theorem r_X_of_13 : Wp L d k_X_of 13 [l0, l1, l2] [vI s3, vI s2, vI s1, vI s0] σ Q ↔ Wp L d k_X_of 14 [l0, l1, l2] [vI (w32 (s2 - s3)), vI s1, vI s0] σ Q := wp_isub rfl
theorem r_X_of_17 : Wp L d k_X_of 17 [l0, l1, l2] [vI s0] σ Q ↔ (if s0 ≠ 0 then Wp L d k_X_of 23 [l0, l1, l2] [] σ Q else Wp L d k_X_of 20 [l0, l1, l2] [] σ Q) := wp_if_ne rfl
theorem r_X_of_20 : Wp L d k_X_of 20 [l0, l1, l2] [] σ Q ↔ Wp L d k_X_of 22 [l0, l1, l2] [vI (-1000000001)] σ Q := wp_push rfl
theorem r_X_of_22 : Wp L d k_X_of 22 [l0, l1, l2] [vI s0] σ Q ↔ Q (some (vI s0)) σ := wp_iret rfl
theorem r_X_of_23 : Wp L d k_X_of 23 [l0, l1, vI a2] [] σ Q ↔ Wp L d k_X_of 24 [l0, l1, vI a2] [vI a2] σ Q := wp_iload rfl rfl
theorem r_X_of_24 : Wp L d k_X_of 24 [l0, l1, l2] [vI s0] σ Q ↔ (if s0 = 0 then Wp L d k_X_of 52 [l0, l1, l2] [] σ Q else if s0 = 1 then Wp L d k_X_of 65 [l0, l1, l2] [] σ Q else if s0 = 2 then Wp L d k_X_of 78 [l0, l1, l2] [] σ Q else Wp L d k_X_of 91 [l0, l1, l2] [] σ Q) := by
  by_cases h0 : s0 = 0
  · subst h0
    rw [if_pos rfl]
    exact Wp_s rfl rfl rfl rfl
  by_cases h1 : s0 = 1
  · subst h1
    rw [if_neg (by omega), if_pos rfl]
    exact Wp_s rfl rfl rfl rfl
  by_cases h2 : s0 = 2
  · subst h2
    rw [if_neg (by omega), if_neg (by omega), if_pos rfl]
    exact Wp_s rfl rfl rfl rfl
  rw [if_neg h0, if_neg h1, if_neg h2]
  have hout : s0 < 0 ∨ 2 < s0 := by omega
  exact Wp_s rfl rfl rfl (by simp only [gstep, vI, if_pos hout]; rfl)
theorem r_X_of_52 : Wp L d k_X_of 52 [vR b0, l1, l2] [] σ Q ↔ Wp L d k_X_of 53 [vR b0, l1, l2] [vR b0] σ Q := wp_aload rfl rfl
theorem r_X_of_53 (h : gK c0 = 0) : Wp L d k_X_of 53 [l0, l1, l2] [vR c0] σ Q ↔ Wp L d k_X_of 56 [l0, l1, l2] [vR (gq c0 0)] σ Q := wp_getR (c := 128) rfl rfl rfl rfl rfl h
theorem r_X_of_56 (h : gK c0 = 5) : Wp L d k_X_of 56 [l0, l1, l2] [vR c0] σ Q ↔ Wp L d k_X_of 59 [l0, l1, l2] [vR (gq c0 1)] σ Q := wp_getR (c := 1409) rfl rfl rfl rfl rfl h
theorem r_X_of_59 (h : gK c0 = 10) : Wp L d k_X_of 59 [l0, l1, l2] [vR c0] σ Q ↔ Wp L d k_X_of 62 [l0, l1, l2] [vR (gq c0 2)] σ Q := wp_getR (c := 2690) rfl rfl rfl rfl rfl h
theorem r_X_of_62 : Wp L d k_X_of 62 [l0, vI a1, l2] [vR c0] σ Q ↔ Wp L d k_X_of 63 [l0, vI a1, l2] [vI a1, vR c0] σ Q := wp_iload rfl rfl
theorem r_X_of_63 (h : gK c0 = 100) (hx : 0 ≤ s1 ∧ s1 < gN c0) : Wp L d k_X_of 63 [l0, l1, l2] [vI s1, vR c0] σ Q ↔ Wp L d k_X_of 64 [l0, l1, l2] [vI (σ c0 s1.toNat)] σ Q := wp_iald rfl h hx
theorem r_X_of_64 : Wp L d k_X_of 64 [l0, l1, l2] [vI s0] σ Q ↔ Q (some (vI s0)) σ := wp_iret rfl
theorem r_X_of_65 : Wp L d k_X_of 65 [vR b0, l1, l2] [] σ Q ↔ Wp L d k_X_of 66 [vR b0, l1, l2] [vR b0] σ Q := wp_aload rfl rfl
theorem r_X_of_66 (h : gK c0 = 0) : Wp L d k_X_of 66 [l0, l1, l2] [vR c0] σ Q ↔ Wp L d k_X_of 69 [l0, l1, l2] [vR (gq c0 0)] σ Q := wp_getR (c := 128) rfl rfl rfl rfl rfl h
theorem r_X_of_69 (h : gK c0 = 5) : Wp L d k_X_of 69 [l0, l1, l2] [vR c0] σ Q ↔ Wp L d k_X_of 72 [l0, l1, l2] [vR (gq c0 1)] σ Q := wp_getR (c := 1409) rfl rfl rfl rfl rfl h
theorem r_X_of_72 (h : gK c0 = 10) : Wp L d k_X_of 72 [l0, l1, l2] [vR c0] σ Q ↔ Wp L d k_X_of 75 [l0, l1, l2] [vR (gq c0 3)] σ Q := wp_getR (c := 2691) rfl rfl rfl rfl rfl h
theorem r_X_of_75 : Wp L d k_X_of 75 [l0, vI a1, l2] [vR c0] σ Q ↔ Wp L d k_X_of 76 [l0, vI a1, l2] [vI a1, vR c0] σ Q := wp_iload rfl rfl
theorem r_X_of_76 (h : gK c0 = 100) (hx : 0 ≤ s1 ∧ s1 < gN c0) : Wp L d k_X_of 76 [l0, l1, l2] [vI s1, vR c0] σ Q ↔ Wp L d k_X_of 77 [l0, l1, l2] [vI (σ c0 s1.toNat)] σ Q := wp_iald rfl h hx
theorem r_X_of_77 : Wp L d k_X_of 77 [l0, l1, l2] [vI s0] σ Q ↔ Q (some (vI s0)) σ := wp_iret rfl
theorem r_X_of_78 : Wp L d k_X_of 78 [vR b0, l1, l2] [] σ Q ↔ Wp L d k_X_of 79 [vR b0, l1, l2] [vR b0] σ Q := wp_aload rfl rfl
theorem r_X_of_79 (h : gK c0 = 0) : Wp L d k_X_of 79 [l0, l1, l2] [vR c0] σ Q ↔ Wp L d k_X_of 82 [l0, l1, l2] [vR (gq c0 0)] σ Q := wp_getR (c := 128) rfl rfl rfl rfl rfl h
theorem r_X_of_82 (h : gK c0 = 5) : Wp L d k_X_of 82 [l0, l1, l2] [vR c0] σ Q ↔ Wp L d k_X_of 85 [l0, l1, l2] [vR (gq c0 1)] σ Q := wp_getR (c := 1409) rfl rfl rfl rfl rfl h
theorem r_X_of_85 (h : gK c0 = 10) : Wp L d k_X_of 85 [l0, l1, l2] [vR c0] σ Q ↔ Wp L d k_X_of 88 [l0, l1, l2] [vR (gq c0 4)] σ Q := wp_getR (c := 2692) rfl rfl rfl rfl rfl h
theorem r_X_of_88 : Wp L d k_X_of 88 [l0, vI a1, l2] [vR c0] σ Q ↔ Wp L d k_X_of 89 [l0, vI a1, l2] [vI a1, vR c0] σ Q := wp_iload rfl rfl
theorem r_X_of_89 (h : gK c0 = 100) (hx : 0 ≤ s1 ∧ s1 < gN c0) : Wp L d k_X_of 89 [l0, l1, l2] [vI s1, vR c0] σ Q ↔ Wp L d k_X_of 90 [l0, l1, l2] [vI (σ c0 s1.toNat)] σ Q := wp_iald rfl h hx
theorem r_X_of_90 : Wp L d k_X_of 90 [l0, l1, l2] [vI s0] σ Q ↔ Q (some (vI s0)) σ := wp_iret rfl
theorem r_X_of_91 : Wp L d k_X_of 91 [l0, l1, l2] [] σ Q ↔ Wp L d k_X_of 93 [l0, l1, l2] [vI (-1000000001)] σ Q := wp_push rfl
theorem r_X_of_93 : Wp L d k_X_of 93 [l0, l1, l2] [vI s0] σ Q ↔ Q (some (vI s0)) σ := wp_iret rfl
theorem r_X_of_14 : Wp L (d + 1) k_X_of 14 [l0, l1, l2] [vI s2, vI s1, vI s0] σ Q ↔ Wp L (d + 1) k_X_of 17 [l0, l1, l2] [vI (gb (s1 ≤ s0 ∧ s0 ≤ s2))] σ Q := wp_callR (d := d + 0) (as := [vI s0, vI s1, vI s2]) (rest := []) rfl rfl rfl rfl rfl rfl rfl rfl (sp_X_within)
theorem sp_X_of_b (hn : w32 (σ 78 6 - 1) = σ 78 6 - 1) (h : ¬ ((0 ≤ a1 ∧ a1 ≤ σ 78 6 - 1) ∧ 0 ≤ a2 ∧ a2 ≤ 2)) : Run L (d + 1) 41 [vR 27, vI a1, vI a2] σ (some (vI (-1000000001))) σ := by
  refine Run_of (C' := k_X_of) rfl ?_
  show Wp L (d + 1) k_X_of 0 [vR 27, vI a1, vI a2] [] σ _
  obtain ⟨K27, K28, K29, K78, K97, K99, K109, K123, K125, K279, K282⟩ := litX
  by_cases e : 0 ≤ a1 ∧ a1 ≤ σ 78 6 - 1
  · simp (disch := first | assumption | exact gb_01 _ | omega) only [r_X_of_0, r_X_of_1, r_X_of_2, r_X_of_3, r_X_of_6, r_X_of_9, r_X_of_12, r_X_of_13, r_X_of_14, r_X_of_17, r_X_of_20, r_X_of_22, r_X_of_23, r_X_of_24, r_X_of_52, r_X_of_53, r_X_of_56, r_X_of_59, r_X_of_62, r_X_of_63, r_X_of_64, r_X_of_65, r_X_of_66, r_X_of_69, r_X_of_72, r_X_of_75, r_X_of_76, r_X_of_77, r_X_of_78, r_X_of_79, r_X_of_82, r_X_of_85, r_X_of_88, r_X_of_89, r_X_of_90, r_X_of_91, r_X_of_93, gq_27_0, gq_27_1, gq_27_2, gq_27_3, gq_27_4, gq_27_5, gq_27_6, gq_28_0, gq_28_1, gq_28_2, gq_28_3, gq_28_4, gq_28_5, gq_28_6, hn, w32_gb, w32i, tn_add, tn_mul, Int.toNat_natCast, Int.toNat_zero, Int.reduceLE, Int.reduceLT, Int.reduceEq, Int.reduceNe, gb_T, gb_F, Int.reduceToNat, eq_self, true_or, or_true, and_true, true_and, and_self, ↓ite_gb0, ↓ite_gbn, ↓if_pos, ↓if_neg, if_true, if_false, not_true_eq_false, not_false_eq_true, gb_ne0, gb_eq0]
  · simp (disch := first | assumption | exact gb_01 _ | omega) only [r_X_of_0, r_X_of_1, r_X_of_2, r_X_of_3, r_X_of_6, r_X_of_9, r_X_of_12, r_X_of_13, r_X_of_14, r_X_of_17, r_X_of_20, r_X_of_22, r_X_of_23, r_X_of_24, r_X_of_52, r_X_of_53, r_X_of_56, r_X_of_59, r_X_of_62, r_X_of_63, r_X_of_64, r_X_of_65, r_X_of_66, r_X_of_69, r_X_of_72, r_X_of_75, r_X_of_76, r_X_of_77, r_X_of_78, r_X_of_79, r_X_of_82, r_X_of_85, r_X_of_88, r_X_of_89, r_X_of_90, r_X_of_91, r_X_of_93, gq_27_0, gq_27_1, gq_27_2, gq_27_3, gq_27_4, gq_27_5, gq_27_6, gq_28_0, gq_28_1, gq_28_2, gq_28_3, gq_28_4, gq_28_5, gq_28_6, hn, w32_gb, w32i, tn_add, tn_mul, Int.toNat_natCast, Int.toNat_zero, Int.reduceLE, Int.reduceLT, Int.reduceEq, Int.reduceNe, gb_T, gb_F, Int.reduceToNat, eq_self, true_or, or_true, and_true, true_and, and_self, ↓ite_gb0, ↓ite_gbn, ↓if_pos, ↓if_neg, if_true, if_false, not_true_eq_false, not_false_eq_true, gb_ne0, gb_eq0]
theorem sp_X_of_0 (hn : w32 (σ 78 6 - 1) = σ 78 6 - 1) (h : 0 ≤ a1 ∧ a1 ≤ σ 78 6 - 1) (hb : σ 78 6 ≤ 12) : Run L (d + 1) 41 [vR 27, vI a1, vI 0] σ (some (vI (σ 93 a1.toNat))) σ := by
  refine Run_of (C' := k_X_of) rfl ?_
  show Wp L (d + 1) k_X_of 0 [vR 27, vI a1, vI 0] [] σ _
  obtain ⟨K27, K28, K29, K78, K97, K99, K109, K123, K125, K279, K282⟩ := litX
  obtain ⟨K78, t0, t1, t2, t3, t4, t5, K79, K92, K93, K94, K95, K96, N79, N92, N93, N94, N95, N96⟩ := litT
  simp (disch := first | assumption | exact gb_01 _ | omega) only [r_X_of_0, r_X_of_1, r_X_of_2, r_X_of_3, r_X_of_6, r_X_of_9, r_X_of_12, r_X_of_13, r_X_of_14, r_X_of_17, r_X_of_20, r_X_of_22, r_X_of_23, r_X_of_24, r_X_of_52, r_X_of_53, r_X_of_56, r_X_of_59, r_X_of_62, r_X_of_63, r_X_of_64, r_X_of_65, r_X_of_66, r_X_of_69, r_X_of_72, r_X_of_75, r_X_of_76, r_X_of_77, r_X_of_78, r_X_of_79, r_X_of_82, r_X_of_85, r_X_of_88, r_X_of_89, r_X_of_90, r_X_of_91, r_X_of_93, gq_27_0, gq_27_1, gq_27_2, gq_27_3, gq_27_4, gq_27_5, gq_27_6, gq_28_0, gq_28_1, gq_28_2, gq_28_3, gq_28_4, gq_28_5, gq_28_6, t0, t1, t2, t3, t4, t5, hn, w32_gb, w32i, tn_add, tn_mul, Int.toNat_natCast, Int.toNat_zero, Int.reduceLE, Int.reduceLT, Int.reduceEq, Int.reduceNe, gb_T, gb_F, Int.reduceToNat, eq_self, true_or, or_true, and_true, true_and, and_self, ↓ite_gb0, ↓ite_gbn, ↓if_pos, ↓if_neg, if_true, if_false, not_true_eq_false, not_false_eq_true, gb_ne0, gb_eq0]
theorem sp_X_of_1 (hn : w32 (σ 78 6 - 1) = σ 78 6 - 1) (h : 0 ≤ a1 ∧ a1 ≤ σ 78 6 - 1) (hb : σ 78 6 ≤ 12) : Run L (d + 1) 41 [vR 27, vI a1, vI 1] σ (some (vI (σ 94 a1.toNat))) σ := by
  refine Run_of (C' := k_X_of) rfl ?_
  show Wp L (d + 1) k_X_of 0 [vR 27, vI a1, vI 1] [] σ _
  obtain ⟨K27, K28, K29, K78, K97, K99, K109, K123, K125, K279, K282⟩ := litX
  obtain ⟨K78, t0, t1, t2, t3, t4, t5, K79, K92, K93, K94, K95, K96, N79, N92, N93, N94, N95, N96⟩ := litT
  simp (disch := first | assumption | exact gb_01 _ | omega) only [r_X_of_0, r_X_of_1, r_X_of_2, r_X_of_3, r_X_of_6, r_X_of_9, r_X_of_12, r_X_of_13, r_X_of_14, r_X_of_17, r_X_of_20, r_X_of_22, r_X_of_23, r_X_of_24, r_X_of_52, r_X_of_53, r_X_of_56, r_X_of_59, r_X_of_62, r_X_of_63, r_X_of_64, r_X_of_65, r_X_of_66, r_X_of_69, r_X_of_72, r_X_of_75, r_X_of_76, r_X_of_77, r_X_of_78, r_X_of_79, r_X_of_82, r_X_of_85, r_X_of_88, r_X_of_89, r_X_of_90, r_X_of_91, r_X_of_93, gq_27_0, gq_27_1, gq_27_2, gq_27_3, gq_27_4, gq_27_5, gq_27_6, gq_28_0, gq_28_1, gq_28_2, gq_28_3, gq_28_4, gq_28_5, gq_28_6, t0, t1, t2, t3, t4, t5, hn, w32_gb, w32i, tn_add, tn_mul, Int.toNat_natCast, Int.toNat_zero, Int.reduceLE, Int.reduceLT, Int.reduceEq, Int.reduceNe, gb_T, gb_F, Int.reduceToNat, eq_self, true_or, or_true, and_true, true_and, and_self, ↓ite_gb0, ↓ite_gbn, ↓if_pos, ↓if_neg, if_true, if_false, not_true_eq_false, not_false_eq_true, gb_ne0, gb_eq0]
theorem sp_X_of_2 (hn : w32 (σ 78 6 - 1) = σ 78 6 - 1) (h : 0 ≤ a1 ∧ a1 ≤ σ 78 6 - 1) (hb : σ 78 6 ≤ 12) : Run L (d + 1) 41 [vR 27, vI a1, vI 2] σ (some (vI (σ 95 a1.toNat))) σ := by
  refine Run_of (C' := k_X_of) rfl ?_
  show Wp L (d + 1) k_X_of 0 [vR 27, vI a1, vI 2] [] σ _
  obtain ⟨K27, K28, K29, K78, K97, K99, K109, K123, K125, K279, K282⟩ := litX
  obtain ⟨K78, t0, t1, t2, t3, t4, t5, K79, K92, K93, K94, K95, K96, N79, N92, N93, N94, N95, N96⟩ := litT
  simp (disch := first | assumption | exact gb_01 _ | omega) only [r_X_of_0, r_X_of_1, r_X_of_2, r_X_of_3, r_X_of_6, r_X_of_9, r_X_of_12, r_X_of_13, r_X_of_14, r_X_of_17, r_X_of_20, r_X_of_22, r_X_of_23, r_X_of_24, r_X_of_52, r_X_of_53, r_X_of_56, r_X_of_59, r_X_of_62, r_X_of_63, r_X_of_64, r_X_of_65, r_X_of_66, r_X_of_69, r_X_of_72, r_X_of_75, r_X_of_76, r_X_of_77, r_X_of_78, r_X_of_79, r_X_of_82, r_X_of_85, r_X_of_88, r_X_of_89, r_X_of_90, r_X_of_91, r_X_of_93, gq_27_0, gq_27_1, gq_27_2, gq_27_3, gq_27_4, gq_27_5, gq_27_6, gq_28_0, gq_28_1, gq_28_2, gq_28_3, gq_28_4, gq_28_5, gq_28_6, t0, t1, t2, t3, t4, t5, hn, w32_gb, w32i, tn_add, tn_mul, Int.toNat_natCast, Int.toNat_zero, Int.reduceLE, Int.reduceLT, Int.reduceEq, Int.reduceNe, gb_T, gb_F, Int.reduceToNat, eq_self, true_or, or_true, and_true, true_and, and_self, ↓ite_gb0, ↓ite_gbn, ↓if_pos, ↓if_neg, if_true, if_false, not_true_eq_false, not_false_eq_true, gb_ne0, gb_eq0]
theorem r_M_of_0 : Wp L d k_M_of 0 [vR b0, l1, l2] [] σ Q ↔ Wp L d k_M_of 1 [vR b0, l1, l2] [vR b0] σ Q := wp_aload rfl rfl
theorem r_M_of_1 : Wp L d k_M_of 1 [l0, vI a1, l2] [vR c0] σ Q ↔ Wp L d k_M_of 2 [l0, vI a1, l2] [vI a1, vR c0] σ Q := wp_iload rfl rfl
theorem r_M_of_5 : Wp L d k_M_of 5 [l0, l1, l2] [vI s0] σ Q ↔ (if s0 = 0 then Wp L d k_M_of 35 [l0, l1, l2] [] σ Q else Wp L d k_M_of 8 [l0, l1, l2] [] σ Q) := wp_if_eq rfl
theorem r_M_of_8 : Wp L d k_M_of 8 [l0, l1, vI a2] [] σ Q ↔ Wp L d k_M_of 9 [l0, l1, vI a2] [vI a2] σ Q := wp_iload rfl rfl
theorem r_M_of_9 : Wp L d k_M_of 9 [l0, l1, l2] [vI s0] σ Q ↔ Wp L d k_M_of 10 [l0, l1, l2] [vL s0] σ Q := wp_i2l rfl
theorem r_M_of_10 : Wp L d k_M_of 10 [l0, l1, l2] [vL s0] σ Q ↔ Wp L d k_M_of 11 [l0, l1, l2] [vL 0, vL s0] σ Q := wp_pushL rfl
theorem r_M_of_11 : Wp L d k_M_of 11 [l0, l1, l2] [vL s1, vL s0] σ Q ↔ Wp L d k_M_of 14 [l0, l1, l2] [vL 2, vL s1, vL s0] σ Q := wp_pushL rfl
theorem r_M_of_17 : Wp L d k_M_of 17 [l0, l1, l2] [vI s0] σ Q ↔ (if s0 = 0 then Wp L d k_M_of 35 [l0, l1, l2] [] σ Q else Wp L d k_M_of 20 [l0, l1, l2] [] σ Q) := wp_if_eq rfl
theorem r_M_of_20 : Wp L d k_M_of 20 [vR b0, l1, l2] [] σ Q ↔ Wp L d k_M_of 21 [vR b0, l1, l2] [vR b0] σ Q := wp_aload rfl rfl
theorem r_M_of_21 (h : gK c0 = 12) : Wp L d k_M_of 21 [l0, l1, l2] [vR c0] σ Q ↔ Wp L d k_M_of 24 [l0, l1, l2] [vR (gq c0 0)] σ Q := wp_getR (c := 3200) rfl rfl rfl rfl rfl h
theorem r_M_of_24 : Wp L d k_M_of 24 [vR b0, l1, l2] [vR c0] σ Q ↔ Wp L d k_M_of 25 [vR b0, l1, l2] [vR b0, vR c0] σ Q := wp_aload rfl rfl
theorem r_M_of_25 : Wp L d k_M_of 25 [l0, vI a1, l2] [vR c1, vR c0] σ Q ↔ Wp L d k_M_of 26 [l0, vI a1, l2] [vI a1, vR c1, vR c0] σ Q := wp_iload rfl rfl
theorem r_M_of_29 : Wp L d k_M_of 29 [l0, l1, vI a2] [vI s1, vR c0] σ Q ↔ Wp L d k_M_of 30 [l0, l1, vI a2] [vI a2, vI s1, vR c0] σ Q := wp_iload rfl rfl
theorem r_M_of_30 : Wp L d k_M_of 30 [l0, l1, l2] [vI s2, vI s1, vR c0] σ Q ↔ Wp L d k_M_of 31 [l0, l1, l2] [vI (w32 (s1 + s2)), vR c0] σ Q := wp_iadd rfl
theorem r_M_of_31 (h : gK c0 = 100) (hx : 0 ≤ s1 ∧ s1 < gN c0) : Wp L d k_M_of 31 [l0, l1, l2] [vI s1, vR c0] σ Q ↔ Wp L d k_M_of 32 [l0, l1, l2] [vI (σ c0 s1.toNat)] σ Q := wp_iald rfl h hx
theorem r_M_of_32 : Wp L d k_M_of 32 [l0, l1, l2] [vI s0] σ Q ↔ Wp L d k_M_of 37 [l0, l1, l2] [vI s0] σ Q := wp_goto rfl
theorem r_M_of_35 : Wp L d k_M_of 35 [l0, l1, l2] [] σ Q ↔ Wp L d k_M_of 37 [l0, l1, l2] [vI (-1000000001)] σ Q := wp_push rfl
theorem r_M_of_37 : Wp L d k_M_of 37 [l0, l1, l2] [vI s0] σ Q ↔ Q (some (vI s0)) σ := wp_iret rfl
theorem r_M_of_2 : Wp L (d + 2) k_M_of 2 [l0, l1, l2] [vI s1, vR 293] σ Q ↔ Wp L (d + 2) k_M_of 5 [l0, l1, l2] [vI (gb (0 ≤ s1 ∧ s1 ≤ w32 (σ 294 2 - 1)))] σ Q := wp_callR (d := d + 1) (as := [vR 293, vI s1]) (rest := []) rfl rfl rfl rfl rfl rfl rfl (grecv_k (by rw [gK_293]) rfl) (sp_M_isText)
theorem r_M_of_14 : Wp L (d + 2) k_M_of 14 [l0, l1, l2] [vL s2, vL s1, vL s0] σ Q ↔ Wp L (d + 2) k_M_of 17 [l0, l1, l2] [vI (gb (s1 ≤ s0 ∧ s0 ≤ s2))] σ Q := wp_callR (d := d + 1) (as := [vL s0, vL s1, vL s2]) (rest := []) rfl rfl rfl rfl rfl rfl rfl rfl (sp_M_isIn)
theorem r_M_of_26 : Wp L (d + 2) k_M_of 26 [l0, l1, l2] [vI s2, vR 293, vR c0] σ Q ↔ Wp L (d + 2) k_M_of 29 [l0, l1, l2] [vI (w32 (930 + w32 (200 * s2))), vR c0] σ Q := wp_callR (d := d + 1) (as := [vR 293, vI s2]) (rest := [vR c0]) rfl rfl rfl rfl rfl rfl rfl (grecv_k (by rw [gK_293]) rfl) (sp_M_textAt)
theorem sp_M_of_b (hn : w32 (σ 294 2 - 1) = σ 294 2 - 1) (h : ¬ ((0 ≤ a1 ∧ a1 ≤ σ 294 2 - 1) ∧ 0 ≤ a2 ∧ a2 ≤ 2)) : Run L (d + 2) 256 [vR 293, vI a1, vI a2] σ (some (vI (-1000000001))) σ := by
  refine Run_of (C' := k_M_of) rfl ?_
  show Wp L (d + 2) k_M_of 0 [vR 293, vI a1, vI a2] [] σ _
  obtain ⟨K293, Q293, K294, N294⟩ := litM
  by_cases e : 0 ≤ a1 ∧ a1 ≤ σ 294 2 - 1
  · simp (disch := first | assumption | exact gb_01 _ | omega) only [r_M_of_0, r_M_of_1, r_M_of_2, r_M_of_5, r_M_of_8, r_M_of_9, r_M_of_10, r_M_of_11, r_M_of_14, r_M_of_17, r_M_of_20, r_M_of_21, r_M_of_24, r_M_of_25, r_M_of_26, r_M_of_29, r_M_of_30, r_M_of_31, r_M_of_32, r_M_of_35, r_M_of_37, Q293, hn, w32_gb, w32i, tn_add, tn_mul, Int.toNat_natCast, Int.toNat_zero, Int.reduceLE, Int.reduceLT, Int.reduceEq, Int.reduceNe, gb_T, gb_F, Int.reduceToNat, eq_self, true_or, or_true, and_true, true_and, and_self, ↓ite_gb0, ↓ite_gbn, ↓if_pos, ↓if_neg, if_true, if_false, not_true_eq_false, not_false_eq_true, gb_ne0, gb_eq0]
  · simp (disch := first | assumption | exact gb_01 _ | omega) only [r_M_of_0, r_M_of_1, r_M_of_2, r_M_of_5, r_M_of_8, r_M_of_9, r_M_of_10, r_M_of_11, r_M_of_14, r_M_of_17, r_M_of_20, r_M_of_21, r_M_of_24, r_M_of_25, r_M_of_26, r_M_of_29, r_M_of_30, r_M_of_31, r_M_of_32, r_M_of_35, r_M_of_37, Q293, hn, w32_gb, w32i, tn_add, tn_mul, Int.toNat_natCast, Int.toNat_zero, Int.reduceLE, Int.reduceLT, Int.reduceEq, Int.reduceNe, gb_T, gb_F, Int.reduceToNat, eq_self, true_or, or_true, and_true, true_and, and_self, ↓ite_gb0, ↓ite_gbn, ↓if_pos, ↓if_neg, if_true, if_false, not_true_eq_false, not_false_eq_true, gb_ne0, gb_eq0]
theorem sp_M_of (hn : w32 (σ 294 2 - 1) = σ 294 2 - 1) (hb : σ 294 2 ≤ 12) (h : (0 ≤ a1 ∧ a1 ≤ σ 294 2 - 1) ∧ 0 ≤ a2 ∧ a2 ≤ 2) : Run L (d + 2) 256 [vR 293, vI a1, vI a2] σ (some (vI (σ 294 (930 + 200 * a1.toNat + a2.toNat)))) σ := by
  refine Run_of (C' := k_M_of) rfl ?_
  show Wp L (d + 2) k_M_of 0 [vR 293, vI a1, vI a2] [] σ _
  obtain ⟨K293, Q293, K294, N294⟩ := litM
  simp (disch := first | assumption | exact gb_01 _ | omega) only [r_M_of_0, r_M_of_1, r_M_of_2, r_M_of_5, r_M_of_8, r_M_of_9, r_M_of_10, r_M_of_11, r_M_of_14, r_M_of_17, r_M_of_20, r_M_of_21, r_M_of_24, r_M_of_25, r_M_of_26, r_M_of_29, r_M_of_30, r_M_of_31, r_M_of_32, r_M_of_35, r_M_of_37, Q293, hn, w32_gb, w32i, tn_add, tn_mul, Int.toNat_natCast, Int.toNat_zero, Int.reduceLE, Int.reduceLT, Int.reduceEq, Int.reduceNe, gb_T, gb_F, Int.reduceToNat, eq_self, true_or, or_true, and_true, true_and, and_self, ↓ite_gb0, ↓ite_gbn, ↓if_pos, ↓if_neg, if_true, if_false, not_true_eq_false, not_false_eq_true, gb_ne0, gb_eq0]
theorem op_of (a1 a2 : Int) : Op 41 256 [vI a1, vI a2] := by
  intro L d σ hI
  obtain ⟨hw, hc⟩ := iT hI
  have w1 := hw.1
  have c1 := hc.1
  have hn : w32 (σ 78 6 - 1) = σ 78 6 - 1 := w32i (by omega)
  have hm : w32 (σ 294 2 - 1) = σ 294 2 - 1 := w32i (by omega)
  have hM := (iM hI).2.1
  
  by_cases h : (0 ≤ a1 ∧ a1 ≤ σ 78 6 - 1) ∧ 0 ≤ a2 ∧ a2 ≤ 2
  · have z : a2 = 0 ∨ a2 = 1 ∨ a2 = 2 := by omega
    obtain ⟨p1, p2, p3, p4, -⟩ := CTp hc (t := a1.toNat) (by omega)
    rcases z with rfl | rfl | rfl
    · exact ⟨_, _, _, sp_X_of_0 hn h.1 (by omega), Run_r (sp_M_of hm (by omega) (by omega)) p2.symm, hI⟩
    · exact ⟨_, _, _, sp_X_of_1 hn h.1 (by omega), Run_r (sp_M_of hm (by omega) (by omega)) p3.symm, hI⟩
    · exact ⟨_, _, _, sp_X_of_2 hn h.1 (by omega), Run_r (sp_M_of hm (by omega) (by omega)) p4.symm, hI⟩
  · exact ⟨_, _, _, sp_X_of_b hn h, sp_M_of_b hm (by omega), hI⟩
theorem r_X_why_0 : Wp L d k_X_why 0 [l0, vI a1] [] σ Q ↔ Wp L d k_X_why 1 [l0, vI a1] [vI a1] σ Q := wp_iload rfl rfl
theorem r_X_why_4 : Wp L d k_X_why 4 [l0, l1] [vI s0] σ Q ↔ (if s0 = 0 then Wp L d k_X_why 28 [l0, l1] [] σ Q else Wp L d k_X_why 7 [l0, l1] [] σ Q) := wp_if_eq rfl
theorem r_X_why_7 : Wp L d k_X_why 7 [vR b0, l1] [] σ Q ↔ Wp L d k_X_why 8 [vR b0, l1] [vR b0] σ Q := wp_aload rfl rfl
theorem r_X_why_8 (h : gK c0 = 0) : Wp L d k_X_why 8 [l0, l1] [vR c0] σ Q ↔ Wp L d k_X_why 11 [l0, l1] [vR (gq c0 0)] σ Q := wp_getR (c := 128) rfl rfl rfl rfl rfl h
theorem r_X_why_11 (h : gK c0 = 5) : Wp L d k_X_why 11 [l0, l1] [vR c0] σ Q ↔ Wp L d k_X_why 14 [l0, l1] [vR (gq c0 1)] σ Q := wp_getR (c := 1409) rfl rfl rfl rfl rfl h
theorem r_X_why_14 : Wp L d k_X_why 14 [l0, vI a1] [vR c0] σ Q ↔ Wp L d k_X_why 15 [l0, vI a1] [vI a1, vR c0] σ Q := wp_iload rfl rfl
theorem r_X_why_15 : Wp L d k_X_why 15 [vR b0, l1] [vI s1, vR c0] σ Q ↔ Wp L d k_X_why 16 [vR b0, l1] [vR b0, vI s1, vR c0] σ Q := wp_aload rfl rfl
theorem r_X_why_16 (h : gK c2 = 0) : Wp L d k_X_why 16 [l0, l1] [vR c2, vI s1, vR c0] σ Q ↔ Wp L d k_X_why 19 [l0, l1] [vR (gq c2 0), vI s1, vR c0] σ Q := wp_getR (c := 128) rfl rfl rfl rfl rfl h
theorem r_X_why_19 (h : gK c2 = 5) : Wp L d k_X_why 19 [l0, l1] [vR c2, vI s1, vR c0] σ Q ↔ Wp L d k_X_why 22 [l0, l1] [vI (σ c2 7), vI s1, vR c0] σ Q := wp_getI (c := 1287) rfl rfl rfl rfl h
theorem c_X_why_22 (hR : Run L d 179 [vR c0, vI s1, vI s2] σ r σ1) (h : gK c0 = 10) : Wp L (d + 1) k_X_why 22 [l0, l1] [vI s2, vI s1, vR c0] σ Q ↔ Wp L (d + 1) k_X_why 25 [l0, l1] (r.toList ++ []) σ1 Q := wp_callR (as := [vR c0, vI s1, vI s2]) (rest := []) rfl rfl rfl rfl rfl rfl rfl (grecv_k (by rw [h]) rfl) hR
theorem r_X_why_25 : Wp L d k_X_why 25 [l0, l1] [vI s0] σ Q ↔ Wp L d k_X_why 30 [l0, l1] [vI s0] σ Q := wp_goto rfl
theorem r_X_why_28 : Wp L d k_X_why 28 [l0, l1] [] σ Q ↔ Wp L d k_X_why 30 [l0, l1] [vI (-1000000001)] σ Q := wp_push rfl
theorem r_X_why_30 : Wp L d k_X_why 30 [l0, l1] [vI s0] σ Q ↔ Q (some (vI s0)) σ := wp_iret rfl
theorem r_X_why_1 : Wp L (d + 2) k_X_why 1 [l0, l1] [vI s0] σ Q ↔ Wp L (d + 2) k_X_why 4 [l0, l1] [vI (gb (0 ≤ s0 ∧ s0 ≤ 3))] σ Q := wp_callR (d := d + 1) (as := [vI s0]) (rest := []) rfl rfl rfl rfl rfl rfl rfl rfl (sp_X_isKey)
theorem sp_X_why_b (h : ¬ (0 ≤ a1 ∧ a1 ≤ 3)) : Run L (d + 2) 42 [vR 27, vI a1] σ (some (vI (-1000000001))) σ := by
  refine Run_of (C' := k_X_why) rfl ?_
  show Wp L (d + 2) k_X_why 0 [vR 27, vI a1] [] σ _
  obtain ⟨K27, K28, K29, K78, K97, K99, K109, K123, K125, K279, K282⟩ := litX
  simp (disch := first | assumption | exact gb_01 _ | omega) only [r_X_why_0, r_X_why_1, r_X_why_4, r_X_why_7, r_X_why_8, r_X_why_11, r_X_why_14, r_X_why_15, r_X_why_16, r_X_why_19, r_X_why_25, r_X_why_28, r_X_why_30, gq_27_0, gq_27_1, gq_27_2, gq_27_3, gq_27_4, gq_27_5, gq_27_6, gq_28_0, gq_28_1, gq_28_2, gq_28_3, gq_28_4, gq_28_5, gq_28_6, w32_gb, w32i, tn_add, tn_mul, Int.toNat_natCast, Int.toNat_zero, Int.reduceLE, Int.reduceLT, Int.reduceEq, Int.reduceNe, gb_T, gb_F, Int.reduceToNat, eq_self, true_or, or_true, and_true, true_and, and_self, ↓ite_gb0, ↓ite_gbn, ↓if_pos, ↓if_neg, if_true, if_false, not_true_eq_false, not_false_eq_true, gb_ne0, gb_eq0]
theorem r_M_why_0 : Wp L d k_M_why 0 [l0, vI a1] [] σ Q ↔ Wp L d k_M_why 1 [l0, vI a1] [vI a1] σ Q := wp_iload rfl rfl
theorem r_M_why_1 : Wp L d k_M_why 1 [l0, l1] [vI s0] σ Q ↔ Wp L d k_M_why 2 [l0, l1] [vL s0] σ Q := wp_i2l rfl
theorem r_M_why_2 : Wp L d k_M_why 2 [l0, l1] [vL s0] σ Q ↔ Wp L d k_M_why 3 [l0, l1] [vL 0, vL s0] σ Q := wp_pushL rfl
theorem r_M_why_3 : Wp L d k_M_why 3 [l0, l1] [vL s1, vL s0] σ Q ↔ Wp L d k_M_why 6 [l0, l1] [vL 3, vL s1, vL s0] σ Q := wp_pushL rfl
theorem r_M_why_9 : Wp L d k_M_why 9 [l0, l1] [vI s0] σ Q ↔ (if s0 = 0 then Wp L d k_M_why 23 [l0, l1] [] σ Q else Wp L d k_M_why 12 [l0, l1] [] σ Q) := wp_if_eq rfl
theorem r_M_why_12 : Wp L d k_M_why 12 [vR b0, l1] [] σ Q ↔ Wp L d k_M_why 13 [vR b0, l1] [vR b0] σ Q := wp_aload rfl rfl
theorem r_M_why_13 : Wp L d k_M_why 13 [l0, vI a1] [vR c0] σ Q ↔ Wp L d k_M_why 14 [l0, vI a1] [vI a1, vR c0] σ Q := wp_iload rfl rfl
theorem r_M_why_20 : Wp L d k_M_why 20 [l0, l1] [vI s0] σ Q ↔ Wp L d k_M_why 25 [l0, l1] [vI s0] σ Q := wp_goto rfl
theorem r_M_why_23 : Wp L d k_M_why 23 [l0, l1] [] σ Q ↔ Wp L d k_M_why 25 [l0, l1] [vI (-1000000001)] σ Q := wp_push rfl
theorem r_M_why_25 : Wp L d k_M_why 25 [l0, l1] [vI s0] σ Q ↔ Q (some (vI s0)) σ := wp_iret rfl
theorem r_M_why_6 : Wp L (d + 2) k_M_why 6 [l0, l1] [vL s2, vL s1, vL s0] σ Q ↔ Wp L (d + 2) k_M_why 9 [l0, l1] [vI (gb (s1 ≤ s0 ∧ s0 ≤ s2))] σ Q := wp_callR (d := d + 1) (as := [vL s0, vL s1, vL s2]) (rest := []) rfl rfl rfl rfl rfl rfl rfl rfl (sp_M_isIn)
theorem r_M_why_14 (hw : WT (σ 294)) : Wp L (d + 2) k_M_why 14 [l0, l1] [vI s1, vR 293] σ Q ↔ Wp L (d + 2) k_M_why 17 [l0, l1] [vI (brct (σ 294) s1 (σ 294 2).toNat)] σ Q := wp_callR (d := d + 1) (as := [vR 293, vI s1]) (rest := []) rfl rfl rfl rfl rfl rfl rfl (grecv_k (by rw [gK_293]) rfl) (sp_M_counts hw)
theorem r_M_why_17 : Wp L (d + 2) k_M_why 17 [l0, l1] [vI s0] σ Q ↔ Wp L (d + 2) k_M_why 20 [l0, l1] [vI (if s0 < 0 then -1000000005 else s0)] σ Q := wp_callR (d := d + 1) (as := [vI s0]) (rest := []) rfl rfl rfl rfl rfl rfl rfl rfl (sp_M_orNone)
theorem sp_M_why_b (h : ¬ (0 ≤ a1 ∧ a1 ≤ 3)) : Run L (d + 2) 258 [vR 293, vI a1] σ (some (vI (-1000000001))) σ := by
  refine Run_of (C' := k_M_why) rfl ?_
  show Wp L (d + 2) k_M_why 0 [vR 293, vI a1] [] σ _
  obtain ⟨K293, Q293, K294, N294⟩ := litM
  simp (disch := first | assumption | exact gb_01 _ | omega) only [r_M_why_0, r_M_why_1, r_M_why_2, r_M_why_3, r_M_why_6, r_M_why_9, r_M_why_12, r_M_why_13, r_M_why_14, r_M_why_17, r_M_why_20, r_M_why_23, r_M_why_25, Q293, w32_gb, w32i, tn_add, tn_mul, Int.toNat_natCast, Int.toNat_zero, Int.reduceLE, Int.reduceLT, Int.reduceEq, Int.reduceNe, gb_T, gb_F, Int.reduceToNat, eq_self, true_or, or_true, and_true, true_and, and_self, ↓ite_gb0, ↓ite_gbn, ↓if_pos, ↓if_neg, if_true, if_false, not_true_eq_false, not_false_eq_true, gb_ne0, gb_eq0]
theorem sp_X_why {f : Nat → Int} (hw : WT f) (hc : CT 78 f σ) (hm : σ 28 7 = f 7) (h : 0 ≤ a1 ∧ a1 ≤ 3) : Run L (d + 2) 42 [vR 27, vI a1] σ (some (vI (gnn (brct f a1 (f 2).toNat)))) σ := by
  refine Run_of (C' := k_X_why) rfl ?_
  show Wp L (d + 2) k_X_why 0 [vR 27, vI a1] [] σ _
  obtain ⟨K27, K28, K29, K78, K97, K99, K109, K123, K125, K279, K282⟩ := litX
  have hC := sp_C_counting (L := L) (d := d + 1) (a1 := a1) (a2 := σ 28 7) hw hc hm
  simp (disch := first | assumption | exact gb_01 _ | omega) only [r_X_why_0, r_X_why_1, r_X_why_4, r_X_why_7, r_X_why_8, r_X_why_11, r_X_why_14, r_X_why_15, r_X_why_16, r_X_why_19, r_X_why_25, r_X_why_28, r_X_why_30, c_X_why_22 hC, Option.toList, List.singleton_append, List.cons_append, List.nil_append, List.append_nil, gq_27_0, gq_27_1, gq_27_2, gq_27_3, gq_27_4, gq_27_5, gq_27_6, gq_28_0, gq_28_1, gq_28_2, gq_28_3, gq_28_4, gq_28_5, gq_28_6, w32_gb, w32i, tn_add, tn_mul, Int.toNat_natCast, Int.toNat_zero, Int.reduceLE, Int.reduceLT, Int.reduceEq, Int.reduceNe, gb_T, gb_F, Int.reduceToNat, eq_self, true_or, or_true, and_true, true_and, and_self, ↓ite_gb0, ↓ite_gbn, ↓if_pos, ↓if_neg, if_true, if_false, not_true_eq_false, not_false_eq_true, gb_ne0, gb_eq0]
theorem sp_M_why (hw : WT (σ 294)) (h : 0 ≤ a1 ∧ a1 ≤ 3) : Run L (d + 2) 258 [vR 293, vI a1] σ (some (vI (gnn (brct (σ 294) a1 (σ 294 2).toNat)))) σ := by
  refine Run_of (C' := k_M_why) rfl ?_
  show Wp L (d + 2) k_M_why 0 [vR 293, vI a1] [] σ _
  obtain ⟨K293, Q293, K294, N294⟩ := litM
  simp (disch := first | assumption | exact gb_01 _ | omega) only [r_M_why_0, r_M_why_1, r_M_why_2, r_M_why_3, r_M_why_6, r_M_why_9, r_M_why_12, r_M_why_13, r_M_why_14, r_M_why_17, r_M_why_20, r_M_why_23, r_M_why_25, Q293, w32_gb, w32i, tn_add, tn_mul, Int.toNat_natCast, Int.toNat_zero, Int.reduceLE, Int.reduceLT, Int.reduceEq, Int.reduceNe, gb_T, gb_F, Int.reduceToNat, eq_self, true_or, or_true, and_true, true_and, and_self, ↓ite_gb0, ↓ite_gbn, ↓if_pos, ↓if_neg, if_true, if_false, not_true_eq_false, not_false_eq_true, gb_ne0, gb_eq0]
  rfl
theorem op_why (a1 : Int) : Op 42 258 [vI a1] := by
  intro L d σ hI
  obtain ⟨hw, hc⟩ := iT hI
  have w1 := hw.1
  have c1 := hc.1
  have hn : w32 (σ 78 6 - 1) = σ 78 6 - 1 := w32i (by omega)
  have hm : w32 (σ 294 2 - 1) = σ 294 2 - 1 := w32i (by omega)
  have hM := (iM hI).2.1
  
  by_cases h : 0 ≤ a1 ∧ a1 ≤ 3
  · exact ⟨_, _, _, sp_X_why hw hc hM h, sp_M_why hw h, hI⟩
  · exact ⟨_, _, _, sp_X_why_b h, sp_M_why_b h, hI⟩
theorem r_X_rules_0 : Wp L d k_X_rules 0 [l0, vI a1, l2, l3, l4] [] σ Q ↔ Wp L d k_X_rules 1 [l0, vI a1, l2, l3, l4] [vI a1] σ Q := wp_iload rfl rfl
theorem r_X_rules_4 : Wp L d k_X_rules 4 [l0, l1, l2, l3, l4] [vI s0] σ Q ↔ (if s0 = 0 then Wp L d k_X_rules 22 [l0, l1, l2, l3, l4] [] σ Q else Wp L d k_X_rules 7 [l0, l1, l2, l3, l4] [] σ Q) := wp_if_eq rfl
theorem r_X_rules_7 : Wp L d k_X_rules 7 [vR b0, l1, l2, l3, l4] [] σ Q ↔ Wp L d k_X_rules 8 [vR b0, l1, l2, l3, l4] [vR b0] σ Q := wp_aload rfl rfl
theorem r_X_rules_8 (h : gK c0 = 0) : Wp L d k_X_rules 8 [l0, l1, l2, l3, l4] [vR c0] σ Q ↔ Wp L d k_X_rules 11 [l0, l1, l2, l3, l4] [vR (gq c0 0)] σ Q := wp_getR (c := 128) rfl rfl rfl rfl rfl h
theorem r_X_rules_11 : Wp L d k_X_rules 11 [l0, vI a1, l2, l3, l4] [vR c0] σ Q ↔ Wp L d k_X_rules 12 [l0, vI a1, l2, l3, l4] [vI a1, vR c0] σ Q := wp_iload rfl rfl
theorem r_X_rules_12 : Wp L d k_X_rules 12 [l0, l1, vI a2, l3, l4] [vI s1, vR c0] σ Q ↔ Wp L d k_X_rules 13 [l0, l1, vI a2, l3, l4] [vI a2, vI s1, vR c0] σ Q := wp_iload rfl rfl
theorem r_X_rules_13 : Wp L d k_X_rules 13 [l0, l1, l2, vI a3, l4] [vI s2, vI s1, vR c0] σ Q ↔ Wp L d k_X_rules 14 [l0, l1, l2, vI a3, l4] [vI a3, vI s2, vI s1, vR c0] σ Q := wp_iload rfl rfl
theorem r_X_rules_14 : Wp L d k_X_rules 14 [l0, l1, l2, l3, vI a4] [vI s3, vI s2, vI s1, vR c0] σ Q ↔ Wp L d k_X_rules 16 [l0, l1, l2, l3, vI a4] [vI a4, vI s3, vI s2, vI s1, vR c0] σ Q := wp_iload rfl rfl
theorem c_X_rules_16 (hR : Run L d 135 [vR c0, vI s1, vI s2, vI s3, vI s4] σ r σ1) (h : gK c0 = 5) : Wp L (d + 1) k_X_rules 16 [l0, l1, l2, l3, l4] [vI s4, vI s3, vI s2, vI s1, vR c0] σ Q ↔ Wp L (d + 1) k_X_rules 19 [l0, l1, l2, l3, l4] (r.toList ++ []) σ1 Q := wp_callR (as := [vR c0, vI s1, vI s2, vI s3, vI s4]) (rest := []) rfl rfl rfl rfl rfl rfl rfl (grecv_k (by rw [h]) rfl) hR
theorem r_X_rules_19 : Wp L d k_X_rules 19 [l0, l1, l2, l3, l4] [vI s0] σ Q ↔ Wp L d k_X_rules 24 [l0, l1, l2, l3, l4] [vI s0] σ Q := wp_goto rfl
theorem r_X_rules_22 : Wp L d k_X_rules 22 [l0, l1, l2, l3, l4] [] σ Q ↔ Wp L d k_X_rules 24 [l0, l1, l2, l3, l4] [vI (-1000000001)] σ Q := wp_push rfl
theorem r_X_rules_24 : Wp L d k_X_rules 24 [l0, l1, l2, l3, l4] [vI s0] σ Q ↔ Q (some (vI s0)) σ := wp_iret rfl
theorem r_X_rules_1 : Wp L (d + 4) k_X_rules 1 [l0, l1, l2, l3, l4] [vI s0] σ Q ↔ Wp L (d + 4) k_X_rules 4 [l0, l1, l2, l3, l4] [vI (gb (0 ≤ s0 ∧ s0 ≤ 3))] σ Q := wp_callR (d := d + 3) (as := [vI s0]) (rest := []) rfl rfl rfl rfl rfl rfl rfl rfl (sp_X_isKey)
theorem sp_X_rules_b (h : ¬ (0 ≤ a1 ∧ a1 ≤ 3)) : Run L (d + 4) 44 [vR 27, vI a1, vI a2, vI a3, vI a4] σ (some (vI (-1000000001))) σ := by
  refine Run_of (C' := k_X_rules) rfl ?_
  show Wp L (d + 4) k_X_rules 0 [vR 27, vI a1, vI a2, vI a3, vI a4] [] σ _
  obtain ⟨K27, K28, K29, K78, K97, K99, K109, K123, K125, K279, K282⟩ := litX
  simp (disch := first | assumption | exact gb_01 _ | omega) only [r_X_rules_0, r_X_rules_1, r_X_rules_4, r_X_rules_7, r_X_rules_8, r_X_rules_11, r_X_rules_12, r_X_rules_13, r_X_rules_14, r_X_rules_19, r_X_rules_22, r_X_rules_24, gq_27_0, gq_27_1, gq_27_2, gq_27_3, gq_27_4, gq_27_5, gq_27_6, gq_28_0, gq_28_1, gq_28_2, gq_28_3, gq_28_4, gq_28_5, gq_28_6, w32_gb, w32i, tn_add, tn_mul, Int.toNat_natCast, Int.toNat_zero, Int.reduceLE, Int.reduceLT, Int.reduceEq, Int.reduceNe, gb_T, gb_F, Int.reduceToNat, eq_self, true_or, or_true, and_true, true_and, and_self, ↓ite_gb0, ↓ite_gbn, ↓if_pos, ↓if_neg, if_true, if_false, not_true_eq_false, not_false_eq_true, gb_ne0, gb_eq0]
theorem r_M_rules_0 : Wp L d k_M_rules 0 [l0, vI a1, l2, l3, l4] [] σ Q ↔ Wp L d k_M_rules 1 [l0, vI a1, l2, l3, l4] [vI a1] σ Q := wp_iload rfl rfl
theorem r_M_rules_1 : Wp L d k_M_rules 1 [l0, l1, l2, l3, l4] [vI s0] σ Q ↔ Wp L d k_M_rules 2 [l0, l1, l2, l3, l4] [vL s0] σ Q := wp_i2l rfl
theorem r_M_rules_2 : Wp L d k_M_rules 2 [l0, l1, l2, l3, l4] [vL s0] σ Q ↔ Wp L d k_M_rules 3 [l0, l1, l2, l3, l4] [vL 0, vL s0] σ Q := wp_pushL rfl
theorem r_M_rules_3 : Wp L d k_M_rules 3 [l0, l1, l2, l3, l4] [vL s1, vL s0] σ Q ↔ Wp L d k_M_rules 6 [l0, l1, l2, l3, l4] [vL 3, vL s1, vL s0] σ Q := wp_pushL rfl
theorem r_M_rules_9 : Wp L d k_M_rules 9 [l0, l1, l2, l3, l4] [vI s0] σ Q ↔ (if s0 = 0 then Wp L d k_M_rules 24 [l0, l1, l2, l3, l4] [] σ Q else Wp L d k_M_rules 12 [l0, l1, l2, l3, l4] [] σ Q) := wp_if_eq rfl
theorem r_M_rules_12 : Wp L d k_M_rules 12 [vR b0, l1, l2, l3, l4] [] σ Q ↔ Wp L d k_M_rules 13 [vR b0, l1, l2, l3, l4] [vR b0] σ Q := wp_aload rfl rfl
theorem r_M_rules_13 : Wp L d k_M_rules 13 [l0, vI a1, l2, l3, l4] [vR c0] σ Q ↔ Wp L d k_M_rules 14 [l0, vI a1, l2, l3, l4] [vI a1, vR c0] σ Q := wp_iload rfl rfl
theorem r_M_rules_14 : Wp L d k_M_rules 14 [l0, l1, vI a2, l3, l4] [vI s1, vR c0] σ Q ↔ Wp L d k_M_rules 15 [l0, l1, vI a2, l3, l4] [vI a2, vI s1, vR c0] σ Q := wp_iload rfl rfl
theorem r_M_rules_15 : Wp L d k_M_rules 15 [l0, l1, l2, vI a3, l4] [vI s2, vI s1, vR c0] σ Q ↔ Wp L d k_M_rules 16 [l0, l1, l2, vI a3, l4] [vI a3, vI s2, vI s1, vR c0] σ Q := wp_iload rfl rfl
theorem r_M_rules_16 : Wp L d k_M_rules 16 [l0, l1, l2, l3, vI a4] [vI s3, vI s2, vI s1, vR c0] σ Q ↔ Wp L d k_M_rules 18 [l0, l1, l2, l3, vI a4] [vI a4, vI s3, vI s2, vI s1, vR c0] σ Q := wp_iload rfl rfl
theorem c_M_rules_18 (hR : Run L d 261 [vR c0, vI s1, vI s2, vI s3, vI s4] σ r σ1) (h : gK c0 = 12) : Wp L (d + 1) k_M_rules 18 [l0, l1, l2, l3, l4] [vI s4, vI s3, vI s2, vI s1, vR c0] σ Q ↔ Wp L (d + 1) k_M_rules 21 [l0, l1, l2, l3, l4] (r.toList ++ []) σ1 Q := wp_callR (as := [vR c0, vI s1, vI s2, vI s3, vI s4]) (rest := []) rfl rfl rfl rfl rfl rfl rfl (grecv_k (by rw [h]) rfl) hR
theorem r_M_rules_21 : Wp L d k_M_rules 21 [l0, l1, l2, l3, l4] [vI s0] σ Q ↔ Wp L d k_M_rules 26 [l0, l1, l2, l3, l4] [vI s0] σ Q := wp_goto rfl
theorem r_M_rules_24 : Wp L d k_M_rules 24 [l0, l1, l2, l3, l4] [] σ Q ↔ Wp L d k_M_rules 26 [l0, l1, l2, l3, l4] [vI (-1000000001)] σ Q := wp_push rfl
theorem r_M_rules_26 : Wp L d k_M_rules 26 [l0, l1, l2, l3, l4] [vI s0] σ Q ↔ Q (some (vI s0)) σ := wp_iret rfl
theorem r_M_rules_6 : Wp L (d + 3) k_M_rules 6 [l0, l1, l2, l3, l4] [vL s2, vL s1, vL s0] σ Q ↔ Wp L (d + 3) k_M_rules 9 [l0, l1, l2, l3, l4] [vI (gb (s1 ≤ s0 ∧ s0 ≤ s2))] σ Q := wp_callR (d := d + 2) (as := [vL s0, vL s1, vL s2]) (rest := []) rfl rfl rfl rfl rfl rfl rfl rfl (sp_M_isIn)
theorem sp_M_rules_b (h : ¬ (0 ≤ a1 ∧ a1 ≤ 3)) : Run L (d + 3) 260 [vR 293, vI a1, vI a2, vI a3, vI a4] σ (some (vI (-1000000001))) σ := by
  refine Run_of (C' := k_M_rules) rfl ?_
  show Wp L (d + 3) k_M_rules 0 [vR 293, vI a1, vI a2, vI a3, vI a4] [] σ _
  obtain ⟨K293, Q293, K294, N294⟩ := litM
  simp (disch := first | assumption | exact gb_01 _ | omega) only [r_M_rules_0, r_M_rules_1, r_M_rules_2, r_M_rules_3, r_M_rules_6, r_M_rules_9, r_M_rules_12, r_M_rules_13, r_M_rules_14, r_M_rules_15, r_M_rules_16, r_M_rules_21, r_M_rules_24, r_M_rules_26, Q293, w32_gb, w32i, tn_add, tn_mul, Int.toNat_natCast, Int.toNat_zero, Int.reduceLE, Int.reduceLT, Int.reduceEq, Int.reduceNe, gb_T, gb_F, Int.reduceToNat, eq_self, true_or, or_true, and_true, true_and, and_self, ↓ite_gb0, ↓ite_gbn, ↓if_pos, ↓if_neg, if_true, if_false, not_true_eq_false, not_false_eq_true, gb_ne0, gb_eq0]
theorem sp_X_rules {f : Nat → Int} (hw : WT f) (hc : CT 78 f σ) (hm : σ 28 7 = f 7) (h : 0 ≤ a1 ∧ a1 ≤ 3) : ∃ σ', Run L (d + 4) 44 [vR 27, vI a1, vI a2, vI a3, vI a4] σ (some (vI (brrl f a1 a2 a3 a4))) σ' ∧ Agr σ σ' (fun k _ => k = 96) := by
  refine Run_ex (C' := k_X_rules) rfl ?_
  show Wp L (d + 4) k_X_rules 0 [vR 27, vI a1, vI a2, vI a3, vI a4] [] σ _
  obtain ⟨K27, K28, K29, K78, K97, K99, K109, K123, K125, K279, K282⟩ := litX
  obtain ⟨τ, hR, hA⟩ := sp_S_ruleOf (L := L) (d := d + 0) (a1 := a1) (a2 := a2) (a3 := a3) (a4 := a4) hw hc hm
  simp (disch := first | assumption | exact gb_01 _ | omega) only [r_X_rules_0, r_X_rules_1, r_X_rules_4, r_X_rules_7, r_X_rules_8, r_X_rules_11, r_X_rules_12, r_X_rules_13, r_X_rules_14, r_X_rules_19, r_X_rules_22, r_X_rules_24, c_X_rules_16 hR, Option.toList, List.singleton_append, List.cons_append, List.nil_append, List.append_nil, gq_27_0, gq_27_1, gq_27_2, gq_27_3, gq_27_4, gq_27_5, gq_27_6, gq_28_0, gq_28_1, gq_28_2, gq_28_3, gq_28_4, gq_28_5, gq_28_6, w32_gb, w32i, tn_add, tn_mul, Int.toNat_natCast, Int.toNat_zero, Int.reduceLE, Int.reduceLT, Int.reduceEq, Int.reduceNe, gb_T, gb_F, Int.reduceToNat, eq_self, true_or, or_true, and_true, true_and, and_self, ↓ite_gb0, ↓ite_gbn, ↓if_pos, ↓if_neg, if_true, if_false, not_true_eq_false, not_false_eq_true, gb_ne0, gb_eq0]
  exact hA
theorem sp_M_rules (hw : WT (σ 294)) (h : 0 ≤ a1 ∧ a1 ≤ 3) : ∃ σ', Run L (d + 3) 260 [vR 293, vI a1, vI a2, vI a3, vI a4] σ (some (vI (brrl (σ 294) a1 a2 a3 a4))) σ' ∧ Agr σ σ' (fun k _ => k = 302 ∨ k = 303) := by
  refine Run_ex (C' := k_M_rules) rfl ?_
  show Wp L (d + 3) k_M_rules 0 [vR 293, vI a1, vI a2, vI a3, vI a4] [] σ _
  obtain ⟨K293, Q293, K294, N294⟩ := litM
  obtain ⟨τ, hR, hA⟩ := sp_M_ruleOf (L := L) (d := d + 0) (a1 := a1) (a2 := a2) (a3 := a3) (a4 := a4) hw h
  simp (disch := first | assumption | exact gb_01 _ | omega) only [r_M_rules_0, r_M_rules_1, r_M_rules_2, r_M_rules_3, r_M_rules_6, r_M_rules_9, r_M_rules_12, r_M_rules_13, r_M_rules_14, r_M_rules_15, r_M_rules_16, r_M_rules_21, r_M_rules_24, r_M_rules_26, c_M_rules_18 hR, Option.toList, List.singleton_append, List.cons_append, List.nil_append, List.append_nil, Q293, w32_gb, w32i, tn_add, tn_mul, Int.toNat_natCast, Int.toNat_zero, Int.reduceLE, Int.reduceLT, Int.reduceEq, Int.reduceNe, gb_T, gb_F, Int.reduceToNat, eq_self, true_or, or_true, and_true, true_and, and_self, ↓ite_gb0, ↓ite_gbn, ↓if_pos, ↓if_neg, if_true, if_false, not_true_eq_false, not_false_eq_true, gb_ne0, gb_eq0]
  exact hA
theorem op_rules (a1 a2 a3 a4 : Int) : Op 44 260 [vI a1, vI a2, vI a3, vI a4] := by
  intro L d σ hI
  obtain ⟨hw, hc⟩ := iT hI
  have w1 := hw.1
  have c1 := hc.1
  have hn : w32 (σ 78 6 - 1) = σ 78 6 - 1 := w32i (by omega)
  have hm : w32 (σ 294 2 - 1) = σ 294 2 - 1 := w32i (by omega)
  have hM := (iM hI).2.1
  
  by_cases h : 0 ≤ a1 ∧ a1 ≤ 3
  · obtain ⟨σ1, hR1, hA1⟩ := sp_X_rules (L := L) (d := d + 996) (a1 := a1) (a2 := a2) (a3 := a3) (a4 := a4) hw hc hM h
    have e : σ1 294 = σ 294 := funext (fun j => hA1 294 j (by omega))
    obtain ⟨σ2, hR2, hA2⟩ := sp_M_rules (L := L) (d := d + 997) (σ := σ1) (a1 := a1) (a2 := a2) (a3 := a3) (a4 := a4) (by rw [e]; exact hw) h
    rw [e] at hR2
    exact ⟨_, _, _, hR1, hR2, Inv_free hI (Agr_trans (Agr_mono hA1 (fun k j hk => by unfold ZFr; omega)) (Agr_mono hA2 (fun k j hk => by unfold ZFr; omega)))⟩
  · exact ⟨_, _, _, sp_X_rules_b h, sp_M_rules_b h, hI⟩
theorem r_X_fast_0 : Wp L d k_X_fast 0 [l0, vI a1, l2] [] σ Q ↔ Wp L d k_X_fast 1 [l0, vI a1, l2] [vI a1] σ Q := wp_iload rfl rfl
theorem r_X_fast_1 : Wp L d k_X_fast 1 [l0, l1, l2] [vI s0] σ Q ↔ Wp L d k_X_fast 2 [l0, l1, l2] [vI 0, vI s0] σ Q := wp_push rfl
theorem r_X_fast_2 : Wp L d k_X_fast 2 [l0, l1, l2] [vI s1, vI s0] σ Q ↔ Wp L d k_X_fast 5 [l0, l1, l2] [vI 999, vI s1, vI s0] σ Q := wp_push rfl
theorem r_X_fast_8 : Wp L d k_X_fast 8 [l0, l1, l2] [vI s0] σ Q ↔ (if s0 = 0 then Wp L d k_X_fast 18 [l0, l1, l2] [] σ Q else Wp L d k_X_fast 11 [l0, l1, l2] [] σ Q) := wp_if_eq rfl
theorem r_X_fast_11 : Wp L d k_X_fast 11 [l0, l1, vI a2] [] σ Q ↔ Wp L d k_X_fast 12 [l0, l1, vI a2] [vI a2] σ Q := wp_iload rfl rfl
theorem r_X_fast_15 : Wp L d k_X_fast 15 [l0, l1, l2] [vI s0] σ Q ↔ (if s0 ≠ 0 then Wp L d k_X_fast 21 [l0, l1, l2] [] σ Q else Wp L d k_X_fast 18 [l0, l1, l2] [] σ Q) := wp_if_ne rfl
theorem r_X_fast_18 : Wp L d k_X_fast 18 [l0, l1, l2] [] σ Q ↔ Wp L d k_X_fast 20 [l0, l1, l2] [vI (-1000000001)] σ Q := wp_push rfl
theorem r_X_fast_20 : Wp L d k_X_fast 20 [l0, l1, l2] [vI s0] σ Q ↔ Q (some (vI s0)) σ := wp_iret rfl
theorem r_X_fast_21 : Wp L d k_X_fast 21 [l0, vI a1, l2] [] σ Q ↔ Wp L d k_X_fast 22 [l0, vI a1, l2] [vI a1] σ Q := wp_iload rfl rfl
theorem r_X_fast_22 : Wp L d k_X_fast 22 [vR b0, l1, l2] [vI s0] σ Q ↔ Wp L d k_X_fast 23 [vR b0, l1, l2] [vR b0, vI s0] σ Q := wp_aload rfl rfl
theorem r_X_fast_23 (h : gK c1 = 0) : Wp L d k_X_fast 23 [l0, l1, l2] [vR c1, vI s0] σ Q ↔ Wp L d k_X_fast 26 [l0, l1, l2] [vR (gq c1 0), vI s0] σ Q := wp_getR (c := 128) rfl rfl rfl rfl rfl h
theorem r_X_fast_26 : Wp L d k_X_fast 26 [l0, l1, l2] [vR c1, vI s0] σ Q ↔ Wp L d k_X_fast 27 [l0, l1, l2] [vI 1, vR c1, vI s0] σ Q := wp_push rfl
theorem r_X_fast_27 : Wp L d k_X_fast 27 [vR b0, l1, l2] [vI s2, vR c1, vI s0] σ Q ↔ Wp L d k_X_fast 28 [vR b0, l1, l2] [vR b0, vI s2, vR c1, vI s0] σ Q := wp_aload rfl rfl
theorem r_X_fast_28 (h : gK c3 = 0) : Wp L d k_X_fast 28 [l0, l1, l2] [vR c3, vI s2, vR c1, vI s0] σ Q ↔ Wp L d k_X_fast 31 [l0, l1, l2] [vR (gq c3 1), vI s2, vR c1, vI s0] σ Q := wp_getR (c := 129) rfl rfl rfl rfl rfl h
theorem r_X_fast_31 (h : gK c3 = 1) : Wp L d k_X_fast 31 [l0, l1, l2] [vR c3, vI s2, vR c1, vI s0] σ Q ↔ Wp L d k_X_fast 34 [l0, l1, l2] [vI (σ c3 10), vI s2, vR c1, vI s0] σ Q := wp_getI (c := 266) rfl rfl rfl rfl h
theorem r_X_fast_34 : Wp L d k_X_fast 34 [l0, l1, vI a2] [vI s3, vI s2, vR c1, vI s0] σ Q ↔ Wp L d k_X_fast 35 [l0, l1, vI a2] [vI a2, vI s3, vI s2, vR c1, vI s0] σ Q := wp_iload rfl rfl
theorem r_X_fast_35 : Wp L d k_X_fast 35 [l0, l1, l2] [vI s4, vI s3, vI s2, vR c1, vI s0] σ Q ↔ Wp L d k_X_fast 36 [l0, l1, l2] [vI 0, vI s4, vI s3, vI s2, vR c1, vI s0] σ Q := wp_push rfl
theorem c_X_fast_36 (hR : Run L d 135 [vR c1, vI s2, vI s3, vI s4, vI s5] σ r σ1) (h : gK c1 = 5) : Wp L (d + 1) k_X_fast 36 [l0, l1, l2] [vI s5, vI s4, vI s3, vI s2, vR c1, vI s0] σ Q ↔ Wp L (d + 1) k_X_fast 39 [l0, l1, l2] (r.toList ++ [vI s0]) σ1 Q := wp_callR (as := [vR c1, vI s2, vI s3, vI s4, vI s5]) (rest := [vI s0]) rfl rfl rfl rfl rfl rfl rfl (grecv_k (by rw [h]) rfl) hR
theorem r_X_fast_39 : Wp L d k_X_fast 39 [l0, l1, l2] [vI s1, vI s0] σ Q ↔ (if s0 ≤ s1 then Wp L d k_X_fast 46 [l0, l1, l2] [] σ Q else Wp L d k_X_fast 42 [l0, l1, l2] [] σ Q) := wp_cmp_le rfl
theorem r_X_fast_42 : Wp L d k_X_fast 42 [l0, l1, l2] [] σ Q ↔ Wp L d k_X_fast 43 [l0, l1, l2] [vI 1] σ Q := wp_push rfl
theorem r_X_fast_43 : Wp L d k_X_fast 43 [l0, l1, l2] [vI s0] σ Q ↔ Wp L d k_X_fast 47 [l0, l1, l2] [vI s0] σ Q := wp_goto rfl
theorem r_X_fast_46 : Wp L d k_X_fast 46 [l0, l1, l2] [] σ Q ↔ Wp L d k_X_fast 47 [l0, l1, l2] [vI 0] σ Q := wp_push rfl
theorem r_X_fast_50 : Wp L d k_X_fast 50 [l0, l1, l2] [vI s0] σ Q ↔ Q (some (vI s0)) σ := wp_iret rfl
theorem r_X_fast_5 : Wp L (d + 4) k_X_fast 5 [l0, l1, l2] [vI s2, vI s1, vI s0] σ Q ↔ Wp L (d + 4) k_X_fast 8 [l0, l1, l2] [vI (gb (s1 ≤ s0 ∧ s0 ≤ s2))] σ Q := wp_callR (d := d + 3) (as := [vI s0, vI s1, vI s2]) (rest := []) rfl rfl rfl rfl rfl rfl rfl rfl (sp_X_within)
theorem r_X_fast_12 : Wp L (d + 4) k_X_fast 12 [l0, l1, l2] [vI s0] σ Q ↔ Wp L (d + 4) k_X_fast 15 [l0, l1, l2] [vI (gb (0 ≤ s0 ∧ s0 ≤ 99))] σ Q := wp_callR (d := d + 3) (as := [vI s0]) (rest := []) rfl rfl rfl rfl rfl rfl rfl rfl (sp_X_isGust)
theorem r_X_fast_47 : Wp L (d + 4) k_X_fast 47 [l0, l1, l2] [vI s0] σ Q ↔ Wp L (d + 4) k_X_fast 50 [l0, l1, l2] [vI (gb (s0 ≠ 0))] σ Q := wp_callR (d := d + 3) (as := [vI s0]) (rest := []) rfl rfl rfl rfl rfl rfl rfl rfl (sp_X_bit)
theorem sp_X_fast_b (h : ¬ ((0 ≤ a1 ∧ a1 ≤ 999) ∧ 0 ≤ a2 ∧ a2 ≤ 99)) : Run L (d + 4) 54 [vR 27, vI a1, vI a2] σ (some (vI (-1000000001))) σ := by
  refine Run_of (C' := k_X_fast) rfl ?_
  show Wp L (d + 4) k_X_fast 0 [vR 27, vI a1, vI a2] [] σ _
  obtain ⟨K27, K28, K29, K78, K97, K99, K109, K123, K125, K279, K282⟩ := litX
  by_cases e : 0 ≤ a1 ∧ a1 ≤ 999
  · simp (disch := first | assumption | exact gb_01 _ | omega) only [r_X_fast_0, r_X_fast_1, r_X_fast_2, r_X_fast_5, r_X_fast_8, r_X_fast_11, r_X_fast_12, r_X_fast_15, r_X_fast_18, r_X_fast_20, gq_27_0, gq_27_1, gq_27_2, gq_27_3, gq_27_4, gq_27_5, gq_27_6, gq_28_0, gq_28_1, gq_28_2, gq_28_3, gq_28_4, gq_28_5, gq_28_6, w32_gb, w32i, tn_add, tn_mul, Int.toNat_natCast, Int.toNat_zero, Int.reduceLE, Int.reduceLT, Int.reduceEq, Int.reduceNe, gb_T, gb_F, Int.reduceToNat, eq_self, true_or, or_true, and_true, true_and, and_self, ↓ite_gb0, ↓ite_gbn, ↓if_pos, ↓if_neg, if_true, if_false, not_true_eq_false, not_false_eq_true, gb_ne0, gb_eq0]
  · simp (disch := first | assumption | exact gb_01 _ | omega) only [r_X_fast_0, r_X_fast_1, r_X_fast_2, r_X_fast_5, r_X_fast_8, r_X_fast_11, r_X_fast_12, r_X_fast_15, r_X_fast_18, r_X_fast_20, gq_27_0, gq_27_1, gq_27_2, gq_27_3, gq_27_4, gq_27_5, gq_27_6, gq_28_0, gq_28_1, gq_28_2, gq_28_3, gq_28_4, gq_28_5, gq_28_6, w32_gb, w32i, tn_add, tn_mul, Int.toNat_natCast, Int.toNat_zero, Int.reduceLE, Int.reduceLT, Int.reduceEq, Int.reduceNe, gb_T, gb_F, Int.reduceToNat, eq_self, true_or, or_true, and_true, true_and, and_self, ↓ite_gb0, ↓ite_gbn, ↓if_pos, ↓if_neg, if_true, if_false, not_true_eq_false, not_false_eq_true, gb_ne0, gb_eq0]
theorem r_M_fast_0 : Wp L d k_M_fast 0 [l0, vI a1, l2] [] σ Q ↔ Wp L d k_M_fast 1 [l0, vI a1, l2] [vI a1] σ Q := wp_iload rfl rfl
theorem r_M_fast_1 : Wp L d k_M_fast 1 [l0, l1, l2] [vI s0] σ Q ↔ Wp L d k_M_fast 2 [l0, l1, l2] [vL s0] σ Q := wp_i2l rfl
theorem r_M_fast_2 : Wp L d k_M_fast 2 [l0, l1, l2] [vL s0] σ Q ↔ Wp L d k_M_fast 3 [l0, l1, l2] [vL 0, vL s0] σ Q := wp_pushL rfl
theorem r_M_fast_3 : Wp L d k_M_fast 3 [l0, l1, l2] [vL s1, vL s0] σ Q ↔ Wp L d k_M_fast 6 [l0, l1, l2] [vL 999, vL s1, vL s0] σ Q := wp_pushL rfl
theorem r_M_fast_9 : Wp L d k_M_fast 9 [l0, l1, l2] [vI s0] σ Q ↔ (if s0 = 0 then Wp L d k_M_fast 19 [l0, l1, l2] [] σ Q else Wp L d k_M_fast 12 [l0, l1, l2] [] σ Q) := wp_if_eq rfl
theorem r_M_fast_12 : Wp L d k_M_fast 12 [l0, l1, vI a2] [] σ Q ↔ Wp L d k_M_fast 13 [l0, l1, vI a2] [vI a2] σ Q := wp_iload rfl rfl
theorem r_M_fast_16 : Wp L d k_M_fast 16 [l0, l1, l2] [vI s0] σ Q ↔ (if s0 ≠ 0 then Wp L d k_M_fast 22 [l0, l1, l2] [] σ Q else Wp L d k_M_fast 19 [l0, l1, l2] [] σ Q) := wp_if_ne rfl
theorem r_M_fast_19 : Wp L d k_M_fast 19 [l0, l1, l2] [] σ Q ↔ Wp L d k_M_fast 21 [l0, l1, l2] [vI (-1000000001)] σ Q := wp_push rfl
theorem r_M_fast_21 : Wp L d k_M_fast 21 [l0, l1, l2] [vI s0] σ Q ↔ Q (some (vI s0)) σ := wp_iret rfl
theorem r_M_fast_22 : Wp L d k_M_fast 22 [l0, vI a1, l2] [] σ Q ↔ Wp L d k_M_fast 23 [l0, vI a1, l2] [vI a1] σ Q := wp_iload rfl rfl
theorem r_M_fast_23 : Wp L d k_M_fast 23 [vR b0, l1, l2] [vI s0] σ Q ↔ Wp L d k_M_fast 24 [vR b0, l1, l2] [vR b0, vI s0] σ Q := wp_aload rfl rfl
theorem r_M_fast_24 : Wp L d k_M_fast 24 [l0, l1, l2] [vR c1, vI s0] σ Q ↔ Wp L d k_M_fast 25 [l0, l1, l2] [vI 1, vR c1, vI s0] σ Q := wp_push rfl
theorem r_M_fast_25 : Wp L d k_M_fast 25 [vR b0, l1, l2] [vI s2, vR c1, vI s0] σ Q ↔ Wp L d k_M_fast 26 [vR b0, l1, l2] [vR b0, vI s2, vR c1, vI s0] σ Q := wp_aload rfl rfl
theorem r_M_fast_26 (h : gK c3 = 12) : Wp L d k_M_fast 26 [l0, l1, l2] [vR c3, vI s2, vR c1, vI s0] σ Q ↔ Wp L d k_M_fast 29 [l0, l1, l2] [vR (gq c3 0), vI s2, vR c1, vI s0] σ Q := wp_getR (c := 3200) rfl rfl rfl rfl rfl h
theorem r_M_fast_29 : Wp L d k_M_fast 29 [l0, l1, l2] [vR c3, vI s2, vR c1, vI s0] σ Q ↔ Wp L d k_M_fast 31 [l0, l1, l2] [vI 9, vR c3, vI s2, vR c1, vI s0] σ Q := wp_push rfl
theorem r_M_fast_31 (h : gK c3 = 100) (hx : 0 ≤ s4 ∧ s4 < gN c3) : Wp L d k_M_fast 31 [l0, l1, l2] [vI s4, vR c3, vI s2, vR c1, vI s0] σ Q ↔ Wp L d k_M_fast 32 [l0, l1, l2] [vI (σ c3 s4.toNat), vI s2, vR c1, vI s0] σ Q := wp_iald rfl h hx
theorem r_M_fast_32 : Wp L d k_M_fast 32 [l0, l1, vI a2] [vI s3, vI s2, vR c1, vI s0] σ Q ↔ Wp L d k_M_fast 33 [l0, l1, vI a2] [vI a2, vI s3, vI s2, vR c1, vI s0] σ Q := wp_iload rfl rfl
theorem r_M_fast_33 : Wp L d k_M_fast 33 [l0, l1, l2] [vI s4, vI s3, vI s2, vR c1, vI s0] σ Q ↔ Wp L d k_M_fast 34 [l0, l1, l2] [vI 0, vI s4, vI s3, vI s2, vR c1, vI s0] σ Q := wp_push rfl
theorem c_M_fast_34 (hR : Run L d 261 [vR c1, vI s2, vI s3, vI s4, vI s5] σ r σ1) (h : gK c1 = 12) : Wp L (d + 1) k_M_fast 34 [l0, l1, l2] [vI s5, vI s4, vI s3, vI s2, vR c1, vI s0] σ Q ↔ Wp L (d + 1) k_M_fast 37 [l0, l1, l2] (r.toList ++ [vI s0]) σ1 Q := wp_callR (as := [vR c1, vI s2, vI s3, vI s4, vI s5]) (rest := [vI s0]) rfl rfl rfl rfl rfl rfl rfl (grecv_k (by rw [h]) rfl) hR
theorem r_M_fast_37 : Wp L d k_M_fast 37 [l0, l1, l2] [vI s1, vI s0] σ Q ↔ (if s0 ≤ s1 then Wp L d k_M_fast 44 [l0, l1, l2] [] σ Q else Wp L d k_M_fast 40 [l0, l1, l2] [] σ Q) := wp_cmp_le rfl
theorem r_M_fast_40 : Wp L d k_M_fast 40 [l0, l1, l2] [] σ Q ↔ Wp L d k_M_fast 41 [l0, l1, l2] [vI 1] σ Q := wp_push rfl
theorem r_M_fast_41 : Wp L d k_M_fast 41 [l0, l1, l2] [vI s0] σ Q ↔ Wp L d k_M_fast 45 [l0, l1, l2] [vI s0] σ Q := wp_goto rfl
theorem r_M_fast_44 : Wp L d k_M_fast 44 [l0, l1, l2] [] σ Q ↔ Wp L d k_M_fast 45 [l0, l1, l2] [vI 0] σ Q := wp_push rfl
theorem r_M_fast_45 : Wp L d k_M_fast 45 [l0, l1, l2] [vI s0] σ Q ↔ Q (some (vI s0)) σ := wp_iret rfl
theorem r_M_fast_6 : Wp L (d + 3) k_M_fast 6 [l0, l1, l2] [vL s2, vL s1, vL s0] σ Q ↔ Wp L (d + 3) k_M_fast 9 [l0, l1, l2] [vI (gb (s1 ≤ s0 ∧ s0 ≤ s2))] σ Q := wp_callR (d := d + 2) (as := [vL s0, vL s1, vL s2]) (rest := []) rfl rfl rfl rfl rfl rfl rfl rfl (sp_M_isIn)
theorem r_M_fast_13 : Wp L (d + 3) k_M_fast 13 [l0, l1, l2] [vI s0] σ Q ↔ Wp L (d + 3) k_M_fast 16 [l0, l1, l2] [vI (gb (0 ≤ s0 ∧ s0 ≤ 99))] σ Q := wp_callR (d := d + 2) (as := [vI s0]) (rest := []) rfl rfl rfl rfl rfl rfl rfl rfl (sp_M_isGust)
theorem sp_M_fast_b (h : ¬ ((0 ≤ a1 ∧ a1 ≤ 999) ∧ 0 ≤ a2 ∧ a2 ≤ 99)) : Run L (d + 3) 276 [vR 293, vI a1, vI a2] σ (some (vI (-1000000001))) σ := by
  refine Run_of (C' := k_M_fast) rfl ?_
  show Wp L (d + 3) k_M_fast 0 [vR 293, vI a1, vI a2] [] σ _
  obtain ⟨K293, Q293, K294, N294⟩ := litM
  by_cases e : 0 ≤ a1 ∧ a1 ≤ 999
  · simp (disch := first | assumption | exact gb_01 _ | omega) only [r_M_fast_0, r_M_fast_1, r_M_fast_2, r_M_fast_3, r_M_fast_6, r_M_fast_9, r_M_fast_12, r_M_fast_13, r_M_fast_16, r_M_fast_19, r_M_fast_21, Q293, w32_gb, w32i, tn_add, tn_mul, Int.toNat_natCast, Int.toNat_zero, Int.reduceLE, Int.reduceLT, Int.reduceEq, Int.reduceNe, gb_T, gb_F, Int.reduceToNat, eq_self, true_or, or_true, and_true, true_and, and_self, ↓ite_gb0, ↓ite_gbn, ↓if_pos, ↓if_neg, if_true, if_false, not_true_eq_false, not_false_eq_true, gb_ne0, gb_eq0]
  · simp (disch := first | assumption | exact gb_01 _ | omega) only [r_M_fast_0, r_M_fast_1, r_M_fast_2, r_M_fast_3, r_M_fast_6, r_M_fast_9, r_M_fast_12, r_M_fast_13, r_M_fast_16, r_M_fast_19, r_M_fast_21, Q293, w32_gb, w32i, tn_add, tn_mul, Int.toNat_natCast, Int.toNat_zero, Int.reduceLE, Int.reduceLT, Int.reduceEq, Int.reduceNe, gb_T, gb_F, Int.reduceToNat, eq_self, true_or, or_true, and_true, true_and, and_self, ↓ite_gb0, ↓ite_gbn, ↓if_pos, ↓if_neg, if_true, if_false, not_true_eq_false, not_false_eq_true, gb_ne0, gb_eq0]
theorem sp_X_fast {f : Nat → Int} (hw : WT f) (hc : CT 78 f σ) (hm : σ 28 7 = f 7) (h9 : σ 29 10 = f 9) (h : (0 ≤ a1 ∧ a1 ≤ 999) ∧ 0 ≤ a2 ∧ a2 ≤ 99) : ∃ σ', Run L (d + 4) 54 [vR 27, vI a1, vI a2] σ (some (vI (gb (brrl f 1 (f 9) a2 0 < a1)))) σ' ∧ Agr σ σ' (fun k _ => k = 96) := by
  refine Run_ex (C' := k_X_fast) rfl ?_
  show Wp L (d + 4) k_X_fast 0 [vR 27, vI a1, vI a2] [] σ _
  obtain ⟨K27, K28, K29, K78, K97, K99, K109, K123, K125, K279, K282⟩ := litX
  obtain ⟨τ, hR, hA⟩ := sp_S_ruleOf (L := L) (d := d + 0) (a1 := 1) (a2 := f 9) (a3 := a2) (a4 := 0) hw hc hm
  by_cases e : brrl f 1 (f 9) a2 0 < a1
  · rw [gb_t e]
    simp (disch := first | assumption | exact gb_01 _ | omega) only [r_X_fast_0, r_X_fast_1, r_X_fast_2, r_X_fast_5, r_X_fast_8, r_X_fast_11, r_X_fast_12, r_X_fast_15, r_X_fast_18, r_X_fast_20, r_X_fast_21, r_X_fast_22, r_X_fast_23, r_X_fast_26, r_X_fast_27, r_X_fast_28, r_X_fast_31, r_X_fast_34, r_X_fast_35, r_X_fast_39, r_X_fast_42, r_X_fast_43, r_X_fast_46, r_X_fast_47, r_X_fast_50, c_X_fast_36 hR, Option.toList, List.singleton_append, List.cons_append, List.nil_append, List.append_nil, gq_27_0, gq_27_1, gq_27_2, gq_27_3, gq_27_4, gq_27_5, gq_27_6, gq_28_0, gq_28_1, gq_28_2, gq_28_3, gq_28_4, gq_28_5, gq_28_6, h9, w32_gb, w32i, tn_add, tn_mul, Int.toNat_natCast, Int.toNat_zero, Int.reduceLE, Int.reduceLT, Int.reduceEq, Int.reduceNe, gb_T, gb_F, Int.reduceToNat, eq_self, true_or, or_true, and_true, true_and, and_self, ↓ite_gb0, ↓ite_gbn, ↓if_pos, ↓if_neg, if_true, if_false, not_true_eq_false, not_false_eq_true, gb_ne0, gb_eq0]
    exact hA
  · rw [gb_f e]
    simp (disch := first | assumption | exact gb_01 _ | omega) only [r_X_fast_0, r_X_fast_1, r_X_fast_2, r_X_fast_5, r_X_fast_8, r_X_fast_11, r_X_fast_12, r_X_fast_15, r_X_fast_18, r_X_fast_20, r_X_fast_21, r_X_fast_22, r_X_fast_23, r_X_fast_26, r_X_fast_27, r_X_fast_28, r_X_fast_31, r_X_fast_34, r_X_fast_35, r_X_fast_39, r_X_fast_42, r_X_fast_43, r_X_fast_46, r_X_fast_47, r_X_fast_50, c_X_fast_36 hR, Option.toList, List.singleton_append, List.cons_append, List.nil_append, List.append_nil, gq_27_0, gq_27_1, gq_27_2, gq_27_3, gq_27_4, gq_27_5, gq_27_6, gq_28_0, gq_28_1, gq_28_2, gq_28_3, gq_28_4, gq_28_5, gq_28_6, h9, w32_gb, w32i, tn_add, tn_mul, Int.toNat_natCast, Int.toNat_zero, Int.reduceLE, Int.reduceLT, Int.reduceEq, Int.reduceNe, gb_T, gb_F, Int.reduceToNat, eq_self, true_or, or_true, and_true, true_and, and_self, ↓ite_gb0, ↓ite_gbn, ↓if_pos, ↓if_neg, if_true, if_false, not_true_eq_false, not_false_eq_true, gb_ne0, gb_eq0]
    exact hA
theorem sp_M_fast (hw : WT (σ 294)) (h : (0 ≤ a1 ∧ a1 ≤ 999) ∧ 0 ≤ a2 ∧ a2 ≤ 99) : ∃ σ', Run L (d + 3) 276 [vR 293, vI a1, vI a2] σ (some (vI (gb (brrl (σ 294) 1 (σ 294 9) a2 0 < a1)))) σ' ∧ Agr σ σ' (fun k _ => k = 302 ∨ k = 303) := by
  refine Run_ex (C' := k_M_fast) rfl ?_
  show Wp L (d + 3) k_M_fast 0 [vR 293, vI a1, vI a2] [] σ _
  obtain ⟨K293, Q293, K294, N294⟩ := litM
  obtain ⟨τ, hR, hA⟩ := sp_M_ruleOf (L := L) (d := d + 0) (a1 := 1) (a2 := σ 294 9) (a3 := a2) (a4 := 0) hw (by omega)
  by_cases e : brrl (σ 294) 1 (σ 294 9) a2 0 < a1
  · rw [gb_t e]
    simp (disch := first | assumption | exact gb_01 _ | omega) only [r_M_fast_0, r_M_fast_1, r_M_fast_2, r_M_fast_3, r_M_fast_6, r_M_fast_9, r_M_fast_12, r_M_fast_13, r_M_fast_16, r_M_fast_19, r_M_fast_21, r_M_fast_22, r_M_fast_23, r_M_fast_24, r_M_fast_25, r_M_fast_26, r_M_fast_29, r_M_fast_31, r_M_fast_32, r_M_fast_33, r_M_fast_37, r_M_fast_40, r_M_fast_41, r_M_fast_44, r_M_fast_45, c_M_fast_34 hR, Option.toList, List.singleton_append, List.cons_append, List.nil_append, List.append_nil, Q293, w32_gb, w32i, tn_add, tn_mul, Int.toNat_natCast, Int.toNat_zero, Int.reduceLE, Int.reduceLT, Int.reduceEq, Int.reduceNe, gb_T, gb_F, Int.reduceToNat, eq_self, true_or, or_true, and_true, true_and, and_self, ↓ite_gb0, ↓ite_gbn, ↓if_pos, ↓if_neg, if_true, if_false, not_true_eq_false, not_false_eq_true, gb_ne0, gb_eq0]
    exact hA
  · rw [gb_f e]
    simp (disch := first | assumption | exact gb_01 _ | omega) only [r_M_fast_0, r_M_fast_1, r_M_fast_2, r_M_fast_3, r_M_fast_6, r_M_fast_9, r_M_fast_12, r_M_fast_13, r_M_fast_16, r_M_fast_19, r_M_fast_21, r_M_fast_22, r_M_fast_23, r_M_fast_24, r_M_fast_25, r_M_fast_26, r_M_fast_29, r_M_fast_31, r_M_fast_32, r_M_fast_33, r_M_fast_37, r_M_fast_40, r_M_fast_41, r_M_fast_44, r_M_fast_45, c_M_fast_34 hR, Option.toList, List.singleton_append, List.cons_append, List.nil_append, List.append_nil, Q293, w32_gb, w32i, tn_add, tn_mul, Int.toNat_natCast, Int.toNat_zero, Int.reduceLE, Int.reduceLT, Int.reduceEq, Int.reduceNe, gb_T, gb_F, Int.reduceToNat, eq_self, true_or, or_true, and_true, true_and, and_self, ↓ite_gb0, ↓ite_gbn, ↓if_pos, ↓if_neg, if_true, if_false, not_true_eq_false, not_false_eq_true, gb_ne0, gb_eq0]
    exact hA
theorem op_fast (a1 a2 : Int) : Op 54 276 [vI a1, vI a2] := by
  intro L d σ hI
  obtain ⟨hw, hc⟩ := iT hI
  have w1 := hw.1
  have c1 := hc.1
  have hn : w32 (σ 78 6 - 1) = σ 78 6 - 1 := w32i (by omega)
  have hm : w32 (σ 294 2 - 1) = σ 294 2 - 1 := w32i (by omega)
  have hM := (iM hI).2.1
  
  have h9 : σ 29 10 = σ 294 9 := (iB hI).2.2.2.2.2.1
  by_cases h : (0 ≤ a1 ∧ a1 ≤ 999) ∧ 0 ≤ a2 ∧ a2 ≤ 99
  · obtain ⟨σ1, hR1, hA1⟩ := sp_X_fast (L := L) (d := d + 996) (a1 := a1) (a2 := a2) hw hc hM h9 h
    have e : σ1 294 = σ 294 := funext (fun j => hA1 294 j (by omega))
    obtain ⟨σ2, hR2, hA2⟩ := sp_M_fast (L := L) (d := d + 997) (σ := σ1) (a1 := a1) (a2 := a2) (by rw [e]; exact hw) h
    rw [e] at hR2
    exact ⟨_, _, _, hR1, hR2, Inv_free hI (Agr_trans (Agr_mono hA1 (fun k j hk => by unfold ZFr; omega)) (Agr_mono hA2 (fun k j hk => by unfold ZFr; omega)))⟩
  · exact ⟨_, _, _, sp_X_fast_b h, sp_M_fast_b h, hI⟩
/-- any of the first n over at a pier -/
def bran (f : Nat → Int) (w r : Int) : Nat → Int
  | 0 => 0
  | k + 1 => if bran f w r k = 1 ∨ f (120 + 12 * k + 1) = r ∧ brov f w k then 1 else 0
theorem bran_01 (f : Nat → Int) (w r : Int) : ∀ k, bran f w r k = 0 ∨ bran f w r k = 1
  | 0 => Or.inl rfl
  | k + 1 => by
    unfold bran
    split
    · exact Or.inr rfl
    · exact Or.inl rfl
theorem bran_up {f : Nat → Int} {w r : Int} {k : Nat} (h : bran f w r k = 1) : ∀ m, bran f w r (k + m) = 1
  | 0 => h
  | m + 1 => by
    show (if bran f w r (k + m) = 1 ∨ _ then (1 : Int) else 0) = 1
    rw [if_pos (Or.inl (bran_up h m))]
theorem r_B_isAnyOver_0 : Wp L d k_B_isAnyOver 0 [vR b0, l1, l2, l3] [] σ Q ↔ Wp L d k_B_isAnyOver 1 [vR b0, l1, l2, l3] [vR b0] σ Q := wp_aload rfl rfl
theorem r_B_isAnyOver_1 : Wp L d k_B_isAnyOver 1 [l0, l1, vI a2, l3] [vR c0] σ Q ↔ Wp L d k_B_isAnyOver 2 [l0, l1, vI a2, l3] [vI a2, vR c0] σ Q := wp_iload rfl rfl
theorem c_B_isAnyOver_2 (hR : Run L d 97 [vR c0, vI s1] σ r σ1) (h : gK c0 = 1) : Wp L (d + 1) k_B_isAnyOver 2 [l0, l1, l2, l3] [vI s1, vR c0] σ Q ↔ Wp L (d + 1) k_B_isAnyOver 5 [l0, l1, l2, l3] (r.toList ++ []) σ1 Q := wp_callR (as := [vR c0, vI s1]) (rest := []) rfl rfl rfl rfl rfl rfl rfl (grecv_k (by rw [h]) rfl) hR
theorem r_B_isAnyOver_5 : Wp L d k_B_isAnyOver 5 [l0, l1, l2, l3] [] σ Q ↔ Wp L d k_B_isAnyOver 6 [l0, l1, l2, l3] [vI 0] σ Q := wp_push rfl
theorem r_B_isAnyOver_6 : Wp L d k_B_isAnyOver 6 [l0, l1, vI a2, l3] [vI s0] σ Q ↔ Wp L d k_B_isAnyOver 7 [l0, l1, vI a2, vI s0] [] σ Q := wp_istore (i := 3) (ls := [l0, l1, vI a2, l3]) rfl rfl
theorem r_B_isAnyOver_7 : Wp L d k_B_isAnyOver 7 [l0, l1, l2, vI a3] [] σ Q ↔ Wp L d k_B_isAnyOver 8 [l0, l1, l2, vI a3] [vI a3] σ Q := wp_iload rfl rfl
theorem r_B_isAnyOver_8 : Wp L d k_B_isAnyOver 8 [vR b0, l1, l2, l3] [vI s0] σ Q ↔ Wp L d k_B_isAnyOver 9 [vR b0, l1, l2, l3] [vR b0, vI s0] σ Q := wp_aload rfl rfl
theorem r_B_isAnyOver_9 (h : gK c1 = 1) : Wp L d k_B_isAnyOver 9 [l0, l1, l2, l3] [vR c1, vI s0] σ Q ↔ Wp L d k_B_isAnyOver 12 [l0, l1, l2, l3] [vI (σ c1 9), vI s0] σ Q := wp_getI (c := 265) rfl rfl rfl rfl h
theorem r_B_isAnyOver_12 : Wp L d k_B_isAnyOver 12 [l0, l1, l2, l3] [vI s1, vI s0] σ Q ↔ (if s1 ≤ s0 then Wp L d k_B_isAnyOver 49 [l0, l1, l2, l3] [] σ Q else Wp L d k_B_isAnyOver 15 [l0, l1, l2, l3] [] σ Q) := wp_cmp_ge rfl
theorem r_B_isAnyOver_15 : Wp L d k_B_isAnyOver 15 [vR b0, l1, l2, l3] [] σ Q ↔ Wp L d k_B_isAnyOver 16 [vR b0, l1, l2, l3] [vR b0] σ Q := wp_aload rfl rfl
theorem r_B_isAnyOver_16 (h : gK c0 = 1) : Wp L d k_B_isAnyOver 16 [l0, l1, l2, l3] [vR c0] σ Q ↔ Wp L d k_B_isAnyOver 19 [l0, l1, l2, l3] [vR (gq c0 3)] σ Q := wp_getR (c := 387) rfl rfl rfl rfl rfl h
theorem r_B_isAnyOver_19 : Wp L d k_B_isAnyOver 19 [l0, l1, l2, vI a3] [vR c0] σ Q ↔ Wp L d k_B_isAnyOver 20 [l0, l1, l2, vI a3] [vI a3, vR c0] σ Q := wp_iload rfl rfl
theorem r_B_isAnyOver_20 (h : gK c0 = 102 ∨ gK c0 = 103) (hx : 0 ≤ s1 ∧ s1 < gN c0) : Wp L d k_B_isAnyOver 20 [l0, l1, l2, l3] [vI s1, vR c0] σ Q ↔ Wp L d k_B_isAnyOver 21 [l0, l1, l2, l3] [vR (gq c0 s1.toNat)] σ Q := wp_aald rfl h hx
theorem r_B_isAnyOver_21 (h : gK c0 = 4) : Wp L d k_B_isAnyOver 21 [l0, l1, l2, l3] [vR c0] σ Q ↔ Wp L d k_B_isAnyOver 24 [l0, l1, l2, l3] [vI (σ c0 1)] σ Q := wp_getI (c := 1025) rfl rfl rfl rfl h
theorem r_B_isAnyOver_24 : Wp L d k_B_isAnyOver 24 [l0, vI a1, l2, l3] [vI s0] σ Q ↔ Wp L d k_B_isAnyOver 25 [l0, vI a1, l2, l3] [vI a1, vI s0] σ Q := wp_iload rfl rfl
theorem r_B_isAnyOver_25 : Wp L d k_B_isAnyOver 25 [l0, l1, l2, l3] [vI s1, vI s0] σ Q ↔ (if s0 ≠ s1 then Wp L d k_B_isAnyOver 43 [l0, l1, l2, l3] [] σ Q else Wp L d k_B_isAnyOver 28 [l0, l1, l2, l3] [] σ Q) := wp_cmp_ne rfl
theorem r_B_isAnyOver_28 : Wp L d k_B_isAnyOver 28 [vR b0, l1, l2, l3] [] σ Q ↔ Wp L d k_B_isAnyOver 29 [vR b0, l1, l2, l3] [vR b0] σ Q := wp_aload rfl rfl
theorem r_B_isAnyOver_29 : Wp L d k_B_isAnyOver 29 [vR b0, l1, l2, l3] [vR c0] σ Q ↔ Wp L d k_B_isAnyOver 30 [vR b0, l1, l2, l3] [vR b0, vR c0] σ Q := wp_aload rfl rfl
theorem r_B_isAnyOver_30 (h : gK c1 = 1) : Wp L d k_B_isAnyOver 30 [l0, l1, l2, l3] [vR c1, vR c0] σ Q ↔ Wp L d k_B_isAnyOver 33 [l0, l1, l2, l3] [vR (gq c1 3), vR c0] σ Q := wp_getR (c := 387) rfl rfl rfl rfl rfl h
theorem r_B_isAnyOver_33 : Wp L d k_B_isAnyOver 33 [l0, l1, l2, vI a3] [vR c1, vR c0] σ Q ↔ Wp L d k_B_isAnyOver 34 [l0, l1, l2, vI a3] [vI a3, vR c1, vR c0] σ Q := wp_iload rfl rfl
theorem r_B_isAnyOver_34 (h : gK c1 = 102 ∨ gK c1 = 103) (hx : 0 ≤ s2 ∧ s2 < gN c1) : Wp L d k_B_isAnyOver 34 [l0, l1, l2, l3] [vI s2, vR c1, vR c0] σ Q ↔ Wp L d k_B_isAnyOver 35 [l0, l1, l2, l3] [vR (gq c1 s2.toNat), vR c0] σ Q := wp_aald rfl h hx
theorem c_B_isAnyOver_35 (hR : Run L d 102 [vR c0, vR c1] σ r σ1) (h : gK c0 = 1) : Wp L (d + 1) k_B_isAnyOver 35 [l0, l1, l2, l3] [vR c1, vR c0] σ Q ↔ Wp L (d + 1) k_B_isAnyOver 38 [l0, l1, l2, l3] (r.toList ++ []) σ1 Q := wp_callR (as := [vR c0, vR c1]) (rest := []) rfl rfl rfl rfl rfl rfl rfl (grecv_k (by rw [h]) rfl) hR
theorem r_B_isAnyOver_38 : Wp L d k_B_isAnyOver 38 [l0, l1, l2, l3] [vI s0] σ Q ↔ (if s0 = 0 then Wp L d k_B_isAnyOver 43 [l0, l1, l2, l3] [] σ Q else Wp L d k_B_isAnyOver 41 [l0, l1, l2, l3] [] σ Q) := wp_if_eq rfl
theorem r_B_isAnyOver_41 : Wp L d k_B_isAnyOver 41 [l0, l1, l2, l3] [] σ Q ↔ Wp L d k_B_isAnyOver 42 [l0, l1, l2, l3] [vI 1] σ Q := wp_push rfl
theorem r_B_isAnyOver_42 (h : s0 = 0 ∨ s0 = 1) : Wp L d k_B_isAnyOver 42 [l0, l1, l2, l3] [vI s0] σ Q ↔ Q (some (vI s0)) σ := wp_zret rfl h
theorem r_B_isAnyOver_43 : Wp L d k_B_isAnyOver 43 [l0, l1, vI a2, vI a3] [] σ Q ↔ Wp L d k_B_isAnyOver 46 [l0, l1, vI a2, vI (w32 (a3 + 1))] [] σ Q := wp_iinc (i := 3) (ls := [l0, l1, vI a2, vI a3]) rfl rfl
theorem r_B_isAnyOver_46 : Wp L d k_B_isAnyOver 46 [l0, l1, l2, l3] [] σ Q ↔ Wp L d k_B_isAnyOver 7 [l0, l1, l2, l3] [] σ Q := wp_goto rfl
theorem r_B_isAnyOver_49 : Wp L d k_B_isAnyOver 49 [l0, l1, l2, l3] [] σ Q ↔ Wp L d k_B_isAnyOver 50 [l0, l1, l2, l3] [vI 0] σ Q := wp_push rfl
theorem r_B_isAnyOver_50 (h : s0 = 0 ∨ s0 = 1) : Wp L d k_B_isAnyOver 50 [l0, l1, l2, l3] [vI s0] σ Q ↔ Q (some (vI s0)) σ := wp_zret rfl h
theorem sp_B_isAnyOver {b : Nat} {f : Nat → Int}  (hB : BR b) (hw : WB f) (hc : CB b f σ) (h : 0 ≤ a2 ∧ a2 ≤ 99) : ∃ σ', Run L (d + 2) 114 [vR b, vI a1, vI a2] σ (some (vI (bran f a2 a1 (f 1).toNat))) σ' ∧ Agr σ σ' (ZSc b) := by
  refine Run_ex (C' := k_B_isAnyOver) rfl ?_
  show Wp L (d + 2) k_B_isAnyOver 0 [vR b, vI a1, vI a2, vU] [] σ _
  have hB0 := hB
  obtain ⟨τ, hR, hd, hA⟩ := sp_B_weighPiers (L := L) (d := d + 0) hB hw hc h
  obtain ⟨⟨K0, q0, q1, q2, q3, q4, q5, q6, q7⟩, ⟨K1, K2, K3, K4, K5, K6, K7, K8⟩, ⟨N1, N2, N3, N4, N5, N6, N7, N8⟩, QP, KP⟩ := hB
  have w2 := hw.2.1
  have hcτ := CB_sc hw hc hA
  have c2 := hcτ.2.1
  simp (disch := first | assumption | exact gb_01 _ | omega) only [r_B_isAnyOver_0, r_B_isAnyOver_1, r_B_isAnyOver_5, r_B_isAnyOver_6, r_B_isAnyOver_8, r_B_isAnyOver_9, r_B_isAnyOver_12, r_B_isAnyOver_15, r_B_isAnyOver_16, r_B_isAnyOver_19, r_B_isAnyOver_20, r_B_isAnyOver_21, r_B_isAnyOver_24, r_B_isAnyOver_25, r_B_isAnyOver_28, r_B_isAnyOver_29, r_B_isAnyOver_30, r_B_isAnyOver_33, r_B_isAnyOver_34, r_B_isAnyOver_38, r_B_isAnyOver_41, r_B_isAnyOver_42, r_B_isAnyOver_43, r_B_isAnyOver_46, r_B_isAnyOver_49, r_B_isAnyOver_50, c_B_isAnyOver_2 hR, Option.toList, List.singleton_append, List.cons_append, List.nil_append, List.append_nil, q0, q1, q2, q3, q4, q5, q6, q7, QP, w32_gb, w32i, tn_add, tn_mul, Int.toNat_natCast, Int.toNat_zero, Int.reduceLE, Int.reduceLT, Int.reduceEq, Int.reduceNe, gb_T, gb_F, Int.reduceToNat, eq_self, true_or, or_true, and_true, true_and, and_self, ↓ite_gb0, ↓ite_gbn, ↓if_pos, ↓if_neg, if_true, if_false, not_true_eq_false, not_false_eq_true, gb_ne0, gb_eq0]
  refine wloop (n := (f 1).toNat) (I := fun k ls ρ => ls = [vR b, vI a1, vI a2, vI (k : Int)] ∧ ρ = τ ∧ bran f a2 a1 k = 0) (fun k ls ρ hk hi hq => ?_) (fun ls ρ hi => ?_) (f 1).toNat 0 (by omega) _ _ ⟨rfl, rfl, rfl⟩
  · obtain ⟨rfl, rfl, hz⟩ := hi
    have kp := KP k (by omega)
    have q := CBp hcτ (p := k) (by omega)
    have hO := sp_B_isOver (L := L) (d := d + 0) (p := k) hB0 hw hcτ h hd (by omega)
    rw [r_B_isAnyOver_7]
    by_cases e1 : f (120 + 12 * k + 1) = a1
    · by_cases e2 : brov f a2 k
      · have e3 : bran f a2 a1 (k + 1) = 1 := if_pos (Or.inr ⟨e1, e2⟩)
        have e4 := bran_up e3 ((f 1).toNat - (k + 1))
        rw [show k + 1 + ((f 1).toNat - (k + 1)) = (f 1).toNat by omega] at e4
        rw [e4]
        simp (disch := first | assumption | exact gb_01 _ | omega) only [r_B_isAnyOver_0, r_B_isAnyOver_1, r_B_isAnyOver_5, r_B_isAnyOver_6, r_B_isAnyOver_8, r_B_isAnyOver_9, r_B_isAnyOver_12, r_B_isAnyOver_15, r_B_isAnyOver_16, r_B_isAnyOver_19, r_B_isAnyOver_20, r_B_isAnyOver_21, r_B_isAnyOver_24, r_B_isAnyOver_25, r_B_isAnyOver_28, r_B_isAnyOver_29, r_B_isAnyOver_30, r_B_isAnyOver_33, r_B_isAnyOver_34, r_B_isAnyOver_38, r_B_isAnyOver_41, r_B_isAnyOver_42, r_B_isAnyOver_43, r_B_isAnyOver_46, r_B_isAnyOver_49, r_B_isAnyOver_50, c_B_isAnyOver_35 hO, Option.toList, List.singleton_append, List.cons_append, List.nil_append, List.append_nil, q0, q1, q2, q3, q4, q5, q6, q7, QP, w32_gb, w32i, tn_add, tn_mul, Int.toNat_natCast, Int.toNat_zero, Int.reduceLE, Int.reduceLT, Int.reduceEq, Int.reduceNe, gb_T, gb_F, Int.reduceToNat, eq_self, true_or, or_true, and_true, true_and, and_self, ↓ite_gb0, ↓ite_gbn, ↓if_pos, ↓if_neg, if_true, if_false, not_true_eq_false, not_false_eq_true, gb_ne0, gb_eq0]
        exact hA
      · simp (disch := first | assumption | exact gb_01 _ | omega) only [r_B_isAnyOver_0, r_B_isAnyOver_1, r_B_isAnyOver_5, r_B_isAnyOver_6, r_B_isAnyOver_8, r_B_isAnyOver_9, r_B_isAnyOver_12, r_B_isAnyOver_15, r_B_isAnyOver_16, r_B_isAnyOver_19, r_B_isAnyOver_20, r_B_isAnyOver_21, r_B_isAnyOver_24, r_B_isAnyOver_25, r_B_isAnyOver_28, r_B_isAnyOver_29, r_B_isAnyOver_30, r_B_isAnyOver_33, r_B_isAnyOver_34, r_B_isAnyOver_38, r_B_isAnyOver_41, r_B_isAnyOver_42, r_B_isAnyOver_43, r_B_isAnyOver_46, r_B_isAnyOver_49, r_B_isAnyOver_50, c_B_isAnyOver_35 hO, Option.toList, List.singleton_append, List.cons_append, List.nil_append, List.append_nil, q0, q1, q2, q3, q4, q5, q6, q7, QP, w32_gb, w32i, tn_add, tn_mul, Int.toNat_natCast, Int.toNat_zero, Int.reduceLE, Int.reduceLT, Int.reduceEq, Int.reduceNe, gb_T, gb_F, Int.reduceToNat, eq_self, true_or, or_true, and_true, true_and, and_self, ↓ite_gb0, ↓ite_gbn, ↓if_pos, ↓if_neg, if_true, if_false, not_true_eq_false, not_false_eq_true, gb_ne0, gb_eq0]
        exact hq _ _ ⟨by simp only [List.cons.injEq, vI_inj, vR_inj, and_true, true_and]; omega, rfl, if_neg (fun z => by rcases z with y | y; omega; exact e2 y.2)⟩
    · simp (disch := first | assumption | exact gb_01 _ | omega) only [r_B_isAnyOver_0, r_B_isAnyOver_1, r_B_isAnyOver_5, r_B_isAnyOver_6, r_B_isAnyOver_8, r_B_isAnyOver_9, r_B_isAnyOver_12, r_B_isAnyOver_15, r_B_isAnyOver_16, r_B_isAnyOver_19, r_B_isAnyOver_20, r_B_isAnyOver_21, r_B_isAnyOver_24, r_B_isAnyOver_25, r_B_isAnyOver_28, r_B_isAnyOver_29, r_B_isAnyOver_30, r_B_isAnyOver_33, r_B_isAnyOver_34, r_B_isAnyOver_38, r_B_isAnyOver_41, r_B_isAnyOver_42, r_B_isAnyOver_43, r_B_isAnyOver_46, r_B_isAnyOver_49, r_B_isAnyOver_50, c_B_isAnyOver_35 hO, Option.toList, List.singleton_append, List.cons_append, List.nil_append, List.append_nil, q0, q1, q2, q3, q4, q5, q6, q7, QP, w32_gb, w32i, tn_add, tn_mul, Int.toNat_natCast, Int.toNat_zero, Int.reduceLE, Int.reduceLT, Int.reduceEq, Int.reduceNe, gb_T, gb_F, Int.reduceToNat, eq_self, true_or, or_true, and_true, true_and, and_self, ↓ite_gb0, ↓ite_gbn, ↓if_pos, ↓if_neg, if_true, if_false, not_true_eq_false, not_false_eq_true, gb_ne0, gb_eq0]
      exact hq _ _ ⟨by simp only [List.cons.injEq, vI_inj, vR_inj, and_true, true_and]; omega, rfl, if_neg (fun z => by rcases z with y | y; omega; exact e1 y.1)⟩
  · obtain ⟨rfl, rfl, hz⟩ := hi
    rw [r_B_isAnyOver_7, hz]
    simp (disch := first | assumption | exact gb_01 _ | omega) only [r_B_isAnyOver_0, r_B_isAnyOver_1, r_B_isAnyOver_5, r_B_isAnyOver_6, r_B_isAnyOver_8, r_B_isAnyOver_9, r_B_isAnyOver_12, r_B_isAnyOver_15, r_B_isAnyOver_16, r_B_isAnyOver_19, r_B_isAnyOver_20, r_B_isAnyOver_21, r_B_isAnyOver_24, r_B_isAnyOver_25, r_B_isAnyOver_28, r_B_isAnyOver_29, r_B_isAnyOver_30, r_B_isAnyOver_33, r_B_isAnyOver_34, r_B_isAnyOver_38, r_B_isAnyOver_41, r_B_isAnyOver_42, r_B_isAnyOver_43, r_B_isAnyOver_46, r_B_isAnyOver_49, r_B_isAnyOver_50, q0, q1, q2, q3, q4, q5, q6, q7, QP, w32_gb, w32i, tn_add, tn_mul, Int.toNat_natCast, Int.toNat_zero, Int.reduceLE, Int.reduceLT, Int.reduceEq, Int.reduceNe, gb_T, gb_F, Int.reduceToNat, eq_self, true_or, or_true, and_true, true_and, and_self, ↓ite_gb0, ↓ite_gbn, ↓if_pos, ↓if_neg, if_true, if_false, not_true_eq_false, not_false_eq_true, gb_ne0, gb_eq0]
    exact hA
theorem r_X_judged_0 : Wp L d k_X_judged 0 [vR b0, l1, l2] [] σ Q ↔ Wp L d k_X_judged 1 [vR b0, l1, l2] [vR b0] σ Q := wp_aload rfl rfl
theorem r_X_judged_1 : Wp L d k_X_judged 1 [l0, vI a1, l2] [vR c0] σ Q ↔ Wp L d k_X_judged 2 [l0, vI a1, l2] [vI a1, vR c0] σ Q := wp_iload rfl rfl
theorem r_X_judged_5 : Wp L d k_X_judged 5 [l0, l1, l2] [vI s0] σ Q ↔ (if s0 ≠ 0 then Wp L d k_X_judged 11 [l0, l1, l2] [] σ Q else Wp L d k_X_judged 8 [l0, l1, l2] [] σ Q) := wp_if_ne rfl
theorem r_X_judged_8 : Wp L d k_X_judged 8 [l0, l1, l2] [] σ Q ↔ Wp L d k_X_judged 10 [l0, l1, l2] [vI (-1000000001)] σ Q := wp_push rfl
theorem r_X_judged_10 : Wp L d k_X_judged 10 [l0, l1, l2] [vI s0] σ Q ↔ Q (some (vI s0)) σ := wp_iret rfl
theorem r_X_judged_11 : Wp L d k_X_judged 11 [vR b0, l1, l2] [] σ Q ↔ Wp L d k_X_judged 12 [vR b0, l1, l2] [vR b0] σ Q := wp_aload rfl rfl
theorem r_X_judged_12 (h : gK c0 = 0) : Wp L d k_X_judged 12 [l0, l1, l2] [vR c0] σ Q ↔ Wp L d k_X_judged 15 [l0, l1, l2] [vR (gq c0 0)] σ Q := wp_getR (c := 128) rfl rfl rfl rfl rfl h
theorem r_X_judged_15 : Wp L d k_X_judged 15 [l0, l1, l2] [vR c0] σ Q ↔ Wp L d k_X_judged 16 [l0, l1, l2] [vI 0, vR c0] σ Q := wp_push rfl
theorem r_X_judged_16 : Wp L d k_X_judged 16 [l0, vI a1, l2] [vI s1, vR c0] σ Q ↔ Wp L d k_X_judged 17 [l0, vI a1, l2] [vI a1, vI s1, vR c0] σ Q := wp_iload rfl rfl
theorem r_X_judged_17 : Wp L d k_X_judged 17 [vR b0, l1, l2] [vI s2, vI s1, vR c0] σ Q ↔ Wp L d k_X_judged 18 [vR b0, l1, l2] [vR b0, vI s2, vI s1, vR c0] σ Q := wp_aload rfl rfl
theorem r_X_judged_18 (h : gK c3 = 0) : Wp L d k_X_judged 18 [l0, l1, l2] [vR c3, vI s2, vI s1, vR c0] σ Q ↔ Wp L d k_X_judged 21 [l0, l1, l2] [vR (gq c3 0), vI s2, vI s1, vR c0] σ Q := wp_getR (c := 128) rfl rfl rfl rfl rfl h
theorem r_X_judged_21 (h : gK c3 = 5) : Wp L d k_X_judged 21 [l0, l1, l2] [vR c3, vI s2, vI s1, vR c0] σ Q ↔ Wp L d k_X_judged 24 [l0, l1, l2] [vI (σ c3 7), vI s2, vI s1, vR c0] σ Q := wp_getI (c := 1287) rfl rfl rfl rfl h
theorem r_X_judged_24 : Wp L d k_X_judged 24 [l0, l1, l2] [vI s3, vI s2, vI s1, vR c0] σ Q ↔ Wp L d k_X_judged 25 [l0, l1, l2] [vI 0, vI s3, vI s2, vI s1, vR c0] σ Q := wp_push rfl
theorem c_X_judged_25 (hR : Run L d 135 [vR c0, vI s1, vI s2, vI s3, vI s4] σ r σ1) (h : gK c0 = 5) : Wp L (d + 1) k_X_judged 25 [l0, l1, l2] [vI s4, vI s3, vI s2, vI s1, vR c0] σ Q ↔ Wp L (d + 1) k_X_judged 28 [l0, l1, l2] (r.toList ++ []) σ1 Q := wp_callR (as := [vR c0, vI s1, vI s2, vI s3, vI s4]) (rest := []) rfl rfl rfl rfl rfl rfl rfl (grecv_k (by rw [h]) rfl) hR
theorem r_X_judged_28 : Wp L d k_X_judged 28 [l0, vI a1, l2] [vI s0] σ Q ↔ Wp L d k_X_judged 29 [l0, vI a1, vI s0] [] σ Q := wp_istore (i := 2) (ls := [l0, vI a1, l2]) rfl rfl
theorem r_X_judged_29 : Wp L d k_X_judged 29 [vR b0, l1, l2] [] σ Q ↔ Wp L d k_X_judged 30 [vR b0, l1, l2] [vR b0] σ Q := wp_aload rfl rfl
theorem r_X_judged_30 (h : gK c0 = 0) : Wp L d k_X_judged 30 [l0, l1, l2] [vR c0] σ Q ↔ Wp L d k_X_judged 33 [l0, l1, l2] [vR (gq c0 1)] σ Q := wp_getR (c := 129) rfl rfl rfl rfl rfl h
theorem r_X_judged_33 : Wp L d k_X_judged 33 [l0, vI a1, l2] [vR c0] σ Q ↔ Wp L d k_X_judged 34 [l0, vI a1, l2] [vI a1, vR c0] σ Q := wp_iload rfl rfl
theorem r_X_judged_34 : Wp L d k_X_judged 34 [l0, l1, l2] [vI s1, vR c0] σ Q ↔ Wp L d k_X_judged 35 [l0, l1, l2] [vI 0, vI s1, vR c0] σ Q := wp_push rfl
theorem r_X_judged_35 : Wp L d k_X_judged 35 [l0, l1, l2] [vI s2, vI s1, vR c0] σ Q ↔ Wp L d k_X_judged 37 [l0, l1, l2] [vI 99, vI s2, vI s1, vR c0] σ Q := wp_push rfl
theorem r_X_judged_37 : Wp L d k_X_judged 37 [l0, l1, vI a2] [vI s3, vI s2, vI s1, vR c0] σ Q ↔ Wp L d k_X_judged 38 [l0, l1, vI a2] [vI a2, vI s3, vI s2, vI s1, vR c0] σ Q := wp_iload rfl rfl
theorem r_X_judged_38 : Wp L d k_X_judged 38 [l0, l1, l2] [vI s4, vI s3, vI s2, vI s1, vR c0] σ Q ↔ Wp L d k_X_judged 41 [l0, l1, l2] [vI (min s3 s4), vI s2, vI s1, vR c0] σ Q := wp_min rfl rfl
theorem r_X_judged_41 : Wp L d k_X_judged 41 [l0, l1, l2] [vI s3, vI s2, vI s1, vR c0] σ Q ↔ Wp L d k_X_judged 44 [l0, l1, l2] [vI (max s2 s3), vI s1, vR c0] σ Q := wp_max rfl rfl
theorem c_X_judged_44 (hR : Run L d 114 [vR c0, vI s1, vI s2] σ r σ1) (h : gK c0 = 1) : Wp L (d + 1) k_X_judged 44 [l0, l1, l2] [vI s2, vI s1, vR c0] σ Q ↔ Wp L (d + 1) k_X_judged 47 [l0, l1, l2] (r.toList ++ []) σ1 Q := wp_callR (as := [vR c0, vI s1, vI s2]) (rest := []) rfl rfl rfl rfl rfl rfl rfl (grecv_k (by rw [h]) rfl) hR
theorem r_X_judged_50 : Wp L d k_X_judged 50 [l0, l1, l2] [vI s0] σ Q ↔ Q (some (vI s0)) σ := wp_iret rfl
theorem r_X_judged_2 : Wp L (d + 4) k_X_judged 2 [l0, l1, l2] [vI s1, vR 27] σ Q ↔ Wp L (d + 4) k_X_judged 5 [l0, l1, l2] [vI (gb (0 ≤ s1 ∧ s1 ≤ σ 29 8))] σ Q := wp_callR (d := d + 3) (as := [vR 27, vI s1]) (rest := []) rfl rfl rfl rfl rfl rfl rfl (grecv_k (by rw [gK_27]) rfl) (sp_X_isPier)
theorem r_X_judged_47 : Wp L (d + 4) k_X_judged 47 [l0, l1, l2] [vI s0] σ Q ↔ Wp L (d + 4) k_X_judged 50 [l0, l1, l2] [vI (gb (s0 ≠ 0))] σ Q := wp_callR (d := d + 3) (as := [vI s0]) (rest := []) rfl rfl rfl rfl rfl rfl rfl rfl (sp_X_bit)
theorem sp_X_judged_b (h : ¬ (0 ≤ a1 ∧ a1 ≤ σ 29 8)) : Run L (d + 4) 53 [vR 27, vI a1] σ (some (vI (-1000000001))) σ := by
  refine Run_of (C' := k_X_judged) rfl ?_
  show Wp L (d + 4) k_X_judged 0 [vR 27, vI a1, vU] [] σ _
  obtain ⟨K27, K28, K29, K78, K97, K99, K109, K123, K125, K279, K282⟩ := litX
  simp (disch := first | assumption | exact gb_01 _ | omega) only [r_X_judged_0, r_X_judged_1, r_X_judged_2, r_X_judged_5, r_X_judged_8, r_X_judged_10, gq_27_0, gq_27_1, gq_27_2, gq_27_3, gq_27_4, gq_27_5, gq_27_6, gq_28_0, gq_28_1, gq_28_2, gq_28_3, gq_28_4, gq_28_5, gq_28_6, w32_gb, w32i, tn_add, tn_mul, Int.toNat_natCast, Int.toNat_zero, Int.reduceLE, Int.reduceLT, Int.reduceEq, Int.reduceNe, gb_T, gb_F, Int.reduceToNat, eq_self, true_or, or_true, and_true, true_and, and_self, ↓ite_gb0, ↓ite_gbn, ↓if_pos, ↓if_neg, if_true, if_false, not_true_eq_false, not_false_eq_true, gb_ne0, gb_eq0]
theorem r_M_judged_0 : Wp L d k_M_judged 0 [vR b0, l1, l2, l3, l4] [] σ Q ↔ Wp L d k_M_judged 1 [vR b0, l1, l2, l3, l4] [vR b0] σ Q := wp_aload rfl rfl
theorem r_M_judged_1 : Wp L d k_M_judged 1 [l0, vI a1, l2, l3, l4] [vR c0] σ Q ↔ Wp L d k_M_judged 2 [l0, vI a1, l2, l3, l4] [vI a1, vR c0] σ Q := wp_iload rfl rfl
theorem r_M_judged_5 : Wp L d k_M_judged 5 [l0, l1, l2, l3, l4] [vI s0] σ Q ↔ (if s0 ≠ 0 then Wp L d k_M_judged 11 [l0, l1, l2, l3, l4] [] σ Q else Wp L d k_M_judged 8 [l0, l1, l2, l3, l4] [] σ Q) := wp_if_ne rfl
theorem r_M_judged_8 : Wp L d k_M_judged 8 [l0, l1, l2, l3, l4] [] σ Q ↔ Wp L d k_M_judged 10 [l0, l1, l2, l3, l4] [vI (-1000000001)] σ Q := wp_push rfl
theorem r_M_judged_10 : Wp L d k_M_judged 10 [l0, l1, l2, l3, l4] [vI s0] σ Q ↔ Q (some (vI s0)) σ := wp_iret rfl
theorem r_M_judged_11 : Wp L d k_M_judged 11 [vR b0, l1, l2, l3, l4] [] σ Q ↔ Wp L d k_M_judged 12 [vR b0, l1, l2, l3, l4] [vR b0] σ Q := wp_aload rfl rfl
theorem r_M_judged_12 : Wp L d k_M_judged 12 [l0, l1, l2, l3, l4] [vR c0] σ Q ↔ Wp L d k_M_judged 13 [l0, l1, l2, l3, l4] [vI 0, vR c0] σ Q := wp_push rfl
theorem r_M_judged_13 : Wp L d k_M_judged 13 [l0, vI a1, l2, l3, l4] [vI s1, vR c0] σ Q ↔ Wp L d k_M_judged 14 [l0, vI a1, l2, l3, l4] [vI a1, vI s1, vR c0] σ Q := wp_iload rfl rfl
theorem r_M_judged_14 : Wp L d k_M_judged 14 [vR b0, l1, l2, l3, l4] [vI s2, vI s1, vR c0] σ Q ↔ Wp L d k_M_judged 15 [vR b0, l1, l2, l3, l4] [vR b0, vI s2, vI s1, vR c0] σ Q := wp_aload rfl rfl
theorem r_M_judged_15 (h : gK c3 = 12) : Wp L d k_M_judged 15 [l0, l1, l2, l3, l4] [vR c3, vI s2, vI s1, vR c0] σ Q ↔ Wp L d k_M_judged 18 [l0, l1, l2, l3, l4] [vR (gq c3 0), vI s2, vI s1, vR c0] σ Q := wp_getR (c := 3200) rfl rfl rfl rfl rfl h
theorem r_M_judged_18 : Wp L d k_M_judged 18 [l0, l1, l2, l3, l4] [vR c3, vI s2, vI s1, vR c0] σ Q ↔ Wp L d k_M_judged 20 [l0, l1, l2, l3, l4] [vI 7, vR c3, vI s2, vI s1, vR c0] σ Q := wp_push rfl
theorem r_M_judged_20 (h : gK c3 = 100) (hx : 0 ≤ s4 ∧ s4 < gN c3) : Wp L d k_M_judged 20 [l0, l1, l2, l3, l4] [vI s4, vR c3, vI s2, vI s1, vR c0] σ Q ↔ Wp L d k_M_judged 21 [l0, l1, l2, l3, l4] [vI (σ c3 s4.toNat), vI s2, vI s1, vR c0] σ Q := wp_iald rfl h hx
theorem r_M_judged_21 : Wp L d k_M_judged 21 [l0, l1, l2, l3, l4] [vI s3, vI s2, vI s1, vR c0] σ Q ↔ Wp L d k_M_judged 22 [l0, l1, l2, l3, l4] [vI 0, vI s3, vI s2, vI s1, vR c0] σ Q := wp_push rfl
theorem c_M_judged_22 (hR : Run L d 261 [vR c0, vI s1, vI s2, vI s3, vI s4] σ r σ1) (h : gK c0 = 12) : Wp L (d + 1) k_M_judged 22 [l0, l1, l2, l3, l4] [vI s4, vI s3, vI s2, vI s1, vR c0] σ Q ↔ Wp L (d + 1) k_M_judged 25 [l0, l1, l2, l3, l4] (r.toList ++ []) σ1 Q := wp_callR (as := [vR c0, vI s1, vI s2, vI s3, vI s4]) (rest := []) rfl rfl rfl rfl rfl rfl rfl (grecv_k (by rw [h]) rfl) hR
theorem r_M_judged_25 : Wp L d k_M_judged 25 [l0, vI a1, l2, l3, l4] [vI s0] σ Q ↔ Wp L d k_M_judged 26 [l0, vI a1, vI s0, l3, l4] [] σ Q := wp_istore (i := 2) (ls := [l0, vI a1, l2, l3, l4]) rfl rfl
theorem r_M_judged_26 : Wp L d k_M_judged 26 [l0, l1, vI a2, l3, l4] [] σ Q ↔ Wp L d k_M_judged 27 [l0, l1, vI a2, l3, l4] [vI a2] σ Q := wp_iload rfl rfl
theorem r_M_judged_27 : Wp L d k_M_judged 27 [l0, l1, l2, l3, l4] [vI s0] σ Q ↔ (if 0 ≤ s0 then Wp L d k_M_judged 34 [l0, l1, l2, l3, l4] [] σ Q else Wp L d k_M_judged 30 [l0, l1, l2, l3, l4] [] σ Q) := wp_if_ge rfl
theorem r_M_judged_30 : Wp L d k_M_judged 30 [l0, l1, l2, l3, l4] [] σ Q ↔ Wp L d k_M_judged 31 [l0, l1, l2, l3, l4] [vI 0] σ Q := wp_push rfl
theorem r_M_judged_31 : Wp L d k_M_judged 31 [l0, l1, l2, l3, l4] [vI s0] σ Q ↔ Wp L d k_M_judged 40 [l0, l1, l2, l3, l4] [vI s0] σ Q := wp_goto rfl
theorem r_M_judged_34 : Wp L d k_M_judged 34 [l0, l1, vI a2, l3, l4] [] σ Q ↔ Wp L d k_M_judged 35 [l0, l1, vI a2, l3, l4] [vI a2] σ Q := wp_iload rfl rfl
theorem r_M_judged_35 : Wp L d k_M_judged 35 [l0, l1, l2, l3, l4] [vI s0] σ Q ↔ Wp L d k_M_judged 37 [l0, l1, l2, l3, l4] [vI 99, vI s0] σ Q := wp_push rfl
theorem r_M_judged_40 : Wp L d k_M_judged 40 [l0, vI a1, l2, l3, l4] [vI s0] σ Q ↔ Wp L d k_M_judged 41 [l0, vI a1, vI s0, l3, l4] [] σ Q := wp_istore (i := 2) (ls := [l0, vI a1, l2, l3, l4]) rfl rfl
theorem r_M_judged_41 : Wp L d k_M_judged 41 [l0, l1, l2, l3, l4] [] σ Q ↔ Wp L d k_M_judged 42 [l0, l1, l2, l3, l4] [vI 0] σ Q := wp_push rfl
theorem r_M_judged_42 : Wp L d k_M_judged 42 [l0, l1, vI a2, l3, l4] [vI s0] σ Q ↔ Wp L d k_M_judged 43 [l0, l1, vI a2, vI s0, l4] [] σ Q := wp_istore (i := 3) (ls := [l0, l1, vI a2, l3, l4]) rfl rfl
theorem r_M_judged_43 : Wp L d k_M_judged 43 [l0, l1, l2, l3, l4] [] σ Q ↔ Wp L d k_M_judged 44 [l0, l1, l2, l3, l4] [vI 0] σ Q := wp_push rfl
theorem r_M_judged_44 : Wp L d k_M_judged 44 [l0, l1, l2, vI a3, l4] [vI s0] σ Q ↔ Wp L d k_M_judged 46 [l0, l1, l2, vI a3, vI s0] [] σ Q := wp_istore (i := 4) (ls := [l0, l1, l2, vI a3, l4]) rfl rfl
theorem r_M_judged_46 : Wp L d k_M_judged 46 [l0, l1, l2, l3, vI a4] [] σ Q ↔ Wp L d k_M_judged 48 [l0, l1, l2, l3, vI a4] [vI a4] σ Q := wp_iload rfl rfl
theorem r_M_judged_48 : Wp L d k_M_judged 48 [vR b0, l1, l2, l3, l4] [vI s0] σ Q ↔ Wp L d k_M_judged 49 [vR b0, l1, l2, l3, l4] [vR b0, vI s0] σ Q := wp_aload rfl rfl
theorem r_M_judged_49 (h : gK c1 = 12) : Wp L d k_M_judged 49 [l0, l1, l2, l3, l4] [vR c1, vI s0] σ Q ↔ Wp L d k_M_judged 52 [l0, l1, l2, l3, l4] [vR (gq c1 0), vI s0] σ Q := wp_getR (c := 3200) rfl rfl rfl rfl rfl h
theorem r_M_judged_52 : Wp L d k_M_judged 52 [l0, l1, l2, l3, l4] [vR c1, vI s0] σ Q ↔ Wp L d k_M_judged 53 [l0, l1, l2, l3, l4] [vI 1, vR c1, vI s0] σ Q := wp_push rfl
theorem r_M_judged_53 (h : gK c1 = 100) (hx : 0 ≤ s2 ∧ s2 < gN c1) : Wp L d k_M_judged 53 [l0, l1, l2, l3, l4] [vI s2, vR c1, vI s0] σ Q ↔ Wp L d k_M_judged 54 [l0, l1, l2, l3, l4] [vI (σ c1 s2.toNat), vI s0] σ Q := wp_iald rfl h hx
theorem r_M_judged_54 : Wp L d k_M_judged 54 [l0, l1, l2, l3, l4] [vI s1, vI s0] σ Q ↔ (if s1 ≤ s0 then Wp L d k_M_judged 100 [l0, l1, l2, l3, l4] [] σ Q else Wp L d k_M_judged 57 [l0, l1, l2, l3, l4] [] σ Q) := wp_cmp_ge rfl
theorem r_M_judged_57 : Wp L d k_M_judged 57 [l0, l1, l2, vI a3, l4] [] σ Q ↔ Wp L d k_M_judged 58 [l0, l1, l2, vI a3, l4] [vI a3] σ Q := wp_iload rfl rfl
theorem r_M_judged_58 : Wp L d k_M_judged 58 [l0, l1, l2, l3, l4] [vI s0] σ Q ↔ (if s0 ≠ 0 then Wp L d k_M_judged 88 [l0, l1, l2, l3, l4] [] σ Q else Wp L d k_M_judged 61 [l0, l1, l2, l3, l4] [] σ Q) := wp_if_ne rfl
theorem r_M_judged_61 : Wp L d k_M_judged 61 [vR b0, l1, l2, l3, l4] [] σ Q ↔ Wp L d k_M_judged 62 [vR b0, l1, l2, l3, l4] [vR b0] σ Q := wp_aload rfl rfl
theorem r_M_judged_62 (h : gK c0 = 12) : Wp L d k_M_judged 62 [l0, l1, l2, l3, l4] [vR c0] σ Q ↔ Wp L d k_M_judged 65 [l0, l1, l2, l3, l4] [vR (gq c0 0)] σ Q := wp_getR (c := 3200) rfl rfl rfl rfl rfl h
theorem r_M_judged_65 : Wp L d k_M_judged 65 [vR b0, l1, l2, l3, l4] [vR c0] σ Q ↔ Wp L d k_M_judged 66 [vR b0, l1, l2, l3, l4] [vR b0, vR c0] σ Q := wp_aload rfl rfl
theorem r_M_judged_66 : Wp L d k_M_judged 66 [l0, l1, l2, l3, vI a4] [vR c1, vR c0] σ Q ↔ Wp L d k_M_judged 68 [l0, l1, l2, l3, vI a4] [vI a4, vR c1, vR c0] σ Q := wp_iload rfl rfl
theorem r_M_judged_71 : Wp L d k_M_judged 71 [l0, l1, l2, l3, l4] [vI s1, vR c0] σ Q ↔ Wp L d k_M_judged 72 [l0, l1, l2, l3, l4] [vI 1, vI s1, vR c0] σ Q := wp_push rfl
theorem r_M_judged_72 : Wp L d k_M_judged 72 [l0, l1, l2, l3, l4] [vI s2, vI s1, vR c0] σ Q ↔ Wp L d k_M_judged 73 [l0, l1, l2, l3, l4] [vI (w32 (s1 + s2)), vR c0] σ Q := wp_iadd rfl
theorem r_M_judged_73 (h : gK c0 = 100) (hx : 0 ≤ s1 ∧ s1 < gN c0) : Wp L d k_M_judged 73 [l0, l1, l2, l3, l4] [vI s1, vR c0] σ Q ↔ Wp L d k_M_judged 74 [l0, l1, l2, l3, l4] [vI (σ c0 s1.toNat)] σ Q := wp_iald rfl h hx
theorem r_M_judged_74 : Wp L d k_M_judged 74 [l0, vI a1, l2, l3, l4] [vI s0] σ Q ↔ Wp L d k_M_judged 75 [l0, vI a1, l2, l3, l4] [vI a1, vI s0] σ Q := wp_iload rfl rfl
theorem r_M_judged_75 : Wp L d k_M_judged 75 [l0, l1, l2, l3, l4] [vI s1, vI s0] σ Q ↔ (if s0 ≠ s1 then Wp L d k_M_judged 92 [l0, l1, l2, l3, l4] [] σ Q else Wp L d k_M_judged 78 [l0, l1, l2, l3, l4] [] σ Q) := wp_cmp_ne rfl
theorem r_M_judged_78 : Wp L d k_M_judged 78 [vR b0, l1, l2, l3, l4] [] σ Q ↔ Wp L d k_M_judged 79 [vR b0, l1, l2, l3, l4] [vR b0] σ Q := wp_aload rfl rfl
theorem r_M_judged_79 : Wp L d k_M_judged 79 [l0, l1, l2, l3, vI a4] [vR c0] σ Q ↔ Wp L d k_M_judged 81 [l0, l1, l2, l3, vI a4] [vI a4, vR c0] σ Q := wp_iload rfl rfl
theorem r_M_judged_81 : Wp L d k_M_judged 81 [l0, l1, vI a2, l3, l4] [vI s1, vR c0] σ Q ↔ Wp L d k_M_judged 82 [l0, l1, vI a2, l3, l4] [vI a2, vI s1, vR c0] σ Q := wp_iload rfl rfl
theorem r_M_judged_85 : Wp L d k_M_judged 85 [l0, l1, l2, l3, l4] [vI s0] σ Q ↔ (if s0 = 0 then Wp L d k_M_judged 92 [l0, l1, l2, l3, l4] [] σ Q else Wp L d k_M_judged 88 [l0, l1, l2, l3, l4] [] σ Q) := wp_if_eq rfl
theorem r_M_judged_88 : Wp L d k_M_judged 88 [l0, l1, l2, l3, l4] [] σ Q ↔ Wp L d k_M_judged 89 [l0, l1, l2, l3, l4] [vI 1] σ Q := wp_push rfl
theorem r_M_judged_89 : Wp L d k_M_judged 89 [l0, l1, l2, l3, l4] [vI s0] σ Q ↔ Wp L d k_M_judged 93 [l0, l1, l2, l3, l4] [vI s0] σ Q := wp_goto rfl
theorem r_M_judged_92 : Wp L d k_M_judged 92 [l0, l1, l2, l3, l4] [] σ Q ↔ Wp L d k_M_judged 93 [l0, l1, l2, l3, l4] [vI 0] σ Q := wp_push rfl
theorem r_M_judged_93 : Wp L d k_M_judged 93 [l0, l1, vI a2, l3, l4] [vI s0] σ Q ↔ Wp L d k_M_judged 94 [l0, l1, vI a2, vI s0, l4] [] σ Q := wp_istore (i := 3) (ls := [l0, l1, vI a2, l3, l4]) rfl rfl
theorem r_M_judged_94 : Wp L d k_M_judged 94 [l0, l1, l2, vI a3, vI a4] [] σ Q ↔ Wp L d k_M_judged 97 [l0, l1, l2, vI a3, vI (w32 (a4 + 1))] [] σ Q := wp_iinc (i := 4) (ls := [l0, l1, l2, vI a3, vI a4]) rfl rfl
theorem r_M_judged_97 : Wp L d k_M_judged 97 [l0, l1, l2, l3, l4] [] σ Q ↔ Wp L d k_M_judged 46 [l0, l1, l2, l3, l4] [] σ Q := wp_goto rfl
theorem r_M_judged_100 : Wp L d k_M_judged 100 [l0, l1, l2, vI a3, l4] [] σ Q ↔ Wp L d k_M_judged 101 [l0, l1, l2, vI a3, l4] [vI a3] σ Q := wp_iload rfl rfl
theorem r_M_judged_101 : Wp L d k_M_judged 101 [l0, l1, l2, l3, l4] [vI s0] σ Q ↔ (if s0 = 0 then Wp L d k_M_judged 108 [l0, l1, l2, l3, l4] [] σ Q else Wp L d k_M_judged 104 [l0, l1, l2, l3, l4] [] σ Q) := wp_if_eq rfl
theorem r_M_judged_104 : Wp L d k_M_judged 104 [l0, l1, l2, l3, l4] [] σ Q ↔ Wp L d k_M_judged 105 [l0, l1, l2, l3, l4] [vI 1] σ Q := wp_push rfl
theorem r_M_judged_105 : Wp L d k_M_judged 105 [l0, l1, l2, l3, l4] [vI s0] σ Q ↔ Wp L d k_M_judged 109 [l0, l1, l2, l3, l4] [vI s0] σ Q := wp_goto rfl
theorem r_M_judged_108 : Wp L d k_M_judged 108 [l0, l1, l2, l3, l4] [] σ Q ↔ Wp L d k_M_judged 109 [l0, l1, l2, l3, l4] [vI 0] σ Q := wp_push rfl
theorem r_M_judged_109 : Wp L d k_M_judged 109 [l0, l1, l2, l3, l4] [vI s0] σ Q ↔ Q (some (vI s0)) σ := wp_iret rfl
theorem r_M_judged_2 : Wp L (d + 5) k_M_judged 2 [l0, l1, l2, l3, l4] [vI s1, vR 293] σ Q ↔ Wp L (d + 5) k_M_judged 5 [l0, l1, l2, l3, l4] [vI (gb (0 ≤ s1 ∧ s1 ≤ σ 294 0))] σ Q := wp_callR (d := d + 4) (as := [vR 293, vI s1]) (rest := []) rfl rfl rfl rfl rfl rfl rfl (grecv_k (by rw [gK_293]) rfl) (sp_M_isPier)
theorem r_M_judged_37 : Wp L (d + 5) k_M_judged 37 [l0, l1, l2, l3, l4] [vI s1, vI s0] σ Q ↔ Wp L (d + 5) k_M_judged 40 [l0, l1, l2, l3, l4] [vI (min s0 s1)] σ Q := wp_callR (d := d + 4) (as := [vI s0, vI s1]) (rest := []) rfl rfl rfl rfl rfl rfl rfl rfl (sp_M_least)
theorem r_M_judged_68 : Wp L (d + 5) k_M_judged 68 [l0, l1, l2, l3, l4] [vI s2, vR 293, vR c0] σ Q ↔ Wp L (d + 5) k_M_judged 71 [l0, l1, l2, l3, l4] [vI (w32 (120 + w32 (12 * s2))), vR c0] σ Q := wp_callR (d := d + 4) (as := [vR 293, vI s2]) (rest := [vR c0]) rfl rfl rfl rfl rfl rfl rfl (grecv_k (by rw [gK_293]) rfl) (sp_M_partAt)
theorem r_M_judged_82 (hw : WB (σ 294)) (h : 0 ≤ s1 ∧ s1 < σ 294 1) (h2 : 0 ≤ s2 ∧ s2 ≤ 99) : Wp L (d + 5) k_M_judged 82 [l0, l1, l2, l3, l4] [vI s2, vI s1, vR 293] σ Q ↔ Wp L (d + 5) k_M_judged 85 [l0, l1, l2, l3, l4] [vI (gb (brov (σ 294) s2 s1.toNat))] σ Q := wp_callR (d := d + 4) (as := [vR 293, vI s1, vI s2]) (rest := []) rfl rfl rfl rfl rfl rfl rfl (grecv_k (by rw [gK_293]) rfl) (sp_M_isOver hw h h2)
theorem sp_M_judged_b (h : ¬ (0 ≤ a1 ∧ a1 ≤ σ 294 0)) : Run L (d + 5) 275 [vR 293, vI a1] σ (some (vI (-1000000001))) σ := by
  refine Run_of (C' := k_M_judged) rfl ?_
  show Wp L (d + 5) k_M_judged 0 [vR 293, vI a1, vU, vU, vU] [] σ _
  obtain ⟨K293, Q293, K294, N294⟩ := litM
  simp (disch := first | assumption | exact gb_01 _ | omega) only [r_M_judged_0, r_M_judged_1, r_M_judged_2, r_M_judged_5, r_M_judged_8, r_M_judged_10, Q293, w32_gb, w32i, tn_add, tn_mul, Int.toNat_natCast, Int.toNat_zero, Int.reduceLE, Int.reduceLT, Int.reduceEq, Int.reduceNe, gb_T, gb_F, Int.reduceToNat, eq_self, true_or, or_true, and_true, true_and, and_self, ↓ite_gb0, ↓ite_gbn, ↓if_pos, ↓if_neg, if_true, if_false, not_true_eq_false, not_false_eq_true, gb_ne0, gb_eq0]
theorem sp_X_judged {f : Nat → Int} (hw : WB f) (hc : CB 29 f σ) (ht : WT f) (hct : CT 78 f σ) (hm : σ 28 7 = f 7) (h : 0 ≤ a1 ∧ a1 ≤ f 0) : ∃ σ', Run L (d + 4) 53 [vR 27, vI a1] σ (some (vI (bran f (max 0 (min 99 (brrl f 0 a1 (f 7) 0))) a1 (f 1).toNat))) σ' ∧ Agr σ σ' (fun k j => k = 96 ∨ ZSc 29 k j) := by
  refine Run_ex (C' := k_X_judged) rfl ?_
  show Wp L (d + 4) k_X_judged 0 [vR 27, vI a1, vU] [] σ _
  obtain ⟨K27, K28, K29, K78, K97, K99, K109, K123, K125, K279, K282⟩ := litX
  have c1 := hc.1
  obtain ⟨τ, hR, hA⟩ := sp_S_ruleOf (L := L) (d := d + 0) (a1 := 0) (a2 := a1) (a3 := f 7) (a4 := 0) ht hct hm
  obtain ⟨τ1, hR1, hA1⟩ := sp_B_isAnyOver (L := L) (d := d + 1) (σ := τ) (a1 := a1) (a2 := max 0 (min 99 (brrl f 0 a1 (f 7) 0))) BR29 hw (CB_agr (fun k j hk => hA k j (by omega)) hw hc) (by omega)
  have z := bran_01 f (max 0 (min 99 (brrl f 0 a1 (f 7) 0))) a1 (f 1).toNat
  have z1 : gb (bran f (max 0 (min 99 (brrl f 0 a1 (f 7) 0))) a1 (f 1).toNat ≠ 0) = bran f (max 0 (min 99 (brrl f 0 a1 (f 7) 0))) a1 (f 1).toNat := by
    rcases z with z | z <;> rw [z] <;> rfl
  simp (disch := first | assumption | exact gb_01 _ | omega) only [r_X_judged_0, r_X_judged_1, r_X_judged_2, r_X_judged_5, r_X_judged_8, r_X_judged_10, r_X_judged_11, r_X_judged_12, r_X_judged_15, r_X_judged_16, r_X_judged_17, r_X_judged_18, r_X_judged_21, r_X_judged_24, r_X_judged_28, r_X_judged_29, r_X_judged_30, r_X_judged_33, r_X_judged_34, r_X_judged_35, r_X_judged_37, r_X_judged_38, r_X_judged_41, r_X_judged_47, r_X_judged_50, c_X_judged_25 hR, c_X_judged_44 hR1, Option.toList, List.singleton_append, List.cons_append, List.nil_append, List.append_nil, gq_27_0, gq_27_1, gq_27_2, gq_27_3, gq_27_4, gq_27_5, gq_27_6, gq_28_0, gq_28_1, gq_28_2, gq_28_3, gq_28_4, gq_28_5, gq_28_6, hm, z1, w32_gb, w32i, tn_add, tn_mul, Int.toNat_natCast, Int.toNat_zero, Int.reduceLE, Int.reduceLT, Int.reduceEq, Int.reduceNe, gb_T, gb_F, Int.reduceToNat, eq_self, true_or, or_true, and_true, true_and, and_self, ↓ite_gb0, ↓ite_gbn, ↓if_pos, ↓if_neg, if_true, if_false, not_true_eq_false, not_false_eq_true, gb_ne0, gb_eq0]
  exact Agr_trans (Agr_mono hA (fun k j hk => Or.inl hk)) (Agr_mono hA1 (fun k j hk => Or.inr hk))
theorem sp_M_judged (hw : WB (σ 294)) (ht : WT (σ 294)) (h : 0 ≤ a1 ∧ a1 ≤ σ 294 0) : ∃ σ', Run L (d + 5) 275 [vR 293, vI a1] σ (some (vI (bran (σ 294) (max 0 (min 99 (brrl (σ 294) 0 a1 (σ 294 7) 0))) a1 (σ 294 1).toNat))) σ' ∧ Agr σ σ' (fun k _ => k = 302 ∨ k = 303) := by
  refine Run_ex (C' := k_M_judged) rfl ?_
  show Wp L (d + 5) k_M_judged 0 [vR 293, vI a1, vU, vU, vU] [] σ _
  obtain ⟨K293, Q293, K294, N294⟩ := litM
  have w2 := hw.2.1
  obtain ⟨τ, hR, hA⟩ := sp_M_ruleOf (L := L) (d := d + 2) (a1 := 0) (a2 := a1) (a3 := σ 294 7) (a4 := 0) ht (by omega)
  have e4 : τ 294 = σ 294 := funext (fun j => hA 294 j (by omega))
  have hwt : WB (τ 294) := by rw [e4]; exact hw
  have e41 : τ 294 1 = σ 294 1 := by rw [e4]
  have hg : 0 ≤ (max 0 (min 99 (brrl (σ 294) 0 a1 (σ 294 7) 0))) ∧ (max 0 (min 99 (brrl (σ 294) 0 a1 (σ 294 7) 0))) ≤ 99 := by omega
  have hx : (if brrl (σ 294) 0 a1 (σ 294 7) 0 < 0 then 0 else min (brrl (σ 294) 0 a1 (σ 294 7) 0) 99) = (max 0 (min 99 (brrl (σ 294) 0 a1 (σ 294 7) 0))) := by
    split <;> omega
  have goal : Wp L (d + 5) k_M_judged 46 [vR 293, vI a1, vI ((max 0 (min 99 (brrl (σ 294) 0 a1 (σ 294 7) 0)))), vI 0, vI 0] [] τ (fun r' σ' => r' = some (vI (bran (σ 294) ((max 0 (min 99 (brrl (σ 294) 0 a1 (σ 294 7) 0)))) a1 (σ 294 1).toNat)) ∧ Agr σ σ' (fun k _ => k = 302 ∨ k = 303)) := by
    generalize (max 0 (min 99 (brrl (σ 294) 0 a1 (σ 294 7) 0))) = w at hg hx ⊢
    refine wl (σ 294 1).toNat (fun k => [vR 293, vI a1, vI w, vI (bran (σ 294) w a1 k), vI (k : Int)]) (fun _ => τ) rfl rfl (fun k hk hq => ?_) ?_
    · have z := bran_01 (σ 294) w a1 k
      rw [r_M_judged_46]
      by_cases e1 : bran (σ 294) w a1 k = 1
      · simp (disch := first | assumption | exact gb_01 _ | omega) only [r_M_judged_0, r_M_judged_1, r_M_judged_2, r_M_judged_5, r_M_judged_8, r_M_judged_10, r_M_judged_11, r_M_judged_12, r_M_judged_13, r_M_judged_14, r_M_judged_15, r_M_judged_18, r_M_judged_20, r_M_judged_21, r_M_judged_25, r_M_judged_26, r_M_judged_27, r_M_judged_30, r_M_judged_31, r_M_judged_34, r_M_judged_35, r_M_judged_37, r_M_judged_40, r_M_judged_41, r_M_judged_42, r_M_judged_43, r_M_judged_44, r_M_judged_48, r_M_judged_49, r_M_judged_52, r_M_judged_53, r_M_judged_54, r_M_judged_57, r_M_judged_58, r_M_judged_61, r_M_judged_62, r_M_judged_65, r_M_judged_66, r_M_judged_68, r_M_judged_71, r_M_judged_72, r_M_judged_73, r_M_judged_74, r_M_judged_75, r_M_judged_78, r_M_judged_79, r_M_judged_81, r_M_judged_82, r_M_judged_85, r_M_judged_88, r_M_judged_89, r_M_judged_92, r_M_judged_93, r_M_judged_94, r_M_judged_97, r_M_judged_100, r_M_judged_101, r_M_judged_104, r_M_judged_105, r_M_judged_108, r_M_judged_109, Q293, e4, w32_gb, w32i, tn_add, tn_mul, Int.toNat_natCast, Int.toNat_zero, Int.reduceLE, Int.reduceLT, Int.reduceEq, Int.reduceNe, gb_T, gb_F, Int.reduceToNat, eq_self, true_or, or_true, and_true, true_and, and_self, ↓ite_gb0, ↓ite_gbn, ↓if_pos, ↓if_neg, if_true, if_false, not_true_eq_false, not_false_eq_true, gb_ne0, gb_eq0]
        refine hq _ _ ?_ rfl
        simp only [List.cons.injEq, vI_inj, vR_inj, and_true, true_and]
        exact ⟨(if_pos (Or.inl e1)).symm, by omega⟩
      · by_cases e2 : σ 294 (120 + 12 * k + 1) = a1
        · by_cases e3 : brov (σ 294) w k
          · simp (disch := first | assumption | exact gb_01 _ | omega) only [r_M_judged_0, r_M_judged_1, r_M_judged_2, r_M_judged_5, r_M_judged_8, r_M_judged_10, r_M_judged_11, r_M_judged_12, r_M_judged_13, r_M_judged_14, r_M_judged_15, r_M_judged_18, r_M_judged_20, r_M_judged_21, r_M_judged_25, r_M_judged_26, r_M_judged_27, r_M_judged_30, r_M_judged_31, r_M_judged_34, r_M_judged_35, r_M_judged_37, r_M_judged_40, r_M_judged_41, r_M_judged_42, r_M_judged_43, r_M_judged_44, r_M_judged_48, r_M_judged_49, r_M_judged_52, r_M_judged_53, r_M_judged_54, r_M_judged_57, r_M_judged_58, r_M_judged_61, r_M_judged_62, r_M_judged_65, r_M_judged_66, r_M_judged_68, r_M_judged_71, r_M_judged_72, r_M_judged_73, r_M_judged_74, r_M_judged_75, r_M_judged_78, r_M_judged_79, r_M_judged_81, r_M_judged_82, r_M_judged_85, r_M_judged_88, r_M_judged_89, r_M_judged_92, r_M_judged_93, r_M_judged_94, r_M_judged_97, r_M_judged_100, r_M_judged_101, r_M_judged_104, r_M_judged_105, r_M_judged_108, r_M_judged_109, Q293, e4, w32_gb, w32i, tn_add, tn_mul, Int.toNat_natCast, Int.toNat_zero, Int.reduceLE, Int.reduceLT, Int.reduceEq, Int.reduceNe, gb_T, gb_F, Int.reduceToNat, eq_self, true_or, or_true, and_true, true_and, and_self, ↓ite_gb0, ↓ite_gbn, ↓if_pos, ↓if_neg, if_true, if_false, not_true_eq_false, not_false_eq_true, gb_ne0, gb_eq0]
            refine hq _ _ ?_ rfl
            simp only [List.cons.injEq, vI_inj, vR_inj, and_true, true_and]
            exact ⟨(if_pos (Or.inr ⟨e2, e3⟩)).symm, by omega⟩
          · simp (disch := first | assumption | exact gb_01 _ | omega) only [r_M_judged_0, r_M_judged_1, r_M_judged_2, r_M_judged_5, r_M_judged_8, r_M_judged_10, r_M_judged_11, r_M_judged_12, r_M_judged_13, r_M_judged_14, r_M_judged_15, r_M_judged_18, r_M_judged_20, r_M_judged_21, r_M_judged_25, r_M_judged_26, r_M_judged_27, r_M_judged_30, r_M_judged_31, r_M_judged_34, r_M_judged_35, r_M_judged_37, r_M_judged_40, r_M_judged_41, r_M_judged_42, r_M_judged_43, r_M_judged_44, r_M_judged_48, r_M_judged_49, r_M_judged_52, r_M_judged_53, r_M_judged_54, r_M_judged_57, r_M_judged_58, r_M_judged_61, r_M_judged_62, r_M_judged_65, r_M_judged_66, r_M_judged_68, r_M_judged_71, r_M_judged_72, r_M_judged_73, r_M_judged_74, r_M_judged_75, r_M_judged_78, r_M_judged_79, r_M_judged_81, r_M_judged_82, r_M_judged_85, r_M_judged_88, r_M_judged_89, r_M_judged_92, r_M_judged_93, r_M_judged_94, r_M_judged_97, r_M_judged_100, r_M_judged_101, r_M_judged_104, r_M_judged_105, r_M_judged_108, r_M_judged_109, Q293, e4, w32_gb, w32i, tn_add, tn_mul, Int.toNat_natCast, Int.toNat_zero, Int.reduceLE, Int.reduceLT, Int.reduceEq, Int.reduceNe, gb_T, gb_F, Int.reduceToNat, eq_self, true_or, or_true, and_true, true_and, and_self, ↓ite_gb0, ↓ite_gbn, ↓if_pos, ↓if_neg, if_true, if_false, not_true_eq_false, not_false_eq_true, gb_ne0, gb_eq0]
            refine hq _ _ ?_ rfl
            simp only [List.cons.injEq, vI_inj, vR_inj, and_true, true_and]
            exact ⟨(if_neg (fun z => by rcases z with y | y; exact e1 y; exact e3 y.2)).symm, by omega⟩
        · simp (disch := first | assumption | exact gb_01 _ | omega) only [r_M_judged_0, r_M_judged_1, r_M_judged_2, r_M_judged_5, r_M_judged_8, r_M_judged_10, r_M_judged_11, r_M_judged_12, r_M_judged_13, r_M_judged_14, r_M_judged_15, r_M_judged_18, r_M_judged_20, r_M_judged_21, r_M_judged_25, r_M_judged_26, r_M_judged_27, r_M_judged_30, r_M_judged_31, r_M_judged_34, r_M_judged_35, r_M_judged_37, r_M_judged_40, r_M_judged_41, r_M_judged_42, r_M_judged_43, r_M_judged_44, r_M_judged_48, r_M_judged_49, r_M_judged_52, r_M_judged_53, r_M_judged_54, r_M_judged_57, r_M_judged_58, r_M_judged_61, r_M_judged_62, r_M_judged_65, r_M_judged_66, r_M_judged_68, r_M_judged_71, r_M_judged_72, r_M_judged_73, r_M_judged_74, r_M_judged_75, r_M_judged_78, r_M_judged_79, r_M_judged_81, r_M_judged_82, r_M_judged_85, r_M_judged_88, r_M_judged_89, r_M_judged_92, r_M_judged_93, r_M_judged_94, r_M_judged_97, r_M_judged_100, r_M_judged_101, r_M_judged_104, r_M_judged_105, r_M_judged_108, r_M_judged_109, Q293, e4, w32_gb, w32i, tn_add, tn_mul, Int.toNat_natCast, Int.toNat_zero, Int.reduceLE, Int.reduceLT, Int.reduceEq, Int.reduceNe, gb_T, gb_F, Int.reduceToNat, eq_self, true_or, or_true, and_true, true_and, and_self, ↓ite_gb0, ↓ite_gbn, ↓if_pos, ↓if_neg, if_true, if_false, not_true_eq_false, not_false_eq_true, gb_ne0, gb_eq0]
          refine hq _ _ ?_ rfl
          simp only [List.cons.injEq, vI_inj, vR_inj, and_true, true_and]
          exact ⟨(if_neg (fun z => by rcases z with y | y; exact e1 y; exact e2 y.1)).symm, by omega⟩
    · rw [r_M_judged_46]
      rcases bran_01 (σ 294) w a1 (σ 294 1).toNat with z | z
      · rw [z]
        simp (disch := first | assumption | exact gb_01 _ | omega) only [r_M_judged_0, r_M_judged_1, r_M_judged_2, r_M_judged_5, r_M_judged_8, r_M_judged_10, r_M_judged_11, r_M_judged_12, r_M_judged_13, r_M_judged_14, r_M_judged_15, r_M_judged_18, r_M_judged_20, r_M_judged_21, r_M_judged_25, r_M_judged_26, r_M_judged_27, r_M_judged_30, r_M_judged_31, r_M_judged_34, r_M_judged_35, r_M_judged_37, r_M_judged_40, r_M_judged_41, r_M_judged_42, r_M_judged_43, r_M_judged_44, r_M_judged_48, r_M_judged_49, r_M_judged_52, r_M_judged_53, r_M_judged_54, r_M_judged_57, r_M_judged_58, r_M_judged_61, r_M_judged_62, r_M_judged_65, r_M_judged_66, r_M_judged_68, r_M_judged_71, r_M_judged_72, r_M_judged_73, r_M_judged_74, r_M_judged_75, r_M_judged_78, r_M_judged_79, r_M_judged_81, r_M_judged_82, r_M_judged_85, r_M_judged_88, r_M_judged_89, r_M_judged_92, r_M_judged_93, r_M_judged_94, r_M_judged_97, r_M_judged_100, r_M_judged_101, r_M_judged_104, r_M_judged_105, r_M_judged_108, r_M_judged_109, Q293, e4, w32_gb, w32i, tn_add, tn_mul, Int.toNat_natCast, Int.toNat_zero, Int.reduceLE, Int.reduceLT, Int.reduceEq, Int.reduceNe, gb_T, gb_F, Int.reduceToNat, eq_self, true_or, or_true, and_true, true_and, and_self, ↓ite_gb0, ↓ite_gbn, ↓if_pos, ↓if_neg, if_true, if_false, not_true_eq_false, not_false_eq_true, gb_ne0, gb_eq0]
        exact hA
      · rw [z]
        simp (disch := first | assumption | exact gb_01 _ | omega) only [r_M_judged_0, r_M_judged_1, r_M_judged_2, r_M_judged_5, r_M_judged_8, r_M_judged_10, r_M_judged_11, r_M_judged_12, r_M_judged_13, r_M_judged_14, r_M_judged_15, r_M_judged_18, r_M_judged_20, r_M_judged_21, r_M_judged_25, r_M_judged_26, r_M_judged_27, r_M_judged_30, r_M_judged_31, r_M_judged_34, r_M_judged_35, r_M_judged_37, r_M_judged_40, r_M_judged_41, r_M_judged_42, r_M_judged_43, r_M_judged_44, r_M_judged_48, r_M_judged_49, r_M_judged_52, r_M_judged_53, r_M_judged_54, r_M_judged_57, r_M_judged_58, r_M_judged_61, r_M_judged_62, r_M_judged_65, r_M_judged_66, r_M_judged_68, r_M_judged_71, r_M_judged_72, r_M_judged_73, r_M_judged_74, r_M_judged_75, r_M_judged_78, r_M_judged_79, r_M_judged_81, r_M_judged_82, r_M_judged_85, r_M_judged_88, r_M_judged_89, r_M_judged_92, r_M_judged_93, r_M_judged_94, r_M_judged_97, r_M_judged_100, r_M_judged_101, r_M_judged_104, r_M_judged_105, r_M_judged_108, r_M_judged_109, Q293, e4, w32_gb, w32i, tn_add, tn_mul, Int.toNat_natCast, Int.toNat_zero, Int.reduceLE, Int.reduceLT, Int.reduceEq, Int.reduceNe, gb_T, gb_F, Int.reduceToNat, eq_self, true_or, or_true, and_true, true_and, and_self, ↓ite_gb0, ↓ite_gbn, ↓if_pos, ↓if_neg, if_true, if_false, not_true_eq_false, not_false_eq_true, gb_ne0, gb_eq0]
        exact hA
  by_cases e : brrl (σ 294) 0 a1 (σ 294 7) 0 < 0
  · rw [if_pos e] at hx
    rw [← hx] at goal
    simp (disch := first | assumption | exact gb_01 _ | omega) only [r_M_judged_0, r_M_judged_1, r_M_judged_2, r_M_judged_5, r_M_judged_8, r_M_judged_10, r_M_judged_11, r_M_judged_12, r_M_judged_13, r_M_judged_14, r_M_judged_15, r_M_judged_18, r_M_judged_20, r_M_judged_21, r_M_judged_25, r_M_judged_26, r_M_judged_27, r_M_judged_30, r_M_judged_31, r_M_judged_34, r_M_judged_35, r_M_judged_37, r_M_judged_40, r_M_judged_41, r_M_judged_42, r_M_judged_43, r_M_judged_44, r_M_judged_48, r_M_judged_49, r_M_judged_52, r_M_judged_53, r_M_judged_54, r_M_judged_57, r_M_judged_58, r_M_judged_61, r_M_judged_62, r_M_judged_65, r_M_judged_66, r_M_judged_68, r_M_judged_71, r_M_judged_72, r_M_judged_73, r_M_judged_74, r_M_judged_75, r_M_judged_78, r_M_judged_79, r_M_judged_81, r_M_judged_82, r_M_judged_85, r_M_judged_88, r_M_judged_89, r_M_judged_92, r_M_judged_93, r_M_judged_94, r_M_judged_97, r_M_judged_100, r_M_judged_101, r_M_judged_104, r_M_judged_105, r_M_judged_108, r_M_judged_109, c_M_judged_22 hR, Option.toList, List.singleton_append, List.cons_append, List.nil_append, List.append_nil, Q293, w32_gb, w32i, tn_add, tn_mul, Int.toNat_natCast, Int.toNat_zero, Int.reduceLE, Int.reduceLT, Int.reduceEq, Int.reduceNe, gb_T, gb_F, Int.reduceToNat, eq_self, true_or, or_true, and_true, true_and, and_self, ↓ite_gb0, ↓ite_gbn, ↓if_pos, ↓if_neg, if_true, if_false, not_true_eq_false, not_false_eq_true, gb_ne0, gb_eq0]
    rw [← hx]
    exact goal
  · rw [if_neg e] at hx
    rw [← hx] at goal
    simp (disch := first | assumption | exact gb_01 _ | omega) only [r_M_judged_0, r_M_judged_1, r_M_judged_2, r_M_judged_5, r_M_judged_8, r_M_judged_10, r_M_judged_11, r_M_judged_12, r_M_judged_13, r_M_judged_14, r_M_judged_15, r_M_judged_18, r_M_judged_20, r_M_judged_21, r_M_judged_25, r_M_judged_26, r_M_judged_27, r_M_judged_30, r_M_judged_31, r_M_judged_34, r_M_judged_35, r_M_judged_37, r_M_judged_40, r_M_judged_41, r_M_judged_42, r_M_judged_43, r_M_judged_44, r_M_judged_48, r_M_judged_49, r_M_judged_52, r_M_judged_53, r_M_judged_54, r_M_judged_57, r_M_judged_58, r_M_judged_61, r_M_judged_62, r_M_judged_65, r_M_judged_66, r_M_judged_68, r_M_judged_71, r_M_judged_72, r_M_judged_73, r_M_judged_74, r_M_judged_75, r_M_judged_78, r_M_judged_79, r_M_judged_81, r_M_judged_82, r_M_judged_85, r_M_judged_88, r_M_judged_89, r_M_judged_92, r_M_judged_93, r_M_judged_94, r_M_judged_97, r_M_judged_100, r_M_judged_101, r_M_judged_104, r_M_judged_105, r_M_judged_108, r_M_judged_109, c_M_judged_22 hR, Option.toList, List.singleton_append, List.cons_append, List.nil_append, List.append_nil, Q293, w32_gb, w32i, tn_add, tn_mul, Int.toNat_natCast, Int.toNat_zero, Int.reduceLE, Int.reduceLT, Int.reduceEq, Int.reduceNe, gb_T, gb_F, Int.reduceToNat, eq_self, true_or, or_true, and_true, true_and, and_self, ↓ite_gb0, ↓ite_gbn, ↓if_pos, ↓if_neg, if_true, if_false, not_true_eq_false, not_false_eq_true, gb_ne0, gb_eq0]
    rw [← hx]
    exact goal
theorem op_judged (a1 : Int) : Op 53 275 [vI a1] := by
  intro L d σ hI
  obtain ⟨hw, hc⟩ := iB hI
  have w1 := hw.1
  have w2 := hw.2.1
  have c1 := hc.1
  have c2 := hc.2.1
  have hp : w32 (σ 29 9 - 1) = σ 29 9 - 1 := w32i (by omega)
  have hm : w32 (σ 294 1 - 1) = σ 294 1 - 1 := w32i (by omega)
  
  obtain ⟨ht, hct⟩ := iT hI
  have hM := (iM hI).2.1
  by_cases h : 0 ≤ a1 ∧ a1 ≤ σ 29 8
  · obtain ⟨σ1, hR1, hA1⟩ := sp_X_judged (L := L) (d := d + 996) (a1 := a1) hw hc ht hct hM (by omega)
    have e : σ1 294 = σ 294 := funext (fun j => hA1 294 j (by unfold ZSc; omega))
    obtain ⟨σ2, hR2, hA2⟩ := sp_M_judged (L := L) (d := d + 995) (σ := σ1) (a1 := a1) (by rw [e]; exact hw) (by rw [e]; exact ht) (by rw [e]; omega)
    rw [e] at hR2
    exact ⟨_, _, _, hR1, hR2, Inv_free hI (Agr_trans (Agr_mono hA1 (fun k j hk => by unfold ZSc at hk; unfold ZFr; omega)) (Agr_mono hA2 (fun k j hk => by unfold ZFr; omega)))⟩
  · exact ⟨_, _, _, sp_X_judged_b h, sp_M_judged_b (by omega), hI⟩
