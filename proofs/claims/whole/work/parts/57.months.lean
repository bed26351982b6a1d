/-! months. -/
variable {L d : Nat} {σ σ1 : Nat → Nat → Int} {Q : Option gV → (Nat → Nat → Int) → Prop} {a0 a1 a2 a3 a4 a5 a6 a7 a8 a9 a10 a11 s0 s1 s2 s3 s4 s5 s6 s7 s8 s9 : Int} {l0 l1 l2 l3 l4 l5 l6 l7 l8 l9 l10 l11 t0 t1 t2 t3 t4 t5 t6 t7 t8 t9 : gV} {b0 b1 b2 b3 b4 b5 b6 b7 b8 b9 b10 b11 c0 c1 c2 c3 c4 c5 c6 c7 c8 c9 : Nat} {r : Option gV}
theorem r_M_month_0 : Wp L d k_M_month 0 [vR b0, l1, l2, l3, l4] [] σ Q ↔ Wp L d k_M_month 1 [vR b0, l1, l2, l3, l4] [vR b0] σ Q := wp_aload rfl rfl
theorem r_M_month_1 (h : gK c0 = 12) : Wp L d k_M_month 1 [l0, l1, l2, l3, l4] [vR c0] σ Q ↔ Wp L d k_M_month 4 [l0, l1, l2, l3, l4] [vR (gq c0 0)] σ Q := wp_getR (c := 3200) rfl rfl rfl rfl rfl h
theorem r_M_month_4 : Wp L d k_M_month 4 [l0, l1, l2, l3, l4] [vR c0] σ Q ↔ Wp L d k_M_month 6 [l0, l1, l2, l3, l4] [vI 8, vR c0] σ Q := wp_push rfl
theorem r_M_month_6 (h : gK c0 = 100) (hx : 0 ≤ s1 ∧ s1 < gN c0) : Wp L d k_M_month 6 [l0, l1, l2, l3, l4] [vI s1, vR c0] σ Q ↔ Wp L d k_M_month 7 [l0, l1, l2, l3, l4] [vI (σ c0 s1.toNat)] σ Q := wp_iald rfl h hx
theorem r_M_month_7 : Wp L d k_M_month 7 [l0, vI a1, l2, l3, l4] [vI s0] σ Q ↔ Wp L d k_M_month 8 [l0, vI a1, l2, l3, l4] [vI a1, vI s0] σ Q := wp_iload rfl rfl
theorem r_M_month_8 : Wp L d k_M_month 8 [l0, l1, l2, l3, l4] [vI s1, vI s0] σ Q ↔ Wp L d k_M_month 9 [l0, l1, l2, l3, l4] [vI (w32 (s0 * s1))] σ Q := wp_imul rfl
theorem r_M_month_9 : Wp L d k_M_month 9 [l0, l1, l2, l3, l4] [vI s0] σ Q ↔ Wp L d k_M_month 11 [l0, l1, l2, l3, l4] [vI 100, vI s0] σ Q := wp_push rfl
theorem r_M_month_11 (h : s1 ≠ 0) : Wp L d k_M_month 11 [l0, l1, l2, l3, l4] [vI s1, vI s0] σ Q ↔ Wp L d k_M_month 12 [l0, l1, l2, l3, l4] [vI (w32 (s0.tdiv s1))] σ Q := wp_idiv rfl h
theorem r_M_month_12 : Wp L d k_M_month 12 [l0, vI a1, l2, l3, l4] [vI s0] σ Q ↔ Wp L d k_M_month 13 [l0, vI a1, vI s0, l3, l4] [] σ Q := wp_istore (i := 2) (ls := [l0, vI a1, l2, l3, l4]) rfl rfl
theorem r_M_month_13 : Wp L d k_M_month 13 [l0, l1, l2, l3, l4] [] σ Q ↔ Wp L d k_M_month 14 [l0, l1, l2, l3, l4] [vI 0] σ Q := wp_push rfl
theorem r_M_month_14 : Wp L d k_M_month 14 [l0, l1, vI a2, l3, l4] [vI s0] σ Q ↔ Wp L d k_M_month 15 [l0, l1, vI a2, vI s0, l4] [] σ Q := wp_istore (i := 3) (ls := [l0, l1, vI a2, l3, l4]) rfl rfl
theorem r_M_month_15 : Wp L d k_M_month 15 [l0, l1, l2, vI a3, l4] [] σ Q ↔ Wp L d k_M_month 16 [l0, l1, l2, vI a3, l4] [vI a3] σ Q := wp_iload rfl rfl
theorem r_M_month_16 : Wp L d k_M_month 16 [vR b0, l1, l2, l3, l4] [vI s0] σ Q ↔ Wp L d k_M_month 17 [vR b0, l1, l2, l3, l4] [vR b0, vI s0] σ Q := wp_aload rfl rfl
theorem r_M_month_17 (h : gK c1 = 12) : Wp L d k_M_month 17 [l0, l1, l2, l3, l4] [vR c1, vI s0] σ Q ↔ Wp L d k_M_month 20 [l0, l1, l2, l3, l4] [vR (gq c1 0), vI s0] σ Q := wp_getR (c := 3200) rfl rfl rfl rfl rfl h
theorem r_M_month_20 : Wp L d k_M_month 20 [l0, l1, l2, l3, l4] [vR c1, vI s0] σ Q ↔ Wp L d k_M_month 21 [l0, l1, l2, l3, l4] [vI 1, vR c1, vI s0] σ Q := wp_push rfl
theorem r_M_month_21 (h : gK c1 = 100) (hx : 0 ≤ s2 ∧ s2 < gN c1) : Wp L d k_M_month 21 [l0, l1, l2, l3, l4] [vI s2, vR c1, vI s0] σ Q ↔ Wp L d k_M_month 22 [l0, l1, l2, l3, l4] [vI (σ c1 s2.toNat), vI s0] σ Q := wp_iald rfl h hx
theorem r_M_month_22 : Wp L d k_M_month 22 [l0, l1, l2, l3, l4] [vI s1, vI s0] σ Q ↔ (if s1 ≤ s0 then Wp L d k_M_month 78 [l0, l1, l2, l3, l4] [] σ Q else Wp L d k_M_month 25 [l0, l1, l2, l3, l4] [] σ Q) := wp_cmp_ge rfl
theorem r_M_month_25 : Wp L d k_M_month 25 [vR b0, l1, l2, l3, l4] [] σ Q ↔ Wp L d k_M_month 26 [vR b0, l1, l2, l3, l4] [vR b0] σ Q := wp_aload rfl rfl
theorem r_M_month_26 : Wp L d k_M_month 26 [l0, l1, l2, vI a3, l4] [vR c0] σ Q ↔ Wp L d k_M_month 27 [l0, l1, l2, vI a3, l4] [vI a3, vR c0] σ Q := wp_iload rfl rfl
theorem r_M_month_30 : Wp L d k_M_month 30 [l0, l1, l2, l3, l4] [vI s0] σ Q ↔ (if s0 = 0 then Wp L d k_M_month 72 [l0, l1, l2, l3, l4] [] σ Q else Wp L d k_M_month 33 [l0, l1, l2, l3, l4] [] σ Q) := wp_if_eq rfl
theorem r_M_month_33 : Wp L d k_M_month 33 [vR b0, l1, l2, l3, l4] [] σ Q ↔ Wp L d k_M_month 34 [vR b0, l1, l2, l3, l4] [vR b0] σ Q := wp_aload rfl rfl
theorem r_M_month_34 : Wp L d k_M_month 34 [l0, l1, l2, vI a3, l4] [vR c0] σ Q ↔ Wp L d k_M_month 35 [l0, l1, l2, vI a3, l4] [vI a3, vR c0] σ Q := wp_iload rfl rfl
theorem r_M_month_38 : Wp L d k_M_month 38 [l0, l1, l2, l3, l4] [vI s0] σ Q ↔ (if s0 = 0 then Wp L d k_M_month 72 [l0, l1, l2, l3, l4] [] σ Q else Wp L d k_M_month 41 [l0, l1, l2, l3, l4] [] σ Q) := wp_if_eq rfl
theorem r_M_month_41 : Wp L d k_M_month 41 [vR b0, l1, l2, l3, l4] [] σ Q ↔ Wp L d k_M_month 42 [vR b0, l1, l2, l3, l4] [vR b0] σ Q := wp_aload rfl rfl
theorem r_M_month_42 (h : gK c0 = 12) : Wp L d k_M_month 42 [l0, l1, l2, l3, l4] [vR c0] σ Q ↔ Wp L d k_M_month 45 [l0, l1, l2, l3, l4] [vR (gq c0 0)] σ Q := wp_getR (c := 3200) rfl rfl rfl rfl rfl h
theorem r_M_month_45 : Wp L d k_M_month 45 [vR b0, l1, l2, l3, l4] [vR c0] σ Q ↔ Wp L d k_M_month 46 [vR b0, l1, l2, l3, l4] [vR b0, vR c0] σ Q := wp_aload rfl rfl
theorem r_M_month_46 : Wp L d k_M_month 46 [l0, l1, l2, vI a3, l4] [vR c1, vR c0] σ Q ↔ Wp L d k_M_month 47 [l0, l1, l2, vI a3, l4] [vI a3, vR c1, vR c0] σ Q := wp_iload rfl rfl
theorem r_M_month_50 : Wp L d k_M_month 50 [l0, l1, l2, l3, l4] [vI s1, vR c0] σ Q ↔ Wp L d k_M_month 51 [l0, l1, l2, l3, l4] [vI 5, vI s1, vR c0] σ Q := wp_push rfl
theorem r_M_month_51 : Wp L d k_M_month 51 [l0, l1, l2, l3, l4] [vI s2, vI s1, vR c0] σ Q ↔ Wp L d k_M_month 52 [l0, l1, l2, l3, l4] [vI (w32 (s1 + s2)), vR c0] σ Q := wp_iadd rfl
theorem r_M_month_52 : Wp L d k_M_month 52 [l0, l1, l2, l3, l4] [vI s1, vR c0] σ Q ↔ Wp L d k_M_month 54 [l0, l1, l2, l3, l4] [vI 99, vI s1, vR c0] σ Q := wp_push rfl
theorem r_M_month_54 : Wp L d k_M_month 54 [vR b0, l1, l2, l3, l4] [vI s2, vI s1, vR c0] σ Q ↔ Wp L d k_M_month 55 [vR b0, l1, l2, l3, l4] [vR b0, vI s2, vI s1, vR c0] σ Q := wp_aload rfl rfl
theorem r_M_month_55 (h : gK c3 = 12) : Wp L d k_M_month 55 [l0, l1, l2, l3, l4] [vR c3, vI s2, vI s1, vR c0] σ Q ↔ Wp L d k_M_month 58 [l0, l1, l2, l3, l4] [vR (gq c3 0), vI s2, vI s1, vR c0] σ Q := wp_getR (c := 3200) rfl rfl rfl rfl rfl h
theorem r_M_month_58 : Wp L d k_M_month 58 [vR b0, l1, l2, l3, l4] [vR c3, vI s2, vI s1, vR c0] σ Q ↔ Wp L d k_M_month 59 [vR b0, l1, l2, l3, l4] [vR b0, vR c3, vI s2, vI s1, vR c0] σ Q := wp_aload rfl rfl
theorem r_M_month_59 : Wp L d k_M_month 59 [l0, l1, l2, vI a3, l4] [vR c4, vR c3, vI s2, vI s1, vR c0] σ Q ↔ Wp L d k_M_month 60 [l0, l1, l2, vI a3, l4] [vI a3, vR c4, vR c3, vI s2, vI s1, vR c0] σ Q := wp_iload rfl rfl
theorem r_M_month_63 : Wp L d k_M_month 63 [l0, l1, l2, l3, l4] [vI s4, vR c3, vI s2, vI s1, vR c0] σ Q ↔ Wp L d k_M_month 64 [l0, l1, l2, l3, l4] [vI 5, vI s4, vR c3, vI s2, vI s1, vR c0] σ Q := wp_push rfl
theorem r_M_month_64 : Wp L d k_M_month 64 [l0, l1, l2, l3, l4] [vI s5, vI s4, vR c3, vI s2, vI s1, vR c0] σ Q ↔ Wp L d k_M_month 65 [l0, l1, l2, l3, l4] [vI (w32 (s4 + s5)), vR c3, vI s2, vI s1, vR c0] σ Q := wp_iadd rfl
theorem r_M_month_65 (h : gK c3 = 100) (hx : 0 ≤ s4 ∧ s4 < gN c3) : Wp L d k_M_month 65 [l0, l1, l2, l3, l4] [vI s4, vR c3, vI s2, vI s1, vR c0] σ Q ↔ Wp L d k_M_month 66 [l0, l1, l2, l3, l4] [vI (σ c3 s4.toNat), vI s2, vI s1, vR c0] σ Q := wp_iald rfl h hx
theorem r_M_month_66 : Wp L d k_M_month 66 [l0, l1, vI a2, l3, l4] [vI s3, vI s2, vI s1, vR c0] σ Q ↔ Wp L d k_M_month 67 [l0, l1, vI a2, l3, l4] [vI a2, vI s3, vI s2, vI s1, vR c0] σ Q := wp_iload rfl rfl
theorem r_M_month_67 : Wp L d k_M_month 67 [l0, l1, l2, l3, l4] [vI s4, vI s3, vI s2, vI s1, vR c0] σ Q ↔ Wp L d k_M_month 68 [l0, l1, l2, l3, l4] [vI (w32 (s3 + s4)), vI s2, vI s1, vR c0] σ Q := wp_iadd rfl
theorem r_M_month_71 (h : gK c0 = 100) (hx : 0 ≤ s1 ∧ s1 < gN c0) : Wp L d k_M_month 71 [l0, l1, l2, l3, l4] [vI s2, vI s1, vR c0] σ Q ↔ Wp L d k_M_month 72 [l0, l1, l2, l3, l4] [] (gupd σ c0 s1.toNat s2) Q := wp_iast rfl h hx
theorem r_M_month_72 : Wp L d k_M_month 72 [l0, l1, vI a2, vI a3, l4] [] σ Q ↔ Wp L d k_M_month 75 [l0, l1, vI a2, vI (w32 (a3 + 1)), l4] [] σ Q := wp_iinc (i := 3) (ls := [l0, l1, vI a2, vI a3, l4]) rfl rfl
theorem r_M_month_75 : Wp L d k_M_month 75 [l0, l1, l2, l3, l4] [] σ Q ↔ Wp L d k_M_month 15 [l0, l1, l2, l3, l4] [] σ Q := wp_goto rfl
theorem r_M_month_78 : Wp L d k_M_month 78 [l0, l1, l2, l3, l4] [] σ Q ↔ Wp L d k_M_month 79 [l0, l1, l2, l3, l4] [vI 0] σ Q := wp_push rfl
theorem r_M_month_79 : Wp L d k_M_month 79 [l0, l1, vI a2, l3, l4] [vI s0] σ Q ↔ Wp L d k_M_month 80 [l0, l1, vI a2, vI s0, l4] [] σ Q := wp_istore (i := 3) (ls := [l0, l1, vI a2, l3, l4]) rfl rfl
theorem r_M_month_80 : Wp L d k_M_month 80 [l0, l1, l2, vI a3, l4] [] σ Q ↔ Wp L d k_M_month 81 [l0, l1, l2, vI a3, l4] [vI a3] σ Q := wp_iload rfl rfl
theorem r_M_month_81 : Wp L d k_M_month 81 [vR b0, l1, l2, l3, l4] [vI s0] σ Q ↔ Wp L d k_M_month 82 [vR b0, l1, l2, l3, l4] [vR b0, vI s0] σ Q := wp_aload rfl rfl
theorem r_M_month_82 (h : gK c1 = 12) : Wp L d k_M_month 82 [l0, l1, l2, l3, l4] [vR c1, vI s0] σ Q ↔ Wp L d k_M_month 85 [l0, l1, l2, l3, l4] [vR (gq c1 0), vI s0] σ Q := wp_getR (c := 3200) rfl rfl rfl rfl rfl h
theorem r_M_month_85 : Wp L d k_M_month 85 [l0, l1, l2, l3, l4] [vR c1, vI s0] σ Q ↔ Wp L d k_M_month 86 [l0, l1, l2, l3, l4] [vI 1, vR c1, vI s0] σ Q := wp_push rfl
theorem r_M_month_86 (h : gK c1 = 100) (hx : 0 ≤ s2 ∧ s2 < gN c1) : Wp L d k_M_month 86 [l0, l1, l2, l3, l4] [vI s2, vR c1, vI s0] σ Q ↔ Wp L d k_M_month 87 [l0, l1, l2, l3, l4] [vI (σ c1 s2.toNat), vI s0] σ Q := wp_iald rfl h hx
theorem r_M_month_87 : Wp L d k_M_month 87 [l0, l1, l2, l3, l4] [vI s1, vI s0] σ Q ↔ (if s1 ≤ s0 then Wp L d k_M_month 154 [l0, l1, l2, l3, l4] [] σ Q else Wp L d k_M_month 90 [l0, l1, l2, l3, l4] [] σ Q) := wp_cmp_ge rfl
theorem r_M_month_90 : Wp L d k_M_month 90 [vR b0, l1, l2, l3, l4] [] σ Q ↔ Wp L d k_M_month 91 [vR b0, l1, l2, l3, l4] [vR b0] σ Q := wp_aload rfl rfl
theorem r_M_month_91 : Wp L d k_M_month 91 [l0, l1, l2, vI a3, l4] [vR c0] σ Q ↔ Wp L d k_M_month 92 [l0, l1, l2, vI a3, l4] [vI a3, vR c0] σ Q := wp_iload rfl rfl
theorem r_M_month_95 : Wp L d k_M_month 95 [l0, l1, l2, vI a3, l4] [vI s0] σ Q ↔ Wp L d k_M_month 97 [l0, l1, l2, vI a3, vI s0] [] σ Q := wp_istore (i := 4) (ls := [l0, l1, l2, vI a3, l4]) rfl rfl
theorem r_M_month_97 : Wp L d k_M_month 97 [vR b0, l1, l2, l3, l4] [] σ Q ↔ Wp L d k_M_month 98 [vR b0, l1, l2, l3, l4] [vR b0] σ Q := wp_aload rfl rfl
theorem r_M_month_98 : Wp L d k_M_month 98 [l0, l1, l2, vI a3, l4] [vR c0] σ Q ↔ Wp L d k_M_month 99 [l0, l1, l2, vI a3, l4] [vI a3, vR c0] σ Q := wp_iload rfl rfl
theorem r_M_month_102 : Wp L d k_M_month 102 [l0, l1, l2, l3, l4] [vI s0] σ Q ↔ (if s0 = 0 then Wp L d k_M_month 148 [l0, l1, l2, l3, l4] [] σ Q else Wp L d k_M_month 105 [l0, l1, l2, l3, l4] [] σ Q) := wp_if_eq rfl
theorem r_M_month_105 : Wp L d k_M_month 105 [vR b0, l1, l2, l3, l4] [] σ Q ↔ Wp L d k_M_month 106 [vR b0, l1, l2, l3, l4] [vR b0] σ Q := wp_aload rfl rfl
theorem r_M_month_106 : Wp L d k_M_month 106 [l0, l1, l2, l3, l4] [vR c0] σ Q ↔ Wp L d k_M_month 107 [l0, l1, l2, l3, l4] [vI 2, vR c0] σ Q := wp_push rfl
theorem r_M_month_107 : Wp L d k_M_month 107 [vR b0, l1, l2, l3, l4] [vI s1, vR c0] σ Q ↔ Wp L d k_M_month 108 [vR b0, l1, l2, l3, l4] [vR b0, vI s1, vR c0] σ Q := wp_aload rfl rfl
theorem r_M_month_108 (h : gK c2 = 12) : Wp L d k_M_month 108 [l0, l1, l2, l3, l4] [vR c2, vI s1, vR c0] σ Q ↔ Wp L d k_M_month 111 [l0, l1, l2, l3, l4] [vR (gq c2 0), vI s1, vR c0] σ Q := wp_getR (c := 3200) rfl rfl rfl rfl rfl h
theorem r_M_month_111 : Wp L d k_M_month 111 [l0, l1, l2, l3, vI a4] [vR c2, vI s1, vR c0] σ Q ↔ Wp L d k_M_month 113 [l0, l1, l2, l3, vI a4] [vI a4, vR c2, vI s1, vR c0] σ Q := wp_iload rfl rfl
theorem r_M_month_113 : Wp L d k_M_month 113 [l0, l1, l2, l3, l4] [vI s3, vR c2, vI s1, vR c0] σ Q ↔ Wp L d k_M_month 114 [l0, l1, l2, l3, l4] [vI 5, vI s3, vR c2, vI s1, vR c0] σ Q := wp_push rfl
theorem r_M_month_114 : Wp L d k_M_month 114 [l0, l1, l2, l3, l4] [vI s4, vI s3, vR c2, vI s1, vR c0] σ Q ↔ Wp L d k_M_month 115 [l0, l1, l2, l3, l4] [vI (w32 (s3 + s4)), vR c2, vI s1, vR c0] σ Q := wp_iadd rfl
theorem r_M_month_115 (h : gK c2 = 100) (hx : 0 ≤ s3 ∧ s3 < gN c2) : Wp L d k_M_month 115 [l0, l1, l2, l3, l4] [vI s3, vR c2, vI s1, vR c0] σ Q ↔ Wp L d k_M_month 116 [l0, l1, l2, l3, l4] [vI (σ c2 s3.toNat), vI s1, vR c0] σ Q := wp_iald rfl h hx
theorem r_M_month_116 : Wp L d k_M_month 116 [vR b0, l1, l2, l3, l4] [vI s2, vI s1, vR c0] σ Q ↔ Wp L d k_M_month 117 [vR b0, l1, l2, l3, l4] [vR b0, vI s2, vI s1, vR c0] σ Q := wp_aload rfl rfl
theorem r_M_month_117 (h : gK c3 = 12) : Wp L d k_M_month 117 [l0, l1, l2, l3, l4] [vR c3, vI s2, vI s1, vR c0] σ Q ↔ Wp L d k_M_month 120 [l0, l1, l2, l3, l4] [vR (gq c3 0), vI s2, vI s1, vR c0] σ Q := wp_getR (c := 3200) rfl rfl rfl rfl rfl h
theorem r_M_month_120 : Wp L d k_M_month 120 [l0, l1, l2, l3, vI a4] [vR c3, vI s2, vI s1, vR c0] σ Q ↔ Wp L d k_M_month 122 [l0, l1, l2, l3, vI a4] [vI a4, vR c3, vI s2, vI s1, vR c0] σ Q := wp_iload rfl rfl
theorem r_M_month_122 : Wp L d k_M_month 122 [l0, l1, l2, l3, l4] [vI s4, vR c3, vI s2, vI s1, vR c0] σ Q ↔ Wp L d k_M_month 123 [l0, l1, l2, l3, l4] [vI 4, vI s4, vR c3, vI s2, vI s1, vR c0] σ Q := wp_push rfl
theorem r_M_month_123 : Wp L d k_M_month 123 [l0, l1, l2, l3, l4] [vI s5, vI s4, vR c3, vI s2, vI s1, vR c0] σ Q ↔ Wp L d k_M_month 124 [l0, l1, l2, l3, l4] [vI (w32 (s4 + s5)), vR c3, vI s2, vI s1, vR c0] σ Q := wp_iadd rfl
theorem r_M_month_124 (h : gK c3 = 100) (hx : 0 ≤ s4 ∧ s4 < gN c3) : Wp L d k_M_month 124 [l0, l1, l2, l3, l4] [vI s4, vR c3, vI s2, vI s1, vR c0] σ Q ↔ Wp L d k_M_month 125 [l0, l1, l2, l3, l4] [vI (σ c3 s4.toNat), vI s2, vI s1, vR c0] σ Q := wp_iald rfl h hx
theorem r_M_month_125 : Wp L d k_M_month 125 [vR b0, l1, l2, l3, l4] [vI s3, vI s2, vI s1, vR c0] σ Q ↔ Wp L d k_M_month 126 [vR b0, l1, l2, l3, l4] [vR b0, vI s3, vI s2, vI s1, vR c0] σ Q := wp_aload rfl rfl
theorem r_M_month_126 (h : gK c4 = 12) : Wp L d k_M_month 126 [l0, l1, l2, l3, l4] [vR c4, vI s3, vI s2, vI s1, vR c0] σ Q ↔ Wp L d k_M_month 129 [l0, l1, l2, l3, l4] [vR (gq c4 0), vI s3, vI s2, vI s1, vR c0] σ Q := wp_getR (c := 3200) rfl rfl rfl rfl rfl h
theorem r_M_month_129 : Wp L d k_M_month 129 [l0, l1, l2, l3, vI a4] [vR c4, vI s3, vI s2, vI s1, vR c0] σ Q ↔ Wp L d k_M_month 131 [l0, l1, l2, l3, vI a4] [vI a4, vR c4, vI s3, vI s2, vI s1, vR c0] σ Q := wp_iload rfl rfl
theorem r_M_month_131 (h : gK c4 = 100) (hx : 0 ≤ s5 ∧ s5 < gN c4) : Wp L d k_M_month 131 [l0, l1, l2, l3, l4] [vI s5, vR c4, vI s3, vI s2, vI s1, vR c0] σ Q ↔ Wp L d k_M_month 132 [l0, l1, l2, l3, l4] [vI (σ c4 s5.toNat), vI s3, vI s2, vI s1, vR c0] σ Q := wp_iald rfl h hx
theorem c_M_month_132 (hR : Run L d 261 [vR c0, vI s1, vI s2, vI s3, vI s4] σ r σ1) (h : gK c0 = 12) : Wp L (d + 1) k_M_month 132 [l0, l1, l2, l3, l4] [vI s4, vI s3, vI s2, vI s1, vR c0] σ Q ↔ Wp L (d + 1) k_M_month 135 [l0, l1, l2, l3, l4] (r.toList ++ []) σ1 Q := wp_callR (as := [vR c0, vI s1, vI s2, vI s3, vI s4]) (rest := []) rfl rfl rfl rfl rfl rfl rfl (grecv_k (by rw [h]) rfl) hR
theorem r_M_month_135 : Wp L d k_M_month 135 [l0, l1, l2, l3, l4] [vI s0] σ Q ↔ (if s0 = 0 then Wp L d k_M_month 148 [l0, l1, l2, l3, l4] [] σ Q else Wp L d k_M_month 138 [l0, l1, l2, l3, l4] [] σ Q) := wp_if_eq rfl
theorem r_M_month_138 : Wp L d k_M_month 138 [vR b0, l1, l2, l3, l4] [] σ Q ↔ Wp L d k_M_month 139 [vR b0, l1, l2, l3, l4] [vR b0] σ Q := wp_aload rfl rfl
theorem r_M_month_139 (h : gK c0 = 12) : Wp L d k_M_month 139 [l0, l1, l2, l3, l4] [vR c0] σ Q ↔ Wp L d k_M_month 142 [l0, l1, l2, l3, l4] [vR (gq c0 0)] σ Q := wp_getR (c := 3200) rfl rfl rfl rfl rfl h
theorem r_M_month_142 : Wp L d k_M_month 142 [l0, l1, l2, l3, vI a4] [vR c0] σ Q ↔ Wp L d k_M_month 144 [l0, l1, l2, l3, vI a4] [vI a4, vR c0] σ Q := wp_iload rfl rfl
theorem r_M_month_144 : Wp L d k_M_month 144 [l0, l1, l2, l3, l4] [vI s1, vR c0] σ Q ↔ Wp L d k_M_month 145 [l0, l1, l2, l3, l4] [vI 5, vI s1, vR c0] σ Q := wp_push rfl
theorem r_M_month_145 : Wp L d k_M_month 145 [l0, l1, l2, l3, l4] [vI s2, vI s1, vR c0] σ Q ↔ Wp L d k_M_month 146 [l0, l1, l2, l3, l4] [vI (w32 (s1 + s2)), vR c0] σ Q := wp_iadd rfl
theorem r_M_month_146 : Wp L d k_M_month 146 [l0, l1, l2, l3, l4] [vI s1, vR c0] σ Q ↔ Wp L d k_M_month 147 [l0, l1, l2, l3, l4] [vI 0, vI s1, vR c0] σ Q := wp_push rfl
theorem r_M_month_147 (h : gK c0 = 100) (hx : 0 ≤ s1 ∧ s1 < gN c0) : Wp L d k_M_month 147 [l0, l1, l2, l3, l4] [vI s2, vI s1, vR c0] σ Q ↔ Wp L d k_M_month 148 [l0, l1, l2, l3, l4] [] (gupd σ c0 s1.toNat s2) Q := wp_iast rfl h hx
theorem r_M_month_148 : Wp L d k_M_month 148 [l0, l1, vI a2, vI a3, l4] [] σ Q ↔ Wp L d k_M_month 151 [l0, l1, vI a2, vI (w32 (a3 + 1)), l4] [] σ Q := wp_iinc (i := 3) (ls := [l0, l1, vI a2, vI a3, l4]) rfl rfl
theorem r_M_month_151 : Wp L d k_M_month 151 [l0, l1, l2, l3, l4] [] σ Q ↔ Wp L d k_M_month 80 [l0, l1, l2, l3, l4] [] σ Q := wp_goto rfl
theorem r_M_month_154 : Wp L d k_M_month 154 [vR b0, l1, l2, l3, l4] [] σ Q ↔ Wp L d k_M_month 155 [vR b0, l1, l2, l3, l4] [vR b0] σ Q := wp_aload rfl rfl
theorem r_M_month_155 (h : gK c0 = 12) : Wp L d k_M_month 155 [l0, l1, l2, l3, l4] [vR c0] σ Q ↔ Wp L d k_M_month 158 [l0, l1, l2, l3, l4] [vR (gq c0 0)] σ Q := wp_getR (c := 3200) rfl rfl rfl rfl rfl h
theorem r_M_month_158 : Wp L d k_M_month 158 [l0, l1, l2, l3, l4] [vR c0] σ Q ↔ Wp L d k_M_month 160 [l0, l1, l2, l3, l4] [vI 7, vR c0] σ Q := wp_push rfl
theorem r_M_month_160 : Wp L d k_M_month 160 [l0, l1, l2, l3, l4] [vI s1, vR c0] σ Q ↔ Wp L d k_M_month 161 [l0, l1, l2, l3, l4] [vI s1, vR c0, vI s1, vR c0] σ Q := wp_dup2 rfl
theorem r_M_month_161 (h : gK c2 = 100) (hx : 0 ≤ s3 ∧ s3 < gN c2) : Wp L d k_M_month 161 [l0, l1, l2, l3, l4] [vI s3, vR c2, vI s1, vR c0] σ Q ↔ Wp L d k_M_month 162 [l0, l1, l2, l3, l4] [vI (σ c2 s3.toNat), vI s1, vR c0] σ Q := wp_iald rfl h hx
theorem r_M_month_162 : Wp L d k_M_month 162 [l0, l1, l2, l3, l4] [vI s2, vI s1, vR c0] σ Q ↔ Wp L d k_M_month 163 [l0, l1, l2, l3, l4] [vI 1, vI s2, vI s1, vR c0] σ Q := wp_push rfl
theorem r_M_month_163 : Wp L d k_M_month 163 [l0, l1, l2, l3, l4] [vI s3, vI s2, vI s1, vR c0] σ Q ↔ Wp L d k_M_month 164 [l0, l1, l2, l3, l4] [vI (w32 (s2 + s3)), vI s1, vR c0] σ Q := wp_iadd rfl
theorem r_M_month_164 (h : gK c0 = 100) (hx : 0 ≤ s1 ∧ s1 < gN c0) : Wp L d k_M_month 164 [l0, l1, l2, l3, l4] [vI s2, vI s1, vR c0] σ Q ↔ Wp L d k_M_month 165 [l0, l1, l2, l3, l4] [] (gupd σ c0 s1.toNat s2) Q := wp_iast rfl h hx
theorem r_M_month_165 : Wp L d k_M_month 165 [l0, l1, l2, l3, l4] [] σ Q ↔ Q none σ := wp_vret rfl
theorem r_M_month_27 (h : 0 ≤ s1 ∧ s1 ≤ 40) : Wp L (d + 3) k_M_month 27 [l0, l1, l2, l3, l4] [vI s1, vR 293] σ Q ↔ Wp L (d + 3) k_M_month 30 [l0, l1, l2, l3, l4] [vI (gb (σ 294 (120 + 12 * s1.toNat) = 2 ∨ σ 294 (120 + 12 * s1.toNat) = 3))] σ Q := wp_callR (d := d + 2) (as := [vR 293, vI s1]) (rest := []) rfl rfl rfl rfl rfl rfl rfl (grecv_k (by rw [gK_293]) rfl) (sp_M_isTie h)
theorem r_M_month_35 (h : 0 ≤ s1 ∧ s1 ≤ 40) : Wp L (d + 3) k_M_month 35 [l0, l1, l2, l3, l4] [vI s1, vR 293] σ Q ↔ Wp L (d + 3) k_M_month 38 [l0, l1, l2, l3, l4] [vI (gb (σ 294 (120 + 12 * s1.toNat + 8) = 1))] σ Q := wp_callR (d := d + 2) (as := [vR 293, vI s1]) (rest := []) rfl rfl rfl rfl rfl rfl rfl (grecv_k (by rw [gK_293]) rfl) (sp_M_stands h)
theorem r_M_month_47 : Wp L (d + 3) k_M_month 47 [l0, l1, l2, l3, l4] [vI s2, vR 293, vR c0] σ Q ↔ Wp L (d + 3) k_M_month 50 [l0, l1, l2, l3, l4] [vI (w32 (120 + w32 (12 * s2))), vR c0] σ Q := wp_callR (d := d + 2) (as := [vR 293, vI s2]) (rest := [vR c0]) rfl rfl rfl rfl rfl rfl rfl (grecv_k (by rw [gK_293]) rfl) (sp_M_partAt)
theorem r_M_month_60 : Wp L (d + 3) k_M_month 60 [l0, l1, l2, l3, l4] [vI s5, vR 293, vR c3, vI s2, vI s1, vR c0] σ Q ↔ Wp L (d + 3) k_M_month 63 [l0, l1, l2, l3, l4] [vI (w32 (120 + w32 (12 * s5))), vR c3, vI s2, vI s1, vR c0] σ Q := wp_callR (d := d + 2) (as := [vR 293, vI s5]) (rest := [vR c3, vI s2, vI s1, vR c0]) rfl rfl rfl rfl rfl rfl rfl (grecv_k (by rw [gK_293]) rfl) (sp_M_partAt)
theorem r_M_month_68 : Wp L (d + 3) k_M_month 68 [l0, l1, l2, l3, l4] [vI s3, vI s2, vI s1, vR c0] σ Q ↔ Wp L (d + 3) k_M_month 71 [l0, l1, l2, l3, l4] [vI (min s2 s3), vI s1, vR c0] σ Q := wp_callR (d := d + 2) (as := [vI s2, vI s3]) (rest := [vI s1, vR c0]) rfl rfl rfl rfl rfl rfl rfl rfl (sp_M_least)
theorem r_M_month_92 : Wp L (d + 3) k_M_month 92 [l0, l1, l2, l3, l4] [vI s1, vR 293] σ Q ↔ Wp L (d + 3) k_M_month 95 [l0, l1, l2, l3, l4] [vI (w32 (120 + w32 (12 * s1)))] σ Q := wp_callR (d := d + 2) (as := [vR 293, vI s1]) (rest := []) rfl rfl rfl rfl rfl rfl rfl (grecv_k (by rw [gK_293]) rfl) (sp_M_partAt)
theorem r_M_month_99 (h : 0 ≤ s1 ∧ s1 ≤ 40) : Wp L (d + 3) k_M_month 99 [l0, l1, l2, l3, l4] [vI s1, vR 293] σ Q ↔ Wp L (d + 3) k_M_month 102 [l0, l1, l2, l3, l4] [vI (gb (σ 294 (120 + 12 * s1.toNat + 8) = 1))] σ Q := wp_callR (d := d + 2) (as := [vR 293, vI s1]) (rest := []) rfl rfl rfl rfl rfl rfl rfl (grecv_k (by rw [gK_293]) rfl) (sp_M_stands h)
theorem sp_M_month (hw : WB (σ 294)) (ht : WT (σ 294)) (hM : 0 ≤ σ 294 7 ∧ σ 294 7 ≤ 599) (hM2 : 0 ≤ σ 294 8 ∧ σ 294 8 ≤ 99) (h : 0 ≤ a1 ∧ a1 ≤ 999) : ∃ σ', Run L (d + 3) 265 [vR 293, vI a1] σ none σ' ∧ σ' 294 = brmt a1 (σ 294) ∧ Agr σ σ' (fun k _ => k = 294 ∨ k = 302 ∨ k = 303) := by
  refine Run_ex (C' := k_M_month) rfl ?_
  show Wp L (d + 3) k_M_month 0 [vR 293, vI a1, vU, vU, vU] [] σ _
  obtain ⟨K293, Q293, K294, N294⟩ := litM
  have w1 := hw.1
  have w2 := hw.2.1

  have m := mul_bd hM2 h
  have tb := tdiv_bd (a := σ 294 8 * a1) (b := 100) m.1 (by omega)
  simp (disch := first | assumption | exact gb_01 _ | omega) only [r_M_month_0, r_M_month_1, r_M_month_4, r_M_month_6, r_M_month_7, r_M_month_8, r_M_month_9, r_M_month_11, r_M_month_12, r_M_month_13, r_M_month_14, r_M_month_16, r_M_month_17, r_M_month_20, r_M_month_21, r_M_month_22, r_M_month_25, r_M_month_26, r_M_month_27, r_M_month_30, r_M_month_33, r_M_month_34, r_M_month_35, r_M_month_38, r_M_month_41, r_M_month_42, r_M_month_45, r_M_month_46, r_M_month_47, r_M_month_50, r_M_month_51, r_M_month_52, r_M_month_54, r_M_month_55, r_M_month_58, r_M_month_59, r_M_month_60, r_M_month_63, r_M_month_64, r_M_month_65, r_M_month_66, r_M_month_67, r_M_month_68, r_M_month_71, r_M_month_72, r_M_month_75, r_M_month_78, r_M_month_79, r_M_month_81, r_M_month_82, r_M_month_85, r_M_month_86, r_M_month_87, r_M_month_90, r_M_month_91, r_M_month_92, r_M_month_95, r_M_month_97, r_M_month_98, r_M_month_99, r_M_month_102, r_M_month_105, r_M_month_106, r_M_month_107, r_M_month_108, r_M_month_111, r_M_month_113, r_M_month_114, r_M_month_115, r_M_month_116, r_M_month_117, r_M_month_120, r_M_month_122, r_M_month_123, r_M_month_124, r_M_month_125, r_M_month_126, r_M_month_129, r_M_month_131, r_M_month_135, r_M_month_138, r_M_month_139, r_M_month_142, r_M_month_144, r_M_month_145, r_M_month_146, r_M_month_147, r_M_month_148, r_M_month_151, r_M_month_154, r_M_month_155, r_M_month_158, r_M_month_160, r_M_month_161, r_M_month_162, r_M_month_163, r_M_month_164, r_M_month_165, Q293, w32_gb, w32i, tn_add, tn_mul, Int.toNat_natCast, Int.toNat_zero, Int.reduceLE, Int.reduceLT, Int.reduceEq, Int.reduceNe, gb_T, gb_F, Int.reduceToNat, eq_self, true_or, or_true, and_true, true_and, and_self, ↓ite_gb0, ↓ite_gbn, ↓if_pos, ↓if_neg, if_true, if_false, not_true_eq_false, not_false_eq_true, gb_ne0, gb_eq0]
  refine wl (σ 294 1).toNat (fun k => [vR 293, vI a1, vI ((σ 294 8 * a1).tdiv 100), vI (k : Int), vU]) (fun k => gsr σ 294 (git (brm1 ((σ 294 8 * a1).tdiv 100)) k (σ 294))) rfl gsr_id.symm (fun k hk hq => ?_) ?_
  · obtain ⟨hw1, hs1⟩ := brm1_ok tb.1 hw k (by omega)
    have e01 := SB01 hs1
    have w := WBp hw1 (p := k) (by omega)
    have es : git (brm1 ((σ 294 8 * a1).tdiv 100)) (k + 1) (σ 294) = brm1 ((σ 294 8 * a1).tdiv 100) k (git (brm1 ((σ 294 8 * a1).tdiv 100)) k (σ 294)) := rfl
    rw [es] at hq
    generalize git (brm1 ((σ 294 8 * a1).tdiv 100)) k (σ 294) = g at *
    unfold brm1 at hq
    rw [r_M_month_15]
    by_cases c3 : g (120 + 12 * k) = 2 ∨ g (120 + 12 * k) = 3
    · by_cases c1 : g (120 + 12 * k + 8) = 1
      · rw [if_pos ⟨c3, c1⟩] at hq
        simp (disch := first | assumption | exact gb_01 _ | omega) only [r_M_month_0, r_M_month_1, r_M_month_4, r_M_month_6, r_M_month_7, r_M_month_8, r_M_month_9, r_M_month_11, r_M_month_12, r_M_month_13, r_M_month_14, r_M_month_16, r_M_month_17, r_M_month_20, r_M_month_21, r_M_month_22, r_M_month_25, r_M_month_26, r_M_month_27, r_M_month_30, r_M_month_33, r_M_month_34, r_M_month_35, r_M_month_38, r_M_month_41, r_M_month_42, r_M_month_45, r_M_month_46, r_M_month_47, r_M_month_50, r_M_month_51, r_M_month_52, r_M_month_54, r_M_month_55, r_M_month_58, r_M_month_59, r_M_month_60, r_M_month_63, r_M_month_64, r_M_month_65, r_M_month_66, r_M_month_67, r_M_month_68, r_M_month_71, r_M_month_72, r_M_month_75, r_M_month_78, r_M_month_79, r_M_month_81, r_M_month_82, r_M_month_85, r_M_month_86, r_M_month_87, r_M_month_90, r_M_month_91, r_M_month_92, r_M_month_95, r_M_month_97, r_M_month_98, r_M_month_99, r_M_month_102, r_M_month_105, r_M_month_106, r_M_month_107, r_M_month_108, r_M_month_111, r_M_month_113, r_M_month_114, r_M_month_115, r_M_month_116, r_M_month_117, r_M_month_120, r_M_month_122, r_M_month_123, r_M_month_124, r_M_month_125, r_M_month_126, r_M_month_129, r_M_month_131, r_M_month_135, r_M_month_138, r_M_month_139, r_M_month_142, r_M_month_144, r_M_month_145, r_M_month_146, r_M_month_147, r_M_month_148, r_M_month_151, r_M_month_154, r_M_month_155, r_M_month_158, r_M_month_160, r_M_month_161, r_M_month_162, r_M_month_163, r_M_month_164, r_M_month_165, Q293, gsr_eq, gsr_upd, e01, c3, w32_gb, w32i, tn_add, tn_mul, Int.toNat_natCast, Int.toNat_zero, Int.reduceLE, Int.reduceLT, Int.reduceEq, Int.reduceNe, gb_T, gb_F, Int.reduceToNat, eq_self, true_or, or_true, and_true, true_and, and_self, ↓ite_gb0, ↓ite_gbn, ↓if_pos, ↓if_neg, if_true, if_false, not_true_eq_false, not_false_eq_true, gb_ne0, gb_eq0]
        exact hq _ _ (by simp only [List.cons.injEq, vI_inj, vR_inj, and_true, true_and]; omega) rfl
      · rw [if_neg (fun z => c1 z.2)] at hq
        simp (disch := first | assumption | exact gb_01 _ | omega) only [r_M_month_0, r_M_month_1, r_M_month_4, r_M_month_6, r_M_month_7, r_M_month_8, r_M_month_9, r_M_month_11, r_M_month_12, r_M_month_13, r_M_month_14, r_M_month_16, r_M_month_17, r_M_month_20, r_M_month_21, r_M_month_22, r_M_month_25, r_M_month_26, r_M_month_27, r_M_month_30, r_M_month_33, r_M_month_34, r_M_month_35, r_M_month_38, r_M_month_41, r_M_month_42, r_M_month_45, r_M_month_46, r_M_month_47, r_M_month_50, r_M_month_51, r_M_month_52, r_M_month_54, r_M_month_55, r_M_month_58, r_M_month_59, r_M_month_60, r_M_month_63, r_M_month_64, r_M_month_65, r_M_month_66, r_M_month_67, r_M_month_68, r_M_month_71, r_M_month_72, r_M_month_75, r_M_month_78, r_M_month_79, r_M_month_81, r_M_month_82, r_M_month_85, r_M_month_86, r_M_month_87, r_M_month_90, r_M_month_91, r_M_month_92, r_M_month_95, r_M_month_97, r_M_month_98, r_M_month_99, r_M_month_102, r_M_month_105, r_M_month_106, r_M_month_107, r_M_month_108, r_M_month_111, r_M_month_113, r_M_month_114, r_M_month_115, r_M_month_116, r_M_month_117, r_M_month_120, r_M_month_122, r_M_month_123, r_M_month_124, r_M_month_125, r_M_month_126, r_M_month_129, r_M_month_131, r_M_month_135, r_M_month_138, r_M_month_139, r_M_month_142, r_M_month_144, r_M_month_145, r_M_month_146, r_M_month_147, r_M_month_148, r_M_month_151, r_M_month_154, r_M_month_155, r_M_month_158, r_M_month_160, r_M_month_161, r_M_month_162, r_M_month_163, r_M_month_164, r_M_month_165, Q293, gsr_eq, gsr_upd, e01, c3, w32_gb, w32i, tn_add, tn_mul, Int.toNat_natCast, Int.toNat_zero, Int.reduceLE, Int.reduceLT, Int.reduceEq, Int.reduceNe, gb_T, gb_F, Int.reduceToNat, eq_self, true_or, or_true, and_true, true_and, and_self, ↓ite_gb0, ↓ite_gbn, ↓if_pos, ↓if_neg, if_true, if_false, not_true_eq_false, not_false_eq_true, gb_ne0, gb_eq0]
        exact hq _ _ (by simp only [List.cons.injEq, vI_inj, vR_inj, and_true, true_and]; omega) rfl
    · rw [if_neg (fun z => c3 z.1)] at hq
      simp (disch := first | assumption | exact gb_01 _ | omega) only [r_M_month_0, r_M_month_1, r_M_month_4, r_M_month_6, r_M_month_7, r_M_month_8, r_M_month_9, r_M_month_11, r_M_month_12, r_M_month_13, r_M_month_14, r_M_month_16, r_M_month_17, r_M_month_20, r_M_month_21, r_M_month_22, r_M_month_25, r_M_month_26, r_M_month_27, r_M_month_30, r_M_month_33, r_M_month_34, r_M_month_35, r_M_month_38, r_M_month_41, r_M_month_42, r_M_month_45, r_M_month_46, r_M_month_47, r_M_month_50, r_M_month_51, r_M_month_52, r_M_month_54, r_M_month_55, r_M_month_58, r_M_month_59, r_M_month_60, r_M_month_63, r_M_month_64, r_M_month_65, r_M_month_66, r_M_month_67, r_M_month_68, r_M_month_71, r_M_month_72, r_M_month_75, r_M_month_78, r_M_month_79, r_M_month_81, r_M_month_82, r_M_month_85, r_M_month_86, r_M_month_87, r_M_month_90, r_M_month_91, r_M_month_92, r_M_month_95, r_M_month_97, r_M_month_98, r_M_month_99, r_M_month_102, r_M_month_105, r_M_month_106, r_M_month_107, r_M_month_108, r_M_month_111, r_M_month_113, r_M_month_114, r_M_month_115, r_M_month_116, r_M_month_117, r_M_month_120, r_M_month_122, r_M_month_123, r_M_month_124, r_M_month_125, r_M_month_126, r_M_month_129, r_M_month_131, r_M_month_135, r_M_month_138, r_M_month_139, r_M_month_142, r_M_month_144, r_M_month_145, r_M_month_146, r_M_month_147, r_M_month_148, r_M_month_151, r_M_month_154, r_M_month_155, r_M_month_158, r_M_month_160, r_M_month_161, r_M_month_162, r_M_month_163, r_M_month_164, r_M_month_165, Q293, gsr_eq, gsr_upd, e01, c3, w32_gb, w32i, tn_add, tn_mul, Int.toNat_natCast, Int.toNat_zero, Int.reduceLE, Int.reduceLT, Int.reduceEq, Int.reduceNe, gb_T, gb_F, Int.reduceToNat, eq_self, true_or, or_true, and_true, true_and, and_self, ↓ite_gb0, ↓ite_gbn, ↓if_pos, ↓if_neg, if_true, if_false, not_true_eq_false, not_false_eq_true, gb_ne0, gb_eq0]
      exact hq _ _ (by simp only [List.cons.injEq, vI_inj, vR_inj, and_true, true_and]; omega) rfl
  · obtain ⟨hw1, hs1⟩ := brm1_ok tb.1 hw (σ 294 1).toNat (by omega)
    have e01 := SB01 hs1
    have g7 := hs1 7 (by unfold SBZ; omega)
    have ht1 : WT (git (brm1 ((σ 294 8 * a1).tdiv 100)) (σ 294 1).toNat (σ 294)) := WT_f (fun j hj => SB_t hs1 j (by omega)) ht
    unfold brmt
    generalize git (brm1 ((σ 294 8 * a1).tdiv 100)) (σ 294 1).toNat (σ 294) = g at *
    rw [r_M_month_15]
    simp (disch := first | assumption | exact gb_01 _ | omega) only [r_M_month_0, r_M_month_1, r_M_month_4, r_M_month_6, r_M_month_7, r_M_month_8, r_M_month_9, r_M_month_11, r_M_month_12, r_M_month_13, r_M_month_14, r_M_month_16, r_M_month_17, r_M_month_20, r_M_month_21, r_M_month_22, r_M_month_25, r_M_month_26, r_M_month_27, r_M_month_30, r_M_month_33, r_M_month_34, r_M_month_35, r_M_month_38, r_M_month_41, r_M_month_42, r_M_month_45, r_M_month_46, r_M_month_47, r_M_month_50, r_M_month_51, r_M_month_52, r_M_month_54, r_M_month_55, r_M_month_58, r_M_month_59, r_M_month_60, r_M_month_63, r_M_month_64, r_M_month_65, r_M_month_66, r_M_month_67, r_M_month_68, r_M_month_71, r_M_month_72, r_M_month_75, r_M_month_78, r_M_month_79, r_M_month_81, r_M_month_82, r_M_month_85, r_M_month_86, r_M_month_87, r_M_month_90, r_M_month_91, r_M_month_92, r_M_month_95, r_M_month_97, r_M_month_98, r_M_month_99, r_M_month_102, r_M_month_105, r_M_month_106, r_M_month_107, r_M_month_108, r_M_month_111, r_M_month_113, r_M_month_114, r_M_month_115, r_M_month_116, r_M_month_117, r_M_month_120, r_M_month_122, r_M_month_123, r_M_month_124, r_M_month_125, r_M_month_126, r_M_month_129, r_M_month_131, r_M_month_135, r_M_month_138, r_M_month_139, r_M_month_142, r_M_month_144, r_M_month_145, r_M_month_146, r_M_month_147, r_M_month_148, r_M_month_151, r_M_month_154, r_M_month_155, r_M_month_158, r_M_month_160, r_M_month_161, r_M_month_162, r_M_month_163, r_M_month_164, r_M_month_165, Q293, gsr_eq, e01, w32_gb, w32i, tn_add, tn_mul, Int.toNat_natCast, Int.toNat_zero, Int.reduceLE, Int.reduceLT, Int.reduceEq, Int.reduceNe, gb_T, gb_F, Int.reduceToNat, eq_self, true_or, or_true, and_true, true_and, and_self, ↓ite_gb0, ↓ite_gbn, ↓if_pos, ↓if_neg, if_true, if_false, not_true_eq_false, not_false_eq_true, gb_ne0, gb_eq0]
    refine wloop (n := (σ 294 1).toNat) (I := fun k ls τ => (∃ l, ls = [vR 293, vI a1, vI ((σ 294 8 * a1).tdiv 100), vI (k : Int), l]) ∧ τ 294 = git brm2 k g ∧ Agr σ τ (fun k _ => k = 294 ∨ k = 302 ∨ k = 303)) (fun k ls τ hk hi hq => ?_) (fun ls τ hi => ?_) (σ 294 1).toNat 0 (by omega) _ _ ⟨⟨_, rfl⟩, gsr_eq, fun k j hk => by rw [gsr_ne (by omega)]⟩
    · obtain ⟨⟨l, rfl⟩, h1, hA⟩ := hi
      obtain ⟨hw2, hs2⟩ := brm2_ok hw1 (SB_refl g) k (by omega)
      have e02 := SB01 hs2
      have w := WBp hw2 (p := k) (by omega)
      have et : τ 294 1 = σ 294 1 := by rw [h1, e02.2]; exact e01.2
      have es : git brm2 (k + 1) g = brm2 k (git brm2 k g) := rfl
      have htt : WT (τ 294) := by rw [h1]; exact WT_f (fun j hj => SB_t hs2 j (by omega)) ht1
      rw [← h1] at es hw2 hs2 e02 w
      obtain ⟨τ1, hR, hA1⟩ := sp_M_ruleOf_2 (L := L) (d := d + 0) (σ := τ) (a2 := τ 294 (120 + 12 * k + 5)) (a3 := τ 294 (120 + 12 * k + 4)) (a4 := τ 294 (120 + 12 * k)) htt
      have e4 : τ1 294 = τ 294 := funext (fun j => hA1 294 j (by omega))
      have fin : ∀ (l : gV) (ρ : gMm), ρ 294 = git brm2 (k + 1) g → Agr σ ρ (fun k _ => k = 294 ∨ k = 302 ∨ k = 303) → Wp L (d + 3) k_M_month 80 [vR 293, vI a1, vI ((σ 294 8 * a1).tdiv 100), vI ((k : Int) + 1), l] [] ρ _ := fun l ρ e hρ => hq _ _ ⟨⟨l, by rw [show (((k + 1 : Nat)) : Int) = (k : Int) + 1 by omega]⟩, e, hρ⟩
      have hA2 : Agr σ τ1 (fun k _ => k = 294 ∨ k = 302 ∨ k = 303) := Agr_trans hA (Agr_mono hA1 (fun k j hk => by omega))
      rw [r_M_month_80]
      by_cases c1 : τ 294 (120 + 12 * k + 8) = 1
      · by_cases c3 : brrl (τ 294) 2 (τ 294 (120 + 12 * k + 5)) (τ 294 (120 + 12 * k + 4)) (τ 294 (120 + 12 * k)) = 0
        · simp (disch := first | assumption | exact gb_01 _ | omega) only [r_M_month_0, r_M_month_1, r_M_month_4, r_M_month_6, r_M_month_7, r_M_month_8, r_M_month_9, r_M_month_11, r_M_month_12, r_M_month_13, r_M_month_14, r_M_month_16, r_M_month_17, r_M_month_20, r_M_month_21, r_M_month_22, r_M_month_25, r_M_month_26, r_M_month_27, r_M_month_30, r_M_month_33, r_M_month_34, r_M_month_35, r_M_month_38, r_M_month_41, r_M_month_42, r_M_month_45, r_M_month_46, r_M_month_47, r_M_month_50, r_M_month_51, r_M_month_52, r_M_month_54, r_M_month_55, r_M_month_58, r_M_month_59, r_M_month_60, r_M_month_63, r_M_month_64, r_M_month_65, r_M_month_66, r_M_month_67, r_M_month_68, r_M_month_71, r_M_month_72, r_M_month_75, r_M_month_78, r_M_month_79, r_M_month_81, r_M_month_82, r_M_month_85, r_M_month_86, r_M_month_87, r_M_month_90, r_M_month_91, r_M_month_92, r_M_month_95, r_M_month_97, r_M_month_98, r_M_month_99, r_M_month_102, r_M_month_105, r_M_month_106, r_M_month_107, r_M_month_108, r_M_month_111, r_M_month_113, r_M_month_114, r_M_month_115, r_M_month_116, r_M_month_117, r_M_month_120, r_M_month_122, r_M_month_123, r_M_month_124, r_M_month_125, r_M_month_126, r_M_month_129, r_M_month_131, r_M_month_135, r_M_month_138, r_M_month_139, r_M_month_142, r_M_month_144, r_M_month_145, r_M_month_146, r_M_month_147, r_M_month_148, r_M_month_151, r_M_month_154, r_M_month_155, r_M_month_158, r_M_month_160, r_M_month_161, r_M_month_162, r_M_month_163, r_M_month_164, r_M_month_165, c_M_month_132 hR, Option.toList, List.singleton_append, List.cons_append, List.nil_append, List.append_nil, Q293, w32_gb, w32i, tn_add, tn_mul, Int.toNat_natCast, Int.toNat_zero, Int.reduceLE, Int.reduceLT, Int.reduceEq, Int.reduceNe, gb_T, gb_F, Int.reduceToNat, eq_self, true_or, or_true, and_true, true_and, and_self, ↓ite_gb0, ↓ite_gbn, ↓if_pos, ↓if_neg, if_true, if_false, not_true_eq_false, not_false_eq_true, gb_ne0, gb_eq0]
          refine fin _ _ ?_ hA2
          rw [es, e4]
          unfold brm2
          rw [if_neg (fun z => z.2 c3)]
        · simp (disch := first | assumption | exact gb_01 _ | omega) only [r_M_month_0, r_M_month_1, r_M_month_4, r_M_month_6, r_M_month_7, r_M_month_8, r_M_month_9, r_M_month_11, r_M_month_12, r_M_month_13, r_M_month_14, r_M_month_16, r_M_month_17, r_M_month_20, r_M_month_21, r_M_month_22, r_M_month_25, r_M_month_26, r_M_month_27, r_M_month_30, r_M_month_33, r_M_month_34, r_M_month_35, r_M_month_38, r_M_month_41, r_M_month_42, r_M_month_45, r_M_month_46, r_M_month_47, r_M_month_50, r_M_month_51, r_M_month_52, r_M_month_54, r_M_month_55, r_M_month_58, r_M_month_59, r_M_month_60, r_M_month_63, r_M_month_64, r_M_month_65, r_M_month_66, r_M_month_67, r_M_month_68, r_M_month_71, r_M_month_72, r_M_month_75, r_M_month_78, r_M_month_79, r_M_month_81, r_M_month_82, r_M_month_85, r_M_month_86, r_M_month_87, r_M_month_90, r_M_month_91, r_M_month_92, r_M_month_95, r_M_month_97, r_M_month_98, r_M_month_99, r_M_month_102, r_M_month_105, r_M_month_106, r_M_month_107, r_M_month_108, r_M_month_111, r_M_month_113, r_M_month_114, r_M_month_115, r_M_month_116, r_M_month_117, r_M_month_120, r_M_month_122, r_M_month_123, r_M_month_124, r_M_month_125, r_M_month_126, r_M_month_129, r_M_month_131, r_M_month_135, r_M_month_138, r_M_month_139, r_M_month_142, r_M_month_144, r_M_month_145, r_M_month_146, r_M_month_147, r_M_month_148, r_M_month_151, r_M_month_154, r_M_month_155, r_M_month_158, r_M_month_160, r_M_month_161, r_M_month_162, r_M_month_163, r_M_month_164, r_M_month_165, c_M_month_132 hR, Option.toList, List.singleton_append, List.cons_append, List.nil_append, List.append_nil, Q293, w32_gb, w32i, tn_add, tn_mul, Int.toNat_natCast, Int.toNat_zero, Int.reduceLE, Int.reduceLT, Int.reduceEq, Int.reduceNe, gb_T, gb_F, Int.reduceToNat, eq_self, true_or, or_true, and_true, true_and, and_self, ↓ite_gb0, ↓ite_gbn, ↓if_pos, ↓if_neg, if_true, if_false, not_true_eq_false, not_false_eq_true, gb_ne0, gb_eq0]
          refine fin _ _ ?_ (Agr_upd hA2 (Or.inl rfl))
          rw [es, gupd_fu, e4]
          unfold brm2
          rw [if_pos ⟨c1, c3⟩]
      · simp (disch := first | assumption | exact gb_01 _ | omega) only [r_M_month_0, r_M_month_1, r_M_month_4, r_M_month_6, r_M_month_7, r_M_month_8, r_M_month_9, r_M_month_11, r_M_month_12, r_M_month_13, r_M_month_14, r_M_month_16, r_M_month_17, r_M_month_20, r_M_month_21, r_M_month_22, r_M_month_25, r_M_month_26, r_M_month_27, r_M_month_30, r_M_month_33, r_M_month_34, r_M_month_35, r_M_month_38, r_M_month_41, r_M_month_42, r_M_month_45, r_M_month_46, r_M_month_47, r_M_month_50, r_M_month_51, r_M_month_52, r_M_month_54, r_M_month_55, r_M_month_58, r_M_month_59, r_M_month_60, r_M_month_63, r_M_month_64, r_M_month_65, r_M_month_66, r_M_month_67, r_M_month_68, r_M_month_71, r_M_month_72, r_M_month_75, r_M_month_78, r_M_month_79, r_M_month_81, r_M_month_82, r_M_month_85, r_M_month_86, r_M_month_87, r_M_month_90, r_M_month_91, r_M_month_92, r_M_month_95, r_M_month_97, r_M_month_98, r_M_month_99, r_M_month_102, r_M_month_105, r_M_month_106, r_M_month_107, r_M_month_108, r_M_month_111, r_M_month_113, r_M_month_114, r_M_month_115, r_M_month_116, r_M_month_117, r_M_month_120, r_M_month_122, r_M_month_123, r_M_month_124, r_M_month_125, r_M_month_126, r_M_month_129, r_M_month_131, r_M_month_135, r_M_month_138, r_M_month_139, r_M_month_142, r_M_month_144, r_M_month_145, r_M_month_146, r_M_month_147, r_M_month_148, r_M_month_151, r_M_month_154, r_M_month_155, r_M_month_158, r_M_month_160, r_M_month_161, r_M_month_162, r_M_month_163, r_M_month_164, r_M_month_165, c_M_month_132 hR, Option.toList, List.singleton_append, List.cons_append, List.nil_append, List.append_nil, Q293, w32_gb, w32i, tn_add, tn_mul, Int.toNat_natCast, Int.toNat_zero, Int.reduceLE, Int.reduceLT, Int.reduceEq, Int.reduceNe, gb_T, gb_F, Int.reduceToNat, eq_self, true_or, or_true, and_true, true_and, and_self, ↓ite_gb0, ↓ite_gbn, ↓if_pos, ↓if_neg, if_true, if_false, not_true_eq_false, not_false_eq_true, gb_ne0, gb_eq0]
        refine fin _ _ ?_ hA
        rw [es]
        unfold brm2
        rw [if_neg (fun z => c1 z.1)]
    · obtain ⟨⟨l, rfl⟩, h1, hA⟩ := hi
      obtain ⟨hw2, hs2⟩ := brm2_ok hw1 (SB_refl g) (σ 294 1).toNat (by omega)
      have e02 := SB01 hs2
      have et : τ 294 1 = σ 294 1 := by rw [h1, e02.2]; exact e01.2
      have e7 : τ 294 7 = σ 294 7 := by rw [h1, hs2 7 (by unfold SBZ; omega)]; exact g7
      rw [r_M_month_80]
      simp (disch := first | assumption | exact gb_01 _ | omega) only [r_M_month_0, r_M_month_1, r_M_month_4, r_M_month_6, r_M_month_7, r_M_month_8, r_M_month_9, r_M_month_11, r_M_month_12, r_M_month_13, r_M_month_14, r_M_month_16, r_M_month_17, r_M_month_20, r_M_month_21, r_M_month_22, r_M_month_25, r_M_month_26, r_M_month_27, r_M_month_30, r_M_month_33, r_M_month_34, r_M_month_35, r_M_month_38, r_M_month_41, r_M_month_42, r_M_month_45, r_M_month_46, r_M_month_47, r_M_month_50, r_M_month_51, r_M_month_52, r_M_month_54, r_M_month_55, r_M_month_58, r_M_month_59, r_M_month_60, r_M_month_63, r_M_month_64, r_M_month_65, r_M_month_66, r_M_month_67, r_M_month_68, r_M_month_71, r_M_month_72, r_M_month_75, r_M_month_78, r_M_month_79, r_M_month_81, r_M_month_82, r_M_month_85, r_M_month_86, r_M_month_87, r_M_month_90, r_M_month_91, r_M_month_92, r_M_month_95, r_M_month_97, r_M_month_98, r_M_month_99, r_M_month_102, r_M_month_105, r_M_month_106, r_M_month_107, r_M_month_108, r_M_month_111, r_M_month_113, r_M_month_114, r_M_month_115, r_M_month_116, r_M_month_117, r_M_month_120, r_M_month_122, r_M_month_123, r_M_month_124, r_M_month_125, r_M_month_126, r_M_month_129, r_M_month_131, r_M_month_135, r_M_month_138, r_M_month_139, r_M_month_142, r_M_month_144, r_M_month_145, r_M_month_146, r_M_month_147, r_M_month_148, r_M_month_151, r_M_month_154, r_M_month_155, r_M_month_158, r_M_month_160, r_M_month_161, r_M_month_162, r_M_month_163, r_M_month_164, r_M_month_165, Q293, e7, w32_gb, w32i, tn_add, tn_mul, Int.toNat_natCast, Int.toNat_zero, Int.reduceLE, Int.reduceLT, Int.reduceEq, Int.reduceNe, gb_T, gb_F, Int.reduceToNat, eq_self, true_or, or_true, and_true, true_and, and_self, ↓ite_gb0, ↓ite_gbn, ↓if_pos, ↓if_neg, if_true, if_false, not_true_eq_false, not_false_eq_true, gb_ne0, gb_eq0]
      refine ⟨?_, Agr_upd hA (Or.inl rfl)⟩
      rw [gupd_fu, h1]
theorem r_X_months_0 : Wp L d k_X_months 0 [l0, vI a1, l2, l3] [] σ Q ↔ Wp L d k_X_months 1 [l0, vI a1, l2, l3] [vI a1] σ Q := wp_iload rfl rfl
theorem r_X_months_1 : Wp L d k_X_months 1 [l0, l1, l2, l3] [vI s0] σ Q ↔ Wp L d k_X_months 2 [l0, l1, l2, l3] [vI 1, vI s0] σ Q := wp_push rfl
theorem r_X_months_2 : Wp L d k_X_months 2 [l0, l1, l2, l3] [vI s1, vI s0] σ Q ↔ Wp L d k_X_months 4 [l0, l1, l2, l3] [vI 60, vI s1, vI s0] σ Q := wp_push rfl
theorem r_X_months_7 : Wp L d k_X_months 7 [l0, l1, l2, l3] [vI s0] σ Q ↔ (if s0 = 0 then Wp L d k_X_months 17 [l0, l1, l2, l3] [] σ Q else Wp L d k_X_months 10 [l0, l1, l2, l3] [] σ Q) := wp_if_eq rfl
theorem r_X_months_10 : Wp L d k_X_months 10 [l0, l1, vI a2, l3] [] σ Q ↔ Wp L d k_X_months 11 [l0, l1, vI a2, l3] [vI a2] σ Q := wp_iload rfl rfl
theorem r_X_months_14 : Wp L d k_X_months 14 [l0, l1, l2, l3] [vI s0] σ Q ↔ (if s0 ≠ 0 then Wp L d k_X_months 20 [l0, l1, l2, l3] [] σ Q else Wp L d k_X_months 17 [l0, l1, l2, l3] [] σ Q) := wp_if_ne rfl
theorem r_X_months_17 : Wp L d k_X_months 17 [l0, l1, l2, l3] [] σ Q ↔ Wp L d k_X_months 19 [l0, l1, l2, l3] [vI (-1000000001)] σ Q := wp_push rfl
theorem r_X_months_19 : Wp L d k_X_months 19 [l0, l1, l2, l3] [vI s0] σ Q ↔ Q (some (vI s0)) σ := wp_iret rfl
theorem r_X_months_20 : Wp L d k_X_months 20 [vR b0, l1, l2, l3] [] σ Q ↔ Wp L d k_X_months 21 [vR b0, l1, l2, l3] [vR b0] σ Q := wp_aload rfl rfl
theorem r_X_months_21 (h : gK c0 = 0) : Wp L d k_X_months 21 [l0, l1, l2, l3] [vR c0] σ Q ↔ Wp L d k_X_months 24 [l0, l1, l2, l3] [vR (gq c0 0)] σ Q := wp_getR (c := 128) rfl rfl rfl rfl rfl h
theorem r_X_months_24 (h : gK c0 = 5) : Wp L d k_X_months 24 [l0, l1, l2, l3] [vR c0] σ Q ↔ Wp L d k_X_months 27 [l0, l1, l2, l3] [vI (σ c0 7)] σ Q := wp_getI (c := 1287) rfl rfl rfl rfl h
theorem r_X_months_27 : Wp L d k_X_months 27 [l0, vI a1, l2, l3] [vI s0] σ Q ↔ Wp L d k_X_months 28 [l0, vI a1, l2, l3] [vI a1, vI s0] σ Q := wp_iload rfl rfl
theorem r_X_months_28 : Wp L d k_X_months 28 [l0, l1, l2, l3] [vI s1, vI s0] σ Q ↔ Wp L d k_X_months 29 [l0, l1, l2, l3] [vI (w32 (s0 + s1))] σ Q := wp_iadd rfl
theorem r_X_months_29 : Wp L d k_X_months 29 [l0, l1, l2, l3] [vI s0] σ Q ↔ Wp L d k_X_months 32 [l0, l1, l2, l3] [vI 599, vI s0] σ Q := wp_push rfl
theorem r_X_months_32 : Wp L d k_X_months 32 [l0, l1, l2, l3] [vI s1, vI s0] σ Q ↔ (if s0 ≤ s1 then Wp L d k_X_months 38 [l0, l1, l2, l3] [] σ Q else Wp L d k_X_months 35 [l0, l1, l2, l3] [] σ Q) := wp_cmp_le rfl
theorem r_X_months_35 : Wp L d k_X_months 35 [l0, l1, l2, l3] [] σ Q ↔ Wp L d k_X_months 37 [l0, l1, l2, l3] [vI (-1000000003)] σ Q := wp_push rfl
theorem r_X_months_37 : Wp L d k_X_months 37 [l0, l1, l2, l3] [vI s0] σ Q ↔ Q (some (vI s0)) σ := wp_iret rfl
theorem r_X_months_38 : Wp L d k_X_months 38 [l0, l1, l2, l3] [] σ Q ↔ Wp L d k_X_months 39 [l0, l1, l2, l3] [vI 0] σ Q := wp_push rfl
theorem r_X_months_39 : Wp L d k_X_months 39 [l0, l1, vI a2, l3] [vI s0] σ Q ↔ Wp L d k_X_months 40 [l0, l1, vI a2, vI s0] [] σ Q := wp_istore (i := 3) (ls := [l0, l1, vI a2, l3]) rfl rfl
theorem r_X_months_40 : Wp L d k_X_months 40 [l0, l1, l2, vI a3] [] σ Q ↔ Wp L d k_X_months 41 [l0, l1, l2, vI a3] [vI a3] σ Q := wp_iload rfl rfl
theorem r_X_months_41 : Wp L d k_X_months 41 [l0, vI a1, l2, l3] [vI s0] σ Q ↔ Wp L d k_X_months 42 [l0, vI a1, l2, l3] [vI a1, vI s0] σ Q := wp_iload rfl rfl
theorem r_X_months_42 : Wp L d k_X_months 42 [l0, l1, l2, l3] [vI s1, vI s0] σ Q ↔ (if s1 ≤ s0 then Wp L d k_X_months 59 [l0, l1, l2, l3] [] σ Q else Wp L d k_X_months 45 [l0, l1, l2, l3] [] σ Q) := wp_cmp_ge rfl
theorem r_X_months_45 : Wp L d k_X_months 45 [vR b0, l1, l2, l3] [] σ Q ↔ Wp L d k_X_months 46 [vR b0, l1, l2, l3] [vR b0] σ Q := wp_aload rfl rfl
theorem r_X_months_46 (h : gK c0 = 0) : Wp L d k_X_months 46 [l0, l1, l2, l3] [vR c0] σ Q ↔ Wp L d k_X_months 49 [l0, l1, l2, l3] [vR (gq c0 0)] σ Q := wp_getR (c := 128) rfl rfl rfl rfl rfl h
theorem r_X_months_49 : Wp L d k_X_months 49 [l0, l1, vI a2, l3] [vR c0] σ Q ↔ Wp L d k_X_months 50 [l0, l1, vI a2, l3] [vI a2, vR c0] σ Q := wp_iload rfl rfl
theorem c_X_months_50 (hR : Run L d 136 [vR c0, vI s1] σ r σ1) (h : gK c0 = 5) : Wp L (d + 1) k_X_months 50 [l0, l1, l2, l3] [vI s1, vR c0] σ Q ↔ Wp L (d + 1) k_X_months 53 [l0, l1, l2, l3] (r.toList ++ []) σ1 Q := wp_callR (as := [vR c0, vI s1]) (rest := []) rfl rfl rfl rfl rfl rfl rfl (grecv_k (by rw [h]) rfl) hR
theorem r_X_months_53 : Wp L d k_X_months 53 [l0, l1, vI a2, vI a3] [] σ Q ↔ Wp L d k_X_months 56 [l0, l1, vI a2, vI (w32 (a3 + 1))] [] σ Q := wp_iinc (i := 3) (ls := [l0, l1, vI a2, vI a3]) rfl rfl
theorem r_X_months_56 : Wp L d k_X_months 56 [l0, l1, l2, l3] [] σ Q ↔ Wp L d k_X_months 40 [l0, l1, l2, l3] [] σ Q := wp_goto rfl
theorem r_X_months_59 : Wp L d k_X_months 59 [vR b0, l1, l2, l3] [] σ Q ↔ Wp L d k_X_months 60 [vR b0, l1, l2, l3] [vR b0] σ Q := wp_aload rfl rfl
theorem r_X_months_60 (h : gK c0 = 0) : Wp L d k_X_months 60 [l0, l1, l2, l3] [vR c0] σ Q ↔ Wp L d k_X_months 63 [l0, l1, l2, l3] [vR (gq c0 0)] σ Q := wp_getR (c := 128) rfl rfl rfl rfl rfl h
theorem r_X_months_63 (h : gK c0 = 5) : Wp L d k_X_months 63 [l0, l1, l2, l3] [vR c0] σ Q ↔ Wp L d k_X_months 66 [l0, l1, l2, l3] [vI (σ c0 7)] σ Q := wp_getI (c := 1287) rfl rfl rfl rfl h
theorem r_X_months_66 : Wp L d k_X_months 66 [l0, l1, l2, l3] [vI s0] σ Q ↔ Q (some (vI s0)) σ := wp_iret rfl
theorem r_X_months_4 : Wp L (d + 5) k_X_months 4 [l0, l1, l2, l3] [vI s2, vI s1, vI s0] σ Q ↔ Wp L (d + 5) k_X_months 7 [l0, l1, l2, l3] [vI (gb (s1 ≤ s0 ∧ s0 ≤ s2))] σ Q := wp_callR (d := d + 4) (as := [vI s0, vI s1, vI s2]) (rest := []) rfl rfl rfl rfl rfl rfl rfl rfl (sp_X_within)
theorem r_X_months_11 : Wp L (d + 5) k_X_months 11 [l0, l1, l2, l3] [vI s0] σ Q ↔ Wp L (d + 5) k_X_months 14 [l0, l1, l2, l3] [vI (gb (0 ≤ s0 ∧ s0 ≤ 999))] σ Q := wp_callR (d := d + 4) (as := [vI s0]) (rest := []) rfl rfl rfl rfl rfl rfl rfl rfl (sp_X_isTrains)
theorem sp_X_months_b (h : ¬ ((1 ≤ a1 ∧ a1 ≤ 60) ∧ 0 ≤ a2 ∧ a2 ≤ 999)) : Run L (d + 5) 45 [vR 27, vI a1, vI a2] σ (some (vI (-1000000001))) σ := by
  refine Run_of (C' := k_X_months) rfl ?_
  show Wp L (d + 5) k_X_months 0 [vR 27, vI a1, vI a2, vU] [] σ _
  obtain ⟨K27, K28, K29, K78, K97, K99, K109, K123, K125, K279, K282⟩ := litX
  by_cases e : 1 ≤ a1 ∧ a1 ≤ 60
  · simp (disch := first | assumption | exact gb_01 _ | omega) only [r_X_months_0, r_X_months_1, r_X_months_2, r_X_months_4, r_X_months_7, r_X_months_10, r_X_months_11, r_X_months_14, r_X_months_17, r_X_months_19, gq_27_0, gq_27_1, gq_27_2, gq_27_3, gq_27_4, gq_27_5, gq_27_6, gq_28_0, gq_28_1, gq_28_2, gq_28_3, gq_28_4, gq_28_5, gq_28_6, w32_gb, w32i, tn_add, tn_mul, Int.toNat_natCast, Int.toNat_zero, Int.reduceLE, Int.reduceLT, Int.reduceEq, Int.reduceNe, gb_T, gb_F, Int.reduceToNat, eq_self, true_or, or_true, and_true, true_and, and_self, ↓ite_gb0, ↓ite_gbn, ↓if_pos, ↓if_neg, if_true, if_false, not_true_eq_false, not_false_eq_true, gb_ne0, gb_eq0]
  · simp (disch := first | assumption | exact gb_01 _ | omega) only [r_X_months_0, r_X_months_1, r_X_months_2, r_X_months_4, r_X_months_7, r_X_months_10, r_X_months_11, r_X_months_14, r_X_months_17, r_X_months_19, gq_27_0, gq_27_1, gq_27_2, gq_27_3, gq_27_4, gq_27_5, gq_27_6, gq_28_0, gq_28_1, gq_28_2, gq_28_3, gq_28_4, gq_28_5, gq_28_6, w32_gb, w32i, tn_add, tn_mul, Int.toNat_natCast, Int.toNat_zero, Int.reduceLE, Int.reduceLT, Int.reduceEq, Int.reduceNe, gb_T, gb_F, Int.reduceToNat, eq_self, true_or, or_true, and_true, true_and, and_self, ↓ite_gb0, ↓ite_gbn, ↓if_pos, ↓if_neg, if_true, if_false, not_true_eq_false, not_false_eq_true, gb_ne0, gb_eq0]
theorem r_M_months_0 : Wp L d k_M_months 0 [l0, vI a1, l2, l3] [] σ Q ↔ Wp L d k_M_months 1 [l0, vI a1, l2, l3] [vI a1] σ Q := wp_iload rfl rfl
theorem r_M_months_1 : Wp L d k_M_months 1 [l0, l1, l2, l3] [vI s0] σ Q ↔ Wp L d k_M_months 2 [l0, l1, l2, l3] [vL s0] σ Q := wp_i2l rfl
theorem r_M_months_2 : Wp L d k_M_months 2 [l0, l1, l2, l3] [vL s0] σ Q ↔ Wp L d k_M_months 3 [l0, l1, l2, l3] [vL 1, vL s0] σ Q := wp_pushL rfl
theorem r_M_months_3 : Wp L d k_M_months 3 [l0, l1, l2, l3] [vL s1, vL s0] σ Q ↔ Wp L d k_M_months 6 [l0, l1, l2, l3] [vL 60, vL s1, vL s0] σ Q := wp_pushL rfl
theorem r_M_months_9 : Wp L d k_M_months 9 [l0, l1, l2, l3] [vI s0] σ Q ↔ (if s0 = 0 then Wp L d k_M_months 24 [l0, l1, l2, l3] [] σ Q else Wp L d k_M_months 12 [l0, l1, l2, l3] [] σ Q) := wp_if_eq rfl
theorem r_M_months_12 : Wp L d k_M_months 12 [l0, l1, vI a2, l3] [] σ Q ↔ Wp L d k_M_months 13 [l0, l1, vI a2, l3] [vI a2] σ Q := wp_iload rfl rfl
theorem r_M_months_13 : Wp L d k_M_months 13 [l0, l1, l2, l3] [vI s0] σ Q ↔ Wp L d k_M_months 14 [l0, l1, l2, l3] [vL s0] σ Q := wp_i2l rfl
theorem r_M_months_14 : Wp L d k_M_months 14 [l0, l1, l2, l3] [vL s0] σ Q ↔ Wp L d k_M_months 15 [l0, l1, l2, l3] [vL 0, vL s0] σ Q := wp_pushL rfl
theorem r_M_months_15 : Wp L d k_M_months 15 [l0, l1, l2, l3] [vL s1, vL s0] σ Q ↔ Wp L d k_M_months 18 [l0, l1, l2, l3] [vL 999, vL s1, vL s0] σ Q := wp_pushL rfl
theorem r_M_months_21 : Wp L d k_M_months 21 [l0, l1, l2, l3] [vI s0] σ Q ↔ (if s0 ≠ 0 then Wp L d k_M_months 27 [l0, l1, l2, l3] [] σ Q else Wp L d k_M_months 24 [l0, l1, l2, l3] [] σ Q) := wp_if_ne rfl
theorem r_M_months_24 : Wp L d k_M_months 24 [l0, l1, l2, l3] [] σ Q ↔ Wp L d k_M_months 26 [l0, l1, l2, l3] [vI (-1000000001)] σ Q := wp_push rfl
theorem r_M_months_26 : Wp L d k_M_months 26 [l0, l1, l2, l3] [vI s0] σ Q ↔ Q (some (vI s0)) σ := wp_iret rfl
theorem r_M_months_27 : Wp L d k_M_months 27 [vR b0, l1, l2, l3] [] σ Q ↔ Wp L d k_M_months 28 [vR b0, l1, l2, l3] [vR b0] σ Q := wp_aload rfl rfl
theorem r_M_months_28 (h : gK c0 = 12) : Wp L d k_M_months 28 [l0, l1, l2, l3] [vR c0] σ Q ↔ Wp L d k_M_months 31 [l0, l1, l2, l3] [vR (gq c0 0)] σ Q := wp_getR (c := 3200) rfl rfl rfl rfl rfl h
theorem r_M_months_31 : Wp L d k_M_months 31 [l0, l1, l2, l3] [vR c0] σ Q ↔ Wp L d k_M_months 33 [l0, l1, l2, l3] [vI 7, vR c0] σ Q := wp_push rfl
theorem r_M_months_33 (h : gK c0 = 100) (hx : 0 ≤ s1 ∧ s1 < gN c0) : Wp L d k_M_months 33 [l0, l1, l2, l3] [vI s1, vR c0] σ Q ↔ Wp L d k_M_months 34 [l0, l1, l2, l3] [vI (σ c0 s1.toNat)] σ Q := wp_iald rfl h hx
theorem r_M_months_34 : Wp L d k_M_months 34 [l0, vI a1, l2, l3] [vI s0] σ Q ↔ Wp L d k_M_months 35 [l0, vI a1, l2, l3] [vI a1, vI s0] σ Q := wp_iload rfl rfl
theorem r_M_months_35 : Wp L d k_M_months 35 [l0, l1, l2, l3] [vI s1, vI s0] σ Q ↔ Wp L d k_M_months 36 [l0, l1, l2, l3] [vI (w32 (s0 + s1))] σ Q := wp_iadd rfl
theorem r_M_months_36 : Wp L d k_M_months 36 [l0, l1, l2, l3] [vI s0] σ Q ↔ Wp L d k_M_months 39 [l0, l1, l2, l3] [vI 599, vI s0] σ Q := wp_push rfl
theorem r_M_months_39 : Wp L d k_M_months 39 [l0, l1, l2, l3] [vI s1, vI s0] σ Q ↔ (if s0 ≤ s1 then Wp L d k_M_months 45 [l0, l1, l2, l3] [] σ Q else Wp L d k_M_months 42 [l0, l1, l2, l3] [] σ Q) := wp_cmp_le rfl
theorem r_M_months_42 : Wp L d k_M_months 42 [l0, l1, l2, l3] [] σ Q ↔ Wp L d k_M_months 44 [l0, l1, l2, l3] [vI (-1000000003)] σ Q := wp_push rfl
theorem r_M_months_44 : Wp L d k_M_months 44 [l0, l1, l2, l3] [vI s0] σ Q ↔ Q (some (vI s0)) σ := wp_iret rfl
theorem r_M_months_45 : Wp L d k_M_months 45 [l0, l1, l2, l3] [] σ Q ↔ Wp L d k_M_months 46 [l0, l1, l2, l3] [vI 0] σ Q := wp_push rfl
theorem r_M_months_46 : Wp L d k_M_months 46 [l0, l1, vI a2, l3] [vI s0] σ Q ↔ Wp L d k_M_months 47 [l0, l1, vI a2, vI s0] [] σ Q := wp_istore (i := 3) (ls := [l0, l1, vI a2, l3]) rfl rfl
theorem r_M_months_47 : Wp L d k_M_months 47 [l0, l1, l2, vI a3] [] σ Q ↔ Wp L d k_M_months 48 [l0, l1, l2, vI a3] [vI a3] σ Q := wp_iload rfl rfl
theorem r_M_months_48 : Wp L d k_M_months 48 [l0, vI a1, l2, l3] [vI s0] σ Q ↔ Wp L d k_M_months 49 [l0, vI a1, l2, l3] [vI a1, vI s0] σ Q := wp_iload rfl rfl
theorem r_M_months_49 : Wp L d k_M_months 49 [l0, l1, l2, l3] [vI s1, vI s0] σ Q ↔ (if s1 ≤ s0 then Wp L d k_M_months 63 [l0, l1, l2, l3] [] σ Q else Wp L d k_M_months 52 [l0, l1, l2, l3] [] σ Q) := wp_cmp_ge rfl
theorem r_M_months_52 : Wp L d k_M_months 52 [vR b0, l1, l2, l3] [] σ Q ↔ Wp L d k_M_months 53 [vR b0, l1, l2, l3] [vR b0] σ Q := wp_aload rfl rfl
theorem r_M_months_53 : Wp L d k_M_months 53 [l0, l1, vI a2, l3] [vR c0] σ Q ↔ Wp L d k_M_months 54 [l0, l1, vI a2, l3] [vI a2, vR c0] σ Q := wp_iload rfl rfl
theorem c_M_months_54 (hR : Run L d 265 [vR c0, vI s1] σ r σ1) (h : gK c0 = 12) : Wp L (d + 1) k_M_months 54 [l0, l1, l2, l3] [vI s1, vR c0] σ Q ↔ Wp L (d + 1) k_M_months 57 [l0, l1, l2, l3] (r.toList ++ []) σ1 Q := wp_callR (as := [vR c0, vI s1]) (rest := []) rfl rfl rfl rfl rfl rfl rfl (grecv_k (by rw [h]) rfl) hR
theorem r_M_months_57 : Wp L d k_M_months 57 [l0, l1, vI a2, vI a3] [] σ Q ↔ Wp L d k_M_months 60 [l0, l1, vI a2, vI (w32 (a3 + 1))] [] σ Q := wp_iinc (i := 3) (ls := [l0, l1, vI a2, vI a3]) rfl rfl
theorem r_M_months_60 : Wp L d k_M_months 60 [l0, l1, l2, l3] [] σ Q ↔ Wp L d k_M_months 47 [l0, l1, l2, l3] [] σ Q := wp_goto rfl
theorem r_M_months_63 : Wp L d k_M_months 63 [vR b0, l1, l2, l3] [] σ Q ↔ Wp L d k_M_months 64 [vR b0, l1, l2, l3] [vR b0] σ Q := wp_aload rfl rfl
theorem r_M_months_64 (h : gK c0 = 12) : Wp L d k_M_months 64 [l0, l1, l2, l3] [vR c0] σ Q ↔ Wp L d k_M_months 67 [l0, l1, l2, l3] [vR (gq c0 0)] σ Q := wp_getR (c := 3200) rfl rfl rfl rfl rfl h
theorem r_M_months_67 : Wp L d k_M_months 67 [l0, l1, l2, l3] [vR c0] σ Q ↔ Wp L d k_M_months 69 [l0, l1, l2, l3] [vI 7, vR c0] σ Q := wp_push rfl
theorem r_M_months_69 (h : gK c0 = 100) (hx : 0 ≤ s1 ∧ s1 < gN c0) : Wp L d k_M_months 69 [l0, l1, l2, l3] [vI s1, vR c0] σ Q ↔ Wp L d k_M_months 70 [l0, l1, l2, l3] [vI (σ c0 s1.toNat)] σ Q := wp_iald rfl h hx
theorem r_M_months_70 : Wp L d k_M_months 70 [l0, l1, l2, l3] [vI s0] σ Q ↔ Q (some (vI s0)) σ := wp_iret rfl
theorem r_M_months_6 : Wp L (d + 4) k_M_months 6 [l0, l1, l2, l3] [vL s2, vL s1, vL s0] σ Q ↔ Wp L (d + 4) k_M_months 9 [l0, l1, l2, l3] [vI (gb (s1 ≤ s0 ∧ s0 ≤ s2))] σ Q := wp_callR (d := d + 3) (as := [vL s0, vL s1, vL s2]) (rest := []) rfl rfl rfl rfl rfl rfl rfl rfl (sp_M_isIn)
theorem r_M_months_18 : Wp L (d + 4) k_M_months 18 [l0, l1, l2, l3] [vL s2, vL s1, vL s0] σ Q ↔ Wp L (d + 4) k_M_months 21 [l0, l1, l2, l3] [vI (gb (s1 ≤ s0 ∧ s0 ≤ s2))] σ Q := wp_callR (d := d + 3) (as := [vL s0, vL s1, vL s2]) (rest := []) rfl rfl rfl rfl rfl rfl rfl rfl (sp_M_isIn)
theorem sp_M_months_b (h : ¬ ((1 ≤ a1 ∧ a1 ≤ 60) ∧ 0 ≤ a2 ∧ a2 ≤ 999)) : Run L (d + 4) 264 [vR 293, vI a1, vI a2] σ (some (vI (-1000000001))) σ := by
  refine Run_of (C' := k_M_months) rfl ?_
  show Wp L (d + 4) k_M_months 0 [vR 293, vI a1, vI a2, vU] [] σ _
  obtain ⟨K293, Q293, K294, N294⟩ := litM
  by_cases e : 1 ≤ a1 ∧ a1 ≤ 60
  · simp (disch := first | assumption | exact gb_01 _ | omega) only [r_M_months_0, r_M_months_1, r_M_months_2, r_M_months_3, r_M_months_6, r_M_months_9, r_M_months_12, r_M_months_13, r_M_months_14, r_M_months_15, r_M_months_18, r_M_months_21, r_M_months_24, r_M_months_26, Q293, w32_gb, w32i, tn_add, tn_mul, Int.toNat_natCast, Int.toNat_zero, Int.reduceLE, Int.reduceLT, Int.reduceEq, Int.reduceNe, gb_T, gb_F, Int.reduceToNat, eq_self, true_or, or_true, and_true, true_and, and_self, ↓ite_gb0, ↓ite_gbn, ↓if_pos, ↓if_neg, if_true, if_false, not_true_eq_false, not_false_eq_true, gb_ne0, gb_eq0]
  · simp (disch := first | assumption | exact gb_01 _ | omega) only [r_M_months_0, r_M_months_1, r_M_months_2, r_M_months_3, r_M_months_6, r_M_months_9, r_M_months_12, r_M_months_13, r_M_months_14, r_M_months_15, r_M_months_18, r_M_months_21, r_M_months_24, r_M_months_26, Q293, w32_gb, w32i, tn_add, tn_mul, Int.toNat_natCast, Int.toNat_zero, Int.reduceLE, Int.reduceLT, Int.reduceEq, Int.reduceNe, gb_T, gb_F, Int.reduceToNat, eq_self, true_or, or_true, and_true, true_and, and_self, ↓ite_gb0, ↓ite_gbn, ↓if_pos, ↓if_neg, if_true, if_false, not_true_eq_false, not_false_eq_true, gb_ne0, gb_eq0]
theorem sp_X_months_f (h : (1 ≤ a1 ∧ a1 ≤ 60) ∧ 0 ≤ a2 ∧ a2 ≤ 999) (h7 : 0 ≤ σ 28 7 ∧ σ 28 7 ≤ 599) (hf : 599 < σ 28 7 + a1) : Run L (d + 5) 45 [vR 27, vI a1, vI a2] σ (some (vI (-1000000003))) σ := by
  refine Run_of (C' := k_X_months) rfl ?_
  show Wp L (d + 5) k_X_months 0 [vR 27, vI a1, vI a2, vU] [] σ _
  obtain ⟨K27, K28, K29, K78, K97, K99, K109, K123, K125, K279, K282⟩ := litX
  simp (disch := first | assumption | exact gb_01 _ | omega) only [r_X_months_0, r_X_months_1, r_X_months_2, r_X_months_4, r_X_months_7, r_X_months_10, r_X_months_11, r_X_months_14, r_X_months_17, r_X_months_19, r_X_months_20, r_X_months_21, r_X_months_24, r_X_months_27, r_X_months_28, r_X_months_29, r_X_months_32, r_X_months_35, r_X_months_37, r_X_months_38, r_X_months_39, gq_27_0, gq_27_1, gq_27_2, gq_27_3, gq_27_4, gq_27_5, gq_27_6, gq_28_0, gq_28_1, gq_28_2, gq_28_3, gq_28_4, gq_28_5, gq_28_6, w32_gb, w32i, tn_add, tn_mul, Int.toNat_natCast, Int.toNat_zero, Int.reduceLE, Int.reduceLT, Int.reduceEq, Int.reduceNe, gb_T, gb_F, Int.reduceToNat, eq_self, true_or, or_true, and_true, true_and, and_self, ↓ite_gb0, ↓ite_gbn, ↓if_pos, ↓if_neg, if_true, if_false, not_true_eq_false, not_false_eq_true, gb_ne0, gb_eq0]
theorem sp_M_months_f (h : (1 ≤ a1 ∧ a1 ≤ 60) ∧ 0 ≤ a2 ∧ a2 ≤ 999) (h7 : 0 ≤ σ 294 7 ∧ σ 294 7 ≤ 599) (hf : 599 < σ 294 7 + a1) : Run L (d + 4) 264 [vR 293, vI a1, vI a2] σ (some (vI (-1000000003))) σ := by
  refine Run_of (C' := k_M_months) rfl ?_
  show Wp L (d + 4) k_M_months 0 [vR 293, vI a1, vI a2, vU] [] σ _
  obtain ⟨K293, Q293, K294, N294⟩ := litM
  simp (disch := first | assumption | exact gb_01 _ | omega) only [r_M_months_0, r_M_months_1, r_M_months_2, r_M_months_3, r_M_months_6, r_M_months_9, r_M_months_12, r_M_months_13, r_M_months_14, r_M_months_15, r_M_months_18, r_M_months_21, r_M_months_24, r_M_months_26, r_M_months_27, r_M_months_28, r_M_months_31, r_M_months_33, r_M_months_34, r_M_months_35, r_M_months_36, r_M_months_39, r_M_months_42, r_M_months_44, r_M_months_45, r_M_months_46, Q293, w32_gb, w32i, tn_add, tn_mul, Int.toNat_natCast, Int.toNat_zero, Int.reduceLE, Int.reduceLT, Int.reduceEq, Int.reduceNe, gb_T, gb_F, Int.reduceToNat, eq_self, true_or, or_true, and_true, true_and, and_self, ↓ite_gb0, ↓ite_gbn, ↓if_pos, ↓if_neg, if_true, if_false, not_true_eq_false, not_false_eq_true, gb_ne0, gb_eq0]
theorem brmn_ok {f : Nat → Int} {tr : Int} (ht : 0 ≤ tr) (hw : WB f) (hm : 0 ≤ f 8) : ∀ n : Nat, WB (brms' tr n f) ∧ SM f (brms' tr n f) ∧ brms' tr n f 7 = f 7 + n
  | 0 => ⟨hw, fun _ _ _ => rfl, by show f 7 = f 7 + ((0 : Nat) : Int); omega⟩
  | n + 1 => by
    obtain ⟨a, b, c⟩ := brmn_ok ht hw hm n
    obtain ⟨x, y, z⟩ := brmt_ok ht a (by rw [b 8 (by unfold SBZ; omega) (by omega)]; exact hm) b
    refine ⟨x, y, ?_⟩
    show brmt tr (brms' tr n f) 7 = _
    rw [z, c]
    omega
theorem Inv_month {σ σ' : gMm} (hI : Inv σ) (hA : Agr σ σ' (fun k j => (29 ≤ k ∧ k ≤ 77) ∨ (k = 28 ∧ j = 7) ∨ ZFr k j ∨ (k = 294 ∧ (SBZ j ∨ j = 7)))) (hw : WB (σ' 294)) (hc : CB 29 (σ' 294) σ') (hm : WM (σ' 294)) (hcm : CM 28 (σ' 294) σ') : Inv σ' := by
  unfold ZFr SBZ at hA
  refine Inv_mk  hI (hA) (Or.inr ?_) (Or.inl (fun k j hz hp => by unfold ZT at hz; omega)) (Or.inl (fun k j hz hp => by unfold ZG at hz; omega)) (Or.inl (fun k j hz hp => by unfold ZS at hz; omega)) (Or.inl (fun k j hz hp => by unfold ZW at hz; omega)) (Or.inl (fun k j hz hp => by unfold ZP at hz; omega)) (Or.inl (fun k j hz hp => by unfold ZR ZK at hz; omega)) (Or.inr ?_) (Or.inl (fun k j hz hp => by unfold ZTape at hz; omega)) (Or.inl (fun k j hz hp => by unfold ZTest at hz; omega)) (Or.inl (fun k j hz hp => by unfold ZWait at hz; omega)) (Or.inl (fun k j hz hp => by unfold ZImg at hz; omega))
  · exact ⟨hw, hc⟩
  · exact ⟨hm, hcm⟩
theorem sp_X_months {f : Nat → Int} (hw : WB f) (ht : WT f) (hc : CB 29 f σ) (hct : CT 78 f σ) (hm : σ 28 7 = f 7) (h8 : σ 28 8 = f 8) (hM : WM f) (h : (1 ≤ a1 ∧ a1 ≤ 60) ∧ 0 ≤ a2 ∧ a2 ≤ 999) (hf : f 7 + a1 ≤ 599) : ∃ σ', Run L (d + 5) 45 [vR 27, vI a1, vI a2] σ (some (vI (f 7 + a1))) σ' ∧ (CB 29 (brms' a2 a1.toNat f) σ' ∧ σ' 28 7 = f 7 + a1) ∧ Agr σ σ' (fun k j => (29 ≤ k ∧ k ≤ 77) ∨ k = 96 ∨ (k = 28 ∧ j = 7)) := by
  refine Run_ex (C' := k_X_months) rfl ?_
  show Wp L (d + 5) k_X_months 0 [vR 27, vI a1, vI a2, vU] [] σ _
  obtain ⟨K27, K28, K29, K78, K97, K99, K109, K123, K125, K279, K282⟩ := litX
  have M1 := hM.1
  have M2 := hM.2
  simp (disch := first | assumption | exact gb_01 _ | omega) only [r_X_months_0, r_X_months_1, r_X_months_2, r_X_months_4, r_X_months_7, r_X_months_10, r_X_months_11, r_X_months_14, r_X_months_17, r_X_months_19, r_X_months_20, r_X_months_21, r_X_months_24, r_X_months_27, r_X_months_28, r_X_months_29, r_X_months_32, r_X_months_35, r_X_months_37, r_X_months_38, r_X_months_39, r_X_months_41, r_X_months_42, r_X_months_45, r_X_months_46, r_X_months_49, r_X_months_53, r_X_months_56, r_X_months_59, r_X_months_60, r_X_months_63, r_X_months_66, gq_27_0, gq_27_1, gq_27_2, gq_27_3, gq_27_4, gq_27_5, gq_27_6, gq_28_0, gq_28_1, gq_28_2, gq_28_3, gq_28_4, gq_28_5, gq_28_6, w32_gb, w32i, tn_add, tn_mul, Int.toNat_natCast, Int.toNat_zero, Int.reduceLE, Int.reduceLT, Int.reduceEq, Int.reduceNe, gb_T, gb_F, Int.reduceToNat, eq_self, true_or, or_true, and_true, true_and, and_self, ↓ite_gb0, ↓ite_gbn, ↓if_pos, ↓if_neg, if_true, if_false, not_true_eq_false, not_false_eq_true, gb_ne0, gb_eq0]
  refine wloop (n := a1.toNat) (I := fun k ls τ => ls = [vR 27, vI a1, vI a2, vI (k : Int)] ∧ CB 29 (brms' a2 k f) τ ∧ τ 28 7 = f 7 + k ∧ Agr σ τ (fun k j => (29 ≤ k ∧ k ≤ 77) ∨ k = 96 ∨ (k = 28 ∧ j = 7))) (fun k ls τ hk hi hq => ?_) (fun ls τ hi => ?_) a1.toNat 0 (by omega) _ _ ⟨rfl, hc, by omega, Agr_refl _ _⟩
  · obtain ⟨rfl, hc1, h7, hA⟩ := hi
    obtain ⟨hw1, hs1, k7⟩ := brmn_ok h.2.1 hw M2.1 k
    have k8 := hs1 8 (by unfold SBZ; omega) (by omega)
    have ft : ∀ j, j = 2 ∨ 930 ≤ j → brms' a2 k f j = f j := fun j hj => hs1 j (by unfold SBZ; omega) (by omega)
    have es : brms' a2 (k + 1) f = brmt a2 (brms' a2 k f) := rfl
    obtain ⟨τ1, hR, hc2, h72, hA1⟩ := sp_S_passMonth (L := L) (d := d + 0) (σ := τ) (a1 := a2) hw1 (WT_f ft ht) hc1 (CT_agr (fun k j hk => hA k j (by omega)) ft ht hct) (by omega) (by rw [hA 28 8 (by omega), k8]; exact h8) (by omega) (by omega) h.2
    rw [r_X_months_40]
    simp (disch := first | assumption | exact gb_01 _ | omega) only [r_X_months_0, r_X_months_1, r_X_months_2, r_X_months_4, r_X_months_7, r_X_months_10, r_X_months_11, r_X_months_14, r_X_months_17, r_X_months_19, r_X_months_20, r_X_months_21, r_X_months_24, r_X_months_27, r_X_months_28, r_X_months_29, r_X_months_32, r_X_months_35, r_X_months_37, r_X_months_38, r_X_months_39, r_X_months_41, r_X_months_42, r_X_months_45, r_X_months_46, r_X_months_49, r_X_months_53, r_X_months_56, r_X_months_59, r_X_months_60, r_X_months_63, r_X_months_66, c_X_months_50 hR, Option.toList, List.singleton_append, List.cons_append, List.nil_append, List.append_nil, gq_27_0, gq_27_1, gq_27_2, gq_27_3, gq_27_4, gq_27_5, gq_27_6, gq_28_0, gq_28_1, gq_28_2, gq_28_3, gq_28_4, gq_28_5, gq_28_6, w32_gb, w32i, tn_add, tn_mul, Int.toNat_natCast, Int.toNat_zero, Int.reduceLE, Int.reduceLT, Int.reduceEq, Int.reduceNe, gb_T, gb_F, Int.reduceToNat, eq_self, true_or, or_true, and_true, true_and, and_self, ↓ite_gb0, ↓ite_gbn, ↓if_pos, ↓if_neg, if_true, if_false, not_true_eq_false, not_false_eq_true, gb_ne0, gb_eq0]
    exact hq _ _ ⟨by simp only [List.cons.injEq, vI_inj, vR_inj, and_true, true_and]; omega, by rw [es]; exact hc2, by omega, Agr_trans hA hA1⟩
  · obtain ⟨rfl, hc1, h7, hA⟩ := hi
    have h7' : τ 28 7 = f 7 + a1 := by omega
    rw [r_X_months_40]
    simp (disch := first | assumption | exact gb_01 _ | omega) only [r_X_months_0, r_X_months_1, r_X_months_2, r_X_months_4, r_X_months_7, r_X_months_10, r_X_months_11, r_X_months_14, r_X_months_17, r_X_months_19, r_X_months_20, r_X_months_21, r_X_months_24, r_X_months_27, r_X_months_28, r_X_months_29, r_X_months_32, r_X_months_35, r_X_months_37, r_X_months_38, r_X_months_39, r_X_months_41, r_X_months_42, r_X_months_45, r_X_months_46, r_X_months_49, r_X_months_53, r_X_months_56, r_X_months_59, r_X_months_60, r_X_months_63, r_X_months_66, gq_27_0, gq_27_1, gq_27_2, gq_27_3, gq_27_4, gq_27_5, gq_27_6, gq_28_0, gq_28_1, gq_28_2, gq_28_3, gq_28_4, gq_28_5, gq_28_6, h7', w32_gb, w32i, tn_add, tn_mul, Int.toNat_natCast, Int.toNat_zero, Int.reduceLE, Int.reduceLT, Int.reduceEq, Int.reduceNe, gb_T, gb_F, Int.reduceToNat, eq_self, true_or, or_true, and_true, true_and, and_self, ↓ite_gb0, ↓ite_gbn, ↓if_pos, ↓if_neg, if_true, if_false, not_true_eq_false, not_false_eq_true, gb_ne0, gb_eq0]
    exact ⟨hc1, hA⟩
theorem sp_M_months (hw : WB (σ 294)) (ht : WT (σ 294)) (hM : WM (σ 294)) (h : (1 ≤ a1 ∧ a1 ≤ 60) ∧ 0 ≤ a2 ∧ a2 ≤ 999) (hf : σ 294 7 + a1 ≤ 599) : ∃ σ', Run L (d + 4) 264 [vR 293, vI a1, vI a2] σ (some (vI (σ 294 7 + a1))) σ' ∧ σ' 294 = brms' a2 a1.toNat (σ 294) ∧ Agr σ σ' (fun k _ => k = 294 ∨ k = 302 ∨ k = 303) := by
  refine Run_ex (C' := k_M_months) rfl ?_
  show Wp L (d + 4) k_M_months 0 [vR 293, vI a1, vI a2, vU] [] σ _
  obtain ⟨K293, Q293, K294, N294⟩ := litM
  have M1 := hM.1
  have M2 := hM.2
  simp (disch := first | assumption | exact gb_01 _ | omega) only [r_M_months_0, r_M_months_1, r_M_months_2, r_M_months_3, r_M_months_6, r_M_months_9, r_M_months_12, r_M_months_13, r_M_months_14, r_M_months_15, r_M_months_18, r_M_months_21, r_M_months_24, r_M_months_26, r_M_months_27, r_M_months_28, r_M_months_31, r_M_months_33, r_M_months_34, r_M_months_35, r_M_months_36, r_M_months_39, r_M_months_42, r_M_months_44, r_M_months_45, r_M_months_46, r_M_months_48, r_M_months_49, r_M_months_52, r_M_months_53, r_M_months_57, r_M_months_60, r_M_months_63, r_M_months_64, r_M_months_67, r_M_months_69, r_M_months_70, Q293, w32_gb, w32i, tn_add, tn_mul, Int.toNat_natCast, Int.toNat_zero, Int.reduceLE, Int.reduceLT, Int.reduceEq, Int.reduceNe, gb_T, gb_F, Int.reduceToNat, eq_self, true_or, or_true, and_true, true_and, and_self, ↓ite_gb0, ↓ite_gbn, ↓if_pos, ↓if_neg, if_true, if_false, not_true_eq_false, not_false_eq_true, gb_ne0, gb_eq0]
  refine wloop (n := a1.toNat) (I := fun k ls τ => ls = [vR 293, vI a1, vI a2, vI (k : Int)] ∧ τ 294 = brms' a2 k (σ 294) ∧ Agr σ τ (fun k _ => k = 294 ∨ k = 302 ∨ k = 303)) (fun k ls τ hk hi hq => ?_) (fun ls τ hi => ?_) a1.toNat 0 (by omega) _ _ ⟨rfl, rfl, Agr_refl _ _⟩
  · obtain ⟨rfl, h1, hA⟩ := hi
    obtain ⟨hw1, hs1, k7⟩ := brmn_ok h.2.1 hw M2.1 k
    have k8 := hs1 8 (by unfold SBZ; omega) (by omega)
    have ft : ∀ j, j = 2 ∨ 930 ≤ j → brms' a2 k (σ 294) j = σ 294 j := fun j hj => hs1 j (by unfold SBZ; omega) (by omega)
    have es : brms' a2 (k + 1) (σ 294) = brmt a2 (brms' a2 k (σ 294)) := rfl
    obtain ⟨τ1, hR, h2, hA1⟩ := sp_M_month (L := L) (d := d + 0) (σ := τ) (a1 := a2) (by rw [h1]; exact hw1) (by rw [h1]; exact WT_f ft ht) (by rw [h1]; omega) (by rw [h1]; omega) h.2
    rw [r_M_months_47]
    simp (disch := first | assumption | exact gb_01 _ | omega) only [r_M_months_0, r_M_months_1, r_M_months_2, r_M_months_3, r_M_months_6, r_M_months_9, r_M_months_12, r_M_months_13, r_M_months_14, r_M_months_15, r_M_months_18, r_M_months_21, r_M_months_24, r_M_months_26, r_M_months_27, r_M_months_28, r_M_months_31, r_M_months_33, r_M_months_34, r_M_months_35, r_M_months_36, r_M_months_39, r_M_months_42, r_M_months_44, r_M_months_45, r_M_months_46, r_M_months_48, r_M_months_49, r_M_months_52, r_M_months_53, r_M_months_57, r_M_months_60, r_M_months_63, r_M_months_64, r_M_months_67, r_M_months_69, r_M_months_70, c_M_months_54 hR, Option.toList, List.singleton_append, List.cons_append, List.nil_append, List.append_nil, Q293, w32_gb, w32i, tn_add, tn_mul, Int.toNat_natCast, Int.toNat_zero, Int.reduceLE, Int.reduceLT, Int.reduceEq, Int.reduceNe, gb_T, gb_F, Int.reduceToNat, eq_self, true_or, or_true, and_true, true_and, and_self, ↓ite_gb0, ↓ite_gbn, ↓if_pos, ↓if_neg, if_true, if_false, not_true_eq_false, not_false_eq_true, gb_ne0, gb_eq0]
    exact hq _ _ ⟨by simp only [List.cons.injEq, vI_inj, vR_inj, and_true, true_and]; omega, by rw [es, ← h1]; exact h2, Agr_trans hA hA1⟩
  · obtain ⟨rfl, h1, hA⟩ := hi
    obtain ⟨hw1, hs1, k7⟩ := brmn_ok h.2.1 hw M2.1 a1.toNat
    have h7' : τ 294 7 = σ 294 7 + a1 := by rw [h1]; omega
    rw [r_M_months_47]
    simp (disch := first | assumption | exact gb_01 _ | omega) only [r_M_months_0, r_M_months_1, r_M_months_2, r_M_months_3, r_M_months_6, r_M_months_9, r_M_months_12, r_M_months_13, r_M_months_14, r_M_months_15, r_M_months_18, r_M_months_21, r_M_months_24, r_M_months_26, r_M_months_27, r_M_months_28, r_M_months_31, r_M_months_33, r_M_months_34, r_M_months_35, r_M_months_36, r_M_months_39, r_M_months_42, r_M_months_44, r_M_months_45, r_M_months_46, r_M_months_48, r_M_months_49, r_M_months_52, r_M_months_53, r_M_months_57, r_M_months_60, r_M_months_63, r_M_months_64, r_M_months_67, r_M_months_69, r_M_months_70, Q293, h7', w32_gb, w32i, tn_add, tn_mul, Int.toNat_natCast, Int.toNat_zero, Int.reduceLE, Int.reduceLT, Int.reduceEq, Int.reduceNe, gb_T, gb_F, Int.reduceToNat, eq_self, true_or, or_true, and_true, true_and, and_self, ↓ite_gb0, ↓ite_gbn, ↓if_pos, ↓if_neg, if_true, if_false, not_true_eq_false, not_false_eq_true, gb_ne0, gb_eq0]
    exact ⟨h1, hA⟩
theorem op_months (a1 a2 : Int) : Op 45 264 [vI a1, vI a2] := by
  intro L d σ hI
  obtain ⟨hw, hc⟩ := iB hI
  have w1 := hw.1
  have w2 := hw.2.1
  have c1 := hc.1
  have c2 := hc.2.1
  have hp : w32 (σ 29 9 - 1) = σ 29 9 - 1 := w32i (by omega)
  have hm : w32 (σ 294 1 - 1) = σ 294 1 - 1 := w32i (by omega)
  
  obtain ⟨ht, hct⟩ := iT hI
  obtain ⟨hM, hcm⟩ := iM hI
  have M1 := hM.1
  have M2 := hM.2
  have m7 := hcm.1
  by_cases h : (1 ≤ a1 ∧ a1 ≤ 60) ∧ 0 ≤ a2 ∧ a2 ≤ 999
  · by_cases hf : σ 294 7 + a1 ≤ 599
    · obtain ⟨σ1, hR1, ⟨hc1, h71⟩, hA1⟩ := sp_X_months (L := L) (d := d + 995) (a1 := a1) (a2 := a2) hw ht hc hct hcm.1 hcm.2 hM h hf
      have e : σ1 294 = σ 294 := funext (fun j => hA1 294 j (by omega))
      obtain ⟨σ2, hR2, h2, hA2⟩ := sp_M_months (L := L) (d := d + 996) (σ := σ1) (a1 := a1) (a2 := a2) (by rw [e]; exact hw) (by rw [e]; exact ht) (by rw [e]; exact hM) h (by rw [e]; exact hf)
      rw [e] at hR2 h2
      obtain ⟨k1, k2, k3⟩ := brmn_ok h.2.1 hw M2.1 a1.toNat
      refine ⟨_, _, _, hR1, hR2, Inv_month hI (fun k j hn => ?_) (by rw [h2]; exact k1) (by rw [h2]; exact CB_agr (fun k j hk => hA2 k j (by omega)) k1 hc1) (by
        unfold WM
        rw [h2, k3, k2 8 (by unfold SBZ; omega) (by omega)]
        omega) (by
        unfold CM
        rw [h2, k3, k2 8 (by unfold SBZ; omega) (by omega), hA2 28 7 (by omega), hA2 28 8 (by omega), h71, hA1 28 8 (by omega)]
        exact ⟨by omega, hcm.2⟩)⟩
      by_cases z : k = 294
      · subst z
        rw [h2]
        exact k2 j (fun x => hn (Or.inr (Or.inr (Or.inr ⟨rfl, Or.inl x⟩)))) (fun x => hn (Or.inr (Or.inr (Or.inr ⟨rfl, Or.inr x⟩))))
      · unfold ZFr at hn
        rw [hA2 k j (by omega), hA1 k j (by omega)]
    · exact ⟨_, _, _, sp_X_months_f h (by omega) (by omega), sp_M_months_f h (by omega) (by omega), hI⟩
  · exact ⟨_, _, _, sp_X_months_b h, sp_M_months_b h, hI⟩
