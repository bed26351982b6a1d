/-! time. -/
variable {L d : Nat} {σ σ1 : Nat → Nat → Int} {Q : Option gV → (Nat → Nat → Int) → Prop} {a0 a1 a2 a3 a4 a5 a6 a7 a8 a9 a10 a11 s0 s1 s2 s3 s4 s5 s6 s7 s8 s9 : Int} {l0 l1 l2 l3 l4 l5 l6 l7 l8 l9 l10 l11 t0 t1 t2 t3 t4 t5 t6 t7 t8 t9 : gV} {b0 b1 b2 b3 b4 b5 b6 b7 b8 b9 b10 b11 c0 c1 c2 c3 c4 c5 c6 c7 c8 c9 : Nat} {r : Option gV}
theorem r_X_time_0 : Wp L d k_X_time 0 [l0, vI a1, l2, l3, l4] [] σ Q ↔ Wp L d k_X_time 1 [l0, vI a1, l2, l3, l4] [vI a1] σ Q := wp_iload rfl rfl
theorem r_X_time_1 : Wp L d k_X_time 1 [l0, l1, l2, l3, l4] [vI s0] σ Q ↔ Wp L d k_X_time 2 [l0, l1, l2, l3, l4] [vI 0, vI s0] σ Q := wp_push rfl
theorem r_X_time_2 : Wp L d k_X_time 2 [l0, l1, l2, l3, l4] [vI s1, vI s0] σ Q ↔ Wp L d k_X_time 5 [l0, l1, l2, l3, l4] [vI 999, vI s1, vI s0] σ Q := wp_push rfl
theorem r_X_time_8 : Wp L d k_X_time 8 [l0, l1, l2, l3, l4] [vI s0] σ Q ↔ (if s0 = 0 then Wp L d k_X_time 22 [l0, l1, l2, l3, l4] [] σ Q else Wp L d k_X_time 11 [l0, l1, l2, l3, l4] [] σ Q) := wp_if_eq rfl
theorem r_X_time_11 : Wp L d k_X_time 11 [l0, l1, l2, vI a3, l4] [] σ Q ↔ Wp L d k_X_time 12 [l0, l1, l2, vI a3, l4] [vI a3] σ Q := wp_iload rfl rfl
theorem r_X_time_12 : Wp L d k_X_time 12 [l0, vI a1, l2, l3, l4] [vI s0] σ Q ↔ Wp L d k_X_time 13 [l0, vI a1, l2, l3, l4] [vI a1, vI s0] σ Q := wp_iload rfl rfl
theorem r_X_time_13 : Wp L d k_X_time 13 [l0, l1, l2, l3, l4] [vI s1, vI s0] σ Q ↔ Wp L d k_X_time 16 [l0, l1, l2, l3, l4] [vI 999, vI s1, vI s0] σ Q := wp_push rfl
theorem r_X_time_19 : Wp L d k_X_time 19 [l0, l1, l2, l3, l4] [vI s0] σ Q ↔ (if s0 ≠ 0 then Wp L d k_X_time 25 [l0, l1, l2, l3, l4] [] σ Q else Wp L d k_X_time 22 [l0, l1, l2, l3, l4] [] σ Q) := wp_if_ne rfl
theorem r_X_time_22 : Wp L d k_X_time 22 [l0, l1, l2, l3, l4] [] σ Q ↔ Wp L d k_X_time 24 [l0, l1, l2, l3, l4] [vI (-1000000001)] σ Q := wp_push rfl
theorem r_X_time_24 : Wp L d k_X_time 24 [l0, l1, l2, l3, l4] [vI s0] σ Q ↔ Q (some (vI s0)) σ := wp_iret rfl
theorem r_X_time_25 : Wp L d k_X_time 25 [l0, l1, vI a2, l3, l4] [] σ Q ↔ Wp L d k_X_time 26 [l0, l1, vI a2, l3, l4] [vI a2] σ Q := wp_iload rfl rfl
theorem r_X_time_26 : Wp L d k_X_time 26 [l0, l1, l2, l3, l4] [vI s0] σ Q ↔ Wp L d k_X_time 27 [l0, l1, l2, l3, l4] [vI 0, vI s0] σ Q := wp_push rfl
theorem r_X_time_27 : Wp L d k_X_time 27 [l0, l1, l2, l3, l4] [vI s1, vI s0] σ Q ↔ Wp L d k_X_time 30 [l0, l1, l2, l3, l4] [vI 99999, vI s1, vI s0] σ Q := wp_push rfl
theorem r_X_time_33 : Wp L d k_X_time 33 [l0, l1, l2, l3, l4] [vI s0] σ Q ↔ (if s0 = 0 then Wp L d k_X_time 54 [l0, l1, l2, l3, l4] [] σ Q else Wp L d k_X_time 36 [l0, l1, l2, l3, l4] [] σ Q) := wp_if_eq rfl
theorem r_X_time_36 : Wp L d k_X_time 36 [l0, l1, l2, l3, vI a4] [] σ Q ↔ Wp L d k_X_time 38 [l0, l1, l2, l3, vI a4] [vI a4] σ Q := wp_iload rfl rfl
theorem r_X_time_38 : Wp L d k_X_time 38 [l0, l1, l2, l3, l4] [vI s0] σ Q ↔ Wp L d k_X_time 39 [l0, l1, l2, l3, l4] [vI 0, vI s0] σ Q := wp_push rfl
theorem r_X_time_39 : Wp L d k_X_time 39 [l0, l1, l2, l3, l4] [vI s1, vI s0] σ Q ↔ Wp L d k_X_time 42 [l0, l1, l2, l3, l4] [vI 99999, vI s1, vI s0] σ Q := wp_push rfl
theorem r_X_time_45 : Wp L d k_X_time 45 [l0, l1, l2, l3, l4] [vI s0] σ Q ↔ (if s0 = 0 then Wp L d k_X_time 54 [l0, l1, l2, l3, l4] [] σ Q else Wp L d k_X_time 48 [l0, l1, l2, l3, l4] [] σ Q) := wp_if_eq rfl
theorem r_X_time_48 : Wp L d k_X_time 48 [l0, l1, l2, l3, vI a4] [] σ Q ↔ Wp L d k_X_time 50 [l0, l1, l2, l3, vI a4] [vI a4] σ Q := wp_iload rfl rfl
theorem r_X_time_50 : Wp L d k_X_time 50 [l0, l1, vI a2, l3, l4] [vI s0] σ Q ↔ Wp L d k_X_time 51 [l0, l1, vI a2, l3, l4] [vI a2, vI s0] σ Q := wp_iload rfl rfl
theorem r_X_time_51 : Wp L d k_X_time 51 [l0, l1, l2, l3, l4] [vI s1, vI s0] σ Q ↔ (if s1 < s0 then Wp L d k_X_time 57 [l0, l1, l2, l3, l4] [] σ Q else Wp L d k_X_time 54 [l0, l1, l2, l3, l4] [] σ Q) := wp_cmp_gt rfl
theorem r_X_time_54 : Wp L d k_X_time 54 [l0, l1, l2, l3, l4] [] σ Q ↔ Wp L d k_X_time 56 [l0, l1, l2, l3, l4] [vI (-1000000001)] σ Q := wp_push rfl
theorem r_X_time_56 : Wp L d k_X_time 56 [l0, l1, l2, l3, l4] [vI s0] σ Q ↔ Q (some (vI s0)) σ := wp_iret rfl
theorem r_X_time_57 : Wp L d k_X_time 57 [vR b0, l1, l2, l3, l4] [] σ Q ↔ Wp L d k_X_time 58 [vR b0, l1, l2, l3, l4] [vR b0] σ Q := wp_aload rfl rfl
theorem r_X_time_58 (h : gK c0 = 0) : Wp L d k_X_time 58 [l0, l1, l2, l3, l4] [vR c0] σ Q ↔ Wp L d k_X_time 61 [l0, l1, l2, l3, l4] [vR (gq c0 0)] σ Q := wp_getR (c := 128) rfl rfl rfl rfl rfl h
theorem r_X_time_61 (h : gK c0 = 5) : Wp L d k_X_time 61 [l0, l1, l2, l3, l4] [vR c0] σ Q ↔ Wp L d k_X_time 64 [l0, l1, l2, l3, l4] [vR (gq c0 5)] σ Q := wp_getR (c := 1413) rfl rfl rfl rfl rfl h
theorem r_X_time_64 (h : gK c0 = 3) : Wp L d k_X_time 64 [l0, l1, l2, l3, l4] [vR c0] σ Q ↔ Wp L d k_X_time 67 [l0, l1, l2, l3, l4] [vI (σ c0 4)] σ Q := wp_getI (c := 772) rfl rfl rfl rfl h
theorem r_X_time_67 : Wp L d k_X_time 67 [l0, l1, l2, l3, l4] [vI s0] σ Q ↔ Wp L d k_X_time 69 [l0, l1, l2, l3, l4] [vI 16, vI s0] σ Q := wp_push rfl
theorem r_X_time_69 : Wp L d k_X_time 69 [l0, l1, l2, l3, l4] [vI s1, vI s0] σ Q ↔ (if s0 < s1 then Wp L d k_X_time 75 [l0, l1, l2, l3, l4] [] σ Q else Wp L d k_X_time 72 [l0, l1, l2, l3, l4] [] σ Q) := wp_cmp_lt rfl
theorem r_X_time_72 : Wp L d k_X_time 72 [l0, l1, l2, l3, l4] [] σ Q ↔ Wp L d k_X_time 74 [l0, l1, l2, l3, l4] [vI (-1000000003)] σ Q := wp_push rfl
theorem r_X_time_74 : Wp L d k_X_time 74 [l0, l1, l2, l3, l4] [vI s0] σ Q ↔ Q (some (vI s0)) σ := wp_iret rfl
theorem r_X_time_75 : Wp L d k_X_time 75 [vR b0, l1, l2, l3, l4] [] σ Q ↔ Wp L d k_X_time 76 [vR b0, l1, l2, l3, l4] [vR b0] σ Q := wp_aload rfl rfl
theorem r_X_time_76 (h : gK c0 = 0) : Wp L d k_X_time 76 [l0, l1, l2, l3, l4] [vR c0] σ Q ↔ Wp L d k_X_time 79 [l0, l1, l2, l3, l4] [vR (gq c0 0)] σ Q := wp_getR (c := 128) rfl rfl rfl rfl rfl h
theorem r_X_time_79 (h : gK c0 = 5) : Wp L d k_X_time 79 [l0, l1, l2, l3, l4] [vR c0] σ Q ↔ Wp L d k_X_time 82 [l0, l1, l2, l3, l4] [vR (gq c0 5)] σ Q := wp_getR (c := 1413) rfl rfl rfl rfl rfl h
theorem r_X_time_82 (h : gK c0 = 3) : Wp L d k_X_time 82 [l0, l1, l2, l3, l4] [vR c0] σ Q ↔ Wp L d k_X_time 85 [l0, l1, l2, l3, l4] [vR (gq c0 0)] σ Q := wp_getR (c := 896) rfl rfl rfl rfl rfl h
theorem r_X_time_85 : Wp L d k_X_time 85 [vR b0, l1, l2, l3, l4] [vR c0] σ Q ↔ Wp L d k_X_time 86 [vR b0, l1, l2, l3, l4] [vR b0, vR c0] σ Q := wp_aload rfl rfl
theorem r_X_time_86 (h : gK c1 = 0) : Wp L d k_X_time 86 [l0, l1, l2, l3, l4] [vR c1, vR c0] σ Q ↔ Wp L d k_X_time 89 [l0, l1, l2, l3, l4] [vR (gq c1 0), vR c0] σ Q := wp_getR (c := 128) rfl rfl rfl rfl rfl h
theorem r_X_time_89 (h : gK c1 = 5) : Wp L d k_X_time 89 [l0, l1, l2, l3, l4] [vR c1, vR c0] σ Q ↔ Wp L d k_X_time 92 [l0, l1, l2, l3, l4] [vR (gq c1 5), vR c0] σ Q := wp_getR (c := 1413) rfl rfl rfl rfl rfl h
theorem r_X_time_92 (h : gK c1 = 3) : Wp L d k_X_time 92 [l0, l1, l2, l3, l4] [vR c1, vR c0] σ Q ↔ Wp L d k_X_time 95 [l0, l1, l2, l3, l4] [vI (σ c1 4), vR c0] σ Q := wp_getI (c := 772) rfl rfl rfl rfl h
theorem r_X_time_95 : Wp L d k_X_time 95 [l0, l1, l2, l3, l4] [vI s1, vR c0] σ Q ↔ Wp L d k_X_time 98 [l0, l1, l2, l3, l4] [vI 3600, vI s1, vR c0] σ Q := wp_push rfl
theorem r_X_time_98 : Wp L d k_X_time 98 [l0, l1, l2, vI a3, l4] [vI s2, vI s1, vR c0] σ Q ↔ Wp L d k_X_time 99 [l0, l1, l2, vI a3, l4] [vI a3, vI s2, vI s1, vR c0] σ Q := wp_iload rfl rfl
theorem r_X_time_99 : Wp L d k_X_time 99 [l0, vI a1, l2, l3, l4] [vI s3, vI s2, vI s1, vR c0] σ Q ↔ Wp L d k_X_time 100 [l0, vI a1, l2, l3, l4] [vI a1, vI s3, vI s2, vI s1, vR c0] σ Q := wp_iload rfl rfl
theorem r_X_time_100 : Wp L d k_X_time 100 [l0, l1, l2, l3, l4] [vI s4, vI s3, vI s2, vI s1, vR c0] σ Q ↔ Wp L d k_X_time 101 [l0, l1, l2, l3, l4] [vI (w32 (s3 - s4)), vI s2, vI s1, vR c0] σ Q := wp_isub rfl
theorem r_X_time_101 : Wp L d k_X_time 101 [l0, l1, l2, l3, l4] [vI s3, vI s2, vI s1, vR c0] σ Q ↔ Wp L d k_X_time 102 [l0, l1, l2, l3, l4] [vI (w32 (s2 * s3)), vI s1, vR c0] σ Q := wp_imul rfl
theorem r_X_time_102 : Wp L d k_X_time 102 [l0, l1, l2, l3, vI a4] [vI s2, vI s1, vR c0] σ Q ↔ Wp L d k_X_time 104 [l0, l1, l2, l3, vI a4] [vI a4, vI s2, vI s1, vR c0] σ Q := wp_iload rfl rfl
theorem r_X_time_104 : Wp L d k_X_time 104 [l0, l1, vI a2, l3, l4] [vI s3, vI s2, vI s1, vR c0] σ Q ↔ Wp L d k_X_time 105 [l0, l1, vI a2, l3, l4] [vI a2, vI s3, vI s2, vI s1, vR c0] σ Q := wp_iload rfl rfl
theorem r_X_time_105 : Wp L d k_X_time 105 [l0, l1, l2, l3, l4] [vI s4, vI s3, vI s2, vI s1, vR c0] σ Q ↔ Wp L d k_X_time 106 [l0, l1, l2, l3, l4] [vI (w32 (s3 - s4)), vI s2, vI s1, vR c0] σ Q := wp_isub rfl
theorem r_X_time_106 (h : s3 ≠ 0) : Wp L d k_X_time 106 [l0, l1, l2, l3, l4] [vI s3, vI s2, vI s1, vR c0] σ Q ↔ Wp L d k_X_time 107 [l0, l1, l2, l3, l4] [vI (w32 (s2.tdiv s3)), vI s1, vR c0] σ Q := wp_idiv rfl h
theorem r_X_time_107 (h : gK c0 = 100) (hx : 0 ≤ s1 ∧ s1 < gN c0) : Wp L d k_X_time 107 [l0, l1, l2, l3, l4] [vI s2, vI s1, vR c0] σ Q ↔ Wp L d k_X_time 108 [l0, l1, l2, l3, l4] [] (gupd σ c0 s1.toNat s2) Q := wp_iast rfl h hx
theorem r_X_time_108 : Wp L d k_X_time 108 [vR b0, l1, l2, l3, l4] [] σ Q ↔ Wp L d k_X_time 109 [vR b0, l1, l2, l3, l4] [vR b0] σ Q := wp_aload rfl rfl
theorem r_X_time_109 (h : gK c0 = 0) : Wp L d k_X_time 109 [l0, l1, l2, l3, l4] [vR c0] σ Q ↔ Wp L d k_X_time 112 [l0, l1, l2, l3, l4] [vR (gq c0 0)] σ Q := wp_getR (c := 128) rfl rfl rfl rfl rfl h
theorem r_X_time_112 (h : gK c0 = 5) : Wp L d k_X_time 112 [l0, l1, l2, l3, l4] [vR c0] σ Q ↔ Wp L d k_X_time 115 [l0, l1, l2, l3, l4] [vR (gq c0 5)] σ Q := wp_getR (c := 1413) rfl rfl rfl rfl rfl h
theorem r_X_time_115 : Wp L d k_X_time 115 [l0, l1, l2, l3, l4] [vR c0] σ Q ↔ Wp L d k_X_time 116 [l0, l1, l2, l3, l4] [vR c0, vR c0] σ Q := wp_dupR rfl
theorem r_X_time_116 (h : gK c1 = 3) : Wp L d k_X_time 116 [l0, l1, l2, l3, l4] [vR c1, vR c0] σ Q ↔ Wp L d k_X_time 119 [l0, l1, l2, l3, l4] [vI (σ c1 4), vR c0] σ Q := wp_getI (c := 772) rfl rfl rfl rfl h
theorem r_X_time_119 : Wp L d k_X_time 119 [l0, l1, l2, l3, l4] [vI s1, vR c0] σ Q ↔ Wp L d k_X_time 120 [l0, l1, l2, l3, l4] [vI s1, vR c0, vI s1] σ Q := wp_dup_x1 rfl
theorem r_X_time_120 : Wp L d k_X_time 120 [l0, l1, l2, l3, l4] [vI s2, vR c1, vI s0] σ Q ↔ Wp L d k_X_time 121 [l0, l1, l2, l3, l4] [vI 1, vI s2, vR c1, vI s0] σ Q := wp_push rfl
theorem r_X_time_121 : Wp L d k_X_time 121 [l0, l1, l2, l3, l4] [vI s3, vI s2, vR c1, vI s0] σ Q ↔ Wp L d k_X_time 122 [l0, l1, l2, l3, l4] [vI (w32 (s2 + s3)), vR c1, vI s0] σ Q := wp_iadd rfl
theorem r_X_time_122 (h : gK c1 = 3) : Wp L d k_X_time 122 [l0, l1, l2, l3, l4] [vI s2, vR c1, vI s0] σ Q ↔ Wp L d k_X_time 125 [l0, l1, l2, l3, l4] [vI s0] (gupd σ c1 4 s2) Q := wp_putI (c := 772) rfl rfl rfl rfl h
theorem r_X_time_125 : Wp L d k_X_time 125 [l0, l1, l2, l3, l4] [vI s0] σ Q ↔ Q (some (vI s0)) σ := wp_iret rfl
theorem r_X_time_5 : Wp L (d + 1) k_X_time 5 [l0, l1, l2, l3, l4] [vI s2, vI s1, vI s0] σ Q ↔ Wp L (d + 1) k_X_time 8 [l0, l1, l2, l3, l4] [vI (gb (s1 ≤ s0 ∧ s0 ≤ s2))] σ Q := wp_callR (d := d + 0) (as := [vI s0, vI s1, vI s2]) (rest := []) rfl rfl rfl rfl rfl rfl rfl rfl (sp_X_within)
theorem r_X_time_16 : Wp L (d + 1) k_X_time 16 [l0, l1, l2, l3, l4] [vI s2, vI s1, vI s0] σ Q ↔ Wp L (d + 1) k_X_time 19 [l0, l1, l2, l3, l4] [vI (gb (s1 ≤ s0 ∧ s0 ≤ s2))] σ Q := wp_callR (d := d + 0) (as := [vI s0, vI s1, vI s2]) (rest := []) rfl rfl rfl rfl rfl rfl rfl rfl (sp_X_within)
theorem r_X_time_30 : Wp L (d + 1) k_X_time 30 [l0, l1, l2, l3, l4] [vI s2, vI s1, vI s0] σ Q ↔ Wp L (d + 1) k_X_time 33 [l0, l1, l2, l3, l4] [vI (gb (s1 ≤ s0 ∧ s0 ≤ s2))] σ Q := wp_callR (d := d + 0) (as := [vI s0, vI s1, vI s2]) (rest := []) rfl rfl rfl rfl rfl rfl rfl rfl (sp_X_within)
theorem r_X_time_42 : Wp L (d + 1) k_X_time 42 [l0, l1, l2, l3, l4] [vI s2, vI s1, vI s0] σ Q ↔ Wp L (d + 1) k_X_time 45 [l0, l1, l2, l3, l4] [vI (gb (s1 ≤ s0 ∧ s0 ≤ s2))] σ Q := wp_callR (d := d + 0) (as := [vI s0, vI s1, vI s2]) (rest := []) rfl rfl rfl rfl rfl rfl rfl rfl (sp_X_within)
theorem sp_X_time_b (h : ¬ ((0 ≤ a1 ∧ a1 ≤ 999) ∧ (a1 ≤ a3 ∧ a3 ≤ 999) ∧ (0 ≤ a2 ∧ a2 ≤ 99999) ∧ a2 < a4 ∧ a4 ≤ 99999)) : Run L (d + 1) 71 [vR 27, vI a1, vI a2, vI a3, vI a4] σ (some (vI (-1000000001))) σ := by
  refine Run_of (C' := k_X_time) rfl ?_
  show Wp L (d + 1) k_X_time 0 [vR 27, vI a1, vI a2, vI a3, vI a4] [] σ _
  simp only [r_X_time_0, r_X_time_1, r_X_time_2, r_X_time_5, r_X_time_8, r_X_time_11, r_X_time_12, r_X_time_13, r_X_time_16, r_X_time_19, r_X_time_22, r_X_time_24, r_X_time_25, r_X_time_26, r_X_time_27, r_X_time_30, r_X_time_33, r_X_time_36, r_X_time_38, r_X_time_39, r_X_time_42, r_X_time_45, r_X_time_48, r_X_time_50, r_X_time_51, r_X_time_54, r_X_time_56, gK_27, gK_28, gK_29, gq_27_0, gq_27_1, gK_293, gq_293_0, gK_294, gN_294, gq_28_5, gK_123, gq_123_0, gK_124, gN_124, Int.reduceLE, Int.reduceLT, Int.reduceEq, Int.reduceToNat, gb_01, eq_self, true_or, or_true, and_true, true_and, and_self, if_true, if_false, not_true_eq_false, not_false_eq_true, ne_eq, gb_ne0, gb_eq0]
  repeat' split
  all_goals first | trivial | omega
theorem sp_X_time_f (h1 : 0 ≤ a1 ∧ a1 ≤ 999) (h2 : a1 ≤ a3 ∧ a3 ≤ 999) (h3 : 0 ≤ a2 ∧ a2 ≤ 99999) (h4 : a2 < a4 ∧ a4 ≤ 99999) (h : ¬ σ 123 4 < 16) : Run L (d + 1) 71 [vR 27, vI a1, vI a2, vI a3, vI a4] σ (some (vI (-1000000003))) σ := by
  have h5 : 0 ≤ a4 ∧ a4 ≤ 99999 := by omega
  have h6 : ¬ a4 ≤ a2 := by omega
  refine Run_of (C' := k_X_time) rfl ?_
  show Wp L (d + 1) k_X_time 0 [vR 27, vI a1, vI a2, vI a3, vI a4] [] σ _
  simp only [r_X_time_0, r_X_time_1, r_X_time_2, r_X_time_5, r_X_time_8, r_X_time_11, r_X_time_12, r_X_time_13, r_X_time_16, r_X_time_19, r_X_time_22, r_X_time_24, r_X_time_25, r_X_time_26, r_X_time_27, r_X_time_30, r_X_time_33, r_X_time_36, r_X_time_38, r_X_time_39, r_X_time_42, r_X_time_45, r_X_time_48, r_X_time_50, r_X_time_51, r_X_time_54, r_X_time_56, r_X_time_57, r_X_time_58, r_X_time_61, r_X_time_64, r_X_time_67, r_X_time_69, r_X_time_72, r_X_time_74, r_X_time_75, r_X_time_76, r_X_time_79, r_X_time_82, r_X_time_85, r_X_time_86, r_X_time_89, r_X_time_92, r_X_time_95, r_X_time_98, r_X_time_99, r_X_time_100, r_X_time_101, r_X_time_102, r_X_time_104, r_X_time_105, r_X_time_106, r_X_time_107, r_X_time_108, r_X_time_109, r_X_time_112, r_X_time_115, r_X_time_116, r_X_time_119, r_X_time_120, r_X_time_121, r_X_time_122, r_X_time_125, gK_27, gK_28, gK_29, gq_27_0, gq_27_1, gK_293, gq_293_0, gK_294, gN_294, gq_28_5, gK_123, gq_123_0, gK_124, gN_124, h1, h2, h3, h4, h5, h6, h, Int.reduceLE, Int.reduceLT, Int.reduceEq, Int.reduceToNat, gb_01, eq_self, true_or, or_true, and_true, true_and, and_self, if_true, if_false, not_true_eq_false, not_false_eq_true, ne_eq, gb_ne0, gb_eq0]
theorem sp_X_time (h1 : 0 ≤ a1 ∧ a1 ≤ 999) (h2 : a1 ≤ a3 ∧ a3 ≤ 999) (h3 : 0 ≤ a2 ∧ a2 ≤ 99999) (h4 : a2 < a4 ∧ a4 ≤ 99999) (h : 0 ≤ σ 123 4 ∧ σ 123 4 < 16) : Run L (d + 1) 71 [vR 27, vI a1, vI a2, vI a3, vI a4] σ (some (vI (σ 123 4))) (gupd (gupd σ 124 (σ 123 4).toNat ((3600 * (a3 - a1)).tdiv (a4 - a2))) 123 4 (σ 123 4 + 1)) := by
  have h5 : 0 ≤ a4 ∧ a4 ≤ 99999 := by omega
  have h6 : ¬ a4 ≤ a2 := by omega
  have td := tdiv_bd (a := 3600 * (a3 - a1)) (b := a4 - a2) (by omega) (by omega)
  have v0 : w32 (a3 - a1) = a3 - a1 := w32_id (by unfold gr32; omega)
  have v1 : w32 (3600 * (a3 - a1)) = 3600 * (a3 - a1) := w32_id (by unfold gr32; omega)
  have v2 : w32 (a4 - a2) = a4 - a2 := w32_id (by unfold gr32; omega)
  have v3 : ¬ a4 - a2 = 0 := by omega
  have v4 : w32 ((3600 * (a3 - a1)).tdiv (a4 - a2)) = (3600 * (a3 - a1)).tdiv (a4 - a2) := w32_id (by unfold gr32; omega)
  have v5 : w32 (σ 123 4 + 1) = σ 123 4 + 1 := w32_id (by unfold gr32; omega)
  refine Run_of (C' := k_X_time) rfl ?_
  show Wp L (d + 1) k_X_time 0 [vR 27, vI a1, vI a2, vI a3, vI a4] [] σ _
  simp only [r_X_time_0, r_X_time_1, r_X_time_2, r_X_time_5, r_X_time_8, r_X_time_11, r_X_time_12, r_X_time_13, r_X_time_16, r_X_time_19, r_X_time_22, r_X_time_24, r_X_time_25, r_X_time_26, r_X_time_27, r_X_time_30, r_X_time_33, r_X_time_36, r_X_time_38, r_X_time_39, r_X_time_42, r_X_time_45, r_X_time_48, r_X_time_50, r_X_time_51, r_X_time_54, r_X_time_56, r_X_time_57, r_X_time_58, r_X_time_61, r_X_time_64, r_X_time_67, r_X_time_69, r_X_time_72, r_X_time_74, r_X_time_75, r_X_time_76, r_X_time_79, r_X_time_82, r_X_time_85, r_X_time_86, r_X_time_89, r_X_time_92, r_X_time_95, r_X_time_98, r_X_time_99, r_X_time_100, r_X_time_101, r_X_time_102, r_X_time_104, r_X_time_105, r_X_time_106, r_X_time_107, r_X_time_108, r_X_time_109, r_X_time_112, r_X_time_115, r_X_time_116, r_X_time_119, r_X_time_120, r_X_time_121, r_X_time_122, r_X_time_125, gK_27, gK_28, gK_29, gq_27_0, gq_27_1, gK_293, gq_293_0, gK_294, gN_294, gq_28_5, gK_123, gq_123_0, gK_124, gN_124, h1, h2, h3, h4, h5, h6, h, v0, v1, v2, v3, v4, v5, gupd_rd, Nat.reduceEqDiff, and_false, false_and, Int.reduceLE, Int.reduceLT, Int.reduceEq, Int.reduceToNat, gb_01, eq_self, true_or, or_true, and_true, true_and, and_self, if_true, if_false, not_true_eq_false, not_false_eq_true, ne_eq, gb_ne0, gb_eq0]
theorem r_M_time_0 : Wp L d k_M_time 0 [l0, vI a1, l2, l3, l4, l5] [] σ Q ↔ Wp L d k_M_time 1 [l0, vI a1, l2, l3, l4, l5] [vI a1] σ Q := wp_iload rfl rfl
theorem r_M_time_1 : Wp L d k_M_time 1 [l0, l1, l2, l3, l4, l5] [vI s0] σ Q ↔ Wp L d k_M_time 2 [l0, l1, l2, l3, l4, l5] [vL s0] σ Q := wp_i2l rfl
theorem r_M_time_2 : Wp L d k_M_time 2 [l0, l1, l2, l3, l4, l5] [vL s0] σ Q ↔ Wp L d k_M_time 3 [l0, l1, l2, l3, l4, l5] [vL 0, vL s0] σ Q := wp_pushL rfl
theorem r_M_time_3 : Wp L d k_M_time 3 [l0, l1, l2, l3, l4, l5] [vL s1, vL s0] σ Q ↔ Wp L d k_M_time 6 [l0, l1, l2, l3, l4, l5] [vL 999, vL s1, vL s0] σ Q := wp_pushL rfl
theorem r_M_time_9 : Wp L d k_M_time 9 [l0, l1, l2, l3, l4, l5] [vI s0] σ Q ↔ (if s0 = 0 then Wp L d k_M_time 53 [l0, l1, l2, l3, l4, l5] [] σ Q else Wp L d k_M_time 12 [l0, l1, l2, l3, l4, l5] [] σ Q) := wp_if_eq rfl
theorem r_M_time_12 : Wp L d k_M_time 12 [l0, l1, l2, vI a3, l4, l5] [] σ Q ↔ Wp L d k_M_time 13 [l0, l1, l2, vI a3, l4, l5] [vI a3] σ Q := wp_iload rfl rfl
theorem r_M_time_13 : Wp L d k_M_time 13 [l0, l1, l2, l3, l4, l5] [vI s0] σ Q ↔ Wp L d k_M_time 14 [l0, l1, l2, l3, l4, l5] [vL s0] σ Q := wp_i2l rfl
theorem r_M_time_14 : Wp L d k_M_time 14 [l0, vI a1, l2, l3, l4, l5] [vL s0] σ Q ↔ Wp L d k_M_time 15 [l0, vI a1, l2, l3, l4, l5] [vI a1, vL s0] σ Q := wp_iload rfl rfl
theorem r_M_time_15 : Wp L d k_M_time 15 [l0, l1, l2, l3, l4, l5] [vI s1, vL s0] σ Q ↔ Wp L d k_M_time 16 [l0, l1, l2, l3, l4, l5] [vL s1, vL s0] σ Q := wp_i2l rfl
theorem r_M_time_16 : Wp L d k_M_time 16 [l0, l1, l2, l3, l4, l5] [vL s1, vL s0] σ Q ↔ Wp L d k_M_time 19 [l0, l1, l2, l3, l4, l5] [vL 999, vL s1, vL s0] σ Q := wp_pushL rfl
theorem r_M_time_22 : Wp L d k_M_time 22 [l0, l1, l2, l3, l4, l5] [vI s0] σ Q ↔ (if s0 = 0 then Wp L d k_M_time 53 [l0, l1, l2, l3, l4, l5] [] σ Q else Wp L d k_M_time 25 [l0, l1, l2, l3, l4, l5] [] σ Q) := wp_if_eq rfl
theorem r_M_time_25 : Wp L d k_M_time 25 [l0, l1, vI a2, l3, l4, l5] [] σ Q ↔ Wp L d k_M_time 26 [l0, l1, vI a2, l3, l4, l5] [vI a2] σ Q := wp_iload rfl rfl
theorem r_M_time_26 : Wp L d k_M_time 26 [l0, l1, l2, l3, l4, l5] [vI s0] σ Q ↔ Wp L d k_M_time 27 [l0, l1, l2, l3, l4, l5] [vL s0] σ Q := wp_i2l rfl
theorem r_M_time_27 : Wp L d k_M_time 27 [l0, l1, l2, l3, l4, l5] [vL s0] σ Q ↔ Wp L d k_M_time 28 [l0, l1, l2, l3, l4, l5] [vL 0, vL s0] σ Q := wp_pushL rfl
theorem r_M_time_28 : Wp L d k_M_time 28 [l0, l1, l2, l3, l4, l5] [vL s1, vL s0] σ Q ↔ Wp L d k_M_time 31 [l0, l1, l2, l3, l4, l5] [vL 99999, vL s1, vL s0] σ Q := wp_pushL rfl
theorem r_M_time_34 : Wp L d k_M_time 34 [l0, l1, l2, l3, l4, l5] [vI s0] σ Q ↔ (if s0 = 0 then Wp L d k_M_time 53 [l0, l1, l2, l3, l4, l5] [] σ Q else Wp L d k_M_time 37 [l0, l1, l2, l3, l4, l5] [] σ Q) := wp_if_eq rfl
theorem r_M_time_37 : Wp L d k_M_time 37 [l0, l1, l2, l3, vI a4, l5] [] σ Q ↔ Wp L d k_M_time 39 [l0, l1, l2, l3, vI a4, l5] [vI a4] σ Q := wp_iload rfl rfl
theorem r_M_time_39 : Wp L d k_M_time 39 [l0, l1, l2, l3, l4, l5] [vI s0] σ Q ↔ Wp L d k_M_time 40 [l0, l1, l2, l3, l4, l5] [vL s0] σ Q := wp_i2l rfl
theorem r_M_time_40 : Wp L d k_M_time 40 [l0, l1, vI a2, l3, l4, l5] [vL s0] σ Q ↔ Wp L d k_M_time 41 [l0, l1, vI a2, l3, l4, l5] [vI a2, vL s0] σ Q := wp_iload rfl rfl
theorem r_M_time_41 : Wp L d k_M_time 41 [l0, l1, l2, l3, l4, l5] [vI s1, vL s0] σ Q ↔ Wp L d k_M_time 42 [l0, l1, l2, l3, l4, l5] [vI 1, vI s1, vL s0] σ Q := wp_push rfl
theorem r_M_time_42 : Wp L d k_M_time 42 [l0, l1, l2, l3, l4, l5] [vI s2, vI s1, vL s0] σ Q ↔ Wp L d k_M_time 43 [l0, l1, l2, l3, l4, l5] [vI (w32 (s1 + s2)), vL s0] σ Q := wp_iadd rfl
theorem r_M_time_43 : Wp L d k_M_time 43 [l0, l1, l2, l3, l4, l5] [vI s1, vL s0] σ Q ↔ Wp L d k_M_time 44 [l0, l1, l2, l3, l4, l5] [vL s1, vL s0] σ Q := wp_i2l rfl
theorem r_M_time_44 : Wp L d k_M_time 44 [l0, l1, l2, l3, l4, l5] [vL s1, vL s0] σ Q ↔ Wp L d k_M_time 47 [l0, l1, l2, l3, l4, l5] [vL 99999, vL s1, vL s0] σ Q := wp_pushL rfl
theorem r_M_time_50 : Wp L d k_M_time 50 [l0, l1, l2, l3, l4, l5] [vI s0] σ Q ↔ (if s0 ≠ 0 then Wp L d k_M_time 56 [l0, l1, l2, l3, l4, l5] [] σ Q else Wp L d k_M_time 53 [l0, l1, l2, l3, l4, l5] [] σ Q) := wp_if_ne rfl
theorem r_M_time_53 : Wp L d k_M_time 53 [l0, l1, l2, l3, l4, l5] [] σ Q ↔ Wp L d k_M_time 55 [l0, l1, l2, l3, l4, l5] [vI (-1000000001)] σ Q := wp_push rfl
theorem r_M_time_55 : Wp L d k_M_time 55 [l0, l1, l2, l3, l4, l5] [vI s0] σ Q ↔ Q (some (vI s0)) σ := wp_iret rfl
theorem r_M_time_56 : Wp L d k_M_time 56 [vR b0, l1, l2, l3, l4, l5] [] σ Q ↔ Wp L d k_M_time 57 [vR b0, l1, l2, l3, l4, l5] [vR b0] σ Q := wp_aload rfl rfl
theorem r_M_time_57 (h : gK c0 = 12) : Wp L d k_M_time 57 [l0, l1, l2, l3, l4, l5] [vR c0] σ Q ↔ Wp L d k_M_time 60 [l0, l1, l2, l3, l4, l5] [vR (gq c0 0)] σ Q := wp_getR (c := 3200) rfl rfl rfl rfl rfl h
theorem r_M_time_60 : Wp L d k_M_time 60 [l0, l1, l2, l3, l4, l5] [vR c0] σ Q ↔ Wp L d k_M_time 61 [l0, l1, l2, l3, l4, l5] [vI 5, vR c0] σ Q := wp_push rfl
theorem r_M_time_61 (h : gK c0 = 100) (hx : 0 ≤ s1 ∧ s1 < gN c0) : Wp L d k_M_time 61 [l0, l1, l2, l3, l4, l5] [vI s1, vR c0] σ Q ↔ Wp L d k_M_time 62 [l0, l1, l2, l3, l4, l5] [vI (σ c0 s1.toNat)] σ Q := wp_iald rfl h hx
theorem r_M_time_62 : Wp L d k_M_time 62 [l0, l1, l2, l3, l4, l5] [vI s0] σ Q ↔ Wp L d k_M_time 64 [l0, l1, l2, l3, l4, l5] [vI 16, vI s0] σ Q := wp_push rfl
theorem r_M_time_64 : Wp L d k_M_time 64 [l0, l1, l2, l3, l4, l5] [vI s1, vI s0] σ Q ↔ (if s0 ≠ s1 then Wp L d k_M_time 70 [l0, l1, l2, l3, l4, l5] [] σ Q else Wp L d k_M_time 67 [l0, l1, l2, l3, l4, l5] [] σ Q) := wp_cmp_ne rfl
theorem r_M_time_67 : Wp L d k_M_time 67 [l0, l1, l2, l3, l4, l5] [] σ Q ↔ Wp L d k_M_time 69 [l0, l1, l2, l3, l4, l5] [vI (-1000000003)] σ Q := wp_push rfl
theorem r_M_time_69 : Wp L d k_M_time 69 [l0, l1, l2, l3, l4, l5] [vI s0] σ Q ↔ Q (some (vI s0)) σ := wp_iret rfl
theorem r_M_time_70 : Wp L d k_M_time 70 [l0, l1, l2, l3, l4, l5] [] σ Q ↔ Wp L d k_M_time 73 [l0, l1, l2, l3, l4, l5] [vI 850] σ Q := wp_push rfl
theorem r_M_time_73 : Wp L d k_M_time 73 [l0, l1, l2, l3, l4, l5] [vI s0] σ Q ↔ Wp L d k_M_time 74 [l0, l1, l2, l3, l4, l5] [vI 4, vI s0] σ Q := wp_push rfl
theorem r_M_time_74 : Wp L d k_M_time 74 [vR b0, l1, l2, l3, l4, l5] [vI s1, vI s0] σ Q ↔ Wp L d k_M_time 75 [vR b0, l1, l2, l3, l4, l5] [vR b0, vI s1, vI s0] σ Q := wp_aload rfl rfl
theorem r_M_time_75 (h : gK c2 = 12) : Wp L d k_M_time 75 [l0, l1, l2, l3, l4, l5] [vR c2, vI s1, vI s0] σ Q ↔ Wp L d k_M_time 78 [l0, l1, l2, l3, l4, l5] [vR (gq c2 0), vI s1, vI s0] σ Q := wp_getR (c := 3200) rfl rfl rfl rfl rfl h
theorem r_M_time_78 : Wp L d k_M_time 78 [l0, l1, l2, l3, l4, l5] [vR c2, vI s1, vI s0] σ Q ↔ Wp L d k_M_time 79 [l0, l1, l2, l3, l4, l5] [vI 5, vR c2, vI s1, vI s0] σ Q := wp_push rfl
theorem r_M_time_79 (h : gK c2 = 100) (hx : 0 ≤ s3 ∧ s3 < gN c2) : Wp L d k_M_time 79 [l0, l1, l2, l3, l4, l5] [vI s3, vR c2, vI s1, vI s0] σ Q ↔ Wp L d k_M_time 80 [l0, l1, l2, l3, l4, l5] [vI (σ c2 s3.toNat), vI s1, vI s0] σ Q := wp_iald rfl h hx
theorem r_M_time_80 : Wp L d k_M_time 80 [l0, l1, l2, l3, l4, l5] [vI s2, vI s1, vI s0] σ Q ↔ Wp L d k_M_time 81 [l0, l1, l2, l3, l4, l5] [vI (w32 (s1 * s2)), vI s0] σ Q := wp_imul rfl
theorem r_M_time_81 : Wp L d k_M_time 81 [l0, l1, l2, l3, l4, l5] [vI s1, vI s0] σ Q ↔ Wp L d k_M_time 82 [l0, l1, l2, l3, l4, l5] [vI (w32 (s0 + s1))] σ Q := wp_iadd rfl
theorem r_M_time_82 : Wp L d k_M_time 82 [l0, l1, l2, l3, vI a4, l5] [vI s0] σ Q ↔ Wp L d k_M_time 84 [l0, l1, l2, l3, vI a4, vI s0] [] σ Q := wp_istore (i := 5) (ls := [l0, l1, l2, l3, vI a4, l5]) rfl rfl
theorem r_M_time_84 : Wp L d k_M_time 84 [vR b0, l1, l2, l3, l4, l5] [] σ Q ↔ Wp L d k_M_time 85 [vR b0, l1, l2, l3, l4, l5] [vR b0] σ Q := wp_aload rfl rfl
theorem r_M_time_85 (h : gK c0 = 12) : Wp L d k_M_time 85 [l0, l1, l2, l3, l4, l5] [vR c0] σ Q ↔ Wp L d k_M_time 88 [l0, l1, l2, l3, l4, l5] [vR (gq c0 0)] σ Q := wp_getR (c := 3200) rfl rfl rfl rfl rfl h
theorem r_M_time_88 : Wp L d k_M_time 88 [l0, l1, l2, l3, l4, vI a5] [vR c0] σ Q ↔ Wp L d k_M_time 90 [l0, l1, l2, l3, l4, vI a5] [vI a5, vR c0] σ Q := wp_iload rfl rfl
theorem r_M_time_90 : Wp L d k_M_time 90 [l0, vI a1, l2, l3, l4, l5] [vI s1, vR c0] σ Q ↔ Wp L d k_M_time 91 [l0, vI a1, l2, l3, l4, l5] [vI a1, vI s1, vR c0] σ Q := wp_iload rfl rfl
theorem r_M_time_91 (h : gK c0 = 100) (hx : 0 ≤ s1 ∧ s1 < gN c0) : Wp L d k_M_time 91 [l0, l1, l2, l3, l4, l5] [vI s2, vI s1, vR c0] σ Q ↔ Wp L d k_M_time 92 [l0, l1, l2, l3, l4, l5] [] (gupd σ c0 s1.toNat s2) Q := wp_iast rfl h hx
theorem r_M_time_92 : Wp L d k_M_time 92 [vR b0, l1, l2, l3, l4, l5] [] σ Q ↔ Wp L d k_M_time 93 [vR b0, l1, l2, l3, l4, l5] [vR b0] σ Q := wp_aload rfl rfl
theorem r_M_time_93 (h : gK c0 = 12) : Wp L d k_M_time 93 [l0, l1, l2, l3, l4, l5] [vR c0] σ Q ↔ Wp L d k_M_time 96 [l0, l1, l2, l3, l4, l5] [vR (gq c0 0)] σ Q := wp_getR (c := 3200) rfl rfl rfl rfl rfl h
theorem r_M_time_96 : Wp L d k_M_time 96 [l0, l1, l2, l3, l4, vI a5] [vR c0] σ Q ↔ Wp L d k_M_time 98 [l0, l1, l2, l3, l4, vI a5] [vI a5, vR c0] σ Q := wp_iload rfl rfl
theorem r_M_time_98 : Wp L d k_M_time 98 [l0, l1, l2, l3, l4, l5] [vI s1, vR c0] σ Q ↔ Wp L d k_M_time 99 [l0, l1, l2, l3, l4, l5] [vI 1, vI s1, vR c0] σ Q := wp_push rfl
theorem r_M_time_99 : Wp L d k_M_time 99 [l0, l1, l2, l3, l4, l5] [vI s2, vI s1, vR c0] σ Q ↔ Wp L d k_M_time 100 [l0, l1, l2, l3, l4, l5] [vI (w32 (s1 + s2)), vR c0] σ Q := wp_iadd rfl
theorem r_M_time_100 : Wp L d k_M_time 100 [l0, l1, vI a2, l3, l4, l5] [vI s1, vR c0] σ Q ↔ Wp L d k_M_time 101 [l0, l1, vI a2, l3, l4, l5] [vI a2, vI s1, vR c0] σ Q := wp_iload rfl rfl
theorem r_M_time_101 (h : gK c0 = 100) (hx : 0 ≤ s1 ∧ s1 < gN c0) : Wp L d k_M_time 101 [l0, l1, l2, l3, l4, l5] [vI s2, vI s1, vR c0] σ Q ↔ Wp L d k_M_time 102 [l0, l1, l2, l3, l4, l5] [] (gupd σ c0 s1.toNat s2) Q := wp_iast rfl h hx
theorem r_M_time_102 : Wp L d k_M_time 102 [vR b0, l1, l2, l3, l4, l5] [] σ Q ↔ Wp L d k_M_time 103 [vR b0, l1, l2, l3, l4, l5] [vR b0] σ Q := wp_aload rfl rfl
theorem r_M_time_103 (h : gK c0 = 12) : Wp L d k_M_time 103 [l0, l1, l2, l3, l4, l5] [vR c0] σ Q ↔ Wp L d k_M_time 106 [l0, l1, l2, l3, l4, l5] [vR (gq c0 0)] σ Q := wp_getR (c := 3200) rfl rfl rfl rfl rfl h
theorem r_M_time_106 : Wp L d k_M_time 106 [l0, l1, l2, l3, l4, vI a5] [vR c0] σ Q ↔ Wp L d k_M_time 108 [l0, l1, l2, l3, l4, vI a5] [vI a5, vR c0] σ Q := wp_iload rfl rfl
theorem r_M_time_108 : Wp L d k_M_time 108 [l0, l1, l2, l3, l4, l5] [vI s1, vR c0] σ Q ↔ Wp L d k_M_time 109 [l0, l1, l2, l3, l4, l5] [vI 2, vI s1, vR c0] σ Q := wp_push rfl
theorem r_M_time_109 : Wp L d k_M_time 109 [l0, l1, l2, l3, l4, l5] [vI s2, vI s1, vR c0] σ Q ↔ Wp L d k_M_time 110 [l0, l1, l2, l3, l4, l5] [vI (w32 (s1 + s2)), vR c0] σ Q := wp_iadd rfl
theorem r_M_time_110 : Wp L d k_M_time 110 [l0, l1, l2, vI a3, l4, l5] [vI s1, vR c0] σ Q ↔ Wp L d k_M_time 111 [l0, l1, l2, vI a3, l4, l5] [vI a3, vI s1, vR c0] σ Q := wp_iload rfl rfl
theorem r_M_time_111 (h : gK c0 = 100) (hx : 0 ≤ s1 ∧ s1 < gN c0) : Wp L d k_M_time 111 [l0, l1, l2, l3, l4, l5] [vI s2, vI s1, vR c0] σ Q ↔ Wp L d k_M_time 112 [l0, l1, l2, l3, l4, l5] [] (gupd σ c0 s1.toNat s2) Q := wp_iast rfl h hx
theorem r_M_time_112 : Wp L d k_M_time 112 [vR b0, l1, l2, l3, l4, l5] [] σ Q ↔ Wp L d k_M_time 113 [vR b0, l1, l2, l3, l4, l5] [vR b0] σ Q := wp_aload rfl rfl
theorem r_M_time_113 (h : gK c0 = 12) : Wp L d k_M_time 113 [l0, l1, l2, l3, l4, l5] [vR c0] σ Q ↔ Wp L d k_M_time 116 [l0, l1, l2, l3, l4, l5] [vR (gq c0 0)] σ Q := wp_getR (c := 3200) rfl rfl rfl rfl rfl h
theorem r_M_time_116 : Wp L d k_M_time 116 [l0, l1, l2, l3, l4, vI a5] [vR c0] σ Q ↔ Wp L d k_M_time 118 [l0, l1, l2, l3, l4, vI a5] [vI a5, vR c0] σ Q := wp_iload rfl rfl
theorem r_M_time_118 : Wp L d k_M_time 118 [l0, l1, l2, l3, l4, l5] [vI s1, vR c0] σ Q ↔ Wp L d k_M_time 119 [l0, l1, l2, l3, l4, l5] [vI 3, vI s1, vR c0] σ Q := wp_push rfl
theorem r_M_time_119 : Wp L d k_M_time 119 [l0, l1, l2, l3, l4, l5] [vI s2, vI s1, vR c0] σ Q ↔ Wp L d k_M_time 120 [l0, l1, l2, l3, l4, l5] [vI (w32 (s1 + s2)), vR c0] σ Q := wp_iadd rfl
theorem r_M_time_120 : Wp L d k_M_time 120 [l0, l1, l2, l3, vI a4, l5] [vI s1, vR c0] σ Q ↔ Wp L d k_M_time 122 [l0, l1, l2, l3, vI a4, l5] [vI a4, vI s1, vR c0] σ Q := wp_iload rfl rfl
theorem r_M_time_122 (h : gK c0 = 100) (hx : 0 ≤ s1 ∧ s1 < gN c0) : Wp L d k_M_time 122 [l0, l1, l2, l3, l4, l5] [vI s2, vI s1, vR c0] σ Q ↔ Wp L d k_M_time 123 [l0, l1, l2, l3, l4, l5] [] (gupd σ c0 s1.toNat s2) Q := wp_iast rfl h hx
theorem r_M_time_123 : Wp L d k_M_time 123 [vR b0, l1, l2, l3, l4, l5] [] σ Q ↔ Wp L d k_M_time 124 [vR b0, l1, l2, l3, l4, l5] [vR b0] σ Q := wp_aload rfl rfl
theorem r_M_time_124 (h : gK c0 = 12) : Wp L d k_M_time 124 [l0, l1, l2, l3, l4, l5] [vR c0] σ Q ↔ Wp L d k_M_time 127 [l0, l1, l2, l3, l4, l5] [vR (gq c0 0)] σ Q := wp_getR (c := 3200) rfl rfl rfl rfl rfl h
theorem r_M_time_127 : Wp L d k_M_time 127 [l0, l1, l2, l3, l4, l5] [vR c0] σ Q ↔ Wp L d k_M_time 128 [l0, l1, l2, l3, l4, l5] [vI 5, vR c0] σ Q := wp_push rfl
theorem r_M_time_128 : Wp L d k_M_time 128 [l0, l1, l2, l3, l4, l5] [vI s1, vR c0] σ Q ↔ Wp L d k_M_time 129 [l0, l1, l2, l3, l4, l5] [vI s1, vR c0, vI s1, vR c0] σ Q := wp_dup2 rfl
theorem r_M_time_129 (h : gK c2 = 100) (hx : 0 ≤ s3 ∧ s3 < gN c2) : Wp L d k_M_time 129 [l0, l1, l2, l3, l4, l5] [vI s3, vR c2, vI s1, vR c0] σ Q ↔ Wp L d k_M_time 130 [l0, l1, l2, l3, l4, l5] [vI (σ c2 s3.toNat), vI s1, vR c0] σ Q := wp_iald rfl h hx
theorem r_M_time_130 : Wp L d k_M_time 130 [l0, l1, l2, l3, l4, l5] [vI s2, vI s1, vR c0] σ Q ↔ Wp L d k_M_time 131 [l0, l1, l2, l3, l4, l5] [vI 1, vI s2, vI s1, vR c0] σ Q := wp_push rfl
theorem r_M_time_131 : Wp L d k_M_time 131 [l0, l1, l2, l3, l4, l5] [vI s3, vI s2, vI s1, vR c0] σ Q ↔ Wp L d k_M_time 132 [l0, l1, l2, l3, l4, l5] [vI (w32 (s2 + s3)), vI s1, vR c0] σ Q := wp_iadd rfl
theorem r_M_time_132 (h : gK c0 = 100) (hx : 0 ≤ s1 ∧ s1 < gN c0) : Wp L d k_M_time 132 [l0, l1, l2, l3, l4, l5] [vI s2, vI s1, vR c0] σ Q ↔ Wp L d k_M_time 133 [l0, l1, l2, l3, l4, l5] [] (gupd σ c0 s1.toNat s2) Q := wp_iast rfl h hx
theorem r_M_time_133 : Wp L d k_M_time 133 [vR b0, l1, l2, l3, l4, l5] [] σ Q ↔ Wp L d k_M_time 134 [vR b0, l1, l2, l3, l4, l5] [vR b0] σ Q := wp_aload rfl rfl
theorem r_M_time_134 (h : gK c0 = 12) : Wp L d k_M_time 134 [l0, l1, l2, l3, l4, l5] [vR c0] σ Q ↔ Wp L d k_M_time 137 [l0, l1, l2, l3, l4, l5] [vR (gq c0 0)] σ Q := wp_getR (c := 3200) rfl rfl rfl rfl rfl h
theorem r_M_time_137 : Wp L d k_M_time 137 [l0, l1, l2, l3, l4, l5] [vR c0] σ Q ↔ Wp L d k_M_time 138 [l0, l1, l2, l3, l4, l5] [vI 5, vR c0] σ Q := wp_push rfl
theorem r_M_time_138 (h : gK c0 = 100) (hx : 0 ≤ s1 ∧ s1 < gN c0) : Wp L d k_M_time 138 [l0, l1, l2, l3, l4, l5] [vI s1, vR c0] σ Q ↔ Wp L d k_M_time 139 [l0, l1, l2, l3, l4, l5] [vI (σ c0 s1.toNat)] σ Q := wp_iald rfl h hx
theorem r_M_time_139 : Wp L d k_M_time 139 [l0, l1, l2, l3, l4, l5] [vI s0] σ Q ↔ Wp L d k_M_time 140 [l0, l1, l2, l3, l4, l5] [vI 1, vI s0] σ Q := wp_push rfl
theorem r_M_time_140 : Wp L d k_M_time 140 [l0, l1, l2, l3, l4, l5] [vI s1, vI s0] σ Q ↔ Wp L d k_M_time 141 [l0, l1, l2, l3, l4, l5] [vI (w32 (s0 - s1))] σ Q := wp_isub rfl
theorem r_M_time_141 : Wp L d k_M_time 141 [l0, l1, l2, l3, l4, l5] [vI s0] σ Q ↔ Q (some (vI s0)) σ := wp_iret rfl
theorem r_M_time_6 : Wp L (d + 1) k_M_time 6 [l0, l1, l2, l3, l4, l5] [vL s2, vL s1, vL s0] σ Q ↔ Wp L (d + 1) k_M_time 9 [l0, l1, l2, l3, l4, l5] [vI (gb (s1 ≤ s0 ∧ s0 ≤ s2))] σ Q := wp_callR (d := d + 0) (as := [vL s0, vL s1, vL s2]) (rest := []) rfl rfl rfl rfl rfl rfl rfl rfl (sp_M_isIn)
theorem r_M_time_19 : Wp L (d + 1) k_M_time 19 [l0, l1, l2, l3, l4, l5] [vL s2, vL s1, vL s0] σ Q ↔ Wp L (d + 1) k_M_time 22 [l0, l1, l2, l3, l4, l5] [vI (gb (s1 ≤ s0 ∧ s0 ≤ s2))] σ Q := wp_callR (d := d + 0) (as := [vL s0, vL s1, vL s2]) (rest := []) rfl rfl rfl rfl rfl rfl rfl rfl (sp_M_isIn)
theorem r_M_time_31 : Wp L (d + 1) k_M_time 31 [l0, l1, l2, l3, l4, l5] [vL s2, vL s1, vL s0] σ Q ↔ Wp L (d + 1) k_M_time 34 [l0, l1, l2, l3, l4, l5] [vI (gb (s1 ≤ s0 ∧ s0 ≤ s2))] σ Q := wp_callR (d := d + 0) (as := [vL s0, vL s1, vL s2]) (rest := []) rfl rfl rfl rfl rfl rfl rfl rfl (sp_M_isIn)
theorem r_M_time_47 : Wp L (d + 1) k_M_time 47 [l0, l1, l2, l3, l4, l5] [vL s2, vL s1, vL s0] σ Q ↔ Wp L (d + 1) k_M_time 50 [l0, l1, l2, l3, l4, l5] [vI (gb (s1 ≤ s0 ∧ s0 ≤ s2))] σ Q := wp_callR (d := d + 0) (as := [vL s0, vL s1, vL s2]) (rest := []) rfl rfl rfl rfl rfl rfl rfl rfl (sp_M_isIn)
theorem sp_M_time_b (h : ¬ ((0 ≤ a1 ∧ a1 ≤ 999) ∧ (a1 ≤ a3 ∧ a3 ≤ 999) ∧ (0 ≤ a2 ∧ a2 ≤ 99999) ∧ a2 < a4 ∧ a4 ≤ 99999)) : Run L (d + 1) 299 [vR 293, vI a1, vI a2, vI a3, vI a4] σ (some (vI (-1000000001))) σ := by
  have wz : ¬ (0 ≤ a2 ∧ a2 ≤ 99999) ∨ w32 (a2 + 1) = a2 + 1 := by
    by_cases q : 0 ≤ a2 ∧ a2 ≤ 99999
    · exact Or.inr (w32_id (by unfold gr32; omega))
    · exact Or.inl q
  refine Run_of (C' := k_M_time) rfl ?_
  show Wp L (d + 1) k_M_time 0 [vR 293, vI a1, vI a2, vI a3, vI a4, vU] [] σ _
  simp only [r_M_time_0, r_M_time_1, r_M_time_2, r_M_time_3, r_M_time_6, r_M_time_9, r_M_time_12, r_M_time_13, r_M_time_14, r_M_time_15, r_M_time_16, r_M_time_19, r_M_time_22, r_M_time_25, r_M_time_26, r_M_time_27, r_M_time_28, r_M_time_31, r_M_time_34, r_M_time_37, r_M_time_39, r_M_time_40, r_M_time_41, r_M_time_42, r_M_time_43, r_M_time_44, r_M_time_47, r_M_time_50, r_M_time_53, r_M_time_55, gK_27, gK_28, gK_29, gq_27_0, gq_27_1, gK_293, gq_293_0, gK_294, gN_294, Int.reduceLE, Int.reduceLT, Int.reduceEq, Int.reduceToNat, gb_01, eq_self, true_or, or_true, and_true, true_and, and_self, if_true, if_false, not_true_eq_false, not_false_eq_true, ne_eq, gb_ne0, gb_eq0]
  repeat' split
  all_goals first | trivial | omega
theorem sp_M_time_f (h1 : 0 ≤ a1 ∧ a1 ≤ 999) (h2 : a1 ≤ a3 ∧ a3 ≤ 999) (h3 : 0 ≤ a2 ∧ a2 ≤ 99999) (h4 : a2 < a4 ∧ a4 ≤ 99999) (h : σ 294 5 = 16) : Run L (d + 1) 299 [vR 293, vI a1, vI a2, vI a3, vI a4] σ (some (vI (-1000000003))) σ := by
  have wq : w32 (a2 + 1) = a2 + 1 := w32_id (by unfold gr32; omega)
  have h5 : a2 + 1 ≤ a4 := by omega
  have h6 := h4.2
  refine Run_of (C' := k_M_time) rfl ?_
  show Wp L (d + 1) k_M_time 0 [vR 293, vI a1, vI a2, vI a3, vI a4, vU] [] σ _
  simp only [r_M_time_0, r_M_time_1, r_M_time_2, r_M_time_3, r_M_time_6, r_M_time_9, r_M_time_12, r_M_time_13, r_M_time_14, r_M_time_15, r_M_time_16, r_M_time_19, r_M_time_22, r_M_time_25, r_M_time_26, r_M_time_27, r_M_time_28, r_M_time_31, r_M_time_34, r_M_time_37, r_M_time_39, r_M_time_40, r_M_time_41, r_M_time_42, r_M_time_43, r_M_time_44, r_M_time_47, r_M_time_50, r_M_time_53, r_M_time_55, r_M_time_56, r_M_time_57, r_M_time_60, r_M_time_61, r_M_time_62, r_M_time_64, r_M_time_67, r_M_time_69, r_M_time_70, r_M_time_73, r_M_time_74, r_M_time_75, r_M_time_78, r_M_time_79, r_M_time_80, r_M_time_81, r_M_time_82, r_M_time_84, r_M_time_85, r_M_time_88, r_M_time_90, r_M_time_91, r_M_time_92, r_M_time_93, r_M_time_96, r_M_time_98, r_M_time_99, r_M_time_100, r_M_time_101, r_M_time_102, r_M_time_103, r_M_time_106, r_M_time_108, r_M_time_109, r_M_time_110, r_M_time_111, r_M_time_112, r_M_time_113, r_M_time_116, r_M_time_118, r_M_time_119, r_M_time_120, r_M_time_122, r_M_time_123, r_M_time_124, r_M_time_127, r_M_time_128, r_M_time_129, r_M_time_130, r_M_time_131, r_M_time_132, r_M_time_133, r_M_time_134, r_M_time_137, r_M_time_138, r_M_time_139, r_M_time_140, r_M_time_141, gK_27, gK_28, gK_29, gq_27_0, gq_27_1, gK_293, gq_293_0, gK_294, gN_294, h1, h2, h3, h5, h6, wq, h, Int.reduceLE, Int.reduceLT, Int.reduceEq, Int.reduceToNat, gb_01, eq_self, true_or, or_true, and_true, true_and, and_self, if_true, if_false, not_true_eq_false, not_false_eq_true, ne_eq, gb_ne0, gb_eq0]
theorem sp_M_time (h1 : 0 ≤ a1 ∧ a1 ≤ 999) (h2 : a1 ≤ a3 ∧ a3 ≤ 999) (h3 : 0 ≤ a2 ∧ a2 ≤ 99999) (h4 : a2 < a4 ∧ a4 ≤ 99999) (h : 0 ≤ σ 294 5 ∧ σ 294 5 < 16) : Run L (d + 1) 299 [vR 293, vI a1, vI a2, vI a3, vI a4] σ (some (vI (σ 294 5))) (gupd (gupd (gupd (gupd (gupd σ 294 (850 + 4 * σ 294 5).toNat a1) 294 (850 + 4 * σ 294 5 + 1).toNat a2) 294 (850 + 4 * σ 294 5 + 2).toNat a3) 294 (850 + 4 * σ 294 5 + 3).toNat a4) 294 5 (σ 294 5 + 1)) := by
  have wq : w32 (a2 + 1) = a2 + 1 := w32_id (by unfold gr32; omega)
  have h5 : a2 + 1 ≤ a4 := by omega
  have h6 := h4.2
  have w0 : w32 (4 * σ 294 5) = 4 * σ 294 5 := w32_id (by unfold gr32; omega)
  have w1 : w32 (850 + 4 * σ 294 5) = 850 + 4 * σ 294 5 := w32_id (by unfold gr32; omega)
  have w2 : w32 (850 + 4 * σ 294 5 + 1) = 850 + 4 * σ 294 5 + 1 := w32_id (by unfold gr32; omega)
  have w3 : w32 (850 + 4 * σ 294 5 + 2) = 850 + 4 * σ 294 5 + 2 := w32_id (by unfold gr32; omega)
  have w4 : w32 (850 + 4 * σ 294 5 + 3) = 850 + 4 * σ 294 5 + 3 := w32_id (by unfold gr32; omega)
  have w5 : w32 (σ 294 5 + 1) = σ 294 5 + 1 := w32_id (by unfold gr32; omega)
  have wz : w32 (σ 294 5 + 1 - 1) = σ 294 5 := by rw [w32_id (by unfold gr32; omega)]; omega
  have p0 : 0 ≤ 850 + 4 * σ 294 5 ∧ 850 + 4 * σ 294 5 < 3540 := by omega
  have n0 : ¬ 5 = (850 + 4 * σ 294 5).toNat := by omega
  have p1 : 0 ≤ 850 + 4 * σ 294 5 + 1 ∧ 850 + 4 * σ 294 5 + 1 < 3540 := by omega
  have n1 : ¬ 5 = (850 + 4 * σ 294 5 + 1).toNat := by omega
  have p2 : 0 ≤ 850 + 4 * σ 294 5 + 2 ∧ 850 + 4 * σ 294 5 + 2 < 3540 := by omega
  have n2 : ¬ 5 = (850 + 4 * σ 294 5 + 2).toNat := by omega
  have p3 : 0 ≤ 850 + 4 * σ 294 5 + 3 ∧ 850 + 4 * σ 294 5 + 3 < 3540 := by omega
  have n3 : ¬ 5 = (850 + 4 * σ 294 5 + 3).toNat := by omega
  have h' : ¬ σ 294 5 = 16 := by omega
  refine Run_of (C' := k_M_time) rfl ?_
  show Wp L (d + 1) k_M_time 0 [vR 293, vI a1, vI a2, vI a3, vI a4, vU] [] σ _
  simp only [r_M_time_0, r_M_time_1, r_M_time_2, r_M_time_3, r_M_time_6, r_M_time_9, r_M_time_12, r_M_time_13, r_M_time_14, r_M_time_15, r_M_time_16, r_M_time_19, r_M_time_22, r_M_time_25, r_M_time_26, r_M_time_27, r_M_time_28, r_M_time_31, r_M_time_34, r_M_time_37, r_M_time_39, r_M_time_40, r_M_time_41, r_M_time_42, r_M_time_43, r_M_time_44, r_M_time_47, r_M_time_50, r_M_time_53, r_M_time_55, r_M_time_56, r_M_time_57, r_M_time_60, r_M_time_61, r_M_time_62, r_M_time_64, r_M_time_67, r_M_time_69, r_M_time_70, r_M_time_73, r_M_time_74, r_M_time_75, r_M_time_78, r_M_time_79, r_M_time_80, r_M_time_81, r_M_time_82, r_M_time_84, r_M_time_85, r_M_time_88, r_M_time_90, r_M_time_91, r_M_time_92, r_M_time_93, r_M_time_96, r_M_time_98, r_M_time_99, r_M_time_100, r_M_time_101, r_M_time_102, r_M_time_103, r_M_time_106, r_M_time_108, r_M_time_109, r_M_time_110, r_M_time_111, r_M_time_112, r_M_time_113, r_M_time_116, r_M_time_118, r_M_time_119, r_M_time_120, r_M_time_122, r_M_time_123, r_M_time_124, r_M_time_127, r_M_time_128, r_M_time_129, r_M_time_130, r_M_time_131, r_M_time_132, r_M_time_133, r_M_time_134, r_M_time_137, r_M_time_138, r_M_time_139, r_M_time_140, r_M_time_141, gK_27, gK_28, gK_29, gq_27_0, gq_27_1, gK_293, gq_293_0, gK_294, gN_294, h1, h2, h3, h5, h6, wq, h', wz, p0, p1, p2, p3, n0, n1, n2, n3, w0, w1, w2, w3, w4, w5, gupd_rd, Nat.reduceEqDiff, and_false, false_and, Int.reduceLE, Int.reduceLT, Int.reduceEq, Int.reduceToNat, gb_01, eq_self, true_or, or_true, and_true, true_and, and_self, if_true, if_false, not_true_eq_false, not_false_eq_true, ne_eq, gb_ne0, gb_eq0]
theorem time_new {σ τ : gMm} {N : Nat} {a1 a2 a3 a4 : Int} (hw : WP (σ 294)) (hc : CP 123 (σ 294) σ) (h1 : 0 ≤ a1 ∧ a1 ≤ 999) (h2 : a1 ≤ a3 ∧ a3 ≤ 999) (h3 : 0 ≤ a2 ∧ a2 ≤ 99999) (h4 : a2 < a4 ∧ a4 ≤ 99999) (u : σ 294 5 = (N : Int)) (hN : N < 16) (f5 : τ 294 5 = σ 294 5 + 1) (fo : ∀ j : Nat, j ≠ 5 → j < 850 + 4 * N ∨ 850 + 4 * N + 3 < j → τ 294 j = σ 294 j) (g0 : τ 294 (850 + 4 * N) = a1) (g1 : τ 294 (850 + 4 * N + 1) = a2) (g2 : τ 294 (850 + 4 * N + 2) = a3) (g3 : τ 294 (850 + 4 * N + 3) = a4) (x : ∀ j, j ≠ 4 → τ 123 j = σ 123 j) (x4 : τ 123 4 = σ 123 4 + 1) (x5 : ∀ j, j ≠ N → τ 124 j = σ 124 j) (x6 : τ 124 N = (3600 * (a3 - a1)).tdiv (a4 - a2)) : WP (τ 294) ∧ CP 123 (τ 294) τ := by
  obtain ⟨w1, w2, w3, w4⟩ := hw
  obtain ⟨c1, c2, c3, c4, c5⟩ := hc
  have f4 := fo 4 (by omega) (by omega)
  refine ⟨⟨by rw [f4]; exact w1, fun k hk => ?_, by omega, fun k hk => ?_⟩, by rw [f4, x 1 (by omega)]; exact c1, ?_, ?_, by omega, fun k hk => ?_⟩
  · rw [f4] at hk
    rw [fo _ (by omega) (by omega), fo _ (by omega) (by omega), fo _ (by omega) (by omega)]
    exact w2 k hk
  · by_cases e : k = N
    · rw [e, g0, g1, g2, g3]
      omega
    · rw [fo _ (by omega) (by omega), fo _ (by omega) (by omega), fo _ (by omega) (by omega), fo _ (by omega) (by omega)]
      exact w4 k (by omega)
  · rw [x 2 (by omega), f4, c2]
    exact gsm_eq (g := fun k => σ 294 (820 + 3 * k)) (h := fun k => τ 294 (820 + 3 * k)) _ (fun k hk => (fo _ (by omega) (by omega)).symm)
  · rw [x 3 (by omega), f4, c3]
    exact gsm_eq (g := fun k => σ 294 (820 + 3 * k + 1) + σ 294 (820 + 3 * k + 2)) (h := fun k => τ 294 (820 + 3 * k + 1) + τ 294 (820 + 3 * k + 2)) _ (fun k hk => by rw [fo _ (by omega) (by omega), fo _ (by omega) (by omega)])
  · show τ 124 k = _
    unfold gspd
    by_cases e : k = N
    · rw [e, g0, g1, g2, g3, x6]
    · rw [x5 _ e, fo _ (by omega) (by omega), fo _ (by omega) (by omega), fo _ (by omega) (by omega), fo _ (by omega) (by omega)]
      exact c5 k (by omega)
theorem op_time (a1 a2 a3 a4 : Int) : Op 71 299 [vI a1, vI a2, vI a3, vI a4] := by
  intro L d σ hI
  obtain ⟨⟨w1, w2, w3, w4⟩, c1, c2, c3, c4, c5⟩ := iP hI
  by_cases h : (0 ≤ a1 ∧ a1 ≤ 999) ∧ (a1 ≤ a3 ∧ a3 ≤ 999) ∧ (0 ≤ a2 ∧ a2 ≤ 99999) ∧ a2 < a4 ∧ a4 ≤ 99999
  · obtain ⟨h1, h2, h3, h4⟩ := h
    by_cases e : σ 123 4 < 16
    · have r5 : ∀ (i : Nat) (x y : Int), gupd (gupd σ 124 i x) 123 4 y 294 5 = σ 294 5 := fun i x y => by rw [gupd_ne (by omega), gupd_ne (by omega)]
      refine ⟨_, _, _, sp_X_time h1 h2 h3 h4 (by omega), Run_r (sp_M_time h1 h2 h3 h4 (by rw [r5]; omega)) (by rw [r5, c4]), ?_⟩
      rw [r5]
      have t : (σ 123 4).toNat = (σ 294 5).toNat := by rw [c4]
      rw [t, show (850 + 4 * σ 294 5).toNat = 850 + 4 * (σ 294 5).toNat by omega, show (850 + 4 * σ 294 5 + 1).toNat = 850 + 4 * (σ 294 5).toNat + 1 by omega, show (850 + 4 * σ 294 5 + 2).toNat = 850 + 4 * (σ 294 5).toNat + 2 by omega, show (850 + 4 * σ 294 5 + 3).toNat = 850 + 4 * (σ 294 5).toNat + 3 by omega]
      refine Inv_mk (P := fun k j => (k = 123 ∧ j = 4) ∨ k = 124 ∨ (k = 294 ∧ (j = 5 ∨ 850 ≤ j ∧ j ≤ 913))) hI (Agr_upd (Agr_upd (Agr_upd (Agr_upd (Agr_upd (Agr_upd (Agr_upd (Agr_refl _ _) (by omega)) (by omega)) (by omega)) (by omega)) (by omega)) (by omega)) (by omega)) (Or.inl (fun k j hz hp => by unfold ZB at hz; omega)) (Or.inl (fun k j hz hp => by unfold ZT at hz; omega)) (Or.inl (fun k j hz hp => by unfold ZG at hz; omega)) (Or.inl (fun k j hz hp => by unfold ZS at hz; omega)) (Or.inl (fun k j hz hp => by unfold ZW at hz; omega)) (Or.inr ?_) (Or.inl (fun k j hz hp => by unfold ZR ZK at hz; omega)) (Or.inl (fun k j hz hp => by unfold ZM at hz; omega)) (Or.inl (fun k j hz hp => by unfold ZTape at hz; omega)) (Or.inl (fun k j hz hp => by unfold ZTest at hz; omega)) (Or.inl (fun k j hz hp => by unfold ZWait at hz; omega)) (Or.inl (fun k j hz hp => by unfold ZImg at hz; omega))
      exact time_new (N := (σ 294 5).toNat) (iP hI).1 (iP hI).2 h1 h2 h3 h4 (by omega) (by omega) gupd_eq (fun j e1 e2 => by rw [gupd_ne (by omega), gupd_ne (by omega), gupd_ne (by omega), gupd_ne (by omega), gupd_ne (by omega), gupd_ne (by omega), gupd_ne (by omega)]) (by rw [gupd_ne (by omega), gupd_ne (by omega), gupd_ne (by omega), gupd_ne (by omega), gupd_eq]) (by rw [gupd_ne (by omega), gupd_ne (by omega), gupd_ne (by omega), gupd_eq]) (by rw [gupd_ne (by omega), gupd_ne (by omega), gupd_eq]) (by rw [gupd_ne (by omega), gupd_eq]) (fun j e1 => by rw [gupd_ne (by omega), gupd_ne (by omega), gupd_ne (by omega), gupd_ne (by omega), gupd_ne (by omega), gupd_ne (by omega), gupd_ne (by omega)]) (by rw [gupd_ne (by omega), gupd_ne (by omega), gupd_ne (by omega), gupd_ne (by omega), gupd_ne (by omega), gupd_eq]) (fun j e1 => by rw [gupd_ne (by omega), gupd_ne (by omega), gupd_ne (by omega), gupd_ne (by omega), gupd_ne (by omega), gupd_ne (by omega), gupd_ne (by omega)]) (by rw [gupd_ne (by omega), gupd_ne (by omega), gupd_ne (by omega), gupd_ne (by omega), gupd_ne (by omega), gupd_ne (by omega), gupd_eq])
    · exact ⟨_, _, _, sp_X_time_f h1 h2 h3 h4 e, sp_M_time_f h1 h2 h3 h4 (by omega), hI⟩
  · exact ⟨_, _, _, sp_X_time_b h, sp_M_time_b h, hI⟩
