/-! text: the class's levels, by what they call. -/
variable {L d : Nat} {σ σ1 : Nat → Nat → Int} {Q : Option gV → (Nat → Nat → Int) → Prop} {a0 a1 a2 a3 a4 a5 a6 a7 a8 a9 a10 a11 s0 s1 s2 s3 s4 s5 s6 s7 s8 s9 : Int} {l0 l1 l2 l3 l4 l5 l6 l7 l8 l9 l10 l11 t0 t1 t2 t3 t4 t5 t6 t7 t8 t9 : gV} {b0 b1 b2 b3 b4 b5 b6 b7 b8 b9 b10 b11 c0 c1 c2 c3 c4 c5 c6 c7 c8 c9 : Nat} {r : Option gV}
set_option maxRecDepth 4000 in
theorem r_U_parseLevel_0 : Wp L d k_U_parseLevel 0 [l0, vI a1, l2, l3, l4, l5, l6, l7] [] σ Q ↔ Wp L d k_U_parseLevel 1 [l0, vI a1, l2, l3, l4, l5, l6, l7] [vI a1] σ Q := wp_iload rfl rfl
set_option maxRecDepth 4000 in
theorem r_U_parseLevel_1 : Wp L d k_U_parseLevel 1 [l0, l1, l2, l3, l4, l5, l6, l7] [vI s0] σ Q ↔ Wp L d k_U_parseLevel 2 [l0, l1, l2, l3, l4, l5, l6, l7] [vI 5, vI s0] σ Q := wp_push rfl
set_option maxRecDepth 4000 in
theorem r_U_parseLevel_2 : Wp L d k_U_parseLevel 2 [l0, l1, l2, l3, l4, l5, l6, l7] [vI s1, vI s0] σ Q ↔ (if s0 < s1 then Wp L d k_U_parseLevel 12 [l0, l1, l2, l3, l4, l5, l6, l7] [] σ Q else Wp L d k_U_parseLevel 5 [l0, l1, l2, l3, l4, l5, l6, l7] [] σ Q) := wp_cmp_lt rfl
set_option maxRecDepth 4000 in
theorem r_U_parseLevel_5 : Wp L d k_U_parseLevel 5 [vR b0, l1, l2, l3, l4, l5, l6, l7] [] σ Q ↔ Wp L d k_U_parseLevel 6 [vR b0, l1, l2, l3, l4, l5, l6, l7] [vR b0] σ Q := wp_aload rfl rfl
set_option maxRecDepth 4000 in
theorem r_U_parseLevel_6 : Wp L d k_U_parseLevel 6 [l0, l1, vI a2, l3, l4, l5, l6, l7] [vR c0] σ Q ↔ Wp L d k_U_parseLevel 7 [l0, l1, vI a2, l3, l4, l5, l6, l7] [vI a2, vR c0] σ Q := wp_iload rfl rfl
set_option maxRecDepth 4000 in
theorem r_U_parseLevel_7 : Wp L d k_U_parseLevel 7 [l0, l1, l2, vI a3, l4, l5, l6, l7] [vI s1, vR c0] σ Q ↔ Wp L d k_U_parseLevel 8 [l0, l1, l2, vI a3, l4, l5, l6, l7] [vI a3, vI s1, vR c0] σ Q := wp_iload rfl rfl
set_option maxRecDepth 4000 in
theorem c_U_parseLevel_8 (hR : Run L d 163 [vR c0, vI s1, vI s2] σ r σ1) (h : gK c0 = 8) : Wp L (d + 1) k_U_parseLevel 8 [l0, l1, l2, l3, l4, l5, l6, l7] [vI s2, vI s1, vR c0] σ Q ↔ Wp L (d + 1) k_U_parseLevel 11 [l0, l1, l2, l3, l4, l5, l6, l7] (r.toList ++ []) σ1 Q := wp_callR (as := [vR c0, vI s1, vI s2]) (rest := []) rfl rfl rfl rfl rfl rfl rfl (grecv_k (by rw [h]) rfl) hR
set_option maxRecDepth 4000 in
theorem r_U_parseLevel_11 (h : s0 = 0 ∨ s0 = 1) : Wp L d k_U_parseLevel 11 [l0, l1, l2, l3, l4, l5, l6, l7] [vI s0] σ Q ↔ Q (some (vI s0)) σ := wp_zret rfl h
set_option maxRecDepth 4000 in
theorem r_U_parseLevel_12 : Wp L d k_U_parseLevel 12 [vR b0, l1, l2, l3, l4, l5, l6, l7] [] σ Q ↔ Wp L d k_U_parseLevel 13 [vR b0, l1, l2, l3, l4, l5, l6, l7] [vR b0] σ Q := wp_aload rfl rfl
set_option maxRecDepth 4000 in
theorem r_U_parseLevel_13 : Wp L d k_U_parseLevel 13 [l0, vI a1, l2, l3, l4, l5, l6, l7] [vR c0] σ Q ↔ Wp L d k_U_parseLevel 14 [l0, vI a1, l2, l3, l4, l5, l6, l7] [vI a1, vR c0] σ Q := wp_iload rfl rfl
set_option maxRecDepth 4000 in
theorem r_U_parseLevel_14 : Wp L d k_U_parseLevel 14 [l0, l1, l2, l3, l4, l5, l6, l7] [vI s1, vR c0] σ Q ↔ Wp L d k_U_parseLevel 15 [l0, l1, l2, l3, l4, l5, l6, l7] [vI 1, vI s1, vR c0] σ Q := wp_push rfl
set_option maxRecDepth 4000 in
theorem r_U_parseLevel_15 : Wp L d k_U_parseLevel 15 [l0, l1, l2, l3, l4, l5, l6, l7] [vI s2, vI s1, vR c0] σ Q ↔ Wp L d k_U_parseLevel 16 [l0, l1, l2, l3, l4, l5, l6, l7] [vI (w32 (s1 + s2)), vR c0] σ Q := wp_iadd rfl
set_option maxRecDepth 4000 in
theorem r_U_parseLevel_16 : Wp L d k_U_parseLevel 16 [l0, l1, vI a2, l3, l4, l5, l6, l7] [vI s1, vR c0] σ Q ↔ Wp L d k_U_parseLevel 17 [l0, l1, vI a2, l3, l4, l5, l6, l7] [vI a2, vI s1, vR c0] σ Q := wp_iload rfl rfl
set_option maxRecDepth 4000 in
theorem r_U_parseLevel_17 : Wp L d k_U_parseLevel 17 [l0, l1, l2, vI a3, l4, l5, l6, l7] [vI s2, vI s1, vR c0] σ Q ↔ Wp L d k_U_parseLevel 18 [l0, l1, l2, vI a3, l4, l5, l6, l7] [vI a3, vI s2, vI s1, vR c0] σ Q := wp_iload rfl rfl
set_option maxRecDepth 4000 in
theorem c_U_parseLevel_18 (hR : Run L d 162 [vR c0, vI s1, vI s2, vI s3] σ r σ1) (h : gK c0 = 8) : Wp L (d + 1) k_U_parseLevel 18 [l0, l1, l2, l3, l4, l5, l6, l7] [vI s3, vI s2, vI s1, vR c0] σ Q ↔ Wp L (d + 1) k_U_parseLevel 21 [l0, l1, l2, l3, l4, l5, l6, l7] (r.toList ++ []) σ1 Q := wp_callR (as := [vR c0, vI s1, vI s2, vI s3]) (rest := []) rfl rfl rfl rfl rfl rfl rfl (grecv_k (by rw [h]) rfl) hR
set_option maxRecDepth 4000 in
theorem r_U_parseLevel_21 : Wp L d k_U_parseLevel 21 [l0, l1, l2, vI a3, l4, l5, l6, l7] [vI s0] σ Q ↔ Wp L d k_U_parseLevel 23 [l0, l1, l2, vI a3, vI s0, l5, l6, l7] [] σ Q := wp_istore (i := 4) (ls := [l0, l1, l2, vI a3, l4, l5, l6, l7]) rfl rfl
set_option maxRecDepth 4000 in
theorem r_U_parseLevel_23 : Wp L d k_U_parseLevel 23 [l0, vI a1, l2, l3, l4, l5, l6, l7] [] σ Q ↔ Wp L d k_U_parseLevel 24 [l0, vI a1, l2, l3, l4, l5, l6, l7] [vI a1] σ Q := wp_iload rfl rfl
set_option maxRecDepth 4000 in
theorem r_U_parseLevel_24 : Wp L d k_U_parseLevel 24 [l0, l1, l2, l3, l4, l5, l6, l7] [vI s0] σ Q ↔ Wp L d k_U_parseLevel 25 [l0, l1, l2, l3, l4, l5, l6, l7] [vI 2, vI s0] σ Q := wp_push rfl
set_option maxRecDepth 4000 in
theorem r_U_parseLevel_25 : Wp L d k_U_parseLevel 25 [l0, l1, l2, l3, l4, l5, l6, l7] [vI s1, vI s0] σ Q ↔ (if s0 ≠ s1 then Wp L d k_U_parseLevel 32 [l0, l1, l2, l3, l4, l5, l6, l7] [] σ Q else Wp L d k_U_parseLevel 28 [l0, l1, l2, l3, l4, l5, l6, l7] [] σ Q) := wp_cmp_ne rfl
set_option maxRecDepth 4000 in
theorem r_U_parseLevel_28 : Wp L d k_U_parseLevel 28 [l0, l1, l2, l3, l4, l5, l6, l7] [] σ Q ↔ Wp L d k_U_parseLevel 29 [l0, l1, l2, l3, l4, l5, l6, l7] [vI 1] σ Q := wp_push rfl
set_option maxRecDepth 4000 in
theorem r_U_parseLevel_29 : Wp L d k_U_parseLevel 29 [l0, l1, l2, l3, l4, l5, l6, l7] [vI s0] σ Q ↔ Wp L d k_U_parseLevel 34 [l0, l1, l2, l3, l4, l5, l6, l7] [vI s0] σ Q := wp_goto rfl
set_option maxRecDepth 4000 in
theorem r_U_parseLevel_32 : Wp L d k_U_parseLevel 32 [l0, l1, l2, l3, l4, l5, l6, l7] [] σ Q ↔ Wp L d k_U_parseLevel 34 [l0, l1, l2, l3, l4, l5, l6, l7] [vI 96] σ Q := wp_push rfl
set_option maxRecDepth 4000 in
theorem r_U_parseLevel_34 : Wp L d k_U_parseLevel 34 [l0, l1, l2, l3, vI a4, l5, l6, l7] [vI s0] σ Q ↔ Wp L d k_U_parseLevel 36 [l0, l1, l2, l3, vI a4, vI s0, l6, l7] [] σ Q := wp_istore (i := 5) (ls := [l0, l1, l2, l3, vI a4, l5, l6, l7]) rfl rfl
set_option maxRecDepth 4000 in
theorem r_U_parseLevel_36 : Wp L d k_U_parseLevel 36 [l0, l1, l2, l3, l4, l5, l6, l7] [] σ Q ↔ Wp L d k_U_parseLevel 37 [l0, l1, l2, l3, l4, l5, l6, l7] [vI 0] σ Q := wp_push rfl
set_option maxRecDepth 4000 in
theorem r_U_parseLevel_37 : Wp L d k_U_parseLevel 37 [l0, l1, l2, l3, l4, vI a5, l6, l7] [vI s0] σ Q ↔ Wp L d k_U_parseLevel 39 [l0, l1, l2, l3, l4, vI a5, vI s0, l7] [] σ Q := wp_istore (i := 6) (ls := [l0, l1, l2, l3, l4, vI a5, l6, l7]) rfl rfl
set_option maxRecDepth 4000 in
theorem r_U_parseLevel_39 : Wp L d k_U_parseLevel 39 [l0, l1, l2, l3, vI a4, l5, l6, l7] [] σ Q ↔ Wp L d k_U_parseLevel 41 [l0, l1, l2, l3, vI a4, l5, l6, l7] [vI a4] σ Q := wp_iload rfl rfl
set_option maxRecDepth 4000 in
theorem r_U_parseLevel_41 : Wp L d k_U_parseLevel 41 [l0, l1, l2, l3, l4, l5, l6, l7] [vI s0] σ Q ↔ (if s0 = 0 then Wp L d k_U_parseLevel 101 [l0, l1, l2, l3, l4, l5, l6, l7] [] σ Q else Wp L d k_U_parseLevel 44 [l0, l1, l2, l3, l4, l5, l6, l7] [] σ Q) := wp_if_eq rfl
set_option maxRecDepth 4000 in
theorem r_U_parseLevel_44 : Wp L d k_U_parseLevel 44 [l0, l1, l2, l3, l4, l5, vI a6, l7] [] σ Q ↔ Wp L d k_U_parseLevel 46 [l0, l1, l2, l3, l4, l5, vI a6, l7] [vI a6] σ Q := wp_iload rfl rfl
set_option maxRecDepth 4000 in
theorem r_U_parseLevel_46 : Wp L d k_U_parseLevel 46 [l0, l1, l2, l3, l4, vI a5, l6, l7] [vI s0] σ Q ↔ Wp L d k_U_parseLevel 48 [l0, l1, l2, l3, l4, vI a5, l6, l7] [vI a5, vI s0] σ Q := wp_iload rfl rfl
set_option maxRecDepth 4000 in
theorem r_U_parseLevel_48 : Wp L d k_U_parseLevel 48 [l0, l1, l2, l3, l4, l5, l6, l7] [vI s1, vI s0] σ Q ↔ (if s1 ≤ s0 then Wp L d k_U_parseLevel 101 [l0, l1, l2, l3, l4, l5, l6, l7] [] σ Q else Wp L d k_U_parseLevel 51 [l0, l1, l2, l3, l4, l5, l6, l7] [] σ Q) := wp_cmp_ge rfl
set_option maxRecDepth 4000 in
theorem r_U_parseLevel_51 : Wp L d k_U_parseLevel 51 [vR b0, l1, l2, l3, l4, l5, l6, l7] [] σ Q ↔ Wp L d k_U_parseLevel 52 [vR b0, l1, l2, l3, l4, l5, l6, l7] [vR b0] σ Q := wp_aload rfl rfl
set_option maxRecDepth 4000 in
theorem r_U_parseLevel_52 : Wp L d k_U_parseLevel 52 [l0, vI a1, l2, l3, l4, l5, l6, l7] [vR c0] σ Q ↔ Wp L d k_U_parseLevel 53 [l0, vI a1, l2, l3, l4, l5, l6, l7] [vI a1, vR c0] σ Q := wp_iload rfl rfl
set_option maxRecDepth 4000 in
theorem c_U_parseLevel_53 (hR : Run L d 169 [vR c0, vI s1] σ r σ1) (h : gK c0 = 8) : Wp L (d + 1) k_U_parseLevel 53 [l0, l1, l2, l3, l4, l5, l6, l7] [vI s1, vR c0] σ Q ↔ Wp L (d + 1) k_U_parseLevel 56 [l0, l1, l2, l3, l4, l5, l6, l7] (r.toList ++ []) σ1 Q := wp_callR (as := [vR c0, vI s1]) (rest := []) rfl rfl rfl rfl rfl rfl rfl (grecv_k (by rw [h]) rfl) hR
set_option maxRecDepth 4000 in
theorem r_U_parseLevel_56 : Wp L d k_U_parseLevel 56 [l0, l1, l2, l3, l4, l5, l6, l7] [vI s0] σ Q ↔ (if s0 = 0 then Wp L d k_U_parseLevel 101 [l0, l1, l2, l3, l4, l5, l6, l7] [] σ Q else Wp L d k_U_parseLevel 59 [l0, l1, l2, l3, l4, l5, l6, l7] [] σ Q) := wp_if_eq rfl
set_option maxRecDepth 4000 in
theorem r_U_parseLevel_59 : Wp L d k_U_parseLevel 59 [vR b0, l1, l2, l3, l4, l5, l6, l7] [] σ Q ↔ Wp L d k_U_parseLevel 60 [vR b0, l1, l2, l3, l4, l5, l6, l7] [vR b0] σ Q := wp_aload rfl rfl
set_option maxRecDepth 4000 in
theorem r_U_parseLevel_60 (h : gK c0 = 8) : Wp L d k_U_parseLevel 60 [l0, l1, l2, l3, l4, l5, l6, l7] [vR c0] σ Q ↔ Wp L d k_U_parseLevel 63 [l0, l1, l2, l3, l4, l5, l6, l7] [vR (gq c0 0)] σ Q := wp_getR (c := 2176) rfl rfl rfl rfl rfl h
set_option maxRecDepth 4000 in
theorem r_U_parseLevel_63 : Wp L d k_U_parseLevel 63 [vR b0, l1, l2, l3, l4, l5, l6, l7] [vR c0] σ Q ↔ Wp L d k_U_parseLevel 64 [vR b0, l1, l2, l3, l4, l5, l6, l7] [vR b0, vR c0] σ Q := wp_aload rfl rfl
set_option maxRecDepth 4000 in
theorem r_U_parseLevel_64 (h : gK c1 = 8) : Wp L d k_U_parseLevel 64 [l0, l1, l2, l3, l4, l5, l6, l7] [vR c1, vR c0] σ Q ↔ Wp L d k_U_parseLevel 67 [l0, l1, l2, l3, l4, l5, l6, l7] [vI (σ c1 2), vR c0] σ Q := wp_getI (c := 2050) rfl rfl rfl rfl h
set_option maxRecDepth 4000 in
theorem r_U_parseLevel_67 (h : gK c0 = 100) (hx : 0 ≤ s1 ∧ s1 < gN c0) : Wp L d k_U_parseLevel 67 [l0, l1, l2, l3, l4, l5, l6, l7] [vI s1, vR c0] σ Q ↔ Wp L d k_U_parseLevel 68 [l0, l1, l2, l3, l4, l5, l6, l7] [vI (σ c0 s1.toNat)] σ Q := wp_iald rfl h hx
set_option maxRecDepth 4000 in
theorem r_U_parseLevel_68 : Wp L d k_U_parseLevel 68 [l0, l1, l2, l3, l4, l5, vI a6, l7] [vI s0] σ Q ↔ Wp L d k_U_parseLevel 70 [l0, l1, l2, l3, l4, l5, vI a6, vI s0] [] σ Q := wp_istore (i := 7) (ls := [l0, l1, l2, l3, l4, l5, vI a6, l7]) rfl rfl
set_option maxRecDepth 4000 in
theorem r_U_parseLevel_70 : Wp L d k_U_parseLevel 70 [vR b0, l1, l2, l3, l4, l5, l6, l7] [] σ Q ↔ Wp L d k_U_parseLevel 71 [vR b0, l1, l2, l3, l4, l5, l6, l7] [vR b0] σ Q := wp_aload rfl rfl
set_option maxRecDepth 4000 in
theorem c_U_parseLevel_71 (hR : Run L d 157 [vR c0] σ r σ1) (h : gK c0 = 8) : Wp L (d + 1) k_U_parseLevel 71 [l0, l1, l2, l3, l4, l5, l6, l7] [vR c0] σ Q ↔ Wp L (d + 1) k_U_parseLevel 74 [l0, l1, l2, l3, l4, l5, l6, l7] (r.toList ++ []) σ1 Q := wp_callR (as := [vR c0]) (rest := []) rfl rfl rfl rfl rfl rfl rfl (grecv_k (by rw [h]) rfl) hR
set_option maxRecDepth 4000 in
theorem r_U_parseLevel_74 : Wp L d k_U_parseLevel 74 [vR b0, l1, l2, l3, l4, l5, l6, l7] [] σ Q ↔ Wp L d k_U_parseLevel 75 [vR b0, l1, l2, l3, l4, l5, l6, l7] [vR b0] σ Q := wp_aload rfl rfl
set_option maxRecDepth 4000 in
theorem r_U_parseLevel_75 : Wp L d k_U_parseLevel 75 [l0, vI a1, l2, l3, l4, l5, l6, l7] [vR c0] σ Q ↔ Wp L d k_U_parseLevel 76 [l0, vI a1, l2, l3, l4, l5, l6, l7] [vI a1, vR c0] σ Q := wp_iload rfl rfl
set_option maxRecDepth 4000 in
theorem r_U_parseLevel_76 : Wp L d k_U_parseLevel 76 [l0, l1, l2, l3, l4, l5, l6, l7] [vI s1, vR c0] σ Q ↔ Wp L d k_U_parseLevel 77 [l0, l1, l2, l3, l4, l5, l6, l7] [vI 1, vI s1, vR c0] σ Q := wp_push rfl
set_option maxRecDepth 4000 in
theorem r_U_parseLevel_77 : Wp L d k_U_parseLevel 77 [l0, l1, l2, l3, l4, l5, l6, l7] [vI s2, vI s1, vR c0] σ Q ↔ Wp L d k_U_parseLevel 78 [l0, l1, l2, l3, l4, l5, l6, l7] [vI (w32 (s1 + s2)), vR c0] σ Q := wp_iadd rfl
set_option maxRecDepth 4000 in
theorem r_U_parseLevel_78 : Wp L d k_U_parseLevel 78 [l0, l1, vI a2, l3, l4, l5, l6, l7] [vI s1, vR c0] σ Q ↔ Wp L d k_U_parseLevel 79 [l0, l1, vI a2, l3, l4, l5, l6, l7] [vI a2, vI s1, vR c0] σ Q := wp_iload rfl rfl
set_option maxRecDepth 4000 in
theorem r_U_parseLevel_79 : Wp L d k_U_parseLevel 79 [l0, l1, l2, vI a3, l4, l5, l6, l7] [vI s2, vI s1, vR c0] σ Q ↔ Wp L d k_U_parseLevel 80 [l0, l1, l2, vI a3, l4, l5, l6, l7] [vI a3, vI s2, vI s1, vR c0] σ Q := wp_iload rfl rfl
set_option maxRecDepth 4000 in
theorem c_U_parseLevel_80 (hR : Run L d 162 [vR c0, vI s1, vI s2, vI s3] σ r σ1) (h : gK c0 = 8) : Wp L (d + 1) k_U_parseLevel 80 [l0, l1, l2, l3, l4, l5, l6, l7] [vI s3, vI s2, vI s1, vR c0] σ Q ↔ Wp L (d + 1) k_U_parseLevel 83 [l0, l1, l2, l3, l4, l5, l6, l7] (r.toList ++ []) σ1 Q := wp_callR (as := [vR c0, vI s1, vI s2, vI s3]) (rest := []) rfl rfl rfl rfl rfl rfl rfl (grecv_k (by rw [h]) rfl) hR
set_option maxRecDepth 4000 in
theorem r_U_parseLevel_83 : Wp L d k_U_parseLevel 83 [l0, l1, l2, vI a3, l4, l5, l6, l7] [vI s0] σ Q ↔ Wp L d k_U_parseLevel 85 [l0, l1, l2, vI a3, vI s0, l5, l6, l7] [] σ Q := wp_istore (i := 4) (ls := [l0, l1, l2, vI a3, l4, l5, l6, l7]) rfl rfl
set_option maxRecDepth 4000 in
theorem r_U_parseLevel_85 : Wp L d k_U_parseLevel 85 [vR b0, l1, l2, l3, l4, l5, l6, l7] [] σ Q ↔ Wp L d k_U_parseLevel 86 [vR b0, l1, l2, l3, l4, l5, l6, l7] [vR b0] σ Q := wp_aload rfl rfl
set_option maxRecDepth 4000 in
theorem r_U_parseLevel_86 : Wp L d k_U_parseLevel 86 [l0, l1, l2, l3, l4, l5, l6, l7] [vR c0] σ Q ↔ Wp L d k_U_parseLevel 89 [l0, l1, l2, l3, l4, l5, l6, l7] [vI 20000, vR c0] σ Q := wp_push rfl
set_option maxRecDepth 4000 in
theorem r_U_parseLevel_89 : Wp L d k_U_parseLevel 89 [l0, l1, l2, l3, l4, l5, l6, vI a7] [vI s1, vR c0] σ Q ↔ Wp L d k_U_parseLevel 91 [l0, l1, l2, l3, l4, l5, l6, vI a7] [vI a7, vI s1, vR c0] σ Q := wp_iload rfl rfl
set_option maxRecDepth 4000 in
theorem r_U_parseLevel_91 : Wp L d k_U_parseLevel 91 [l0, l1, l2, l3, l4, l5, l6, l7] [vI s2, vI s1, vR c0] σ Q ↔ Wp L d k_U_parseLevel 92 [l0, l1, l2, l3, l4, l5, l6, l7] [vI (w32 (s1 + s2)), vR c0] σ Q := wp_iadd rfl
set_option maxRecDepth 4000 in
theorem c_U_parseLevel_92 (hR : Run L d 165 [vR c0, vI s1] σ r σ1) (h : gK c0 = 8) : Wp L (d + 1) k_U_parseLevel 92 [l0, l1, l2, l3, l4, l5, l6, l7] [vI s1, vR c0] σ Q ↔ Wp L (d + 1) k_U_parseLevel 95 [l0, l1, l2, l3, l4, l5, l6, l7] (r.toList ++ []) σ1 Q := wp_callR (as := [vR c0, vI s1]) (rest := []) rfl rfl rfl rfl rfl rfl rfl (grecv_k (by rw [h]) rfl) hR
set_option maxRecDepth 4000 in
theorem r_U_parseLevel_95 : Wp L d k_U_parseLevel 95 [l0, l1, l2, l3, l4, vI a5, vI a6, l7] [] σ Q ↔ Wp L d k_U_parseLevel 98 [l0, l1, l2, l3, l4, vI a5, vI (w32 (a6 + 1)), l7] [] σ Q := wp_iinc (i := 6) (ls := [l0, l1, l2, l3, l4, vI a5, vI a6, l7]) rfl rfl
set_option maxRecDepth 4000 in
theorem r_U_parseLevel_98 : Wp L d k_U_parseLevel 98 [l0, l1, l2, l3, l4, l5, l6, l7] [] σ Q ↔ Wp L d k_U_parseLevel 39 [l0, l1, l2, l3, l4, l5, l6, l7] [] σ Q := wp_goto rfl
set_option maxRecDepth 4000 in
theorem r_U_parseLevel_101 : Wp L d k_U_parseLevel 101 [l0, l1, l2, l3, vI a4, l5, l6, l7] [] σ Q ↔ Wp L d k_U_parseLevel 103 [l0, l1, l2, l3, vI a4, l5, l6, l7] [vI a4] σ Q := wp_iload rfl rfl
set_option maxRecDepth 4000 in
theorem r_U_parseLevel_103 (h : s0 = 0 ∨ s0 = 1) : Wp L d k_U_parseLevel 103 [l0, l1, l2, l3, l4, l5, l6, l7] [vI s0] σ Q ↔ Q (some (vI s0)) σ := wp_zret rfl h
set_option maxRecDepth 4000 in
theorem lp_exit  {l o t i m : Int} {x : gV} (hS : i < m → Run L (d + 5) 169 [vR 279, vI l] σ (some (vI 0)) σ) (hq : Q (some (vI 1)) σ) : Wp L (d + 6) k_U_parseLevel 39 [vR 279, vI l, vI o, vI t, vI 1, vI m, vI i, x] [] σ Q := by
  have K279 := gK_279
  rw [r_U_parseLevel_39]
  by_cases c : i < m
  · have hS := hS c
    simp (disch := first | assumption | exact gb_01 _ | omega) only [r_U_parseLevel_0, r_U_parseLevel_1, r_U_parseLevel_2, r_U_parseLevel_5, r_U_parseLevel_6, r_U_parseLevel_7, r_U_parseLevel_11, r_U_parseLevel_12, r_U_parseLevel_13, r_U_parseLevel_14, r_U_parseLevel_15, r_U_parseLevel_16, r_U_parseLevel_17, r_U_parseLevel_21, r_U_parseLevel_23, r_U_parseLevel_24, r_U_parseLevel_25, r_U_parseLevel_28, r_U_parseLevel_29, r_U_parseLevel_32, r_U_parseLevel_34, r_U_parseLevel_36, r_U_parseLevel_37, r_U_parseLevel_41, r_U_parseLevel_44, r_U_parseLevel_46, r_U_parseLevel_48, r_U_parseLevel_51, r_U_parseLevel_52, r_U_parseLevel_56, r_U_parseLevel_59, r_U_parseLevel_60, r_U_parseLevel_63, r_U_parseLevel_64, r_U_parseLevel_67, r_U_parseLevel_68, r_U_parseLevel_70, r_U_parseLevel_74, r_U_parseLevel_75, r_U_parseLevel_76, r_U_parseLevel_77, r_U_parseLevel_78, r_U_parseLevel_79, r_U_parseLevel_83, r_U_parseLevel_85, r_U_parseLevel_86, r_U_parseLevel_89, r_U_parseLevel_91, r_U_parseLevel_95, r_U_parseLevel_98, r_U_parseLevel_101, r_U_parseLevel_103, c_U_parseLevel_53 hS, Option.toList, List.singleton_append, List.cons_append, List.nil_append, List.append_nil, w32_gb, w32i, tn_add, tn_mul, Int.toNat_natCast, Int.toNat_zero, Int.reduceLE, Int.reduceLT, Int.reduceEq, Int.reduceNe, gb_T, gb_F, Int.reduceToNat, eq_self, true_or, or_true, and_true, true_and, and_self, ↓ite_gb0, ↓ite_gbn, ↓if_pos, ↓if_neg, if_true, if_false, not_true_eq_false, not_false_eq_true, gb_ne0, gb_eq0]
    exact hq
  · simp (disch := first | assumption | exact gb_01 _ | omega) only [r_U_parseLevel_0, r_U_parseLevel_1, r_U_parseLevel_2, r_U_parseLevel_5, r_U_parseLevel_6, r_U_parseLevel_7, r_U_parseLevel_11, r_U_parseLevel_12, r_U_parseLevel_13, r_U_parseLevel_14, r_U_parseLevel_15, r_U_parseLevel_16, r_U_parseLevel_17, r_U_parseLevel_21, r_U_parseLevel_23, r_U_parseLevel_24, r_U_parseLevel_25, r_U_parseLevel_28, r_U_parseLevel_29, r_U_parseLevel_32, r_U_parseLevel_34, r_U_parseLevel_36, r_U_parseLevel_37, r_U_parseLevel_41, r_U_parseLevel_44, r_U_parseLevel_46, r_U_parseLevel_48, r_U_parseLevel_51, r_U_parseLevel_52, r_U_parseLevel_56, r_U_parseLevel_59, r_U_parseLevel_60, r_U_parseLevel_63, r_U_parseLevel_64, r_U_parseLevel_67, r_U_parseLevel_68, r_U_parseLevel_70, r_U_parseLevel_74, r_U_parseLevel_75, r_U_parseLevel_76, r_U_parseLevel_77, r_U_parseLevel_78, r_U_parseLevel_79, r_U_parseLevel_83, r_U_parseLevel_85, r_U_parseLevel_86, r_U_parseLevel_89, r_U_parseLevel_91, r_U_parseLevel_95, r_U_parseLevel_98, r_U_parseLevel_101, r_U_parseLevel_103, w32_gb, w32i, tn_add, tn_mul, Int.toNat_natCast, Int.toNat_zero, Int.reduceLE, Int.reduceLT, Int.reduceEq, Int.reduceNe, gb_T, gb_F, Int.reduceToNat, eq_self, true_or, or_true, and_true, true_and, and_self, ↓ite_gb0, ↓ite_gbn, ↓if_pos, ↓if_neg, if_true, if_false, not_true_eq_false, not_false_eq_true, gb_ne0, gb_eq0]
    exact hq
set_option maxRecDepth 4000 in
theorem lp_fail  {l o t i m : Int} {x : gV} (hq : Q (some (vI 0)) σ) : Wp L (d + 6) k_U_parseLevel 39 [vR 279, vI l, vI o, vI t, vI 0, vI m, vI i, x] [] σ Q := by
  rw [r_U_parseLevel_39]
  simp (disch := first | assumption | exact gb_01 _ | omega) only [r_U_parseLevel_0, r_U_parseLevel_1, r_U_parseLevel_2, r_U_parseLevel_5, r_U_parseLevel_6, r_U_parseLevel_7, r_U_parseLevel_11, r_U_parseLevel_12, r_U_parseLevel_13, r_U_parseLevel_14, r_U_parseLevel_15, r_U_parseLevel_16, r_U_parseLevel_17, r_U_parseLevel_21, r_U_parseLevel_23, r_U_parseLevel_24, r_U_parseLevel_25, r_U_parseLevel_28, r_U_parseLevel_29, r_U_parseLevel_32, r_U_parseLevel_34, r_U_parseLevel_36, r_U_parseLevel_37, r_U_parseLevel_41, r_U_parseLevel_44, r_U_parseLevel_46, r_U_parseLevel_48, r_U_parseLevel_51, r_U_parseLevel_52, r_U_parseLevel_56, r_U_parseLevel_59, r_U_parseLevel_60, r_U_parseLevel_63, r_U_parseLevel_64, r_U_parseLevel_67, r_U_parseLevel_68, r_U_parseLevel_70, r_U_parseLevel_74, r_U_parseLevel_75, r_U_parseLevel_76, r_U_parseLevel_77, r_U_parseLevel_78, r_U_parseLevel_79, r_U_parseLevel_83, r_U_parseLevel_85, r_U_parseLevel_86, r_U_parseLevel_89, r_U_parseLevel_91, r_U_parseLevel_95, r_U_parseLevel_98, r_U_parseLevel_101, r_U_parseLevel_103, w32_gb, w32i, tn_add, tn_mul, Int.toNat_natCast, Int.toNat_zero, Int.reduceLE, Int.reduceLT, Int.reduceEq, Int.reduceNe, gb_T, gb_F, Int.reduceToNat, eq_self, true_or, or_true, and_true, true_and, and_self, ↓ite_gb0, ↓ite_gbn, ↓if_pos, ↓if_neg, if_true, if_false, not_true_eq_false, not_false_eq_true, gb_ne0, gb_eq0]
  exact hq
set_option maxRecDepth 4000 in
theorem lp_step {σ2 σ3 σ4 : gMm} {l o t i c f m : Int} {x : gV} (hm : i < m ∧ 0 ≤ i ∧ m ≤ 96) (hl : 0 ≤ l ∧ l ≤ 5) (h2 : 0 ≤ σ 279 2 ∧ σ 279 2 < 96) (hc : σ 280 (σ 279 2).toNat = c) (hcb : 0 ≤ c ∧ c ≤ 255) (hS : Run L (d + 5) 169 [vR 279, vI l] σ (some (vI 1)) σ) (hT : Run L (d + 5) 157 [vR 279] σ none σ2) (hU : Run L (d + 5) 162 [vR 279, vI (l + 1), vI o, vI t] σ2 (some (vI f)) σ3) (hE : Run L (d + 5) 165 [vR 279, vI (20000 + c)] σ3 none σ4) (hq : Wp L (d + 6) k_U_parseLevel 39 [vR 279, vI l, vI o, vI t, vI f, vI m, vI (i + 1), (vI c)] [] σ4 Q) : Wp L (d + 6) k_U_parseLevel 39 [vR 279, vI l, vI o, vI t, vI 1, vI m, vI i, x] [] σ Q := by
  obtain ⟨K280, N280, K281, N281⟩ := litC
  have K279 := gK_279
  rw [r_U_parseLevel_39]
  simp (disch := first | assumption | exact gb_01 _ | omega) only [r_U_parseLevel_0, r_U_parseLevel_1, r_U_parseLevel_2, r_U_parseLevel_5, r_U_parseLevel_6, r_U_parseLevel_7, r_U_parseLevel_11, r_U_parseLevel_12, r_U_parseLevel_13, r_U_parseLevel_14, r_U_parseLevel_15, r_U_parseLevel_16, r_U_parseLevel_17, r_U_parseLevel_21, r_U_parseLevel_23, r_U_parseLevel_24, r_U_parseLevel_25, r_U_parseLevel_28, r_U_parseLevel_29, r_U_parseLevel_32, r_U_parseLevel_34, r_U_parseLevel_36, r_U_parseLevel_37, r_U_parseLevel_41, r_U_parseLevel_44, r_U_parseLevel_46, r_U_parseLevel_48, r_U_parseLevel_51, r_U_parseLevel_52, r_U_parseLevel_56, r_U_parseLevel_59, r_U_parseLevel_60, r_U_parseLevel_63, r_U_parseLevel_64, r_U_parseLevel_67, r_U_parseLevel_68, r_U_parseLevel_70, r_U_parseLevel_74, r_U_parseLevel_75, r_U_parseLevel_76, r_U_parseLevel_77, r_U_parseLevel_78, r_U_parseLevel_79, r_U_parseLevel_83, r_U_parseLevel_85, r_U_parseLevel_86, r_U_parseLevel_89, r_U_parseLevel_91, r_U_parseLevel_95, r_U_parseLevel_98, r_U_parseLevel_101, r_U_parseLevel_103, c_U_parseLevel_53 hS, c_U_parseLevel_71 hT, c_U_parseLevel_80 hU, c_U_parseLevel_92 hE, Option.toList, List.singleton_append, List.cons_append, List.nil_append, List.append_nil, gq_279_0, gq_279_5, hc, w32_gb, w32i, tn_add, tn_mul, Int.toNat_natCast, Int.toNat_zero, Int.reduceLE, Int.reduceLT, Int.reduceEq, Int.reduceNe, gb_T, gb_F, Int.reduceToNat, eq_self, true_or, or_true, and_true, true_and, and_self, ↓ite_gb0, ↓ite_gbn, ↓if_pos, ↓if_neg, if_true, if_false, not_true_eq_false, not_false_eq_true, gb_ne0, gb_eq0]
  exact hq
set_option maxRecDepth 4000 in
theorem lp_in {σ2 : gMm} {l o t f : Int}  (hl : 0 ≤ l ∧ l < 5) (h2 : l ≠ 2) (hU : Run L (d + 5) 162 [vR 279, vI (l + 1), vI o, vI t] σ (some (vI f)) σ2) (hq : Wp L (d + 6) k_U_parseLevel 39 [vR 279, vI l, vI o, vI t, vI f, vI 96, vI 0, vU] [] σ2 Q) : Wp L (d + 6) k_U_parseLevel 0 [vR 279, vI l, vI o, vI t, vU, vU, vU, vU] [] σ Q := by
  have K279 := gK_279
  simp (disch := first | assumption | exact gb_01 _ | omega) only [r_U_parseLevel_0, r_U_parseLevel_1, r_U_parseLevel_2, r_U_parseLevel_5, r_U_parseLevel_6, r_U_parseLevel_7, r_U_parseLevel_11, r_U_parseLevel_12, r_U_parseLevel_13, r_U_parseLevel_14, r_U_parseLevel_15, r_U_parseLevel_16, r_U_parseLevel_17, r_U_parseLevel_21, r_U_parseLevel_23, r_U_parseLevel_24, r_U_parseLevel_25, r_U_parseLevel_28, r_U_parseLevel_29, r_U_parseLevel_32, r_U_parseLevel_34, r_U_parseLevel_36, r_U_parseLevel_37, r_U_parseLevel_41, r_U_parseLevel_44, r_U_parseLevel_46, r_U_parseLevel_48, r_U_parseLevel_51, r_U_parseLevel_52, r_U_parseLevel_56, r_U_parseLevel_59, r_U_parseLevel_60, r_U_parseLevel_63, r_U_parseLevel_64, r_U_parseLevel_67, r_U_parseLevel_68, r_U_parseLevel_70, r_U_parseLevel_74, r_U_parseLevel_75, r_U_parseLevel_76, r_U_parseLevel_77, r_U_parseLevel_78, r_U_parseLevel_79, r_U_parseLevel_83, r_U_parseLevel_85, r_U_parseLevel_86, r_U_parseLevel_89, r_U_parseLevel_91, r_U_parseLevel_95, r_U_parseLevel_98, r_U_parseLevel_101, r_U_parseLevel_103, c_U_parseLevel_18 hU, Option.toList, List.singleton_append, List.cons_append, List.nil_append, List.append_nil, w32_gb, w32i, tn_add, tn_mul, Int.toNat_natCast, Int.toNat_zero, Int.reduceLE, Int.reduceLT, Int.reduceEq, Int.reduceNe, gb_T, gb_F, Int.reduceToNat, eq_self, true_or, or_true, and_true, true_and, and_self, ↓ite_gb0, ↓ite_gbn, ↓if_pos, ↓if_neg, if_true, if_false, not_true_eq_false, not_false_eq_true, gb_ne0, gb_eq0]
  exact hq
set_option maxRecDepth 4000 in
theorem lp_in2 {σ2 : gMm} {l o t f : Int}  (hl : 0 ≤ l ∧ l < 5) (h2 : l = 2) (hU : Run L (d + 5) 162 [vR 279, vI (l + 1), vI o, vI t] σ (some (vI f)) σ2) (hq : Wp L (d + 6) k_U_parseLevel 39 [vR 279, vI l, vI o, vI t, vI f, vI 1, vI 0, vU] [] σ2 Q) : Wp L (d + 6) k_U_parseLevel 0 [vR 279, vI l, vI o, vI t, vU, vU, vU, vU] [] σ Q := by
  have K279 := gK_279
  simp (disch := first | assumption | exact gb_01 _ | omega) only [r_U_parseLevel_0, r_U_parseLevel_1, r_U_parseLevel_2, r_U_parseLevel_5, r_U_parseLevel_6, r_U_parseLevel_7, r_U_parseLevel_11, r_U_parseLevel_12, r_U_parseLevel_13, r_U_parseLevel_14, r_U_parseLevel_15, r_U_parseLevel_16, r_U_parseLevel_17, r_U_parseLevel_21, r_U_parseLevel_23, r_U_parseLevel_24, r_U_parseLevel_25, r_U_parseLevel_28, r_U_parseLevel_29, r_U_parseLevel_32, r_U_parseLevel_34, r_U_parseLevel_36, r_U_parseLevel_37, r_U_parseLevel_41, r_U_parseLevel_44, r_U_parseLevel_46, r_U_parseLevel_48, r_U_parseLevel_51, r_U_parseLevel_52, r_U_parseLevel_56, r_U_parseLevel_59, r_U_parseLevel_60, r_U_parseLevel_63, r_U_parseLevel_64, r_U_parseLevel_67, r_U_parseLevel_68, r_U_parseLevel_70, r_U_parseLevel_74, r_U_parseLevel_75, r_U_parseLevel_76, r_U_parseLevel_77, r_U_parseLevel_78, r_U_parseLevel_79, r_U_parseLevel_83, r_U_parseLevel_85, r_U_parseLevel_86, r_U_parseLevel_89, r_U_parseLevel_91, r_U_parseLevel_95, r_U_parseLevel_98, r_U_parseLevel_101, r_U_parseLevel_103, c_U_parseLevel_18 hU, Option.toList, List.singleton_append, List.cons_append, List.nil_append, List.append_nil, w32_gb, w32i, tn_add, tn_mul, Int.toNat_natCast, Int.toNat_zero, Int.reduceLE, Int.reduceLT, Int.reduceEq, Int.reduceNe, gb_T, gb_F, Int.reduceToNat, eq_self, true_or, or_true, and_true, true_and, and_self, ↓ite_gb0, ↓ite_gbn, ↓if_pos, ↓if_neg, if_true, if_false, not_true_eq_false, not_false_eq_true, gb_ne0, gb_eq0]
  exact hq
set_option maxRecDepth 4000 in
theorem lp_part {σ2 : gMm} {o t f : Int}  (hf : f = 0 ∨ f = 1) (hU : Run L (d + 5) 163 [vR 279, vI o, vI t] σ (some (vI f)) σ2) : Run L (d + 6) 162 [vR 279, vI 5, vI o, vI t] σ (some (vI f)) σ2 := by
  refine Run_of (C' := k_U_parseLevel) rfl ?_
  show Wp L (d + 6) k_U_parseLevel 0 [vR 279, vI 5, vI o, vI t, vU, vU, vU, vU] [] σ _
  have K279 := gK_279
  simp (disch := first | assumption | exact gb_01 _ | omega) only [r_U_parseLevel_0, r_U_parseLevel_1, r_U_parseLevel_2, r_U_parseLevel_5, r_U_parseLevel_6, r_U_parseLevel_7, r_U_parseLevel_11, r_U_parseLevel_12, r_U_parseLevel_13, r_U_parseLevel_14, r_U_parseLevel_15, r_U_parseLevel_16, r_U_parseLevel_17, r_U_parseLevel_21, r_U_parseLevel_23, r_U_parseLevel_24, r_U_parseLevel_25, r_U_parseLevel_28, r_U_parseLevel_29, r_U_parseLevel_32, r_U_parseLevel_34, r_U_parseLevel_36, r_U_parseLevel_37, r_U_parseLevel_41, r_U_parseLevel_44, r_U_parseLevel_46, r_U_parseLevel_48, r_U_parseLevel_51, r_U_parseLevel_52, r_U_parseLevel_56, r_U_parseLevel_59, r_U_parseLevel_60, r_U_parseLevel_63, r_U_parseLevel_64, r_U_parseLevel_67, r_U_parseLevel_68, r_U_parseLevel_70, r_U_parseLevel_74, r_U_parseLevel_75, r_U_parseLevel_76, r_U_parseLevel_77, r_U_parseLevel_78, r_U_parseLevel_79, r_U_parseLevel_83, r_U_parseLevel_85, r_U_parseLevel_86, r_U_parseLevel_89, r_U_parseLevel_91, r_U_parseLevel_95, r_U_parseLevel_98, r_U_parseLevel_101, r_U_parseLevel_103, c_U_parseLevel_8 hU, Option.toList, List.singleton_append, List.cons_append, List.nil_append, List.append_nil, w32_gb, w32i, tn_add, tn_mul, Int.toNat_natCast, Int.toNat_zero, Int.reduceLE, Int.reduceLT, Int.reduceEq, Int.reduceNe, gb_T, gb_F, Int.reduceToNat, eq_self, true_or, or_true, and_true, true_and, and_self, ↓ite_gb0, ↓ite_gbn, ↓if_pos, ↓if_neg, if_true, if_false, not_true_eq_false, not_false_eq_true, gb_ne0, gb_eq0]
set_option maxRecDepth 4000 in
theorem r_U_parsePart_0 : Wp L d k_U_parsePart 0 [vR b0, l1, l2, l3] [] σ Q ↔ Wp L d k_U_parsePart 1 [vR b0, l1, l2, l3] [vR b0] σ Q := wp_aload rfl rfl
set_option maxRecDepth 4000 in
theorem r_U_parsePart_1 : Wp L d k_U_parsePart 1 [l0, l1, l2, l3] [vR c0] σ Q ↔ Wp L d k_U_parsePart 3 [l0, l1, l2, l3] [vI 33, vR c0] σ Q := wp_push rfl
set_option maxRecDepth 4000 in
theorem c_U_parsePart_3 (hR : Run L d 164 [vR c0, vI s1] σ r σ1) (h : gK c0 = 8) : Wp L (d + 1) k_U_parsePart 3 [l0, l1, l2, l3] [vI s1, vR c0] σ Q ↔ Wp L (d + 1) k_U_parsePart 6 [l0, l1, l2, l3] (r.toList ++ []) σ1 Q := wp_callR (as := [vR c0, vI s1]) (rest := []) rfl rfl rfl rfl rfl rfl rfl (grecv_k (by rw [h]) rfl) hR
set_option maxRecDepth 4000 in
theorem r_U_parsePart_6 : Wp L d k_U_parsePart 6 [l0, l1, l2, l3] [vI s0] σ Q ↔ (if s0 = 0 then Wp L d k_U_parsePart 37 [l0, l1, l2, l3] [] σ Q else Wp L d k_U_parsePart 9 [l0, l1, l2, l3] [] σ Q) := wp_if_eq rfl
set_option maxRecDepth 4000 in
theorem r_U_parsePart_9 : Wp L d k_U_parsePart 9 [l0, l1, vI a2, l3] [] σ Q ↔ Wp L d k_U_parsePart 10 [l0, l1, vI a2, l3] [vI a2] σ Q := wp_iload rfl rfl
set_option maxRecDepth 4000 in
theorem r_U_parsePart_10 : Wp L d k_U_parsePart 10 [l0, l1, l2, l3] [vI s0] σ Q ↔ Wp L d k_U_parsePart 12 [l0, l1, l2, l3] [vI 8, vI s0] σ Q := wp_push rfl
set_option maxRecDepth 4000 in
theorem r_U_parsePart_12 : Wp L d k_U_parsePart 12 [l0, l1, l2, l3] [vI s1, vI s0] σ Q ↔ (if s1 ≤ s0 then Wp L d k_U_parsePart 37 [l0, l1, l2, l3] [] σ Q else Wp L d k_U_parsePart 15 [l0, l1, l2, l3] [] σ Q) := wp_cmp_ge rfl
set_option maxRecDepth 4000 in
theorem r_U_parsePart_15 : Wp L d k_U_parsePart 15 [vR b0, l1, l2, l3] [] σ Q ↔ Wp L d k_U_parsePart 16 [vR b0, l1, l2, l3] [vR b0] σ Q := wp_aload rfl rfl
set_option maxRecDepth 4000 in
theorem c_U_parsePart_16 (hR : Run L d 157 [vR c0] σ r σ1) (h : gK c0 = 8) : Wp L (d + 1) k_U_parsePart 16 [l0, l1, l2, l3] [vR c0] σ Q ↔ Wp L (d + 1) k_U_parsePart 19 [l0, l1, l2, l3] (r.toList ++ []) σ1 Q := wp_callR (as := [vR c0]) (rest := []) rfl rfl rfl rfl rfl rfl rfl (grecv_k (by rw [h]) rfl) hR
set_option maxRecDepth 4000 in
theorem r_U_parsePart_19 : Wp L d k_U_parsePart 19 [vR b0, l1, l2, l3] [] σ Q ↔ Wp L d k_U_parsePart 20 [vR b0, l1, l2, l3] [vR b0] σ Q := wp_aload rfl rfl
set_option maxRecDepth 4000 in
theorem r_U_parsePart_20 : Wp L d k_U_parsePart 20 [l0, vI a1, l2, l3] [vR c0] σ Q ↔ Wp L d k_U_parsePart 21 [l0, vI a1, l2, l3] [vI a1, vR c0] σ Q := wp_iload rfl rfl
set_option maxRecDepth 4000 in
theorem r_U_parsePart_21 : Wp L d k_U_parsePart 21 [l0, l1, vI a2, l3] [vI s1, vR c0] σ Q ↔ Wp L d k_U_parsePart 22 [l0, l1, vI a2, l3] [vI a2, vI s1, vR c0] σ Q := wp_iload rfl rfl
set_option maxRecDepth 4000 in
theorem r_U_parsePart_22 : Wp L d k_U_parsePart 22 [l0, l1, l2, l3] [vI s2, vI s1, vR c0] σ Q ↔ Wp L d k_U_parsePart 23 [l0, l1, l2, l3] [vI 1, vI s2, vI s1, vR c0] σ Q := wp_push rfl
set_option maxRecDepth 4000 in
theorem r_U_parsePart_23 : Wp L d k_U_parsePart 23 [l0, l1, l2, l3] [vI s3, vI s2, vI s1, vR c0] σ Q ↔ Wp L d k_U_parsePart 24 [l0, l1, l2, l3] [vI (w32 (s2 + s3)), vI s1, vR c0] σ Q := wp_iadd rfl
set_option maxRecDepth 4000 in
theorem c_U_parsePart_24 (hR : Run L d 163 [vR c0, vI s1, vI s2] σ r σ1) (h : gK c0 = 8) : Wp L (d + 1) k_U_parsePart 24 [l0, l1, l2, l3] [vI s2, vI s1, vR c0] σ Q ↔ Wp L (d + 1) k_U_parsePart 27 [l0, l1, l2, l3] (r.toList ++ []) σ1 Q := wp_callR (as := [vR c0, vI s1, vI s2]) (rest := []) rfl rfl rfl rfl rfl rfl rfl (grecv_k (by rw [h]) rfl) hR
set_option maxRecDepth 4000 in
theorem r_U_parsePart_27 : Wp L d k_U_parsePart 27 [l0, l1, vI a2, l3] [vI s0] σ Q ↔ Wp L d k_U_parsePart 28 [l0, l1, vI a2, vI s0] [] σ Q := wp_istore (i := 3) (ls := [l0, l1, vI a2, l3]) rfl rfl
set_option maxRecDepth 4000 in
theorem r_U_parsePart_28 : Wp L d k_U_parsePart 28 [vR b0, l1, l2, l3] [] σ Q ↔ Wp L d k_U_parsePart 29 [vR b0, l1, l2, l3] [vR b0] σ Q := wp_aload rfl rfl
set_option maxRecDepth 4000 in
theorem r_U_parsePart_29 : Wp L d k_U_parsePart 29 [l0, l1, l2, l3] [vR c0] σ Q ↔ Wp L d k_U_parsePart 32 [l0, l1, l2, l3] [vI 20033, vR c0] σ Q := wp_push rfl
set_option maxRecDepth 4000 in
theorem c_U_parsePart_32 (hR : Run L d 165 [vR c0, vI s1] σ r σ1) (h : gK c0 = 8) : Wp L (d + 1) k_U_parsePart 32 [l0, l1, l2, l3] [vI s1, vR c0] σ Q ↔ Wp L (d + 1) k_U_parsePart 35 [l0, l1, l2, l3] (r.toList ++ []) σ1 Q := wp_callR (as := [vR c0, vI s1]) (rest := []) rfl rfl rfl rfl rfl rfl rfl (grecv_k (by rw [h]) rfl) hR
set_option maxRecDepth 4000 in
theorem r_U_parsePart_35 : Wp L d k_U_parsePart 35 [l0, l1, l2, vI a3] [] σ Q ↔ Wp L d k_U_parsePart 36 [l0, l1, l2, vI a3] [vI a3] σ Q := wp_iload rfl rfl
set_option maxRecDepth 4000 in
theorem r_U_parsePart_36 (h : s0 = 0 ∨ s0 = 1) : Wp L d k_U_parsePart 36 [l0, l1, l2, l3] [vI s0] σ Q ↔ Q (some (vI s0)) σ := wp_zret rfl h
set_option maxRecDepth 4000 in
theorem r_U_parsePart_37 : Wp L d k_U_parsePart 37 [vR b0, l1, l2, l3] [] σ Q ↔ Wp L d k_U_parsePart 38 [vR b0, l1, l2, l3] [vR b0] σ Q := wp_aload rfl rfl
set_option maxRecDepth 4000 in
theorem r_U_parsePart_38 : Wp L d k_U_parsePart 38 [l0, l1, l2, l3] [vR c0] σ Q ↔ Wp L d k_U_parsePart 40 [l0, l1, l2, l3] [vI 40, vR c0] σ Q := wp_push rfl
set_option maxRecDepth 4000 in
theorem c_U_parsePart_40 (hR : Run L d 164 [vR c0, vI s1] σ r σ1) (h : gK c0 = 8) : Wp L (d + 1) k_U_parsePart 40 [l0, l1, l2, l3] [vI s1, vR c0] σ Q ↔ Wp L (d + 1) k_U_parsePart 43 [l0, l1, l2, l3] (r.toList ++ []) σ1 Q := wp_callR (as := [vR c0, vI s1]) (rest := []) rfl rfl rfl rfl rfl rfl rfl (grecv_k (by rw [h]) rfl) hR
set_option maxRecDepth 4000 in
theorem r_U_parsePart_43 : Wp L d k_U_parsePart 43 [l0, l1, l2, l3] [vI s0] σ Q ↔ (if s0 = 0 then Wp L d k_U_parsePart 93 [l0, l1, l2, l3] [] σ Q else Wp L d k_U_parsePart 46 [l0, l1, l2, l3] [] σ Q) := wp_if_eq rfl
set_option maxRecDepth 4000 in
theorem r_U_parsePart_46 : Wp L d k_U_parsePart 46 [l0, vI a1, l2, l3] [] σ Q ↔ Wp L d k_U_parsePart 47 [l0, vI a1, l2, l3] [vI a1] σ Q := wp_iload rfl rfl
set_option maxRecDepth 4000 in
theorem r_U_parsePart_47 : Wp L d k_U_parsePart 47 [l0, l1, l2, l3] [vI s0] σ Q ↔ Wp L d k_U_parsePart 49 [l0, l1, l2, l3] [vI 8, vI s0] σ Q := wp_push rfl
set_option maxRecDepth 4000 in
theorem r_U_parsePart_49 : Wp L d k_U_parsePart 49 [l0, l1, l2, l3] [vI s1, vI s0] σ Q ↔ (if s1 ≤ s0 then Wp L d k_U_parsePart 93 [l0, l1, l2, l3] [] σ Q else Wp L d k_U_parsePart 52 [l0, l1, l2, l3] [] σ Q) := wp_cmp_ge rfl
set_option maxRecDepth 4000 in
theorem r_U_parsePart_52 : Wp L d k_U_parsePart 52 [vR b0, l1, l2, l3] [] σ Q ↔ Wp L d k_U_parsePart 53 [vR b0, l1, l2, l3] [vR b0] σ Q := wp_aload rfl rfl
set_option maxRecDepth 4000 in
theorem c_U_parsePart_53 (hR : Run L d 157 [vR c0] σ r σ1) (h : gK c0 = 8) : Wp L (d + 1) k_U_parsePart 53 [l0, l1, l2, l3] [vR c0] σ Q ↔ Wp L (d + 1) k_U_parsePart 56 [l0, l1, l2, l3] (r.toList ++ []) σ1 Q := wp_callR (as := [vR c0]) (rest := []) rfl rfl rfl rfl rfl rfl rfl (grecv_k (by rw [h]) rfl) hR
set_option maxRecDepth 4000 in
theorem r_U_parsePart_56 : Wp L d k_U_parsePart 56 [vR b0, l1, l2, l3] [] σ Q ↔ Wp L d k_U_parsePart 57 [vR b0, l1, l2, l3] [vR b0] σ Q := wp_aload rfl rfl
set_option maxRecDepth 4000 in
theorem r_U_parsePart_57 : Wp L d k_U_parsePart 57 [l0, l1, l2, l3] [vR c0] σ Q ↔ Wp L d k_U_parsePart 58 [l0, l1, l2, l3] [vI 0, vR c0] σ Q := wp_push rfl
set_option maxRecDepth 4000 in
theorem r_U_parsePart_58 : Wp L d k_U_parsePart 58 [l0, vI a1, l2, l3] [vI s1, vR c0] σ Q ↔ Wp L d k_U_parsePart 59 [l0, vI a1, l2, l3] [vI a1, vI s1, vR c0] σ Q := wp_iload rfl rfl
set_option maxRecDepth 4000 in
theorem r_U_parsePart_59 : Wp L d k_U_parsePart 59 [l0, l1, l2, l3] [vI s2, vI s1, vR c0] σ Q ↔ Wp L d k_U_parsePart 60 [l0, l1, l2, l3] [vI 1, vI s2, vI s1, vR c0] σ Q := wp_push rfl
set_option maxRecDepth 4000 in
theorem r_U_parsePart_60 : Wp L d k_U_parsePart 60 [l0, l1, l2, l3] [vI s3, vI s2, vI s1, vR c0] σ Q ↔ Wp L d k_U_parsePart 61 [l0, l1, l2, l3] [vI (w32 (s2 + s3)), vI s1, vR c0] σ Q := wp_iadd rfl
set_option maxRecDepth 4000 in
theorem r_U_parsePart_61 : Wp L d k_U_parsePart 61 [l0, l1, vI a2, l3] [vI s2, vI s1, vR c0] σ Q ↔ Wp L d k_U_parsePart 62 [l0, l1, vI a2, l3] [vI a2, vI s2, vI s1, vR c0] σ Q := wp_iload rfl rfl
set_option maxRecDepth 4000 in
theorem c_U_parsePart_62 (hR : Run L d 162 [vR c0, vI s1, vI s2, vI s3] σ r σ1) (h : gK c0 = 8) : Wp L (d + 1) k_U_parsePart 62 [l0, l1, l2, l3] [vI s3, vI s2, vI s1, vR c0] σ Q ↔ Wp L (d + 1) k_U_parsePart 65 [l0, l1, l2, l3] (r.toList ++ []) σ1 Q := wp_callR (as := [vR c0, vI s1, vI s2, vI s3]) (rest := []) rfl rfl rfl rfl rfl rfl rfl (grecv_k (by rw [h]) rfl) hR
set_option maxRecDepth 4000 in
theorem r_U_parsePart_65 : Wp L d k_U_parsePart 65 [l0, l1, l2, l3] [vI s0] σ Q ↔ (if s0 = 0 then Wp L d k_U_parsePart 81 [l0, l1, l2, l3] [] σ Q else Wp L d k_U_parsePart 68 [l0, l1, l2, l3] [] σ Q) := wp_if_eq rfl
set_option maxRecDepth 4000 in
theorem r_U_parsePart_68 : Wp L d k_U_parsePart 68 [vR b0, l1, l2, l3] [] σ Q ↔ Wp L d k_U_parsePart 69 [vR b0, l1, l2, l3] [vR b0] σ Q := wp_aload rfl rfl
set_option maxRecDepth 4000 in
theorem r_U_parsePart_69 : Wp L d k_U_parsePart 69 [l0, l1, l2, l3] [vR c0] σ Q ↔ Wp L d k_U_parsePart 71 [l0, l1, l2, l3] [vI 41, vR c0] σ Q := wp_push rfl
set_option maxRecDepth 4000 in
theorem c_U_parsePart_71 (hR : Run L d 164 [vR c0, vI s1] σ r σ1) (h : gK c0 = 8) : Wp L (d + 1) k_U_parsePart 71 [l0, l1, l2, l3] [vI s1, vR c0] σ Q ↔ Wp L (d + 1) k_U_parsePart 74 [l0, l1, l2, l3] (r.toList ++ []) σ1 Q := wp_callR (as := [vR c0, vI s1]) (rest := []) rfl rfl rfl rfl rfl rfl rfl (grecv_k (by rw [h]) rfl) hR
set_option maxRecDepth 4000 in
theorem r_U_parsePart_74 : Wp L d k_U_parsePart 74 [l0, l1, l2, l3] [vI s0] σ Q ↔ (if s0 = 0 then Wp L d k_U_parsePart 81 [l0, l1, l2, l3] [] σ Q else Wp L d k_U_parsePart 77 [l0, l1, l2, l3] [] σ Q) := wp_if_eq rfl
set_option maxRecDepth 4000 in
theorem r_U_parsePart_77 : Wp L d k_U_parsePart 77 [l0, l1, l2, l3] [] σ Q ↔ Wp L d k_U_parsePart 78 [l0, l1, l2, l3] [vI 1] σ Q := wp_push rfl
set_option maxRecDepth 4000 in
theorem r_U_parsePart_78 : Wp L d k_U_parsePart 78 [l0, l1, l2, l3] [vI s0] σ Q ↔ Wp L d k_U_parsePart 82 [l0, l1, l2, l3] [vI s0] σ Q := wp_goto rfl
set_option maxRecDepth 4000 in
theorem r_U_parsePart_81 : Wp L d k_U_parsePart 81 [l0, l1, l2, l3] [] σ Q ↔ Wp L d k_U_parsePart 82 [l0, l1, l2, l3] [vI 0] σ Q := wp_push rfl
set_option maxRecDepth 4000 in
theorem r_U_parsePart_82 : Wp L d k_U_parsePart 82 [l0, l1, vI a2, l3] [vI s0] σ Q ↔ Wp L d k_U_parsePart 83 [l0, l1, vI a2, vI s0] [] σ Q := wp_istore (i := 3) (ls := [l0, l1, vI a2, l3]) rfl rfl
set_option maxRecDepth 4000 in
theorem r_U_parsePart_83 : Wp L d k_U_parsePart 83 [l0, l1, l2, vI a3] [] σ Q ↔ Wp L d k_U_parsePart 84 [l0, l1, l2, vI a3] [vI a3] σ Q := wp_iload rfl rfl
set_option maxRecDepth 4000 in
theorem r_U_parsePart_84 : Wp L d k_U_parsePart 84 [l0, l1, l2, l3] [vI s0] σ Q ↔ (if s0 = 0 then Wp L d k_U_parsePart 91 [l0, l1, l2, l3] [] σ Q else Wp L d k_U_parsePart 87 [l0, l1, l2, l3] [] σ Q) := wp_if_eq rfl
set_option maxRecDepth 4000 in
theorem r_U_parsePart_87 : Wp L d k_U_parsePart 87 [vR b0, l1, l2, l3] [] σ Q ↔ Wp L d k_U_parsePart 88 [vR b0, l1, l2, l3] [vR b0] σ Q := wp_aload rfl rfl
set_option maxRecDepth 4000 in
theorem c_U_parsePart_88 (hR : Run L d 157 [vR c0] σ r σ1) (h : gK c0 = 8) : Wp L (d + 1) k_U_parsePart 88 [l0, l1, l2, l3] [vR c0] σ Q ↔ Wp L (d + 1) k_U_parsePart 91 [l0, l1, l2, l3] (r.toList ++ []) σ1 Q := wp_callR (as := [vR c0]) (rest := []) rfl rfl rfl rfl rfl rfl rfl (grecv_k (by rw [h]) rfl) hR
set_option maxRecDepth 4000 in
theorem r_U_parsePart_91 : Wp L d k_U_parsePart 91 [l0, l1, l2, vI a3] [] σ Q ↔ Wp L d k_U_parsePart 92 [l0, l1, l2, vI a3] [vI a3] σ Q := wp_iload rfl rfl
set_option maxRecDepth 4000 in
theorem r_U_parsePart_92 (h : s0 = 0 ∨ s0 = 1) : Wp L d k_U_parsePart 92 [l0, l1, l2, l3] [vI s0] σ Q ↔ Q (some (vI s0)) σ := wp_zret rfl h
set_option maxRecDepth 4000 in
theorem r_U_parsePart_93 : Wp L d k_U_parsePart 93 [vR b0, l1, l2, l3] [] σ Q ↔ Wp L d k_U_parsePart 94 [vR b0, l1, l2, l3] [vR b0] σ Q := wp_aload rfl rfl
set_option maxRecDepth 4000 in
theorem c_U_parsePart_94 (hR : Run L d 166 [vR c0] σ r σ1) (h : gK c0 = 8) : Wp L (d + 1) k_U_parsePart 94 [l0, l1, l2, l3] [vR c0] σ Q ↔ Wp L (d + 1) k_U_parsePart 97 [l0, l1, l2, l3] (r.toList ++ []) σ1 Q := wp_callR (as := [vR c0]) (rest := []) rfl rfl rfl rfl rfl rfl rfl (grecv_k (by rw [h]) rfl) hR
set_option maxRecDepth 4000 in
theorem r_U_parsePart_97 : Wp L d k_U_parsePart 97 [l0, l1, vI a2, l3] [vI s0] σ Q ↔ Wp L d k_U_parsePart 98 [l0, l1, vI a2, vI s0] [] σ Q := wp_istore (i := 3) (ls := [l0, l1, vI a2, l3]) rfl rfl
set_option maxRecDepth 4000 in
theorem r_U_parsePart_98 : Wp L d k_U_parsePart 98 [l0, l1, l2, vI a3] [] σ Q ↔ Wp L d k_U_parsePart 99 [l0, l1, l2, vI a3] [vI a3] σ Q := wp_iload rfl rfl
set_option maxRecDepth 4000 in
theorem r_U_parsePart_99 : Wp L d k_U_parsePart 99 [l0, l1, l2, l3] [vI s0] σ Q ↔ Wp L d k_U_parsePart 101 [l0, l1, l2, l3] [vI (-1000000005), vI s0] σ Q := wp_push rfl
set_option maxRecDepth 4000 in
theorem r_U_parsePart_101 : Wp L d k_U_parsePart 101 [l0, l1, l2, l3] [vI s1, vI s0] σ Q ↔ (if s0 ≠ s1 then Wp L d k_U_parsePart 106 [l0, l1, l2, l3] [] σ Q else Wp L d k_U_parsePart 104 [l0, l1, l2, l3] [] σ Q) := wp_cmp_ne rfl
set_option maxRecDepth 4000 in
theorem r_U_parsePart_104 : Wp L d k_U_parsePart 104 [l0, l1, l2, l3] [] σ Q ↔ Wp L d k_U_parsePart 105 [l0, l1, l2, l3] [vI 0] σ Q := wp_push rfl
set_option maxRecDepth 4000 in
theorem r_U_parsePart_105 (h : s0 = 0 ∨ s0 = 1) : Wp L d k_U_parsePart 105 [l0, l1, l2, l3] [vI s0] σ Q ↔ Q (some (vI s0)) σ := wp_zret rfl h
set_option maxRecDepth 4000 in
theorem r_U_parsePart_106 : Wp L d k_U_parsePart 106 [vR b0, l1, l2, l3] [] σ Q ↔ Wp L d k_U_parsePart 107 [vR b0, l1, l2, l3] [vR b0] σ Q := wp_aload rfl rfl
set_option maxRecDepth 4000 in
theorem r_U_parsePart_107 : Wp L d k_U_parsePart 107 [l0, l1, l2, vI a3] [vR c0] σ Q ↔ Wp L d k_U_parsePart 108 [l0, l1, l2, vI a3] [vI a3, vR c0] σ Q := wp_iload rfl rfl
set_option maxRecDepth 4000 in
theorem c_U_parsePart_108 (hR : Run L d 165 [vR c0, vI s1] σ r σ1) (h : gK c0 = 8) : Wp L (d + 1) k_U_parsePart 108 [l0, l1, l2, l3] [vI s1, vR c0] σ Q ↔ Wp L (d + 1) k_U_parsePart 111 [l0, l1, l2, l3] (r.toList ++ []) σ1 Q := wp_callR (as := [vR c0, vI s1]) (rest := []) rfl rfl rfl rfl rfl rfl rfl (grecv_k (by rw [h]) rfl) hR
set_option maxRecDepth 4000 in
theorem r_U_parsePart_111 : Wp L d k_U_parsePart 111 [vR b0, l1, l2, l3] [] σ Q ↔ Wp L d k_U_parsePart 112 [vR b0, l1, l2, l3] [vR b0] σ Q := wp_aload rfl rfl
set_option maxRecDepth 4000 in
theorem r_U_parsePart_112 : Wp L d k_U_parsePart 112 [l0, l1, l2, l3] [vR c0] σ Q ↔ Wp L d k_U_parsePart 113 [l0, l1, l2, l3] [vR c0, vR c0] σ Q := wp_dupR rfl
set_option maxRecDepth 4000 in
theorem r_U_parsePart_113 (h : gK c1 = 8) : Wp L d k_U_parsePart 113 [l0, l1, l2, l3] [vR c1, vR c0] σ Q ↔ Wp L d k_U_parsePart 116 [l0, l1, l2, l3] [vI (σ c1 7), vR c0] σ Q := wp_getI (c := 2055) rfl rfl rfl rfl h
set_option maxRecDepth 4000 in
theorem r_U_parsePart_116 : Wp L d k_U_parsePart 116 [l0, l1, l2, l3] [vI s1, vR c0] σ Q ↔ Wp L d k_U_parsePart 117 [l0, l1, l2, l3] [vI 1, vI s1, vR c0] σ Q := wp_push rfl
set_option maxRecDepth 4000 in
theorem r_U_parsePart_117 : Wp L d k_U_parsePart 117 [l0, l1, l2, l3] [vI s2, vI s1, vR c0] σ Q ↔ Wp L d k_U_parsePart 118 [l0, l1, l2, l3] [vI (w32 (s1 + s2)), vR c0] σ Q := wp_iadd rfl
set_option maxRecDepth 4000 in
theorem r_U_parsePart_118 (h : gK c0 = 8) : Wp L d k_U_parsePart 118 [l0, l1, l2, l3] [vI s1, vR c0] σ Q ↔ Wp L d k_U_parsePart 121 [l0, l1, l2, l3] [] (gupd σ c0 7 s1) Q := wp_putI (c := 2055) rfl rfl rfl rfl h
set_option maxRecDepth 4000 in
theorem r_U_parsePart_121 : Wp L d k_U_parsePart 121 [vR b0, l1, l2, l3] [] σ Q ↔ Wp L d k_U_parsePart 122 [vR b0, l1, l2, l3] [vR b0] σ Q := wp_aload rfl rfl
set_option maxRecDepth 4000 in
theorem c_U_parsePart_122 (hR : Run L d 157 [vR c0] σ r σ1) (h : gK c0 = 8) : Wp L (d + 1) k_U_parsePart 122 [l0, l1, l2, l3] [vR c0] σ Q ↔ Wp L (d + 1) k_U_parsePart 125 [l0, l1, l2, l3] (r.toList ++ []) σ1 Q := wp_callR (as := [vR c0]) (rest := []) rfl rfl rfl rfl rfl rfl rfl (grecv_k (by rw [h]) rfl) hR
set_option maxRecDepth 4000 in
theorem r_U_parsePart_125 : Wp L d k_U_parsePart 125 [l0, l1, l2, l3] [] σ Q ↔ Wp L d k_U_parsePart 126 [l0, l1, l2, l3] [vI 1] σ Q := wp_push rfl
set_option maxRecDepth 4000 in
theorem r_U_parsePart_126 (h : s0 = 0 ∨ s0 = 1) : Wp L d k_U_parsePart 126 [l0, l1, l2, l3] [vI s0] σ Q ↔ Q (some (vI s0)) σ := wp_zret rfl h
set_option maxRecDepth 4000 in
theorem pp_not {σ2 σ3 σ4 : gMm} {o t f : Int}  (ht : 0 ≤ t ∧ t < 8) (hf : f = 0 ∨ f = 1) (hS : Run L (d + 5) 164 [vR 279, vI 33] σ (some (vI 1)) σ) (hT : Run L (d + 5) 157 [vR 279] σ none σ2) (hU : Run L (d + 5) 163 [vR 279, vI o, vI (t + 1)] σ2 (some (vI f)) σ3) (hE : Run L (d + 5) 165 [vR 279, vI 20033] σ3 none σ4) : Run L (d + 6) 163 [vR 279, vI o, vI t] σ (some (vI f)) σ4 := by
  refine Run_of (C' := k_U_parsePart) rfl ?_
  show Wp L (d + 6) k_U_parsePart 0 [vR 279, vI o, vI t, vU] [] σ _
  obtain ⟨K280, N280, K281, N281⟩ := litC
  have K279 := gK_279
  simp (disch := first | assumption | exact gb_01 _ | omega) only [r_U_parsePart_0, r_U_parsePart_1, r_U_parsePart_6, r_U_parsePart_9, r_U_parsePart_10, r_U_parsePart_12, r_U_parsePart_15, r_U_parsePart_19, r_U_parsePart_20, r_U_parsePart_21, r_U_parsePart_22, r_U_parsePart_23, r_U_parsePart_27, r_U_parsePart_28, r_U_parsePart_29, r_U_parsePart_35, r_U_parsePart_36, r_U_parsePart_37, r_U_parsePart_38, r_U_parsePart_43, r_U_parsePart_46, r_U_parsePart_47, r_U_parsePart_49, r_U_parsePart_52, r_U_parsePart_56, r_U_parsePart_57, r_U_parsePart_58, r_U_parsePart_59, r_U_parsePart_60, r_U_parsePart_61, r_U_parsePart_65, r_U_parsePart_68, r_U_parsePart_69, r_U_parsePart_74, r_U_parsePart_77, r_U_parsePart_78, r_U_parsePart_81, r_U_parsePart_82, r_U_parsePart_83, r_U_parsePart_84, r_U_parsePart_87, r_U_parsePart_91, r_U_parsePart_92, r_U_parsePart_93, r_U_parsePart_97, r_U_parsePart_98, r_U_parsePart_99, r_U_parsePart_101, r_U_parsePart_104, r_U_parsePart_105, r_U_parsePart_106, r_U_parsePart_107, r_U_parsePart_111, r_U_parsePart_112, r_U_parsePart_113, r_U_parsePart_116, r_U_parsePart_117, r_U_parsePart_118, r_U_parsePart_121, r_U_parsePart_125, r_U_parsePart_126, c_U_parsePart_3 hS, c_U_parsePart_16 hT, c_U_parsePart_24 hU, c_U_parsePart_32 hE, Option.toList, List.singleton_append, List.cons_append, List.nil_append, List.append_nil, gq_279_0, gq_279_5, w32_gb, w32i, tn_add, tn_mul, Int.toNat_natCast, Int.toNat_zero, Int.reduceLE, Int.reduceLT, Int.reduceEq, Int.reduceNe, gb_T, gb_F, Int.reduceToNat, eq_self, true_or, or_true, and_true, true_and, and_self, ↓ite_gb0, ↓ite_gbn, ↓if_pos, ↓if_neg, if_true, if_false, not_true_eq_false, not_false_eq_true, gb_ne0, gb_eq0]
set_option maxRecDepth 4000 in
theorem pp_par0 {σ2 σ3 : gMm} {o t : Int}  (ho : 0 ≤ o ∧ o < 8) (hS : Run L (d + 5) 164 [vR 279, vI 33] σ (some (vI 0)) σ) (hS2 : Run L (d + 5) 164 [vR 279, vI 40] σ (some (vI 1)) σ) (hT : Run L (d + 5) 157 [vR 279] σ none σ2) (hU : Run L (d + 5) 162 [vR 279, vI 0, vI (o + 1), vI t] σ2 (some (vI 0)) σ3) : Run L (d + 6) 163 [vR 279, vI o, vI t] σ (some (vI 0)) σ3 := by
  refine Run_of (C' := k_U_parsePart) rfl ?_
  show Wp L (d + 6) k_U_parsePart 0 [vR 279, vI o, vI t, vU] [] σ _
  obtain ⟨K280, N280, K281, N281⟩ := litC
  have K279 := gK_279
  simp (disch := first | assumption | exact gb_01 _ | omega) only [r_U_parsePart_0, r_U_parsePart_1, r_U_parsePart_6, r_U_parsePart_9, r_U_parsePart_10, r_U_parsePart_12, r_U_parsePart_15, r_U_parsePart_19, r_U_parsePart_20, r_U_parsePart_21, r_U_parsePart_22, r_U_parsePart_23, r_U_parsePart_27, r_U_parsePart_28, r_U_parsePart_29, r_U_parsePart_35, r_U_parsePart_36, r_U_parsePart_37, r_U_parsePart_38, r_U_parsePart_43, r_U_parsePart_46, r_U_parsePart_47, r_U_parsePart_49, r_U_parsePart_52, r_U_parsePart_56, r_U_parsePart_57, r_U_parsePart_58, r_U_parsePart_59, r_U_parsePart_60, r_U_parsePart_61, r_U_parsePart_65, r_U_parsePart_68, r_U_parsePart_69, r_U_parsePart_74, r_U_parsePart_77, r_U_parsePart_78, r_U_parsePart_81, r_U_parsePart_82, r_U_parsePart_83, r_U_parsePart_84, r_U_parsePart_87, r_U_parsePart_91, r_U_parsePart_92, r_U_parsePart_93, r_U_parsePart_97, r_U_parsePart_98, r_U_parsePart_99, r_U_parsePart_101, r_U_parsePart_104, r_U_parsePart_105, r_U_parsePart_106, r_U_parsePart_107, r_U_parsePart_111, r_U_parsePart_112, r_U_parsePart_113, r_U_parsePart_116, r_U_parsePart_117, r_U_parsePart_118, r_U_parsePart_121, r_U_parsePart_125, r_U_parsePart_126, c_U_parsePart_3 hS, c_U_parsePart_40 hS2, c_U_parsePart_53 hT, c_U_parsePart_62 hU, Option.toList, List.singleton_append, List.cons_append, List.nil_append, List.append_nil, gq_279_0, gq_279_5, w32_gb, w32i, tn_add, tn_mul, Int.toNat_natCast, Int.toNat_zero, Int.reduceLE, Int.reduceLT, Int.reduceEq, Int.reduceNe, gb_T, gb_F, Int.reduceToNat, eq_self, true_or, or_true, and_true, true_and, and_self, ↓ite_gb0, ↓ite_gbn, ↓if_pos, ↓if_neg, if_true, if_false, not_true_eq_false, not_false_eq_true, gb_ne0, gb_eq0]
set_option maxRecDepth 4000 in
theorem pp_par1 {σ2 σ3 : gMm} {o t : Int}  (ho : 0 ≤ o ∧ o < 8) (hS : Run L (d + 5) 164 [vR 279, vI 33] σ (some (vI 0)) σ) (hS2 : Run L (d + 5) 164 [vR 279, vI 40] σ (some (vI 1)) σ) (hT : Run L (d + 5) 157 [vR 279] σ none σ2) (hU : Run L (d + 5) 162 [vR 279, vI 0, vI (o + 1), vI t] σ2 (some (vI 1)) σ3) (hS3 : Run L (d + 5) 164 [vR 279, vI 41] σ3 (some (vI 0)) σ3) : Run L (d + 6) 163 [vR 279, vI o, vI t] σ (some (vI 0)) σ3 := by
  refine Run_of (C' := k_U_parsePart) rfl ?_
  show Wp L (d + 6) k_U_parsePart 0 [vR 279, vI o, vI t, vU] [] σ _
  obtain ⟨K280, N280, K281, N281⟩ := litC
  have K279 := gK_279
  simp (disch := first | assumption | exact gb_01 _ | omega) only [r_U_parsePart_0, r_U_parsePart_1, r_U_parsePart_6, r_U_parsePart_9, r_U_parsePart_10, r_U_parsePart_12, r_U_parsePart_15, r_U_parsePart_19, r_U_parsePart_20, r_U_parsePart_21, r_U_parsePart_22, r_U_parsePart_23, r_U_parsePart_27, r_U_parsePart_28, r_U_parsePart_29, r_U_parsePart_35, r_U_parsePart_36, r_U_parsePart_37, r_U_parsePart_38, r_U_parsePart_43, r_U_parsePart_46, r_U_parsePart_47, r_U_parsePart_49, r_U_parsePart_52, r_U_parsePart_56, r_U_parsePart_57, r_U_parsePart_58, r_U_parsePart_59, r_U_parsePart_60, r_U_parsePart_61, r_U_parsePart_65, r_U_parsePart_68, r_U_parsePart_69, r_U_parsePart_74, r_U_parsePart_77, r_U_parsePart_78, r_U_parsePart_81, r_U_parsePart_82, r_U_parsePart_83, r_U_parsePart_84, r_U_parsePart_87, r_U_parsePart_91, r_U_parsePart_92, r_U_parsePart_93, r_U_parsePart_97, r_U_parsePart_98, r_U_parsePart_99, r_U_parsePart_101, r_U_parsePart_104, r_U_parsePart_105, r_U_parsePart_106, r_U_parsePart_107, r_U_parsePart_111, r_U_parsePart_112, r_U_parsePart_113, r_U_parsePart_116, r_U_parsePart_117, r_U_parsePart_118, r_U_parsePart_121, r_U_parsePart_125, r_U_parsePart_126, c_U_parsePart_3 hS, c_U_parsePart_40 hS2, c_U_parsePart_53 hT, c_U_parsePart_62 hU, c_U_parsePart_71 hS3, Option.toList, List.singleton_append, List.cons_append, List.nil_append, List.append_nil, gq_279_0, gq_279_5, w32_gb, w32i, tn_add, tn_mul, Int.toNat_natCast, Int.toNat_zero, Int.reduceLE, Int.reduceLT, Int.reduceEq, Int.reduceNe, gb_T, gb_F, Int.reduceToNat, eq_self, true_or, or_true, and_true, true_and, and_self, ↓ite_gb0, ↓ite_gbn, ↓if_pos, ↓if_neg, if_true, if_false, not_true_eq_false, not_false_eq_true, gb_ne0, gb_eq0]
set_option maxRecDepth 4000 in
theorem pp_par2 {σ2 σ3 σ4 : gMm} {o t : Int}  (ho : 0 ≤ o ∧ o < 8) (hS : Run L (d + 5) 164 [vR 279, vI 33] σ (some (vI 0)) σ) (hS2 : Run L (d + 5) 164 [vR 279, vI 40] σ (some (vI 1)) σ) (hT : Run L (d + 5) 157 [vR 279] σ none σ2) (hU : Run L (d + 5) 162 [vR 279, vI 0, vI (o + 1), vI t] σ2 (some (vI 1)) σ3) (hS3 : Run L (d + 5) 164 [vR 279, vI 41] σ3 (some (vI 1)) σ3) (hT2 : Run L (d + 5) 157 [vR 279] σ3 none σ4) : Run L (d + 6) 163 [vR 279, vI o, vI t] σ (some (vI 1)) σ4 := by
  refine Run_of (C' := k_U_parsePart) rfl ?_
  show Wp L (d + 6) k_U_parsePart 0 [vR 279, vI o, vI t, vU] [] σ _
  obtain ⟨K280, N280, K281, N281⟩ := litC
  have K279 := gK_279
  simp (disch := first | assumption | exact gb_01 _ | omega) only [r_U_parsePart_0, r_U_parsePart_1, r_U_parsePart_6, r_U_parsePart_9, r_U_parsePart_10, r_U_parsePart_12, r_U_parsePart_15, r_U_parsePart_19, r_U_parsePart_20, r_U_parsePart_21, r_U_parsePart_22, r_U_parsePart_23, r_U_parsePart_27, r_U_parsePart_28, r_U_parsePart_29, r_U_parsePart_35, r_U_parsePart_36, r_U_parsePart_37, r_U_parsePart_38, r_U_parsePart_43, r_U_parsePart_46, r_U_parsePart_47, r_U_parsePart_49, r_U_parsePart_52, r_U_parsePart_56, r_U_parsePart_57, r_U_parsePart_58, r_U_parsePart_59, r_U_parsePart_60, r_U_parsePart_61, r_U_parsePart_65, r_U_parsePart_68, r_U_parsePart_69, r_U_parsePart_74, r_U_parsePart_77, r_U_parsePart_78, r_U_parsePart_81, r_U_parsePart_82, r_U_parsePart_83, r_U_parsePart_84, r_U_parsePart_87, r_U_parsePart_91, r_U_parsePart_92, r_U_parsePart_93, r_U_parsePart_97, r_U_parsePart_98, r_U_parsePart_99, r_U_parsePart_101, r_U_parsePart_104, r_U_parsePart_105, r_U_parsePart_106, r_U_parsePart_107, r_U_parsePart_111, r_U_parsePart_112, r_U_parsePart_113, r_U_parsePart_116, r_U_parsePart_117, r_U_parsePart_118, r_U_parsePart_121, r_U_parsePart_125, r_U_parsePart_126, c_U_parsePart_3 hS, c_U_parsePart_40 hS2, c_U_parsePart_53 hT, c_U_parsePart_62 hU, c_U_parsePart_71 hS3, c_U_parsePart_88 hT2, Option.toList, List.singleton_append, List.cons_append, List.nil_append, List.append_nil, gq_279_0, gq_279_5, w32_gb, w32i, tn_add, tn_mul, Int.toNat_natCast, Int.toNat_zero, Int.reduceLE, Int.reduceLT, Int.reduceEq, Int.reduceNe, gb_T, gb_F, Int.reduceToNat, eq_self, true_or, or_true, and_true, true_and, and_self, ↓ite_gb0, ↓ite_gbn, ↓if_pos, ↓if_neg, if_true, if_false, not_true_eq_false, not_false_eq_true, gb_ne0, gb_eq0]
set_option maxRecDepth 4000 in
theorem pp_leaf {σ2 σ3 : gMm} {o t c f : Int}  {g : Int} (hf : f = 0 ∨ f = 1 ∧ 8 ≤ t) (hg : g = 0 ∨ g = 1 ∧ 8 ≤ o) (hS : Run L (d + 5) 164 [vR 279, vI 33] σ (some (vI f)) σ) (hS2 : Run L (d + 5) 164 [vR 279, vI 40] σ (some (vI g)) σ) (hc : 0 ≤ c) (hL : Run L (d + 5) 166 [vR 279] σ (some (vI c)) σ) (hE : Run L (d + 5) 165 [vR 279, vI c] σ none σ2) (hv : 0 ≤ σ2 279 7 ∧ σ2 279 7 < 96) (hT : Run L (d + 5) 157 [vR 279] (gupd σ2 279 7 (σ2 279 7 + 1)) none σ3) : Run L (d + 6) 163 [vR 279, vI o, vI t] σ (some (vI 1)) σ3 := by
  refine Run_of (C' := k_U_parsePart) rfl ?_
  show Wp L (d + 6) k_U_parsePart 0 [vR 279, vI o, vI t, vU] [] σ _
  obtain ⟨K280, N280, K281, N281⟩ := litC
  have K279 := gK_279

  rcases hf with rfl | ⟨rfl, hf⟩
  · rcases hg with rfl | ⟨rfl, hg⟩
    · simp (disch := first | assumption | exact gb_01 _ | omega) only [r_U_parsePart_0, r_U_parsePart_1, r_U_parsePart_6, r_U_parsePart_9, r_U_parsePart_10, r_U_parsePart_12, r_U_parsePart_15, r_U_parsePart_19, r_U_parsePart_20, r_U_parsePart_21, r_U_parsePart_22, r_U_parsePart_23, r_U_parsePart_27, r_U_parsePart_28, r_U_parsePart_29, r_U_parsePart_35, r_U_parsePart_36, r_U_parsePart_37, r_U_parsePart_38, r_U_parsePart_43, r_U_parsePart_46, r_U_parsePart_47, r_U_parsePart_49, r_U_parsePart_52, r_U_parsePart_56, r_U_parsePart_57, r_U_parsePart_58, r_U_parsePart_59, r_U_parsePart_60, r_U_parsePart_61, r_U_parsePart_65, r_U_parsePart_68, r_U_parsePart_69, r_U_parsePart_74, r_U_parsePart_77, r_U_parsePart_78, r_U_parsePart_81, r_U_parsePart_82, r_U_parsePart_83, r_U_parsePart_84, r_U_parsePart_87, r_U_parsePart_91, r_U_parsePart_92, r_U_parsePart_93, r_U_parsePart_97, r_U_parsePart_98, r_U_parsePart_99, r_U_parsePart_101, r_U_parsePart_104, r_U_parsePart_105, r_U_parsePart_106, r_U_parsePart_107, r_U_parsePart_111, r_U_parsePart_112, r_U_parsePart_113, r_U_parsePart_116, r_U_parsePart_117, r_U_parsePart_118, r_U_parsePart_121, r_U_parsePart_125, r_U_parsePart_126, c_U_parsePart_3 hS, c_U_parsePart_40 hS2, c_U_parsePart_94 hL, c_U_parsePart_108 hE, c_U_parsePart_122 hT, Option.toList, List.singleton_append, List.cons_append, List.nil_append, List.append_nil, gq_279_0, gq_279_5, w32_gb, w32i, tn_add, tn_mul, Int.toNat_natCast, Int.toNat_zero, Int.reduceLE, Int.reduceLT, Int.reduceEq, Int.reduceNe, gb_T, gb_F, Int.reduceToNat, eq_self, true_or, or_true, and_true, true_and, and_self, ↓ite_gb0, ↓ite_gbn, ↓if_pos, ↓if_neg, if_true, if_false, not_true_eq_false, not_false_eq_true, gb_ne0, gb_eq0]
    · simp (disch := first | assumption | exact gb_01 _ | omega) only [r_U_parsePart_0, r_U_parsePart_1, r_U_parsePart_6, r_U_parsePart_9, r_U_parsePart_10, r_U_parsePart_12, r_U_parsePart_15, r_U_parsePart_19, r_U_parsePart_20, r_U_parsePart_21, r_U_parsePart_22, r_U_parsePart_23, r_U_parsePart_27, r_U_parsePart_28, r_U_parsePart_29, r_U_parsePart_35, r_U_parsePart_36, r_U_parsePart_37, r_U_parsePart_38, r_U_parsePart_43, r_U_parsePart_46, r_U_parsePart_47, r_U_parsePart_49, r_U_parsePart_52, r_U_parsePart_56, r_U_parsePart_57, r_U_parsePart_58, r_U_parsePart_59, r_U_parsePart_60, r_U_parsePart_61, r_U_parsePart_65, r_U_parsePart_68, r_U_parsePart_69, r_U_parsePart_74, r_U_parsePart_77, r_U_parsePart_78, r_U_parsePart_81, r_U_parsePart_82, r_U_parsePart_83, r_U_parsePart_84, r_U_parsePart_87, r_U_parsePart_91, r_U_parsePart_92, r_U_parsePart_93, r_U_parsePart_97, r_U_parsePart_98, r_U_parsePart_99, r_U_parsePart_101, r_U_parsePart_104, r_U_parsePart_105, r_U_parsePart_106, r_U_parsePart_107, r_U_parsePart_111, r_U_parsePart_112, r_U_parsePart_113, r_U_parsePart_116, r_U_parsePart_117, r_U_parsePart_118, r_U_parsePart_121, r_U_parsePart_125, r_U_parsePart_126, c_U_parsePart_3 hS, c_U_parsePart_40 hS2, c_U_parsePart_94 hL, c_U_parsePart_108 hE, c_U_parsePart_122 hT, Option.toList, List.singleton_append, List.cons_append, List.nil_append, List.append_nil, gq_279_0, gq_279_5, w32_gb, w32i, tn_add, tn_mul, Int.toNat_natCast, Int.toNat_zero, Int.reduceLE, Int.reduceLT, Int.reduceEq, Int.reduceNe, gb_T, gb_F, Int.reduceToNat, eq_self, true_or, or_true, and_true, true_and, and_self, ↓ite_gb0, ↓ite_gbn, ↓if_pos, ↓if_neg, if_true, if_false, not_true_eq_false, not_false_eq_true, gb_ne0, gb_eq0]
  · rcases hg with rfl | ⟨rfl, hg⟩
    · simp (disch := first | assumption | exact gb_01 _ | omega) only [r_U_parsePart_0, r_U_parsePart_1, r_U_parsePart_6, r_U_parsePart_9, r_U_parsePart_10, r_U_parsePart_12, r_U_parsePart_15, r_U_parsePart_19, r_U_parsePart_20, r_U_parsePart_21, r_U_parsePart_22, r_U_parsePart_23, r_U_parsePart_27, r_U_parsePart_28, r_U_parsePart_29, r_U_parsePart_35, r_U_parsePart_36, r_U_parsePart_37, r_U_parsePart_38, r_U_parsePart_43, r_U_parsePart_46, r_U_parsePart_47, r_U_parsePart_49, r_U_parsePart_52, r_U_parsePart_56, r_U_parsePart_57, r_U_parsePart_58, r_U_parsePart_59, r_U_parsePart_60, r_U_parsePart_61, r_U_parsePart_65, r_U_parsePart_68, r_U_parsePart_69, r_U_parsePart_74, r_U_parsePart_77, r_U_parsePart_78, r_U_parsePart_81, r_U_parsePart_82, r_U_parsePart_83, r_U_parsePart_84, r_U_parsePart_87, r_U_parsePart_91, r_U_parsePart_92, r_U_parsePart_93, r_U_parsePart_97, r_U_parsePart_98, r_U_parsePart_99, r_U_parsePart_101, r_U_parsePart_104, r_U_parsePart_105, r_U_parsePart_106, r_U_parsePart_107, r_U_parsePart_111, r_U_parsePart_112, r_U_parsePart_113, r_U_parsePart_116, r_U_parsePart_117, r_U_parsePart_118, r_U_parsePart_121, r_U_parsePart_125, r_U_parsePart_126, c_U_parsePart_3 hS, c_U_parsePart_40 hS2, c_U_parsePart_94 hL, c_U_parsePart_108 hE, c_U_parsePart_122 hT, Option.toList, List.singleton_append, List.cons_append, List.nil_append, List.append_nil, gq_279_0, gq_279_5, w32_gb, w32i, tn_add, tn_mul, Int.toNat_natCast, Int.toNat_zero, Int.reduceLE, Int.reduceLT, Int.reduceEq, Int.reduceNe, gb_T, gb_F, Int.reduceToNat, eq_self, true_or, or_true, and_true, true_and, and_self, ↓ite_gb0, ↓ite_gbn, ↓if_pos, ↓if_neg, if_true, if_false, not_true_eq_false, not_false_eq_true, gb_ne0, gb_eq0]
    · simp (disch := first | assumption | exact gb_01 _ | omega) only [r_U_parsePart_0, r_U_parsePart_1, r_U_parsePart_6, r_U_parsePart_9, r_U_parsePart_10, r_U_parsePart_12, r_U_parsePart_15, r_U_parsePart_19, r_U_parsePart_20, r_U_parsePart_21, r_U_parsePart_22, r_U_parsePart_23, r_U_parsePart_27, r_U_parsePart_28, r_U_parsePart_29, r_U_parsePart_35, r_U_parsePart_36, r_U_parsePart_37, r_U_parsePart_38, r_U_parsePart_43, r_U_parsePart_46, r_U_parsePart_47, r_U_parsePart_49, r_U_parsePart_52, r_U_parsePart_56, r_U_parsePart_57, r_U_parsePart_58, r_U_parsePart_59, r_U_parsePart_60, r_U_parsePart_61, r_U_parsePart_65, r_U_parsePart_68, r_U_parsePart_69, r_U_parsePart_74, r_U_parsePart_77, r_U_parsePart_78, r_U_parsePart_81, r_U_parsePart_82, r_U_parsePart_83, r_U_parsePart_84, r_U_parsePart_87, r_U_parsePart_91, r_U_parsePart_92, r_U_parsePart_93, r_U_parsePart_97, r_U_parsePart_98, r_U_parsePart_99, r_U_parsePart_101, r_U_parsePart_104, r_U_parsePart_105, r_U_parsePart_106, r_U_parsePart_107, r_U_parsePart_111, r_U_parsePart_112, r_U_parsePart_113, r_U_parsePart_116, r_U_parsePart_117, r_U_parsePart_118, r_U_parsePart_121, r_U_parsePart_125, r_U_parsePart_126, c_U_parsePart_3 hS, c_U_parsePart_40 hS2, c_U_parsePart_94 hL, c_U_parsePart_108 hE, c_U_parsePart_122 hT, Option.toList, List.singleton_append, List.cons_append, List.nil_append, List.append_nil, gq_279_0, gq_279_5, w32_gb, w32i, tn_add, tn_mul, Int.toNat_natCast, Int.toNat_zero, Int.reduceLE, Int.reduceLT, Int.reduceEq, Int.reduceNe, gb_T, gb_F, Int.reduceToNat, eq_self, true_or, or_true, and_true, true_and, and_self, ↓ite_gb0, ↓ite_gbn, ↓if_pos, ↓if_neg, if_true, if_false, not_true_eq_false, not_false_eq_true, gb_ne0, gb_eq0]
set_option maxRecDepth 4000 in
theorem pp_none  {o t f : Int}  {g : Int} (hf : f = 0 ∨ f = 1 ∧ 8 ≤ t) (hg : g = 0 ∨ g = 1 ∧ 8 ≤ o) (hS : Run L (d + 5) 164 [vR 279, vI 33] σ (some (vI f)) σ) (hS2 : Run L (d + 5) 164 [vR 279, vI 40] σ (some (vI g)) σ) (hL : Run L (d + 5) 166 [vR 279] σ (some (vI (-1000000005))) σ) : Run L (d + 6) 163 [vR 279, vI o, vI t] σ (some (vI 0)) σ := by
  refine Run_of (C' := k_U_parsePart) rfl ?_
  show Wp L (d + 6) k_U_parsePart 0 [vR 279, vI o, vI t, vU] [] σ _
  obtain ⟨K280, N280, K281, N281⟩ := litC
  have K279 := gK_279

  rcases hf with rfl | ⟨rfl, hf⟩
  · rcases hg with rfl | ⟨rfl, hg⟩
    · simp (disch := first | assumption | exact gb_01 _ | omega) only [r_U_parsePart_0, r_U_parsePart_1, r_U_parsePart_6, r_U_parsePart_9, r_U_parsePart_10, r_U_parsePart_12, r_U_parsePart_15, r_U_parsePart_19, r_U_parsePart_20, r_U_parsePart_21, r_U_parsePart_22, r_U_parsePart_23, r_U_parsePart_27, r_U_parsePart_28, r_U_parsePart_29, r_U_parsePart_35, r_U_parsePart_36, r_U_parsePart_37, r_U_parsePart_38, r_U_parsePart_43, r_U_parsePart_46, r_U_parsePart_47, r_U_parsePart_49, r_U_parsePart_52, r_U_parsePart_56, r_U_parsePart_57, r_U_parsePart_58, r_U_parsePart_59, r_U_parsePart_60, r_U_parsePart_61, r_U_parsePart_65, r_U_parsePart_68, r_U_parsePart_69, r_U_parsePart_74, r_U_parsePart_77, r_U_parsePart_78, r_U_parsePart_81, r_U_parsePart_82, r_U_parsePart_83, r_U_parsePart_84, r_U_parsePart_87, r_U_parsePart_91, r_U_parsePart_92, r_U_parsePart_93, r_U_parsePart_97, r_U_parsePart_98, r_U_parsePart_99, r_U_parsePart_101, r_U_parsePart_104, r_U_parsePart_105, r_U_parsePart_106, r_U_parsePart_107, r_U_parsePart_111, r_U_parsePart_112, r_U_parsePart_113, r_U_parsePart_116, r_U_parsePart_117, r_U_parsePart_118, r_U_parsePart_121, r_U_parsePart_125, r_U_parsePart_126, c_U_parsePart_3 hS, c_U_parsePart_40 hS2, c_U_parsePart_94 hL, Option.toList, List.singleton_append, List.cons_append, List.nil_append, List.append_nil, gq_279_0, gq_279_5, w32_gb, w32i, tn_add, tn_mul, Int.toNat_natCast, Int.toNat_zero, Int.reduceLE, Int.reduceLT, Int.reduceEq, Int.reduceNe, gb_T, gb_F, Int.reduceToNat, eq_self, true_or, or_true, and_true, true_and, and_self, ↓ite_gb0, ↓ite_gbn, ↓if_pos, ↓if_neg, if_true, if_false, not_true_eq_false, not_false_eq_true, gb_ne0, gb_eq0]
    · simp (disch := first | assumption | exact gb_01 _ | omega) only [r_U_parsePart_0, r_U_parsePart_1, r_U_parsePart_6, r_U_parsePart_9, r_U_parsePart_10, r_U_parsePart_12, r_U_parsePart_15, r_U_parsePart_19, r_U_parsePart_20, r_U_parsePart_21, r_U_parsePart_22, r_U_parsePart_23, r_U_parsePart_27, r_U_parsePart_28, r_U_parsePart_29, r_U_parsePart_35, r_U_parsePart_36, r_U_parsePart_37, r_U_parsePart_38, r_U_parsePart_43, r_U_parsePart_46, r_U_parsePart_47, r_U_parsePart_49, r_U_parsePart_52, r_U_parsePart_56, r_U_parsePart_57, r_U_parsePart_58, r_U_parsePart_59, r_U_parsePart_60, r_U_parsePart_61, r_U_parsePart_65, r_U_parsePart_68, r_U_parsePart_69, r_U_parsePart_74, r_U_parsePart_77, r_U_parsePart_78, r_U_parsePart_81, r_U_parsePart_82, r_U_parsePart_83, r_U_parsePart_84, r_U_parsePart_87, r_U_parsePart_91, r_U_parsePart_92, r_U_parsePart_93, r_U_parsePart_97, r_U_parsePart_98, r_U_parsePart_99, r_U_parsePart_101, r_U_parsePart_104, r_U_parsePart_105, r_U_parsePart_106, r_U_parsePart_107, r_U_parsePart_111, r_U_parsePart_112, r_U_parsePart_113, r_U_parsePart_116, r_U_parsePart_117, r_U_parsePart_118, r_U_parsePart_121, r_U_parsePart_125, r_U_parsePart_126, c_U_parsePart_3 hS, c_U_parsePart_40 hS2, c_U_parsePart_94 hL, Option.toList, List.singleton_append, List.cons_append, List.nil_append, List.append_nil, gq_279_0, gq_279_5, w32_gb, w32i, tn_add, tn_mul, Int.toNat_natCast, Int.toNat_zero, Int.reduceLE, Int.reduceLT, Int.reduceEq, Int.reduceNe, gb_T, gb_F, Int.reduceToNat, eq_self, true_or, or_true, and_true, true_and, and_self, ↓ite_gb0, ↓ite_gbn, ↓if_pos, ↓if_neg, if_true, if_false, not_true_eq_false, not_false_eq_true, gb_ne0, gb_eq0]
  · rcases hg with rfl | ⟨rfl, hg⟩
    · simp (disch := first | assumption | exact gb_01 _ | omega) only [r_U_parsePart_0, r_U_parsePart_1, r_U_parsePart_6, r_U_parsePart_9, r_U_parsePart_10, r_U_parsePart_12, r_U_parsePart_15, r_U_parsePart_19, r_U_parsePart_20, r_U_parsePart_21, r_U_parsePart_22, r_U_parsePart_23, r_U_parsePart_27, r_U_parsePart_28, r_U_parsePart_29, r_U_parsePart_35, r_U_parsePart_36, r_U_parsePart_37, r_U_parsePart_38, r_U_parsePart_43, r_U_parsePart_46, r_U_parsePart_47, r_U_parsePart_49, r_U_parsePart_52, r_U_parsePart_56, r_U_parsePart_57, r_U_parsePart_58, r_U_parsePart_59, r_U_parsePart_60, r_U_parsePart_61, r_U_parsePart_65, r_U_parsePart_68, r_U_parsePart_69, r_U_parsePart_74, r_U_parsePart_77, r_U_parsePart_78, r_U_parsePart_81, r_U_parsePart_82, r_U_parsePart_83, r_U_parsePart_84, r_U_parsePart_87, r_U_parsePart_91, r_U_parsePart_92, r_U_parsePart_93, r_U_parsePart_97, r_U_parsePart_98, r_U_parsePart_99, r_U_parsePart_101, r_U_parsePart_104, r_U_parsePart_105, r_U_parsePart_106, r_U_parsePart_107, r_U_parsePart_111, r_U_parsePart_112, r_U_parsePart_113, r_U_parsePart_116, r_U_parsePart_117, r_U_parsePart_118, r_U_parsePart_121, r_U_parsePart_125, r_U_parsePart_126, c_U_parsePart_3 hS, c_U_parsePart_40 hS2, c_U_parsePart_94 hL, Option.toList, List.singleton_append, List.cons_append, List.nil_append, List.append_nil, gq_279_0, gq_279_5, w32_gb, w32i, tn_add, tn_mul, Int.toNat_natCast, Int.toNat_zero, Int.reduceLE, Int.reduceLT, Int.reduceEq, Int.reduceNe, gb_T, gb_F, Int.reduceToNat, eq_self, true_or, or_true, and_true, true_and, and_self, ↓ite_gb0, ↓ite_gbn, ↓if_pos, ↓if_neg, if_true, if_false, not_true_eq_false, not_false_eq_true, gb_ne0, gb_eq0]
    · simp (disch := first | assumption | exact gb_01 _ | omega) only [r_U_parsePart_0, r_U_parsePart_1, r_U_parsePart_6, r_U_parsePart_9, r_U_parsePart_10, r_U_parsePart_12, r_U_parsePart_15, r_U_parsePart_19, r_U_parsePart_20, r_U_parsePart_21, r_U_parsePart_22, r_U_parsePart_23, r_U_parsePart_27, r_U_parsePart_28, r_U_parsePart_29, r_U_parsePart_35, r_U_parsePart_36, r_U_parsePart_37, r_U_parsePart_38, r_U_parsePart_43, r_U_parsePart_46, r_U_parsePart_47, r_U_parsePart_49, r_U_parsePart_52, r_U_parsePart_56, r_U_parsePart_57, r_U_parsePart_58, r_U_parsePart_59, r_U_parsePart_60, r_U_parsePart_61, r_U_parsePart_65, r_U_parsePart_68, r_U_parsePart_69, r_U_parsePart_74, r_U_parsePart_77, r_U_parsePart_78, r_U_parsePart_81, r_U_parsePart_82, r_U_parsePart_83, r_U_parsePart_84, r_U_parsePart_87, r_U_parsePart_91, r_U_parsePart_92, r_U_parsePart_93, r_U_parsePart_97, r_U_parsePart_98, r_U_parsePart_99, r_U_parsePart_101, r_U_parsePart_104, r_U_parsePart_105, r_U_parsePart_106, r_U_parsePart_107, r_U_parsePart_111, r_U_parsePart_112, r_U_parsePart_113, r_U_parsePart_116, r_U_parsePart_117, r_U_parsePart_118, r_U_parsePart_121, r_U_parsePart_125, r_U_parsePart_126, c_U_parsePart_3 hS, c_U_parsePart_40 hS2, c_U_parsePart_94 hL, Option.toList, List.singleton_append, List.cons_append, List.nil_append, List.append_nil, gq_279_0, gq_279_5, w32_gb, w32i, tn_add, tn_mul, Int.toNat_natCast, Int.toNat_zero, Int.reduceLE, Int.reduceLT, Int.reduceEq, Int.reduceNe, gb_T, gb_F, Int.reduceToNat, eq_self, true_or, or_true, and_true, true_and, and_self, ↓ite_gb0, ↓ite_gbn, ↓if_pos, ↓if_neg, if_true, if_false, not_true_eq_false, not_false_eq_true, gb_ne0, gb_eq0]
