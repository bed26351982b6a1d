/-! text: the token step of the class. -/
variable {L d : Nat} {σ σ1 : Nat → Nat → Int} {Q : Option gV → (Nat → Nat → Int) → Prop} {a0 a1 a2 a3 a4 a5 a6 a7 a8 a9 a10 a11 s0 s1 s2 s3 s4 s5 s6 s7 s8 s9 : Int} {l0 l1 l2 l3 l4 l5 l6 l7 l8 l9 l10 l11 t0 t1 t2 t3 t4 t5 t6 t7 t8 t9 : gV} {b0 b1 b2 b3 b4 b5 b6 b7 b8 b9 b10 b11 c0 c1 c2 c3 c4 c5 c6 c7 c8 c9 : Nat} {r : Option gV}
def gts (b : Nat → Int) (n e : Nat) : Nat := gskip b e (n - e)
def gte (b : Nat → Int) (n e : Nat) : Nat := if gts b n e < n then (if gso (b (gts b n e)) = 3 then gts b n e + 1 else grun b (gso (b (gts b n e))) (gts b n e + 1) (n - (gts b n e + 1))) else gts b n e
def gtq (b : Nat → Int) (n e : Nat) (w : Int) : Int := if gts b n e < n then (if gso (b (gts b n e)) ≠ 3 ∧ (w = 1 ∨ w = 2) ∧ gts b n e = e then 4 else gso (b (gts b n e))) else 0
theorem gskip_s {b : Nat → Int} {e m : Nat} (h : b e = 32) : gskip b e (m + 1) = gskip b (e + 1) m := if_pos h
theorem gskip_x {b : Nat → Int} {e m : Nat} (h : b e ≠ 32) : gskip b e (m + 1) = e := if_neg h
theorem grun_s {b : Nat → Int} {s : Int} {e m : Nat} (h : gso (b e) = s) : grun b s e (m + 1) = grun b s (e + 1) m := if_pos h
theorem grun_x {b : Nat → Int} {s : Int} {e m : Nat} (h : gso (b e) ≠ s) : grun b s e (m + 1) = e := if_neg h
theorem gso_v (b : Int) : gso b = 1 ∨ gso b = 2 ∨ gso b = 3 := by
  unfold gso
  split
  · exact Or.inl rfl
  · split
    · exact Or.inr (Or.inl rfl)
    · exact Or.inr (Or.inr rfl)
theorem r_U_step_0 : Wp L d k_U_step 0 [vR b0, l1, l2] [] σ Q ↔ Wp L d k_U_step 1 [vR b0, l1, l2] [vR b0] σ Q := wp_aload rfl rfl
theorem r_U_step_1 (h : gK c0 = 8) : Wp L d k_U_step 1 [l0, l1, l2] [vR c0] σ Q ↔ Wp L d k_U_step 4 [l0, l1, l2] [vI (σ c0 4)] σ Q := wp_getI (c := 2052) rfl rfl rfl rfl h
theorem r_U_step_4 : Wp L d k_U_step 4 [l0, l1, l2] [vI s0] σ Q ↔ Wp L d k_U_step 5 [l0, l1, l2] [vI 1, vI s0] σ Q := wp_push rfl
theorem r_U_step_5 : Wp L d k_U_step 5 [l0, l1, l2] [vI s1, vI s0] σ Q ↔ (if s0 = s1 then Wp L d k_U_step 16 [l0, l1, l2] [] σ Q else Wp L d k_U_step 8 [l0, l1, l2] [] σ Q) := wp_cmp_eq rfl
theorem r_U_step_8 : Wp L d k_U_step 8 [vR b0, l1, l2] [] σ Q ↔ Wp L d k_U_step 9 [vR b0, l1, l2] [vR b0] σ Q := wp_aload rfl rfl
theorem r_U_step_9 (h : gK c0 = 8) : Wp L d k_U_step 9 [l0, l1, l2] [vR c0] σ Q ↔ Wp L d k_U_step 12 [l0, l1, l2] [vI (σ c0 4)] σ Q := wp_getI (c := 2052) rfl rfl rfl rfl h
theorem r_U_step_12 : Wp L d k_U_step 12 [l0, l1, l2] [vI s0] σ Q ↔ Wp L d k_U_step 13 [l0, l1, l2] [vI 2, vI s0] σ Q := wp_push rfl
theorem r_U_step_13 : Wp L d k_U_step 13 [l0, l1, l2] [vI s1, vI s0] σ Q ↔ (if s0 ≠ s1 then Wp L d k_U_step 20 [l0, l1, l2] [] σ Q else Wp L d k_U_step 16 [l0, l1, l2] [] σ Q) := wp_cmp_ne rfl
theorem r_U_step_16 : Wp L d k_U_step 16 [l0, l1, l2] [] σ Q ↔ Wp L d k_U_step 17 [l0, l1, l2] [vI 1] σ Q := wp_push rfl
theorem r_U_step_17 : Wp L d k_U_step 17 [l0, l1, l2] [vI s0] σ Q ↔ Wp L d k_U_step 21 [l0, l1, l2] [vI s0] σ Q := wp_goto rfl
theorem r_U_step_20 : Wp L d k_U_step 20 [l0, l1, l2] [] σ Q ↔ Wp L d k_U_step 21 [l0, l1, l2] [vI 0] σ Q := wp_push rfl
theorem r_U_step_21 : Wp L d k_U_step 21 [vR b0, l1, l2] [vI s0] σ Q ↔ Wp L d k_U_step 22 [vR b0, vI s0, l2] [] σ Q := wp_istore (i := 1) (ls := [vR b0, l1, l2]) rfl rfl
theorem r_U_step_22 : Wp L d k_U_step 22 [vR b0, l1, l2] [] σ Q ↔ Wp L d k_U_step 23 [vR b0, l1, l2] [vR b0] σ Q := wp_aload rfl rfl
theorem r_U_step_23 (h : gK c0 = 8) : Wp L d k_U_step 23 [l0, l1, l2] [vR c0] σ Q ↔ Wp L d k_U_step 26 [l0, l1, l2] [vI (σ c0 3)] σ Q := wp_getI (c := 2051) rfl rfl rfl rfl h
theorem r_U_step_26 : Wp L d k_U_step 26 [l0, vI a1, l2] [vI s0] σ Q ↔ Wp L d k_U_step 27 [l0, vI a1, vI s0] [] σ Q := wp_istore (i := 2) (ls := [l0, vI a1, l2]) rfl rfl
theorem r_U_step_27 : Wp L d k_U_step 27 [vR b0, l1, l2] [] σ Q ↔ Wp L d k_U_step 28 [vR b0, l1, l2] [vR b0] σ Q := wp_aload rfl rfl
theorem r_U_step_28 : Wp L d k_U_step 28 [vR b0, l1, l2] [vR c0] σ Q ↔ Wp L d k_U_step 29 [vR b0, l1, l2] [vR b0, vR c0] σ Q := wp_aload rfl rfl
theorem r_U_step_29 (h : gK c1 = 8) : Wp L d k_U_step 29 [l0, l1, l2] [vR c1, vR c0] σ Q ↔ Wp L d k_U_step 32 [l0, l1, l2] [vI (σ c1 3), vR c0] σ Q := wp_getI (c := 2051) rfl rfl rfl rfl h
theorem r_U_step_32 (h : gK c0 = 8) : Wp L d k_U_step 32 [l0, l1, l2] [vI s1, vR c0] σ Q ↔ Wp L d k_U_step 35 [l0, l1, l2] [] (gupd σ c0 2 s1) Q := wp_putI (c := 2050) rfl rfl rfl rfl h
theorem r_U_step_35 : Wp L d k_U_step 35 [vR b0, l1, l2] [] σ Q ↔ Wp L d k_U_step 36 [vR b0, l1, l2] [vR b0] σ Q := wp_aload rfl rfl
theorem r_U_step_36 (h : gK c0 = 8) : Wp L d k_U_step 36 [l0, l1, l2] [vR c0] σ Q ↔ Wp L d k_U_step 39 [l0, l1, l2] [vI (σ c0 2)] σ Q := wp_getI (c := 2050) rfl rfl rfl rfl h
theorem r_U_step_39 : Wp L d k_U_step 39 [vR b0, l1, l2] [vI s0] σ Q ↔ Wp L d k_U_step 40 [vR b0, l1, l2] [vR b0, vI s0] σ Q := wp_aload rfl rfl
theorem r_U_step_40 (h : gK c1 = 8) : Wp L d k_U_step 40 [l0, l1, l2] [vR c1, vI s0] σ Q ↔ Wp L d k_U_step 43 [l0, l1, l2] [vI (σ c1 1), vI s0] σ Q := wp_getI (c := 2049) rfl rfl rfl rfl h
theorem r_U_step_43 : Wp L d k_U_step 43 [l0, l1, l2] [vI s1, vI s0] σ Q ↔ (if s1 ≤ s0 then Wp L d k_U_step 73 [l0, l1, l2] [] σ Q else Wp L d k_U_step 46 [l0, l1, l2] [] σ Q) := wp_cmp_ge rfl
theorem r_U_step_46 : Wp L d k_U_step 46 [vR b0, l1, l2] [] σ Q ↔ Wp L d k_U_step 47 [vR b0, l1, l2] [vR b0] σ Q := wp_aload rfl rfl
theorem r_U_step_47 (h : gK c0 = 8) : Wp L d k_U_step 47 [l0, l1, l2] [vR c0] σ Q ↔ Wp L d k_U_step 50 [l0, l1, l2] [vR (gq c0 0)] σ Q := wp_getR (c := 2176) rfl rfl rfl rfl rfl h
theorem r_U_step_50 : Wp L d k_U_step 50 [vR b0, l1, l2] [vR c0] σ Q ↔ Wp L d k_U_step 51 [vR b0, l1, l2] [vR b0, vR c0] σ Q := wp_aload rfl rfl
theorem r_U_step_51 (h : gK c1 = 8) : Wp L d k_U_step 51 [l0, l1, l2] [vR c1, vR c0] σ Q ↔ Wp L d k_U_step 54 [l0, l1, l2] [vI (σ c1 2), vR c0] σ Q := wp_getI (c := 2050) rfl rfl rfl rfl h
theorem r_U_step_54 (h : gK c0 = 100) (hx : 0 ≤ s1 ∧ s1 < gN c0) : Wp L d k_U_step 54 [l0, l1, l2] [vI s1, vR c0] σ Q ↔ Wp L d k_U_step 55 [l0, l1, l2] [vI (σ c0 s1.toNat)] σ Q := wp_iald rfl h hx
theorem r_U_step_55 : Wp L d k_U_step 55 [l0, l1, l2] [vI s0] σ Q ↔ Wp L d k_U_step 57 [l0, l1, l2] [vI 32, vI s0] σ Q := wp_push rfl
theorem r_U_step_57 : Wp L d k_U_step 57 [l0, l1, l2] [vI s1, vI s0] σ Q ↔ (if s0 ≠ s1 then Wp L d k_U_step 73 [l0, l1, l2] [] σ Q else Wp L d k_U_step 60 [l0, l1, l2] [] σ Q) := wp_cmp_ne rfl
theorem r_U_step_60 : Wp L d k_U_step 60 [vR b0, l1, l2] [] σ Q ↔ Wp L d k_U_step 61 [vR b0, l1, l2] [vR b0] σ Q := wp_aload rfl rfl
theorem r_U_step_61 : Wp L d k_U_step 61 [l0, l1, l2] [vR c0] σ Q ↔ Wp L d k_U_step 62 [l0, l1, l2] [vR c0, vR c0] σ Q := wp_dupR rfl
theorem r_U_step_62 (h : gK c1 = 8) : Wp L d k_U_step 62 [l0, l1, l2] [vR c1, vR c0] σ Q ↔ Wp L d k_U_step 65 [l0, l1, l2] [vI (σ c1 2), vR c0] σ Q := wp_getI (c := 2050) rfl rfl rfl rfl h
theorem r_U_step_65 : Wp L d k_U_step 65 [l0, l1, l2] [vI s1, vR c0] σ Q ↔ Wp L d k_U_step 66 [l0, l1, l2] [vI 1, vI s1, vR c0] σ Q := wp_push rfl
theorem r_U_step_66 : Wp L d k_U_step 66 [l0, l1, l2] [vI s2, vI s1, vR c0] σ Q ↔ Wp L d k_U_step 67 [l0, l1, l2] [vI (w32 (s1 + s2)), vR c0] σ Q := wp_iadd rfl
theorem r_U_step_67 (h : gK c0 = 8) : Wp L d k_U_step 67 [l0, l1, l2] [vI s1, vR c0] σ Q ↔ Wp L d k_U_step 70 [l0, l1, l2] [] (gupd σ c0 2 s1) Q := wp_putI (c := 2050) rfl rfl rfl rfl h
theorem r_U_step_70 : Wp L d k_U_step 70 [l0, l1, l2] [] σ Q ↔ Wp L d k_U_step 35 [l0, l1, l2] [] σ Q := wp_goto rfl
theorem r_U_step_73 : Wp L d k_U_step 73 [vR b0, l1, l2] [] σ Q ↔ Wp L d k_U_step 74 [vR b0, l1, l2] [vR b0] σ Q := wp_aload rfl rfl
theorem r_U_step_74 : Wp L d k_U_step 74 [vR b0, l1, l2] [vR c0] σ Q ↔ Wp L d k_U_step 75 [vR b0, l1, l2] [vR b0, vR c0] σ Q := wp_aload rfl rfl
theorem r_U_step_75 (h : gK c1 = 8) : Wp L d k_U_step 75 [l0, l1, l2] [vR c1, vR c0] σ Q ↔ Wp L d k_U_step 78 [l0, l1, l2] [vI (σ c1 2), vR c0] σ Q := wp_getI (c := 2050) rfl rfl rfl rfl h
theorem r_U_step_78 (h : gK c0 = 8) : Wp L d k_U_step 78 [l0, l1, l2] [vI s1, vR c0] σ Q ↔ Wp L d k_U_step 81 [l0, l1, l2] [] (gupd σ c0 3 s1) Q := wp_putI (c := 2051) rfl rfl rfl rfl h
theorem r_U_step_81 : Wp L d k_U_step 81 [vR b0, l1, l2] [] σ Q ↔ Wp L d k_U_step 82 [vR b0, l1, l2] [vR b0] σ Q := wp_aload rfl rfl
theorem r_U_step_82 (h : gK c0 = 8) : Wp L d k_U_step 82 [l0, l1, l2] [vR c0] σ Q ↔ Wp L d k_U_step 85 [l0, l1, l2] [vI (σ c0 2)] σ Q := wp_getI (c := 2050) rfl rfl rfl rfl h
theorem r_U_step_85 : Wp L d k_U_step 85 [vR b0, l1, l2] [vI s0] σ Q ↔ Wp L d k_U_step 86 [vR b0, l1, l2] [vR b0, vI s0] σ Q := wp_aload rfl rfl
theorem r_U_step_86 (h : gK c1 = 8) : Wp L d k_U_step 86 [l0, l1, l2] [vR c1, vI s0] σ Q ↔ Wp L d k_U_step 89 [l0, l1, l2] [vI (σ c1 1), vI s0] σ Q := wp_getI (c := 2049) rfl rfl rfl rfl h
theorem r_U_step_89 : Wp L d k_U_step 89 [l0, l1, l2] [vI s1, vI s0] σ Q ↔ (if s0 < s1 then Wp L d k_U_step 98 [l0, l1, l2] [] σ Q else Wp L d k_U_step 92 [l0, l1, l2] [] σ Q) := wp_cmp_lt rfl
theorem r_U_step_92 : Wp L d k_U_step 92 [vR b0, l1, l2] [] σ Q ↔ Wp L d k_U_step 93 [vR b0, l1, l2] [vR b0] σ Q := wp_aload rfl rfl
theorem r_U_step_93 : Wp L d k_U_step 93 [l0, l1, l2] [vR c0] σ Q ↔ Wp L d k_U_step 94 [l0, l1, l2] [vI 0, vR c0] σ Q := wp_push rfl
theorem r_U_step_94 (h : gK c0 = 8) : Wp L d k_U_step 94 [l0, l1, l2] [vI s1, vR c0] σ Q ↔ Wp L d k_U_step 97 [l0, l1, l2] [] (gupd σ c0 4 s1) Q := wp_putI (c := 2052) rfl rfl rfl rfl h
theorem r_U_step_97 : Wp L d k_U_step 97 [l0, l1, l2] [] σ Q ↔ Q none σ := wp_vret rfl
theorem r_U_step_98 : Wp L d k_U_step 98 [vR b0, l1, l2] [] σ Q ↔ Wp L d k_U_step 99 [vR b0, l1, l2] [vR b0] σ Q := wp_aload rfl rfl
theorem r_U_step_99 : Wp L d k_U_step 99 [vR b0, l1, l2] [vR c0] σ Q ↔ Wp L d k_U_step 100 [vR b0, l1, l2] [vR b0, vR c0] σ Q := wp_aload rfl rfl
theorem r_U_step_100 (h : gK c1 = 8) : Wp L d k_U_step 100 [l0, l1, l2] [vR c1, vR c0] σ Q ↔ Wp L d k_U_step 103 [l0, l1, l2] [vR (gq c1 0), vR c0] σ Q := wp_getR (c := 2176) rfl rfl rfl rfl rfl h
theorem r_U_step_103 : Wp L d k_U_step 103 [vR b0, l1, l2] [vR c1, vR c0] σ Q ↔ Wp L d k_U_step 104 [vR b0, l1, l2] [vR b0, vR c1, vR c0] σ Q := wp_aload rfl rfl
theorem r_U_step_104 (h : gK c2 = 8) : Wp L d k_U_step 104 [l0, l1, l2] [vR c2, vR c1, vR c0] σ Q ↔ Wp L d k_U_step 107 [l0, l1, l2] [vI (σ c2 2), vR c1, vR c0] σ Q := wp_getI (c := 2050) rfl rfl rfl rfl h
theorem r_U_step_107 (h : gK c1 = 100) (hx : 0 ≤ s2 ∧ s2 < gN c1) : Wp L d k_U_step 107 [l0, l1, l2] [vI s2, vR c1, vR c0] σ Q ↔ Wp L d k_U_step 108 [l0, l1, l2] [vI (σ c1 s2.toNat), vR c0] σ Q := wp_iald rfl h hx
theorem r_U_step_111 (h : gK c0 = 8) : Wp L d k_U_step 111 [l0, l1, l2] [vI s1, vR c0] σ Q ↔ Wp L d k_U_step 114 [l0, l1, l2] [] (gupd σ c0 4 s1) Q := wp_putI (c := 2052) rfl rfl rfl rfl h
theorem r_U_step_114 : Wp L d k_U_step 114 [vR b0, l1, l2] [] σ Q ↔ Wp L d k_U_step 115 [vR b0, l1, l2] [vR b0] σ Q := wp_aload rfl rfl
theorem r_U_step_115 : Wp L d k_U_step 115 [vR b0, l1, l2] [vR c0] σ Q ↔ Wp L d k_U_step 116 [vR b0, l1, l2] [vR b0, vR c0] σ Q := wp_aload rfl rfl
theorem r_U_step_116 (h : gK c1 = 8) : Wp L d k_U_step 116 [l0, l1, l2] [vR c1, vR c0] σ Q ↔ Wp L d k_U_step 119 [l0, l1, l2] [vI (σ c1 2), vR c0] σ Q := wp_getI (c := 2050) rfl rfl rfl rfl h
theorem r_U_step_119 : Wp L d k_U_step 119 [l0, l1, l2] [vI s1, vR c0] σ Q ↔ Wp L d k_U_step 120 [l0, l1, l2] [vI 1, vI s1, vR c0] σ Q := wp_push rfl
theorem r_U_step_120 : Wp L d k_U_step 120 [l0, l1, l2] [vI s2, vI s1, vR c0] σ Q ↔ Wp L d k_U_step 121 [l0, l1, l2] [vI (w32 (s1 + s2)), vR c0] σ Q := wp_iadd rfl
theorem r_U_step_121 (h : gK c0 = 8) : Wp L d k_U_step 121 [l0, l1, l2] [vI s1, vR c0] σ Q ↔ Wp L d k_U_step 124 [l0, l1, l2] [] (gupd σ c0 3 s1) Q := wp_putI (c := 2051) rfl rfl rfl rfl h
theorem r_U_step_124 : Wp L d k_U_step 124 [vR b0, l1, l2] [] σ Q ↔ Wp L d k_U_step 125 [vR b0, l1, l2] [vR b0] σ Q := wp_aload rfl rfl
theorem r_U_step_125 (h : gK c0 = 8) : Wp L d k_U_step 125 [l0, l1, l2] [vR c0] σ Q ↔ Wp L d k_U_step 128 [l0, l1, l2] [vI (σ c0 4)] σ Q := wp_getI (c := 2052) rfl rfl rfl rfl h
theorem r_U_step_128 : Wp L d k_U_step 128 [l0, l1, l2] [vI s0] σ Q ↔ Wp L d k_U_step 129 [l0, l1, l2] [vI 3, vI s0] σ Q := wp_push rfl
theorem r_U_step_129 : Wp L d k_U_step 129 [l0, l1, l2] [vI s1, vI s0] σ Q ↔ (if s0 = s1 then Wp L d k_U_step 175 [l0, l1, l2] [] σ Q else Wp L d k_U_step 132 [l0, l1, l2] [] σ Q) := wp_cmp_eq rfl
theorem r_U_step_132 : Wp L d k_U_step 132 [vR b0, l1, l2] [] σ Q ↔ Wp L d k_U_step 133 [vR b0, l1, l2] [vR b0] σ Q := wp_aload rfl rfl
theorem r_U_step_133 (h : gK c0 = 8) : Wp L d k_U_step 133 [l0, l1, l2] [vR c0] σ Q ↔ Wp L d k_U_step 136 [l0, l1, l2] [vI (σ c0 3)] σ Q := wp_getI (c := 2051) rfl rfl rfl rfl h
theorem r_U_step_136 : Wp L d k_U_step 136 [vR b0, l1, l2] [vI s0] σ Q ↔ Wp L d k_U_step 137 [vR b0, l1, l2] [vR b0, vI s0] σ Q := wp_aload rfl rfl
theorem r_U_step_137 (h : gK c1 = 8) : Wp L d k_U_step 137 [l0, l1, l2] [vR c1, vI s0] σ Q ↔ Wp L d k_U_step 140 [l0, l1, l2] [vI (σ c1 1), vI s0] σ Q := wp_getI (c := 2049) rfl rfl rfl rfl h
theorem r_U_step_140 : Wp L d k_U_step 140 [l0, l1, l2] [vI s1, vI s0] σ Q ↔ (if s1 ≤ s0 then Wp L d k_U_step 175 [l0, l1, l2] [] σ Q else Wp L d k_U_step 143 [l0, l1, l2] [] σ Q) := wp_cmp_ge rfl
theorem r_U_step_143 : Wp L d k_U_step 143 [vR b0, l1, l2] [] σ Q ↔ Wp L d k_U_step 144 [vR b0, l1, l2] [vR b0] σ Q := wp_aload rfl rfl
theorem r_U_step_144 (h : gK c0 = 8) : Wp L d k_U_step 144 [l0, l1, l2] [vR c0] σ Q ↔ Wp L d k_U_step 147 [l0, l1, l2] [vR (gq c0 0)] σ Q := wp_getR (c := 2176) rfl rfl rfl rfl rfl h
theorem r_U_step_147 : Wp L d k_U_step 147 [vR b0, l1, l2] [vR c0] σ Q ↔ Wp L d k_U_step 148 [vR b0, l1, l2] [vR b0, vR c0] σ Q := wp_aload rfl rfl
theorem r_U_step_148 (h : gK c1 = 8) : Wp L d k_U_step 148 [l0, l1, l2] [vR c1, vR c0] σ Q ↔ Wp L d k_U_step 151 [l0, l1, l2] [vI (σ c1 3), vR c0] σ Q := wp_getI (c := 2051) rfl rfl rfl rfl h
theorem r_U_step_151 (h : gK c0 = 100) (hx : 0 ≤ s1 ∧ s1 < gN c0) : Wp L d k_U_step 151 [l0, l1, l2] [vI s1, vR c0] σ Q ↔ Wp L d k_U_step 152 [l0, l1, l2] [vI (σ c0 s1.toNat)] σ Q := wp_iald rfl h hx
theorem r_U_step_155 : Wp L d k_U_step 155 [vR b0, l1, l2] [vI s0] σ Q ↔ Wp L d k_U_step 156 [vR b0, l1, l2] [vR b0, vI s0] σ Q := wp_aload rfl rfl
theorem r_U_step_156 (h : gK c1 = 8) : Wp L d k_U_step 156 [l0, l1, l2] [vR c1, vI s0] σ Q ↔ Wp L d k_U_step 159 [l0, l1, l2] [vI (σ c1 4), vI s0] σ Q := wp_getI (c := 2052) rfl rfl rfl rfl h
theorem r_U_step_159 : Wp L d k_U_step 159 [l0, l1, l2] [vI s1, vI s0] σ Q ↔ (if s0 ≠ s1 then Wp L d k_U_step 175 [l0, l1, l2] [] σ Q else Wp L d k_U_step 162 [l0, l1, l2] [] σ Q) := wp_cmp_ne rfl
theorem r_U_step_162 : Wp L d k_U_step 162 [vR b0, l1, l2] [] σ Q ↔ Wp L d k_U_step 163 [vR b0, l1, l2] [vR b0] σ Q := wp_aload rfl rfl
theorem r_U_step_163 : Wp L d k_U_step 163 [l0, l1, l2] [vR c0] σ Q ↔ Wp L d k_U_step 164 [l0, l1, l2] [vR c0, vR c0] σ Q := wp_dupR rfl
theorem r_U_step_164 (h : gK c1 = 8) : Wp L d k_U_step 164 [l0, l1, l2] [vR c1, vR c0] σ Q ↔ Wp L d k_U_step 167 [l0, l1, l2] [vI (σ c1 3), vR c0] σ Q := wp_getI (c := 2051) rfl rfl rfl rfl h
theorem r_U_step_167 : Wp L d k_U_step 167 [l0, l1, l2] [vI s1, vR c0] σ Q ↔ Wp L d k_U_step 168 [l0, l1, l2] [vI 1, vI s1, vR c0] σ Q := wp_push rfl
theorem r_U_step_168 : Wp L d k_U_step 168 [l0, l1, l2] [vI s2, vI s1, vR c0] σ Q ↔ Wp L d k_U_step 169 [l0, l1, l2] [vI (w32 (s1 + s2)), vR c0] σ Q := wp_iadd rfl
theorem r_U_step_169 (h : gK c0 = 8) : Wp L d k_U_step 169 [l0, l1, l2] [vI s1, vR c0] σ Q ↔ Wp L d k_U_step 172 [l0, l1, l2] [] (gupd σ c0 3 s1) Q := wp_putI (c := 2051) rfl rfl rfl rfl h
theorem r_U_step_172 : Wp L d k_U_step 172 [l0, l1, l2] [] σ Q ↔ Wp L d k_U_step 124 [l0, l1, l2] [] σ Q := wp_goto rfl
theorem r_U_step_175 : Wp L d k_U_step 175 [vR b0, l1, l2] [] σ Q ↔ Wp L d k_U_step 176 [vR b0, l1, l2] [vR b0] σ Q := wp_aload rfl rfl
theorem r_U_step_176 (h : gK c0 = 8) : Wp L d k_U_step 176 [l0, l1, l2] [vR c0] σ Q ↔ Wp L d k_U_step 179 [l0, l1, l2] [vI (σ c0 4)] σ Q := wp_getI (c := 2052) rfl rfl rfl rfl h
theorem r_U_step_179 : Wp L d k_U_step 179 [l0, l1, l2] [vI s0] σ Q ↔ Wp L d k_U_step 180 [l0, l1, l2] [vI 3, vI s0] σ Q := wp_push rfl
theorem r_U_step_180 : Wp L d k_U_step 180 [l0, l1, l2] [vI s1, vI s0] σ Q ↔ (if s0 = s1 then Wp L d k_U_step 200 [l0, l1, l2] [] σ Q else Wp L d k_U_step 183 [l0, l1, l2] [] σ Q) := wp_cmp_eq rfl
theorem r_U_step_183 : Wp L d k_U_step 183 [l0, vI a1, l2] [] σ Q ↔ Wp L d k_U_step 184 [l0, vI a1, l2] [vI a1] σ Q := wp_iload rfl rfl
theorem r_U_step_184 : Wp L d k_U_step 184 [l0, l1, l2] [vI s0] σ Q ↔ (if s0 = 0 then Wp L d k_U_step 200 [l0, l1, l2] [] σ Q else Wp L d k_U_step 187 [l0, l1, l2] [] σ Q) := wp_if_eq rfl
theorem r_U_step_187 : Wp L d k_U_step 187 [vR b0, l1, l2] [] σ Q ↔ Wp L d k_U_step 188 [vR b0, l1, l2] [vR b0] σ Q := wp_aload rfl rfl
theorem r_U_step_188 (h : gK c0 = 8) : Wp L d k_U_step 188 [l0, l1, l2] [vR c0] σ Q ↔ Wp L d k_U_step 191 [l0, l1, l2] [vI (σ c0 2)] σ Q := wp_getI (c := 2050) rfl rfl rfl rfl h
theorem r_U_step_191 : Wp L d k_U_step 191 [l0, l1, vI a2] [vI s0] σ Q ↔ Wp L d k_U_step 192 [l0, l1, vI a2] [vI a2, vI s0] σ Q := wp_iload rfl rfl
theorem r_U_step_192 : Wp L d k_U_step 192 [l0, l1, l2] [vI s1, vI s0] σ Q ↔ (if s0 ≠ s1 then Wp L d k_U_step 200 [l0, l1, l2] [] σ Q else Wp L d k_U_step 195 [l0, l1, l2] [] σ Q) := wp_cmp_ne rfl
theorem r_U_step_195 : Wp L d k_U_step 195 [vR b0, l1, l2] [] σ Q ↔ Wp L d k_U_step 196 [vR b0, l1, l2] [vR b0] σ Q := wp_aload rfl rfl
theorem r_U_step_196 : Wp L d k_U_step 196 [l0, l1, l2] [vR c0] σ Q ↔ Wp L d k_U_step 197 [l0, l1, l2] [vI 4, vR c0] σ Q := wp_push rfl
theorem r_U_step_197 (h : gK c0 = 8) : Wp L d k_U_step 197 [l0, l1, l2] [vI s1, vR c0] σ Q ↔ Wp L d k_U_step 200 [l0, l1, l2] [] (gupd σ c0 4 s1) Q := wp_putI (c := 2052) rfl rfl rfl rfl h
theorem r_U_step_200 : Wp L d k_U_step 200 [l0, l1, l2] [] σ Q ↔ Q none σ := wp_vret rfl
theorem r_U_step_108 : Wp L (d + 1) k_U_step 108 [l0, l1, l2] [vI s1, vR c0] σ Q ↔ Wp L (d + 1) k_U_step 111 [l0, l1, l2] [vI (gso s1), vR c0] σ Q := wp_callR (d := d + 0) (as := [vI s1]) (rest := [vR c0]) rfl rfl rfl rfl rfl rfl rfl rfl (sp_U_sortOf)
theorem r_U_step_152 : Wp L (d + 1) k_U_step 152 [l0, l1, l2] [vI s0] σ Q ↔ Wp L (d + 1) k_U_step 155 [l0, l1, l2] [vI (gso s0)] σ Q := wp_callR (d := d + 0) (as := [vI s0]) (rest := []) rfl rfl rfl rfl rfl rfl rfl rfl (sp_U_sortOf)
theorem sp_U_step {n e : Nat} (hn : σ 279 1 = (n : Int)) (h96 : n ≤ 96) (he : σ 279 3 = (e : Int)) (hen : e ≤ n) : ∃ σ', Run L (d + 1) 157 [vR 279] σ none σ' ∧ σ' 279 2 = ((gts (σ 280) n e : Nat) : Int) ∧ σ' 279 3 = ((gte (σ 280) n e : Nat) : Int) ∧ σ' 279 4 = gtq (σ 280) n e (σ 279 4) ∧ Agr σ σ' (fun k j => k = 279 ∧ 2 ≤ j ∧ j ≤ 4) := by
  refine Run_ex (C' := k_U_step) rfl ?_
  show Wp L (d + 1) k_U_step 0 [vR 279, vU, vU] [] σ _
  obtain ⟨K280, N280, K281, N281⟩ := litC
  have K279 := gK_279
  have bd := gskip_bd (σ 280) (n - e) e
  have ex : ∀ (τ : gMm), τ 279 2 = ((gts (σ 280) n e : Nat) : Int) → Agr σ τ (fun k j => k = 279 ∧ 2 ≤ j ∧ j ≤ 4) → Wp L (d + 1) k_U_step 73 [vR 279, vI (gb (σ 279 4 = 1 ∨ σ 279 4 = 2)), vI (e : Int)] [] τ (fun r' σ' => r' = none ∧ σ' 279 2 = ((gts (σ 280) n e : Nat) : Int) ∧ σ' 279 3 = ((gte (σ 280) n e : Nat) : Int) ∧ σ' 279 4 = gtq (σ 280) n e (σ 279 4) ∧ Agr σ σ' (fun k j => k = 279 ∧ 2 ≤ j ∧ j ≤ 4)) := fun τ h2 hA => by
    have h1 : τ 279 1 = (n : Int) := (hA 279 1 (by omega)).trans hn
    have hsn : gts (σ 280) n e ≤ n := by unfold gts; omega
    by_cases c : gts (σ 280) n e < n
    · have g3 : gte (σ 280) n e = (if gso (σ 280 (gts (σ 280) n e)) = 3 then gts (σ 280) n e + 1 else grun (σ 280) (gso (σ 280 (gts (σ 280) n e))) (gts (σ 280) n e + 1) (n - (gts (σ 280) n e + 1))) := if_pos c
      have g4 : gtq (σ 280) n e (σ 279 4) = (if gso (σ 280 (gts (σ 280) n e)) ≠ 3 ∧ (σ 279 4 = 1 ∨ σ 279 4 = 2) ∧ gts (σ 280) n e = e then 4 else gso (σ 280 (gts (σ 280) n e))) := if_pos c
      have e0 : τ 280 (gts (σ 280) n e) = σ 280 (gts (σ 280) n e) := hA 280 _ (by omega)
      generalize hS : gts (σ 280) n e = s at *
      generalize hT : gte (σ 280) n e = t at *
      generalize hU : gtq (σ 280) n e (σ 279 4) = u at *
      generalize hO : gso (σ 280 s) = o at *
      have ov := gso_v (σ 280 s)
      rw [hO] at ov
      have ex2 : ∀ ρ : gMm, ρ 279 2 = (s : Int) → ρ 279 3 = (t : Int) → ρ 279 4 = o → Agr σ ρ (fun k j => k = 279 ∧ 2 ≤ j ∧ j ≤ 4) → Wp L (d + 1) k_U_step 175 [vR 279, vI (gb (σ 279 4 = 1 ∨ σ 279 4 = 2)), vI (e : Int)] [] ρ (fun r' σ' => r' = none ∧ σ' 279 2 = (s : Int) ∧ σ' 279 3 = (t : Int) ∧ σ' 279 4 = u ∧ Agr σ σ' (fun k j => k = 279 ∧ 2 ≤ j ∧ j ≤ 4)) := fun ρ y2 y3 y4 yA => by
        by_cases d1 : o = 3
        · rw [if_neg (fun z => z.1 d1)] at g4
          simp (disch := first | assumption | exact gb_01 _ | omega) only [r_U_step_175, r_U_step_176, r_U_step_179, r_U_step_180, r_U_step_183, r_U_step_184, r_U_step_187, r_U_step_188, r_U_step_191, r_U_step_192, r_U_step_195, r_U_step_196, r_U_step_197, r_U_step_200, gq_279_0, gq_279_5, y2, y3, y4, w32_gb, w32i, tn_add, tn_mul, Int.toNat_natCast, Int.toNat_zero, Int.reduceLE, Int.reduceLT, Int.reduceEq, Int.reduceNe, gb_T, gb_F, Int.reduceToNat, eq_self, true_or, or_true, and_true, true_and, and_self, ↓ite_gb0, ↓ite_gbn, ↓if_pos, ↓if_neg, if_true, if_false, not_true_eq_false, not_false_eq_true, gb_ne0, gb_eq0]
          exact ⟨g4.symm, yA⟩
        · by_cases d2 : σ 279 4 = 1 ∨ σ 279 4 = 2
          · rw [gb_t d2]
            by_cases d3 : s = e
            · rw [if_pos ⟨d1, d2, d3⟩] at g4
              simp (disch := first | assumption | exact gb_01 _ | omega) only [r_U_step_175, r_U_step_176, r_U_step_179, r_U_step_180, r_U_step_183, r_U_step_184, r_U_step_187, r_U_step_188, r_U_step_191, r_U_step_192, r_U_step_195, r_U_step_196, r_U_step_197, r_U_step_200, gq_279_0, gq_279_5, y2, y3, y4, w32_gb, w32i, tn_add, tn_mul, Int.toNat_natCast, Int.toNat_zero, Int.reduceLE, Int.reduceLT, Int.reduceEq, Int.reduceNe, gb_T, gb_F, Int.reduceToNat, eq_self, true_or, or_true, and_true, true_and, and_self, ↓ite_gb0, ↓ite_gbn, ↓if_pos, ↓if_neg, if_true, if_false, not_true_eq_false, not_false_eq_true, gb_ne0, gb_eq0]
              exact ⟨by rw [gupd_ne (by omega)]; exact y2, by rw [gupd_ne (by omega)]; exact y3, by rw [gupd_eq, g4], Agr_upd yA (by omega)⟩
            · rw [if_neg (fun z => d3 z.2.2)] at g4
              simp (disch := first | assumption | exact gb_01 _ | omega) only [r_U_step_175, r_U_step_176, r_U_step_179, r_U_step_180, r_U_step_183, r_U_step_184, r_U_step_187, r_U_step_188, r_U_step_191, r_U_step_192, r_U_step_195, r_U_step_196, r_U_step_197, r_U_step_200, gq_279_0, gq_279_5, y2, y3, y4, w32_gb, w32i, tn_add, tn_mul, Int.toNat_natCast, Int.toNat_zero, Int.reduceLE, Int.reduceLT, Int.reduceEq, Int.reduceNe, gb_T, gb_F, Int.reduceToNat, eq_self, true_or, or_true, and_true, true_and, and_self, ↓ite_gb0, ↓ite_gbn, ↓if_pos, ↓if_neg, if_true, if_false, not_true_eq_false, not_false_eq_true, gb_ne0, gb_eq0]
              exact ⟨g4.symm, yA⟩
          · rw [gb_f d2]
            rw [if_neg (fun z => d2 z.2.1)] at g4
            simp (disch := first | assumption | exact gb_01 _ | omega) only [r_U_step_175, r_U_step_176, r_U_step_179, r_U_step_180, r_U_step_183, r_U_step_184, r_U_step_187, r_U_step_188, r_U_step_191, r_U_step_192, r_U_step_195, r_U_step_196, r_U_step_197, r_U_step_200, gq_279_0, gq_279_5, y2, y3, y4, w32_gb, w32i, tn_add, tn_mul, Int.toNat_natCast, Int.toNat_zero, Int.reduceLE, Int.reduceLT, Int.reduceEq, Int.reduceNe, gb_T, gb_F, Int.reduceToNat, eq_self, true_or, or_true, and_true, true_and, and_self, ↓ite_gb0, ↓ite_gbn, ↓if_pos, ↓if_neg, if_true, if_false, not_true_eq_false, not_false_eq_true, gb_ne0, gb_eq0]
            exact ⟨g4.symm, yA⟩
      have go : ∀ ρ : gMm, ρ 279 2 = (s : Int) → ρ 279 3 = ((s + 1 : Nat) : Int) → ρ 279 4 = o → Agr σ ρ (fun k j => k = 279 ∧ 2 ≤ j ∧ j ≤ 4) → Wp L (d + 1) k_U_step 124 [vR 279, vI (gb (σ 279 4 = 1 ∨ σ 279 4 = 2)), vI (e : Int)] [] ρ (fun r' σ' => r' = none ∧ σ' 279 2 = (s : Int) ∧ σ' 279 3 = (t : Int) ∧ σ' 279 4 = u ∧ Agr σ σ' (fun k j => k = 279 ∧ 2 ≤ j ∧ j ≤ 4)) := fun ρ y2 y3 y4 yA => by
        by_cases d1 : o = 3
        · rw [if_pos d1] at g3
          have x := ex2 ρ y2 (by rw [y3, g3]) y4 yA
          rw [r_U_step_124]
          simp (disch := first | assumption | exact gb_01 _ | omega) only [r_U_step_125, r_U_step_128, r_U_step_129, r_U_step_132, r_U_step_133, r_U_step_136, r_U_step_137, r_U_step_140, r_U_step_143, r_U_step_144, r_U_step_147, r_U_step_148, r_U_step_151, r_U_step_152, r_U_step_155, r_U_step_156, r_U_step_159, r_U_step_162, r_U_step_163, r_U_step_164, r_U_step_167, r_U_step_168, r_U_step_169, r_U_step_172, gq_279_0, gq_279_5, y2, y3, y4, w32_gb, w32i, tn_add, tn_mul, Int.toNat_natCast, Int.toNat_zero, Int.reduceLE, Int.reduceLT, Int.reduceEq, Int.reduceNe, gb_T, gb_F, Int.reduceToNat, eq_self, true_or, or_true, and_true, true_and, and_self, ↓ite_gb0, ↓ite_gbn, ↓if_pos, ↓if_neg, if_true, if_false, not_true_eq_false, not_false_eq_true, gb_ne0, gb_eq0]
          exact x
        · rw [if_neg d1] at g3
          refine wloop (n := n - (s + 1)) (I := fun k ls τ => ls = [vR 279, vI (gb (σ 279 4 = 1 ∨ σ 279 4 = 2)), vI (e : Int)] ∧ (τ 279 2 = (s : Int) ∧ τ 279 3 = ((s + 1 + k : Nat) : Int) ∧ τ 279 4 = o) ∧ t = grun (σ 280) o (s + 1 + k) (n - (s + 1) - k) ∧ Agr σ τ (fun k j => k = 279 ∧ 2 ≤ j ∧ j ≤ 4)) (fun k ls τ hk hi hq => ?_) (fun ls τ hi => ?_) (n - (s + 1)) 0 (by omega) _ _ ⟨rfl, ⟨y2, y3, y4⟩, g3, yA⟩
          · obtain ⟨rfl, ⟨z2, z3, z4⟩, z5, zA⟩ := hi
            have z1 : τ 279 1 = (n : Int) := (zA 279 1 (by omega)).trans hn
            have z0 : τ 280 (s + 1 + k) = σ 280 (s + 1 + k) := zA 280 _ (by omega)
            have tn : ((s + 1 + k : Nat) : Int).toNat = s + 1 + k := by omega
            rw [show n - (s + 1) - k = (n - (s + 1) - k - 1) + 1 by omega] at z5
            rw [r_U_step_124]
            by_cases c5 : gso (σ 280 (s + 1 + k)) = o
            · rw [grun_s c5] at z5
              simp (disch := first | assumption | exact gb_01 _ | omega) only [r_U_step_125, r_U_step_128, r_U_step_129, r_U_step_132, r_U_step_133, r_U_step_136, r_U_step_137, r_U_step_140, r_U_step_143, r_U_step_144, r_U_step_147, r_U_step_148, r_U_step_151, r_U_step_152, r_U_step_155, r_U_step_156, r_U_step_159, r_U_step_162, r_U_step_163, r_U_step_164, r_U_step_167, r_U_step_168, r_U_step_169, r_U_step_172, gq_279_0, gq_279_5, z0, z1, z2, z3, z4, tn, c5, gupd_ne, gupd_eq, w32_gb, w32i, tn_add, tn_mul, Int.toNat_natCast, Int.toNat_zero, Int.reduceLE, Int.reduceLT, Int.reduceEq, Int.reduceNe, gb_T, gb_F, Int.reduceToNat, eq_self, true_or, or_true, and_true, true_and, and_self, ↓ite_gb0, ↓ite_gbn, ↓if_pos, ↓if_neg, if_true, if_false, not_true_eq_false, not_false_eq_true, gb_ne0, gb_eq0]
              refine hq _ _ ⟨rfl, ⟨?_, ?_, ?_⟩, by rw [z5]; congr 1, Agr_upd zA (by omega)⟩
              · rw [gupd_ne (by omega)]; exact z2
              · rw [gupd_eq]; omega
              · rw [gupd_ne (by omega)]; exact z4
            · rw [grun_x c5] at z5
              have x := ex2 τ z2 (by rw [z3, z5]) z4 zA
              simp (disch := first | assumption | exact gb_01 _ | omega) only [r_U_step_125, r_U_step_128, r_U_step_129, r_U_step_132, r_U_step_133, r_U_step_136, r_U_step_137, r_U_step_140, r_U_step_143, r_U_step_144, r_U_step_147, r_U_step_148, r_U_step_151, r_U_step_152, r_U_step_155, r_U_step_156, r_U_step_159, r_U_step_162, r_U_step_163, r_U_step_164, r_U_step_167, r_U_step_168, r_U_step_169, r_U_step_172, gq_279_0, gq_279_5, z0, z1, z2, z3, z4, tn, gupd_ne, w32_gb, w32i, tn_add, tn_mul, Int.toNat_natCast, Int.toNat_zero, Int.reduceLE, Int.reduceLT, Int.reduceEq, Int.reduceNe, gb_T, gb_F, Int.reduceToNat, eq_self, true_or, or_true, and_true, true_and, and_self, ↓ite_gb0, ↓ite_gbn, ↓if_pos, ↓if_neg, if_true, if_false, not_true_eq_false, not_false_eq_true, gb_ne0, gb_eq0]
              exact x
          · obtain ⟨rfl, ⟨z2, z3, z4⟩, z5, zA⟩ := hi
            have z1 : τ 279 1 = (n : Int) := (zA 279 1 (by omega)).trans hn
            rw [show n - (s + 1) - (n - (s + 1)) = 0 by omega] at z5
            have x := ex2 τ z2 (by rw [z3, z5]; rfl) z4 zA
            rw [r_U_step_124]
            simp (disch := first | assumption | exact gb_01 _ | omega) only [r_U_step_125, r_U_step_128, r_U_step_129, r_U_step_132, r_U_step_133, r_U_step_136, r_U_step_137, r_U_step_140, r_U_step_143, r_U_step_144, r_U_step_147, r_U_step_148, r_U_step_151, r_U_step_152, r_U_step_155, r_U_step_156, r_U_step_159, r_U_step_162, r_U_step_163, r_U_step_164, r_U_step_167, r_U_step_168, r_U_step_169, r_U_step_172, gq_279_0, gq_279_5, z1, z2, z3, z4, w32_gb, w32i, tn_add, tn_mul, Int.toNat_natCast, Int.toNat_zero, Int.reduceLE, Int.reduceLT, Int.reduceEq, Int.reduceNe, gb_T, gb_F, Int.reduceToNat, eq_self, true_or, or_true, and_true, true_and, and_self, ↓ite_gb0, ↓ite_gbn, ↓if_pos, ↓if_neg, if_true, if_false, not_true_eq_false, not_false_eq_true, gb_ne0, gb_eq0]
            exact x
      have x := go (gupd (gupd (gupd τ 279 3 (s : Int)) 279 4 o) 279 3 ((s : Int) + 1)) (by rw [gupd_ne (by omega), gupd_ne (by omega), gupd_ne (by omega)]; exact h2) (by rw [gupd_eq]; omega) (by rw [gupd_ne (by omega), gupd_eq]) (Agr_upd (Agr_upd (Agr_upd hA (by omega)) (by omega)) (by omega))
      simp (disch := first | assumption | exact gb_01 _ | omega) only [r_U_step_73, r_U_step_74, r_U_step_75, r_U_step_78, r_U_step_81, r_U_step_82, r_U_step_85, r_U_step_86, r_U_step_89, r_U_step_92, r_U_step_93, r_U_step_94, r_U_step_97, r_U_step_98, r_U_step_99, r_U_step_100, r_U_step_103, r_U_step_104, r_U_step_107, r_U_step_108, r_U_step_111, r_U_step_114, r_U_step_115, r_U_step_116, r_U_step_119, r_U_step_120, r_U_step_121, gq_279_0, gq_279_5, h1, h2, e0, hO, gupd_ne, gupd_eq, w32_gb, w32i, tn_add, tn_mul, Int.toNat_natCast, Int.toNat_zero, Int.reduceLE, Int.reduceLT, Int.reduceEq, Int.reduceNe, gb_T, gb_F, Int.reduceToNat, eq_self, true_or, or_true, and_true, true_and, and_self, ↓ite_gb0, ↓ite_gbn, ↓if_pos, ↓if_neg, if_true, if_false, not_true_eq_false, not_false_eq_true, gb_ne0, gb_eq0]
      exact x
    · have g3 : gte (σ 280) n e = gts (σ 280) n e := if_neg c
      have g4 : gtq (σ 280) n e (σ 279 4) = 0 := if_neg c
      rw [g3, g4]
      simp (disch := first | assumption | exact gb_01 _ | omega) only [r_U_step_0, r_U_step_1, r_U_step_4, r_U_step_5, r_U_step_8, r_U_step_9, r_U_step_12, r_U_step_13, r_U_step_16, r_U_step_17, r_U_step_20, r_U_step_21, r_U_step_22, r_U_step_23, r_U_step_26, r_U_step_27, r_U_step_28, r_U_step_29, r_U_step_32, r_U_step_36, r_U_step_39, r_U_step_40, r_U_step_43, r_U_step_46, r_U_step_47, r_U_step_50, r_U_step_51, r_U_step_54, r_U_step_55, r_U_step_57, r_U_step_60, r_U_step_61, r_U_step_62, r_U_step_65, r_U_step_66, r_U_step_67, r_U_step_70, r_U_step_73, r_U_step_74, r_U_step_75, r_U_step_78, r_U_step_81, r_U_step_82, r_U_step_85, r_U_step_86, r_U_step_89, r_U_step_92, r_U_step_93, r_U_step_94, r_U_step_97, r_U_step_98, r_U_step_99, r_U_step_100, r_U_step_103, r_U_step_104, r_U_step_107, r_U_step_108, r_U_step_111, r_U_step_114, r_U_step_115, r_U_step_116, r_U_step_119, r_U_step_120, r_U_step_121, r_U_step_125, r_U_step_128, r_U_step_129, r_U_step_132, r_U_step_133, r_U_step_136, r_U_step_137, r_U_step_140, r_U_step_143, r_U_step_144, r_U_step_147, r_U_step_148, r_U_step_151, r_U_step_152, r_U_step_155, r_U_step_156, r_U_step_159, r_U_step_162, r_U_step_163, r_U_step_164, r_U_step_167, r_U_step_168, r_U_step_169, r_U_step_172, r_U_step_175, r_U_step_176, r_U_step_179, r_U_step_180, r_U_step_183, r_U_step_184, r_U_step_187, r_U_step_188, r_U_step_191, r_U_step_192, r_U_step_195, r_U_step_196, r_U_step_197, r_U_step_200, gq_279_0, gq_279_5, h1, h2, gupd_ne, w32_gb, w32i, tn_add, tn_mul, Int.toNat_natCast, Int.toNat_zero, Int.reduceLE, Int.reduceLT, Int.reduceEq, Int.reduceNe, gb_T, gb_F, Int.reduceToNat, eq_self, true_or, or_true, and_true, true_and, and_self, ↓ite_gb0, ↓ite_gbn, ↓if_pos, ↓if_neg, if_true, if_false, not_true_eq_false, not_false_eq_true, gb_ne0, gb_eq0]
      exact ⟨gupd_eq, gupd_eq, Agr_upd (Agr_upd hA (by omega)) (by omega)⟩
  have mid : Wp L (d + 1) k_U_step 35 [vR 279, vI (gb (σ 279 4 = 1 ∨ σ 279 4 = 2)), vI (e : Int)] [] (gupd σ 279 2 (e : Int)) (fun r' σ' => r' = none ∧ σ' 279 2 = ((gts (σ 280) n e : Nat) : Int) ∧ σ' 279 3 = ((gte (σ 280) n e : Nat) : Int) ∧ σ' 279 4 = gtq (σ 280) n e (σ 279 4) ∧ Agr σ σ' (fun k j => k = 279 ∧ 2 ≤ j ∧ j ≤ 4)) := by
    refine wloop (n := n - e) (I := fun k ls τ => ls = [vR 279, vI (gb (σ 279 4 = 1 ∨ σ 279 4 = 2)), vI (e : Int)] ∧ τ 279 2 = ((e + k : Nat) : Int) ∧ gts (σ 280) n e = gskip (σ 280) (e + k) (n - e - k) ∧ Agr σ τ (fun k j => k = 279 ∧ 2 ≤ j ∧ j ≤ 4)) (fun k ls τ hk hi hq => ?_) (fun ls τ hi => ?_) (n - e) 0 (by omega) _ _ ⟨rfl, gupd_eq, rfl, Agr_upd (Agr_refl _ _) (by omega)⟩
    · obtain ⟨rfl, h2, h3, hA⟩ := hi
      have h1 : τ 279 1 = (n : Int) := (hA 279 1 (by omega)).trans hn
      have e0 : τ 280 (e + k) = σ 280 (e + k) := hA 280 _ (by omega)
      have tn : ((e + k : Nat) : Int).toNat = e + k := by omega
      rw [show n - e - k = (n - e - k - 1) + 1 by omega] at h3
      rw [r_U_step_35]
      by_cases c : σ 280 (e + k) = 32
      · rw [gskip_s c] at h3
        simp (disch := first | assumption | exact gb_01 _ | omega) only [r_U_step_0, r_U_step_1, r_U_step_4, r_U_step_5, r_U_step_8, r_U_step_9, r_U_step_12, r_U_step_13, r_U_step_16, r_U_step_17, r_U_step_20, r_U_step_21, r_U_step_22, r_U_step_23, r_U_step_26, r_U_step_27, r_U_step_28, r_U_step_29, r_U_step_32, r_U_step_36, r_U_step_39, r_U_step_40, r_U_step_43, r_U_step_46, r_U_step_47, r_U_step_50, r_U_step_51, r_U_step_54, r_U_step_55, r_U_step_57, r_U_step_60, r_U_step_61, r_U_step_62, r_U_step_65, r_U_step_66, r_U_step_67, r_U_step_70, r_U_step_73, r_U_step_74, r_U_step_75, r_U_step_78, r_U_step_81, r_U_step_82, r_U_step_85, r_U_step_86, r_U_step_89, r_U_step_92, r_U_step_93, r_U_step_94, r_U_step_97, r_U_step_98, r_U_step_99, r_U_step_100, r_U_step_103, r_U_step_104, r_U_step_107, r_U_step_108, r_U_step_111, r_U_step_114, r_U_step_115, r_U_step_116, r_U_step_119, r_U_step_120, r_U_step_121, r_U_step_125, r_U_step_128, r_U_step_129, r_U_step_132, r_U_step_133, r_U_step_136, r_U_step_137, r_U_step_140, r_U_step_143, r_U_step_144, r_U_step_147, r_U_step_148, r_U_step_151, r_U_step_152, r_U_step_155, r_U_step_156, r_U_step_159, r_U_step_162, r_U_step_163, r_U_step_164, r_U_step_167, r_U_step_168, r_U_step_169, r_U_step_172, r_U_step_175, r_U_step_176, r_U_step_179, r_U_step_180, r_U_step_183, r_U_step_184, r_U_step_187, r_U_step_188, r_U_step_191, r_U_step_192, r_U_step_195, r_U_step_196, r_U_step_197, r_U_step_200, gq_279_0, gq_279_5, gupd_ne, gupd_eq, h1, h2, tn, e0, w32_gb, w32i, tn_add, tn_mul, Int.toNat_natCast, Int.toNat_zero, Int.reduceLE, Int.reduceLT, Int.reduceEq, Int.reduceNe, gb_T, gb_F, Int.reduceToNat, eq_self, true_or, or_true, and_true, true_and, and_self, ↓ite_gb0, ↓ite_gbn, ↓if_pos, ↓if_neg, if_true, if_false, not_true_eq_false, not_false_eq_true, gb_ne0, gb_eq0]
        refine hq _ _ ⟨rfl, ?_, by rw [h3]; congr 1, Agr_upd hA (by omega)⟩
        rw [gupd_eq]
        omega
      · rw [gskip_x c] at h3
        have x := ex τ (by rw [h3]; exact h2) hA
        simp (disch := first | assumption | exact gb_01 _ | omega) only [r_U_step_0, r_U_step_1, r_U_step_4, r_U_step_5, r_U_step_8, r_U_step_9, r_U_step_12, r_U_step_13, r_U_step_16, r_U_step_17, r_U_step_20, r_U_step_21, r_U_step_22, r_U_step_23, r_U_step_26, r_U_step_27, r_U_step_28, r_U_step_29, r_U_step_32, r_U_step_36, r_U_step_39, r_U_step_40, r_U_step_43, r_U_step_46, r_U_step_47, r_U_step_50, r_U_step_51, r_U_step_54, r_U_step_55, r_U_step_57, r_U_step_60, r_U_step_61, r_U_step_62, r_U_step_65, r_U_step_66, r_U_step_67, r_U_step_70, gq_279_0, gq_279_5, h1, h2, tn, e0, w32_gb, w32i, tn_add, tn_mul, Int.toNat_natCast, Int.toNat_zero, Int.reduceLE, Int.reduceLT, Int.reduceEq, Int.reduceNe, gb_T, gb_F, Int.reduceToNat, eq_self, true_or, or_true, and_true, true_and, and_self, ↓ite_gb0, ↓ite_gbn, ↓if_pos, ↓if_neg, if_true, if_false, not_true_eq_false, not_false_eq_true, gb_ne0, gb_eq0]
        exact x
    · obtain ⟨rfl, h2, h3, hA⟩ := hi
      have h1 : τ 279 1 = (n : Int) := (hA 279 1 (by omega)).trans hn
      have x := ex τ (by rw [h3, h2, show n - e - (n - e) = 0 by omega]; rfl) hA
      rw [r_U_step_35]
      simp (disch := first | assumption | exact gb_01 _ | omega) only [r_U_step_0, r_U_step_1, r_U_step_4, r_U_step_5, r_U_step_8, r_U_step_9, r_U_step_12, r_U_step_13, r_U_step_16, r_U_step_17, r_U_step_20, r_U_step_21, r_U_step_22, r_U_step_23, r_U_step_26, r_U_step_27, r_U_step_28, r_U_step_29, r_U_step_32, r_U_step_36, r_U_step_39, r_U_step_40, r_U_step_43, r_U_step_46, r_U_step_47, r_U_step_50, r_U_step_51, r_U_step_54, r_U_step_55, r_U_step_57, r_U_step_60, r_U_step_61, r_U_step_62, r_U_step_65, r_U_step_66, r_U_step_67, r_U_step_70, gq_279_0, gq_279_5, h1, h2, w32_gb, w32i, tn_add, tn_mul, Int.toNat_natCast, Int.toNat_zero, Int.reduceLE, Int.reduceLT, Int.reduceEq, Int.reduceNe, gb_T, gb_F, Int.reduceToNat, eq_self, true_or, or_true, and_true, true_and, and_self, ↓ite_gb0, ↓ite_gbn, ↓if_pos, ↓if_neg, if_true, if_false, not_true_eq_false, not_false_eq_true, gb_ne0, gb_eq0]
      exact x
  by_cases c1 : σ 279 4 = 1
  · rw [gb_t (Or.inl c1)] at mid
    simp (disch := first | assumption | exact gb_01 _ | omega) only [r_U_step_0, r_U_step_1, r_U_step_4, r_U_step_5, r_U_step_8, r_U_step_9, r_U_step_12, r_U_step_13, r_U_step_16, r_U_step_17, r_U_step_20, r_U_step_21, r_U_step_22, r_U_step_23, r_U_step_26, r_U_step_27, r_U_step_28, r_U_step_29, r_U_step_32, gq_279_0, gq_279_5, he, w32_gb, w32i, tn_add, tn_mul, Int.toNat_natCast, Int.toNat_zero, Int.reduceLE, Int.reduceLT, Int.reduceEq, Int.reduceNe, gb_T, gb_F, Int.reduceToNat, eq_self, true_or, or_true, and_true, true_and, and_self, ↓ite_gb0, ↓ite_gbn, ↓if_pos, ↓if_neg, if_true, if_false, not_true_eq_false, not_false_eq_true, gb_ne0, gb_eq0]
    exact mid
  · by_cases c2 : σ 279 4 = 2
    · rw [gb_t (Or.inr c2)] at mid
      simp (disch := first | assumption | exact gb_01 _ | omega) only [r_U_step_0, r_U_step_1, r_U_step_4, r_U_step_5, r_U_step_8, r_U_step_9, r_U_step_12, r_U_step_13, r_U_step_16, r_U_step_17, r_U_step_20, r_U_step_21, r_U_step_22, r_U_step_23, r_U_step_26, r_U_step_27, r_U_step_28, r_U_step_29, r_U_step_32, gq_279_0, gq_279_5, he, w32_gb, w32i, tn_add, tn_mul, Int.toNat_natCast, Int.toNat_zero, Int.reduceLE, Int.reduceLT, Int.reduceEq, Int.reduceNe, gb_T, gb_F, Int.reduceToNat, eq_self, true_or, or_true, and_true, true_and, and_self, ↓ite_gb0, ↓ite_gbn, ↓if_pos, ↓if_neg, if_true, if_false, not_true_eq_false, not_false_eq_true, gb_ne0, gb_eq0]
      exact mid
    · rw [gb_f (fun z => z.elim c1 c2)] at mid
      simp (disch := first | assumption | exact gb_01 _ | omega) only [r_U_step_0, r_U_step_1, r_U_step_4, r_U_step_5, r_U_step_8, r_U_step_9, r_U_step_12, r_U_step_13, r_U_step_16, r_U_step_17, r_U_step_20, r_U_step_21, r_U_step_22, r_U_step_23, r_U_step_26, r_U_step_27, r_U_step_28, r_U_step_29, r_U_step_32, gq_279_0, gq_279_5, he, w32_gb, w32i, tn_add, tn_mul, Int.toNat_natCast, Int.toNat_zero, Int.reduceLE, Int.reduceLT, Int.reduceEq, Int.reduceNe, gb_T, gb_F, Int.reduceToNat, eq_self, true_or, or_true, and_true, true_and, and_self, ↓ite_gb0, ↓ite_gbn, ↓if_pos, ↓if_neg, if_true, if_false, not_true_eq_false, not_false_eq_true, gb_ne0, gb_eq0]
      exact mid
