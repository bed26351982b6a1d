/-! Rules are worked out. -/
variable {L d : Nat} {σ σ1 : Nat → Nat → Int} {Q : Option gV → (Nat → Nat → Int) → Prop} {a0 a1 a2 a3 a4 a5 a6 a7 a8 a9 a10 a11 s0 s1 s2 s3 s4 s5 s6 s7 s8 s9 : Int} {l0 l1 l2 l3 l4 l5 l6 l7 l8 l9 l10 l11 t0 t1 t2 t3 t4 t5 t6 t7 t8 t9 : gV} {b0 b1 b2 b3 b4 b5 b6 b7 b8 b9 b10 b11 c0 c1 c2 c3 c4 c5 c6 c7 c8 c9 : Nat} {r : Option gV}
theorem sgn9 {v : Int} (h : gsgn v) (e : ¬ v = 33) : v = 124 ∨ v = 38 ∨ v = 60 ∨ v = 61 ∨ v = 62 ∨ v = 43 ∨ v = 45 ∨ v = 42 ∨ v = 47 := by
  unfold gsgn at h
  omega
theorem wls_0 {key a b c : Int} {w v : Nat → Int} {k : Nat} (e : w k = 0) : wls key a b c w v (k + 1) = v k :: wls key a b c w v k := if_pos e
theorem wls_1 {key a b c : Int} {w v : Nat → Int} {k : Nat} (e : w k = 1) : wls key a b c w v (k + 1) = wval key a b c (v k) :: wls key a b c w v k := by
  show (if w k = 0 then _ else _) = _
  rw [if_neg (by omega), if_pos e]
theorem wls_n {key a b c : Int} {w v : Nat → Int} {k : Nat} {x : Int} {r : List Int} (e : w k = 2) (e2 : v k = 33) (h : wls key a b c w v k = x :: r) : wls key a b c w v (k + 1) = gb (x = 0) :: r := by
  show (if w k = 0 then _ else _) = _
  rw [if_neg (by omega), if_neg (by omega), if_pos e2, h]
theorem wls_s {key a b c : Int} {w v : Nat → Int} {k : Nat} {x y : Int} {r : List Int} (e : w k = 2) (e2 : ¬ v k = 33) (h : wls key a b c w v k = y :: x :: r) : wls key a b c w v (k + 1) = gjn (v k) x y :: r := by
  show (if w k = 0 then _ else _) = _
  rw [if_neg (by omega), if_neg (by omega), if_neg e2, h]
theorem leaf_n {key a b c v : Int} (h : (gnm key v).isSome = true) : (if 10000 + (gnm key v).getD 0 = 10000 then a else if 10000 + (gnm key v).getD 0 = 10001 then b else if 10000 + (gnm key v).getD 0 = 10002 then c else 10000 + (gnm key v).getD 0) = wval key a b c v := by
  have := gnm_bd h
  unfold wval
  generalize (gnm key v).getD 0 = i at *
  repeat' split
  all_goals omega
theorem leaf_n2 {key a b c v : Int} (h : (gnm key v).isSome = true) : (if 10000 + (gnm key v).getD 0 = 10000 then a else if 10000 + (gnm key v).getD 0 = 10001 then b else c) = wval key a b c v := by
  have := gnm_bd h
  unfold wval
  generalize (gnm key v).getD 0 = i at *
  repeat' split
  all_goals omega
theorem r_C_work_0 : Wp L d k_C_work 0 [l0, l1, l2, l3, l4, l5, l6, l7] [] σ Q ↔ Wp L d k_C_work 1 [l0, l1, l2, l3, l4, l5, l6, l7] [vI 0] σ Q := wp_push rfl
theorem r_C_work_1 : Wp L d k_C_work 1 [l0, l1, l2, l3, vI a4, l5, l6, l7] [vI s0] σ Q ↔ Wp L d k_C_work 3 [l0, l1, l2, l3, vI a4, vI s0, l6, l7] [] σ Q := wp_istore (i := 5) (ls := [l0, l1, l2, l3, vI a4, l5, l6, l7]) rfl rfl
theorem r_C_work_3 : Wp L d k_C_work 3 [l0, l1, l2, l3, l4, l5, l6, l7] [] σ Q ↔ Wp L d k_C_work 4 [l0, l1, l2, l3, l4, l5, l6, l7] [vI 0] σ Q := wp_push rfl
theorem r_C_work_4 : Wp L d k_C_work 4 [l0, l1, l2, l3, l4, vI a5, l6, l7] [vI s0] σ Q ↔ Wp L d k_C_work 6 [l0, l1, l2, l3, l4, vI a5, vI s0, l7] [] σ Q := wp_istore (i := 6) (ls := [l0, l1, l2, l3, l4, vI a5, l6, l7]) rfl rfl
theorem r_C_work_6 : Wp L d k_C_work 6 [l0, l1, l2, l3, l4, l5, vI a6, l7] [] σ Q ↔ Wp L d k_C_work 8 [l0, l1, l2, l3, l4, l5, vI a6, l7] [vI a6] σ Q := wp_iload rfl rfl
theorem r_C_work_8 : Wp L d k_C_work 8 [vR b0, l1, l2, l3, l4, l5, l6, l7] [vI s0] σ Q ↔ Wp L d k_C_work 9 [vR b0, l1, l2, l3, l4, l5, l6, l7] [vR b0, vI s0] σ Q := wp_aload rfl rfl
theorem r_C_work_9 (h : gK c1 = 10) : Wp L d k_C_work 9 [l0, l1, l2, l3, l4, l5, l6, l7] [vR c1, vI s0] σ Q ↔ Wp L d k_C_work 12 [l0, l1, l2, l3, l4, l5, l6, l7] [vR (gq c1 1), vI s0] σ Q := wp_getR (c := 2689) rfl rfl rfl rfl rfl h
theorem r_C_work_12 : Wp L d k_C_work 12 [l0, vI a1, l2, l3, l4, l5, l6, l7] [vR c1, vI s0] σ Q ↔ Wp L d k_C_work 13 [l0, vI a1, l2, l3, l4, l5, l6, l7] [vI a1, vR c1, vI s0] σ Q := wp_iload rfl rfl
theorem r_C_work_13 (h : gK c1 = 100) (hx : 0 ≤ s2 ∧ s2 < gN c1) : Wp L d k_C_work 13 [l0, l1, l2, l3, l4, l5, l6, l7] [vI s2, vR c1, vI s0] σ Q ↔ Wp L d k_C_work 14 [l0, l1, l2, l3, l4, l5, l6, l7] [vI (σ c1 s2.toNat), vI s0] σ Q := wp_iald rfl h hx
theorem r_C_work_14 : Wp L d k_C_work 14 [l0, l1, l2, l3, l4, l5, l6, l7] [vI s1, vI s0] σ Q ↔ (if s1 ≤ s0 then Wp L d k_C_work 160 [l0, l1, l2, l3, l4, l5, l6, l7] [] σ Q else Wp L d k_C_work 17 [l0, l1, l2, l3, l4, l5, l6, l7] [] σ Q) := wp_cmp_ge rfl
theorem r_C_work_17 : Wp L d k_C_work 17 [vR b0, l1, l2, l3, l4, l5, l6, l7] [] σ Q ↔ Wp L d k_C_work 18 [vR b0, l1, l2, l3, l4, l5, l6, l7] [vR b0] σ Q := wp_aload rfl rfl
theorem r_C_work_18 (h : gK c0 = 10) : Wp L d k_C_work 18 [l0, l1, l2, l3, l4, l5, l6, l7] [vR c0] σ Q ↔ Wp L d k_C_work 21 [l0, l1, l2, l3, l4, l5, l6, l7] [vR (gq c0 0)] σ Q := wp_getR (c := 2688) rfl rfl rfl rfl rfl h
theorem r_C_work_21 : Wp L d k_C_work 21 [l0, vI a1, l2, l3, l4, l5, l6, l7] [vR c0] σ Q ↔ Wp L d k_C_work 22 [l0, vI a1, l2, l3, l4, l5, l6, l7] [vI a1, vR c0] σ Q := wp_iload rfl rfl
theorem r_C_work_22 (h : gK c0 = 102 ∨ gK c0 = 103) (hx : 0 ≤ s1 ∧ s1 < gN c0) : Wp L d k_C_work 22 [l0, l1, l2, l3, l4, l5, l6, l7] [vI s1, vR c0] σ Q ↔ Wp L d k_C_work 23 [l0, l1, l2, l3, l4, l5, l6, l7] [vR (gq c0 s1.toNat)] σ Q := wp_aald rfl h hx
theorem r_C_work_23 : Wp L d k_C_work 23 [l0, l1, l2, l3, l4, l5, vI a6, l7] [vR c0] σ Q ↔ Wp L d k_C_work 25 [l0, l1, l2, l3, l4, l5, vI a6, l7] [vI a6, vR c0] σ Q := wp_iload rfl rfl
theorem r_C_work_25 (h : gK c0 = 100) (hx : 0 ≤ s1 ∧ s1 < gN c0) : Wp L d k_C_work 25 [l0, l1, l2, l3, l4, l5, l6, l7] [vI s1, vR c0] σ Q ↔ Wp L d k_C_work 26 [l0, l1, l2, l3, l4, l5, l6, l7] [vI (σ c0 s1.toNat)] σ Q := wp_iald rfl h hx
theorem r_C_work_26 : Wp L d k_C_work 26 [l0, l1, l2, l3, l4, l5, vI a6, l7] [vI s0] σ Q ↔ Wp L d k_C_work 28 [l0, l1, l2, l3, l4, l5, vI a6, vI s0] [] σ Q := wp_istore (i := 7) (ls := [l0, l1, l2, l3, l4, l5, vI a6, l7]) rfl rfl
theorem r_C_work_28 : Wp L d k_C_work 28 [l0, l1, l2, l3, l4, l5, l6, vI a7] [] σ Q ↔ Wp L d k_C_work 30 [l0, l1, l2, l3, l4, l5, l6, vI a7] [vI a7] σ Q := wp_iload rfl rfl
theorem r_C_work_30 : Wp L d k_C_work 30 [l0, l1, l2, l3, l4, l5, l6, l7] [vI s0] σ Q ↔ Wp L d k_C_work 33 [l0, l1, l2, l3, l4, l5, l6, l7] [vI 20000, vI s0] σ Q := wp_push rfl
theorem r_C_work_33 : Wp L d k_C_work 33 [l0, l1, l2, l3, l4, l5, l6, l7] [vI s1, vI s0] σ Q ↔ (if s1 ≤ s0 then Wp L d k_C_work 65 [l0, l1, l2, l3, l4, l5, l6, l7] [] σ Q else Wp L d k_C_work 36 [l0, l1, l2, l3, l4, l5, l6, l7] [] σ Q) := wp_cmp_ge rfl
theorem r_C_work_36 : Wp L d k_C_work 36 [l0, l1, l2, l3, l4, vI a5, l6, l7] [] σ Q ↔ Wp L d k_C_work 38 [l0, l1, l2, l3, l4, vI a5, l6, l7] [vI a5] σ Q := wp_iload rfl rfl
theorem r_C_work_38 : Wp L d k_C_work 38 [l0, l1, l2, l3, l4, l5, l6, l7] [vI s0] σ Q ↔ Wp L d k_C_work 40 [l0, l1, l2, l3, l4, l5, l6, l7] [vI 96, vI s0] σ Q := wp_push rfl
theorem r_C_work_40 : Wp L d k_C_work 40 [l0, l1, l2, l3, l4, l5, l6, l7] [vI s1, vI s0] σ Q ↔ (if s1 ≤ s0 then Wp L d k_C_work 65 [l0, l1, l2, l3, l4, l5, l6, l7] [] σ Q else Wp L d k_C_work 43 [l0, l1, l2, l3, l4, l5, l6, l7] [] σ Q) := wp_cmp_ge rfl
theorem r_C_work_43 : Wp L d k_C_work 43 [vR b0, l1, l2, l3, l4, l5, l6, l7] [] σ Q ↔ Wp L d k_C_work 44 [vR b0, l1, l2, l3, l4, l5, l6, l7] [vR b0] σ Q := wp_aload rfl rfl
theorem r_C_work_44 (h : gK c0 = 10) : Wp L d k_C_work 44 [l0, l1, l2, l3, l4, l5, l6, l7] [vR c0] σ Q ↔ Wp L d k_C_work 47 [l0, l1, l2, l3, l4, l5, l6, l7] [vR (gq c0 5)] σ Q := wp_getR (c := 2693) rfl rfl rfl rfl rfl h
theorem r_C_work_47 : Wp L d k_C_work 47 [l0, l1, l2, l3, l4, vI a5, l6, l7] [vR c0] σ Q ↔ Wp L d k_C_work 49 [l0, l1, l2, l3, l4, vI a5, l6, l7] [vI a5, vR c0] σ Q := wp_iload rfl rfl
theorem r_C_work_49 : Wp L d k_C_work 49 [l0, l1, l2, l3, l4, l5, l6, vI a7] [vI s1, vR c0] σ Q ↔ Wp L d k_C_work 51 [l0, l1, l2, l3, l4, l5, l6, vI a7] [vI a7, vI s1, vR c0] σ Q := wp_iload rfl rfl
theorem r_C_work_51 : Wp L d k_C_work 51 [l0, l1, vI a2, l3, l4, l5, l6, l7] [vI s2, vI s1, vR c0] σ Q ↔ Wp L d k_C_work 52 [l0, l1, vI a2, l3, l4, l5, l6, l7] [vI a2, vI s2, vI s1, vR c0] σ Q := wp_iload rfl rfl
theorem r_C_work_52 : Wp L d k_C_work 52 [l0, l1, l2, vI a3, l4, l5, l6, l7] [vI s3, vI s2, vI s1, vR c0] σ Q ↔ Wp L d k_C_work 53 [l0, l1, l2, vI a3, l4, l5, l6, l7] [vI a3, vI s3, vI s2, vI s1, vR c0] σ Q := wp_iload rfl rfl
theorem r_C_work_53 : Wp L d k_C_work 53 [l0, l1, l2, l3, vI a4, l5, l6, l7] [vI s4, vI s3, vI s2, vI s1, vR c0] σ Q ↔ Wp L d k_C_work 55 [l0, l1, l2, l3, vI a4, l5, l6, l7] [vI a4, vI s4, vI s3, vI s2, vI s1, vR c0] σ Q := wp_iload rfl rfl
theorem r_C_work_58 (h : gK c0 = 100) (hx : 0 ≤ s1 ∧ s1 < gN c0) : Wp L d k_C_work 58 [l0, l1, l2, l3, l4, l5, l6, l7] [vI s2, vI s1, vR c0] σ Q ↔ Wp L d k_C_work 59 [l0, l1, l2, l3, l4, l5, l6, l7] [] (gupd σ c0 s1.toNat s2) Q := wp_iast rfl h hx
theorem r_C_work_59 : Wp L d k_C_work 59 [l0, l1, l2, l3, vI a4, vI a5, l6, l7] [] σ Q ↔ Wp L d k_C_work 62 [l0, l1, l2, l3, vI a4, vI (w32 (a5 + 1)), l6, l7] [] σ Q := wp_iinc (i := 5) (ls := [l0, l1, l2, l3, vI a4, vI a5, l6, l7]) rfl rfl
theorem r_C_work_62 : Wp L d k_C_work 62 [l0, l1, l2, l3, l4, l5, l6, l7] [] σ Q ↔ Wp L d k_C_work 154 [l0, l1, l2, l3, l4, l5, l6, l7] [] σ Q := wp_goto rfl
theorem r_C_work_65 : Wp L d k_C_work 65 [l0, l1, l2, l3, l4, l5, l6, vI a7] [] σ Q ↔ Wp L d k_C_work 67 [l0, l1, l2, l3, l4, l5, l6, vI a7] [vI a7] σ Q := wp_iload rfl rfl
theorem r_C_work_67 : Wp L d k_C_work 67 [l0, l1, l2, l3, l4, l5, l6, l7] [vI s0] σ Q ↔ Wp L d k_C_work 70 [l0, l1, l2, l3, l4, l5, l6, l7] [vI 20033, vI s0] σ Q := wp_push rfl
theorem r_C_work_70 : Wp L d k_C_work 70 [l0, l1, l2, l3, l4, l5, l6, l7] [vI s1, vI s0] σ Q ↔ (if s0 ≠ s1 then Wp L d k_C_work 111 [l0, l1, l2, l3, l4, l5, l6, l7] [] σ Q else Wp L d k_C_work 73 [l0, l1, l2, l3, l4, l5, l6, l7] [] σ Q) := wp_cmp_ne rfl
theorem r_C_work_73 : Wp L d k_C_work 73 [l0, l1, l2, l3, l4, vI a5, l6, l7] [] σ Q ↔ Wp L d k_C_work 75 [l0, l1, l2, l3, l4, vI a5, l6, l7] [vI a5] σ Q := wp_iload rfl rfl
theorem r_C_work_75 : Wp L d k_C_work 75 [l0, l1, l2, l3, l4, l5, l6, l7] [vI s0] σ Q ↔ Wp L d k_C_work 76 [l0, l1, l2, l3, l4, l5, l6, l7] [vI 1, vI s0] σ Q := wp_push rfl
theorem r_C_work_76 : Wp L d k_C_work 76 [l0, l1, l2, l3, l4, l5, l6, l7] [vI s1, vI s0] σ Q ↔ (if s0 < s1 then Wp L d k_C_work 111 [l0, l1, l2, l3, l4, l5, l6, l7] [] σ Q else Wp L d k_C_work 79 [l0, l1, l2, l3, l4, l5, l6, l7] [] σ Q) := wp_cmp_lt rfl
theorem r_C_work_79 : Wp L d k_C_work 79 [vR b0, l1, l2, l3, l4, l5, l6, l7] [] σ Q ↔ Wp L d k_C_work 80 [vR b0, l1, l2, l3, l4, l5, l6, l7] [vR b0] σ Q := wp_aload rfl rfl
theorem r_C_work_80 (h : gK c0 = 10) : Wp L d k_C_work 80 [l0, l1, l2, l3, l4, l5, l6, l7] [vR c0] σ Q ↔ Wp L d k_C_work 83 [l0, l1, l2, l3, l4, l5, l6, l7] [vR (gq c0 5)] σ Q := wp_getR (c := 2693) rfl rfl rfl rfl rfl h
theorem r_C_work_83 : Wp L d k_C_work 83 [l0, l1, l2, l3, l4, vI a5, l6, l7] [vR c0] σ Q ↔ Wp L d k_C_work 85 [l0, l1, l2, l3, l4, vI a5, l6, l7] [vI a5, vR c0] σ Q := wp_iload rfl rfl
theorem r_C_work_85 : Wp L d k_C_work 85 [l0, l1, l2, l3, l4, l5, l6, l7] [vI s1, vR c0] σ Q ↔ Wp L d k_C_work 86 [l0, l1, l2, l3, l4, l5, l6, l7] [vI 1, vI s1, vR c0] σ Q := wp_push rfl
theorem r_C_work_86 : Wp L d k_C_work 86 [l0, l1, l2, l3, l4, l5, l6, l7] [vI s2, vI s1, vR c0] σ Q ↔ Wp L d k_C_work 87 [l0, l1, l2, l3, l4, l5, l6, l7] [vI (w32 (s1 - s2)), vR c0] σ Q := wp_isub rfl
theorem r_C_work_87 : Wp L d k_C_work 87 [vR b0, l1, l2, l3, l4, l5, l6, l7] [vI s1, vR c0] σ Q ↔ Wp L d k_C_work 88 [vR b0, l1, l2, l3, l4, l5, l6, l7] [vR b0, vI s1, vR c0] σ Q := wp_aload rfl rfl
theorem r_C_work_88 (h : gK c2 = 10) : Wp L d k_C_work 88 [l0, l1, l2, l3, l4, l5, l6, l7] [vR c2, vI s1, vR c0] σ Q ↔ Wp L d k_C_work 91 [l0, l1, l2, l3, l4, l5, l6, l7] [vR (gq c2 5), vI s1, vR c0] σ Q := wp_getR (c := 2693) rfl rfl rfl rfl rfl h
theorem r_C_work_91 : Wp L d k_C_work 91 [l0, l1, l2, l3, l4, vI a5, l6, l7] [vR c2, vI s1, vR c0] σ Q ↔ Wp L d k_C_work 93 [l0, l1, l2, l3, l4, vI a5, l6, l7] [vI a5, vR c2, vI s1, vR c0] σ Q := wp_iload rfl rfl
theorem r_C_work_93 : Wp L d k_C_work 93 [l0, l1, l2, l3, l4, l5, l6, l7] [vI s3, vR c2, vI s1, vR c0] σ Q ↔ Wp L d k_C_work 94 [l0, l1, l2, l3, l4, l5, l6, l7] [vI 1, vI s3, vR c2, vI s1, vR c0] σ Q := wp_push rfl
theorem r_C_work_94 : Wp L d k_C_work 94 [l0, l1, l2, l3, l4, l5, l6, l7] [vI s4, vI s3, vR c2, vI s1, vR c0] σ Q ↔ Wp L d k_C_work 95 [l0, l1, l2, l3, l4, l5, l6, l7] [vI (w32 (s3 - s4)), vR c2, vI s1, vR c0] σ Q := wp_isub rfl
theorem r_C_work_95 (h : gK c2 = 100) (hx : 0 ≤ s3 ∧ s3 < gN c2) : Wp L d k_C_work 95 [l0, l1, l2, l3, l4, l5, l6, l7] [vI s3, vR c2, vI s1, vR c0] σ Q ↔ Wp L d k_C_work 96 [l0, l1, l2, l3, l4, l5, l6, l7] [vI (σ c2 s3.toNat), vI s1, vR c0] σ Q := wp_iald rfl h hx
theorem r_C_work_96 : Wp L d k_C_work 96 [l0, l1, l2, l3, l4, l5, l6, l7] [vI s2, vI s1, vR c0] σ Q ↔ (if s2 ≠ 0 then Wp L d k_C_work 103 [l0, l1, l2, l3, l4, l5, l6, l7] [vI s1, vR c0] σ Q else Wp L d k_C_work 99 [l0, l1, l2, l3, l4, l5, l6, l7] [vI s1, vR c0] σ Q) := wp_if_ne rfl
theorem r_C_work_99 : Wp L d k_C_work 99 [l0, l1, l2, l3, l4, l5, l6, l7] [vI s1, vR c0] σ Q ↔ Wp L d k_C_work 100 [l0, l1, l2, l3, l4, l5, l6, l7] [vI 1, vI s1, vR c0] σ Q := wp_push rfl
theorem r_C_work_100 : Wp L d k_C_work 100 [l0, l1, l2, l3, l4, l5, l6, l7] [vI s2, vI s1, vR c0] σ Q ↔ Wp L d k_C_work 104 [l0, l1, l2, l3, l4, l5, l6, l7] [vI s2, vI s1, vR c0] σ Q := wp_goto rfl
theorem r_C_work_103 : Wp L d k_C_work 103 [l0, l1, l2, l3, l4, l5, l6, l7] [vI s1, vR c0] σ Q ↔ Wp L d k_C_work 104 [l0, l1, l2, l3, l4, l5, l6, l7] [vI 0, vI s1, vR c0] σ Q := wp_push rfl
theorem r_C_work_107 (h : gK c0 = 100) (hx : 0 ≤ s1 ∧ s1 < gN c0) : Wp L d k_C_work 107 [l0, l1, l2, l3, l4, l5, l6, l7] [vI s2, vI s1, vR c0] σ Q ↔ Wp L d k_C_work 108 [l0, l1, l2, l3, l4, l5, l6, l7] [] (gupd σ c0 s1.toNat s2) Q := wp_iast rfl h hx
theorem r_C_work_108 : Wp L d k_C_work 108 [l0, l1, l2, l3, l4, l5, l6, l7] [] σ Q ↔ Wp L d k_C_work 154 [l0, l1, l2, l3, l4, l5, l6, l7] [] σ Q := wp_goto rfl
theorem r_C_work_111 : Wp L d k_C_work 111 [l0, l1, l2, l3, l4, vI a5, l6, l7] [] σ Q ↔ Wp L d k_C_work 113 [l0, l1, l2, l3, l4, vI a5, l6, l7] [vI a5] σ Q := wp_iload rfl rfl
theorem r_C_work_113 : Wp L d k_C_work 113 [l0, l1, l2, l3, l4, l5, l6, l7] [vI s0] σ Q ↔ Wp L d k_C_work 114 [l0, l1, l2, l3, l4, l5, l6, l7] [vI 2, vI s0] σ Q := wp_push rfl
theorem r_C_work_114 : Wp L d k_C_work 114 [l0, l1, l2, l3, l4, l5, l6, l7] [vI s1, vI s0] σ Q ↔ (if s0 < s1 then Wp L d k_C_work 154 [l0, l1, l2, l3, l4, l5, l6, l7] [] σ Q else Wp L d k_C_work 117 [l0, l1, l2, l3, l4, l5, l6, l7] [] σ Q) := wp_cmp_lt rfl
theorem r_C_work_117 : Wp L d k_C_work 117 [l0, l1, l2, l3, vI a4, vI a5, l6, l7] [] σ Q ↔ Wp L d k_C_work 120 [l0, l1, l2, l3, vI a4, vI (w32 (a5 + (-1))), l6, l7] [] σ Q := wp_iinc (i := 5) (ls := [l0, l1, l2, l3, vI a4, vI a5, l6, l7]) rfl rfl
theorem r_C_work_120 : Wp L d k_C_work 120 [vR b0, l1, l2, l3, l4, l5, l6, l7] [] σ Q ↔ Wp L d k_C_work 121 [vR b0, l1, l2, l3, l4, l5, l6, l7] [vR b0] σ Q := wp_aload rfl rfl
theorem r_C_work_121 (h : gK c0 = 10) : Wp L d k_C_work 121 [l0, l1, l2, l3, l4, l5, l6, l7] [vR c0] σ Q ↔ Wp L d k_C_work 124 [l0, l1, l2, l3, l4, l5, l6, l7] [vR (gq c0 5)] σ Q := wp_getR (c := 2693) rfl rfl rfl rfl rfl h
theorem r_C_work_124 : Wp L d k_C_work 124 [l0, l1, l2, l3, l4, vI a5, l6, l7] [vR c0] σ Q ↔ Wp L d k_C_work 126 [l0, l1, l2, l3, l4, vI a5, l6, l7] [vI a5, vR c0] σ Q := wp_iload rfl rfl
theorem r_C_work_126 : Wp L d k_C_work 126 [l0, l1, l2, l3, l4, l5, l6, l7] [vI s1, vR c0] σ Q ↔ Wp L d k_C_work 127 [l0, l1, l2, l3, l4, l5, l6, l7] [vI 1, vI s1, vR c0] σ Q := wp_push rfl
theorem r_C_work_127 : Wp L d k_C_work 127 [l0, l1, l2, l3, l4, l5, l6, l7] [vI s2, vI s1, vR c0] σ Q ↔ Wp L d k_C_work 128 [l0, l1, l2, l3, l4, l5, l6, l7] [vI (w32 (s1 - s2)), vR c0] σ Q := wp_isub rfl
theorem r_C_work_128 : Wp L d k_C_work 128 [l0, l1, l2, l3, l4, l5, l6, vI a7] [vI s1, vR c0] σ Q ↔ Wp L d k_C_work 130 [l0, l1, l2, l3, l4, l5, l6, vI a7] [vI a7, vI s1, vR c0] σ Q := wp_iload rfl rfl
theorem r_C_work_130 : Wp L d k_C_work 130 [l0, l1, l2, l3, l4, l5, l6, l7] [vI s2, vI s1, vR c0] σ Q ↔ Wp L d k_C_work 133 [l0, l1, l2, l3, l4, l5, l6, l7] [vI 20000, vI s2, vI s1, vR c0] σ Q := wp_push rfl
theorem r_C_work_133 : Wp L d k_C_work 133 [l0, l1, l2, l3, l4, l5, l6, l7] [vI s3, vI s2, vI s1, vR c0] σ Q ↔ Wp L d k_C_work 134 [l0, l1, l2, l3, l4, l5, l6, l7] [vI (w32 (s2 - s3)), vI s1, vR c0] σ Q := wp_isub rfl
theorem r_C_work_134 : Wp L d k_C_work 134 [vR b0, l1, l2, l3, l4, l5, l6, l7] [vI s2, vI s1, vR c0] σ Q ↔ Wp L d k_C_work 135 [vR b0, l1, l2, l3, l4, l5, l6, l7] [vR b0, vI s2, vI s1, vR c0] σ Q := wp_aload rfl rfl
theorem r_C_work_135 (h : gK c3 = 10) : Wp L d k_C_work 135 [l0, l1, l2, l3, l4, l5, l6, l7] [vR c3, vI s2, vI s1, vR c0] σ Q ↔ Wp L d k_C_work 138 [l0, l1, l2, l3, l4, l5, l6, l7] [vR (gq c3 5), vI s2, vI s1, vR c0] σ Q := wp_getR (c := 2693) rfl rfl rfl rfl rfl h
theorem r_C_work_138 : Wp L d k_C_work 138 [l0, l1, l2, l3, l4, vI a5, l6, l7] [vR c3, vI s2, vI s1, vR c0] σ Q ↔ Wp L d k_C_work 140 [l0, l1, l2, l3, l4, vI a5, l6, l7] [vI a5, vR c3, vI s2, vI s1, vR c0] σ Q := wp_iload rfl rfl
theorem r_C_work_140 : Wp L d k_C_work 140 [l0, l1, l2, l3, l4, l5, l6, l7] [vI s4, vR c3, vI s2, vI s1, vR c0] σ Q ↔ Wp L d k_C_work 141 [l0, l1, l2, l3, l4, l5, l6, l7] [vI 1, vI s4, vR c3, vI s2, vI s1, vR c0] σ Q := wp_push rfl
theorem r_C_work_141 : Wp L d k_C_work 141 [l0, l1, l2, l3, l4, l5, l6, l7] [vI s5, vI s4, vR c3, vI s2, vI s1, vR c0] σ Q ↔ Wp L d k_C_work 142 [l0, l1, l2, l3, l4, l5, l6, l7] [vI (w32 (s4 - s5)), vR c3, vI s2, vI s1, vR c0] σ Q := wp_isub rfl
theorem r_C_work_142 (h : gK c3 = 100) (hx : 0 ≤ s4 ∧ s4 < gN c3) : Wp L d k_C_work 142 [l0, l1, l2, l3, l4, l5, l6, l7] [vI s4, vR c3, vI s2, vI s1, vR c0] σ Q ↔ Wp L d k_C_work 143 [l0, l1, l2, l3, l4, l5, l6, l7] [vI (σ c3 s4.toNat), vI s2, vI s1, vR c0] σ Q := wp_iald rfl h hx
theorem r_C_work_143 : Wp L d k_C_work 143 [vR b0, l1, l2, l3, l4, l5, l6, l7] [vI s3, vI s2, vI s1, vR c0] σ Q ↔ Wp L d k_C_work 144 [vR b0, l1, l2, l3, l4, l5, l6, l7] [vR b0, vI s3, vI s2, vI s1, vR c0] σ Q := wp_aload rfl rfl
theorem r_C_work_144 (h : gK c4 = 10) : Wp L d k_C_work 144 [l0, l1, l2, l3, l4, l5, l6, l7] [vR c4, vI s3, vI s2, vI s1, vR c0] σ Q ↔ Wp L d k_C_work 147 [l0, l1, l2, l3, l4, l5, l6, l7] [vR (gq c4 5), vI s3, vI s2, vI s1, vR c0] σ Q := wp_getR (c := 2693) rfl rfl rfl rfl rfl h
theorem r_C_work_147 : Wp L d k_C_work 147 [l0, l1, l2, l3, l4, vI a5, l6, l7] [vR c4, vI s3, vI s2, vI s1, vR c0] σ Q ↔ Wp L d k_C_work 149 [l0, l1, l2, l3, l4, vI a5, l6, l7] [vI a5, vR c4, vI s3, vI s2, vI s1, vR c0] σ Q := wp_iload rfl rfl
theorem r_C_work_149 (h : gK c4 = 100) (hx : 0 ≤ s5 ∧ s5 < gN c4) : Wp L d k_C_work 149 [l0, l1, l2, l3, l4, l5, l6, l7] [vI s5, vR c4, vI s3, vI s2, vI s1, vR c0] σ Q ↔ Wp L d k_C_work 150 [l0, l1, l2, l3, l4, l5, l6, l7] [vI (σ c4 s5.toNat), vI s3, vI s2, vI s1, vR c0] σ Q := wp_iald rfl h hx
theorem r_C_work_153 (h : gK c0 = 100) (hx : 0 ≤ s1 ∧ s1 < gN c0) : Wp L d k_C_work 153 [l0, l1, l2, l3, l4, l5, l6, l7] [vI s2, vI s1, vR c0] σ Q ↔ Wp L d k_C_work 154 [l0, l1, l2, l3, l4, l5, l6, l7] [] (gupd σ c0 s1.toNat s2) Q := wp_iast rfl h hx
theorem r_C_work_154 : Wp L d k_C_work 154 [l0, l1, l2, l3, l4, vI a5, vI a6, l7] [] σ Q ↔ Wp L d k_C_work 157 [l0, l1, l2, l3, l4, vI a5, vI (w32 (a6 + 1)), l7] [] σ Q := wp_iinc (i := 6) (ls := [l0, l1, l2, l3, l4, vI a5, vI a6, l7]) rfl rfl
theorem r_C_work_157 : Wp L d k_C_work 157 [l0, l1, l2, l3, l4, l5, l6, l7] [] σ Q ↔ Wp L d k_C_work 6 [l0, l1, l2, l3, l4, l5, l6, l7] [] σ Q := wp_goto rfl
theorem r_C_work_160 : Wp L d k_C_work 160 [vR b0, l1, l2, l3, l4, l5, l6, l7] [] σ Q ↔ Wp L d k_C_work 161 [vR b0, l1, l2, l3, l4, l5, l6, l7] [vR b0] σ Q := wp_aload rfl rfl
theorem r_C_work_161 (h : gK c0 = 10) : Wp L d k_C_work 161 [l0, l1, l2, l3, l4, l5, l6, l7] [vR c0] σ Q ↔ Wp L d k_C_work 164 [l0, l1, l2, l3, l4, l5, l6, l7] [vR (gq c0 5)] σ Q := wp_getR (c := 2693) rfl rfl rfl rfl rfl h
theorem r_C_work_164 : Wp L d k_C_work 164 [l0, l1, l2, l3, l4, l5, l6, l7] [vR c0] σ Q ↔ Wp L d k_C_work 165 [l0, l1, l2, l3, l4, l5, l6, l7] [vI 0, vR c0] σ Q := wp_push rfl
theorem r_C_work_165 (h : gK c0 = 100) (hx : 0 ≤ s1 ∧ s1 < gN c0) : Wp L d k_C_work 165 [l0, l1, l2, l3, l4, l5, l6, l7] [vI s1, vR c0] σ Q ↔ Wp L d k_C_work 166 [l0, l1, l2, l3, l4, l5, l6, l7] [vI (σ c0 s1.toNat)] σ Q := wp_iald rfl h hx
theorem r_C_work_166 : Wp L d k_C_work 166 [l0, l1, l2, l3, l4, l5, l6, l7] [vI s0] σ Q ↔ Q (some (vI s0)) σ := wp_iret rfl
theorem r_C_work_55 (h : 0 ≤ s2 ∧ s2 ≤ 20000) : Wp L (d + 2) k_C_work 55 [l0, l1, l2, l3, l4, l5, l6, l7] [vI s5, vI s4, vI s3, vI s2, vI s1, vR c0] σ Q ↔ Wp L (d + 2) k_C_work 58 [l0, l1, l2, l3, l4, l5, l6, l7] [vI (if s2 = 10000 then s3 else if s2 = 10001 then s4 else if s2 = 10002 then s5 else s2), vI s1, vR c0] σ Q := wp_callR (d := d + 1) (as := [vI s2, vI s3, vI s4, vI s5]) (rest := [vI s1, vR c0]) rfl rfl rfl rfl rfl rfl rfl rfl (sp_C_leaf h)
theorem r_C_work_104 : Wp L (d + 2) k_C_work 104 [l0, l1, l2, l3, l4, l5, l6, l7] [vI s2, vI s1, vR c0] σ Q ↔ Wp L (d + 2) k_C_work 107 [l0, l1, l2, l3, l4, l5, l6, l7] [vI (gb (s2 ≠ 0)), vI s1, vR c0] σ Q := wp_callR (d := d + 1) (as := [vI s2]) (rest := [vI s1, vR c0]) rfl rfl rfl rfl rfl rfl rfl rfl (sp_X_bit)
theorem r_C_work_150 (h : s2 = 124 ∨ s2 = 38 ∨ s2 = 60 ∨ s2 = 61 ∨ s2 = 62 ∨ s2 = 43 ∨ s2 = 45 ∨ s2 = 42 ∨ s2 = 47) : Wp L (d + 2) k_C_work 150 [l0, l1, l2, l3, l4, l5, l6, l7] [vI s4, vI s3, vI s2, vI s1, vR c0] σ Q ↔ Wp L (d + 2) k_C_work 153 [l0, l1, l2, l3, l4, l5, l6, l7] [vI (gjn s2 s3 s4), vI s1, vR c0] σ Q := wp_callR (d := d + 1) (as := [vI s2, vI s3, vI s4]) (rest := [vI s1, vR c0]) rfl rfl rfl rfl rfl rfl rfl rfl (sp_C_join h)
theorem sp_C_work {f : Nat → Int} {t : Nat} (hw : WT f) (hc : CT 78 f σ) (ht : (t : Int) < f 2) : ∃ σ', Run L (d + 2) 181 [vR 78, vI (t : Int), vI a2, vI a3, vI a4] σ (some (vI (brwk f t a2 a3 a4))) σ' ∧ Agr σ σ' (fun k _ => k = 96) := by
  refine Run_ex (C' := k_C_work) rfl ?_
  show Wp L (d + 2) k_C_work 0 [vR 78, vI (t : Int), vI a2, vI a3, vI a4, vU, vU, vU] [] σ _
  obtain ⟨K78, t0, t1, t2, t3, t4, t5, K79, K92, K93, K94, K95, K96, N79, N92, N93, N94, N95, N96⟩ := litT
  have w1 := hw.1
  obtain ⟨k1, k2, k3, k4, hco⟩ := WTp hw ht
  obtain ⟨g1, g2, g3⟩ := gq79 (i := t) (by omega)
  simp only [r_C_work_0, r_C_work_1, r_C_work_3, r_C_work_4, r_C_work_8, r_C_work_9, r_C_work_12, r_C_work_13, r_C_work_14, r_C_work_17, r_C_work_18, r_C_work_21, r_C_work_22, r_C_work_23, r_C_work_25, r_C_work_26, r_C_work_28, r_C_work_30, r_C_work_33, r_C_work_36, r_C_work_38, r_C_work_40, r_C_work_43, r_C_work_44, r_C_work_47, r_C_work_49, r_C_work_51, r_C_work_52, r_C_work_53, r_C_work_55, r_C_work_58, r_C_work_59, r_C_work_62, r_C_work_65, r_C_work_67, r_C_work_70, r_C_work_73, r_C_work_75, r_C_work_76, r_C_work_79, r_C_work_80, r_C_work_83, r_C_work_85, r_C_work_86, r_C_work_87, r_C_work_88, r_C_work_91, r_C_work_93, r_C_work_94, r_C_work_95, r_C_work_96, r_C_work_99, r_C_work_100, r_C_work_103, r_C_work_104, r_C_work_107, r_C_work_108, r_C_work_111, r_C_work_113, r_C_work_114, r_C_work_117, r_C_work_120, r_C_work_121, r_C_work_124, r_C_work_126, r_C_work_127, r_C_work_128, r_C_work_130, r_C_work_133, r_C_work_134, r_C_work_135, r_C_work_138, r_C_work_140, r_C_work_141, r_C_work_142, r_C_work_143, r_C_work_144, r_C_work_147, r_C_work_149, r_C_work_150, r_C_work_153, r_C_work_154, r_C_work_157, r_C_work_160, r_C_work_161, r_C_work_164, r_C_work_165, r_C_work_166]
  refine wloop (n := (f (930 + 200 * t + 3)).toNat) (I := fun k ls τ => (∃ l, ls = [vR 78, vI (t : Int), vI a2, vI a3, vI a4, vI ((wls (f (930 + 200 * t)) a2 a3 a4 (gtw f t) (gtv f t) k).length : Nat), vI (k : Int), l]) ∧ rep (wls (f (930 + 200 * t)) a2 a3 a4 (gtw f t) (gtv f t) k) (τ 96) ∧ Agr σ τ (fun k _ => k = 96)) (fun k ls τ hk hi hq => ?_) (fun ls τ hi => ?_) (f (930 + 200 * t + 3)).toNat 0 (by omega) _ _ ⟨⟨_, rfl⟩, trivial, Agr_refl _ _⟩
  · obtain ⟨⟨l, rfl⟩, hrp, hA⟩ := hi
    obtain ⟨p1, p2, p3, p4, p5⟩ := CTp hc ht
    have cs : τ 92 t = f (930 + 200 * t + 3) := by rw [hA 92 t (by omega)]; exact p1
    have cc : τ (80 + t) k = gcd1 (f (930 + 200 * t)) (gtw f t k) (gtv f t k) := by rw [hA _ _ (by omega)]; exact p5 k (by omega)
    have hl := wls_len (a := a2) (b := a3) (c := a4) hco k (by omega)
    have hd := gdep_le (gtw f t) (gtv f t) k
    obtain ⟨h1, h2, h3⟩ := hco.1 k (by omega)
    have fin : ∀ (n : Int) (l : gV) (ρ : gMm), n = ((wls (f (930 + 200 * t)) a2 a3 a4 (gtw f t) (gtv f t) (k + 1)).length : Nat) → rep (wls (f (930 + 200 * t)) a2 a3 a4 (gtw f t) (gtv f t) (k + 1)) (ρ 96) → Agr σ ρ (fun k _ => k = 96) → Wp L (d + 2) k_C_work 6 [vR 78, vI (t : Int), vI a2, vI a3, vI a4, vI n, vI ((k : Int) + 1), l] [] ρ _ := fun n l ρ e hr hρ => hq _ _ ⟨⟨l, by rw [e, show (((k + 1 : Nat)) : Int) = (k : Int) + 1 by omega]⟩, hr, hρ⟩
    rw [r_C_work_6]
    rcases h1 with ⟨e, e1, e2⟩ | ⟨e, e1⟩ | ⟨e, e1⟩
    · have ec : gcd1 (f (930 + 200 * t)) (gtw f t k) (gtv f t k) = gtv f t k := by unfold gcd1; rw [if_pos e]
      rw [ec] at cc
      have lf : (if gtv f t k = 10000 then a2 else if gtv f t k = 10001 then a3 else if gtv f t k = 10002 then a4 else gtv f t k) = gtv f t k := by
        rw [if_neg (by omega), if_neg (by omega), if_neg (by omega)]
      simp (disch := first | assumption | exact gb_01 _ | omega) only [r_C_work_0, r_C_work_1, r_C_work_3, r_C_work_4, r_C_work_8, r_C_work_9, r_C_work_12, r_C_work_13, r_C_work_14, r_C_work_17, r_C_work_18, r_C_work_21, r_C_work_22, r_C_work_23, r_C_work_25, r_C_work_26, r_C_work_28, r_C_work_30, r_C_work_33, r_C_work_36, r_C_work_38, r_C_work_40, r_C_work_43, r_C_work_44, r_C_work_47, r_C_work_49, r_C_work_51, r_C_work_52, r_C_work_53, r_C_work_55, r_C_work_58, r_C_work_59, r_C_work_62, r_C_work_65, r_C_work_67, r_C_work_70, r_C_work_73, r_C_work_75, r_C_work_76, r_C_work_79, r_C_work_80, r_C_work_83, r_C_work_85, r_C_work_86, r_C_work_87, r_C_work_88, r_C_work_91, r_C_work_93, r_C_work_94, r_C_work_95, r_C_work_96, r_C_work_99, r_C_work_100, r_C_work_103, r_C_work_104, r_C_work_107, r_C_work_108, r_C_work_111, r_C_work_113, r_C_work_114, r_C_work_117, r_C_work_120, r_C_work_121, r_C_work_124, r_C_work_126, r_C_work_127, r_C_work_128, r_C_work_130, r_C_work_133, r_C_work_134, r_C_work_135, r_C_work_138, r_C_work_140, r_C_work_141, r_C_work_142, r_C_work_143, r_C_work_144, r_C_work_147, r_C_work_149, r_C_work_150, r_C_work_153, r_C_work_154, r_C_work_157, r_C_work_160, r_C_work_161, r_C_work_164, r_C_work_165, r_C_work_166, t0, t1, t2, t3, t4, t5, g1, cs, cc, lf, w32_gb, w32i, tn_add, tn_mul, Int.toNat_natCast, Int.toNat_zero, Int.reduceLE, Int.reduceLT, Int.reduceEq, Int.reduceNe, gb_T, gb_F, Int.reduceToNat, eq_self, true_or, or_true, and_true, true_and, and_self, ↓ite_gb0, ↓ite_gbn, ↓if_pos, ↓if_neg, if_true, if_false, not_true_eq_false, not_false_eq_true, gb_ne0, gb_eq0]
      refine fin _ _ _ ?_ ?_ (Agr_upd hA rfl)
      · rw [wls_0 e]
        simp only [List.length_cons]
        omega
      · rw [wls_0 e, gupd_fu]
        exact ⟨fu_eq, rep_fu _ (Nat.le_refl _) hrp⟩
    · have ec : gcd1 (f (930 + 200 * t)) (gtw f t k) (gtv f t k) = 10000 + (gnm (f (930 + 200 * t)) (gtv f t k)).getD 0 := by unfold gcd1; rw [if_neg (by omega), if_pos e]
      rw [ec] at cc
      have lf := leaf_n (a := a2) (b := a3) (c := a4) e1
      have nb := gnm_bd e1
      simp (disch := first | assumption | exact gb_01 _ | omega) only [r_C_work_0, r_C_work_1, r_C_work_3, r_C_work_4, r_C_work_8, r_C_work_9, r_C_work_12, r_C_work_13, r_C_work_14, r_C_work_17, r_C_work_18, r_C_work_21, r_C_work_22, r_C_work_23, r_C_work_25, r_C_work_26, r_C_work_28, r_C_work_30, r_C_work_33, r_C_work_36, r_C_work_38, r_C_work_40, r_C_work_43, r_C_work_44, r_C_work_47, r_C_work_49, r_C_work_51, r_C_work_52, r_C_work_53, r_C_work_55, r_C_work_58, r_C_work_59, r_C_work_62, r_C_work_65, r_C_work_67, r_C_work_70, r_C_work_73, r_C_work_75, r_C_work_76, r_C_work_79, r_C_work_80, r_C_work_83, r_C_work_85, r_C_work_86, r_C_work_87, r_C_work_88, r_C_work_91, r_C_work_93, r_C_work_94, r_C_work_95, r_C_work_96, r_C_work_99, r_C_work_100, r_C_work_103, r_C_work_104, r_C_work_107, r_C_work_108, r_C_work_111, r_C_work_113, r_C_work_114, r_C_work_117, r_C_work_120, r_C_work_121, r_C_work_124, r_C_work_126, r_C_work_127, r_C_work_128, r_C_work_130, r_C_work_133, r_C_work_134, r_C_work_135, r_C_work_138, r_C_work_140, r_C_work_141, r_C_work_142, r_C_work_143, r_C_work_144, r_C_work_147, r_C_work_149, r_C_work_150, r_C_work_153, r_C_work_154, r_C_work_157, r_C_work_160, r_C_work_161, r_C_work_164, r_C_work_165, r_C_work_166, t0, t1, t2, t3, t4, t5, g1, cs, cc, lf, w32_gb, w32i, tn_add, tn_mul, Int.toNat_natCast, Int.toNat_zero, Int.reduceLE, Int.reduceLT, Int.reduceEq, Int.reduceNe, gb_T, gb_F, Int.reduceToNat, eq_self, true_or, or_true, and_true, true_and, and_self, ↓ite_gb0, ↓ite_gbn, ↓if_pos, ↓if_neg, if_true, if_false, not_true_eq_false, not_false_eq_true, gb_ne0, gb_eq0]
      refine fin _ _ _ ?_ ?_ (Agr_upd hA rfl)
      · rw [wls_1 e]
        simp only [List.length_cons]
        omega
      · rw [wls_1 e, gupd_fu]
        exact ⟨by rw [fu_eq]; exact leaf_n2 e1, rep_fu _ (Nat.le_refl _) hrp⟩
    · have ec : gcd1 (f (930 + 200 * t)) (gtw f t k) (gtv f t k) = 20000 + gtv f t k := by unfold gcd1; rw [if_neg (by omega), if_neg (by omega)]
      rw [ec] at cc
      by_cases e2 : gtv f t k = 33
      · have z := h2 e e2
        cases hx : wls (f (930 + 200 * t)) a2 a3 a4 (gtw f t) (gtv f t) k with
        | nil => rw [hx] at hl; simp only [List.length_nil] at hl; omega
        | cons x r =>
          rw [hx] at hl hrp
          simp only [List.length_cons] at hl ⊢
          have hv : τ 96 r.length = x := hrp.1
          have et : (((r.length + 1 : Nat) : Int) - 1).toNat = r.length := by omega
          by_cases x0 : x = 0
          · simp (disch := first | assumption | exact gb_01 _ | omega) only [r_C_work_0, r_C_work_1, r_C_work_3, r_C_work_4, r_C_work_8, r_C_work_9, r_C_work_12, r_C_work_13, r_C_work_14, r_C_work_17, r_C_work_18, r_C_work_21, r_C_work_22, r_C_work_23, r_C_work_25, r_C_work_26, r_C_work_28, r_C_work_30, r_C_work_33, r_C_work_36, r_C_work_38, r_C_work_40, r_C_work_43, r_C_work_44, r_C_work_47, r_C_work_49, r_C_work_51, r_C_work_52, r_C_work_53, r_C_work_55, r_C_work_58, r_C_work_59, r_C_work_62, r_C_work_65, r_C_work_67, r_C_work_70, r_C_work_73, r_C_work_75, r_C_work_76, r_C_work_79, r_C_work_80, r_C_work_83, r_C_work_85, r_C_work_86, r_C_work_87, r_C_work_88, r_C_work_91, r_C_work_93, r_C_work_94, r_C_work_95, r_C_work_96, r_C_work_99, r_C_work_100, r_C_work_103, r_C_work_104, r_C_work_107, r_C_work_108, r_C_work_111, r_C_work_113, r_C_work_114, r_C_work_117, r_C_work_120, r_C_work_121, r_C_work_124, r_C_work_126, r_C_work_127, r_C_work_128, r_C_work_130, r_C_work_133, r_C_work_134, r_C_work_135, r_C_work_138, r_C_work_140, r_C_work_141, r_C_work_142, r_C_work_143, r_C_work_144, r_C_work_147, r_C_work_149, r_C_work_150, r_C_work_153, r_C_work_154, r_C_work_157, r_C_work_160, r_C_work_161, r_C_work_164, r_C_work_165, r_C_work_166, t0, t1, t2, t3, t4, t5, g1, cs, cc, et, hv, e2, w32_gb, w32i, tn_add, tn_mul, Int.toNat_natCast, Int.toNat_zero, Int.reduceLE, Int.reduceLT, Int.reduceEq, Int.reduceNe, gb_T, gb_F, Int.reduceToNat, eq_self, true_or, or_true, and_true, true_and, and_self, ↓ite_gb0, ↓ite_gbn, ↓if_pos, ↓if_neg, if_true, if_false, not_true_eq_false, not_false_eq_true, gb_ne0, gb_eq0]
            refine fin _ _ _ ?_ ?_ (Agr_upd hA rfl)
            · rw [wls_n e e2 hx]
              simp only [List.length_cons]
            · rw [wls_n e e2 hx, gupd_fu, gb_t x0]
              exact ⟨fu_eq, rep_fu _ (Nat.le_refl _) hrp.2⟩
          · simp (disch := first | assumption | exact gb_01 _ | omega) only [r_C_work_0, r_C_work_1, r_C_work_3, r_C_work_4, r_C_work_8, r_C_work_9, r_C_work_12, r_C_work_13, r_C_work_14, r_C_work_17, r_C_work_18, r_C_work_21, r_C_work_22, r_C_work_23, r_C_work_25, r_C_work_26, r_C_work_28, r_C_work_30, r_C_work_33, r_C_work_36, r_C_work_38, r_C_work_40, r_C_work_43, r_C_work_44, r_C_work_47, r_C_work_49, r_C_work_51, r_C_work_52, r_C_work_53, r_C_work_55, r_C_work_58, r_C_work_59, r_C_work_62, r_C_work_65, r_C_work_67, r_C_work_70, r_C_work_73, r_C_work_75, r_C_work_76, r_C_work_79, r_C_work_80, r_C_work_83, r_C_work_85, r_C_work_86, r_C_work_87, r_C_work_88, r_C_work_91, r_C_work_93, r_C_work_94, r_C_work_95, r_C_work_96, r_C_work_99, r_C_work_100, r_C_work_103, r_C_work_104, r_C_work_107, r_C_work_108, r_C_work_111, r_C_work_113, r_C_work_114, r_C_work_117, r_C_work_120, r_C_work_121, r_C_work_124, r_C_work_126, r_C_work_127, r_C_work_128, r_C_work_130, r_C_work_133, r_C_work_134, r_C_work_135, r_C_work_138, r_C_work_140, r_C_work_141, r_C_work_142, r_C_work_143, r_C_work_144, r_C_work_147, r_C_work_149, r_C_work_150, r_C_work_153, r_C_work_154, r_C_work_157, r_C_work_160, r_C_work_161, r_C_work_164, r_C_work_165, r_C_work_166, t0, t1, t2, t3, t4, t5, g1, cs, cc, et, hv, e2, w32_gb, w32i, tn_add, tn_mul, Int.toNat_natCast, Int.toNat_zero, Int.reduceLE, Int.reduceLT, Int.reduceEq, Int.reduceNe, gb_T, gb_F, Int.reduceToNat, eq_self, true_or, or_true, and_true, true_and, and_self, ↓ite_gb0, ↓ite_gbn, ↓if_pos, ↓if_neg, if_true, if_false, not_true_eq_false, not_false_eq_true, gb_ne0, gb_eq0]
            refine fin _ _ _ ?_ ?_ (Agr_upd hA rfl)
            · rw [wls_n e e2 hx]
              simp only [List.length_cons]
            · rw [wls_n e e2 hx, gupd_fu, gb_f x0]
              exact ⟨fu_eq, rep_fu _ (Nat.le_refl _) hrp.2⟩
      · have z := h3 e e2
        have sg := sgn9 e1 e2
        cases hx : wls (f (930 + 200 * t)) a2 a3 a4 (gtw f t) (gtv f t) k with
        | nil => rw [hx] at hl; simp only [List.length_nil] at hl; omega
        | cons y r =>
          cases r with
          | nil => rw [hx] at hl; simp only [List.length_cons, List.length_nil] at hl; omega
          | cons x r =>
            rw [hx] at hl hrp
            simp only [List.length_cons] at hl ⊢
            have hv : τ 96 (r.length + 1) = y := hrp.1
            have hv2 : τ 96 r.length = x := hrp.2.1
            have et0 : w32 (((r.length + 1 + 1 : Nat) : Int) + -1) = ((r.length + 1 : Nat) : Int) := by
              rw [w32i (by omega)]
              omega
            have et1 : (((r.length + 1 : Nat) : Int) - 1).toNat = r.length := by omega
            have es : w32 (20000 + gtv f t k - 20000) = gtv f t k := by
              rw [w32i (by omega)]
              omega
            simp (disch := first | assumption | exact gb_01 _ | omega) only [r_C_work_0, r_C_work_1, r_C_work_3, r_C_work_4, r_C_work_8, r_C_work_9, r_C_work_12, r_C_work_13, r_C_work_14, r_C_work_17, r_C_work_18, r_C_work_21, r_C_work_22, r_C_work_23, r_C_work_25, r_C_work_26, r_C_work_28, r_C_work_30, r_C_work_33, r_C_work_36, r_C_work_38, r_C_work_40, r_C_work_43, r_C_work_44, r_C_work_47, r_C_work_49, r_C_work_51, r_C_work_52, r_C_work_53, r_C_work_55, r_C_work_58, r_C_work_59, r_C_work_62, r_C_work_65, r_C_work_67, r_C_work_70, r_C_work_73, r_C_work_75, r_C_work_76, r_C_work_79, r_C_work_80, r_C_work_83, r_C_work_85, r_C_work_86, r_C_work_87, r_C_work_88, r_C_work_91, r_C_work_93, r_C_work_94, r_C_work_95, r_C_work_96, r_C_work_99, r_C_work_100, r_C_work_103, r_C_work_104, r_C_work_107, r_C_work_108, r_C_work_111, r_C_work_113, r_C_work_114, r_C_work_117, r_C_work_120, r_C_work_121, r_C_work_124, r_C_work_126, r_C_work_127, r_C_work_128, r_C_work_130, r_C_work_133, r_C_work_134, r_C_work_135, r_C_work_138, r_C_work_140, r_C_work_141, r_C_work_142, r_C_work_143, r_C_work_144, r_C_work_147, r_C_work_149, r_C_work_150, r_C_work_153, r_C_work_154, r_C_work_157, r_C_work_160, r_C_work_161, r_C_work_164, r_C_work_165, r_C_work_166, t0, t1, t2, t3, t4, t5, g1, cs, cc, et0, et1, hv, hv2, es, w32_gb, w32i, tn_add, tn_mul, Int.toNat_natCast, Int.toNat_zero, Int.reduceLE, Int.reduceLT, Int.reduceEq, Int.reduceNe, gb_T, gb_F, Int.reduceToNat, eq_self, true_or, or_true, and_true, true_and, and_self, ↓ite_gb0, ↓ite_gbn, ↓if_pos, ↓if_neg, if_true, if_false, not_true_eq_false, not_false_eq_true, gb_ne0, gb_eq0]
            refine fin _ _ _ ?_ ?_ (Agr_upd hA rfl)
            · rw [wls_s e e2 hx]
              simp only [List.length_cons]
            · rw [wls_s e e2 hx, gupd_fu]
              exact ⟨fu_eq, rep_fu _ (Nat.le_refl _) hrp.2.2⟩
  · obtain ⟨⟨l, rfl⟩, hrp, hA⟩ := hi
    obtain ⟨p1, p2, p3, p4, p5⟩ := CTp hc ht
    have cs : τ 92 t = f (930 + 200 * t + 3) := by rw [hA 92 t (by omega)]; exact p1
    have hl := wls_len (a := a2) (b := a3) (c := a4) hco (f (930 + 200 * t + 3)).toNat (by omega)
    rw [hco.2] at hl
    have hv : τ 96 0 = brwk f t a2 a3 a4 := by
      unfold brwk
      cases hx : wls (f (930 + 200 * t)) a2 a3 a4 (gtw f t) (gtv f t) (f (930 + 200 * t + 3)).toNat with
      | nil => rw [hx] at hl; simp only [List.length_nil] at hl; omega
      | cons x r =>
        rw [hx] at hl hrp
        simp only [List.length_cons] at hl
        have := hrp.1
        rw [show r.length = 0 by omega] at this
        exact this
    rw [r_C_work_6]
    simp (disch := first | assumption | exact gb_01 _ | omega) only [r_C_work_0, r_C_work_1, r_C_work_3, r_C_work_4, r_C_work_8, r_C_work_9, r_C_work_12, r_C_work_13, r_C_work_14, r_C_work_17, r_C_work_18, r_C_work_21, r_C_work_22, r_C_work_23, r_C_work_25, r_C_work_26, r_C_work_28, r_C_work_30, r_C_work_33, r_C_work_36, r_C_work_38, r_C_work_40, r_C_work_43, r_C_work_44, r_C_work_47, r_C_work_49, r_C_work_51, r_C_work_52, r_C_work_53, r_C_work_55, r_C_work_58, r_C_work_59, r_C_work_62, r_C_work_65, r_C_work_67, r_C_work_70, r_C_work_73, r_C_work_75, r_C_work_76, r_C_work_79, r_C_work_80, r_C_work_83, r_C_work_85, r_C_work_86, r_C_work_87, r_C_work_88, r_C_work_91, r_C_work_93, r_C_work_94, r_C_work_95, r_C_work_96, r_C_work_99, r_C_work_100, r_C_work_103, r_C_work_104, r_C_work_107, r_C_work_108, r_C_work_111, r_C_work_113, r_C_work_114, r_C_work_117, r_C_work_120, r_C_work_121, r_C_work_124, r_C_work_126, r_C_work_127, r_C_work_128, r_C_work_130, r_C_work_133, r_C_work_134, r_C_work_135, r_C_work_138, r_C_work_140, r_C_work_141, r_C_work_142, r_C_work_143, r_C_work_144, r_C_work_147, r_C_work_149, r_C_work_150, r_C_work_153, r_C_work_154, r_C_work_157, r_C_work_160, r_C_work_161, r_C_work_164, r_C_work_165, r_C_work_166, t0, t1, t2, t3, t4, t5, cs, hv, w32_gb, w32i, tn_add, tn_mul, Int.toNat_natCast, Int.toNat_zero, Int.reduceLE, Int.reduceLT, Int.reduceEq, Int.reduceNe, gb_T, gb_F, Int.reduceToNat, eq_self, true_or, or_true, and_true, true_and, and_self, ↓ite_gb0, ↓ite_gbn, ↓if_pos, ↓if_neg, if_true, if_false, not_true_eq_false, not_false_eq_true, gb_ne0, gb_eq0]
    exact hA
theorem r_S_ruleOf_0 : Wp L d k_S_ruleOf 0 [vR b0, l1, l2, l3, l4, l5] [] σ Q ↔ Wp L d k_S_ruleOf 1 [vR b0, l1, l2, l3, l4, l5] [vR b0] σ Q := wp_aload rfl rfl
theorem r_S_ruleOf_1 (h : gK c0 = 5) : Wp L d k_S_ruleOf 1 [l0, l1, l2, l3, l4, l5] [vR c0] σ Q ↔ Wp L d k_S_ruleOf 4 [l0, l1, l2, l3, l4, l5] [vR (gq c0 1)] σ Q := wp_getR (c := 1409) rfl rfl rfl rfl rfl h
theorem r_S_ruleOf_4 : Wp L d k_S_ruleOf 4 [l0, vI a1, l2, l3, l4, l5] [vR c0] σ Q ↔ Wp L d k_S_ruleOf 5 [l0, vI a1, l2, l3, l4, l5] [vI a1, vR c0] σ Q := wp_iload rfl rfl
theorem r_S_ruleOf_5 : Wp L d k_S_ruleOf 5 [vR b0, l1, l2, l3, l4, l5] [vI s1, vR c0] σ Q ↔ Wp L d k_S_ruleOf 6 [vR b0, l1, l2, l3, l4, l5] [vR b0, vI s1, vR c0] σ Q := wp_aload rfl rfl
theorem r_S_ruleOf_6 (h : gK c2 = 5) : Wp L d k_S_ruleOf 6 [l0, l1, l2, l3, l4, l5] [vR c2, vI s1, vR c0] σ Q ↔ Wp L d k_S_ruleOf 9 [l0, l1, l2, l3, l4, l5] [vI (σ c2 7), vI s1, vR c0] σ Q := wp_getI (c := 1287) rfl rfl rfl rfl h
theorem c_S_ruleOf_9 (hR : Run L d 179 [vR c0, vI s1, vI s2] σ r σ1) (h : gK c0 = 10) : Wp L (d + 1) k_S_ruleOf 9 [l0, l1, l2, l3, l4, l5] [vI s2, vI s1, vR c0] σ Q ↔ Wp L (d + 1) k_S_ruleOf 12 [l0, l1, l2, l3, l4, l5] (r.toList ++ []) σ1 Q := wp_callR (as := [vR c0, vI s1, vI s2]) (rest := []) rfl rfl rfl rfl rfl rfl rfl (grecv_k (by rw [h]) rfl) hR
theorem r_S_ruleOf_12 : Wp L d k_S_ruleOf 12 [l0, l1, l2, l3, vI a4, l5] [vI s0] σ Q ↔ Wp L d k_S_ruleOf 14 [l0, l1, l2, l3, vI a4, vI s0] [] σ Q := wp_istore (i := 5) (ls := [l0, l1, l2, l3, vI a4, l5]) rfl rfl
theorem r_S_ruleOf_14 : Wp L d k_S_ruleOf 14 [l0, l1, l2, l3, l4, vI a5] [] σ Q ↔ Wp L d k_S_ruleOf 16 [l0, l1, l2, l3, l4, vI a5] [vI a5] σ Q := wp_iload rfl rfl
theorem r_S_ruleOf_16 : Wp L d k_S_ruleOf 16 [l0, l1, l2, l3, l4, l5] [vI s0] σ Q ↔ Wp L d k_S_ruleOf 18 [l0, l1, l2, l3, l4, l5] [vI (-1000000005), vI s0] σ Q := wp_push rfl
theorem r_S_ruleOf_18 : Wp L d k_S_ruleOf 18 [l0, l1, l2, l3, l4, l5] [vI s1, vI s0] σ Q ↔ (if s0 ≠ s1 then Wp L d k_S_ruleOf 28 [l0, l1, l2, l3, l4, l5] [] σ Q else Wp L d k_S_ruleOf 21 [l0, l1, l2, l3, l4, l5] [] σ Q) := wp_cmp_ne rfl
theorem r_S_ruleOf_21 : Wp L d k_S_ruleOf 21 [l0, vI a1, l2, l3, l4, l5] [] σ Q ↔ Wp L d k_S_ruleOf 22 [l0, vI a1, l2, l3, l4, l5] [vI a1] σ Q := wp_iload rfl rfl
theorem r_S_ruleOf_25 : Wp L d k_S_ruleOf 25 [l0, l1, l2, l3, l4, l5] [vI s0] σ Q ↔ Wp L d k_S_ruleOf 41 [l0, l1, l2, l3, l4, l5] [vI s0] σ Q := wp_goto rfl
theorem r_S_ruleOf_28 : Wp L d k_S_ruleOf 28 [vR b0, l1, l2, l3, l4, l5] [] σ Q ↔ Wp L d k_S_ruleOf 29 [vR b0, l1, l2, l3, l4, l5] [vR b0] σ Q := wp_aload rfl rfl
theorem r_S_ruleOf_29 (h : gK c0 = 5) : Wp L d k_S_ruleOf 29 [l0, l1, l2, l3, l4, l5] [vR c0] σ Q ↔ Wp L d k_S_ruleOf 32 [l0, l1, l2, l3, l4, l5] [vR (gq c0 1)] σ Q := wp_getR (c := 1409) rfl rfl rfl rfl rfl h
theorem r_S_ruleOf_32 : Wp L d k_S_ruleOf 32 [l0, l1, l2, l3, l4, vI a5] [vR c0] σ Q ↔ Wp L d k_S_ruleOf 34 [l0, l1, l2, l3, l4, vI a5] [vI a5, vR c0] σ Q := wp_iload rfl rfl
theorem r_S_ruleOf_34 : Wp L d k_S_ruleOf 34 [l0, l1, vI a2, l3, l4, l5] [vI s1, vR c0] σ Q ↔ Wp L d k_S_ruleOf 35 [l0, l1, vI a2, l3, l4, l5] [vI a2, vI s1, vR c0] σ Q := wp_iload rfl rfl
theorem r_S_ruleOf_35 : Wp L d k_S_ruleOf 35 [l0, l1, l2, vI a3, l4, l5] [vI s2, vI s1, vR c0] σ Q ↔ Wp L d k_S_ruleOf 36 [l0, l1, l2, vI a3, l4, l5] [vI a3, vI s2, vI s1, vR c0] σ Q := wp_iload rfl rfl
theorem r_S_ruleOf_36 : Wp L d k_S_ruleOf 36 [l0, l1, l2, l3, vI a4, l5] [vI s3, vI s2, vI s1, vR c0] σ Q ↔ Wp L d k_S_ruleOf 38 [l0, l1, l2, l3, vI a4, l5] [vI a4, vI s3, vI s2, vI s1, vR c0] σ Q := wp_iload rfl rfl
theorem c_S_ruleOf_38 (hR : Run L d 181 [vR c0, vI s1, vI s2, vI s3, vI s4] σ r σ1) (h : gK c0 = 10) : Wp L (d + 1) k_S_ruleOf 38 [l0, l1, l2, l3, l4, l5] [vI s4, vI s3, vI s2, vI s1, vR c0] σ Q ↔ Wp L (d + 1) k_S_ruleOf 41 [l0, l1, l2, l3, l4, l5] (r.toList ++ []) σ1 Q := wp_callR (as := [vR c0, vI s1, vI s2, vI s3, vI s4]) (rest := []) rfl rfl rfl rfl rfl rfl rfl (grecv_k (by rw [h]) rfl) hR
theorem r_S_ruleOf_41 : Wp L d k_S_ruleOf 41 [l0, l1, l2, l3, l4, l5] [vI s0] σ Q ↔ Q (some (vI s0)) σ := wp_iret rfl
theorem r_S_ruleOf_22 : Wp L (d + 3) k_S_ruleOf 22 [l0, l1, l2, l3, l4, l5] [vI s0] σ Q ↔ Wp L (d + 3) k_S_ruleOf 25 [l0, l1, l2, l3, l4, l5] [vI (if s0 = 0 then 10 else if s0 = 1 then 99 else 0)] σ Q := wp_callR (d := d + 2) (as := [vI s0]) (rest := []) rfl rfl rfl rfl rfl rfl rfl rfl (sp_C_without)
theorem sp_S_ruleOf {f : Nat → Int} (hw : WT f) (hc : CT 78 f σ) (hm : σ 28 7 = f 7) : ∃ σ', Run L (d + 3) 135 [vR 28, vI a1, vI a2, vI a3, vI a4] σ (some (vI (brrl f a1 a2 a3 a4))) σ' ∧ Agr σ σ' (fun k _ => k = 96) := by
  refine Run_ex (C' := k_S_ruleOf) rfl ?_
  show Wp L (d + 3) k_S_ruleOf 0 [vR 28, vI a1, vI a2, vI a3, vI a4, vU] [] σ _
  obtain ⟨K27, K28, K29, K78, K97, K99, K109, K123, K125, K279, K282⟩ := litX
  have w1 := hw.1
  have hC := sp_C_counting (L := L) (d := d + 2) (a1 := a1) (a2 := σ 28 7) hw hc hm
  have x := brct_bd f a1 (f 2).toNat
  unfold brrl
  by_cases e : brct f a1 (f 2).toNat < 0
  · rw [show gnn (brct f a1 (f 2).toNat) = -1000000005 from if_pos e] at hC
    rw [if_pos e]
    simp (disch := first | assumption | exact gb_01 _ | omega) only [r_S_ruleOf_0, r_S_ruleOf_1, r_S_ruleOf_4, r_S_ruleOf_5, r_S_ruleOf_6, r_S_ruleOf_12, r_S_ruleOf_14, r_S_ruleOf_16, r_S_ruleOf_18, r_S_ruleOf_21, r_S_ruleOf_22, r_S_ruleOf_25, r_S_ruleOf_28, r_S_ruleOf_29, r_S_ruleOf_32, r_S_ruleOf_34, r_S_ruleOf_35, r_S_ruleOf_36, r_S_ruleOf_41, c_S_ruleOf_9 hC, Option.toList, List.singleton_append, List.cons_append, List.nil_append, List.append_nil, gq_27_0, gq_27_1, gq_27_2, gq_27_3, gq_27_4, gq_27_5, gq_27_6, gq_28_0, gq_28_1, gq_28_2, gq_28_3, gq_28_4, gq_28_5, gq_28_6, w32_gb, w32i, tn_add, tn_mul, Int.toNat_natCast, Int.toNat_zero, Int.reduceLE, Int.reduceLT, Int.reduceEq, Int.reduceNe, gb_T, gb_F, Int.reduceToNat, eq_self, true_or, or_true, and_true, true_and, and_self, ↓ite_gb0, ↓ite_gbn, ↓if_pos, ↓if_neg, if_true, if_false, not_true_eq_false, not_false_eq_true, gb_ne0, gb_eq0]
    exact Agr_refl _ _
  · rw [show gnn (brct f a1 (f 2).toNat) = brct f a1 (f 2).toNat from if_neg e] at hC
    obtain ⟨τ, hW, hA⟩ := sp_C_work (L := L) (d := d + 0) (t := (brct f a1 (f 2).toNat).toNat) (a2 := a2) (a3 := a3) (a4 := a4) hw hc (by omega)
    rw [show (((brct f a1 (f 2).toNat).toNat : Nat) : Int) = brct f a1 (f 2).toNat by omega] at hW
    rw [if_neg e]
    simp (disch := first | assumption | exact gb_01 _ | omega) only [r_S_ruleOf_0, r_S_ruleOf_1, r_S_ruleOf_4, r_S_ruleOf_5, r_S_ruleOf_6, r_S_ruleOf_12, r_S_ruleOf_14, r_S_ruleOf_16, r_S_ruleOf_18, r_S_ruleOf_21, r_S_ruleOf_22, r_S_ruleOf_25, r_S_ruleOf_28, r_S_ruleOf_29, r_S_ruleOf_32, r_S_ruleOf_34, r_S_ruleOf_35, r_S_ruleOf_36, r_S_ruleOf_41, c_S_ruleOf_9 hC, c_S_ruleOf_38 hW, Option.toList, List.singleton_append, List.cons_append, List.nil_append, List.append_nil, gq_27_0, gq_27_1, gq_27_2, gq_27_3, gq_27_4, gq_27_5, gq_27_6, gq_28_0, gq_28_1, gq_28_2, gq_28_3, gq_28_4, gq_28_5, gq_28_6, w32_gb, w32i, tn_add, tn_mul, Int.toNat_natCast, Int.toNat_zero, Int.reduceLE, Int.reduceLT, Int.reduceEq, Int.reduceNe, gb_T, gb_F, Int.reduceToNat, eq_self, true_or, or_true, and_true, true_and, and_self, ↓ite_gb0, ↓ite_gbn, ↓if_pos, ↓if_neg, if_true, if_false, not_true_eq_false, not_false_eq_true, gb_ne0, gb_eq0]
    exact hA
theorem r_M_worked_0 : Wp L d k_M_worked 0 [l0, l1, l2, l3, l4, l5] [] σ Q ↔ Wp L d k_M_worked 1 [l0, l1, l2, l3, l4, l5] [vI 0] σ Q := wp_push rfl
theorem r_M_worked_1 : Wp L d k_M_worked 1 [l0, vI a1, l2, l3, l4, l5] [vI s0] σ Q ↔ Wp L d k_M_worked 2 [l0, vI a1, vI s0, l3, l4, l5] [] σ Q := wp_istore (i := 2) (ls := [l0, vI a1, l2, l3, l4, l5]) rfl rfl
theorem r_M_worked_2 : Wp L d k_M_worked 2 [l0, l1, l2, l3, l4, l5] [] σ Q ↔ Wp L d k_M_worked 3 [l0, l1, l2, l3, l4, l5] [vI 0] σ Q := wp_push rfl
theorem r_M_worked_3 : Wp L d k_M_worked 3 [l0, l1, vI a2, l3, l4, l5] [vI s0] σ Q ↔ Wp L d k_M_worked 4 [l0, l1, vI a2, vI s0, l4, l5] [] σ Q := wp_istore (i := 3) (ls := [l0, l1, vI a2, l3, l4, l5]) rfl rfl
theorem r_M_worked_4 : Wp L d k_M_worked 4 [l0, l1, l2, vI a3, l4, l5] [] σ Q ↔ Wp L d k_M_worked 5 [l0, l1, l2, vI a3, l4, l5] [vI a3] σ Q := wp_iload rfl rfl
theorem r_M_worked_5 : Wp L d k_M_worked 5 [vR b0, l1, l2, l3, l4, l5] [vI s0] σ Q ↔ Wp L d k_M_worked 6 [vR b0, l1, l2, l3, l4, l5] [vR b0, vI s0] σ Q := wp_aload rfl rfl
theorem r_M_worked_6 (h : gK c1 = 12) : Wp L d k_M_worked 6 [l0, l1, l2, l3, l4, l5] [vR c1, vI s0] σ Q ↔ Wp L d k_M_worked 9 [l0, l1, l2, l3, l4, l5] [vR (gq c1 0), vI s0] σ Q := wp_getR (c := 3200) rfl rfl rfl rfl rfl h
theorem r_M_worked_9 : Wp L d k_M_worked 9 [vR b0, l1, l2, l3, l4, l5] [vR c1, vI s0] σ Q ↔ Wp L d k_M_worked 10 [vR b0, l1, l2, l3, l4, l5] [vR b0, vR c1, vI s0] σ Q := wp_aload rfl rfl
theorem r_M_worked_10 : Wp L d k_M_worked 10 [l0, vI a1, l2, l3, l4, l5] [vR c2, vR c1, vI s0] σ Q ↔ Wp L d k_M_worked 11 [l0, vI a1, l2, l3, l4, l5] [vI a1, vR c2, vR c1, vI s0] σ Q := wp_iload rfl rfl
theorem r_M_worked_14 : Wp L d k_M_worked 14 [l0, l1, l2, l3, l4, l5] [vI s2, vR c1, vI s0] σ Q ↔ Wp L d k_M_worked 15 [l0, l1, l2, l3, l4, l5] [vI 3, vI s2, vR c1, vI s0] σ Q := wp_push rfl
theorem r_M_worked_15 : Wp L d k_M_worked 15 [l0, l1, l2, l3, l4, l5] [vI s3, vI s2, vR c1, vI s0] σ Q ↔ Wp L d k_M_worked 16 [l0, l1, l2, l3, l4, l5] [vI (w32 (s2 + s3)), vR c1, vI s0] σ Q := wp_iadd rfl
theorem r_M_worked_16 (h : gK c1 = 100) (hx : 0 ≤ s2 ∧ s2 < gN c1) : Wp L d k_M_worked 16 [l0, l1, l2, l3, l4, l5] [vI s2, vR c1, vI s0] σ Q ↔ Wp L d k_M_worked 17 [l0, l1, l2, l3, l4, l5] [vI (σ c1 s2.toNat), vI s0] σ Q := wp_iald rfl h hx
theorem r_M_worked_17 : Wp L d k_M_worked 17 [l0, l1, l2, l3, l4, l5] [vI s1, vI s0] σ Q ↔ (if s1 ≤ s0 then Wp L d k_M_worked 163 [l0, l1, l2, l3, l4, l5] [] σ Q else Wp L d k_M_worked 20 [l0, l1, l2, l3, l4, l5] [] σ Q) := wp_cmp_ge rfl
theorem r_M_worked_20 : Wp L d k_M_worked 20 [vR b0, l1, l2, l3, l4, l5] [] σ Q ↔ Wp L d k_M_worked 21 [vR b0, l1, l2, l3, l4, l5] [vR b0] σ Q := wp_aload rfl rfl
theorem r_M_worked_21 (h : gK c0 = 12) : Wp L d k_M_worked 21 [l0, l1, l2, l3, l4, l5] [vR c0] σ Q ↔ Wp L d k_M_worked 24 [l0, l1, l2, l3, l4, l5] [vR (gq c0 0)] σ Q := wp_getR (c := 3200) rfl rfl rfl rfl rfl h
theorem r_M_worked_24 : Wp L d k_M_worked 24 [vR b0, l1, l2, l3, l4, l5] [vR c0] σ Q ↔ Wp L d k_M_worked 25 [vR b0, l1, l2, l3, l4, l5] [vR b0, vR c0] σ Q := wp_aload rfl rfl
theorem r_M_worked_25 : Wp L d k_M_worked 25 [l0, vI a1, l2, l3, l4, l5] [vR c1, vR c0] σ Q ↔ Wp L d k_M_worked 26 [l0, vI a1, l2, l3, l4, l5] [vI a1, vR c1, vR c0] σ Q := wp_iload rfl rfl
theorem r_M_worked_29 : Wp L d k_M_worked 29 [l0, l1, l2, l3, l4, l5] [vI s1, vR c0] σ Q ↔ Wp L d k_M_worked 30 [l0, l1, l2, l3, l4, l5] [vI 4, vI s1, vR c0] σ Q := wp_push rfl
theorem r_M_worked_30 : Wp L d k_M_worked 30 [l0, l1, l2, l3, l4, l5] [vI s2, vI s1, vR c0] σ Q ↔ Wp L d k_M_worked 31 [l0, l1, l2, l3, l4, l5] [vI (w32 (s1 + s2)), vR c0] σ Q := wp_iadd rfl
theorem r_M_worked_31 : Wp L d k_M_worked 31 [l0, l1, l2, l3, l4, l5] [vI s1, vR c0] σ Q ↔ Wp L d k_M_worked 32 [l0, l1, l2, l3, l4, l5] [vI 2, vI s1, vR c0] σ Q := wp_push rfl
theorem r_M_worked_32 : Wp L d k_M_worked 32 [l0, l1, l2, vI a3, l4, l5] [vI s2, vI s1, vR c0] σ Q ↔ Wp L d k_M_worked 33 [l0, l1, l2, vI a3, l4, l5] [vI a3, vI s2, vI s1, vR c0] σ Q := wp_iload rfl rfl
theorem r_M_worked_33 : Wp L d k_M_worked 33 [l0, l1, l2, l3, l4, l5] [vI s3, vI s2, vI s1, vR c0] σ Q ↔ Wp L d k_M_worked 34 [l0, l1, l2, l3, l4, l5] [vI (w32 (s2 * s3)), vI s1, vR c0] σ Q := wp_imul rfl
theorem r_M_worked_34 : Wp L d k_M_worked 34 [l0, l1, l2, l3, l4, l5] [vI s2, vI s1, vR c0] σ Q ↔ Wp L d k_M_worked 35 [l0, l1, l2, l3, l4, l5] [vI (w32 (s1 + s2)), vR c0] σ Q := wp_iadd rfl
theorem r_M_worked_35 (h : gK c0 = 100) (hx : 0 ≤ s1 ∧ s1 < gN c0) : Wp L d k_M_worked 35 [l0, l1, l2, l3, l4, l5] [vI s1, vR c0] σ Q ↔ Wp L d k_M_worked 36 [l0, l1, l2, l3, l4, l5] [vI (σ c0 s1.toNat)] σ Q := wp_iald rfl h hx
theorem r_M_worked_36 : Wp L d k_M_worked 36 [l0, l1, l2, vI a3, l4, l5] [vI s0] σ Q ↔ Wp L d k_M_worked 38 [l0, l1, l2, vI a3, vI s0, l5] [] σ Q := wp_istore (i := 4) (ls := [l0, l1, l2, vI a3, l4, l5]) rfl rfl
theorem r_M_worked_38 : Wp L d k_M_worked 38 [vR b0, l1, l2, l3, l4, l5] [] σ Q ↔ Wp L d k_M_worked 39 [vR b0, l1, l2, l3, l4, l5] [vR b0] σ Q := wp_aload rfl rfl
theorem r_M_worked_39 (h : gK c0 = 12) : Wp L d k_M_worked 39 [l0, l1, l2, l3, l4, l5] [vR c0] σ Q ↔ Wp L d k_M_worked 42 [l0, l1, l2, l3, l4, l5] [vR (gq c0 0)] σ Q := wp_getR (c := 3200) rfl rfl rfl rfl rfl h
theorem r_M_worked_42 : Wp L d k_M_worked 42 [vR b0, l1, l2, l3, l4, l5] [vR c0] σ Q ↔ Wp L d k_M_worked 43 [vR b0, l1, l2, l3, l4, l5] [vR b0, vR c0] σ Q := wp_aload rfl rfl
theorem r_M_worked_43 : Wp L d k_M_worked 43 [l0, vI a1, l2, l3, l4, l5] [vR c1, vR c0] σ Q ↔ Wp L d k_M_worked 44 [l0, vI a1, l2, l3, l4, l5] [vI a1, vR c1, vR c0] σ Q := wp_iload rfl rfl
theorem r_M_worked_47 : Wp L d k_M_worked 47 [l0, l1, l2, l3, l4, l5] [vI s1, vR c0] σ Q ↔ Wp L d k_M_worked 48 [l0, l1, l2, l3, l4, l5] [vI 4, vI s1, vR c0] σ Q := wp_push rfl
theorem r_M_worked_48 : Wp L d k_M_worked 48 [l0, l1, l2, l3, l4, l5] [vI s2, vI s1, vR c0] σ Q ↔ Wp L d k_M_worked 49 [l0, l1, l2, l3, l4, l5] [vI (w32 (s1 + s2)), vR c0] σ Q := wp_iadd rfl
theorem r_M_worked_49 : Wp L d k_M_worked 49 [l0, l1, l2, l3, l4, l5] [vI s1, vR c0] σ Q ↔ Wp L d k_M_worked 50 [l0, l1, l2, l3, l4, l5] [vI 2, vI s1, vR c0] σ Q := wp_push rfl
theorem r_M_worked_50 : Wp L d k_M_worked 50 [l0, l1, l2, vI a3, l4, l5] [vI s2, vI s1, vR c0] σ Q ↔ Wp L d k_M_worked 51 [l0, l1, l2, vI a3, l4, l5] [vI a3, vI s2, vI s1, vR c0] σ Q := wp_iload rfl rfl
theorem r_M_worked_51 : Wp L d k_M_worked 51 [l0, l1, l2, l3, l4, l5] [vI s3, vI s2, vI s1, vR c0] σ Q ↔ Wp L d k_M_worked 52 [l0, l1, l2, l3, l4, l5] [vI (w32 (s2 * s3)), vI s1, vR c0] σ Q := wp_imul rfl
theorem r_M_worked_52 : Wp L d k_M_worked 52 [l0, l1, l2, l3, l4, l5] [vI s2, vI s1, vR c0] σ Q ↔ Wp L d k_M_worked 53 [l0, l1, l2, l3, l4, l5] [vI (w32 (s1 + s2)), vR c0] σ Q := wp_iadd rfl
theorem r_M_worked_53 : Wp L d k_M_worked 53 [l0, l1, l2, l3, l4, l5] [vI s1, vR c0] σ Q ↔ Wp L d k_M_worked 54 [l0, l1, l2, l3, l4, l5] [vI 1, vI s1, vR c0] σ Q := wp_push rfl
theorem r_M_worked_54 : Wp L d k_M_worked 54 [l0, l1, l2, l3, l4, l5] [vI s2, vI s1, vR c0] σ Q ↔ Wp L d k_M_worked 55 [l0, l1, l2, l3, l4, l5] [vI (w32 (s1 + s2)), vR c0] σ Q := wp_iadd rfl
theorem r_M_worked_55 (h : gK c0 = 100) (hx : 0 ≤ s1 ∧ s1 < gN c0) : Wp L d k_M_worked 55 [l0, l1, l2, l3, l4, l5] [vI s1, vR c0] σ Q ↔ Wp L d k_M_worked 56 [l0, l1, l2, l3, l4, l5] [vI (σ c0 s1.toNat)] σ Q := wp_iald rfl h hx
theorem r_M_worked_56 : Wp L d k_M_worked 56 [l0, l1, l2, l3, vI a4, l5] [vI s0] σ Q ↔ Wp L d k_M_worked 58 [l0, l1, l2, l3, vI a4, vI s0] [] σ Q := wp_istore (i := 5) (ls := [l0, l1, l2, l3, vI a4, l5]) rfl rfl
theorem r_M_worked_58 : Wp L d k_M_worked 58 [l0, l1, l2, l3, vI a4, l5] [] σ Q ↔ Wp L d k_M_worked 60 [l0, l1, l2, l3, vI a4, l5] [vI a4] σ Q := wp_iload rfl rfl
theorem r_M_worked_60 : Wp L d k_M_worked 60 [l0, l1, l2, l3, l4, l5] [vI s0] σ Q ↔ Wp L d k_M_worked 61 [l0, l1, l2, l3, l4, l5] [vI 2, vI s0] σ Q := wp_push rfl
theorem r_M_worked_61 : Wp L d k_M_worked 61 [l0, l1, l2, l3, l4, l5] [vI s1, vI s0] σ Q ↔ (if s0 = s1 then Wp L d k_M_worked 93 [l0, l1, l2, l3, l4, l5] [] σ Q else Wp L d k_M_worked 64 [l0, l1, l2, l3, l4, l5] [] σ Q) := wp_cmp_eq rfl
theorem r_M_worked_64 : Wp L d k_M_worked 64 [vR b0, l1, l2, l3, l4, l5] [] σ Q ↔ Wp L d k_M_worked 65 [vR b0, l1, l2, l3, l4, l5] [vR b0] σ Q := wp_aload rfl rfl
theorem r_M_worked_65 (h : gK c0 = 12) : Wp L d k_M_worked 65 [l0, l1, l2, l3, l4, l5] [vR c0] σ Q ↔ Wp L d k_M_worked 68 [l0, l1, l2, l3, l4, l5] [vR (gq c0 21)] σ Q := wp_getR (c := 3221) rfl rfl rfl rfl rfl h
theorem r_M_worked_68 : Wp L d k_M_worked 68 [l0, l1, vI a2, l3, l4, l5] [vR c0] σ Q ↔ Wp L d k_M_worked 69 [l0, l1, vI a2, l3, l4, l5] [vI a2, vR c0] σ Q := wp_iload rfl rfl
theorem r_M_worked_69 : Wp L d k_M_worked 69 [l0, l1, l2, l3, vI a4, l5] [vI s1, vR c0] σ Q ↔ Wp L d k_M_worked 71 [l0, l1, l2, l3, vI a4, l5] [vI a4, vI s1, vR c0] σ Q := wp_iload rfl rfl
theorem r_M_worked_71 : Wp L d k_M_worked 71 [l0, l1, l2, l3, l4, l5] [vI s2, vI s1, vR c0] σ Q ↔ (if s2 ≠ 0 then Wp L d k_M_worked 79 [l0, l1, l2, l3, l4, l5] [vI s1, vR c0] σ Q else Wp L d k_M_worked 74 [l0, l1, l2, l3, l4, l5] [vI s1, vR c0] σ Q) := wp_if_ne rfl
theorem r_M_worked_74 : Wp L d k_M_worked 74 [l0, l1, l2, l3, l4, vI a5] [vI s1, vR c0] σ Q ↔ Wp L d k_M_worked 76 [l0, l1, l2, l3, l4, vI a5] [vI a5, vI s1, vR c0] σ Q := wp_iload rfl rfl
theorem r_M_worked_76 : Wp L d k_M_worked 76 [l0, l1, l2, l3, l4, l5] [vI s2, vI s1, vR c0] σ Q ↔ Wp L d k_M_worked 86 [l0, l1, l2, l3, l4, l5] [vI s2, vI s1, vR c0] σ Q := wp_goto rfl
theorem r_M_worked_79 : Wp L d k_M_worked 79 [vR b0, l1, l2, l3, l4, l5] [vI s1, vR c0] σ Q ↔ Wp L d k_M_worked 80 [vR b0, l1, l2, l3, l4, l5] [vR b0, vI s1, vR c0] σ Q := wp_aload rfl rfl
theorem r_M_worked_80 (h : gK c2 = 12) : Wp L d k_M_worked 80 [l0, l1, l2, l3, l4, l5] [vR c2, vI s1, vR c0] σ Q ↔ Wp L d k_M_worked 83 [l0, l1, l2, l3, l4, l5] [vR (gq c2 20), vI s1, vR c0] σ Q := wp_getR (c := 3220) rfl rfl rfl rfl rfl h
theorem r_M_worked_83 : Wp L d k_M_worked 83 [l0, l1, l2, l3, l4, vI a5] [vR c2, vI s1, vR c0] σ Q ↔ Wp L d k_M_worked 85 [l0, l1, l2, l3, l4, vI a5] [vI a5, vR c2, vI s1, vR c0] σ Q := wp_iload rfl rfl
theorem r_M_worked_85 (h : gK c2 = 100) (hx : 0 ≤ s3 ∧ s3 < gN c2) : Wp L d k_M_worked 85 [l0, l1, l2, l3, l4, l5] [vI s3, vR c2, vI s1, vR c0] σ Q ↔ Wp L d k_M_worked 86 [l0, l1, l2, l3, l4, l5] [vI (σ c2 s3.toNat), vI s1, vR c0] σ Q := wp_iald rfl h hx
theorem r_M_worked_86 (h : gK c0 = 100) (hx : 0 ≤ s1 ∧ s1 < gN c0) : Wp L d k_M_worked 86 [l0, l1, l2, l3, l4, l5] [vI s2, vI s1, vR c0] σ Q ↔ Wp L d k_M_worked 87 [l0, l1, l2, l3, l4, l5] [] (gupd σ c0 s1.toNat s2) Q := wp_iast rfl h hx
theorem r_M_worked_87 : Wp L d k_M_worked 87 [l0, vI a1, vI a2, l3, l4, l5] [] σ Q ↔ Wp L d k_M_worked 90 [l0, vI a1, vI (w32 (a2 + 1)), l3, l4, l5] [] σ Q := wp_iinc (i := 2) (ls := [l0, vI a1, vI a2, l3, l4, l5]) rfl rfl
theorem r_M_worked_90 : Wp L d k_M_worked 90 [l0, l1, l2, l3, l4, l5] [] σ Q ↔ Wp L d k_M_worked 157 [l0, l1, l2, l3, l4, l5] [] σ Q := wp_goto rfl
theorem r_M_worked_93 : Wp L d k_M_worked 93 [l0, l1, l2, l3, l4, vI a5] [] σ Q ↔ Wp L d k_M_worked 95 [l0, l1, l2, l3, l4, vI a5] [vI a5] σ Q := wp_iload rfl rfl
theorem r_M_worked_95 : Wp L d k_M_worked 95 [l0, l1, l2, l3, l4, l5] [vI s0] σ Q ↔ Wp L d k_M_worked 97 [l0, l1, l2, l3, l4, l5] [vI 33, vI s0] σ Q := wp_push rfl
theorem r_M_worked_97 : Wp L d k_M_worked 97 [l0, l1, l2, l3, l4, l5] [vI s1, vI s0] σ Q ↔ (if s0 ≠ s1 then Wp L d k_M_worked 127 [l0, l1, l2, l3, l4, l5] [] σ Q else Wp L d k_M_worked 100 [l0, l1, l2, l3, l4, l5] [] σ Q) := wp_cmp_ne rfl
theorem r_M_worked_100 : Wp L d k_M_worked 100 [vR b0, l1, l2, l3, l4, l5] [] σ Q ↔ Wp L d k_M_worked 101 [vR b0, l1, l2, l3, l4, l5] [vR b0] σ Q := wp_aload rfl rfl
theorem r_M_worked_101 (h : gK c0 = 12) : Wp L d k_M_worked 101 [l0, l1, l2, l3, l4, l5] [vR c0] σ Q ↔ Wp L d k_M_worked 104 [l0, l1, l2, l3, l4, l5] [vR (gq c0 21)] σ Q := wp_getR (c := 3221) rfl rfl rfl rfl rfl h
theorem r_M_worked_104 : Wp L d k_M_worked 104 [l0, l1, vI a2, l3, l4, l5] [vR c0] σ Q ↔ Wp L d k_M_worked 105 [l0, l1, vI a2, l3, l4, l5] [vI a2, vR c0] σ Q := wp_iload rfl rfl
theorem r_M_worked_105 : Wp L d k_M_worked 105 [l0, l1, l2, l3, l4, l5] [vI s1, vR c0] σ Q ↔ Wp L d k_M_worked 106 [l0, l1, l2, l3, l4, l5] [vI 1, vI s1, vR c0] σ Q := wp_push rfl
theorem r_M_worked_106 : Wp L d k_M_worked 106 [l0, l1, l2, l3, l4, l5] [vI s2, vI s1, vR c0] σ Q ↔ Wp L d k_M_worked 107 [l0, l1, l2, l3, l4, l5] [vI (w32 (s1 - s2)), vR c0] σ Q := wp_isub rfl
theorem r_M_worked_107 : Wp L d k_M_worked 107 [vR b0, l1, l2, l3, l4, l5] [vI s1, vR c0] σ Q ↔ Wp L d k_M_worked 108 [vR b0, l1, l2, l3, l4, l5] [vR b0, vI s1, vR c0] σ Q := wp_aload rfl rfl
theorem r_M_worked_108 (h : gK c2 = 12) : Wp L d k_M_worked 108 [l0, l1, l2, l3, l4, l5] [vR c2, vI s1, vR c0] σ Q ↔ Wp L d k_M_worked 111 [l0, l1, l2, l3, l4, l5] [vR (gq c2 21), vI s1, vR c0] σ Q := wp_getR (c := 3221) rfl rfl rfl rfl rfl h
theorem r_M_worked_111 : Wp L d k_M_worked 111 [l0, l1, vI a2, l3, l4, l5] [vR c2, vI s1, vR c0] σ Q ↔ Wp L d k_M_worked 112 [l0, l1, vI a2, l3, l4, l5] [vI a2, vR c2, vI s1, vR c0] σ Q := wp_iload rfl rfl
theorem r_M_worked_112 : Wp L d k_M_worked 112 [l0, l1, l2, l3, l4, l5] [vI s3, vR c2, vI s1, vR c0] σ Q ↔ Wp L d k_M_worked 113 [l0, l1, l2, l3, l4, l5] [vI 1, vI s3, vR c2, vI s1, vR c0] σ Q := wp_push rfl
theorem r_M_worked_113 : Wp L d k_M_worked 113 [l0, l1, l2, l3, l4, l5] [vI s4, vI s3, vR c2, vI s1, vR c0] σ Q ↔ Wp L d k_M_worked 114 [l0, l1, l2, l3, l4, l5] [vI (w32 (s3 - s4)), vR c2, vI s1, vR c0] σ Q := wp_isub rfl
theorem r_M_worked_114 (h : gK c2 = 100) (hx : 0 ≤ s3 ∧ s3 < gN c2) : Wp L d k_M_worked 114 [l0, l1, l2, l3, l4, l5] [vI s3, vR c2, vI s1, vR c0] σ Q ↔ Wp L d k_M_worked 115 [l0, l1, l2, l3, l4, l5] [vI (σ c2 s3.toNat), vI s1, vR c0] σ Q := wp_iald rfl h hx
theorem r_M_worked_115 : Wp L d k_M_worked 115 [l0, l1, l2, l3, l4, l5] [vI s2, vI s1, vR c0] σ Q ↔ (if s2 ≠ 0 then Wp L d k_M_worked 122 [l0, l1, l2, l3, l4, l5] [vI s1, vR c0] σ Q else Wp L d k_M_worked 118 [l0, l1, l2, l3, l4, l5] [vI s1, vR c0] σ Q) := wp_if_ne rfl
theorem r_M_worked_118 : Wp L d k_M_worked 118 [l0, l1, l2, l3, l4, l5] [vI s1, vR c0] σ Q ↔ Wp L d k_M_worked 119 [l0, l1, l2, l3, l4, l5] [vI 1, vI s1, vR c0] σ Q := wp_push rfl
theorem r_M_worked_119 : Wp L d k_M_worked 119 [l0, l1, l2, l3, l4, l5] [vI s2, vI s1, vR c0] σ Q ↔ Wp L d k_M_worked 123 [l0, l1, l2, l3, l4, l5] [vI s2, vI s1, vR c0] σ Q := wp_goto rfl
theorem r_M_worked_122 : Wp L d k_M_worked 122 [l0, l1, l2, l3, l4, l5] [vI s1, vR c0] σ Q ↔ Wp L d k_M_worked 123 [l0, l1, l2, l3, l4, l5] [vI 0, vI s1, vR c0] σ Q := wp_push rfl
theorem r_M_worked_123 (h : gK c0 = 100) (hx : 0 ≤ s1 ∧ s1 < gN c0) : Wp L d k_M_worked 123 [l0, l1, l2, l3, l4, l5] [vI s2, vI s1, vR c0] σ Q ↔ Wp L d k_M_worked 124 [l0, l1, l2, l3, l4, l5] [] (gupd σ c0 s1.toNat s2) Q := wp_iast rfl h hx
theorem r_M_worked_124 : Wp L d k_M_worked 124 [l0, l1, l2, l3, l4, l5] [] σ Q ↔ Wp L d k_M_worked 157 [l0, l1, l2, l3, l4, l5] [] σ Q := wp_goto rfl
theorem r_M_worked_127 : Wp L d k_M_worked 127 [l0, vI a1, vI a2, l3, l4, l5] [] σ Q ↔ Wp L d k_M_worked 130 [l0, vI a1, vI (w32 (a2 + (-1))), l3, l4, l5] [] σ Q := wp_iinc (i := 2) (ls := [l0, vI a1, vI a2, l3, l4, l5]) rfl rfl
theorem r_M_worked_130 : Wp L d k_M_worked 130 [vR b0, l1, l2, l3, l4, l5] [] σ Q ↔ Wp L d k_M_worked 131 [vR b0, l1, l2, l3, l4, l5] [vR b0] σ Q := wp_aload rfl rfl
theorem r_M_worked_131 (h : gK c0 = 12) : Wp L d k_M_worked 131 [l0, l1, l2, l3, l4, l5] [vR c0] σ Q ↔ Wp L d k_M_worked 134 [l0, l1, l2, l3, l4, l5] [vR (gq c0 21)] σ Q := wp_getR (c := 3221) rfl rfl rfl rfl rfl h
theorem r_M_worked_134 : Wp L d k_M_worked 134 [l0, l1, vI a2, l3, l4, l5] [vR c0] σ Q ↔ Wp L d k_M_worked 135 [l0, l1, vI a2, l3, l4, l5] [vI a2, vR c0] σ Q := wp_iload rfl rfl
theorem r_M_worked_135 : Wp L d k_M_worked 135 [l0, l1, l2, l3, l4, l5] [vI s1, vR c0] σ Q ↔ Wp L d k_M_worked 136 [l0, l1, l2, l3, l4, l5] [vI 1, vI s1, vR c0] σ Q := wp_push rfl
theorem r_M_worked_136 : Wp L d k_M_worked 136 [l0, l1, l2, l3, l4, l5] [vI s2, vI s1, vR c0] σ Q ↔ Wp L d k_M_worked 137 [l0, l1, l2, l3, l4, l5] [vI (w32 (s1 - s2)), vR c0] σ Q := wp_isub rfl
theorem r_M_worked_137 : Wp L d k_M_worked 137 [l0, l1, l2, l3, l4, vI a5] [vI s1, vR c0] σ Q ↔ Wp L d k_M_worked 139 [l0, l1, l2, l3, l4, vI a5] [vI a5, vI s1, vR c0] σ Q := wp_iload rfl rfl
theorem r_M_worked_139 : Wp L d k_M_worked 139 [vR b0, l1, l2, l3, l4, l5] [vI s2, vI s1, vR c0] σ Q ↔ Wp L d k_M_worked 140 [vR b0, l1, l2, l3, l4, l5] [vR b0, vI s2, vI s1, vR c0] σ Q := wp_aload rfl rfl
theorem r_M_worked_140 (h : gK c3 = 12) : Wp L d k_M_worked 140 [l0, l1, l2, l3, l4, l5] [vR c3, vI s2, vI s1, vR c0] σ Q ↔ Wp L d k_M_worked 143 [l0, l1, l2, l3, l4, l5] [vR (gq c3 21), vI s2, vI s1, vR c0] σ Q := wp_getR (c := 3221) rfl rfl rfl rfl rfl h
theorem r_M_worked_143 : Wp L d k_M_worked 143 [l0, l1, vI a2, l3, l4, l5] [vR c3, vI s2, vI s1, vR c0] σ Q ↔ Wp L d k_M_worked 144 [l0, l1, vI a2, l3, l4, l5] [vI a2, vR c3, vI s2, vI s1, vR c0] σ Q := wp_iload rfl rfl
theorem r_M_worked_144 : Wp L d k_M_worked 144 [l0, l1, l2, l3, l4, l5] [vI s4, vR c3, vI s2, vI s1, vR c0] σ Q ↔ Wp L d k_M_worked 145 [l0, l1, l2, l3, l4, l5] [vI 1, vI s4, vR c3, vI s2, vI s1, vR c0] σ Q := wp_push rfl
theorem r_M_worked_145 : Wp L d k_M_worked 145 [l0, l1, l2, l3, l4, l5] [vI s5, vI s4, vR c3, vI s2, vI s1, vR c0] σ Q ↔ Wp L d k_M_worked 146 [l0, l1, l2, l3, l4, l5] [vI (w32 (s4 - s5)), vR c3, vI s2, vI s1, vR c0] σ Q := wp_isub rfl
theorem r_M_worked_146 (h : gK c3 = 100) (hx : 0 ≤ s4 ∧ s4 < gN c3) : Wp L d k_M_worked 146 [l0, l1, l2, l3, l4, l5] [vI s4, vR c3, vI s2, vI s1, vR c0] σ Q ↔ Wp L d k_M_worked 147 [l0, l1, l2, l3, l4, l5] [vI (σ c3 s4.toNat), vI s2, vI s1, vR c0] σ Q := wp_iald rfl h hx
theorem r_M_worked_147 : Wp L d k_M_worked 147 [vR b0, l1, l2, l3, l4, l5] [vI s3, vI s2, vI s1, vR c0] σ Q ↔ Wp L d k_M_worked 148 [vR b0, l1, l2, l3, l4, l5] [vR b0, vI s3, vI s2, vI s1, vR c0] σ Q := wp_aload rfl rfl
theorem r_M_worked_148 (h : gK c4 = 12) : Wp L d k_M_worked 148 [l0, l1, l2, l3, l4, l5] [vR c4, vI s3, vI s2, vI s1, vR c0] σ Q ↔ Wp L d k_M_worked 151 [l0, l1, l2, l3, l4, l5] [vR (gq c4 21), vI s3, vI s2, vI s1, vR c0] σ Q := wp_getR (c := 3221) rfl rfl rfl rfl rfl h
theorem r_M_worked_151 : Wp L d k_M_worked 151 [l0, l1, vI a2, l3, l4, l5] [vR c4, vI s3, vI s2, vI s1, vR c0] σ Q ↔ Wp L d k_M_worked 152 [l0, l1, vI a2, l3, l4, l5] [vI a2, vR c4, vI s3, vI s2, vI s1, vR c0] σ Q := wp_iload rfl rfl
theorem r_M_worked_152 (h : gK c4 = 100) (hx : 0 ≤ s5 ∧ s5 < gN c4) : Wp L d k_M_worked 152 [l0, l1, l2, l3, l4, l5] [vI s5, vR c4, vI s3, vI s2, vI s1, vR c0] σ Q ↔ Wp L d k_M_worked 153 [l0, l1, l2, l3, l4, l5] [vI (σ c4 s5.toNat), vI s3, vI s2, vI s1, vR c0] σ Q := wp_iald rfl h hx
theorem r_M_worked_156 (h : gK c0 = 100) (hx : 0 ≤ s1 ∧ s1 < gN c0) : Wp L d k_M_worked 156 [l0, l1, l2, l3, l4, l5] [vI s2, vI s1, vR c0] σ Q ↔ Wp L d k_M_worked 157 [l0, l1, l2, l3, l4, l5] [] (gupd σ c0 s1.toNat s2) Q := wp_iast rfl h hx
theorem r_M_worked_157 : Wp L d k_M_worked 157 [l0, l1, vI a2, vI a3, l4, l5] [] σ Q ↔ Wp L d k_M_worked 160 [l0, l1, vI a2, vI (w32 (a3 + 1)), l4, l5] [] σ Q := wp_iinc (i := 3) (ls := [l0, l1, vI a2, vI a3, l4, l5]) rfl rfl
theorem r_M_worked_160 : Wp L d k_M_worked 160 [l0, l1, l2, l3, l4, l5] [] σ Q ↔ Wp L d k_M_worked 4 [l0, l1, l2, l3, l4, l5] [] σ Q := wp_goto rfl
theorem r_M_worked_163 : Wp L d k_M_worked 163 [vR b0, l1, l2, l3, l4, l5] [] σ Q ↔ Wp L d k_M_worked 164 [vR b0, l1, l2, l3, l4, l5] [vR b0] σ Q := wp_aload rfl rfl
theorem r_M_worked_164 (h : gK c0 = 12) : Wp L d k_M_worked 164 [l0, l1, l2, l3, l4, l5] [vR c0] σ Q ↔ Wp L d k_M_worked 167 [l0, l1, l2, l3, l4, l5] [vR (gq c0 21)] σ Q := wp_getR (c := 3221) rfl rfl rfl rfl rfl h
theorem r_M_worked_167 : Wp L d k_M_worked 167 [l0, l1, l2, l3, l4, l5] [vR c0] σ Q ↔ Wp L d k_M_worked 168 [l0, l1, l2, l3, l4, l5] [vI 0, vR c0] σ Q := wp_push rfl
theorem r_M_worked_168 (h : gK c0 = 100) (hx : 0 ≤ s1 ∧ s1 < gN c0) : Wp L d k_M_worked 168 [l0, l1, l2, l3, l4, l5] [vI s1, vR c0] σ Q ↔ Wp L d k_M_worked 169 [l0, l1, l2, l3, l4, l5] [vI (σ c0 s1.toNat)] σ Q := wp_iald rfl h hx
theorem r_M_worked_169 : Wp L d k_M_worked 169 [l0, l1, l2, l3, l4, l5] [vI s0] σ Q ↔ Q (some (vI s0)) σ := wp_iret rfl
theorem r_M_worked_11 : Wp L (d + 1) k_M_worked 11 [l0, l1, l2, l3, l4, l5] [vI s3, vR 293, vR c1, vI s0] σ Q ↔ Wp L (d + 1) k_M_worked 14 [l0, l1, l2, l3, l4, l5] [vI (w32 (930 + w32 (200 * s3))), vR c1, vI s0] σ Q := wp_callR (d := d + 0) (as := [vR 293, vI s3]) (rest := [vR c1, vI s0]) rfl rfl rfl rfl rfl rfl rfl (grecv_k (by rw [gK_293]) rfl) (sp_M_textAt)
theorem r_M_worked_26 : Wp L (d + 1) k_M_worked 26 [l0, l1, l2, l3, l4, l5] [vI s2, vR 293, vR c0] σ Q ↔ Wp L (d + 1) k_M_worked 29 [l0, l1, l2, l3, l4, l5] [vI (w32 (930 + w32 (200 * s2))), vR c0] σ Q := wp_callR (d := d + 0) (as := [vR 293, vI s2]) (rest := [vR c0]) rfl rfl rfl rfl rfl rfl rfl (grecv_k (by rw [gK_293]) rfl) (sp_M_textAt)
theorem r_M_worked_44 : Wp L (d + 1) k_M_worked 44 [l0, l1, l2, l3, l4, l5] [vI s2, vR 293, vR c0] σ Q ↔ Wp L (d + 1) k_M_worked 47 [l0, l1, l2, l3, l4, l5] [vI (w32 (930 + w32 (200 * s2))), vR c0] σ Q := wp_callR (d := d + 0) (as := [vR 293, vI s2]) (rest := [vR c0]) rfl rfl rfl rfl rfl rfl rfl (grecv_k (by rw [gK_293]) rfl) (sp_M_textAt)
theorem r_M_worked_153 (h : s2 = 124 ∨ s2 = 38 ∨ s2 = 60 ∨ s2 = 61 ∨ s2 = 62 ∨ s2 = 43 ∨ s2 = 45 ∨ s2 = 42 ∨ s2 = 47) : Wp L (d + 1) k_M_worked 153 [l0, l1, l2, l3, l4, l5] [vI s4, vI s3, vI s2, vI s1, vR c0] σ Q ↔ Wp L (d + 1) k_M_worked 156 [l0, l1, l2, l3, l4, l5] [vI (gjn s2 s3 s4), vI s1, vR c0] σ Q := wp_callR (d := d + 0) (as := [vI s2, vI s3, vI s4]) (rest := [vI s1, vR c0]) rfl rfl rfl rfl rfl rfl rfl rfl (sp_M_joined h)
theorem sp_M_worked {t : Nat} {a b c : Int} (hw : WT (σ 294)) (ht : (t : Int) < σ 294 2) (hn : ∀ v : Int, (gnm (σ 294 (930 + 200 * t)) v).isSome = true → σ 302 v.toNat = wval (σ 294 (930 + 200 * t)) a b c v) : ∃ σ', Run L (d + 1) 262 [vR 293, vI (t : Int)] σ (some (vI (brwk (σ 294) t a b c))) σ' ∧ Agr σ σ' (fun k _ => k = 303) := by
  refine Run_ex (C' := k_M_worked) rfl ?_
  show Wp L (d + 1) k_M_worked 0 [vR 293, vI (t : Int), vU, vU, vU, vU] [] σ _
  obtain ⟨K293, Q293, K294, N294⟩ := litM
  obtain ⟨n20, n21, K302, K303, N302, N303⟩ := litN
  have w1 := hw.1
  obtain ⟨k1, k2, k3, k4, hco⟩ := WTp hw ht
  simp (disch := first | assumption | exact gb_01 _ | omega) only [r_M_worked_0, r_M_worked_1, r_M_worked_2, r_M_worked_3, r_M_worked_5, r_M_worked_6, r_M_worked_9, r_M_worked_10, r_M_worked_11, r_M_worked_14, r_M_worked_15, r_M_worked_16, r_M_worked_17, r_M_worked_20, r_M_worked_21, r_M_worked_24, r_M_worked_25, r_M_worked_26, r_M_worked_29, r_M_worked_30, r_M_worked_31, r_M_worked_32, r_M_worked_33, r_M_worked_34, r_M_worked_35, r_M_worked_36, r_M_worked_38, r_M_worked_39, r_M_worked_42, r_M_worked_43, r_M_worked_44, r_M_worked_47, r_M_worked_48, r_M_worked_49, r_M_worked_50, r_M_worked_51, r_M_worked_52, r_M_worked_53, r_M_worked_54, r_M_worked_55, r_M_worked_56, r_M_worked_58, r_M_worked_60, r_M_worked_61, r_M_worked_64, r_M_worked_65, r_M_worked_68, r_M_worked_69, r_M_worked_71, r_M_worked_74, r_M_worked_76, r_M_worked_79, r_M_worked_80, r_M_worked_83, r_M_worked_85, r_M_worked_86, r_M_worked_87, r_M_worked_90, r_M_worked_93, r_M_worked_95, r_M_worked_97, r_M_worked_100, r_M_worked_101, r_M_worked_104, r_M_worked_105, r_M_worked_106, r_M_worked_107, r_M_worked_108, r_M_worked_111, r_M_worked_112, r_M_worked_113, r_M_worked_114, r_M_worked_115, r_M_worked_118, r_M_worked_119, r_M_worked_122, r_M_worked_123, r_M_worked_124, r_M_worked_127, r_M_worked_130, r_M_worked_131, r_M_worked_134, r_M_worked_135, r_M_worked_136, r_M_worked_137, r_M_worked_139, r_M_worked_140, r_M_worked_143, r_M_worked_144, r_M_worked_145, r_M_worked_146, r_M_worked_147, r_M_worked_148, r_M_worked_151, r_M_worked_152, r_M_worked_153, r_M_worked_156, r_M_worked_157, r_M_worked_160, r_M_worked_163, r_M_worked_164, r_M_worked_167, r_M_worked_168, r_M_worked_169, Q293, n20, n21, w32_gb, w32i, tn_add, tn_mul, Int.toNat_natCast, Int.toNat_zero, Int.reduceLE, Int.reduceLT, Int.reduceEq, Int.reduceNe, gb_T, gb_F, Int.reduceToNat, eq_self, true_or, or_true, and_true, true_and, and_self, ↓ite_gb0, ↓ite_gbn, ↓if_pos, ↓if_neg, if_true, if_false, not_true_eq_false, not_false_eq_true, gb_ne0, gb_eq0]
  refine wloop (n := (σ 294 (930 + 200 * t + 3)).toNat) (I := fun k ls τ => (∃ l l', ls = [vR 293, vI (t : Int), vI ((wls (σ 294 (930 + 200 * t)) a b c (gtw (σ 294) t) (gtv (σ 294) t) k).length : Nat), vI (k : Int), l, l'] ∧ gcat l = 1) ∧ rep (wls (σ 294 (930 + 200 * t)) a b c (gtw (σ 294) t) (gtv (σ 294) t) k) (τ 303) ∧ Agr σ τ (fun k _ => k = 303)) (fun k ls τ hk hi hq => ?_) (fun ls τ hi => ?_) (σ 294 (930 + 200 * t + 3)).toNat 0 (by omega) _ _ ⟨⟨_, _, rfl, rfl⟩, trivial, Agr_refl _ _⟩
  · obtain ⟨⟨l, l', rfl, gl⟩, hrp, hA⟩ := hi
    have e4 : τ 294 = σ 294 := funext (fun j => hA 294 j (by omega))
    have ew : σ 294 (930 + 200 * t + 4 + 2 * k) = gtw (σ 294) t k := rfl
    have ev : σ 294 (930 + 200 * t + 4 + 2 * k + 1) = gtv (σ 294) t k := rfl
    have hl := wls_len (a := a) (b := b) (c := c) hco k (by omega)
    have hd := gdep_le (gtw (σ 294) t) (gtv (σ 294) t) k
    obtain ⟨h1, h2, h3⟩ := hco.1 k (by omega)
    have fin : ∀ (n : Int) (l l' : gV) (ρ : gMm), gcat l = 1 → n = ((wls (σ 294 (930 + 200 * t)) a b c (gtw (σ 294) t) (gtv (σ 294) t) (k + 1)).length : Nat) → rep (wls (σ 294 (930 + 200 * t)) a b c (gtw (σ 294) t) (gtv (σ 294) t) (k + 1)) (ρ 303) → Agr σ ρ (fun k _ => k = 303) → Wp L (d + 1) k_M_worked 4 [vR 293, vI (t : Int), vI n, vI ((k : Int) + 1), l, l'] [] ρ _ := fun n l l' ρ gl e hr hρ => hq _ _ ⟨⟨l, l', by rw [e, show (((k + 1 : Nat)) : Int) = (k : Int) + 1 by omega], gl⟩, hr, hρ⟩
    rw [r_M_worked_4]
    rcases h1 with ⟨e, e1, e2⟩ | ⟨e, e1⟩ | ⟨e, e1⟩
    · simp (disch := first | assumption | exact gb_01 _ | omega) only [r_M_worked_0, r_M_worked_1, r_M_worked_2, r_M_worked_3, r_M_worked_5, r_M_worked_6, r_M_worked_9, r_M_worked_10, r_M_worked_11, r_M_worked_14, r_M_worked_15, r_M_worked_16, r_M_worked_17, r_M_worked_20, r_M_worked_21, r_M_worked_24, r_M_worked_25, r_M_worked_26, r_M_worked_29, r_M_worked_30, r_M_worked_31, r_M_worked_32, r_M_worked_33, r_M_worked_34, r_M_worked_35, r_M_worked_36, r_M_worked_38, r_M_worked_39, r_M_worked_42, r_M_worked_43, r_M_worked_44, r_M_worked_47, r_M_worked_48, r_M_worked_49, r_M_worked_50, r_M_worked_51, r_M_worked_52, r_M_worked_53, r_M_worked_54, r_M_worked_55, r_M_worked_56, r_M_worked_58, r_M_worked_60, r_M_worked_61, r_M_worked_64, r_M_worked_65, r_M_worked_68, r_M_worked_69, r_M_worked_71, r_M_worked_74, r_M_worked_76, r_M_worked_79, r_M_worked_80, r_M_worked_83, r_M_worked_85, r_M_worked_86, r_M_worked_87, r_M_worked_90, r_M_worked_93, r_M_worked_95, r_M_worked_97, r_M_worked_100, r_M_worked_101, r_M_worked_104, r_M_worked_105, r_M_worked_106, r_M_worked_107, r_M_worked_108, r_M_worked_111, r_M_worked_112, r_M_worked_113, r_M_worked_114, r_M_worked_115, r_M_worked_118, r_M_worked_119, r_M_worked_122, r_M_worked_123, r_M_worked_124, r_M_worked_127, r_M_worked_130, r_M_worked_131, r_M_worked_134, r_M_worked_135, r_M_worked_136, r_M_worked_137, r_M_worked_139, r_M_worked_140, r_M_worked_143, r_M_worked_144, r_M_worked_145, r_M_worked_146, r_M_worked_147, r_M_worked_148, r_M_worked_151, r_M_worked_152, r_M_worked_153, r_M_worked_156, r_M_worked_157, r_M_worked_160, r_M_worked_163, r_M_worked_164, r_M_worked_167, r_M_worked_168, r_M_worked_169, Q293, n20, n21, e4, ew, ev, w32_gb, w32i, tn_add, tn_mul, Int.toNat_natCast, Int.toNat_zero, Int.reduceLE, Int.reduceLT, Int.reduceEq, Int.reduceNe, gb_T, gb_F, Int.reduceToNat, eq_self, true_or, or_true, and_true, true_and, and_self, ↓ite_gb0, ↓ite_gbn, ↓if_pos, ↓if_neg, if_true, if_false, not_true_eq_false, not_false_eq_true, gb_ne0, gb_eq0]
      refine fin _ _ _ _ rfl ?_ ?_ (Agr_upd hA rfl)
      · rw [wls_0 e]
        simp only [List.length_cons]
        omega
      · rw [wls_0 e, gupd_fu]
        exact ⟨fu_eq, rep_fu _ (Nat.le_refl _) hrp⟩
    · have nb := gnm_bd e1
      have nv : τ 302 (gtv (σ 294) t k).toNat = wval (σ 294 (930 + 200 * t)) a b c (gtv (σ 294) t k) := by rw [hA _ _ (by omega)]; exact hn _ e1
      simp (disch := first | assumption | exact gb_01 _ | omega) only [r_M_worked_0, r_M_worked_1, r_M_worked_2, r_M_worked_3, r_M_worked_5, r_M_worked_6, r_M_worked_9, r_M_worked_10, r_M_worked_11, r_M_worked_14, r_M_worked_15, r_M_worked_16, r_M_worked_17, r_M_worked_20, r_M_worked_21, r_M_worked_24, r_M_worked_25, r_M_worked_26, r_M_worked_29, r_M_worked_30, r_M_worked_31, r_M_worked_32, r_M_worked_33, r_M_worked_34, r_M_worked_35, r_M_worked_36, r_M_worked_38, r_M_worked_39, r_M_worked_42, r_M_worked_43, r_M_worked_44, r_M_worked_47, r_M_worked_48, r_M_worked_49, r_M_worked_50, r_M_worked_51, r_M_worked_52, r_M_worked_53, r_M_worked_54, r_M_worked_55, r_M_worked_56, r_M_worked_58, r_M_worked_60, r_M_worked_61, r_M_worked_64, r_M_worked_65, r_M_worked_68, r_M_worked_69, r_M_worked_71, r_M_worked_74, r_M_worked_76, r_M_worked_79, r_M_worked_80, r_M_worked_83, r_M_worked_85, r_M_worked_86, r_M_worked_87, r_M_worked_90, r_M_worked_93, r_M_worked_95, r_M_worked_97, r_M_worked_100, r_M_worked_101, r_M_worked_104, r_M_worked_105, r_M_worked_106, r_M_worked_107, r_M_worked_108, r_M_worked_111, r_M_worked_112, r_M_worked_113, r_M_worked_114, r_M_worked_115, r_M_worked_118, r_M_worked_119, r_M_worked_122, r_M_worked_123, r_M_worked_124, r_M_worked_127, r_M_worked_130, r_M_worked_131, r_M_worked_134, r_M_worked_135, r_M_worked_136, r_M_worked_137, r_M_worked_139, r_M_worked_140, r_M_worked_143, r_M_worked_144, r_M_worked_145, r_M_worked_146, r_M_worked_147, r_M_worked_148, r_M_worked_151, r_M_worked_152, r_M_worked_153, r_M_worked_156, r_M_worked_157, r_M_worked_160, r_M_worked_163, r_M_worked_164, r_M_worked_167, r_M_worked_168, r_M_worked_169, Q293, n20, n21, e4, ew, ev, nv, w32_gb, w32i, tn_add, tn_mul, Int.toNat_natCast, Int.toNat_zero, Int.reduceLE, Int.reduceLT, Int.reduceEq, Int.reduceNe, gb_T, gb_F, Int.reduceToNat, eq_self, true_or, or_true, and_true, true_and, and_self, ↓ite_gb0, ↓ite_gbn, ↓if_pos, ↓if_neg, if_true, if_false, not_true_eq_false, not_false_eq_true, gb_ne0, gb_eq0]
      refine fin _ _ _ _ rfl ?_ ?_ (Agr_upd hA rfl)
      · rw [wls_1 e]
        simp only [List.length_cons]
        omega
      · rw [wls_1 e, gupd_fu]
        exact ⟨fu_eq, rep_fu _ (Nat.le_refl _) hrp⟩
    · by_cases e2 : gtv (σ 294) t k = 33
      · have z := h2 e e2
        cases hx : wls (σ 294 (930 + 200 * t)) a b c (gtw (σ 294) t) (gtv (σ 294) t) k with
        | nil => rw [hx] at hl; simp only [List.length_nil] at hl; omega
        | cons x r =>
          rw [hx] at hl hrp
          simp only [List.length_cons] at hl ⊢
          have hv : τ 303 r.length = x := hrp.1
          have et : (((r.length + 1 : Nat) : Int) - 1).toNat = r.length := by omega
          by_cases x0 : x = 0
          · simp (disch := first | assumption | exact gb_01 _ | omega) only [r_M_worked_0, r_M_worked_1, r_M_worked_2, r_M_worked_3, r_M_worked_5, r_M_worked_6, r_M_worked_9, r_M_worked_10, r_M_worked_11, r_M_worked_14, r_M_worked_15, r_M_worked_16, r_M_worked_17, r_M_worked_20, r_M_worked_21, r_M_worked_24, r_M_worked_25, r_M_worked_26, r_M_worked_29, r_M_worked_30, r_M_worked_31, r_M_worked_32, r_M_worked_33, r_M_worked_34, r_M_worked_35, r_M_worked_36, r_M_worked_38, r_M_worked_39, r_M_worked_42, r_M_worked_43, r_M_worked_44, r_M_worked_47, r_M_worked_48, r_M_worked_49, r_M_worked_50, r_M_worked_51, r_M_worked_52, r_M_worked_53, r_M_worked_54, r_M_worked_55, r_M_worked_56, r_M_worked_58, r_M_worked_60, r_M_worked_61, r_M_worked_64, r_M_worked_65, r_M_worked_68, r_M_worked_69, r_M_worked_71, r_M_worked_74, r_M_worked_76, r_M_worked_79, r_M_worked_80, r_M_worked_83, r_M_worked_85, r_M_worked_86, r_M_worked_87, r_M_worked_90, r_M_worked_93, r_M_worked_95, r_M_worked_97, r_M_worked_100, r_M_worked_101, r_M_worked_104, r_M_worked_105, r_M_worked_106, r_M_worked_107, r_M_worked_108, r_M_worked_111, r_M_worked_112, r_M_worked_113, r_M_worked_114, r_M_worked_115, r_M_worked_118, r_M_worked_119, r_M_worked_122, r_M_worked_123, r_M_worked_124, r_M_worked_127, r_M_worked_130, r_M_worked_131, r_M_worked_134, r_M_worked_135, r_M_worked_136, r_M_worked_137, r_M_worked_139, r_M_worked_140, r_M_worked_143, r_M_worked_144, r_M_worked_145, r_M_worked_146, r_M_worked_147, r_M_worked_148, r_M_worked_151, r_M_worked_152, r_M_worked_153, r_M_worked_156, r_M_worked_157, r_M_worked_160, r_M_worked_163, r_M_worked_164, r_M_worked_167, r_M_worked_168, r_M_worked_169, Q293, n20, n21, e4, ew, ev, et, hv, e2, w32_gb, w32i, tn_add, tn_mul, Int.toNat_natCast, Int.toNat_zero, Int.reduceLE, Int.reduceLT, Int.reduceEq, Int.reduceNe, gb_T, gb_F, Int.reduceToNat, eq_self, true_or, or_true, and_true, true_and, and_self, ↓ite_gb0, ↓ite_gbn, ↓if_pos, ↓if_neg, if_true, if_false, not_true_eq_false, not_false_eq_true, gb_ne0, gb_eq0]
            refine fin _ _ _ _ rfl ?_ ?_ (Agr_upd hA rfl)
            · rw [wls_n e e2 hx]
              simp only [List.length_cons]
            · rw [wls_n e e2 hx, gupd_fu, gb_t x0]
              exact ⟨fu_eq, rep_fu _ (Nat.le_refl _) hrp.2⟩
          · simp (disch := first | assumption | exact gb_01 _ | omega) only [r_M_worked_0, r_M_worked_1, r_M_worked_2, r_M_worked_3, r_M_worked_5, r_M_worked_6, r_M_worked_9, r_M_worked_10, r_M_worked_11, r_M_worked_14, r_M_worked_15, r_M_worked_16, r_M_worked_17, r_M_worked_20, r_M_worked_21, r_M_worked_24, r_M_worked_25, r_M_worked_26, r_M_worked_29, r_M_worked_30, r_M_worked_31, r_M_worked_32, r_M_worked_33, r_M_worked_34, r_M_worked_35, r_M_worked_36, r_M_worked_38, r_M_worked_39, r_M_worked_42, r_M_worked_43, r_M_worked_44, r_M_worked_47, r_M_worked_48, r_M_worked_49, r_M_worked_50, r_M_worked_51, r_M_worked_52, r_M_worked_53, r_M_worked_54, r_M_worked_55, r_M_worked_56, r_M_worked_58, r_M_worked_60, r_M_worked_61, r_M_worked_64, r_M_worked_65, r_M_worked_68, r_M_worked_69, r_M_worked_71, r_M_worked_74, r_M_worked_76, r_M_worked_79, r_M_worked_80, r_M_worked_83, r_M_worked_85, r_M_worked_86, r_M_worked_87, r_M_worked_90, r_M_worked_93, r_M_worked_95, r_M_worked_97, r_M_worked_100, r_M_worked_101, r_M_worked_104, r_M_worked_105, r_M_worked_106, r_M_worked_107, r_M_worked_108, r_M_worked_111, r_M_worked_112, r_M_worked_113, r_M_worked_114, r_M_worked_115, r_M_worked_118, r_M_worked_119, r_M_worked_122, r_M_worked_123, r_M_worked_124, r_M_worked_127, r_M_worked_130, r_M_worked_131, r_M_worked_134, r_M_worked_135, r_M_worked_136, r_M_worked_137, r_M_worked_139, r_M_worked_140, r_M_worked_143, r_M_worked_144, r_M_worked_145, r_M_worked_146, r_M_worked_147, r_M_worked_148, r_M_worked_151, r_M_worked_152, r_M_worked_153, r_M_worked_156, r_M_worked_157, r_M_worked_160, r_M_worked_163, r_M_worked_164, r_M_worked_167, r_M_worked_168, r_M_worked_169, Q293, n20, n21, e4, ew, ev, et, hv, e2, w32_gb, w32i, tn_add, tn_mul, Int.toNat_natCast, Int.toNat_zero, Int.reduceLE, Int.reduceLT, Int.reduceEq, Int.reduceNe, gb_T, gb_F, Int.reduceToNat, eq_self, true_or, or_true, and_true, true_and, and_self, ↓ite_gb0, ↓ite_gbn, ↓if_pos, ↓if_neg, if_true, if_false, not_true_eq_false, not_false_eq_true, gb_ne0, gb_eq0]
            refine fin _ _ _ _ rfl ?_ ?_ (Agr_upd hA rfl)
            · rw [wls_n e e2 hx]
              simp only [List.length_cons]
            · rw [wls_n e e2 hx, gupd_fu, gb_f x0]
              exact ⟨fu_eq, rep_fu _ (Nat.le_refl _) hrp.2⟩
      · have z := h3 e e2
        have sg := sgn9 e1 e2
        cases hx : wls (σ 294 (930 + 200 * t)) a b c (gtw (σ 294) t) (gtv (σ 294) t) k with
        | nil => rw [hx] at hl; simp only [List.length_nil] at hl; omega
        | cons y r =>
          cases r with
          | nil => rw [hx] at hl; simp only [List.length_cons, List.length_nil] at hl; omega
          | cons x r =>
            rw [hx] at hl hrp
            simp only [List.length_cons] at hl ⊢
            have hv : τ 303 (r.length + 1) = y := hrp.1
            have hv2 : τ 303 r.length = x := hrp.2.1
            have et0 : w32 (((r.length + 1 + 1 : Nat) : Int) + -1) = ((r.length + 1 : Nat) : Int) := by
              rw [w32i (by omega)]
              omega
            have et1 : (((r.length + 1 : Nat) : Int) - 1).toNat = r.length := by omega
            simp (disch := first | assumption | exact gb_01 _ | omega) only [r_M_worked_0, r_M_worked_1, r_M_worked_2, r_M_worked_3, r_M_worked_5, r_M_worked_6, r_M_worked_9, r_M_worked_10, r_M_worked_11, r_M_worked_14, r_M_worked_15, r_M_worked_16, r_M_worked_17, r_M_worked_20, r_M_worked_21, r_M_worked_24, r_M_worked_25, r_M_worked_26, r_M_worked_29, r_M_worked_30, r_M_worked_31, r_M_worked_32, r_M_worked_33, r_M_worked_34, r_M_worked_35, r_M_worked_36, r_M_worked_38, r_M_worked_39, r_M_worked_42, r_M_worked_43, r_M_worked_44, r_M_worked_47, r_M_worked_48, r_M_worked_49, r_M_worked_50, r_M_worked_51, r_M_worked_52, r_M_worked_53, r_M_worked_54, r_M_worked_55, r_M_worked_56, r_M_worked_58, r_M_worked_60, r_M_worked_61, r_M_worked_64, r_M_worked_65, r_M_worked_68, r_M_worked_69, r_M_worked_71, r_M_worked_74, r_M_worked_76, r_M_worked_79, r_M_worked_80, r_M_worked_83, r_M_worked_85, r_M_worked_86, r_M_worked_87, r_M_worked_90, r_M_worked_93, r_M_worked_95, r_M_worked_97, r_M_worked_100, r_M_worked_101, r_M_worked_104, r_M_worked_105, r_M_worked_106, r_M_worked_107, r_M_worked_108, r_M_worked_111, r_M_worked_112, r_M_worked_113, r_M_worked_114, r_M_worked_115, r_M_worked_118, r_M_worked_119, r_M_worked_122, r_M_worked_123, r_M_worked_124, r_M_worked_127, r_M_worked_130, r_M_worked_131, r_M_worked_134, r_M_worked_135, r_M_worked_136, r_M_worked_137, r_M_worked_139, r_M_worked_140, r_M_worked_143, r_M_worked_144, r_M_worked_145, r_M_worked_146, r_M_worked_147, r_M_worked_148, r_M_worked_151, r_M_worked_152, r_M_worked_153, r_M_worked_156, r_M_worked_157, r_M_worked_160, r_M_worked_163, r_M_worked_164, r_M_worked_167, r_M_worked_168, r_M_worked_169, Q293, n20, n21, e4, ew, ev, et0, et1, hv, hv2, w32_gb, w32i, tn_add, tn_mul, Int.toNat_natCast, Int.toNat_zero, Int.reduceLE, Int.reduceLT, Int.reduceEq, Int.reduceNe, gb_T, gb_F, Int.reduceToNat, eq_self, true_or, or_true, and_true, true_and, and_self, ↓ite_gb0, ↓ite_gbn, ↓if_pos, ↓if_neg, if_true, if_false, not_true_eq_false, not_false_eq_true, gb_ne0, gb_eq0]
            refine fin _ _ _ _ rfl ?_ ?_ (Agr_upd hA rfl)
            · rw [wls_s e e2 hx]
              simp only [List.length_cons]
            · rw [wls_s e e2 hx, gupd_fu]
              exact ⟨fu_eq, rep_fu _ (Nat.le_refl _) hrp.2.2⟩
  · obtain ⟨⟨l, l', rfl, gl⟩, hrp, hA⟩ := hi
    have e4 : τ 294 = σ 294 := funext (fun j => hA 294 j (by omega))
    have hl := wls_len (a := a) (b := b) (c := c) hco (σ 294 (930 + 200 * t + 3)).toNat (by omega)
    rw [hco.2] at hl
    have hv : τ 303 0 = brwk (σ 294) t a b c := by
      unfold brwk
      cases hx : wls (σ 294 (930 + 200 * t)) a b c (gtw (σ 294) t) (gtv (σ 294) t) (σ 294 (930 + 200 * t + 3)).toNat with
      | nil => rw [hx] at hl; simp only [List.length_nil] at hl; omega
      | cons x r =>
        rw [hx] at hl hrp
        simp only [List.length_cons] at hl
        have := hrp.1
        rw [show r.length = 0 by omega] at this
        exact this
    rw [r_M_worked_4]
    simp (disch := first | assumption | exact gb_01 _ | omega) only [r_M_worked_0, r_M_worked_1, r_M_worked_2, r_M_worked_3, r_M_worked_5, r_M_worked_6, r_M_worked_9, r_M_worked_10, r_M_worked_11, r_M_worked_14, r_M_worked_15, r_M_worked_16, r_M_worked_17, r_M_worked_20, r_M_worked_21, r_M_worked_24, r_M_worked_25, r_M_worked_26, r_M_worked_29, r_M_worked_30, r_M_worked_31, r_M_worked_32, r_M_worked_33, r_M_worked_34, r_M_worked_35, r_M_worked_36, r_M_worked_38, r_M_worked_39, r_M_worked_42, r_M_worked_43, r_M_worked_44, r_M_worked_47, r_M_worked_48, r_M_worked_49, r_M_worked_50, r_M_worked_51, r_M_worked_52, r_M_worked_53, r_M_worked_54, r_M_worked_55, r_M_worked_56, r_M_worked_58, r_M_worked_60, r_M_worked_61, r_M_worked_64, r_M_worked_65, r_M_worked_68, r_M_worked_69, r_M_worked_71, r_M_worked_74, r_M_worked_76, r_M_worked_79, r_M_worked_80, r_M_worked_83, r_M_worked_85, r_M_worked_86, r_M_worked_87, r_M_worked_90, r_M_worked_93, r_M_worked_95, r_M_worked_97, r_M_worked_100, r_M_worked_101, r_M_worked_104, r_M_worked_105, r_M_worked_106, r_M_worked_107, r_M_worked_108, r_M_worked_111, r_M_worked_112, r_M_worked_113, r_M_worked_114, r_M_worked_115, r_M_worked_118, r_M_worked_119, r_M_worked_122, r_M_worked_123, r_M_worked_124, r_M_worked_127, r_M_worked_130, r_M_worked_131, r_M_worked_134, r_M_worked_135, r_M_worked_136, r_M_worked_137, r_M_worked_139, r_M_worked_140, r_M_worked_143, r_M_worked_144, r_M_worked_145, r_M_worked_146, r_M_worked_147, r_M_worked_148, r_M_worked_151, r_M_worked_152, r_M_worked_153, r_M_worked_156, r_M_worked_157, r_M_worked_160, r_M_worked_163, r_M_worked_164, r_M_worked_167, r_M_worked_168, r_M_worked_169, Q293, n20, n21, e4, hv, w32_gb, w32i, tn_add, tn_mul, Int.toNat_natCast, Int.toNat_zero, Int.reduceLE, Int.reduceLT, Int.reduceEq, Int.reduceNe, gb_T, gb_F, Int.reduceToNat, eq_self, true_or, or_true, and_true, true_and, and_self, ↓ite_gb0, ↓ite_gbn, ↓if_pos, ↓if_neg, if_true, if_false, not_true_eq_false, not_false_eq_true, gb_ne0, gb_eq0]
    exact hA
