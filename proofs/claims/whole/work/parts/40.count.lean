/-! count. -/
variable {L d : Nat} {σ σ1 : Nat → Nat → Int} {Q : Option gV → (Nat → Nat → Int) → Prop} {a0 a1 a2 a3 a4 a5 a6 a7 a8 a9 a10 a11 s0 s1 s2 s3 s4 s5 s6 s7 s8 s9 : Int} {l0 l1 l2 l3 l4 l5 l6 l7 l8 l9 l10 l11 t0 t1 t2 t3 t4 t5 t6 t7 t8 t9 : gV} {b0 b1 b2 b3 b4 b5 b6 b7 b8 b9 b10 b11 c0 c1 c2 c3 c4 c5 c6 c7 c8 c9 : Nat} {r : Option gV}
theorem r_B_downCount_0 : Wp L d k_B_downCount 0 [l0, l1, l2] [] σ Q ↔ Wp L d k_B_downCount 1 [l0, l1, l2] [vI 0] σ Q := wp_push rfl
theorem r_B_downCount_1 : Wp L d k_B_downCount 1 [vR b0, l1, l2] [vI s0] σ Q ↔ Wp L d k_B_downCount 2 [vR b0, vI s0, l2] [] σ Q := wp_istore (i := 1) (ls := [vR b0, l1, l2]) rfl rfl
theorem r_B_downCount_2 : Wp L d k_B_downCount 2 [l0, l1, l2] [] σ Q ↔ Wp L d k_B_downCount 3 [l0, l1, l2] [vI 0] σ Q := wp_push rfl
theorem r_B_downCount_3 : Wp L d k_B_downCount 3 [l0, vI a1, l2] [vI s0] σ Q ↔ Wp L d k_B_downCount 4 [l0, vI a1, vI s0] [] σ Q := wp_istore (i := 2) (ls := [l0, vI a1, l2]) rfl rfl
theorem r_B_downCount_4 : Wp L d k_B_downCount 4 [l0, l1, vI a2] [] σ Q ↔ Wp L d k_B_downCount 5 [l0, l1, vI a2] [vI a2] σ Q := wp_iload rfl rfl
theorem r_B_downCount_5 : Wp L d k_B_downCount 5 [vR b0, l1, l2] [vI s0] σ Q ↔ Wp L d k_B_downCount 6 [vR b0, l1, l2] [vR b0, vI s0] σ Q := wp_aload rfl rfl
theorem r_B_downCount_6 (h : gK c1 = 1) : Wp L d k_B_downCount 6 [l0, l1, l2] [vR c1, vI s0] σ Q ↔ Wp L d k_B_downCount 9 [l0, l1, l2] [vI (σ c1 8), vI s0] σ Q := wp_getI (c := 264) rfl rfl rfl rfl h
theorem r_B_downCount_9 : Wp L d k_B_downCount 9 [l0, l1, l2] [vI s1, vI s0] σ Q ↔ (if s1 ≤ s0 then Wp L d k_B_downCount 30 [l0, l1, l2] [] σ Q else Wp L d k_B_downCount 12 [l0, l1, l2] [] σ Q) := wp_cmp_ge rfl
theorem r_B_downCount_12 : Wp L d k_B_downCount 12 [l0, vI a1, l2] [] σ Q ↔ Wp L d k_B_downCount 13 [l0, vI a1, l2] [vI a1] σ Q := wp_iload rfl rfl
theorem r_B_downCount_13 : Wp L d k_B_downCount 13 [vR b0, l1, l2] [vI s0] σ Q ↔ Wp L d k_B_downCount 14 [vR b0, l1, l2] [vR b0, vI s0] σ Q := wp_aload rfl rfl
theorem r_B_downCount_14 (h : gK c1 = 1) : Wp L d k_B_downCount 14 [l0, l1, l2] [vR c1, vI s0] σ Q ↔ Wp L d k_B_downCount 17 [l0, l1, l2] [vR (gq c1 2), vI s0] σ Q := wp_getR (c := 386) rfl rfl rfl rfl rfl h
theorem r_B_downCount_17 : Wp L d k_B_downCount 17 [l0, l1, vI a2] [vR c1, vI s0] σ Q ↔ Wp L d k_B_downCount 18 [l0, l1, vI a2] [vI a2, vR c1, vI s0] σ Q := wp_iload rfl rfl
theorem r_B_downCount_18 (h : gK c1 = 101) (hx : 0 ≤ s2 ∧ s2 < gN c1) : Wp L d k_B_downCount 18 [l0, l1, l2] [vI s2, vR c1, vI s0] σ Q ↔ Wp L d k_B_downCount 19 [l0, l1, l2] [vI (σ c1 s2.toNat), vI s0] σ Q := wp_bald rfl h hx
theorem r_B_downCount_22 : Wp L d k_B_downCount 22 [l0, l1, l2] [vI s1, vI s0] σ Q ↔ Wp L d k_B_downCount 23 [l0, l1, l2] [vI (w32 (s0 + s1))] σ Q := wp_iadd rfl
theorem r_B_downCount_23 : Wp L d k_B_downCount 23 [vR b0, l1, l2] [vI s0] σ Q ↔ Wp L d k_B_downCount 24 [vR b0, vI s0, l2] [] σ Q := wp_istore (i := 1) (ls := [vR b0, l1, l2]) rfl rfl
theorem r_B_downCount_24 : Wp L d k_B_downCount 24 [l0, vI a1, vI a2] [] σ Q ↔ Wp L d k_B_downCount 27 [l0, vI a1, vI (w32 (a2 + 1))] [] σ Q := wp_iinc (i := 2) (ls := [l0, vI a1, vI a2]) rfl rfl
theorem r_B_downCount_27 : Wp L d k_B_downCount 27 [l0, l1, l2] [] σ Q ↔ Wp L d k_B_downCount 4 [l0, l1, l2] [] σ Q := wp_goto rfl
theorem r_B_downCount_30 : Wp L d k_B_downCount 30 [l0, vI a1, l2] [] σ Q ↔ Wp L d k_B_downCount 31 [l0, vI a1, l2] [vI a1] σ Q := wp_iload rfl rfl
theorem r_B_downCount_31 : Wp L d k_B_downCount 31 [l0, l1, l2] [vI s0] σ Q ↔ Q (some (vI s0)) σ := wp_iret rfl
theorem r_B_downCount_19 : Wp L (d + 1) k_B_downCount 19 [l0, l1, l2] [vI s1, vI s0] σ Q ↔ Wp L (d + 1) k_B_downCount 22 [l0, l1, l2] [vI (gb (s1 ≠ 0)), vI s0] σ Q := wp_callR (d := d + 0) (as := [vI s1]) (rest := [vI s0]) rfl rfl rfl rfl rfl rfl rfl rfl (sp_X_bit)
theorem sp_B_downCount {b : Nat} {f : Nat → Int}  (hB : BR b) (hw : WB f) (hc : CB b f σ) : Run L (d + 1) 117 [vR b] σ (some (vI (gdown f (f 0).toNat))) σ := by
  refine Run_of (C' := k_B_downCount) rfl ?_
  show Wp L (d + 1) k_B_downCount 0 [vR b, vU, vU] [] σ _
  obtain ⟨⟨K0, q0, q1, q2, q3, q4, q5, q6, q7⟩, ⟨K1, K2, K3, K4, K5, K6, K7, K8⟩, ⟨N1, N2, N3, N4, N5, N6, N7, N8⟩, QP, KP⟩ := hB
  have w1 := hw.1
  have w2 := hw.2.1
  have c1 := hc.1
  have c2 := hc.2.1
  simp only [r_B_downCount_0, r_B_downCount_1, r_B_downCount_2, r_B_downCount_3, r_B_downCount_5, r_B_downCount_6, r_B_downCount_9, r_B_downCount_12, r_B_downCount_13, r_B_downCount_14, r_B_downCount_17, r_B_downCount_18, r_B_downCount_19, r_B_downCount_22, r_B_downCount_23, r_B_downCount_24, r_B_downCount_27, r_B_downCount_30, r_B_downCount_31]
  refine wloopF (f 0).toNat (fun k => [vR b, vI (gdown f k), vI (k : Int)]) (fun _ => σ) (fun k hk hq => ?_) ?_
  · have s := (hc.2.2.1 k (by omega)).2.2
    have w3 := (hw.2.2.1 k (by omega)).2.2
    have bd := gdown_bd hw k (by omega)
    rw [r_B_downCount_4]
    simp (disch := first | assumption | exact gb_01 _ | omega) only [r_B_downCount_0, r_B_downCount_1, r_B_downCount_2, r_B_downCount_3, r_B_downCount_5, r_B_downCount_6, r_B_downCount_9, r_B_downCount_12, r_B_downCount_13, r_B_downCount_14, r_B_downCount_17, r_B_downCount_18, r_B_downCount_19, r_B_downCount_22, r_B_downCount_23, r_B_downCount_24, r_B_downCount_27, r_B_downCount_30, r_B_downCount_31, q0, q1, q2, q3, q4, q5, q6, q7, QP, w32_gb, w32i, tn_add, tn_mul, Int.toNat_natCast, Int.toNat_zero, Int.reduceLE, Int.reduceLT, Int.reduceEq, Int.reduceNe, gb_T, gb_F, Int.reduceToNat, eq_self, true_or, or_true, and_true, true_and, and_self, ↓ite_gb0, ↓ite_gbn, ↓if_pos, ↓if_neg, if_true, if_false, not_true_eq_false, not_false_eq_true, gb_ne0, gb_eq0]
    refine hq _ _ ?_ rfl
    simp only [List.cons.injEq, vI_inj, vR_inj, and_true, true_and]
    refine ⟨?_, by omega⟩
    simp only [gdown, gsm]
    rcases w3 with w3 | w3 <;> simp only [s, w3] <;> rfl
  · rw [r_B_downCount_4]
    simp (disch := first | assumption | exact gb_01 _ | omega) only [r_B_downCount_0, r_B_downCount_1, r_B_downCount_2, r_B_downCount_3, r_B_downCount_5, r_B_downCount_6, r_B_downCount_9, r_B_downCount_12, r_B_downCount_13, r_B_downCount_14, r_B_downCount_17, r_B_downCount_18, r_B_downCount_19, r_B_downCount_22, r_B_downCount_23, r_B_downCount_24, r_B_downCount_27, r_B_downCount_30, r_B_downCount_31, q0, q1, q2, q3, q4, q5, q6, q7, QP, w32_gb, w32i, tn_add, tn_mul, Int.toNat_natCast, Int.toNat_zero, Int.reduceLE, Int.reduceLT, Int.reduceEq, Int.reduceNe, gb_T, gb_F, Int.reduceToNat, eq_self, true_or, or_true, and_true, true_and, and_self, ↓ite_gb0, ↓ite_gbn, ↓if_pos, ↓if_neg, if_true, if_false, not_true_eq_false, not_false_eq_true, gb_ne0, gb_eq0]
theorem r_B_pieceCount_0 : Wp L d k_B_pieceCount 0 [l0, l1, l2, l3] [] σ Q ↔ Wp L d k_B_pieceCount 1 [l0, l1, l2, l3] [vI 0] σ Q := wp_push rfl
theorem r_B_pieceCount_1 : Wp L d k_B_pieceCount 1 [l0, vI a1, l2, l3] [vI s0] σ Q ↔ Wp L d k_B_pieceCount 2 [l0, vI a1, vI s0, l3] [] σ Q := wp_istore (i := 2) (ls := [l0, vI a1, l2, l3]) rfl rfl
theorem r_B_pieceCount_2 : Wp L d k_B_pieceCount 2 [l0, l1, l2, l3] [] σ Q ↔ Wp L d k_B_pieceCount 3 [l0, l1, l2, l3] [vI 0] σ Q := wp_push rfl
theorem r_B_pieceCount_3 : Wp L d k_B_pieceCount 3 [l0, l1, vI a2, l3] [vI s0] σ Q ↔ Wp L d k_B_pieceCount 4 [l0, l1, vI a2, vI s0] [] σ Q := wp_istore (i := 3) (ls := [l0, l1, vI a2, l3]) rfl rfl
theorem r_B_pieceCount_4 : Wp L d k_B_pieceCount 4 [l0, l1, l2, vI a3] [] σ Q ↔ Wp L d k_B_pieceCount 5 [l0, l1, l2, vI a3] [vI a3] σ Q := wp_iload rfl rfl
theorem r_B_pieceCount_5 : Wp L d k_B_pieceCount 5 [vR b0, l1, l2, l3] [vI s0] σ Q ↔ Wp L d k_B_pieceCount 6 [vR b0, l1, l2, l3] [vR b0, vI s0] σ Q := wp_aload rfl rfl
theorem r_B_pieceCount_6 (h : gK c1 = 1) : Wp L d k_B_pieceCount 6 [l0, l1, l2, l3] [vR c1, vI s0] σ Q ↔ Wp L d k_B_pieceCount 9 [l0, l1, l2, l3] [vI (σ c1 9), vI s0] σ Q := wp_getI (c := 265) rfl rfl rfl rfl h
theorem r_B_pieceCount_9 : Wp L d k_B_pieceCount 9 [l0, l1, l2, l3] [vI s1, vI s0] σ Q ↔ (if s1 ≤ s0 then Wp L d k_B_pieceCount 58 [l0, l1, l2, l3] [] σ Q else Wp L d k_B_pieceCount 12 [l0, l1, l2, l3] [] σ Q) := wp_cmp_ge rfl
theorem r_B_pieceCount_12 : Wp L d k_B_pieceCount 12 [l0, l1, vI a2, l3] [] σ Q ↔ Wp L d k_B_pieceCount 13 [l0, l1, vI a2, l3] [vI a2] σ Q := wp_iload rfl rfl
theorem r_B_pieceCount_13 : Wp L d k_B_pieceCount 13 [vR b0, l1, l2, l3] [vI s0] σ Q ↔ Wp L d k_B_pieceCount 14 [vR b0, l1, l2, l3] [vR b0, vI s0] σ Q := wp_aload rfl rfl
theorem r_B_pieceCount_14 (h : gK c1 = 1) : Wp L d k_B_pieceCount 14 [l0, l1, l2, l3] [vR c1, vI s0] σ Q ↔ Wp L d k_B_pieceCount 17 [l0, l1, l2, l3] [vR (gq c1 3), vI s0] σ Q := wp_getR (c := 387) rfl rfl rfl rfl rfl h
theorem r_B_pieceCount_17 : Wp L d k_B_pieceCount 17 [l0, l1, l2, vI a3] [vR c1, vI s0] σ Q ↔ Wp L d k_B_pieceCount 18 [l0, l1, l2, vI a3] [vI a3, vR c1, vI s0] σ Q := wp_iload rfl rfl
theorem r_B_pieceCount_18 (h : gK c1 = 102 ∨ gK c1 = 103) (hx : 0 ≤ s2 ∧ s2 < gN c1) : Wp L d k_B_pieceCount 18 [l0, l1, l2, l3] [vI s2, vR c1, vI s0] σ Q ↔ Wp L d k_B_pieceCount 19 [l0, l1, l2, l3] [vR (gq c1 s2.toNat), vI s0] σ Q := wp_aald rfl h hx
theorem r_B_pieceCount_19 (h : gK c1 = 4) : Wp L d k_B_pieceCount 19 [l0, l1, l2, l3] [vR c1, vI s0] σ Q ↔ Wp L d k_B_pieceCount 22 [l0, l1, l2, l3] [vI (σ c1 0), vI s0] σ Q := wp_getI (c := 1024) rfl rfl rfl rfl h
theorem r_B_pieceCount_22 : Wp L d k_B_pieceCount 22 [l0, l1, l2, l3] [vI s1, vI s0] σ Q ↔ Wp L d k_B_pieceCount 23 [l0, l1, l2, l3] [vI 4, vI s1, vI s0] σ Q := wp_push rfl
theorem r_B_pieceCount_23 : Wp L d k_B_pieceCount 23 [l0, l1, l2, l3] [vI s2, vI s1, vI s0] σ Q ↔ (if s1 ≠ s2 then Wp L d k_B_pieceCount 46 [l0, l1, l2, l3] [vI s0] σ Q else Wp L d k_B_pieceCount 26 [l0, l1, l2, l3] [vI s0] σ Q) := wp_cmp_ne rfl
theorem r_B_pieceCount_26 : Wp L d k_B_pieceCount 26 [vR b0, l1, l2, l3] [vI s0] σ Q ↔ Wp L d k_B_pieceCount 27 [vR b0, l1, l2, l3] [vR b0, vI s0] σ Q := wp_aload rfl rfl
theorem r_B_pieceCount_27 (h : gK c1 = 1) : Wp L d k_B_pieceCount 27 [l0, l1, l2, l3] [vR c1, vI s0] σ Q ↔ Wp L d k_B_pieceCount 30 [l0, l1, l2, l3] [vR (gq c1 3), vI s0] σ Q := wp_getR (c := 387) rfl rfl rfl rfl rfl h
theorem r_B_pieceCount_30 : Wp L d k_B_pieceCount 30 [l0, l1, l2, vI a3] [vR c1, vI s0] σ Q ↔ Wp L d k_B_pieceCount 31 [l0, l1, l2, vI a3] [vI a3, vR c1, vI s0] σ Q := wp_iload rfl rfl
theorem r_B_pieceCount_31 (h : gK c1 = 102 ∨ gK c1 = 103) (hx : 0 ≤ s2 ∧ s2 < gN c1) : Wp L d k_B_pieceCount 31 [l0, l1, l2, l3] [vI s2, vR c1, vI s0] σ Q ↔ Wp L d k_B_pieceCount 32 [l0, l1, l2, l3] [vR (gq c1 s2.toNat), vI s0] σ Q := wp_aald rfl h hx
theorem r_B_pieceCount_32 (h : gK c1 = 4) : Wp L d k_B_pieceCount 32 [l0, l1, l2, l3] [vR c1, vI s0] σ Q ↔ Wp L d k_B_pieceCount 35 [l0, l1, l2, l3] [vI (σ c1 11), vI s0] σ Q := wp_getI (c := 1099) rfl rfl rfl rfl h
theorem r_B_pieceCount_35 : Wp L d k_B_pieceCount 35 [l0, l1, l2, l3] [vI s1, vI s0] σ Q ↔ (if s1 ≠ 0 then Wp L d k_B_pieceCount 42 [l0, l1, l2, l3] [vI s0] σ Q else Wp L d k_B_pieceCount 38 [l0, l1, l2, l3] [vI s0] σ Q) := wp_if_ne rfl
theorem r_B_pieceCount_38 : Wp L d k_B_pieceCount 38 [l0, vI a1, l2, l3] [vI s0] σ Q ↔ Wp L d k_B_pieceCount 39 [l0, vI a1, l2, l3] [vI a1, vI s0] σ Q := wp_iload rfl rfl
theorem r_B_pieceCount_39 : Wp L d k_B_pieceCount 39 [l0, l1, l2, l3] [vI s1, vI s0] σ Q ↔ (if s1 ≠ 0 then Wp L d k_B_pieceCount 46 [l0, l1, l2, l3] [vI s0] σ Q else Wp L d k_B_pieceCount 42 [l0, l1, l2, l3] [vI s0] σ Q) := wp_if_ne rfl
theorem r_B_pieceCount_42 : Wp L d k_B_pieceCount 42 [l0, l1, l2, l3] [vI s0] σ Q ↔ Wp L d k_B_pieceCount 43 [l0, l1, l2, l3] [vI 1, vI s0] σ Q := wp_push rfl
theorem r_B_pieceCount_43 : Wp L d k_B_pieceCount 43 [l0, l1, l2, l3] [vI s1, vI s0] σ Q ↔ Wp L d k_B_pieceCount 47 [l0, l1, l2, l3] [vI s1, vI s0] σ Q := wp_goto rfl
theorem r_B_pieceCount_46 : Wp L d k_B_pieceCount 46 [l0, l1, l2, l3] [vI s0] σ Q ↔ Wp L d k_B_pieceCount 47 [l0, l1, l2, l3] [vI 0, vI s0] σ Q := wp_push rfl
theorem r_B_pieceCount_50 : Wp L d k_B_pieceCount 50 [l0, l1, l2, l3] [vI s1, vI s0] σ Q ↔ Wp L d k_B_pieceCount 51 [l0, l1, l2, l3] [vI (w32 (s0 + s1))] σ Q := wp_iadd rfl
theorem r_B_pieceCount_51 : Wp L d k_B_pieceCount 51 [l0, vI a1, l2, l3] [vI s0] σ Q ↔ Wp L d k_B_pieceCount 52 [l0, vI a1, vI s0, l3] [] σ Q := wp_istore (i := 2) (ls := [l0, vI a1, l2, l3]) rfl rfl
theorem r_B_pieceCount_52 : Wp L d k_B_pieceCount 52 [l0, l1, vI a2, vI a3] [] σ Q ↔ Wp L d k_B_pieceCount 55 [l0, l1, vI a2, vI (w32 (a3 + 1))] [] σ Q := wp_iinc (i := 3) (ls := [l0, l1, vI a2, vI a3]) rfl rfl
theorem r_B_pieceCount_55 : Wp L d k_B_pieceCount 55 [l0, l1, l2, l3] [] σ Q ↔ Wp L d k_B_pieceCount 4 [l0, l1, l2, l3] [] σ Q := wp_goto rfl
theorem r_B_pieceCount_58 : Wp L d k_B_pieceCount 58 [l0, l1, vI a2, l3] [] σ Q ↔ Wp L d k_B_pieceCount 59 [l0, l1, vI a2, l3] [vI a2] σ Q := wp_iload rfl rfl
theorem r_B_pieceCount_59 : Wp L d k_B_pieceCount 59 [l0, l1, l2, l3] [vI s0] σ Q ↔ Q (some (vI s0)) σ := wp_iret rfl
theorem r_B_pieceCount_47 : Wp L (d + 1) k_B_pieceCount 47 [l0, l1, l2, l3] [vI s1, vI s0] σ Q ↔ Wp L (d + 1) k_B_pieceCount 50 [l0, l1, l2, l3] [vI (gb (s1 ≠ 0)), vI s0] σ Q := wp_callR (d := d + 0) (as := [vI s1]) (rest := [vI s0]) rfl rfl rfl rfl rfl rfl rfl rfl (sp_X_bit)
theorem sp_B_pieceCount_0 {b : Nat} {f : Nat → Int}  (hB : BR b) (hw : WB f) (hc : CB b f σ) : Run L (d + 1) 118 [vR b, vI 0] σ (some (vI (gpcs f (f 1).toNat))) σ := by
  refine Run_of (C' := k_B_pieceCount) rfl ?_
  show Wp L (d + 1) k_B_pieceCount 0 [vR b, vI 0, vU, vU] [] σ _
  obtain ⟨⟨K0, q0, q1, q2, q3, q4, q5, q6, q7⟩, ⟨K1, K2, K3, K4, K5, K6, K7, K8⟩, ⟨N1, N2, N3, N4, N5, N6, N7, N8⟩, QP, KP⟩ := hB
  have w1 := hw.1
  have w2 := hw.2.1
  have c1 := hc.1
  have c2 := hc.2.1
  simp only [r_B_pieceCount_0, r_B_pieceCount_1, r_B_pieceCount_2, r_B_pieceCount_3, r_B_pieceCount_5, r_B_pieceCount_6, r_B_pieceCount_9, r_B_pieceCount_12, r_B_pieceCount_13, r_B_pieceCount_14, r_B_pieceCount_17, r_B_pieceCount_18, r_B_pieceCount_19, r_B_pieceCount_22, r_B_pieceCount_23, r_B_pieceCount_26, r_B_pieceCount_27, r_B_pieceCount_30, r_B_pieceCount_31, r_B_pieceCount_32, r_B_pieceCount_35, r_B_pieceCount_38, r_B_pieceCount_39, r_B_pieceCount_42, r_B_pieceCount_43, r_B_pieceCount_46, r_B_pieceCount_47, r_B_pieceCount_50, r_B_pieceCount_51, r_B_pieceCount_52, r_B_pieceCount_55, r_B_pieceCount_58, r_B_pieceCount_59]
  refine wloopF (f 1).toNat (fun k => [vR b, vI 0, vI (gpcs f k), vI (k : Int)]) (fun _ => σ) (fun k hk hq => ?_) ?_
  · have p := CBp hc (p := k) (by omega)
    have w := WBp hw (p := k) (by omega)
    have kp := KP k (by omega)
    have bd : 0 ≤ gpcs f k ∧ gpcs f k ≤ k := gsm_gb k
    by_cases e1 : σ (b + 9 + k) 0 = 4 <;> by_cases e2 : σ (b + 9 + k) 11 = 0 <;> first
      | (exfalso; omega)
      | (
        rw [r_B_pieceCount_4]
        simp (disch := first | assumption | exact gb_01 _ | omega) only [r_B_pieceCount_0, r_B_pieceCount_1, r_B_pieceCount_2, r_B_pieceCount_3, r_B_pieceCount_5, r_B_pieceCount_6, r_B_pieceCount_9, r_B_pieceCount_12, r_B_pieceCount_13, r_B_pieceCount_14, r_B_pieceCount_17, r_B_pieceCount_18, r_B_pieceCount_19, r_B_pieceCount_22, r_B_pieceCount_23, r_B_pieceCount_26, r_B_pieceCount_27, r_B_pieceCount_30, r_B_pieceCount_31, r_B_pieceCount_32, r_B_pieceCount_35, r_B_pieceCount_38, r_B_pieceCount_39, r_B_pieceCount_42, r_B_pieceCount_43, r_B_pieceCount_46, r_B_pieceCount_47, r_B_pieceCount_50, r_B_pieceCount_51, r_B_pieceCount_52, r_B_pieceCount_55, r_B_pieceCount_58, r_B_pieceCount_59, q0, q1, q2, q3, q4, q5, q6, q7, QP, w32_gb, w32i, tn_add, tn_mul, Int.toNat_natCast, Int.toNat_zero, Int.reduceLE, Int.reduceLT, Int.reduceEq, Int.reduceNe, gb_T, gb_F, Int.reduceToNat, eq_self, true_or, or_true, and_true, true_and, and_self, ↓ite_gb0, ↓ite_gbn, ↓if_pos, ↓if_neg, if_true, if_false, not_true_eq_false, not_false_eq_true, gb_ne0, gb_eq0]
        refine hq _ _ ?_ rfl
        simp only [List.cons.injEq, vI_inj, vR_inj, and_true, true_and]
        refine ⟨?_, by omega⟩
        simp only [gpcs, gsm]
        first | (rw [gb_t (by omega)] <;> omega) | (rw [gb_f (by omega)] <;> omega))
  · rw [r_B_pieceCount_4]
    simp (disch := first | assumption | exact gb_01 _ | omega) only [r_B_pieceCount_0, r_B_pieceCount_1, r_B_pieceCount_2, r_B_pieceCount_3, r_B_pieceCount_5, r_B_pieceCount_6, r_B_pieceCount_9, r_B_pieceCount_12, r_B_pieceCount_13, r_B_pieceCount_14, r_B_pieceCount_17, r_B_pieceCount_18, r_B_pieceCount_19, r_B_pieceCount_22, r_B_pieceCount_23, r_B_pieceCount_26, r_B_pieceCount_27, r_B_pieceCount_30, r_B_pieceCount_31, r_B_pieceCount_32, r_B_pieceCount_35, r_B_pieceCount_38, r_B_pieceCount_39, r_B_pieceCount_42, r_B_pieceCount_43, r_B_pieceCount_46, r_B_pieceCount_47, r_B_pieceCount_50, r_B_pieceCount_51, r_B_pieceCount_52, r_B_pieceCount_55, r_B_pieceCount_58, r_B_pieceCount_59, q0, q1, q2, q3, q4, q5, q6, q7, QP, w32_gb, w32i, tn_add, tn_mul, Int.toNat_natCast, Int.toNat_zero, Int.reduceLE, Int.reduceLT, Int.reduceEq, Int.reduceNe, gb_T, gb_F, Int.reduceToNat, eq_self, true_or, or_true, and_true, true_and, and_self, ↓ite_gb0, ↓ite_gbn, ↓if_pos, ↓if_neg, if_true, if_false, not_true_eq_false, not_false_eq_true, gb_ne0, gb_eq0]
theorem sp_B_pieceCount_1 {b : Nat} {f : Nat → Int}  (hB : BR b) (hw : WB f) (hc : CB b f σ) : Run L (d + 1) 118 [vR b, vI 1] σ (some (vI (gfnds f (f 1).toNat))) σ := by
  refine Run_of (C' := k_B_pieceCount) rfl ?_
  show Wp L (d + 1) k_B_pieceCount 0 [vR b, vI 1, vU, vU] [] σ _
  obtain ⟨⟨K0, q0, q1, q2, q3, q4, q5, q6, q7⟩, ⟨K1, K2, K3, K4, K5, K6, K7, K8⟩, ⟨N1, N2, N3, N4, N5, N6, N7, N8⟩, QP, KP⟩ := hB
  have w1 := hw.1
  have w2 := hw.2.1
  have c1 := hc.1
  have c2 := hc.2.1
  simp only [r_B_pieceCount_0, r_B_pieceCount_1, r_B_pieceCount_2, r_B_pieceCount_3, r_B_pieceCount_5, r_B_pieceCount_6, r_B_pieceCount_9, r_B_pieceCount_12, r_B_pieceCount_13, r_B_pieceCount_14, r_B_pieceCount_17, r_B_pieceCount_18, r_B_pieceCount_19, r_B_pieceCount_22, r_B_pieceCount_23, r_B_pieceCount_26, r_B_pieceCount_27, r_B_pieceCount_30, r_B_pieceCount_31, r_B_pieceCount_32, r_B_pieceCount_35, r_B_pieceCount_38, r_B_pieceCount_39, r_B_pieceCount_42, r_B_pieceCount_43, r_B_pieceCount_46, r_B_pieceCount_47, r_B_pieceCount_50, r_B_pieceCount_51, r_B_pieceCount_52, r_B_pieceCount_55, r_B_pieceCount_58, r_B_pieceCount_59]
  refine wloopF (f 1).toNat (fun k => [vR b, vI 1, vI (gfnds f k), vI (k : Int)]) (fun _ => σ) (fun k hk hq => ?_) ?_
  · have p := CBp hc (p := k) (by omega)
    have w := WBp hw (p := k) (by omega)
    have kp := KP k (by omega)
    have bd : 0 ≤ gfnds f k ∧ gfnds f k ≤ k := gsm_gb k
    by_cases e1 : σ (b + 9 + k) 0 = 4 <;> by_cases e2 : σ (b + 9 + k) 11 = 0 <;> first
      | (exfalso; omega)
      | (
        rw [r_B_pieceCount_4]
        simp (disch := first | assumption | exact gb_01 _ | omega) only [r_B_pieceCount_0, r_B_pieceCount_1, r_B_pieceCount_2, r_B_pieceCount_3, r_B_pieceCount_5, r_B_pieceCount_6, r_B_pieceCount_9, r_B_pieceCount_12, r_B_pieceCount_13, r_B_pieceCount_14, r_B_pieceCount_17, r_B_pieceCount_18, r_B_pieceCount_19, r_B_pieceCount_22, r_B_pieceCount_23, r_B_pieceCount_26, r_B_pieceCount_27, r_B_pieceCount_30, r_B_pieceCount_31, r_B_pieceCount_32, r_B_pieceCount_35, r_B_pieceCount_38, r_B_pieceCount_39, r_B_pieceCount_42, r_B_pieceCount_43, r_B_pieceCount_46, r_B_pieceCount_47, r_B_pieceCount_50, r_B_pieceCount_51, r_B_pieceCount_52, r_B_pieceCount_55, r_B_pieceCount_58, r_B_pieceCount_59, q0, q1, q2, q3, q4, q5, q6, q7, QP, w32_gb, w32i, tn_add, tn_mul, Int.toNat_natCast, Int.toNat_zero, Int.reduceLE, Int.reduceLT, Int.reduceEq, Int.reduceNe, gb_T, gb_F, Int.reduceToNat, eq_self, true_or, or_true, and_true, true_and, and_self, ↓ite_gb0, ↓ite_gbn, ↓if_pos, ↓if_neg, if_true, if_false, not_true_eq_false, not_false_eq_true, gb_ne0, gb_eq0]
        refine hq _ _ ?_ rfl
        simp only [List.cons.injEq, vI_inj, vR_inj, and_true, true_and]
        refine ⟨?_, by omega⟩
        simp only [gfnds, gsm]
        first | (rw [gb_t (by omega)] <;> omega) | (rw [gb_f (by omega)] <;> omega))
  · rw [r_B_pieceCount_4]
    simp (disch := first | assumption | exact gb_01 _ | omega) only [r_B_pieceCount_0, r_B_pieceCount_1, r_B_pieceCount_2, r_B_pieceCount_3, r_B_pieceCount_5, r_B_pieceCount_6, r_B_pieceCount_9, r_B_pieceCount_12, r_B_pieceCount_13, r_B_pieceCount_14, r_B_pieceCount_17, r_B_pieceCount_18, r_B_pieceCount_19, r_B_pieceCount_22, r_B_pieceCount_23, r_B_pieceCount_26, r_B_pieceCount_27, r_B_pieceCount_30, r_B_pieceCount_31, r_B_pieceCount_32, r_B_pieceCount_35, r_B_pieceCount_38, r_B_pieceCount_39, r_B_pieceCount_42, r_B_pieceCount_43, r_B_pieceCount_46, r_B_pieceCount_47, r_B_pieceCount_50, r_B_pieceCount_51, r_B_pieceCount_52, r_B_pieceCount_55, r_B_pieceCount_58, r_B_pieceCount_59, q0, q1, q2, q3, q4, q5, q6, q7, QP, w32_gb, w32i, tn_add, tn_mul, Int.toNat_natCast, Int.toNat_zero, Int.reduceLE, Int.reduceLT, Int.reduceEq, Int.reduceNe, gb_T, gb_F, Int.reduceToNat, eq_self, true_or, or_true, and_true, true_and, and_self, ↓ite_gb0, ↓ite_gbn, ↓if_pos, ↓if_neg, if_true, if_false, not_true_eq_false, not_false_eq_true, gb_ne0, gb_eq0]
theorem r_M_stands_0 : Wp L d k_M_stands 0 [vR b0, l1] [] σ Q ↔ Wp L d k_M_stands 1 [vR b0, l1] [vR b0] σ Q := wp_aload rfl rfl
theorem r_M_stands_1 (h : gK c0 = 12) : Wp L d k_M_stands 1 [l0, l1] [vR c0] σ Q ↔ Wp L d k_M_stands 4 [l0, l1] [vR (gq c0 0)] σ Q := wp_getR (c := 3200) rfl rfl rfl rfl rfl h
theorem r_M_stands_4 : Wp L d k_M_stands 4 [vR b0, l1] [vR c0] σ Q ↔ Wp L d k_M_stands 5 [vR b0, l1] [vR b0, vR c0] σ Q := wp_aload rfl rfl
theorem r_M_stands_5 : Wp L d k_M_stands 5 [l0, vI a1] [vR c1, vR c0] σ Q ↔ Wp L d k_M_stands 6 [l0, vI a1] [vI a1, vR c1, vR c0] σ Q := wp_iload rfl rfl
theorem r_M_stands_9 : Wp L d k_M_stands 9 [l0, l1] [vI s1, vR c0] σ Q ↔ Wp L d k_M_stands 11 [l0, l1] [vI 8, vI s1, vR c0] σ Q := wp_push rfl
theorem r_M_stands_11 : Wp L d k_M_stands 11 [l0, l1] [vI s2, vI s1, vR c0] σ Q ↔ Wp L d k_M_stands 12 [l0, l1] [vI (w32 (s1 + s2)), vR c0] σ Q := wp_iadd rfl
theorem r_M_stands_12 (h : gK c0 = 100) (hx : 0 ≤ s1 ∧ s1 < gN c0) : Wp L d k_M_stands 12 [l0, l1] [vI s1, vR c0] σ Q ↔ Wp L d k_M_stands 13 [l0, l1] [vI (σ c0 s1.toNat)] σ Q := wp_iald rfl h hx
theorem r_M_stands_13 : Wp L d k_M_stands 13 [l0, l1] [vI s0] σ Q ↔ Wp L d k_M_stands 14 [l0, l1] [vI 1, vI s0] σ Q := wp_push rfl
theorem r_M_stands_14 : Wp L d k_M_stands 14 [l0, l1] [vI s1, vI s0] σ Q ↔ (if s0 ≠ s1 then Wp L d k_M_stands 21 [l0, l1] [] σ Q else Wp L d k_M_stands 17 [l0, l1] [] σ Q) := wp_cmp_ne rfl
theorem r_M_stands_17 : Wp L d k_M_stands 17 [l0, l1] [] σ Q ↔ Wp L d k_M_stands 18 [l0, l1] [vI 1] σ Q := wp_push rfl
theorem r_M_stands_18 : Wp L d k_M_stands 18 [l0, l1] [vI s0] σ Q ↔ Wp L d k_M_stands 22 [l0, l1] [vI s0] σ Q := wp_goto rfl
theorem r_M_stands_21 : Wp L d k_M_stands 21 [l0, l1] [] σ Q ↔ Wp L d k_M_stands 22 [l0, l1] [vI 0] σ Q := wp_push rfl
theorem r_M_stands_22 (h : s0 = 0 ∨ s0 = 1) : Wp L d k_M_stands 22 [l0, l1] [vI s0] σ Q ↔ Q (some (vI s0)) σ := wp_zret rfl h
theorem r_M_stands_6 : Wp L (d + 1) k_M_stands 6 [l0, l1] [vI s2, vR 293, vR c0] σ Q ↔ Wp L (d + 1) k_M_stands 9 [l0, l1] [vI (w32 (120 + w32 (12 * s2))), vR c0] σ Q := wp_callR (d := d + 0) (as := [vR 293, vI s2]) (rest := [vR c0]) rfl rfl rfl rfl rfl rfl rfl (grecv_k (by rw [gK_293]) rfl) (sp_M_partAt)
theorem sp_M_stands (h : 0 ≤ a1 ∧ a1 ≤ 40) : Run L (d + 1) 216 [vR 293, vI a1] σ (some (vI (gb (σ 294 (120 + 12 * a1.toNat + 8) = 1)))) σ := by
  refine Run_of (C' := k_M_stands) rfl ?_
  show Wp L (d + 1) k_M_stands 0 [vR 293, vI a1] [] σ _
  obtain ⟨K293, Q293, K294, N294⟩ := litM
  by_cases e : σ 294 (120 + 12 * a1.toNat + 8) = 1
  · rw [gb_t e]
    simp (disch := first | assumption | exact gb_01 _ | omega) only [r_M_stands_0, r_M_stands_1, r_M_stands_4, r_M_stands_5, r_M_stands_6, r_M_stands_9, r_M_stands_11, r_M_stands_12, r_M_stands_13, r_M_stands_14, r_M_stands_17, r_M_stands_18, r_M_stands_21, r_M_stands_22, Q293, w32_gb, w32i, tn_add, tn_mul, Int.toNat_natCast, Int.toNat_zero, Int.reduceLE, Int.reduceLT, Int.reduceEq, Int.reduceNe, gb_T, gb_F, Int.reduceToNat, eq_self, true_or, or_true, and_true, true_and, and_self, ↓ite_gb0, ↓ite_gbn, ↓if_pos, ↓if_neg, if_true, if_false, not_true_eq_false, not_false_eq_true, gb_ne0, gb_eq0]
  · rw [gb_f e]
    simp (disch := first | assumption | exact gb_01 _ | omega) only [r_M_stands_0, r_M_stands_1, r_M_stands_4, r_M_stands_5, r_M_stands_6, r_M_stands_9, r_M_stands_11, r_M_stands_12, r_M_stands_13, r_M_stands_14, r_M_stands_17, r_M_stands_18, r_M_stands_21, r_M_stands_22, Q293, w32_gb, w32i, tn_add, tn_mul, Int.toNat_natCast, Int.toNat_zero, Int.reduceLE, Int.reduceLT, Int.reduceEq, Int.reduceNe, gb_T, gb_F, Int.reduceToNat, eq_self, true_or, or_true, and_true, true_and, and_self, ↓ite_gb0, ↓ite_gbn, ↓if_pos, ↓if_neg, if_true, if_false, not_true_eq_false, not_false_eq_true, gb_ne0, gb_eq0]
theorem sp_M_kindOf0 (h : 0 ≤ a1 ∧ a1 ≤ 40) : Run L (d + 1) 211 [vR 293, vI a1] σ (some (vI (σ 294 (120 + 12 * a1.toNat)))) σ := by
  refine Run_of (C' := k_M_kindOf) rfl ?_
  show Wp L (d + 1) k_M_kindOf 0 [vR 293, vI a1] [] σ _
  obtain ⟨K293, Q293, K294, N294⟩ := litM
  simp (disch := first | assumption | exact gb_01 _ | omega) only [r_M_kindOf_0, r_M_kindOf_1, r_M_kindOf_4, r_M_kindOf_5, r_M_kindOf_6, r_M_kindOf_9, r_M_kindOf_10, Q293, w32_gb, w32i, tn_add, tn_mul, Int.toNat_natCast, Int.toNat_zero, Int.reduceLE, Int.reduceLT, Int.reduceEq, Int.reduceNe, gb_T, gb_F, Int.reduceToNat, eq_self, true_or, or_true, and_true, true_and, and_self, ↓ite_gb0, ↓ite_gbn, ↓if_pos, ↓if_neg, if_true, if_false, not_true_eq_false, not_false_eq_true, gb_ne0, gb_eq0]
theorem r_M_isGone_0 : Wp L d k_M_isGone 0 [vR b0, l1] [] σ Q ↔ Wp L d k_M_isGone 1 [vR b0, l1] [vR b0] σ Q := wp_aload rfl rfl
theorem r_M_isGone_1 : Wp L d k_M_isGone 1 [l0, vI a1] [vR c0] σ Q ↔ Wp L d k_M_isGone 2 [l0, vI a1] [vI a1, vR c0] σ Q := wp_iload rfl rfl
theorem r_M_isGone_5 : Wp L d k_M_isGone 5 [l0, l1] [vI s0] σ Q ↔ Wp L d k_M_isGone 6 [l0, l1] [vI 4, vI s0] σ Q := wp_push rfl
theorem r_M_isGone_6 : Wp L d k_M_isGone 6 [l0, l1] [vI s1, vI s0] σ Q ↔ (if s0 = s1 then Wp L d k_M_isGone 21 [l0, l1] [] σ Q else Wp L d k_M_isGone 9 [l0, l1] [] σ Q) := wp_cmp_eq rfl
theorem r_M_isGone_9 : Wp L d k_M_isGone 9 [vR b0, l1] [] σ Q ↔ Wp L d k_M_isGone 10 [vR b0, l1] [vR b0] σ Q := wp_aload rfl rfl
theorem r_M_isGone_10 : Wp L d k_M_isGone 10 [l0, vI a1] [vR c0] σ Q ↔ Wp L d k_M_isGone 11 [l0, vI a1] [vI a1, vR c0] σ Q := wp_iload rfl rfl
theorem r_M_isGone_14 : Wp L d k_M_isGone 14 [l0, l1] [vI s0] σ Q ↔ (if s0 ≠ 0 then Wp L d k_M_isGone 21 [l0, l1] [] σ Q else Wp L d k_M_isGone 17 [l0, l1] [] σ Q) := wp_if_ne rfl
theorem r_M_isGone_17 : Wp L d k_M_isGone 17 [l0, l1] [] σ Q ↔ Wp L d k_M_isGone 18 [l0, l1] [vI 1] σ Q := wp_push rfl
theorem r_M_isGone_18 : Wp L d k_M_isGone 18 [l0, l1] [vI s0] σ Q ↔ Wp L d k_M_isGone 22 [l0, l1] [vI s0] σ Q := wp_goto rfl
theorem r_M_isGone_21 : Wp L d k_M_isGone 21 [l0, l1] [] σ Q ↔ Wp L d k_M_isGone 22 [l0, l1] [vI 0] σ Q := wp_push rfl
theorem r_M_isGone_22 (h : s0 = 0 ∨ s0 = 1) : Wp L d k_M_isGone 22 [l0, l1] [vI s0] σ Q ↔ Q (some (vI s0)) σ := wp_zret rfl h
theorem r_M_isGone_2 (h : 0 ≤ s1 ∧ s1 ≤ 40) : Wp L (d + 2) k_M_isGone 2 [l0, l1] [vI s1, vR 293] σ Q ↔ Wp L (d + 2) k_M_isGone 5 [l0, l1] [vI (σ 294 (120 + 12 * s1.toNat))] σ Q := wp_callR (d := d + 1) (as := [vR 293, vI s1]) (rest := []) rfl rfl rfl rfl rfl rfl rfl (grecv_k (by rw [gK_293]) rfl) (sp_M_kindOf0 h)
theorem r_M_isGone_11 (h : 0 ≤ s1 ∧ s1 ≤ 40) : Wp L (d + 2) k_M_isGone 11 [l0, l1] [vI s1, vR 293] σ Q ↔ Wp L (d + 2) k_M_isGone 14 [l0, l1] [vI (gb (σ 294 (120 + 12 * s1.toNat + 8) = 1))] σ Q := wp_callR (d := d + 1) (as := [vR 293, vI s1]) (rest := []) rfl rfl rfl rfl rfl rfl rfl (grecv_k (by rw [gK_293]) rfl) (sp_M_stands h)
theorem sp_M_isGone (h : 0 ≤ a1 ∧ a1 ≤ 40) : Run L (d + 2) 215 [vR 293, vI a1] σ (some (vI (gb (σ 294 (120 + 12 * a1.toNat) ≠ 4 ∧ ¬ σ 294 (120 + 12 * a1.toNat + 8) = 1)))) σ := by
  refine Run_of (C' := k_M_isGone) rfl ?_
  show Wp L (d + 2) k_M_isGone 0 [vR 293, vI a1] [] σ _
  obtain ⟨K293, Q293, K294, N294⟩ := litM
  by_cases e : σ 294 (120 + 12 * a1.toNat) = 4
  · rw [gb_f (by omega)]
    simp (disch := first | assumption | exact gb_01 _ | omega) only [r_M_isGone_0, r_M_isGone_1, r_M_isGone_2, r_M_isGone_5, r_M_isGone_6, r_M_isGone_9, r_M_isGone_10, r_M_isGone_11, r_M_isGone_14, r_M_isGone_17, r_M_isGone_18, r_M_isGone_21, r_M_isGone_22, Q293, w32_gb, w32i, tn_add, tn_mul, Int.toNat_natCast, Int.toNat_zero, Int.reduceLE, Int.reduceLT, Int.reduceEq, Int.reduceNe, gb_T, gb_F, Int.reduceToNat, eq_self, true_or, or_true, and_true, true_and, and_self, ↓ite_gb0, ↓ite_gbn, ↓if_pos, ↓if_neg, if_true, if_false, not_true_eq_false, not_false_eq_true, gb_ne0, gb_eq0]
  · by_cases e2 : σ 294 (120 + 12 * a1.toNat + 8) = 1
    · rw [gb_f (by omega)]
      simp (disch := first | assumption | exact gb_01 _ | omega) only [r_M_isGone_0, r_M_isGone_1, r_M_isGone_2, r_M_isGone_5, r_M_isGone_6, r_M_isGone_9, r_M_isGone_10, r_M_isGone_11, r_M_isGone_14, r_M_isGone_17, r_M_isGone_18, r_M_isGone_21, r_M_isGone_22, Q293, w32_gb, w32i, tn_add, tn_mul, Int.toNat_natCast, Int.toNat_zero, Int.reduceLE, Int.reduceLT, Int.reduceEq, Int.reduceNe, gb_T, gb_F, Int.reduceToNat, eq_self, true_or, or_true, and_true, true_and, and_self, ↓ite_gb0, ↓ite_gbn, ↓if_pos, ↓if_neg, if_true, if_false, not_true_eq_false, not_false_eq_true, gb_ne0, gb_eq0]
    · rw [gb_t (by omega)]
      simp (disch := first | assumption | exact gb_01 _ | omega) only [r_M_isGone_0, r_M_isGone_1, r_M_isGone_2, r_M_isGone_5, r_M_isGone_6, r_M_isGone_9, r_M_isGone_10, r_M_isGone_11, r_M_isGone_14, r_M_isGone_17, r_M_isGone_18, r_M_isGone_21, r_M_isGone_22, Q293, w32_gb, w32i, tn_add, tn_mul, Int.toNat_natCast, Int.toNat_zero, Int.reduceLE, Int.reduceLT, Int.reduceEq, Int.reduceNe, gb_T, gb_F, Int.reduceToNat, eq_self, true_or, or_true, and_true, true_and, and_self, ↓ite_gb0, ↓ite_gbn, ↓if_pos, ↓if_neg, if_true, if_false, not_true_eq_false, not_false_eq_true, gb_ne0, gb_eq0]
theorem r_M_gone_0 : Wp L d k_M_gone 0 [l0, l1, l2] [] σ Q ↔ Wp L d k_M_gone 1 [l0, l1, l2] [vI 0] σ Q := wp_push rfl
theorem r_M_gone_1 : Wp L d k_M_gone 1 [vR b0, l1, l2] [vI s0] σ Q ↔ Wp L d k_M_gone 2 [vR b0, vI s0, l2] [] σ Q := wp_istore (i := 1) (ls := [vR b0, l1, l2]) rfl rfl
theorem r_M_gone_2 : Wp L d k_M_gone 2 [l0, l1, l2] [] σ Q ↔ Wp L d k_M_gone 3 [l0, l1, l2] [vI 0] σ Q := wp_push rfl
theorem r_M_gone_3 : Wp L d k_M_gone 3 [l0, vI a1, l2] [vI s0] σ Q ↔ Wp L d k_M_gone 4 [l0, vI a1, vI s0] [] σ Q := wp_istore (i := 2) (ls := [l0, vI a1, l2]) rfl rfl
theorem r_M_gone_4 : Wp L d k_M_gone 4 [l0, l1, vI a2] [] σ Q ↔ Wp L d k_M_gone 5 [l0, l1, vI a2] [vI a2] σ Q := wp_iload rfl rfl
theorem r_M_gone_5 : Wp L d k_M_gone 5 [vR b0, l1, l2] [vI s0] σ Q ↔ Wp L d k_M_gone 6 [vR b0, l1, l2] [vR b0, vI s0] σ Q := wp_aload rfl rfl
theorem r_M_gone_6 (h : gK c1 = 12) : Wp L d k_M_gone 6 [l0, l1, l2] [vR c1, vI s0] σ Q ↔ Wp L d k_M_gone 9 [l0, l1, l2] [vR (gq c1 0), vI s0] σ Q := wp_getR (c := 3200) rfl rfl rfl rfl rfl h
theorem r_M_gone_9 : Wp L d k_M_gone 9 [l0, l1, l2] [vR c1, vI s0] σ Q ↔ Wp L d k_M_gone 10 [l0, l1, l2] [vI 1, vR c1, vI s0] σ Q := wp_push rfl
theorem r_M_gone_10 (h : gK c1 = 100) (hx : 0 ≤ s2 ∧ s2 < gN c1) : Wp L d k_M_gone 10 [l0, l1, l2] [vI s2, vR c1, vI s0] σ Q ↔ Wp L d k_M_gone 11 [l0, l1, l2] [vI (σ c1 s2.toNat), vI s0] σ Q := wp_iald rfl h hx
theorem r_M_gone_11 : Wp L d k_M_gone 11 [l0, l1, l2] [vI s1, vI s0] σ Q ↔ (if s1 ≤ s0 then Wp L d k_M_gone 36 [l0, l1, l2] [] σ Q else Wp L d k_M_gone 14 [l0, l1, l2] [] σ Q) := wp_cmp_ge rfl
theorem r_M_gone_14 : Wp L d k_M_gone 14 [l0, vI a1, l2] [] σ Q ↔ Wp L d k_M_gone 15 [l0, vI a1, l2] [vI a1] σ Q := wp_iload rfl rfl
theorem r_M_gone_15 : Wp L d k_M_gone 15 [vR b0, l1, l2] [vI s0] σ Q ↔ Wp L d k_M_gone 16 [vR b0, l1, l2] [vR b0, vI s0] σ Q := wp_aload rfl rfl
theorem r_M_gone_16 : Wp L d k_M_gone 16 [l0, l1, vI a2] [vR c1, vI s0] σ Q ↔ Wp L d k_M_gone 17 [l0, l1, vI a2] [vI a2, vR c1, vI s0] σ Q := wp_iload rfl rfl
theorem r_M_gone_20 : Wp L d k_M_gone 20 [l0, l1, l2] [vI s1, vI s0] σ Q ↔ (if s1 = 0 then Wp L d k_M_gone 27 [l0, l1, l2] [vI s0] σ Q else Wp L d k_M_gone 23 [l0, l1, l2] [vI s0] σ Q) := wp_if_eq rfl
theorem r_M_gone_23 : Wp L d k_M_gone 23 [l0, l1, l2] [vI s0] σ Q ↔ Wp L d k_M_gone 24 [l0, l1, l2] [vI 1, vI s0] σ Q := wp_push rfl
theorem r_M_gone_24 : Wp L d k_M_gone 24 [l0, l1, l2] [vI s1, vI s0] σ Q ↔ Wp L d k_M_gone 28 [l0, l1, l2] [vI s1, vI s0] σ Q := wp_goto rfl
theorem r_M_gone_27 : Wp L d k_M_gone 27 [l0, l1, l2] [vI s0] σ Q ↔ Wp L d k_M_gone 28 [l0, l1, l2] [vI 0, vI s0] σ Q := wp_push rfl
theorem r_M_gone_28 : Wp L d k_M_gone 28 [l0, l1, l2] [vI s1, vI s0] σ Q ↔ Wp L d k_M_gone 29 [l0, l1, l2] [vI (w32 (s0 + s1))] σ Q := wp_iadd rfl
theorem r_M_gone_29 : Wp L d k_M_gone 29 [vR b0, l1, l2] [vI s0] σ Q ↔ Wp L d k_M_gone 30 [vR b0, vI s0, l2] [] σ Q := wp_istore (i := 1) (ls := [vR b0, l1, l2]) rfl rfl
theorem r_M_gone_30 : Wp L d k_M_gone 30 [l0, vI a1, vI a2] [] σ Q ↔ Wp L d k_M_gone 33 [l0, vI a1, vI (w32 (a2 + 1))] [] σ Q := wp_iinc (i := 2) (ls := [l0, vI a1, vI a2]) rfl rfl
theorem r_M_gone_33 : Wp L d k_M_gone 33 [l0, l1, l2] [] σ Q ↔ Wp L d k_M_gone 4 [l0, l1, l2] [] σ Q := wp_goto rfl
theorem r_M_gone_36 : Wp L d k_M_gone 36 [l0, vI a1, l2] [] σ Q ↔ Wp L d k_M_gone 37 [l0, vI a1, l2] [vI a1] σ Q := wp_iload rfl rfl
theorem r_M_gone_37 : Wp L d k_M_gone 37 [l0, l1, l2] [vI s0] σ Q ↔ Q (some (vI s0)) σ := wp_iret rfl
theorem r_M_gone_17 (h : 0 ≤ s2 ∧ s2 ≤ 40) : Wp L (d + 3) k_M_gone 17 [l0, l1, l2] [vI s2, vR 293, vI s0] σ Q ↔ Wp L (d + 3) k_M_gone 20 [l0, l1, l2] [vI (gb (σ 294 (120 + 12 * s2.toNat) ≠ 4 ∧ ¬ σ 294 (120 + 12 * s2.toNat + 8) = 1)), vI s0] σ Q := wp_callR (d := d + 2) (as := [vR 293, vI s2]) (rest := [vI s0]) rfl rfl rfl rfl rfl rfl rfl (grecv_k (by rw [gK_293]) rfl) (sp_M_isGone h)
theorem sp_M_gone (hw : WB (σ 294)) : Run L (d + 3) 214 [vR 293] σ (some (vI (ggone (σ 294) (σ 294 1).toNat))) σ := by
  refine Run_of (C' := k_M_gone) rfl ?_
  show Wp L (d + 3) k_M_gone 0 [vR 293, vU, vU] [] σ _
  obtain ⟨K293, Q293, K294, N294⟩ := litM
  have w1 := hw.1
  have w2 := hw.2.1
  simp (disch := first | assumption | exact gb_01 _ | omega) only [r_M_gone_0, r_M_gone_1, r_M_gone_2, r_M_gone_3, r_M_gone_5, r_M_gone_6, r_M_gone_9, r_M_gone_10, r_M_gone_11, r_M_gone_14, r_M_gone_15, r_M_gone_16, r_M_gone_17, r_M_gone_20, r_M_gone_23, r_M_gone_24, r_M_gone_27, r_M_gone_28, r_M_gone_29, r_M_gone_30, r_M_gone_33, r_M_gone_36, r_M_gone_37, Q293, w32_gb, w32i, tn_add, tn_mul, Int.toNat_natCast, Int.toNat_zero, Int.reduceLE, Int.reduceLT, Int.reduceEq, Int.reduceNe, gb_T, gb_F, Int.reduceToNat, eq_self, true_or, or_true, and_true, true_and, and_self, ↓ite_gb0, ↓ite_gbn, ↓if_pos, ↓if_neg, if_true, if_false, not_true_eq_false, not_false_eq_true, gb_ne0, gb_eq0]
  refine wloopF (σ 294 1).toNat (fun k => [vR 293, vI (ggone (σ 294) k), vI (k : Int)]) (fun _ => σ) (fun k hk hq => ?_) ?_
  · have w := WBp hw (p := k) (by omega)
    have bd := ggone_bd (σ 294) k
    by_cases e1 : σ 294 (120 + 12 * k) = 4 <;> by_cases e2 : σ 294 (120 + 12 * k + 8) = 1 <;> first
      | (exfalso; omega)
      | (
        rw [r_M_gone_4]
        simp (disch := first | assumption | exact gb_01 _ | omega) only [r_M_gone_0, r_M_gone_1, r_M_gone_2, r_M_gone_3, r_M_gone_5, r_M_gone_6, r_M_gone_9, r_M_gone_10, r_M_gone_11, r_M_gone_14, r_M_gone_15, r_M_gone_16, r_M_gone_17, r_M_gone_20, r_M_gone_23, r_M_gone_24, r_M_gone_27, r_M_gone_28, r_M_gone_29, r_M_gone_30, r_M_gone_33, r_M_gone_36, r_M_gone_37, Q293, w32_gb, w32i, tn_add, tn_mul, Int.toNat_natCast, Int.toNat_zero, Int.reduceLE, Int.reduceLT, Int.reduceEq, Int.reduceNe, gb_T, gb_F, Int.reduceToNat, eq_self, true_or, or_true, and_true, true_and, and_self, ↓ite_gb0, ↓ite_gbn, ↓if_pos, ↓if_neg, if_true, if_false, not_true_eq_false, not_false_eq_true, gb_ne0, gb_eq0]
        refine hq _ _ ?_ rfl
        simp only [List.cons.injEq, vI_inj, vR_inj, and_true, true_and]
        refine ⟨?_, by omega⟩
        simp only [ggone, gsm]
        first | (rw [gb_t (by omega)] <;> omega) | (rw [gb_f (by omega)] <;> omega))
  · rw [r_M_gone_4]
    simp (disch := first | assumption | exact gb_01 _ | omega) only [r_M_gone_0, r_M_gone_1, r_M_gone_2, r_M_gone_3, r_M_gone_5, r_M_gone_6, r_M_gone_9, r_M_gone_10, r_M_gone_11, r_M_gone_14, r_M_gone_15, r_M_gone_16, r_M_gone_17, r_M_gone_20, r_M_gone_23, r_M_gone_24, r_M_gone_27, r_M_gone_28, r_M_gone_29, r_M_gone_30, r_M_gone_33, r_M_gone_36, r_M_gone_37, Q293, w32_gb, w32i, tn_add, tn_mul, Int.toNat_natCast, Int.toNat_zero, Int.reduceLE, Int.reduceLT, Int.reduceEq, Int.reduceNe, gb_T, gb_F, Int.reduceToNat, eq_self, true_or, or_true, and_true, true_and, and_self, ↓ite_gb0, ↓ite_gbn, ↓if_pos, ↓if_neg, if_true, if_false, not_true_eq_false, not_false_eq_true, gb_ne0, gb_eq0]
theorem r_M_down_0 : Wp L d k_M_down 0 [l0, l1, l2] [] σ Q ↔ Wp L d k_M_down 1 [l0, l1, l2] [vI 0] σ Q := wp_push rfl
theorem r_M_down_1 : Wp L d k_M_down 1 [vR b0, l1, l2] [vI s0] σ Q ↔ Wp L d k_M_down 2 [vR b0, vI s0, l2] [] σ Q := wp_istore (i := 1) (ls := [vR b0, l1, l2]) rfl rfl
theorem r_M_down_2 : Wp L d k_M_down 2 [l0, l1, l2] [] σ Q ↔ Wp L d k_M_down 3 [l0, l1, l2] [vI 0] σ Q := wp_push rfl
theorem r_M_down_3 : Wp L d k_M_down 3 [l0, vI a1, l2] [vI s0] σ Q ↔ Wp L d k_M_down 4 [l0, vI a1, vI s0] [] σ Q := wp_istore (i := 2) (ls := [l0, vI a1, l2]) rfl rfl
theorem r_M_down_4 : Wp L d k_M_down 4 [l0, l1, vI a2] [] σ Q ↔ Wp L d k_M_down 5 [l0, l1, vI a2] [vI a2] σ Q := wp_iload rfl rfl
theorem r_M_down_5 : Wp L d k_M_down 5 [vR b0, l1, l2] [vI s0] σ Q ↔ Wp L d k_M_down 6 [vR b0, l1, l2] [vR b0, vI s0] σ Q := wp_aload rfl rfl
theorem r_M_down_6 (h : gK c1 = 12) : Wp L d k_M_down 6 [l0, l1, l2] [vR c1, vI s0] σ Q ↔ Wp L d k_M_down 9 [l0, l1, l2] [vR (gq c1 0), vI s0] σ Q := wp_getR (c := 3200) rfl rfl rfl rfl rfl h
theorem r_M_down_9 : Wp L d k_M_down 9 [l0, l1, l2] [vR c1, vI s0] σ Q ↔ Wp L d k_M_down 10 [l0, l1, l2] [vI 0, vR c1, vI s0] σ Q := wp_push rfl
theorem r_M_down_10 (h : gK c1 = 100) (hx : 0 ≤ s2 ∧ s2 < gN c1) : Wp L d k_M_down 10 [l0, l1, l2] [vI s2, vR c1, vI s0] σ Q ↔ Wp L d k_M_down 11 [l0, l1, l2] [vI (σ c1 s2.toNat), vI s0] σ Q := wp_iald rfl h hx
theorem r_M_down_11 : Wp L d k_M_down 11 [l0, l1, l2] [vI s1, vI s0] σ Q ↔ (if s1 ≤ s0 then Wp L d k_M_down 35 [l0, l1, l2] [] σ Q else Wp L d k_M_down 14 [l0, l1, l2] [] σ Q) := wp_cmp_ge rfl
theorem r_M_down_14 : Wp L d k_M_down 14 [l0, vI a1, l2] [] σ Q ↔ Wp L d k_M_down 15 [l0, vI a1, l2] [vI a1] σ Q := wp_iload rfl rfl
theorem r_M_down_15 : Wp L d k_M_down 15 [vR b0, l1, l2] [vI s0] σ Q ↔ Wp L d k_M_down 16 [vR b0, l1, l2] [vR b0, vI s0] σ Q := wp_aload rfl rfl
theorem r_M_down_16 (h : gK c1 = 12) : Wp L d k_M_down 16 [l0, l1, l2] [vR c1, vI s0] σ Q ↔ Wp L d k_M_down 19 [l0, l1, l2] [vR (gq c1 0), vI s0] σ Q := wp_getR (c := 3200) rfl rfl rfl rfl rfl h
theorem r_M_down_19 : Wp L d k_M_down 19 [vR b0, l1, l2] [vR c1, vI s0] σ Q ↔ Wp L d k_M_down 20 [vR b0, l1, l2] [vR b0, vR c1, vI s0] σ Q := wp_aload rfl rfl
theorem r_M_down_20 : Wp L d k_M_down 20 [l0, l1, vI a2] [vR c2, vR c1, vI s0] σ Q ↔ Wp L d k_M_down 21 [l0, l1, vI a2] [vI a2, vR c2, vR c1, vI s0] σ Q := wp_iload rfl rfl
theorem r_M_down_24 : Wp L d k_M_down 24 [l0, l1, l2] [vI s2, vR c1, vI s0] σ Q ↔ Wp L d k_M_down 25 [l0, l1, l2] [vI 2, vI s2, vR c1, vI s0] σ Q := wp_push rfl
theorem r_M_down_25 : Wp L d k_M_down 25 [l0, l1, l2] [vI s3, vI s2, vR c1, vI s0] σ Q ↔ Wp L d k_M_down 26 [l0, l1, l2] [vI (w32 (s2 + s3)), vR c1, vI s0] σ Q := wp_iadd rfl
theorem r_M_down_26 (h : gK c1 = 100) (hx : 0 ≤ s2 ∧ s2 < gN c1) : Wp L d k_M_down 26 [l0, l1, l2] [vI s2, vR c1, vI s0] σ Q ↔ Wp L d k_M_down 27 [l0, l1, l2] [vI (σ c1 s2.toNat), vI s0] σ Q := wp_iald rfl h hx
theorem r_M_down_27 : Wp L d k_M_down 27 [l0, l1, l2] [vI s1, vI s0] σ Q ↔ Wp L d k_M_down 28 [l0, l1, l2] [vI (w32 (s0 + s1))] σ Q := wp_iadd rfl
theorem r_M_down_28 : Wp L d k_M_down 28 [vR b0, l1, l2] [vI s0] σ Q ↔ Wp L d k_M_down 29 [vR b0, vI s0, l2] [] σ Q := wp_istore (i := 1) (ls := [vR b0, l1, l2]) rfl rfl
theorem r_M_down_29 : Wp L d k_M_down 29 [l0, vI a1, vI a2] [] σ Q ↔ Wp L d k_M_down 32 [l0, vI a1, vI (w32 (a2 + 1))] [] σ Q := wp_iinc (i := 2) (ls := [l0, vI a1, vI a2]) rfl rfl
theorem r_M_down_32 : Wp L d k_M_down 32 [l0, l1, l2] [] σ Q ↔ Wp L d k_M_down 4 [l0, l1, l2] [] σ Q := wp_goto rfl
theorem r_M_down_35 : Wp L d k_M_down 35 [l0, vI a1, l2] [] σ Q ↔ Wp L d k_M_down 36 [l0, vI a1, l2] [vI a1] σ Q := wp_iload rfl rfl
theorem r_M_down_36 : Wp L d k_M_down 36 [l0, l1, l2] [vI s0] σ Q ↔ Q (some (vI s0)) σ := wp_iret rfl
theorem r_M_down_21 : Wp L (d + 1) k_M_down 21 [l0, l1, l2] [vI s3, vR 293, vR c1, vI s0] σ Q ↔ Wp L (d + 1) k_M_down 24 [l0, l1, l2] [vI (w32 (20 + w32 (3 * s3))), vR c1, vI s0] σ Q := wp_callR (d := d + 0) (as := [vR 293, vI s3]) (rest := [vR c1, vI s0]) rfl rfl rfl rfl rfl rfl rfl (grecv_k (by rw [gK_293]) rfl) (sp_M_spanAt)
theorem sp_M_down (hw : WB (σ 294)) : Run L (d + 1) 315 [vR 293] σ (some (vI (gdown (σ 294) (σ 294 0).toNat))) σ := by
  refine Run_of (C' := k_M_down) rfl ?_
  show Wp L (d + 1) k_M_down 0 [vR 293, vU, vU] [] σ _
  obtain ⟨K293, Q293, K294, N294⟩ := litM
  have w1 := hw.1
  have w2 := hw.2.1
  simp (disch := first | assumption | exact gb_01 _ | omega) only [r_M_down_0, r_M_down_1, r_M_down_2, r_M_down_3, r_M_down_5, r_M_down_6, r_M_down_9, r_M_down_10, r_M_down_11, r_M_down_14, r_M_down_15, r_M_down_16, r_M_down_19, r_M_down_20, r_M_down_21, r_M_down_24, r_M_down_25, r_M_down_26, r_M_down_27, r_M_down_28, r_M_down_29, r_M_down_32, r_M_down_35, r_M_down_36, Q293, w32_gb, w32i, tn_add, tn_mul, Int.toNat_natCast, Int.toNat_zero, Int.reduceLE, Int.reduceLT, Int.reduceEq, Int.reduceNe, gb_T, gb_F, Int.reduceToNat, eq_self, true_or, or_true, and_true, true_and, and_self, ↓ite_gb0, ↓ite_gbn, ↓if_pos, ↓if_neg, if_true, if_false, not_true_eq_false, not_false_eq_true, gb_ne0, gb_eq0]
  refine wloopF (σ 294 0).toNat (fun k => [vR 293, vI (gdown (σ 294) k), vI (k : Int)]) (fun _ => σ) (fun k hk hq => ?_) ?_
  · have w3 := (hw.2.2.1 k (by omega)).2.2
    have bd := gdown_bd hw k (by omega)
    rw [r_M_down_4]
    simp (disch := first | assumption | exact gb_01 _ | omega) only [r_M_down_0, r_M_down_1, r_M_down_2, r_M_down_3, r_M_down_5, r_M_down_6, r_M_down_9, r_M_down_10, r_M_down_11, r_M_down_14, r_M_down_15, r_M_down_16, r_M_down_19, r_M_down_20, r_M_down_21, r_M_down_24, r_M_down_25, r_M_down_26, r_M_down_27, r_M_down_28, r_M_down_29, r_M_down_32, r_M_down_35, r_M_down_36, Q293, w32_gb, w32i, tn_add, tn_mul, Int.toNat_natCast, Int.toNat_zero, Int.reduceLE, Int.reduceLT, Int.reduceEq, Int.reduceNe, gb_T, gb_F, Int.reduceToNat, eq_self, true_or, or_true, and_true, true_and, and_self, ↓ite_gb0, ↓ite_gbn, ↓if_pos, ↓if_neg, if_true, if_false, not_true_eq_false, not_false_eq_true, gb_ne0, gb_eq0]
    refine hq _ _ ?_ rfl
    simp only [List.cons.injEq, vI_inj, vR_inj, and_true, true_and]
    refine ⟨?_, by omega⟩
    simp only [gdown, gsm]
  · rw [r_M_down_4]
    simp (disch := first | assumption | exact gb_01 _ | omega) only [r_M_down_0, r_M_down_1, r_M_down_2, r_M_down_3, r_M_down_5, r_M_down_6, r_M_down_9, r_M_down_10, r_M_down_11, r_M_down_14, r_M_down_15, r_M_down_16, r_M_down_19, r_M_down_20, r_M_down_21, r_M_down_24, r_M_down_25, r_M_down_26, r_M_down_27, r_M_down_28, r_M_down_29, r_M_down_32, r_M_down_35, r_M_down_36, Q293, w32_gb, w32i, tn_add, tn_mul, Int.toNat_natCast, Int.toNat_zero, Int.reduceLE, Int.reduceLT, Int.reduceEq, Int.reduceNe, gb_T, gb_F, Int.reduceToNat, eq_self, true_or, or_true, and_true, true_and, and_self, ↓ite_gb0, ↓ite_gbn, ↓if_pos, ↓if_neg, if_true, if_false, not_true_eq_false, not_false_eq_true, gb_ne0, gb_eq0]
theorem r_X_count_0 : Wp L d k_X_count 0 [l0, vI a1] [] σ Q ↔ Wp L d k_X_count 1 [l0, vI a1] [vI a1] σ Q := wp_iload rfl rfl
theorem r_X_count_1 : Wp L d k_X_count 1 [l0, l1] [vI s0] σ Q ↔ (if s0 = 0 then Wp L d k_X_count 80 [l0, l1] [] σ Q else if s0 = 1 then Wp L d k_X_count 88 [l0, l1] [] σ Q else if s0 = 2 then Wp L d k_X_count 96 [l0, l1] [] σ Q else if s0 = 3 then Wp L d k_X_count 104 [l0, l1] [] σ Q else if s0 = 4 then Wp L d k_X_count 112 [l0, l1] [] σ Q else if s0 = 5 then Wp L d k_X_count 121 [l0, l1] [] σ Q else if s0 = 6 then Wp L d k_X_count 130 [l0, l1] [] σ Q else if s0 = 7 then Wp L d k_X_count 141 [l0, l1] [] σ Q else if s0 = 8 then Wp L d k_X_count 152 [l0, l1] [] σ Q else if s0 = 9 then Wp L d k_X_count 163 [l0, l1] [] σ Q else if s0 = 10 then Wp L d k_X_count 174 [l0, l1] [] σ Q else if s0 = 11 then Wp L d k_X_count 185 [l0, l1] [] σ Q else if s0 = 12 then Wp L d k_X_count 190 [l0, l1] [] σ Q else if s0 = 13 then Wp L d k_X_count 198 [l0, l1] [] σ Q else if s0 = 14 then Wp L d k_X_count 206 [l0, l1] [] σ Q else if s0 = 15 then Wp L d k_X_count 214 [l0, l1] [] σ Q else Wp L d k_X_count 225 [l0, l1] [] σ Q) := by
  by_cases h0 : s0 = 0
  · subst h0
    rw [if_pos rfl]
    exact Wp_s rfl rfl rfl rfl
  by_cases h1 : s0 = 1
  · subst h1
    rw [if_neg (by omega), if_pos rfl]
    exact Wp_s rfl rfl rfl rfl
  by_cases h2 : s0 = 2
  · subst h2
    rw [if_neg (by omega), if_neg (by omega), if_pos rfl]
    exact Wp_s rfl rfl rfl rfl
  by_cases h3 : s0 = 3
  · subst h3
    rw [if_neg (by omega), if_neg (by omega), if_neg (by omega), if_pos rfl]
    exact Wp_s rfl rfl rfl rfl
  by_cases h4 : s0 = 4
  · subst h4
    rw [if_neg (by omega), if_neg (by omega), if_neg (by omega), if_neg (by omega), if_pos rfl]
    exact Wp_s rfl rfl rfl rfl
  by_cases h5 : s0 = 5
  · subst h5
    rw [if_neg (by omega), if_neg (by omega), if_neg (by omega), if_neg (by omega), if_neg (by omega), if_pos rfl]
    exact Wp_s rfl rfl rfl rfl
  by_cases h6 : s0 = 6
  · subst h6
    rw [if_neg (by omega), if_neg (by omega), if_neg (by omega), if_neg (by omega), if_neg (by omega), if_neg (by omega), if_pos rfl]
    exact Wp_s rfl rfl rfl rfl
  by_cases h7 : s0 = 7
  · subst h7
    rw [if_neg (by omega), if_neg (by omega), if_neg (by omega), if_neg (by omega), if_neg (by omega), if_neg (by omega), if_neg (by omega), if_pos rfl]
    exact Wp_s rfl rfl rfl rfl
  by_cases h8 : s0 = 8
  · subst h8
    rw [if_neg (by omega), if_neg (by omega), if_neg (by omega), if_neg (by omega), if_neg (by omega), if_neg (by omega), if_neg (by omega), if_neg (by omega), if_pos rfl]
    exact Wp_s rfl rfl rfl rfl
  by_cases h9 : s0 = 9
  · subst h9
    rw [if_neg (by omega), if_neg (by omega), if_neg (by omega), if_neg (by omega), if_neg (by omega), if_neg (by omega), if_neg (by omega), if_neg (by omega), if_neg (by omega), if_pos rfl]
    exact Wp_s rfl rfl rfl rfl
  by_cases h10 : s0 = 10
  · subst h10
    rw [if_neg (by omega), if_neg (by omega), if_neg (by omega), if_neg (by omega), if_neg (by omega), if_neg (by omega), if_neg (by omega), if_neg (by omega), if_neg (by omega), if_neg (by omega), if_pos rfl]
    exact Wp_s rfl rfl rfl rfl
  by_cases h11 : s0 = 11
  · subst h11
    rw [if_neg (by omega), if_neg (by omega), if_neg (by omega), if_neg (by omega), if_neg (by omega), if_neg (by omega), if_neg (by omega), if_neg (by omega), if_neg (by omega), if_neg (by omega), if_neg (by omega), if_pos rfl]
    exact Wp_s rfl rfl rfl rfl
  by_cases h12 : s0 = 12
  · subst h12
    rw [if_neg (by omega), if_neg (by omega), if_neg (by omega), if_neg (by omega), if_neg (by omega), if_neg (by omega), if_neg (by omega), if_neg (by omega), if_neg (by omega), if_neg (by omega), if_neg (by omega), if_neg (by omega), if_pos rfl]
    exact Wp_s rfl rfl rfl rfl
  by_cases h13 : s0 = 13
  · subst h13
    rw [if_neg (by omega), if_neg (by omega), if_neg (by omega), if_neg (by omega), if_neg (by omega), if_neg (by omega), if_neg (by omega), if_neg (by omega), if_neg (by omega), if_neg (by omega), if_neg (by omega), if_neg (by omega), if_neg (by omega), if_pos rfl]
    exact Wp_s rfl rfl rfl rfl
  by_cases h14 : s0 = 14
  · subst h14
    rw [if_neg (by omega), if_neg (by omega), if_neg (by omega), if_neg (by omega), if_neg (by omega), if_neg (by omega), if_neg (by omega), if_neg (by omega), if_neg (by omega), if_neg (by omega), if_neg (by omega), if_neg (by omega), if_neg (by omega), if_neg (by omega), if_pos rfl]
    exact Wp_s rfl rfl rfl rfl
  by_cases h15 : s0 = 15
  · subst h15
    rw [if_neg (by omega), if_neg (by omega), if_neg (by omega), if_neg (by omega), if_neg (by omega), if_neg (by omega), if_neg (by omega), if_neg (by omega), if_neg (by omega), if_neg (by omega), if_neg (by omega), if_neg (by omega), if_neg (by omega), if_neg (by omega), if_neg (by omega), if_pos rfl]
    exact Wp_s rfl rfl rfl rfl
  rw [if_neg h0, if_neg h1, if_neg h2, if_neg h3, if_neg h4, if_neg h5, if_neg h6, if_neg h7, if_neg h8, if_neg h9, if_neg h10, if_neg h11, if_neg h12, if_neg h13, if_neg h14, if_neg h15]
  have hout : s0 < 0 ∨ 15 < s0 := by omega
  exact Wp_s rfl rfl rfl (by simp only [gstep, vI, if_pos hout]; rfl)
theorem r_X_count_80 : Wp L d k_X_count 80 [vR b0, l1] [] σ Q ↔ Wp L d k_X_count 81 [vR b0, l1] [vR b0] σ Q := wp_aload rfl rfl
theorem r_X_count_81 (h : gK c0 = 0) : Wp L d k_X_count 81 [l0, l1] [vR c0] σ Q ↔ Wp L d k_X_count 84 [l0, l1] [vR (gq c0 1)] σ Q := wp_getR (c := 129) rfl rfl rfl rfl rfl h
theorem r_X_count_84 (h : gK c0 = 1) : Wp L d k_X_count 84 [l0, l1] [vR c0] σ Q ↔ Wp L d k_X_count 87 [l0, l1] [vI (σ c0 8)] σ Q := wp_getI (c := 264) rfl rfl rfl rfl h
theorem r_X_count_87 : Wp L d k_X_count 87 [l0, l1] [vI s0] σ Q ↔ Q (some (vI s0)) σ := wp_iret rfl
theorem r_X_count_88 : Wp L d k_X_count 88 [vR b0, l1] [] σ Q ↔ Wp L d k_X_count 89 [vR b0, l1] [vR b0] σ Q := wp_aload rfl rfl
theorem r_X_count_89 (h : gK c0 = 0) : Wp L d k_X_count 89 [l0, l1] [vR c0] σ Q ↔ Wp L d k_X_count 92 [l0, l1] [vR (gq c0 1)] σ Q := wp_getR (c := 129) rfl rfl rfl rfl rfl h
theorem c_X_count_92 (hR : Run L d 117 [vR c0] σ r σ1) (h : gK c0 = 1) : Wp L (d + 1) k_X_count 92 [l0, l1] [vR c0] σ Q ↔ Wp L (d + 1) k_X_count 95 [l0, l1] (r.toList ++ []) σ1 Q := wp_callR (as := [vR c0]) (rest := []) rfl rfl rfl rfl rfl rfl rfl (grecv_k (by rw [h]) rfl) hR
theorem r_X_count_95 : Wp L d k_X_count 95 [l0, l1] [vI s0] σ Q ↔ Q (some (vI s0)) σ := wp_iret rfl
theorem r_X_count_96 : Wp L d k_X_count 96 [vR b0, l1] [] σ Q ↔ Wp L d k_X_count 97 [vR b0, l1] [vR b0] σ Q := wp_aload rfl rfl
theorem r_X_count_97 (h : gK c0 = 0) : Wp L d k_X_count 97 [l0, l1] [vR c0] σ Q ↔ Wp L d k_X_count 100 [l0, l1] [vR (gq c0 1)] σ Q := wp_getR (c := 129) rfl rfl rfl rfl rfl h
theorem r_X_count_100 (h : gK c0 = 1) : Wp L d k_X_count 100 [l0, l1] [vR c0] σ Q ↔ Wp L d k_X_count 103 [l0, l1] [vI (σ c0 9)] σ Q := wp_getI (c := 265) rfl rfl rfl rfl h
theorem r_X_count_103 : Wp L d k_X_count 103 [l0, l1] [vI s0] σ Q ↔ Q (some (vI s0)) σ := wp_iret rfl
theorem r_X_count_104 : Wp L d k_X_count 104 [vR b0, l1] [] σ Q ↔ Wp L d k_X_count 105 [vR b0, l1] [vR b0] σ Q := wp_aload rfl rfl
theorem r_X_count_105 (h : gK c0 = 0) : Wp L d k_X_count 105 [l0, l1] [vR c0] σ Q ↔ Wp L d k_X_count 108 [l0, l1] [vR (gq c0 1)] σ Q := wp_getR (c := 129) rfl rfl rfl rfl rfl h
theorem c_X_count_108 (hR : Run L d 94 [vR c0] σ r σ1) (h : gK c0 = 1) : Wp L (d + 1) k_X_count 108 [l0, l1] [vR c0] σ Q ↔ Wp L (d + 1) k_X_count 111 [l0, l1] (r.toList ++ []) σ1 Q := wp_callR (as := [vR c0]) (rest := []) rfl rfl rfl rfl rfl rfl rfl (grecv_k (by rw [h]) rfl) hR
theorem r_X_count_111 : Wp L d k_X_count 111 [l0, l1] [vI s0] σ Q ↔ Q (some (vI s0)) σ := wp_iret rfl
theorem r_X_count_112 : Wp L d k_X_count 112 [vR b0, l1] [] σ Q ↔ Wp L d k_X_count 113 [vR b0, l1] [vR b0] σ Q := wp_aload rfl rfl
theorem r_X_count_113 (h : gK c0 = 0) : Wp L d k_X_count 113 [l0, l1] [vR c0] σ Q ↔ Wp L d k_X_count 116 [l0, l1] [vR (gq c0 1)] σ Q := wp_getR (c := 129) rfl rfl rfl rfl rfl h
theorem r_X_count_116 : Wp L d k_X_count 116 [l0, l1] [vR c0] σ Q ↔ Wp L d k_X_count 117 [l0, l1] [vI 0, vR c0] σ Q := wp_push rfl
theorem c_X_count_117 (hR : Run L d 118 [vR c0, vI s1] σ r σ1) (h : gK c0 = 1) : Wp L (d + 1) k_X_count 117 [l0, l1] [vI s1, vR c0] σ Q ↔ Wp L (d + 1) k_X_count 120 [l0, l1] (r.toList ++ []) σ1 Q := wp_callR (as := [vR c0, vI s1]) (rest := []) rfl rfl rfl rfl rfl rfl rfl (grecv_k (by rw [h]) rfl) hR
theorem r_X_count_120 : Wp L d k_X_count 120 [l0, l1] [vI s0] σ Q ↔ Q (some (vI s0)) σ := wp_iret rfl
theorem r_X_count_121 : Wp L d k_X_count 121 [vR b0, l1] [] σ Q ↔ Wp L d k_X_count 122 [vR b0, l1] [vR b0] σ Q := wp_aload rfl rfl
theorem r_X_count_122 (h : gK c0 = 0) : Wp L d k_X_count 122 [l0, l1] [vR c0] σ Q ↔ Wp L d k_X_count 125 [l0, l1] [vR (gq c0 1)] σ Q := wp_getR (c := 129) rfl rfl rfl rfl rfl h
theorem r_X_count_125 : Wp L d k_X_count 125 [l0, l1] [vR c0] σ Q ↔ Wp L d k_X_count 126 [l0, l1] [vI 1, vR c0] σ Q := wp_push rfl
theorem c_X_count_126 (hR : Run L d 118 [vR c0, vI s1] σ r σ1) (h : gK c0 = 1) : Wp L (d + 1) k_X_count 126 [l0, l1] [vI s1, vR c0] σ Q ↔ Wp L (d + 1) k_X_count 129 [l0, l1] (r.toList ++ []) σ1 Q := wp_callR (as := [vR c0, vI s1]) (rest := []) rfl rfl rfl rfl rfl rfl rfl (grecv_k (by rw [h]) rfl) hR
theorem r_X_count_129 : Wp L d k_X_count 129 [l0, l1] [vI s0] σ Q ↔ Q (some (vI s0)) σ := wp_iret rfl
theorem r_X_count_130 : Wp L d k_X_count 130 [vR b0, l1] [] σ Q ↔ Wp L d k_X_count 131 [vR b0, l1] [vR b0] σ Q := wp_aload rfl rfl
theorem r_X_count_131 (h : gK c0 = 0) : Wp L d k_X_count 131 [l0, l1] [vR c0] σ Q ↔ Wp L d k_X_count 134 [l0, l1] [vR (gq c0 0)] σ Q := wp_getR (c := 128) rfl rfl rfl rfl rfl h
theorem r_X_count_134 (h : gK c0 = 5) : Wp L d k_X_count 134 [l0, l1] [vR c0] σ Q ↔ Wp L d k_X_count 137 [l0, l1] [vR (gq c0 1)] σ Q := wp_getR (c := 1409) rfl rfl rfl rfl rfl h
theorem r_X_count_137 (h : gK c0 = 10) : Wp L d k_X_count 137 [l0, l1] [vR c0] σ Q ↔ Wp L d k_X_count 140 [l0, l1] [vI (σ c0 6)] σ Q := wp_getI (c := 2566) rfl rfl rfl rfl h
theorem r_X_count_140 : Wp L d k_X_count 140 [l0, l1] [vI s0] σ Q ↔ Q (some (vI s0)) σ := wp_iret rfl
theorem r_X_count_141 : Wp L d k_X_count 141 [vR b0, l1] [] σ Q ↔ Wp L d k_X_count 142 [vR b0, l1] [vR b0] σ Q := wp_aload rfl rfl
theorem r_X_count_142 (h : gK c0 = 0) : Wp L d k_X_count 142 [l0, l1] [vR c0] σ Q ↔ Wp L d k_X_count 145 [l0, l1] [vR (gq c0 0)] σ Q := wp_getR (c := 128) rfl rfl rfl rfl rfl h
theorem r_X_count_145 (h : gK c0 = 5) : Wp L d k_X_count 145 [l0, l1] [vR c0] σ Q ↔ Wp L d k_X_count 148 [l0, l1] [vR (gq c0 4)] σ Q := wp_getR (c := 1412) rfl rfl rfl rfl rfl h
theorem r_X_count_148 (h : gK c0 = 11) : Wp L d k_X_count 148 [l0, l1] [vR c0] σ Q ↔ Wp L d k_X_count 151 [l0, l1] [vI (σ c0 5)] σ Q := wp_getI (c := 2821) rfl rfl rfl rfl h
theorem r_X_count_151 : Wp L d k_X_count 151 [l0, l1] [vI s0] σ Q ↔ Q (some (vI s0)) σ := wp_iret rfl
theorem r_X_count_152 : Wp L d k_X_count 152 [vR b0, l1] [] σ Q ↔ Wp L d k_X_count 153 [vR b0, l1] [vR b0] σ Q := wp_aload rfl rfl
theorem r_X_count_153 (h : gK c0 = 0) : Wp L d k_X_count 153 [l0, l1] [vR c0] σ Q ↔ Wp L d k_X_count 156 [l0, l1] [vR (gq c0 0)] σ Q := wp_getR (c := 128) rfl rfl rfl rfl rfl h
theorem r_X_count_156 (h : gK c0 = 5) : Wp L d k_X_count 156 [l0, l1] [vR c0] σ Q ↔ Wp L d k_X_count 159 [l0, l1] [vR (gq c0 5)] σ Q := wp_getR (c := 1413) rfl rfl rfl rfl rfl h
theorem r_X_count_159 (h : gK c0 = 3) : Wp L d k_X_count 159 [l0, l1] [vR c0] σ Q ↔ Wp L d k_X_count 162 [l0, l1] [vI (σ c0 1)] σ Q := wp_getI (c := 769) rfl rfl rfl rfl h
theorem r_X_count_162 : Wp L d k_X_count 162 [l0, l1] [vI s0] σ Q ↔ Q (some (vI s0)) σ := wp_iret rfl
theorem r_X_count_163 : Wp L d k_X_count 163 [vR b0, l1] [] σ Q ↔ Wp L d k_X_count 164 [vR b0, l1] [vR b0] σ Q := wp_aload rfl rfl
theorem r_X_count_164 (h : gK c0 = 0) : Wp L d k_X_count 164 [l0, l1] [vR c0] σ Q ↔ Wp L d k_X_count 167 [l0, l1] [vR (gq c0 0)] σ Q := wp_getR (c := 128) rfl rfl rfl rfl rfl h
theorem r_X_count_167 (h : gK c0 = 5) : Wp L d k_X_count 167 [l0, l1] [vR c0] σ Q ↔ Wp L d k_X_count 170 [l0, l1] [vR (gq c0 5)] σ Q := wp_getR (c := 1413) rfl rfl rfl rfl rfl h
theorem r_X_count_170 (h : gK c0 = 3) : Wp L d k_X_count 170 [l0, l1] [vR c0] σ Q ↔ Wp L d k_X_count 173 [l0, l1] [vI (σ c0 4)] σ Q := wp_getI (c := 772) rfl rfl rfl rfl h
theorem r_X_count_173 : Wp L d k_X_count 173 [l0, l1] [vI s0] σ Q ↔ Q (some (vI s0)) σ := wp_iret rfl
theorem r_X_count_174 : Wp L d k_X_count 174 [vR b0, l1] [] σ Q ↔ Wp L d k_X_count 175 [vR b0, l1] [vR b0] σ Q := wp_aload rfl rfl
theorem r_X_count_175 (h : gK c0 = 0) : Wp L d k_X_count 175 [l0, l1] [vR c0] σ Q ↔ Wp L d k_X_count 178 [l0, l1] [vR (gq c0 0)] σ Q := wp_getR (c := 128) rfl rfl rfl rfl rfl h
theorem r_X_count_178 (h : gK c0 = 5) : Wp L d k_X_count 178 [l0, l1] [vR c0] σ Q ↔ Wp L d k_X_count 181 [l0, l1] [vR (gq c0 6)] σ Q := wp_getR (c := 1414) rfl rfl rfl rfl rfl h
theorem r_X_count_181 (h : gK c0 = 7) : Wp L d k_X_count 181 [l0, l1] [vR c0] σ Q ↔ Wp L d k_X_count 184 [l0, l1] [vI (σ c0 1)] σ Q := wp_getI (c := 1793) rfl rfl rfl rfl h
theorem r_X_count_184 : Wp L d k_X_count 184 [l0, l1] [vI s0] σ Q ↔ Q (some (vI s0)) σ := wp_iret rfl
theorem r_X_count_185 : Wp L d k_X_count 185 [vR b0, l1] [] σ Q ↔ Wp L d k_X_count 186 [vR b0, l1] [vR b0] σ Q := wp_aload rfl rfl
theorem r_X_count_186 (h : gK c0 = 0) : Wp L d k_X_count 186 [l0, l1] [vR c0] σ Q ↔ Wp L d k_X_count 189 [l0, l1] [vI (σ c0 7)] σ Q := wp_getI (c := 7) rfl rfl rfl rfl h
theorem r_X_count_189 : Wp L d k_X_count 189 [l0, l1] [vI s0] σ Q ↔ Q (some (vI s0)) σ := wp_iret rfl
theorem r_X_count_190 : Wp L d k_X_count 190 [vR b0, l1] [] σ Q ↔ Wp L d k_X_count 191 [vR b0, l1] [vR b0] σ Q := wp_aload rfl rfl
theorem r_X_count_191 (h : gK c0 = 0) : Wp L d k_X_count 191 [l0, l1] [vR c0] σ Q ↔ Wp L d k_X_count 194 [l0, l1] [vR (gq c0 4)] σ Q := wp_getR (c := 132) rfl rfl rfl rfl rfl h
theorem r_X_count_194 (h : gK c0 = 8) : Wp L d k_X_count 194 [l0, l1] [vR c0] σ Q ↔ Wp L d k_X_count 197 [l0, l1] [vI (σ c0 1)] σ Q := wp_getI (c := 2049) rfl rfl rfl rfl h
theorem r_X_count_197 : Wp L d k_X_count 197 [l0, l1] [vI s0] σ Q ↔ Q (some (vI s0)) σ := wp_iret rfl
theorem r_X_count_198 : Wp L d k_X_count 198 [vR b0, l1] [] σ Q ↔ Wp L d k_X_count 199 [vR b0, l1] [vR b0] σ Q := wp_aload rfl rfl
theorem r_X_count_199 (h : gK c0 = 0) : Wp L d k_X_count 199 [l0, l1] [vR c0] σ Q ↔ Wp L d k_X_count 202 [l0, l1] [vR (gq c0 0)] σ Q := wp_getR (c := 128) rfl rfl rfl rfl rfl h
theorem r_X_count_202 (h : gK c0 = 5) : Wp L d k_X_count 202 [l0, l1] [vR c0] σ Q ↔ Wp L d k_X_count 205 [l0, l1] [vI (σ c0 7)] σ Q := wp_getI (c := 1287) rfl rfl rfl rfl h
theorem r_X_count_205 : Wp L d k_X_count 205 [l0, l1] [vI s0] σ Q ↔ Q (some (vI s0)) σ := wp_iret rfl
theorem r_X_count_206 : Wp L d k_X_count 206 [vR b0, l1] [] σ Q ↔ Wp L d k_X_count 207 [vR b0, l1] [vR b0] σ Q := wp_aload rfl rfl
theorem r_X_count_207 (h : gK c0 = 0) : Wp L d k_X_count 207 [l0, l1] [vR c0] σ Q ↔ Wp L d k_X_count 210 [l0, l1] [vR (gq c0 1)] σ Q := wp_getR (c := 129) rfl rfl rfl rfl rfl h
theorem r_X_count_210 (h : gK c0 = 1) : Wp L d k_X_count 210 [l0, l1] [vR c0] σ Q ↔ Wp L d k_X_count 213 [l0, l1] [vI (σ c0 12)] σ Q := wp_getI (c := 268) rfl rfl rfl rfl h
theorem r_X_count_213 : Wp L d k_X_count 213 [l0, l1] [vI s0] σ Q ↔ Q (some (vI s0)) σ := wp_iret rfl
theorem r_X_count_214 : Wp L d k_X_count 214 [vR b0, l1] [] σ Q ↔ Wp L d k_X_count 215 [vR b0, l1] [vR b0] σ Q := wp_aload rfl rfl
theorem r_X_count_215 (h : gK c0 = 0) : Wp L d k_X_count 215 [l0, l1] [vR c0] σ Q ↔ Wp L d k_X_count 218 [l0, l1] [vR (gq c0 1)] σ Q := wp_getR (c := 129) rfl rfl rfl rfl rfl h
theorem r_X_count_218 (h : gK c0 = 1) : Wp L d k_X_count 218 [l0, l1] [vR c0] σ Q ↔ Wp L d k_X_count 221 [l0, l1] [vI (σ c0 13)] σ Q := wp_getI (c := 333) rfl rfl rfl rfl h
theorem r_X_count_224 : Wp L d k_X_count 224 [l0, l1] [vI s0] σ Q ↔ Q (some (vI s0)) σ := wp_iret rfl
theorem r_X_count_225 : Wp L d k_X_count 225 [l0, l1] [] σ Q ↔ Wp L d k_X_count 227 [l0, l1] [vI (-1000000001)] σ Q := wp_push rfl
theorem r_X_count_227 : Wp L d k_X_count 227 [l0, l1] [vI s0] σ Q ↔ Q (some (vI s0)) σ := wp_iret rfl
theorem r_X_count_221 : Wp L (d + 2) k_X_count 221 [l0, l1] [vI s0] σ Q ↔ Wp L (d + 2) k_X_count 224 [l0, l1] [vI (gb (s0 ≠ 0))] σ Q := wp_callR (d := d + 1) (as := [vI s0]) (rest := []) rfl rfl rfl rfl rfl rfl rfl rfl (sp_X_bit)
theorem sp_X_count_0 : Run L (d + 2) 88 [vR 27, vI 0] σ (some (vI (σ 29 8))) σ := by
  refine Run_of (C' := k_X_count) rfl ?_
  show Wp L (d + 2) k_X_count 0 [vR 27, vI 0] [] σ _
  obtain ⟨K27, K28, K29, K78, K97, K99, K109, K123, K125, K279, K282⟩ := litX
  simp (disch := first | assumption | exact gb_01 _ | omega) only [r_X_count_0, r_X_count_1, r_X_count_80, r_X_count_81, r_X_count_84, r_X_count_87, r_X_count_88, r_X_count_89, r_X_count_95, r_X_count_96, r_X_count_97, r_X_count_100, r_X_count_103, r_X_count_104, r_X_count_105, r_X_count_111, r_X_count_112, r_X_count_113, r_X_count_116, r_X_count_120, r_X_count_121, r_X_count_122, r_X_count_125, r_X_count_129, r_X_count_130, r_X_count_131, r_X_count_134, r_X_count_137, r_X_count_140, r_X_count_141, r_X_count_142, r_X_count_145, r_X_count_148, r_X_count_151, r_X_count_152, r_X_count_153, r_X_count_156, r_X_count_159, r_X_count_162, r_X_count_163, r_X_count_164, r_X_count_167, r_X_count_170, r_X_count_173, r_X_count_174, r_X_count_175, r_X_count_178, r_X_count_181, r_X_count_184, r_X_count_185, r_X_count_186, r_X_count_189, r_X_count_190, r_X_count_191, r_X_count_194, r_X_count_197, r_X_count_198, r_X_count_199, r_X_count_202, r_X_count_205, r_X_count_206, r_X_count_207, r_X_count_210, r_X_count_213, r_X_count_214, r_X_count_215, r_X_count_218, r_X_count_221, r_X_count_224, r_X_count_225, r_X_count_227, gq_27_0, gq_27_1, gq_27_2, gq_27_3, gq_27_4, gq_27_5, gq_27_6, gq_28_0, gq_28_1, gq_28_2, gq_28_3, gq_28_4, gq_28_5, gq_28_6, w32_gb, w32i, tn_add, tn_mul, Int.toNat_natCast, Int.toNat_zero, Int.reduceLE, Int.reduceLT, Int.reduceEq, Int.reduceNe, gb_T, gb_F, Int.reduceToNat, eq_self, true_or, or_true, and_true, true_and, and_self, ↓ite_gb0, ↓ite_gbn, ↓if_pos, ↓if_neg, if_true, if_false, not_true_eq_false, not_false_eq_true, gb_ne0, gb_eq0]
theorem sp_X_count_1 {f : Nat → Int} (hw : WB f) (hc : CB 29 f σ) : Run L (d + 2) 88 [vR 27, vI 1] σ (some (vI (gdown f (f 0).toNat))) σ := by
  refine Run_of (C' := k_X_count) rfl ?_
  show Wp L (d + 2) k_X_count 0 [vR 27, vI 1] [] σ _
  obtain ⟨K27, K28, K29, K78, K97, K99, K109, K123, K125, K279, K282⟩ := litX
  have hR := sp_B_downCount (L := L) (d := d + 0) BR29 hw hc
  simp (disch := first | assumption | exact gb_01 _ | omega) only [r_X_count_0, r_X_count_1, r_X_count_80, r_X_count_81, r_X_count_84, r_X_count_87, r_X_count_88, r_X_count_89, r_X_count_95, r_X_count_96, r_X_count_97, r_X_count_100, r_X_count_103, r_X_count_104, r_X_count_105, r_X_count_111, r_X_count_112, r_X_count_113, r_X_count_116, r_X_count_120, r_X_count_121, r_X_count_122, r_X_count_125, r_X_count_129, r_X_count_130, r_X_count_131, r_X_count_134, r_X_count_137, r_X_count_140, r_X_count_141, r_X_count_142, r_X_count_145, r_X_count_148, r_X_count_151, r_X_count_152, r_X_count_153, r_X_count_156, r_X_count_159, r_X_count_162, r_X_count_163, r_X_count_164, r_X_count_167, r_X_count_170, r_X_count_173, r_X_count_174, r_X_count_175, r_X_count_178, r_X_count_181, r_X_count_184, r_X_count_185, r_X_count_186, r_X_count_189, r_X_count_190, r_X_count_191, r_X_count_194, r_X_count_197, r_X_count_198, r_X_count_199, r_X_count_202, r_X_count_205, r_X_count_206, r_X_count_207, r_X_count_210, r_X_count_213, r_X_count_214, r_X_count_215, r_X_count_218, r_X_count_221, r_X_count_224, r_X_count_225, r_X_count_227, c_X_count_92 hR, Option.toList, List.singleton_append, List.cons_append, List.nil_append, gq_27_0, gq_27_1, gq_27_2, gq_27_3, gq_27_4, gq_27_5, gq_27_6, gq_28_0, gq_28_1, gq_28_2, gq_28_3, gq_28_4, gq_28_5, gq_28_6, w32_gb, w32i, tn_add, tn_mul, Int.toNat_natCast, Int.toNat_zero, Int.reduceLE, Int.reduceLT, Int.reduceEq, Int.reduceNe, gb_T, gb_F, Int.reduceToNat, eq_self, true_or, or_true, and_true, true_and, and_self, ↓ite_gb0, ↓ite_gbn, ↓if_pos, ↓if_neg, if_true, if_false, not_true_eq_false, not_false_eq_true, gb_ne0, gb_eq0]
theorem sp_X_count_2 : Run L (d + 2) 88 [vR 27, vI 2] σ (some (vI (σ 29 9))) σ := by
  refine Run_of (C' := k_X_count) rfl ?_
  show Wp L (d + 2) k_X_count 0 [vR 27, vI 2] [] σ _
  obtain ⟨K27, K28, K29, K78, K97, K99, K109, K123, K125, K279, K282⟩ := litX
  simp (disch := first | assumption | exact gb_01 _ | omega) only [r_X_count_0, r_X_count_1, r_X_count_80, r_X_count_81, r_X_count_84, r_X_count_87, r_X_count_88, r_X_count_89, r_X_count_95, r_X_count_96, r_X_count_97, r_X_count_100, r_X_count_103, r_X_count_104, r_X_count_105, r_X_count_111, r_X_count_112, r_X_count_113, r_X_count_116, r_X_count_120, r_X_count_121, r_X_count_122, r_X_count_125, r_X_count_129, r_X_count_130, r_X_count_131, r_X_count_134, r_X_count_137, r_X_count_140, r_X_count_141, r_X_count_142, r_X_count_145, r_X_count_148, r_X_count_151, r_X_count_152, r_X_count_153, r_X_count_156, r_X_count_159, r_X_count_162, r_X_count_163, r_X_count_164, r_X_count_167, r_X_count_170, r_X_count_173, r_X_count_174, r_X_count_175, r_X_count_178, r_X_count_181, r_X_count_184, r_X_count_185, r_X_count_186, r_X_count_189, r_X_count_190, r_X_count_191, r_X_count_194, r_X_count_197, r_X_count_198, r_X_count_199, r_X_count_202, r_X_count_205, r_X_count_206, r_X_count_207, r_X_count_210, r_X_count_213, r_X_count_214, r_X_count_215, r_X_count_218, r_X_count_221, r_X_count_224, r_X_count_225, r_X_count_227, gq_27_0, gq_27_1, gq_27_2, gq_27_3, gq_27_4, gq_27_5, gq_27_6, gq_28_0, gq_28_1, gq_28_2, gq_28_3, gq_28_4, gq_28_5, gq_28_6, w32_gb, w32i, tn_add, tn_mul, Int.toNat_natCast, Int.toNat_zero, Int.reduceLE, Int.reduceLT, Int.reduceEq, Int.reduceNe, gb_T, gb_F, Int.reduceToNat, eq_self, true_or, or_true, and_true, true_and, and_self, ↓ite_gb0, ↓ite_gbn, ↓if_pos, ↓if_neg, if_true, if_false, not_true_eq_false, not_false_eq_true, gb_ne0, gb_eq0]
theorem sp_X_count_3 {f : Nat → Int} (hw : WB f) (hc : CB 29 f σ) : Run L (d + 2) 88 [vR 27, vI 3] σ (some (vI (ggone f (f 1).toNat))) σ := by
  refine Run_of (C' := k_X_count) rfl ?_
  show Wp L (d + 2) k_X_count 0 [vR 27, vI 3] [] σ _
  obtain ⟨K27, K28, K29, K78, K97, K99, K109, K123, K125, K279, K282⟩ := litX
  have hR := sp_B_goneCount (L := L) (d := d + 0) BR29 hw hc
  simp (disch := first | assumption | exact gb_01 _ | omega) only [r_X_count_0, r_X_count_1, r_X_count_80, r_X_count_81, r_X_count_84, r_X_count_87, r_X_count_88, r_X_count_89, r_X_count_95, r_X_count_96, r_X_count_97, r_X_count_100, r_X_count_103, r_X_count_104, r_X_count_105, r_X_count_111, r_X_count_112, r_X_count_113, r_X_count_116, r_X_count_120, r_X_count_121, r_X_count_122, r_X_count_125, r_X_count_129, r_X_count_130, r_X_count_131, r_X_count_134, r_X_count_137, r_X_count_140, r_X_count_141, r_X_count_142, r_X_count_145, r_X_count_148, r_X_count_151, r_X_count_152, r_X_count_153, r_X_count_156, r_X_count_159, r_X_count_162, r_X_count_163, r_X_count_164, r_X_count_167, r_X_count_170, r_X_count_173, r_X_count_174, r_X_count_175, r_X_count_178, r_X_count_181, r_X_count_184, r_X_count_185, r_X_count_186, r_X_count_189, r_X_count_190, r_X_count_191, r_X_count_194, r_X_count_197, r_X_count_198, r_X_count_199, r_X_count_202, r_X_count_205, r_X_count_206, r_X_count_207, r_X_count_210, r_X_count_213, r_X_count_214, r_X_count_215, r_X_count_218, r_X_count_221, r_X_count_224, r_X_count_225, r_X_count_227, c_X_count_108 hR, Option.toList, List.singleton_append, List.cons_append, List.nil_append, gq_27_0, gq_27_1, gq_27_2, gq_27_3, gq_27_4, gq_27_5, gq_27_6, gq_28_0, gq_28_1, gq_28_2, gq_28_3, gq_28_4, gq_28_5, gq_28_6, w32_gb, w32i, tn_add, tn_mul, Int.toNat_natCast, Int.toNat_zero, Int.reduceLE, Int.reduceLT, Int.reduceEq, Int.reduceNe, gb_T, gb_F, Int.reduceToNat, eq_self, true_or, or_true, and_true, true_and, and_self, ↓ite_gb0, ↓ite_gbn, ↓if_pos, ↓if_neg, if_true, if_false, not_true_eq_false, not_false_eq_true, gb_ne0, gb_eq0]
theorem sp_X_count_4 {f : Nat → Int} (hw : WB f) (hc : CB 29 f σ) : Run L (d + 2) 88 [vR 27, vI 4] σ (some (vI (gpcs f (f 1).toNat))) σ := by
  refine Run_of (C' := k_X_count) rfl ?_
  show Wp L (d + 2) k_X_count 0 [vR 27, vI 4] [] σ _
  obtain ⟨K27, K28, K29, K78, K97, K99, K109, K123, K125, K279, K282⟩ := litX
  have hR := sp_B_pieceCount_0 (L := L) (d := d + 0) BR29 hw hc
  simp (disch := first | assumption | exact gb_01 _ | omega) only [r_X_count_0, r_X_count_1, r_X_count_80, r_X_count_81, r_X_count_84, r_X_count_87, r_X_count_88, r_X_count_89, r_X_count_95, r_X_count_96, r_X_count_97, r_X_count_100, r_X_count_103, r_X_count_104, r_X_count_105, r_X_count_111, r_X_count_112, r_X_count_113, r_X_count_116, r_X_count_120, r_X_count_121, r_X_count_122, r_X_count_125, r_X_count_129, r_X_count_130, r_X_count_131, r_X_count_134, r_X_count_137, r_X_count_140, r_X_count_141, r_X_count_142, r_X_count_145, r_X_count_148, r_X_count_151, r_X_count_152, r_X_count_153, r_X_count_156, r_X_count_159, r_X_count_162, r_X_count_163, r_X_count_164, r_X_count_167, r_X_count_170, r_X_count_173, r_X_count_174, r_X_count_175, r_X_count_178, r_X_count_181, r_X_count_184, r_X_count_185, r_X_count_186, r_X_count_189, r_X_count_190, r_X_count_191, r_X_count_194, r_X_count_197, r_X_count_198, r_X_count_199, r_X_count_202, r_X_count_205, r_X_count_206, r_X_count_207, r_X_count_210, r_X_count_213, r_X_count_214, r_X_count_215, r_X_count_218, r_X_count_221, r_X_count_224, r_X_count_225, r_X_count_227, c_X_count_117 hR, Option.toList, List.singleton_append, List.cons_append, List.nil_append, gq_27_0, gq_27_1, gq_27_2, gq_27_3, gq_27_4, gq_27_5, gq_27_6, gq_28_0, gq_28_1, gq_28_2, gq_28_3, gq_28_4, gq_28_5, gq_28_6, w32_gb, w32i, tn_add, tn_mul, Int.toNat_natCast, Int.toNat_zero, Int.reduceLE, Int.reduceLT, Int.reduceEq, Int.reduceNe, gb_T, gb_F, Int.reduceToNat, eq_self, true_or, or_true, and_true, true_and, and_self, ↓ite_gb0, ↓ite_gbn, ↓if_pos, ↓if_neg, if_true, if_false, not_true_eq_false, not_false_eq_true, gb_ne0, gb_eq0]
theorem sp_X_count_5 {f : Nat → Int} (hw : WB f) (hc : CB 29 f σ) : Run L (d + 2) 88 [vR 27, vI 5] σ (some (vI (gfnds f (f 1).toNat))) σ := by
  refine Run_of (C' := k_X_count) rfl ?_
  show Wp L (d + 2) k_X_count 0 [vR 27, vI 5] [] σ _
  obtain ⟨K27, K28, K29, K78, K97, K99, K109, K123, K125, K279, K282⟩ := litX
  have hR := sp_B_pieceCount_1 (L := L) (d := d + 0) BR29 hw hc
  simp (disch := first | assumption | exact gb_01 _ | omega) only [r_X_count_0, r_X_count_1, r_X_count_80, r_X_count_81, r_X_count_84, r_X_count_87, r_X_count_88, r_X_count_89, r_X_count_95, r_X_count_96, r_X_count_97, r_X_count_100, r_X_count_103, r_X_count_104, r_X_count_105, r_X_count_111, r_X_count_112, r_X_count_113, r_X_count_116, r_X_count_120, r_X_count_121, r_X_count_122, r_X_count_125, r_X_count_129, r_X_count_130, r_X_count_131, r_X_count_134, r_X_count_137, r_X_count_140, r_X_count_141, r_X_count_142, r_X_count_145, r_X_count_148, r_X_count_151, r_X_count_152, r_X_count_153, r_X_count_156, r_X_count_159, r_X_count_162, r_X_count_163, r_X_count_164, r_X_count_167, r_X_count_170, r_X_count_173, r_X_count_174, r_X_count_175, r_X_count_178, r_X_count_181, r_X_count_184, r_X_count_185, r_X_count_186, r_X_count_189, r_X_count_190, r_X_count_191, r_X_count_194, r_X_count_197, r_X_count_198, r_X_count_199, r_X_count_202, r_X_count_205, r_X_count_206, r_X_count_207, r_X_count_210, r_X_count_213, r_X_count_214, r_X_count_215, r_X_count_218, r_X_count_221, r_X_count_224, r_X_count_225, r_X_count_227, c_X_count_126 hR, Option.toList, List.singleton_append, List.cons_append, List.nil_append, gq_27_0, gq_27_1, gq_27_2, gq_27_3, gq_27_4, gq_27_5, gq_27_6, gq_28_0, gq_28_1, gq_28_2, gq_28_3, gq_28_4, gq_28_5, gq_28_6, w32_gb, w32i, tn_add, tn_mul, Int.toNat_natCast, Int.toNat_zero, Int.reduceLE, Int.reduceLT, Int.reduceEq, Int.reduceNe, gb_T, gb_F, Int.reduceToNat, eq_self, true_or, or_true, and_true, true_and, and_self, ↓ite_gb0, ↓ite_gbn, ↓if_pos, ↓if_neg, if_true, if_false, not_true_eq_false, not_false_eq_true, gb_ne0, gb_eq0]
theorem sp_X_count_6 : Run L (d + 2) 88 [vR 27, vI 6] σ (some (vI (σ 78 6))) σ := by
  refine Run_of (C' := k_X_count) rfl ?_
  show Wp L (d + 2) k_X_count 0 [vR 27, vI 6] [] σ _
  obtain ⟨K27, K28, K29, K78, K97, K99, K109, K123, K125, K279, K282⟩ := litX
  simp (disch := first | assumption | exact gb_01 _ | omega) only [r_X_count_0, r_X_count_1, r_X_count_80, r_X_count_81, r_X_count_84, r_X_count_87, r_X_count_88, r_X_count_89, r_X_count_95, r_X_count_96, r_X_count_97, r_X_count_100, r_X_count_103, r_X_count_104, r_X_count_105, r_X_count_111, r_X_count_112, r_X_count_113, r_X_count_116, r_X_count_120, r_X_count_121, r_X_count_122, r_X_count_125, r_X_count_129, r_X_count_130, r_X_count_131, r_X_count_134, r_X_count_137, r_X_count_140, r_X_count_141, r_X_count_142, r_X_count_145, r_X_count_148, r_X_count_151, r_X_count_152, r_X_count_153, r_X_count_156, r_X_count_159, r_X_count_162, r_X_count_163, r_X_count_164, r_X_count_167, r_X_count_170, r_X_count_173, r_X_count_174, r_X_count_175, r_X_count_178, r_X_count_181, r_X_count_184, r_X_count_185, r_X_count_186, r_X_count_189, r_X_count_190, r_X_count_191, r_X_count_194, r_X_count_197, r_X_count_198, r_X_count_199, r_X_count_202, r_X_count_205, r_X_count_206, r_X_count_207, r_X_count_210, r_X_count_213, r_X_count_214, r_X_count_215, r_X_count_218, r_X_count_221, r_X_count_224, r_X_count_225, r_X_count_227, gq_27_0, gq_27_1, gq_27_2, gq_27_3, gq_27_4, gq_27_5, gq_27_6, gq_28_0, gq_28_1, gq_28_2, gq_28_3, gq_28_4, gq_28_5, gq_28_6, w32_gb, w32i, tn_add, tn_mul, Int.toNat_natCast, Int.toNat_zero, Int.reduceLE, Int.reduceLT, Int.reduceEq, Int.reduceNe, gb_T, gb_F, Int.reduceToNat, eq_self, true_or, or_true, and_true, true_and, and_self, ↓ite_gb0, ↓ite_gbn, ↓if_pos, ↓if_neg, if_true, if_false, not_true_eq_false, not_false_eq_true, gb_ne0, gb_eq0]
theorem sp_X_count_7 : Run L (d + 2) 88 [vR 27, vI 7] σ (some (vI (σ 109 5))) σ := by
  refine Run_of (C' := k_X_count) rfl ?_
  show Wp L (d + 2) k_X_count 0 [vR 27, vI 7] [] σ _
  obtain ⟨K27, K28, K29, K78, K97, K99, K109, K123, K125, K279, K282⟩ := litX
  simp (disch := first | assumption | exact gb_01 _ | omega) only [r_X_count_0, r_X_count_1, r_X_count_80, r_X_count_81, r_X_count_84, r_X_count_87, r_X_count_88, r_X_count_89, r_X_count_95, r_X_count_96, r_X_count_97, r_X_count_100, r_X_count_103, r_X_count_104, r_X_count_105, r_X_count_111, r_X_count_112, r_X_count_113, r_X_count_116, r_X_count_120, r_X_count_121, r_X_count_122, r_X_count_125, r_X_count_129, r_X_count_130, r_X_count_131, r_X_count_134, r_X_count_137, r_X_count_140, r_X_count_141, r_X_count_142, r_X_count_145, r_X_count_148, r_X_count_151, r_X_count_152, r_X_count_153, r_X_count_156, r_X_count_159, r_X_count_162, r_X_count_163, r_X_count_164, r_X_count_167, r_X_count_170, r_X_count_173, r_X_count_174, r_X_count_175, r_X_count_178, r_X_count_181, r_X_count_184, r_X_count_185, r_X_count_186, r_X_count_189, r_X_count_190, r_X_count_191, r_X_count_194, r_X_count_197, r_X_count_198, r_X_count_199, r_X_count_202, r_X_count_205, r_X_count_206, r_X_count_207, r_X_count_210, r_X_count_213, r_X_count_214, r_X_count_215, r_X_count_218, r_X_count_221, r_X_count_224, r_X_count_225, r_X_count_227, gq_27_0, gq_27_1, gq_27_2, gq_27_3, gq_27_4, gq_27_5, gq_27_6, gq_28_0, gq_28_1, gq_28_2, gq_28_3, gq_28_4, gq_28_5, gq_28_6, w32_gb, w32i, tn_add, tn_mul, Int.toNat_natCast, Int.toNat_zero, Int.reduceLE, Int.reduceLT, Int.reduceEq, Int.reduceNe, gb_T, gb_F, Int.reduceToNat, eq_self, true_or, or_true, and_true, true_and, and_self, ↓ite_gb0, ↓ite_gbn, ↓if_pos, ↓if_neg, if_true, if_false, not_true_eq_false, not_false_eq_true, gb_ne0, gb_eq0]
theorem sp_X_count_8 : Run L (d + 2) 88 [vR 27, vI 8] σ (some (vI (σ 123 1))) σ := by
  refine Run_of (C' := k_X_count) rfl ?_
  show Wp L (d + 2) k_X_count 0 [vR 27, vI 8] [] σ _
  obtain ⟨K27, K28, K29, K78, K97, K99, K109, K123, K125, K279, K282⟩ := litX
  simp (disch := first | assumption | exact gb_01 _ | omega) only [r_X_count_0, r_X_count_1, r_X_count_80, r_X_count_81, r_X_count_84, r_X_count_87, r_X_count_88, r_X_count_89, r_X_count_95, r_X_count_96, r_X_count_97, r_X_count_100, r_X_count_103, r_X_count_104, r_X_count_105, r_X_count_111, r_X_count_112, r_X_count_113, r_X_count_116, r_X_count_120, r_X_count_121, r_X_count_122, r_X_count_125, r_X_count_129, r_X_count_130, r_X_count_131, r_X_count_134, r_X_count_137, r_X_count_140, r_X_count_141, r_X_count_142, r_X_count_145, r_X_count_148, r_X_count_151, r_X_count_152, r_X_count_153, r_X_count_156, r_X_count_159, r_X_count_162, r_X_count_163, r_X_count_164, r_X_count_167, r_X_count_170, r_X_count_173, r_X_count_174, r_X_count_175, r_X_count_178, r_X_count_181, r_X_count_184, r_X_count_185, r_X_count_186, r_X_count_189, r_X_count_190, r_X_count_191, r_X_count_194, r_X_count_197, r_X_count_198, r_X_count_199, r_X_count_202, r_X_count_205, r_X_count_206, r_X_count_207, r_X_count_210, r_X_count_213, r_X_count_214, r_X_count_215, r_X_count_218, r_X_count_221, r_X_count_224, r_X_count_225, r_X_count_227, gq_27_0, gq_27_1, gq_27_2, gq_27_3, gq_27_4, gq_27_5, gq_27_6, gq_28_0, gq_28_1, gq_28_2, gq_28_3, gq_28_4, gq_28_5, gq_28_6, w32_gb, w32i, tn_add, tn_mul, Int.toNat_natCast, Int.toNat_zero, Int.reduceLE, Int.reduceLT, Int.reduceEq, Int.reduceNe, gb_T, gb_F, Int.reduceToNat, eq_self, true_or, or_true, and_true, true_and, and_self, ↓ite_gb0, ↓ite_gbn, ↓if_pos, ↓if_neg, if_true, if_false, not_true_eq_false, not_false_eq_true, gb_ne0, gb_eq0]
theorem sp_X_count_9 : Run L (d + 2) 88 [vR 27, vI 9] σ (some (vI (σ 123 4))) σ := by
  refine Run_of (C' := k_X_count) rfl ?_
  show Wp L (d + 2) k_X_count 0 [vR 27, vI 9] [] σ _
  obtain ⟨K27, K28, K29, K78, K97, K99, K109, K123, K125, K279, K282⟩ := litX
  simp (disch := first | assumption | exact gb_01 _ | omega) only [r_X_count_0, r_X_count_1, r_X_count_80, r_X_count_81, r_X_count_84, r_X_count_87, r_X_count_88, r_X_count_89, r_X_count_95, r_X_count_96, r_X_count_97, r_X_count_100, r_X_count_103, r_X_count_104, r_X_count_105, r_X_count_111, r_X_count_112, r_X_count_113, r_X_count_116, r_X_count_120, r_X_count_121, r_X_count_122, r_X_count_125, r_X_count_129, r_X_count_130, r_X_count_131, r_X_count_134, r_X_count_137, r_X_count_140, r_X_count_141, r_X_count_142, r_X_count_145, r_X_count_148, r_X_count_151, r_X_count_152, r_X_count_153, r_X_count_156, r_X_count_159, r_X_count_162, r_X_count_163, r_X_count_164, r_X_count_167, r_X_count_170, r_X_count_173, r_X_count_174, r_X_count_175, r_X_count_178, r_X_count_181, r_X_count_184, r_X_count_185, r_X_count_186, r_X_count_189, r_X_count_190, r_X_count_191, r_X_count_194, r_X_count_197, r_X_count_198, r_X_count_199, r_X_count_202, r_X_count_205, r_X_count_206, r_X_count_207, r_X_count_210, r_X_count_213, r_X_count_214, r_X_count_215, r_X_count_218, r_X_count_221, r_X_count_224, r_X_count_225, r_X_count_227, gq_27_0, gq_27_1, gq_27_2, gq_27_3, gq_27_4, gq_27_5, gq_27_6, gq_28_0, gq_28_1, gq_28_2, gq_28_3, gq_28_4, gq_28_5, gq_28_6, w32_gb, w32i, tn_add, tn_mul, Int.toNat_natCast, Int.toNat_zero, Int.reduceLE, Int.reduceLT, Int.reduceEq, Int.reduceNe, gb_T, gb_F, Int.reduceToNat, eq_self, true_or, or_true, and_true, true_and, and_self, ↓ite_gb0, ↓ite_gbn, ↓if_pos, ↓if_neg, if_true, if_false, not_true_eq_false, not_false_eq_true, gb_ne0, gb_eq0]
theorem sp_X_count_10 : Run L (d + 2) 88 [vR 27, vI 10] σ (some (vI (σ 125 1))) σ := by
  refine Run_of (C' := k_X_count) rfl ?_
  show Wp L (d + 2) k_X_count 0 [vR 27, vI 10] [] σ _
  obtain ⟨K27, K28, K29, K78, K97, K99, K109, K123, K125, K279, K282⟩ := litX
  simp (disch := first | assumption | exact gb_01 _ | omega) only [r_X_count_0, r_X_count_1, r_X_count_80, r_X_count_81, r_X_count_84, r_X_count_87, r_X_count_88, r_X_count_89, r_X_count_95, r_X_count_96, r_X_count_97, r_X_count_100, r_X_count_103, r_X_count_104, r_X_count_105, r_X_count_111, r_X_count_112, r_X_count_113, r_X_count_116, r_X_count_120, r_X_count_121, r_X_count_122, r_X_count_125, r_X_count_129, r_X_count_130, r_X_count_131, r_X_count_134, r_X_count_137, r_X_count_140, r_X_count_141, r_X_count_142, r_X_count_145, r_X_count_148, r_X_count_151, r_X_count_152, r_X_count_153, r_X_count_156, r_X_count_159, r_X_count_162, r_X_count_163, r_X_count_164, r_X_count_167, r_X_count_170, r_X_count_173, r_X_count_174, r_X_count_175, r_X_count_178, r_X_count_181, r_X_count_184, r_X_count_185, r_X_count_186, r_X_count_189, r_X_count_190, r_X_count_191, r_X_count_194, r_X_count_197, r_X_count_198, r_X_count_199, r_X_count_202, r_X_count_205, r_X_count_206, r_X_count_207, r_X_count_210, r_X_count_213, r_X_count_214, r_X_count_215, r_X_count_218, r_X_count_221, r_X_count_224, r_X_count_225, r_X_count_227, gq_27_0, gq_27_1, gq_27_2, gq_27_3, gq_27_4, gq_27_5, gq_27_6, gq_28_0, gq_28_1, gq_28_2, gq_28_3, gq_28_4, gq_28_5, gq_28_6, w32_gb, w32i, tn_add, tn_mul, Int.toNat_natCast, Int.toNat_zero, Int.reduceLE, Int.reduceLT, Int.reduceEq, Int.reduceNe, gb_T, gb_F, Int.reduceToNat, eq_self, true_or, or_true, and_true, true_and, and_self, ↓ite_gb0, ↓ite_gbn, ↓if_pos, ↓if_neg, if_true, if_false, not_true_eq_false, not_false_eq_true, gb_ne0, gb_eq0]
theorem sp_X_count_11 : Run L (d + 2) 88 [vR 27, vI 11] σ (some (vI (σ 27 7))) σ := by
  refine Run_of (C' := k_X_count) rfl ?_
  show Wp L (d + 2) k_X_count 0 [vR 27, vI 11] [] σ _
  obtain ⟨K27, K28, K29, K78, K97, K99, K109, K123, K125, K279, K282⟩ := litX
  simp (disch := first | assumption | exact gb_01 _ | omega) only [r_X_count_0, r_X_count_1, r_X_count_80, r_X_count_81, r_X_count_84, r_X_count_87, r_X_count_88, r_X_count_89, r_X_count_95, r_X_count_96, r_X_count_97, r_X_count_100, r_X_count_103, r_X_count_104, r_X_count_105, r_X_count_111, r_X_count_112, r_X_count_113, r_X_count_116, r_X_count_120, r_X_count_121, r_X_count_122, r_X_count_125, r_X_count_129, r_X_count_130, r_X_count_131, r_X_count_134, r_X_count_137, r_X_count_140, r_X_count_141, r_X_count_142, r_X_count_145, r_X_count_148, r_X_count_151, r_X_count_152, r_X_count_153, r_X_count_156, r_X_count_159, r_X_count_162, r_X_count_163, r_X_count_164, r_X_count_167, r_X_count_170, r_X_count_173, r_X_count_174, r_X_count_175, r_X_count_178, r_X_count_181, r_X_count_184, r_X_count_185, r_X_count_186, r_X_count_189, r_X_count_190, r_X_count_191, r_X_count_194, r_X_count_197, r_X_count_198, r_X_count_199, r_X_count_202, r_X_count_205, r_X_count_206, r_X_count_207, r_X_count_210, r_X_count_213, r_X_count_214, r_X_count_215, r_X_count_218, r_X_count_221, r_X_count_224, r_X_count_225, r_X_count_227, gq_27_0, gq_27_1, gq_27_2, gq_27_3, gq_27_4, gq_27_5, gq_27_6, gq_28_0, gq_28_1, gq_28_2, gq_28_3, gq_28_4, gq_28_5, gq_28_6, w32_gb, w32i, tn_add, tn_mul, Int.toNat_natCast, Int.toNat_zero, Int.reduceLE, Int.reduceLT, Int.reduceEq, Int.reduceNe, gb_T, gb_F, Int.reduceToNat, eq_self, true_or, or_true, and_true, true_and, and_self, ↓ite_gb0, ↓ite_gbn, ↓if_pos, ↓if_neg, if_true, if_false, not_true_eq_false, not_false_eq_true, gb_ne0, gb_eq0]
theorem sp_X_count_12 : Run L (d + 2) 88 [vR 27, vI 12] σ (some (vI (σ 279 1))) σ := by
  refine Run_of (C' := k_X_count) rfl ?_
  show Wp L (d + 2) k_X_count 0 [vR 27, vI 12] [] σ _
  obtain ⟨K27, K28, K29, K78, K97, K99, K109, K123, K125, K279, K282⟩ := litX
  simp (disch := first | assumption | exact gb_01 _ | omega) only [r_X_count_0, r_X_count_1, r_X_count_80, r_X_count_81, r_X_count_84, r_X_count_87, r_X_count_88, r_X_count_89, r_X_count_95, r_X_count_96, r_X_count_97, r_X_count_100, r_X_count_103, r_X_count_104, r_X_count_105, r_X_count_111, r_X_count_112, r_X_count_113, r_X_count_116, r_X_count_120, r_X_count_121, r_X_count_122, r_X_count_125, r_X_count_129, r_X_count_130, r_X_count_131, r_X_count_134, r_X_count_137, r_X_count_140, r_X_count_141, r_X_count_142, r_X_count_145, r_X_count_148, r_X_count_151, r_X_count_152, r_X_count_153, r_X_count_156, r_X_count_159, r_X_count_162, r_X_count_163, r_X_count_164, r_X_count_167, r_X_count_170, r_X_count_173, r_X_count_174, r_X_count_175, r_X_count_178, r_X_count_181, r_X_count_184, r_X_count_185, r_X_count_186, r_X_count_189, r_X_count_190, r_X_count_191, r_X_count_194, r_X_count_197, r_X_count_198, r_X_count_199, r_X_count_202, r_X_count_205, r_X_count_206, r_X_count_207, r_X_count_210, r_X_count_213, r_X_count_214, r_X_count_215, r_X_count_218, r_X_count_221, r_X_count_224, r_X_count_225, r_X_count_227, gq_27_0, gq_27_1, gq_27_2, gq_27_3, gq_27_4, gq_27_5, gq_27_6, gq_28_0, gq_28_1, gq_28_2, gq_28_3, gq_28_4, gq_28_5, gq_28_6, w32_gb, w32i, tn_add, tn_mul, Int.toNat_natCast, Int.toNat_zero, Int.reduceLE, Int.reduceLT, Int.reduceEq, Int.reduceNe, gb_T, gb_F, Int.reduceToNat, eq_self, true_or, or_true, and_true, true_and, and_self, ↓ite_gb0, ↓ite_gbn, ↓if_pos, ↓if_neg, if_true, if_false, not_true_eq_false, not_false_eq_true, gb_ne0, gb_eq0]
theorem sp_X_count_13 : Run L (d + 2) 88 [vR 27, vI 13] σ (some (vI (σ 28 7))) σ := by
  refine Run_of (C' := k_X_count) rfl ?_
  show Wp L (d + 2) k_X_count 0 [vR 27, vI 13] [] σ _
  obtain ⟨K27, K28, K29, K78, K97, K99, K109, K123, K125, K279, K282⟩ := litX
  simp (disch := first | assumption | exact gb_01 _ | omega) only [r_X_count_0, r_X_count_1, r_X_count_80, r_X_count_81, r_X_count_84, r_X_count_87, r_X_count_88, r_X_count_89, r_X_count_95, r_X_count_96, r_X_count_97, r_X_count_100, r_X_count_103, r_X_count_104, r_X_count_105, r_X_count_111, r_X_count_112, r_X_count_113, r_X_count_116, r_X_count_120, r_X_count_121, r_X_count_122, r_X_count_125, r_X_count_129, r_X_count_130, r_X_count_131, r_X_count_134, r_X_count_137, r_X_count_140, r_X_count_141, r_X_count_142, r_X_count_145, r_X_count_148, r_X_count_151, r_X_count_152, r_X_count_153, r_X_count_156, r_X_count_159, r_X_count_162, r_X_count_163, r_X_count_164, r_X_count_167, r_X_count_170, r_X_count_173, r_X_count_174, r_X_count_175, r_X_count_178, r_X_count_181, r_X_count_184, r_X_count_185, r_X_count_186, r_X_count_189, r_X_count_190, r_X_count_191, r_X_count_194, r_X_count_197, r_X_count_198, r_X_count_199, r_X_count_202, r_X_count_205, r_X_count_206, r_X_count_207, r_X_count_210, r_X_count_213, r_X_count_214, r_X_count_215, r_X_count_218, r_X_count_221, r_X_count_224, r_X_count_225, r_X_count_227, gq_27_0, gq_27_1, gq_27_2, gq_27_3, gq_27_4, gq_27_5, gq_27_6, gq_28_0, gq_28_1, gq_28_2, gq_28_3, gq_28_4, gq_28_5, gq_28_6, w32_gb, w32i, tn_add, tn_mul, Int.toNat_natCast, Int.toNat_zero, Int.reduceLE, Int.reduceLT, Int.reduceEq, Int.reduceNe, gb_T, gb_F, Int.reduceToNat, eq_self, true_or, or_true, and_true, true_and, and_self, ↓ite_gb0, ↓ite_gbn, ↓if_pos, ↓if_neg, if_true, if_false, not_true_eq_false, not_false_eq_true, gb_ne0, gb_eq0]
theorem sp_X_count_14 : Run L (d + 2) 88 [vR 27, vI 14] σ (some (vI (σ 29 12))) σ := by
  refine Run_of (C' := k_X_count) rfl ?_
  show Wp L (d + 2) k_X_count 0 [vR 27, vI 14] [] σ _
  obtain ⟨K27, K28, K29, K78, K97, K99, K109, K123, K125, K279, K282⟩ := litX
  simp (disch := first | assumption | exact gb_01 _ | omega) only [r_X_count_0, r_X_count_1, r_X_count_80, r_X_count_81, r_X_count_84, r_X_count_87, r_X_count_88, r_X_count_89, r_X_count_95, r_X_count_96, r_X_count_97, r_X_count_100, r_X_count_103, r_X_count_104, r_X_count_105, r_X_count_111, r_X_count_112, r_X_count_113, r_X_count_116, r_X_count_120, r_X_count_121, r_X_count_122, r_X_count_125, r_X_count_129, r_X_count_130, r_X_count_131, r_X_count_134, r_X_count_137, r_X_count_140, r_X_count_141, r_X_count_142, r_X_count_145, r_X_count_148, r_X_count_151, r_X_count_152, r_X_count_153, r_X_count_156, r_X_count_159, r_X_count_162, r_X_count_163, r_X_count_164, r_X_count_167, r_X_count_170, r_X_count_173, r_X_count_174, r_X_count_175, r_X_count_178, r_X_count_181, r_X_count_184, r_X_count_185, r_X_count_186, r_X_count_189, r_X_count_190, r_X_count_191, r_X_count_194, r_X_count_197, r_X_count_198, r_X_count_199, r_X_count_202, r_X_count_205, r_X_count_206, r_X_count_207, r_X_count_210, r_X_count_213, r_X_count_214, r_X_count_215, r_X_count_218, r_X_count_221, r_X_count_224, r_X_count_225, r_X_count_227, gq_27_0, gq_27_1, gq_27_2, gq_27_3, gq_27_4, gq_27_5, gq_27_6, gq_28_0, gq_28_1, gq_28_2, gq_28_3, gq_28_4, gq_28_5, gq_28_6, w32_gb, w32i, tn_add, tn_mul, Int.toNat_natCast, Int.toNat_zero, Int.reduceLE, Int.reduceLT, Int.reduceEq, Int.reduceNe, gb_T, gb_F, Int.reduceToNat, eq_self, true_or, or_true, and_true, true_and, and_self, ↓ite_gb0, ↓ite_gbn, ↓if_pos, ↓if_neg, if_true, if_false, not_true_eq_false, not_false_eq_true, gb_ne0, gb_eq0]
theorem sp_X_count_15 : Run L (d + 2) 88 [vR 27, vI 15] σ (some (vI (gb (σ 29 13 ≠ 0)))) σ := by
  refine Run_of (C' := k_X_count) rfl ?_
  show Wp L (d + 2) k_X_count 0 [vR 27, vI 15] [] σ _
  obtain ⟨K27, K28, K29, K78, K97, K99, K109, K123, K125, K279, K282⟩ := litX
  simp (disch := first | assumption | exact gb_01 _ | omega) only [r_X_count_0, r_X_count_1, r_X_count_80, r_X_count_81, r_X_count_84, r_X_count_87, r_X_count_88, r_X_count_89, r_X_count_95, r_X_count_96, r_X_count_97, r_X_count_100, r_X_count_103, r_X_count_104, r_X_count_105, r_X_count_111, r_X_count_112, r_X_count_113, r_X_count_116, r_X_count_120, r_X_count_121, r_X_count_122, r_X_count_125, r_X_count_129, r_X_count_130, r_X_count_131, r_X_count_134, r_X_count_137, r_X_count_140, r_X_count_141, r_X_count_142, r_X_count_145, r_X_count_148, r_X_count_151, r_X_count_152, r_X_count_153, r_X_count_156, r_X_count_159, r_X_count_162, r_X_count_163, r_X_count_164, r_X_count_167, r_X_count_170, r_X_count_173, r_X_count_174, r_X_count_175, r_X_count_178, r_X_count_181, r_X_count_184, r_X_count_185, r_X_count_186, r_X_count_189, r_X_count_190, r_X_count_191, r_X_count_194, r_X_count_197, r_X_count_198, r_X_count_199, r_X_count_202, r_X_count_205, r_X_count_206, r_X_count_207, r_X_count_210, r_X_count_213, r_X_count_214, r_X_count_215, r_X_count_218, r_X_count_221, r_X_count_224, r_X_count_225, r_X_count_227, gq_27_0, gq_27_1, gq_27_2, gq_27_3, gq_27_4, gq_27_5, gq_27_6, gq_28_0, gq_28_1, gq_28_2, gq_28_3, gq_28_4, gq_28_5, gq_28_6, w32_gb, w32i, tn_add, tn_mul, Int.toNat_natCast, Int.toNat_zero, Int.reduceLE, Int.reduceLT, Int.reduceEq, Int.reduceNe, gb_T, gb_F, Int.reduceToNat, eq_self, true_or, or_true, and_true, true_and, and_self, ↓ite_gb0, ↓ite_gbn, ↓if_pos, ↓if_neg, if_true, if_false, not_true_eq_false, not_false_eq_true, gb_ne0, gb_eq0]
theorem sp_X_count_b (e0 : ¬ a1 = 0) (e1 : ¬ a1 = 1) (e2 : ¬ a1 = 2) (e3 : ¬ a1 = 3) (e4 : ¬ a1 = 4) (e5 : ¬ a1 = 5) (e6 : ¬ a1 = 6) (e7 : ¬ a1 = 7) (e8 : ¬ a1 = 8) (e9 : ¬ a1 = 9) (e10 : ¬ a1 = 10) (e11 : ¬ a1 = 11) (e12 : ¬ a1 = 12) (e13 : ¬ a1 = 13) (e14 : ¬ a1 = 14) (e15 : ¬ a1 = 15) : Run L (d + 2) 88 [vR 27, vI a1] σ (some (vI (-1000000001))) σ := by
  refine Run_of (C' := k_X_count) rfl ?_
  show Wp L (d + 2) k_X_count 0 [vR 27, vI a1] [] σ _
  simp (disch := first | assumption | exact gb_01 _ | omega) only [r_X_count_0, r_X_count_1, r_X_count_80, r_X_count_81, r_X_count_84, r_X_count_87, r_X_count_88, r_X_count_89, r_X_count_95, r_X_count_96, r_X_count_97, r_X_count_100, r_X_count_103, r_X_count_104, r_X_count_105, r_X_count_111, r_X_count_112, r_X_count_113, r_X_count_116, r_X_count_120, r_X_count_121, r_X_count_122, r_X_count_125, r_X_count_129, r_X_count_130, r_X_count_131, r_X_count_134, r_X_count_137, r_X_count_140, r_X_count_141, r_X_count_142, r_X_count_145, r_X_count_148, r_X_count_151, r_X_count_152, r_X_count_153, r_X_count_156, r_X_count_159, r_X_count_162, r_X_count_163, r_X_count_164, r_X_count_167, r_X_count_170, r_X_count_173, r_X_count_174, r_X_count_175, r_X_count_178, r_X_count_181, r_X_count_184, r_X_count_185, r_X_count_186, r_X_count_189, r_X_count_190, r_X_count_191, r_X_count_194, r_X_count_197, r_X_count_198, r_X_count_199, r_X_count_202, r_X_count_205, r_X_count_206, r_X_count_207, r_X_count_210, r_X_count_213, r_X_count_214, r_X_count_215, r_X_count_218, r_X_count_221, r_X_count_224, r_X_count_225, r_X_count_227, w32_gb, w32i, tn_add, tn_mul, Int.toNat_natCast, Int.toNat_zero, Int.reduceLE, Int.reduceLT, Int.reduceEq, Int.reduceNe, gb_T, gb_F, Int.reduceToNat, eq_self, true_or, or_true, and_true, true_and, and_self, ↓ite_gb0, ↓ite_gbn, ↓if_pos, ↓if_neg, if_true, if_false, not_true_eq_false, not_false_eq_true, gb_ne0, gb_eq0]
theorem r_M_count_0 : Wp L d k_M_count 0 [l0, l1, l2, l3] [] σ Q ↔ Wp L d k_M_count 1 [l0, l1, l2, l3] [vI 0] σ Q := wp_push rfl
theorem r_M_count_1 : Wp L d k_M_count 1 [l0, vI a1, l2, l3] [vI s0] σ Q ↔ Wp L d k_M_count 2 [l0, vI a1, vI s0, l3] [] σ Q := wp_istore (i := 2) (ls := [l0, vI a1, l2, l3]) rfl rfl
theorem r_M_count_2 : Wp L d k_M_count 2 [l0, vI a1, l2, l3] [] σ Q ↔ Wp L d k_M_count 3 [l0, vI a1, l2, l3] [vI a1] σ Q := wp_iload rfl rfl
theorem r_M_count_3 : Wp L d k_M_count 3 [l0, l1, l2, l3] [vI s0] σ Q ↔ (if s0 = 0 then Wp L d k_M_count 80 [l0, l1, l2, l3] [] σ Q else if s0 = 1 then Wp L d k_M_count 87 [l0, l1, l2, l3] [] σ Q else if s0 = 2 then Wp L d k_M_count 92 [l0, l1, l2, l3] [] σ Q else if s0 = 3 then Wp L d k_M_count 99 [l0, l1, l2, l3] [] σ Q else if s0 = 4 then Wp L d k_M_count 104 [l0, l1, l2, l3] [] σ Q else if s0 = 5 then Wp L d k_M_count 104 [l0, l1, l2, l3] [] σ Q else if s0 = 6 then Wp L d k_M_count 163 [l0, l1, l2, l3] [] σ Q else if s0 = 7 then Wp L d k_M_count 170 [l0, l1, l2, l3] [] σ Q else if s0 = 8 then Wp L d k_M_count 177 [l0, l1, l2, l3] [] σ Q else if s0 = 9 then Wp L d k_M_count 184 [l0, l1, l2, l3] [] σ Q else if s0 = 10 then Wp L d k_M_count 191 [l0, l1, l2, l3] [] σ Q else if s0 = 11 then Wp L d k_M_count 199 [l0, l1, l2, l3] [] σ Q else if s0 = 12 then Wp L d k_M_count 204 [l0, l1, l2, l3] [] σ Q else if s0 = 13 then Wp L d k_M_count 209 [l0, l1, l2, l3] [] σ Q else if s0 = 14 then Wp L d k_M_count 217 [l0, l1, l2, l3] [] σ Q else if s0 = 15 then Wp L d k_M_count 228 [l0, l1, l2, l3] [] σ Q else Wp L d k_M_count 236 [l0, l1, l2, l3] [] σ Q) := by
  by_cases h0 : s0 = 0
  · subst h0
    rw [if_pos rfl]
    exact Wp_s rfl rfl rfl rfl
  by_cases h1 : s0 = 1
  · subst h1
    rw [if_neg (by omega), if_pos rfl]
    exact Wp_s rfl rfl rfl rfl
  by_cases h2 : s0 = 2
  · subst h2
    rw [if_neg (by omega), if_neg (by omega), if_pos rfl]
    exact Wp_s rfl rfl rfl rfl
  by_cases h3 : s0 = 3
  · subst h3
    rw [if_neg (by omega), if_neg (by omega), if_neg (by omega), if_pos rfl]
    exact Wp_s rfl rfl rfl rfl
  by_cases h4 : s0 = 4
  · subst h4
    rw [if_neg (by omega), if_neg (by omega), if_neg (by omega), if_neg (by omega), if_pos rfl]
    exact Wp_s rfl rfl rfl rfl
  by_cases h5 : s0 = 5
  · subst h5
    rw [if_neg (by omega), if_neg (by omega), if_neg (by omega), if_neg (by omega), if_neg (by omega), if_pos rfl]
    exact Wp_s rfl rfl rfl rfl
  by_cases h6 : s0 = 6
  · subst h6
    rw [if_neg (by omega), if_neg (by omega), if_neg (by omega), if_neg (by omega), if_neg (by omega), if_neg (by omega), if_pos rfl]
    exact Wp_s rfl rfl rfl rfl
  by_cases h7 : s0 = 7
  · subst h7
    rw [if_neg (by omega), if_neg (by omega), if_neg (by omega), if_neg (by omega), if_neg (by omega), if_neg (by omega), if_neg (by omega), if_pos rfl]
    exact Wp_s rfl rfl rfl rfl
  by_cases h8 : s0 = 8
  · subst h8
    rw [if_neg (by omega), if_neg (by omega), if_neg (by omega), if_neg (by omega), if_neg (by omega), if_neg (by omega), if_neg (by omega), if_neg (by omega), if_pos rfl]
    exact Wp_s rfl rfl rfl rfl
  by_cases h9 : s0 = 9
  · subst h9
    rw [if_neg (by omega), if_neg (by omega), if_neg (by omega), if_neg (by omega), if_neg (by omega), if_neg (by omega), if_neg (by omega), if_neg (by omega), if_neg (by omega), if_pos rfl]
    exact Wp_s rfl rfl rfl rfl
  by_cases h10 : s0 = 10
  · subst h10
    rw [if_neg (by omega), if_neg (by omega), if_neg (by omega), if_neg (by omega), if_neg (by omega), if_neg (by omega), if_neg (by omega), if_neg (by omega), if_neg (by omega), if_neg (by omega), if_pos rfl]
    exact Wp_s rfl rfl rfl rfl
  by_cases h11 : s0 = 11
  · subst h11
    rw [if_neg (by omega), if_neg (by omega), if_neg (by omega), if_neg (by omega), if_neg (by omega), if_neg (by omega), if_neg (by omega), if_neg (by omega), if_neg (by omega), if_neg (by omega), if_neg (by omega), if_pos rfl]
    exact Wp_s rfl rfl rfl rfl
  by_cases h12 : s0 = 12
  · subst h12
    rw [if_neg (by omega), if_neg (by omega), if_neg (by omega), if_neg (by omega), if_neg (by omega), if_neg (by omega), if_neg (by omega), if_neg (by omega), if_neg (by omega), if_neg (by omega), if_neg (by omega), if_neg (by omega), if_pos rfl]
    exact Wp_s rfl rfl rfl rfl
  by_cases h13 : s0 = 13
  · subst h13
    rw [if_neg (by omega), if_neg (by omega), if_neg (by omega), if_neg (by omega), if_neg (by omega), if_neg (by omega), if_neg (by omega), if_neg (by omega), if_neg (by omega), if_neg (by omega), if_neg (by omega), if_neg (by omega), if_neg (by omega), if_pos rfl]
    exact Wp_s rfl rfl rfl rfl
  by_cases h14 : s0 = 14
  · subst h14
    rw [if_neg (by omega), if_neg (by omega), if_neg (by omega), if_neg (by omega), if_neg (by omega), if_neg (by omega), if_neg (by omega), if_neg (by omega), if_neg (by omega), if_neg (by omega), if_neg (by omega), if_neg (by omega), if_neg (by omega), if_neg (by omega), if_pos rfl]
    exact Wp_s rfl rfl rfl rfl
  by_cases h15 : s0 = 15
  · subst h15
    rw [if_neg (by omega), if_neg (by omega), if_neg (by omega), if_neg (by omega), if_neg (by omega), if_neg (by omega), if_neg (by omega), if_neg (by omega), if_neg (by omega), if_neg (by omega), if_neg (by omega), if_neg (by omega), if_neg (by omega), if_neg (by omega), if_neg (by omega), if_pos rfl]
    exact Wp_s rfl rfl rfl rfl
  rw [if_neg h0, if_neg h1, if_neg h2, if_neg h3, if_neg h4, if_neg h5, if_neg h6, if_neg h7, if_neg h8, if_neg h9, if_neg h10, if_neg h11, if_neg h12, if_neg h13, if_neg h14, if_neg h15]
  have hout : s0 < 0 ∨ 15 < s0 := by omega
  exact Wp_s rfl rfl rfl (by simp only [gstep, vI, if_pos hout]; rfl)
theorem r_M_count_80 : Wp L d k_M_count 80 [vR b0, l1, l2, l3] [] σ Q ↔ Wp L d k_M_count 81 [vR b0, l1, l2, l3] [vR b0] σ Q := wp_aload rfl rfl
theorem r_M_count_81 (h : gK c0 = 12) : Wp L d k_M_count 81 [l0, l1, l2, l3] [vR c0] σ Q ↔ Wp L d k_M_count 84 [l0, l1, l2, l3] [vR (gq c0 0)] σ Q := wp_getR (c := 3200) rfl rfl rfl rfl rfl h
theorem r_M_count_84 : Wp L d k_M_count 84 [l0, l1, l2, l3] [vR c0] σ Q ↔ Wp L d k_M_count 85 [l0, l1, l2, l3] [vI 0, vR c0] σ Q := wp_push rfl
theorem r_M_count_85 (h : gK c0 = 100) (hx : 0 ≤ s1 ∧ s1 < gN c0) : Wp L d k_M_count 85 [l0, l1, l2, l3] [vI s1, vR c0] σ Q ↔ Wp L d k_M_count 86 [l0, l1, l2, l3] [vI (σ c0 s1.toNat)] σ Q := wp_iald rfl h hx
theorem r_M_count_86 : Wp L d k_M_count 86 [l0, l1, l2, l3] [vI s0] σ Q ↔ Q (some (vI s0)) σ := wp_iret rfl
theorem r_M_count_87 : Wp L d k_M_count 87 [vR b0, l1, l2, l3] [] σ Q ↔ Wp L d k_M_count 88 [vR b0, l1, l2, l3] [vR b0] σ Q := wp_aload rfl rfl
theorem r_M_count_91 : Wp L d k_M_count 91 [l0, l1, l2, l3] [vI s0] σ Q ↔ Q (some (vI s0)) σ := wp_iret rfl
theorem r_M_count_92 : Wp L d k_M_count 92 [vR b0, l1, l2, l3] [] σ Q ↔ Wp L d k_M_count 93 [vR b0, l1, l2, l3] [vR b0] σ Q := wp_aload rfl rfl
theorem r_M_count_93 (h : gK c0 = 12) : Wp L d k_M_count 93 [l0, l1, l2, l3] [vR c0] σ Q ↔ Wp L d k_M_count 96 [l0, l1, l2, l3] [vR (gq c0 0)] σ Q := wp_getR (c := 3200) rfl rfl rfl rfl rfl h
theorem r_M_count_96 : Wp L d k_M_count 96 [l0, l1, l2, l3] [vR c0] σ Q ↔ Wp L d k_M_count 97 [l0, l1, l2, l3] [vI 1, vR c0] σ Q := wp_push rfl
theorem r_M_count_97 (h : gK c0 = 100) (hx : 0 ≤ s1 ∧ s1 < gN c0) : Wp L d k_M_count 97 [l0, l1, l2, l3] [vI s1, vR c0] σ Q ↔ Wp L d k_M_count 98 [l0, l1, l2, l3] [vI (σ c0 s1.toNat)] σ Q := wp_iald rfl h hx
theorem r_M_count_98 : Wp L d k_M_count 98 [l0, l1, l2, l3] [vI s0] σ Q ↔ Q (some (vI s0)) σ := wp_iret rfl
theorem r_M_count_99 : Wp L d k_M_count 99 [vR b0, l1, l2, l3] [] σ Q ↔ Wp L d k_M_count 100 [vR b0, l1, l2, l3] [vR b0] σ Q := wp_aload rfl rfl
theorem r_M_count_103 : Wp L d k_M_count 103 [l0, l1, l2, l3] [vI s0] σ Q ↔ Q (some (vI s0)) σ := wp_iret rfl
theorem r_M_count_104 : Wp L d k_M_count 104 [l0, l1, l2, l3] [] σ Q ↔ Wp L d k_M_count 105 [l0, l1, l2, l3] [vI 0] σ Q := wp_push rfl
theorem r_M_count_105 : Wp L d k_M_count 105 [l0, l1, vI a2, l3] [vI s0] σ Q ↔ Wp L d k_M_count 106 [l0, l1, vI a2, vI s0] [] σ Q := wp_istore (i := 3) (ls := [l0, l1, vI a2, l3]) rfl rfl
theorem r_M_count_106 : Wp L d k_M_count 106 [l0, l1, l2, vI a3] [] σ Q ↔ Wp L d k_M_count 107 [l0, l1, l2, vI a3] [vI a3] σ Q := wp_iload rfl rfl
theorem r_M_count_107 : Wp L d k_M_count 107 [vR b0, l1, l2, l3] [vI s0] σ Q ↔ Wp L d k_M_count 108 [vR b0, l1, l2, l3] [vR b0, vI s0] σ Q := wp_aload rfl rfl
theorem r_M_count_108 (h : gK c1 = 12) : Wp L d k_M_count 108 [l0, l1, l2, l3] [vR c1, vI s0] σ Q ↔ Wp L d k_M_count 111 [l0, l1, l2, l3] [vR (gq c1 0), vI s0] σ Q := wp_getR (c := 3200) rfl rfl rfl rfl rfl h
theorem r_M_count_111 : Wp L d k_M_count 111 [l0, l1, l2, l3] [vR c1, vI s0] σ Q ↔ Wp L d k_M_count 112 [l0, l1, l2, l3] [vI 1, vR c1, vI s0] σ Q := wp_push rfl
theorem r_M_count_112 (h : gK c1 = 100) (hx : 0 ≤ s2 ∧ s2 < gN c1) : Wp L d k_M_count 112 [l0, l1, l2, l3] [vI s2, vR c1, vI s0] σ Q ↔ Wp L d k_M_count 113 [l0, l1, l2, l3] [vI (σ c1 s2.toNat), vI s0] σ Q := wp_iald rfl h hx
theorem r_M_count_113 : Wp L d k_M_count 113 [l0, l1, l2, l3] [vI s1, vI s0] σ Q ↔ (if s1 ≤ s0 then Wp L d k_M_count 161 [l0, l1, l2, l3] [] σ Q else Wp L d k_M_count 116 [l0, l1, l2, l3] [] σ Q) := wp_cmp_ge rfl
theorem r_M_count_116 : Wp L d k_M_count 116 [l0, l1, vI a2, l3] [] σ Q ↔ Wp L d k_M_count 117 [l0, l1, vI a2, l3] [vI a2] σ Q := wp_iload rfl rfl
theorem r_M_count_117 : Wp L d k_M_count 117 [vR b0, l1, l2, l3] [vI s0] σ Q ↔ Wp L d k_M_count 118 [vR b0, l1, l2, l3] [vR b0, vI s0] σ Q := wp_aload rfl rfl
theorem r_M_count_118 : Wp L d k_M_count 118 [l0, l1, l2, vI a3] [vR c1, vI s0] σ Q ↔ Wp L d k_M_count 119 [l0, l1, l2, vI a3] [vI a3, vR c1, vI s0] σ Q := wp_iload rfl rfl
theorem r_M_count_122 : Wp L d k_M_count 122 [l0, l1, l2, l3] [vI s1, vI s0] σ Q ↔ Wp L d k_M_count 123 [l0, l1, l2, l3] [vI 4, vI s1, vI s0] σ Q := wp_push rfl
theorem r_M_count_123 : Wp L d k_M_count 123 [l0, l1, l2, l3] [vI s2, vI s1, vI s0] σ Q ↔ (if s1 ≠ s2 then Wp L d k_M_count 152 [l0, l1, l2, l3] [vI s0] σ Q else Wp L d k_M_count 126 [l0, l1, l2, l3] [vI s0] σ Q) := wp_cmp_ne rfl
theorem r_M_count_126 : Wp L d k_M_count 126 [l0, vI a1, l2, l3] [vI s0] σ Q ↔ Wp L d k_M_count 127 [l0, vI a1, l2, l3] [vI a1, vI s0] σ Q := wp_iload rfl rfl
theorem r_M_count_127 : Wp L d k_M_count 127 [l0, l1, l2, l3] [vI s1, vI s0] σ Q ↔ Wp L d k_M_count 128 [l0, l1, l2, l3] [vI 4, vI s1, vI s0] σ Q := wp_push rfl
theorem r_M_count_128 : Wp L d k_M_count 128 [l0, l1, l2, l3] [vI s2, vI s1, vI s0] σ Q ↔ (if s1 = s2 then Wp L d k_M_count 148 [l0, l1, l2, l3] [vI s0] σ Q else Wp L d k_M_count 131 [l0, l1, l2, l3] [vI s0] σ Q) := wp_cmp_eq rfl
theorem r_M_count_131 : Wp L d k_M_count 131 [vR b0, l1, l2, l3] [vI s0] σ Q ↔ Wp L d k_M_count 132 [vR b0, l1, l2, l3] [vR b0, vI s0] σ Q := wp_aload rfl rfl
theorem r_M_count_132 (h : gK c1 = 12) : Wp L d k_M_count 132 [l0, l1, l2, l3] [vR c1, vI s0] σ Q ↔ Wp L d k_M_count 135 [l0, l1, l2, l3] [vR (gq c1 0), vI s0] σ Q := wp_getR (c := 3200) rfl rfl rfl rfl rfl h
theorem r_M_count_135 : Wp L d k_M_count 135 [vR b0, l1, l2, l3] [vR c1, vI s0] σ Q ↔ Wp L d k_M_count 136 [vR b0, l1, l2, l3] [vR b0, vR c1, vI s0] σ Q := wp_aload rfl rfl
theorem r_M_count_136 : Wp L d k_M_count 136 [l0, l1, l2, vI a3] [vR c2, vR c1, vI s0] σ Q ↔ Wp L d k_M_count 137 [l0, l1, l2, vI a3] [vI a3, vR c2, vR c1, vI s0] σ Q := wp_iload rfl rfl
theorem r_M_count_140 : Wp L d k_M_count 140 [l0, l1, l2, l3] [vI s2, vR c1, vI s0] σ Q ↔ Wp L d k_M_count 142 [l0, l1, l2, l3] [vI 11, vI s2, vR c1, vI s0] σ Q := wp_push rfl
theorem r_M_count_142 : Wp L d k_M_count 142 [l0, l1, l2, l3] [vI s3, vI s2, vR c1, vI s0] σ Q ↔ Wp L d k_M_count 143 [l0, l1, l2, l3] [vI (w32 (s2 + s3)), vR c1, vI s0] σ Q := wp_iadd rfl
theorem r_M_count_143 (h : gK c1 = 100) (hx : 0 ≤ s2 ∧ s2 < gN c1) : Wp L d k_M_count 143 [l0, l1, l2, l3] [vI s2, vR c1, vI s0] σ Q ↔ Wp L d k_M_count 144 [l0, l1, l2, l3] [vI (σ c1 s2.toNat), vI s0] σ Q := wp_iald rfl h hx
theorem r_M_count_144 : Wp L d k_M_count 144 [l0, l1, l2, l3] [vI s1, vI s0] σ Q ↔ Wp L d k_M_count 145 [l0, l1, l2, l3] [vI 1, vI s1, vI s0] σ Q := wp_push rfl
theorem r_M_count_145 : Wp L d k_M_count 145 [l0, l1, l2, l3] [vI s2, vI s1, vI s0] σ Q ↔ (if s1 ≠ s2 then Wp L d k_M_count 152 [l0, l1, l2, l3] [vI s0] σ Q else Wp L d k_M_count 148 [l0, l1, l2, l3] [vI s0] σ Q) := wp_cmp_ne rfl
theorem r_M_count_148 : Wp L d k_M_count 148 [l0, l1, l2, l3] [vI s0] σ Q ↔ Wp L d k_M_count 149 [l0, l1, l2, l3] [vI 1, vI s0] σ Q := wp_push rfl
theorem r_M_count_149 : Wp L d k_M_count 149 [l0, l1, l2, l3] [vI s1, vI s0] σ Q ↔ Wp L d k_M_count 153 [l0, l1, l2, l3] [vI s1, vI s0] σ Q := wp_goto rfl
theorem r_M_count_152 : Wp L d k_M_count 152 [l0, l1, l2, l3] [vI s0] σ Q ↔ Wp L d k_M_count 153 [l0, l1, l2, l3] [vI 0, vI s0] σ Q := wp_push rfl
theorem r_M_count_153 : Wp L d k_M_count 153 [l0, l1, l2, l3] [vI s1, vI s0] σ Q ↔ Wp L d k_M_count 154 [l0, l1, l2, l3] [vI (w32 (s0 + s1))] σ Q := wp_iadd rfl
theorem r_M_count_154 : Wp L d k_M_count 154 [l0, vI a1, l2, l3] [vI s0] σ Q ↔ Wp L d k_M_count 155 [l0, vI a1, vI s0, l3] [] σ Q := wp_istore (i := 2) (ls := [l0, vI a1, l2, l3]) rfl rfl
theorem r_M_count_155 : Wp L d k_M_count 155 [l0, l1, vI a2, vI a3] [] σ Q ↔ Wp L d k_M_count 158 [l0, l1, vI a2, vI (w32 (a3 + 1))] [] σ Q := wp_iinc (i := 3) (ls := [l0, l1, vI a2, vI a3]) rfl rfl
theorem r_M_count_158 : Wp L d k_M_count 158 [l0, l1, l2, l3] [] σ Q ↔ Wp L d k_M_count 106 [l0, l1, l2, l3] [] σ Q := wp_goto rfl
theorem r_M_count_161 : Wp L d k_M_count 161 [l0, l1, vI a2, l3] [] σ Q ↔ Wp L d k_M_count 162 [l0, l1, vI a2, l3] [vI a2] σ Q := wp_iload rfl rfl
theorem r_M_count_162 : Wp L d k_M_count 162 [l0, l1, l2, l3] [vI s0] σ Q ↔ Q (some (vI s0)) σ := wp_iret rfl
theorem r_M_count_163 : Wp L d k_M_count 163 [vR b0, l1, l2, l3] [] σ Q ↔ Wp L d k_M_count 164 [vR b0, l1, l2, l3] [vR b0] σ Q := wp_aload rfl rfl
theorem r_M_count_164 (h : gK c0 = 12) : Wp L d k_M_count 164 [l0, l1, l2, l3] [vR c0] σ Q ↔ Wp L d k_M_count 167 [l0, l1, l2, l3] [vR (gq c0 0)] σ Q := wp_getR (c := 3200) rfl rfl rfl rfl rfl h
theorem r_M_count_167 : Wp L d k_M_count 167 [l0, l1, l2, l3] [vR c0] σ Q ↔ Wp L d k_M_count 168 [l0, l1, l2, l3] [vI 2, vR c0] σ Q := wp_push rfl
theorem r_M_count_168 (h : gK c0 = 100) (hx : 0 ≤ s1 ∧ s1 < gN c0) : Wp L d k_M_count 168 [l0, l1, l2, l3] [vI s1, vR c0] σ Q ↔ Wp L d k_M_count 169 [l0, l1, l2, l3] [vI (σ c0 s1.toNat)] σ Q := wp_iald rfl h hx
theorem r_M_count_169 : Wp L d k_M_count 169 [l0, l1, l2, l3] [vI s0] σ Q ↔ Q (some (vI s0)) σ := wp_iret rfl
theorem r_M_count_170 : Wp L d k_M_count 170 [vR b0, l1, l2, l3] [] σ Q ↔ Wp L d k_M_count 171 [vR b0, l1, l2, l3] [vR b0] σ Q := wp_aload rfl rfl
theorem r_M_count_171 (h : gK c0 = 12) : Wp L d k_M_count 171 [l0, l1, l2, l3] [vR c0] σ Q ↔ Wp L d k_M_count 174 [l0, l1, l2, l3] [vR (gq c0 0)] σ Q := wp_getR (c := 3200) rfl rfl rfl rfl rfl h
theorem r_M_count_174 : Wp L d k_M_count 174 [l0, l1, l2, l3] [vR c0] σ Q ↔ Wp L d k_M_count 175 [l0, l1, l2, l3] [vI 3, vR c0] σ Q := wp_push rfl
theorem r_M_count_175 (h : gK c0 = 100) (hx : 0 ≤ s1 ∧ s1 < gN c0) : Wp L d k_M_count 175 [l0, l1, l2, l3] [vI s1, vR c0] σ Q ↔ Wp L d k_M_count 176 [l0, l1, l2, l3] [vI (σ c0 s1.toNat)] σ Q := wp_iald rfl h hx
theorem r_M_count_176 : Wp L d k_M_count 176 [l0, l1, l2, l3] [vI s0] σ Q ↔ Q (some (vI s0)) σ := wp_iret rfl
theorem r_M_count_177 : Wp L d k_M_count 177 [vR b0, l1, l2, l3] [] σ Q ↔ Wp L d k_M_count 178 [vR b0, l1, l2, l3] [vR b0] σ Q := wp_aload rfl rfl
theorem r_M_count_178 (h : gK c0 = 12) : Wp L d k_M_count 178 [l0, l1, l2, l3] [vR c0] σ Q ↔ Wp L d k_M_count 181 [l0, l1, l2, l3] [vR (gq c0 0)] σ Q := wp_getR (c := 3200) rfl rfl rfl rfl rfl h
theorem r_M_count_181 : Wp L d k_M_count 181 [l0, l1, l2, l3] [vR c0] σ Q ↔ Wp L d k_M_count 182 [l0, l1, l2, l3] [vI 4, vR c0] σ Q := wp_push rfl
theorem r_M_count_182 (h : gK c0 = 100) (hx : 0 ≤ s1 ∧ s1 < gN c0) : Wp L d k_M_count 182 [l0, l1, l2, l3] [vI s1, vR c0] σ Q ↔ Wp L d k_M_count 183 [l0, l1, l2, l3] [vI (σ c0 s1.toNat)] σ Q := wp_iald rfl h hx
theorem r_M_count_183 : Wp L d k_M_count 183 [l0, l1, l2, l3] [vI s0] σ Q ↔ Q (some (vI s0)) σ := wp_iret rfl
theorem r_M_count_184 : Wp L d k_M_count 184 [vR b0, l1, l2, l3] [] σ Q ↔ Wp L d k_M_count 185 [vR b0, l1, l2, l3] [vR b0] σ Q := wp_aload rfl rfl
theorem r_M_count_185 (h : gK c0 = 12) : Wp L d k_M_count 185 [l0, l1, l2, l3] [vR c0] σ Q ↔ Wp L d k_M_count 188 [l0, l1, l2, l3] [vR (gq c0 0)] σ Q := wp_getR (c := 3200) rfl rfl rfl rfl rfl h
theorem r_M_count_188 : Wp L d k_M_count 188 [l0, l1, l2, l3] [vR c0] σ Q ↔ Wp L d k_M_count 189 [l0, l1, l2, l3] [vI 5, vR c0] σ Q := wp_push rfl
theorem r_M_count_189 (h : gK c0 = 100) (hx : 0 ≤ s1 ∧ s1 < gN c0) : Wp L d k_M_count 189 [l0, l1, l2, l3] [vI s1, vR c0] σ Q ↔ Wp L d k_M_count 190 [l0, l1, l2, l3] [vI (σ c0 s1.toNat)] σ Q := wp_iald rfl h hx
theorem r_M_count_190 : Wp L d k_M_count 190 [l0, l1, l2, l3] [vI s0] σ Q ↔ Q (some (vI s0)) σ := wp_iret rfl
theorem r_M_count_191 : Wp L d k_M_count 191 [vR b0, l1, l2, l3] [] σ Q ↔ Wp L d k_M_count 192 [vR b0, l1, l2, l3] [vR b0] σ Q := wp_aload rfl rfl
theorem r_M_count_192 (h : gK c0 = 12) : Wp L d k_M_count 192 [l0, l1, l2, l3] [vR c0] σ Q ↔ Wp L d k_M_count 195 [l0, l1, l2, l3] [vR (gq c0 0)] σ Q := wp_getR (c := 3200) rfl rfl rfl rfl rfl h
theorem r_M_count_195 : Wp L d k_M_count 195 [l0, l1, l2, l3] [vR c0] σ Q ↔ Wp L d k_M_count 197 [l0, l1, l2, l3] [vI 6, vR c0] σ Q := wp_push rfl
theorem r_M_count_197 (h : gK c0 = 100) (hx : 0 ≤ s1 ∧ s1 < gN c0) : Wp L d k_M_count 197 [l0, l1, l2, l3] [vI s1, vR c0] σ Q ↔ Wp L d k_M_count 198 [l0, l1, l2, l3] [vI (σ c0 s1.toNat)] σ Q := wp_iald rfl h hx
theorem r_M_count_198 : Wp L d k_M_count 198 [l0, l1, l2, l3] [vI s0] σ Q ↔ Q (some (vI s0)) σ := wp_iret rfl
theorem r_M_count_199 : Wp L d k_M_count 199 [vR b0, l1, l2, l3] [] σ Q ↔ Wp L d k_M_count 200 [vR b0, l1, l2, l3] [vR b0] σ Q := wp_aload rfl rfl
theorem r_M_count_200 (h : gK c0 = 12) : Wp L d k_M_count 200 [l0, l1, l2, l3] [vR c0] σ Q ↔ Wp L d k_M_count 203 [l0, l1, l2, l3] [vI (σ c0 27)] σ Q := wp_getI (c := 3099) rfl rfl rfl rfl h
theorem r_M_count_203 : Wp L d k_M_count 203 [l0, l1, l2, l3] [vI s0] σ Q ↔ Q (some (vI s0)) σ := wp_iret rfl
theorem r_M_count_204 : Wp L d k_M_count 204 [vR b0, l1, l2, l3] [] σ Q ↔ Wp L d k_M_count 205 [vR b0, l1, l2, l3] [vR b0] σ Q := wp_aload rfl rfl
theorem r_M_count_205 (h : gK c0 = 12) : Wp L d k_M_count 205 [l0, l1, l2, l3] [vR c0] σ Q ↔ Wp L d k_M_count 208 [l0, l1, l2, l3] [vI (σ c0 9)] σ Q := wp_getI (c := 3081) rfl rfl rfl rfl h
theorem r_M_count_208 : Wp L d k_M_count 208 [l0, l1, l2, l3] [vI s0] σ Q ↔ Q (some (vI s0)) σ := wp_iret rfl
theorem r_M_count_209 : Wp L d k_M_count 209 [vR b0, l1, l2, l3] [] σ Q ↔ Wp L d k_M_count 210 [vR b0, l1, l2, l3] [vR b0] σ Q := wp_aload rfl rfl
theorem r_M_count_210 (h : gK c0 = 12) : Wp L d k_M_count 210 [l0, l1, l2, l3] [vR c0] σ Q ↔ Wp L d k_M_count 213 [l0, l1, l2, l3] [vR (gq c0 0)] σ Q := wp_getR (c := 3200) rfl rfl rfl rfl rfl h
theorem r_M_count_213 : Wp L d k_M_count 213 [l0, l1, l2, l3] [vR c0] σ Q ↔ Wp L d k_M_count 215 [l0, l1, l2, l3] [vI 7, vR c0] σ Q := wp_push rfl
theorem r_M_count_215 (h : gK c0 = 100) (hx : 0 ≤ s1 ∧ s1 < gN c0) : Wp L d k_M_count 215 [l0, l1, l2, l3] [vI s1, vR c0] σ Q ↔ Wp L d k_M_count 216 [l0, l1, l2, l3] [vI (σ c0 s1.toNat)] σ Q := wp_iald rfl h hx
theorem r_M_count_216 : Wp L d k_M_count 216 [l0, l1, l2, l3] [vI s0] σ Q ↔ Q (some (vI s0)) σ := wp_iret rfl
theorem r_M_count_217 : Wp L d k_M_count 217 [vR b0, l1, l2, l3] [] σ Q ↔ Wp L d k_M_count 218 [vR b0, l1, l2, l3] [vR b0] σ Q := wp_aload rfl rfl
theorem r_M_count_218 (h : gK c0 = 12) : Wp L d k_M_count 218 [l0, l1, l2, l3] [vR c0] σ Q ↔ Wp L d k_M_count 221 [l0, l1, l2, l3] [vR (gq c0 0)] σ Q := wp_getR (c := 3200) rfl rfl rfl rfl rfl h
theorem r_M_count_221 : Wp L d k_M_count 221 [l0, l1, l2, l3] [vR c0] σ Q ↔ Wp L d k_M_count 223 [l0, l1, l2, l3] [vI 11, vR c0] σ Q := wp_push rfl
theorem r_M_count_223 (h : gK c0 = 100) (hx : 0 ≤ s1 ∧ s1 < gN c0) : Wp L d k_M_count 223 [l0, l1, l2, l3] [vI s1, vR c0] σ Q ↔ Wp L d k_M_count 224 [l0, l1, l2, l3] [vI (σ c0 s1.toNat)] σ Q := wp_iald rfl h hx
theorem r_M_count_227 : Wp L d k_M_count 227 [l0, l1, l2, l3] [vI s0] σ Q ↔ Q (some (vI s0)) σ := wp_iret rfl
theorem r_M_count_228 : Wp L d k_M_count 228 [vR b0, l1, l2, l3] [] σ Q ↔ Wp L d k_M_count 229 [vR b0, l1, l2, l3] [vR b0] σ Q := wp_aload rfl rfl
theorem r_M_count_229 (h : gK c0 = 12) : Wp L d k_M_count 229 [l0, l1, l2, l3] [vR c0] σ Q ↔ Wp L d k_M_count 232 [l0, l1, l2, l3] [vR (gq c0 0)] σ Q := wp_getR (c := 3200) rfl rfl rfl rfl rfl h
theorem r_M_count_232 : Wp L d k_M_count 232 [l0, l1, l2, l3] [vR c0] σ Q ↔ Wp L d k_M_count 234 [l0, l1, l2, l3] [vI 12, vR c0] σ Q := wp_push rfl
theorem r_M_count_234 (h : gK c0 = 100) (hx : 0 ≤ s1 ∧ s1 < gN c0) : Wp L d k_M_count 234 [l0, l1, l2, l3] [vI s1, vR c0] σ Q ↔ Wp L d k_M_count 235 [l0, l1, l2, l3] [vI (σ c0 s1.toNat)] σ Q := wp_iald rfl h hx
theorem r_M_count_235 : Wp L d k_M_count 235 [l0, l1, l2, l3] [vI s0] σ Q ↔ Q (some (vI s0)) σ := wp_iret rfl
theorem r_M_count_236 : Wp L d k_M_count 236 [l0, l1, l2, l3] [] σ Q ↔ Wp L d k_M_count 238 [l0, l1, l2, l3] [vI (-1000000001)] σ Q := wp_push rfl
theorem r_M_count_238 : Wp L d k_M_count 238 [l0, l1, l2, l3] [vI s0] σ Q ↔ Q (some (vI s0)) σ := wp_iret rfl
theorem r_M_count_88 (hw : WB (σ 294)) : Wp L (d + 4) k_M_count 88 [l0, l1, l2, l3] [vR 293] σ Q ↔ Wp L (d + 4) k_M_count 91 [l0, l1, l2, l3] [vI (gdown (σ 294) (σ 294 0).toNat)] σ Q := wp_callR (d := d + 3) (as := [vR 293]) (rest := []) rfl rfl rfl rfl rfl rfl rfl (grecv_k (by rw [gK_293]) rfl) (sp_M_down hw)
theorem r_M_count_100 (hw : WB (σ 294)) : Wp L (d + 4) k_M_count 100 [l0, l1, l2, l3] [vR 293] σ Q ↔ Wp L (d + 4) k_M_count 103 [l0, l1, l2, l3] [vI (ggone (σ 294) (σ 294 1).toNat)] σ Q := wp_callR (d := d + 3) (as := [vR 293]) (rest := []) rfl rfl rfl rfl rfl rfl rfl (grecv_k (by rw [gK_293]) rfl) (sp_M_gone hw)
theorem r_M_count_119 (h : 0 ≤ s2 ∧ s2 ≤ 40) : Wp L (d + 4) k_M_count 119 [l0, l1, l2, l3] [vI s2, vR 293, vI s0] σ Q ↔ Wp L (d + 4) k_M_count 122 [l0, l1, l2, l3] [vI (σ 294 (120 + 12 * s2.toNat)), vI s0] σ Q := wp_callR (d := d + 3) (as := [vR 293, vI s2]) (rest := [vI s0]) rfl rfl rfl rfl rfl rfl rfl (grecv_k (by rw [gK_293]) rfl) (sp_M_kindOf0 h)
theorem r_M_count_137 : Wp L (d + 4) k_M_count 137 [l0, l1, l2, l3] [vI s3, vR 293, vR c1, vI s0] σ Q ↔ Wp L (d + 4) k_M_count 140 [l0, l1, l2, l3] [vI (w32 (120 + w32 (12 * s3))), vR c1, vI s0] σ Q := wp_callR (d := d + 3) (as := [vR 293, vI s3]) (rest := [vR c1, vI s0]) rfl rfl rfl rfl rfl rfl rfl (grecv_k (by rw [gK_293]) rfl) (sp_M_partAt)
theorem r_M_count_224 : Wp L (d + 4) k_M_count 224 [l0, l1, l2, l3] [vI s0] σ Q ↔ Wp L (d + 4) k_M_count 227 [l0, l1, l2, l3] [vI (if s0 < 0 then -1000000005 else s0)] σ Q := wp_callR (d := d + 3) (as := [vI s0]) (rest := []) rfl rfl rfl rfl rfl rfl rfl rfl (sp_M_orNone)
theorem sp_M_count_0 : Run L (d + 4) 318 [vR 293, vI 0] σ (some (vI (σ 294 0))) σ := by
  refine Run_of (C' := k_M_count) rfl ?_
  show Wp L (d + 4) k_M_count 0 [vR 293, vI 0, vU, vU] [] σ _
  obtain ⟨K293, Q293, K294, N294⟩ := litM
  simp (disch := first | assumption | exact gb_01 _ | omega) only [r_M_count_0, r_M_count_1, r_M_count_2, r_M_count_3, r_M_count_80, r_M_count_81, r_M_count_84, r_M_count_85, r_M_count_86, r_M_count_87, r_M_count_88, r_M_count_91, r_M_count_92, r_M_count_93, r_M_count_96, r_M_count_97, r_M_count_98, r_M_count_99, r_M_count_100, r_M_count_103, r_M_count_104, r_M_count_105, r_M_count_107, r_M_count_108, r_M_count_111, r_M_count_112, r_M_count_113, r_M_count_116, r_M_count_117, r_M_count_118, r_M_count_119, r_M_count_122, r_M_count_123, r_M_count_126, r_M_count_127, r_M_count_128, r_M_count_131, r_M_count_132, r_M_count_135, r_M_count_136, r_M_count_137, r_M_count_140, r_M_count_142, r_M_count_143, r_M_count_144, r_M_count_145, r_M_count_148, r_M_count_149, r_M_count_152, r_M_count_153, r_M_count_154, r_M_count_155, r_M_count_158, r_M_count_161, r_M_count_162, r_M_count_163, r_M_count_164, r_M_count_167, r_M_count_168, r_M_count_169, r_M_count_170, r_M_count_171, r_M_count_174, r_M_count_175, r_M_count_176, r_M_count_177, r_M_count_178, r_M_count_181, r_M_count_182, r_M_count_183, r_M_count_184, r_M_count_185, r_M_count_188, r_M_count_189, r_M_count_190, r_M_count_191, r_M_count_192, r_M_count_195, r_M_count_197, r_M_count_198, r_M_count_199, r_M_count_200, r_M_count_203, r_M_count_204, r_M_count_205, r_M_count_208, r_M_count_209, r_M_count_210, r_M_count_213, r_M_count_215, r_M_count_216, r_M_count_217, r_M_count_218, r_M_count_221, r_M_count_223, r_M_count_224, r_M_count_227, r_M_count_228, r_M_count_229, r_M_count_232, r_M_count_234, r_M_count_235, r_M_count_236, r_M_count_238, Q293, w32_gb, w32i, tn_add, tn_mul, Int.toNat_natCast, Int.toNat_zero, Int.reduceLE, Int.reduceLT, Int.reduceEq, Int.reduceNe, gb_T, gb_F, Int.reduceToNat, eq_self, true_or, or_true, and_true, true_and, and_self, ↓ite_gb0, ↓ite_gbn, ↓if_pos, ↓if_neg, if_true, if_false, not_true_eq_false, not_false_eq_true, gb_ne0, gb_eq0]
theorem sp_M_count_1 (hw : WB (σ 294)) : Run L (d + 4) 318 [vR 293, vI 1] σ (some (vI (gdown (σ 294) (σ 294 0).toNat))) σ := by
  refine Run_of (C' := k_M_count) rfl ?_
  show Wp L (d + 4) k_M_count 0 [vR 293, vI 1, vU, vU] [] σ _
  obtain ⟨K293, Q293, K294, N294⟩ := litM
  simp (disch := first | assumption | exact gb_01 _ | omega) only [r_M_count_0, r_M_count_1, r_M_count_2, r_M_count_3, r_M_count_80, r_M_count_81, r_M_count_84, r_M_count_85, r_M_count_86, r_M_count_87, r_M_count_88, r_M_count_91, r_M_count_92, r_M_count_93, r_M_count_96, r_M_count_97, r_M_count_98, r_M_count_99, r_M_count_100, r_M_count_103, r_M_count_104, r_M_count_105, r_M_count_107, r_M_count_108, r_M_count_111, r_M_count_112, r_M_count_113, r_M_count_116, r_M_count_117, r_M_count_118, r_M_count_119, r_M_count_122, r_M_count_123, r_M_count_126, r_M_count_127, r_M_count_128, r_M_count_131, r_M_count_132, r_M_count_135, r_M_count_136, r_M_count_137, r_M_count_140, r_M_count_142, r_M_count_143, r_M_count_144, r_M_count_145, r_M_count_148, r_M_count_149, r_M_count_152, r_M_count_153, r_M_count_154, r_M_count_155, r_M_count_158, r_M_count_161, r_M_count_162, r_M_count_163, r_M_count_164, r_M_count_167, r_M_count_168, r_M_count_169, r_M_count_170, r_M_count_171, r_M_count_174, r_M_count_175, r_M_count_176, r_M_count_177, r_M_count_178, r_M_count_181, r_M_count_182, r_M_count_183, r_M_count_184, r_M_count_185, r_M_count_188, r_M_count_189, r_M_count_190, r_M_count_191, r_M_count_192, r_M_count_195, r_M_count_197, r_M_count_198, r_M_count_199, r_M_count_200, r_M_count_203, r_M_count_204, r_M_count_205, r_M_count_208, r_M_count_209, r_M_count_210, r_M_count_213, r_M_count_215, r_M_count_216, r_M_count_217, r_M_count_218, r_M_count_221, r_M_count_223, r_M_count_224, r_M_count_227, r_M_count_228, r_M_count_229, r_M_count_232, r_M_count_234, r_M_count_235, r_M_count_236, r_M_count_238, Q293, w32_gb, w32i, tn_add, tn_mul, Int.toNat_natCast, Int.toNat_zero, Int.reduceLE, Int.reduceLT, Int.reduceEq, Int.reduceNe, gb_T, gb_F, Int.reduceToNat, eq_self, true_or, or_true, and_true, true_and, and_self, ↓ite_gb0, ↓ite_gbn, ↓if_pos, ↓if_neg, if_true, if_false, not_true_eq_false, not_false_eq_true, gb_ne0, gb_eq0]
theorem sp_M_count_2 : Run L (d + 4) 318 [vR 293, vI 2] σ (some (vI (σ 294 1))) σ := by
  refine Run_of (C' := k_M_count) rfl ?_
  show Wp L (d + 4) k_M_count 0 [vR 293, vI 2, vU, vU] [] σ _
  obtain ⟨K293, Q293, K294, N294⟩ := litM
  simp (disch := first | assumption | exact gb_01 _ | omega) only [r_M_count_0, r_M_count_1, r_M_count_2, r_M_count_3, r_M_count_80, r_M_count_81, r_M_count_84, r_M_count_85, r_M_count_86, r_M_count_87, r_M_count_88, r_M_count_91, r_M_count_92, r_M_count_93, r_M_count_96, r_M_count_97, r_M_count_98, r_M_count_99, r_M_count_100, r_M_count_103, r_M_count_104, r_M_count_105, r_M_count_107, r_M_count_108, r_M_count_111, r_M_count_112, r_M_count_113, r_M_count_116, r_M_count_117, r_M_count_118, r_M_count_119, r_M_count_122, r_M_count_123, r_M_count_126, r_M_count_127, r_M_count_128, r_M_count_131, r_M_count_132, r_M_count_135, r_M_count_136, r_M_count_137, r_M_count_140, r_M_count_142, r_M_count_143, r_M_count_144, r_M_count_145, r_M_count_148, r_M_count_149, r_M_count_152, r_M_count_153, r_M_count_154, r_M_count_155, r_M_count_158, r_M_count_161, r_M_count_162, r_M_count_163, r_M_count_164, r_M_count_167, r_M_count_168, r_M_count_169, r_M_count_170, r_M_count_171, r_M_count_174, r_M_count_175, r_M_count_176, r_M_count_177, r_M_count_178, r_M_count_181, r_M_count_182, r_M_count_183, r_M_count_184, r_M_count_185, r_M_count_188, r_M_count_189, r_M_count_190, r_M_count_191, r_M_count_192, r_M_count_195, r_M_count_197, r_M_count_198, r_M_count_199, r_M_count_200, r_M_count_203, r_M_count_204, r_M_count_205, r_M_count_208, r_M_count_209, r_M_count_210, r_M_count_213, r_M_count_215, r_M_count_216, r_M_count_217, r_M_count_218, r_M_count_221, r_M_count_223, r_M_count_224, r_M_count_227, r_M_count_228, r_M_count_229, r_M_count_232, r_M_count_234, r_M_count_235, r_M_count_236, r_M_count_238, Q293, w32_gb, w32i, tn_add, tn_mul, Int.toNat_natCast, Int.toNat_zero, Int.reduceLE, Int.reduceLT, Int.reduceEq, Int.reduceNe, gb_T, gb_F, Int.reduceToNat, eq_self, true_or, or_true, and_true, true_and, and_self, ↓ite_gb0, ↓ite_gbn, ↓if_pos, ↓if_neg, if_true, if_false, not_true_eq_false, not_false_eq_true, gb_ne0, gb_eq0]
theorem sp_M_count_3 (hw : WB (σ 294)) : Run L (d + 4) 318 [vR 293, vI 3] σ (some (vI (ggone (σ 294) (σ 294 1).toNat))) σ := by
  refine Run_of (C' := k_M_count) rfl ?_
  show Wp L (d + 4) k_M_count 0 [vR 293, vI 3, vU, vU] [] σ _
  obtain ⟨K293, Q293, K294, N294⟩ := litM
  simp (disch := first | assumption | exact gb_01 _ | omega) only [r_M_count_0, r_M_count_1, r_M_count_2, r_M_count_3, r_M_count_80, r_M_count_81, r_M_count_84, r_M_count_85, r_M_count_86, r_M_count_87, r_M_count_88, r_M_count_91, r_M_count_92, r_M_count_93, r_M_count_96, r_M_count_97, r_M_count_98, r_M_count_99, r_M_count_100, r_M_count_103, r_M_count_104, r_M_count_105, r_M_count_107, r_M_count_108, r_M_count_111, r_M_count_112, r_M_count_113, r_M_count_116, r_M_count_117, r_M_count_118, r_M_count_119, r_M_count_122, r_M_count_123, r_M_count_126, r_M_count_127, r_M_count_128, r_M_count_131, r_M_count_132, r_M_count_135, r_M_count_136, r_M_count_137, r_M_count_140, r_M_count_142, r_M_count_143, r_M_count_144, r_M_count_145, r_M_count_148, r_M_count_149, r_M_count_152, r_M_count_153, r_M_count_154, r_M_count_155, r_M_count_158, r_M_count_161, r_M_count_162, r_M_count_163, r_M_count_164, r_M_count_167, r_M_count_168, r_M_count_169, r_M_count_170, r_M_count_171, r_M_count_174, r_M_count_175, r_M_count_176, r_M_count_177, r_M_count_178, r_M_count_181, r_M_count_182, r_M_count_183, r_M_count_184, r_M_count_185, r_M_count_188, r_M_count_189, r_M_count_190, r_M_count_191, r_M_count_192, r_M_count_195, r_M_count_197, r_M_count_198, r_M_count_199, r_M_count_200, r_M_count_203, r_M_count_204, r_M_count_205, r_M_count_208, r_M_count_209, r_M_count_210, r_M_count_213, r_M_count_215, r_M_count_216, r_M_count_217, r_M_count_218, r_M_count_221, r_M_count_223, r_M_count_224, r_M_count_227, r_M_count_228, r_M_count_229, r_M_count_232, r_M_count_234, r_M_count_235, r_M_count_236, r_M_count_238, Q293, w32_gb, w32i, tn_add, tn_mul, Int.toNat_natCast, Int.toNat_zero, Int.reduceLE, Int.reduceLT, Int.reduceEq, Int.reduceNe, gb_T, gb_F, Int.reduceToNat, eq_self, true_or, or_true, and_true, true_and, and_self, ↓ite_gb0, ↓ite_gbn, ↓if_pos, ↓if_neg, if_true, if_false, not_true_eq_false, not_false_eq_true, gb_ne0, gb_eq0]
theorem sp_M_count_4 (hw : WB (σ 294)) : Run L (d + 4) 318 [vR 293, vI 4] σ (some (vI (gpcs (σ 294) (σ 294 1).toNat))) σ := by
  refine Run_of (C' := k_M_count) rfl ?_
  show Wp L (d + 4) k_M_count 0 [vR 293, vI 4, vU, vU] [] σ _
  obtain ⟨K293, Q293, K294, N294⟩ := litM
  have w1 := hw.1
  have w2 := hw.2.1
  simp (disch := first | assumption | exact gb_01 _ | omega) only [r_M_count_0, r_M_count_1, r_M_count_2, r_M_count_3, r_M_count_80, r_M_count_81, r_M_count_84, r_M_count_85, r_M_count_86, r_M_count_87, r_M_count_88, r_M_count_91, r_M_count_92, r_M_count_93, r_M_count_96, r_M_count_97, r_M_count_98, r_M_count_99, r_M_count_100, r_M_count_103, r_M_count_104, r_M_count_105, r_M_count_107, r_M_count_108, r_M_count_111, r_M_count_112, r_M_count_113, r_M_count_116, r_M_count_117, r_M_count_118, r_M_count_119, r_M_count_122, r_M_count_123, r_M_count_126, r_M_count_127, r_M_count_128, r_M_count_131, r_M_count_132, r_M_count_135, r_M_count_136, r_M_count_137, r_M_count_140, r_M_count_142, r_M_count_143, r_M_count_144, r_M_count_145, r_M_count_148, r_M_count_149, r_M_count_152, r_M_count_153, r_M_count_154, r_M_count_155, r_M_count_158, r_M_count_161, r_M_count_162, r_M_count_163, r_M_count_164, r_M_count_167, r_M_count_168, r_M_count_169, r_M_count_170, r_M_count_171, r_M_count_174, r_M_count_175, r_M_count_176, r_M_count_177, r_M_count_178, r_M_count_181, r_M_count_182, r_M_count_183, r_M_count_184, r_M_count_185, r_M_count_188, r_M_count_189, r_M_count_190, r_M_count_191, r_M_count_192, r_M_count_195, r_M_count_197, r_M_count_198, r_M_count_199, r_M_count_200, r_M_count_203, r_M_count_204, r_M_count_205, r_M_count_208, r_M_count_209, r_M_count_210, r_M_count_213, r_M_count_215, r_M_count_216, r_M_count_217, r_M_count_218, r_M_count_221, r_M_count_223, r_M_count_224, r_M_count_227, r_M_count_228, r_M_count_229, r_M_count_232, r_M_count_234, r_M_count_235, r_M_count_236, r_M_count_238, Q293, w32_gb, w32i, tn_add, tn_mul, Int.toNat_natCast, Int.toNat_zero, Int.reduceLE, Int.reduceLT, Int.reduceEq, Int.reduceNe, gb_T, gb_F, Int.reduceToNat, eq_self, true_or, or_true, and_true, true_and, and_self, ↓ite_gb0, ↓ite_gbn, ↓if_pos, ↓if_neg, if_true, if_false, not_true_eq_false, not_false_eq_true, gb_ne0, gb_eq0]
  refine wloopF (σ 294 1).toNat (fun k => [vR 293, vI 4, vI (gpcs (σ 294) k), vI (k : Int)]) (fun _ => σ) (fun k hk hq => ?_) ?_
  · have w := WBp hw (p := k) (by omega)
    have bd : 0 ≤ gpcs (σ 294) k ∧ gpcs (σ 294) k ≤ k := gsm_gb k
    by_cases e1 : σ 294 (120 + 12 * k) = 4 <;> by_cases e2 : σ 294 (120 + 12 * k + 11) = 1 <;> first
      | (exfalso; omega)
      | (
        rw [r_M_count_106]
        simp (disch := first | assumption | exact gb_01 _ | omega) only [r_M_count_0, r_M_count_1, r_M_count_2, r_M_count_3, r_M_count_80, r_M_count_81, r_M_count_84, r_M_count_85, r_M_count_86, r_M_count_87, r_M_count_88, r_M_count_91, r_M_count_92, r_M_count_93, r_M_count_96, r_M_count_97, r_M_count_98, r_M_count_99, r_M_count_100, r_M_count_103, r_M_count_104, r_M_count_105, r_M_count_107, r_M_count_108, r_M_count_111, r_M_count_112, r_M_count_113, r_M_count_116, r_M_count_117, r_M_count_118, r_M_count_119, r_M_count_122, r_M_count_123, r_M_count_126, r_M_count_127, r_M_count_128, r_M_count_131, r_M_count_132, r_M_count_135, r_M_count_136, r_M_count_137, r_M_count_140, r_M_count_142, r_M_count_143, r_M_count_144, r_M_count_145, r_M_count_148, r_M_count_149, r_M_count_152, r_M_count_153, r_M_count_154, r_M_count_155, r_M_count_158, r_M_count_161, r_M_count_162, r_M_count_163, r_M_count_164, r_M_count_167, r_M_count_168, r_M_count_169, r_M_count_170, r_M_count_171, r_M_count_174, r_M_count_175, r_M_count_176, r_M_count_177, r_M_count_178, r_M_count_181, r_M_count_182, r_M_count_183, r_M_count_184, r_M_count_185, r_M_count_188, r_M_count_189, r_M_count_190, r_M_count_191, r_M_count_192, r_M_count_195, r_M_count_197, r_M_count_198, r_M_count_199, r_M_count_200, r_M_count_203, r_M_count_204, r_M_count_205, r_M_count_208, r_M_count_209, r_M_count_210, r_M_count_213, r_M_count_215, r_M_count_216, r_M_count_217, r_M_count_218, r_M_count_221, r_M_count_223, r_M_count_224, r_M_count_227, r_M_count_228, r_M_count_229, r_M_count_232, r_M_count_234, r_M_count_235, r_M_count_236, r_M_count_238, Q293, w32_gb, w32i, tn_add, tn_mul, Int.toNat_natCast, Int.toNat_zero, Int.reduceLE, Int.reduceLT, Int.reduceEq, Int.reduceNe, gb_T, gb_F, Int.reduceToNat, eq_self, true_or, or_true, and_true, true_and, and_self, ↓ite_gb0, ↓ite_gbn, ↓if_pos, ↓if_neg, if_true, if_false, not_true_eq_false, not_false_eq_true, gb_ne0, gb_eq0]
        refine hq _ _ ?_ rfl
        simp only [List.cons.injEq, vI_inj, vR_inj, and_true, true_and]
        refine ⟨?_, by omega⟩
        simp only [gpcs, gsm]
        first | (rw [gb_t (by omega)] <;> omega) | (rw [gb_f (by omega)] <;> omega))
  · rw [r_M_count_106]
    simp (disch := first | assumption | exact gb_01 _ | omega) only [r_M_count_0, r_M_count_1, r_M_count_2, r_M_count_3, r_M_count_80, r_M_count_81, r_M_count_84, r_M_count_85, r_M_count_86, r_M_count_87, r_M_count_88, r_M_count_91, r_M_count_92, r_M_count_93, r_M_count_96, r_M_count_97, r_M_count_98, r_M_count_99, r_M_count_100, r_M_count_103, r_M_count_104, r_M_count_105, r_M_count_107, r_M_count_108, r_M_count_111, r_M_count_112, r_M_count_113, r_M_count_116, r_M_count_117, r_M_count_118, r_M_count_119, r_M_count_122, r_M_count_123, r_M_count_126, r_M_count_127, r_M_count_128, r_M_count_131, r_M_count_132, r_M_count_135, r_M_count_136, r_M_count_137, r_M_count_140, r_M_count_142, r_M_count_143, r_M_count_144, r_M_count_145, r_M_count_148, r_M_count_149, r_M_count_152, r_M_count_153, r_M_count_154, r_M_count_155, r_M_count_158, r_M_count_161, r_M_count_162, r_M_count_163, r_M_count_164, r_M_count_167, r_M_count_168, r_M_count_169, r_M_count_170, r_M_count_171, r_M_count_174, r_M_count_175, r_M_count_176, r_M_count_177, r_M_count_178, r_M_count_181, r_M_count_182, r_M_count_183, r_M_count_184, r_M_count_185, r_M_count_188, r_M_count_189, r_M_count_190, r_M_count_191, r_M_count_192, r_M_count_195, r_M_count_197, r_M_count_198, r_M_count_199, r_M_count_200, r_M_count_203, r_M_count_204, r_M_count_205, r_M_count_208, r_M_count_209, r_M_count_210, r_M_count_213, r_M_count_215, r_M_count_216, r_M_count_217, r_M_count_218, r_M_count_221, r_M_count_223, r_M_count_224, r_M_count_227, r_M_count_228, r_M_count_229, r_M_count_232, r_M_count_234, r_M_count_235, r_M_count_236, r_M_count_238, Q293, w32_gb, w32i, tn_add, tn_mul, Int.toNat_natCast, Int.toNat_zero, Int.reduceLE, Int.reduceLT, Int.reduceEq, Int.reduceNe, gb_T, gb_F, Int.reduceToNat, eq_self, true_or, or_true, and_true, true_and, and_self, ↓ite_gb0, ↓ite_gbn, ↓if_pos, ↓if_neg, if_true, if_false, not_true_eq_false, not_false_eq_true, gb_ne0, gb_eq0]
theorem sp_M_count_5 (hw : WB (σ 294)) : Run L (d + 4) 318 [vR 293, vI 5] σ (some (vI (gfnds (σ 294) (σ 294 1).toNat))) σ := by
  refine Run_of (C' := k_M_count) rfl ?_
  show Wp L (d + 4) k_M_count 0 [vR 293, vI 5, vU, vU] [] σ _
  obtain ⟨K293, Q293, K294, N294⟩ := litM
  have w1 := hw.1
  have w2 := hw.2.1
  simp (disch := first | assumption | exact gb_01 _ | omega) only [r_M_count_0, r_M_count_1, r_M_count_2, r_M_count_3, r_M_count_80, r_M_count_81, r_M_count_84, r_M_count_85, r_M_count_86, r_M_count_87, r_M_count_88, r_M_count_91, r_M_count_92, r_M_count_93, r_M_count_96, r_M_count_97, r_M_count_98, r_M_count_99, r_M_count_100, r_M_count_103, r_M_count_104, r_M_count_105, r_M_count_107, r_M_count_108, r_M_count_111, r_M_count_112, r_M_count_113, r_M_count_116, r_M_count_117, r_M_count_118, r_M_count_119, r_M_count_122, r_M_count_123, r_M_count_126, r_M_count_127, r_M_count_128, r_M_count_131, r_M_count_132, r_M_count_135, r_M_count_136, r_M_count_137, r_M_count_140, r_M_count_142, r_M_count_143, r_M_count_144, r_M_count_145, r_M_count_148, r_M_count_149, r_M_count_152, r_M_count_153, r_M_count_154, r_M_count_155, r_M_count_158, r_M_count_161, r_M_count_162, r_M_count_163, r_M_count_164, r_M_count_167, r_M_count_168, r_M_count_169, r_M_count_170, r_M_count_171, r_M_count_174, r_M_count_175, r_M_count_176, r_M_count_177, r_M_count_178, r_M_count_181, r_M_count_182, r_M_count_183, r_M_count_184, r_M_count_185, r_M_count_188, r_M_count_189, r_M_count_190, r_M_count_191, r_M_count_192, r_M_count_195, r_M_count_197, r_M_count_198, r_M_count_199, r_M_count_200, r_M_count_203, r_M_count_204, r_M_count_205, r_M_count_208, r_M_count_209, r_M_count_210, r_M_count_213, r_M_count_215, r_M_count_216, r_M_count_217, r_M_count_218, r_M_count_221, r_M_count_223, r_M_count_224, r_M_count_227, r_M_count_228, r_M_count_229, r_M_count_232, r_M_count_234, r_M_count_235, r_M_count_236, r_M_count_238, Q293, w32_gb, w32i, tn_add, tn_mul, Int.toNat_natCast, Int.toNat_zero, Int.reduceLE, Int.reduceLT, Int.reduceEq, Int.reduceNe, gb_T, gb_F, Int.reduceToNat, eq_self, true_or, or_true, and_true, true_and, and_self, ↓ite_gb0, ↓ite_gbn, ↓if_pos, ↓if_neg, if_true, if_false, not_true_eq_false, not_false_eq_true, gb_ne0, gb_eq0]
  refine wloopF (σ 294 1).toNat (fun k => [vR 293, vI 5, vI (gfnds (σ 294) k), vI (k : Int)]) (fun _ => σ) (fun k hk hq => ?_) ?_
  · have w := WBp hw (p := k) (by omega)
    have bd : 0 ≤ gfnds (σ 294) k ∧ gfnds (σ 294) k ≤ k := gsm_gb k
    by_cases e1 : σ 294 (120 + 12 * k) = 4 <;> by_cases e2 : σ 294 (120 + 12 * k + 11) = 1 <;> first
      | (exfalso; omega)
      | (
        rw [r_M_count_106]
        simp (disch := first | assumption | exact gb_01 _ | omega) only [r_M_count_0, r_M_count_1, r_M_count_2, r_M_count_3, r_M_count_80, r_M_count_81, r_M_count_84, r_M_count_85, r_M_count_86, r_M_count_87, r_M_count_88, r_M_count_91, r_M_count_92, r_M_count_93, r_M_count_96, r_M_count_97, r_M_count_98, r_M_count_99, r_M_count_100, r_M_count_103, r_M_count_104, r_M_count_105, r_M_count_107, r_M_count_108, r_M_count_111, r_M_count_112, r_M_count_113, r_M_count_116, r_M_count_117, r_M_count_118, r_M_count_119, r_M_count_122, r_M_count_123, r_M_count_126, r_M_count_127, r_M_count_128, r_M_count_131, r_M_count_132, r_M_count_135, r_M_count_136, r_M_count_137, r_M_count_140, r_M_count_142, r_M_count_143, r_M_count_144, r_M_count_145, r_M_count_148, r_M_count_149, r_M_count_152, r_M_count_153, r_M_count_154, r_M_count_155, r_M_count_158, r_M_count_161, r_M_count_162, r_M_count_163, r_M_count_164, r_M_count_167, r_M_count_168, r_M_count_169, r_M_count_170, r_M_count_171, r_M_count_174, r_M_count_175, r_M_count_176, r_M_count_177, r_M_count_178, r_M_count_181, r_M_count_182, r_M_count_183, r_M_count_184, r_M_count_185, r_M_count_188, r_M_count_189, r_M_count_190, r_M_count_191, r_M_count_192, r_M_count_195, r_M_count_197, r_M_count_198, r_M_count_199, r_M_count_200, r_M_count_203, r_M_count_204, r_M_count_205, r_M_count_208, r_M_count_209, r_M_count_210, r_M_count_213, r_M_count_215, r_M_count_216, r_M_count_217, r_M_count_218, r_M_count_221, r_M_count_223, r_M_count_224, r_M_count_227, r_M_count_228, r_M_count_229, r_M_count_232, r_M_count_234, r_M_count_235, r_M_count_236, r_M_count_238, Q293, w32_gb, w32i, tn_add, tn_mul, Int.toNat_natCast, Int.toNat_zero, Int.reduceLE, Int.reduceLT, Int.reduceEq, Int.reduceNe, gb_T, gb_F, Int.reduceToNat, eq_self, true_or, or_true, and_true, true_and, and_self, ↓ite_gb0, ↓ite_gbn, ↓if_pos, ↓if_neg, if_true, if_false, not_true_eq_false, not_false_eq_true, gb_ne0, gb_eq0]
        refine hq _ _ ?_ rfl
        simp only [List.cons.injEq, vI_inj, vR_inj, and_true, true_and]
        refine ⟨?_, by omega⟩
        simp only [gfnds, gsm]
        first | (rw [gb_t (by omega)] <;> omega) | (rw [gb_f (by omega)] <;> omega))
  · rw [r_M_count_106]
    simp (disch := first | assumption | exact gb_01 _ | omega) only [r_M_count_0, r_M_count_1, r_M_count_2, r_M_count_3, r_M_count_80, r_M_count_81, r_M_count_84, r_M_count_85, r_M_count_86, r_M_count_87, r_M_count_88, r_M_count_91, r_M_count_92, r_M_count_93, r_M_count_96, r_M_count_97, r_M_count_98, r_M_count_99, r_M_count_100, r_M_count_103, r_M_count_104, r_M_count_105, r_M_count_107, r_M_count_108, r_M_count_111, r_M_count_112, r_M_count_113, r_M_count_116, r_M_count_117, r_M_count_118, r_M_count_119, r_M_count_122, r_M_count_123, r_M_count_126, r_M_count_127, r_M_count_128, r_M_count_131, r_M_count_132, r_M_count_135, r_M_count_136, r_M_count_137, r_M_count_140, r_M_count_142, r_M_count_143, r_M_count_144, r_M_count_145, r_M_count_148, r_M_count_149, r_M_count_152, r_M_count_153, r_M_count_154, r_M_count_155, r_M_count_158, r_M_count_161, r_M_count_162, r_M_count_163, r_M_count_164, r_M_count_167, r_M_count_168, r_M_count_169, r_M_count_170, r_M_count_171, r_M_count_174, r_M_count_175, r_M_count_176, r_M_count_177, r_M_count_178, r_M_count_181, r_M_count_182, r_M_count_183, r_M_count_184, r_M_count_185, r_M_count_188, r_M_count_189, r_M_count_190, r_M_count_191, r_M_count_192, r_M_count_195, r_M_count_197, r_M_count_198, r_M_count_199, r_M_count_200, r_M_count_203, r_M_count_204, r_M_count_205, r_M_count_208, r_M_count_209, r_M_count_210, r_M_count_213, r_M_count_215, r_M_count_216, r_M_count_217, r_M_count_218, r_M_count_221, r_M_count_223, r_M_count_224, r_M_count_227, r_M_count_228, r_M_count_229, r_M_count_232, r_M_count_234, r_M_count_235, r_M_count_236, r_M_count_238, Q293, w32_gb, w32i, tn_add, tn_mul, Int.toNat_natCast, Int.toNat_zero, Int.reduceLE, Int.reduceLT, Int.reduceEq, Int.reduceNe, gb_T, gb_F, Int.reduceToNat, eq_self, true_or, or_true, and_true, true_and, and_self, ↓ite_gb0, ↓ite_gbn, ↓if_pos, ↓if_neg, if_true, if_false, not_true_eq_false, not_false_eq_true, gb_ne0, gb_eq0]
theorem sp_M_count_6 : Run L (d + 4) 318 [vR 293, vI 6] σ (some (vI (σ 294 2))) σ := by
  refine Run_of (C' := k_M_count) rfl ?_
  show Wp L (d + 4) k_M_count 0 [vR 293, vI 6, vU, vU] [] σ _
  obtain ⟨K293, Q293, K294, N294⟩ := litM
  simp (disch := first | assumption | exact gb_01 _ | omega) only [r_M_count_0, r_M_count_1, r_M_count_2, r_M_count_3, r_M_count_80, r_M_count_81, r_M_count_84, r_M_count_85, r_M_count_86, r_M_count_87, r_M_count_88, r_M_count_91, r_M_count_92, r_M_count_93, r_M_count_96, r_M_count_97, r_M_count_98, r_M_count_99, r_M_count_100, r_M_count_103, r_M_count_104, r_M_count_105, r_M_count_107, r_M_count_108, r_M_count_111, r_M_count_112, r_M_count_113, r_M_count_116, r_M_count_117, r_M_count_118, r_M_count_119, r_M_count_122, r_M_count_123, r_M_count_126, r_M_count_127, r_M_count_128, r_M_count_131, r_M_count_132, r_M_count_135, r_M_count_136, r_M_count_137, r_M_count_140, r_M_count_142, r_M_count_143, r_M_count_144, r_M_count_145, r_M_count_148, r_M_count_149, r_M_count_152, r_M_count_153, r_M_count_154, r_M_count_155, r_M_count_158, r_M_count_161, r_M_count_162, r_M_count_163, r_M_count_164, r_M_count_167, r_M_count_168, r_M_count_169, r_M_count_170, r_M_count_171, r_M_count_174, r_M_count_175, r_M_count_176, r_M_count_177, r_M_count_178, r_M_count_181, r_M_count_182, r_M_count_183, r_M_count_184, r_M_count_185, r_M_count_188, r_M_count_189, r_M_count_190, r_M_count_191, r_M_count_192, r_M_count_195, r_M_count_197, r_M_count_198, r_M_count_199, r_M_count_200, r_M_count_203, r_M_count_204, r_M_count_205, r_M_count_208, r_M_count_209, r_M_count_210, r_M_count_213, r_M_count_215, r_M_count_216, r_M_count_217, r_M_count_218, r_M_count_221, r_M_count_223, r_M_count_224, r_M_count_227, r_M_count_228, r_M_count_229, r_M_count_232, r_M_count_234, r_M_count_235, r_M_count_236, r_M_count_238, Q293, w32_gb, w32i, tn_add, tn_mul, Int.toNat_natCast, Int.toNat_zero, Int.reduceLE, Int.reduceLT, Int.reduceEq, Int.reduceNe, gb_T, gb_F, Int.reduceToNat, eq_self, true_or, or_true, and_true, true_and, and_self, ↓ite_gb0, ↓ite_gbn, ↓if_pos, ↓if_neg, if_true, if_false, not_true_eq_false, not_false_eq_true, gb_ne0, gb_eq0]
theorem sp_M_count_7 : Run L (d + 4) 318 [vR 293, vI 7] σ (some (vI (σ 294 3))) σ := by
  refine Run_of (C' := k_M_count) rfl ?_
  show Wp L (d + 4) k_M_count 0 [vR 293, vI 7, vU, vU] [] σ _
  obtain ⟨K293, Q293, K294, N294⟩ := litM
  simp (disch := first | assumption | exact gb_01 _ | omega) only [r_M_count_0, r_M_count_1, r_M_count_2, r_M_count_3, r_M_count_80, r_M_count_81, r_M_count_84, r_M_count_85, r_M_count_86, r_M_count_87, r_M_count_88, r_M_count_91, r_M_count_92, r_M_count_93, r_M_count_96, r_M_count_97, r_M_count_98, r_M_count_99, r_M_count_100, r_M_count_103, r_M_count_104, r_M_count_105, r_M_count_107, r_M_count_108, r_M_count_111, r_M_count_112, r_M_count_113, r_M_count_116, r_M_count_117, r_M_count_118, r_M_count_119, r_M_count_122, r_M_count_123, r_M_count_126, r_M_count_127, r_M_count_128, r_M_count_131, r_M_count_132, r_M_count_135, r_M_count_136, r_M_count_137, r_M_count_140, r_M_count_142, r_M_count_143, r_M_count_144, r_M_count_145, r_M_count_148, r_M_count_149, r_M_count_152, r_M_count_153, r_M_count_154, r_M_count_155, r_M_count_158, r_M_count_161, r_M_count_162, r_M_count_163, r_M_count_164, r_M_count_167, r_M_count_168, r_M_count_169, r_M_count_170, r_M_count_171, r_M_count_174, r_M_count_175, r_M_count_176, r_M_count_177, r_M_count_178, r_M_count_181, r_M_count_182, r_M_count_183, r_M_count_184, r_M_count_185, r_M_count_188, r_M_count_189, r_M_count_190, r_M_count_191, r_M_count_192, r_M_count_195, r_M_count_197, r_M_count_198, r_M_count_199, r_M_count_200, r_M_count_203, r_M_count_204, r_M_count_205, r_M_count_208, r_M_count_209, r_M_count_210, r_M_count_213, r_M_count_215, r_M_count_216, r_M_count_217, r_M_count_218, r_M_count_221, r_M_count_223, r_M_count_224, r_M_count_227, r_M_count_228, r_M_count_229, r_M_count_232, r_M_count_234, r_M_count_235, r_M_count_236, r_M_count_238, Q293, w32_gb, w32i, tn_add, tn_mul, Int.toNat_natCast, Int.toNat_zero, Int.reduceLE, Int.reduceLT, Int.reduceEq, Int.reduceNe, gb_T, gb_F, Int.reduceToNat, eq_self, true_or, or_true, and_true, true_and, and_self, ↓ite_gb0, ↓ite_gbn, ↓if_pos, ↓if_neg, if_true, if_false, not_true_eq_false, not_false_eq_true, gb_ne0, gb_eq0]
theorem sp_M_count_8 : Run L (d + 4) 318 [vR 293, vI 8] σ (some (vI (σ 294 4))) σ := by
  refine Run_of (C' := k_M_count) rfl ?_
  show Wp L (d + 4) k_M_count 0 [vR 293, vI 8, vU, vU] [] σ _
  obtain ⟨K293, Q293, K294, N294⟩ := litM
  simp (disch := first | assumption | exact gb_01 _ | omega) only [r_M_count_0, r_M_count_1, r_M_count_2, r_M_count_3, r_M_count_80, r_M_count_81, r_M_count_84, r_M_count_85, r_M_count_86, r_M_count_87, r_M_count_88, r_M_count_91, r_M_count_92, r_M_count_93, r_M_count_96, r_M_count_97, r_M_count_98, r_M_count_99, r_M_count_100, r_M_count_103, r_M_count_104, r_M_count_105, r_M_count_107, r_M_count_108, r_M_count_111, r_M_count_112, r_M_count_113, r_M_count_116, r_M_count_117, r_M_count_118, r_M_count_119, r_M_count_122, r_M_count_123, r_M_count_126, r_M_count_127, r_M_count_128, r_M_count_131, r_M_count_132, r_M_count_135, r_M_count_136, r_M_count_137, r_M_count_140, r_M_count_142, r_M_count_143, r_M_count_144, r_M_count_145, r_M_count_148, r_M_count_149, r_M_count_152, r_M_count_153, r_M_count_154, r_M_count_155, r_M_count_158, r_M_count_161, r_M_count_162, r_M_count_163, r_M_count_164, r_M_count_167, r_M_count_168, r_M_count_169, r_M_count_170, r_M_count_171, r_M_count_174, r_M_count_175, r_M_count_176, r_M_count_177, r_M_count_178, r_M_count_181, r_M_count_182, r_M_count_183, r_M_count_184, r_M_count_185, r_M_count_188, r_M_count_189, r_M_count_190, r_M_count_191, r_M_count_192, r_M_count_195, r_M_count_197, r_M_count_198, r_M_count_199, r_M_count_200, r_M_count_203, r_M_count_204, r_M_count_205, r_M_count_208, r_M_count_209, r_M_count_210, r_M_count_213, r_M_count_215, r_M_count_216, r_M_count_217, r_M_count_218, r_M_count_221, r_M_count_223, r_M_count_224, r_M_count_227, r_M_count_228, r_M_count_229, r_M_count_232, r_M_count_234, r_M_count_235, r_M_count_236, r_M_count_238, Q293, w32_gb, w32i, tn_add, tn_mul, Int.toNat_natCast, Int.toNat_zero, Int.reduceLE, Int.reduceLT, Int.reduceEq, Int.reduceNe, gb_T, gb_F, Int.reduceToNat, eq_self, true_or, or_true, and_true, true_and, and_self, ↓ite_gb0, ↓ite_gbn, ↓if_pos, ↓if_neg, if_true, if_false, not_true_eq_false, not_false_eq_true, gb_ne0, gb_eq0]
theorem sp_M_count_9 : Run L (d + 4) 318 [vR 293, vI 9] σ (some (vI (σ 294 5))) σ := by
  refine Run_of (C' := k_M_count) rfl ?_
  show Wp L (d + 4) k_M_count 0 [vR 293, vI 9, vU, vU] [] σ _
  obtain ⟨K293, Q293, K294, N294⟩ := litM
  simp (disch := first | assumption | exact gb_01 _ | omega) only [r_M_count_0, r_M_count_1, r_M_count_2, r_M_count_3, r_M_count_80, r_M_count_81, r_M_count_84, r_M_count_85, r_M_count_86, r_M_count_87, r_M_count_88, r_M_count_91, r_M_count_92, r_M_count_93, r_M_count_96, r_M_count_97, r_M_count_98, r_M_count_99, r_M_count_100, r_M_count_103, r_M_count_104, r_M_count_105, r_M_count_107, r_M_count_108, r_M_count_111, r_M_count_112, r_M_count_113, r_M_count_116, r_M_count_117, r_M_count_118, r_M_count_119, r_M_count_122, r_M_count_123, r_M_count_126, r_M_count_127, r_M_count_128, r_M_count_131, r_M_count_132, r_M_count_135, r_M_count_136, r_M_count_137, r_M_count_140, r_M_count_142, r_M_count_143, r_M_count_144, r_M_count_145, r_M_count_148, r_M_count_149, r_M_count_152, r_M_count_153, r_M_count_154, r_M_count_155, r_M_count_158, r_M_count_161, r_M_count_162, r_M_count_163, r_M_count_164, r_M_count_167, r_M_count_168, r_M_count_169, r_M_count_170, r_M_count_171, r_M_count_174, r_M_count_175, r_M_count_176, r_M_count_177, r_M_count_178, r_M_count_181, r_M_count_182, r_M_count_183, r_M_count_184, r_M_count_185, r_M_count_188, r_M_count_189, r_M_count_190, r_M_count_191, r_M_count_192, r_M_count_195, r_M_count_197, r_M_count_198, r_M_count_199, r_M_count_200, r_M_count_203, r_M_count_204, r_M_count_205, r_M_count_208, r_M_count_209, r_M_count_210, r_M_count_213, r_M_count_215, r_M_count_216, r_M_count_217, r_M_count_218, r_M_count_221, r_M_count_223, r_M_count_224, r_M_count_227, r_M_count_228, r_M_count_229, r_M_count_232, r_M_count_234, r_M_count_235, r_M_count_236, r_M_count_238, Q293, w32_gb, w32i, tn_add, tn_mul, Int.toNat_natCast, Int.toNat_zero, Int.reduceLE, Int.reduceLT, Int.reduceEq, Int.reduceNe, gb_T, gb_F, Int.reduceToNat, eq_self, true_or, or_true, and_true, true_and, and_self, ↓ite_gb0, ↓ite_gbn, ↓if_pos, ↓if_neg, if_true, if_false, not_true_eq_false, not_false_eq_true, gb_ne0, gb_eq0]
theorem sp_M_count_10 : Run L (d + 4) 318 [vR 293, vI 10] σ (some (vI (σ 294 6))) σ := by
  refine Run_of (C' := k_M_count) rfl ?_
  show Wp L (d + 4) k_M_count 0 [vR 293, vI 10, vU, vU] [] σ _
  obtain ⟨K293, Q293, K294, N294⟩ := litM
  simp (disch := first | assumption | exact gb_01 _ | omega) only [r_M_count_0, r_M_count_1, r_M_count_2, r_M_count_3, r_M_count_80, r_M_count_81, r_M_count_84, r_M_count_85, r_M_count_86, r_M_count_87, r_M_count_88, r_M_count_91, r_M_count_92, r_M_count_93, r_M_count_96, r_M_count_97, r_M_count_98, r_M_count_99, r_M_count_100, r_M_count_103, r_M_count_104, r_M_count_105, r_M_count_107, r_M_count_108, r_M_count_111, r_M_count_112, r_M_count_113, r_M_count_116, r_M_count_117, r_M_count_118, r_M_count_119, r_M_count_122, r_M_count_123, r_M_count_126, r_M_count_127, r_M_count_128, r_M_count_131, r_M_count_132, r_M_count_135, r_M_count_136, r_M_count_137, r_M_count_140, r_M_count_142, r_M_count_143, r_M_count_144, r_M_count_145, r_M_count_148, r_M_count_149, r_M_count_152, r_M_count_153, r_M_count_154, r_M_count_155, r_M_count_158, r_M_count_161, r_M_count_162, r_M_count_163, r_M_count_164, r_M_count_167, r_M_count_168, r_M_count_169, r_M_count_170, r_M_count_171, r_M_count_174, r_M_count_175, r_M_count_176, r_M_count_177, r_M_count_178, r_M_count_181, r_M_count_182, r_M_count_183, r_M_count_184, r_M_count_185, r_M_count_188, r_M_count_189, r_M_count_190, r_M_count_191, r_M_count_192, r_M_count_195, r_M_count_197, r_M_count_198, r_M_count_199, r_M_count_200, r_M_count_203, r_M_count_204, r_M_count_205, r_M_count_208, r_M_count_209, r_M_count_210, r_M_count_213, r_M_count_215, r_M_count_216, r_M_count_217, r_M_count_218, r_M_count_221, r_M_count_223, r_M_count_224, r_M_count_227, r_M_count_228, r_M_count_229, r_M_count_232, r_M_count_234, r_M_count_235, r_M_count_236, r_M_count_238, Q293, w32_gb, w32i, tn_add, tn_mul, Int.toNat_natCast, Int.toNat_zero, Int.reduceLE, Int.reduceLT, Int.reduceEq, Int.reduceNe, gb_T, gb_F, Int.reduceToNat, eq_self, true_or, or_true, and_true, true_and, and_self, ↓ite_gb0, ↓ite_gbn, ↓if_pos, ↓if_neg, if_true, if_false, not_true_eq_false, not_false_eq_true, gb_ne0, gb_eq0]
theorem sp_M_count_11 : Run L (d + 4) 318 [vR 293, vI 11] σ (some (vI (σ 293 27))) σ := by
  refine Run_of (C' := k_M_count) rfl ?_
  show Wp L (d + 4) k_M_count 0 [vR 293, vI 11, vU, vU] [] σ _
  obtain ⟨K293, Q293, K294, N294⟩ := litM
  simp (disch := first | assumption | exact gb_01 _ | omega) only [r_M_count_0, r_M_count_1, r_M_count_2, r_M_count_3, r_M_count_80, r_M_count_81, r_M_count_84, r_M_count_85, r_M_count_86, r_M_count_87, r_M_count_88, r_M_count_91, r_M_count_92, r_M_count_93, r_M_count_96, r_M_count_97, r_M_count_98, r_M_count_99, r_M_count_100, r_M_count_103, r_M_count_104, r_M_count_105, r_M_count_107, r_M_count_108, r_M_count_111, r_M_count_112, r_M_count_113, r_M_count_116, r_M_count_117, r_M_count_118, r_M_count_119, r_M_count_122, r_M_count_123, r_M_count_126, r_M_count_127, r_M_count_128, r_M_count_131, r_M_count_132, r_M_count_135, r_M_count_136, r_M_count_137, r_M_count_140, r_M_count_142, r_M_count_143, r_M_count_144, r_M_count_145, r_M_count_148, r_M_count_149, r_M_count_152, r_M_count_153, r_M_count_154, r_M_count_155, r_M_count_158, r_M_count_161, r_M_count_162, r_M_count_163, r_M_count_164, r_M_count_167, r_M_count_168, r_M_count_169, r_M_count_170, r_M_count_171, r_M_count_174, r_M_count_175, r_M_count_176, r_M_count_177, r_M_count_178, r_M_count_181, r_M_count_182, r_M_count_183, r_M_count_184, r_M_count_185, r_M_count_188, r_M_count_189, r_M_count_190, r_M_count_191, r_M_count_192, r_M_count_195, r_M_count_197, r_M_count_198, r_M_count_199, r_M_count_200, r_M_count_203, r_M_count_204, r_M_count_205, r_M_count_208, r_M_count_209, r_M_count_210, r_M_count_213, r_M_count_215, r_M_count_216, r_M_count_217, r_M_count_218, r_M_count_221, r_M_count_223, r_M_count_224, r_M_count_227, r_M_count_228, r_M_count_229, r_M_count_232, r_M_count_234, r_M_count_235, r_M_count_236, r_M_count_238, Q293, w32_gb, w32i, tn_add, tn_mul, Int.toNat_natCast, Int.toNat_zero, Int.reduceLE, Int.reduceLT, Int.reduceEq, Int.reduceNe, gb_T, gb_F, Int.reduceToNat, eq_self, true_or, or_true, and_true, true_and, and_self, ↓ite_gb0, ↓ite_gbn, ↓if_pos, ↓if_neg, if_true, if_false, not_true_eq_false, not_false_eq_true, gb_ne0, gb_eq0]
theorem sp_M_count_12 : Run L (d + 4) 318 [vR 293, vI 12] σ (some (vI (σ 293 9))) σ := by
  refine Run_of (C' := k_M_count) rfl ?_
  show Wp L (d + 4) k_M_count 0 [vR 293, vI 12, vU, vU] [] σ _
  obtain ⟨K293, Q293, K294, N294⟩ := litM
  simp (disch := first | assumption | exact gb_01 _ | omega) only [r_M_count_0, r_M_count_1, r_M_count_2, r_M_count_3, r_M_count_80, r_M_count_81, r_M_count_84, r_M_count_85, r_M_count_86, r_M_count_87, r_M_count_88, r_M_count_91, r_M_count_92, r_M_count_93, r_M_count_96, r_M_count_97, r_M_count_98, r_M_count_99, r_M_count_100, r_M_count_103, r_M_count_104, r_M_count_105, r_M_count_107, r_M_count_108, r_M_count_111, r_M_count_112, r_M_count_113, r_M_count_116, r_M_count_117, r_M_count_118, r_M_count_119, r_M_count_122, r_M_count_123, r_M_count_126, r_M_count_127, r_M_count_128, r_M_count_131, r_M_count_132, r_M_count_135, r_M_count_136, r_M_count_137, r_M_count_140, r_M_count_142, r_M_count_143, r_M_count_144, r_M_count_145, r_M_count_148, r_M_count_149, r_M_count_152, r_M_count_153, r_M_count_154, r_M_count_155, r_M_count_158, r_M_count_161, r_M_count_162, r_M_count_163, r_M_count_164, r_M_count_167, r_M_count_168, r_M_count_169, r_M_count_170, r_M_count_171, r_M_count_174, r_M_count_175, r_M_count_176, r_M_count_177, r_M_count_178, r_M_count_181, r_M_count_182, r_M_count_183, r_M_count_184, r_M_count_185, r_M_count_188, r_M_count_189, r_M_count_190, r_M_count_191, r_M_count_192, r_M_count_195, r_M_count_197, r_M_count_198, r_M_count_199, r_M_count_200, r_M_count_203, r_M_count_204, r_M_count_205, r_M_count_208, r_M_count_209, r_M_count_210, r_M_count_213, r_M_count_215, r_M_count_216, r_M_count_217, r_M_count_218, r_M_count_221, r_M_count_223, r_M_count_224, r_M_count_227, r_M_count_228, r_M_count_229, r_M_count_232, r_M_count_234, r_M_count_235, r_M_count_236, r_M_count_238, Q293, w32_gb, w32i, tn_add, tn_mul, Int.toNat_natCast, Int.toNat_zero, Int.reduceLE, Int.reduceLT, Int.reduceEq, Int.reduceNe, gb_T, gb_F, Int.reduceToNat, eq_self, true_or, or_true, and_true, true_and, and_self, ↓ite_gb0, ↓ite_gbn, ↓if_pos, ↓if_neg, if_true, if_false, not_true_eq_false, not_false_eq_true, gb_ne0, gb_eq0]
theorem sp_M_count_13 : Run L (d + 4) 318 [vR 293, vI 13] σ (some (vI (σ 294 7))) σ := by
  refine Run_of (C' := k_M_count) rfl ?_
  show Wp L (d + 4) k_M_count 0 [vR 293, vI 13, vU, vU] [] σ _
  obtain ⟨K293, Q293, K294, N294⟩ := litM
  simp (disch := first | assumption | exact gb_01 _ | omega) only [r_M_count_0, r_M_count_1, r_M_count_2, r_M_count_3, r_M_count_80, r_M_count_81, r_M_count_84, r_M_count_85, r_M_count_86, r_M_count_87, r_M_count_88, r_M_count_91, r_M_count_92, r_M_count_93, r_M_count_96, r_M_count_97, r_M_count_98, r_M_count_99, r_M_count_100, r_M_count_103, r_M_count_104, r_M_count_105, r_M_count_107, r_M_count_108, r_M_count_111, r_M_count_112, r_M_count_113, r_M_count_116, r_M_count_117, r_M_count_118, r_M_count_119, r_M_count_122, r_M_count_123, r_M_count_126, r_M_count_127, r_M_count_128, r_M_count_131, r_M_count_132, r_M_count_135, r_M_count_136, r_M_count_137, r_M_count_140, r_M_count_142, r_M_count_143, r_M_count_144, r_M_count_145, r_M_count_148, r_M_count_149, r_M_count_152, r_M_count_153, r_M_count_154, r_M_count_155, r_M_count_158, r_M_count_161, r_M_count_162, r_M_count_163, r_M_count_164, r_M_count_167, r_M_count_168, r_M_count_169, r_M_count_170, r_M_count_171, r_M_count_174, r_M_count_175, r_M_count_176, r_M_count_177, r_M_count_178, r_M_count_181, r_M_count_182, r_M_count_183, r_M_count_184, r_M_count_185, r_M_count_188, r_M_count_189, r_M_count_190, r_M_count_191, r_M_count_192, r_M_count_195, r_M_count_197, r_M_count_198, r_M_count_199, r_M_count_200, r_M_count_203, r_M_count_204, r_M_count_205, r_M_count_208, r_M_count_209, r_M_count_210, r_M_count_213, r_M_count_215, r_M_count_216, r_M_count_217, r_M_count_218, r_M_count_221, r_M_count_223, r_M_count_224, r_M_count_227, r_M_count_228, r_M_count_229, r_M_count_232, r_M_count_234, r_M_count_235, r_M_count_236, r_M_count_238, Q293, w32_gb, w32i, tn_add, tn_mul, Int.toNat_natCast, Int.toNat_zero, Int.reduceLE, Int.reduceLT, Int.reduceEq, Int.reduceNe, gb_T, gb_F, Int.reduceToNat, eq_self, true_or, or_true, and_true, true_and, and_self, ↓ite_gb0, ↓ite_gbn, ↓if_pos, ↓if_neg, if_true, if_false, not_true_eq_false, not_false_eq_true, gb_ne0, gb_eq0]
theorem sp_M_count_14 : Run L (d + 4) 318 [vR 293, vI 14] σ (some (vI (if σ 294 11 < 0 then -1000000005 else σ 294 11))) σ := by
  refine Run_of (C' := k_M_count) rfl ?_
  show Wp L (d + 4) k_M_count 0 [vR 293, vI 14, vU, vU] [] σ _
  obtain ⟨K293, Q293, K294, N294⟩ := litM
  simp (disch := first | assumption | exact gb_01 _ | omega) only [r_M_count_0, r_M_count_1, r_M_count_2, r_M_count_3, r_M_count_80, r_M_count_81, r_M_count_84, r_M_count_85, r_M_count_86, r_M_count_87, r_M_count_88, r_M_count_91, r_M_count_92, r_M_count_93, r_M_count_96, r_M_count_97, r_M_count_98, r_M_count_99, r_M_count_100, r_M_count_103, r_M_count_104, r_M_count_105, r_M_count_107, r_M_count_108, r_M_count_111, r_M_count_112, r_M_count_113, r_M_count_116, r_M_count_117, r_M_count_118, r_M_count_119, r_M_count_122, r_M_count_123, r_M_count_126, r_M_count_127, r_M_count_128, r_M_count_131, r_M_count_132, r_M_count_135, r_M_count_136, r_M_count_137, r_M_count_140, r_M_count_142, r_M_count_143, r_M_count_144, r_M_count_145, r_M_count_148, r_M_count_149, r_M_count_152, r_M_count_153, r_M_count_154, r_M_count_155, r_M_count_158, r_M_count_161, r_M_count_162, r_M_count_163, r_M_count_164, r_M_count_167, r_M_count_168, r_M_count_169, r_M_count_170, r_M_count_171, r_M_count_174, r_M_count_175, r_M_count_176, r_M_count_177, r_M_count_178, r_M_count_181, r_M_count_182, r_M_count_183, r_M_count_184, r_M_count_185, r_M_count_188, r_M_count_189, r_M_count_190, r_M_count_191, r_M_count_192, r_M_count_195, r_M_count_197, r_M_count_198, r_M_count_199, r_M_count_200, r_M_count_203, r_M_count_204, r_M_count_205, r_M_count_208, r_M_count_209, r_M_count_210, r_M_count_213, r_M_count_215, r_M_count_216, r_M_count_217, r_M_count_218, r_M_count_221, r_M_count_223, r_M_count_224, r_M_count_227, r_M_count_228, r_M_count_229, r_M_count_232, r_M_count_234, r_M_count_235, r_M_count_236, r_M_count_238, Q293, w32_gb, w32i, tn_add, tn_mul, Int.toNat_natCast, Int.toNat_zero, Int.reduceLE, Int.reduceLT, Int.reduceEq, Int.reduceNe, gb_T, gb_F, Int.reduceToNat, eq_self, true_or, or_true, and_true, true_and, and_self, ↓ite_gb0, ↓ite_gbn, ↓if_pos, ↓if_neg, if_true, if_false, not_true_eq_false, not_false_eq_true, gb_ne0, gb_eq0]
theorem sp_M_count_15 : Run L (d + 4) 318 [vR 293, vI 15] σ (some (vI (σ 294 12))) σ := by
  refine Run_of (C' := k_M_count) rfl ?_
  show Wp L (d + 4) k_M_count 0 [vR 293, vI 15, vU, vU] [] σ _
  obtain ⟨K293, Q293, K294, N294⟩ := litM
  simp (disch := first | assumption | exact gb_01 _ | omega) only [r_M_count_0, r_M_count_1, r_M_count_2, r_M_count_3, r_M_count_80, r_M_count_81, r_M_count_84, r_M_count_85, r_M_count_86, r_M_count_87, r_M_count_88, r_M_count_91, r_M_count_92, r_M_count_93, r_M_count_96, r_M_count_97, r_M_count_98, r_M_count_99, r_M_count_100, r_M_count_103, r_M_count_104, r_M_count_105, r_M_count_107, r_M_count_108, r_M_count_111, r_M_count_112, r_M_count_113, r_M_count_116, r_M_count_117, r_M_count_118, r_M_count_119, r_M_count_122, r_M_count_123, r_M_count_126, r_M_count_127, r_M_count_128, r_M_count_131, r_M_count_132, r_M_count_135, r_M_count_136, r_M_count_137, r_M_count_140, r_M_count_142, r_M_count_143, r_M_count_144, r_M_count_145, r_M_count_148, r_M_count_149, r_M_count_152, r_M_count_153, r_M_count_154, r_M_count_155, r_M_count_158, r_M_count_161, r_M_count_162, r_M_count_163, r_M_count_164, r_M_count_167, r_M_count_168, r_M_count_169, r_M_count_170, r_M_count_171, r_M_count_174, r_M_count_175, r_M_count_176, r_M_count_177, r_M_count_178, r_M_count_181, r_M_count_182, r_M_count_183, r_M_count_184, r_M_count_185, r_M_count_188, r_M_count_189, r_M_count_190, r_M_count_191, r_M_count_192, r_M_count_195, r_M_count_197, r_M_count_198, r_M_count_199, r_M_count_200, r_M_count_203, r_M_count_204, r_M_count_205, r_M_count_208, r_M_count_209, r_M_count_210, r_M_count_213, r_M_count_215, r_M_count_216, r_M_count_217, r_M_count_218, r_M_count_221, r_M_count_223, r_M_count_224, r_M_count_227, r_M_count_228, r_M_count_229, r_M_count_232, r_M_count_234, r_M_count_235, r_M_count_236, r_M_count_238, Q293, w32_gb, w32i, tn_add, tn_mul, Int.toNat_natCast, Int.toNat_zero, Int.reduceLE, Int.reduceLT, Int.reduceEq, Int.reduceNe, gb_T, gb_F, Int.reduceToNat, eq_self, true_or, or_true, and_true, true_and, and_self, ↓ite_gb0, ↓ite_gbn, ↓if_pos, ↓if_neg, if_true, if_false, not_true_eq_false, not_false_eq_true, gb_ne0, gb_eq0]
theorem sp_M_count_b (e0 : ¬ a1 = 0) (e1 : ¬ a1 = 1) (e2 : ¬ a1 = 2) (e3 : ¬ a1 = 3) (e4 : ¬ a1 = 4) (e5 : ¬ a1 = 5) (e6 : ¬ a1 = 6) (e7 : ¬ a1 = 7) (e8 : ¬ a1 = 8) (e9 : ¬ a1 = 9) (e10 : ¬ a1 = 10) (e11 : ¬ a1 = 11) (e12 : ¬ a1 = 12) (e13 : ¬ a1 = 13) (e14 : ¬ a1 = 14) (e15 : ¬ a1 = 15) : Run L (d + 4) 318 [vR 293, vI a1] σ (some (vI (-1000000001))) σ := by
  refine Run_of (C' := k_M_count) rfl ?_
  show Wp L (d + 4) k_M_count 0 [vR 293, vI a1, vU, vU] [] σ _
  simp (disch := first | assumption | exact gb_01 _ | omega) only [r_M_count_0, r_M_count_1, r_M_count_2, r_M_count_3, r_M_count_80, r_M_count_81, r_M_count_84, r_M_count_85, r_M_count_86, r_M_count_87, r_M_count_88, r_M_count_91, r_M_count_92, r_M_count_93, r_M_count_96, r_M_count_97, r_M_count_98, r_M_count_99, r_M_count_100, r_M_count_103, r_M_count_104, r_M_count_105, r_M_count_107, r_M_count_108, r_M_count_111, r_M_count_112, r_M_count_113, r_M_count_116, r_M_count_117, r_M_count_118, r_M_count_119, r_M_count_122, r_M_count_123, r_M_count_126, r_M_count_127, r_M_count_128, r_M_count_131, r_M_count_132, r_M_count_135, r_M_count_136, r_M_count_137, r_M_count_140, r_M_count_142, r_M_count_143, r_M_count_144, r_M_count_145, r_M_count_148, r_M_count_149, r_M_count_152, r_M_count_153, r_M_count_154, r_M_count_155, r_M_count_158, r_M_count_161, r_M_count_162, r_M_count_163, r_M_count_164, r_M_count_167, r_M_count_168, r_M_count_169, r_M_count_170, r_M_count_171, r_M_count_174, r_M_count_175, r_M_count_176, r_M_count_177, r_M_count_178, r_M_count_181, r_M_count_182, r_M_count_183, r_M_count_184, r_M_count_185, r_M_count_188, r_M_count_189, r_M_count_190, r_M_count_191, r_M_count_192, r_M_count_195, r_M_count_197, r_M_count_198, r_M_count_199, r_M_count_200, r_M_count_203, r_M_count_204, r_M_count_205, r_M_count_208, r_M_count_209, r_M_count_210, r_M_count_213, r_M_count_215, r_M_count_216, r_M_count_217, r_M_count_218, r_M_count_221, r_M_count_223, r_M_count_224, r_M_count_227, r_M_count_228, r_M_count_229, r_M_count_232, r_M_count_234, r_M_count_235, r_M_count_236, r_M_count_238, w32_gb, w32i, tn_add, tn_mul, Int.toNat_natCast, Int.toNat_zero, Int.reduceLE, Int.reduceLT, Int.reduceEq, Int.reduceNe, gb_T, gb_F, Int.reduceToNat, eq_self, true_or, or_true, and_true, true_and, and_self, ↓ite_gb0, ↓ite_gbn, ↓if_pos, ↓if_neg, if_true, if_false, not_true_eq_false, not_false_eq_true, gb_ne0, gb_eq0]
theorem op_count (a1 : Int) : Op 88 318 [vI a1] := by
  intro L d σ hI
  obtain ⟨⟨w1, w2, w3, w4, w5, w6, w7, w8⟩, c1, c2, c3, c4, c5, c6, c7, c8⟩ := iB hI
  have hw := (iB hI).1
  have hc := (iB hI).2
  by_cases e0 : a1 = 0
  · subst e0
    exact ⟨_, _, _, sp_X_count_0, Run_r sp_M_count_0 (c1.symm), hI⟩
  by_cases e1 : a1 = 1
  · subst e1
    exact ⟨_, _, _, sp_X_count_1 hw hc, sp_M_count_1 hw, hI⟩
  by_cases e2 : a1 = 2
  · subst e2
    exact ⟨_, _, _, sp_X_count_2, Run_r sp_M_count_2 (c2.symm), hI⟩
  by_cases e3 : a1 = 3
  · subst e3
    exact ⟨_, _, _, sp_X_count_3 hw hc, sp_M_count_3 hw, hI⟩
  by_cases e4 : a1 = 4
  · subst e4
    exact ⟨_, _, _, sp_X_count_4 hw hc, sp_M_count_4 hw, hI⟩
  by_cases e5 : a1 = 5
  · subst e5
    exact ⟨_, _, _, sp_X_count_5 hw hc, sp_M_count_5 hw, hI⟩
  by_cases e6 : a1 = 6
  · subst e6
    exact ⟨_, _, _, sp_X_count_6, Run_r sp_M_count_6 ((iT hI).2.1.symm), hI⟩
  by_cases e7 : a1 = 7
  · subst e7
    exact ⟨_, _, _, sp_X_count_7, Run_r sp_M_count_7 ((iW hI).2.1.symm), hI⟩
  by_cases e8 : a1 = 8
  · subst e8
    exact ⟨_, _, _, sp_X_count_8, Run_r sp_M_count_8 ((iP hI).2.1.symm), hI⟩
  by_cases e9 : a1 = 9
  · subst e9
    exact ⟨_, _, _, sp_X_count_9, Run_r sp_M_count_9 ((iP hI).2.2.2.2.1.symm), hI⟩
  by_cases e10 : a1 = 10
  · subst e10
    exact ⟨_, _, _, sp_X_count_10, Run_r sp_M_count_10 ((iR hI).2.1.symm), hI⟩
  by_cases e11 : a1 = 11
  · subst e11
    exact ⟨_, _, _, sp_X_count_11, Run_r sp_M_count_11 (hI.2.2.2.2.1.1.symm), hI⟩
  by_cases e12 : a1 = 12
  · subst e12
    exact ⟨_, _, _, sp_X_count_12, Run_r sp_M_count_12 (hI.2.2.1.1.symm), hI⟩
  by_cases e13 : a1 = 13
  · subst e13
    exact ⟨_, _, _, sp_X_count_13, Run_r sp_M_count_13 ((iM hI).2.1.symm), hI⟩
  by_cases e14 : a1 = 14
  · subst e14
    exact ⟨_, _, _, sp_X_count_14, Run_r sp_M_count_14 (c7.symm), hI⟩
  by_cases e15 : a1 = 15
  · subst e15
    exact ⟨_, _, _, sp_X_count_15, Run_r sp_M_count_15 (by rw [c8]; rcases w8 with e | e <;> rw [e] <;> rfl), hI⟩
  exact ⟨_, _, _, sp_X_count_b e0 e1 e2 e3 e4 e5 e6 e7 e8 e9 e10 e11 e12 e13 e14 e15, sp_M_count_b e0 e1 e2 e3 e4 e5 e6 e7 e8 e9 e10 e11 e12 e13 e14 e15, hI⟩
