/-! piece, tell, trim, feed. -/
variable {L d : Nat} {σ σ1 : Nat → Nat → Int} {Q : Option gV → (Nat → Nat → Int) → Prop} {a0 a1 a2 a3 a4 a5 a6 a7 a8 a9 a10 a11 s0 s1 s2 s3 s4 s5 s6 s7 s8 s9 : Int} {l0 l1 l2 l3 l4 l5 l6 l7 l8 l9 l10 l11 t0 t1 t2 t3 t4 t5 t6 t7 t8 t9 : gV} {b0 b1 b2 b3 b4 b5 b6 b7 b8 b9 b10 b11 c0 c1 c2 c3 c4 c5 c6 c7 c8 c9 : Nat} {r : Option gV}
theorem r_X_piece_0 : Wp L d k_X_piece 0 [vR b0, l1, l2, l3, l4] [] σ Q ↔ Wp L d k_X_piece 1 [vR b0, l1, l2, l3, l4] [vR b0] σ Q := wp_aload rfl rfl
theorem r_X_piece_1 : Wp L d k_X_piece 1 [l0, vI a1, l2, l3, l4] [vR c0] σ Q ↔ Wp L d k_X_piece 2 [l0, vI a1, l2, l3, l4] [vI a1, vR c0] σ Q := wp_iload rfl rfl
theorem r_X_piece_5 : Wp L d k_X_piece 5 [l0, l1, l2, l3, l4] [vI s0] σ Q ↔ (if s0 = 0 then Wp L d k_X_piece 26 [l0, l1, l2, l3, l4] [] σ Q else Wp L d k_X_piece 8 [l0, l1, l2, l3, l4] [] σ Q) := wp_if_eq rfl
theorem r_X_piece_8 : Wp L d k_X_piece 8 [l0, l1, vI a2, l3, l4] [] σ Q ↔ Wp L d k_X_piece 9 [l0, l1, vI a2, l3, l4] [vI a2] σ Q := wp_iload rfl rfl
theorem r_X_piece_9 : Wp L d k_X_piece 9 [l0, l1, l2, l3, l4] [vI s0] σ Q ↔ Wp L d k_X_piece 10 [l0, l1, l2, l3, l4] [vI 0, vI s0] σ Q := wp_push rfl
theorem r_X_piece_10 : Wp L d k_X_piece 10 [l0, l1, l2, l3, l4] [vI s1, vI s0] σ Q ↔ Wp L d k_X_piece 11 [l0, l1, l2, l3, l4] [vI 5, vI s1, vI s0] σ Q := wp_push rfl
theorem r_X_piece_14 : Wp L d k_X_piece 14 [l0, l1, l2, l3, l4] [vI s0] σ Q ↔ (if s0 = 0 then Wp L d k_X_piece 26 [l0, l1, l2, l3, l4] [] σ Q else Wp L d k_X_piece 17 [l0, l1, l2, l3, l4] [] σ Q) := wp_if_eq rfl
theorem r_X_piece_17 : Wp L d k_X_piece 17 [l0, l1, l2, vI a3, l4] [] σ Q ↔ Wp L d k_X_piece 18 [l0, l1, l2, vI a3, l4] [vI a3] σ Q := wp_iload rfl rfl
theorem r_X_piece_18 : Wp L d k_X_piece 18 [l0, l1, l2, l3, l4] [vI s0] σ Q ↔ Wp L d k_X_piece 19 [l0, l1, l2, l3, l4] [vI 0, vI s0] σ Q := wp_push rfl
theorem r_X_piece_19 : Wp L d k_X_piece 19 [l0, l1, l2, l3, l4] [vI s1, vI s0] σ Q ↔ Wp L d k_X_piece 20 [l0, l1, l2, l3, l4] [vI 1, vI s1, vI s0] σ Q := wp_push rfl
theorem r_X_piece_23 : Wp L d k_X_piece 23 [l0, l1, l2, l3, l4] [vI s0] σ Q ↔ (if s0 ≠ 0 then Wp L d k_X_piece 29 [l0, l1, l2, l3, l4] [] σ Q else Wp L d k_X_piece 26 [l0, l1, l2, l3, l4] [] σ Q) := wp_if_ne rfl
theorem r_X_piece_26 : Wp L d k_X_piece 26 [l0, l1, l2, l3, l4] [] σ Q ↔ Wp L d k_X_piece 28 [l0, l1, l2, l3, l4] [vI (-1000000001)] σ Q := wp_push rfl
theorem r_X_piece_28 : Wp L d k_X_piece 28 [l0, l1, l2, l3, l4] [vI s0] σ Q ↔ Q (some (vI s0)) σ := wp_iret rfl
theorem r_X_piece_29 : Wp L d k_X_piece 29 [vR b0, l1, l2, l3, l4] [] σ Q ↔ Wp L d k_X_piece 30 [vR b0, l1, l2, l3, l4] [vR b0] σ Q := wp_aload rfl rfl
theorem r_X_piece_30 (h : gK c0 = 0) : Wp L d k_X_piece 30 [l0, l1, l2, l3, l4] [vR c0] σ Q ↔ Wp L d k_X_piece 33 [l0, l1, l2, l3, l4] [vR (gq c0 1)] σ Q := wp_getR (c := 129) rfl rfl rfl rfl rfl h
theorem r_X_piece_33 (h : gK c0 = 1) : Wp L d k_X_piece 33 [l0, l1, l2, l3, l4] [vR c0] σ Q ↔ Wp L d k_X_piece 36 [l0, l1, l2, l3, l4] [vI (σ c0 9)] σ Q := wp_getI (c := 265) rfl rfl rfl rfl h
theorem r_X_piece_36 : Wp L d k_X_piece 36 [l0, l1, l2, l3, l4] [vI s0] σ Q ↔ Wp L d k_X_piece 38 [l0, l1, l2, l3, l4] [vI 40, vI s0] σ Q := wp_push rfl
theorem r_X_piece_38 : Wp L d k_X_piece 38 [l0, l1, l2, l3, l4] [vI s1, vI s0] σ Q ↔ (if s0 < s1 then Wp L d k_X_piece 44 [l0, l1, l2, l3, l4] [] σ Q else Wp L d k_X_piece 41 [l0, l1, l2, l3, l4] [] σ Q) := wp_cmp_lt rfl
theorem r_X_piece_41 : Wp L d k_X_piece 41 [l0, l1, l2, l3, l4] [] σ Q ↔ Wp L d k_X_piece 43 [l0, l1, l2, l3, l4] [vI (-1000000003)] σ Q := wp_push rfl
theorem r_X_piece_43 : Wp L d k_X_piece 43 [l0, l1, l2, l3, l4] [vI s0] σ Q ↔ Q (some (vI s0)) σ := wp_iret rfl
theorem r_X_piece_44 : Wp L d k_X_piece 44 [vR b0, l1, l2, l3, l4] [] σ Q ↔ Wp L d k_X_piece 45 [vR b0, l1, l2, l3, l4] [vR b0] σ Q := wp_aload rfl rfl
theorem r_X_piece_45 (h : gK c0 = 0) : Wp L d k_X_piece 45 [l0, l1, l2, l3, l4] [vR c0] σ Q ↔ Wp L d k_X_piece 48 [l0, l1, l2, l3, l4] [vR (gq c0 1)] σ Q := wp_getR (c := 129) rfl rfl rfl rfl rfl h
theorem r_X_piece_48 (h : gK c0 = 1) : Wp L d k_X_piece 48 [l0, l1, l2, l3, l4] [vR c0] σ Q ↔ Wp L d k_X_piece 51 [l0, l1, l2, l3, l4] [vR (gq c0 3)] σ Q := wp_getR (c := 387) rfl rfl rfl rfl rfl h
theorem r_X_piece_51 : Wp L d k_X_piece 51 [vR b0, l1, l2, l3, l4] [vR c0] σ Q ↔ Wp L d k_X_piece 52 [vR b0, l1, l2, l3, l4] [vR b0, vR c0] σ Q := wp_aload rfl rfl
theorem r_X_piece_52 (h : gK c1 = 0) : Wp L d k_X_piece 52 [l0, l1, l2, l3, l4] [vR c1, vR c0] σ Q ↔ Wp L d k_X_piece 55 [l0, l1, l2, l3, l4] [vR (gq c1 1), vR c0] σ Q := wp_getR (c := 129) rfl rfl rfl rfl rfl h
theorem r_X_piece_55 (h : gK c1 = 1) : Wp L d k_X_piece 55 [l0, l1, l2, l3, l4] [vR c1, vR c0] σ Q ↔ Wp L d k_X_piece 58 [l0, l1, l2, l3, l4] [vI (σ c1 9), vR c0] σ Q := wp_getI (c := 265) rfl rfl rfl rfl h
theorem r_X_piece_58 (h : gK c0 = 102 ∨ gK c0 = 103) (hx : 0 ≤ s1 ∧ s1 < gN c0) : Wp L d k_X_piece 58 [l0, l1, l2, l3, l4] [vI s1, vR c0] σ Q ↔ Wp L d k_X_piece 59 [l0, l1, l2, l3, l4] [vR (gq c0 s1.toNat)] σ Q := wp_aald rfl h hx
theorem r_X_piece_59 : Wp L d k_X_piece 59 [l0, l1, l2, vI a3, l4] [vR c0] σ Q ↔ Wp L d k_X_piece 61 [l0, l1, l2, vI a3, vR c0] [] σ Q := wp_astore (i := 4) (ls := [l0, l1, l2, vI a3, l4]) rfl rfl
theorem r_X_piece_61 : Wp L d k_X_piece 61 [l0, l1, l2, l3, vR b4] [] σ Q ↔ Wp L d k_X_piece 63 [l0, l1, l2, l3, vR b4] [vR b4] σ Q := wp_aload rfl rfl
theorem r_X_piece_63 : Wp L d k_X_piece 63 [l0, l1, l2, l3, l4] [vR c0] σ Q ↔ Wp L d k_X_piece 64 [l0, l1, l2, l3, l4] [vI 4, vR c0] σ Q := wp_push rfl
theorem r_X_piece_64 : Wp L d k_X_piece 64 [l0, vI a1, l2, l3, l4] [vI s1, vR c0] σ Q ↔ Wp L d k_X_piece 65 [l0, vI a1, l2, l3, l4] [vI a1, vI s1, vR c0] σ Q := wp_iload rfl rfl
theorem r_X_piece_65 : Wp L d k_X_piece 65 [l0, l1, l2, l3, l4] [vI s2, vI s1, vR c0] σ Q ↔ Wp L d k_X_piece 66 [l0, l1, l2, l3, l4] [vI 1, vI s2, vI s1, vR c0] σ Q := wp_push rfl
theorem r_X_piece_66 : Wp L d k_X_piece 66 [l0, l1, l2, l3, l4] [vI s3, vI s2, vI s1, vR c0] σ Q ↔ Wp L d k_X_piece 67 [l0, l1, l2, l3, l4] [vI 1, vI s3, vI s2, vI s1, vR c0] σ Q := wp_push rfl
theorem r_X_piece_70 : Wp L d k_X_piece 70 [l0, l1, l2, l3, vR b4] [] σ Q ↔ Wp L d k_X_piece 72 [l0, l1, l2, l3, vR b4] [vR b4] σ Q := wp_aload rfl rfl
theorem r_X_piece_72 : Wp L d k_X_piece 72 [l0, l1, l2, l3, l4] [vR c0] σ Q ↔ Wp L d k_X_piece 73 [l0, l1, l2, l3, l4] [vI 0, vR c0] σ Q := wp_push rfl
theorem r_X_piece_73 : Wp L d k_X_piece 73 [vR b0, l1, l2, l3, l4] [vI s1, vR c0] σ Q ↔ Wp L d k_X_piece 74 [vR b0, l1, l2, l3, l4] [vR b0, vI s1, vR c0] σ Q := wp_aload rfl rfl
theorem r_X_piece_74 (h : gK c2 = 0) : Wp L d k_X_piece 74 [l0, l1, l2, l3, l4] [vR c2, vI s1, vR c0] σ Q ↔ Wp L d k_X_piece 77 [l0, l1, l2, l3, l4] [vR (gq c2 0), vI s1, vR c0] σ Q := wp_getR (c := 128) rfl rfl rfl rfl rfl h
theorem r_X_piece_77 (h : gK c2 = 5) : Wp L d k_X_piece 77 [l0, l1, l2, l3, l4] [vR c2, vI s1, vR c0] σ Q ↔ Wp L d k_X_piece 80 [l0, l1, l2, l3, l4] [vI (σ c2 7), vI s1, vR c0] σ Q := wp_getI (c := 1287) rfl rfl rfl rfl h
theorem r_X_piece_83 : Wp L d k_X_piece 83 [l0, l1, l2, l3, vR b4] [] σ Q ↔ Wp L d k_X_piece 85 [l0, l1, l2, l3, vR b4] [vR b4] σ Q := wp_aload rfl rfl
theorem r_X_piece_85 : Wp L d k_X_piece 85 [l0, l1, vI a2, l3, l4] [vR c0] σ Q ↔ Wp L d k_X_piece 86 [l0, l1, vI a2, l3, l4] [vI a2, vR c0] σ Q := wp_iload rfl rfl
theorem r_X_piece_86 (h : gK c0 = 4) : Wp L d k_X_piece 86 [l0, l1, l2, l3, l4] [vI s1, vR c0] σ Q ↔ Wp L d k_X_piece 89 [l0, l1, l2, l3, l4] [] (gupd σ c0 8 s1) Q := wp_putI (c := 1032) rfl rfl rfl rfl h
theorem r_X_piece_89 : Wp L d k_X_piece 89 [l0, l1, l2, l3, vR b4] [] σ Q ↔ Wp L d k_X_piece 91 [l0, l1, l2, l3, vR b4] [vR b4] σ Q := wp_aload rfl rfl
theorem r_X_piece_91 : Wp L d k_X_piece 91 [l0, l1, l2, vI a3, l4] [vR c0] σ Q ↔ Wp L d k_X_piece 92 [l0, l1, l2, vI a3, l4] [vI a3, vR c0] σ Q := wp_iload rfl rfl
theorem r_X_piece_92 (h : gK c0 = 4) : Wp L d k_X_piece 92 [l0, l1, l2, l3, l4] [vI s1, vR c0] σ Q ↔ Wp L d k_X_piece 95 [l0, l1, l2, l3, l4] [] (gupd σ c0 9 s1) Q := wp_putI (c := 1033) rfl rfl rfl rfl h
theorem r_X_piece_95 : Wp L d k_X_piece 95 [vR b0, l1, l2, l3, l4] [] σ Q ↔ Wp L d k_X_piece 96 [vR b0, l1, l2, l3, l4] [vR b0] σ Q := wp_aload rfl rfl
theorem r_X_piece_96 (h : gK c0 = 0) : Wp L d k_X_piece 96 [l0, l1, l2, l3, l4] [vR c0] σ Q ↔ Wp L d k_X_piece 99 [l0, l1, l2, l3, l4] [vR (gq c0 1)] σ Q := wp_getR (c := 129) rfl rfl rfl rfl rfl h
theorem r_X_piece_99 : Wp L d k_X_piece 99 [l0, l1, l2, l3, l4] [vR c0] σ Q ↔ Wp L d k_X_piece 100 [l0, l1, l2, l3, l4] [vR c0, vR c0] σ Q := wp_dupR rfl
theorem r_X_piece_100 (h : gK c1 = 1) : Wp L d k_X_piece 100 [l0, l1, l2, l3, l4] [vR c1, vR c0] σ Q ↔ Wp L d k_X_piece 103 [l0, l1, l2, l3, l4] [vI (σ c1 9), vR c0] σ Q := wp_getI (c := 265) rfl rfl rfl rfl h
theorem r_X_piece_103 : Wp L d k_X_piece 103 [l0, l1, l2, l3, l4] [vI s1, vR c0] σ Q ↔ Wp L d k_X_piece 104 [l0, l1, l2, l3, l4] [vI s1, vR c0, vI s1] σ Q := wp_dup_x1 rfl
theorem r_X_piece_104 : Wp L d k_X_piece 104 [l0, l1, l2, l3, l4] [vI s2, vR c1, vI s0] σ Q ↔ Wp L d k_X_piece 105 [l0, l1, l2, l3, l4] [vI 1, vI s2, vR c1, vI s0] σ Q := wp_push rfl
theorem r_X_piece_105 : Wp L d k_X_piece 105 [l0, l1, l2, l3, l4] [vI s3, vI s2, vR c1, vI s0] σ Q ↔ Wp L d k_X_piece 106 [l0, l1, l2, l3, l4] [vI (w32 (s2 + s3)), vR c1, vI s0] σ Q := wp_iadd rfl
theorem r_X_piece_106 (h : gK c1 = 1) : Wp L d k_X_piece 106 [l0, l1, l2, l3, l4] [vI s2, vR c1, vI s0] σ Q ↔ Wp L d k_X_piece 109 [l0, l1, l2, l3, l4] [vI s0] (gupd σ c1 9 s2) Q := wp_putI (c := 265) rfl rfl rfl rfl h
theorem r_X_piece_109 : Wp L d k_X_piece 109 [l0, l1, l2, l3, l4] [vI s0] σ Q ↔ Q (some (vI s0)) σ := wp_iret rfl
theorem r_X_piece_2 : Wp L (d + 2) k_X_piece 2 [l0, l1, l2, l3, l4] [vI s1, vR 27] σ Q ↔ Wp L (d + 2) k_X_piece 5 [l0, l1, l2, l3, l4] [vI (gb (0 ≤ s1 ∧ s1 ≤ σ 29 8))] σ Q := wp_callR (d := d + 1) (as := [vR 27, vI s1]) (rest := []) rfl rfl rfl rfl rfl rfl rfl (grecv_k (by rw [gK_27]) rfl) (sp_X_isPier)
theorem r_X_piece_11 : Wp L (d + 2) k_X_piece 11 [l0, l1, l2, l3, l4] [vI s2, vI s1, vI s0] σ Q ↔ Wp L (d + 2) k_X_piece 14 [l0, l1, l2, l3, l4] [vI (gb (s1 ≤ s0 ∧ s0 ≤ s2))] σ Q := wp_callR (d := d + 1) (as := [vI s0, vI s1, vI s2]) (rest := []) rfl rfl rfl rfl rfl rfl rfl rfl (sp_X_within)
theorem r_X_piece_20 : Wp L (d + 2) k_X_piece 20 [l0, l1, l2, l3, l4] [vI s2, vI s1, vI s0] σ Q ↔ Wp L (d + 2) k_X_piece 23 [l0, l1, l2, l3, l4] [vI (gb (s1 ≤ s0 ∧ s0 ≤ s2))] σ Q := wp_callR (d := d + 1) (as := [vI s0, vI s1, vI s2]) (rest := []) rfl rfl rfl rfl rfl rfl rfl rfl (sp_X_within)
theorem r_X_piece_67 (hk : gK c0 = 4) : Wp L (d + 2) k_X_piece 67 [l0, l1, l2, l3, l4] [vI s4, vI s3, vI s2, vI s1, vR c0] σ Q ↔ Wp L (d + 2) k_X_piece 70 [l0, l1, l2, l3, l4] [] (gupd (gupd (gupd (gupd (gupd (gupd (gupd (gupd (gupd (gupd σ c0 0 s1) c0 1 s2) c0 2 s3) c0 3 s4) c0 4 0) c0 5 0) c0 8 0) c0 9 0) c0 10 (gb (s1 ≠ 4))) c0 11 0) Q := wp_callR (d := d + 1) (as := [vR c0, vI s1, vI s2, vI s3, vI s4]) (rest := []) rfl rfl rfl rfl rfl rfl rfl (grecv_k (by rw [hk]) rfl) (sp_Q_cast hk)
theorem r_X_piece_80 (hk : gK c0 = 4) : Wp L (d + 2) k_X_piece 80 [l0, l1, l2, l3, l4] [vI s2, vI s1, vR c0] σ Q ↔ Wp L (d + 2) k_X_piece 83 [l0, l1, l2, l3, l4] [] (gupd (gupd σ c0 6 s1) c0 7 s2) Q := wp_callR (d := d + 1) (as := [vR c0, vI s1, vI s2]) (rest := []) rfl rfl rfl rfl rfl rfl rfl (grecv_k (by rw [hk]) rfl) (sp_Q_sign hk)
theorem sp_X_piece_b (h : ¬ ((0 ≤ a1 ∧ a1 ≤ σ 29 8) ∧ (0 ≤ a2 ∧ a2 ≤ 5) ∧ 0 ≤ a3 ∧ a3 ≤ 1)) : Run L (d + 2) 23 [vR 27, vI a1, vI a2, vI a3] σ (some (vI (-1000000001))) σ := by
  refine Run_of (C' := k_X_piece) rfl ?_
  show Wp L (d + 2) k_X_piece 0 [vR 27, vI a1, vI a2, vI a3, vU] [] σ _
  obtain ⟨K27, K28, K29, K78, K97, K99, K109, K123, K125, K279, K282⟩ := litX
  by_cases e1 : 0 ≤ a1 ∧ a1 ≤ σ 29 8
  · by_cases e2 : 0 ≤ a2 ∧ a2 ≤ 5
    · simp (disch := first | assumption | exact gb_01 _ | omega) only [r_X_piece_0, r_X_piece_1, r_X_piece_2, r_X_piece_5, r_X_piece_8, r_X_piece_9, r_X_piece_10, r_X_piece_11, r_X_piece_14, r_X_piece_17, r_X_piece_18, r_X_piece_19, r_X_piece_20, r_X_piece_23, r_X_piece_26, r_X_piece_28, gq_27_0, gq_27_1, gq_27_2, gq_27_3, gq_27_4, gq_27_5, gq_27_6, gq_28_0, gq_28_1, gq_28_2, gq_28_3, gq_28_4, gq_28_5, gq_28_6, w32_gb, w32i, tn_add, tn_mul, Int.toNat_natCast, Int.toNat_zero, Int.reduceLE, Int.reduceLT, Int.reduceEq, Int.reduceNe, gb_T, gb_F, Int.reduceToNat, eq_self, true_or, or_true, and_true, true_and, and_self, ↓ite_gb0, ↓ite_gbn, ↓if_pos, ↓if_neg, if_true, if_false, not_true_eq_false, not_false_eq_true, gb_ne0, gb_eq0]
    · simp (disch := first | assumption | exact gb_01 _ | omega) only [r_X_piece_0, r_X_piece_1, r_X_piece_2, r_X_piece_5, r_X_piece_8, r_X_piece_9, r_X_piece_10, r_X_piece_11, r_X_piece_14, r_X_piece_17, r_X_piece_18, r_X_piece_19, r_X_piece_20, r_X_piece_23, r_X_piece_26, r_X_piece_28, gq_27_0, gq_27_1, gq_27_2, gq_27_3, gq_27_4, gq_27_5, gq_27_6, gq_28_0, gq_28_1, gq_28_2, gq_28_3, gq_28_4, gq_28_5, gq_28_6, w32_gb, w32i, tn_add, tn_mul, Int.toNat_natCast, Int.toNat_zero, Int.reduceLE, Int.reduceLT, Int.reduceEq, Int.reduceNe, gb_T, gb_F, Int.reduceToNat, eq_self, true_or, or_true, and_true, true_and, and_self, ↓ite_gb0, ↓ite_gbn, ↓if_pos, ↓if_neg, if_true, if_false, not_true_eq_false, not_false_eq_true, gb_ne0, gb_eq0]
  · simp (disch := first | assumption | exact gb_01 _ | omega) only [r_X_piece_0, r_X_piece_1, r_X_piece_2, r_X_piece_5, r_X_piece_8, r_X_piece_9, r_X_piece_10, r_X_piece_11, r_X_piece_14, r_X_piece_17, r_X_piece_18, r_X_piece_19, r_X_piece_20, r_X_piece_23, r_X_piece_26, r_X_piece_28, gq_27_0, gq_27_1, gq_27_2, gq_27_3, gq_27_4, gq_27_5, gq_27_6, gq_28_0, gq_28_1, gq_28_2, gq_28_3, gq_28_4, gq_28_5, gq_28_6, w32_gb, w32i, tn_add, tn_mul, Int.toNat_natCast, Int.toNat_zero, Int.reduceLE, Int.reduceLT, Int.reduceEq, Int.reduceNe, gb_T, gb_F, Int.reduceToNat, eq_self, true_or, or_true, and_true, true_and, and_self, ↓ite_gb0, ↓ite_gbn, ↓if_pos, ↓if_neg, if_true, if_false, not_true_eq_false, not_false_eq_true, gb_ne0, gb_eq0]
theorem r_M_piece_0 : Wp L d k_M_piece 0 [vR b0, l1, l2, l3, l4] [] σ Q ↔ Wp L d k_M_piece 1 [vR b0, l1, l2, l3, l4] [vR b0] σ Q := wp_aload rfl rfl
theorem r_M_piece_1 : Wp L d k_M_piece 1 [l0, vI a1, l2, l3, l4] [vR c0] σ Q ↔ Wp L d k_M_piece 2 [l0, vI a1, l2, l3, l4] [vI a1, vR c0] σ Q := wp_iload rfl rfl
theorem r_M_piece_5 : Wp L d k_M_piece 5 [l0, l1, l2, l3, l4] [vI s0] σ Q ↔ (if s0 = 0 then Wp L d k_M_piece 30 [l0, l1, l2, l3, l4] [] σ Q else Wp L d k_M_piece 8 [l0, l1, l2, l3, l4] [] σ Q) := wp_if_eq rfl
theorem r_M_piece_8 : Wp L d k_M_piece 8 [l0, l1, vI a2, l3, l4] [] σ Q ↔ Wp L d k_M_piece 9 [l0, l1, vI a2, l3, l4] [vI a2] σ Q := wp_iload rfl rfl
theorem r_M_piece_9 : Wp L d k_M_piece 9 [l0, l1, l2, l3, l4] [vI s0] σ Q ↔ Wp L d k_M_piece 10 [l0, l1, l2, l3, l4] [vL s0] σ Q := wp_i2l rfl
theorem r_M_piece_10 : Wp L d k_M_piece 10 [l0, l1, l2, l3, l4] [vL s0] σ Q ↔ Wp L d k_M_piece 11 [l0, l1, l2, l3, l4] [vL 0, vL s0] σ Q := wp_pushL rfl
theorem r_M_piece_11 : Wp L d k_M_piece 11 [l0, l1, l2, l3, l4] [vL s1, vL s0] σ Q ↔ Wp L d k_M_piece 14 [l0, l1, l2, l3, l4] [vL 5, vL s1, vL s0] σ Q := wp_pushL rfl
theorem r_M_piece_17 : Wp L d k_M_piece 17 [l0, l1, l2, l3, l4] [vI s0] σ Q ↔ (if s0 = 0 then Wp L d k_M_piece 30 [l0, l1, l2, l3, l4] [] σ Q else Wp L d k_M_piece 20 [l0, l1, l2, l3, l4] [] σ Q) := wp_if_eq rfl
theorem r_M_piece_20 : Wp L d k_M_piece 20 [l0, l1, l2, vI a3, l4] [] σ Q ↔ Wp L d k_M_piece 21 [l0, l1, l2, vI a3, l4] [vI a3] σ Q := wp_iload rfl rfl
theorem r_M_piece_21 : Wp L d k_M_piece 21 [l0, l1, l2, l3, l4] [vI s0] σ Q ↔ Wp L d k_M_piece 22 [l0, l1, l2, l3, l4] [vL s0] σ Q := wp_i2l rfl
theorem r_M_piece_22 : Wp L d k_M_piece 22 [l0, l1, l2, l3, l4] [vL s0] σ Q ↔ Wp L d k_M_piece 23 [l0, l1, l2, l3, l4] [vL 0, vL s0] σ Q := wp_pushL rfl
theorem r_M_piece_23 : Wp L d k_M_piece 23 [l0, l1, l2, l3, l4] [vL s1, vL s0] σ Q ↔ Wp L d k_M_piece 24 [l0, l1, l2, l3, l4] [vL 1, vL s1, vL s0] σ Q := wp_pushL rfl
theorem r_M_piece_27 : Wp L d k_M_piece 27 [l0, l1, l2, l3, l4] [vI s0] σ Q ↔ (if s0 ≠ 0 then Wp L d k_M_piece 33 [l0, l1, l2, l3, l4] [] σ Q else Wp L d k_M_piece 30 [l0, l1, l2, l3, l4] [] σ Q) := wp_if_ne rfl
theorem r_M_piece_30 : Wp L d k_M_piece 30 [l0, l1, l2, l3, l4] [] σ Q ↔ Wp L d k_M_piece 32 [l0, l1, l2, l3, l4] [vI (-1000000001)] σ Q := wp_push rfl
theorem r_M_piece_32 : Wp L d k_M_piece 32 [l0, l1, l2, l3, l4] [vI s0] σ Q ↔ Q (some (vI s0)) σ := wp_iret rfl
theorem r_M_piece_33 : Wp L d k_M_piece 33 [vR b0, l1, l2, l3, l4] [] σ Q ↔ Wp L d k_M_piece 34 [vR b0, l1, l2, l3, l4] [vR b0] σ Q := wp_aload rfl rfl
theorem r_M_piece_34 (h : gK c0 = 12) : Wp L d k_M_piece 34 [l0, l1, l2, l3, l4] [vR c0] σ Q ↔ Wp L d k_M_piece 37 [l0, l1, l2, l3, l4] [vR (gq c0 0)] σ Q := wp_getR (c := 3200) rfl rfl rfl rfl rfl h
theorem r_M_piece_37 : Wp L d k_M_piece 37 [l0, l1, l2, l3, l4] [vR c0] σ Q ↔ Wp L d k_M_piece 38 [l0, l1, l2, l3, l4] [vI 1, vR c0] σ Q := wp_push rfl
theorem r_M_piece_38 (h : gK c0 = 100) (hx : 0 ≤ s1 ∧ s1 < gN c0) : Wp L d k_M_piece 38 [l0, l1, l2, l3, l4] [vI s1, vR c0] σ Q ↔ Wp L d k_M_piece 39 [l0, l1, l2, l3, l4] [vI (σ c0 s1.toNat)] σ Q := wp_iald rfl h hx
theorem r_M_piece_39 : Wp L d k_M_piece 39 [l0, l1, l2, l3, l4] [vI s0] σ Q ↔ Wp L d k_M_piece 41 [l0, l1, l2, l3, l4] [vI 40, vI s0] σ Q := wp_push rfl
theorem r_M_piece_41 : Wp L d k_M_piece 41 [l0, l1, l2, l3, l4] [vI s1, vI s0] σ Q ↔ (if s0 ≠ s1 then Wp L d k_M_piece 47 [l0, l1, l2, l3, l4] [] σ Q else Wp L d k_M_piece 44 [l0, l1, l2, l3, l4] [] σ Q) := wp_cmp_ne rfl
theorem r_M_piece_44 : Wp L d k_M_piece 44 [l0, l1, l2, l3, l4] [] σ Q ↔ Wp L d k_M_piece 46 [l0, l1, l2, l3, l4] [vI (-1000000003)] σ Q := wp_push rfl
theorem r_M_piece_46 : Wp L d k_M_piece 46 [l0, l1, l2, l3, l4] [vI s0] σ Q ↔ Q (some (vI s0)) σ := wp_iret rfl
theorem r_M_piece_47 : Wp L d k_M_piece 47 [vR b0, l1, l2, l3, l4] [] σ Q ↔ Wp L d k_M_piece 48 [vR b0, l1, l2, l3, l4] [vR b0] σ Q := wp_aload rfl rfl
theorem r_M_piece_48 : Wp L d k_M_piece 48 [l0, l1, l2, l3, l4] [vR c0] σ Q ↔ Wp L d k_M_piece 49 [l0, l1, l2, l3, l4] [vI 4, vR c0] σ Q := wp_push rfl
theorem r_M_piece_49 : Wp L d k_M_piece 49 [l0, vI a1, l2, l3, l4] [vI s1, vR c0] σ Q ↔ Wp L d k_M_piece 50 [l0, vI a1, l2, l3, l4] [vI a1, vI s1, vR c0] σ Q := wp_iload rfl rfl
theorem r_M_piece_50 : Wp L d k_M_piece 50 [l0, l1, l2, l3, l4] [vI s2, vI s1, vR c0] σ Q ↔ Wp L d k_M_piece 51 [l0, l1, l2, l3, l4] [vI 1, vI s2, vI s1, vR c0] σ Q := wp_push rfl
theorem r_M_piece_51 : Wp L d k_M_piece 51 [l0, l1, l2, l3, l4] [vI s3, vI s2, vI s1, vR c0] σ Q ↔ Wp L d k_M_piece 52 [l0, l1, l2, l3, l4] [vI 1, vI s3, vI s2, vI s1, vR c0] σ Q := wp_push rfl
theorem r_M_piece_52 : Wp L d k_M_piece 52 [l0, l1, l2, l3, l4] [vI s4, vI s3, vI s2, vI s1, vR c0] σ Q ↔ Wp L d k_M_piece 53 [l0, l1, l2, l3, l4] [vI 0, vI s4, vI s3, vI s2, vI s1, vR c0] σ Q := wp_push rfl
theorem c_M_piece_53 (hR : Run L d 205 [vR c0, vI s1, vI s2, vI s3, vI s4, vI s5] σ r σ1) (h : gK c0 = 12) : Wp L (d + 1) k_M_piece 53 [l0, l1, l2, l3, l4] [vI s5, vI s4, vI s3, vI s2, vI s1, vR c0] σ Q ↔ Wp L (d + 1) k_M_piece 56 [l0, l1, l2, l3, l4] (r.toList ++ []) σ1 Q := wp_callR (as := [vR c0, vI s1, vI s2, vI s3, vI s4, vI s5]) (rest := []) rfl rfl rfl rfl rfl rfl rfl (grecv_k (by rw [h]) rfl) hR
theorem r_M_piece_56 : Wp L d k_M_piece 56 [l0, l1, l2, vI a3, l4] [vI s0] σ Q ↔ Wp L d k_M_piece 58 [l0, l1, l2, vI a3, vI s0] [] σ Q := wp_istore (i := 4) (ls := [l0, l1, l2, vI a3, l4]) rfl rfl
theorem r_M_piece_58 : Wp L d k_M_piece 58 [vR b0, l1, l2, l3, l4] [] σ Q ↔ Wp L d k_M_piece 59 [vR b0, l1, l2, l3, l4] [vR b0] σ Q := wp_aload rfl rfl
theorem r_M_piece_59 (h : gK c0 = 12) : Wp L d k_M_piece 59 [l0, l1, l2, l3, l4] [vR c0] σ Q ↔ Wp L d k_M_piece 62 [l0, l1, l2, l3, l4] [vR (gq c0 0)] σ Q := wp_getR (c := 3200) rfl rfl rfl rfl rfl h
theorem r_M_piece_62 : Wp L d k_M_piece 62 [vR b0, l1, l2, l3, l4] [vR c0] σ Q ↔ Wp L d k_M_piece 63 [vR b0, l1, l2, l3, l4] [vR b0, vR c0] σ Q := wp_aload rfl rfl
theorem r_M_piece_63 : Wp L d k_M_piece 63 [l0, l1, l2, l3, vI a4] [vR c1, vR c0] σ Q ↔ Wp L d k_M_piece 65 [l0, l1, l2, l3, vI a4] [vI a4, vR c1, vR c0] σ Q := wp_iload rfl rfl
theorem r_M_piece_68 : Wp L d k_M_piece 68 [l0, l1, l2, l3, l4] [vI s1, vR c0] σ Q ↔ Wp L d k_M_piece 70 [l0, l1, l2, l3, l4] [vI 9, vI s1, vR c0] σ Q := wp_push rfl
theorem r_M_piece_70 : Wp L d k_M_piece 70 [l0, l1, l2, l3, l4] [vI s2, vI s1, vR c0] σ Q ↔ Wp L d k_M_piece 71 [l0, l1, l2, l3, l4] [vI (w32 (s1 + s2)), vR c0] σ Q := wp_iadd rfl
theorem r_M_piece_71 : Wp L d k_M_piece 71 [l0, l1, vI a2, l3, l4] [vI s1, vR c0] σ Q ↔ Wp L d k_M_piece 72 [l0, l1, vI a2, l3, l4] [vI a2, vI s1, vR c0] σ Q := wp_iload rfl rfl
theorem r_M_piece_72 (h : gK c0 = 100) (hx : 0 ≤ s1 ∧ s1 < gN c0) : Wp L d k_M_piece 72 [l0, l1, l2, l3, l4] [vI s2, vI s1, vR c0] σ Q ↔ Wp L d k_M_piece 73 [l0, l1, l2, l3, l4] [] (gupd σ c0 s1.toNat s2) Q := wp_iast rfl h hx
theorem r_M_piece_73 : Wp L d k_M_piece 73 [vR b0, l1, l2, l3, l4] [] σ Q ↔ Wp L d k_M_piece 74 [vR b0, l1, l2, l3, l4] [vR b0] σ Q := wp_aload rfl rfl
theorem r_M_piece_74 (h : gK c0 = 12) : Wp L d k_M_piece 74 [l0, l1, l2, l3, l4] [vR c0] σ Q ↔ Wp L d k_M_piece 77 [l0, l1, l2, l3, l4] [vR (gq c0 0)] σ Q := wp_getR (c := 3200) rfl rfl rfl rfl rfl h
theorem r_M_piece_77 : Wp L d k_M_piece 77 [vR b0, l1, l2, l3, l4] [vR c0] σ Q ↔ Wp L d k_M_piece 78 [vR b0, l1, l2, l3, l4] [vR b0, vR c0] σ Q := wp_aload rfl rfl
theorem r_M_piece_78 : Wp L d k_M_piece 78 [l0, l1, l2, l3, vI a4] [vR c1, vR c0] σ Q ↔ Wp L d k_M_piece 80 [l0, l1, l2, l3, vI a4] [vI a4, vR c1, vR c0] σ Q := wp_iload rfl rfl
theorem r_M_piece_83 : Wp L d k_M_piece 83 [l0, l1, l2, l3, l4] [vI s1, vR c0] σ Q ↔ Wp L d k_M_piece 85 [l0, l1, l2, l3, l4] [vI 10, vI s1, vR c0] σ Q := wp_push rfl
theorem r_M_piece_85 : Wp L d k_M_piece 85 [l0, l1, l2, l3, l4] [vI s2, vI s1, vR c0] σ Q ↔ Wp L d k_M_piece 86 [l0, l1, l2, l3, l4] [vI (w32 (s1 + s2)), vR c0] σ Q := wp_iadd rfl
theorem r_M_piece_86 : Wp L d k_M_piece 86 [l0, l1, l2, vI a3, l4] [vI s1, vR c0] σ Q ↔ Wp L d k_M_piece 87 [l0, l1, l2, vI a3, l4] [vI a3, vI s1, vR c0] σ Q := wp_iload rfl rfl
theorem r_M_piece_87 (h : gK c0 = 100) (hx : 0 ≤ s1 ∧ s1 < gN c0) : Wp L d k_M_piece 87 [l0, l1, l2, l3, l4] [vI s2, vI s1, vR c0] σ Q ↔ Wp L d k_M_piece 88 [l0, l1, l2, l3, l4] [] (gupd σ c0 s1.toNat s2) Q := wp_iast rfl h hx
theorem r_M_piece_88 : Wp L d k_M_piece 88 [l0, l1, l2, l3, vI a4] [] σ Q ↔ Wp L d k_M_piece 90 [l0, l1, l2, l3, vI a4] [vI a4] σ Q := wp_iload rfl rfl
theorem r_M_piece_90 : Wp L d k_M_piece 90 [l0, l1, l2, l3, l4] [vI s0] σ Q ↔ Q (some (vI s0)) σ := wp_iret rfl
theorem r_M_piece_2 : Wp L (d + 2) k_M_piece 2 [l0, l1, l2, l3, l4] [vI s1, vR 293] σ Q ↔ Wp L (d + 2) k_M_piece 5 [l0, l1, l2, l3, l4] [vI (gb (0 ≤ s1 ∧ s1 ≤ σ 294 0))] σ Q := wp_callR (d := d + 1) (as := [vR 293, vI s1]) (rest := []) rfl rfl rfl rfl rfl rfl rfl (grecv_k (by rw [gK_293]) rfl) (sp_M_isPier)
theorem r_M_piece_14 : Wp L (d + 2) k_M_piece 14 [l0, l1, l2, l3, l4] [vL s2, vL s1, vL s0] σ Q ↔ Wp L (d + 2) k_M_piece 17 [l0, l1, l2, l3, l4] [vI (gb (s1 ≤ s0 ∧ s0 ≤ s2))] σ Q := wp_callR (d := d + 1) (as := [vL s0, vL s1, vL s2]) (rest := []) rfl rfl rfl rfl rfl rfl rfl rfl (sp_M_isIn)
theorem r_M_piece_24 : Wp L (d + 2) k_M_piece 24 [l0, l1, l2, l3, l4] [vL s2, vL s1, vL s0] σ Q ↔ Wp L (d + 2) k_M_piece 27 [l0, l1, l2, l3, l4] [vI (gb (s1 ≤ s0 ∧ s0 ≤ s2))] σ Q := wp_callR (d := d + 1) (as := [vL s0, vL s1, vL s2]) (rest := []) rfl rfl rfl rfl rfl rfl rfl rfl (sp_M_isIn)
theorem r_M_piece_65 : Wp L (d + 2) k_M_piece 65 [l0, l1, l2, l3, l4] [vI s2, vR 293, vR c0] σ Q ↔ Wp L (d + 2) k_M_piece 68 [l0, l1, l2, l3, l4] [vI (w32 (120 + w32 (12 * s2))), vR c0] σ Q := wp_callR (d := d + 1) (as := [vR 293, vI s2]) (rest := [vR c0]) rfl rfl rfl rfl rfl rfl rfl (grecv_k (by rw [gK_293]) rfl) (sp_M_partAt)
theorem r_M_piece_80 : Wp L (d + 2) k_M_piece 80 [l0, l1, l2, l3, l4] [vI s2, vR 293, vR c0] σ Q ↔ Wp L (d + 2) k_M_piece 83 [l0, l1, l2, l3, l4] [vI (w32 (120 + w32 (12 * s2))), vR c0] σ Q := wp_callR (d := d + 1) (as := [vR 293, vI s2]) (rest := [vR c0]) rfl rfl rfl rfl rfl rfl rfl (grecv_k (by rw [gK_293]) rfl) (sp_M_partAt)
theorem sp_M_piece_b (h : ¬ ((0 ≤ a1 ∧ a1 ≤ σ 294 0) ∧ (0 ≤ a2 ∧ a2 ≤ 5) ∧ 0 ≤ a3 ∧ a3 ≤ 1)) : Run L (d + 2) 207 [vR 293, vI a1, vI a2, vI a3] σ (some (vI (-1000000001))) σ := by
  refine Run_of (C' := k_M_piece) rfl ?_
  show Wp L (d + 2) k_M_piece 0 [vR 293, vI a1, vI a2, vI a3, vU] [] σ _
  obtain ⟨K293, Q293, K294, N294⟩ := litM
  by_cases e1 : 0 ≤ a1 ∧ a1 ≤ σ 294 0
  · by_cases e2 : 0 ≤ a2 ∧ a2 ≤ 5
    · simp (disch := first | assumption | exact gb_01 _ | omega) only [r_M_piece_0, r_M_piece_1, r_M_piece_2, r_M_piece_5, r_M_piece_8, r_M_piece_9, r_M_piece_10, r_M_piece_11, r_M_piece_14, r_M_piece_17, r_M_piece_20, r_M_piece_21, r_M_piece_22, r_M_piece_23, r_M_piece_24, r_M_piece_27, r_M_piece_30, r_M_piece_32, Q293, w32_gb, w32i, tn_add, tn_mul, Int.toNat_natCast, Int.toNat_zero, Int.reduceLE, Int.reduceLT, Int.reduceEq, Int.reduceNe, gb_T, gb_F, Int.reduceToNat, eq_self, true_or, or_true, and_true, true_and, and_self, ↓ite_gb0, ↓ite_gbn, ↓if_pos, ↓if_neg, if_true, if_false, not_true_eq_false, not_false_eq_true, gb_ne0, gb_eq0]
    · simp (disch := first | assumption | exact gb_01 _ | omega) only [r_M_piece_0, r_M_piece_1, r_M_piece_2, r_M_piece_5, r_M_piece_8, r_M_piece_9, r_M_piece_10, r_M_piece_11, r_M_piece_14, r_M_piece_17, r_M_piece_20, r_M_piece_21, r_M_piece_22, r_M_piece_23, r_M_piece_24, r_M_piece_27, r_M_piece_30, r_M_piece_32, Q293, w32_gb, w32i, tn_add, tn_mul, Int.toNat_natCast, Int.toNat_zero, Int.reduceLE, Int.reduceLT, Int.reduceEq, Int.reduceNe, gb_T, gb_F, Int.reduceToNat, eq_self, true_or, or_true, and_true, true_and, and_self, ↓ite_gb0, ↓ite_gbn, ↓if_pos, ↓if_neg, if_true, if_false, not_true_eq_false, not_false_eq_true, gb_ne0, gb_eq0]
  · simp (disch := first | assumption | exact gb_01 _ | omega) only [r_M_piece_0, r_M_piece_1, r_M_piece_2, r_M_piece_5, r_M_piece_8, r_M_piece_9, r_M_piece_10, r_M_piece_11, r_M_piece_14, r_M_piece_17, r_M_piece_20, r_M_piece_21, r_M_piece_22, r_M_piece_23, r_M_piece_24, r_M_piece_27, r_M_piece_30, r_M_piece_32, Q293, w32_gb, w32i, tn_add, tn_mul, Int.toNat_natCast, Int.toNat_zero, Int.reduceLE, Int.reduceLT, Int.reduceEq, Int.reduceNe, gb_T, gb_F, Int.reduceToNat, eq_self, true_or, or_true, and_true, true_and, and_self, ↓ite_gb0, ↓ite_gbn, ↓if_pos, ↓if_neg, if_true, if_false, not_true_eq_false, not_false_eq_true, gb_ne0, gb_eq0]
theorem sp_X_piece_f (h : (0 ≤ a1 ∧ a1 ≤ σ 29 8) ∧ (0 ≤ a2 ∧ a2 ≤ 5) ∧ 0 ≤ a3 ∧ a3 ≤ 1) (hf : 40 ≤ σ 29 9) : Run L (d + 2) 23 [vR 27, vI a1, vI a2, vI a3] σ (some (vI (-1000000003))) σ := by
  refine Run_of (C' := k_X_piece) rfl ?_
  show Wp L (d + 2) k_X_piece 0 [vR 27, vI a1, vI a2, vI a3, vU] [] σ _
  obtain ⟨K27, K28, K29, K78, K97, K99, K109, K123, K125, K279, K282⟩ := litX
  simp (disch := first | assumption | exact gb_01 _ | omega) only [r_X_piece_0, r_X_piece_1, r_X_piece_2, r_X_piece_5, r_X_piece_8, r_X_piece_9, r_X_piece_10, r_X_piece_11, r_X_piece_14, r_X_piece_17, r_X_piece_18, r_X_piece_19, r_X_piece_20, r_X_piece_23, r_X_piece_26, r_X_piece_28, r_X_piece_29, r_X_piece_30, r_X_piece_33, r_X_piece_36, r_X_piece_38, r_X_piece_41, r_X_piece_43, gq_27_0, gq_27_1, gq_27_2, gq_27_3, gq_27_4, gq_27_5, gq_27_6, gq_28_0, gq_28_1, gq_28_2, gq_28_3, gq_28_4, gq_28_5, gq_28_6, w32_gb, w32i, tn_add, tn_mul, Int.toNat_natCast, Int.toNat_zero, Int.reduceLE, Int.reduceLT, Int.reduceEq, Int.reduceNe, gb_T, gb_F, Int.reduceToNat, eq_self, true_or, or_true, and_true, true_and, and_self, ↓ite_gb0, ↓ite_gbn, ↓if_pos, ↓if_neg, if_true, if_false, not_true_eq_false, not_false_eq_true, gb_ne0, gb_eq0]
theorem sp_M_piece_f (h : (0 ≤ a1 ∧ a1 ≤ σ 294 0) ∧ (0 ≤ a2 ∧ a2 ≤ 5) ∧ 0 ≤ a3 ∧ a3 ≤ 1) (hf : σ 294 1 = 40) : Run L (d + 2) 207 [vR 293, vI a1, vI a2, vI a3] σ (some (vI (-1000000003))) σ := by
  refine Run_of (C' := k_M_piece) rfl ?_
  show Wp L (d + 2) k_M_piece 0 [vR 293, vI a1, vI a2, vI a3, vU] [] σ _
  obtain ⟨K293, Q293, K294, N294⟩ := litM
  simp (disch := first | assumption | exact gb_01 _ | omega) only [r_M_piece_0, r_M_piece_1, r_M_piece_2, r_M_piece_5, r_M_piece_8, r_M_piece_9, r_M_piece_10, r_M_piece_11, r_M_piece_14, r_M_piece_17, r_M_piece_20, r_M_piece_21, r_M_piece_22, r_M_piece_23, r_M_piece_24, r_M_piece_27, r_M_piece_30, r_M_piece_32, r_M_piece_33, r_M_piece_34, r_M_piece_37, r_M_piece_38, r_M_piece_39, r_M_piece_41, r_M_piece_44, r_M_piece_46, Q293, w32_gb, w32i, tn_add, tn_mul, Int.toNat_natCast, Int.toNat_zero, Int.reduceLE, Int.reduceLT, Int.reduceEq, Int.reduceNe, gb_T, gb_F, Int.reduceToNat, eq_self, true_or, or_true, and_true, true_and, and_self, ↓ite_gb0, ↓ite_gbn, ↓if_pos, ↓if_neg, if_true, if_false, not_true_eq_false, not_false_eq_true, gb_ne0, gb_eq0]
theorem sp_X_piece {p : Nat} (h : (0 ≤ a1 ∧ a1 ≤ σ 29 8) ∧ (0 ≤ a2 ∧ a2 ≤ 5) ∧ 0 ≤ a3 ∧ a3 ≤ 1) (hp : σ 29 9 = (p : Int)) (h40 : p < 40) : ∃ σ', Run L (d + 2) 23 [vR 27, vI a1, vI a2, vI a3] σ (some (vI (p : Int))) σ' ∧ ((σ' (38 + p) 0 = 4 ∧ σ' (38 + p) 1 = a1 ∧ σ' (38 + p) 2 = 1 ∧ σ' (38 + p) 3 = 1 ∧ σ' (38 + p) 4 = 0 ∧ σ' (38 + p) 5 = 0 ∧ σ' (38 + p) 6 = 0 ∧ σ' (38 + p) 7 = σ 28 7 ∧ σ' (38 + p) 8 = a2 ∧ σ' (38 + p) 9 = a3 ∧ σ' (38 + p) 10 = 0 ∧ σ' (38 + p) 11 = 0) ∧ σ' 29 9 = (p : Int) + 1) ∧ Agr σ σ' (fun k j => k = 38 + p ∨ (k = 29 ∧ j = 9)) := by
  refine Run_ex (C' := k_X_piece) rfl ?_
  show Wp L (d + 2) k_X_piece 0 [vR 27, vI a1, vI a2, vI a3, vU] [] σ _
  obtain ⟨K27, K28, K29, K78, K97, K99, K109, K123, K125, K279, K282⟩ := litX
  have hB := BR29
  obtain ⟨⟨K0, q0, q1, q2, q3, q4, q5, q6, q7⟩, ⟨K1, K2, K3, K4, K5, K6, K7, K8⟩, ⟨N1, N2, N3, N4, N5, N6, N7, N8⟩, QP, KP⟩ := hB
  have kp := KP p (by omega)
  have q3' : gq 33 p = 38 + p := QP _ (by omega)
  have hp' : (σ 29 9).toNat = p := by omega
  simp only [Nat.reduceAdd] at kp K4 N4
  simp (disch := first | assumption | exact gb_01 _ | omega) only [r_X_piece_0, r_X_piece_1, r_X_piece_2, r_X_piece_5, r_X_piece_8, r_X_piece_9, r_X_piece_10, r_X_piece_11, r_X_piece_14, r_X_piece_17, r_X_piece_18, r_X_piece_19, r_X_piece_20, r_X_piece_23, r_X_piece_26, r_X_piece_28, r_X_piece_29, r_X_piece_30, r_X_piece_33, r_X_piece_36, r_X_piece_38, r_X_piece_41, r_X_piece_43, r_X_piece_44, r_X_piece_45, r_X_piece_48, r_X_piece_51, r_X_piece_52, r_X_piece_55, r_X_piece_58, r_X_piece_59, r_X_piece_61, r_X_piece_63, r_X_piece_64, r_X_piece_65, r_X_piece_66, r_X_piece_67, r_X_piece_70, r_X_piece_72, r_X_piece_73, r_X_piece_74, r_X_piece_77, r_X_piece_80, r_X_piece_83, r_X_piece_85, r_X_piece_86, r_X_piece_89, r_X_piece_91, r_X_piece_92, r_X_piece_95, r_X_piece_96, r_X_piece_99, r_X_piece_100, r_X_piece_103, r_X_piece_104, r_X_piece_105, r_X_piece_106, r_X_piece_109, gq_27_0, gq_27_1, gq_27_2, gq_27_3, gq_27_4, gq_27_5, gq_27_6, gq_28_0, gq_28_1, gq_28_2, gq_28_3, gq_28_4, gq_28_5, gq_28_6, gq_29_3, q3', hp', hp, gupd_ne, w32_gb, w32i, tn_add, tn_mul, Int.toNat_natCast, Int.toNat_zero, Int.reduceLE, Int.reduceLT, Int.reduceEq, Int.reduceNe, gb_T, gb_F, Int.reduceToNat, eq_self, true_or, or_true, and_true, true_and, and_self, ↓ite_gb0, ↓ite_gbn, ↓if_pos, ↓if_neg, if_true, if_false, not_true_eq_false, not_false_eq_true, gb_ne0, gb_eq0]
  refine ⟨?_, fun k j hn => by simp (disch := omega) only [gupd_ne]⟩
  simp (disch := omega) only [gupd_ne, gupd_eq, and_self]
theorem sp_M_piece {p : Nat} (h : (0 ≤ a1 ∧ a1 ≤ σ 294 0) ∧ (0 ≤ a2 ∧ a2 ≤ 5) ∧ 0 ≤ a3 ∧ a3 ≤ 1) (hp : σ 294 1 = (p : Int)) (h40 : p < 40) : ∃ σ', Run L (d + 2) 207 [vR 293, vI a1, vI a2, vI a3] σ (some (vI (p : Int))) σ' ∧ ((σ' 294 (120 + 12 * p + 0) = 4 ∧ σ' 294 (120 + 12 * p + 1) = a1 ∧ σ' 294 (120 + 12 * p + 2) = 1 ∧ σ' 294 (120 + 12 * p + 3) = 1 ∧ σ' 294 (120 + 12 * p + 4) = 0 ∧ σ' 294 (120 + 12 * p + 5) = 0 ∧ σ' 294 (120 + 12 * p + 6) = 0 ∧ σ' 294 (120 + 12 * p + 7) = σ 294 7 ∧ σ' 294 (120 + 12 * p + 8) = 0 ∧ σ' 294 (120 + 12 * p + 9) = a2 ∧ σ' 294 (120 + 12 * p + 10) = a3 ∧ σ' 294 (120 + 12 * p + 11) = 0) ∧ σ' 294 1 = (p : Int) + 1) ∧ Agr σ σ' (fun k j => k = 294 ∧ (j = 1 ∨ 120 + 12 * p ≤ j ∧ j < 120 + 12 * p + 12)) := by
  refine Run_ex (C' := k_M_piece) rfl ?_
  show Wp L (d + 2) k_M_piece 0 [vR 293, vI a1, vI a2, vI a3, vU] [] σ _
  obtain ⟨K293, Q293, K294, N294⟩ := litM
  obtain ⟨τ, hR, ⟨y0, y1, y2, y3, y4, y5, y6, y7, y8, y9, y10, y11, y12⟩, hA⟩ := sp_M_newPart (L := L) (d := d + 0) (σ := σ) (a1 := 4) (a2 := a1) (a3 := 1) (a4 := 1) (a5 := 0) hp h40
  rw [gb_f (by omega)] at y8
  simp (disch := first | assumption | exact gb_01 _ | omega) only [r_M_piece_0, r_M_piece_1, r_M_piece_2, r_M_piece_5, r_M_piece_8, r_M_piece_9, r_M_piece_10, r_M_piece_11, r_M_piece_14, r_M_piece_17, r_M_piece_20, r_M_piece_21, r_M_piece_22, r_M_piece_23, r_M_piece_24, r_M_piece_27, r_M_piece_30, r_M_piece_32, r_M_piece_33, r_M_piece_34, r_M_piece_37, r_M_piece_38, r_M_piece_39, r_M_piece_41, r_M_piece_44, r_M_piece_46, r_M_piece_47, r_M_piece_48, r_M_piece_49, r_M_piece_50, r_M_piece_51, r_M_piece_52, r_M_piece_56, r_M_piece_58, r_M_piece_59, r_M_piece_62, r_M_piece_63, r_M_piece_65, r_M_piece_68, r_M_piece_70, r_M_piece_71, r_M_piece_72, r_M_piece_73, r_M_piece_74, r_M_piece_77, r_M_piece_78, r_M_piece_80, r_M_piece_83, r_M_piece_85, r_M_piece_86, r_M_piece_87, r_M_piece_88, r_M_piece_90, c_M_piece_53 hR, Option.toList, List.singleton_append, List.cons_append, List.nil_append, List.append_nil, Q293, hp, w32_gb, w32i, tn_add, tn_mul, Int.toNat_natCast, Int.toNat_zero, Int.reduceLE, Int.reduceLT, Int.reduceEq, Int.reduceNe, gb_T, gb_F, Int.reduceToNat, eq_self, true_or, or_true, and_true, true_and, and_self, ↓ite_gb0, ↓ite_gbn, ↓if_pos, ↓if_neg, if_true, if_false, not_true_eq_false, not_false_eq_true, gb_ne0, gb_eq0]
  refine ⟨?_, fun k j hn => ?_⟩
  · simp (disch := omega) only [gupd_ne, gupd_eq, y0, y1, y2, y3, y4, y5, y6, y7, y8, y9, y10, y11, y12, and_self]
  · simp (disch := omega) only [gupd_ne]
    exact hA k j (by omega)
theorem op_piece (a1 a2 a3 : Int) : Op 23 207 [vI a1, vI a2, vI a3] := by
  intro L d σ hI
  obtain ⟨hw, hc⟩ := iB hI
  have w1 := hw.1
  have w2 := hw.2.1
  have c1 := hc.1
  have c2 := hc.2.1
  have hp : w32 (σ 29 9 - 1) = σ 29 9 - 1 := w32i (by omega)
  have hm : w32 (σ 294 1 - 1) = σ 294 1 - 1 := w32i (by omega)
  
  have M1 := (iM hI).1.1
  have m7 := (iM hI).2.1
  
  by_cases h : (0 ≤ a1 ∧ a1 ≤ σ 29 8) ∧ (0 ≤ a2 ∧ a2 ≤ 5) ∧ 0 ≤ a3 ∧ a3 ≤ 1
  · by_cases hf : 40 ≤ σ 29 9
    · exact ⟨_, _, _, sp_X_piece_f h hf, sp_M_piece_f (by omega) (by omega), hI⟩
    · obtain ⟨p, hpp⟩ := Int.eq_ofNat_of_zero_le (show 0 ≤ σ 29 9 by omega)
      obtain ⟨σ1, hR1, ⟨⟨x0, x1, x2, x3, x4, x5, x6, x7, x8, xx9, x10, x11⟩, x9⟩, hA1⟩ := sp_X_piece (L := L) (d := d + 998) (p := p) (a1 := a1) (a2 := a2) (a3 := a3) h hpp (by omega)
      have e0 := hA1 294 0 (by omega)
      have e1 := hA1 294 1 (by omega)
      obtain ⟨σ2, hR2, ⟨⟨y0, y1, y2, y3, y4, y5, y6, y7, y8, y9, y10, y11⟩, y1'⟩, hA2⟩ := sp_M_piece (L := L) (d := d + 998) (σ := σ1) (p := p) (a1 := a1) (a2 := a2) (a3 := a3) (by omega) (by omega) (by omega)
      have hA : Agr σ σ2 (fun k j => k = 38 + p ∨ (k = 29 ∧ j = 9) ∨ (k = 294 ∧ (j = 1 ∨ 120 + 12 * p ≤ j ∧ j < 120 + 12 * p + 12))) := Agr_trans (Agr_mono hA1 (fun k j hk => by omega)) (Agr_mono hA2 (fun k j hk => by omega))
      have e7 := hA1 294 7 (by omega)
      have k9 : σ2 29 9 = (p : Int) + 1 := by rw [hA2 29 9 (by omega)]; exact x9
      have cl : ∀ j, σ2 (38 + p) j = σ1 (38 + p) j := fun j => hA2 _ _ (by omega)
      refine ⟨_, _, _, hR1, hR2, part_new hI (by omega) (by omega) hA y1' k9 ?_ ?_⟩
      · unfold WPart gpt
        rw [y0, y1, y2, y3, y4, y5, y6, y7, y8, y9, y10, y11]
        omega
      · unfold CPart gpt
        rw [y0, y1, y2, y3, y4, y5, y6, y7, y8, y9, y10, y11, cl 0, cl 1, cl 2, cl 3, cl 4, cl 5, cl 6, cl 7, cl 8, cl 9, cl 10, cl 11, x0, x1, x2, x3, x4, x5, x6, x7, x8, xx9, x10, x11]
        omega
  · exact ⟨_, _, _, sp_X_piece_b h, sp_M_piece_b (by omega), hI⟩
theorem litW : gK 292 = 100 ∧ ((gN 292 : Nat) : Int) = 60 ∧ gq 293 26 = 307 ∧ gK 307 = 100 ∧ ((gN 307 : Nat) : Int) = 60 := by decide +kernel
theorem r_X_tell_0 : Wp L d k_X_tell 0 [vR b0, l1] [] σ Q ↔ Wp L d k_X_tell 1 [vR b0, l1] [vR b0] σ Q := wp_aload rfl rfl
theorem r_X_tell_1 (h : gK c0 = 0) : Wp L d k_X_tell 1 [l0, l1] [vR c0] σ Q ↔ Wp L d k_X_tell 4 [l0, l1] [vI (σ c0 7)] σ Q := wp_getI (c := 7) rfl rfl rfl rfl h
theorem r_X_tell_4 : Wp L d k_X_tell 4 [l0, l1] [vI s0] σ Q ↔ Wp L d k_X_tell 6 [l0, l1] [vI 60, vI s0] σ Q := wp_push rfl
theorem r_X_tell_6 : Wp L d k_X_tell 6 [l0, l1] [vI s1, vI s0] σ Q ↔ (if s0 < s1 then Wp L d k_X_tell 12 [l0, l1] [] σ Q else Wp L d k_X_tell 9 [l0, l1] [] σ Q) := wp_cmp_lt rfl
theorem r_X_tell_9 : Wp L d k_X_tell 9 [l0, l1] [] σ Q ↔ Wp L d k_X_tell 11 [l0, l1] [vI (-1000000003)] σ Q := wp_push rfl
theorem r_X_tell_11 : Wp L d k_X_tell 11 [l0, l1] [vI s0] σ Q ↔ Q (some (vI s0)) σ := wp_iret rfl
theorem r_X_tell_12 : Wp L d k_X_tell 12 [vR b0, l1] [] σ Q ↔ Wp L d k_X_tell 13 [vR b0, l1] [vR b0] σ Q := wp_aload rfl rfl
theorem r_X_tell_13 (h : gK c0 = 0) : Wp L d k_X_tell 13 [l0, l1] [vR c0] σ Q ↔ Wp L d k_X_tell 16 [l0, l1] [vR (gq c0 6)] σ Q := wp_getR (c := 134) rfl rfl rfl rfl rfl h
theorem r_X_tell_16 : Wp L d k_X_tell 16 [vR b0, l1] [vR c0] σ Q ↔ Wp L d k_X_tell 17 [vR b0, l1] [vR b0, vR c0] σ Q := wp_aload rfl rfl
theorem r_X_tell_17 (h : gK c1 = 0) : Wp L d k_X_tell 17 [l0, l1] [vR c1, vR c0] σ Q ↔ Wp L d k_X_tell 20 [l0, l1] [vI (σ c1 7), vR c0] σ Q := wp_getI (c := 7) rfl rfl rfl rfl h
theorem r_X_tell_20 : Wp L d k_X_tell 20 [l0, vI a1] [vI s1, vR c0] σ Q ↔ Wp L d k_X_tell 21 [l0, vI a1] [vI a1, vI s1, vR c0] σ Q := wp_iload rfl rfl
theorem r_X_tell_21 (h : gK c0 = 100) (hx : 0 ≤ s1 ∧ s1 < gN c0) : Wp L d k_X_tell 21 [l0, l1] [vI s2, vI s1, vR c0] σ Q ↔ Wp L d k_X_tell 22 [l0, l1] [] (gupd σ c0 s1.toNat s2) Q := wp_iast rfl h hx
theorem r_X_tell_22 : Wp L d k_X_tell 22 [vR b0, l1] [] σ Q ↔ Wp L d k_X_tell 23 [vR b0, l1] [vR b0] σ Q := wp_aload rfl rfl
theorem r_X_tell_23 : Wp L d k_X_tell 23 [l0, l1] [vR c0] σ Q ↔ Wp L d k_X_tell 24 [l0, l1] [vR c0, vR c0] σ Q := wp_dupR rfl
theorem r_X_tell_24 (h : gK c1 = 0) : Wp L d k_X_tell 24 [l0, l1] [vR c1, vR c0] σ Q ↔ Wp L d k_X_tell 27 [l0, l1] [vI (σ c1 7), vR c0] σ Q := wp_getI (c := 7) rfl rfl rfl rfl h
theorem r_X_tell_27 : Wp L d k_X_tell 27 [l0, l1] [vI s1, vR c0] σ Q ↔ Wp L d k_X_tell 28 [l0, l1] [vI 1, vI s1, vR c0] σ Q := wp_push rfl
theorem r_X_tell_28 : Wp L d k_X_tell 28 [l0, l1] [vI s2, vI s1, vR c0] σ Q ↔ Wp L d k_X_tell 29 [l0, l1] [vI (w32 (s1 + s2)), vR c0] σ Q := wp_iadd rfl
theorem r_X_tell_29 (h : gK c0 = 0) : Wp L d k_X_tell 29 [l0, l1] [vI s1, vR c0] σ Q ↔ Wp L d k_X_tell 32 [l0, l1] [] (gupd σ c0 7 s1) Q := wp_putI (c := 7) rfl rfl rfl rfl h
theorem r_X_tell_32 : Wp L d k_X_tell 32 [vR b0, l1] [] σ Q ↔ Wp L d k_X_tell 33 [vR b0, l1] [vR b0] σ Q := wp_aload rfl rfl
theorem r_X_tell_33 (h : gK c0 = 0) : Wp L d k_X_tell 33 [l0, l1] [vR c0] σ Q ↔ Wp L d k_X_tell 36 [l0, l1] [vI (σ c0 7)] σ Q := wp_getI (c := 7) rfl rfl rfl rfl h
theorem r_X_tell_36 : Wp L d k_X_tell 36 [l0, l1] [vI s0] σ Q ↔ Q (some (vI s0)) σ := wp_iret rfl
theorem sp_X_tell_f (h : 60 ≤ σ 27 7) : Run L d 82 [vR 27, vI a1] σ (some (vI (-1000000003))) σ := by
  refine Run_of (C' := k_X_tell) rfl ?_
  show Wp L d k_X_tell 0 [vR 27, vI a1] [] σ _
  obtain ⟨K27, K28, K29, K78, K97, K99, K109, K123, K125, K279, K282⟩ := litX
  simp (disch := first | assumption | exact gb_01 _ | omega) only [r_X_tell_0, r_X_tell_1, r_X_tell_4, r_X_tell_6, r_X_tell_9, r_X_tell_11, r_X_tell_12, r_X_tell_13, r_X_tell_16, r_X_tell_17, r_X_tell_20, r_X_tell_21, r_X_tell_22, r_X_tell_23, r_X_tell_24, r_X_tell_27, r_X_tell_28, r_X_tell_29, r_X_tell_32, r_X_tell_33, r_X_tell_36, gq_27_0, gq_27_1, gq_27_2, gq_27_3, gq_27_4, gq_27_5, gq_27_6, gq_28_0, gq_28_1, gq_28_2, gq_28_3, gq_28_4, gq_28_5, gq_28_6, w32_gb, w32i, tn_add, tn_mul, Int.toNat_natCast, Int.toNat_zero, Int.reduceLE, Int.reduceLT, Int.reduceEq, Int.reduceNe, gb_T, gb_F, Int.reduceToNat, eq_self, true_or, or_true, and_true, true_and, and_self, ↓ite_gb0, ↓ite_gbn, ↓if_pos, ↓if_neg, if_true, if_false, not_true_eq_false, not_false_eq_true, gb_ne0, gb_eq0]
theorem r_M_tell_0 : Wp L d k_M_tell 0 [vR b0, l1] [] σ Q ↔ Wp L d k_M_tell 1 [vR b0, l1] [vR b0] σ Q := wp_aload rfl rfl
theorem r_M_tell_1 (h : gK c0 = 12) : Wp L d k_M_tell 1 [l0, l1] [vR c0] σ Q ↔ Wp L d k_M_tell 4 [l0, l1] [vI (σ c0 27)] σ Q := wp_getI (c := 3099) rfl rfl rfl rfl h
theorem r_M_tell_4 : Wp L d k_M_tell 4 [l0, l1] [vI s0] σ Q ↔ Wp L d k_M_tell 6 [l0, l1] [vI 60, vI s0] σ Q := wp_push rfl
theorem r_M_tell_6 : Wp L d k_M_tell 6 [l0, l1] [vI s1, vI s0] σ Q ↔ (if s0 ≠ s1 then Wp L d k_M_tell 12 [l0, l1] [] σ Q else Wp L d k_M_tell 9 [l0, l1] [] σ Q) := wp_cmp_ne rfl
theorem r_M_tell_9 : Wp L d k_M_tell 9 [l0, l1] [] σ Q ↔ Wp L d k_M_tell 11 [l0, l1] [vI (-1000000003)] σ Q := wp_push rfl
theorem r_M_tell_11 : Wp L d k_M_tell 11 [l0, l1] [vI s0] σ Q ↔ Q (some (vI s0)) σ := wp_iret rfl
theorem r_M_tell_12 : Wp L d k_M_tell 12 [vR b0, l1] [] σ Q ↔ Wp L d k_M_tell 13 [vR b0, l1] [vR b0] σ Q := wp_aload rfl rfl
theorem r_M_tell_13 (h : gK c0 = 12) : Wp L d k_M_tell 13 [l0, l1] [vR c0] σ Q ↔ Wp L d k_M_tell 16 [l0, l1] [vR (gq c0 26)] σ Q := wp_getR (c := 3226) rfl rfl rfl rfl rfl h
theorem r_M_tell_16 : Wp L d k_M_tell 16 [vR b0, l1] [vR c0] σ Q ↔ Wp L d k_M_tell 17 [vR b0, l1] [vR b0, vR c0] σ Q := wp_aload rfl rfl
theorem r_M_tell_17 (h : gK c1 = 12) : Wp L d k_M_tell 17 [l0, l1] [vR c1, vR c0] σ Q ↔ Wp L d k_M_tell 20 [l0, l1] [vI (σ c1 27), vR c0] σ Q := wp_getI (c := 3099) rfl rfl rfl rfl h
theorem r_M_tell_20 : Wp L d k_M_tell 20 [l0, vI a1] [vI s1, vR c0] σ Q ↔ Wp L d k_M_tell 21 [l0, vI a1] [vI a1, vI s1, vR c0] σ Q := wp_iload rfl rfl
theorem r_M_tell_21 (h : gK c0 = 100) (hx : 0 ≤ s1 ∧ s1 < gN c0) : Wp L d k_M_tell 21 [l0, l1] [vI s2, vI s1, vR c0] σ Q ↔ Wp L d k_M_tell 22 [l0, l1] [] (gupd σ c0 s1.toNat s2) Q := wp_iast rfl h hx
theorem r_M_tell_22 : Wp L d k_M_tell 22 [vR b0, l1] [] σ Q ↔ Wp L d k_M_tell 23 [vR b0, l1] [vR b0] σ Q := wp_aload rfl rfl
theorem r_M_tell_23 : Wp L d k_M_tell 23 [l0, l1] [vR c0] σ Q ↔ Wp L d k_M_tell 24 [l0, l1] [vR c0, vR c0] σ Q := wp_dupR rfl
theorem r_M_tell_24 (h : gK c1 = 12) : Wp L d k_M_tell 24 [l0, l1] [vR c1, vR c0] σ Q ↔ Wp L d k_M_tell 27 [l0, l1] [vI (σ c1 27), vR c0] σ Q := wp_getI (c := 3099) rfl rfl rfl rfl h
theorem r_M_tell_27 : Wp L d k_M_tell 27 [l0, l1] [vI s1, vR c0] σ Q ↔ Wp L d k_M_tell 28 [l0, l1] [vI 1, vI s1, vR c0] σ Q := wp_push rfl
theorem r_M_tell_28 : Wp L d k_M_tell 28 [l0, l1] [vI s2, vI s1, vR c0] σ Q ↔ Wp L d k_M_tell 29 [l0, l1] [vI (w32 (s1 + s2)), vR c0] σ Q := wp_iadd rfl
theorem r_M_tell_29 (h : gK c0 = 12) : Wp L d k_M_tell 29 [l0, l1] [vI s1, vR c0] σ Q ↔ Wp L d k_M_tell 32 [l0, l1] [] (gupd σ c0 27 s1) Q := wp_putI (c := 3099) rfl rfl rfl rfl h
theorem r_M_tell_32 : Wp L d k_M_tell 32 [vR b0, l1] [] σ Q ↔ Wp L d k_M_tell 33 [vR b0, l1] [vR b0] σ Q := wp_aload rfl rfl
theorem r_M_tell_33 (h : gK c0 = 12) : Wp L d k_M_tell 33 [l0, l1] [vR c0] σ Q ↔ Wp L d k_M_tell 36 [l0, l1] [vI (σ c0 27)] σ Q := wp_getI (c := 3099) rfl rfl rfl rfl h
theorem r_M_tell_36 : Wp L d k_M_tell 36 [l0, l1] [vI s0] σ Q ↔ Q (some (vI s0)) σ := wp_iret rfl
theorem sp_M_tell_f (h : σ 293 27 = 60) : Run L d 313 [vR 293, vI a1] σ (some (vI (-1000000003))) σ := by
  refine Run_of (C' := k_M_tell) rfl ?_
  show Wp L d k_M_tell 0 [vR 293, vI a1] [] σ _
  obtain ⟨K293, Q293, K294, N294⟩ := litM
  simp (disch := first | assumption | exact gb_01 _ | omega) only [r_M_tell_0, r_M_tell_1, r_M_tell_4, r_M_tell_6, r_M_tell_9, r_M_tell_11, r_M_tell_12, r_M_tell_13, r_M_tell_16, r_M_tell_17, r_M_tell_20, r_M_tell_21, r_M_tell_22, r_M_tell_23, r_M_tell_24, r_M_tell_27, r_M_tell_28, r_M_tell_29, r_M_tell_32, r_M_tell_33, r_M_tell_36, Q293, w32_gb, w32i, tn_add, tn_mul, Int.toNat_natCast, Int.toNat_zero, Int.reduceLE, Int.reduceLT, Int.reduceEq, Int.reduceNe, gb_T, gb_F, Int.reduceToNat, eq_self, true_or, or_true, and_true, true_and, and_self, ↓ite_gb0, ↓ite_gbn, ↓if_pos, ↓if_neg, if_true, if_false, not_true_eq_false, not_false_eq_true, gb_ne0, gb_eq0]
theorem sp_X_tell (h : 0 ≤ σ 27 7 ∧ σ 27 7 < 60) : Run L d 82 [vR 27, vI a1] σ (some (vI (σ 27 7 + 1))) (gupd (gupd σ 292 (σ 27 7).toNat a1) 27 7 (σ 27 7 + 1)) := by
  refine Run_of (C' := k_X_tell) rfl ?_
  show Wp L d k_X_tell 0 [vR 27, vI a1] [] σ _
  obtain ⟨K27, K28, K29, K78, K97, K99, K109, K123, K125, K279, K282⟩ := litX
  obtain ⟨K292, N292, n26, K307, N307⟩ := litW
  simp (disch := first | assumption | exact gb_01 _ | omega) only [r_X_tell_0, r_X_tell_1, r_X_tell_4, r_X_tell_6, r_X_tell_9, r_X_tell_11, r_X_tell_12, r_X_tell_13, r_X_tell_16, r_X_tell_17, r_X_tell_20, r_X_tell_21, r_X_tell_22, r_X_tell_23, r_X_tell_24, r_X_tell_27, r_X_tell_28, r_X_tell_29, r_X_tell_32, r_X_tell_33, r_X_tell_36, gq_27_0, gq_27_1, gq_27_2, gq_27_3, gq_27_4, gq_27_5, gq_27_6, gq_28_0, gq_28_1, gq_28_2, gq_28_3, gq_28_4, gq_28_5, gq_28_6, gupd_ne, gupd_eq, w32_gb, w32i, tn_add, tn_mul, Int.toNat_natCast, Int.toNat_zero, Int.reduceLE, Int.reduceLT, Int.reduceEq, Int.reduceNe, gb_T, gb_F, Int.reduceToNat, eq_self, true_or, or_true, and_true, true_and, and_self, ↓ite_gb0, ↓ite_gbn, ↓if_pos, ↓if_neg, if_true, if_false, not_true_eq_false, not_false_eq_true, gb_ne0, gb_eq0]
theorem sp_M_tell (h : 0 ≤ σ 293 27 ∧ σ 293 27 < 60) : Run L d 313 [vR 293, vI a1] σ (some (vI (σ 293 27 + 1))) (gupd (gupd σ 307 (σ 293 27).toNat a1) 293 27 (σ 293 27 + 1)) := by
  refine Run_of (C' := k_M_tell) rfl ?_
  show Wp L d k_M_tell 0 [vR 293, vI a1] [] σ _
  obtain ⟨K293, Q293, K294, N294⟩ := litM
  obtain ⟨K292, N292, n26, K307, N307⟩ := litW
  simp (disch := first | assumption | exact gb_01 _ | omega) only [r_M_tell_0, r_M_tell_1, r_M_tell_4, r_M_tell_6, r_M_tell_9, r_M_tell_11, r_M_tell_12, r_M_tell_13, r_M_tell_16, r_M_tell_17, r_M_tell_20, r_M_tell_21, r_M_tell_22, r_M_tell_23, r_M_tell_24, r_M_tell_27, r_M_tell_28, r_M_tell_29, r_M_tell_32, r_M_tell_33, r_M_tell_36, Q293, n26, gupd_ne, gupd_eq, w32_gb, w32i, tn_add, tn_mul, Int.toNat_natCast, Int.toNat_zero, Int.reduceLE, Int.reduceLT, Int.reduceEq, Int.reduceNe, gb_T, gb_F, Int.reduceToNat, eq_self, true_or, or_true, and_true, true_and, and_self, ↓ite_gb0, ↓ite_gbn, ↓if_pos, ↓if_neg, if_true, if_false, not_true_eq_false, not_false_eq_true, gb_ne0, gb_eq0]
theorem op_tell (a1 : Int) : Op 82 313 [vI a1] := by
  intro L d σ hI
  obtain ⟨t1, t2, t3⟩ := hI.2.2.2.2.1
  by_cases h : 60 ≤ σ 27 7
  · exact ⟨_, _, _, sp_X_tell_f h, sp_M_tell_f (by omega), hI⟩
  · have x2 := sp_M_tell (L := L) (d := d + 1000) (σ := gupd (gupd σ 292 (σ 27 7).toNat a1) 27 7 (σ 27 7 + 1)) (a1 := a1) (by rw [gupd_ne (by omega), gupd_ne (by omega)]; omega)
    rw [gupd_ne (k := 27) (k' := 293) (by omega), gupd_ne (k := 292) (k' := 293) (by omega), ← t1] at x2
    refine ⟨_, _, _, sp_X_tell (by omega), x2, ?_⟩
    refine Inv_mk (P := fun k j => (k = 27 ∧ j = 7) ∨ k = 292 ∨ (k = 293 ∧ j = 27) ∨ k = 307) hI (Agr_upd (Agr_upd (Agr_upd (Agr_upd (Agr_refl _ _) (by omega)) (by omega)) (by omega)) (by omega)) (Or.inl (fun k j hz hp => by unfold ZB at hz; omega)) (Or.inl (fun k j hz hp => by unfold ZT at hz; omega)) (Or.inl (fun k j hz hp => by unfold ZG at hz; omega)) (Or.inl (fun k j hz hp => by unfold ZS at hz; omega)) (Or.inl (fun k j hz hp => by unfold ZW at hz; omega)) (Or.inl (fun k j hz hp => by unfold ZP at hz; omega)) (Or.inl (fun k j hz hp => by unfold ZR ZK at hz; omega)) (Or.inl (fun k j hz hp => by unfold ZM at hz; omega)) (Or.inl (fun k j hz hp => by unfold ZTape at hz; omega)) (Or.inl (fun k j hz hp => by unfold ZTest at hz; omega)) (Or.inr ?_) (Or.inl (fun k j hz hp => by unfold ZImg at hz; omega))
    refine ⟨?_, ?_, fun i hi => ?_⟩
    · rw [gupd_eq, gupd_ne (by omega), gupd_ne (by omega), gupd_eq]
    · rw [gupd_eq]; omega
    · rw [gupd_eq] at hi
      by_cases e : i = (σ 27 7).toNat
      · rw [e, gupd_ne (by omega), gupd_ne (by omega), gupd_ne (by omega), gupd_eq, gupd_ne (by omega), gupd_eq]
      · simp (disch := omega) only [gupd_ne]
        exact t3 i (by omega)
theorem r_X_trim_0 : Wp L d k_X_trim 0 [l0, vI a1] [] σ Q ↔ Wp L d k_X_trim 1 [l0, vI a1] [vI a1] σ Q := wp_iload rfl rfl
theorem r_X_trim_1 : Wp L d k_X_trim 1 [l0, l1] [vI s0] σ Q ↔ Wp L d k_X_trim 2 [l0, l1] [vI 0, vI s0] σ Q := wp_push rfl
theorem r_X_trim_2 : Wp L d k_X_trim 2 [vR b0, l1] [vI s1, vI s0] σ Q ↔ Wp L d k_X_trim 3 [vR b0, l1] [vR b0, vI s1, vI s0] σ Q := wp_aload rfl rfl
theorem r_X_trim_3 (h : gK c2 = 0) : Wp L d k_X_trim 3 [l0, l1] [vR c2, vI s1, vI s0] σ Q ↔ Wp L d k_X_trim 6 [l0, l1] [vR (gq c2 4), vI s1, vI s0] σ Q := wp_getR (c := 132) rfl rfl rfl rfl rfl h
theorem r_X_trim_6 (h : gK c2 = 8) : Wp L d k_X_trim 6 [l0, l1] [vR c2, vI s1, vI s0] σ Q ↔ Wp L d k_X_trim 9 [l0, l1] [vI (σ c2 1), vI s1, vI s0] σ Q := wp_getI (c := 2049) rfl rfl rfl rfl h
theorem r_X_trim_12 : Wp L d k_X_trim 12 [l0, l1] [vI s0] σ Q ↔ (if s0 ≠ 0 then Wp L d k_X_trim 18 [l0, l1] [] σ Q else Wp L d k_X_trim 15 [l0, l1] [] σ Q) := wp_if_ne rfl
theorem r_X_trim_15 : Wp L d k_X_trim 15 [l0, l1] [] σ Q ↔ Wp L d k_X_trim 17 [l0, l1] [vI (-1000000001)] σ Q := wp_push rfl
theorem r_X_trim_17 : Wp L d k_X_trim 17 [l0, l1] [vI s0] σ Q ↔ Q (some (vI s0)) σ := wp_iret rfl
theorem r_X_trim_18 : Wp L d k_X_trim 18 [vR b0, l1] [] σ Q ↔ Wp L d k_X_trim 19 [vR b0, l1] [vR b0] σ Q := wp_aload rfl rfl
theorem r_X_trim_19 (h : gK c0 = 0) : Wp L d k_X_trim 19 [l0, l1] [vR c0] σ Q ↔ Wp L d k_X_trim 22 [l0, l1] [vR (gq c0 4)] σ Q := wp_getR (c := 132) rfl rfl rfl rfl rfl h
theorem r_X_trim_22 : Wp L d k_X_trim 22 [l0, vI a1] [vR c0] σ Q ↔ Wp L d k_X_trim 23 [l0, vI a1] [vI a1, vR c0] σ Q := wp_iload rfl rfl
theorem r_X_trim_23 (h : gK c0 = 8) : Wp L d k_X_trim 23 [l0, l1] [vI s1, vR c0] σ Q ↔ Wp L d k_X_trim 26 [l0, l1] [] (gupd σ c0 1 s1) Q := wp_putI (c := 2049) rfl rfl rfl rfl h
theorem r_X_trim_26 : Wp L d k_X_trim 26 [l0, vI a1] [] σ Q ↔ Wp L d k_X_trim 27 [l0, vI a1] [vI a1] σ Q := wp_iload rfl rfl
theorem r_X_trim_27 : Wp L d k_X_trim 27 [l0, l1] [vI s0] σ Q ↔ Q (some (vI s0)) σ := wp_iret rfl
theorem r_X_trim_9 : Wp L (d + 1) k_X_trim 9 [l0, l1] [vI s2, vI s1, vI s0] σ Q ↔ Wp L (d + 1) k_X_trim 12 [l0, l1] [vI (gb (s1 ≤ s0 ∧ s0 ≤ s2))] σ Q := wp_callR (d := d + 0) (as := [vI s0, vI s1, vI s2]) (rest := []) rfl rfl rfl rfl rfl rfl rfl rfl (sp_X_within)
theorem sp_X_trim_b (h : ¬ (0 ≤ a1 ∧ a1 ≤ σ 279 1)) : Run L (d + 1) 38 [vR 27, vI a1] σ (some (vI (-1000000001))) σ := by
  refine Run_of (C' := k_X_trim) rfl ?_
  show Wp L (d + 1) k_X_trim 0 [vR 27, vI a1] [] σ _
  obtain ⟨K27, K28, K29, K78, K97, K99, K109, K123, K125, K279, K282⟩ := litX
  simp (disch := first | assumption | exact gb_01 _ | omega) only [r_X_trim_0, r_X_trim_1, r_X_trim_2, r_X_trim_3, r_X_trim_6, r_X_trim_9, r_X_trim_12, r_X_trim_15, r_X_trim_17, r_X_trim_18, r_X_trim_19, r_X_trim_22, r_X_trim_23, r_X_trim_26, r_X_trim_27, gq_27_0, gq_27_1, gq_27_2, gq_27_3, gq_27_4, gq_27_5, gq_27_6, gq_28_0, gq_28_1, gq_28_2, gq_28_3, gq_28_4, gq_28_5, gq_28_6, w32_gb, w32i, tn_add, tn_mul, Int.toNat_natCast, Int.toNat_zero, Int.reduceLE, Int.reduceLT, Int.reduceEq, Int.reduceNe, gb_T, gb_F, Int.reduceToNat, eq_self, true_or, or_true, and_true, true_and, and_self, ↓ite_gb0, ↓ite_gbn, ↓if_pos, ↓if_neg, if_true, if_false, not_true_eq_false, not_false_eq_true, gb_ne0, gb_eq0]
theorem r_M_trim_0 : Wp L d k_M_trim 0 [l0, vI a1] [] σ Q ↔ Wp L d k_M_trim 1 [l0, vI a1] [vI a1] σ Q := wp_iload rfl rfl
theorem r_M_trim_1 : Wp L d k_M_trim 1 [l0, l1] [vI s0] σ Q ↔ Wp L d k_M_trim 2 [l0, l1] [vL s0] σ Q := wp_i2l rfl
theorem r_M_trim_2 : Wp L d k_M_trim 2 [l0, l1] [vL s0] σ Q ↔ Wp L d k_M_trim 3 [l0, l1] [vL 0, vL s0] σ Q := wp_pushL rfl
theorem r_M_trim_3 : Wp L d k_M_trim 3 [vR b0, l1] [vL s1, vL s0] σ Q ↔ Wp L d k_M_trim 4 [vR b0, l1] [vR b0, vL s1, vL s0] σ Q := wp_aload rfl rfl
theorem r_M_trim_4 (h : gK c2 = 12) : Wp L d k_M_trim 4 [l0, l1] [vR c2, vL s1, vL s0] σ Q ↔ Wp L d k_M_trim 7 [l0, l1] [vI (σ c2 9), vL s1, vL s0] σ Q := wp_getI (c := 3081) rfl rfl rfl rfl h
theorem r_M_trim_7 : Wp L d k_M_trim 7 [l0, l1] [vI s2, vL s1, vL s0] σ Q ↔ Wp L d k_M_trim 8 [l0, l1] [vL s2, vL s1, vL s0] σ Q := wp_i2l rfl
theorem r_M_trim_11 : Wp L d k_M_trim 11 [l0, l1] [vI s0] σ Q ↔ (if s0 ≠ 0 then Wp L d k_M_trim 17 [l0, l1] [] σ Q else Wp L d k_M_trim 14 [l0, l1] [] σ Q) := wp_if_ne rfl
theorem r_M_trim_14 : Wp L d k_M_trim 14 [l0, l1] [] σ Q ↔ Wp L d k_M_trim 16 [l0, l1] [vI (-1000000001)] σ Q := wp_push rfl
theorem r_M_trim_16 : Wp L d k_M_trim 16 [l0, l1] [vI s0] σ Q ↔ Q (some (vI s0)) σ := wp_iret rfl
theorem r_M_trim_17 : Wp L d k_M_trim 17 [vR b0, l1] [] σ Q ↔ Wp L d k_M_trim 18 [vR b0, l1] [vR b0] σ Q := wp_aload rfl rfl
theorem r_M_trim_18 : Wp L d k_M_trim 18 [l0, vI a1] [vR c0] σ Q ↔ Wp L d k_M_trim 19 [l0, vI a1] [vI a1, vR c0] σ Q := wp_iload rfl rfl
theorem r_M_trim_19 (h : gK c0 = 12) : Wp L d k_M_trim 19 [l0, l1] [vI s1, vR c0] σ Q ↔ Wp L d k_M_trim 22 [l0, l1] [] (gupd σ c0 9 s1) Q := wp_putI (c := 3081) rfl rfl rfl rfl h
theorem r_M_trim_22 : Wp L d k_M_trim 22 [l0, vI a1] [] σ Q ↔ Wp L d k_M_trim 23 [l0, vI a1] [vI a1] σ Q := wp_iload rfl rfl
theorem r_M_trim_23 : Wp L d k_M_trim 23 [l0, l1] [vI s0] σ Q ↔ Q (some (vI s0)) σ := wp_iret rfl
theorem r_M_trim_8 : Wp L (d + 1) k_M_trim 8 [l0, l1] [vL s2, vL s1, vL s0] σ Q ↔ Wp L (d + 1) k_M_trim 11 [l0, l1] [vI (gb (s1 ≤ s0 ∧ s0 ≤ s2))] σ Q := wp_callR (d := d + 0) (as := [vL s0, vL s1, vL s2]) (rest := []) rfl rfl rfl rfl rfl rfl rfl rfl (sp_M_isIn)
theorem sp_M_trim_b (h : ¬ (0 ≤ a1 ∧ a1 ≤ σ 293 9)) : Run L (d + 1) 237 [vR 293, vI a1] σ (some (vI (-1000000001))) σ := by
  refine Run_of (C' := k_M_trim) rfl ?_
  show Wp L (d + 1) k_M_trim 0 [vR 293, vI a1] [] σ _
  obtain ⟨K293, Q293, K294, N294⟩ := litM
  simp (disch := first | assumption | exact gb_01 _ | omega) only [r_M_trim_0, r_M_trim_1, r_M_trim_2, r_M_trim_3, r_M_trim_4, r_M_trim_7, r_M_trim_8, r_M_trim_11, r_M_trim_14, r_M_trim_16, r_M_trim_17, r_M_trim_18, r_M_trim_19, r_M_trim_22, r_M_trim_23, Q293, w32_gb, w32i, tn_add, tn_mul, Int.toNat_natCast, Int.toNat_zero, Int.reduceLE, Int.reduceLT, Int.reduceEq, Int.reduceNe, gb_T, gb_F, Int.reduceToNat, eq_self, true_or, or_true, and_true, true_and, and_self, ↓ite_gb0, ↓ite_gbn, ↓if_pos, ↓if_neg, if_true, if_false, not_true_eq_false, not_false_eq_true, gb_ne0, gb_eq0]
theorem sp_X_trim (h : 0 ≤ a1 ∧ a1 ≤ σ 279 1) : Run L (d + 1) 38 [vR 27, vI a1] σ (some (vI a1)) (gupd σ 279 1 a1) := by
  refine Run_of (C' := k_X_trim) rfl ?_
  show Wp L (d + 1) k_X_trim 0 [vR 27, vI a1] [] σ _
  obtain ⟨K27, K28, K29, K78, K97, K99, K109, K123, K125, K279, K282⟩ := litX
  simp (disch := first | assumption | exact gb_01 _ | omega) only [r_X_trim_0, r_X_trim_1, r_X_trim_2, r_X_trim_3, r_X_trim_6, r_X_trim_9, r_X_trim_12, r_X_trim_15, r_X_trim_17, r_X_trim_18, r_X_trim_19, r_X_trim_22, r_X_trim_23, r_X_trim_26, r_X_trim_27, gq_27_0, gq_27_1, gq_27_2, gq_27_3, gq_27_4, gq_27_5, gq_27_6, gq_28_0, gq_28_1, gq_28_2, gq_28_3, gq_28_4, gq_28_5, gq_28_6, w32_gb, w32i, tn_add, tn_mul, Int.toNat_natCast, Int.toNat_zero, Int.reduceLE, Int.reduceLT, Int.reduceEq, Int.reduceNe, gb_T, gb_F, Int.reduceToNat, eq_self, true_or, or_true, and_true, true_and, and_self, ↓ite_gb0, ↓ite_gbn, ↓if_pos, ↓if_neg, if_true, if_false, not_true_eq_false, not_false_eq_true, gb_ne0, gb_eq0]
theorem sp_M_trim (h : 0 ≤ a1 ∧ a1 ≤ σ 293 9) : Run L (d + 1) 237 [vR 293, vI a1] σ (some (vI a1)) (gupd σ 293 9 a1) := by
  refine Run_of (C' := k_M_trim) rfl ?_
  show Wp L (d + 1) k_M_trim 0 [vR 293, vI a1] [] σ _
  obtain ⟨K293, Q293, K294, N294⟩ := litM
  simp (disch := first | assumption | exact gb_01 _ | omega) only [r_M_trim_0, r_M_trim_1, r_M_trim_2, r_M_trim_3, r_M_trim_4, r_M_trim_7, r_M_trim_8, r_M_trim_11, r_M_trim_14, r_M_trim_16, r_M_trim_17, r_M_trim_18, r_M_trim_19, r_M_trim_22, r_M_trim_23, Q293, w32_gb, w32i, tn_add, tn_mul, Int.toNat_natCast, Int.toNat_zero, Int.reduceLE, Int.reduceLT, Int.reduceEq, Int.reduceNe, gb_T, gb_F, Int.reduceToNat, eq_self, true_or, or_true, and_true, true_and, and_self, ↓ite_gb0, ↓ite_gbn, ↓if_pos, ↓if_neg, if_true, if_false, not_true_eq_false, not_false_eq_true, gb_ne0, gb_eq0]
theorem op_trim (a1 : Int) : Op 38 237 [vI a1] := by
  intro L d σ hI
  obtain ⟨t1, t2, t3⟩ := hI.2.2.1
  by_cases h : 0 ≤ a1 ∧ a1 ≤ σ 279 1
  · refine ⟨_, _, _, sp_X_trim h, sp_M_trim (by rw [gupd_ne (by omega)]; omega), ?_⟩
    refine Inv_mk (P := fun k j => (k = 279 ∧ j = 1) ∨ k = 280 ∨ (k = 293 ∧ j = 9) ∨ k = 301) hI (Agr_upd (Agr_upd (Agr_refl _ _) (by omega)) (by omega)) (Or.inl (fun k j hz hp => by unfold ZB at hz; omega)) (Or.inl (fun k j hz hp => by unfold ZT at hz; omega)) (Or.inl (fun k j hz hp => by unfold ZG at hz; omega)) (Or.inl (fun k j hz hp => by unfold ZS at hz; omega)) (Or.inl (fun k j hz hp => by unfold ZW at hz; omega)) (Or.inl (fun k j hz hp => by unfold ZP at hz; omega)) (Or.inl (fun k j hz hp => by unfold ZR ZK at hz; omega)) (Or.inl (fun k j hz hp => by unfold ZM at hz; omega)) (Or.inr ?_) (Or.inl (fun k j hz hp => by unfold ZTest at hz; omega)) (Or.inl (fun k j hz hp => by unfold ZWait at hz; omega)) (Or.inl (fun k j hz hp => by unfold ZImg at hz; omega))
    refine ⟨?_, ?_, fun i hi => ?_⟩
    · rw [gupd_eq, gupd_ne (by omega), gupd_eq]
    · rw [gupd_eq]; omega
    · rw [gupd_eq] at hi
      simp (disch := omega) only [gupd_ne]
      exact t3 i (by omega)
  · exact ⟨_, _, _, sp_X_trim_b h, sp_M_trim_b (by omega), hI⟩
theorem gand_255 (x : Int) : 0 ≤ gand x 255 ∧ gand x 255 ≤ 255 := by
  unfold gand
  have e : (Int32.ofInt 255).toBitVec = 255#32 := by decide
  have h : (Int32.ofInt x &&& Int32.ofInt 255).toBitVec.toNat ≤ 255 := by
    rw [Int32.toBitVec_and, e, BitVec.toNat_and]
    exact Nat.and_le_right
  have h2 : (Int32.ofInt x &&& Int32.ofInt 255).toInt = (Int32.ofInt x &&& Int32.ofInt 255).toBitVec.toInt := rfl
  rw [h2, BitVec.toInt_eq_toNat_cond]
  split <;> omega
/-- byte k of twelve -/
def gfb (a b c : Int) (k : Nat) : Int := gand (gshr (if k < 4 then a else if k < 8 then b else c) (24 - 8 * ((k % 4 : Nat) : Int))) 255
theorem litTp : gK 279 = 8 ∧ gq 279 0 = 280 ∧ gq 279 5 = 281 ∧ gK 280 = 100 ∧ gK 281 = 100 ∧ ((gN 280 : Nat) : Int) = 96 ∧ ((gN 281 : Nat) : Int) = 96 ∧ gq 293 8 = 301 ∧ gK 301 = 100 ∧ ((gN 301 : Nat) : Int) = 96 := by decide +kernel
theorem r_U_addBytes_0 : Wp L d k_U_addBytes 0 [l0, l1, l2] [] σ Q ↔ Wp L d k_U_addBytes 2 [l0, l1, l2] [vI 24] σ Q := wp_push rfl
theorem r_U_addBytes_2 : Wp L d k_U_addBytes 2 [l0, vI a1, l2] [vI s0] σ Q ↔ Wp L d k_U_addBytes 3 [l0, vI a1, vI s0] [] σ Q := wp_istore (i := 2) (ls := [l0, vI a1, l2]) rfl rfl
theorem r_U_addBytes_3 : Wp L d k_U_addBytes 3 [l0, l1, vI a2] [] σ Q ↔ Wp L d k_U_addBytes 4 [l0, l1, vI a2] [vI a2] σ Q := wp_iload rfl rfl
theorem r_U_addBytes_4 : Wp L d k_U_addBytes 4 [l0, l1, l2] [vI s0] σ Q ↔ (if s0 < 0 then Wp L d k_U_addBytes 48 [l0, l1, l2] [] σ Q else Wp L d k_U_addBytes 7 [l0, l1, l2] [] σ Q) := wp_if_lt rfl
theorem r_U_addBytes_7 : Wp L d k_U_addBytes 7 [vR b0, l1, l2] [] σ Q ↔ Wp L d k_U_addBytes 8 [vR b0, l1, l2] [vR b0] σ Q := wp_aload rfl rfl
theorem r_U_addBytes_8 (h : gK c0 = 8) : Wp L d k_U_addBytes 8 [l0, l1, l2] [vR c0] σ Q ↔ Wp L d k_U_addBytes 11 [l0, l1, l2] [vI (σ c0 1)] σ Q := wp_getI (c := 2049) rfl rfl rfl rfl h
theorem r_U_addBytes_11 : Wp L d k_U_addBytes 11 [l0, l1, l2] [vI s0] σ Q ↔ Wp L d k_U_addBytes 13 [l0, l1, l2] [vI 96, vI s0] σ Q := wp_push rfl
theorem r_U_addBytes_13 : Wp L d k_U_addBytes 13 [l0, l1, l2] [vI s1, vI s0] σ Q ↔ (if s1 ≤ s0 then Wp L d k_U_addBytes 48 [l0, l1, l2] [] σ Q else Wp L d k_U_addBytes 16 [l0, l1, l2] [] σ Q) := wp_cmp_ge rfl
theorem r_U_addBytes_16 : Wp L d k_U_addBytes 16 [vR b0, l1, l2] [] σ Q ↔ Wp L d k_U_addBytes 17 [vR b0, l1, l2] [vR b0] σ Q := wp_aload rfl rfl
theorem r_U_addBytes_17 (h : gK c0 = 8) : Wp L d k_U_addBytes 17 [l0, l1, l2] [vR c0] σ Q ↔ Wp L d k_U_addBytes 20 [l0, l1, l2] [vR (gq c0 0)] σ Q := wp_getR (c := 2176) rfl rfl rfl rfl rfl h
theorem r_U_addBytes_20 : Wp L d k_U_addBytes 20 [vR b0, l1, l2] [vR c0] σ Q ↔ Wp L d k_U_addBytes 21 [vR b0, l1, l2] [vR b0, vR c0] σ Q := wp_aload rfl rfl
theorem r_U_addBytes_21 (h : gK c1 = 8) : Wp L d k_U_addBytes 21 [l0, l1, l2] [vR c1, vR c0] σ Q ↔ Wp L d k_U_addBytes 24 [l0, l1, l2] [vI (σ c1 1), vR c0] σ Q := wp_getI (c := 2049) rfl rfl rfl rfl h
theorem r_U_addBytes_24 : Wp L d k_U_addBytes 24 [l0, vI a1, l2] [vI s1, vR c0] σ Q ↔ Wp L d k_U_addBytes 25 [l0, vI a1, l2] [vI a1, vI s1, vR c0] σ Q := wp_iload rfl rfl
theorem r_U_addBytes_25 : Wp L d k_U_addBytes 25 [l0, l1, vI a2] [vI s2, vI s1, vR c0] σ Q ↔ Wp L d k_U_addBytes 26 [l0, l1, vI a2] [vI a2, vI s2, vI s1, vR c0] σ Q := wp_iload rfl rfl
theorem r_U_addBytes_26 : Wp L d k_U_addBytes 26 [l0, l1, l2] [vI s3, vI s2, vI s1, vR c0] σ Q ↔ Wp L d k_U_addBytes 27 [l0, l1, l2] [vI (gshr s2 s3), vI s1, vR c0] σ Q := wp_ishr rfl
theorem r_U_addBytes_27 : Wp L d k_U_addBytes 27 [l0, l1, l2] [vI s2, vI s1, vR c0] σ Q ↔ Wp L d k_U_addBytes 30 [l0, l1, l2] [vI 255, vI s2, vI s1, vR c0] σ Q := wp_push rfl
theorem r_U_addBytes_30 : Wp L d k_U_addBytes 30 [l0, l1, l2] [vI s3, vI s2, vI s1, vR c0] σ Q ↔ Wp L d k_U_addBytes 31 [l0, l1, l2] [vI (gand s2 s3), vI s1, vR c0] σ Q := wp_iand rfl
theorem r_U_addBytes_31 (h : gK c0 = 100) (hx : 0 ≤ s1 ∧ s1 < gN c0) : Wp L d k_U_addBytes 31 [l0, l1, l2] [vI s2, vI s1, vR c0] σ Q ↔ Wp L d k_U_addBytes 32 [l0, l1, l2] [] (gupd σ c0 s1.toNat s2) Q := wp_iast rfl h hx
theorem r_U_addBytes_32 : Wp L d k_U_addBytes 32 [vR b0, l1, l2] [] σ Q ↔ Wp L d k_U_addBytes 33 [vR b0, l1, l2] [vR b0] σ Q := wp_aload rfl rfl
theorem r_U_addBytes_33 : Wp L d k_U_addBytes 33 [l0, l1, l2] [vR c0] σ Q ↔ Wp L d k_U_addBytes 34 [l0, l1, l2] [vR c0, vR c0] σ Q := wp_dupR rfl
theorem r_U_addBytes_34 (h : gK c1 = 8) : Wp L d k_U_addBytes 34 [l0, l1, l2] [vR c1, vR c0] σ Q ↔ Wp L d k_U_addBytes 37 [l0, l1, l2] [vI (σ c1 1), vR c0] σ Q := wp_getI (c := 2049) rfl rfl rfl rfl h
theorem r_U_addBytes_37 : Wp L d k_U_addBytes 37 [l0, l1, l2] [vI s1, vR c0] σ Q ↔ Wp L d k_U_addBytes 38 [l0, l1, l2] [vI 1, vI s1, vR c0] σ Q := wp_push rfl
theorem r_U_addBytes_38 : Wp L d k_U_addBytes 38 [l0, l1, l2] [vI s2, vI s1, vR c0] σ Q ↔ Wp L d k_U_addBytes 39 [l0, l1, l2] [vI (w32 (s1 + s2)), vR c0] σ Q := wp_iadd rfl
theorem r_U_addBytes_39 (h : gK c0 = 8) : Wp L d k_U_addBytes 39 [l0, l1, l2] [vI s1, vR c0] σ Q ↔ Wp L d k_U_addBytes 42 [l0, l1, l2] [] (gupd σ c0 1 s1) Q := wp_putI (c := 2049) rfl rfl rfl rfl h
theorem r_U_addBytes_42 : Wp L d k_U_addBytes 42 [l0, vI a1, vI a2] [] σ Q ↔ Wp L d k_U_addBytes 45 [l0, vI a1, vI (w32 (a2 + (-8)))] [] σ Q := wp_iinc (i := 2) (ls := [l0, vI a1, vI a2]) rfl rfl
theorem r_U_addBytes_45 : Wp L d k_U_addBytes 45 [l0, l1, l2] [] σ Q ↔ Wp L d k_U_addBytes 3 [l0, l1, l2] [] σ Q := wp_goto rfl
theorem r_U_addBytes_48 : Wp L d k_U_addBytes 48 [l0, l1, l2] [] σ Q ↔ Q none σ := wp_vret rfl
theorem sp_U_addBytes (h : 0 ≤ σ 279 1 ∧ σ 279 1 ≤ 92) : ∃ σ', Run L d 155 [vR 279, vI a1] σ none σ' ∧ (σ' 279 1 = σ 279 1 + 4 ∧ (∀ i : Nat, i < 4 → σ' 280 ((σ 279 1).toNat + i) = gand (gshr a1 (24 - 8 * (i : Int))) 255) ∧ ∀ j : Nat, (j : Int) < σ 279 1 → σ' 280 j = σ 280 j) ∧ Agr σ σ' (fun k j => (k = 279 ∧ j = 1) ∨ k = 280) := by
  refine Run_ex (C' := k_U_addBytes) rfl ?_
  show Wp L d k_U_addBytes 0 [vR 279, vI a1, vU] [] σ _
  obtain ⟨K279, p0, p5, K280, K281, N280, N281, n8, K301, N301⟩ := litTp
  simp only [r_U_addBytes_0, r_U_addBytes_2, r_U_addBytes_4, r_U_addBytes_7, r_U_addBytes_8, r_U_addBytes_11, r_U_addBytes_13, r_U_addBytes_16, r_U_addBytes_17, r_U_addBytes_20, r_U_addBytes_21, r_U_addBytes_24, r_U_addBytes_25, r_U_addBytes_26, r_U_addBytes_27, r_U_addBytes_30, r_U_addBytes_31, r_U_addBytes_32, r_U_addBytes_33, r_U_addBytes_34, r_U_addBytes_37, r_U_addBytes_38, r_U_addBytes_39, r_U_addBytes_42, r_U_addBytes_45, r_U_addBytes_48]
  refine wloop (n := 4) (I := fun k ls τ => ls = [vR 279, vI a1, vI (24 - 8 * (k : Int))] ∧ (τ 279 1 = σ 279 1 + k ∧ (∀ i : Nat, i < k → τ 280 ((σ 279 1).toNat + i) = gand (gshr a1 (24 - 8 * (i : Int))) 255) ∧ ∀ j : Nat, (j : Int) < σ 279 1 → τ 280 j = σ 280 j) ∧ Agr σ τ (fun k j => (k = 279 ∧ j = 1) ∨ k = 280)) (fun k ls τ hk hi hq => ?_) (fun ls τ hi => ?_) 4 0 (by omega) _ _ ⟨rfl, ⟨by omega, fun i hi => by omega, fun _ _ => rfl⟩, Agr_refl _ _⟩
  · obtain ⟨rfl, ⟨h1, h2, h3⟩, hA⟩ := hi
    have e1 : (τ 279 1).toNat = (σ 279 1).toNat + k := by omega
    rw [r_U_addBytes_3]
    simp (disch := first | assumption | exact gb_01 _ | omega) only [r_U_addBytes_0, r_U_addBytes_2, r_U_addBytes_4, r_U_addBytes_7, r_U_addBytes_8, r_U_addBytes_11, r_U_addBytes_13, r_U_addBytes_16, r_U_addBytes_17, r_U_addBytes_20, r_U_addBytes_21, r_U_addBytes_24, r_U_addBytes_25, r_U_addBytes_26, r_U_addBytes_27, r_U_addBytes_30, r_U_addBytes_31, r_U_addBytes_32, r_U_addBytes_33, r_U_addBytes_34, r_U_addBytes_37, r_U_addBytes_38, r_U_addBytes_39, r_U_addBytes_42, r_U_addBytes_45, r_U_addBytes_48, p0, e1, gupd_ne, w32_gb, w32i, tn_add, tn_mul, Int.toNat_natCast, Int.toNat_zero, Int.reduceLE, Int.reduceLT, Int.reduceEq, Int.reduceNe, gb_T, gb_F, Int.reduceToNat, eq_self, true_or, or_true, and_true, true_and, and_self, ↓ite_gb0, ↓ite_gbn, ↓if_pos, ↓if_neg, if_true, if_false, not_true_eq_false, not_false_eq_true, gb_ne0, gb_eq0]
    refine hq _ _ ⟨by simp only [List.cons.injEq, vI_inj, vR_inj, and_true, true_and]; omega, ⟨?_, fun i hi => ?_, fun j hj => ?_⟩, Agr_upd (Agr_upd hA (Or.inr rfl)) (Or.inl ⟨rfl, rfl⟩)⟩
    · rw [gupd_eq]
      omega
    · by_cases e : i = k
      · rw [e, gupd_ne (by omega), gupd_eq]
      · rw [gupd_ne (by omega), gupd_ne (by omega)]
        exact h2 i (by omega)
    · rw [gupd_ne (by omega), gupd_ne (by omega)]
      exact h3 j hj
  · obtain ⟨rfl, ⟨h1, h2, h3⟩, hA⟩ := hi
    rw [r_U_addBytes_3]
    simp (disch := first | assumption | exact gb_01 _ | omega) only [r_U_addBytes_0, r_U_addBytes_2, r_U_addBytes_4, r_U_addBytes_7, r_U_addBytes_8, r_U_addBytes_11, r_U_addBytes_13, r_U_addBytes_16, r_U_addBytes_17, r_U_addBytes_20, r_U_addBytes_21, r_U_addBytes_24, r_U_addBytes_25, r_U_addBytes_26, r_U_addBytes_27, r_U_addBytes_30, r_U_addBytes_31, r_U_addBytes_32, r_U_addBytes_33, r_U_addBytes_34, r_U_addBytes_37, r_U_addBytes_38, r_U_addBytes_39, r_U_addBytes_42, r_U_addBytes_45, r_U_addBytes_48, p0, w32_gb, w32i, tn_add, tn_mul, Int.toNat_natCast, Int.toNat_zero, Int.reduceLE, Int.reduceLT, Int.reduceEq, Int.reduceNe, gb_T, gb_F, Int.reduceToNat, eq_self, true_or, or_true, and_true, true_and, and_self, ↓ite_gb0, ↓ite_gbn, ↓if_pos, ↓if_neg, if_true, if_false, not_true_eq_false, not_false_eq_true, gb_ne0, gb_eq0]
    exact ⟨⟨h1, h2, h3⟩, hA⟩
theorem r_X_feed_0 : Wp L d k_X_feed 0 [vR b0, l1, l2, l3] [] σ Q ↔ Wp L d k_X_feed 1 [vR b0, l1, l2, l3] [vR b0] σ Q := wp_aload rfl rfl
theorem r_X_feed_1 (h : gK c0 = 0) : Wp L d k_X_feed 1 [l0, l1, l2, l3] [vR c0] σ Q ↔ Wp L d k_X_feed 4 [l0, l1, l2, l3] [vR (gq c0 4)] σ Q := wp_getR (c := 132) rfl rfl rfl rfl rfl h
theorem r_X_feed_4 (h : gK c0 = 8) : Wp L d k_X_feed 4 [l0, l1, l2, l3] [vR c0] σ Q ↔ Wp L d k_X_feed 7 [l0, l1, l2, l3] [vI (σ c0 1)] σ Q := wp_getI (c := 2049) rfl rfl rfl rfl h
theorem r_X_feed_7 : Wp L d k_X_feed 7 [l0, l1, l2, l3] [vI s0] σ Q ↔ Wp L d k_X_feed 9 [l0, l1, l2, l3] [vI 84, vI s0] σ Q := wp_push rfl
theorem r_X_feed_9 : Wp L d k_X_feed 9 [l0, l1, l2, l3] [vI s1, vI s0] σ Q ↔ (if s0 ≤ s1 then Wp L d k_X_feed 15 [l0, l1, l2, l3] [] σ Q else Wp L d k_X_feed 12 [l0, l1, l2, l3] [] σ Q) := wp_cmp_le rfl
theorem r_X_feed_12 : Wp L d k_X_feed 12 [l0, l1, l2, l3] [] σ Q ↔ Wp L d k_X_feed 14 [l0, l1, l2, l3] [vI (-1000000003)] σ Q := wp_push rfl
theorem r_X_feed_14 : Wp L d k_X_feed 14 [l0, l1, l2, l3] [vI s0] σ Q ↔ Q (some (vI s0)) σ := wp_iret rfl
theorem r_X_feed_15 : Wp L d k_X_feed 15 [vR b0, l1, l2, l3] [] σ Q ↔ Wp L d k_X_feed 16 [vR b0, l1, l2, l3] [vR b0] σ Q := wp_aload rfl rfl
theorem r_X_feed_16 (h : gK c0 = 0) : Wp L d k_X_feed 16 [l0, l1, l2, l3] [vR c0] σ Q ↔ Wp L d k_X_feed 19 [l0, l1, l2, l3] [vR (gq c0 4)] σ Q := wp_getR (c := 132) rfl rfl rfl rfl rfl h
theorem r_X_feed_19 : Wp L d k_X_feed 19 [l0, vI a1, l2, l3] [vR c0] σ Q ↔ Wp L d k_X_feed 20 [l0, vI a1, l2, l3] [vI a1, vR c0] σ Q := wp_iload rfl rfl
theorem c_X_feed_20 (hR : Run L d 155 [vR c0, vI s1] σ r σ1) (h : gK c0 = 8) : Wp L (d + 1) k_X_feed 20 [l0, l1, l2, l3] [vI s1, vR c0] σ Q ↔ Wp L (d + 1) k_X_feed 23 [l0, l1, l2, l3] (r.toList ++ []) σ1 Q := wp_callR (as := [vR c0, vI s1]) (rest := []) rfl rfl rfl rfl rfl rfl rfl (grecv_k (by rw [h]) rfl) hR
theorem r_X_feed_23 : Wp L d k_X_feed 23 [vR b0, l1, l2, l3] [] σ Q ↔ Wp L d k_X_feed 24 [vR b0, l1, l2, l3] [vR b0] σ Q := wp_aload rfl rfl
theorem r_X_feed_24 (h : gK c0 = 0) : Wp L d k_X_feed 24 [l0, l1, l2, l3] [vR c0] σ Q ↔ Wp L d k_X_feed 27 [l0, l1, l2, l3] [vR (gq c0 4)] σ Q := wp_getR (c := 132) rfl rfl rfl rfl rfl h
theorem r_X_feed_27 : Wp L d k_X_feed 27 [l0, l1, vI a2, l3] [vR c0] σ Q ↔ Wp L d k_X_feed 28 [l0, l1, vI a2, l3] [vI a2, vR c0] σ Q := wp_iload rfl rfl
theorem c_X_feed_28 (hR : Run L d 155 [vR c0, vI s1] σ r σ1) (h : gK c0 = 8) : Wp L (d + 1) k_X_feed 28 [l0, l1, l2, l3] [vI s1, vR c0] σ Q ↔ Wp L (d + 1) k_X_feed 31 [l0, l1, l2, l3] (r.toList ++ []) σ1 Q := wp_callR (as := [vR c0, vI s1]) (rest := []) rfl rfl rfl rfl rfl rfl rfl (grecv_k (by rw [h]) rfl) hR
theorem r_X_feed_31 : Wp L d k_X_feed 31 [vR b0, l1, l2, l3] [] σ Q ↔ Wp L d k_X_feed 32 [vR b0, l1, l2, l3] [vR b0] σ Q := wp_aload rfl rfl
theorem r_X_feed_32 (h : gK c0 = 0) : Wp L d k_X_feed 32 [l0, l1, l2, l3] [vR c0] σ Q ↔ Wp L d k_X_feed 35 [l0, l1, l2, l3] [vR (gq c0 4)] σ Q := wp_getR (c := 132) rfl rfl rfl rfl rfl h
theorem r_X_feed_35 : Wp L d k_X_feed 35 [l0, l1, l2, vI a3] [vR c0] σ Q ↔ Wp L d k_X_feed 36 [l0, l1, l2, vI a3] [vI a3, vR c0] σ Q := wp_iload rfl rfl
theorem c_X_feed_36 (hR : Run L d 155 [vR c0, vI s1] σ r σ1) (h : gK c0 = 8) : Wp L (d + 1) k_X_feed 36 [l0, l1, l2, l3] [vI s1, vR c0] σ Q ↔ Wp L (d + 1) k_X_feed 39 [l0, l1, l2, l3] (r.toList ++ []) σ1 Q := wp_callR (as := [vR c0, vI s1]) (rest := []) rfl rfl rfl rfl rfl rfl rfl (grecv_k (by rw [h]) rfl) hR
theorem r_X_feed_39 : Wp L d k_X_feed 39 [vR b0, l1, l2, l3] [] σ Q ↔ Wp L d k_X_feed 40 [vR b0, l1, l2, l3] [vR b0] σ Q := wp_aload rfl rfl
theorem r_X_feed_40 (h : gK c0 = 0) : Wp L d k_X_feed 40 [l0, l1, l2, l3] [vR c0] σ Q ↔ Wp L d k_X_feed 43 [l0, l1, l2, l3] [vR (gq c0 4)] σ Q := wp_getR (c := 132) rfl rfl rfl rfl rfl h
theorem r_X_feed_43 (h : gK c0 = 8) : Wp L d k_X_feed 43 [l0, l1, l2, l3] [vR c0] σ Q ↔ Wp L d k_X_feed 46 [l0, l1, l2, l3] [vI (σ c0 1)] σ Q := wp_getI (c := 2049) rfl rfl rfl rfl h
theorem r_X_feed_46 : Wp L d k_X_feed 46 [l0, l1, l2, l3] [vI s0] σ Q ↔ Q (some (vI s0)) σ := wp_iret rfl
theorem sp_X_feed_f (h : 84 < σ 279 1) : Run L (d + 1) 37 [vR 27, vI a1, vI a2, vI a3] σ (some (vI (-1000000003))) σ := by
  refine Run_of (C' := k_X_feed) rfl ?_
  show Wp L (d + 1) k_X_feed 0 [vR 27, vI a1, vI a2, vI a3] [] σ _
  obtain ⟨K27, K28, K29, K78, K97, K99, K109, K123, K125, K279, K282⟩ := litX
  simp (disch := first | assumption | exact gb_01 _ | omega) only [r_X_feed_0, r_X_feed_1, r_X_feed_4, r_X_feed_7, r_X_feed_9, r_X_feed_12, r_X_feed_14, r_X_feed_15, r_X_feed_16, r_X_feed_19, r_X_feed_23, r_X_feed_24, r_X_feed_27, r_X_feed_31, r_X_feed_32, r_X_feed_35, r_X_feed_39, r_X_feed_40, r_X_feed_43, r_X_feed_46, gq_27_0, gq_27_1, gq_27_2, gq_27_3, gq_27_4, gq_27_5, gq_27_6, gq_28_0, gq_28_1, gq_28_2, gq_28_3, gq_28_4, gq_28_5, gq_28_6, w32_gb, w32i, tn_add, tn_mul, Int.toNat_natCast, Int.toNat_zero, Int.reduceLE, Int.reduceLT, Int.reduceEq, Int.reduceNe, gb_T, gb_F, Int.reduceToNat, eq_self, true_or, or_true, and_true, true_and, and_self, ↓ite_gb0, ↓ite_gbn, ↓if_pos, ↓if_neg, if_true, if_false, not_true_eq_false, not_false_eq_true, gb_ne0, gb_eq0]
theorem r_M_feed_0 : Wp L d k_M_feed 0 [vR b0, l1, l2, l3, l4, l5] [] σ Q ↔ Wp L d k_M_feed 1 [vR b0, l1, l2, l3, l4, l5] [vR b0] σ Q := wp_aload rfl rfl
theorem r_M_feed_1 (h : gK c0 = 12) : Wp L d k_M_feed 1 [l0, l1, l2, l3, l4, l5] [vR c0] σ Q ↔ Wp L d k_M_feed 4 [l0, l1, l2, l3, l4, l5] [vI (σ c0 9)] σ Q := wp_getI (c := 3081) rfl rfl rfl rfl h
theorem r_M_feed_4 : Wp L d k_M_feed 4 [l0, l1, l2, l3, l4, l5] [vI s0] σ Q ↔ Wp L d k_M_feed 6 [l0, l1, l2, l3, l4, l5] [vI 12, vI s0] σ Q := wp_push rfl
theorem r_M_feed_6 : Wp L d k_M_feed 6 [l0, l1, l2, l3, l4, l5] [vI s1, vI s0] σ Q ↔ Wp L d k_M_feed 7 [l0, l1, l2, l3, l4, l5] [vI (w32 (s0 + s1))] σ Q := wp_iadd rfl
theorem r_M_feed_7 : Wp L d k_M_feed 7 [l0, l1, l2, l3, l4, l5] [vI s0] σ Q ↔ Wp L d k_M_feed 9 [l0, l1, l2, l3, l4, l5] [vI 96, vI s0] σ Q := wp_push rfl
theorem r_M_feed_9 : Wp L d k_M_feed 9 [l0, l1, l2, l3, l4, l5] [vI s1, vI s0] σ Q ↔ (if s0 ≤ s1 then Wp L d k_M_feed 15 [l0, l1, l2, l3, l4, l5] [] σ Q else Wp L d k_M_feed 12 [l0, l1, l2, l3, l4, l5] [] σ Q) := wp_cmp_le rfl
theorem r_M_feed_12 : Wp L d k_M_feed 12 [l0, l1, l2, l3, l4, l5] [] σ Q ↔ Wp L d k_M_feed 14 [l0, l1, l2, l3, l4, l5] [vI (-1000000003)] σ Q := wp_push rfl
theorem r_M_feed_14 : Wp L d k_M_feed 14 [l0, l1, l2, l3, l4, l5] [vI s0] σ Q ↔ Q (some (vI s0)) σ := wp_iret rfl
theorem r_M_feed_15 : Wp L d k_M_feed 15 [l0, l1, l2, l3, l4, l5] [] σ Q ↔ Wp L d k_M_feed 16 [l0, l1, l2, l3, l4, l5] [vI 0] σ Q := wp_push rfl
theorem r_M_feed_16 : Wp L d k_M_feed 16 [l0, l1, l2, vI a3, l4, l5] [vI s0] σ Q ↔ Wp L d k_M_feed 18 [l0, l1, l2, vI a3, vI s0, l5] [] σ Q := wp_istore (i := 4) (ls := [l0, l1, l2, vI a3, l4, l5]) rfl rfl
theorem r_M_feed_18 : Wp L d k_M_feed 18 [l0, l1, l2, l3, vI a4, l5] [] σ Q ↔ Wp L d k_M_feed 20 [l0, l1, l2, l3, vI a4, l5] [vI a4] σ Q := wp_iload rfl rfl
theorem r_M_feed_20 : Wp L d k_M_feed 20 [l0, l1, l2, l3, l4, l5] [vI s0] σ Q ↔ Wp L d k_M_feed 22 [l0, l1, l2, l3, l4, l5] [vI 12, vI s0] σ Q := wp_push rfl
theorem r_M_feed_22 : Wp L d k_M_feed 22 [l0, l1, l2, l3, l4, l5] [vI s1, vI s0] σ Q ↔ (if s1 ≤ s0 then Wp L d k_M_feed 91 [l0, l1, l2, l3, l4, l5] [] σ Q else Wp L d k_M_feed 25 [l0, l1, l2, l3, l4, l5] [] σ Q) := wp_cmp_ge rfl
theorem r_M_feed_25 : Wp L d k_M_feed 25 [l0, l1, l2, l3, vI a4, l5] [] σ Q ↔ Wp L d k_M_feed 27 [l0, l1, l2, l3, vI a4, l5] [vI a4] σ Q := wp_iload rfl rfl
theorem r_M_feed_27 : Wp L d k_M_feed 27 [l0, l1, l2, l3, l4, l5] [vI s0] σ Q ↔ Wp L d k_M_feed 28 [l0, l1, l2, l3, l4, l5] [vI 4, vI s0] σ Q := wp_push rfl
theorem r_M_feed_28 : Wp L d k_M_feed 28 [l0, l1, l2, l3, l4, l5] [vI s1, vI s0] σ Q ↔ (if s1 ≤ s0 then Wp L d k_M_feed 35 [l0, l1, l2, l3, l4, l5] [] σ Q else Wp L d k_M_feed 31 [l0, l1, l2, l3, l4, l5] [] σ Q) := wp_cmp_ge rfl
theorem r_M_feed_31 : Wp L d k_M_feed 31 [l0, vI a1, l2, l3, l4, l5] [] σ Q ↔ Wp L d k_M_feed 32 [l0, vI a1, l2, l3, l4, l5] [vI a1] σ Q := wp_iload rfl rfl
theorem r_M_feed_32 : Wp L d k_M_feed 32 [l0, l1, l2, l3, l4, l5] [vI s0] σ Q ↔ Wp L d k_M_feed 47 [l0, l1, l2, l3, l4, l5] [vI s0] σ Q := wp_goto rfl
theorem r_M_feed_35 : Wp L d k_M_feed 35 [l0, l1, l2, l3, vI a4, l5] [] σ Q ↔ Wp L d k_M_feed 37 [l0, l1, l2, l3, vI a4, l5] [vI a4] σ Q := wp_iload rfl rfl
theorem r_M_feed_37 : Wp L d k_M_feed 37 [l0, l1, l2, l3, l4, l5] [vI s0] σ Q ↔ Wp L d k_M_feed 39 [l0, l1, l2, l3, l4, l5] [vI 8, vI s0] σ Q := wp_push rfl
theorem r_M_feed_39 : Wp L d k_M_feed 39 [l0, l1, l2, l3, l4, l5] [vI s1, vI s0] σ Q ↔ (if s1 ≤ s0 then Wp L d k_M_feed 46 [l0, l1, l2, l3, l4, l5] [] σ Q else Wp L d k_M_feed 42 [l0, l1, l2, l3, l4, l5] [] σ Q) := wp_cmp_ge rfl
theorem r_M_feed_42 : Wp L d k_M_feed 42 [l0, l1, vI a2, l3, l4, l5] [] σ Q ↔ Wp L d k_M_feed 43 [l0, l1, vI a2, l3, l4, l5] [vI a2] σ Q := wp_iload rfl rfl
theorem r_M_feed_43 : Wp L d k_M_feed 43 [l0, l1, l2, l3, l4, l5] [vI s0] σ Q ↔ Wp L d k_M_feed 47 [l0, l1, l2, l3, l4, l5] [vI s0] σ Q := wp_goto rfl
theorem r_M_feed_46 : Wp L d k_M_feed 46 [l0, l1, l2, vI a3, l4, l5] [] σ Q ↔ Wp L d k_M_feed 47 [l0, l1, l2, vI a3, l4, l5] [vI a3] σ Q := wp_iload rfl rfl
theorem r_M_feed_47 : Wp L d k_M_feed 47 [l0, l1, l2, l3, vI a4, l5] [vI s0] σ Q ↔ Wp L d k_M_feed 49 [l0, l1, l2, l3, vI a4, vI s0] [] σ Q := wp_istore (i := 5) (ls := [l0, l1, l2, l3, vI a4, l5]) rfl rfl
theorem r_M_feed_49 : Wp L d k_M_feed 49 [vR b0, l1, l2, l3, l4, l5] [] σ Q ↔ Wp L d k_M_feed 50 [vR b0, l1, l2, l3, l4, l5] [vR b0] σ Q := wp_aload rfl rfl
theorem r_M_feed_50 (h : gK c0 = 12) : Wp L d k_M_feed 50 [l0, l1, l2, l3, l4, l5] [vR c0] σ Q ↔ Wp L d k_M_feed 53 [l0, l1, l2, l3, l4, l5] [vR (gq c0 8)] σ Q := wp_getR (c := 3208) rfl rfl rfl rfl rfl h
theorem r_M_feed_53 : Wp L d k_M_feed 53 [vR b0, l1, l2, l3, l4, l5] [vR c0] σ Q ↔ Wp L d k_M_feed 54 [vR b0, l1, l2, l3, l4, l5] [vR b0, vR c0] σ Q := wp_aload rfl rfl
theorem r_M_feed_54 (h : gK c1 = 12) : Wp L d k_M_feed 54 [l0, l1, l2, l3, l4, l5] [vR c1, vR c0] σ Q ↔ Wp L d k_M_feed 57 [l0, l1, l2, l3, l4, l5] [vI (σ c1 9), vR c0] σ Q := wp_getI (c := 3081) rfl rfl rfl rfl h
theorem r_M_feed_57 : Wp L d k_M_feed 57 [l0, l1, l2, l3, l4, vI a5] [vI s1, vR c0] σ Q ↔ Wp L d k_M_feed 59 [l0, l1, l2, l3, l4, vI a5] [vI a5, vI s1, vR c0] σ Q := wp_iload rfl rfl
theorem r_M_feed_59 : Wp L d k_M_feed 59 [l0, l1, l2, l3, l4, l5] [vI s2, vI s1, vR c0] σ Q ↔ Wp L d k_M_feed 61 [l0, l1, l2, l3, l4, l5] [vI 24, vI s2, vI s1, vR c0] σ Q := wp_push rfl
theorem r_M_feed_61 : Wp L d k_M_feed 61 [l0, l1, l2, l3, l4, l5] [vI s3, vI s2, vI s1, vR c0] σ Q ↔ Wp L d k_M_feed 63 [l0, l1, l2, l3, l4, l5] [vI 8, vI s3, vI s2, vI s1, vR c0] σ Q := wp_push rfl
theorem r_M_feed_63 : Wp L d k_M_feed 63 [l0, l1, l2, l3, vI a4, l5] [vI s4, vI s3, vI s2, vI s1, vR c0] σ Q ↔ Wp L d k_M_feed 65 [l0, l1, l2, l3, vI a4, l5] [vI a4, vI s4, vI s3, vI s2, vI s1, vR c0] σ Q := wp_iload rfl rfl
theorem r_M_feed_65 : Wp L d k_M_feed 65 [l0, l1, l2, l3, l4, l5] [vI s5, vI s4, vI s3, vI s2, vI s1, vR c0] σ Q ↔ Wp L d k_M_feed 66 [l0, l1, l2, l3, l4, l5] [vI 4, vI s5, vI s4, vI s3, vI s2, vI s1, vR c0] σ Q := wp_push rfl
theorem r_M_feed_66 (h : 0 ≤ s5 ∧ 0 < s6) : Wp L d k_M_feed 66 [l0, l1, l2, l3, l4, l5] [vI s6, vI s5, vI s4, vI s3, vI s2, vI s1, vR c0] σ Q ↔ Wp L d k_M_feed 67 [l0, l1, l2, l3, l4, l5] [vI (s5 % s6), vI s4, vI s3, vI s2, vI s1, vR c0] σ Q := wp_irem rfl h
theorem r_M_feed_67 : Wp L d k_M_feed 67 [l0, l1, l2, l3, l4, l5] [vI s5, vI s4, vI s3, vI s2, vI s1, vR c0] σ Q ↔ Wp L d k_M_feed 68 [l0, l1, l2, l3, l4, l5] [vI (w32 (s4 * s5)), vI s3, vI s2, vI s1, vR c0] σ Q := wp_imul rfl
theorem r_M_feed_68 : Wp L d k_M_feed 68 [l0, l1, l2, l3, l4, l5] [vI s4, vI s3, vI s2, vI s1, vR c0] σ Q ↔ Wp L d k_M_feed 69 [l0, l1, l2, l3, l4, l5] [vI (w32 (s3 - s4)), vI s2, vI s1, vR c0] σ Q := wp_isub rfl
theorem r_M_feed_69 : Wp L d k_M_feed 69 [l0, l1, l2, l3, l4, l5] [vI s3, vI s2, vI s1, vR c0] σ Q ↔ Wp L d k_M_feed 70 [l0, l1, l2, l3, l4, l5] [vI (gshr s2 s3), vI s1, vR c0] σ Q := wp_ishr rfl
theorem r_M_feed_70 : Wp L d k_M_feed 70 [l0, l1, l2, l3, l4, l5] [vI s2, vI s1, vR c0] σ Q ↔ Wp L d k_M_feed 73 [l0, l1, l2, l3, l4, l5] [vI 255, vI s2, vI s1, vR c0] σ Q := wp_push rfl
theorem r_M_feed_73 : Wp L d k_M_feed 73 [l0, l1, l2, l3, l4, l5] [vI s3, vI s2, vI s1, vR c0] σ Q ↔ Wp L d k_M_feed 74 [l0, l1, l2, l3, l4, l5] [vI (gand s2 s3), vI s1, vR c0] σ Q := wp_iand rfl
theorem r_M_feed_74 (h : gK c0 = 100) (hx : 0 ≤ s1 ∧ s1 < gN c0) : Wp L d k_M_feed 74 [l0, l1, l2, l3, l4, l5] [vI s2, vI s1, vR c0] σ Q ↔ Wp L d k_M_feed 75 [l0, l1, l2, l3, l4, l5] [] (gupd σ c0 s1.toNat s2) Q := wp_iast rfl h hx
theorem r_M_feed_75 : Wp L d k_M_feed 75 [vR b0, l1, l2, l3, l4, l5] [] σ Q ↔ Wp L d k_M_feed 76 [vR b0, l1, l2, l3, l4, l5] [vR b0] σ Q := wp_aload rfl rfl
theorem r_M_feed_76 : Wp L d k_M_feed 76 [l0, l1, l2, l3, l4, l5] [vR c0] σ Q ↔ Wp L d k_M_feed 77 [l0, l1, l2, l3, l4, l5] [vR c0, vR c0] σ Q := wp_dupR rfl
theorem r_M_feed_77 (h : gK c1 = 12) : Wp L d k_M_feed 77 [l0, l1, l2, l3, l4, l5] [vR c1, vR c0] σ Q ↔ Wp L d k_M_feed 80 [l0, l1, l2, l3, l4, l5] [vI (σ c1 9), vR c0] σ Q := wp_getI (c := 3081) rfl rfl rfl rfl h
theorem r_M_feed_80 : Wp L d k_M_feed 80 [l0, l1, l2, l3, l4, l5] [vI s1, vR c0] σ Q ↔ Wp L d k_M_feed 81 [l0, l1, l2, l3, l4, l5] [vI 1, vI s1, vR c0] σ Q := wp_push rfl
theorem r_M_feed_81 : Wp L d k_M_feed 81 [l0, l1, l2, l3, l4, l5] [vI s2, vI s1, vR c0] σ Q ↔ Wp L d k_M_feed 82 [l0, l1, l2, l3, l4, l5] [vI (w32 (s1 + s2)), vR c0] σ Q := wp_iadd rfl
theorem r_M_feed_82 (h : gK c0 = 12) : Wp L d k_M_feed 82 [l0, l1, l2, l3, l4, l5] [vI s1, vR c0] σ Q ↔ Wp L d k_M_feed 85 [l0, l1, l2, l3, l4, l5] [] (gupd σ c0 9 s1) Q := wp_putI (c := 3081) rfl rfl rfl rfl h
theorem r_M_feed_85 : Wp L d k_M_feed 85 [l0, l1, l2, vI a3, vI a4, l5] [] σ Q ↔ Wp L d k_M_feed 88 [l0, l1, l2, vI a3, vI (w32 (a4 + 1)), l5] [] σ Q := wp_iinc (i := 4) (ls := [l0, l1, l2, vI a3, vI a4, l5]) rfl rfl
theorem r_M_feed_88 : Wp L d k_M_feed 88 [l0, l1, l2, l3, l4, l5] [] σ Q ↔ Wp L d k_M_feed 18 [l0, l1, l2, l3, l4, l5] [] σ Q := wp_goto rfl
theorem r_M_feed_91 : Wp L d k_M_feed 91 [vR b0, l1, l2, l3, l4, l5] [] σ Q ↔ Wp L d k_M_feed 92 [vR b0, l1, l2, l3, l4, l5] [vR b0] σ Q := wp_aload rfl rfl
theorem r_M_feed_92 (h : gK c0 = 12) : Wp L d k_M_feed 92 [l0, l1, l2, l3, l4, l5] [vR c0] σ Q ↔ Wp L d k_M_feed 95 [l0, l1, l2, l3, l4, l5] [vI (σ c0 9)] σ Q := wp_getI (c := 3081) rfl rfl rfl rfl h
theorem r_M_feed_95 : Wp L d k_M_feed 95 [l0, l1, l2, l3, l4, l5] [vI s0] σ Q ↔ Q (some (vI s0)) σ := wp_iret rfl
theorem sp_M_feed_f (h : 84 < σ 293 9) (h2 : σ 293 9 ≤ 96) : Run L d 236 [vR 293, vI a1, vI a2, vI a3] σ (some (vI (-1000000003))) σ := by
  refine Run_of (C' := k_M_feed) rfl ?_
  show Wp L d k_M_feed 0 [vR 293, vI a1, vI a2, vI a3, vU, vU] [] σ _
  obtain ⟨K293, Q293, K294, N294⟩ := litM
  simp (disch := first | assumption | exact gb_01 _ | omega) only [r_M_feed_0, r_M_feed_1, r_M_feed_4, r_M_feed_6, r_M_feed_7, r_M_feed_9, r_M_feed_12, r_M_feed_14, r_M_feed_15, r_M_feed_16, r_M_feed_20, r_M_feed_22, r_M_feed_25, r_M_feed_27, r_M_feed_28, r_M_feed_31, r_M_feed_32, r_M_feed_35, r_M_feed_37, r_M_feed_39, r_M_feed_42, r_M_feed_43, r_M_feed_46, r_M_feed_47, r_M_feed_49, r_M_feed_50, r_M_feed_53, r_M_feed_54, r_M_feed_57, r_M_feed_59, r_M_feed_61, r_M_feed_63, r_M_feed_65, r_M_feed_66, r_M_feed_67, r_M_feed_68, r_M_feed_69, r_M_feed_70, r_M_feed_73, r_M_feed_74, r_M_feed_75, r_M_feed_76, r_M_feed_77, r_M_feed_80, r_M_feed_81, r_M_feed_82, r_M_feed_85, r_M_feed_88, r_M_feed_91, r_M_feed_92, r_M_feed_95, Q293, w32_gb, w32i, tn_add, tn_mul, Int.toNat_natCast, Int.toNat_zero, Int.reduceLE, Int.reduceLT, Int.reduceEq, Int.reduceNe, gb_T, gb_F, Int.reduceToNat, eq_self, true_or, or_true, and_true, true_and, and_self, ↓ite_gb0, ↓ite_gbn, ↓if_pos, ↓if_neg, if_true, if_false, not_true_eq_false, not_false_eq_true, gb_ne0, gb_eq0]
theorem sp_X_feed (h : 0 ≤ σ 279 1 ∧ σ 279 1 ≤ 84) : ∃ σ', Run L (d + 1) 37 [vR 27, vI a1, vI a2, vI a3] σ (some (vI (σ 279 1 + 12))) σ' ∧ (σ' 279 1 = σ 279 1 + 12 ∧ (∀ i : Nat, i < 12 → σ' 280 ((σ 279 1).toNat + i) = gfb a1 a2 a3 i) ∧ ∀ j : Nat, (j : Int) < σ 279 1 → σ' 280 j = σ 280 j) ∧ Agr σ σ' (fun k j => (k = 279 ∧ j = 1) ∨ k = 280) := by
  refine Run_ex (C' := k_X_feed) rfl ?_
  show Wp L (d + 1) k_X_feed 0 [vR 27, vI a1, vI a2, vI a3] [] σ _
  obtain ⟨K27, K28, K29, K78, K97, K99, K109, K123, K125, K279, K282⟩ := litX
  obtain ⟨τ1, hR1, ⟨u1, u2, u3⟩, hA1⟩ := sp_U_addBytes (L := L) (d := d + 0) (σ := σ) (a1 := a1) (by omega)
  obtain ⟨τ2, hR2, ⟨v1, v2, v3⟩, hA2⟩ := sp_U_addBytes (L := L) (d := d + 0) (σ := τ1) (a1 := a2) (by omega)
  obtain ⟨τ3, hR3, ⟨x1, x2, x3⟩, hA3⟩ := sp_U_addBytes (L := L) (d := d + 0) (σ := τ2) (a1 := a3) (by omega)
  have e3 : τ3 279 1 = σ 279 1 + 12 := by omega
  simp (disch := first | assumption | exact gb_01 _ | omega) only [r_X_feed_0, r_X_feed_1, r_X_feed_4, r_X_feed_7, r_X_feed_9, r_X_feed_12, r_X_feed_14, r_X_feed_15, r_X_feed_16, r_X_feed_19, r_X_feed_23, r_X_feed_24, r_X_feed_27, r_X_feed_31, r_X_feed_32, r_X_feed_35, r_X_feed_39, r_X_feed_40, r_X_feed_43, r_X_feed_46, c_X_feed_20 hR1, c_X_feed_28 hR2, c_X_feed_36 hR3, Option.toList, List.singleton_append, List.cons_append, List.nil_append, List.append_nil, gq_27_0, gq_27_1, gq_27_2, gq_27_3, gq_27_4, gq_27_5, gq_27_6, gq_28_0, gq_28_1, gq_28_2, gq_28_3, gq_28_4, gq_28_5, gq_28_6, e3, w32_gb, w32i, tn_add, tn_mul, Int.toNat_natCast, Int.toNat_zero, Int.reduceLE, Int.reduceLT, Int.reduceEq, Int.reduceNe, gb_T, gb_F, Int.reduceToNat, eq_self, true_or, or_true, and_true, true_and, and_self, ↓ite_gb0, ↓ite_gbn, ↓if_pos, ↓if_neg, if_true, if_false, not_true_eq_false, not_false_eq_true, gb_ne0, gb_eq0]
  refine ⟨⟨fun i hi => ?_, fun j hj => ?_⟩, Agr_trans (Agr_trans hA1 hA2) hA3⟩
  · unfold gfb
    by_cases c1 : i < 4
    · rw [if_pos c1, x3 _ (by omega), v3 _ (by omega), u2 i c1, show i % 4 = i by omega]
    · by_cases c2 : i < 8
      · have := v2 (i - 4) (by omega)
        rw [show (τ1 279 1).toNat + (i - 4) = (σ 279 1).toNat + i by omega] at this
        rw [if_neg c1, if_pos c2, x3 _ (by omega), this, show i % 4 = i - 4 by omega]
      · have := x2 (i - 8) (by omega)
        rw [show (τ2 279 1).toNat + (i - 8) = (σ 279 1).toNat + i by omega] at this
        rw [if_neg c1, if_neg c2, this, show i % 4 = i - 8 by omega]
  · rw [x3 _ (by omega), v3 _ (by omega), u3 _ hj]
theorem sp_M_feed (h : 0 ≤ σ 293 9 ∧ σ 293 9 ≤ 84) : ∃ σ', Run L d 236 [vR 293, vI a1, vI a2, vI a3] σ (some (vI (σ 293 9 + 12))) σ' ∧ (σ' 293 9 = σ 293 9 + 12 ∧ (∀ i : Nat, i < 12 → σ' 301 ((σ 293 9).toNat + i) = gfb a1 a2 a3 i) ∧ ∀ j : Nat, (j : Int) < σ 293 9 → σ' 301 j = σ 301 j) ∧ Agr σ σ' (fun k j => (k = 293 ∧ j = 9) ∨ k = 301) := by
  refine Run_ex (C' := k_M_feed) rfl ?_
  show Wp L d k_M_feed 0 [vR 293, vI a1, vI a2, vI a3, vU, vU] [] σ _
  obtain ⟨K293, Q293, K294, N294⟩ := litM
  obtain ⟨K279, p0, p5, K280, K281, N280, N281, n8, K301, N301⟩ := litTp
  simp (disch := first | assumption | exact gb_01 _ | omega) only [r_M_feed_0, r_M_feed_1, r_M_feed_4, r_M_feed_6, r_M_feed_7, r_M_feed_9, r_M_feed_12, r_M_feed_14, r_M_feed_15, r_M_feed_16, r_M_feed_20, r_M_feed_22, r_M_feed_25, r_M_feed_27, r_M_feed_28, r_M_feed_31, r_M_feed_32, r_M_feed_35, r_M_feed_37, r_M_feed_39, r_M_feed_42, r_M_feed_43, r_M_feed_46, r_M_feed_47, r_M_feed_49, r_M_feed_50, r_M_feed_53, r_M_feed_54, r_M_feed_57, r_M_feed_59, r_M_feed_61, r_M_feed_63, r_M_feed_65, r_M_feed_66, r_M_feed_67, r_M_feed_68, r_M_feed_69, r_M_feed_70, r_M_feed_73, r_M_feed_74, r_M_feed_75, r_M_feed_76, r_M_feed_77, r_M_feed_80, r_M_feed_81, r_M_feed_82, r_M_feed_85, r_M_feed_88, r_M_feed_91, r_M_feed_92, r_M_feed_95, Q293, w32_gb, w32i, tn_add, tn_mul, Int.toNat_natCast, Int.toNat_zero, Int.reduceLE, Int.reduceLT, Int.reduceEq, Int.reduceNe, gb_T, gb_F, Int.reduceToNat, eq_self, true_or, or_true, and_true, true_and, and_self, ↓ite_gb0, ↓ite_gbn, ↓if_pos, ↓if_neg, if_true, if_false, not_true_eq_false, not_false_eq_true, gb_ne0, gb_eq0]
  refine wloop (n := 12) (I := fun k ls τ => (∃ l, ls = [vR 293, vI a1, vI a2, vI a3, vI (k : Int), l]) ∧ (τ 293 9 = σ 293 9 + k ∧ (∀ i : Nat, i < k → τ 301 ((σ 293 9).toNat + i) = gfb a1 a2 a3 i) ∧ ∀ j : Nat, (j : Int) < σ 293 9 → τ 301 j = σ 301 j) ∧ Agr σ τ (fun k j => (k = 293 ∧ j = 9) ∨ k = 301)) (fun k ls τ hk hi hq => ?_) (fun ls τ hi => ?_) 12 0 (by omega) _ _ ⟨⟨_, rfl⟩, ⟨by omega, fun i hi => by omega, fun _ _ => rfl⟩, Agr_refl _ _⟩
  · obtain ⟨⟨l, rfl⟩, ⟨h1, h2, h3⟩, hA⟩ := hi
    have e1 : (τ 293 9).toNat = (σ 293 9).toNat + k := by omega
    have em : (k : Int) % 4 = ((k % 4 : Nat) : Int) := by omega
    have fin : ∀ (l : gV) (v : Int), v = gfb a1 a2 a3 k → Wp L (d + 0) k_M_feed 18 [vR 293, vI a1, vI a2, vI a3, vI ((k : Int) + 1), l] [] (gupd (gupd τ 301 ((σ 293 9).toNat + k) v) 293 9 (τ 293 9 + 1)) _ := fun l v e => hq _ _ ⟨⟨l, by rw [show (((k + 1 : Nat)) : Int) = (k : Int) + 1 by omega]⟩, ⟨by rw [gupd_eq]; omega, fun i hi => by
      by_cases e2 : i = k
      · rw [e2, gupd_ne (by omega), gupd_eq, e]
      · rw [gupd_ne (by omega), gupd_ne (by omega)]
        exact h2 i (by omega), fun j hj => by
      rw [gupd_ne (by omega), gupd_ne (by omega)]
      exact h3 j hj⟩, Agr_upd (Agr_upd hA (Or.inr rfl)) (Or.inl ⟨rfl, rfl⟩)⟩
    rw [r_M_feed_18]
    by_cases c1 : k < 4
    · simp (disch := first | assumption | exact gb_01 _ | omega) only [r_M_feed_0, r_M_feed_1, r_M_feed_4, r_M_feed_6, r_M_feed_7, r_M_feed_9, r_M_feed_12, r_M_feed_14, r_M_feed_15, r_M_feed_16, r_M_feed_20, r_M_feed_22, r_M_feed_25, r_M_feed_27, r_M_feed_28, r_M_feed_31, r_M_feed_32, r_M_feed_35, r_M_feed_37, r_M_feed_39, r_M_feed_42, r_M_feed_43, r_M_feed_46, r_M_feed_47, r_M_feed_49, r_M_feed_50, r_M_feed_53, r_M_feed_54, r_M_feed_57, r_M_feed_59, r_M_feed_61, r_M_feed_63, r_M_feed_65, r_M_feed_66, r_M_feed_67, r_M_feed_68, r_M_feed_69, r_M_feed_70, r_M_feed_73, r_M_feed_74, r_M_feed_75, r_M_feed_76, r_M_feed_77, r_M_feed_80, r_M_feed_81, r_M_feed_82, r_M_feed_85, r_M_feed_88, r_M_feed_91, r_M_feed_92, r_M_feed_95, Q293, n8, e1, em, gupd_ne, w32_gb, w32i, tn_add, tn_mul, Int.toNat_natCast, Int.toNat_zero, Int.reduceLE, Int.reduceLT, Int.reduceEq, Int.reduceNe, gb_T, gb_F, Int.reduceToNat, eq_self, true_or, or_true, and_true, true_and, and_self, ↓ite_gb0, ↓ite_gbn, ↓if_pos, ↓if_neg, if_true, if_false, not_true_eq_false, not_false_eq_true, gb_ne0, gb_eq0]
      refine fin _ _ ?_
      unfold gfb
      rw [if_pos c1]
    · by_cases c2 : k < 8
      · simp (disch := first | assumption | exact gb_01 _ | omega) only [r_M_feed_0, r_M_feed_1, r_M_feed_4, r_M_feed_6, r_M_feed_7, r_M_feed_9, r_M_feed_12, r_M_feed_14, r_M_feed_15, r_M_feed_16, r_M_feed_20, r_M_feed_22, r_M_feed_25, r_M_feed_27, r_M_feed_28, r_M_feed_31, r_M_feed_32, r_M_feed_35, r_M_feed_37, r_M_feed_39, r_M_feed_42, r_M_feed_43, r_M_feed_46, r_M_feed_47, r_M_feed_49, r_M_feed_50, r_M_feed_53, r_M_feed_54, r_M_feed_57, r_M_feed_59, r_M_feed_61, r_M_feed_63, r_M_feed_65, r_M_feed_66, r_M_feed_67, r_M_feed_68, r_M_feed_69, r_M_feed_70, r_M_feed_73, r_M_feed_74, r_M_feed_75, r_M_feed_76, r_M_feed_77, r_M_feed_80, r_M_feed_81, r_M_feed_82, r_M_feed_85, r_M_feed_88, r_M_feed_91, r_M_feed_92, r_M_feed_95, Q293, n8, e1, em, gupd_ne, w32_gb, w32i, tn_add, tn_mul, Int.toNat_natCast, Int.toNat_zero, Int.reduceLE, Int.reduceLT, Int.reduceEq, Int.reduceNe, gb_T, gb_F, Int.reduceToNat, eq_self, true_or, or_true, and_true, true_and, and_self, ↓ite_gb0, ↓ite_gbn, ↓if_pos, ↓if_neg, if_true, if_false, not_true_eq_false, not_false_eq_true, gb_ne0, gb_eq0]
        refine fin _ _ ?_
        unfold gfb
        rw [if_neg c1, if_pos c2]
      · simp (disch := first | assumption | exact gb_01 _ | omega) only [r_M_feed_0, r_M_feed_1, r_M_feed_4, r_M_feed_6, r_M_feed_7, r_M_feed_9, r_M_feed_12, r_M_feed_14, r_M_feed_15, r_M_feed_16, r_M_feed_20, r_M_feed_22, r_M_feed_25, r_M_feed_27, r_M_feed_28, r_M_feed_31, r_M_feed_32, r_M_feed_35, r_M_feed_37, r_M_feed_39, r_M_feed_42, r_M_feed_43, r_M_feed_46, r_M_feed_47, r_M_feed_49, r_M_feed_50, r_M_feed_53, r_M_feed_54, r_M_feed_57, r_M_feed_59, r_M_feed_61, r_M_feed_63, r_M_feed_65, r_M_feed_66, r_M_feed_67, r_M_feed_68, r_M_feed_69, r_M_feed_70, r_M_feed_73, r_M_feed_74, r_M_feed_75, r_M_feed_76, r_M_feed_77, r_M_feed_80, r_M_feed_81, r_M_feed_82, r_M_feed_85, r_M_feed_88, r_M_feed_91, r_M_feed_92, r_M_feed_95, Q293, n8, e1, em, gupd_ne, w32_gb, w32i, tn_add, tn_mul, Int.toNat_natCast, Int.toNat_zero, Int.reduceLE, Int.reduceLT, Int.reduceEq, Int.reduceNe, gb_T, gb_F, Int.reduceToNat, eq_self, true_or, or_true, and_true, true_and, and_self, ↓ite_gb0, ↓ite_gbn, ↓if_pos, ↓if_neg, if_true, if_false, not_true_eq_false, not_false_eq_true, gb_ne0, gb_eq0]
        refine fin _ _ ?_
        unfold gfb
        rw [if_neg c1, if_neg c2]
  · obtain ⟨⟨l, rfl⟩, ⟨h1, h2, h3⟩, hA⟩ := hi
    have h1' : τ 293 9 = σ 293 9 + 12 := by omega
    rw [r_M_feed_18]
    simp (disch := first | assumption | exact gb_01 _ | omega) only [r_M_feed_0, r_M_feed_1, r_M_feed_4, r_M_feed_6, r_M_feed_7, r_M_feed_9, r_M_feed_12, r_M_feed_14, r_M_feed_15, r_M_feed_16, r_M_feed_20, r_M_feed_22, r_M_feed_25, r_M_feed_27, r_M_feed_28, r_M_feed_31, r_M_feed_32, r_M_feed_35, r_M_feed_37, r_M_feed_39, r_M_feed_42, r_M_feed_43, r_M_feed_46, r_M_feed_47, r_M_feed_49, r_M_feed_50, r_M_feed_53, r_M_feed_54, r_M_feed_57, r_M_feed_59, r_M_feed_61, r_M_feed_63, r_M_feed_65, r_M_feed_66, r_M_feed_67, r_M_feed_68, r_M_feed_69, r_M_feed_70, r_M_feed_73, r_M_feed_74, r_M_feed_75, r_M_feed_76, r_M_feed_77, r_M_feed_80, r_M_feed_81, r_M_feed_82, r_M_feed_85, r_M_feed_88, r_M_feed_91, r_M_feed_92, r_M_feed_95, Q293, h1', w32_gb, w32i, tn_add, tn_mul, Int.toNat_natCast, Int.toNat_zero, Int.reduceLE, Int.reduceLT, Int.reduceEq, Int.reduceNe, gb_T, gb_F, Int.reduceToNat, eq_self, true_or, or_true, and_true, true_and, and_self, ↓ite_gb0, ↓ite_gbn, ↓if_pos, ↓if_neg, if_true, if_false, not_true_eq_false, not_false_eq_true, gb_ne0, gb_eq0]
    exact ⟨⟨h2, h3⟩, hA⟩
theorem op_feed (a1 a2 a3 : Int) : Op 37 236 [vI a1, vI a2, vI a3] := by
  intro L d σ hI
  obtain ⟨t1, t2, t3⟩ := hI.2.2.1
  by_cases h : 84 < σ 279 1
  · exact ⟨_, _, _, sp_X_feed_f h, sp_M_feed_f (by omega) (by omega), hI⟩
  · obtain ⟨σ1, hR1, ⟨x1, x2, x3⟩, hA1⟩ := sp_X_feed (L := L) (d := d + 999) (σ := σ) (a1 := a1) (a2 := a2) (a3 := a3) (by omega)
    have e9 := hA1 293 9 (by omega)
    obtain ⟨σ2, hR2, ⟨y1, y2, y3⟩, hA2⟩ := sp_M_feed (L := L) (d := d + 1000) (σ := σ1) (a1 := a1) (a2 := a2) (a3 := a3) (by omega)
    refine ⟨_, _, _, hR1, Run_r hR2 (by omega), ?_⟩
    have hA : Agr σ σ2 (fun k j => (k = 279 ∧ j = 1) ∨ k = 280 ∨ (k = 293 ∧ j = 9) ∨ k = 301) := Agr_trans (Agr_mono hA1 (fun k j hk => by omega)) (Agr_mono hA2 (fun k j hk => by omega))
    refine Inv_mk (P := fun k j => (k = 279 ∧ j = 1) ∨ k = 280 ∨ (k = 293 ∧ j = 9) ∨ k = 301) hI (hA) (Or.inl (fun k j hz hp => by unfold ZB at hz; omega)) (Or.inl (fun k j hz hp => by unfold ZT at hz; omega)) (Or.inl (fun k j hz hp => by unfold ZG at hz; omega)) (Or.inl (fun k j hz hp => by unfold ZS at hz; omega)) (Or.inl (fun k j hz hp => by unfold ZW at hz; omega)) (Or.inl (fun k j hz hp => by unfold ZP at hz; omega)) (Or.inl (fun k j hz hp => by unfold ZR ZK at hz; omega)) (Or.inl (fun k j hz hp => by unfold ZM at hz; omega)) (Or.inr ?_) (Or.inl (fun k j hz hp => by unfold ZTest at hz; omega)) (Or.inl (fun k j hz hp => by unfold ZWait at hz; omega)) (Or.inl (fun k j hz hp => by unfold ZImg at hz; omega))
    refine ⟨?_, ?_, fun i hi => ?_⟩
    · rw [y1, hA2 279 1 (by omega), x1]; omega
    · rw [y1]; omega
    · rw [y1] at hi
      rw [hA2 280 i (by omega)]
      by_cases c : (i : Int) < σ 293 9
      · rw [x3 i (by omega), y3 i (by omega), hA1 301 i (by omega)]
        exact t3 i c
      · have a := x2 (i - (σ 279 1).toNat) (by omega)
        have b := y2 (i - (σ 293 9).toNat) (by omega)
        rw [show (σ 279 1).toNat + (i - (σ 279 1).toNat) = i by omega] at a
        rw [show (σ1 293 9).toNat + (i - (σ 293 9).toNat) = i by omega] at b
        rw [a, b, t1]
        exact ⟨rfl, gand_255 _⟩
