/-! station. -/
variable {L d : Nat} {σ σ1 : Nat → Nat → Int} {Q : Option gV → (Nat → Nat → Int) → Prop} {a0 a1 a2 a3 a4 a5 a6 a7 a8 a9 a10 a11 s0 s1 s2 s3 s4 s5 s6 s7 s8 s9 : Int} {l0 l1 l2 l3 l4 l5 l6 l7 l8 l9 l10 l11 t0 t1 t2 t3 t4 t5 t6 t7 t8 t9 : gV} {b0 b1 b2 b3 b4 b5 b6 b7 b8 b9 b10 b11 c0 c1 c2 c3 c4 c5 c6 c7 c8 c9 : Nat} {r : Option gV}
theorem gupd_rd {σ : gMm} {k j k' j' : Nat} {v : Int} : gupd σ k j v k' j' = if k' = k ∧ j' = j then v else σ k' j' := rfl
theorem tdiv_bd {a b : Int} (ha : 0 ≤ a) (hb : 0 < b) : 0 ≤ a.tdiv b ∧ a.tdiv b ≤ a := by
  rw [Int.tdiv_eq_ediv_of_nonneg ha]
  exact ⟨Int.ediv_nonneg ha (by omega), Int.ediv_le_self b ha⟩
theorem r_X_station_0 : Wp L d k_X_station 0 [l0, vI a1, l2, l3] [] σ Q ↔ Wp L d k_X_station 1 [l0, vI a1, l2, l3] [vI a1] σ Q := wp_iload rfl rfl
theorem r_X_station_1 : Wp L d k_X_station 1 [l0, l1, l2, l3] [vI s0] σ Q ↔ Wp L d k_X_station 2 [l0, l1, l2, l3] [vI 0, vI s0] σ Q := wp_push rfl
theorem r_X_station_2 : Wp L d k_X_station 2 [l0, l1, l2, l3] [vI s1, vI s0] σ Q ↔ Wp L d k_X_station 5 [l0, l1, l2, l3] [vI 999, vI s1, vI s0] σ Q := wp_push rfl
theorem r_X_station_8 : Wp L d k_X_station 8 [l0, l1, l2, l3] [vI s0] σ Q ↔ (if s0 = 0 then Wp L d k_X_station 33 [l0, l1, l2, l3] [] σ Q else Wp L d k_X_station 11 [l0, l1, l2, l3] [] σ Q) := wp_if_eq rfl
theorem r_X_station_11 : Wp L d k_X_station 11 [l0, l1, vI a2, l3] [] σ Q ↔ Wp L d k_X_station 12 [l0, l1, vI a2, l3] [vI a2] σ Q := wp_iload rfl rfl
theorem r_X_station_12 : Wp L d k_X_station 12 [l0, l1, l2, l3] [vI s0] σ Q ↔ Wp L d k_X_station 13 [l0, l1, l2, l3] [vI 0, vI s0] σ Q := wp_push rfl
theorem r_X_station_13 : Wp L d k_X_station 13 [l0, l1, l2, l3] [vI s1, vI s0] σ Q ↔ Wp L d k_X_station 16 [l0, l1, l2, l3] [vI 999, vI s1, vI s0] σ Q := wp_push rfl
theorem r_X_station_19 : Wp L d k_X_station 19 [l0, l1, l2, l3] [vI s0] σ Q ↔ (if s0 = 0 then Wp L d k_X_station 33 [l0, l1, l2, l3] [] σ Q else Wp L d k_X_station 22 [l0, l1, l2, l3] [] σ Q) := wp_if_eq rfl
theorem r_X_station_22 : Wp L d k_X_station 22 [l0, l1, l2, vI a3] [] σ Q ↔ Wp L d k_X_station 23 [l0, l1, l2, vI a3] [vI a3] σ Q := wp_iload rfl rfl
theorem r_X_station_23 : Wp L d k_X_station 23 [l0, l1, l2, l3] [vI s0] σ Q ↔ Wp L d k_X_station 24 [l0, l1, l2, l3] [vI 0, vI s0] σ Q := wp_push rfl
theorem r_X_station_24 : Wp L d k_X_station 24 [l0, l1, l2, l3] [vI s1, vI s0] σ Q ↔ Wp L d k_X_station 27 [l0, l1, l2, l3] [vI 999, vI s1, vI s0] σ Q := wp_push rfl
theorem r_X_station_30 : Wp L d k_X_station 30 [l0, l1, l2, l3] [vI s0] σ Q ↔ (if s0 ≠ 0 then Wp L d k_X_station 36 [l0, l1, l2, l3] [] σ Q else Wp L d k_X_station 33 [l0, l1, l2, l3] [] σ Q) := wp_if_ne rfl
theorem r_X_station_33 : Wp L d k_X_station 33 [l0, l1, l2, l3] [] σ Q ↔ Wp L d k_X_station 35 [l0, l1, l2, l3] [vI (-1000000001)] σ Q := wp_push rfl
theorem r_X_station_35 : Wp L d k_X_station 35 [l0, l1, l2, l3] [vI s0] σ Q ↔ Q (some (vI s0)) σ := wp_iret rfl
theorem r_X_station_36 : Wp L d k_X_station 36 [vR b0, l1, l2, l3] [] σ Q ↔ Wp L d k_X_station 37 [vR b0, l1, l2, l3] [vR b0] σ Q := wp_aload rfl rfl
theorem r_X_station_37 (h : gK c0 = 0) : Wp L d k_X_station 37 [l0, l1, l2, l3] [vR c0] σ Q ↔ Wp L d k_X_station 40 [l0, l1, l2, l3] [vR (gq c0 0)] σ Q := wp_getR (c := 128) rfl rfl rfl rfl rfl h
theorem r_X_station_40 (h : gK c0 = 5) : Wp L d k_X_station 40 [l0, l1, l2, l3] [vR c0] σ Q ↔ Wp L d k_X_station 43 [l0, l1, l2, l3] [vR (gq c0 5)] σ Q := wp_getR (c := 1413) rfl rfl rfl rfl rfl h
theorem r_X_station_43 (h : gK c0 = 3) : Wp L d k_X_station 43 [l0, l1, l2, l3] [vR c0] σ Q ↔ Wp L d k_X_station 46 [l0, l1, l2, l3] [vI (σ c0 1)] σ Q := wp_getI (c := 769) rfl rfl rfl rfl h
theorem r_X_station_46 : Wp L d k_X_station 46 [l0, l1, l2, l3] [vI s0] σ Q ↔ Wp L d k_X_station 48 [l0, l1, l2, l3] [vI 8, vI s0] σ Q := wp_push rfl
theorem r_X_station_48 : Wp L d k_X_station 48 [l0, l1, l2, l3] [vI s1, vI s0] σ Q ↔ (if s0 < s1 then Wp L d k_X_station 54 [l0, l1, l2, l3] [] σ Q else Wp L d k_X_station 51 [l0, l1, l2, l3] [] σ Q) := wp_cmp_lt rfl
theorem r_X_station_51 : Wp L d k_X_station 51 [l0, l1, l2, l3] [] σ Q ↔ Wp L d k_X_station 53 [l0, l1, l2, l3] [vI (-1000000003)] σ Q := wp_push rfl
theorem r_X_station_53 : Wp L d k_X_station 53 [l0, l1, l2, l3] [vI s0] σ Q ↔ Q (some (vI s0)) σ := wp_iret rfl
theorem r_X_station_54 : Wp L d k_X_station 54 [vR b0, l1, l2, l3] [] σ Q ↔ Wp L d k_X_station 55 [vR b0, l1, l2, l3] [vR b0] σ Q := wp_aload rfl rfl
theorem r_X_station_55 (h : gK c0 = 0) : Wp L d k_X_station 55 [l0, l1, l2, l3] [vR c0] σ Q ↔ Wp L d k_X_station 58 [l0, l1, l2, l3] [vR (gq c0 0)] σ Q := wp_getR (c := 128) rfl rfl rfl rfl rfl h
theorem r_X_station_58 (h : gK c0 = 5) : Wp L d k_X_station 58 [l0, l1, l2, l3] [vR c0] σ Q ↔ Wp L d k_X_station 61 [l0, l1, l2, l3] [vR (gq c0 5)] σ Q := wp_getR (c := 1413) rfl rfl rfl rfl rfl h
theorem r_X_station_61 : Wp L d k_X_station 61 [l0, l1, l2, l3] [vR c0] σ Q ↔ Wp L d k_X_station 62 [l0, l1, l2, l3] [vR c0, vR c0] σ Q := wp_dupR rfl
theorem r_X_station_62 (h : gK c1 = 3) : Wp L d k_X_station 62 [l0, l1, l2, l3] [vR c1, vR c0] σ Q ↔ Wp L d k_X_station 65 [l0, l1, l2, l3] [vI (σ c1 2), vR c0] σ Q := wp_getI (c := 770) rfl rfl rfl rfl h
theorem r_X_station_65 : Wp L d k_X_station 65 [l0, vI a1, l2, l3] [vI s1, vR c0] σ Q ↔ Wp L d k_X_station 66 [l0, vI a1, l2, l3] [vI a1, vI s1, vR c0] σ Q := wp_iload rfl rfl
theorem r_X_station_66 : Wp L d k_X_station 66 [l0, l1, l2, l3] [vI s2, vI s1, vR c0] σ Q ↔ Wp L d k_X_station 67 [l0, l1, l2, l3] [vI (w32 (s1 + s2)), vR c0] σ Q := wp_iadd rfl
theorem r_X_station_67 (h : gK c0 = 3) : Wp L d k_X_station 67 [l0, l1, l2, l3] [vI s1, vR c0] σ Q ↔ Wp L d k_X_station 70 [l0, l1, l2, l3] [] (gupd σ c0 2 s1) Q := wp_putI (c := 770) rfl rfl rfl rfl h
theorem r_X_station_70 : Wp L d k_X_station 70 [vR b0, l1, l2, l3] [] σ Q ↔ Wp L d k_X_station 71 [vR b0, l1, l2, l3] [vR b0] σ Q := wp_aload rfl rfl
theorem r_X_station_71 (h : gK c0 = 0) : Wp L d k_X_station 71 [l0, l1, l2, l3] [vR c0] σ Q ↔ Wp L d k_X_station 74 [l0, l1, l2, l3] [vR (gq c0 0)] σ Q := wp_getR (c := 128) rfl rfl rfl rfl rfl h
theorem r_X_station_74 (h : gK c0 = 5) : Wp L d k_X_station 74 [l0, l1, l2, l3] [vR c0] σ Q ↔ Wp L d k_X_station 77 [l0, l1, l2, l3] [vR (gq c0 5)] σ Q := wp_getR (c := 1413) rfl rfl rfl rfl rfl h
theorem r_X_station_77 : Wp L d k_X_station 77 [l0, l1, l2, l3] [vR c0] σ Q ↔ Wp L d k_X_station 78 [l0, l1, l2, l3] [vR c0, vR c0] σ Q := wp_dupR rfl
theorem r_X_station_78 (h : gK c1 = 3) : Wp L d k_X_station 78 [l0, l1, l2, l3] [vR c1, vR c0] σ Q ↔ Wp L d k_X_station 81 [l0, l1, l2, l3] [vI (σ c1 3), vR c0] σ Q := wp_getI (c := 771) rfl rfl rfl rfl h
theorem r_X_station_81 : Wp L d k_X_station 81 [l0, l1, vI a2, l3] [vI s1, vR c0] σ Q ↔ Wp L d k_X_station 82 [l0, l1, vI a2, l3] [vI a2, vI s1, vR c0] σ Q := wp_iload rfl rfl
theorem r_X_station_82 : Wp L d k_X_station 82 [l0, l1, l2, vI a3] [vI s2, vI s1, vR c0] σ Q ↔ Wp L d k_X_station 83 [l0, l1, l2, vI a3] [vI a3, vI s2, vI s1, vR c0] σ Q := wp_iload rfl rfl
theorem r_X_station_83 : Wp L d k_X_station 83 [l0, l1, l2, l3] [vI s3, vI s2, vI s1, vR c0] σ Q ↔ Wp L d k_X_station 84 [l0, l1, l2, l3] [vI (w32 (s2 + s3)), vI s1, vR c0] σ Q := wp_iadd rfl
theorem r_X_station_84 : Wp L d k_X_station 84 [l0, l1, l2, l3] [vI s2, vI s1, vR c0] σ Q ↔ Wp L d k_X_station 85 [l0, l1, l2, l3] [vI (w32 (s1 + s2)), vR c0] σ Q := wp_iadd rfl
theorem r_X_station_85 (h : gK c0 = 3) : Wp L d k_X_station 85 [l0, l1, l2, l3] [vI s1, vR c0] σ Q ↔ Wp L d k_X_station 88 [l0, l1, l2, l3] [] (gupd σ c0 3 s1) Q := wp_putI (c := 771) rfl rfl rfl rfl h
theorem r_X_station_88 : Wp L d k_X_station 88 [vR b0, l1, l2, l3] [] σ Q ↔ Wp L d k_X_station 89 [vR b0, l1, l2, l3] [vR b0] σ Q := wp_aload rfl rfl
theorem r_X_station_89 (h : gK c0 = 0) : Wp L d k_X_station 89 [l0, l1, l2, l3] [vR c0] σ Q ↔ Wp L d k_X_station 92 [l0, l1, l2, l3] [vR (gq c0 0)] σ Q := wp_getR (c := 128) rfl rfl rfl rfl rfl h
theorem r_X_station_92 (h : gK c0 = 5) : Wp L d k_X_station 92 [l0, l1, l2, l3] [vR c0] σ Q ↔ Wp L d k_X_station 95 [l0, l1, l2, l3] [vR (gq c0 5)] σ Q := wp_getR (c := 1413) rfl rfl rfl rfl rfl h
theorem r_X_station_95 : Wp L d k_X_station 95 [l0, l1, l2, l3] [vR c0] σ Q ↔ Wp L d k_X_station 96 [l0, l1, l2, l3] [vR c0, vR c0] σ Q := wp_dupR rfl
theorem r_X_station_96 (h : gK c1 = 3) : Wp L d k_X_station 96 [l0, l1, l2, l3] [vR c1, vR c0] σ Q ↔ Wp L d k_X_station 99 [l0, l1, l2, l3] [vI (σ c1 1), vR c0] σ Q := wp_getI (c := 769) rfl rfl rfl rfl h
theorem r_X_station_99 : Wp L d k_X_station 99 [l0, l1, l2, l3] [vI s1, vR c0] σ Q ↔ Wp L d k_X_station 100 [l0, l1, l2, l3] [vI s1, vR c0, vI s1] σ Q := wp_dup_x1 rfl
theorem r_X_station_100 : Wp L d k_X_station 100 [l0, l1, l2, l3] [vI s2, vR c1, vI s0] σ Q ↔ Wp L d k_X_station 101 [l0, l1, l2, l3] [vI 1, vI s2, vR c1, vI s0] σ Q := wp_push rfl
theorem r_X_station_101 : Wp L d k_X_station 101 [l0, l1, l2, l3] [vI s3, vI s2, vR c1, vI s0] σ Q ↔ Wp L d k_X_station 102 [l0, l1, l2, l3] [vI (w32 (s2 + s3)), vR c1, vI s0] σ Q := wp_iadd rfl
theorem r_X_station_102 (h : gK c1 = 3) : Wp L d k_X_station 102 [l0, l1, l2, l3] [vI s2, vR c1, vI s0] σ Q ↔ Wp L d k_X_station 105 [l0, l1, l2, l3] [vI s0] (gupd σ c1 1 s2) Q := wp_putI (c := 769) rfl rfl rfl rfl h
theorem r_X_station_105 : Wp L d k_X_station 105 [l0, l1, l2, l3] [vI s0] σ Q ↔ Q (some (vI s0)) σ := wp_iret rfl
theorem r_X_station_5 : Wp L (d + 1) k_X_station 5 [l0, l1, l2, l3] [vI s2, vI s1, vI s0] σ Q ↔ Wp L (d + 1) k_X_station 8 [l0, l1, l2, l3] [vI (gb (s1 ≤ s0 ∧ s0 ≤ s2))] σ Q := wp_callR (d := d + 0) (as := [vI s0, vI s1, vI s2]) (rest := []) rfl rfl rfl rfl rfl rfl rfl rfl (sp_X_within)
theorem r_X_station_16 : Wp L (d + 1) k_X_station 16 [l0, l1, l2, l3] [vI s2, vI s1, vI s0] σ Q ↔ Wp L (d + 1) k_X_station 19 [l0, l1, l2, l3] [vI (gb (s1 ≤ s0 ∧ s0 ≤ s2))] σ Q := wp_callR (d := d + 0) (as := [vI s0, vI s1, vI s2]) (rest := []) rfl rfl rfl rfl rfl rfl rfl rfl (sp_X_within)
theorem r_X_station_27 : Wp L (d + 1) k_X_station 27 [l0, l1, l2, l3] [vI s2, vI s1, vI s0] σ Q ↔ Wp L (d + 1) k_X_station 30 [l0, l1, l2, l3] [vI (gb (s1 ≤ s0 ∧ s0 ≤ s2))] σ Q := wp_callR (d := d + 0) (as := [vI s0, vI s1, vI s2]) (rest := []) rfl rfl rfl rfl rfl rfl rfl rfl (sp_X_within)
theorem sp_X_station_b (h : ¬ ((0 ≤ a1 ∧ a1 ≤ 999) ∧ (0 ≤ a2 ∧ a2 ≤ 999) ∧ (0 ≤ a3 ∧ a3 ≤ 999))) : Run L (d + 1) 69 [vR 27, vI a1, vI a2, vI a3] σ (some (vI (-1000000001))) σ := by
  refine Run_of (C' := k_X_station) rfl ?_
  show Wp L (d + 1) k_X_station 0 [vR 27, vI a1, vI a2, vI a3] [] σ _
  simp only [r_X_station_0, r_X_station_1, r_X_station_2, r_X_station_5, r_X_station_8, r_X_station_11, r_X_station_12, r_X_station_13, r_X_station_16, r_X_station_19, r_X_station_22, r_X_station_23, r_X_station_24, r_X_station_27, r_X_station_30, r_X_station_33, r_X_station_35, r_X_station_36, r_X_station_37, r_X_station_40, r_X_station_43, r_X_station_46, r_X_station_48, r_X_station_51, r_X_station_53, r_X_station_54, r_X_station_55, r_X_station_58, r_X_station_61, r_X_station_62, r_X_station_65, r_X_station_66, r_X_station_67, r_X_station_70, r_X_station_71, r_X_station_74, r_X_station_77, r_X_station_78, r_X_station_81, r_X_station_82, r_X_station_83, r_X_station_84, r_X_station_85, r_X_station_88, r_X_station_89, r_X_station_92, r_X_station_95, r_X_station_96, r_X_station_99, r_X_station_100, r_X_station_101, r_X_station_102, r_X_station_105, gK_27, gK_28, gK_29, gq_27_0, gq_27_1, gK_293, gq_293_0, gK_294, gN_294, gq_28_5, gK_123, gq_123_0, gK_124, gN_124, gupd_rd, Nat.reduceEqDiff, and_false, false_and, Int.reduceLE, Int.reduceLT, Int.reduceEq, Int.reduceToNat, gb_01, eq_self, true_or, or_true, and_true, true_and, and_self, if_true, if_false, not_true_eq_false, not_false_eq_true, ne_eq, gb_ne0, gb_eq0]
  repeat' split
  all_goals first | trivial | omega
theorem sp_X_station_f (h1 : 0 ≤ a1 ∧ a1 ≤ 999) (h2 : 0 ≤ a2 ∧ a2 ≤ 999) (h3 : 0 ≤ a3 ∧ a3 ≤ 999) (h : ¬ σ 123 1 < 8) : Run L (d + 1) 69 [vR 27, vI a1, vI a2, vI a3] σ (some (vI (-1000000003))) σ := by
  refine Run_of (C' := k_X_station) rfl ?_
  show Wp L (d + 1) k_X_station 0 [vR 27, vI a1, vI a2, vI a3] [] σ _
  simp only [r_X_station_0, r_X_station_1, r_X_station_2, r_X_station_5, r_X_station_8, r_X_station_11, r_X_station_12, r_X_station_13, r_X_station_16, r_X_station_19, r_X_station_22, r_X_station_23, r_X_station_24, r_X_station_27, r_X_station_30, r_X_station_33, r_X_station_35, r_X_station_36, r_X_station_37, r_X_station_40, r_X_station_43, r_X_station_46, r_X_station_48, r_X_station_51, r_X_station_53, r_X_station_54, r_X_station_55, r_X_station_58, r_X_station_61, r_X_station_62, r_X_station_65, r_X_station_66, r_X_station_67, r_X_station_70, r_X_station_71, r_X_station_74, r_X_station_77, r_X_station_78, r_X_station_81, r_X_station_82, r_X_station_83, r_X_station_84, r_X_station_85, r_X_station_88, r_X_station_89, r_X_station_92, r_X_station_95, r_X_station_96, r_X_station_99, r_X_station_100, r_X_station_101, r_X_station_102, r_X_station_105, gK_27, gK_28, gK_29, gq_27_0, gq_27_1, gK_293, gq_293_0, gK_294, gN_294, gq_28_5, gK_123, gq_123_0, gK_124, gN_124, h1, h2, h3, h, Int.reduceLE, Int.reduceLT, Int.reduceEq, Int.reduceToNat, gb_01, eq_self, true_or, or_true, and_true, true_and, and_self, if_true, if_false, not_true_eq_false, not_false_eq_true, ne_eq, gb_ne0, gb_eq0]
theorem sp_X_station (h1 : 0 ≤ a1 ∧ a1 ≤ 999) (h2 : 0 ≤ a2 ∧ a2 ≤ 999) (h3 : 0 ≤ a3 ∧ a3 ≤ 999) (h : σ 123 1 < 8) : Run L (d + 1) 69 [vR 27, vI a1, vI a2, vI a3] σ (some (vI (σ 123 1))) (gupd (gupd (gupd σ 123 2 (w32 (σ 123 2 + a1))) 123 3 (w32 (σ 123 3 + w32 (a2 + a3)))) 123 1 (w32 (σ 123 1 + 1))) := by
  refine Run_of (C' := k_X_station) rfl ?_
  show Wp L (d + 1) k_X_station 0 [vR 27, vI a1, vI a2, vI a3] [] σ _
  simp only [r_X_station_0, r_X_station_1, r_X_station_2, r_X_station_5, r_X_station_8, r_X_station_11, r_X_station_12, r_X_station_13, r_X_station_16, r_X_station_19, r_X_station_22, r_X_station_23, r_X_station_24, r_X_station_27, r_X_station_30, r_X_station_33, r_X_station_35, r_X_station_36, r_X_station_37, r_X_station_40, r_X_station_43, r_X_station_46, r_X_station_48, r_X_station_51, r_X_station_53, r_X_station_54, r_X_station_55, r_X_station_58, r_X_station_61, r_X_station_62, r_X_station_65, r_X_station_66, r_X_station_67, r_X_station_70, r_X_station_71, r_X_station_74, r_X_station_77, r_X_station_78, r_X_station_81, r_X_station_82, r_X_station_83, r_X_station_84, r_X_station_85, r_X_station_88, r_X_station_89, r_X_station_92, r_X_station_95, r_X_station_96, r_X_station_99, r_X_station_100, r_X_station_101, r_X_station_102, r_X_station_105, gK_27, gK_28, gK_29, gq_27_0, gq_27_1, gK_293, gq_293_0, gK_294, gN_294, gq_28_5, gK_123, gq_123_0, gK_124, gN_124, h1, h2, h3, h, gupd_rd, Nat.reduceEqDiff, and_false, false_and, Int.reduceLE, Int.reduceLT, Int.reduceEq, Int.reduceToNat, gb_01, eq_self, true_or, or_true, and_true, true_and, and_self, if_true, if_false, not_true_eq_false, not_false_eq_true, ne_eq, gb_ne0, gb_eq0]
theorem r_M_station_0 : Wp L d k_M_station 0 [l0, vI a1, l2, l3, l4] [] σ Q ↔ Wp L d k_M_station 1 [l0, vI a1, l2, l3, l4] [vI a1] σ Q := wp_iload rfl rfl
theorem r_M_station_1 : Wp L d k_M_station 1 [l0, l1, l2, l3, l4] [vI s0] σ Q ↔ Wp L d k_M_station 2 [l0, l1, l2, l3, l4] [vL s0] σ Q := wp_i2l rfl
theorem r_M_station_2 : Wp L d k_M_station 2 [l0, l1, l2, l3, l4] [vL s0] σ Q ↔ Wp L d k_M_station 3 [l0, l1, l2, l3, l4] [vL 0, vL s0] σ Q := wp_pushL rfl
theorem r_M_station_3 : Wp L d k_M_station 3 [l0, l1, l2, l3, l4] [vL s1, vL s0] σ Q ↔ Wp L d k_M_station 6 [l0, l1, l2, l3, l4] [vL 999, vL s1, vL s0] σ Q := wp_pushL rfl
theorem r_M_station_9 : Wp L d k_M_station 9 [l0, l1, l2, l3, l4] [vI s0] σ Q ↔ (if s0 = 0 then Wp L d k_M_station 36 [l0, l1, l2, l3, l4] [] σ Q else Wp L d k_M_station 12 [l0, l1, l2, l3, l4] [] σ Q) := wp_if_eq rfl
theorem r_M_station_12 : Wp L d k_M_station 12 [l0, l1, vI a2, l3, l4] [] σ Q ↔ Wp L d k_M_station 13 [l0, l1, vI a2, l3, l4] [vI a2] σ Q := wp_iload rfl rfl
theorem r_M_station_13 : Wp L d k_M_station 13 [l0, l1, l2, l3, l4] [vI s0] σ Q ↔ Wp L d k_M_station 14 [l0, l1, l2, l3, l4] [vL s0] σ Q := wp_i2l rfl
theorem r_M_station_14 : Wp L d k_M_station 14 [l0, l1, l2, l3, l4] [vL s0] σ Q ↔ Wp L d k_M_station 15 [l0, l1, l2, l3, l4] [vL 0, vL s0] σ Q := wp_pushL rfl
theorem r_M_station_15 : Wp L d k_M_station 15 [l0, l1, l2, l3, l4] [vL s1, vL s0] σ Q ↔ Wp L d k_M_station 18 [l0, l1, l2, l3, l4] [vL 999, vL s1, vL s0] σ Q := wp_pushL rfl
theorem r_M_station_21 : Wp L d k_M_station 21 [l0, l1, l2, l3, l4] [vI s0] σ Q ↔ (if s0 = 0 then Wp L d k_M_station 36 [l0, l1, l2, l3, l4] [] σ Q else Wp L d k_M_station 24 [l0, l1, l2, l3, l4] [] σ Q) := wp_if_eq rfl
theorem r_M_station_24 : Wp L d k_M_station 24 [l0, l1, l2, vI a3, l4] [] σ Q ↔ Wp L d k_M_station 25 [l0, l1, l2, vI a3, l4] [vI a3] σ Q := wp_iload rfl rfl
theorem r_M_station_25 : Wp L d k_M_station 25 [l0, l1, l2, l3, l4] [vI s0] σ Q ↔ Wp L d k_M_station 26 [l0, l1, l2, l3, l4] [vL s0] σ Q := wp_i2l rfl
theorem r_M_station_26 : Wp L d k_M_station 26 [l0, l1, l2, l3, l4] [vL s0] σ Q ↔ Wp L d k_M_station 27 [l0, l1, l2, l3, l4] [vL 0, vL s0] σ Q := wp_pushL rfl
theorem r_M_station_27 : Wp L d k_M_station 27 [l0, l1, l2, l3, l4] [vL s1, vL s0] σ Q ↔ Wp L d k_M_station 30 [l0, l1, l2, l3, l4] [vL 999, vL s1, vL s0] σ Q := wp_pushL rfl
theorem r_M_station_33 : Wp L d k_M_station 33 [l0, l1, l2, l3, l4] [vI s0] σ Q ↔ (if s0 ≠ 0 then Wp L d k_M_station 39 [l0, l1, l2, l3, l4] [] σ Q else Wp L d k_M_station 36 [l0, l1, l2, l3, l4] [] σ Q) := wp_if_ne rfl
theorem r_M_station_36 : Wp L d k_M_station 36 [l0, l1, l2, l3, l4] [] σ Q ↔ Wp L d k_M_station 38 [l0, l1, l2, l3, l4] [vI (-1000000001)] σ Q := wp_push rfl
theorem r_M_station_38 : Wp L d k_M_station 38 [l0, l1, l2, l3, l4] [vI s0] σ Q ↔ Q (some (vI s0)) σ := wp_iret rfl
theorem r_M_station_39 : Wp L d k_M_station 39 [vR b0, l1, l2, l3, l4] [] σ Q ↔ Wp L d k_M_station 40 [vR b0, l1, l2, l3, l4] [vR b0] σ Q := wp_aload rfl rfl
theorem r_M_station_40 (h : gK c0 = 12) : Wp L d k_M_station 40 [l0, l1, l2, l3, l4] [vR c0] σ Q ↔ Wp L d k_M_station 43 [l0, l1, l2, l3, l4] [vR (gq c0 0)] σ Q := wp_getR (c := 3200) rfl rfl rfl rfl rfl h
theorem r_M_station_43 : Wp L d k_M_station 43 [l0, l1, l2, l3, l4] [vR c0] σ Q ↔ Wp L d k_M_station 44 [l0, l1, l2, l3, l4] [vI 4, vR c0] σ Q := wp_push rfl
theorem r_M_station_44 (h : gK c0 = 100) (hx : 0 ≤ s1 ∧ s1 < gN c0) : Wp L d k_M_station 44 [l0, l1, l2, l3, l4] [vI s1, vR c0] σ Q ↔ Wp L d k_M_station 45 [l0, l1, l2, l3, l4] [vI (σ c0 s1.toNat)] σ Q := wp_iald rfl h hx
theorem r_M_station_45 : Wp L d k_M_station 45 [l0, l1, l2, l3, l4] [vI s0] σ Q ↔ Wp L d k_M_station 47 [l0, l1, l2, l3, l4] [vI 8, vI s0] σ Q := wp_push rfl
theorem r_M_station_47 : Wp L d k_M_station 47 [l0, l1, l2, l3, l4] [vI s1, vI s0] σ Q ↔ (if s0 ≠ s1 then Wp L d k_M_station 53 [l0, l1, l2, l3, l4] [] σ Q else Wp L d k_M_station 50 [l0, l1, l2, l3, l4] [] σ Q) := wp_cmp_ne rfl
theorem r_M_station_50 : Wp L d k_M_station 50 [l0, l1, l2, l3, l4] [] σ Q ↔ Wp L d k_M_station 52 [l0, l1, l2, l3, l4] [vI (-1000000003)] σ Q := wp_push rfl
theorem r_M_station_52 : Wp L d k_M_station 52 [l0, l1, l2, l3, l4] [vI s0] σ Q ↔ Q (some (vI s0)) σ := wp_iret rfl
theorem r_M_station_53 : Wp L d k_M_station 53 [l0, l1, l2, l3, l4] [] σ Q ↔ Wp L d k_M_station 56 [l0, l1, l2, l3, l4] [vI 820] σ Q := wp_push rfl
theorem r_M_station_56 : Wp L d k_M_station 56 [l0, l1, l2, l3, l4] [vI s0] σ Q ↔ Wp L d k_M_station 57 [l0, l1, l2, l3, l4] [vI 3, vI s0] σ Q := wp_push rfl
theorem r_M_station_57 : Wp L d k_M_station 57 [vR b0, l1, l2, l3, l4] [vI s1, vI s0] σ Q ↔ Wp L d k_M_station 58 [vR b0, l1, l2, l3, l4] [vR b0, vI s1, vI s0] σ Q := wp_aload rfl rfl
theorem r_M_station_58 (h : gK c2 = 12) : Wp L d k_M_station 58 [l0, l1, l2, l3, l4] [vR c2, vI s1, vI s0] σ Q ↔ Wp L d k_M_station 61 [l0, l1, l2, l3, l4] [vR (gq c2 0), vI s1, vI s0] σ Q := wp_getR (c := 3200) rfl rfl rfl rfl rfl h
theorem r_M_station_61 : Wp L d k_M_station 61 [l0, l1, l2, l3, l4] [vR c2, vI s1, vI s0] σ Q ↔ Wp L d k_M_station 62 [l0, l1, l2, l3, l4] [vI 4, vR c2, vI s1, vI s0] σ Q := wp_push rfl
theorem r_M_station_62 (h : gK c2 = 100) (hx : 0 ≤ s3 ∧ s3 < gN c2) : Wp L d k_M_station 62 [l0, l1, l2, l3, l4] [vI s3, vR c2, vI s1, vI s0] σ Q ↔ Wp L d k_M_station 63 [l0, l1, l2, l3, l4] [vI (σ c2 s3.toNat), vI s1, vI s0] σ Q := wp_iald rfl h hx
theorem r_M_station_63 : Wp L d k_M_station 63 [l0, l1, l2, l3, l4] [vI s2, vI s1, vI s0] σ Q ↔ Wp L d k_M_station 64 [l0, l1, l2, l3, l4] [vI (w32 (s1 * s2)), vI s0] σ Q := wp_imul rfl
theorem r_M_station_64 : Wp L d k_M_station 64 [l0, l1, l2, l3, l4] [vI s1, vI s0] σ Q ↔ Wp L d k_M_station 65 [l0, l1, l2, l3, l4] [vI (w32 (s0 + s1))] σ Q := wp_iadd rfl
theorem r_M_station_65 : Wp L d k_M_station 65 [l0, l1, l2, vI a3, l4] [vI s0] σ Q ↔ Wp L d k_M_station 67 [l0, l1, l2, vI a3, vI s0] [] σ Q := wp_istore (i := 4) (ls := [l0, l1, l2, vI a3, l4]) rfl rfl
theorem r_M_station_67 : Wp L d k_M_station 67 [vR b0, l1, l2, l3, l4] [] σ Q ↔ Wp L d k_M_station 68 [vR b0, l1, l2, l3, l4] [vR b0] σ Q := wp_aload rfl rfl
theorem r_M_station_68 (h : gK c0 = 12) : Wp L d k_M_station 68 [l0, l1, l2, l3, l4] [vR c0] σ Q ↔ Wp L d k_M_station 71 [l0, l1, l2, l3, l4] [vR (gq c0 0)] σ Q := wp_getR (c := 3200) rfl rfl rfl rfl rfl h
theorem r_M_station_71 : Wp L d k_M_station 71 [l0, l1, l2, l3, vI a4] [vR c0] σ Q ↔ Wp L d k_M_station 73 [l0, l1, l2, l3, vI a4] [vI a4, vR c0] σ Q := wp_iload rfl rfl
theorem r_M_station_73 : Wp L d k_M_station 73 [l0, vI a1, l2, l3, l4] [vI s1, vR c0] σ Q ↔ Wp L d k_M_station 74 [l0, vI a1, l2, l3, l4] [vI a1, vI s1, vR c0] σ Q := wp_iload rfl rfl
theorem r_M_station_74 (h : gK c0 = 100) (hx : 0 ≤ s1 ∧ s1 < gN c0) : Wp L d k_M_station 74 [l0, l1, l2, l3, l4] [vI s2, vI s1, vR c0] σ Q ↔ Wp L d k_M_station 75 [l0, l1, l2, l3, l4] [] (gupd σ c0 s1.toNat s2) Q := wp_iast rfl h hx
theorem r_M_station_75 : Wp L d k_M_station 75 [vR b0, l1, l2, l3, l4] [] σ Q ↔ Wp L d k_M_station 76 [vR b0, l1, l2, l3, l4] [vR b0] σ Q := wp_aload rfl rfl
theorem r_M_station_76 (h : gK c0 = 12) : Wp L d k_M_station 76 [l0, l1, l2, l3, l4] [vR c0] σ Q ↔ Wp L d k_M_station 79 [l0, l1, l2, l3, l4] [vR (gq c0 0)] σ Q := wp_getR (c := 3200) rfl rfl rfl rfl rfl h
theorem r_M_station_79 : Wp L d k_M_station 79 [l0, l1, l2, l3, vI a4] [vR c0] σ Q ↔ Wp L d k_M_station 81 [l0, l1, l2, l3, vI a4] [vI a4, vR c0] σ Q := wp_iload rfl rfl
theorem r_M_station_81 : Wp L d k_M_station 81 [l0, l1, l2, l3, l4] [vI s1, vR c0] σ Q ↔ Wp L d k_M_station 82 [l0, l1, l2, l3, l4] [vI 1, vI s1, vR c0] σ Q := wp_push rfl
theorem r_M_station_82 : Wp L d k_M_station 82 [l0, l1, l2, l3, l4] [vI s2, vI s1, vR c0] σ Q ↔ Wp L d k_M_station 83 [l0, l1, l2, l3, l4] [vI (w32 (s1 + s2)), vR c0] σ Q := wp_iadd rfl
theorem r_M_station_83 : Wp L d k_M_station 83 [l0, l1, vI a2, l3, l4] [vI s1, vR c0] σ Q ↔ Wp L d k_M_station 84 [l0, l1, vI a2, l3, l4] [vI a2, vI s1, vR c0] σ Q := wp_iload rfl rfl
theorem r_M_station_84 (h : gK c0 = 100) (hx : 0 ≤ s1 ∧ s1 < gN c0) : Wp L d k_M_station 84 [l0, l1, l2, l3, l4] [vI s2, vI s1, vR c0] σ Q ↔ Wp L d k_M_station 85 [l0, l1, l2, l3, l4] [] (gupd σ c0 s1.toNat s2) Q := wp_iast rfl h hx
theorem r_M_station_85 : Wp L d k_M_station 85 [vR b0, l1, l2, l3, l4] [] σ Q ↔ Wp L d k_M_station 86 [vR b0, l1, l2, l3, l4] [vR b0] σ Q := wp_aload rfl rfl
theorem r_M_station_86 (h : gK c0 = 12) : Wp L d k_M_station 86 [l0, l1, l2, l3, l4] [vR c0] σ Q ↔ Wp L d k_M_station 89 [l0, l1, l2, l3, l4] [vR (gq c0 0)] σ Q := wp_getR (c := 3200) rfl rfl rfl rfl rfl h
theorem r_M_station_89 : Wp L d k_M_station 89 [l0, l1, l2, l3, vI a4] [vR c0] σ Q ↔ Wp L d k_M_station 91 [l0, l1, l2, l3, vI a4] [vI a4, vR c0] σ Q := wp_iload rfl rfl
theorem r_M_station_91 : Wp L d k_M_station 91 [l0, l1, l2, l3, l4] [vI s1, vR c0] σ Q ↔ Wp L d k_M_station 92 [l0, l1, l2, l3, l4] [vI 2, vI s1, vR c0] σ Q := wp_push rfl
theorem r_M_station_92 : Wp L d k_M_station 92 [l0, l1, l2, l3, l4] [vI s2, vI s1, vR c0] σ Q ↔ Wp L d k_M_station 93 [l0, l1, l2, l3, l4] [vI (w32 (s1 + s2)), vR c0] σ Q := wp_iadd rfl
theorem r_M_station_93 : Wp L d k_M_station 93 [l0, l1, l2, vI a3, l4] [vI s1, vR c0] σ Q ↔ Wp L d k_M_station 94 [l0, l1, l2, vI a3, l4] [vI a3, vI s1, vR c0] σ Q := wp_iload rfl rfl
theorem r_M_station_94 (h : gK c0 = 100) (hx : 0 ≤ s1 ∧ s1 < gN c0) : Wp L d k_M_station 94 [l0, l1, l2, l3, l4] [vI s2, vI s1, vR c0] σ Q ↔ Wp L d k_M_station 95 [l0, l1, l2, l3, l4] [] (gupd σ c0 s1.toNat s2) Q := wp_iast rfl h hx
theorem r_M_station_95 : Wp L d k_M_station 95 [vR b0, l1, l2, l3, l4] [] σ Q ↔ Wp L d k_M_station 96 [vR b0, l1, l2, l3, l4] [vR b0] σ Q := wp_aload rfl rfl
theorem r_M_station_96 (h : gK c0 = 12) : Wp L d k_M_station 96 [l0, l1, l2, l3, l4] [vR c0] σ Q ↔ Wp L d k_M_station 99 [l0, l1, l2, l3, l4] [vR (gq c0 0)] σ Q := wp_getR (c := 3200) rfl rfl rfl rfl rfl h
theorem r_M_station_99 : Wp L d k_M_station 99 [l0, l1, l2, l3, l4] [vR c0] σ Q ↔ Wp L d k_M_station 100 [l0, l1, l2, l3, l4] [vI 4, vR c0] σ Q := wp_push rfl
theorem r_M_station_100 : Wp L d k_M_station 100 [l0, l1, l2, l3, l4] [vI s1, vR c0] σ Q ↔ Wp L d k_M_station 101 [l0, l1, l2, l3, l4] [vI s1, vR c0, vI s1, vR c0] σ Q := wp_dup2 rfl
theorem r_M_station_101 (h : gK c2 = 100) (hx : 0 ≤ s3 ∧ s3 < gN c2) : Wp L d k_M_station 101 [l0, l1, l2, l3, l4] [vI s3, vR c2, vI s1, vR c0] σ Q ↔ Wp L d k_M_station 102 [l0, l1, l2, l3, l4] [vI (σ c2 s3.toNat), vI s1, vR c0] σ Q := wp_iald rfl h hx
theorem r_M_station_102 : Wp L d k_M_station 102 [l0, l1, l2, l3, l4] [vI s2, vI s1, vR c0] σ Q ↔ Wp L d k_M_station 103 [l0, l1, l2, l3, l4] [vI 1, vI s2, vI s1, vR c0] σ Q := wp_push rfl
theorem r_M_station_103 : Wp L d k_M_station 103 [l0, l1, l2, l3, l4] [vI s3, vI s2, vI s1, vR c0] σ Q ↔ Wp L d k_M_station 104 [l0, l1, l2, l3, l4] [vI (w32 (s2 + s3)), vI s1, vR c0] σ Q := wp_iadd rfl
theorem r_M_station_104 (h : gK c0 = 100) (hx : 0 ≤ s1 ∧ s1 < gN c0) : Wp L d k_M_station 104 [l0, l1, l2, l3, l4] [vI s2, vI s1, vR c0] σ Q ↔ Wp L d k_M_station 105 [l0, l1, l2, l3, l4] [] (gupd σ c0 s1.toNat s2) Q := wp_iast rfl h hx
theorem r_M_station_105 : Wp L d k_M_station 105 [vR b0, l1, l2, l3, l4] [] σ Q ↔ Wp L d k_M_station 106 [vR b0, l1, l2, l3, l4] [vR b0] σ Q := wp_aload rfl rfl
theorem r_M_station_106 (h : gK c0 = 12) : Wp L d k_M_station 106 [l0, l1, l2, l3, l4] [vR c0] σ Q ↔ Wp L d k_M_station 109 [l0, l1, l2, l3, l4] [vR (gq c0 0)] σ Q := wp_getR (c := 3200) rfl rfl rfl rfl rfl h
theorem r_M_station_109 : Wp L d k_M_station 109 [l0, l1, l2, l3, l4] [vR c0] σ Q ↔ Wp L d k_M_station 110 [l0, l1, l2, l3, l4] [vI 4, vR c0] σ Q := wp_push rfl
theorem r_M_station_110 (h : gK c0 = 100) (hx : 0 ≤ s1 ∧ s1 < gN c0) : Wp L d k_M_station 110 [l0, l1, l2, l3, l4] [vI s1, vR c0] σ Q ↔ Wp L d k_M_station 111 [l0, l1, l2, l3, l4] [vI (σ c0 s1.toNat)] σ Q := wp_iald rfl h hx
theorem r_M_station_111 : Wp L d k_M_station 111 [l0, l1, l2, l3, l4] [vI s0] σ Q ↔ Wp L d k_M_station 112 [l0, l1, l2, l3, l4] [vI 1, vI s0] σ Q := wp_push rfl
theorem r_M_station_112 : Wp L d k_M_station 112 [l0, l1, l2, l3, l4] [vI s1, vI s0] σ Q ↔ Wp L d k_M_station 113 [l0, l1, l2, l3, l4] [vI (w32 (s0 - s1))] σ Q := wp_isub rfl
theorem r_M_station_113 : Wp L d k_M_station 113 [l0, l1, l2, l3, l4] [vI s0] σ Q ↔ Q (some (vI s0)) σ := wp_iret rfl
theorem r_M_station_6 : Wp L (d + 1) k_M_station 6 [l0, l1, l2, l3, l4] [vL s2, vL s1, vL s0] σ Q ↔ Wp L (d + 1) k_M_station 9 [l0, l1, l2, l3, l4] [vI (gb (s1 ≤ s0 ∧ s0 ≤ s2))] σ Q := wp_callR (d := d + 0) (as := [vL s0, vL s1, vL s2]) (rest := []) rfl rfl rfl rfl rfl rfl rfl rfl (sp_M_isIn)
theorem r_M_station_18 : Wp L (d + 1) k_M_station 18 [l0, l1, l2, l3, l4] [vL s2, vL s1, vL s0] σ Q ↔ Wp L (d + 1) k_M_station 21 [l0, l1, l2, l3, l4] [vI (gb (s1 ≤ s0 ∧ s0 ≤ s2))] σ Q := wp_callR (d := d + 0) (as := [vL s0, vL s1, vL s2]) (rest := []) rfl rfl rfl rfl rfl rfl rfl rfl (sp_M_isIn)
theorem r_M_station_30 : Wp L (d + 1) k_M_station 30 [l0, l1, l2, l3, l4] [vL s2, vL s1, vL s0] σ Q ↔ Wp L (d + 1) k_M_station 33 [l0, l1, l2, l3, l4] [vI (gb (s1 ≤ s0 ∧ s0 ≤ s2))] σ Q := wp_callR (d := d + 0) (as := [vL s0, vL s1, vL s2]) (rest := []) rfl rfl rfl rfl rfl rfl rfl rfl (sp_M_isIn)
theorem sp_M_station_b (h : ¬ ((0 ≤ a1 ∧ a1 ≤ 999) ∧ (0 ≤ a2 ∧ a2 ≤ 999) ∧ (0 ≤ a3 ∧ a3 ≤ 999))) : Run L (d + 1) 297 [vR 293, vI a1, vI a2, vI a3] σ (some (vI (-1000000001))) σ := by
  refine Run_of (C' := k_M_station) rfl ?_
  show Wp L (d + 1) k_M_station 0 [vR 293, vI a1, vI a2, vI a3, vU] [] σ _
  simp only [r_M_station_0, r_M_station_1, r_M_station_2, r_M_station_3, r_M_station_6, r_M_station_9, r_M_station_12, r_M_station_13, r_M_station_14, r_M_station_15, r_M_station_18, r_M_station_21, r_M_station_24, r_M_station_25, r_M_station_26, r_M_station_27, r_M_station_30, r_M_station_33, r_M_station_36, r_M_station_38, r_M_station_39, gK_27, gK_28, gK_29, gq_27_0, gq_27_1, gK_293, gq_293_0, gK_294, gN_294, Int.reduceLE, Int.reduceLT, Int.reduceEq, Int.reduceToNat, gb_01, eq_self, true_or, or_true, and_true, true_and, and_self, if_true, if_false, not_true_eq_false, not_false_eq_true, ne_eq, gb_ne0, gb_eq0]
  repeat' split
  all_goals first | trivial | omega
theorem sp_M_station_f (h1 : 0 ≤ a1 ∧ a1 ≤ 999) (h2 : 0 ≤ a2 ∧ a2 ≤ 999) (h3 : 0 ≤ a3 ∧ a3 ≤ 999) (h : σ 294 4 = 8) : Run L (d + 1) 297 [vR 293, vI a1, vI a2, vI a3] σ (some (vI (-1000000003))) σ := by
  refine Run_of (C' := k_M_station) rfl ?_
  show Wp L (d + 1) k_M_station 0 [vR 293, vI a1, vI a2, vI a3, vU] [] σ _
  simp only [r_M_station_0, r_M_station_1, r_M_station_2, r_M_station_3, r_M_station_6, r_M_station_9, r_M_station_12, r_M_station_13, r_M_station_14, r_M_station_15, r_M_station_18, r_M_station_21, r_M_station_24, r_M_station_25, r_M_station_26, r_M_station_27, r_M_station_30, r_M_station_33, r_M_station_36, r_M_station_38, r_M_station_39, r_M_station_40, r_M_station_43, r_M_station_44, r_M_station_45, r_M_station_47, r_M_station_50, r_M_station_52, r_M_station_53, r_M_station_56, r_M_station_57, r_M_station_58, r_M_station_61, r_M_station_62, r_M_station_63, r_M_station_64, r_M_station_65, r_M_station_67, r_M_station_68, r_M_station_71, r_M_station_73, r_M_station_74, r_M_station_75, r_M_station_76, r_M_station_79, r_M_station_81, r_M_station_82, r_M_station_83, r_M_station_84, r_M_station_85, r_M_station_86, r_M_station_89, r_M_station_91, r_M_station_92, r_M_station_93, r_M_station_94, r_M_station_95, r_M_station_96, r_M_station_99, r_M_station_100, r_M_station_101, r_M_station_102, r_M_station_103, r_M_station_104, r_M_station_105, r_M_station_106, r_M_station_109, r_M_station_110, r_M_station_111, r_M_station_112, r_M_station_113, gK_27, gK_28, gK_29, gq_27_0, gq_27_1, gK_293, gq_293_0, gK_294, gN_294, h1, h2, h3, h, Int.reduceLE, Int.reduceLT, Int.reduceEq, Int.reduceToNat, gb_01, eq_self, true_or, or_true, and_true, true_and, and_self, if_true, if_false, not_true_eq_false, not_false_eq_true, ne_eq, gb_ne0, gb_eq0]
theorem sp_M_station (h1 : 0 ≤ a1 ∧ a1 ≤ 999) (h2 : 0 ≤ a2 ∧ a2 ≤ 999) (h3 : 0 ≤ a3 ∧ a3 ≤ 999) (h : 0 ≤ σ 294 4 ∧ σ 294 4 < 8) : Run L (d + 1) 297 [vR 293, vI a1, vI a2, vI a3] σ (some (vI (σ 294 4))) (gupd (gupd (gupd (gupd σ 294 (820 + 3 * σ 294 4).toNat a1) 294 (820 + 3 * σ 294 4 + 1).toNat a2) 294 (820 + 3 * σ 294 4 + 2).toNat a3) 294 4 (σ 294 4 + 1)) := by
  have w0 : w32 (3 * σ 294 4) = 3 * σ 294 4 := w32_id (by unfold gr32; omega)
  have w1 : w32 (820 + 3 * σ 294 4) = 820 + 3 * σ 294 4 := w32_id (by unfold gr32; omega)
  have w2 : w32 (820 + 3 * σ 294 4 + 1) = 820 + 3 * σ 294 4 + 1 := w32_id (by unfold gr32; omega)
  have w3 : w32 (820 + 3 * σ 294 4 + 2) = 820 + 3 * σ 294 4 + 2 := w32_id (by unfold gr32; omega)
  have w4 : w32 (σ 294 4 + 1) = σ 294 4 + 1 := w32_id (by unfold gr32; omega)
  have wz : w32 (σ 294 4 + 1 - 1) = σ 294 4 := by rw [w32_id (by unfold gr32; omega)]; omega
  have p0 : 0 ≤ 820 + 3 * σ 294 4 ∧ 820 + 3 * σ 294 4 < 3540 := by omega
  have p1 : 0 ≤ 820 + 3 * σ 294 4 + 1 ∧ 820 + 3 * σ 294 4 + 1 < 3540 := by omega
  have p2 : 0 ≤ 820 + 3 * σ 294 4 + 2 ∧ 820 + 3 * σ 294 4 + 2 < 3540 := by omega
  have n0 : ¬ 4 = (820 + 3 * σ 294 4).toNat := by omega
  have n1 : ¬ 4 = (820 + 3 * σ 294 4 + 1).toNat := by omega
  have n2 : ¬ 4 = (820 + 3 * σ 294 4 + 2).toNat := by omega
  have h' : ¬ σ 294 4 = 8 := by omega
  refine Run_of (C' := k_M_station) rfl ?_
  show Wp L (d + 1) k_M_station 0 [vR 293, vI a1, vI a2, vI a3, vU] [] σ _
  simp only [r_M_station_0, r_M_station_1, r_M_station_2, r_M_station_3, r_M_station_6, r_M_station_9, r_M_station_12, r_M_station_13, r_M_station_14, r_M_station_15, r_M_station_18, r_M_station_21, r_M_station_24, r_M_station_25, r_M_station_26, r_M_station_27, r_M_station_30, r_M_station_33, r_M_station_36, r_M_station_38, r_M_station_39, r_M_station_40, r_M_station_43, r_M_station_44, r_M_station_45, r_M_station_47, r_M_station_50, r_M_station_52, r_M_station_53, r_M_station_56, r_M_station_57, r_M_station_58, r_M_station_61, r_M_station_62, r_M_station_63, r_M_station_64, r_M_station_65, r_M_station_67, r_M_station_68, r_M_station_71, r_M_station_73, r_M_station_74, r_M_station_75, r_M_station_76, r_M_station_79, r_M_station_81, r_M_station_82, r_M_station_83, r_M_station_84, r_M_station_85, r_M_station_86, r_M_station_89, r_M_station_91, r_M_station_92, r_M_station_93, r_M_station_94, r_M_station_95, r_M_station_96, r_M_station_99, r_M_station_100, r_M_station_101, r_M_station_102, r_M_station_103, r_M_station_104, r_M_station_105, r_M_station_106, r_M_station_109, r_M_station_110, r_M_station_111, r_M_station_112, r_M_station_113, gK_27, gK_28, gK_29, gq_27_0, gq_27_1, gK_293, gq_293_0, gK_294, gN_294, h1, h2, h3, h', wz, p0, p1, p2, n0, n1, n2, w0, w1, w2, w3, w4, gupd_rd, Nat.reduceEqDiff, and_false, false_and, Int.reduceLE, Int.reduceLT, Int.reduceEq, Int.reduceToNat, gb_01, eq_self, true_or, or_true, and_true, true_and, and_self, if_true, if_false, not_true_eq_false, not_false_eq_true, ne_eq, gb_ne0, gb_eq0]
theorem station_new {σ τ : gMm} {N : Nat} {a1 a2 a3 : Int} (hw : WP (σ 294)) (hc : CP 123 (σ 294) σ) (h1 : 0 ≤ a1 ∧ a1 ≤ 999) (h2 : 0 ≤ a2 ∧ a2 ≤ 999) (h3 : 0 ≤ a3 ∧ a3 ≤ 999) (u : σ 294 4 = (N : Int)) (hN : N < 8) (f4 : τ 294 4 = σ 294 4 + 1) (fo : ∀ j : Nat, j ≠ 4 → j ≠ 820 + 3 * N → j ≠ 820 + 3 * N + 1 → j ≠ 820 + 3 * N + 2 → τ 294 j = σ 294 j) (g0 : τ 294 (820 + 3 * N) = a1) (g1 : τ 294 (820 + 3 * N + 1) = a2) (g2 : τ 294 (820 + 3 * N + 2) = a3) (x1 : τ 123 1 = σ 123 1 + 1) (x2 : τ 123 2 = σ 123 2 + a1) (x3 : τ 123 3 = σ 123 3 + (a2 + a3)) (x4 : τ 123 4 = σ 123 4) (x5 : ∀ j, τ 124 j = σ 124 j) : WP (τ 294) ∧ CP 123 (τ 294) τ := by
  obtain ⟨w1, w2, w3, w4⟩ := hw
  obtain ⟨c1, c2, c3, c4, c5⟩ := hc
  have t1 : (σ 294 4 + 1).toNat = N + 1 := by omega
  have t0 : (σ 294 4).toNat = N := by omega
  have f5 := fo 5 (by omega) (by omega) (by omega) (by omega)
  refine ⟨⟨by omega, fun k hk => ?_, by rw [f5]; exact w3, fun k hk => ?_⟩, by omega, ?_, ?_, by rw [x4, f5]; exact c4, fun k hk => ?_⟩
  · by_cases e : k = N
    · rw [e, g0, g1, g2]
      exact ⟨h1, h2, h3⟩
    · rw [fo _ (by omega) (by omega) (by omega) (by omega), fo _ (by omega) (by omega) (by omega) (by omega), fo _ (by omega) (by omega) (by omega) (by omega)]
      exact w2 k (by omega)
  · rw [f5] at hk
    rw [fo _ (by omega) (by omega) (by omega) (by omega), fo _ (by omega) (by omega) (by omega) (by omega), fo _ (by omega) (by omega) (by omega) (by omega), fo _ (by omega) (by omega) (by omega) (by omega)]
    exact w4 k hk
  · rw [x2, f4, t1, c2, t0]
    simp only [gsm]
    rw [g0, gsm_eq (h := fun k => σ 294 (820 + 3 * k)) N (fun k hk => fo _ (by omega) (by omega) (by omega) (by omega))]
  · rw [x3, f4, t1, c3, t0]
    simp only [gsm]
    rw [g1, g2, gsm_eq (g := fun k => τ 294 (820 + 3 * k + 1) + τ 294 (820 + 3 * k + 2)) (h := fun k => σ 294 (820 + 3 * k + 1) + σ 294 (820 + 3 * k + 2)) N (fun k hk => by rw [fo _ (by omega) (by omega) (by omega) (by omega), fo _ (by omega) (by omega) (by omega) (by omega)])]
  · rw [f5] at hk
    show τ 124 k = _
    rw [x5]
    unfold gspd
    rw [fo _ (by omega) (by omega) (by omega) (by omega), fo _ (by omega) (by omega) (by omega) (by omega), fo _ (by omega) (by omega) (by omega) (by omega), fo _ (by omega) (by omega) (by omega) (by omega)]
    exact c5 k hk
theorem op_station (a1 a2 a3 : Int) : Op 69 297 [vI a1, vI a2, vI a3] := by
  intro L d σ hI
  obtain ⟨⟨w1, w2, w3, w4⟩, c1, c2, c3, c4, c5⟩ := iP hI
  by_cases h : (0 ≤ a1 ∧ a1 ≤ 999) ∧ (0 ≤ a2 ∧ a2 ≤ 999) ∧ (0 ≤ a3 ∧ a3 ≤ 999)
  · obtain ⟨h1, h2, h3⟩ := h
    by_cases e : σ 123 1 < 8
    · have r4 : ∀ x y z : Int, gupd (gupd (gupd σ 123 2 x) 123 3 y) 123 1 z 294 4 = σ 294 4 := fun x y z => by rw [gupd_ne (by omega), gupd_ne (by omega), gupd_ne (by omega)]
      refine ⟨_, _, _, sp_X_station h1 h2 h3 e, Run_r (sp_M_station h1 h2 h3 (by rw [r4]; omega)) (by rw [r4, c1]), ?_⟩
      rw [r4]
      have u : σ 294 4 = ((σ 294 4).toNat : Int) := by omega
      have b1 := gsm_bd (g := fun k => σ 294 (820 + 3 * k)) (B := 999) (σ 294 4).toNat (fun k hk => (w2 k (by omega)).1)
      have b2 := gsm_bd (g := fun k => σ 294 (820 + 3 * k + 1) + σ 294 (820 + 3 * k + 2)) (B := 1998) (σ 294 4).toNat (fun k hk => by have := w2 k (by omega); omega)
      rw [w32_id (x := a2 + a3) (by unfold gr32; omega), w32_id (x := σ 123 2 + a1) (by unfold gr32; omega), w32_id (x := σ 123 3 + (a2 + a3)) (by unfold gr32; omega), w32_id (x := σ 123 1 + 1) (by unfold gr32; omega)]
      generalize hN : (σ 294 4).toNat = N at *
      rw [show (820 + 3 * σ 294 4).toNat = 820 + 3 * N by omega, show (820 + 3 * σ 294 4 + 1).toNat = 820 + 3 * N + 1 by omega, show (820 + 3 * σ 294 4 + 2).toNat = 820 + 3 * N + 2 by omega]
      refine Inv_mk (P := fun k j => (k = 123 ∧ 1 ≤ j ∧ j ≤ 3) ∨ (k = 294 ∧ (j = 4 ∨ 820 ≤ j ∧ j ≤ 843))) hI (Agr_upd (Agr_upd (Agr_upd (Agr_upd (Agr_upd (Agr_upd (Agr_upd (Agr_refl _ _) (by omega)) (by omega)) (by omega)) (by omega)) (by omega)) (by omega)) (by omega)) (Or.inl (fun k j hz hp => by unfold ZB at hz; omega)) (Or.inl (fun k j hz hp => by unfold ZT at hz; omega)) (Or.inl (fun k j hz hp => by unfold ZG at hz; omega)) (Or.inl (fun k j hz hp => by unfold ZS at hz; omega)) (Or.inl (fun k j hz hp => by unfold ZW at hz; omega)) (Or.inr ?_) (Or.inl (fun k j hz hp => by unfold ZR ZK at hz; omega)) (Or.inl (fun k j hz hp => by unfold ZM at hz; omega)) (Or.inl (fun k j hz hp => by unfold ZTape at hz; omega)) (Or.inl (fun k j hz hp => by unfold ZTest at hz; omega)) (Or.inl (fun k j hz hp => by unfold ZWait at hz; omega)) (Or.inl (fun k j hz hp => by unfold ZImg at hz; omega))
      have f4 : ∀ x : Int, (gupd (gupd (gupd (gupd (gupd (gupd (gupd σ 123 2 (σ 123 2 + a1)) 123 3 (σ 123 3 + (a2 + a3))) 123 1 (σ 123 1 + 1)) 294 (820 + 3 * N) a1) 294 (820 + 3 * N + 1) a2) 294 (820 + 3 * N + 2) a3) 294 4 x) 294 4 = x := fun x => gupd_eq
      have fo : ∀ (x : Int) (j : Nat), j ≠ 4 → j ≠ 820 + 3 * N → j ≠ 820 + 3 * N + 1 → j ≠ 820 + 3 * N + 2 → (gupd (gupd (gupd (gupd (gupd (gupd (gupd σ 123 2 (σ 123 2 + a1)) 123 3 (σ 123 3 + (a2 + a3))) 123 1 (σ 123 1 + 1)) 294 (820 + 3 * N) a1) 294 (820 + 3 * N + 1) a2) 294 (820 + 3 * N + 2) a3) 294 4 x) 294 j = σ 294 j := fun x j e1 e2 e3 e4 => by rw [gupd_ne (by omega), gupd_ne (by omega), gupd_ne (by omega), gupd_ne (by omega), gupd_ne (by omega), gupd_ne (by omega), gupd_ne (by omega)]
      have g0 : ∀ x : Int, (gupd (gupd (gupd (gupd (gupd (gupd (gupd σ 123 2 (σ 123 2 + a1)) 123 3 (σ 123 3 + (a2 + a3))) 123 1 (σ 123 1 + 1)) 294 (820 + 3 * N) a1) 294 (820 + 3 * N + 1) a2) 294 (820 + 3 * N + 2) a3) 294 4 x) 294 (820 + 3 * N) = a1 := fun x => by rw [gupd_ne (by omega), gupd_ne (by omega), gupd_ne (by omega), gupd_eq]
      have g1 : ∀ x : Int, (gupd (gupd (gupd (gupd (gupd (gupd (gupd σ 123 2 (σ 123 2 + a1)) 123 3 (σ 123 3 + (a2 + a3))) 123 1 (σ 123 1 + 1)) 294 (820 + 3 * N) a1) 294 (820 + 3 * N + 1) a2) 294 (820 + 3 * N + 2) a3) 294 4 x) 294 (820 + 3 * N + 1) = a2 := fun x => by rw [gupd_ne (by omega), gupd_ne (by omega), gupd_eq]
      have g2 : ∀ x : Int, (gupd (gupd (gupd (gupd (gupd (gupd (gupd σ 123 2 (σ 123 2 + a1)) 123 3 (σ 123 3 + (a2 + a3))) 123 1 (σ 123 1 + 1)) 294 (820 + 3 * N) a1) 294 (820 + 3 * N + 1) a2) 294 (820 + 3 * N + 2) a3) 294 4 x) 294 (820 + 3 * N + 2) = a3 := fun x => by rw [gupd_ne (by omega), gupd_eq]
      have x1 : (gupd (gupd (gupd (gupd (gupd (gupd (gupd σ 123 2 (σ 123 2 + a1)) 123 3 (σ 123 3 + (a2 + a3))) 123 1 (σ 123 1 + 1)) 294 (820 + 3 * N) a1) 294 (820 + 3 * N + 1) a2) 294 (820 + 3 * N + 2) a3) 294 4 (σ 294 4 + 1)) 123 1 = σ 123 1 + 1 := by rw [gupd_ne (by omega), gupd_ne (by omega), gupd_ne (by omega), gupd_ne (by omega), gupd_eq]
      have x2 : (gupd (gupd (gupd (gupd (gupd (gupd (gupd σ 123 2 (σ 123 2 + a1)) 123 3 (σ 123 3 + (a2 + a3))) 123 1 (σ 123 1 + 1)) 294 (820 + 3 * N) a1) 294 (820 + 3 * N + 1) a2) 294 (820 + 3 * N + 2) a3) 294 4 (σ 294 4 + 1)) 123 2 = σ 123 2 + a1 := by rw [gupd_ne (by omega), gupd_ne (by omega), gupd_ne (by omega), gupd_ne (by omega), gupd_ne (by omega), gupd_ne (by omega), gupd_eq]
      have x3 : (gupd (gupd (gupd (gupd (gupd (gupd (gupd σ 123 2 (σ 123 2 + a1)) 123 3 (σ 123 3 + (a2 + a3))) 123 1 (σ 123 1 + 1)) 294 (820 + 3 * N) a1) 294 (820 + 3 * N + 1) a2) 294 (820 + 3 * N + 2) a3) 294 4 (σ 294 4 + 1)) 123 3 = σ 123 3 + (a2 + a3) := by rw [gupd_ne (by omega), gupd_ne (by omega), gupd_ne (by omega), gupd_ne (by omega), gupd_ne (by omega), gupd_eq]
      have x4 : (gupd (gupd (gupd (gupd (gupd (gupd (gupd σ 123 2 (σ 123 2 + a1)) 123 3 (σ 123 3 + (a2 + a3))) 123 1 (σ 123 1 + 1)) 294 (820 + 3 * N) a1) 294 (820 + 3 * N + 1) a2) 294 (820 + 3 * N + 2) a3) 294 4 (σ 294 4 + 1)) 123 4 = σ 123 4 := by rw [gupd_ne (by omega), gupd_ne (by omega), gupd_ne (by omega), gupd_ne (by omega), gupd_ne (by omega), gupd_ne (by omega), gupd_ne (by omega)]
      have x5 : ∀ j, (gupd (gupd (gupd (gupd (gupd (gupd (gupd σ 123 2 (σ 123 2 + a1)) 123 3 (σ 123 3 + (a2 + a3))) 123 1 (σ 123 1 + 1)) 294 (820 + 3 * N) a1) 294 (820 + 3 * N + 1) a2) 294 (820 + 3 * N + 2) a3) 294 4 (σ 294 4 + 1)) 124 j = σ 124 j := fun j => by rw [gupd_ne (by omega), gupd_ne (by omega), gupd_ne (by omega), gupd_ne (by omega), gupd_ne (by omega), gupd_ne (by omega), gupd_ne (by omega)]
      have f4' := f4 (σ 294 4 + 1)
      have fo' := fo (σ 294 4 + 1)
      have g0' := g0 (σ 294 4 + 1)
      have g1' := g1 (σ 294 4 + 1)
      have g2' := g2 (σ 294 4 + 1)
      clear f4 fo g0 g1 g2
      generalize (gupd (gupd (gupd (gupd (gupd (gupd (gupd σ 123 2 (σ 123 2 + a1)) 123 3 (σ 123 3 + (a2 + a3))) 123 1 (σ 123 1 + 1)) 294 (820 + 3 * N) a1) 294 (820 + 3 * N + 1) a2) 294 (820 + 3 * N + 2) a3) 294 4 (σ 294 4 + 1)) = τ at *
      exact station_new (iP hI).1 (iP hI).2 h1 h2 h3 u (by omega) f4' fo' g0' g1' g2' x1 x2 x3 x4 x5
    · exact ⟨_, _, _, sp_X_station_f h1 h2 h3 e, sp_M_station_f h1 h2 h3 (by omega), hI⟩
  · exact ⟨_, _, _, sp_X_station_b h, sp_M_station_b h, hI⟩
