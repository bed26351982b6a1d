/-! has, told. -/
variable {L d : Nat} {σ σ1 : Nat → Nat → Int} {Q : Option gV → (Nat → Nat → Int) → Prop} {a0 a1 a2 a3 a4 a5 a6 a7 a8 a9 a10 a11 s0 s1 s2 s3 s4 s5 s6 s7 s8 s9 : Int} {l0 l1 l2 l3 l4 l5 l6 l7 l8 l9 l10 l11 t0 t1 t2 t3 t4 t5 t6 t7 t8 t9 : gV} {b0 b1 b2 b3 b4 b5 b6 b7 b8 b9 b10 b11 c0 c1 c2 c3 c4 c5 c6 c7 c8 c9 : Nat} {r : Option gV}
theorem r_X_has_0 : Wp L d k_X_has 0 [vR b0, l1, l2] [] σ Q ↔ Wp L d k_X_has 1 [vR b0, l1, l2] [vR b0] σ Q := wp_aload rfl rfl
theorem r_X_has_1 : Wp L d k_X_has 1 [l0, vI a1, l2] [vR c0] σ Q ↔ Wp L d k_X_has 2 [l0, vI a1, l2] [vI a1, vR c0] σ Q := wp_iload rfl rfl
theorem r_X_has_5 : Wp L d k_X_has 5 [l0, l1, l2] [vI s0] σ Q ↔ (if s0 ≠ 0 then Wp L d k_X_has 11 [l0, l1, l2] [] σ Q else Wp L d k_X_has 8 [l0, l1, l2] [] σ Q) := wp_if_ne rfl
theorem r_X_has_8 : Wp L d k_X_has 8 [l0, l1, l2] [] σ Q ↔ Wp L d k_X_has 10 [l0, l1, l2] [vI (-1000000001)] σ Q := wp_push rfl
theorem r_X_has_10 : Wp L d k_X_has 10 [l0, l1, l2] [vI s0] σ Q ↔ Q (some (vI s0)) σ := wp_iret rfl
theorem r_X_has_11 : Wp L d k_X_has 11 [l0, l1, vI a2] [] σ Q ↔ Wp L d k_X_has 12 [l0, l1, vI a2] [vI a2] σ Q := wp_iload rfl rfl
theorem r_X_has_12 : Wp L d k_X_has 12 [l0, l1, l2] [vI s0] σ Q ↔ (if s0 = 0 then Wp L d k_X_has 44 [l0, l1, l2] [] σ Q else if s0 = 1 then Wp L d k_X_has 54 [l0, l1, l2] [] σ Q else if s0 = 2 then Wp L d k_X_has 64 [l0, l1, l2] [] σ Q else if s0 = 3 then Wp L d k_X_has 77 [l0, l1, l2] [] σ Q else Wp L d k_X_has 97 [l0, l1, l2] [] σ Q) := by
  by_cases h0 : s0 = 0
  · subst h0
    rw [if_pos rfl]
    exact Wp_s rfl rfl rfl rfl
  by_cases h1 : s0 = 1
  · subst h1
    rw [if_neg (by omega), if_pos rfl]
    exact Wp_s rfl rfl rfl rfl
  by_cases h2 : s0 = 2
  · subst h2
    rw [if_neg (by omega), if_neg (by omega), if_pos rfl]
    exact Wp_s rfl rfl rfl rfl
  by_cases h3 : s0 = 3
  · subst h3
    rw [if_neg (by omega), if_neg (by omega), if_neg (by omega), if_pos rfl]
    exact Wp_s rfl rfl rfl rfl
  rw [if_neg h0, if_neg h1, if_neg h2, if_neg h3]
  have hout : s0 < 0 ∨ 3 < s0 := by omega
  exact Wp_s rfl rfl rfl (by simp only [gstep, vI, if_pos hout]; rfl)
theorem r_X_has_44 : Wp L d k_X_has 44 [vR b0, l1, l2] [] σ Q ↔ Wp L d k_X_has 45 [vR b0, l1, l2] [vR b0] σ Q := wp_aload rfl rfl
theorem r_X_has_45 (h : gK c0 = 0) : Wp L d k_X_has 45 [l0, l1, l2] [vR c0] σ Q ↔ Wp L d k_X_has 48 [l0, l1, l2] [vR (gq c0 1)] σ Q := wp_getR (c := 129) rfl rfl rfl rfl rfl h
theorem r_X_has_48 (h : gK c0 = 1) : Wp L d k_X_has 48 [l0, l1, l2] [vR c0] σ Q ↔ Wp L d k_X_has 51 [l0, l1, l2] [vR (gq c0 0)] σ Q := wp_getR (c := 384) rfl rfl rfl rfl rfl h
theorem r_X_has_51 : Wp L d k_X_has 51 [l0, vI a1, l2] [vR c0] σ Q ↔ Wp L d k_X_has 52 [l0, vI a1, l2] [vI a1, vR c0] σ Q := wp_iload rfl rfl
theorem r_X_has_52 (h : gK c0 = 100) (hx : 0 ≤ s1 ∧ s1 < gN c0) : Wp L d k_X_has 52 [l0, l1, l2] [vI s1, vR c0] σ Q ↔ Wp L d k_X_has 53 [l0, l1, l2] [vI (σ c0 s1.toNat)] σ Q := wp_iald rfl h hx
theorem r_X_has_53 : Wp L d k_X_has 53 [l0, l1, l2] [vI s0] σ Q ↔ Q (some (vI s0)) σ := wp_iret rfl
theorem r_X_has_54 : Wp L d k_X_has 54 [vR b0, l1, l2] [] σ Q ↔ Wp L d k_X_has 55 [vR b0, l1, l2] [vR b0] σ Q := wp_aload rfl rfl
theorem r_X_has_55 (h : gK c0 = 0) : Wp L d k_X_has 55 [l0, l1, l2] [vR c0] σ Q ↔ Wp L d k_X_has 58 [l0, l1, l2] [vR (gq c0 1)] σ Q := wp_getR (c := 129) rfl rfl rfl rfl rfl h
theorem r_X_has_58 (h : gK c0 = 1) : Wp L d k_X_has 58 [l0, l1, l2] [vR c0] σ Q ↔ Wp L d k_X_has 61 [l0, l1, l2] [vR (gq c0 1)] σ Q := wp_getR (c := 385) rfl rfl rfl rfl rfl h
theorem r_X_has_61 : Wp L d k_X_has 61 [l0, vI a1, l2] [vR c0] σ Q ↔ Wp L d k_X_has 62 [l0, vI a1, l2] [vI a1, vR c0] σ Q := wp_iload rfl rfl
theorem r_X_has_62 (h : gK c0 = 100) (hx : 0 ≤ s1 ∧ s1 < gN c0) : Wp L d k_X_has 62 [l0, l1, l2] [vI s1, vR c0] σ Q ↔ Wp L d k_X_has 63 [l0, l1, l2] [vI (σ c0 s1.toNat)] σ Q := wp_iald rfl h hx
theorem r_X_has_63 : Wp L d k_X_has 63 [l0, l1, l2] [vI s0] σ Q ↔ Q (some (vI s0)) σ := wp_iret rfl
theorem r_X_has_64 : Wp L d k_X_has 64 [vR b0, l1, l2] [] σ Q ↔ Wp L d k_X_has 65 [vR b0, l1, l2] [vR b0] σ Q := wp_aload rfl rfl
theorem r_X_has_65 (h : gK c0 = 0) : Wp L d k_X_has 65 [l0, l1, l2] [vR c0] σ Q ↔ Wp L d k_X_has 68 [l0, l1, l2] [vR (gq c0 1)] σ Q := wp_getR (c := 129) rfl rfl rfl rfl rfl h
theorem r_X_has_68 (h : gK c0 = 1) : Wp L d k_X_has 68 [l0, l1, l2] [vR c0] σ Q ↔ Wp L d k_X_has 71 [l0, l1, l2] [vR (gq c0 2)] σ Q := wp_getR (c := 386) rfl rfl rfl rfl rfl h
theorem r_X_has_71 : Wp L d k_X_has 71 [l0, vI a1, l2] [vR c0] σ Q ↔ Wp L d k_X_has 72 [l0, vI a1, l2] [vI a1, vR c0] σ Q := wp_iload rfl rfl
theorem r_X_has_72 (h : gK c0 = 101) (hx : 0 ≤ s1 ∧ s1 < gN c0) : Wp L d k_X_has 72 [l0, l1, l2] [vI s1, vR c0] σ Q ↔ Wp L d k_X_has 73 [l0, l1, l2] [vI (σ c0 s1.toNat)] σ Q := wp_bald rfl h hx
theorem r_X_has_76 : Wp L d k_X_has 76 [l0, l1, l2] [vI s0] σ Q ↔ Q (some (vI s0)) σ := wp_iret rfl
theorem r_X_has_77 : Wp L d k_X_has 77 [vR b0, l1, l2] [] σ Q ↔ Wp L d k_X_has 78 [vR b0, l1, l2] [vR b0] σ Q := wp_aload rfl rfl
theorem r_X_has_78 (h : gK c0 = 0) : Wp L d k_X_has 78 [l0, l1, l2] [vR c0] σ Q ↔ Wp L d k_X_has 81 [l0, l1, l2] [vR (gq c0 1)] σ Q := wp_getR (c := 129) rfl rfl rfl rfl rfl h
theorem r_X_has_81 (h : gK c0 = 1) : Wp L d k_X_has 81 [l0, l1, l2] [vR c0] σ Q ↔ Wp L d k_X_has 84 [l0, l1, l2] [vI (σ c0 12)] σ Q := wp_getI (c := 268) rfl rfl rfl rfl h
theorem r_X_has_84 : Wp L d k_X_has 84 [l0, vI a1, l2] [vI s0] σ Q ↔ Wp L d k_X_has 85 [l0, vI a1, l2] [vI a1, vI s0] σ Q := wp_iload rfl rfl
theorem r_X_has_85 : Wp L d k_X_has 85 [l0, l1, l2] [vI s1, vI s0] σ Q ↔ (if s0 ≠ s1 then Wp L d k_X_has 92 [l0, l1, l2] [] σ Q else Wp L d k_X_has 88 [l0, l1, l2] [] σ Q) := wp_cmp_ne rfl
theorem r_X_has_88 : Wp L d k_X_has 88 [l0, l1, l2] [] σ Q ↔ Wp L d k_X_has 89 [l0, l1, l2] [vI 1] σ Q := wp_push rfl
theorem r_X_has_89 : Wp L d k_X_has 89 [l0, l1, l2] [vI s0] σ Q ↔ Wp L d k_X_has 93 [l0, l1, l2] [vI s0] σ Q := wp_goto rfl
theorem r_X_has_92 : Wp L d k_X_has 92 [l0, l1, l2] [] σ Q ↔ Wp L d k_X_has 93 [l0, l1, l2] [vI 0] σ Q := wp_push rfl
theorem r_X_has_96 : Wp L d k_X_has 96 [l0, l1, l2] [vI s0] σ Q ↔ Q (some (vI s0)) σ := wp_iret rfl
theorem r_X_has_97 : Wp L d k_X_has 97 [l0, l1, l2] [] σ Q ↔ Wp L d k_X_has 99 [l0, l1, l2] [vI (-1000000001)] σ Q := wp_push rfl
theorem r_X_has_99 : Wp L d k_X_has 99 [l0, l1, l2] [vI s0] σ Q ↔ Q (some (vI s0)) σ := wp_iret rfl
theorem r_X_has_2 : Wp L (d + 2) k_X_has 2 [l0, l1, l2] [vI s1, vR 27] σ Q ↔ Wp L (d + 2) k_X_has 5 [l0, l1, l2] [vI (gb (0 ≤ s1 ∧ s1 ≤ w32 (σ 29 8 - 1)))] σ Q := wp_callR (d := d + 1) (as := [vR 27, vI s1]) (rest := []) rfl rfl rfl rfl rfl rfl rfl (grecv_k (by rw [gK_27]) rfl) (sp_X_isSpan)
theorem r_X_has_73 : Wp L (d + 2) k_X_has 73 [l0, l1, l2] [vI s0] σ Q ↔ Wp L (d + 2) k_X_has 76 [l0, l1, l2] [vI (gb (s0 ≠ 0))] σ Q := wp_callR (d := d + 1) (as := [vI s0]) (rest := []) rfl rfl rfl rfl rfl rfl rfl rfl (sp_X_bit)
theorem r_X_has_93 : Wp L (d + 2) k_X_has 93 [l0, l1, l2] [vI s0] σ Q ↔ Wp L (d + 2) k_X_has 96 [l0, l1, l2] [vI (gb (s0 ≠ 0))] σ Q := wp_callR (d := d + 1) (as := [vI s0]) (rest := []) rfl rfl rfl rfl rfl rfl rfl rfl (sp_X_bit)
theorem sp_X_has_b (hn : w32 (σ 29 8 - 1) = σ 29 8 - 1) (h : ¬ ((0 ≤ a1 ∧ a1 ≤ σ 29 8 - 1) ∧ 0 ≤ a2 ∧ a2 ≤ 3)) : Run L (d + 2) 18 [vR 27, vI a1, vI a2] σ (some (vI (-1000000001))) σ := by
  refine Run_of (C' := k_X_has) rfl ?_
  show Wp L (d + 2) k_X_has 0 [vR 27, vI a1, vI a2] [] σ _
  simp only [r_X_has_0, r_X_has_1, r_X_has_2, r_X_has_5, r_X_has_8, r_X_has_10, r_X_has_11, r_X_has_12, r_X_has_44, r_X_has_45, r_X_has_48, r_X_has_51, r_X_has_52, r_X_has_53, r_X_has_54, r_X_has_55, r_X_has_58, r_X_has_61, r_X_has_62, r_X_has_63, r_X_has_64, r_X_has_65, r_X_has_68, r_X_has_71, r_X_has_72, r_X_has_73, r_X_has_76, r_X_has_77, r_X_has_78, r_X_has_81, r_X_has_84, r_X_has_85, r_X_has_88, r_X_has_89, r_X_has_92, r_X_has_93, r_X_has_96, r_X_has_97, r_X_has_99, gK_27, gK_28, gK_29, gq_27_0, gq_27_1, gK_293, gq_293_0, gK_294, gN_294, gq_29_0, gq_29_1, gq_29_2, gK_30, gK_31, gK_32, gN_30, gN_31, gN_32, hn, Int.reduceLE, Int.reduceLT, Int.reduceEq, Int.reduceToNat, gb_01, eq_self, true_or, or_true, and_true, true_and, and_self, if_true, if_false, not_true_eq_false, not_false_eq_true, ne_eq, gb_ne0, gb_eq0]
  repeat' split
  all_goals first | trivial | omega
theorem sp_X_has_0 (hn : w32 (σ 29 8 - 1) = σ 29 8 - 1) (hb : σ 29 8 ≤ 12) (h : 0 ≤ a1 ∧ a1 ≤ σ 29 8 - 1) : Run L (d + 2) 18 [vR 27, vI a1, vI 0] σ (some (vI (σ 30 a1.toNat))) σ := by
  have h3 : a1 < 12 := by omega
  refine Run_of (C' := k_X_has) rfl ?_
  show Wp L (d + 2) k_X_has 0 [vR 27, vI a1, vI 0] [] σ _
  simp only [r_X_has_0, r_X_has_1, r_X_has_2, r_X_has_5, r_X_has_8, r_X_has_10, r_X_has_11, r_X_has_12, r_X_has_44, r_X_has_45, r_X_has_48, r_X_has_51, r_X_has_52, r_X_has_53, r_X_has_54, r_X_has_55, r_X_has_58, r_X_has_61, r_X_has_62, r_X_has_63, r_X_has_64, r_X_has_65, r_X_has_68, r_X_has_71, r_X_has_72, r_X_has_73, r_X_has_76, r_X_has_77, r_X_has_78, r_X_has_81, r_X_has_84, r_X_has_85, r_X_has_88, r_X_has_89, r_X_has_92, r_X_has_93, r_X_has_96, r_X_has_97, r_X_has_99, gK_27, gK_28, gK_29, gq_27_0, gq_27_1, gK_293, gq_293_0, gK_294, gN_294, gq_29_0, gq_29_1, gq_29_2, gK_30, gK_31, gK_32, gN_30, gN_31, gN_32, hn, h, h3, Int.reduceLE, Int.reduceLT, Int.reduceEq, Int.reduceToNat, gb_01, eq_self, true_or, or_true, and_true, true_and, and_self, if_true, if_false, not_true_eq_false, not_false_eq_true, ne_eq, gb_ne0, gb_eq0]
theorem sp_X_has_1 (hn : w32 (σ 29 8 - 1) = σ 29 8 - 1) (hb : σ 29 8 ≤ 12) (h : 0 ≤ a1 ∧ a1 ≤ σ 29 8 - 1) : Run L (d + 2) 18 [vR 27, vI a1, vI 1] σ (some (vI (σ 31 a1.toNat))) σ := by
  have h3 : a1 < 12 := by omega
  refine Run_of (C' := k_X_has) rfl ?_
  show Wp L (d + 2) k_X_has 0 [vR 27, vI a1, vI 1] [] σ _
  simp only [r_X_has_0, r_X_has_1, r_X_has_2, r_X_has_5, r_X_has_8, r_X_has_10, r_X_has_11, r_X_has_12, r_X_has_44, r_X_has_45, r_X_has_48, r_X_has_51, r_X_has_52, r_X_has_53, r_X_has_54, r_X_has_55, r_X_has_58, r_X_has_61, r_X_has_62, r_X_has_63, r_X_has_64, r_X_has_65, r_X_has_68, r_X_has_71, r_X_has_72, r_X_has_73, r_X_has_76, r_X_has_77, r_X_has_78, r_X_has_81, r_X_has_84, r_X_has_85, r_X_has_88, r_X_has_89, r_X_has_92, r_X_has_93, r_X_has_96, r_X_has_97, r_X_has_99, gK_27, gK_28, gK_29, gq_27_0, gq_27_1, gK_293, gq_293_0, gK_294, gN_294, gq_29_0, gq_29_1, gq_29_2, gK_30, gK_31, gK_32, gN_30, gN_31, gN_32, hn, h, h3, Int.reduceLE, Int.reduceLT, Int.reduceEq, Int.reduceToNat, gb_01, eq_self, true_or, or_true, and_true, true_and, and_self, if_true, if_false, not_true_eq_false, not_false_eq_true, ne_eq, gb_ne0, gb_eq0]
theorem sp_X_has_2 (hn : w32 (σ 29 8 - 1) = σ 29 8 - 1) (hb : σ 29 8 ≤ 12) (h : 0 ≤ a1 ∧ a1 ≤ σ 29 8 - 1) : Run L (d + 2) 18 [vR 27, vI a1, vI 2] σ (some (vI (gb (σ 32 a1.toNat ≠ 0)))) σ := by
  have h3 : a1 < 12 := by omega
  refine Run_of (C' := k_X_has) rfl ?_
  show Wp L (d + 2) k_X_has 0 [vR 27, vI a1, vI 2] [] σ _
  simp only [r_X_has_0, r_X_has_1, r_X_has_2, r_X_has_5, r_X_has_8, r_X_has_10, r_X_has_11, r_X_has_12, r_X_has_44, r_X_has_45, r_X_has_48, r_X_has_51, r_X_has_52, r_X_has_53, r_X_has_54, r_X_has_55, r_X_has_58, r_X_has_61, r_X_has_62, r_X_has_63, r_X_has_64, r_X_has_65, r_X_has_68, r_X_has_71, r_X_has_72, r_X_has_73, r_X_has_76, r_X_has_77, r_X_has_78, r_X_has_81, r_X_has_84, r_X_has_85, r_X_has_88, r_X_has_89, r_X_has_92, r_X_has_93, r_X_has_96, r_X_has_97, r_X_has_99, gK_27, gK_28, gK_29, gq_27_0, gq_27_1, gK_293, gq_293_0, gK_294, gN_294, gq_29_0, gq_29_1, gq_29_2, gK_30, gK_31, gK_32, gN_30, gN_31, gN_32, hn, h, h3, Int.reduceLE, Int.reduceLT, Int.reduceEq, Int.reduceToNat, gb_01, eq_self, true_or, or_true, and_true, true_and, and_self, if_true, if_false, not_true_eq_false, not_false_eq_true, ne_eq, gb_ne0, gb_eq0]
theorem sp_X_has_3 (hn : w32 (σ 29 8 - 1) = σ 29 8 - 1) (hb : σ 29 8 ≤ 12) (h : 0 ≤ a1 ∧ a1 ≤ σ 29 8 - 1) : Run L (d + 2) 18 [vR 27, vI a1, vI 3] σ (some (vI (gb (σ 29 12 = a1)))) σ := by
  have h3 : a1 < 12 := by omega
  refine Run_of (C' := k_X_has) rfl ?_
  show Wp L (d + 2) k_X_has 0 [vR 27, vI a1, vI 3] [] σ _
  simp only [r_X_has_0, r_X_has_1, r_X_has_2, r_X_has_5, r_X_has_8, r_X_has_10, r_X_has_11, r_X_has_12, r_X_has_44, r_X_has_45, r_X_has_48, r_X_has_51, r_X_has_52, r_X_has_53, r_X_has_54, r_X_has_55, r_X_has_58, r_X_has_61, r_X_has_62, r_X_has_63, r_X_has_64, r_X_has_65, r_X_has_68, r_X_has_71, r_X_has_72, r_X_has_73, r_X_has_76, r_X_has_77, r_X_has_78, r_X_has_81, r_X_has_84, r_X_has_85, r_X_has_88, r_X_has_89, r_X_has_92, r_X_has_93, r_X_has_96, r_X_has_97, r_X_has_99, gK_27, gK_28, gK_29, gq_27_0, gq_27_1, gK_293, gq_293_0, gK_294, gN_294, gq_29_0, gq_29_1, gq_29_2, gK_30, gK_31, gK_32, gN_30, gN_31, gN_32, hn, h, h3, Int.reduceLE, Int.reduceLT, Int.reduceEq, Int.reduceToNat, gb_01, eq_self, true_or, or_true, and_true, true_and, and_self, if_true, if_false, not_true_eq_false, not_false_eq_true, ne_eq, gb_ne0, gb_eq0]
  split
  · rw [gb_f (fun h => h), gb_f (by omega)]
  · rw [gb_t trivial, gb_t (by omega)]
theorem r_M_has_0 : Wp L d k_M_has 0 [vR b0, l1, l2] [] σ Q ↔ Wp L d k_M_has 1 [vR b0, l1, l2] [vR b0] σ Q := wp_aload rfl rfl
theorem r_M_has_1 : Wp L d k_M_has 1 [l0, vI a1, l2] [vR c0] σ Q ↔ Wp L d k_M_has 2 [l0, vI a1, l2] [vI a1, vR c0] σ Q := wp_iload rfl rfl
theorem r_M_has_5 : Wp L d k_M_has 5 [l0, l1, l2] [vI s0] σ Q ↔ (if s0 = 0 then Wp L d k_M_has 20 [l0, l1, l2] [] σ Q else Wp L d k_M_has 8 [l0, l1, l2] [] σ Q) := wp_if_eq rfl
theorem r_M_has_8 : Wp L d k_M_has 8 [l0, l1, vI a2] [] σ Q ↔ Wp L d k_M_has 9 [l0, l1, vI a2] [vI a2] σ Q := wp_iload rfl rfl
theorem r_M_has_9 : Wp L d k_M_has 9 [l0, l1, l2] [vI s0] σ Q ↔ Wp L d k_M_has 10 [l0, l1, l2] [vL s0] σ Q := wp_i2l rfl
theorem r_M_has_10 : Wp L d k_M_has 10 [l0, l1, l2] [vL s0] σ Q ↔ Wp L d k_M_has 11 [l0, l1, l2] [vL 0, vL s0] σ Q := wp_pushL rfl
theorem r_M_has_11 : Wp L d k_M_has 11 [l0, l1, l2] [vL s1, vL s0] σ Q ↔ Wp L d k_M_has 14 [l0, l1, l2] [vL 3, vL s1, vL s0] σ Q := wp_pushL rfl
theorem r_M_has_17 : Wp L d k_M_has 17 [l0, l1, l2] [vI s0] σ Q ↔ (if s0 ≠ 0 then Wp L d k_M_has 23 [l0, l1, l2] [] σ Q else Wp L d k_M_has 20 [l0, l1, l2] [] σ Q) := wp_if_ne rfl
theorem r_M_has_20 : Wp L d k_M_has 20 [l0, l1, l2] [] σ Q ↔ Wp L d k_M_has 22 [l0, l1, l2] [vI (-1000000001)] σ Q := wp_push rfl
theorem r_M_has_22 : Wp L d k_M_has 22 [l0, l1, l2] [vI s0] σ Q ↔ Q (some (vI s0)) σ := wp_iret rfl
theorem r_M_has_23 : Wp L d k_M_has 23 [l0, l1, vI a2] [] σ Q ↔ Wp L d k_M_has 24 [l0, l1, vI a2] [vI a2] σ Q := wp_iload rfl rfl
theorem r_M_has_24 : Wp L d k_M_has 24 [l0, l1, l2] [vI s0] σ Q ↔ Wp L d k_M_has 25 [l0, l1, l2] [vI 3, vI s0] σ Q := wp_push rfl
theorem r_M_has_25 : Wp L d k_M_has 25 [l0, l1, l2] [vI s1, vI s0] σ Q ↔ (if s1 ≤ s0 then Wp L d k_M_has 43 [l0, l1, l2] [] σ Q else Wp L d k_M_has 28 [l0, l1, l2] [] σ Q) := wp_cmp_ge rfl
theorem r_M_has_28 : Wp L d k_M_has 28 [vR b0, l1, l2] [] σ Q ↔ Wp L d k_M_has 29 [vR b0, l1, l2] [vR b0] σ Q := wp_aload rfl rfl
theorem r_M_has_29 (h : gK c0 = 12) : Wp L d k_M_has 29 [l0, l1, l2] [vR c0] σ Q ↔ Wp L d k_M_has 32 [l0, l1, l2] [vR (gq c0 0)] σ Q := wp_getR (c := 3200) rfl rfl rfl rfl rfl h
theorem r_M_has_32 : Wp L d k_M_has 32 [vR b0, l1, l2] [vR c0] σ Q ↔ Wp L d k_M_has 33 [vR b0, l1, l2] [vR b0, vR c0] σ Q := wp_aload rfl rfl
theorem r_M_has_33 : Wp L d k_M_has 33 [l0, vI a1, l2] [vR c1, vR c0] σ Q ↔ Wp L d k_M_has 34 [l0, vI a1, l2] [vI a1, vR c1, vR c0] σ Q := wp_iload rfl rfl
theorem r_M_has_37 : Wp L d k_M_has 37 [l0, l1, vI a2] [vI s1, vR c0] σ Q ↔ Wp L d k_M_has 38 [l0, l1, vI a2] [vI a2, vI s1, vR c0] σ Q := wp_iload rfl rfl
theorem r_M_has_38 : Wp L d k_M_has 38 [l0, l1, l2] [vI s2, vI s1, vR c0] σ Q ↔ Wp L d k_M_has 39 [l0, l1, l2] [vI (w32 (s1 + s2)), vR c0] σ Q := wp_iadd rfl
theorem r_M_has_39 (h : gK c0 = 100) (hx : 0 ≤ s1 ∧ s1 < gN c0) : Wp L d k_M_has 39 [l0, l1, l2] [vI s1, vR c0] σ Q ↔ Wp L d k_M_has 40 [l0, l1, l2] [vI (σ c0 s1.toNat)] σ Q := wp_iald rfl h hx
theorem r_M_has_40 : Wp L d k_M_has 40 [l0, l1, l2] [vI s0] σ Q ↔ Wp L d k_M_has 59 [l0, l1, l2] [vI s0] σ Q := wp_goto rfl
theorem r_M_has_43 : Wp L d k_M_has 43 [vR b0, l1, l2] [] σ Q ↔ Wp L d k_M_has 44 [vR b0, l1, l2] [vR b0] σ Q := wp_aload rfl rfl
theorem r_M_has_44 (h : gK c0 = 12) : Wp L d k_M_has 44 [l0, l1, l2] [vR c0] σ Q ↔ Wp L d k_M_has 47 [l0, l1, l2] [vR (gq c0 0)] σ Q := wp_getR (c := 3200) rfl rfl rfl rfl rfl h
theorem r_M_has_47 : Wp L d k_M_has 47 [l0, l1, l2] [vR c0] σ Q ↔ Wp L d k_M_has 49 [l0, l1, l2] [vI 11, vR c0] σ Q := wp_push rfl
theorem r_M_has_49 (h : gK c0 = 100) (hx : 0 ≤ s1 ∧ s1 < gN c0) : Wp L d k_M_has 49 [l0, l1, l2] [vI s1, vR c0] σ Q ↔ Wp L d k_M_has 50 [l0, l1, l2] [vI (σ c0 s1.toNat)] σ Q := wp_iald rfl h hx
theorem r_M_has_50 : Wp L d k_M_has 50 [l0, vI a1, l2] [vI s0] σ Q ↔ Wp L d k_M_has 51 [l0, vI a1, l2] [vI a1, vI s0] σ Q := wp_iload rfl rfl
theorem r_M_has_51 : Wp L d k_M_has 51 [l0, l1, l2] [vI s1, vI s0] σ Q ↔ (if s0 ≠ s1 then Wp L d k_M_has 58 [l0, l1, l2] [] σ Q else Wp L d k_M_has 54 [l0, l1, l2] [] σ Q) := wp_cmp_ne rfl
theorem r_M_has_54 : Wp L d k_M_has 54 [l0, l1, l2] [] σ Q ↔ Wp L d k_M_has 55 [l0, l1, l2] [vI 1] σ Q := wp_push rfl
theorem r_M_has_55 : Wp L d k_M_has 55 [l0, l1, l2] [vI s0] σ Q ↔ Wp L d k_M_has 59 [l0, l1, l2] [vI s0] σ Q := wp_goto rfl
theorem r_M_has_58 : Wp L d k_M_has 58 [l0, l1, l2] [] σ Q ↔ Wp L d k_M_has 59 [l0, l1, l2] [vI 0] σ Q := wp_push rfl
theorem r_M_has_59 : Wp L d k_M_has 59 [l0, l1, l2] [vI s0] σ Q ↔ Q (some (vI s0)) σ := wp_iret rfl
theorem r_M_has_2 : Wp L (d + 2) k_M_has 2 [l0, l1, l2] [vI s1, vR 293] σ Q ↔ Wp L (d + 2) k_M_has 5 [l0, l1, l2] [vI (gb (0 ≤ s1 ∧ s1 ≤ w32 (σ 294 0 - 1)))] σ Q := wp_callR (d := d + 1) (as := [vR 293, vI s1]) (rest := []) rfl rfl rfl rfl rfl rfl rfl (grecv_k (by rw [gK_293]) rfl) (sp_M_isSpan)
theorem r_M_has_14 : Wp L (d + 2) k_M_has 14 [l0, l1, l2] [vL s2, vL s1, vL s0] σ Q ↔ Wp L (d + 2) k_M_has 17 [l0, l1, l2] [vI (gb (s1 ≤ s0 ∧ s0 ≤ s2))] σ Q := wp_callR (d := d + 1) (as := [vL s0, vL s1, vL s2]) (rest := []) rfl rfl rfl rfl rfl rfl rfl rfl (sp_M_isIn)
theorem r_M_has_34 : Wp L (d + 2) k_M_has 34 [l0, l1, l2] [vI s2, vR 293, vR c0] σ Q ↔ Wp L (d + 2) k_M_has 37 [l0, l1, l2] [vI (w32 (20 + w32 (3 * s2))), vR c0] σ Q := wp_callR (d := d + 1) (as := [vR 293, vI s2]) (rest := [vR c0]) rfl rfl rfl rfl rfl rfl rfl (grecv_k (by rw [gK_293]) rfl) (sp_M_spanAt)
theorem sp_M_has_b (hn : w32 (σ 294 0 - 1) = σ 294 0 - 1) (h : ¬ ((0 ≤ a1 ∧ a1 ≤ σ 294 0 - 1) ∧ 0 ≤ a2 ∧ a2 ≤ 3)) : Run L (d + 2) 199 [vR 293, vI a1, vI a2] σ (some (vI (-1000000001))) σ := by
  refine Run_of (C' := k_M_has) rfl ?_
  show Wp L (d + 2) k_M_has 0 [vR 293, vI a1, vI a2] [] σ _
  simp only [r_M_has_0, r_M_has_1, r_M_has_2, r_M_has_5, r_M_has_8, r_M_has_9, r_M_has_10, r_M_has_11, r_M_has_14, r_M_has_17, r_M_has_20, r_M_has_22, r_M_has_23, r_M_has_24, r_M_has_25, r_M_has_28, r_M_has_29, r_M_has_32, r_M_has_33, r_M_has_34, r_M_has_37, r_M_has_38, r_M_has_39, r_M_has_40, r_M_has_43, r_M_has_44, r_M_has_47, r_M_has_49, r_M_has_50, r_M_has_51, r_M_has_54, r_M_has_55, r_M_has_58, r_M_has_59, gK_27, gK_28, gK_29, gq_27_0, gq_27_1, gK_293, gq_293_0, gK_294, gN_294, hn, Int.reduceLE, Int.reduceLT, Int.reduceEq, Int.reduceToNat, gb_01, eq_self, true_or, or_true, and_true, true_and, and_self, if_true, if_false, not_true_eq_false, not_false_eq_true, ne_eq, gb_ne0, gb_eq0]
  repeat' split
  all_goals first | trivial | omega
theorem sp_M_has_l (hn : w32 (σ 294 0 - 1) = σ 294 0 - 1) (hb : σ 294 0 ≤ 12) (h : 0 ≤ a1 ∧ a1 ≤ σ 294 0 - 1) (h2 : 0 ≤ a2 ∧ a2 < 3) : Run L (d + 2) 199 [vR 293, vI a1, vI a2] σ (some (vI (σ 294 (20 + 3 * a1 + a2).toNat))) σ := by
  have w0 : w32 (3 * a1) = 3 * a1 := w32_id (by unfold gr32; omega)
  have w1 : w32 (20 + 3 * a1) = 20 + 3 * a1 := w32_id (by unfold gr32; omega)
  have w2 : w32 (20 + 3 * a1 + a2) = 20 + 3 * a1 + a2 := w32_id (by unfold gr32; omega)
  have h3 : a2 ≤ 3 := by omega
  have h4 : 0 ≤ 20 + 3 * a1 + a2 := by omega
  have h5 : 20 + 3 * a1 + a2 < 3540 := by omega
  have h6 : ¬ 3 ≤ a2 := by omega
  refine Run_of (C' := k_M_has) rfl ?_
  show Wp L (d + 2) k_M_has 0 [vR 293, vI a1, vI a2] [] σ _
  simp only [r_M_has_0, r_M_has_1, r_M_has_2, r_M_has_5, r_M_has_8, r_M_has_9, r_M_has_10, r_M_has_11, r_M_has_14, r_M_has_17, r_M_has_20, r_M_has_22, r_M_has_23, r_M_has_24, r_M_has_25, r_M_has_28, r_M_has_29, r_M_has_32, r_M_has_33, r_M_has_34, r_M_has_37, r_M_has_38, r_M_has_39, r_M_has_40, r_M_has_43, r_M_has_44, r_M_has_47, r_M_has_49, r_M_has_50, r_M_has_51, r_M_has_54, r_M_has_55, r_M_has_58, r_M_has_59, gK_27, gK_28, gK_29, gq_27_0, gq_27_1, gK_293, gq_293_0, gK_294, gN_294, hn, h, h2, h3, h4, h5, h6, w0, w1, w2, Int.reduceLE, Int.reduceLT, Int.reduceEq, Int.reduceToNat, gb_01, eq_self, true_or, or_true, and_true, true_and, and_self, if_true, if_false, not_true_eq_false, not_false_eq_true, ne_eq, gb_ne0, gb_eq0]
theorem sp_M_has_3 (hn : w32 (σ 294 0 - 1) = σ 294 0 - 1) (hb : σ 294 0 ≤ 12) (h : 0 ≤ a1 ∧ a1 ≤ σ 294 0 - 1) : Run L (d + 2) 199 [vR 293, vI a1, vI 3] σ (some (vI (gb (σ 294 11 = a1)))) σ := by
  refine Run_of (C' := k_M_has) rfl ?_
  show Wp L (d + 2) k_M_has 0 [vR 293, vI a1, vI 3] [] σ _
  simp only [r_M_has_0, r_M_has_1, r_M_has_2, r_M_has_5, r_M_has_8, r_M_has_9, r_M_has_10, r_M_has_11, r_M_has_14, r_M_has_17, r_M_has_20, r_M_has_22, r_M_has_23, r_M_has_24, r_M_has_25, r_M_has_28, r_M_has_29, r_M_has_32, r_M_has_33, r_M_has_34, r_M_has_37, r_M_has_38, r_M_has_39, r_M_has_40, r_M_has_43, r_M_has_44, r_M_has_47, r_M_has_49, r_M_has_50, r_M_has_51, r_M_has_54, r_M_has_55, r_M_has_58, r_M_has_59, gK_27, gK_28, gK_29, gq_27_0, gq_27_1, gK_293, gq_293_0, gK_294, gN_294, hn, h, Int.reduceLE, Int.reduceLT, Int.reduceEq, Int.reduceToNat, gb_01, eq_self, true_or, or_true, and_true, true_and, and_self, if_true, if_false, not_true_eq_false, not_false_eq_true, ne_eq, gb_ne0, gb_eq0]
  repeat' split
  all_goals first | rw [gb_t (by omega)] | rw [gb_f (by omega)]
theorem op_has (a1 a2 : Int) : Op 18 199 [vI a1, vI a2] := by
  intro L d σ hI
  obtain ⟨⟨w1, w2, w3, w4, w5, w6, w7, w8⟩, c1, c2, c3, c4, c5, c6, c7, c8⟩ := iB hI
  have hn : w32 (σ 29 8 - 1) = σ 29 8 - 1 := w32_id (by unfold gr32; omega)
  have hm : w32 (σ 294 0 - 1) = σ 294 0 - 1 := w32_id (by unfold gr32; omega)
  
  by_cases h : 0 ≤ a1 ∧ a1 ≤ σ 29 8 - 1
  · have q := c3 a1.toNat (by omega)
    have q2 := w3 a1.toNat (by omega)
    have e : a2 = 0 ∨ a2 = 1 ∨ a2 = 2 ∨ a2 = 3 ∨ ¬ (0 ≤ a2 ∧ a2 ≤ 3) := by omega
    have e1 : (20 + 3 * a1 + 0).toNat = 20 + 3 * a1.toNat := by omega
    have e2 : (20 + 3 * a1 + 1).toNat = 20 + 3 * a1.toNat + 1 := by omega
    have e3 : (20 + 3 * a1 + 2).toNat = 20 + 3 * a1.toNat + 2 := by omega
    rcases e with rfl | rfl | rfl | rfl | e
    · exact ⟨_, _, _, sp_X_has_0 hn (by omega) h, Run_r (sp_M_has_l hm (by omega) (by omega) (by omega)) (by rw [e1]; exact q.1.symm), hI⟩
    · exact ⟨_, _, _, sp_X_has_1 hn (by omega) h, Run_r (sp_M_has_l hm (by omega) (by omega) (by omega)) (by rw [e2]; exact q.2.1.symm), hI⟩
    · refine ⟨_, _, _, sp_X_has_2 hn (by omega) h, Run_r (sp_M_has_l hm (by omega) (by omega) (by omega)) ?_, hI⟩
      have q3 : σ 32 a1.toNat = σ 294 (20 + 3 * a1.toNat + 2) := q.2.2
      rw [e3, q3]
      rcases q2.2.2 with z | z
      · rw [z]
        rfl
      · rw [z]
        rfl
    · refine ⟨_, _, _, sp_X_has_3 hn (by omega) h, Run_r (sp_M_has_3 hm (by omega) (by omega)) ?_, hI⟩
      unfold CNone at c7
      rw [c7]
      by_cases z : σ 294 11 = a1
      · rw [gb_t z, gb_t (by rw [if_neg (by omega)]; exact z)]
      · rw [gb_f z, gb_f (by show ¬ (if σ 294 11 < 0 then (-1000000005 : Int) else σ 294 11) = a1; split <;> omega)]
    · exact ⟨_, _, _, sp_X_has_b hn (by omega), sp_M_has_b hm (by omega), hI⟩
  · exact ⟨_, _, _, sp_X_has_b hn (by omega), sp_M_has_b hm (by omega), hI⟩
def gtd (h : Nat → Int) (a : Int) : Int := if a = 0 then h 0 else if a = 1 then h 1 else if a = 2 then h 2 else if a = 3 then h 3 else if a = 4 then h 4 else if a = 5 then h 5 else if a = 6 then h 6 else if a = 7 then h 7 else if a = 8 then gb (h 10 ≠ 0) else if a = 9 then h 8 else if a = 10 then h 9 else if a = 11 then gb (h 11 ≠ 0) else -1000000001
theorem gtd_out {h : Nat → Int} {a : Int} (e : ¬ (0 ≤ a ∧ a ≤ 11)) : gtd h a = -1000000001 := by
  unfold gtd
  repeat' split
  all_goals first | rfl | omega
theorem gtd_in {h g : Nat → Int} {a c : Int} (e : 0 ≤ a ∧ a ≤ 11) (hw : WPart g c) (hc : CPart h g) : gtd h a = g a.toNat := by
  obtain ⟨c0, c1, c2, c3, c4, c5, c6, c7, c8, c9, c10, c11⟩ := hc
  obtain ⟨-, -, -, -, -, -, -, -, w8, -, -, w11, -⟩ := hw
  have : a = 0 ∨ a = 1 ∨ a = 2 ∨ a = 3 ∨ a = 4 ∨ a = 5 ∨ a = 6 ∨ a = 7 ∨ a = 8 ∨ a = 9 ∨ a = 10 ∨ a = 11 := by omega
  rcases this with rfl | rfl | rfl | rfl | rfl | rfl | rfl | rfl | rfl | rfl | rfl | rfl
  · exact c0
  · exact c1
  · exact c2
  · exact c3
  · exact c4
  · exact c5
  · exact c6
  · exact c7
  · show gb (h 10 ≠ 0) = g 8
    rw [c10]
    rcases w8 with z | z
    · rw [z]; rfl
    · rw [z]; rfl
  · exact c8
  · exact c9
  · show gb (h 11 ≠ 0) = g 11
    rw [c11]
    rcases w11 with z | z
    · rw [z]; rfl
    · rw [z]; rfl
theorem r_Q_asTold_0 : Wp L d k_Q_asTold 0 [l0, vI a1] [] σ Q ↔ Wp L d k_Q_asTold 1 [l0, vI a1] [vI a1] σ Q := wp_iload rfl rfl
theorem r_Q_asTold_1 : Wp L d k_Q_asTold 1 [l0, l1] [vI s0] σ Q ↔ (if s0 = 0 then Wp L d k_Q_asTold 64 [l0, l1] [] σ Q else if s0 = 1 then Wp L d k_Q_asTold 69 [l0, l1] [] σ Q else if s0 = 2 then Wp L d k_Q_asTold 74 [l0, l1] [] σ Q else if s0 = 3 then Wp L d k_Q_asTold 79 [l0, l1] [] σ Q else if s0 = 4 then Wp L d k_Q_asTold 84 [l0, l1] [] σ Q else if s0 = 5 then Wp L d k_Q_asTold 89 [l0, l1] [] σ Q else if s0 = 6 then Wp L d k_Q_asTold 94 [l0, l1] [] σ Q else if s0 = 7 then Wp L d k_Q_asTold 99 [l0, l1] [] σ Q else if s0 = 8 then Wp L d k_Q_asTold 104 [l0, l1] [] σ Q else if s0 = 9 then Wp L d k_Q_asTold 112 [l0, l1] [] σ Q else if s0 = 10 then Wp L d k_Q_asTold 117 [l0, l1] [] σ Q else if s0 = 11 then Wp L d k_Q_asTold 122 [l0, l1] [] σ Q else Wp L d k_Q_asTold 130 [l0, l1] [] σ Q) := by
  by_cases h0 : s0 = 0
  · subst h0
    rw [if_pos rfl]
    exact Wp_s rfl rfl rfl rfl
  by_cases h1 : s0 = 1
  · subst h1
    rw [if_neg (by omega), if_pos rfl]
    exact Wp_s rfl rfl rfl rfl
  by_cases h2 : s0 = 2
  · subst h2
    rw [if_neg (by omega), if_neg (by omega), if_pos rfl]
    exact Wp_s rfl rfl rfl rfl
  by_cases h3 : s0 = 3
  · subst h3
    rw [if_neg (by omega), if_neg (by omega), if_neg (by omega), if_pos rfl]
    exact Wp_s rfl rfl rfl rfl
  by_cases h4 : s0 = 4
  · subst h4
    rw [if_neg (by omega), if_neg (by omega), if_neg (by omega), if_neg (by omega), if_pos rfl]
    exact Wp_s rfl rfl rfl rfl
  by_cases h5 : s0 = 5
  · subst h5
    rw [if_neg (by omega), if_neg (by omega), if_neg (by omega), if_neg (by omega), if_neg (by omega), if_pos rfl]
    exact Wp_s rfl rfl rfl rfl
  by_cases h6 : s0 = 6
  · subst h6
    rw [if_neg (by omega), if_neg (by omega), if_neg (by omega), if_neg (by omega), if_neg (by omega), if_neg (by omega), if_pos rfl]
    exact Wp_s rfl rfl rfl rfl
  by_cases h7 : s0 = 7
  · subst h7
    rw [if_neg (by omega), if_neg (by omega), if_neg (by omega), if_neg (by omega), if_neg (by omega), if_neg (by omega), if_neg (by omega), if_pos rfl]
    exact Wp_s rfl rfl rfl rfl
  by_cases h8 : s0 = 8
  · subst h8
    rw [if_neg (by omega), if_neg (by omega), if_neg (by omega), if_neg (by omega), if_neg (by omega), if_neg (by omega), if_neg (by omega), if_neg (by omega), if_pos rfl]
    exact Wp_s rfl rfl rfl rfl
  by_cases h9 : s0 = 9
  · subst h9
    rw [if_neg (by omega), if_neg (by omega), if_neg (by omega), if_neg (by omega), if_neg (by omega), if_neg (by omega), if_neg (by omega), if_neg (by omega), if_neg (by omega), if_pos rfl]
    exact Wp_s rfl rfl rfl rfl
  by_cases h10 : s0 = 10
  · subst h10
    rw [if_neg (by omega), if_neg (by omega), if_neg (by omega), if_neg (by omega), if_neg (by omega), if_neg (by omega), if_neg (by omega), if_neg (by omega), if_neg (by omega), if_neg (by omega), if_pos rfl]
    exact Wp_s rfl rfl rfl rfl
  by_cases h11 : s0 = 11
  · subst h11
    rw [if_neg (by omega), if_neg (by omega), if_neg (by omega), if_neg (by omega), if_neg (by omega), if_neg (by omega), if_neg (by omega), if_neg (by omega), if_neg (by omega), if_neg (by omega), if_neg (by omega), if_pos rfl]
    exact Wp_s rfl rfl rfl rfl
  rw [if_neg h0, if_neg h1, if_neg h2, if_neg h3, if_neg h4, if_neg h5, if_neg h6, if_neg h7, if_neg h8, if_neg h9, if_neg h10, if_neg h11]
  have hout : s0 < 0 ∨ 11 < s0 := by omega
  exact Wp_s rfl rfl rfl (by simp only [gstep, vI, if_pos hout]; rfl)
theorem r_Q_asTold_64 : Wp L d k_Q_asTold 64 [vR b0, l1] [] σ Q ↔ Wp L d k_Q_asTold 65 [vR b0, l1] [vR b0] σ Q := wp_aload rfl rfl
theorem r_Q_asTold_65 (h : gK c0 = 4) : Wp L d k_Q_asTold 65 [l0, l1] [vR c0] σ Q ↔ Wp L d k_Q_asTold 68 [l0, l1] [vI (σ c0 0)] σ Q := wp_getI (c := 1024) rfl rfl rfl rfl h
theorem r_Q_asTold_68 : Wp L d k_Q_asTold 68 [l0, l1] [vI s0] σ Q ↔ Q (some (vI s0)) σ := wp_iret rfl
theorem r_Q_asTold_69 : Wp L d k_Q_asTold 69 [vR b0, l1] [] σ Q ↔ Wp L d k_Q_asTold 70 [vR b0, l1] [vR b0] σ Q := wp_aload rfl rfl
theorem r_Q_asTold_70 (h : gK c0 = 4) : Wp L d k_Q_asTold 70 [l0, l1] [vR c0] σ Q ↔ Wp L d k_Q_asTold 73 [l0, l1] [vI (σ c0 1)] σ Q := wp_getI (c := 1025) rfl rfl rfl rfl h
theorem r_Q_asTold_73 : Wp L d k_Q_asTold 73 [l0, l1] [vI s0] σ Q ↔ Q (some (vI s0)) σ := wp_iret rfl
theorem r_Q_asTold_74 : Wp L d k_Q_asTold 74 [vR b0, l1] [] σ Q ↔ Wp L d k_Q_asTold 75 [vR b0, l1] [vR b0] σ Q := wp_aload rfl rfl
theorem r_Q_asTold_75 (h : gK c0 = 4) : Wp L d k_Q_asTold 75 [l0, l1] [vR c0] σ Q ↔ Wp L d k_Q_asTold 78 [l0, l1] [vI (σ c0 2)] σ Q := wp_getI (c := 1026) rfl rfl rfl rfl h
theorem r_Q_asTold_78 : Wp L d k_Q_asTold 78 [l0, l1] [vI s0] σ Q ↔ Q (some (vI s0)) σ := wp_iret rfl
theorem r_Q_asTold_79 : Wp L d k_Q_asTold 79 [vR b0, l1] [] σ Q ↔ Wp L d k_Q_asTold 80 [vR b0, l1] [vR b0] σ Q := wp_aload rfl rfl
theorem r_Q_asTold_80 (h : gK c0 = 4) : Wp L d k_Q_asTold 80 [l0, l1] [vR c0] σ Q ↔ Wp L d k_Q_asTold 83 [l0, l1] [vI (σ c0 3)] σ Q := wp_getI (c := 1027) rfl rfl rfl rfl h
theorem r_Q_asTold_83 : Wp L d k_Q_asTold 83 [l0, l1] [vI s0] σ Q ↔ Q (some (vI s0)) σ := wp_iret rfl
theorem r_Q_asTold_84 : Wp L d k_Q_asTold 84 [vR b0, l1] [] σ Q ↔ Wp L d k_Q_asTold 85 [vR b0, l1] [vR b0] σ Q := wp_aload rfl rfl
theorem r_Q_asTold_85 (h : gK c0 = 4) : Wp L d k_Q_asTold 85 [l0, l1] [vR c0] σ Q ↔ Wp L d k_Q_asTold 88 [l0, l1] [vI (σ c0 4)] σ Q := wp_getI (c := 1028) rfl rfl rfl rfl h
theorem r_Q_asTold_88 : Wp L d k_Q_asTold 88 [l0, l1] [vI s0] σ Q ↔ Q (some (vI s0)) σ := wp_iret rfl
theorem r_Q_asTold_89 : Wp L d k_Q_asTold 89 [vR b0, l1] [] σ Q ↔ Wp L d k_Q_asTold 90 [vR b0, l1] [vR b0] σ Q := wp_aload rfl rfl
theorem r_Q_asTold_90 (h : gK c0 = 4) : Wp L d k_Q_asTold 90 [l0, l1] [vR c0] σ Q ↔ Wp L d k_Q_asTold 93 [l0, l1] [vI (σ c0 5)] σ Q := wp_getI (c := 1029) rfl rfl rfl rfl h
theorem r_Q_asTold_93 : Wp L d k_Q_asTold 93 [l0, l1] [vI s0] σ Q ↔ Q (some (vI s0)) σ := wp_iret rfl
theorem r_Q_asTold_94 : Wp L d k_Q_asTold 94 [vR b0, l1] [] σ Q ↔ Wp L d k_Q_asTold 95 [vR b0, l1] [vR b0] σ Q := wp_aload rfl rfl
theorem r_Q_asTold_95 (h : gK c0 = 4) : Wp L d k_Q_asTold 95 [l0, l1] [vR c0] σ Q ↔ Wp L d k_Q_asTold 98 [l0, l1] [vI (σ c0 6)] σ Q := wp_getI (c := 1030) rfl rfl rfl rfl h
theorem r_Q_asTold_98 : Wp L d k_Q_asTold 98 [l0, l1] [vI s0] σ Q ↔ Q (some (vI s0)) σ := wp_iret rfl
theorem r_Q_asTold_99 : Wp L d k_Q_asTold 99 [vR b0, l1] [] σ Q ↔ Wp L d k_Q_asTold 100 [vR b0, l1] [vR b0] σ Q := wp_aload rfl rfl
theorem r_Q_asTold_100 (h : gK c0 = 4) : Wp L d k_Q_asTold 100 [l0, l1] [vR c0] σ Q ↔ Wp L d k_Q_asTold 103 [l0, l1] [vI (σ c0 7)] σ Q := wp_getI (c := 1031) rfl rfl rfl rfl h
theorem r_Q_asTold_103 : Wp L d k_Q_asTold 103 [l0, l1] [vI s0] σ Q ↔ Q (some (vI s0)) σ := wp_iret rfl
theorem r_Q_asTold_104 : Wp L d k_Q_asTold 104 [vR b0, l1] [] σ Q ↔ Wp L d k_Q_asTold 105 [vR b0, l1] [vR b0] σ Q := wp_aload rfl rfl
theorem r_Q_asTold_105 (h : gK c0 = 4) : Wp L d k_Q_asTold 105 [l0, l1] [vR c0] σ Q ↔ Wp L d k_Q_asTold 108 [l0, l1] [vI (σ c0 10)] σ Q := wp_getI (c := 1098) rfl rfl rfl rfl h
theorem r_Q_asTold_111 : Wp L d k_Q_asTold 111 [l0, l1] [vI s0] σ Q ↔ Q (some (vI s0)) σ := wp_iret rfl
theorem r_Q_asTold_112 : Wp L d k_Q_asTold 112 [vR b0, l1] [] σ Q ↔ Wp L d k_Q_asTold 113 [vR b0, l1] [vR b0] σ Q := wp_aload rfl rfl
theorem r_Q_asTold_113 (h : gK c0 = 4) : Wp L d k_Q_asTold 113 [l0, l1] [vR c0] σ Q ↔ Wp L d k_Q_asTold 116 [l0, l1] [vI (σ c0 8)] σ Q := wp_getI (c := 1032) rfl rfl rfl rfl h
theorem r_Q_asTold_116 : Wp L d k_Q_asTold 116 [l0, l1] [vI s0] σ Q ↔ Q (some (vI s0)) σ := wp_iret rfl
theorem r_Q_asTold_117 : Wp L d k_Q_asTold 117 [vR b0, l1] [] σ Q ↔ Wp L d k_Q_asTold 118 [vR b0, l1] [vR b0] σ Q := wp_aload rfl rfl
theorem r_Q_asTold_118 (h : gK c0 = 4) : Wp L d k_Q_asTold 118 [l0, l1] [vR c0] σ Q ↔ Wp L d k_Q_asTold 121 [l0, l1] [vI (σ c0 9)] σ Q := wp_getI (c := 1033) rfl rfl rfl rfl h
theorem r_Q_asTold_121 : Wp L d k_Q_asTold 121 [l0, l1] [vI s0] σ Q ↔ Q (some (vI s0)) σ := wp_iret rfl
theorem r_Q_asTold_122 : Wp L d k_Q_asTold 122 [vR b0, l1] [] σ Q ↔ Wp L d k_Q_asTold 123 [vR b0, l1] [vR b0] σ Q := wp_aload rfl rfl
theorem r_Q_asTold_123 (h : gK c0 = 4) : Wp L d k_Q_asTold 123 [l0, l1] [vR c0] σ Q ↔ Wp L d k_Q_asTold 126 [l0, l1] [vI (σ c0 11)] σ Q := wp_getI (c := 1099) rfl rfl rfl rfl h
theorem r_Q_asTold_129 : Wp L d k_Q_asTold 129 [l0, l1] [vI s0] σ Q ↔ Q (some (vI s0)) σ := wp_iret rfl
theorem r_Q_asTold_130 : Wp L d k_Q_asTold 130 [l0, l1] [] σ Q ↔ Wp L d k_Q_asTold 132 [l0, l1] [vI (-1000000001)] σ Q := wp_push rfl
theorem r_Q_asTold_132 : Wp L d k_Q_asTold 132 [l0, l1] [vI s0] σ Q ↔ Q (some (vI s0)) σ := wp_iret rfl
theorem r_Q_asTold_108 : Wp L (d + 1) k_Q_asTold 108 [l0, l1] [vI s0] σ Q ↔ Wp L (d + 1) k_Q_asTold 111 [l0, l1] [vI (gb (s0 ≠ 0))] σ Q := wp_callR (d := d + 0) (as := [vI s0]) (rest := []) rfl rfl rfl rfl rfl rfl rfl rfl (sp_X_bit)
theorem r_Q_asTold_126 : Wp L (d + 1) k_Q_asTold 126 [l0, l1] [vI s0] σ Q ↔ Wp L (d + 1) k_Q_asTold 129 [l0, l1] [vI (gb (s0 ≠ 0))] σ Q := wp_callR (d := d + 0) (as := [vI s0]) (rest := []) rfl rfl rfl rfl rfl rfl rfl rfl (sp_X_bit)
theorem sp_Q_asTold_0 (hk : gK b0 = 4) : Run L (d + 1) 128 [vR b0, vI 0] σ (some (vI (σ b0 0))) σ := by
  refine Run_of (C' := k_Q_asTold) rfl ?_
  show Wp L (d + 1) k_Q_asTold 0 [vR b0, vI 0] [] σ _
  simp only [r_Q_asTold_0, r_Q_asTold_1, r_Q_asTold_64, r_Q_asTold_65, r_Q_asTold_68, r_Q_asTold_69, r_Q_asTold_70, r_Q_asTold_73, r_Q_asTold_74, r_Q_asTold_75, r_Q_asTold_78, r_Q_asTold_79, r_Q_asTold_80, r_Q_asTold_83, r_Q_asTold_84, r_Q_asTold_85, r_Q_asTold_88, r_Q_asTold_89, r_Q_asTold_90, r_Q_asTold_93, r_Q_asTold_94, r_Q_asTold_95, r_Q_asTold_98, r_Q_asTold_99, r_Q_asTold_100, r_Q_asTold_103, r_Q_asTold_104, r_Q_asTold_105, r_Q_asTold_108, r_Q_asTold_111, r_Q_asTold_112, r_Q_asTold_113, r_Q_asTold_116, r_Q_asTold_117, r_Q_asTold_118, r_Q_asTold_121, r_Q_asTold_122, r_Q_asTold_123, r_Q_asTold_126, r_Q_asTold_129, r_Q_asTold_130, r_Q_asTold_132, gK_27, gK_28, gK_29, gq_27_0, gq_27_1, gK_293, gq_293_0, gK_294, gN_294, hk, Int.reduceLE, Int.reduceLT, Int.reduceEq, Int.reduceToNat, gb_01, eq_self, true_or, or_true, and_true, true_and, and_self, if_true, if_false, not_true_eq_false, not_false_eq_true, ne_eq, gb_ne0, gb_eq0]
theorem sp_Q_asTold_1 (hk : gK b0 = 4) : Run L (d + 1) 128 [vR b0, vI 1] σ (some (vI (σ b0 1))) σ := by
  refine Run_of (C' := k_Q_asTold) rfl ?_
  show Wp L (d + 1) k_Q_asTold 0 [vR b0, vI 1] [] σ _
  simp only [r_Q_asTold_0, r_Q_asTold_1, r_Q_asTold_64, r_Q_asTold_65, r_Q_asTold_68, r_Q_asTold_69, r_Q_asTold_70, r_Q_asTold_73, r_Q_asTold_74, r_Q_asTold_75, r_Q_asTold_78, r_Q_asTold_79, r_Q_asTold_80, r_Q_asTold_83, r_Q_asTold_84, r_Q_asTold_85, r_Q_asTold_88, r_Q_asTold_89, r_Q_asTold_90, r_Q_asTold_93, r_Q_asTold_94, r_Q_asTold_95, r_Q_asTold_98, r_Q_asTold_99, r_Q_asTold_100, r_Q_asTold_103, r_Q_asTold_104, r_Q_asTold_105, r_Q_asTold_108, r_Q_asTold_111, r_Q_asTold_112, r_Q_asTold_113, r_Q_asTold_116, r_Q_asTold_117, r_Q_asTold_118, r_Q_asTold_121, r_Q_asTold_122, r_Q_asTold_123, r_Q_asTold_126, r_Q_asTold_129, r_Q_asTold_130, r_Q_asTold_132, gK_27, gK_28, gK_29, gq_27_0, gq_27_1, gK_293, gq_293_0, gK_294, gN_294, hk, Int.reduceLE, Int.reduceLT, Int.reduceEq, Int.reduceToNat, gb_01, eq_self, true_or, or_true, and_true, true_and, and_self, if_true, if_false, not_true_eq_false, not_false_eq_true, ne_eq, gb_ne0, gb_eq0]
theorem sp_Q_asTold_2 (hk : gK b0 = 4) : Run L (d + 1) 128 [vR b0, vI 2] σ (some (vI (σ b0 2))) σ := by
  refine Run_of (C' := k_Q_asTold) rfl ?_
  show Wp L (d + 1) k_Q_asTold 0 [vR b0, vI 2] [] σ _
  simp only [r_Q_asTold_0, r_Q_asTold_1, r_Q_asTold_64, r_Q_asTold_65, r_Q_asTold_68, r_Q_asTold_69, r_Q_asTold_70, r_Q_asTold_73, r_Q_asTold_74, r_Q_asTold_75, r_Q_asTold_78, r_Q_asTold_79, r_Q_asTold_80, r_Q_asTold_83, r_Q_asTold_84, r_Q_asTold_85, r_Q_asTold_88, r_Q_asTold_89, r_Q_asTold_90, r_Q_asTold_93, r_Q_asTold_94, r_Q_asTold_95, r_Q_asTold_98, r_Q_asTold_99, r_Q_asTold_100, r_Q_asTold_103, r_Q_asTold_104, r_Q_asTold_105, r_Q_asTold_108, r_Q_asTold_111, r_Q_asTold_112, r_Q_asTold_113, r_Q_asTold_116, r_Q_asTold_117, r_Q_asTold_118, r_Q_asTold_121, r_Q_asTold_122, r_Q_asTold_123, r_Q_asTold_126, r_Q_asTold_129, r_Q_asTold_130, r_Q_asTold_132, gK_27, gK_28, gK_29, gq_27_0, gq_27_1, gK_293, gq_293_0, gK_294, gN_294, hk, Int.reduceLE, Int.reduceLT, Int.reduceEq, Int.reduceToNat, gb_01, eq_self, true_or, or_true, and_true, true_and, and_self, if_true, if_false, not_true_eq_false, not_false_eq_true, ne_eq, gb_ne0, gb_eq0]
theorem sp_Q_asTold_3 (hk : gK b0 = 4) : Run L (d + 1) 128 [vR b0, vI 3] σ (some (vI (σ b0 3))) σ := by
  refine Run_of (C' := k_Q_asTold) rfl ?_
  show Wp L (d + 1) k_Q_asTold 0 [vR b0, vI 3] [] σ _
  simp only [r_Q_asTold_0, r_Q_asTold_1, r_Q_asTold_64, r_Q_asTold_65, r_Q_asTold_68, r_Q_asTold_69, r_Q_asTold_70, r_Q_asTold_73, r_Q_asTold_74, r_Q_asTold_75, r_Q_asTold_78, r_Q_asTold_79, r_Q_asTold_80, r_Q_asTold_83, r_Q_asTold_84, r_Q_asTold_85, r_Q_asTold_88, r_Q_asTold_89, r_Q_asTold_90, r_Q_asTold_93, r_Q_asTold_94, r_Q_asTold_95, r_Q_asTold_98, r_Q_asTold_99, r_Q_asTold_100, r_Q_asTold_103, r_Q_asTold_104, r_Q_asTold_105, r_Q_asTold_108, r_Q_asTold_111, r_Q_asTold_112, r_Q_asTold_113, r_Q_asTold_116, r_Q_asTold_117, r_Q_asTold_118, r_Q_asTold_121, r_Q_asTold_122, r_Q_asTold_123, r_Q_asTold_126, r_Q_asTold_129, r_Q_asTold_130, r_Q_asTold_132, gK_27, gK_28, gK_29, gq_27_0, gq_27_1, gK_293, gq_293_0, gK_294, gN_294, hk, Int.reduceLE, Int.reduceLT, Int.reduceEq, Int.reduceToNat, gb_01, eq_self, true_or, or_true, and_true, true_and, and_self, if_true, if_false, not_true_eq_false, not_false_eq_true, ne_eq, gb_ne0, gb_eq0]
theorem sp_Q_asTold_4 (hk : gK b0 = 4) : Run L (d + 1) 128 [vR b0, vI 4] σ (some (vI (σ b0 4))) σ := by
  refine Run_of (C' := k_Q_asTold) rfl ?_
  show Wp L (d + 1) k_Q_asTold 0 [vR b0, vI 4] [] σ _
  simp only [r_Q_asTold_0, r_Q_asTold_1, r_Q_asTold_64, r_Q_asTold_65, r_Q_asTold_68, r_Q_asTold_69, r_Q_asTold_70, r_Q_asTold_73, r_Q_asTold_74, r_Q_asTold_75, r_Q_asTold_78, r_Q_asTold_79, r_Q_asTold_80, r_Q_asTold_83, r_Q_asTold_84, r_Q_asTold_85, r_Q_asTold_88, r_Q_asTold_89, r_Q_asTold_90, r_Q_asTold_93, r_Q_asTold_94, r_Q_asTold_95, r_Q_asTold_98, r_Q_asTold_99, r_Q_asTold_100, r_Q_asTold_103, r_Q_asTold_104, r_Q_asTold_105, r_Q_asTold_108, r_Q_asTold_111, r_Q_asTold_112, r_Q_asTold_113, r_Q_asTold_116, r_Q_asTold_117, r_Q_asTold_118, r_Q_asTold_121, r_Q_asTold_122, r_Q_asTold_123, r_Q_asTold_126, r_Q_asTold_129, r_Q_asTold_130, r_Q_asTold_132, gK_27, gK_28, gK_29, gq_27_0, gq_27_1, gK_293, gq_293_0, gK_294, gN_294, hk, Int.reduceLE, Int.reduceLT, Int.reduceEq, Int.reduceToNat, gb_01, eq_self, true_or, or_true, and_true, true_and, and_self, if_true, if_false, not_true_eq_false, not_false_eq_true, ne_eq, gb_ne0, gb_eq0]
theorem sp_Q_asTold_5 (hk : gK b0 = 4) : Run L (d + 1) 128 [vR b0, vI 5] σ (some (vI (σ b0 5))) σ := by
  refine Run_of (C' := k_Q_asTold) rfl ?_
  show Wp L (d + 1) k_Q_asTold 0 [vR b0, vI 5] [] σ _
  simp only [r_Q_asTold_0, r_Q_asTold_1, r_Q_asTold_64, r_Q_asTold_65, r_Q_asTold_68, r_Q_asTold_69, r_Q_asTold_70, r_Q_asTold_73, r_Q_asTold_74, r_Q_asTold_75, r_Q_asTold_78, r_Q_asTold_79, r_Q_asTold_80, r_Q_asTold_83, r_Q_asTold_84, r_Q_asTold_85, r_Q_asTold_88, r_Q_asTold_89, r_Q_asTold_90, r_Q_asTold_93, r_Q_asTold_94, r_Q_asTold_95, r_Q_asTold_98, r_Q_asTold_99, r_Q_asTold_100, r_Q_asTold_103, r_Q_asTold_104, r_Q_asTold_105, r_Q_asTold_108, r_Q_asTold_111, r_Q_asTold_112, r_Q_asTold_113, r_Q_asTold_116, r_Q_asTold_117, r_Q_asTold_118, r_Q_asTold_121, r_Q_asTold_122, r_Q_asTold_123, r_Q_asTold_126, r_Q_asTold_129, r_Q_asTold_130, r_Q_asTold_132, gK_27, gK_28, gK_29, gq_27_0, gq_27_1, gK_293, gq_293_0, gK_294, gN_294, hk, Int.reduceLE, Int.reduceLT, Int.reduceEq, Int.reduceToNat, gb_01, eq_self, true_or, or_true, and_true, true_and, and_self, if_true, if_false, not_true_eq_false, not_false_eq_true, ne_eq, gb_ne0, gb_eq0]
theorem sp_Q_asTold_6 (hk : gK b0 = 4) : Run L (d + 1) 128 [vR b0, vI 6] σ (some (vI (σ b0 6))) σ := by
  refine Run_of (C' := k_Q_asTold) rfl ?_
  show Wp L (d + 1) k_Q_asTold 0 [vR b0, vI 6] [] σ _
  simp only [r_Q_asTold_0, r_Q_asTold_1, r_Q_asTold_64, r_Q_asTold_65, r_Q_asTold_68, r_Q_asTold_69, r_Q_asTold_70, r_Q_asTold_73, r_Q_asTold_74, r_Q_asTold_75, r_Q_asTold_78, r_Q_asTold_79, r_Q_asTold_80, r_Q_asTold_83, r_Q_asTold_84, r_Q_asTold_85, r_Q_asTold_88, r_Q_asTold_89, r_Q_asTold_90, r_Q_asTold_93, r_Q_asTold_94, r_Q_asTold_95, r_Q_asTold_98, r_Q_asTold_99, r_Q_asTold_100, r_Q_asTold_103, r_Q_asTold_104, r_Q_asTold_105, r_Q_asTold_108, r_Q_asTold_111, r_Q_asTold_112, r_Q_asTold_113, r_Q_asTold_116, r_Q_asTold_117, r_Q_asTold_118, r_Q_asTold_121, r_Q_asTold_122, r_Q_asTold_123, r_Q_asTold_126, r_Q_asTold_129, r_Q_asTold_130, r_Q_asTold_132, gK_27, gK_28, gK_29, gq_27_0, gq_27_1, gK_293, gq_293_0, gK_294, gN_294, hk, Int.reduceLE, Int.reduceLT, Int.reduceEq, Int.reduceToNat, gb_01, eq_self, true_or, or_true, and_true, true_and, and_self, if_true, if_false, not_true_eq_false, not_false_eq_true, ne_eq, gb_ne0, gb_eq0]
theorem sp_Q_asTold_7 (hk : gK b0 = 4) : Run L (d + 1) 128 [vR b0, vI 7] σ (some (vI (σ b0 7))) σ := by
  refine Run_of (C' := k_Q_asTold) rfl ?_
  show Wp L (d + 1) k_Q_asTold 0 [vR b0, vI 7] [] σ _
  simp only [r_Q_asTold_0, r_Q_asTold_1, r_Q_asTold_64, r_Q_asTold_65, r_Q_asTold_68, r_Q_asTold_69, r_Q_asTold_70, r_Q_asTold_73, r_Q_asTold_74, r_Q_asTold_75, r_Q_asTold_78, r_Q_asTold_79, r_Q_asTold_80, r_Q_asTold_83, r_Q_asTold_84, r_Q_asTold_85, r_Q_asTold_88, r_Q_asTold_89, r_Q_asTold_90, r_Q_asTold_93, r_Q_asTold_94, r_Q_asTold_95, r_Q_asTold_98, r_Q_asTold_99, r_Q_asTold_100, r_Q_asTold_103, r_Q_asTold_104, r_Q_asTold_105, r_Q_asTold_108, r_Q_asTold_111, r_Q_asTold_112, r_Q_asTold_113, r_Q_asTold_116, r_Q_asTold_117, r_Q_asTold_118, r_Q_asTold_121, r_Q_asTold_122, r_Q_asTold_123, r_Q_asTold_126, r_Q_asTold_129, r_Q_asTold_130, r_Q_asTold_132, gK_27, gK_28, gK_29, gq_27_0, gq_27_1, gK_293, gq_293_0, gK_294, gN_294, hk, Int.reduceLE, Int.reduceLT, Int.reduceEq, Int.reduceToNat, gb_01, eq_self, true_or, or_true, and_true, true_and, and_self, if_true, if_false, not_true_eq_false, not_false_eq_true, ne_eq, gb_ne0, gb_eq0]
theorem sp_Q_asTold_8 (hk : gK b0 = 4) : Run L (d + 1) 128 [vR b0, vI 8] σ (some (vI (gb (σ b0 10 ≠ 0)))) σ := by
  refine Run_of (C' := k_Q_asTold) rfl ?_
  show Wp L (d + 1) k_Q_asTold 0 [vR b0, vI 8] [] σ _
  simp only [r_Q_asTold_0, r_Q_asTold_1, r_Q_asTold_64, r_Q_asTold_65, r_Q_asTold_68, r_Q_asTold_69, r_Q_asTold_70, r_Q_asTold_73, r_Q_asTold_74, r_Q_asTold_75, r_Q_asTold_78, r_Q_asTold_79, r_Q_asTold_80, r_Q_asTold_83, r_Q_asTold_84, r_Q_asTold_85, r_Q_asTold_88, r_Q_asTold_89, r_Q_asTold_90, r_Q_asTold_93, r_Q_asTold_94, r_Q_asTold_95, r_Q_asTold_98, r_Q_asTold_99, r_Q_asTold_100, r_Q_asTold_103, r_Q_asTold_104, r_Q_asTold_105, r_Q_asTold_108, r_Q_asTold_111, r_Q_asTold_112, r_Q_asTold_113, r_Q_asTold_116, r_Q_asTold_117, r_Q_asTold_118, r_Q_asTold_121, r_Q_asTold_122, r_Q_asTold_123, r_Q_asTold_126, r_Q_asTold_129, r_Q_asTold_130, r_Q_asTold_132, gK_27, gK_28, gK_29, gq_27_0, gq_27_1, gK_293, gq_293_0, gK_294, gN_294, hk, Int.reduceLE, Int.reduceLT, Int.reduceEq, Int.reduceToNat, gb_01, eq_self, true_or, or_true, and_true, true_and, and_self, if_true, if_false, not_true_eq_false, not_false_eq_true, ne_eq, gb_ne0, gb_eq0]
theorem sp_Q_asTold_9 (hk : gK b0 = 4) : Run L (d + 1) 128 [vR b0, vI 9] σ (some (vI (σ b0 8))) σ := by
  refine Run_of (C' := k_Q_asTold) rfl ?_
  show Wp L (d + 1) k_Q_asTold 0 [vR b0, vI 9] [] σ _
  simp only [r_Q_asTold_0, r_Q_asTold_1, r_Q_asTold_64, r_Q_asTold_65, r_Q_asTold_68, r_Q_asTold_69, r_Q_asTold_70, r_Q_asTold_73, r_Q_asTold_74, r_Q_asTold_75, r_Q_asTold_78, r_Q_asTold_79, r_Q_asTold_80, r_Q_asTold_83, r_Q_asTold_84, r_Q_asTold_85, r_Q_asTold_88, r_Q_asTold_89, r_Q_asTold_90, r_Q_asTold_93, r_Q_asTold_94, r_Q_asTold_95, r_Q_asTold_98, r_Q_asTold_99, r_Q_asTold_100, r_Q_asTold_103, r_Q_asTold_104, r_Q_asTold_105, r_Q_asTold_108, r_Q_asTold_111, r_Q_asTold_112, r_Q_asTold_113, r_Q_asTold_116, r_Q_asTold_117, r_Q_asTold_118, r_Q_asTold_121, r_Q_asTold_122, r_Q_asTold_123, r_Q_asTold_126, r_Q_asTold_129, r_Q_asTold_130, r_Q_asTold_132, gK_27, gK_28, gK_29, gq_27_0, gq_27_1, gK_293, gq_293_0, gK_294, gN_294, hk, Int.reduceLE, Int.reduceLT, Int.reduceEq, Int.reduceToNat, gb_01, eq_self, true_or, or_true, and_true, true_and, and_self, if_true, if_false, not_true_eq_false, not_false_eq_true, ne_eq, gb_ne0, gb_eq0]
theorem sp_Q_asTold_10 (hk : gK b0 = 4) : Run L (d + 1) 128 [vR b0, vI 10] σ (some (vI (σ b0 9))) σ := by
  refine Run_of (C' := k_Q_asTold) rfl ?_
  show Wp L (d + 1) k_Q_asTold 0 [vR b0, vI 10] [] σ _
  simp only [r_Q_asTold_0, r_Q_asTold_1, r_Q_asTold_64, r_Q_asTold_65, r_Q_asTold_68, r_Q_asTold_69, r_Q_asTold_70, r_Q_asTold_73, r_Q_asTold_74, r_Q_asTold_75, r_Q_asTold_78, r_Q_asTold_79, r_Q_asTold_80, r_Q_asTold_83, r_Q_asTold_84, r_Q_asTold_85, r_Q_asTold_88, r_Q_asTold_89, r_Q_asTold_90, r_Q_asTold_93, r_Q_asTold_94, r_Q_asTold_95, r_Q_asTold_98, r_Q_asTold_99, r_Q_asTold_100, r_Q_asTold_103, r_Q_asTold_104, r_Q_asTold_105, r_Q_asTold_108, r_Q_asTold_111, r_Q_asTold_112, r_Q_asTold_113, r_Q_asTold_116, r_Q_asTold_117, r_Q_asTold_118, r_Q_asTold_121, r_Q_asTold_122, r_Q_asTold_123, r_Q_asTold_126, r_Q_asTold_129, r_Q_asTold_130, r_Q_asTold_132, gK_27, gK_28, gK_29, gq_27_0, gq_27_1, gK_293, gq_293_0, gK_294, gN_294, hk, Int.reduceLE, Int.reduceLT, Int.reduceEq, Int.reduceToNat, gb_01, eq_self, true_or, or_true, and_true, true_and, and_self, if_true, if_false, not_true_eq_false, not_false_eq_true, ne_eq, gb_ne0, gb_eq0]
theorem sp_Q_asTold_11 (hk : gK b0 = 4) : Run L (d + 1) 128 [vR b0, vI 11] σ (some (vI (gb (σ b0 11 ≠ 0)))) σ := by
  refine Run_of (C' := k_Q_asTold) rfl ?_
  show Wp L (d + 1) k_Q_asTold 0 [vR b0, vI 11] [] σ _
  simp only [r_Q_asTold_0, r_Q_asTold_1, r_Q_asTold_64, r_Q_asTold_65, r_Q_asTold_68, r_Q_asTold_69, r_Q_asTold_70, r_Q_asTold_73, r_Q_asTold_74, r_Q_asTold_75, r_Q_asTold_78, r_Q_asTold_79, r_Q_asTold_80, r_Q_asTold_83, r_Q_asTold_84, r_Q_asTold_85, r_Q_asTold_88, r_Q_asTold_89, r_Q_asTold_90, r_Q_asTold_93, r_Q_asTold_94, r_Q_asTold_95, r_Q_asTold_98, r_Q_asTold_99, r_Q_asTold_100, r_Q_asTold_103, r_Q_asTold_104, r_Q_asTold_105, r_Q_asTold_108, r_Q_asTold_111, r_Q_asTold_112, r_Q_asTold_113, r_Q_asTold_116, r_Q_asTold_117, r_Q_asTold_118, r_Q_asTold_121, r_Q_asTold_122, r_Q_asTold_123, r_Q_asTold_126, r_Q_asTold_129, r_Q_asTold_130, r_Q_asTold_132, gK_27, gK_28, gK_29, gq_27_0, gq_27_1, gK_293, gq_293_0, gK_294, gN_294, hk, Int.reduceLE, Int.reduceLT, Int.reduceEq, Int.reduceToNat, gb_01, eq_self, true_or, or_true, and_true, true_and, and_self, if_true, if_false, not_true_eq_false, not_false_eq_true, ne_eq, gb_ne0, gb_eq0]
theorem sp_Q_asTold_x (hk : gK b0 = 4) (e0 : ¬ a1 = 0) (e1 : ¬ a1 = 1) (e2 : ¬ a1 = 2) (e3 : ¬ a1 = 3) (e4 : ¬ a1 = 4) (e5 : ¬ a1 = 5) (e6 : ¬ a1 = 6) (e7 : ¬ a1 = 7) (e8 : ¬ a1 = 8) (e9 : ¬ a1 = 9) (e10 : ¬ a1 = 10) (e11 : ¬ a1 = 11) : Run L (d + 1) 128 [vR b0, vI a1] σ (some (vI (-1000000001))) σ := by
  refine Run_of (C' := k_Q_asTold) rfl ?_
  show Wp L (d + 1) k_Q_asTold 0 [vR b0, vI a1] [] σ _
  simp only [r_Q_asTold_0, r_Q_asTold_1, r_Q_asTold_64, r_Q_asTold_65, r_Q_asTold_68, r_Q_asTold_69, r_Q_asTold_70, r_Q_asTold_73, r_Q_asTold_74, r_Q_asTold_75, r_Q_asTold_78, r_Q_asTold_79, r_Q_asTold_80, r_Q_asTold_83, r_Q_asTold_84, r_Q_asTold_85, r_Q_asTold_88, r_Q_asTold_89, r_Q_asTold_90, r_Q_asTold_93, r_Q_asTold_94, r_Q_asTold_95, r_Q_asTold_98, r_Q_asTold_99, r_Q_asTold_100, r_Q_asTold_103, r_Q_asTold_104, r_Q_asTold_105, r_Q_asTold_108, r_Q_asTold_111, r_Q_asTold_112, r_Q_asTold_113, r_Q_asTold_116, r_Q_asTold_117, r_Q_asTold_118, r_Q_asTold_121, r_Q_asTold_122, r_Q_asTold_123, r_Q_asTold_126, r_Q_asTold_129, r_Q_asTold_130, r_Q_asTold_132, gK_27, gK_28, gK_29, gq_27_0, gq_27_1, gK_293, gq_293_0, gK_294, gN_294, hk, e0, e1, e2, e3, e4, e5, e6, e7, e8, e9, e10, e11, Int.reduceLE, Int.reduceLT, Int.reduceEq, Int.reduceToNat, gb_01, eq_self, true_or, or_true, and_true, true_and, and_self, if_true, if_false, not_true_eq_false, not_false_eq_true, ne_eq, gb_ne0, gb_eq0]
theorem sp_Q_asTold (hk : gK b0 = 4) : Run L (d + 1) 128 [vR b0, vI a1] σ (some (vI (gtd (σ b0) a1))) σ := by
  by_cases e0 : a1 = 0
  · subst e0
    exact sp_Q_asTold_0 hk
  by_cases e1 : a1 = 1
  · subst e1
    exact sp_Q_asTold_1 hk
  by_cases e2 : a1 = 2
  · subst e2
    exact sp_Q_asTold_2 hk
  by_cases e3 : a1 = 3
  · subst e3
    exact sp_Q_asTold_3 hk
  by_cases e4 : a1 = 4
  · subst e4
    exact sp_Q_asTold_4 hk
  by_cases e5 : a1 = 5
  · subst e5
    exact sp_Q_asTold_5 hk
  by_cases e6 : a1 = 6
  · subst e6
    exact sp_Q_asTold_6 hk
  by_cases e7 : a1 = 7
  · subst e7
    exact sp_Q_asTold_7 hk
  by_cases e8 : a1 = 8
  · subst e8
    exact sp_Q_asTold_8 hk
  by_cases e9 : a1 = 9
  · subst e9
    exact sp_Q_asTold_9 hk
  by_cases e10 : a1 = 10
  · subst e10
    exact sp_Q_asTold_10 hk
  by_cases e11 : a1 = 11
  · subst e11
    exact sp_Q_asTold_11 hk
  rw [gtd_out (by omega)]
  exact sp_Q_asTold_x hk e0 e1 e2 e3 e4 e5 e6 e7 e8 e9 e10 e11
theorem r_Q_isOf_0 : Wp L d k_Q_isOf 0 [l0, vI a1] [] σ Q ↔ Wp L d k_Q_isOf 1 [l0, vI a1] [vI a1] σ Q := wp_iload rfl rfl
theorem r_Q_isOf_1 : Wp L d k_Q_isOf 1 [l0, l1] [vI s0] σ Q ↔ (if s0 = 0 then Wp L d k_Q_isOf 25 [l0, l1] [] σ Q else Wp L d k_Q_isOf 4 [l0, l1] [] σ Q) := wp_if_eq rfl
theorem r_Q_isOf_4 : Wp L d k_Q_isOf 4 [l0, vI a1] [] σ Q ↔ Wp L d k_Q_isOf 5 [l0, vI a1] [vI a1] σ Q := wp_iload rfl rfl
theorem r_Q_isOf_5 : Wp L d k_Q_isOf 5 [vR b0, l1] [vI s0] σ Q ↔ Wp L d k_Q_isOf 6 [vR b0, l1] [vR b0, vI s0] σ Q := wp_aload rfl rfl
theorem r_Q_isOf_6 (h : gK c1 = 4) : Wp L d k_Q_isOf 6 [l0, l1] [vR c1, vI s0] σ Q ↔ Wp L d k_Q_isOf 9 [l0, l1] [vI (σ c1 0), vI s0] σ Q := wp_getI (c := 1024) rfl rfl rfl rfl h
theorem r_Q_isOf_9 : Wp L d k_Q_isOf 9 [l0, l1] [vI s1, vI s0] σ Q ↔ (if s0 = s1 then Wp L d k_Q_isOf 25 [l0, l1] [] σ Q else Wp L d k_Q_isOf 12 [l0, l1] [] σ Q) := wp_cmp_eq rfl
theorem r_Q_isOf_12 : Wp L d k_Q_isOf 12 [l0, vI a1] [] σ Q ↔ Wp L d k_Q_isOf 13 [l0, vI a1] [vI a1] σ Q := wp_iload rfl rfl
theorem r_Q_isOf_13 : Wp L d k_Q_isOf 13 [l0, l1] [vI s0] σ Q ↔ Wp L d k_Q_isOf 14 [l0, l1] [vI 2, vI s0] σ Q := wp_push rfl
theorem r_Q_isOf_14 : Wp L d k_Q_isOf 14 [l0, l1] [vI s1, vI s0] σ Q ↔ (if s0 ≠ s1 then Wp L d k_Q_isOf 29 [l0, l1] [] σ Q else Wp L d k_Q_isOf 17 [l0, l1] [] σ Q) := wp_cmp_ne rfl
theorem r_Q_isOf_17 : Wp L d k_Q_isOf 17 [vR b0, l1] [] σ Q ↔ Wp L d k_Q_isOf 18 [vR b0, l1] [vR b0] σ Q := wp_aload rfl rfl
theorem r_Q_isOf_18 (h : gK c0 = 4) : Wp L d k_Q_isOf 18 [l0, l1] [vR c0] σ Q ↔ Wp L d k_Q_isOf 21 [l0, l1] [vI (σ c0 0)] σ Q := wp_getI (c := 1024) rfl rfl rfl rfl h
theorem r_Q_isOf_21 : Wp L d k_Q_isOf 21 [l0, l1] [vI s0] σ Q ↔ Wp L d k_Q_isOf 22 [l0, l1] [vI 3, vI s0] σ Q := wp_push rfl
theorem r_Q_isOf_22 : Wp L d k_Q_isOf 22 [l0, l1] [vI s1, vI s0] σ Q ↔ (if s0 ≠ s1 then Wp L d k_Q_isOf 29 [l0, l1] [] σ Q else Wp L d k_Q_isOf 25 [l0, l1] [] σ Q) := wp_cmp_ne rfl
theorem r_Q_isOf_25 : Wp L d k_Q_isOf 25 [l0, l1] [] σ Q ↔ Wp L d k_Q_isOf 26 [l0, l1] [vI 1] σ Q := wp_push rfl
theorem r_Q_isOf_26 : Wp L d k_Q_isOf 26 [l0, l1] [vI s0] σ Q ↔ Wp L d k_Q_isOf 30 [l0, l1] [vI s0] σ Q := wp_goto rfl
theorem r_Q_isOf_29 : Wp L d k_Q_isOf 29 [l0, l1] [] σ Q ↔ Wp L d k_Q_isOf 30 [l0, l1] [vI 0] σ Q := wp_push rfl
theorem r_Q_isOf_30 (h : s0 = 0 ∨ s0 = 1) : Wp L d k_Q_isOf 30 [l0, l1] [vI s0] σ Q ↔ Q (some (vI s0)) σ := wp_zret rfl h
theorem sp_Q_isOf (hk : gK b0 = 4) : Run L d 129 [vR b0, vI a1] σ (some (vI (gb (a1 = 0 ∨ a1 = σ b0 0 ∨ a1 = 2 ∧ σ b0 0 = 3)))) σ := by
  refine Run_of (C' := k_Q_isOf) rfl ?_
  show Wp L d k_Q_isOf 0 [vR b0, vI a1] [] σ _
  simp only [r_Q_isOf_0, r_Q_isOf_1, r_Q_isOf_4, r_Q_isOf_5, r_Q_isOf_6, r_Q_isOf_9, r_Q_isOf_12, r_Q_isOf_13, r_Q_isOf_14, r_Q_isOf_17, r_Q_isOf_18, r_Q_isOf_21, r_Q_isOf_22, r_Q_isOf_25, r_Q_isOf_26, r_Q_isOf_29, r_Q_isOf_30, gK_27, gK_28, gK_29, gq_27_0, gq_27_1, gK_293, gq_293_0, gK_294, gN_294, hk, Int.reduceLE, Int.reduceLT, Int.reduceEq, Int.reduceToNat, gb_01, eq_self, true_or, or_true, and_true, true_and, and_self, if_true, if_false, not_true_eq_false, not_false_eq_true, ne_eq, gb_ne0, gb_eq0]
  repeat' split
  all_goals first | rw [gb_t (by omega)] | rw [gb_f (by omega)]
theorem r_X_told_0 : Wp L d k_X_told 0 [vR b0, l1, l2] [] σ Q ↔ Wp L d k_X_told 1 [vR b0, l1, l2] [vR b0] σ Q := wp_aload rfl rfl
theorem r_X_told_1 : Wp L d k_X_told 1 [l0, vI a1, l2] [vR c0] σ Q ↔ Wp L d k_X_told 2 [l0, vI a1, l2] [vI a1, vR c0] σ Q := wp_iload rfl rfl
theorem r_X_told_5 : Wp L d k_X_told 5 [l0, l1, l2] [vI s0] σ Q ↔ (if s0 = 0 then Wp L d k_X_told 24 [l0, l1, l2] [] σ Q else Wp L d k_X_told 8 [l0, l1, l2] [] σ Q) := wp_if_eq rfl
theorem r_X_told_8 : Wp L d k_X_told 8 [vR b0, l1, l2] [] σ Q ↔ Wp L d k_X_told 9 [vR b0, l1, l2] [vR b0] σ Q := wp_aload rfl rfl
theorem r_X_told_9 (h : gK c0 = 0) : Wp L d k_X_told 9 [l0, l1, l2] [vR c0] σ Q ↔ Wp L d k_X_told 12 [l0, l1, l2] [vR (gq c0 1)] σ Q := wp_getR (c := 129) rfl rfl rfl rfl rfl h
theorem r_X_told_12 (h : gK c0 = 1) : Wp L d k_X_told 12 [l0, l1, l2] [vR c0] σ Q ↔ Wp L d k_X_told 15 [l0, l1, l2] [vR (gq c0 3)] σ Q := wp_getR (c := 387) rfl rfl rfl rfl rfl h
theorem r_X_told_15 : Wp L d k_X_told 15 [l0, vI a1, l2] [vR c0] σ Q ↔ Wp L d k_X_told 16 [l0, vI a1, l2] [vI a1, vR c0] σ Q := wp_iload rfl rfl
theorem r_X_told_16 (h : gK c0 = 102 ∨ gK c0 = 103) (hx : 0 ≤ s1 ∧ s1 < gN c0) : Wp L d k_X_told 16 [l0, l1, l2] [vI s1, vR c0] σ Q ↔ Wp L d k_X_told 17 [l0, l1, l2] [vR (gq c0 s1.toNat)] σ Q := wp_aald rfl h hx
theorem r_X_told_17 : Wp L d k_X_told 17 [l0, l1, vI a2] [vR c0] σ Q ↔ Wp L d k_X_told 18 [l0, l1, vI a2] [vI a2, vR c0] σ Q := wp_iload rfl rfl
theorem r_X_told_21 : Wp L d k_X_told 21 [l0, l1, l2] [vI s0] σ Q ↔ Wp L d k_X_told 26 [l0, l1, l2] [vI s0] σ Q := wp_goto rfl
theorem r_X_told_24 : Wp L d k_X_told 24 [l0, l1, l2] [] σ Q ↔ Wp L d k_X_told 26 [l0, l1, l2] [vI (-1000000001)] σ Q := wp_push rfl
theorem r_X_told_26 : Wp L d k_X_told 26 [l0, l1, l2] [vI s0] σ Q ↔ Q (some (vI s0)) σ := wp_iret rfl
theorem r_X_told_2 : Wp L (d + 2) k_X_told 2 [l0, l1, l2] [vI s1, vR 27] σ Q ↔ Wp L (d + 2) k_X_told 5 [l0, l1, l2] [vI (gb (0 ≤ s1 ∧ s1 ≤ w32 (σ 29 9 - 1)))] σ Q := wp_callR (d := d + 1) (as := [vR 27, vI s1]) (rest := []) rfl rfl rfl rfl rfl rfl rfl (grecv_k (by rw [gK_27]) rfl) (sp_X_isPart)
theorem r_X_told_18 (hk : gK c0 = 4) : Wp L (d + 2) k_X_told 18 [l0, l1, l2] [vI s1, vR c0] σ Q ↔ Wp L (d + 2) k_X_told 21 [l0, l1, l2] [vI (gtd (σ c0) s1)] σ Q := wp_callR (d := d + 1) (as := [vR c0, vI s1]) (rest := []) rfl rfl rfl rfl rfl rfl rfl (grecv_k (by rw [hk]) rfl) (sp_Q_asTold hk)
theorem sp_X_told_b (hp : w32 (σ 29 9 - 1) = σ 29 9 - 1) (h : ¬ (0 ≤ a1 ∧ a1 ≤ σ 29 9 - 1)) : Run L (d + 2) 24 [vR 27, vI a1, vI a2] σ (some (vI (-1000000001))) σ := by
  refine Run_of (C' := k_X_told) rfl ?_
  show Wp L (d + 2) k_X_told 0 [vR 27, vI a1, vI a2] [] σ _
  simp only [r_X_told_0, r_X_told_1, r_X_told_2, r_X_told_5, r_X_told_8, r_X_told_9, r_X_told_12, r_X_told_15, r_X_told_16, r_X_told_17, r_X_told_18, r_X_told_21, r_X_told_24, r_X_told_26, gK_27, gK_28, gK_29, gq_27_0, gq_27_1, gK_293, gq_293_0, gK_294, gN_294, hp, h, Int.reduceLE, Int.reduceLT, Int.reduceEq, Int.reduceToNat, gb_01, eq_self, true_or, or_true, and_true, true_and, and_self, if_true, if_false, not_true_eq_false, not_false_eq_true, ne_eq, gb_ne0, gb_eq0]
theorem sp_X_told (hp : w32 (σ 29 9 - 1) = σ 29 9 - 1) (hq : σ 29 9 ≤ 40) (h : 0 ≤ a1 ∧ a1 ≤ σ 29 9 - 1) : Run L (d + 2) 24 [vR 27, vI a1, vI a2] σ (some (vI (gtd (σ (38 + a1.toNat)) a2))) σ := by
  obtain ⟨q1, q2⟩ := gq33 (show a1.toNat < 40 by omega)
  have h3 : a1 < 40 := by omega
  refine Run_of (C' := k_X_told) rfl ?_
  show Wp L (d + 2) k_X_told 0 [vR 27, vI a1, vI a2] [] σ _
  simp only [r_X_told_0, r_X_told_1, r_X_told_2, r_X_told_5, r_X_told_8, r_X_told_9, r_X_told_12, r_X_told_15, r_X_told_16, r_X_told_17, r_X_told_18, r_X_told_21, r_X_told_24, r_X_told_26, gK_27, gK_28, gK_29, gq_27_0, gq_27_1, gK_293, gq_293_0, gK_294, gN_294, gq_29_3, gK_33, gN_33, hp, h, h3, q1, q2, Int.reduceLE, Int.reduceLT, Int.reduceEq, Int.reduceToNat, gb_01, eq_self, true_or, or_true, and_true, true_and, and_self, if_true, if_false, not_true_eq_false, not_false_eq_true, ne_eq, gb_ne0, gb_eq0]
theorem r_M_told_0 : Wp L d k_M_told 0 [vR b0, l1, l2] [] σ Q ↔ Wp L d k_M_told 1 [vR b0, l1, l2] [vR b0] σ Q := wp_aload rfl rfl
theorem r_M_told_1 : Wp L d k_M_told 1 [l0, vI a1, l2] [vR c0] σ Q ↔ Wp L d k_M_told 2 [l0, vI a1, l2] [vI a1, vR c0] σ Q := wp_iload rfl rfl
theorem r_M_told_5 : Wp L d k_M_told 5 [l0, l1, l2] [vI s0] σ Q ↔ (if s0 = 0 then Wp L d k_M_told 35 [l0, l1, l2] [] σ Q else Wp L d k_M_told 8 [l0, l1, l2] [] σ Q) := wp_if_eq rfl
theorem r_M_told_8 : Wp L d k_M_told 8 [l0, l1, vI a2] [] σ Q ↔ Wp L d k_M_told 9 [l0, l1, vI a2] [vI a2] σ Q := wp_iload rfl rfl
theorem r_M_told_9 : Wp L d k_M_told 9 [l0, l1, l2] [vI s0] σ Q ↔ Wp L d k_M_told 10 [l0, l1, l2] [vL s0] σ Q := wp_i2l rfl
theorem r_M_told_10 : Wp L d k_M_told 10 [l0, l1, l2] [vL s0] σ Q ↔ Wp L d k_M_told 11 [l0, l1, l2] [vL 0, vL s0] σ Q := wp_pushL rfl
theorem r_M_told_11 : Wp L d k_M_told 11 [l0, l1, l2] [vL s1, vL s0] σ Q ↔ Wp L d k_M_told 14 [l0, l1, l2] [vL 11, vL s1, vL s0] σ Q := wp_pushL rfl
theorem r_M_told_17 : Wp L d k_M_told 17 [l0, l1, l2] [vI s0] σ Q ↔ (if s0 = 0 then Wp L d k_M_told 35 [l0, l1, l2] [] σ Q else Wp L d k_M_told 20 [l0, l1, l2] [] σ Q) := wp_if_eq rfl
theorem r_M_told_20 : Wp L d k_M_told 20 [vR b0, l1, l2] [] σ Q ↔ Wp L d k_M_told 21 [vR b0, l1, l2] [vR b0] σ Q := wp_aload rfl rfl
theorem r_M_told_21 (h : gK c0 = 12) : Wp L d k_M_told 21 [l0, l1, l2] [vR c0] σ Q ↔ Wp L d k_M_told 24 [l0, l1, l2] [vR (gq c0 0)] σ Q := wp_getR (c := 3200) rfl rfl rfl rfl rfl h
theorem r_M_told_24 : Wp L d k_M_told 24 [vR b0, l1, l2] [vR c0] σ Q ↔ Wp L d k_M_told 25 [vR b0, l1, l2] [vR b0, vR c0] σ Q := wp_aload rfl rfl
theorem r_M_told_25 : Wp L d k_M_told 25 [l0, vI a1, l2] [vR c1, vR c0] σ Q ↔ Wp L d k_M_told 26 [l0, vI a1, l2] [vI a1, vR c1, vR c0] σ Q := wp_iload rfl rfl
theorem r_M_told_29 : Wp L d k_M_told 29 [l0, l1, vI a2] [vI s1, vR c0] σ Q ↔ Wp L d k_M_told 30 [l0, l1, vI a2] [vI a2, vI s1, vR c0] σ Q := wp_iload rfl rfl
theorem r_M_told_30 : Wp L d k_M_told 30 [l0, l1, l2] [vI s2, vI s1, vR c0] σ Q ↔ Wp L d k_M_told 31 [l0, l1, l2] [vI (w32 (s1 + s2)), vR c0] σ Q := wp_iadd rfl
theorem r_M_told_31 (h : gK c0 = 100) (hx : 0 ≤ s1 ∧ s1 < gN c0) : Wp L d k_M_told 31 [l0, l1, l2] [vI s1, vR c0] σ Q ↔ Wp L d k_M_told 32 [l0, l1, l2] [vI (σ c0 s1.toNat)] σ Q := wp_iald rfl h hx
theorem r_M_told_32 : Wp L d k_M_told 32 [l0, l1, l2] [vI s0] σ Q ↔ Wp L d k_M_told 37 [l0, l1, l2] [vI s0] σ Q := wp_goto rfl
theorem r_M_told_35 : Wp L d k_M_told 35 [l0, l1, l2] [] σ Q ↔ Wp L d k_M_told 37 [l0, l1, l2] [vI (-1000000001)] σ Q := wp_push rfl
theorem r_M_told_37 : Wp L d k_M_told 37 [l0, l1, l2] [vI s0] σ Q ↔ Q (some (vI s0)) σ := wp_iret rfl
theorem r_M_told_2 : Wp L (d + 2) k_M_told 2 [l0, l1, l2] [vI s1, vR 293] σ Q ↔ Wp L (d + 2) k_M_told 5 [l0, l1, l2] [vI (gb (0 ≤ s1 ∧ s1 ≤ w32 (σ 294 1 - 1)))] σ Q := wp_callR (d := d + 1) (as := [vR 293, vI s1]) (rest := []) rfl rfl rfl rfl rfl rfl rfl (grecv_k (by rw [gK_293]) rfl) (sp_M_isPart)
theorem r_M_told_14 : Wp L (d + 2) k_M_told 14 [l0, l1, l2] [vL s2, vL s1, vL s0] σ Q ↔ Wp L (d + 2) k_M_told 17 [l0, l1, l2] [vI (gb (s1 ≤ s0 ∧ s0 ≤ s2))] σ Q := wp_callR (d := d + 1) (as := [vL s0, vL s1, vL s2]) (rest := []) rfl rfl rfl rfl rfl rfl rfl rfl (sp_M_isIn)
theorem r_M_told_26 : Wp L (d + 2) k_M_told 26 [l0, l1, l2] [vI s2, vR 293, vR c0] σ Q ↔ Wp L (d + 2) k_M_told 29 [l0, l1, l2] [vI (w32 (120 + w32 (12 * s2))), vR c0] σ Q := wp_callR (d := d + 1) (as := [vR 293, vI s2]) (rest := [vR c0]) rfl rfl rfl rfl rfl rfl rfl (grecv_k (by rw [gK_293]) rfl) (sp_M_partAt)
theorem sp_M_told_b (hp : w32 (σ 294 1 - 1) = σ 294 1 - 1) (h : ¬ ((0 ≤ a1 ∧ a1 ≤ σ 294 1 - 1) ∧ 0 ≤ a2 ∧ a2 ≤ 11)) : Run L (d + 2) 208 [vR 293, vI a1, vI a2] σ (some (vI (-1000000001))) σ := by
  refine Run_of (C' := k_M_told) rfl ?_
  show Wp L (d + 2) k_M_told 0 [vR 293, vI a1, vI a2] [] σ _
  simp only [r_M_told_0, r_M_told_1, r_M_told_2, r_M_told_5, r_M_told_8, r_M_told_9, r_M_told_10, r_M_told_11, r_M_told_14, r_M_told_17, r_M_told_20, r_M_told_21, r_M_told_24, r_M_told_25, r_M_told_26, r_M_told_29, r_M_told_30, r_M_told_31, r_M_told_32, r_M_told_35, r_M_told_37, gK_27, gK_28, gK_29, gq_27_0, gq_27_1, gK_293, gq_293_0, gK_294, gN_294, hp, Int.reduceLE, Int.reduceLT, Int.reduceEq, Int.reduceToNat, gb_01, eq_self, true_or, or_true, and_true, true_and, and_self, if_true, if_false, not_true_eq_false, not_false_eq_true, ne_eq, gb_ne0, gb_eq0]
  repeat' split
  all_goals first | trivial | omega
theorem sp_M_told (hp : w32 (σ 294 1 - 1) = σ 294 1 - 1) (hq : σ 294 1 ≤ 40) (h : 0 ≤ a1 ∧ a1 ≤ σ 294 1 - 1) (h2 : 0 ≤ a2 ∧ a2 ≤ 11) : Run L (d + 2) 208 [vR 293, vI a1, vI a2] σ (some (vI (σ 294 (120 + 12 * a1 + a2).toNat))) σ := by
  have w0 : w32 (12 * a1) = 12 * a1 := w32_id (by unfold gr32; omega)
  have w1 : w32 (120 + 12 * a1) = 120 + 12 * a1 := w32_id (by unfold gr32; omega)
  have w2 : w32 (120 + 12 * a1 + a2) = 120 + 12 * a1 + a2 := w32_id (by unfold gr32; omega)
  have h4 : 0 ≤ 120 + 12 * a1 + a2 := by omega
  have h5 : 120 + 12 * a1 + a2 < 3540 := by omega
  refine Run_of (C' := k_M_told) rfl ?_
  show Wp L (d + 2) k_M_told 0 [vR 293, vI a1, vI a2] [] σ _
  simp only [r_M_told_0, r_M_told_1, r_M_told_2, r_M_told_5, r_M_told_8, r_M_told_9, r_M_told_10, r_M_told_11, r_M_told_14, r_M_told_17, r_M_told_20, r_M_told_21, r_M_told_24, r_M_told_25, r_M_told_26, r_M_told_29, r_M_told_30, r_M_told_31, r_M_told_32, r_M_told_35, r_M_told_37, gK_27, gK_28, gK_29, gq_27_0, gq_27_1, gK_293, gq_293_0, gK_294, gN_294, hp, h, h2, h4, h5, w0, w1, w2, Int.reduceLE, Int.reduceLT, Int.reduceEq, Int.reduceToNat, gb_01, eq_self, true_or, or_true, and_true, true_and, and_self, if_true, if_false, not_true_eq_false, not_false_eq_true, ne_eq, gb_ne0, gb_eq0]
theorem op_told (a1 a2 : Int) : Op 24 208 [vI a1, vI a2] := by
  intro L d σ hI
  obtain ⟨⟨w1, w2, w3, w4, w5, w6, w7, w8⟩, c1, c2, c3, c4, c5, c6, c7, c8⟩ := iB hI
  have hp : w32 (σ 29 9 - 1) = σ 29 9 - 1 := w32_id (by unfold gr32; omega)
  have hm : w32 (σ 294 1 - 1) = σ 294 1 - 1 := w32_id (by unfold gr32; omega)
  
  by_cases h : 0 ≤ a1 ∧ a1 ≤ σ 29 9 - 1
  · by_cases e : 0 ≤ a2 ∧ a2 ≤ 11
    · refine ⟨_, _, _, sp_X_told hp (by omega) h, Run_r (sp_M_told hm (by omega) (by omega) e) ?_, hI⟩
      rw [gtd_in e (w4 a1.toNat (by omega)) (c4 a1.toNat (by omega))]
      unfold gpt
      rw [show (120 + 12 * a1 + a2).toNat = 120 + 12 * a1.toNat + a2.toNat by omega]
    · exact ⟨_, _, _, sp_X_told hp (by omega) h, Run_r (sp_M_told_b hm (by omega)) (gtd_out e).symm, hI⟩
  · exact ⟨_, _, _, sp_X_told_b hp h, sp_M_told_b hm (by omega), hI⟩
