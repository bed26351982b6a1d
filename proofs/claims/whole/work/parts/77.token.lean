/-! text: small answers. -/
variable {L d : Nat} {σ σ1 : Nat → Nat → Int} {Q : Option gV → (Nat → Nat → Int) → Prop} {a0 a1 a2 a3 a4 a5 a6 a7 a8 a9 a10 a11 s0 s1 s2 s3 s4 s5 s6 s7 s8 s9 : Int} {l0 l1 l2 l3 l4 l5 l6 l7 l8 l9 l10 l11 t0 t1 t2 t3 t4 t5 t6 t7 t8 t9 : gV} {b0 b1 b2 b3 b4 b5 b6 b7 b8 b9 b10 b11 c0 c1 c2 c3 c4 c5 c6 c7 c8 c9 : Nat} {r : Option gV}
/-- letter 1, digit 2, sign 3 -/
def gso (b : Int) : Int := if 97 ≤ b ∧ b ≤ 122 then 1 else if 48 ≤ b ∧ b ≤ 57 then 2 else 3
theorem gso_1 {b : Int} : gso b = 1 ↔ 97 ≤ b ∧ b ≤ 122 := by
  unfold gso
  split
  · next h => exact ⟨fun _ => h, fun _ => rfl⟩
  · next h => exact ⟨fun e => by split at e <;> omega, fun e => absurd e h⟩
theorem gso_2 {b : Int} : gso b = 2 ↔ 48 ≤ b ∧ b ≤ 57 := by
  unfold gso
  split
  · next h => exact ⟨fun e => by omega, fun e => by omega⟩
  · split
    · next h => exact ⟨fun _ => h, fun _ => rfl⟩
    · next h => exact ⟨fun e => by omega, fun e => absurd e h⟩
theorem litB : gK 301 = 100 ∧ ((gN 301 : Nat) : Int) = 96 ∧ gq 293 8 = 301 := by decide +kernel
theorem r_U_sortOf_0 : Wp L d k_U_sortOf 0 [vI a0] [] σ Q ↔ Wp L d k_U_sortOf 1 [vI a0] [vI a0] σ Q := wp_iload rfl rfl
theorem r_U_sortOf_1 : Wp L d k_U_sortOf 1 [l0] [vI s0] σ Q ↔ Wp L d k_U_sortOf 3 [l0] [vI 97, vI s0] σ Q := wp_push rfl
theorem r_U_sortOf_3 : Wp L d k_U_sortOf 3 [l0] [vI s1, vI s0] σ Q ↔ (if s0 < s1 then Wp L d k_U_sortOf 14 [l0] [] σ Q else Wp L d k_U_sortOf 6 [l0] [] σ Q) := wp_cmp_lt rfl
theorem r_U_sortOf_6 : Wp L d k_U_sortOf 6 [vI a0] [] σ Q ↔ Wp L d k_U_sortOf 7 [vI a0] [vI a0] σ Q := wp_iload rfl rfl
theorem r_U_sortOf_7 : Wp L d k_U_sortOf 7 [l0] [vI s0] σ Q ↔ Wp L d k_U_sortOf 9 [l0] [vI 122, vI s0] σ Q := wp_push rfl
theorem r_U_sortOf_9 : Wp L d k_U_sortOf 9 [l0] [vI s1, vI s0] σ Q ↔ (if s1 < s0 then Wp L d k_U_sortOf 14 [l0] [] σ Q else Wp L d k_U_sortOf 12 [l0] [] σ Q) := wp_cmp_gt rfl
theorem r_U_sortOf_12 : Wp L d k_U_sortOf 12 [l0] [] σ Q ↔ Wp L d k_U_sortOf 13 [l0] [vI 1] σ Q := wp_push rfl
theorem r_U_sortOf_13 : Wp L d k_U_sortOf 13 [l0] [vI s0] σ Q ↔ Q (some (vI s0)) σ := wp_iret rfl
theorem r_U_sortOf_14 : Wp L d k_U_sortOf 14 [vI a0] [] σ Q ↔ Wp L d k_U_sortOf 15 [vI a0] [vI a0] σ Q := wp_iload rfl rfl
theorem r_U_sortOf_15 : Wp L d k_U_sortOf 15 [l0] [vI s0] σ Q ↔ Wp L d k_U_sortOf 17 [l0] [vI 48, vI s0] σ Q := wp_push rfl
theorem r_U_sortOf_17 : Wp L d k_U_sortOf 17 [l0] [vI s1, vI s0] σ Q ↔ (if s0 < s1 then Wp L d k_U_sortOf 30 [l0] [] σ Q else Wp L d k_U_sortOf 20 [l0] [] σ Q) := wp_cmp_lt rfl
theorem r_U_sortOf_20 : Wp L d k_U_sortOf 20 [vI a0] [] σ Q ↔ Wp L d k_U_sortOf 21 [vI a0] [vI a0] σ Q := wp_iload rfl rfl
theorem r_U_sortOf_21 : Wp L d k_U_sortOf 21 [l0] [vI s0] σ Q ↔ Wp L d k_U_sortOf 23 [l0] [vI 57, vI s0] σ Q := wp_push rfl
theorem r_U_sortOf_23 : Wp L d k_U_sortOf 23 [l0] [vI s1, vI s0] σ Q ↔ (if s1 < s0 then Wp L d k_U_sortOf 30 [l0] [] σ Q else Wp L d k_U_sortOf 26 [l0] [] σ Q) := wp_cmp_gt rfl
theorem r_U_sortOf_26 : Wp L d k_U_sortOf 26 [l0] [] σ Q ↔ Wp L d k_U_sortOf 27 [l0] [vI 2] σ Q := wp_push rfl
theorem r_U_sortOf_27 : Wp L d k_U_sortOf 27 [l0] [vI s0] σ Q ↔ Wp L d k_U_sortOf 31 [l0] [vI s0] σ Q := wp_goto rfl
theorem r_U_sortOf_30 : Wp L d k_U_sortOf 30 [l0] [] σ Q ↔ Wp L d k_U_sortOf 31 [l0] [vI 3] σ Q := wp_push rfl
theorem r_U_sortOf_31 : Wp L d k_U_sortOf 31 [l0] [vI s0] σ Q ↔ Q (some (vI s0)) σ := wp_iret rfl
theorem sp_U_sortOf : Run L d 158 [vI a0] σ (some (vI (gso a0))) σ := by
  refine Run_of (C' := k_U_sortOf) rfl ?_
  show Wp L d k_U_sortOf 0 [vI a0] [] σ _

  by_cases h1 : 97 ≤ a0 ∧ a0 ≤ 122
  · rw [gso_1.2 h1]
    simp (disch := first | assumption | exact gb_01 _ | omega) only [r_U_sortOf_0, r_U_sortOf_1, r_U_sortOf_3, r_U_sortOf_6, r_U_sortOf_7, r_U_sortOf_9, r_U_sortOf_12, r_U_sortOf_13, r_U_sortOf_14, r_U_sortOf_15, r_U_sortOf_17, r_U_sortOf_20, r_U_sortOf_21, r_U_sortOf_23, r_U_sortOf_26, r_U_sortOf_27, r_U_sortOf_30, r_U_sortOf_31, w32_gb, w32i, tn_add, tn_mul, Int.toNat_natCast, Int.toNat_zero, Int.reduceLE, Int.reduceLT, Int.reduceEq, Int.reduceNe, gb_T, gb_F, Int.reduceToNat, eq_self, true_or, or_true, and_true, true_and, and_self, ↓ite_gb0, ↓ite_gbn, ↓if_pos, ↓if_neg, if_true, if_false, not_true_eq_false, not_false_eq_true, gb_ne0, gb_eq0]
  · by_cases h2 : 48 ≤ a0 ∧ a0 ≤ 57
    · rw [gso_2.2 h2]
      simp (disch := first | assumption | exact gb_01 _ | omega) only [r_U_sortOf_0, r_U_sortOf_1, r_U_sortOf_3, r_U_sortOf_6, r_U_sortOf_7, r_U_sortOf_9, r_U_sortOf_12, r_U_sortOf_13, r_U_sortOf_14, r_U_sortOf_15, r_U_sortOf_17, r_U_sortOf_20, r_U_sortOf_21, r_U_sortOf_23, r_U_sortOf_26, r_U_sortOf_27, r_U_sortOf_30, r_U_sortOf_31, w32_gb, w32i, tn_add, tn_mul, Int.toNat_natCast, Int.toNat_zero, Int.reduceLE, Int.reduceLT, Int.reduceEq, Int.reduceNe, gb_T, gb_F, Int.reduceToNat, eq_self, true_or, or_true, and_true, true_and, and_self, ↓ite_gb0, ↓ite_gbn, ↓if_pos, ↓if_neg, if_true, if_false, not_true_eq_false, not_false_eq_true, gb_ne0, gb_eq0]
    · rw [show gso a0 = 3 by unfold gso; rw [if_neg h1, if_neg h2]]
      by_cases h3 : 97 ≤ a0
      · by_cases h4 : 48 ≤ a0
        · simp (disch := first | assumption | exact gb_01 _ | omega) only [r_U_sortOf_0, r_U_sortOf_1, r_U_sortOf_3, r_U_sortOf_6, r_U_sortOf_7, r_U_sortOf_9, r_U_sortOf_12, r_U_sortOf_13, r_U_sortOf_14, r_U_sortOf_15, r_U_sortOf_17, r_U_sortOf_20, r_U_sortOf_21, r_U_sortOf_23, r_U_sortOf_26, r_U_sortOf_27, r_U_sortOf_30, r_U_sortOf_31, w32_gb, w32i, tn_add, tn_mul, Int.toNat_natCast, Int.toNat_zero, Int.reduceLE, Int.reduceLT, Int.reduceEq, Int.reduceNe, gb_T, gb_F, Int.reduceToNat, eq_self, true_or, or_true, and_true, true_and, and_self, ↓ite_gb0, ↓ite_gbn, ↓if_pos, ↓if_neg, if_true, if_false, not_true_eq_false, not_false_eq_true, gb_ne0, gb_eq0]
        · simp (disch := first | assumption | exact gb_01 _ | omega) only [r_U_sortOf_0, r_U_sortOf_1, r_U_sortOf_3, r_U_sortOf_6, r_U_sortOf_7, r_U_sortOf_9, r_U_sortOf_12, r_U_sortOf_13, r_U_sortOf_14, r_U_sortOf_15, r_U_sortOf_17, r_U_sortOf_20, r_U_sortOf_21, r_U_sortOf_23, r_U_sortOf_26, r_U_sortOf_27, r_U_sortOf_30, r_U_sortOf_31, w32_gb, w32i, tn_add, tn_mul, Int.toNat_natCast, Int.toNat_zero, Int.reduceLE, Int.reduceLT, Int.reduceEq, Int.reduceNe, gb_T, gb_F, Int.reduceToNat, eq_self, true_or, or_true, and_true, true_and, and_self, ↓ite_gb0, ↓ite_gbn, ↓if_pos, ↓if_neg, if_true, if_false, not_true_eq_false, not_false_eq_true, gb_ne0, gb_eq0]
      · by_cases h4 : 48 ≤ a0
        · simp (disch := first | assumption | exact gb_01 _ | omega) only [r_U_sortOf_0, r_U_sortOf_1, r_U_sortOf_3, r_U_sortOf_6, r_U_sortOf_7, r_U_sortOf_9, r_U_sortOf_12, r_U_sortOf_13, r_U_sortOf_14, r_U_sortOf_15, r_U_sortOf_17, r_U_sortOf_20, r_U_sortOf_21, r_U_sortOf_23, r_U_sortOf_26, r_U_sortOf_27, r_U_sortOf_30, r_U_sortOf_31, w32_gb, w32i, tn_add, tn_mul, Int.toNat_natCast, Int.toNat_zero, Int.reduceLE, Int.reduceLT, Int.reduceEq, Int.reduceNe, gb_T, gb_F, Int.reduceToNat, eq_self, true_or, or_true, and_true, true_and, and_self, ↓ite_gb0, ↓ite_gbn, ↓if_pos, ↓if_neg, if_true, if_false, not_true_eq_false, not_false_eq_true, gb_ne0, gb_eq0]
        · simp (disch := first | assumption | exact gb_01 _ | omega) only [r_U_sortOf_0, r_U_sortOf_1, r_U_sortOf_3, r_U_sortOf_6, r_U_sortOf_7, r_U_sortOf_9, r_U_sortOf_12, r_U_sortOf_13, r_U_sortOf_14, r_U_sortOf_15, r_U_sortOf_17, r_U_sortOf_20, r_U_sortOf_21, r_U_sortOf_23, r_U_sortOf_26, r_U_sortOf_27, r_U_sortOf_30, r_U_sortOf_31, w32_gb, w32i, tn_add, tn_mul, Int.toNat_natCast, Int.toNat_zero, Int.reduceLE, Int.reduceLT, Int.reduceEq, Int.reduceNe, gb_T, gb_F, Int.reduceToNat, eq_self, true_or, or_true, and_true, true_and, and_self, ↓ite_gb0, ↓ite_gbn, ↓if_pos, ↓if_neg, if_true, if_false, not_true_eq_false, not_false_eq_true, gb_ne0, gb_eq0]
theorem r_M_isLetter_0 : Wp L d k_M_isLetter 0 [l0, vI a1] [] σ Q ↔ Wp L d k_M_isLetter 1 [l0, vI a1] [vI a1] σ Q := wp_iload rfl rfl
theorem r_M_isLetter_1 : Wp L d k_M_isLetter 1 [vR b0, l1] [vI s0] σ Q ↔ Wp L d k_M_isLetter 2 [vR b0, l1] [vR b0, vI s0] σ Q := wp_aload rfl rfl
theorem r_M_isLetter_2 (h : gK c1 = 12) : Wp L d k_M_isLetter 2 [l0, l1] [vR c1, vI s0] σ Q ↔ Wp L d k_M_isLetter 5 [l0, l1] [vI (σ c1 9), vI s0] σ Q := wp_getI (c := 3081) rfl rfl rfl rfl h
theorem r_M_isLetter_5 : Wp L d k_M_isLetter 5 [l0, l1] [vI s1, vI s0] σ Q ↔ (if s1 ≤ s0 then Wp L d k_M_isLetter 31 [l0, l1] [] σ Q else Wp L d k_M_isLetter 8 [l0, l1] [] σ Q) := wp_cmp_ge rfl
theorem r_M_isLetter_8 : Wp L d k_M_isLetter 8 [vR b0, l1] [] σ Q ↔ Wp L d k_M_isLetter 9 [vR b0, l1] [vR b0] σ Q := wp_aload rfl rfl
theorem r_M_isLetter_9 (h : gK c0 = 12) : Wp L d k_M_isLetter 9 [l0, l1] [vR c0] σ Q ↔ Wp L d k_M_isLetter 12 [l0, l1] [vR (gq c0 8)] σ Q := wp_getR (c := 3208) rfl rfl rfl rfl rfl h
theorem r_M_isLetter_12 : Wp L d k_M_isLetter 12 [l0, vI a1] [vR c0] σ Q ↔ Wp L d k_M_isLetter 13 [l0, vI a1] [vI a1, vR c0] σ Q := wp_iload rfl rfl
theorem r_M_isLetter_13 (h : gK c0 = 100) (hx : 0 ≤ s1 ∧ s1 < gN c0) : Wp L d k_M_isLetter 13 [l0, l1] [vI s1, vR c0] σ Q ↔ Wp L d k_M_isLetter 14 [l0, l1] [vI (σ c0 s1.toNat)] σ Q := wp_iald rfl h hx
theorem r_M_isLetter_14 : Wp L d k_M_isLetter 14 [l0, l1] [vI s0] σ Q ↔ Wp L d k_M_isLetter 15 [l0, l1] [vL s0] σ Q := wp_i2l rfl
theorem r_M_isLetter_15 : Wp L d k_M_isLetter 15 [l0, l1] [vL s0] σ Q ↔ Wp L d k_M_isLetter 18 [l0, l1] [vL 97, vL s0] σ Q := wp_pushL rfl
theorem r_M_isLetter_18 : Wp L d k_M_isLetter 18 [l0, l1] [vL s1, vL s0] σ Q ↔ Wp L d k_M_isLetter 21 [l0, l1] [vL 122, vL s1, vL s0] σ Q := wp_pushL rfl
theorem r_M_isLetter_24 : Wp L d k_M_isLetter 24 [l0, l1] [vI s0] σ Q ↔ (if s0 = 0 then Wp L d k_M_isLetter 31 [l0, l1] [] σ Q else Wp L d k_M_isLetter 27 [l0, l1] [] σ Q) := wp_if_eq rfl
theorem r_M_isLetter_27 : Wp L d k_M_isLetter 27 [l0, l1] [] σ Q ↔ Wp L d k_M_isLetter 28 [l0, l1] [vI 1] σ Q := wp_push rfl
theorem r_M_isLetter_28 : Wp L d k_M_isLetter 28 [l0, l1] [vI s0] σ Q ↔ Wp L d k_M_isLetter 32 [l0, l1] [vI s0] σ Q := wp_goto rfl
theorem r_M_isLetter_31 : Wp L d k_M_isLetter 31 [l0, l1] [] σ Q ↔ Wp L d k_M_isLetter 32 [l0, l1] [vI 0] σ Q := wp_push rfl
theorem r_M_isLetter_32 (h : s0 = 0 ∨ s0 = 1) : Wp L d k_M_isLetter 32 [l0, l1] [vI s0] σ Q ↔ Q (some (vI s0)) σ := wp_zret rfl h
theorem r_M_isLetter_21 : Wp L (d + 1) k_M_isLetter 21 [l0, l1] [vL s2, vL s1, vL s0] σ Q ↔ Wp L (d + 1) k_M_isLetter 24 [l0, l1] [vI (gb (s1 ≤ s0 ∧ s0 ≤ s2))] σ Q := wp_callR (d := d + 0) (as := [vL s0, vL s1, vL s2]) (rest := []) rfl rfl rfl rfl rfl rfl rfl rfl (sp_M_isIn)
theorem sp_M_isLetter (h : 0 ≤ a1) (hs : σ 293 9 ≤ 96) : Run L (d + 1) 242 [vR 293, vI a1] σ (some (vI (gb (a1 < σ 293 9 ∧ gso (σ 301 a1.toNat) = 1)))) σ := by
  refine Run_of (C' := k_M_isLetter) rfl ?_
  show Wp L (d + 1) k_M_isLetter 0 [vR 293, vI a1] [] σ _
  obtain ⟨K293, Q293, K294, N294⟩ := litM
  obtain ⟨K301, N301, n8⟩ := litB
  by_cases c1 : a1 < σ 293 9
  · by_cases c2 : 97 ≤ σ 301 a1.toNat ∧ σ 301 a1.toNat ≤ 122
    · rw [gb_t ⟨c1, gso_1.2 c2⟩]
      simp (disch := first | assumption | exact gb_01 _ | omega) only [r_M_isLetter_0, r_M_isLetter_1, r_M_isLetter_2, r_M_isLetter_5, r_M_isLetter_8, r_M_isLetter_9, r_M_isLetter_12, r_M_isLetter_13, r_M_isLetter_14, r_M_isLetter_15, r_M_isLetter_18, r_M_isLetter_21, r_M_isLetter_24, r_M_isLetter_27, r_M_isLetter_28, r_M_isLetter_31, r_M_isLetter_32, Q293, n8, w32_gb, w32i, tn_add, tn_mul, Int.toNat_natCast, Int.toNat_zero, Int.reduceLE, Int.reduceLT, Int.reduceEq, Int.reduceNe, gb_T, gb_F, Int.reduceToNat, eq_self, true_or, or_true, and_true, true_and, and_self, ↓ite_gb0, ↓ite_gbn, ↓if_pos, ↓if_neg, if_true, if_false, not_true_eq_false, not_false_eq_true, gb_ne0, gb_eq0]
    · rw [gb_f (fun z => c2 (gso_1.1 z.2))]
      simp (disch := first | assumption | exact gb_01 _ | omega) only [r_M_isLetter_0, r_M_isLetter_1, r_M_isLetter_2, r_M_isLetter_5, r_M_isLetter_8, r_M_isLetter_9, r_M_isLetter_12, r_M_isLetter_13, r_M_isLetter_14, r_M_isLetter_15, r_M_isLetter_18, r_M_isLetter_21, r_M_isLetter_24, r_M_isLetter_27, r_M_isLetter_28, r_M_isLetter_31, r_M_isLetter_32, Q293, n8, w32_gb, w32i, tn_add, tn_mul, Int.toNat_natCast, Int.toNat_zero, Int.reduceLE, Int.reduceLT, Int.reduceEq, Int.reduceNe, gb_T, gb_F, Int.reduceToNat, eq_self, true_or, or_true, and_true, true_and, and_self, ↓ite_gb0, ↓ite_gbn, ↓if_pos, ↓if_neg, if_true, if_false, not_true_eq_false, not_false_eq_true, gb_ne0, gb_eq0]
  · rw [gb_f (fun z => c1 z.1)]
    simp (disch := first | assumption | exact gb_01 _ | omega) only [r_M_isLetter_0, r_M_isLetter_1, r_M_isLetter_2, r_M_isLetter_5, r_M_isLetter_8, r_M_isLetter_9, r_M_isLetter_12, r_M_isLetter_13, r_M_isLetter_14, r_M_isLetter_15, r_M_isLetter_18, r_M_isLetter_21, r_M_isLetter_24, r_M_isLetter_27, r_M_isLetter_28, r_M_isLetter_31, r_M_isLetter_32, Q293, n8, w32_gb, w32i, tn_add, tn_mul, Int.toNat_natCast, Int.toNat_zero, Int.reduceLE, Int.reduceLT, Int.reduceEq, Int.reduceNe, gb_T, gb_F, Int.reduceToNat, eq_self, true_or, or_true, and_true, true_and, and_self, ↓ite_gb0, ↓ite_gbn, ↓if_pos, ↓if_neg, if_true, if_false, not_true_eq_false, not_false_eq_true, gb_ne0, gb_eq0]
theorem r_M_isDigit_0 : Wp L d k_M_isDigit 0 [l0, vI a1] [] σ Q ↔ Wp L d k_M_isDigit 1 [l0, vI a1] [vI a1] σ Q := wp_iload rfl rfl
theorem r_M_isDigit_1 : Wp L d k_M_isDigit 1 [vR b0, l1] [vI s0] σ Q ↔ Wp L d k_M_isDigit 2 [vR b0, l1] [vR b0, vI s0] σ Q := wp_aload rfl rfl
theorem r_M_isDigit_2 (h : gK c1 = 12) : Wp L d k_M_isDigit 2 [l0, l1] [vR c1, vI s0] σ Q ↔ Wp L d k_M_isDigit 5 [l0, l1] [vI (σ c1 9), vI s0] σ Q := wp_getI (c := 3081) rfl rfl rfl rfl h
theorem r_M_isDigit_5 : Wp L d k_M_isDigit 5 [l0, l1] [vI s1, vI s0] σ Q ↔ (if s1 ≤ s0 then Wp L d k_M_isDigit 31 [l0, l1] [] σ Q else Wp L d k_M_isDigit 8 [l0, l1] [] σ Q) := wp_cmp_ge rfl
theorem r_M_isDigit_8 : Wp L d k_M_isDigit 8 [vR b0, l1] [] σ Q ↔ Wp L d k_M_isDigit 9 [vR b0, l1] [vR b0] σ Q := wp_aload rfl rfl
theorem r_M_isDigit_9 (h : gK c0 = 12) : Wp L d k_M_isDigit 9 [l0, l1] [vR c0] σ Q ↔ Wp L d k_M_isDigit 12 [l0, l1] [vR (gq c0 8)] σ Q := wp_getR (c := 3208) rfl rfl rfl rfl rfl h
theorem r_M_isDigit_12 : Wp L d k_M_isDigit 12 [l0, vI a1] [vR c0] σ Q ↔ Wp L d k_M_isDigit 13 [l0, vI a1] [vI a1, vR c0] σ Q := wp_iload rfl rfl
theorem r_M_isDigit_13 (h : gK c0 = 100) (hx : 0 ≤ s1 ∧ s1 < gN c0) : Wp L d k_M_isDigit 13 [l0, l1] [vI s1, vR c0] σ Q ↔ Wp L d k_M_isDigit 14 [l0, l1] [vI (σ c0 s1.toNat)] σ Q := wp_iald rfl h hx
theorem r_M_isDigit_14 : Wp L d k_M_isDigit 14 [l0, l1] [vI s0] σ Q ↔ Wp L d k_M_isDigit 15 [l0, l1] [vL s0] σ Q := wp_i2l rfl
theorem r_M_isDigit_15 : Wp L d k_M_isDigit 15 [l0, l1] [vL s0] σ Q ↔ Wp L d k_M_isDigit 18 [l0, l1] [vL 48, vL s0] σ Q := wp_pushL rfl
theorem r_M_isDigit_18 : Wp L d k_M_isDigit 18 [l0, l1] [vL s1, vL s0] σ Q ↔ Wp L d k_M_isDigit 21 [l0, l1] [vL 57, vL s1, vL s0] σ Q := wp_pushL rfl
theorem r_M_isDigit_24 : Wp L d k_M_isDigit 24 [l0, l1] [vI s0] σ Q ↔ (if s0 = 0 then Wp L d k_M_isDigit 31 [l0, l1] [] σ Q else Wp L d k_M_isDigit 27 [l0, l1] [] σ Q) := wp_if_eq rfl
theorem r_M_isDigit_27 : Wp L d k_M_isDigit 27 [l0, l1] [] σ Q ↔ Wp L d k_M_isDigit 28 [l0, l1] [vI 1] σ Q := wp_push rfl
theorem r_M_isDigit_28 : Wp L d k_M_isDigit 28 [l0, l1] [vI s0] σ Q ↔ Wp L d k_M_isDigit 32 [l0, l1] [vI s0] σ Q := wp_goto rfl
theorem r_M_isDigit_31 : Wp L d k_M_isDigit 31 [l0, l1] [] σ Q ↔ Wp L d k_M_isDigit 32 [l0, l1] [vI 0] σ Q := wp_push rfl
theorem r_M_isDigit_32 (h : s0 = 0 ∨ s0 = 1) : Wp L d k_M_isDigit 32 [l0, l1] [vI s0] σ Q ↔ Q (some (vI s0)) σ := wp_zret rfl h
theorem r_M_isDigit_21 : Wp L (d + 1) k_M_isDigit 21 [l0, l1] [vL s2, vL s1, vL s0] σ Q ↔ Wp L (d + 1) k_M_isDigit 24 [l0, l1] [vI (gb (s1 ≤ s0 ∧ s0 ≤ s2))] σ Q := wp_callR (d := d + 0) (as := [vL s0, vL s1, vL s2]) (rest := []) rfl rfl rfl rfl rfl rfl rfl rfl (sp_M_isIn)
theorem sp_M_isDigit (h : 0 ≤ a1) (hs : σ 293 9 ≤ 96) : Run L (d + 1) 243 [vR 293, vI a1] σ (some (vI (gb (a1 < σ 293 9 ∧ gso (σ 301 a1.toNat) = 2)))) σ := by
  refine Run_of (C' := k_M_isDigit) rfl ?_
  show Wp L (d + 1) k_M_isDigit 0 [vR 293, vI a1] [] σ _
  obtain ⟨K293, Q293, K294, N294⟩ := litM
  obtain ⟨K301, N301, n8⟩ := litB
  by_cases c1 : a1 < σ 293 9
  · by_cases c2 : 48 ≤ σ 301 a1.toNat ∧ σ 301 a1.toNat ≤ 57
    · rw [gb_t ⟨c1, gso_2.2 c2⟩]
      simp (disch := first | assumption | exact gb_01 _ | omega) only [r_M_isDigit_0, r_M_isDigit_1, r_M_isDigit_2, r_M_isDigit_5, r_M_isDigit_8, r_M_isDigit_9, r_M_isDigit_12, r_M_isDigit_13, r_M_isDigit_14, r_M_isDigit_15, r_M_isDigit_18, r_M_isDigit_21, r_M_isDigit_24, r_M_isDigit_27, r_M_isDigit_28, r_M_isDigit_31, r_M_isDigit_32, Q293, n8, w32_gb, w32i, tn_add, tn_mul, Int.toNat_natCast, Int.toNat_zero, Int.reduceLE, Int.reduceLT, Int.reduceEq, Int.reduceNe, gb_T, gb_F, Int.reduceToNat, eq_self, true_or, or_true, and_true, true_and, and_self, ↓ite_gb0, ↓ite_gbn, ↓if_pos, ↓if_neg, if_true, if_false, not_true_eq_false, not_false_eq_true, gb_ne0, gb_eq0]
    · rw [gb_f (fun z => c2 (gso_2.1 z.2))]
      simp (disch := first | assumption | exact gb_01 _ | omega) only [r_M_isDigit_0, r_M_isDigit_1, r_M_isDigit_2, r_M_isDigit_5, r_M_isDigit_8, r_M_isDigit_9, r_M_isDigit_12, r_M_isDigit_13, r_M_isDigit_14, r_M_isDigit_15, r_M_isDigit_18, r_M_isDigit_21, r_M_isDigit_24, r_M_isDigit_27, r_M_isDigit_28, r_M_isDigit_31, r_M_isDigit_32, Q293, n8, w32_gb, w32i, tn_add, tn_mul, Int.toNat_natCast, Int.toNat_zero, Int.reduceLE, Int.reduceLT, Int.reduceEq, Int.reduceNe, gb_T, gb_F, Int.reduceToNat, eq_self, true_or, or_true, and_true, true_and, and_self, ↓ite_gb0, ↓ite_gbn, ↓if_pos, ↓if_neg, if_true, if_false, not_true_eq_false, not_false_eq_true, gb_ne0, gb_eq0]
  · rw [gb_f (fun z => c1 z.1)]
    simp (disch := first | assumption | exact gb_01 _ | omega) only [r_M_isDigit_0, r_M_isDigit_1, r_M_isDigit_2, r_M_isDigit_5, r_M_isDigit_8, r_M_isDigit_9, r_M_isDigit_12, r_M_isDigit_13, r_M_isDigit_14, r_M_isDigit_15, r_M_isDigit_18, r_M_isDigit_21, r_M_isDigit_24, r_M_isDigit_27, r_M_isDigit_28, r_M_isDigit_31, r_M_isDigit_32, Q293, n8, w32_gb, w32i, tn_add, tn_mul, Int.toNat_natCast, Int.toNat_zero, Int.reduceLE, Int.reduceLT, Int.reduceEq, Int.reduceNe, gb_T, gb_F, Int.reduceToNat, eq_self, true_or, or_true, and_true, true_and, and_self, ↓ite_gb0, ↓ite_gbn, ↓if_pos, ↓if_neg, if_true, if_false, not_true_eq_false, not_false_eq_true, gb_ne0, gb_eq0]
theorem r_M_isSign_0 : Wp L d k_M_isSign 0 [vR b0, l1] [] σ Q ↔ Wp L d k_M_isSign 1 [vR b0, l1] [vR b0] σ Q := wp_aload rfl rfl
theorem r_M_isSign_1 (h : gK c0 = 12) : Wp L d k_M_isSign 1 [l0, l1] [vR c0] σ Q ↔ Wp L d k_M_isSign 4 [l0, l1] [vI (σ c0 12)] σ Q := wp_getI (c := 3084) rfl rfl rfl rfl h
theorem r_M_isSign_4 : Wp L d k_M_isSign 4 [l0, l1] [vI s0] σ Q ↔ Wp L d k_M_isSign 5 [l0, l1] [vI 3, vI s0] σ Q := wp_push rfl
theorem r_M_isSign_5 : Wp L d k_M_isSign 5 [l0, l1] [vI s1, vI s0] σ Q ↔ (if s0 ≠ s1 then Wp L d k_M_isSign 20 [l0, l1] [] σ Q else Wp L d k_M_isSign 8 [l0, l1] [] σ Q) := wp_cmp_ne rfl
theorem r_M_isSign_8 : Wp L d k_M_isSign 8 [vR b0, l1] [] σ Q ↔ Wp L d k_M_isSign 9 [vR b0, l1] [vR b0] σ Q := wp_aload rfl rfl
theorem r_M_isSign_9 (h : gK c0 = 12) : Wp L d k_M_isSign 9 [l0, l1] [vR c0] σ Q ↔ Wp L d k_M_isSign 12 [l0, l1] [vI (σ c0 14)] σ Q := wp_getI (c := 3086) rfl rfl rfl rfl h
theorem r_M_isSign_12 : Wp L d k_M_isSign 12 [l0, vI a1] [vI s0] σ Q ↔ Wp L d k_M_isSign 13 [l0, vI a1] [vI a1, vI s0] σ Q := wp_iload rfl rfl
theorem r_M_isSign_13 : Wp L d k_M_isSign 13 [l0, l1] [vI s1, vI s0] σ Q ↔ (if s0 ≠ s1 then Wp L d k_M_isSign 20 [l0, l1] [] σ Q else Wp L d k_M_isSign 16 [l0, l1] [] σ Q) := wp_cmp_ne rfl
theorem r_M_isSign_16 : Wp L d k_M_isSign 16 [l0, l1] [] σ Q ↔ Wp L d k_M_isSign 17 [l0, l1] [vI 1] σ Q := wp_push rfl
theorem r_M_isSign_17 : Wp L d k_M_isSign 17 [l0, l1] [vI s0] σ Q ↔ Wp L d k_M_isSign 21 [l0, l1] [vI s0] σ Q := wp_goto rfl
theorem r_M_isSign_20 : Wp L d k_M_isSign 20 [l0, l1] [] σ Q ↔ Wp L d k_M_isSign 21 [l0, l1] [vI 0] σ Q := wp_push rfl
theorem r_M_isSign_21 (h : s0 = 0 ∨ s0 = 1) : Wp L d k_M_isSign 21 [l0, l1] [vI s0] σ Q ↔ Q (some (vI s0)) σ := wp_zret rfl h
theorem sp_M_isSign : Run L d 255 [vR 293, vI a1] σ (some (vI (gb (σ 293 12 = 3 ∧ σ 293 14 = a1)))) σ := by
  refine Run_of (C' := k_M_isSign) rfl ?_
  show Wp L d k_M_isSign 0 [vR 293, vI a1] [] σ _
  obtain ⟨K293, Q293, K294, N294⟩ := litM
  by_cases c1 : σ 293 12 = 3
  · by_cases c2 : σ 293 14 = a1
    · rw [gb_t ⟨c1, c2⟩]
      simp (disch := first | assumption | exact gb_01 _ | omega) only [r_M_isSign_0, r_M_isSign_1, r_M_isSign_4, r_M_isSign_5, r_M_isSign_8, r_M_isSign_9, r_M_isSign_12, r_M_isSign_13, r_M_isSign_16, r_M_isSign_17, r_M_isSign_20, r_M_isSign_21, Q293, w32_gb, w32i, tn_add, tn_mul, Int.toNat_natCast, Int.toNat_zero, Int.reduceLE, Int.reduceLT, Int.reduceEq, Int.reduceNe, gb_T, gb_F, Int.reduceToNat, eq_self, true_or, or_true, and_true, true_and, and_self, ↓ite_gb0, ↓ite_gbn, ↓if_pos, ↓if_neg, if_true, if_false, not_true_eq_false, not_false_eq_true, gb_ne0, gb_eq0]
    · rw [gb_f (fun z => c2 z.2)]
      simp (disch := first | assumption | exact gb_01 _ | omega) only [r_M_isSign_0, r_M_isSign_1, r_M_isSign_4, r_M_isSign_5, r_M_isSign_8, r_M_isSign_9, r_M_isSign_12, r_M_isSign_13, r_M_isSign_16, r_M_isSign_17, r_M_isSign_20, r_M_isSign_21, Q293, w32_gb, w32i, tn_add, tn_mul, Int.toNat_natCast, Int.toNat_zero, Int.reduceLE, Int.reduceLT, Int.reduceEq, Int.reduceNe, gb_T, gb_F, Int.reduceToNat, eq_self, true_or, or_true, and_true, true_and, and_self, ↓ite_gb0, ↓ite_gbn, ↓if_pos, ↓if_neg, if_true, if_false, not_true_eq_false, not_false_eq_true, gb_ne0, gb_eq0]
  · rw [gb_f (fun z => c1 z.1)]
    simp (disch := first | assumption | exact gb_01 _ | omega) only [r_M_isSign_0, r_M_isSign_1, r_M_isSign_4, r_M_isSign_5, r_M_isSign_8, r_M_isSign_9, r_M_isSign_12, r_M_isSign_13, r_M_isSign_16, r_M_isSign_17, r_M_isSign_20, r_M_isSign_21, Q293, w32_gb, w32i, tn_add, tn_mul, Int.toNat_natCast, Int.toNat_zero, Int.reduceLE, Int.reduceLT, Int.reduceEq, Int.reduceNe, gb_T, gb_F, Int.reduceToNat, eq_self, true_or, or_true, and_true, true_and, and_self, ↓ite_gb0, ↓ite_gbn, ↓if_pos, ↓if_neg, if_true, if_false, not_true_eq_false, not_false_eq_true, gb_ne0, gb_eq0]
theorem litC : gK 280 = 100 ∧ ((gN 280 : Nat) : Int) = 96 ∧ gK 281 = 100 ∧ ((gN 281 : Nat) : Int) = 96 := by decide +kernel
theorem r_U_emit_0 : Wp L d k_U_emit 0 [vR b0, l1] [] σ Q ↔ Wp L d k_U_emit 1 [vR b0, l1] [vR b0] σ Q := wp_aload rfl rfl
theorem r_U_emit_1 (h : gK c0 = 8) : Wp L d k_U_emit 1 [l0, l1] [vR c0] σ Q ↔ Wp L d k_U_emit 4 [l0, l1] [vI (σ c0 6)] σ Q := wp_getI (c := 2054) rfl rfl rfl rfl h
theorem r_U_emit_4 : Wp L d k_U_emit 4 [l0, l1] [vI s0] σ Q ↔ Wp L d k_U_emit 6 [l0, l1] [vI 96, vI s0] σ Q := wp_push rfl
theorem r_U_emit_6 : Wp L d k_U_emit 6 [l0, l1] [vI s1, vI s0] σ Q ↔ (if s1 ≤ s0 then Wp L d k_U_emit 29 [l0, l1] [] σ Q else Wp L d k_U_emit 9 [l0, l1] [] σ Q) := wp_cmp_ge rfl
theorem r_U_emit_9 : Wp L d k_U_emit 9 [vR b0, l1] [] σ Q ↔ Wp L d k_U_emit 10 [vR b0, l1] [vR b0] σ Q := wp_aload rfl rfl
theorem r_U_emit_10 (h : gK c0 = 8) : Wp L d k_U_emit 10 [l0, l1] [vR c0] σ Q ↔ Wp L d k_U_emit 13 [l0, l1] [vR (gq c0 5)] σ Q := wp_getR (c := 2181) rfl rfl rfl rfl rfl h
theorem r_U_emit_13 : Wp L d k_U_emit 13 [vR b0, l1] [vR c0] σ Q ↔ Wp L d k_U_emit 14 [vR b0, l1] [vR b0, vR c0] σ Q := wp_aload rfl rfl
theorem r_U_emit_14 (h : gK c1 = 8) : Wp L d k_U_emit 14 [l0, l1] [vR c1, vR c0] σ Q ↔ Wp L d k_U_emit 17 [l0, l1] [vI (σ c1 6), vR c0] σ Q := wp_getI (c := 2054) rfl rfl rfl rfl h
theorem r_U_emit_17 : Wp L d k_U_emit 17 [l0, vI a1] [vI s1, vR c0] σ Q ↔ Wp L d k_U_emit 18 [l0, vI a1] [vI a1, vI s1, vR c0] σ Q := wp_iload rfl rfl
theorem r_U_emit_18 (h : gK c0 = 100) (hx : 0 ≤ s1 ∧ s1 < gN c0) : Wp L d k_U_emit 18 [l0, l1] [vI s2, vI s1, vR c0] σ Q ↔ Wp L d k_U_emit 19 [l0, l1] [] (gupd σ c0 s1.toNat s2) Q := wp_iast rfl h hx
theorem r_U_emit_19 : Wp L d k_U_emit 19 [vR b0, l1] [] σ Q ↔ Wp L d k_U_emit 20 [vR b0, l1] [vR b0] σ Q := wp_aload rfl rfl
theorem r_U_emit_20 : Wp L d k_U_emit 20 [l0, l1] [vR c0] σ Q ↔ Wp L d k_U_emit 21 [l0, l1] [vR c0, vR c0] σ Q := wp_dupR rfl
theorem r_U_emit_21 (h : gK c1 = 8) : Wp L d k_U_emit 21 [l0, l1] [vR c1, vR c0] σ Q ↔ Wp L d k_U_emit 24 [l0, l1] [vI (σ c1 6), vR c0] σ Q := wp_getI (c := 2054) rfl rfl rfl rfl h
theorem r_U_emit_24 : Wp L d k_U_emit 24 [l0, l1] [vI s1, vR c0] σ Q ↔ Wp L d k_U_emit 25 [l0, l1] [vI 1, vI s1, vR c0] σ Q := wp_push rfl
theorem r_U_emit_25 : Wp L d k_U_emit 25 [l0, l1] [vI s2, vI s1, vR c0] σ Q ↔ Wp L d k_U_emit 26 [l0, l1] [vI (w32 (s1 + s2)), vR c0] σ Q := wp_iadd rfl
theorem r_U_emit_26 (h : gK c0 = 8) : Wp L d k_U_emit 26 [l0, l1] [vI s1, vR c0] σ Q ↔ Wp L d k_U_emit 29 [l0, l1] [] (gupd σ c0 6 s1) Q := wp_putI (c := 2054) rfl rfl rfl rfl h
theorem r_U_emit_29 : Wp L d k_U_emit 29 [l0, l1] [] σ Q ↔ Q none σ := wp_vret rfl
theorem sp_U_emit_f (h : 96 ≤ σ 279 6) : Run L d 165 [vR 279, vI a1] σ none σ := by
  refine Run_of (C' := k_U_emit) rfl ?_
  show Wp L d k_U_emit 0 [vR 279, vI a1] [] σ _
  obtain ⟨K280, N280, K281, N281⟩ := litC
  have K279 := gK_279
  simp (disch := first | assumption | exact gb_01 _ | omega) only [r_U_emit_0, r_U_emit_1, r_U_emit_4, r_U_emit_6, r_U_emit_9, r_U_emit_10, r_U_emit_13, r_U_emit_14, r_U_emit_17, r_U_emit_18, r_U_emit_19, r_U_emit_20, r_U_emit_21, r_U_emit_24, r_U_emit_25, r_U_emit_26, r_U_emit_29, gq_279_0, gq_279_5, w32_gb, w32i, tn_add, tn_mul, Int.toNat_natCast, Int.toNat_zero, Int.reduceLE, Int.reduceLT, Int.reduceEq, Int.reduceNe, gb_T, gb_F, Int.reduceToNat, eq_self, true_or, or_true, and_true, true_and, and_self, ↓ite_gb0, ↓ite_gbn, ↓if_pos, ↓if_neg, if_true, if_false, not_true_eq_false, not_false_eq_true, gb_ne0, gb_eq0]
theorem sp_U_emit (h : 0 ≤ σ 279 6) (h2 : σ 279 6 < 96) : Run L d 165 [vR 279, vI a1] σ none (gupd (gupd σ 281 (σ 279 6).toNat a1) 279 6 (σ 279 6 + 1)) := by
  refine Run_of (C' := k_U_emit) rfl ?_
  show Wp L d k_U_emit 0 [vR 279, vI a1] [] σ _
  obtain ⟨K280, N280, K281, N281⟩ := litC
  have K279 := gK_279
  simp (disch := first | assumption | exact gb_01 _ | omega) only [r_U_emit_0, r_U_emit_1, r_U_emit_4, r_U_emit_6, r_U_emit_9, r_U_emit_10, r_U_emit_13, r_U_emit_14, r_U_emit_17, r_U_emit_18, r_U_emit_19, r_U_emit_20, r_U_emit_21, r_U_emit_24, r_U_emit_25, r_U_emit_26, r_U_emit_29, gq_279_0, gq_279_5, gupd_ne, w32_gb, w32i, tn_add, tn_mul, Int.toNat_natCast, Int.toNat_zero, Int.reduceLE, Int.reduceLT, Int.reduceEq, Int.reduceNe, gb_T, gb_F, Int.reduceToNat, eq_self, true_or, or_true, and_true, true_and, and_self, ↓ite_gb0, ↓ite_gbn, ↓if_pos, ↓if_neg, if_true, if_false, not_true_eq_false, not_false_eq_true, gb_ne0, gb_eq0]
theorem r_U_isSign_0 : Wp L d k_U_isSign 0 [vR b0, l1] [] σ Q ↔ Wp L d k_U_isSign 1 [vR b0, l1] [vR b0] σ Q := wp_aload rfl rfl
theorem r_U_isSign_1 (h : gK c0 = 8) : Wp L d k_U_isSign 1 [l0, l1] [vR c0] σ Q ↔ Wp L d k_U_isSign 4 [l0, l1] [vI (σ c0 4)] σ Q := wp_getI (c := 2052) rfl rfl rfl rfl h
theorem r_U_isSign_4 : Wp L d k_U_isSign 4 [l0, l1] [vI s0] σ Q ↔ Wp L d k_U_isSign 5 [l0, l1] [vI 3, vI s0] σ Q := wp_push rfl
theorem r_U_isSign_5 : Wp L d k_U_isSign 5 [l0, l1] [vI s1, vI s0] σ Q ↔ (if s0 ≠ s1 then Wp L d k_U_isSign 25 [l0, l1] [] σ Q else Wp L d k_U_isSign 8 [l0, l1] [] σ Q) := wp_cmp_ne rfl
theorem r_U_isSign_8 : Wp L d k_U_isSign 8 [vR b0, l1] [] σ Q ↔ Wp L d k_U_isSign 9 [vR b0, l1] [vR b0] σ Q := wp_aload rfl rfl
theorem r_U_isSign_9 (h : gK c0 = 8) : Wp L d k_U_isSign 9 [l0, l1] [vR c0] σ Q ↔ Wp L d k_U_isSign 12 [l0, l1] [vR (gq c0 0)] σ Q := wp_getR (c := 2176) rfl rfl rfl rfl rfl h
theorem r_U_isSign_12 : Wp L d k_U_isSign 12 [vR b0, l1] [vR c0] σ Q ↔ Wp L d k_U_isSign 13 [vR b0, l1] [vR b0, vR c0] σ Q := wp_aload rfl rfl
theorem r_U_isSign_13 (h : gK c1 = 8) : Wp L d k_U_isSign 13 [l0, l1] [vR c1, vR c0] σ Q ↔ Wp L d k_U_isSign 16 [l0, l1] [vI (σ c1 2), vR c0] σ Q := wp_getI (c := 2050) rfl rfl rfl rfl h
theorem r_U_isSign_16 (h : gK c0 = 100) (hx : 0 ≤ s1 ∧ s1 < gN c0) : Wp L d k_U_isSign 16 [l0, l1] [vI s1, vR c0] σ Q ↔ Wp L d k_U_isSign 17 [l0, l1] [vI (σ c0 s1.toNat)] σ Q := wp_iald rfl h hx
theorem r_U_isSign_17 : Wp L d k_U_isSign 17 [l0, vI a1] [vI s0] σ Q ↔ Wp L d k_U_isSign 18 [l0, vI a1] [vI a1, vI s0] σ Q := wp_iload rfl rfl
theorem r_U_isSign_18 : Wp L d k_U_isSign 18 [l0, l1] [vI s1, vI s0] σ Q ↔ (if s0 ≠ s1 then Wp L d k_U_isSign 25 [l0, l1] [] σ Q else Wp L d k_U_isSign 21 [l0, l1] [] σ Q) := wp_cmp_ne rfl
theorem r_U_isSign_21 : Wp L d k_U_isSign 21 [l0, l1] [] σ Q ↔ Wp L d k_U_isSign 22 [l0, l1] [vI 1] σ Q := wp_push rfl
theorem r_U_isSign_22 : Wp L d k_U_isSign 22 [l0, l1] [vI s0] σ Q ↔ Wp L d k_U_isSign 26 [l0, l1] [vI s0] σ Q := wp_goto rfl
theorem r_U_isSign_25 : Wp L d k_U_isSign 25 [l0, l1] [] σ Q ↔ Wp L d k_U_isSign 26 [l0, l1] [vI 0] σ Q := wp_push rfl
theorem r_U_isSign_26 (h : s0 = 0 ∨ s0 = 1) : Wp L d k_U_isSign 26 [l0, l1] [vI s0] σ Q ↔ Q (some (vI s0)) σ := wp_zret rfl h
theorem sp_U_isSign (h : σ 279 4 = 3 → 0 ≤ σ 279 2 ∧ σ 279 2 < 96) : Run L d 164 [vR 279, vI a1] σ (some (vI (gb (σ 279 4 = 3 ∧ σ 280 (σ 279 2).toNat = a1)))) σ := by
  refine Run_of (C' := k_U_isSign) rfl ?_
  show Wp L d k_U_isSign 0 [vR 279, vI a1] [] σ _
  obtain ⟨K280, N280, K281, N281⟩ := litC
  have K279 := gK_279
  by_cases c1 : σ 279 4 = 3
  · have h' := h c1
    by_cases c2 : σ 280 (σ 279 2).toNat = a1
    · rw [gb_t ⟨c1, c2⟩]
      simp (disch := first | assumption | exact gb_01 _ | omega) only [r_U_isSign_0, r_U_isSign_1, r_U_isSign_4, r_U_isSign_5, r_U_isSign_8, r_U_isSign_9, r_U_isSign_12, r_U_isSign_13, r_U_isSign_16, r_U_isSign_17, r_U_isSign_18, r_U_isSign_21, r_U_isSign_22, r_U_isSign_25, r_U_isSign_26, gq_279_0, gq_279_5, w32_gb, w32i, tn_add, tn_mul, Int.toNat_natCast, Int.toNat_zero, Int.reduceLE, Int.reduceLT, Int.reduceEq, Int.reduceNe, gb_T, gb_F, Int.reduceToNat, eq_self, true_or, or_true, and_true, true_and, and_self, ↓ite_gb0, ↓ite_gbn, ↓if_pos, ↓if_neg, if_true, if_false, not_true_eq_false, not_false_eq_true, gb_ne0, gb_eq0]
    · rw [gb_f (fun z => c2 z.2)]
      simp (disch := first | assumption | exact gb_01 _ | omega) only [r_U_isSign_0, r_U_isSign_1, r_U_isSign_4, r_U_isSign_5, r_U_isSign_8, r_U_isSign_9, r_U_isSign_12, r_U_isSign_13, r_U_isSign_16, r_U_isSign_17, r_U_isSign_18, r_U_isSign_21, r_U_isSign_22, r_U_isSign_25, r_U_isSign_26, gq_279_0, gq_279_5, w32_gb, w32i, tn_add, tn_mul, Int.toNat_natCast, Int.toNat_zero, Int.reduceLE, Int.reduceLT, Int.reduceEq, Int.reduceNe, gb_T, gb_F, Int.reduceToNat, eq_self, true_or, or_true, and_true, true_and, and_self, ↓ite_gb0, ↓ite_gbn, ↓if_pos, ↓if_neg, if_true, if_false, not_true_eq_false, not_false_eq_true, gb_ne0, gb_eq0]
  · rw [gb_f (fun z => c1 z.1)]
    simp (disch := first | assumption | exact gb_01 _ | omega) only [r_U_isSign_0, r_U_isSign_1, r_U_isSign_4, r_U_isSign_5, r_U_isSign_8, r_U_isSign_9, r_U_isSign_12, r_U_isSign_13, r_U_isSign_16, r_U_isSign_17, r_U_isSign_18, r_U_isSign_21, r_U_isSign_22, r_U_isSign_25, r_U_isSign_26, gq_279_0, gq_279_5, w32_gb, w32i, tn_add, tn_mul, Int.toNat_natCast, Int.toNat_zero, Int.reduceLE, Int.reduceLT, Int.reduceEq, Int.reduceNe, gb_T, gb_F, Int.reduceToNat, eq_self, true_or, or_true, and_true, true_and, and_self, ↓ite_gb0, ↓ite_gbn, ↓if_pos, ↓if_neg, if_true, if_false, not_true_eq_false, not_false_eq_true, gb_ne0, gb_eq0]
theorem r_M_step_0 : Wp L d k_M_step 0 [vR b0, l1, l2] [] σ Q ↔ Wp L d k_M_step 1 [vR b0, l1, l2] [vR b0] σ Q := wp_aload rfl rfl
theorem r_M_step_1 (h : gK c0 = 12) : Wp L d k_M_step 1 [l0, l1, l2] [vR c0] σ Q ↔ Wp L d k_M_step 4 [l0, l1, l2] [vR (gq c0 0)] σ Q := wp_getR (c := 3200) rfl rfl rfl rfl rfl h
theorem r_M_step_4 : Wp L d k_M_step 4 [vR b0, l1, l2] [vR c0] σ Q ↔ Wp L d k_M_step 5 [vR b0, l1, l2] [vR b0, vR c0] σ Q := wp_aload rfl rfl
theorem r_M_step_5 (h : gK c1 = 12) : Wp L d k_M_step 5 [l0, l1, l2] [vR c1, vR c0] σ Q ↔ Wp L d k_M_step 8 [l0, l1, l2] [vI (σ c1 18), vR c0] σ Q := wp_getI (c := 3090) rfl rfl rfl rfl h
theorem r_M_step_8 : Wp L d k_M_step 8 [l0, l1, l2] [vI s1, vR c0] σ Q ↔ Wp L d k_M_step 9 [l0, l1, l2] [vI 2, vI s1, vR c0] σ Q := wp_push rfl
theorem r_M_step_9 : Wp L d k_M_step 9 [vR b0, l1, l2] [vI s2, vI s1, vR c0] σ Q ↔ Wp L d k_M_step 10 [vR b0, l1, l2] [vR b0, vI s2, vI s1, vR c0] σ Q := wp_aload rfl rfl
theorem r_M_step_10 (h : gK c3 = 12) : Wp L d k_M_step 10 [l0, l1, l2] [vR c3, vI s2, vI s1, vR c0] σ Q ↔ Wp L d k_M_step 13 [l0, l1, l2] [vI (σ c3 17), vI s2, vI s1, vR c0] σ Q := wp_getI (c := 3089) rfl rfl rfl rfl h
theorem r_M_step_13 : Wp L d k_M_step 13 [l0, l1, l2] [vI s3, vI s2, vI s1, vR c0] σ Q ↔ Wp L d k_M_step 14 [l0, l1, l2] [vI (w32 (s2 * s3)), vI s1, vR c0] σ Q := wp_imul rfl
theorem r_M_step_14 : Wp L d k_M_step 14 [l0, l1, l2] [vI s2, vI s1, vR c0] σ Q ↔ Wp L d k_M_step 15 [l0, l1, l2] [vI (w32 (s1 + s2)), vR c0] σ Q := wp_iadd rfl
theorem r_M_step_15 : Wp L d k_M_step 15 [l0, vI a1, l2] [vI s1, vR c0] σ Q ↔ Wp L d k_M_step 16 [l0, vI a1, l2] [vI a1, vI s1, vR c0] σ Q := wp_iload rfl rfl
theorem r_M_step_16 (h : gK c0 = 100) (hx : 0 ≤ s1 ∧ s1 < gN c0) : Wp L d k_M_step 16 [l0, l1, l2] [vI s2, vI s1, vR c0] σ Q ↔ Wp L d k_M_step 17 [l0, l1, l2] [] (gupd σ c0 s1.toNat s2) Q := wp_iast rfl h hx
theorem r_M_step_17 : Wp L d k_M_step 17 [vR b0, l1, l2] [] σ Q ↔ Wp L d k_M_step 18 [vR b0, l1, l2] [vR b0] σ Q := wp_aload rfl rfl
theorem r_M_step_18 (h : gK c0 = 12) : Wp L d k_M_step 18 [l0, l1, l2] [vR c0] σ Q ↔ Wp L d k_M_step 21 [l0, l1, l2] [vR (gq c0 0)] σ Q := wp_getR (c := 3200) rfl rfl rfl rfl rfl h
theorem r_M_step_21 : Wp L d k_M_step 21 [vR b0, l1, l2] [vR c0] σ Q ↔ Wp L d k_M_step 22 [vR b0, l1, l2] [vR b0, vR c0] σ Q := wp_aload rfl rfl
theorem r_M_step_22 (h : gK c1 = 12) : Wp L d k_M_step 22 [l0, l1, l2] [vR c1, vR c0] σ Q ↔ Wp L d k_M_step 25 [l0, l1, l2] [vI (σ c1 18), vR c0] σ Q := wp_getI (c := 3090) rfl rfl rfl rfl h
theorem r_M_step_25 : Wp L d k_M_step 25 [l0, l1, l2] [vI s1, vR c0] σ Q ↔ Wp L d k_M_step 26 [l0, l1, l2] [vI 2, vI s1, vR c0] σ Q := wp_push rfl
theorem r_M_step_26 : Wp L d k_M_step 26 [vR b0, l1, l2] [vI s2, vI s1, vR c0] σ Q ↔ Wp L d k_M_step 27 [vR b0, l1, l2] [vR b0, vI s2, vI s1, vR c0] σ Q := wp_aload rfl rfl
theorem r_M_step_27 (h : gK c3 = 12) : Wp L d k_M_step 27 [l0, l1, l2] [vR c3, vI s2, vI s1, vR c0] σ Q ↔ Wp L d k_M_step 30 [l0, l1, l2] [vI (σ c3 17), vI s2, vI s1, vR c0] σ Q := wp_getI (c := 3089) rfl rfl rfl rfl h
theorem r_M_step_30 : Wp L d k_M_step 30 [l0, l1, l2] [vI s3, vI s2, vI s1, vR c0] σ Q ↔ Wp L d k_M_step 31 [l0, l1, l2] [vI (w32 (s2 * s3)), vI s1, vR c0] σ Q := wp_imul rfl
theorem r_M_step_31 : Wp L d k_M_step 31 [l0, l1, l2] [vI s2, vI s1, vR c0] σ Q ↔ Wp L d k_M_step 32 [l0, l1, l2] [vI (w32 (s1 + s2)), vR c0] σ Q := wp_iadd rfl
theorem r_M_step_32 : Wp L d k_M_step 32 [l0, l1, l2] [vI s1, vR c0] σ Q ↔ Wp L d k_M_step 33 [l0, l1, l2] [vI 1, vI s1, vR c0] σ Q := wp_push rfl
theorem r_M_step_33 : Wp L d k_M_step 33 [l0, l1, l2] [vI s2, vI s1, vR c0] σ Q ↔ Wp L d k_M_step 34 [l0, l1, l2] [vI (w32 (s1 + s2)), vR c0] σ Q := wp_iadd rfl
theorem r_M_step_34 : Wp L d k_M_step 34 [l0, l1, vI a2] [vI s1, vR c0] σ Q ↔ Wp L d k_M_step 35 [l0, l1, vI a2] [vI a2, vI s1, vR c0] σ Q := wp_iload rfl rfl
theorem r_M_step_35 (h : gK c0 = 100) (hx : 0 ≤ s1 ∧ s1 < gN c0) : Wp L d k_M_step 35 [l0, l1, l2] [vI s2, vI s1, vR c0] σ Q ↔ Wp L d k_M_step 36 [l0, l1, l2] [] (gupd σ c0 s1.toNat s2) Q := wp_iast rfl h hx
theorem r_M_step_36 : Wp L d k_M_step 36 [vR b0, l1, l2] [] σ Q ↔ Wp L d k_M_step 37 [vR b0, l1, l2] [vR b0] σ Q := wp_aload rfl rfl
theorem r_M_step_37 : Wp L d k_M_step 37 [l0, l1, l2] [vR c0] σ Q ↔ Wp L d k_M_step 38 [l0, l1, l2] [vR c0, vR c0] σ Q := wp_dupR rfl
theorem r_M_step_38 (h : gK c1 = 12) : Wp L d k_M_step 38 [l0, l1, l2] [vR c1, vR c0] σ Q ↔ Wp L d k_M_step 41 [l0, l1, l2] [vI (σ c1 17), vR c0] σ Q := wp_getI (c := 3089) rfl rfl rfl rfl h
theorem r_M_step_41 : Wp L d k_M_step 41 [l0, l1, l2] [vI s1, vR c0] σ Q ↔ Wp L d k_M_step 42 [l0, l1, l2] [vI 1, vI s1, vR c0] σ Q := wp_push rfl
theorem r_M_step_42 : Wp L d k_M_step 42 [l0, l1, l2] [vI s2, vI s1, vR c0] σ Q ↔ Wp L d k_M_step 43 [l0, l1, l2] [vI (w32 (s1 + s2)), vR c0] σ Q := wp_iadd rfl
theorem r_M_step_43 (h : gK c0 = 12) : Wp L d k_M_step 43 [l0, l1, l2] [vI s1, vR c0] σ Q ↔ Wp L d k_M_step 46 [l0, l1, l2] [] (gupd σ c0 17 s1) Q := wp_putI (c := 3089) rfl rfl rfl rfl h
theorem r_M_step_46 : Wp L d k_M_step 46 [l0, l1, l2] [] σ Q ↔ Q none σ := wp_vret rfl
theorem sp_M_step (h : 0 ≤ σ 293 17 ∧ σ 293 17 < 96) (h2 : 0 ≤ σ 293 18 ∧ σ 293 18 ≤ 3340) : Run L d 253 [vR 293, vI a1, vI a2] σ none (gupd (gupd (gupd σ 294 ((σ 293 18).toNat + 2 * (σ 293 17).toNat) a1) 294 ((σ 293 18).toNat + 2 * (σ 293 17).toNat + 1) a2) 293 17 (σ 293 17 + 1)) := by
  refine Run_of (C' := k_M_step) rfl ?_
  show Wp L d k_M_step 0 [vR 293, vI a1, vI a2] [] σ _
  obtain ⟨K293, Q293, K294, N294⟩ := litM
  have e : (σ 293 18 + 2 * σ 293 17).toNat = (σ 293 18).toNat + 2 * (σ 293 17).toNat := by omega
  have e2 : (σ 293 18 + 2 * σ 293 17 + 1).toNat = (σ 293 18).toNat + 2 * (σ 293 17).toNat + 1 := by omega
  simp (disch := first | assumption | exact gb_01 _ | omega) only [r_M_step_0, r_M_step_1, r_M_step_4, r_M_step_5, r_M_step_8, r_M_step_9, r_M_step_10, r_M_step_13, r_M_step_14, r_M_step_15, r_M_step_16, r_M_step_17, r_M_step_18, r_M_step_21, r_M_step_22, r_M_step_25, r_M_step_26, r_M_step_27, r_M_step_30, r_M_step_31, r_M_step_32, r_M_step_33, r_M_step_34, r_M_step_35, r_M_step_36, r_M_step_37, r_M_step_38, r_M_step_41, r_M_step_42, r_M_step_43, r_M_step_46, Q293, gupd_ne, e, e2, w32_gb, w32i, tn_add, tn_mul, Int.toNat_natCast, Int.toNat_zero, Int.reduceLE, Int.reduceLT, Int.reduceEq, Int.reduceNe, gb_T, gb_F, Int.reduceToNat, eq_self, true_or, or_true, and_true, true_and, and_self, ↓ite_gb0, ↓ite_gbn, ↓if_pos, ↓if_neg, if_true, if_false, not_true_eq_false, not_false_eq_true, gb_ne0, gb_eq0]
