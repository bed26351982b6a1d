/-! aboard: the first loop. -/
variable {L d : Nat} {σ σ1 : Nat → Nat → Int} {Q : Option gV → (Nat → Nat → Int) → Prop} {a0 a1 a2 a3 a4 a5 a6 a7 a8 a9 a10 a11 s0 s1 s2 s3 s4 s5 s6 s7 s8 s9 : Int} {l0 l1 l2 l3 l4 l5 l6 l7 l8 l9 l10 l11 t0 t1 t2 t3 t4 t5 t6 t7 t8 t9 : gV} {b0 b1 b2 b3 b4 b5 b6 b7 b8 b9 b10 b11 c0 c1 c2 c3 c4 c5 c6 c7 c8 c9 : Nat} {r : Option gV}
theorem gsm_bd {g : Nat → Int} {B : Int} : ∀ n : Nat, (∀ k, k < n → 0 ≤ g k ∧ g k ≤ B) → 0 ≤ gsm g n ∧ gsm g n ≤ B * n
  | 0, _ => by simp [gsm]
  | n + 1, h => by
    have a := gsm_bd n (fun k hk => h k (by omega))
    have b := h n (by omega)
    have e : B * ((n + 1 : Nat) : Int) = B * n + B := by rw [Int.natCast_add, Int.mul_add]; simp
    simp only [gsm]
    rw [e]
    omega
theorem gsm_add (g h : Nat → Int) : ∀ n, gsm (fun k => g k + h k) n = gsm g n + gsm h n
  | 0 => rfl
  | n + 1 => by
    simp only [gsm, gsm_add g h n]
    omega
theorem gsm_eq {g h : Nat → Int} : ∀ n, (∀ k, k < n → g k = h k) → gsm g n = gsm h n
  | 0, _ => rfl
  | n + 1, e => by
    simp only [gsm]
    rw [gsm_eq n (fun k hk => e k (by omega)), e n (by omega)]
def gab (f : Nat → Int) (a : Int) (k : Nat) : Int := f (820 + 3 * k) + a * (f (820 + 3 * k + 1) + f (820 + 3 * k + 2))
theorem r_X_aboard_0 : Wp L d k_X_aboard 0 [l0, vI a1] [] σ Q ↔ Wp L d k_X_aboard 1 [l0, vI a1] [vI a1] σ Q := wp_iload rfl rfl
theorem r_X_aboard_1 : Wp L d k_X_aboard 1 [l0, l1] [vI s0] σ Q ↔ Wp L d k_X_aboard 2 [l0, l1] [vI 0, vI s0] σ Q := wp_push rfl
theorem r_X_aboard_2 : Wp L d k_X_aboard 2 [l0, l1] [vI s1, vI s0] σ Q ↔ Wp L d k_X_aboard 3 [l0, l1] [vI 1, vI s1, vI s0] σ Q := wp_push rfl
theorem r_X_aboard_6 : Wp L d k_X_aboard 6 [l0, l1] [vI s0] σ Q ↔ (if s0 ≠ 0 then Wp L d k_X_aboard 12 [l0, l1] [] σ Q else Wp L d k_X_aboard 9 [l0, l1] [] σ Q) := wp_if_ne rfl
theorem r_X_aboard_9 : Wp L d k_X_aboard 9 [l0, l1] [] σ Q ↔ Wp L d k_X_aboard 11 [l0, l1] [vI (-1000000001)] σ Q := wp_push rfl
theorem r_X_aboard_11 : Wp L d k_X_aboard 11 [l0, l1] [vI s0] σ Q ↔ Q (some (vI s0)) σ := wp_iret rfl
theorem r_X_aboard_12 : Wp L d k_X_aboard 12 [l0, vI a1] [] σ Q ↔ Wp L d k_X_aboard 13 [l0, vI a1] [vI a1] σ Q := wp_iload rfl rfl
theorem r_X_aboard_13 : Wp L d k_X_aboard 13 [l0, l1] [vI s0] σ Q ↔ (if s0 ≠ 0 then Wp L d k_X_aboard 29 [l0, l1] [] σ Q else Wp L d k_X_aboard 16 [l0, l1] [] σ Q) := wp_if_ne rfl
theorem r_X_aboard_16 : Wp L d k_X_aboard 16 [vR b0, l1] [] σ Q ↔ Wp L d k_X_aboard 17 [vR b0, l1] [vR b0] σ Q := wp_aload rfl rfl
theorem r_X_aboard_17 (h : gK c0 = 0) : Wp L d k_X_aboard 17 [l0, l1] [vR c0] σ Q ↔ Wp L d k_X_aboard 20 [l0, l1] [vR (gq c0 0)] σ Q := wp_getR (c := 128) rfl rfl rfl rfl rfl h
theorem r_X_aboard_20 (h : gK c0 = 5) : Wp L d k_X_aboard 20 [l0, l1] [vR c0] σ Q ↔ Wp L d k_X_aboard 23 [l0, l1] [vR (gq c0 5)] σ Q := wp_getR (c := 1413) rfl rfl rfl rfl rfl h
theorem r_X_aboard_23 (h : gK c0 = 3) : Wp L d k_X_aboard 23 [l0, l1] [vR c0] σ Q ↔ Wp L d k_X_aboard 26 [l0, l1] [vI (σ c0 2)] σ Q := wp_getI (c := 770) rfl rfl rfl rfl h
theorem r_X_aboard_26 : Wp L d k_X_aboard 26 [l0, l1] [vI s0] σ Q ↔ Wp L d k_X_aboard 50 [l0, l1] [vI s0] σ Q := wp_goto rfl
theorem r_X_aboard_29 : Wp L d k_X_aboard 29 [vR b0, l1] [] σ Q ↔ Wp L d k_X_aboard 30 [vR b0, l1] [vR b0] σ Q := wp_aload rfl rfl
theorem r_X_aboard_30 (h : gK c0 = 0) : Wp L d k_X_aboard 30 [l0, l1] [vR c0] σ Q ↔ Wp L d k_X_aboard 33 [l0, l1] [vR (gq c0 0)] σ Q := wp_getR (c := 128) rfl rfl rfl rfl rfl h
theorem r_X_aboard_33 (h : gK c0 = 5) : Wp L d k_X_aboard 33 [l0, l1] [vR c0] σ Q ↔ Wp L d k_X_aboard 36 [l0, l1] [vR (gq c0 5)] σ Q := wp_getR (c := 1413) rfl rfl rfl rfl rfl h
theorem r_X_aboard_36 (h : gK c0 = 3) : Wp L d k_X_aboard 36 [l0, l1] [vR c0] σ Q ↔ Wp L d k_X_aboard 39 [l0, l1] [vI (σ c0 2)] σ Q := wp_getI (c := 770) rfl rfl rfl rfl h
theorem r_X_aboard_39 : Wp L d k_X_aboard 39 [vR b0, l1] [vI s0] σ Q ↔ Wp L d k_X_aboard 40 [vR b0, l1] [vR b0, vI s0] σ Q := wp_aload rfl rfl
theorem r_X_aboard_40 (h : gK c1 = 0) : Wp L d k_X_aboard 40 [l0, l1] [vR c1, vI s0] σ Q ↔ Wp L d k_X_aboard 43 [l0, l1] [vR (gq c1 0), vI s0] σ Q := wp_getR (c := 128) rfl rfl rfl rfl rfl h
theorem r_X_aboard_43 (h : gK c1 = 5) : Wp L d k_X_aboard 43 [l0, l1] [vR c1, vI s0] σ Q ↔ Wp L d k_X_aboard 46 [l0, l1] [vR (gq c1 5), vI s0] σ Q := wp_getR (c := 1413) rfl rfl rfl rfl rfl h
theorem r_X_aboard_46 (h : gK c1 = 3) : Wp L d k_X_aboard 46 [l0, l1] [vR c1, vI s0] σ Q ↔ Wp L d k_X_aboard 49 [l0, l1] [vI (σ c1 3), vI s0] σ Q := wp_getI (c := 771) rfl rfl rfl rfl h
theorem r_X_aboard_49 : Wp L d k_X_aboard 49 [l0, l1] [vI s1, vI s0] σ Q ↔ Wp L d k_X_aboard 50 [l0, l1] [vI (w32 (s0 + s1))] σ Q := wp_iadd rfl
theorem r_X_aboard_50 : Wp L d k_X_aboard 50 [l0, l1] [vI s0] σ Q ↔ Q (some (vI s0)) σ := wp_iret rfl
theorem r_X_aboard_3 : Wp L (d + 1) k_X_aboard 3 [l0, l1] [vI s2, vI s1, vI s0] σ Q ↔ Wp L (d + 1) k_X_aboard 6 [l0, l1] [vI (gb (s1 ≤ s0 ∧ s0 ≤ s2))] σ Q := wp_callR (d := d + 0) (as := [vI s0, vI s1, vI s2]) (rest := []) rfl rfl rfl rfl rfl rfl rfl rfl (sp_X_within)
theorem sp_X_aboard_b (h : ¬ (0 ≤ a1 ∧ a1 ≤ 1)) : Run L (d + 1) 70 [vR 27, vI a1] σ (some (vI (-1000000001))) σ := by
  refine Run_of (C' := k_X_aboard) rfl ?_
  show Wp L (d + 1) k_X_aboard 0 [vR 27, vI a1] [] σ _
  simp only [r_X_aboard_0, r_X_aboard_1, r_X_aboard_2, r_X_aboard_3, r_X_aboard_6, r_X_aboard_9, r_X_aboard_11, r_X_aboard_12, r_X_aboard_13, r_X_aboard_16, r_X_aboard_17, r_X_aboard_20, r_X_aboard_23, r_X_aboard_26, r_X_aboard_29, r_X_aboard_30, r_X_aboard_33, r_X_aboard_36, r_X_aboard_39, r_X_aboard_40, r_X_aboard_43, r_X_aboard_46, r_X_aboard_49, r_X_aboard_50, gK_27, gK_28, gK_29, gq_27_0, gq_27_1, gK_293, gq_293_0, gK_294, gN_294, gq_28_5, gK_123, gq_123_0, gK_124, gN_124, Int.reduceLE, Int.reduceLT, Int.reduceEq, Int.reduceToNat, gb_01, eq_self, true_or, or_true, and_true, true_and, and_self, if_true, if_false, not_true_eq_false, not_false_eq_true, ne_eq, gb_ne0, gb_eq0]
  repeat' split
  all_goals first | trivial | omega
theorem sp_X_aboard_0 : Run L (d + 1) 70 [vR 27, vI 0] σ (some (vI (σ 123 2))) σ := by
  refine Run_of (C' := k_X_aboard) rfl ?_
  show Wp L (d + 1) k_X_aboard 0 [vR 27, vI 0] [] σ _
  simp only [r_X_aboard_0, r_X_aboard_1, r_X_aboard_2, r_X_aboard_3, r_X_aboard_6, r_X_aboard_9, r_X_aboard_11, r_X_aboard_12, r_X_aboard_13, r_X_aboard_16, r_X_aboard_17, r_X_aboard_20, r_X_aboard_23, r_X_aboard_26, r_X_aboard_29, r_X_aboard_30, r_X_aboard_33, r_X_aboard_36, r_X_aboard_39, r_X_aboard_40, r_X_aboard_43, r_X_aboard_46, r_X_aboard_49, r_X_aboard_50, gK_27, gK_28, gK_29, gq_27_0, gq_27_1, gK_293, gq_293_0, gK_294, gN_294, gq_28_5, gK_123, gq_123_0, gK_124, gN_124, Int.reduceLE, Int.reduceLT, Int.reduceEq, Int.reduceToNat, gb_01, eq_self, true_or, or_true, and_true, true_and, and_self, if_true, if_false, not_true_eq_false, not_false_eq_true, ne_eq, gb_ne0, gb_eq0]
theorem sp_X_aboard_1 : Run L (d + 1) 70 [vR 27, vI 1] σ (some (vI (w32 (σ 123 2 + σ 123 3)))) σ := by
  refine Run_of (C' := k_X_aboard) rfl ?_
  show Wp L (d + 1) k_X_aboard 0 [vR 27, vI 1] [] σ _
  simp only [r_X_aboard_0, r_X_aboard_1, r_X_aboard_2, r_X_aboard_3, r_X_aboard_6, r_X_aboard_9, r_X_aboard_11, r_X_aboard_12, r_X_aboard_13, r_X_aboard_16, r_X_aboard_17, r_X_aboard_20, r_X_aboard_23, r_X_aboard_26, r_X_aboard_29, r_X_aboard_30, r_X_aboard_33, r_X_aboard_36, r_X_aboard_39, r_X_aboard_40, r_X_aboard_43, r_X_aboard_46, r_X_aboard_49, r_X_aboard_50, gK_27, gK_28, gK_29, gq_27_0, gq_27_1, gK_293, gq_293_0, gK_294, gN_294, gq_28_5, gK_123, gq_123_0, gK_124, gN_124, Int.reduceLE, Int.reduceLT, Int.reduceEq, Int.reduceToNat, gb_01, eq_self, true_or, or_true, and_true, true_and, and_self, if_true, if_false, not_true_eq_false, not_false_eq_true, ne_eq, gb_ne0, gb_eq0]
theorem r_M_aboard_0 : Wp L d k_M_aboard 0 [l0, vI a1, l2, l3, l4] [] σ Q ↔ Wp L d k_M_aboard 1 [l0, vI a1, l2, l3, l4] [vI a1] σ Q := wp_iload rfl rfl
theorem r_M_aboard_1 : Wp L d k_M_aboard 1 [l0, l1, l2, l3, l4] [vI s0] σ Q ↔ Wp L d k_M_aboard 2 [l0, l1, l2, l3, l4] [vL s0] σ Q := wp_i2l rfl
theorem r_M_aboard_2 : Wp L d k_M_aboard 2 [l0, l1, l2, l3, l4] [vL s0] σ Q ↔ Wp L d k_M_aboard 3 [l0, l1, l2, l3, l4] [vL 0, vL s0] σ Q := wp_pushL rfl
theorem r_M_aboard_3 : Wp L d k_M_aboard 3 [l0, l1, l2, l3, l4] [vL s1, vL s0] σ Q ↔ Wp L d k_M_aboard 4 [l0, l1, l2, l3, l4] [vL 1, vL s1, vL s0] σ Q := wp_pushL rfl
theorem r_M_aboard_7 : Wp L d k_M_aboard 7 [l0, l1, l2, l3, l4] [vI s0] σ Q ↔ (if s0 ≠ 0 then Wp L d k_M_aboard 13 [l0, l1, l2, l3, l4] [] σ Q else Wp L d k_M_aboard 10 [l0, l1, l2, l3, l4] [] σ Q) := wp_if_ne rfl
theorem r_M_aboard_10 : Wp L d k_M_aboard 10 [l0, l1, l2, l3, l4] [] σ Q ↔ Wp L d k_M_aboard 12 [l0, l1, l2, l3, l4] [vI (-1000000001)] σ Q := wp_push rfl
theorem r_M_aboard_12 : Wp L d k_M_aboard 12 [l0, l1, l2, l3, l4] [vI s0] σ Q ↔ Q (some (vI s0)) σ := wp_iret rfl
theorem r_M_aboard_13 : Wp L d k_M_aboard 13 [l0, l1, l2, l3, l4] [] σ Q ↔ Wp L d k_M_aboard 14 [l0, l1, l2, l3, l4] [vI 0] σ Q := wp_push rfl
theorem r_M_aboard_14 : Wp L d k_M_aboard 14 [l0, vI a1, l2, l3, l4] [vI s0] σ Q ↔ Wp L d k_M_aboard 15 [l0, vI a1, vI s0, l3, l4] [] σ Q := wp_istore (i := 2) (ls := [l0, vI a1, l2, l3, l4]) rfl rfl
theorem r_M_aboard_15 : Wp L d k_M_aboard 15 [l0, l1, l2, l3, l4] [] σ Q ↔ Wp L d k_M_aboard 16 [l0, l1, l2, l3, l4] [vI 0] σ Q := wp_push rfl
theorem r_M_aboard_16 : Wp L d k_M_aboard 16 [l0, l1, vI a2, l3, l4] [vI s0] σ Q ↔ Wp L d k_M_aboard 17 [l0, l1, vI a2, vI s0, l4] [] σ Q := wp_istore (i := 3) (ls := [l0, l1, vI a2, l3, l4]) rfl rfl
theorem r_M_aboard_17 : Wp L d k_M_aboard 17 [l0, l1, l2, vI a3, l4] [] σ Q ↔ Wp L d k_M_aboard 18 [l0, l1, l2, vI a3, l4] [vI a3] σ Q := wp_iload rfl rfl
theorem r_M_aboard_18 : Wp L d k_M_aboard 18 [vR b0, l1, l2, l3, l4] [vI s0] σ Q ↔ Wp L d k_M_aboard 19 [vR b0, l1, l2, l3, l4] [vR b0, vI s0] σ Q := wp_aload rfl rfl
theorem r_M_aboard_19 (h : gK c1 = 12) : Wp L d k_M_aboard 19 [l0, l1, l2, l3, l4] [vR c1, vI s0] σ Q ↔ Wp L d k_M_aboard 22 [l0, l1, l2, l3, l4] [vR (gq c1 0), vI s0] σ Q := wp_getR (c := 3200) rfl rfl rfl rfl rfl h
theorem r_M_aboard_22 : Wp L d k_M_aboard 22 [l0, l1, l2, l3, l4] [vR c1, vI s0] σ Q ↔ Wp L d k_M_aboard 23 [l0, l1, l2, l3, l4] [vI 4, vR c1, vI s0] σ Q := wp_push rfl
theorem r_M_aboard_23 (h : gK c1 = 100) (hx : 0 ≤ s2 ∧ s2 < gN c1) : Wp L d k_M_aboard 23 [l0, l1, l2, l3, l4] [vI s2, vR c1, vI s0] σ Q ↔ Wp L d k_M_aboard 24 [l0, l1, l2, l3, l4] [vI (σ c1 s2.toNat), vI s0] σ Q := wp_iald rfl h hx
theorem r_M_aboard_24 : Wp L d k_M_aboard 24 [l0, l1, l2, l3, l4] [vI s1, vI s0] σ Q ↔ (if s1 ≤ s0 then Wp L d k_M_aboard 74 [l0, l1, l2, l3, l4] [] σ Q else Wp L d k_M_aboard 27 [l0, l1, l2, l3, l4] [] σ Q) := wp_cmp_ge rfl
theorem r_M_aboard_27 : Wp L d k_M_aboard 27 [l0, l1, l2, l3, l4] [] σ Q ↔ Wp L d k_M_aboard 30 [l0, l1, l2, l3, l4] [vI 820] σ Q := wp_push rfl
theorem r_M_aboard_30 : Wp L d k_M_aboard 30 [l0, l1, l2, l3, l4] [vI s0] σ Q ↔ Wp L d k_M_aboard 31 [l0, l1, l2, l3, l4] [vI 3, vI s0] σ Q := wp_push rfl
theorem r_M_aboard_31 : Wp L d k_M_aboard 31 [l0, l1, l2, vI a3, l4] [vI s1, vI s0] σ Q ↔ Wp L d k_M_aboard 32 [l0, l1, l2, vI a3, l4] [vI a3, vI s1, vI s0] σ Q := wp_iload rfl rfl
theorem r_M_aboard_32 : Wp L d k_M_aboard 32 [l0, l1, l2, l3, l4] [vI s2, vI s1, vI s0] σ Q ↔ Wp L d k_M_aboard 33 [l0, l1, l2, l3, l4] [vI (w32 (s1 * s2)), vI s0] σ Q := wp_imul rfl
theorem r_M_aboard_33 : Wp L d k_M_aboard 33 [l0, l1, l2, l3, l4] [vI s1, vI s0] σ Q ↔ Wp L d k_M_aboard 34 [l0, l1, l2, l3, l4] [vI (w32 (s0 + s1))] σ Q := wp_iadd rfl
theorem r_M_aboard_34 : Wp L d k_M_aboard 34 [l0, l1, l2, vI a3, l4] [vI s0] σ Q ↔ Wp L d k_M_aboard 36 [l0, l1, l2, vI a3, vI s0] [] σ Q := wp_istore (i := 4) (ls := [l0, l1, l2, vI a3, l4]) rfl rfl
theorem r_M_aboard_36 : Wp L d k_M_aboard 36 [l0, l1, vI a2, l3, l4] [] σ Q ↔ Wp L d k_M_aboard 37 [l0, l1, vI a2, l3, l4] [vI a2] σ Q := wp_iload rfl rfl
theorem r_M_aboard_37 : Wp L d k_M_aboard 37 [vR b0, l1, l2, l3, l4] [vI s0] σ Q ↔ Wp L d k_M_aboard 38 [vR b0, l1, l2, l3, l4] [vR b0, vI s0] σ Q := wp_aload rfl rfl
theorem r_M_aboard_38 (h : gK c1 = 12) : Wp L d k_M_aboard 38 [l0, l1, l2, l3, l4] [vR c1, vI s0] σ Q ↔ Wp L d k_M_aboard 41 [l0, l1, l2, l3, l4] [vR (gq c1 0), vI s0] σ Q := wp_getR (c := 3200) rfl rfl rfl rfl rfl h
theorem r_M_aboard_41 : Wp L d k_M_aboard 41 [l0, l1, l2, l3, vI a4] [vR c1, vI s0] σ Q ↔ Wp L d k_M_aboard 43 [l0, l1, l2, l3, vI a4] [vI a4, vR c1, vI s0] σ Q := wp_iload rfl rfl
theorem r_M_aboard_43 (h : gK c1 = 100) (hx : 0 ≤ s2 ∧ s2 < gN c1) : Wp L d k_M_aboard 43 [l0, l1, l2, l3, l4] [vI s2, vR c1, vI s0] σ Q ↔ Wp L d k_M_aboard 44 [l0, l1, l2, l3, l4] [vI (σ c1 s2.toNat), vI s0] σ Q := wp_iald rfl h hx
theorem r_M_aboard_44 : Wp L d k_M_aboard 44 [l0, vI a1, l2, l3, l4] [vI s1, vI s0] σ Q ↔ Wp L d k_M_aboard 45 [l0, vI a1, l2, l3, l4] [vI a1, vI s1, vI s0] σ Q := wp_iload rfl rfl
theorem r_M_aboard_45 : Wp L d k_M_aboard 45 [vR b0, l1, l2, l3, l4] [vI s2, vI s1, vI s0] σ Q ↔ Wp L d k_M_aboard 46 [vR b0, l1, l2, l3, l4] [vR b0, vI s2, vI s1, vI s0] σ Q := wp_aload rfl rfl
theorem r_M_aboard_46 (h : gK c3 = 12) : Wp L d k_M_aboard 46 [l0, l1, l2, l3, l4] [vR c3, vI s2, vI s1, vI s0] σ Q ↔ Wp L d k_M_aboard 49 [l0, l1, l2, l3, l4] [vR (gq c3 0), vI s2, vI s1, vI s0] σ Q := wp_getR (c := 3200) rfl rfl rfl rfl rfl h
theorem r_M_aboard_49 : Wp L d k_M_aboard 49 [l0, l1, l2, l3, vI a4] [vR c3, vI s2, vI s1, vI s0] σ Q ↔ Wp L d k_M_aboard 51 [l0, l1, l2, l3, vI a4] [vI a4, vR c3, vI s2, vI s1, vI s0] σ Q := wp_iload rfl rfl
theorem r_M_aboard_51 : Wp L d k_M_aboard 51 [l0, l1, l2, l3, l4] [vI s4, vR c3, vI s2, vI s1, vI s0] σ Q ↔ Wp L d k_M_aboard 52 [l0, l1, l2, l3, l4] [vI 1, vI s4, vR c3, vI s2, vI s1, vI s0] σ Q := wp_push rfl
theorem r_M_aboard_52 : Wp L d k_M_aboard 52 [l0, l1, l2, l3, l4] [vI s5, vI s4, vR c3, vI s2, vI s1, vI s0] σ Q ↔ Wp L d k_M_aboard 53 [l0, l1, l2, l3, l4] [vI (w32 (s4 + s5)), vR c3, vI s2, vI s1, vI s0] σ Q := wp_iadd rfl
theorem r_M_aboard_53 (h : gK c3 = 100) (hx : 0 ≤ s4 ∧ s4 < gN c3) : Wp L d k_M_aboard 53 [l0, l1, l2, l3, l4] [vI s4, vR c3, vI s2, vI s1, vI s0] σ Q ↔ Wp L d k_M_aboard 54 [l0, l1, l2, l3, l4] [vI (σ c3 s4.toNat), vI s2, vI s1, vI s0] σ Q := wp_iald rfl h hx
theorem r_M_aboard_54 : Wp L d k_M_aboard 54 [vR b0, l1, l2, l3, l4] [vI s3, vI s2, vI s1, vI s0] σ Q ↔ Wp L d k_M_aboard 55 [vR b0, l1, l2, l3, l4] [vR b0, vI s3, vI s2, vI s1, vI s0] σ Q := wp_aload rfl rfl
theorem r_M_aboard_55 (h : gK c4 = 12) : Wp L d k_M_aboard 55 [l0, l1, l2, l3, l4] [vR c4, vI s3, vI s2, vI s1, vI s0] σ Q ↔ Wp L d k_M_aboard 58 [l0, l1, l2, l3, l4] [vR (gq c4 0), vI s3, vI s2, vI s1, vI s0] σ Q := wp_getR (c := 3200) rfl rfl rfl rfl rfl h
theorem r_M_aboard_58 : Wp L d k_M_aboard 58 [l0, l1, l2, l3, vI a4] [vR c4, vI s3, vI s2, vI s1, vI s0] σ Q ↔ Wp L d k_M_aboard 60 [l0, l1, l2, l3, vI a4] [vI a4, vR c4, vI s3, vI s2, vI s1, vI s0] σ Q := wp_iload rfl rfl
theorem r_M_aboard_60 : Wp L d k_M_aboard 60 [l0, l1, l2, l3, l4] [vI s5, vR c4, vI s3, vI s2, vI s1, vI s0] σ Q ↔ Wp L d k_M_aboard 61 [l0, l1, l2, l3, l4] [vI 2, vI s5, vR c4, vI s3, vI s2, vI s1, vI s0] σ Q := wp_push rfl
theorem r_M_aboard_61 : Wp L d k_M_aboard 61 [l0, l1, l2, l3, l4] [vI s6, vI s5, vR c4, vI s3, vI s2, vI s1, vI s0] σ Q ↔ Wp L d k_M_aboard 62 [l0, l1, l2, l3, l4] [vI (w32 (s5 + s6)), vR c4, vI s3, vI s2, vI s1, vI s0] σ Q := wp_iadd rfl
theorem r_M_aboard_62 (h : gK c4 = 100) (hx : 0 ≤ s5 ∧ s5 < gN c4) : Wp L d k_M_aboard 62 [l0, l1, l2, l3, l4] [vI s5, vR c4, vI s3, vI s2, vI s1, vI s0] σ Q ↔ Wp L d k_M_aboard 63 [l0, l1, l2, l3, l4] [vI (σ c4 s5.toNat), vI s3, vI s2, vI s1, vI s0] σ Q := wp_iald rfl h hx
theorem r_M_aboard_63 : Wp L d k_M_aboard 63 [l0, l1, l2, l3, l4] [vI s4, vI s3, vI s2, vI s1, vI s0] σ Q ↔ Wp L d k_M_aboard 64 [l0, l1, l2, l3, l4] [vI (w32 (s3 + s4)), vI s2, vI s1, vI s0] σ Q := wp_iadd rfl
theorem r_M_aboard_64 : Wp L d k_M_aboard 64 [l0, l1, l2, l3, l4] [vI s3, vI s2, vI s1, vI s0] σ Q ↔ Wp L d k_M_aboard 65 [l0, l1, l2, l3, l4] [vI (w32 (s2 * s3)), vI s1, vI s0] σ Q := wp_imul rfl
theorem r_M_aboard_65 : Wp L d k_M_aboard 65 [l0, l1, l2, l3, l4] [vI s2, vI s1, vI s0] σ Q ↔ Wp L d k_M_aboard 66 [l0, l1, l2, l3, l4] [vI (w32 (s1 + s2)), vI s0] σ Q := wp_iadd rfl
theorem r_M_aboard_66 : Wp L d k_M_aboard 66 [l0, l1, l2, l3, l4] [vI s1, vI s0] σ Q ↔ Wp L d k_M_aboard 67 [l0, l1, l2, l3, l4] [vI (w32 (s0 + s1))] σ Q := wp_iadd rfl
theorem r_M_aboard_67 : Wp L d k_M_aboard 67 [l0, vI a1, l2, l3, l4] [vI s0] σ Q ↔ Wp L d k_M_aboard 68 [l0, vI a1, vI s0, l3, l4] [] σ Q := wp_istore (i := 2) (ls := [l0, vI a1, l2, l3, l4]) rfl rfl
theorem r_M_aboard_68 : Wp L d k_M_aboard 68 [l0, l1, vI a2, vI a3, l4] [] σ Q ↔ Wp L d k_M_aboard 71 [l0, l1, vI a2, vI (w32 (a3 + 1)), l4] [] σ Q := wp_iinc (i := 3) (ls := [l0, l1, vI a2, vI a3, l4]) rfl rfl
theorem r_M_aboard_71 : Wp L d k_M_aboard 71 [l0, l1, l2, l3, l4] [] σ Q ↔ Wp L d k_M_aboard 17 [l0, l1, l2, l3, l4] [] σ Q := wp_goto rfl
theorem r_M_aboard_74 : Wp L d k_M_aboard 74 [l0, l1, vI a2, l3, l4] [] σ Q ↔ Wp L d k_M_aboard 75 [l0, l1, vI a2, l3, l4] [vI a2] σ Q := wp_iload rfl rfl
theorem r_M_aboard_75 : Wp L d k_M_aboard 75 [l0, l1, l2, l3, l4] [vI s0] σ Q ↔ Q (some (vI s0)) σ := wp_iret rfl
theorem r_M_aboard_4 : Wp L (d + 1) k_M_aboard 4 [l0, l1, l2, l3, l4] [vL s2, vL s1, vL s0] σ Q ↔ Wp L (d + 1) k_M_aboard 7 [l0, l1, l2, l3, l4] [vI (gb (s1 ≤ s0 ∧ s0 ≤ s2))] σ Q := wp_callR (d := d + 0) (as := [vL s0, vL s1, vL s2]) (rest := []) rfl rfl rfl rfl rfl rfl rfl rfl (sp_M_isIn)
theorem sp_M_aboard_b (h : ¬ (0 ≤ a1 ∧ a1 ≤ 1)) : Run L (d + 1) 298 [vR 293, vI a1] σ (some (vI (-1000000001))) σ := by
  refine Run_of (C' := k_M_aboard) rfl ?_
  show Wp L (d + 1) k_M_aboard 0 [vR 293, vI a1, vU, vU, vU] [] σ _
  rw [show Wp L (d + 1) k_M_aboard 0 _ _ σ _ ↔ _ from r_M_aboard_0]
  simp only [r_M_aboard_0, r_M_aboard_1, r_M_aboard_2, r_M_aboard_3, r_M_aboard_4, r_M_aboard_7, r_M_aboard_10, r_M_aboard_12, r_M_aboard_13, r_M_aboard_14, r_M_aboard_15, r_M_aboard_16, r_M_aboard_18, r_M_aboard_19, r_M_aboard_22, r_M_aboard_23, r_M_aboard_24, r_M_aboard_27, r_M_aboard_30, r_M_aboard_31, r_M_aboard_32, r_M_aboard_33, r_M_aboard_34, r_M_aboard_36, r_M_aboard_37, r_M_aboard_38, r_M_aboard_41, r_M_aboard_43, r_M_aboard_44, r_M_aboard_45, r_M_aboard_46, r_M_aboard_49, r_M_aboard_51, r_M_aboard_52, r_M_aboard_53, r_M_aboard_54, r_M_aboard_55, r_M_aboard_58, r_M_aboard_60, r_M_aboard_61, r_M_aboard_62, r_M_aboard_63, r_M_aboard_64, r_M_aboard_65, r_M_aboard_66, r_M_aboard_67, r_M_aboard_68, r_M_aboard_71, r_M_aboard_74, r_M_aboard_75, gK_27, gK_28, gK_29, gq_27_0, gq_27_1, gK_293, gq_293_0, gK_294, gN_294, h, Int.reduceLE, Int.reduceLT, Int.reduceEq, Int.reduceToNat, gb_01, eq_self, true_or, or_true, and_true, true_and, and_self, if_true, if_false, not_true_eq_false, not_false_eq_true, ne_eq, gb_ne0, gb_eq0]
theorem lp_M_aboard (h4 : 0 ≤ σ 294 4 ∧ σ 294 4 ≤ 8) (ha : a1 = 0 ∨ a1 = 1) (hb : ∀ k : Nat, (k : Int) < σ 294 4 → (0 ≤ σ 294 (820 + 3 * k) ∧ σ 294 (820 + 3 * k) ≤ 999) ∧ (0 ≤ σ 294 (820 + 3 * k + 1) ∧ σ 294 (820 + 3 * k + 1) ≤ 999) ∧ (0 ≤ σ 294 (820 + 3 * k + 2) ∧ σ 294 (820 + 3 * k + 2) ≤ 999)) (hQ : ∀ l', Wp L (d + 1) k_M_aboard 74 [vR 293, vI a1, vI (gsm (gab (σ 294) a1) (σ 294 4).toNat), vI (σ 294 4), l'] [] σ Q) : ∀ (n k : Nat) (l : gV), (k : Int) + n = σ 294 4 → Wp L (d + 1) k_M_aboard 17 [vR 293, vI a1, vI (gsm (gab (σ 294) a1) k), vI (k : Int), l] [] σ Q
  | 0, k, l, hk => by
    have e : (k : Int) = σ 294 4 := by omega
    have e2 : (σ 294 4).toNat = k := by omega
    have c : σ 294 4 ≤ (k : Int) := by omega
    simp only [r_M_aboard_17, r_M_aboard_18, r_M_aboard_19, r_M_aboard_22, r_M_aboard_23, r_M_aboard_24, gK_27, gK_28, gK_29, gq_27_0, gq_27_1, gK_293, gq_293_0, gK_294, gN_294, Int.reduceLE, Int.reduceLT, Int.reduceEq, Int.reduceToNat, gb_01, eq_self, true_or, or_true, and_true, true_and, and_self, if_true, if_false, not_true_eq_false, not_false_eq_true, ne_eq, gb_ne0, gb_eq0, c]
    rw [e2, ← e] at hQ
    exact hQ l
  | n + 1, k, l, hk => by
    have c : ¬ σ 294 4 ≤ (k : Int) := by omega
    have b := hb k (by omega)
    have z : ∀ i : Nat, i ≤ k → 0 ≤ gsm (gab (σ 294) a1) i ∧ gsm (gab (σ 294) a1) i ≤ 2997 * (i : Int) := fun i hi => gsm_bd i (fun j hj => by
      have b := hb j (by omega)
      unfold gab
      rcases ha with rfl | rfl <;> omega)
    have z0 := z k (Nat.le_refl k)
    have w0 : w32 (3 * (k : Int)) = 3 * (k : Int) := w32_id (by unfold gr32; omega)
    have w1 : w32 (820 + 3 * (k : Int)) = 820 + 3 * (k : Int) := w32_id (by unfold gr32; omega)
    have w2 : w32 (820 + 3 * (k : Int) + 1) = 820 + 3 * (k : Int) + 1 := w32_id (by unfold gr32; omega)
    have w3 : w32 (820 + 3 * (k : Int) + 2) = 820 + 3 * (k : Int) + 2 := w32_id (by unfold gr32; omega)
    have t0 : (820 + 3 * (k : Int)).toNat = 820 + 3 * k := by omega
    have t1 : (820 + 3 * (k : Int) + 1).toNat = 820 + 3 * k + 1 := by omega
    have t2 : (820 + 3 * (k : Int) + 2).toNat = 820 + 3 * k + 2 := by omega
    have p0 : 0 ≤ 820 + 3 * (k : Int) ∧ 820 + 3 * (k : Int) < 3540 := by omega
    have p1 : 0 ≤ 820 + 3 * (k : Int) + 1 ∧ 820 + 3 * (k : Int) + 1 < 3540 := by omega
    have p2 : 0 ≤ 820 + 3 * (k : Int) + 2 ∧ 820 + 3 * (k : Int) + 2 < 3540 := by omega
    have w4 : w32 (σ 294 (820 + 3 * k + 1) + σ 294 (820 + 3 * k + 2)) = σ 294 (820 + 3 * k + 1) + σ 294 (820 + 3 * k + 2) := w32_id (by unfold gr32; omega)
    have w5 : w32 (a1 * (σ 294 (820 + 3 * k + 1) + σ 294 (820 + 3 * k + 2))) = a1 * (σ 294 (820 + 3 * k + 1) + σ 294 (820 + 3 * k + 2)) := w32_id (by unfold gr32; rcases ha with rfl | rfl <;> omega)
    have w6 : w32 (σ 294 (820 + 3 * k) + a1 * (σ 294 (820 + 3 * k + 1) + σ 294 (820 + 3 * k + 2))) = gab (σ 294) a1 k := w32_id (by unfold gr32; rcases ha with rfl | rfl <;> omega)
    have w7 : w32 (gsm (gab (σ 294) a1) k + gab (σ 294) a1 k) = gsm (gab (σ 294) a1) (k + 1) := w32_id (by unfold gr32; unfold gab at *; rcases ha with rfl | rfl <;> omega)
    have w8 : w32 ((k : Int) + 1) = ((k + 1 : Nat) : Int) := w32_id (by unfold gr32; omega)
    rw [r_M_aboard_17]
    simp only [r_M_aboard_0, r_M_aboard_1, r_M_aboard_2, r_M_aboard_3, r_M_aboard_4, r_M_aboard_7, r_M_aboard_10, r_M_aboard_12, r_M_aboard_13, r_M_aboard_14, r_M_aboard_15, r_M_aboard_16, r_M_aboard_18, r_M_aboard_19, r_M_aboard_22, r_M_aboard_23, r_M_aboard_24, r_M_aboard_27, r_M_aboard_30, r_M_aboard_31, r_M_aboard_32, r_M_aboard_33, r_M_aboard_34, r_M_aboard_36, r_M_aboard_37, r_M_aboard_38, r_M_aboard_41, r_M_aboard_43, r_M_aboard_44, r_M_aboard_45, r_M_aboard_46, r_M_aboard_49, r_M_aboard_51, r_M_aboard_52, r_M_aboard_53, r_M_aboard_54, r_M_aboard_55, r_M_aboard_58, r_M_aboard_60, r_M_aboard_61, r_M_aboard_62, r_M_aboard_63, r_M_aboard_64, r_M_aboard_65, r_M_aboard_66, r_M_aboard_67, r_M_aboard_68, r_M_aboard_71, r_M_aboard_74, r_M_aboard_75, gK_27, gK_28, gK_29, gq_27_0, gq_27_1, gK_293, gq_293_0, gK_294, gN_294, Int.reduceLE, Int.reduceLT, Int.reduceEq, Int.reduceToNat, gb_01, eq_self, true_or, or_true, and_true, true_and, and_self, if_true, if_false, not_true_eq_false, not_false_eq_true, ne_eq, gb_ne0, gb_eq0, c, w0, w1, w2, w3, t0, t1, t2, p0, p1, p2, w4, w5, w6, w7, w8]
    exact lp_M_aboard h4 ha hb hQ n (k + 1) _ (by omega)
theorem sp_M_aboard (h4 : 0 ≤ σ 294 4 ∧ σ 294 4 ≤ 8) (ha : a1 = 0 ∨ a1 = 1) (hb : ∀ k : Nat, (k : Int) < σ 294 4 → (0 ≤ σ 294 (820 + 3 * k) ∧ σ 294 (820 + 3 * k) ≤ 999) ∧ (0 ≤ σ 294 (820 + 3 * k + 1) ∧ σ 294 (820 + 3 * k + 1) ≤ 999) ∧ (0 ≤ σ 294 (820 + 3 * k + 2) ∧ σ 294 (820 + 3 * k + 2) ≤ 999)) : Run L (d + 1) 298 [vR 293, vI a1] σ (some (vI (gsm (gab (σ 294) a1) (σ 294 4).toNat))) σ := by
  have h : 0 ≤ a1 ∧ a1 ≤ 1 := by omega
  refine Run_of (C' := k_M_aboard) rfl ?_
  show Wp L (d + 1) k_M_aboard 0 [vR 293, vI a1, vU, vU, vU] [] σ _
  simp only [r_M_aboard_0, r_M_aboard_1, r_M_aboard_2, r_M_aboard_3, r_M_aboard_4, r_M_aboard_7, r_M_aboard_10, r_M_aboard_12, r_M_aboard_13, r_M_aboard_14, r_M_aboard_15, r_M_aboard_16, r_M_aboard_18, r_M_aboard_19, r_M_aboard_22, r_M_aboard_23, r_M_aboard_24, r_M_aboard_27, r_M_aboard_30, r_M_aboard_31, r_M_aboard_32, r_M_aboard_33, r_M_aboard_34, r_M_aboard_36, r_M_aboard_37, r_M_aboard_38, r_M_aboard_41, r_M_aboard_43, r_M_aboard_44, r_M_aboard_45, r_M_aboard_46, r_M_aboard_49, r_M_aboard_51, r_M_aboard_52, r_M_aboard_53, r_M_aboard_54, r_M_aboard_55, r_M_aboard_58, r_M_aboard_60, r_M_aboard_61, r_M_aboard_62, r_M_aboard_63, r_M_aboard_64, r_M_aboard_65, r_M_aboard_66, r_M_aboard_67, r_M_aboard_68, r_M_aboard_71, r_M_aboard_74, r_M_aboard_75, gK_27, gK_28, gK_29, gq_27_0, gq_27_1, gK_293, gq_293_0, gK_294, gN_294, h, Int.reduceLE, Int.reduceLT, Int.reduceEq, Int.reduceToNat, gb_01, eq_self, true_or, or_true, and_true, true_and, and_self, if_true, if_false, not_true_eq_false, not_false_eq_true, ne_eq, gb_ne0, gb_eq0]
  refine lp_M_aboard h4 ha hb (fun l' => ?_) (σ 294 4).toNat 0 _ (by omega)
  simp only [r_M_aboard_74, r_M_aboard_75, Int.reduceLE, Int.reduceLT, Int.reduceEq, Int.reduceToNat, gb_01, eq_self, true_or, or_true, and_true, true_and, and_self, if_true, if_false, not_true_eq_false, not_false_eq_true, ne_eq, gb_ne0, gb_eq0]
theorem op_aboard (a1 : Int) : Op 70 298 [vI a1] := by
  intro L d σ hI
  obtain ⟨⟨w1, w2, w3, w4⟩, c1, c2, c3, c4, c5⟩ := iP hI
  by_cases h : 0 ≤ a1 ∧ a1 ≤ 1
  · have e : a1 = 0 ∨ a1 = 1 := by omega
    rcases e with rfl | rfl
    · refine ⟨_, _, _, sp_X_aboard_0, Run_r (sp_M_aboard w1 (Or.inl rfl) w2) ?_, hI⟩
      rw [c2]
      exact gsm_eq _ (fun k hk => by unfold gab; omega)
    · refine ⟨_, _, _, sp_X_aboard_1, Run_r (sp_M_aboard w1 (Or.inr rfl) w2) ?_, hI⟩
      have b1 := gsm_bd (g := fun k => σ 294 (820 + 3 * k)) (B := 999) (σ 294 4).toNat (fun k hk => (w2 k (by omega)).1)
      have b2 := gsm_bd (g := fun k => σ 294 (820 + 3 * k + 1) + σ 294 (820 + 3 * k + 2)) (B := 1998) (σ 294 4).toNat (fun k hk => by have := w2 k (by omega); omega)
      rw [c2, c3, w32_id (by unfold gr32; omega), ← gsm_add]
      exact gsm_eq _ (fun k hk => by unfold gab; omega)
  · exact ⟨_, _, _, sp_X_aboard_b h, sp_M_aboard_b h, hI⟩
