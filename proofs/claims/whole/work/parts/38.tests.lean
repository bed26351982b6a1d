/-! Places of tests. -/
variable {L d : Nat} {σ σ1 : Nat → Nat → Int} {Q : Option gV → (Nat → Nat → Int) → Prop} {a0 a1 a2 a3 a4 a5 a6 a7 a8 a9 a10 a11 s0 s1 s2 s3 s4 s5 s6 s7 s8 s9 : Int} {l0 l1 l2 l3 l4 l5 l6 l7 l8 l9 l10 l11 t0 t1 t2 t3 t4 t5 t6 t7 t8 t9 : gV} {b0 b1 b2 b3 b4 b5 b6 b7 b8 b9 b10 b11 c0 c1 c2 c3 c4 c5 c6 c7 c8 c9 : Nat} {r : Option gV}
/-- why there is no such place of a test; 0 -/
def gref (sort size a p : Int) : Int := if 0 ≤ a ∧ a ≤ 5 then (if sort = -1 then -1000000011 else if 0 ≤ p ∧ p ≤ size - 1 then 0 else -1000000013) else -1000000001
theorem gref0 {sort size a p : Int} : gref sort size a p = 0 ↔ (0 ≤ a ∧ a ≤ 5) ∧ sort ≠ -1 ∧ 0 ≤ p ∧ p ≤ size - 1 := by
  unfold gref
  constructor
  · intro h
    repeat' split at h
    all_goals first | omega | simp_all
  · rintro ⟨h1, h2, h3⟩
    rw [if_pos h1, if_neg h2, if_pos h3]
theorem iTs {σ : gMm} (hI : Inv σ) : RTest σ := hI.2.2.2.1
theorem r_X_refusalOf_0 : Wp L d k_X_refusalOf 0 [l0, vI a1, l2] [] σ Q ↔ Wp L d k_X_refusalOf 1 [l0, vI a1, l2] [vI a1] σ Q := wp_iload rfl rfl
theorem r_X_refusalOf_4 : Wp L d k_X_refusalOf 4 [l0, l1, l2] [vI s0] σ Q ↔ (if s0 ≠ 0 then Wp L d k_X_refusalOf 10 [l0, l1, l2] [] σ Q else Wp L d k_X_refusalOf 7 [l0, l1, l2] [] σ Q) := wp_if_ne rfl
theorem r_X_refusalOf_7 : Wp L d k_X_refusalOf 7 [l0, l1, l2] [] σ Q ↔ Wp L d k_X_refusalOf 9 [l0, l1, l2] [vI (-1000000001)] σ Q := wp_push rfl
theorem r_X_refusalOf_9 : Wp L d k_X_refusalOf 9 [l0, l1, l2] [vI s0] σ Q ↔ Q (some (vI s0)) σ := wp_iret rfl
theorem r_X_refusalOf_10 : Wp L d k_X_refusalOf 10 [vR b0, l1, l2] [] σ Q ↔ Wp L d k_X_refusalOf 11 [vR b0, l1, l2] [vR b0] σ Q := wp_aload rfl rfl
theorem r_X_refusalOf_11 (h : gK c0 = 0) : Wp L d k_X_refusalOf 11 [l0, l1, l2] [vR c0] σ Q ↔ Wp L d k_X_refusalOf 14 [l0, l1, l2] [vR (gq c0 5)] σ Q := wp_getR (c := 133) rfl rfl rfl rfl rfl h
theorem r_X_refusalOf_14 (h : gK c0 = 9) : Wp L d k_X_refusalOf 14 [l0, l1, l2] [vR c0] σ Q ↔ Wp L d k_X_refusalOf 17 [l0, l1, l2] [vR (gq c0 1)] σ Q := wp_getR (c := 2433) rfl rfl rfl rfl rfl h
theorem r_X_refusalOf_17 : Wp L d k_X_refusalOf 17 [l0, vI a1, l2] [vR c0] σ Q ↔ Wp L d k_X_refusalOf 18 [l0, vI a1, l2] [vI a1, vR c0] σ Q := wp_iload rfl rfl
theorem r_X_refusalOf_18 (h : gK c0 = 100) (hx : 0 ≤ s1 ∧ s1 < gN c0) : Wp L d k_X_refusalOf 18 [l0, l1, l2] [vI s1, vR c0] σ Q ↔ Wp L d k_X_refusalOf 19 [l0, l1, l2] [vI (σ c0 s1.toNat)] σ Q := wp_iald rfl h hx
theorem r_X_refusalOf_19 : Wp L d k_X_refusalOf 19 [l0, l1, l2] [vI s0] σ Q ↔ Wp L d k_X_refusalOf 20 [l0, l1, l2] [vI (-1), vI s0] σ Q := wp_push rfl
theorem r_X_refusalOf_20 : Wp L d k_X_refusalOf 20 [l0, l1, l2] [vI s1, vI s0] σ Q ↔ (if s0 ≠ s1 then Wp L d k_X_refusalOf 27 [l0, l1, l2] [] σ Q else Wp L d k_X_refusalOf 23 [l0, l1, l2] [] σ Q) := wp_cmp_ne rfl
theorem r_X_refusalOf_23 : Wp L d k_X_refusalOf 23 [l0, l1, l2] [] σ Q ↔ Wp L d k_X_refusalOf 26 [l0, l1, l2] [vI (-1000000011)] σ Q := wp_push rfl
theorem r_X_refusalOf_26 : Wp L d k_X_refusalOf 26 [l0, l1, l2] [vI s0] σ Q ↔ Q (some (vI s0)) σ := wp_iret rfl
theorem r_X_refusalOf_27 : Wp L d k_X_refusalOf 27 [l0, l1, vI a2] [] σ Q ↔ Wp L d k_X_refusalOf 28 [l0, l1, vI a2] [vI a2] σ Q := wp_iload rfl rfl
theorem r_X_refusalOf_28 : Wp L d k_X_refusalOf 28 [l0, l1, l2] [vI s0] σ Q ↔ Wp L d k_X_refusalOf 29 [l0, l1, l2] [vI 0, vI s0] σ Q := wp_push rfl
theorem r_X_refusalOf_29 : Wp L d k_X_refusalOf 29 [vR b0, l1, l2] [vI s1, vI s0] σ Q ↔ Wp L d k_X_refusalOf 30 [vR b0, l1, l2] [vR b0, vI s1, vI s0] σ Q := wp_aload rfl rfl
theorem r_X_refusalOf_30 (h : gK c2 = 0) : Wp L d k_X_refusalOf 30 [l0, l1, l2] [vR c2, vI s1, vI s0] σ Q ↔ Wp L d k_X_refusalOf 33 [l0, l1, l2] [vR (gq c2 5), vI s1, vI s0] σ Q := wp_getR (c := 133) rfl rfl rfl rfl rfl h
theorem r_X_refusalOf_33 (h : gK c2 = 9) : Wp L d k_X_refusalOf 33 [l0, l1, l2] [vR c2, vI s1, vI s0] σ Q ↔ Wp L d k_X_refusalOf 36 [l0, l1, l2] [vR (gq c2 2), vI s1, vI s0] σ Q := wp_getR (c := 2434) rfl rfl rfl rfl rfl h
theorem r_X_refusalOf_36 : Wp L d k_X_refusalOf 36 [l0, vI a1, l2] [vR c2, vI s1, vI s0] σ Q ↔ Wp L d k_X_refusalOf 37 [l0, vI a1, l2] [vI a1, vR c2, vI s1, vI s0] σ Q := wp_iload rfl rfl
theorem r_X_refusalOf_37 (h : gK c2 = 100) (hx : 0 ≤ s3 ∧ s3 < gN c2) : Wp L d k_X_refusalOf 37 [l0, l1, l2] [vI s3, vR c2, vI s1, vI s0] σ Q ↔ Wp L d k_X_refusalOf 38 [l0, l1, l2] [vI (σ c2 s3.toNat), vI s1, vI s0] σ Q := wp_iald rfl h hx
theorem r_X_refusalOf_38 : Wp L d k_X_refusalOf 38 [l0, l1, l2] [vI s2, vI s1, vI s0] σ Q ↔ Wp L d k_X_refusalOf 39 [l0, l1, l2] [vI 1, vI s2, vI s1, vI s0] σ Q := wp_push rfl
theorem r_X_refusalOf_39 : Wp L d k_X_refusalOf 39 [l0, l1, l2] [vI s3, vI s2, vI s1, vI s0] σ Q ↔ Wp L d k_X_refusalOf 40 [l0, l1, l2] [vI (w32 (s2 - s3)), vI s1, vI s0] σ Q := wp_isub rfl
theorem r_X_refusalOf_43 : Wp L d k_X_refusalOf 43 [l0, l1, l2] [vI s0] σ Q ↔ (if s0 = 0 then Wp L d k_X_refusalOf 50 [l0, l1, l2] [] σ Q else Wp L d k_X_refusalOf 46 [l0, l1, l2] [] σ Q) := wp_if_eq rfl
theorem r_X_refusalOf_46 : Wp L d k_X_refusalOf 46 [l0, l1, l2] [] σ Q ↔ Wp L d k_X_refusalOf 47 [l0, l1, l2] [vI 0] σ Q := wp_push rfl
theorem r_X_refusalOf_47 : Wp L d k_X_refusalOf 47 [l0, l1, l2] [vI s0] σ Q ↔ Wp L d k_X_refusalOf 53 [l0, l1, l2] [vI s0] σ Q := wp_goto rfl
theorem r_X_refusalOf_50 : Wp L d k_X_refusalOf 50 [l0, l1, l2] [] σ Q ↔ Wp L d k_X_refusalOf 53 [l0, l1, l2] [vI (-1000000013)] σ Q := wp_push rfl
theorem r_X_refusalOf_53 : Wp L d k_X_refusalOf 53 [l0, l1, l2] [vI s0] σ Q ↔ Q (some (vI s0)) σ := wp_iret rfl
theorem r_X_refusalOf_1 : Wp L (d + 2) k_X_refusalOf 1 [l0, l1, l2] [vI s0] σ Q ↔ Wp L (d + 2) k_X_refusalOf 4 [l0, l1, l2] [vI (gb (0 ≤ s0 ∧ s0 ≤ 5))] σ Q := wp_callR (d := d + 1) (as := [vI s0]) (rest := []) rfl rfl rfl rfl rfl rfl rfl rfl (sp_X_isTest)
theorem r_X_refusalOf_40 : Wp L (d + 2) k_X_refusalOf 40 [l0, l1, l2] [vI s2, vI s1, vI s0] σ Q ↔ Wp L (d + 2) k_X_refusalOf 43 [l0, l1, l2] [vI (gb (s1 ≤ s0 ∧ s0 ≤ s2))] σ Q := wp_callR (d := d + 1) (as := [vI s0, vI s1, vI s2]) (rest := []) rfl rfl rfl rfl rfl rfl rfl rfl (sp_X_within)
theorem sp_X_refusalOf (hs : 0 ≤ a1 ∧ a1 ≤ 5 → σ 290 a1.toNat ≠ -1 → 0 ≤ σ 291 a1.toNat ∧ σ 291 a1.toNat ≤ 24) : Run L (d + 2) 77 [vR 27, vI a1, vI a2] σ (some (vI (gref (σ 290 a1.toNat) (σ 291 a1.toNat) a1 a2))) σ := by
  refine Run_of (C' := k_X_refusalOf) rfl ?_
  show Wp L (d + 2) k_X_refusalOf 0 [vR 27, vI a1, vI a2] [] σ _
  unfold gref
  by_cases h : 0 ≤ a1 ∧ a1 ≤ 5
  · have h6 : a1 < 6 := by omega
    rw [if_pos h]
    by_cases e : σ 290 a1.toNat = -1
    · rw [if_pos e]
      simp only [r_X_refusalOf_0, r_X_refusalOf_1, r_X_refusalOf_4, r_X_refusalOf_7, r_X_refusalOf_9, r_X_refusalOf_10, r_X_refusalOf_11, r_X_refusalOf_14, r_X_refusalOf_17, r_X_refusalOf_18, r_X_refusalOf_19, r_X_refusalOf_20, r_X_refusalOf_23, r_X_refusalOf_26, r_X_refusalOf_27, r_X_refusalOf_28, r_X_refusalOf_29, r_X_refusalOf_30, r_X_refusalOf_33, r_X_refusalOf_36, r_X_refusalOf_37, r_X_refusalOf_38, r_X_refusalOf_39, r_X_refusalOf_40, r_X_refusalOf_43, r_X_refusalOf_46, r_X_refusalOf_47, r_X_refusalOf_50, r_X_refusalOf_53, gK_27, gK_28, gK_29, gq_27_0, gq_27_1, gK_293, gq_293_0, gK_294, gN_294, gq_27_5, gK_282, gq_282_0, gq_282_1, gq_282_2, gK_283, gN_283, gK_290, gN_290, gK_291, gN_291, Int.reduceLE, Int.reduceLT, Int.reduceEq, Int.reduceToNat, gb_01, eq_self, true_or, or_true, and_true, true_and, and_self, if_true, if_false, not_true_eq_false, not_false_eq_true, ne_eq, gb_ne0, gb_eq0, h, h6, e]
    · rw [if_neg e]
      have hn : w32 (σ 291 a1.toNat - 1) = σ 291 a1.toNat - 1 := w32_id (by have := hs h e; unfold gr32; omega)
      have e2 := e
      by_cases q : 0 ≤ a2 ∧ a2 ≤ σ 291 a1.toNat - 1
      · rw [if_pos q]
        simp only [r_X_refusalOf_0, r_X_refusalOf_1, r_X_refusalOf_4, r_X_refusalOf_7, r_X_refusalOf_9, r_X_refusalOf_10, r_X_refusalOf_11, r_X_refusalOf_14, r_X_refusalOf_17, r_X_refusalOf_18, r_X_refusalOf_19, r_X_refusalOf_20, r_X_refusalOf_23, r_X_refusalOf_26, r_X_refusalOf_27, r_X_refusalOf_28, r_X_refusalOf_29, r_X_refusalOf_30, r_X_refusalOf_33, r_X_refusalOf_36, r_X_refusalOf_37, r_X_refusalOf_38, r_X_refusalOf_39, r_X_refusalOf_40, r_X_refusalOf_43, r_X_refusalOf_46, r_X_refusalOf_47, r_X_refusalOf_50, r_X_refusalOf_53, gK_27, gK_28, gK_29, gq_27_0, gq_27_1, gK_293, gq_293_0, gK_294, gN_294, gq_27_5, gK_282, gq_282_0, gq_282_1, gq_282_2, gK_283, gN_283, gK_290, gN_290, gK_291, gN_291, Int.reduceLE, Int.reduceLT, Int.reduceEq, Int.reduceToNat, gb_01, eq_self, true_or, or_true, and_true, true_and, and_self, if_true, if_false, not_true_eq_false, not_false_eq_true, ne_eq, gb_ne0, gb_eq0, h, h6, e, hn, q, e2]
      · rw [if_neg q]
        simp only [r_X_refusalOf_0, r_X_refusalOf_1, r_X_refusalOf_4, r_X_refusalOf_7, r_X_refusalOf_9, r_X_refusalOf_10, r_X_refusalOf_11, r_X_refusalOf_14, r_X_refusalOf_17, r_X_refusalOf_18, r_X_refusalOf_19, r_X_refusalOf_20, r_X_refusalOf_23, r_X_refusalOf_26, r_X_refusalOf_27, r_X_refusalOf_28, r_X_refusalOf_29, r_X_refusalOf_30, r_X_refusalOf_33, r_X_refusalOf_36, r_X_refusalOf_37, r_X_refusalOf_38, r_X_refusalOf_39, r_X_refusalOf_40, r_X_refusalOf_43, r_X_refusalOf_46, r_X_refusalOf_47, r_X_refusalOf_50, r_X_refusalOf_53, gK_27, gK_28, gK_29, gq_27_0, gq_27_1, gK_293, gq_293_0, gK_294, gN_294, gq_27_5, gK_282, gq_282_0, gq_282_1, gq_282_2, gK_283, gN_283, gK_290, gN_290, gK_291, gN_291, Int.reduceLE, Int.reduceLT, Int.reduceEq, Int.reduceToNat, gb_01, eq_self, true_or, or_true, and_true, true_and, and_self, if_true, if_false, not_true_eq_false, not_false_eq_true, ne_eq, gb_ne0, gb_eq0, h, h6, e, hn, q, e2]
  · rw [if_neg h]
    simp only [r_X_refusalOf_0, r_X_refusalOf_1, r_X_refusalOf_4, r_X_refusalOf_7, r_X_refusalOf_9, r_X_refusalOf_10, r_X_refusalOf_11, r_X_refusalOf_14, r_X_refusalOf_17, r_X_refusalOf_18, r_X_refusalOf_19, r_X_refusalOf_20, r_X_refusalOf_23, r_X_refusalOf_26, r_X_refusalOf_27, r_X_refusalOf_28, r_X_refusalOf_29, r_X_refusalOf_30, r_X_refusalOf_33, r_X_refusalOf_36, r_X_refusalOf_37, r_X_refusalOf_38, r_X_refusalOf_39, r_X_refusalOf_40, r_X_refusalOf_43, r_X_refusalOf_46, r_X_refusalOf_47, r_X_refusalOf_50, r_X_refusalOf_53, gK_27, gK_28, gK_29, gq_27_0, gq_27_1, gK_293, gq_293_0, gK_294, gN_294, gq_27_5, gK_282, gq_282_0, gq_282_1, gq_282_2, gK_283, gN_283, gK_290, gN_290, gK_291, gN_291, Int.reduceLE, Int.reduceLT, Int.reduceEq, Int.reduceToNat, gb_01, eq_self, true_or, or_true, and_true, true_and, and_self, if_true, if_false, not_true_eq_false, not_false_eq_true, ne_eq, gb_ne0, gb_eq0, h]
theorem r_M_lacks_0 : Wp L d k_M_lacks 0 [l0, vI a1, l2] [] σ Q ↔ Wp L d k_M_lacks 1 [l0, vI a1, l2] [vI a1] σ Q := wp_iload rfl rfl
theorem r_M_lacks_4 : Wp L d k_M_lacks 4 [l0, l1, l2] [vI s0] σ Q ↔ (if s0 ≠ 0 then Wp L d k_M_lacks 10 [l0, l1, l2] [] σ Q else Wp L d k_M_lacks 7 [l0, l1, l2] [] σ Q) := wp_if_ne rfl
theorem r_M_lacks_7 : Wp L d k_M_lacks 7 [l0, l1, l2] [] σ Q ↔ Wp L d k_M_lacks 9 [l0, l1, l2] [vI (-1000000001)] σ Q := wp_push rfl
theorem r_M_lacks_9 : Wp L d k_M_lacks 9 [l0, l1, l2] [vI s0] σ Q ↔ Q (some (vI s0)) σ := wp_iret rfl
theorem r_M_lacks_10 : Wp L d k_M_lacks 10 [vR b0, l1, l2] [] σ Q ↔ Wp L d k_M_lacks 11 [vR b0, l1, l2] [vR b0] σ Q := wp_aload rfl rfl
theorem r_M_lacks_11 (h : gK c0 = 12) : Wp L d k_M_lacks 11 [l0, l1, l2] [vR c0] σ Q ↔ Wp L d k_M_lacks 14 [l0, l1, l2] [vR (gq c0 4)] σ Q := wp_getR (c := 3204) rfl rfl rfl rfl rfl h
theorem r_M_lacks_14 : Wp L d k_M_lacks 14 [l0, vI a1, l2] [vR c0] σ Q ↔ Wp L d k_M_lacks 15 [l0, vI a1, l2] [vI a1, vR c0] σ Q := wp_iload rfl rfl
theorem r_M_lacks_15 (h : gK c0 = 100) (hx : 0 ≤ s1 ∧ s1 < gN c0) : Wp L d k_M_lacks 15 [l0, l1, l2] [vI s1, vR c0] σ Q ↔ Wp L d k_M_lacks 16 [l0, l1, l2] [vI (σ c0 s1.toNat)] σ Q := wp_iald rfl h hx
theorem r_M_lacks_16 : Wp L d k_M_lacks 16 [l0, l1, l2] [vI s0] σ Q ↔ (if 0 ≤ s0 then Wp L d k_M_lacks 25 [l0, l1, l2] [] σ Q else Wp L d k_M_lacks 19 [l0, l1, l2] [] σ Q) := wp_if_ge rfl
theorem r_M_lacks_19 : Wp L d k_M_lacks 19 [l0, l1, l2] [] σ Q ↔ Wp L d k_M_lacks 22 [l0, l1, l2] [vI (-1000000011)] σ Q := wp_push rfl
theorem r_M_lacks_22 : Wp L d k_M_lacks 22 [l0, l1, l2] [vI s0] σ Q ↔ Wp L d k_M_lacks 50 [l0, l1, l2] [vI s0] σ Q := wp_goto rfl
theorem r_M_lacks_25 : Wp L d k_M_lacks 25 [l0, l1, vI a2] [] σ Q ↔ Wp L d k_M_lacks 26 [l0, l1, vI a2] [vI a2] σ Q := wp_iload rfl rfl
theorem r_M_lacks_26 : Wp L d k_M_lacks 26 [l0, l1, l2] [vI s0] σ Q ↔ Wp L d k_M_lacks 27 [l0, l1, l2] [vL s0] σ Q := wp_i2l rfl
theorem r_M_lacks_27 : Wp L d k_M_lacks 27 [l0, l1, l2] [vL s0] σ Q ↔ Wp L d k_M_lacks 28 [l0, l1, l2] [vL 0, vL s0] σ Q := wp_pushL rfl
theorem r_M_lacks_28 : Wp L d k_M_lacks 28 [vR b0, l1, l2] [vL s1, vL s0] σ Q ↔ Wp L d k_M_lacks 29 [vR b0, l1, l2] [vR b0, vL s1, vL s0] σ Q := wp_aload rfl rfl
theorem r_M_lacks_29 (h : gK c2 = 12) : Wp L d k_M_lacks 29 [l0, l1, l2] [vR c2, vL s1, vL s0] σ Q ↔ Wp L d k_M_lacks 32 [l0, l1, l2] [vR (gq c2 5), vL s1, vL s0] σ Q := wp_getR (c := 3205) rfl rfl rfl rfl rfl h
theorem r_M_lacks_32 : Wp L d k_M_lacks 32 [l0, vI a1, l2] [vR c2, vL s1, vL s0] σ Q ↔ Wp L d k_M_lacks 33 [l0, vI a1, l2] [vI a1, vR c2, vL s1, vL s0] σ Q := wp_iload rfl rfl
theorem r_M_lacks_33 (h : gK c2 = 100) (hx : 0 ≤ s3 ∧ s3 < gN c2) : Wp L d k_M_lacks 33 [l0, l1, l2] [vI s3, vR c2, vL s1, vL s0] σ Q ↔ Wp L d k_M_lacks 34 [l0, l1, l2] [vI (σ c2 s3.toNat), vL s1, vL s0] σ Q := wp_iald rfl h hx
theorem r_M_lacks_34 : Wp L d k_M_lacks 34 [l0, l1, l2] [vI s2, vL s1, vL s0] σ Q ↔ Wp L d k_M_lacks 35 [l0, l1, l2] [vI 1, vI s2, vL s1, vL s0] σ Q := wp_push rfl
theorem r_M_lacks_35 : Wp L d k_M_lacks 35 [l0, l1, l2] [vI s3, vI s2, vL s1, vL s0] σ Q ↔ Wp L d k_M_lacks 36 [l0, l1, l2] [vI (w32 (s2 - s3)), vL s1, vL s0] σ Q := wp_isub rfl
theorem r_M_lacks_36 : Wp L d k_M_lacks 36 [l0, l1, l2] [vI s2, vL s1, vL s0] σ Q ↔ Wp L d k_M_lacks 37 [l0, l1, l2] [vL s2, vL s1, vL s0] σ Q := wp_i2l rfl
theorem r_M_lacks_40 : Wp L d k_M_lacks 40 [l0, l1, l2] [vI s0] σ Q ↔ (if s0 = 0 then Wp L d k_M_lacks 47 [l0, l1, l2] [] σ Q else Wp L d k_M_lacks 43 [l0, l1, l2] [] σ Q) := wp_if_eq rfl
theorem r_M_lacks_43 : Wp L d k_M_lacks 43 [l0, l1, l2] [] σ Q ↔ Wp L d k_M_lacks 44 [l0, l1, l2] [vI 0] σ Q := wp_push rfl
theorem r_M_lacks_44 : Wp L d k_M_lacks 44 [l0, l1, l2] [vI s0] σ Q ↔ Wp L d k_M_lacks 50 [l0, l1, l2] [vI s0] σ Q := wp_goto rfl
theorem r_M_lacks_47 : Wp L d k_M_lacks 47 [l0, l1, l2] [] σ Q ↔ Wp L d k_M_lacks 50 [l0, l1, l2] [vI (-1000000013)] σ Q := wp_push rfl
theorem r_M_lacks_50 : Wp L d k_M_lacks 50 [l0, l1, l2] [vI s0] σ Q ↔ Q (some (vI s0)) σ := wp_iret rfl
theorem r_M_lacks_1 : Wp L (d + 2) k_M_lacks 1 [l0, l1, l2] [vI s0] σ Q ↔ Wp L (d + 2) k_M_lacks 4 [l0, l1, l2] [vI (gb (0 ≤ s0 ∧ s0 ≤ 5))] σ Q := wp_callR (d := d + 1) (as := [vI s0]) (rest := []) rfl rfl rfl rfl rfl rfl rfl rfl (sp_M_isTest)
theorem r_M_lacks_37 : Wp L (d + 2) k_M_lacks 37 [l0, l1, l2] [vL s2, vL s1, vL s0] σ Q ↔ Wp L (d + 2) k_M_lacks 40 [l0, l1, l2] [vI (gb (s1 ≤ s0 ∧ s0 ≤ s2))] σ Q := wp_callR (d := d + 1) (as := [vL s0, vL s1, vL s2]) (rest := []) rfl rfl rfl rfl rfl rfl rfl rfl (sp_M_isIn)
theorem sp_M_lacks (hs : 0 ≤ a1 ∧ a1 ≤ 5 → σ 297 a1.toNat ≠ -1 → 0 ≤ σ 298 a1.toNat ∧ σ 298 a1.toNat ≤ 24) (ht : 0 ≤ a1 ∧ a1 ≤ 5 → σ 297 a1.toNat = -1 ∨ 0 ≤ σ 297 a1.toNat) : Run L (d + 2) 306 [vR 293, vI a1, vI a2] σ (some (vI (gref (σ 297 a1.toNat) (σ 298 a1.toNat) a1 a2))) σ := by
  refine Run_of (C' := k_M_lacks) rfl ?_
  show Wp L (d + 2) k_M_lacks 0 [vR 293, vI a1, vI a2] [] σ _
  unfold gref
  by_cases h : 0 ≤ a1 ∧ a1 ≤ 5
  · have h6 : a1 < 6 := by omega
    rw [if_pos h]
    by_cases e : σ 297 a1.toNat = -1
    · rw [if_pos e]
      simp only [r_M_lacks_0, r_M_lacks_1, r_M_lacks_4, r_M_lacks_7, r_M_lacks_9, r_M_lacks_10, r_M_lacks_11, r_M_lacks_14, r_M_lacks_15, r_M_lacks_16, r_M_lacks_19, r_M_lacks_22, r_M_lacks_25, r_M_lacks_26, r_M_lacks_27, r_M_lacks_28, r_M_lacks_29, r_M_lacks_32, r_M_lacks_33, r_M_lacks_34, r_M_lacks_35, r_M_lacks_36, r_M_lacks_37, r_M_lacks_40, r_M_lacks_43, r_M_lacks_44, r_M_lacks_47, r_M_lacks_50, gK_27, gK_28, gK_29, gq_27_0, gq_27_1, gK_293, gq_293_0, gK_294, gN_294, gq_293_4, gq_293_5, gq_293_6, gK_297, gN_297, gK_298, gN_298, gK_299, gN_299, Int.reduceLE, Int.reduceLT, Int.reduceEq, Int.reduceToNat, gb_01, eq_self, true_or, or_true, and_true, true_and, and_self, if_true, if_false, not_true_eq_false, not_false_eq_true, ne_eq, gb_ne0, gb_eq0, h, h6, e]
    · rw [if_neg e]
      have hn : w32 (σ 298 a1.toNat - 1) = σ 298 a1.toNat - 1 := w32_id (by have := hs h e; unfold gr32; omega)
      have e2 : 0 ≤ σ 297 a1.toNat := by have := ht h; omega
      by_cases q : 0 ≤ a2 ∧ a2 ≤ σ 298 a1.toNat - 1
      · rw [if_pos q]
        simp only [r_M_lacks_0, r_M_lacks_1, r_M_lacks_4, r_M_lacks_7, r_M_lacks_9, r_M_lacks_10, r_M_lacks_11, r_M_lacks_14, r_M_lacks_15, r_M_lacks_16, r_M_lacks_19, r_M_lacks_22, r_M_lacks_25, r_M_lacks_26, r_M_lacks_27, r_M_lacks_28, r_M_lacks_29, r_M_lacks_32, r_M_lacks_33, r_M_lacks_34, r_M_lacks_35, r_M_lacks_36, r_M_lacks_37, r_M_lacks_40, r_M_lacks_43, r_M_lacks_44, r_M_lacks_47, r_M_lacks_50, gK_27, gK_28, gK_29, gq_27_0, gq_27_1, gK_293, gq_293_0, gK_294, gN_294, gq_293_4, gq_293_5, gq_293_6, gK_297, gN_297, gK_298, gN_298, gK_299, gN_299, Int.reduceLE, Int.reduceLT, Int.reduceEq, Int.reduceToNat, gb_01, eq_self, true_or, or_true, and_true, true_and, and_self, if_true, if_false, not_true_eq_false, not_false_eq_true, ne_eq, gb_ne0, gb_eq0, h, h6, e, hn, q, e2]
      · rw [if_neg q]
        simp only [r_M_lacks_0, r_M_lacks_1, r_M_lacks_4, r_M_lacks_7, r_M_lacks_9, r_M_lacks_10, r_M_lacks_11, r_M_lacks_14, r_M_lacks_15, r_M_lacks_16, r_M_lacks_19, r_M_lacks_22, r_M_lacks_25, r_M_lacks_26, r_M_lacks_27, r_M_lacks_28, r_M_lacks_29, r_M_lacks_32, r_M_lacks_33, r_M_lacks_34, r_M_lacks_35, r_M_lacks_36, r_M_lacks_37, r_M_lacks_40, r_M_lacks_43, r_M_lacks_44, r_M_lacks_47, r_M_lacks_50, gK_27, gK_28, gK_29, gq_27_0, gq_27_1, gK_293, gq_293_0, gK_294, gN_294, gq_293_4, gq_293_5, gq_293_6, gK_297, gN_297, gK_298, gN_298, gK_299, gN_299, Int.reduceLE, Int.reduceLT, Int.reduceEq, Int.reduceToNat, gb_01, eq_self, true_or, or_true, and_true, true_and, and_self, if_true, if_false, not_true_eq_false, not_false_eq_true, ne_eq, gb_ne0, gb_eq0, h, h6, e, hn, q, e2]
  · rw [if_neg h]
    simp only [r_M_lacks_0, r_M_lacks_1, r_M_lacks_4, r_M_lacks_7, r_M_lacks_9, r_M_lacks_10, r_M_lacks_11, r_M_lacks_14, r_M_lacks_15, r_M_lacks_16, r_M_lacks_19, r_M_lacks_22, r_M_lacks_25, r_M_lacks_26, r_M_lacks_27, r_M_lacks_28, r_M_lacks_29, r_M_lacks_32, r_M_lacks_33, r_M_lacks_34, r_M_lacks_35, r_M_lacks_36, r_M_lacks_37, r_M_lacks_40, r_M_lacks_43, r_M_lacks_44, r_M_lacks_47, r_M_lacks_50, gK_27, gK_28, gK_29, gq_27_0, gq_27_1, gK_293, gq_293_0, gK_294, gN_294, gq_293_4, gq_293_5, gq_293_6, gK_297, gN_297, gK_298, gN_298, gK_299, gN_299, Int.reduceLE, Int.reduceLT, Int.reduceEq, Int.reduceToNat, gb_01, eq_self, true_or, or_true, and_true, true_and, and_self, if_true, if_false, not_true_eq_false, not_false_eq_true, ne_eq, gb_ne0, gb_eq0, h]
