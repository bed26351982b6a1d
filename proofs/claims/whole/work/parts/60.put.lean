/-! test, put. -/
variable {L d : Nat} {σ σ1 : Nat → Nat → Int} {Q : Option gV → (Nat → Nat → Int) → Prop} {a0 a1 a2 a3 a4 a5 a6 a7 a8 a9 a10 a11 s0 s1 s2 s3 s4 s5 s6 s7 s8 s9 : Int} {l0 l1 l2 l3 l4 l5 l6 l7 l8 l9 l10 l11 t0 t1 t2 t3 t4 t5 t6 t7 t8 t9 : gV} {b0 b1 b2 b3 b4 b5 b6 b7 b8 b9 b10 b11 c0 c1 c2 c3 c4 c5 c6 c7 c8 c9 : Nat} {r : Option gV}
theorem shl16 (x : Int) : gshr (gshl x 16) 16 = gi2s x := by
  unfold gshr gshl gi2s
  have e : Int32.ofInt 16 &&& 31 = 16 := by decide
  have e2 : (16 : Int32).toBitVec.smod 32 = 16#32 := by decide
  rw [e, Int32.ofInt_toInt]
  show (Int32.ofInt x <<< 16 >>> 16).toBitVec.toInt = _
  rw [Int32.toBitVec_shiftRight, Int32.toBitVec_shiftLeft, e2, BitVec.toInt_sshiftRight', BitVec.shiftLeft_eq', BitVec.toInt_shiftLeft, Int32.toBitVec_ofInt, BitVec.toNat_ofInt, BitVec.toNat_ofNat, Int.shiftRight_eq_div_pow]
  simp only [Nat.reducePow, Nat.reduceMod, Nat.shiftLeft_eq]
  unfold Int.bmod
  simp only []
  split <;> omega
theorem litV : gK 282 = 9 ∧ gK 283 = 103 ∧ ((gN 283 : Nat) : Int) = 6 ∧ gK 290 = 100 ∧ gK 291 = 100 ∧ ((gN 290 : Nat) : Int) = 6 ∧ ((gN 291 : Nat) : Int) = 6 ∧ gK 297 = 100 ∧ gK 298 = 100 ∧ gK 299 = 100 ∧ gK 305 = 100 ∧ ((gN 297 : Nat) : Int) = 6 ∧ ((gN 298 : Nat) : Int) = 6 ∧ ((gN 299 : Nat) : Int) = 144 ∧ ((gN 305 : Nat) : Int) = 24 := by decide +kernel
theorem r_V_begin_0 : Wp L d k_V_begin 0 [vR b0, l1, l2, l3, l4] [] σ Q ↔ Wp L d k_V_begin 1 [vR b0, l1, l2, l3, l4] [vR b0] σ Q := wp_aload rfl rfl
theorem r_V_begin_1 (h : gK c0 = 9) : Wp L d k_V_begin 1 [l0, l1, l2, l3, l4] [vR c0] σ Q ↔ Wp L d k_V_begin 4 [l0, l1, l2, l3, l4] [vR (gq c0 1)] σ Q := wp_getR (c := 2433) rfl rfl rfl rfl rfl h
theorem r_V_begin_4 : Wp L d k_V_begin 4 [l0, vI a1, l2, l3, l4] [vR c0] σ Q ↔ Wp L d k_V_begin 5 [l0, vI a1, l2, l3, l4] [vI a1, vR c0] σ Q := wp_iload rfl rfl
theorem r_V_begin_5 : Wp L d k_V_begin 5 [l0, l1, vI a2, l3, l4] [vI s1, vR c0] σ Q ↔ Wp L d k_V_begin 6 [l0, l1, vI a2, l3, l4] [vI a2, vI s1, vR c0] σ Q := wp_iload rfl rfl
theorem r_V_begin_6 (h : gK c0 = 100) (hx : 0 ≤ s1 ∧ s1 < gN c0) : Wp L d k_V_begin 6 [l0, l1, l2, l3, l4] [vI s2, vI s1, vR c0] σ Q ↔ Wp L d k_V_begin 7 [l0, l1, l2, l3, l4] [] (gupd σ c0 s1.toNat s2) Q := wp_iast rfl h hx
theorem r_V_begin_7 : Wp L d k_V_begin 7 [vR b0, l1, l2, l3, l4] [] σ Q ↔ Wp L d k_V_begin 8 [vR b0, l1, l2, l3, l4] [vR b0] σ Q := wp_aload rfl rfl
theorem r_V_begin_8 (h : gK c0 = 9) : Wp L d k_V_begin 8 [l0, l1, l2, l3, l4] [vR c0] σ Q ↔ Wp L d k_V_begin 11 [l0, l1, l2, l3, l4] [vR (gq c0 2)] σ Q := wp_getR (c := 2434) rfl rfl rfl rfl rfl h
theorem r_V_begin_11 : Wp L d k_V_begin 11 [l0, vI a1, l2, l3, l4] [vR c0] σ Q ↔ Wp L d k_V_begin 12 [l0, vI a1, l2, l3, l4] [vI a1, vR c0] σ Q := wp_iload rfl rfl
theorem r_V_begin_12 : Wp L d k_V_begin 12 [l0, l1, l2, vI a3, l4] [vI s1, vR c0] σ Q ↔ Wp L d k_V_begin 13 [l0, l1, l2, vI a3, l4] [vI a3, vI s1, vR c0] σ Q := wp_iload rfl rfl
theorem r_V_begin_13 (h : gK c0 = 100) (hx : 0 ≤ s1 ∧ s1 < gN c0) : Wp L d k_V_begin 13 [l0, l1, l2, l3, l4] [vI s2, vI s1, vR c0] σ Q ↔ Wp L d k_V_begin 14 [l0, l1, l2, l3, l4] [] (gupd σ c0 s1.toNat s2) Q := wp_iast rfl h hx
theorem r_V_begin_14 : Wp L d k_V_begin 14 [l0, l1, l2, l3, l4] [] σ Q ↔ Wp L d k_V_begin 15 [l0, l1, l2, l3, l4] [vI 0] σ Q := wp_push rfl
theorem r_V_begin_15 : Wp L d k_V_begin 15 [l0, l1, l2, vI a3, l4] [vI s0] σ Q ↔ Wp L d k_V_begin 17 [l0, l1, l2, vI a3, vI s0] [] σ Q := wp_istore (i := 4) (ls := [l0, l1, l2, vI a3, l4]) rfl rfl
theorem r_V_begin_17 : Wp L d k_V_begin 17 [l0, l1, l2, l3, vI a4] [] σ Q ↔ Wp L d k_V_begin 19 [l0, l1, l2, l3, vI a4] [vI a4] σ Q := wp_iload rfl rfl
theorem r_V_begin_19 : Wp L d k_V_begin 19 [l0, l1, l2, l3, l4] [vI s0] σ Q ↔ Wp L d k_V_begin 21 [l0, l1, l2, l3, l4] [vI 24, vI s0] σ Q := wp_push rfl
theorem r_V_begin_21 : Wp L d k_V_begin 21 [l0, l1, l2, l3, l4] [vI s1, vI s0] σ Q ↔ (if s1 ≤ s0 then Wp L d k_V_begin 40 [l0, l1, l2, l3, l4] [] σ Q else Wp L d k_V_begin 24 [l0, l1, l2, l3, l4] [] σ Q) := wp_cmp_ge rfl
theorem r_V_begin_24 : Wp L d k_V_begin 24 [vR b0, l1, l2, l3, l4] [] σ Q ↔ Wp L d k_V_begin 25 [vR b0, l1, l2, l3, l4] [vR b0] σ Q := wp_aload rfl rfl
theorem r_V_begin_25 (h : gK c0 = 9) : Wp L d k_V_begin 25 [l0, l1, l2, l3, l4] [vR c0] σ Q ↔ Wp L d k_V_begin 28 [l0, l1, l2, l3, l4] [vR (gq c0 0)] σ Q := wp_getR (c := 2432) rfl rfl rfl rfl rfl h
theorem r_V_begin_28 : Wp L d k_V_begin 28 [l0, vI a1, l2, l3, l4] [vR c0] σ Q ↔ Wp L d k_V_begin 29 [l0, vI a1, l2, l3, l4] [vI a1, vR c0] σ Q := wp_iload rfl rfl
theorem r_V_begin_29 (h : gK c0 = 102 ∨ gK c0 = 103) (hx : 0 ≤ s1 ∧ s1 < gN c0) : Wp L d k_V_begin 29 [l0, l1, l2, l3, l4] [vI s1, vR c0] σ Q ↔ Wp L d k_V_begin 30 [l0, l1, l2, l3, l4] [vR (gq c0 s1.toNat)] σ Q := wp_aald rfl h hx
theorem r_V_begin_30 : Wp L d k_V_begin 30 [l0, l1, l2, l3, vI a4] [vR c0] σ Q ↔ Wp L d k_V_begin 32 [l0, l1, l2, l3, vI a4] [vI a4, vR c0] σ Q := wp_iload rfl rfl
theorem r_V_begin_32 : Wp L d k_V_begin 32 [l0, l1, l2, l3, l4] [vI s1, vR c0] σ Q ↔ Wp L d k_V_begin 33 [l0, l1, l2, l3, l4] [vI 0, vI s1, vR c0] σ Q := wp_push rfl
theorem r_V_begin_33 (h : gK c0 = 100) (hx : 0 ≤ s1 ∧ s1 < gN c0) : Wp L d k_V_begin 33 [l0, l1, l2, l3, l4] [vI s2, vI s1, vR c0] σ Q ↔ Wp L d k_V_begin 34 [l0, l1, l2, l3, l4] [] (gupd σ c0 s1.toNat s2) Q := wp_iast rfl h hx
theorem r_V_begin_34 : Wp L d k_V_begin 34 [l0, l1, l2, vI a3, vI a4] [] σ Q ↔ Wp L d k_V_begin 37 [l0, l1, l2, vI a3, vI (w32 (a4 + 1))] [] σ Q := wp_iinc (i := 4) (ls := [l0, l1, l2, vI a3, vI a4]) rfl rfl
theorem r_V_begin_37 : Wp L d k_V_begin 37 [l0, l1, l2, l3, l4] [] σ Q ↔ Wp L d k_V_begin 17 [l0, l1, l2, l3, l4] [] σ Q := wp_goto rfl
theorem r_V_begin_40 : Wp L d k_V_begin 40 [l0, l1, l2, vI a3, l4] [] σ Q ↔ Wp L d k_V_begin 41 [l0, l1, l2, vI a3, l4] [vI a3] σ Q := wp_iload rfl rfl
theorem r_V_begin_41 : Wp L d k_V_begin 41 [l0, l1, l2, l3, l4] [vI s0] σ Q ↔ Q (some (vI s0)) σ := wp_iret rfl
theorem sp_V_begin (h : 0 ≤ a1 ∧ a1 ≤ 5) : ∃ σ', Run L d 172 [vR 282, vI a1, vI a2, vI a3] σ (some (vI a3)) σ' ∧ (σ' 290 a1.toNat = a2 ∧ σ' 291 a1.toNat = a3 ∧ ∀ j : Nat, j < 24 → σ' (284 + a1.toNat) j = 0) ∧ Agr σ σ' (fun k j => (k = 290 ∧ j = a1.toNat) ∨ (k = 291 ∧ j = a1.toNat) ∨ k = 284 + a1.toNat) := by
  refine Run_ex (C' := k_V_begin) rfl ?_
  show Wp L d k_V_begin 0 [vR 282, vI a1, vI a2, vI a3, vU] [] σ _
  obtain ⟨K282, K283, N283, K290, K291, N290, N291, K297, K298, K299, K305, N297, N298, N299, N305⟩ := litV
  obtain ⟨g1, g2, g3⟩ := gq283 (i := a1.toNat) (by omega)
  simp (disch := first | assumption | exact gb_01 _ | omega) only [r_V_begin_0, r_V_begin_1, r_V_begin_4, r_V_begin_5, r_V_begin_6, r_V_begin_7, r_V_begin_8, r_V_begin_11, r_V_begin_12, r_V_begin_13, r_V_begin_14, r_V_begin_15, r_V_begin_19, r_V_begin_21, r_V_begin_24, r_V_begin_25, r_V_begin_28, r_V_begin_29, r_V_begin_30, r_V_begin_32, r_V_begin_33, r_V_begin_34, r_V_begin_37, r_V_begin_40, r_V_begin_41, gq_27_5, gq_282_0, gq_282_1, gq_282_2, gq_293_4, gq_293_5, gq_293_6, gq_293_24, w32_gb, w32i, tn_add, tn_mul, Int.toNat_natCast, Int.toNat_zero, Int.reduceLE, Int.reduceLT, Int.reduceEq, Int.reduceNe, gb_T, gb_F, Int.reduceToNat, eq_self, true_or, or_true, and_true, true_and, and_self, ↓ite_gb0, ↓ite_gbn, ↓if_pos, ↓if_neg, if_true, if_false, not_true_eq_false, not_false_eq_true, gb_ne0, gb_eq0]
  refine wloop (n := 24) (I := fun k ls τ => ls = [vR 282, vI a1, vI a2, vI a3, vI (k : Int)] ∧ (τ 290 a1.toNat = a2 ∧ τ 291 a1.toNat = a3 ∧ ∀ j : Nat, j < k → τ (284 + a1.toNat) j = 0) ∧ Agr σ τ (fun k j => (k = 290 ∧ j = a1.toNat) ∨ (k = 291 ∧ j = a1.toNat) ∨ k = 284 + a1.toNat)) (fun k ls τ hk hi hq => ?_) (fun ls τ hi => ?_) 24 0 (by omega) _ _ ⟨rfl, ⟨by rw [gupd_ne (by omega), gupd_eq], gupd_eq, fun j hj => by omega⟩, Agr_upd (Agr_upd (Agr_refl _ _) (by omega)) (by omega)⟩
  · obtain ⟨rfl, ⟨h1, h2, h3⟩, hA⟩ := hi
    rw [r_V_begin_17]
    simp (disch := first | assumption | exact gb_01 _ | omega) only [r_V_begin_0, r_V_begin_1, r_V_begin_4, r_V_begin_5, r_V_begin_6, r_V_begin_7, r_V_begin_8, r_V_begin_11, r_V_begin_12, r_V_begin_13, r_V_begin_14, r_V_begin_15, r_V_begin_19, r_V_begin_21, r_V_begin_24, r_V_begin_25, r_V_begin_28, r_V_begin_29, r_V_begin_30, r_V_begin_32, r_V_begin_33, r_V_begin_34, r_V_begin_37, r_V_begin_40, r_V_begin_41, gq_27_5, gq_282_0, gq_282_1, gq_282_2, gq_293_4, gq_293_5, gq_293_6, gq_293_24, g1, w32_gb, w32i, tn_add, tn_mul, Int.toNat_natCast, Int.toNat_zero, Int.reduceLE, Int.reduceLT, Int.reduceEq, Int.reduceNe, gb_T, gb_F, Int.reduceToNat, eq_self, true_or, or_true, and_true, true_and, and_self, ↓ite_gb0, ↓ite_gbn, ↓if_pos, ↓if_neg, if_true, if_false, not_true_eq_false, not_false_eq_true, gb_ne0, gb_eq0]
    refine hq _ _ ⟨by simp only [List.cons.injEq, vI_inj, vR_inj, and_true, true_and]; omega, ⟨by rw [gupd_ne (by omega)]; exact h1, by rw [gupd_ne (by omega)]; exact h2, fun j hj => ?_⟩, Agr_upd hA (by omega)⟩
    by_cases e : j = k
    · rw [e, gupd_eq]
    · rw [gupd_ne (by omega)]
      exact h3 j (by omega)
  · obtain ⟨rfl, ⟨h1, h2, h3⟩, hA⟩ := hi
    rw [r_V_begin_17]
    simp (disch := first | assumption | exact gb_01 _ | omega) only [r_V_begin_0, r_V_begin_1, r_V_begin_4, r_V_begin_5, r_V_begin_6, r_V_begin_7, r_V_begin_8, r_V_begin_11, r_V_begin_12, r_V_begin_13, r_V_begin_14, r_V_begin_15, r_V_begin_19, r_V_begin_21, r_V_begin_24, r_V_begin_25, r_V_begin_28, r_V_begin_29, r_V_begin_30, r_V_begin_32, r_V_begin_33, r_V_begin_34, r_V_begin_37, r_V_begin_40, r_V_begin_41, gq_27_5, gq_282_0, gq_282_1, gq_282_2, gq_293_4, gq_293_5, gq_293_6, gq_293_24, g1, w32_gb, w32i, tn_add, tn_mul, Int.toNat_natCast, Int.toNat_zero, Int.reduceLE, Int.reduceLT, Int.reduceEq, Int.reduceNe, gb_T, gb_F, Int.reduceToNat, eq_self, true_or, or_true, and_true, true_and, and_self, ↓ite_gb0, ↓ite_gbn, ↓if_pos, ↓if_neg, if_true, if_false, not_true_eq_false, not_false_eq_true, gb_ne0, gb_eq0]
    exact ⟨⟨h1, h2, h3⟩, hA⟩
theorem r_X_test_0 : Wp L d k_X_test 0 [l0, vI a1, l2, l3] [] σ Q ↔ Wp L d k_X_test 1 [l0, vI a1, l2, l3] [vI a1] σ Q := wp_iload rfl rfl
theorem r_X_test_4 : Wp L d k_X_test 4 [l0, l1, l2, l3] [vI s0] σ Q ↔ (if s0 = 0 then Wp L d k_X_test 16 [l0, l1, l2, l3] [] σ Q else Wp L d k_X_test 7 [l0, l1, l2, l3] [] σ Q) := wp_if_eq rfl
theorem r_X_test_7 : Wp L d k_X_test 7 [l0, l1, vI a2, l3] [] σ Q ↔ Wp L d k_X_test 8 [l0, l1, vI a2, l3] [vI a2] σ Q := wp_iload rfl rfl
theorem r_X_test_8 : Wp L d k_X_test 8 [l0, l1, l2, l3] [vI s0] σ Q ↔ Wp L d k_X_test 9 [l0, l1, l2, l3] [vI (-1), vI s0] σ Q := wp_push rfl
theorem r_X_test_9 : Wp L d k_X_test 9 [l0, l1, l2, l3] [vI s1, vI s0] σ Q ↔ Wp L d k_X_test 10 [l0, l1, l2, l3] [vI 1, vI s1, vI s0] σ Q := wp_push rfl
theorem r_X_test_13 : Wp L d k_X_test 13 [l0, l1, l2, l3] [vI s0] σ Q ↔ (if s0 ≠ 0 then Wp L d k_X_test 19 [l0, l1, l2, l3] [] σ Q else Wp L d k_X_test 16 [l0, l1, l2, l3] [] σ Q) := wp_if_ne rfl
theorem r_X_test_16 : Wp L d k_X_test 16 [l0, l1, l2, l3] [] σ Q ↔ Wp L d k_X_test 18 [l0, l1, l2, l3] [vI (-1000000001)] σ Q := wp_push rfl
theorem r_X_test_18 : Wp L d k_X_test 18 [l0, l1, l2, l3] [vI s0] σ Q ↔ Q (some (vI s0)) σ := wp_iret rfl
theorem r_X_test_19 : Wp L d k_X_test 19 [l0, l1, vI a2, l3] [] σ Q ↔ Wp L d k_X_test 20 [l0, l1, vI a2, l3] [vI a2] σ Q := wp_iload rfl rfl
theorem r_X_test_20 : Wp L d k_X_test 20 [l0, l1, l2, l3] [vI s0] σ Q ↔ Wp L d k_X_test 21 [l0, l1, l2, l3] [vI (-1), vI s0] σ Q := wp_push rfl
theorem r_X_test_21 : Wp L d k_X_test 21 [l0, l1, l2, l3] [vI s1, vI s0] σ Q ↔ (if s0 ≠ s1 then Wp L d k_X_test 35 [l0, l1, l2, l3] [] σ Q else Wp L d k_X_test 24 [l0, l1, l2, l3] [] σ Q) := wp_cmp_ne rfl
theorem r_X_test_24 : Wp L d k_X_test 24 [vR b0, l1, l2, l3] [] σ Q ↔ Wp L d k_X_test 25 [vR b0, l1, l2, l3] [vR b0] σ Q := wp_aload rfl rfl
theorem r_X_test_25 (h : gK c0 = 0) : Wp L d k_X_test 25 [l0, l1, l2, l3] [vR c0] σ Q ↔ Wp L d k_X_test 28 [l0, l1, l2, l3] [vR (gq c0 5)] σ Q := wp_getR (c := 133) rfl rfl rfl rfl rfl h
theorem r_X_test_28 : Wp L d k_X_test 28 [l0, vI a1, l2, l3] [vR c0] σ Q ↔ Wp L d k_X_test 29 [l0, vI a1, l2, l3] [vI a1, vR c0] σ Q := wp_iload rfl rfl
theorem r_X_test_29 : Wp L d k_X_test 29 [l0, l1, l2, l3] [vI s1, vR c0] σ Q ↔ Wp L d k_X_test 30 [l0, l1, l2, l3] [vI (-1), vI s1, vR c0] σ Q := wp_push rfl
theorem r_X_test_30 : Wp L d k_X_test 30 [l0, l1, l2, l3] [vI s2, vI s1, vR c0] σ Q ↔ Wp L d k_X_test 31 [l0, l1, l2, l3] [vI 0, vI s2, vI s1, vR c0] σ Q := wp_push rfl
theorem c_X_test_31 (hR : Run L d 172 [vR c0, vI s1, vI s2, vI s3] σ r σ1) (h : gK c0 = 9) : Wp L (d + 1) k_X_test 31 [l0, l1, l2, l3] [vI s3, vI s2, vI s1, vR c0] σ Q ↔ Wp L (d + 1) k_X_test 34 [l0, l1, l2, l3] (r.toList ++ []) σ1 Q := wp_callR (as := [vR c0, vI s1, vI s2, vI s3]) (rest := []) rfl rfl rfl rfl rfl rfl rfl (grecv_k (by rw [h]) rfl) hR
theorem r_X_test_34 : Wp L d k_X_test 34 [l0, l1, l2, l3] [vI s0] σ Q ↔ Q (some (vI s0)) σ := wp_iret rfl
theorem r_X_test_35 : Wp L d k_X_test 35 [l0, l1, l2, vI a3] [] σ Q ↔ Wp L d k_X_test 36 [l0, l1, l2, vI a3] [vI a3] σ Q := wp_iload rfl rfl
theorem r_X_test_36 : Wp L d k_X_test 36 [l0, l1, l2, l3] [vI s0] σ Q ↔ Wp L d k_X_test 38 [l0, l1, l2, l3] [vI 24, vI s0] σ Q := wp_push rfl
theorem r_X_test_38 : Wp L d k_X_test 38 [l0, l1, l2, l3] [vI s1, vI s0] σ Q ↔ (if s0 ≤ s1 then Wp L d k_X_test 44 [l0, l1, l2, l3] [] σ Q else Wp L d k_X_test 41 [l0, l1, l2, l3] [] σ Q) := wp_cmp_le rfl
theorem r_X_test_41 : Wp L d k_X_test 41 [l0, l1, l2, l3] [] σ Q ↔ Wp L d k_X_test 43 [l0, l1, l2, l3] [vI (-1000000001)] σ Q := wp_push rfl
theorem r_X_test_43 : Wp L d k_X_test 43 [l0, l1, l2, l3] [vI s0] σ Q ↔ Q (some (vI s0)) σ := wp_iret rfl
theorem r_X_test_44 : Wp L d k_X_test 44 [l0, l1, l2, vI a3] [] σ Q ↔ Wp L d k_X_test 45 [l0, l1, l2, vI a3] [vI a3] σ Q := wp_iload rfl rfl
theorem r_X_test_45 : Wp L d k_X_test 45 [l0, l1, l2, l3] [vI s0] σ Q ↔ (if 0 ≤ s0 then Wp L d k_X_test 54 [l0, l1, l2, l3] [] σ Q else Wp L d k_X_test 48 [l0, l1, l2, l3] [] σ Q) := wp_if_ge rfl
theorem r_X_test_48 : Wp L d k_X_test 48 [l0, l1, l2, l3] [] σ Q ↔ Wp L d k_X_test 51 [l0, l1, l2, l3] [vI (-1000000014)] σ Q := wp_push rfl
theorem r_X_test_51 : Wp L d k_X_test 51 [l0, l1, l2, l3] [vI s0] σ Q ↔ Wp L d k_X_test 64 [l0, l1, l2, l3] [vI s0] σ Q := wp_goto rfl
theorem r_X_test_54 : Wp L d k_X_test 54 [vR b0, l1, l2, l3] [] σ Q ↔ Wp L d k_X_test 55 [vR b0, l1, l2, l3] [vR b0] σ Q := wp_aload rfl rfl
theorem r_X_test_55 (h : gK c0 = 0) : Wp L d k_X_test 55 [l0, l1, l2, l3] [vR c0] σ Q ↔ Wp L d k_X_test 58 [l0, l1, l2, l3] [vR (gq c0 5)] σ Q := wp_getR (c := 133) rfl rfl rfl rfl rfl h
theorem r_X_test_58 : Wp L d k_X_test 58 [l0, vI a1, l2, l3] [vR c0] σ Q ↔ Wp L d k_X_test 59 [l0, vI a1, l2, l3] [vI a1, vR c0] σ Q := wp_iload rfl rfl
theorem r_X_test_59 : Wp L d k_X_test 59 [l0, l1, vI a2, l3] [vI s1, vR c0] σ Q ↔ Wp L d k_X_test 60 [l0, l1, vI a2, l3] [vI a2, vI s1, vR c0] σ Q := wp_iload rfl rfl
theorem r_X_test_60 : Wp L d k_X_test 60 [l0, l1, l2, vI a3] [vI s2, vI s1, vR c0] σ Q ↔ Wp L d k_X_test 61 [l0, l1, l2, vI a3] [vI a3, vI s2, vI s1, vR c0] σ Q := wp_iload rfl rfl
theorem c_X_test_61 (hR : Run L d 172 [vR c0, vI s1, vI s2, vI s3] σ r σ1) (h : gK c0 = 9) : Wp L (d + 1) k_X_test 61 [l0, l1, l2, l3] [vI s3, vI s2, vI s1, vR c0] σ Q ↔ Wp L (d + 1) k_X_test 64 [l0, l1, l2, l3] (r.toList ++ []) σ1 Q := wp_callR (as := [vR c0, vI s1, vI s2, vI s3]) (rest := []) rfl rfl rfl rfl rfl rfl rfl (grecv_k (by rw [h]) rfl) hR
theorem r_X_test_64 : Wp L d k_X_test 64 [l0, l1, l2, l3] [vI s0] σ Q ↔ Q (some (vI s0)) σ := wp_iret rfl
theorem r_X_test_1 : Wp L (d + 2) k_X_test 1 [l0, l1, l2, l3] [vI s0] σ Q ↔ Wp L (d + 2) k_X_test 4 [l0, l1, l2, l3] [vI (gb (0 ≤ s0 ∧ s0 ≤ 5))] σ Q := wp_callR (d := d + 1) (as := [vI s0]) (rest := []) rfl rfl rfl rfl rfl rfl rfl rfl (sp_X_isTest)
theorem r_X_test_10 : Wp L (d + 2) k_X_test 10 [l0, l1, l2, l3] [vI s2, vI s1, vI s0] σ Q ↔ Wp L (d + 2) k_X_test 13 [l0, l1, l2, l3] [vI (gb (s1 ≤ s0 ∧ s0 ≤ s2))] σ Q := wp_callR (d := d + 1) (as := [vI s0, vI s1, vI s2]) (rest := []) rfl rfl rfl rfl rfl rfl rfl rfl (sp_X_within)
theorem sp_X_test_b (h : ¬ ((0 ≤ a1 ∧ a1 ≤ 5) ∧ -1 ≤ a2 ∧ a2 ≤ 1)) : Run L (d + 2) 74 [vR 27, vI a1, vI a2, vI a3] σ (some (vI (-1000000001))) σ := by
  refine Run_of (C' := k_X_test) rfl ?_
  show Wp L (d + 2) k_X_test 0 [vR 27, vI a1, vI a2, vI a3] [] σ _
  obtain ⟨K27, K28, K29, K78, K97, K99, K109, K123, K125, K279, K282⟩ := litX
  by_cases e : 0 ≤ a1 ∧ a1 ≤ 5
  · simp (disch := first | assumption | exact gb_01 _ | omega) only [r_X_test_0, r_X_test_1, r_X_test_4, r_X_test_7, r_X_test_8, r_X_test_9, r_X_test_10, r_X_test_13, r_X_test_16, r_X_test_18, gq_27_0, gq_27_1, gq_27_2, gq_27_3, gq_27_4, gq_27_5, gq_27_6, gq_28_0, gq_28_1, gq_28_2, gq_28_3, gq_28_4, gq_28_5, gq_28_6, w32_gb, w32i, tn_add, tn_mul, Int.toNat_natCast, Int.toNat_zero, Int.reduceLE, Int.reduceLT, Int.reduceEq, Int.reduceNe, gb_T, gb_F, Int.reduceToNat, eq_self, true_or, or_true, and_true, true_and, and_self, ↓ite_gb0, ↓ite_gbn, ↓if_pos, ↓if_neg, if_true, if_false, not_true_eq_false, not_false_eq_true, gb_ne0, gb_eq0]
  · simp (disch := first | assumption | exact gb_01 _ | omega) only [r_X_test_0, r_X_test_1, r_X_test_4, r_X_test_7, r_X_test_8, r_X_test_9, r_X_test_10, r_X_test_13, r_X_test_16, r_X_test_18, gq_27_0, gq_27_1, gq_27_2, gq_27_3, gq_27_4, gq_27_5, gq_27_6, gq_28_0, gq_28_1, gq_28_2, gq_28_3, gq_28_4, gq_28_5, gq_28_6, w32_gb, w32i, tn_add, tn_mul, Int.toNat_natCast, Int.toNat_zero, Int.reduceLE, Int.reduceLT, Int.reduceEq, Int.reduceNe, gb_T, gb_F, Int.reduceToNat, eq_self, true_or, or_true, and_true, true_and, and_self, ↓ite_gb0, ↓ite_gbn, ↓if_pos, ↓if_neg, if_true, if_false, not_true_eq_false, not_false_eq_true, gb_ne0, gb_eq0]
theorem sp_X_test_c (h : (0 ≤ a1 ∧ a1 ≤ 5) ∧ -1 ≤ a2 ∧ a2 ≤ 1) (h2 : 0 ≤ a2) (h3 : 24 < a3) : Run L (d + 2) 74 [vR 27, vI a1, vI a2, vI a3] σ (some (vI (-1000000001))) σ := by
  refine Run_of (C' := k_X_test) rfl ?_
  show Wp L (d + 2) k_X_test 0 [vR 27, vI a1, vI a2, vI a3] [] σ _
  obtain ⟨K27, K28, K29, K78, K97, K99, K109, K123, K125, K279, K282⟩ := litX
  simp (disch := first | assumption | exact gb_01 _ | omega) only [r_X_test_0, r_X_test_1, r_X_test_4, r_X_test_7, r_X_test_8, r_X_test_9, r_X_test_10, r_X_test_13, r_X_test_16, r_X_test_18, r_X_test_19, r_X_test_20, r_X_test_21, r_X_test_24, r_X_test_25, r_X_test_28, r_X_test_29, r_X_test_30, r_X_test_34, r_X_test_35, r_X_test_36, r_X_test_38, r_X_test_41, r_X_test_43, r_X_test_44, r_X_test_45, r_X_test_48, r_X_test_51, gq_27_0, gq_27_1, gq_27_2, gq_27_3, gq_27_4, gq_27_5, gq_27_6, gq_28_0, gq_28_1, gq_28_2, gq_28_3, gq_28_4, gq_28_5, gq_28_6, w32_gb, w32i, tn_add, tn_mul, Int.toNat_natCast, Int.toNat_zero, Int.reduceLE, Int.reduceLT, Int.reduceEq, Int.reduceNe, gb_T, gb_F, Int.reduceToNat, eq_self, true_or, or_true, and_true, true_and, and_self, ↓ite_gb0, ↓ite_gbn, ↓if_pos, ↓if_neg, if_true, if_false, not_true_eq_false, not_false_eq_true, gb_ne0, gb_eq0]
theorem sp_X_test_s (h : (0 ≤ a1 ∧ a1 ≤ 5) ∧ -1 ≤ a2 ∧ a2 ≤ 1) (h2 : 0 ≤ a2) (h3 : a3 < 0) : Run L (d + 2) 74 [vR 27, vI a1, vI a2, vI a3] σ (some (vI (-1000000014))) σ := by
  refine Run_of (C' := k_X_test) rfl ?_
  show Wp L (d + 2) k_X_test 0 [vR 27, vI a1, vI a2, vI a3] [] σ _
  obtain ⟨K27, K28, K29, K78, K97, K99, K109, K123, K125, K279, K282⟩ := litX
  simp (disch := first | assumption | exact gb_01 _ | omega) only [r_X_test_0, r_X_test_1, r_X_test_4, r_X_test_7, r_X_test_8, r_X_test_9, r_X_test_10, r_X_test_13, r_X_test_16, r_X_test_18, r_X_test_19, r_X_test_20, r_X_test_21, r_X_test_24, r_X_test_25, r_X_test_28, r_X_test_29, r_X_test_30, r_X_test_34, r_X_test_35, r_X_test_36, r_X_test_38, r_X_test_41, r_X_test_43, r_X_test_44, r_X_test_45, r_X_test_48, r_X_test_51, r_X_test_54, r_X_test_55, r_X_test_58, r_X_test_59, r_X_test_60, r_X_test_64, gq_27_0, gq_27_1, gq_27_2, gq_27_3, gq_27_4, gq_27_5, gq_27_6, gq_28_0, gq_28_1, gq_28_2, gq_28_3, gq_28_4, gq_28_5, gq_28_6, w32_gb, w32i, tn_add, tn_mul, Int.toNat_natCast, Int.toNat_zero, Int.reduceLE, Int.reduceLT, Int.reduceEq, Int.reduceNe, gb_T, gb_F, Int.reduceToNat, eq_self, true_or, or_true, and_true, true_and, and_self, ↓ite_gb0, ↓ite_gbn, ↓if_pos, ↓if_neg, if_true, if_false, not_true_eq_false, not_false_eq_true, gb_ne0, gb_eq0]
theorem r_M_test_III_0 : Wp L d k_M_test_III 0 [l0, vI a1, l2, l3, l4] [] σ Q ↔ Wp L d k_M_test_III 1 [l0, vI a1, l2, l3, l4] [vI a1] σ Q := wp_iload rfl rfl
theorem r_M_test_III_4 : Wp L d k_M_test_III 4 [l0, l1, l2, l3, l4] [vI s0] σ Q ↔ (if s0 = 0 then Wp L d k_M_test_III 29 [l0, l1, l2, l3, l4] [] σ Q else Wp L d k_M_test_III 7 [l0, l1, l2, l3, l4] [] σ Q) := wp_if_eq rfl
theorem r_M_test_III_7 : Wp L d k_M_test_III 7 [l0, l1, vI a2, l3, l4] [] σ Q ↔ Wp L d k_M_test_III 8 [l0, l1, vI a2, l3, l4] [vI a2] σ Q := wp_iload rfl rfl
theorem r_M_test_III_8 : Wp L d k_M_test_III 8 [l0, l1, l2, l3, l4] [vI s0] σ Q ↔ Wp L d k_M_test_III 9 [l0, l1, l2, l3, l4] [vL s0] σ Q := wp_i2l rfl
theorem r_M_test_III_9 : Wp L d k_M_test_III 9 [l0, l1, l2, l3, l4] [vL s0] σ Q ↔ Wp L d k_M_test_III 12 [l0, l1, l2, l3, l4] [vL (-1), vL s0] σ Q := wp_pushL rfl
theorem r_M_test_III_12 : Wp L d k_M_test_III 12 [l0, l1, l2, l3, l4] [vL s1, vL s0] σ Q ↔ Wp L d k_M_test_III 13 [l0, l1, l2, l3, l4] [vL 1, vL s1, vL s0] σ Q := wp_pushL rfl
theorem r_M_test_III_16 : Wp L d k_M_test_III 16 [l0, l1, l2, l3, l4] [vI s0] σ Q ↔ (if s0 = 0 then Wp L d k_M_test_III 29 [l0, l1, l2, l3, l4] [] σ Q else Wp L d k_M_test_III 19 [l0, l1, l2, l3, l4] [] σ Q) := wp_if_eq rfl
theorem r_M_test_III_19 : Wp L d k_M_test_III 19 [l0, l1, vI a2, l3, l4] [] σ Q ↔ Wp L d k_M_test_III 20 [l0, l1, vI a2, l3, l4] [vI a2] σ Q := wp_iload rfl rfl
theorem r_M_test_III_20 : Wp L d k_M_test_III 20 [l0, l1, l2, l3, l4] [vI s0] σ Q ↔ (if s0 < 0 then Wp L d k_M_test_III 32 [l0, l1, l2, l3, l4] [] σ Q else Wp L d k_M_test_III 23 [l0, l1, l2, l3, l4] [] σ Q) := wp_if_lt rfl
theorem r_M_test_III_23 : Wp L d k_M_test_III 23 [l0, l1, l2, vI a3, l4] [] σ Q ↔ Wp L d k_M_test_III 24 [l0, l1, l2, vI a3, l4] [vI a3] σ Q := wp_iload rfl rfl
theorem r_M_test_III_24 : Wp L d k_M_test_III 24 [l0, l1, l2, l3, l4] [vI s0] σ Q ↔ Wp L d k_M_test_III 26 [l0, l1, l2, l3, l4] [vI 24, vI s0] σ Q := wp_push rfl
theorem r_M_test_III_26 : Wp L d k_M_test_III 26 [l0, l1, l2, l3, l4] [vI s1, vI s0] σ Q ↔ (if s0 ≤ s1 then Wp L d k_M_test_III 32 [l0, l1, l2, l3, l4] [] σ Q else Wp L d k_M_test_III 29 [l0, l1, l2, l3, l4] [] σ Q) := wp_cmp_le rfl
theorem r_M_test_III_29 : Wp L d k_M_test_III 29 [l0, l1, l2, l3, l4] [] σ Q ↔ Wp L d k_M_test_III 31 [l0, l1, l2, l3, l4] [vI (-1000000001)] σ Q := wp_push rfl
theorem r_M_test_III_31 : Wp L d k_M_test_III 31 [l0, l1, l2, l3, l4] [vI s0] σ Q ↔ Q (some (vI s0)) σ := wp_iret rfl
theorem r_M_test_III_32 : Wp L d k_M_test_III 32 [l0, l1, vI a2, l3, l4] [] σ Q ↔ Wp L d k_M_test_III 33 [l0, l1, vI a2, l3, l4] [vI a2] σ Q := wp_iload rfl rfl
theorem r_M_test_III_33 : Wp L d k_M_test_III 33 [l0, l1, l2, l3, l4] [vI s0] σ Q ↔ (if s0 < 0 then Wp L d k_M_test_III 44 [l0, l1, l2, l3, l4] [] σ Q else Wp L d k_M_test_III 36 [l0, l1, l2, l3, l4] [] σ Q) := wp_if_lt rfl
theorem r_M_test_III_36 : Wp L d k_M_test_III 36 [l0, l1, l2, vI a3, l4] [] σ Q ↔ Wp L d k_M_test_III 37 [l0, l1, l2, vI a3, l4] [vI a3] σ Q := wp_iload rfl rfl
theorem r_M_test_III_37 : Wp L d k_M_test_III 37 [l0, l1, l2, l3, l4] [vI s0] σ Q ↔ (if 0 ≤ s0 then Wp L d k_M_test_III 44 [l0, l1, l2, l3, l4] [] σ Q else Wp L d k_M_test_III 40 [l0, l1, l2, l3, l4] [] σ Q) := wp_if_ge rfl
theorem r_M_test_III_40 : Wp L d k_M_test_III 40 [l0, l1, l2, l3, l4] [] σ Q ↔ Wp L d k_M_test_III 43 [l0, l1, l2, l3, l4] [vI (-1000000014)] σ Q := wp_push rfl
theorem r_M_test_III_43 : Wp L d k_M_test_III 43 [l0, l1, l2, l3, l4] [vI s0] σ Q ↔ Q (some (vI s0)) σ := wp_iret rfl
theorem r_M_test_III_44 : Wp L d k_M_test_III 44 [vR b0, l1, l2, l3, l4] [] σ Q ↔ Wp L d k_M_test_III 45 [vR b0, l1, l2, l3, l4] [vR b0] σ Q := wp_aload rfl rfl
theorem r_M_test_III_45 (h : gK c0 = 12) : Wp L d k_M_test_III 45 [l0, l1, l2, l3, l4] [vR c0] σ Q ↔ Wp L d k_M_test_III 48 [l0, l1, l2, l3, l4] [vR (gq c0 4)] σ Q := wp_getR (c := 3204) rfl rfl rfl rfl rfl h
theorem r_M_test_III_48 : Wp L d k_M_test_III 48 [l0, vI a1, l2, l3, l4] [vR c0] σ Q ↔ Wp L d k_M_test_III 49 [l0, vI a1, l2, l3, l4] [vI a1, vR c0] σ Q := wp_iload rfl rfl
theorem r_M_test_III_49 : Wp L d k_M_test_III 49 [l0, l1, vI a2, l3, l4] [vI s1, vR c0] σ Q ↔ Wp L d k_M_test_III 50 [l0, l1, vI a2, l3, l4] [vI a2, vI s1, vR c0] σ Q := wp_iload rfl rfl
theorem r_M_test_III_50 (h : gK c0 = 100) (hx : 0 ≤ s1 ∧ s1 < gN c0) : Wp L d k_M_test_III 50 [l0, l1, l2, l3, l4] [vI s2, vI s1, vR c0] σ Q ↔ Wp L d k_M_test_III 51 [l0, l1, l2, l3, l4] [] (gupd σ c0 s1.toNat s2) Q := wp_iast rfl h hx
theorem r_M_test_III_51 : Wp L d k_M_test_III 51 [vR b0, l1, l2, l3, l4] [] σ Q ↔ Wp L d k_M_test_III 52 [vR b0, l1, l2, l3, l4] [vR b0] σ Q := wp_aload rfl rfl
theorem r_M_test_III_52 (h : gK c0 = 12) : Wp L d k_M_test_III 52 [l0, l1, l2, l3, l4] [vR c0] σ Q ↔ Wp L d k_M_test_III 55 [l0, l1, l2, l3, l4] [vR (gq c0 5)] σ Q := wp_getR (c := 3205) rfl rfl rfl rfl rfl h
theorem r_M_test_III_55 : Wp L d k_M_test_III 55 [l0, vI a1, l2, l3, l4] [vR c0] σ Q ↔ Wp L d k_M_test_III 56 [l0, vI a1, l2, l3, l4] [vI a1, vR c0] σ Q := wp_iload rfl rfl
theorem r_M_test_III_56 : Wp L d k_M_test_III 56 [l0, l1, vI a2, l3, l4] [vI s1, vR c0] σ Q ↔ Wp L d k_M_test_III 57 [l0, l1, vI a2, l3, l4] [vI a2, vI s1, vR c0] σ Q := wp_iload rfl rfl
theorem r_M_test_III_57 : Wp L d k_M_test_III 57 [l0, l1, l2, l3, l4] [vI s2, vI s1, vR c0] σ Q ↔ (if 0 ≤ s2 then Wp L d k_M_test_III 64 [l0, l1, l2, l3, l4] [vI s1, vR c0] σ Q else Wp L d k_M_test_III 60 [l0, l1, l2, l3, l4] [vI s1, vR c0] σ Q) := wp_if_ge rfl
theorem r_M_test_III_60 : Wp L d k_M_test_III 60 [l0, l1, l2, l3, l4] [vI s1, vR c0] σ Q ↔ Wp L d k_M_test_III 61 [l0, l1, l2, l3, l4] [vI 0, vI s1, vR c0] σ Q := wp_push rfl
theorem r_M_test_III_61 : Wp L d k_M_test_III 61 [l0, l1, l2, l3, l4] [vI s2, vI s1, vR c0] σ Q ↔ Wp L d k_M_test_III 65 [l0, l1, l2, l3, l4] [vI s2, vI s1, vR c0] σ Q := wp_goto rfl
theorem r_M_test_III_64 : Wp L d k_M_test_III 64 [l0, l1, l2, vI a3, l4] [vI s1, vR c0] σ Q ↔ Wp L d k_M_test_III 65 [l0, l1, l2, vI a3, l4] [vI a3, vI s1, vR c0] σ Q := wp_iload rfl rfl
theorem r_M_test_III_65 (h : gK c0 = 100) (hx : 0 ≤ s1 ∧ s1 < gN c0) : Wp L d k_M_test_III 65 [l0, l1, l2, l3, l4] [vI s2, vI s1, vR c0] σ Q ↔ Wp L d k_M_test_III 66 [l0, l1, l2, l3, l4] [] (gupd σ c0 s1.toNat s2) Q := wp_iast rfl h hx
theorem r_M_test_III_66 : Wp L d k_M_test_III 66 [l0, l1, l2, l3, l4] [] σ Q ↔ Wp L d k_M_test_III 67 [l0, l1, l2, l3, l4] [vI 0] σ Q := wp_push rfl
theorem r_M_test_III_67 : Wp L d k_M_test_III 67 [l0, l1, l2, vI a3, l4] [vI s0] σ Q ↔ Wp L d k_M_test_III 69 [l0, l1, l2, vI a3, vI s0] [] σ Q := wp_istore (i := 4) (ls := [l0, l1, l2, vI a3, l4]) rfl rfl
theorem r_M_test_III_69 : Wp L d k_M_test_III 69 [l0, l1, l2, l3, vI a4] [] σ Q ↔ Wp L d k_M_test_III 71 [l0, l1, l2, l3, vI a4] [vI a4] σ Q := wp_iload rfl rfl
theorem r_M_test_III_71 : Wp L d k_M_test_III 71 [l0, l1, l2, l3, l4] [vI s0] σ Q ↔ Wp L d k_M_test_III 73 [l0, l1, l2, l3, l4] [vI 24, vI s0] σ Q := wp_push rfl
theorem r_M_test_III_73 : Wp L d k_M_test_III 73 [l0, l1, l2, l3, l4] [vI s1, vI s0] σ Q ↔ (if s1 ≤ s0 then Wp L d k_M_test_III 95 [l0, l1, l2, l3, l4] [] σ Q else Wp L d k_M_test_III 76 [l0, l1, l2, l3, l4] [] σ Q) := wp_cmp_ge rfl
theorem r_M_test_III_76 : Wp L d k_M_test_III 76 [vR b0, l1, l2, l3, l4] [] σ Q ↔ Wp L d k_M_test_III 77 [vR b0, l1, l2, l3, l4] [vR b0] σ Q := wp_aload rfl rfl
theorem r_M_test_III_77 (h : gK c0 = 12) : Wp L d k_M_test_III 77 [l0, l1, l2, l3, l4] [vR c0] σ Q ↔ Wp L d k_M_test_III 80 [l0, l1, l2, l3, l4] [vR (gq c0 6)] σ Q := wp_getR (c := 3206) rfl rfl rfl rfl rfl h
theorem r_M_test_III_80 : Wp L d k_M_test_III 80 [l0, l1, l2, l3, l4] [vR c0] σ Q ↔ Wp L d k_M_test_III 82 [l0, l1, l2, l3, l4] [vI 24, vR c0] σ Q := wp_push rfl
theorem r_M_test_III_82 : Wp L d k_M_test_III 82 [l0, vI a1, l2, l3, l4] [vI s1, vR c0] σ Q ↔ Wp L d k_M_test_III 83 [l0, vI a1, l2, l3, l4] [vI a1, vI s1, vR c0] σ Q := wp_iload rfl rfl
theorem r_M_test_III_83 : Wp L d k_M_test_III 83 [l0, l1, l2, l3, l4] [vI s2, vI s1, vR c0] σ Q ↔ Wp L d k_M_test_III 84 [l0, l1, l2, l3, l4] [vI (w32 (s1 * s2)), vR c0] σ Q := wp_imul rfl
theorem r_M_test_III_84 : Wp L d k_M_test_III 84 [l0, l1, l2, l3, vI a4] [vI s1, vR c0] σ Q ↔ Wp L d k_M_test_III 86 [l0, l1, l2, l3, vI a4] [vI a4, vI s1, vR c0] σ Q := wp_iload rfl rfl
theorem r_M_test_III_86 : Wp L d k_M_test_III 86 [l0, l1, l2, l3, l4] [vI s2, vI s1, vR c0] σ Q ↔ Wp L d k_M_test_III 87 [l0, l1, l2, l3, l4] [vI (w32 (s1 + s2)), vR c0] σ Q := wp_iadd rfl
theorem r_M_test_III_87 : Wp L d k_M_test_III 87 [l0, l1, l2, l3, l4] [vI s1, vR c0] σ Q ↔ Wp L d k_M_test_III 88 [l0, l1, l2, l3, l4] [vI 0, vI s1, vR c0] σ Q := wp_push rfl
theorem r_M_test_III_88 (h : gK c0 = 100) (hx : 0 ≤ s1 ∧ s1 < gN c0) : Wp L d k_M_test_III 88 [l0, l1, l2, l3, l4] [vI s2, vI s1, vR c0] σ Q ↔ Wp L d k_M_test_III 89 [l0, l1, l2, l3, l4] [] (gupd σ c0 s1.toNat s2) Q := wp_iast rfl h hx
theorem r_M_test_III_89 : Wp L d k_M_test_III 89 [l0, l1, l2, vI a3, vI a4] [] σ Q ↔ Wp L d k_M_test_III 92 [l0, l1, l2, vI a3, vI (w32 (a4 + 1))] [] σ Q := wp_iinc (i := 4) (ls := [l0, l1, l2, vI a3, vI a4]) rfl rfl
theorem r_M_test_III_92 : Wp L d k_M_test_III 92 [l0, l1, l2, l3, l4] [] σ Q ↔ Wp L d k_M_test_III 69 [l0, l1, l2, l3, l4] [] σ Q := wp_goto rfl
theorem r_M_test_III_95 : Wp L d k_M_test_III 95 [vR b0, l1, l2, l3, l4] [] σ Q ↔ Wp L d k_M_test_III 96 [vR b0, l1, l2, l3, l4] [vR b0] σ Q := wp_aload rfl rfl
theorem r_M_test_III_96 (h : gK c0 = 12) : Wp L d k_M_test_III 96 [l0, l1, l2, l3, l4] [vR c0] σ Q ↔ Wp L d k_M_test_III 99 [l0, l1, l2, l3, l4] [vR (gq c0 5)] σ Q := wp_getR (c := 3205) rfl rfl rfl rfl rfl h
theorem r_M_test_III_99 : Wp L d k_M_test_III 99 [l0, vI a1, l2, l3, l4] [vR c0] σ Q ↔ Wp L d k_M_test_III 100 [l0, vI a1, l2, l3, l4] [vI a1, vR c0] σ Q := wp_iload rfl rfl
theorem r_M_test_III_100 (h : gK c0 = 100) (hx : 0 ≤ s1 ∧ s1 < gN c0) : Wp L d k_M_test_III 100 [l0, l1, l2, l3, l4] [vI s1, vR c0] σ Q ↔ Wp L d k_M_test_III 101 [l0, l1, l2, l3, l4] [vI (σ c0 s1.toNat)] σ Q := wp_iald rfl h hx
theorem r_M_test_III_101 : Wp L d k_M_test_III 101 [l0, l1, l2, l3, l4] [vI s0] σ Q ↔ Q (some (vI s0)) σ := wp_iret rfl
theorem r_M_test_III_1 : Wp L (d + 2) k_M_test_III 1 [l0, l1, l2, l3, l4] [vI s0] σ Q ↔ Wp L (d + 2) k_M_test_III 4 [l0, l1, l2, l3, l4] [vI (gb (0 ≤ s0 ∧ s0 ≤ 5))] σ Q := wp_callR (d := d + 1) (as := [vI s0]) (rest := []) rfl rfl rfl rfl rfl rfl rfl rfl (sp_M_isTest)
theorem r_M_test_III_13 : Wp L (d + 2) k_M_test_III 13 [l0, l1, l2, l3, l4] [vL s2, vL s1, vL s0] σ Q ↔ Wp L (d + 2) k_M_test_III 16 [l0, l1, l2, l3, l4] [vI (gb (s1 ≤ s0 ∧ s0 ≤ s2))] σ Q := wp_callR (d := d + 1) (as := [vL s0, vL s1, vL s2]) (rest := []) rfl rfl rfl rfl rfl rfl rfl rfl (sp_M_isIn)
theorem sp_M_test_III_b (h : ¬ ((0 ≤ a1 ∧ a1 ≤ 5) ∧ -1 ≤ a2 ∧ a2 ≤ 1) ∨ 0 ≤ a2 ∧ 24 < a3) : Run L (d + 2) 303 [vR 293, vI a1, vI a2, vI a3] σ (some (vI (-1000000001))) σ := by
  refine Run_of (C' := k_M_test_III) rfl ?_
  show Wp L (d + 2) k_M_test_III 0 [vR 293, vI a1, vI a2, vI a3, vU] [] σ _
  obtain ⟨K293, Q293, K294, N294⟩ := litM
  by_cases e : 0 ≤ a1 ∧ a1 ≤ 5
  · by_cases e2 : -1 ≤ a2 ∧ a2 ≤ 1
    · simp (disch := first | assumption | exact gb_01 _ | omega) only [r_M_test_III_0, r_M_test_III_1, r_M_test_III_4, r_M_test_III_7, r_M_test_III_8, r_M_test_III_9, r_M_test_III_12, r_M_test_III_13, r_M_test_III_16, r_M_test_III_19, r_M_test_III_20, r_M_test_III_23, r_M_test_III_24, r_M_test_III_26, r_M_test_III_29, r_M_test_III_31, Q293, w32_gb, w32i, tn_add, tn_mul, Int.toNat_natCast, Int.toNat_zero, Int.reduceLE, Int.reduceLT, Int.reduceEq, Int.reduceNe, gb_T, gb_F, Int.reduceToNat, eq_self, true_or, or_true, and_true, true_and, and_self, ↓ite_gb0, ↓ite_gbn, ↓if_pos, ↓if_neg, if_true, if_false, not_true_eq_false, not_false_eq_true, gb_ne0, gb_eq0]
    · simp (disch := first | assumption | exact gb_01 _ | omega) only [r_M_test_III_0, r_M_test_III_1, r_M_test_III_4, r_M_test_III_7, r_M_test_III_8, r_M_test_III_9, r_M_test_III_12, r_M_test_III_13, r_M_test_III_16, r_M_test_III_19, r_M_test_III_20, r_M_test_III_23, r_M_test_III_24, r_M_test_III_26, r_M_test_III_29, r_M_test_III_31, Q293, w32_gb, w32i, tn_add, tn_mul, Int.toNat_natCast, Int.toNat_zero, Int.reduceLE, Int.reduceLT, Int.reduceEq, Int.reduceNe, gb_T, gb_F, Int.reduceToNat, eq_self, true_or, or_true, and_true, true_and, and_self, ↓ite_gb0, ↓ite_gbn, ↓if_pos, ↓if_neg, if_true, if_false, not_true_eq_false, not_false_eq_true, gb_ne0, gb_eq0]
  · simp (disch := first | assumption | exact gb_01 _ | omega) only [r_M_test_III_0, r_M_test_III_1, r_M_test_III_4, r_M_test_III_7, r_M_test_III_8, r_M_test_III_9, r_M_test_III_12, r_M_test_III_13, r_M_test_III_16, r_M_test_III_19, r_M_test_III_20, r_M_test_III_23, r_M_test_III_24, r_M_test_III_26, r_M_test_III_29, r_M_test_III_31, Q293, w32_gb, w32i, tn_add, tn_mul, Int.toNat_natCast, Int.toNat_zero, Int.reduceLE, Int.reduceLT, Int.reduceEq, Int.reduceNe, gb_T, gb_F, Int.reduceToNat, eq_self, true_or, or_true, and_true, true_and, and_self, ↓ite_gb0, ↓ite_gbn, ↓if_pos, ↓if_neg, if_true, if_false, not_true_eq_false, not_false_eq_true, gb_ne0, gb_eq0]
theorem sp_M_test_III_s (h : (0 ≤ a1 ∧ a1 ≤ 5) ∧ -1 ≤ a2 ∧ a2 ≤ 1) (h2 : 0 ≤ a2) (h3 : a3 < 0) : Run L (d + 2) 303 [vR 293, vI a1, vI a2, vI a3] σ (some (vI (-1000000014))) σ := by
  refine Run_of (C' := k_M_test_III) rfl ?_
  show Wp L (d + 2) k_M_test_III 0 [vR 293, vI a1, vI a2, vI a3, vU] [] σ _
  obtain ⟨K293, Q293, K294, N294⟩ := litM
  simp (disch := first | assumption | exact gb_01 _ | omega) only [r_M_test_III_0, r_M_test_III_1, r_M_test_III_4, r_M_test_III_7, r_M_test_III_8, r_M_test_III_9, r_M_test_III_12, r_M_test_III_13, r_M_test_III_16, r_M_test_III_19, r_M_test_III_20, r_M_test_III_23, r_M_test_III_24, r_M_test_III_26, r_M_test_III_29, r_M_test_III_31, r_M_test_III_32, r_M_test_III_33, r_M_test_III_36, r_M_test_III_37, r_M_test_III_40, r_M_test_III_43, r_M_test_III_44, r_M_test_III_45, r_M_test_III_48, r_M_test_III_49, r_M_test_III_50, r_M_test_III_51, r_M_test_III_52, r_M_test_III_55, r_M_test_III_56, r_M_test_III_57, r_M_test_III_60, r_M_test_III_61, r_M_test_III_64, r_M_test_III_65, Q293, w32_gb, w32i, tn_add, tn_mul, Int.toNat_natCast, Int.toNat_zero, Int.reduceLE, Int.reduceLT, Int.reduceEq, Int.reduceNe, gb_T, gb_F, Int.reduceToNat, eq_self, true_or, or_true, and_true, true_and, and_self, ↓ite_gb0, ↓ite_gbn, ↓if_pos, ↓if_neg, if_true, if_false, not_true_eq_false, not_false_eq_true, gb_ne0, gb_eq0]
theorem sp_X_test (h : (0 ≤ a1 ∧ a1 ≤ 5) ∧ -1 ≤ a2 ∧ a2 ≤ 1) (h2 : a2 = -1 ∨ 0 ≤ a3 ∧ a3 ≤ 24) : ∃ σ', Run L (d + 2) 74 [vR 27, vI a1, vI a2, vI a3] σ (some (vI (if a2 = -1 then 0 else a3))) σ' ∧ (σ' 290 a1.toNat = a2 ∧ σ' 291 a1.toNat = (if a2 = -1 then 0 else a3) ∧ ∀ j : Nat, j < 24 → σ' (284 + a1.toNat) j = 0) ∧ Agr σ σ' (fun k j => (k = 290 ∧ j = a1.toNat) ∨ (k = 291 ∧ j = a1.toNat) ∨ k = 284 + a1.toNat) := by
  refine Run_ex (C' := k_X_test) rfl ?_
  show Wp L (d + 2) k_X_test 0 [vR 27, vI a1, vI a2, vI a3] [] σ _
  obtain ⟨K27, K28, K29, K78, K97, K99, K109, K123, K125, K279, K282⟩ := litX
  by_cases e : a2 = -1
  · rw [if_pos e]
    obtain ⟨τ, hR, hh⟩ := sp_V_begin (L := L) (d := d + 1) (σ := σ) (a1 := a1) (a2 := -1) (a3 := 0) h.1
    simp (disch := first | assumption | exact gb_01 _ | omega) only [r_X_test_0, r_X_test_1, r_X_test_4, r_X_test_7, r_X_test_8, r_X_test_9, r_X_test_10, r_X_test_13, r_X_test_16, r_X_test_18, r_X_test_19, r_X_test_20, r_X_test_21, r_X_test_24, r_X_test_25, r_X_test_28, r_X_test_29, r_X_test_30, r_X_test_34, r_X_test_35, r_X_test_36, r_X_test_38, r_X_test_41, r_X_test_43, r_X_test_44, r_X_test_45, r_X_test_48, r_X_test_51, r_X_test_54, r_X_test_55, r_X_test_58, r_X_test_59, r_X_test_60, r_X_test_64, c_X_test_31 hR, Option.toList, List.singleton_append, List.cons_append, List.nil_append, List.append_nil, gq_27_0, gq_27_1, gq_27_2, gq_27_3, gq_27_4, gq_27_5, gq_27_6, gq_28_0, gq_28_1, gq_28_2, gq_28_3, gq_28_4, gq_28_5, gq_28_6, e, w32_gb, w32i, tn_add, tn_mul, Int.toNat_natCast, Int.toNat_zero, Int.reduceLE, Int.reduceLT, Int.reduceEq, Int.reduceNe, gb_T, gb_F, Int.reduceToNat, eq_self, true_or, or_true, and_true, true_and, and_self, ↓ite_gb0, ↓ite_gbn, ↓if_pos, ↓if_neg, if_true, if_false, not_true_eq_false, not_false_eq_true, gb_ne0, gb_eq0]
    exact hh
  · rw [if_neg e]
    obtain ⟨τ, hR, hh⟩ := sp_V_begin (L := L) (d := d + 1) (σ := σ) (a1 := a1) (a2 := a2) (a3 := a3) h.1
    simp (disch := first | assumption | exact gb_01 _ | omega) only [r_X_test_0, r_X_test_1, r_X_test_4, r_X_test_7, r_X_test_8, r_X_test_9, r_X_test_10, r_X_test_13, r_X_test_16, r_X_test_18, r_X_test_19, r_X_test_20, r_X_test_21, r_X_test_24, r_X_test_25, r_X_test_28, r_X_test_29, r_X_test_30, r_X_test_34, r_X_test_35, r_X_test_36, r_X_test_38, r_X_test_41, r_X_test_43, r_X_test_44, r_X_test_45, r_X_test_48, r_X_test_51, r_X_test_54, r_X_test_55, r_X_test_58, r_X_test_59, r_X_test_60, r_X_test_64, c_X_test_61 hR, Option.toList, List.singleton_append, List.cons_append, List.nil_append, List.append_nil, gq_27_0, gq_27_1, gq_27_2, gq_27_3, gq_27_4, gq_27_5, gq_27_6, gq_28_0, gq_28_1, gq_28_2, gq_28_3, gq_28_4, gq_28_5, gq_28_6, w32_gb, w32i, tn_add, tn_mul, Int.toNat_natCast, Int.toNat_zero, Int.reduceLE, Int.reduceLT, Int.reduceEq, Int.reduceNe, gb_T, gb_F, Int.reduceToNat, eq_self, true_or, or_true, and_true, true_and, and_self, ↓ite_gb0, ↓ite_gbn, ↓if_pos, ↓if_neg, if_true, if_false, not_true_eq_false, not_false_eq_true, gb_ne0, gb_eq0]
    exact hh
theorem sp_M_test (h : (0 ≤ a1 ∧ a1 ≤ 5) ∧ -1 ≤ a2 ∧ a2 ≤ 1) (h2 : a2 = -1 ∨ 0 ≤ a3 ∧ a3 ≤ 24) : ∃ σ', Run L (d + 2) 303 [vR 293, vI a1, vI a2, vI a3] σ (some (vI (if a2 = -1 then 0 else a3))) σ' ∧ (σ' 297 a1.toNat = a2 ∧ σ' 298 a1.toNat = (if a2 = -1 then 0 else a3) ∧ ∀ j : Nat, j < 24 → σ' 299 (24 * a1.toNat + j) = 0) ∧ Agr σ σ' (fun k j => (k = 297 ∧ j = a1.toNat) ∨ (k = 298 ∧ j = a1.toNat) ∨ (k = 299 ∧ 24 * a1.toNat ≤ j ∧ j < 24 * a1.toNat + 24)) := by
  refine Run_ex (C' := k_M_test_III) rfl ?_
  show Wp L (d + 2) k_M_test_III 0 [vR 293, vI a1, vI a2, vI a3, vU] [] σ _
  obtain ⟨K293, Q293, K294, N294⟩ := litM
  obtain ⟨K282, K283, N283, K290, K291, N290, N291, K297, K298, K299, K305, N297, N298, N299, N305⟩ := litV
  have goal : ∀ n : Int, n = (if a2 = -1 then 0 else a3) → Wp L (d + 2) k_M_test_III 69 [vR 293, vI a1, vI a2, vI a3, vI 0] [] (gupd (gupd σ 297 a1.toNat a2) 298 a1.toNat n) (fun r' σ' => r' = some (vI (if a2 = -1 then 0 else a3)) ∧ (σ' 297 a1.toNat = a2 ∧ σ' 298 a1.toNat = (if a2 = -1 then 0 else a3) ∧ ∀ j : Nat, j < 24 → σ' 299 (24 * a1.toNat + j) = 0) ∧ Agr σ σ' (fun k j => (k = 297 ∧ j = a1.toNat) ∨ (k = 298 ∧ j = a1.toNat) ∨ (k = 299 ∧ 24 * a1.toNat ≤ j ∧ j < 24 * a1.toNat + 24))) := fun n hn => by
    rw [← hn]
    refine wloop (n := 24) (I := fun k ls τ => ls = [vR 293, vI a1, vI a2, vI a3, vI (k : Int)] ∧ (τ 297 a1.toNat = a2 ∧ τ 298 a1.toNat = n ∧ ∀ j : Nat, j < k → τ 299 (24 * a1.toNat + j) = 0) ∧ Agr σ τ (fun k j => (k = 297 ∧ j = a1.toNat) ∨ (k = 298 ∧ j = a1.toNat) ∨ (k = 299 ∧ 24 * a1.toNat ≤ j ∧ j < 24 * a1.toNat + 24))) (fun k ls τ hk hi hq => ?_) (fun ls τ hi => ?_) 24 0 (by omega) _ _ ⟨rfl, ⟨by rw [gupd_ne (by omega), gupd_eq], gupd_eq, fun j hj => by omega⟩, Agr_upd (Agr_upd (Agr_refl _ _) (by omega)) (by omega)⟩
    · obtain ⟨rfl, ⟨h1, h2, h3⟩, hA⟩ := hi
      rw [r_M_test_III_69]
      simp (disch := first | assumption | exact gb_01 _ | omega) only [r_M_test_III_0, r_M_test_III_1, r_M_test_III_4, r_M_test_III_7, r_M_test_III_8, r_M_test_III_9, r_M_test_III_12, r_M_test_III_13, r_M_test_III_16, r_M_test_III_19, r_M_test_III_20, r_M_test_III_23, r_M_test_III_24, r_M_test_III_26, r_M_test_III_29, r_M_test_III_31, r_M_test_III_32, r_M_test_III_33, r_M_test_III_36, r_M_test_III_37, r_M_test_III_40, r_M_test_III_43, r_M_test_III_44, r_M_test_III_45, r_M_test_III_48, r_M_test_III_49, r_M_test_III_50, r_M_test_III_51, r_M_test_III_52, r_M_test_III_55, r_M_test_III_56, r_M_test_III_57, r_M_test_III_60, r_M_test_III_61, r_M_test_III_64, r_M_test_III_65, r_M_test_III_66, r_M_test_III_67, r_M_test_III_71, r_M_test_III_73, r_M_test_III_76, r_M_test_III_77, r_M_test_III_80, r_M_test_III_82, r_M_test_III_83, r_M_test_III_84, r_M_test_III_86, r_M_test_III_87, r_M_test_III_88, r_M_test_III_89, r_M_test_III_92, r_M_test_III_95, r_M_test_III_96, r_M_test_III_99, r_M_test_III_100, r_M_test_III_101, gq_27_5, gq_282_0, gq_282_1, gq_282_2, gq_293_4, gq_293_5, gq_293_6, gq_293_24, w32_gb, w32i, tn_add, tn_mul, Int.toNat_natCast, Int.toNat_zero, Int.reduceLE, Int.reduceLT, Int.reduceEq, Int.reduceNe, gb_T, gb_F, Int.reduceToNat, eq_self, true_or, or_true, and_true, true_and, and_self, ↓ite_gb0, ↓ite_gbn, ↓if_pos, ↓if_neg, if_true, if_false, not_true_eq_false, not_false_eq_true, gb_ne0, gb_eq0]
      refine hq _ _ ⟨by simp only [List.cons.injEq, vI_inj, vR_inj, and_true, true_and]; omega, ⟨by rw [gupd_ne (by omega)]; exact h1, by rw [gupd_ne (by omega)]; exact h2, fun j hj => ?_⟩, Agr_upd hA (by omega)⟩
      by_cases e : j = k
      · rw [e, gupd_eq]
      · rw [gupd_ne (by omega)]
        exact h3 j (by omega)
    · obtain ⟨rfl, ⟨h1, h2, h3⟩, hA⟩ := hi
      rw [r_M_test_III_69]
      simp (disch := first | assumption | exact gb_01 _ | omega) only [r_M_test_III_0, r_M_test_III_1, r_M_test_III_4, r_M_test_III_7, r_M_test_III_8, r_M_test_III_9, r_M_test_III_12, r_M_test_III_13, r_M_test_III_16, r_M_test_III_19, r_M_test_III_20, r_M_test_III_23, r_M_test_III_24, r_M_test_III_26, r_M_test_III_29, r_M_test_III_31, r_M_test_III_32, r_M_test_III_33, r_M_test_III_36, r_M_test_III_37, r_M_test_III_40, r_M_test_III_43, r_M_test_III_44, r_M_test_III_45, r_M_test_III_48, r_M_test_III_49, r_M_test_III_50, r_M_test_III_51, r_M_test_III_52, r_M_test_III_55, r_M_test_III_56, r_M_test_III_57, r_M_test_III_60, r_M_test_III_61, r_M_test_III_64, r_M_test_III_65, r_M_test_III_66, r_M_test_III_67, r_M_test_III_71, r_M_test_III_73, r_M_test_III_76, r_M_test_III_77, r_M_test_III_80, r_M_test_III_82, r_M_test_III_83, r_M_test_III_84, r_M_test_III_86, r_M_test_III_87, r_M_test_III_88, r_M_test_III_89, r_M_test_III_92, r_M_test_III_95, r_M_test_III_96, r_M_test_III_99, r_M_test_III_100, r_M_test_III_101, gq_27_5, gq_282_0, gq_282_1, gq_282_2, gq_293_4, gq_293_5, gq_293_6, gq_293_24, h2, w32_gb, w32i, tn_add, tn_mul, Int.toNat_natCast, Int.toNat_zero, Int.reduceLE, Int.reduceLT, Int.reduceEq, Int.reduceNe, gb_T, gb_F, Int.reduceToNat, eq_self, true_or, or_true, and_true, true_and, and_self, ↓ite_gb0, ↓ite_gbn, ↓if_pos, ↓if_neg, if_true, if_false, not_true_eq_false, not_false_eq_true, gb_ne0, gb_eq0]
      exact ⟨⟨h1, h3⟩, hA⟩
  by_cases e : a2 = -1
  · have g := goal 0 (if_pos e).symm
    rw [if_pos e] at g ⊢
    simp (disch := first | assumption | exact gb_01 _ | omega) only [r_M_test_III_0, r_M_test_III_1, r_M_test_III_4, r_M_test_III_7, r_M_test_III_8, r_M_test_III_9, r_M_test_III_12, r_M_test_III_13, r_M_test_III_16, r_M_test_III_19, r_M_test_III_20, r_M_test_III_23, r_M_test_III_24, r_M_test_III_26, r_M_test_III_29, r_M_test_III_31, r_M_test_III_32, r_M_test_III_33, r_M_test_III_36, r_M_test_III_37, r_M_test_III_40, r_M_test_III_43, r_M_test_III_44, r_M_test_III_45, r_M_test_III_48, r_M_test_III_49, r_M_test_III_50, r_M_test_III_51, r_M_test_III_52, r_M_test_III_55, r_M_test_III_56, r_M_test_III_57, r_M_test_III_60, r_M_test_III_61, r_M_test_III_64, r_M_test_III_65, r_M_test_III_66, r_M_test_III_67, r_M_test_III_71, r_M_test_III_73, r_M_test_III_76, r_M_test_III_77, r_M_test_III_80, r_M_test_III_82, r_M_test_III_83, r_M_test_III_84, r_M_test_III_86, r_M_test_III_87, r_M_test_III_88, r_M_test_III_89, r_M_test_III_92, r_M_test_III_95, r_M_test_III_96, r_M_test_III_99, r_M_test_III_100, r_M_test_III_101, gq_27_5, gq_282_0, gq_282_1, gq_282_2, gq_293_4, gq_293_5, gq_293_6, gq_293_24, w32_gb, w32i, tn_add, tn_mul, Int.toNat_natCast, Int.toNat_zero, Int.reduceLE, Int.reduceLT, Int.reduceEq, Int.reduceNe, gb_T, gb_F, Int.reduceToNat, eq_self, true_or, or_true, and_true, true_and, and_self, ↓ite_gb0, ↓ite_gbn, ↓if_pos, ↓if_neg, if_true, if_false, not_true_eq_false, not_false_eq_true, gb_ne0, gb_eq0]
    exact g
  · have g := goal a3 (if_neg e).symm
    rw [if_neg e] at g ⊢
    simp (disch := first | assumption | exact gb_01 _ | omega) only [r_M_test_III_0, r_M_test_III_1, r_M_test_III_4, r_M_test_III_7, r_M_test_III_8, r_M_test_III_9, r_M_test_III_12, r_M_test_III_13, r_M_test_III_16, r_M_test_III_19, r_M_test_III_20, r_M_test_III_23, r_M_test_III_24, r_M_test_III_26, r_M_test_III_29, r_M_test_III_31, r_M_test_III_32, r_M_test_III_33, r_M_test_III_36, r_M_test_III_37, r_M_test_III_40, r_M_test_III_43, r_M_test_III_44, r_M_test_III_45, r_M_test_III_48, r_M_test_III_49, r_M_test_III_50, r_M_test_III_51, r_M_test_III_52, r_M_test_III_55, r_M_test_III_56, r_M_test_III_57, r_M_test_III_60, r_M_test_III_61, r_M_test_III_64, r_M_test_III_65, r_M_test_III_66, r_M_test_III_67, r_M_test_III_71, r_M_test_III_73, r_M_test_III_76, r_M_test_III_77, r_M_test_III_80, r_M_test_III_82, r_M_test_III_83, r_M_test_III_84, r_M_test_III_86, r_M_test_III_87, r_M_test_III_88, r_M_test_III_89, r_M_test_III_92, r_M_test_III_95, r_M_test_III_96, r_M_test_III_99, r_M_test_III_100, r_M_test_III_101, gq_27_5, gq_282_0, gq_282_1, gq_282_2, gq_293_4, gq_293_5, gq_293_6, gq_293_24, w32_gb, w32i, tn_add, tn_mul, Int.toNat_natCast, Int.toNat_zero, Int.reduceLE, Int.reduceLT, Int.reduceEq, Int.reduceNe, gb_T, gb_F, Int.reduceToNat, eq_self, true_or, or_true, and_true, true_and, and_self, ↓ite_gb0, ↓ite_gbn, ↓if_pos, ↓if_neg, if_true, if_false, not_true_eq_false, not_false_eq_true, gb_ne0, gb_eq0]
    exact g
theorem op_test (a1 a2 a3 : Int) : Op 74 303 [vI a1, vI a2, vI a3] := by
  intro L d σ hI
  have hT := iTs hI
  by_cases h : (0 ≤ a1 ∧ a1 ≤ 5) ∧ -1 ≤ a2 ∧ a2 ≤ 1
  · by_cases hb : 0 ≤ a2 ∧ 24 < a3
    · exact ⟨_, _, _, sp_X_test_c h hb.1 hb.2, sp_M_test_III_b (Or.inr hb), hI⟩
    · by_cases hs : 0 ≤ a2 ∧ a3 < 0
      · exact ⟨_, _, _, sp_X_test_s h hs.1 hs.2, sp_M_test_III_s h hs.1 hs.2, hI⟩
      · obtain ⟨σ1, hR1, ⟨x1, x2, x3⟩, hA1⟩ := sp_X_test (L := L) (d := d + 998) (σ := σ) (a1 := a1) (a2 := a2) (a3 := a3) h (by omega)
        obtain ⟨σ2, hR2, ⟨y1, y2, y3⟩, hA2⟩ := sp_M_test (L := L) (d := d + 998) (σ := σ1) (a1 := a1) (a2 := a2) (a3 := a3) h (by omega)
        refine ⟨_, _, _, hR1, hR2, ?_⟩
        have hA : Agr σ σ2 (fun k j => (284 ≤ k ∧ k ≤ 291) ∨ (297 ≤ k ∧ k ≤ 299)) := Agr_trans (Agr_mono hA1 (fun k j hk => by omega)) (Agr_mono hA2 (fun k j hk => by omega))
        refine Inv_mk (P := fun k j => (284 ≤ k ∧ k ≤ 291) ∨ (297 ≤ k ∧ k ≤ 299)) hI (hA) (Or.inl (fun k j hz hp => by unfold ZB at hz; omega)) (Or.inl (fun k j hz hp => by unfold ZT at hz; omega)) (Or.inl (fun k j hz hp => by unfold ZG at hz; omega)) (Or.inl (fun k j hz hp => by unfold ZS at hz; omega)) (Or.inl (fun k j hz hp => by unfold ZW at hz; omega)) (Or.inl (fun k j hz hp => by unfold ZP at hz; omega)) (Or.inl (fun k j hz hp => by unfold ZR ZK at hz; omega)) (Or.inl (fun k j hz hp => by unfold ZM at hz; omega)) (Or.inl (fun k j hz hp => by unfold ZTape at hz; omega)) (Or.inr ?_) (Or.inl (fun k j hz hp => by unfold ZWait at hz; omega)) (Or.inl (fun k j hz hp => by unfold ZImg at hz; omega))
        intro t ht
        obtain ⟨s1, s2, s3, s4, s5⟩ := hT t ht
        by_cases e : t = a1.toNat
        · rw [e]
          refine ⟨?_, ?_, fun _ => ?_, ?_, fun j hj => ?_⟩
          · rw [hA2 290 _ (by omega), x1, y1]
          · rw [y1]; omega
          · rw [hA2 291 _ (by omega), x2, y2]
          · rw [y2]
            split <;> omega
          · rw [hA2 (284 + a1.toNat) _ (by omega), x3 j hj, y3 j hj]
            omega
        · rw [hA2 290 t (by omega), hA1 290 t (by omega), hA2 297 t (by omega), hA1 297 t (by omega), hA2 291 t (by omega), hA1 291 t (by omega), hA2 298 t (by omega), hA1 298 t (by omega)]
          refine ⟨s1, s2, s3, s4, fun j hj => ?_⟩
          rw [hA2 (284 + t) j (by omega), hA1 (284 + t) j (by omega), hA2 299 (24 * t + j) (by omega), hA1 299 (24 * t + j) (by omega)]
          exact s5 j hj
  · exact ⟨_, _, _, sp_X_test_b h, sp_M_test_III_b (Or.inl h), hI⟩
theorem r_X_put_0 : Wp L d k_X_put 0 [vR b0, l1, l2, l3, l4] [] σ Q ↔ Wp L d k_X_put 1 [vR b0, l1, l2, l3, l4] [vR b0] σ Q := wp_aload rfl rfl
theorem r_X_put_1 : Wp L d k_X_put 1 [l0, vI a1, l2, l3, l4] [vR c0] σ Q ↔ Wp L d k_X_put 2 [l0, vI a1, l2, l3, l4] [vI a1, vR c0] σ Q := wp_iload rfl rfl
theorem r_X_put_2 : Wp L d k_X_put 2 [l0, l1, vI a2, l3, l4] [vI s1, vR c0] σ Q ↔ Wp L d k_X_put 3 [l0, l1, vI a2, l3, l4] [vI a2, vI s1, vR c0] σ Q := wp_iload rfl rfl
theorem r_X_put_6 : Wp L d k_X_put 6 [l0, l1, l2, vI a3, l4] [vI s0] σ Q ↔ Wp L d k_X_put 8 [l0, l1, l2, vI a3, vI s0] [] σ Q := wp_istore (i := 4) (ls := [l0, l1, l2, vI a3, l4]) rfl rfl
theorem r_X_put_8 : Wp L d k_X_put 8 [l0, l1, l2, l3, vI a4] [] σ Q ↔ Wp L d k_X_put 10 [l0, l1, l2, l3, vI a4] [vI a4] σ Q := wp_iload rfl rfl
theorem r_X_put_10 : Wp L d k_X_put 10 [l0, l1, l2, l3, l4] [vI s0] σ Q ↔ (if s0 ≠ 0 then Wp L d k_X_put 26 [l0, l1, l2, l3, l4] [] σ Q else Wp L d k_X_put 13 [l0, l1, l2, l3, l4] [] σ Q) := wp_if_ne rfl
theorem r_X_put_13 : Wp L d k_X_put 13 [vR b0, l1, l2, l3, l4] [] σ Q ↔ Wp L d k_X_put 14 [vR b0, l1, l2, l3, l4] [vR b0] σ Q := wp_aload rfl rfl
theorem r_X_put_14 (h : gK c0 = 0) : Wp L d k_X_put 14 [l0, l1, l2, l3, l4] [vR c0] σ Q ↔ Wp L d k_X_put 17 [l0, l1, l2, l3, l4] [vR (gq c0 5)] σ Q := wp_getR (c := 133) rfl rfl rfl rfl rfl h
theorem r_X_put_17 : Wp L d k_X_put 17 [l0, vI a1, l2, l3, l4] [vR c0] σ Q ↔ Wp L d k_X_put 18 [l0, vI a1, l2, l3, l4] [vI a1, vR c0] σ Q := wp_iload rfl rfl
theorem r_X_put_18 : Wp L d k_X_put 18 [l0, l1, vI a2, l3, l4] [vI s1, vR c0] σ Q ↔ Wp L d k_X_put 19 [l0, l1, vI a2, l3, l4] [vI a2, vI s1, vR c0] σ Q := wp_iload rfl rfl
theorem r_X_put_19 : Wp L d k_X_put 19 [l0, l1, l2, vI a3, l4] [vI s2, vI s1, vR c0] σ Q ↔ Wp L d k_X_put 20 [l0, l1, l2, vI a3, l4] [vI a3, vI s2, vI s1, vR c0] σ Q := wp_iload rfl rfl
theorem c_X_put_20 (hR : Run L d 173 [vR c0, vI s1, vI s2, vI s3] σ r σ1) (h : gK c0 = 9) : Wp L (d + 1) k_X_put 20 [l0, l1, l2, l3, l4] [vI s3, vI s2, vI s1, vR c0] σ Q ↔ Wp L (d + 1) k_X_put 23 [l0, l1, l2, l3, l4] (r.toList ++ []) σ1 Q := wp_callR (as := [vR c0, vI s1, vI s2, vI s3]) (rest := []) rfl rfl rfl rfl rfl rfl rfl (grecv_k (by rw [h]) rfl) hR
theorem r_X_put_23 : Wp L d k_X_put 23 [l0, l1, l2, l3, l4] [vI s0] σ Q ↔ Wp L d k_X_put 28 [l0, l1, l2, l3, l4] [vI s0] σ Q := wp_goto rfl
theorem r_X_put_26 : Wp L d k_X_put 26 [l0, l1, l2, l3, vI a4] [] σ Q ↔ Wp L d k_X_put 28 [l0, l1, l2, l3, vI a4] [vI a4] σ Q := wp_iload rfl rfl
theorem r_X_put_28 : Wp L d k_X_put 28 [l0, l1, l2, l3, l4] [vI s0] σ Q ↔ Q (some (vI s0)) σ := wp_iret rfl
theorem r_X_put_3 (hs : 0 ≤ s1 ∧ s1 ≤ 5 → σ 290 s1.toNat ≠ -1 → 0 ≤ σ 291 s1.toNat ∧ σ 291 s1.toNat ≤ 24) : Wp L (d + 3) k_X_put 3 [l0, l1, l2, l3, l4] [vI s2, vI s1, vR 27] σ Q ↔ Wp L (d + 3) k_X_put 6 [l0, l1, l2, l3, l4] [vI (gref (σ 290 s1.toNat) (σ 291 s1.toNat) s1 s2)] σ Q := wp_callR (d := d + 2) (as := [vR 27, vI s1, vI s2]) (rest := []) rfl rfl rfl rfl rfl rfl rfl (grecv_k (by rw [gK_27]) rfl) (sp_X_refusalOf hs)
theorem sp_X_put_r (hs : 0 ≤ a1 ∧ a1 ≤ 5 → σ 290 a1.toNat ≠ -1 → 0 ≤ σ 291 a1.toNat ∧ σ 291 a1.toNat ≤ 24) (h : ¬ gref (σ 290 a1.toNat) (σ 291 a1.toNat) a1 a2 = 0) : Run L (d + 3) 76 [vR 27, vI a1, vI a2, vI a3] σ (some (vI (gref (σ 290 a1.toNat) (σ 291 a1.toNat) a1 a2))) σ := by
  refine Run_of (C' := k_X_put) rfl ?_
  show Wp L (d + 3) k_X_put 0 [vR 27, vI a1, vI a2, vI a3, vU] [] σ _
  obtain ⟨K27, K28, K29, K78, K97, K99, K109, K123, K125, K279, K282⟩ := litX
  simp (disch := first | assumption | exact gb_01 _ | omega) only [r_X_put_0, r_X_put_1, r_X_put_2, r_X_put_3, r_X_put_6, r_X_put_8, r_X_put_10, r_X_put_13, r_X_put_14, r_X_put_17, r_X_put_18, r_X_put_19, r_X_put_23, r_X_put_26, r_X_put_28, gq_27_0, gq_27_1, gq_27_2, gq_27_3, gq_27_4, gq_27_5, gq_27_6, gq_28_0, gq_28_1, gq_28_2, gq_28_3, gq_28_4, gq_28_5, gq_28_6, w32_gb, w32i, tn_add, tn_mul, Int.toNat_natCast, Int.toNat_zero, Int.reduceLE, Int.reduceLT, Int.reduceEq, Int.reduceNe, gb_T, gb_F, Int.reduceToNat, eq_self, true_or, or_true, and_true, true_and, and_self, ↓ite_gb0, ↓ite_gbn, ↓if_pos, ↓if_neg, if_true, if_false, not_true_eq_false, not_false_eq_true, gb_ne0, gb_eq0]
theorem r_M_put_0 : Wp L d k_M_put 0 [vR b0, l1, l2, l3, l4] [] σ Q ↔ Wp L d k_M_put 1 [vR b0, l1, l2, l3, l4] [vR b0] σ Q := wp_aload rfl rfl
theorem r_M_put_1 : Wp L d k_M_put 1 [l0, vI a1, l2, l3, l4] [vR c0] σ Q ↔ Wp L d k_M_put 2 [l0, vI a1, l2, l3, l4] [vI a1, vR c0] σ Q := wp_iload rfl rfl
theorem r_M_put_2 : Wp L d k_M_put 2 [l0, l1, vI a2, l3, l4] [vI s1, vR c0] σ Q ↔ Wp L d k_M_put 3 [l0, l1, vI a2, l3, l4] [vI a2, vI s1, vR c0] σ Q := wp_iload rfl rfl
theorem r_M_put_6 : Wp L d k_M_put 6 [l0, l1, l2, vI a3, l4] [vI s0] σ Q ↔ Wp L d k_M_put 8 [l0, l1, l2, vI a3, vI s0] [] σ Q := wp_istore (i := 4) (ls := [l0, l1, l2, vI a3, l4]) rfl rfl
theorem r_M_put_8 : Wp L d k_M_put 8 [l0, l1, l2, l3, vI a4] [] σ Q ↔ Wp L d k_M_put 10 [l0, l1, l2, l3, vI a4] [vI a4] σ Q := wp_iload rfl rfl
theorem r_M_put_10 : Wp L d k_M_put 10 [l0, l1, l2, l3, l4] [vI s0] σ Q ↔ (if s0 = 0 then Wp L d k_M_put 16 [l0, l1, l2, l3, l4] [] σ Q else Wp L d k_M_put 13 [l0, l1, l2, l3, l4] [] σ Q) := wp_if_eq rfl
theorem r_M_put_13 : Wp L d k_M_put 13 [l0, l1, l2, l3, vI a4] [] σ Q ↔ Wp L d k_M_put 15 [l0, l1, l2, l3, vI a4] [vI a4] σ Q := wp_iload rfl rfl
theorem r_M_put_15 : Wp L d k_M_put 15 [l0, l1, l2, l3, l4] [vI s0] σ Q ↔ Q (some (vI s0)) σ := wp_iret rfl
theorem r_M_put_16 : Wp L d k_M_put 16 [vR b0, l1, l2, l3, l4] [] σ Q ↔ Wp L d k_M_put 17 [vR b0, l1, l2, l3, l4] [vR b0] σ Q := wp_aload rfl rfl
theorem r_M_put_17 (h : gK c0 = 12) : Wp L d k_M_put 17 [l0, l1, l2, l3, l4] [vR c0] σ Q ↔ Wp L d k_M_put 20 [l0, l1, l2, l3, l4] [vR (gq c0 4)] σ Q := wp_getR (c := 3204) rfl rfl rfl rfl rfl h
theorem r_M_put_20 : Wp L d k_M_put 20 [l0, vI a1, l2, l3, l4] [vR c0] σ Q ↔ Wp L d k_M_put 21 [l0, vI a1, l2, l3, l4] [vI a1, vR c0] σ Q := wp_iload rfl rfl
theorem r_M_put_21 (h : gK c0 = 100) (hx : 0 ≤ s1 ∧ s1 < gN c0) : Wp L d k_M_put 21 [l0, l1, l2, l3, l4] [vI s1, vR c0] σ Q ↔ Wp L d k_M_put 22 [l0, l1, l2, l3, l4] [vI (σ c0 s1.toNat)] σ Q := wp_iald rfl h hx
theorem r_M_put_22 : Wp L d k_M_put 22 [l0, l1, l2, l3, l4] [vI s0] σ Q ↔ Wp L d k_M_put 23 [l0, l1, l2, l3, l4] [vI 1, vI s0] σ Q := wp_push rfl
theorem r_M_put_23 : Wp L d k_M_put 23 [l0, l1, l2, l3, l4] [vI s1, vI s0] σ Q ↔ (if s0 ≠ s1 then Wp L d k_M_put 35 [l0, l1, l2, l3, l4] [] σ Q else Wp L d k_M_put 26 [l0, l1, l2, l3, l4] [] σ Q) := wp_cmp_ne rfl
theorem r_M_put_26 : Wp L d k_M_put 26 [l0, l1, l2, vI a3, l4] [] σ Q ↔ Wp L d k_M_put 27 [l0, l1, l2, vI a3, l4] [vI a3] σ Q := wp_iload rfl rfl
theorem r_M_put_27 : Wp L d k_M_put 27 [l0, l1, l2, l3, l4] [vI s0] σ Q ↔ Wp L d k_M_put 29 [l0, l1, l2, l3, l4] [vI (-1000000005), vI s0] σ Q := wp_push rfl
theorem r_M_put_29 : Wp L d k_M_put 29 [l0, l1, l2, l3, l4] [vI s1, vI s0] σ Q ↔ (if s0 ≠ s1 then Wp L d k_M_put 35 [l0, l1, l2, l3, l4] [] σ Q else Wp L d k_M_put 32 [l0, l1, l2, l3, l4] [] σ Q) := wp_cmp_ne rfl
theorem r_M_put_32 : Wp L d k_M_put 32 [l0, l1, l2, l3, l4] [] σ Q ↔ Wp L d k_M_put 34 [l0, l1, l2, l3, l4] [vI (-1000000012)] σ Q := wp_push rfl
theorem r_M_put_34 : Wp L d k_M_put 34 [l0, l1, l2, l3, l4] [vI s0] σ Q ↔ Q (some (vI s0)) σ := wp_iret rfl
theorem r_M_put_35 : Wp L d k_M_put 35 [vR b0, l1, l2, l3, l4] [] σ Q ↔ Wp L d k_M_put 36 [vR b0, l1, l2, l3, l4] [vR b0] σ Q := wp_aload rfl rfl
theorem r_M_put_36 (h : gK c0 = 12) : Wp L d k_M_put 36 [l0, l1, l2, l3, l4] [vR c0] σ Q ↔ Wp L d k_M_put 39 [l0, l1, l2, l3, l4] [vR (gq c0 4)] σ Q := wp_getR (c := 3204) rfl rfl rfl rfl rfl h
theorem r_M_put_39 : Wp L d k_M_put 39 [l0, vI a1, l2, l3, l4] [vR c0] σ Q ↔ Wp L d k_M_put 40 [l0, vI a1, l2, l3, l4] [vI a1, vR c0] σ Q := wp_iload rfl rfl
theorem r_M_put_40 (h : gK c0 = 100) (hx : 0 ≤ s1 ∧ s1 < gN c0) : Wp L d k_M_put 40 [l0, l1, l2, l3, l4] [vI s1, vR c0] σ Q ↔ Wp L d k_M_put 41 [l0, l1, l2, l3, l4] [vI (σ c0 s1.toNat)] σ Q := wp_iald rfl h hx
theorem r_M_put_41 : Wp L d k_M_put 41 [l0, l1, l2, l3, l4] [vI s0] σ Q ↔ (if s0 ≠ 0 then Wp L d k_M_put 67 [l0, l1, l2, l3, l4] [] σ Q else Wp L d k_M_put 44 [l0, l1, l2, l3, l4] [] σ Q) := wp_if_ne rfl
theorem r_M_put_44 : Wp L d k_M_put 44 [l0, l1, l2, vI a3, l4] [] σ Q ↔ Wp L d k_M_put 45 [l0, l1, l2, vI a3, l4] [vI a3] σ Q := wp_iload rfl rfl
theorem r_M_put_45 : Wp L d k_M_put 45 [l0, l1, l2, l3, l4] [vI s0] σ Q ↔ Wp L d k_M_put 47 [l0, l1, l2, l3, l4] [vI (-1000000005), vI s0] σ Q := wp_push rfl
theorem r_M_put_47 : Wp L d k_M_put 47 [l0, l1, l2, l3, l4] [vI s1, vI s0] σ Q ↔ (if s0 = s1 then Wp L d k_M_put 67 [l0, l1, l2, l3, l4] [] σ Q else Wp L d k_M_put 50 [l0, l1, l2, l3, l4] [] σ Q) := wp_cmp_eq rfl
theorem r_M_put_50 : Wp L d k_M_put 50 [l0, l1, l2, vI a3, l4] [] σ Q ↔ Wp L d k_M_put 51 [l0, l1, l2, vI a3, l4] [vI a3] σ Q := wp_iload rfl rfl
theorem r_M_put_51 : Wp L d k_M_put 51 [l0, l1, l2, l3, l4] [vI s0] σ Q ↔ Wp L d k_M_put 52 [l0, l1, l2, l3, l4] [vL s0] σ Q := wp_i2l rfl
theorem r_M_put_52 : Wp L d k_M_put 52 [l0, l1, l2, l3, l4] [vL s0] σ Q ↔ Wp L d k_M_put 55 [l0, l1, l2, l3, l4] [vL (-100000), vL s0] σ Q := wp_pushL rfl
theorem r_M_put_55 : Wp L d k_M_put 55 [l0, l1, l2, l3, l4] [vL s1, vL s0] σ Q ↔ Wp L d k_M_put 58 [l0, l1, l2, l3, l4] [vL 100000, vL s1, vL s0] σ Q := wp_pushL rfl
theorem r_M_put_61 : Wp L d k_M_put 61 [l0, l1, l2, l3, l4] [vI s0] σ Q ↔ (if s0 ≠ 0 then Wp L d k_M_put 67 [l0, l1, l2, l3, l4] [] σ Q else Wp L d k_M_put 64 [l0, l1, l2, l3, l4] [] σ Q) := wp_if_ne rfl
theorem r_M_put_64 : Wp L d k_M_put 64 [l0, l1, l2, l3, l4] [] σ Q ↔ Wp L d k_M_put 66 [l0, l1, l2, l3, l4] [vI (-1000000001)] σ Q := wp_push rfl
theorem r_M_put_66 : Wp L d k_M_put 66 [l0, l1, l2, l3, l4] [vI s0] σ Q ↔ Q (some (vI s0)) σ := wp_iret rfl
theorem r_M_put_67 : Wp L d k_M_put 67 [vR b0, l1, l2, l3, l4] [] σ Q ↔ Wp L d k_M_put 68 [vR b0, l1, l2, l3, l4] [vR b0] σ Q := wp_aload rfl rfl
theorem r_M_put_68 (h : gK c0 = 12) : Wp L d k_M_put 68 [l0, l1, l2, l3, l4] [vR c0] σ Q ↔ Wp L d k_M_put 71 [l0, l1, l2, l3, l4] [vR (gq c0 6)] σ Q := wp_getR (c := 3206) rfl rfl rfl rfl rfl h
theorem r_M_put_71 : Wp L d k_M_put 71 [l0, l1, l2, l3, l4] [vR c0] σ Q ↔ Wp L d k_M_put 73 [l0, l1, l2, l3, l4] [vI 24, vR c0] σ Q := wp_push rfl
theorem r_M_put_73 : Wp L d k_M_put 73 [l0, vI a1, l2, l3, l4] [vI s1, vR c0] σ Q ↔ Wp L d k_M_put 74 [l0, vI a1, l2, l3, l4] [vI a1, vI s1, vR c0] σ Q := wp_iload rfl rfl
theorem r_M_put_74 : Wp L d k_M_put 74 [l0, l1, l2, l3, l4] [vI s2, vI s1, vR c0] σ Q ↔ Wp L d k_M_put 75 [l0, l1, l2, l3, l4] [vI (w32 (s1 * s2)), vR c0] σ Q := wp_imul rfl
theorem r_M_put_75 : Wp L d k_M_put 75 [l0, l1, vI a2, l3, l4] [vI s1, vR c0] σ Q ↔ Wp L d k_M_put 76 [l0, l1, vI a2, l3, l4] [vI a2, vI s1, vR c0] σ Q := wp_iload rfl rfl
theorem r_M_put_76 : Wp L d k_M_put 76 [l0, l1, l2, l3, l4] [vI s2, vI s1, vR c0] σ Q ↔ Wp L d k_M_put 77 [l0, l1, l2, l3, l4] [vI (w32 (s1 + s2)), vR c0] σ Q := wp_iadd rfl
theorem r_M_put_77 : Wp L d k_M_put 77 [vR b0, l1, l2, l3, l4] [vI s1, vR c0] σ Q ↔ Wp L d k_M_put 78 [vR b0, l1, l2, l3, l4] [vR b0, vI s1, vR c0] σ Q := wp_aload rfl rfl
theorem r_M_put_78 (h : gK c2 = 12) : Wp L d k_M_put 78 [l0, l1, l2, l3, l4] [vR c2, vI s1, vR c0] σ Q ↔ Wp L d k_M_put 81 [l0, l1, l2, l3, l4] [vR (gq c2 4), vI s1, vR c0] σ Q := wp_getR (c := 3204) rfl rfl rfl rfl rfl h
theorem r_M_put_81 : Wp L d k_M_put 81 [l0, vI a1, l2, l3, l4] [vR c2, vI s1, vR c0] σ Q ↔ Wp L d k_M_put 82 [l0, vI a1, l2, l3, l4] [vI a1, vR c2, vI s1, vR c0] σ Q := wp_iload rfl rfl
theorem r_M_put_82 (h : gK c2 = 100) (hx : 0 ≤ s3 ∧ s3 < gN c2) : Wp L d k_M_put 82 [l0, l1, l2, l3, l4] [vI s3, vR c2, vI s1, vR c0] σ Q ↔ Wp L d k_M_put 83 [l0, l1, l2, l3, l4] [vI (σ c2 s3.toNat), vI s1, vR c0] σ Q := wp_iald rfl h hx
theorem r_M_put_83 : Wp L d k_M_put 83 [l0, l1, l2, l3, l4] [vI s2, vI s1, vR c0] σ Q ↔ Wp L d k_M_put 84 [l0, l1, l2, l3, l4] [vI 1, vI s2, vI s1, vR c0] σ Q := wp_push rfl
theorem r_M_put_84 : Wp L d k_M_put 84 [l0, l1, l2, l3, l4] [vI s3, vI s2, vI s1, vR c0] σ Q ↔ (if s2 ≠ s3 then Wp L d k_M_put 97 [l0, l1, l2, l3, l4] [vI s1, vR c0] σ Q else Wp L d k_M_put 87 [l0, l1, l2, l3, l4] [vI s1, vR c0] σ Q) := wp_cmp_ne rfl
theorem r_M_put_87 : Wp L d k_M_put 87 [l0, l1, l2, vI a3, l4] [vI s1, vR c0] σ Q ↔ Wp L d k_M_put 88 [l0, l1, l2, vI a3, l4] [vI a3, vI s1, vR c0] σ Q := wp_iload rfl rfl
theorem r_M_put_88 : Wp L d k_M_put 88 [l0, l1, l2, l3, l4] [vI s2, vI s1, vR c0] σ Q ↔ Wp L d k_M_put 90 [l0, l1, l2, l3, l4] [vI 16, vI s2, vI s1, vR c0] σ Q := wp_push rfl
theorem r_M_put_90 : Wp L d k_M_put 90 [l0, l1, l2, l3, l4] [vI s3, vI s2, vI s1, vR c0] σ Q ↔ Wp L d k_M_put 91 [l0, l1, l2, l3, l4] [vI (gshl s2 s3), vI s1, vR c0] σ Q := wp_ishl rfl
theorem r_M_put_91 : Wp L d k_M_put 91 [l0, l1, l2, l3, l4] [vI s2, vI s1, vR c0] σ Q ↔ Wp L d k_M_put 93 [l0, l1, l2, l3, l4] [vI 16, vI s2, vI s1, vR c0] σ Q := wp_push rfl
theorem r_M_put_93 : Wp L d k_M_put 93 [l0, l1, l2, l3, l4] [vI s3, vI s2, vI s1, vR c0] σ Q ↔ Wp L d k_M_put 94 [l0, l1, l2, l3, l4] [vI (gshr s2 s3), vI s1, vR c0] σ Q := wp_ishr rfl
theorem r_M_put_94 : Wp L d k_M_put 94 [l0, l1, l2, l3, l4] [vI s2, vI s1, vR c0] σ Q ↔ Wp L d k_M_put 98 [l0, l1, l2, l3, l4] [vI s2, vI s1, vR c0] σ Q := wp_goto rfl
theorem r_M_put_97 : Wp L d k_M_put 97 [l0, l1, l2, vI a3, l4] [vI s1, vR c0] σ Q ↔ Wp L d k_M_put 98 [l0, l1, l2, vI a3, l4] [vI a3, vI s1, vR c0] σ Q := wp_iload rfl rfl
theorem r_M_put_98 (h : gK c0 = 100) (hx : 0 ≤ s1 ∧ s1 < gN c0) : Wp L d k_M_put 98 [l0, l1, l2, l3, l4] [vI s2, vI s1, vR c0] σ Q ↔ Wp L d k_M_put 99 [l0, l1, l2, l3, l4] [] (gupd σ c0 s1.toNat s2) Q := wp_iast rfl h hx
theorem r_M_put_99 : Wp L d k_M_put 99 [l0, l1, l2, l3, l4] [] σ Q ↔ Wp L d k_M_put 100 [l0, l1, l2, l3, l4] [vI 1] σ Q := wp_push rfl
theorem r_M_put_100 : Wp L d k_M_put 100 [l0, l1, l2, l3, l4] [vI s0] σ Q ↔ Q (some (vI s0)) σ := wp_iret rfl
theorem r_M_put_3 (hs : 0 ≤ s1 ∧ s1 ≤ 5 → σ 297 s1.toNat ≠ -1 → 0 ≤ σ 298 s1.toNat ∧ σ 298 s1.toNat ≤ 24) (ht : 0 ≤ s1 ∧ s1 ≤ 5 → σ 297 s1.toNat = -1 ∨ 0 ≤ σ 297 s1.toNat) : Wp L (d + 3) k_M_put 3 [l0, l1, l2, l3, l4] [vI s2, vI s1, vR 293] σ Q ↔ Wp L (d + 3) k_M_put 6 [l0, l1, l2, l3, l4] [vI (gref (σ 297 s1.toNat) (σ 298 s1.toNat) s1 s2)] σ Q := wp_callR (d := d + 2) (as := [vR 293, vI s1, vI s2]) (rest := []) rfl rfl rfl rfl rfl rfl rfl (grecv_k (by rw [gK_293]) rfl) (sp_M_lacks hs ht)
theorem r_M_put_58 : Wp L (d + 3) k_M_put 58 [l0, l1, l2, l3, l4] [vL s2, vL s1, vL s0] σ Q ↔ Wp L (d + 3) k_M_put 61 [l0, l1, l2, l3, l4] [vI (gb (s1 ≤ s0 ∧ s0 ≤ s2))] σ Q := wp_callR (d := d + 2) (as := [vL s0, vL s1, vL s2]) (rest := []) rfl rfl rfl rfl rfl rfl rfl rfl (sp_M_isIn)
theorem sp_M_put_r (hs : 0 ≤ a1 ∧ a1 ≤ 5 → σ 297 a1.toNat ≠ -1 → 0 ≤ σ 298 a1.toNat ∧ σ 298 a1.toNat ≤ 24) (ht : 0 ≤ a1 ∧ a1 ≤ 5 → σ 297 a1.toNat = -1 ∨ 0 ≤ σ 297 a1.toNat) (h : ¬ gref (σ 297 a1.toNat) (σ 298 a1.toNat) a1 a2 = 0) : Run L (d + 3) 305 [vR 293, vI a1, vI a2, vI a3] σ (some (vI (gref (σ 297 a1.toNat) (σ 298 a1.toNat) a1 a2))) σ := by
  refine Run_of (C' := k_M_put) rfl ?_
  show Wp L (d + 3) k_M_put 0 [vR 293, vI a1, vI a2, vI a3, vU] [] σ _
  obtain ⟨K293, Q293, K294, N294⟩ := litM
  simp (disch := first | assumption | exact gb_01 _ | omega) only [r_M_put_0, r_M_put_1, r_M_put_2, r_M_put_3, r_M_put_6, r_M_put_8, r_M_put_10, r_M_put_13, r_M_put_15, r_M_put_16, r_M_put_17, r_M_put_20, r_M_put_21, r_M_put_22, r_M_put_23, r_M_put_26, r_M_put_27, r_M_put_29, r_M_put_32, r_M_put_34, r_M_put_35, r_M_put_36, r_M_put_39, r_M_put_40, r_M_put_41, r_M_put_44, r_M_put_45, r_M_put_47, r_M_put_50, r_M_put_51, r_M_put_52, r_M_put_55, r_M_put_58, r_M_put_61, r_M_put_64, r_M_put_66, r_M_put_67, r_M_put_68, r_M_put_71, r_M_put_73, r_M_put_74, r_M_put_75, r_M_put_76, r_M_put_77, r_M_put_78, r_M_put_81, r_M_put_82, r_M_put_83, r_M_put_84, r_M_put_87, r_M_put_88, r_M_put_90, r_M_put_91, r_M_put_93, r_M_put_94, r_M_put_97, r_M_put_98, r_M_put_99, r_M_put_100, Q293, w32_gb, w32i, tn_add, tn_mul, Int.toNat_natCast, Int.toNat_zero, Int.reduceLE, Int.reduceLT, Int.reduceEq, Int.reduceNe, gb_T, gb_F, Int.reduceToNat, eq_self, true_or, or_true, and_true, true_and, and_self, ↓ite_gb0, ↓ite_gbn, ↓if_pos, ↓if_neg, if_true, if_false, not_true_eq_false, not_false_eq_true, gb_ne0, gb_eq0]
theorem r_X_read_0 : Wp L d k_X_read 0 [vR b0, l1, l2, l3] [] σ Q ↔ Wp L d k_X_read 1 [vR b0, l1, l2, l3] [vR b0] σ Q := wp_aload rfl rfl
theorem r_X_read_1 : Wp L d k_X_read 1 [l0, vI a1, l2, l3] [vR c0] σ Q ↔ Wp L d k_X_read 2 [l0, vI a1, l2, l3] [vI a1, vR c0] σ Q := wp_iload rfl rfl
theorem r_X_read_2 : Wp L d k_X_read 2 [l0, l1, vI a2, l3] [vI s1, vR c0] σ Q ↔ Wp L d k_X_read 3 [l0, l1, vI a2, l3] [vI a2, vI s1, vR c0] σ Q := wp_iload rfl rfl
theorem r_X_read_6 : Wp L d k_X_read 6 [l0, l1, vI a2, l3] [vI s0] σ Q ↔ Wp L d k_X_read 7 [l0, l1, vI a2, vI s0] [] σ Q := wp_istore (i := 3) (ls := [l0, l1, vI a2, l3]) rfl rfl
theorem r_X_read_7 : Wp L d k_X_read 7 [l0, l1, l2, vI a3] [] σ Q ↔ Wp L d k_X_read 8 [l0, l1, l2, vI a3] [vI a3] σ Q := wp_iload rfl rfl
theorem r_X_read_8 : Wp L d k_X_read 8 [l0, l1, l2, l3] [vI s0] σ Q ↔ (if s0 ≠ 0 then Wp L d k_X_read 23 [l0, l1, l2, l3] [] σ Q else Wp L d k_X_read 11 [l0, l1, l2, l3] [] σ Q) := wp_if_ne rfl
theorem r_X_read_11 : Wp L d k_X_read 11 [vR b0, l1, l2, l3] [] σ Q ↔ Wp L d k_X_read 12 [vR b0, l1, l2, l3] [vR b0] σ Q := wp_aload rfl rfl
theorem r_X_read_12 (h : gK c0 = 0) : Wp L d k_X_read 12 [l0, l1, l2, l3] [vR c0] σ Q ↔ Wp L d k_X_read 15 [l0, l1, l2, l3] [vR (gq c0 5)] σ Q := wp_getR (c := 133) rfl rfl rfl rfl rfl h
theorem r_X_read_15 : Wp L d k_X_read 15 [l0, vI a1, l2, l3] [vR c0] σ Q ↔ Wp L d k_X_read 16 [l0, vI a1, l2, l3] [vI a1, vR c0] σ Q := wp_iload rfl rfl
theorem r_X_read_16 : Wp L d k_X_read 16 [l0, l1, vI a2, l3] [vI s1, vR c0] σ Q ↔ Wp L d k_X_read 17 [l0, l1, vI a2, l3] [vI a2, vI s1, vR c0] σ Q := wp_iload rfl rfl
theorem c_X_read_17 (hR : Run L d 174 [vR c0, vI s1, vI s2] σ r σ1) (h : gK c0 = 9) : Wp L (d + 1) k_X_read 17 [l0, l1, l2, l3] [vI s2, vI s1, vR c0] σ Q ↔ Wp L (d + 1) k_X_read 20 [l0, l1, l2, l3] (r.toList ++ []) σ1 Q := wp_callR (as := [vR c0, vI s1, vI s2]) (rest := []) rfl rfl rfl rfl rfl rfl rfl (grecv_k (by rw [h]) rfl) hR
theorem r_X_read_20 : Wp L d k_X_read 20 [l0, l1, l2, l3] [vI s0] σ Q ↔ Wp L d k_X_read 24 [l0, l1, l2, l3] [vI s0] σ Q := wp_goto rfl
theorem r_X_read_23 : Wp L d k_X_read 23 [l0, l1, l2, vI a3] [] σ Q ↔ Wp L d k_X_read 24 [l0, l1, l2, vI a3] [vI a3] σ Q := wp_iload rfl rfl
theorem r_X_read_24 : Wp L d k_X_read 24 [l0, l1, l2, l3] [vI s0] σ Q ↔ Q (some (vI s0)) σ := wp_iret rfl
theorem r_X_read_3 (hs : 0 ≤ s1 ∧ s1 ≤ 5 → σ 290 s1.toNat ≠ -1 → 0 ≤ σ 291 s1.toNat ∧ σ 291 s1.toNat ≤ 24) : Wp L (d + 3) k_X_read 3 [l0, l1, l2, l3] [vI s2, vI s1, vR 27] σ Q ↔ Wp L (d + 3) k_X_read 6 [l0, l1, l2, l3] [vI (gref (σ 290 s1.toNat) (σ 291 s1.toNat) s1 s2)] σ Q := wp_callR (d := d + 2) (as := [vR 27, vI s1, vI s2]) (rest := []) rfl rfl rfl rfl rfl rfl rfl (grecv_k (by rw [gK_27]) rfl) (sp_X_refusalOf hs)
theorem sp_X_read_r (hs : 0 ≤ a1 ∧ a1 ≤ 5 → σ 290 a1.toNat ≠ -1 → 0 ≤ σ 291 a1.toNat ∧ σ 291 a1.toNat ≤ 24) (h : ¬ gref (σ 290 a1.toNat) (σ 291 a1.toNat) a1 a2 = 0) : Run L (d + 3) 78 [vR 27, vI a1, vI a2] σ (some (vI (gref (σ 290 a1.toNat) (σ 291 a1.toNat) a1 a2))) σ := by
  refine Run_of (C' := k_X_read) rfl ?_
  show Wp L (d + 3) k_X_read 0 [vR 27, vI a1, vI a2, vU] [] σ _
  obtain ⟨K27, K28, K29, K78, K97, K99, K109, K123, K125, K279, K282⟩ := litX
  simp (disch := first | assumption | exact gb_01 _ | omega) only [r_X_read_0, r_X_read_1, r_X_read_2, r_X_read_3, r_X_read_6, r_X_read_7, r_X_read_8, r_X_read_11, r_X_read_12, r_X_read_15, r_X_read_16, r_X_read_20, r_X_read_23, r_X_read_24, gq_27_0, gq_27_1, gq_27_2, gq_27_3, gq_27_4, gq_27_5, gq_27_6, gq_28_0, gq_28_1, gq_28_2, gq_28_3, gq_28_4, gq_28_5, gq_28_6, w32_gb, w32i, tn_add, tn_mul, Int.toNat_natCast, Int.toNat_zero, Int.reduceLE, Int.reduceLT, Int.reduceEq, Int.reduceNe, gb_T, gb_F, Int.reduceToNat, eq_self, true_or, or_true, and_true, true_and, and_self, ↓ite_gb0, ↓ite_gbn, ↓if_pos, ↓if_neg, if_true, if_false, not_true_eq_false, not_false_eq_true, gb_ne0, gb_eq0]
theorem r_M_read_0 : Wp L d k_M_read 0 [vR b0, l1, l2, l3, l4, l5, l6, l7, l8] [] σ Q ↔ Wp L d k_M_read 1 [vR b0, l1, l2, l3, l4, l5, l6, l7, l8] [vR b0] σ Q := wp_aload rfl rfl
theorem r_M_read_1 : Wp L d k_M_read 1 [l0, vI a1, l2, l3, l4, l5, l6, l7, l8] [vR c0] σ Q ↔ Wp L d k_M_read 2 [l0, vI a1, l2, l3, l4, l5, l6, l7, l8] [vI a1, vR c0] σ Q := wp_iload rfl rfl
theorem r_M_read_2 : Wp L d k_M_read 2 [l0, l1, vI a2, l3, l4, l5, l6, l7, l8] [vI s1, vR c0] σ Q ↔ Wp L d k_M_read 3 [l0, l1, vI a2, l3, l4, l5, l6, l7, l8] [vI a2, vI s1, vR c0] σ Q := wp_iload rfl rfl
theorem r_M_read_6 : Wp L d k_M_read 6 [l0, l1, vI a2, l3, l4, l5, l6, l7, l8] [vI s0] σ Q ↔ Wp L d k_M_read 7 [l0, l1, vI a2, vI s0, l4, l5, l6, l7, l8] [] σ Q := wp_istore (i := 3) (ls := [l0, l1, vI a2, l3, l4, l5, l6, l7, l8]) rfl rfl
theorem r_M_read_7 : Wp L d k_M_read 7 [l0, l1, l2, vI a3, l4, l5, l6, l7, l8] [] σ Q ↔ Wp L d k_M_read 8 [l0, l1, l2, vI a3, l4, l5, l6, l7, l8] [vI a3] σ Q := wp_iload rfl rfl
theorem r_M_read_8 : Wp L d k_M_read 8 [l0, l1, l2, l3, l4, l5, l6, l7, l8] [vI s0] σ Q ↔ (if s0 = 0 then Wp L d k_M_read 13 [l0, l1, l2, l3, l4, l5, l6, l7, l8] [] σ Q else Wp L d k_M_read 11 [l0, l1, l2, l3, l4, l5, l6, l7, l8] [] σ Q) := wp_if_eq rfl
theorem r_M_read_11 : Wp L d k_M_read 11 [l0, l1, l2, vI a3, l4, l5, l6, l7, l8] [] σ Q ↔ Wp L d k_M_read 12 [l0, l1, l2, vI a3, l4, l5, l6, l7, l8] [vI a3] σ Q := wp_iload rfl rfl
theorem r_M_read_12 : Wp L d k_M_read 12 [l0, l1, l2, l3, l4, l5, l6, l7, l8] [vI s0] σ Q ↔ Q (some (vI s0)) σ := wp_iret rfl
theorem r_M_read_13 : Wp L d k_M_read 13 [vR b0, l1, l2, l3, l4, l5, l6, l7, l8] [] σ Q ↔ Wp L d k_M_read 14 [vR b0, l1, l2, l3, l4, l5, l6, l7, l8] [vR b0] σ Q := wp_aload rfl rfl
theorem r_M_read_14 (h : gK c0 = 12) : Wp L d k_M_read 14 [l0, l1, l2, l3, l4, l5, l6, l7, l8] [vR c0] σ Q ↔ Wp L d k_M_read 17 [l0, l1, l2, l3, l4, l5, l6, l7, l8] [vR (gq c0 6)] σ Q := wp_getR (c := 3206) rfl rfl rfl rfl rfl h
theorem r_M_read_17 : Wp L d k_M_read 17 [l0, l1, l2, l3, l4, l5, l6, l7, l8] [vR c0] σ Q ↔ Wp L d k_M_read 19 [l0, l1, l2, l3, l4, l5, l6, l7, l8] [vI 24, vR c0] σ Q := wp_push rfl
theorem r_M_read_19 : Wp L d k_M_read 19 [l0, vI a1, l2, l3, l4, l5, l6, l7, l8] [vI s1, vR c0] σ Q ↔ Wp L d k_M_read 20 [l0, vI a1, l2, l3, l4, l5, l6, l7, l8] [vI a1, vI s1, vR c0] σ Q := wp_iload rfl rfl
theorem r_M_read_20 : Wp L d k_M_read 20 [l0, l1, l2, l3, l4, l5, l6, l7, l8] [vI s2, vI s1, vR c0] σ Q ↔ Wp L d k_M_read 21 [l0, l1, l2, l3, l4, l5, l6, l7, l8] [vI (w32 (s1 * s2)), vR c0] σ Q := wp_imul rfl
theorem r_M_read_21 : Wp L d k_M_read 21 [l0, l1, vI a2, l3, l4, l5, l6, l7, l8] [vI s1, vR c0] σ Q ↔ Wp L d k_M_read 22 [l0, l1, vI a2, l3, l4, l5, l6, l7, l8] [vI a2, vI s1, vR c0] σ Q := wp_iload rfl rfl
theorem r_M_read_22 : Wp L d k_M_read 22 [l0, l1, l2, l3, l4, l5, l6, l7, l8] [vI s2, vI s1, vR c0] σ Q ↔ Wp L d k_M_read 23 [l0, l1, l2, l3, l4, l5, l6, l7, l8] [vI (w32 (s1 + s2)), vR c0] σ Q := wp_iadd rfl
theorem r_M_read_23 (h : gK c0 = 100) (hx : 0 ≤ s1 ∧ s1 < gN c0) : Wp L d k_M_read 23 [l0, l1, l2, l3, l4, l5, l6, l7, l8] [vI s1, vR c0] σ Q ↔ Wp L d k_M_read 24 [l0, l1, l2, l3, l4, l5, l6, l7, l8] [vI (σ c0 s1.toNat)] σ Q := wp_iald rfl h hx
theorem r_M_read_24 : Wp L d k_M_read 24 [l0, l1, l2, vI a3, l4, l5, l6, l7, l8] [vI s0] σ Q ↔ Wp L d k_M_read 26 [l0, l1, l2, vI a3, vI s0, l5, l6, l7, l8] [] σ Q := wp_istore (i := 4) (ls := [l0, l1, l2, vI a3, l4, l5, l6, l7, l8]) rfl rfl
theorem r_M_read_26 : Wp L d k_M_read 26 [l0, l1, l2, l3, vI a4, l5, l6, l7, l8] [] σ Q ↔ Wp L d k_M_read 28 [l0, l1, l2, l3, vI a4, l5, l6, l7, l8] [vI a4] σ Q := wp_iload rfl rfl
theorem r_M_read_28 : Wp L d k_M_read 28 [l0, l1, l2, l3, l4, l5, l6, l7, l8] [vI s0] σ Q ↔ Wp L d k_M_read 30 [l0, l1, l2, l3, l4, l5, l6, l7, l8] [vI (-1000000005), vI s0] σ Q := wp_push rfl
theorem r_M_read_30 : Wp L d k_M_read 30 [l0, l1, l2, l3, l4, l5, l6, l7, l8] [vI s1, vI s0] σ Q ↔ (if s0 = s1 then Wp L d k_M_read 36 [l0, l1, l2, l3, l4, l5, l6, l7, l8] [] σ Q else Wp L d k_M_read 33 [l0, l1, l2, l3, l4, l5, l6, l7, l8] [] σ Q) := wp_cmp_eq rfl
theorem r_M_read_33 : Wp L d k_M_read 33 [l0, l1, l2, l3, vI a4, l5, l6, l7, l8] [] σ Q ↔ Wp L d k_M_read 35 [l0, l1, l2, l3, vI a4, l5, l6, l7, l8] [vI a4] σ Q := wp_iload rfl rfl
theorem r_M_read_35 : Wp L d k_M_read 35 [l0, l1, l2, l3, l4, l5, l6, l7, l8] [vI s0] σ Q ↔ Q (some (vI s0)) σ := wp_iret rfl
theorem r_M_read_36 : Wp L d k_M_read 36 [l0, l1, l2, l3, l4, l5, l6, l7, l8] [] σ Q ↔ Wp L d k_M_read 37 [l0, l1, l2, l3, l4, l5, l6, l7, l8] [vI 0] σ Q := wp_push rfl
theorem r_M_read_37 : Wp L d k_M_read 37 [l0, l1, l2, l3, vI a4, l5, l6, l7, l8] [vI s0] σ Q ↔ Wp L d k_M_read 39 [l0, l1, l2, l3, vI a4, vI s0, l6, l7, l8] [] σ Q := wp_istore (i := 5) (ls := [l0, l1, l2, l3, vI a4, l5, l6, l7, l8]) rfl rfl
theorem r_M_read_39 : Wp L d k_M_read 39 [l0, l1, l2, l3, l4, l5, l6, l7, l8] [] σ Q ↔ Wp L d k_M_read 40 [l0, l1, l2, l3, l4, l5, l6, l7, l8] [vI 0] σ Q := wp_push rfl
theorem r_M_read_40 : Wp L d k_M_read 40 [l0, l1, l2, l3, l4, vI a5, l6, l7, l8] [vI s0] σ Q ↔ Wp L d k_M_read 42 [l0, l1, l2, l3, l4, vI a5, vI s0, l7, l8] [] σ Q := wp_istore (i := 6) (ls := [l0, l1, l2, l3, l4, vI a5, l6, l7, l8]) rfl rfl
theorem r_M_read_42 : Wp L d k_M_read 42 [l0, l1, l2, l3, l4, l5, l6, l7, l8] [] σ Q ↔ Wp L d k_M_read 43 [l0, l1, l2, l3, l4, l5, l6, l7, l8] [vI 0] σ Q := wp_push rfl
theorem r_M_read_43 : Wp L d k_M_read 43 [l0, l1, l2, l3, l4, l5, vI a6, l7, l8] [vI s0] σ Q ↔ Wp L d k_M_read 45 [l0, l1, l2, l3, l4, l5, vI a6, vI s0, l8] [] σ Q := wp_istore (i := 7) (ls := [l0, l1, l2, l3, l4, l5, vI a6, l7, l8]) rfl rfl
theorem r_M_read_45 : Wp L d k_M_read 45 [l0, l1, l2, l3, l4, l5, l6, vI a7, l8] [] σ Q ↔ Wp L d k_M_read 47 [l0, l1, l2, l3, l4, l5, l6, vI a7, l8] [vI a7] σ Q := wp_iload rfl rfl
theorem r_M_read_47 : Wp L d k_M_read 47 [vR b0, l1, l2, l3, l4, l5, l6, l7, l8] [vI s0] σ Q ↔ Wp L d k_M_read 48 [vR b0, l1, l2, l3, l4, l5, l6, l7, l8] [vR b0, vI s0] σ Q := wp_aload rfl rfl
theorem r_M_read_48 (h : gK c1 = 12) : Wp L d k_M_read 48 [l0, l1, l2, l3, l4, l5, l6, l7, l8] [vR c1, vI s0] σ Q ↔ Wp L d k_M_read 51 [l0, l1, l2, l3, l4, l5, l6, l7, l8] [vR (gq c1 5), vI s0] σ Q := wp_getR (c := 3205) rfl rfl rfl rfl rfl h
theorem r_M_read_51 : Wp L d k_M_read 51 [l0, vI a1, l2, l3, l4, l5, l6, l7, l8] [vR c1, vI s0] σ Q ↔ Wp L d k_M_read 52 [l0, vI a1, l2, l3, l4, l5, l6, l7, l8] [vI a1, vR c1, vI s0] σ Q := wp_iload rfl rfl
theorem r_M_read_52 (h : gK c1 = 100) (hx : 0 ≤ s2 ∧ s2 < gN c1) : Wp L d k_M_read 52 [l0, l1, l2, l3, l4, l5, l6, l7, l8] [vI s2, vR c1, vI s0] σ Q ↔ Wp L d k_M_read 53 [l0, l1, l2, l3, l4, l5, l6, l7, l8] [vI (σ c1 s2.toNat), vI s0] σ Q := wp_iald rfl h hx
theorem r_M_read_53 : Wp L d k_M_read 53 [l0, l1, l2, l3, l4, l5, l6, l7, l8] [vI s1, vI s0] σ Q ↔ (if s1 ≤ s0 then Wp L d k_M_read 111 [l0, l1, l2, l3, l4, l5, l6, l7, l8] [] σ Q else Wp L d k_M_read 56 [l0, l1, l2, l3, l4, l5, l6, l7, l8] [] σ Q) := wp_cmp_ge rfl
theorem r_M_read_56 : Wp L d k_M_read 56 [vR b0, l1, l2, l3, l4, l5, l6, l7, l8] [] σ Q ↔ Wp L d k_M_read 57 [vR b0, l1, l2, l3, l4, l5, l6, l7, l8] [vR b0] σ Q := wp_aload rfl rfl
theorem r_M_read_57 (h : gK c0 = 12) : Wp L d k_M_read 57 [l0, l1, l2, l3, l4, l5, l6, l7, l8] [vR c0] σ Q ↔ Wp L d k_M_read 60 [l0, l1, l2, l3, l4, l5, l6, l7, l8] [vR (gq c0 6)] σ Q := wp_getR (c := 3206) rfl rfl rfl rfl rfl h
theorem r_M_read_60 : Wp L d k_M_read 60 [l0, l1, l2, l3, l4, l5, l6, l7, l8] [vR c0] σ Q ↔ Wp L d k_M_read 62 [l0, l1, l2, l3, l4, l5, l6, l7, l8] [vI 24, vR c0] σ Q := wp_push rfl
theorem r_M_read_62 : Wp L d k_M_read 62 [l0, vI a1, l2, l3, l4, l5, l6, l7, l8] [vI s1, vR c0] σ Q ↔ Wp L d k_M_read 63 [l0, vI a1, l2, l3, l4, l5, l6, l7, l8] [vI a1, vI s1, vR c0] σ Q := wp_iload rfl rfl
theorem r_M_read_63 : Wp L d k_M_read 63 [l0, l1, l2, l3, l4, l5, l6, l7, l8] [vI s2, vI s1, vR c0] σ Q ↔ Wp L d k_M_read 64 [l0, l1, l2, l3, l4, l5, l6, l7, l8] [vI (w32 (s1 * s2)), vR c0] σ Q := wp_imul rfl
theorem r_M_read_64 : Wp L d k_M_read 64 [l0, l1, l2, l3, l4, l5, l6, vI a7, l8] [vI s1, vR c0] σ Q ↔ Wp L d k_M_read 66 [l0, l1, l2, l3, l4, l5, l6, vI a7, l8] [vI a7, vI s1, vR c0] σ Q := wp_iload rfl rfl
theorem r_M_read_66 : Wp L d k_M_read 66 [l0, l1, l2, l3, l4, l5, l6, l7, l8] [vI s2, vI s1, vR c0] σ Q ↔ Wp L d k_M_read 67 [l0, l1, l2, l3, l4, l5, l6, l7, l8] [vI (w32 (s1 + s2)), vR c0] σ Q := wp_iadd rfl
theorem r_M_read_67 (h : gK c0 = 100) (hx : 0 ≤ s1 ∧ s1 < gN c0) : Wp L d k_M_read 67 [l0, l1, l2, l3, l4, l5, l6, l7, l8] [vI s1, vR c0] σ Q ↔ Wp L d k_M_read 68 [l0, l1, l2, l3, l4, l5, l6, l7, l8] [vI (σ c0 s1.toNat)] σ Q := wp_iald rfl h hx
theorem r_M_read_68 : Wp L d k_M_read 68 [l0, l1, l2, l3, l4, l5, l6, vI a7, l8] [vI s0] σ Q ↔ Wp L d k_M_read 70 [l0, l1, l2, l3, l4, l5, l6, vI a7, vI s0] [] σ Q := wp_istore (i := 8) (ls := [l0, l1, l2, l3, l4, l5, l6, vI a7, l8]) rfl rfl
theorem r_M_read_70 : Wp L d k_M_read 70 [l0, l1, l2, l3, l4, vI a5, l6, l7, l8] [] σ Q ↔ Wp L d k_M_read 72 [l0, l1, l2, l3, l4, vI a5, l6, l7, l8] [vI a5] σ Q := wp_iload rfl rfl
theorem r_M_read_72 : Wp L d k_M_read 72 [l0, l1, l2, l3, l4, l5, l6, l7, vI a8] [vI s0] σ Q ↔ Wp L d k_M_read 74 [l0, l1, l2, l3, l4, l5, l6, l7, vI a8] [vI a8, vI s0] σ Q := wp_iload rfl rfl
theorem r_M_read_74 : Wp L d k_M_read 74 [l0, l1, l2, l3, l4, l5, l6, l7, l8] [vI s1, vI s0] σ Q ↔ Wp L d k_M_read 76 [l0, l1, l2, l3, l4, l5, l6, l7, l8] [vI (-1000000005), vI s1, vI s0] σ Q := wp_push rfl
theorem r_M_read_76 : Wp L d k_M_read 76 [l0, l1, l2, l3, l4, l5, l6, l7, l8] [vI s2, vI s1, vI s0] σ Q ↔ (if s1 ≠ s2 then Wp L d k_M_read 83 [l0, l1, l2, l3, l4, l5, l6, l7, l8] [vI s0] σ Q else Wp L d k_M_read 79 [l0, l1, l2, l3, l4, l5, l6, l7, l8] [vI s0] σ Q) := wp_cmp_ne rfl
theorem r_M_read_79 : Wp L d k_M_read 79 [l0, l1, l2, l3, l4, l5, l6, l7, l8] [vI s0] σ Q ↔ Wp L d k_M_read 80 [l0, l1, l2, l3, l4, l5, l6, l7, l8] [vI 0, vI s0] σ Q := wp_push rfl
theorem r_M_read_80 : Wp L d k_M_read 80 [l0, l1, l2, l3, l4, l5, l6, l7, l8] [vI s1, vI s0] σ Q ↔ Wp L d k_M_read 85 [l0, l1, l2, l3, l4, l5, l6, l7, l8] [vI s1, vI s0] σ Q := wp_goto rfl
theorem r_M_read_83 : Wp L d k_M_read 83 [l0, l1, l2, l3, l4, l5, l6, l7, vI a8] [vI s0] σ Q ↔ Wp L d k_M_read 85 [l0, l1, l2, l3, l4, l5, l6, l7, vI a8] [vI a8, vI s0] σ Q := wp_iload rfl rfl
theorem r_M_read_85 : Wp L d k_M_read 85 [l0, l1, l2, l3, l4, l5, l6, l7, l8] [vI s1, vI s0] σ Q ↔ Wp L d k_M_read 86 [l0, l1, l2, l3, l4, l5, l6, l7, l8] [vI (w32 (s0 + s1))] σ Q := wp_iadd rfl
theorem r_M_read_86 : Wp L d k_M_read 86 [l0, l1, l2, l3, vI a4, l5, l6, l7, l8] [vI s0] σ Q ↔ Wp L d k_M_read 88 [l0, l1, l2, l3, vI a4, vI s0, l6, l7, l8] [] σ Q := wp_istore (i := 5) (ls := [l0, l1, l2, l3, vI a4, l5, l6, l7, l8]) rfl rfl
theorem r_M_read_88 : Wp L d k_M_read 88 [l0, l1, l2, l3, l4, l5, vI a6, l7, l8] [] σ Q ↔ Wp L d k_M_read 90 [l0, l1, l2, l3, l4, l5, vI a6, l7, l8] [vI a6] σ Q := wp_iload rfl rfl
theorem r_M_read_90 : Wp L d k_M_read 90 [l0, l1, l2, l3, l4, l5, l6, l7, vI a8] [vI s0] σ Q ↔ Wp L d k_M_read 92 [l0, l1, l2, l3, l4, l5, l6, l7, vI a8] [vI a8, vI s0] σ Q := wp_iload rfl rfl
theorem r_M_read_92 : Wp L d k_M_read 92 [l0, l1, l2, l3, l4, l5, l6, l7, l8] [vI s1, vI s0] σ Q ↔ Wp L d k_M_read 94 [l0, l1, l2, l3, l4, l5, l6, l7, l8] [vI (-1000000005), vI s1, vI s0] σ Q := wp_push rfl
theorem r_M_read_94 : Wp L d k_M_read 94 [l0, l1, l2, l3, l4, l5, l6, l7, l8] [vI s2, vI s1, vI s0] σ Q ↔ (if s1 ≠ s2 then Wp L d k_M_read 101 [l0, l1, l2, l3, l4, l5, l6, l7, l8] [vI s0] σ Q else Wp L d k_M_read 97 [l0, l1, l2, l3, l4, l5, l6, l7, l8] [vI s0] σ Q) := wp_cmp_ne rfl
theorem r_M_read_97 : Wp L d k_M_read 97 [l0, l1, l2, l3, l4, l5, l6, l7, l8] [vI s0] σ Q ↔ Wp L d k_M_read 98 [l0, l1, l2, l3, l4, l5, l6, l7, l8] [vI 0, vI s0] σ Q := wp_push rfl
theorem r_M_read_98 : Wp L d k_M_read 98 [l0, l1, l2, l3, l4, l5, l6, l7, l8] [vI s1, vI s0] σ Q ↔ Wp L d k_M_read 102 [l0, l1, l2, l3, l4, l5, l6, l7, l8] [vI s1, vI s0] σ Q := wp_goto rfl
theorem r_M_read_101 : Wp L d k_M_read 101 [l0, l1, l2, l3, l4, l5, l6, l7, l8] [vI s0] σ Q ↔ Wp L d k_M_read 102 [l0, l1, l2, l3, l4, l5, l6, l7, l8] [vI 1, vI s0] σ Q := wp_push rfl
theorem r_M_read_102 : Wp L d k_M_read 102 [l0, l1, l2, l3, l4, l5, l6, l7, l8] [vI s1, vI s0] σ Q ↔ Wp L d k_M_read 103 [l0, l1, l2, l3, l4, l5, l6, l7, l8] [vI (w32 (s0 + s1))] σ Q := wp_iadd rfl
theorem r_M_read_103 : Wp L d k_M_read 103 [l0, l1, l2, l3, l4, vI a5, l6, l7, l8] [vI s0] σ Q ↔ Wp L d k_M_read 105 [l0, l1, l2, l3, l4, vI a5, vI s0, l7, l8] [] σ Q := wp_istore (i := 6) (ls := [l0, l1, l2, l3, l4, vI a5, l6, l7, l8]) rfl rfl
theorem r_M_read_105 : Wp L d k_M_read 105 [l0, l1, l2, l3, l4, l5, vI a6, vI a7, l8] [] σ Q ↔ Wp L d k_M_read 108 [l0, l1, l2, l3, l4, l5, vI a6, vI (w32 (a7 + 1)), l8] [] σ Q := wp_iinc (i := 7) (ls := [l0, l1, l2, l3, l4, l5, vI a6, vI a7, l8]) rfl rfl
theorem r_M_read_108 : Wp L d k_M_read 108 [l0, l1, l2, l3, l4, l5, l6, l7, l8] [] σ Q ↔ Wp L d k_M_read 45 [l0, l1, l2, l3, l4, l5, l6, l7, l8] [] σ Q := wp_goto rfl
theorem r_M_read_111 : Wp L d k_M_read 111 [l0, l1, l2, l3, l4, l5, vI a6, l7, l8] [] σ Q ↔ Wp L d k_M_read 113 [l0, l1, l2, l3, l4, l5, vI a6, l7, l8] [vI a6] σ Q := wp_iload rfl rfl
theorem r_M_read_113 : Wp L d k_M_read 113 [l0, l1, l2, l3, l4, l5, l6, l7, l8] [vI s0] σ Q ↔ (if s0 ≠ 0 then Wp L d k_M_read 121 [l0, l1, l2, l3, l4, l5, l6, l7, l8] [] σ Q else Wp L d k_M_read 116 [l0, l1, l2, l3, l4, l5, l6, l7, l8] [] σ Q) := wp_if_ne rfl
theorem r_M_read_116 : Wp L d k_M_read 116 [l0, l1, l2, l3, l4, l5, l6, l7, l8] [] σ Q ↔ Wp L d k_M_read 118 [l0, l1, l2, l3, l4, l5, l6, l7, l8] [vI (-1000000012)] σ Q := wp_push rfl
theorem r_M_read_118 : Wp L d k_M_read 118 [l0, l1, l2, l3, l4, l5, l6, l7, l8] [vI s0] σ Q ↔ Wp L d k_M_read 126 [l0, l1, l2, l3, l4, l5, l6, l7, l8] [vI s0] σ Q := wp_goto rfl
theorem r_M_read_121 : Wp L d k_M_read 121 [l0, l1, l2, l3, l4, vI a5, l6, l7, l8] [] σ Q ↔ Wp L d k_M_read 123 [l0, l1, l2, l3, l4, vI a5, l6, l7, l8] [vI a5] σ Q := wp_iload rfl rfl
theorem r_M_read_123 : Wp L d k_M_read 123 [l0, l1, l2, l3, l4, l5, vI a6, l7, l8] [vI s0] σ Q ↔ Wp L d k_M_read 125 [l0, l1, l2, l3, l4, l5, vI a6, l7, l8] [vI a6, vI s0] σ Q := wp_iload rfl rfl
theorem r_M_read_125 (h : s1 ≠ 0) : Wp L d k_M_read 125 [l0, l1, l2, l3, l4, l5, l6, l7, l8] [vI s1, vI s0] σ Q ↔ Wp L d k_M_read 126 [l0, l1, l2, l3, l4, l5, l6, l7, l8] [vI (w32 (s0.tdiv s1))] σ Q := wp_idiv rfl h
theorem r_M_read_126 : Wp L d k_M_read 126 [l0, l1, l2, l3, l4, l5, l6, l7, l8] [vI s0] σ Q ↔ Q (some (vI s0)) σ := wp_iret rfl
theorem r_M_read_3 (hs : 0 ≤ s1 ∧ s1 ≤ 5 → σ 297 s1.toNat ≠ -1 → 0 ≤ σ 298 s1.toNat ∧ σ 298 s1.toNat ≤ 24) (ht : 0 ≤ s1 ∧ s1 ≤ 5 → σ 297 s1.toNat = -1 ∨ 0 ≤ σ 297 s1.toNat) : Wp L (d + 3) k_M_read 3 [l0, l1, l2, l3, l4, l5, l6, l7, l8] [vI s2, vI s1, vR 293] σ Q ↔ Wp L (d + 3) k_M_read 6 [l0, l1, l2, l3, l4, l5, l6, l7, l8] [vI (gref (σ 297 s1.toNat) (σ 298 s1.toNat) s1 s2)] σ Q := wp_callR (d := d + 2) (as := [vR 293, vI s1, vI s2]) (rest := []) rfl rfl rfl rfl rfl rfl rfl (grecv_k (by rw [gK_293]) rfl) (sp_M_lacks hs ht)
theorem sp_M_read_r (hs : 0 ≤ a1 ∧ a1 ≤ 5 → σ 297 a1.toNat ≠ -1 → 0 ≤ σ 298 a1.toNat ∧ σ 298 a1.toNat ≤ 24) (ht : 0 ≤ a1 ∧ a1 ≤ 5 → σ 297 a1.toNat = -1 ∨ 0 ≤ σ 297 a1.toNat) (h : ¬ gref (σ 297 a1.toNat) (σ 298 a1.toNat) a1 a2 = 0) : Run L (d + 3) 307 [vR 293, vI a1, vI a2] σ (some (vI (gref (σ 297 a1.toNat) (σ 298 a1.toNat) a1 a2))) σ := by
  refine Run_of (C' := k_M_read) rfl ?_
  show Wp L (d + 3) k_M_read 0 [vR 293, vI a1, vI a2, vU, vU, vU, vU, vU, vU] [] σ _
  obtain ⟨K293, Q293, K294, N294⟩ := litM
  simp (disch := first | assumption | exact gb_01 _ | omega) only [r_M_read_0, r_M_read_1, r_M_read_2, r_M_read_3, r_M_read_6, r_M_read_7, r_M_read_8, r_M_read_11, r_M_read_12, r_M_read_13, r_M_read_14, r_M_read_17, r_M_read_19, r_M_read_20, r_M_read_21, r_M_read_22, r_M_read_23, r_M_read_24, r_M_read_26, r_M_read_28, r_M_read_30, r_M_read_33, r_M_read_35, r_M_read_36, r_M_read_37, r_M_read_39, r_M_read_40, r_M_read_42, r_M_read_43, r_M_read_47, r_M_read_48, r_M_read_51, r_M_read_52, r_M_read_53, r_M_read_56, r_M_read_57, r_M_read_60, r_M_read_62, r_M_read_63, r_M_read_64, r_M_read_66, r_M_read_67, r_M_read_68, r_M_read_70, r_M_read_72, r_M_read_74, r_M_read_76, r_M_read_79, r_M_read_80, r_M_read_83, r_M_read_85, r_M_read_86, r_M_read_88, r_M_read_90, r_M_read_92, r_M_read_94, r_M_read_97, r_M_read_98, r_M_read_101, r_M_read_102, r_M_read_103, r_M_read_105, r_M_read_108, r_M_read_111, r_M_read_113, r_M_read_116, r_M_read_118, r_M_read_121, r_M_read_123, r_M_read_125, r_M_read_126, Q293, w32_gb, w32i, tn_add, tn_mul, Int.toNat_natCast, Int.toNat_zero, Int.reduceLE, Int.reduceLT, Int.reduceEq, Int.reduceNe, gb_T, gb_F, Int.reduceToNat, eq_self, true_or, or_true, and_true, true_and, and_self, ↓ite_gb0, ↓ite_gbn, ↓if_pos, ↓if_neg, if_true, if_false, not_true_eq_false, not_false_eq_true, gb_ne0, gb_eq0]
/-- what put answers, and what is put -/
def gpan (sort v : Int) : Int := (if sort = 1 then (if v = -1000000005 then -1000000012 else 1) else if v = -1000000005 ∨ -100000 ≤ v ∧ v ≤ 100000 then 1 else -1000000001)
def gpval (sort v : Int) : Int := if sort = 1 then gi2s v else v
theorem r_V_set_0 : Wp L d k_V_set 0 [vR b0, l1, l2, l3] [] σ Q ↔ Wp L d k_V_set 1 [vR b0, l1, l2, l3] [vR b0] σ Q := wp_aload rfl rfl
theorem r_V_set_1 (h : gK c0 = 9) : Wp L d k_V_set 1 [l0, l1, l2, l3] [vR c0] σ Q ↔ Wp L d k_V_set 4 [l0, l1, l2, l3] [vR (gq c0 1)] σ Q := wp_getR (c := 2433) rfl rfl rfl rfl rfl h
theorem r_V_set_4 : Wp L d k_V_set 4 [l0, vI a1, l2, l3] [vR c0] σ Q ↔ Wp L d k_V_set 5 [l0, vI a1, l2, l3] [vI a1, vR c0] σ Q := wp_iload rfl rfl
theorem r_V_set_5 (h : gK c0 = 100) (hx : 0 ≤ s1 ∧ s1 < gN c0) : Wp L d k_V_set 5 [l0, l1, l2, l3] [vI s1, vR c0] σ Q ↔ Wp L d k_V_set 6 [l0, l1, l2, l3] [vI (σ c0 s1.toNat)] σ Q := wp_iald rfl h hx
theorem r_V_set_6 : Wp L d k_V_set 6 [l0, l1, l2, l3] [vI s0] σ Q ↔ Wp L d k_V_set 7 [l0, l1, l2, l3] [vI 1, vI s0] σ Q := wp_push rfl
theorem r_V_set_7 : Wp L d k_V_set 7 [l0, l1, l2, l3] [vI s1, vI s0] σ Q ↔ (if s0 ≠ s1 then Wp L d k_V_set 31 [l0, l1, l2, l3] [] σ Q else Wp L d k_V_set 10 [l0, l1, l2, l3] [] σ Q) := wp_cmp_ne rfl
theorem r_V_set_10 : Wp L d k_V_set 10 [l0, l1, l2, vI a3] [] σ Q ↔ Wp L d k_V_set 11 [l0, l1, l2, vI a3] [vI a3] σ Q := wp_iload rfl rfl
theorem r_V_set_11 : Wp L d k_V_set 11 [l0, l1, l2, l3] [vI s0] σ Q ↔ Wp L d k_V_set 13 [l0, l1, l2, l3] [vI (-1000000005), vI s0] σ Q := wp_push rfl
theorem r_V_set_13 : Wp L d k_V_set 13 [l0, l1, l2, l3] [vI s1, vI s0] σ Q ↔ (if s0 ≠ s1 then Wp L d k_V_set 19 [l0, l1, l2, l3] [] σ Q else Wp L d k_V_set 16 [l0, l1, l2, l3] [] σ Q) := wp_cmp_ne rfl
theorem r_V_set_16 : Wp L d k_V_set 16 [l0, l1, l2, l3] [] σ Q ↔ Wp L d k_V_set 18 [l0, l1, l2, l3] [vI (-1000000012)] σ Q := wp_push rfl
theorem r_V_set_18 : Wp L d k_V_set 18 [l0, l1, l2, l3] [vI s0] σ Q ↔ Q (some (vI s0)) σ := wp_iret rfl
theorem r_V_set_19 : Wp L d k_V_set 19 [vR b0, l1, l2, l3] [] σ Q ↔ Wp L d k_V_set 20 [vR b0, l1, l2, l3] [vR b0] σ Q := wp_aload rfl rfl
theorem r_V_set_20 (h : gK c0 = 9) : Wp L d k_V_set 20 [l0, l1, l2, l3] [vR c0] σ Q ↔ Wp L d k_V_set 23 [l0, l1, l2, l3] [vR (gq c0 0)] σ Q := wp_getR (c := 2432) rfl rfl rfl rfl rfl h
theorem r_V_set_23 : Wp L d k_V_set 23 [l0, vI a1, l2, l3] [vR c0] σ Q ↔ Wp L d k_V_set 24 [l0, vI a1, l2, l3] [vI a1, vR c0] σ Q := wp_iload rfl rfl
theorem r_V_set_24 (h : gK c0 = 102 ∨ gK c0 = 103) (hx : 0 ≤ s1 ∧ s1 < gN c0) : Wp L d k_V_set 24 [l0, l1, l2, l3] [vI s1, vR c0] σ Q ↔ Wp L d k_V_set 25 [l0, l1, l2, l3] [vR (gq c0 s1.toNat)] σ Q := wp_aald rfl h hx
theorem r_V_set_25 : Wp L d k_V_set 25 [l0, l1, vI a2, l3] [vR c0] σ Q ↔ Wp L d k_V_set 26 [l0, l1, vI a2, l3] [vI a2, vR c0] σ Q := wp_iload rfl rfl
theorem r_V_set_26 : Wp L d k_V_set 26 [l0, l1, l2, vI a3] [vI s1, vR c0] σ Q ↔ Wp L d k_V_set 27 [l0, l1, l2, vI a3] [vI a3, vI s1, vR c0] σ Q := wp_iload rfl rfl
theorem r_V_set_27 : Wp L d k_V_set 27 [l0, l1, l2, l3] [vI s2, vI s1, vR c0] σ Q ↔ Wp L d k_V_set 28 [l0, l1, l2, l3] [vI (gi2s s2), vI s1, vR c0] σ Q := wp_i2s rfl
theorem r_V_set_28 (h : gK c0 = 100) (hx : 0 ≤ s1 ∧ s1 < gN c0) : Wp L d k_V_set 28 [l0, l1, l2, l3] [vI s2, vI s1, vR c0] σ Q ↔ Wp L d k_V_set 29 [l0, l1, l2, l3] [] (gupd σ c0 s1.toNat s2) Q := wp_iast rfl h hx
theorem r_V_set_29 : Wp L d k_V_set 29 [l0, l1, l2, l3] [] σ Q ↔ Wp L d k_V_set 30 [l0, l1, l2, l3] [vI 1] σ Q := wp_push rfl
theorem r_V_set_30 : Wp L d k_V_set 30 [l0, l1, l2, l3] [vI s0] σ Q ↔ Q (some (vI s0)) σ := wp_iret rfl
theorem r_V_set_31 : Wp L d k_V_set 31 [l0, l1, l2, vI a3] [] σ Q ↔ Wp L d k_V_set 32 [l0, l1, l2, vI a3] [vI a3] σ Q := wp_iload rfl rfl
theorem r_V_set_32 : Wp L d k_V_set 32 [l0, l1, l2, l3] [vI s0] σ Q ↔ Wp L d k_V_set 34 [l0, l1, l2, l3] [vI (-1000000005), vI s0] σ Q := wp_push rfl
theorem r_V_set_34 : Wp L d k_V_set 34 [l0, l1, l2, l3] [vI s1, vI s0] σ Q ↔ (if s0 = s1 then Wp L d k_V_set 51 [l0, l1, l2, l3] [] σ Q else Wp L d k_V_set 37 [l0, l1, l2, l3] [] σ Q) := wp_cmp_eq rfl
theorem r_V_set_37 : Wp L d k_V_set 37 [l0, l1, l2, vI a3] [] σ Q ↔ Wp L d k_V_set 38 [l0, l1, l2, vI a3] [vI a3] σ Q := wp_iload rfl rfl
theorem r_V_set_38 : Wp L d k_V_set 38 [l0, l1, l2, l3] [vI s0] σ Q ↔ Wp L d k_V_set 40 [l0, l1, l2, l3] [vI (-100000), vI s0] σ Q := wp_push rfl
theorem r_V_set_40 : Wp L d k_V_set 40 [l0, l1, l2, l3] [vI s1, vI s0] σ Q ↔ Wp L d k_V_set 42 [l0, l1, l2, l3] [vI 100000, vI s1, vI s0] σ Q := wp_push rfl
theorem r_V_set_45 : Wp L d k_V_set 45 [l0, l1, l2, l3] [vI s0] σ Q ↔ (if s0 ≠ 0 then Wp L d k_V_set 51 [l0, l1, l2, l3] [] σ Q else Wp L d k_V_set 48 [l0, l1, l2, l3] [] σ Q) := wp_if_ne rfl
theorem r_V_set_48 : Wp L d k_V_set 48 [l0, l1, l2, l3] [] σ Q ↔ Wp L d k_V_set 50 [l0, l1, l2, l3] [vI (-1000000001)] σ Q := wp_push rfl
theorem r_V_set_50 : Wp L d k_V_set 50 [l0, l1, l2, l3] [vI s0] σ Q ↔ Q (some (vI s0)) σ := wp_iret rfl
theorem r_V_set_51 : Wp L d k_V_set 51 [vR b0, l1, l2, l3] [] σ Q ↔ Wp L d k_V_set 52 [vR b0, l1, l2, l3] [vR b0] σ Q := wp_aload rfl rfl
theorem r_V_set_52 (h : gK c0 = 9) : Wp L d k_V_set 52 [l0, l1, l2, l3] [vR c0] σ Q ↔ Wp L d k_V_set 55 [l0, l1, l2, l3] [vR (gq c0 0)] σ Q := wp_getR (c := 2432) rfl rfl rfl rfl rfl h
theorem r_V_set_55 : Wp L d k_V_set 55 [l0, vI a1, l2, l3] [vR c0] σ Q ↔ Wp L d k_V_set 56 [l0, vI a1, l2, l3] [vI a1, vR c0] σ Q := wp_iload rfl rfl
theorem r_V_set_56 (h : gK c0 = 102 ∨ gK c0 = 103) (hx : 0 ≤ s1 ∧ s1 < gN c0) : Wp L d k_V_set 56 [l0, l1, l2, l3] [vI s1, vR c0] σ Q ↔ Wp L d k_V_set 57 [l0, l1, l2, l3] [vR (gq c0 s1.toNat)] σ Q := wp_aald rfl h hx
theorem r_V_set_57 : Wp L d k_V_set 57 [l0, l1, vI a2, l3] [vR c0] σ Q ↔ Wp L d k_V_set 58 [l0, l1, vI a2, l3] [vI a2, vR c0] σ Q := wp_iload rfl rfl
theorem r_V_set_58 : Wp L d k_V_set 58 [l0, l1, l2, vI a3] [vI s1, vR c0] σ Q ↔ Wp L d k_V_set 59 [l0, l1, l2, vI a3] [vI a3, vI s1, vR c0] σ Q := wp_iload rfl rfl
theorem r_V_set_59 (h : gK c0 = 100) (hx : 0 ≤ s1 ∧ s1 < gN c0) : Wp L d k_V_set 59 [l0, l1, l2, l3] [vI s2, vI s1, vR c0] σ Q ↔ Wp L d k_V_set 60 [l0, l1, l2, l3] [] (gupd σ c0 s1.toNat s2) Q := wp_iast rfl h hx
theorem r_V_set_60 : Wp L d k_V_set 60 [l0, l1, l2, l3] [] σ Q ↔ Wp L d k_V_set 61 [l0, l1, l2, l3] [vI 1] σ Q := wp_push rfl
theorem r_V_set_61 : Wp L d k_V_set 61 [l0, l1, l2, l3] [vI s0] σ Q ↔ Q (some (vI s0)) σ := wp_iret rfl
theorem r_V_set_42 : Wp L (d + 1) k_V_set 42 [l0, l1, l2, l3] [vI s2, vI s1, vI s0] σ Q ↔ Wp L (d + 1) k_V_set 45 [l0, l1, l2, l3] [vI (gb (s1 ≤ s0 ∧ s0 ≤ s2))] σ Q := wp_callR (d := d + 0) (as := [vI s0, vI s1, vI s2]) (rest := []) rfl rfl rfl rfl rfl rfl rfl rfl (sp_X_within)
theorem sp_V_set (h1 : 0 ≤ a1 ∧ a1 ≤ 5) (h2 : 0 ≤ a2 ∧ a2 < 24) : Run L (d + 1) 173 [vR 282, vI a1, vI a2, vI a3] σ (some (vI (gpan (σ 290 a1.toNat) a3))) (if gpan (σ 290 a1.toNat) a3 = 1 then gupd σ (284 + a1.toNat) a2.toNat (gpval (σ 290 a1.toNat) a3) else σ) := by
  refine Run_of (C' := k_V_set) rfl ?_
  show Wp L (d + 1) k_V_set 0 [vR 282, vI a1, vI a2, vI a3] [] σ _
  obtain ⟨K282, K283, N283, K290, K291, N290, N291, K297, K298, K299, K305, N297, N298, N299, N305⟩ := litV
  obtain ⟨g1, g2, g3⟩ := gq283 (i := a1.toNat) (by omega)
  by_cases c1 : σ 290 a1.toNat = 1
  · by_cases c2 : a3 = -1000000005
    · have e : gpan (σ 290 a1.toNat) a3 = -1000000012 := by unfold gpan; rw [if_pos c1, if_pos c2]
      rw [e, if_neg (by omega)]
      simp (disch := first | assumption | exact gb_01 _ | omega) only [r_V_set_0, r_V_set_1, r_V_set_4, r_V_set_5, r_V_set_6, r_V_set_7, r_V_set_10, r_V_set_11, r_V_set_13, r_V_set_16, r_V_set_18, r_V_set_19, r_V_set_20, r_V_set_23, r_V_set_24, r_V_set_25, r_V_set_26, r_V_set_27, r_V_set_28, r_V_set_29, r_V_set_30, r_V_set_31, r_V_set_32, r_V_set_34, r_V_set_37, r_V_set_38, r_V_set_40, r_V_set_42, r_V_set_45, r_V_set_48, r_V_set_50, r_V_set_51, r_V_set_52, r_V_set_55, r_V_set_56, r_V_set_57, r_V_set_58, r_V_set_59, r_V_set_60, r_V_set_61, gq_27_5, gq_282_0, gq_282_1, gq_282_2, gq_293_4, gq_293_5, gq_293_6, gq_293_24, g1, w32_gb, w32i, tn_add, tn_mul, Int.toNat_natCast, Int.toNat_zero, Int.reduceLE, Int.reduceLT, Int.reduceEq, Int.reduceNe, gb_T, gb_F, Int.reduceToNat, eq_self, true_or, or_true, and_true, true_and, and_self, ↓ite_gb0, ↓ite_gbn, ↓if_pos, ↓if_neg, if_true, if_false, not_true_eq_false, not_false_eq_true, gb_ne0, gb_eq0]
    · have e : gpan (σ 290 a1.toNat) a3 = 1 := by unfold gpan; rw [if_pos c1, if_neg c2]
      have e2 : gpval (σ 290 a1.toNat) a3 = gi2s a3 := if_pos c1
      rw [e, if_pos rfl, e2]
      simp (disch := first | assumption | exact gb_01 _ | omega) only [r_V_set_0, r_V_set_1, r_V_set_4, r_V_set_5, r_V_set_6, r_V_set_7, r_V_set_10, r_V_set_11, r_V_set_13, r_V_set_16, r_V_set_18, r_V_set_19, r_V_set_20, r_V_set_23, r_V_set_24, r_V_set_25, r_V_set_26, r_V_set_27, r_V_set_28, r_V_set_29, r_V_set_30, r_V_set_31, r_V_set_32, r_V_set_34, r_V_set_37, r_V_set_38, r_V_set_40, r_V_set_42, r_V_set_45, r_V_set_48, r_V_set_50, r_V_set_51, r_V_set_52, r_V_set_55, r_V_set_56, r_V_set_57, r_V_set_58, r_V_set_59, r_V_set_60, r_V_set_61, gq_27_5, gq_282_0, gq_282_1, gq_282_2, gq_293_4, gq_293_5, gq_293_6, gq_293_24, g1, w32_gb, w32i, tn_add, tn_mul, Int.toNat_natCast, Int.toNat_zero, Int.reduceLE, Int.reduceLT, Int.reduceEq, Int.reduceNe, gb_T, gb_F, Int.reduceToNat, eq_self, true_or, or_true, and_true, true_and, and_self, ↓ite_gb0, ↓ite_gbn, ↓if_pos, ↓if_neg, if_true, if_false, not_true_eq_false, not_false_eq_true, gb_ne0, gb_eq0]
  · have e2 : gpval (σ 290 a1.toNat) a3 = a3 := if_neg c1
    by_cases c2 : a3 = -1000000005
    · have e : gpan (σ 290 a1.toNat) a3 = 1 := by unfold gpan; rw [if_neg c1, if_pos (Or.inl c2)]
      rw [e, if_pos rfl, e2]
      simp (disch := first | assumption | exact gb_01 _ | omega) only [r_V_set_0, r_V_set_1, r_V_set_4, r_V_set_5, r_V_set_6, r_V_set_7, r_V_set_10, r_V_set_11, r_V_set_13, r_V_set_16, r_V_set_18, r_V_set_19, r_V_set_20, r_V_set_23, r_V_set_24, r_V_set_25, r_V_set_26, r_V_set_27, r_V_set_28, r_V_set_29, r_V_set_30, r_V_set_31, r_V_set_32, r_V_set_34, r_V_set_37, r_V_set_38, r_V_set_40, r_V_set_42, r_V_set_45, r_V_set_48, r_V_set_50, r_V_set_51, r_V_set_52, r_V_set_55, r_V_set_56, r_V_set_57, r_V_set_58, r_V_set_59, r_V_set_60, r_V_set_61, gq_27_5, gq_282_0, gq_282_1, gq_282_2, gq_293_4, gq_293_5, gq_293_6, gq_293_24, g1, w32_gb, w32i, tn_add, tn_mul, Int.toNat_natCast, Int.toNat_zero, Int.reduceLE, Int.reduceLT, Int.reduceEq, Int.reduceNe, gb_T, gb_F, Int.reduceToNat, eq_self, true_or, or_true, and_true, true_and, and_self, ↓ite_gb0, ↓ite_gbn, ↓if_pos, ↓if_neg, if_true, if_false, not_true_eq_false, not_false_eq_true, gb_ne0, gb_eq0]
    · by_cases c3 : -100000 ≤ a3 ∧ a3 ≤ 100000
      · have e : gpan (σ 290 a1.toNat) a3 = 1 := by unfold gpan; rw [if_neg c1, if_pos (Or.inr c3)]
        rw [e, if_pos rfl, e2]
        simp (disch := first | assumption | exact gb_01 _ | omega) only [r_V_set_0, r_V_set_1, r_V_set_4, r_V_set_5, r_V_set_6, r_V_set_7, r_V_set_10, r_V_set_11, r_V_set_13, r_V_set_16, r_V_set_18, r_V_set_19, r_V_set_20, r_V_set_23, r_V_set_24, r_V_set_25, r_V_set_26, r_V_set_27, r_V_set_28, r_V_set_29, r_V_set_30, r_V_set_31, r_V_set_32, r_V_set_34, r_V_set_37, r_V_set_38, r_V_set_40, r_V_set_42, r_V_set_45, r_V_set_48, r_V_set_50, r_V_set_51, r_V_set_52, r_V_set_55, r_V_set_56, r_V_set_57, r_V_set_58, r_V_set_59, r_V_set_60, r_V_set_61, gq_27_5, gq_282_0, gq_282_1, gq_282_2, gq_293_4, gq_293_5, gq_293_6, gq_293_24, g1, w32_gb, w32i, tn_add, tn_mul, Int.toNat_natCast, Int.toNat_zero, Int.reduceLE, Int.reduceLT, Int.reduceEq, Int.reduceNe, gb_T, gb_F, Int.reduceToNat, eq_self, true_or, or_true, and_true, true_and, and_self, ↓ite_gb0, ↓ite_gbn, ↓if_pos, ↓if_neg, if_true, if_false, not_true_eq_false, not_false_eq_true, gb_ne0, gb_eq0]
      · have e : gpan (σ 290 a1.toNat) a3 = -1000000001 := by unfold gpan; rw [if_neg c1, if_neg (by omega)]
        rw [e, if_neg (by omega)]
        simp (disch := first | assumption | exact gb_01 _ | omega) only [r_V_set_0, r_V_set_1, r_V_set_4, r_V_set_5, r_V_set_6, r_V_set_7, r_V_set_10, r_V_set_11, r_V_set_13, r_V_set_16, r_V_set_18, r_V_set_19, r_V_set_20, r_V_set_23, r_V_set_24, r_V_set_25, r_V_set_26, r_V_set_27, r_V_set_28, r_V_set_29, r_V_set_30, r_V_set_31, r_V_set_32, r_V_set_34, r_V_set_37, r_V_set_38, r_V_set_40, r_V_set_42, r_V_set_45, r_V_set_48, r_V_set_50, r_V_set_51, r_V_set_52, r_V_set_55, r_V_set_56, r_V_set_57, r_V_set_58, r_V_set_59, r_V_set_60, r_V_set_61, gq_27_5, gq_282_0, gq_282_1, gq_282_2, gq_293_4, gq_293_5, gq_293_6, gq_293_24, g1, w32_gb, w32i, tn_add, tn_mul, Int.toNat_natCast, Int.toNat_zero, Int.reduceLE, Int.reduceLT, Int.reduceEq, Int.reduceNe, gb_T, gb_F, Int.reduceToNat, eq_self, true_or, or_true, and_true, true_and, and_self, ↓ite_gb0, ↓ite_gbn, ↓if_pos, ↓if_neg, if_true, if_false, not_true_eq_false, not_false_eq_true, gb_ne0, gb_eq0]
theorem sp_X_put (hs : 0 ≤ a1 ∧ a1 ≤ 5 → σ 290 a1.toNat ≠ -1 → 0 ≤ σ 291 a1.toNat ∧ σ 291 a1.toNat ≤ 24) (h : gref (σ 290 a1.toNat) (σ 291 a1.toNat) a1 a2 = 0) : Run L (d + 3) 76 [vR 27, vI a1, vI a2, vI a3] σ (some (vI (gpan (σ 290 a1.toNat) a3))) (if gpan (σ 290 a1.toNat) a3 = 1 then gupd σ (284 + a1.toNat) a2.toNat (gpval (σ 290 a1.toNat) a3) else σ) := by
  refine Run_of (C' := k_X_put) rfl ?_
  show Wp L (d + 3) k_X_put 0 [vR 27, vI a1, vI a2, vI a3, vU] [] σ _
  obtain ⟨K27, K28, K29, K78, K97, K99, K109, K123, K125, K279, K282⟩ := litX
  have h0 := gref0.1 h
  have h1 := h0.1
  have h2 := hs h0.1 h0.2.1
  have hR := sp_V_set (L := L) (d := d + 1) (σ := σ) (a1 := a1) (a2 := a2) (a3 := a3) h1 (by omega)
  simp (disch := first | assumption | exact gb_01 _ | omega) only [r_X_put_0, r_X_put_1, r_X_put_2, r_X_put_3, r_X_put_6, r_X_put_8, r_X_put_10, r_X_put_13, r_X_put_14, r_X_put_17, r_X_put_18, r_X_put_19, r_X_put_23, r_X_put_26, r_X_put_28, c_X_put_20 hR, Option.toList, List.singleton_append, List.cons_append, List.nil_append, List.append_nil, gq_27_0, gq_27_1, gq_27_2, gq_27_3, gq_27_4, gq_27_5, gq_27_6, gq_28_0, gq_28_1, gq_28_2, gq_28_3, gq_28_4, gq_28_5, gq_28_6, h, w32_gb, w32i, tn_add, tn_mul, Int.toNat_natCast, Int.toNat_zero, Int.reduceLE, Int.reduceLT, Int.reduceEq, Int.reduceNe, gb_T, gb_F, Int.reduceToNat, eq_self, true_or, or_true, and_true, true_and, and_self, ↓ite_gb0, ↓ite_gbn, ↓if_pos, ↓if_neg, if_true, if_false, not_true_eq_false, not_false_eq_true, gb_ne0, gb_eq0]
theorem sp_M_put (hs : 0 ≤ a1 ∧ a1 ≤ 5 → σ 297 a1.toNat ≠ -1 → 0 ≤ σ 298 a1.toNat ∧ σ 298 a1.toNat ≤ 24) (ht : 0 ≤ a1 ∧ a1 ≤ 5 → σ 297 a1.toNat = -1 ∨ 0 ≤ σ 297 a1.toNat) (h : gref (σ 297 a1.toNat) (σ 298 a1.toNat) a1 a2 = 0) (h01 : σ 297 a1.toNat = 0 ∨ σ 297 a1.toNat = 1) : Run L (d + 3) 305 [vR 293, vI a1, vI a2, vI a3] σ (some (vI (gpan (σ 297 a1.toNat) a3))) (if gpan (σ 297 a1.toNat) a3 = 1 then gupd σ 299 (24 * a1.toNat + a2.toNat) (gpval (σ 297 a1.toNat) a3) else σ) := by
  refine Run_of (C' := k_M_put) rfl ?_
  show Wp L (d + 3) k_M_put 0 [vR 293, vI a1, vI a2, vI a3, vU] [] σ _
  obtain ⟨K293, Q293, K294, N294⟩ := litM
  obtain ⟨K282, K283, N283, K290, K291, N290, N291, K297, K298, K299, K305, N297, N298, N299, N305⟩ := litV
  have h0 := gref0.1 h
  have h1 := h0.1
  have h2 := hs h0.1 h0.2.1
  by_cases c1 : σ 297 a1.toNat = 1
  · by_cases c2 : a3 = -1000000005
    · have e : gpan (σ 297 a1.toNat) a3 = -1000000012 := by unfold gpan; rw [if_pos c1, if_pos c2]
      rw [e, if_neg (by omega)]
      simp (disch := first | assumption | exact gb_01 _ | omega) only [r_M_put_0, r_M_put_1, r_M_put_2, r_M_put_3, r_M_put_6, r_M_put_8, r_M_put_10, r_M_put_13, r_M_put_15, r_M_put_16, r_M_put_17, r_M_put_20, r_M_put_21, r_M_put_22, r_M_put_23, r_M_put_26, r_M_put_27, r_M_put_29, r_M_put_32, r_M_put_34, r_M_put_35, r_M_put_36, r_M_put_39, r_M_put_40, r_M_put_41, r_M_put_44, r_M_put_45, r_M_put_47, r_M_put_50, r_M_put_51, r_M_put_52, r_M_put_55, r_M_put_58, r_M_put_61, r_M_put_64, r_M_put_66, r_M_put_67, r_M_put_68, r_M_put_71, r_M_put_73, r_M_put_74, r_M_put_75, r_M_put_76, r_M_put_77, r_M_put_78, r_M_put_81, r_M_put_82, r_M_put_83, r_M_put_84, r_M_put_87, r_M_put_88, r_M_put_90, r_M_put_91, r_M_put_93, r_M_put_94, r_M_put_97, r_M_put_98, r_M_put_99, r_M_put_100, gq_27_5, gq_282_0, gq_282_1, gq_282_2, gq_293_4, gq_293_5, gq_293_6, gq_293_24, h, shl16, w32_gb, w32i, tn_add, tn_mul, Int.toNat_natCast, Int.toNat_zero, Int.reduceLE, Int.reduceLT, Int.reduceEq, Int.reduceNe, gb_T, gb_F, Int.reduceToNat, eq_self, true_or, or_true, and_true, true_and, and_self, ↓ite_gb0, ↓ite_gbn, ↓if_pos, ↓if_neg, if_true, if_false, not_true_eq_false, not_false_eq_true, gb_ne0, gb_eq0]
    · have e : gpan (σ 297 a1.toNat) a3 = 1 := by unfold gpan; rw [if_pos c1, if_neg c2]
      have e2 : gpval (σ 297 a1.toNat) a3 = gi2s a3 := if_pos c1
      rw [e, if_pos rfl, e2]
      simp (disch := first | assumption | exact gb_01 _ | omega) only [r_M_put_0, r_M_put_1, r_M_put_2, r_M_put_3, r_M_put_6, r_M_put_8, r_M_put_10, r_M_put_13, r_M_put_15, r_M_put_16, r_M_put_17, r_M_put_20, r_M_put_21, r_M_put_22, r_M_put_23, r_M_put_26, r_M_put_27, r_M_put_29, r_M_put_32, r_M_put_34, r_M_put_35, r_M_put_36, r_M_put_39, r_M_put_40, r_M_put_41, r_M_put_44, r_M_put_45, r_M_put_47, r_M_put_50, r_M_put_51, r_M_put_52, r_M_put_55, r_M_put_58, r_M_put_61, r_M_put_64, r_M_put_66, r_M_put_67, r_M_put_68, r_M_put_71, r_M_put_73, r_M_put_74, r_M_put_75, r_M_put_76, r_M_put_77, r_M_put_78, r_M_put_81, r_M_put_82, r_M_put_83, r_M_put_84, r_M_put_87, r_M_put_88, r_M_put_90, r_M_put_91, r_M_put_93, r_M_put_94, r_M_put_97, r_M_put_98, r_M_put_99, r_M_put_100, gq_27_5, gq_282_0, gq_282_1, gq_282_2, gq_293_4, gq_293_5, gq_293_6, gq_293_24, h, shl16, w32_gb, w32i, tn_add, tn_mul, Int.toNat_natCast, Int.toNat_zero, Int.reduceLE, Int.reduceLT, Int.reduceEq, Int.reduceNe, gb_T, gb_F, Int.reduceToNat, eq_self, true_or, or_true, and_true, true_and, and_self, ↓ite_gb0, ↓ite_gbn, ↓if_pos, ↓if_neg, if_true, if_false, not_true_eq_false, not_false_eq_true, gb_ne0, gb_eq0]
  · have e2 : gpval (σ 297 a1.toNat) a3 = a3 := if_neg c1
    by_cases c2 : a3 = -1000000005
    · have e : gpan (σ 297 a1.toNat) a3 = 1 := by unfold gpan; rw [if_neg c1, if_pos (Or.inl c2)]
      rw [e, if_pos rfl, e2]
      simp (disch := first | assumption | exact gb_01 _ | omega) only [r_M_put_0, r_M_put_1, r_M_put_2, r_M_put_3, r_M_put_6, r_M_put_8, r_M_put_10, r_M_put_13, r_M_put_15, r_M_put_16, r_M_put_17, r_M_put_20, r_M_put_21, r_M_put_22, r_M_put_23, r_M_put_26, r_M_put_27, r_M_put_29, r_M_put_32, r_M_put_34, r_M_put_35, r_M_put_36, r_M_put_39, r_M_put_40, r_M_put_41, r_M_put_44, r_M_put_45, r_M_put_47, r_M_put_50, r_M_put_51, r_M_put_52, r_M_put_55, r_M_put_58, r_M_put_61, r_M_put_64, r_M_put_66, r_M_put_67, r_M_put_68, r_M_put_71, r_M_put_73, r_M_put_74, r_M_put_75, r_M_put_76, r_M_put_77, r_M_put_78, r_M_put_81, r_M_put_82, r_M_put_83, r_M_put_84, r_M_put_87, r_M_put_88, r_M_put_90, r_M_put_91, r_M_put_93, r_M_put_94, r_M_put_97, r_M_put_98, r_M_put_99, r_M_put_100, gq_27_5, gq_282_0, gq_282_1, gq_282_2, gq_293_4, gq_293_5, gq_293_6, gq_293_24, h, shl16, w32_gb, w32i, tn_add, tn_mul, Int.toNat_natCast, Int.toNat_zero, Int.reduceLE, Int.reduceLT, Int.reduceEq, Int.reduceNe, gb_T, gb_F, Int.reduceToNat, eq_self, true_or, or_true, and_true, true_and, and_self, ↓ite_gb0, ↓ite_gbn, ↓if_pos, ↓if_neg, if_true, if_false, not_true_eq_false, not_false_eq_true, gb_ne0, gb_eq0]
    · by_cases c3 : -100000 ≤ a3 ∧ a3 ≤ 100000
      · have e : gpan (σ 297 a1.toNat) a3 = 1 := by unfold gpan; rw [if_neg c1, if_pos (Or.inr c3)]
        rw [e, if_pos rfl, e2]
        simp (disch := first | assumption | exact gb_01 _ | omega) only [r_M_put_0, r_M_put_1, r_M_put_2, r_M_put_3, r_M_put_6, r_M_put_8, r_M_put_10, r_M_put_13, r_M_put_15, r_M_put_16, r_M_put_17, r_M_put_20, r_M_put_21, r_M_put_22, r_M_put_23, r_M_put_26, r_M_put_27, r_M_put_29, r_M_put_32, r_M_put_34, r_M_put_35, r_M_put_36, r_M_put_39, r_M_put_40, r_M_put_41, r_M_put_44, r_M_put_45, r_M_put_47, r_M_put_50, r_M_put_51, r_M_put_52, r_M_put_55, r_M_put_58, r_M_put_61, r_M_put_64, r_M_put_66, r_M_put_67, r_M_put_68, r_M_put_71, r_M_put_73, r_M_put_74, r_M_put_75, r_M_put_76, r_M_put_77, r_M_put_78, r_M_put_81, r_M_put_82, r_M_put_83, r_M_put_84, r_M_put_87, r_M_put_88, r_M_put_90, r_M_put_91, r_M_put_93, r_M_put_94, r_M_put_97, r_M_put_98, r_M_put_99, r_M_put_100, gq_27_5, gq_282_0, gq_282_1, gq_282_2, gq_293_4, gq_293_5, gq_293_6, gq_293_24, h, shl16, w32_gb, w32i, tn_add, tn_mul, Int.toNat_natCast, Int.toNat_zero, Int.reduceLE, Int.reduceLT, Int.reduceEq, Int.reduceNe, gb_T, gb_F, Int.reduceToNat, eq_self, true_or, or_true, and_true, true_and, and_self, ↓ite_gb0, ↓ite_gbn, ↓if_pos, ↓if_neg, if_true, if_false, not_true_eq_false, not_false_eq_true, gb_ne0, gb_eq0]
      · have e : gpan (σ 297 a1.toNat) a3 = -1000000001 := by unfold gpan; rw [if_neg c1, if_neg (by omega)]
        rw [e, if_neg (by omega)]
        simp (disch := first | assumption | exact gb_01 _ | omega) only [r_M_put_0, r_M_put_1, r_M_put_2, r_M_put_3, r_M_put_6, r_M_put_8, r_M_put_10, r_M_put_13, r_M_put_15, r_M_put_16, r_M_put_17, r_M_put_20, r_M_put_21, r_M_put_22, r_M_put_23, r_M_put_26, r_M_put_27, r_M_put_29, r_M_put_32, r_M_put_34, r_M_put_35, r_M_put_36, r_M_put_39, r_M_put_40, r_M_put_41, r_M_put_44, r_M_put_45, r_M_put_47, r_M_put_50, r_M_put_51, r_M_put_52, r_M_put_55, r_M_put_58, r_M_put_61, r_M_put_64, r_M_put_66, r_M_put_67, r_M_put_68, r_M_put_71, r_M_put_73, r_M_put_74, r_M_put_75, r_M_put_76, r_M_put_77, r_M_put_78, r_M_put_81, r_M_put_82, r_M_put_83, r_M_put_84, r_M_put_87, r_M_put_88, r_M_put_90, r_M_put_91, r_M_put_93, r_M_put_94, r_M_put_97, r_M_put_98, r_M_put_99, r_M_put_100, gq_27_5, gq_282_0, gq_282_1, gq_282_2, gq_293_4, gq_293_5, gq_293_6, gq_293_24, h, shl16, w32_gb, w32i, tn_add, tn_mul, Int.toNat_natCast, Int.toNat_zero, Int.reduceLE, Int.reduceLT, Int.reduceEq, Int.reduceNe, gb_T, gb_F, Int.reduceToNat, eq_self, true_or, or_true, and_true, true_and, and_self, ↓ite_gb0, ↓ite_gbn, ↓if_pos, ↓if_neg, if_true, if_false, not_true_eq_false, not_false_eq_true, gb_ne0, gb_eq0]
theorem gi2s_bd (x : Int) : -32768 ≤ gi2s x ∧ gi2s x ≤ 32767 := by
  unfold gi2s
  omega
theorem op_put (a1 a2 a3 : Int) : Op 76 305 [vI a1, vI a2, vI a3] := by
  intro L d σ hI
  have hT := iTs hI
  have hs1 : 0 ≤ a1 ∧ a1 ≤ 5 → σ 290 a1.toNat ≠ -1 → 0 ≤ σ 291 a1.toNat ∧ σ 291 a1.toNat ≤ 24 := fun h1 h2 => by
    obtain ⟨s1, s2, s3, s4, s5⟩ := hT a1.toNat (by omega)
    rw [s3 (by omega)]
    exact s4
  have hs2 : 0 ≤ a1 ∧ a1 ≤ 5 → σ 297 a1.toNat ≠ -1 → 0 ≤ σ 298 a1.toNat ∧ σ 298 a1.toNat ≤ 24 := fun h1 h2 => (hT a1.toNat (by omega)).2.2.2.1
  have ht2 : 0 ≤ a1 ∧ a1 ≤ 5 → σ 297 a1.toNat = -1 ∨ 0 ≤ σ 297 a1.toNat := fun h1 => by
    have := (hT a1.toNat (by omega)).2.1
    omega
  have hr : gref (σ 290 a1.toNat) (σ 291 a1.toNat) a1 a2 = gref (σ 297 a1.toNat) (σ 298 a1.toNat) a1 a2 := by
    unfold gref
    by_cases c : 0 ≤ a1 ∧ a1 ≤ 5
    · obtain ⟨s1, s2, s3, s4, s5⟩ := hT a1.toNat (by omega)
      rw [if_pos c, if_pos c, s1]
      by_cases c2 : σ 297 a1.toNat = -1
      · rw [if_pos c2, if_pos c2]
      · rw [if_neg c2, if_neg c2, s3 c2]
    · rw [if_neg c, if_neg c]
  
  by_cases h : gref (σ 290 a1.toNat) (σ 291 a1.toNat) a1 a2 = 0
  · have h0 := gref0.1 h
    have b := hs1 h0.1 h0.2.1
    obtain ⟨s1, s2, s3, s4, s5⟩ := hT a1.toNat (by omega)
    have x1 := sp_X_put (L := L) (d := d + 997) (a3 := a3) hs1 h
    by_cases c : gpan (σ 290 a1.toNat) a3 = 1
    · rw [if_pos c] at x1
      have e : ∀ k j, ¬ k = 284 + a1.toNat → gupd σ (284 + a1.toNat) a2.toNat (gpval (σ 290 a1.toNat) a3) k j = σ k j := fun k j hk => gupd_ne (by omega)
      have x2 := sp_M_put (L := L) (d := d + 997) (σ := gupd σ (284 + a1.toNat) a2.toNat (gpval (σ 290 a1.toNat) a3)) (a1 := a1) (a2 := a2) (a3 := a3) (by rw [e _ _ (by omega), e _ _ (by omega)]; exact hs2) (by rw [e _ _ (by omega)]; exact ht2) (by rw [e _ _ (by omega), e _ _ (by omega), ← hr]; exact h) (by rw [e _ _ (by omega)]; omega)
      rw [e 297 _ (by omega), ← s1, if_pos c] at x2
      refine ⟨_, _, _, x1, x2, ?_⟩
      refine Inv_mk (P := fun k j => (284 ≤ k ∧ k ≤ 291) ∨ (297 ≤ k ∧ k ≤ 299)) hI (Agr_upd (Agr_upd (Agr_refl _ _) (by omega)) (by omega)) (Or.inl (fun k j hz hp => by unfold ZB at hz; omega)) (Or.inl (fun k j hz hp => by unfold ZT at hz; omega)) (Or.inl (fun k j hz hp => by unfold ZG at hz; omega)) (Or.inl (fun k j hz hp => by unfold ZS at hz; omega)) (Or.inl (fun k j hz hp => by unfold ZW at hz; omega)) (Or.inl (fun k j hz hp => by unfold ZP at hz; omega)) (Or.inl (fun k j hz hp => by unfold ZR ZK at hz; omega)) (Or.inl (fun k j hz hp => by unfold ZM at hz; omega)) (Or.inl (fun k j hz hp => by unfold ZTape at hz; omega)) (Or.inr ?_) (Or.inl (fun k j hz hp => by unfold ZWait at hz; omega)) (Or.inl (fun k j hz hp => by unfold ZImg at hz; omega))
      intro t ht
      obtain ⟨q1, q2, q3, q4, q5⟩ := hT t ht
      have f : ∀ k j, ¬ k = 284 + a1.toNat → ¬ k = 299 → gupd (gupd σ (284 + a1.toNat) a2.toNat (gpval (σ 290 a1.toNat) a3)) 299 (24 * a1.toNat + a2.toNat) (gpval (σ 290 a1.toNat) a3) k j = σ k j := fun k j hk hk2 => by rw [gupd_ne (by omega), gupd_ne (by omega)]
      rw [f 290 t (by omega) (by omega), f 297 t (by omega) (by omega), f 291 t (by omega) (by omega), f 298 t (by omega) (by omega)]
      refine ⟨q1, q2, q3, q4, fun j hj => ?_⟩
      by_cases z : t = a1.toNat ∧ j = a2.toNat
      · rw [z.1, z.2, gupd_ne (by omega), gupd_eq, gupd_eq]
        refine ⟨rfl, fun w => ?_, fun w => ?_⟩
        · rw [s1] at c ⊢
          unfold gpan at c
          unfold gpval
          rw [if_neg (by omega)] at c ⊢
          split at c
          · omega
          · omega
        · rw [s1]
          unfold gpval
          rw [if_pos w]
          exact gi2s_bd a3
      · rw [gupd_ne (k := 299) (k' := 284 + t) (by omega), gupd_ne (k' := 284 + t) (by omega), gupd_ne (k := 299) (k' := 299) (by omega), gupd_ne (k' := 299) (by omega)]
        exact q5 j hj
    · rw [if_neg c] at x1
      have x2 := sp_M_put (L := L) (d := d + 997) (σ := σ) (a1 := a1) (a2 := a2) (a3 := a3) hs2 ht2 (by rw [← hr]; exact h) (by omega)
      rw [← s1, if_neg c] at x2
      exact ⟨_, _, _, x1, x2, hI⟩
  · exact ⟨_, _, _, sp_X_put_r hs1 h, Run_r (sp_M_put_r hs2 ht2 (by rw [← hr]; exact h)) hr.symm, hI⟩
