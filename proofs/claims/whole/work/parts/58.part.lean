/-! spans, part. -/
variable {L d : Nat} {σ σ1 : Nat → Nat → Int} {Q : Option gV → (Nat → Nat → Int) → Prop} {a0 a1 a2 a3 a4 a5 a6 a7 a8 a9 a10 a11 s0 s1 s2 s3 s4 s5 s6 s7 s8 s9 : Int} {l0 l1 l2 l3 l4 l5 l6 l7 l8 l9 l10 l11 t0 t1 t2 t3 t4 t5 t6 t7 t8 t9 : gV} {b0 b1 b2 b3 b4 b5 b6 b7 b8 b9 b10 b11 c0 c1 c2 c3 c4 c5 c6 c7 c8 c9 : Nat} {r : Option gV}
theorem r_B_layOut_0 : Wp L d k_B_layOut 0 [vR b0, l1, l2] [] σ Q ↔ Wp L d k_B_layOut 1 [vR b0, l1, l2] [vR b0] σ Q := wp_aload rfl rfl
theorem r_B_layOut_1 : Wp L d k_B_layOut 1 [l0, vI a1, l2] [vR c0] σ Q ↔ Wp L d k_B_layOut 2 [l0, vI a1, l2] [vI a1, vR c0] σ Q := wp_iload rfl rfl
theorem r_B_layOut_2 (h : gK c0 = 1) : Wp L d k_B_layOut 2 [l0, l1, l2] [vI s1, vR c0] σ Q ↔ Wp L d k_B_layOut 5 [l0, l1, l2] [] (gupd σ c0 8 s1) Q := wp_putI (c := 264) rfl rfl rfl rfl h
theorem r_B_layOut_5 : Wp L d k_B_layOut 5 [l0, l1, l2] [] σ Q ↔ Wp L d k_B_layOut 6 [l0, l1, l2] [vI 0] σ Q := wp_push rfl
theorem r_B_layOut_6 : Wp L d k_B_layOut 6 [l0, vI a1, l2] [vI s0] σ Q ↔ Wp L d k_B_layOut 7 [l0, vI a1, vI s0] [] σ Q := wp_istore (i := 2) (ls := [l0, vI a1, l2]) rfl rfl
theorem r_B_layOut_7 : Wp L d k_B_layOut 7 [l0, l1, vI a2] [] σ Q ↔ Wp L d k_B_layOut 8 [l0, l1, vI a2] [vI a2] σ Q := wp_iload rfl rfl
theorem r_B_layOut_8 : Wp L d k_B_layOut 8 [l0, l1, l2] [vI s0] σ Q ↔ Wp L d k_B_layOut 10 [l0, l1, l2] [vI 12, vI s0] σ Q := wp_push rfl
theorem r_B_layOut_10 : Wp L d k_B_layOut 10 [l0, l1, l2] [vI s1, vI s0] σ Q ↔ (if s1 ≤ s0 then Wp L d k_B_layOut 42 [l0, l1, l2] [] σ Q else Wp L d k_B_layOut 13 [l0, l1, l2] [] σ Q) := wp_cmp_ge rfl
theorem r_B_layOut_13 : Wp L d k_B_layOut 13 [vR b0, l1, l2] [] σ Q ↔ Wp L d k_B_layOut 14 [vR b0, l1, l2] [vR b0] σ Q := wp_aload rfl rfl
theorem r_B_layOut_14 (h : gK c0 = 1) : Wp L d k_B_layOut 14 [l0, l1, l2] [vR c0] σ Q ↔ Wp L d k_B_layOut 17 [l0, l1, l2] [vR (gq c0 0)] σ Q := wp_getR (c := 384) rfl rfl rfl rfl rfl h
theorem r_B_layOut_17 : Wp L d k_B_layOut 17 [l0, l1, vI a2] [vR c0] σ Q ↔ Wp L d k_B_layOut 18 [l0, l1, vI a2] [vI a2, vR c0] σ Q := wp_iload rfl rfl
theorem r_B_layOut_18 : Wp L d k_B_layOut 18 [l0, l1, l2] [vI s1, vR c0] σ Q ↔ Wp L d k_B_layOut 20 [l0, l1, l2] [vI 10, vI s1, vR c0] σ Q := wp_push rfl
theorem r_B_layOut_20 (h : gK c0 = 100) (hx : 0 ≤ s1 ∧ s1 < gN c0) : Wp L d k_B_layOut 20 [l0, l1, l2] [vI s2, vI s1, vR c0] σ Q ↔ Wp L d k_B_layOut 21 [l0, l1, l2] [] (gupd σ c0 s1.toNat s2) Q := wp_iast rfl h hx
theorem r_B_layOut_21 : Wp L d k_B_layOut 21 [vR b0, l1, l2] [] σ Q ↔ Wp L d k_B_layOut 22 [vR b0, l1, l2] [vR b0] σ Q := wp_aload rfl rfl
theorem r_B_layOut_22 (h : gK c0 = 1) : Wp L d k_B_layOut 22 [l0, l1, l2] [vR c0] σ Q ↔ Wp L d k_B_layOut 25 [l0, l1, l2] [vR (gq c0 1)] σ Q := wp_getR (c := 385) rfl rfl rfl rfl rfl h
theorem r_B_layOut_25 : Wp L d k_B_layOut 25 [l0, l1, vI a2] [vR c0] σ Q ↔ Wp L d k_B_layOut 26 [l0, l1, vI a2] [vI a2, vR c0] σ Q := wp_iload rfl rfl
theorem r_B_layOut_26 : Wp L d k_B_layOut 26 [l0, l1, l2] [vI s1, vR c0] σ Q ↔ Wp L d k_B_layOut 28 [l0, l1, l2] [vI 10, vI s1, vR c0] σ Q := wp_push rfl
theorem r_B_layOut_28 (h : gK c0 = 100) (hx : 0 ≤ s1 ∧ s1 < gN c0) : Wp L d k_B_layOut 28 [l0, l1, l2] [vI s2, vI s1, vR c0] σ Q ↔ Wp L d k_B_layOut 29 [l0, l1, l2] [] (gupd σ c0 s1.toNat s2) Q := wp_iast rfl h hx
theorem r_B_layOut_29 : Wp L d k_B_layOut 29 [vR b0, l1, l2] [] σ Q ↔ Wp L d k_B_layOut 30 [vR b0, l1, l2] [vR b0] σ Q := wp_aload rfl rfl
theorem r_B_layOut_30 (h : gK c0 = 1) : Wp L d k_B_layOut 30 [l0, l1, l2] [vR c0] σ Q ↔ Wp L d k_B_layOut 33 [l0, l1, l2] [vR (gq c0 2)] σ Q := wp_getR (c := 386) rfl rfl rfl rfl rfl h
theorem r_B_layOut_33 : Wp L d k_B_layOut 33 [l0, l1, vI a2] [vR c0] σ Q ↔ Wp L d k_B_layOut 34 [l0, l1, vI a2] [vI a2, vR c0] σ Q := wp_iload rfl rfl
theorem r_B_layOut_34 : Wp L d k_B_layOut 34 [l0, l1, l2] [vI s1, vR c0] σ Q ↔ Wp L d k_B_layOut 35 [l0, l1, l2] [vI 0, vI s1, vR c0] σ Q := wp_push rfl
theorem r_B_layOut_35 (h : gK c0 = 101) (hx : 0 ≤ s1 ∧ s1 < gN c0) (hy : s2 = 0 ∨ s2 = 1) : Wp L d k_B_layOut 35 [l0, l1, l2] [vI s2, vI s1, vR c0] σ Q ↔ Wp L d k_B_layOut 36 [l0, l1, l2] [] (gupd σ c0 s1.toNat s2) Q := wp_bast rfl h hx hy
theorem r_B_layOut_36 : Wp L d k_B_layOut 36 [l0, vI a1, vI a2] [] σ Q ↔ Wp L d k_B_layOut 39 [l0, vI a1, vI (w32 (a2 + 1))] [] σ Q := wp_iinc (i := 2) (ls := [l0, vI a1, vI a2]) rfl rfl
theorem r_B_layOut_39 : Wp L d k_B_layOut 39 [l0, l1, l2] [] σ Q ↔ Wp L d k_B_layOut 7 [l0, l1, l2] [] σ Q := wp_goto rfl
theorem r_B_layOut_42 : Wp L d k_B_layOut 42 [vR b0, l1, l2] [] σ Q ↔ Wp L d k_B_layOut 43 [vR b0, l1, l2] [vR b0] σ Q := wp_aload rfl rfl
theorem r_B_layOut_43 : Wp L d k_B_layOut 43 [l0, l1, l2] [vR c0] σ Q ↔ Wp L d k_B_layOut 45 [l0, l1, l2] [vI (-1000000005), vR c0] σ Q := wp_push rfl
theorem r_B_layOut_48 : Wp L d k_B_layOut 48 [l0, l1, l2] [vI s0] σ Q ↔ Wp L d k_B_layOut 49 [l0, l1, l2] [] σ Q := wp_pop rfl
theorem r_B_layOut_49 : Wp L d k_B_layOut 49 [l0, l1, l2] [] σ Q ↔ Q none σ := wp_vret rfl
theorem r_B_layOut_45 (hk : gK c0 = 1) : Wp L (d + 1) k_B_layOut 45 [l0, l1, l2] [vI s1, vR c0] σ Q ↔ Wp L (d + 1) k_B_layOut 48 [l0, l1, l2] [vI (σ c0 12)] (gupd (gupd σ c0 12 s1) c0 13 0) Q := wp_callR (d := d + 0) (as := [vR c0, vI s1]) (rest := []) rfl rfl rfl rfl rfl rfl rfl (grecv_k (by rw [hk]) rfl) (sp_B_placeTrain0 hk)
theorem sp_B_layOut {b : Nat} (hB : BR b) : ∃ σ', Run L (d + 1) 90 [vR b, vI a1] σ none σ' ∧ (σ' b 8 = a1 ∧ σ' b 12 = -1000000005 ∧ σ' b 13 = 0 ∧ ∀ k : Nat, k < 12 → σ' (b + 1) k = 10 ∧ σ' (b + 2) k = 10 ∧ σ' (b + 3) k = 0) ∧ Agr σ σ' (fun k j => (k = b ∧ (j = 8 ∨ j = 12 ∨ j = 13)) ∨ (b + 1 ≤ k ∧ k ≤ b + 3)) := by
  refine Run_ex (C' := k_B_layOut) rfl ?_
  show Wp L (d + 1) k_B_layOut 0 [vR b, vI a1, vU] [] σ _
  obtain ⟨⟨K0, q0, q1, q2, q3, q4, q5, q6, q7⟩, ⟨K1, K2, K3, K4, K5, K6, K7, K8⟩, ⟨N1, N2, N3, N4, N5, N6, N7, N8⟩, QP, KP⟩ := hB
  simp (disch := first | assumption | exact gb_01 _ | omega) only [r_B_layOut_0, r_B_layOut_1, r_B_layOut_2, r_B_layOut_5, r_B_layOut_6, r_B_layOut_8, r_B_layOut_10, r_B_layOut_13, r_B_layOut_14, r_B_layOut_17, r_B_layOut_18, r_B_layOut_20, r_B_layOut_21, r_B_layOut_22, r_B_layOut_25, r_B_layOut_26, r_B_layOut_28, r_B_layOut_29, r_B_layOut_30, r_B_layOut_33, r_B_layOut_34, r_B_layOut_35, r_B_layOut_36, r_B_layOut_39, r_B_layOut_42, r_B_layOut_43, r_B_layOut_45, r_B_layOut_48, r_B_layOut_49, q0, q1, q2, q3, q4, q5, q6, q7, QP, w32_gb, w32i, tn_add, tn_mul, Int.toNat_natCast, Int.toNat_zero, Int.reduceLE, Int.reduceLT, Int.reduceEq, Int.reduceNe, gb_T, gb_F, Int.reduceToNat, eq_self, true_or, or_true, and_true, true_and, and_self, ↓ite_gb0, ↓ite_gbn, ↓if_pos, ↓if_neg, if_true, if_false, not_true_eq_false, not_false_eq_true, gb_ne0, gb_eq0]
  refine wloop (n := 12) (I := fun k ls τ => ls = [vR b, vI a1, vI (k : Int)] ∧ τ b 8 = a1 ∧ (∀ i : Nat, i < k → τ (b + 1) i = 10 ∧ τ (b + 2) i = 10 ∧ τ (b + 3) i = 0) ∧ Agr σ τ (fun k j => (k = b ∧ (j = 8 ∨ j = 12 ∨ j = 13)) ∨ (b + 1 ≤ k ∧ k ≤ b + 3))) (fun k ls τ hk hi hq => ?_) (fun ls τ hi => ?_) 12 0 (by omega) _ _ ⟨rfl, gupd_eq, fun i hi => by omega, Agr_upd (Agr_refl _ _) (by omega)⟩
  · obtain ⟨rfl, h1, h2, hA⟩ := hi
    rw [r_B_layOut_7]
    simp (disch := first | assumption | exact gb_01 _ | omega) only [r_B_layOut_0, r_B_layOut_1, r_B_layOut_2, r_B_layOut_5, r_B_layOut_6, r_B_layOut_8, r_B_layOut_10, r_B_layOut_13, r_B_layOut_14, r_B_layOut_17, r_B_layOut_18, r_B_layOut_20, r_B_layOut_21, r_B_layOut_22, r_B_layOut_25, r_B_layOut_26, r_B_layOut_28, r_B_layOut_29, r_B_layOut_30, r_B_layOut_33, r_B_layOut_34, r_B_layOut_35, r_B_layOut_36, r_B_layOut_39, r_B_layOut_42, r_B_layOut_43, r_B_layOut_45, r_B_layOut_48, r_B_layOut_49, q0, q1, q2, q3, q4, q5, q6, q7, QP, w32_gb, w32i, tn_add, tn_mul, Int.toNat_natCast, Int.toNat_zero, Int.reduceLE, Int.reduceLT, Int.reduceEq, Int.reduceNe, gb_T, gb_F, Int.reduceToNat, eq_self, true_or, or_true, and_true, true_and, and_self, ↓ite_gb0, ↓ite_gbn, ↓if_pos, ↓if_neg, if_true, if_false, not_true_eq_false, not_false_eq_true, gb_ne0, gb_eq0]
    refine hq _ _ ⟨by simp only [List.cons.injEq, vI_inj, vR_inj, and_true, true_and]; omega, ?_, fun i hi => ?_, Agr_upd (Agr_upd (Agr_upd hA (by omega)) (by omega)) (by omega)⟩
    · rw [gupd_ne (by omega), gupd_ne (by omega), gupd_ne (by omega)]
      exact h1
    · by_cases e : i = k
      · rw [e]
        simp (disch := omega) only [gupd_ne, gupd_eq, and_self]
      · simp (disch := omega) only [gupd_ne]
        exact h2 i (by omega)
  · obtain ⟨rfl, h1, h2, hA⟩ := hi
    rw [r_B_layOut_7]
    simp (disch := first | assumption | exact gb_01 _ | omega) only [r_B_layOut_0, r_B_layOut_1, r_B_layOut_2, r_B_layOut_5, r_B_layOut_6, r_B_layOut_8, r_B_layOut_10, r_B_layOut_13, r_B_layOut_14, r_B_layOut_17, r_B_layOut_18, r_B_layOut_20, r_B_layOut_21, r_B_layOut_22, r_B_layOut_25, r_B_layOut_26, r_B_layOut_28, r_B_layOut_29, r_B_layOut_30, r_B_layOut_33, r_B_layOut_34, r_B_layOut_35, r_B_layOut_36, r_B_layOut_39, r_B_layOut_42, r_B_layOut_43, r_B_layOut_45, r_B_layOut_48, r_B_layOut_49, q0, q1, q2, q3, q4, q5, q6, q7, QP, w32_gb, w32i, tn_add, tn_mul, Int.toNat_natCast, Int.toNat_zero, Int.reduceLE, Int.reduceLT, Int.reduceEq, Int.reduceNe, gb_T, gb_F, Int.reduceToNat, eq_self, true_or, or_true, and_true, true_and, and_self, ↓ite_gb0, ↓ite_gbn, ↓if_pos, ↓if_neg, if_true, if_false, not_true_eq_false, not_false_eq_true, gb_ne0, gb_eq0]
    refine ⟨⟨?_, ?_, ?_, fun k hk => ?_⟩, Agr_upd (Agr_upd hA (by omega)) (by omega)⟩
    · simp (disch := omega) only [gupd_ne]
      exact h1
    · simp (disch := omega) only [gupd_ne, gupd_eq]
    · rw [gupd_eq]
    · simp (disch := omega) only [gupd_ne]
      exact h2 k hk
theorem r_M_begins_0 : Wp L d k_M_begins 0 [vR b0, l1, l2] [] σ Q ↔ Wp L d k_M_begins 1 [vR b0, l1, l2] [vR b0] σ Q := wp_aload rfl rfl
theorem r_M_begins_1 (h : gK c0 = 12) : Wp L d k_M_begins 1 [l0, l1, l2] [vR c0] σ Q ↔ Wp L d k_M_begins 4 [l0, l1, l2] [vR (gq c0 0)] σ Q := wp_getR (c := 3200) rfl rfl rfl rfl rfl h
theorem r_M_begins_4 : Wp L d k_M_begins 4 [l0, l1, l2] [vR c0] σ Q ↔ Wp L d k_M_begins 5 [l0, l1, l2] [vI 0, vR c0] σ Q := wp_push rfl
theorem r_M_begins_5 : Wp L d k_M_begins 5 [l0, vI a1, l2] [vI s1, vR c0] σ Q ↔ Wp L d k_M_begins 6 [l0, vI a1, l2] [vI a1, vI s1, vR c0] σ Q := wp_iload rfl rfl
theorem r_M_begins_6 (h : gK c0 = 100) (hx : 0 ≤ s1 ∧ s1 < gN c0) : Wp L d k_M_begins 6 [l0, l1, l2] [vI s2, vI s1, vR c0] σ Q ↔ Wp L d k_M_begins 7 [l0, l1, l2] [] (gupd σ c0 s1.toNat s2) Q := wp_iast rfl h hx
theorem r_M_begins_7 : Wp L d k_M_begins 7 [l0, l1, l2] [] σ Q ↔ Wp L d k_M_begins 8 [l0, l1, l2] [vI 0] σ Q := wp_push rfl
theorem r_M_begins_8 : Wp L d k_M_begins 8 [l0, vI a1, l2] [vI s0] σ Q ↔ Wp L d k_M_begins 9 [l0, vI a1, vI s0] [] σ Q := wp_istore (i := 2) (ls := [l0, vI a1, l2]) rfl rfl
theorem r_M_begins_9 : Wp L d k_M_begins 9 [l0, l1, vI a2] [] σ Q ↔ Wp L d k_M_begins 10 [l0, l1, vI a2] [vI a2] σ Q := wp_iload rfl rfl
theorem r_M_begins_10 : Wp L d k_M_begins 10 [l0, vI a1, l2] [vI s0] σ Q ↔ Wp L d k_M_begins 11 [l0, vI a1, l2] [vI a1, vI s0] σ Q := wp_iload rfl rfl
theorem r_M_begins_11 : Wp L d k_M_begins 11 [l0, l1, l2] [vI s1, vI s0] σ Q ↔ (if s1 ≤ s0 then Wp L d k_M_begins 59 [l0, l1, l2] [] σ Q else Wp L d k_M_begins 14 [l0, l1, l2] [] σ Q) := wp_cmp_ge rfl
theorem r_M_begins_14 : Wp L d k_M_begins 14 [vR b0, l1, l2] [] σ Q ↔ Wp L d k_M_begins 15 [vR b0, l1, l2] [vR b0] σ Q := wp_aload rfl rfl
theorem r_M_begins_15 (h : gK c0 = 12) : Wp L d k_M_begins 15 [l0, l1, l2] [vR c0] σ Q ↔ Wp L d k_M_begins 18 [l0, l1, l2] [vR (gq c0 0)] σ Q := wp_getR (c := 3200) rfl rfl rfl rfl rfl h
theorem r_M_begins_18 : Wp L d k_M_begins 18 [vR b0, l1, l2] [vR c0] σ Q ↔ Wp L d k_M_begins 19 [vR b0, l1, l2] [vR b0, vR c0] σ Q := wp_aload rfl rfl
theorem r_M_begins_19 : Wp L d k_M_begins 19 [l0, l1, vI a2] [vR c1, vR c0] σ Q ↔ Wp L d k_M_begins 20 [l0, l1, vI a2] [vI a2, vR c1, vR c0] σ Q := wp_iload rfl rfl
theorem r_M_begins_23 : Wp L d k_M_begins 23 [l0, l1, l2] [vI s1, vR c0] σ Q ↔ Wp L d k_M_begins 25 [l0, l1, l2] [vI 10, vI s1, vR c0] σ Q := wp_push rfl
theorem r_M_begins_25 (h : gK c0 = 100) (hx : 0 ≤ s1 ∧ s1 < gN c0) : Wp L d k_M_begins 25 [l0, l1, l2] [vI s2, vI s1, vR c0] σ Q ↔ Wp L d k_M_begins 26 [l0, l1, l2] [] (gupd σ c0 s1.toNat s2) Q := wp_iast rfl h hx
theorem r_M_begins_26 : Wp L d k_M_begins 26 [vR b0, l1, l2] [] σ Q ↔ Wp L d k_M_begins 27 [vR b0, l1, l2] [vR b0] σ Q := wp_aload rfl rfl
theorem r_M_begins_27 (h : gK c0 = 12) : Wp L d k_M_begins 27 [l0, l1, l2] [vR c0] σ Q ↔ Wp L d k_M_begins 30 [l0, l1, l2] [vR (gq c0 0)] σ Q := wp_getR (c := 3200) rfl rfl rfl rfl rfl h
theorem r_M_begins_30 : Wp L d k_M_begins 30 [vR b0, l1, l2] [vR c0] σ Q ↔ Wp L d k_M_begins 31 [vR b0, l1, l2] [vR b0, vR c0] σ Q := wp_aload rfl rfl
theorem r_M_begins_31 : Wp L d k_M_begins 31 [l0, l1, vI a2] [vR c1, vR c0] σ Q ↔ Wp L d k_M_begins 32 [l0, l1, vI a2] [vI a2, vR c1, vR c0] σ Q := wp_iload rfl rfl
theorem r_M_begins_35 : Wp L d k_M_begins 35 [l0, l1, l2] [vI s1, vR c0] σ Q ↔ Wp L d k_M_begins 36 [l0, l1, l2] [vI 1, vI s1, vR c0] σ Q := wp_push rfl
theorem r_M_begins_36 : Wp L d k_M_begins 36 [l0, l1, l2] [vI s2, vI s1, vR c0] σ Q ↔ Wp L d k_M_begins 37 [l0, l1, l2] [vI (w32 (s1 + s2)), vR c0] σ Q := wp_iadd rfl
theorem r_M_begins_37 : Wp L d k_M_begins 37 [l0, l1, l2] [vI s1, vR c0] σ Q ↔ Wp L d k_M_begins 39 [l0, l1, l2] [vI 10, vI s1, vR c0] σ Q := wp_push rfl
theorem r_M_begins_39 (h : gK c0 = 100) (hx : 0 ≤ s1 ∧ s1 < gN c0) : Wp L d k_M_begins 39 [l0, l1, l2] [vI s2, vI s1, vR c0] σ Q ↔ Wp L d k_M_begins 40 [l0, l1, l2] [] (gupd σ c0 s1.toNat s2) Q := wp_iast rfl h hx
theorem r_M_begins_40 : Wp L d k_M_begins 40 [vR b0, l1, l2] [] σ Q ↔ Wp L d k_M_begins 41 [vR b0, l1, l2] [vR b0] σ Q := wp_aload rfl rfl
theorem r_M_begins_41 (h : gK c0 = 12) : Wp L d k_M_begins 41 [l0, l1, l2] [vR c0] σ Q ↔ Wp L d k_M_begins 44 [l0, l1, l2] [vR (gq c0 0)] σ Q := wp_getR (c := 3200) rfl rfl rfl rfl rfl h
theorem r_M_begins_44 : Wp L d k_M_begins 44 [vR b0, l1, l2] [vR c0] σ Q ↔ Wp L d k_M_begins 45 [vR b0, l1, l2] [vR b0, vR c0] σ Q := wp_aload rfl rfl
theorem r_M_begins_45 : Wp L d k_M_begins 45 [l0, l1, vI a2] [vR c1, vR c0] σ Q ↔ Wp L d k_M_begins 46 [l0, l1, vI a2] [vI a2, vR c1, vR c0] σ Q := wp_iload rfl rfl
theorem r_M_begins_49 : Wp L d k_M_begins 49 [l0, l1, l2] [vI s1, vR c0] σ Q ↔ Wp L d k_M_begins 50 [l0, l1, l2] [vI 2, vI s1, vR c0] σ Q := wp_push rfl
theorem r_M_begins_50 : Wp L d k_M_begins 50 [l0, l1, l2] [vI s2, vI s1, vR c0] σ Q ↔ Wp L d k_M_begins 51 [l0, l1, l2] [vI (w32 (s1 + s2)), vR c0] σ Q := wp_iadd rfl
theorem r_M_begins_51 : Wp L d k_M_begins 51 [l0, l1, l2] [vI s1, vR c0] σ Q ↔ Wp L d k_M_begins 52 [l0, l1, l2] [vI 0, vI s1, vR c0] σ Q := wp_push rfl
theorem r_M_begins_52 (h : gK c0 = 100) (hx : 0 ≤ s1 ∧ s1 < gN c0) : Wp L d k_M_begins 52 [l0, l1, l2] [vI s2, vI s1, vR c0] σ Q ↔ Wp L d k_M_begins 53 [l0, l1, l2] [] (gupd σ c0 s1.toNat s2) Q := wp_iast rfl h hx
theorem r_M_begins_53 : Wp L d k_M_begins 53 [l0, vI a1, vI a2] [] σ Q ↔ Wp L d k_M_begins 56 [l0, vI a1, vI (w32 (a2 + 1))] [] σ Q := wp_iinc (i := 2) (ls := [l0, vI a1, vI a2]) rfl rfl
theorem r_M_begins_56 : Wp L d k_M_begins 56 [l0, l1, l2] [] σ Q ↔ Wp L d k_M_begins 9 [l0, l1, l2] [] σ Q := wp_goto rfl
theorem r_M_begins_59 : Wp L d k_M_begins 59 [vR b0, l1, l2] [] σ Q ↔ Wp L d k_M_begins 60 [vR b0, l1, l2] [vR b0] σ Q := wp_aload rfl rfl
theorem r_M_begins_60 (h : gK c0 = 12) : Wp L d k_M_begins 60 [l0, l1, l2] [vR c0] σ Q ↔ Wp L d k_M_begins 63 [l0, l1, l2] [vR (gq c0 0)] σ Q := wp_getR (c := 3200) rfl rfl rfl rfl rfl h
theorem r_M_begins_63 : Wp L d k_M_begins 63 [l0, l1, l2] [vR c0] σ Q ↔ Wp L d k_M_begins 65 [l0, l1, l2] [vI 11, vR c0] σ Q := wp_push rfl
theorem r_M_begins_65 : Wp L d k_M_begins 65 [l0, l1, l2] [vI s1, vR c0] σ Q ↔ Wp L d k_M_begins 66 [l0, l1, l2] [vI (-1), vI s1, vR c0] σ Q := wp_push rfl
theorem r_M_begins_66 (h : gK c0 = 100) (hx : 0 ≤ s1 ∧ s1 < gN c0) : Wp L d k_M_begins 66 [l0, l1, l2] [vI s2, vI s1, vR c0] σ Q ↔ Wp L d k_M_begins 67 [l0, l1, l2] [] (gupd σ c0 s1.toNat s2) Q := wp_iast rfl h hx
theorem r_M_begins_67 : Wp L d k_M_begins 67 [vR b0, l1, l2] [] σ Q ↔ Wp L d k_M_begins 68 [vR b0, l1, l2] [vR b0] σ Q := wp_aload rfl rfl
theorem r_M_begins_68 (h : gK c0 = 12) : Wp L d k_M_begins 68 [l0, l1, l2] [vR c0] σ Q ↔ Wp L d k_M_begins 71 [l0, l1, l2] [vR (gq c0 0)] σ Q := wp_getR (c := 3200) rfl rfl rfl rfl rfl h
theorem r_M_begins_71 : Wp L d k_M_begins 71 [l0, l1, l2] [vR c0] σ Q ↔ Wp L d k_M_begins 73 [l0, l1, l2] [vI 12, vR c0] σ Q := wp_push rfl
theorem r_M_begins_73 : Wp L d k_M_begins 73 [l0, l1, l2] [vI s1, vR c0] σ Q ↔ Wp L d k_M_begins 74 [l0, l1, l2] [vI 0, vI s1, vR c0] σ Q := wp_push rfl
theorem r_M_begins_74 (h : gK c0 = 100) (hx : 0 ≤ s1 ∧ s1 < gN c0) : Wp L d k_M_begins 74 [l0, l1, l2] [vI s2, vI s1, vR c0] σ Q ↔ Wp L d k_M_begins 75 [l0, l1, l2] [] (gupd σ c0 s1.toNat s2) Q := wp_iast rfl h hx
theorem r_M_begins_75 : Wp L d k_M_begins 75 [l0, l1, l2] [] σ Q ↔ Q none σ := wp_vret rfl
theorem r_M_begins_20 : Wp L (d + 1) k_M_begins 20 [l0, l1, l2] [vI s2, vR 293, vR c0] σ Q ↔ Wp L (d + 1) k_M_begins 23 [l0, l1, l2] [vI (w32 (20 + w32 (3 * s2))), vR c0] σ Q := wp_callR (d := d + 0) (as := [vR 293, vI s2]) (rest := [vR c0]) rfl rfl rfl rfl rfl rfl rfl (grecv_k (by rw [gK_293]) rfl) (sp_M_spanAt)
theorem r_M_begins_32 : Wp L (d + 1) k_M_begins 32 [l0, l1, l2] [vI s2, vR 293, vR c0] σ Q ↔ Wp L (d + 1) k_M_begins 35 [l0, l1, l2] [vI (w32 (20 + w32 (3 * s2))), vR c0] σ Q := wp_callR (d := d + 0) (as := [vR 293, vI s2]) (rest := [vR c0]) rfl rfl rfl rfl rfl rfl rfl (grecv_k (by rw [gK_293]) rfl) (sp_M_spanAt)
theorem r_M_begins_46 : Wp L (d + 1) k_M_begins 46 [l0, l1, l2] [vI s2, vR 293, vR c0] σ Q ↔ Wp L (d + 1) k_M_begins 49 [l0, l1, l2] [vI (w32 (20 + w32 (3 * s2))), vR c0] σ Q := wp_callR (d := d + 0) (as := [vR 293, vI s2]) (rest := [vR c0]) rfl rfl rfl rfl rfl rfl rfl (grecv_k (by rw [gK_293]) rfl) (sp_M_spanAt)
theorem sp_M_begins (h : 2 ≤ a1 ∧ a1 ≤ 12) : ∃ σ', Run L (d + 1) 192 [vR 293, vI a1] σ none σ' ∧ (σ' 294 0 = a1 ∧ σ' 294 11 = -1 ∧ σ' 294 12 = 0 ∧ ∀ k : Nat, (k : Int) < a1 → σ' 294 (20 + 3 * k) = 10 ∧ σ' 294 (20 + 3 * k + 1) = 10 ∧ σ' 294 (20 + 3 * k + 2) = 0) ∧ Agr σ σ' (fun k j => k = 294 ∧ (j = 0 ∨ j = 11 ∨ j = 12 ∨ 20 ≤ j ∧ j ≤ 55)) := by
  refine Run_ex (C' := k_M_begins) rfl ?_
  show Wp L (d + 1) k_M_begins 0 [vR 293, vI a1, vU] [] σ _
  obtain ⟨K293, Q293, K294, N294⟩ := litM
  simp (disch := first | assumption | exact gb_01 _ | omega) only [r_M_begins_0, r_M_begins_1, r_M_begins_4, r_M_begins_5, r_M_begins_6, r_M_begins_7, r_M_begins_8, r_M_begins_10, r_M_begins_11, r_M_begins_14, r_M_begins_15, r_M_begins_18, r_M_begins_19, r_M_begins_20, r_M_begins_23, r_M_begins_25, r_M_begins_26, r_M_begins_27, r_M_begins_30, r_M_begins_31, r_M_begins_32, r_M_begins_35, r_M_begins_36, r_M_begins_37, r_M_begins_39, r_M_begins_40, r_M_begins_41, r_M_begins_44, r_M_begins_45, r_M_begins_46, r_M_begins_49, r_M_begins_50, r_M_begins_51, r_M_begins_52, r_M_begins_53, r_M_begins_56, r_M_begins_59, r_M_begins_60, r_M_begins_63, r_M_begins_65, r_M_begins_66, r_M_begins_67, r_M_begins_68, r_M_begins_71, r_M_begins_73, r_M_begins_74, r_M_begins_75, Q293, w32_gb, w32i, tn_add, tn_mul, Int.toNat_natCast, Int.toNat_zero, Int.reduceLE, Int.reduceLT, Int.reduceEq, Int.reduceNe, gb_T, gb_F, Int.reduceToNat, eq_self, true_or, or_true, and_true, true_and, and_self, ↓ite_gb0, ↓ite_gbn, ↓if_pos, ↓if_neg, if_true, if_false, not_true_eq_false, not_false_eq_true, gb_ne0, gb_eq0]
  refine wloop (n := a1.toNat) (I := fun k ls τ => ls = [vR 293, vI a1, vI (k : Int)] ∧ τ 294 0 = a1 ∧ (∀ i : Nat, i < k → τ 294 (20 + 3 * i) = 10 ∧ τ 294 (20 + 3 * i + 1) = 10 ∧ τ 294 (20 + 3 * i + 2) = 0) ∧ Agr σ τ (fun k j => k = 294 ∧ (j = 0 ∨ j = 11 ∨ j = 12 ∨ 20 ≤ j ∧ j ≤ 55))) (fun k ls τ hk hi hq => ?_) (fun ls τ hi => ?_) a1.toNat 0 (by omega) _ _ ⟨rfl, gupd_eq, fun i hi => by omega, Agr_upd (Agr_refl _ _) (by omega)⟩
  · obtain ⟨rfl, h1, h2, hA⟩ := hi
    rw [r_M_begins_9]
    simp (disch := first | assumption | exact gb_01 _ | omega) only [r_M_begins_0, r_M_begins_1, r_M_begins_4, r_M_begins_5, r_M_begins_6, r_M_begins_7, r_M_begins_8, r_M_begins_10, r_M_begins_11, r_M_begins_14, r_M_begins_15, r_M_begins_18, r_M_begins_19, r_M_begins_20, r_M_begins_23, r_M_begins_25, r_M_begins_26, r_M_begins_27, r_M_begins_30, r_M_begins_31, r_M_begins_32, r_M_begins_35, r_M_begins_36, r_M_begins_37, r_M_begins_39, r_M_begins_40, r_M_begins_41, r_M_begins_44, r_M_begins_45, r_M_begins_46, r_M_begins_49, r_M_begins_50, r_M_begins_51, r_M_begins_52, r_M_begins_53, r_M_begins_56, r_M_begins_59, r_M_begins_60, r_M_begins_63, r_M_begins_65, r_M_begins_66, r_M_begins_67, r_M_begins_68, r_M_begins_71, r_M_begins_73, r_M_begins_74, r_M_begins_75, Q293, w32_gb, w32i, tn_add, tn_mul, Int.toNat_natCast, Int.toNat_zero, Int.reduceLE, Int.reduceLT, Int.reduceEq, Int.reduceNe, gb_T, gb_F, Int.reduceToNat, eq_self, true_or, or_true, and_true, true_and, and_self, ↓ite_gb0, ↓ite_gbn, ↓if_pos, ↓if_neg, if_true, if_false, not_true_eq_false, not_false_eq_true, gb_ne0, gb_eq0]
    refine hq _ _ ⟨by simp only [List.cons.injEq, vI_inj, vR_inj, and_true, true_and]; omega, ?_, fun i hi => ?_, Agr_upd (Agr_upd (Agr_upd hA (by omega)) (by omega)) (by omega)⟩
    · rw [gupd_ne (by omega), gupd_ne (by omega), gupd_ne (by omega)]
      exact h1
    · by_cases e : i = k
      · rw [e]
        simp (disch := omega) only [gupd_ne, gupd_eq, and_self]
      · simp (disch := omega) only [gupd_ne]
        exact h2 i (by omega)
  · obtain ⟨rfl, h1, h2, hA⟩ := hi
    rw [r_M_begins_9]
    simp (disch := first | assumption | exact gb_01 _ | omega) only [r_M_begins_0, r_M_begins_1, r_M_begins_4, r_M_begins_5, r_M_begins_6, r_M_begins_7, r_M_begins_8, r_M_begins_10, r_M_begins_11, r_M_begins_14, r_M_begins_15, r_M_begins_18, r_M_begins_19, r_M_begins_20, r_M_begins_23, r_M_begins_25, r_M_begins_26, r_M_begins_27, r_M_begins_30, r_M_begins_31, r_M_begins_32, r_M_begins_35, r_M_begins_36, r_M_begins_37, r_M_begins_39, r_M_begins_40, r_M_begins_41, r_M_begins_44, r_M_begins_45, r_M_begins_46, r_M_begins_49, r_M_begins_50, r_M_begins_51, r_M_begins_52, r_M_begins_53, r_M_begins_56, r_M_begins_59, r_M_begins_60, r_M_begins_63, r_M_begins_65, r_M_begins_66, r_M_begins_67, r_M_begins_68, r_M_begins_71, r_M_begins_73, r_M_begins_74, r_M_begins_75, Q293, w32_gb, w32i, tn_add, tn_mul, Int.toNat_natCast, Int.toNat_zero, Int.reduceLE, Int.reduceLT, Int.reduceEq, Int.reduceNe, gb_T, gb_F, Int.reduceToNat, eq_self, true_or, or_true, and_true, true_and, and_self, ↓ite_gb0, ↓ite_gbn, ↓if_pos, ↓if_neg, if_true, if_false, not_true_eq_false, not_false_eq_true, gb_ne0, gb_eq0]
    refine ⟨⟨?_, ?_, ?_, fun k hk => ?_⟩, Agr_upd (Agr_upd hA (by omega)) (by omega)⟩
    · simp (disch := omega) only [gupd_ne]
      exact h1
    · simp (disch := omega) only [gupd_ne, gupd_eq]
    · rw [gupd_eq]
    · simp (disch := omega) only [gupd_ne]
      exact h2 k (by omega)
theorem r_X_spans_0 : Wp L d k_X_spans 0 [l0, vI a1, l2] [] σ Q ↔ Wp L d k_X_spans 1 [l0, vI a1, l2] [vI a1] σ Q := wp_iload rfl rfl
theorem r_X_spans_1 : Wp L d k_X_spans 1 [l0, l1, l2] [vI s0] σ Q ↔ Wp L d k_X_spans 2 [l0, l1, l2] [vI 2, vI s0] σ Q := wp_push rfl
theorem r_X_spans_2 : Wp L d k_X_spans 2 [l0, l1, l2] [vI s1, vI s0] σ Q ↔ Wp L d k_X_spans 4 [l0, l1, l2] [vI 12, vI s1, vI s0] σ Q := wp_push rfl
theorem r_X_spans_7 : Wp L d k_X_spans 7 [l0, l1, l2] [vI s0] σ Q ↔ (if s0 ≠ 0 then Wp L d k_X_spans 13 [l0, l1, l2] [] σ Q else Wp L d k_X_spans 10 [l0, l1, l2] [] σ Q) := wp_if_ne rfl
theorem r_X_spans_10 : Wp L d k_X_spans 10 [l0, l1, l2] [] σ Q ↔ Wp L d k_X_spans 12 [l0, l1, l2] [vI (-1000000001)] σ Q := wp_push rfl
theorem r_X_spans_12 : Wp L d k_X_spans 12 [l0, l1, l2] [vI s0] σ Q ↔ Q (some (vI s0)) σ := wp_iret rfl
theorem r_X_spans_13 : Wp L d k_X_spans 13 [vR b0, l1, l2] [] σ Q ↔ Wp L d k_X_spans 14 [vR b0, l1, l2] [vR b0] σ Q := wp_aload rfl rfl
theorem r_X_spans_14 (h : gK c0 = 0) : Wp L d k_X_spans 14 [l0, l1, l2] [vR c0] σ Q ↔ Wp L d k_X_spans 17 [l0, l1, l2] [vR (gq c0 1)] σ Q := wp_getR (c := 129) rfl rfl rfl rfl rfl h
theorem r_X_spans_17 (h : gK c0 = 1) : Wp L d k_X_spans 17 [l0, l1, l2] [vR c0] σ Q ↔ Wp L d k_X_spans 20 [l0, l1, l2] [vI (σ c0 9)] σ Q := wp_getI (c := 265) rfl rfl rfl rfl h
theorem r_X_spans_20 : Wp L d k_X_spans 20 [l0, l1, l2] [vI s0] σ Q ↔ (if s0 ≤ 0 then Wp L d k_X_spans 26 [l0, l1, l2] [] σ Q else Wp L d k_X_spans 23 [l0, l1, l2] [] σ Q) := wp_if_le rfl
theorem r_X_spans_23 : Wp L d k_X_spans 23 [l0, l1, l2] [] σ Q ↔ Wp L d k_X_spans 25 [l0, l1, l2] [vI (-1000000002)] σ Q := wp_push rfl
theorem r_X_spans_25 : Wp L d k_X_spans 25 [l0, l1, l2] [vI s0] σ Q ↔ Q (some (vI s0)) σ := wp_iret rfl
theorem r_X_spans_26 : Wp L d k_X_spans 26 [vR b0, l1, l2] [] σ Q ↔ Wp L d k_X_spans 27 [vR b0, l1, l2] [vR b0] σ Q := wp_aload rfl rfl
theorem r_X_spans_27 (h : gK c0 = 0) : Wp L d k_X_spans 27 [l0, l1, l2] [vR c0] σ Q ↔ Wp L d k_X_spans 30 [l0, l1, l2] [vR (gq c0 1)] σ Q := wp_getR (c := 129) rfl rfl rfl rfl rfl h
theorem r_X_spans_30 (h : gK c0 = 1) : Wp L d k_X_spans 30 [l0, l1, l2] [vR c0] σ Q ↔ Wp L d k_X_spans 33 [l0, l1, l2] [vI (σ c0 8)] σ Q := wp_getI (c := 264) rfl rfl rfl rfl h
theorem r_X_spans_33 : Wp L d k_X_spans 33 [l0, vI a1, l2] [vI s0] σ Q ↔ Wp L d k_X_spans 34 [l0, vI a1, vI s0] [] σ Q := wp_istore (i := 2) (ls := [l0, vI a1, l2]) rfl rfl
theorem r_X_spans_34 : Wp L d k_X_spans 34 [vR b0, l1, l2] [] σ Q ↔ Wp L d k_X_spans 35 [vR b0, l1, l2] [vR b0] σ Q := wp_aload rfl rfl
theorem r_X_spans_35 (h : gK c0 = 0) : Wp L d k_X_spans 35 [l0, l1, l2] [vR c0] σ Q ↔ Wp L d k_X_spans 38 [l0, l1, l2] [vR (gq c0 1)] σ Q := wp_getR (c := 129) rfl rfl rfl rfl rfl h
theorem r_X_spans_38 : Wp L d k_X_spans 38 [l0, vI a1, l2] [vR c0] σ Q ↔ Wp L d k_X_spans 39 [l0, vI a1, l2] [vI a1, vR c0] σ Q := wp_iload rfl rfl
theorem c_X_spans_39 (hR : Run L d 90 [vR c0, vI s1] σ r σ1) (h : gK c0 = 1) : Wp L (d + 1) k_X_spans 39 [l0, l1, l2] [vI s1, vR c0] σ Q ↔ Wp L (d + 1) k_X_spans 42 [l0, l1, l2] (r.toList ++ []) σ1 Q := wp_callR (as := [vR c0, vI s1]) (rest := []) rfl rfl rfl rfl rfl rfl rfl (grecv_k (by rw [h]) rfl) hR
theorem r_X_spans_42 : Wp L d k_X_spans 42 [l0, l1, vI a2] [] σ Q ↔ Wp L d k_X_spans 43 [l0, l1, vI a2] [vI a2] σ Q := wp_iload rfl rfl
theorem r_X_spans_43 : Wp L d k_X_spans 43 [l0, l1, l2] [vI s0] σ Q ↔ Q (some (vI s0)) σ := wp_iret rfl
theorem r_X_spans_4 : Wp L (d + 2) k_X_spans 4 [l0, l1, l2] [vI s2, vI s1, vI s0] σ Q ↔ Wp L (d + 2) k_X_spans 7 [l0, l1, l2] [vI (gb (s1 ≤ s0 ∧ s0 ≤ s2))] σ Q := wp_callR (d := d + 1) (as := [vI s0, vI s1, vI s2]) (rest := []) rfl rfl rfl rfl rfl rfl rfl rfl (sp_X_within)
theorem sp_X_spans_b (h : ¬ (2 ≤ a1 ∧ a1 ≤ 12)) : Run L (d + 2) 14 [vR 27, vI a1] σ (some (vI (-1000000001))) σ := by
  refine Run_of (C' := k_X_spans) rfl ?_
  show Wp L (d + 2) k_X_spans 0 [vR 27, vI a1, vU] [] σ _
  obtain ⟨K27, K28, K29, K78, K97, K99, K109, K123, K125, K279, K282⟩ := litX
  simp (disch := first | assumption | exact gb_01 _ | omega) only [r_X_spans_0, r_X_spans_1, r_X_spans_2, r_X_spans_4, r_X_spans_7, r_X_spans_10, r_X_spans_12, r_X_spans_13, r_X_spans_14, r_X_spans_17, r_X_spans_20, r_X_spans_23, r_X_spans_25, r_X_spans_26, r_X_spans_27, r_X_spans_30, r_X_spans_33, r_X_spans_34, r_X_spans_35, r_X_spans_38, r_X_spans_42, r_X_spans_43, gq_27_0, gq_27_1, gq_27_2, gq_27_3, gq_27_4, gq_27_5, gq_27_6, gq_28_0, gq_28_1, gq_28_2, gq_28_3, gq_28_4, gq_28_5, gq_28_6, w32_gb, w32i, tn_add, tn_mul, Int.toNat_natCast, Int.toNat_zero, Int.reduceLE, Int.reduceLT, Int.reduceEq, Int.reduceNe, gb_T, gb_F, Int.reduceToNat, eq_self, true_or, or_true, and_true, true_and, and_self, ↓ite_gb0, ↓ite_gbn, ↓if_pos, ↓if_neg, if_true, if_false, not_true_eq_false, not_false_eq_true, gb_ne0, gb_eq0]
theorem r_M_spans_0 : Wp L d k_M_spans 0 [l0, vI a1, l2] [] σ Q ↔ Wp L d k_M_spans 1 [l0, vI a1, l2] [vI a1] σ Q := wp_iload rfl rfl
theorem r_M_spans_1 : Wp L d k_M_spans 1 [l0, l1, l2] [vI s0] σ Q ↔ Wp L d k_M_spans 2 [l0, l1, l2] [vL s0] σ Q := wp_i2l rfl
theorem r_M_spans_2 : Wp L d k_M_spans 2 [l0, l1, l2] [vL s0] σ Q ↔ Wp L d k_M_spans 5 [l0, l1, l2] [vL 2, vL s0] σ Q := wp_pushL rfl
theorem r_M_spans_5 : Wp L d k_M_spans 5 [l0, l1, l2] [vL s1, vL s0] σ Q ↔ Wp L d k_M_spans 8 [l0, l1, l2] [vL 12, vL s1, vL s0] σ Q := wp_pushL rfl
theorem r_M_spans_11 : Wp L d k_M_spans 11 [l0, l1, l2] [vI s0] σ Q ↔ (if s0 ≠ 0 then Wp L d k_M_spans 17 [l0, l1, l2] [] σ Q else Wp L d k_M_spans 14 [l0, l1, l2] [] σ Q) := wp_if_ne rfl
theorem r_M_spans_14 : Wp L d k_M_spans 14 [l0, l1, l2] [] σ Q ↔ Wp L d k_M_spans 16 [l0, l1, l2] [vI (-1000000001)] σ Q := wp_push rfl
theorem r_M_spans_16 : Wp L d k_M_spans 16 [l0, l1, l2] [vI s0] σ Q ↔ Q (some (vI s0)) σ := wp_iret rfl
theorem r_M_spans_17 : Wp L d k_M_spans 17 [vR b0, l1, l2] [] σ Q ↔ Wp L d k_M_spans 18 [vR b0, l1, l2] [vR b0] σ Q := wp_aload rfl rfl
theorem r_M_spans_18 (h : gK c0 = 12) : Wp L d k_M_spans 18 [l0, l1, l2] [vR c0] σ Q ↔ Wp L d k_M_spans 21 [l0, l1, l2] [vR (gq c0 0)] σ Q := wp_getR (c := 3200) rfl rfl rfl rfl rfl h
theorem r_M_spans_21 : Wp L d k_M_spans 21 [l0, l1, l2] [vR c0] σ Q ↔ Wp L d k_M_spans 22 [l0, l1, l2] [vI 1, vR c0] σ Q := wp_push rfl
theorem r_M_spans_22 (h : gK c0 = 100) (hx : 0 ≤ s1 ∧ s1 < gN c0) : Wp L d k_M_spans 22 [l0, l1, l2] [vI s1, vR c0] σ Q ↔ Wp L d k_M_spans 23 [l0, l1, l2] [vI (σ c0 s1.toNat)] σ Q := wp_iald rfl h hx
theorem r_M_spans_23 : Wp L d k_M_spans 23 [l0, l1, l2] [vI s0] σ Q ↔ (if s0 ≤ 0 then Wp L d k_M_spans 29 [l0, l1, l2] [] σ Q else Wp L d k_M_spans 26 [l0, l1, l2] [] σ Q) := wp_if_le rfl
theorem r_M_spans_26 : Wp L d k_M_spans 26 [l0, l1, l2] [] σ Q ↔ Wp L d k_M_spans 28 [l0, l1, l2] [vI (-1000000002)] σ Q := wp_push rfl
theorem r_M_spans_28 : Wp L d k_M_spans 28 [l0, l1, l2] [vI s0] σ Q ↔ Q (some (vI s0)) σ := wp_iret rfl
theorem r_M_spans_29 : Wp L d k_M_spans 29 [vR b0, l1, l2] [] σ Q ↔ Wp L d k_M_spans 30 [vR b0, l1, l2] [vR b0] σ Q := wp_aload rfl rfl
theorem r_M_spans_30 (h : gK c0 = 12) : Wp L d k_M_spans 30 [l0, l1, l2] [vR c0] σ Q ↔ Wp L d k_M_spans 33 [l0, l1, l2] [vR (gq c0 0)] σ Q := wp_getR (c := 3200) rfl rfl rfl rfl rfl h
theorem r_M_spans_33 : Wp L d k_M_spans 33 [l0, l1, l2] [vR c0] σ Q ↔ Wp L d k_M_spans 34 [l0, l1, l2] [vI 0, vR c0] σ Q := wp_push rfl
theorem r_M_spans_34 (h : gK c0 = 100) (hx : 0 ≤ s1 ∧ s1 < gN c0) : Wp L d k_M_spans 34 [l0, l1, l2] [vI s1, vR c0] σ Q ↔ Wp L d k_M_spans 35 [l0, l1, l2] [vI (σ c0 s1.toNat)] σ Q := wp_iald rfl h hx
theorem r_M_spans_35 : Wp L d k_M_spans 35 [l0, vI a1, l2] [vI s0] σ Q ↔ Wp L d k_M_spans 36 [l0, vI a1, vI s0] [] σ Q := wp_istore (i := 2) (ls := [l0, vI a1, l2]) rfl rfl
theorem r_M_spans_36 : Wp L d k_M_spans 36 [vR b0, l1, l2] [] σ Q ↔ Wp L d k_M_spans 37 [vR b0, l1, l2] [vR b0] σ Q := wp_aload rfl rfl
theorem r_M_spans_37 : Wp L d k_M_spans 37 [l0, vI a1, l2] [vR c0] σ Q ↔ Wp L d k_M_spans 38 [l0, vI a1, l2] [vI a1, vR c0] σ Q := wp_iload rfl rfl
theorem c_M_spans_38 (hR : Run L d 192 [vR c0, vI s1] σ r σ1) (h : gK c0 = 12) : Wp L (d + 1) k_M_spans 38 [l0, l1, l2] [vI s1, vR c0] σ Q ↔ Wp L (d + 1) k_M_spans 41 [l0, l1, l2] (r.toList ++ []) σ1 Q := wp_callR (as := [vR c0, vI s1]) (rest := []) rfl rfl rfl rfl rfl rfl rfl (grecv_k (by rw [h]) rfl) hR
theorem r_M_spans_41 : Wp L d k_M_spans 41 [l0, l1, vI a2] [] σ Q ↔ Wp L d k_M_spans 42 [l0, l1, vI a2] [vI a2] σ Q := wp_iload rfl rfl
theorem r_M_spans_42 : Wp L d k_M_spans 42 [l0, l1, l2] [vI s0] σ Q ↔ Q (some (vI s0)) σ := wp_iret rfl
theorem r_M_spans_8 : Wp L (d + 2) k_M_spans 8 [l0, l1, l2] [vL s2, vL s1, vL s0] σ Q ↔ Wp L (d + 2) k_M_spans 11 [l0, l1, l2] [vI (gb (s1 ≤ s0 ∧ s0 ≤ s2))] σ Q := wp_callR (d := d + 1) (as := [vL s0, vL s1, vL s2]) (rest := []) rfl rfl rfl rfl rfl rfl rfl rfl (sp_M_isIn)
theorem sp_M_spans_b (h : ¬ (2 ≤ a1 ∧ a1 ≤ 12)) : Run L (d + 2) 194 [vR 293, vI a1] σ (some (vI (-1000000001))) σ := by
  refine Run_of (C' := k_M_spans) rfl ?_
  show Wp L (d + 2) k_M_spans 0 [vR 293, vI a1, vU] [] σ _
  obtain ⟨K293, Q293, K294, N294⟩ := litM
  simp (disch := first | assumption | exact gb_01 _ | omega) only [r_M_spans_0, r_M_spans_1, r_M_spans_2, r_M_spans_5, r_M_spans_8, r_M_spans_11, r_M_spans_14, r_M_spans_16, r_M_spans_17, r_M_spans_18, r_M_spans_21, r_M_spans_22, r_M_spans_23, r_M_spans_26, r_M_spans_28, r_M_spans_29, r_M_spans_30, r_M_spans_33, r_M_spans_34, r_M_spans_35, r_M_spans_36, r_M_spans_37, r_M_spans_41, r_M_spans_42, Q293, w32_gb, w32i, tn_add, tn_mul, Int.toNat_natCast, Int.toNat_zero, Int.reduceLE, Int.reduceLT, Int.reduceEq, Int.reduceNe, gb_T, gb_F, Int.reduceToNat, eq_self, true_or, or_true, and_true, true_and, and_self, ↓ite_gb0, ↓ite_gbn, ↓if_pos, ↓if_neg, if_true, if_false, not_true_eq_false, not_false_eq_true, gb_ne0, gb_eq0]
theorem sp_X_spans_n (h : 2 ≤ a1 ∧ a1 ≤ 12) (hn : 0 < σ 29 9) : Run L (d + 2) 14 [vR 27, vI a1] σ (some (vI (-1000000002))) σ := by
  refine Run_of (C' := k_X_spans) rfl ?_
  show Wp L (d + 2) k_X_spans 0 [vR 27, vI a1, vU] [] σ _
  obtain ⟨K27, K28, K29, K78, K97, K99, K109, K123, K125, K279, K282⟩ := litX
  simp (disch := first | assumption | exact gb_01 _ | omega) only [r_X_spans_0, r_X_spans_1, r_X_spans_2, r_X_spans_4, r_X_spans_7, r_X_spans_10, r_X_spans_12, r_X_spans_13, r_X_spans_14, r_X_spans_17, r_X_spans_20, r_X_spans_23, r_X_spans_25, r_X_spans_26, r_X_spans_27, r_X_spans_30, r_X_spans_33, r_X_spans_34, r_X_spans_35, r_X_spans_38, r_X_spans_42, r_X_spans_43, gq_27_0, gq_27_1, gq_27_2, gq_27_3, gq_27_4, gq_27_5, gq_27_6, gq_28_0, gq_28_1, gq_28_2, gq_28_3, gq_28_4, gq_28_5, gq_28_6, w32_gb, w32i, tn_add, tn_mul, Int.toNat_natCast, Int.toNat_zero, Int.reduceLE, Int.reduceLT, Int.reduceEq, Int.reduceNe, gb_T, gb_F, Int.reduceToNat, eq_self, true_or, or_true, and_true, true_and, and_self, ↓ite_gb0, ↓ite_gbn, ↓if_pos, ↓if_neg, if_true, if_false, not_true_eq_false, not_false_eq_true, gb_ne0, gb_eq0]
theorem sp_M_spans_n (h : 2 ≤ a1 ∧ a1 ≤ 12) (hn : 0 < σ 294 1) : Run L (d + 2) 194 [vR 293, vI a1] σ (some (vI (-1000000002))) σ := by
  refine Run_of (C' := k_M_spans) rfl ?_
  show Wp L (d + 2) k_M_spans 0 [vR 293, vI a1, vU] [] σ _
  obtain ⟨K293, Q293, K294, N294⟩ := litM
  simp (disch := first | assumption | exact gb_01 _ | omega) only [r_M_spans_0, r_M_spans_1, r_M_spans_2, r_M_spans_5, r_M_spans_8, r_M_spans_11, r_M_spans_14, r_M_spans_16, r_M_spans_17, r_M_spans_18, r_M_spans_21, r_M_spans_22, r_M_spans_23, r_M_spans_26, r_M_spans_28, r_M_spans_29, r_M_spans_30, r_M_spans_33, r_M_spans_34, r_M_spans_35, r_M_spans_36, r_M_spans_37, r_M_spans_41, r_M_spans_42, Q293, w32_gb, w32i, tn_add, tn_mul, Int.toNat_natCast, Int.toNat_zero, Int.reduceLE, Int.reduceLT, Int.reduceEq, Int.reduceNe, gb_T, gb_F, Int.reduceToNat, eq_self, true_or, or_true, and_true, true_and, and_self, ↓ite_gb0, ↓ite_gbn, ↓if_pos, ↓if_neg, if_true, if_false, not_true_eq_false, not_false_eq_true, gb_ne0, gb_eq0]
theorem sp_X_spans (h : 2 ≤ a1 ∧ a1 ≤ 12) (hn : ¬ 0 < σ 29 9) : ∃ σ', Run L (d + 2) 14 [vR 27, vI a1] σ (some (vI (σ 29 8))) σ' ∧ (σ' 29 8 = a1 ∧ σ' 29 12 = -1000000005 ∧ σ' 29 13 = 0 ∧ ∀ k : Nat, k < 12 → σ' 30 k = 10 ∧ σ' 31 k = 10 ∧ σ' 32 k = 0) ∧ Agr σ σ' (fun k j => (k = 29 ∧ (j = 8 ∨ j = 12 ∨ j = 13)) ∨ (30 ≤ k ∧ k ≤ 32)) := by
  refine Run_ex (C' := k_X_spans) rfl ?_
  show Wp L (d + 2) k_X_spans 0 [vR 27, vI a1, vU] [] σ _
  obtain ⟨K27, K28, K29, K78, K97, K99, K109, K123, K125, K279, K282⟩ := litX
  obtain ⟨τ, hR, h1, h2⟩ := sp_B_layOut (L := L) (d := d + 0) (σ := σ) (a1 := a1) BR29
  simp (disch := first | assumption | exact gb_01 _ | omega) only [r_X_spans_0, r_X_spans_1, r_X_spans_2, r_X_spans_4, r_X_spans_7, r_X_spans_10, r_X_spans_12, r_X_spans_13, r_X_spans_14, r_X_spans_17, r_X_spans_20, r_X_spans_23, r_X_spans_25, r_X_spans_26, r_X_spans_27, r_X_spans_30, r_X_spans_33, r_X_spans_34, r_X_spans_35, r_X_spans_38, r_X_spans_42, r_X_spans_43, c_X_spans_39 hR, Option.toList, List.singleton_append, List.cons_append, List.nil_append, List.append_nil, gq_27_0, gq_27_1, gq_27_2, gq_27_3, gq_27_4, gq_27_5, gq_27_6, gq_28_0, gq_28_1, gq_28_2, gq_28_3, gq_28_4, gq_28_5, gq_28_6, w32_gb, w32i, tn_add, tn_mul, Int.toNat_natCast, Int.toNat_zero, Int.reduceLE, Int.reduceLT, Int.reduceEq, Int.reduceNe, gb_T, gb_F, Int.reduceToNat, eq_self, true_or, or_true, and_true, true_and, and_self, ↓ite_gb0, ↓ite_gbn, ↓if_pos, ↓if_neg, if_true, if_false, not_true_eq_false, not_false_eq_true, gb_ne0, gb_eq0]
  exact ⟨h1, h2⟩
theorem sp_M_spans (h : 2 ≤ a1 ∧ a1 ≤ 12) (hn : ¬ 0 < σ 294 1) : ∃ σ', Run L (d + 2) 194 [vR 293, vI a1] σ (some (vI (σ 294 0))) σ' ∧ (σ' 294 0 = a1 ∧ σ' 294 11 = -1 ∧ σ' 294 12 = 0 ∧ ∀ k : Nat, (k : Int) < a1 → σ' 294 (20 + 3 * k) = 10 ∧ σ' 294 (20 + 3 * k + 1) = 10 ∧ σ' 294 (20 + 3 * k + 2) = 0) ∧ Agr σ σ' (fun k j => k = 294 ∧ (j = 0 ∨ j = 11 ∨ j = 12 ∨ 20 ≤ j ∧ j ≤ 55)) := by
  refine Run_ex (C' := k_M_spans) rfl ?_
  show Wp L (d + 2) k_M_spans 0 [vR 293, vI a1, vU] [] σ _
  obtain ⟨K293, Q293, K294, N294⟩ := litM
  obtain ⟨τ, hR, h1, h2⟩ := sp_M_begins (L := L) (d := d + 0) (σ := σ) (a1 := a1) h
  simp (disch := first | assumption | exact gb_01 _ | omega) only [r_M_spans_0, r_M_spans_1, r_M_spans_2, r_M_spans_5, r_M_spans_8, r_M_spans_11, r_M_spans_14, r_M_spans_16, r_M_spans_17, r_M_spans_18, r_M_spans_21, r_M_spans_22, r_M_spans_23, r_M_spans_26, r_M_spans_28, r_M_spans_29, r_M_spans_30, r_M_spans_33, r_M_spans_34, r_M_spans_35, r_M_spans_36, r_M_spans_37, r_M_spans_41, r_M_spans_42, c_M_spans_38 hR, Option.toList, List.singleton_append, List.cons_append, List.nil_append, List.append_nil, Q293, w32_gb, w32i, tn_add, tn_mul, Int.toNat_natCast, Int.toNat_zero, Int.reduceLE, Int.reduceLT, Int.reduceEq, Int.reduceNe, gb_T, gb_F, Int.reduceToNat, eq_self, true_or, or_true, and_true, true_and, and_self, ↓ite_gb0, ↓ite_gbn, ↓if_pos, ↓if_neg, if_true, if_false, not_true_eq_false, not_false_eq_true, gb_ne0, gb_eq0]
  exact ⟨h1, h2⟩
theorem op_spans (a1 : Int) : Op 14 194 [vI a1] := by
  intro L d σ hI
  obtain ⟨hw, hc⟩ := iB hI
  have w1 := hw.1
  have w2 := hw.2.1
  have c1 := hc.1
  have c2 := hc.2.1
  have hp : w32 (σ 29 9 - 1) = σ 29 9 - 1 := w32i (by omega)
  have hm : w32 (σ 294 1 - 1) = σ 294 1 - 1 := w32i (by omega)
  
  by_cases h : 2 ≤ a1 ∧ a1 ≤ 12
  · by_cases hn : 0 < σ 29 9
    · exact ⟨_, _, _, sp_X_spans_n h hn, sp_M_spans_n h (by omega), hI⟩
    · obtain ⟨σ1, hR1, ⟨x1, x2, x3, x4⟩, hA1⟩ := sp_X_spans (L := L) (d := d + 998) (a1 := a1) h hn
      have e0 := hA1 294 0 (by omega)
      have e1 := hA1 294 1 (by omega)
      obtain ⟨σ2, hR2, ⟨y1, y2, y3, y4⟩, hA2⟩ := sp_M_spans (L := L) (d := d + 998) (σ := σ1) (a1 := a1) h (by omega)
      refine ⟨_, _, _, hR1, Run_r hR2 (by omega), ?_⟩
      have hA : Agr σ σ2 (fun k j => (k = 29 ∧ (j = 8 ∨ j = 12 ∨ j = 13)) ∨ (30 ≤ k ∧ k ≤ 32) ∨ (k = 294 ∧ (j = 0 ∨ j = 11 ∨ j = 12 ∨ 20 ≤ j ∧ j ≤ 55))) := Agr_trans (Agr_mono hA1 (fun k j hk => by omega)) (Agr_mono hA2 (fun k j hk => by omega))
      refine Inv_mk (P := fun k j => (k = 29 ∧ (j = 8 ∨ j = 12 ∨ j = 13)) ∨ (30 ≤ k ∧ k ≤ 32) ∨ (k = 294 ∧ (j = 0 ∨ j = 11 ∨ j = 12 ∨ 20 ≤ j ∧ j ≤ 55))) hI (hA) (Or.inr ?_) (Or.inl (fun k j hz hp => by unfold ZT at hz; omega)) (Or.inl (fun k j hz hp => by unfold ZG at hz; omega)) (Or.inl (fun k j hz hp => by unfold ZS at hz; omega)) (Or.inl (fun k j hz hp => by unfold ZW at hz; omega)) (Or.inl (fun k j hz hp => by unfold ZP at hz; omega)) (Or.inl (fun k j hz hp => by unfold ZR ZK at hz; omega)) (Or.inl (fun k j hz hp => by unfold ZM at hz; omega)) (Or.inl (fun k j hz hp => by unfold ZTape at hz; omega)) (Or.inl (fun k j hz hp => by unfold ZTest at hz; omega)) (Or.inl (fun k j hz hp => by unfold ZWait at hz; omega)) (Or.inl (fun k j hz hp => by unfold ZImg at hz; omega))
      have f1 : σ2 294 1 = 0 := by rw [hA2 294 1 (by omega)]; omega
      refine ⟨⟨by rw [y1]; omega, by rw [f1]; omega, fun k hk => ?_, fun p hp => ?_, ?_, ?_, by rw [y2]; exact Or.inl rfl, by rw [y3]; exact Or.inl rfl⟩, ?_, ?_, fun k hk => ?_, fun p hp => ?_, ?_, ?_, ?_, ?_⟩
      · rw [y1] at hk
        have := y4 k hk
        omega
      · rw [f1] at hp
        omega
      · rw [hA 294 9 (by omega)]; exact hw.2.2.2.2.1
      · rw [hA 294 10 (by omega)]; exact hw.2.2.2.2.2.1
      · rw [y1, hA2 29 8 (by omega)]; exact x1
      · rw [f1, hA 29 9 (by omega)]; omega
      · rw [y1] at hk
        have y := y4 k hk
        have x := x4 k (by omega)
        rw [y.1, y.2.1, y.2.2, hA2 (29 + 1) k (by omega), hA2 (29 + 2) k (by omega), hA2 (29 + 3) k (by omega)]
        exact x
      · rw [f1] at hp
        omega
      · rw [hA 294 9 (by omega), hA 29 10 (by omega)]; exact hc.2.2.2.2.1
      · rw [hA 294 10 (by omega), hA 29 11 (by omega)]; exact hc.2.2.2.2.2.1
      · rw [y2, hA2 29 12 (by omega), x2]; rfl
      · rw [y3, hA2 29 13 (by omega), x3]
  · exact ⟨_, _, _, sp_X_spans_b h, sp_M_spans_b h, hI⟩
theorem r_Q_cast_0 : Wp L d k_Q_cast 0 [vR b0, l1, l2, l3, l4] [] σ Q ↔ Wp L d k_Q_cast 1 [vR b0, l1, l2, l3, l4] [vR b0] σ Q := wp_aload rfl rfl
theorem r_Q_cast_1 : Wp L d k_Q_cast 1 [l0, vI a1, l2, l3, l4] [vR c0] σ Q ↔ Wp L d k_Q_cast 2 [l0, vI a1, l2, l3, l4] [vI a1, vR c0] σ Q := wp_iload rfl rfl
theorem r_Q_cast_2 (h : gK c0 = 4) : Wp L d k_Q_cast 2 [l0, l1, l2, l3, l4] [vI s1, vR c0] σ Q ↔ Wp L d k_Q_cast 5 [l0, l1, l2, l3, l4] [] (gupd σ c0 0 s1) Q := wp_putI (c := 1024) rfl rfl rfl rfl h
theorem r_Q_cast_5 : Wp L d k_Q_cast 5 [vR b0, l1, l2, l3, l4] [] σ Q ↔ Wp L d k_Q_cast 6 [vR b0, l1, l2, l3, l4] [vR b0] σ Q := wp_aload rfl rfl
theorem r_Q_cast_6 : Wp L d k_Q_cast 6 [l0, l1, vI a2, l3, l4] [vR c0] σ Q ↔ Wp L d k_Q_cast 7 [l0, l1, vI a2, l3, l4] [vI a2, vR c0] σ Q := wp_iload rfl rfl
theorem r_Q_cast_7 (h : gK c0 = 4) : Wp L d k_Q_cast 7 [l0, l1, l2, l3, l4] [vI s1, vR c0] σ Q ↔ Wp L d k_Q_cast 10 [l0, l1, l2, l3, l4] [] (gupd σ c0 1 s1) Q := wp_putI (c := 1025) rfl rfl rfl rfl h
theorem r_Q_cast_10 : Wp L d k_Q_cast 10 [vR b0, l1, l2, l3, l4] [] σ Q ↔ Wp L d k_Q_cast 11 [vR b0, l1, l2, l3, l4] [vR b0] σ Q := wp_aload rfl rfl
theorem r_Q_cast_11 : Wp L d k_Q_cast 11 [l0, l1, l2, vI a3, l4] [vR c0] σ Q ↔ Wp L d k_Q_cast 12 [l0, l1, l2, vI a3, l4] [vI a3, vR c0] σ Q := wp_iload rfl rfl
theorem r_Q_cast_12 (h : gK c0 = 4) : Wp L d k_Q_cast 12 [l0, l1, l2, l3, l4] [vI s1, vR c0] σ Q ↔ Wp L d k_Q_cast 15 [l0, l1, l2, l3, l4] [] (gupd σ c0 2 s1) Q := wp_putI (c := 1026) rfl rfl rfl rfl h
theorem r_Q_cast_15 : Wp L d k_Q_cast 15 [vR b0, l1, l2, l3, l4] [] σ Q ↔ Wp L d k_Q_cast 16 [vR b0, l1, l2, l3, l4] [vR b0] σ Q := wp_aload rfl rfl
theorem r_Q_cast_16 : Wp L d k_Q_cast 16 [l0, l1, l2, l3, vI a4] [vR c0] σ Q ↔ Wp L d k_Q_cast 18 [l0, l1, l2, l3, vI a4] [vI a4, vR c0] σ Q := wp_iload rfl rfl
theorem r_Q_cast_18 (h : gK c0 = 4) : Wp L d k_Q_cast 18 [l0, l1, l2, l3, l4] [vI s1, vR c0] σ Q ↔ Wp L d k_Q_cast 21 [l0, l1, l2, l3, l4] [] (gupd σ c0 3 s1) Q := wp_putI (c := 1027) rfl rfl rfl rfl h
theorem r_Q_cast_21 : Wp L d k_Q_cast 21 [vR b0, l1, l2, l3, l4] [] σ Q ↔ Wp L d k_Q_cast 22 [vR b0, l1, l2, l3, l4] [vR b0] σ Q := wp_aload rfl rfl
theorem r_Q_cast_22 : Wp L d k_Q_cast 22 [l0, l1, l2, l3, l4] [vR c0] σ Q ↔ Wp L d k_Q_cast 23 [l0, l1, l2, l3, l4] [vI 0, vR c0] σ Q := wp_push rfl
theorem r_Q_cast_23 (h : gK c0 = 4) : Wp L d k_Q_cast 23 [l0, l1, l2, l3, l4] [vI s1, vR c0] σ Q ↔ Wp L d k_Q_cast 26 [l0, l1, l2, l3, l4] [] (gupd σ c0 4 s1) Q := wp_putI (c := 1028) rfl rfl rfl rfl h
theorem r_Q_cast_26 : Wp L d k_Q_cast 26 [vR b0, l1, l2, l3, l4] [] σ Q ↔ Wp L d k_Q_cast 27 [vR b0, l1, l2, l3, l4] [vR b0] σ Q := wp_aload rfl rfl
theorem r_Q_cast_27 : Wp L d k_Q_cast 27 [l0, l1, l2, l3, l4] [vR c0] σ Q ↔ Wp L d k_Q_cast 28 [l0, l1, l2, l3, l4] [vI 0, vR c0] σ Q := wp_push rfl
theorem r_Q_cast_28 (h : gK c0 = 4) : Wp L d k_Q_cast 28 [l0, l1, l2, l3, l4] [vI s1, vR c0] σ Q ↔ Wp L d k_Q_cast 31 [l0, l1, l2, l3, l4] [] (gupd σ c0 5 s1) Q := wp_putI (c := 1029) rfl rfl rfl rfl h
theorem r_Q_cast_31 : Wp L d k_Q_cast 31 [vR b0, l1, l2, l3, l4] [] σ Q ↔ Wp L d k_Q_cast 32 [vR b0, l1, l2, l3, l4] [vR b0] σ Q := wp_aload rfl rfl
theorem r_Q_cast_32 : Wp L d k_Q_cast 32 [l0, l1, l2, l3, l4] [vR c0] σ Q ↔ Wp L d k_Q_cast 33 [l0, l1, l2, l3, l4] [vI 0, vR c0] σ Q := wp_push rfl
theorem r_Q_cast_33 (h : gK c0 = 4) : Wp L d k_Q_cast 33 [l0, l1, l2, l3, l4] [vI s1, vR c0] σ Q ↔ Wp L d k_Q_cast 36 [l0, l1, l2, l3, l4] [] (gupd σ c0 8 s1) Q := wp_putI (c := 1032) rfl rfl rfl rfl h
theorem r_Q_cast_36 : Wp L d k_Q_cast 36 [vR b0, l1, l2, l3, l4] [] σ Q ↔ Wp L d k_Q_cast 37 [vR b0, l1, l2, l3, l4] [vR b0] σ Q := wp_aload rfl rfl
theorem r_Q_cast_37 : Wp L d k_Q_cast 37 [l0, l1, l2, l3, l4] [vR c0] σ Q ↔ Wp L d k_Q_cast 38 [l0, l1, l2, l3, l4] [vI 0, vR c0] σ Q := wp_push rfl
theorem r_Q_cast_38 (h : gK c0 = 4) : Wp L d k_Q_cast 38 [l0, l1, l2, l3, l4] [vI s1, vR c0] σ Q ↔ Wp L d k_Q_cast 41 [l0, l1, l2, l3, l4] [] (gupd σ c0 9 s1) Q := wp_putI (c := 1033) rfl rfl rfl rfl h
theorem r_Q_cast_41 : Wp L d k_Q_cast 41 [vR b0, l1, l2, l3, l4] [] σ Q ↔ Wp L d k_Q_cast 42 [vR b0, l1, l2, l3, l4] [vR b0] σ Q := wp_aload rfl rfl
theorem r_Q_cast_42 : Wp L d k_Q_cast 42 [l0, vI a1, l2, l3, l4] [vR c0] σ Q ↔ Wp L d k_Q_cast 43 [l0, vI a1, l2, l3, l4] [vI a1, vR c0] σ Q := wp_iload rfl rfl
theorem r_Q_cast_43 : Wp L d k_Q_cast 43 [l0, l1, l2, l3, l4] [vI s1, vR c0] σ Q ↔ Wp L d k_Q_cast 44 [l0, l1, l2, l3, l4] [vI 4, vI s1, vR c0] σ Q := wp_push rfl
theorem r_Q_cast_44 : Wp L d k_Q_cast 44 [l0, l1, l2, l3, l4] [vI s2, vI s1, vR c0] σ Q ↔ (if s1 = s2 then Wp L d k_Q_cast 51 [l0, l1, l2, l3, l4] [vR c0] σ Q else Wp L d k_Q_cast 47 [l0, l1, l2, l3, l4] [vR c0] σ Q) := wp_cmp_eq rfl
theorem r_Q_cast_47 : Wp L d k_Q_cast 47 [l0, l1, l2, l3, l4] [vR c0] σ Q ↔ Wp L d k_Q_cast 48 [l0, l1, l2, l3, l4] [vI 1, vR c0] σ Q := wp_push rfl
theorem r_Q_cast_48 : Wp L d k_Q_cast 48 [l0, l1, l2, l3, l4] [vI s1, vR c0] σ Q ↔ Wp L d k_Q_cast 52 [l0, l1, l2, l3, l4] [vI s1, vR c0] σ Q := wp_goto rfl
theorem r_Q_cast_51 : Wp L d k_Q_cast 51 [l0, l1, l2, l3, l4] [vR c0] σ Q ↔ Wp L d k_Q_cast 52 [l0, l1, l2, l3, l4] [vI 0, vR c0] σ Q := wp_push rfl
theorem r_Q_cast_52 (h : gK c0 = 4) (hx : s1 = 0 ∨ s1 = 1) : Wp L d k_Q_cast 52 [l0, l1, l2, l3, l4] [vI s1, vR c0] σ Q ↔ Wp L d k_Q_cast 55 [l0, l1, l2, l3, l4] [] (gupd σ c0 10 s1) Q := wp_putZ (c := 1098) rfl rfl rfl rfl h hx
theorem r_Q_cast_55 : Wp L d k_Q_cast 55 [vR b0, l1, l2, l3, l4] [] σ Q ↔ Wp L d k_Q_cast 56 [vR b0, l1, l2, l3, l4] [vR b0] σ Q := wp_aload rfl rfl
theorem r_Q_cast_56 : Wp L d k_Q_cast 56 [l0, l1, l2, l3, l4] [vR c0] σ Q ↔ Wp L d k_Q_cast 57 [l0, l1, l2, l3, l4] [vI 0, vR c0] σ Q := wp_push rfl
theorem r_Q_cast_57 (h : gK c0 = 4) (hx : s1 = 0 ∨ s1 = 1) : Wp L d k_Q_cast 57 [l0, l1, l2, l3, l4] [vI s1, vR c0] σ Q ↔ Wp L d k_Q_cast 60 [l0, l1, l2, l3, l4] [] (gupd σ c0 11 s1) Q := wp_putZ (c := 1099) rfl rfl rfl rfl h hx
theorem r_Q_cast_60 : Wp L d k_Q_cast 60 [l0, l1, l2, l3, l4] [] σ Q ↔ Q none σ := wp_vret rfl
theorem sp_Q_cast (hk : gK b0 = 4) : Run L d 126 [vR b0, vI a1, vI a2, vI a3, vI a4] σ none (gupd (gupd (gupd (gupd (gupd (gupd (gupd (gupd (gupd (gupd σ b0 0 a1) b0 1 a2) b0 2 a3) b0 3 a4) b0 4 0) b0 5 0) b0 8 0) b0 9 0) b0 10 (gb (a1 ≠ 4))) b0 11 0) := by
  refine Run_of (C' := k_Q_cast) rfl ?_
  show Wp L d k_Q_cast 0 [vR b0, vI a1, vI a2, vI a3, vI a4] [] σ _

  by_cases e : a1 = 4
  · rw [gb_f (by omega)]
    simp (disch := first | assumption | exact gb_01 _ | omega) only [r_Q_cast_0, r_Q_cast_1, r_Q_cast_2, r_Q_cast_5, r_Q_cast_6, r_Q_cast_7, r_Q_cast_10, r_Q_cast_11, r_Q_cast_12, r_Q_cast_15, r_Q_cast_16, r_Q_cast_18, r_Q_cast_21, r_Q_cast_22, r_Q_cast_23, r_Q_cast_26, r_Q_cast_27, r_Q_cast_28, r_Q_cast_31, r_Q_cast_32, r_Q_cast_33, r_Q_cast_36, r_Q_cast_37, r_Q_cast_38, r_Q_cast_41, r_Q_cast_42, r_Q_cast_43, r_Q_cast_44, r_Q_cast_47, r_Q_cast_48, r_Q_cast_51, r_Q_cast_52, r_Q_cast_55, r_Q_cast_56, r_Q_cast_57, r_Q_cast_60, w32_gb, w32i, tn_add, tn_mul, Int.toNat_natCast, Int.toNat_zero, Int.reduceLE, Int.reduceLT, Int.reduceEq, Int.reduceNe, gb_T, gb_F, Int.reduceToNat, eq_self, true_or, or_true, and_true, true_and, and_self, ↓ite_gb0, ↓ite_gbn, ↓if_pos, ↓if_neg, if_true, if_false, not_true_eq_false, not_false_eq_true, gb_ne0, gb_eq0]
  · rw [gb_t e]
    simp (disch := first | assumption | exact gb_01 _ | omega) only [r_Q_cast_0, r_Q_cast_1, r_Q_cast_2, r_Q_cast_5, r_Q_cast_6, r_Q_cast_7, r_Q_cast_10, r_Q_cast_11, r_Q_cast_12, r_Q_cast_15, r_Q_cast_16, r_Q_cast_18, r_Q_cast_21, r_Q_cast_22, r_Q_cast_23, r_Q_cast_26, r_Q_cast_27, r_Q_cast_28, r_Q_cast_31, r_Q_cast_32, r_Q_cast_33, r_Q_cast_36, r_Q_cast_37, r_Q_cast_38, r_Q_cast_41, r_Q_cast_42, r_Q_cast_43, r_Q_cast_44, r_Q_cast_47, r_Q_cast_48, r_Q_cast_51, r_Q_cast_52, r_Q_cast_55, r_Q_cast_56, r_Q_cast_57, r_Q_cast_60, w32_gb, w32i, tn_add, tn_mul, Int.toNat_natCast, Int.toNat_zero, Int.reduceLE, Int.reduceLT, Int.reduceEq, Int.reduceNe, gb_T, gb_F, Int.reduceToNat, eq_self, true_or, or_true, and_true, true_and, and_self, ↓ite_gb0, ↓ite_gbn, ↓if_pos, ↓if_neg, if_true, if_false, not_true_eq_false, not_false_eq_true, gb_ne0, gb_eq0]
theorem r_Q_sign_0 : Wp L d k_Q_sign 0 [vR b0, l1, l2] [] σ Q ↔ Wp L d k_Q_sign 1 [vR b0, l1, l2] [vR b0] σ Q := wp_aload rfl rfl
theorem r_Q_sign_1 : Wp L d k_Q_sign 1 [l0, vI a1, l2] [vR c0] σ Q ↔ Wp L d k_Q_sign 2 [l0, vI a1, l2] [vI a1, vR c0] σ Q := wp_iload rfl rfl
theorem r_Q_sign_2 (h : gK c0 = 4) : Wp L d k_Q_sign 2 [l0, l1, l2] [vI s1, vR c0] σ Q ↔ Wp L d k_Q_sign 5 [l0, l1, l2] [] (gupd σ c0 6 s1) Q := wp_putI (c := 1030) rfl rfl rfl rfl h
theorem r_Q_sign_5 : Wp L d k_Q_sign 5 [vR b0, l1, l2] [] σ Q ↔ Wp L d k_Q_sign 6 [vR b0, l1, l2] [vR b0] σ Q := wp_aload rfl rfl
theorem r_Q_sign_6 : Wp L d k_Q_sign 6 [l0, l1, vI a2] [vR c0] σ Q ↔ Wp L d k_Q_sign 7 [l0, l1, vI a2] [vI a2, vR c0] σ Q := wp_iload rfl rfl
theorem r_Q_sign_7 (h : gK c0 = 4) : Wp L d k_Q_sign 7 [l0, l1, l2] [vI s1, vR c0] σ Q ↔ Wp L d k_Q_sign 10 [l0, l1, l2] [] (gupd σ c0 7 s1) Q := wp_putI (c := 1031) rfl rfl rfl rfl h
theorem r_Q_sign_10 : Wp L d k_Q_sign 10 [l0, l1, l2] [] σ Q ↔ Q none σ := wp_vret rfl
theorem sp_Q_sign (hk : gK b0 = 4) : Run L d 127 [vR b0, vI a1, vI a2] σ none (gupd (gupd σ b0 6 a1) b0 7 a2) := by
  refine Run_of (C' := k_Q_sign) rfl ?_
  show Wp L d k_Q_sign 0 [vR b0, vI a1, vI a2] [] σ _
  simp (disch := first | assumption | exact gb_01 _ | omega) only [r_Q_sign_0, r_Q_sign_1, r_Q_sign_2, r_Q_sign_5, r_Q_sign_6, r_Q_sign_7, r_Q_sign_10, w32_gb, w32i, tn_add, tn_mul, Int.toNat_natCast, Int.toNat_zero, Int.reduceLE, Int.reduceLT, Int.reduceEq, Int.reduceNe, gb_T, gb_F, Int.reduceToNat, eq_self, true_or, or_true, and_true, true_and, and_self, ↓ite_gb0, ↓ite_gbn, ↓if_pos, ↓if_neg, if_true, if_false, not_true_eq_false, not_false_eq_true, gb_ne0, gb_eq0]
theorem r_X_part_0 : Wp L d k_X_part 0 [l0, vI a1, l2, l3, l4, l5, l6] [] σ Q ↔ Wp L d k_X_part 1 [l0, vI a1, l2, l3, l4, l5, l6] [vI a1] σ Q := wp_iload rfl rfl
theorem r_X_part_1 : Wp L d k_X_part 1 [l0, l1, l2, l3, l4, l5, l6] [vI s0] σ Q ↔ Wp L d k_X_part 2 [l0, l1, l2, l3, l4, l5, l6] [vI 0, vI s0] σ Q := wp_push rfl
theorem r_X_part_2 : Wp L d k_X_part 2 [l0, l1, l2, l3, l4, l5, l6] [vI s1, vI s0] σ Q ↔ Wp L d k_X_part 3 [l0, l1, l2, l3, l4, l5, l6] [vI 3, vI s1, vI s0] σ Q := wp_push rfl
theorem r_X_part_6 : Wp L d k_X_part 6 [l0, l1, l2, l3, l4, l5, l6] [vI s0] σ Q ↔ (if s0 = 0 then Wp L d k_X_part 28 [l0, l1, l2, l3, l4, l5, l6] [] σ Q else Wp L d k_X_part 9 [l0, l1, l2, l3, l4, l5, l6] [] σ Q) := wp_if_eq rfl
theorem r_X_part_9 : Wp L d k_X_part 9 [vR b0, l1, l2, l3, l4, l5, l6] [] σ Q ↔ Wp L d k_X_part 10 [vR b0, l1, l2, l3, l4, l5, l6] [vR b0] σ Q := wp_aload rfl rfl
theorem r_X_part_10 : Wp L d k_X_part 10 [l0, l1, vI a2, l3, l4, l5, l6] [vR c0] σ Q ↔ Wp L d k_X_part 11 [l0, l1, vI a2, l3, l4, l5, l6] [vI a2, vR c0] σ Q := wp_iload rfl rfl
theorem r_X_part_14 : Wp L d k_X_part 14 [l0, l1, l2, l3, l4, l5, l6] [vI s0] σ Q ↔ (if s0 = 0 then Wp L d k_X_part 28 [l0, l1, l2, l3, l4, l5, l6] [] σ Q else Wp L d k_X_part 17 [l0, l1, l2, l3, l4, l5, l6] [] σ Q) := wp_if_eq rfl
theorem r_X_part_17 : Wp L d k_X_part 17 [l0, l1, l2, vI a3, l4, l5, l6] [] σ Q ↔ Wp L d k_X_part 18 [l0, l1, l2, vI a3, l4, l5, l6] [vI a3] σ Q := wp_iload rfl rfl
theorem r_X_part_18 : Wp L d k_X_part 18 [l0, l1, l2, l3, l4, l5, l6] [vI s0] σ Q ↔ Wp L d k_X_part 19 [l0, l1, l2, l3, l4, l5, l6] [vI 1, vI s0] σ Q := wp_push rfl
theorem r_X_part_19 : Wp L d k_X_part 19 [l0, l1, l2, l3, l4, l5, l6] [vI s1, vI s0] σ Q ↔ Wp L d k_X_part 22 [l0, l1, l2, l3, l4, l5, l6] [vI 999, vI s1, vI s0] σ Q := wp_push rfl
theorem r_X_part_25 : Wp L d k_X_part 25 [l0, l1, l2, l3, l4, l5, l6] [vI s0] σ Q ↔ (if s0 ≠ 0 then Wp L d k_X_part 31 [l0, l1, l2, l3, l4, l5, l6] [] σ Q else Wp L d k_X_part 28 [l0, l1, l2, l3, l4, l5, l6] [] σ Q) := wp_if_ne rfl
theorem r_X_part_28 : Wp L d k_X_part 28 [l0, l1, l2, l3, l4, l5, l6] [] σ Q ↔ Wp L d k_X_part 30 [l0, l1, l2, l3, l4, l5, l6] [vI (-1000000001)] σ Q := wp_push rfl
theorem r_X_part_30 : Wp L d k_X_part 30 [l0, l1, l2, l3, l4, l5, l6] [vI s0] σ Q ↔ Q (some (vI s0)) σ := wp_iret rfl
theorem r_X_part_31 : Wp L d k_X_part 31 [l0, l1, l2, l3, vI a4, l5, l6] [] σ Q ↔ Wp L d k_X_part 33 [l0, l1, l2, l3, vI a4, l5, l6] [vI a4] σ Q := wp_iload rfl rfl
theorem r_X_part_33 : Wp L d k_X_part 33 [l0, l1, l2, l3, l4, l5, l6] [vI s0] σ Q ↔ Wp L d k_X_part 34 [l0, l1, l2, l3, l4, l5, l6] [vI 1, vI s0] σ Q := wp_push rfl
theorem r_X_part_34 : Wp L d k_X_part 34 [l0, l1, l2, l3, l4, l5, l6] [vI s1, vI s0] σ Q ↔ Wp L d k_X_part 36 [l0, l1, l2, l3, l4, l5, l6] [vI 9, vI s1, vI s0] σ Q := wp_push rfl
theorem r_X_part_39 : Wp L d k_X_part 39 [l0, l1, l2, l3, l4, l5, l6] [vI s0] σ Q ↔ (if s0 = 0 then Wp L d k_X_part 52 [l0, l1, l2, l3, l4, l5, l6] [] σ Q else Wp L d k_X_part 42 [l0, l1, l2, l3, l4, l5, l6] [] σ Q) := wp_if_eq rfl
theorem r_X_part_42 : Wp L d k_X_part 42 [l0, l1, l2, l3, l4, vI a5, l6] [] σ Q ↔ Wp L d k_X_part 44 [l0, l1, l2, l3, l4, vI a5, l6] [vI a5] σ Q := wp_iload rfl rfl
theorem r_X_part_44 : Wp L d k_X_part 44 [l0, l1, l2, l3, l4, l5, l6] [vI s0] σ Q ↔ Wp L d k_X_part 45 [l0, l1, l2, l3, l4, l5, l6] [vI 0, vI s0] σ Q := wp_push rfl
theorem r_X_part_45 : Wp L d k_X_part 45 [l0, l1, l2, l3, l4, l5, l6] [vI s1, vI s0] σ Q ↔ Wp L d k_X_part 46 [l0, l1, l2, l3, l4, l5, l6] [vI 5, vI s1, vI s0] σ Q := wp_push rfl
theorem r_X_part_49 : Wp L d k_X_part 49 [l0, l1, l2, l3, l4, l5, l6] [vI s0] σ Q ↔ (if s0 ≠ 0 then Wp L d k_X_part 55 [l0, l1, l2, l3, l4, l5, l6] [] σ Q else Wp L d k_X_part 52 [l0, l1, l2, l3, l4, l5, l6] [] σ Q) := wp_if_ne rfl
theorem r_X_part_52 : Wp L d k_X_part 52 [l0, l1, l2, l3, l4, l5, l6] [] σ Q ↔ Wp L d k_X_part 54 [l0, l1, l2, l3, l4, l5, l6] [vI (-1000000001)] σ Q := wp_push rfl
theorem r_X_part_54 : Wp L d k_X_part 54 [l0, l1, l2, l3, l4, l5, l6] [vI s0] σ Q ↔ Q (some (vI s0)) σ := wp_iret rfl
theorem r_X_part_55 : Wp L d k_X_part 55 [vR b0, l1, l2, l3, l4, l5, l6] [] σ Q ↔ Wp L d k_X_part 56 [vR b0, l1, l2, l3, l4, l5, l6] [vR b0] σ Q := wp_aload rfl rfl
theorem r_X_part_56 (h : gK c0 = 0) : Wp L d k_X_part 56 [l0, l1, l2, l3, l4, l5, l6] [vR c0] σ Q ↔ Wp L d k_X_part 59 [l0, l1, l2, l3, l4, l5, l6] [vR (gq c0 1)] σ Q := wp_getR (c := 129) rfl rfl rfl rfl rfl h
theorem r_X_part_59 (h : gK c0 = 1) : Wp L d k_X_part 59 [l0, l1, l2, l3, l4, l5, l6] [vR c0] σ Q ↔ Wp L d k_X_part 62 [l0, l1, l2, l3, l4, l5, l6] [vI (σ c0 9)] σ Q := wp_getI (c := 265) rfl rfl rfl rfl h
theorem r_X_part_62 : Wp L d k_X_part 62 [l0, l1, l2, l3, l4, l5, l6] [vI s0] σ Q ↔ Wp L d k_X_part 64 [l0, l1, l2, l3, l4, l5, l6] [vI 40, vI s0] σ Q := wp_push rfl
theorem r_X_part_64 : Wp L d k_X_part 64 [l0, l1, l2, l3, l4, l5, l6] [vI s1, vI s0] σ Q ↔ (if s0 < s1 then Wp L d k_X_part 70 [l0, l1, l2, l3, l4, l5, l6] [] σ Q else Wp L d k_X_part 67 [l0, l1, l2, l3, l4, l5, l6] [] σ Q) := wp_cmp_lt rfl
theorem r_X_part_67 : Wp L d k_X_part 67 [l0, l1, l2, l3, l4, l5, l6] [] σ Q ↔ Wp L d k_X_part 69 [l0, l1, l2, l3, l4, l5, l6] [vI (-1000000003)] σ Q := wp_push rfl
theorem r_X_part_69 : Wp L d k_X_part 69 [l0, l1, l2, l3, l4, l5, l6] [vI s0] σ Q ↔ Q (some (vI s0)) σ := wp_iret rfl
theorem r_X_part_70 : Wp L d k_X_part 70 [vR b0, l1, l2, l3, l4, l5, l6] [] σ Q ↔ Wp L d k_X_part 71 [vR b0, l1, l2, l3, l4, l5, l6] [vR b0] σ Q := wp_aload rfl rfl
theorem r_X_part_71 (h : gK c0 = 0) : Wp L d k_X_part 71 [l0, l1, l2, l3, l4, l5, l6] [vR c0] σ Q ↔ Wp L d k_X_part 74 [l0, l1, l2, l3, l4, l5, l6] [vR (gq c0 1)] σ Q := wp_getR (c := 129) rfl rfl rfl rfl rfl h
theorem r_X_part_74 (h : gK c0 = 1) : Wp L d k_X_part 74 [l0, l1, l2, l3, l4, l5, l6] [vR c0] σ Q ↔ Wp L d k_X_part 77 [l0, l1, l2, l3, l4, l5, l6] [vR (gq c0 3)] σ Q := wp_getR (c := 387) rfl rfl rfl rfl rfl h
theorem r_X_part_77 : Wp L d k_X_part 77 [vR b0, l1, l2, l3, l4, l5, l6] [vR c0] σ Q ↔ Wp L d k_X_part 78 [vR b0, l1, l2, l3, l4, l5, l6] [vR b0, vR c0] σ Q := wp_aload rfl rfl
theorem r_X_part_78 (h : gK c1 = 0) : Wp L d k_X_part 78 [l0, l1, l2, l3, l4, l5, l6] [vR c1, vR c0] σ Q ↔ Wp L d k_X_part 81 [l0, l1, l2, l3, l4, l5, l6] [vR (gq c1 1), vR c0] σ Q := wp_getR (c := 129) rfl rfl rfl rfl rfl h
theorem r_X_part_81 (h : gK c1 = 1) : Wp L d k_X_part 81 [l0, l1, l2, l3, l4, l5, l6] [vR c1, vR c0] σ Q ↔ Wp L d k_X_part 84 [l0, l1, l2, l3, l4, l5, l6] [vI (σ c1 9), vR c0] σ Q := wp_getI (c := 265) rfl rfl rfl rfl h
theorem r_X_part_84 (h : gK c0 = 102 ∨ gK c0 = 103) (hx : 0 ≤ s1 ∧ s1 < gN c0) : Wp L d k_X_part 84 [l0, l1, l2, l3, l4, l5, l6] [vI s1, vR c0] σ Q ↔ Wp L d k_X_part 85 [l0, l1, l2, l3, l4, l5, l6] [vR (gq c0 s1.toNat)] σ Q := wp_aald rfl h hx
theorem r_X_part_85 : Wp L d k_X_part 85 [l0, l1, l2, l3, l4, vI a5, l6] [vR c0] σ Q ↔ Wp L d k_X_part 87 [l0, l1, l2, l3, l4, vI a5, vR c0] [] σ Q := wp_astore (i := 6) (ls := [l0, l1, l2, l3, l4, vI a5, l6]) rfl rfl
theorem r_X_part_87 : Wp L d k_X_part 87 [l0, l1, l2, l3, l4, l5, vR b6] [] σ Q ↔ Wp L d k_X_part 89 [l0, l1, l2, l3, l4, l5, vR b6] [vR b6] σ Q := wp_aload rfl rfl
theorem r_X_part_89 : Wp L d k_X_part 89 [l0, vI a1, l2, l3, l4, l5, l6] [vR c0] σ Q ↔ Wp L d k_X_part 90 [l0, vI a1, l2, l3, l4, l5, l6] [vI a1, vR c0] σ Q := wp_iload rfl rfl
theorem r_X_part_90 : Wp L d k_X_part 90 [l0, l1, vI a2, l3, l4, l5, l6] [vI s1, vR c0] σ Q ↔ Wp L d k_X_part 91 [l0, l1, vI a2, l3, l4, l5, l6] [vI a2, vI s1, vR c0] σ Q := wp_iload rfl rfl
theorem r_X_part_91 : Wp L d k_X_part 91 [l0, l1, l2, vI a3, l4, l5, l6] [vI s2, vI s1, vR c0] σ Q ↔ Wp L d k_X_part 92 [l0, l1, l2, vI a3, l4, l5, l6] [vI a3, vI s2, vI s1, vR c0] σ Q := wp_iload rfl rfl
theorem r_X_part_92 : Wp L d k_X_part 92 [l0, l1, l2, l3, vI a4, l5, l6] [vI s3, vI s2, vI s1, vR c0] σ Q ↔ Wp L d k_X_part 94 [l0, l1, l2, l3, vI a4, l5, l6] [vI a4, vI s3, vI s2, vI s1, vR c0] σ Q := wp_iload rfl rfl
theorem r_X_part_97 : Wp L d k_X_part 97 [l0, l1, l2, l3, l4, l5, vR b6] [] σ Q ↔ Wp L d k_X_part 99 [l0, l1, l2, l3, l4, l5, vR b6] [vR b6] σ Q := wp_aload rfl rfl
theorem r_X_part_99 : Wp L d k_X_part 99 [l0, l1, l2, l3, l4, vI a5, l6] [vR c0] σ Q ↔ Wp L d k_X_part 101 [l0, l1, l2, l3, l4, vI a5, l6] [vI a5, vR c0] σ Q := wp_iload rfl rfl
theorem r_X_part_101 : Wp L d k_X_part 101 [vR b0, l1, l2, l3, l4, l5, l6] [vI s1, vR c0] σ Q ↔ Wp L d k_X_part 102 [vR b0, l1, l2, l3, l4, l5, l6] [vR b0, vI s1, vR c0] σ Q := wp_aload rfl rfl
theorem r_X_part_102 (h : gK c2 = 0) : Wp L d k_X_part 102 [l0, l1, l2, l3, l4, l5, l6] [vR c2, vI s1, vR c0] σ Q ↔ Wp L d k_X_part 105 [l0, l1, l2, l3, l4, l5, l6] [vR (gq c2 0), vI s1, vR c0] σ Q := wp_getR (c := 128) rfl rfl rfl rfl rfl h
theorem r_X_part_105 (h : gK c2 = 5) : Wp L d k_X_part 105 [l0, l1, l2, l3, l4, l5, l6] [vR c2, vI s1, vR c0] σ Q ↔ Wp L d k_X_part 108 [l0, l1, l2, l3, l4, l5, l6] [vI (σ c2 7), vI s1, vR c0] σ Q := wp_getI (c := 1287) rfl rfl rfl rfl h
theorem r_X_part_111 : Wp L d k_X_part 111 [vR b0, l1, l2, l3, l4, l5, l6] [] σ Q ↔ Wp L d k_X_part 112 [vR b0, l1, l2, l3, l4, l5, l6] [vR b0] σ Q := wp_aload rfl rfl
theorem r_X_part_112 (h : gK c0 = 0) : Wp L d k_X_part 112 [l0, l1, l2, l3, l4, l5, l6] [vR c0] σ Q ↔ Wp L d k_X_part 115 [l0, l1, l2, l3, l4, l5, l6] [vR (gq c0 1)] σ Q := wp_getR (c := 129) rfl rfl rfl rfl rfl h
theorem r_X_part_115 : Wp L d k_X_part 115 [l0, l1, l2, l3, l4, l5, l6] [vR c0] σ Q ↔ Wp L d k_X_part 116 [l0, l1, l2, l3, l4, l5, l6] [vR c0, vR c0] σ Q := wp_dupR rfl
theorem r_X_part_116 (h : gK c1 = 1) : Wp L d k_X_part 116 [l0, l1, l2, l3, l4, l5, l6] [vR c1, vR c0] σ Q ↔ Wp L d k_X_part 119 [l0, l1, l2, l3, l4, l5, l6] [vI (σ c1 9), vR c0] σ Q := wp_getI (c := 265) rfl rfl rfl rfl h
theorem r_X_part_119 : Wp L d k_X_part 119 [l0, l1, l2, l3, l4, l5, l6] [vI s1, vR c0] σ Q ↔ Wp L d k_X_part 120 [l0, l1, l2, l3, l4, l5, l6] [vI s1, vR c0, vI s1] σ Q := wp_dup_x1 rfl
theorem r_X_part_120 : Wp L d k_X_part 120 [l0, l1, l2, l3, l4, l5, l6] [vI s2, vR c1, vI s0] σ Q ↔ Wp L d k_X_part 121 [l0, l1, l2, l3, l4, l5, l6] [vI 1, vI s2, vR c1, vI s0] σ Q := wp_push rfl
theorem r_X_part_121 : Wp L d k_X_part 121 [l0, l1, l2, l3, l4, l5, l6] [vI s3, vI s2, vR c1, vI s0] σ Q ↔ Wp L d k_X_part 122 [l0, l1, l2, l3, l4, l5, l6] [vI (w32 (s2 + s3)), vR c1, vI s0] σ Q := wp_iadd rfl
theorem r_X_part_122 (h : gK c1 = 1) : Wp L d k_X_part 122 [l0, l1, l2, l3, l4, l5, l6] [vI s2, vR c1, vI s0] σ Q ↔ Wp L d k_X_part 125 [l0, l1, l2, l3, l4, l5, l6] [vI s0] (gupd σ c1 9 s2) Q := wp_putI (c := 265) rfl rfl rfl rfl h
theorem r_X_part_125 : Wp L d k_X_part 125 [l0, l1, l2, l3, l4, l5, l6] [vI s0] σ Q ↔ Q (some (vI s0)) σ := wp_iret rfl
theorem r_X_part_3 : Wp L (d + 2) k_X_part 3 [l0, l1, l2, l3, l4, l5, l6] [vI s2, vI s1, vI s0] σ Q ↔ Wp L (d + 2) k_X_part 6 [l0, l1, l2, l3, l4, l5, l6] [vI (gb (s1 ≤ s0 ∧ s0 ≤ s2))] σ Q := wp_callR (d := d + 1) (as := [vI s0, vI s1, vI s2]) (rest := []) rfl rfl rfl rfl rfl rfl rfl rfl (sp_X_within)
theorem r_X_part_11 : Wp L (d + 2) k_X_part 11 [l0, l1, l2, l3, l4, l5, l6] [vI s1, vR 27] σ Q ↔ Wp L (d + 2) k_X_part 14 [l0, l1, l2, l3, l4, l5, l6] [vI (gb (0 ≤ s1 ∧ s1 ≤ σ 29 8))] σ Q := wp_callR (d := d + 1) (as := [vR 27, vI s1]) (rest := []) rfl rfl rfl rfl rfl rfl rfl (grecv_k (by rw [gK_27]) rfl) (sp_X_isPier)
theorem r_X_part_22 : Wp L (d + 2) k_X_part 22 [l0, l1, l2, l3, l4, l5, l6] [vI s2, vI s1, vI s0] σ Q ↔ Wp L (d + 2) k_X_part 25 [l0, l1, l2, l3, l4, l5, l6] [vI (gb (s1 ≤ s0 ∧ s0 ≤ s2))] σ Q := wp_callR (d := d + 1) (as := [vI s0, vI s1, vI s2]) (rest := []) rfl rfl rfl rfl rfl rfl rfl rfl (sp_X_within)
theorem r_X_part_36 : Wp L (d + 2) k_X_part 36 [l0, l1, l2, l3, l4, l5, l6] [vI s2, vI s1, vI s0] σ Q ↔ Wp L (d + 2) k_X_part 39 [l0, l1, l2, l3, l4, l5, l6] [vI (gb (s1 ≤ s0 ∧ s0 ≤ s2))] σ Q := wp_callR (d := d + 1) (as := [vI s0, vI s1, vI s2]) (rest := []) rfl rfl rfl rfl rfl rfl rfl rfl (sp_X_within)
theorem r_X_part_46 : Wp L (d + 2) k_X_part 46 [l0, l1, l2, l3, l4, l5, l6] [vI s2, vI s1, vI s0] σ Q ↔ Wp L (d + 2) k_X_part 49 [l0, l1, l2, l3, l4, l5, l6] [vI (gb (s1 ≤ s0 ∧ s0 ≤ s2))] σ Q := wp_callR (d := d + 1) (as := [vI s0, vI s1, vI s2]) (rest := []) rfl rfl rfl rfl rfl rfl rfl rfl (sp_X_within)
theorem r_X_part_94 (hk : gK c0 = 4) : Wp L (d + 2) k_X_part 94 [l0, l1, l2, l3, l4, l5, l6] [vI s4, vI s3, vI s2, vI s1, vR c0] σ Q ↔ Wp L (d + 2) k_X_part 97 [l0, l1, l2, l3, l4, l5, l6] [] (gupd (gupd (gupd (gupd (gupd (gupd (gupd (gupd (gupd (gupd σ c0 0 s1) c0 1 s2) c0 2 s3) c0 3 s4) c0 4 0) c0 5 0) c0 8 0) c0 9 0) c0 10 (gb (s1 ≠ 4))) c0 11 0) Q := wp_callR (d := d + 1) (as := [vR c0, vI s1, vI s2, vI s3, vI s4]) (rest := []) rfl rfl rfl rfl rfl rfl rfl (grecv_k (by rw [hk]) rfl) (sp_Q_cast hk)
theorem r_X_part_108 (hk : gK c0 = 4) : Wp L (d + 2) k_X_part 108 [l0, l1, l2, l3, l4, l5, l6] [vI s2, vI s1, vR c0] σ Q ↔ Wp L (d + 2) k_X_part 111 [l0, l1, l2, l3, l4, l5, l6] [] (gupd (gupd σ c0 6 s1) c0 7 s2) Q := wp_callR (d := d + 1) (as := [vR c0, vI s1, vI s2]) (rest := []) rfl rfl rfl rfl rfl rfl rfl (grecv_k (by rw [hk]) rfl) (sp_Q_sign hk)
theorem sp_X_part_b (h : ¬ ((0 ≤ a1 ∧ a1 ≤ 3) ∧ (0 ≤ a2 ∧ a2 ≤ σ 29 8) ∧ (1 ≤ a3 ∧ a3 ≤ 999) ∧ (1 ≤ a4 ∧ a4 ≤ 9) ∧ 0 ≤ a5 ∧ a5 ≤ 5)) : Run L (d + 2) 21 [vR 27, vI a1, vI a2, vI a3, vI a4, vI a5] σ (some (vI (-1000000001))) σ := by
  refine Run_of (C' := k_X_part) rfl ?_
  show Wp L (d + 2) k_X_part 0 [vR 27, vI a1, vI a2, vI a3, vI a4, vI a5, vU] [] σ _
  obtain ⟨K27, K28, K29, K78, K97, K99, K109, K123, K125, K279, K282⟩ := litX
  by_cases e1 : 0 ≤ a1 ∧ a1 ≤ 3
  · by_cases e2 : 0 ≤ a2 ∧ a2 ≤ σ 29 8
    · by_cases e3 : 1 ≤ a3 ∧ a3 ≤ 999
      · by_cases e4 : 1 ≤ a4 ∧ a4 ≤ 9
        · simp (disch := first | assumption | exact gb_01 _ | omega) only [r_X_part_0, r_X_part_1, r_X_part_2, r_X_part_3, r_X_part_6, r_X_part_9, r_X_part_10, r_X_part_11, r_X_part_14, r_X_part_17, r_X_part_18, r_X_part_19, r_X_part_22, r_X_part_25, r_X_part_28, r_X_part_30, r_X_part_31, r_X_part_33, r_X_part_34, r_X_part_36, r_X_part_39, r_X_part_42, r_X_part_44, r_X_part_45, r_X_part_46, r_X_part_49, r_X_part_52, r_X_part_54, gq_27_0, gq_27_1, gq_27_2, gq_27_3, gq_27_4, gq_27_5, gq_27_6, gq_28_0, gq_28_1, gq_28_2, gq_28_3, gq_28_4, gq_28_5, gq_28_6, w32_gb, w32i, tn_add, tn_mul, Int.toNat_natCast, Int.toNat_zero, Int.reduceLE, Int.reduceLT, Int.reduceEq, Int.reduceNe, gb_T, gb_F, Int.reduceToNat, eq_self, true_or, or_true, and_true, true_and, and_self, ↓ite_gb0, ↓ite_gbn, ↓if_pos, ↓if_neg, if_true, if_false, not_true_eq_false, not_false_eq_true, gb_ne0, gb_eq0]
        · simp (disch := first | assumption | exact gb_01 _ | omega) only [r_X_part_0, r_X_part_1, r_X_part_2, r_X_part_3, r_X_part_6, r_X_part_9, r_X_part_10, r_X_part_11, r_X_part_14, r_X_part_17, r_X_part_18, r_X_part_19, r_X_part_22, r_X_part_25, r_X_part_28, r_X_part_30, r_X_part_31, r_X_part_33, r_X_part_34, r_X_part_36, r_X_part_39, r_X_part_42, r_X_part_44, r_X_part_45, r_X_part_46, r_X_part_49, r_X_part_52, r_X_part_54, gq_27_0, gq_27_1, gq_27_2, gq_27_3, gq_27_4, gq_27_5, gq_27_6, gq_28_0, gq_28_1, gq_28_2, gq_28_3, gq_28_4, gq_28_5, gq_28_6, w32_gb, w32i, tn_add, tn_mul, Int.toNat_natCast, Int.toNat_zero, Int.reduceLE, Int.reduceLT, Int.reduceEq, Int.reduceNe, gb_T, gb_F, Int.reduceToNat, eq_self, true_or, or_true, and_true, true_and, and_self, ↓ite_gb0, ↓ite_gbn, ↓if_pos, ↓if_neg, if_true, if_false, not_true_eq_false, not_false_eq_true, gb_ne0, gb_eq0]
      · simp (disch := first | assumption | exact gb_01 _ | omega) only [r_X_part_0, r_X_part_1, r_X_part_2, r_X_part_3, r_X_part_6, r_X_part_9, r_X_part_10, r_X_part_11, r_X_part_14, r_X_part_17, r_X_part_18, r_X_part_19, r_X_part_22, r_X_part_25, r_X_part_28, r_X_part_30, r_X_part_31, r_X_part_33, r_X_part_34, r_X_part_36, r_X_part_39, r_X_part_42, r_X_part_44, r_X_part_45, r_X_part_46, r_X_part_49, r_X_part_52, r_X_part_54, gq_27_0, gq_27_1, gq_27_2, gq_27_3, gq_27_4, gq_27_5, gq_27_6, gq_28_0, gq_28_1, gq_28_2, gq_28_3, gq_28_4, gq_28_5, gq_28_6, w32_gb, w32i, tn_add, tn_mul, Int.toNat_natCast, Int.toNat_zero, Int.reduceLE, Int.reduceLT, Int.reduceEq, Int.reduceNe, gb_T, gb_F, Int.reduceToNat, eq_self, true_or, or_true, and_true, true_and, and_self, ↓ite_gb0, ↓ite_gbn, ↓if_pos, ↓if_neg, if_true, if_false, not_true_eq_false, not_false_eq_true, gb_ne0, gb_eq0]
    · simp (disch := first | assumption | exact gb_01 _ | omega) only [r_X_part_0, r_X_part_1, r_X_part_2, r_X_part_3, r_X_part_6, r_X_part_9, r_X_part_10, r_X_part_11, r_X_part_14, r_X_part_17, r_X_part_18, r_X_part_19, r_X_part_22, r_X_part_25, r_X_part_28, r_X_part_30, r_X_part_31, r_X_part_33, r_X_part_34, r_X_part_36, r_X_part_39, r_X_part_42, r_X_part_44, r_X_part_45, r_X_part_46, r_X_part_49, r_X_part_52, r_X_part_54, gq_27_0, gq_27_1, gq_27_2, gq_27_3, gq_27_4, gq_27_5, gq_27_6, gq_28_0, gq_28_1, gq_28_2, gq_28_3, gq_28_4, gq_28_5, gq_28_6, w32_gb, w32i, tn_add, tn_mul, Int.toNat_natCast, Int.toNat_zero, Int.reduceLE, Int.reduceLT, Int.reduceEq, Int.reduceNe, gb_T, gb_F, Int.reduceToNat, eq_self, true_or, or_true, and_true, true_and, and_self, ↓ite_gb0, ↓ite_gbn, ↓if_pos, ↓if_neg, if_true, if_false, not_true_eq_false, not_false_eq_true, gb_ne0, gb_eq0]
  · simp (disch := first | assumption | exact gb_01 _ | omega) only [r_X_part_0, r_X_part_1, r_X_part_2, r_X_part_3, r_X_part_6, r_X_part_9, r_X_part_10, r_X_part_11, r_X_part_14, r_X_part_17, r_X_part_18, r_X_part_19, r_X_part_22, r_X_part_25, r_X_part_28, r_X_part_30, r_X_part_31, r_X_part_33, r_X_part_34, r_X_part_36, r_X_part_39, r_X_part_42, r_X_part_44, r_X_part_45, r_X_part_46, r_X_part_49, r_X_part_52, r_X_part_54, gq_27_0, gq_27_1, gq_27_2, gq_27_3, gq_27_4, gq_27_5, gq_27_6, gq_28_0, gq_28_1, gq_28_2, gq_28_3, gq_28_4, gq_28_5, gq_28_6, w32_gb, w32i, tn_add, tn_mul, Int.toNat_natCast, Int.toNat_zero, Int.reduceLE, Int.reduceLT, Int.reduceEq, Int.reduceNe, gb_T, gb_F, Int.reduceToNat, eq_self, true_or, or_true, and_true, true_and, and_self, ↓ite_gb0, ↓ite_gbn, ↓if_pos, ↓if_neg, if_true, if_false, not_true_eq_false, not_false_eq_true, gb_ne0, gb_eq0]
theorem r_M_part_0 : Wp L d k_M_part 0 [l0, vI a1, l2, l3, l4, l5] [] σ Q ↔ Wp L d k_M_part 1 [l0, vI a1, l2, l3, l4, l5] [vI a1] σ Q := wp_iload rfl rfl
theorem r_M_part_1 : Wp L d k_M_part 1 [l0, l1, l2, l3, l4, l5] [vI s0] σ Q ↔ Wp L d k_M_part 2 [l0, l1, l2, l3, l4, l5] [vL s0] σ Q := wp_i2l rfl
theorem r_M_part_2 : Wp L d k_M_part 2 [l0, l1, l2, l3, l4, l5] [vL s0] σ Q ↔ Wp L d k_M_part 3 [l0, l1, l2, l3, l4, l5] [vL 0, vL s0] σ Q := wp_pushL rfl
theorem r_M_part_3 : Wp L d k_M_part 3 [l0, l1, l2, l3, l4, l5] [vL s1, vL s0] σ Q ↔ Wp L d k_M_part 6 [l0, l1, l2, l3, l4, l5] [vL 3, vL s1, vL s0] σ Q := wp_pushL rfl
theorem r_M_part_9 : Wp L d k_M_part 9 [l0, l1, l2, l3, l4, l5] [vI s0] σ Q ↔ (if s0 = 0 then Wp L d k_M_part 58 [l0, l1, l2, l3, l4, l5] [] σ Q else Wp L d k_M_part 12 [l0, l1, l2, l3, l4, l5] [] σ Q) := wp_if_eq rfl
theorem r_M_part_12 : Wp L d k_M_part 12 [vR b0, l1, l2, l3, l4, l5] [] σ Q ↔ Wp L d k_M_part 13 [vR b0, l1, l2, l3, l4, l5] [vR b0] σ Q := wp_aload rfl rfl
theorem r_M_part_13 : Wp L d k_M_part 13 [l0, l1, vI a2, l3, l4, l5] [vR c0] σ Q ↔ Wp L d k_M_part 14 [l0, l1, vI a2, l3, l4, l5] [vI a2, vR c0] σ Q := wp_iload rfl rfl
theorem r_M_part_17 : Wp L d k_M_part 17 [l0, l1, l2, l3, l4, l5] [vI s0] σ Q ↔ (if s0 = 0 then Wp L d k_M_part 58 [l0, l1, l2, l3, l4, l5] [] σ Q else Wp L d k_M_part 20 [l0, l1, l2, l3, l4, l5] [] σ Q) := wp_if_eq rfl
theorem r_M_part_20 : Wp L d k_M_part 20 [l0, l1, l2, vI a3, l4, l5] [] σ Q ↔ Wp L d k_M_part 21 [l0, l1, l2, vI a3, l4, l5] [vI a3] σ Q := wp_iload rfl rfl
theorem r_M_part_21 : Wp L d k_M_part 21 [l0, l1, l2, l3, l4, l5] [vI s0] σ Q ↔ Wp L d k_M_part 22 [l0, l1, l2, l3, l4, l5] [vL s0] σ Q := wp_i2l rfl
theorem r_M_part_22 : Wp L d k_M_part 22 [l0, l1, l2, l3, l4, l5] [vL s0] σ Q ↔ Wp L d k_M_part 23 [l0, l1, l2, l3, l4, l5] [vL 1, vL s0] σ Q := wp_pushL rfl
theorem r_M_part_23 : Wp L d k_M_part 23 [l0, l1, l2, l3, l4, l5] [vL s1, vL s0] σ Q ↔ Wp L d k_M_part 26 [l0, l1, l2, l3, l4, l5] [vL 999, vL s1, vL s0] σ Q := wp_pushL rfl
theorem r_M_part_29 : Wp L d k_M_part 29 [l0, l1, l2, l3, l4, l5] [vI s0] σ Q ↔ (if s0 = 0 then Wp L d k_M_part 58 [l0, l1, l2, l3, l4, l5] [] σ Q else Wp L d k_M_part 32 [l0, l1, l2, l3, l4, l5] [] σ Q) := wp_if_eq rfl
theorem r_M_part_32 : Wp L d k_M_part 32 [l0, l1, l2, l3, vI a4, l5] [] σ Q ↔ Wp L d k_M_part 34 [l0, l1, l2, l3, vI a4, l5] [vI a4] σ Q := wp_iload rfl rfl
theorem r_M_part_34 : Wp L d k_M_part 34 [l0, l1, l2, l3, l4, l5] [vI s0] σ Q ↔ Wp L d k_M_part 35 [l0, l1, l2, l3, l4, l5] [vL s0] σ Q := wp_i2l rfl
theorem r_M_part_35 : Wp L d k_M_part 35 [l0, l1, l2, l3, l4, l5] [vL s0] σ Q ↔ Wp L d k_M_part 36 [l0, l1, l2, l3, l4, l5] [vL 1, vL s0] σ Q := wp_pushL rfl
theorem r_M_part_36 : Wp L d k_M_part 36 [l0, l1, l2, l3, l4, l5] [vL s1, vL s0] σ Q ↔ Wp L d k_M_part 39 [l0, l1, l2, l3, l4, l5] [vL 9, vL s1, vL s0] σ Q := wp_pushL rfl
theorem r_M_part_42 : Wp L d k_M_part 42 [l0, l1, l2, l3, l4, l5] [vI s0] σ Q ↔ (if s0 = 0 then Wp L d k_M_part 58 [l0, l1, l2, l3, l4, l5] [] σ Q else Wp L d k_M_part 45 [l0, l1, l2, l3, l4, l5] [] σ Q) := wp_if_eq rfl
theorem r_M_part_45 : Wp L d k_M_part 45 [l0, l1, l2, l3, l4, vI a5] [] σ Q ↔ Wp L d k_M_part 47 [l0, l1, l2, l3, l4, vI a5] [vI a5] σ Q := wp_iload rfl rfl
theorem r_M_part_47 : Wp L d k_M_part 47 [l0, l1, l2, l3, l4, l5] [vI s0] σ Q ↔ Wp L d k_M_part 48 [l0, l1, l2, l3, l4, l5] [vL s0] σ Q := wp_i2l rfl
theorem r_M_part_48 : Wp L d k_M_part 48 [l0, l1, l2, l3, l4, l5] [vL s0] σ Q ↔ Wp L d k_M_part 49 [l0, l1, l2, l3, l4, l5] [vL 0, vL s0] σ Q := wp_pushL rfl
theorem r_M_part_49 : Wp L d k_M_part 49 [l0, l1, l2, l3, l4, l5] [vL s1, vL s0] σ Q ↔ Wp L d k_M_part 52 [l0, l1, l2, l3, l4, l5] [vL 5, vL s1, vL s0] σ Q := wp_pushL rfl
theorem r_M_part_55 : Wp L d k_M_part 55 [l0, l1, l2, l3, l4, l5] [vI s0] σ Q ↔ (if s0 ≠ 0 then Wp L d k_M_part 61 [l0, l1, l2, l3, l4, l5] [] σ Q else Wp L d k_M_part 58 [l0, l1, l2, l3, l4, l5] [] σ Q) := wp_if_ne rfl
theorem r_M_part_58 : Wp L d k_M_part 58 [l0, l1, l2, l3, l4, l5] [] σ Q ↔ Wp L d k_M_part 60 [l0, l1, l2, l3, l4, l5] [vI (-1000000001)] σ Q := wp_push rfl
theorem r_M_part_60 : Wp L d k_M_part 60 [l0, l1, l2, l3, l4, l5] [vI s0] σ Q ↔ Q (some (vI s0)) σ := wp_iret rfl
theorem r_M_part_61 : Wp L d k_M_part 61 [vR b0, l1, l2, l3, l4, l5] [] σ Q ↔ Wp L d k_M_part 62 [vR b0, l1, l2, l3, l4, l5] [vR b0] σ Q := wp_aload rfl rfl
theorem r_M_part_62 (h : gK c0 = 12) : Wp L d k_M_part 62 [l0, l1, l2, l3, l4, l5] [vR c0] σ Q ↔ Wp L d k_M_part 65 [l0, l1, l2, l3, l4, l5] [vR (gq c0 0)] σ Q := wp_getR (c := 3200) rfl rfl rfl rfl rfl h
theorem r_M_part_65 : Wp L d k_M_part 65 [l0, l1, l2, l3, l4, l5] [vR c0] σ Q ↔ Wp L d k_M_part 66 [l0, l1, l2, l3, l4, l5] [vI 1, vR c0] σ Q := wp_push rfl
theorem r_M_part_66 (h : gK c0 = 100) (hx : 0 ≤ s1 ∧ s1 < gN c0) : Wp L d k_M_part 66 [l0, l1, l2, l3, l4, l5] [vI s1, vR c0] σ Q ↔ Wp L d k_M_part 67 [l0, l1, l2, l3, l4, l5] [vI (σ c0 s1.toNat)] σ Q := wp_iald rfl h hx
theorem r_M_part_67 : Wp L d k_M_part 67 [l0, l1, l2, l3, l4, l5] [vI s0] σ Q ↔ Wp L d k_M_part 69 [l0, l1, l2, l3, l4, l5] [vI 40, vI s0] σ Q := wp_push rfl
theorem r_M_part_69 : Wp L d k_M_part 69 [l0, l1, l2, l3, l4, l5] [vI s1, vI s0] σ Q ↔ (if s0 ≠ s1 then Wp L d k_M_part 77 [l0, l1, l2, l3, l4, l5] [] σ Q else Wp L d k_M_part 72 [l0, l1, l2, l3, l4, l5] [] σ Q) := wp_cmp_ne rfl
theorem r_M_part_72 : Wp L d k_M_part 72 [l0, l1, l2, l3, l4, l5] [] σ Q ↔ Wp L d k_M_part 74 [l0, l1, l2, l3, l4, l5] [vI (-1000000003)] σ Q := wp_push rfl
theorem r_M_part_74 : Wp L d k_M_part 74 [l0, l1, l2, l3, l4, l5] [vI s0] σ Q ↔ Wp L d k_M_part 88 [l0, l1, l2, l3, l4, l5] [vI s0] σ Q := wp_goto rfl
theorem r_M_part_77 : Wp L d k_M_part 77 [vR b0, l1, l2, l3, l4, l5] [] σ Q ↔ Wp L d k_M_part 78 [vR b0, l1, l2, l3, l4, l5] [vR b0] σ Q := wp_aload rfl rfl
theorem r_M_part_78 : Wp L d k_M_part 78 [l0, vI a1, l2, l3, l4, l5] [vR c0] σ Q ↔ Wp L d k_M_part 79 [l0, vI a1, l2, l3, l4, l5] [vI a1, vR c0] σ Q := wp_iload rfl rfl
theorem r_M_part_79 : Wp L d k_M_part 79 [l0, l1, vI a2, l3, l4, l5] [vI s1, vR c0] σ Q ↔ Wp L d k_M_part 80 [l0, l1, vI a2, l3, l4, l5] [vI a2, vI s1, vR c0] σ Q := wp_iload rfl rfl
theorem r_M_part_80 : Wp L d k_M_part 80 [l0, l1, l2, vI a3, l4, l5] [vI s2, vI s1, vR c0] σ Q ↔ Wp L d k_M_part 81 [l0, l1, l2, vI a3, l4, l5] [vI a3, vI s2, vI s1, vR c0] σ Q := wp_iload rfl rfl
theorem r_M_part_81 : Wp L d k_M_part 81 [l0, l1, l2, l3, vI a4, l5] [vI s3, vI s2, vI s1, vR c0] σ Q ↔ Wp L d k_M_part 83 [l0, l1, l2, l3, vI a4, l5] [vI a4, vI s3, vI s2, vI s1, vR c0] σ Q := wp_iload rfl rfl
theorem r_M_part_83 : Wp L d k_M_part 83 [l0, l1, l2, l3, l4, vI a5] [vI s4, vI s3, vI s2, vI s1, vR c0] σ Q ↔ Wp L d k_M_part 85 [l0, l1, l2, l3, l4, vI a5] [vI a5, vI s4, vI s3, vI s2, vI s1, vR c0] σ Q := wp_iload rfl rfl
theorem c_M_part_85 (hR : Run L d 205 [vR c0, vI s1, vI s2, vI s3, vI s4, vI s5] σ r σ1) (h : gK c0 = 12) : Wp L (d + 1) k_M_part 85 [l0, l1, l2, l3, l4, l5] [vI s5, vI s4, vI s3, vI s2, vI s1, vR c0] σ Q ↔ Wp L (d + 1) k_M_part 88 [l0, l1, l2, l3, l4, l5] (r.toList ++ []) σ1 Q := wp_callR (as := [vR c0, vI s1, vI s2, vI s3, vI s4, vI s5]) (rest := []) rfl rfl rfl rfl rfl rfl rfl (grecv_k (by rw [h]) rfl) hR
theorem r_M_part_88 : Wp L d k_M_part 88 [l0, l1, l2, l3, l4, l5] [vI s0] σ Q ↔ Q (some (vI s0)) σ := wp_iret rfl
theorem r_M_part_6 : Wp L (d + 2) k_M_part 6 [l0, l1, l2, l3, l4, l5] [vL s2, vL s1, vL s0] σ Q ↔ Wp L (d + 2) k_M_part 9 [l0, l1, l2, l3, l4, l5] [vI (gb (s1 ≤ s0 ∧ s0 ≤ s2))] σ Q := wp_callR (d := d + 1) (as := [vL s0, vL s1, vL s2]) (rest := []) rfl rfl rfl rfl rfl rfl rfl rfl (sp_M_isIn)
theorem r_M_part_14 : Wp L (d + 2) k_M_part 14 [l0, l1, l2, l3, l4, l5] [vI s1, vR 293] σ Q ↔ Wp L (d + 2) k_M_part 17 [l0, l1, l2, l3, l4, l5] [vI (gb (0 ≤ s1 ∧ s1 ≤ σ 294 0))] σ Q := wp_callR (d := d + 1) (as := [vR 293, vI s1]) (rest := []) rfl rfl rfl rfl rfl rfl rfl (grecv_k (by rw [gK_293]) rfl) (sp_M_isPier)
theorem r_M_part_26 : Wp L (d + 2) k_M_part 26 [l0, l1, l2, l3, l4, l5] [vL s2, vL s1, vL s0] σ Q ↔ Wp L (d + 2) k_M_part 29 [l0, l1, l2, l3, l4, l5] [vI (gb (s1 ≤ s0 ∧ s0 ≤ s2))] σ Q := wp_callR (d := d + 1) (as := [vL s0, vL s1, vL s2]) (rest := []) rfl rfl rfl rfl rfl rfl rfl rfl (sp_M_isIn)
theorem r_M_part_39 : Wp L (d + 2) k_M_part 39 [l0, l1, l2, l3, l4, l5] [vL s2, vL s1, vL s0] σ Q ↔ Wp L (d + 2) k_M_part 42 [l0, l1, l2, l3, l4, l5] [vI (gb (s1 ≤ s0 ∧ s0 ≤ s2))] σ Q := wp_callR (d := d + 1) (as := [vL s0, vL s1, vL s2]) (rest := []) rfl rfl rfl rfl rfl rfl rfl rfl (sp_M_isIn)
theorem r_M_part_52 : Wp L (d + 2) k_M_part 52 [l0, l1, l2, l3, l4, l5] [vL s2, vL s1, vL s0] σ Q ↔ Wp L (d + 2) k_M_part 55 [l0, l1, l2, l3, l4, l5] [vI (gb (s1 ≤ s0 ∧ s0 ≤ s2))] σ Q := wp_callR (d := d + 1) (as := [vL s0, vL s1, vL s2]) (rest := []) rfl rfl rfl rfl rfl rfl rfl rfl (sp_M_isIn)
theorem sp_M_part_b (h : ¬ ((0 ≤ a1 ∧ a1 ≤ 3) ∧ (0 ≤ a2 ∧ a2 ≤ σ 294 0) ∧ (1 ≤ a3 ∧ a3 ≤ 999) ∧ (1 ≤ a4 ∧ a4 ≤ 9) ∧ 0 ≤ a5 ∧ a5 ≤ 5)) : Run L (d + 2) 203 [vR 293, vI a1, vI a2, vI a3, vI a4, vI a5] σ (some (vI (-1000000001))) σ := by
  refine Run_of (C' := k_M_part) rfl ?_
  show Wp L (d + 2) k_M_part 0 [vR 293, vI a1, vI a2, vI a3, vI a4, vI a5] [] σ _
  obtain ⟨K293, Q293, K294, N294⟩ := litM
  by_cases e1 : 0 ≤ a1 ∧ a1 ≤ 3
  · by_cases e2 : 0 ≤ a2 ∧ a2 ≤ σ 294 0
    · by_cases e3 : 1 ≤ a3 ∧ a3 ≤ 999
      · by_cases e4 : 1 ≤ a4 ∧ a4 ≤ 9
        · simp (disch := first | assumption | exact gb_01 _ | omega) only [r_M_part_0, r_M_part_1, r_M_part_2, r_M_part_3, r_M_part_6, r_M_part_9, r_M_part_12, r_M_part_13, r_M_part_14, r_M_part_17, r_M_part_20, r_M_part_21, r_M_part_22, r_M_part_23, r_M_part_26, r_M_part_29, r_M_part_32, r_M_part_34, r_M_part_35, r_M_part_36, r_M_part_39, r_M_part_42, r_M_part_45, r_M_part_47, r_M_part_48, r_M_part_49, r_M_part_52, r_M_part_55, r_M_part_58, r_M_part_60, Q293, w32_gb, w32i, tn_add, tn_mul, Int.toNat_natCast, Int.toNat_zero, Int.reduceLE, Int.reduceLT, Int.reduceEq, Int.reduceNe, gb_T, gb_F, Int.reduceToNat, eq_self, true_or, or_true, and_true, true_and, and_self, ↓ite_gb0, ↓ite_gbn, ↓if_pos, ↓if_neg, if_true, if_false, not_true_eq_false, not_false_eq_true, gb_ne0, gb_eq0]
        · simp (disch := first | assumption | exact gb_01 _ | omega) only [r_M_part_0, r_M_part_1, r_M_part_2, r_M_part_3, r_M_part_6, r_M_part_9, r_M_part_12, r_M_part_13, r_M_part_14, r_M_part_17, r_M_part_20, r_M_part_21, r_M_part_22, r_M_part_23, r_M_part_26, r_M_part_29, r_M_part_32, r_M_part_34, r_M_part_35, r_M_part_36, r_M_part_39, r_M_part_42, r_M_part_45, r_M_part_47, r_M_part_48, r_M_part_49, r_M_part_52, r_M_part_55, r_M_part_58, r_M_part_60, Q293, w32_gb, w32i, tn_add, tn_mul, Int.toNat_natCast, Int.toNat_zero, Int.reduceLE, Int.reduceLT, Int.reduceEq, Int.reduceNe, gb_T, gb_F, Int.reduceToNat, eq_self, true_or, or_true, and_true, true_and, and_self, ↓ite_gb0, ↓ite_gbn, ↓if_pos, ↓if_neg, if_true, if_false, not_true_eq_false, not_false_eq_true, gb_ne0, gb_eq0]
      · simp (disch := first | assumption | exact gb_01 _ | omega) only [r_M_part_0, r_M_part_1, r_M_part_2, r_M_part_3, r_M_part_6, r_M_part_9, r_M_part_12, r_M_part_13, r_M_part_14, r_M_part_17, r_M_part_20, r_M_part_21, r_M_part_22, r_M_part_23, r_M_part_26, r_M_part_29, r_M_part_32, r_M_part_34, r_M_part_35, r_M_part_36, r_M_part_39, r_M_part_42, r_M_part_45, r_M_part_47, r_M_part_48, r_M_part_49, r_M_part_52, r_M_part_55, r_M_part_58, r_M_part_60, Q293, w32_gb, w32i, tn_add, tn_mul, Int.toNat_natCast, Int.toNat_zero, Int.reduceLE, Int.reduceLT, Int.reduceEq, Int.reduceNe, gb_T, gb_F, Int.reduceToNat, eq_self, true_or, or_true, and_true, true_and, and_self, ↓ite_gb0, ↓ite_gbn, ↓if_pos, ↓if_neg, if_true, if_false, not_true_eq_false, not_false_eq_true, gb_ne0, gb_eq0]
    · simp (disch := first | assumption | exact gb_01 _ | omega) only [r_M_part_0, r_M_part_1, r_M_part_2, r_M_part_3, r_M_part_6, r_M_part_9, r_M_part_12, r_M_part_13, r_M_part_14, r_M_part_17, r_M_part_20, r_M_part_21, r_M_part_22, r_M_part_23, r_M_part_26, r_M_part_29, r_M_part_32, r_M_part_34, r_M_part_35, r_M_part_36, r_M_part_39, r_M_part_42, r_M_part_45, r_M_part_47, r_M_part_48, r_M_part_49, r_M_part_52, r_M_part_55, r_M_part_58, r_M_part_60, Q293, w32_gb, w32i, tn_add, tn_mul, Int.toNat_natCast, Int.toNat_zero, Int.reduceLE, Int.reduceLT, Int.reduceEq, Int.reduceNe, gb_T, gb_F, Int.reduceToNat, eq_self, true_or, or_true, and_true, true_and, and_self, ↓ite_gb0, ↓ite_gbn, ↓if_pos, ↓if_neg, if_true, if_false, not_true_eq_false, not_false_eq_true, gb_ne0, gb_eq0]
  · simp (disch := first | assumption | exact gb_01 _ | omega) only [r_M_part_0, r_M_part_1, r_M_part_2, r_M_part_3, r_M_part_6, r_M_part_9, r_M_part_12, r_M_part_13, r_M_part_14, r_M_part_17, r_M_part_20, r_M_part_21, r_M_part_22, r_M_part_23, r_M_part_26, r_M_part_29, r_M_part_32, r_M_part_34, r_M_part_35, r_M_part_36, r_M_part_39, r_M_part_42, r_M_part_45, r_M_part_47, r_M_part_48, r_M_part_49, r_M_part_52, r_M_part_55, r_M_part_58, r_M_part_60, Q293, w32_gb, w32i, tn_add, tn_mul, Int.toNat_natCast, Int.toNat_zero, Int.reduceLE, Int.reduceLT, Int.reduceEq, Int.reduceNe, gb_T, gb_F, Int.reduceToNat, eq_self, true_or, or_true, and_true, true_and, and_self, ↓ite_gb0, ↓ite_gbn, ↓if_pos, ↓if_neg, if_true, if_false, not_true_eq_false, not_false_eq_true, gb_ne0, gb_eq0]
theorem sp_X_part_f (h : (0 ≤ a1 ∧ a1 ≤ 3) ∧ (0 ≤ a2 ∧ a2 ≤ σ 29 8) ∧ (1 ≤ a3 ∧ a3 ≤ 999) ∧ (1 ≤ a4 ∧ a4 ≤ 9) ∧ 0 ≤ a5 ∧ a5 ≤ 5) (hf : 40 ≤ σ 29 9) : Run L (d + 2) 21 [vR 27, vI a1, vI a2, vI a3, vI a4, vI a5] σ (some (vI (-1000000003))) σ := by
  refine Run_of (C' := k_X_part) rfl ?_
  show Wp L (d + 2) k_X_part 0 [vR 27, vI a1, vI a2, vI a3, vI a4, vI a5, vU] [] σ _
  obtain ⟨K27, K28, K29, K78, K97, K99, K109, K123, K125, K279, K282⟩ := litX
  simp (disch := first | assumption | exact gb_01 _ | omega) only [r_X_part_0, r_X_part_1, r_X_part_2, r_X_part_3, r_X_part_6, r_X_part_9, r_X_part_10, r_X_part_11, r_X_part_14, r_X_part_17, r_X_part_18, r_X_part_19, r_X_part_22, r_X_part_25, r_X_part_28, r_X_part_30, r_X_part_31, r_X_part_33, r_X_part_34, r_X_part_36, r_X_part_39, r_X_part_42, r_X_part_44, r_X_part_45, r_X_part_46, r_X_part_49, r_X_part_52, r_X_part_54, r_X_part_55, r_X_part_56, r_X_part_59, r_X_part_62, r_X_part_64, r_X_part_67, r_X_part_69, gq_27_0, gq_27_1, gq_27_2, gq_27_3, gq_27_4, gq_27_5, gq_27_6, gq_28_0, gq_28_1, gq_28_2, gq_28_3, gq_28_4, gq_28_5, gq_28_6, w32_gb, w32i, tn_add, tn_mul, Int.toNat_natCast, Int.toNat_zero, Int.reduceLE, Int.reduceLT, Int.reduceEq, Int.reduceNe, gb_T, gb_F, Int.reduceToNat, eq_self, true_or, or_true, and_true, true_and, and_self, ↓ite_gb0, ↓ite_gbn, ↓if_pos, ↓if_neg, if_true, if_false, not_true_eq_false, not_false_eq_true, gb_ne0, gb_eq0]
theorem sp_M_part_f (h : (0 ≤ a1 ∧ a1 ≤ 3) ∧ (0 ≤ a2 ∧ a2 ≤ σ 294 0) ∧ (1 ≤ a3 ∧ a3 ≤ 999) ∧ (1 ≤ a4 ∧ a4 ≤ 9) ∧ 0 ≤ a5 ∧ a5 ≤ 5) (hf : σ 294 1 = 40) : Run L (d + 2) 203 [vR 293, vI a1, vI a2, vI a3, vI a4, vI a5] σ (some (vI (-1000000003))) σ := by
  refine Run_of (C' := k_M_part) rfl ?_
  show Wp L (d + 2) k_M_part 0 [vR 293, vI a1, vI a2, vI a3, vI a4, vI a5] [] σ _
  obtain ⟨K293, Q293, K294, N294⟩ := litM
  simp (disch := first | assumption | exact gb_01 _ | omega) only [r_M_part_0, r_M_part_1, r_M_part_2, r_M_part_3, r_M_part_6, r_M_part_9, r_M_part_12, r_M_part_13, r_M_part_14, r_M_part_17, r_M_part_20, r_M_part_21, r_M_part_22, r_M_part_23, r_M_part_26, r_M_part_29, r_M_part_32, r_M_part_34, r_M_part_35, r_M_part_36, r_M_part_39, r_M_part_42, r_M_part_45, r_M_part_47, r_M_part_48, r_M_part_49, r_M_part_52, r_M_part_55, r_M_part_58, r_M_part_60, r_M_part_61, r_M_part_62, r_M_part_65, r_M_part_66, r_M_part_67, r_M_part_69, r_M_part_72, r_M_part_74, r_M_part_77, r_M_part_78, r_M_part_79, r_M_part_80, r_M_part_81, r_M_part_83, r_M_part_88, Q293, w32_gb, w32i, tn_add, tn_mul, Int.toNat_natCast, Int.toNat_zero, Int.reduceLE, Int.reduceLT, Int.reduceEq, Int.reduceNe, gb_T, gb_F, Int.reduceToNat, eq_self, true_or, or_true, and_true, true_and, and_self, ↓ite_gb0, ↓ite_gbn, ↓if_pos, ↓if_neg, if_true, if_false, not_true_eq_false, not_false_eq_true, gb_ne0, gb_eq0]
theorem sp_X_part {p : Nat} (h : (0 ≤ a1 ∧ a1 ≤ 3) ∧ (0 ≤ a2 ∧ a2 ≤ σ 29 8) ∧ (1 ≤ a3 ∧ a3 ≤ 999) ∧ (1 ≤ a4 ∧ a4 ≤ 9) ∧ 0 ≤ a5 ∧ a5 ≤ 5) (hp : σ 29 9 = (p : Int)) (h40 : p < 40) : ∃ σ', Run L (d + 2) 21 [vR 27, vI a1, vI a2, vI a3, vI a4, vI a5] σ (some (vI (p : Int))) σ' ∧ (σ' (38 + p) 0 = a1 ∧ σ' (38 + p) 1 = a2 ∧ σ' (38 + p) 2 = a3 ∧ σ' (38 + p) 3 = a4 ∧ σ' (38 + p) 4 = 0 ∧ σ' (38 + p) 5 = 0 ∧ σ' (38 + p) 6 = a5 ∧ σ' (38 + p) 7 = σ 28 7 ∧ σ' (38 + p) 8 = 0 ∧ σ' (38 + p) 9 = 0 ∧ σ' (38 + p) 10 = gb (a1 ≠ 4) ∧ σ' (38 + p) 11 = 0 ∧ σ' 29 9 = (p : Int) + 1) ∧ Agr σ σ' (fun k j => k = 38 + p ∨ (k = 29 ∧ j = 9)) := by
  refine Run_ex (C' := k_X_part) rfl ?_
  show Wp L (d + 2) k_X_part 0 [vR 27, vI a1, vI a2, vI a3, vI a4, vI a5, vU] [] σ _
  obtain ⟨K27, K28, K29, K78, K97, K99, K109, K123, K125, K279, K282⟩ := litX
  have hB := BR29
  obtain ⟨⟨K0, q0, q1, q2, q3, q4, q5, q6, q7⟩, ⟨K1, K2, K3, K4, K5, K6, K7, K8⟩, ⟨N1, N2, N3, N4, N5, N6, N7, N8⟩, QP, KP⟩ := hB
  have kp := KP p (by omega)
  have q3' : gq 33 p = 38 + p := QP _ (by omega)
  have hp' : (σ 29 9).toNat = p := by omega
  simp only [Nat.reduceAdd] at kp K4 N4
  simp (disch := first | assumption | exact gb_01 _ | omega) only [r_X_part_0, r_X_part_1, r_X_part_2, r_X_part_3, r_X_part_6, r_X_part_9, r_X_part_10, r_X_part_11, r_X_part_14, r_X_part_17, r_X_part_18, r_X_part_19, r_X_part_22, r_X_part_25, r_X_part_28, r_X_part_30, r_X_part_31, r_X_part_33, r_X_part_34, r_X_part_36, r_X_part_39, r_X_part_42, r_X_part_44, r_X_part_45, r_X_part_46, r_X_part_49, r_X_part_52, r_X_part_54, r_X_part_55, r_X_part_56, r_X_part_59, r_X_part_62, r_X_part_64, r_X_part_67, r_X_part_69, r_X_part_70, r_X_part_71, r_X_part_74, r_X_part_77, r_X_part_78, r_X_part_81, r_X_part_84, r_X_part_85, r_X_part_87, r_X_part_89, r_X_part_90, r_X_part_91, r_X_part_92, r_X_part_94, r_X_part_97, r_X_part_99, r_X_part_101, r_X_part_102, r_X_part_105, r_X_part_108, r_X_part_111, r_X_part_112, r_X_part_115, r_X_part_116, r_X_part_119, r_X_part_120, r_X_part_121, r_X_part_122, r_X_part_125, gq_27_0, gq_27_1, gq_27_2, gq_27_3, gq_27_4, gq_27_5, gq_27_6, gq_28_0, gq_28_1, gq_28_2, gq_28_3, gq_28_4, gq_28_5, gq_28_6, gq_29_3, q3', hp', hp, gupd_ne, w32_gb, w32i, tn_add, tn_mul, Int.toNat_natCast, Int.toNat_zero, Int.reduceLE, Int.reduceLT, Int.reduceEq, Int.reduceNe, gb_T, gb_F, Int.reduceToNat, eq_self, true_or, or_true, and_true, true_and, and_self, ↓ite_gb0, ↓ite_gbn, ↓if_pos, ↓if_neg, if_true, if_false, not_true_eq_false, not_false_eq_true, gb_ne0, gb_eq0]
  refine ⟨?_, fun k j hn => by simp (disch := omega) only [gupd_ne]⟩
  simp (disch := omega) only [gupd_ne, gupd_eq, and_self]
theorem r_M_newPart_0 : Wp L d k_M_newPart 0 [vR b0, l1, l2, l3, l4, l5, l6, l7] [] σ Q ↔ Wp L d k_M_newPart 1 [vR b0, l1, l2, l3, l4, l5, l6, l7] [vR b0] σ Q := wp_aload rfl rfl
theorem r_M_newPart_1 : Wp L d k_M_newPart 1 [vR b0, l1, l2, l3, l4, l5, l6, l7] [vR c0] σ Q ↔ Wp L d k_M_newPart 2 [vR b0, l1, l2, l3, l4, l5, l6, l7] [vR b0, vR c0] σ Q := wp_aload rfl rfl
theorem r_M_newPart_2 (h : gK c1 = 12) : Wp L d k_M_newPart 2 [l0, l1, l2, l3, l4, l5, l6, l7] [vR c1, vR c0] σ Q ↔ Wp L d k_M_newPart 5 [l0, l1, l2, l3, l4, l5, l6, l7] [vR (gq c1 0), vR c0] σ Q := wp_getR (c := 3200) rfl rfl rfl rfl rfl h
theorem r_M_newPart_5 : Wp L d k_M_newPart 5 [l0, l1, l2, l3, l4, l5, l6, l7] [vR c1, vR c0] σ Q ↔ Wp L d k_M_newPart 6 [l0, l1, l2, l3, l4, l5, l6, l7] [vI 1, vR c1, vR c0] σ Q := wp_push rfl
theorem r_M_newPart_6 (h : gK c1 = 100) (hx : 0 ≤ s2 ∧ s2 < gN c1) : Wp L d k_M_newPart 6 [l0, l1, l2, l3, l4, l5, l6, l7] [vI s2, vR c1, vR c0] σ Q ↔ Wp L d k_M_newPart 7 [l0, l1, l2, l3, l4, l5, l6, l7] [vI (σ c1 s2.toNat), vR c0] σ Q := wp_iald rfl h hx
theorem r_M_newPart_10 : Wp L d k_M_newPart 10 [l0, l1, l2, l3, l4, vI a5, l6, l7] [vI s0] σ Q ↔ Wp L d k_M_newPart 12 [l0, l1, l2, l3, l4, vI a5, vI s0, l7] [] σ Q := wp_istore (i := 6) (ls := [l0, l1, l2, l3, l4, vI a5, l6, l7]) rfl rfl
theorem r_M_newPart_12 : Wp L d k_M_newPart 12 [l0, l1, l2, l3, l4, l5, l6, l7] [] σ Q ↔ Wp L d k_M_newPart 13 [l0, l1, l2, l3, l4, l5, l6, l7] [vI 0] σ Q := wp_push rfl
theorem r_M_newPart_13 : Wp L d k_M_newPart 13 [l0, l1, l2, l3, l4, l5, vI a6, l7] [vI s0] σ Q ↔ Wp L d k_M_newPart 15 [l0, l1, l2, l3, l4, l5, vI a6, vI s0] [] σ Q := wp_istore (i := 7) (ls := [l0, l1, l2, l3, l4, l5, vI a6, l7]) rfl rfl
theorem r_M_newPart_15 : Wp L d k_M_newPart 15 [l0, l1, l2, l3, l4, l5, l6, vI a7] [] σ Q ↔ Wp L d k_M_newPart 17 [l0, l1, l2, l3, l4, l5, l6, vI a7] [vI a7] σ Q := wp_iload rfl rfl
theorem r_M_newPart_17 : Wp L d k_M_newPart 17 [l0, l1, l2, l3, l4, l5, l6, l7] [vI s0] σ Q ↔ Wp L d k_M_newPart 19 [l0, l1, l2, l3, l4, l5, l6, l7] [vI 12, vI s0] σ Q := wp_push rfl
theorem r_M_newPart_19 : Wp L d k_M_newPart 19 [l0, l1, l2, l3, l4, l5, l6, l7] [vI s1, vI s0] σ Q ↔ (if s1 ≤ s0 then Wp L d k_M_newPart 39 [l0, l1, l2, l3, l4, l5, l6, l7] [] σ Q else Wp L d k_M_newPart 22 [l0, l1, l2, l3, l4, l5, l6, l7] [] σ Q) := wp_cmp_ge rfl
theorem r_M_newPart_22 : Wp L d k_M_newPart 22 [vR b0, l1, l2, l3, l4, l5, l6, l7] [] σ Q ↔ Wp L d k_M_newPart 23 [vR b0, l1, l2, l3, l4, l5, l6, l7] [vR b0] σ Q := wp_aload rfl rfl
theorem r_M_newPart_23 (h : gK c0 = 12) : Wp L d k_M_newPart 23 [l0, l1, l2, l3, l4, l5, l6, l7] [vR c0] σ Q ↔ Wp L d k_M_newPart 26 [l0, l1, l2, l3, l4, l5, l6, l7] [vR (gq c0 0)] σ Q := wp_getR (c := 3200) rfl rfl rfl rfl rfl h
theorem r_M_newPart_26 : Wp L d k_M_newPart 26 [l0, l1, l2, l3, l4, l5, vI a6, l7] [vR c0] σ Q ↔ Wp L d k_M_newPart 28 [l0, l1, l2, l3, l4, l5, vI a6, l7] [vI a6, vR c0] σ Q := wp_iload rfl rfl
theorem r_M_newPart_28 : Wp L d k_M_newPart 28 [l0, l1, l2, l3, l4, l5, l6, vI a7] [vI s1, vR c0] σ Q ↔ Wp L d k_M_newPart 30 [l0, l1, l2, l3, l4, l5, l6, vI a7] [vI a7, vI s1, vR c0] σ Q := wp_iload rfl rfl
theorem r_M_newPart_30 : Wp L d k_M_newPart 30 [l0, l1, l2, l3, l4, l5, l6, l7] [vI s2, vI s1, vR c0] σ Q ↔ Wp L d k_M_newPart 31 [l0, l1, l2, l3, l4, l5, l6, l7] [vI (w32 (s1 + s2)), vR c0] σ Q := wp_iadd rfl
theorem r_M_newPart_31 : Wp L d k_M_newPart 31 [l0, l1, l2, l3, l4, l5, l6, l7] [vI s1, vR c0] σ Q ↔ Wp L d k_M_newPart 32 [l0, l1, l2, l3, l4, l5, l6, l7] [vI 0, vI s1, vR c0] σ Q := wp_push rfl
theorem r_M_newPart_32 (h : gK c0 = 100) (hx : 0 ≤ s1 ∧ s1 < gN c0) : Wp L d k_M_newPart 32 [l0, l1, l2, l3, l4, l5, l6, l7] [vI s2, vI s1, vR c0] σ Q ↔ Wp L d k_M_newPart 33 [l0, l1, l2, l3, l4, l5, l6, l7] [] (gupd σ c0 s1.toNat s2) Q := wp_iast rfl h hx
theorem r_M_newPart_33 : Wp L d k_M_newPart 33 [l0, l1, l2, l3, l4, l5, vI a6, vI a7] [] σ Q ↔ Wp L d k_M_newPart 36 [l0, l1, l2, l3, l4, l5, vI a6, vI (w32 (a7 + 1))] [] σ Q := wp_iinc (i := 7) (ls := [l0, l1, l2, l3, l4, l5, vI a6, vI a7]) rfl rfl
theorem r_M_newPart_36 : Wp L d k_M_newPart 36 [l0, l1, l2, l3, l4, l5, l6, l7] [] σ Q ↔ Wp L d k_M_newPart 15 [l0, l1, l2, l3, l4, l5, l6, l7] [] σ Q := wp_goto rfl
theorem r_M_newPart_39 : Wp L d k_M_newPart 39 [vR b0, l1, l2, l3, l4, l5, l6, l7] [] σ Q ↔ Wp L d k_M_newPart 40 [vR b0, l1, l2, l3, l4, l5, l6, l7] [vR b0] σ Q := wp_aload rfl rfl
theorem r_M_newPart_40 (h : gK c0 = 12) : Wp L d k_M_newPart 40 [l0, l1, l2, l3, l4, l5, l6, l7] [vR c0] σ Q ↔ Wp L d k_M_newPart 43 [l0, l1, l2, l3, l4, l5, l6, l7] [vR (gq c0 0)] σ Q := wp_getR (c := 3200) rfl rfl rfl rfl rfl h
theorem r_M_newPart_43 : Wp L d k_M_newPart 43 [l0, l1, l2, l3, l4, l5, vI a6, l7] [vR c0] σ Q ↔ Wp L d k_M_newPart 45 [l0, l1, l2, l3, l4, l5, vI a6, l7] [vI a6, vR c0] σ Q := wp_iload rfl rfl
theorem r_M_newPart_45 : Wp L d k_M_newPart 45 [l0, vI a1, l2, l3, l4, l5, l6, l7] [vI s1, vR c0] σ Q ↔ Wp L d k_M_newPart 46 [l0, vI a1, l2, l3, l4, l5, l6, l7] [vI a1, vI s1, vR c0] σ Q := wp_iload rfl rfl
theorem r_M_newPart_46 (h : gK c0 = 100) (hx : 0 ≤ s1 ∧ s1 < gN c0) : Wp L d k_M_newPart 46 [l0, l1, l2, l3, l4, l5, l6, l7] [vI s2, vI s1, vR c0] σ Q ↔ Wp L d k_M_newPart 47 [l0, l1, l2, l3, l4, l5, l6, l7] [] (gupd σ c0 s1.toNat s2) Q := wp_iast rfl h hx
theorem r_M_newPart_47 : Wp L d k_M_newPart 47 [vR b0, l1, l2, l3, l4, l5, l6, l7] [] σ Q ↔ Wp L d k_M_newPart 48 [vR b0, l1, l2, l3, l4, l5, l6, l7] [vR b0] σ Q := wp_aload rfl rfl
theorem r_M_newPart_48 (h : gK c0 = 12) : Wp L d k_M_newPart 48 [l0, l1, l2, l3, l4, l5, l6, l7] [vR c0] σ Q ↔ Wp L d k_M_newPart 51 [l0, l1, l2, l3, l4, l5, l6, l7] [vR (gq c0 0)] σ Q := wp_getR (c := 3200) rfl rfl rfl rfl rfl h
theorem r_M_newPart_51 : Wp L d k_M_newPart 51 [l0, l1, l2, l3, l4, l5, vI a6, l7] [vR c0] σ Q ↔ Wp L d k_M_newPart 53 [l0, l1, l2, l3, l4, l5, vI a6, l7] [vI a6, vR c0] σ Q := wp_iload rfl rfl
theorem r_M_newPart_53 : Wp L d k_M_newPart 53 [l0, l1, l2, l3, l4, l5, l6, l7] [vI s1, vR c0] σ Q ↔ Wp L d k_M_newPart 54 [l0, l1, l2, l3, l4, l5, l6, l7] [vI 1, vI s1, vR c0] σ Q := wp_push rfl
theorem r_M_newPart_54 : Wp L d k_M_newPart 54 [l0, l1, l2, l3, l4, l5, l6, l7] [vI s2, vI s1, vR c0] σ Q ↔ Wp L d k_M_newPart 55 [l0, l1, l2, l3, l4, l5, l6, l7] [vI (w32 (s1 + s2)), vR c0] σ Q := wp_iadd rfl
theorem r_M_newPart_55 : Wp L d k_M_newPart 55 [l0, l1, vI a2, l3, l4, l5, l6, l7] [vI s1, vR c0] σ Q ↔ Wp L d k_M_newPart 56 [l0, l1, vI a2, l3, l4, l5, l6, l7] [vI a2, vI s1, vR c0] σ Q := wp_iload rfl rfl
theorem r_M_newPart_56 (h : gK c0 = 100) (hx : 0 ≤ s1 ∧ s1 < gN c0) : Wp L d k_M_newPart 56 [l0, l1, l2, l3, l4, l5, l6, l7] [vI s2, vI s1, vR c0] σ Q ↔ Wp L d k_M_newPart 57 [l0, l1, l2, l3, l4, l5, l6, l7] [] (gupd σ c0 s1.toNat s2) Q := wp_iast rfl h hx
theorem r_M_newPart_57 : Wp L d k_M_newPart 57 [vR b0, l1, l2, l3, l4, l5, l6, l7] [] σ Q ↔ Wp L d k_M_newPart 58 [vR b0, l1, l2, l3, l4, l5, l6, l7] [vR b0] σ Q := wp_aload rfl rfl
theorem r_M_newPart_58 (h : gK c0 = 12) : Wp L d k_M_newPart 58 [l0, l1, l2, l3, l4, l5, l6, l7] [vR c0] σ Q ↔ Wp L d k_M_newPart 61 [l0, l1, l2, l3, l4, l5, l6, l7] [vR (gq c0 0)] σ Q := wp_getR (c := 3200) rfl rfl rfl rfl rfl h
theorem r_M_newPart_61 : Wp L d k_M_newPart 61 [l0, l1, l2, l3, l4, l5, vI a6, l7] [vR c0] σ Q ↔ Wp L d k_M_newPart 63 [l0, l1, l2, l3, l4, l5, vI a6, l7] [vI a6, vR c0] σ Q := wp_iload rfl rfl
theorem r_M_newPart_63 : Wp L d k_M_newPart 63 [l0, l1, l2, l3, l4, l5, l6, l7] [vI s1, vR c0] σ Q ↔ Wp L d k_M_newPart 64 [l0, l1, l2, l3, l4, l5, l6, l7] [vI 2, vI s1, vR c0] σ Q := wp_push rfl
theorem r_M_newPart_64 : Wp L d k_M_newPart 64 [l0, l1, l2, l3, l4, l5, l6, l7] [vI s2, vI s1, vR c0] σ Q ↔ Wp L d k_M_newPart 65 [l0, l1, l2, l3, l4, l5, l6, l7] [vI (w32 (s1 + s2)), vR c0] σ Q := wp_iadd rfl
theorem r_M_newPart_65 : Wp L d k_M_newPart 65 [l0, l1, l2, vI a3, l4, l5, l6, l7] [vI s1, vR c0] σ Q ↔ Wp L d k_M_newPart 66 [l0, l1, l2, vI a3, l4, l5, l6, l7] [vI a3, vI s1, vR c0] σ Q := wp_iload rfl rfl
theorem r_M_newPart_66 (h : gK c0 = 100) (hx : 0 ≤ s1 ∧ s1 < gN c0) : Wp L d k_M_newPart 66 [l0, l1, l2, l3, l4, l5, l6, l7] [vI s2, vI s1, vR c0] σ Q ↔ Wp L d k_M_newPart 67 [l0, l1, l2, l3, l4, l5, l6, l7] [] (gupd σ c0 s1.toNat s2) Q := wp_iast rfl h hx
theorem r_M_newPart_67 : Wp L d k_M_newPart 67 [vR b0, l1, l2, l3, l4, l5, l6, l7] [] σ Q ↔ Wp L d k_M_newPart 68 [vR b0, l1, l2, l3, l4, l5, l6, l7] [vR b0] σ Q := wp_aload rfl rfl
theorem r_M_newPart_68 (h : gK c0 = 12) : Wp L d k_M_newPart 68 [l0, l1, l2, l3, l4, l5, l6, l7] [vR c0] σ Q ↔ Wp L d k_M_newPart 71 [l0, l1, l2, l3, l4, l5, l6, l7] [vR (gq c0 0)] σ Q := wp_getR (c := 3200) rfl rfl rfl rfl rfl h
theorem r_M_newPart_71 : Wp L d k_M_newPart 71 [l0, l1, l2, l3, l4, l5, vI a6, l7] [vR c0] σ Q ↔ Wp L d k_M_newPart 73 [l0, l1, l2, l3, l4, l5, vI a6, l7] [vI a6, vR c0] σ Q := wp_iload rfl rfl
theorem r_M_newPart_73 : Wp L d k_M_newPart 73 [l0, l1, l2, l3, l4, l5, l6, l7] [vI s1, vR c0] σ Q ↔ Wp L d k_M_newPart 74 [l0, l1, l2, l3, l4, l5, l6, l7] [vI 3, vI s1, vR c0] σ Q := wp_push rfl
theorem r_M_newPart_74 : Wp L d k_M_newPart 74 [l0, l1, l2, l3, l4, l5, l6, l7] [vI s2, vI s1, vR c0] σ Q ↔ Wp L d k_M_newPart 75 [l0, l1, l2, l3, l4, l5, l6, l7] [vI (w32 (s1 + s2)), vR c0] σ Q := wp_iadd rfl
theorem r_M_newPart_75 : Wp L d k_M_newPart 75 [l0, l1, l2, l3, vI a4, l5, l6, l7] [vI s1, vR c0] σ Q ↔ Wp L d k_M_newPart 77 [l0, l1, l2, l3, vI a4, l5, l6, l7] [vI a4, vI s1, vR c0] σ Q := wp_iload rfl rfl
theorem r_M_newPart_77 (h : gK c0 = 100) (hx : 0 ≤ s1 ∧ s1 < gN c0) : Wp L d k_M_newPart 77 [l0, l1, l2, l3, l4, l5, l6, l7] [vI s2, vI s1, vR c0] σ Q ↔ Wp L d k_M_newPart 78 [l0, l1, l2, l3, l4, l5, l6, l7] [] (gupd σ c0 s1.toNat s2) Q := wp_iast rfl h hx
theorem r_M_newPart_78 : Wp L d k_M_newPart 78 [vR b0, l1, l2, l3, l4, l5, l6, l7] [] σ Q ↔ Wp L d k_M_newPart 79 [vR b0, l1, l2, l3, l4, l5, l6, l7] [vR b0] σ Q := wp_aload rfl rfl
theorem r_M_newPart_79 (h : gK c0 = 12) : Wp L d k_M_newPart 79 [l0, l1, l2, l3, l4, l5, l6, l7] [vR c0] σ Q ↔ Wp L d k_M_newPart 82 [l0, l1, l2, l3, l4, l5, l6, l7] [vR (gq c0 0)] σ Q := wp_getR (c := 3200) rfl rfl rfl rfl rfl h
theorem r_M_newPart_82 : Wp L d k_M_newPart 82 [l0, l1, l2, l3, l4, l5, vI a6, l7] [vR c0] σ Q ↔ Wp L d k_M_newPart 84 [l0, l1, l2, l3, l4, l5, vI a6, l7] [vI a6, vR c0] σ Q := wp_iload rfl rfl
theorem r_M_newPart_84 : Wp L d k_M_newPart 84 [l0, l1, l2, l3, l4, l5, l6, l7] [vI s1, vR c0] σ Q ↔ Wp L d k_M_newPart 86 [l0, l1, l2, l3, l4, l5, l6, l7] [vI 6, vI s1, vR c0] σ Q := wp_push rfl
theorem r_M_newPart_86 : Wp L d k_M_newPart 86 [l0, l1, l2, l3, l4, l5, l6, l7] [vI s2, vI s1, vR c0] σ Q ↔ Wp L d k_M_newPart 87 [l0, l1, l2, l3, l4, l5, l6, l7] [vI (w32 (s1 + s2)), vR c0] σ Q := wp_iadd rfl
theorem r_M_newPart_87 : Wp L d k_M_newPart 87 [l0, l1, l2, l3, l4, vI a5, l6, l7] [vI s1, vR c0] σ Q ↔ Wp L d k_M_newPart 89 [l0, l1, l2, l3, l4, vI a5, l6, l7] [vI a5, vI s1, vR c0] σ Q := wp_iload rfl rfl
theorem r_M_newPart_89 (h : gK c0 = 100) (hx : 0 ≤ s1 ∧ s1 < gN c0) : Wp L d k_M_newPart 89 [l0, l1, l2, l3, l4, l5, l6, l7] [vI s2, vI s1, vR c0] σ Q ↔ Wp L d k_M_newPart 90 [l0, l1, l2, l3, l4, l5, l6, l7] [] (gupd σ c0 s1.toNat s2) Q := wp_iast rfl h hx
theorem r_M_newPart_90 : Wp L d k_M_newPart 90 [vR b0, l1, l2, l3, l4, l5, l6, l7] [] σ Q ↔ Wp L d k_M_newPart 91 [vR b0, l1, l2, l3, l4, l5, l6, l7] [vR b0] σ Q := wp_aload rfl rfl
theorem r_M_newPart_91 (h : gK c0 = 12) : Wp L d k_M_newPart 91 [l0, l1, l2, l3, l4, l5, l6, l7] [vR c0] σ Q ↔ Wp L d k_M_newPart 94 [l0, l1, l2, l3, l4, l5, l6, l7] [vR (gq c0 0)] σ Q := wp_getR (c := 3200) rfl rfl rfl rfl rfl h
theorem r_M_newPart_94 : Wp L d k_M_newPart 94 [l0, l1, l2, l3, l4, l5, vI a6, l7] [vR c0] σ Q ↔ Wp L d k_M_newPart 96 [l0, l1, l2, l3, l4, l5, vI a6, l7] [vI a6, vR c0] σ Q := wp_iload rfl rfl
theorem r_M_newPart_96 : Wp L d k_M_newPart 96 [l0, l1, l2, l3, l4, l5, l6, l7] [vI s1, vR c0] σ Q ↔ Wp L d k_M_newPart 98 [l0, l1, l2, l3, l4, l5, l6, l7] [vI 7, vI s1, vR c0] σ Q := wp_push rfl
theorem r_M_newPart_98 : Wp L d k_M_newPart 98 [l0, l1, l2, l3, l4, l5, l6, l7] [vI s2, vI s1, vR c0] σ Q ↔ Wp L d k_M_newPart 99 [l0, l1, l2, l3, l4, l5, l6, l7] [vI (w32 (s1 + s2)), vR c0] σ Q := wp_iadd rfl
theorem r_M_newPart_99 : Wp L d k_M_newPart 99 [vR b0, l1, l2, l3, l4, l5, l6, l7] [vI s1, vR c0] σ Q ↔ Wp L d k_M_newPart 100 [vR b0, l1, l2, l3, l4, l5, l6, l7] [vR b0, vI s1, vR c0] σ Q := wp_aload rfl rfl
theorem r_M_newPart_100 (h : gK c2 = 12) : Wp L d k_M_newPart 100 [l0, l1, l2, l3, l4, l5, l6, l7] [vR c2, vI s1, vR c0] σ Q ↔ Wp L d k_M_newPart 103 [l0, l1, l2, l3, l4, l5, l6, l7] [vR (gq c2 0), vI s1, vR c0] σ Q := wp_getR (c := 3200) rfl rfl rfl rfl rfl h
theorem r_M_newPart_103 : Wp L d k_M_newPart 103 [l0, l1, l2, l3, l4, l5, l6, l7] [vR c2, vI s1, vR c0] σ Q ↔ Wp L d k_M_newPart 105 [l0, l1, l2, l3, l4, l5, l6, l7] [vI 7, vR c2, vI s1, vR c0] σ Q := wp_push rfl
theorem r_M_newPart_105 (h : gK c2 = 100) (hx : 0 ≤ s3 ∧ s3 < gN c2) : Wp L d k_M_newPart 105 [l0, l1, l2, l3, l4, l5, l6, l7] [vI s3, vR c2, vI s1, vR c0] σ Q ↔ Wp L d k_M_newPart 106 [l0, l1, l2, l3, l4, l5, l6, l7] [vI (σ c2 s3.toNat), vI s1, vR c0] σ Q := wp_iald rfl h hx
theorem r_M_newPart_106 (h : gK c0 = 100) (hx : 0 ≤ s1 ∧ s1 < gN c0) : Wp L d k_M_newPart 106 [l0, l1, l2, l3, l4, l5, l6, l7] [vI s2, vI s1, vR c0] σ Q ↔ Wp L d k_M_newPart 107 [l0, l1, l2, l3, l4, l5, l6, l7] [] (gupd σ c0 s1.toNat s2) Q := wp_iast rfl h hx
theorem r_M_newPart_107 : Wp L d k_M_newPart 107 [vR b0, l1, l2, l3, l4, l5, l6, l7] [] σ Q ↔ Wp L d k_M_newPart 108 [vR b0, l1, l2, l3, l4, l5, l6, l7] [vR b0] σ Q := wp_aload rfl rfl
theorem r_M_newPart_108 (h : gK c0 = 12) : Wp L d k_M_newPart 108 [l0, l1, l2, l3, l4, l5, l6, l7] [vR c0] σ Q ↔ Wp L d k_M_newPart 111 [l0, l1, l2, l3, l4, l5, l6, l7] [vR (gq c0 0)] σ Q := wp_getR (c := 3200) rfl rfl rfl rfl rfl h
theorem r_M_newPart_111 : Wp L d k_M_newPart 111 [l0, l1, l2, l3, l4, l5, vI a6, l7] [vR c0] σ Q ↔ Wp L d k_M_newPart 113 [l0, l1, l2, l3, l4, l5, vI a6, l7] [vI a6, vR c0] σ Q := wp_iload rfl rfl
theorem r_M_newPart_113 : Wp L d k_M_newPart 113 [l0, l1, l2, l3, l4, l5, l6, l7] [vI s1, vR c0] σ Q ↔ Wp L d k_M_newPart 115 [l0, l1, l2, l3, l4, l5, l6, l7] [vI 8, vI s1, vR c0] σ Q := wp_push rfl
theorem r_M_newPart_115 : Wp L d k_M_newPart 115 [l0, l1, l2, l3, l4, l5, l6, l7] [vI s2, vI s1, vR c0] σ Q ↔ Wp L d k_M_newPart 116 [l0, l1, l2, l3, l4, l5, l6, l7] [vI (w32 (s1 + s2)), vR c0] σ Q := wp_iadd rfl
theorem r_M_newPart_116 : Wp L d k_M_newPart 116 [l0, vI a1, l2, l3, l4, l5, l6, l7] [vI s1, vR c0] σ Q ↔ Wp L d k_M_newPart 117 [l0, vI a1, l2, l3, l4, l5, l6, l7] [vI a1, vI s1, vR c0] σ Q := wp_iload rfl rfl
theorem r_M_newPart_117 : Wp L d k_M_newPart 117 [l0, l1, l2, l3, l4, l5, l6, l7] [vI s2, vI s1, vR c0] σ Q ↔ Wp L d k_M_newPart 118 [l0, l1, l2, l3, l4, l5, l6, l7] [vI 4, vI s2, vI s1, vR c0] σ Q := wp_push rfl
theorem r_M_newPart_118 : Wp L d k_M_newPart 118 [l0, l1, l2, l3, l4, l5, l6, l7] [vI s3, vI s2, vI s1, vR c0] σ Q ↔ (if s2 ≠ s3 then Wp L d k_M_newPart 125 [l0, l1, l2, l3, l4, l5, l6, l7] [vI s1, vR c0] σ Q else Wp L d k_M_newPart 121 [l0, l1, l2, l3, l4, l5, l6, l7] [vI s1, vR c0] σ Q) := wp_cmp_ne rfl
theorem r_M_newPart_121 : Wp L d k_M_newPart 121 [l0, l1, l2, l3, l4, l5, l6, l7] [vI s1, vR c0] σ Q ↔ Wp L d k_M_newPart 122 [l0, l1, l2, l3, l4, l5, l6, l7] [vI 0, vI s1, vR c0] σ Q := wp_push rfl
theorem r_M_newPart_122 : Wp L d k_M_newPart 122 [l0, l1, l2, l3, l4, l5, l6, l7] [vI s2, vI s1, vR c0] σ Q ↔ Wp L d k_M_newPart 126 [l0, l1, l2, l3, l4, l5, l6, l7] [vI s2, vI s1, vR c0] σ Q := wp_goto rfl
theorem r_M_newPart_125 : Wp L d k_M_newPart 125 [l0, l1, l2, l3, l4, l5, l6, l7] [vI s1, vR c0] σ Q ↔ Wp L d k_M_newPart 126 [l0, l1, l2, l3, l4, l5, l6, l7] [vI 1, vI s1, vR c0] σ Q := wp_push rfl
theorem r_M_newPart_126 (h : gK c0 = 100) (hx : 0 ≤ s1 ∧ s1 < gN c0) : Wp L d k_M_newPart 126 [l0, l1, l2, l3, l4, l5, l6, l7] [vI s2, vI s1, vR c0] σ Q ↔ Wp L d k_M_newPart 127 [l0, l1, l2, l3, l4, l5, l6, l7] [] (gupd σ c0 s1.toNat s2) Q := wp_iast rfl h hx
theorem r_M_newPart_127 : Wp L d k_M_newPart 127 [vR b0, l1, l2, l3, l4, l5, l6, l7] [] σ Q ↔ Wp L d k_M_newPart 128 [vR b0, l1, l2, l3, l4, l5, l6, l7] [vR b0] σ Q := wp_aload rfl rfl
theorem r_M_newPart_128 (h : gK c0 = 12) : Wp L d k_M_newPart 128 [l0, l1, l2, l3, l4, l5, l6, l7] [vR c0] σ Q ↔ Wp L d k_M_newPart 131 [l0, l1, l2, l3, l4, l5, l6, l7] [vR (gq c0 0)] σ Q := wp_getR (c := 3200) rfl rfl rfl rfl rfl h
theorem r_M_newPart_131 : Wp L d k_M_newPart 131 [l0, l1, l2, l3, l4, l5, l6, l7] [vR c0] σ Q ↔ Wp L d k_M_newPart 132 [l0, l1, l2, l3, l4, l5, l6, l7] [vI 1, vR c0] σ Q := wp_push rfl
theorem r_M_newPart_132 : Wp L d k_M_newPart 132 [l0, l1, l2, l3, l4, l5, l6, l7] [vI s1, vR c0] σ Q ↔ Wp L d k_M_newPart 133 [l0, l1, l2, l3, l4, l5, l6, l7] [vI s1, vR c0, vI s1, vR c0] σ Q := wp_dup2 rfl
theorem r_M_newPart_133 (h : gK c2 = 100) (hx : 0 ≤ s3 ∧ s3 < gN c2) : Wp L d k_M_newPart 133 [l0, l1, l2, l3, l4, l5, l6, l7] [vI s3, vR c2, vI s1, vR c0] σ Q ↔ Wp L d k_M_newPart 134 [l0, l1, l2, l3, l4, l5, l6, l7] [vI (σ c2 s3.toNat), vI s1, vR c0] σ Q := wp_iald rfl h hx
theorem r_M_newPart_134 : Wp L d k_M_newPart 134 [l0, l1, l2, l3, l4, l5, l6, l7] [vI s2, vI s1, vR c0] σ Q ↔ Wp L d k_M_newPart 135 [l0, l1, l2, l3, l4, l5, l6, l7] [vI 1, vI s2, vI s1, vR c0] σ Q := wp_push rfl
theorem r_M_newPart_135 : Wp L d k_M_newPart 135 [l0, l1, l2, l3, l4, l5, l6, l7] [vI s3, vI s2, vI s1, vR c0] σ Q ↔ Wp L d k_M_newPart 136 [l0, l1, l2, l3, l4, l5, l6, l7] [vI (w32 (s2 + s3)), vI s1, vR c0] σ Q := wp_iadd rfl
theorem r_M_newPart_136 (h : gK c0 = 100) (hx : 0 ≤ s1 ∧ s1 < gN c0) : Wp L d k_M_newPart 136 [l0, l1, l2, l3, l4, l5, l6, l7] [vI s2, vI s1, vR c0] σ Q ↔ Wp L d k_M_newPart 137 [l0, l1, l2, l3, l4, l5, l6, l7] [] (gupd σ c0 s1.toNat s2) Q := wp_iast rfl h hx
theorem r_M_newPart_137 : Wp L d k_M_newPart 137 [vR b0, l1, l2, l3, l4, l5, l6, l7] [] σ Q ↔ Wp L d k_M_newPart 138 [vR b0, l1, l2, l3, l4, l5, l6, l7] [vR b0] σ Q := wp_aload rfl rfl
theorem r_M_newPart_138 (h : gK c0 = 12) : Wp L d k_M_newPart 138 [l0, l1, l2, l3, l4, l5, l6, l7] [vR c0] σ Q ↔ Wp L d k_M_newPart 141 [l0, l1, l2, l3, l4, l5, l6, l7] [vR (gq c0 0)] σ Q := wp_getR (c := 3200) rfl rfl rfl rfl rfl h
theorem r_M_newPart_141 : Wp L d k_M_newPart 141 [l0, l1, l2, l3, l4, l5, l6, l7] [vR c0] σ Q ↔ Wp L d k_M_newPart 142 [l0, l1, l2, l3, l4, l5, l6, l7] [vI 1, vR c0] σ Q := wp_push rfl
theorem r_M_newPart_142 (h : gK c0 = 100) (hx : 0 ≤ s1 ∧ s1 < gN c0) : Wp L d k_M_newPart 142 [l0, l1, l2, l3, l4, l5, l6, l7] [vI s1, vR c0] σ Q ↔ Wp L d k_M_newPart 143 [l0, l1, l2, l3, l4, l5, l6, l7] [vI (σ c0 s1.toNat)] σ Q := wp_iald rfl h hx
theorem r_M_newPart_143 : Wp L d k_M_newPart 143 [l0, l1, l2, l3, l4, l5, l6, l7] [vI s0] σ Q ↔ Wp L d k_M_newPart 144 [l0, l1, l2, l3, l4, l5, l6, l7] [vI 1, vI s0] σ Q := wp_push rfl
theorem r_M_newPart_144 : Wp L d k_M_newPart 144 [l0, l1, l2, l3, l4, l5, l6, l7] [vI s1, vI s0] σ Q ↔ Wp L d k_M_newPart 145 [l0, l1, l2, l3, l4, l5, l6, l7] [vI (w32 (s0 - s1))] σ Q := wp_isub rfl
theorem r_M_newPart_145 : Wp L d k_M_newPart 145 [l0, l1, l2, l3, l4, l5, l6, l7] [vI s0] σ Q ↔ Q (some (vI s0)) σ := wp_iret rfl
theorem r_M_newPart_7 : Wp L (d + 1) k_M_newPart 7 [l0, l1, l2, l3, l4, l5, l6, l7] [vI s1, vR 293] σ Q ↔ Wp L (d + 1) k_M_newPart 10 [l0, l1, l2, l3, l4, l5, l6, l7] [vI (w32 (120 + w32 (12 * s1)))] σ Q := wp_callR (d := d + 0) (as := [vR 293, vI s1]) (rest := []) rfl rfl rfl rfl rfl rfl rfl (grecv_k (by rw [gK_293]) rfl) (sp_M_partAt)
theorem sp_M_newPart {p : Nat} (hp : σ 294 1 = (p : Int)) (h40 : p < 40) : ∃ σ', Run L (d + 1) 205 [vR 293, vI a1, vI a2, vI a3, vI a4, vI a5] σ (some (vI (p : Int))) σ' ∧ (σ' 294 (120 + 12 * p + 0) = a1 ∧ σ' 294 (120 + 12 * p + 1) = a2 ∧ σ' 294 (120 + 12 * p + 2) = a3 ∧ σ' 294 (120 + 12 * p + 3) = a4 ∧ σ' 294 (120 + 12 * p + 4) = 0 ∧ σ' 294 (120 + 12 * p + 5) = 0 ∧ σ' 294 (120 + 12 * p + 6) = a5 ∧ σ' 294 (120 + 12 * p + 7) = σ 294 7 ∧ σ' 294 (120 + 12 * p + 8) = gb (a1 ≠ 4) ∧ σ' 294 (120 + 12 * p + 9) = 0 ∧ σ' 294 (120 + 12 * p + 10) = 0 ∧ σ' 294 (120 + 12 * p + 11) = 0 ∧ σ' 294 1 = (p : Int) + 1) ∧ Agr σ σ' (fun k j => k = 294 ∧ (j = 1 ∨ 120 + 12 * p ≤ j ∧ j < 120 + 12 * p + 12)) := by
  refine Run_ex (C' := k_M_newPart) rfl ?_
  show Wp L (d + 1) k_M_newPart 0 [vR 293, vI a1, vI a2, vI a3, vI a4, vI a5, vU, vU] [] σ _
  obtain ⟨K293, Q293, K294, N294⟩ := litM
  simp (disch := first | assumption | exact gb_01 _ | omega) only [r_M_newPart_0, r_M_newPart_1, r_M_newPart_2, r_M_newPart_5, r_M_newPart_6, r_M_newPart_7, r_M_newPart_10, r_M_newPart_12, r_M_newPart_13, r_M_newPart_17, r_M_newPart_19, r_M_newPart_22, r_M_newPart_23, r_M_newPart_26, r_M_newPart_28, r_M_newPart_30, r_M_newPart_31, r_M_newPart_32, r_M_newPart_33, r_M_newPart_36, r_M_newPart_39, r_M_newPart_40, r_M_newPart_43, r_M_newPart_45, r_M_newPart_46, r_M_newPart_47, r_M_newPart_48, r_M_newPart_51, r_M_newPart_53, r_M_newPart_54, r_M_newPart_55, r_M_newPart_56, r_M_newPart_57, r_M_newPart_58, r_M_newPart_61, r_M_newPart_63, r_M_newPart_64, r_M_newPart_65, r_M_newPart_66, r_M_newPart_67, r_M_newPart_68, r_M_newPart_71, r_M_newPart_73, r_M_newPart_74, r_M_newPart_75, r_M_newPart_77, r_M_newPart_78, r_M_newPart_79, r_M_newPart_82, r_M_newPart_84, r_M_newPart_86, r_M_newPart_87, r_M_newPart_89, r_M_newPart_90, r_M_newPart_91, r_M_newPart_94, r_M_newPart_96, r_M_newPart_98, r_M_newPart_99, r_M_newPart_100, r_M_newPart_103, r_M_newPart_105, r_M_newPart_106, r_M_newPart_107, r_M_newPart_108, r_M_newPart_111, r_M_newPart_113, r_M_newPart_115, r_M_newPart_116, r_M_newPart_117, r_M_newPart_118, r_M_newPart_121, r_M_newPart_122, r_M_newPart_125, r_M_newPart_126, r_M_newPart_127, r_M_newPart_128, r_M_newPart_131, r_M_newPart_132, r_M_newPart_133, r_M_newPart_134, r_M_newPart_135, r_M_newPart_136, r_M_newPart_137, r_M_newPart_138, r_M_newPart_141, r_M_newPart_142, r_M_newPart_143, r_M_newPart_144, r_M_newPart_145, Q293, hp, w32_gb, w32i, tn_add, tn_mul, Int.toNat_natCast, Int.toNat_zero, Int.reduceLE, Int.reduceLT, Int.reduceEq, Int.reduceNe, gb_T, gb_F, Int.reduceToNat, eq_self, true_or, or_true, and_true, true_and, and_self, ↓ite_gb0, ↓ite_gbn, ↓if_pos, ↓if_neg, if_true, if_false, not_true_eq_false, not_false_eq_true, gb_ne0, gb_eq0]
  refine wloop (n := 12) (I := fun k ls τ => ls = [vR 293, vI a1, vI a2, vI a3, vI a4, vI a5, vI (120 + 12 * (p : Int)), vI (k : Int)] ∧ (∀ i : Nat, i < k → τ 294 (120 + 12 * p + i) = 0) ∧ Agr σ τ (fun k j => k = 294 ∧ 120 + 12 * p ≤ j ∧ j < 120 + 12 * p + 12)) (fun k ls τ hk hi hq => ?_) (fun ls τ hi => ?_) 12 0 (by omega) _ _ ⟨rfl, fun i hi => by omega, Agr_refl _ _⟩
  · obtain ⟨rfl, h2, hA⟩ := hi
    rw [r_M_newPart_15]
    simp (disch := first | assumption | exact gb_01 _ | omega) only [r_M_newPart_0, r_M_newPart_1, r_M_newPart_2, r_M_newPart_5, r_M_newPart_6, r_M_newPart_7, r_M_newPart_10, r_M_newPart_12, r_M_newPart_13, r_M_newPart_17, r_M_newPart_19, r_M_newPart_22, r_M_newPart_23, r_M_newPart_26, r_M_newPart_28, r_M_newPart_30, r_M_newPart_31, r_M_newPart_32, r_M_newPart_33, r_M_newPart_36, r_M_newPart_39, r_M_newPart_40, r_M_newPart_43, r_M_newPart_45, r_M_newPart_46, r_M_newPart_47, r_M_newPart_48, r_M_newPart_51, r_M_newPart_53, r_M_newPart_54, r_M_newPart_55, r_M_newPart_56, r_M_newPart_57, r_M_newPart_58, r_M_newPart_61, r_M_newPart_63, r_M_newPart_64, r_M_newPart_65, r_M_newPart_66, r_M_newPart_67, r_M_newPart_68, r_M_newPart_71, r_M_newPart_73, r_M_newPart_74, r_M_newPart_75, r_M_newPart_77, r_M_newPart_78, r_M_newPart_79, r_M_newPart_82, r_M_newPart_84, r_M_newPart_86, r_M_newPart_87, r_M_newPart_89, r_M_newPart_90, r_M_newPart_91, r_M_newPart_94, r_M_newPart_96, r_M_newPart_98, r_M_newPart_99, r_M_newPart_100, r_M_newPart_103, r_M_newPart_105, r_M_newPart_106, r_M_newPart_107, r_M_newPart_108, r_M_newPart_111, r_M_newPart_113, r_M_newPart_115, r_M_newPart_116, r_M_newPart_117, r_M_newPart_118, r_M_newPart_121, r_M_newPart_122, r_M_newPart_125, r_M_newPart_126, r_M_newPart_127, r_M_newPart_128, r_M_newPart_131, r_M_newPart_132, r_M_newPart_133, r_M_newPart_134, r_M_newPart_135, r_M_newPart_136, r_M_newPart_137, r_M_newPart_138, r_M_newPart_141, r_M_newPart_142, r_M_newPart_143, r_M_newPart_144, r_M_newPart_145, Q293, w32_gb, w32i, tn_add, tn_mul, Int.toNat_natCast, Int.toNat_zero, Int.reduceLE, Int.reduceLT, Int.reduceEq, Int.reduceNe, gb_T, gb_F, Int.reduceToNat, eq_self, true_or, or_true, and_true, true_and, and_self, ↓ite_gb0, ↓ite_gbn, ↓if_pos, ↓if_neg, if_true, if_false, not_true_eq_false, not_false_eq_true, gb_ne0, gb_eq0]
    refine hq _ _ ⟨by simp only [List.cons.injEq, vI_inj, vR_inj, and_true, true_and]; omega, fun i hi => ?_, Agr_upd hA (by omega)⟩
    by_cases e : i = k
    · rw [e, gupd_eq]
    · rw [gupd_ne (by omega)]
      exact h2 i (by omega)
  · obtain ⟨rfl, h2, hA⟩ := hi
    have e1 : τ 294 1 = p := by rw [hA 294 1 (by omega)]; exact hp
    have e7 : τ 294 7 = σ 294 7 := hA 294 7 (by omega)
    have z4 := h2 4 (by omega)
    have z5 := h2 5 (by omega)
    have z9 := h2 9 (by omega)
    have z10 := h2 10 (by omega)
    have z11 := h2 11 (by omega)
    rw [r_M_newPart_15]
    by_cases e : a1 = 4
    · rw [gb_f (by omega)]
      simp (disch := first | assumption | exact gb_01 _ | omega) only [r_M_newPart_0, r_M_newPart_1, r_M_newPart_2, r_M_newPart_5, r_M_newPart_6, r_M_newPart_7, r_M_newPart_10, r_M_newPart_12, r_M_newPart_13, r_M_newPart_17, r_M_newPart_19, r_M_newPart_22, r_M_newPart_23, r_M_newPart_26, r_M_newPart_28, r_M_newPart_30, r_M_newPart_31, r_M_newPart_32, r_M_newPart_33, r_M_newPart_36, r_M_newPart_39, r_M_newPart_40, r_M_newPart_43, r_M_newPart_45, r_M_newPart_46, r_M_newPart_47, r_M_newPart_48, r_M_newPart_51, r_M_newPart_53, r_M_newPart_54, r_M_newPart_55, r_M_newPart_56, r_M_newPart_57, r_M_newPart_58, r_M_newPart_61, r_M_newPart_63, r_M_newPart_64, r_M_newPart_65, r_M_newPart_66, r_M_newPart_67, r_M_newPart_68, r_M_newPart_71, r_M_newPart_73, r_M_newPart_74, r_M_newPart_75, r_M_newPart_77, r_M_newPart_78, r_M_newPart_79, r_M_newPart_82, r_M_newPart_84, r_M_newPart_86, r_M_newPart_87, r_M_newPart_89, r_M_newPart_90, r_M_newPart_91, r_M_newPart_94, r_M_newPart_96, r_M_newPart_98, r_M_newPart_99, r_M_newPart_100, r_M_newPart_103, r_M_newPart_105, r_M_newPart_106, r_M_newPart_107, r_M_newPart_108, r_M_newPart_111, r_M_newPart_113, r_M_newPart_115, r_M_newPart_116, r_M_newPart_117, r_M_newPart_118, r_M_newPart_121, r_M_newPart_122, r_M_newPart_125, r_M_newPart_126, r_M_newPart_127, r_M_newPart_128, r_M_newPart_131, r_M_newPart_132, r_M_newPart_133, r_M_newPart_134, r_M_newPart_135, r_M_newPart_136, r_M_newPart_137, r_M_newPart_138, r_M_newPart_141, r_M_newPart_142, r_M_newPart_143, r_M_newPart_144, r_M_newPart_145, Q293, e1, e7, gupd_ne, gupd_eq, Int.add_sub_cancel, w32_gb, w32i, tn_add, tn_mul, Int.toNat_natCast, Int.toNat_zero, Int.reduceLE, Int.reduceLT, Int.reduceEq, Int.reduceNe, gb_T, gb_F, Int.reduceToNat, eq_self, true_or, or_true, and_true, true_and, and_self, ↓ite_gb0, ↓ite_gbn, ↓if_pos, ↓if_neg, if_true, if_false, not_true_eq_false, not_false_eq_true, gb_ne0, gb_eq0]
      refine ⟨?_, fun k j hn => ?_⟩
      · simp (disch := omega) only [gupd_ne, gupd_eq, z4, z5, z9, z10, z11, e1, e7, Nat.add_zero, and_self]
      · simp (disch := omega) only [gupd_ne]
        exact hA k j (by omega)
    · rw [gb_t e]
      simp (disch := first | assumption | exact gb_01 _ | omega) only [r_M_newPart_0, r_M_newPart_1, r_M_newPart_2, r_M_newPart_5, r_M_newPart_6, r_M_newPart_7, r_M_newPart_10, r_M_newPart_12, r_M_newPart_13, r_M_newPart_17, r_M_newPart_19, r_M_newPart_22, r_M_newPart_23, r_M_newPart_26, r_M_newPart_28, r_M_newPart_30, r_M_newPart_31, r_M_newPart_32, r_M_newPart_33, r_M_newPart_36, r_M_newPart_39, r_M_newPart_40, r_M_newPart_43, r_M_newPart_45, r_M_newPart_46, r_M_newPart_47, r_M_newPart_48, r_M_newPart_51, r_M_newPart_53, r_M_newPart_54, r_M_newPart_55, r_M_newPart_56, r_M_newPart_57, r_M_newPart_58, r_M_newPart_61, r_M_newPart_63, r_M_newPart_64, r_M_newPart_65, r_M_newPart_66, r_M_newPart_67, r_M_newPart_68, r_M_newPart_71, r_M_newPart_73, r_M_newPart_74, r_M_newPart_75, r_M_newPart_77, r_M_newPart_78, r_M_newPart_79, r_M_newPart_82, r_M_newPart_84, r_M_newPart_86, r_M_newPart_87, r_M_newPart_89, r_M_newPart_90, r_M_newPart_91, r_M_newPart_94, r_M_newPart_96, r_M_newPart_98, r_M_newPart_99, r_M_newPart_100, r_M_newPart_103, r_M_newPart_105, r_M_newPart_106, r_M_newPart_107, r_M_newPart_108, r_M_newPart_111, r_M_newPart_113, r_M_newPart_115, r_M_newPart_116, r_M_newPart_117, r_M_newPart_118, r_M_newPart_121, r_M_newPart_122, r_M_newPart_125, r_M_newPart_126, r_M_newPart_127, r_M_newPart_128, r_M_newPart_131, r_M_newPart_132, r_M_newPart_133, r_M_newPart_134, r_M_newPart_135, r_M_newPart_136, r_M_newPart_137, r_M_newPart_138, r_M_newPart_141, r_M_newPart_142, r_M_newPart_143, r_M_newPart_144, r_M_newPart_145, Q293, e1, e7, gupd_ne, gupd_eq, Int.add_sub_cancel, w32_gb, w32i, tn_add, tn_mul, Int.toNat_natCast, Int.toNat_zero, Int.reduceLE, Int.reduceLT, Int.reduceEq, Int.reduceNe, gb_T, gb_F, Int.reduceToNat, eq_self, true_or, or_true, and_true, true_and, and_self, ↓ite_gb0, ↓ite_gbn, ↓if_pos, ↓if_neg, if_true, if_false, not_true_eq_false, not_false_eq_true, gb_ne0, gb_eq0]
      refine ⟨?_, fun k j hn => ?_⟩
      · simp (disch := omega) only [gupd_ne, gupd_eq, z4, z5, z9, z10, z11, e1, e7, Nat.add_zero, and_self]
      · simp (disch := omega) only [gupd_ne]
        exact hA k j (by omega)
theorem sp_M_part {p : Nat} (h : (0 ≤ a1 ∧ a1 ≤ 3) ∧ (0 ≤ a2 ∧ a2 ≤ σ 294 0) ∧ (1 ≤ a3 ∧ a3 ≤ 999) ∧ (1 ≤ a4 ∧ a4 ≤ 9) ∧ 0 ≤ a5 ∧ a5 ≤ 5) (hp : σ 294 1 = (p : Int)) (h40 : p < 40) : ∃ σ', Run L (d + 2) 203 [vR 293, vI a1, vI a2, vI a3, vI a4, vI a5] σ (some (vI (p : Int))) σ' ∧ (σ' 294 (120 + 12 * p + 0) = a1 ∧ σ' 294 (120 + 12 * p + 1) = a2 ∧ σ' 294 (120 + 12 * p + 2) = a3 ∧ σ' 294 (120 + 12 * p + 3) = a4 ∧ σ' 294 (120 + 12 * p + 4) = 0 ∧ σ' 294 (120 + 12 * p + 5) = 0 ∧ σ' 294 (120 + 12 * p + 6) = a5 ∧ σ' 294 (120 + 12 * p + 7) = σ 294 7 ∧ σ' 294 (120 + 12 * p + 8) = gb (a1 ≠ 4) ∧ σ' 294 (120 + 12 * p + 9) = 0 ∧ σ' 294 (120 + 12 * p + 10) = 0 ∧ σ' 294 (120 + 12 * p + 11) = 0 ∧ σ' 294 1 = (p : Int) + 1) ∧ Agr σ σ' (fun k j => k = 294 ∧ (j = 1 ∨ 120 + 12 * p ≤ j ∧ j < 120 + 12 * p + 12)) := by
  refine Run_ex (C' := k_M_part) rfl ?_
  show Wp L (d + 2) k_M_part 0 [vR 293, vI a1, vI a2, vI a3, vI a4, vI a5] [] σ _
  obtain ⟨K293, Q293, K294, N294⟩ := litM
  obtain ⟨τ, hR, h1, h2⟩ := sp_M_newPart (L := L) (d := d + 0) (σ := σ) (a1 := a1) (a2 := a2) (a3 := a3) (a4 := a4) (a5 := a5) hp h40
  simp (disch := first | assumption | exact gb_01 _ | omega) only [r_M_part_0, r_M_part_1, r_M_part_2, r_M_part_3, r_M_part_6, r_M_part_9, r_M_part_12, r_M_part_13, r_M_part_14, r_M_part_17, r_M_part_20, r_M_part_21, r_M_part_22, r_M_part_23, r_M_part_26, r_M_part_29, r_M_part_32, r_M_part_34, r_M_part_35, r_M_part_36, r_M_part_39, r_M_part_42, r_M_part_45, r_M_part_47, r_M_part_48, r_M_part_49, r_M_part_52, r_M_part_55, r_M_part_58, r_M_part_60, r_M_part_61, r_M_part_62, r_M_part_65, r_M_part_66, r_M_part_67, r_M_part_69, r_M_part_72, r_M_part_74, r_M_part_77, r_M_part_78, r_M_part_79, r_M_part_80, r_M_part_81, r_M_part_83, r_M_part_88, c_M_part_85 hR, Option.toList, List.singleton_append, List.cons_append, List.nil_append, List.append_nil, Q293, w32_gb, w32i, tn_add, tn_mul, Int.toNat_natCast, Int.toNat_zero, Int.reduceLE, Int.reduceLT, Int.reduceEq, Int.reduceNe, gb_T, gb_F, Int.reduceToNat, eq_self, true_or, or_true, and_true, true_and, and_self, ↓ite_gb0, ↓ite_gbn, ↓if_pos, ↓if_neg, if_true, if_false, not_true_eq_false, not_false_eq_true, gb_ne0, gb_eq0]
  exact ⟨h1, h2⟩
theorem part_new {σ σ2 : gMm} {p : Nat} (hI : Inv σ) (hp : σ 294 1 = (p : Int)) (h40 : p < 40) (hA : Agr σ σ2 (fun k j => k = 38 + p ∨ (k = 29 ∧ j = 9) ∨ (k = 294 ∧ (j = 1 ∨ 120 + 12 * p ≤ j ∧ j < 120 + 12 * p + 12)))) (h1 : σ2 294 1 = (p : Int) + 1) (h2 : σ2 29 9 = (p : Int) + 1) (hw : WPart (gpt (σ2 294) p) (σ 294 0)) (hc : CPart (σ2 (38 + p)) (gpt (σ2 294) p)) : Inv σ2 := by
  obtain ⟨⟨w1, w2, w3, w4, w5, w6, w7, w8⟩, c1, c2, c3, c4, c5, c6, c7, c8⟩ := iB hI
  obtain ⟨⟨r1, r2, r3⟩, d1, d2⟩ := iR hI
  have e0 := hA 294 0 (by omega)
  refine Inv_mk (P := fun k j => k = 38 + p ∨ (k = 29 ∧ j = 9) ∨ (k = 294 ∧ (j = 1 ∨ 120 + 12 * p ≤ j ∧ j < 120 + 12 * p + 12))) hI (hA) (Or.inr ?_) (Or.inl (fun k j hz hp => by unfold ZT at hz; omega)) (Or.inl (fun k j hz hp => by unfold ZG at hz; omega)) (Or.inl (fun k j hz hp => by unfold ZS at hz; omega)) (Or.inl (fun k j hz hp => by unfold ZW at hz; omega)) (Or.inl (fun k j hz hp => by unfold ZP at hz; omega)) (Or.inr ?_) (Or.inl (fun k j hz hp => by unfold ZM at hz; omega)) (Or.inl (fun k j hz hp => by unfold ZTape at hz; omega)) (Or.inl (fun k j hz hp => by unfold ZTest at hz; omega)) (Or.inl (fun k j hz hp => by unfold ZWait at hz; omega)) (Or.inl (fun k j hz hp => by unfold ZImg at hz; omega))
  · refine ⟨⟨by rw [e0]; exact w1, by rw [h1]; omega, fun k hk => ?_, fun q hq => ?_, ?_, ?_, ?_, ?_⟩, ?_, ?_, fun k hk => ?_, fun q hq => ?_, ?_, ?_, ?_, ?_⟩
    · rw [e0] at hk
      rw [hA 294 _ (by omega), hA 294 _ (by omega), hA 294 _ (by omega)]
      exact w3 k hk
    · rw [h1] at hq
      rw [e0]
      by_cases e : q = p
      · rw [e]; exact hw
      · exact WPart_congr (fun j hj => by unfold gpt; exact hA 294 _ (by omega)) (w4 q (by omega))
    · rw [hA 294 9 (by omega)]; exact w5
    · rw [hA 294 10 (by omega)]; exact w6
    · rw [e0, hA 294 11 (by omega)]; exact w7
    · rw [hA 294 12 (by omega)]; exact w8
    · rw [e0, hA 29 8 (by omega)]; exact c1
    · rw [h1, h2]
    · rw [e0] at hk
      rw [hA 294 _ (by omega), hA 294 _ (by omega), hA 294 _ (by omega), hA (29 + 1) k (by omega), hA (29 + 2) k (by omega), hA (29 + 3) k (by omega)]
      exact c3 k hk
    · rw [h1] at hq
      by_cases e : q = p
      · rw [e]; exact hc
      · exact CPart_congr (fun j hj => hA _ _ (by omega)) (fun j hj => by unfold gpt; exact hA 294 _ (by omega)) (c4 q (by omega))
    · rw [hA 294 9 (by omega), hA 29 10 (by omega)]; exact c5
    · rw [hA 294 10 (by omega), hA 29 11 (by omega)]; exact c6
    · rw [hA 294 11 (by omega), hA 29 12 (by omega)]; exact c7
    · rw [hA 294 12 (by omega), hA 29 13 (by omega)]; exact c8
  · have e6 := hA 294 6 (by omega)
    refine ⟨⟨by rw [e6]; exact r1, fun i hi => ?_, fun i j hij hj => ?_⟩, ?_, fun i hi => ?_⟩
    · rw [e6] at hi
      obtain ⟨a, b, c⟩ := r2 i hi
      rw [hA 294 (920 + i) (by omega), h1]
      refine ⟨a, by omega, ?_⟩
      unfold gpt at c ⊢
      rw [hA 294 _ (by omega)]
      exact c
    · rw [e6] at hj
      rw [hA 294 (920 + i) (by omega), hA 294 (920 + j) (by omega)]
      exact r3 i j hij hj
    · rw [e6, hA 125 1 (by omega)]; exact d1
    · rw [e6] at hi
      rw [hA 294 (920 + i) (by omega), hA (125 + 1) i (by omega)]
      exact d2 i hi
theorem sp_X_part' {p : Nat} (h : (0 ≤ a1 ∧ a1 ≤ 3) ∧ (0 ≤ a2 ∧ a2 ≤ σ 29 8) ∧ (1 ≤ a3 ∧ a3 ≤ 999) ∧ (1 ≤ a4 ∧ a4 ≤ 9) ∧ 0 ≤ a5 ∧ a5 ≤ 5) (hp : σ 29 9 = (p : Int)) (h40 : p < 40) : ∃ σ', Run L (d + 2) 21 [vR 27, vI a1, vI a2, vI a3, vI a4, vI a5] σ (some (vI (p : Int))) σ' ∧ ((σ' (38 + p) 0 = a1 ∧ σ' (38 + p) 1 = a2 ∧ σ' (38 + p) 2 = a3 ∧ σ' (38 + p) 3 = a4 ∧ σ' (38 + p) 4 = 0 ∧ σ' (38 + p) 5 = 0 ∧ σ' (38 + p) 6 = a5 ∧ σ' (38 + p) 7 = σ 28 7 ∧ σ' (38 + p) 8 = 0 ∧ σ' (38 + p) 9 = 0 ∧ σ' (38 + p) 10 = gb (a1 ≠ 4) ∧ σ' (38 + p) 11 = 0) ∧ σ' 29 9 = (p : Int) + 1) ∧ Agr σ σ' (fun k j => k = 38 + p ∨ (k = 29 ∧ j = 9)) := by
  obtain ⟨σ', hR, h1, h2⟩ := sp_X_part (L := L) (d := d) (a1 := a1) (a2 := a2) (a3 := a3) (a4 := a4) (a5 := a5) h hp h40
  obtain ⟨x0, x1, x2, x3, x4, x5, x6, x7, x8, xx9, x10, x11, x9⟩ := h1
  exact ⟨σ', hR, ⟨⟨x0, x1, x2, x3, x4, x5, x6, x7, x8, xx9, x10, x11⟩, x9⟩, h2⟩
theorem sp_M_part' {p : Nat} (h : (0 ≤ a1 ∧ a1 ≤ 3) ∧ (0 ≤ a2 ∧ a2 ≤ σ 294 0) ∧ (1 ≤ a3 ∧ a3 ≤ 999) ∧ (1 ≤ a4 ∧ a4 ≤ 9) ∧ 0 ≤ a5 ∧ a5 ≤ 5) (hp : σ 294 1 = (p : Int)) (h40 : p < 40) : ∃ σ', Run L (d + 2) 203 [vR 293, vI a1, vI a2, vI a3, vI a4, vI a5] σ (some (vI (p : Int))) σ' ∧ ((σ' 294 (120 + 12 * p + 0) = a1 ∧ σ' 294 (120 + 12 * p + 1) = a2 ∧ σ' 294 (120 + 12 * p + 2) = a3 ∧ σ' 294 (120 + 12 * p + 3) = a4 ∧ σ' 294 (120 + 12 * p + 4) = 0 ∧ σ' 294 (120 + 12 * p + 5) = 0 ∧ σ' 294 (120 + 12 * p + 6) = a5 ∧ σ' 294 (120 + 12 * p + 7) = σ 294 7 ∧ σ' 294 (120 + 12 * p + 8) = gb (a1 ≠ 4) ∧ σ' 294 (120 + 12 * p + 9) = 0 ∧ σ' 294 (120 + 12 * p + 10) = 0 ∧ σ' 294 (120 + 12 * p + 11) = 0) ∧ σ' 294 1 = (p : Int) + 1) ∧ Agr σ σ' (fun k j => k = 294 ∧ (j = 1 ∨ 120 + 12 * p ≤ j ∧ j < 120 + 12 * p + 12)) := by
  obtain ⟨σ', hR, h1, h2⟩ := sp_M_part (L := L) (d := d) (a1 := a1) (a2 := a2) (a3 := a3) (a4 := a4) (a5 := a5) h hp h40
  obtain ⟨y0, y1, y2, y3, y4, y5, y6, y7, y8, y9, y10, y11, y1'⟩ := h1
  exact ⟨σ', hR, ⟨⟨y0, y1, y2, y3, y4, y5, y6, y7, y8, y9, y10, y11⟩, y1'⟩, h2⟩
theorem op_part (a1 a2 a3 a4 a5 : Int) : Op 21 203 [vI a1, vI a2, vI a3, vI a4, vI a5] := by
  intro L d σ hI
  obtain ⟨hw, hc⟩ := iB hI
  have w1 := hw.1
  have w2 := hw.2.1
  have c1 := hc.1
  have c2 := hc.2.1
  have hp : w32 (σ 29 9 - 1) = σ 29 9 - 1 := w32i (by omega)
  have hm : w32 (σ 294 1 - 1) = σ 294 1 - 1 := w32i (by omega)
  
  have M1 := (iM hI).1.1
  have m7 := (iM hI).2.1
  
  by_cases h : (0 ≤ a1 ∧ a1 ≤ 3) ∧ (0 ≤ a2 ∧ a2 ≤ σ 29 8) ∧ (1 ≤ a3 ∧ a3 ≤ 999) ∧ (1 ≤ a4 ∧ a4 ≤ 9) ∧ 0 ≤ a5 ∧ a5 ≤ 5
  · by_cases hf : 40 ≤ σ 29 9
    · exact ⟨_, _, _, sp_X_part_f h hf, sp_M_part_f (by omega) (by omega), hI⟩
    · obtain ⟨p, hpp⟩ := Int.eq_ofNat_of_zero_le (show 0 ≤ σ 29 9 by omega)
      obtain ⟨σ1, hR1, ⟨⟨x0, x1, x2, x3, x4, x5, x6, x7, x8, xx9, x10, x11⟩, x9⟩, hA1⟩ := sp_X_part' (L := L) (d := d + 998) (p := p) (a1 := a1) (a2 := a2) (a3 := a3) (a4 := a4) (a5 := a5) h hpp (by omega)
      have e0 := hA1 294 0 (by omega)
      have e1 := hA1 294 1 (by omega)
      obtain ⟨σ2, hR2, ⟨⟨y0, y1, y2, y3, y4, y5, y6, y7, y8, y9, y10, y11⟩, y1'⟩, hA2⟩ := sp_M_part' (L := L) (d := d + 998) (σ := σ1) (p := p) (a1 := a1) (a2 := a2) (a3 := a3) (a4 := a4) (a5 := a5) (by omega) (by omega) (by omega)
      have hA : Agr σ σ2 (fun k j => k = 38 + p ∨ (k = 29 ∧ j = 9) ∨ (k = 294 ∧ (j = 1 ∨ 120 + 12 * p ≤ j ∧ j < 120 + 12 * p + 12))) := Agr_trans (Agr_mono hA1 (fun k j hk => by omega)) (Agr_mono hA2 (fun k j hk => by omega))
      have e7 := hA1 294 7 (by omega)
      have k9 : σ2 29 9 = (p : Int) + 1 := by rw [hA2 29 9 (by omega)]; exact x9
      have cl : ∀ j, σ2 (38 + p) j = σ1 (38 + p) j := fun j => hA2 _ _ (by omega)
      have g : gb (a1 ≠ 4) = 1 := gb_t (by omega)
      rw [g] at x10 y8
      refine ⟨_, _, _, hR1, hR2, part_new hI (by omega) (by omega) hA y1' k9 ?_ ?_⟩
      · unfold WPart gpt
        rw [y0, y1, y2, y3, y4, y5, y6, y7, y8, y9, y10, y11]
        omega
      · unfold CPart gpt
        rw [y0, y1, y2, y3, y4, y5, y6, y7, y8, y9, y10, y11, cl 0, cl 1, cl 2, cl 3, cl 4, cl 5, cl 6, cl 7, cl 8, cl 9, cl 10, cl 11, x0, x1, x2, x3, x4, x5, x6, x7, x8, xx9, x10, x11]
        omega
  · exact ⟨_, _, _, sp_X_part_b h, sp_M_part_b (by omega), hI⟩
