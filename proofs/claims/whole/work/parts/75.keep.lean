/-! keep, back. -/
variable {L d : Nat} {σ σ1 : Nat → Nat → Int} {Q : Option gV → (Nat → Nat → Int) → Prop} {a0 a1 a2 a3 a4 a5 a6 a7 a8 a9 a10 a11 s0 s1 s2 s3 s4 s5 s6 s7 s8 s9 : Int} {l0 l1 l2 l3 l4 l5 l6 l7 l8 l9 l10 l11 t0 t1 t2 t3 t4 t5 t6 t7 t8 t9 : gV} {b0 b1 b2 b3 b4 b5 b6 b7 b8 b9 b10 b11 c0 c1 c2 c3 c4 c5 c6 c7 c8 c9 : Nat} {r : Option gV}
theorem r_X_keep_0 : Wp L d k_X_keep 0 [vR b0] [] σ Q ↔ Wp L d k_X_keep 1 [vR b0] [vR b0] σ Q := wp_aload rfl rfl
theorem r_X_keep_1 (h : gK c0 = 0) : Wp L d k_X_keep 1 [l0] [vR c0] σ Q ↔ Wp L d k_X_keep 4 [l0] [vR (gq c0 2)] σ Q := wp_getR (c := 130) rfl rfl rfl rfl rfl h
theorem r_X_keep_4 : Wp L d k_X_keep 4 [vR b0] [vR c0] σ Q ↔ Wp L d k_X_keep 5 [vR b0] [vR b0, vR c0] σ Q := wp_aload rfl rfl
theorem r_X_keep_5 (h : gK c1 = 0) : Wp L d k_X_keep 5 [l0] [vR c1, vR c0] σ Q ↔ Wp L d k_X_keep 8 [l0] [vR (gq c1 0), vR c0] σ Q := wp_getR (c := 128) rfl rfl rfl rfl rfl h
theorem c_X_keep_8 (hR : Run L d 140 [vR c0, vR c1] σ r σ1) (h : gK c0 = 5) : Wp L (d + 1) k_X_keep 8 [l0] [vR c1, vR c0] σ Q ↔ Wp L (d + 1) k_X_keep 11 [l0] (r.toList ++ []) σ1 Q := wp_callR (as := [vR c0, vR c1]) (rest := []) rfl rfl rfl rfl rfl rfl rfl (grecv_k (by rw [h]) rfl) hR
theorem r_X_keep_11 : Wp L d k_X_keep 11 [vR b0] [] σ Q ↔ Wp L d k_X_keep 12 [vR b0] [vR b0] σ Q := wp_aload rfl rfl
theorem r_X_keep_12 : Wp L d k_X_keep 12 [l0] [vR c0] σ Q ↔ Wp L d k_X_keep 13 [l0] [vI 1, vR c0] σ Q := wp_push rfl
theorem r_X_keep_13 (h : gK c0 = 0) (hx : s1 = 0 ∨ s1 = 1) : Wp L d k_X_keep 13 [l0] [vI s1, vR c0] σ Q ↔ Wp L d k_X_keep 16 [l0] [] (gupd σ c0 8 s1) Q := wp_putZ (c := 72) rfl rfl rfl rfl h hx
theorem r_X_keep_16 : Wp L d k_X_keep 16 [vR b0] [] σ Q ↔ Wp L d k_X_keep 17 [vR b0] [vR b0] σ Q := wp_aload rfl rfl
theorem r_X_keep_17 (h : gK c0 = 0) : Wp L d k_X_keep 17 [l0] [vR c0] σ Q ↔ Wp L d k_X_keep 20 [l0] [vR (gq c0 0)] σ Q := wp_getR (c := 128) rfl rfl rfl rfl rfl h
theorem r_X_keep_20 (h : gK c0 = 5) : Wp L d k_X_keep 20 [l0] [vR c0] σ Q ↔ Wp L d k_X_keep 23 [l0] [vI (σ c0 7)] σ Q := wp_getI (c := 1287) rfl rfl rfl rfl h
theorem r_X_keep_23 : Wp L d k_X_keep 23 [l0] [vI s0] σ Q ↔ Q (some (vI s0)) σ := wp_iret rfl
theorem sp_X_keep (hw : WF (σ 294)) (hc : SC 0 (σ 294) σ) (hd : ∀ j : Nat, σ 32 j = 0 ∨ σ 32 j = 1) : ∃ σ', Run L (d + 3) 86 [vR 27] σ (some (vI (σ 294 7))) σ' ∧ SC 101 (σ 294) σ' ∧ σ' 27 8 = 1 ∧ Agr σ σ' (fun k j => (129 ≤ k ∧ k ≤ 229) ∨ (k = 27 ∧ j = 8)) := by
  refine Run_ex (C' := k_X_keep) rfl ?_
  show Wp L (d + 3) k_X_keep 0 [vR 27] [] σ _
  obtain ⟨K27, K28, K29, K78, K97, K99, K109, K123, K125, K279, K282⟩ := litX
  have K129 := gK_129
  obtain ⟨τ, hR, c1, hA⟩ := sp_S_become_1 (L := L) (d := d) (σ := σ) (μ := 294) (by omega) hw hc hd
  have e : τ 28 7 = σ 294 7 := (hA 28 7 (by omega)).trans hc.2.2.2.2.2.2.2.1
  have e4 : τ 294 = σ 294 := funext (fun j => hA 294 j (by omega))
  have s := SC_dep (δ := 101) (μ := 294) (σ := τ) (σ' := gupd τ 27 8 1) (fun k j hk => gupd_ne (by omega)) (by rw [e4]; exact hw) (by rw [e4]; exact c1)
  rw [gupd_rw (by omega), e4] at s
  simp (disch := first | assumption | exact gb_01 _ | omega) only [r_X_keep_0, r_X_keep_1, r_X_keep_4, r_X_keep_5, r_X_keep_11, r_X_keep_12, r_X_keep_13, r_X_keep_16, r_X_keep_17, r_X_keep_20, r_X_keep_23, c_X_keep_8 hR, Option.toList, List.singleton_append, List.cons_append, List.nil_append, List.append_nil, gq_27_0, gq_27_1, gq_27_2, gq_27_3, gq_27_4, gq_27_5, gq_27_6, gq_28_0, gq_28_1, gq_28_2, gq_28_3, gq_28_4, gq_28_5, gq_28_6, e, gupd_ne, w32_gb, w32i, tn_add, tn_mul, Int.toNat_natCast, Int.toNat_zero, Int.reduceLE, Int.reduceLT, Int.reduceEq, Int.reduceNe, gb_T, gb_F, Int.reduceToNat, eq_self, true_or, or_true, and_true, true_and, and_self, ↓ite_gb0, ↓ite_gbn, ↓if_pos, ↓if_neg, if_true, if_false, not_true_eq_false, not_false_eq_true, gb_ne0, gb_eq0]
  exact ⟨s.2, gupd_eq, Agr_upd (Agr_mono hA (fun k j hk => Or.inl hk)) (Or.inr ⟨rfl, rfl⟩)⟩
theorem r_X_back_0 : Wp L d k_X_back 0 [vR b0] [] σ Q ↔ Wp L d k_X_back 1 [vR b0] [vR b0] σ Q := wp_aload rfl rfl
theorem r_X_back_1 (h : gK c0 = 0) : Wp L d k_X_back 1 [l0] [vR c0] σ Q ↔ Wp L d k_X_back 4 [l0] [vI (σ c0 8)] σ Q := wp_getI (c := 72) rfl rfl rfl rfl h
theorem r_X_back_4 : Wp L d k_X_back 4 [l0] [vI s0] σ Q ↔ (if s0 ≠ 0 then Wp L d k_X_back 10 [l0] [] σ Q else Wp L d k_X_back 7 [l0] [] σ Q) := wp_if_ne rfl
theorem r_X_back_7 : Wp L d k_X_back 7 [l0] [] σ Q ↔ Wp L d k_X_back 9 [l0] [vI (-1000000002)] σ Q := wp_push rfl
theorem r_X_back_9 : Wp L d k_X_back 9 [l0] [vI s0] σ Q ↔ Q (some (vI s0)) σ := wp_iret rfl
theorem r_X_back_10 : Wp L d k_X_back 10 [vR b0] [] σ Q ↔ Wp L d k_X_back 11 [vR b0] [vR b0] σ Q := wp_aload rfl rfl
theorem r_X_back_11 (h : gK c0 = 0) : Wp L d k_X_back 11 [l0] [vR c0] σ Q ↔ Wp L d k_X_back 14 [l0] [vR (gq c0 0)] σ Q := wp_getR (c := 128) rfl rfl rfl rfl rfl h
theorem r_X_back_14 : Wp L d k_X_back 14 [vR b0] [vR c0] σ Q ↔ Wp L d k_X_back 15 [vR b0] [vR b0, vR c0] σ Q := wp_aload rfl rfl
theorem r_X_back_15 (h : gK c1 = 0) : Wp L d k_X_back 15 [l0] [vR c1, vR c0] σ Q ↔ Wp L d k_X_back 18 [l0] [vR (gq c1 2), vR c0] σ Q := wp_getR (c := 130) rfl rfl rfl rfl rfl h
theorem c_X_back_18 (hR : Run L d 140 [vR c0, vR c1] σ r σ1) (h : gK c0 = 5) : Wp L (d + 1) k_X_back 18 [l0] [vR c1, vR c0] σ Q ↔ Wp L (d + 1) k_X_back 21 [l0] (r.toList ++ []) σ1 Q := wp_callR (as := [vR c0, vR c1]) (rest := []) rfl rfl rfl rfl rfl rfl rfl (grecv_k (by rw [h]) rfl) hR
theorem r_X_back_21 : Wp L d k_X_back 21 [vR b0] [] σ Q ↔ Wp L d k_X_back 22 [vR b0] [vR b0] σ Q := wp_aload rfl rfl
theorem r_X_back_22 (h : gK c0 = 0) : Wp L d k_X_back 22 [l0] [vR c0] σ Q ↔ Wp L d k_X_back 25 [l0] [vR (gq c0 0)] σ Q := wp_getR (c := 128) rfl rfl rfl rfl rfl h
theorem r_X_back_25 (h : gK c0 = 5) : Wp L d k_X_back 25 [l0] [vR c0] σ Q ↔ Wp L d k_X_back 28 [l0] [vI (σ c0 7)] σ Q := wp_getI (c := 1287) rfl rfl rfl rfl h
theorem r_X_back_28 : Wp L d k_X_back 28 [l0] [vI s0] σ Q ↔ Q (some (vI s0)) σ := wp_iret rfl
theorem sp_X_back (hi : σ 27 8 = 1) (hw : WF (σ 295)) (hc : SC 101 (σ 295) σ) (hd : ∀ j : Nat, σ 133 j = 0 ∨ σ 133 j = 1) : ∃ σ', Run L (d + 3) 87 [vR 27] σ (some (vI (σ 295 7))) σ' ∧ SC 0 (σ 295) σ' ∧ Agr σ σ' (fun k _ => 28 ≤ k ∧ k ≤ 128) := by
  refine Run_ex (C' := k_X_back) rfl ?_
  show Wp L (d + 3) k_X_back 0 [vR 27] [] σ _
  obtain ⟨K27, K28, K29, K78, K97, K99, K109, K123, K125, K279, K282⟩ := litX
  obtain ⟨τ, hR, c1, hA⟩ := sp_S_become_0 (L := L) (d := d) (σ := σ) (μ := 295) (by omega) hw hc hd
  have e : τ 28 7 = σ 295 7 := c1.2.2.2.2.2.2.2.1
  simp (disch := first | assumption | exact gb_01 _ | omega) only [r_X_back_0, r_X_back_1, r_X_back_4, r_X_back_7, r_X_back_9, r_X_back_10, r_X_back_11, r_X_back_14, r_X_back_15, r_X_back_21, r_X_back_22, r_X_back_25, r_X_back_28, c_X_back_18 hR, Option.toList, List.singleton_append, List.cons_append, List.nil_append, List.append_nil, gq_27_0, gq_27_1, gq_27_2, gq_27_3, gq_27_4, gq_27_5, gq_27_6, gq_28_0, gq_28_1, gq_28_2, gq_28_3, gq_28_4, gq_28_5, gq_28_6, e, w32_gb, w32i, tn_add, tn_mul, Int.toNat_natCast, Int.toNat_zero, Int.reduceLE, Int.reduceLT, Int.reduceEq, Int.reduceNe, gb_T, gb_F, Int.reduceToNat, eq_self, true_or, or_true, and_true, true_and, and_self, ↓ite_gb0, ↓ite_gbn, ↓if_pos, ↓if_neg, if_true, if_false, not_true_eq_false, not_false_eq_true, gb_ne0, gb_eq0]
  exact ⟨c1, hA⟩
theorem sp_X_back_n (hi : σ 27 8 = 0) : Run L (d + 3) 87 [vR 27] σ (some (vI (-1000000002))) σ := by
  refine Run_of (C' := k_X_back) rfl ?_
  show Wp L (d + 3) k_X_back 0 [vR 27] [] σ _
  obtain ⟨K27, K28, K29, K78, K97, K99, K109, K123, K125, K279, K282⟩ := litX
  simp (disch := first | assumption | exact gb_01 _ | omega) only [r_X_back_0, r_X_back_1, r_X_back_4, r_X_back_7, r_X_back_9, gq_27_0, gq_27_1, gq_27_2, gq_27_3, gq_27_4, gq_27_5, gq_27_6, gq_28_0, gq_28_1, gq_28_2, gq_28_3, gq_28_4, gq_28_5, gq_28_6, w32_gb, w32i, tn_add, tn_mul, Int.toNat_natCast, Int.toNat_zero, Int.reduceLE, Int.reduceLT, Int.reduceEq, Int.reduceNe, gb_T, gb_F, Int.reduceToNat, eq_self, true_or, or_true, and_true, true_and, and_self, ↓ite_gb0, ↓ite_gbn, ↓if_pos, ↓if_neg, if_true, if_false, not_true_eq_false, not_false_eq_true, gb_ne0, gb_eq0]
theorem r_M_back_0 : Wp L d k_M_back 0 [vR b0] [] σ Q ↔ Wp L d k_M_back 1 [vR b0] [vR b0] σ Q := wp_aload rfl rfl
theorem r_M_back_1 (h : gK c0 = 12) : Wp L d k_M_back 1 [l0] [vR c0] σ Q ↔ Wp L d k_M_back 4 [l0] [vI (σ c0 3)] σ Q := wp_getI (c := 3139) rfl rfl rfl rfl h
theorem r_M_back_4 : Wp L d k_M_back 4 [l0] [vI s0] σ Q ↔ (if s0 ≠ 0 then Wp L d k_M_back 10 [l0] [] σ Q else Wp L d k_M_back 7 [l0] [] σ Q) := wp_if_ne rfl
theorem r_M_back_7 : Wp L d k_M_back 7 [l0] [] σ Q ↔ Wp L d k_M_back 9 [l0] [vI (-1000000002)] σ Q := wp_push rfl
theorem r_M_back_9 : Wp L d k_M_back 9 [l0] [vI s0] σ Q ↔ Q (some (vI s0)) σ := wp_iret rfl
theorem r_M_back_10 : Wp L d k_M_back 10 [vR b0] [] σ Q ↔ Wp L d k_M_back 11 [vR b0] [vR b0] σ Q := wp_aload rfl rfl
theorem r_M_back_11 : Wp L d k_M_back 11 [vR b0] [vR c0] σ Q ↔ Wp L d k_M_back 12 [vR b0] [vR b0, vR c0] σ Q := wp_aload rfl rfl
theorem r_M_back_12 (h : gK c1 = 12) : Wp L d k_M_back 12 [l0] [vR c1, vR c0] σ Q ↔ Wp L d k_M_back 15 [l0] [vR (gq c1 1), vR c0] σ Q := wp_getR (c := 3201) rfl rfl rfl rfl rfl h
theorem r_M_back_15 : Wp L d k_M_back 15 [vR b0] [vR c1, vR c0] σ Q ↔ Wp L d k_M_back 16 [vR b0] [vR b0, vR c1, vR c0] σ Q := wp_aload rfl rfl
theorem r_M_back_16 (h : gK c2 = 12) : Wp L d k_M_back 16 [l0] [vR c2, vR c1, vR c0] σ Q ↔ Wp L d k_M_back 19 [l0] [vR (gq c2 0), vR c1, vR c0] σ Q := wp_getR (c := 3200) rfl rfl rfl rfl rfl h
theorem r_M_back_22 : Wp L d k_M_back 22 [vR b0] [] σ Q ↔ Wp L d k_M_back 23 [vR b0] [vR b0] σ Q := wp_aload rfl rfl
theorem r_M_back_23 (h : gK c0 = 12) : Wp L d k_M_back 23 [l0] [vR c0] σ Q ↔ Wp L d k_M_back 26 [l0] [vR (gq c0 0)] σ Q := wp_getR (c := 3200) rfl rfl rfl rfl rfl h
theorem r_M_back_26 : Wp L d k_M_back 26 [l0] [vR c0] σ Q ↔ Wp L d k_M_back 28 [l0] [vI 7, vR c0] σ Q := wp_push rfl
theorem r_M_back_28 (h : gK c0 = 100) (hx : 0 ≤ s1 ∧ s1 < gN c0) : Wp L d k_M_back 28 [l0] [vI s1, vR c0] σ Q ↔ Wp L d k_M_back 29 [l0] [vI (σ c0 s1.toNat)] σ Q := wp_iald rfl h hx
theorem r_M_back_29 : Wp L d k_M_back 29 [l0] [vI s0] σ Q ↔ Q (some (vI s0)) σ := wp_iret rfl
theorem r_M_back_19 (k1 : gK c1 = 100) (k2 : gK c2 = 100) (z1 : ((gN c1 : Nat) : Int) = 3540) (z2 : ((gN c2 : Nat) : Int) = 3540) (hne : c1 ≠ c2) : Wp L (d + 1) k_M_back 19 [l0] [vR c2, vR c1, vR 293] σ Q ↔ Wp L (d + 1) k_M_back 22 [l0] [] (gsr σ c2 (cpr (σ c1) (σ c2))) Q := wp_callR (d := d + 0) (as := [vR 293, vR c1, vR c2]) (rest := []) rfl rfl rfl rfl rfl rfl rfl (grecv_k (by rw [gK_293]) rfl) (sp_M_setAside k1 k2 z1 z2 hne)
theorem sp_M_back_n (hi : σ 293 3 = 0) : Run L (d + 1) 317 [vR 293] σ (some (vI (-1000000002))) σ := by
  refine Run_of (C' := k_M_back) rfl ?_
  show Wp L (d + 1) k_M_back 0 [vR 293] [] σ _
  obtain ⟨K293, Q293, K294, N294⟩ := litM
  simp (disch := first | assumption | exact gb_01 _ | omega) only [r_M_back_0, r_M_back_1, r_M_back_4, r_M_back_7, r_M_back_9, Q293, w32_gb, w32i, tn_add, tn_mul, Int.toNat_natCast, Int.toNat_zero, Int.reduceLE, Int.reduceLT, Int.reduceEq, Int.reduceNe, gb_T, gb_F, Int.reduceToNat, eq_self, true_or, or_true, and_true, true_and, and_self, ↓ite_gb0, ↓ite_gbn, ↓if_pos, ↓if_neg, if_true, if_false, not_true_eq_false, not_false_eq_true, gb_ne0, gb_eq0]
theorem sp_M_back (hi : σ 293 3 = 1) : Run L (d + 1) 317 [vR 293] σ (some (vI (σ 295 7))) (gsr σ 294 (cpr (σ 295) (σ 294))) := by
  refine Run_of (C' := k_M_back) rfl ?_
  show Wp L (d + 1) k_M_back 0 [vR 293] [] σ _
  obtain ⟨K293, Q293, K294, N294⟩ := litM
  obtain ⟨n1, n2, K295, K296, N295, N296⟩ := litA
  have e : gsr σ 294 (cpr (σ 295) (σ 294)) 294 7 = σ 295 7 := by rw [gsr_eq, cpr_lt (by omega)]
  simp (disch := first | assumption | exact gb_01 _ | omega) only [r_M_back_0, r_M_back_1, r_M_back_4, r_M_back_7, r_M_back_9, r_M_back_10, r_M_back_11, r_M_back_12, r_M_back_15, r_M_back_16, r_M_back_19, r_M_back_22, r_M_back_23, r_M_back_26, r_M_back_28, r_M_back_29, Q293, n1, e, w32_gb, w32i, tn_add, tn_mul, Int.toNat_natCast, Int.toNat_zero, Int.reduceLE, Int.reduceLT, Int.reduceEq, Int.reduceNe, gb_T, gb_F, Int.reduceToNat, eq_self, true_or, or_true, and_true, true_and, and_self, ↓ite_gb0, ↓ite_gbn, ↓if_pos, ↓if_neg, if_true, if_false, not_true_eq_false, not_false_eq_true, gb_ne0, gb_eq0]
theorem r_M_keep_0 : Wp L d k_M_keep 0 [vR b0] [] σ Q ↔ Wp L d k_M_keep 1 [vR b0] [vR b0] σ Q := wp_aload rfl rfl
theorem r_M_keep_1 : Wp L d k_M_keep 1 [l0] [vR c0] σ Q ↔ Wp L d k_M_keep 2 [l0] [vI 1, vR c0] σ Q := wp_push rfl
theorem r_M_keep_2 (h : gK c0 = 12) (hx : s1 = 0 ∨ s1 = 1) : Wp L d k_M_keep 2 [l0] [vI s1, vR c0] σ Q ↔ Wp L d k_M_keep 5 [l0] [] (gupd σ c0 3 s1) Q := wp_putZ (c := 3139) rfl rfl rfl rfl h hx
theorem r_M_keep_5 : Wp L d k_M_keep 5 [vR b0] [] σ Q ↔ Wp L d k_M_keep 6 [vR b0] [vR b0] σ Q := wp_aload rfl rfl
theorem r_M_keep_6 : Wp L d k_M_keep 6 [vR b0] [vR c0] σ Q ↔ Wp L d k_M_keep 7 [vR b0] [vR b0, vR c0] σ Q := wp_aload rfl rfl
theorem r_M_keep_7 (h : gK c1 = 12) : Wp L d k_M_keep 7 [l0] [vR c1, vR c0] σ Q ↔ Wp L d k_M_keep 10 [l0] [vR (gq c1 0), vR c0] σ Q := wp_getR (c := 3200) rfl rfl rfl rfl rfl h
theorem r_M_keep_10 : Wp L d k_M_keep 10 [vR b0] [vR c1, vR c0] σ Q ↔ Wp L d k_M_keep 11 [vR b0] [vR b0, vR c1, vR c0] σ Q := wp_aload rfl rfl
theorem r_M_keep_11 (h : gK c2 = 12) : Wp L d k_M_keep 11 [l0] [vR c2, vR c1, vR c0] σ Q ↔ Wp L d k_M_keep 14 [l0] [vR (gq c2 1), vR c1, vR c0] σ Q := wp_getR (c := 3201) rfl rfl rfl rfl rfl h
theorem r_M_keep_17 : Wp L d k_M_keep 17 [vR b0] [] σ Q ↔ Wp L d k_M_keep 18 [vR b0] [vR b0] σ Q := wp_aload rfl rfl
theorem r_M_keep_18 (h : gK c0 = 12) : Wp L d k_M_keep 18 [l0] [vR c0] σ Q ↔ Wp L d k_M_keep 21 [l0] [vR (gq c0 0)] σ Q := wp_getR (c := 3200) rfl rfl rfl rfl rfl h
theorem r_M_keep_21 : Wp L d k_M_keep 21 [l0] [vR c0] σ Q ↔ Wp L d k_M_keep 23 [l0] [vI 7, vR c0] σ Q := wp_push rfl
theorem r_M_keep_23 (h : gK c0 = 100) (hx : 0 ≤ s1 ∧ s1 < gN c0) : Wp L d k_M_keep 23 [l0] [vI s1, vR c0] σ Q ↔ Wp L d k_M_keep 24 [l0] [vI (σ c0 s1.toNat)] σ Q := wp_iald rfl h hx
theorem r_M_keep_24 : Wp L d k_M_keep 24 [l0] [vI s0] σ Q ↔ Q (some (vI s0)) σ := wp_iret rfl
theorem r_M_keep_14 (k1 : gK c1 = 100) (k2 : gK c2 = 100) (z1 : ((gN c1 : Nat) : Int) = 3540) (z2 : ((gN c2 : Nat) : Int) = 3540) (hne : c1 ≠ c2) : Wp L (d + 1) k_M_keep 14 [l0] [vR c2, vR c1, vR 293] σ Q ↔ Wp L (d + 1) k_M_keep 17 [l0] [] (gsr σ c2 (cpr (σ c1) (σ c2))) Q := wp_callR (d := d + 0) (as := [vR 293, vR c1, vR c2]) (rest := []) rfl rfl rfl rfl rfl rfl rfl (grecv_k (by rw [gK_293]) rfl) (sp_M_setAside k1 k2 z1 z2 hne)
theorem sp_M_keep : Run L (d + 1) 316 [vR 293] σ (some (vI (σ 294 7))) (gsr (gupd σ 293 3 1) 295 (cpr (σ 294) (σ 295))) := by
  refine Run_of (C' := k_M_keep) rfl ?_
  show Wp L (d + 1) k_M_keep 0 [vR 293] [] σ _
  obtain ⟨K293, Q293, K294, N294⟩ := litM
  obtain ⟨n1, n2, K295, K296, N295, N296⟩ := litA
  have e : gsr (gupd σ 293 3 1) 295 (cpr (σ 294) (σ 295)) 294 7 = σ 294 7 := by rw [gsr_ne (by omega), gupd_ne (by omega)]
  have e4 : gupd σ 293 3 1 294 = σ 294 := gupd_rw (by omega)
  have e5 : gupd σ 293 3 1 295 = σ 295 := gupd_rw (by omega)
  simp (disch := first | assumption | exact gb_01 _ | omega) only [r_M_keep_0, r_M_keep_1, r_M_keep_2, r_M_keep_5, r_M_keep_6, r_M_keep_7, r_M_keep_10, r_M_keep_11, r_M_keep_14, r_M_keep_17, r_M_keep_18, r_M_keep_21, r_M_keep_23, r_M_keep_24, Q293, n1, e, e4, e5, w32_gb, w32i, tn_add, tn_mul, Int.toNat_natCast, Int.toNat_zero, Int.reduceLE, Int.reduceLT, Int.reduceEq, Int.reduceNe, gb_T, gb_F, Int.reduceToNat, eq_self, true_or, or_true, and_true, true_and, and_self, ↓ite_gb0, ↓ite_gbn, ↓if_pos, ↓if_neg, if_true, if_false, not_true_eq_false, not_false_eq_true, gb_ne0, gb_eq0]
theorem op_back : Op2 87 317 [] := by
  intro L d σ hI hPB
  have hI0 := hI
  obtain ⟨hw, hc, t1, t2, t3, ⟨i1, i2, i3⟩⟩ := hI0
  by_cases hi : σ 293 3 = 0
  · exact ⟨_, _, _, sp_X_back_n (d := d + 997) (by omega), sp_M_back_n (d := d + 999) hi, hI⟩
  · have hi1 : σ 293 3 = 1 := by omega
    obtain ⟨hw5, hc5⟩ := i3 hi1
    obtain ⟨σ1, hR1, c1, hA1⟩ := sp_X_back (L := L) (d := d + 997) (σ := σ) (by omega) hw5 hc5 (PB_133 hPB)
    have e5 : σ1 295 = σ 295 := funext (fun j => hA1 295 j (by omega))
    have e4 : σ1 294 = σ 294 := funext (fun j => hA1 294 j (by omega))
    have hR2 := sp_M_back (L := L) (d := d + 999) (σ := σ1) ((hA1 293 3 (by omega)).trans hi1)
    rw [e5, e4] at hR2
    have hA2 : Agr σ (gsr σ1 294 (cpr (σ 295) (σ 294))) (fun k _ => 28 ≤ k ∧ k ≤ 128 ∨ k = 294) := fun k j hk => by
      rw [gsr_ne (by omega)]
      exact hA1 k j (by omega)
    have s1 := SC_dep (δ := 0) (μ := 295) (σ := σ1) (σ' := gsr σ1 294 (σ 295)) (fun k j hk => by rw [gsr_ne (by omega)]) (by rw [e5]; exact hw5) (by rw [e5]; exact c1)
    rw [gsr_ne (by omega), e5] at s1
    have s2 := SC_dep2 (δ := 0) (μ := 294) (σ := gsr σ1 294 (σ 295)) (σ' := gsr σ1 294 (cpr (σ 295) (σ 294))) (fun k j hk => by
      by_cases c : k = 294
      · rw [c, gsr_eq, gsr_eq, cpr_lt (by omega)]
      · rw [gsr_ne c, gsr_ne c]) (by rw [gsr_eq]; exact s1.1) (by rw [gsr_eq]; exact s1.2)
    exact ⟨_, _, _, hR1, hR2, s2.1, s2.2, Tape_dep (fun k j hz => hA2 k j (by unfold ZTape at hz; omega)) t1, Test_dep (fun k j hz => hA2 k j (by unfold ZTest at hz; omega)) t2, Wait_dep (fun k j hz => hA2 k j (by unfold ZWait at hz; omega)) t3, Img_dep (fun k j hz => hA2 k j (by unfold ZImg at hz; omega)) ⟨i1, i2, i3⟩⟩
theorem op_keep : Op2 86 316 [] := by
  intro L d σ hI hPB
  have hI0 := hI
  obtain ⟨hw, hc, t1, t2, t3, -⟩ := hI0
  obtain ⟨σ1, hR1, c1, z1, hA1⟩ := sp_X_keep (L := L) (d := d + 997) (σ := σ) hw hc (PB_32 hPB)
  have e5 : σ1 295 = σ 295 := funext (fun j => hA1 295 j (by omega))
  have e4 : σ1 294 = σ 294 := funext (fun j => hA1 294 j (by omega))
  have hR2 := sp_M_keep (L := L) (d := d + 999) (σ := σ1)
  rw [e5, e4] at hR2
  have hA2 : Agr σ (gsr (gupd σ1 293 3 1) 295 (cpr (σ 294) (σ 295))) (fun k j => (129 ≤ k ∧ k ≤ 229) ∨ (k = 27 ∧ j = 8) ∨ k = 295 ∨ (k = 293 ∧ j = 3)) := fun k j hk => by
    rw [gsr_ne (by omega), gupd_ne (by omega)]
    exact hA1 k j (by omega)
  have s0 := SC_dep (δ := 0) (μ := 294) (σ := σ) (σ' := gsr (gupd σ1 293 3 1) 295 (cpr (σ 294) (σ 295))) (fun k j hk => hA2 k j (by omega)) hw hc
  have s1 := SC_dep (δ := 101) (μ := 294) (σ := σ1) (σ' := gsr σ1 295 (σ 294)) (fun k j hk => by rw [gsr_ne (by omega)]) (by rw [e4]; exact hw) (by rw [e4]; exact c1)
  rw [gsr_ne (by omega), e4] at s1
  have s2 := SC_dep2 (δ := 101) (μ := 295) (σ := gsr σ1 295 (σ 294)) (σ' := gsr (gupd σ1 293 3 1) 295 (cpr (σ 294) (σ 295))) (fun k j hk => by
    by_cases c : k = 295
    · rw [c, gsr_eq, gsr_eq, cpr_lt (by omega)]
    · rw [gsr_ne c, gsr_ne c, gupd_ne (by omega)]) (by rw [gsr_eq]; exact s1.1) (by rw [gsr_eq]; exact s1.2)
  have y1 : gsr (gupd σ1 293 3 1) 295 (cpr (σ 294) (σ 295)) 293 3 = 1 := by rw [gsr_ne (by omega), gupd_eq]
  have y2 : gsr (gupd σ1 293 3 1) 295 (cpr (σ 294) (σ 295)) 27 8 = 1 := by rw [gsr_ne (by omega), gupd_ne (by omega)]; exact z1
  exact ⟨_, _, _, hR1, hR2, s0.1, s0.2, Tape_dep (fun k j hz => hA2 k j (by unfold ZTape at hz; omega)) t1, Test_dep (fun k j hz => hA2 k j (by unfold ZTest at hz; omega)) t2, Wait_dep (fun k j hz => hA2 k j (by unfold ZWait at hz; omega)) t3, by rw [y1, y2], Or.inr y1, fun _ => s2⟩
