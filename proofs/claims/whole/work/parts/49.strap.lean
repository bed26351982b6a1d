/-! strap. -/
variable {L d : Nat} {σ σ1 : Nat → Nat → Int} {Q : Option gV → (Nat → Nat → Int) → Prop} {a0 a1 a2 a3 a4 a5 a6 a7 a8 a9 a10 a11 s0 s1 s2 s3 s4 s5 s6 s7 s8 s9 : Int} {l0 l1 l2 l3 l4 l5 l6 l7 l8 l9 l10 l11 t0 t1 t2 t3 t4 t5 t6 t7 t8 t9 : gV} {b0 b1 b2 b3 b4 b5 b6 b7 b8 b9 b10 b11 c0 c1 c2 c3 c4 c5 c6 c7 c8 c9 : Nat} {r : Option gV}
theorem r_M_isTie_0 : Wp L d k_M_isTie 0 [vR b0, l1] [] σ Q ↔ Wp L d k_M_isTie 1 [vR b0, l1] [vR b0] σ Q := wp_aload rfl rfl
theorem r_M_isTie_1 : Wp L d k_M_isTie 1 [l0, vI a1] [vR c0] σ Q ↔ Wp L d k_M_isTie 2 [l0, vI a1] [vI a1, vR c0] σ Q := wp_iload rfl rfl
theorem r_M_isTie_5 : Wp L d k_M_isTie 5 [l0, l1] [vI s0] σ Q ↔ Wp L d k_M_isTie 6 [l0, l1] [vI 2, vI s0] σ Q := wp_push rfl
theorem r_M_isTie_6 : Wp L d k_M_isTie 6 [l0, l1] [vI s1, vI s0] σ Q ↔ (if s0 = s1 then Wp L d k_M_isTie 18 [l0, l1] [] σ Q else Wp L d k_M_isTie 9 [l0, l1] [] σ Q) := wp_cmp_eq rfl
theorem r_M_isTie_9 : Wp L d k_M_isTie 9 [vR b0, l1] [] σ Q ↔ Wp L d k_M_isTie 10 [vR b0, l1] [vR b0] σ Q := wp_aload rfl rfl
theorem r_M_isTie_10 : Wp L d k_M_isTie 10 [l0, vI a1] [vR c0] σ Q ↔ Wp L d k_M_isTie 11 [l0, vI a1] [vI a1, vR c0] σ Q := wp_iload rfl rfl
theorem r_M_isTie_14 : Wp L d k_M_isTie 14 [l0, l1] [vI s0] σ Q ↔ Wp L d k_M_isTie 15 [l0, l1] [vI 3, vI s0] σ Q := wp_push rfl
theorem r_M_isTie_15 : Wp L d k_M_isTie 15 [l0, l1] [vI s1, vI s0] σ Q ↔ (if s0 ≠ s1 then Wp L d k_M_isTie 22 [l0, l1] [] σ Q else Wp L d k_M_isTie 18 [l0, l1] [] σ Q) := wp_cmp_ne rfl
theorem r_M_isTie_18 : Wp L d k_M_isTie 18 [l0, l1] [] σ Q ↔ Wp L d k_M_isTie 19 [l0, l1] [vI 1] σ Q := wp_push rfl
theorem r_M_isTie_19 : Wp L d k_M_isTie 19 [l0, l1] [vI s0] σ Q ↔ Wp L d k_M_isTie 23 [l0, l1] [vI s0] σ Q := wp_goto rfl
theorem r_M_isTie_22 : Wp L d k_M_isTie 22 [l0, l1] [] σ Q ↔ Wp L d k_M_isTie 23 [l0, l1] [vI 0] σ Q := wp_push rfl
theorem r_M_isTie_23 (h : s0 = 0 ∨ s0 = 1) : Wp L d k_M_isTie 23 [l0, l1] [vI s0] σ Q ↔ Q (some (vI s0)) σ := wp_zret rfl h
theorem r_M_isTie_2 (h : 0 ≤ s1 ∧ s1 ≤ 40) : Wp L (d + 2) k_M_isTie 2 [l0, l1] [vI s1, vR 293] σ Q ↔ Wp L (d + 2) k_M_isTie 5 [l0, l1] [vI (σ 294 (120 + 12 * s1.toNat))] σ Q := wp_callR (d := d + 1) (as := [vR 293, vI s1]) (rest := []) rfl rfl rfl rfl rfl rfl rfl (grecv_k (by rw [gK_293]) rfl) (sp_M_kindOf0 h)
theorem r_M_isTie_11 (h : 0 ≤ s1 ∧ s1 ≤ 40) : Wp L (d + 2) k_M_isTie 11 [l0, l1] [vI s1, vR 293] σ Q ↔ Wp L (d + 2) k_M_isTie 14 [l0, l1] [vI (σ 294 (120 + 12 * s1.toNat))] σ Q := wp_callR (d := d + 1) (as := [vR 293, vI s1]) (rest := []) rfl rfl rfl rfl rfl rfl rfl (grecv_k (by rw [gK_293]) rfl) (sp_M_kindOf0 h)
theorem sp_M_isTie (h : 0 ≤ a1 ∧ a1 ≤ 40) : Run L (d + 2) 266 [vR 293, vI a1] σ (some (vI (gb (σ 294 (120 + 12 * a1.toNat) = 2 ∨ σ 294 (120 + 12 * a1.toNat) = 3)))) σ := by
  refine Run_of (C' := k_M_isTie) rfl ?_
  show Wp L (d + 2) k_M_isTie 0 [vR 293, vI a1] [] σ _
  obtain ⟨K293, Q293, K294, N294⟩ := litM
  by_cases e : σ 294 (120 + 12 * a1.toNat) = 2
  · rw [gb_t (Or.inl e)]
    simp (disch := first | assumption | exact gb_01 _ | omega) only [r_M_isTie_0, r_M_isTie_1, r_M_isTie_2, r_M_isTie_5, r_M_isTie_6, r_M_isTie_9, r_M_isTie_10, r_M_isTie_11, r_M_isTie_14, r_M_isTie_15, r_M_isTie_18, r_M_isTie_19, r_M_isTie_22, r_M_isTie_23, Q293, w32_gb, w32i, tn_add, tn_mul, Int.toNat_natCast, Int.toNat_zero, Int.reduceLE, Int.reduceLT, Int.reduceEq, Int.reduceNe, gb_T, gb_F, Int.reduceToNat, eq_self, true_or, or_true, and_true, true_and, and_self, ↓ite_gb0, ↓ite_gbn, ↓if_pos, ↓if_neg, if_true, if_false, not_true_eq_false, not_false_eq_true, gb_ne0, gb_eq0]
  · by_cases e2 : σ 294 (120 + 12 * a1.toNat) = 3
    · rw [gb_t (Or.inr e2)]
      simp (disch := first | assumption | exact gb_01 _ | omega) only [r_M_isTie_0, r_M_isTie_1, r_M_isTie_2, r_M_isTie_5, r_M_isTie_6, r_M_isTie_9, r_M_isTie_10, r_M_isTie_11, r_M_isTie_14, r_M_isTie_15, r_M_isTie_18, r_M_isTie_19, r_M_isTie_22, r_M_isTie_23, Q293, w32_gb, w32i, tn_add, tn_mul, Int.toNat_natCast, Int.toNat_zero, Int.reduceLE, Int.reduceLT, Int.reduceEq, Int.reduceNe, gb_T, gb_F, Int.reduceToNat, eq_self, true_or, or_true, and_true, true_and, and_self, ↓ite_gb0, ↓ite_gbn, ↓if_pos, ↓if_neg, if_true, if_false, not_true_eq_false, not_false_eq_true, gb_ne0, gb_eq0]
    · rw [gb_f (by omega)]
      simp (disch := first | assumption | exact gb_01 _ | omega) only [r_M_isTie_0, r_M_isTie_1, r_M_isTie_2, r_M_isTie_5, r_M_isTie_6, r_M_isTie_9, r_M_isTie_10, r_M_isTie_11, r_M_isTie_14, r_M_isTie_15, r_M_isTie_18, r_M_isTie_19, r_M_isTie_22, r_M_isTie_23, Q293, w32_gb, w32i, tn_add, tn_mul, Int.toNat_natCast, Int.toNat_zero, Int.reduceLE, Int.reduceLT, Int.reduceEq, Int.reduceNe, gb_T, gb_F, Int.reduceToNat, eq_self, true_or, or_true, and_true, true_and, and_self, ↓ite_gb0, ↓ite_gbn, ↓if_pos, ↓if_neg, if_true, if_false, not_true_eq_false, not_false_eq_true, gb_ne0, gb_eq0]
theorem litR : gK 125 = 7 ∧ gq 125 0 = 126 ∧ gq 125 2 = 127 ∧ gq 125 3 = 128 ∧ gK 126 = 100 ∧ gK 127 = 100 ∧ gK 128 = 100 ∧ ((gN 126 : Nat) : Int) = 8 ∧ ((gN 127 : Nat) : Int) = 8 ∧ ((gN 128 : Nat) : Int) = 8 := by decide +kernel
/-- part p is among the first n that may be strapped -/
abbrev brme (f : Nat → Int) (p : Int) (n : Nat) : Prop := ∃ i : Nat, i < n ∧ f (920 + i) = p
theorem r_A_isMember_0 : Wp L d k_A_isMember 0 [l0, l1, l2] [] σ Q ↔ Wp L d k_A_isMember 1 [l0, l1, l2] [vI 0] σ Q := wp_push rfl
theorem r_A_isMember_1 : Wp L d k_A_isMember 1 [l0, vI a1, l2] [vI s0] σ Q ↔ Wp L d k_A_isMember 2 [l0, vI a1, vI s0] [] σ Q := wp_istore (i := 2) (ls := [l0, vI a1, l2]) rfl rfl
theorem r_A_isMember_2 : Wp L d k_A_isMember 2 [l0, l1, vI a2] [] σ Q ↔ Wp L d k_A_isMember 3 [l0, l1, vI a2] [vI a2] σ Q := wp_iload rfl rfl
theorem r_A_isMember_3 : Wp L d k_A_isMember 3 [vR b0, l1, l2] [vI s0] σ Q ↔ Wp L d k_A_isMember 4 [vR b0, l1, l2] [vR b0, vI s0] σ Q := wp_aload rfl rfl
theorem r_A_isMember_4 (h : gK c1 = 7) : Wp L d k_A_isMember 4 [l0, l1, l2] [vR c1, vI s0] σ Q ↔ Wp L d k_A_isMember 7 [l0, l1, l2] [vI (σ c1 1), vI s0] σ Q := wp_getI (c := 1793) rfl rfl rfl rfl h
theorem r_A_isMember_7 : Wp L d k_A_isMember 7 [l0, l1, l2] [vI s1, vI s0] σ Q ↔ (if s1 ≤ s0 then Wp L d k_A_isMember 28 [l0, l1, l2] [] σ Q else Wp L d k_A_isMember 10 [l0, l1, l2] [] σ Q) := wp_cmp_ge rfl
theorem r_A_isMember_10 : Wp L d k_A_isMember 10 [vR b0, l1, l2] [] σ Q ↔ Wp L d k_A_isMember 11 [vR b0, l1, l2] [vR b0] σ Q := wp_aload rfl rfl
theorem r_A_isMember_11 (h : gK c0 = 7) : Wp L d k_A_isMember 11 [l0, l1, l2] [vR c0] σ Q ↔ Wp L d k_A_isMember 14 [l0, l1, l2] [vR (gq c0 0)] σ Q := wp_getR (c := 1920) rfl rfl rfl rfl rfl h
theorem r_A_isMember_14 : Wp L d k_A_isMember 14 [l0, l1, vI a2] [vR c0] σ Q ↔ Wp L d k_A_isMember 15 [l0, l1, vI a2] [vI a2, vR c0] σ Q := wp_iload rfl rfl
theorem r_A_isMember_15 (h : gK c0 = 100) (hx : 0 ≤ s1 ∧ s1 < gN c0) : Wp L d k_A_isMember 15 [l0, l1, l2] [vI s1, vR c0] σ Q ↔ Wp L d k_A_isMember 16 [l0, l1, l2] [vI (σ c0 s1.toNat)] σ Q := wp_iald rfl h hx
theorem r_A_isMember_16 : Wp L d k_A_isMember 16 [l0, vI a1, l2] [vI s0] σ Q ↔ Wp L d k_A_isMember 17 [l0, vI a1, l2] [vI a1, vI s0] σ Q := wp_iload rfl rfl
theorem r_A_isMember_17 : Wp L d k_A_isMember 17 [l0, l1, l2] [vI s1, vI s0] σ Q ↔ (if s0 ≠ s1 then Wp L d k_A_isMember 22 [l0, l1, l2] [] σ Q else Wp L d k_A_isMember 20 [l0, l1, l2] [] σ Q) := wp_cmp_ne rfl
theorem r_A_isMember_20 : Wp L d k_A_isMember 20 [l0, l1, l2] [] σ Q ↔ Wp L d k_A_isMember 21 [l0, l1, l2] [vI 1] σ Q := wp_push rfl
theorem r_A_isMember_21 (h : s0 = 0 ∨ s0 = 1) : Wp L d k_A_isMember 21 [l0, l1, l2] [vI s0] σ Q ↔ Q (some (vI s0)) σ := wp_zret rfl h
theorem r_A_isMember_22 : Wp L d k_A_isMember 22 [l0, vI a1, vI a2] [] σ Q ↔ Wp L d k_A_isMember 25 [l0, vI a1, vI (w32 (a2 + 1))] [] σ Q := wp_iinc (i := 2) (ls := [l0, vI a1, vI a2]) rfl rfl
theorem r_A_isMember_25 : Wp L d k_A_isMember 25 [l0, l1, l2] [] σ Q ↔ Wp L d k_A_isMember 2 [l0, l1, l2] [] σ Q := wp_goto rfl
theorem r_A_isMember_28 : Wp L d k_A_isMember 28 [l0, l1, l2] [] σ Q ↔ Wp L d k_A_isMember 29 [l0, l1, l2] [vI 0] σ Q := wp_push rfl
theorem r_A_isMember_29 (h : s0 = 0 ∨ s0 = 1) : Wp L d k_A_isMember 29 [l0, l1, l2] [vI s0] σ Q ↔ Q (some (vI s0)) σ := wp_zret rfl h
theorem sp_A_isMember {f : Nat → Int} (hr : WR f) (hc : CR 125 f σ) : ∃ v : Int, Run L d 148 [vR 125, vI a1] σ (some (vI v)) σ ∧ ((v = 1 ∧ brme f a1 (f 6).toNat) ∨ (v = 0 ∧ ¬ brme f a1 (f 6).toNat)) := by
  have c1 := hc.1
  have w1 := hr.1
  by_cases e : brme f a1 (f 6).toNat
  · refine ⟨1, ?_, Or.inl ⟨rfl, e⟩⟩
    refine Run_of (C' := k_A_isMember) rfl ?_
    show Wp L d k_A_isMember 0 [vR 125, vI a1, vU] [] σ _
    obtain ⟨K125, r0, r2, r3, K126, K127, K128, N126, N127, N128⟩ := litR
    simp only [r_A_isMember_0, r_A_isMember_1, r_A_isMember_3, r_A_isMember_4, r_A_isMember_7, r_A_isMember_10, r_A_isMember_11, r_A_isMember_14, r_A_isMember_15, r_A_isMember_16, r_A_isMember_17, r_A_isMember_20, r_A_isMember_21, r_A_isMember_22, r_A_isMember_25, r_A_isMember_28, r_A_isMember_29]
    refine wloop (n := (f 6).toNat) (I := fun k ls τ => ls = [vR 125, vI a1, vI (k : Int)] ∧ τ = σ ∧ ¬ brme f a1 k) (fun k ls τ hk hi hq => ?_) (fun ls τ hi => ?_) (f 6).toNat 0 (by omega) _ _ ⟨rfl, rfl, fun x => by obtain ⟨i, hi, -⟩ := x; omega⟩
    · obtain ⟨rfl, rfl, hz⟩ := hi
      have c2 : τ 126 k = f (920 + k) := hc.2 k (by omega)
      rw [r_A_isMember_2]
      by_cases e2 : f (920 + k) = a1
      · simp (disch := first | assumption | exact gb_01 _ | omega) only [r_A_isMember_0, r_A_isMember_1, r_A_isMember_3, r_A_isMember_4, r_A_isMember_7, r_A_isMember_10, r_A_isMember_11, r_A_isMember_14, r_A_isMember_15, r_A_isMember_16, r_A_isMember_17, r_A_isMember_20, r_A_isMember_21, r_A_isMember_22, r_A_isMember_25, r_A_isMember_28, r_A_isMember_29, r0, r2, r3, w32_gb, w32i, tn_add, tn_mul, Int.toNat_natCast, Int.toNat_zero, Int.reduceLE, Int.reduceLT, Int.reduceEq, Int.reduceNe, gb_T, gb_F, Int.reduceToNat, eq_self, true_or, or_true, and_true, true_and, and_self, ↓ite_gb0, ↓ite_gbn, ↓if_pos, ↓if_neg, if_true, if_false, not_true_eq_false, not_false_eq_true, gb_ne0, gb_eq0]
      · simp (disch := first | assumption | exact gb_01 _ | omega) only [r_A_isMember_0, r_A_isMember_1, r_A_isMember_3, r_A_isMember_4, r_A_isMember_7, r_A_isMember_10, r_A_isMember_11, r_A_isMember_14, r_A_isMember_15, r_A_isMember_16, r_A_isMember_17, r_A_isMember_20, r_A_isMember_21, r_A_isMember_22, r_A_isMember_25, r_A_isMember_28, r_A_isMember_29, r0, r2, r3, w32_gb, w32i, tn_add, tn_mul, Int.toNat_natCast, Int.toNat_zero, Int.reduceLE, Int.reduceLT, Int.reduceEq, Int.reduceNe, gb_T, gb_F, Int.reduceToNat, eq_self, true_or, or_true, and_true, true_and, and_self, ↓ite_gb0, ↓ite_gbn, ↓if_pos, ↓if_neg, if_true, if_false, not_true_eq_false, not_false_eq_true, gb_ne0, gb_eq0]
        refine hq _ _ ⟨by simp only [List.cons.injEq, vI_inj, vR_inj, and_true, true_and]; omega, rfl, fun x => ?_⟩
        obtain ⟨i, hi, hx⟩ := x
        by_cases ei : i = k
        · rw [ei] at hx
          exact e2 hx
        · exact hz ⟨i, by omega, hx⟩
    · exact absurd e hi.2.2
  · refine ⟨0, ?_, Or.inr ⟨rfl, e⟩⟩
    refine Run_of (C' := k_A_isMember) rfl ?_
    show Wp L d k_A_isMember 0 [vR 125, vI a1, vU] [] σ _
    obtain ⟨K125, r0, r2, r3, K126, K127, K128, N126, N127, N128⟩ := litR
    simp only [r_A_isMember_0, r_A_isMember_1, r_A_isMember_3, r_A_isMember_4, r_A_isMember_7, r_A_isMember_10, r_A_isMember_11, r_A_isMember_14, r_A_isMember_15, r_A_isMember_16, r_A_isMember_17, r_A_isMember_20, r_A_isMember_21, r_A_isMember_22, r_A_isMember_25, r_A_isMember_28, r_A_isMember_29]
    refine wl (f 6).toNat (fun k => [vR 125, vI a1, vI (k : Int)]) (fun _ => σ) rfl rfl (fun k hk hq => ?_) ?_
    · have c2 : σ 126 k = f (920 + k) := hc.2 k (by omega)
      have e2 : ¬ f (920 + k) = a1 := fun x => e ⟨k, hk, x⟩
      rw [r_A_isMember_2]
      simp (disch := first | assumption | exact gb_01 _ | omega) only [r_A_isMember_0, r_A_isMember_1, r_A_isMember_3, r_A_isMember_4, r_A_isMember_7, r_A_isMember_10, r_A_isMember_11, r_A_isMember_14, r_A_isMember_15, r_A_isMember_16, r_A_isMember_17, r_A_isMember_20, r_A_isMember_21, r_A_isMember_22, r_A_isMember_25, r_A_isMember_28, r_A_isMember_29, r0, r2, r3, w32_gb, w32i, tn_add, tn_mul, Int.toNat_natCast, Int.toNat_zero, Int.reduceLE, Int.reduceLT, Int.reduceEq, Int.reduceNe, gb_T, gb_F, Int.reduceToNat, eq_self, true_or, or_true, and_true, true_and, and_self, ↓ite_gb0, ↓ite_gbn, ↓if_pos, ↓if_neg, if_true, if_false, not_true_eq_false, not_false_eq_true, gb_ne0, gb_eq0]
      exact hq _ _ (by simp only [List.cons.injEq, vI_inj, vR_inj, and_true, true_and]; omega) rfl
    · rw [r_A_isMember_2]
      simp (disch := first | assumption | exact gb_01 _ | omega) only [r_A_isMember_0, r_A_isMember_1, r_A_isMember_3, r_A_isMember_4, r_A_isMember_7, r_A_isMember_10, r_A_isMember_11, r_A_isMember_14, r_A_isMember_15, r_A_isMember_16, r_A_isMember_17, r_A_isMember_20, r_A_isMember_21, r_A_isMember_22, r_A_isMember_25, r_A_isMember_28, r_A_isMember_29, r0, r2, r3, w32_gb, w32i, tn_add, tn_mul, Int.toNat_natCast, Int.toNat_zero, Int.reduceLE, Int.reduceLT, Int.reduceEq, Int.reduceNe, gb_T, gb_F, Int.reduceToNat, eq_self, true_or, or_true, and_true, true_and, and_self, ↓ite_gb0, ↓ite_gbn, ↓if_pos, ↓if_neg, if_true, if_false, not_true_eq_false, not_false_eq_true, gb_ne0, gb_eq0]
theorem r_A_add_0 : Wp L d k_A_add 0 [vR b0, l1] [] σ Q ↔ Wp L d k_A_add 1 [vR b0, l1] [vR b0] σ Q := wp_aload rfl rfl
theorem r_A_add_1 (h : gK c0 = 7) : Wp L d k_A_add 1 [l0, l1] [vR c0] σ Q ↔ Wp L d k_A_add 4 [l0, l1] [vR (gq c0 0)] σ Q := wp_getR (c := 1920) rfl rfl rfl rfl rfl h
theorem r_A_add_4 : Wp L d k_A_add 4 [vR b0, l1] [vR c0] σ Q ↔ Wp L d k_A_add 5 [vR b0, l1] [vR b0, vR c0] σ Q := wp_aload rfl rfl
theorem r_A_add_5 (h : gK c1 = 7) : Wp L d k_A_add 5 [l0, l1] [vR c1, vR c0] σ Q ↔ Wp L d k_A_add 8 [l0, l1] [vI (σ c1 1), vR c0] σ Q := wp_getI (c := 1793) rfl rfl rfl rfl h
theorem r_A_add_8 : Wp L d k_A_add 8 [l0, vI a1] [vI s1, vR c0] σ Q ↔ Wp L d k_A_add 9 [l0, vI a1] [vI a1, vI s1, vR c0] σ Q := wp_iload rfl rfl
theorem r_A_add_9 (h : gK c0 = 100) (hx : 0 ≤ s1 ∧ s1 < gN c0) : Wp L d k_A_add 9 [l0, l1] [vI s2, vI s1, vR c0] σ Q ↔ Wp L d k_A_add 10 [l0, l1] [] (gupd σ c0 s1.toNat s2) Q := wp_iast rfl h hx
theorem r_A_add_10 : Wp L d k_A_add 10 [vR b0, l1] [] σ Q ↔ Wp L d k_A_add 11 [vR b0, l1] [vR b0] σ Q := wp_aload rfl rfl
theorem r_A_add_11 : Wp L d k_A_add 11 [l0, l1] [vR c0] σ Q ↔ Wp L d k_A_add 12 [l0, l1] [vR c0, vR c0] σ Q := wp_dupR rfl
theorem r_A_add_12 (h : gK c1 = 7) : Wp L d k_A_add 12 [l0, l1] [vR c1, vR c0] σ Q ↔ Wp L d k_A_add 15 [l0, l1] [vI (σ c1 1), vR c0] σ Q := wp_getI (c := 1793) rfl rfl rfl rfl h
theorem r_A_add_15 : Wp L d k_A_add 15 [l0, l1] [vI s1, vR c0] σ Q ↔ Wp L d k_A_add 16 [l0, l1] [vI 1, vI s1, vR c0] σ Q := wp_push rfl
theorem r_A_add_16 : Wp L d k_A_add 16 [l0, l1] [vI s2, vI s1, vR c0] σ Q ↔ Wp L d k_A_add 17 [l0, l1] [vI (w32 (s1 + s2)), vR c0] σ Q := wp_iadd rfl
theorem r_A_add_17 (h : gK c0 = 7) : Wp L d k_A_add 17 [l0, l1] [vI s1, vR c0] σ Q ↔ Wp L d k_A_add 20 [l0, l1] [] (gupd σ c0 1 s1) Q := wp_putI (c := 1793) rfl rfl rfl rfl h
theorem r_A_add_20 : Wp L d k_A_add 20 [vR b0, l1] [] σ Q ↔ Wp L d k_A_add 21 [vR b0, l1] [vR b0] σ Q := wp_aload rfl rfl
theorem r_A_add_21 (h : gK c0 = 7) : Wp L d k_A_add 21 [l0, l1] [vR c0] σ Q ↔ Wp L d k_A_add 24 [l0, l1] [vI (σ c0 1)] σ Q := wp_getI (c := 1793) rfl rfl rfl rfl h
theorem r_A_add_24 : Wp L d k_A_add 24 [l0, l1] [vI s0] σ Q ↔ Q (some (vI s0)) σ := wp_iret rfl
theorem sp_A_add (h : 0 ≤ σ 125 1 ∧ σ 125 1 < 8) : Run L d 149 [vR 125, vI a1] σ (some (vI (σ 125 1 + 1))) (gupd (gupd σ 126 (σ 125 1).toNat a1) 125 1 (σ 125 1 + 1)) := by
  refine Run_of (C' := k_A_add) rfl ?_
  show Wp L d k_A_add 0 [vR 125, vI a1] [] σ _
  obtain ⟨K125, r0, r2, r3, K126, K127, K128, N126, N127, N128⟩ := litR
  simp (disch := first | assumption | exact gb_01 _ | omega) only [r_A_add_0, r_A_add_1, r_A_add_4, r_A_add_5, r_A_add_8, r_A_add_9, r_A_add_10, r_A_add_11, r_A_add_12, r_A_add_15, r_A_add_16, r_A_add_17, r_A_add_20, r_A_add_21, r_A_add_24, r0, r2, r3, gupd_ne, gupd_eq, w32_gb, w32i, tn_add, tn_mul, Int.toNat_natCast, Int.toNat_zero, Int.reduceLE, Int.reduceLT, Int.reduceEq, Int.reduceNe, gb_T, gb_F, Int.reduceToNat, eq_self, true_or, or_true, and_true, true_and, and_self, ↓ite_gb0, ↓ite_gbn, ↓if_pos, ↓if_neg, if_true, if_false, not_true_eq_false, not_false_eq_true, gb_ne0, gb_eq0]
theorem r_X_strap_0 : Wp L d k_X_strap 0 [vR b0, l1] [] σ Q ↔ Wp L d k_X_strap 1 [vR b0, l1] [vR b0] σ Q := wp_aload rfl rfl
theorem r_X_strap_1 : Wp L d k_X_strap 1 [l0, vI a1] [vR c0] σ Q ↔ Wp L d k_X_strap 2 [l0, vI a1] [vI a1, vR c0] σ Q := wp_iload rfl rfl
theorem r_X_strap_5 : Wp L d k_X_strap 5 [l0, l1] [vI s0] σ Q ↔ (if s0 ≠ 0 then Wp L d k_X_strap 11 [l0, l1] [] σ Q else Wp L d k_X_strap 8 [l0, l1] [] σ Q) := wp_if_ne rfl
theorem r_X_strap_8 : Wp L d k_X_strap 8 [l0, l1] [] σ Q ↔ Wp L d k_X_strap 10 [l0, l1] [vI (-1000000001)] σ Q := wp_push rfl
theorem r_X_strap_10 : Wp L d k_X_strap 10 [l0, l1] [vI s0] σ Q ↔ Q (some (vI s0)) σ := wp_iret rfl
theorem r_X_strap_11 : Wp L d k_X_strap 11 [vR b0, l1] [] σ Q ↔ Wp L d k_X_strap 12 [vR b0, l1] [vR b0] σ Q := wp_aload rfl rfl
theorem r_X_strap_12 (h : gK c0 = 0) : Wp L d k_X_strap 12 [l0, l1] [vR c0] σ Q ↔ Wp L d k_X_strap 15 [l0, l1] [vR (gq c0 1)] σ Q := wp_getR (c := 129) rfl rfl rfl rfl rfl h
theorem r_X_strap_15 (h : gK c0 = 1) : Wp L d k_X_strap 15 [l0, l1] [vR c0] σ Q ↔ Wp L d k_X_strap 18 [l0, l1] [vR (gq c0 3)] σ Q := wp_getR (c := 387) rfl rfl rfl rfl rfl h
theorem r_X_strap_18 : Wp L d k_X_strap 18 [l0, vI a1] [vR c0] σ Q ↔ Wp L d k_X_strap 19 [l0, vI a1] [vI a1, vR c0] σ Q := wp_iload rfl rfl
theorem r_X_strap_19 (h : gK c0 = 102 ∨ gK c0 = 103) (hx : 0 ≤ s1 ∧ s1 < gN c0) : Wp L d k_X_strap 19 [l0, l1] [vI s1, vR c0] σ Q ↔ Wp L d k_X_strap 20 [l0, l1] [vR (gq c0 s1.toNat)] σ Q := wp_aald rfl h hx
theorem r_X_strap_20 : Wp L d k_X_strap 20 [l0, l1] [vR c0] σ Q ↔ Wp L d k_X_strap 21 [l0, l1] [vI 2, vR c0] σ Q := wp_push rfl
theorem r_X_strap_24 : Wp L d k_X_strap 24 [l0, l1] [vI s0] σ Q ↔ (if s0 ≠ 0 then Wp L d k_X_strap 30 [l0, l1] [] σ Q else Wp L d k_X_strap 27 [l0, l1] [] σ Q) := wp_if_ne rfl
theorem r_X_strap_27 : Wp L d k_X_strap 27 [l0, l1] [] σ Q ↔ Wp L d k_X_strap 29 [l0, l1] [vI (-1000000012)] σ Q := wp_push rfl
theorem r_X_strap_29 : Wp L d k_X_strap 29 [l0, l1] [vI s0] σ Q ↔ Q (some (vI s0)) σ := wp_iret rfl
theorem r_X_strap_30 : Wp L d k_X_strap 30 [vR b0, l1] [] σ Q ↔ Wp L d k_X_strap 31 [vR b0, l1] [vR b0] σ Q := wp_aload rfl rfl
theorem r_X_strap_31 (h : gK c0 = 0) : Wp L d k_X_strap 31 [l0, l1] [vR c0] σ Q ↔ Wp L d k_X_strap 34 [l0, l1] [vR (gq c0 0)] σ Q := wp_getR (c := 128) rfl rfl rfl rfl rfl h
theorem r_X_strap_34 (h : gK c0 = 5) : Wp L d k_X_strap 34 [l0, l1] [vR c0] σ Q ↔ Wp L d k_X_strap 37 [l0, l1] [vR (gq c0 6)] σ Q := wp_getR (c := 1414) rfl rfl rfl rfl rfl h
theorem r_X_strap_37 : Wp L d k_X_strap 37 [l0, vI a1] [vR c0] σ Q ↔ Wp L d k_X_strap 38 [l0, vI a1] [vI a1, vR c0] σ Q := wp_iload rfl rfl
theorem c_X_strap_38 (hR : Run L d 148 [vR c0, vI s1] σ r σ1) (h : gK c0 = 7) : Wp L (d + 1) k_X_strap 38 [l0, l1] [vI s1, vR c0] σ Q ↔ Wp L (d + 1) k_X_strap 41 [l0, l1] (r.toList ++ []) σ1 Q := wp_callR (as := [vR c0, vI s1]) (rest := []) rfl rfl rfl rfl rfl rfl rfl (grecv_k (by rw [h]) rfl) hR
theorem r_X_strap_41 : Wp L d k_X_strap 41 [l0, l1] [vI s0] σ Q ↔ (if s0 = 0 then Wp L d k_X_strap 47 [l0, l1] [] σ Q else Wp L d k_X_strap 44 [l0, l1] [] σ Q) := wp_if_eq rfl
theorem r_X_strap_44 : Wp L d k_X_strap 44 [l0, l1] [] σ Q ↔ Wp L d k_X_strap 46 [l0, l1] [vI (-1000000002)] σ Q := wp_push rfl
theorem r_X_strap_46 : Wp L d k_X_strap 46 [l0, l1] [vI s0] σ Q ↔ Q (some (vI s0)) σ := wp_iret rfl
theorem r_X_strap_47 : Wp L d k_X_strap 47 [vR b0, l1] [] σ Q ↔ Wp L d k_X_strap 48 [vR b0, l1] [vR b0] σ Q := wp_aload rfl rfl
theorem r_X_strap_48 (h : gK c0 = 0) : Wp L d k_X_strap 48 [l0, l1] [vR c0] σ Q ↔ Wp L d k_X_strap 51 [l0, l1] [vR (gq c0 0)] σ Q := wp_getR (c := 128) rfl rfl rfl rfl rfl h
theorem r_X_strap_51 (h : gK c0 = 5) : Wp L d k_X_strap 51 [l0, l1] [vR c0] σ Q ↔ Wp L d k_X_strap 54 [l0, l1] [vR (gq c0 6)] σ Q := wp_getR (c := 1414) rfl rfl rfl rfl rfl h
theorem r_X_strap_54 (h : gK c0 = 7) : Wp L d k_X_strap 54 [l0, l1] [vR c0] σ Q ↔ Wp L d k_X_strap 57 [l0, l1] [vI (σ c0 1)] σ Q := wp_getI (c := 1793) rfl rfl rfl rfl h
theorem r_X_strap_57 : Wp L d k_X_strap 57 [l0, l1] [vI s0] σ Q ↔ Wp L d k_X_strap 59 [l0, l1] [vI 8, vI s0] σ Q := wp_push rfl
theorem r_X_strap_59 : Wp L d k_X_strap 59 [l0, l1] [vI s1, vI s0] σ Q ↔ (if s1 ≤ s0 then Wp L d k_X_strap 76 [l0, l1] [] σ Q else Wp L d k_X_strap 62 [l0, l1] [] σ Q) := wp_cmp_ge rfl
theorem r_X_strap_62 : Wp L d k_X_strap 62 [vR b0, l1] [] σ Q ↔ Wp L d k_X_strap 63 [vR b0, l1] [vR b0] σ Q := wp_aload rfl rfl
theorem r_X_strap_63 (h : gK c0 = 0) : Wp L d k_X_strap 63 [l0, l1] [vR c0] σ Q ↔ Wp L d k_X_strap 66 [l0, l1] [vR (gq c0 0)] σ Q := wp_getR (c := 128) rfl rfl rfl rfl rfl h
theorem r_X_strap_66 (h : gK c0 = 5) : Wp L d k_X_strap 66 [l0, l1] [vR c0] σ Q ↔ Wp L d k_X_strap 69 [l0, l1] [vR (gq c0 6)] σ Q := wp_getR (c := 1414) rfl rfl rfl rfl rfl h
theorem r_X_strap_69 : Wp L d k_X_strap 69 [l0, vI a1] [vR c0] σ Q ↔ Wp L d k_X_strap 70 [l0, vI a1] [vI a1, vR c0] σ Q := wp_iload rfl rfl
theorem r_X_strap_73 : Wp L d k_X_strap 73 [l0, l1] [vI s0] σ Q ↔ Wp L d k_X_strap 78 [l0, l1] [vI s0] σ Q := wp_goto rfl
theorem r_X_strap_76 : Wp L d k_X_strap 76 [l0, l1] [] σ Q ↔ Wp L d k_X_strap 78 [l0, l1] [vI (-1000000003)] σ Q := wp_push rfl
theorem r_X_strap_78 : Wp L d k_X_strap 78 [l0, l1] [vI s0] σ Q ↔ Q (some (vI s0)) σ := wp_iret rfl
theorem r_X_strap_2 : Wp L (d + 2) k_X_strap 2 [l0, l1] [vI s1, vR 27] σ Q ↔ Wp L (d + 2) k_X_strap 5 [l0, l1] [vI (gb (0 ≤ s1 ∧ s1 ≤ w32 (σ 29 9 - 1)))] σ Q := wp_callR (d := d + 1) (as := [vR 27, vI s1]) (rest := []) rfl rfl rfl rfl rfl rfl rfl (grecv_k (by rw [gK_27]) rfl) (sp_X_isPart)
theorem r_X_strap_21 (hk : gK c0 = 4) : Wp L (d + 2) k_X_strap 21 [l0, l1] [vI s1, vR c0] σ Q ↔ Wp L (d + 2) k_X_strap 24 [l0, l1] [vI (gb (s1 = 0 ∨ s1 = σ c0 0 ∨ s1 = 2 ∧ σ c0 0 = 3))] σ Q := wp_callR (d := d + 1) (as := [vR c0, vI s1]) (rest := []) rfl rfl rfl rfl rfl rfl rfl (grecv_k (by rw [hk]) rfl) (sp_Q_isOf hk)
theorem r_X_strap_70 (h : 0 ≤ σ 125 1 ∧ σ 125 1 < 8) : Wp L (d + 2) k_X_strap 70 [l0, l1] [vI s1, vR 125] σ Q ↔ Wp L (d + 2) k_X_strap 73 [l0, l1] [vI (σ 125 1 + 1)] (gupd (gupd σ 126 (σ 125 1).toNat s1) 125 1 (σ 125 1 + 1)) Q := wp_callR (d := d + 1) (as := [vR 125, vI s1]) (rest := []) rfl rfl rfl rfl rfl rfl rfl (grecv_k (by rw [gK_125]) rfl) (sp_A_add h)
theorem sp_X_strap_b (hp : w32 (σ 29 9 - 1) = σ 29 9 - 1) (h : ¬ (0 ≤ a1 ∧ a1 ≤ σ 29 9 - 1)) : Run L (d + 2) 80 [vR 27, vI a1] σ (some (vI (-1000000001))) σ := by
  refine Run_of (C' := k_X_strap) rfl ?_
  show Wp L (d + 2) k_X_strap 0 [vR 27, vI a1] [] σ _
  obtain ⟨K27, K28, K29, K78, K97, K99, K109, K123, K125, K279, K282⟩ := litX
  simp (disch := first | assumption | exact gb_01 _ | omega) only [r_X_strap_0, r_X_strap_1, r_X_strap_2, r_X_strap_5, r_X_strap_8, r_X_strap_10, gq_27_0, gq_27_1, gq_27_2, gq_27_3, gq_27_4, gq_27_5, gq_27_6, gq_28_0, gq_28_1, gq_28_2, gq_28_3, gq_28_4, gq_28_5, gq_28_6, hp, w32_gb, w32i, tn_add, tn_mul, Int.toNat_natCast, Int.toNat_zero, Int.reduceLE, Int.reduceLT, Int.reduceEq, Int.reduceNe, gb_T, gb_F, Int.reduceToNat, eq_self, true_or, or_true, and_true, true_and, and_self, ↓ite_gb0, ↓ite_gbn, ↓if_pos, ↓if_neg, if_true, if_false, not_true_eq_false, not_false_eq_true, gb_ne0, gb_eq0]
theorem r_M_strap_0 : Wp L d k_M_strap 0 [vR b0, l1, l2] [] σ Q ↔ Wp L d k_M_strap 1 [vR b0, l1, l2] [vR b0] σ Q := wp_aload rfl rfl
theorem r_M_strap_1 : Wp L d k_M_strap 1 [l0, vI a1, l2] [vR c0] σ Q ↔ Wp L d k_M_strap 2 [l0, vI a1, l2] [vI a1, vR c0] σ Q := wp_iload rfl rfl
theorem r_M_strap_5 : Wp L d k_M_strap 5 [l0, l1, l2] [vI s0] σ Q ↔ (if s0 ≠ 0 then Wp L d k_M_strap 11 [l0, l1, l2] [] σ Q else Wp L d k_M_strap 8 [l0, l1, l2] [] σ Q) := wp_if_ne rfl
theorem r_M_strap_8 : Wp L d k_M_strap 8 [l0, l1, l2] [] σ Q ↔ Wp L d k_M_strap 10 [l0, l1, l2] [vI (-1000000001)] σ Q := wp_push rfl
theorem r_M_strap_10 : Wp L d k_M_strap 10 [l0, l1, l2] [vI s0] σ Q ↔ Q (some (vI s0)) σ := wp_iret rfl
theorem r_M_strap_11 : Wp L d k_M_strap 11 [vR b0, l1, l2] [] σ Q ↔ Wp L d k_M_strap 12 [vR b0, l1, l2] [vR b0] σ Q := wp_aload rfl rfl
theorem r_M_strap_12 : Wp L d k_M_strap 12 [l0, vI a1, l2] [vR c0] σ Q ↔ Wp L d k_M_strap 13 [l0, vI a1, l2] [vI a1, vR c0] σ Q := wp_iload rfl rfl
theorem r_M_strap_16 : Wp L d k_M_strap 16 [l0, l1, l2] [vI s0] σ Q ↔ (if s0 ≠ 0 then Wp L d k_M_strap 22 [l0, l1, l2] [] σ Q else Wp L d k_M_strap 19 [l0, l1, l2] [] σ Q) := wp_if_ne rfl
theorem r_M_strap_19 : Wp L d k_M_strap 19 [l0, l1, l2] [] σ Q ↔ Wp L d k_M_strap 21 [l0, l1, l2] [vI (-1000000012)] σ Q := wp_push rfl
theorem r_M_strap_21 : Wp L d k_M_strap 21 [l0, l1, l2] [vI s0] σ Q ↔ Q (some (vI s0)) σ := wp_iret rfl
theorem r_M_strap_22 : Wp L d k_M_strap 22 [l0, l1, l2] [] σ Q ↔ Wp L d k_M_strap 23 [l0, l1, l2] [vI 0] σ Q := wp_push rfl
theorem r_M_strap_23 : Wp L d k_M_strap 23 [l0, vI a1, l2] [vI s0] σ Q ↔ Wp L d k_M_strap 24 [l0, vI a1, vI s0] [] σ Q := wp_istore (i := 2) (ls := [l0, vI a1, l2]) rfl rfl
theorem r_M_strap_24 : Wp L d k_M_strap 24 [l0, l1, vI a2] [] σ Q ↔ Wp L d k_M_strap 25 [l0, l1, vI a2] [vI a2] σ Q := wp_iload rfl rfl
theorem r_M_strap_25 : Wp L d k_M_strap 25 [vR b0, l1, l2] [vI s0] σ Q ↔ Wp L d k_M_strap 26 [vR b0, l1, l2] [vR b0, vI s0] σ Q := wp_aload rfl rfl
theorem r_M_strap_26 (h : gK c1 = 12) : Wp L d k_M_strap 26 [l0, l1, l2] [vR c1, vI s0] σ Q ↔ Wp L d k_M_strap 29 [l0, l1, l2] [vR (gq c1 0), vI s0] σ Q := wp_getR (c := 3200) rfl rfl rfl rfl rfl h
theorem r_M_strap_29 : Wp L d k_M_strap 29 [l0, l1, l2] [vR c1, vI s0] σ Q ↔ Wp L d k_M_strap 31 [l0, l1, l2] [vI 6, vR c1, vI s0] σ Q := wp_push rfl
theorem r_M_strap_31 (h : gK c1 = 100) (hx : 0 ≤ s2 ∧ s2 < gN c1) : Wp L d k_M_strap 31 [l0, l1, l2] [vI s2, vR c1, vI s0] σ Q ↔ Wp L d k_M_strap 32 [l0, l1, l2] [vI (σ c1 s2.toNat), vI s0] σ Q := wp_iald rfl h hx
theorem r_M_strap_32 : Wp L d k_M_strap 32 [l0, l1, l2] [vI s1, vI s0] σ Q ↔ (if s1 ≤ s0 then Wp L d k_M_strap 58 [l0, l1, l2] [] σ Q else Wp L d k_M_strap 35 [l0, l1, l2] [] σ Q) := wp_cmp_ge rfl
theorem r_M_strap_35 : Wp L d k_M_strap 35 [vR b0, l1, l2] [] σ Q ↔ Wp L d k_M_strap 36 [vR b0, l1, l2] [vR b0] σ Q := wp_aload rfl rfl
theorem r_M_strap_36 (h : gK c0 = 12) : Wp L d k_M_strap 36 [l0, l1, l2] [vR c0] σ Q ↔ Wp L d k_M_strap 39 [l0, l1, l2] [vR (gq c0 0)] σ Q := wp_getR (c := 3200) rfl rfl rfl rfl rfl h
theorem r_M_strap_39 : Wp L d k_M_strap 39 [l0, l1, l2] [vR c0] σ Q ↔ Wp L d k_M_strap 42 [l0, l1, l2] [vI 920, vR c0] σ Q := wp_push rfl
theorem r_M_strap_42 : Wp L d k_M_strap 42 [l0, l1, vI a2] [vI s1, vR c0] σ Q ↔ Wp L d k_M_strap 43 [l0, l1, vI a2] [vI a2, vI s1, vR c0] σ Q := wp_iload rfl rfl
theorem r_M_strap_43 : Wp L d k_M_strap 43 [l0, l1, l2] [vI s2, vI s1, vR c0] σ Q ↔ Wp L d k_M_strap 44 [l0, l1, l2] [vI (w32 (s1 + s2)), vR c0] σ Q := wp_iadd rfl
theorem r_M_strap_44 (h : gK c0 = 100) (hx : 0 ≤ s1 ∧ s1 < gN c0) : Wp L d k_M_strap 44 [l0, l1, l2] [vI s1, vR c0] σ Q ↔ Wp L d k_M_strap 45 [l0, l1, l2] [vI (σ c0 s1.toNat)] σ Q := wp_iald rfl h hx
theorem r_M_strap_45 : Wp L d k_M_strap 45 [l0, vI a1, l2] [vI s0] σ Q ↔ Wp L d k_M_strap 46 [l0, vI a1, l2] [vI a1, vI s0] σ Q := wp_iload rfl rfl
theorem r_M_strap_46 : Wp L d k_M_strap 46 [l0, l1, l2] [vI s1, vI s0] σ Q ↔ (if s0 ≠ s1 then Wp L d k_M_strap 52 [l0, l1, l2] [] σ Q else Wp L d k_M_strap 49 [l0, l1, l2] [] σ Q) := wp_cmp_ne rfl
theorem r_M_strap_49 : Wp L d k_M_strap 49 [l0, l1, l2] [] σ Q ↔ Wp L d k_M_strap 51 [l0, l1, l2] [vI (-1000000002)] σ Q := wp_push rfl
theorem r_M_strap_51 : Wp L d k_M_strap 51 [l0, l1, l2] [vI s0] σ Q ↔ Q (some (vI s0)) σ := wp_iret rfl
theorem r_M_strap_52 : Wp L d k_M_strap 52 [l0, vI a1, vI a2] [] σ Q ↔ Wp L d k_M_strap 55 [l0, vI a1, vI (w32 (a2 + 1))] [] σ Q := wp_iinc (i := 2) (ls := [l0, vI a1, vI a2]) rfl rfl
theorem r_M_strap_55 : Wp L d k_M_strap 55 [l0, l1, l2] [] σ Q ↔ Wp L d k_M_strap 24 [l0, l1, l2] [] σ Q := wp_goto rfl
theorem r_M_strap_58 : Wp L d k_M_strap 58 [vR b0, l1, l2] [] σ Q ↔ Wp L d k_M_strap 59 [vR b0, l1, l2] [vR b0] σ Q := wp_aload rfl rfl
theorem r_M_strap_59 (h : gK c0 = 12) : Wp L d k_M_strap 59 [l0, l1, l2] [vR c0] σ Q ↔ Wp L d k_M_strap 62 [l0, l1, l2] [vR (gq c0 0)] σ Q := wp_getR (c := 3200) rfl rfl rfl rfl rfl h
theorem r_M_strap_62 : Wp L d k_M_strap 62 [l0, l1, l2] [vR c0] σ Q ↔ Wp L d k_M_strap 64 [l0, l1, l2] [vI 6, vR c0] σ Q := wp_push rfl
theorem r_M_strap_64 (h : gK c0 = 100) (hx : 0 ≤ s1 ∧ s1 < gN c0) : Wp L d k_M_strap 64 [l0, l1, l2] [vI s1, vR c0] σ Q ↔ Wp L d k_M_strap 65 [l0, l1, l2] [vI (σ c0 s1.toNat)] σ Q := wp_iald rfl h hx
theorem r_M_strap_65 : Wp L d k_M_strap 65 [l0, l1, l2] [vI s0] σ Q ↔ Wp L d k_M_strap 67 [l0, l1, l2] [vI 8, vI s0] σ Q := wp_push rfl
theorem r_M_strap_67 : Wp L d k_M_strap 67 [l0, l1, l2] [vI s1, vI s0] σ Q ↔ (if s0 ≠ s1 then Wp L d k_M_strap 73 [l0, l1, l2] [] σ Q else Wp L d k_M_strap 70 [l0, l1, l2] [] σ Q) := wp_cmp_ne rfl
theorem r_M_strap_70 : Wp L d k_M_strap 70 [l0, l1, l2] [] σ Q ↔ Wp L d k_M_strap 72 [l0, l1, l2] [vI (-1000000003)] σ Q := wp_push rfl
theorem r_M_strap_72 : Wp L d k_M_strap 72 [l0, l1, l2] [vI s0] σ Q ↔ Q (some (vI s0)) σ := wp_iret rfl
theorem r_M_strap_73 : Wp L d k_M_strap 73 [vR b0, l1, l2] [] σ Q ↔ Wp L d k_M_strap 74 [vR b0, l1, l2] [vR b0] σ Q := wp_aload rfl rfl
theorem r_M_strap_74 (h : gK c0 = 12) : Wp L d k_M_strap 74 [l0, l1, l2] [vR c0] σ Q ↔ Wp L d k_M_strap 77 [l0, l1, l2] [vR (gq c0 0)] σ Q := wp_getR (c := 3200) rfl rfl rfl rfl rfl h
theorem r_M_strap_77 : Wp L d k_M_strap 77 [l0, l1, l2] [vR c0] σ Q ↔ Wp L d k_M_strap 80 [l0, l1, l2] [vI 920, vR c0] σ Q := wp_push rfl
theorem r_M_strap_80 : Wp L d k_M_strap 80 [vR b0, l1, l2] [vI s1, vR c0] σ Q ↔ Wp L d k_M_strap 81 [vR b0, l1, l2] [vR b0, vI s1, vR c0] σ Q := wp_aload rfl rfl
theorem r_M_strap_81 (h : gK c2 = 12) : Wp L d k_M_strap 81 [l0, l1, l2] [vR c2, vI s1, vR c0] σ Q ↔ Wp L d k_M_strap 84 [l0, l1, l2] [vR (gq c2 0), vI s1, vR c0] σ Q := wp_getR (c := 3200) rfl rfl rfl rfl rfl h
theorem r_M_strap_84 : Wp L d k_M_strap 84 [l0, l1, l2] [vR c2, vI s1, vR c0] σ Q ↔ Wp L d k_M_strap 86 [l0, l1, l2] [vI 6, vR c2, vI s1, vR c0] σ Q := wp_push rfl
theorem r_M_strap_86 (h : gK c2 = 100) (hx : 0 ≤ s3 ∧ s3 < gN c2) : Wp L d k_M_strap 86 [l0, l1, l2] [vI s3, vR c2, vI s1, vR c0] σ Q ↔ Wp L d k_M_strap 87 [l0, l1, l2] [vI (σ c2 s3.toNat), vI s1, vR c0] σ Q := wp_iald rfl h hx
theorem r_M_strap_87 : Wp L d k_M_strap 87 [l0, l1, l2] [vI s2, vI s1, vR c0] σ Q ↔ Wp L d k_M_strap 88 [l0, l1, l2] [vI (w32 (s1 + s2)), vR c0] σ Q := wp_iadd rfl
theorem r_M_strap_88 : Wp L d k_M_strap 88 [l0, vI a1, l2] [vI s1, vR c0] σ Q ↔ Wp L d k_M_strap 89 [l0, vI a1, l2] [vI a1, vI s1, vR c0] σ Q := wp_iload rfl rfl
theorem r_M_strap_89 (h : gK c0 = 100) (hx : 0 ≤ s1 ∧ s1 < gN c0) : Wp L d k_M_strap 89 [l0, l1, l2] [vI s2, vI s1, vR c0] σ Q ↔ Wp L d k_M_strap 90 [l0, l1, l2] [] (gupd σ c0 s1.toNat s2) Q := wp_iast rfl h hx
theorem r_M_strap_90 : Wp L d k_M_strap 90 [vR b0, l1, l2] [] σ Q ↔ Wp L d k_M_strap 91 [vR b0, l1, l2] [vR b0] σ Q := wp_aload rfl rfl
theorem r_M_strap_91 (h : gK c0 = 12) : Wp L d k_M_strap 91 [l0, l1, l2] [vR c0] σ Q ↔ Wp L d k_M_strap 94 [l0, l1, l2] [vR (gq c0 0)] σ Q := wp_getR (c := 3200) rfl rfl rfl rfl rfl h
theorem r_M_strap_94 : Wp L d k_M_strap 94 [l0, l1, l2] [vR c0] σ Q ↔ Wp L d k_M_strap 96 [l0, l1, l2] [vI 6, vR c0] σ Q := wp_push rfl
theorem r_M_strap_96 : Wp L d k_M_strap 96 [l0, l1, l2] [vI s1, vR c0] σ Q ↔ Wp L d k_M_strap 97 [l0, l1, l2] [vI s1, vR c0, vI s1, vR c0] σ Q := wp_dup2 rfl
theorem r_M_strap_97 (h : gK c2 = 100) (hx : 0 ≤ s3 ∧ s3 < gN c2) : Wp L d k_M_strap 97 [l0, l1, l2] [vI s3, vR c2, vI s1, vR c0] σ Q ↔ Wp L d k_M_strap 98 [l0, l1, l2] [vI (σ c2 s3.toNat), vI s1, vR c0] σ Q := wp_iald rfl h hx
theorem r_M_strap_98 : Wp L d k_M_strap 98 [l0, l1, l2] [vI s2, vI s1, vR c0] σ Q ↔ Wp L d k_M_strap 99 [l0, l1, l2] [vI 1, vI s2, vI s1, vR c0] σ Q := wp_push rfl
theorem r_M_strap_99 : Wp L d k_M_strap 99 [l0, l1, l2] [vI s3, vI s2, vI s1, vR c0] σ Q ↔ Wp L d k_M_strap 100 [l0, l1, l2] [vI (w32 (s2 + s3)), vI s1, vR c0] σ Q := wp_iadd rfl
theorem r_M_strap_100 (h : gK c0 = 100) (hx : 0 ≤ s1 ∧ s1 < gN c0) : Wp L d k_M_strap 100 [l0, l1, l2] [vI s2, vI s1, vR c0] σ Q ↔ Wp L d k_M_strap 101 [l0, l1, l2] [] (gupd σ c0 s1.toNat s2) Q := wp_iast rfl h hx
theorem r_M_strap_101 : Wp L d k_M_strap 101 [vR b0, l1, l2] [] σ Q ↔ Wp L d k_M_strap 102 [vR b0, l1, l2] [vR b0] σ Q := wp_aload rfl rfl
theorem r_M_strap_102 (h : gK c0 = 12) : Wp L d k_M_strap 102 [l0, l1, l2] [vR c0] σ Q ↔ Wp L d k_M_strap 105 [l0, l1, l2] [vR (gq c0 0)] σ Q := wp_getR (c := 3200) rfl rfl rfl rfl rfl h
theorem r_M_strap_105 : Wp L d k_M_strap 105 [l0, l1, l2] [vR c0] σ Q ↔ Wp L d k_M_strap 107 [l0, l1, l2] [vI 6, vR c0] σ Q := wp_push rfl
theorem r_M_strap_107 (h : gK c0 = 100) (hx : 0 ≤ s1 ∧ s1 < gN c0) : Wp L d k_M_strap 107 [l0, l1, l2] [vI s1, vR c0] σ Q ↔ Wp L d k_M_strap 108 [l0, l1, l2] [vI (σ c0 s1.toNat)] σ Q := wp_iald rfl h hx
theorem r_M_strap_108 : Wp L d k_M_strap 108 [l0, l1, l2] [vI s0] σ Q ↔ Q (some (vI s0)) σ := wp_iret rfl
theorem r_M_strap_2 : Wp L (d + 3) k_M_strap 2 [l0, l1, l2] [vI s1, vR 293] σ Q ↔ Wp L (d + 3) k_M_strap 5 [l0, l1, l2] [vI (gb (0 ≤ s1 ∧ s1 ≤ w32 (σ 294 1 - 1)))] σ Q := wp_callR (d := d + 2) (as := [vR 293, vI s1]) (rest := []) rfl rfl rfl rfl rfl rfl rfl (grecv_k (by rw [gK_293]) rfl) (sp_M_isPart)
theorem r_M_strap_13 (h : 0 ≤ s1 ∧ s1 ≤ 40) : Wp L (d + 3) k_M_strap 13 [l0, l1, l2] [vI s1, vR 293] σ Q ↔ Wp L (d + 3) k_M_strap 16 [l0, l1, l2] [vI (gb (σ 294 (120 + 12 * s1.toNat) = 2 ∨ σ 294 (120 + 12 * s1.toNat) = 3))] σ Q := wp_callR (d := d + 2) (as := [vR 293, vI s1]) (rest := []) rfl rfl rfl rfl rfl rfl rfl (grecv_k (by rw [gK_293]) rfl) (sp_M_isTie h)
theorem sp_M_strap_b (hp : w32 (σ 294 1 - 1) = σ 294 1 - 1) (h : ¬ (0 ≤ a1 ∧ a1 ≤ σ 294 1 - 1)) : Run L (d + 3) 309 [vR 293, vI a1] σ (some (vI (-1000000001))) σ := by
  refine Run_of (C' := k_M_strap) rfl ?_
  show Wp L (d + 3) k_M_strap 0 [vR 293, vI a1, vU] [] σ _
  obtain ⟨K293, Q293, K294, N294⟩ := litM
  simp (disch := first | assumption | exact gb_01 _ | omega) only [r_M_strap_0, r_M_strap_1, r_M_strap_2, r_M_strap_5, r_M_strap_8, r_M_strap_10, Q293, hp, w32_gb, w32i, tn_add, tn_mul, Int.toNat_natCast, Int.toNat_zero, Int.reduceLE, Int.reduceLT, Int.reduceEq, Int.reduceNe, gb_T, gb_F, Int.reduceToNat, eq_self, true_or, or_true, and_true, true_and, and_self, ↓ite_gb0, ↓ite_gbn, ↓if_pos, ↓if_neg, if_true, if_false, not_true_eq_false, not_false_eq_true, gb_ne0, gb_eq0]
theorem sp_X_strap_k {f : Nat → Int} (hw : WB f) (hc : CB 29 f σ) (hr : WR f) (hcr : CR 125 f σ) (h : 0 ≤ a1 ∧ a1 ≤ f 1 - 1) (hk : ¬ (f (120 + 12 * a1.toNat) = 2 ∨ f (120 + 12 * a1.toNat) = 3)) : Run L (d + 2) 80 [vR 27, vI a1] σ (some (vI (-1000000012))) σ := by
  refine Run_of (C' := k_X_strap) rfl ?_
  show Wp L (d + 2) k_X_strap 0 [vR 27, vI a1] [] σ _
  obtain ⟨K27, K28, K29, K78, K97, K99, K109, K123, K125, K279, K282⟩ := litX
  have hB := BR29
  obtain ⟨⟨K0, q0, q1, q2, q3, q4, q5, q6, q7⟩, ⟨K1, K2, K3, K4, K5, K6, K7, K8⟩, ⟨N1, N2, N3, N4, N5, N6, N7, N8⟩, QP, KP⟩ := hB
  have w2 := hw.2.1
  have c2 := hc.2.1
  have q := CBp hc (p := a1.toNat) (by omega)
  have w := WBp hw (p := a1.toNat) (by omega)
  have kp := KP a1.toNat (by omega)
  have q3' : gq 33 a1.toNat = 38 + a1.toNat := QP _ (by omega)
  simp only [Nat.reduceAdd] at *
  have hk2 : ¬ (2 = f (120 + 12 * a1.toNat) ∨ f (120 + 12 * a1.toNat) = 3) := by omega
  simp (disch := first | assumption | exact gb_01 _ | omega) only [r_X_strap_0, r_X_strap_1, r_X_strap_2, r_X_strap_5, r_X_strap_8, r_X_strap_10, r_X_strap_11, r_X_strap_12, r_X_strap_15, r_X_strap_18, r_X_strap_19, r_X_strap_20, r_X_strap_21, r_X_strap_24, r_X_strap_27, r_X_strap_29, r_X_strap_30, r_X_strap_31, r_X_strap_34, r_X_strap_37, r_X_strap_41, r_X_strap_44, r_X_strap_46, r_X_strap_47, r_X_strap_48, r_X_strap_51, r_X_strap_54, r_X_strap_57, r_X_strap_59, r_X_strap_62, r_X_strap_63, r_X_strap_66, r_X_strap_69, r_X_strap_70, r_X_strap_73, r_X_strap_76, r_X_strap_78, hk2, false_or, Option.toList, List.singleton_append, List.cons_append, List.nil_append, List.append_nil, gq_27_0, gq_27_1, gq_27_2, gq_27_3, gq_27_4, gq_27_5, gq_27_6, gq_28_0, gq_28_1, gq_28_2, gq_28_3, gq_28_4, gq_28_5, gq_28_6, gq_29_3, q3', q, w32_gb, w32i, tn_add, tn_mul, Int.toNat_natCast, Int.toNat_zero, Int.reduceLE, Int.reduceLT, Int.reduceEq, Int.reduceNe, gb_T, gb_F, Int.reduceToNat, eq_self, true_or, or_true, and_true, true_and, and_self, ↓ite_gb0, ↓ite_gbn, ↓if_pos, ↓if_neg, if_true, if_false, not_true_eq_false, not_false_eq_true, gb_ne0, gb_eq0]
theorem sp_X_strap_m {f : Nat → Int} (hw : WB f) (hc : CB 29 f σ) (hr : WR f) (hcr : CR 125 f σ) (h : 0 ≤ a1 ∧ a1 ≤ f 1 - 1) (hk : f (120 + 12 * a1.toNat) = 2 ∨ f (120 + 12 * a1.toNat) = 3) (hm : brme f a1 (f 6).toNat) : Run L (d + 2) 80 [vR 27, vI a1] σ (some (vI (-1000000002))) σ := by
  refine Run_of (C' := k_X_strap) rfl ?_
  show Wp L (d + 2) k_X_strap 0 [vR 27, vI a1] [] σ _
  obtain ⟨K27, K28, K29, K78, K97, K99, K109, K123, K125, K279, K282⟩ := litX
  have hB := BR29
  obtain ⟨⟨K0, q0, q1, q2, q3, q4, q5, q6, q7⟩, ⟨K1, K2, K3, K4, K5, K6, K7, K8⟩, ⟨N1, N2, N3, N4, N5, N6, N7, N8⟩, QP, KP⟩ := hB
  have w2 := hw.2.1
  have c2 := hc.2.1
  have q := CBp hc (p := a1.toNat) (by omega)
  have w := WBp hw (p := a1.toNat) (by omega)
  have kp := KP a1.toNat (by omega)
  have q3' : gq 33 a1.toNat = 38 + a1.toNat := QP _ (by omega)
  simp only [Nat.reduceAdd] at *
  obtain ⟨v, hR, hv⟩ := sp_A_isMember (L := L) (d := d + 1) (a1 := a1) hr hcr
  have v1 : v = 1 := by rcases hv with x | x; exact x.1; exact absurd hm x.2
  simp (disch := first | assumption | exact gb_01 _ | omega) only [r_X_strap_0, r_X_strap_1, r_X_strap_2, r_X_strap_5, r_X_strap_8, r_X_strap_10, r_X_strap_11, r_X_strap_12, r_X_strap_15, r_X_strap_18, r_X_strap_19, r_X_strap_20, r_X_strap_21, r_X_strap_24, r_X_strap_27, r_X_strap_29, r_X_strap_30, r_X_strap_31, r_X_strap_34, r_X_strap_37, r_X_strap_41, r_X_strap_44, r_X_strap_46, r_X_strap_47, r_X_strap_48, r_X_strap_51, r_X_strap_54, r_X_strap_57, r_X_strap_59, r_X_strap_62, r_X_strap_63, r_X_strap_66, r_X_strap_69, r_X_strap_70, r_X_strap_73, r_X_strap_76, r_X_strap_78, c_X_strap_38 hR, Option.toList, List.singleton_append, List.cons_append, List.nil_append, List.append_nil, gq_27_0, gq_27_1, gq_27_2, gq_27_3, gq_27_4, gq_27_5, gq_27_6, gq_28_0, gq_28_1, gq_28_2, gq_28_3, gq_28_4, gq_28_5, gq_28_6, gq_29_3, q3', q, w32_gb, w32i, tn_add, tn_mul, Int.toNat_natCast, Int.toNat_zero, Int.reduceLE, Int.reduceLT, Int.reduceEq, Int.reduceNe, gb_T, gb_F, Int.reduceToNat, eq_self, true_or, or_true, and_true, true_and, and_self, ↓ite_gb0, ↓ite_gbn, ↓if_pos, ↓if_neg, if_true, if_false, not_true_eq_false, not_false_eq_true, gb_ne0, gb_eq0]
theorem sp_X_strap_f {f : Nat → Int} (hw : WB f) (hc : CB 29 f σ) (hr : WR f) (hcr : CR 125 f σ) (h : 0 ≤ a1 ∧ a1 ≤ f 1 - 1) (hk : f (120 + 12 * a1.toNat) = 2 ∨ f (120 + 12 * a1.toNat) = 3) (hm : ¬ brme f a1 (f 6).toNat) (hn : ¬ f 6 < 8) : Run L (d + 2) 80 [vR 27, vI a1] σ (some (vI (-1000000003))) σ := by
  refine Run_of (C' := k_X_strap) rfl ?_
  show Wp L (d + 2) k_X_strap 0 [vR 27, vI a1] [] σ _
  obtain ⟨K27, K28, K29, K78, K97, K99, K109, K123, K125, K279, K282⟩ := litX
  have hB := BR29
  obtain ⟨⟨K0, q0, q1, q2, q3, q4, q5, q6, q7⟩, ⟨K1, K2, K3, K4, K5, K6, K7, K8⟩, ⟨N1, N2, N3, N4, N5, N6, N7, N8⟩, QP, KP⟩ := hB
  have w2 := hw.2.1
  have c2 := hc.2.1
  have q := CBp hc (p := a1.toNat) (by omega)
  have w := WBp hw (p := a1.toNat) (by omega)
  have kp := KP a1.toNat (by omega)
  have q3' : gq 33 a1.toNat = 38 + a1.toNat := QP _ (by omega)
  simp only [Nat.reduceAdd] at *
  obtain ⟨v, hR, hv⟩ := sp_A_isMember (L := L) (d := d + 1) (a1 := a1) hr hcr
  have v1 : v = 0 := by rcases hv with x | x; exact absurd x.2 hm; exact x.1
  have c6 := hcr.1
  simp (disch := first | assumption | exact gb_01 _ | omega) only [r_X_strap_0, r_X_strap_1, r_X_strap_2, r_X_strap_5, r_X_strap_8, r_X_strap_10, r_X_strap_11, r_X_strap_12, r_X_strap_15, r_X_strap_18, r_X_strap_19, r_X_strap_20, r_X_strap_21, r_X_strap_24, r_X_strap_27, r_X_strap_29, r_X_strap_30, r_X_strap_31, r_X_strap_34, r_X_strap_37, r_X_strap_41, r_X_strap_44, r_X_strap_46, r_X_strap_47, r_X_strap_48, r_X_strap_51, r_X_strap_54, r_X_strap_57, r_X_strap_59, r_X_strap_62, r_X_strap_63, r_X_strap_66, r_X_strap_69, r_X_strap_70, r_X_strap_73, r_X_strap_76, r_X_strap_78, c_X_strap_38 hR, Option.toList, List.singleton_append, List.cons_append, List.nil_append, List.append_nil, gq_27_0, gq_27_1, gq_27_2, gq_27_3, gq_27_4, gq_27_5, gq_27_6, gq_28_0, gq_28_1, gq_28_2, gq_28_3, gq_28_4, gq_28_5, gq_28_6, gq_29_3, q3', q, w32_gb, w32i, tn_add, tn_mul, Int.toNat_natCast, Int.toNat_zero, Int.reduceLE, Int.reduceLT, Int.reduceEq, Int.reduceNe, gb_T, gb_F, Int.reduceToNat, eq_self, true_or, or_true, and_true, true_and, and_self, ↓ite_gb0, ↓ite_gbn, ↓if_pos, ↓if_neg, if_true, if_false, not_true_eq_false, not_false_eq_true, gb_ne0, gb_eq0]
theorem sp_X_strap {f : Nat → Int} (hw : WB f) (hc : CB 29 f σ) (hr : WR f) (hcr : CR 125 f σ) (h : 0 ≤ a1 ∧ a1 ≤ f 1 - 1) (hk : f (120 + 12 * a1.toNat) = 2 ∨ f (120 + 12 * a1.toNat) = 3) (hm : ¬ brme f a1 (f 6).toNat) (hn : f 6 < 8) : Run L (d + 2) 80 [vR 27, vI a1] σ (some (vI (f 6 + 1))) (gupd (gupd σ 126 (f 6).toNat a1) 125 1 (f 6 + 1)) := by
  refine Run_of (C' := k_X_strap) rfl ?_
  show Wp L (d + 2) k_X_strap 0 [vR 27, vI a1] [] σ _
  obtain ⟨K27, K28, K29, K78, K97, K99, K109, K123, K125, K279, K282⟩ := litX
  have hB := BR29
  obtain ⟨⟨K0, q0, q1, q2, q3, q4, q5, q6, q7⟩, ⟨K1, K2, K3, K4, K5, K6, K7, K8⟩, ⟨N1, N2, N3, N4, N5, N6, N7, N8⟩, QP, KP⟩ := hB
  have w2 := hw.2.1
  have c2 := hc.2.1
  have q := CBp hc (p := a1.toNat) (by omega)
  have w := WBp hw (p := a1.toNat) (by omega)
  have kp := KP a1.toNat (by omega)
  have q3' : gq 33 a1.toNat = 38 + a1.toNat := QP _ (by omega)
  simp only [Nat.reduceAdd] at *
  obtain ⟨v, hR, hv⟩ := sp_A_isMember (L := L) (d := d + 1) (a1 := a1) hr hcr
  have v1 : v = 0 := by rcases hv with x | x; exact absurd x.2 hm; exact x.1
  have c6 := hcr.1
  have w6 := hr.1
  rw [← c6] at hn w6 ⊢
  simp (disch := first | assumption | exact gb_01 _ | omega) only [r_X_strap_0, r_X_strap_1, r_X_strap_2, r_X_strap_5, r_X_strap_8, r_X_strap_10, r_X_strap_11, r_X_strap_12, r_X_strap_15, r_X_strap_18, r_X_strap_19, r_X_strap_20, r_X_strap_21, r_X_strap_24, r_X_strap_27, r_X_strap_29, r_X_strap_30, r_X_strap_31, r_X_strap_34, r_X_strap_37, r_X_strap_41, r_X_strap_44, r_X_strap_46, r_X_strap_47, r_X_strap_48, r_X_strap_51, r_X_strap_54, r_X_strap_57, r_X_strap_59, r_X_strap_62, r_X_strap_63, r_X_strap_66, r_X_strap_69, r_X_strap_70, r_X_strap_73, r_X_strap_76, r_X_strap_78, c_X_strap_38 hR, Option.toList, List.singleton_append, List.cons_append, List.nil_append, List.append_nil, gq_27_0, gq_27_1, gq_27_2, gq_27_3, gq_27_4, gq_27_5, gq_27_6, gq_28_0, gq_28_1, gq_28_2, gq_28_3, gq_28_4, gq_28_5, gq_28_6, gq_29_3, q3', q, w32_gb, w32i, tn_add, tn_mul, Int.toNat_natCast, Int.toNat_zero, Int.reduceLE, Int.reduceLT, Int.reduceEq, Int.reduceNe, gb_T, gb_F, Int.reduceToNat, eq_self, true_or, or_true, and_true, true_and, and_self, ↓ite_gb0, ↓ite_gbn, ↓if_pos, ↓if_neg, if_true, if_false, not_true_eq_false, not_false_eq_true, gb_ne0, gb_eq0]
theorem sp_M_strap_k (hw : WB (σ 294)) (hr : WR (σ 294)) (h : 0 ≤ a1 ∧ a1 ≤ σ 294 1 - 1) (hk : ¬ (σ 294 (120 + 12 * a1.toNat) = 2 ∨ σ 294 (120 + 12 * a1.toNat) = 3)) : Run L (d + 3) 309 [vR 293, vI a1] σ (some (vI (-1000000012))) σ := by
  refine Run_of (C' := k_M_strap) rfl ?_
  show Wp L (d + 3) k_M_strap 0 [vR 293, vI a1, vU] [] σ _
  obtain ⟨K293, Q293, K294, N294⟩ := litM
  have w1 := hw.1
  have w2 := hw.2.1
  have w6 := hr.1
  have hp : w32 (σ 294 1 - 1) = σ 294 1 - 1 := w32i (by omega)
  simp (disch := first | assumption | exact gb_01 _ | omega) only [r_M_strap_0, r_M_strap_1, r_M_strap_2, r_M_strap_5, r_M_strap_8, r_M_strap_10, r_M_strap_11, r_M_strap_12, r_M_strap_13, r_M_strap_16, r_M_strap_19, r_M_strap_21, r_M_strap_22, r_M_strap_23, r_M_strap_25, r_M_strap_26, r_M_strap_29, r_M_strap_31, r_M_strap_32, r_M_strap_35, r_M_strap_36, r_M_strap_39, r_M_strap_42, r_M_strap_43, r_M_strap_44, r_M_strap_45, r_M_strap_46, r_M_strap_49, r_M_strap_51, r_M_strap_52, r_M_strap_55, r_M_strap_58, r_M_strap_59, r_M_strap_62, r_M_strap_64, r_M_strap_65, r_M_strap_67, r_M_strap_70, r_M_strap_72, r_M_strap_73, r_M_strap_74, r_M_strap_77, r_M_strap_80, r_M_strap_81, r_M_strap_84, r_M_strap_86, r_M_strap_87, r_M_strap_88, r_M_strap_89, r_M_strap_90, r_M_strap_91, r_M_strap_94, r_M_strap_96, r_M_strap_97, r_M_strap_98, r_M_strap_99, r_M_strap_100, r_M_strap_101, r_M_strap_102, r_M_strap_105, r_M_strap_107, r_M_strap_108, Q293, hp, gupd_ne, gupd_eq, w32_gb, w32i, tn_add, tn_mul, Int.toNat_natCast, Int.toNat_zero, Int.reduceLE, Int.reduceLT, Int.reduceEq, Int.reduceNe, gb_T, gb_F, Int.reduceToNat, eq_self, true_or, or_true, and_true, true_and, and_self, ↓ite_gb0, ↓ite_gbn, ↓if_pos, ↓if_neg, if_true, if_false, not_true_eq_false, not_false_eq_true, gb_ne0, gb_eq0]
theorem sp_M_strap_m (hw : WB (σ 294)) (hr : WR (σ 294)) (h : 0 ≤ a1 ∧ a1 ≤ σ 294 1 - 1) (hk : σ 294 (120 + 12 * a1.toNat) = 2 ∨ σ 294 (120 + 12 * a1.toNat) = 3) (hm : brme (σ 294) a1 (σ 294 6).toNat) : Run L (d + 3) 309 [vR 293, vI a1] σ (some (vI (-1000000002))) σ := by
  refine Run_of (C' := k_M_strap) rfl ?_
  show Wp L (d + 3) k_M_strap 0 [vR 293, vI a1, vU] [] σ _
  obtain ⟨K293, Q293, K294, N294⟩ := litM
  have w1 := hw.1
  have w2 := hw.2.1
  have w6 := hr.1
  have hp : w32 (σ 294 1 - 1) = σ 294 1 - 1 := w32i (by omega)
  simp (disch := first | assumption | exact gb_01 _ | omega) only [r_M_strap_0, r_M_strap_1, r_M_strap_2, r_M_strap_5, r_M_strap_8, r_M_strap_10, r_M_strap_11, r_M_strap_12, r_M_strap_13, r_M_strap_16, r_M_strap_19, r_M_strap_21, r_M_strap_22, r_M_strap_23, r_M_strap_25, r_M_strap_26, r_M_strap_29, r_M_strap_31, r_M_strap_32, r_M_strap_35, r_M_strap_36, r_M_strap_39, r_M_strap_42, r_M_strap_43, r_M_strap_44, r_M_strap_45, r_M_strap_46, r_M_strap_49, r_M_strap_51, r_M_strap_52, r_M_strap_55, r_M_strap_58, r_M_strap_59, r_M_strap_62, r_M_strap_64, r_M_strap_65, r_M_strap_67, r_M_strap_70, r_M_strap_72, r_M_strap_73, r_M_strap_74, r_M_strap_77, r_M_strap_80, r_M_strap_81, r_M_strap_84, r_M_strap_86, r_M_strap_87, r_M_strap_88, r_M_strap_89, r_M_strap_90, r_M_strap_91, r_M_strap_94, r_M_strap_96, r_M_strap_97, r_M_strap_98, r_M_strap_99, r_M_strap_100, r_M_strap_101, r_M_strap_102, r_M_strap_105, r_M_strap_107, r_M_strap_108, Q293, hp, gupd_ne, gupd_eq, w32_gb, w32i, tn_add, tn_mul, Int.toNat_natCast, Int.toNat_zero, Int.reduceLE, Int.reduceLT, Int.reduceEq, Int.reduceNe, gb_T, gb_F, Int.reduceToNat, eq_self, true_or, or_true, and_true, true_and, and_self, ↓ite_gb0, ↓ite_gbn, ↓if_pos, ↓if_neg, if_true, if_false, not_true_eq_false, not_false_eq_true, gb_ne0, gb_eq0]
  refine wloop (n := (σ 294 6).toNat) (I := fun k ls τ => ls = [vR 293, vI a1, vI (k : Int)] ∧ τ = σ ∧ ¬ brme (σ 294) a1 k) (fun k ls τ hk hi hq => ?_) (fun ls τ hi => ?_) (σ 294 6).toNat 0 (by omega) _ _ ⟨rfl, rfl, fun x => by obtain ⟨i, hi, -⟩ := x; omega⟩
  · obtain ⟨rfl, rfl, hz⟩ := hi
    rw [r_M_strap_24]
    by_cases e2 : τ 294 (920 + k) = a1
    · simp (disch := first | assumption | exact gb_01 _ | omega) only [r_M_strap_0, r_M_strap_1, r_M_strap_2, r_M_strap_5, r_M_strap_8, r_M_strap_10, r_M_strap_11, r_M_strap_12, r_M_strap_13, r_M_strap_16, r_M_strap_19, r_M_strap_21, r_M_strap_22, r_M_strap_23, r_M_strap_25, r_M_strap_26, r_M_strap_29, r_M_strap_31, r_M_strap_32, r_M_strap_35, r_M_strap_36, r_M_strap_39, r_M_strap_42, r_M_strap_43, r_M_strap_44, r_M_strap_45, r_M_strap_46, r_M_strap_49, r_M_strap_51, r_M_strap_52, r_M_strap_55, r_M_strap_58, r_M_strap_59, r_M_strap_62, r_M_strap_64, r_M_strap_65, r_M_strap_67, r_M_strap_70, r_M_strap_72, r_M_strap_73, r_M_strap_74, r_M_strap_77, r_M_strap_80, r_M_strap_81, r_M_strap_84, r_M_strap_86, r_M_strap_87, r_M_strap_88, r_M_strap_89, r_M_strap_90, r_M_strap_91, r_M_strap_94, r_M_strap_96, r_M_strap_97, r_M_strap_98, r_M_strap_99, r_M_strap_100, r_M_strap_101, r_M_strap_102, r_M_strap_105, r_M_strap_107, r_M_strap_108, Q293, hp, gupd_ne, gupd_eq, w32_gb, w32i, tn_add, tn_mul, Int.toNat_natCast, Int.toNat_zero, Int.reduceLE, Int.reduceLT, Int.reduceEq, Int.reduceNe, gb_T, gb_F, Int.reduceToNat, eq_self, true_or, or_true, and_true, true_and, and_self, ↓ite_gb0, ↓ite_gbn, ↓if_pos, ↓if_neg, if_true, if_false, not_true_eq_false, not_false_eq_true, gb_ne0, gb_eq0]
    · simp (disch := first | assumption | exact gb_01 _ | omega) only [r_M_strap_0, r_M_strap_1, r_M_strap_2, r_M_strap_5, r_M_strap_8, r_M_strap_10, r_M_strap_11, r_M_strap_12, r_M_strap_13, r_M_strap_16, r_M_strap_19, r_M_strap_21, r_M_strap_22, r_M_strap_23, r_M_strap_25, r_M_strap_26, r_M_strap_29, r_M_strap_31, r_M_strap_32, r_M_strap_35, r_M_strap_36, r_M_strap_39, r_M_strap_42, r_M_strap_43, r_M_strap_44, r_M_strap_45, r_M_strap_46, r_M_strap_49, r_M_strap_51, r_M_strap_52, r_M_strap_55, r_M_strap_58, r_M_strap_59, r_M_strap_62, r_M_strap_64, r_M_strap_65, r_M_strap_67, r_M_strap_70, r_M_strap_72, r_M_strap_73, r_M_strap_74, r_M_strap_77, r_M_strap_80, r_M_strap_81, r_M_strap_84, r_M_strap_86, r_M_strap_87, r_M_strap_88, r_M_strap_89, r_M_strap_90, r_M_strap_91, r_M_strap_94, r_M_strap_96, r_M_strap_97, r_M_strap_98, r_M_strap_99, r_M_strap_100, r_M_strap_101, r_M_strap_102, r_M_strap_105, r_M_strap_107, r_M_strap_108, Q293, hp, gupd_ne, gupd_eq, w32_gb, w32i, tn_add, tn_mul, Int.toNat_natCast, Int.toNat_zero, Int.reduceLE, Int.reduceLT, Int.reduceEq, Int.reduceNe, gb_T, gb_F, Int.reduceToNat, eq_self, true_or, or_true, and_true, true_and, and_self, ↓ite_gb0, ↓ite_gbn, ↓if_pos, ↓if_neg, if_true, if_false, not_true_eq_false, not_false_eq_true, gb_ne0, gb_eq0]
      refine hq _ _ ⟨by simp only [List.cons.injEq, vI_inj, vR_inj, and_true, true_and]; omega, rfl, fun x => ?_⟩
      obtain ⟨i, hi, hx⟩ := x
      by_cases ei : i = k
      · rw [ei] at hx
        exact e2 hx
      · exact hz ⟨i, by omega, hx⟩
  · exact absurd hm hi.2.2
theorem sp_M_strap_f (hw : WB (σ 294)) (hr : WR (σ 294)) (h : 0 ≤ a1 ∧ a1 ≤ σ 294 1 - 1) (hk : σ 294 (120 + 12 * a1.toNat) = 2 ∨ σ 294 (120 + 12 * a1.toNat) = 3) (hm : ¬ brme (σ 294) a1 (σ 294 6).toNat) (hn : ¬ σ 294 6 < 8) : Run L (d + 3) 309 [vR 293, vI a1] σ (some (vI (-1000000003))) σ := by
  refine Run_of (C' := k_M_strap) rfl ?_
  show Wp L (d + 3) k_M_strap 0 [vR 293, vI a1, vU] [] σ _
  obtain ⟨K293, Q293, K294, N294⟩ := litM
  have w1 := hw.1
  have w2 := hw.2.1
  have w6 := hr.1
  have hp : w32 (σ 294 1 - 1) = σ 294 1 - 1 := w32i (by omega)
  simp (disch := first | assumption | exact gb_01 _ | omega) only [r_M_strap_0, r_M_strap_1, r_M_strap_2, r_M_strap_5, r_M_strap_8, r_M_strap_10, r_M_strap_11, r_M_strap_12, r_M_strap_13, r_M_strap_16, r_M_strap_19, r_M_strap_21, r_M_strap_22, r_M_strap_23, r_M_strap_25, r_M_strap_26, r_M_strap_29, r_M_strap_31, r_M_strap_32, r_M_strap_35, r_M_strap_36, r_M_strap_39, r_M_strap_42, r_M_strap_43, r_M_strap_44, r_M_strap_45, r_M_strap_46, r_M_strap_49, r_M_strap_51, r_M_strap_52, r_M_strap_55, r_M_strap_58, r_M_strap_59, r_M_strap_62, r_M_strap_64, r_M_strap_65, r_M_strap_67, r_M_strap_70, r_M_strap_72, r_M_strap_73, r_M_strap_74, r_M_strap_77, r_M_strap_80, r_M_strap_81, r_M_strap_84, r_M_strap_86, r_M_strap_87, r_M_strap_88, r_M_strap_89, r_M_strap_90, r_M_strap_91, r_M_strap_94, r_M_strap_96, r_M_strap_97, r_M_strap_98, r_M_strap_99, r_M_strap_100, r_M_strap_101, r_M_strap_102, r_M_strap_105, r_M_strap_107, r_M_strap_108, Q293, hp, gupd_ne, gupd_eq, w32_gb, w32i, tn_add, tn_mul, Int.toNat_natCast, Int.toNat_zero, Int.reduceLE, Int.reduceLT, Int.reduceEq, Int.reduceNe, gb_T, gb_F, Int.reduceToNat, eq_self, true_or, or_true, and_true, true_and, and_self, ↓ite_gb0, ↓ite_gbn, ↓if_pos, ↓if_neg, if_true, if_false, not_true_eq_false, not_false_eq_true, gb_ne0, gb_eq0]
  refine wl (σ 294 6).toNat (fun k => [vR 293, vI a1, vI (k : Int)]) (fun _ => σ) rfl rfl (fun k hk hq => ?_) ?_
  · have e2 : ¬ σ 294 (920 + k) = a1 := fun x => hm ⟨k, hk, x⟩
    rw [r_M_strap_24]
    simp (disch := first | assumption | exact gb_01 _ | omega) only [r_M_strap_0, r_M_strap_1, r_M_strap_2, r_M_strap_5, r_M_strap_8, r_M_strap_10, r_M_strap_11, r_M_strap_12, r_M_strap_13, r_M_strap_16, r_M_strap_19, r_M_strap_21, r_M_strap_22, r_M_strap_23, r_M_strap_25, r_M_strap_26, r_M_strap_29, r_M_strap_31, r_M_strap_32, r_M_strap_35, r_M_strap_36, r_M_strap_39, r_M_strap_42, r_M_strap_43, r_M_strap_44, r_M_strap_45, r_M_strap_46, r_M_strap_49, r_M_strap_51, r_M_strap_52, r_M_strap_55, r_M_strap_58, r_M_strap_59, r_M_strap_62, r_M_strap_64, r_M_strap_65, r_M_strap_67, r_M_strap_70, r_M_strap_72, r_M_strap_73, r_M_strap_74, r_M_strap_77, r_M_strap_80, r_M_strap_81, r_M_strap_84, r_M_strap_86, r_M_strap_87, r_M_strap_88, r_M_strap_89, r_M_strap_90, r_M_strap_91, r_M_strap_94, r_M_strap_96, r_M_strap_97, r_M_strap_98, r_M_strap_99, r_M_strap_100, r_M_strap_101, r_M_strap_102, r_M_strap_105, r_M_strap_107, r_M_strap_108, Q293, hp, gupd_ne, gupd_eq, w32_gb, w32i, tn_add, tn_mul, Int.toNat_natCast, Int.toNat_zero, Int.reduceLE, Int.reduceLT, Int.reduceEq, Int.reduceNe, gb_T, gb_F, Int.reduceToNat, eq_self, true_or, or_true, and_true, true_and, and_self, ↓ite_gb0, ↓ite_gbn, ↓if_pos, ↓if_neg, if_true, if_false, not_true_eq_false, not_false_eq_true, gb_ne0, gb_eq0]
    exact hq _ _ (by simp only [List.cons.injEq, vI_inj, vR_inj, and_true, true_and]; omega) rfl
  · rw [r_M_strap_24]
    simp (disch := first | assumption | exact gb_01 _ | omega) only [r_M_strap_0, r_M_strap_1, r_M_strap_2, r_M_strap_5, r_M_strap_8, r_M_strap_10, r_M_strap_11, r_M_strap_12, r_M_strap_13, r_M_strap_16, r_M_strap_19, r_M_strap_21, r_M_strap_22, r_M_strap_23, r_M_strap_25, r_M_strap_26, r_M_strap_29, r_M_strap_31, r_M_strap_32, r_M_strap_35, r_M_strap_36, r_M_strap_39, r_M_strap_42, r_M_strap_43, r_M_strap_44, r_M_strap_45, r_M_strap_46, r_M_strap_49, r_M_strap_51, r_M_strap_52, r_M_strap_55, r_M_strap_58, r_M_strap_59, r_M_strap_62, r_M_strap_64, r_M_strap_65, r_M_strap_67, r_M_strap_70, r_M_strap_72, r_M_strap_73, r_M_strap_74, r_M_strap_77, r_M_strap_80, r_M_strap_81, r_M_strap_84, r_M_strap_86, r_M_strap_87, r_M_strap_88, r_M_strap_89, r_M_strap_90, r_M_strap_91, r_M_strap_94, r_M_strap_96, r_M_strap_97, r_M_strap_98, r_M_strap_99, r_M_strap_100, r_M_strap_101, r_M_strap_102, r_M_strap_105, r_M_strap_107, r_M_strap_108, Q293, hp, gupd_ne, gupd_eq, w32_gb, w32i, tn_add, tn_mul, Int.toNat_natCast, Int.toNat_zero, Int.reduceLE, Int.reduceLT, Int.reduceEq, Int.reduceNe, gb_T, gb_F, Int.reduceToNat, eq_self, true_or, or_true, and_true, true_and, and_self, ↓ite_gb0, ↓ite_gbn, ↓if_pos, ↓if_neg, if_true, if_false, not_true_eq_false, not_false_eq_true, gb_ne0, gb_eq0]
theorem sp_M_strap (hw : WB (σ 294)) (hr : WR (σ 294)) (h : 0 ≤ a1 ∧ a1 ≤ σ 294 1 - 1) (hk : σ 294 (120 + 12 * a1.toNat) = 2 ∨ σ 294 (120 + 12 * a1.toNat) = 3) (hm : ¬ brme (σ 294) a1 (σ 294 6).toNat) (hn : σ 294 6 < 8) : Run L (d + 3) 309 [vR 293, vI a1] σ (some (vI (σ 294 6 + 1))) (gupd (gupd σ 294 (920 + (σ 294 6).toNat) a1) 294 6 (σ 294 6 + 1)) := by
  refine Run_of (C' := k_M_strap) rfl ?_
  show Wp L (d + 3) k_M_strap 0 [vR 293, vI a1, vU] [] σ _
  obtain ⟨K293, Q293, K294, N294⟩ := litM
  have w1 := hw.1
  have w2 := hw.2.1
  have w6 := hr.1
  have hp : w32 (σ 294 1 - 1) = σ 294 1 - 1 := w32i (by omega)
  simp (disch := first | assumption | exact gb_01 _ | omega) only [r_M_strap_0, r_M_strap_1, r_M_strap_2, r_M_strap_5, r_M_strap_8, r_M_strap_10, r_M_strap_11, r_M_strap_12, r_M_strap_13, r_M_strap_16, r_M_strap_19, r_M_strap_21, r_M_strap_22, r_M_strap_23, r_M_strap_25, r_M_strap_26, r_M_strap_29, r_M_strap_31, r_M_strap_32, r_M_strap_35, r_M_strap_36, r_M_strap_39, r_M_strap_42, r_M_strap_43, r_M_strap_44, r_M_strap_45, r_M_strap_46, r_M_strap_49, r_M_strap_51, r_M_strap_52, r_M_strap_55, r_M_strap_58, r_M_strap_59, r_M_strap_62, r_M_strap_64, r_M_strap_65, r_M_strap_67, r_M_strap_70, r_M_strap_72, r_M_strap_73, r_M_strap_74, r_M_strap_77, r_M_strap_80, r_M_strap_81, r_M_strap_84, r_M_strap_86, r_M_strap_87, r_M_strap_88, r_M_strap_89, r_M_strap_90, r_M_strap_91, r_M_strap_94, r_M_strap_96, r_M_strap_97, r_M_strap_98, r_M_strap_99, r_M_strap_100, r_M_strap_101, r_M_strap_102, r_M_strap_105, r_M_strap_107, r_M_strap_108, Q293, hp, gupd_ne, gupd_eq, w32_gb, w32i, tn_add, tn_mul, Int.toNat_natCast, Int.toNat_zero, Int.reduceLE, Int.reduceLT, Int.reduceEq, Int.reduceNe, gb_T, gb_F, Int.reduceToNat, eq_self, true_or, or_true, and_true, true_and, and_self, ↓ite_gb0, ↓ite_gbn, ↓if_pos, ↓if_neg, if_true, if_false, not_true_eq_false, not_false_eq_true, gb_ne0, gb_eq0]
  refine wl (σ 294 6).toNat (fun k => [vR 293, vI a1, vI (k : Int)]) (fun _ => σ) rfl rfl (fun k hk hq => ?_) ?_
  · have e2 : ¬ σ 294 (920 + k) = a1 := fun x => hm ⟨k, hk, x⟩
    rw [r_M_strap_24]
    simp (disch := first | assumption | exact gb_01 _ | omega) only [r_M_strap_0, r_M_strap_1, r_M_strap_2, r_M_strap_5, r_M_strap_8, r_M_strap_10, r_M_strap_11, r_M_strap_12, r_M_strap_13, r_M_strap_16, r_M_strap_19, r_M_strap_21, r_M_strap_22, r_M_strap_23, r_M_strap_25, r_M_strap_26, r_M_strap_29, r_M_strap_31, r_M_strap_32, r_M_strap_35, r_M_strap_36, r_M_strap_39, r_M_strap_42, r_M_strap_43, r_M_strap_44, r_M_strap_45, r_M_strap_46, r_M_strap_49, r_M_strap_51, r_M_strap_52, r_M_strap_55, r_M_strap_58, r_M_strap_59, r_M_strap_62, r_M_strap_64, r_M_strap_65, r_M_strap_67, r_M_strap_70, r_M_strap_72, r_M_strap_73, r_M_strap_74, r_M_strap_77, r_M_strap_80, r_M_strap_81, r_M_strap_84, r_M_strap_86, r_M_strap_87, r_M_strap_88, r_M_strap_89, r_M_strap_90, r_M_strap_91, r_M_strap_94, r_M_strap_96, r_M_strap_97, r_M_strap_98, r_M_strap_99, r_M_strap_100, r_M_strap_101, r_M_strap_102, r_M_strap_105, r_M_strap_107, r_M_strap_108, Q293, hp, gupd_ne, gupd_eq, w32_gb, w32i, tn_add, tn_mul, Int.toNat_natCast, Int.toNat_zero, Int.reduceLE, Int.reduceLT, Int.reduceEq, Int.reduceNe, gb_T, gb_F, Int.reduceToNat, eq_self, true_or, or_true, and_true, true_and, and_self, ↓ite_gb0, ↓ite_gbn, ↓if_pos, ↓if_neg, if_true, if_false, not_true_eq_false, not_false_eq_true, gb_ne0, gb_eq0]
    exact hq _ _ (by simp only [List.cons.injEq, vI_inj, vR_inj, and_true, true_and]; omega) rfl
  · rw [r_M_strap_24]
    simp (disch := first | assumption | exact gb_01 _ | omega) only [r_M_strap_0, r_M_strap_1, r_M_strap_2, r_M_strap_5, r_M_strap_8, r_M_strap_10, r_M_strap_11, r_M_strap_12, r_M_strap_13, r_M_strap_16, r_M_strap_19, r_M_strap_21, r_M_strap_22, r_M_strap_23, r_M_strap_25, r_M_strap_26, r_M_strap_29, r_M_strap_31, r_M_strap_32, r_M_strap_35, r_M_strap_36, r_M_strap_39, r_M_strap_42, r_M_strap_43, r_M_strap_44, r_M_strap_45, r_M_strap_46, r_M_strap_49, r_M_strap_51, r_M_strap_52, r_M_strap_55, r_M_strap_58, r_M_strap_59, r_M_strap_62, r_M_strap_64, r_M_strap_65, r_M_strap_67, r_M_strap_70, r_M_strap_72, r_M_strap_73, r_M_strap_74, r_M_strap_77, r_M_strap_80, r_M_strap_81, r_M_strap_84, r_M_strap_86, r_M_strap_87, r_M_strap_88, r_M_strap_89, r_M_strap_90, r_M_strap_91, r_M_strap_94, r_M_strap_96, r_M_strap_97, r_M_strap_98, r_M_strap_99, r_M_strap_100, r_M_strap_101, r_M_strap_102, r_M_strap_105, r_M_strap_107, r_M_strap_108, Q293, hp, gupd_ne, gupd_eq, w32_gb, w32i, tn_add, tn_mul, Int.toNat_natCast, Int.toNat_zero, Int.reduceLE, Int.reduceLT, Int.reduceEq, Int.reduceNe, gb_T, gb_F, Int.reduceToNat, eq_self, true_or, or_true, and_true, true_and, and_self, ↓ite_gb0, ↓ite_gbn, ↓if_pos, ↓if_neg, if_true, if_false, not_true_eq_false, not_false_eq_true, gb_ne0, gb_eq0]
theorem op_strap (a1 : Int) : Op 80 309 [vI a1] := by
  intro L d σ hI
  obtain ⟨hw, hc⟩ := iB hI
  have w1 := hw.1
  have w2 := hw.2.1
  have c1 := hc.1
  have c2 := hc.2.1
  have hp : w32 (σ 29 9 - 1) = σ 29 9 - 1 := w32i (by omega)
  have hm : w32 (σ 294 1 - 1) = σ 294 1 - 1 := w32i (by omega)
  
  obtain ⟨hr, hcr⟩ := iR hI
  by_cases h : 0 ≤ a1 ∧ a1 ≤ σ 29 9 - 1
  · have h' : 0 ≤ a1 ∧ a1 ≤ σ 294 1 - 1 := by omega
    by_cases hk : σ 294 (120 + 12 * a1.toNat) = 2 ∨ σ 294 (120 + 12 * a1.toNat) = 3
    · by_cases hm2 : brme (σ 294) a1 (σ 294 6).toNat
      · exact ⟨_, _, _, sp_X_strap_m hw hc hr hcr h' hk hm2, sp_M_strap_m hw hr h' hk hm2, hI⟩
      · by_cases hn : σ 294 6 < 8
        · have w6 := hr.1
          have w7 := hr.2.1
          have w8 := hr.2.2
          have x1 := sp_X_strap (L := L) (d := d + 998) hw hc hr hcr h' hk hm2 hn
          have e6 : gupd (gupd σ 126 (σ 294 6).toNat a1) 125 1 (σ 294 6 + 1) 294 = σ 294 := by rw [gupd_rw (by omega), gupd_rw (by omega)]
          have x2 := sp_M_strap (L := L) (d := d + 997) (σ := gupd (gupd σ 126 (σ 294 6).toNat a1) 125 1 (σ 294 6 + 1)) (a1 := a1) (by rw [e6]; exact hw) (by rw [e6]; exact hr) (by rw [e6]; exact h') (by rw [e6]; exact hk) (by rw [e6]; exact hm2) (by rw [e6]; exact hn)
          rw [e6] at x2
          refine ⟨_, _, _, x1, x2, ?_⟩
          refine Inv_mk (P := fun k j => (k = 125 ∧ j = 1) ∨ (k = 126) ∨ (k = 294 ∧ (j = 6 ∨ 920 ≤ j ∧ j ≤ 927))) hI (Agr_upd (Agr_upd (Agr_upd (Agr_upd (Agr_refl _ _) (by omega)) (by omega)) (by omega)) (by omega)) (Or.inl (fun k j hz hp => by unfold ZB at hz; omega)) (Or.inl (fun k j hz hp => by unfold ZT at hz; omega)) (Or.inl (fun k j hz hp => by unfold ZG at hz; omega)) (Or.inl (fun k j hz hp => by unfold ZS at hz; omega)) (Or.inl (fun k j hz hp => by unfold ZW at hz; omega)) (Or.inl (fun k j hz hp => by unfold ZP at hz; omega)) (Or.inr ?_) (Or.inl (fun k j hz hp => by unfold ZM at hz; omega)) (Or.inl (fun k j hz hp => by unfold ZTape at hz; omega)) (Or.inl (fun k j hz hp => by unfold ZTest at hz; omega)) (Or.inl (fun k j hz hp => by unfold ZWait at hz; omega)) (Or.inl (fun k j hz hp => by unfold ZImg at hz; omega))
          refine ⟨⟨?_, fun i hi => ?_, fun i j hij hj => ?_⟩, ?_, fun i hi => ?_⟩
          · rw [gupd_eq]; omega
          · rw [gupd_eq] at hi
            have g1 : ∀ p : Nat, p < 40 → gpt (gupd (gupd (gupd (gupd σ 126 (σ 294 6).toNat a1) 125 1 (σ 294 6 + 1)) 294 (920 + (σ 294 6).toNat) a1) 294 6 (σ 294 6 + 1) 294) p 0 = gpt (σ 294) p 0 := fun p hp => by
              unfold gpt
              rw [gupd_ne (by omega), gupd_ne (by omega), gupd_ne (by omega), gupd_ne (by omega)]
            rw [gupd_ne (k := 294) (j := 6) (k' := 294) (j' := 1) (by omega), gupd_ne (k := 294) (k' := 294) (j' := 1) (by omega), gupd_ne (k' := 294) (j' := 1) (by omega), gupd_ne (k' := 294) (j' := 1) (by omega)]
            by_cases e : i = (σ 294 6).toNat
            · rw [e, gupd_ne (by omega), gupd_eq, g1 _ (by omega)]
              exact ⟨h'.1, by omega, hk⟩
            · rw [gupd_ne (k := 294) (j := 6) (k' := 294) (j' := 920 + i) (by omega), gupd_ne (k := 294) (k' := 294) (j' := 920 + i) (by omega), gupd_ne (k' := 294) (j' := 920 + i) (by omega), gupd_ne (k' := 294) (j' := 920 + i) (by omega)]
              have z := w7 i (by omega)
              rw [g1 _ (by omega)]
              exact z
          · rw [gupd_eq] at hj
            rw [gupd_ne (k := 294) (j := 6) (k' := 294) (j' := 920 + i) (by omega), gupd_ne (k := 294) (k' := 294) (j' := 920 + i) (by omega), gupd_ne (k' := 294) (j' := 920 + i) (by omega), gupd_ne (k' := 294) (j' := 920 + i) (by omega)]
            by_cases e : j = (σ 294 6).toNat
            · rw [e, gupd_ne (by omega), gupd_eq]
              exact fun x => hm2 ⟨i, by omega, x⟩
            · rw [gupd_ne (k := 294) (j := 6) (k' := 294) (j' := 920 + j) (by omega), gupd_ne (k := 294) (k' := 294) (j' := 920 + j) (by omega), gupd_ne (k' := 294) (j' := 920 + j) (by omega), gupd_ne (k' := 294) (j' := 920 + j) (by omega)]
              exact w8 i j hij (by omega)
          · rw [gupd_eq, gupd_ne (by omega), gupd_ne (by omega), gupd_eq]
          · rw [gupd_eq] at hi
            by_cases e : i = (σ 294 6).toNat
            · rw [e, gupd_ne (k := 294) (j := 6) (k' := 294) (by omega), gupd_eq, gupd_ne (by omega), gupd_ne (by omega), gupd_ne (by omega), gupd_eq]
            · rw [gupd_ne (k := 294) (j := 6) (k' := 294) (j' := 920 + i) (by omega), gupd_ne (k := 294) (k' := 294) (j' := 920 + i) (by omega), gupd_ne (k' := 294) (j' := 920 + i) (by omega), gupd_ne (k' := 294) (j' := 920 + i) (by omega), gupd_ne (by omega), gupd_ne (by omega), gupd_ne (by omega), gupd_ne (by omega)]
              exact hcr.2 i (by omega)
        · exact ⟨_, _, _, sp_X_strap_f hw hc hr hcr h' hk hm2 hn, sp_M_strap_f hw hr h' hk hm2 hn, hI⟩
    · exact ⟨_, _, _, sp_X_strap_k hw hc hr hcr h' hk, sp_M_strap_k hw hr h' hk, hI⟩
  · exact ⟨_, _, _, sp_X_strap_b hp h, sp_M_strap_b hm (by omega), hI⟩
