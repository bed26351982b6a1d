/-! Easy operations. -/
variable {L d : Nat} {σ σ1 : Nat → Nat → Int} {Q : Option gV → (Nat → Nat → Int) → Prop} {a0 a1 a2 a3 a4 a5 a6 a7 a8 a9 a10 a11 s0 s1 s2 s3 s4 s5 s6 s7 s8 s9 : Int} {l0 l1 l2 l3 l4 l5 l6 l7 l8 l9 l10 l11 t0 t1 t2 t3 t4 t5 t6 t7 t8 t9 : gV} {b0 b1 b2 b3 b4 b5 b6 b7 b8 b9 b10 b11 c0 c1 c2 c3 c4 c5 c6 c7 c8 c9 : Nat} {r : Option gV}
theorem gq100 : ∀ {i : Nat}, i < 8 → gq 100 i = 101 + i ∧ gK (101 + i) = 100 ∧ ((gN (101 + i) : Nat) : Int) = 2 := by
  have h : ∀ i, i < 8 → gq 100 i = 101 + i ∧ gK (101 + i) = 100 ∧ ((gN (101 + i) : Nat) : Int) = 2 := by decide +kernel
  exact fun {i} hi => h i hi
theorem gq33 : ∀ {i : Nat}, i < 40 → gq 33 i = 38 + i ∧ gK (38 + i) = 4 := by
  have h : ∀ i, i < 40 → gq 33 i = 38 + i ∧ gK (38 + i) = 4 := by decide +kernel
  exact fun {i} hi => h i hi
theorem gq114 : ∀ {i : Nat}, i < 8 → gq 114 i = 115 + i ∧ gK (115 + i) = 100 ∧ ((gN (115 + i) : Nat) : Int) = 10 := by
  have h : ∀ i, i < 8 → gq 114 i = 115 + i ∧ gK (115 + i) = 100 ∧ ((gN (115 + i) : Nat) : Int) = 10 := by decide +kernel
  exact fun {i} hi => h i hi
theorem gq283 : ∀ {i : Nat}, i < 6 → gq 283 i = 284 + i ∧ gK (284 + i) = 100 ∧ ((gN (284 + i) : Nat) : Int) = 24 := by
  have h : ∀ i, i < 6 → gq 283 i = 284 + i ∧ gK (284 + i) = 100 ∧ ((gN (284 + i) : Nat) : Int) = 24 := by decide +kernel
  exact fun {i} hi => h i hi
theorem r_X_shake_0 : Wp L d k_X_shake 0 [l0, vI a1, l2] [] σ Q ↔ Wp L d k_X_shake 1 [l0, vI a1, l2] [vI a1] σ Q := wp_iload rfl rfl
theorem r_X_shake_1 : Wp L d k_X_shake 1 [l0, l1, l2] [vI s0] σ Q ↔ Wp L d k_X_shake 2 [l0, l1, l2] [vI 0, vI s0] σ Q := wp_push rfl
theorem r_X_shake_2 : Wp L d k_X_shake 2 [l0, l1, l2] [vI s1, vI s0] σ Q ↔ Wp L d k_X_shake 4 [l0, l1, l2] [vI 99, vI s1, vI s0] σ Q := wp_push rfl
theorem r_X_shake_7 : Wp L d k_X_shake 7 [l0, l1, l2] [vI s0] σ Q ↔ (if s0 ≠ 0 then Wp L d k_X_shake 13 [l0, l1, l2] [] σ Q else Wp L d k_X_shake 10 [l0, l1, l2] [] σ Q) := wp_if_ne rfl
theorem r_X_shake_10 : Wp L d k_X_shake 10 [l0, l1, l2] [] σ Q ↔ Wp L d k_X_shake 12 [l0, l1, l2] [vI (-1000000001)] σ Q := wp_push rfl
theorem r_X_shake_12 : Wp L d k_X_shake 12 [l0, l1, l2] [vI s0] σ Q ↔ Q (some (vI s0)) σ := wp_iret rfl
theorem r_X_shake_13 : Wp L d k_X_shake 13 [vR b0, l1, l2] [] σ Q ↔ Wp L d k_X_shake 14 [vR b0, l1, l2] [vR b0] σ Q := wp_aload rfl rfl
theorem r_X_shake_14 (h : gK c0 = 0) : Wp L d k_X_shake 14 [l0, l1, l2] [vR c0] σ Q ↔ Wp L d k_X_shake 17 [l0, l1, l2] [vR (gq c0 0)] σ Q := wp_getR (c := 128) rfl rfl rfl rfl rfl h
theorem r_X_shake_17 (h : gK c0 = 5) : Wp L d k_X_shake 17 [l0, l1, l2] [vR c0] σ Q ↔ Wp L d k_X_shake 20 [l0, l1, l2] [vI (σ c0 8)] σ Q := wp_getI (c := 1288) rfl rfl rfl rfl h
theorem r_X_shake_20 : Wp L d k_X_shake 20 [l0, vI a1, l2] [vI s0] σ Q ↔ Wp L d k_X_shake 21 [l0, vI a1, vI s0] [] σ Q := wp_istore (i := 2) (ls := [l0, vI a1, l2]) rfl rfl
theorem r_X_shake_21 : Wp L d k_X_shake 21 [vR b0, l1, l2] [] σ Q ↔ Wp L d k_X_shake 22 [vR b0, l1, l2] [vR b0] σ Q := wp_aload rfl rfl
theorem r_X_shake_22 (h : gK c0 = 0) : Wp L d k_X_shake 22 [l0, l1, l2] [vR c0] σ Q ↔ Wp L d k_X_shake 25 [l0, l1, l2] [vR (gq c0 0)] σ Q := wp_getR (c := 128) rfl rfl rfl rfl rfl h
theorem r_X_shake_25 : Wp L d k_X_shake 25 [l0, vI a1, l2] [vR c0] σ Q ↔ Wp L d k_X_shake 26 [l0, vI a1, l2] [vI a1, vR c0] σ Q := wp_iload rfl rfl
theorem r_X_shake_26 (h : gK c0 = 5) : Wp L d k_X_shake 26 [l0, l1, l2] [vI s1, vR c0] σ Q ↔ Wp L d k_X_shake 29 [l0, l1, l2] [] (gupd σ c0 8 s1) Q := wp_putI (c := 1288) rfl rfl rfl rfl h
theorem r_X_shake_29 : Wp L d k_X_shake 29 [l0, l1, vI a2] [] σ Q ↔ Wp L d k_X_shake 30 [l0, l1, vI a2] [vI a2] σ Q := wp_iload rfl rfl
theorem r_X_shake_30 : Wp L d k_X_shake 30 [l0, l1, l2] [vI s0] σ Q ↔ Q (some (vI s0)) σ := wp_iret rfl
theorem r_X_shake_4 : Wp L (d + 1) k_X_shake 4 [l0, l1, l2] [vI s2, vI s1, vI s0] σ Q ↔ Wp L (d + 1) k_X_shake 7 [l0, l1, l2] [vI (gb (s1 ≤ s0 ∧ s0 ≤ s2))] σ Q := wp_callR (d := d + 0) (as := [vI s0, vI s1, vI s2]) (rest := []) rfl rfl rfl rfl rfl rfl rfl rfl (sp_X_within)
theorem sp_X_shake_b (h : ¬ (0 ≤ a1 ∧ a1 ≤ 99)) : Run L (d + 1) 47 [vR 27, vI a1] σ (some (vI (-1000000001))) σ := by
  refine Run_of (C' := k_X_shake) rfl ?_
  show Wp L (d + 1) k_X_shake 0 [vR 27, vI a1, vU] [] σ _
  simp only [r_X_shake_0, r_X_shake_1, r_X_shake_2, r_X_shake_4, r_X_shake_7, r_X_shake_10, r_X_shake_12, r_X_shake_13, r_X_shake_14, r_X_shake_17, r_X_shake_20, r_X_shake_21, r_X_shake_22, r_X_shake_25, r_X_shake_26, r_X_shake_29, r_X_shake_30, gK_27, gK_28, gK_29, gq_27_0, gq_27_1, gK_293, gq_293_0, gK_294, gN_294, Int.reduceLE, Int.reduceLT, Int.reduceEq, Int.reduceToNat, gb_01, eq_self, true_or, or_true, and_true, true_and, and_self, if_true, if_false, not_true_eq_false, not_false_eq_true, ne_eq, gb_ne0, gb_eq0]
  repeat' split
  all_goals first | trivial | omega
theorem sp_X_shake (h : 0 ≤ a1 ∧ a1 ≤ 99) : Run L (d + 1) 47 [vR 27, vI a1] σ (some (vI (σ 28 8))) (gupd σ 28 8 a1) := by
  refine Run_of (C' := k_X_shake) rfl ?_
  show Wp L (d + 1) k_X_shake 0 [vR 27, vI a1, vU] [] σ _
  simp only [r_X_shake_0, r_X_shake_1, r_X_shake_2, r_X_shake_4, r_X_shake_7, r_X_shake_10, r_X_shake_12, r_X_shake_13, r_X_shake_14, r_X_shake_17, r_X_shake_20, r_X_shake_21, r_X_shake_22, r_X_shake_25, r_X_shake_26, r_X_shake_29, r_X_shake_30, gK_27, gK_28, gK_29, gq_27_0, gq_27_1, gK_293, gq_293_0, gK_294, gN_294, h, Int.reduceLE, Int.reduceLT, Int.reduceEq, Int.reduceToNat, gb_01, eq_self, true_or, or_true, and_true, true_and, and_self, if_true, if_false, not_true_eq_false, not_false_eq_true, ne_eq, gb_ne0, gb_eq0]
theorem r_M_shake_0 : Wp L d k_M_shake 0 [l0, vI a1] [] σ Q ↔ Wp L d k_M_shake 1 [l0, vI a1] [vI a1] σ Q := wp_iload rfl rfl
theorem r_M_shake_4 : Wp L d k_M_shake 4 [l0, l1] [vI s0] σ Q ↔ (if s0 = 0 then Wp L d k_M_shake 17 [l0, l1] [] σ Q else Wp L d k_M_shake 7 [l0, l1] [] σ Q) := wp_if_eq rfl
theorem r_M_shake_7 : Wp L d k_M_shake 7 [vR b0, l1] [] σ Q ↔ Wp L d k_M_shake 8 [vR b0, l1] [vR b0] σ Q := wp_aload rfl rfl
theorem r_M_shake_8 : Wp L d k_M_shake 8 [l0, l1] [vR c0] σ Q ↔ Wp L d k_M_shake 10 [l0, l1] [vI 8, vR c0] σ Q := wp_push rfl
theorem r_M_shake_10 : Wp L d k_M_shake 10 [l0, vI a1] [vI s1, vR c0] σ Q ↔ Wp L d k_M_shake 11 [l0, vI a1] [vI a1, vI s1, vR c0] σ Q := wp_iload rfl rfl
theorem r_M_shake_14 : Wp L d k_M_shake 14 [l0, l1] [vI s0] σ Q ↔ Wp L d k_M_shake 19 [l0, l1] [vI s0] σ Q := wp_goto rfl
theorem r_M_shake_17 : Wp L d k_M_shake 17 [l0, l1] [] σ Q ↔ Wp L d k_M_shake 19 [l0, l1] [vI (-1000000001)] σ Q := wp_push rfl
theorem r_M_shake_19 : Wp L d k_M_shake 19 [l0, l1] [vI s0] σ Q ↔ Q (some (vI s0)) σ := wp_iret rfl
theorem r_M_shake_1 : Wp L (d + 2) k_M_shake 1 [l0, l1] [vI s0] σ Q ↔ Wp L (d + 2) k_M_shake 4 [l0, l1] [vI (gb (0 ≤ s0 ∧ s0 ≤ 99))] σ Q := wp_callR (d := d + 1) (as := [vI s0]) (rest := []) rfl rfl rfl rfl rfl rfl rfl rfl (sp_M_isGust)
theorem r_M_shake_11 (h : 0 ≤ s1 ∧ s1 < 3540) : Wp L (d + 2) k_M_shake 11 [l0, l1] [vI s2, vI s1, vR 293] σ Q ↔ Wp L (d + 2) k_M_shake 14 [l0, l1] [vI (σ 294 s1.toNat)] (gupd σ 294 s1.toNat s2) Q := wp_callR (d := d + 1) (as := [vR 293, vI s1, vI s2]) (rest := []) rfl rfl rfl rfl rfl rfl rfl (grecv_k (by rw [gK_293]) rfl) (sp_M_becomes h)
theorem sp_M_shake_b (h : ¬ (0 ≤ a1 ∧ a1 ≤ 99)) : Run L (d + 2) 268 [vR 293, vI a1] σ (some (vI (-1000000001))) σ := by
  refine Run_of (C' := k_M_shake) rfl ?_
  show Wp L (d + 2) k_M_shake 0 [vR 293, vI a1] [] σ _
  simp only [r_M_shake_0, r_M_shake_1, r_M_shake_4, r_M_shake_7, r_M_shake_8, r_M_shake_10, r_M_shake_11, r_M_shake_14, r_M_shake_17, r_M_shake_19, gK_27, gK_28, gK_29, gq_27_0, gq_27_1, gK_293, gq_293_0, gK_294, gN_294, Int.reduceLE, Int.reduceLT, Int.reduceEq, Int.reduceToNat, gb_01, eq_self, true_or, or_true, and_true, true_and, and_self, if_true, if_false, not_true_eq_false, not_false_eq_true, ne_eq, gb_ne0, gb_eq0]
  repeat' split
  all_goals first | trivial | omega
theorem sp_M_shake (h : 0 ≤ a1 ∧ a1 ≤ 99) : Run L (d + 2) 268 [vR 293, vI a1] σ (some (vI (σ 294 8))) (gupd σ 294 8 a1) := by
  refine Run_of (C' := k_M_shake) rfl ?_
  show Wp L (d + 2) k_M_shake 0 [vR 293, vI a1] [] σ _
  simp only [r_M_shake_0, r_M_shake_1, r_M_shake_4, r_M_shake_7, r_M_shake_8, r_M_shake_10, r_M_shake_11, r_M_shake_14, r_M_shake_17, r_M_shake_19, gK_27, gK_28, gK_29, gq_27_0, gq_27_1, gK_293, gq_293_0, gK_294, gN_294, h, Int.reduceLE, Int.reduceLT, Int.reduceEq, Int.reduceToNat, gb_01, eq_self, true_or, or_true, and_true, true_and, and_self, if_true, if_false, not_true_eq_false, not_false_eq_true, ne_eq, gb_ne0, gb_eq0]
theorem op_shake (a1 : Int) : Op 47 268 [vI a1] := by
  intro L d σ hI
  by_cases h : 0 ≤ a1 ∧ a1 ≤ 99
  · obtain ⟨⟨w1, w2⟩, c1, c2⟩ := iM hI
    refine ⟨_, _, _, sp_X_shake h, Run_r (sp_M_shake h) ?_, ?_⟩
    · rw [gupd_ne (by omega), c2]
    · refine Inv_mk (P := fun k j => (k = 28 ∧ j = 8) ∨ (k = 294 ∧ j = 8)) hI (Agr_upd (Agr_upd (Agr_refl _ _) (by omega)) (by omega)) (Or.inl (fun k j hz hp => by unfold ZB at hz; omega)) (Or.inl (fun k j hz hp => by unfold ZT at hz; omega)) (Or.inl (fun k j hz hp => by unfold ZG at hz; omega)) (Or.inl (fun k j hz hp => by unfold ZS at hz; omega)) (Or.inl (fun k j hz hp => by unfold ZW at hz; omega)) (Or.inl (fun k j hz hp => by unfold ZP at hz; omega)) (Or.inl (fun k j hz hp => by unfold ZR ZK at hz; omega)) (Or.inr ?_) (Or.inl (fun k j hz hp => by unfold ZTape at hz; omega)) (Or.inl (fun k j hz hp => by unfold ZTest at hz; omega)) (Or.inl (fun k j hz hp => by unfold ZWait at hz; omega)) (Or.inl (fun k j hz hp => by unfold ZImg at hz; omega))
      refine ⟨⟨?_, ?_⟩, ?_, ?_⟩
      · rw [gupd_ne (by omega), gupd_ne (by omega)]
        exact w1
      · rw [gupd_eq]
        exact h
      · rw [gupd_ne (by omega), gupd_ne (by omega), gupd_ne (by omega), gupd_ne (by omega)]
        exact c1
      · rw [gupd_eq, gupd_ne (by omega), gupd_eq]
  · exact ⟨_, _, _, sp_X_shake_b h, sp_M_shake_b h, hI⟩
theorem r_X_runs_0 : Wp L d k_X_runs 0 [l0, vI a1, l2] [] σ Q ↔ Wp L d k_X_runs 1 [l0, vI a1, l2] [vI a1] σ Q := wp_iload rfl rfl
theorem r_X_runs_1 : Wp L d k_X_runs 1 [l0, l1, l2] [vI s0] σ Q ↔ Wp L d k_X_runs 3 [l0, l1, l2] [vI (-1000000005), vI s0] σ Q := wp_push rfl
theorem r_X_runs_3 : Wp L d k_X_runs 3 [l0, l1, l2] [vI s1, vI s0] σ Q ↔ (if s0 = s1 then Wp L d k_X_runs 13 [l0, l1, l2] [] σ Q else Wp L d k_X_runs 6 [l0, l1, l2] [] σ Q) := wp_cmp_eq rfl
theorem r_X_runs_6 : Wp L d k_X_runs 6 [l0, vI a1, l2] [] σ Q ↔ Wp L d k_X_runs 7 [l0, vI a1, l2] [vI a1] σ Q := wp_iload rfl rfl
theorem r_X_runs_10 : Wp L d k_X_runs 10 [l0, l1, l2] [vI s0] σ Q ↔ (if s0 = 0 then Wp L d k_X_runs 23 [l0, l1, l2] [] σ Q else Wp L d k_X_runs 13 [l0, l1, l2] [] σ Q) := wp_if_eq rfl
theorem r_X_runs_13 : Wp L d k_X_runs 13 [l0, l1, vI a2] [] σ Q ↔ Wp L d k_X_runs 14 [l0, l1, vI a2] [vI a2] σ Q := wp_iload rfl rfl
theorem r_X_runs_14 : Wp L d k_X_runs 14 [l0, l1, l2] [vI s0] σ Q ↔ Wp L d k_X_runs 15 [l0, l1, l2] [vI 1, vI s0] σ Q := wp_push rfl
theorem r_X_runs_15 : Wp L d k_X_runs 15 [l0, l1, l2] [vI s1, vI s0] σ Q ↔ Wp L d k_X_runs 17 [l0, l1, l2] [vI 20, vI s1, vI s0] σ Q := wp_push rfl
theorem r_X_runs_20 : Wp L d k_X_runs 20 [l0, l1, l2] [vI s0] σ Q ↔ (if s0 ≠ 0 then Wp L d k_X_runs 26 [l0, l1, l2] [] σ Q else Wp L d k_X_runs 23 [l0, l1, l2] [] σ Q) := wp_if_ne rfl
theorem r_X_runs_23 : Wp L d k_X_runs 23 [l0, l1, l2] [] σ Q ↔ Wp L d k_X_runs 25 [l0, l1, l2] [vI (-1000000001)] σ Q := wp_push rfl
theorem r_X_runs_25 : Wp L d k_X_runs 25 [l0, l1, l2] [vI s0] σ Q ↔ Q (some (vI s0)) σ := wp_iret rfl
theorem r_X_runs_26 : Wp L d k_X_runs 26 [vR b0, l1, l2] [] σ Q ↔ Wp L d k_X_runs 27 [vR b0, l1, l2] [vR b0] σ Q := wp_aload rfl rfl
theorem r_X_runs_27 (h : gK c0 = 0) : Wp L d k_X_runs 27 [l0, l1, l2] [vR c0] σ Q ↔ Wp L d k_X_runs 30 [l0, l1, l2] [vR (gq c0 0)] σ Q := wp_getR (c := 128) rfl rfl rfl rfl rfl h
theorem r_X_runs_30 (h : gK c0 = 5) : Wp L d k_X_runs 30 [l0, l1, l2] [vR c0] σ Q ↔ Wp L d k_X_runs 33 [l0, l1, l2] [vR (gq c0 2)] σ Q := wp_getR (c := 1410) rfl rfl rfl rfl rfl h
theorem r_X_runs_33 : Wp L d k_X_runs 33 [l0, vI a1, l2] [vR c0] σ Q ↔ Wp L d k_X_runs 34 [l0, vI a1, l2] [vI a1, vR c0] σ Q := wp_iload rfl rfl
theorem r_X_runs_34 (h : gK c0 = 2) : Wp L d k_X_runs 34 [l0, l1, l2] [vI s1, vR c0] σ Q ↔ Wp L d k_X_runs 37 [l0, l1, l2] [] (gupd σ c0 1 s1) Q := wp_putI (c := 513) rfl rfl rfl rfl h
theorem r_X_runs_37 : Wp L d k_X_runs 37 [vR b0, l1, l2] [] σ Q ↔ Wp L d k_X_runs 38 [vR b0, l1, l2] [vR b0] σ Q := wp_aload rfl rfl
theorem r_X_runs_38 (h : gK c0 = 0) : Wp L d k_X_runs 38 [l0, l1, l2] [vR c0] σ Q ↔ Wp L d k_X_runs 41 [l0, l1, l2] [vR (gq c0 0)] σ Q := wp_getR (c := 128) rfl rfl rfl rfl rfl h
theorem r_X_runs_41 (h : gK c0 = 5) : Wp L d k_X_runs 41 [l0, l1, l2] [vR c0] σ Q ↔ Wp L d k_X_runs 44 [l0, l1, l2] [vR (gq c0 2)] σ Q := wp_getR (c := 1410) rfl rfl rfl rfl rfl h
theorem r_X_runs_44 : Wp L d k_X_runs 44 [l0, l1, vI a2] [vR c0] σ Q ↔ Wp L d k_X_runs 45 [l0, l1, vI a2] [vI a2, vR c0] σ Q := wp_iload rfl rfl
theorem r_X_runs_45 (h : gK c0 = 2) : Wp L d k_X_runs 45 [l0, l1, l2] [vI s1, vR c0] σ Q ↔ Wp L d k_X_runs 48 [l0, l1, l2] [] (gupd σ c0 2 s1) Q := wp_putI (c := 514) rfl rfl rfl rfl h
theorem r_X_runs_48 : Wp L d k_X_runs 48 [l0, l1, l2] [] σ Q ↔ Wp L d k_X_runs 49 [l0, l1, l2] [vI 1] σ Q := wp_push rfl
theorem r_X_runs_49 : Wp L d k_X_runs 49 [l0, l1, l2] [vI s0] σ Q ↔ Q (some (vI s0)) σ := wp_iret rfl
theorem r_X_runs_7 : Wp L (d + 2) k_X_runs 7 [l0, l1, l2] [vI s0] σ Q ↔ Wp L (d + 2) k_X_runs 10 [l0, l1, l2] [vI (gb (0 ≤ s0 ∧ s0 ≤ 59))] σ Q := wp_callR (d := d + 1) (as := [vI s0]) (rest := []) rfl rfl rfl rfl rfl rfl rfl rfl (sp_X_isSecond)
theorem r_X_runs_17 : Wp L (d + 2) k_X_runs 17 [l0, l1, l2] [vI s2, vI s1, vI s0] σ Q ↔ Wp L (d + 2) k_X_runs 20 [l0, l1, l2] [vI (gb (s1 ≤ s0 ∧ s0 ≤ s2))] σ Q := wp_callR (d := d + 1) (as := [vI s0, vI s1, vI s2]) (rest := []) rfl rfl rfl rfl rfl rfl rfl rfl (sp_X_within)
theorem sp_X_runs_b (h : ¬ ((a1 = -1000000005 ∨ 0 ≤ a1 ∧ a1 ≤ 59) ∧ (1 ≤ a2 ∧ a2 ≤ 20))) : Run L (d + 2) 51 [vR 27, vI a1, vI a2] σ (some (vI (-1000000001))) σ := by
  refine Run_of (C' := k_X_runs) rfl ?_
  show Wp L (d + 2) k_X_runs 0 [vR 27, vI a1, vI a2] [] σ _
  simp only [r_X_runs_0, r_X_runs_1, r_X_runs_3, r_X_runs_6, r_X_runs_7, r_X_runs_10, r_X_runs_13, r_X_runs_14, r_X_runs_15, r_X_runs_17, r_X_runs_20, r_X_runs_23, r_X_runs_25, r_X_runs_26, r_X_runs_27, r_X_runs_30, r_X_runs_33, r_X_runs_34, r_X_runs_37, r_X_runs_38, r_X_runs_41, r_X_runs_44, r_X_runs_45, r_X_runs_48, r_X_runs_49, gK_27, gK_28, gK_29, gq_27_0, gq_27_1, gK_293, gq_293_0, gK_294, gN_294, Int.reduceLE, Int.reduceLT, Int.reduceEq, Int.reduceToNat, gb_01, eq_self, true_or, or_true, and_true, true_and, and_self, if_true, if_false, not_true_eq_false, not_false_eq_true, ne_eq, gb_ne0, gb_eq0]
  repeat' split
  all_goals first | trivial | omega
theorem sp_X_runs (h : (a1 = -1000000005 ∨ 0 ≤ a1 ∧ a1 ≤ 59) ∧ (1 ≤ a2 ∧ a2 ≤ 20)) : Run L (d + 2) 51 [vR 27, vI a1, vI a2] σ (some (vI 1)) (gupd (gupd σ 97 1 a1) 97 2 a2) := by
  refine Run_of (C' := k_X_runs) rfl ?_
  show Wp L (d + 2) k_X_runs 0 [vR 27, vI a1, vI a2] [] σ _
  simp only [r_X_runs_0, r_X_runs_1, r_X_runs_3, r_X_runs_6, r_X_runs_7, r_X_runs_10, r_X_runs_13, r_X_runs_14, r_X_runs_15, r_X_runs_17, r_X_runs_20, r_X_runs_23, r_X_runs_25, r_X_runs_26, r_X_runs_27, r_X_runs_30, r_X_runs_33, r_X_runs_34, r_X_runs_37, r_X_runs_38, r_X_runs_41, r_X_runs_44, r_X_runs_45, r_X_runs_48, r_X_runs_49, gK_27, gK_28, gK_29, gq_27_0, gq_27_1, gK_293, gq_293_0, gK_294, gN_294, gq_28_2, gK_97, Int.reduceLE, Int.reduceLT, Int.reduceEq, Int.reduceToNat, gb_01, eq_self, true_or, or_true, and_true, true_and, and_self, if_true, if_false, not_true_eq_false, not_false_eq_true, ne_eq, gb_ne0, gb_eq0]
  repeat' split
  all_goals first | trivial | omega
theorem r_M_runs_0 : Wp L d k_M_runs 0 [l0, vI a1, l2] [] σ Q ↔ Wp L d k_M_runs 1 [l0, vI a1, l2] [vI a1] σ Q := wp_iload rfl rfl
theorem r_M_runs_1 : Wp L d k_M_runs 1 [l0, l1, l2] [vI s0] σ Q ↔ Wp L d k_M_runs 3 [l0, l1, l2] [vI (-1000000005), vI s0] σ Q := wp_push rfl
theorem r_M_runs_3 : Wp L d k_M_runs 3 [l0, l1, l2] [vI s1, vI s0] σ Q ↔ (if s0 = s1 then Wp L d k_M_runs 18 [l0, l1, l2] [] σ Q else Wp L d k_M_runs 6 [l0, l1, l2] [] σ Q) := wp_cmp_eq rfl
theorem r_M_runs_6 : Wp L d k_M_runs 6 [l0, vI a1, l2] [] σ Q ↔ Wp L d k_M_runs 7 [l0, vI a1, l2] [vI a1] σ Q := wp_iload rfl rfl
theorem r_M_runs_7 : Wp L d k_M_runs 7 [l0, l1, l2] [vI s0] σ Q ↔ Wp L d k_M_runs 8 [l0, l1, l2] [vL s0] σ Q := wp_i2l rfl
theorem r_M_runs_8 : Wp L d k_M_runs 8 [l0, l1, l2] [vL s0] σ Q ↔ Wp L d k_M_runs 9 [l0, l1, l2] [vL 0, vL s0] σ Q := wp_pushL rfl
theorem r_M_runs_9 : Wp L d k_M_runs 9 [l0, l1, l2] [vL s1, vL s0] σ Q ↔ Wp L d k_M_runs 12 [l0, l1, l2] [vL 59, vL s1, vL s0] σ Q := wp_pushL rfl
theorem r_M_runs_15 : Wp L d k_M_runs 15 [l0, l1, l2] [vI s0] σ Q ↔ (if s0 = 0 then Wp L d k_M_runs 30 [l0, l1, l2] [] σ Q else Wp L d k_M_runs 18 [l0, l1, l2] [] σ Q) := wp_if_eq rfl
theorem r_M_runs_18 : Wp L d k_M_runs 18 [l0, l1, vI a2] [] σ Q ↔ Wp L d k_M_runs 19 [l0, l1, vI a2] [vI a2] σ Q := wp_iload rfl rfl
theorem r_M_runs_19 : Wp L d k_M_runs 19 [l0, l1, l2] [vI s0] σ Q ↔ Wp L d k_M_runs 20 [l0, l1, l2] [vL s0] σ Q := wp_i2l rfl
theorem r_M_runs_20 : Wp L d k_M_runs 20 [l0, l1, l2] [vL s0] σ Q ↔ Wp L d k_M_runs 21 [l0, l1, l2] [vL 1, vL s0] σ Q := wp_pushL rfl
theorem r_M_runs_21 : Wp L d k_M_runs 21 [l0, l1, l2] [vL s1, vL s0] σ Q ↔ Wp L d k_M_runs 24 [l0, l1, l2] [vL 20, vL s1, vL s0] σ Q := wp_pushL rfl
theorem r_M_runs_27 : Wp L d k_M_runs 27 [l0, l1, l2] [vI s0] σ Q ↔ (if s0 ≠ 0 then Wp L d k_M_runs 33 [l0, l1, l2] [] σ Q else Wp L d k_M_runs 30 [l0, l1, l2] [] σ Q) := wp_if_ne rfl
theorem r_M_runs_30 : Wp L d k_M_runs 30 [l0, l1, l2] [] σ Q ↔ Wp L d k_M_runs 32 [l0, l1, l2] [vI (-1000000001)] σ Q := wp_push rfl
theorem r_M_runs_32 : Wp L d k_M_runs 32 [l0, l1, l2] [vI s0] σ Q ↔ Q (some (vI s0)) σ := wp_iret rfl
theorem r_M_runs_33 : Wp L d k_M_runs 33 [vR b0, l1, l2] [] σ Q ↔ Wp L d k_M_runs 34 [vR b0, l1, l2] [vR b0] σ Q := wp_aload rfl rfl
theorem r_M_runs_34 (h : gK c0 = 12) : Wp L d k_M_runs 34 [l0, l1, l2] [vR c0] σ Q ↔ Wp L d k_M_runs 37 [l0, l1, l2] [vR (gq c0 0)] σ Q := wp_getR (c := 3200) rfl rfl rfl rfl rfl h
theorem r_M_runs_37 : Wp L d k_M_runs 37 [l0, l1, l2] [vR c0] σ Q ↔ Wp L d k_M_runs 39 [l0, l1, l2] [vI 13, vR c0] σ Q := wp_push rfl
theorem r_M_runs_39 : Wp L d k_M_runs 39 [l0, vI a1, l2] [vI s1, vR c0] σ Q ↔ Wp L d k_M_runs 40 [l0, vI a1, l2] [vI a1, vI s1, vR c0] σ Q := wp_iload rfl rfl
theorem r_M_runs_40 : Wp L d k_M_runs 40 [l0, l1, l2] [vI s2, vI s1, vR c0] σ Q ↔ Wp L d k_M_runs 42 [l0, l1, l2] [vI (-1000000005), vI s2, vI s1, vR c0] σ Q := wp_push rfl
theorem r_M_runs_42 : Wp L d k_M_runs 42 [l0, l1, l2] [vI s3, vI s2, vI s1, vR c0] σ Q ↔ (if s2 ≠ s3 then Wp L d k_M_runs 49 [l0, l1, l2] [vI s1, vR c0] σ Q else Wp L d k_M_runs 45 [l0, l1, l2] [vI s1, vR c0] σ Q) := wp_cmp_ne rfl
theorem r_M_runs_45 : Wp L d k_M_runs 45 [l0, l1, l2] [vI s1, vR c0] σ Q ↔ Wp L d k_M_runs 46 [l0, l1, l2] [vI (-1), vI s1, vR c0] σ Q := wp_push rfl
theorem r_M_runs_46 : Wp L d k_M_runs 46 [l0, l1, l2] [vI s2, vI s1, vR c0] σ Q ↔ Wp L d k_M_runs 50 [l0, l1, l2] [vI s2, vI s1, vR c0] σ Q := wp_goto rfl
theorem r_M_runs_49 : Wp L d k_M_runs 49 [l0, vI a1, l2] [vI s1, vR c0] σ Q ↔ Wp L d k_M_runs 50 [l0, vI a1, l2] [vI a1, vI s1, vR c0] σ Q := wp_iload rfl rfl
theorem r_M_runs_50 (h : gK c0 = 100) (hx : 0 ≤ s1 ∧ s1 < gN c0) : Wp L d k_M_runs 50 [l0, l1, l2] [vI s2, vI s1, vR c0] σ Q ↔ Wp L d k_M_runs 51 [l0, l1, l2] [] (gupd σ c0 s1.toNat s2) Q := wp_iast rfl h hx
theorem r_M_runs_51 : Wp L d k_M_runs 51 [vR b0, l1, l2] [] σ Q ↔ Wp L d k_M_runs 52 [vR b0, l1, l2] [vR b0] σ Q := wp_aload rfl rfl
theorem r_M_runs_52 (h : gK c0 = 12) : Wp L d k_M_runs 52 [l0, l1, l2] [vR c0] σ Q ↔ Wp L d k_M_runs 55 [l0, l1, l2] [vR (gq c0 0)] σ Q := wp_getR (c := 3200) rfl rfl rfl rfl rfl h
theorem r_M_runs_55 : Wp L d k_M_runs 55 [l0, l1, l2] [vR c0] σ Q ↔ Wp L d k_M_runs 57 [l0, l1, l2] [vI 14, vR c0] σ Q := wp_push rfl
theorem r_M_runs_57 : Wp L d k_M_runs 57 [l0, l1, vI a2] [vI s1, vR c0] σ Q ↔ Wp L d k_M_runs 58 [l0, l1, vI a2] [vI a2, vI s1, vR c0] σ Q := wp_iload rfl rfl
theorem r_M_runs_58 (h : gK c0 = 100) (hx : 0 ≤ s1 ∧ s1 < gN c0) : Wp L d k_M_runs 58 [l0, l1, l2] [vI s2, vI s1, vR c0] σ Q ↔ Wp L d k_M_runs 59 [l0, l1, l2] [] (gupd σ c0 s1.toNat s2) Q := wp_iast rfl h hx
theorem r_M_runs_59 : Wp L d k_M_runs 59 [l0, l1, l2] [] σ Q ↔ Wp L d k_M_runs 60 [l0, l1, l2] [vI 1] σ Q := wp_push rfl
theorem r_M_runs_60 : Wp L d k_M_runs 60 [l0, l1, l2] [vI s0] σ Q ↔ Q (some (vI s0)) σ := wp_iret rfl
theorem r_M_runs_12 : Wp L (d + 1) k_M_runs 12 [l0, l1, l2] [vL s2, vL s1, vL s0] σ Q ↔ Wp L (d + 1) k_M_runs 15 [l0, l1, l2] [vI (gb (s1 ≤ s0 ∧ s0 ≤ s2))] σ Q := wp_callR (d := d + 0) (as := [vL s0, vL s1, vL s2]) (rest := []) rfl rfl rfl rfl rfl rfl rfl rfl (sp_M_isIn)
theorem r_M_runs_24 : Wp L (d + 1) k_M_runs 24 [l0, l1, l2] [vL s2, vL s1, vL s0] σ Q ↔ Wp L (d + 1) k_M_runs 27 [l0, l1, l2] [vI (gb (s1 ≤ s0 ∧ s0 ≤ s2))] σ Q := wp_callR (d := d + 0) (as := [vL s0, vL s1, vL s2]) (rest := []) rfl rfl rfl rfl rfl rfl rfl rfl (sp_M_isIn)
theorem sp_M_runs_b (h : ¬ ((a1 = -1000000005 ∨ 0 ≤ a1 ∧ a1 ≤ 59) ∧ (1 ≤ a2 ∧ a2 ≤ 20))) : Run L (d + 1) 271 [vR 293, vI a1, vI a2] σ (some (vI (-1000000001))) σ := by
  refine Run_of (C' := k_M_runs) rfl ?_
  show Wp L (d + 1) k_M_runs 0 [vR 293, vI a1, vI a2] [] σ _
  simp only [r_M_runs_0, r_M_runs_1, r_M_runs_3, r_M_runs_6, r_M_runs_7, r_M_runs_8, r_M_runs_9, r_M_runs_12, r_M_runs_15, r_M_runs_18, r_M_runs_19, r_M_runs_20, r_M_runs_21, r_M_runs_24, r_M_runs_27, r_M_runs_30, r_M_runs_32, r_M_runs_33, r_M_runs_34, r_M_runs_37, r_M_runs_39, r_M_runs_40, r_M_runs_42, r_M_runs_45, r_M_runs_46, r_M_runs_49, r_M_runs_50, r_M_runs_51, r_M_runs_52, r_M_runs_55, r_M_runs_57, r_M_runs_58, r_M_runs_59, r_M_runs_60, gK_27, gK_28, gK_29, gq_27_0, gq_27_1, gK_293, gq_293_0, gK_294, gN_294, Int.reduceLE, Int.reduceLT, Int.reduceEq, Int.reduceToNat, gb_01, eq_self, true_or, or_true, and_true, true_and, and_self, if_true, if_false, not_true_eq_false, not_false_eq_true, ne_eq, gb_ne0, gb_eq0]
  repeat' split
  all_goals first | trivial | omega
theorem sp_M_runs_n (h : 1 ≤ a2 ∧ a2 ≤ 20) : Run L (d + 1) 271 [vR 293, vI (-1000000005), vI a2] σ (some (vI 1)) (gupd (gupd σ 294 13 (-1)) 294 14 a2) := by
  refine Run_of (C' := k_M_runs) rfl ?_
  show Wp L (d + 1) k_M_runs 0 [vR 293, vI (-1000000005), vI a2] [] σ _
  simp only [r_M_runs_0, r_M_runs_1, r_M_runs_3, r_M_runs_6, r_M_runs_7, r_M_runs_8, r_M_runs_9, r_M_runs_12, r_M_runs_15, r_M_runs_18, r_M_runs_19, r_M_runs_20, r_M_runs_21, r_M_runs_24, r_M_runs_27, r_M_runs_30, r_M_runs_32, r_M_runs_33, r_M_runs_34, r_M_runs_37, r_M_runs_39, r_M_runs_40, r_M_runs_42, r_M_runs_45, r_M_runs_46, r_M_runs_49, r_M_runs_50, r_M_runs_51, r_M_runs_52, r_M_runs_55, r_M_runs_57, r_M_runs_58, r_M_runs_59, r_M_runs_60, gK_27, gK_28, gK_29, gq_27_0, gq_27_1, gK_293, gq_293_0, gK_294, gN_294, h, Int.reduceLE, Int.reduceLT, Int.reduceEq, Int.reduceToNat, gb_01, eq_self, true_or, or_true, and_true, true_and, and_self, if_true, if_false, not_true_eq_false, not_false_eq_true, ne_eq, gb_ne0, gb_eq0]
theorem sp_M_runs_s (h1 : 0 ≤ a1 ∧ a1 ≤ 59) (h : 1 ≤ a2 ∧ a2 ≤ 20) : Run L (d + 1) 271 [vR 293, vI a1, vI a2] σ (some (vI 1)) (gupd (gupd σ 294 13 a1) 294 14 a2) := by
  have e : ¬ a1 = -1000000005 := by omega
  refine Run_of (C' := k_M_runs) rfl ?_
  show Wp L (d + 1) k_M_runs 0 [vR 293, vI a1, vI a2] [] σ _
  simp only [r_M_runs_0, r_M_runs_1, r_M_runs_3, r_M_runs_6, r_M_runs_7, r_M_runs_8, r_M_runs_9, r_M_runs_12, r_M_runs_15, r_M_runs_18, r_M_runs_19, r_M_runs_20, r_M_runs_21, r_M_runs_24, r_M_runs_27, r_M_runs_30, r_M_runs_32, r_M_runs_33, r_M_runs_34, r_M_runs_37, r_M_runs_39, r_M_runs_40, r_M_runs_42, r_M_runs_45, r_M_runs_46, r_M_runs_49, r_M_runs_50, r_M_runs_51, r_M_runs_52, r_M_runs_55, r_M_runs_57, r_M_runs_58, r_M_runs_59, r_M_runs_60, gK_27, gK_28, gK_29, gq_27_0, gq_27_1, gK_293, gq_293_0, gK_294, gN_294, h, h1, e, Int.reduceLE, Int.reduceLT, Int.reduceEq, Int.reduceToNat, gb_01, eq_self, true_or, or_true, and_true, true_and, and_self, if_true, if_false, not_true_eq_false, not_false_eq_true, ne_eq, gb_ne0, gb_eq0]
theorem op_runs (a1 a2 : Int) : Op 51 271 [vI a1, vI a2] := by
  intro L d σ hI
  by_cases h : (a1 = -1000000005 ∨ 0 ≤ a1 ∧ a1 ≤ 59) ∧ (1 ≤ a2 ∧ a2 ≤ 20)
  · obtain ⟨⟨w1, w2, w3⟩, c1, c2, c3⟩ := iG hI
    by_cases e : a1 = -1000000005
    · subst e
      refine ⟨_, _, _, sp_X_runs h, sp_M_runs_n h.2, ?_⟩
      refine Inv_mk (P := fun k j => (k = 97 ∧ (j = 1 ∨ j = 2)) ∨ (k = 294 ∧ (j = 13 ∨ j = 14))) hI (Agr_upd (Agr_upd (Agr_upd (Agr_upd (Agr_refl _ _) (by omega)) (by omega)) (by omega)) (by omega)) (Or.inl (fun k j hz hp => by unfold ZB at hz; omega)) (Or.inl (fun k j hz hp => by unfold ZT at hz; omega)) (Or.inr ?_) (Or.inl (fun k j hz hp => by unfold ZS at hz; omega)) (Or.inl (fun k j hz hp => by unfold ZW at hz; omega)) (Or.inl (fun k j hz hp => by unfold ZP at hz; omega)) (Or.inl (fun k j hz hp => by unfold ZR ZK at hz; omega)) (Or.inl (fun k j hz hp => by unfold ZM at hz; omega)) (Or.inl (fun k j hz hp => by unfold ZTape at hz; omega)) (Or.inl (fun k j hz hp => by unfold ZTest at hz; omega)) (Or.inl (fun k j hz hp => by unfold ZWait at hz; omega)) (Or.inl (fun k j hz hp => by unfold ZImg at hz; omega))
      refine ⟨⟨?_, ?_, fun j hj => ?_⟩, ?_, ?_, fun j hj => ?_⟩
      · rw [gupd_ne (by omega), gupd_eq]
        exact Or.inl rfl
      · rw [gupd_eq]
        exact h.2
      · rw [gupd_ne (by omega), gupd_ne (by omega), gupd_ne (by omega), gupd_ne (by omega)]
        exact w3 j hj
      · rw [gupd_ne (by omega), gupd_ne (by omega), gupd_ne (by omega), gupd_eq, gupd_ne (by omega), gupd_eq]
        rfl
      · rw [gupd_eq, gupd_ne (by omega), gupd_ne (by omega), gupd_eq]
      · rw [gupd_ne (by omega), gupd_ne (by omega), gupd_ne (by omega), gupd_ne (by omega), gupd_ne (by omega), gupd_ne (by omega), gupd_ne (by omega), gupd_ne (by omega)]
        exact c3 j hj
    · have h1 : 0 ≤ a1 ∧ a1 ≤ 59 := by omega
      refine ⟨_, _, _, sp_X_runs h, sp_M_runs_s h1 h.2, ?_⟩
      refine Inv_mk (P := fun k j => (k = 97 ∧ (j = 1 ∨ j = 2)) ∨ (k = 294 ∧ (j = 13 ∨ j = 14))) hI (Agr_upd (Agr_upd (Agr_upd (Agr_upd (Agr_refl _ _) (by omega)) (by omega)) (by omega)) (by omega)) (Or.inl (fun k j hz hp => by unfold ZB at hz; omega)) (Or.inl (fun k j hz hp => by unfold ZT at hz; omega)) (Or.inr ?_) (Or.inl (fun k j hz hp => by unfold ZS at hz; omega)) (Or.inl (fun k j hz hp => by unfold ZW at hz; omega)) (Or.inl (fun k j hz hp => by unfold ZP at hz; omega)) (Or.inl (fun k j hz hp => by unfold ZR ZK at hz; omega)) (Or.inl (fun k j hz hp => by unfold ZM at hz; omega)) (Or.inl (fun k j hz hp => by unfold ZTape at hz; omega)) (Or.inl (fun k j hz hp => by unfold ZTest at hz; omega)) (Or.inl (fun k j hz hp => by unfold ZWait at hz; omega)) (Or.inl (fun k j hz hp => by unfold ZImg at hz; omega))
      refine ⟨⟨?_, ?_, fun j hj => ?_⟩, ?_, ?_, fun j hj => ?_⟩
      · rw [gupd_ne (by omega), gupd_eq]
        exact Or.inr h1
      · rw [gupd_eq]
        exact h.2
      · rw [gupd_ne (by omega), gupd_ne (by omega), gupd_ne (by omega), gupd_ne (by omega)]
        exact w3 j hj
      · rw [gupd_ne (by omega), gupd_ne (by omega), gupd_ne (by omega), gupd_eq, gupd_ne (by omega), gupd_eq]
        exact (if_neg (by omega)).symm
      · rw [gupd_eq, gupd_ne (by omega), gupd_ne (by omega), gupd_eq]
      · rw [gupd_ne (by omega), gupd_ne (by omega), gupd_ne (by omega), gupd_ne (by omega), gupd_ne (by omega), gupd_ne (by omega), gupd_ne (by omega), gupd_ne (by omega)]
        exact c3 j hj
  · exact ⟨_, _, _, sp_X_runs_b h, sp_M_runs_b h, hI⟩
theorem r_X_story_0 : Wp L d k_X_story 0 [l0, vI a1, l2, l3, l4] [] σ Q ↔ Wp L d k_X_story 1 [l0, vI a1, l2, l3, l4] [vI a1] σ Q := wp_iload rfl rfl
theorem r_X_story_1 : Wp L d k_X_story 1 [l0, l1, l2, l3, l4] [vI s0] σ Q ↔ Wp L d k_X_story 2 [l0, l1, l2, l3, l4] [vI 0, vI s0] σ Q := wp_push rfl
theorem r_X_story_2 : Wp L d k_X_story 2 [l0, l1, l2, l3, l4] [vI s1, vI s0] σ Q ↔ Wp L d k_X_story 4 [l0, l1, l2, l3, l4] [vI 7, vI s1, vI s0] σ Q := wp_push rfl
theorem r_X_story_7 : Wp L d k_X_story 7 [l0, l1, l2, l3, l4] [vI s0] σ Q ↔ (if s0 = 0 then Wp L d k_X_story 29 [l0, l1, l2, l3, l4] [] σ Q else Wp L d k_X_story 10 [l0, l1, l2, l3, l4] [] σ Q) := wp_if_eq rfl
theorem r_X_story_10 : Wp L d k_X_story 10 [l0, l1, vI a2, l3, l4] [] σ Q ↔ Wp L d k_X_story 11 [l0, l1, vI a2, l3, l4] [vI a2] σ Q := wp_iload rfl rfl
theorem r_X_story_11 : Wp L d k_X_story 11 [l0, l1, l2, l3, l4] [vI s0] σ Q ↔ Wp L d k_X_story 12 [l0, l1, l2, l3, l4] [vI 0, vI s0] σ Q := wp_push rfl
theorem r_X_story_12 : Wp L d k_X_story 12 [l0, l1, l2, l3, l4] [vI s1, vI s0] σ Q ↔ Wp L d k_X_story 13 [l0, l1, l2, l3, l4] [vI 1, vI s1, vI s0] σ Q := wp_push rfl
theorem r_X_story_16 : Wp L d k_X_story 16 [l0, l1, l2, l3, l4] [vI s0] σ Q ↔ (if s0 = 0 then Wp L d k_X_story 29 [l0, l1, l2, l3, l4] [] σ Q else Wp L d k_X_story 19 [l0, l1, l2, l3, l4] [] σ Q) := wp_if_eq rfl
theorem r_X_story_19 : Wp L d k_X_story 19 [l0, l1, l2, vI a3, l4] [] σ Q ↔ Wp L d k_X_story 20 [l0, l1, l2, vI a3, l4] [vI a3] σ Q := wp_iload rfl rfl
theorem r_X_story_20 : Wp L d k_X_story 20 [l0, l1, l2, l3, l4] [vI s0] σ Q ↔ Wp L d k_X_story 21 [l0, l1, l2, l3, l4] [vI 0, vI s0] σ Q := wp_push rfl
theorem r_X_story_21 : Wp L d k_X_story 21 [l0, l1, l2, l3, l4] [vI s1, vI s0] σ Q ↔ Wp L d k_X_story 23 [l0, l1, l2, l3, l4] [vI 63, vI s1, vI s0] σ Q := wp_push rfl
theorem r_X_story_26 : Wp L d k_X_story 26 [l0, l1, l2, l3, l4] [vI s0] σ Q ↔ (if s0 ≠ 0 then Wp L d k_X_story 32 [l0, l1, l2, l3, l4] [] σ Q else Wp L d k_X_story 29 [l0, l1, l2, l3, l4] [] σ Q) := wp_if_ne rfl
theorem r_X_story_29 : Wp L d k_X_story 29 [l0, l1, l2, l3, l4] [] σ Q ↔ Wp L d k_X_story 31 [l0, l1, l2, l3, l4] [vI (-1000000001)] σ Q := wp_push rfl
theorem r_X_story_31 : Wp L d k_X_story 31 [l0, l1, l2, l3, l4] [vI s0] σ Q ↔ Q (some (vI s0)) σ := wp_iret rfl
theorem r_X_story_32 : Wp L d k_X_story 32 [vR b0, l1, l2, l3, l4] [] σ Q ↔ Wp L d k_X_story 33 [vR b0, l1, l2, l3, l4] [vR b0] σ Q := wp_aload rfl rfl
theorem r_X_story_33 (h : gK c0 = 0) : Wp L d k_X_story 33 [l0, l1, l2, l3, l4] [vR c0] σ Q ↔ Wp L d k_X_story 36 [l0, l1, l2, l3, l4] [vR (gq c0 0)] σ Q := wp_getR (c := 128) rfl rfl rfl rfl rfl h
theorem r_X_story_36 (h : gK c0 = 5) : Wp L d k_X_story 36 [l0, l1, l2, l3, l4] [vR c0] σ Q ↔ Wp L d k_X_story 39 [l0, l1, l2, l3, l4] [vR (gq c0 3)] σ Q := wp_getR (c := 1411) rfl rfl rfl rfl rfl h
theorem r_X_story_39 (h : gK c0 = 6) : Wp L d k_X_story 39 [l0, l1, l2, l3, l4] [vR c0] σ Q ↔ Wp L d k_X_story 42 [l0, l1, l2, l3, l4] [vR (gq c0 0)] σ Q := wp_getR (c := 1664) rfl rfl rfl rfl rfl h
theorem r_X_story_42 : Wp L d k_X_story 42 [l0, vI a1, l2, l3, l4] [vR c0] σ Q ↔ Wp L d k_X_story 43 [l0, vI a1, l2, l3, l4] [vI a1, vR c0] σ Q := wp_iload rfl rfl
theorem r_X_story_43 (h : gK c0 = 102 ∨ gK c0 = 103) (hx : 0 ≤ s1 ∧ s1 < gN c0) : Wp L d k_X_story 43 [l0, l1, l2, l3, l4] [vI s1, vR c0] σ Q ↔ Wp L d k_X_story 44 [l0, l1, l2, l3, l4] [vR (gq c0 s1.toNat)] σ Q := wp_aald rfl h hx
theorem r_X_story_44 : Wp L d k_X_story 44 [l0, l1, vI a2, l3, l4] [vR c0] σ Q ↔ Wp L d k_X_story 45 [l0, l1, vI a2, l3, l4] [vI a2, vR c0] σ Q := wp_iload rfl rfl
theorem r_X_story_45 (h : gK c0 = 100) (hx : 0 ≤ s1 ∧ s1 < gN c0) : Wp L d k_X_story 45 [l0, l1, l2, l3, l4] [vI s1, vR c0] σ Q ↔ Wp L d k_X_story 46 [l0, l1, l2, l3, l4] [vI (σ c0 s1.toNat)] σ Q := wp_iald rfl h hx
theorem r_X_story_46 : Wp L d k_X_story 46 [l0, l1, l2, vI a3, l4] [vI s0] σ Q ↔ Wp L d k_X_story 48 [l0, l1, l2, vI a3, vI s0] [] σ Q := wp_istore (i := 4) (ls := [l0, l1, l2, vI a3, l4]) rfl rfl
theorem r_X_story_48 : Wp L d k_X_story 48 [vR b0, l1, l2, l3, l4] [] σ Q ↔ Wp L d k_X_story 49 [vR b0, l1, l2, l3, l4] [vR b0] σ Q := wp_aload rfl rfl
theorem r_X_story_49 (h : gK c0 = 0) : Wp L d k_X_story 49 [l0, l1, l2, l3, l4] [vR c0] σ Q ↔ Wp L d k_X_story 52 [l0, l1, l2, l3, l4] [vR (gq c0 0)] σ Q := wp_getR (c := 128) rfl rfl rfl rfl rfl h
theorem r_X_story_52 (h : gK c0 = 5) : Wp L d k_X_story 52 [l0, l1, l2, l3, l4] [vR c0] σ Q ↔ Wp L d k_X_story 55 [l0, l1, l2, l3, l4] [vR (gq c0 3)] σ Q := wp_getR (c := 1411) rfl rfl rfl rfl rfl h
theorem r_X_story_55 (h : gK c0 = 6) : Wp L d k_X_story 55 [l0, l1, l2, l3, l4] [vR c0] σ Q ↔ Wp L d k_X_story 58 [l0, l1, l2, l3, l4] [vR (gq c0 0)] σ Q := wp_getR (c := 1664) rfl rfl rfl rfl rfl h
theorem r_X_story_58 : Wp L d k_X_story 58 [l0, vI a1, l2, l3, l4] [vR c0] σ Q ↔ Wp L d k_X_story 59 [l0, vI a1, l2, l3, l4] [vI a1, vR c0] σ Q := wp_iload rfl rfl
theorem r_X_story_59 (h : gK c0 = 102 ∨ gK c0 = 103) (hx : 0 ≤ s1 ∧ s1 < gN c0) : Wp L d k_X_story 59 [l0, l1, l2, l3, l4] [vI s1, vR c0] σ Q ↔ Wp L d k_X_story 60 [l0, l1, l2, l3, l4] [vR (gq c0 s1.toNat)] σ Q := wp_aald rfl h hx
theorem r_X_story_60 : Wp L d k_X_story 60 [l0, l1, vI a2, l3, l4] [vR c0] σ Q ↔ Wp L d k_X_story 61 [l0, l1, vI a2, l3, l4] [vI a2, vR c0] σ Q := wp_iload rfl rfl
theorem r_X_story_61 : Wp L d k_X_story 61 [l0, l1, l2, vI a3, l4] [vI s1, vR c0] σ Q ↔ Wp L d k_X_story 62 [l0, l1, l2, vI a3, l4] [vI a3, vI s1, vR c0] σ Q := wp_iload rfl rfl
theorem r_X_story_62 (h : gK c0 = 100) (hx : 0 ≤ s1 ∧ s1 < gN c0) : Wp L d k_X_story 62 [l0, l1, l2, l3, l4] [vI s2, vI s1, vR c0] σ Q ↔ Wp L d k_X_story 63 [l0, l1, l2, l3, l4] [] (gupd σ c0 s1.toNat s2) Q := wp_iast rfl h hx
theorem r_X_story_63 : Wp L d k_X_story 63 [l0, l1, l2, l3, vI a4] [] σ Q ↔ Wp L d k_X_story 65 [l0, l1, l2, l3, vI a4] [vI a4] σ Q := wp_iload rfl rfl
theorem r_X_story_65 : Wp L d k_X_story 65 [l0, l1, l2, l3, l4] [vI s0] σ Q ↔ Q (some (vI s0)) σ := wp_iret rfl
theorem r_X_story_4 : Wp L (d + 1) k_X_story 4 [l0, l1, l2, l3, l4] [vI s2, vI s1, vI s0] σ Q ↔ Wp L (d + 1) k_X_story 7 [l0, l1, l2, l3, l4] [vI (gb (s1 ≤ s0 ∧ s0 ≤ s2))] σ Q := wp_callR (d := d + 0) (as := [vI s0, vI s1, vI s2]) (rest := []) rfl rfl rfl rfl rfl rfl rfl rfl (sp_X_within)
theorem r_X_story_13 : Wp L (d + 1) k_X_story 13 [l0, l1, l2, l3, l4] [vI s2, vI s1, vI s0] σ Q ↔ Wp L (d + 1) k_X_story 16 [l0, l1, l2, l3, l4] [vI (gb (s1 ≤ s0 ∧ s0 ≤ s2))] σ Q := wp_callR (d := d + 0) (as := [vI s0, vI s1, vI s2]) (rest := []) rfl rfl rfl rfl rfl rfl rfl rfl (sp_X_within)
theorem r_X_story_23 : Wp L (d + 1) k_X_story 23 [l0, l1, l2, l3, l4] [vI s2, vI s1, vI s0] σ Q ↔ Wp L (d + 1) k_X_story 26 [l0, l1, l2, l3, l4] [vI (gb (s1 ≤ s0 ∧ s0 ≤ s2))] σ Q := wp_callR (d := d + 0) (as := [vI s0, vI s1, vI s2]) (rest := []) rfl rfl rfl rfl rfl rfl rfl rfl (sp_X_within)
theorem sp_X_story_b (h : ¬ ((0 ≤ a1 ∧ a1 ≤ 7) ∧ (0 ≤ a2 ∧ a2 ≤ 1) ∧ (0 ≤ a3 ∧ a3 ≤ 63))) : Run L (d + 1) 55 [vR 27, vI a1, vI a2, vI a3] σ (some (vI (-1000000001))) σ := by
  refine Run_of (C' := k_X_story) rfl ?_
  show Wp L (d + 1) k_X_story 0 [vR 27, vI a1, vI a2, vI a3, vU] [] σ _
  simp only [r_X_story_0, r_X_story_1, r_X_story_2, r_X_story_4, r_X_story_7, r_X_story_10, r_X_story_11, r_X_story_12, r_X_story_13, r_X_story_16, r_X_story_19, r_X_story_20, r_X_story_21, r_X_story_23, r_X_story_26, r_X_story_29, r_X_story_31, r_X_story_32, r_X_story_33, r_X_story_36, r_X_story_39, r_X_story_42, r_X_story_43, r_X_story_44, r_X_story_45, r_X_story_46, r_X_story_48, r_X_story_49, r_X_story_52, r_X_story_55, r_X_story_58, r_X_story_59, r_X_story_60, r_X_story_61, r_X_story_62, r_X_story_63, r_X_story_65, gK_27, gK_28, gK_29, gq_27_0, gq_27_1, gK_293, gq_293_0, gK_294, gN_294, Int.reduceLE, Int.reduceLT, Int.reduceEq, Int.reduceToNat, gb_01, eq_self, true_or, or_true, and_true, true_and, and_self, if_true, if_false, not_true_eq_false, not_false_eq_true, ne_eq, gb_ne0, gb_eq0]
  repeat' split
  all_goals first | trivial | omega
theorem r_M_story_0 : Wp L d k_M_story 0 [l0, vI a1, l2, l3] [] σ Q ↔ Wp L d k_M_story 1 [l0, vI a1, l2, l3] [vI a1] σ Q := wp_iload rfl rfl
theorem r_M_story_1 : Wp L d k_M_story 1 [l0, l1, l2, l3] [vI s0] σ Q ↔ Wp L d k_M_story 2 [l0, l1, l2, l3] [vL s0] σ Q := wp_i2l rfl
theorem r_M_story_2 : Wp L d k_M_story 2 [l0, l1, l2, l3] [vL s0] σ Q ↔ Wp L d k_M_story 3 [l0, l1, l2, l3] [vL 0, vL s0] σ Q := wp_pushL rfl
theorem r_M_story_3 : Wp L d k_M_story 3 [l0, l1, l2, l3] [vL s1, vL s0] σ Q ↔ Wp L d k_M_story 6 [l0, l1, l2, l3] [vL 7, vL s1, vL s0] σ Q := wp_pushL rfl
theorem r_M_story_9 : Wp L d k_M_story 9 [l0, l1, l2, l3] [vI s0] σ Q ↔ (if s0 = 0 then Wp L d k_M_story 51 [l0, l1, l2, l3] [] σ Q else Wp L d k_M_story 12 [l0, l1, l2, l3] [] σ Q) := wp_if_eq rfl
theorem r_M_story_12 : Wp L d k_M_story 12 [l0, l1, vI a2, l3] [] σ Q ↔ Wp L d k_M_story 13 [l0, l1, vI a2, l3] [vI a2] σ Q := wp_iload rfl rfl
theorem r_M_story_13 : Wp L d k_M_story 13 [l0, l1, l2, l3] [vI s0] σ Q ↔ Wp L d k_M_story 14 [l0, l1, l2, l3] [vL s0] σ Q := wp_i2l rfl
theorem r_M_story_14 : Wp L d k_M_story 14 [l0, l1, l2, l3] [vL s0] σ Q ↔ Wp L d k_M_story 15 [l0, l1, l2, l3] [vL 0, vL s0] σ Q := wp_pushL rfl
theorem r_M_story_15 : Wp L d k_M_story 15 [l0, l1, l2, l3] [vL s1, vL s0] σ Q ↔ Wp L d k_M_story 16 [l0, l1, l2, l3] [vL 1, vL s1, vL s0] σ Q := wp_pushL rfl
theorem r_M_story_19 : Wp L d k_M_story 19 [l0, l1, l2, l3] [vI s0] σ Q ↔ (if s0 = 0 then Wp L d k_M_story 51 [l0, l1, l2, l3] [] σ Q else Wp L d k_M_story 22 [l0, l1, l2, l3] [] σ Q) := wp_if_eq rfl
theorem r_M_story_22 : Wp L d k_M_story 22 [l0, l1, l2, vI a3] [] σ Q ↔ Wp L d k_M_story 23 [l0, l1, l2, vI a3] [vI a3] σ Q := wp_iload rfl rfl
theorem r_M_story_23 : Wp L d k_M_story 23 [l0, l1, l2, l3] [vI s0] σ Q ↔ Wp L d k_M_story 24 [l0, l1, l2, l3] [vL s0] σ Q := wp_i2l rfl
theorem r_M_story_24 : Wp L d k_M_story 24 [l0, l1, l2, l3] [vL s0] σ Q ↔ Wp L d k_M_story 25 [l0, l1, l2, l3] [vL 0, vL s0] σ Q := wp_pushL rfl
theorem r_M_story_25 : Wp L d k_M_story 25 [l0, l1, l2, l3] [vL s1, vL s0] σ Q ↔ Wp L d k_M_story 28 [l0, l1, l2, l3] [vL 63, vL s1, vL s0] σ Q := wp_pushL rfl
theorem r_M_story_31 : Wp L d k_M_story 31 [l0, l1, l2, l3] [vI s0] σ Q ↔ (if s0 = 0 then Wp L d k_M_story 51 [l0, l1, l2, l3] [] σ Q else Wp L d k_M_story 34 [l0, l1, l2, l3] [] σ Q) := wp_if_eq rfl
theorem r_M_story_34 : Wp L d k_M_story 34 [vR b0, l1, l2, l3] [] σ Q ↔ Wp L d k_M_story 35 [vR b0, l1, l2, l3] [vR b0] σ Q := wp_aload rfl rfl
theorem r_M_story_35 : Wp L d k_M_story 35 [l0, l1, l2, l3] [vR c0] σ Q ↔ Wp L d k_M_story 38 [l0, l1, l2, l3] [vI 800, vR c0] σ Q := wp_push rfl
theorem r_M_story_38 : Wp L d k_M_story 38 [l0, l1, l2, l3] [vI s1, vR c0] σ Q ↔ Wp L d k_M_story 39 [l0, l1, l2, l3] [vI 2, vI s1, vR c0] σ Q := wp_push rfl
theorem r_M_story_39 : Wp L d k_M_story 39 [l0, vI a1, l2, l3] [vI s2, vI s1, vR c0] σ Q ↔ Wp L d k_M_story 40 [l0, vI a1, l2, l3] [vI a1, vI s2, vI s1, vR c0] σ Q := wp_iload rfl rfl
theorem r_M_story_40 : Wp L d k_M_story 40 [l0, l1, l2, l3] [vI s3, vI s2, vI s1, vR c0] σ Q ↔ Wp L d k_M_story 41 [l0, l1, l2, l3] [vI (w32 (s2 * s3)), vI s1, vR c0] σ Q := wp_imul rfl
theorem r_M_story_41 : Wp L d k_M_story 41 [l0, l1, l2, l3] [vI s2, vI s1, vR c0] σ Q ↔ Wp L d k_M_story 42 [l0, l1, l2, l3] [vI (w32 (s1 + s2)), vR c0] σ Q := wp_iadd rfl
theorem r_M_story_42 : Wp L d k_M_story 42 [l0, l1, vI a2, l3] [vI s1, vR c0] σ Q ↔ Wp L d k_M_story 43 [l0, l1, vI a2, l3] [vI a2, vI s1, vR c0] σ Q := wp_iload rfl rfl
theorem r_M_story_43 : Wp L d k_M_story 43 [l0, l1, l2, l3] [vI s2, vI s1, vR c0] σ Q ↔ Wp L d k_M_story 44 [l0, l1, l2, l3] [vI (w32 (s1 + s2)), vR c0] σ Q := wp_iadd rfl
theorem r_M_story_44 : Wp L d k_M_story 44 [l0, l1, l2, vI a3] [vI s1, vR c0] σ Q ↔ Wp L d k_M_story 45 [l0, l1, l2, vI a3] [vI a3, vI s1, vR c0] σ Q := wp_iload rfl rfl
theorem r_M_story_48 : Wp L d k_M_story 48 [l0, l1, l2, l3] [vI s0] σ Q ↔ Wp L d k_M_story 53 [l0, l1, l2, l3] [vI s0] σ Q := wp_goto rfl
theorem r_M_story_51 : Wp L d k_M_story 51 [l0, l1, l2, l3] [] σ Q ↔ Wp L d k_M_story 53 [l0, l1, l2, l3] [vI (-1000000001)] σ Q := wp_push rfl
theorem r_M_story_53 : Wp L d k_M_story 53 [l0, l1, l2, l3] [vI s0] σ Q ↔ Q (some (vI s0)) σ := wp_iret rfl
theorem r_M_story_6 : Wp L (d + 1) k_M_story 6 [l0, l1, l2, l3] [vL s2, vL s1, vL s0] σ Q ↔ Wp L (d + 1) k_M_story 9 [l0, l1, l2, l3] [vI (gb (s1 ≤ s0 ∧ s0 ≤ s2))] σ Q := wp_callR (d := d + 0) (as := [vL s0, vL s1, vL s2]) (rest := []) rfl rfl rfl rfl rfl rfl rfl rfl (sp_M_isIn)
theorem r_M_story_16 : Wp L (d + 1) k_M_story 16 [l0, l1, l2, l3] [vL s2, vL s1, vL s0] σ Q ↔ Wp L (d + 1) k_M_story 19 [l0, l1, l2, l3] [vI (gb (s1 ≤ s0 ∧ s0 ≤ s2))] σ Q := wp_callR (d := d + 0) (as := [vL s0, vL s1, vL s2]) (rest := []) rfl rfl rfl rfl rfl rfl rfl rfl (sp_M_isIn)
theorem r_M_story_28 : Wp L (d + 1) k_M_story 28 [l0, l1, l2, l3] [vL s2, vL s1, vL s0] σ Q ↔ Wp L (d + 1) k_M_story 31 [l0, l1, l2, l3] [vI (gb (s1 ≤ s0 ∧ s0 ≤ s2))] σ Q := wp_callR (d := d + 0) (as := [vL s0, vL s1, vL s2]) (rest := []) rfl rfl rfl rfl rfl rfl rfl rfl (sp_M_isIn)
theorem r_M_story_45 (h : 0 ≤ s1 ∧ s1 < 3540) : Wp L (d + 1) k_M_story 45 [l0, l1, l2, l3] [vI s2, vI s1, vR 293] σ Q ↔ Wp L (d + 1) k_M_story 48 [l0, l1, l2, l3] [vI (σ 294 s1.toNat)] (gupd σ 294 s1.toNat s2) Q := wp_callR (d := d + 0) (as := [vR 293, vI s1, vI s2]) (rest := []) rfl rfl rfl rfl rfl rfl rfl (grecv_k (by rw [gK_293]) rfl) (sp_M_becomes h)
theorem sp_M_story_b (h : ¬ ((0 ≤ a1 ∧ a1 ≤ 7) ∧ (0 ≤ a2 ∧ a2 ≤ 1) ∧ (0 ≤ a3 ∧ a3 ≤ 63))) : Run L (d + 1) 277 [vR 293, vI a1, vI a2, vI a3] σ (some (vI (-1000000001))) σ := by
  refine Run_of (C' := k_M_story) rfl ?_
  show Wp L (d + 1) k_M_story 0 [vR 293, vI a1, vI a2, vI a3] [] σ _
  simp only [r_M_story_0, r_M_story_1, r_M_story_2, r_M_story_3, r_M_story_6, r_M_story_9, r_M_story_12, r_M_story_13, r_M_story_14, r_M_story_15, r_M_story_16, r_M_story_19, r_M_story_22, r_M_story_23, r_M_story_24, r_M_story_25, r_M_story_28, r_M_story_31, r_M_story_34, r_M_story_35, r_M_story_38, r_M_story_39, r_M_story_40, r_M_story_41, r_M_story_42, r_M_story_43, r_M_story_44, r_M_story_45, r_M_story_48, r_M_story_51, r_M_story_53, gK_27, gK_28, gK_29, gq_27_0, gq_27_1, gK_293, gq_293_0, gK_294, gN_294, Int.reduceLE, Int.reduceLT, Int.reduceEq, Int.reduceToNat, gb_01, eq_self, true_or, or_true, and_true, true_and, and_self, if_true, if_false, not_true_eq_false, not_false_eq_true, ne_eq, gb_ne0, gb_eq0]
  repeat' split
  all_goals first | trivial | omega
theorem sp_M_story (h1 : 0 ≤ a1 ∧ a1 ≤ 7) (h2 : 0 ≤ a2 ∧ a2 ≤ 1) (h3 : 0 ≤ a3 ∧ a3 ≤ 63) : Run L (d + 1) 277 [vR 293, vI a1, vI a2, vI a3] σ (some (vI (σ 294 (800 + 2 * a1 + a2).toNat))) (gupd σ 294 (800 + 2 * a1 + a2).toNat a3) := by
  have e1 : w32 (2 * a1) = 2 * a1 := w32_id (by unfold gr32; omega)
  have e2 : w32 (800 + 2 * a1) = 800 + 2 * a1 := w32_id (by unfold gr32; omega)
  have e3 : w32 (800 + 2 * a1 + a2) = 800 + 2 * a1 + a2 := w32_id (by unfold gr32; omega)
  have h4 : 0 ≤ 800 + 2 * a1 + a2 := by omega
  have h5 : 800 + 2 * a1 + a2 < 3540 := by omega
  refine Run_of (C' := k_M_story) rfl ?_
  show Wp L (d + 1) k_M_story 0 [vR 293, vI a1, vI a2, vI a3] [] σ _
  simp only [r_M_story_0, r_M_story_1, r_M_story_2, r_M_story_3, r_M_story_6, r_M_story_9, r_M_story_12, r_M_story_13, r_M_story_14, r_M_story_15, r_M_story_16, r_M_story_19, r_M_story_22, r_M_story_23, r_M_story_24, r_M_story_25, r_M_story_28, r_M_story_31, r_M_story_34, r_M_story_35, r_M_story_38, r_M_story_39, r_M_story_40, r_M_story_41, r_M_story_42, r_M_story_43, r_M_story_44, r_M_story_45, r_M_story_48, r_M_story_51, r_M_story_53, gK_27, gK_28, gK_29, gq_27_0, gq_27_1, gK_293, gq_293_0, gK_294, gN_294, h1, h2, h3, e1, e2, e3, h4, h5, Int.reduceLE, Int.reduceLT, Int.reduceEq, Int.reduceToNat, gb_01, eq_self, true_or, or_true, and_true, true_and, and_self, if_true, if_false, not_true_eq_false, not_false_eq_true, ne_eq, gb_ne0, gb_eq0]
theorem sp_X_story (h1 : 0 ≤ a1 ∧ a1 ≤ 7) (h2 : 0 ≤ a2 ∧ a2 ≤ 1) (h3 : 0 ≤ a3 ∧ a3 ≤ 63) : Run L (d + 1) 55 [vR 27, vI a1, vI a2, vI a3] σ (some (vI (σ (101 + a1.toNat) a2.toNat))) (gupd σ (101 + a1.toNat) a2.toNat a3) := by
  obtain ⟨q1, q2, q3⟩ := gq100 (show a1.toNat < 8 by omega)
  have h4 : a1 < 8 := by omega
  have h5 : a2 < 2 := by omega
  refine Run_of (C' := k_X_story) rfl ?_
  show Wp L (d + 1) k_X_story 0 [vR 27, vI a1, vI a2, vI a3, vU] [] σ _
  simp only [r_X_story_0, r_X_story_1, r_X_story_2, r_X_story_4, r_X_story_7, r_X_story_10, r_X_story_11, r_X_story_12, r_X_story_13, r_X_story_16, r_X_story_19, r_X_story_20, r_X_story_21, r_X_story_23, r_X_story_26, r_X_story_29, r_X_story_31, r_X_story_32, r_X_story_33, r_X_story_36, r_X_story_39, r_X_story_42, r_X_story_43, r_X_story_44, r_X_story_45, r_X_story_46, r_X_story_48, r_X_story_49, r_X_story_52, r_X_story_55, r_X_story_58, r_X_story_59, r_X_story_60, r_X_story_61, r_X_story_62, r_X_story_63, r_X_story_65, gK_27, gK_28, gK_29, gq_27_0, gq_27_1, gK_293, gq_293_0, gK_294, gN_294, gq_28_3, gK_99, gq_99_0, gK_100, gN_100, q1, q2, q3, h1, h2, h3, h4, h5, Int.reduceLE, Int.reduceLT, Int.reduceEq, Int.reduceToNat, gb_01, eq_self, true_or, or_true, and_true, true_and, and_self, if_true, if_false, not_true_eq_false, not_false_eq_true, ne_eq, gb_ne0, gb_eq0]
theorem op_story (a1 a2 a3 : Int) : Op 55 277 [vI a1, vI a2, vI a3] := by
  intro L d σ hI
  by_cases h : (0 ≤ a1 ∧ a1 ≤ 7) ∧ (0 ≤ a2 ∧ a2 ≤ 1) ∧ (0 ≤ a3 ∧ a3 ≤ 63)
  · obtain ⟨h1, h2, h3⟩ := h
    have e1 : (800 + 2 * a1 + a2).toNat = 800 + 2 * a1.toNat + a2.toNat := by omega
    obtain ⟨w, c⟩ := iS hI
    refine ⟨_, _, _, sp_X_story h1 h2 h3, Run_r (sp_M_story h1 h2 h3) ?_, ?_⟩
    · rw [e1, gupd_ne (by omega)]
      exact (c a1.toNat (by omega) a2.toNat (by omega)).symm
    · rw [e1]
      refine Inv_mk (P := fun k j => (101 ≤ k ∧ k ≤ 108) ∨ (k = 294 ∧ 800 ≤ j ∧ j ≤ 815)) hI (Agr_upd (Agr_upd (Agr_refl _ _) (by omega)) (by omega)) (Or.inl (fun k j hz hp => by unfold ZB at hz; omega)) (Or.inl (fun k j hz hp => by unfold ZT at hz; omega)) (Or.inl (fun k j hz hp => by unfold ZG at hz; omega)) (Or.inr ?_) (Or.inl (fun k j hz hp => by unfold ZW at hz; omega)) (Or.inl (fun k j hz hp => by unfold ZP at hz; omega)) (Or.inl (fun k j hz hp => by unfold ZR ZK at hz; omega)) (Or.inl (fun k j hz hp => by unfold ZM at hz; omega)) (Or.inl (fun k j hz hp => by unfold ZTape at hz; omega)) (Or.inl (fun k j hz hp => by unfold ZTest at hz; omega)) (Or.inl (fun k j hz hp => by unfold ZWait at hz; omega)) (Or.inl (fun k j hz hp => by unfold ZImg at hz; omega))
      refine ⟨fun i hi j hj => ?_, fun i hi j hj => ?_⟩
      · by_cases e : i = a1.toNat ∧ j = a2.toNat
        · rw [e.1, e.2, gupd_eq]
          exact h3
        · rw [gupd_ne (by omega), gupd_ne (by omega)]
          exact w i hi j hj
      · by_cases e : i = a1.toNat ∧ j = a2.toNat
        · rw [e.1, e.2, gupd_eq, gupd_ne (by omega)]
          have : 99 + 2 + a1.toNat = 101 + a1.toNat := by omega
          rw [this, gupd_eq]
        · rw [gupd_ne (by omega), gupd_ne (by omega), gupd_ne (by omega), gupd_ne (by omega)]
          exact c i hi j hj
  · exact ⟨_, _, _, sp_X_story_b h, sp_M_story_b h, hI⟩
