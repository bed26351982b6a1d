/-! One scene becomes as another: the pieces. -/
variable {L d : Nat} {σ σ1 : Nat → Nat → Int} {Q : Option gV → (Nat → Nat → Int) → Prop} {a0 a1 a2 a3 a4 a5 a6 a7 a8 a9 a10 a11 s0 s1 s2 s3 s4 s5 s6 s7 s8 s9 : Int} {l0 l1 l2 l3 l4 l5 l6 l7 l8 l9 l10 l11 t0 t1 t2 t3 t4 t5 t6 t7 t8 t9 : gV} {b0 b1 b2 b3 b4 b5 b6 b7 b8 b9 b10 b11 c0 c1 c2 c3 c4 c5 c6 c7 c8 c9 : Nat} {r : Option gV}
theorem gcpy_z {σ : gMm} {k q n j : Nat} (h : j < n) : gcpy σ k 0 q 0 n q j = σ k j := by
  unfold gcpy
  rw [if_pos ⟨rfl, by omega, by omega⟩, show 0 + (j - 0) = j by omega]
theorem gq180 : ∀ i : Nat, i < 12 → gq 180 i = 181 + i ∧ gK (181 + i) = 100 ∧ ((gN (181 + i) : Nat) : Int) = 96 := by decide +kernel
theorem gq79' : ∀ i : Nat, i < 12 → gq 79 i = 80 + i ∧ gK (80 + i) = 100 ∧ ((gN (80 + i) : Nat) : Int) = 96 := by decide +kernel
theorem gq100' : ∀ i : Nat, i < 8 → gq 100 i = 101 + i ∧ gK (101 + i) = 100 ∧ ((gN (101 + i) : Nat) : Int) = 2 := by decide +kernel
theorem gq201 : ∀ i : Nat, i < 8 → gq 201 i = 202 + i ∧ gK (202 + i) = 100 ∧ ((gN (202 + i) : Nat) : Int) = 2 := by decide +kernel
theorem gq114' : ∀ i : Nat, i < 8 → gq 114 i = 115 + i ∧ gK (115 + i) = 100 ∧ ((gN (115 + i) : Nat) : Int) = 10 := by decide +kernel
theorem gq215 : ∀ i : Nat, i < 8 → gq 215 i = 216 + i ∧ gK (216 + i) = 100 ∧ ((gN (216 + i) : Nat) : Int) = 10 := by decide +kernel
theorem r_G_become_0 : Wp L d k_G_become 0 [l0, vR b1] [] σ Q ↔ Wp L d k_G_become 1 [l0, vR b1] [vR b1] σ Q := wp_aload rfl rfl
theorem r_G_become_1 (h : gK c0 = 2) : Wp L d k_G_become 1 [l0, l1] [vR c0] σ Q ↔ Wp L d k_G_become 4 [l0, l1] [vR (gq c0 0)] σ Q := wp_getR (c := 640) rfl rfl rfl rfl rfl h
theorem r_G_become_4 : Wp L d k_G_become 4 [l0, l1] [vR c0] σ Q ↔ Wp L d k_G_become 5 [l0, l1] [vI 0, vR c0] σ Q := wp_push rfl
theorem r_G_become_5 : Wp L d k_G_become 5 [vR b0, l1] [vI s1, vR c0] σ Q ↔ Wp L d k_G_become 6 [vR b0, l1] [vR b0, vI s1, vR c0] σ Q := wp_aload rfl rfl
theorem r_G_become_6 (h : gK c2 = 2) : Wp L d k_G_become 6 [l0, l1] [vR c2, vI s1, vR c0] σ Q ↔ Wp L d k_G_become 9 [l0, l1] [vR (gq c2 0), vI s1, vR c0] σ Q := wp_getR (c := 640) rfl rfl rfl rfl rfl h
theorem r_G_become_9 : Wp L d k_G_become 9 [l0, l1] [vR c2, vI s1, vR c0] σ Q ↔ Wp L d k_G_become 10 [l0, l1] [vI 0, vR c2, vI s1, vR c0] σ Q := wp_push rfl
theorem r_G_become_10 : Wp L d k_G_become 10 [l0, l1] [vI s3, vR c2, vI s1, vR c0] σ Q ↔ Wp L d k_G_become 12 [l0, l1] [vI 60, vI s3, vR c2, vI s1, vR c0] σ Q := wp_push rfl
theorem r_G_become_12 (h : gK c0 = 100) (h2 : gK c2 = 100) (hx : 0 ≤ s4 ∧ 0 ≤ s1 ∧ 0 ≤ s3 ∧ s1 + s4 ≤ gN c0 ∧ s3 + s4 ≤ gN c2) : Wp L d k_G_become 12 [l0, l1] [vI s4, vI s3, vR c2, vI s1, vR c0] σ Q ↔ Wp L d k_G_become 15 [l0, l1] [] (gcpy σ c0 s1.toNat c2 s3.toNat s4.toNat) Q := wp_copy rfl rfl h h2 hx
theorem r_G_become_15 : Wp L d k_G_become 15 [vR b0, l1] [] σ Q ↔ Wp L d k_G_become 16 [vR b0, l1] [vR b0] σ Q := wp_aload rfl rfl
theorem r_G_become_16 : Wp L d k_G_become 16 [l0, vR b1] [vR c0] σ Q ↔ Wp L d k_G_become 17 [l0, vR b1] [vR b1, vR c0] σ Q := wp_aload rfl rfl
theorem r_G_become_17 (h : gK c1 = 2) : Wp L d k_G_become 17 [l0, l1] [vR c1, vR c0] σ Q ↔ Wp L d k_G_become 20 [l0, l1] [vI (σ c1 1), vR c0] σ Q := wp_getI (c := 513) rfl rfl rfl rfl h
theorem r_G_become_20 (h : gK c0 = 2) : Wp L d k_G_become 20 [l0, l1] [vI s1, vR c0] σ Q ↔ Wp L d k_G_become 23 [l0, l1] [] (gupd σ c0 1 s1) Q := wp_putI (c := 513) rfl rfl rfl rfl h
theorem r_G_become_23 : Wp L d k_G_become 23 [vR b0, l1] [] σ Q ↔ Wp L d k_G_become 24 [vR b0, l1] [vR b0] σ Q := wp_aload rfl rfl
theorem r_G_become_24 : Wp L d k_G_become 24 [l0, vR b1] [vR c0] σ Q ↔ Wp L d k_G_become 25 [l0, vR b1] [vR b1, vR c0] σ Q := wp_aload rfl rfl
theorem r_G_become_25 (h : gK c1 = 2) : Wp L d k_G_become 25 [l0, l1] [vR c1, vR c0] σ Q ↔ Wp L d k_G_become 28 [l0, l1] [vI (σ c1 2), vR c0] σ Q := wp_getI (c := 514) rfl rfl rfl rfl h
theorem r_G_become_28 (h : gK c0 = 2) : Wp L d k_G_become 28 [l0, l1] [vI s1, vR c0] σ Q ↔ Wp L d k_G_become 31 [l0, l1] [] (gupd σ c0 2 s1) Q := wp_putI (c := 514) rfl rfl rfl rfl h
theorem r_G_become_31 : Wp L d k_G_become 31 [l0, l1] [] σ Q ↔ Q none σ := wp_vret rfl
theorem sp_G_become_0 {f : Nat → Int} (hc : CG 198 f σ) : ∃ σ', Run L d 121 [vR 97, vR 198] σ none σ' ∧ CG 97 f σ' ∧ Agr σ σ' (fun k _ => k = 97 ∨ k = 98) := by
  refine Run_ex (C' := k_G_become) rfl ?_
  show Wp L d k_G_become 0 [vR 97, vR 198] [] σ _
  have K97 : gK 97 = 2 := by decide +kernel
  have K198 : gK 198 = 2 := by decide +kernel
  have K98 : gK 98 = 100 := by decide +kernel
  have K199 : gK 199 = 100 := by decide +kernel
  have N98 : ((gN 98 : Nat) : Int) = 60 := by decide +kernel
  have N199 : ((gN 199 : Nat) : Int) = 60 := by decide +kernel
  obtain ⟨c1, c2, c3⟩ := hc
  simp (disch := first | assumption | exact gb_01 _ | omega) only [r_G_become_0, r_G_become_1, r_G_become_4, r_G_become_5, r_G_become_6, r_G_become_9, r_G_become_10, r_G_become_12, r_G_become_15, r_G_become_16, r_G_become_17, r_G_become_20, r_G_become_23, r_G_become_24, r_G_become_25, r_G_become_28, r_G_become_31, gq_97_0, gq_198_0, gupd_ne, gcpy_ne, w32_gb, w32i, tn_add, tn_mul, Int.toNat_natCast, Int.toNat_zero, Int.reduceLE, Int.reduceLT, Int.reduceEq, Int.reduceNe, gb_T, gb_F, Int.reduceToNat, eq_self, true_or, or_true, and_true, true_and, and_self, ↓ite_gb0, ↓ite_gbn, ↓if_pos, ↓if_neg, if_true, if_false, not_true_eq_false, not_false_eq_true, gb_ne0, gb_eq0]
  refine ⟨⟨?_, ?_, fun j hj => ?_⟩, Agr_upd (Agr_upd (Agr_cpy (Agr_refl _ _) (fun j _ _ => by omega)) (by omega)) (by omega)⟩
  · simp (disch := omega) only [gupd_ne, gupd_eq]
    exact c1
  · simp (disch := omega) only [gupd_ne, gupd_eq]
    exact c2
  · simp (disch := omega) only [gupd_ne, gcpy_z]
    exact c3 j hj
theorem r_P_become_0 : Wp L d k_P_become 0 [l0, vR b1] [] σ Q ↔ Wp L d k_P_become 1 [l0, vR b1] [vR b1] σ Q := wp_aload rfl rfl
theorem r_P_become_1 (h : gK c0 = 3) : Wp L d k_P_become 1 [l0, l1] [vR c0] σ Q ↔ Wp L d k_P_become 4 [l0, l1] [vR (gq c0 0)] σ Q := wp_getR (c := 896) rfl rfl rfl rfl rfl h
theorem r_P_become_4 : Wp L d k_P_become 4 [l0, l1] [vR c0] σ Q ↔ Wp L d k_P_become 5 [l0, l1] [vI 0, vR c0] σ Q := wp_push rfl
theorem r_P_become_5 : Wp L d k_P_become 5 [vR b0, l1] [vI s1, vR c0] σ Q ↔ Wp L d k_P_become 6 [vR b0, l1] [vR b0, vI s1, vR c0] σ Q := wp_aload rfl rfl
theorem r_P_become_6 (h : gK c2 = 3) : Wp L d k_P_become 6 [l0, l1] [vR c2, vI s1, vR c0] σ Q ↔ Wp L d k_P_become 9 [l0, l1] [vR (gq c2 0), vI s1, vR c0] σ Q := wp_getR (c := 896) rfl rfl rfl rfl rfl h
theorem r_P_become_9 : Wp L d k_P_become 9 [l0, l1] [vR c2, vI s1, vR c0] σ Q ↔ Wp L d k_P_become 10 [l0, l1] [vI 0, vR c2, vI s1, vR c0] σ Q := wp_push rfl
theorem r_P_become_10 : Wp L d k_P_become 10 [l0, l1] [vI s3, vR c2, vI s1, vR c0] σ Q ↔ Wp L d k_P_become 12 [l0, l1] [vI 16, vI s3, vR c2, vI s1, vR c0] σ Q := wp_push rfl
theorem r_P_become_12 (h : gK c0 = 100) (h2 : gK c2 = 100) (hx : 0 ≤ s4 ∧ 0 ≤ s1 ∧ 0 ≤ s3 ∧ s1 + s4 ≤ gN c0 ∧ s3 + s4 ≤ gN c2) : Wp L d k_P_become 12 [l0, l1] [vI s4, vI s3, vR c2, vI s1, vR c0] σ Q ↔ Wp L d k_P_become 15 [l0, l1] [] (gcpy σ c0 s1.toNat c2 s3.toNat s4.toNat) Q := wp_copy rfl rfl h h2 hx
theorem r_P_become_15 : Wp L d k_P_become 15 [vR b0, l1] [] σ Q ↔ Wp L d k_P_become 16 [vR b0, l1] [vR b0] σ Q := wp_aload rfl rfl
theorem r_P_become_16 : Wp L d k_P_become 16 [l0, vR b1] [vR c0] σ Q ↔ Wp L d k_P_become 17 [l0, vR b1] [vR b1, vR c0] σ Q := wp_aload rfl rfl
theorem r_P_become_17 (h : gK c1 = 3) : Wp L d k_P_become 17 [l0, l1] [vR c1, vR c0] σ Q ↔ Wp L d k_P_become 20 [l0, l1] [vI (σ c1 1), vR c0] σ Q := wp_getI (c := 769) rfl rfl rfl rfl h
theorem r_P_become_20 (h : gK c0 = 3) : Wp L d k_P_become 20 [l0, l1] [vI s1, vR c0] σ Q ↔ Wp L d k_P_become 23 [l0, l1] [] (gupd σ c0 1 s1) Q := wp_putI (c := 769) rfl rfl rfl rfl h
theorem r_P_become_23 : Wp L d k_P_become 23 [vR b0, l1] [] σ Q ↔ Wp L d k_P_become 24 [vR b0, l1] [vR b0] σ Q := wp_aload rfl rfl
theorem r_P_become_24 : Wp L d k_P_become 24 [l0, vR b1] [vR c0] σ Q ↔ Wp L d k_P_become 25 [l0, vR b1] [vR b1, vR c0] σ Q := wp_aload rfl rfl
theorem r_P_become_25 (h : gK c1 = 3) : Wp L d k_P_become 25 [l0, l1] [vR c1, vR c0] σ Q ↔ Wp L d k_P_become 28 [l0, l1] [vI (σ c1 2), vR c0] σ Q := wp_getI (c := 770) rfl rfl rfl rfl h
theorem r_P_become_28 (h : gK c0 = 3) : Wp L d k_P_become 28 [l0, l1] [vI s1, vR c0] σ Q ↔ Wp L d k_P_become 31 [l0, l1] [] (gupd σ c0 2 s1) Q := wp_putI (c := 770) rfl rfl rfl rfl h
theorem r_P_become_31 : Wp L d k_P_become 31 [vR b0, l1] [] σ Q ↔ Wp L d k_P_become 32 [vR b0, l1] [vR b0] σ Q := wp_aload rfl rfl
theorem r_P_become_32 : Wp L d k_P_become 32 [l0, vR b1] [vR c0] σ Q ↔ Wp L d k_P_become 33 [l0, vR b1] [vR b1, vR c0] σ Q := wp_aload rfl rfl
theorem r_P_become_33 (h : gK c1 = 3) : Wp L d k_P_become 33 [l0, l1] [vR c1, vR c0] σ Q ↔ Wp L d k_P_become 36 [l0, l1] [vI (σ c1 3), vR c0] σ Q := wp_getI (c := 771) rfl rfl rfl rfl h
theorem r_P_become_36 (h : gK c0 = 3) : Wp L d k_P_become 36 [l0, l1] [vI s1, vR c0] σ Q ↔ Wp L d k_P_become 39 [l0, l1] [] (gupd σ c0 3 s1) Q := wp_putI (c := 771) rfl rfl rfl rfl h
theorem r_P_become_39 : Wp L d k_P_become 39 [vR b0, l1] [] σ Q ↔ Wp L d k_P_become 40 [vR b0, l1] [vR b0] σ Q := wp_aload rfl rfl
theorem r_P_become_40 : Wp L d k_P_become 40 [l0, vR b1] [vR c0] σ Q ↔ Wp L d k_P_become 41 [l0, vR b1] [vR b1, vR c0] σ Q := wp_aload rfl rfl
theorem r_P_become_41 (h : gK c1 = 3) : Wp L d k_P_become 41 [l0, l1] [vR c1, vR c0] σ Q ↔ Wp L d k_P_become 44 [l0, l1] [vI (σ c1 4), vR c0] σ Q := wp_getI (c := 772) rfl rfl rfl rfl h
theorem r_P_become_44 (h : gK c0 = 3) : Wp L d k_P_become 44 [l0, l1] [vI s1, vR c0] σ Q ↔ Wp L d k_P_become 47 [l0, l1] [] (gupd σ c0 4 s1) Q := wp_putI (c := 772) rfl rfl rfl rfl h
theorem r_P_become_47 : Wp L d k_P_become 47 [l0, l1] [] σ Q ↔ Q none σ := wp_vret rfl
theorem sp_P_become_0 {f : Nat → Int} (hw : WP f) (hc : CP 224 f σ) : ∃ σ', Run L d 124 [vR 123, vR 224] σ none σ' ∧ CP 123 f σ' ∧ Agr σ σ' (fun k _ => k = 123 ∨ k = 124) := by
  refine Run_ex (C' := k_P_become) rfl ?_
  show Wp L d k_P_become 0 [vR 123, vR 224] [] σ _
  have K123 : gK 123 = 3 := by decide +kernel
  have K224 : gK 224 = 3 := by decide +kernel
  have K124 : gK 124 = 100 := by decide +kernel
  have K225 : gK 225 = 100 := by decide +kernel
  have N124 : ((gN 124 : Nat) : Int) = 16 := by decide +kernel
  have N225 : ((gN 225 : Nat) : Int) = 16 := by decide +kernel
  obtain ⟨c1, c2, c3, c4, c5⟩ := hc
  have w5 := hw.2.2.1
  simp (disch := first | assumption | exact gb_01 _ | omega) only [r_P_become_0, r_P_become_1, r_P_become_4, r_P_become_5, r_P_become_6, r_P_become_9, r_P_become_10, r_P_become_12, r_P_become_15, r_P_become_16, r_P_become_17, r_P_become_20, r_P_become_23, r_P_become_24, r_P_become_25, r_P_become_28, r_P_become_31, r_P_become_32, r_P_become_33, r_P_become_36, r_P_become_39, r_P_become_40, r_P_become_41, r_P_become_44, r_P_become_47, gq_123_0, gq_224_0, gupd_ne, gcpy_ne, w32_gb, w32i, tn_add, tn_mul, Int.toNat_natCast, Int.toNat_zero, Int.reduceLE, Int.reduceLT, Int.reduceEq, Int.reduceNe, gb_T, gb_F, Int.reduceToNat, eq_self, true_or, or_true, and_true, true_and, and_self, ↓ite_gb0, ↓ite_gbn, ↓if_pos, ↓if_neg, if_true, if_false, not_true_eq_false, not_false_eq_true, gb_ne0, gb_eq0]
  refine ⟨⟨?_, ?_, ?_, ?_, fun j hj => ?_⟩, Agr_upd (Agr_upd (Agr_upd (Agr_upd (Agr_cpy (Agr_refl _ _) (fun j _ _ => by omega)) (by omega)) (by omega)) (by omega)) (by omega)⟩
  · simp (disch := omega) only [gupd_ne, gupd_eq]
    exact c1
  · simp (disch := omega) only [gupd_ne, gupd_eq]
    exact c2
  · simp (disch := omega) only [gupd_ne, gupd_eq]
    exact c3
  · simp (disch := omega) only [gupd_ne, gupd_eq]
    exact c4
  · simp (disch := omega) only [gupd_ne, gcpy_z]
    exact c5 j hj
theorem r_A_become_0 : Wp L d k_A_become 0 [l0, vR b1] [] σ Q ↔ Wp L d k_A_become 1 [l0, vR b1] [vR b1] σ Q := wp_aload rfl rfl
theorem r_A_become_1 (h : gK c0 = 7) : Wp L d k_A_become 1 [l0, l1] [vR c0] σ Q ↔ Wp L d k_A_become 4 [l0, l1] [vR (gq c0 0)] σ Q := wp_getR (c := 1920) rfl rfl rfl rfl rfl h
theorem r_A_become_4 : Wp L d k_A_become 4 [l0, l1] [vR c0] σ Q ↔ Wp L d k_A_become 5 [l0, l1] [vI 0, vR c0] σ Q := wp_push rfl
theorem r_A_become_5 : Wp L d k_A_become 5 [vR b0, l1] [vI s1, vR c0] σ Q ↔ Wp L d k_A_become 6 [vR b0, l1] [vR b0, vI s1, vR c0] σ Q := wp_aload rfl rfl
theorem r_A_become_6 (h : gK c2 = 7) : Wp L d k_A_become 6 [l0, l1] [vR c2, vI s1, vR c0] σ Q ↔ Wp L d k_A_become 9 [l0, l1] [vR (gq c2 0), vI s1, vR c0] σ Q := wp_getR (c := 1920) rfl rfl rfl rfl rfl h
theorem r_A_become_9 : Wp L d k_A_become 9 [l0, l1] [vR c2, vI s1, vR c0] σ Q ↔ Wp L d k_A_become 10 [l0, l1] [vI 0, vR c2, vI s1, vR c0] σ Q := wp_push rfl
theorem r_A_become_10 : Wp L d k_A_become 10 [l0, l1] [vI s3, vR c2, vI s1, vR c0] σ Q ↔ Wp L d k_A_become 12 [l0, l1] [vI 8, vI s3, vR c2, vI s1, vR c0] σ Q := wp_push rfl
theorem r_A_become_12 (h : gK c0 = 100) (h2 : gK c2 = 100) (hx : 0 ≤ s4 ∧ 0 ≤ s1 ∧ 0 ≤ s3 ∧ s1 + s4 ≤ gN c0 ∧ s3 + s4 ≤ gN c2) : Wp L d k_A_become 12 [l0, l1] [vI s4, vI s3, vR c2, vI s1, vR c0] σ Q ↔ Wp L d k_A_become 15 [l0, l1] [] (gcpy σ c0 s1.toNat c2 s3.toNat s4.toNat) Q := wp_copy rfl rfl h h2 hx
theorem r_A_become_15 : Wp L d k_A_become 15 [vR b0, l1] [] σ Q ↔ Wp L d k_A_become 16 [vR b0, l1] [vR b0] σ Q := wp_aload rfl rfl
theorem r_A_become_16 : Wp L d k_A_become 16 [l0, vR b1] [vR c0] σ Q ↔ Wp L d k_A_become 17 [l0, vR b1] [vR b1, vR c0] σ Q := wp_aload rfl rfl
theorem r_A_become_17 (h : gK c1 = 7) : Wp L d k_A_become 17 [l0, l1] [vR c1, vR c0] σ Q ↔ Wp L d k_A_become 20 [l0, l1] [vI (σ c1 1), vR c0] σ Q := wp_getI (c := 1793) rfl rfl rfl rfl h
theorem r_A_become_20 (h : gK c0 = 7) : Wp L d k_A_become 20 [l0, l1] [vI s1, vR c0] σ Q ↔ Wp L d k_A_become 23 [l0, l1] [] (gupd σ c0 1 s1) Q := wp_putI (c := 1793) rfl rfl rfl rfl h
theorem r_A_become_23 : Wp L d k_A_become 23 [l0, l1] [] σ Q ↔ Q none σ := wp_vret rfl
theorem sp_A_become_0 {f : Nat → Int} (hw : WR f) (hc : CR 226 f σ) : ∃ σ', Run L d 153 [vR 125, vR 226] σ none σ' ∧ CR 125 f σ' ∧ Agr σ σ' (fun k _ => k = 125 ∨ k = 126) := by
  refine Run_ex (C' := k_A_become) rfl ?_
  show Wp L d k_A_become 0 [vR 125, vR 226] [] σ _
  have K125 : gK 125 = 7 := by decide +kernel
  have K226 : gK 226 = 7 := by decide +kernel
  have K126 : gK 126 = 100 := by decide +kernel
  have K227 : gK 227 = 100 := by decide +kernel
  have N126 : ((gN 126 : Nat) : Int) = 8 := by decide +kernel
  have N227 : ((gN 227 : Nat) : Int) = 8 := by decide +kernel
  obtain ⟨c1, c2⟩ := hc
  have w5 := hw.1
  simp (disch := first | assumption | exact gb_01 _ | omega) only [r_A_become_0, r_A_become_1, r_A_become_4, r_A_become_5, r_A_become_6, r_A_become_9, r_A_become_10, r_A_become_12, r_A_become_15, r_A_become_16, r_A_become_17, r_A_become_20, r_A_become_23, gq_125_0, gq_226_0, gupd_ne, gcpy_ne, w32_gb, w32i, tn_add, tn_mul, Int.toNat_natCast, Int.toNat_zero, Int.reduceLE, Int.reduceLT, Int.reduceEq, Int.reduceNe, gb_T, gb_F, Int.reduceToNat, eq_self, true_or, or_true, and_true, true_and, and_self, ↓ite_gb0, ↓ite_gbn, ↓if_pos, ↓if_neg, if_true, if_false, not_true_eq_false, not_false_eq_true, gb_ne0, gb_eq0]
  refine ⟨⟨?_, fun j hj => ?_⟩, Agr_upd (Agr_cpy (Agr_refl _ _) (fun j _ _ => by omega)) (by omega)⟩
  · simp (disch := omega) only [gupd_ne, gupd_eq]
    exact c1
  · simp (disch := omega) only [gupd_ne, gcpy_z]
    exact c2 j hj
theorem r_T_become_0 : Wp L d k_T_become 0 [l0, l1, l2] [] σ Q ↔ Wp L d k_T_become 1 [l0, l1, l2] [vI 0] σ Q := wp_push rfl
theorem r_T_become_1 : Wp L d k_T_become 1 [l0, vR b1, l2] [vI s0] σ Q ↔ Wp L d k_T_become 2 [l0, vR b1, vI s0] [] σ Q := wp_istore (i := 2) (ls := [l0, vR b1, l2]) rfl rfl
theorem r_T_become_2 : Wp L d k_T_become 2 [l0, l1, vI a2] [] σ Q ↔ Wp L d k_T_become 3 [l0, l1, vI a2] [vI a2] σ Q := wp_iload rfl rfl
theorem r_T_become_3 : Wp L d k_T_become 3 [l0, l1, l2] [vI s0] σ Q ↔ Wp L d k_T_become 5 [l0, l1, l2] [vI 8, vI s0] σ Q := wp_push rfl
theorem r_T_become_5 : Wp L d k_T_become 5 [l0, l1, l2] [vI s1, vI s0] σ Q ↔ (if s1 ≤ s0 then Wp L d k_T_become 46 [l0, l1, l2] [] σ Q else Wp L d k_T_become 8 [l0, l1, l2] [] σ Q) := wp_cmp_ge rfl
theorem r_T_become_8 : Wp L d k_T_become 8 [vR b0, l1, l2] [] σ Q ↔ Wp L d k_T_become 9 [vR b0, l1, l2] [vR b0] σ Q := wp_aload rfl rfl
theorem r_T_become_9 (h : gK c0 = 6) : Wp L d k_T_become 9 [l0, l1, l2] [vR c0] σ Q ↔ Wp L d k_T_become 12 [l0, l1, l2] [vR (gq c0 0)] σ Q := wp_getR (c := 1664) rfl rfl rfl rfl rfl h
theorem r_T_become_12 : Wp L d k_T_become 12 [l0, l1, vI a2] [vR c0] σ Q ↔ Wp L d k_T_become 13 [l0, l1, vI a2] [vI a2, vR c0] σ Q := wp_iload rfl rfl
theorem r_T_become_13 (h : gK c0 = 102 ∨ gK c0 = 103) (hx : 0 ≤ s1 ∧ s1 < gN c0) : Wp L d k_T_become 13 [l0, l1, l2] [vI s1, vR c0] σ Q ↔ Wp L d k_T_become 14 [l0, l1, l2] [vR (gq c0 s1.toNat)] σ Q := wp_aald rfl h hx
theorem r_T_become_14 : Wp L d k_T_become 14 [l0, l1, l2] [vR c0] σ Q ↔ Wp L d k_T_become 15 [l0, l1, l2] [vI 0, vR c0] σ Q := wp_push rfl
theorem r_T_become_15 : Wp L d k_T_become 15 [l0, vR b1, l2] [vI s1, vR c0] σ Q ↔ Wp L d k_T_become 16 [l0, vR b1, l2] [vR b1, vI s1, vR c0] σ Q := wp_aload rfl rfl
theorem r_T_become_16 (h : gK c2 = 6) : Wp L d k_T_become 16 [l0, l1, l2] [vR c2, vI s1, vR c0] σ Q ↔ Wp L d k_T_become 19 [l0, l1, l2] [vR (gq c2 0), vI s1, vR c0] σ Q := wp_getR (c := 1664) rfl rfl rfl rfl rfl h
theorem r_T_become_19 : Wp L d k_T_become 19 [l0, l1, vI a2] [vR c2, vI s1, vR c0] σ Q ↔ Wp L d k_T_become 20 [l0, l1, vI a2] [vI a2, vR c2, vI s1, vR c0] σ Q := wp_iload rfl rfl
theorem r_T_become_20 (h : gK c2 = 102 ∨ gK c2 = 103) (hx : 0 ≤ s3 ∧ s3 < gN c2) : Wp L d k_T_become 20 [l0, l1, l2] [vI s3, vR c2, vI s1, vR c0] σ Q ↔ Wp L d k_T_become 21 [l0, l1, l2] [vR (gq c2 s3.toNat), vI s1, vR c0] σ Q := wp_aald rfl h hx
theorem r_T_become_21 : Wp L d k_T_become 21 [l0, l1, l2] [vR c2, vI s1, vR c0] σ Q ↔ Wp L d k_T_become 22 [l0, l1, l2] [vI 0, vR c2, vI s1, vR c0] σ Q := wp_push rfl
theorem r_T_become_22 (h : gK c2 = 100) (hx : 0 ≤ s3 ∧ s3 < gN c2) : Wp L d k_T_become 22 [l0, l1, l2] [vI s3, vR c2, vI s1, vR c0] σ Q ↔ Wp L d k_T_become 23 [l0, l1, l2] [vI (σ c2 s3.toNat), vI s1, vR c0] σ Q := wp_iald rfl h hx
theorem r_T_become_23 (h : gK c0 = 100) (hx : 0 ≤ s1 ∧ s1 < gN c0) : Wp L d k_T_become 23 [l0, l1, l2] [vI s2, vI s1, vR c0] σ Q ↔ Wp L d k_T_become 24 [l0, l1, l2] [] (gupd σ c0 s1.toNat s2) Q := wp_iast rfl h hx
theorem r_T_become_24 : Wp L d k_T_become 24 [vR b0, l1, l2] [] σ Q ↔ Wp L d k_T_become 25 [vR b0, l1, l2] [vR b0] σ Q := wp_aload rfl rfl
theorem r_T_become_25 (h : gK c0 = 6) : Wp L d k_T_become 25 [l0, l1, l2] [vR c0] σ Q ↔ Wp L d k_T_become 28 [l0, l1, l2] [vR (gq c0 0)] σ Q := wp_getR (c := 1664) rfl rfl rfl rfl rfl h
theorem r_T_become_28 : Wp L d k_T_become 28 [l0, l1, vI a2] [vR c0] σ Q ↔ Wp L d k_T_become 29 [l0, l1, vI a2] [vI a2, vR c0] σ Q := wp_iload rfl rfl
theorem r_T_become_29 (h : gK c0 = 102 ∨ gK c0 = 103) (hx : 0 ≤ s1 ∧ s1 < gN c0) : Wp L d k_T_become 29 [l0, l1, l2] [vI s1, vR c0] σ Q ↔ Wp L d k_T_become 30 [l0, l1, l2] [vR (gq c0 s1.toNat)] σ Q := wp_aald rfl h hx
theorem r_T_become_30 : Wp L d k_T_become 30 [l0, l1, l2] [vR c0] σ Q ↔ Wp L d k_T_become 31 [l0, l1, l2] [vI 1, vR c0] σ Q := wp_push rfl
theorem r_T_become_31 : Wp L d k_T_become 31 [l0, vR b1, l2] [vI s1, vR c0] σ Q ↔ Wp L d k_T_become 32 [l0, vR b1, l2] [vR b1, vI s1, vR c0] σ Q := wp_aload rfl rfl
theorem r_T_become_32 (h : gK c2 = 6) : Wp L d k_T_become 32 [l0, l1, l2] [vR c2, vI s1, vR c0] σ Q ↔ Wp L d k_T_become 35 [l0, l1, l2] [vR (gq c2 0), vI s1, vR c0] σ Q := wp_getR (c := 1664) rfl rfl rfl rfl rfl h
theorem r_T_become_35 : Wp L d k_T_become 35 [l0, l1, vI a2] [vR c2, vI s1, vR c0] σ Q ↔ Wp L d k_T_become 36 [l0, l1, vI a2] [vI a2, vR c2, vI s1, vR c0] σ Q := wp_iload rfl rfl
theorem r_T_become_36 (h : gK c2 = 102 ∨ gK c2 = 103) (hx : 0 ≤ s3 ∧ s3 < gN c2) : Wp L d k_T_become 36 [l0, l1, l2] [vI s3, vR c2, vI s1, vR c0] σ Q ↔ Wp L d k_T_become 37 [l0, l1, l2] [vR (gq c2 s3.toNat), vI s1, vR c0] σ Q := wp_aald rfl h hx
theorem r_T_become_37 : Wp L d k_T_become 37 [l0, l1, l2] [vR c2, vI s1, vR c0] σ Q ↔ Wp L d k_T_become 38 [l0, l1, l2] [vI 1, vR c2, vI s1, vR c0] σ Q := wp_push rfl
theorem r_T_become_38 (h : gK c2 = 100) (hx : 0 ≤ s3 ∧ s3 < gN c2) : Wp L d k_T_become 38 [l0, l1, l2] [vI s3, vR c2, vI s1, vR c0] σ Q ↔ Wp L d k_T_become 39 [l0, l1, l2] [vI (σ c2 s3.toNat), vI s1, vR c0] σ Q := wp_iald rfl h hx
theorem r_T_become_39 (h : gK c0 = 100) (hx : 0 ≤ s1 ∧ s1 < gN c0) : Wp L d k_T_become 39 [l0, l1, l2] [vI s2, vI s1, vR c0] σ Q ↔ Wp L d k_T_become 40 [l0, l1, l2] [] (gupd σ c0 s1.toNat s2) Q := wp_iast rfl h hx
theorem r_T_become_40 : Wp L d k_T_become 40 [l0, vR b1, vI a2] [] σ Q ↔ Wp L d k_T_become 43 [l0, vR b1, vI (w32 (a2 + 1))] [] σ Q := wp_iinc (i := 2) (ls := [l0, vR b1, vI a2]) rfl rfl
theorem r_T_become_43 : Wp L d k_T_become 43 [l0, l1, l2] [] σ Q ↔ Wp L d k_T_become 2 [l0, l1, l2] [] σ Q := wp_goto rfl
theorem r_T_become_46 : Wp L d k_T_become 46 [l0, l1, l2] [] σ Q ↔ Q none σ := wp_vret rfl
theorem sp_T_become_0 {f : Nat → Int} (hc : CS 200 f σ) : ∃ σ', Run L d 146 [vR 99, vR 200] σ none σ' ∧ CS 99 f σ' ∧ Agr σ σ' (fun k _ => 99 ≤ k ∧ k ≤ 108) := by
  refine Run_ex (C' := k_T_become) rfl ?_
  show Wp L d k_T_become 0 [vR 99, vR 200, vU] [] σ _
  have K99 : gK 99 = 6 := by decide +kernel
  have K200 : gK 200 = 6 := by decide +kernel
  have K100 : gK 100 = 103 := by decide +kernel
  have K201 : gK 201 = 103 := by decide +kernel
  have N100 : ((gN 100 : Nat) : Int) = 8 := by decide +kernel
  have N201 : ((gN 201 : Nat) : Int) = 8 := by decide +kernel
  simp only [r_T_become_0, r_T_become_1, r_T_become_3, r_T_become_5, r_T_become_8, r_T_become_9, r_T_become_12, r_T_become_13, r_T_become_14, r_T_become_15, r_T_become_16, r_T_become_19, r_T_become_20, r_T_become_21, r_T_become_22, r_T_become_23, r_T_become_24, r_T_become_25, r_T_become_28, r_T_become_29, r_T_become_30, r_T_become_31, r_T_become_32, r_T_become_35, r_T_become_36, r_T_become_37, r_T_become_38, r_T_become_39, r_T_become_40, r_T_become_43, r_T_become_46]
  refine wloop (n := 8) (I := fun k ls τ => ls = [vR 99, vR 200, vI (k : Int)] ∧ (∀ i : Nat, i < k → τ (101 + i) 0 = σ (202 + i) 0 ∧ τ (101 + i) 1 = σ (202 + i) 1) ∧ Agr σ τ (fun k _ => 99 ≤ k ∧ k ≤ 99 + 9)) (fun k ls τ hk hi hq => ?_) (fun ls τ hi => ?_) 8 0 (by omega) _ _ ⟨rfl, fun i hi => by omega, Agr_refl _ _⟩
  · obtain ⟨rfl, h1, hA⟩ := hi
    obtain ⟨x1, x2, x3⟩ := gq100' k hk
    obtain ⟨y1, y2, y3⟩ := gq201 k hk
    have e0 : τ (202 + k) 0 = σ (202 + k) 0 := hA _ _ (by omega)
    have e1 : τ (202 + k) 1 = σ (202 + k) 1 := hA _ _ (by omega)
    rw [r_T_become_2]
    simp (disch := first | assumption | exact gb_01 _ | omega) only [r_T_become_0, r_T_become_1, r_T_become_3, r_T_become_5, r_T_become_8, r_T_become_9, r_T_become_12, r_T_become_13, r_T_become_14, r_T_become_15, r_T_become_16, r_T_become_19, r_T_become_20, r_T_become_21, r_T_become_22, r_T_become_23, r_T_become_24, r_T_become_25, r_T_become_28, r_T_become_29, r_T_become_30, r_T_become_31, r_T_become_32, r_T_become_35, r_T_become_36, r_T_become_37, r_T_become_38, r_T_become_39, r_T_become_40, r_T_become_43, r_T_become_46, gq_99_0, gq_200_0, x1, y1, e0, e1, gupd_ne, w32_gb, w32i, tn_add, tn_mul, Int.toNat_natCast, Int.toNat_zero, Int.reduceLE, Int.reduceLT, Int.reduceEq, Int.reduceNe, gb_T, gb_F, Int.reduceToNat, eq_self, true_or, or_true, and_true, true_and, and_self, ↓ite_gb0, ↓ite_gbn, ↓if_pos, ↓if_neg, if_true, if_false, not_true_eq_false, not_false_eq_true, gb_ne0, gb_eq0]
    refine hq _ _ ⟨by simp only [List.cons.injEq, vI_inj, vR_inj, and_true, true_and]; omega, fun i hi => ?_, Agr_upd (Agr_upd hA (by omega)) (by omega)⟩
    by_cases e : i = k
    · rw [e]
      simp (disch := omega) only [Nat.reduceAdd, gupd_ne, gupd_eq, and_self]
    · simp (disch := omega) only [Nat.reduceAdd, gupd_ne]
      exact h1 i (by omega)
  · obtain ⟨rfl, h1, hA⟩ := hi
    rw [r_T_become_2]
    simp (disch := first | assumption | exact gb_01 _ | omega) only [r_T_become_0, r_T_become_1, r_T_become_3, r_T_become_5, r_T_become_8, r_T_become_9, r_T_become_12, r_T_become_13, r_T_become_14, r_T_become_15, r_T_become_16, r_T_become_19, r_T_become_20, r_T_become_21, r_T_become_22, r_T_become_23, r_T_become_24, r_T_become_25, r_T_become_28, r_T_become_29, r_T_become_30, r_T_become_31, r_T_become_32, r_T_become_35, r_T_become_36, r_T_become_37, r_T_become_38, r_T_become_39, r_T_become_40, r_T_become_43, r_T_become_46, w32_gb, w32i, tn_add, tn_mul, Int.toNat_natCast, Int.toNat_zero, Int.reduceLE, Int.reduceLT, Int.reduceEq, Int.reduceNe, gb_T, gb_F, Int.reduceToNat, eq_self, true_or, or_true, and_true, true_and, and_self, ↓ite_gb0, ↓ite_gbn, ↓if_pos, ↓if_neg, if_true, if_false, not_true_eq_false, not_false_eq_true, gb_ne0, gb_eq0]
    refine ⟨fun i hi j hj => ?_, hA⟩
    have y := h1 i hi
    have : j = 0 ∨ j = 1 := by omega
    rcases this with rfl | rfl
    · exact y.1.trans (hc i hi 0 (by omega))
    · exact y.2.trans (hc i hi 1 (by omega))
theorem r_D_become_0 : Wp L d k_D_become 0 [vR b0, l1, l2] [] σ Q ↔ Wp L d k_D_become 1 [vR b0, l1, l2] [vR b0] σ Q := wp_aload rfl rfl
theorem r_D_become_1 : Wp L d k_D_become 1 [l0, vR b1, l2] [vR c0] σ Q ↔ Wp L d k_D_become 2 [l0, vR b1, l2] [vR b1, vR c0] σ Q := wp_aload rfl rfl
theorem r_D_become_2 (h : gK c1 = 11) : Wp L d k_D_become 2 [l0, l1, l2] [vR c1, vR c0] σ Q ↔ Wp L d k_D_become 5 [l0, l1, l2] [vI (σ c1 5), vR c0] σ Q := wp_getI (c := 2821) rfl rfl rfl rfl h
theorem r_D_become_5 (h : gK c0 = 11) : Wp L d k_D_become 5 [l0, l1, l2] [vI s1, vR c0] σ Q ↔ Wp L d k_D_become 8 [l0, l1, l2] [] (gupd σ c0 5 s1) Q := wp_putI (c := 2821) rfl rfl rfl rfl h
theorem r_D_become_8 : Wp L d k_D_become 8 [l0, vR b1, l2] [] σ Q ↔ Wp L d k_D_become 9 [l0, vR b1, l2] [vR b1] σ Q := wp_aload rfl rfl
theorem r_D_become_9 (h : gK c0 = 11) : Wp L d k_D_become 9 [l0, l1, l2] [vR c0] σ Q ↔ Wp L d k_D_become 12 [l0, l1, l2] [vR (gq c0 0)] σ Q := wp_getR (c := 2944) rfl rfl rfl rfl rfl h
theorem r_D_become_12 : Wp L d k_D_become 12 [l0, l1, l2] [vR c0] σ Q ↔ Wp L d k_D_become 13 [l0, l1, l2] [vI 0, vR c0] σ Q := wp_push rfl
theorem r_D_become_13 : Wp L d k_D_become 13 [vR b0, l1, l2] [vI s1, vR c0] σ Q ↔ Wp L d k_D_become 14 [vR b0, l1, l2] [vR b0, vI s1, vR c0] σ Q := wp_aload rfl rfl
theorem r_D_become_14 (h : gK c2 = 11) : Wp L d k_D_become 14 [l0, l1, l2] [vR c2, vI s1, vR c0] σ Q ↔ Wp L d k_D_become 17 [l0, l1, l2] [vR (gq c2 0), vI s1, vR c0] σ Q := wp_getR (c := 2944) rfl rfl rfl rfl rfl h
theorem r_D_become_17 : Wp L d k_D_become 17 [l0, l1, l2] [vR c2, vI s1, vR c0] σ Q ↔ Wp L d k_D_become 18 [l0, l1, l2] [vI 0, vR c2, vI s1, vR c0] σ Q := wp_push rfl
theorem r_D_become_18 : Wp L d k_D_become 18 [l0, l1, l2] [vI s3, vR c2, vI s1, vR c0] σ Q ↔ Wp L d k_D_become 20 [l0, l1, l2] [vI 30, vI s3, vR c2, vI s1, vR c0] σ Q := wp_push rfl
theorem r_D_become_20 (h : gK c0 = 100) (h2 : gK c2 = 100) (hx : 0 ≤ s4 ∧ 0 ≤ s1 ∧ 0 ≤ s3 ∧ s1 + s4 ≤ gN c0 ∧ s3 + s4 ≤ gN c2) : Wp L d k_D_become 20 [l0, l1, l2] [vI s4, vI s3, vR c2, vI s1, vR c0] σ Q ↔ Wp L d k_D_become 23 [l0, l1, l2] [] (gcpy σ c0 s1.toNat c2 s3.toNat s4.toNat) Q := wp_copy rfl rfl h h2 hx
theorem r_D_become_23 : Wp L d k_D_become 23 [l0, vR b1, l2] [] σ Q ↔ Wp L d k_D_become 24 [l0, vR b1, l2] [vR b1] σ Q := wp_aload rfl rfl
theorem r_D_become_24 (h : gK c0 = 11) : Wp L d k_D_become 24 [l0, l1, l2] [vR c0] σ Q ↔ Wp L d k_D_become 27 [l0, l1, l2] [vR (gq c0 1)] σ Q := wp_getR (c := 2945) rfl rfl rfl rfl rfl h
theorem r_D_become_27 : Wp L d k_D_become 27 [l0, l1, l2] [vR c0] σ Q ↔ Wp L d k_D_become 28 [l0, l1, l2] [vI 0, vR c0] σ Q := wp_push rfl
theorem r_D_become_28 : Wp L d k_D_become 28 [vR b0, l1, l2] [vI s1, vR c0] σ Q ↔ Wp L d k_D_become 29 [vR b0, l1, l2] [vR b0, vI s1, vR c0] σ Q := wp_aload rfl rfl
theorem r_D_become_29 (h : gK c2 = 11) : Wp L d k_D_become 29 [l0, l1, l2] [vR c2, vI s1, vR c0] σ Q ↔ Wp L d k_D_become 32 [l0, l1, l2] [vR (gq c2 1), vI s1, vR c0] σ Q := wp_getR (c := 2945) rfl rfl rfl rfl rfl h
theorem r_D_become_32 : Wp L d k_D_become 32 [l0, l1, l2] [vR c2, vI s1, vR c0] σ Q ↔ Wp L d k_D_become 33 [l0, l1, l2] [vI 0, vR c2, vI s1, vR c0] σ Q := wp_push rfl
theorem r_D_become_33 : Wp L d k_D_become 33 [l0, l1, l2] [vI s3, vR c2, vI s1, vR c0] σ Q ↔ Wp L d k_D_become 35 [l0, l1, l2] [vI 30, vI s3, vR c2, vI s1, vR c0] σ Q := wp_push rfl
theorem r_D_become_35 (h : gK c0 = 100) (h2 : gK c2 = 100) (hx : 0 ≤ s4 ∧ 0 ≤ s1 ∧ 0 ≤ s3 ∧ s1 + s4 ≤ gN c0 ∧ s3 + s4 ≤ gN c2) : Wp L d k_D_become 35 [l0, l1, l2] [vI s4, vI s3, vR c2, vI s1, vR c0] σ Q ↔ Wp L d k_D_become 38 [l0, l1, l2] [] (gcpy σ c0 s1.toNat c2 s3.toNat s4.toNat) Q := wp_copy rfl rfl h h2 hx
theorem r_D_become_38 : Wp L d k_D_become 38 [l0, vR b1, l2] [] σ Q ↔ Wp L d k_D_become 39 [l0, vR b1, l2] [vR b1] σ Q := wp_aload rfl rfl
theorem r_D_become_39 (h : gK c0 = 11) : Wp L d k_D_become 39 [l0, l1, l2] [vR c0] σ Q ↔ Wp L d k_D_become 42 [l0, l1, l2] [vR (gq c0 2)] σ Q := wp_getR (c := 2946) rfl rfl rfl rfl rfl h
theorem r_D_become_42 : Wp L d k_D_become 42 [l0, l1, l2] [vR c0] σ Q ↔ Wp L d k_D_become 43 [l0, l1, l2] [vI 0, vR c0] σ Q := wp_push rfl
theorem r_D_become_43 : Wp L d k_D_become 43 [vR b0, l1, l2] [vI s1, vR c0] σ Q ↔ Wp L d k_D_become 44 [vR b0, l1, l2] [vR b0, vI s1, vR c0] σ Q := wp_aload rfl rfl
theorem r_D_become_44 (h : gK c2 = 11) : Wp L d k_D_become 44 [l0, l1, l2] [vR c2, vI s1, vR c0] σ Q ↔ Wp L d k_D_become 47 [l0, l1, l2] [vR (gq c2 2), vI s1, vR c0] σ Q := wp_getR (c := 2946) rfl rfl rfl rfl rfl h
theorem r_D_become_47 : Wp L d k_D_become 47 [l0, l1, l2] [vR c2, vI s1, vR c0] σ Q ↔ Wp L d k_D_become 48 [l0, l1, l2] [vI 0, vR c2, vI s1, vR c0] σ Q := wp_push rfl
theorem r_D_become_48 : Wp L d k_D_become 48 [l0, l1, l2] [vI s3, vR c2, vI s1, vR c0] σ Q ↔ Wp L d k_D_become 50 [l0, l1, l2] [vI 30, vI s3, vR c2, vI s1, vR c0] σ Q := wp_push rfl
theorem r_D_become_50 (h : gK c0 = 100) (h2 : gK c2 = 100) (hx : 0 ≤ s4 ∧ 0 ≤ s1 ∧ 0 ≤ s3 ∧ s1 + s4 ≤ gN c0 ∧ s3 + s4 ≤ gN c2) : Wp L d k_D_become 50 [l0, l1, l2] [vI s4, vI s3, vR c2, vI s1, vR c0] σ Q ↔ Wp L d k_D_become 53 [l0, l1, l2] [] (gcpy σ c0 s1.toNat c2 s3.toNat s4.toNat) Q := wp_copy rfl rfl h h2 hx
theorem r_D_become_53 : Wp L d k_D_become 53 [l0, vR b1, l2] [] σ Q ↔ Wp L d k_D_become 54 [l0, vR b1, l2] [vR b1] σ Q := wp_aload rfl rfl
theorem r_D_become_54 (h : gK c0 = 11) : Wp L d k_D_become 54 [l0, l1, l2] [vR c0] σ Q ↔ Wp L d k_D_become 57 [l0, l1, l2] [vR (gq c0 3)] σ Q := wp_getR (c := 2947) rfl rfl rfl rfl rfl h
theorem r_D_become_57 : Wp L d k_D_become 57 [l0, l1, l2] [vR c0] σ Q ↔ Wp L d k_D_become 58 [l0, l1, l2] [vI 0, vR c0] σ Q := wp_push rfl
theorem r_D_become_58 : Wp L d k_D_become 58 [vR b0, l1, l2] [vI s1, vR c0] σ Q ↔ Wp L d k_D_become 59 [vR b0, l1, l2] [vR b0, vI s1, vR c0] σ Q := wp_aload rfl rfl
theorem r_D_become_59 (h : gK c2 = 11) : Wp L d k_D_become 59 [l0, l1, l2] [vR c2, vI s1, vR c0] σ Q ↔ Wp L d k_D_become 62 [l0, l1, l2] [vR (gq c2 3), vI s1, vR c0] σ Q := wp_getR (c := 2947) rfl rfl rfl rfl rfl h
theorem r_D_become_62 : Wp L d k_D_become 62 [l0, l1, l2] [vR c2, vI s1, vR c0] σ Q ↔ Wp L d k_D_become 63 [l0, l1, l2] [vI 0, vR c2, vI s1, vR c0] σ Q := wp_push rfl
theorem r_D_become_63 : Wp L d k_D_become 63 [l0, l1, l2] [vI s3, vR c2, vI s1, vR c0] σ Q ↔ Wp L d k_D_become 65 [l0, l1, l2] [vI 30, vI s3, vR c2, vI s1, vR c0] σ Q := wp_push rfl
theorem r_D_become_65 (h : gK c0 = 100) (h2 : gK c2 = 100) (hx : 0 ≤ s4 ∧ 0 ≤ s1 ∧ 0 ≤ s3 ∧ s1 + s4 ≤ gN c0 ∧ s3 + s4 ≤ gN c2) : Wp L d k_D_become 65 [l0, l1, l2] [vI s4, vI s3, vR c2, vI s1, vR c0] σ Q ↔ Wp L d k_D_become 68 [l0, l1, l2] [] (gcpy σ c0 s1.toNat c2 s3.toNat s4.toNat) Q := wp_copy rfl rfl h h2 hx
theorem r_D_become_68 : Wp L d k_D_become 68 [l0, l1, l2] [] σ Q ↔ Wp L d k_D_become 69 [l0, l1, l2] [vI 0] σ Q := wp_push rfl
theorem r_D_become_69 : Wp L d k_D_become 69 [l0, vR b1, l2] [vI s0] σ Q ↔ Wp L d k_D_become 70 [l0, vR b1, vI s0] [] σ Q := wp_istore (i := 2) (ls := [l0, vR b1, l2]) rfl rfl
theorem r_D_become_70 : Wp L d k_D_become 70 [l0, l1, vI a2] [] σ Q ↔ Wp L d k_D_become 71 [l0, l1, vI a2] [vI a2] σ Q := wp_iload rfl rfl
theorem r_D_become_71 : Wp L d k_D_become 71 [l0, l1, l2] [vI s0] σ Q ↔ Wp L d k_D_become 73 [l0, l1, l2] [vI 8, vI s0] σ Q := wp_push rfl
theorem r_D_become_73 : Wp L d k_D_become 73 [l0, l1, l2] [vI s1, vI s0] σ Q ↔ (if s1 ≤ s0 then Wp L d k_D_become 101 [l0, l1, l2] [] σ Q else Wp L d k_D_become 76 [l0, l1, l2] [] σ Q) := wp_cmp_ge rfl
theorem r_D_become_76 : Wp L d k_D_become 76 [l0, vR b1, l2] [] σ Q ↔ Wp L d k_D_become 77 [l0, vR b1, l2] [vR b1] σ Q := wp_aload rfl rfl
theorem r_D_become_77 (h : gK c0 = 11) : Wp L d k_D_become 77 [l0, l1, l2] [vR c0] σ Q ↔ Wp L d k_D_become 80 [l0, l1, l2] [vR (gq c0 4)] σ Q := wp_getR (c := 2948) rfl rfl rfl rfl rfl h
theorem r_D_become_80 : Wp L d k_D_become 80 [l0, l1, vI a2] [vR c0] σ Q ↔ Wp L d k_D_become 81 [l0, l1, vI a2] [vI a2, vR c0] σ Q := wp_iload rfl rfl
theorem r_D_become_81 (h : gK c0 = 102 ∨ gK c0 = 103) (hx : 0 ≤ s1 ∧ s1 < gN c0) : Wp L d k_D_become 81 [l0, l1, l2] [vI s1, vR c0] σ Q ↔ Wp L d k_D_become 82 [l0, l1, l2] [vR (gq c0 s1.toNat)] σ Q := wp_aald rfl h hx
theorem r_D_become_82 : Wp L d k_D_become 82 [l0, l1, l2] [vR c0] σ Q ↔ Wp L d k_D_become 83 [l0, l1, l2] [vI 0, vR c0] σ Q := wp_push rfl
theorem r_D_become_83 : Wp L d k_D_become 83 [vR b0, l1, l2] [vI s1, vR c0] σ Q ↔ Wp L d k_D_become 84 [vR b0, l1, l2] [vR b0, vI s1, vR c0] σ Q := wp_aload rfl rfl
theorem r_D_become_84 (h : gK c2 = 11) : Wp L d k_D_become 84 [l0, l1, l2] [vR c2, vI s1, vR c0] σ Q ↔ Wp L d k_D_become 87 [l0, l1, l2] [vR (gq c2 4), vI s1, vR c0] σ Q := wp_getR (c := 2948) rfl rfl rfl rfl rfl h
theorem r_D_become_87 : Wp L d k_D_become 87 [l0, l1, vI a2] [vR c2, vI s1, vR c0] σ Q ↔ Wp L d k_D_become 88 [l0, l1, vI a2] [vI a2, vR c2, vI s1, vR c0] σ Q := wp_iload rfl rfl
theorem r_D_become_88 (h : gK c2 = 102 ∨ gK c2 = 103) (hx : 0 ≤ s3 ∧ s3 < gN c2) : Wp L d k_D_become 88 [l0, l1, l2] [vI s3, vR c2, vI s1, vR c0] σ Q ↔ Wp L d k_D_become 89 [l0, l1, l2] [vR (gq c2 s3.toNat), vI s1, vR c0] σ Q := wp_aald rfl h hx
theorem r_D_become_89 : Wp L d k_D_become 89 [l0, l1, l2] [vR c2, vI s1, vR c0] σ Q ↔ Wp L d k_D_become 90 [l0, l1, l2] [vI 0, vR c2, vI s1, vR c0] σ Q := wp_push rfl
theorem r_D_become_90 : Wp L d k_D_become 90 [l0, l1, l2] [vI s3, vR c2, vI s1, vR c0] σ Q ↔ Wp L d k_D_become 92 [l0, l1, l2] [vI 10, vI s3, vR c2, vI s1, vR c0] σ Q := wp_push rfl
theorem r_D_become_92 (h : gK c0 = 100) (h2 : gK c2 = 100) (hx : 0 ≤ s4 ∧ 0 ≤ s1 ∧ 0 ≤ s3 ∧ s1 + s4 ≤ gN c0 ∧ s3 + s4 ≤ gN c2) : Wp L d k_D_become 92 [l0, l1, l2] [vI s4, vI s3, vR c2, vI s1, vR c0] σ Q ↔ Wp L d k_D_become 95 [l0, l1, l2] [] (gcpy σ c0 s1.toNat c2 s3.toNat s4.toNat) Q := wp_copy rfl rfl h h2 hx
theorem r_D_become_95 : Wp L d k_D_become 95 [l0, vR b1, vI a2] [] σ Q ↔ Wp L d k_D_become 98 [l0, vR b1, vI (w32 (a2 + 1))] [] σ Q := wp_iinc (i := 2) (ls := [l0, vR b1, vI a2]) rfl rfl
theorem r_D_become_98 : Wp L d k_D_become 98 [l0, l1, l2] [] σ Q ↔ Wp L d k_D_become 70 [l0, l1, l2] [] σ Q := wp_goto rfl
theorem r_D_become_101 : Wp L d k_D_become 101 [l0, l1, l2] [] σ Q ↔ Q none σ := wp_vret rfl
theorem sp_D_become_0 {f : Nat → Int} (hw : WW f) (hc : CW 210 f σ) : ∃ σ', Run L d 190 [vR 109, vR 210] σ none σ' ∧ CW 109 f σ' ∧ Agr σ σ' (fun k _ => 109 ≤ k ∧ k ≤ 122) := by
  refine Run_ex (C' := k_D_become) rfl ?_
  show Wp L d k_D_become 0 [vR 109, vR 210, vU] [] σ _
  have K109 : gK 109 = 11 := by decide +kernel
  have K210 : gK 210 = 11 := by decide +kernel
  have K110 : gK 110 = 100 := by decide +kernel
  have K111 : gK 111 = 100 := by decide +kernel
  have K112 : gK 112 = 100 := by decide +kernel
  have K113 : gK 113 = 100 := by decide +kernel
  have K211 : gK 211 = 100 := by decide +kernel
  have K212 : gK 212 = 100 := by decide +kernel
  have K213 : gK 213 = 100 := by decide +kernel
  have K214 : gK 214 = 100 := by decide +kernel
  have K114 : gK 114 = 103 := by decide +kernel
  have K215 : gK 215 = 103 := by decide +kernel
  have N110 : ((gN 110 : Nat) : Int) = 30 := by decide +kernel
  have N111 : ((gN 111 : Nat) : Int) = 30 := by decide +kernel
  have N112 : ((gN 112 : Nat) : Int) = 30 := by decide +kernel
  have N113 : ((gN 113 : Nat) : Int) = 30 := by decide +kernel
  have N211 : ((gN 211 : Nat) : Int) = 30 := by decide +kernel
  have N212 : ((gN 212 : Nat) : Int) = 30 := by decide +kernel
  have N213 : ((gN 213 : Nat) : Int) = 30 := by decide +kernel
  have N214 : ((gN 214 : Nat) : Int) = 30 := by decide +kernel
  have N114 : ((gN 114 : Nat) : Int) = 8 := by decide +kernel
  have N215 : ((gN 215 : Nat) : Int) = 8 := by decide +kernel
  obtain ⟨c1, ⟨o, c2, c3⟩, c4⟩ := hc
  have w1 := hw.1
  simp (disch := first | assumption | exact gb_01 _ | omega) only [r_D_become_0, r_D_become_1, r_D_become_2, r_D_become_5, r_D_become_8, r_D_become_9, r_D_become_12, r_D_become_13, r_D_become_14, r_D_become_17, r_D_become_18, r_D_become_20, r_D_become_23, r_D_become_24, r_D_become_27, r_D_become_28, r_D_become_29, r_D_become_32, r_D_become_33, r_D_become_35, r_D_become_38, r_D_become_39, r_D_become_42, r_D_become_43, r_D_become_44, r_D_become_47, r_D_become_48, r_D_become_50, r_D_become_53, r_D_become_54, r_D_become_57, r_D_become_58, r_D_become_59, r_D_become_62, r_D_become_63, r_D_become_65, r_D_become_68, r_D_become_69, r_D_become_71, r_D_become_73, r_D_become_76, r_D_become_77, r_D_become_80, r_D_become_81, r_D_become_82, r_D_become_83, r_D_become_84, r_D_become_87, r_D_become_88, r_D_become_89, r_D_become_90, r_D_become_92, r_D_become_95, r_D_become_98, r_D_become_101, gq_109_0, gq_109_1, gq_109_2, gq_109_3, gq_109_4, gq_210_0, gq_210_1, gq_210_2, gq_210_3, gq_210_4, gupd_ne, gcpy_ne, w32_gb, w32i, tn_add, tn_mul, Int.toNat_natCast, Int.toNat_zero, Int.reduceLE, Int.reduceLT, Int.reduceEq, Int.reduceNe, gb_T, gb_F, Int.reduceToNat, eq_self, true_or, or_true, and_true, true_and, and_self, ↓ite_gb0, ↓ite_gbn, ↓if_pos, ↓if_neg, if_true, if_false, not_true_eq_false, not_false_eq_true, gb_ne0, gb_eq0]
  refine wloop (n := 8) (I := fun k ls τ => ls = [vR 109, vR 210, vI (k : Int)] ∧ (τ 109 5 = σ 210 5 ∧ (∀ i : Nat, i < 30 → τ 110 i = σ 211 i ∧ τ 111 i = σ 212 i ∧ τ 112 i = σ 213 i ∧ τ 113 i = σ 214 i) ∧ ∀ i : Nat, i < k → ∀ j : Nat, j < 10 → τ (115 + i) j = σ (216 + i) j) ∧ Agr σ τ (fun k _ => 109 ≤ k ∧ k ≤ 122)) (fun k ls τ hk hi hq => ?_) (fun ls τ hi => ?_) 8 0 (by omega) _ _ ⟨rfl, ⟨?_, fun i hi => ⟨?_, ?_, ?_, ?_⟩, fun i hi => by omega⟩, Agr_cpy (Agr_cpy (Agr_cpy (Agr_cpy (Agr_upd (Agr_refl _ _) (by omega)) (fun j _ _ => by omega)) (fun j _ _ => by omega)) (fun j _ _ => by omega)) (fun j _ _ => by omega)⟩
  · obtain ⟨rfl, ⟨h0, h1, h2⟩, hA⟩ := hi
    obtain ⟨x1, x2, x3⟩ := gq114' k hk
    obtain ⟨y1, y2, y3⟩ := gq215 k hk
    rw [r_D_become_70]
    simp (disch := first | assumption | exact gb_01 _ | omega) only [r_D_become_0, r_D_become_1, r_D_become_2, r_D_become_5, r_D_become_8, r_D_become_9, r_D_become_12, r_D_become_13, r_D_become_14, r_D_become_17, r_D_become_18, r_D_become_20, r_D_become_23, r_D_become_24, r_D_become_27, r_D_become_28, r_D_become_29, r_D_become_32, r_D_become_33, r_D_become_35, r_D_become_38, r_D_become_39, r_D_become_42, r_D_become_43, r_D_become_44, r_D_become_47, r_D_become_48, r_D_become_50, r_D_become_53, r_D_become_54, r_D_become_57, r_D_become_58, r_D_become_59, r_D_become_62, r_D_become_63, r_D_become_65, r_D_become_68, r_D_become_69, r_D_become_71, r_D_become_73, r_D_become_76, r_D_become_77, r_D_become_80, r_D_become_81, r_D_become_82, r_D_become_83, r_D_become_84, r_D_become_87, r_D_become_88, r_D_become_89, r_D_become_90, r_D_become_92, r_D_become_95, r_D_become_98, r_D_become_101, gq_109_0, gq_109_1, gq_109_2, gq_109_3, gq_109_4, gq_210_0, gq_210_1, gq_210_2, gq_210_3, gq_210_4, x1, y1, w32_gb, w32i, tn_add, tn_mul, Int.toNat_natCast, Int.toNat_zero, Int.reduceLE, Int.reduceLT, Int.reduceEq, Int.reduceNe, gb_T, gb_F, Int.reduceToNat, eq_self, true_or, or_true, and_true, true_and, and_self, ↓ite_gb0, ↓ite_gbn, ↓if_pos, ↓if_neg, if_true, if_false, not_true_eq_false, not_false_eq_true, gb_ne0, gb_eq0]
    refine hq _ _ ⟨by simp only [List.cons.injEq, vI_inj, vR_inj, and_true, true_and]; omega, ⟨?_, fun i hi => ?_, fun i hi j hj => ?_⟩, Agr_cpy hA (fun j _ _ => by omega)⟩
    · rw [gcpy_ne (by omega)]; exact h0
    · simp (disch := omega) only [gcpy_ne]
      exact h1 i hi
    · by_cases e : i = k
      · rw [e, gcpy_z hj]
        exact hA _ _ (by omega)
      · rw [gcpy_ne (by omega)]
        exact h2 i (by omega) j hj
  · obtain ⟨rfl, ⟨h0, h1, h2⟩, hA⟩ := hi
    rw [r_D_become_70]
    simp (disch := first | assumption | exact gb_01 _ | omega) only [r_D_become_0, r_D_become_1, r_D_become_2, r_D_become_5, r_D_become_8, r_D_become_9, r_D_become_12, r_D_become_13, r_D_become_14, r_D_become_17, r_D_become_18, r_D_become_20, r_D_become_23, r_D_become_24, r_D_become_27, r_D_become_28, r_D_become_29, r_D_become_32, r_D_become_33, r_D_become_35, r_D_become_38, r_D_become_39, r_D_become_42, r_D_become_43, r_D_become_44, r_D_become_47, r_D_become_48, r_D_become_50, r_D_become_53, r_D_become_54, r_D_become_57, r_D_become_58, r_D_become_59, r_D_become_62, r_D_become_63, r_D_become_65, r_D_become_68, r_D_become_69, r_D_become_71, r_D_become_73, r_D_become_76, r_D_become_77, r_D_become_80, r_D_become_81, r_D_become_82, r_D_become_83, r_D_become_84, r_D_become_87, r_D_become_88, r_D_become_89, r_D_become_90, r_D_become_92, r_D_become_95, r_D_become_98, r_D_become_101, w32_gb, w32i, tn_add, tn_mul, Int.toNat_natCast, Int.toNat_zero, Int.reduceLE, Int.reduceLT, Int.reduceEq, Int.reduceNe, gb_T, gb_F, Int.reduceToNat, eq_self, true_or, or_true, and_true, true_and, and_self, ↓ite_gb0, ↓ite_gbn, ↓if_pos, ↓if_neg, if_true, if_false, not_true_eq_false, not_false_eq_true, gb_ne0, gb_eq0]
    refine ⟨⟨h0.trans c1, ⟨o, c2, fun i hi => ?_⟩, fun i hi j hj => (h2 i hi j hj).trans (c4 i hi j hj)⟩, hA⟩
    obtain ⟨z1, z2, z3, z4⟩ := h1 i (by omega)
    obtain ⟨v1, v2, v3, v4⟩ := c3 i hi
    exact ⟨z1.trans v1, z2.trans v2, z3.trans v3, z4.trans v4⟩
  · simp (disch := omega) only [gcpy_ne, gupd_eq]
  · simp (disch := omega) only [gcpy_ne, gcpy_z, gupd_ne]
  · simp (disch := omega) only [gcpy_ne, gcpy_z, gupd_ne]
  · simp (disch := omega) only [gcpy_ne, gcpy_z, gupd_ne]
  · simp (disch := omega) only [gcpy_ne, gcpy_z, gupd_ne]
theorem r_C_become_0 : Wp L d k_C_become 0 [vR b0, l1, l2] [] σ Q ↔ Wp L d k_C_become 1 [vR b0, l1, l2] [vR b0] σ Q := wp_aload rfl rfl
theorem r_C_become_1 : Wp L d k_C_become 1 [l0, vR b1, l2] [vR c0] σ Q ↔ Wp L d k_C_become 2 [l0, vR b1, l2] [vR b1, vR c0] σ Q := wp_aload rfl rfl
theorem r_C_become_2 (h : gK c1 = 10) : Wp L d k_C_become 2 [l0, l1, l2] [vR c1, vR c0] σ Q ↔ Wp L d k_C_become 5 [l0, l1, l2] [vI (σ c1 6), vR c0] σ Q := wp_getI (c := 2566) rfl rfl rfl rfl h
theorem r_C_become_5 (h : gK c0 = 10) : Wp L d k_C_become 5 [l0, l1, l2] [vI s1, vR c0] σ Q ↔ Wp L d k_C_become 8 [l0, l1, l2] [] (gupd σ c0 6 s1) Q := wp_putI (c := 2566) rfl rfl rfl rfl h
theorem r_C_become_8 : Wp L d k_C_become 8 [l0, l1, l2] [] σ Q ↔ Wp L d k_C_become 9 [l0, l1, l2] [vI 0] σ Q := wp_push rfl
theorem r_C_become_9 : Wp L d k_C_become 9 [l0, vR b1, l2] [vI s0] σ Q ↔ Wp L d k_C_become 10 [l0, vR b1, vI s0] [] σ Q := wp_istore (i := 2) (ls := [l0, vR b1, l2]) rfl rfl
theorem r_C_become_10 : Wp L d k_C_become 10 [l0, l1, vI a2] [] σ Q ↔ Wp L d k_C_become 11 [l0, l1, vI a2] [vI a2] σ Q := wp_iload rfl rfl
theorem r_C_become_11 : Wp L d k_C_become 11 [vR b0, l1, l2] [vI s0] σ Q ↔ Wp L d k_C_become 12 [vR b0, l1, l2] [vR b0, vI s0] σ Q := wp_aload rfl rfl
theorem r_C_become_12 (h : gK c1 = 10) : Wp L d k_C_become 12 [l0, l1, l2] [vR c1, vI s0] σ Q ↔ Wp L d k_C_become 15 [l0, l1, l2] [vI (σ c1 6), vI s0] σ Q := wp_getI (c := 2566) rfl rfl rfl rfl h
theorem r_C_become_15 : Wp L d k_C_become 15 [l0, l1, l2] [vI s1, vI s0] σ Q ↔ (if s1 ≤ s0 then Wp L d k_C_become 95 [l0, l1, l2] [] σ Q else Wp L d k_C_become 18 [l0, l1, l2] [] σ Q) := wp_cmp_ge rfl
theorem r_C_become_18 : Wp L d k_C_become 18 [l0, vR b1, l2] [] σ Q ↔ Wp L d k_C_become 19 [l0, vR b1, l2] [vR b1] σ Q := wp_aload rfl rfl
theorem r_C_become_19 (h : gK c0 = 10) : Wp L d k_C_become 19 [l0, l1, l2] [vR c0] σ Q ↔ Wp L d k_C_become 22 [l0, l1, l2] [vR (gq c0 0)] σ Q := wp_getR (c := 2688) rfl rfl rfl rfl rfl h
theorem r_C_become_22 : Wp L d k_C_become 22 [l0, l1, vI a2] [vR c0] σ Q ↔ Wp L d k_C_become 23 [l0, l1, vI a2] [vI a2, vR c0] σ Q := wp_iload rfl rfl
theorem r_C_become_23 (h : gK c0 = 102 ∨ gK c0 = 103) (hx : 0 ≤ s1 ∧ s1 < gN c0) : Wp L d k_C_become 23 [l0, l1, l2] [vI s1, vR c0] σ Q ↔ Wp L d k_C_become 24 [l0, l1, l2] [vR (gq c0 s1.toNat)] σ Q := wp_aald rfl h hx
theorem r_C_become_24 : Wp L d k_C_become 24 [l0, l1, l2] [vR c0] σ Q ↔ Wp L d k_C_become 25 [l0, l1, l2] [vI 0, vR c0] σ Q := wp_push rfl
theorem r_C_become_25 : Wp L d k_C_become 25 [vR b0, l1, l2] [vI s1, vR c0] σ Q ↔ Wp L d k_C_become 26 [vR b0, l1, l2] [vR b0, vI s1, vR c0] σ Q := wp_aload rfl rfl
theorem r_C_become_26 (h : gK c2 = 10) : Wp L d k_C_become 26 [l0, l1, l2] [vR c2, vI s1, vR c0] σ Q ↔ Wp L d k_C_become 29 [l0, l1, l2] [vR (gq c2 0), vI s1, vR c0] σ Q := wp_getR (c := 2688) rfl rfl rfl rfl rfl h
theorem r_C_become_29 : Wp L d k_C_become 29 [l0, l1, vI a2] [vR c2, vI s1, vR c0] σ Q ↔ Wp L d k_C_become 30 [l0, l1, vI a2] [vI a2, vR c2, vI s1, vR c0] σ Q := wp_iload rfl rfl
theorem r_C_become_30 (h : gK c2 = 102 ∨ gK c2 = 103) (hx : 0 ≤ s3 ∧ s3 < gN c2) : Wp L d k_C_become 30 [l0, l1, l2] [vI s3, vR c2, vI s1, vR c0] σ Q ↔ Wp L d k_C_become 31 [l0, l1, l2] [vR (gq c2 s3.toNat), vI s1, vR c0] σ Q := wp_aald rfl h hx
theorem r_C_become_31 : Wp L d k_C_become 31 [l0, l1, l2] [vR c2, vI s1, vR c0] σ Q ↔ Wp L d k_C_become 32 [l0, l1, l2] [vI 0, vR c2, vI s1, vR c0] σ Q := wp_push rfl
theorem r_C_become_32 : Wp L d k_C_become 32 [l0, vR b1, l2] [vI s3, vR c2, vI s1, vR c0] σ Q ↔ Wp L d k_C_become 33 [l0, vR b1, l2] [vR b1, vI s3, vR c2, vI s1, vR c0] σ Q := wp_aload rfl rfl
theorem r_C_become_33 (h : gK c4 = 10) : Wp L d k_C_become 33 [l0, l1, l2] [vR c4, vI s3, vR c2, vI s1, vR c0] σ Q ↔ Wp L d k_C_become 36 [l0, l1, l2] [vR (gq c4 1), vI s3, vR c2, vI s1, vR c0] σ Q := wp_getR (c := 2689) rfl rfl rfl rfl rfl h
theorem r_C_become_36 : Wp L d k_C_become 36 [l0, l1, vI a2] [vR c4, vI s3, vR c2, vI s1, vR c0] σ Q ↔ Wp L d k_C_become 37 [l0, l1, vI a2] [vI a2, vR c4, vI s3, vR c2, vI s1, vR c0] σ Q := wp_iload rfl rfl
theorem r_C_become_37 (h : gK c4 = 100) (hx : 0 ≤ s5 ∧ s5 < gN c4) : Wp L d k_C_become 37 [l0, l1, l2] [vI s5, vR c4, vI s3, vR c2, vI s1, vR c0] σ Q ↔ Wp L d k_C_become 38 [l0, l1, l2] [vI (σ c4 s5.toNat), vI s3, vR c2, vI s1, vR c0] σ Q := wp_iald rfl h hx
theorem r_C_become_38 (h : gK c0 = 100) (h2 : gK c2 = 100) (hx : 0 ≤ s4 ∧ 0 ≤ s1 ∧ 0 ≤ s3 ∧ s1 + s4 ≤ gN c0 ∧ s3 + s4 ≤ gN c2) : Wp L d k_C_become 38 [l0, l1, l2] [vI s4, vI s3, vR c2, vI s1, vR c0] σ Q ↔ Wp L d k_C_become 41 [l0, l1, l2] [] (gcpy σ c0 s1.toNat c2 s3.toNat s4.toNat) Q := wp_copy rfl rfl h h2 hx
theorem r_C_become_41 : Wp L d k_C_become 41 [vR b0, l1, l2] [] σ Q ↔ Wp L d k_C_become 42 [vR b0, l1, l2] [vR b0] σ Q := wp_aload rfl rfl
theorem r_C_become_42 (h : gK c0 = 10) : Wp L d k_C_become 42 [l0, l1, l2] [vR c0] σ Q ↔ Wp L d k_C_become 45 [l0, l1, l2] [vR (gq c0 1)] σ Q := wp_getR (c := 2689) rfl rfl rfl rfl rfl h
theorem r_C_become_45 : Wp L d k_C_become 45 [l0, l1, vI a2] [vR c0] σ Q ↔ Wp L d k_C_become 46 [l0, l1, vI a2] [vI a2, vR c0] σ Q := wp_iload rfl rfl
theorem r_C_become_46 : Wp L d k_C_become 46 [l0, vR b1, l2] [vI s1, vR c0] σ Q ↔ Wp L d k_C_become 47 [l0, vR b1, l2] [vR b1, vI s1, vR c0] σ Q := wp_aload rfl rfl
theorem r_C_become_47 (h : gK c2 = 10) : Wp L d k_C_become 47 [l0, l1, l2] [vR c2, vI s1, vR c0] σ Q ↔ Wp L d k_C_become 50 [l0, l1, l2] [vR (gq c2 1), vI s1, vR c0] σ Q := wp_getR (c := 2689) rfl rfl rfl rfl rfl h
theorem r_C_become_50 : Wp L d k_C_become 50 [l0, l1, vI a2] [vR c2, vI s1, vR c0] σ Q ↔ Wp L d k_C_become 51 [l0, l1, vI a2] [vI a2, vR c2, vI s1, vR c0] σ Q := wp_iload rfl rfl
theorem r_C_become_51 (h : gK c2 = 100) (hx : 0 ≤ s3 ∧ s3 < gN c2) : Wp L d k_C_become 51 [l0, l1, l2] [vI s3, vR c2, vI s1, vR c0] σ Q ↔ Wp L d k_C_become 52 [l0, l1, l2] [vI (σ c2 s3.toNat), vI s1, vR c0] σ Q := wp_iald rfl h hx
theorem r_C_become_52 (h : gK c0 = 100) (hx : 0 ≤ s1 ∧ s1 < gN c0) : Wp L d k_C_become 52 [l0, l1, l2] [vI s2, vI s1, vR c0] σ Q ↔ Wp L d k_C_become 53 [l0, l1, l2] [] (gupd σ c0 s1.toNat s2) Q := wp_iast rfl h hx
theorem r_C_become_53 : Wp L d k_C_become 53 [vR b0, l1, l2] [] σ Q ↔ Wp L d k_C_become 54 [vR b0, l1, l2] [vR b0] σ Q := wp_aload rfl rfl
theorem r_C_become_54 (h : gK c0 = 10) : Wp L d k_C_become 54 [l0, l1, l2] [vR c0] σ Q ↔ Wp L d k_C_become 57 [l0, l1, l2] [vR (gq c0 2)] σ Q := wp_getR (c := 2690) rfl rfl rfl rfl rfl h
theorem r_C_become_57 : Wp L d k_C_become 57 [l0, l1, vI a2] [vR c0] σ Q ↔ Wp L d k_C_become 58 [l0, l1, vI a2] [vI a2, vR c0] σ Q := wp_iload rfl rfl
theorem r_C_become_58 : Wp L d k_C_become 58 [l0, vR b1, l2] [vI s1, vR c0] σ Q ↔ Wp L d k_C_become 59 [l0, vR b1, l2] [vR b1, vI s1, vR c0] σ Q := wp_aload rfl rfl
theorem r_C_become_59 (h : gK c2 = 10) : Wp L d k_C_become 59 [l0, l1, l2] [vR c2, vI s1, vR c0] σ Q ↔ Wp L d k_C_become 62 [l0, l1, l2] [vR (gq c2 2), vI s1, vR c0] σ Q := wp_getR (c := 2690) rfl rfl rfl rfl rfl h
theorem r_C_become_62 : Wp L d k_C_become 62 [l0, l1, vI a2] [vR c2, vI s1, vR c0] σ Q ↔ Wp L d k_C_become 63 [l0, l1, vI a2] [vI a2, vR c2, vI s1, vR c0] σ Q := wp_iload rfl rfl
theorem r_C_become_63 (h : gK c2 = 100) (hx : 0 ≤ s3 ∧ s3 < gN c2) : Wp L d k_C_become 63 [l0, l1, l2] [vI s3, vR c2, vI s1, vR c0] σ Q ↔ Wp L d k_C_become 64 [l0, l1, l2] [vI (σ c2 s3.toNat), vI s1, vR c0] σ Q := wp_iald rfl h hx
theorem r_C_become_64 (h : gK c0 = 100) (hx : 0 ≤ s1 ∧ s1 < gN c0) : Wp L d k_C_become 64 [l0, l1, l2] [vI s2, vI s1, vR c0] σ Q ↔ Wp L d k_C_become 65 [l0, l1, l2] [] (gupd σ c0 s1.toNat s2) Q := wp_iast rfl h hx
theorem r_C_become_65 : Wp L d k_C_become 65 [vR b0, l1, l2] [] σ Q ↔ Wp L d k_C_become 66 [vR b0, l1, l2] [vR b0] σ Q := wp_aload rfl rfl
theorem r_C_become_66 (h : gK c0 = 10) : Wp L d k_C_become 66 [l0, l1, l2] [vR c0] σ Q ↔ Wp L d k_C_become 69 [l0, l1, l2] [vR (gq c0 3)] σ Q := wp_getR (c := 2691) rfl rfl rfl rfl rfl h
theorem r_C_become_69 : Wp L d k_C_become 69 [l0, l1, vI a2] [vR c0] σ Q ↔ Wp L d k_C_become 70 [l0, l1, vI a2] [vI a2, vR c0] σ Q := wp_iload rfl rfl
theorem r_C_become_70 : Wp L d k_C_become 70 [l0, vR b1, l2] [vI s1, vR c0] σ Q ↔ Wp L d k_C_become 71 [l0, vR b1, l2] [vR b1, vI s1, vR c0] σ Q := wp_aload rfl rfl
theorem r_C_become_71 (h : gK c2 = 10) : Wp L d k_C_become 71 [l0, l1, l2] [vR c2, vI s1, vR c0] σ Q ↔ Wp L d k_C_become 74 [l0, l1, l2] [vR (gq c2 3), vI s1, vR c0] σ Q := wp_getR (c := 2691) rfl rfl rfl rfl rfl h
theorem r_C_become_74 : Wp L d k_C_become 74 [l0, l1, vI a2] [vR c2, vI s1, vR c0] σ Q ↔ Wp L d k_C_become 75 [l0, l1, vI a2] [vI a2, vR c2, vI s1, vR c0] σ Q := wp_iload rfl rfl
theorem r_C_become_75 (h : gK c2 = 100) (hx : 0 ≤ s3 ∧ s3 < gN c2) : Wp L d k_C_become 75 [l0, l1, l2] [vI s3, vR c2, vI s1, vR c0] σ Q ↔ Wp L d k_C_become 76 [l0, l1, l2] [vI (σ c2 s3.toNat), vI s1, vR c0] σ Q := wp_iald rfl h hx
theorem r_C_become_76 (h : gK c0 = 100) (hx : 0 ≤ s1 ∧ s1 < gN c0) : Wp L d k_C_become 76 [l0, l1, l2] [vI s2, vI s1, vR c0] σ Q ↔ Wp L d k_C_become 77 [l0, l1, l2] [] (gupd σ c0 s1.toNat s2) Q := wp_iast rfl h hx
theorem r_C_become_77 : Wp L d k_C_become 77 [vR b0, l1, l2] [] σ Q ↔ Wp L d k_C_become 78 [vR b0, l1, l2] [vR b0] σ Q := wp_aload rfl rfl
theorem r_C_become_78 (h : gK c0 = 10) : Wp L d k_C_become 78 [l0, l1, l2] [vR c0] σ Q ↔ Wp L d k_C_become 81 [l0, l1, l2] [vR (gq c0 4)] σ Q := wp_getR (c := 2692) rfl rfl rfl rfl rfl h
theorem r_C_become_81 : Wp L d k_C_become 81 [l0, l1, vI a2] [vR c0] σ Q ↔ Wp L d k_C_become 82 [l0, l1, vI a2] [vI a2, vR c0] σ Q := wp_iload rfl rfl
theorem r_C_become_82 : Wp L d k_C_become 82 [l0, vR b1, l2] [vI s1, vR c0] σ Q ↔ Wp L d k_C_become 83 [l0, vR b1, l2] [vR b1, vI s1, vR c0] σ Q := wp_aload rfl rfl
theorem r_C_become_83 (h : gK c2 = 10) : Wp L d k_C_become 83 [l0, l1, l2] [vR c2, vI s1, vR c0] σ Q ↔ Wp L d k_C_become 86 [l0, l1, l2] [vR (gq c2 4), vI s1, vR c0] σ Q := wp_getR (c := 2692) rfl rfl rfl rfl rfl h
theorem r_C_become_86 : Wp L d k_C_become 86 [l0, l1, vI a2] [vR c2, vI s1, vR c0] σ Q ↔ Wp L d k_C_become 87 [l0, l1, vI a2] [vI a2, vR c2, vI s1, vR c0] σ Q := wp_iload rfl rfl
theorem r_C_become_87 (h : gK c2 = 100) (hx : 0 ≤ s3 ∧ s3 < gN c2) : Wp L d k_C_become 87 [l0, l1, l2] [vI s3, vR c2, vI s1, vR c0] σ Q ↔ Wp L d k_C_become 88 [l0, l1, l2] [vI (σ c2 s3.toNat), vI s1, vR c0] σ Q := wp_iald rfl h hx
theorem r_C_become_88 (h : gK c0 = 100) (hx : 0 ≤ s1 ∧ s1 < gN c0) : Wp L d k_C_become 88 [l0, l1, l2] [vI s2, vI s1, vR c0] σ Q ↔ Wp L d k_C_become 89 [l0, l1, l2] [] (gupd σ c0 s1.toNat s2) Q := wp_iast rfl h hx
theorem r_C_become_89 : Wp L d k_C_become 89 [l0, vR b1, vI a2] [] σ Q ↔ Wp L d k_C_become 92 [l0, vR b1, vI (w32 (a2 + 1))] [] σ Q := wp_iinc (i := 2) (ls := [l0, vR b1, vI a2]) rfl rfl
theorem r_C_become_92 : Wp L d k_C_become 92 [l0, l1, l2] [] σ Q ↔ Wp L d k_C_become 10 [l0, l1, l2] [] σ Q := wp_goto rfl
theorem r_C_become_95 : Wp L d k_C_become 95 [l0, l1, l2] [] σ Q ↔ Q none σ := wp_vret rfl
theorem sp_C_become_0 {f : Nat → Int} (hw : WT f) (hc : CT 179 f σ) : ∃ σ', Run L d 184 [vR 78, vR 179] σ none σ' ∧ CT 78 f σ' ∧ Agr σ σ' (fun k _ => 78 ≤ k ∧ k ≤ 96) := by
  refine Run_ex (C' := k_C_become) rfl ?_
  show Wp L d k_C_become 0 [vR 78, vR 179, vU] [] σ _
  have K78 : gK 78 = 10 := by decide +kernel
  have K179 : gK 179 = 10 := by decide +kernel
  have K92 : gK 92 = 100 := by decide +kernel
  have K93 : gK 93 = 100 := by decide +kernel
  have K94 : gK 94 = 100 := by decide +kernel
  have K95 : gK 95 = 100 := by decide +kernel
  have K193 : gK 193 = 100 := by decide +kernel
  have K194 : gK 194 = 100 := by decide +kernel
  have K195 : gK 195 = 100 := by decide +kernel
  have K196 : gK 196 = 100 := by decide +kernel
  have K79 : gK 79 = 103 := by decide +kernel
  have K180 : gK 180 = 103 := by decide +kernel
  have N92 : ((gN 92 : Nat) : Int) = 12 := by decide +kernel
  have N93 : ((gN 93 : Nat) : Int) = 12 := by decide +kernel
  have N94 : ((gN 94 : Nat) : Int) = 12 := by decide +kernel
  have N95 : ((gN 95 : Nat) : Int) = 12 := by decide +kernel
  have N193 : ((gN 193 : Nat) : Int) = 12 := by decide +kernel
  have N194 : ((gN 194 : Nat) : Int) = 12 := by decide +kernel
  have N195 : ((gN 195 : Nat) : Int) = 12 := by decide +kernel
  have N196 : ((gN 196 : Nat) : Int) = 12 := by decide +kernel
  have N79 : ((gN 79 : Nat) : Int) = 12 := by decide +kernel
  have N180 : ((gN 180 : Nat) : Int) = 12 := by decide +kernel
  obtain ⟨c1, c2⟩ := hc
  have w1 := hw.1
  simp (disch := first | assumption | exact gb_01 _ | omega) only [r_C_become_0, r_C_become_1, r_C_become_2, r_C_become_5, r_C_become_8, r_C_become_9, r_C_become_11, r_C_become_12, r_C_become_15, r_C_become_18, r_C_become_19, r_C_become_22, r_C_become_23, r_C_become_24, r_C_become_25, r_C_become_26, r_C_become_29, r_C_become_30, r_C_become_31, r_C_become_32, r_C_become_33, r_C_become_36, r_C_become_37, r_C_become_38, r_C_become_41, r_C_become_42, r_C_become_45, r_C_become_46, r_C_become_47, r_C_become_50, r_C_become_51, r_C_become_52, r_C_become_53, r_C_become_54, r_C_become_57, r_C_become_58, r_C_become_59, r_C_become_62, r_C_become_63, r_C_become_64, r_C_become_65, r_C_become_66, r_C_become_69, r_C_become_70, r_C_become_71, r_C_become_74, r_C_become_75, r_C_become_76, r_C_become_77, r_C_become_78, r_C_become_81, r_C_become_82, r_C_become_83, r_C_become_86, r_C_become_87, r_C_become_88, r_C_become_89, r_C_become_92, r_C_become_95, c1, gupd_ne, w32_gb, w32i, tn_add, tn_mul, Int.toNat_natCast, Int.toNat_zero, Int.reduceLE, Int.reduceLT, Int.reduceEq, Int.reduceNe, gb_T, gb_F, Int.reduceToNat, eq_self, true_or, or_true, and_true, true_and, and_self, ↓ite_gb0, ↓ite_gbn, ↓if_pos, ↓if_neg, if_true, if_false, not_true_eq_false, not_false_eq_true, gb_ne0, gb_eq0]
  refine wloop (n := (f 2).toNat) (I := fun k ls τ => ls = [vR 78, vR 179, vI (k : Int)] ∧ (τ 78 6 = f 2 ∧ ∀ t : Nat, t < k → (τ 92 t = σ 193 t ∧ τ 93 t = σ 194 t ∧ τ 94 t = σ 195 t ∧ τ 95 t = σ 196 t) ∧ ∀ i : Nat, (i : Int) < f (930 + 200 * t + 3) → τ (80 + t) i = σ (181 + t) i) ∧ Agr σ τ (fun k _ => 78 ≤ k ∧ k ≤ 96)) (fun k ls τ hk hi hq => ?_) (fun ls τ hi => ?_) (f 2).toNat 0 (by omega) _ _ ⟨rfl, ⟨gupd_eq, fun t ht => by omega⟩, Agr_upd (Agr_refl _ _) (by omega)⟩
  · obtain ⟨rfl, ⟨h0, h1⟩, hA⟩ := hi
    obtain ⟨x1, x2, x3⟩ := gq79' k (by omega)
    obtain ⟨y1, y2, y3⟩ := gq180 k (by omega)
    have p4 := (c2 k (by omega)).1
    have q4 := (WTp hw (t := k) (by omega)).2.2.2.1
    have e4 : τ 193 k = f (930 + 200 * k + 3) := (hA _ _ (by omega)).trans p4
    have e5 : τ 194 k = σ 194 k := hA _ _ (by omega)
    have e6 : τ 195 k = σ 195 k := hA _ _ (by omega)
    have e7 : τ 196 k = σ 196 k := hA _ _ (by omega)
    have eC : ∀ i, τ (181 + k) i = σ (181 + k) i := fun i => hA _ _ (by omega)
    rw [r_C_become_10]
    generalize hm : f (930 + 200 * k + 3) = m at q4 e4 p4
    simp (disch := first | assumption | exact gb_01 _ | omega) only [r_C_become_0, r_C_become_1, r_C_become_2, r_C_become_5, r_C_become_8, r_C_become_9, r_C_become_11, r_C_become_12, r_C_become_15, r_C_become_18, r_C_become_19, r_C_become_22, r_C_become_23, r_C_become_24, r_C_become_25, r_C_become_26, r_C_become_29, r_C_become_30, r_C_become_31, r_C_become_32, r_C_become_33, r_C_become_36, r_C_become_37, r_C_become_38, r_C_become_41, r_C_become_42, r_C_become_45, r_C_become_46, r_C_become_47, r_C_become_50, r_C_become_51, r_C_become_52, r_C_become_53, r_C_become_54, r_C_become_57, r_C_become_58, r_C_become_59, r_C_become_62, r_C_become_63, r_C_become_64, r_C_become_65, r_C_become_66, r_C_become_69, r_C_become_70, r_C_become_71, r_C_become_74, r_C_become_75, r_C_become_76, r_C_become_77, r_C_become_78, r_C_become_81, r_C_become_82, r_C_become_83, r_C_become_86, r_C_become_87, r_C_become_88, r_C_become_89, r_C_become_92, r_C_become_95, gq_78_0, gq_78_1, gq_78_2, gq_78_3, gq_78_4, gq_179_0, gq_179_1, gq_179_2, gq_179_3, gq_179_4, x1, y1, h0, e4, e5, e6, e7, gupd_ne, gcpy_ne, w32_gb, w32i, tn_add, tn_mul, Int.toNat_natCast, Int.toNat_zero, Int.reduceLE, Int.reduceLT, Int.reduceEq, Int.reduceNe, gb_T, gb_F, Int.reduceToNat, eq_self, true_or, or_true, and_true, true_and, and_self, ↓ite_gb0, ↓ite_gbn, ↓if_pos, ↓if_neg, if_true, if_false, not_true_eq_false, not_false_eq_true, gb_ne0, gb_eq0]
    refine hq _ _ ⟨by simp only [List.cons.injEq, vI_inj, vR_inj, and_true, true_and]; omega, ⟨?_, fun t ht => ?_⟩, Agr_upd (Agr_upd (Agr_upd (Agr_upd (Agr_cpy hA (fun j _ _ => by omega)) (by omega)) (by omega)) (by omega)) (by omega)⟩
    · simp (disch := omega) only [gupd_ne, gcpy_ne]
      exact h0
    · by_cases e : t = k
      · rw [e, hm]
        refine ⟨?_, fun i hi => ?_⟩
        · simp (disch := omega) only [gupd_ne, gupd_eq, and_true, p4]
        · simp (disch := omega) only [gupd_ne, gcpy_z]
          exact eC i
      · simp (disch := omega) only [gupd_ne, gcpy_ne]
        exact h1 t (by omega)
  · obtain ⟨rfl, ⟨h0, h1⟩, hA⟩ := hi
    rw [r_C_become_10]
    simp (disch := first | assumption | exact gb_01 _ | omega) only [r_C_become_0, r_C_become_1, r_C_become_2, r_C_become_5, r_C_become_8, r_C_become_9, r_C_become_11, r_C_become_12, r_C_become_15, r_C_become_18, r_C_become_19, r_C_become_22, r_C_become_23, r_C_become_24, r_C_become_25, r_C_become_26, r_C_become_29, r_C_become_30, r_C_become_31, r_C_become_32, r_C_become_33, r_C_become_36, r_C_become_37, r_C_become_38, r_C_become_41, r_C_become_42, r_C_become_45, r_C_become_46, r_C_become_47, r_C_become_50, r_C_become_51, r_C_become_52, r_C_become_53, r_C_become_54, r_C_become_57, r_C_become_58, r_C_become_59, r_C_become_62, r_C_become_63, r_C_become_64, r_C_become_65, r_C_become_66, r_C_become_69, r_C_become_70, r_C_become_71, r_C_become_74, r_C_become_75, r_C_become_76, r_C_become_77, r_C_become_78, r_C_become_81, r_C_become_82, r_C_become_83, r_C_become_86, r_C_become_87, r_C_become_88, r_C_become_89, r_C_become_92, r_C_become_95, h0, w32_gb, w32i, tn_add, tn_mul, Int.toNat_natCast, Int.toNat_zero, Int.reduceLE, Int.reduceLT, Int.reduceEq, Int.reduceNe, gb_T, gb_F, Int.reduceToNat, eq_self, true_or, or_true, and_true, true_and, and_self, ↓ite_gb0, ↓ite_gbn, ↓if_pos, ↓if_neg, if_true, if_false, not_true_eq_false, not_false_eq_true, gb_ne0, gb_eq0]
    refine ⟨⟨h0, fun t ht => ?_⟩, hA⟩
    obtain ⟨⟨z1, z2, z3, z4⟩, z5⟩ := h1 t (by omega)
    obtain ⟨v1, v2, v3, v4, v5⟩ := c2 t ht
    exact ⟨z1.trans v1, z2.trans v2, z3.trans v3, z4.trans v4, fun i hi => (z5 i hi).trans (v5 i hi)⟩
theorem sp_G_become_1 {f : Nat → Int} (hc : CG 97 f σ) : ∃ σ', Run L d 121 [vR 198, vR 97] σ none σ' ∧ CG 198 f σ' ∧ Agr σ σ' (fun k _ => k = 198 ∨ k = 199) := by
  refine Run_ex (C' := k_G_become) rfl ?_
  show Wp L d k_G_become 0 [vR 198, vR 97] [] σ _
  have K198 : gK 198 = 2 := by decide +kernel
  have K97 : gK 97 = 2 := by decide +kernel
  have K199 : gK 199 = 100 := by decide +kernel
  have K98 : gK 98 = 100 := by decide +kernel
  have N199 : ((gN 199 : Nat) : Int) = 60 := by decide +kernel
  have N98 : ((gN 98 : Nat) : Int) = 60 := by decide +kernel
  obtain ⟨c1, c2, c3⟩ := hc
  simp (disch := first | assumption | exact gb_01 _ | omega) only [r_G_become_0, r_G_become_1, r_G_become_4, r_G_become_5, r_G_become_6, r_G_become_9, r_G_become_10, r_G_become_12, r_G_become_15, r_G_become_16, r_G_become_17, r_G_become_20, r_G_become_23, r_G_become_24, r_G_become_25, r_G_become_28, r_G_become_31, gq_198_0, gq_97_0, gupd_ne, gcpy_ne, w32_gb, w32i, tn_add, tn_mul, Int.toNat_natCast, Int.toNat_zero, Int.reduceLE, Int.reduceLT, Int.reduceEq, Int.reduceNe, gb_T, gb_F, Int.reduceToNat, eq_self, true_or, or_true, and_true, true_and, and_self, ↓ite_gb0, ↓ite_gbn, ↓if_pos, ↓if_neg, if_true, if_false, not_true_eq_false, not_false_eq_true, gb_ne0, gb_eq0]
  refine ⟨⟨?_, ?_, fun j hj => ?_⟩, Agr_upd (Agr_upd (Agr_cpy (Agr_refl _ _) (fun j _ _ => by omega)) (by omega)) (by omega)⟩
  · simp (disch := omega) only [gupd_ne, gupd_eq]
    exact c1
  · simp (disch := omega) only [gupd_ne, gupd_eq]
    exact c2
  · simp (disch := omega) only [gupd_ne, gcpy_z]
    exact c3 j hj
theorem sp_P_become_1 {f : Nat → Int} (hw : WP f) (hc : CP 123 f σ) : ∃ σ', Run L d 124 [vR 224, vR 123] σ none σ' ∧ CP 224 f σ' ∧ Agr σ σ' (fun k _ => k = 224 ∨ k = 225) := by
  refine Run_ex (C' := k_P_become) rfl ?_
  show Wp L d k_P_become 0 [vR 224, vR 123] [] σ _
  have K224 : gK 224 = 3 := by decide +kernel
  have K123 : gK 123 = 3 := by decide +kernel
  have K225 : gK 225 = 100 := by decide +kernel
  have K124 : gK 124 = 100 := by decide +kernel
  have N225 : ((gN 225 : Nat) : Int) = 16 := by decide +kernel
  have N124 : ((gN 124 : Nat) : Int) = 16 := by decide +kernel
  obtain ⟨c1, c2, c3, c4, c5⟩ := hc
  have w5 := hw.2.2.1
  simp (disch := first | assumption | exact gb_01 _ | omega) only [r_P_become_0, r_P_become_1, r_P_become_4, r_P_become_5, r_P_become_6, r_P_become_9, r_P_become_10, r_P_become_12, r_P_become_15, r_P_become_16, r_P_become_17, r_P_become_20, r_P_become_23, r_P_become_24, r_P_become_25, r_P_become_28, r_P_become_31, r_P_become_32, r_P_become_33, r_P_become_36, r_P_become_39, r_P_become_40, r_P_become_41, r_P_become_44, r_P_become_47, gq_224_0, gq_123_0, gupd_ne, gcpy_ne, w32_gb, w32i, tn_add, tn_mul, Int.toNat_natCast, Int.toNat_zero, Int.reduceLE, Int.reduceLT, Int.reduceEq, Int.reduceNe, gb_T, gb_F, Int.reduceToNat, eq_self, true_or, or_true, and_true, true_and, and_self, ↓ite_gb0, ↓ite_gbn, ↓if_pos, ↓if_neg, if_true, if_false, not_true_eq_false, not_false_eq_true, gb_ne0, gb_eq0]
  refine ⟨⟨?_, ?_, ?_, ?_, fun j hj => ?_⟩, Agr_upd (Agr_upd (Agr_upd (Agr_upd (Agr_cpy (Agr_refl _ _) (fun j _ _ => by omega)) (by omega)) (by omega)) (by omega)) (by omega)⟩
  · simp (disch := omega) only [gupd_ne, gupd_eq]
    exact c1
  · simp (disch := omega) only [gupd_ne, gupd_eq]
    exact c2
  · simp (disch := omega) only [gupd_ne, gupd_eq]
    exact c3
  · simp (disch := omega) only [gupd_ne, gupd_eq]
    exact c4
  · simp (disch := omega) only [gupd_ne, gcpy_z]
    exact c5 j hj
theorem sp_A_become_1 {f : Nat → Int} (hw : WR f) (hc : CR 125 f σ) : ∃ σ', Run L d 153 [vR 226, vR 125] σ none σ' ∧ CR 226 f σ' ∧ Agr σ σ' (fun k _ => k = 226 ∨ k = 227) := by
  refine Run_ex (C' := k_A_become) rfl ?_
  show Wp L d k_A_become 0 [vR 226, vR 125] [] σ _
  have K226 : gK 226 = 7 := by decide +kernel
  have K125 : gK 125 = 7 := by decide +kernel
  have K227 : gK 227 = 100 := by decide +kernel
  have K126 : gK 126 = 100 := by decide +kernel
  have N227 : ((gN 227 : Nat) : Int) = 8 := by decide +kernel
  have N126 : ((gN 126 : Nat) : Int) = 8 := by decide +kernel
  obtain ⟨c1, c2⟩ := hc
  have w5 := hw.1
  simp (disch := first | assumption | exact gb_01 _ | omega) only [r_A_become_0, r_A_become_1, r_A_become_4, r_A_become_5, r_A_become_6, r_A_become_9, r_A_become_10, r_A_become_12, r_A_become_15, r_A_become_16, r_A_become_17, r_A_become_20, r_A_become_23, gq_226_0, gq_125_0, gupd_ne, gcpy_ne, w32_gb, w32i, tn_add, tn_mul, Int.toNat_natCast, Int.toNat_zero, Int.reduceLE, Int.reduceLT, Int.reduceEq, Int.reduceNe, gb_T, gb_F, Int.reduceToNat, eq_self, true_or, or_true, and_true, true_and, and_self, ↓ite_gb0, ↓ite_gbn, ↓if_pos, ↓if_neg, if_true, if_false, not_true_eq_false, not_false_eq_true, gb_ne0, gb_eq0]
  refine ⟨⟨?_, fun j hj => ?_⟩, Agr_upd (Agr_cpy (Agr_refl _ _) (fun j _ _ => by omega)) (by omega)⟩
  · simp (disch := omega) only [gupd_ne, gupd_eq]
    exact c1
  · simp (disch := omega) only [gupd_ne, gcpy_z]
    exact c2 j hj
theorem sp_T_become_1 {f : Nat → Int} (hc : CS 99 f σ) : ∃ σ', Run L d 146 [vR 200, vR 99] σ none σ' ∧ CS 200 f σ' ∧ Agr σ σ' (fun k _ => 200 ≤ k ∧ k ≤ 209) := by
  refine Run_ex (C' := k_T_become) rfl ?_
  show Wp L d k_T_become 0 [vR 200, vR 99, vU] [] σ _
  have K200 : gK 200 = 6 := by decide +kernel
  have K99 : gK 99 = 6 := by decide +kernel
  have K201 : gK 201 = 103 := by decide +kernel
  have K100 : gK 100 = 103 := by decide +kernel
  have N201 : ((gN 201 : Nat) : Int) = 8 := by decide +kernel
  have N100 : ((gN 100 : Nat) : Int) = 8 := by decide +kernel
  simp only [r_T_become_0, r_T_become_1, r_T_become_3, r_T_become_5, r_T_become_8, r_T_become_9, r_T_become_12, r_T_become_13, r_T_become_14, r_T_become_15, r_T_become_16, r_T_become_19, r_T_become_20, r_T_become_21, r_T_become_22, r_T_become_23, r_T_become_24, r_T_become_25, r_T_become_28, r_T_become_29, r_T_become_30, r_T_become_31, r_T_become_32, r_T_become_35, r_T_become_36, r_T_become_37, r_T_become_38, r_T_become_39, r_T_become_40, r_T_become_43, r_T_become_46]
  refine wloop (n := 8) (I := fun k ls τ => ls = [vR 200, vR 99, vI (k : Int)] ∧ (∀ i : Nat, i < k → τ (202 + i) 0 = σ (101 + i) 0 ∧ τ (202 + i) 1 = σ (101 + i) 1) ∧ Agr σ τ (fun k _ => 200 ≤ k ∧ k ≤ 200 + 9)) (fun k ls τ hk hi hq => ?_) (fun ls τ hi => ?_) 8 0 (by omega) _ _ ⟨rfl, fun i hi => by omega, Agr_refl _ _⟩
  · obtain ⟨rfl, h1, hA⟩ := hi
    obtain ⟨x1, x2, x3⟩ := gq201 k hk
    obtain ⟨y1, y2, y3⟩ := gq100' k hk
    have e0 : τ (101 + k) 0 = σ (101 + k) 0 := hA _ _ (by omega)
    have e1 : τ (101 + k) 1 = σ (101 + k) 1 := hA _ _ (by omega)
    rw [r_T_become_2]
    simp (disch := first | assumption | exact gb_01 _ | omega) only [r_T_become_0, r_T_become_1, r_T_become_3, r_T_become_5, r_T_become_8, r_T_become_9, r_T_become_12, r_T_become_13, r_T_become_14, r_T_become_15, r_T_become_16, r_T_become_19, r_T_become_20, r_T_become_21, r_T_become_22, r_T_become_23, r_T_become_24, r_T_become_25, r_T_become_28, r_T_become_29, r_T_become_30, r_T_become_31, r_T_become_32, r_T_become_35, r_T_become_36, r_T_become_37, r_T_become_38, r_T_become_39, r_T_become_40, r_T_become_43, r_T_become_46, gq_200_0, gq_99_0, x1, y1, e0, e1, gupd_ne, w32_gb, w32i, tn_add, tn_mul, Int.toNat_natCast, Int.toNat_zero, Int.reduceLE, Int.reduceLT, Int.reduceEq, Int.reduceNe, gb_T, gb_F, Int.reduceToNat, eq_self, true_or, or_true, and_true, true_and, and_self, ↓ite_gb0, ↓ite_gbn, ↓if_pos, ↓if_neg, if_true, if_false, not_true_eq_false, not_false_eq_true, gb_ne0, gb_eq0]
    refine hq _ _ ⟨by simp only [List.cons.injEq, vI_inj, vR_inj, and_true, true_and]; omega, fun i hi => ?_, Agr_upd (Agr_upd hA (by omega)) (by omega)⟩
    by_cases e : i = k
    · rw [e]
      simp (disch := omega) only [Nat.reduceAdd, gupd_ne, gupd_eq, and_self]
    · simp (disch := omega) only [Nat.reduceAdd, gupd_ne]
      exact h1 i (by omega)
  · obtain ⟨rfl, h1, hA⟩ := hi
    rw [r_T_become_2]
    simp (disch := first | assumption | exact gb_01 _ | omega) only [r_T_become_0, r_T_become_1, r_T_become_3, r_T_become_5, r_T_become_8, r_T_become_9, r_T_become_12, r_T_become_13, r_T_become_14, r_T_become_15, r_T_become_16, r_T_become_19, r_T_become_20, r_T_become_21, r_T_become_22, r_T_become_23, r_T_become_24, r_T_become_25, r_T_become_28, r_T_become_29, r_T_become_30, r_T_become_31, r_T_become_32, r_T_become_35, r_T_become_36, r_T_become_37, r_T_become_38, r_T_become_39, r_T_become_40, r_T_become_43, r_T_become_46, w32_gb, w32i, tn_add, tn_mul, Int.toNat_natCast, Int.toNat_zero, Int.reduceLE, Int.reduceLT, Int.reduceEq, Int.reduceNe, gb_T, gb_F, Int.reduceToNat, eq_self, true_or, or_true, and_true, true_and, and_self, ↓ite_gb0, ↓ite_gbn, ↓if_pos, ↓if_neg, if_true, if_false, not_true_eq_false, not_false_eq_true, gb_ne0, gb_eq0]
    refine ⟨fun i hi j hj => ?_, hA⟩
    have y := h1 i hi
    have : j = 0 ∨ j = 1 := by omega
    rcases this with rfl | rfl
    · exact y.1.trans (hc i hi 0 (by omega))
    · exact y.2.trans (hc i hi 1 (by omega))
theorem sp_D_become_1 {f : Nat → Int} (hw : WW f) (hc : CW 109 f σ) : ∃ σ', Run L d 190 [vR 210, vR 109] σ none σ' ∧ CW 210 f σ' ∧ Agr σ σ' (fun k _ => 210 ≤ k ∧ k ≤ 223) := by
  refine Run_ex (C' := k_D_become) rfl ?_
  show Wp L d k_D_become 0 [vR 210, vR 109, vU] [] σ _
  have K210 : gK 210 = 11 := by decide +kernel
  have K109 : gK 109 = 11 := by decide +kernel
  have K211 : gK 211 = 100 := by decide +kernel
  have K212 : gK 212 = 100 := by decide +kernel
  have K213 : gK 213 = 100 := by decide +kernel
  have K214 : gK 214 = 100 := by decide +kernel
  have K110 : gK 110 = 100 := by decide +kernel
  have K111 : gK 111 = 100 := by decide +kernel
  have K112 : gK 112 = 100 := by decide +kernel
  have K113 : gK 113 = 100 := by decide +kernel
  have K215 : gK 215 = 103 := by decide +kernel
  have K114 : gK 114 = 103 := by decide +kernel
  have N211 : ((gN 211 : Nat) : Int) = 30 := by decide +kernel
  have N212 : ((gN 212 : Nat) : Int) = 30 := by decide +kernel
  have N213 : ((gN 213 : Nat) : Int) = 30 := by decide +kernel
  have N214 : ((gN 214 : Nat) : Int) = 30 := by decide +kernel
  have N110 : ((gN 110 : Nat) : Int) = 30 := by decide +kernel
  have N111 : ((gN 111 : Nat) : Int) = 30 := by decide +kernel
  have N112 : ((gN 112 : Nat) : Int) = 30 := by decide +kernel
  have N113 : ((gN 113 : Nat) : Int) = 30 := by decide +kernel
  have N215 : ((gN 215 : Nat) : Int) = 8 := by decide +kernel
  have N114 : ((gN 114 : Nat) : Int) = 8 := by decide +kernel
  obtain ⟨c1, ⟨o, c2, c3⟩, c4⟩ := hc
  have w1 := hw.1
  simp (disch := first | assumption | exact gb_01 _ | omega) only [r_D_become_0, r_D_become_1, r_D_become_2, r_D_become_5, r_D_become_8, r_D_become_9, r_D_become_12, r_D_become_13, r_D_become_14, r_D_become_17, r_D_become_18, r_D_become_20, r_D_become_23, r_D_become_24, r_D_become_27, r_D_become_28, r_D_become_29, r_D_become_32, r_D_become_33, r_D_become_35, r_D_become_38, r_D_become_39, r_D_become_42, r_D_become_43, r_D_become_44, r_D_become_47, r_D_become_48, r_D_become_50, r_D_become_53, r_D_become_54, r_D_become_57, r_D_become_58, r_D_become_59, r_D_become_62, r_D_become_63, r_D_become_65, r_D_become_68, r_D_become_69, r_D_become_71, r_D_become_73, r_D_become_76, r_D_become_77, r_D_become_80, r_D_become_81, r_D_become_82, r_D_become_83, r_D_become_84, r_D_become_87, r_D_become_88, r_D_become_89, r_D_become_90, r_D_become_92, r_D_become_95, r_D_become_98, r_D_become_101, gq_210_0, gq_210_1, gq_210_2, gq_210_3, gq_210_4, gq_109_0, gq_109_1, gq_109_2, gq_109_3, gq_109_4, gupd_ne, gcpy_ne, w32_gb, w32i, tn_add, tn_mul, Int.toNat_natCast, Int.toNat_zero, Int.reduceLE, Int.reduceLT, Int.reduceEq, Int.reduceNe, gb_T, gb_F, Int.reduceToNat, eq_self, true_or, or_true, and_true, true_and, and_self, ↓ite_gb0, ↓ite_gbn, ↓if_pos, ↓if_neg, if_true, if_false, not_true_eq_false, not_false_eq_true, gb_ne0, gb_eq0]
  refine wloop (n := 8) (I := fun k ls τ => ls = [vR 210, vR 109, vI (k : Int)] ∧ (τ 210 5 = σ 109 5 ∧ (∀ i : Nat, i < 30 → τ 211 i = σ 110 i ∧ τ 212 i = σ 111 i ∧ τ 213 i = σ 112 i ∧ τ 214 i = σ 113 i) ∧ ∀ i : Nat, i < k → ∀ j : Nat, j < 10 → τ (216 + i) j = σ (115 + i) j) ∧ Agr σ τ (fun k _ => 210 ≤ k ∧ k ≤ 223)) (fun k ls τ hk hi hq => ?_) (fun ls τ hi => ?_) 8 0 (by omega) _ _ ⟨rfl, ⟨?_, fun i hi => ⟨?_, ?_, ?_, ?_⟩, fun i hi => by omega⟩, Agr_cpy (Agr_cpy (Agr_cpy (Agr_cpy (Agr_upd (Agr_refl _ _) (by omega)) (fun j _ _ => by omega)) (fun j _ _ => by omega)) (fun j _ _ => by omega)) (fun j _ _ => by omega)⟩
  · obtain ⟨rfl, ⟨h0, h1, h2⟩, hA⟩ := hi
    obtain ⟨x1, x2, x3⟩ := gq215 k hk
    obtain ⟨y1, y2, y3⟩ := gq114' k hk
    rw [r_D_become_70]
    simp (disch := first | assumption | exact gb_01 _ | omega) only [r_D_become_0, r_D_become_1, r_D_become_2, r_D_become_5, r_D_become_8, r_D_become_9, r_D_become_12, r_D_become_13, r_D_become_14, r_D_become_17, r_D_become_18, r_D_become_20, r_D_become_23, r_D_become_24, r_D_become_27, r_D_become_28, r_D_become_29, r_D_become_32, r_D_become_33, r_D_become_35, r_D_become_38, r_D_become_39, r_D_become_42, r_D_become_43, r_D_become_44, r_D_become_47, r_D_become_48, r_D_become_50, r_D_become_53, r_D_become_54, r_D_become_57, r_D_become_58, r_D_become_59, r_D_become_62, r_D_become_63, r_D_become_65, r_D_become_68, r_D_become_69, r_D_become_71, r_D_become_73, r_D_become_76, r_D_become_77, r_D_become_80, r_D_become_81, r_D_become_82, r_D_become_83, r_D_become_84, r_D_become_87, r_D_become_88, r_D_become_89, r_D_become_90, r_D_become_92, r_D_become_95, r_D_become_98, r_D_become_101, gq_210_0, gq_210_1, gq_210_2, gq_210_3, gq_210_4, gq_109_0, gq_109_1, gq_109_2, gq_109_3, gq_109_4, x1, y1, w32_gb, w32i, tn_add, tn_mul, Int.toNat_natCast, Int.toNat_zero, Int.reduceLE, Int.reduceLT, Int.reduceEq, Int.reduceNe, gb_T, gb_F, Int.reduceToNat, eq_self, true_or, or_true, and_true, true_and, and_self, ↓ite_gb0, ↓ite_gbn, ↓if_pos, ↓if_neg, if_true, if_false, not_true_eq_false, not_false_eq_true, gb_ne0, gb_eq0]
    refine hq _ _ ⟨by simp only [List.cons.injEq, vI_inj, vR_inj, and_true, true_and]; omega, ⟨?_, fun i hi => ?_, fun i hi j hj => ?_⟩, Agr_cpy hA (fun j _ _ => by omega)⟩
    · rw [gcpy_ne (by omega)]; exact h0
    · simp (disch := omega) only [gcpy_ne]
      exact h1 i hi
    · by_cases e : i = k
      · rw [e, gcpy_z hj]
        exact hA _ _ (by omega)
      · rw [gcpy_ne (by omega)]
        exact h2 i (by omega) j hj
  · obtain ⟨rfl, ⟨h0, h1, h2⟩, hA⟩ := hi
    rw [r_D_become_70]
    simp (disch := first | assumption | exact gb_01 _ | omega) only [r_D_become_0, r_D_become_1, r_D_become_2, r_D_become_5, r_D_become_8, r_D_become_9, r_D_become_12, r_D_become_13, r_D_become_14, r_D_become_17, r_D_become_18, r_D_become_20, r_D_become_23, r_D_become_24, r_D_become_27, r_D_become_28, r_D_become_29, r_D_become_32, r_D_become_33, r_D_become_35, r_D_become_38, r_D_become_39, r_D_become_42, r_D_become_43, r_D_become_44, r_D_become_47, r_D_become_48, r_D_become_50, r_D_become_53, r_D_become_54, r_D_become_57, r_D_become_58, r_D_become_59, r_D_become_62, r_D_become_63, r_D_become_65, r_D_become_68, r_D_become_69, r_D_become_71, r_D_become_73, r_D_become_76, r_D_become_77, r_D_become_80, r_D_become_81, r_D_become_82, r_D_become_83, r_D_become_84, r_D_become_87, r_D_become_88, r_D_become_89, r_D_become_90, r_D_become_92, r_D_become_95, r_D_become_98, r_D_become_101, w32_gb, w32i, tn_add, tn_mul, Int.toNat_natCast, Int.toNat_zero, Int.reduceLE, Int.reduceLT, Int.reduceEq, Int.reduceNe, gb_T, gb_F, Int.reduceToNat, eq_self, true_or, or_true, and_true, true_and, and_self, ↓ite_gb0, ↓ite_gbn, ↓if_pos, ↓if_neg, if_true, if_false, not_true_eq_false, not_false_eq_true, gb_ne0, gb_eq0]
    refine ⟨⟨h0.trans c1, ⟨o, c2, fun i hi => ?_⟩, fun i hi j hj => (h2 i hi j hj).trans (c4 i hi j hj)⟩, hA⟩
    obtain ⟨z1, z2, z3, z4⟩ := h1 i (by omega)
    obtain ⟨v1, v2, v3, v4⟩ := c3 i hi
    exact ⟨z1.trans v1, z2.trans v2, z3.trans v3, z4.trans v4⟩
  · simp (disch := omega) only [gcpy_ne, gupd_eq]
  · simp (disch := omega) only [gcpy_ne, gcpy_z, gupd_ne]
  · simp (disch := omega) only [gcpy_ne, gcpy_z, gupd_ne]
  · simp (disch := omega) only [gcpy_ne, gcpy_z, gupd_ne]
  · simp (disch := omega) only [gcpy_ne, gcpy_z, gupd_ne]
theorem sp_C_become_1 {f : Nat → Int} (hw : WT f) (hc : CT 78 f σ) : ∃ σ', Run L d 184 [vR 179, vR 78] σ none σ' ∧ CT 179 f σ' ∧ Agr σ σ' (fun k _ => 179 ≤ k ∧ k ≤ 197) := by
  refine Run_ex (C' := k_C_become) rfl ?_
  show Wp L d k_C_become 0 [vR 179, vR 78, vU] [] σ _
  have K179 : gK 179 = 10 := by decide +kernel
  have K78 : gK 78 = 10 := by decide +kernel
  have K193 : gK 193 = 100 := by decide +kernel
  have K194 : gK 194 = 100 := by decide +kernel
  have K195 : gK 195 = 100 := by decide +kernel
  have K196 : gK 196 = 100 := by decide +kernel
  have K92 : gK 92 = 100 := by decide +kernel
  have K93 : gK 93 = 100 := by decide +kernel
  have K94 : gK 94 = 100 := by decide +kernel
  have K95 : gK 95 = 100 := by decide +kernel
  have K180 : gK 180 = 103 := by decide +kernel
  have K79 : gK 79 = 103 := by decide +kernel
  have N193 : ((gN 193 : Nat) : Int) = 12 := by decide +kernel
  have N194 : ((gN 194 : Nat) : Int) = 12 := by decide +kernel
  have N195 : ((gN 195 : Nat) : Int) = 12 := by decide +kernel
  have N196 : ((gN 196 : Nat) : Int) = 12 := by decide +kernel
  have N92 : ((gN 92 : Nat) : Int) = 12 := by decide +kernel
  have N93 : ((gN 93 : Nat) : Int) = 12 := by decide +kernel
  have N94 : ((gN 94 : Nat) : Int) = 12 := by decide +kernel
  have N95 : ((gN 95 : Nat) : Int) = 12 := by decide +kernel
  have N180 : ((gN 180 : Nat) : Int) = 12 := by decide +kernel
  have N79 : ((gN 79 : Nat) : Int) = 12 := by decide +kernel
  obtain ⟨c1, c2⟩ := hc
  have w1 := hw.1
  simp (disch := first | assumption | exact gb_01 _ | omega) only [r_C_become_0, r_C_become_1, r_C_become_2, r_C_become_5, r_C_become_8, r_C_become_9, r_C_become_11, r_C_become_12, r_C_become_15, r_C_become_18, r_C_become_19, r_C_become_22, r_C_become_23, r_C_become_24, r_C_become_25, r_C_become_26, r_C_become_29, r_C_become_30, r_C_become_31, r_C_become_32, r_C_become_33, r_C_become_36, r_C_become_37, r_C_become_38, r_C_become_41, r_C_become_42, r_C_become_45, r_C_become_46, r_C_become_47, r_C_become_50, r_C_become_51, r_C_become_52, r_C_become_53, r_C_become_54, r_C_become_57, r_C_become_58, r_C_become_59, r_C_become_62, r_C_become_63, r_C_become_64, r_C_become_65, r_C_become_66, r_C_become_69, r_C_become_70, r_C_become_71, r_C_become_74, r_C_become_75, r_C_become_76, r_C_become_77, r_C_become_78, r_C_become_81, r_C_become_82, r_C_become_83, r_C_become_86, r_C_become_87, r_C_become_88, r_C_become_89, r_C_become_92, r_C_become_95, c1, gupd_ne, w32_gb, w32i, tn_add, tn_mul, Int.toNat_natCast, Int.toNat_zero, Int.reduceLE, Int.reduceLT, Int.reduceEq, Int.reduceNe, gb_T, gb_F, Int.reduceToNat, eq_self, true_or, or_true, and_true, true_and, and_self, ↓ite_gb0, ↓ite_gbn, ↓if_pos, ↓if_neg, if_true, if_false, not_true_eq_false, not_false_eq_true, gb_ne0, gb_eq0]
  refine wloop (n := (f 2).toNat) (I := fun k ls τ => ls = [vR 179, vR 78, vI (k : Int)] ∧ (τ 179 6 = f 2 ∧ ∀ t : Nat, t < k → (τ 193 t = σ 92 t ∧ τ 194 t = σ 93 t ∧ τ 195 t = σ 94 t ∧ τ 196 t = σ 95 t) ∧ ∀ i : Nat, (i : Int) < f (930 + 200 * t + 3) → τ (181 + t) i = σ (80 + t) i) ∧ Agr σ τ (fun k _ => 179 ≤ k ∧ k ≤ 197)) (fun k ls τ hk hi hq => ?_) (fun ls τ hi => ?_) (f 2).toNat 0 (by omega) _ _ ⟨rfl, ⟨gupd_eq, fun t ht => by omega⟩, Agr_upd (Agr_refl _ _) (by omega)⟩
  · obtain ⟨rfl, ⟨h0, h1⟩, hA⟩ := hi
    obtain ⟨x1, x2, x3⟩ := gq180 k (by omega)
    obtain ⟨y1, y2, y3⟩ := gq79' k (by omega)
    have p4 := (c2 k (by omega)).1
    have q4 := (WTp hw (t := k) (by omega)).2.2.2.1
    have e4 : τ 92 k = f (930 + 200 * k + 3) := (hA _ _ (by omega)).trans p4
    have e5 : τ 93 k = σ 93 k := hA _ _ (by omega)
    have e6 : τ 94 k = σ 94 k := hA _ _ (by omega)
    have e7 : τ 95 k = σ 95 k := hA _ _ (by omega)
    have eC : ∀ i, τ (80 + k) i = σ (80 + k) i := fun i => hA _ _ (by omega)
    rw [r_C_become_10]
    generalize hm : f (930 + 200 * k + 3) = m at q4 e4 p4
    simp (disch := first | assumption | exact gb_01 _ | omega) only [r_C_become_0, r_C_become_1, r_C_become_2, r_C_become_5, r_C_become_8, r_C_become_9, r_C_become_11, r_C_become_12, r_C_become_15, r_C_become_18, r_C_become_19, r_C_become_22, r_C_become_23, r_C_become_24, r_C_become_25, r_C_become_26, r_C_become_29, r_C_become_30, r_C_become_31, r_C_become_32, r_C_become_33, r_C_become_36, r_C_become_37, r_C_become_38, r_C_become_41, r_C_become_42, r_C_become_45, r_C_become_46, r_C_become_47, r_C_become_50, r_C_become_51, r_C_become_52, r_C_become_53, r_C_become_54, r_C_become_57, r_C_become_58, r_C_become_59, r_C_become_62, r_C_become_63, r_C_become_64, r_C_become_65, r_C_become_66, r_C_become_69, r_C_become_70, r_C_become_71, r_C_become_74, r_C_become_75, r_C_become_76, r_C_become_77, r_C_become_78, r_C_become_81, r_C_become_82, r_C_become_83, r_C_become_86, r_C_become_87, r_C_become_88, r_C_become_89, r_C_become_92, r_C_become_95, gq_179_0, gq_179_1, gq_179_2, gq_179_3, gq_179_4, gq_78_0, gq_78_1, gq_78_2, gq_78_3, gq_78_4, x1, y1, h0, e4, e5, e6, e7, gupd_ne, gcpy_ne, w32_gb, w32i, tn_add, tn_mul, Int.toNat_natCast, Int.toNat_zero, Int.reduceLE, Int.reduceLT, Int.reduceEq, Int.reduceNe, gb_T, gb_F, Int.reduceToNat, eq_self, true_or, or_true, and_true, true_and, and_self, ↓ite_gb0, ↓ite_gbn, ↓if_pos, ↓if_neg, if_true, if_false, not_true_eq_false, not_false_eq_true, gb_ne0, gb_eq0]
    refine hq _ _ ⟨by simp only [List.cons.injEq, vI_inj, vR_inj, and_true, true_and]; omega, ⟨?_, fun t ht => ?_⟩, Agr_upd (Agr_upd (Agr_upd (Agr_upd (Agr_cpy hA (fun j _ _ => by omega)) (by omega)) (by omega)) (by omega)) (by omega)⟩
    · simp (disch := omega) only [gupd_ne, gcpy_ne]
      exact h0
    · by_cases e : t = k
      · rw [e, hm]
        refine ⟨?_, fun i hi => ?_⟩
        · simp (disch := omega) only [gupd_ne, gupd_eq, and_true, p4]
        · simp (disch := omega) only [gupd_ne, gcpy_z]
          exact eC i
      · simp (disch := omega) only [gupd_ne, gcpy_ne]
        exact h1 t (by omega)
  · obtain ⟨rfl, ⟨h0, h1⟩, hA⟩ := hi
    rw [r_C_become_10]
    simp (disch := first | assumption | exact gb_01 _ | omega) only [r_C_become_0, r_C_become_1, r_C_become_2, r_C_become_5, r_C_become_8, r_C_become_9, r_C_become_11, r_C_become_12, r_C_become_15, r_C_become_18, r_C_become_19, r_C_become_22, r_C_become_23, r_C_become_24, r_C_become_25, r_C_become_26, r_C_become_29, r_C_become_30, r_C_become_31, r_C_become_32, r_C_become_33, r_C_become_36, r_C_become_37, r_C_become_38, r_C_become_41, r_C_become_42, r_C_become_45, r_C_become_46, r_C_become_47, r_C_become_50, r_C_become_51, r_C_become_52, r_C_become_53, r_C_become_54, r_C_become_57, r_C_become_58, r_C_become_59, r_C_become_62, r_C_become_63, r_C_become_64, r_C_become_65, r_C_become_66, r_C_become_69, r_C_become_70, r_C_become_71, r_C_become_74, r_C_become_75, r_C_become_76, r_C_become_77, r_C_become_78, r_C_become_81, r_C_become_82, r_C_become_83, r_C_become_86, r_C_become_87, r_C_become_88, r_C_become_89, r_C_become_92, r_C_become_95, h0, w32_gb, w32i, tn_add, tn_mul, Int.toNat_natCast, Int.toNat_zero, Int.reduceLE, Int.reduceLT, Int.reduceEq, Int.reduceNe, gb_T, gb_F, Int.reduceToNat, eq_self, true_or, or_true, and_true, true_and, and_self, ↓ite_gb0, ↓ite_gbn, ↓if_pos, ↓if_neg, if_true, if_false, not_true_eq_false, not_false_eq_true, gb_ne0, gb_eq0]
    refine ⟨⟨h0, fun t ht => ?_⟩, hA⟩
    obtain ⟨⟨z1, z2, z3, z4⟩, z5⟩ := h1 t (by omega)
    obtain ⟨v1, v2, v3, v4, v5⟩ := c2 t ht
    exact ⟨z1.trans v1, z2.trans v2, z3.trans v3, z4.trans v4, fun i hi => (z5 i hi).trans (v5 i hi)⟩
