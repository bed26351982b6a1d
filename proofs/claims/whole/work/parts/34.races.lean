/-! speed, races. -/
variable {L d : Nat} {σ σ1 : Nat → Nat → Int} {Q : Option gV → (Nat → Nat → Int) → Prop} {a0 a1 a2 a3 a4 a5 a6 a7 a8 a9 a10 a11 s0 s1 s2 s3 s4 s5 s6 s7 s8 s9 : Int} {l0 l1 l2 l3 l4 l5 l6 l7 l8 l9 l10 l11 t0 t1 t2 t3 t4 t5 t6 t7 t8 t9 : gV} {b0 b1 b2 b3 b4 b5 b6 b7 b8 b9 b10 b11 c0 c1 c2 c3 c4 c5 c6 c7 c8 c9 : Nat} {r : Option gV}
theorem gb_T {h : Decidable True} : gb True = 1 := gb_t trivial
theorem gb_F {h : Decidable False} : gb False = 0 := gb_f (fun h => h)
def WTm (f : Nat → Int) (k : Nat) : Prop := 0 ≤ f (850 + 4 * k) ∧ f (850 + 4 * k) ≤ f (850 + 4 * k + 2) ∧ f (850 + 4 * k + 2) ≤ 999 ∧ 0 ≤ f (850 + 4 * k + 1) ∧ f (850 + 4 * k + 1) < f (850 + 4 * k + 3) ∧ f (850 + 4 * k + 3) ≤ 99999
theorem gspd_bd {f : Nat → Int} {k : Nat} (h : WTm f k) : 0 ≤ gspd f k ∧ gspd f k ≤ 3596400 := by
  unfold WTm at h
  have := tdiv_bd (a := 3600 * (f (850 + 4 * k + 2) - f (850 + 4 * k))) (b := f (850 + 4 * k + 3) - f (850 + 4 * k + 1)) (by omega) (by omega)
  unfold gspd
  omega
theorem r_M_speedOf_0 : Wp L d k_M_speedOf 0 [l0, l1, l2] [] σ Q ↔ Wp L d k_M_speedOf 3 [l0, l1, l2] [vI 850] σ Q := wp_push rfl
theorem r_M_speedOf_3 : Wp L d k_M_speedOf 3 [l0, l1, l2] [vI s0] σ Q ↔ Wp L d k_M_speedOf 4 [l0, l1, l2] [vI 4, vI s0] σ Q := wp_push rfl
theorem r_M_speedOf_4 : Wp L d k_M_speedOf 4 [l0, vI a1, l2] [vI s1, vI s0] σ Q ↔ Wp L d k_M_speedOf 5 [l0, vI a1, l2] [vI a1, vI s1, vI s0] σ Q := wp_iload rfl rfl
theorem r_M_speedOf_5 : Wp L d k_M_speedOf 5 [l0, l1, l2] [vI s2, vI s1, vI s0] σ Q ↔ Wp L d k_M_speedOf 6 [l0, l1, l2] [vI (w32 (s1 * s2)), vI s0] σ Q := wp_imul rfl
theorem r_M_speedOf_6 : Wp L d k_M_speedOf 6 [l0, l1, l2] [vI s1, vI s0] σ Q ↔ Wp L d k_M_speedOf 7 [l0, l1, l2] [vI (w32 (s0 + s1))] σ Q := wp_iadd rfl
theorem r_M_speedOf_7 : Wp L d k_M_speedOf 7 [l0, vI a1, l2] [vI s0] σ Q ↔ Wp L d k_M_speedOf 8 [l0, vI a1, vI s0] [] σ Q := wp_istore (i := 2) (ls := [l0, vI a1, l2]) rfl rfl
theorem r_M_speedOf_8 : Wp L d k_M_speedOf 8 [l0, l1, l2] [] σ Q ↔ Wp L d k_M_speedOf 11 [l0, l1, l2] [vI 3600] σ Q := wp_push rfl
theorem r_M_speedOf_11 : Wp L d k_M_speedOf 11 [vR b0, l1, l2] [vI s0] σ Q ↔ Wp L d k_M_speedOf 12 [vR b0, l1, l2] [vR b0, vI s0] σ Q := wp_aload rfl rfl
theorem r_M_speedOf_12 (h : gK c1 = 12) : Wp L d k_M_speedOf 12 [l0, l1, l2] [vR c1, vI s0] σ Q ↔ Wp L d k_M_speedOf 15 [l0, l1, l2] [vR (gq c1 0), vI s0] σ Q := wp_getR (c := 3200) rfl rfl rfl rfl rfl h
theorem r_M_speedOf_15 : Wp L d k_M_speedOf 15 [l0, l1, vI a2] [vR c1, vI s0] σ Q ↔ Wp L d k_M_speedOf 16 [l0, l1, vI a2] [vI a2, vR c1, vI s0] σ Q := wp_iload rfl rfl
theorem r_M_speedOf_16 : Wp L d k_M_speedOf 16 [l0, l1, l2] [vI s2, vR c1, vI s0] σ Q ↔ Wp L d k_M_speedOf 17 [l0, l1, l2] [vI 2, vI s2, vR c1, vI s0] σ Q := wp_push rfl
theorem r_M_speedOf_17 : Wp L d k_M_speedOf 17 [l0, l1, l2] [vI s3, vI s2, vR c1, vI s0] σ Q ↔ Wp L d k_M_speedOf 18 [l0, l1, l2] [vI (w32 (s2 + s3)), vR c1, vI s0] σ Q := wp_iadd rfl
theorem r_M_speedOf_18 (h : gK c1 = 100) (hx : 0 ≤ s2 ∧ s2 < gN c1) : Wp L d k_M_speedOf 18 [l0, l1, l2] [vI s2, vR c1, vI s0] σ Q ↔ Wp L d k_M_speedOf 19 [l0, l1, l2] [vI (σ c1 s2.toNat), vI s0] σ Q := wp_iald rfl h hx
theorem r_M_speedOf_19 : Wp L d k_M_speedOf 19 [vR b0, l1, l2] [vI s1, vI s0] σ Q ↔ Wp L d k_M_speedOf 20 [vR b0, l1, l2] [vR b0, vI s1, vI s0] σ Q := wp_aload rfl rfl
theorem r_M_speedOf_20 (h : gK c2 = 12) : Wp L d k_M_speedOf 20 [l0, l1, l2] [vR c2, vI s1, vI s0] σ Q ↔ Wp L d k_M_speedOf 23 [l0, l1, l2] [vR (gq c2 0), vI s1, vI s0] σ Q := wp_getR (c := 3200) rfl rfl rfl rfl rfl h
theorem r_M_speedOf_23 : Wp L d k_M_speedOf 23 [l0, l1, vI a2] [vR c2, vI s1, vI s0] σ Q ↔ Wp L d k_M_speedOf 24 [l0, l1, vI a2] [vI a2, vR c2, vI s1, vI s0] σ Q := wp_iload rfl rfl
theorem r_M_speedOf_24 (h : gK c2 = 100) (hx : 0 ≤ s3 ∧ s3 < gN c2) : Wp L d k_M_speedOf 24 [l0, l1, l2] [vI s3, vR c2, vI s1, vI s0] σ Q ↔ Wp L d k_M_speedOf 25 [l0, l1, l2] [vI (σ c2 s3.toNat), vI s1, vI s0] σ Q := wp_iald rfl h hx
theorem r_M_speedOf_25 : Wp L d k_M_speedOf 25 [l0, l1, l2] [vI s2, vI s1, vI s0] σ Q ↔ Wp L d k_M_speedOf 26 [l0, l1, l2] [vI (w32 (s1 - s2)), vI s0] σ Q := wp_isub rfl
theorem r_M_speedOf_26 : Wp L d k_M_speedOf 26 [l0, l1, l2] [vI s1, vI s0] σ Q ↔ Wp L d k_M_speedOf 27 [l0, l1, l2] [vI (w32 (s0 * s1))] σ Q := wp_imul rfl
theorem r_M_speedOf_27 : Wp L d k_M_speedOf 27 [vR b0, l1, l2] [vI s0] σ Q ↔ Wp L d k_M_speedOf 28 [vR b0, l1, l2] [vR b0, vI s0] σ Q := wp_aload rfl rfl
theorem r_M_speedOf_28 (h : gK c1 = 12) : Wp L d k_M_speedOf 28 [l0, l1, l2] [vR c1, vI s0] σ Q ↔ Wp L d k_M_speedOf 31 [l0, l1, l2] [vR (gq c1 0), vI s0] σ Q := wp_getR (c := 3200) rfl rfl rfl rfl rfl h
theorem r_M_speedOf_31 : Wp L d k_M_speedOf 31 [l0, l1, vI a2] [vR c1, vI s0] σ Q ↔ Wp L d k_M_speedOf 32 [l0, l1, vI a2] [vI a2, vR c1, vI s0] σ Q := wp_iload rfl rfl
theorem r_M_speedOf_32 : Wp L d k_M_speedOf 32 [l0, l1, l2] [vI s2, vR c1, vI s0] σ Q ↔ Wp L d k_M_speedOf 33 [l0, l1, l2] [vI 3, vI s2, vR c1, vI s0] σ Q := wp_push rfl
theorem r_M_speedOf_33 : Wp L d k_M_speedOf 33 [l0, l1, l2] [vI s3, vI s2, vR c1, vI s0] σ Q ↔ Wp L d k_M_speedOf 34 [l0, l1, l2] [vI (w32 (s2 + s3)), vR c1, vI s0] σ Q := wp_iadd rfl
theorem r_M_speedOf_34 (h : gK c1 = 100) (hx : 0 ≤ s2 ∧ s2 < gN c1) : Wp L d k_M_speedOf 34 [l0, l1, l2] [vI s2, vR c1, vI s0] σ Q ↔ Wp L d k_M_speedOf 35 [l0, l1, l2] [vI (σ c1 s2.toNat), vI s0] σ Q := wp_iald rfl h hx
theorem r_M_speedOf_35 : Wp L d k_M_speedOf 35 [vR b0, l1, l2] [vI s1, vI s0] σ Q ↔ Wp L d k_M_speedOf 36 [vR b0, l1, l2] [vR b0, vI s1, vI s0] σ Q := wp_aload rfl rfl
theorem r_M_speedOf_36 (h : gK c2 = 12) : Wp L d k_M_speedOf 36 [l0, l1, l2] [vR c2, vI s1, vI s0] σ Q ↔ Wp L d k_M_speedOf 39 [l0, l1, l2] [vR (gq c2 0), vI s1, vI s0] σ Q := wp_getR (c := 3200) rfl rfl rfl rfl rfl h
theorem r_M_speedOf_39 : Wp L d k_M_speedOf 39 [l0, l1, vI a2] [vR c2, vI s1, vI s0] σ Q ↔ Wp L d k_M_speedOf 40 [l0, l1, vI a2] [vI a2, vR c2, vI s1, vI s0] σ Q := wp_iload rfl rfl
theorem r_M_speedOf_40 : Wp L d k_M_speedOf 40 [l0, l1, l2] [vI s3, vR c2, vI s1, vI s0] σ Q ↔ Wp L d k_M_speedOf 41 [l0, l1, l2] [vI 1, vI s3, vR c2, vI s1, vI s0] σ Q := wp_push rfl
theorem r_M_speedOf_41 : Wp L d k_M_speedOf 41 [l0, l1, l2] [vI s4, vI s3, vR c2, vI s1, vI s0] σ Q ↔ Wp L d k_M_speedOf 42 [l0, l1, l2] [vI (w32 (s3 + s4)), vR c2, vI s1, vI s0] σ Q := wp_iadd rfl
theorem r_M_speedOf_42 (h : gK c2 = 100) (hx : 0 ≤ s3 ∧ s3 < gN c2) : Wp L d k_M_speedOf 42 [l0, l1, l2] [vI s3, vR c2, vI s1, vI s0] σ Q ↔ Wp L d k_M_speedOf 43 [l0, l1, l2] [vI (σ c2 s3.toNat), vI s1, vI s0] σ Q := wp_iald rfl h hx
theorem r_M_speedOf_43 : Wp L d k_M_speedOf 43 [l0, l1, l2] [vI s2, vI s1, vI s0] σ Q ↔ Wp L d k_M_speedOf 44 [l0, l1, l2] [vI (w32 (s1 - s2)), vI s0] σ Q := wp_isub rfl
theorem r_M_speedOf_44 (h : s1 ≠ 0) : Wp L d k_M_speedOf 44 [l0, l1, l2] [vI s1, vI s0] σ Q ↔ Wp L d k_M_speedOf 45 [l0, l1, l2] [vI (w32 (s0.tdiv s1))] σ Q := wp_idiv rfl h
theorem r_M_speedOf_45 : Wp L d k_M_speedOf 45 [l0, l1, l2] [vI s0] σ Q ↔ Q (some (vI s0)) σ := wp_iret rfl
theorem sp_M_speedOf (h : 0 ≤ a1 ∧ a1 ≤ 15) (hv : WTm (σ 294) a1.toNat) : Run L d 301 [vR 293, vI a1] σ (some (vI (gspd (σ 294) a1.toNat))) σ := by
  have w0 : w32 (4 * a1) = 4 * a1 := w32_id (by unfold gr32; omega)
  have w1 : w32 (850 + 4 * a1) = 850 + 4 * a1 := w32_id (by unfold gr32; omega)
  have w2 : w32 (850 + 4 * a1 + 1) = 850 + 4 * a1 + 1 := w32_id (by unfold gr32; omega)
  have w3 : w32 (850 + 4 * a1 + 2) = 850 + 4 * a1 + 2 := w32_id (by unfold gr32; omega)
  have w4 : w32 (850 + 4 * a1 + 3) = 850 + 4 * a1 + 3 := w32_id (by unfold gr32; omega)
  have p0 : 0 ≤ 850 + 4 * a1 ∧ 850 + 4 * a1 < 3540 := by omega
  have p1 : 0 ≤ 850 + 4 * a1 + 1 ∧ 850 + 4 * a1 + 1 < 3540 := by omega
  have p2 : 0 ≤ 850 + 4 * a1 + 2 ∧ 850 + 4 * a1 + 2 < 3540 := by omega
  have p3 : 0 ≤ 850 + 4 * a1 + 3 ∧ 850 + 4 * a1 + 3 < 3540 := by omega
  have t0 : (850 + 4 * a1).toNat = 850 + 4 * a1.toNat := by omega
  have t1 : (850 + 4 * a1 + 1).toNat = 850 + 4 * a1.toNat + 1 := by omega
  have t2 : (850 + 4 * a1 + 2).toNat = 850 + 4 * a1.toNat + 2 := by omega
  have t3 : (850 + 4 * a1 + 3).toNat = 850 + 4 * a1.toNat + 3 := by omega
  have gq := gspd_bd hv
  unfold WTm at hv
  have v0 : w32 (σ 294 (850 + 4 * a1.toNat + 2) - σ 294 (850 + 4 * a1.toNat)) = σ 294 (850 + 4 * a1.toNat + 2) - σ 294 (850 + 4 * a1.toNat) := w32_id (by unfold gr32; omega)
  have v1 : w32 (3600 * (σ 294 (850 + 4 * a1.toNat + 2) - σ 294 (850 + 4 * a1.toNat))) = 3600 * (σ 294 (850 + 4 * a1.toNat + 2) - σ 294 (850 + 4 * a1.toNat)) := w32_id (by unfold gr32; omega)
  have v2 : w32 (σ 294 (850 + 4 * a1.toNat + 3) - σ 294 (850 + 4 * a1.toNat + 1)) = σ 294 (850 + 4 * a1.toNat + 3) - σ 294 (850 + 4 * a1.toNat + 1) := w32_id (by unfold gr32; omega)
  have v3 : ¬ σ 294 (850 + 4 * a1.toNat + 3) - σ 294 (850 + 4 * a1.toNat + 1) = 0 := by omega
  have v4 : w32 ((3600 * (σ 294 (850 + 4 * a1.toNat + 2) - σ 294 (850 + 4 * a1.toNat))).tdiv (σ 294 (850 + 4 * a1.toNat + 3) - σ 294 (850 + 4 * a1.toNat + 1))) = gspd (σ 294) a1.toNat := w32_id (by unfold gspd at gq; unfold gr32; omega)
  refine Run_of (C' := k_M_speedOf) rfl ?_
  show Wp L d k_M_speedOf 0 [vR 293, vI a1, vU] [] σ _
  simp only [r_M_speedOf_0, r_M_speedOf_3, r_M_speedOf_4, r_M_speedOf_5, r_M_speedOf_6, r_M_speedOf_7, r_M_speedOf_8, r_M_speedOf_11, r_M_speedOf_12, r_M_speedOf_15, r_M_speedOf_16, r_M_speedOf_17, r_M_speedOf_18, r_M_speedOf_19, r_M_speedOf_20, r_M_speedOf_23, r_M_speedOf_24, r_M_speedOf_25, r_M_speedOf_26, r_M_speedOf_27, r_M_speedOf_28, r_M_speedOf_31, r_M_speedOf_32, r_M_speedOf_33, r_M_speedOf_34, r_M_speedOf_35, r_M_speedOf_36, r_M_speedOf_39, r_M_speedOf_40, r_M_speedOf_41, r_M_speedOf_42, r_M_speedOf_43, r_M_speedOf_44, r_M_speedOf_45, gK_27, gK_28, gK_29, gq_27_0, gq_27_1, gK_293, gq_293_0, gK_294, gN_294, p0, p1, p2, p3, t0, t1, t2, t3, v0, v1, v2, v3, v4, w0, w1, w2, w3, w4, Int.reduceLE, Int.reduceLT, Int.reduceEq, Int.reduceToNat, gb_01, eq_self, true_or, or_true, and_true, true_and, and_self, if_true, if_false, not_true_eq_false, not_false_eq_true, ne_eq, gb_ne0, gb_eq0]
theorem r_X_speed_0 : Wp L d k_X_speed 0 [l0, vI a1] [] σ Q ↔ Wp L d k_X_speed 1 [l0, vI a1] [vI a1] σ Q := wp_iload rfl rfl
theorem r_X_speed_1 : Wp L d k_X_speed 1 [l0, l1] [vI s0] σ Q ↔ Wp L d k_X_speed 2 [l0, l1] [vI 0, vI s0] σ Q := wp_push rfl
theorem r_X_speed_2 : Wp L d k_X_speed 2 [vR b0, l1] [vI s1, vI s0] σ Q ↔ Wp L d k_X_speed 3 [vR b0, l1] [vR b0, vI s1, vI s0] σ Q := wp_aload rfl rfl
theorem r_X_speed_3 (h : gK c2 = 0) : Wp L d k_X_speed 3 [l0, l1] [vR c2, vI s1, vI s0] σ Q ↔ Wp L d k_X_speed 6 [l0, l1] [vR (gq c2 0), vI s1, vI s0] σ Q := wp_getR (c := 128) rfl rfl rfl rfl rfl h
theorem r_X_speed_6 (h : gK c2 = 5) : Wp L d k_X_speed 6 [l0, l1] [vR c2, vI s1, vI s0] σ Q ↔ Wp L d k_X_speed 9 [l0, l1] [vR (gq c2 5), vI s1, vI s0] σ Q := wp_getR (c := 1413) rfl rfl rfl rfl rfl h
theorem r_X_speed_9 (h : gK c2 = 3) : Wp L d k_X_speed 9 [l0, l1] [vR c2, vI s1, vI s0] σ Q ↔ Wp L d k_X_speed 12 [l0, l1] [vI (σ c2 4), vI s1, vI s0] σ Q := wp_getI (c := 772) rfl rfl rfl rfl h
theorem r_X_speed_12 : Wp L d k_X_speed 12 [l0, l1] [vI s2, vI s1, vI s0] σ Q ↔ Wp L d k_X_speed 13 [l0, l1] [vI 1, vI s2, vI s1, vI s0] σ Q := wp_push rfl
theorem r_X_speed_13 : Wp L d k_X_speed 13 [l0, l1] [vI s3, vI s2, vI s1, vI s0] σ Q ↔ Wp L d k_X_speed 14 [l0, l1] [vI (w32 (s2 - s3)), vI s1, vI s0] σ Q := wp_isub rfl
theorem r_X_speed_17 : Wp L d k_X_speed 17 [l0, l1] [vI s0] σ Q ↔ (if s0 = 0 then Wp L d k_X_speed 35 [l0, l1] [] σ Q else Wp L d k_X_speed 20 [l0, l1] [] σ Q) := wp_if_eq rfl
theorem r_X_speed_20 : Wp L d k_X_speed 20 [vR b0, l1] [] σ Q ↔ Wp L d k_X_speed 21 [vR b0, l1] [vR b0] σ Q := wp_aload rfl rfl
theorem r_X_speed_21 (h : gK c0 = 0) : Wp L d k_X_speed 21 [l0, l1] [vR c0] σ Q ↔ Wp L d k_X_speed 24 [l0, l1] [vR (gq c0 0)] σ Q := wp_getR (c := 128) rfl rfl rfl rfl rfl h
theorem r_X_speed_24 (h : gK c0 = 5) : Wp L d k_X_speed 24 [l0, l1] [vR c0] σ Q ↔ Wp L d k_X_speed 27 [l0, l1] [vR (gq c0 5)] σ Q := wp_getR (c := 1413) rfl rfl rfl rfl rfl h
theorem r_X_speed_27 (h : gK c0 = 3) : Wp L d k_X_speed 27 [l0, l1] [vR c0] σ Q ↔ Wp L d k_X_speed 30 [l0, l1] [vR (gq c0 0)] σ Q := wp_getR (c := 896) rfl rfl rfl rfl rfl h
theorem r_X_speed_30 : Wp L d k_X_speed 30 [l0, vI a1] [vR c0] σ Q ↔ Wp L d k_X_speed 31 [l0, vI a1] [vI a1, vR c0] σ Q := wp_iload rfl rfl
theorem r_X_speed_31 (h : gK c0 = 100) (hx : 0 ≤ s1 ∧ s1 < gN c0) : Wp L d k_X_speed 31 [l0, l1] [vI s1, vR c0] σ Q ↔ Wp L d k_X_speed 32 [l0, l1] [vI (σ c0 s1.toNat)] σ Q := wp_iald rfl h hx
theorem r_X_speed_32 : Wp L d k_X_speed 32 [l0, l1] [vI s0] σ Q ↔ Wp L d k_X_speed 37 [l0, l1] [vI s0] σ Q := wp_goto rfl
theorem r_X_speed_35 : Wp L d k_X_speed 35 [l0, l1] [] σ Q ↔ Wp L d k_X_speed 37 [l0, l1] [vI (-1000000001)] σ Q := wp_push rfl
theorem r_X_speed_37 : Wp L d k_X_speed 37 [l0, l1] [vI s0] σ Q ↔ Q (some (vI s0)) σ := wp_iret rfl
theorem r_X_speed_14 : Wp L (d + 1) k_X_speed 14 [l0, l1] [vI s2, vI s1, vI s0] σ Q ↔ Wp L (d + 1) k_X_speed 17 [l0, l1] [vI (gb (s1 ≤ s0 ∧ s0 ≤ s2))] σ Q := wp_callR (d := d + 0) (as := [vI s0, vI s1, vI s2]) (rest := []) rfl rfl rfl rfl rfl rfl rfl rfl (sp_X_within)
theorem sp_X_speed_b (hn : w32 (σ 123 4 - 1) = σ 123 4 - 1) (h : ¬ (0 ≤ a1 ∧ a1 ≤ σ 123 4 - 1)) : Run L (d + 1) 72 [vR 27, vI a1] σ (some (vI (-1000000001))) σ := by
  refine Run_of (C' := k_X_speed) rfl ?_
  show Wp L (d + 1) k_X_speed 0 [vR 27, vI a1] [] σ _
  simp only [r_X_speed_0, r_X_speed_1, r_X_speed_2, r_X_speed_3, r_X_speed_6, r_X_speed_9, r_X_speed_12, r_X_speed_13, r_X_speed_14, r_X_speed_17, r_X_speed_20, r_X_speed_21, r_X_speed_24, r_X_speed_27, r_X_speed_30, r_X_speed_31, r_X_speed_32, r_X_speed_35, r_X_speed_37, gK_27, gK_28, gK_29, gq_27_0, gq_27_1, gK_293, gq_293_0, gK_294, gN_294, gq_28_5, gK_123, gq_123_0, gK_124, gN_124, hn, h, Int.reduceLE, Int.reduceLT, Int.reduceEq, Int.reduceToNat, gb_01, eq_self, true_or, or_true, and_true, true_and, and_self, if_true, if_false, not_true_eq_false, not_false_eq_true, ne_eq, gb_ne0, gb_eq0]
theorem sp_X_speed (hn : w32 (σ 123 4 - 1) = σ 123 4 - 1) (hb : σ 123 4 ≤ 16) (h : 0 ≤ a1 ∧ a1 ≤ σ 123 4 - 1) : Run L (d + 1) 72 [vR 27, vI a1] σ (some (vI (σ 124 a1.toNat))) σ := by
  have h3 : a1 < 16 := by omega
  refine Run_of (C' := k_X_speed) rfl ?_
  show Wp L (d + 1) k_X_speed 0 [vR 27, vI a1] [] σ _
  simp only [r_X_speed_0, r_X_speed_1, r_X_speed_2, r_X_speed_3, r_X_speed_6, r_X_speed_9, r_X_speed_12, r_X_speed_13, r_X_speed_14, r_X_speed_17, r_X_speed_20, r_X_speed_21, r_X_speed_24, r_X_speed_27, r_X_speed_30, r_X_speed_31, r_X_speed_32, r_X_speed_35, r_X_speed_37, gK_27, gK_28, gK_29, gq_27_0, gq_27_1, gK_293, gq_293_0, gK_294, gN_294, gq_28_5, gK_123, gq_123_0, gK_124, gN_124, hn, h, h3, Int.reduceLE, Int.reduceLT, Int.reduceEq, Int.reduceToNat, gb_01, eq_self, true_or, or_true, and_true, true_and, and_self, if_true, if_false, not_true_eq_false, not_false_eq_true, ne_eq, gb_ne0, gb_eq0]
theorem r_M_speed_0 : Wp L d k_M_speed 0 [l0, vI a1] [] σ Q ↔ Wp L d k_M_speed 1 [l0, vI a1] [vI a1] σ Q := wp_iload rfl rfl
theorem r_M_speed_1 : Wp L d k_M_speed 1 [l0, l1] [vI s0] σ Q ↔ Wp L d k_M_speed 2 [l0, l1] [vL s0] σ Q := wp_i2l rfl
theorem r_M_speed_2 : Wp L d k_M_speed 2 [l0, l1] [vL s0] σ Q ↔ Wp L d k_M_speed 3 [l0, l1] [vL 0, vL s0] σ Q := wp_pushL rfl
theorem r_M_speed_3 : Wp L d k_M_speed 3 [vR b0, l1] [vL s1, vL s0] σ Q ↔ Wp L d k_M_speed 4 [vR b0, l1] [vR b0, vL s1, vL s0] σ Q := wp_aload rfl rfl
theorem r_M_speed_4 (h : gK c2 = 12) : Wp L d k_M_speed 4 [l0, l1] [vR c2, vL s1, vL s0] σ Q ↔ Wp L d k_M_speed 7 [l0, l1] [vR (gq c2 0), vL s1, vL s0] σ Q := wp_getR (c := 3200) rfl rfl rfl rfl rfl h
theorem r_M_speed_7 : Wp L d k_M_speed 7 [l0, l1] [vR c2, vL s1, vL s0] σ Q ↔ Wp L d k_M_speed 8 [l0, l1] [vI 5, vR c2, vL s1, vL s0] σ Q := wp_push rfl
theorem r_M_speed_8 (h : gK c2 = 100) (hx : 0 ≤ s3 ∧ s3 < gN c2) : Wp L d k_M_speed 8 [l0, l1] [vI s3, vR c2, vL s1, vL s0] σ Q ↔ Wp L d k_M_speed 9 [l0, l1] [vI (σ c2 s3.toNat), vL s1, vL s0] σ Q := wp_iald rfl h hx
theorem r_M_speed_9 : Wp L d k_M_speed 9 [l0, l1] [vI s2, vL s1, vL s0] σ Q ↔ Wp L d k_M_speed 10 [l0, l1] [vI 1, vI s2, vL s1, vL s0] σ Q := wp_push rfl
theorem r_M_speed_10 : Wp L d k_M_speed 10 [l0, l1] [vI s3, vI s2, vL s1, vL s0] σ Q ↔ Wp L d k_M_speed 11 [l0, l1] [vI (w32 (s2 - s3)), vL s1, vL s0] σ Q := wp_isub rfl
theorem r_M_speed_11 : Wp L d k_M_speed 11 [l0, l1] [vI s2, vL s1, vL s0] σ Q ↔ Wp L d k_M_speed 12 [l0, l1] [vL s2, vL s1, vL s0] σ Q := wp_i2l rfl
theorem r_M_speed_15 : Wp L d k_M_speed 15 [l0, l1] [vI s0] σ Q ↔ (if s0 = 0 then Wp L d k_M_speed 26 [l0, l1] [] σ Q else Wp L d k_M_speed 18 [l0, l1] [] σ Q) := wp_if_eq rfl
theorem r_M_speed_18 : Wp L d k_M_speed 18 [vR b0, l1] [] σ Q ↔ Wp L d k_M_speed 19 [vR b0, l1] [vR b0] σ Q := wp_aload rfl rfl
theorem r_M_speed_19 : Wp L d k_M_speed 19 [l0, vI a1] [vR c0] σ Q ↔ Wp L d k_M_speed 20 [l0, vI a1] [vI a1, vR c0] σ Q := wp_iload rfl rfl
theorem r_M_speed_23 : Wp L d k_M_speed 23 [l0, l1] [vI s0] σ Q ↔ Wp L d k_M_speed 28 [l0, l1] [vI s0] σ Q := wp_goto rfl
theorem r_M_speed_26 : Wp L d k_M_speed 26 [l0, l1] [] σ Q ↔ Wp L d k_M_speed 28 [l0, l1] [vI (-1000000001)] σ Q := wp_push rfl
theorem r_M_speed_28 : Wp L d k_M_speed 28 [l0, l1] [vI s0] σ Q ↔ Q (some (vI s0)) σ := wp_iret rfl
theorem r_M_speed_12 : Wp L (d + 1) k_M_speed 12 [l0, l1] [vL s2, vL s1, vL s0] σ Q ↔ Wp L (d + 1) k_M_speed 15 [l0, l1] [vI (gb (s1 ≤ s0 ∧ s0 ≤ s2))] σ Q := wp_callR (d := d + 0) (as := [vL s0, vL s1, vL s2]) (rest := []) rfl rfl rfl rfl rfl rfl rfl rfl (sp_M_isIn)
theorem r_M_speed_20 (h : 0 ≤ s1 ∧ s1 ≤ 15) (hv : WTm (σ 294) s1.toNat) : Wp L (d + 1) k_M_speed 20 [l0, l1] [vI s1, vR 293] σ Q ↔ Wp L (d + 1) k_M_speed 23 [l0, l1] [vI (gspd (σ 294) s1.toNat)] σ Q := wp_callR (d := d + 0) (as := [vR 293, vI s1]) (rest := []) rfl rfl rfl rfl rfl rfl rfl (grecv_k (by rw [gK_293]) rfl) (sp_M_speedOf h hv)
theorem sp_M_speed_b (hn : w32 (σ 294 5 - 1) = σ 294 5 - 1) (h : ¬ (0 ≤ a1 ∧ a1 ≤ σ 294 5 - 1)) : Run L (d + 1) 300 [vR 293, vI a1] σ (some (vI (-1000000001))) σ := by
  refine Run_of (C' := k_M_speed) rfl ?_
  show Wp L (d + 1) k_M_speed 0 [vR 293, vI a1] [] σ _
  simp only [r_M_speed_0, r_M_speed_1, r_M_speed_2, r_M_speed_3, r_M_speed_4, r_M_speed_7, r_M_speed_8, r_M_speed_9, r_M_speed_10, r_M_speed_11, r_M_speed_12, r_M_speed_15, r_M_speed_18, r_M_speed_19, r_M_speed_20, r_M_speed_23, r_M_speed_26, r_M_speed_28, gK_27, gK_28, gK_29, gq_27_0, gq_27_1, gK_293, gq_293_0, gK_294, gN_294, hn, h, Int.reduceLE, Int.reduceLT, Int.reduceEq, Int.reduceToNat, gb_01, eq_self, true_or, or_true, and_true, true_and, and_self, if_true, if_false, not_true_eq_false, not_false_eq_true, ne_eq, gb_ne0, gb_eq0]
theorem sp_M_speed (hn : w32 (σ 294 5 - 1) = σ 294 5 - 1) (hb : σ 294 5 ≤ 16) (h : 0 ≤ a1 ∧ a1 ≤ σ 294 5 - 1) (hv : WTm (σ 294) a1.toNat) : Run L (d + 1) 300 [vR 293, vI a1] σ (some (vI (gspd (σ 294) a1.toNat))) σ := by
  have h3 : a1 ≤ 15 := by omega
  refine Run_of (C' := k_M_speed) rfl ?_
  show Wp L (d + 1) k_M_speed 0 [vR 293, vI a1] [] σ _
  simp only [r_M_speed_0, r_M_speed_1, r_M_speed_2, r_M_speed_3, r_M_speed_4, r_M_speed_7, r_M_speed_8, r_M_speed_9, r_M_speed_10, r_M_speed_11, r_M_speed_12, r_M_speed_15, r_M_speed_18, r_M_speed_19, r_M_speed_20, r_M_speed_23, r_M_speed_26, r_M_speed_28, gK_27, gK_28, gK_29, gq_27_0, gq_27_1, gK_293, gq_293_0, gK_294, gN_294, hn, h, h.1, h3, hv, Int.reduceLE, Int.reduceLT, Int.reduceEq, Int.reduceToNat, gb_01, eq_self, true_or, or_true, and_true, true_and, and_self, if_true, if_false, not_true_eq_false, not_false_eq_true, ne_eq, gb_ne0, gb_eq0]
theorem op_speed (a1 : Int) : Op 72 300 [vI a1] := by
  intro L d σ hI
  obtain ⟨⟨w1, w2, w3, w4⟩, c1, c2, c3, c4, c5⟩ := iP hI
  have hn : w32 (σ 123 4 - 1) = σ 123 4 - 1 := w32_id (by unfold gr32; omega)
  have hm : w32 (σ 294 5 - 1) = σ 294 5 - 1 := w32_id (by unfold gr32; omega)
  by_cases h : 0 ≤ a1 ∧ a1 ≤ σ 123 4 - 1
  · exact ⟨_, _, _, sp_X_speed hn (by omega) h, Run_r (sp_M_speed hm (by omega) (by omega) (w4 a1.toNat (by omega))) (c5 a1.toNat (by omega)).symm, hI⟩
  · exact ⟨_, _, _, sp_X_speed_b hn h, sp_M_speed_b hm (by omega), hI⟩
theorem r_P_fasterThan_0 : Wp L d k_P_fasterThan 0 [l0, l1, l2, l3] [] σ Q ↔ Wp L d k_P_fasterThan 1 [l0, l1, l2, l3] [vI 0] σ Q := wp_push rfl
theorem r_P_fasterThan_1 : Wp L d k_P_fasterThan 1 [l0, vI a1, l2, l3] [vI s0] σ Q ↔ Wp L d k_P_fasterThan 2 [l0, vI a1, vI s0, l3] [] σ Q := wp_istore (i := 2) (ls := [l0, vI a1, l2, l3]) rfl rfl
theorem r_P_fasterThan_2 : Wp L d k_P_fasterThan 2 [l0, l1, l2, l3] [] σ Q ↔ Wp L d k_P_fasterThan 3 [l0, l1, l2, l3] [vI 0] σ Q := wp_push rfl
theorem r_P_fasterThan_3 : Wp L d k_P_fasterThan 3 [l0, l1, vI a2, l3] [vI s0] σ Q ↔ Wp L d k_P_fasterThan 4 [l0, l1, vI a2, vI s0] [] σ Q := wp_istore (i := 3) (ls := [l0, l1, vI a2, l3]) rfl rfl
theorem r_P_fasterThan_4 : Wp L d k_P_fasterThan 4 [l0, l1, l2, vI a3] [] σ Q ↔ Wp L d k_P_fasterThan 5 [l0, l1, l2, vI a3] [vI a3] σ Q := wp_iload rfl rfl
theorem r_P_fasterThan_5 : Wp L d k_P_fasterThan 5 [vR b0, l1, l2, l3] [vI s0] σ Q ↔ Wp L d k_P_fasterThan 6 [vR b0, l1, l2, l3] [vR b0, vI s0] σ Q := wp_aload rfl rfl
theorem r_P_fasterThan_6 (h : gK c1 = 3) : Wp L d k_P_fasterThan 6 [l0, l1, l2, l3] [vR c1, vI s0] σ Q ↔ Wp L d k_P_fasterThan 9 [l0, l1, l2, l3] [vI (σ c1 4), vI s0] σ Q := wp_getI (c := 772) rfl rfl rfl rfl h
theorem r_P_fasterThan_9 : Wp L d k_P_fasterThan 9 [l0, l1, l2, l3] [vI s1, vI s0] σ Q ↔ (if s1 ≤ s0 then Wp L d k_P_fasterThan 39 [l0, l1, l2, l3] [] σ Q else Wp L d k_P_fasterThan 12 [l0, l1, l2, l3] [] σ Q) := wp_cmp_ge rfl
theorem r_P_fasterThan_12 : Wp L d k_P_fasterThan 12 [l0, l1, vI a2, l3] [] σ Q ↔ Wp L d k_P_fasterThan 13 [l0, l1, vI a2, l3] [vI a2] σ Q := wp_iload rfl rfl
theorem r_P_fasterThan_13 : Wp L d k_P_fasterThan 13 [vR b0, l1, l2, l3] [vI s0] σ Q ↔ Wp L d k_P_fasterThan 14 [vR b0, l1, l2, l3] [vR b0, vI s0] σ Q := wp_aload rfl rfl
theorem r_P_fasterThan_14 (h : gK c1 = 3) : Wp L d k_P_fasterThan 14 [l0, l1, l2, l3] [vR c1, vI s0] σ Q ↔ Wp L d k_P_fasterThan 17 [l0, l1, l2, l3] [vR (gq c1 0), vI s0] σ Q := wp_getR (c := 896) rfl rfl rfl rfl rfl h
theorem r_P_fasterThan_17 : Wp L d k_P_fasterThan 17 [l0, l1, l2, vI a3] [vR c1, vI s0] σ Q ↔ Wp L d k_P_fasterThan 18 [l0, l1, l2, vI a3] [vI a3, vR c1, vI s0] σ Q := wp_iload rfl rfl
theorem r_P_fasterThan_18 (h : gK c1 = 100) (hx : 0 ≤ s2 ∧ s2 < gN c1) : Wp L d k_P_fasterThan 18 [l0, l1, l2, l3] [vI s2, vR c1, vI s0] σ Q ↔ Wp L d k_P_fasterThan 19 [l0, l1, l2, l3] [vI (σ c1 s2.toNat), vI s0] σ Q := wp_iald rfl h hx
theorem r_P_fasterThan_19 : Wp L d k_P_fasterThan 19 [l0, vI a1, l2, l3] [vI s1, vI s0] σ Q ↔ Wp L d k_P_fasterThan 20 [l0, vI a1, l2, l3] [vI a1, vI s1, vI s0] σ Q := wp_iload rfl rfl
theorem r_P_fasterThan_20 : Wp L d k_P_fasterThan 20 [l0, l1, l2, l3] [vI s2, vI s1, vI s0] σ Q ↔ (if s1 ≤ s2 then Wp L d k_P_fasterThan 27 [l0, l1, l2, l3] [vI s0] σ Q else Wp L d k_P_fasterThan 23 [l0, l1, l2, l3] [vI s0] σ Q) := wp_cmp_le rfl
theorem r_P_fasterThan_23 : Wp L d k_P_fasterThan 23 [l0, l1, l2, l3] [vI s0] σ Q ↔ Wp L d k_P_fasterThan 24 [l0, l1, l2, l3] [vI 1, vI s0] σ Q := wp_push rfl
theorem r_P_fasterThan_24 : Wp L d k_P_fasterThan 24 [l0, l1, l2, l3] [vI s1, vI s0] σ Q ↔ Wp L d k_P_fasterThan 28 [l0, l1, l2, l3] [vI s1, vI s0] σ Q := wp_goto rfl
theorem r_P_fasterThan_27 : Wp L d k_P_fasterThan 27 [l0, l1, l2, l3] [vI s0] σ Q ↔ Wp L d k_P_fasterThan 28 [l0, l1, l2, l3] [vI 0, vI s0] σ Q := wp_push rfl
theorem r_P_fasterThan_31 : Wp L d k_P_fasterThan 31 [l0, l1, l2, l3] [vI s1, vI s0] σ Q ↔ Wp L d k_P_fasterThan 32 [l0, l1, l2, l3] [vI (w32 (s0 + s1))] σ Q := wp_iadd rfl
theorem r_P_fasterThan_32 : Wp L d k_P_fasterThan 32 [l0, vI a1, l2, l3] [vI s0] σ Q ↔ Wp L d k_P_fasterThan 33 [l0, vI a1, vI s0, l3] [] σ Q := wp_istore (i := 2) (ls := [l0, vI a1, l2, l3]) rfl rfl
theorem r_P_fasterThan_33 : Wp L d k_P_fasterThan 33 [l0, l1, vI a2, vI a3] [] σ Q ↔ Wp L d k_P_fasterThan 36 [l0, l1, vI a2, vI (w32 (a3 + 1))] [] σ Q := wp_iinc (i := 3) (ls := [l0, l1, vI a2, vI a3]) rfl rfl
theorem r_P_fasterThan_36 : Wp L d k_P_fasterThan 36 [l0, l1, l2, l3] [] σ Q ↔ Wp L d k_P_fasterThan 4 [l0, l1, l2, l3] [] σ Q := wp_goto rfl
theorem r_P_fasterThan_39 : Wp L d k_P_fasterThan 39 [l0, l1, vI a2, l3] [] σ Q ↔ Wp L d k_P_fasterThan 40 [l0, l1, vI a2, l3] [vI a2] σ Q := wp_iload rfl rfl
theorem r_P_fasterThan_40 : Wp L d k_P_fasterThan 40 [l0, l1, l2, l3] [vI s0] σ Q ↔ Q (some (vI s0)) σ := wp_iret rfl
theorem r_P_fasterThan_28 : Wp L (d + 1) k_P_fasterThan 28 [l0, l1, l2, l3] [vI s1, vI s0] σ Q ↔ Wp L (d + 1) k_P_fasterThan 31 [l0, l1, l2, l3] [vI (gb (s1 ≠ 0)), vI s0] σ Q := wp_callR (d := d + 0) (as := [vI s1]) (rest := [vI s0]) rfl rfl rfl rfl rfl rfl rfl rfl (sp_X_bit)
theorem r_M_races_0 : Wp L d k_M_races 0 [l0, vI a1, l2, l3] [] σ Q ↔ Wp L d k_M_races 1 [l0, vI a1, l2, l3] [vI a1] σ Q := wp_iload rfl rfl
theorem r_M_races_1 : Wp L d k_M_races 1 [l0, l1, l2, l3] [vI s0] σ Q ↔ (if 0 ≤ s0 then Wp L d k_M_races 7 [l0, l1, l2, l3] [] σ Q else Wp L d k_M_races 4 [l0, l1, l2, l3] [] σ Q) := wp_if_ge rfl
theorem r_M_races_4 : Wp L d k_M_races 4 [l0, l1, l2, l3] [] σ Q ↔ Wp L d k_M_races 6 [l0, l1, l2, l3] [vI (-1000000001)] σ Q := wp_push rfl
theorem r_M_races_6 : Wp L d k_M_races 6 [l0, l1, l2, l3] [vI s0] σ Q ↔ Q (some (vI s0)) σ := wp_iret rfl
theorem r_M_races_7 : Wp L d k_M_races 7 [l0, l1, l2, l3] [] σ Q ↔ Wp L d k_M_races 8 [l0, l1, l2, l3] [vI 0] σ Q := wp_push rfl
theorem r_M_races_8 : Wp L d k_M_races 8 [l0, vI a1, l2, l3] [vI s0] σ Q ↔ Wp L d k_M_races 9 [l0, vI a1, vI s0, l3] [] σ Q := wp_istore (i := 2) (ls := [l0, vI a1, l2, l3]) rfl rfl
theorem r_M_races_9 : Wp L d k_M_races 9 [l0, l1, l2, l3] [] σ Q ↔ Wp L d k_M_races 10 [l0, l1, l2, l3] [vI 0] σ Q := wp_push rfl
theorem r_M_races_10 : Wp L d k_M_races 10 [l0, l1, vI a2, l3] [vI s0] σ Q ↔ Wp L d k_M_races 11 [l0, l1, vI a2, vI s0] [] σ Q := wp_istore (i := 3) (ls := [l0, l1, vI a2, l3]) rfl rfl
theorem r_M_races_11 : Wp L d k_M_races 11 [l0, l1, l2, vI a3] [] σ Q ↔ Wp L d k_M_races 12 [l0, l1, l2, vI a3] [vI a3] σ Q := wp_iload rfl rfl
theorem r_M_races_12 : Wp L d k_M_races 12 [vR b0, l1, l2, l3] [vI s0] σ Q ↔ Wp L d k_M_races 13 [vR b0, l1, l2, l3] [vR b0, vI s0] σ Q := wp_aload rfl rfl
theorem r_M_races_13 (h : gK c1 = 12) : Wp L d k_M_races 13 [l0, l1, l2, l3] [vR c1, vI s0] σ Q ↔ Wp L d k_M_races 16 [l0, l1, l2, l3] [vR (gq c1 0), vI s0] σ Q := wp_getR (c := 3200) rfl rfl rfl rfl rfl h
theorem r_M_races_16 : Wp L d k_M_races 16 [l0, l1, l2, l3] [vR c1, vI s0] σ Q ↔ Wp L d k_M_races 17 [l0, l1, l2, l3] [vI 5, vR c1, vI s0] σ Q := wp_push rfl
theorem r_M_races_17 (h : gK c1 = 100) (hx : 0 ≤ s2 ∧ s2 < gN c1) : Wp L d k_M_races 17 [l0, l1, l2, l3] [vI s2, vR c1, vI s0] σ Q ↔ Wp L d k_M_races 18 [l0, l1, l2, l3] [vI (σ c1 s2.toNat), vI s0] σ Q := wp_iald rfl h hx
theorem r_M_races_18 : Wp L d k_M_races 18 [l0, l1, l2, l3] [vI s1, vI s0] σ Q ↔ (if s1 ≤ s0 then Wp L d k_M_races 44 [l0, l1, l2, l3] [] σ Q else Wp L d k_M_races 21 [l0, l1, l2, l3] [] σ Q) := wp_cmp_ge rfl
theorem r_M_races_21 : Wp L d k_M_races 21 [l0, l1, vI a2, l3] [] σ Q ↔ Wp L d k_M_races 22 [l0, l1, vI a2, l3] [vI a2] σ Q := wp_iload rfl rfl
theorem r_M_races_22 : Wp L d k_M_races 22 [vR b0, l1, l2, l3] [vI s0] σ Q ↔ Wp L d k_M_races 23 [vR b0, l1, l2, l3] [vR b0, vI s0] σ Q := wp_aload rfl rfl
theorem r_M_races_23 : Wp L d k_M_races 23 [l0, l1, l2, vI a3] [vR c1, vI s0] σ Q ↔ Wp L d k_M_races 24 [l0, l1, l2, vI a3] [vI a3, vR c1, vI s0] σ Q := wp_iload rfl rfl
theorem r_M_races_27 : Wp L d k_M_races 27 [l0, vI a1, l2, l3] [vI s1, vI s0] σ Q ↔ Wp L d k_M_races 28 [l0, vI a1, l2, l3] [vI a1, vI s1, vI s0] σ Q := wp_iload rfl rfl
theorem r_M_races_28 : Wp L d k_M_races 28 [l0, l1, l2, l3] [vI s2, vI s1, vI s0] σ Q ↔ (if s1 ≤ s2 then Wp L d k_M_races 35 [l0, l1, l2, l3] [vI s0] σ Q else Wp L d k_M_races 31 [l0, l1, l2, l3] [vI s0] σ Q) := wp_cmp_le rfl
theorem r_M_races_31 : Wp L d k_M_races 31 [l0, l1, l2, l3] [vI s0] σ Q ↔ Wp L d k_M_races 32 [l0, l1, l2, l3] [vI 1, vI s0] σ Q := wp_push rfl
theorem r_M_races_32 : Wp L d k_M_races 32 [l0, l1, l2, l3] [vI s1, vI s0] σ Q ↔ Wp L d k_M_races 36 [l0, l1, l2, l3] [vI s1, vI s0] σ Q := wp_goto rfl
theorem r_M_races_35 : Wp L d k_M_races 35 [l0, l1, l2, l3] [vI s0] σ Q ↔ Wp L d k_M_races 36 [l0, l1, l2, l3] [vI 0, vI s0] σ Q := wp_push rfl
theorem r_M_races_36 : Wp L d k_M_races 36 [l0, l1, l2, l3] [vI s1, vI s0] σ Q ↔ Wp L d k_M_races 37 [l0, l1, l2, l3] [vI (w32 (s0 + s1))] σ Q := wp_iadd rfl
theorem r_M_races_37 : Wp L d k_M_races 37 [l0, vI a1, l2, l3] [vI s0] σ Q ↔ Wp L d k_M_races 38 [l0, vI a1, vI s0, l3] [] σ Q := wp_istore (i := 2) (ls := [l0, vI a1, l2, l3]) rfl rfl
theorem r_M_races_38 : Wp L d k_M_races 38 [l0, l1, vI a2, vI a3] [] σ Q ↔ Wp L d k_M_races 41 [l0, l1, vI a2, vI (w32 (a3 + 1))] [] σ Q := wp_iinc (i := 3) (ls := [l0, l1, vI a2, vI a3]) rfl rfl
theorem r_M_races_41 : Wp L d k_M_races 41 [l0, l1, l2, l3] [] σ Q ↔ Wp L d k_M_races 11 [l0, l1, l2, l3] [] σ Q := wp_goto rfl
theorem r_M_races_44 : Wp L d k_M_races 44 [l0, l1, vI a2, l3] [] σ Q ↔ Wp L d k_M_races 45 [l0, l1, vI a2, l3] [vI a2] σ Q := wp_iload rfl rfl
theorem r_M_races_45 : Wp L d k_M_races 45 [l0, l1, l2, l3] [vI s0] σ Q ↔ Q (some (vI s0)) σ := wp_iret rfl
theorem r_M_races_24 (h : 0 ≤ s2 ∧ s2 ≤ 15) (hv : WTm (σ 294) s2.toNat) : Wp L (d + 1) k_M_races 24 [l0, l1, l2, l3] [vI s2, vR 293, vI s0] σ Q ↔ Wp L (d + 1) k_M_races 27 [l0, l1, l2, l3] [vI (gspd (σ 294) s2.toNat), vI s0] σ Q := wp_callR (d := d + 0) (as := [vR 293, vI s2]) (rest := [vI s0]) rfl rfl rfl rfl rfl rfl rfl (grecv_k (by rw [gK_293]) rfl) (sp_M_speedOf h hv)
theorem lp_P_fasterThan (h4 : 0 ≤ σ 123 4 ∧ σ 123 4 ≤ 16) (hQ : Wp L (d + 1) k_P_fasterThan 39 [vR 123, vI a1, vI (gsm (fun k => gb (a1 < σ 124 k)) (σ 123 4).toNat), vI (σ 123 4)] [] σ Q) : ∀ (n k : Nat), (k : Int) + n = σ 123 4 → Wp L (d + 1) k_P_fasterThan 4 [vR 123, vI a1, vI (gsm (fun k => gb (a1 < σ 124 k)) k), vI (k : Int)] [] σ Q
  | 0, k, hk => by
    have e : (k : Int) = σ 123 4 := by omega
    have e2 : (σ 123 4).toNat = k := by omega
    have c : σ 123 4 ≤ (k : Int) := by omega
    simp only [r_P_fasterThan_4, r_P_fasterThan_5, r_P_fasterThan_6, r_P_fasterThan_9, gK_27, gK_28, gK_29, gq_27_0, gq_27_1, gK_293, gq_293_0, gK_294, gN_294, gq_28_5, gK_123, gq_123_0, gK_124, gN_124, Int.reduceLE, Int.reduceLT, Int.reduceEq, Int.reduceToNat, gb_01, eq_self, true_or, or_true, and_true, true_and, and_self, if_true, if_false, not_true_eq_false, not_false_eq_true, ne_eq, gb_ne0, gb_eq0, c]
    rw [e2, ← e] at hQ
    exact hQ
  | n + 1, k, hk => by
    have c : ¬ σ 123 4 ≤ (k : Int) := by omega
    have z0 := gsm_bd (g := fun k => gb (a1 < σ 124 k)) (B := 1) k (fun j _ => by rcases gb_01 (a1 < (fun k => σ 124 k) j) with z | z <;> simp only [] at z ⊢ <;> omega)
    have p0 : (k : Int) < 16 := by omega
    have p1 : 0 ≤ (k : Int) := by omega
    have t0 : ((k : Nat) : Int).toNat = k := by omega
    have w8 : w32 ((k : Int) + 1) = ((k + 1 : Nat) : Int) := w32_id (by unfold gr32; omega)
    rw [r_P_fasterThan_4]
    by_cases q : σ 124 k ≤ a1
    · have w7 : w32 (gsm (fun k => gb (a1 < σ 124 k)) k + 0) = gsm (fun k => gb (a1 < σ 124 k)) (k + 1) := by
        simp only [gsm]
        rw [gb_f (p := a1 < σ 124 k) (by omega)]
        exact w32_id (by unfold gr32; omega)
      simp only [r_P_fasterThan_0, r_P_fasterThan_1, r_P_fasterThan_2, r_P_fasterThan_3, r_P_fasterThan_5, r_P_fasterThan_6, r_P_fasterThan_9, r_P_fasterThan_12, r_P_fasterThan_13, r_P_fasterThan_14, r_P_fasterThan_17, r_P_fasterThan_18, r_P_fasterThan_19, r_P_fasterThan_20, r_P_fasterThan_23, r_P_fasterThan_24, r_P_fasterThan_27, r_P_fasterThan_28, r_P_fasterThan_31, r_P_fasterThan_32, r_P_fasterThan_33, r_P_fasterThan_36, r_P_fasterThan_39, r_P_fasterThan_40, gK_27, gK_28, gK_29, gq_27_0, gq_27_1, gK_293, gq_293_0, gK_294, gN_294, gq_28_5, gK_123, gq_123_0, gK_124, gN_124, Int.reduceLE, Int.reduceLT, Int.reduceEq, Int.reduceToNat, gb_01, eq_self, true_or, or_true, and_true, true_and, and_self, if_true, if_false, not_true_eq_false, not_false_eq_true, ne_eq, gb_ne0, gb_eq0, gb_T, gb_F, c, t0, p0, p1, q, w7, w8]
      exact lp_P_fasterThan h4 hQ n (k + 1) (by omega)
    · have w7 : w32 (gsm (fun k => gb (a1 < σ 124 k)) k + 1) = gsm (fun k => gb (a1 < σ 124 k)) (k + 1) := by
        simp only [gsm]
        rw [gb_t (p := a1 < σ 124 k) (by omega)]
        exact w32_id (by unfold gr32; omega)
      simp only [r_P_fasterThan_0, r_P_fasterThan_1, r_P_fasterThan_2, r_P_fasterThan_3, r_P_fasterThan_5, r_P_fasterThan_6, r_P_fasterThan_9, r_P_fasterThan_12, r_P_fasterThan_13, r_P_fasterThan_14, r_P_fasterThan_17, r_P_fasterThan_18, r_P_fasterThan_19, r_P_fasterThan_20, r_P_fasterThan_23, r_P_fasterThan_24, r_P_fasterThan_27, r_P_fasterThan_28, r_P_fasterThan_31, r_P_fasterThan_32, r_P_fasterThan_33, r_P_fasterThan_36, r_P_fasterThan_39, r_P_fasterThan_40, gK_27, gK_28, gK_29, gq_27_0, gq_27_1, gK_293, gq_293_0, gK_294, gN_294, gq_28_5, gK_123, gq_123_0, gK_124, gN_124, Int.reduceLE, Int.reduceLT, Int.reduceEq, Int.reduceToNat, gb_01, eq_self, true_or, or_true, and_true, true_and, and_self, if_true, if_false, not_true_eq_false, not_false_eq_true, ne_eq, gb_ne0, gb_eq0, gb_T, gb_F, c, t0, p0, p1, q, w7, w8]
      exact lp_P_fasterThan h4 hQ n (k + 1) (by omega)
theorem lp_M_races (h4 : 0 ≤ σ 294 5 ∧ σ 294 5 ≤ 16) (hv : ∀ k : Nat, (k : Int) < σ 294 5 → WTm (σ 294) k) (hQ : Wp L (d + 1) k_M_races 44 [vR 293, vI a1, vI (gsm (fun k => gb (a1 < gspd (σ 294) k)) (σ 294 5).toNat), vI (σ 294 5)] [] σ Q) : ∀ (n k : Nat), (k : Int) + n = σ 294 5 → Wp L (d + 1) k_M_races 11 [vR 293, vI a1, vI (gsm (fun k => gb (a1 < gspd (σ 294) k)) k), vI (k : Int)] [] σ Q
  | 0, k, hk => by
    have e : (k : Int) = σ 294 5 := by omega
    have e2 : (σ 294 5).toNat = k := by omega
    have c : σ 294 5 ≤ (k : Int) := by omega
    simp only [r_M_races_11, r_M_races_12, r_M_races_13, r_M_races_16, r_M_races_17, r_M_races_18, gK_27, gK_28, gK_29, gq_27_0, gq_27_1, gK_293, gq_293_0, gK_294, gN_294, Int.reduceLE, Int.reduceLT, Int.reduceEq, Int.reduceToNat, gb_01, eq_self, true_or, or_true, and_true, true_and, and_self, if_true, if_false, not_true_eq_false, not_false_eq_true, ne_eq, gb_ne0, gb_eq0, c]
    rw [e2, ← e] at hQ
    exact hQ
  | n + 1, k, hk => by
    have c : ¬ σ 294 5 ≤ (k : Int) := by omega
    have z0 := gsm_bd (g := fun k => gb (a1 < gspd (σ 294) k)) (B := 1) k (fun j _ => by rcases gb_01 (a1 < (fun k => gspd (σ 294) k) j) with z | z <;> simp only [] at z ⊢ <;> omega)
    have p0 : (k : Int) < 16 := by omega
    have p1 : 0 ≤ (k : Int) := by omega
    have t0 : ((k : Nat) : Int).toNat = k := by omega
    have w8 : w32 ((k : Int) + 1) = ((k + 1 : Nat) : Int) := w32_id (by unfold gr32; omega)
    have x0 : (k : Int) ≤ 15 := by omega
    have x1 := hv k (by omega)
    rw [r_M_races_11]
    by_cases q : gspd (σ 294) k ≤ a1
    · have w7 : w32 (gsm (fun k => gb (a1 < gspd (σ 294) k)) k + 0) = gsm (fun k => gb (a1 < gspd (σ 294) k)) (k + 1) := by
        simp only [gsm]
        rw [gb_f (p := a1 < gspd (σ 294) k) (by omega)]
        exact w32_id (by unfold gr32; omega)
      simp only [r_M_races_0, r_M_races_1, r_M_races_4, r_M_races_6, r_M_races_7, r_M_races_8, r_M_races_9, r_M_races_10, r_M_races_12, r_M_races_13, r_M_races_16, r_M_races_17, r_M_races_18, r_M_races_21, r_M_races_22, r_M_races_23, r_M_races_24, r_M_races_27, r_M_races_28, r_M_races_31, r_M_races_32, r_M_races_35, r_M_races_36, r_M_races_37, r_M_races_38, r_M_races_41, r_M_races_44, r_M_races_45, gK_27, gK_28, gK_29, gq_27_0, gq_27_1, gK_293, gq_293_0, gK_294, gN_294, Int.reduceLE, Int.reduceLT, Int.reduceEq, Int.reduceToNat, gb_01, eq_self, true_or, or_true, and_true, true_and, and_self, if_true, if_false, not_true_eq_false, not_false_eq_true, ne_eq, gb_ne0, gb_eq0, gb_T, gb_F, c, t0, p0, p1, q, w7, w8, x0, x1]
      exact lp_M_races h4 hv hQ n (k + 1) (by omega)
    · have w7 : w32 (gsm (fun k => gb (a1 < gspd (σ 294) k)) k + 1) = gsm (fun k => gb (a1 < gspd (σ 294) k)) (k + 1) := by
        simp only [gsm]
        rw [gb_t (p := a1 < gspd (σ 294) k) (by omega)]
        exact w32_id (by unfold gr32; omega)
      simp only [r_M_races_0, r_M_races_1, r_M_races_4, r_M_races_6, r_M_races_7, r_M_races_8, r_M_races_9, r_M_races_10, r_M_races_12, r_M_races_13, r_M_races_16, r_M_races_17, r_M_races_18, r_M_races_21, r_M_races_22, r_M_races_23, r_M_races_24, r_M_races_27, r_M_races_28, r_M_races_31, r_M_races_32, r_M_races_35, r_M_races_36, r_M_races_37, r_M_races_38, r_M_races_41, r_M_races_44, r_M_races_45, gK_27, gK_28, gK_29, gq_27_0, gq_27_1, gK_293, gq_293_0, gK_294, gN_294, Int.reduceLE, Int.reduceLT, Int.reduceEq, Int.reduceToNat, gb_01, eq_self, true_or, or_true, and_true, true_and, and_self, if_true, if_false, not_true_eq_false, not_false_eq_true, ne_eq, gb_ne0, gb_eq0, gb_T, gb_F, c, t0, p0, p1, q, w7, w8, x0, x1]
      exact lp_M_races h4 hv hQ n (k + 1) (by omega)
theorem sp_P_fasterThan (h4 : 0 ≤ σ 123 4 ∧ σ 123 4 ≤ 16) : Run L (d + 1) 123 [vR 123, vI a1] σ (some (vI (gsm (fun k => gb (a1 < σ 124 k)) (σ 123 4).toNat))) σ := by
  refine Run_of (C' := k_P_fasterThan) rfl ?_
  show Wp L (d + 1) k_P_fasterThan 0 [vR 123, vI a1, vU, vU] [] σ _
  simp only [r_P_fasterThan_0, r_P_fasterThan_1, r_P_fasterThan_2, r_P_fasterThan_3, r_P_fasterThan_5, r_P_fasterThan_6, r_P_fasterThan_9, r_P_fasterThan_12, r_P_fasterThan_13, r_P_fasterThan_14, r_P_fasterThan_17, r_P_fasterThan_18, r_P_fasterThan_19, r_P_fasterThan_20, r_P_fasterThan_23, r_P_fasterThan_24, r_P_fasterThan_27, r_P_fasterThan_28, r_P_fasterThan_31, r_P_fasterThan_32, r_P_fasterThan_33, r_P_fasterThan_36, r_P_fasterThan_39, r_P_fasterThan_40, gK_27, gK_28, gK_29, gq_27_0, gq_27_1, gK_293, gq_293_0, gK_294, gN_294, gq_28_5, gK_123, gq_123_0, gK_124, gN_124, Int.reduceLE, Int.reduceLT, Int.reduceEq, Int.reduceToNat, gb_01, eq_self, true_or, or_true, and_true, true_and, and_self, if_true, if_false, not_true_eq_false, not_false_eq_true, ne_eq, gb_ne0, gb_eq0]
  refine lp_P_fasterThan h4 ?_ (σ 123 4).toNat 0 (by omega)
  simp only [r_P_fasterThan_39, r_P_fasterThan_40, Int.reduceLE, Int.reduceLT, Int.reduceEq, Int.reduceToNat, gb_01, eq_self, true_or, or_true, and_true, true_and, and_self, if_true, if_false, not_true_eq_false, not_false_eq_true, ne_eq, gb_ne0, gb_eq0]
theorem sp_M_races (h4 : 0 ≤ σ 294 5 ∧ σ 294 5 ≤ 16) (hv : ∀ k : Nat, (k : Int) < σ 294 5 → WTm (σ 294) k) (h : 0 ≤ a1) : Run L (d + 1) 302 [vR 293, vI a1] σ (some (vI (gsm (fun k => gb (a1 < gspd (σ 294) k)) (σ 294 5).toNat))) σ := by
  refine Run_of (C' := k_M_races) rfl ?_
  show Wp L (d + 1) k_M_races 0 [vR 293, vI a1, vU, vU] [] σ _
  simp only [r_M_races_0, r_M_races_1, r_M_races_4, r_M_races_6, r_M_races_7, r_M_races_8, r_M_races_9, r_M_races_10, r_M_races_12, r_M_races_13, r_M_races_16, r_M_races_17, r_M_races_18, r_M_races_21, r_M_races_22, r_M_races_23, r_M_races_24, r_M_races_27, r_M_races_28, r_M_races_31, r_M_races_32, r_M_races_35, r_M_races_36, r_M_races_37, r_M_races_38, r_M_races_41, r_M_races_44, r_M_races_45, gK_27, gK_28, gK_29, gq_27_0, gq_27_1, gK_293, gq_293_0, gK_294, gN_294, h, Int.reduceLE, Int.reduceLT, Int.reduceEq, Int.reduceToNat, gb_01, eq_self, true_or, or_true, and_true, true_and, and_self, if_true, if_false, not_true_eq_false, not_false_eq_true, ne_eq, gb_ne0, gb_eq0]
  refine lp_M_races h4 hv ?_ (σ 294 5).toNat 0 (by omega)
  simp only [r_M_races_44, r_M_races_45, Int.reduceLE, Int.reduceLT, Int.reduceEq, Int.reduceToNat, gb_01, eq_self, true_or, or_true, and_true, true_and, and_self, if_true, if_false, not_true_eq_false, not_false_eq_true, ne_eq, gb_ne0, gb_eq0]
theorem sp_M_races_b (h : ¬ 0 ≤ a1) : Run L (d + 1) 302 [vR 293, vI a1] σ (some (vI (-1000000001))) σ := by
  refine Run_of (C' := k_M_races) rfl ?_
  show Wp L (d + 1) k_M_races 0 [vR 293, vI a1, vU, vU] [] σ _
  simp only [r_M_races_0, r_M_races_1, r_M_races_4, r_M_races_6, r_M_races_7, r_M_races_8, r_M_races_9, r_M_races_10, r_M_races_12, r_M_races_13, r_M_races_16, r_M_races_17, r_M_races_18, r_M_races_21, r_M_races_22, r_M_races_23, r_M_races_24, r_M_races_27, r_M_races_28, r_M_races_31, r_M_races_32, r_M_races_35, r_M_races_36, r_M_races_37, r_M_races_38, r_M_races_41, r_M_races_44, r_M_races_45, gK_27, gK_28, gK_29, gq_27_0, gq_27_1, gK_293, gq_293_0, gK_294, gN_294, h, Int.reduceLE, Int.reduceLT, Int.reduceEq, Int.reduceToNat, gb_01, eq_self, true_or, or_true, and_true, true_and, and_self, if_true, if_false, not_true_eq_false, not_false_eq_true, ne_eq, gb_ne0, gb_eq0]
theorem r_X_races_0 : Wp L d k_X_races 0 [l0, vI a1] [] σ Q ↔ Wp L d k_X_races 1 [l0, vI a1] [vI a1] σ Q := wp_iload rfl rfl
theorem r_X_races_1 : Wp L d k_X_races 1 [l0, l1] [vI s0] σ Q ↔ (if 0 ≤ s0 then Wp L d k_X_races 9 [l0, l1] [] σ Q else Wp L d k_X_races 4 [l0, l1] [] σ Q) := wp_if_ge rfl
theorem r_X_races_4 : Wp L d k_X_races 4 [l0, l1] [] σ Q ↔ Wp L d k_X_races 6 [l0, l1] [vI (-1000000001)] σ Q := wp_push rfl
theorem r_X_races_6 : Wp L d k_X_races 6 [l0, l1] [vI s0] σ Q ↔ Wp L d k_X_races 20 [l0, l1] [vI s0] σ Q := wp_goto rfl
theorem r_X_races_9 : Wp L d k_X_races 9 [vR b0, l1] [] σ Q ↔ Wp L d k_X_races 10 [vR b0, l1] [vR b0] σ Q := wp_aload rfl rfl
theorem r_X_races_10 (h : gK c0 = 0) : Wp L d k_X_races 10 [l0, l1] [vR c0] σ Q ↔ Wp L d k_X_races 13 [l0, l1] [vR (gq c0 0)] σ Q := wp_getR (c := 128) rfl rfl rfl rfl rfl h
theorem r_X_races_13 (h : gK c0 = 5) : Wp L d k_X_races 13 [l0, l1] [vR c0] σ Q ↔ Wp L d k_X_races 16 [l0, l1] [vR (gq c0 5)] σ Q := wp_getR (c := 1413) rfl rfl rfl rfl rfl h
theorem r_X_races_16 : Wp L d k_X_races 16 [l0, vI a1] [vR c0] σ Q ↔ Wp L d k_X_races 17 [l0, vI a1] [vI a1, vR c0] σ Q := wp_iload rfl rfl
theorem r_X_races_20 : Wp L d k_X_races 20 [l0, l1] [vI s0] σ Q ↔ Q (some (vI s0)) σ := wp_iret rfl
theorem r_X_races_17 (h4 : 0 ≤ σ 123 4 ∧ σ 123 4 ≤ 16) : Wp L (d + 2) k_X_races 17 [l0, l1] [vI s1, vR 123] σ Q ↔ Wp L (d + 2) k_X_races 20 [l0, l1] [vI (gsm (fun k => gb (s1 < σ 124 k)) (σ 123 4).toNat)] σ Q := wp_callR (d := d + 1) (as := [vR 123, vI s1]) (rest := []) rfl rfl rfl rfl rfl rfl rfl (grecv_k (by rw [gK_123]) rfl) (sp_P_fasterThan h4)
theorem sp_X_races_b (h : ¬ 0 ≤ a1) : Run L (d + 2) 73 [vR 27, vI a1] σ (some (vI (-1000000001))) σ := by
  refine Run_of (C' := k_X_races) rfl ?_
  show Wp L (d + 2) k_X_races 0 [vR 27, vI a1] [] σ _
  simp only [r_X_races_0, r_X_races_1, r_X_races_4, r_X_races_6, r_X_races_9, r_X_races_10, r_X_races_13, r_X_races_16, r_X_races_17, r_X_races_20, gK_27, gK_28, gK_29, gq_27_0, gq_27_1, gK_293, gq_293_0, gK_294, gN_294, gq_28_5, gK_123, gq_123_0, gK_124, gN_124, h, Int.reduceLE, Int.reduceLT, Int.reduceEq, Int.reduceToNat, gb_01, eq_self, true_or, or_true, and_true, true_and, and_self, if_true, if_false, not_true_eq_false, not_false_eq_true, ne_eq, gb_ne0, gb_eq0]
theorem sp_X_races (h4 : 0 ≤ σ 123 4 ∧ σ 123 4 ≤ 16) (h : 0 ≤ a1) : Run L (d + 2) 73 [vR 27, vI a1] σ (some (vI (gsm (fun k => gb (a1 < σ 124 k)) (σ 123 4).toNat))) σ := by
  refine Run_of (C' := k_X_races) rfl ?_
  show Wp L (d + 2) k_X_races 0 [vR 27, vI a1] [] σ _
  simp only [r_X_races_0, r_X_races_1, r_X_races_4, r_X_races_6, r_X_races_9, r_X_races_10, r_X_races_13, r_X_races_16, r_X_races_17, r_X_races_20, gK_27, gK_28, gK_29, gq_27_0, gq_27_1, gK_293, gq_293_0, gK_294, gN_294, gq_28_5, gK_123, gq_123_0, gK_124, gN_124, h, h4, Int.reduceLE, Int.reduceLT, Int.reduceEq, Int.reduceToNat, gb_01, eq_self, true_or, or_true, and_true, true_and, and_self, if_true, if_false, not_true_eq_false, not_false_eq_true, ne_eq, gb_ne0, gb_eq0]
theorem op_races (a1 : Int) : Op 73 302 [vI a1] := by
  intro L d σ hI
  obtain ⟨⟨w1, w2, w3, w4⟩, c1, c2, c3, c4, c5⟩ := iP hI
  by_cases h : 0 ≤ a1
  · refine ⟨_, _, _, sp_X_races (by omega) h, Run_r (sp_M_races w3 w4 h) ?_, hI⟩
    rw [c4]
    exact gsm_eq _ (fun k hk => by
      have e : σ 124 k = gspd (σ 294) k := c5 k (by omega)
      rw [e])
  · exact ⟨_, _, _, sp_X_races_b h, sp_M_races_b h, hI⟩
