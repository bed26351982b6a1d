/-! first. -/
variable {L d : Nat} {σ σ1 : Nat → Nat → Int} {Q : Option gV → (Nat → Nat → Int) → Prop} {a0 a1 a2 a3 a4 a5 a6 a7 a8 a9 a10 a11 s0 s1 s2 s3 s4 s5 s6 s7 s8 s9 : Int} {l0 l1 l2 l3 l4 l5 l6 l7 l8 l9 l10 l11 t0 t1 t2 t3 t4 t5 t6 t7 t8 t9 : gV} {b0 b1 b2 b3 b4 b5 b6 b7 b8 b9 b10 b11 c0 c1 c2 c3 c4 c5 c6 c7 c8 c9 : Nat} {r : Option gV}
theorem glcmp_le0 {a b : Int} : (glcmp a b ≤ 0) ↔ a ≤ b := by
  unfold glcmp
  split
  · simp; omega
  · split
    · simp; omega
    · simp; omega
theorem ite_lcmp {a b : Int} {A B : Prop} : (if glcmp a b ≤ 0 then A else B) = (if a ≤ b then A else B) := by
  by_cases h : a ≤ b
  · rw [if_pos h, if_pos (glcmp_le0.2 h)]
  · rw [if_neg h, if_neg (fun x => h (glcmp_le0.1 x))]
/-- force on part p, its bound, whether it is over, the first to go among k -/
def brfo (f : Nat → Int) (w : Int) (p : Nat) : Int := brpull f w (f (120 + 12 * p + 1)).toNat * f (120 + 12 * p + 3)
def brbd (f : Nat → Int) (p : Nat) : Int := brb f p * brsh f (f (120 + 12 * p + 1)) (f 1).toNat
abbrev brov (f : Nat → Int) (w : Int) (p : Nat) : Prop := f (120 + 12 * p + 8) = 1 ∧ brbd f p < brfo f w p * 10000
def brfi (f : Nat → Int) (w : Int) : Nat → Int
  | 0 => -1
  | k + 1 => if brov f w k ∧ (brfi f w k < 0 ∨ brfo f w (brfi f w k).toNat * brbd f k < brfo f w k * brbd f (brfi f w k).toNat) then (k : Int) else brfi f w k
def gnn (x : Int) : Int := if x < 0 then -1000000005 else x
theorem brfo_bd {f : Nat → Int} (hw : WB f) {w : Int} (h : 0 ≤ w ∧ w ≤ 99) (p : Nat) (hp : (p : Int) < f 1) : 0 ≤ brfo f w p ∧ brfo f w p ≤ 264627 := by
  have x := WBp hw hp
  exact mul_bd (brpull_bd hw h _) (b := f (120 + 12 * p + 3)) (B := 9) (by omega)
theorem brbd_bd {f : Nat → Int} (hw : WB f) (p : Nat) (hp : (p : Int) < f 1) : 0 ≤ brbd f p ∧ brbd f p ≤ 3596400000 := by
  have x := brb_bd hw p hp
  have y := brsh_bd hw (f (120 + 12 * p + 1)) (f 1).toNat (by have := hw.2.1; omega)
  exact mul_bd (A := 9990000) (by omega) y
theorem brfi_bd (f : Nat → Int) (w : Int) : ∀ k, brfi f w k = -1 ∨ 0 ≤ brfi f w k ∧ brfi f w k < k
  | 0 => Or.inl rfl
  | k + 1 => by
    have := brfi_bd f w k
    unfold brfi
    split <;> omega
theorem brfi_ov (f : Nat → Int) (w : Int) : ∀ k, 0 ≤ brfi f w k → brov f w (brfi f w k).toNat
  | 0 => fun h => by
    have : brfi f w 0 = -1 := rfl
    omega
  | k + 1 => by
    unfold brfi
    split
    · next h => exact fun _ => h.1
    · exact brfi_ov f w k
theorem r_B_isOver_0 : Wp L d k_B_isOver 0 [l0, l1, l2, l3] [] σ Q ↔ Wp L d k_B_isOver 3 [l0, l1, l2, l3] [vL 10000] σ Q := wp_pushL rfl
theorem r_B_isOver_3 : Wp L d k_B_isOver 3 [vR b0, l1, l2, l3] [vL s0] σ Q ↔ Wp L d k_B_isOver 4 [vR b0, l1, l2, l3] [vR b0, vL s0] σ Q := wp_aload rfl rfl
theorem r_B_isOver_4 (h : gK c1 = 1) : Wp L d k_B_isOver 4 [l0, l1, l2, l3] [vR c1, vL s0] σ Q ↔ Wp L d k_B_isOver 7 [l0, l1, l2, l3] [vR (gq c1 7), vL s0] σ Q := wp_getR (c := 391) rfl rfl rfl rfl rfl h
theorem r_B_isOver_7 : Wp L d k_B_isOver 7 [l0, vR b1, l2, l3] [vR c1, vL s0] σ Q ↔ Wp L d k_B_isOver 8 [l0, vR b1, l2, l3] [vR b1, vR c1, vL s0] σ Q := wp_aload rfl rfl
theorem r_B_isOver_8 (h : gK c2 = 4) : Wp L d k_B_isOver 8 [l0, l1, l2, l3] [vR c2, vR c1, vL s0] σ Q ↔ Wp L d k_B_isOver 11 [l0, l1, l2, l3] [vI (σ c2 1), vR c1, vL s0] σ Q := wp_getI (c := 1025) rfl rfl rfl rfl h
theorem r_B_isOver_11 (h : gK c1 = 100) (hx : 0 ≤ s2 ∧ s2 < gN c1) : Wp L d k_B_isOver 11 [l0, l1, l2, l3] [vI s2, vR c1, vL s0] σ Q ↔ Wp L d k_B_isOver 12 [l0, l1, l2, l3] [vI (σ c1 s2.toNat), vL s0] σ Q := wp_iald rfl h hx
theorem r_B_isOver_12 : Wp L d k_B_isOver 12 [l0, l1, l2, l3] [vI s1, vL s0] σ Q ↔ Wp L d k_B_isOver 13 [l0, l1, l2, l3] [vL s1, vL s0] σ Q := wp_i2l rfl
theorem r_B_isOver_13 : Wp L d k_B_isOver 13 [l0, l1, l2, l3] [vL s1, vL s0] σ Q ↔ Wp L d k_B_isOver 14 [l0, l1, l2, l3] [vL (w64 (s0 * s1))] σ Q := wp_lmul rfl
theorem r_B_isOver_14 : Wp L d k_B_isOver 14 [l0, vR b1, l2, l3] [vL s0] σ Q ↔ Wp L d k_B_isOver 15 [l0, vR b1, l2, l3] [vR b1, vL s0] σ Q := wp_aload rfl rfl
theorem r_B_isOver_15 (h : gK c1 = 4) : Wp L d k_B_isOver 15 [l0, l1, l2, l3] [vR c1, vL s0] σ Q ↔ Wp L d k_B_isOver 18 [l0, l1, l2, l3] [vI (σ c1 3), vL s0] σ Q := wp_getI (c := 1027) rfl rfl rfl rfl h
theorem r_B_isOver_18 : Wp L d k_B_isOver 18 [l0, l1, l2, l3] [vI s1, vL s0] σ Q ↔ Wp L d k_B_isOver 19 [l0, l1, l2, l3] [vL s1, vL s0] σ Q := wp_i2l rfl
theorem r_B_isOver_19 : Wp L d k_B_isOver 19 [l0, l1, l2, l3] [vL s1, vL s0] σ Q ↔ Wp L d k_B_isOver 20 [l0, l1, l2, l3] [vL (w64 (s0 * s1))] σ Q := wp_lmul rfl
theorem r_B_isOver_20 : Wp L d k_B_isOver 20 [l0, vR b1, l2, l3] [vL s0] σ Q ↔ Wp L d k_B_isOver 21 [l0, vR b1, vL s0, vU] [] σ Q := wp_lstore (i := 2) (ls := [l0, vR b1, l2, l3]) rfl rfl
theorem r_B_isOver_21 : Wp L d k_B_isOver 21 [l0, vR b1, l2, l3] [] σ Q ↔ Wp L d k_B_isOver 22 [l0, vR b1, l2, l3] [vR b1] σ Q := wp_aload rfl rfl
theorem r_B_isOver_22 (h : gK c0 = 4) : Wp L d k_B_isOver 22 [l0, l1, l2, l3] [vR c0] σ Q ↔ Wp L d k_B_isOver 25 [l0, l1, l2, l3] [vI (σ c0 10)] σ Q := wp_getI (c := 1098) rfl rfl rfl rfl h
theorem r_B_isOver_25 : Wp L d k_B_isOver 25 [l0, l1, l2, l3] [vI s0] σ Q ↔ (if s0 = 0 then Wp L d k_B_isOver 57 [l0, l1, l2, l3] [] σ Q else Wp L d k_B_isOver 28 [l0, l1, l2, l3] [] σ Q) := wp_if_eq rfl
theorem r_B_isOver_28 : Wp L d k_B_isOver 28 [l0, l1, vL a2, l3] [] σ Q ↔ Wp L d k_B_isOver 29 [l0, l1, vL a2, l3] [vL a2] σ Q := wp_lload rfl rfl
theorem r_B_isOver_29 : Wp L d k_B_isOver 29 [l0, vR b1, l2, l3] [vL s0] σ Q ↔ Wp L d k_B_isOver 30 [l0, vR b1, l2, l3] [vR b1, vL s0] σ Q := wp_aload rfl rfl
theorem r_B_isOver_30 : Wp L d k_B_isOver 30 [l0, vR b1, l2, l3] [vR c1, vL s0] σ Q ↔ Wp L d k_B_isOver 31 [l0, vR b1, l2, l3] [vR b1, vR c1, vL s0] σ Q := wp_aload rfl rfl
theorem r_B_isOver_31 (h : gK c2 = 4) : Wp L d k_B_isOver 31 [l0, l1, l2, l3] [vR c2, vR c1, vL s0] σ Q ↔ Wp L d k_B_isOver 34 [l0, l1, l2, l3] [vI (σ c2 5), vR c1, vL s0] σ Q := wp_getI (c := 1029) rfl rfl rfl rfl h
theorem r_B_isOver_37 : Wp L d k_B_isOver 37 [l0, l1, l2, l3] [vI s1, vL s0] σ Q ↔ Wp L d k_B_isOver 38 [l0, l1, l2, l3] [vL s1, vL s0] σ Q := wp_i2l rfl
theorem r_B_isOver_38 : Wp L d k_B_isOver 38 [vR b0, l1, l2, l3] [vL s1, vL s0] σ Q ↔ Wp L d k_B_isOver 39 [vR b0, l1, l2, l3] [vR b0, vL s1, vL s0] σ Q := wp_aload rfl rfl
theorem r_B_isOver_39 (h : gK c2 = 1) : Wp L d k_B_isOver 39 [l0, l1, l2, l3] [vR c2, vL s1, vL s0] σ Q ↔ Wp L d k_B_isOver 42 [l0, l1, l2, l3] [vR (gq c2 6), vL s1, vL s0] σ Q := wp_getR (c := 390) rfl rfl rfl rfl rfl h
theorem r_B_isOver_42 : Wp L d k_B_isOver 42 [l0, vR b1, l2, l3] [vR c2, vL s1, vL s0] σ Q ↔ Wp L d k_B_isOver 43 [l0, vR b1, l2, l3] [vR b1, vR c2, vL s1, vL s0] σ Q := wp_aload rfl rfl
theorem r_B_isOver_43 (h : gK c3 = 4) : Wp L d k_B_isOver 43 [l0, l1, l2, l3] [vR c3, vR c2, vL s1, vL s0] σ Q ↔ Wp L d k_B_isOver 46 [l0, l1, l2, l3] [vI (σ c3 1), vR c2, vL s1, vL s0] σ Q := wp_getI (c := 1025) rfl rfl rfl rfl h
theorem r_B_isOver_46 (h : gK c2 = 100) (hx : 0 ≤ s3 ∧ s3 < gN c2) : Wp L d k_B_isOver 46 [l0, l1, l2, l3] [vI s3, vR c2, vL s1, vL s0] σ Q ↔ Wp L d k_B_isOver 47 [l0, l1, l2, l3] [vI (σ c2 s3.toNat), vL s1, vL s0] σ Q := wp_iald rfl h hx
theorem r_B_isOver_47 : Wp L d k_B_isOver 47 [l0, l1, l2, l3] [vI s2, vL s1, vL s0] σ Q ↔ Wp L d k_B_isOver 48 [l0, l1, l2, l3] [vL s2, vL s1, vL s0] σ Q := wp_i2l rfl
theorem r_B_isOver_48 : Wp L d k_B_isOver 48 [l0, l1, l2, l3] [vL s2, vL s1, vL s0] σ Q ↔ Wp L d k_B_isOver 49 [l0, l1, l2, l3] [vL (w64 (s1 * s2)), vL s0] σ Q := wp_lmul rfl
theorem r_B_isOver_49 : Wp L d k_B_isOver 49 [l0, l1, l2, l3] [vL s1, vL s0] σ Q ↔ Wp L d k_B_isOver 50 [l0, l1, l2, l3] [vI (glcmp s0 s1)] σ Q := wp_lcmp rfl
theorem r_B_isOver_50 : Wp L d k_B_isOver 50 [l0, l1, l2, l3] [vI s0] σ Q ↔ (if s0 ≤ 0 then Wp L d k_B_isOver 57 [l0, l1, l2, l3] [] σ Q else Wp L d k_B_isOver 53 [l0, l1, l2, l3] [] σ Q) := wp_if_le rfl
theorem r_B_isOver_53 : Wp L d k_B_isOver 53 [l0, l1, l2, l3] [] σ Q ↔ Wp L d k_B_isOver 54 [l0, l1, l2, l3] [vI 1] σ Q := wp_push rfl
theorem r_B_isOver_54 : Wp L d k_B_isOver 54 [l0, l1, l2, l3] [vI s0] σ Q ↔ Wp L d k_B_isOver 58 [l0, l1, l2, l3] [vI s0] σ Q := wp_goto rfl
theorem r_B_isOver_57 : Wp L d k_B_isOver 57 [l0, l1, l2, l3] [] σ Q ↔ Wp L d k_B_isOver 58 [l0, l1, l2, l3] [vI 0] σ Q := wp_push rfl
theorem r_B_isOver_58 (h : s0 = 0 ∨ s0 = 1) : Wp L d k_B_isOver 58 [l0, l1, l2, l3] [vI s0] σ Q ↔ Q (some (vI s0)) σ := wp_zret rfl h
theorem r_B_isOver_34 (hk : gK c1 = 4) (h2 : 1 ≤ σ c1 2 ∧ σ c1 2 ≤ 999) (h4 : 0 ≤ σ c1 4 ∧ σ c1 4 ≤ 99) (h1 : 0 ≤ s2 ∧ s2 ≤ 99) : Wp L (d + 1) k_B_isOver 34 [l0, l1, l2, l3] [vI s2, vR c1, vL s0] σ Q ↔ Wp L (d + 1) k_B_isOver 37 [l0, l1, l2, l3] [vI (brbe (σ c1 0) (σ c1 2) (σ c1 4) s2), vL s0] σ Q := wp_callR (d := d + 0) (as := [vR c1, vI s2]) (rest := [vL s0]) rfl rfl rfl rfl rfl rfl rfl (grecv_k (by rw [hk]) rfl) (sp_Q_bearing hk h2 h4 h1)
theorem sp_B_isOver {b : Nat} {f : Nat → Int} {p : Nat} {a : Int} (hB : BR b) (hw : WB f) (hc : CB b f σ) (h : 0 ≤ a ∧ a ≤ 99) (hd : WD b f a σ) (hp : (p : Int) < f 1) : Run L (d + 1) 102 [vR b, vR (b + 9 + p)] σ (some (vI (gb (brov f a p)))) σ := by
  refine Run_of (C' := k_B_isOver) rfl ?_
  show Wp L (d + 1) k_B_isOver 0 [vR b, vR (b + 9 + p), vU, vU] [] σ _
  obtain ⟨⟨K0, q0, q1, q2, q3, q4, q5, q6, q7⟩, ⟨K1, K2, K3, K4, K5, K6, K7, K8⟩, ⟨N1, N2, N3, N4, N5, N6, N7, N8⟩, QP, KP⟩ := hB
  have w1 := hw.1
  have w2 := hw.2.1
  have kp := KP p (by omega)
  have q := CBp hc hp
  have w := WBp hw hp
  have z := hd (f (120 + 12 * p + 1)).toNat (by omega)
  rw [show (((f (120 + 12 * p + 1)).toNat : Nat) : Int) = f (120 + 12 * p + 1) by omega] at z
  have b1 := brpull_bd hw h (f (120 + 12 * p + 1)).toNat
  have b2 := brsh_bd hw (f (120 + 12 * p + 1)) (f 1).toNat (by omega)
  have b3 := brb_bd hw p hp
  have hb : brbe (f (120 + 12 * p)) (f (120 + 12 * p + 2)) (f (120 + 12 * p + 4)) (f (120 + 12 * p + 5)) = brb f p := rfl
  have m2 := brbd_bd hw p hp
  have m4 : brb f p * brsh f (f (120 + 12 * p + 1)) (f 1).toNat = brbd f p := rfl

  have m1 := mul_bd (a := 10000 * brpull f a (f (120 + 12 * p + 1)).toNat) (b := f (120 + 12 * p + 3)) (A := 294030000) (B := 9) (by omega) (by omega)
  have m3 : 10000 * brpull f a (f (120 + 12 * p + 1)).toNat * f (120 + 12 * p + 3) = brfo f a p * 10000 := by
    unfold brfo
    rw [Int.mul_assoc, Int.mul_comm]
  by_cases e : f (120 + 12 * p + 8) = 1
  · by_cases e2 : brbd f p < brfo f a p * 10000
    · rw [gb_t ⟨e, e2⟩]
      simp (disch := first | assumption | exact gb_01 _ | omega) only [r_B_isOver_0, r_B_isOver_3, r_B_isOver_4, r_B_isOver_7, r_B_isOver_8, r_B_isOver_11, r_B_isOver_12, r_B_isOver_13, r_B_isOver_14, r_B_isOver_15, r_B_isOver_18, r_B_isOver_19, r_B_isOver_20, r_B_isOver_21, r_B_isOver_22, r_B_isOver_25, r_B_isOver_28, r_B_isOver_29, r_B_isOver_30, r_B_isOver_31, r_B_isOver_34, r_B_isOver_37, r_B_isOver_38, r_B_isOver_39, r_B_isOver_42, r_B_isOver_43, r_B_isOver_46, r_B_isOver_47, r_B_isOver_48, r_B_isOver_49, r_B_isOver_50, r_B_isOver_53, r_B_isOver_54, r_B_isOver_57, r_B_isOver_58, q0, q1, q2, q3, q4, q5, q6, q7, QP, q, z, w64i, hb, m3, m4, w32_gb, w32i, tn_add, tn_mul, Int.toNat_natCast, Int.toNat_zero, Int.reduceLE, Int.reduceLT, Int.reduceEq, Int.reduceNe, gb_T, gb_F, Int.reduceToNat, eq_self, true_or, or_true, and_true, true_and, and_self, ↓ite_gb0, ↓ite_gbn, ↓if_pos, ↓if_neg, if_true, if_false, not_true_eq_false, not_false_eq_true, gb_ne0, gb_eq0, ↓ite_lcmp]
    · rw [gb_f (fun x => e2 x.2)]
      simp (disch := first | assumption | exact gb_01 _ | omega) only [r_B_isOver_0, r_B_isOver_3, r_B_isOver_4, r_B_isOver_7, r_B_isOver_8, r_B_isOver_11, r_B_isOver_12, r_B_isOver_13, r_B_isOver_14, r_B_isOver_15, r_B_isOver_18, r_B_isOver_19, r_B_isOver_20, r_B_isOver_21, r_B_isOver_22, r_B_isOver_25, r_B_isOver_28, r_B_isOver_29, r_B_isOver_30, r_B_isOver_31, r_B_isOver_34, r_B_isOver_37, r_B_isOver_38, r_B_isOver_39, r_B_isOver_42, r_B_isOver_43, r_B_isOver_46, r_B_isOver_47, r_B_isOver_48, r_B_isOver_49, r_B_isOver_50, r_B_isOver_53, r_B_isOver_54, r_B_isOver_57, r_B_isOver_58, q0, q1, q2, q3, q4, q5, q6, q7, QP, q, z, w64i, hb, m3, m4, w32_gb, w32i, tn_add, tn_mul, Int.toNat_natCast, Int.toNat_zero, Int.reduceLE, Int.reduceLT, Int.reduceEq, Int.reduceNe, gb_T, gb_F, Int.reduceToNat, eq_self, true_or, or_true, and_true, true_and, and_self, ↓ite_gb0, ↓ite_gbn, ↓if_pos, ↓if_neg, if_true, if_false, not_true_eq_false, not_false_eq_true, gb_ne0, gb_eq0, ↓ite_lcmp]
  · rw [gb_f (fun x => e x.1)]
    simp (disch := first | assumption | exact gb_01 _ | omega) only [r_B_isOver_0, r_B_isOver_3, r_B_isOver_4, r_B_isOver_7, r_B_isOver_8, r_B_isOver_11, r_B_isOver_12, r_B_isOver_13, r_B_isOver_14, r_B_isOver_15, r_B_isOver_18, r_B_isOver_19, r_B_isOver_20, r_B_isOver_21, r_B_isOver_22, r_B_isOver_25, r_B_isOver_28, r_B_isOver_29, r_B_isOver_30, r_B_isOver_31, r_B_isOver_34, r_B_isOver_37, r_B_isOver_38, r_B_isOver_39, r_B_isOver_42, r_B_isOver_43, r_B_isOver_46, r_B_isOver_47, r_B_isOver_48, r_B_isOver_49, r_B_isOver_50, r_B_isOver_53, r_B_isOver_54, r_B_isOver_57, r_B_isOver_58, q0, q1, q2, q3, q4, q5, q6, q7, QP, q, z, w64i, hb, m3, m4, w32_gb, w32i, tn_add, tn_mul, Int.toNat_natCast, Int.toNat_zero, Int.reduceLE, Int.reduceLT, Int.reduceEq, Int.reduceNe, gb_T, gb_F, Int.reduceToNat, eq_self, true_or, or_true, and_true, true_and, and_self, ↓ite_gb0, ↓ite_gbn, ↓if_pos, ↓if_neg, if_true, if_false, not_true_eq_false, not_false_eq_true, gb_ne0, gb_eq0, ↓ite_lcmp]
theorem r_B_isWorse_0 : Wp L d k_B_isWorse 0 [vR b0, l1, l2, l3, l4, l5, l6, l7, l8, l9, l10] [] σ Q ↔ Wp L d k_B_isWorse 1 [vR b0, l1, l2, l3, l4, l5, l6, l7, l8, l9, l10] [vR b0] σ Q := wp_aload rfl rfl
theorem r_B_isWorse_1 (h : gK c0 = 1) : Wp L d k_B_isWorse 1 [l0, l1, l2, l3, l4, l5, l6, l7, l8, l9, l10] [vR c0] σ Q ↔ Wp L d k_B_isWorse 4 [l0, l1, l2, l3, l4, l5, l6, l7, l8, l9, l10] [vR (gq c0 7)] σ Q := wp_getR (c := 391) rfl rfl rfl rfl rfl h
theorem r_B_isWorse_4 : Wp L d k_B_isWorse 4 [l0, vR b1, l2, l3, l4, l5, l6, l7, l8, l9, l10] [vR c0] σ Q ↔ Wp L d k_B_isWorse 5 [l0, vR b1, l2, l3, l4, l5, l6, l7, l8, l9, l10] [vR b1, vR c0] σ Q := wp_aload rfl rfl
theorem r_B_isWorse_5 (h : gK c1 = 4) : Wp L d k_B_isWorse 5 [l0, l1, l2, l3, l4, l5, l6, l7, l8, l9, l10] [vR c1, vR c0] σ Q ↔ Wp L d k_B_isWorse 8 [l0, l1, l2, l3, l4, l5, l6, l7, l8, l9, l10] [vI (σ c1 1), vR c0] σ Q := wp_getI (c := 1025) rfl rfl rfl rfl h
theorem r_B_isWorse_8 (h : gK c0 = 100) (hx : 0 ≤ s1 ∧ s1 < gN c0) : Wp L d k_B_isWorse 8 [l0, l1, l2, l3, l4, l5, l6, l7, l8, l9, l10] [vI s1, vR c0] σ Q ↔ Wp L d k_B_isWorse 9 [l0, l1, l2, l3, l4, l5, l6, l7, l8, l9, l10] [vI (σ c0 s1.toNat)] σ Q := wp_iald rfl h hx
theorem r_B_isWorse_9 : Wp L d k_B_isWorse 9 [l0, l1, l2, l3, l4, l5, l6, l7, l8, l9, l10] [vI s0] σ Q ↔ Wp L d k_B_isWorse 10 [l0, l1, l2, l3, l4, l5, l6, l7, l8, l9, l10] [vL s0] σ Q := wp_i2l rfl
theorem r_B_isWorse_10 : Wp L d k_B_isWorse 10 [l0, vR b1, l2, l3, l4, l5, l6, l7, l8, l9, l10] [vL s0] σ Q ↔ Wp L d k_B_isWorse 11 [l0, vR b1, l2, l3, l4, l5, l6, l7, l8, l9, l10] [vR b1, vL s0] σ Q := wp_aload rfl rfl
theorem r_B_isWorse_11 (h : gK c1 = 4) : Wp L d k_B_isWorse 11 [l0, l1, l2, l3, l4, l5, l6, l7, l8, l9, l10] [vR c1, vL s0] σ Q ↔ Wp L d k_B_isWorse 14 [l0, l1, l2, l3, l4, l5, l6, l7, l8, l9, l10] [vI (σ c1 3), vL s0] σ Q := wp_getI (c := 1027) rfl rfl rfl rfl h
theorem r_B_isWorse_14 : Wp L d k_B_isWorse 14 [l0, l1, l2, l3, l4, l5, l6, l7, l8, l9, l10] [vI s1, vL s0] σ Q ↔ Wp L d k_B_isWorse 15 [l0, l1, l2, l3, l4, l5, l6, l7, l8, l9, l10] [vL s1, vL s0] σ Q := wp_i2l rfl
theorem r_B_isWorse_15 : Wp L d k_B_isWorse 15 [l0, l1, l2, l3, l4, l5, l6, l7, l8, l9, l10] [vL s1, vL s0] σ Q ↔ Wp L d k_B_isWorse 16 [l0, l1, l2, l3, l4, l5, l6, l7, l8, l9, l10] [vL (w64 (s0 * s1))] σ Q := wp_lmul rfl
theorem r_B_isWorse_16 : Wp L d k_B_isWorse 16 [l0, l1, vR b2, l3, l4, l5, l6, l7, l8, l9, l10] [vL s0] σ Q ↔ Wp L d k_B_isWorse 17 [l0, l1, vR b2, vL s0, vU, l5, l6, l7, l8, l9, l10] [] σ Q := wp_lstore (i := 3) (ls := [l0, l1, vR b2, l3, l4, l5, l6, l7, l8, l9, l10]) rfl rfl
theorem r_B_isWorse_17 : Wp L d k_B_isWorse 17 [vR b0, l1, l2, l3, l4, l5, l6, l7, l8, l9, l10] [] σ Q ↔ Wp L d k_B_isWorse 18 [vR b0, l1, l2, l3, l4, l5, l6, l7, l8, l9, l10] [vR b0] σ Q := wp_aload rfl rfl
theorem r_B_isWorse_18 (h : gK c0 = 1) : Wp L d k_B_isWorse 18 [l0, l1, l2, l3, l4, l5, l6, l7, l8, l9, l10] [vR c0] σ Q ↔ Wp L d k_B_isWorse 21 [l0, l1, l2, l3, l4, l5, l6, l7, l8, l9, l10] [vR (gq c0 7)] σ Q := wp_getR (c := 391) rfl rfl rfl rfl rfl h
theorem r_B_isWorse_21 : Wp L d k_B_isWorse 21 [l0, l1, vR b2, l3, l4, l5, l6, l7, l8, l9, l10] [vR c0] σ Q ↔ Wp L d k_B_isWorse 22 [l0, l1, vR b2, l3, l4, l5, l6, l7, l8, l9, l10] [vR b2, vR c0] σ Q := wp_aload rfl rfl
theorem r_B_isWorse_22 (h : gK c1 = 4) : Wp L d k_B_isWorse 22 [l0, l1, l2, l3, l4, l5, l6, l7, l8, l9, l10] [vR c1, vR c0] σ Q ↔ Wp L d k_B_isWorse 25 [l0, l1, l2, l3, l4, l5, l6, l7, l8, l9, l10] [vI (σ c1 1), vR c0] σ Q := wp_getI (c := 1025) rfl rfl rfl rfl h
theorem r_B_isWorse_25 (h : gK c0 = 100) (hx : 0 ≤ s1 ∧ s1 < gN c0) : Wp L d k_B_isWorse 25 [l0, l1, l2, l3, l4, l5, l6, l7, l8, l9, l10] [vI s1, vR c0] σ Q ↔ Wp L d k_B_isWorse 26 [l0, l1, l2, l3, l4, l5, l6, l7, l8, l9, l10] [vI (σ c0 s1.toNat)] σ Q := wp_iald rfl h hx
theorem r_B_isWorse_26 : Wp L d k_B_isWorse 26 [l0, l1, l2, l3, l4, l5, l6, l7, l8, l9, l10] [vI s0] σ Q ↔ Wp L d k_B_isWorse 27 [l0, l1, l2, l3, l4, l5, l6, l7, l8, l9, l10] [vL s0] σ Q := wp_i2l rfl
theorem r_B_isWorse_27 : Wp L d k_B_isWorse 27 [l0, l1, vR b2, l3, l4, l5, l6, l7, l8, l9, l10] [vL s0] σ Q ↔ Wp L d k_B_isWorse 28 [l0, l1, vR b2, l3, l4, l5, l6, l7, l8, l9, l10] [vR b2, vL s0] σ Q := wp_aload rfl rfl
theorem r_B_isWorse_28 (h : gK c1 = 4) : Wp L d k_B_isWorse 28 [l0, l1, l2, l3, l4, l5, l6, l7, l8, l9, l10] [vR c1, vL s0] σ Q ↔ Wp L d k_B_isWorse 31 [l0, l1, l2, l3, l4, l5, l6, l7, l8, l9, l10] [vI (σ c1 3), vL s0] σ Q := wp_getI (c := 1027) rfl rfl rfl rfl h
theorem r_B_isWorse_31 : Wp L d k_B_isWorse 31 [l0, l1, l2, l3, l4, l5, l6, l7, l8, l9, l10] [vI s1, vL s0] σ Q ↔ Wp L d k_B_isWorse 32 [l0, l1, l2, l3, l4, l5, l6, l7, l8, l9, l10] [vL s1, vL s0] σ Q := wp_i2l rfl
theorem r_B_isWorse_32 : Wp L d k_B_isWorse 32 [l0, l1, l2, l3, l4, l5, l6, l7, l8, l9, l10] [vL s1, vL s0] σ Q ↔ Wp L d k_B_isWorse 33 [l0, l1, l2, l3, l4, l5, l6, l7, l8, l9, l10] [vL (w64 (s0 * s1))] σ Q := wp_lmul rfl
theorem r_B_isWorse_33 : Wp L d k_B_isWorse 33 [l0, l1, l2, l3, vU, l5, l6, l7, l8, l9, l10] [vL s0] σ Q ↔ Wp L d k_B_isWorse 35 [l0, l1, l2, l3, vU, vL s0, vU, l7, l8, l9, l10] [] σ Q := wp_lstore (i := 5) (ls := [l0, l1, l2, l3, vU, l5, l6, l7, l8, l9, l10]) rfl rfl
theorem r_B_isWorse_35 : Wp L d k_B_isWorse 35 [l0, vR b1, l2, l3, l4, l5, l6, l7, l8, l9, l10] [] σ Q ↔ Wp L d k_B_isWorse 36 [l0, vR b1, l2, l3, l4, l5, l6, l7, l8, l9, l10] [vR b1] σ Q := wp_aload rfl rfl
theorem r_B_isWorse_36 : Wp L d k_B_isWorse 36 [l0, vR b1, l2, l3, l4, l5, l6, l7, l8, l9, l10] [vR c0] σ Q ↔ Wp L d k_B_isWorse 37 [l0, vR b1, l2, l3, l4, l5, l6, l7, l8, l9, l10] [vR b1, vR c0] σ Q := wp_aload rfl rfl
theorem r_B_isWorse_37 (h : gK c1 = 4) : Wp L d k_B_isWorse 37 [l0, l1, l2, l3, l4, l5, l6, l7, l8, l9, l10] [vR c1, vR c0] σ Q ↔ Wp L d k_B_isWorse 40 [l0, l1, l2, l3, l4, l5, l6, l7, l8, l9, l10] [vI (σ c1 5), vR c0] σ Q := wp_getI (c := 1029) rfl rfl rfl rfl h
theorem r_B_isWorse_43 : Wp L d k_B_isWorse 43 [l0, l1, l2, l3, l4, l5, l6, l7, l8, l9, l10] [vI s0] σ Q ↔ Wp L d k_B_isWorse 44 [l0, l1, l2, l3, l4, l5, l6, l7, l8, l9, l10] [vL s0] σ Q := wp_i2l rfl
theorem r_B_isWorse_44 : Wp L d k_B_isWorse 44 [vR b0, l1, l2, l3, l4, l5, l6, l7, l8, l9, l10] [vL s0] σ Q ↔ Wp L d k_B_isWorse 45 [vR b0, l1, l2, l3, l4, l5, l6, l7, l8, l9, l10] [vR b0, vL s0] σ Q := wp_aload rfl rfl
theorem r_B_isWorse_45 (h : gK c1 = 1) : Wp L d k_B_isWorse 45 [l0, l1, l2, l3, l4, l5, l6, l7, l8, l9, l10] [vR c1, vL s0] σ Q ↔ Wp L d k_B_isWorse 48 [l0, l1, l2, l3, l4, l5, l6, l7, l8, l9, l10] [vR (gq c1 6), vL s0] σ Q := wp_getR (c := 390) rfl rfl rfl rfl rfl h
theorem r_B_isWorse_48 : Wp L d k_B_isWorse 48 [l0, vR b1, l2, l3, l4, l5, l6, l7, l8, l9, l10] [vR c1, vL s0] σ Q ↔ Wp L d k_B_isWorse 49 [l0, vR b1, l2, l3, l4, l5, l6, l7, l8, l9, l10] [vR b1, vR c1, vL s0] σ Q := wp_aload rfl rfl
theorem r_B_isWorse_49 (h : gK c2 = 4) : Wp L d k_B_isWorse 49 [l0, l1, l2, l3, l4, l5, l6, l7, l8, l9, l10] [vR c2, vR c1, vL s0] σ Q ↔ Wp L d k_B_isWorse 52 [l0, l1, l2, l3, l4, l5, l6, l7, l8, l9, l10] [vI (σ c2 1), vR c1, vL s0] σ Q := wp_getI (c := 1025) rfl rfl rfl rfl h
theorem r_B_isWorse_52 (h : gK c1 = 100) (hx : 0 ≤ s2 ∧ s2 < gN c1) : Wp L d k_B_isWorse 52 [l0, l1, l2, l3, l4, l5, l6, l7, l8, l9, l10] [vI s2, vR c1, vL s0] σ Q ↔ Wp L d k_B_isWorse 53 [l0, l1, l2, l3, l4, l5, l6, l7, l8, l9, l10] [vI (σ c1 s2.toNat), vL s0] σ Q := wp_iald rfl h hx
theorem r_B_isWorse_53 : Wp L d k_B_isWorse 53 [l0, l1, l2, l3, l4, l5, l6, l7, l8, l9, l10] [vI s1, vL s0] σ Q ↔ Wp L d k_B_isWorse 54 [l0, l1, l2, l3, l4, l5, l6, l7, l8, l9, l10] [vL s1, vL s0] σ Q := wp_i2l rfl
theorem r_B_isWorse_54 : Wp L d k_B_isWorse 54 [l0, l1, l2, l3, l4, l5, l6, l7, l8, l9, l10] [vL s1, vL s0] σ Q ↔ Wp L d k_B_isWorse 55 [l0, l1, l2, l3, l4, l5, l6, l7, l8, l9, l10] [vL (w64 (s0 * s1))] σ Q := wp_lmul rfl
theorem r_B_isWorse_55 : Wp L d k_B_isWorse 55 [l0, l1, l2, l3, l4, l5, vU, l7, l8, l9, l10] [vL s0] σ Q ↔ Wp L d k_B_isWorse 57 [l0, l1, l2, l3, l4, l5, vU, vL s0, vU, l9, l10] [] σ Q := wp_lstore (i := 7) (ls := [l0, l1, l2, l3, l4, l5, vU, l7, l8, l9, l10]) rfl rfl
theorem r_B_isWorse_57 : Wp L d k_B_isWorse 57 [l0, l1, vR b2, l3, l4, l5, l6, l7, l8, l9, l10] [] σ Q ↔ Wp L d k_B_isWorse 58 [l0, l1, vR b2, l3, l4, l5, l6, l7, l8, l9, l10] [vR b2] σ Q := wp_aload rfl rfl
theorem r_B_isWorse_58 : Wp L d k_B_isWorse 58 [l0, l1, vR b2, l3, l4, l5, l6, l7, l8, l9, l10] [vR c0] σ Q ↔ Wp L d k_B_isWorse 59 [l0, l1, vR b2, l3, l4, l5, l6, l7, l8, l9, l10] [vR b2, vR c0] σ Q := wp_aload rfl rfl
theorem r_B_isWorse_59 (h : gK c1 = 4) : Wp L d k_B_isWorse 59 [l0, l1, l2, l3, l4, l5, l6, l7, l8, l9, l10] [vR c1, vR c0] σ Q ↔ Wp L d k_B_isWorse 62 [l0, l1, l2, l3, l4, l5, l6, l7, l8, l9, l10] [vI (σ c1 5), vR c0] σ Q := wp_getI (c := 1029) rfl rfl rfl rfl h
theorem r_B_isWorse_65 : Wp L d k_B_isWorse 65 [l0, l1, l2, l3, l4, l5, l6, l7, l8, l9, l10] [vI s0] σ Q ↔ Wp L d k_B_isWorse 66 [l0, l1, l2, l3, l4, l5, l6, l7, l8, l9, l10] [vL s0] σ Q := wp_i2l rfl
theorem r_B_isWorse_66 : Wp L d k_B_isWorse 66 [vR b0, l1, l2, l3, l4, l5, l6, l7, l8, l9, l10] [vL s0] σ Q ↔ Wp L d k_B_isWorse 67 [vR b0, l1, l2, l3, l4, l5, l6, l7, l8, l9, l10] [vR b0, vL s0] σ Q := wp_aload rfl rfl
theorem r_B_isWorse_67 (h : gK c1 = 1) : Wp L d k_B_isWorse 67 [l0, l1, l2, l3, l4, l5, l6, l7, l8, l9, l10] [vR c1, vL s0] σ Q ↔ Wp L d k_B_isWorse 70 [l0, l1, l2, l3, l4, l5, l6, l7, l8, l9, l10] [vR (gq c1 6), vL s0] σ Q := wp_getR (c := 390) rfl rfl rfl rfl rfl h
theorem r_B_isWorse_70 : Wp L d k_B_isWorse 70 [l0, l1, vR b2, l3, l4, l5, l6, l7, l8, l9, l10] [vR c1, vL s0] σ Q ↔ Wp L d k_B_isWorse 71 [l0, l1, vR b2, l3, l4, l5, l6, l7, l8, l9, l10] [vR b2, vR c1, vL s0] σ Q := wp_aload rfl rfl
theorem r_B_isWorse_71 (h : gK c2 = 4) : Wp L d k_B_isWorse 71 [l0, l1, l2, l3, l4, l5, l6, l7, l8, l9, l10] [vR c2, vR c1, vL s0] σ Q ↔ Wp L d k_B_isWorse 74 [l0, l1, l2, l3, l4, l5, l6, l7, l8, l9, l10] [vI (σ c2 1), vR c1, vL s0] σ Q := wp_getI (c := 1025) rfl rfl rfl rfl h
theorem r_B_isWorse_74 (h : gK c1 = 100) (hx : 0 ≤ s2 ∧ s2 < gN c1) : Wp L d k_B_isWorse 74 [l0, l1, l2, l3, l4, l5, l6, l7, l8, l9, l10] [vI s2, vR c1, vL s0] σ Q ↔ Wp L d k_B_isWorse 75 [l0, l1, l2, l3, l4, l5, l6, l7, l8, l9, l10] [vI (σ c1 s2.toNat), vL s0] σ Q := wp_iald rfl h hx
theorem r_B_isWorse_75 : Wp L d k_B_isWorse 75 [l0, l1, l2, l3, l4, l5, l6, l7, l8, l9, l10] [vI s1, vL s0] σ Q ↔ Wp L d k_B_isWorse 76 [l0, l1, l2, l3, l4, l5, l6, l7, l8, l9, l10] [vL s1, vL s0] σ Q := wp_i2l rfl
theorem r_B_isWorse_76 : Wp L d k_B_isWorse 76 [l0, l1, l2, l3, l4, l5, l6, l7, l8, l9, l10] [vL s1, vL s0] σ Q ↔ Wp L d k_B_isWorse 77 [l0, l1, l2, l3, l4, l5, l6, l7, l8, l9, l10] [vL (w64 (s0 * s1))] σ Q := wp_lmul rfl
theorem r_B_isWorse_77 : Wp L d k_B_isWorse 77 [l0, l1, l2, l3, l4, l5, l6, l7, vU, l9, l10] [vL s0] σ Q ↔ Wp L d k_B_isWorse 79 [l0, l1, l2, l3, l4, l5, l6, l7, vU, vL s0, vU] [] σ Q := wp_lstore (i := 9) (ls := [l0, l1, l2, l3, l4, l5, l6, l7, vU, l9, l10]) rfl rfl
theorem r_B_isWorse_79 : Wp L d k_B_isWorse 79 [l0, l1, l2, vL a3, l4, l5, l6, l7, l8, l9, l10] [] σ Q ↔ Wp L d k_B_isWorse 80 [l0, l1, l2, vL a3, l4, l5, l6, l7, l8, l9, l10] [vL a3] σ Q := wp_lload rfl rfl
theorem r_B_isWorse_80 : Wp L d k_B_isWorse 80 [l0, l1, l2, l3, l4, l5, l6, l7, l8, vL a9, l10] [vL s0] σ Q ↔ Wp L d k_B_isWorse 82 [l0, l1, l2, l3, l4, l5, l6, l7, l8, vL a9, l10] [vL a9, vL s0] σ Q := wp_lload rfl rfl
theorem r_B_isWorse_82 : Wp L d k_B_isWorse 82 [l0, l1, l2, l3, l4, l5, l6, l7, l8, l9, l10] [vL s1, vL s0] σ Q ↔ Wp L d k_B_isWorse 83 [l0, l1, l2, l3, l4, l5, l6, l7, l8, l9, l10] [vL (w64 (s0 * s1))] σ Q := wp_lmul rfl
theorem r_B_isWorse_83 : Wp L d k_B_isWorse 83 [l0, l1, l2, l3, l4, vL a5, l6, l7, l8, l9, l10] [vL s0] σ Q ↔ Wp L d k_B_isWorse 85 [l0, l1, l2, l3, l4, vL a5, l6, l7, l8, l9, l10] [vL a5, vL s0] σ Q := wp_lload rfl rfl
theorem r_B_isWorse_85 : Wp L d k_B_isWorse 85 [l0, l1, l2, l3, l4, l5, l6, vL a7, l8, l9, l10] [vL s1, vL s0] σ Q ↔ Wp L d k_B_isWorse 87 [l0, l1, l2, l3, l4, l5, l6, vL a7, l8, l9, l10] [vL a7, vL s1, vL s0] σ Q := wp_lload rfl rfl
theorem r_B_isWorse_87 : Wp L d k_B_isWorse 87 [l0, l1, l2, l3, l4, l5, l6, l7, l8, l9, l10] [vL s2, vL s1, vL s0] σ Q ↔ Wp L d k_B_isWorse 88 [l0, l1, l2, l3, l4, l5, l6, l7, l8, l9, l10] [vL (w64 (s1 * s2)), vL s0] σ Q := wp_lmul rfl
theorem r_B_isWorse_88 : Wp L d k_B_isWorse 88 [l0, l1, l2, l3, l4, l5, l6, l7, l8, l9, l10] [vL s1, vL s0] σ Q ↔ Wp L d k_B_isWorse 89 [l0, l1, l2, l3, l4, l5, l6, l7, l8, l9, l10] [vI (glcmp s0 s1)] σ Q := wp_lcmp rfl
theorem r_B_isWorse_89 : Wp L d k_B_isWorse 89 [l0, l1, l2, l3, l4, l5, l6, l7, l8, l9, l10] [vI s0] σ Q ↔ (if s0 ≤ 0 then Wp L d k_B_isWorse 96 [l0, l1, l2, l3, l4, l5, l6, l7, l8, l9, l10] [] σ Q else Wp L d k_B_isWorse 92 [l0, l1, l2, l3, l4, l5, l6, l7, l8, l9, l10] [] σ Q) := wp_if_le rfl
theorem r_B_isWorse_92 : Wp L d k_B_isWorse 92 [l0, l1, l2, l3, l4, l5, l6, l7, l8, l9, l10] [] σ Q ↔ Wp L d k_B_isWorse 93 [l0, l1, l2, l3, l4, l5, l6, l7, l8, l9, l10] [vI 1] σ Q := wp_push rfl
theorem r_B_isWorse_93 : Wp L d k_B_isWorse 93 [l0, l1, l2, l3, l4, l5, l6, l7, l8, l9, l10] [vI s0] σ Q ↔ Wp L d k_B_isWorse 97 [l0, l1, l2, l3, l4, l5, l6, l7, l8, l9, l10] [vI s0] σ Q := wp_goto rfl
theorem r_B_isWorse_96 : Wp L d k_B_isWorse 96 [l0, l1, l2, l3, l4, l5, l6, l7, l8, l9, l10] [] σ Q ↔ Wp L d k_B_isWorse 97 [l0, l1, l2, l3, l4, l5, l6, l7, l8, l9, l10] [vI 0] σ Q := wp_push rfl
theorem r_B_isWorse_97 (h : s0 = 0 ∨ s0 = 1) : Wp L d k_B_isWorse 97 [l0, l1, l2, l3, l4, l5, l6, l7, l8, l9, l10] [vI s0] σ Q ↔ Q (some (vI s0)) σ := wp_zret rfl h
theorem r_B_isWorse_40 (hk : gK c0 = 4) (h2 : 1 ≤ σ c0 2 ∧ σ c0 2 ≤ 999) (h4 : 0 ≤ σ c0 4 ∧ σ c0 4 ≤ 99) (h1 : 0 ≤ s1 ∧ s1 ≤ 99) : Wp L (d + 1) k_B_isWorse 40 [l0, l1, l2, l3, l4, l5, l6, l7, l8, l9, l10] [vI s1, vR c0] σ Q ↔ Wp L (d + 1) k_B_isWorse 43 [l0, l1, l2, l3, l4, l5, l6, l7, l8, l9, l10] [vI (brbe (σ c0 0) (σ c0 2) (σ c0 4) s1)] σ Q := wp_callR (d := d + 0) (as := [vR c0, vI s1]) (rest := []) rfl rfl rfl rfl rfl rfl rfl (grecv_k (by rw [hk]) rfl) (sp_Q_bearing hk h2 h4 h1)
theorem r_B_isWorse_62 (hk : gK c0 = 4) (h2 : 1 ≤ σ c0 2 ∧ σ c0 2 ≤ 999) (h4 : 0 ≤ σ c0 4 ∧ σ c0 4 ≤ 99) (h1 : 0 ≤ s1 ∧ s1 ≤ 99) : Wp L (d + 1) k_B_isWorse 62 [l0, l1, l2, l3, l4, l5, l6, l7, l8, l9, l10] [vI s1, vR c0] σ Q ↔ Wp L (d + 1) k_B_isWorse 65 [l0, l1, l2, l3, l4, l5, l6, l7, l8, l9, l10] [vI (brbe (σ c0 0) (σ c0 2) (σ c0 4) s1)] σ Q := wp_callR (d := d + 0) (as := [vR c0, vI s1]) (rest := []) rfl rfl rfl rfl rfl rfl rfl (grecv_k (by rw [hk]) rfl) (sp_Q_bearing hk h2 h4 h1)
theorem sp_B_isWorse {b : Nat} {f : Nat → Int} {p o : Nat} {a : Int} (hB : BR b) (hw : WB f) (hc : CB b f σ) (h : 0 ≤ a ∧ a ≤ 99) (hd : WD b f a σ) (hp : (p : Int) < f 1) (ho : (o : Int) < f 1) : Run L (d + 1) 103 [vR b, vR (b + 9 + p), vR (b + 9 + o)] σ (some (vI (gb (brfo f a o * brbd f p < brfo f a p * brbd f o)))) σ := by
  refine Run_of (C' := k_B_isWorse) rfl ?_
  show Wp L (d + 1) k_B_isWorse 0 [vR b, vR (b + 9 + p), vR (b + 9 + o), vU, vU, vU, vU, vU, vU, vU, vU] [] σ _
  obtain ⟨⟨K0, q0, q1, q2, q3, q4, q5, q6, q7⟩, ⟨K1, K2, K3, K4, K5, K6, K7, K8⟩, ⟨N1, N2, N3, N4, N5, N6, N7, N8⟩, QP, KP⟩ := hB
  have w1 := hw.1
  have w2 := hw.2.1
  have kp := KP p (by omega)
  have q := CBp hc hp
  have w := WBp hw hp
  have z := hd (f (120 + 12 * p + 1)).toNat (by omega)
  rw [show (((f (120 + 12 * p + 1)).toNat : Nat) : Int) = f (120 + 12 * p + 1) by omega] at z
  have b1 := brpull_bd hw h (f (120 + 12 * p + 1)).toNat
  have b2 := brsh_bd hw (f (120 + 12 * p + 1)) (f 1).toNat (by omega)
  have b3 := brb_bd hw p hp
  have hb : brbe (f (120 + 12 * p)) (f (120 + 12 * p + 2)) (f (120 + 12 * p + 4)) (f (120 + 12 * p + 5)) = brb f p := rfl
  have m2 := brbd_bd hw p hp
  have m4 : brb f p * brsh f (f (120 + 12 * p + 1)) (f 1).toNat = brbd f p := rfl

  have kp' := KP o (by omega)
  have q' := CBp hc ho
  have w' := WBp hw ho
  have z' := hd (f (120 + 12 * o + 1)).toNat (by omega)
  rw [show (((f (120 + 12 * o + 1)).toNat : Nat) : Int) = f (120 + 12 * o + 1) by omega] at z'
  have b1' := brpull_bd hw h (f (120 + 12 * o + 1)).toNat
  have b2' := brsh_bd hw (f (120 + 12 * o + 1)) (f 1).toNat (by omega)
  have b3' := brb_bd hw o ho
  have hb' : brbe (f (120 + 12 * o)) (f (120 + 12 * o + 2)) (f (120 + 12 * o + 4)) (f (120 + 12 * o + 5)) = brb f o := rfl
  have m2' := brbd_bd hw o ho
  have m4' : brb f o * brsh f (f (120 + 12 * o + 1)) (f 1).toNat = brbd f o := rfl

  have m3 : brpull f a (f (120 + 12 * p + 1)).toNat * f (120 + 12 * p + 3) = brfo f a p := rfl
  have m3' : brpull f a (f (120 + 12 * o + 1)).toNat * f (120 + 12 * o + 3) = brfo f a o := rfl
  have n1 := brfo_bd hw h p hp
  have n1' := brfo_bd hw h o ho
  have n2 := mul_bd n1 m2'
  have n2' := mul_bd n1' m2
  by_cases e2 : brfo f a o * brbd f p < brfo f a p * brbd f o
  · rw [gb_t e2]
    simp (disch := first | assumption | exact gb_01 _ | omega) only [r_B_isWorse_0, r_B_isWorse_1, r_B_isWorse_4, r_B_isWorse_5, r_B_isWorse_8, r_B_isWorse_9, r_B_isWorse_10, r_B_isWorse_11, r_B_isWorse_14, r_B_isWorse_15, r_B_isWorse_16, r_B_isWorse_17, r_B_isWorse_18, r_B_isWorse_21, r_B_isWorse_22, r_B_isWorse_25, r_B_isWorse_26, r_B_isWorse_27, r_B_isWorse_28, r_B_isWorse_31, r_B_isWorse_32, r_B_isWorse_33, r_B_isWorse_35, r_B_isWorse_36, r_B_isWorse_37, r_B_isWorse_40, r_B_isWorse_43, r_B_isWorse_44, r_B_isWorse_45, r_B_isWorse_48, r_B_isWorse_49, r_B_isWorse_52, r_B_isWorse_53, r_B_isWorse_54, r_B_isWorse_55, r_B_isWorse_57, r_B_isWorse_58, r_B_isWorse_59, r_B_isWorse_62, r_B_isWorse_65, r_B_isWorse_66, r_B_isWorse_67, r_B_isWorse_70, r_B_isWorse_71, r_B_isWorse_74, r_B_isWorse_75, r_B_isWorse_76, r_B_isWorse_77, r_B_isWorse_79, r_B_isWorse_80, r_B_isWorse_82, r_B_isWorse_83, r_B_isWorse_85, r_B_isWorse_87, r_B_isWorse_88, r_B_isWorse_89, r_B_isWorse_92, r_B_isWorse_93, r_B_isWorse_96, r_B_isWorse_97, q0, q1, q2, q3, q4, q5, q6, q7, QP, q, z, w64i, hb, m3, m4, q', z', hb', m3', m4', w32_gb, w32i, tn_add, tn_mul, Int.toNat_natCast, Int.toNat_zero, Int.reduceLE, Int.reduceLT, Int.reduceEq, Int.reduceNe, gb_T, gb_F, Int.reduceToNat, eq_self, true_or, or_true, and_true, true_and, and_self, ↓ite_gb0, ↓ite_gbn, ↓if_pos, ↓if_neg, if_true, if_false, not_true_eq_false, not_false_eq_true, gb_ne0, gb_eq0, ↓ite_lcmp]
  · rw [gb_f e2]
    simp (disch := first | assumption | exact gb_01 _ | omega) only [r_B_isWorse_0, r_B_isWorse_1, r_B_isWorse_4, r_B_isWorse_5, r_B_isWorse_8, r_B_isWorse_9, r_B_isWorse_10, r_B_isWorse_11, r_B_isWorse_14, r_B_isWorse_15, r_B_isWorse_16, r_B_isWorse_17, r_B_isWorse_18, r_B_isWorse_21, r_B_isWorse_22, r_B_isWorse_25, r_B_isWorse_26, r_B_isWorse_27, r_B_isWorse_28, r_B_isWorse_31, r_B_isWorse_32, r_B_isWorse_33, r_B_isWorse_35, r_B_isWorse_36, r_B_isWorse_37, r_B_isWorse_40, r_B_isWorse_43, r_B_isWorse_44, r_B_isWorse_45, r_B_isWorse_48, r_B_isWorse_49, r_B_isWorse_52, r_B_isWorse_53, r_B_isWorse_54, r_B_isWorse_55, r_B_isWorse_57, r_B_isWorse_58, r_B_isWorse_59, r_B_isWorse_62, r_B_isWorse_65, r_B_isWorse_66, r_B_isWorse_67, r_B_isWorse_70, r_B_isWorse_71, r_B_isWorse_74, r_B_isWorse_75, r_B_isWorse_76, r_B_isWorse_77, r_B_isWorse_79, r_B_isWorse_80, r_B_isWorse_82, r_B_isWorse_83, r_B_isWorse_85, r_B_isWorse_87, r_B_isWorse_88, r_B_isWorse_89, r_B_isWorse_92, r_B_isWorse_93, r_B_isWorse_96, r_B_isWorse_97, q0, q1, q2, q3, q4, q5, q6, q7, QP, q, z, w64i, hb, m3, m4, q', z', hb', m3', m4', w32_gb, w32i, tn_add, tn_mul, Int.toNat_natCast, Int.toNat_zero, Int.reduceLE, Int.reduceLT, Int.reduceEq, Int.reduceNe, gb_T, gb_F, Int.reduceToNat, eq_self, true_or, or_true, and_true, true_and, and_self, ↓ite_gb0, ↓ite_gbn, ↓if_pos, ↓if_neg, if_true, if_false, not_true_eq_false, not_false_eq_true, gb_ne0, gb_eq0, ↓ite_lcmp]
theorem r_B_worstOver_0 : Wp L d k_B_worstOver 0 [vR b0, l1, l2, l3] [] σ Q ↔ Wp L d k_B_worstOver 1 [vR b0, l1, l2, l3] [vR b0] σ Q := wp_aload rfl rfl
theorem r_B_worstOver_1 : Wp L d k_B_worstOver 1 [l0, vI a1, l2, l3] [vR c0] σ Q ↔ Wp L d k_B_worstOver 2 [l0, vI a1, l2, l3] [vI a1, vR c0] σ Q := wp_iload rfl rfl
theorem c_B_worstOver_2 (hR : Run L d 97 [vR c0, vI s1] σ r σ1) (h : gK c0 = 1) : Wp L (d + 1) k_B_worstOver 2 [l0, l1, l2, l3] [vI s1, vR c0] σ Q ↔ Wp L (d + 1) k_B_worstOver 5 [l0, l1, l2, l3] (r.toList ++ []) σ1 Q := wp_callR (as := [vR c0, vI s1]) (rest := []) rfl rfl rfl rfl rfl rfl rfl (grecv_k (by rw [h]) rfl) hR
theorem r_B_worstOver_5 : Wp L d k_B_worstOver 5 [l0, l1, l2, l3] [] σ Q ↔ Wp L d k_B_worstOver 7 [l0, l1, l2, l3] [vI (-1000000005)] σ Q := wp_push rfl
theorem r_B_worstOver_7 : Wp L d k_B_worstOver 7 [l0, vI a1, l2, l3] [vI s0] σ Q ↔ Wp L d k_B_worstOver 8 [l0, vI a1, vI s0, l3] [] σ Q := wp_istore (i := 2) (ls := [l0, vI a1, l2, l3]) rfl rfl
theorem r_B_worstOver_8 : Wp L d k_B_worstOver 8 [l0, l1, l2, l3] [] σ Q ↔ Wp L d k_B_worstOver 9 [l0, l1, l2, l3] [vI 0] σ Q := wp_push rfl
theorem r_B_worstOver_9 : Wp L d k_B_worstOver 9 [l0, l1, vI a2, l3] [vI s0] σ Q ↔ Wp L d k_B_worstOver 10 [l0, l1, vI a2, vI s0] [] σ Q := wp_istore (i := 3) (ls := [l0, l1, vI a2, l3]) rfl rfl
theorem r_B_worstOver_10 : Wp L d k_B_worstOver 10 [l0, l1, l2, vI a3] [] σ Q ↔ Wp L d k_B_worstOver 11 [l0, l1, l2, vI a3] [vI a3] σ Q := wp_iload rfl rfl
theorem r_B_worstOver_11 : Wp L d k_B_worstOver 11 [vR b0, l1, l2, l3] [vI s0] σ Q ↔ Wp L d k_B_worstOver 12 [vR b0, l1, l2, l3] [vR b0, vI s0] σ Q := wp_aload rfl rfl
theorem r_B_worstOver_12 (h : gK c1 = 1) : Wp L d k_B_worstOver 12 [l0, l1, l2, l3] [vR c1, vI s0] σ Q ↔ Wp L d k_B_worstOver 15 [l0, l1, l2, l3] [vI (σ c1 9), vI s0] σ Q := wp_getI (c := 265) rfl rfl rfl rfl h
theorem r_B_worstOver_15 : Wp L d k_B_worstOver 15 [l0, l1, l2, l3] [vI s1, vI s0] σ Q ↔ (if s1 ≤ s0 then Wp L d k_B_worstOver 64 [l0, l1, l2, l3] [] σ Q else Wp L d k_B_worstOver 18 [l0, l1, l2, l3] [] σ Q) := wp_cmp_ge rfl
theorem r_B_worstOver_18 : Wp L d k_B_worstOver 18 [vR b0, l1, l2, l3] [] σ Q ↔ Wp L d k_B_worstOver 19 [vR b0, l1, l2, l3] [vR b0] σ Q := wp_aload rfl rfl
theorem r_B_worstOver_19 : Wp L d k_B_worstOver 19 [vR b0, l1, l2, l3] [vR c0] σ Q ↔ Wp L d k_B_worstOver 20 [vR b0, l1, l2, l3] [vR b0, vR c0] σ Q := wp_aload rfl rfl
theorem r_B_worstOver_20 (h : gK c1 = 1) : Wp L d k_B_worstOver 20 [l0, l1, l2, l3] [vR c1, vR c0] σ Q ↔ Wp L d k_B_worstOver 23 [l0, l1, l2, l3] [vR (gq c1 3), vR c0] σ Q := wp_getR (c := 387) rfl rfl rfl rfl rfl h
theorem r_B_worstOver_23 : Wp L d k_B_worstOver 23 [l0, l1, l2, vI a3] [vR c1, vR c0] σ Q ↔ Wp L d k_B_worstOver 24 [l0, l1, l2, vI a3] [vI a3, vR c1, vR c0] σ Q := wp_iload rfl rfl
theorem r_B_worstOver_24 (h : gK c1 = 102 ∨ gK c1 = 103) (hx : 0 ≤ s2 ∧ s2 < gN c1) : Wp L d k_B_worstOver 24 [l0, l1, l2, l3] [vI s2, vR c1, vR c0] σ Q ↔ Wp L d k_B_worstOver 25 [l0, l1, l2, l3] [vR (gq c1 s2.toNat), vR c0] σ Q := wp_aald rfl h hx
theorem c_B_worstOver_25 (hR : Run L d 102 [vR c0, vR c1] σ r σ1) (h : gK c0 = 1) : Wp L (d + 1) k_B_worstOver 25 [l0, l1, l2, l3] [vR c1, vR c0] σ Q ↔ Wp L (d + 1) k_B_worstOver 28 [l0, l1, l2, l3] (r.toList ++ []) σ1 Q := wp_callR (as := [vR c0, vR c1]) (rest := []) rfl rfl rfl rfl rfl rfl rfl (grecv_k (by rw [h]) rfl) hR
theorem r_B_worstOver_28 : Wp L d k_B_worstOver 28 [l0, l1, l2, l3] [vI s0] σ Q ↔ (if s0 = 0 then Wp L d k_B_worstOver 58 [l0, l1, l2, l3] [] σ Q else Wp L d k_B_worstOver 31 [l0, l1, l2, l3] [] σ Q) := wp_if_eq rfl
theorem r_B_worstOver_31 : Wp L d k_B_worstOver 31 [l0, l1, vI a2, l3] [] σ Q ↔ Wp L d k_B_worstOver 32 [l0, l1, vI a2, l3] [vI a2] σ Q := wp_iload rfl rfl
theorem r_B_worstOver_32 : Wp L d k_B_worstOver 32 [l0, l1, l2, l3] [vI s0] σ Q ↔ Wp L d k_B_worstOver 34 [l0, l1, l2, l3] [vI (-1000000005), vI s0] σ Q := wp_push rfl
theorem r_B_worstOver_34 : Wp L d k_B_worstOver 34 [l0, l1, l2, l3] [vI s1, vI s0] σ Q ↔ (if s0 = s1 then Wp L d k_B_worstOver 56 [l0, l1, l2, l3] [] σ Q else Wp L d k_B_worstOver 37 [l0, l1, l2, l3] [] σ Q) := wp_cmp_eq rfl
theorem r_B_worstOver_37 : Wp L d k_B_worstOver 37 [vR b0, l1, l2, l3] [] σ Q ↔ Wp L d k_B_worstOver 38 [vR b0, l1, l2, l3] [vR b0] σ Q := wp_aload rfl rfl
theorem r_B_worstOver_38 : Wp L d k_B_worstOver 38 [vR b0, l1, l2, l3] [vR c0] σ Q ↔ Wp L d k_B_worstOver 39 [vR b0, l1, l2, l3] [vR b0, vR c0] σ Q := wp_aload rfl rfl
theorem r_B_worstOver_39 (h : gK c1 = 1) : Wp L d k_B_worstOver 39 [l0, l1, l2, l3] [vR c1, vR c0] σ Q ↔ Wp L d k_B_worstOver 42 [l0, l1, l2, l3] [vR (gq c1 3), vR c0] σ Q := wp_getR (c := 387) rfl rfl rfl rfl rfl h
theorem r_B_worstOver_42 : Wp L d k_B_worstOver 42 [l0, l1, l2, vI a3] [vR c1, vR c0] σ Q ↔ Wp L d k_B_worstOver 43 [l0, l1, l2, vI a3] [vI a3, vR c1, vR c0] σ Q := wp_iload rfl rfl
theorem r_B_worstOver_43 (h : gK c1 = 102 ∨ gK c1 = 103) (hx : 0 ≤ s2 ∧ s2 < gN c1) : Wp L d k_B_worstOver 43 [l0, l1, l2, l3] [vI s2, vR c1, vR c0] σ Q ↔ Wp L d k_B_worstOver 44 [l0, l1, l2, l3] [vR (gq c1 s2.toNat), vR c0] σ Q := wp_aald rfl h hx
theorem r_B_worstOver_44 : Wp L d k_B_worstOver 44 [vR b0, l1, l2, l3] [vR c1, vR c0] σ Q ↔ Wp L d k_B_worstOver 45 [vR b0, l1, l2, l3] [vR b0, vR c1, vR c0] σ Q := wp_aload rfl rfl
theorem r_B_worstOver_45 (h : gK c2 = 1) : Wp L d k_B_worstOver 45 [l0, l1, l2, l3] [vR c2, vR c1, vR c0] σ Q ↔ Wp L d k_B_worstOver 48 [l0, l1, l2, l3] [vR (gq c2 3), vR c1, vR c0] σ Q := wp_getR (c := 387) rfl rfl rfl rfl rfl h
theorem r_B_worstOver_48 : Wp L d k_B_worstOver 48 [l0, l1, vI a2, l3] [vR c2, vR c1, vR c0] σ Q ↔ Wp L d k_B_worstOver 49 [l0, l1, vI a2, l3] [vI a2, vR c2, vR c1, vR c0] σ Q := wp_iload rfl rfl
theorem r_B_worstOver_49 (h : gK c2 = 102 ∨ gK c2 = 103) (hx : 0 ≤ s3 ∧ s3 < gN c2) : Wp L d k_B_worstOver 49 [l0, l1, l2, l3] [vI s3, vR c2, vR c1, vR c0] σ Q ↔ Wp L d k_B_worstOver 50 [l0, l1, l2, l3] [vR (gq c2 s3.toNat), vR c1, vR c0] σ Q := wp_aald rfl h hx
theorem c_B_worstOver_50 (hR : Run L d 103 [vR c0, vR c1, vR c2] σ r σ1) (h : gK c0 = 1) : Wp L (d + 1) k_B_worstOver 50 [l0, l1, l2, l3] [vR c2, vR c1, vR c0] σ Q ↔ Wp L (d + 1) k_B_worstOver 53 [l0, l1, l2, l3] (r.toList ++ []) σ1 Q := wp_callR (as := [vR c0, vR c1, vR c2]) (rest := []) rfl rfl rfl rfl rfl rfl rfl (grecv_k (by rw [h]) rfl) hR
theorem r_B_worstOver_53 : Wp L d k_B_worstOver 53 [l0, l1, l2, l3] [vI s0] σ Q ↔ (if s0 = 0 then Wp L d k_B_worstOver 58 [l0, l1, l2, l3] [] σ Q else Wp L d k_B_worstOver 56 [l0, l1, l2, l3] [] σ Q) := wp_if_eq rfl
theorem r_B_worstOver_56 : Wp L d k_B_worstOver 56 [l0, l1, l2, vI a3] [] σ Q ↔ Wp L d k_B_worstOver 57 [l0, l1, l2, vI a3] [vI a3] σ Q := wp_iload rfl rfl
theorem r_B_worstOver_57 : Wp L d k_B_worstOver 57 [l0, vI a1, l2, l3] [vI s0] σ Q ↔ Wp L d k_B_worstOver 58 [l0, vI a1, vI s0, l3] [] σ Q := wp_istore (i := 2) (ls := [l0, vI a1, l2, l3]) rfl rfl
theorem r_B_worstOver_58 : Wp L d k_B_worstOver 58 [l0, l1, vI a2, vI a3] [] σ Q ↔ Wp L d k_B_worstOver 61 [l0, l1, vI a2, vI (w32 (a3 + 1))] [] σ Q := wp_iinc (i := 3) (ls := [l0, l1, vI a2, vI a3]) rfl rfl
theorem r_B_worstOver_61 : Wp L d k_B_worstOver 61 [l0, l1, l2, l3] [] σ Q ↔ Wp L d k_B_worstOver 10 [l0, l1, l2, l3] [] σ Q := wp_goto rfl
theorem r_B_worstOver_64 : Wp L d k_B_worstOver 64 [l0, l1, vI a2, l3] [] σ Q ↔ Wp L d k_B_worstOver 65 [l0, l1, vI a2, l3] [vI a2] σ Q := wp_iload rfl rfl
theorem r_B_worstOver_65 : Wp L d k_B_worstOver 65 [l0, l1, l2, l3] [vI s0] σ Q ↔ Q (some (vI s0)) σ := wp_iret rfl
theorem sp_B_worstOver {b : Nat} {f : Nat → Int}  (hB : BR b) (hw : WB f) (hc : CB b f σ) (h : 0 ≤ a1 ∧ a1 ≤ 99) : ∃ σ', Run L (d + 2) 101 [vR b, vI a1] σ (some (vI (gnn (brfi f a1 (f 1).toNat)))) σ' ∧ WD b f a1 σ' ∧ Agr σ σ' (ZSc b) := by
  refine Run_ex (C' := k_B_worstOver) rfl ?_
  show Wp L (d + 2) k_B_worstOver 0 [vR b, vI a1, vU, vU] [] σ _
  have hB0 := hB
  obtain ⟨τ, hR, hd, hA⟩ := sp_B_weighPiers (L := L) (d := d + 0) hB hw hc h
  obtain ⟨⟨K0, q0, q1, q2, q3, q4, q5, q6, q7⟩, ⟨K1, K2, K3, K4, K5, K6, K7, K8⟩, ⟨N1, N2, N3, N4, N5, N6, N7, N8⟩, QP, KP⟩ := hB
  have w2 := hw.2.1
  have hcτ := CB_sc hw hc hA
  have c2 := hcτ.2.1
  simp (disch := first | assumption | exact gb_01 _ | omega) only [r_B_worstOver_0, r_B_worstOver_1, r_B_worstOver_5, r_B_worstOver_7, r_B_worstOver_8, r_B_worstOver_9, r_B_worstOver_11, r_B_worstOver_12, r_B_worstOver_15, r_B_worstOver_18, r_B_worstOver_19, r_B_worstOver_20, r_B_worstOver_23, r_B_worstOver_24, r_B_worstOver_28, r_B_worstOver_31, r_B_worstOver_32, r_B_worstOver_34, r_B_worstOver_37, r_B_worstOver_38, r_B_worstOver_39, r_B_worstOver_42, r_B_worstOver_43, r_B_worstOver_44, r_B_worstOver_45, r_B_worstOver_48, r_B_worstOver_49, r_B_worstOver_53, r_B_worstOver_56, r_B_worstOver_57, r_B_worstOver_58, r_B_worstOver_61, r_B_worstOver_64, r_B_worstOver_65, c_B_worstOver_2 hR, Option.toList, List.singleton_append, List.cons_append, List.nil_append, List.append_nil, q0, q1, q2, q3, q4, q5, q6, q7, QP, w32_gb, w32i, tn_add, tn_mul, Int.toNat_natCast, Int.toNat_zero, Int.reduceLE, Int.reduceLT, Int.reduceEq, Int.reduceNe, gb_T, gb_F, Int.reduceToNat, eq_self, true_or, or_true, and_true, true_and, and_self, ↓ite_gb0, ↓ite_gbn, ↓if_pos, ↓if_neg, if_true, if_false, not_true_eq_false, not_false_eq_true, gb_ne0, gb_eq0, ↓ite_lcmp]
  refine wl (f 1).toNat (fun k => [vR b, vI a1, vI (gnn (brfi f a1 k)), vI (k : Int)]) (fun _ => τ) rfl rfl (fun k hk hq => ?_) ?_
  · have kp := KP k (by omega)
    have x := brfi_bd f a1 k
    have hO := sp_B_isOver (L := L) (d := d + 0) (p := k) hB0 hw hcτ h hd (by omega)
    rw [r_B_worstOver_10]
    by_cases e1 : brov f a1 k
    · by_cases e2 : brfi f a1 k < 0
      · have g : gnn (brfi f a1 k) = -1000000005 := if_pos e2
        rw [g]
        simp (disch := first | assumption | exact gb_01 _ | omega) only [r_B_worstOver_0, r_B_worstOver_1, r_B_worstOver_5, r_B_worstOver_7, r_B_worstOver_8, r_B_worstOver_9, r_B_worstOver_11, r_B_worstOver_12, r_B_worstOver_15, r_B_worstOver_18, r_B_worstOver_19, r_B_worstOver_20, r_B_worstOver_23, r_B_worstOver_24, r_B_worstOver_28, r_B_worstOver_31, r_B_worstOver_32, r_B_worstOver_34, r_B_worstOver_37, r_B_worstOver_38, r_B_worstOver_39, r_B_worstOver_42, r_B_worstOver_43, r_B_worstOver_44, r_B_worstOver_45, r_B_worstOver_48, r_B_worstOver_49, r_B_worstOver_53, r_B_worstOver_56, r_B_worstOver_57, r_B_worstOver_58, r_B_worstOver_61, r_B_worstOver_64, r_B_worstOver_65, c_B_worstOver_25 hO, e1, Option.toList, List.singleton_append, List.cons_append, List.nil_append, List.append_nil, q0, q1, q2, q3, q4, q5, q6, q7, QP, w32_gb, w32i, tn_add, tn_mul, Int.toNat_natCast, Int.toNat_zero, Int.reduceLE, Int.reduceLT, Int.reduceEq, Int.reduceNe, gb_T, gb_F, Int.reduceToNat, eq_self, true_or, or_true, and_true, true_and, and_self, ↓ite_gb0, ↓ite_gbn, ↓if_pos, ↓if_neg, if_true, if_false, not_true_eq_false, not_false_eq_true, gb_ne0, gb_eq0, ↓ite_lcmp]
        refine hq _ _ ?_ rfl
        simp only [List.cons.injEq, vI_inj, vR_inj, and_true, true_and]
        refine ⟨?_, by omega⟩
        unfold brfi
        rw [if_pos ⟨e1, Or.inl e2⟩]
        exact (if_neg (by omega)).symm
      · have g : gnn (brfi f a1 k) = brfi f a1 k := if_neg e2
        have kp' := KP (brfi f a1 k).toNat (by omega)
        have hZ := sp_B_isWorse (L := L) (d := d + 0) (p := k) (o := (brfi f a1 k).toNat) hB0 hw hcτ h hd (by omega) (by omega)
        by_cases e3 : brfo f a1 (brfi f a1 k).toNat * brbd f k < brfo f a1 k * brbd f (brfi f a1 k).toNat
        · rw [g]
          simp (disch := first | assumption | exact gb_01 _ | omega) only [r_B_worstOver_0, r_B_worstOver_1, r_B_worstOver_5, r_B_worstOver_7, r_B_worstOver_8, r_B_worstOver_9, r_B_worstOver_11, r_B_worstOver_12, r_B_worstOver_15, r_B_worstOver_18, r_B_worstOver_19, r_B_worstOver_20, r_B_worstOver_23, r_B_worstOver_24, r_B_worstOver_28, r_B_worstOver_31, r_B_worstOver_32, r_B_worstOver_34, r_B_worstOver_37, r_B_worstOver_38, r_B_worstOver_39, r_B_worstOver_42, r_B_worstOver_43, r_B_worstOver_44, r_B_worstOver_45, r_B_worstOver_48, r_B_worstOver_49, r_B_worstOver_53, r_B_worstOver_56, r_B_worstOver_57, r_B_worstOver_58, r_B_worstOver_61, r_B_worstOver_64, r_B_worstOver_65, c_B_worstOver_25 hO, c_B_worstOver_50 hZ, e1, e3, Option.toList, List.singleton_append, List.cons_append, List.nil_append, List.append_nil, q0, q1, q2, q3, q4, q5, q6, q7, QP, w32_gb, w32i, tn_add, tn_mul, Int.toNat_natCast, Int.toNat_zero, Int.reduceLE, Int.reduceLT, Int.reduceEq, Int.reduceNe, gb_T, gb_F, Int.reduceToNat, eq_self, true_or, or_true, and_true, true_and, and_self, ↓ite_gb0, ↓ite_gbn, ↓if_pos, ↓if_neg, if_true, if_false, not_true_eq_false, not_false_eq_true, gb_ne0, gb_eq0, ↓ite_lcmp]
          refine hq _ _ ?_ rfl
          simp only [List.cons.injEq, vI_inj, vR_inj, and_true, true_and]
          refine ⟨?_, by omega⟩
          rw [show brfi f a1 (k + 1) = k from if_pos ⟨e1, Or.inr e3⟩]
          exact (if_neg (by omega)).symm
        · rw [g]
          simp (disch := first | assumption | exact gb_01 _ | omega) only [r_B_worstOver_0, r_B_worstOver_1, r_B_worstOver_5, r_B_worstOver_7, r_B_worstOver_8, r_B_worstOver_9, r_B_worstOver_11, r_B_worstOver_12, r_B_worstOver_15, r_B_worstOver_18, r_B_worstOver_19, r_B_worstOver_20, r_B_worstOver_23, r_B_worstOver_24, r_B_worstOver_28, r_B_worstOver_31, r_B_worstOver_32, r_B_worstOver_34, r_B_worstOver_37, r_B_worstOver_38, r_B_worstOver_39, r_B_worstOver_42, r_B_worstOver_43, r_B_worstOver_44, r_B_worstOver_45, r_B_worstOver_48, r_B_worstOver_49, r_B_worstOver_53, r_B_worstOver_56, r_B_worstOver_57, r_B_worstOver_58, r_B_worstOver_61, r_B_worstOver_64, r_B_worstOver_65, c_B_worstOver_25 hO, c_B_worstOver_50 hZ, e1, e3, Option.toList, List.singleton_append, List.cons_append, List.nil_append, List.append_nil, q0, q1, q2, q3, q4, q5, q6, q7, QP, w32_gb, w32i, tn_add, tn_mul, Int.toNat_natCast, Int.toNat_zero, Int.reduceLE, Int.reduceLT, Int.reduceEq, Int.reduceNe, gb_T, gb_F, Int.reduceToNat, eq_self, true_or, or_true, and_true, true_and, and_self, ↓ite_gb0, ↓ite_gbn, ↓if_pos, ↓if_neg, if_true, if_false, not_true_eq_false, not_false_eq_true, gb_ne0, gb_eq0, ↓ite_lcmp]
          refine hq _ _ ?_ rfl
          simp only [List.cons.injEq, vI_inj, vR_inj, and_true, true_and]
          refine ⟨?_, by omega⟩
          rw [show brfi f a1 (k + 1) = brfi f a1 k from if_neg (fun x => by rcases x.2 with y | y; exact e2 y; exact e3 y), g]
    · simp (disch := first | assumption | exact gb_01 _ | omega) only [r_B_worstOver_0, r_B_worstOver_1, r_B_worstOver_5, r_B_worstOver_7, r_B_worstOver_8, r_B_worstOver_9, r_B_worstOver_11, r_B_worstOver_12, r_B_worstOver_15, r_B_worstOver_18, r_B_worstOver_19, r_B_worstOver_20, r_B_worstOver_23, r_B_worstOver_24, r_B_worstOver_28, r_B_worstOver_31, r_B_worstOver_32, r_B_worstOver_34, r_B_worstOver_37, r_B_worstOver_38, r_B_worstOver_39, r_B_worstOver_42, r_B_worstOver_43, r_B_worstOver_44, r_B_worstOver_45, r_B_worstOver_48, r_B_worstOver_49, r_B_worstOver_53, r_B_worstOver_56, r_B_worstOver_57, r_B_worstOver_58, r_B_worstOver_61, r_B_worstOver_64, r_B_worstOver_65, c_B_worstOver_25 hO, e1, Option.toList, List.singleton_append, List.cons_append, List.nil_append, List.append_nil, q0, q1, q2, q3, q4, q5, q6, q7, QP, w32_gb, w32i, tn_add, tn_mul, Int.toNat_natCast, Int.toNat_zero, Int.reduceLE, Int.reduceLT, Int.reduceEq, Int.reduceNe, gb_T, gb_F, Int.reduceToNat, eq_self, true_or, or_true, and_true, true_and, and_self, ↓ite_gb0, ↓ite_gbn, ↓if_pos, ↓if_neg, if_true, if_false, not_true_eq_false, not_false_eq_true, gb_ne0, gb_eq0, ↓ite_lcmp]
      refine hq _ _ ?_ rfl
      simp only [List.cons.injEq, vI_inj, vR_inj, and_true, true_and]
      refine ⟨?_, by omega⟩
      rw [show brfi f a1 (k + 1) = brfi f a1 k from if_neg (fun x => e1 x.1)]
  · rw [r_B_worstOver_10]
    simp (disch := first | assumption | exact gb_01 _ | omega) only [r_B_worstOver_0, r_B_worstOver_1, r_B_worstOver_5, r_B_worstOver_7, r_B_worstOver_8, r_B_worstOver_9, r_B_worstOver_11, r_B_worstOver_12, r_B_worstOver_15, r_B_worstOver_18, r_B_worstOver_19, r_B_worstOver_20, r_B_worstOver_23, r_B_worstOver_24, r_B_worstOver_28, r_B_worstOver_31, r_B_worstOver_32, r_B_worstOver_34, r_B_worstOver_37, r_B_worstOver_38, r_B_worstOver_39, r_B_worstOver_42, r_B_worstOver_43, r_B_worstOver_44, r_B_worstOver_45, r_B_worstOver_48, r_B_worstOver_49, r_B_worstOver_53, r_B_worstOver_56, r_B_worstOver_57, r_B_worstOver_58, r_B_worstOver_61, r_B_worstOver_64, r_B_worstOver_65, Option.toList, List.singleton_append, List.cons_append, List.nil_append, List.append_nil, q0, q1, q2, q3, q4, q5, q6, q7, QP, w32_gb, w32i, tn_add, tn_mul, Int.toNat_natCast, Int.toNat_zero, Int.reduceLE, Int.reduceLT, Int.reduceEq, Int.reduceNe, gb_T, gb_F, Int.reduceToNat, eq_self, true_or, or_true, and_true, true_and, and_self, ↓ite_gb0, ↓ite_gbn, ↓if_pos, ↓if_neg, if_true, if_false, not_true_eq_false, not_false_eq_true, gb_ne0, gb_eq0, ↓ite_lcmp]
    exact ⟨hd, hA⟩
theorem r_M_forceOn_0 : Wp L d k_M_forceOn 0 [vR b0, l1, l2] [] σ Q ↔ Wp L d k_M_forceOn 1 [vR b0, l1, l2] [vR b0] σ Q := wp_aload rfl rfl
theorem r_M_forceOn_1 : Wp L d k_M_forceOn 1 [vR b0, l1, l2] [vR c0] σ Q ↔ Wp L d k_M_forceOn 2 [vR b0, l1, l2] [vR b0, vR c0] σ Q := wp_aload rfl rfl
theorem r_M_forceOn_2 (h : gK c1 = 12) : Wp L d k_M_forceOn 2 [l0, l1, l2] [vR c1, vR c0] σ Q ↔ Wp L d k_M_forceOn 5 [l0, l1, l2] [vR (gq c1 0), vR c0] σ Q := wp_getR (c := 3200) rfl rfl rfl rfl rfl h
theorem r_M_forceOn_5 : Wp L d k_M_forceOn 5 [vR b0, l1, l2] [vR c1, vR c0] σ Q ↔ Wp L d k_M_forceOn 6 [vR b0, l1, l2] [vR b0, vR c1, vR c0] σ Q := wp_aload rfl rfl
theorem r_M_forceOn_6 : Wp L d k_M_forceOn 6 [l0, vI a1, l2] [vR c2, vR c1, vR c0] σ Q ↔ Wp L d k_M_forceOn 7 [l0, vI a1, l2] [vI a1, vR c2, vR c1, vR c0] σ Q := wp_iload rfl rfl
theorem r_M_forceOn_10 : Wp L d k_M_forceOn 10 [l0, l1, l2] [vI s2, vR c1, vR c0] σ Q ↔ Wp L d k_M_forceOn 11 [l0, l1, l2] [vI 1, vI s2, vR c1, vR c0] σ Q := wp_push rfl
theorem r_M_forceOn_11 : Wp L d k_M_forceOn 11 [l0, l1, l2] [vI s3, vI s2, vR c1, vR c0] σ Q ↔ Wp L d k_M_forceOn 12 [l0, l1, l2] [vI (w32 (s2 + s3)), vR c1, vR c0] σ Q := wp_iadd rfl
theorem r_M_forceOn_12 (h : gK c1 = 100) (hx : 0 ≤ s2 ∧ s2 < gN c1) : Wp L d k_M_forceOn 12 [l0, l1, l2] [vI s2, vR c1, vR c0] σ Q ↔ Wp L d k_M_forceOn 13 [l0, l1, l2] [vI (σ c1 s2.toNat), vR c0] σ Q := wp_iald rfl h hx
theorem r_M_forceOn_13 : Wp L d k_M_forceOn 13 [l0, l1, vI a2] [vI s1, vR c0] σ Q ↔ Wp L d k_M_forceOn 14 [l0, l1, vI a2] [vI a2, vI s1, vR c0] σ Q := wp_iload rfl rfl
theorem r_M_forceOn_17 : Wp L d k_M_forceOn 17 [l0, l1, l2] [vI s0] σ Q ↔ Wp L d k_M_forceOn 18 [l0, l1, l2] [vL s0] σ Q := wp_i2l rfl
theorem r_M_forceOn_18 : Wp L d k_M_forceOn 18 [vR b0, l1, l2] [vL s0] σ Q ↔ Wp L d k_M_forceOn 19 [vR b0, l1, l2] [vR b0, vL s0] σ Q := wp_aload rfl rfl
theorem r_M_forceOn_19 (h : gK c1 = 12) : Wp L d k_M_forceOn 19 [l0, l1, l2] [vR c1, vL s0] σ Q ↔ Wp L d k_M_forceOn 22 [l0, l1, l2] [vR (gq c1 0), vL s0] σ Q := wp_getR (c := 3200) rfl rfl rfl rfl rfl h
theorem r_M_forceOn_22 : Wp L d k_M_forceOn 22 [vR b0, l1, l2] [vR c1, vL s0] σ Q ↔ Wp L d k_M_forceOn 23 [vR b0, l1, l2] [vR b0, vR c1, vL s0] σ Q := wp_aload rfl rfl
theorem r_M_forceOn_23 : Wp L d k_M_forceOn 23 [l0, vI a1, l2] [vR c2, vR c1, vL s0] σ Q ↔ Wp L d k_M_forceOn 24 [l0, vI a1, l2] [vI a1, vR c2, vR c1, vL s0] σ Q := wp_iload rfl rfl
theorem r_M_forceOn_27 : Wp L d k_M_forceOn 27 [l0, l1, l2] [vI s2, vR c1, vL s0] σ Q ↔ Wp L d k_M_forceOn 28 [l0, l1, l2] [vI 3, vI s2, vR c1, vL s0] σ Q := wp_push rfl
theorem r_M_forceOn_28 : Wp L d k_M_forceOn 28 [l0, l1, l2] [vI s3, vI s2, vR c1, vL s0] σ Q ↔ Wp L d k_M_forceOn 29 [l0, l1, l2] [vI (w32 (s2 + s3)), vR c1, vL s0] σ Q := wp_iadd rfl
theorem r_M_forceOn_29 (h : gK c1 = 100) (hx : 0 ≤ s2 ∧ s2 < gN c1) : Wp L d k_M_forceOn 29 [l0, l1, l2] [vI s2, vR c1, vL s0] σ Q ↔ Wp L d k_M_forceOn 30 [l0, l1, l2] [vI (σ c1 s2.toNat), vL s0] σ Q := wp_iald rfl h hx
theorem r_M_forceOn_30 : Wp L d k_M_forceOn 30 [l0, l1, l2] [vI s1, vL s0] σ Q ↔ Wp L d k_M_forceOn 31 [l0, l1, l2] [vL s1, vL s0] σ Q := wp_i2l rfl
theorem r_M_forceOn_31 : Wp L d k_M_forceOn 31 [l0, l1, l2] [vL s1, vL s0] σ Q ↔ Wp L d k_M_forceOn 32 [l0, l1, l2] [vL (w64 (s0 * s1))] σ Q := wp_lmul rfl
theorem r_M_forceOn_32 : Wp L d k_M_forceOn 32 [l0, l1, l2] [vL s0] σ Q ↔ Q (some (vL s0)) σ := wp_lret rfl
theorem r_M_forceOn_7 : Wp L (d + 3) k_M_forceOn 7 [l0, l1, l2] [vI s3, vR 293, vR c1, vR c0] σ Q ↔ Wp L (d + 3) k_M_forceOn 10 [l0, l1, l2] [vI (w32 (120 + w32 (12 * s3))), vR c1, vR c0] σ Q := wp_callR (d := d + 2) (as := [vR 293, vI s3]) (rest := [vR c1, vR c0]) rfl rfl rfl rfl rfl rfl rfl (grecv_k (by rw [gK_293]) rfl) (sp_M_partAt)
theorem r_M_forceOn_14 (hw : WB (σ 294)) (h : 0 ≤ s1 ∧ s1 ≤ σ 294 0) (h2 : 0 ≤ s2 ∧ s2 ≤ 99) : Wp L (d + 3) k_M_forceOn 14 [l0, l1, l2] [vI s2, vI s1, vR 293] σ Q ↔ Wp L (d + 3) k_M_forceOn 17 [l0, l1, l2] [vI (brpull (σ 294) s2 s1.toNat)] σ Q := wp_callR (d := d + 2) (as := [vR 293, vI s1, vI s2]) (rest := []) rfl rfl rfl rfl rfl rfl rfl (grecv_k (by rw [gK_293]) rfl) (sp_M_pullOf hw h h2)
theorem r_M_forceOn_24 : Wp L (d + 3) k_M_forceOn 24 [l0, l1, l2] [vI s3, vR 293, vR c1, vL s0] σ Q ↔ Wp L (d + 3) k_M_forceOn 27 [l0, l1, l2] [vI (w32 (120 + w32 (12 * s3))), vR c1, vL s0] σ Q := wp_callR (d := d + 2) (as := [vR 293, vI s3]) (rest := [vR c1, vL s0]) rfl rfl rfl rfl rfl rfl rfl (grecv_k (by rw [gK_293]) rfl) (sp_M_partAt)
theorem sp_M_forceOn (hw : WB (σ 294)) (h : 0 ≤ a1 ∧ a1 < σ 294 1) (h2 : 0 ≤ a2 ∧ a2 ≤ 99) : Run L (d + 3) 227 [vR 293, vI a1, vI a2] σ (some (vL (brfo (σ 294) a2 a1.toNat))) σ := by
  refine Run_of (C' := k_M_forceOn) rfl ?_
  show Wp L (d + 3) k_M_forceOn 0 [vR 293, vI a1, vI a2] [] σ _
  obtain ⟨K293, Q293, K294, N294⟩ := litM
  have w1 := hw.1
  have w2 := hw.2.1
  have w := WBp hw (p := a1.toNat) (by omega)

  have b1 := brfo_bd hw h2 a1.toNat (by omega)
  have m : brpull (σ 294) a2 (σ 294 (120 + 12 * a1.toNat + 1)).toNat * σ 294 (120 + 12 * a1.toNat + 3) = brfo (σ 294) a2 a1.toNat := rfl
  simp (disch := first | assumption | exact gb_01 _ | omega) only [r_M_forceOn_0, r_M_forceOn_1, r_M_forceOn_2, r_M_forceOn_5, r_M_forceOn_6, r_M_forceOn_7, r_M_forceOn_10, r_M_forceOn_11, r_M_forceOn_12, r_M_forceOn_13, r_M_forceOn_14, r_M_forceOn_17, r_M_forceOn_18, r_M_forceOn_19, r_M_forceOn_22, r_M_forceOn_23, r_M_forceOn_24, r_M_forceOn_27, r_M_forceOn_28, r_M_forceOn_29, r_M_forceOn_30, r_M_forceOn_31, r_M_forceOn_32, Q293, w64i, m, w32_gb, w32i, tn_add, tn_mul, Int.toNat_natCast, Int.toNat_zero, Int.reduceLE, Int.reduceLT, Int.reduceEq, Int.reduceNe, gb_T, gb_F, Int.reduceToNat, eq_self, true_or, or_true, and_true, true_and, and_self, ↓ite_gb0, ↓ite_gbn, ↓if_pos, ↓if_neg, if_true, if_false, not_true_eq_false, not_false_eq_true, gb_ne0, gb_eq0]
theorem r_M_boundOf_0 : Wp L d k_M_boundOf 0 [vR b0, l1] [] σ Q ↔ Wp L d k_M_boundOf 1 [vR b0, l1] [vR b0] σ Q := wp_aload rfl rfl
theorem r_M_boundOf_1 : Wp L d k_M_boundOf 1 [l0, vI a1] [vR c0] σ Q ↔ Wp L d k_M_boundOf 2 [l0, vI a1] [vI a1, vR c0] σ Q := wp_iload rfl rfl
theorem r_M_boundOf_5 : Wp L d k_M_boundOf 5 [l0, l1] [vI s0] σ Q ↔ Wp L d k_M_boundOf 6 [l0, l1] [vL s0] σ Q := wp_i2l rfl
theorem r_M_boundOf_6 : Wp L d k_M_boundOf 6 [vR b0, l1] [vL s0] σ Q ↔ Wp L d k_M_boundOf 7 [vR b0, l1] [vR b0, vL s0] σ Q := wp_aload rfl rfl
theorem r_M_boundOf_7 : Wp L d k_M_boundOf 7 [vR b0, l1] [vR c1, vL s0] σ Q ↔ Wp L d k_M_boundOf 8 [vR b0, l1] [vR b0, vR c1, vL s0] σ Q := wp_aload rfl rfl
theorem r_M_boundOf_8 (h : gK c2 = 12) : Wp L d k_M_boundOf 8 [l0, l1] [vR c2, vR c1, vL s0] σ Q ↔ Wp L d k_M_boundOf 11 [l0, l1] [vR (gq c2 0), vR c1, vL s0] σ Q := wp_getR (c := 3200) rfl rfl rfl rfl rfl h
theorem r_M_boundOf_11 : Wp L d k_M_boundOf 11 [vR b0, l1] [vR c2, vR c1, vL s0] σ Q ↔ Wp L d k_M_boundOf 12 [vR b0, l1] [vR b0, vR c2, vR c1, vL s0] σ Q := wp_aload rfl rfl
theorem r_M_boundOf_12 : Wp L d k_M_boundOf 12 [l0, vI a1] [vR c3, vR c2, vR c1, vL s0] σ Q ↔ Wp L d k_M_boundOf 13 [l0, vI a1] [vI a1, vR c3, vR c2, vR c1, vL s0] σ Q := wp_iload rfl rfl
theorem r_M_boundOf_16 : Wp L d k_M_boundOf 16 [l0, l1] [vI s3, vR c2, vR c1, vL s0] σ Q ↔ Wp L d k_M_boundOf 17 [l0, l1] [vI 1, vI s3, vR c2, vR c1, vL s0] σ Q := wp_push rfl
theorem r_M_boundOf_17 : Wp L d k_M_boundOf 17 [l0, l1] [vI s4, vI s3, vR c2, vR c1, vL s0] σ Q ↔ Wp L d k_M_boundOf 18 [l0, l1] [vI (w32 (s3 + s4)), vR c2, vR c1, vL s0] σ Q := wp_iadd rfl
theorem r_M_boundOf_18 (h : gK c2 = 100) (hx : 0 ≤ s3 ∧ s3 < gN c2) : Wp L d k_M_boundOf 18 [l0, l1] [vI s3, vR c2, vR c1, vL s0] σ Q ↔ Wp L d k_M_boundOf 19 [l0, l1] [vI (σ c2 s3.toNat), vR c1, vL s0] σ Q := wp_iald rfl h hx
theorem r_M_boundOf_22 : Wp L d k_M_boundOf 22 [l0, l1] [vI s1, vL s0] σ Q ↔ Wp L d k_M_boundOf 23 [l0, l1] [vL s1, vL s0] σ Q := wp_i2l rfl
theorem r_M_boundOf_23 : Wp L d k_M_boundOf 23 [l0, l1] [vL s1, vL s0] σ Q ↔ Wp L d k_M_boundOf 24 [l0, l1] [vL (w64 (s0 * s1))] σ Q := wp_lmul rfl
theorem r_M_boundOf_24 : Wp L d k_M_boundOf 24 [l0, l1] [vL s0] σ Q ↔ Q (some (vL s0)) σ := wp_lret rfl
theorem r_M_boundOf_2 (hw : WB (σ 294)) (h : 0 ≤ s1 ∧ s1 < σ 294 1) : Wp L (d + 3) k_M_boundOf 2 [l0, l1] [vI s1, vR 293] σ Q ↔ Wp L (d + 3) k_M_boundOf 5 [l0, l1] [vI (brb (σ 294) s1.toNat)] σ Q := wp_callR (d := d + 2) (as := [vR 293, vI s1]) (rest := []) rfl rfl rfl rfl rfl rfl rfl (grecv_k (by rw [gK_293]) rfl) (sp_M_bearsOf hw h)
theorem r_M_boundOf_13 : Wp L (d + 3) k_M_boundOf 13 [l0, l1] [vI s4, vR 293, vR c2, vR c1, vL s0] σ Q ↔ Wp L (d + 3) k_M_boundOf 16 [l0, l1] [vI (w32 (120 + w32 (12 * s4))), vR c2, vR c1, vL s0] σ Q := wp_callR (d := d + 2) (as := [vR 293, vI s4]) (rest := [vR c2, vR c1, vL s0]) rfl rfl rfl rfl rfl rfl rfl (grecv_k (by rw [gK_293]) rfl) (sp_M_partAt)
theorem r_M_boundOf_19 (hw : WB (σ 294)) : Wp L (d + 3) k_M_boundOf 19 [l0, l1] [vI s2, vR 293, vL s0] σ Q ↔ Wp L (d + 3) k_M_boundOf 22 [l0, l1] [vI (brsh (σ 294) s2 (σ 294 1).toNat), vL s0] σ Q := wp_callR (d := d + 2) (as := [vR 293, vI s2]) (rest := [vL s0]) rfl rfl rfl rfl rfl rfl rfl (grecv_k (by rw [gK_293]) rfl) (sp_M_sharesAt hw)
theorem sp_M_boundOf (hw : WB (σ 294)) (h : 0 ≤ a1 ∧ a1 < σ 294 1) : Run L (d + 3) 228 [vR 293, vI a1] σ (some (vL (brbd (σ 294) a1.toNat))) σ := by
  refine Run_of (C' := k_M_boundOf) rfl ?_
  show Wp L (d + 3) k_M_boundOf 0 [vR 293, vI a1] [] σ _
  obtain ⟨K293, Q293, K294, N294⟩ := litM
  have w1 := hw.1
  have w2 := hw.2.1
  have w := WBp hw (p := a1.toNat) (by omega)

  have b1 := brbd_bd hw a1.toNat (by omega)
  have m : brb (σ 294) a1.toNat * brsh (σ 294) (σ 294 (120 + 12 * a1.toNat + 1)) (σ 294 1).toNat = brbd (σ 294) a1.toNat := rfl
  simp (disch := first | assumption | exact gb_01 _ | omega) only [r_M_boundOf_0, r_M_boundOf_1, r_M_boundOf_2, r_M_boundOf_5, r_M_boundOf_6, r_M_boundOf_7, r_M_boundOf_8, r_M_boundOf_11, r_M_boundOf_12, r_M_boundOf_13, r_M_boundOf_16, r_M_boundOf_17, r_M_boundOf_18, r_M_boundOf_19, r_M_boundOf_22, r_M_boundOf_23, r_M_boundOf_24, Q293, w64i, m, w32_gb, w32i, tn_add, tn_mul, Int.toNat_natCast, Int.toNat_zero, Int.reduceLE, Int.reduceLT, Int.reduceEq, Int.reduceNe, gb_T, gb_F, Int.reduceToNat, eq_self, true_or, or_true, and_true, true_and, and_self, ↓ite_gb0, ↓ite_gbn, ↓if_pos, ↓if_neg, if_true, if_false, not_true_eq_false, not_false_eq_true, gb_ne0, gb_eq0]
theorem r_M_isOver_0 : Wp L d k_M_isOver 0 [vR b0, l1, l2] [] σ Q ↔ Wp L d k_M_isOver 1 [vR b0, l1, l2] [vR b0] σ Q := wp_aload rfl rfl
theorem r_M_isOver_1 : Wp L d k_M_isOver 1 [l0, vI a1, l2] [vR c0] σ Q ↔ Wp L d k_M_isOver 2 [l0, vI a1, l2] [vI a1, vR c0] σ Q := wp_iload rfl rfl
theorem r_M_isOver_5 : Wp L d k_M_isOver 5 [l0, l1, l2] [vI s0] σ Q ↔ (if s0 = 0 then Wp L d k_M_isOver 31 [l0, l1, l2] [] σ Q else Wp L d k_M_isOver 8 [l0, l1, l2] [] σ Q) := wp_if_eq rfl
theorem r_M_isOver_8 : Wp L d k_M_isOver 8 [vR b0, l1, l2] [] σ Q ↔ Wp L d k_M_isOver 9 [vR b0, l1, l2] [vR b0] σ Q := wp_aload rfl rfl
theorem r_M_isOver_9 : Wp L d k_M_isOver 9 [l0, vI a1, l2] [vR c0] σ Q ↔ Wp L d k_M_isOver 10 [l0, vI a1, l2] [vI a1, vR c0] σ Q := wp_iload rfl rfl
theorem r_M_isOver_10 : Wp L d k_M_isOver 10 [l0, l1, vI a2] [vI s1, vR c0] σ Q ↔ Wp L d k_M_isOver 11 [l0, l1, vI a2] [vI a2, vI s1, vR c0] σ Q := wp_iload rfl rfl
theorem r_M_isOver_14 : Wp L d k_M_isOver 14 [l0, l1, l2] [vL s0] σ Q ↔ Wp L d k_M_isOver 17 [l0, l1, l2] [vL 10000, vL s0] σ Q := wp_pushL rfl
theorem r_M_isOver_17 : Wp L d k_M_isOver 17 [l0, l1, l2] [vL s1, vL s0] σ Q ↔ Wp L d k_M_isOver 18 [l0, l1, l2] [vL (w64 (s0 * s1))] σ Q := wp_lmul rfl
theorem r_M_isOver_18 : Wp L d k_M_isOver 18 [vR b0, l1, l2] [vL s0] σ Q ↔ Wp L d k_M_isOver 19 [vR b0, l1, l2] [vR b0, vL s0] σ Q := wp_aload rfl rfl
theorem r_M_isOver_19 : Wp L d k_M_isOver 19 [l0, vI a1, l2] [vR c1, vL s0] σ Q ↔ Wp L d k_M_isOver 20 [l0, vI a1, l2] [vI a1, vR c1, vL s0] σ Q := wp_iload rfl rfl
theorem r_M_isOver_23 : Wp L d k_M_isOver 23 [l0, l1, l2] [vL s1, vL s0] σ Q ↔ Wp L d k_M_isOver 24 [l0, l1, l2] [vI (glcmp s0 s1)] σ Q := wp_lcmp rfl
theorem r_M_isOver_24 : Wp L d k_M_isOver 24 [l0, l1, l2] [vI s0] σ Q ↔ (if s0 ≤ 0 then Wp L d k_M_isOver 31 [l0, l1, l2] [] σ Q else Wp L d k_M_isOver 27 [l0, l1, l2] [] σ Q) := wp_if_le rfl
theorem r_M_isOver_27 : Wp L d k_M_isOver 27 [l0, l1, l2] [] σ Q ↔ Wp L d k_M_isOver 28 [l0, l1, l2] [vI 1] σ Q := wp_push rfl
theorem r_M_isOver_28 : Wp L d k_M_isOver 28 [l0, l1, l2] [vI s0] σ Q ↔ Wp L d k_M_isOver 32 [l0, l1, l2] [vI s0] σ Q := wp_goto rfl
theorem r_M_isOver_31 : Wp L d k_M_isOver 31 [l0, l1, l2] [] σ Q ↔ Wp L d k_M_isOver 32 [l0, l1, l2] [vI 0] σ Q := wp_push rfl
theorem r_M_isOver_32 (h : s0 = 0 ∨ s0 = 1) : Wp L d k_M_isOver 32 [l0, l1, l2] [vI s0] σ Q ↔ Q (some (vI s0)) σ := wp_zret rfl h
theorem r_M_isOver_2 (h : 0 ≤ s1 ∧ s1 ≤ 40) : Wp L (d + 4) k_M_isOver 2 [l0, l1, l2] [vI s1, vR 293] σ Q ↔ Wp L (d + 4) k_M_isOver 5 [l0, l1, l2] [vI (gb (σ 294 (120 + 12 * s1.toNat + 8) = 1))] σ Q := wp_callR (d := d + 3) (as := [vR 293, vI s1]) (rest := []) rfl rfl rfl rfl rfl rfl rfl (grecv_k (by rw [gK_293]) rfl) (sp_M_stands h)
theorem r_M_isOver_11 (hw : WB (σ 294)) (h : 0 ≤ s1 ∧ s1 < σ 294 1) (h2 : 0 ≤ s2 ∧ s2 ≤ 99) : Wp L (d + 4) k_M_isOver 11 [l0, l1, l2] [vI s2, vI s1, vR 293] σ Q ↔ Wp L (d + 4) k_M_isOver 14 [l0, l1, l2] [vL (brfo (σ 294) s2 s1.toNat)] σ Q := wp_callR (d := d + 3) (as := [vR 293, vI s1, vI s2]) (rest := []) rfl rfl rfl rfl rfl rfl rfl (grecv_k (by rw [gK_293]) rfl) (sp_M_forceOn hw h h2)
theorem r_M_isOver_20 (hw : WB (σ 294)) (h : 0 ≤ s2 ∧ s2 < σ 294 1) : Wp L (d + 4) k_M_isOver 20 [l0, l1, l2] [vI s2, vR 293, vL s0] σ Q ↔ Wp L (d + 4) k_M_isOver 23 [l0, l1, l2] [vL (brbd (σ 294) s2.toNat), vL s0] σ Q := wp_callR (d := d + 3) (as := [vR 293, vI s2]) (rest := [vL s0]) rfl rfl rfl rfl rfl rfl rfl (grecv_k (by rw [gK_293]) rfl) (sp_M_boundOf hw h)
theorem sp_M_isOver (hw : WB (σ 294)) (h : 0 ≤ a1 ∧ a1 < σ 294 1) (h2 : 0 ≤ a2 ∧ a2 ≤ 99) : Run L (d + 4) 226 [vR 293, vI a1, vI a2] σ (some (vI (gb (brov (σ 294) a2 a1.toNat)))) σ := by
  refine Run_of (C' := k_M_isOver) rfl ?_
  show Wp L (d + 4) k_M_isOver 0 [vR 293, vI a1, vI a2] [] σ _
  obtain ⟨K293, Q293, K294, N294⟩ := litM
  have w1 := hw.1
  have w2 := hw.2.1
  have w := WBp hw (p := a1.toNat) (by omega)

  have b1 := brfo_bd hw h2 a1.toNat (by omega)
  by_cases e : σ 294 (120 + 12 * a1.toNat + 8) = 1
  · by_cases e2 : brbd (σ 294) a1.toNat < brfo (σ 294) a2 a1.toNat * 10000
    · rw [gb_t ⟨e, e2⟩]
      simp (disch := first | assumption | exact gb_01 _ | omega) only [r_M_isOver_0, r_M_isOver_1, r_M_isOver_2, r_M_isOver_5, r_M_isOver_8, r_M_isOver_9, r_M_isOver_10, r_M_isOver_11, r_M_isOver_14, r_M_isOver_17, r_M_isOver_18, r_M_isOver_19, r_M_isOver_20, r_M_isOver_23, r_M_isOver_24, r_M_isOver_27, r_M_isOver_28, r_M_isOver_31, r_M_isOver_32, Q293, w64i, w32_gb, w32i, tn_add, tn_mul, Int.toNat_natCast, Int.toNat_zero, Int.reduceLE, Int.reduceLT, Int.reduceEq, Int.reduceNe, gb_T, gb_F, Int.reduceToNat, eq_self, true_or, or_true, and_true, true_and, and_self, ↓ite_gb0, ↓ite_gbn, ↓if_pos, ↓if_neg, if_true, if_false, not_true_eq_false, not_false_eq_true, gb_ne0, gb_eq0, ↓ite_lcmp]
    · rw [gb_f (fun x => e2 x.2)]
      simp (disch := first | assumption | exact gb_01 _ | omega) only [r_M_isOver_0, r_M_isOver_1, r_M_isOver_2, r_M_isOver_5, r_M_isOver_8, r_M_isOver_9, r_M_isOver_10, r_M_isOver_11, r_M_isOver_14, r_M_isOver_17, r_M_isOver_18, r_M_isOver_19, r_M_isOver_20, r_M_isOver_23, r_M_isOver_24, r_M_isOver_27, r_M_isOver_28, r_M_isOver_31, r_M_isOver_32, Q293, w64i, w32_gb, w32i, tn_add, tn_mul, Int.toNat_natCast, Int.toNat_zero, Int.reduceLE, Int.reduceLT, Int.reduceEq, Int.reduceNe, gb_T, gb_F, Int.reduceToNat, eq_self, true_or, or_true, and_true, true_and, and_self, ↓ite_gb0, ↓ite_gbn, ↓if_pos, ↓if_neg, if_true, if_false, not_true_eq_false, not_false_eq_true, gb_ne0, gb_eq0, ↓ite_lcmp]
  · rw [gb_f (fun x => e x.1)]
    simp (disch := first | assumption | exact gb_01 _ | omega) only [r_M_isOver_0, r_M_isOver_1, r_M_isOver_2, r_M_isOver_5, r_M_isOver_8, r_M_isOver_9, r_M_isOver_10, r_M_isOver_11, r_M_isOver_14, r_M_isOver_17, r_M_isOver_18, r_M_isOver_19, r_M_isOver_20, r_M_isOver_23, r_M_isOver_24, r_M_isOver_27, r_M_isOver_28, r_M_isOver_31, r_M_isOver_32, Q293, w64i, w32_gb, w32i, tn_add, tn_mul, Int.toNat_natCast, Int.toNat_zero, Int.reduceLE, Int.reduceLT, Int.reduceEq, Int.reduceNe, gb_T, gb_F, Int.reduceToNat, eq_self, true_or, or_true, and_true, true_and, and_self, ↓ite_gb0, ↓ite_gbn, ↓if_pos, ↓if_neg, if_true, if_false, not_true_eq_false, not_false_eq_true, gb_ne0, gb_eq0, ↓ite_lcmp]
theorem r_M_goesFirst_0 : Wp L d k_M_goesFirst 0 [l0, l1, l2, l3] [] σ Q ↔ Wp L d k_M_goesFirst 1 [l0, l1, l2, l3] [vI (-1)] σ Q := wp_push rfl
theorem r_M_goesFirst_1 : Wp L d k_M_goesFirst 1 [l0, vI a1, l2, l3] [vI s0] σ Q ↔ Wp L d k_M_goesFirst 2 [l0, vI a1, vI s0, l3] [] σ Q := wp_istore (i := 2) (ls := [l0, vI a1, l2, l3]) rfl rfl
theorem r_M_goesFirst_2 : Wp L d k_M_goesFirst 2 [l0, l1, l2, l3] [] σ Q ↔ Wp L d k_M_goesFirst 3 [l0, l1, l2, l3] [vI 0] σ Q := wp_push rfl
theorem r_M_goesFirst_3 : Wp L d k_M_goesFirst 3 [l0, l1, vI a2, l3] [vI s0] σ Q ↔ Wp L d k_M_goesFirst 4 [l0, l1, vI a2, vI s0] [] σ Q := wp_istore (i := 3) (ls := [l0, l1, vI a2, l3]) rfl rfl
theorem r_M_goesFirst_4 : Wp L d k_M_goesFirst 4 [l0, l1, l2, vI a3] [] σ Q ↔ Wp L d k_M_goesFirst 5 [l0, l1, l2, vI a3] [vI a3] σ Q := wp_iload rfl rfl
theorem r_M_goesFirst_5 : Wp L d k_M_goesFirst 5 [vR b0, l1, l2, l3] [vI s0] σ Q ↔ Wp L d k_M_goesFirst 6 [vR b0, l1, l2, l3] [vR b0, vI s0] σ Q := wp_aload rfl rfl
theorem r_M_goesFirst_6 (h : gK c1 = 12) : Wp L d k_M_goesFirst 6 [l0, l1, l2, l3] [vR c1, vI s0] σ Q ↔ Wp L d k_M_goesFirst 9 [l0, l1, l2, l3] [vR (gq c1 0), vI s0] σ Q := wp_getR (c := 3200) rfl rfl rfl rfl rfl h
theorem r_M_goesFirst_9 : Wp L d k_M_goesFirst 9 [l0, l1, l2, l3] [vR c1, vI s0] σ Q ↔ Wp L d k_M_goesFirst 10 [l0, l1, l2, l3] [vI 1, vR c1, vI s0] σ Q := wp_push rfl
theorem r_M_goesFirst_10 (h : gK c1 = 100) (hx : 0 ≤ s2 ∧ s2 < gN c1) : Wp L d k_M_goesFirst 10 [l0, l1, l2, l3] [vI s2, vR c1, vI s0] σ Q ↔ Wp L d k_M_goesFirst 11 [l0, l1, l2, l3] [vI (σ c1 s2.toNat), vI s0] σ Q := wp_iald rfl h hx
theorem r_M_goesFirst_11 : Wp L d k_M_goesFirst 11 [l0, l1, l2, l3] [vI s1, vI s0] σ Q ↔ (if s1 ≤ s0 then Wp L d k_M_goesFirst 63 [l0, l1, l2, l3] [] σ Q else Wp L d k_M_goesFirst 14 [l0, l1, l2, l3] [] σ Q) := wp_cmp_ge rfl
theorem r_M_goesFirst_14 : Wp L d k_M_goesFirst 14 [vR b0, l1, l2, l3] [] σ Q ↔ Wp L d k_M_goesFirst 15 [vR b0, l1, l2, l3] [vR b0] σ Q := wp_aload rfl rfl
theorem r_M_goesFirst_15 : Wp L d k_M_goesFirst 15 [l0, l1, l2, vI a3] [vR c0] σ Q ↔ Wp L d k_M_goesFirst 16 [l0, l1, l2, vI a3] [vI a3, vR c0] σ Q := wp_iload rfl rfl
theorem r_M_goesFirst_16 : Wp L d k_M_goesFirst 16 [l0, vI a1, l2, l3] [vI s1, vR c0] σ Q ↔ Wp L d k_M_goesFirst 17 [l0, vI a1, l2, l3] [vI a1, vI s1, vR c0] σ Q := wp_iload rfl rfl
theorem r_M_goesFirst_20 : Wp L d k_M_goesFirst 20 [l0, l1, l2, l3] [vI s0] σ Q ↔ (if s0 = 0 then Wp L d k_M_goesFirst 57 [l0, l1, l2, l3] [] σ Q else Wp L d k_M_goesFirst 23 [l0, l1, l2, l3] [] σ Q) := wp_if_eq rfl
theorem r_M_goesFirst_23 : Wp L d k_M_goesFirst 23 [l0, l1, vI a2, l3] [] σ Q ↔ Wp L d k_M_goesFirst 24 [l0, l1, vI a2, l3] [vI a2] σ Q := wp_iload rfl rfl
theorem r_M_goesFirst_24 : Wp L d k_M_goesFirst 24 [l0, l1, l2, l3] [vI s0] σ Q ↔ (if s0 < 0 then Wp L d k_M_goesFirst 55 [l0, l1, l2, l3] [] σ Q else Wp L d k_M_goesFirst 27 [l0, l1, l2, l3] [] σ Q) := wp_if_lt rfl
theorem r_M_goesFirst_27 : Wp L d k_M_goesFirst 27 [vR b0, l1, l2, l3] [] σ Q ↔ Wp L d k_M_goesFirst 28 [vR b0, l1, l2, l3] [vR b0] σ Q := wp_aload rfl rfl
theorem r_M_goesFirst_28 : Wp L d k_M_goesFirst 28 [l0, l1, l2, vI a3] [vR c0] σ Q ↔ Wp L d k_M_goesFirst 29 [l0, l1, l2, vI a3] [vI a3, vR c0] σ Q := wp_iload rfl rfl
theorem r_M_goesFirst_29 : Wp L d k_M_goesFirst 29 [l0, vI a1, l2, l3] [vI s1, vR c0] σ Q ↔ Wp L d k_M_goesFirst 30 [l0, vI a1, l2, l3] [vI a1, vI s1, vR c0] σ Q := wp_iload rfl rfl
theorem r_M_goesFirst_33 : Wp L d k_M_goesFirst 33 [vR b0, l1, l2, l3] [vL s0] σ Q ↔ Wp L d k_M_goesFirst 34 [vR b0, l1, l2, l3] [vR b0, vL s0] σ Q := wp_aload rfl rfl
theorem r_M_goesFirst_34 : Wp L d k_M_goesFirst 34 [l0, l1, vI a2, l3] [vR c1, vL s0] σ Q ↔ Wp L d k_M_goesFirst 35 [l0, l1, vI a2, l3] [vI a2, vR c1, vL s0] σ Q := wp_iload rfl rfl
theorem r_M_goesFirst_38 : Wp L d k_M_goesFirst 38 [l0, l1, l2, l3] [vL s1, vL s0] σ Q ↔ Wp L d k_M_goesFirst 39 [l0, l1, l2, l3] [vL (w64 (s0 * s1))] σ Q := wp_lmul rfl
theorem r_M_goesFirst_39 : Wp L d k_M_goesFirst 39 [vR b0, l1, l2, l3] [vL s0] σ Q ↔ Wp L d k_M_goesFirst 40 [vR b0, l1, l2, l3] [vR b0, vL s0] σ Q := wp_aload rfl rfl
theorem r_M_goesFirst_40 : Wp L d k_M_goesFirst 40 [l0, l1, vI a2, l3] [vR c1, vL s0] σ Q ↔ Wp L d k_M_goesFirst 41 [l0, l1, vI a2, l3] [vI a2, vR c1, vL s0] σ Q := wp_iload rfl rfl
theorem r_M_goesFirst_41 : Wp L d k_M_goesFirst 41 [l0, vI a1, l2, l3] [vI s2, vR c1, vL s0] σ Q ↔ Wp L d k_M_goesFirst 42 [l0, vI a1, l2, l3] [vI a1, vI s2, vR c1, vL s0] σ Q := wp_iload rfl rfl
theorem r_M_goesFirst_45 : Wp L d k_M_goesFirst 45 [vR b0, l1, l2, l3] [vL s1, vL s0] σ Q ↔ Wp L d k_M_goesFirst 46 [vR b0, l1, l2, l3] [vR b0, vL s1, vL s0] σ Q := wp_aload rfl rfl
theorem r_M_goesFirst_46 : Wp L d k_M_goesFirst 46 [l0, l1, l2, vI a3] [vR c2, vL s1, vL s0] σ Q ↔ Wp L d k_M_goesFirst 47 [l0, l1, l2, vI a3] [vI a3, vR c2, vL s1, vL s0] σ Q := wp_iload rfl rfl
theorem r_M_goesFirst_50 : Wp L d k_M_goesFirst 50 [l0, l1, l2, l3] [vL s2, vL s1, vL s0] σ Q ↔ Wp L d k_M_goesFirst 51 [l0, l1, l2, l3] [vL (w64 (s1 * s2)), vL s0] σ Q := wp_lmul rfl
theorem r_M_goesFirst_51 : Wp L d k_M_goesFirst 51 [l0, l1, l2, l3] [vL s1, vL s0] σ Q ↔ Wp L d k_M_goesFirst 52 [l0, l1, l2, l3] [vI (glcmp s0 s1)] σ Q := wp_lcmp rfl
theorem r_M_goesFirst_52 : Wp L d k_M_goesFirst 52 [l0, l1, l2, l3] [vI s0] σ Q ↔ (if s0 ≤ 0 then Wp L d k_M_goesFirst 57 [l0, l1, l2, l3] [] σ Q else Wp L d k_M_goesFirst 55 [l0, l1, l2, l3] [] σ Q) := wp_if_le rfl
theorem r_M_goesFirst_55 : Wp L d k_M_goesFirst 55 [l0, l1, l2, vI a3] [] σ Q ↔ Wp L d k_M_goesFirst 56 [l0, l1, l2, vI a3] [vI a3] σ Q := wp_iload rfl rfl
theorem r_M_goesFirst_56 : Wp L d k_M_goesFirst 56 [l0, vI a1, l2, l3] [vI s0] σ Q ↔ Wp L d k_M_goesFirst 57 [l0, vI a1, vI s0, l3] [] σ Q := wp_istore (i := 2) (ls := [l0, vI a1, l2, l3]) rfl rfl
theorem r_M_goesFirst_57 : Wp L d k_M_goesFirst 57 [l0, l1, vI a2, vI a3] [] σ Q ↔ Wp L d k_M_goesFirst 60 [l0, l1, vI a2, vI (w32 (a3 + 1))] [] σ Q := wp_iinc (i := 3) (ls := [l0, l1, vI a2, vI a3]) rfl rfl
theorem r_M_goesFirst_60 : Wp L d k_M_goesFirst 60 [l0, l1, l2, l3] [] σ Q ↔ Wp L d k_M_goesFirst 4 [l0, l1, l2, l3] [] σ Q := wp_goto rfl
theorem r_M_goesFirst_63 : Wp L d k_M_goesFirst 63 [l0, l1, vI a2, l3] [] σ Q ↔ Wp L d k_M_goesFirst 64 [l0, l1, vI a2, l3] [vI a2] σ Q := wp_iload rfl rfl
theorem r_M_goesFirst_64 : Wp L d k_M_goesFirst 64 [l0, l1, l2, l3] [vI s0] σ Q ↔ Q (some (vI s0)) σ := wp_iret rfl
theorem r_M_goesFirst_17 (hw : WB (σ 294)) (h : 0 ≤ s1 ∧ s1 < σ 294 1) (h2 : 0 ≤ s2 ∧ s2 ≤ 99) : Wp L (d + 5) k_M_goesFirst 17 [l0, l1, l2, l3] [vI s2, vI s1, vR 293] σ Q ↔ Wp L (d + 5) k_M_goesFirst 20 [l0, l1, l2, l3] [vI (gb (brov (σ 294) s2 s1.toNat))] σ Q := wp_callR (d := d + 4) (as := [vR 293, vI s1, vI s2]) (rest := []) rfl rfl rfl rfl rfl rfl rfl (grecv_k (by rw [gK_293]) rfl) (sp_M_isOver hw h h2)
theorem r_M_goesFirst_30 (hw : WB (σ 294)) (h : 0 ≤ s1 ∧ s1 < σ 294 1) (h2 : 0 ≤ s2 ∧ s2 ≤ 99) : Wp L (d + 5) k_M_goesFirst 30 [l0, l1, l2, l3] [vI s2, vI s1, vR 293] σ Q ↔ Wp L (d + 5) k_M_goesFirst 33 [l0, l1, l2, l3] [vL (brfo (σ 294) s2 s1.toNat)] σ Q := wp_callR (d := d + 4) (as := [vR 293, vI s1, vI s2]) (rest := []) rfl rfl rfl rfl rfl rfl rfl (grecv_k (by rw [gK_293]) rfl) (sp_M_forceOn hw h h2)
theorem r_M_goesFirst_35 (hw : WB (σ 294)) (h : 0 ≤ s2 ∧ s2 < σ 294 1) : Wp L (d + 5) k_M_goesFirst 35 [l0, l1, l2, l3] [vI s2, vR 293, vL s0] σ Q ↔ Wp L (d + 5) k_M_goesFirst 38 [l0, l1, l2, l3] [vL (brbd (σ 294) s2.toNat), vL s0] σ Q := wp_callR (d := d + 4) (as := [vR 293, vI s2]) (rest := [vL s0]) rfl rfl rfl rfl rfl rfl rfl (grecv_k (by rw [gK_293]) rfl) (sp_M_boundOf hw h)
theorem r_M_goesFirst_42 (hw : WB (σ 294)) (h : 0 ≤ s2 ∧ s2 < σ 294 1) (h2 : 0 ≤ s3 ∧ s3 ≤ 99) : Wp L (d + 5) k_M_goesFirst 42 [l0, l1, l2, l3] [vI s3, vI s2, vR 293, vL s0] σ Q ↔ Wp L (d + 5) k_M_goesFirst 45 [l0, l1, l2, l3] [vL (brfo (σ 294) s3 s2.toNat), vL s0] σ Q := wp_callR (d := d + 4) (as := [vR 293, vI s2, vI s3]) (rest := [vL s0]) rfl rfl rfl rfl rfl rfl rfl (grecv_k (by rw [gK_293]) rfl) (sp_M_forceOn hw h h2)
theorem r_M_goesFirst_47 (hw : WB (σ 294)) (h : 0 ≤ s3 ∧ s3 < σ 294 1) : Wp L (d + 5) k_M_goesFirst 47 [l0, l1, l2, l3] [vI s3, vR 293, vL s1, vL s0] σ Q ↔ Wp L (d + 5) k_M_goesFirst 50 [l0, l1, l2, l3] [vL (brbd (σ 294) s3.toNat), vL s1, vL s0] σ Q := wp_callR (d := d + 4) (as := [vR 293, vI s3]) (rest := [vL s1, vL s0]) rfl rfl rfl rfl rfl rfl rfl (grecv_k (by rw [gK_293]) rfl) (sp_M_boundOf hw h)
theorem sp_M_goesFirst (hw : WB (σ 294)) (h1 : 0 ≤ a1 ∧ a1 ≤ 99) : Run L (d + 5) 225 [vR 293, vI a1] σ (some (vI (brfi (σ 294) a1 (σ 294 1).toNat))) σ := by
  refine Run_of (C' := k_M_goesFirst) rfl ?_
  show Wp L (d + 5) k_M_goesFirst 0 [vR 293, vI a1, vU, vU] [] σ _
  obtain ⟨K293, Q293, K294, N294⟩ := litM
  have w1 := hw.1
  have w2 := hw.2.1
  simp (disch := first | assumption | exact gb_01 _ | omega) only [r_M_goesFirst_0, r_M_goesFirst_1, r_M_goesFirst_2, r_M_goesFirst_3, r_M_goesFirst_5, r_M_goesFirst_6, r_M_goesFirst_9, r_M_goesFirst_10, r_M_goesFirst_11, r_M_goesFirst_14, r_M_goesFirst_15, r_M_goesFirst_16, r_M_goesFirst_17, r_M_goesFirst_20, r_M_goesFirst_23, r_M_goesFirst_24, r_M_goesFirst_27, r_M_goesFirst_28, r_M_goesFirst_29, r_M_goesFirst_30, r_M_goesFirst_33, r_M_goesFirst_34, r_M_goesFirst_35, r_M_goesFirst_38, r_M_goesFirst_39, r_M_goesFirst_40, r_M_goesFirst_41, r_M_goesFirst_42, r_M_goesFirst_45, r_M_goesFirst_46, r_M_goesFirst_47, r_M_goesFirst_50, r_M_goesFirst_51, r_M_goesFirst_52, r_M_goesFirst_55, r_M_goesFirst_56, r_M_goesFirst_57, r_M_goesFirst_60, r_M_goesFirst_63, r_M_goesFirst_64, Q293, w32_gb, w32i, tn_add, tn_mul, Int.toNat_natCast, Int.toNat_zero, Int.reduceLE, Int.reduceLT, Int.reduceEq, Int.reduceNe, gb_T, gb_F, Int.reduceToNat, eq_self, true_or, or_true, and_true, true_and, and_self, ↓ite_gb0, ↓ite_gbn, ↓if_pos, ↓if_neg, if_true, if_false, not_true_eq_false, not_false_eq_true, gb_ne0, gb_eq0]
  refine wl (σ 294 1).toNat (fun k => [vR 293, vI a1, vI (brfi (σ 294) a1 k), vI (k : Int)]) (fun _ => σ) rfl rfl (fun k hk hq => ?_) ?_
  · have x := brfi_bd (σ 294) a1 k
    have n1 := brfo_bd hw h1 k (by omega)
    have n2 := brbd_bd hw k (by omega)
    rw [r_M_goesFirst_4]
    by_cases e1 : brov (σ 294) a1 k
    · by_cases e2 : brfi (σ 294) a1 k < 0
      · simp (disch := first | assumption | exact gb_01 _ | omega) only [r_M_goesFirst_0, r_M_goesFirst_1, r_M_goesFirst_2, r_M_goesFirst_3, r_M_goesFirst_5, r_M_goesFirst_6, r_M_goesFirst_9, r_M_goesFirst_10, r_M_goesFirst_11, r_M_goesFirst_14, r_M_goesFirst_15, r_M_goesFirst_16, r_M_goesFirst_17, r_M_goesFirst_20, r_M_goesFirst_23, r_M_goesFirst_24, r_M_goesFirst_27, r_M_goesFirst_28, r_M_goesFirst_29, r_M_goesFirst_30, r_M_goesFirst_33, r_M_goesFirst_34, r_M_goesFirst_35, r_M_goesFirst_38, r_M_goesFirst_39, r_M_goesFirst_40, r_M_goesFirst_41, r_M_goesFirst_42, r_M_goesFirst_45, r_M_goesFirst_46, r_M_goesFirst_47, r_M_goesFirst_50, r_M_goesFirst_51, r_M_goesFirst_52, r_M_goesFirst_55, r_M_goesFirst_56, r_M_goesFirst_57, r_M_goesFirst_60, r_M_goesFirst_63, r_M_goesFirst_64, Q293, w64i, e1, w32_gb, w32i, tn_add, tn_mul, Int.toNat_natCast, Int.toNat_zero, Int.reduceLE, Int.reduceLT, Int.reduceEq, Int.reduceNe, gb_T, gb_F, Int.reduceToNat, eq_self, true_or, or_true, and_true, true_and, and_self, ↓ite_gb0, ↓ite_gbn, ↓if_pos, ↓if_neg, if_true, if_false, not_true_eq_false, not_false_eq_true, gb_ne0, gb_eq0, ↓ite_lcmp]
        refine hq _ _ ?_ rfl
        simp only [List.cons.injEq, vI_inj, vR_inj, and_true, true_and]
        refine ⟨?_, by omega⟩
        exact (if_pos ⟨e1, Or.inl e2⟩).symm
      · have n1' := brfo_bd hw h1 (brfi (σ 294) a1 k).toNat (by omega)
        have n2' := brbd_bd hw (brfi (σ 294) a1 k).toNat (by omega)
        have n3 := mul_bd n1 n2'
        have n4 := mul_bd n1' n2
        by_cases e3 : brfo (σ 294) a1 (brfi (σ 294) a1 k).toNat * brbd (σ 294) k < brfo (σ 294) a1 k * brbd (σ 294) (brfi (σ 294) a1 k).toNat
        · simp (disch := first | assumption | exact gb_01 _ | omega) only [r_M_goesFirst_0, r_M_goesFirst_1, r_M_goesFirst_2, r_M_goesFirst_3, r_M_goesFirst_5, r_M_goesFirst_6, r_M_goesFirst_9, r_M_goesFirst_10, r_M_goesFirst_11, r_M_goesFirst_14, r_M_goesFirst_15, r_M_goesFirst_16, r_M_goesFirst_17, r_M_goesFirst_20, r_M_goesFirst_23, r_M_goesFirst_24, r_M_goesFirst_27, r_M_goesFirst_28, r_M_goesFirst_29, r_M_goesFirst_30, r_M_goesFirst_33, r_M_goesFirst_34, r_M_goesFirst_35, r_M_goesFirst_38, r_M_goesFirst_39, r_M_goesFirst_40, r_M_goesFirst_41, r_M_goesFirst_42, r_M_goesFirst_45, r_M_goesFirst_46, r_M_goesFirst_47, r_M_goesFirst_50, r_M_goesFirst_51, r_M_goesFirst_52, r_M_goesFirst_55, r_M_goesFirst_56, r_M_goesFirst_57, r_M_goesFirst_60, r_M_goesFirst_63, r_M_goesFirst_64, Q293, w64i, e1, w32_gb, w32i, tn_add, tn_mul, Int.toNat_natCast, Int.toNat_zero, Int.reduceLE, Int.reduceLT, Int.reduceEq, Int.reduceNe, gb_T, gb_F, Int.reduceToNat, eq_self, true_or, or_true, and_true, true_and, and_self, ↓ite_gb0, ↓ite_gbn, ↓if_pos, ↓if_neg, if_true, if_false, not_true_eq_false, not_false_eq_true, gb_ne0, gb_eq0, ↓ite_lcmp]
          refine hq _ _ ?_ rfl
          simp only [List.cons.injEq, vI_inj, vR_inj, and_true, true_and]
          refine ⟨?_, by omega⟩
          exact (if_pos ⟨e1, Or.inr e3⟩).symm
        · simp (disch := first | assumption | exact gb_01 _ | omega) only [r_M_goesFirst_0, r_M_goesFirst_1, r_M_goesFirst_2, r_M_goesFirst_3, r_M_goesFirst_5, r_M_goesFirst_6, r_M_goesFirst_9, r_M_goesFirst_10, r_M_goesFirst_11, r_M_goesFirst_14, r_M_goesFirst_15, r_M_goesFirst_16, r_M_goesFirst_17, r_M_goesFirst_20, r_M_goesFirst_23, r_M_goesFirst_24, r_M_goesFirst_27, r_M_goesFirst_28, r_M_goesFirst_29, r_M_goesFirst_30, r_M_goesFirst_33, r_M_goesFirst_34, r_M_goesFirst_35, r_M_goesFirst_38, r_M_goesFirst_39, r_M_goesFirst_40, r_M_goesFirst_41, r_M_goesFirst_42, r_M_goesFirst_45, r_M_goesFirst_46, r_M_goesFirst_47, r_M_goesFirst_50, r_M_goesFirst_51, r_M_goesFirst_52, r_M_goesFirst_55, r_M_goesFirst_56, r_M_goesFirst_57, r_M_goesFirst_60, r_M_goesFirst_63, r_M_goesFirst_64, Q293, w64i, e1, w32_gb, w32i, tn_add, tn_mul, Int.toNat_natCast, Int.toNat_zero, Int.reduceLE, Int.reduceLT, Int.reduceEq, Int.reduceNe, gb_T, gb_F, Int.reduceToNat, eq_self, true_or, or_true, and_true, true_and, and_self, ↓ite_gb0, ↓ite_gbn, ↓if_pos, ↓if_neg, if_true, if_false, not_true_eq_false, not_false_eq_true, gb_ne0, gb_eq0, ↓ite_lcmp]
          refine hq _ _ ?_ rfl
          simp only [List.cons.injEq, vI_inj, vR_inj, and_true, true_and]
          refine ⟨?_, by omega⟩
          exact (if_neg (fun x => by rcases x.2 with y | y; exact e2 y; exact e3 y)).symm
    · simp (disch := first | assumption | exact gb_01 _ | omega) only [r_M_goesFirst_0, r_M_goesFirst_1, r_M_goesFirst_2, r_M_goesFirst_3, r_M_goesFirst_5, r_M_goesFirst_6, r_M_goesFirst_9, r_M_goesFirst_10, r_M_goesFirst_11, r_M_goesFirst_14, r_M_goesFirst_15, r_M_goesFirst_16, r_M_goesFirst_17, r_M_goesFirst_20, r_M_goesFirst_23, r_M_goesFirst_24, r_M_goesFirst_27, r_M_goesFirst_28, r_M_goesFirst_29, r_M_goesFirst_30, r_M_goesFirst_33, r_M_goesFirst_34, r_M_goesFirst_35, r_M_goesFirst_38, r_M_goesFirst_39, r_M_goesFirst_40, r_M_goesFirst_41, r_M_goesFirst_42, r_M_goesFirst_45, r_M_goesFirst_46, r_M_goesFirst_47, r_M_goesFirst_50, r_M_goesFirst_51, r_M_goesFirst_52, r_M_goesFirst_55, r_M_goesFirst_56, r_M_goesFirst_57, r_M_goesFirst_60, r_M_goesFirst_63, r_M_goesFirst_64, Q293, w64i, e1, w32_gb, w32i, tn_add, tn_mul, Int.toNat_natCast, Int.toNat_zero, Int.reduceLE, Int.reduceLT, Int.reduceEq, Int.reduceNe, gb_T, gb_F, Int.reduceToNat, eq_self, true_or, or_true, and_true, true_and, and_self, ↓ite_gb0, ↓ite_gbn, ↓if_pos, ↓if_neg, if_true, if_false, not_true_eq_false, not_false_eq_true, gb_ne0, gb_eq0, ↓ite_lcmp]
      refine hq _ _ ?_ rfl
      simp only [List.cons.injEq, vI_inj, vR_inj, and_true, true_and]
      refine ⟨?_, by omega⟩
      exact (if_neg (fun x => e1 x.1)).symm
  · rw [r_M_goesFirst_4]
    simp (disch := first | assumption | exact gb_01 _ | omega) only [r_M_goesFirst_0, r_M_goesFirst_1, r_M_goesFirst_2, r_M_goesFirst_3, r_M_goesFirst_5, r_M_goesFirst_6, r_M_goesFirst_9, r_M_goesFirst_10, r_M_goesFirst_11, r_M_goesFirst_14, r_M_goesFirst_15, r_M_goesFirst_16, r_M_goesFirst_17, r_M_goesFirst_20, r_M_goesFirst_23, r_M_goesFirst_24, r_M_goesFirst_27, r_M_goesFirst_28, r_M_goesFirst_29, r_M_goesFirst_30, r_M_goesFirst_33, r_M_goesFirst_34, r_M_goesFirst_35, r_M_goesFirst_38, r_M_goesFirst_39, r_M_goesFirst_40, r_M_goesFirst_41, r_M_goesFirst_42, r_M_goesFirst_45, r_M_goesFirst_46, r_M_goesFirst_47, r_M_goesFirst_50, r_M_goesFirst_51, r_M_goesFirst_52, r_M_goesFirst_55, r_M_goesFirst_56, r_M_goesFirst_57, r_M_goesFirst_60, r_M_goesFirst_63, r_M_goesFirst_64, Q293, w32_gb, w32i, tn_add, tn_mul, Int.toNat_natCast, Int.toNat_zero, Int.reduceLE, Int.reduceLT, Int.reduceEq, Int.reduceNe, gb_T, gb_F, Int.reduceToNat, eq_self, true_or, or_true, and_true, true_and, and_self, ↓ite_gb0, ↓ite_gbn, ↓if_pos, ↓if_neg, if_true, if_false, not_true_eq_false, not_false_eq_true, gb_ne0, gb_eq0]
theorem r_X_first_0 : Wp L d k_X_first 0 [l0, vI a1] [] σ Q ↔ Wp L d k_X_first 1 [l0, vI a1] [vI a1] σ Q := wp_iload rfl rfl
theorem r_X_first_4 : Wp L d k_X_first 4 [l0, l1] [vI s0] σ Q ↔ (if s0 = 0 then Wp L d k_X_first 18 [l0, l1] [] σ Q else Wp L d k_X_first 7 [l0, l1] [] σ Q) := wp_if_eq rfl
theorem r_X_first_7 : Wp L d k_X_first 7 [vR b0, l1] [] σ Q ↔ Wp L d k_X_first 8 [vR b0, l1] [vR b0] σ Q := wp_aload rfl rfl
theorem r_X_first_8 (h : gK c0 = 0) : Wp L d k_X_first 8 [l0, l1] [vR c0] σ Q ↔ Wp L d k_X_first 11 [l0, l1] [vR (gq c0 1)] σ Q := wp_getR (c := 129) rfl rfl rfl rfl rfl h
theorem r_X_first_11 : Wp L d k_X_first 11 [l0, vI a1] [vR c0] σ Q ↔ Wp L d k_X_first 12 [l0, vI a1] [vI a1, vR c0] σ Q := wp_iload rfl rfl
theorem c_X_first_12 (hR : Run L d 101 [vR c0, vI s1] σ r σ1) (h : gK c0 = 1) : Wp L (d + 1) k_X_first 12 [l0, l1] [vI s1, vR c0] σ Q ↔ Wp L (d + 1) k_X_first 15 [l0, l1] (r.toList ++ []) σ1 Q := wp_callR (as := [vR c0, vI s1]) (rest := []) rfl rfl rfl rfl rfl rfl rfl (grecv_k (by rw [h]) rfl) hR
theorem r_X_first_15 : Wp L d k_X_first 15 [l0, l1] [vI s0] σ Q ↔ Wp L d k_X_first 20 [l0, l1] [vI s0] σ Q := wp_goto rfl
theorem r_X_first_18 : Wp L d k_X_first 18 [l0, l1] [] σ Q ↔ Wp L d k_X_first 20 [l0, l1] [vI (-1000000001)] σ Q := wp_push rfl
theorem r_X_first_20 : Wp L d k_X_first 20 [l0, l1] [vI s0] σ Q ↔ Q (some (vI s0)) σ := wp_iret rfl
theorem r_X_first_1 : Wp L (d + 3) k_X_first 1 [l0, l1] [vI s0] σ Q ↔ Wp L (d + 3) k_X_first 4 [l0, l1] [vI (gb (0 ≤ s0 ∧ s0 ≤ 99))] σ Q := wp_callR (d := d + 2) (as := [vI s0]) (rest := []) rfl rfl rfl rfl rfl rfl rfl rfl (sp_X_isGust)
theorem sp_X_first_b (h : ¬ (0 ≤ a1 ∧ a1 ≤ 99)) : Run L (d + 3) 33 [vR 27, vI a1] σ (some (vI (-1000000001))) σ := by
  refine Run_of (C' := k_X_first) rfl ?_
  show Wp L (d + 3) k_X_first 0 [vR 27, vI a1] [] σ _
  obtain ⟨K27, K28, K29, K78, K97, K99, K109, K123, K125, K279, K282⟩ := litX
  simp (disch := first | assumption | exact gb_01 _ | omega) only [r_X_first_0, r_X_first_1, r_X_first_4, r_X_first_7, r_X_first_8, r_X_first_11, r_X_first_15, r_X_first_18, r_X_first_20, gq_27_0, gq_27_1, gq_27_2, gq_27_3, gq_27_4, gq_27_5, gq_27_6, gq_28_0, gq_28_1, gq_28_2, gq_28_3, gq_28_4, gq_28_5, gq_28_6, w32_gb, w32i, tn_add, tn_mul, Int.toNat_natCast, Int.toNat_zero, Int.reduceLE, Int.reduceLT, Int.reduceEq, Int.reduceNe, gb_T, gb_F, Int.reduceToNat, eq_self, true_or, or_true, and_true, true_and, and_self, ↓ite_gb0, ↓ite_gbn, ↓if_pos, ↓if_neg, if_true, if_false, not_true_eq_false, not_false_eq_true, gb_ne0, gb_eq0]
theorem r_M_first_0 : Wp L d k_M_first 0 [l0, vI a1] [] σ Q ↔ Wp L d k_M_first 1 [l0, vI a1] [vI a1] σ Q := wp_iload rfl rfl
theorem r_M_first_4 : Wp L d k_M_first 4 [l0, l1] [vI s0] σ Q ↔ (if s0 = 0 then Wp L d k_M_first 18 [l0, l1] [] σ Q else Wp L d k_M_first 7 [l0, l1] [] σ Q) := wp_if_eq rfl
theorem r_M_first_7 : Wp L d k_M_first 7 [vR b0, l1] [] σ Q ↔ Wp L d k_M_first 8 [vR b0, l1] [vR b0] σ Q := wp_aload rfl rfl
theorem r_M_first_8 : Wp L d k_M_first 8 [l0, vI a1] [vR c0] σ Q ↔ Wp L d k_M_first 9 [l0, vI a1] [vI a1, vR c0] σ Q := wp_iload rfl rfl
theorem r_M_first_15 : Wp L d k_M_first 15 [l0, l1] [vI s0] σ Q ↔ Wp L d k_M_first 20 [l0, l1] [vI s0] σ Q := wp_goto rfl
theorem r_M_first_18 : Wp L d k_M_first 18 [l0, l1] [] σ Q ↔ Wp L d k_M_first 20 [l0, l1] [vI (-1000000001)] σ Q := wp_push rfl
theorem r_M_first_20 : Wp L d k_M_first 20 [l0, l1] [vI s0] σ Q ↔ Q (some (vI s0)) σ := wp_iret rfl
theorem r_M_first_1 : Wp L (d + 6) k_M_first 1 [l0, l1] [vI s0] σ Q ↔ Wp L (d + 6) k_M_first 4 [l0, l1] [vI (gb (0 ≤ s0 ∧ s0 ≤ 99))] σ Q := wp_callR (d := d + 5) (as := [vI s0]) (rest := []) rfl rfl rfl rfl rfl rfl rfl rfl (sp_M_isGust)
theorem r_M_first_9 (hw : WB (σ 294)) (h1 : 0 ≤ s1 ∧ s1 ≤ 99) : Wp L (d + 6) k_M_first 9 [l0, l1] [vI s1, vR 293] σ Q ↔ Wp L (d + 6) k_M_first 12 [l0, l1] [vI (brfi (σ 294) s1 (σ 294 1).toNat)] σ Q := wp_callR (d := d + 5) (as := [vR 293, vI s1]) (rest := []) rfl rfl rfl rfl rfl rfl rfl (grecv_k (by rw [gK_293]) rfl) (sp_M_goesFirst hw h1)
theorem r_M_first_12 : Wp L (d + 6) k_M_first 12 [l0, l1] [vI s0] σ Q ↔ Wp L (d + 6) k_M_first 15 [l0, l1] [vI (if s0 < 0 then -1000000005 else s0)] σ Q := wp_callR (d := d + 5) (as := [vI s0]) (rest := []) rfl rfl rfl rfl rfl rfl rfl rfl (sp_M_orNone)
theorem sp_M_first_b (h : ¬ (0 ≤ a1 ∧ a1 ≤ 99)) : Run L (d + 6) 224 [vR 293, vI a1] σ (some (vI (-1000000001))) σ := by
  refine Run_of (C' := k_M_first) rfl ?_
  show Wp L (d + 6) k_M_first 0 [vR 293, vI a1] [] σ _
  obtain ⟨K293, Q293, K294, N294⟩ := litM
  simp (disch := first | assumption | exact gb_01 _ | omega) only [r_M_first_0, r_M_first_1, r_M_first_4, r_M_first_7, r_M_first_8, r_M_first_9, r_M_first_12, r_M_first_15, r_M_first_18, r_M_first_20, Q293, w32_gb, w32i, tn_add, tn_mul, Int.toNat_natCast, Int.toNat_zero, Int.reduceLE, Int.reduceLT, Int.reduceEq, Int.reduceNe, gb_T, gb_F, Int.reduceToNat, eq_self, true_or, or_true, and_true, true_and, and_self, ↓ite_gb0, ↓ite_gbn, ↓if_pos, ↓if_neg, if_true, if_false, not_true_eq_false, not_false_eq_true, gb_ne0, gb_eq0]
theorem sp_M_first (hw : WB (σ 294)) (h : 0 ≤ a1 ∧ a1 ≤ 99) : Run L (d + 6) 224 [vR 293, vI a1] σ (some (vI (gnn (brfi (σ 294) a1 (σ 294 1).toNat)))) σ := by
  refine Run_of (C' := k_M_first) rfl ?_
  show Wp L (d + 6) k_M_first 0 [vR 293, vI a1] [] σ _
  obtain ⟨K293, Q293, K294, N294⟩ := litM
  simp (disch := first | assumption | exact gb_01 _ | omega) only [r_M_first_0, r_M_first_1, r_M_first_4, r_M_first_7, r_M_first_8, r_M_first_9, r_M_first_12, r_M_first_15, r_M_first_18, r_M_first_20, Q293, w32_gb, w32i, tn_add, tn_mul, Int.toNat_natCast, Int.toNat_zero, Int.reduceLE, Int.reduceLT, Int.reduceEq, Int.reduceNe, gb_T, gb_F, Int.reduceToNat, eq_self, true_or, or_true, and_true, true_and, and_self, ↓ite_gb0, ↓ite_gbn, ↓if_pos, ↓if_neg, if_true, if_false, not_true_eq_false, not_false_eq_true, gb_ne0, gb_eq0]
  rfl
theorem sp_X_first {f : Nat → Int} (hw : WB f) (hc : CB 29 f σ) (h : 0 ≤ a1 ∧ a1 ≤ 99) : ∃ σ', Run L (d + 3) 33 [vR 27, vI a1] σ (some (vI (gnn (brfi f a1 (f 1).toNat)))) σ' ∧ Agr σ σ' (ZSc 29) := by
  refine Run_ex (C' := k_X_first) rfl ?_
  show Wp L (d + 3) k_X_first 0 [vR 27, vI a1] [] σ _
  obtain ⟨K27, K28, K29, K78, K97, K99, K109, K123, K125, K279, K282⟩ := litX
  obtain ⟨τ, hR, -, hA⟩ := sp_B_worstOver (L := L) (d := d + 0) BR29 hw hc h
  simp (disch := first | assumption | exact gb_01 _ | omega) only [r_X_first_0, r_X_first_1, r_X_first_4, r_X_first_7, r_X_first_8, r_X_first_11, r_X_first_15, r_X_first_18, r_X_first_20, c_X_first_12 hR, Option.toList, List.singleton_append, List.cons_append, List.nil_append, List.append_nil, gq_27_0, gq_27_1, gq_27_2, gq_27_3, gq_27_4, gq_27_5, gq_27_6, gq_28_0, gq_28_1, gq_28_2, gq_28_3, gq_28_4, gq_28_5, gq_28_6, w32_gb, w32i, tn_add, tn_mul, Int.toNat_natCast, Int.toNat_zero, Int.reduceLE, Int.reduceLT, Int.reduceEq, Int.reduceNe, gb_T, gb_F, Int.reduceToNat, eq_self, true_or, or_true, and_true, true_and, and_self, ↓ite_gb0, ↓ite_gbn, ↓if_pos, ↓if_neg, if_true, if_false, not_true_eq_false, not_false_eq_true, gb_ne0, gb_eq0]
  exact hA
theorem op_first (a1 : Int) : Op 33 224 [vI a1] := by
  intro L d σ hI
  obtain ⟨hw, hc⟩ := iB hI
  have w1 := hw.1
  have w2 := hw.2.1
  have c1 := hc.1
  have c2 := hc.2.1
  have hp : w32 (σ 29 9 - 1) = σ 29 9 - 1 := w32i (by omega)
  have hm : w32 (σ 294 1 - 1) = σ 294 1 - 1 := w32i (by omega)
  
  by_cases h : 0 ≤ a1 ∧ a1 ≤ 99
  · obtain ⟨σ1, hR, hA⟩ := sp_X_first (L := L) (d := d + 997) (a1 := a1) hw hc h
    have e : σ1 294 = σ 294 := funext (fun j => hA 294 j (by unfold ZSc; omega))
    refine ⟨_, _, _, hR, Run_r (sp_M_first (by rw [e]; exact hw) h) (by rw [e]), Inv_free hI (Agr_mono hA (fun k j hk => by unfold ZSc at hk; unfold ZFr; omega))⟩
  · exact ⟨_, _, _, sp_X_first_b h, sp_M_first_b h, hI⟩
