/-! doubt, flawed, trust. -/
variable {L d : Nat} {σ σ1 : Nat → Nat → Int} {Q : Option gV → (Nat → Nat → Int) → Prop} {a0 a1 a2 a3 a4 a5 a6 a7 a8 a9 a10 a11 s0 s1 s2 s3 s4 s5 s6 s7 s8 s9 : Int} {l0 l1 l2 l3 l4 l5 l6 l7 l8 l9 l10 l11 t0 t1 t2 t3 t4 t5 t6 t7 t8 t9 : gV} {b0 b1 b2 b3 b4 b5 b6 b7 b8 b9 b10 b11 c0 c1 c2 c3 c4 c5 c6 c7 c8 c9 : Nat} {r : Option gV}
/-- a part like p, with a flaw, among the first n -/
def brlk (f : Nat → Int) (p : Nat) : Nat → Int
  | 0 => 0
  | k + 1 => if brlk f p k = 1 ∨ k ≠ p ∧ f (120 + 12 * k) ≠ 4 ∧ f (120 + 12 * k + 7) = f (120 + 12 * p + 7) ∧ f (120 + 12 * k + 6) = f (120 + 12 * p + 6) ∧ 0 < f (120 + 12 * k + 4) then 1 else 0
def brdt (f : Nat → Int) (p : Nat) : Int := if 0 < f (120 + 12 * p + 4) then 2 else brlk f p (f 1).toNat
theorem brlk_01 (f : Nat → Int) (p : Nat) : ∀ k, brlk f p k = 0 ∨ brlk f p k = 1
  | 0 => Or.inl rfl
  | k + 1 => by
    unfold brlk
    split
    · exact Or.inr rfl
    · exact Or.inl rfl
def brfl (f : Nat → Int) (m : Int) (n : Nat) : Int := gsm (fun k => gb (f (120 + 12 * k) ≠ 4 ∧ m ≤ brdt f k)) n
theorem r_Q_isLike_0 : Wp L d k_Q_isLike 0 [vR b0, l1] [] σ Q ↔ Wp L d k_Q_isLike 1 [vR b0, l1] [vR b0] σ Q := wp_aload rfl rfl
theorem r_Q_isLike_1 (h : gK c0 = 4) : Wp L d k_Q_isLike 1 [l0, l1] [vR c0] σ Q ↔ Wp L d k_Q_isLike 4 [l0, l1] [vI (σ c0 0)] σ Q := wp_getI (c := 1024) rfl rfl rfl rfl h
theorem r_Q_isLike_4 : Wp L d k_Q_isLike 4 [l0, l1] [vI s0] σ Q ↔ Wp L d k_Q_isLike 5 [l0, l1] [vI 4, vI s0] σ Q := wp_push rfl
theorem r_Q_isLike_5 : Wp L d k_Q_isLike 5 [l0, l1] [vI s1, vI s0] σ Q ↔ (if s0 = s1 then Wp L d k_Q_isLike 34 [l0, l1] [] σ Q else Wp L d k_Q_isLike 8 [l0, l1] [] σ Q) := wp_cmp_eq rfl
theorem r_Q_isLike_8 : Wp L d k_Q_isLike 8 [vR b0, l1] [] σ Q ↔ Wp L d k_Q_isLike 9 [vR b0, l1] [vR b0] σ Q := wp_aload rfl rfl
theorem r_Q_isLike_9 (h : gK c0 = 4) : Wp L d k_Q_isLike 9 [l0, l1] [vR c0] σ Q ↔ Wp L d k_Q_isLike 12 [l0, l1] [vI (σ c0 7)] σ Q := wp_getI (c := 1031) rfl rfl rfl rfl h
theorem r_Q_isLike_12 : Wp L d k_Q_isLike 12 [l0, vR b1] [vI s0] σ Q ↔ Wp L d k_Q_isLike 13 [l0, vR b1] [vR b1, vI s0] σ Q := wp_aload rfl rfl
theorem r_Q_isLike_13 (h : gK c1 = 4) : Wp L d k_Q_isLike 13 [l0, l1] [vR c1, vI s0] σ Q ↔ Wp L d k_Q_isLike 16 [l0, l1] [vI (σ c1 7), vI s0] σ Q := wp_getI (c := 1031) rfl rfl rfl rfl h
theorem r_Q_isLike_16 : Wp L d k_Q_isLike 16 [l0, l1] [vI s1, vI s0] σ Q ↔ (if s0 ≠ s1 then Wp L d k_Q_isLike 34 [l0, l1] [] σ Q else Wp L d k_Q_isLike 19 [l0, l1] [] σ Q) := wp_cmp_ne rfl
theorem r_Q_isLike_19 : Wp L d k_Q_isLike 19 [vR b0, l1] [] σ Q ↔ Wp L d k_Q_isLike 20 [vR b0, l1] [vR b0] σ Q := wp_aload rfl rfl
theorem r_Q_isLike_20 (h : gK c0 = 4) : Wp L d k_Q_isLike 20 [l0, l1] [vR c0] σ Q ↔ Wp L d k_Q_isLike 23 [l0, l1] [vI (σ c0 6)] σ Q := wp_getI (c := 1030) rfl rfl rfl rfl h
theorem r_Q_isLike_23 : Wp L d k_Q_isLike 23 [l0, vR b1] [vI s0] σ Q ↔ Wp L d k_Q_isLike 24 [l0, vR b1] [vR b1, vI s0] σ Q := wp_aload rfl rfl
theorem r_Q_isLike_24 (h : gK c1 = 4) : Wp L d k_Q_isLike 24 [l0, l1] [vR c1, vI s0] σ Q ↔ Wp L d k_Q_isLike 27 [l0, l1] [vI (σ c1 6), vI s0] σ Q := wp_getI (c := 1030) rfl rfl rfl rfl h
theorem r_Q_isLike_27 : Wp L d k_Q_isLike 27 [l0, l1] [vI s1, vI s0] σ Q ↔ (if s0 ≠ s1 then Wp L d k_Q_isLike 34 [l0, l1] [] σ Q else Wp L d k_Q_isLike 30 [l0, l1] [] σ Q) := wp_cmp_ne rfl
theorem r_Q_isLike_30 : Wp L d k_Q_isLike 30 [l0, l1] [] σ Q ↔ Wp L d k_Q_isLike 31 [l0, l1] [vI 1] σ Q := wp_push rfl
theorem r_Q_isLike_31 : Wp L d k_Q_isLike 31 [l0, l1] [vI s0] σ Q ↔ Wp L d k_Q_isLike 35 [l0, l1] [vI s0] σ Q := wp_goto rfl
theorem r_Q_isLike_34 : Wp L d k_Q_isLike 34 [l0, l1] [] σ Q ↔ Wp L d k_Q_isLike 35 [l0, l1] [vI 0] σ Q := wp_push rfl
theorem r_Q_isLike_35 (h : s0 = 0 ∨ s0 = 1) : Wp L d k_Q_isLike 35 [l0, l1] [vI s0] σ Q ↔ Q (some (vI s0)) σ := wp_zret rfl h
theorem sp_Q_isLike (hk : gK b0 = 4) (hk2 : gK b1 = 4) : Run L d 133 [vR b0, vR b1] σ (some (vI (gb (σ b0 0 ≠ 4 ∧ σ b0 7 = σ b1 7 ∧ σ b0 6 = σ b1 6)))) σ := by
  refine Run_of (C' := k_Q_isLike) rfl ?_
  show Wp L d k_Q_isLike 0 [vR b0, vR b1] [] σ _

  by_cases e1 : σ b0 0 = 4
  · rw [gb_f (by omega)]
    simp (disch := first | assumption | exact gb_01 _ | omega) only [r_Q_isLike_0, r_Q_isLike_1, r_Q_isLike_4, r_Q_isLike_5, r_Q_isLike_8, r_Q_isLike_9, r_Q_isLike_12, r_Q_isLike_13, r_Q_isLike_16, r_Q_isLike_19, r_Q_isLike_20, r_Q_isLike_23, r_Q_isLike_24, r_Q_isLike_27, r_Q_isLike_30, r_Q_isLike_31, r_Q_isLike_34, r_Q_isLike_35, w32_gb, w32i, tn_add, tn_mul, Int.toNat_natCast, Int.toNat_zero, Int.reduceLE, Int.reduceLT, Int.reduceEq, Int.reduceNe, gb_T, gb_F, Int.reduceToNat, eq_self, true_or, or_true, and_true, true_and, and_self, ↓ite_gb0, ↓ite_gbn, ↓if_pos, ↓if_neg, if_true, if_false, not_true_eq_false, not_false_eq_true, gb_ne0, gb_eq0]
  · by_cases e2 : σ b0 7 = σ b1 7
    · by_cases e3 : σ b0 6 = σ b1 6
      · rw [gb_t (by omega)]
        simp (disch := first | assumption | exact gb_01 _ | omega) only [r_Q_isLike_0, r_Q_isLike_1, r_Q_isLike_4, r_Q_isLike_5, r_Q_isLike_8, r_Q_isLike_9, r_Q_isLike_12, r_Q_isLike_13, r_Q_isLike_16, r_Q_isLike_19, r_Q_isLike_20, r_Q_isLike_23, r_Q_isLike_24, r_Q_isLike_27, r_Q_isLike_30, r_Q_isLike_31, r_Q_isLike_34, r_Q_isLike_35, w32_gb, w32i, tn_add, tn_mul, Int.toNat_natCast, Int.toNat_zero, Int.reduceLE, Int.reduceLT, Int.reduceEq, Int.reduceNe, gb_T, gb_F, Int.reduceToNat, eq_self, true_or, or_true, and_true, true_and, and_self, ↓ite_gb0, ↓ite_gbn, ↓if_pos, ↓if_neg, if_true, if_false, not_true_eq_false, not_false_eq_true, gb_ne0, gb_eq0]
      · rw [gb_f (by omega)]
        simp (disch := first | assumption | exact gb_01 _ | omega) only [r_Q_isLike_0, r_Q_isLike_1, r_Q_isLike_4, r_Q_isLike_5, r_Q_isLike_8, r_Q_isLike_9, r_Q_isLike_12, r_Q_isLike_13, r_Q_isLike_16, r_Q_isLike_19, r_Q_isLike_20, r_Q_isLike_23, r_Q_isLike_24, r_Q_isLike_27, r_Q_isLike_30, r_Q_isLike_31, r_Q_isLike_34, r_Q_isLike_35, w32_gb, w32i, tn_add, tn_mul, Int.toNat_natCast, Int.toNat_zero, Int.reduceLE, Int.reduceLT, Int.reduceEq, Int.reduceNe, gb_T, gb_F, Int.reduceToNat, eq_self, true_or, or_true, and_true, true_and, and_self, ↓ite_gb0, ↓ite_gbn, ↓if_pos, ↓if_neg, if_true, if_false, not_true_eq_false, not_false_eq_true, gb_ne0, gb_eq0]
    · rw [gb_f (by omega)]
      simp (disch := first | assumption | exact gb_01 _ | omega) only [r_Q_isLike_0, r_Q_isLike_1, r_Q_isLike_4, r_Q_isLike_5, r_Q_isLike_8, r_Q_isLike_9, r_Q_isLike_12, r_Q_isLike_13, r_Q_isLike_16, r_Q_isLike_19, r_Q_isLike_20, r_Q_isLike_23, r_Q_isLike_24, r_Q_isLike_27, r_Q_isLike_30, r_Q_isLike_31, r_Q_isLike_34, r_Q_isLike_35, w32_gb, w32i, tn_add, tn_mul, Int.toNat_natCast, Int.toNat_zero, Int.reduceLE, Int.reduceLT, Int.reduceEq, Int.reduceNe, gb_T, gb_F, Int.reduceToNat, eq_self, true_or, or_true, and_true, true_and, and_self, ↓ite_gb0, ↓ite_gbn, ↓if_pos, ↓if_neg, if_true, if_false, not_true_eq_false, not_false_eq_true, gb_ne0, gb_eq0]
theorem r_B_doubtOf_0 : Wp L d k_B_doubtOf 0 [l0, vR b1, l2, l3] [] σ Q ↔ Wp L d k_B_doubtOf 1 [l0, vR b1, l2, l3] [vR b1] σ Q := wp_aload rfl rfl
theorem r_B_doubtOf_1 (h : gK c0 = 4) : Wp L d k_B_doubtOf 1 [l0, l1, l2, l3] [vR c0] σ Q ↔ Wp L d k_B_doubtOf 4 [l0, l1, l2, l3] [vI (σ c0 4)] σ Q := wp_getI (c := 1028) rfl rfl rfl rfl h
theorem r_B_doubtOf_4 : Wp L d k_B_doubtOf 4 [l0, l1, l2, l3] [vI s0] σ Q ↔ (if s0 ≤ 0 then Wp L d k_B_doubtOf 9 [l0, l1, l2, l3] [] σ Q else Wp L d k_B_doubtOf 7 [l0, l1, l2, l3] [] σ Q) := wp_if_le rfl
theorem r_B_doubtOf_7 : Wp L d k_B_doubtOf 7 [l0, l1, l2, l3] [] σ Q ↔ Wp L d k_B_doubtOf 8 [l0, l1, l2, l3] [vI 2] σ Q := wp_push rfl
theorem r_B_doubtOf_8 : Wp L d k_B_doubtOf 8 [l0, l1, l2, l3] [vI s0] σ Q ↔ Q (some (vI s0)) σ := wp_iret rfl
theorem r_B_doubtOf_9 : Wp L d k_B_doubtOf 9 [l0, l1, l2, l3] [] σ Q ↔ Wp L d k_B_doubtOf 10 [l0, l1, l2, l3] [vI 0] σ Q := wp_push rfl
theorem r_B_doubtOf_10 : Wp L d k_B_doubtOf 10 [l0, vR b1, l2, l3] [vI s0] σ Q ↔ Wp L d k_B_doubtOf 11 [l0, vR b1, vI s0, l3] [] σ Q := wp_istore (i := 2) (ls := [l0, vR b1, l2, l3]) rfl rfl
theorem r_B_doubtOf_11 : Wp L d k_B_doubtOf 11 [l0, l1, l2, l3] [] σ Q ↔ Wp L d k_B_doubtOf 12 [l0, l1, l2, l3] [vI 0] σ Q := wp_push rfl
theorem r_B_doubtOf_12 : Wp L d k_B_doubtOf 12 [l0, l1, vI a2, l3] [vI s0] σ Q ↔ Wp L d k_B_doubtOf 13 [l0, l1, vI a2, vI s0] [] σ Q := wp_istore (i := 3) (ls := [l0, l1, vI a2, l3]) rfl rfl
theorem r_B_doubtOf_13 : Wp L d k_B_doubtOf 13 [l0, l1, l2, vI a3] [] σ Q ↔ Wp L d k_B_doubtOf 14 [l0, l1, l2, vI a3] [vI a3] σ Q := wp_iload rfl rfl
theorem r_B_doubtOf_14 : Wp L d k_B_doubtOf 14 [vR b0, l1, l2, l3] [vI s0] σ Q ↔ Wp L d k_B_doubtOf 15 [vR b0, l1, l2, l3] [vR b0, vI s0] σ Q := wp_aload rfl rfl
theorem r_B_doubtOf_15 (h : gK c1 = 1) : Wp L d k_B_doubtOf 15 [l0, l1, l2, l3] [vR c1, vI s0] σ Q ↔ Wp L d k_B_doubtOf 18 [l0, l1, l2, l3] [vI (σ c1 9), vI s0] σ Q := wp_getI (c := 265) rfl rfl rfl rfl h
theorem r_B_doubtOf_18 : Wp L d k_B_doubtOf 18 [l0, l1, l2, l3] [vI s1, vI s0] σ Q ↔ (if s1 ≤ s0 then Wp L d k_B_doubtOf 54 [l0, l1, l2, l3] [] σ Q else Wp L d k_B_doubtOf 21 [l0, l1, l2, l3] [] σ Q) := wp_cmp_ge rfl
theorem r_B_doubtOf_21 : Wp L d k_B_doubtOf 21 [vR b0, l1, l2, l3] [] σ Q ↔ Wp L d k_B_doubtOf 22 [vR b0, l1, l2, l3] [vR b0] σ Q := wp_aload rfl rfl
theorem r_B_doubtOf_22 (h : gK c0 = 1) : Wp L d k_B_doubtOf 22 [l0, l1, l2, l3] [vR c0] σ Q ↔ Wp L d k_B_doubtOf 25 [l0, l1, l2, l3] [vR (gq c0 3)] σ Q := wp_getR (c := 387) rfl rfl rfl rfl rfl h
theorem r_B_doubtOf_25 : Wp L d k_B_doubtOf 25 [l0, l1, l2, vI a3] [vR c0] σ Q ↔ Wp L d k_B_doubtOf 26 [l0, l1, l2, vI a3] [vI a3, vR c0] σ Q := wp_iload rfl rfl
theorem r_B_doubtOf_26 (h : gK c0 = 102 ∨ gK c0 = 103) (hx : 0 ≤ s1 ∧ s1 < gN c0) : Wp L d k_B_doubtOf 26 [l0, l1, l2, l3] [vI s1, vR c0] σ Q ↔ Wp L d k_B_doubtOf 27 [l0, l1, l2, l3] [vR (gq c0 s1.toNat)] σ Q := wp_aald rfl h hx
theorem r_B_doubtOf_27 : Wp L d k_B_doubtOf 27 [l0, vR b1, l2, l3] [vR c0] σ Q ↔ Wp L d k_B_doubtOf 28 [l0, vR b1, l2, l3] [vR b1, vR c0] σ Q := wp_aload rfl rfl
theorem r_B_doubtOf_31 : Wp L d k_B_doubtOf 31 [l0, l1, l2, l3] [vI s0] σ Q ↔ (if s0 = 0 then Wp L d k_B_doubtOf 48 [l0, l1, l2, l3] [] σ Q else Wp L d k_B_doubtOf 34 [l0, l1, l2, l3] [] σ Q) := wp_if_eq rfl
theorem r_B_doubtOf_34 : Wp L d k_B_doubtOf 34 [vR b0, l1, l2, l3] [] σ Q ↔ Wp L d k_B_doubtOf 35 [vR b0, l1, l2, l3] [vR b0] σ Q := wp_aload rfl rfl
theorem r_B_doubtOf_35 (h : gK c0 = 1) : Wp L d k_B_doubtOf 35 [l0, l1, l2, l3] [vR c0] σ Q ↔ Wp L d k_B_doubtOf 38 [l0, l1, l2, l3] [vR (gq c0 3)] σ Q := wp_getR (c := 387) rfl rfl rfl rfl rfl h
theorem r_B_doubtOf_38 : Wp L d k_B_doubtOf 38 [l0, l1, l2, vI a3] [vR c0] σ Q ↔ Wp L d k_B_doubtOf 39 [l0, l1, l2, vI a3] [vI a3, vR c0] σ Q := wp_iload rfl rfl
theorem r_B_doubtOf_39 (h : gK c0 = 102 ∨ gK c0 = 103) (hx : 0 ≤ s1 ∧ s1 < gN c0) : Wp L d k_B_doubtOf 39 [l0, l1, l2, l3] [vI s1, vR c0] σ Q ↔ Wp L d k_B_doubtOf 40 [l0, l1, l2, l3] [vR (gq c0 s1.toNat)] σ Q := wp_aald rfl h hx
theorem r_B_doubtOf_40 (h : gK c0 = 4) : Wp L d k_B_doubtOf 40 [l0, l1, l2, l3] [vR c0] σ Q ↔ Wp L d k_B_doubtOf 43 [l0, l1, l2, l3] [vI (σ c0 4)] σ Q := wp_getI (c := 1028) rfl rfl rfl rfl h
theorem r_B_doubtOf_43 : Wp L d k_B_doubtOf 43 [l0, l1, l2, l3] [vI s0] σ Q ↔ (if s0 ≤ 0 then Wp L d k_B_doubtOf 48 [l0, l1, l2, l3] [] σ Q else Wp L d k_B_doubtOf 46 [l0, l1, l2, l3] [] σ Q) := wp_if_le rfl
theorem r_B_doubtOf_46 : Wp L d k_B_doubtOf 46 [l0, l1, l2, l3] [] σ Q ↔ Wp L d k_B_doubtOf 47 [l0, l1, l2, l3] [vI 1] σ Q := wp_push rfl
theorem r_B_doubtOf_47 : Wp L d k_B_doubtOf 47 [l0, vR b1, l2, l3] [vI s0] σ Q ↔ Wp L d k_B_doubtOf 48 [l0, vR b1, vI s0, l3] [] σ Q := wp_istore (i := 2) (ls := [l0, vR b1, l2, l3]) rfl rfl
theorem r_B_doubtOf_48 : Wp L d k_B_doubtOf 48 [l0, l1, vI a2, vI a3] [] σ Q ↔ Wp L d k_B_doubtOf 51 [l0, l1, vI a2, vI (w32 (a3 + 1))] [] σ Q := wp_iinc (i := 3) (ls := [l0, l1, vI a2, vI a3]) rfl rfl
theorem r_B_doubtOf_51 : Wp L d k_B_doubtOf 51 [l0, l1, l2, l3] [] σ Q ↔ Wp L d k_B_doubtOf 13 [l0, l1, l2, l3] [] σ Q := wp_goto rfl
theorem r_B_doubtOf_54 : Wp L d k_B_doubtOf 54 [l0, l1, vI a2, l3] [] σ Q ↔ Wp L d k_B_doubtOf 55 [l0, l1, vI a2, l3] [vI a2] σ Q := wp_iload rfl rfl
theorem r_B_doubtOf_55 : Wp L d k_B_doubtOf 55 [l0, l1, l2, l3] [vI s0] σ Q ↔ Q (some (vI s0)) σ := wp_iret rfl
theorem r_B_doubtOf_28 (hk : gK c0 = 4) (hk2 : gK c1 = 4) : Wp L (d + 1) k_B_doubtOf 28 [l0, l1, l2, l3] [vR c1, vR c0] σ Q ↔ Wp L (d + 1) k_B_doubtOf 31 [l0, l1, l2, l3] [vI (gb (σ c0 0 ≠ 4 ∧ σ c0 7 = σ c1 7 ∧ σ c0 6 = σ c1 6))] σ Q := wp_callR (d := d + 0) (as := [vR c0, vR c1]) (rest := []) rfl rfl rfl rfl rfl rfl rfl (grecv_k (by rw [hk]) rfl) (sp_Q_isLike hk hk2)
theorem sp_B_doubtOf {b : Nat} {f : Nat → Int} {p : Nat} (hB : BR b) (hw : WB f) (hc : CB b f σ) (hp : (p : Int) < f 1) : Run L (d + 1) 115 [vR b, vR (b + 9 + p)] σ (some (vI (brdt f p))) σ := by
  refine Run_of (C' := k_B_doubtOf) rfl ?_
  show Wp L (d + 1) k_B_doubtOf 0 [vR b, vR (b + 9 + p), vU, vU] [] σ _
  obtain ⟨⟨K0, q0, q1, q2, q3, q4, q5, q6, q7⟩, ⟨K1, K2, K3, K4, K5, K6, K7, K8⟩, ⟨N1, N2, N3, N4, N5, N6, N7, N8⟩, QP, KP⟩ := hB
  have w1 := hw.1
  have w2 := hw.2.1
  have c1 := hc.1
  have c2 := hc.2.1

  have kp0 := KP p (by omega)
  have q0' := CBp hc hp
  unfold brdt
  by_cases e0 : 0 < f (120 + 12 * p + 4)
  · rw [if_pos e0]
    simp (disch := first | assumption | exact gb_01 _ | omega) only [r_B_doubtOf_0, r_B_doubtOf_1, r_B_doubtOf_4, r_B_doubtOf_7, r_B_doubtOf_8, r_B_doubtOf_9, r_B_doubtOf_10, r_B_doubtOf_11, r_B_doubtOf_12, r_B_doubtOf_14, r_B_doubtOf_15, r_B_doubtOf_18, r_B_doubtOf_21, r_B_doubtOf_22, r_B_doubtOf_25, r_B_doubtOf_26, r_B_doubtOf_27, r_B_doubtOf_28, r_B_doubtOf_31, r_B_doubtOf_34, r_B_doubtOf_35, r_B_doubtOf_38, r_B_doubtOf_39, r_B_doubtOf_40, r_B_doubtOf_43, r_B_doubtOf_46, r_B_doubtOf_47, r_B_doubtOf_48, r_B_doubtOf_51, r_B_doubtOf_54, r_B_doubtOf_55, q0, q1, q2, q3, q4, q5, q6, q7, QP, w32_gb, w32i, tn_add, tn_mul, Int.toNat_natCast, Int.toNat_zero, Int.reduceLE, Int.reduceLT, Int.reduceEq, Int.reduceNe, gb_T, gb_F, Int.reduceToNat, eq_self, true_or, or_true, and_true, true_and, and_self, ↓ite_gb0, ↓ite_gbn, ↓if_pos, ↓if_neg, if_true, if_false, not_true_eq_false, not_false_eq_true, gb_ne0, gb_eq0]
  · rw [if_neg e0]
    simp (disch := first | assumption | exact gb_01 _ | omega) only [r_B_doubtOf_0, r_B_doubtOf_1, r_B_doubtOf_4, r_B_doubtOf_7, r_B_doubtOf_8, r_B_doubtOf_9, r_B_doubtOf_10, r_B_doubtOf_11, r_B_doubtOf_12, r_B_doubtOf_14, r_B_doubtOf_15, r_B_doubtOf_18, r_B_doubtOf_21, r_B_doubtOf_22, r_B_doubtOf_25, r_B_doubtOf_26, r_B_doubtOf_27, r_B_doubtOf_28, r_B_doubtOf_31, r_B_doubtOf_34, r_B_doubtOf_35, r_B_doubtOf_38, r_B_doubtOf_39, r_B_doubtOf_40, r_B_doubtOf_43, r_B_doubtOf_46, r_B_doubtOf_47, r_B_doubtOf_48, r_B_doubtOf_51, r_B_doubtOf_54, r_B_doubtOf_55, q0, q1, q2, q3, q4, q5, q6, q7, QP, w32_gb, w32i, tn_add, tn_mul, Int.toNat_natCast, Int.toNat_zero, Int.reduceLE, Int.reduceLT, Int.reduceEq, Int.reduceNe, gb_T, gb_F, Int.reduceToNat, eq_self, true_or, or_true, and_true, true_and, and_self, ↓ite_gb0, ↓ite_gbn, ↓if_pos, ↓if_neg, if_true, if_false, not_true_eq_false, not_false_eq_true, gb_ne0, gb_eq0]
    refine wl (f 1).toNat (fun k => [vR b, vR (b + 9 + p), vI (brlk f p k), vI (k : Int)]) (fun _ => σ) rfl rfl (fun k hk hq => ?_) ?_
    · have kp := KP k (by omega)
      have q := CBp hc (p := k) (by omega)
      have z := brlk_01 f p k
      rw [r_B_doubtOf_13]
      by_cases c1 : σ (b + 9 + k) 0 ≠ 4 ∧ σ (b + 9 + k) 7 = σ (b + 9 + p) 7 ∧ σ (b + 9 + k) 6 = σ (b + 9 + p) 6
      · by_cases c2 : 0 < f (120 + 12 * k + 4)
        · have kn : k ≠ p := fun e => by rw [e] at c2; omega
          have g : brlk f p (k + 1) = 1 := if_pos (Or.inr ⟨kn, by omega, by omega, by omega, c2⟩)
          simp (disch := first | assumption | exact gb_01 _ | omega) only [r_B_doubtOf_0, r_B_doubtOf_1, r_B_doubtOf_4, r_B_doubtOf_7, r_B_doubtOf_8, r_B_doubtOf_9, r_B_doubtOf_10, r_B_doubtOf_11, r_B_doubtOf_12, r_B_doubtOf_14, r_B_doubtOf_15, r_B_doubtOf_18, r_B_doubtOf_21, r_B_doubtOf_22, r_B_doubtOf_25, r_B_doubtOf_26, r_B_doubtOf_27, r_B_doubtOf_28, r_B_doubtOf_31, r_B_doubtOf_34, r_B_doubtOf_35, r_B_doubtOf_38, r_B_doubtOf_39, r_B_doubtOf_40, r_B_doubtOf_43, r_B_doubtOf_46, r_B_doubtOf_47, r_B_doubtOf_48, r_B_doubtOf_51, r_B_doubtOf_54, r_B_doubtOf_55, q0, q1, q2, q3, q4, q5, q6, q7, QP, c1, w32_gb, w32i, tn_add, tn_mul, Int.toNat_natCast, Int.toNat_zero, Int.reduceLE, Int.reduceLT, Int.reduceEq, Int.reduceNe, gb_T, gb_F, Int.reduceToNat, eq_self, true_or, or_true, and_true, true_and, and_self, ↓ite_gb0, ↓ite_gbn, ↓if_pos, ↓if_neg, if_true, if_false, not_true_eq_false, not_false_eq_true, gb_ne0, gb_eq0]
          refine hq _ _ ?_ rfl
          simp only [List.cons.injEq, vI_inj, vR_inj, and_true, true_and]
          exact ⟨g.symm, by omega⟩
        · have g : brlk f p (k + 1) = brlk f p k := by
            rcases z with z | z
            · rw [z]; exact if_neg (fun x => by rcases x with x | x; omega; exact c2 x.2.2.2.2)
            · rw [z]; exact if_pos (Or.inl z)
          simp (disch := first | assumption | exact gb_01 _ | omega) only [r_B_doubtOf_0, r_B_doubtOf_1, r_B_doubtOf_4, r_B_doubtOf_7, r_B_doubtOf_8, r_B_doubtOf_9, r_B_doubtOf_10, r_B_doubtOf_11, r_B_doubtOf_12, r_B_doubtOf_14, r_B_doubtOf_15, r_B_doubtOf_18, r_B_doubtOf_21, r_B_doubtOf_22, r_B_doubtOf_25, r_B_doubtOf_26, r_B_doubtOf_27, r_B_doubtOf_28, r_B_doubtOf_31, r_B_doubtOf_34, r_B_doubtOf_35, r_B_doubtOf_38, r_B_doubtOf_39, r_B_doubtOf_40, r_B_doubtOf_43, r_B_doubtOf_46, r_B_doubtOf_47, r_B_doubtOf_48, r_B_doubtOf_51, r_B_doubtOf_54, r_B_doubtOf_55, q0, q1, q2, q3, q4, q5, q6, q7, QP, c1, w32_gb, w32i, tn_add, tn_mul, Int.toNat_natCast, Int.toNat_zero, Int.reduceLE, Int.reduceLT, Int.reduceEq, Int.reduceNe, gb_T, gb_F, Int.reduceToNat, eq_self, true_or, or_true, and_true, true_and, and_self, ↓ite_gb0, ↓ite_gbn, ↓if_pos, ↓if_neg, if_true, if_false, not_true_eq_false, not_false_eq_true, gb_ne0, gb_eq0]
          refine hq _ _ ?_ rfl
          simp only [List.cons.injEq, vI_inj, vR_inj, and_true, true_and]
          exact ⟨g.symm, by omega⟩
      · have g : brlk f p (k + 1) = brlk f p k := by
          rcases z with z | z
          · rw [z]; exact if_neg (fun x => by rcases x with x | x; omega; exact c1 ⟨by omega, by omega, by omega⟩)
          · rw [z]; exact if_pos (Or.inl z)
        simp (disch := first | assumption | exact gb_01 _ | omega) only [r_B_doubtOf_0, r_B_doubtOf_1, r_B_doubtOf_4, r_B_doubtOf_7, r_B_doubtOf_8, r_B_doubtOf_9, r_B_doubtOf_10, r_B_doubtOf_11, r_B_doubtOf_12, r_B_doubtOf_14, r_B_doubtOf_15, r_B_doubtOf_18, r_B_doubtOf_21, r_B_doubtOf_22, r_B_doubtOf_25, r_B_doubtOf_26, r_B_doubtOf_27, r_B_doubtOf_28, r_B_doubtOf_31, r_B_doubtOf_34, r_B_doubtOf_35, r_B_doubtOf_38, r_B_doubtOf_39, r_B_doubtOf_40, r_B_doubtOf_43, r_B_doubtOf_46, r_B_doubtOf_47, r_B_doubtOf_48, r_B_doubtOf_51, r_B_doubtOf_54, r_B_doubtOf_55, q0, q1, q2, q3, q4, q5, q6, q7, QP, c1, w32_gb, w32i, tn_add, tn_mul, Int.toNat_natCast, Int.toNat_zero, Int.reduceLE, Int.reduceLT, Int.reduceEq, Int.reduceNe, gb_T, gb_F, Int.reduceToNat, eq_self, true_or, or_true, and_true, true_and, and_self, ↓ite_gb0, ↓ite_gbn, ↓if_pos, ↓if_neg, if_true, if_false, not_true_eq_false, not_false_eq_true, gb_ne0, gb_eq0]
        refine hq _ _ ?_ rfl
        simp only [List.cons.injEq, vI_inj, vR_inj, and_true, true_and]
        exact ⟨g.symm, by omega⟩
    · rw [r_B_doubtOf_13]
      simp (disch := first | assumption | exact gb_01 _ | omega) only [r_B_doubtOf_0, r_B_doubtOf_1, r_B_doubtOf_4, r_B_doubtOf_7, r_B_doubtOf_8, r_B_doubtOf_9, r_B_doubtOf_10, r_B_doubtOf_11, r_B_doubtOf_12, r_B_doubtOf_14, r_B_doubtOf_15, r_B_doubtOf_18, r_B_doubtOf_21, r_B_doubtOf_22, r_B_doubtOf_25, r_B_doubtOf_26, r_B_doubtOf_27, r_B_doubtOf_28, r_B_doubtOf_31, r_B_doubtOf_34, r_B_doubtOf_35, r_B_doubtOf_38, r_B_doubtOf_39, r_B_doubtOf_40, r_B_doubtOf_43, r_B_doubtOf_46, r_B_doubtOf_47, r_B_doubtOf_48, r_B_doubtOf_51, r_B_doubtOf_54, r_B_doubtOf_55, q0, q1, q2, q3, q4, q5, q6, q7, QP, w32_gb, w32i, tn_add, tn_mul, Int.toNat_natCast, Int.toNat_zero, Int.reduceLE, Int.reduceLT, Int.reduceEq, Int.reduceNe, gb_T, gb_F, Int.reduceToNat, eq_self, true_or, or_true, and_true, true_and, and_self, ↓ite_gb0, ↓ite_gbn, ↓if_pos, ↓if_neg, if_true, if_false, not_true_eq_false, not_false_eq_true, gb_ne0, gb_eq0]
theorem r_M_doubtOf_0 : Wp L d k_M_doubtOf 0 [vR b0, l1, l2, l3, l4, l5] [] σ Q ↔ Wp L d k_M_doubtOf 1 [vR b0, l1, l2, l3, l4, l5] [vR b0] σ Q := wp_aload rfl rfl
theorem r_M_doubtOf_1 : Wp L d k_M_doubtOf 1 [l0, vI a1, l2, l3, l4, l5] [vR c0] σ Q ↔ Wp L d k_M_doubtOf 2 [l0, vI a1, l2, l3, l4, l5] [vI a1, vR c0] σ Q := wp_iload rfl rfl
theorem r_M_doubtOf_5 : Wp L d k_M_doubtOf 5 [l0, vI a1, l2, l3, l4, l5] [vI s0] σ Q ↔ Wp L d k_M_doubtOf 6 [l0, vI a1, vI s0, l3, l4, l5] [] σ Q := wp_istore (i := 2) (ls := [l0, vI a1, l2, l3, l4, l5]) rfl rfl
theorem r_M_doubtOf_6 : Wp L d k_M_doubtOf 6 [l0, l1, l2, l3, l4, l5] [] σ Q ↔ Wp L d k_M_doubtOf 7 [l0, l1, l2, l3, l4, l5] [vI 0] σ Q := wp_push rfl
theorem r_M_doubtOf_7 : Wp L d k_M_doubtOf 7 [l0, l1, vI a2, l3, l4, l5] [vI s0] σ Q ↔ Wp L d k_M_doubtOf 8 [l0, l1, vI a2, vI s0, l4, l5] [] σ Q := wp_istore (i := 3) (ls := [l0, l1, vI a2, l3, l4, l5]) rfl rfl
theorem r_M_doubtOf_8 : Wp L d k_M_doubtOf 8 [l0, l1, l2, l3, l4, l5] [] σ Q ↔ Wp L d k_M_doubtOf 9 [l0, l1, l2, l3, l4, l5] [vI 0] σ Q := wp_push rfl
theorem r_M_doubtOf_9 : Wp L d k_M_doubtOf 9 [l0, l1, l2, vI a3, l4, l5] [vI s0] σ Q ↔ Wp L d k_M_doubtOf 11 [l0, l1, l2, vI a3, vI s0, l5] [] σ Q := wp_istore (i := 4) (ls := [l0, l1, l2, vI a3, l4, l5]) rfl rfl
theorem r_M_doubtOf_11 : Wp L d k_M_doubtOf 11 [l0, l1, l2, l3, vI a4, l5] [] σ Q ↔ Wp L d k_M_doubtOf 13 [l0, l1, l2, l3, vI a4, l5] [vI a4] σ Q := wp_iload rfl rfl
theorem r_M_doubtOf_13 : Wp L d k_M_doubtOf 13 [vR b0, l1, l2, l3, l4, l5] [vI s0] σ Q ↔ Wp L d k_M_doubtOf 14 [vR b0, l1, l2, l3, l4, l5] [vR b0, vI s0] σ Q := wp_aload rfl rfl
theorem r_M_doubtOf_14 (h : gK c1 = 12) : Wp L d k_M_doubtOf 14 [l0, l1, l2, l3, l4, l5] [vR c1, vI s0] σ Q ↔ Wp L d k_M_doubtOf 17 [l0, l1, l2, l3, l4, l5] [vR (gq c1 0), vI s0] σ Q := wp_getR (c := 3200) rfl rfl rfl rfl rfl h
theorem r_M_doubtOf_17 : Wp L d k_M_doubtOf 17 [l0, l1, l2, l3, l4, l5] [vR c1, vI s0] σ Q ↔ Wp L d k_M_doubtOf 18 [l0, l1, l2, l3, l4, l5] [vI 1, vR c1, vI s0] σ Q := wp_push rfl
theorem r_M_doubtOf_18 (h : gK c1 = 100) (hx : 0 ≤ s2 ∧ s2 < gN c1) : Wp L d k_M_doubtOf 18 [l0, l1, l2, l3, l4, l5] [vI s2, vR c1, vI s0] σ Q ↔ Wp L d k_M_doubtOf 19 [l0, l1, l2, l3, l4, l5] [vI (σ c1 s2.toNat), vI s0] σ Q := wp_iald rfl h hx
theorem r_M_doubtOf_19 : Wp L d k_M_doubtOf 19 [l0, l1, l2, l3, l4, l5] [vI s1, vI s0] σ Q ↔ (if s1 ≤ s0 then Wp L d k_M_doubtOf 119 [l0, l1, l2, l3, l4, l5] [] σ Q else Wp L d k_M_doubtOf 22 [l0, l1, l2, l3, l4, l5] [] σ Q) := wp_cmp_ge rfl
theorem r_M_doubtOf_22 : Wp L d k_M_doubtOf 22 [vR b0, l1, l2, l3, l4, l5] [] σ Q ↔ Wp L d k_M_doubtOf 23 [vR b0, l1, l2, l3, l4, l5] [vR b0] σ Q := wp_aload rfl rfl
theorem r_M_doubtOf_23 : Wp L d k_M_doubtOf 23 [l0, l1, l2, l3, vI a4, l5] [vR c0] σ Q ↔ Wp L d k_M_doubtOf 25 [l0, l1, l2, l3, vI a4, l5] [vI a4, vR c0] σ Q := wp_iload rfl rfl
theorem r_M_doubtOf_28 : Wp L d k_M_doubtOf 28 [l0, l1, l2, l3, vI a4, l5] [vI s0] σ Q ↔ Wp L d k_M_doubtOf 30 [l0, l1, l2, l3, vI a4, vI s0] [] σ Q := wp_istore (i := 5) (ls := [l0, l1, l2, l3, vI a4, l5]) rfl rfl
theorem r_M_doubtOf_30 : Wp L d k_M_doubtOf 30 [l0, l1, l2, vI a3, l4, l5] [] σ Q ↔ Wp L d k_M_doubtOf 31 [l0, l1, l2, vI a3, l4, l5] [vI a3] σ Q := wp_iload rfl rfl
theorem r_M_doubtOf_31 : Wp L d k_M_doubtOf 31 [l0, l1, l2, l3, l4, l5] [vI s0] σ Q ↔ (if s0 ≠ 0 then Wp L d k_M_doubtOf 107 [l0, l1, l2, l3, l4, l5] [] σ Q else Wp L d k_M_doubtOf 34 [l0, l1, l2, l3, l4, l5] [] σ Q) := wp_if_ne rfl
theorem r_M_doubtOf_34 : Wp L d k_M_doubtOf 34 [l0, l1, l2, l3, vI a4, l5] [] σ Q ↔ Wp L d k_M_doubtOf 36 [l0, l1, l2, l3, vI a4, l5] [vI a4] σ Q := wp_iload rfl rfl
theorem r_M_doubtOf_36 : Wp L d k_M_doubtOf 36 [l0, vI a1, l2, l3, l4, l5] [vI s0] σ Q ↔ Wp L d k_M_doubtOf 37 [l0, vI a1, l2, l3, l4, l5] [vI a1, vI s0] σ Q := wp_iload rfl rfl
theorem r_M_doubtOf_37 : Wp L d k_M_doubtOf 37 [l0, l1, l2, l3, l4, l5] [vI s1, vI s0] σ Q ↔ (if s0 = s1 then Wp L d k_M_doubtOf 111 [l0, l1, l2, l3, l4, l5] [] σ Q else Wp L d k_M_doubtOf 40 [l0, l1, l2, l3, l4, l5] [] σ Q) := wp_cmp_eq rfl
theorem r_M_doubtOf_40 : Wp L d k_M_doubtOf 40 [vR b0, l1, l2, l3, l4, l5] [] σ Q ↔ Wp L d k_M_doubtOf 41 [vR b0, l1, l2, l3, l4, l5] [vR b0] σ Q := wp_aload rfl rfl
theorem r_M_doubtOf_41 (h : gK c0 = 12) : Wp L d k_M_doubtOf 41 [l0, l1, l2, l3, l4, l5] [vR c0] σ Q ↔ Wp L d k_M_doubtOf 44 [l0, l1, l2, l3, l4, l5] [vR (gq c0 0)] σ Q := wp_getR (c := 3200) rfl rfl rfl rfl rfl h
theorem r_M_doubtOf_44 : Wp L d k_M_doubtOf 44 [l0, l1, l2, l3, l4, vI a5] [vR c0] σ Q ↔ Wp L d k_M_doubtOf 46 [l0, l1, l2, l3, l4, vI a5] [vI a5, vR c0] σ Q := wp_iload rfl rfl
theorem r_M_doubtOf_46 (h : gK c0 = 100) (hx : 0 ≤ s1 ∧ s1 < gN c0) : Wp L d k_M_doubtOf 46 [l0, l1, l2, l3, l4, l5] [vI s1, vR c0] σ Q ↔ Wp L d k_M_doubtOf 47 [l0, l1, l2, l3, l4, l5] [vI (σ c0 s1.toNat)] σ Q := wp_iald rfl h hx
theorem r_M_doubtOf_47 : Wp L d k_M_doubtOf 47 [l0, l1, l2, l3, l4, l5] [vI s0] σ Q ↔ Wp L d k_M_doubtOf 48 [l0, l1, l2, l3, l4, l5] [vI 4, vI s0] σ Q := wp_push rfl
theorem r_M_doubtOf_48 : Wp L d k_M_doubtOf 48 [l0, l1, l2, l3, l4, l5] [vI s1, vI s0] σ Q ↔ (if s0 = s1 then Wp L d k_M_doubtOf 111 [l0, l1, l2, l3, l4, l5] [] σ Q else Wp L d k_M_doubtOf 51 [l0, l1, l2, l3, l4, l5] [] σ Q) := wp_cmp_eq rfl
theorem r_M_doubtOf_51 : Wp L d k_M_doubtOf 51 [vR b0, l1, l2, l3, l4, l5] [] σ Q ↔ Wp L d k_M_doubtOf 52 [vR b0, l1, l2, l3, l4, l5] [vR b0] σ Q := wp_aload rfl rfl
theorem r_M_doubtOf_52 (h : gK c0 = 12) : Wp L d k_M_doubtOf 52 [l0, l1, l2, l3, l4, l5] [vR c0] σ Q ↔ Wp L d k_M_doubtOf 55 [l0, l1, l2, l3, l4, l5] [vR (gq c0 0)] σ Q := wp_getR (c := 3200) rfl rfl rfl rfl rfl h
theorem r_M_doubtOf_55 : Wp L d k_M_doubtOf 55 [l0, l1, l2, l3, l4, vI a5] [vR c0] σ Q ↔ Wp L d k_M_doubtOf 57 [l0, l1, l2, l3, l4, vI a5] [vI a5, vR c0] σ Q := wp_iload rfl rfl
theorem r_M_doubtOf_57 : Wp L d k_M_doubtOf 57 [l0, l1, l2, l3, l4, l5] [vI s1, vR c0] σ Q ↔ Wp L d k_M_doubtOf 59 [l0, l1, l2, l3, l4, l5] [vI 7, vI s1, vR c0] σ Q := wp_push rfl
theorem r_M_doubtOf_59 : Wp L d k_M_doubtOf 59 [l0, l1, l2, l3, l4, l5] [vI s2, vI s1, vR c0] σ Q ↔ Wp L d k_M_doubtOf 60 [l0, l1, l2, l3, l4, l5] [vI (w32 (s1 + s2)), vR c0] σ Q := wp_iadd rfl
theorem r_M_doubtOf_60 (h : gK c0 = 100) (hx : 0 ≤ s1 ∧ s1 < gN c0) : Wp L d k_M_doubtOf 60 [l0, l1, l2, l3, l4, l5] [vI s1, vR c0] σ Q ↔ Wp L d k_M_doubtOf 61 [l0, l1, l2, l3, l4, l5] [vI (σ c0 s1.toNat)] σ Q := wp_iald rfl h hx
theorem r_M_doubtOf_61 : Wp L d k_M_doubtOf 61 [vR b0, l1, l2, l3, l4, l5] [vI s0] σ Q ↔ Wp L d k_M_doubtOf 62 [vR b0, l1, l2, l3, l4, l5] [vR b0, vI s0] σ Q := wp_aload rfl rfl
theorem r_M_doubtOf_62 (h : gK c1 = 12) : Wp L d k_M_doubtOf 62 [l0, l1, l2, l3, l4, l5] [vR c1, vI s0] σ Q ↔ Wp L d k_M_doubtOf 65 [l0, l1, l2, l3, l4, l5] [vR (gq c1 0), vI s0] σ Q := wp_getR (c := 3200) rfl rfl rfl rfl rfl h
theorem r_M_doubtOf_65 : Wp L d k_M_doubtOf 65 [l0, l1, vI a2, l3, l4, l5] [vR c1, vI s0] σ Q ↔ Wp L d k_M_doubtOf 66 [l0, l1, vI a2, l3, l4, l5] [vI a2, vR c1, vI s0] σ Q := wp_iload rfl rfl
theorem r_M_doubtOf_66 : Wp L d k_M_doubtOf 66 [l0, l1, l2, l3, l4, l5] [vI s2, vR c1, vI s0] σ Q ↔ Wp L d k_M_doubtOf 68 [l0, l1, l2, l3, l4, l5] [vI 7, vI s2, vR c1, vI s0] σ Q := wp_push rfl
theorem r_M_doubtOf_68 : Wp L d k_M_doubtOf 68 [l0, l1, l2, l3, l4, l5] [vI s3, vI s2, vR c1, vI s0] σ Q ↔ Wp L d k_M_doubtOf 69 [l0, l1, l2, l3, l4, l5] [vI (w32 (s2 + s3)), vR c1, vI s0] σ Q := wp_iadd rfl
theorem r_M_doubtOf_69 (h : gK c1 = 100) (hx : 0 ≤ s2 ∧ s2 < gN c1) : Wp L d k_M_doubtOf 69 [l0, l1, l2, l3, l4, l5] [vI s2, vR c1, vI s0] σ Q ↔ Wp L d k_M_doubtOf 70 [l0, l1, l2, l3, l4, l5] [vI (σ c1 s2.toNat), vI s0] σ Q := wp_iald rfl h hx
theorem r_M_doubtOf_70 : Wp L d k_M_doubtOf 70 [l0, l1, l2, l3, l4, l5] [vI s1, vI s0] σ Q ↔ (if s0 ≠ s1 then Wp L d k_M_doubtOf 111 [l0, l1, l2, l3, l4, l5] [] σ Q else Wp L d k_M_doubtOf 73 [l0, l1, l2, l3, l4, l5] [] σ Q) := wp_cmp_ne rfl
theorem r_M_doubtOf_73 : Wp L d k_M_doubtOf 73 [vR b0, l1, l2, l3, l4, l5] [] σ Q ↔ Wp L d k_M_doubtOf 74 [vR b0, l1, l2, l3, l4, l5] [vR b0] σ Q := wp_aload rfl rfl
theorem r_M_doubtOf_74 (h : gK c0 = 12) : Wp L d k_M_doubtOf 74 [l0, l1, l2, l3, l4, l5] [vR c0] σ Q ↔ Wp L d k_M_doubtOf 77 [l0, l1, l2, l3, l4, l5] [vR (gq c0 0)] σ Q := wp_getR (c := 3200) rfl rfl rfl rfl rfl h
theorem r_M_doubtOf_77 : Wp L d k_M_doubtOf 77 [l0, l1, l2, l3, l4, vI a5] [vR c0] σ Q ↔ Wp L d k_M_doubtOf 79 [l0, l1, l2, l3, l4, vI a5] [vI a5, vR c0] σ Q := wp_iload rfl rfl
theorem r_M_doubtOf_79 : Wp L d k_M_doubtOf 79 [l0, l1, l2, l3, l4, l5] [vI s1, vR c0] σ Q ↔ Wp L d k_M_doubtOf 81 [l0, l1, l2, l3, l4, l5] [vI 6, vI s1, vR c0] σ Q := wp_push rfl
theorem r_M_doubtOf_81 : Wp L d k_M_doubtOf 81 [l0, l1, l2, l3, l4, l5] [vI s2, vI s1, vR c0] σ Q ↔ Wp L d k_M_doubtOf 82 [l0, l1, l2, l3, l4, l5] [vI (w32 (s1 + s2)), vR c0] σ Q := wp_iadd rfl
theorem r_M_doubtOf_82 (h : gK c0 = 100) (hx : 0 ≤ s1 ∧ s1 < gN c0) : Wp L d k_M_doubtOf 82 [l0, l1, l2, l3, l4, l5] [vI s1, vR c0] σ Q ↔ Wp L d k_M_doubtOf 83 [l0, l1, l2, l3, l4, l5] [vI (σ c0 s1.toNat)] σ Q := wp_iald rfl h hx
theorem r_M_doubtOf_83 : Wp L d k_M_doubtOf 83 [vR b0, l1, l2, l3, l4, l5] [vI s0] σ Q ↔ Wp L d k_M_doubtOf 84 [vR b0, l1, l2, l3, l4, l5] [vR b0, vI s0] σ Q := wp_aload rfl rfl
theorem r_M_doubtOf_84 (h : gK c1 = 12) : Wp L d k_M_doubtOf 84 [l0, l1, l2, l3, l4, l5] [vR c1, vI s0] σ Q ↔ Wp L d k_M_doubtOf 87 [l0, l1, l2, l3, l4, l5] [vR (gq c1 0), vI s0] σ Q := wp_getR (c := 3200) rfl rfl rfl rfl rfl h
theorem r_M_doubtOf_87 : Wp L d k_M_doubtOf 87 [l0, l1, vI a2, l3, l4, l5] [vR c1, vI s0] σ Q ↔ Wp L d k_M_doubtOf 88 [l0, l1, vI a2, l3, l4, l5] [vI a2, vR c1, vI s0] σ Q := wp_iload rfl rfl
theorem r_M_doubtOf_88 : Wp L d k_M_doubtOf 88 [l0, l1, l2, l3, l4, l5] [vI s2, vR c1, vI s0] σ Q ↔ Wp L d k_M_doubtOf 90 [l0, l1, l2, l3, l4, l5] [vI 6, vI s2, vR c1, vI s0] σ Q := wp_push rfl
theorem r_M_doubtOf_90 : Wp L d k_M_doubtOf 90 [l0, l1, l2, l3, l4, l5] [vI s3, vI s2, vR c1, vI s0] σ Q ↔ Wp L d k_M_doubtOf 91 [l0, l1, l2, l3, l4, l5] [vI (w32 (s2 + s3)), vR c1, vI s0] σ Q := wp_iadd rfl
theorem r_M_doubtOf_91 (h : gK c1 = 100) (hx : 0 ≤ s2 ∧ s2 < gN c1) : Wp L d k_M_doubtOf 91 [l0, l1, l2, l3, l4, l5] [vI s2, vR c1, vI s0] σ Q ↔ Wp L d k_M_doubtOf 92 [l0, l1, l2, l3, l4, l5] [vI (σ c1 s2.toNat), vI s0] σ Q := wp_iald rfl h hx
theorem r_M_doubtOf_92 : Wp L d k_M_doubtOf 92 [l0, l1, l2, l3, l4, l5] [vI s1, vI s0] σ Q ↔ (if s0 ≠ s1 then Wp L d k_M_doubtOf 111 [l0, l1, l2, l3, l4, l5] [] σ Q else Wp L d k_M_doubtOf 95 [l0, l1, l2, l3, l4, l5] [] σ Q) := wp_cmp_ne rfl
theorem r_M_doubtOf_95 : Wp L d k_M_doubtOf 95 [vR b0, l1, l2, l3, l4, l5] [] σ Q ↔ Wp L d k_M_doubtOf 96 [vR b0, l1, l2, l3, l4, l5] [vR b0] σ Q := wp_aload rfl rfl
theorem r_M_doubtOf_96 (h : gK c0 = 12) : Wp L d k_M_doubtOf 96 [l0, l1, l2, l3, l4, l5] [vR c0] σ Q ↔ Wp L d k_M_doubtOf 99 [l0, l1, l2, l3, l4, l5] [vR (gq c0 0)] σ Q := wp_getR (c := 3200) rfl rfl rfl rfl rfl h
theorem r_M_doubtOf_99 : Wp L d k_M_doubtOf 99 [l0, l1, l2, l3, l4, vI a5] [vR c0] σ Q ↔ Wp L d k_M_doubtOf 101 [l0, l1, l2, l3, l4, vI a5] [vI a5, vR c0] σ Q := wp_iload rfl rfl
theorem r_M_doubtOf_101 : Wp L d k_M_doubtOf 101 [l0, l1, l2, l3, l4, l5] [vI s1, vR c0] σ Q ↔ Wp L d k_M_doubtOf 102 [l0, l1, l2, l3, l4, l5] [vI 4, vI s1, vR c0] σ Q := wp_push rfl
theorem r_M_doubtOf_102 : Wp L d k_M_doubtOf 102 [l0, l1, l2, l3, l4, l5] [vI s2, vI s1, vR c0] σ Q ↔ Wp L d k_M_doubtOf 103 [l0, l1, l2, l3, l4, l5] [vI (w32 (s1 + s2)), vR c0] σ Q := wp_iadd rfl
theorem r_M_doubtOf_103 (h : gK c0 = 100) (hx : 0 ≤ s1 ∧ s1 < gN c0) : Wp L d k_M_doubtOf 103 [l0, l1, l2, l3, l4, l5] [vI s1, vR c0] σ Q ↔ Wp L d k_M_doubtOf 104 [l0, l1, l2, l3, l4, l5] [vI (σ c0 s1.toNat)] σ Q := wp_iald rfl h hx
theorem r_M_doubtOf_104 : Wp L d k_M_doubtOf 104 [l0, l1, l2, l3, l4, l5] [vI s0] σ Q ↔ (if s0 ≤ 0 then Wp L d k_M_doubtOf 111 [l0, l1, l2, l3, l4, l5] [] σ Q else Wp L d k_M_doubtOf 107 [l0, l1, l2, l3, l4, l5] [] σ Q) := wp_if_le rfl
theorem r_M_doubtOf_107 : Wp L d k_M_doubtOf 107 [l0, l1, l2, l3, l4, l5] [] σ Q ↔ Wp L d k_M_doubtOf 108 [l0, l1, l2, l3, l4, l5] [vI 1] σ Q := wp_push rfl
theorem r_M_doubtOf_108 : Wp L d k_M_doubtOf 108 [l0, l1, l2, l3, l4, l5] [vI s0] σ Q ↔ Wp L d k_M_doubtOf 112 [l0, l1, l2, l3, l4, l5] [vI s0] σ Q := wp_goto rfl
theorem r_M_doubtOf_111 : Wp L d k_M_doubtOf 111 [l0, l1, l2, l3, l4, l5] [] σ Q ↔ Wp L d k_M_doubtOf 112 [l0, l1, l2, l3, l4, l5] [vI 0] σ Q := wp_push rfl
theorem r_M_doubtOf_112 : Wp L d k_M_doubtOf 112 [l0, l1, vI a2, l3, l4, l5] [vI s0] σ Q ↔ Wp L d k_M_doubtOf 113 [l0, l1, vI a2, vI s0, l4, l5] [] σ Q := wp_istore (i := 3) (ls := [l0, l1, vI a2, l3, l4, l5]) rfl rfl
theorem r_M_doubtOf_113 : Wp L d k_M_doubtOf 113 [l0, l1, l2, vI a3, vI a4, l5] [] σ Q ↔ Wp L d k_M_doubtOf 116 [l0, l1, l2, vI a3, vI (w32 (a4 + 1)), l5] [] σ Q := wp_iinc (i := 4) (ls := [l0, l1, l2, vI a3, vI a4, l5]) rfl rfl
theorem r_M_doubtOf_116 : Wp L d k_M_doubtOf 116 [l0, l1, l2, l3, l4, l5] [] σ Q ↔ Wp L d k_M_doubtOf 11 [l0, l1, l2, l3, l4, l5] [] σ Q := wp_goto rfl
theorem r_M_doubtOf_119 : Wp L d k_M_doubtOf 119 [vR b0, l1, l2, l3, l4, l5] [] σ Q ↔ Wp L d k_M_doubtOf 120 [vR b0, l1, l2, l3, l4, l5] [vR b0] σ Q := wp_aload rfl rfl
theorem r_M_doubtOf_120 (h : gK c0 = 12) : Wp L d k_M_doubtOf 120 [l0, l1, l2, l3, l4, l5] [vR c0] σ Q ↔ Wp L d k_M_doubtOf 123 [l0, l1, l2, l3, l4, l5] [vR (gq c0 0)] σ Q := wp_getR (c := 3200) rfl rfl rfl rfl rfl h
theorem r_M_doubtOf_123 : Wp L d k_M_doubtOf 123 [l0, l1, vI a2, l3, l4, l5] [vR c0] σ Q ↔ Wp L d k_M_doubtOf 124 [l0, l1, vI a2, l3, l4, l5] [vI a2, vR c0] σ Q := wp_iload rfl rfl
theorem r_M_doubtOf_124 : Wp L d k_M_doubtOf 124 [l0, l1, l2, l3, l4, l5] [vI s1, vR c0] σ Q ↔ Wp L d k_M_doubtOf 125 [l0, l1, l2, l3, l4, l5] [vI 4, vI s1, vR c0] σ Q := wp_push rfl
theorem r_M_doubtOf_125 : Wp L d k_M_doubtOf 125 [l0, l1, l2, l3, l4, l5] [vI s2, vI s1, vR c0] σ Q ↔ Wp L d k_M_doubtOf 126 [l0, l1, l2, l3, l4, l5] [vI (w32 (s1 + s2)), vR c0] σ Q := wp_iadd rfl
theorem r_M_doubtOf_126 (h : gK c0 = 100) (hx : 0 ≤ s1 ∧ s1 < gN c0) : Wp L d k_M_doubtOf 126 [l0, l1, l2, l3, l4, l5] [vI s1, vR c0] σ Q ↔ Wp L d k_M_doubtOf 127 [l0, l1, l2, l3, l4, l5] [vI (σ c0 s1.toNat)] σ Q := wp_iald rfl h hx
theorem r_M_doubtOf_127 : Wp L d k_M_doubtOf 127 [l0, l1, l2, l3, l4, l5] [vI s0] σ Q ↔ (if s0 ≤ 0 then Wp L d k_M_doubtOf 134 [l0, l1, l2, l3, l4, l5] [] σ Q else Wp L d k_M_doubtOf 130 [l0, l1, l2, l3, l4, l5] [] σ Q) := wp_if_le rfl
theorem r_M_doubtOf_130 : Wp L d k_M_doubtOf 130 [l0, l1, l2, l3, l4, l5] [] σ Q ↔ Wp L d k_M_doubtOf 131 [l0, l1, l2, l3, l4, l5] [vI 2] σ Q := wp_push rfl
theorem r_M_doubtOf_131 : Wp L d k_M_doubtOf 131 [l0, l1, l2, l3, l4, l5] [vI s0] σ Q ↔ Wp L d k_M_doubtOf 143 [l0, l1, l2, l3, l4, l5] [vI s0] σ Q := wp_goto rfl
theorem r_M_doubtOf_134 : Wp L d k_M_doubtOf 134 [l0, l1, l2, vI a3, l4, l5] [] σ Q ↔ Wp L d k_M_doubtOf 135 [l0, l1, l2, vI a3, l4, l5] [vI a3] σ Q := wp_iload rfl rfl
theorem r_M_doubtOf_135 : Wp L d k_M_doubtOf 135 [l0, l1, l2, l3, l4, l5] [vI s0] σ Q ↔ (if s0 = 0 then Wp L d k_M_doubtOf 142 [l0, l1, l2, l3, l4, l5] [] σ Q else Wp L d k_M_doubtOf 138 [l0, l1, l2, l3, l4, l5] [] σ Q) := wp_if_eq rfl
theorem r_M_doubtOf_138 : Wp L d k_M_doubtOf 138 [l0, l1, l2, l3, l4, l5] [] σ Q ↔ Wp L d k_M_doubtOf 139 [l0, l1, l2, l3, l4, l5] [vI 1] σ Q := wp_push rfl
theorem r_M_doubtOf_139 : Wp L d k_M_doubtOf 139 [l0, l1, l2, l3, l4, l5] [vI s0] σ Q ↔ Wp L d k_M_doubtOf 143 [l0, l1, l2, l3, l4, l5] [vI s0] σ Q := wp_goto rfl
theorem r_M_doubtOf_142 : Wp L d k_M_doubtOf 142 [l0, l1, l2, l3, l4, l5] [] σ Q ↔ Wp L d k_M_doubtOf 143 [l0, l1, l2, l3, l4, l5] [vI 0] σ Q := wp_push rfl
theorem r_M_doubtOf_143 : Wp L d k_M_doubtOf 143 [l0, l1, l2, l3, l4, l5] [vI s0] σ Q ↔ Q (some (vI s0)) σ := wp_iret rfl
theorem r_M_doubtOf_2 : Wp L (d + 1) k_M_doubtOf 2 [l0, l1, l2, l3, l4, l5] [vI s1, vR 293] σ Q ↔ Wp L (d + 1) k_M_doubtOf 5 [l0, l1, l2, l3, l4, l5] [vI (w32 (120 + w32 (12 * s1)))] σ Q := wp_callR (d := d + 0) (as := [vR 293, vI s1]) (rest := []) rfl rfl rfl rfl rfl rfl rfl (grecv_k (by rw [gK_293]) rfl) (sp_M_partAt)
theorem r_M_doubtOf_25 : Wp L (d + 1) k_M_doubtOf 25 [l0, l1, l2, l3, l4, l5] [vI s1, vR 293] σ Q ↔ Wp L (d + 1) k_M_doubtOf 28 [l0, l1, l2, l3, l4, l5] [vI (w32 (120 + w32 (12 * s1)))] σ Q := wp_callR (d := d + 0) (as := [vR 293, vI s1]) (rest := []) rfl rfl rfl rfl rfl rfl rfl (grecv_k (by rw [gK_293]) rfl) (sp_M_partAt)
theorem sp_M_doubtOf (hw : WB (σ 294)) (h : 0 ≤ a1 ∧ a1 < σ 294 1) : Run L (d + 1) 284 [vR 293, vI a1] σ (some (vI (brdt (σ 294) a1.toNat))) σ := by
  refine Run_of (C' := k_M_doubtOf) rfl ?_
  show Wp L (d + 1) k_M_doubtOf 0 [vR 293, vI a1, vU, vU, vU, vU] [] σ _
  obtain ⟨K293, Q293, K294, N294⟩ := litM
  have w1 := hw.1
  have w2 := hw.2.1
  simp (disch := first | assumption | exact gb_01 _ | omega) only [r_M_doubtOf_0, r_M_doubtOf_1, r_M_doubtOf_2, r_M_doubtOf_5, r_M_doubtOf_6, r_M_doubtOf_7, r_M_doubtOf_8, r_M_doubtOf_9, r_M_doubtOf_13, r_M_doubtOf_14, r_M_doubtOf_17, r_M_doubtOf_18, r_M_doubtOf_19, r_M_doubtOf_22, r_M_doubtOf_23, r_M_doubtOf_25, r_M_doubtOf_28, r_M_doubtOf_30, r_M_doubtOf_31, r_M_doubtOf_34, r_M_doubtOf_36, r_M_doubtOf_37, r_M_doubtOf_40, r_M_doubtOf_41, r_M_doubtOf_44, r_M_doubtOf_46, r_M_doubtOf_47, r_M_doubtOf_48, r_M_doubtOf_51, r_M_doubtOf_52, r_M_doubtOf_55, r_M_doubtOf_57, r_M_doubtOf_59, r_M_doubtOf_60, r_M_doubtOf_61, r_M_doubtOf_62, r_M_doubtOf_65, r_M_doubtOf_66, r_M_doubtOf_68, r_M_doubtOf_69, r_M_doubtOf_70, r_M_doubtOf_73, r_M_doubtOf_74, r_M_doubtOf_77, r_M_doubtOf_79, r_M_doubtOf_81, r_M_doubtOf_82, r_M_doubtOf_83, r_M_doubtOf_84, r_M_doubtOf_87, r_M_doubtOf_88, r_M_doubtOf_90, r_M_doubtOf_91, r_M_doubtOf_92, r_M_doubtOf_95, r_M_doubtOf_96, r_M_doubtOf_99, r_M_doubtOf_101, r_M_doubtOf_102, r_M_doubtOf_103, r_M_doubtOf_104, r_M_doubtOf_107, r_M_doubtOf_108, r_M_doubtOf_111, r_M_doubtOf_112, r_M_doubtOf_113, r_M_doubtOf_116, r_M_doubtOf_119, r_M_doubtOf_120, r_M_doubtOf_123, r_M_doubtOf_124, r_M_doubtOf_125, r_M_doubtOf_126, r_M_doubtOf_127, r_M_doubtOf_130, r_M_doubtOf_131, r_M_doubtOf_134, r_M_doubtOf_135, r_M_doubtOf_138, r_M_doubtOf_139, r_M_doubtOf_142, r_M_doubtOf_143, Q293, w32_gb, w32i, tn_add, tn_mul, Int.toNat_natCast, Int.toNat_zero, Int.reduceLE, Int.reduceLT, Int.reduceEq, Int.reduceNe, gb_T, gb_F, Int.reduceToNat, eq_self, true_or, or_true, and_true, true_and, and_self, ↓ite_gb0, ↓ite_gbn, ↓if_pos, ↓if_neg, if_true, if_false, not_true_eq_false, not_false_eq_true, gb_ne0, gb_eq0]
  refine wloop (n := (σ 294 1).toNat) (I := fun k ls τ => (∃ l, ls = [vR 293, vI a1, vI (120 + 12 * a1), vI (brlk (σ 294) a1.toNat k), vI (k : Int), l]) ∧ τ = σ) (fun k ls τ hk hi hq => ?_) (fun ls τ hi => ?_) (σ 294 1).toNat 0 (by omega) _ _ ⟨⟨_, rfl⟩, rfl⟩
  · obtain ⟨⟨l, rfl⟩, rfl⟩ := hi
    have z := brlk_01 (τ 294) a1.toNat k
    have fin : ∀ (y : Int) (l : gV), y = brlk (τ 294) a1.toNat (k + 1) → Wp L (d + 1) k_M_doubtOf 11 [vR 293, vI a1, vI (120 + 12 * a1), vI y, vI ((k : Int) + 1), l] [] τ _ := fun y l e => hq _ _ ⟨⟨l, by rw [e, show (((k + 1 : Nat)) : Int) = (k : Int) + 1 by omega]⟩, rfl⟩
    rw [r_M_doubtOf_11]
    by_cases c0 : brlk (τ 294) a1.toNat k = 1
    · simp (disch := first | assumption | exact gb_01 _ | omega) only [r_M_doubtOf_0, r_M_doubtOf_1, r_M_doubtOf_2, r_M_doubtOf_5, r_M_doubtOf_6, r_M_doubtOf_7, r_M_doubtOf_8, r_M_doubtOf_9, r_M_doubtOf_13, r_M_doubtOf_14, r_M_doubtOf_17, r_M_doubtOf_18, r_M_doubtOf_19, r_M_doubtOf_22, r_M_doubtOf_23, r_M_doubtOf_25, r_M_doubtOf_28, r_M_doubtOf_30, r_M_doubtOf_31, r_M_doubtOf_34, r_M_doubtOf_36, r_M_doubtOf_37, r_M_doubtOf_40, r_M_doubtOf_41, r_M_doubtOf_44, r_M_doubtOf_46, r_M_doubtOf_47, r_M_doubtOf_48, r_M_doubtOf_51, r_M_doubtOf_52, r_M_doubtOf_55, r_M_doubtOf_57, r_M_doubtOf_59, r_M_doubtOf_60, r_M_doubtOf_61, r_M_doubtOf_62, r_M_doubtOf_65, r_M_doubtOf_66, r_M_doubtOf_68, r_M_doubtOf_69, r_M_doubtOf_70, r_M_doubtOf_73, r_M_doubtOf_74, r_M_doubtOf_77, r_M_doubtOf_79, r_M_doubtOf_81, r_M_doubtOf_82, r_M_doubtOf_83, r_M_doubtOf_84, r_M_doubtOf_87, r_M_doubtOf_88, r_M_doubtOf_90, r_M_doubtOf_91, r_M_doubtOf_92, r_M_doubtOf_95, r_M_doubtOf_96, r_M_doubtOf_99, r_M_doubtOf_101, r_M_doubtOf_102, r_M_doubtOf_103, r_M_doubtOf_104, r_M_doubtOf_107, r_M_doubtOf_108, r_M_doubtOf_111, r_M_doubtOf_112, r_M_doubtOf_113, r_M_doubtOf_116, r_M_doubtOf_119, r_M_doubtOf_120, r_M_doubtOf_123, r_M_doubtOf_124, r_M_doubtOf_125, r_M_doubtOf_126, r_M_doubtOf_127, r_M_doubtOf_130, r_M_doubtOf_131, r_M_doubtOf_134, r_M_doubtOf_135, r_M_doubtOf_138, r_M_doubtOf_139, r_M_doubtOf_142, r_M_doubtOf_143, Q293, w32_gb, w32i, tn_add, tn_mul, Int.toNat_natCast, Int.toNat_zero, Int.reduceLE, Int.reduceLT, Int.reduceEq, Int.reduceNe, gb_T, gb_F, Int.reduceToNat, eq_self, true_or, or_true, and_true, true_and, and_self, ↓ite_gb0, ↓ite_gbn, ↓if_pos, ↓if_neg, if_true, if_false, not_true_eq_false, not_false_eq_true, gb_ne0, gb_eq0]
      exact fin _ _ (if_pos (Or.inl c0)).symm
    · by_cases c1 : (k : Int) = a1
      · simp (disch := first | assumption | exact gb_01 _ | omega) only [r_M_doubtOf_0, r_M_doubtOf_1, r_M_doubtOf_2, r_M_doubtOf_5, r_M_doubtOf_6, r_M_doubtOf_7, r_M_doubtOf_8, r_M_doubtOf_9, r_M_doubtOf_13, r_M_doubtOf_14, r_M_doubtOf_17, r_M_doubtOf_18, r_M_doubtOf_19, r_M_doubtOf_22, r_M_doubtOf_23, r_M_doubtOf_25, r_M_doubtOf_28, r_M_doubtOf_30, r_M_doubtOf_31, r_M_doubtOf_34, r_M_doubtOf_36, r_M_doubtOf_37, r_M_doubtOf_40, r_M_doubtOf_41, r_M_doubtOf_44, r_M_doubtOf_46, r_M_doubtOf_47, r_M_doubtOf_48, r_M_doubtOf_51, r_M_doubtOf_52, r_M_doubtOf_55, r_M_doubtOf_57, r_M_doubtOf_59, r_M_doubtOf_60, r_M_doubtOf_61, r_M_doubtOf_62, r_M_doubtOf_65, r_M_doubtOf_66, r_M_doubtOf_68, r_M_doubtOf_69, r_M_doubtOf_70, r_M_doubtOf_73, r_M_doubtOf_74, r_M_doubtOf_77, r_M_doubtOf_79, r_M_doubtOf_81, r_M_doubtOf_82, r_M_doubtOf_83, r_M_doubtOf_84, r_M_doubtOf_87, r_M_doubtOf_88, r_M_doubtOf_90, r_M_doubtOf_91, r_M_doubtOf_92, r_M_doubtOf_95, r_M_doubtOf_96, r_M_doubtOf_99, r_M_doubtOf_101, r_M_doubtOf_102, r_M_doubtOf_103, r_M_doubtOf_104, r_M_doubtOf_107, r_M_doubtOf_108, r_M_doubtOf_111, r_M_doubtOf_112, r_M_doubtOf_113, r_M_doubtOf_116, r_M_doubtOf_119, r_M_doubtOf_120, r_M_doubtOf_123, r_M_doubtOf_124, r_M_doubtOf_125, r_M_doubtOf_126, r_M_doubtOf_127, r_M_doubtOf_130, r_M_doubtOf_131, r_M_doubtOf_134, r_M_doubtOf_135, r_M_doubtOf_138, r_M_doubtOf_139, r_M_doubtOf_142, r_M_doubtOf_143, Q293, w32_gb, w32i, tn_add, tn_mul, Int.toNat_natCast, Int.toNat_zero, Int.reduceLE, Int.reduceLT, Int.reduceEq, Int.reduceNe, gb_T, gb_F, Int.reduceToNat, eq_self, true_or, or_true, and_true, true_and, and_self, ↓ite_gb0, ↓ite_gbn, ↓if_pos, ↓if_neg, if_true, if_false, not_true_eq_false, not_false_eq_true, gb_ne0, gb_eq0]
        exact fin _ _ (if_neg (fun x => by rcases x with x | x; exact c0 x; omega)).symm
      · by_cases c2 : τ 294 (120 + 12 * k) = 4
        · simp (disch := first | assumption | exact gb_01 _ | omega) only [r_M_doubtOf_0, r_M_doubtOf_1, r_M_doubtOf_2, r_M_doubtOf_5, r_M_doubtOf_6, r_M_doubtOf_7, r_M_doubtOf_8, r_M_doubtOf_9, r_M_doubtOf_13, r_M_doubtOf_14, r_M_doubtOf_17, r_M_doubtOf_18, r_M_doubtOf_19, r_M_doubtOf_22, r_M_doubtOf_23, r_M_doubtOf_25, r_M_doubtOf_28, r_M_doubtOf_30, r_M_doubtOf_31, r_M_doubtOf_34, r_M_doubtOf_36, r_M_doubtOf_37, r_M_doubtOf_40, r_M_doubtOf_41, r_M_doubtOf_44, r_M_doubtOf_46, r_M_doubtOf_47, r_M_doubtOf_48, r_M_doubtOf_51, r_M_doubtOf_52, r_M_doubtOf_55, r_M_doubtOf_57, r_M_doubtOf_59, r_M_doubtOf_60, r_M_doubtOf_61, r_M_doubtOf_62, r_M_doubtOf_65, r_M_doubtOf_66, r_M_doubtOf_68, r_M_doubtOf_69, r_M_doubtOf_70, r_M_doubtOf_73, r_M_doubtOf_74, r_M_doubtOf_77, r_M_doubtOf_79, r_M_doubtOf_81, r_M_doubtOf_82, r_M_doubtOf_83, r_M_doubtOf_84, r_M_doubtOf_87, r_M_doubtOf_88, r_M_doubtOf_90, r_M_doubtOf_91, r_M_doubtOf_92, r_M_doubtOf_95, r_M_doubtOf_96, r_M_doubtOf_99, r_M_doubtOf_101, r_M_doubtOf_102, r_M_doubtOf_103, r_M_doubtOf_104, r_M_doubtOf_107, r_M_doubtOf_108, r_M_doubtOf_111, r_M_doubtOf_112, r_M_doubtOf_113, r_M_doubtOf_116, r_M_doubtOf_119, r_M_doubtOf_120, r_M_doubtOf_123, r_M_doubtOf_124, r_M_doubtOf_125, r_M_doubtOf_126, r_M_doubtOf_127, r_M_doubtOf_130, r_M_doubtOf_131, r_M_doubtOf_134, r_M_doubtOf_135, r_M_doubtOf_138, r_M_doubtOf_139, r_M_doubtOf_142, r_M_doubtOf_143, Q293, w32_gb, w32i, tn_add, tn_mul, Int.toNat_natCast, Int.toNat_zero, Int.reduceLE, Int.reduceLT, Int.reduceEq, Int.reduceNe, gb_T, gb_F, Int.reduceToNat, eq_self, true_or, or_true, and_true, true_and, and_self, ↓ite_gb0, ↓ite_gbn, ↓if_pos, ↓if_neg, if_true, if_false, not_true_eq_false, not_false_eq_true, gb_ne0, gb_eq0]
          exact fin _ _ (if_neg (fun x => by rcases x with x | x; exact c0 x; omega)).symm
        · by_cases c3 : τ 294 (120 + 12 * k + 7) = τ 294 (120 + 12 * a1.toNat + 7)
          · by_cases c4 : τ 294 (120 + 12 * k + 6) = τ 294 (120 + 12 * a1.toNat + 6)
            · by_cases c5 : 0 < τ 294 (120 + 12 * k + 4)
              · simp (disch := first | assumption | exact gb_01 _ | omega) only [r_M_doubtOf_0, r_M_doubtOf_1, r_M_doubtOf_2, r_M_doubtOf_5, r_M_doubtOf_6, r_M_doubtOf_7, r_M_doubtOf_8, r_M_doubtOf_9, r_M_doubtOf_13, r_M_doubtOf_14, r_M_doubtOf_17, r_M_doubtOf_18, r_M_doubtOf_19, r_M_doubtOf_22, r_M_doubtOf_23, r_M_doubtOf_25, r_M_doubtOf_28, r_M_doubtOf_30, r_M_doubtOf_31, r_M_doubtOf_34, r_M_doubtOf_36, r_M_doubtOf_37, r_M_doubtOf_40, r_M_doubtOf_41, r_M_doubtOf_44, r_M_doubtOf_46, r_M_doubtOf_47, r_M_doubtOf_48, r_M_doubtOf_51, r_M_doubtOf_52, r_M_doubtOf_55, r_M_doubtOf_57, r_M_doubtOf_59, r_M_doubtOf_60, r_M_doubtOf_61, r_M_doubtOf_62, r_M_doubtOf_65, r_M_doubtOf_66, r_M_doubtOf_68, r_M_doubtOf_69, r_M_doubtOf_70, r_M_doubtOf_73, r_M_doubtOf_74, r_M_doubtOf_77, r_M_doubtOf_79, r_M_doubtOf_81, r_M_doubtOf_82, r_M_doubtOf_83, r_M_doubtOf_84, r_M_doubtOf_87, r_M_doubtOf_88, r_M_doubtOf_90, r_M_doubtOf_91, r_M_doubtOf_92, r_M_doubtOf_95, r_M_doubtOf_96, r_M_doubtOf_99, r_M_doubtOf_101, r_M_doubtOf_102, r_M_doubtOf_103, r_M_doubtOf_104, r_M_doubtOf_107, r_M_doubtOf_108, r_M_doubtOf_111, r_M_doubtOf_112, r_M_doubtOf_113, r_M_doubtOf_116, r_M_doubtOf_119, r_M_doubtOf_120, r_M_doubtOf_123, r_M_doubtOf_124, r_M_doubtOf_125, r_M_doubtOf_126, r_M_doubtOf_127, r_M_doubtOf_130, r_M_doubtOf_131, r_M_doubtOf_134, r_M_doubtOf_135, r_M_doubtOf_138, r_M_doubtOf_139, r_M_doubtOf_142, r_M_doubtOf_143, Q293, w32_gb, w32i, tn_add, tn_mul, Int.toNat_natCast, Int.toNat_zero, Int.reduceLE, Int.reduceLT, Int.reduceEq, Int.reduceNe, gb_T, gb_F, Int.reduceToNat, eq_self, true_or, or_true, and_true, true_and, and_self, ↓ite_gb0, ↓ite_gbn, ↓if_pos, ↓if_neg, if_true, if_false, not_true_eq_false, not_false_eq_true, gb_ne0, gb_eq0]
                exact fin _ _ (if_pos (Or.inr ⟨by omega, by omega, c3, c4, c5⟩)).symm
              · simp (disch := first | assumption | exact gb_01 _ | omega) only [r_M_doubtOf_0, r_M_doubtOf_1, r_M_doubtOf_2, r_M_doubtOf_5, r_M_doubtOf_6, r_M_doubtOf_7, r_M_doubtOf_8, r_M_doubtOf_9, r_M_doubtOf_13, r_M_doubtOf_14, r_M_doubtOf_17, r_M_doubtOf_18, r_M_doubtOf_19, r_M_doubtOf_22, r_M_doubtOf_23, r_M_doubtOf_25, r_M_doubtOf_28, r_M_doubtOf_30, r_M_doubtOf_31, r_M_doubtOf_34, r_M_doubtOf_36, r_M_doubtOf_37, r_M_doubtOf_40, r_M_doubtOf_41, r_M_doubtOf_44, r_M_doubtOf_46, r_M_doubtOf_47, r_M_doubtOf_48, r_M_doubtOf_51, r_M_doubtOf_52, r_M_doubtOf_55, r_M_doubtOf_57, r_M_doubtOf_59, r_M_doubtOf_60, r_M_doubtOf_61, r_M_doubtOf_62, r_M_doubtOf_65, r_M_doubtOf_66, r_M_doubtOf_68, r_M_doubtOf_69, r_M_doubtOf_70, r_M_doubtOf_73, r_M_doubtOf_74, r_M_doubtOf_77, r_M_doubtOf_79, r_M_doubtOf_81, r_M_doubtOf_82, r_M_doubtOf_83, r_M_doubtOf_84, r_M_doubtOf_87, r_M_doubtOf_88, r_M_doubtOf_90, r_M_doubtOf_91, r_M_doubtOf_92, r_M_doubtOf_95, r_M_doubtOf_96, r_M_doubtOf_99, r_M_doubtOf_101, r_M_doubtOf_102, r_M_doubtOf_103, r_M_doubtOf_104, r_M_doubtOf_107, r_M_doubtOf_108, r_M_doubtOf_111, r_M_doubtOf_112, r_M_doubtOf_113, r_M_doubtOf_116, r_M_doubtOf_119, r_M_doubtOf_120, r_M_doubtOf_123, r_M_doubtOf_124, r_M_doubtOf_125, r_M_doubtOf_126, r_M_doubtOf_127, r_M_doubtOf_130, r_M_doubtOf_131, r_M_doubtOf_134, r_M_doubtOf_135, r_M_doubtOf_138, r_M_doubtOf_139, r_M_doubtOf_142, r_M_doubtOf_143, Q293, w32_gb, w32i, tn_add, tn_mul, Int.toNat_natCast, Int.toNat_zero, Int.reduceLE, Int.reduceLT, Int.reduceEq, Int.reduceNe, gb_T, gb_F, Int.reduceToNat, eq_self, true_or, or_true, and_true, true_and, and_self, ↓ite_gb0, ↓ite_gbn, ↓if_pos, ↓if_neg, if_true, if_false, not_true_eq_false, not_false_eq_true, gb_ne0, gb_eq0]
                exact fin _ _ (if_neg (fun x => by rcases x with x | x; exact c0 x; omega)).symm
            · simp (disch := first | assumption | exact gb_01 _ | omega) only [r_M_doubtOf_0, r_M_doubtOf_1, r_M_doubtOf_2, r_M_doubtOf_5, r_M_doubtOf_6, r_M_doubtOf_7, r_M_doubtOf_8, r_M_doubtOf_9, r_M_doubtOf_13, r_M_doubtOf_14, r_M_doubtOf_17, r_M_doubtOf_18, r_M_doubtOf_19, r_M_doubtOf_22, r_M_doubtOf_23, r_M_doubtOf_25, r_M_doubtOf_28, r_M_doubtOf_30, r_M_doubtOf_31, r_M_doubtOf_34, r_M_doubtOf_36, r_M_doubtOf_37, r_M_doubtOf_40, r_M_doubtOf_41, r_M_doubtOf_44, r_M_doubtOf_46, r_M_doubtOf_47, r_M_doubtOf_48, r_M_doubtOf_51, r_M_doubtOf_52, r_M_doubtOf_55, r_M_doubtOf_57, r_M_doubtOf_59, r_M_doubtOf_60, r_M_doubtOf_61, r_M_doubtOf_62, r_M_doubtOf_65, r_M_doubtOf_66, r_M_doubtOf_68, r_M_doubtOf_69, r_M_doubtOf_70, r_M_doubtOf_73, r_M_doubtOf_74, r_M_doubtOf_77, r_M_doubtOf_79, r_M_doubtOf_81, r_M_doubtOf_82, r_M_doubtOf_83, r_M_doubtOf_84, r_M_doubtOf_87, r_M_doubtOf_88, r_M_doubtOf_90, r_M_doubtOf_91, r_M_doubtOf_92, r_M_doubtOf_95, r_M_doubtOf_96, r_M_doubtOf_99, r_M_doubtOf_101, r_M_doubtOf_102, r_M_doubtOf_103, r_M_doubtOf_104, r_M_doubtOf_107, r_M_doubtOf_108, r_M_doubtOf_111, r_M_doubtOf_112, r_M_doubtOf_113, r_M_doubtOf_116, r_M_doubtOf_119, r_M_doubtOf_120, r_M_doubtOf_123, r_M_doubtOf_124, r_M_doubtOf_125, r_M_doubtOf_126, r_M_doubtOf_127, r_M_doubtOf_130, r_M_doubtOf_131, r_M_doubtOf_134, r_M_doubtOf_135, r_M_doubtOf_138, r_M_doubtOf_139, r_M_doubtOf_142, r_M_doubtOf_143, Q293, w32_gb, w32i, tn_add, tn_mul, Int.toNat_natCast, Int.toNat_zero, Int.reduceLE, Int.reduceLT, Int.reduceEq, Int.reduceNe, gb_T, gb_F, Int.reduceToNat, eq_self, true_or, or_true, and_true, true_and, and_self, ↓ite_gb0, ↓ite_gbn, ↓if_pos, ↓if_neg, if_true, if_false, not_true_eq_false, not_false_eq_true, gb_ne0, gb_eq0]
              exact fin _ _ (if_neg (fun x => by rcases x with x | x; exact c0 x; omega)).symm
          · simp (disch := first | assumption | exact gb_01 _ | omega) only [r_M_doubtOf_0, r_M_doubtOf_1, r_M_doubtOf_2, r_M_doubtOf_5, r_M_doubtOf_6, r_M_doubtOf_7, r_M_doubtOf_8, r_M_doubtOf_9, r_M_doubtOf_13, r_M_doubtOf_14, r_M_doubtOf_17, r_M_doubtOf_18, r_M_doubtOf_19, r_M_doubtOf_22, r_M_doubtOf_23, r_M_doubtOf_25, r_M_doubtOf_28, r_M_doubtOf_30, r_M_doubtOf_31, r_M_doubtOf_34, r_M_doubtOf_36, r_M_doubtOf_37, r_M_doubtOf_40, r_M_doubtOf_41, r_M_doubtOf_44, r_M_doubtOf_46, r_M_doubtOf_47, r_M_doubtOf_48, r_M_doubtOf_51, r_M_doubtOf_52, r_M_doubtOf_55, r_M_doubtOf_57, r_M_doubtOf_59, r_M_doubtOf_60, r_M_doubtOf_61, r_M_doubtOf_62, r_M_doubtOf_65, r_M_doubtOf_66, r_M_doubtOf_68, r_M_doubtOf_69, r_M_doubtOf_70, r_M_doubtOf_73, r_M_doubtOf_74, r_M_doubtOf_77, r_M_doubtOf_79, r_M_doubtOf_81, r_M_doubtOf_82, r_M_doubtOf_83, r_M_doubtOf_84, r_M_doubtOf_87, r_M_doubtOf_88, r_M_doubtOf_90, r_M_doubtOf_91, r_M_doubtOf_92, r_M_doubtOf_95, r_M_doubtOf_96, r_M_doubtOf_99, r_M_doubtOf_101, r_M_doubtOf_102, r_M_doubtOf_103, r_M_doubtOf_104, r_M_doubtOf_107, r_M_doubtOf_108, r_M_doubtOf_111, r_M_doubtOf_112, r_M_doubtOf_113, r_M_doubtOf_116, r_M_doubtOf_119, r_M_doubtOf_120, r_M_doubtOf_123, r_M_doubtOf_124, r_M_doubtOf_125, r_M_doubtOf_126, r_M_doubtOf_127, r_M_doubtOf_130, r_M_doubtOf_131, r_M_doubtOf_134, r_M_doubtOf_135, r_M_doubtOf_138, r_M_doubtOf_139, r_M_doubtOf_142, r_M_doubtOf_143, Q293, w32_gb, w32i, tn_add, tn_mul, Int.toNat_natCast, Int.toNat_zero, Int.reduceLE, Int.reduceLT, Int.reduceEq, Int.reduceNe, gb_T, gb_F, Int.reduceToNat, eq_self, true_or, or_true, and_true, true_and, and_self, ↓ite_gb0, ↓ite_gbn, ↓if_pos, ↓if_neg, if_true, if_false, not_true_eq_false, not_false_eq_true, gb_ne0, gb_eq0]
            exact fin _ _ (if_neg (fun x => by rcases x with x | x; exact c0 x; omega)).symm
  · obtain ⟨⟨l, rfl⟩, rfl⟩ := hi
    rw [r_M_doubtOf_11]
    unfold brdt
    by_cases e : 0 < τ 294 (120 + 12 * a1.toNat + 4)
    · rw [if_pos e]
      simp (disch := first | assumption | exact gb_01 _ | omega) only [r_M_doubtOf_0, r_M_doubtOf_1, r_M_doubtOf_2, r_M_doubtOf_5, r_M_doubtOf_6, r_M_doubtOf_7, r_M_doubtOf_8, r_M_doubtOf_9, r_M_doubtOf_13, r_M_doubtOf_14, r_M_doubtOf_17, r_M_doubtOf_18, r_M_doubtOf_19, r_M_doubtOf_22, r_M_doubtOf_23, r_M_doubtOf_25, r_M_doubtOf_28, r_M_doubtOf_30, r_M_doubtOf_31, r_M_doubtOf_34, r_M_doubtOf_36, r_M_doubtOf_37, r_M_doubtOf_40, r_M_doubtOf_41, r_M_doubtOf_44, r_M_doubtOf_46, r_M_doubtOf_47, r_M_doubtOf_48, r_M_doubtOf_51, r_M_doubtOf_52, r_M_doubtOf_55, r_M_doubtOf_57, r_M_doubtOf_59, r_M_doubtOf_60, r_M_doubtOf_61, r_M_doubtOf_62, r_M_doubtOf_65, r_M_doubtOf_66, r_M_doubtOf_68, r_M_doubtOf_69, r_M_doubtOf_70, r_M_doubtOf_73, r_M_doubtOf_74, r_M_doubtOf_77, r_M_doubtOf_79, r_M_doubtOf_81, r_M_doubtOf_82, r_M_doubtOf_83, r_M_doubtOf_84, r_M_doubtOf_87, r_M_doubtOf_88, r_M_doubtOf_90, r_M_doubtOf_91, r_M_doubtOf_92, r_M_doubtOf_95, r_M_doubtOf_96, r_M_doubtOf_99, r_M_doubtOf_101, r_M_doubtOf_102, r_M_doubtOf_103, r_M_doubtOf_104, r_M_doubtOf_107, r_M_doubtOf_108, r_M_doubtOf_111, r_M_doubtOf_112, r_M_doubtOf_113, r_M_doubtOf_116, r_M_doubtOf_119, r_M_doubtOf_120, r_M_doubtOf_123, r_M_doubtOf_124, r_M_doubtOf_125, r_M_doubtOf_126, r_M_doubtOf_127, r_M_doubtOf_130, r_M_doubtOf_131, r_M_doubtOf_134, r_M_doubtOf_135, r_M_doubtOf_138, r_M_doubtOf_139, r_M_doubtOf_142, r_M_doubtOf_143, Q293, w32_gb, w32i, tn_add, tn_mul, Int.toNat_natCast, Int.toNat_zero, Int.reduceLE, Int.reduceLT, Int.reduceEq, Int.reduceNe, gb_T, gb_F, Int.reduceToNat, eq_self, true_or, or_true, and_true, true_and, and_self, ↓ite_gb0, ↓ite_gbn, ↓if_pos, ↓if_neg, if_true, if_false, not_true_eq_false, not_false_eq_true, gb_ne0, gb_eq0]
    · rw [if_neg e]
      rcases brlk_01 (τ 294) a1.toNat (τ 294 1).toNat with z | z
      · rw [z]
        simp (disch := first | assumption | exact gb_01 _ | omega) only [r_M_doubtOf_0, r_M_doubtOf_1, r_M_doubtOf_2, r_M_doubtOf_5, r_M_doubtOf_6, r_M_doubtOf_7, r_M_doubtOf_8, r_M_doubtOf_9, r_M_doubtOf_13, r_M_doubtOf_14, r_M_doubtOf_17, r_M_doubtOf_18, r_M_doubtOf_19, r_M_doubtOf_22, r_M_doubtOf_23, r_M_doubtOf_25, r_M_doubtOf_28, r_M_doubtOf_30, r_M_doubtOf_31, r_M_doubtOf_34, r_M_doubtOf_36, r_M_doubtOf_37, r_M_doubtOf_40, r_M_doubtOf_41, r_M_doubtOf_44, r_M_doubtOf_46, r_M_doubtOf_47, r_M_doubtOf_48, r_M_doubtOf_51, r_M_doubtOf_52, r_M_doubtOf_55, r_M_doubtOf_57, r_M_doubtOf_59, r_M_doubtOf_60, r_M_doubtOf_61, r_M_doubtOf_62, r_M_doubtOf_65, r_M_doubtOf_66, r_M_doubtOf_68, r_M_doubtOf_69, r_M_doubtOf_70, r_M_doubtOf_73, r_M_doubtOf_74, r_M_doubtOf_77, r_M_doubtOf_79, r_M_doubtOf_81, r_M_doubtOf_82, r_M_doubtOf_83, r_M_doubtOf_84, r_M_doubtOf_87, r_M_doubtOf_88, r_M_doubtOf_90, r_M_doubtOf_91, r_M_doubtOf_92, r_M_doubtOf_95, r_M_doubtOf_96, r_M_doubtOf_99, r_M_doubtOf_101, r_M_doubtOf_102, r_M_doubtOf_103, r_M_doubtOf_104, r_M_doubtOf_107, r_M_doubtOf_108, r_M_doubtOf_111, r_M_doubtOf_112, r_M_doubtOf_113, r_M_doubtOf_116, r_M_doubtOf_119, r_M_doubtOf_120, r_M_doubtOf_123, r_M_doubtOf_124, r_M_doubtOf_125, r_M_doubtOf_126, r_M_doubtOf_127, r_M_doubtOf_130, r_M_doubtOf_131, r_M_doubtOf_134, r_M_doubtOf_135, r_M_doubtOf_138, r_M_doubtOf_139, r_M_doubtOf_142, r_M_doubtOf_143, Q293, w32_gb, w32i, tn_add, tn_mul, Int.toNat_natCast, Int.toNat_zero, Int.reduceLE, Int.reduceLT, Int.reduceEq, Int.reduceNe, gb_T, gb_F, Int.reduceToNat, eq_self, true_or, or_true, and_true, true_and, and_self, ↓ite_gb0, ↓ite_gbn, ↓if_pos, ↓if_neg, if_true, if_false, not_true_eq_false, not_false_eq_true, gb_ne0, gb_eq0]
      · rw [z]
        simp (disch := first | assumption | exact gb_01 _ | omega) only [r_M_doubtOf_0, r_M_doubtOf_1, r_M_doubtOf_2, r_M_doubtOf_5, r_M_doubtOf_6, r_M_doubtOf_7, r_M_doubtOf_8, r_M_doubtOf_9, r_M_doubtOf_13, r_M_doubtOf_14, r_M_doubtOf_17, r_M_doubtOf_18, r_M_doubtOf_19, r_M_doubtOf_22, r_M_doubtOf_23, r_M_doubtOf_25, r_M_doubtOf_28, r_M_doubtOf_30, r_M_doubtOf_31, r_M_doubtOf_34, r_M_doubtOf_36, r_M_doubtOf_37, r_M_doubtOf_40, r_M_doubtOf_41, r_M_doubtOf_44, r_M_doubtOf_46, r_M_doubtOf_47, r_M_doubtOf_48, r_M_doubtOf_51, r_M_doubtOf_52, r_M_doubtOf_55, r_M_doubtOf_57, r_M_doubtOf_59, r_M_doubtOf_60, r_M_doubtOf_61, r_M_doubtOf_62, r_M_doubtOf_65, r_M_doubtOf_66, r_M_doubtOf_68, r_M_doubtOf_69, r_M_doubtOf_70, r_M_doubtOf_73, r_M_doubtOf_74, r_M_doubtOf_77, r_M_doubtOf_79, r_M_doubtOf_81, r_M_doubtOf_82, r_M_doubtOf_83, r_M_doubtOf_84, r_M_doubtOf_87, r_M_doubtOf_88, r_M_doubtOf_90, r_M_doubtOf_91, r_M_doubtOf_92, r_M_doubtOf_95, r_M_doubtOf_96, r_M_doubtOf_99, r_M_doubtOf_101, r_M_doubtOf_102, r_M_doubtOf_103, r_M_doubtOf_104, r_M_doubtOf_107, r_M_doubtOf_108, r_M_doubtOf_111, r_M_doubtOf_112, r_M_doubtOf_113, r_M_doubtOf_116, r_M_doubtOf_119, r_M_doubtOf_120, r_M_doubtOf_123, r_M_doubtOf_124, r_M_doubtOf_125, r_M_doubtOf_126, r_M_doubtOf_127, r_M_doubtOf_130, r_M_doubtOf_131, r_M_doubtOf_134, r_M_doubtOf_135, r_M_doubtOf_138, r_M_doubtOf_139, r_M_doubtOf_142, r_M_doubtOf_143, Q293, w32_gb, w32i, tn_add, tn_mul, Int.toNat_natCast, Int.toNat_zero, Int.reduceLE, Int.reduceLT, Int.reduceEq, Int.reduceNe, gb_T, gb_F, Int.reduceToNat, eq_self, true_or, or_true, and_true, true_and, and_self, ↓ite_gb0, ↓ite_gbn, ↓if_pos, ↓if_neg, if_true, if_false, not_true_eq_false, not_false_eq_true, gb_ne0, gb_eq0]
theorem r_B_doubtedFrom_0 : Wp L d k_B_doubtedFrom 0 [l0, l1, l2, l3] [] σ Q ↔ Wp L d k_B_doubtedFrom 1 [l0, l1, l2, l3] [vI 0] σ Q := wp_push rfl
theorem r_B_doubtedFrom_1 : Wp L d k_B_doubtedFrom 1 [l0, vI a1, l2, l3] [vI s0] σ Q ↔ Wp L d k_B_doubtedFrom 2 [l0, vI a1, vI s0, l3] [] σ Q := wp_istore (i := 2) (ls := [l0, vI a1, l2, l3]) rfl rfl
theorem r_B_doubtedFrom_2 : Wp L d k_B_doubtedFrom 2 [l0, l1, l2, l3] [] σ Q ↔ Wp L d k_B_doubtedFrom 3 [l0, l1, l2, l3] [vI 0] σ Q := wp_push rfl
theorem r_B_doubtedFrom_3 : Wp L d k_B_doubtedFrom 3 [l0, l1, vI a2, l3] [vI s0] σ Q ↔ Wp L d k_B_doubtedFrom 4 [l0, l1, vI a2, vI s0] [] σ Q := wp_istore (i := 3) (ls := [l0, l1, vI a2, l3]) rfl rfl
theorem r_B_doubtedFrom_4 : Wp L d k_B_doubtedFrom 4 [l0, l1, l2, vI a3] [] σ Q ↔ Wp L d k_B_doubtedFrom 5 [l0, l1, l2, vI a3] [vI a3] σ Q := wp_iload rfl rfl
theorem r_B_doubtedFrom_5 : Wp L d k_B_doubtedFrom 5 [vR b0, l1, l2, l3] [vI s0] σ Q ↔ Wp L d k_B_doubtedFrom 6 [vR b0, l1, l2, l3] [vR b0, vI s0] σ Q := wp_aload rfl rfl
theorem r_B_doubtedFrom_6 (h : gK c1 = 1) : Wp L d k_B_doubtedFrom 6 [l0, l1, l2, l3] [vR c1, vI s0] σ Q ↔ Wp L d k_B_doubtedFrom 9 [l0, l1, l2, l3] [vI (σ c1 9), vI s0] σ Q := wp_getI (c := 265) rfl rfl rfl rfl h
theorem r_B_doubtedFrom_9 : Wp L d k_B_doubtedFrom 9 [l0, l1, l2, l3] [vI s1, vI s0] σ Q ↔ (if s1 ≤ s0 then Wp L d k_B_doubtedFrom 56 [l0, l1, l2, l3] [] σ Q else Wp L d k_B_doubtedFrom 12 [l0, l1, l2, l3] [] σ Q) := wp_cmp_ge rfl
theorem r_B_doubtedFrom_12 : Wp L d k_B_doubtedFrom 12 [l0, l1, vI a2, l3] [] σ Q ↔ Wp L d k_B_doubtedFrom 13 [l0, l1, vI a2, l3] [vI a2] σ Q := wp_iload rfl rfl
theorem r_B_doubtedFrom_13 : Wp L d k_B_doubtedFrom 13 [vR b0, l1, l2, l3] [vI s0] σ Q ↔ Wp L d k_B_doubtedFrom 14 [vR b0, l1, l2, l3] [vR b0, vI s0] σ Q := wp_aload rfl rfl
theorem r_B_doubtedFrom_14 (h : gK c1 = 1) : Wp L d k_B_doubtedFrom 14 [l0, l1, l2, l3] [vR c1, vI s0] σ Q ↔ Wp L d k_B_doubtedFrom 17 [l0, l1, l2, l3] [vR (gq c1 3), vI s0] σ Q := wp_getR (c := 387) rfl rfl rfl rfl rfl h
theorem r_B_doubtedFrom_17 : Wp L d k_B_doubtedFrom 17 [l0, l1, l2, vI a3] [vR c1, vI s0] σ Q ↔ Wp L d k_B_doubtedFrom 18 [l0, l1, l2, vI a3] [vI a3, vR c1, vI s0] σ Q := wp_iload rfl rfl
theorem r_B_doubtedFrom_18 (h : gK c1 = 102 ∨ gK c1 = 103) (hx : 0 ≤ s2 ∧ s2 < gN c1) : Wp L d k_B_doubtedFrom 18 [l0, l1, l2, l3] [vI s2, vR c1, vI s0] σ Q ↔ Wp L d k_B_doubtedFrom 19 [l0, l1, l2, l3] [vR (gq c1 s2.toNat), vI s0] σ Q := wp_aald rfl h hx
theorem r_B_doubtedFrom_19 (h : gK c1 = 4) : Wp L d k_B_doubtedFrom 19 [l0, l1, l2, l3] [vR c1, vI s0] σ Q ↔ Wp L d k_B_doubtedFrom 22 [l0, l1, l2, l3] [vI (σ c1 0), vI s0] σ Q := wp_getI (c := 1024) rfl rfl rfl rfl h
theorem r_B_doubtedFrom_22 : Wp L d k_B_doubtedFrom 22 [l0, l1, l2, l3] [vI s1, vI s0] σ Q ↔ Wp L d k_B_doubtedFrom 23 [l0, l1, l2, l3] [vI 4, vI s1, vI s0] σ Q := wp_push rfl
theorem r_B_doubtedFrom_23 : Wp L d k_B_doubtedFrom 23 [l0, l1, l2, l3] [vI s2, vI s1, vI s0] σ Q ↔ (if s1 = s2 then Wp L d k_B_doubtedFrom 44 [l0, l1, l2, l3] [vI s0] σ Q else Wp L d k_B_doubtedFrom 26 [l0, l1, l2, l3] [vI s0] σ Q) := wp_cmp_eq rfl
theorem r_B_doubtedFrom_26 : Wp L d k_B_doubtedFrom 26 [vR b0, l1, l2, l3] [vI s0] σ Q ↔ Wp L d k_B_doubtedFrom 27 [vR b0, l1, l2, l3] [vR b0, vI s0] σ Q := wp_aload rfl rfl
theorem r_B_doubtedFrom_27 : Wp L d k_B_doubtedFrom 27 [vR b0, l1, l2, l3] [vR c1, vI s0] σ Q ↔ Wp L d k_B_doubtedFrom 28 [vR b0, l1, l2, l3] [vR b0, vR c1, vI s0] σ Q := wp_aload rfl rfl
theorem r_B_doubtedFrom_28 (h : gK c2 = 1) : Wp L d k_B_doubtedFrom 28 [l0, l1, l2, l3] [vR c2, vR c1, vI s0] σ Q ↔ Wp L d k_B_doubtedFrom 31 [l0, l1, l2, l3] [vR (gq c2 3), vR c1, vI s0] σ Q := wp_getR (c := 387) rfl rfl rfl rfl rfl h
theorem r_B_doubtedFrom_31 : Wp L d k_B_doubtedFrom 31 [l0, l1, l2, vI a3] [vR c2, vR c1, vI s0] σ Q ↔ Wp L d k_B_doubtedFrom 32 [l0, l1, l2, vI a3] [vI a3, vR c2, vR c1, vI s0] σ Q := wp_iload rfl rfl
theorem r_B_doubtedFrom_32 (h : gK c2 = 102 ∨ gK c2 = 103) (hx : 0 ≤ s3 ∧ s3 < gN c2) : Wp L d k_B_doubtedFrom 32 [l0, l1, l2, l3] [vI s3, vR c2, vR c1, vI s0] σ Q ↔ Wp L d k_B_doubtedFrom 33 [l0, l1, l2, l3] [vR (gq c2 s3.toNat), vR c1, vI s0] σ Q := wp_aald rfl h hx
theorem c_B_doubtedFrom_33 (hR : Run L d 115 [vR c1, vR c2] σ r σ1) (h : gK c1 = 1) : Wp L (d + 1) k_B_doubtedFrom 33 [l0, l1, l2, l3] [vR c2, vR c1, vI s0] σ Q ↔ Wp L (d + 1) k_B_doubtedFrom 36 [l0, l1, l2, l3] (r.toList ++ [vI s0]) σ1 Q := wp_callR (as := [vR c1, vR c2]) (rest := [vI s0]) rfl rfl rfl rfl rfl rfl rfl (grecv_k (by rw [h]) rfl) hR
theorem r_B_doubtedFrom_36 : Wp L d k_B_doubtedFrom 36 [l0, vI a1, l2, l3] [vI s1, vI s0] σ Q ↔ Wp L d k_B_doubtedFrom 37 [l0, vI a1, l2, l3] [vI a1, vI s1, vI s0] σ Q := wp_iload rfl rfl
theorem r_B_doubtedFrom_37 : Wp L d k_B_doubtedFrom 37 [l0, l1, l2, l3] [vI s2, vI s1, vI s0] σ Q ↔ (if s1 < s2 then Wp L d k_B_doubtedFrom 44 [l0, l1, l2, l3] [vI s0] σ Q else Wp L d k_B_doubtedFrom 40 [l0, l1, l2, l3] [vI s0] σ Q) := wp_cmp_lt rfl
theorem r_B_doubtedFrom_40 : Wp L d k_B_doubtedFrom 40 [l0, l1, l2, l3] [vI s0] σ Q ↔ Wp L d k_B_doubtedFrom 41 [l0, l1, l2, l3] [vI 1, vI s0] σ Q := wp_push rfl
theorem r_B_doubtedFrom_41 : Wp L d k_B_doubtedFrom 41 [l0, l1, l2, l3] [vI s1, vI s0] σ Q ↔ Wp L d k_B_doubtedFrom 45 [l0, l1, l2, l3] [vI s1, vI s0] σ Q := wp_goto rfl
theorem r_B_doubtedFrom_44 : Wp L d k_B_doubtedFrom 44 [l0, l1, l2, l3] [vI s0] σ Q ↔ Wp L d k_B_doubtedFrom 45 [l0, l1, l2, l3] [vI 0, vI s0] σ Q := wp_push rfl
theorem r_B_doubtedFrom_48 : Wp L d k_B_doubtedFrom 48 [l0, l1, l2, l3] [vI s1, vI s0] σ Q ↔ Wp L d k_B_doubtedFrom 49 [l0, l1, l2, l3] [vI (w32 (s0 + s1))] σ Q := wp_iadd rfl
theorem r_B_doubtedFrom_49 : Wp L d k_B_doubtedFrom 49 [l0, vI a1, l2, l3] [vI s0] σ Q ↔ Wp L d k_B_doubtedFrom 50 [l0, vI a1, vI s0, l3] [] σ Q := wp_istore (i := 2) (ls := [l0, vI a1, l2, l3]) rfl rfl
theorem r_B_doubtedFrom_50 : Wp L d k_B_doubtedFrom 50 [l0, l1, vI a2, vI a3] [] σ Q ↔ Wp L d k_B_doubtedFrom 53 [l0, l1, vI a2, vI (w32 (a3 + 1))] [] σ Q := wp_iinc (i := 3) (ls := [l0, l1, vI a2, vI a3]) rfl rfl
theorem r_B_doubtedFrom_53 : Wp L d k_B_doubtedFrom 53 [l0, l1, l2, l3] [] σ Q ↔ Wp L d k_B_doubtedFrom 4 [l0, l1, l2, l3] [] σ Q := wp_goto rfl
theorem r_B_doubtedFrom_56 : Wp L d k_B_doubtedFrom 56 [l0, l1, vI a2, l3] [] σ Q ↔ Wp L d k_B_doubtedFrom 57 [l0, l1, vI a2, l3] [vI a2] σ Q := wp_iload rfl rfl
theorem r_B_doubtedFrom_57 : Wp L d k_B_doubtedFrom 57 [l0, l1, l2, l3] [vI s0] σ Q ↔ Q (some (vI s0)) σ := wp_iret rfl
theorem r_B_doubtedFrom_45 : Wp L (d + 2) k_B_doubtedFrom 45 [l0, l1, l2, l3] [vI s1, vI s0] σ Q ↔ Wp L (d + 2) k_B_doubtedFrom 48 [l0, l1, l2, l3] [vI (gb (s1 ≠ 0)), vI s0] σ Q := wp_callR (d := d + 1) (as := [vI s1]) (rest := [vI s0]) rfl rfl rfl rfl rfl rfl rfl rfl (sp_X_bit)
theorem sp_B_doubtedFrom {b : Nat} {f : Nat → Int}  (hB : BR b) (hw : WB f) (hc : CB b f σ) : Run L (d + 2) 116 [vR b, vI a1] σ (some (vI (brfl f a1 (f 1).toNat))) σ := by
  refine Run_of (C' := k_B_doubtedFrom) rfl ?_
  show Wp L (d + 2) k_B_doubtedFrom 0 [vR b, vI a1, vU, vU] [] σ _
  have hB0 := hB
  obtain ⟨⟨K0, q0, q1, q2, q3, q4, q5, q6, q7⟩, ⟨K1, K2, K3, K4, K5, K6, K7, K8⟩, ⟨N1, N2, N3, N4, N5, N6, N7, N8⟩, QP, KP⟩ := hB
  have w1 := hw.1
  have w2 := hw.2.1
  have c1 := hc.1
  have c2 := hc.2.1
  simp only [r_B_doubtedFrom_0, r_B_doubtedFrom_1, r_B_doubtedFrom_2, r_B_doubtedFrom_3, r_B_doubtedFrom_5, r_B_doubtedFrom_6, r_B_doubtedFrom_9, r_B_doubtedFrom_12, r_B_doubtedFrom_13, r_B_doubtedFrom_14, r_B_doubtedFrom_17, r_B_doubtedFrom_18, r_B_doubtedFrom_19, r_B_doubtedFrom_22, r_B_doubtedFrom_23, r_B_doubtedFrom_26, r_B_doubtedFrom_27, r_B_doubtedFrom_28, r_B_doubtedFrom_31, r_B_doubtedFrom_32, r_B_doubtedFrom_36, r_B_doubtedFrom_37, r_B_doubtedFrom_40, r_B_doubtedFrom_41, r_B_doubtedFrom_44, r_B_doubtedFrom_45, r_B_doubtedFrom_48, r_B_doubtedFrom_49, r_B_doubtedFrom_50, r_B_doubtedFrom_53, r_B_doubtedFrom_56, r_B_doubtedFrom_57]

  refine wl (f 1).toNat (fun k => [vR b, vI a1, vI (brfl f a1 k), vI (k : Int)]) (fun _ => σ) rfl rfl (fun k hk hq => ?_) ?_
  · have kp := KP k (by omega)
    have q := CBp hc (p := k) (by omega)
    have bd : 0 ≤ brfl f a1 k ∧ brfl f a1 k ≤ k := gsm_gb k
    have hD := sp_B_doubtOf (L := L) (d := d + 0) (p := k) hB0 hw hc (by omega)
    by_cases c1 : f (120 + 12 * k) = 4 <;> by_cases c2 : a1 ≤ brdt f k <;> (
      rw [r_B_doubtedFrom_4]
      simp (disch := first | assumption | exact gb_01 _ | omega) only [r_B_doubtedFrom_0, r_B_doubtedFrom_1, r_B_doubtedFrom_2, r_B_doubtedFrom_3, r_B_doubtedFrom_5, r_B_doubtedFrom_6, r_B_doubtedFrom_9, r_B_doubtedFrom_12, r_B_doubtedFrom_13, r_B_doubtedFrom_14, r_B_doubtedFrom_17, r_B_doubtedFrom_18, r_B_doubtedFrom_19, r_B_doubtedFrom_22, r_B_doubtedFrom_23, r_B_doubtedFrom_26, r_B_doubtedFrom_27, r_B_doubtedFrom_28, r_B_doubtedFrom_31, r_B_doubtedFrom_32, r_B_doubtedFrom_36, r_B_doubtedFrom_37, r_B_doubtedFrom_40, r_B_doubtedFrom_41, r_B_doubtedFrom_44, r_B_doubtedFrom_45, r_B_doubtedFrom_48, r_B_doubtedFrom_49, r_B_doubtedFrom_50, r_B_doubtedFrom_53, r_B_doubtedFrom_56, r_B_doubtedFrom_57, c_B_doubtedFrom_33 hD, Option.toList, List.singleton_append, List.cons_append, List.nil_append, List.append_nil, q0, q1, q2, q3, q4, q5, q6, q7, QP, w32_gb, w32i, tn_add, tn_mul, Int.toNat_natCast, Int.toNat_zero, Int.reduceLE, Int.reduceLT, Int.reduceEq, Int.reduceNe, gb_T, gb_F, Int.reduceToNat, eq_self, true_or, or_true, and_true, true_and, and_self, ↓ite_gb0, ↓ite_gbn, ↓if_pos, ↓if_neg, if_true, if_false, not_true_eq_false, not_false_eq_true, gb_ne0, gb_eq0]
      refine hq _ _ ?_ rfl
      simp only [List.cons.injEq, vI_inj, vR_inj, and_true, true_and]
      refine ⟨?_, by omega⟩
      simp only [brfl, gsm]
      first | (rw [gb_t (by omega)] <;> omega) | (rw [gb_f (by omega)] <;> omega))
  · rw [r_B_doubtedFrom_4]
    simp (disch := first | assumption | exact gb_01 _ | omega) only [r_B_doubtedFrom_0, r_B_doubtedFrom_1, r_B_doubtedFrom_2, r_B_doubtedFrom_3, r_B_doubtedFrom_5, r_B_doubtedFrom_6, r_B_doubtedFrom_9, r_B_doubtedFrom_12, r_B_doubtedFrom_13, r_B_doubtedFrom_14, r_B_doubtedFrom_17, r_B_doubtedFrom_18, r_B_doubtedFrom_19, r_B_doubtedFrom_22, r_B_doubtedFrom_23, r_B_doubtedFrom_26, r_B_doubtedFrom_27, r_B_doubtedFrom_28, r_B_doubtedFrom_31, r_B_doubtedFrom_32, r_B_doubtedFrom_36, r_B_doubtedFrom_37, r_B_doubtedFrom_40, r_B_doubtedFrom_41, r_B_doubtedFrom_44, r_B_doubtedFrom_45, r_B_doubtedFrom_48, r_B_doubtedFrom_49, r_B_doubtedFrom_50, r_B_doubtedFrom_53, r_B_doubtedFrom_56, r_B_doubtedFrom_57, q0, q1, q2, q3, q4, q5, q6, q7, QP, w32_gb, w32i, tn_add, tn_mul, Int.toNat_natCast, Int.toNat_zero, Int.reduceLE, Int.reduceLT, Int.reduceEq, Int.reduceNe, gb_T, gb_F, Int.reduceToNat, eq_self, true_or, or_true, and_true, true_and, and_self, ↓ite_gb0, ↓ite_gbn, ↓if_pos, ↓if_neg, if_true, if_false, not_true_eq_false, not_false_eq_true, gb_ne0, gb_eq0]
theorem r_X_doubt_0 : Wp L d k_X_doubt 0 [vR b0, l1, l2] [] σ Q ↔ Wp L d k_X_doubt 1 [vR b0, l1, l2] [vR b0] σ Q := wp_aload rfl rfl
theorem r_X_doubt_1 : Wp L d k_X_doubt 1 [l0, vI a1, l2] [vR c0] σ Q ↔ Wp L d k_X_doubt 2 [l0, vI a1, l2] [vI a1, vR c0] σ Q := wp_iload rfl rfl
theorem r_X_doubt_5 : Wp L d k_X_doubt 5 [l0, l1, l2] [vI s0] σ Q ↔ (if s0 ≠ 0 then Wp L d k_X_doubt 11 [l0, l1, l2] [] σ Q else Wp L d k_X_doubt 8 [l0, l1, l2] [] σ Q) := wp_if_ne rfl
theorem r_X_doubt_8 : Wp L d k_X_doubt 8 [l0, l1, l2] [] σ Q ↔ Wp L d k_X_doubt 10 [l0, l1, l2] [vI (-1000000001)] σ Q := wp_push rfl
theorem r_X_doubt_10 : Wp L d k_X_doubt 10 [l0, l1, l2] [vI s0] σ Q ↔ Q (some (vI s0)) σ := wp_iret rfl
theorem r_X_doubt_11 : Wp L d k_X_doubt 11 [vR b0, l1, l2] [] σ Q ↔ Wp L d k_X_doubt 12 [vR b0, l1, l2] [vR b0] σ Q := wp_aload rfl rfl
theorem r_X_doubt_12 (h : gK c0 = 0) : Wp L d k_X_doubt 12 [l0, l1, l2] [vR c0] σ Q ↔ Wp L d k_X_doubt 15 [l0, l1, l2] [vR (gq c0 1)] σ Q := wp_getR (c := 129) rfl rfl rfl rfl rfl h
theorem r_X_doubt_15 (h : gK c0 = 1) : Wp L d k_X_doubt 15 [l0, l1, l2] [vR c0] σ Q ↔ Wp L d k_X_doubt 18 [l0, l1, l2] [vR (gq c0 3)] σ Q := wp_getR (c := 387) rfl rfl rfl rfl rfl h
theorem r_X_doubt_18 : Wp L d k_X_doubt 18 [l0, vI a1, l2] [vR c0] σ Q ↔ Wp L d k_X_doubt 19 [l0, vI a1, l2] [vI a1, vR c0] σ Q := wp_iload rfl rfl
theorem r_X_doubt_19 (h : gK c0 = 102 ∨ gK c0 = 103) (hx : 0 ≤ s1 ∧ s1 < gN c0) : Wp L d k_X_doubt 19 [l0, l1, l2] [vI s1, vR c0] σ Q ↔ Wp L d k_X_doubt 20 [l0, l1, l2] [vR (gq c0 s1.toNat)] σ Q := wp_aald rfl h hx
theorem r_X_doubt_20 : Wp L d k_X_doubt 20 [l0, vI a1, l2] [vR c0] σ Q ↔ Wp L d k_X_doubt 21 [l0, vI a1, vR c0] [] σ Q := wp_astore (i := 2) (ls := [l0, vI a1, l2]) rfl rfl
theorem r_X_doubt_21 : Wp L d k_X_doubt 21 [l0, l1, vR b2] [] σ Q ↔ Wp L d k_X_doubt 22 [l0, l1, vR b2] [vR b2] σ Q := wp_aload rfl rfl
theorem r_X_doubt_22 (h : gK c0 = 4) : Wp L d k_X_doubt 22 [l0, l1, l2] [vR c0] σ Q ↔ Wp L d k_X_doubt 25 [l0, l1, l2] [vI (σ c0 0)] σ Q := wp_getI (c := 1024) rfl rfl rfl rfl h
theorem r_X_doubt_25 : Wp L d k_X_doubt 25 [l0, l1, l2] [vI s0] σ Q ↔ Wp L d k_X_doubt 26 [l0, l1, l2] [vI 4, vI s0] σ Q := wp_push rfl
theorem r_X_doubt_26 : Wp L d k_X_doubt 26 [l0, l1, l2] [vI s1, vI s0] σ Q ↔ (if s0 ≠ s1 then Wp L d k_X_doubt 34 [l0, l1, l2] [] σ Q else Wp L d k_X_doubt 29 [l0, l1, l2] [] σ Q) := wp_cmp_ne rfl
theorem r_X_doubt_29 : Wp L d k_X_doubt 29 [l0, l1, l2] [] σ Q ↔ Wp L d k_X_doubt 31 [l0, l1, l2] [vI (-1000000012)] σ Q := wp_push rfl
theorem r_X_doubt_31 : Wp L d k_X_doubt 31 [l0, l1, l2] [vI s0] σ Q ↔ Wp L d k_X_doubt 42 [l0, l1, l2] [vI s0] σ Q := wp_goto rfl
theorem r_X_doubt_34 : Wp L d k_X_doubt 34 [vR b0, l1, l2] [] σ Q ↔ Wp L d k_X_doubt 35 [vR b0, l1, l2] [vR b0] σ Q := wp_aload rfl rfl
theorem r_X_doubt_35 (h : gK c0 = 0) : Wp L d k_X_doubt 35 [l0, l1, l2] [vR c0] σ Q ↔ Wp L d k_X_doubt 38 [l0, l1, l2] [vR (gq c0 1)] σ Q := wp_getR (c := 129) rfl rfl rfl rfl rfl h
theorem r_X_doubt_38 : Wp L d k_X_doubt 38 [l0, l1, vR b2] [vR c0] σ Q ↔ Wp L d k_X_doubt 39 [l0, l1, vR b2] [vR b2, vR c0] σ Q := wp_aload rfl rfl
theorem c_X_doubt_39 (hR : Run L d 115 [vR c0, vR c1] σ r σ1) (h : gK c0 = 1) : Wp L (d + 1) k_X_doubt 39 [l0, l1, l2] [vR c1, vR c0] σ Q ↔ Wp L (d + 1) k_X_doubt 42 [l0, l1, l2] (r.toList ++ []) σ1 Q := wp_callR (as := [vR c0, vR c1]) (rest := []) rfl rfl rfl rfl rfl rfl rfl (grecv_k (by rw [h]) rfl) hR
theorem r_X_doubt_42 : Wp L d k_X_doubt 42 [l0, l1, l2] [vI s0] σ Q ↔ Q (some (vI s0)) σ := wp_iret rfl
theorem r_X_doubt_2 : Wp L (d + 2) k_X_doubt 2 [l0, l1, l2] [vI s1, vR 27] σ Q ↔ Wp L (d + 2) k_X_doubt 5 [l0, l1, l2] [vI (gb (0 ≤ s1 ∧ s1 ≤ w32 (σ 29 9 - 1)))] σ Q := wp_callR (d := d + 1) (as := [vR 27, vI s1]) (rest := []) rfl rfl rfl rfl rfl rfl rfl (grecv_k (by rw [gK_27]) rfl) (sp_X_isPart)
theorem sp_X_doubt_b (hp : w32 (σ 29 9 - 1) = σ 29 9 - 1) (h : ¬ (0 ≤ a1 ∧ a1 ≤ σ 29 9 - 1)) : Run L (d + 2) 59 [vR 27, vI a1] σ (some (vI (-1000000001))) σ := by
  refine Run_of (C' := k_X_doubt) rfl ?_
  show Wp L (d + 2) k_X_doubt 0 [vR 27, vI a1, vU] [] σ _
  obtain ⟨K27, K28, K29, K78, K97, K99, K109, K123, K125, K279, K282⟩ := litX
  simp (disch := first | assumption | exact gb_01 _ | omega) only [r_X_doubt_0, r_X_doubt_1, r_X_doubt_2, r_X_doubt_5, r_X_doubt_8, r_X_doubt_10, gq_27_0, gq_27_1, gq_27_2, gq_27_3, gq_27_4, gq_27_5, gq_27_6, gq_28_0, gq_28_1, gq_28_2, gq_28_3, gq_28_4, gq_28_5, gq_28_6, hp, w32_gb, w32i, tn_add, tn_mul, Int.toNat_natCast, Int.toNat_zero, Int.reduceLE, Int.reduceLT, Int.reduceEq, Int.reduceNe, gb_T, gb_F, Int.reduceToNat, eq_self, true_or, or_true, and_true, true_and, and_self, ↓ite_gb0, ↓ite_gbn, ↓if_pos, ↓if_neg, if_true, if_false, not_true_eq_false, not_false_eq_true, gb_ne0, gb_eq0]
theorem r_M_doubt_0 : Wp L d k_M_doubt 0 [vR b0, l1] [] σ Q ↔ Wp L d k_M_doubt 1 [vR b0, l1] [vR b0] σ Q := wp_aload rfl rfl
theorem r_M_doubt_1 : Wp L d k_M_doubt 1 [l0, vI a1] [vR c0] σ Q ↔ Wp L d k_M_doubt 2 [l0, vI a1] [vI a1, vR c0] σ Q := wp_iload rfl rfl
theorem r_M_doubt_5 : Wp L d k_M_doubt 5 [l0, l1] [vI s0] σ Q ↔ (if s0 ≠ 0 then Wp L d k_M_doubt 11 [l0, l1] [] σ Q else Wp L d k_M_doubt 8 [l0, l1] [] σ Q) := wp_if_ne rfl
theorem r_M_doubt_8 : Wp L d k_M_doubt 8 [l0, l1] [] σ Q ↔ Wp L d k_M_doubt 10 [l0, l1] [vI (-1000000001)] σ Q := wp_push rfl
theorem r_M_doubt_10 : Wp L d k_M_doubt 10 [l0, l1] [vI s0] σ Q ↔ Q (some (vI s0)) σ := wp_iret rfl
theorem r_M_doubt_11 : Wp L d k_M_doubt 11 [vR b0, l1] [] σ Q ↔ Wp L d k_M_doubt 12 [vR b0, l1] [vR b0] σ Q := wp_aload rfl rfl
theorem r_M_doubt_12 : Wp L d k_M_doubt 12 [l0, vI a1] [vR c0] σ Q ↔ Wp L d k_M_doubt 13 [l0, vI a1] [vI a1, vR c0] σ Q := wp_iload rfl rfl
theorem r_M_doubt_16 : Wp L d k_M_doubt 16 [l0, l1] [vI s0] σ Q ↔ Wp L d k_M_doubt 17 [l0, l1] [vI 4, vI s0] σ Q := wp_push rfl
theorem r_M_doubt_17 : Wp L d k_M_doubt 17 [l0, l1] [vI s1, vI s0] σ Q ↔ (if s0 ≠ s1 then Wp L d k_M_doubt 25 [l0, l1] [] σ Q else Wp L d k_M_doubt 20 [l0, l1] [] σ Q) := wp_cmp_ne rfl
theorem r_M_doubt_20 : Wp L d k_M_doubt 20 [l0, l1] [] σ Q ↔ Wp L d k_M_doubt 22 [l0, l1] [vI (-1000000012)] σ Q := wp_push rfl
theorem r_M_doubt_22 : Wp L d k_M_doubt 22 [l0, l1] [vI s0] σ Q ↔ Wp L d k_M_doubt 30 [l0, l1] [vI s0] σ Q := wp_goto rfl
theorem r_M_doubt_25 : Wp L d k_M_doubt 25 [vR b0, l1] [] σ Q ↔ Wp L d k_M_doubt 26 [vR b0, l1] [vR b0] σ Q := wp_aload rfl rfl
theorem r_M_doubt_26 : Wp L d k_M_doubt 26 [l0, vI a1] [vR c0] σ Q ↔ Wp L d k_M_doubt 27 [l0, vI a1] [vI a1, vR c0] σ Q := wp_iload rfl rfl
theorem r_M_doubt_30 : Wp L d k_M_doubt 30 [l0, l1] [vI s0] σ Q ↔ Q (some (vI s0)) σ := wp_iret rfl
theorem r_M_doubt_2 : Wp L (d + 2) k_M_doubt 2 [l0, l1] [vI s1, vR 293] σ Q ↔ Wp L (d + 2) k_M_doubt 5 [l0, l1] [vI (gb (0 ≤ s1 ∧ s1 ≤ w32 (σ 294 1 - 1)))] σ Q := wp_callR (d := d + 1) (as := [vR 293, vI s1]) (rest := []) rfl rfl rfl rfl rfl rfl rfl (grecv_k (by rw [gK_293]) rfl) (sp_M_isPart)
theorem r_M_doubt_13 (h : 0 ≤ s1 ∧ s1 ≤ 40) : Wp L (d + 2) k_M_doubt 13 [l0, l1] [vI s1, vR 293] σ Q ↔ Wp L (d + 2) k_M_doubt 16 [l0, l1] [vI (σ 294 (120 + 12 * s1.toNat))] σ Q := wp_callR (d := d + 1) (as := [vR 293, vI s1]) (rest := []) rfl rfl rfl rfl rfl rfl rfl (grecv_k (by rw [gK_293]) rfl) (sp_M_kindOf0 h)
theorem r_M_doubt_27 (hw : WB (σ 294)) (h : 0 ≤ s1 ∧ s1 < σ 294 1) : Wp L (d + 2) k_M_doubt 27 [l0, l1] [vI s1, vR 293] σ Q ↔ Wp L (d + 2) k_M_doubt 30 [l0, l1] [vI (brdt (σ 294) s1.toNat)] σ Q := wp_callR (d := d + 1) (as := [vR 293, vI s1]) (rest := []) rfl rfl rfl rfl rfl rfl rfl (grecv_k (by rw [gK_293]) rfl) (sp_M_doubtOf hw h)
theorem sp_M_doubt_b (hp : w32 (σ 294 1 - 1) = σ 294 1 - 1) (h : ¬ (0 ≤ a1 ∧ a1 ≤ σ 294 1 - 1)) : Run L (d + 2) 283 [vR 293, vI a1] σ (some (vI (-1000000001))) σ := by
  refine Run_of (C' := k_M_doubt) rfl ?_
  show Wp L (d + 2) k_M_doubt 0 [vR 293, vI a1] [] σ _
  obtain ⟨K293, Q293, K294, N294⟩ := litM
  simp (disch := first | assumption | exact gb_01 _ | omega) only [r_M_doubt_0, r_M_doubt_1, r_M_doubt_2, r_M_doubt_5, r_M_doubt_8, r_M_doubt_10, Q293, hp, w32_gb, w32i, tn_add, tn_mul, Int.toNat_natCast, Int.toNat_zero, Int.reduceLE, Int.reduceLT, Int.reduceEq, Int.reduceNe, gb_T, gb_F, Int.reduceToNat, eq_self, true_or, or_true, and_true, true_and, and_self, ↓ite_gb0, ↓ite_gbn, ↓if_pos, ↓if_neg, if_true, if_false, not_true_eq_false, not_false_eq_true, gb_ne0, gb_eq0]
theorem sp_X_doubt {f : Nat → Int} (hw : WB f) (hc : CB 29 f σ) (h : 0 ≤ a1 ∧ a1 ≤ f 1 - 1) : Run L (d + 2) 59 [vR 27, vI a1] σ (some (vI (if f (120 + 12 * a1.toNat) = 4 then -1000000012 else brdt f a1.toNat))) σ := by
  refine Run_of (C' := k_X_doubt) rfl ?_
  show Wp L (d + 2) k_X_doubt 0 [vR 27, vI a1, vU] [] σ _
  obtain ⟨K27, K28, K29, K78, K97, K99, K109, K123, K125, K279, K282⟩ := litX
  have hB := BR29
  obtain ⟨⟨K0, q0, q1, q2, q3, q4, q5, q6, q7⟩, ⟨K1, K2, K3, K4, K5, K6, K7, K8⟩, ⟨N1, N2, N3, N4, N5, N6, N7, N8⟩, QP, KP⟩ := hB
  have w2 := hw.2.1
  have c2 := hc.2.1
  have q := CBp hc (p := a1.toNat) (by omega)
  have w := WBp hw (p := a1.toNat) (by omega)
  have kp := KP a1.toNat (by omega)
  have q3' : gq 33 a1.toNat = 38 + a1.toNat := QP _ (by omega)
  have hD := sp_B_doubtOf (L := L) (d := d + 0) (p := a1.toNat) BR29 hw hc (by omega)
  simp only [Nat.reduceAdd] at *
  by_cases e : f (120 + 12 * a1.toNat) = 4
  · rw [if_pos e]
    simp (disch := first | assumption | exact gb_01 _ | omega) only [r_X_doubt_0, r_X_doubt_1, r_X_doubt_2, r_X_doubt_5, r_X_doubt_8, r_X_doubt_10, r_X_doubt_11, r_X_doubt_12, r_X_doubt_15, r_X_doubt_18, r_X_doubt_19, r_X_doubt_20, r_X_doubt_21, r_X_doubt_22, r_X_doubt_25, r_X_doubt_26, r_X_doubt_29, r_X_doubt_31, r_X_doubt_34, r_X_doubt_35, r_X_doubt_38, r_X_doubt_42, c_X_doubt_39 hD, Option.toList, List.singleton_append, List.cons_append, List.nil_append, List.append_nil, gq_27_0, gq_27_1, gq_27_2, gq_27_3, gq_27_4, gq_27_5, gq_27_6, gq_28_0, gq_28_1, gq_28_2, gq_28_3, gq_28_4, gq_28_5, gq_28_6, gq_29_3, q3', w32_gb, w32i, tn_add, tn_mul, Int.toNat_natCast, Int.toNat_zero, Int.reduceLE, Int.reduceLT, Int.reduceEq, Int.reduceNe, gb_T, gb_F, Int.reduceToNat, eq_self, true_or, or_true, and_true, true_and, and_self, ↓ite_gb0, ↓ite_gbn, ↓if_pos, ↓if_neg, if_true, if_false, not_true_eq_false, not_false_eq_true, gb_ne0, gb_eq0]
  · rw [if_neg e]
    simp (disch := first | assumption | exact gb_01 _ | omega) only [r_X_doubt_0, r_X_doubt_1, r_X_doubt_2, r_X_doubt_5, r_X_doubt_8, r_X_doubt_10, r_X_doubt_11, r_X_doubt_12, r_X_doubt_15, r_X_doubt_18, r_X_doubt_19, r_X_doubt_20, r_X_doubt_21, r_X_doubt_22, r_X_doubt_25, r_X_doubt_26, r_X_doubt_29, r_X_doubt_31, r_X_doubt_34, r_X_doubt_35, r_X_doubt_38, r_X_doubt_42, c_X_doubt_39 hD, Option.toList, List.singleton_append, List.cons_append, List.nil_append, List.append_nil, gq_27_0, gq_27_1, gq_27_2, gq_27_3, gq_27_4, gq_27_5, gq_27_6, gq_28_0, gq_28_1, gq_28_2, gq_28_3, gq_28_4, gq_28_5, gq_28_6, gq_29_3, q3', w32_gb, w32i, tn_add, tn_mul, Int.toNat_natCast, Int.toNat_zero, Int.reduceLE, Int.reduceLT, Int.reduceEq, Int.reduceNe, gb_T, gb_F, Int.reduceToNat, eq_self, true_or, or_true, and_true, true_and, and_self, ↓ite_gb0, ↓ite_gbn, ↓if_pos, ↓if_neg, if_true, if_false, not_true_eq_false, not_false_eq_true, gb_ne0, gb_eq0]
theorem sp_M_doubt (hw : WB (σ 294)) (h : 0 ≤ a1 ∧ a1 ≤ σ 294 1 - 1) : Run L (d + 2) 283 [vR 293, vI a1] σ (some (vI (if σ 294 (120 + 12 * a1.toNat) = 4 then -1000000012 else brdt (σ 294) a1.toNat))) σ := by
  refine Run_of (C' := k_M_doubt) rfl ?_
  show Wp L (d + 2) k_M_doubt 0 [vR 293, vI a1] [] σ _
  obtain ⟨K293, Q293, K294, N294⟩ := litM
  have w1 := hw.1
  have w2 := hw.2.1
  by_cases e : σ 294 (120 + 12 * a1.toNat) = 4
  · rw [if_pos e]
    simp (disch := first | assumption | exact gb_01 _ | omega) only [r_M_doubt_0, r_M_doubt_1, r_M_doubt_2, r_M_doubt_5, r_M_doubt_8, r_M_doubt_10, r_M_doubt_11, r_M_doubt_12, r_M_doubt_13, r_M_doubt_16, r_M_doubt_17, r_M_doubt_20, r_M_doubt_22, r_M_doubt_25, r_M_doubt_26, r_M_doubt_27, r_M_doubt_30, Q293, w32_gb, w32i, tn_add, tn_mul, Int.toNat_natCast, Int.toNat_zero, Int.reduceLE, Int.reduceLT, Int.reduceEq, Int.reduceNe, gb_T, gb_F, Int.reduceToNat, eq_self, true_or, or_true, and_true, true_and, and_self, ↓ite_gb0, ↓ite_gbn, ↓if_pos, ↓if_neg, if_true, if_false, not_true_eq_false, not_false_eq_true, gb_ne0, gb_eq0]
  · rw [if_neg e]
    simp (disch := first | assumption | exact gb_01 _ | omega) only [r_M_doubt_0, r_M_doubt_1, r_M_doubt_2, r_M_doubt_5, r_M_doubt_8, r_M_doubt_10, r_M_doubt_11, r_M_doubt_12, r_M_doubt_13, r_M_doubt_16, r_M_doubt_17, r_M_doubt_20, r_M_doubt_22, r_M_doubt_25, r_M_doubt_26, r_M_doubt_27, r_M_doubt_30, Q293, w32_gb, w32i, tn_add, tn_mul, Int.toNat_natCast, Int.toNat_zero, Int.reduceLE, Int.reduceLT, Int.reduceEq, Int.reduceNe, gb_T, gb_F, Int.reduceToNat, eq_self, true_or, or_true, and_true, true_and, and_self, ↓ite_gb0, ↓ite_gbn, ↓if_pos, ↓if_neg, if_true, if_false, not_true_eq_false, not_false_eq_true, gb_ne0, gb_eq0]
theorem op_doubt (a1 : Int) : Op 59 283 [vI a1] := by
  intro L d σ hI
  obtain ⟨hw, hc⟩ := iB hI
  have w1 := hw.1
  have w2 := hw.2.1
  have c1 := hc.1
  have c2 := hc.2.1
  have hp : w32 (σ 29 9 - 1) = σ 29 9 - 1 := w32i (by omega)
  have hm : w32 (σ 294 1 - 1) = σ 294 1 - 1 := w32i (by omega)
  
  by_cases h : 0 ≤ a1 ∧ a1 ≤ σ 29 9 - 1
  · exact ⟨_, _, _, sp_X_doubt hw hc (by omega), sp_M_doubt hw (by omega), hI⟩
  · exact ⟨_, _, _, sp_X_doubt_b hp h, sp_M_doubt_b hm (by omega), hI⟩
theorem r_X_flawed_0 : Wp L d k_X_flawed 0 [l0, vI a1] [] σ Q ↔ Wp L d k_X_flawed 1 [l0, vI a1] [vI a1] σ Q := wp_iload rfl rfl
theorem r_X_flawed_1 : Wp L d k_X_flawed 1 [l0, l1] [vI s0] σ Q ↔ Wp L d k_X_flawed 2 [l0, l1] [vI 0, vI s0] σ Q := wp_push rfl
theorem r_X_flawed_2 : Wp L d k_X_flawed 2 [l0, l1] [vI s1, vI s0] σ Q ↔ Wp L d k_X_flawed 3 [l0, l1] [vI 1, vI s1, vI s0] σ Q := wp_push rfl
theorem r_X_flawed_6 : Wp L d k_X_flawed 6 [l0, l1] [vI s0] σ Q ↔ (if s0 = 0 then Wp L d k_X_flawed 28 [l0, l1] [] σ Q else Wp L d k_X_flawed 9 [l0, l1] [] σ Q) := wp_if_eq rfl
theorem r_X_flawed_9 : Wp L d k_X_flawed 9 [vR b0, l1] [] σ Q ↔ Wp L d k_X_flawed 10 [vR b0, l1] [vR b0] σ Q := wp_aload rfl rfl
theorem r_X_flawed_10 (h : gK c0 = 0) : Wp L d k_X_flawed 10 [l0, l1] [vR c0] σ Q ↔ Wp L d k_X_flawed 13 [l0, l1] [vR (gq c0 1)] σ Q := wp_getR (c := 129) rfl rfl rfl rfl rfl h
theorem r_X_flawed_13 : Wp L d k_X_flawed 13 [l0, vI a1] [vR c0] σ Q ↔ Wp L d k_X_flawed 14 [l0, vI a1] [vI a1, vR c0] σ Q := wp_iload rfl rfl
theorem r_X_flawed_14 : Wp L d k_X_flawed 14 [l0, l1] [vI s1, vR c0] σ Q ↔ (if s1 ≠ 0 then Wp L d k_X_flawed 21 [l0, l1] [vR c0] σ Q else Wp L d k_X_flawed 17 [l0, l1] [vR c0] σ Q) := wp_if_ne rfl
theorem r_X_flawed_17 : Wp L d k_X_flawed 17 [l0, l1] [vR c0] σ Q ↔ Wp L d k_X_flawed 18 [l0, l1] [vI 2, vR c0] σ Q := wp_push rfl
theorem r_X_flawed_18 : Wp L d k_X_flawed 18 [l0, l1] [vI s1, vR c0] σ Q ↔ Wp L d k_X_flawed 22 [l0, l1] [vI s1, vR c0] σ Q := wp_goto rfl
theorem r_X_flawed_21 : Wp L d k_X_flawed 21 [l0, l1] [vR c0] σ Q ↔ Wp L d k_X_flawed 22 [l0, l1] [vI 1, vR c0] σ Q := wp_push rfl
theorem c_X_flawed_22 (hR : Run L d 116 [vR c0, vI s1] σ r σ1) (h : gK c0 = 1) : Wp L (d + 1) k_X_flawed 22 [l0, l1] [vI s1, vR c0] σ Q ↔ Wp L (d + 1) k_X_flawed 25 [l0, l1] (r.toList ++ []) σ1 Q := wp_callR (as := [vR c0, vI s1]) (rest := []) rfl rfl rfl rfl rfl rfl rfl (grecv_k (by rw [h]) rfl) hR
theorem r_X_flawed_25 : Wp L d k_X_flawed 25 [l0, l1] [vI s0] σ Q ↔ Wp L d k_X_flawed 30 [l0, l1] [vI s0] σ Q := wp_goto rfl
theorem r_X_flawed_28 : Wp L d k_X_flawed 28 [l0, l1] [] σ Q ↔ Wp L d k_X_flawed 30 [l0, l1] [vI (-1000000001)] σ Q := wp_push rfl
theorem r_X_flawed_30 : Wp L d k_X_flawed 30 [l0, l1] [vI s0] σ Q ↔ Q (some (vI s0)) σ := wp_iret rfl
theorem r_X_flawed_3 : Wp L (d + 3) k_X_flawed 3 [l0, l1] [vI s2, vI s1, vI s0] σ Q ↔ Wp L (d + 3) k_X_flawed 6 [l0, l1] [vI (gb (s1 ≤ s0 ∧ s0 ≤ s2))] σ Q := wp_callR (d := d + 2) (as := [vI s0, vI s1, vI s2]) (rest := []) rfl rfl rfl rfl rfl rfl rfl rfl (sp_X_within)
theorem sp_X_flawed_b (h : ¬ (0 ≤ a1 ∧ a1 ≤ 1)) : Run L (d + 3) 60 [vR 27, vI a1] σ (some (vI (-1000000001))) σ := by
  refine Run_of (C' := k_X_flawed) rfl ?_
  show Wp L (d + 3) k_X_flawed 0 [vR 27, vI a1] [] σ _
  obtain ⟨K27, K28, K29, K78, K97, K99, K109, K123, K125, K279, K282⟩ := litX
  simp (disch := first | assumption | exact gb_01 _ | omega) only [r_X_flawed_0, r_X_flawed_1, r_X_flawed_2, r_X_flawed_3, r_X_flawed_6, r_X_flawed_9, r_X_flawed_10, r_X_flawed_13, r_X_flawed_14, r_X_flawed_17, r_X_flawed_18, r_X_flawed_21, r_X_flawed_25, r_X_flawed_28, r_X_flawed_30, gq_27_0, gq_27_1, gq_27_2, gq_27_3, gq_27_4, gq_27_5, gq_27_6, gq_28_0, gq_28_1, gq_28_2, gq_28_3, gq_28_4, gq_28_5, gq_28_6, w32_gb, w32i, tn_add, tn_mul, Int.toNat_natCast, Int.toNat_zero, Int.reduceLE, Int.reduceLT, Int.reduceEq, Int.reduceNe, gb_T, gb_F, Int.reduceToNat, eq_self, true_or, or_true, and_true, true_and, and_self, ↓ite_gb0, ↓ite_gbn, ↓if_pos, ↓if_neg, if_true, if_false, not_true_eq_false, not_false_eq_true, gb_ne0, gb_eq0]
theorem r_M_flawed_0 : Wp L d k_M_flawed 0 [l0, vI a1, l2, l3] [] σ Q ↔ Wp L d k_M_flawed 1 [l0, vI a1, l2, l3] [vI a1] σ Q := wp_iload rfl rfl
theorem r_M_flawed_1 : Wp L d k_M_flawed 1 [l0, l1, l2, l3] [vI s0] σ Q ↔ Wp L d k_M_flawed 2 [l0, l1, l2, l3] [vL s0] σ Q := wp_i2l rfl
theorem r_M_flawed_2 : Wp L d k_M_flawed 2 [l0, l1, l2, l3] [vL s0] σ Q ↔ Wp L d k_M_flawed 3 [l0, l1, l2, l3] [vL 0, vL s0] σ Q := wp_pushL rfl
theorem r_M_flawed_3 : Wp L d k_M_flawed 3 [l0, l1, l2, l3] [vL s1, vL s0] σ Q ↔ Wp L d k_M_flawed 4 [l0, l1, l2, l3] [vL 1, vL s1, vL s0] σ Q := wp_pushL rfl
theorem r_M_flawed_7 : Wp L d k_M_flawed 7 [l0, l1, l2, l3] [vI s0] σ Q ↔ (if s0 ≠ 0 then Wp L d k_M_flawed 13 [l0, l1, l2, l3] [] σ Q else Wp L d k_M_flawed 10 [l0, l1, l2, l3] [] σ Q) := wp_if_ne rfl
theorem r_M_flawed_10 : Wp L d k_M_flawed 10 [l0, l1, l2, l3] [] σ Q ↔ Wp L d k_M_flawed 12 [l0, l1, l2, l3] [vI (-1000000001)] σ Q := wp_push rfl
theorem r_M_flawed_12 : Wp L d k_M_flawed 12 [l0, l1, l2, l3] [vI s0] σ Q ↔ Q (some (vI s0)) σ := wp_iret rfl
theorem r_M_flawed_13 : Wp L d k_M_flawed 13 [l0, l1, l2, l3] [] σ Q ↔ Wp L d k_M_flawed 14 [l0, l1, l2, l3] [vI 0] σ Q := wp_push rfl
theorem r_M_flawed_14 : Wp L d k_M_flawed 14 [l0, vI a1, l2, l3] [vI s0] σ Q ↔ Wp L d k_M_flawed 15 [l0, vI a1, vI s0, l3] [] σ Q := wp_istore (i := 2) (ls := [l0, vI a1, l2, l3]) rfl rfl
theorem r_M_flawed_15 : Wp L d k_M_flawed 15 [l0, l1, l2, l3] [] σ Q ↔ Wp L d k_M_flawed 16 [l0, l1, l2, l3] [vI 0] σ Q := wp_push rfl
theorem r_M_flawed_16 : Wp L d k_M_flawed 16 [l0, l1, vI a2, l3] [vI s0] σ Q ↔ Wp L d k_M_flawed 17 [l0, l1, vI a2, vI s0] [] σ Q := wp_istore (i := 3) (ls := [l0, l1, vI a2, l3]) rfl rfl
theorem r_M_flawed_17 : Wp L d k_M_flawed 17 [l0, l1, l2, vI a3] [] σ Q ↔ Wp L d k_M_flawed 18 [l0, l1, l2, vI a3] [vI a3] σ Q := wp_iload rfl rfl
theorem r_M_flawed_18 : Wp L d k_M_flawed 18 [vR b0, l1, l2, l3] [vI s0] σ Q ↔ Wp L d k_M_flawed 19 [vR b0, l1, l2, l3] [vR b0, vI s0] σ Q := wp_aload rfl rfl
theorem r_M_flawed_19 (h : gK c1 = 12) : Wp L d k_M_flawed 19 [l0, l1, l2, l3] [vR c1, vI s0] σ Q ↔ Wp L d k_M_flawed 22 [l0, l1, l2, l3] [vR (gq c1 0), vI s0] σ Q := wp_getR (c := 3200) rfl rfl rfl rfl rfl h
theorem r_M_flawed_22 : Wp L d k_M_flawed 22 [l0, l1, l2, l3] [vR c1, vI s0] σ Q ↔ Wp L d k_M_flawed 23 [l0, l1, l2, l3] [vI 1, vR c1, vI s0] σ Q := wp_push rfl
theorem r_M_flawed_23 (h : gK c1 = 100) (hx : 0 ≤ s2 ∧ s2 < gN c1) : Wp L d k_M_flawed 23 [l0, l1, l2, l3] [vI s2, vR c1, vI s0] σ Q ↔ Wp L d k_M_flawed 24 [l0, l1, l2, l3] [vI (σ c1 s2.toNat), vI s0] σ Q := wp_iald rfl h hx
theorem r_M_flawed_24 : Wp L d k_M_flawed 24 [l0, l1, l2, l3] [vI s1, vI s0] σ Q ↔ (if s1 ≤ s0 then Wp L d k_M_flawed 61 [l0, l1, l2, l3] [] σ Q else Wp L d k_M_flawed 27 [l0, l1, l2, l3] [] σ Q) := wp_cmp_ge rfl
theorem r_M_flawed_27 : Wp L d k_M_flawed 27 [l0, l1, vI a2, l3] [] σ Q ↔ Wp L d k_M_flawed 28 [l0, l1, vI a2, l3] [vI a2] σ Q := wp_iload rfl rfl
theorem r_M_flawed_28 : Wp L d k_M_flawed 28 [vR b0, l1, l2, l3] [vI s0] σ Q ↔ Wp L d k_M_flawed 29 [vR b0, l1, l2, l3] [vR b0, vI s0] σ Q := wp_aload rfl rfl
theorem r_M_flawed_29 : Wp L d k_M_flawed 29 [l0, l1, l2, vI a3] [vR c1, vI s0] σ Q ↔ Wp L d k_M_flawed 30 [l0, l1, l2, vI a3] [vI a3, vR c1, vI s0] σ Q := wp_iload rfl rfl
theorem r_M_flawed_33 : Wp L d k_M_flawed 33 [l0, l1, l2, l3] [vI s1, vI s0] σ Q ↔ Wp L d k_M_flawed 34 [l0, l1, l2, l3] [vI 4, vI s1, vI s0] σ Q := wp_push rfl
theorem r_M_flawed_34 : Wp L d k_M_flawed 34 [l0, l1, l2, l3] [vI s2, vI s1, vI s0] σ Q ↔ (if s1 = s2 then Wp L d k_M_flawed 52 [l0, l1, l2, l3] [vI s0] σ Q else Wp L d k_M_flawed 37 [l0, l1, l2, l3] [vI s0] σ Q) := wp_cmp_eq rfl
theorem r_M_flawed_37 : Wp L d k_M_flawed 37 [vR b0, l1, l2, l3] [vI s0] σ Q ↔ Wp L d k_M_flawed 38 [vR b0, l1, l2, l3] [vR b0, vI s0] σ Q := wp_aload rfl rfl
theorem r_M_flawed_38 : Wp L d k_M_flawed 38 [l0, l1, l2, vI a3] [vR c1, vI s0] σ Q ↔ Wp L d k_M_flawed 39 [l0, l1, l2, vI a3] [vI a3, vR c1, vI s0] σ Q := wp_iload rfl rfl
theorem r_M_flawed_42 : Wp L d k_M_flawed 42 [l0, l1, l2, l3] [vI s1, vI s0] σ Q ↔ Wp L d k_M_flawed 43 [l0, l1, l2, l3] [vI 2, vI s1, vI s0] σ Q := wp_push rfl
theorem r_M_flawed_43 : Wp L d k_M_flawed 43 [l0, vI a1, l2, l3] [vI s2, vI s1, vI s0] σ Q ↔ Wp L d k_M_flawed 44 [l0, vI a1, l2, l3] [vI a1, vI s2, vI s1, vI s0] σ Q := wp_iload rfl rfl
theorem r_M_flawed_44 : Wp L d k_M_flawed 44 [l0, l1, l2, l3] [vI s3, vI s2, vI s1, vI s0] σ Q ↔ Wp L d k_M_flawed 45 [l0, l1, l2, l3] [vI (w32 (s2 - s3)), vI s1, vI s0] σ Q := wp_isub rfl
theorem r_M_flawed_45 : Wp L d k_M_flawed 45 [l0, l1, l2, l3] [vI s2, vI s1, vI s0] σ Q ↔ (if s1 < s2 then Wp L d k_M_flawed 52 [l0, l1, l2, l3] [vI s0] σ Q else Wp L d k_M_flawed 48 [l0, l1, l2, l3] [vI s0] σ Q) := wp_cmp_lt rfl
theorem r_M_flawed_48 : Wp L d k_M_flawed 48 [l0, l1, l2, l3] [vI s0] σ Q ↔ Wp L d k_M_flawed 49 [l0, l1, l2, l3] [vI 1, vI s0] σ Q := wp_push rfl
theorem r_M_flawed_49 : Wp L d k_M_flawed 49 [l0, l1, l2, l3] [vI s1, vI s0] σ Q ↔ Wp L d k_M_flawed 53 [l0, l1, l2, l3] [vI s1, vI s0] σ Q := wp_goto rfl
theorem r_M_flawed_52 : Wp L d k_M_flawed 52 [l0, l1, l2, l3] [vI s0] σ Q ↔ Wp L d k_M_flawed 53 [l0, l1, l2, l3] [vI 0, vI s0] σ Q := wp_push rfl
theorem r_M_flawed_53 : Wp L d k_M_flawed 53 [l0, l1, l2, l3] [vI s1, vI s0] σ Q ↔ Wp L d k_M_flawed 54 [l0, l1, l2, l3] [vI (w32 (s0 + s1))] σ Q := wp_iadd rfl
theorem r_M_flawed_54 : Wp L d k_M_flawed 54 [l0, vI a1, l2, l3] [vI s0] σ Q ↔ Wp L d k_M_flawed 55 [l0, vI a1, vI s0, l3] [] σ Q := wp_istore (i := 2) (ls := [l0, vI a1, l2, l3]) rfl rfl
theorem r_M_flawed_55 : Wp L d k_M_flawed 55 [l0, l1, vI a2, vI a3] [] σ Q ↔ Wp L d k_M_flawed 58 [l0, l1, vI a2, vI (w32 (a3 + 1))] [] σ Q := wp_iinc (i := 3) (ls := [l0, l1, vI a2, vI a3]) rfl rfl
theorem r_M_flawed_58 : Wp L d k_M_flawed 58 [l0, l1, l2, l3] [] σ Q ↔ Wp L d k_M_flawed 17 [l0, l1, l2, l3] [] σ Q := wp_goto rfl
theorem r_M_flawed_61 : Wp L d k_M_flawed 61 [l0, l1, vI a2, l3] [] σ Q ↔ Wp L d k_M_flawed 62 [l0, l1, vI a2, l3] [vI a2] σ Q := wp_iload rfl rfl
theorem r_M_flawed_62 : Wp L d k_M_flawed 62 [l0, l1, l2, l3] [vI s0] σ Q ↔ Q (some (vI s0)) σ := wp_iret rfl
theorem r_M_flawed_4 : Wp L (d + 2) k_M_flawed 4 [l0, l1, l2, l3] [vL s2, vL s1, vL s0] σ Q ↔ Wp L (d + 2) k_M_flawed 7 [l0, l1, l2, l3] [vI (gb (s1 ≤ s0 ∧ s0 ≤ s2))] σ Q := wp_callR (d := d + 1) (as := [vL s0, vL s1, vL s2]) (rest := []) rfl rfl rfl rfl rfl rfl rfl rfl (sp_M_isIn)
theorem r_M_flawed_30 (h : 0 ≤ s2 ∧ s2 ≤ 40) : Wp L (d + 2) k_M_flawed 30 [l0, l1, l2, l3] [vI s2, vR 293, vI s0] σ Q ↔ Wp L (d + 2) k_M_flawed 33 [l0, l1, l2, l3] [vI (σ 294 (120 + 12 * s2.toNat)), vI s0] σ Q := wp_callR (d := d + 1) (as := [vR 293, vI s2]) (rest := [vI s0]) rfl rfl rfl rfl rfl rfl rfl (grecv_k (by rw [gK_293]) rfl) (sp_M_kindOf0 h)
theorem r_M_flawed_39 (hw : WB (σ 294)) (h : 0 ≤ s2 ∧ s2 < σ 294 1) : Wp L (d + 2) k_M_flawed 39 [l0, l1, l2, l3] [vI s2, vR 293, vI s0] σ Q ↔ Wp L (d + 2) k_M_flawed 42 [l0, l1, l2, l3] [vI (brdt (σ 294) s2.toNat), vI s0] σ Q := wp_callR (d := d + 1) (as := [vR 293, vI s2]) (rest := [vI s0]) rfl rfl rfl rfl rfl rfl rfl (grecv_k (by rw [gK_293]) rfl) (sp_M_doubtOf hw h)
theorem sp_M_flawed_b (h : ¬ (0 ≤ a1 ∧ a1 ≤ 1)) : Run L (d + 2) 285 [vR 293, vI a1] σ (some (vI (-1000000001))) σ := by
  refine Run_of (C' := k_M_flawed) rfl ?_
  show Wp L (d + 2) k_M_flawed 0 [vR 293, vI a1, vU, vU] [] σ _
  obtain ⟨K293, Q293, K294, N294⟩ := litM
  simp (disch := first | assumption | exact gb_01 _ | omega) only [r_M_flawed_0, r_M_flawed_1, r_M_flawed_2, r_M_flawed_3, r_M_flawed_4, r_M_flawed_7, r_M_flawed_10, r_M_flawed_12, r_M_flawed_13, r_M_flawed_14, r_M_flawed_15, r_M_flawed_16, r_M_flawed_18, r_M_flawed_19, r_M_flawed_22, r_M_flawed_23, r_M_flawed_24, r_M_flawed_27, r_M_flawed_28, r_M_flawed_29, r_M_flawed_30, r_M_flawed_33, r_M_flawed_34, r_M_flawed_37, r_M_flawed_38, r_M_flawed_39, r_M_flawed_42, r_M_flawed_43, r_M_flawed_44, r_M_flawed_45, r_M_flawed_48, r_M_flawed_49, r_M_flawed_52, r_M_flawed_53, r_M_flawed_54, r_M_flawed_55, r_M_flawed_58, r_M_flawed_61, r_M_flawed_62, Q293, w32_gb, w32i, tn_add, tn_mul, Int.toNat_natCast, Int.toNat_zero, Int.reduceLE, Int.reduceLT, Int.reduceEq, Int.reduceNe, gb_T, gb_F, Int.reduceToNat, eq_self, true_or, or_true, and_true, true_and, and_self, ↓ite_gb0, ↓ite_gbn, ↓if_pos, ↓if_neg, if_true, if_false, not_true_eq_false, not_false_eq_true, gb_ne0, gb_eq0]
theorem sp_X_flawed {f : Nat → Int} (hw : WB f) (hc : CB 29 f σ) (h : 0 ≤ a1 ∧ a1 ≤ 1) : Run L (d + 3) 60 [vR 27, vI a1] σ (some (vI (brfl f (2 - a1) (f 1).toNat))) σ := by
  refine Run_of (C' := k_X_flawed) rfl ?_
  show Wp L (d + 3) k_X_flawed 0 [vR 27, vI a1] [] σ _
  obtain ⟨K27, K28, K29, K78, K97, K99, K109, K123, K125, K279, K282⟩ := litX
  have hD := sp_B_doubtedFrom (L := L) (d := d + 0) (a1 := 2 - a1) BR29 hw hc
  have z : a1 = 0 ∨ a1 = 1 := by omega
  rcases z with rfl | rfl
  · simp only [Int.reduceSub] at hD ⊢
    simp (disch := first | assumption | exact gb_01 _ | omega) only [r_X_flawed_0, r_X_flawed_1, r_X_flawed_2, r_X_flawed_3, r_X_flawed_6, r_X_flawed_9, r_X_flawed_10, r_X_flawed_13, r_X_flawed_14, r_X_flawed_17, r_X_flawed_18, r_X_flawed_21, r_X_flawed_25, r_X_flawed_28, r_X_flawed_30, c_X_flawed_22 hD, Option.toList, List.singleton_append, List.cons_append, List.nil_append, List.append_nil, gq_27_0, gq_27_1, gq_27_2, gq_27_3, gq_27_4, gq_27_5, gq_27_6, gq_28_0, gq_28_1, gq_28_2, gq_28_3, gq_28_4, gq_28_5, gq_28_6, w32_gb, w32i, tn_add, tn_mul, Int.toNat_natCast, Int.toNat_zero, Int.reduceLE, Int.reduceLT, Int.reduceEq, Int.reduceNe, gb_T, gb_F, Int.reduceToNat, eq_self, true_or, or_true, and_true, true_and, and_self, ↓ite_gb0, ↓ite_gbn, ↓if_pos, ↓if_neg, if_true, if_false, not_true_eq_false, not_false_eq_true, gb_ne0, gb_eq0]
  · simp only [Int.reduceSub] at hD ⊢
    simp (disch := first | assumption | exact gb_01 _ | omega) only [r_X_flawed_0, r_X_flawed_1, r_X_flawed_2, r_X_flawed_3, r_X_flawed_6, r_X_flawed_9, r_X_flawed_10, r_X_flawed_13, r_X_flawed_14, r_X_flawed_17, r_X_flawed_18, r_X_flawed_21, r_X_flawed_25, r_X_flawed_28, r_X_flawed_30, c_X_flawed_22 hD, Option.toList, List.singleton_append, List.cons_append, List.nil_append, List.append_nil, gq_27_0, gq_27_1, gq_27_2, gq_27_3, gq_27_4, gq_27_5, gq_27_6, gq_28_0, gq_28_1, gq_28_2, gq_28_3, gq_28_4, gq_28_5, gq_28_6, w32_gb, w32i, tn_add, tn_mul, Int.toNat_natCast, Int.toNat_zero, Int.reduceLE, Int.reduceLT, Int.reduceEq, Int.reduceNe, gb_T, gb_F, Int.reduceToNat, eq_self, true_or, or_true, and_true, true_and, and_self, ↓ite_gb0, ↓ite_gbn, ↓if_pos, ↓if_neg, if_true, if_false, not_true_eq_false, not_false_eq_true, gb_ne0, gb_eq0]
theorem sp_M_flawed (hw : WB (σ 294)) (h : 0 ≤ a1 ∧ a1 ≤ 1) : Run L (d + 2) 285 [vR 293, vI a1] σ (some (vI (brfl (σ 294) (2 - a1) (σ 294 1).toNat))) σ := by
  refine Run_of (C' := k_M_flawed) rfl ?_
  show Wp L (d + 2) k_M_flawed 0 [vR 293, vI a1, vU, vU] [] σ _
  obtain ⟨K293, Q293, K294, N294⟩ := litM
  have w1 := hw.1
  have w2 := hw.2.1
  simp (disch := first | assumption | exact gb_01 _ | omega) only [r_M_flawed_0, r_M_flawed_1, r_M_flawed_2, r_M_flawed_3, r_M_flawed_4, r_M_flawed_7, r_M_flawed_10, r_M_flawed_12, r_M_flawed_13, r_M_flawed_14, r_M_flawed_15, r_M_flawed_16, r_M_flawed_18, r_M_flawed_19, r_M_flawed_22, r_M_flawed_23, r_M_flawed_24, r_M_flawed_27, r_M_flawed_28, r_M_flawed_29, r_M_flawed_30, r_M_flawed_33, r_M_flawed_34, r_M_flawed_37, r_M_flawed_38, r_M_flawed_39, r_M_flawed_42, r_M_flawed_43, r_M_flawed_44, r_M_flawed_45, r_M_flawed_48, r_M_flawed_49, r_M_flawed_52, r_M_flawed_53, r_M_flawed_54, r_M_flawed_55, r_M_flawed_58, r_M_flawed_61, r_M_flawed_62, Q293, w32_gb, w32i, tn_add, tn_mul, Int.toNat_natCast, Int.toNat_zero, Int.reduceLE, Int.reduceLT, Int.reduceEq, Int.reduceNe, gb_T, gb_F, Int.reduceToNat, eq_self, true_or, or_true, and_true, true_and, and_self, ↓ite_gb0, ↓ite_gbn, ↓if_pos, ↓if_neg, if_true, if_false, not_true_eq_false, not_false_eq_true, gb_ne0, gb_eq0]
  refine wl (σ 294 1).toNat (fun k => [vR 293, vI a1, vI (brfl (σ 294) (2 - a1) k), vI (k : Int)]) (fun _ => σ) rfl rfl (fun k hk hq => ?_) ?_
  · have bd : 0 ≤ brfl (σ 294) (2 - a1) k ∧ brfl (σ 294) (2 - a1) k ≤ k := gsm_gb k
    by_cases c1 : σ 294 (120 + 12 * k) = 4 <;> by_cases c2 : 2 - a1 ≤ brdt (σ 294) k <;> (
      rw [r_M_flawed_17]
      simp (disch := first | assumption | exact gb_01 _ | omega) only [r_M_flawed_0, r_M_flawed_1, r_M_flawed_2, r_M_flawed_3, r_M_flawed_4, r_M_flawed_7, r_M_flawed_10, r_M_flawed_12, r_M_flawed_13, r_M_flawed_14, r_M_flawed_15, r_M_flawed_16, r_M_flawed_18, r_M_flawed_19, r_M_flawed_22, r_M_flawed_23, r_M_flawed_24, r_M_flawed_27, r_M_flawed_28, r_M_flawed_29, r_M_flawed_30, r_M_flawed_33, r_M_flawed_34, r_M_flawed_37, r_M_flawed_38, r_M_flawed_39, r_M_flawed_42, r_M_flawed_43, r_M_flawed_44, r_M_flawed_45, r_M_flawed_48, r_M_flawed_49, r_M_flawed_52, r_M_flawed_53, r_M_flawed_54, r_M_flawed_55, r_M_flawed_58, r_M_flawed_61, r_M_flawed_62, Q293, w32_gb, w32i, tn_add, tn_mul, Int.toNat_natCast, Int.toNat_zero, Int.reduceLE, Int.reduceLT, Int.reduceEq, Int.reduceNe, gb_T, gb_F, Int.reduceToNat, eq_self, true_or, or_true, and_true, true_and, and_self, ↓ite_gb0, ↓ite_gbn, ↓if_pos, ↓if_neg, if_true, if_false, not_true_eq_false, not_false_eq_true, gb_ne0, gb_eq0]
      refine hq _ _ ?_ rfl
      simp only [List.cons.injEq, vI_inj, vR_inj, and_true, true_and]
      refine ⟨?_, by omega⟩
      simp only [brfl, gsm]
      first | (rw [gb_t (by omega)] <;> omega) | (rw [gb_f (by omega)] <;> omega))
  · rw [r_M_flawed_17]
    simp (disch := first | assumption | exact gb_01 _ | omega) only [r_M_flawed_0, r_M_flawed_1, r_M_flawed_2, r_M_flawed_3, r_M_flawed_4, r_M_flawed_7, r_M_flawed_10, r_M_flawed_12, r_M_flawed_13, r_M_flawed_14, r_M_flawed_15, r_M_flawed_16, r_M_flawed_18, r_M_flawed_19, r_M_flawed_22, r_M_flawed_23, r_M_flawed_24, r_M_flawed_27, r_M_flawed_28, r_M_flawed_29, r_M_flawed_30, r_M_flawed_33, r_M_flawed_34, r_M_flawed_37, r_M_flawed_38, r_M_flawed_39, r_M_flawed_42, r_M_flawed_43, r_M_flawed_44, r_M_flawed_45, r_M_flawed_48, r_M_flawed_49, r_M_flawed_52, r_M_flawed_53, r_M_flawed_54, r_M_flawed_55, r_M_flawed_58, r_M_flawed_61, r_M_flawed_62, Q293, w32_gb, w32i, tn_add, tn_mul, Int.toNat_natCast, Int.toNat_zero, Int.reduceLE, Int.reduceLT, Int.reduceEq, Int.reduceNe, gb_T, gb_F, Int.reduceToNat, eq_self, true_or, or_true, and_true, true_and, and_self, ↓ite_gb0, ↓ite_gbn, ↓if_pos, ↓if_neg, if_true, if_false, not_true_eq_false, not_false_eq_true, gb_ne0, gb_eq0]
theorem op_flawed (a1 : Int) : Op 60 285 [vI a1] := by
  intro L d σ hI
  obtain ⟨hw, hc⟩ := iB hI
  have w1 := hw.1
  have w2 := hw.2.1
  have c1 := hc.1
  have c2 := hc.2.1
  have hp : w32 (σ 29 9 - 1) = σ 29 9 - 1 := w32i (by omega)
  have hm : w32 (σ 294 1 - 1) = σ 294 1 - 1 := w32i (by omega)
  
  by_cases h : 0 ≤ a1 ∧ a1 ≤ 1
  · exact ⟨_, _, _, sp_X_flawed hw hc h, sp_M_flawed hw h, hI⟩
  · exact ⟨_, _, _, sp_X_flawed_b h, sp_M_flawed_b h, hI⟩
def brtru (more mth : Int) : Nat → Int → Int → Int
  | 0, _, _ => -1000000005
  | n + 1, s, k => if 50 ≤ min 99 (s + more) then mth + k else brtru more mth n (min 99 (s + more)) (k + 1)
theorem r_S_monthOfDistrust_0 : Wp L d k_S_monthOfDistrust 0 [l0, vI a1, l2, l3, l4] [] σ Q ↔ Wp L d k_S_monthOfDistrust 1 [l0, vI a1, l2, l3, l4] [vI a1] σ Q := wp_iload rfl rfl
theorem r_S_monthOfDistrust_1 : Wp L d k_S_monthOfDistrust 1 [l0, l1, vI a2, l3, l4] [vI s0] σ Q ↔ Wp L d k_S_monthOfDistrust 2 [l0, l1, vI a2, vI s0, l4] [] σ Q := wp_istore (i := 3) (ls := [l0, l1, vI a2, l3, l4]) rfl rfl
theorem r_S_monthOfDistrust_2 : Wp L d k_S_monthOfDistrust 2 [l0, l1, l2, l3, l4] [] σ Q ↔ Wp L d k_S_monthOfDistrust 3 [l0, l1, l2, l3, l4] [vI 0] σ Q := wp_push rfl
theorem r_S_monthOfDistrust_3 : Wp L d k_S_monthOfDistrust 3 [l0, l1, l2, vI a3, l4] [vI s0] σ Q ↔ Wp L d k_S_monthOfDistrust 5 [l0, l1, l2, vI a3, vI s0] [] σ Q := wp_istore (i := 4) (ls := [l0, l1, l2, vI a3, l4]) rfl rfl
theorem r_S_monthOfDistrust_5 : Wp L d k_S_monthOfDistrust 5 [l0, l1, l2, l3, vI a4] [] σ Q ↔ Wp L d k_S_monthOfDistrust 7 [l0, l1, l2, l3, vI a4] [vI a4] σ Q := wp_iload rfl rfl
theorem r_S_monthOfDistrust_7 : Wp L d k_S_monthOfDistrust 7 [l0, l1, l2, l3, l4] [vI s0] σ Q ↔ Wp L d k_S_monthOfDistrust 10 [l0, l1, l2, l3, l4] [vI 600, vI s0] σ Q := wp_push rfl
theorem r_S_monthOfDistrust_10 : Wp L d k_S_monthOfDistrust 10 [l0, l1, l2, l3, l4] [vI s1, vI s0] σ Q ↔ (if s1 ≤ s0 then Wp L d k_S_monthOfDistrust 50 [l0, l1, l2, l3, l4] [] σ Q else Wp L d k_S_monthOfDistrust 13 [l0, l1, l2, l3, l4] [] σ Q) := wp_cmp_ge rfl
theorem r_S_monthOfDistrust_13 : Wp L d k_S_monthOfDistrust 13 [l0, l1, l2, l3, l4] [] σ Q ↔ Wp L d k_S_monthOfDistrust 15 [l0, l1, l2, l3, l4] [vI 99] σ Q := wp_push rfl
theorem r_S_monthOfDistrust_15 : Wp L d k_S_monthOfDistrust 15 [l0, l1, l2, vI a3, l4] [vI s0] σ Q ↔ Wp L d k_S_monthOfDistrust 16 [l0, l1, l2, vI a3, l4] [vI a3, vI s0] σ Q := wp_iload rfl rfl
theorem r_S_monthOfDistrust_16 : Wp L d k_S_monthOfDistrust 16 [vR b0, l1, l2, l3, l4] [vI s1, vI s0] σ Q ↔ Wp L d k_S_monthOfDistrust 17 [vR b0, l1, l2, l3, l4] [vR b0, vI s1, vI s0] σ Q := wp_aload rfl rfl
theorem r_S_monthOfDistrust_17 (h : gK c2 = 5) : Wp L d k_S_monthOfDistrust 17 [l0, l1, l2, l3, l4] [vR c2, vI s1, vI s0] σ Q ↔ Wp L d k_S_monthOfDistrust 20 [l0, l1, l2, l3, l4] [vI (σ c2 8), vI s1, vI s0] σ Q := wp_getI (c := 1288) rfl rfl rfl rfl h
theorem r_S_monthOfDistrust_20 : Wp L d k_S_monthOfDistrust 20 [l0, l1, vI a2, l3, l4] [vI s2, vI s1, vI s0] σ Q ↔ Wp L d k_S_monthOfDistrust 21 [l0, l1, vI a2, l3, l4] [vI a2, vI s2, vI s1, vI s0] σ Q := wp_iload rfl rfl
theorem r_S_monthOfDistrust_21 : Wp L d k_S_monthOfDistrust 21 [l0, l1, l2, l3, l4] [vI s3, vI s2, vI s1, vI s0] σ Q ↔ Wp L d k_S_monthOfDistrust 22 [l0, l1, l2, l3, l4] [vI (w32 (s2 * s3)), vI s1, vI s0] σ Q := wp_imul rfl
theorem r_S_monthOfDistrust_22 : Wp L d k_S_monthOfDistrust 22 [l0, l1, l2, l3, l4] [vI s2, vI s1, vI s0] σ Q ↔ Wp L d k_S_monthOfDistrust 24 [l0, l1, l2, l3, l4] [vI 100, vI s2, vI s1, vI s0] σ Q := wp_push rfl
theorem r_S_monthOfDistrust_24 (h : s3 ≠ 0) : Wp L d k_S_monthOfDistrust 24 [l0, l1, l2, l3, l4] [vI s3, vI s2, vI s1, vI s0] σ Q ↔ Wp L d k_S_monthOfDistrust 25 [l0, l1, l2, l3, l4] [vI (w32 (s2.tdiv s3)), vI s1, vI s0] σ Q := wp_idiv rfl h
theorem r_S_monthOfDistrust_25 : Wp L d k_S_monthOfDistrust 25 [l0, l1, l2, l3, l4] [vI s2, vI s1, vI s0] σ Q ↔ Wp L d k_S_monthOfDistrust 26 [l0, l1, l2, l3, l4] [vI (w32 (s1 + s2)), vI s0] σ Q := wp_iadd rfl
theorem r_S_monthOfDistrust_26 : Wp L d k_S_monthOfDistrust 26 [l0, l1, l2, l3, l4] [vI s1, vI s0] σ Q ↔ Wp L d k_S_monthOfDistrust 29 [l0, l1, l2, l3, l4] [vI (min s0 s1)] σ Q := wp_min rfl rfl
theorem r_S_monthOfDistrust_29 : Wp L d k_S_monthOfDistrust 29 [l0, l1, vI a2, l3, l4] [vI s0] σ Q ↔ Wp L d k_S_monthOfDistrust 30 [l0, l1, vI a2, vI s0, l4] [] σ Q := wp_istore (i := 3) (ls := [l0, l1, vI a2, l3, l4]) rfl rfl
theorem r_S_monthOfDistrust_30 : Wp L d k_S_monthOfDistrust 30 [l0, l1, l2, vI a3, l4] [] σ Q ↔ Wp L d k_S_monthOfDistrust 31 [l0, l1, l2, vI a3, l4] [vI a3] σ Q := wp_iload rfl rfl
theorem r_S_monthOfDistrust_31 : Wp L d k_S_monthOfDistrust 31 [l0, l1, l2, l3, l4] [vI s0] σ Q ↔ Wp L d k_S_monthOfDistrust 33 [l0, l1, l2, l3, l4] [vI 50, vI s0] σ Q := wp_push rfl
theorem r_S_monthOfDistrust_33 : Wp L d k_S_monthOfDistrust 33 [l0, l1, l2, l3, l4] [vI s1, vI s0] σ Q ↔ (if s0 < s1 then Wp L d k_S_monthOfDistrust 44 [l0, l1, l2, l3, l4] [] σ Q else Wp L d k_S_monthOfDistrust 36 [l0, l1, l2, l3, l4] [] σ Q) := wp_cmp_lt rfl
theorem r_S_monthOfDistrust_36 : Wp L d k_S_monthOfDistrust 36 [vR b0, l1, l2, l3, l4] [] σ Q ↔ Wp L d k_S_monthOfDistrust 37 [vR b0, l1, l2, l3, l4] [vR b0] σ Q := wp_aload rfl rfl
theorem r_S_monthOfDistrust_37 (h : gK c0 = 5) : Wp L d k_S_monthOfDistrust 37 [l0, l1, l2, l3, l4] [vR c0] σ Q ↔ Wp L d k_S_monthOfDistrust 40 [l0, l1, l2, l3, l4] [vI (σ c0 7)] σ Q := wp_getI (c := 1287) rfl rfl rfl rfl h
theorem r_S_monthOfDistrust_40 : Wp L d k_S_monthOfDistrust 40 [l0, l1, l2, l3, vI a4] [vI s0] σ Q ↔ Wp L d k_S_monthOfDistrust 42 [l0, l1, l2, l3, vI a4] [vI a4, vI s0] σ Q := wp_iload rfl rfl
theorem r_S_monthOfDistrust_42 : Wp L d k_S_monthOfDistrust 42 [l0, l1, l2, l3, l4] [vI s1, vI s0] σ Q ↔ Wp L d k_S_monthOfDistrust 43 [l0, l1, l2, l3, l4] [vI (w32 (s0 + s1))] σ Q := wp_iadd rfl
theorem r_S_monthOfDistrust_43 : Wp L d k_S_monthOfDistrust 43 [l0, l1, l2, l3, l4] [vI s0] σ Q ↔ Q (some (vI s0)) σ := wp_iret rfl
theorem r_S_monthOfDistrust_44 : Wp L d k_S_monthOfDistrust 44 [l0, l1, l2, vI a3, vI a4] [] σ Q ↔ Wp L d k_S_monthOfDistrust 47 [l0, l1, l2, vI a3, vI (w32 (a4 + 1))] [] σ Q := wp_iinc (i := 4) (ls := [l0, l1, l2, vI a3, vI a4]) rfl rfl
theorem r_S_monthOfDistrust_47 : Wp L d k_S_monthOfDistrust 47 [l0, l1, l2, l3, l4] [] σ Q ↔ Wp L d k_S_monthOfDistrust 5 [l0, l1, l2, l3, l4] [] σ Q := wp_goto rfl
theorem r_S_monthOfDistrust_50 : Wp L d k_S_monthOfDistrust 50 [l0, l1, l2, l3, l4] [] σ Q ↔ Wp L d k_S_monthOfDistrust 52 [l0, l1, l2, l3, l4] [vI (-1000000005)] σ Q := wp_push rfl
theorem r_S_monthOfDistrust_52 : Wp L d k_S_monthOfDistrust 52 [l0, l1, l2, l3, l4] [vI s0] σ Q ↔ Q (some (vI s0)) σ := wp_iret rfl
theorem lp_S_monthOfDistrust (h7 : 0 ≤ σ 28 7 ∧ σ 28 7 ≤ 599) (h8 : 0 ≤ σ 28 8 * a2 ∧ σ 28 8 * a2 ≤ 98901) (hm : 0 ≤ (σ 28 8 * a2).tdiv 100 ∧ (σ 28 8 * a2).tdiv 100 ≤ 98901) : ∀ (n : Nat) (s k : Int), k + n = 600 → 0 ≤ k → 0 ≤ s ∧ s ≤ 99 → Wp L d k_S_monthOfDistrust 5 [vR 28, vI a1, vI a2, vI s, vI k] [] σ (fun r' σ' => r' = some (vI (brtru ((σ 28 8 * a2).tdiv 100) (σ 28 7) n s k)) ∧ σ' = σ)
  | 0, s, k, hk, h0, hs => by
    obtain ⟨K27, K28, K29, K78, K97, K99, K109, K123, K125, K279, K282⟩ := litX
    rw [r_S_monthOfDistrust_5]
    simp (disch := first | assumption | exact gb_01 _ | omega) only [r_S_monthOfDistrust_0, r_S_monthOfDistrust_1, r_S_monthOfDistrust_2, r_S_monthOfDistrust_3, r_S_monthOfDistrust_7, r_S_monthOfDistrust_10, r_S_monthOfDistrust_13, r_S_monthOfDistrust_15, r_S_monthOfDistrust_16, r_S_monthOfDistrust_17, r_S_monthOfDistrust_20, r_S_monthOfDistrust_21, r_S_monthOfDistrust_22, r_S_monthOfDistrust_24, r_S_monthOfDistrust_25, r_S_monthOfDistrust_26, r_S_monthOfDistrust_29, r_S_monthOfDistrust_30, r_S_monthOfDistrust_31, r_S_monthOfDistrust_33, r_S_monthOfDistrust_36, r_S_monthOfDistrust_37, r_S_monthOfDistrust_40, r_S_monthOfDistrust_42, r_S_monthOfDistrust_43, r_S_monthOfDistrust_44, r_S_monthOfDistrust_47, r_S_monthOfDistrust_50, r_S_monthOfDistrust_52, gq_27_0, gq_27_1, gq_27_2, gq_27_3, gq_27_4, gq_27_5, gq_27_6, gq_28_0, gq_28_1, gq_28_2, gq_28_3, gq_28_4, gq_28_5, gq_28_6, w32_gb, w32i, tn_add, tn_mul, Int.toNat_natCast, Int.toNat_zero, Int.reduceLE, Int.reduceLT, Int.reduceEq, Int.reduceNe, gb_T, gb_F, Int.reduceToNat, eq_self, true_or, or_true, and_true, true_and, and_self, ↓ite_gb0, ↓ite_gbn, ↓if_pos, ↓if_neg, if_true, if_false, not_true_eq_false, not_false_eq_true, gb_ne0, gb_eq0]
    rfl
  | n + 1, s, k, hk, h0, hs => by
    obtain ⟨K27, K28, K29, K78, K97, K99, K109, K123, K125, K279, K282⟩ := litX
    rw [r_S_monthOfDistrust_5]
    by_cases e : 50 ≤ min 99 (s + (σ 28 8 * a2).tdiv 100)
    · rw [show brtru ((σ 28 8 * a2).tdiv 100) (σ 28 7) (n + 1) s k = σ 28 7 + k from if_pos e]
      simp (disch := first | assumption | exact gb_01 _ | omega) only [r_S_monthOfDistrust_0, r_S_monthOfDistrust_1, r_S_monthOfDistrust_2, r_S_monthOfDistrust_3, r_S_monthOfDistrust_7, r_S_monthOfDistrust_10, r_S_monthOfDistrust_13, r_S_monthOfDistrust_15, r_S_monthOfDistrust_16, r_S_monthOfDistrust_17, r_S_monthOfDistrust_20, r_S_monthOfDistrust_21, r_S_monthOfDistrust_22, r_S_monthOfDistrust_24, r_S_monthOfDistrust_25, r_S_monthOfDistrust_26, r_S_monthOfDistrust_29, r_S_monthOfDistrust_30, r_S_monthOfDistrust_31, r_S_monthOfDistrust_33, r_S_monthOfDistrust_36, r_S_monthOfDistrust_37, r_S_monthOfDistrust_40, r_S_monthOfDistrust_42, r_S_monthOfDistrust_43, r_S_monthOfDistrust_44, r_S_monthOfDistrust_47, r_S_monthOfDistrust_50, r_S_monthOfDistrust_52, gq_27_0, gq_27_1, gq_27_2, gq_27_3, gq_27_4, gq_27_5, gq_27_6, gq_28_0, gq_28_1, gq_28_2, gq_28_3, gq_28_4, gq_28_5, gq_28_6, w32_gb, w32i, tn_add, tn_mul, Int.toNat_natCast, Int.toNat_zero, Int.reduceLE, Int.reduceLT, Int.reduceEq, Int.reduceNe, gb_T, gb_F, Int.reduceToNat, eq_self, true_or, or_true, and_true, true_and, and_self, ↓ite_gb0, ↓ite_gbn, ↓if_pos, ↓if_neg, if_true, if_false, not_true_eq_false, not_false_eq_true, gb_ne0, gb_eq0]
    · rw [show brtru ((σ 28 8 * a2).tdiv 100) (σ 28 7) (n + 1) s k = brtru ((σ 28 8 * a2).tdiv 100) (σ 28 7) n (min 99 (s + (σ 28 8 * a2).tdiv 100)) (k + 1) from if_neg e]
      simp (disch := first | assumption | exact gb_01 _ | omega) only [r_S_monthOfDistrust_0, r_S_monthOfDistrust_1, r_S_monthOfDistrust_2, r_S_monthOfDistrust_3, r_S_monthOfDistrust_7, r_S_monthOfDistrust_10, r_S_monthOfDistrust_13, r_S_monthOfDistrust_15, r_S_monthOfDistrust_16, r_S_monthOfDistrust_17, r_S_monthOfDistrust_20, r_S_monthOfDistrust_21, r_S_monthOfDistrust_22, r_S_monthOfDistrust_24, r_S_monthOfDistrust_25, r_S_monthOfDistrust_26, r_S_monthOfDistrust_29, r_S_monthOfDistrust_30, r_S_monthOfDistrust_31, r_S_monthOfDistrust_33, r_S_monthOfDistrust_36, r_S_monthOfDistrust_37, r_S_monthOfDistrust_40, r_S_monthOfDistrust_42, r_S_monthOfDistrust_43, r_S_monthOfDistrust_44, r_S_monthOfDistrust_47, r_S_monthOfDistrust_50, r_S_monthOfDistrust_52, gq_27_0, gq_27_1, gq_27_2, gq_27_3, gq_27_4, gq_27_5, gq_27_6, gq_28_0, gq_28_1, gq_28_2, gq_28_3, gq_28_4, gq_28_5, gq_28_6, w32_gb, w32i, tn_add, tn_mul, Int.toNat_natCast, Int.toNat_zero, Int.reduceLE, Int.reduceLT, Int.reduceEq, Int.reduceNe, gb_T, gb_F, Int.reduceToNat, eq_self, true_or, or_true, and_true, true_and, and_self, ↓ite_gb0, ↓ite_gbn, ↓if_pos, ↓if_neg, if_true, if_false, not_true_eq_false, not_false_eq_true, gb_ne0, gb_eq0]
      exact lp_S_monthOfDistrust h7 h8 hm n _ _ (by omega) (by omega) (by omega)
theorem sp_S_monthOfDistrust (h7 : 0 ≤ σ 28 7 ∧ σ 28 7 ≤ 599) (h8 : 0 ≤ σ 28 8 ∧ σ 28 8 ≤ 99) (h1 : 0 ≤ a1 ∧ a1 ≤ 99) (h2 : 0 ≤ a2 ∧ a2 ≤ 999) : Run L d 138 [vR 28, vI a1, vI a2] σ (some (vI (brtru ((σ 28 8 * a2).tdiv 100) (σ 28 7) 600 a1 0))) σ := by
  refine Run_of (C' := k_S_monthOfDistrust) rfl ?_
  show Wp L d k_S_monthOfDistrust 0 [vR 28, vI a1, vI a2, vU, vU] [] σ _

  have m := mul_bd h8 h2
  have t := tdiv_bd (a := σ 28 8 * a2) (b := 100) m.1 (by omega)
  simp only [r_S_monthOfDistrust_0, r_S_monthOfDistrust_1, r_S_monthOfDistrust_2, r_S_monthOfDistrust_3, r_S_monthOfDistrust_7, r_S_monthOfDistrust_10, r_S_monthOfDistrust_13, r_S_monthOfDistrust_15, r_S_monthOfDistrust_16, r_S_monthOfDistrust_17, r_S_monthOfDistrust_20, r_S_monthOfDistrust_21, r_S_monthOfDistrust_22, r_S_monthOfDistrust_24, r_S_monthOfDistrust_25, r_S_monthOfDistrust_26, r_S_monthOfDistrust_29, r_S_monthOfDistrust_30, r_S_monthOfDistrust_31, r_S_monthOfDistrust_33, r_S_monthOfDistrust_36, r_S_monthOfDistrust_37, r_S_monthOfDistrust_40, r_S_monthOfDistrust_42, r_S_monthOfDistrust_43, r_S_monthOfDistrust_44, r_S_monthOfDistrust_47, r_S_monthOfDistrust_50, r_S_monthOfDistrust_52]
  exact lp_S_monthOfDistrust h7 (by omega) (by omega) 600 a1 0 (by omega) (by omega) h1
theorem r_X_trust_0 : Wp L d k_X_trust 0 [vR b0, l1, l2, l3] [] σ Q ↔ Wp L d k_X_trust 1 [vR b0, l1, l2, l3] [vR b0] σ Q := wp_aload rfl rfl
theorem r_X_trust_1 : Wp L d k_X_trust 1 [l0, vI a1, l2, l3] [vR c0] σ Q ↔ Wp L d k_X_trust 2 [l0, vI a1, l2, l3] [vI a1, vR c0] σ Q := wp_iload rfl rfl
theorem r_X_trust_5 : Wp L d k_X_trust 5 [l0, l1, l2, l3] [vI s0] σ Q ↔ (if s0 = 0 then Wp L d k_X_trust 15 [l0, l1, l2, l3] [] σ Q else Wp L d k_X_trust 8 [l0, l1, l2, l3] [] σ Q) := wp_if_eq rfl
theorem r_X_trust_8 : Wp L d k_X_trust 8 [l0, l1, vI a2, l3] [] σ Q ↔ Wp L d k_X_trust 9 [l0, l1, vI a2, l3] [vI a2] σ Q := wp_iload rfl rfl
theorem r_X_trust_12 : Wp L d k_X_trust 12 [l0, l1, l2, l3] [vI s0] σ Q ↔ (if s0 ≠ 0 then Wp L d k_X_trust 18 [l0, l1, l2, l3] [] σ Q else Wp L d k_X_trust 15 [l0, l1, l2, l3] [] σ Q) := wp_if_ne rfl
theorem r_X_trust_15 : Wp L d k_X_trust 15 [l0, l1, l2, l3] [] σ Q ↔ Wp L d k_X_trust 17 [l0, l1, l2, l3] [vI (-1000000001)] σ Q := wp_push rfl
theorem r_X_trust_17 : Wp L d k_X_trust 17 [l0, l1, l2, l3] [vI s0] σ Q ↔ Q (some (vI s0)) σ := wp_iret rfl
theorem r_X_trust_18 : Wp L d k_X_trust 18 [vR b0, l1, l2, l3] [] σ Q ↔ Wp L d k_X_trust 19 [vR b0, l1, l2, l3] [vR b0] σ Q := wp_aload rfl rfl
theorem r_X_trust_19 (h : gK c0 = 0) : Wp L d k_X_trust 19 [l0, l1, l2, l3] [vR c0] σ Q ↔ Wp L d k_X_trust 22 [l0, l1, l2, l3] [vR (gq c0 1)] σ Q := wp_getR (c := 129) rfl rfl rfl rfl rfl h
theorem r_X_trust_22 (h : gK c0 = 1) : Wp L d k_X_trust 22 [l0, l1, l2, l3] [vR c0] σ Q ↔ Wp L d k_X_trust 25 [l0, l1, l2, l3] [vR (gq c0 3)] σ Q := wp_getR (c := 387) rfl rfl rfl rfl rfl h
theorem r_X_trust_25 : Wp L d k_X_trust 25 [l0, vI a1, l2, l3] [vR c0] σ Q ↔ Wp L d k_X_trust 26 [l0, vI a1, l2, l3] [vI a1, vR c0] σ Q := wp_iload rfl rfl
theorem r_X_trust_26 (h : gK c0 = 102 ∨ gK c0 = 103) (hx : 0 ≤ s1 ∧ s1 < gN c0) : Wp L d k_X_trust 26 [l0, l1, l2, l3] [vI s1, vR c0] σ Q ↔ Wp L d k_X_trust 27 [l0, l1, l2, l3] [vR (gq c0 s1.toNat)] σ Q := wp_aald rfl h hx
theorem r_X_trust_27 : Wp L d k_X_trust 27 [l0, l1, vI a2, l3] [vR c0] σ Q ↔ Wp L d k_X_trust 28 [l0, l1, vI a2, vR c0] [] σ Q := wp_astore (i := 3) (ls := [l0, l1, vI a2, l3]) rfl rfl
theorem r_X_trust_28 : Wp L d k_X_trust 28 [l0, l1, l2, vR b3] [] σ Q ↔ Wp L d k_X_trust 29 [l0, l1, l2, vR b3] [vR b3] σ Q := wp_aload rfl rfl
theorem r_X_trust_29 : Wp L d k_X_trust 29 [l0, l1, l2, l3] [vR c0] σ Q ↔ Wp L d k_X_trust 30 [l0, l1, l2, l3] [vI 2, vR c0] σ Q := wp_push rfl
theorem r_X_trust_33 : Wp L d k_X_trust 33 [l0, l1, l2, l3] [vI s0] σ Q ↔ (if s0 = 0 then Wp L d k_X_trust 51 [l0, l1, l2, l3] [] σ Q else Wp L d k_X_trust 36 [l0, l1, l2, l3] [] σ Q) := wp_if_eq rfl
theorem r_X_trust_36 : Wp L d k_X_trust 36 [vR b0, l1, l2, l3] [] σ Q ↔ Wp L d k_X_trust 37 [vR b0, l1, l2, l3] [vR b0] σ Q := wp_aload rfl rfl
theorem r_X_trust_37 (h : gK c0 = 0) : Wp L d k_X_trust 37 [l0, l1, l2, l3] [vR c0] σ Q ↔ Wp L d k_X_trust 40 [l0, l1, l2, l3] [vR (gq c0 0)] σ Q := wp_getR (c := 128) rfl rfl rfl rfl rfl h
theorem r_X_trust_40 : Wp L d k_X_trust 40 [l0, l1, l2, vR b3] [vR c0] σ Q ↔ Wp L d k_X_trust 41 [l0, l1, l2, vR b3] [vR b3, vR c0] σ Q := wp_aload rfl rfl
theorem r_X_trust_41 (h : gK c1 = 4) : Wp L d k_X_trust 41 [l0, l1, l2, l3] [vR c1, vR c0] σ Q ↔ Wp L d k_X_trust 44 [l0, l1, l2, l3] [vI (σ c1 5), vR c0] σ Q := wp_getI (c := 1029) rfl rfl rfl rfl h
theorem r_X_trust_44 : Wp L d k_X_trust 44 [l0, l1, vI a2, l3] [vI s1, vR c0] σ Q ↔ Wp L d k_X_trust 45 [l0, l1, vI a2, l3] [vI a2, vI s1, vR c0] σ Q := wp_iload rfl rfl
theorem c_X_trust_45 (hR : Run L d 138 [vR c0, vI s1, vI s2] σ r σ1) (h : gK c0 = 5) : Wp L (d + 1) k_X_trust 45 [l0, l1, l2, l3] [vI s2, vI s1, vR c0] σ Q ↔ Wp L (d + 1) k_X_trust 48 [l0, l1, l2, l3] (r.toList ++ []) σ1 Q := wp_callR (as := [vR c0, vI s1, vI s2]) (rest := []) rfl rfl rfl rfl rfl rfl rfl (grecv_k (by rw [h]) rfl) hR
theorem r_X_trust_48 : Wp L d k_X_trust 48 [l0, l1, l2, l3] [vI s0] σ Q ↔ Wp L d k_X_trust 53 [l0, l1, l2, l3] [vI s0] σ Q := wp_goto rfl
theorem r_X_trust_51 : Wp L d k_X_trust 51 [l0, l1, l2, l3] [] σ Q ↔ Wp L d k_X_trust 53 [l0, l1, l2, l3] [vI (-1000000012)] σ Q := wp_push rfl
theorem r_X_trust_53 : Wp L d k_X_trust 53 [l0, l1, l2, l3] [vI s0] σ Q ↔ Q (some (vI s0)) σ := wp_iret rfl
theorem r_X_trust_2 : Wp L (d + 2) k_X_trust 2 [l0, l1, l2, l3] [vI s1, vR 27] σ Q ↔ Wp L (d + 2) k_X_trust 5 [l0, l1, l2, l3] [vI (gb (0 ≤ s1 ∧ s1 ≤ w32 (σ 29 9 - 1)))] σ Q := wp_callR (d := d + 1) (as := [vR 27, vI s1]) (rest := []) rfl rfl rfl rfl rfl rfl rfl (grecv_k (by rw [gK_27]) rfl) (sp_X_isPart)
theorem r_X_trust_9 : Wp L (d + 2) k_X_trust 9 [l0, l1, l2, l3] [vI s0] σ Q ↔ Wp L (d + 2) k_X_trust 12 [l0, l1, l2, l3] [vI (gb (0 ≤ s0 ∧ s0 ≤ 999))] σ Q := wp_callR (d := d + 1) (as := [vI s0]) (rest := []) rfl rfl rfl rfl rfl rfl rfl rfl (sp_X_isTrains)
theorem r_X_trust_30 (hk : gK c0 = 4) : Wp L (d + 2) k_X_trust 30 [l0, l1, l2, l3] [vI s1, vR c0] σ Q ↔ Wp L (d + 2) k_X_trust 33 [l0, l1, l2, l3] [vI (gb (s1 = 0 ∨ s1 = σ c0 0 ∨ s1 = 2 ∧ σ c0 0 = 3))] σ Q := wp_callR (d := d + 1) (as := [vR c0, vI s1]) (rest := []) rfl rfl rfl rfl rfl rfl rfl (grecv_k (by rw [hk]) rfl) (sp_Q_isOf hk)
theorem sp_X_trust_b (hp : w32 (σ 29 9 - 1) = σ 29 9 - 1) (h : ¬ ((0 ≤ a1 ∧ a1 ≤ σ 29 9 - 1) ∧ 0 ≤ a2 ∧ a2 ≤ 999)) : Run L (d + 2) 48 [vR 27, vI a1, vI a2] σ (some (vI (-1000000001))) σ := by
  refine Run_of (C' := k_X_trust) rfl ?_
  show Wp L (d + 2) k_X_trust 0 [vR 27, vI a1, vI a2, vU] [] σ _
  obtain ⟨K27, K28, K29, K78, K97, K99, K109, K123, K125, K279, K282⟩ := litX
  by_cases e : 0 ≤ a1 ∧ a1 ≤ σ 29 9 - 1
  · simp (disch := first | assumption | exact gb_01 _ | omega) only [r_X_trust_0, r_X_trust_1, r_X_trust_2, r_X_trust_5, r_X_trust_8, r_X_trust_9, r_X_trust_12, r_X_trust_15, r_X_trust_17, gq_27_0, gq_27_1, gq_27_2, gq_27_3, gq_27_4, gq_27_5, gq_27_6, gq_28_0, gq_28_1, gq_28_2, gq_28_3, gq_28_4, gq_28_5, gq_28_6, hp, w32_gb, w32i, tn_add, tn_mul, Int.toNat_natCast, Int.toNat_zero, Int.reduceLE, Int.reduceLT, Int.reduceEq, Int.reduceNe, gb_T, gb_F, Int.reduceToNat, eq_self, true_or, or_true, and_true, true_and, and_self, ↓ite_gb0, ↓ite_gbn, ↓if_pos, ↓if_neg, if_true, if_false, not_true_eq_false, not_false_eq_true, gb_ne0, gb_eq0]
  · simp (disch := first | assumption | exact gb_01 _ | omega) only [r_X_trust_0, r_X_trust_1, r_X_trust_2, r_X_trust_5, r_X_trust_8, r_X_trust_9, r_X_trust_12, r_X_trust_15, r_X_trust_17, gq_27_0, gq_27_1, gq_27_2, gq_27_3, gq_27_4, gq_27_5, gq_27_6, gq_28_0, gq_28_1, gq_28_2, gq_28_3, gq_28_4, gq_28_5, gq_28_6, hp, w32_gb, w32i, tn_add, tn_mul, Int.toNat_natCast, Int.toNat_zero, Int.reduceLE, Int.reduceLT, Int.reduceEq, Int.reduceNe, gb_T, gb_F, Int.reduceToNat, eq_self, true_or, or_true, and_true, true_and, and_self, ↓ite_gb0, ↓ite_gbn, ↓if_pos, ↓if_neg, if_true, if_false, not_true_eq_false, not_false_eq_true, gb_ne0, gb_eq0]
theorem r_M_trust_0 : Wp L d k_M_trust 0 [vR b0, l1, l2, l3, l4] [] σ Q ↔ Wp L d k_M_trust 1 [vR b0, l1, l2, l3, l4] [vR b0] σ Q := wp_aload rfl rfl
theorem r_M_trust_1 : Wp L d k_M_trust 1 [l0, vI a1, l2, l3, l4] [vR c0] σ Q ↔ Wp L d k_M_trust 2 [l0, vI a1, l2, l3, l4] [vI a1, vR c0] σ Q := wp_iload rfl rfl
theorem r_M_trust_5 : Wp L d k_M_trust 5 [l0, l1, l2, l3, l4] [vI s0] σ Q ↔ (if s0 = 0 then Wp L d k_M_trust 20 [l0, l1, l2, l3, l4] [] σ Q else Wp L d k_M_trust 8 [l0, l1, l2, l3, l4] [] σ Q) := wp_if_eq rfl
theorem r_M_trust_8 : Wp L d k_M_trust 8 [l0, l1, vI a2, l3, l4] [] σ Q ↔ Wp L d k_M_trust 9 [l0, l1, vI a2, l3, l4] [vI a2] σ Q := wp_iload rfl rfl
theorem r_M_trust_9 : Wp L d k_M_trust 9 [l0, l1, l2, l3, l4] [vI s0] σ Q ↔ Wp L d k_M_trust 10 [l0, l1, l2, l3, l4] [vL s0] σ Q := wp_i2l rfl
theorem r_M_trust_10 : Wp L d k_M_trust 10 [l0, l1, l2, l3, l4] [vL s0] σ Q ↔ Wp L d k_M_trust 11 [l0, l1, l2, l3, l4] [vL 0, vL s0] σ Q := wp_pushL rfl
theorem r_M_trust_11 : Wp L d k_M_trust 11 [l0, l1, l2, l3, l4] [vL s1, vL s0] σ Q ↔ Wp L d k_M_trust 14 [l0, l1, l2, l3, l4] [vL 999, vL s1, vL s0] σ Q := wp_pushL rfl
theorem r_M_trust_17 : Wp L d k_M_trust 17 [l0, l1, l2, l3, l4] [vI s0] σ Q ↔ (if s0 ≠ 0 then Wp L d k_M_trust 23 [l0, l1, l2, l3, l4] [] σ Q else Wp L d k_M_trust 20 [l0, l1, l2, l3, l4] [] σ Q) := wp_if_ne rfl
theorem r_M_trust_20 : Wp L d k_M_trust 20 [l0, l1, l2, l3, l4] [] σ Q ↔ Wp L d k_M_trust 22 [l0, l1, l2, l3, l4] [vI (-1000000001)] σ Q := wp_push rfl
theorem r_M_trust_22 : Wp L d k_M_trust 22 [l0, l1, l2, l3, l4] [vI s0] σ Q ↔ Q (some (vI s0)) σ := wp_iret rfl
theorem r_M_trust_23 : Wp L d k_M_trust 23 [vR b0, l1, l2, l3, l4] [] σ Q ↔ Wp L d k_M_trust 24 [vR b0, l1, l2, l3, l4] [vR b0] σ Q := wp_aload rfl rfl
theorem r_M_trust_24 : Wp L d k_M_trust 24 [l0, vI a1, l2, l3, l4] [vR c0] σ Q ↔ Wp L d k_M_trust 25 [l0, vI a1, l2, l3, l4] [vI a1, vR c0] σ Q := wp_iload rfl rfl
theorem r_M_trust_28 : Wp L d k_M_trust 28 [l0, l1, l2, l3, l4] [vI s0] σ Q ↔ (if s0 ≠ 0 then Wp L d k_M_trust 34 [l0, l1, l2, l3, l4] [] σ Q else Wp L d k_M_trust 31 [l0, l1, l2, l3, l4] [] σ Q) := wp_if_ne rfl
theorem r_M_trust_31 : Wp L d k_M_trust 31 [l0, l1, l2, l3, l4] [] σ Q ↔ Wp L d k_M_trust 33 [l0, l1, l2, l3, l4] [vI (-1000000012)] σ Q := wp_push rfl
theorem r_M_trust_33 : Wp L d k_M_trust 33 [l0, l1, l2, l3, l4] [vI s0] σ Q ↔ Q (some (vI s0)) σ := wp_iret rfl
theorem r_M_trust_34 : Wp L d k_M_trust 34 [vR b0, l1, l2, l3, l4] [] σ Q ↔ Wp L d k_M_trust 35 [vR b0, l1, l2, l3, l4] [vR b0] σ Q := wp_aload rfl rfl
theorem r_M_trust_35 (h : gK c0 = 12) : Wp L d k_M_trust 35 [l0, l1, l2, l3, l4] [vR c0] σ Q ↔ Wp L d k_M_trust 38 [l0, l1, l2, l3, l4] [vR (gq c0 0)] σ Q := wp_getR (c := 3200) rfl rfl rfl rfl rfl h
theorem r_M_trust_38 : Wp L d k_M_trust 38 [vR b0, l1, l2, l3, l4] [vR c0] σ Q ↔ Wp L d k_M_trust 39 [vR b0, l1, l2, l3, l4] [vR b0, vR c0] σ Q := wp_aload rfl rfl
theorem r_M_trust_39 : Wp L d k_M_trust 39 [l0, vI a1, l2, l3, l4] [vR c1, vR c0] σ Q ↔ Wp L d k_M_trust 40 [l0, vI a1, l2, l3, l4] [vI a1, vR c1, vR c0] σ Q := wp_iload rfl rfl
theorem r_M_trust_43 : Wp L d k_M_trust 43 [l0, l1, l2, l3, l4] [vI s1, vR c0] σ Q ↔ Wp L d k_M_trust 44 [l0, l1, l2, l3, l4] [vI 5, vI s1, vR c0] σ Q := wp_push rfl
theorem r_M_trust_44 : Wp L d k_M_trust 44 [l0, l1, l2, l3, l4] [vI s2, vI s1, vR c0] σ Q ↔ Wp L d k_M_trust 45 [l0, l1, l2, l3, l4] [vI (w32 (s1 + s2)), vR c0] σ Q := wp_iadd rfl
theorem r_M_trust_45 (h : gK c0 = 100) (hx : 0 ≤ s1 ∧ s1 < gN c0) : Wp L d k_M_trust 45 [l0, l1, l2, l3, l4] [vI s1, vR c0] σ Q ↔ Wp L d k_M_trust 46 [l0, l1, l2, l3, l4] [vI (σ c0 s1.toNat)] σ Q := wp_iald rfl h hx
theorem r_M_trust_46 : Wp L d k_M_trust 46 [l0, l1, vI a2, l3, l4] [vI s0] σ Q ↔ Wp L d k_M_trust 47 [l0, l1, vI a2, vI s0, l4] [] σ Q := wp_istore (i := 3) (ls := [l0, l1, vI a2, l3, l4]) rfl rfl
theorem r_M_trust_47 : Wp L d k_M_trust 47 [l0, l1, l2, l3, l4] [] σ Q ↔ Wp L d k_M_trust 48 [l0, l1, l2, l3, l4] [vI 0] σ Q := wp_push rfl
theorem r_M_trust_48 : Wp L d k_M_trust 48 [l0, l1, l2, vI a3, l4] [vI s0] σ Q ↔ Wp L d k_M_trust 50 [l0, l1, l2, vI a3, vI s0] [] σ Q := wp_istore (i := 4) (ls := [l0, l1, l2, vI a3, l4]) rfl rfl
theorem r_M_trust_50 : Wp L d k_M_trust 50 [l0, l1, l2, l3, vI a4] [] σ Q ↔ Wp L d k_M_trust 52 [l0, l1, l2, l3, vI a4] [vI a4] σ Q := wp_iload rfl rfl
theorem r_M_trust_52 : Wp L d k_M_trust 52 [l0, l1, l2, l3, l4] [vI s0] σ Q ↔ Wp L d k_M_trust 55 [l0, l1, l2, l3, l4] [vI 600, vI s0] σ Q := wp_push rfl
theorem r_M_trust_55 : Wp L d k_M_trust 55 [l0, l1, l2, l3, l4] [vI s1, vI s0] σ Q ↔ (if s1 ≤ s0 then Wp L d k_M_trust 101 [l0, l1, l2, l3, l4] [] σ Q else Wp L d k_M_trust 58 [l0, l1, l2, l3, l4] [] σ Q) := wp_cmp_ge rfl
theorem r_M_trust_58 : Wp L d k_M_trust 58 [l0, l1, l2, l3, l4] [] σ Q ↔ Wp L d k_M_trust 60 [l0, l1, l2, l3, l4] [vI 99] σ Q := wp_push rfl
theorem r_M_trust_60 : Wp L d k_M_trust 60 [l0, l1, l2, vI a3, l4] [vI s0] σ Q ↔ Wp L d k_M_trust 61 [l0, l1, l2, vI a3, l4] [vI a3, vI s0] σ Q := wp_iload rfl rfl
theorem r_M_trust_61 : Wp L d k_M_trust 61 [vR b0, l1, l2, l3, l4] [vI s1, vI s0] σ Q ↔ Wp L d k_M_trust 62 [vR b0, l1, l2, l3, l4] [vR b0, vI s1, vI s0] σ Q := wp_aload rfl rfl
theorem r_M_trust_62 (h : gK c2 = 12) : Wp L d k_M_trust 62 [l0, l1, l2, l3, l4] [vR c2, vI s1, vI s0] σ Q ↔ Wp L d k_M_trust 65 [l0, l1, l2, l3, l4] [vR (gq c2 0), vI s1, vI s0] σ Q := wp_getR (c := 3200) rfl rfl rfl rfl rfl h
theorem r_M_trust_65 : Wp L d k_M_trust 65 [l0, l1, l2, l3, l4] [vR c2, vI s1, vI s0] σ Q ↔ Wp L d k_M_trust 67 [l0, l1, l2, l3, l4] [vI 8, vR c2, vI s1, vI s0] σ Q := wp_push rfl
theorem r_M_trust_67 (h : gK c2 = 100) (hx : 0 ≤ s3 ∧ s3 < gN c2) : Wp L d k_M_trust 67 [l0, l1, l2, l3, l4] [vI s3, vR c2, vI s1, vI s0] σ Q ↔ Wp L d k_M_trust 68 [l0, l1, l2, l3, l4] [vI (σ c2 s3.toNat), vI s1, vI s0] σ Q := wp_iald rfl h hx
theorem r_M_trust_68 : Wp L d k_M_trust 68 [l0, l1, vI a2, l3, l4] [vI s2, vI s1, vI s0] σ Q ↔ Wp L d k_M_trust 69 [l0, l1, vI a2, l3, l4] [vI a2, vI s2, vI s1, vI s0] σ Q := wp_iload rfl rfl
theorem r_M_trust_69 : Wp L d k_M_trust 69 [l0, l1, l2, l3, l4] [vI s3, vI s2, vI s1, vI s0] σ Q ↔ Wp L d k_M_trust 70 [l0, l1, l2, l3, l4] [vI (w32 (s2 * s3)), vI s1, vI s0] σ Q := wp_imul rfl
theorem r_M_trust_70 : Wp L d k_M_trust 70 [l0, l1, l2, l3, l4] [vI s2, vI s1, vI s0] σ Q ↔ Wp L d k_M_trust 72 [l0, l1, l2, l3, l4] [vI 100, vI s2, vI s1, vI s0] σ Q := wp_push rfl
theorem r_M_trust_72 (h : s3 ≠ 0) : Wp L d k_M_trust 72 [l0, l1, l2, l3, l4] [vI s3, vI s2, vI s1, vI s0] σ Q ↔ Wp L d k_M_trust 73 [l0, l1, l2, l3, l4] [vI (w32 (s2.tdiv s3)), vI s1, vI s0] σ Q := wp_idiv rfl h
theorem r_M_trust_73 : Wp L d k_M_trust 73 [l0, l1, l2, l3, l4] [vI s2, vI s1, vI s0] σ Q ↔ Wp L d k_M_trust 74 [l0, l1, l2, l3, l4] [vI (w32 (s1 + s2)), vI s0] σ Q := wp_iadd rfl
theorem r_M_trust_77 : Wp L d k_M_trust 77 [l0, l1, vI a2, l3, l4] [vI s0] σ Q ↔ Wp L d k_M_trust 78 [l0, l1, vI a2, vI s0, l4] [] σ Q := wp_istore (i := 3) (ls := [l0, l1, vI a2, l3, l4]) rfl rfl
theorem r_M_trust_78 : Wp L d k_M_trust 78 [l0, l1, l2, vI a3, l4] [] σ Q ↔ Wp L d k_M_trust 79 [l0, l1, l2, vI a3, l4] [vI a3] σ Q := wp_iload rfl rfl
theorem r_M_trust_79 : Wp L d k_M_trust 79 [l0, l1, l2, l3, l4] [vI s0] σ Q ↔ Wp L d k_M_trust 81 [l0, l1, l2, l3, l4] [vI 50, vI s0] σ Q := wp_push rfl
theorem r_M_trust_81 : Wp L d k_M_trust 81 [l0, l1, l2, l3, l4] [vI s1, vI s0] σ Q ↔ (if s0 < s1 then Wp L d k_M_trust 95 [l0, l1, l2, l3, l4] [] σ Q else Wp L d k_M_trust 84 [l0, l1, l2, l3, l4] [] σ Q) := wp_cmp_lt rfl
theorem r_M_trust_84 : Wp L d k_M_trust 84 [vR b0, l1, l2, l3, l4] [] σ Q ↔ Wp L d k_M_trust 85 [vR b0, l1, l2, l3, l4] [vR b0] σ Q := wp_aload rfl rfl
theorem r_M_trust_85 (h : gK c0 = 12) : Wp L d k_M_trust 85 [l0, l1, l2, l3, l4] [vR c0] σ Q ↔ Wp L d k_M_trust 88 [l0, l1, l2, l3, l4] [vR (gq c0 0)] σ Q := wp_getR (c := 3200) rfl rfl rfl rfl rfl h
theorem r_M_trust_88 : Wp L d k_M_trust 88 [l0, l1, l2, l3, l4] [vR c0] σ Q ↔ Wp L d k_M_trust 90 [l0, l1, l2, l3, l4] [vI 7, vR c0] σ Q := wp_push rfl
theorem r_M_trust_90 (h : gK c0 = 100) (hx : 0 ≤ s1 ∧ s1 < gN c0) : Wp L d k_M_trust 90 [l0, l1, l2, l3, l4] [vI s1, vR c0] σ Q ↔ Wp L d k_M_trust 91 [l0, l1, l2, l3, l4] [vI (σ c0 s1.toNat)] σ Q := wp_iald rfl h hx
theorem r_M_trust_91 : Wp L d k_M_trust 91 [l0, l1, l2, l3, vI a4] [vI s0] σ Q ↔ Wp L d k_M_trust 93 [l0, l1, l2, l3, vI a4] [vI a4, vI s0] σ Q := wp_iload rfl rfl
theorem r_M_trust_93 : Wp L d k_M_trust 93 [l0, l1, l2, l3, l4] [vI s1, vI s0] σ Q ↔ Wp L d k_M_trust 94 [l0, l1, l2, l3, l4] [vI (w32 (s0 + s1))] σ Q := wp_iadd rfl
theorem r_M_trust_94 : Wp L d k_M_trust 94 [l0, l1, l2, l3, l4] [vI s0] σ Q ↔ Q (some (vI s0)) σ := wp_iret rfl
theorem r_M_trust_95 : Wp L d k_M_trust 95 [l0, l1, l2, vI a3, vI a4] [] σ Q ↔ Wp L d k_M_trust 98 [l0, l1, l2, vI a3, vI (w32 (a4 + 1))] [] σ Q := wp_iinc (i := 4) (ls := [l0, l1, l2, vI a3, vI a4]) rfl rfl
theorem r_M_trust_98 : Wp L d k_M_trust 98 [l0, l1, l2, l3, l4] [] σ Q ↔ Wp L d k_M_trust 50 [l0, l1, l2, l3, l4] [] σ Q := wp_goto rfl
theorem r_M_trust_101 : Wp L d k_M_trust 101 [l0, l1, l2, l3, l4] [] σ Q ↔ Wp L d k_M_trust 103 [l0, l1, l2, l3, l4] [vI (-1000000005)] σ Q := wp_push rfl
theorem r_M_trust_103 : Wp L d k_M_trust 103 [l0, l1, l2, l3, l4] [vI s0] σ Q ↔ Q (some (vI s0)) σ := wp_iret rfl
theorem r_M_trust_2 : Wp L (d + 3) k_M_trust 2 [l0, l1, l2, l3, l4] [vI s1, vR 293] σ Q ↔ Wp L (d + 3) k_M_trust 5 [l0, l1, l2, l3, l4] [vI (gb (0 ≤ s1 ∧ s1 ≤ w32 (σ 294 1 - 1)))] σ Q := wp_callR (d := d + 2) (as := [vR 293, vI s1]) (rest := []) rfl rfl rfl rfl rfl rfl rfl (grecv_k (by rw [gK_293]) rfl) (sp_M_isPart)
theorem r_M_trust_14 : Wp L (d + 3) k_M_trust 14 [l0, l1, l2, l3, l4] [vL s2, vL s1, vL s0] σ Q ↔ Wp L (d + 3) k_M_trust 17 [l0, l1, l2, l3, l4] [vI (gb (s1 ≤ s0 ∧ s0 ≤ s2))] σ Q := wp_callR (d := d + 2) (as := [vL s0, vL s1, vL s2]) (rest := []) rfl rfl rfl rfl rfl rfl rfl rfl (sp_M_isIn)
theorem r_M_trust_25 (h : 0 ≤ s1 ∧ s1 ≤ 40) : Wp L (d + 3) k_M_trust 25 [l0, l1, l2, l3, l4] [vI s1, vR 293] σ Q ↔ Wp L (d + 3) k_M_trust 28 [l0, l1, l2, l3, l4] [vI (gb (σ 294 (120 + 12 * s1.toNat) = 2 ∨ σ 294 (120 + 12 * s1.toNat) = 3))] σ Q := wp_callR (d := d + 2) (as := [vR 293, vI s1]) (rest := []) rfl rfl rfl rfl rfl rfl rfl (grecv_k (by rw [gK_293]) rfl) (sp_M_isTie h)
theorem r_M_trust_40 : Wp L (d + 3) k_M_trust 40 [l0, l1, l2, l3, l4] [vI s2, vR 293, vR c0] σ Q ↔ Wp L (d + 3) k_M_trust 43 [l0, l1, l2, l3, l4] [vI (w32 (120 + w32 (12 * s2))), vR c0] σ Q := wp_callR (d := d + 2) (as := [vR 293, vI s2]) (rest := [vR c0]) rfl rfl rfl rfl rfl rfl rfl (grecv_k (by rw [gK_293]) rfl) (sp_M_partAt)
theorem r_M_trust_74 : Wp L (d + 3) k_M_trust 74 [l0, l1, l2, l3, l4] [vI s1, vI s0] σ Q ↔ Wp L (d + 3) k_M_trust 77 [l0, l1, l2, l3, l4] [vI (min s0 s1)] σ Q := wp_callR (d := d + 2) (as := [vI s0, vI s1]) (rest := []) rfl rfl rfl rfl rfl rfl rfl rfl (sp_M_least)
theorem sp_M_trust_b (hp : w32 (σ 294 1 - 1) = σ 294 1 - 1) (h : ¬ ((0 ≤ a1 ∧ a1 ≤ σ 294 1 - 1) ∧ 0 ≤ a2 ∧ a2 ≤ 999)) : Run L (d + 3) 269 [vR 293, vI a1, vI a2] σ (some (vI (-1000000001))) σ := by
  refine Run_of (C' := k_M_trust) rfl ?_
  show Wp L (d + 3) k_M_trust 0 [vR 293, vI a1, vI a2, vU, vU] [] σ _
  obtain ⟨K293, Q293, K294, N294⟩ := litM
  by_cases e : 0 ≤ a1 ∧ a1 ≤ σ 294 1 - 1
  · simp (disch := first | assumption | exact gb_01 _ | omega) only [r_M_trust_0, r_M_trust_1, r_M_trust_2, r_M_trust_5, r_M_trust_8, r_M_trust_9, r_M_trust_10, r_M_trust_11, r_M_trust_14, r_M_trust_17, r_M_trust_20, r_M_trust_22, Q293, hp, w32_gb, w32i, tn_add, tn_mul, Int.toNat_natCast, Int.toNat_zero, Int.reduceLE, Int.reduceLT, Int.reduceEq, Int.reduceNe, gb_T, gb_F, Int.reduceToNat, eq_self, true_or, or_true, and_true, true_and, and_self, ↓ite_gb0, ↓ite_gbn, ↓if_pos, ↓if_neg, if_true, if_false, not_true_eq_false, not_false_eq_true, gb_ne0, gb_eq0]
  · simp (disch := first | assumption | exact gb_01 _ | omega) only [r_M_trust_0, r_M_trust_1, r_M_trust_2, r_M_trust_5, r_M_trust_8, r_M_trust_9, r_M_trust_10, r_M_trust_11, r_M_trust_14, r_M_trust_17, r_M_trust_20, r_M_trust_22, Q293, hp, w32_gb, w32i, tn_add, tn_mul, Int.toNat_natCast, Int.toNat_zero, Int.reduceLE, Int.reduceLT, Int.reduceEq, Int.reduceNe, gb_T, gb_F, Int.reduceToNat, eq_self, true_or, or_true, and_true, true_and, and_self, ↓ite_gb0, ↓ite_gbn, ↓if_pos, ↓if_neg, if_true, if_false, not_true_eq_false, not_false_eq_true, gb_ne0, gb_eq0]
theorem sp_X_trust {f : Nat → Int} (hw : WB f) (hc : CB 29 f σ) (h7 : σ 28 7 = f 7) (h8 : σ 28 8 = f 8) (hm : WM f) (h : 0 ≤ a1 ∧ a1 ≤ f 1 - 1) (h2 : 0 ≤ a2 ∧ a2 ≤ 999) : Run L (d + 2) 48 [vR 27, vI a1, vI a2] σ (some (vI (if f (120 + 12 * a1.toNat) = 2 ∨ f (120 + 12 * a1.toNat) = 3 then brtru ((f 8 * a2).tdiv 100) (f 7) 600 (f (120 + 12 * a1.toNat + 5)) 0 else -1000000012))) σ := by
  refine Run_of (C' := k_X_trust) rfl ?_
  show Wp L (d + 2) k_X_trust 0 [vR 27, vI a1, vI a2, vU] [] σ _
  obtain ⟨K27, K28, K29, K78, K97, K99, K109, K123, K125, K279, K282⟩ := litX
  have hB := BR29
  obtain ⟨⟨K0, q0, q1, q2, q3, q4, q5, q6, q7⟩, ⟨K1, K2, K3, K4, K5, K6, K7, K8⟩, ⟨N1, N2, N3, N4, N5, N6, N7, N8⟩, QP, KP⟩ := hB
  have w2 := hw.2.1
  have c2 := hc.2.1
  have q := CBp hc (p := a1.toNat) (by omega)
  have w := WBp hw (p := a1.toNat) (by omega)
  have kp := KP a1.toNat (by omega)
  have q3' : gq 33 a1.toNat = 38 + a1.toNat := QP _ (by omega)
  simp only [Nat.reduceAdd] at *

  have hT := sp_S_monthOfDistrust (L := L) (d := d + 1) (σ := σ) (a1 := f (120 + 12 * a1.toNat + 5)) (a2 := a2) (by rw [h7]; exact hm.1) (by rw [h8]; exact hm.2) w.2.2.2.2.2.1 h2
  rw [h7, h8] at hT
  have hk2 : (2 = f (120 + 12 * a1.toNat) ∨ f (120 + 12 * a1.toNat) = 3) ↔ (f (120 + 12 * a1.toNat) = 2 ∨ f (120 + 12 * a1.toNat) = 3) := by omega
  by_cases e : f (120 + 12 * a1.toNat) = 2 ∨ f (120 + 12 * a1.toNat) = 3
  · rw [if_pos e]
    simp (disch := first | assumption | exact gb_01 _ | omega) only [r_X_trust_0, r_X_trust_1, r_X_trust_2, r_X_trust_5, r_X_trust_8, r_X_trust_9, r_X_trust_12, r_X_trust_15, r_X_trust_17, r_X_trust_18, r_X_trust_19, r_X_trust_22, r_X_trust_25, r_X_trust_26, r_X_trust_27, r_X_trust_28, r_X_trust_29, r_X_trust_30, r_X_trust_33, r_X_trust_36, r_X_trust_37, r_X_trust_40, r_X_trust_41, r_X_trust_44, r_X_trust_48, r_X_trust_51, r_X_trust_53, c_X_trust_45 hT, Option.toList, List.singleton_append, List.cons_append, List.nil_append, List.append_nil, gq_27_0, gq_27_1, gq_27_2, gq_27_3, gq_27_4, gq_27_5, gq_27_6, gq_28_0, gq_28_1, gq_28_2, gq_28_3, gq_28_4, gq_28_5, gq_28_6, gq_29_3, q3', q, hk2, e, false_or, w32_gb, w32i, tn_add, tn_mul, Int.toNat_natCast, Int.toNat_zero, Int.reduceLE, Int.reduceLT, Int.reduceEq, Int.reduceNe, gb_T, gb_F, Int.reduceToNat, eq_self, true_or, or_true, and_true, true_and, and_self, ↓ite_gb0, ↓ite_gbn, ↓if_pos, ↓if_neg, if_true, if_false, not_true_eq_false, not_false_eq_true, gb_ne0, gb_eq0]
  · rw [if_neg e]
    simp (disch := first | assumption | exact gb_01 _ | omega) only [r_X_trust_0, r_X_trust_1, r_X_trust_2, r_X_trust_5, r_X_trust_8, r_X_trust_9, r_X_trust_12, r_X_trust_15, r_X_trust_17, r_X_trust_18, r_X_trust_19, r_X_trust_22, r_X_trust_25, r_X_trust_26, r_X_trust_27, r_X_trust_28, r_X_trust_29, r_X_trust_30, r_X_trust_33, r_X_trust_36, r_X_trust_37, r_X_trust_40, r_X_trust_41, r_X_trust_44, r_X_trust_48, r_X_trust_51, r_X_trust_53, c_X_trust_45 hT, Option.toList, List.singleton_append, List.cons_append, List.nil_append, List.append_nil, gq_27_0, gq_27_1, gq_27_2, gq_27_3, gq_27_4, gq_27_5, gq_27_6, gq_28_0, gq_28_1, gq_28_2, gq_28_3, gq_28_4, gq_28_5, gq_28_6, gq_29_3, q3', q, hk2, e, false_or, w32_gb, w32i, tn_add, tn_mul, Int.toNat_natCast, Int.toNat_zero, Int.reduceLE, Int.reduceLT, Int.reduceEq, Int.reduceNe, gb_T, gb_F, Int.reduceToNat, eq_self, true_or, or_true, and_true, true_and, and_self, ↓ite_gb0, ↓ite_gbn, ↓if_pos, ↓if_neg, if_true, if_false, not_true_eq_false, not_false_eq_true, gb_ne0, gb_eq0]
theorem lp_M_trust (h7 : 0 ≤ σ 294 7 ∧ σ 294 7 ≤ 599) (h8 : 0 ≤ σ 294 8 * a2 ∧ σ 294 8 * a2 ≤ 98901) (hm : 0 ≤ (σ 294 8 * a2).tdiv 100 ∧ (σ 294 8 * a2).tdiv 100 ≤ 98901) : ∀ (n : Nat) (s k : Int), k + n = 600 → 0 ≤ k → 0 ≤ s ∧ s ≤ 99 → Wp L (d + 3) k_M_trust 50 [vR 293, vI a1, vI a2, vI s, vI k] [] σ (fun r' σ' => r' = some (vI (brtru ((σ 294 8 * a2).tdiv 100) (σ 294 7) n s k)) ∧ σ' = σ)
  | 0, s, k, hk, h0, hs => by
    obtain ⟨K293, Q293, K294, N294⟩ := litM
    rw [r_M_trust_50]
    simp (disch := first | assumption | exact gb_01 _ | omega) only [r_M_trust_0, r_M_trust_1, r_M_trust_2, r_M_trust_5, r_M_trust_8, r_M_trust_9, r_M_trust_10, r_M_trust_11, r_M_trust_14, r_M_trust_17, r_M_trust_20, r_M_trust_22, r_M_trust_23, r_M_trust_24, r_M_trust_25, r_M_trust_28, r_M_trust_31, r_M_trust_33, r_M_trust_34, r_M_trust_35, r_M_trust_38, r_M_trust_39, r_M_trust_40, r_M_trust_43, r_M_trust_44, r_M_trust_45, r_M_trust_46, r_M_trust_47, r_M_trust_48, r_M_trust_52, r_M_trust_55, r_M_trust_58, r_M_trust_60, r_M_trust_61, r_M_trust_62, r_M_trust_65, r_M_trust_67, r_M_trust_68, r_M_trust_69, r_M_trust_70, r_M_trust_72, r_M_trust_73, r_M_trust_74, r_M_trust_77, r_M_trust_78, r_M_trust_79, r_M_trust_81, r_M_trust_84, r_M_trust_85, r_M_trust_88, r_M_trust_90, r_M_trust_91, r_M_trust_93, r_M_trust_94, r_M_trust_95, r_M_trust_98, r_M_trust_101, r_M_trust_103, Q293, w32_gb, w32i, tn_add, tn_mul, Int.toNat_natCast, Int.toNat_zero, Int.reduceLE, Int.reduceLT, Int.reduceEq, Int.reduceNe, gb_T, gb_F, Int.reduceToNat, eq_self, true_or, or_true, and_true, true_and, and_self, ↓ite_gb0, ↓ite_gbn, ↓if_pos, ↓if_neg, if_true, if_false, not_true_eq_false, not_false_eq_true, gb_ne0, gb_eq0]
    rfl
  | n + 1, s, k, hk, h0, hs => by
    obtain ⟨K293, Q293, K294, N294⟩ := litM
    rw [r_M_trust_50]
    by_cases e : 50 ≤ min 99 (s + (σ 294 8 * a2).tdiv 100)
    · rw [show brtru ((σ 294 8 * a2).tdiv 100) (σ 294 7) (n + 1) s k = σ 294 7 + k from if_pos e]
      simp (disch := first | assumption | exact gb_01 _ | omega) only [r_M_trust_0, r_M_trust_1, r_M_trust_2, r_M_trust_5, r_M_trust_8, r_M_trust_9, r_M_trust_10, r_M_trust_11, r_M_trust_14, r_M_trust_17, r_M_trust_20, r_M_trust_22, r_M_trust_23, r_M_trust_24, r_M_trust_25, r_M_trust_28, r_M_trust_31, r_M_trust_33, r_M_trust_34, r_M_trust_35, r_M_trust_38, r_M_trust_39, r_M_trust_40, r_M_trust_43, r_M_trust_44, r_M_trust_45, r_M_trust_46, r_M_trust_47, r_M_trust_48, r_M_trust_52, r_M_trust_55, r_M_trust_58, r_M_trust_60, r_M_trust_61, r_M_trust_62, r_M_trust_65, r_M_trust_67, r_M_trust_68, r_M_trust_69, r_M_trust_70, r_M_trust_72, r_M_trust_73, r_M_trust_74, r_M_trust_77, r_M_trust_78, r_M_trust_79, r_M_trust_81, r_M_trust_84, r_M_trust_85, r_M_trust_88, r_M_trust_90, r_M_trust_91, r_M_trust_93, r_M_trust_94, r_M_trust_95, r_M_trust_98, r_M_trust_101, r_M_trust_103, Q293, w32_gb, w32i, tn_add, tn_mul, Int.toNat_natCast, Int.toNat_zero, Int.reduceLE, Int.reduceLT, Int.reduceEq, Int.reduceNe, gb_T, gb_F, Int.reduceToNat, eq_self, true_or, or_true, and_true, true_and, and_self, ↓ite_gb0, ↓ite_gbn, ↓if_pos, ↓if_neg, if_true, if_false, not_true_eq_false, not_false_eq_true, gb_ne0, gb_eq0]
    · rw [show brtru ((σ 294 8 * a2).tdiv 100) (σ 294 7) (n + 1) s k = brtru ((σ 294 8 * a2).tdiv 100) (σ 294 7) n (min 99 (s + (σ 294 8 * a2).tdiv 100)) (k + 1) from if_neg e]
      simp (disch := first | assumption | exact gb_01 _ | omega) only [r_M_trust_0, r_M_trust_1, r_M_trust_2, r_M_trust_5, r_M_trust_8, r_M_trust_9, r_M_trust_10, r_M_trust_11, r_M_trust_14, r_M_trust_17, r_M_trust_20, r_M_trust_22, r_M_trust_23, r_M_trust_24, r_M_trust_25, r_M_trust_28, r_M_trust_31, r_M_trust_33, r_M_trust_34, r_M_trust_35, r_M_trust_38, r_M_trust_39, r_M_trust_40, r_M_trust_43, r_M_trust_44, r_M_trust_45, r_M_trust_46, r_M_trust_47, r_M_trust_48, r_M_trust_52, r_M_trust_55, r_M_trust_58, r_M_trust_60, r_M_trust_61, r_M_trust_62, r_M_trust_65, r_M_trust_67, r_M_trust_68, r_M_trust_69, r_M_trust_70, r_M_trust_72, r_M_trust_73, r_M_trust_74, r_M_trust_77, r_M_trust_78, r_M_trust_79, r_M_trust_81, r_M_trust_84, r_M_trust_85, r_M_trust_88, r_M_trust_90, r_M_trust_91, r_M_trust_93, r_M_trust_94, r_M_trust_95, r_M_trust_98, r_M_trust_101, r_M_trust_103, Q293, w32_gb, w32i, tn_add, tn_mul, Int.toNat_natCast, Int.toNat_zero, Int.reduceLE, Int.reduceLT, Int.reduceEq, Int.reduceNe, gb_T, gb_F, Int.reduceToNat, eq_self, true_or, or_true, and_true, true_and, and_self, ↓ite_gb0, ↓ite_gbn, ↓if_pos, ↓if_neg, if_true, if_false, not_true_eq_false, not_false_eq_true, gb_ne0, gb_eq0]
      exact lp_M_trust h7 h8 hm n _ _ (by omega) (by omega) (by omega)
theorem sp_M_trust (hw : WB (σ 294)) (hm : WM (σ 294)) (h : 0 ≤ a1 ∧ a1 ≤ σ 294 1 - 1) (h2 : 0 ≤ a2 ∧ a2 ≤ 999) : Run L (d + 3) 269 [vR 293, vI a1, vI a2] σ (some (vI (if σ 294 (120 + 12 * a1.toNat) = 2 ∨ σ 294 (120 + 12 * a1.toNat) = 3 then brtru ((σ 294 8 * a2).tdiv 100) (σ 294 7) 600 (σ 294 (120 + 12 * a1.toNat + 5)) 0 else -1000000012))) σ := by
  refine Run_of (C' := k_M_trust) rfl ?_
  show Wp L (d + 3) k_M_trust 0 [vR 293, vI a1, vI a2, vU, vU] [] σ _
  obtain ⟨K293, Q293, K294, N294⟩ := litM
  have w1 := hw.1
  have w2 := hw.2.1

  have w := WBp hw (p := a1.toNat) (by omega)
  have m := mul_bd hm.2 h2
  have t := tdiv_bd (a := σ 294 8 * a2) (b := 100) m.1 (by omega)
  by_cases e : σ 294 (120 + 12 * a1.toNat) = 2 ∨ σ 294 (120 + 12 * a1.toNat) = 3
  · rw [if_pos e]
    simp (disch := first | assumption | exact gb_01 _ | omega) only [r_M_trust_0, r_M_trust_1, r_M_trust_2, r_M_trust_5, r_M_trust_8, r_M_trust_9, r_M_trust_10, r_M_trust_11, r_M_trust_14, r_M_trust_17, r_M_trust_20, r_M_trust_22, r_M_trust_23, r_M_trust_24, r_M_trust_25, r_M_trust_28, r_M_trust_31, r_M_trust_33, r_M_trust_34, r_M_trust_35, r_M_trust_38, r_M_trust_39, r_M_trust_40, r_M_trust_43, r_M_trust_44, r_M_trust_45, r_M_trust_46, r_M_trust_47, r_M_trust_48, r_M_trust_52, r_M_trust_55, r_M_trust_58, r_M_trust_60, r_M_trust_61, r_M_trust_62, r_M_trust_65, r_M_trust_67, r_M_trust_68, r_M_trust_69, r_M_trust_70, r_M_trust_72, r_M_trust_73, r_M_trust_74, r_M_trust_77, r_M_trust_78, r_M_trust_79, r_M_trust_81, r_M_trust_84, r_M_trust_85, r_M_trust_88, r_M_trust_90, r_M_trust_91, r_M_trust_93, r_M_trust_94, r_M_trust_95, r_M_trust_98, r_M_trust_101, r_M_trust_103, Q293, w32_gb, w32i, tn_add, tn_mul, Int.toNat_natCast, Int.toNat_zero, Int.reduceLE, Int.reduceLT, Int.reduceEq, Int.reduceNe, gb_T, gb_F, Int.reduceToNat, eq_self, true_or, or_true, and_true, true_and, and_self, ↓ite_gb0, ↓ite_gbn, ↓if_pos, ↓if_neg, if_true, if_false, not_true_eq_false, not_false_eq_true, gb_ne0, gb_eq0]
    exact lp_M_trust hm.1 (by omega) (by omega) 600 _ 0 (by omega) (by omega) w.2.2.2.2.2.1
  · rw [if_neg e]
    simp (disch := first | assumption | exact gb_01 _ | omega) only [r_M_trust_0, r_M_trust_1, r_M_trust_2, r_M_trust_5, r_M_trust_8, r_M_trust_9, r_M_trust_10, r_M_trust_11, r_M_trust_14, r_M_trust_17, r_M_trust_20, r_M_trust_22, r_M_trust_23, r_M_trust_24, r_M_trust_25, r_M_trust_28, r_M_trust_31, r_M_trust_33, r_M_trust_34, r_M_trust_35, r_M_trust_38, r_M_trust_39, r_M_trust_40, r_M_trust_43, r_M_trust_44, r_M_trust_45, r_M_trust_46, r_M_trust_47, r_M_trust_48, r_M_trust_52, r_M_trust_55, r_M_trust_58, r_M_trust_60, r_M_trust_61, r_M_trust_62, r_M_trust_65, r_M_trust_67, r_M_trust_68, r_M_trust_69, r_M_trust_70, r_M_trust_72, r_M_trust_73, r_M_trust_74, r_M_trust_77, r_M_trust_78, r_M_trust_79, r_M_trust_81, r_M_trust_84, r_M_trust_85, r_M_trust_88, r_M_trust_90, r_M_trust_91, r_M_trust_93, r_M_trust_94, r_M_trust_95, r_M_trust_98, r_M_trust_101, r_M_trust_103, Q293, w32_gb, w32i, tn_add, tn_mul, Int.toNat_natCast, Int.toNat_zero, Int.reduceLE, Int.reduceLT, Int.reduceEq, Int.reduceNe, gb_T, gb_F, Int.reduceToNat, eq_self, true_or, or_true, and_true, true_and, and_self, ↓ite_gb0, ↓ite_gbn, ↓if_pos, ↓if_neg, if_true, if_false, not_true_eq_false, not_false_eq_true, gb_ne0, gb_eq0]
theorem op_trust (a1 a2 : Int) : Op 48 269 [vI a1, vI a2] := by
  intro L d σ hI
  obtain ⟨hw, hc⟩ := iB hI
  have w1 := hw.1
  have w2 := hw.2.1
  have c1 := hc.1
  have c2 := hc.2.1
  have hp : w32 (σ 29 9 - 1) = σ 29 9 - 1 := w32i (by omega)
  have hm : w32 (σ 294 1 - 1) = σ 294 1 - 1 := w32i (by omega)
  
  obtain ⟨hM, hcm⟩ := iM hI
  by_cases h : (0 ≤ a1 ∧ a1 ≤ σ 29 9 - 1) ∧ 0 ≤ a2 ∧ a2 ≤ 999
  · exact ⟨_, _, _, sp_X_trust hw hc hcm.1 hcm.2 hM (by omega) h.2, sp_M_trust hw hM (by omega) h.2, hI⟩
  · exact ⟨_, _, _, sp_X_trust_b hp h, sp_M_trust_b hm (by omega), hI⟩
