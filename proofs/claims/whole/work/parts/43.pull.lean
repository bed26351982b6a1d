/-! pull, load, bears. -/
variable {L d : Nat} {σ σ1 : Nat → Nat → Int} {Q : Option gV → (Nat → Nat → Int) → Prop} {a0 a1 a2 a3 a4 a5 a6 a7 a8 a9 a10 a11 s0 s1 s2 s3 s4 s5 s6 s7 s8 s9 : Int} {l0 l1 l2 l3 l4 l5 l6 l7 l8 l9 l10 l11 t0 t1 t2 t3 t4 t5 t6 t7 t8 t9 : gV} {b0 b1 b2 b3 b4 b5 b6 b7 b8 b9 b10 b11 c0 c1 c2 c3 c4 c5 c6 c7 c8 c9 : Nat} {r : Option gV}
/-- pull at span k (an integer), at gust w -/
def brpl (f : Nat → Int) (w k : Int) : Int := if (0 ≤ k ∧ k ≤ f 0 - 1) ∧ ¬ f (20 + 3 * k.toNat + 2) = 1 then w * f (20 + 3 * k.toNat + 1) - 10 * f (20 + 3 * k.toNat) + (if f 11 = k then w * f 10 - 10 * f 9 else 0) else 0
def brtS (f : Nat → Int) (k : Int) : Int := if (0 ≤ k ∧ k ≤ f 0 - 1) ∧ ¬ f (20 + 3 * k.toNat + 2) = 1 then f (20 + 3 * k.toNat + 1) + (if f 11 = k then f 10 else 0) else 0
def brtW (f : Nat → Int) (k : Int) : Int := if (0 ≤ k ∧ k ≤ f 0 - 1) ∧ ¬ f (20 + 3 * k.toNat + 2) = 1 then f (20 + 3 * k.toNat) + (if f 11 = k then f 9 else 0) else 0
theorem brpl_eq (f : Nat → Int) (w k : Int) : brpl f w k = w * brtS f k - 10 * brtW f k := by
  unfold brpl brtS brtW
  split
  · split
    · rw [Int.mul_add]
      omega
    · simp only [Int.add_zero]
  · rw [Int.mul_zero]
    rfl
theorem brt_sum {f : Nat → Int} (hw : WB f) (p : Nat) (hp : (p : Int) ≤ f 0) (v : Nat → Int) (a : Int) : gsm (fun i => brad p i (if f (20 + 3 * i + 2) = 0 then v i else 0)) (f 0).toNat + brtr f p a = (if (0 ≤ (p : Int) - 1 ∧ (p : Int) - 1 ≤ f 0 - 1) ∧ ¬ f (20 + 3 * ((p : Int) - 1).toNat + 2) = 1 then v ((p : Int) - 1).toNat + (if f 11 = (p : Int) - 1 then a else 0) else 0) + (if (0 ≤ (p : Int) ∧ (p : Int) ≤ f 0 - 1) ∧ ¬ f (20 + 3 * ((p : Int)).toNat + 2) = 1 then v ((p : Int)).toNat + (if f 11 = (p : Int) then a else 0) else 0) := by
  have w1 := hw.1
  have w7 := hw.2.2.2.2.2.2.1
  have e1 : ((p : Int) - 1).toNat = p - 1 := by omega
  rw [brad_sum (fun i => if f (20 + 3 * i + 2) = 0 then v i else 0), e1, Int.toNat_natCast]
  have x := hw.2.2.1 p
  have y := hw.2.2.1 (p - 1)
  unfold brtr brad
  by_cases t1 : f 11 = p
  · have t2 : (f 11).toNat = p := by omega
    rw [t2, if_neg (c := f 11 = (p : Int) - 1) (by omega), if_pos (c := f 11 = (p : Int)) t1, if_pos (c := p = p ∨ p = p + 1) (Or.inl rfl)]
    repeat' split
    all_goals omega
  · by_cases t3 : f 11 = (p : Int) - 1
    · by_cases p0 : p = 0
      · subst p0
        rw [if_neg (c := f 11 = ((0 : Nat) : Int)) t1, if_neg (c := 1 ≤ 0 ∧ 0 ≤ (f 0).toNat) (by omega), if_neg (c := (0 ≤ f 11 ∧ f 11 < f 0) ∧ f (20 + 3 * (f 11).toNat + 2) = 0) (by omega), if_neg (c := (0 ≤ ((0 : Nat) : Int) - 1 ∧ ((0 : Nat) : Int) - 1 ≤ f 0 - 1) ∧ ¬f (20 + 3 * (0 - 1) + 2) = 1) (by omega)]
        repeat' split
        all_goals omega
      · have t2 : (f 11).toNat = p - 1 := by omega
        rw [t2, if_pos (c := f 11 = (p : Int) - 1) t3, if_neg (c := f 11 = (p : Int)) t1, if_pos (c := p = p - 1 ∨ p = p - 1 + 1) (by omega)]
        repeat' split
        all_goals omega
    · rw [if_neg (c := f 11 = (p : Int) - 1) t3, if_neg (c := f 11 = (p : Int)) t1]
      by_cases t4 : 0 ≤ f 11
      · rw [if_neg (c := p = (f 11).toNat ∨ p = (f 11).toNat + 1) (by omega)]
        repeat' split
        all_goals omega
      · rw [if_neg (c := (0 ≤ f 11 ∧ f 11 < f 0) ∧ f (20 + 3 * (f 11).toNat + 2) = 0) (by omega)]
        repeat' split
        all_goals omega
theorem brpull_eq {f : Nat → Int} (hw : WB f) (w : Int) (p : Nat) (hp : (p : Int) ≤ f 0) : brpull f w p = (if brpl f w ((p : Int) - 1) + brpl f w p < 0 then 0 else brpl f w ((p : Int) - 1) + brpl f w p) := by
  have a : brS f p = brtS f ((p : Int) - 1) + brtS f p := brt_sum hw p hp (fun i => f (20 + 3 * i + 1)) (f 10)
  have b : brW f p = brtW f ((p : Int) - 1) + brtW f p := brt_sum hw p hp (fun i => f (20 + 3 * i)) (f 9)
  rw [brpl_eq, brpl_eq]
  unfold brpull
  rw [a, b, Int.mul_add]
  generalize w * brtS f ((p : Int) - 1) = x
  generalize w * brtS f (p : Int) = y
  split <;> omega
theorem brpl_bd {f : Nat → Int} (hw : WB f) {w : Int} (h : 0 ≤ w ∧ w ≤ 99) (k : Int) : -1980 ≤ brpl f w k ∧ brpl f w k ≤ 19602 := by
  have w5 := hw.2.2.2.2.1
  have w6 := hw.2.2.2.2.2.1
  unfold brpl
  split
  · next e =>
    have x := hw.2.2.1 k.toNat (by omega)
    have m1 := mul_bd h x.2.1
    have m2 := mul_bd h w6
    split <;> omega
  · omega
/-- part p: what it bears; force and bound -/
def brb (f : Nat → Int) (p : Nat) : Int := brbe (f (120 + 12 * p)) (f (120 + 12 * p + 2)) (f (120 + 12 * p + 4)) (f (120 + 12 * p + 5))
theorem brb_bd {f : Nat → Int} (hw : WB f) (p : Nat) (hp : (p : Int) < f 1) : 1 ≤ brb f p ∧ brb f p ≤ 9990000 := by
  have w := WBp hw hp
  exact brbe_bd w.2.2.1 w.2.2.2.2.1 w.2.2.2.2.2.1
theorem sp_M_isDown0 (h : 0 ≤ a1 ∧ a1 ≤ 12) : Run L (d + 1) 201 [vR 293, vI a1] σ (some (vI (gb (σ 294 (20 + 3 * a1.toNat + 2) = 1)))) σ := by
  refine Run_of (C' := k_M_isDown) rfl ?_
  show Wp L (d + 1) k_M_isDown 0 [vR 293, vI a1] [] σ _
  obtain ⟨K293, Q293, K294, N294⟩ := litM
  by_cases e : σ 294 (20 + 3 * a1.toNat + 2) = 1
  · rw [gb_t e]
    simp (disch := first | assumption | exact gb_01 _ | omega) only [r_M_isDown_0, r_M_isDown_1, r_M_isDown_4, r_M_isDown_5, r_M_isDown_6, r_M_isDown_9, r_M_isDown_10, r_M_isDown_11, r_M_isDown_12, r_M_isDown_13, r_M_isDown_16, r_M_isDown_17, r_M_isDown_20, r_M_isDown_21, Q293, w32_gb, w32i, tn_add, tn_mul, Int.toNat_natCast, Int.toNat_zero, Int.reduceLE, Int.reduceLT, Int.reduceEq, Int.reduceNe, gb_T, gb_F, Int.reduceToNat, eq_self, true_or, or_true, and_true, true_and, and_self, ↓ite_gb0, ↓ite_gbn, ↓if_pos, ↓if_neg, if_true, if_false, not_true_eq_false, not_false_eq_true, gb_ne0, gb_eq0]
  · rw [gb_f e]
    simp (disch := first | assumption | exact gb_01 _ | omega) only [r_M_isDown_0, r_M_isDown_1, r_M_isDown_4, r_M_isDown_5, r_M_isDown_6, r_M_isDown_9, r_M_isDown_10, r_M_isDown_11, r_M_isDown_12, r_M_isDown_13, r_M_isDown_16, r_M_isDown_17, r_M_isDown_20, r_M_isDown_21, Q293, w32_gb, w32i, tn_add, tn_mul, Int.toNat_natCast, Int.toNat_zero, Int.reduceLE, Int.reduceLT, Int.reduceEq, Int.reduceNe, gb_T, gb_F, Int.reduceToNat, eq_self, true_or, or_true, and_true, true_and, and_self, ↓ite_gb0, ↓ite_gbn, ↓if_pos, ↓if_neg, if_true, if_false, not_true_eq_false, not_false_eq_true, gb_ne0, gb_eq0]
theorem gsm_bd2 {g : Nat → Int} {A B : Int} : ∀ n : Nat, (∀ k, k < n → A ≤ g k ∧ g k ≤ B) → A * n ≤ gsm g n ∧ gsm g n ≤ B * n
  | 0, _ => by simp [gsm]
  | n + 1, h => by
    have a := gsm_bd2 n (fun k hk => h k (by omega))
    have b := h n (by omega)
    have e : B * ((n + 1 : Nat) : Int) = B * n + B := by rw [Int.natCast_add, Int.mul_add]; simp
    have e2 : A * ((n + 1 : Nat) : Int) = A * n + A := by rw [Int.natCast_add, Int.mul_add]; simp
    simp only [gsm]
    rw [e, e2]
    omega
theorem r_M_pullOf_0 : Wp L d k_M_pullOf 0 [l0, l1, l2, l3, l4] [] σ Q ↔ Wp L d k_M_pullOf 1 [l0, l1, l2, l3, l4] [vI 0] σ Q := wp_push rfl
theorem r_M_pullOf_1 : Wp L d k_M_pullOf 1 [l0, l1, vI a2, l3, l4] [vI s0] σ Q ↔ Wp L d k_M_pullOf 2 [l0, l1, vI a2, vI s0, l4] [] σ Q := wp_istore (i := 3) (ls := [l0, l1, vI a2, l3, l4]) rfl rfl
theorem r_M_pullOf_2 : Wp L d k_M_pullOf 2 [l0, vI a1, l2, l3, l4] [] σ Q ↔ Wp L d k_M_pullOf 3 [l0, vI a1, l2, l3, l4] [vI a1] σ Q := wp_iload rfl rfl
theorem r_M_pullOf_3 : Wp L d k_M_pullOf 3 [l0, l1, l2, l3, l4] [vI s0] σ Q ↔ Wp L d k_M_pullOf 4 [l0, l1, l2, l3, l4] [vI 1, vI s0] σ Q := wp_push rfl
theorem r_M_pullOf_4 : Wp L d k_M_pullOf 4 [l0, l1, l2, l3, l4] [vI s1, vI s0] σ Q ↔ Wp L d k_M_pullOf 5 [l0, l1, l2, l3, l4] [vI (w32 (s0 - s1))] σ Q := wp_isub rfl
theorem r_M_pullOf_5 : Wp L d k_M_pullOf 5 [l0, l1, l2, vI a3, l4] [vI s0] σ Q ↔ Wp L d k_M_pullOf 7 [l0, l1, l2, vI a3, vI s0] [] σ Q := wp_istore (i := 4) (ls := [l0, l1, l2, vI a3, l4]) rfl rfl
theorem r_M_pullOf_7 : Wp L d k_M_pullOf 7 [l0, l1, l2, l3, vI a4] [] σ Q ↔ Wp L d k_M_pullOf 9 [l0, l1, l2, l3, vI a4] [vI a4] σ Q := wp_iload rfl rfl
theorem r_M_pullOf_9 : Wp L d k_M_pullOf 9 [l0, vI a1, l2, l3, l4] [vI s0] σ Q ↔ Wp L d k_M_pullOf 10 [l0, vI a1, l2, l3, l4] [vI a1, vI s0] σ Q := wp_iload rfl rfl
theorem r_M_pullOf_10 : Wp L d k_M_pullOf 10 [l0, l1, l2, l3, l4] [vI s1, vI s0] σ Q ↔ (if s1 < s0 then Wp L d k_M_pullOf 109 [l0, l1, l2, l3, l4] [] σ Q else Wp L d k_M_pullOf 13 [l0, l1, l2, l3, l4] [] σ Q) := wp_cmp_gt rfl
theorem r_M_pullOf_13 : Wp L d k_M_pullOf 13 [vR b0, l1, l2, l3, l4] [] σ Q ↔ Wp L d k_M_pullOf 14 [vR b0, l1, l2, l3, l4] [vR b0] σ Q := wp_aload rfl rfl
theorem r_M_pullOf_14 : Wp L d k_M_pullOf 14 [l0, l1, l2, l3, vI a4] [vR c0] σ Q ↔ Wp L d k_M_pullOf 16 [l0, l1, l2, l3, vI a4] [vI a4, vR c0] σ Q := wp_iload rfl rfl
theorem r_M_pullOf_19 : Wp L d k_M_pullOf 19 [l0, l1, l2, l3, l4] [vI s0] σ Q ↔ (if s0 = 0 then Wp L d k_M_pullOf 103 [l0, l1, l2, l3, l4] [] σ Q else Wp L d k_M_pullOf 22 [l0, l1, l2, l3, l4] [] σ Q) := wp_if_eq rfl
theorem r_M_pullOf_22 : Wp L d k_M_pullOf 22 [vR b0, l1, l2, l3, l4] [] σ Q ↔ Wp L d k_M_pullOf 23 [vR b0, l1, l2, l3, l4] [vR b0] σ Q := wp_aload rfl rfl
theorem r_M_pullOf_23 : Wp L d k_M_pullOf 23 [l0, l1, l2, l3, vI a4] [vR c0] σ Q ↔ Wp L d k_M_pullOf 25 [l0, l1, l2, l3, vI a4] [vI a4, vR c0] σ Q := wp_iload rfl rfl
theorem r_M_pullOf_28 : Wp L d k_M_pullOf 28 [l0, l1, l2, l3, l4] [vI s0] σ Q ↔ (if s0 ≠ 0 then Wp L d k_M_pullOf 103 [l0, l1, l2, l3, l4] [] σ Q else Wp L d k_M_pullOf 31 [l0, l1, l2, l3, l4] [] σ Q) := wp_if_ne rfl
theorem r_M_pullOf_31 : Wp L d k_M_pullOf 31 [l0, l1, l2, vI a3, l4] [] σ Q ↔ Wp L d k_M_pullOf 32 [l0, l1, l2, vI a3, l4] [vI a3] σ Q := wp_iload rfl rfl
theorem r_M_pullOf_32 : Wp L d k_M_pullOf 32 [l0, l1, vI a2, l3, l4] [vI s0] σ Q ↔ Wp L d k_M_pullOf 33 [l0, l1, vI a2, l3, l4] [vI a2, vI s0] σ Q := wp_iload rfl rfl
theorem r_M_pullOf_33 : Wp L d k_M_pullOf 33 [vR b0, l1, l2, l3, l4] [vI s1, vI s0] σ Q ↔ Wp L d k_M_pullOf 34 [vR b0, l1, l2, l3, l4] [vR b0, vI s1, vI s0] σ Q := wp_aload rfl rfl
theorem r_M_pullOf_34 (h : gK c2 = 12) : Wp L d k_M_pullOf 34 [l0, l1, l2, l3, l4] [vR c2, vI s1, vI s0] σ Q ↔ Wp L d k_M_pullOf 37 [l0, l1, l2, l3, l4] [vR (gq c2 0), vI s1, vI s0] σ Q := wp_getR (c := 3200) rfl rfl rfl rfl rfl h
theorem r_M_pullOf_37 : Wp L d k_M_pullOf 37 [vR b0, l1, l2, l3, l4] [vR c2, vI s1, vI s0] σ Q ↔ Wp L d k_M_pullOf 38 [vR b0, l1, l2, l3, l4] [vR b0, vR c2, vI s1, vI s0] σ Q := wp_aload rfl rfl
theorem r_M_pullOf_38 : Wp L d k_M_pullOf 38 [l0, l1, l2, l3, vI a4] [vR c3, vR c2, vI s1, vI s0] σ Q ↔ Wp L d k_M_pullOf 40 [l0, l1, l2, l3, vI a4] [vI a4, vR c3, vR c2, vI s1, vI s0] σ Q := wp_iload rfl rfl
theorem r_M_pullOf_43 : Wp L d k_M_pullOf 43 [l0, l1, l2, l3, l4] [vI s3, vR c2, vI s1, vI s0] σ Q ↔ Wp L d k_M_pullOf 44 [l0, l1, l2, l3, l4] [vI 1, vI s3, vR c2, vI s1, vI s0] σ Q := wp_push rfl
theorem r_M_pullOf_44 : Wp L d k_M_pullOf 44 [l0, l1, l2, l3, l4] [vI s4, vI s3, vR c2, vI s1, vI s0] σ Q ↔ Wp L d k_M_pullOf 45 [l0, l1, l2, l3, l4] [vI (w32 (s3 + s4)), vR c2, vI s1, vI s0] σ Q := wp_iadd rfl
theorem r_M_pullOf_45 (h : gK c2 = 100) (hx : 0 ≤ s3 ∧ s3 < gN c2) : Wp L d k_M_pullOf 45 [l0, l1, l2, l3, l4] [vI s3, vR c2, vI s1, vI s0] σ Q ↔ Wp L d k_M_pullOf 46 [l0, l1, l2, l3, l4] [vI (σ c2 s3.toNat), vI s1, vI s0] σ Q := wp_iald rfl h hx
theorem r_M_pullOf_46 : Wp L d k_M_pullOf 46 [l0, l1, l2, l3, l4] [vI s2, vI s1, vI s0] σ Q ↔ Wp L d k_M_pullOf 47 [l0, l1, l2, l3, l4] [vI (w32 (s1 * s2)), vI s0] σ Q := wp_imul rfl
theorem r_M_pullOf_47 : Wp L d k_M_pullOf 47 [l0, l1, l2, l3, l4] [vI s1, vI s0] σ Q ↔ Wp L d k_M_pullOf 49 [l0, l1, l2, l3, l4] [vI 10, vI s1, vI s0] σ Q := wp_push rfl
theorem r_M_pullOf_49 : Wp L d k_M_pullOf 49 [vR b0, l1, l2, l3, l4] [vI s2, vI s1, vI s0] σ Q ↔ Wp L d k_M_pullOf 50 [vR b0, l1, l2, l3, l4] [vR b0, vI s2, vI s1, vI s0] σ Q := wp_aload rfl rfl
theorem r_M_pullOf_50 (h : gK c3 = 12) : Wp L d k_M_pullOf 50 [l0, l1, l2, l3, l4] [vR c3, vI s2, vI s1, vI s0] σ Q ↔ Wp L d k_M_pullOf 53 [l0, l1, l2, l3, l4] [vR (gq c3 0), vI s2, vI s1, vI s0] σ Q := wp_getR (c := 3200) rfl rfl rfl rfl rfl h
theorem r_M_pullOf_53 : Wp L d k_M_pullOf 53 [vR b0, l1, l2, l3, l4] [vR c3, vI s2, vI s1, vI s0] σ Q ↔ Wp L d k_M_pullOf 54 [vR b0, l1, l2, l3, l4] [vR b0, vR c3, vI s2, vI s1, vI s0] σ Q := wp_aload rfl rfl
theorem r_M_pullOf_54 : Wp L d k_M_pullOf 54 [l0, l1, l2, l3, vI a4] [vR c4, vR c3, vI s2, vI s1, vI s0] σ Q ↔ Wp L d k_M_pullOf 56 [l0, l1, l2, l3, vI a4] [vI a4, vR c4, vR c3, vI s2, vI s1, vI s0] σ Q := wp_iload rfl rfl
theorem r_M_pullOf_59 (h : gK c3 = 100) (hx : 0 ≤ s4 ∧ s4 < gN c3) : Wp L d k_M_pullOf 59 [l0, l1, l2, l3, l4] [vI s4, vR c3, vI s2, vI s1, vI s0] σ Q ↔ Wp L d k_M_pullOf 60 [l0, l1, l2, l3, l4] [vI (σ c3 s4.toNat), vI s2, vI s1, vI s0] σ Q := wp_iald rfl h hx
theorem r_M_pullOf_60 : Wp L d k_M_pullOf 60 [l0, l1, l2, l3, l4] [vI s3, vI s2, vI s1, vI s0] σ Q ↔ Wp L d k_M_pullOf 61 [l0, l1, l2, l3, l4] [vI (w32 (s2 * s3)), vI s1, vI s0] σ Q := wp_imul rfl
theorem r_M_pullOf_61 : Wp L d k_M_pullOf 61 [l0, l1, l2, l3, l4] [vI s2, vI s1, vI s0] σ Q ↔ Wp L d k_M_pullOf 62 [l0, l1, l2, l3, l4] [vI (w32 (s1 - s2)), vI s0] σ Q := wp_isub rfl
theorem r_M_pullOf_62 : Wp L d k_M_pullOf 62 [l0, l1, l2, l3, l4] [vI s1, vI s0] σ Q ↔ Wp L d k_M_pullOf 63 [l0, l1, l2, l3, l4] [vI (w32 (s0 + s1))] σ Q := wp_iadd rfl
theorem r_M_pullOf_63 : Wp L d k_M_pullOf 63 [l0, l1, vI a2, l3, l4] [vI s0] σ Q ↔ Wp L d k_M_pullOf 64 [l0, l1, vI a2, vI s0, l4] [] σ Q := wp_istore (i := 3) (ls := [l0, l1, vI a2, l3, l4]) rfl rfl
theorem r_M_pullOf_64 : Wp L d k_M_pullOf 64 [l0, l1, l2, vI a3, l4] [] σ Q ↔ Wp L d k_M_pullOf 65 [l0, l1, l2, vI a3, l4] [vI a3] σ Q := wp_iload rfl rfl
theorem r_M_pullOf_65 : Wp L d k_M_pullOf 65 [vR b0, l1, l2, l3, l4] [vI s0] σ Q ↔ Wp L d k_M_pullOf 66 [vR b0, l1, l2, l3, l4] [vR b0, vI s0] σ Q := wp_aload rfl rfl
theorem r_M_pullOf_66 (h : gK c1 = 12) : Wp L d k_M_pullOf 66 [l0, l1, l2, l3, l4] [vR c1, vI s0] σ Q ↔ Wp L d k_M_pullOf 69 [l0, l1, l2, l3, l4] [vR (gq c1 0), vI s0] σ Q := wp_getR (c := 3200) rfl rfl rfl rfl rfl h
theorem r_M_pullOf_69 : Wp L d k_M_pullOf 69 [l0, l1, l2, l3, l4] [vR c1, vI s0] σ Q ↔ Wp L d k_M_pullOf 71 [l0, l1, l2, l3, l4] [vI 11, vR c1, vI s0] σ Q := wp_push rfl
theorem r_M_pullOf_71 (h : gK c1 = 100) (hx : 0 ≤ s2 ∧ s2 < gN c1) : Wp L d k_M_pullOf 71 [l0, l1, l2, l3, l4] [vI s2, vR c1, vI s0] σ Q ↔ Wp L d k_M_pullOf 72 [l0, l1, l2, l3, l4] [vI (σ c1 s2.toNat), vI s0] σ Q := wp_iald rfl h hx
theorem r_M_pullOf_72 : Wp L d k_M_pullOf 72 [l0, l1, l2, l3, vI a4] [vI s1, vI s0] σ Q ↔ Wp L d k_M_pullOf 74 [l0, l1, l2, l3, vI a4] [vI a4, vI s1, vI s0] σ Q := wp_iload rfl rfl
theorem r_M_pullOf_74 : Wp L d k_M_pullOf 74 [l0, l1, l2, l3, l4] [vI s2, vI s1, vI s0] σ Q ↔ (if s1 ≠ s2 then Wp L d k_M_pullOf 100 [l0, l1, l2, l3, l4] [vI s0] σ Q else Wp L d k_M_pullOf 77 [l0, l1, l2, l3, l4] [vI s0] σ Q) := wp_cmp_ne rfl
theorem r_M_pullOf_77 : Wp L d k_M_pullOf 77 [l0, l1, vI a2, l3, l4] [vI s0] σ Q ↔ Wp L d k_M_pullOf 78 [l0, l1, vI a2, l3, l4] [vI a2, vI s0] σ Q := wp_iload rfl rfl
theorem r_M_pullOf_78 : Wp L d k_M_pullOf 78 [vR b0, l1, l2, l3, l4] [vI s1, vI s0] σ Q ↔ Wp L d k_M_pullOf 79 [vR b0, l1, l2, l3, l4] [vR b0, vI s1, vI s0] σ Q := wp_aload rfl rfl
theorem r_M_pullOf_79 (h : gK c2 = 12) : Wp L d k_M_pullOf 79 [l0, l1, l2, l3, l4] [vR c2, vI s1, vI s0] σ Q ↔ Wp L d k_M_pullOf 82 [l0, l1, l2, l3, l4] [vR (gq c2 0), vI s1, vI s0] σ Q := wp_getR (c := 3200) rfl rfl rfl rfl rfl h
theorem r_M_pullOf_82 : Wp L d k_M_pullOf 82 [l0, l1, l2, l3, l4] [vR c2, vI s1, vI s0] σ Q ↔ Wp L d k_M_pullOf 84 [l0, l1, l2, l3, l4] [vI 10, vR c2, vI s1, vI s0] σ Q := wp_push rfl
theorem r_M_pullOf_84 (h : gK c2 = 100) (hx : 0 ≤ s3 ∧ s3 < gN c2) : Wp L d k_M_pullOf 84 [l0, l1, l2, l3, l4] [vI s3, vR c2, vI s1, vI s0] σ Q ↔ Wp L d k_M_pullOf 85 [l0, l1, l2, l3, l4] [vI (σ c2 s3.toNat), vI s1, vI s0] σ Q := wp_iald rfl h hx
theorem r_M_pullOf_85 : Wp L d k_M_pullOf 85 [l0, l1, l2, l3, l4] [vI s2, vI s1, vI s0] σ Q ↔ Wp L d k_M_pullOf 86 [l0, l1, l2, l3, l4] [vI (w32 (s1 * s2)), vI s0] σ Q := wp_imul rfl
theorem r_M_pullOf_86 : Wp L d k_M_pullOf 86 [l0, l1, l2, l3, l4] [vI s1, vI s0] σ Q ↔ Wp L d k_M_pullOf 88 [l0, l1, l2, l3, l4] [vI 10, vI s1, vI s0] σ Q := wp_push rfl
theorem r_M_pullOf_88 : Wp L d k_M_pullOf 88 [vR b0, l1, l2, l3, l4] [vI s2, vI s1, vI s0] σ Q ↔ Wp L d k_M_pullOf 89 [vR b0, l1, l2, l3, l4] [vR b0, vI s2, vI s1, vI s0] σ Q := wp_aload rfl rfl
theorem r_M_pullOf_89 (h : gK c3 = 12) : Wp L d k_M_pullOf 89 [l0, l1, l2, l3, l4] [vR c3, vI s2, vI s1, vI s0] σ Q ↔ Wp L d k_M_pullOf 92 [l0, l1, l2, l3, l4] [vR (gq c3 0), vI s2, vI s1, vI s0] σ Q := wp_getR (c := 3200) rfl rfl rfl rfl rfl h
theorem r_M_pullOf_92 : Wp L d k_M_pullOf 92 [l0, l1, l2, l3, l4] [vR c3, vI s2, vI s1, vI s0] σ Q ↔ Wp L d k_M_pullOf 94 [l0, l1, l2, l3, l4] [vI 9, vR c3, vI s2, vI s1, vI s0] σ Q := wp_push rfl
theorem r_M_pullOf_94 (h : gK c3 = 100) (hx : 0 ≤ s4 ∧ s4 < gN c3) : Wp L d k_M_pullOf 94 [l0, l1, l2, l3, l4] [vI s4, vR c3, vI s2, vI s1, vI s0] σ Q ↔ Wp L d k_M_pullOf 95 [l0, l1, l2, l3, l4] [vI (σ c3 s4.toNat), vI s2, vI s1, vI s0] σ Q := wp_iald rfl h hx
theorem r_M_pullOf_95 : Wp L d k_M_pullOf 95 [l0, l1, l2, l3, l4] [vI s3, vI s2, vI s1, vI s0] σ Q ↔ Wp L d k_M_pullOf 96 [l0, l1, l2, l3, l4] [vI (w32 (s2 * s3)), vI s1, vI s0] σ Q := wp_imul rfl
theorem r_M_pullOf_96 : Wp L d k_M_pullOf 96 [l0, l1, l2, l3, l4] [vI s2, vI s1, vI s0] σ Q ↔ Wp L d k_M_pullOf 97 [l0, l1, l2, l3, l4] [vI (w32 (s1 - s2)), vI s0] σ Q := wp_isub rfl
theorem r_M_pullOf_97 : Wp L d k_M_pullOf 97 [l0, l1, l2, l3, l4] [vI s1, vI s0] σ Q ↔ Wp L d k_M_pullOf 101 [l0, l1, l2, l3, l4] [vI s1, vI s0] σ Q := wp_goto rfl
theorem r_M_pullOf_100 : Wp L d k_M_pullOf 100 [l0, l1, l2, l3, l4] [vI s0] σ Q ↔ Wp L d k_M_pullOf 101 [l0, l1, l2, l3, l4] [vI 0, vI s0] σ Q := wp_push rfl
theorem r_M_pullOf_101 : Wp L d k_M_pullOf 101 [l0, l1, l2, l3, l4] [vI s1, vI s0] σ Q ↔ Wp L d k_M_pullOf 102 [l0, l1, l2, l3, l4] [vI (w32 (s0 + s1))] σ Q := wp_iadd rfl
theorem r_M_pullOf_102 : Wp L d k_M_pullOf 102 [l0, l1, vI a2, l3, l4] [vI s0] σ Q ↔ Wp L d k_M_pullOf 103 [l0, l1, vI a2, vI s0, l4] [] σ Q := wp_istore (i := 3) (ls := [l0, l1, vI a2, l3, l4]) rfl rfl
theorem r_M_pullOf_103 : Wp L d k_M_pullOf 103 [l0, l1, l2, vI a3, vI a4] [] σ Q ↔ Wp L d k_M_pullOf 106 [l0, l1, l2, vI a3, vI (w32 (a4 + 1))] [] σ Q := wp_iinc (i := 4) (ls := [l0, l1, l2, vI a3, vI a4]) rfl rfl
theorem r_M_pullOf_106 : Wp L d k_M_pullOf 106 [l0, l1, l2, l3, l4] [] σ Q ↔ Wp L d k_M_pullOf 7 [l0, l1, l2, l3, l4] [] σ Q := wp_goto rfl
theorem r_M_pullOf_109 : Wp L d k_M_pullOf 109 [l0, l1, l2, vI a3, l4] [] σ Q ↔ Wp L d k_M_pullOf 110 [l0, l1, l2, vI a3, l4] [vI a3] σ Q := wp_iload rfl rfl
theorem r_M_pullOf_110 : Wp L d k_M_pullOf 110 [l0, l1, l2, l3, l4] [vI s0] σ Q ↔ (if 0 ≤ s0 then Wp L d k_M_pullOf 117 [l0, l1, l2, l3, l4] [] σ Q else Wp L d k_M_pullOf 113 [l0, l1, l2, l3, l4] [] σ Q) := wp_if_ge rfl
theorem r_M_pullOf_113 : Wp L d k_M_pullOf 113 [l0, l1, l2, l3, l4] [] σ Q ↔ Wp L d k_M_pullOf 114 [l0, l1, l2, l3, l4] [vI 0] σ Q := wp_push rfl
theorem r_M_pullOf_114 : Wp L d k_M_pullOf 114 [l0, l1, l2, l3, l4] [vI s0] σ Q ↔ Wp L d k_M_pullOf 118 [l0, l1, l2, l3, l4] [vI s0] σ Q := wp_goto rfl
theorem r_M_pullOf_117 : Wp L d k_M_pullOf 117 [l0, l1, l2, vI a3, l4] [] σ Q ↔ Wp L d k_M_pullOf 118 [l0, l1, l2, vI a3, l4] [vI a3] σ Q := wp_iload rfl rfl
theorem r_M_pullOf_118 : Wp L d k_M_pullOf 118 [l0, l1, l2, l3, l4] [vI s0] σ Q ↔ Q (some (vI s0)) σ := wp_iret rfl
theorem r_M_pullOf_16 : Wp L (d + 2) k_M_pullOf 16 [l0, l1, l2, l3, l4] [vI s1, vR 293] σ Q ↔ Wp L (d + 2) k_M_pullOf 19 [l0, l1, l2, l3, l4] [vI (gb (0 ≤ s1 ∧ s1 ≤ w32 (σ 294 0 - 1)))] σ Q := wp_callR (d := d + 1) (as := [vR 293, vI s1]) (rest := []) rfl rfl rfl rfl rfl rfl rfl (grecv_k (by rw [gK_293]) rfl) (sp_M_isSpan)
theorem r_M_pullOf_25 (h : 0 ≤ s1 ∧ s1 ≤ 12) : Wp L (d + 2) k_M_pullOf 25 [l0, l1, l2, l3, l4] [vI s1, vR 293] σ Q ↔ Wp L (d + 2) k_M_pullOf 28 [l0, l1, l2, l3, l4] [vI (gb (σ 294 (20 + 3 * s1.toNat + 2) = 1))] σ Q := wp_callR (d := d + 1) (as := [vR 293, vI s1]) (rest := []) rfl rfl rfl rfl rfl rfl rfl (grecv_k (by rw [gK_293]) rfl) (sp_M_isDown0 h)
theorem r_M_pullOf_40 : Wp L (d + 2) k_M_pullOf 40 [l0, l1, l2, l3, l4] [vI s4, vR 293, vR c2, vI s1, vI s0] σ Q ↔ Wp L (d + 2) k_M_pullOf 43 [l0, l1, l2, l3, l4] [vI (w32 (20 + w32 (3 * s4))), vR c2, vI s1, vI s0] σ Q := wp_callR (d := d + 1) (as := [vR 293, vI s4]) (rest := [vR c2, vI s1, vI s0]) rfl rfl rfl rfl rfl rfl rfl (grecv_k (by rw [gK_293]) rfl) (sp_M_spanAt)
theorem r_M_pullOf_56 : Wp L (d + 2) k_M_pullOf 56 [l0, l1, l2, l3, l4] [vI s5, vR 293, vR c3, vI s2, vI s1, vI s0] σ Q ↔ Wp L (d + 2) k_M_pullOf 59 [l0, l1, l2, l3, l4] [vI (w32 (20 + w32 (3 * s5))), vR c3, vI s2, vI s1, vI s0] σ Q := wp_callR (d := d + 1) (as := [vR 293, vI s5]) (rest := [vR c3, vI s2, vI s1, vI s0]) rfl rfl rfl rfl rfl rfl rfl (grecv_k (by rw [gK_293]) rfl) (sp_M_spanAt)
theorem sp_M_pullOf (hw : WB (σ 294)) (h : 0 ≤ a1 ∧ a1 ≤ σ 294 0) (h2 : 0 ≤ a2 ∧ a2 ≤ 99) : Run L (d + 2) 219 [vR 293, vI a1, vI a2] σ (some (vI (brpull (σ 294) a2 a1.toNat))) σ := by
  refine Run_of (C' := k_M_pullOf) rfl ?_
  show Wp L (d + 2) k_M_pullOf 0 [vR 293, vI a1, vI a2, vU, vU] [] σ _
  obtain ⟨K293, Q293, K294, N294⟩ := litM
  have w1 := hw.1
  have w2 := hw.2.1

  have w5 := hw.2.2.2.2.1
  have w6 := hw.2.2.2.2.2.1
  have hr := brpull_eq hw a2 a1.toNat (by omega)
  rw [show ((a1.toNat : Nat) : Int) = a1 by omega] at hr
  rw [hr]
  simp (disch := first | assumption | exact gb_01 _ | omega) only [r_M_pullOf_0, r_M_pullOf_1, r_M_pullOf_2, r_M_pullOf_3, r_M_pullOf_4, r_M_pullOf_5, r_M_pullOf_9, r_M_pullOf_10, r_M_pullOf_13, r_M_pullOf_14, r_M_pullOf_16, r_M_pullOf_19, r_M_pullOf_22, r_M_pullOf_23, r_M_pullOf_25, r_M_pullOf_28, r_M_pullOf_31, r_M_pullOf_32, r_M_pullOf_33, r_M_pullOf_34, r_M_pullOf_37, r_M_pullOf_38, r_M_pullOf_40, r_M_pullOf_43, r_M_pullOf_44, r_M_pullOf_45, r_M_pullOf_46, r_M_pullOf_47, r_M_pullOf_49, r_M_pullOf_50, r_M_pullOf_53, r_M_pullOf_54, r_M_pullOf_56, r_M_pullOf_59, r_M_pullOf_60, r_M_pullOf_61, r_M_pullOf_62, r_M_pullOf_63, r_M_pullOf_64, r_M_pullOf_65, r_M_pullOf_66, r_M_pullOf_69, r_M_pullOf_71, r_M_pullOf_72, r_M_pullOf_74, r_M_pullOf_77, r_M_pullOf_78, r_M_pullOf_79, r_M_pullOf_82, r_M_pullOf_84, r_M_pullOf_85, r_M_pullOf_86, r_M_pullOf_88, r_M_pullOf_89, r_M_pullOf_92, r_M_pullOf_94, r_M_pullOf_95, r_M_pullOf_96, r_M_pullOf_97, r_M_pullOf_100, r_M_pullOf_101, r_M_pullOf_102, r_M_pullOf_103, r_M_pullOf_106, r_M_pullOf_109, r_M_pullOf_110, r_M_pullOf_113, r_M_pullOf_114, r_M_pullOf_117, r_M_pullOf_118, Q293, w32_gb, w32i, tn_add, tn_mul, Int.toNat_natCast, Int.toNat_zero, Int.reduceLE, Int.reduceLT, Int.reduceEq, Int.reduceNe, gb_T, gb_F, Int.reduceToNat, eq_self, true_or, or_true, and_true, true_and, and_self, ↓ite_gb0, ↓ite_gbn, ↓if_pos, ↓if_neg, if_true, if_false, not_true_eq_false, not_false_eq_true, gb_ne0, gb_eq0]
  refine wl 2 (fun k => [vR 293, vI a1, vI a2, vI (gsm (fun i => brpl (σ 294) a2 (a1 - 1 + (i : Nat))) k), vI (a1 - 1 + (k : Nat))]) (fun _ => σ) (by simp only [List.cons.injEq, vI_inj, vR_inj, and_true, true_and]; exact ⟨rfl, by omega⟩) rfl (fun k hk hq => ?_) ?_
  · have b0 := gsm_bd2 (g := fun i => brpl (σ 294) a2 (a1 - 1 + (i : Nat))) (A := -1980) (B := 19602) k (fun j _ => brpl_bd hw h2 _)
    have m2 := mul_bd h2 w6
    by_cases c1 : 0 ≤ a1 - 1 + (k : Int) ∧ a1 - 1 + (k : Int) ≤ σ 294 0 - 1
    · have x := hw.2.2.1 (a1 - 1 + (k : Int)).toNat (by omega)
      have m1 := mul_bd h2 x.2.1
      by_cases c2 : σ 294 (20 + 3 * (a1 - 1 + (k : Int)).toNat + 2) = 1
      · rw [r_M_pullOf_7]
        simp (disch := first | assumption | exact gb_01 _ | omega) only [r_M_pullOf_0, r_M_pullOf_1, r_M_pullOf_2, r_M_pullOf_3, r_M_pullOf_4, r_M_pullOf_5, r_M_pullOf_9, r_M_pullOf_10, r_M_pullOf_13, r_M_pullOf_14, r_M_pullOf_16, r_M_pullOf_19, r_M_pullOf_22, r_M_pullOf_23, r_M_pullOf_25, r_M_pullOf_28, r_M_pullOf_31, r_M_pullOf_32, r_M_pullOf_33, r_M_pullOf_34, r_M_pullOf_37, r_M_pullOf_38, r_M_pullOf_40, r_M_pullOf_43, r_M_pullOf_44, r_M_pullOf_45, r_M_pullOf_46, r_M_pullOf_47, r_M_pullOf_49, r_M_pullOf_50, r_M_pullOf_53, r_M_pullOf_54, r_M_pullOf_56, r_M_pullOf_59, r_M_pullOf_60, r_M_pullOf_61, r_M_pullOf_62, r_M_pullOf_63, r_M_pullOf_64, r_M_pullOf_65, r_M_pullOf_66, r_M_pullOf_69, r_M_pullOf_71, r_M_pullOf_72, r_M_pullOf_74, r_M_pullOf_77, r_M_pullOf_78, r_M_pullOf_79, r_M_pullOf_82, r_M_pullOf_84, r_M_pullOf_85, r_M_pullOf_86, r_M_pullOf_88, r_M_pullOf_89, r_M_pullOf_92, r_M_pullOf_94, r_M_pullOf_95, r_M_pullOf_96, r_M_pullOf_97, r_M_pullOf_100, r_M_pullOf_101, r_M_pullOf_102, r_M_pullOf_103, r_M_pullOf_106, r_M_pullOf_109, r_M_pullOf_110, r_M_pullOf_113, r_M_pullOf_114, r_M_pullOf_117, r_M_pullOf_118, Q293, w32_gb, w32i, tn_add, tn_mul, Int.toNat_natCast, Int.toNat_zero, Int.reduceLE, Int.reduceLT, Int.reduceEq, Int.reduceNe, gb_T, gb_F, Int.reduceToNat, eq_self, true_or, or_true, and_true, true_and, and_self, ↓ite_gb0, ↓ite_gbn, ↓if_pos, ↓if_neg, if_true, if_false, not_true_eq_false, not_false_eq_true, gb_ne0, gb_eq0]
        refine hq _ _ ?_ rfl
        simp only [List.cons.injEq, vI_inj, vR_inj, and_true, true_and]
        refine ⟨?_, by omega⟩
        simp only [gsm, brpl, c1, c2, not_true_eq_false, and_false, if_false]
        omega
      · by_cases c3 : σ 294 11 = a1 - 1 + (k : Int)
        · rw [r_M_pullOf_7]
          simp (disch := first | assumption | exact gb_01 _ | omega) only [r_M_pullOf_0, r_M_pullOf_1, r_M_pullOf_2, r_M_pullOf_3, r_M_pullOf_4, r_M_pullOf_5, r_M_pullOf_9, r_M_pullOf_10, r_M_pullOf_13, r_M_pullOf_14, r_M_pullOf_16, r_M_pullOf_19, r_M_pullOf_22, r_M_pullOf_23, r_M_pullOf_25, r_M_pullOf_28, r_M_pullOf_31, r_M_pullOf_32, r_M_pullOf_33, r_M_pullOf_34, r_M_pullOf_37, r_M_pullOf_38, r_M_pullOf_40, r_M_pullOf_43, r_M_pullOf_44, r_M_pullOf_45, r_M_pullOf_46, r_M_pullOf_47, r_M_pullOf_49, r_M_pullOf_50, r_M_pullOf_53, r_M_pullOf_54, r_M_pullOf_56, r_M_pullOf_59, r_M_pullOf_60, r_M_pullOf_61, r_M_pullOf_62, r_M_pullOf_63, r_M_pullOf_64, r_M_pullOf_65, r_M_pullOf_66, r_M_pullOf_69, r_M_pullOf_71, r_M_pullOf_72, r_M_pullOf_74, r_M_pullOf_77, r_M_pullOf_78, r_M_pullOf_79, r_M_pullOf_82, r_M_pullOf_84, r_M_pullOf_85, r_M_pullOf_86, r_M_pullOf_88, r_M_pullOf_89, r_M_pullOf_92, r_M_pullOf_94, r_M_pullOf_95, r_M_pullOf_96, r_M_pullOf_97, r_M_pullOf_100, r_M_pullOf_101, r_M_pullOf_102, r_M_pullOf_103, r_M_pullOf_106, r_M_pullOf_109, r_M_pullOf_110, r_M_pullOf_113, r_M_pullOf_114, r_M_pullOf_117, r_M_pullOf_118, Q293, w32_gb, w32i, tn_add, tn_mul, Int.toNat_natCast, Int.toNat_zero, Int.reduceLE, Int.reduceLT, Int.reduceEq, Int.reduceNe, gb_T, gb_F, Int.reduceToNat, eq_self, true_or, or_true, and_true, true_and, and_self, ↓ite_gb0, ↓ite_gbn, ↓if_pos, ↓if_neg, if_true, if_false, not_true_eq_false, not_false_eq_true, gb_ne0, gb_eq0]
          refine hq _ _ ?_ rfl
          simp only [List.cons.injEq, vI_inj, vR_inj, and_true, true_and]
          refine ⟨?_, by omega⟩
          simp only [gsm, brpl, c1, c2, c3, and_self, not_false_eq_true, if_true]
          omega
        · rw [r_M_pullOf_7]
          simp (disch := first | assumption | exact gb_01 _ | omega) only [r_M_pullOf_0, r_M_pullOf_1, r_M_pullOf_2, r_M_pullOf_3, r_M_pullOf_4, r_M_pullOf_5, r_M_pullOf_9, r_M_pullOf_10, r_M_pullOf_13, r_M_pullOf_14, r_M_pullOf_16, r_M_pullOf_19, r_M_pullOf_22, r_M_pullOf_23, r_M_pullOf_25, r_M_pullOf_28, r_M_pullOf_31, r_M_pullOf_32, r_M_pullOf_33, r_M_pullOf_34, r_M_pullOf_37, r_M_pullOf_38, r_M_pullOf_40, r_M_pullOf_43, r_M_pullOf_44, r_M_pullOf_45, r_M_pullOf_46, r_M_pullOf_47, r_M_pullOf_49, r_M_pullOf_50, r_M_pullOf_53, r_M_pullOf_54, r_M_pullOf_56, r_M_pullOf_59, r_M_pullOf_60, r_M_pullOf_61, r_M_pullOf_62, r_M_pullOf_63, r_M_pullOf_64, r_M_pullOf_65, r_M_pullOf_66, r_M_pullOf_69, r_M_pullOf_71, r_M_pullOf_72, r_M_pullOf_74, r_M_pullOf_77, r_M_pullOf_78, r_M_pullOf_79, r_M_pullOf_82, r_M_pullOf_84, r_M_pullOf_85, r_M_pullOf_86, r_M_pullOf_88, r_M_pullOf_89, r_M_pullOf_92, r_M_pullOf_94, r_M_pullOf_95, r_M_pullOf_96, r_M_pullOf_97, r_M_pullOf_100, r_M_pullOf_101, r_M_pullOf_102, r_M_pullOf_103, r_M_pullOf_106, r_M_pullOf_109, r_M_pullOf_110, r_M_pullOf_113, r_M_pullOf_114, r_M_pullOf_117, r_M_pullOf_118, Q293, w32_gb, w32i, tn_add, tn_mul, Int.toNat_natCast, Int.toNat_zero, Int.reduceLE, Int.reduceLT, Int.reduceEq, Int.reduceNe, gb_T, gb_F, Int.reduceToNat, eq_self, true_or, or_true, and_true, true_and, and_self, ↓ite_gb0, ↓ite_gbn, ↓if_pos, ↓if_neg, if_true, if_false, not_true_eq_false, not_false_eq_true, gb_ne0, gb_eq0]
          refine hq _ _ ?_ rfl
          simp only [List.cons.injEq, vI_inj, vR_inj, and_true, true_and]
          refine ⟨?_, by omega⟩
          simp only [gsm, brpl, c1, c2, c3, and_self, not_false_eq_true, if_true, if_false]
          omega
    · rw [r_M_pullOf_7]
      simp (disch := first | assumption | exact gb_01 _ | omega) only [r_M_pullOf_0, r_M_pullOf_1, r_M_pullOf_2, r_M_pullOf_3, r_M_pullOf_4, r_M_pullOf_5, r_M_pullOf_9, r_M_pullOf_10, r_M_pullOf_13, r_M_pullOf_14, r_M_pullOf_16, r_M_pullOf_19, r_M_pullOf_22, r_M_pullOf_23, r_M_pullOf_25, r_M_pullOf_28, r_M_pullOf_31, r_M_pullOf_32, r_M_pullOf_33, r_M_pullOf_34, r_M_pullOf_37, r_M_pullOf_38, r_M_pullOf_40, r_M_pullOf_43, r_M_pullOf_44, r_M_pullOf_45, r_M_pullOf_46, r_M_pullOf_47, r_M_pullOf_49, r_M_pullOf_50, r_M_pullOf_53, r_M_pullOf_54, r_M_pullOf_56, r_M_pullOf_59, r_M_pullOf_60, r_M_pullOf_61, r_M_pullOf_62, r_M_pullOf_63, r_M_pullOf_64, r_M_pullOf_65, r_M_pullOf_66, r_M_pullOf_69, r_M_pullOf_71, r_M_pullOf_72, r_M_pullOf_74, r_M_pullOf_77, r_M_pullOf_78, r_M_pullOf_79, r_M_pullOf_82, r_M_pullOf_84, r_M_pullOf_85, r_M_pullOf_86, r_M_pullOf_88, r_M_pullOf_89, r_M_pullOf_92, r_M_pullOf_94, r_M_pullOf_95, r_M_pullOf_96, r_M_pullOf_97, r_M_pullOf_100, r_M_pullOf_101, r_M_pullOf_102, r_M_pullOf_103, r_M_pullOf_106, r_M_pullOf_109, r_M_pullOf_110, r_M_pullOf_113, r_M_pullOf_114, r_M_pullOf_117, r_M_pullOf_118, Q293, w32_gb, w32i, tn_add, tn_mul, Int.toNat_natCast, Int.toNat_zero, Int.reduceLE, Int.reduceLT, Int.reduceEq, Int.reduceNe, gb_T, gb_F, Int.reduceToNat, eq_self, true_or, or_true, and_true, true_and, and_self, ↓ite_gb0, ↓ite_gbn, ↓if_pos, ↓if_neg, if_true, if_false, not_true_eq_false, not_false_eq_true, gb_ne0, gb_eq0]
      refine hq _ _ ?_ rfl
      simp only [List.cons.injEq, vI_inj, vR_inj, and_true, true_and]
      refine ⟨?_, by omega⟩
      simp only [gsm, brpl, c1, false_and, if_false]
      omega
  · have b0 := gsm_bd2 (g := fun i => brpl (σ 294) a2 (a1 - 1 + (i : Nat))) (A := -1980) (B := 19602) 2 (fun j _ => brpl_bd hw h2 _)
    have e : gsm (fun i => brpl (σ 294) a2 (a1 - 1 + (i : Nat))) 2 = brpl (σ 294) a2 (a1 - 1) + brpl (σ 294) a2 a1 := by
      simp only [gsm]
      rw [show a1 - 1 + ((0 : Nat) : Int) = a1 - 1 by omega, show a1 - 1 + ((1 : Nat) : Int) = a1 by omega, Int.zero_add]
    rw [e] at b0 ⊢
    rw [r_M_pullOf_7]
    by_cases c : brpl (σ 294) a2 (a1 - 1) + brpl (σ 294) a2 a1 < 0
    · rw [if_pos c]
      simp (disch := first | assumption | exact gb_01 _ | omega) only [r_M_pullOf_0, r_M_pullOf_1, r_M_pullOf_2, r_M_pullOf_3, r_M_pullOf_4, r_M_pullOf_5, r_M_pullOf_9, r_M_pullOf_10, r_M_pullOf_13, r_M_pullOf_14, r_M_pullOf_16, r_M_pullOf_19, r_M_pullOf_22, r_M_pullOf_23, r_M_pullOf_25, r_M_pullOf_28, r_M_pullOf_31, r_M_pullOf_32, r_M_pullOf_33, r_M_pullOf_34, r_M_pullOf_37, r_M_pullOf_38, r_M_pullOf_40, r_M_pullOf_43, r_M_pullOf_44, r_M_pullOf_45, r_M_pullOf_46, r_M_pullOf_47, r_M_pullOf_49, r_M_pullOf_50, r_M_pullOf_53, r_M_pullOf_54, r_M_pullOf_56, r_M_pullOf_59, r_M_pullOf_60, r_M_pullOf_61, r_M_pullOf_62, r_M_pullOf_63, r_M_pullOf_64, r_M_pullOf_65, r_M_pullOf_66, r_M_pullOf_69, r_M_pullOf_71, r_M_pullOf_72, r_M_pullOf_74, r_M_pullOf_77, r_M_pullOf_78, r_M_pullOf_79, r_M_pullOf_82, r_M_pullOf_84, r_M_pullOf_85, r_M_pullOf_86, r_M_pullOf_88, r_M_pullOf_89, r_M_pullOf_92, r_M_pullOf_94, r_M_pullOf_95, r_M_pullOf_96, r_M_pullOf_97, r_M_pullOf_100, r_M_pullOf_101, r_M_pullOf_102, r_M_pullOf_103, r_M_pullOf_106, r_M_pullOf_109, r_M_pullOf_110, r_M_pullOf_113, r_M_pullOf_114, r_M_pullOf_117, r_M_pullOf_118, Q293, w32_gb, w32i, tn_add, tn_mul, Int.toNat_natCast, Int.toNat_zero, Int.reduceLE, Int.reduceLT, Int.reduceEq, Int.reduceNe, gb_T, gb_F, Int.reduceToNat, eq_self, true_or, or_true, and_true, true_and, and_self, ↓ite_gb0, ↓ite_gbn, ↓if_pos, ↓if_neg, if_true, if_false, not_true_eq_false, not_false_eq_true, gb_ne0, gb_eq0]
    · rw [if_neg c]
      simp (disch := first | assumption | exact gb_01 _ | omega) only [r_M_pullOf_0, r_M_pullOf_1, r_M_pullOf_2, r_M_pullOf_3, r_M_pullOf_4, r_M_pullOf_5, r_M_pullOf_9, r_M_pullOf_10, r_M_pullOf_13, r_M_pullOf_14, r_M_pullOf_16, r_M_pullOf_19, r_M_pullOf_22, r_M_pullOf_23, r_M_pullOf_25, r_M_pullOf_28, r_M_pullOf_31, r_M_pullOf_32, r_M_pullOf_33, r_M_pullOf_34, r_M_pullOf_37, r_M_pullOf_38, r_M_pullOf_40, r_M_pullOf_43, r_M_pullOf_44, r_M_pullOf_45, r_M_pullOf_46, r_M_pullOf_47, r_M_pullOf_49, r_M_pullOf_50, r_M_pullOf_53, r_M_pullOf_54, r_M_pullOf_56, r_M_pullOf_59, r_M_pullOf_60, r_M_pullOf_61, r_M_pullOf_62, r_M_pullOf_63, r_M_pullOf_64, r_M_pullOf_65, r_M_pullOf_66, r_M_pullOf_69, r_M_pullOf_71, r_M_pullOf_72, r_M_pullOf_74, r_M_pullOf_77, r_M_pullOf_78, r_M_pullOf_79, r_M_pullOf_82, r_M_pullOf_84, r_M_pullOf_85, r_M_pullOf_86, r_M_pullOf_88, r_M_pullOf_89, r_M_pullOf_92, r_M_pullOf_94, r_M_pullOf_95, r_M_pullOf_96, r_M_pullOf_97, r_M_pullOf_100, r_M_pullOf_101, r_M_pullOf_102, r_M_pullOf_103, r_M_pullOf_106, r_M_pullOf_109, r_M_pullOf_110, r_M_pullOf_113, r_M_pullOf_114, r_M_pullOf_117, r_M_pullOf_118, Q293, w32_gb, w32i, tn_add, tn_mul, Int.toNat_natCast, Int.toNat_zero, Int.reduceLE, Int.reduceLT, Int.reduceEq, Int.reduceNe, gb_T, gb_F, Int.reduceToNat, eq_self, true_or, or_true, and_true, true_and, and_self, ↓ite_gb0, ↓ite_gbn, ↓if_pos, ↓if_neg, if_true, if_false, not_true_eq_false, not_false_eq_true, gb_ne0, gb_eq0]
theorem r_M_sharesAt_0 : Wp L d k_M_sharesAt 0 [l0, l1, l2, l3] [] σ Q ↔ Wp L d k_M_sharesAt 1 [l0, l1, l2, l3] [vI 0] σ Q := wp_push rfl
theorem r_M_sharesAt_1 : Wp L d k_M_sharesAt 1 [l0, vI a1, l2, l3] [vI s0] σ Q ↔ Wp L d k_M_sharesAt 2 [l0, vI a1, vI s0, l3] [] σ Q := wp_istore (i := 2) (ls := [l0, vI a1, l2, l3]) rfl rfl
theorem r_M_sharesAt_2 : Wp L d k_M_sharesAt 2 [l0, l1, l2, l3] [] σ Q ↔ Wp L d k_M_sharesAt 3 [l0, l1, l2, l3] [vI 0] σ Q := wp_push rfl
theorem r_M_sharesAt_3 : Wp L d k_M_sharesAt 3 [l0, l1, vI a2, l3] [vI s0] σ Q ↔ Wp L d k_M_sharesAt 4 [l0, l1, vI a2, vI s0] [] σ Q := wp_istore (i := 3) (ls := [l0, l1, vI a2, l3]) rfl rfl
theorem r_M_sharesAt_4 : Wp L d k_M_sharesAt 4 [l0, l1, l2, vI a3] [] σ Q ↔ Wp L d k_M_sharesAt 5 [l0, l1, l2, vI a3] [vI a3] σ Q := wp_iload rfl rfl
theorem r_M_sharesAt_5 : Wp L d k_M_sharesAt 5 [vR b0, l1, l2, l3] [vI s0] σ Q ↔ Wp L d k_M_sharesAt 6 [vR b0, l1, l2, l3] [vR b0, vI s0] σ Q := wp_aload rfl rfl
theorem r_M_sharesAt_6 (h : gK c1 = 12) : Wp L d k_M_sharesAt 6 [l0, l1, l2, l3] [vR c1, vI s0] σ Q ↔ Wp L d k_M_sharesAt 9 [l0, l1, l2, l3] [vR (gq c1 0), vI s0] σ Q := wp_getR (c := 3200) rfl rfl rfl rfl rfl h
theorem r_M_sharesAt_9 : Wp L d k_M_sharesAt 9 [l0, l1, l2, l3] [vR c1, vI s0] σ Q ↔ Wp L d k_M_sharesAt 10 [l0, l1, l2, l3] [vI 1, vR c1, vI s0] σ Q := wp_push rfl
theorem r_M_sharesAt_10 (h : gK c1 = 100) (hx : 0 ≤ s2 ∧ s2 < gN c1) : Wp L d k_M_sharesAt 10 [l0, l1, l2, l3] [vI s2, vR c1, vI s0] σ Q ↔ Wp L d k_M_sharesAt 11 [l0, l1, l2, l3] [vI (σ c1 s2.toNat), vI s0] σ Q := wp_iald rfl h hx
theorem r_M_sharesAt_11 : Wp L d k_M_sharesAt 11 [l0, l1, l2, l3] [vI s1, vI s0] σ Q ↔ (if s1 ≤ s0 then Wp L d k_M_sharesAt 63 [l0, l1, l2, l3] [] σ Q else Wp L d k_M_sharesAt 14 [l0, l1, l2, l3] [] σ Q) := wp_cmp_ge rfl
theorem r_M_sharesAt_14 : Wp L d k_M_sharesAt 14 [l0, l1, vI a2, l3] [] σ Q ↔ Wp L d k_M_sharesAt 15 [l0, l1, vI a2, l3] [vI a2] σ Q := wp_iload rfl rfl
theorem r_M_sharesAt_15 : Wp L d k_M_sharesAt 15 [vR b0, l1, l2, l3] [vI s0] σ Q ↔ Wp L d k_M_sharesAt 16 [vR b0, l1, l2, l3] [vR b0, vI s0] σ Q := wp_aload rfl rfl
theorem r_M_sharesAt_16 : Wp L d k_M_sharesAt 16 [l0, l1, l2, vI a3] [vR c1, vI s0] σ Q ↔ Wp L d k_M_sharesAt 17 [l0, l1, l2, vI a3] [vI a3, vR c1, vI s0] σ Q := wp_iload rfl rfl
theorem r_M_sharesAt_20 : Wp L d k_M_sharesAt 20 [l0, l1, l2, l3] [vI s1, vI s0] σ Q ↔ (if s1 = 0 then Wp L d k_M_sharesAt 54 [l0, l1, l2, l3] [vI s0] σ Q else Wp L d k_M_sharesAt 23 [l0, l1, l2, l3] [vI s0] σ Q) := wp_if_eq rfl
theorem r_M_sharesAt_23 : Wp L d k_M_sharesAt 23 [vR b0, l1, l2, l3] [vI s0] σ Q ↔ Wp L d k_M_sharesAt 24 [vR b0, l1, l2, l3] [vR b0, vI s0] σ Q := wp_aload rfl rfl
theorem r_M_sharesAt_24 (h : gK c1 = 12) : Wp L d k_M_sharesAt 24 [l0, l1, l2, l3] [vR c1, vI s0] σ Q ↔ Wp L d k_M_sharesAt 27 [l0, l1, l2, l3] [vR (gq c1 0), vI s0] σ Q := wp_getR (c := 3200) rfl rfl rfl rfl rfl h
theorem r_M_sharesAt_27 : Wp L d k_M_sharesAt 27 [vR b0, l1, l2, l3] [vR c1, vI s0] σ Q ↔ Wp L d k_M_sharesAt 28 [vR b0, l1, l2, l3] [vR b0, vR c1, vI s0] σ Q := wp_aload rfl rfl
theorem r_M_sharesAt_28 : Wp L d k_M_sharesAt 28 [l0, l1, l2, vI a3] [vR c2, vR c1, vI s0] σ Q ↔ Wp L d k_M_sharesAt 29 [l0, l1, l2, vI a3] [vI a3, vR c2, vR c1, vI s0] σ Q := wp_iload rfl rfl
theorem r_M_sharesAt_32 : Wp L d k_M_sharesAt 32 [l0, l1, l2, l3] [vI s2, vR c1, vI s0] σ Q ↔ Wp L d k_M_sharesAt 33 [l0, l1, l2, l3] [vI 1, vI s2, vR c1, vI s0] σ Q := wp_push rfl
theorem r_M_sharesAt_33 : Wp L d k_M_sharesAt 33 [l0, l1, l2, l3] [vI s3, vI s2, vR c1, vI s0] σ Q ↔ Wp L d k_M_sharesAt 34 [l0, l1, l2, l3] [vI (w32 (s2 + s3)), vR c1, vI s0] σ Q := wp_iadd rfl
theorem r_M_sharesAt_34 (h : gK c1 = 100) (hx : 0 ≤ s2 ∧ s2 < gN c1) : Wp L d k_M_sharesAt 34 [l0, l1, l2, l3] [vI s2, vR c1, vI s0] σ Q ↔ Wp L d k_M_sharesAt 35 [l0, l1, l2, l3] [vI (σ c1 s2.toNat), vI s0] σ Q := wp_iald rfl h hx
theorem r_M_sharesAt_35 : Wp L d k_M_sharesAt 35 [l0, vI a1, l2, l3] [vI s1, vI s0] σ Q ↔ Wp L d k_M_sharesAt 36 [l0, vI a1, l2, l3] [vI a1, vI s1, vI s0] σ Q := wp_iload rfl rfl
theorem r_M_sharesAt_36 : Wp L d k_M_sharesAt 36 [l0, l1, l2, l3] [vI s2, vI s1, vI s0] σ Q ↔ (if s1 ≠ s2 then Wp L d k_M_sharesAt 54 [l0, l1, l2, l3] [vI s0] σ Q else Wp L d k_M_sharesAt 39 [l0, l1, l2, l3] [vI s0] σ Q) := wp_cmp_ne rfl
theorem r_M_sharesAt_39 : Wp L d k_M_sharesAt 39 [vR b0, l1, l2, l3] [vI s0] σ Q ↔ Wp L d k_M_sharesAt 40 [vR b0, l1, l2, l3] [vR b0, vI s0] σ Q := wp_aload rfl rfl
theorem r_M_sharesAt_40 (h : gK c1 = 12) : Wp L d k_M_sharesAt 40 [l0, l1, l2, l3] [vR c1, vI s0] σ Q ↔ Wp L d k_M_sharesAt 43 [l0, l1, l2, l3] [vR (gq c1 0), vI s0] σ Q := wp_getR (c := 3200) rfl rfl rfl rfl rfl h
theorem r_M_sharesAt_43 : Wp L d k_M_sharesAt 43 [vR b0, l1, l2, l3] [vR c1, vI s0] σ Q ↔ Wp L d k_M_sharesAt 44 [vR b0, l1, l2, l3] [vR b0, vR c1, vI s0] σ Q := wp_aload rfl rfl
theorem r_M_sharesAt_44 : Wp L d k_M_sharesAt 44 [l0, l1, l2, vI a3] [vR c2, vR c1, vI s0] σ Q ↔ Wp L d k_M_sharesAt 45 [l0, l1, l2, vI a3] [vI a3, vR c2, vR c1, vI s0] σ Q := wp_iload rfl rfl
theorem r_M_sharesAt_48 : Wp L d k_M_sharesAt 48 [l0, l1, l2, l3] [vI s2, vR c1, vI s0] σ Q ↔ Wp L d k_M_sharesAt 49 [l0, l1, l2, l3] [vI 3, vI s2, vR c1, vI s0] σ Q := wp_push rfl
theorem r_M_sharesAt_49 : Wp L d k_M_sharesAt 49 [l0, l1, l2, l3] [vI s3, vI s2, vR c1, vI s0] σ Q ↔ Wp L d k_M_sharesAt 50 [l0, l1, l2, l3] [vI (w32 (s2 + s3)), vR c1, vI s0] σ Q := wp_iadd rfl
theorem r_M_sharesAt_50 (h : gK c1 = 100) (hx : 0 ≤ s2 ∧ s2 < gN c1) : Wp L d k_M_sharesAt 50 [l0, l1, l2, l3] [vI s2, vR c1, vI s0] σ Q ↔ Wp L d k_M_sharesAt 51 [l0, l1, l2, l3] [vI (σ c1 s2.toNat), vI s0] σ Q := wp_iald rfl h hx
theorem r_M_sharesAt_51 : Wp L d k_M_sharesAt 51 [l0, l1, l2, l3] [vI s1, vI s0] σ Q ↔ Wp L d k_M_sharesAt 55 [l0, l1, l2, l3] [vI s1, vI s0] σ Q := wp_goto rfl
theorem r_M_sharesAt_54 : Wp L d k_M_sharesAt 54 [l0, l1, l2, l3] [vI s0] σ Q ↔ Wp L d k_M_sharesAt 55 [l0, l1, l2, l3] [vI 0, vI s0] σ Q := wp_push rfl
theorem r_M_sharesAt_55 : Wp L d k_M_sharesAt 55 [l0, l1, l2, l3] [vI s1, vI s0] σ Q ↔ Wp L d k_M_sharesAt 56 [l0, l1, l2, l3] [vI (w32 (s0 + s1))] σ Q := wp_iadd rfl
theorem r_M_sharesAt_56 : Wp L d k_M_sharesAt 56 [l0, vI a1, l2, l3] [vI s0] σ Q ↔ Wp L d k_M_sharesAt 57 [l0, vI a1, vI s0, l3] [] σ Q := wp_istore (i := 2) (ls := [l0, vI a1, l2, l3]) rfl rfl
theorem r_M_sharesAt_57 : Wp L d k_M_sharesAt 57 [l0, l1, vI a2, vI a3] [] σ Q ↔ Wp L d k_M_sharesAt 60 [l0, l1, vI a2, vI (w32 (a3 + 1))] [] σ Q := wp_iinc (i := 3) (ls := [l0, l1, vI a2, vI a3]) rfl rfl
theorem r_M_sharesAt_60 : Wp L d k_M_sharesAt 60 [l0, l1, l2, l3] [] σ Q ↔ Wp L d k_M_sharesAt 4 [l0, l1, l2, l3] [] σ Q := wp_goto rfl
theorem r_M_sharesAt_63 : Wp L d k_M_sharesAt 63 [l0, l1, vI a2, l3] [] σ Q ↔ Wp L d k_M_sharesAt 64 [l0, l1, vI a2, l3] [vI a2] σ Q := wp_iload rfl rfl
theorem r_M_sharesAt_64 : Wp L d k_M_sharesAt 64 [l0, l1, l2, l3] [vI s0] σ Q ↔ Q (some (vI s0)) σ := wp_iret rfl
theorem r_M_sharesAt_17 (h : 0 ≤ s2 ∧ s2 ≤ 40) : Wp L (d + 2) k_M_sharesAt 17 [l0, l1, l2, l3] [vI s2, vR 293, vI s0] σ Q ↔ Wp L (d + 2) k_M_sharesAt 20 [l0, l1, l2, l3] [vI (gb (σ 294 (120 + 12 * s2.toNat + 8) = 1)), vI s0] σ Q := wp_callR (d := d + 1) (as := [vR 293, vI s2]) (rest := [vI s0]) rfl rfl rfl rfl rfl rfl rfl (grecv_k (by rw [gK_293]) rfl) (sp_M_stands h)
theorem r_M_sharesAt_29 : Wp L (d + 2) k_M_sharesAt 29 [l0, l1, l2, l3] [vI s3, vR 293, vR c1, vI s0] σ Q ↔ Wp L (d + 2) k_M_sharesAt 32 [l0, l1, l2, l3] [vI (w32 (120 + w32 (12 * s3))), vR c1, vI s0] σ Q := wp_callR (d := d + 1) (as := [vR 293, vI s3]) (rest := [vR c1, vI s0]) rfl rfl rfl rfl rfl rfl rfl (grecv_k (by rw [gK_293]) rfl) (sp_M_partAt)
theorem r_M_sharesAt_45 : Wp L (d + 2) k_M_sharesAt 45 [l0, l1, l2, l3] [vI s3, vR 293, vR c1, vI s0] σ Q ↔ Wp L (d + 2) k_M_sharesAt 48 [l0, l1, l2, l3] [vI (w32 (120 + w32 (12 * s3))), vR c1, vI s0] σ Q := wp_callR (d := d + 1) (as := [vR 293, vI s3]) (rest := [vR c1, vI s0]) rfl rfl rfl rfl rfl rfl rfl (grecv_k (by rw [gK_293]) rfl) (sp_M_partAt)
theorem sp_M_sharesAt (hw : WB (σ 294)) : Run L (d + 2) 221 [vR 293, vI a1] σ (some (vI (brsh (σ 294) a1 (σ 294 1).toNat))) σ := by
  refine Run_of (C' := k_M_sharesAt) rfl ?_
  show Wp L (d + 2) k_M_sharesAt 0 [vR 293, vI a1, vU, vU] [] σ _
  obtain ⟨K293, Q293, K294, N294⟩ := litM
  have w1 := hw.1
  have w2 := hw.2.1
  simp (disch := first | assumption | exact gb_01 _ | omega) only [r_M_sharesAt_0, r_M_sharesAt_1, r_M_sharesAt_2, r_M_sharesAt_3, r_M_sharesAt_5, r_M_sharesAt_6, r_M_sharesAt_9, r_M_sharesAt_10, r_M_sharesAt_11, r_M_sharesAt_14, r_M_sharesAt_15, r_M_sharesAt_16, r_M_sharesAt_17, r_M_sharesAt_20, r_M_sharesAt_23, r_M_sharesAt_24, r_M_sharesAt_27, r_M_sharesAt_28, r_M_sharesAt_29, r_M_sharesAt_32, r_M_sharesAt_33, r_M_sharesAt_34, r_M_sharesAt_35, r_M_sharesAt_36, r_M_sharesAt_39, r_M_sharesAt_40, r_M_sharesAt_43, r_M_sharesAt_44, r_M_sharesAt_45, r_M_sharesAt_48, r_M_sharesAt_49, r_M_sharesAt_50, r_M_sharesAt_51, r_M_sharesAt_54, r_M_sharesAt_55, r_M_sharesAt_56, r_M_sharesAt_57, r_M_sharesAt_60, r_M_sharesAt_63, r_M_sharesAt_64, Q293, w32_gb, w32i, tn_add, tn_mul, Int.toNat_natCast, Int.toNat_zero, Int.reduceLE, Int.reduceLT, Int.reduceEq, Int.reduceNe, gb_T, gb_F, Int.reduceToNat, eq_self, true_or, or_true, and_true, true_and, and_self, ↓ite_gb0, ↓ite_gbn, ↓if_pos, ↓if_neg, if_true, if_false, not_true_eq_false, not_false_eq_true, gb_ne0, gb_eq0]
  refine wloopF (σ 294 1).toNat (fun k => [vR 293, vI a1, vI (brsh (σ 294) a1 k), vI (k : Int)]) (fun _ => σ) (fun k hk hq => ?_) ?_
  · have w := WBp hw (p := k) (by omega)
    have bd := brsh_bd hw a1 k (by omega)
    by_cases e1 : σ 294 (120 + 12 * k + 8) = 1 <;> by_cases e2 : σ 294 (120 + 12 * k + 1) = a1 <;> first
      | (exfalso; omega)
      | (
        rw [r_M_sharesAt_4]
        simp (disch := first | assumption | exact gb_01 _ | omega) only [r_M_sharesAt_0, r_M_sharesAt_1, r_M_sharesAt_2, r_M_sharesAt_3, r_M_sharesAt_5, r_M_sharesAt_6, r_M_sharesAt_9, r_M_sharesAt_10, r_M_sharesAt_11, r_M_sharesAt_14, r_M_sharesAt_15, r_M_sharesAt_16, r_M_sharesAt_17, r_M_sharesAt_20, r_M_sharesAt_23, r_M_sharesAt_24, r_M_sharesAt_27, r_M_sharesAt_28, r_M_sharesAt_29, r_M_sharesAt_32, r_M_sharesAt_33, r_M_sharesAt_34, r_M_sharesAt_35, r_M_sharesAt_36, r_M_sharesAt_39, r_M_sharesAt_40, r_M_sharesAt_43, r_M_sharesAt_44, r_M_sharesAt_45, r_M_sharesAt_48, r_M_sharesAt_49, r_M_sharesAt_50, r_M_sharesAt_51, r_M_sharesAt_54, r_M_sharesAt_55, r_M_sharesAt_56, r_M_sharesAt_57, r_M_sharesAt_60, r_M_sharesAt_63, r_M_sharesAt_64, Q293, w32_gb, w32i, tn_add, tn_mul, Int.toNat_natCast, Int.toNat_zero, Int.reduceLE, Int.reduceLT, Int.reduceEq, Int.reduceNe, gb_T, gb_F, Int.reduceToNat, eq_self, true_or, or_true, and_true, true_and, and_self, ↓ite_gb0, ↓ite_gbn, ↓if_pos, ↓if_neg, if_true, if_false, not_true_eq_false, not_false_eq_true, gb_ne0, gb_eq0]
        refine hq _ _ ?_ rfl
        simp only [List.cons.injEq, vI_inj, vR_inj, and_true, true_and]
        refine ⟨?_, by omega⟩
        simp only [brsh, gsm, e1, e2, and_self, and_true, true_and, and_false, false_and, if_true, if_false] <;> omega)
  · rw [r_M_sharesAt_4]
    simp (disch := first | assumption | exact gb_01 _ | omega) only [r_M_sharesAt_0, r_M_sharesAt_1, r_M_sharesAt_2, r_M_sharesAt_3, r_M_sharesAt_5, r_M_sharesAt_6, r_M_sharesAt_9, r_M_sharesAt_10, r_M_sharesAt_11, r_M_sharesAt_14, r_M_sharesAt_15, r_M_sharesAt_16, r_M_sharesAt_17, r_M_sharesAt_20, r_M_sharesAt_23, r_M_sharesAt_24, r_M_sharesAt_27, r_M_sharesAt_28, r_M_sharesAt_29, r_M_sharesAt_32, r_M_sharesAt_33, r_M_sharesAt_34, r_M_sharesAt_35, r_M_sharesAt_36, r_M_sharesAt_39, r_M_sharesAt_40, r_M_sharesAt_43, r_M_sharesAt_44, r_M_sharesAt_45, r_M_sharesAt_48, r_M_sharesAt_49, r_M_sharesAt_50, r_M_sharesAt_51, r_M_sharesAt_54, r_M_sharesAt_55, r_M_sharesAt_56, r_M_sharesAt_57, r_M_sharesAt_60, r_M_sharesAt_63, r_M_sharesAt_64, Q293, w32_gb, w32i, tn_add, tn_mul, Int.toNat_natCast, Int.toNat_zero, Int.reduceLE, Int.reduceLT, Int.reduceEq, Int.reduceNe, gb_T, gb_F, Int.reduceToNat, eq_self, true_or, or_true, and_true, true_and, and_self, ↓ite_gb0, ↓ite_gbn, ↓if_pos, ↓if_neg, if_true, if_false, not_true_eq_false, not_false_eq_true, gb_ne0, gb_eq0]
theorem r_M_bearsOf_0 : Wp L d k_M_bearsOf 0 [vR b0, l1, l2, l3, l4] [] σ Q ↔ Wp L d k_M_bearsOf 1 [vR b0, l1, l2, l3, l4] [vR b0] σ Q := wp_aload rfl rfl
theorem r_M_bearsOf_1 : Wp L d k_M_bearsOf 1 [l0, vI a1, l2, l3, l4] [vR c0] σ Q ↔ Wp L d k_M_bearsOf 2 [l0, vI a1, l2, l3, l4] [vI a1, vR c0] σ Q := wp_iload rfl rfl
theorem r_M_bearsOf_5 : Wp L d k_M_bearsOf 5 [l0, vI a1, l2, l3, l4] [vI s0] σ Q ↔ Wp L d k_M_bearsOf 6 [l0, vI a1, vI s0, l3, l4] [] σ Q := wp_istore (i := 2) (ls := [l0, vI a1, l2, l3, l4]) rfl rfl
theorem r_M_bearsOf_6 : Wp L d k_M_bearsOf 6 [l0, l1, l2, l3, l4] [] σ Q ↔ Wp L d k_M_bearsOf 8 [l0, l1, l2, l3, l4] [vI 100] σ Q := wp_push rfl
theorem r_M_bearsOf_8 : Wp L d k_M_bearsOf 8 [vR b0, l1, l2, l3, l4] [vI s0] σ Q ↔ Wp L d k_M_bearsOf 9 [vR b0, l1, l2, l3, l4] [vR b0, vI s0] σ Q := wp_aload rfl rfl
theorem r_M_bearsOf_9 (h : gK c1 = 12) : Wp L d k_M_bearsOf 9 [l0, l1, l2, l3, l4] [vR c1, vI s0] σ Q ↔ Wp L d k_M_bearsOf 12 [l0, l1, l2, l3, l4] [vR (gq c1 0), vI s0] σ Q := wp_getR (c := 3200) rfl rfl rfl rfl rfl h
theorem r_M_bearsOf_12 : Wp L d k_M_bearsOf 12 [l0, l1, vI a2, l3, l4] [vR c1, vI s0] σ Q ↔ Wp L d k_M_bearsOf 13 [l0, l1, vI a2, l3, l4] [vI a2, vR c1, vI s0] σ Q := wp_iload rfl rfl
theorem r_M_bearsOf_13 : Wp L d k_M_bearsOf 13 [l0, l1, l2, l3, l4] [vI s2, vR c1, vI s0] σ Q ↔ Wp L d k_M_bearsOf 14 [l0, l1, l2, l3, l4] [vI 5, vI s2, vR c1, vI s0] σ Q := wp_push rfl
theorem r_M_bearsOf_14 : Wp L d k_M_bearsOf 14 [l0, l1, l2, l3, l4] [vI s3, vI s2, vR c1, vI s0] σ Q ↔ Wp L d k_M_bearsOf 15 [l0, l1, l2, l3, l4] [vI (w32 (s2 + s3)), vR c1, vI s0] σ Q := wp_iadd rfl
theorem r_M_bearsOf_15 (h : gK c1 = 100) (hx : 0 ≤ s2 ∧ s2 < gN c1) : Wp L d k_M_bearsOf 15 [l0, l1, l2, l3, l4] [vI s2, vR c1, vI s0] σ Q ↔ Wp L d k_M_bearsOf 16 [l0, l1, l2, l3, l4] [vI (σ c1 s2.toNat), vI s0] σ Q := wp_iald rfl h hx
theorem r_M_bearsOf_16 : Wp L d k_M_bearsOf 16 [l0, l1, l2, l3, l4] [vI s1, vI s0] σ Q ↔ Wp L d k_M_bearsOf 17 [l0, l1, l2, l3, l4] [vI (w32 (s0 - s1))] σ Q := wp_isub rfl
theorem r_M_bearsOf_17 : Wp L d k_M_bearsOf 17 [l0, l1, vI a2, l3, l4] [vI s0] σ Q ↔ Wp L d k_M_bearsOf 18 [l0, l1, vI a2, vI s0, l4] [] σ Q := wp_istore (i := 3) (ls := [l0, l1, vI a2, l3, l4]) rfl rfl
theorem r_M_bearsOf_18 : Wp L d k_M_bearsOf 18 [l0, l1, l2, l3, l4] [] σ Q ↔ Wp L d k_M_bearsOf 20 [l0, l1, l2, l3, l4] [vI 100] σ Q := wp_push rfl
theorem r_M_bearsOf_20 : Wp L d k_M_bearsOf 20 [vR b0, l1, l2, l3, l4] [vI s0] σ Q ↔ Wp L d k_M_bearsOf 21 [vR b0, l1, l2, l3, l4] [vR b0, vI s0] σ Q := wp_aload rfl rfl
theorem r_M_bearsOf_21 (h : gK c1 = 12) : Wp L d k_M_bearsOf 21 [l0, l1, l2, l3, l4] [vR c1, vI s0] σ Q ↔ Wp L d k_M_bearsOf 24 [l0, l1, l2, l3, l4] [vR (gq c1 0), vI s0] σ Q := wp_getR (c := 3200) rfl rfl rfl rfl rfl h
theorem r_M_bearsOf_24 : Wp L d k_M_bearsOf 24 [l0, l1, vI a2, l3, l4] [vR c1, vI s0] σ Q ↔ Wp L d k_M_bearsOf 25 [l0, l1, vI a2, l3, l4] [vI a2, vR c1, vI s0] σ Q := wp_iload rfl rfl
theorem r_M_bearsOf_25 : Wp L d k_M_bearsOf 25 [l0, l1, l2, l3, l4] [vI s2, vR c1, vI s0] σ Q ↔ Wp L d k_M_bearsOf 26 [l0, l1, l2, l3, l4] [vI 4, vI s2, vR c1, vI s0] σ Q := wp_push rfl
theorem r_M_bearsOf_26 : Wp L d k_M_bearsOf 26 [l0, l1, l2, l3, l4] [vI s3, vI s2, vR c1, vI s0] σ Q ↔ Wp L d k_M_bearsOf 27 [l0, l1, l2, l3, l4] [vI (w32 (s2 + s3)), vR c1, vI s0] σ Q := wp_iadd rfl
theorem r_M_bearsOf_27 (h : gK c1 = 100) (hx : 0 ≤ s2 ∧ s2 < gN c1) : Wp L d k_M_bearsOf 27 [l0, l1, l2, l3, l4] [vI s2, vR c1, vI s0] σ Q ↔ Wp L d k_M_bearsOf 28 [l0, l1, l2, l3, l4] [vI (σ c1 s2.toNat), vI s0] σ Q := wp_iald rfl h hx
theorem r_M_bearsOf_28 : Wp L d k_M_bearsOf 28 [l0, l1, l2, l3, l4] [vI s1, vI s0] σ Q ↔ Wp L d k_M_bearsOf 29 [l0, l1, l2, l3, l4] [vI (w32 (s0 - s1))] σ Q := wp_isub rfl
theorem r_M_bearsOf_29 : Wp L d k_M_bearsOf 29 [l0, l1, l2, vI a3, l4] [vI s0] σ Q ↔ Wp L d k_M_bearsOf 31 [l0, l1, l2, vI a3, vI s0] [] σ Q := wp_istore (i := 4) (ls := [l0, l1, l2, vI a3, l4]) rfl rfl
theorem r_M_bearsOf_31 : Wp L d k_M_bearsOf 31 [vR b0, l1, l2, l3, l4] [] σ Q ↔ Wp L d k_M_bearsOf 32 [vR b0, l1, l2, l3, l4] [vR b0] σ Q := wp_aload rfl rfl
theorem r_M_bearsOf_32 (h : gK c0 = 12) : Wp L d k_M_bearsOf 32 [l0, l1, l2, l3, l4] [vR c0] σ Q ↔ Wp L d k_M_bearsOf 35 [l0, l1, l2, l3, l4] [vR (gq c0 0)] σ Q := wp_getR (c := 3200) rfl rfl rfl rfl rfl h
theorem r_M_bearsOf_35 : Wp L d k_M_bearsOf 35 [l0, l1, vI a2, l3, l4] [vR c0] σ Q ↔ Wp L d k_M_bearsOf 36 [l0, l1, vI a2, l3, l4] [vI a2, vR c0] σ Q := wp_iload rfl rfl
theorem r_M_bearsOf_36 (h : gK c0 = 100) (hx : 0 ≤ s1 ∧ s1 < gN c0) : Wp L d k_M_bearsOf 36 [l0, l1, l2, l3, l4] [vI s1, vR c0] σ Q ↔ Wp L d k_M_bearsOf 37 [l0, l1, l2, l3, l4] [vI (σ c0 s1.toNat)] σ Q := wp_iald rfl h hx
theorem r_M_bearsOf_37 : Wp L d k_M_bearsOf 37 [l0, l1, l2, l3, l4] [vI s0] σ Q ↔ (if s0 = 1 then Wp L d k_M_bearsOf 64 [l0, l1, l2, l3, l4] [] σ Q else if s0 = 2 then Wp L d k_M_bearsOf 79 [l0, l1, l2, l3, l4] [] σ Q else if s0 = 3 then Wp L d k_M_bearsOf 93 [l0, l1, l2, l3, l4] [] σ Q else Wp L d k_M_bearsOf 107 [l0, l1, l2, l3, l4] [] σ Q) := by
  by_cases h0 : s0 = 1
  · subst h0
    rw [if_pos rfl]
    exact Wp_s rfl rfl rfl rfl
  by_cases h1 : s0 = 2
  · subst h1
    rw [if_neg (by omega), if_pos rfl]
    exact Wp_s rfl rfl rfl rfl
  by_cases h2 : s0 = 3
  · subst h2
    rw [if_neg (by omega), if_neg (by omega), if_pos rfl]
    exact Wp_s rfl rfl rfl rfl
  rw [if_neg h0, if_neg h1, if_neg h2]
  have hout : s0 < 1 ∨ 3 < s0 := by omega
  exact Wp_s rfl rfl rfl (by simp only [gstep, vI, if_pos hout]; rfl)
theorem r_M_bearsOf_64 : Wp L d k_M_bearsOf 64 [vR b0, l1, l2, l3, l4] [] σ Q ↔ Wp L d k_M_bearsOf 65 [vR b0, l1, l2, l3, l4] [vR b0] σ Q := wp_aload rfl rfl
theorem r_M_bearsOf_65 (h : gK c0 = 12) : Wp L d k_M_bearsOf 65 [l0, l1, l2, l3, l4] [vR c0] σ Q ↔ Wp L d k_M_bearsOf 68 [l0, l1, l2, l3, l4] [vR (gq c0 0)] σ Q := wp_getR (c := 3200) rfl rfl rfl rfl rfl h
theorem r_M_bearsOf_68 : Wp L d k_M_bearsOf 68 [l0, l1, vI a2, l3, l4] [vR c0] σ Q ↔ Wp L d k_M_bearsOf 69 [l0, l1, vI a2, l3, l4] [vI a2, vR c0] σ Q := wp_iload rfl rfl
theorem r_M_bearsOf_69 : Wp L d k_M_bearsOf 69 [l0, l1, l2, l3, l4] [vI s1, vR c0] σ Q ↔ Wp L d k_M_bearsOf 70 [l0, l1, l2, l3, l4] [vI 2, vI s1, vR c0] σ Q := wp_push rfl
theorem r_M_bearsOf_70 : Wp L d k_M_bearsOf 70 [l0, l1, l2, l3, l4] [vI s2, vI s1, vR c0] σ Q ↔ Wp L d k_M_bearsOf 71 [l0, l1, l2, l3, l4] [vI (w32 (s1 + s2)), vR c0] σ Q := wp_iadd rfl
theorem r_M_bearsOf_71 (h : gK c0 = 100) (hx : 0 ≤ s1 ∧ s1 < gN c0) : Wp L d k_M_bearsOf 71 [l0, l1, l2, l3, l4] [vI s1, vR c0] σ Q ↔ Wp L d k_M_bearsOf 72 [l0, l1, l2, l3, l4] [vI (σ c0 s1.toNat)] σ Q := wp_iald rfl h hx
theorem r_M_bearsOf_72 : Wp L d k_M_bearsOf 72 [l0, l1, l2, l3, vI a4] [vI s0] σ Q ↔ Wp L d k_M_bearsOf 74 [l0, l1, l2, l3, vI a4] [vI a4, vI s0] σ Q := wp_iload rfl rfl
theorem r_M_bearsOf_74 : Wp L d k_M_bearsOf 74 [l0, l1, l2, l3, l4] [vI s1, vI s0] σ Q ↔ Wp L d k_M_bearsOf 75 [l0, l1, l2, l3, l4] [vI (w32 (s0 * s1))] σ Q := wp_imul rfl
theorem r_M_bearsOf_75 : Wp L d k_M_bearsOf 75 [l0, l1, l2, l3, l4] [vI s0] σ Q ↔ Wp L d k_M_bearsOf 77 [l0, l1, l2, l3, l4] [vI 100, vI s0] σ Q := wp_push rfl
theorem r_M_bearsOf_77 : Wp L d k_M_bearsOf 77 [l0, l1, l2, l3, l4] [vI s1, vI s0] σ Q ↔ Wp L d k_M_bearsOf 78 [l0, l1, l2, l3, l4] [vI (w32 (s0 * s1))] σ Q := wp_imul rfl
theorem r_M_bearsOf_78 : Wp L d k_M_bearsOf 78 [l0, l1, l2, l3, l4] [vI s0] σ Q ↔ Q (some (vI s0)) σ := wp_iret rfl
theorem r_M_bearsOf_79 : Wp L d k_M_bearsOf 79 [vR b0, l1, l2, l3, l4] [] σ Q ↔ Wp L d k_M_bearsOf 80 [vR b0, l1, l2, l3, l4] [vR b0] σ Q := wp_aload rfl rfl
theorem r_M_bearsOf_80 (h : gK c0 = 12) : Wp L d k_M_bearsOf 80 [l0, l1, l2, l3, l4] [vR c0] σ Q ↔ Wp L d k_M_bearsOf 83 [l0, l1, l2, l3, l4] [vR (gq c0 0)] σ Q := wp_getR (c := 3200) rfl rfl rfl rfl rfl h
theorem r_M_bearsOf_83 : Wp L d k_M_bearsOf 83 [l0, l1, vI a2, l3, l4] [vR c0] σ Q ↔ Wp L d k_M_bearsOf 84 [l0, l1, vI a2, l3, l4] [vI a2, vR c0] σ Q := wp_iload rfl rfl
theorem r_M_bearsOf_84 : Wp L d k_M_bearsOf 84 [l0, l1, l2, l3, l4] [vI s1, vR c0] σ Q ↔ Wp L d k_M_bearsOf 85 [l0, l1, l2, l3, l4] [vI 2, vI s1, vR c0] σ Q := wp_push rfl
theorem r_M_bearsOf_85 : Wp L d k_M_bearsOf 85 [l0, l1, l2, l3, l4] [vI s2, vI s1, vR c0] σ Q ↔ Wp L d k_M_bearsOf 86 [l0, l1, l2, l3, l4] [vI (w32 (s1 + s2)), vR c0] σ Q := wp_iadd rfl
theorem r_M_bearsOf_86 (h : gK c0 = 100) (hx : 0 ≤ s1 ∧ s1 < gN c0) : Wp L d k_M_bearsOf 86 [l0, l1, l2, l3, l4] [vI s1, vR c0] σ Q ↔ Wp L d k_M_bearsOf 87 [l0, l1, l2, l3, l4] [vI (σ c0 s1.toNat)] σ Q := wp_iald rfl h hx
theorem r_M_bearsOf_87 : Wp L d k_M_bearsOf 87 [l0, l1, l2, vI a3, l4] [vI s0] σ Q ↔ Wp L d k_M_bearsOf 88 [l0, l1, l2, vI a3, l4] [vI a3, vI s0] σ Q := wp_iload rfl rfl
theorem r_M_bearsOf_88 : Wp L d k_M_bearsOf 88 [l0, l1, l2, l3, l4] [vI s1, vI s0] σ Q ↔ Wp L d k_M_bearsOf 89 [l0, l1, l2, l3, l4] [vI (w32 (s0 * s1))] σ Q := wp_imul rfl
theorem r_M_bearsOf_89 : Wp L d k_M_bearsOf 89 [l0, l1, l2, l3, l4] [vI s0] σ Q ↔ Wp L d k_M_bearsOf 91 [l0, l1, l2, l3, l4] [vI 100, vI s0] σ Q := wp_push rfl
theorem r_M_bearsOf_91 : Wp L d k_M_bearsOf 91 [l0, l1, l2, l3, l4] [vI s1, vI s0] σ Q ↔ Wp L d k_M_bearsOf 92 [l0, l1, l2, l3, l4] [vI (w32 (s0 * s1))] σ Q := wp_imul rfl
theorem r_M_bearsOf_92 : Wp L d k_M_bearsOf 92 [l0, l1, l2, l3, l4] [vI s0] σ Q ↔ Q (some (vI s0)) σ := wp_iret rfl
theorem r_M_bearsOf_93 : Wp L d k_M_bearsOf 93 [vR b0, l1, l2, l3, l4] [] σ Q ↔ Wp L d k_M_bearsOf 94 [vR b0, l1, l2, l3, l4] [vR b0] σ Q := wp_aload rfl rfl
theorem r_M_bearsOf_94 (h : gK c0 = 12) : Wp L d k_M_bearsOf 94 [l0, l1, l2, l3, l4] [vR c0] σ Q ↔ Wp L d k_M_bearsOf 97 [l0, l1, l2, l3, l4] [vR (gq c0 0)] σ Q := wp_getR (c := 3200) rfl rfl rfl rfl rfl h
theorem r_M_bearsOf_97 : Wp L d k_M_bearsOf 97 [l0, l1, vI a2, l3, l4] [vR c0] σ Q ↔ Wp L d k_M_bearsOf 98 [l0, l1, vI a2, l3, l4] [vI a2, vR c0] σ Q := wp_iload rfl rfl
theorem r_M_bearsOf_98 : Wp L d k_M_bearsOf 98 [l0, l1, l2, l3, l4] [vI s1, vR c0] σ Q ↔ Wp L d k_M_bearsOf 99 [l0, l1, l2, l3, l4] [vI 2, vI s1, vR c0] σ Q := wp_push rfl
theorem r_M_bearsOf_99 : Wp L d k_M_bearsOf 99 [l0, l1, l2, l3, l4] [vI s2, vI s1, vR c0] σ Q ↔ Wp L d k_M_bearsOf 100 [l0, l1, l2, l3, l4] [vI (w32 (s1 + s2)), vR c0] σ Q := wp_iadd rfl
theorem r_M_bearsOf_100 (h : gK c0 = 100) (hx : 0 ≤ s1 ∧ s1 < gN c0) : Wp L d k_M_bearsOf 100 [l0, l1, l2, l3, l4] [vI s1, vR c0] σ Q ↔ Wp L d k_M_bearsOf 101 [l0, l1, l2, l3, l4] [vI (σ c0 s1.toNat)] σ Q := wp_iald rfl h hx
theorem r_M_bearsOf_101 : Wp L d k_M_bearsOf 101 [l0, l1, l2, vI a3, l4] [vI s0] σ Q ↔ Wp L d k_M_bearsOf 102 [l0, l1, l2, vI a3, l4] [vI a3, vI s0] σ Q := wp_iload rfl rfl
theorem r_M_bearsOf_102 : Wp L d k_M_bearsOf 102 [l0, l1, l2, l3, l4] [vI s1, vI s0] σ Q ↔ Wp L d k_M_bearsOf 103 [l0, l1, l2, l3, l4] [vI (w32 (s0 * s1))] σ Q := wp_imul rfl
theorem r_M_bearsOf_103 : Wp L d k_M_bearsOf 103 [l0, l1, l2, l3, vI a4] [vI s0] σ Q ↔ Wp L d k_M_bearsOf 105 [l0, l1, l2, l3, vI a4] [vI a4, vI s0] σ Q := wp_iload rfl rfl
theorem r_M_bearsOf_105 : Wp L d k_M_bearsOf 105 [l0, l1, l2, l3, l4] [vI s1, vI s0] σ Q ↔ Wp L d k_M_bearsOf 106 [l0, l1, l2, l3, l4] [vI (w32 (s0 * s1))] σ Q := wp_imul rfl
theorem r_M_bearsOf_106 : Wp L d k_M_bearsOf 106 [l0, l1, l2, l3, l4] [vI s0] σ Q ↔ Q (some (vI s0)) σ := wp_iret rfl
theorem r_M_bearsOf_107 : Wp L d k_M_bearsOf 107 [vR b0, l1, l2, l3, l4] [] σ Q ↔ Wp L d k_M_bearsOf 108 [vR b0, l1, l2, l3, l4] [vR b0] σ Q := wp_aload rfl rfl
theorem r_M_bearsOf_108 (h : gK c0 = 12) : Wp L d k_M_bearsOf 108 [l0, l1, l2, l3, l4] [vR c0] σ Q ↔ Wp L d k_M_bearsOf 111 [l0, l1, l2, l3, l4] [vR (gq c0 0)] σ Q := wp_getR (c := 3200) rfl rfl rfl rfl rfl h
theorem r_M_bearsOf_111 : Wp L d k_M_bearsOf 111 [l0, l1, vI a2, l3, l4] [vR c0] σ Q ↔ Wp L d k_M_bearsOf 112 [l0, l1, vI a2, l3, l4] [vI a2, vR c0] σ Q := wp_iload rfl rfl
theorem r_M_bearsOf_112 : Wp L d k_M_bearsOf 112 [l0, l1, l2, l3, l4] [vI s1, vR c0] σ Q ↔ Wp L d k_M_bearsOf 113 [l0, l1, l2, l3, l4] [vI 2, vI s1, vR c0] σ Q := wp_push rfl
theorem r_M_bearsOf_113 : Wp L d k_M_bearsOf 113 [l0, l1, l2, l3, l4] [vI s2, vI s1, vR c0] σ Q ↔ Wp L d k_M_bearsOf 114 [l0, l1, l2, l3, l4] [vI (w32 (s1 + s2)), vR c0] σ Q := wp_iadd rfl
theorem r_M_bearsOf_114 (h : gK c0 = 100) (hx : 0 ≤ s1 ∧ s1 < gN c0) : Wp L d k_M_bearsOf 114 [l0, l1, l2, l3, l4] [vI s1, vR c0] σ Q ↔ Wp L d k_M_bearsOf 115 [l0, l1, l2, l3, l4] [vI (σ c0 s1.toNat)] σ Q := wp_iald rfl h hx
theorem r_M_bearsOf_115 : Wp L d k_M_bearsOf 115 [l0, l1, l2, l3, l4] [vI s0] σ Q ↔ Wp L d k_M_bearsOf 118 [l0, l1, l2, l3, l4] [vI 10000, vI s0] σ Q := wp_push rfl
theorem r_M_bearsOf_118 : Wp L d k_M_bearsOf 118 [l0, l1, l2, l3, l4] [vI s1, vI s0] σ Q ↔ Wp L d k_M_bearsOf 119 [l0, l1, l2, l3, l4] [vI (w32 (s0 * s1))] σ Q := wp_imul rfl
theorem r_M_bearsOf_119 : Wp L d k_M_bearsOf 119 [l0, l1, l2, l3, l4] [vI s0] σ Q ↔ Q (some (vI s0)) σ := wp_iret rfl
theorem r_M_bearsOf_2 : Wp L (d + 1) k_M_bearsOf 2 [l0, l1, l2, l3, l4] [vI s1, vR 293] σ Q ↔ Wp L (d + 1) k_M_bearsOf 5 [l0, l1, l2, l3, l4] [vI (w32 (120 + w32 (12 * s1)))] σ Q := wp_callR (d := d + 0) (as := [vR 293, vI s1]) (rest := []) rfl rfl rfl rfl rfl rfl rfl (grecv_k (by rw [gK_293]) rfl) (sp_M_partAt)
theorem sp_M_bearsOf (hw : WB (σ 294)) (h : 0 ≤ a1 ∧ a1 < σ 294 1) : Run L (d + 1) 223 [vR 293, vI a1] σ (some (vI (brb (σ 294) a1.toNat))) σ := by
  refine Run_of (C' := k_M_bearsOf) rfl ?_
  show Wp L (d + 1) k_M_bearsOf 0 [vR 293, vI a1, vU, vU, vU] [] σ _
  obtain ⟨K293, Q293, K294, N294⟩ := litM
  have w1 := hw.1
  have w2 := hw.2.1
  have w := WBp hw (p := a1.toNat) (by omega)
  have m1 := mul_bd (a := σ 294 (120 + 12 * a1.toNat + 2)) (b := 100 - σ 294 (120 + 12 * a1.toNat + 4)) (A := 999) (B := 100) (by omega) (by omega)
  have m2 := mul_bd (a := σ 294 (120 + 12 * a1.toNat + 2)) (b := 100 - σ 294 (120 + 12 * a1.toNat + 5)) (A := 999) (B := 100) (by omega) (by omega)
  have m3 := mul_bd (a := σ 294 (120 + 12 * a1.toNat + 2) * (100 - σ 294 (120 + 12 * a1.toNat + 5))) (b := 100 - σ 294 (120 + 12 * a1.toNat + 4)) (A := 99900) (B := 100) (by omega) (by omega)
  unfold brb brbe
  by_cases e1 : σ 294 (120 + 12 * a1.toNat) = 1
  · simp (disch := first | assumption | exact gb_01 _ | omega) only [r_M_bearsOf_0, r_M_bearsOf_1, r_M_bearsOf_2, r_M_bearsOf_5, r_M_bearsOf_6, r_M_bearsOf_8, r_M_bearsOf_9, r_M_bearsOf_12, r_M_bearsOf_13, r_M_bearsOf_14, r_M_bearsOf_15, r_M_bearsOf_16, r_M_bearsOf_17, r_M_bearsOf_18, r_M_bearsOf_20, r_M_bearsOf_21, r_M_bearsOf_24, r_M_bearsOf_25, r_M_bearsOf_26, r_M_bearsOf_27, r_M_bearsOf_28, r_M_bearsOf_29, r_M_bearsOf_31, r_M_bearsOf_32, r_M_bearsOf_35, r_M_bearsOf_36, r_M_bearsOf_37, r_M_bearsOf_64, r_M_bearsOf_65, r_M_bearsOf_68, r_M_bearsOf_69, r_M_bearsOf_70, r_M_bearsOf_71, r_M_bearsOf_72, r_M_bearsOf_74, r_M_bearsOf_75, r_M_bearsOf_77, r_M_bearsOf_78, r_M_bearsOf_79, r_M_bearsOf_80, r_M_bearsOf_83, r_M_bearsOf_84, r_M_bearsOf_85, r_M_bearsOf_86, r_M_bearsOf_87, r_M_bearsOf_88, r_M_bearsOf_89, r_M_bearsOf_91, r_M_bearsOf_92, r_M_bearsOf_93, r_M_bearsOf_94, r_M_bearsOf_97, r_M_bearsOf_98, r_M_bearsOf_99, r_M_bearsOf_100, r_M_bearsOf_101, r_M_bearsOf_102, r_M_bearsOf_103, r_M_bearsOf_105, r_M_bearsOf_106, r_M_bearsOf_107, r_M_bearsOf_108, r_M_bearsOf_111, r_M_bearsOf_112, r_M_bearsOf_113, r_M_bearsOf_114, r_M_bearsOf_115, r_M_bearsOf_118, r_M_bearsOf_119, Q293, w32_gb, w32i, tn_add, tn_mul, Int.toNat_natCast, Int.toNat_zero, Int.reduceLE, Int.reduceLT, Int.reduceEq, Int.reduceNe, gb_T, gb_F, Int.reduceToNat, eq_self, true_or, or_true, and_true, true_and, and_self, ↓ite_gb0, ↓ite_gbn, ↓if_pos, ↓if_neg, if_true, if_false, not_true_eq_false, not_false_eq_true, gb_ne0, gb_eq0]
  · by_cases e2 : σ 294 (120 + 12 * a1.toNat) = 2
    · simp (disch := first | assumption | exact gb_01 _ | omega) only [r_M_bearsOf_0, r_M_bearsOf_1, r_M_bearsOf_2, r_M_bearsOf_5, r_M_bearsOf_6, r_M_bearsOf_8, r_M_bearsOf_9, r_M_bearsOf_12, r_M_bearsOf_13, r_M_bearsOf_14, r_M_bearsOf_15, r_M_bearsOf_16, r_M_bearsOf_17, r_M_bearsOf_18, r_M_bearsOf_20, r_M_bearsOf_21, r_M_bearsOf_24, r_M_bearsOf_25, r_M_bearsOf_26, r_M_bearsOf_27, r_M_bearsOf_28, r_M_bearsOf_29, r_M_bearsOf_31, r_M_bearsOf_32, r_M_bearsOf_35, r_M_bearsOf_36, r_M_bearsOf_37, r_M_bearsOf_64, r_M_bearsOf_65, r_M_bearsOf_68, r_M_bearsOf_69, r_M_bearsOf_70, r_M_bearsOf_71, r_M_bearsOf_72, r_M_bearsOf_74, r_M_bearsOf_75, r_M_bearsOf_77, r_M_bearsOf_78, r_M_bearsOf_79, r_M_bearsOf_80, r_M_bearsOf_83, r_M_bearsOf_84, r_M_bearsOf_85, r_M_bearsOf_86, r_M_bearsOf_87, r_M_bearsOf_88, r_M_bearsOf_89, r_M_bearsOf_91, r_M_bearsOf_92, r_M_bearsOf_93, r_M_bearsOf_94, r_M_bearsOf_97, r_M_bearsOf_98, r_M_bearsOf_99, r_M_bearsOf_100, r_M_bearsOf_101, r_M_bearsOf_102, r_M_bearsOf_103, r_M_bearsOf_105, r_M_bearsOf_106, r_M_bearsOf_107, r_M_bearsOf_108, r_M_bearsOf_111, r_M_bearsOf_112, r_M_bearsOf_113, r_M_bearsOf_114, r_M_bearsOf_115, r_M_bearsOf_118, r_M_bearsOf_119, Q293, w32_gb, w32i, tn_add, tn_mul, Int.toNat_natCast, Int.toNat_zero, Int.reduceLE, Int.reduceLT, Int.reduceEq, Int.reduceNe, gb_T, gb_F, Int.reduceToNat, eq_self, true_or, or_true, and_true, true_and, and_self, ↓ite_gb0, ↓ite_gbn, ↓if_pos, ↓if_neg, if_true, if_false, not_true_eq_false, not_false_eq_true, gb_ne0, gb_eq0]
    · by_cases e3 : σ 294 (120 + 12 * a1.toNat) = 3
      · simp (disch := first | assumption | exact gb_01 _ | omega) only [r_M_bearsOf_0, r_M_bearsOf_1, r_M_bearsOf_2, r_M_bearsOf_5, r_M_bearsOf_6, r_M_bearsOf_8, r_M_bearsOf_9, r_M_bearsOf_12, r_M_bearsOf_13, r_M_bearsOf_14, r_M_bearsOf_15, r_M_bearsOf_16, r_M_bearsOf_17, r_M_bearsOf_18, r_M_bearsOf_20, r_M_bearsOf_21, r_M_bearsOf_24, r_M_bearsOf_25, r_M_bearsOf_26, r_M_bearsOf_27, r_M_bearsOf_28, r_M_bearsOf_29, r_M_bearsOf_31, r_M_bearsOf_32, r_M_bearsOf_35, r_M_bearsOf_36, r_M_bearsOf_37, r_M_bearsOf_64, r_M_bearsOf_65, r_M_bearsOf_68, r_M_bearsOf_69, r_M_bearsOf_70, r_M_bearsOf_71, r_M_bearsOf_72, r_M_bearsOf_74, r_M_bearsOf_75, r_M_bearsOf_77, r_M_bearsOf_78, r_M_bearsOf_79, r_M_bearsOf_80, r_M_bearsOf_83, r_M_bearsOf_84, r_M_bearsOf_85, r_M_bearsOf_86, r_M_bearsOf_87, r_M_bearsOf_88, r_M_bearsOf_89, r_M_bearsOf_91, r_M_bearsOf_92, r_M_bearsOf_93, r_M_bearsOf_94, r_M_bearsOf_97, r_M_bearsOf_98, r_M_bearsOf_99, r_M_bearsOf_100, r_M_bearsOf_101, r_M_bearsOf_102, r_M_bearsOf_103, r_M_bearsOf_105, r_M_bearsOf_106, r_M_bearsOf_107, r_M_bearsOf_108, r_M_bearsOf_111, r_M_bearsOf_112, r_M_bearsOf_113, r_M_bearsOf_114, r_M_bearsOf_115, r_M_bearsOf_118, r_M_bearsOf_119, Q293, w32_gb, w32i, tn_add, tn_mul, Int.toNat_natCast, Int.toNat_zero, Int.reduceLE, Int.reduceLT, Int.reduceEq, Int.reduceNe, gb_T, gb_F, Int.reduceToNat, eq_self, true_or, or_true, and_true, true_and, and_self, ↓ite_gb0, ↓ite_gbn, ↓if_pos, ↓if_neg, if_true, if_false, not_true_eq_false, not_false_eq_true, gb_ne0, gb_eq0]
      · simp (disch := first | assumption | exact gb_01 _ | omega) only [r_M_bearsOf_0, r_M_bearsOf_1, r_M_bearsOf_2, r_M_bearsOf_5, r_M_bearsOf_6, r_M_bearsOf_8, r_M_bearsOf_9, r_M_bearsOf_12, r_M_bearsOf_13, r_M_bearsOf_14, r_M_bearsOf_15, r_M_bearsOf_16, r_M_bearsOf_17, r_M_bearsOf_18, r_M_bearsOf_20, r_M_bearsOf_21, r_M_bearsOf_24, r_M_bearsOf_25, r_M_bearsOf_26, r_M_bearsOf_27, r_M_bearsOf_28, r_M_bearsOf_29, r_M_bearsOf_31, r_M_bearsOf_32, r_M_bearsOf_35, r_M_bearsOf_36, r_M_bearsOf_37, r_M_bearsOf_64, r_M_bearsOf_65, r_M_bearsOf_68, r_M_bearsOf_69, r_M_bearsOf_70, r_M_bearsOf_71, r_M_bearsOf_72, r_M_bearsOf_74, r_M_bearsOf_75, r_M_bearsOf_77, r_M_bearsOf_78, r_M_bearsOf_79, r_M_bearsOf_80, r_M_bearsOf_83, r_M_bearsOf_84, r_M_bearsOf_85, r_M_bearsOf_86, r_M_bearsOf_87, r_M_bearsOf_88, r_M_bearsOf_89, r_M_bearsOf_91, r_M_bearsOf_92, r_M_bearsOf_93, r_M_bearsOf_94, r_M_bearsOf_97, r_M_bearsOf_98, r_M_bearsOf_99, r_M_bearsOf_100, r_M_bearsOf_101, r_M_bearsOf_102, r_M_bearsOf_103, r_M_bearsOf_105, r_M_bearsOf_106, r_M_bearsOf_107, r_M_bearsOf_108, r_M_bearsOf_111, r_M_bearsOf_112, r_M_bearsOf_113, r_M_bearsOf_114, r_M_bearsOf_115, r_M_bearsOf_118, r_M_bearsOf_119, Q293, w32_gb, w32i, tn_add, tn_mul, Int.toNat_natCast, Int.toNat_zero, Int.reduceLE, Int.reduceLT, Int.reduceEq, Int.reduceNe, gb_T, gb_F, Int.reduceToNat, eq_self, true_or, or_true, and_true, true_and, and_self, ↓ite_gb0, ↓ite_gbn, ↓if_pos, ↓if_neg, if_true, if_false, not_true_eq_false, not_false_eq_true, gb_ne0, gb_eq0]
theorem r_B_pullAt_0 : Wp L d k_B_pullAt 0 [vR b0, l1, l2] [] σ Q ↔ Wp L d k_B_pullAt 1 [vR b0, l1, l2] [vR b0] σ Q := wp_aload rfl rfl
theorem r_B_pullAt_1 : Wp L d k_B_pullAt 1 [l0, l1, vI a2] [vR c0] σ Q ↔ Wp L d k_B_pullAt 2 [l0, l1, vI a2] [vI a2, vR c0] σ Q := wp_iload rfl rfl
theorem c_B_pullAt_2 (hR : Run L d 97 [vR c0, vI s1] σ r σ1) (h : gK c0 = 1) : Wp L (d + 1) k_B_pullAt 2 [l0, l1, l2] [vI s1, vR c0] σ Q ↔ Wp L (d + 1) k_B_pullAt 5 [l0, l1, l2] (r.toList ++ []) σ1 Q := wp_callR (as := [vR c0, vI s1]) (rest := []) rfl rfl rfl rfl rfl rfl rfl (grecv_k (by rw [h]) rfl) hR
theorem r_B_pullAt_5 : Wp L d k_B_pullAt 5 [vR b0, l1, l2] [] σ Q ↔ Wp L d k_B_pullAt 6 [vR b0, l1, l2] [vR b0] σ Q := wp_aload rfl rfl
theorem r_B_pullAt_6 (h : gK c0 = 1) : Wp L d k_B_pullAt 6 [l0, l1, l2] [vR c0] σ Q ↔ Wp L d k_B_pullAt 9 [l0, l1, l2] [vR (gq c0 7)] σ Q := wp_getR (c := 391) rfl rfl rfl rfl rfl h
theorem r_B_pullAt_9 : Wp L d k_B_pullAt 9 [l0, vI a1, l2] [vR c0] σ Q ↔ Wp L d k_B_pullAt 10 [l0, vI a1, l2] [vI a1, vR c0] σ Q := wp_iload rfl rfl
theorem r_B_pullAt_10 (h : gK c0 = 100) (hx : 0 ≤ s1 ∧ s1 < gN c0) : Wp L d k_B_pullAt 10 [l0, l1, l2] [vI s1, vR c0] σ Q ↔ Wp L d k_B_pullAt 11 [l0, l1, l2] [vI (σ c0 s1.toNat)] σ Q := wp_iald rfl h hx
theorem r_B_pullAt_11 : Wp L d k_B_pullAt 11 [l0, l1, l2] [vI s0] σ Q ↔ Q (some (vI s0)) σ := wp_iret rfl
theorem sp_B_pullAt {b : Nat} {f : Nat → Int}  (hB : BR b) (hw : WB f) (hc : CB b f σ) (h1 : 0 ≤ a1 ∧ a1 ≤ f 0) (h2 : 0 ≤ a2 ∧ a2 ≤ 99) : ∃ σ', Run L (d + 2) 96 [vR b, vI a1, vI a2] σ (some (vI (brpull f a2 a1.toNat))) σ' ∧ Agr σ σ' (ZSc b) := by
  refine Run_ex (C' := k_B_pullAt) rfl ?_
  show Wp L (d + 2) k_B_pullAt 0 [vR b, vI a1, vI a2] [] σ _
  obtain ⟨τ, hR, hd, hA⟩ := sp_B_weighPiers (L := L) (d := d) hB hw hc h2
  obtain ⟨⟨K0, q0, q1, q2, q3, q4, q5, q6, q7⟩, ⟨K1, K2, K3, K4, K5, K6, K7, K8⟩, ⟨N1, N2, N3, N4, N5, N6, N7, N8⟩, QP, KP⟩ := hB
  have w1 := hw.1
  have z := (hd a1.toNat (by omega)).2.2.2
  simp (disch := first | assumption | exact gb_01 _ | omega) only [r_B_pullAt_0, r_B_pullAt_1, r_B_pullAt_5, r_B_pullAt_6, r_B_pullAt_9, r_B_pullAt_10, r_B_pullAt_11, c_B_pullAt_2 hR, Option.toList, List.singleton_append, List.cons_append, List.nil_append, List.append_nil, q0, q1, q2, q3, q4, q5, q6, q7, QP, z, w32_gb, w32i, tn_add, tn_mul, Int.toNat_natCast, Int.toNat_zero, Int.reduceLE, Int.reduceLT, Int.reduceEq, Int.reduceNe, gb_T, gb_F, Int.reduceToNat, eq_self, true_or, or_true, and_true, true_and, and_self, ↓ite_gb0, ↓ite_gbn, ↓if_pos, ↓if_neg, if_true, if_false, not_true_eq_false, not_false_eq_true, gb_ne0, gb_eq0]
  exact hA
def brld (f : Nat → Int) (p : Nat) (w : Int) : Int := if brsh f (f (120 + 12 * p + 1)) (f 1).toNat = 0 then 0 else (brpull f w (f (120 + 12 * p + 1)).toNat * f (120 + 12 * p + 3)).tdiv (brsh f (f (120 + 12 * p + 1)) (f 1).toNat)
theorem tdiv_bd2 {a b : Int} (ha : 0 ≤ a) (hb : 0 ≤ b) : 0 ≤ a.tdiv b ∧ a.tdiv b ≤ a := by
  by_cases e : b = 0
  · subst e
    rw [Int.tdiv_zero]
    omega
  · exact tdiv_bd ha (by omega)
theorem r_B_loadOn_0 : Wp L d k_B_loadOn 0 [vR b0, l1, l2, l3] [] σ Q ↔ Wp L d k_B_loadOn 1 [vR b0, l1, l2, l3] [vR b0] σ Q := wp_aload rfl rfl
theorem r_B_loadOn_1 : Wp L d k_B_loadOn 1 [l0, l1, vI a2, l3] [vR c0] σ Q ↔ Wp L d k_B_loadOn 2 [l0, l1, vI a2, l3] [vI a2, vR c0] σ Q := wp_iload rfl rfl
theorem c_B_loadOn_2 (hR : Run L d 97 [vR c0, vI s1] σ r σ1) (h : gK c0 = 1) : Wp L (d + 1) k_B_loadOn 2 [l0, l1, l2, l3] [vI s1, vR c0] σ Q ↔ Wp L (d + 1) k_B_loadOn 5 [l0, l1, l2, l3] (r.toList ++ []) σ1 Q := wp_callR (as := [vR c0, vI s1]) (rest := []) rfl rfl rfl rfl rfl rfl rfl (grecv_k (by rw [h]) rfl) hR
theorem r_B_loadOn_5 : Wp L d k_B_loadOn 5 [vR b0, l1, l2, l3] [] σ Q ↔ Wp L d k_B_loadOn 6 [vR b0, l1, l2, l3] [vR b0] σ Q := wp_aload rfl rfl
theorem r_B_loadOn_6 (h : gK c0 = 1) : Wp L d k_B_loadOn 6 [l0, l1, l2, l3] [vR c0] σ Q ↔ Wp L d k_B_loadOn 9 [l0, l1, l2, l3] [vR (gq c0 6)] σ Q := wp_getR (c := 390) rfl rfl rfl rfl rfl h
theorem r_B_loadOn_9 : Wp L d k_B_loadOn 9 [l0, vR b1, l2, l3] [vR c0] σ Q ↔ Wp L d k_B_loadOn 10 [l0, vR b1, l2, l3] [vR b1, vR c0] σ Q := wp_aload rfl rfl
theorem r_B_loadOn_10 (h : gK c1 = 4) : Wp L d k_B_loadOn 10 [l0, l1, l2, l3] [vR c1, vR c0] σ Q ↔ Wp L d k_B_loadOn 13 [l0, l1, l2, l3] [vI (σ c1 1), vR c0] σ Q := wp_getI (c := 1025) rfl rfl rfl rfl h
theorem r_B_loadOn_13 (h : gK c0 = 100) (hx : 0 ≤ s1 ∧ s1 < gN c0) : Wp L d k_B_loadOn 13 [l0, l1, l2, l3] [vI s1, vR c0] σ Q ↔ Wp L d k_B_loadOn 14 [l0, l1, l2, l3] [vI (σ c0 s1.toNat)] σ Q := wp_iald rfl h hx
theorem r_B_loadOn_14 : Wp L d k_B_loadOn 14 [l0, l1, vI a2, l3] [vI s0] σ Q ↔ Wp L d k_B_loadOn 15 [l0, l1, vI a2, vI s0] [] σ Q := wp_istore (i := 3) (ls := [l0, l1, vI a2, l3]) rfl rfl
theorem r_B_loadOn_15 : Wp L d k_B_loadOn 15 [l0, l1, l2, vI a3] [] σ Q ↔ Wp L d k_B_loadOn 16 [l0, l1, l2, vI a3] [vI a3] σ Q := wp_iload rfl rfl
theorem r_B_loadOn_16 : Wp L d k_B_loadOn 16 [l0, l1, l2, l3] [vI s0] σ Q ↔ (if s0 ≠ 0 then Wp L d k_B_loadOn 23 [l0, l1, l2, l3] [] σ Q else Wp L d k_B_loadOn 19 [l0, l1, l2, l3] [] σ Q) := wp_if_ne rfl
theorem r_B_loadOn_19 : Wp L d k_B_loadOn 19 [l0, l1, l2, l3] [] σ Q ↔ Wp L d k_B_loadOn 20 [l0, l1, l2, l3] [vI 0] σ Q := wp_push rfl
theorem r_B_loadOn_20 : Wp L d k_B_loadOn 20 [l0, l1, l2, l3] [vI s0] σ Q ↔ Wp L d k_B_loadOn 39 [l0, l1, l2, l3] [vI s0] σ Q := wp_goto rfl
theorem r_B_loadOn_23 : Wp L d k_B_loadOn 23 [vR b0, l1, l2, l3] [] σ Q ↔ Wp L d k_B_loadOn 24 [vR b0, l1, l2, l3] [vR b0] σ Q := wp_aload rfl rfl
theorem r_B_loadOn_24 (h : gK c0 = 1) : Wp L d k_B_loadOn 24 [l0, l1, l2, l3] [vR c0] σ Q ↔ Wp L d k_B_loadOn 27 [l0, l1, l2, l3] [vR (gq c0 7)] σ Q := wp_getR (c := 391) rfl rfl rfl rfl rfl h
theorem r_B_loadOn_27 : Wp L d k_B_loadOn 27 [l0, vR b1, l2, l3] [vR c0] σ Q ↔ Wp L d k_B_loadOn 28 [l0, vR b1, l2, l3] [vR b1, vR c0] σ Q := wp_aload rfl rfl
theorem r_B_loadOn_28 (h : gK c1 = 4) : Wp L d k_B_loadOn 28 [l0, l1, l2, l3] [vR c1, vR c0] σ Q ↔ Wp L d k_B_loadOn 31 [l0, l1, l2, l3] [vI (σ c1 1), vR c0] σ Q := wp_getI (c := 1025) rfl rfl rfl rfl h
theorem r_B_loadOn_31 (h : gK c0 = 100) (hx : 0 ≤ s1 ∧ s1 < gN c0) : Wp L d k_B_loadOn 31 [l0, l1, l2, l3] [vI s1, vR c0] σ Q ↔ Wp L d k_B_loadOn 32 [l0, l1, l2, l3] [vI (σ c0 s1.toNat)] σ Q := wp_iald rfl h hx
theorem r_B_loadOn_32 : Wp L d k_B_loadOn 32 [l0, vR b1, l2, l3] [vI s0] σ Q ↔ Wp L d k_B_loadOn 33 [l0, vR b1, l2, l3] [vR b1, vI s0] σ Q := wp_aload rfl rfl
theorem r_B_loadOn_33 (h : gK c1 = 4) : Wp L d k_B_loadOn 33 [l0, l1, l2, l3] [vR c1, vI s0] σ Q ↔ Wp L d k_B_loadOn 36 [l0, l1, l2, l3] [vI (σ c1 3), vI s0] σ Q := wp_getI (c := 1027) rfl rfl rfl rfl h
theorem r_B_loadOn_36 : Wp L d k_B_loadOn 36 [l0, l1, l2, l3] [vI s1, vI s0] σ Q ↔ Wp L d k_B_loadOn 37 [l0, l1, l2, l3] [vI (w32 (s0 * s1))] σ Q := wp_imul rfl
theorem r_B_loadOn_37 : Wp L d k_B_loadOn 37 [l0, l1, l2, vI a3] [vI s0] σ Q ↔ Wp L d k_B_loadOn 38 [l0, l1, l2, vI a3] [vI a3, vI s0] σ Q := wp_iload rfl rfl
theorem r_B_loadOn_38 (h : s1 ≠ 0) : Wp L d k_B_loadOn 38 [l0, l1, l2, l3] [vI s1, vI s0] σ Q ↔ Wp L d k_B_loadOn 39 [l0, l1, l2, l3] [vI (w32 (s0.tdiv s1))] σ Q := wp_idiv rfl h
theorem r_B_loadOn_39 : Wp L d k_B_loadOn 39 [l0, l1, l2, l3] [vI s0] σ Q ↔ Q (some (vI s0)) σ := wp_iret rfl
theorem sp_B_loadOn {b : Nat} {f : Nat → Int} {p : Nat}  (hB : BR b) (hw : WB f) (hc : CB b f σ) (hp : (p : Int) < f 1) (h2 : 0 ≤ a2 ∧ a2 ≤ 99) : ∃ σ', Run L (d + 2) 100 [vR b, vR (b + 9 + p), vI a2] σ (some (vI (brld f p a2))) σ' ∧ Agr σ σ' (ZSc b) := by
  refine Run_ex (C' := k_B_loadOn) rfl ?_
  show Wp L (d + 2) k_B_loadOn 0 [vR b, vR (b + 9 + p), vI a2, vU] [] σ _
  obtain ⟨τ, hR, hd, hA⟩ := sp_B_weighPiers (L := L) (d := d) hB hw hc h2
  obtain ⟨⟨K0, q0, q1, q2, q3, q4, q5, q6, q7⟩, ⟨K1, K2, K3, K4, K5, K6, K7, K8⟩, ⟨N1, N2, N3, N4, N5, N6, N7, N8⟩, QP, KP⟩ := hB
  have w1 := hw.1
  have w2 := hw.2.1
  have hcτ := CB_sc hw hc hA
  have kp := KP p (by omega)
  have q := CBp hcτ hp
  have w := WBp hw hp
  have z := hd (f (120 + 12 * p + 1)).toNat (by omega)
  rw [show (((f (120 + 12 * p + 1)).toNat : Nat) : Int) = f (120 + 12 * p + 1) by omega] at z
  have b1 := brpull_bd hw h2 (f (120 + 12 * p + 1)).toNat
  have b2 := brsh_bd hw (f (120 + 12 * p + 1)) (f 1).toNat (by omega)
  have m := mul_bd (a := brpull f a2 (f (120 + 12 * p + 1)).toNat) (b := f (120 + 12 * p + 3)) b1 (B := 9) (by omega)
  have b3 := tdiv_bd2 m.1 b2.1
  unfold brld
  by_cases e : brsh f (f (120 + 12 * p + 1)) (f 1).toNat = 0
  · rw [if_pos e]
    simp (disch := first | assumption | exact gb_01 _ | omega) only [r_B_loadOn_0, r_B_loadOn_1, r_B_loadOn_5, r_B_loadOn_6, r_B_loadOn_9, r_B_loadOn_10, r_B_loadOn_13, r_B_loadOn_14, r_B_loadOn_15, r_B_loadOn_16, r_B_loadOn_19, r_B_loadOn_20, r_B_loadOn_23, r_B_loadOn_24, r_B_loadOn_27, r_B_loadOn_28, r_B_loadOn_31, r_B_loadOn_32, r_B_loadOn_33, r_B_loadOn_36, r_B_loadOn_37, r_B_loadOn_38, r_B_loadOn_39, c_B_loadOn_2 hR, Option.toList, List.singleton_append, List.cons_append, List.nil_append, List.append_nil, q0, q1, q2, q3, q4, q5, q6, q7, QP, q, z, w32_gb, w32i, tn_add, tn_mul, Int.toNat_natCast, Int.toNat_zero, Int.reduceLE, Int.reduceLT, Int.reduceEq, Int.reduceNe, gb_T, gb_F, Int.reduceToNat, eq_self, true_or, or_true, and_true, true_and, and_self, ↓ite_gb0, ↓ite_gbn, ↓if_pos, ↓if_neg, if_true, if_false, not_true_eq_false, not_false_eq_true, gb_ne0, gb_eq0]
    exact hA
  · rw [if_neg e]
    simp (disch := first | assumption | exact gb_01 _ | omega) only [r_B_loadOn_0, r_B_loadOn_1, r_B_loadOn_5, r_B_loadOn_6, r_B_loadOn_9, r_B_loadOn_10, r_B_loadOn_13, r_B_loadOn_14, r_B_loadOn_15, r_B_loadOn_16, r_B_loadOn_19, r_B_loadOn_20, r_B_loadOn_23, r_B_loadOn_24, r_B_loadOn_27, r_B_loadOn_28, r_B_loadOn_31, r_B_loadOn_32, r_B_loadOn_33, r_B_loadOn_36, r_B_loadOn_37, r_B_loadOn_38, r_B_loadOn_39, c_B_loadOn_2 hR, Option.toList, List.singleton_append, List.cons_append, List.nil_append, List.append_nil, q0, q1, q2, q3, q4, q5, q6, q7, QP, q, z, w32_gb, w32i, tn_add, tn_mul, Int.toNat_natCast, Int.toNat_zero, Int.reduceLE, Int.reduceLT, Int.reduceEq, Int.reduceNe, gb_T, gb_F, Int.reduceToNat, eq_self, true_or, or_true, and_true, true_and, and_self, ↓ite_gb0, ↓ite_gbn, ↓if_pos, ↓if_neg, if_true, if_false, not_true_eq_false, not_false_eq_true, gb_ne0, gb_eq0]
    exact hA
theorem r_X_pull_0 : Wp L d k_X_pull 0 [vR b0, l1, l2] [] σ Q ↔ Wp L d k_X_pull 1 [vR b0, l1, l2] [vR b0] σ Q := wp_aload rfl rfl
theorem r_X_pull_1 : Wp L d k_X_pull 1 [l0, vI a1, l2] [vR c0] σ Q ↔ Wp L d k_X_pull 2 [l0, vI a1, l2] [vI a1, vR c0] σ Q := wp_iload rfl rfl
theorem r_X_pull_5 : Wp L d k_X_pull 5 [l0, l1, l2] [vI s0] σ Q ↔ (if s0 = 0 then Wp L d k_X_pull 27 [l0, l1, l2] [] σ Q else Wp L d k_X_pull 8 [l0, l1, l2] [] σ Q) := wp_if_eq rfl
theorem r_X_pull_8 : Wp L d k_X_pull 8 [l0, l1, vI a2] [] σ Q ↔ Wp L d k_X_pull 9 [l0, l1, vI a2] [vI a2] σ Q := wp_iload rfl rfl
theorem r_X_pull_12 : Wp L d k_X_pull 12 [l0, l1, l2] [vI s0] σ Q ↔ (if s0 = 0 then Wp L d k_X_pull 27 [l0, l1, l2] [] σ Q else Wp L d k_X_pull 15 [l0, l1, l2] [] σ Q) := wp_if_eq rfl
theorem r_X_pull_15 : Wp L d k_X_pull 15 [vR b0, l1, l2] [] σ Q ↔ Wp L d k_X_pull 16 [vR b0, l1, l2] [vR b0] σ Q := wp_aload rfl rfl
theorem r_X_pull_16 (h : gK c0 = 0) : Wp L d k_X_pull 16 [l0, l1, l2] [vR c0] σ Q ↔ Wp L d k_X_pull 19 [l0, l1, l2] [vR (gq c0 1)] σ Q := wp_getR (c := 129) rfl rfl rfl rfl rfl h
theorem r_X_pull_19 : Wp L d k_X_pull 19 [l0, vI a1, l2] [vR c0] σ Q ↔ Wp L d k_X_pull 20 [l0, vI a1, l2] [vI a1, vR c0] σ Q := wp_iload rfl rfl
theorem r_X_pull_20 : Wp L d k_X_pull 20 [l0, l1, vI a2] [vI s1, vR c0] σ Q ↔ Wp L d k_X_pull 21 [l0, l1, vI a2] [vI a2, vI s1, vR c0] σ Q := wp_iload rfl rfl
theorem c_X_pull_21 (hR : Run L d 96 [vR c0, vI s1, vI s2] σ r σ1) (h : gK c0 = 1) : Wp L (d + 1) k_X_pull 21 [l0, l1, l2] [vI s2, vI s1, vR c0] σ Q ↔ Wp L (d + 1) k_X_pull 24 [l0, l1, l2] (r.toList ++ []) σ1 Q := wp_callR (as := [vR c0, vI s1, vI s2]) (rest := []) rfl rfl rfl rfl rfl rfl rfl (grecv_k (by rw [h]) rfl) hR
theorem r_X_pull_24 : Wp L d k_X_pull 24 [l0, l1, l2] [vI s0] σ Q ↔ Wp L d k_X_pull 29 [l0, l1, l2] [vI s0] σ Q := wp_goto rfl
theorem r_X_pull_27 : Wp L d k_X_pull 27 [l0, l1, l2] [] σ Q ↔ Wp L d k_X_pull 29 [l0, l1, l2] [vI (-1000000001)] σ Q := wp_push rfl
theorem r_X_pull_29 : Wp L d k_X_pull 29 [l0, l1, l2] [vI s0] σ Q ↔ Q (some (vI s0)) σ := wp_iret rfl
theorem r_X_pull_2 : Wp L (d + 3) k_X_pull 2 [l0, l1, l2] [vI s1, vR 27] σ Q ↔ Wp L (d + 3) k_X_pull 5 [l0, l1, l2] [vI (gb (0 ≤ s1 ∧ s1 ≤ σ 29 8))] σ Q := wp_callR (d := d + 2) (as := [vR 27, vI s1]) (rest := []) rfl rfl rfl rfl rfl rfl rfl (grecv_k (by rw [gK_27]) rfl) (sp_X_isPier)
theorem r_X_pull_9 : Wp L (d + 3) k_X_pull 9 [l0, l1, l2] [vI s0] σ Q ↔ Wp L (d + 3) k_X_pull 12 [l0, l1, l2] [vI (gb (0 ≤ s0 ∧ s0 ≤ 99))] σ Q := wp_callR (d := d + 2) (as := [vI s0]) (rest := []) rfl rfl rfl rfl rfl rfl rfl rfl (sp_X_isGust)
theorem sp_X_pull_b (h : ¬ ((0 ≤ a1 ∧ a1 ≤ σ 29 8) ∧ 0 ≤ a2 ∧ a2 ≤ 99)) : Run L (d + 3) 29 [vR 27, vI a1, vI a2] σ (some (vI (-1000000001))) σ := by
  refine Run_of (C' := k_X_pull) rfl ?_
  show Wp L (d + 3) k_X_pull 0 [vR 27, vI a1, vI a2] [] σ _
  obtain ⟨K27, K28, K29, K78, K97, K99, K109, K123, K125, K279, K282⟩ := litX
  by_cases e : 0 ≤ a1 ∧ a1 ≤ σ 29 8
  · simp (disch := first | assumption | exact gb_01 _ | omega) only [r_X_pull_0, r_X_pull_1, r_X_pull_2, r_X_pull_5, r_X_pull_8, r_X_pull_9, r_X_pull_12, r_X_pull_15, r_X_pull_16, r_X_pull_19, r_X_pull_20, r_X_pull_24, r_X_pull_27, r_X_pull_29, gq_27_0, gq_27_1, gq_27_2, gq_27_3, gq_27_4, gq_27_5, gq_27_6, gq_28_0, gq_28_1, gq_28_2, gq_28_3, gq_28_4, gq_28_5, gq_28_6, w32_gb, w32i, tn_add, tn_mul, Int.toNat_natCast, Int.toNat_zero, Int.reduceLE, Int.reduceLT, Int.reduceEq, Int.reduceNe, gb_T, gb_F, Int.reduceToNat, eq_self, true_or, or_true, and_true, true_and, and_self, ↓ite_gb0, ↓ite_gbn, ↓if_pos, ↓if_neg, if_true, if_false, not_true_eq_false, not_false_eq_true, gb_ne0, gb_eq0]
  · simp (disch := first | assumption | exact gb_01 _ | omega) only [r_X_pull_0, r_X_pull_1, r_X_pull_2, r_X_pull_5, r_X_pull_8, r_X_pull_9, r_X_pull_12, r_X_pull_15, r_X_pull_16, r_X_pull_19, r_X_pull_20, r_X_pull_24, r_X_pull_27, r_X_pull_29, gq_27_0, gq_27_1, gq_27_2, gq_27_3, gq_27_4, gq_27_5, gq_27_6, gq_28_0, gq_28_1, gq_28_2, gq_28_3, gq_28_4, gq_28_5, gq_28_6, w32_gb, w32i, tn_add, tn_mul, Int.toNat_natCast, Int.toNat_zero, Int.reduceLE, Int.reduceLT, Int.reduceEq, Int.reduceNe, gb_T, gb_F, Int.reduceToNat, eq_self, true_or, or_true, and_true, true_and, and_self, ↓ite_gb0, ↓ite_gbn, ↓if_pos, ↓if_neg, if_true, if_false, not_true_eq_false, not_false_eq_true, gb_ne0, gb_eq0]
theorem sp_X_pull {f : Nat → Int} (hw : WB f) (hc : CB 29 f σ) (h1 : 0 ≤ a1 ∧ a1 ≤ f 0) (h2 : 0 ≤ a2 ∧ a2 ≤ 99) : ∃ σ', Run L (d + 3) 29 [vR 27, vI a1, vI a2] σ (some (vI (brpull f a2 a1.toNat))) σ' ∧ Agr σ σ' (ZSc 29) := by
  refine Run_ex (C' := k_X_pull) rfl ?_
  show Wp L (d + 3) k_X_pull 0 [vR 27, vI a1, vI a2] [] σ _
  obtain ⟨K27, K28, K29, K78, K97, K99, K109, K123, K125, K279, K282⟩ := litX
  have c1 := hc.1
  obtain ⟨τ, hR, hA⟩ := sp_B_pullAt (L := L) (d := d + 0) BR29 hw hc h1 h2
  simp (disch := first | assumption | exact gb_01 _ | omega) only [r_X_pull_0, r_X_pull_1, r_X_pull_2, r_X_pull_5, r_X_pull_8, r_X_pull_9, r_X_pull_12, r_X_pull_15, r_X_pull_16, r_X_pull_19, r_X_pull_20, r_X_pull_24, r_X_pull_27, r_X_pull_29, c_X_pull_21 hR, Option.toList, List.singleton_append, List.cons_append, List.nil_append, List.append_nil, gq_27_0, gq_27_1, gq_27_2, gq_27_3, gq_27_4, gq_27_5, gq_27_6, gq_28_0, gq_28_1, gq_28_2, gq_28_3, gq_28_4, gq_28_5, gq_28_6, w32_gb, w32i, tn_add, tn_mul, Int.toNat_natCast, Int.toNat_zero, Int.reduceLE, Int.reduceLT, Int.reduceEq, Int.reduceNe, gb_T, gb_F, Int.reduceToNat, eq_self, true_or, or_true, and_true, true_and, and_self, ↓ite_gb0, ↓ite_gbn, ↓if_pos, ↓if_neg, if_true, if_false, not_true_eq_false, not_false_eq_true, gb_ne0, gb_eq0]
  exact hA
theorem r_M_pull_0 : Wp L d k_M_pull 0 [vR b0, l1, l2] [] σ Q ↔ Wp L d k_M_pull 1 [vR b0, l1, l2] [vR b0] σ Q := wp_aload rfl rfl
theorem r_M_pull_1 : Wp L d k_M_pull 1 [l0, vI a1, l2] [vR c0] σ Q ↔ Wp L d k_M_pull 2 [l0, vI a1, l2] [vI a1, vR c0] σ Q := wp_iload rfl rfl
theorem r_M_pull_5 : Wp L d k_M_pull 5 [l0, l1, l2] [vI s0] σ Q ↔ (if s0 = 0 then Wp L d k_M_pull 24 [l0, l1, l2] [] σ Q else Wp L d k_M_pull 8 [l0, l1, l2] [] σ Q) := wp_if_eq rfl
theorem r_M_pull_8 : Wp L d k_M_pull 8 [l0, l1, vI a2] [] σ Q ↔ Wp L d k_M_pull 9 [l0, l1, vI a2] [vI a2] σ Q := wp_iload rfl rfl
theorem r_M_pull_12 : Wp L d k_M_pull 12 [l0, l1, l2] [vI s0] σ Q ↔ (if s0 = 0 then Wp L d k_M_pull 24 [l0, l1, l2] [] σ Q else Wp L d k_M_pull 15 [l0, l1, l2] [] σ Q) := wp_if_eq rfl
theorem r_M_pull_15 : Wp L d k_M_pull 15 [vR b0, l1, l2] [] σ Q ↔ Wp L d k_M_pull 16 [vR b0, l1, l2] [vR b0] σ Q := wp_aload rfl rfl
theorem r_M_pull_16 : Wp L d k_M_pull 16 [l0, vI a1, l2] [vR c0] σ Q ↔ Wp L d k_M_pull 17 [l0, vI a1, l2] [vI a1, vR c0] σ Q := wp_iload rfl rfl
theorem r_M_pull_17 : Wp L d k_M_pull 17 [l0, l1, vI a2] [vI s1, vR c0] σ Q ↔ Wp L d k_M_pull 18 [l0, l1, vI a2] [vI a2, vI s1, vR c0] σ Q := wp_iload rfl rfl
theorem r_M_pull_21 : Wp L d k_M_pull 21 [l0, l1, l2] [vI s0] σ Q ↔ Wp L d k_M_pull 26 [l0, l1, l2] [vI s0] σ Q := wp_goto rfl
theorem r_M_pull_24 : Wp L d k_M_pull 24 [l0, l1, l2] [] σ Q ↔ Wp L d k_M_pull 26 [l0, l1, l2] [vI (-1000000001)] σ Q := wp_push rfl
theorem r_M_pull_26 : Wp L d k_M_pull 26 [l0, l1, l2] [vI s0] σ Q ↔ Q (some (vI s0)) σ := wp_iret rfl
theorem r_M_pull_2 : Wp L (d + 3) k_M_pull 2 [l0, l1, l2] [vI s1, vR 293] σ Q ↔ Wp L (d + 3) k_M_pull 5 [l0, l1, l2] [vI (gb (0 ≤ s1 ∧ s1 ≤ σ 294 0))] σ Q := wp_callR (d := d + 2) (as := [vR 293, vI s1]) (rest := []) rfl rfl rfl rfl rfl rfl rfl (grecv_k (by rw [gK_293]) rfl) (sp_M_isPier)
theorem r_M_pull_9 : Wp L (d + 3) k_M_pull 9 [l0, l1, l2] [vI s0] σ Q ↔ Wp L (d + 3) k_M_pull 12 [l0, l1, l2] [vI (gb (0 ≤ s0 ∧ s0 ≤ 99))] σ Q := wp_callR (d := d + 2) (as := [vI s0]) (rest := []) rfl rfl rfl rfl rfl rfl rfl rfl (sp_M_isGust)
theorem r_M_pull_18 (hw : WB (σ 294)) (h : 0 ≤ s1 ∧ s1 ≤ σ 294 0) (h2 : 0 ≤ s2 ∧ s2 ≤ 99) : Wp L (d + 3) k_M_pull 18 [l0, l1, l2] [vI s2, vI s1, vR 293] σ Q ↔ Wp L (d + 3) k_M_pull 21 [l0, l1, l2] [vI (brpull (σ 294) s2 s1.toNat)] σ Q := wp_callR (d := d + 2) (as := [vR 293, vI s1, vI s2]) (rest := []) rfl rfl rfl rfl rfl rfl rfl (grecv_k (by rw [gK_293]) rfl) (sp_M_pullOf hw h h2)
theorem sp_M_pull_b (h : ¬ ((0 ≤ a1 ∧ a1 ≤ σ 294 0) ∧ 0 ≤ a2 ∧ a2 ≤ 99)) : Run L (d + 3) 217 [vR 293, vI a1, vI a2] σ (some (vI (-1000000001))) σ := by
  refine Run_of (C' := k_M_pull) rfl ?_
  show Wp L (d + 3) k_M_pull 0 [vR 293, vI a1, vI a2] [] σ _
  obtain ⟨K293, Q293, K294, N294⟩ := litM
  by_cases e : 0 ≤ a1 ∧ a1 ≤ σ 294 0
  · simp (disch := first | assumption | exact gb_01 _ | omega) only [r_M_pull_0, r_M_pull_1, r_M_pull_2, r_M_pull_5, r_M_pull_8, r_M_pull_9, r_M_pull_12, r_M_pull_15, r_M_pull_16, r_M_pull_17, r_M_pull_18, r_M_pull_21, r_M_pull_24, r_M_pull_26, Q293, w32_gb, w32i, tn_add, tn_mul, Int.toNat_natCast, Int.toNat_zero, Int.reduceLE, Int.reduceLT, Int.reduceEq, Int.reduceNe, gb_T, gb_F, Int.reduceToNat, eq_self, true_or, or_true, and_true, true_and, and_self, ↓ite_gb0, ↓ite_gbn, ↓if_pos, ↓if_neg, if_true, if_false, not_true_eq_false, not_false_eq_true, gb_ne0, gb_eq0]
  · simp (disch := first | assumption | exact gb_01 _ | omega) only [r_M_pull_0, r_M_pull_1, r_M_pull_2, r_M_pull_5, r_M_pull_8, r_M_pull_9, r_M_pull_12, r_M_pull_15, r_M_pull_16, r_M_pull_17, r_M_pull_18, r_M_pull_21, r_M_pull_24, r_M_pull_26, Q293, w32_gb, w32i, tn_add, tn_mul, Int.toNat_natCast, Int.toNat_zero, Int.reduceLE, Int.reduceLT, Int.reduceEq, Int.reduceNe, gb_T, gb_F, Int.reduceToNat, eq_self, true_or, or_true, and_true, true_and, and_self, ↓ite_gb0, ↓ite_gbn, ↓if_pos, ↓if_neg, if_true, if_false, not_true_eq_false, not_false_eq_true, gb_ne0, gb_eq0]
theorem sp_M_pull (hw : WB (σ 294)) (h : 0 ≤ a1 ∧ a1 ≤ σ 294 0) (h2 : 0 ≤ a2 ∧ a2 ≤ 99) : Run L (d + 3) 217 [vR 293, vI a1, vI a2] σ (some (vI (brpull (σ 294) a2 a1.toNat))) σ := by
  refine Run_of (C' := k_M_pull) rfl ?_
  show Wp L (d + 3) k_M_pull 0 [vR 293, vI a1, vI a2] [] σ _
  obtain ⟨K293, Q293, K294, N294⟩ := litM
  simp (disch := first | assumption | exact gb_01 _ | omega) only [r_M_pull_0, r_M_pull_1, r_M_pull_2, r_M_pull_5, r_M_pull_8, r_M_pull_9, r_M_pull_12, r_M_pull_15, r_M_pull_16, r_M_pull_17, r_M_pull_18, r_M_pull_21, r_M_pull_24, r_M_pull_26, Q293, w32_gb, w32i, tn_add, tn_mul, Int.toNat_natCast, Int.toNat_zero, Int.reduceLE, Int.reduceLT, Int.reduceEq, Int.reduceNe, gb_T, gb_F, Int.reduceToNat, eq_self, true_or, or_true, and_true, true_and, and_self, ↓ite_gb0, ↓ite_gbn, ↓if_pos, ↓if_neg, if_true, if_false, not_true_eq_false, not_false_eq_true, gb_ne0, gb_eq0]
theorem op_pull (a1 a2 : Int) : Op 29 217 [vI a1, vI a2] := by
  intro L d σ hI
  obtain ⟨hw, hc⟩ := iB hI
  have w1 := hw.1
  have w2 := hw.2.1
  have c1 := hc.1
  have c2 := hc.2.1
  have hp : w32 (σ 29 9 - 1) = σ 29 9 - 1 := w32i (by omega)
  have hm : w32 (σ 294 1 - 1) = σ 294 1 - 1 := w32i (by omega)
  
  by_cases h : (0 ≤ a1 ∧ a1 ≤ σ 29 8) ∧ 0 ≤ a2 ∧ a2 ≤ 99
  · obtain ⟨σ1, hR, hA⟩ := sp_X_pull (L := L) (d := d + 997) (a1 := a1) (a2 := a2) hw hc (by omega) h.2
    have e : σ1 294 = σ 294 := funext (fun j => hA 294 j (by unfold ZSc; omega))
    refine ⟨_, _, _, hR, Run_r (sp_M_pull (by rw [e]; exact hw) (by rw [e]; omega) h.2) (by rw [e]), Inv_free hI (Agr_mono hA (fun k j hk => by unfold ZSc at hk; unfold ZFr; omega))⟩
  · exact ⟨_, _, _, sp_X_pull_b h, sp_M_pull_b (by omega), hI⟩
theorem r_X_load_0 : Wp L d k_X_load 0 [vR b0, l1, l2] [] σ Q ↔ Wp L d k_X_load 1 [vR b0, l1, l2] [vR b0] σ Q := wp_aload rfl rfl
theorem r_X_load_1 : Wp L d k_X_load 1 [l0, vI a1, l2] [vR c0] σ Q ↔ Wp L d k_X_load 2 [l0, vI a1, l2] [vI a1, vR c0] σ Q := wp_iload rfl rfl
theorem r_X_load_5 : Wp L d k_X_load 5 [l0, l1, l2] [vI s0] σ Q ↔ (if s0 = 0 then Wp L d k_X_load 15 [l0, l1, l2] [] σ Q else Wp L d k_X_load 8 [l0, l1, l2] [] σ Q) := wp_if_eq rfl
theorem r_X_load_8 : Wp L d k_X_load 8 [l0, l1, vI a2] [] σ Q ↔ Wp L d k_X_load 9 [l0, l1, vI a2] [vI a2] σ Q := wp_iload rfl rfl
theorem r_X_load_12 : Wp L d k_X_load 12 [l0, l1, l2] [vI s0] σ Q ↔ (if s0 ≠ 0 then Wp L d k_X_load 18 [l0, l1, l2] [] σ Q else Wp L d k_X_load 15 [l0, l1, l2] [] σ Q) := wp_if_ne rfl
theorem r_X_load_15 : Wp L d k_X_load 15 [l0, l1, l2] [] σ Q ↔ Wp L d k_X_load 17 [l0, l1, l2] [vI (-1000000001)] σ Q := wp_push rfl
theorem r_X_load_17 : Wp L d k_X_load 17 [l0, l1, l2] [vI s0] σ Q ↔ Q (some (vI s0)) σ := wp_iret rfl
theorem r_X_load_18 : Wp L d k_X_load 18 [vR b0, l1, l2] [] σ Q ↔ Wp L d k_X_load 19 [vR b0, l1, l2] [vR b0] σ Q := wp_aload rfl rfl
theorem r_X_load_19 (h : gK c0 = 0) : Wp L d k_X_load 19 [l0, l1, l2] [vR c0] σ Q ↔ Wp L d k_X_load 22 [l0, l1, l2] [vR (gq c0 1)] σ Q := wp_getR (c := 129) rfl rfl rfl rfl rfl h
theorem r_X_load_22 (h : gK c0 = 1) : Wp L d k_X_load 22 [l0, l1, l2] [vR c0] σ Q ↔ Wp L d k_X_load 25 [l0, l1, l2] [vR (gq c0 3)] σ Q := wp_getR (c := 387) rfl rfl rfl rfl rfl h
theorem r_X_load_25 : Wp L d k_X_load 25 [l0, vI a1, l2] [vR c0] σ Q ↔ Wp L d k_X_load 26 [l0, vI a1, l2] [vI a1, vR c0] σ Q := wp_iload rfl rfl
theorem r_X_load_26 (h : gK c0 = 102 ∨ gK c0 = 103) (hx : 0 ≤ s1 ∧ s1 < gN c0) : Wp L d k_X_load 26 [l0, l1, l2] [vI s1, vR c0] σ Q ↔ Wp L d k_X_load 27 [l0, l1, l2] [vR (gq c0 s1.toNat)] σ Q := wp_aald rfl h hx
theorem r_X_load_27 (h : gK c0 = 4) : Wp L d k_X_load 27 [l0, l1, l2] [vR c0] σ Q ↔ Wp L d k_X_load 30 [l0, l1, l2] [vI (σ c0 10)] σ Q := wp_getI (c := 1098) rfl rfl rfl rfl h
theorem r_X_load_30 : Wp L d k_X_load 30 [l0, l1, l2] [vI s0] σ Q ↔ (if s0 = 0 then Wp L d k_X_load 53 [l0, l1, l2] [] σ Q else Wp L d k_X_load 33 [l0, l1, l2] [] σ Q) := wp_if_eq rfl
theorem r_X_load_33 : Wp L d k_X_load 33 [vR b0, l1, l2] [] σ Q ↔ Wp L d k_X_load 34 [vR b0, l1, l2] [vR b0] σ Q := wp_aload rfl rfl
theorem r_X_load_34 (h : gK c0 = 0) : Wp L d k_X_load 34 [l0, l1, l2] [vR c0] σ Q ↔ Wp L d k_X_load 37 [l0, l1, l2] [vR (gq c0 1)] σ Q := wp_getR (c := 129) rfl rfl rfl rfl rfl h
theorem r_X_load_37 : Wp L d k_X_load 37 [vR b0, l1, l2] [vR c0] σ Q ↔ Wp L d k_X_load 38 [vR b0, l1, l2] [vR b0, vR c0] σ Q := wp_aload rfl rfl
theorem r_X_load_38 (h : gK c1 = 0) : Wp L d k_X_load 38 [l0, l1, l2] [vR c1, vR c0] σ Q ↔ Wp L d k_X_load 41 [l0, l1, l2] [vR (gq c1 1), vR c0] σ Q := wp_getR (c := 129) rfl rfl rfl rfl rfl h
theorem r_X_load_41 (h : gK c1 = 1) : Wp L d k_X_load 41 [l0, l1, l2] [vR c1, vR c0] σ Q ↔ Wp L d k_X_load 44 [l0, l1, l2] [vR (gq c1 3), vR c0] σ Q := wp_getR (c := 387) rfl rfl rfl rfl rfl h
theorem r_X_load_44 : Wp L d k_X_load 44 [l0, vI a1, l2] [vR c1, vR c0] σ Q ↔ Wp L d k_X_load 45 [l0, vI a1, l2] [vI a1, vR c1, vR c0] σ Q := wp_iload rfl rfl
theorem r_X_load_45 (h : gK c1 = 102 ∨ gK c1 = 103) (hx : 0 ≤ s2 ∧ s2 < gN c1) : Wp L d k_X_load 45 [l0, l1, l2] [vI s2, vR c1, vR c0] σ Q ↔ Wp L d k_X_load 46 [l0, l1, l2] [vR (gq c1 s2.toNat), vR c0] σ Q := wp_aald rfl h hx
theorem r_X_load_46 : Wp L d k_X_load 46 [l0, l1, vI a2] [vR c1, vR c0] σ Q ↔ Wp L d k_X_load 47 [l0, l1, vI a2] [vI a2, vR c1, vR c0] σ Q := wp_iload rfl rfl
theorem c_X_load_47 (hR : Run L d 100 [vR c0, vR c1, vI s2] σ r σ1) (h : gK c0 = 1) : Wp L (d + 1) k_X_load 47 [l0, l1, l2] [vI s2, vR c1, vR c0] σ Q ↔ Wp L (d + 1) k_X_load 50 [l0, l1, l2] (r.toList ++ []) σ1 Q := wp_callR (as := [vR c0, vR c1, vI s2]) (rest := []) rfl rfl rfl rfl rfl rfl rfl (grecv_k (by rw [h]) rfl) hR
theorem r_X_load_50 : Wp L d k_X_load 50 [l0, l1, l2] [vI s0] σ Q ↔ Wp L d k_X_load 55 [l0, l1, l2] [vI s0] σ Q := wp_goto rfl
theorem r_X_load_53 : Wp L d k_X_load 53 [l0, l1, l2] [] σ Q ↔ Wp L d k_X_load 55 [l0, l1, l2] [vI (-1000000002)] σ Q := wp_push rfl
theorem r_X_load_55 : Wp L d k_X_load 55 [l0, l1, l2] [vI s0] σ Q ↔ Q (some (vI s0)) σ := wp_iret rfl
theorem r_X_load_2 : Wp L (d + 3) k_X_load 2 [l0, l1, l2] [vI s1, vR 27] σ Q ↔ Wp L (d + 3) k_X_load 5 [l0, l1, l2] [vI (gb (0 ≤ s1 ∧ s1 ≤ w32 (σ 29 9 - 1)))] σ Q := wp_callR (d := d + 2) (as := [vR 27, vI s1]) (rest := []) rfl rfl rfl rfl rfl rfl rfl (grecv_k (by rw [gK_27]) rfl) (sp_X_isPart)
theorem r_X_load_9 : Wp L (d + 3) k_X_load 9 [l0, l1, l2] [vI s0] σ Q ↔ Wp L (d + 3) k_X_load 12 [l0, l1, l2] [vI (gb (0 ≤ s0 ∧ s0 ≤ 99))] σ Q := wp_callR (d := d + 2) (as := [vI s0]) (rest := []) rfl rfl rfl rfl rfl rfl rfl rfl (sp_X_isGust)
theorem sp_X_load_b (hp : w32 (σ 29 9 - 1) = σ 29 9 - 1) (h : ¬ ((0 ≤ a1 ∧ a1 ≤ σ 29 9 - 1) ∧ 0 ≤ a2 ∧ a2 ≤ 99)) : Run L (d + 3) 31 [vR 27, vI a1, vI a2] σ (some (vI (-1000000001))) σ := by
  refine Run_of (C' := k_X_load) rfl ?_
  show Wp L (d + 3) k_X_load 0 [vR 27, vI a1, vI a2] [] σ _
  obtain ⟨K27, K28, K29, K78, K97, K99, K109, K123, K125, K279, K282⟩ := litX
  by_cases e : 0 ≤ a1 ∧ a1 ≤ σ 29 9 - 1
  · simp (disch := first | assumption | exact gb_01 _ | omega) only [r_X_load_0, r_X_load_1, r_X_load_2, r_X_load_5, r_X_load_8, r_X_load_9, r_X_load_12, r_X_load_15, r_X_load_17, gq_27_0, gq_27_1, gq_27_2, gq_27_3, gq_27_4, gq_27_5, gq_27_6, gq_28_0, gq_28_1, gq_28_2, gq_28_3, gq_28_4, gq_28_5, gq_28_6, hp, w32_gb, w32i, tn_add, tn_mul, Int.toNat_natCast, Int.toNat_zero, Int.reduceLE, Int.reduceLT, Int.reduceEq, Int.reduceNe, gb_T, gb_F, Int.reduceToNat, eq_self, true_or, or_true, and_true, true_and, and_self, ↓ite_gb0, ↓ite_gbn, ↓if_pos, ↓if_neg, if_true, if_false, not_true_eq_false, not_false_eq_true, gb_ne0, gb_eq0]
  · simp (disch := first | assumption | exact gb_01 _ | omega) only [r_X_load_0, r_X_load_1, r_X_load_2, r_X_load_5, r_X_load_8, r_X_load_9, r_X_load_12, r_X_load_15, r_X_load_17, gq_27_0, gq_27_1, gq_27_2, gq_27_3, gq_27_4, gq_27_5, gq_27_6, gq_28_0, gq_28_1, gq_28_2, gq_28_3, gq_28_4, gq_28_5, gq_28_6, hp, w32_gb, w32i, tn_add, tn_mul, Int.toNat_natCast, Int.toNat_zero, Int.reduceLE, Int.reduceLT, Int.reduceEq, Int.reduceNe, gb_T, gb_F, Int.reduceToNat, eq_self, true_or, or_true, and_true, true_and, and_self, ↓ite_gb0, ↓ite_gbn, ↓if_pos, ↓if_neg, if_true, if_false, not_true_eq_false, not_false_eq_true, gb_ne0, gb_eq0]
theorem r_M_load_0 : Wp L d k_M_load 0 [vR b0, l1, l2, l3] [] σ Q ↔ Wp L d k_M_load 1 [vR b0, l1, l2, l3] [vR b0] σ Q := wp_aload rfl rfl
theorem r_M_load_1 : Wp L d k_M_load 1 [l0, vI a1, l2, l3] [vR c0] σ Q ↔ Wp L d k_M_load 2 [l0, vI a1, l2, l3] [vI a1, vR c0] σ Q := wp_iload rfl rfl
theorem r_M_load_5 : Wp L d k_M_load 5 [l0, l1, l2, l3] [vI s0] σ Q ↔ (if s0 = 0 then Wp L d k_M_load 15 [l0, l1, l2, l3] [] σ Q else Wp L d k_M_load 8 [l0, l1, l2, l3] [] σ Q) := wp_if_eq rfl
theorem r_M_load_8 : Wp L d k_M_load 8 [l0, l1, vI a2, l3] [] σ Q ↔ Wp L d k_M_load 9 [l0, l1, vI a2, l3] [vI a2] σ Q := wp_iload rfl rfl
theorem r_M_load_12 : Wp L d k_M_load 12 [l0, l1, l2, l3] [vI s0] σ Q ↔ (if s0 ≠ 0 then Wp L d k_M_load 18 [l0, l1, l2, l3] [] σ Q else Wp L d k_M_load 15 [l0, l1, l2, l3] [] σ Q) := wp_if_ne rfl
theorem r_M_load_15 : Wp L d k_M_load 15 [l0, l1, l2, l3] [] σ Q ↔ Wp L d k_M_load 17 [l0, l1, l2, l3] [vI (-1000000001)] σ Q := wp_push rfl
theorem r_M_load_17 : Wp L d k_M_load 17 [l0, l1, l2, l3] [vI s0] σ Q ↔ Q (some (vI s0)) σ := wp_iret rfl
theorem r_M_load_18 : Wp L d k_M_load 18 [vR b0, l1, l2, l3] [] σ Q ↔ Wp L d k_M_load 19 [vR b0, l1, l2, l3] [vR b0] σ Q := wp_aload rfl rfl
theorem r_M_load_19 : Wp L d k_M_load 19 [l0, vI a1, l2, l3] [vR c0] σ Q ↔ Wp L d k_M_load 20 [l0, vI a1, l2, l3] [vI a1, vR c0] σ Q := wp_iload rfl rfl
theorem r_M_load_23 : Wp L d k_M_load 23 [l0, l1, vI a2, l3] [vI s0] σ Q ↔ Wp L d k_M_load 24 [l0, l1, vI a2, vI s0] [] σ Q := wp_istore (i := 3) (ls := [l0, l1, vI a2, l3]) rfl rfl
theorem r_M_load_24 : Wp L d k_M_load 24 [vR b0, l1, l2, l3] [] σ Q ↔ Wp L d k_M_load 25 [vR b0, l1, l2, l3] [vR b0] σ Q := wp_aload rfl rfl
theorem r_M_load_25 : Wp L d k_M_load 25 [l0, vI a1, l2, l3] [vR c0] σ Q ↔ Wp L d k_M_load 26 [l0, vI a1, l2, l3] [vI a1, vR c0] σ Q := wp_iload rfl rfl
theorem r_M_load_29 : Wp L d k_M_load 29 [l0, l1, l2, l3] [vI s0] σ Q ↔ (if s0 = 0 then Wp L d k_M_load 70 [l0, l1, l2, l3] [] σ Q else Wp L d k_M_load 32 [l0, l1, l2, l3] [] σ Q) := wp_if_eq rfl
theorem r_M_load_32 : Wp L d k_M_load 32 [vR b0, l1, l2, l3] [] σ Q ↔ Wp L d k_M_load 33 [vR b0, l1, l2, l3] [vR b0] σ Q := wp_aload rfl rfl
theorem r_M_load_33 : Wp L d k_M_load 33 [vR b0, l1, l2, l3] [vR c0] σ Q ↔ Wp L d k_M_load 34 [vR b0, l1, l2, l3] [vR b0, vR c0] σ Q := wp_aload rfl rfl
theorem r_M_load_34 (h : gK c1 = 12) : Wp L d k_M_load 34 [l0, l1, l2, l3] [vR c1, vR c0] σ Q ↔ Wp L d k_M_load 37 [l0, l1, l2, l3] [vR (gq c1 0), vR c0] σ Q := wp_getR (c := 3200) rfl rfl rfl rfl rfl h
theorem r_M_load_37 : Wp L d k_M_load 37 [l0, l1, l2, vI a3] [vR c1, vR c0] σ Q ↔ Wp L d k_M_load 38 [l0, l1, l2, vI a3] [vI a3, vR c1, vR c0] σ Q := wp_iload rfl rfl
theorem r_M_load_38 : Wp L d k_M_load 38 [l0, l1, l2, l3] [vI s2, vR c1, vR c0] σ Q ↔ Wp L d k_M_load 39 [l0, l1, l2, l3] [vI 1, vI s2, vR c1, vR c0] σ Q := wp_push rfl
theorem r_M_load_39 : Wp L d k_M_load 39 [l0, l1, l2, l3] [vI s3, vI s2, vR c1, vR c0] σ Q ↔ Wp L d k_M_load 40 [l0, l1, l2, l3] [vI (w32 (s2 + s3)), vR c1, vR c0] σ Q := wp_iadd rfl
theorem r_M_load_40 (h : gK c1 = 100) (hx : 0 ≤ s2 ∧ s2 < gN c1) : Wp L d k_M_load 40 [l0, l1, l2, l3] [vI s2, vR c1, vR c0] σ Q ↔ Wp L d k_M_load 41 [l0, l1, l2, l3] [vI (σ c1 s2.toNat), vR c0] σ Q := wp_iald rfl h hx
theorem r_M_load_41 : Wp L d k_M_load 41 [l0, l1, vI a2, l3] [vI s1, vR c0] σ Q ↔ Wp L d k_M_load 42 [l0, l1, vI a2, l3] [vI a2, vI s1, vR c0] σ Q := wp_iload rfl rfl
theorem r_M_load_45 : Wp L d k_M_load 45 [vR b0, l1, l2, l3] [vI s0] σ Q ↔ Wp L d k_M_load 46 [vR b0, l1, l2, l3] [vR b0, vI s0] σ Q := wp_aload rfl rfl
theorem r_M_load_46 (h : gK c1 = 12) : Wp L d k_M_load 46 [l0, l1, l2, l3] [vR c1, vI s0] σ Q ↔ Wp L d k_M_load 49 [l0, l1, l2, l3] [vR (gq c1 0), vI s0] σ Q := wp_getR (c := 3200) rfl rfl rfl rfl rfl h
theorem r_M_load_49 : Wp L d k_M_load 49 [l0, l1, l2, vI a3] [vR c1, vI s0] σ Q ↔ Wp L d k_M_load 50 [l0, l1, l2, vI a3] [vI a3, vR c1, vI s0] σ Q := wp_iload rfl rfl
theorem r_M_load_50 : Wp L d k_M_load 50 [l0, l1, l2, l3] [vI s2, vR c1, vI s0] σ Q ↔ Wp L d k_M_load 51 [l0, l1, l2, l3] [vI 3, vI s2, vR c1, vI s0] σ Q := wp_push rfl
theorem r_M_load_51 : Wp L d k_M_load 51 [l0, l1, l2, l3] [vI s3, vI s2, vR c1, vI s0] σ Q ↔ Wp L d k_M_load 52 [l0, l1, l2, l3] [vI (w32 (s2 + s3)), vR c1, vI s0] σ Q := wp_iadd rfl
theorem r_M_load_52 (h : gK c1 = 100) (hx : 0 ≤ s2 ∧ s2 < gN c1) : Wp L d k_M_load 52 [l0, l1, l2, l3] [vI s2, vR c1, vI s0] σ Q ↔ Wp L d k_M_load 53 [l0, l1, l2, l3] [vI (σ c1 s2.toNat), vI s0] σ Q := wp_iald rfl h hx
theorem r_M_load_53 : Wp L d k_M_load 53 [l0, l1, l2, l3] [vI s1, vI s0] σ Q ↔ Wp L d k_M_load 54 [l0, l1, l2, l3] [vI (w32 (s0 * s1))] σ Q := wp_imul rfl
theorem r_M_load_54 : Wp L d k_M_load 54 [vR b0, l1, l2, l3] [vI s0] σ Q ↔ Wp L d k_M_load 55 [vR b0, l1, l2, l3] [vR b0, vI s0] σ Q := wp_aload rfl rfl
theorem r_M_load_55 : Wp L d k_M_load 55 [vR b0, l1, l2, l3] [vR c1, vI s0] σ Q ↔ Wp L d k_M_load 56 [vR b0, l1, l2, l3] [vR b0, vR c1, vI s0] σ Q := wp_aload rfl rfl
theorem r_M_load_56 (h : gK c2 = 12) : Wp L d k_M_load 56 [l0, l1, l2, l3] [vR c2, vR c1, vI s0] σ Q ↔ Wp L d k_M_load 59 [l0, l1, l2, l3] [vR (gq c2 0), vR c1, vI s0] σ Q := wp_getR (c := 3200) rfl rfl rfl rfl rfl h
theorem r_M_load_59 : Wp L d k_M_load 59 [l0, l1, l2, vI a3] [vR c2, vR c1, vI s0] σ Q ↔ Wp L d k_M_load 60 [l0, l1, l2, vI a3] [vI a3, vR c2, vR c1, vI s0] σ Q := wp_iload rfl rfl
theorem r_M_load_60 : Wp L d k_M_load 60 [l0, l1, l2, l3] [vI s3, vR c2, vR c1, vI s0] σ Q ↔ Wp L d k_M_load 61 [l0, l1, l2, l3] [vI 1, vI s3, vR c2, vR c1, vI s0] σ Q := wp_push rfl
theorem r_M_load_61 : Wp L d k_M_load 61 [l0, l1, l2, l3] [vI s4, vI s3, vR c2, vR c1, vI s0] σ Q ↔ Wp L d k_M_load 62 [l0, l1, l2, l3] [vI (w32 (s3 + s4)), vR c2, vR c1, vI s0] σ Q := wp_iadd rfl
theorem r_M_load_62 (h : gK c2 = 100) (hx : 0 ≤ s3 ∧ s3 < gN c2) : Wp L d k_M_load 62 [l0, l1, l2, l3] [vI s3, vR c2, vR c1, vI s0] σ Q ↔ Wp L d k_M_load 63 [l0, l1, l2, l3] [vI (σ c2 s3.toNat), vR c1, vI s0] σ Q := wp_iald rfl h hx
theorem r_M_load_66 (h : s1 ≠ 0) : Wp L d k_M_load 66 [l0, l1, l2, l3] [vI s1, vI s0] σ Q ↔ Wp L d k_M_load 67 [l0, l1, l2, l3] [vI (w32 (s0.tdiv s1))] σ Q := wp_idiv rfl h
theorem r_M_load_67 : Wp L d k_M_load 67 [l0, l1, l2, l3] [vI s0] σ Q ↔ Wp L d k_M_load 72 [l0, l1, l2, l3] [vI s0] σ Q := wp_goto rfl
theorem r_M_load_70 : Wp L d k_M_load 70 [l0, l1, l2, l3] [] σ Q ↔ Wp L d k_M_load 72 [l0, l1, l2, l3] [vI (-1000000002)] σ Q := wp_push rfl
theorem r_M_load_72 : Wp L d k_M_load 72 [l0, l1, l2, l3] [vI s0] σ Q ↔ Q (some (vI s0)) σ := wp_iret rfl
theorem r_M_load_2 : Wp L (d + 3) k_M_load 2 [l0, l1, l2, l3] [vI s1, vR 293] σ Q ↔ Wp L (d + 3) k_M_load 5 [l0, l1, l2, l3] [vI (gb (0 ≤ s1 ∧ s1 ≤ w32 (σ 294 1 - 1)))] σ Q := wp_callR (d := d + 2) (as := [vR 293, vI s1]) (rest := []) rfl rfl rfl rfl rfl rfl rfl (grecv_k (by rw [gK_293]) rfl) (sp_M_isPart)
theorem r_M_load_9 : Wp L (d + 3) k_M_load 9 [l0, l1, l2, l3] [vI s0] σ Q ↔ Wp L (d + 3) k_M_load 12 [l0, l1, l2, l3] [vI (gb (0 ≤ s0 ∧ s0 ≤ 99))] σ Q := wp_callR (d := d + 2) (as := [vI s0]) (rest := []) rfl rfl rfl rfl rfl rfl rfl rfl (sp_M_isGust)
theorem r_M_load_20 : Wp L (d + 3) k_M_load 20 [l0, l1, l2, l3] [vI s1, vR 293] σ Q ↔ Wp L (d + 3) k_M_load 23 [l0, l1, l2, l3] [vI (w32 (120 + w32 (12 * s1)))] σ Q := wp_callR (d := d + 2) (as := [vR 293, vI s1]) (rest := []) rfl rfl rfl rfl rfl rfl rfl (grecv_k (by rw [gK_293]) rfl) (sp_M_partAt)
theorem r_M_load_26 (h : 0 ≤ s1 ∧ s1 ≤ 40) : Wp L (d + 3) k_M_load 26 [l0, l1, l2, l3] [vI s1, vR 293] σ Q ↔ Wp L (d + 3) k_M_load 29 [l0, l1, l2, l3] [vI (gb (σ 294 (120 + 12 * s1.toNat + 8) = 1))] σ Q := wp_callR (d := d + 2) (as := [vR 293, vI s1]) (rest := []) rfl rfl rfl rfl rfl rfl rfl (grecv_k (by rw [gK_293]) rfl) (sp_M_stands h)
theorem r_M_load_42 (hw : WB (σ 294)) (h : 0 ≤ s1 ∧ s1 ≤ σ 294 0) (h2 : 0 ≤ s2 ∧ s2 ≤ 99) : Wp L (d + 3) k_M_load 42 [l0, l1, l2, l3] [vI s2, vI s1, vR 293] σ Q ↔ Wp L (d + 3) k_M_load 45 [l0, l1, l2, l3] [vI (brpull (σ 294) s2 s1.toNat)] σ Q := wp_callR (d := d + 2) (as := [vR 293, vI s1, vI s2]) (rest := []) rfl rfl rfl rfl rfl rfl rfl (grecv_k (by rw [gK_293]) rfl) (sp_M_pullOf hw h h2)
theorem r_M_load_63 (hw : WB (σ 294)) : Wp L (d + 3) k_M_load 63 [l0, l1, l2, l3] [vI s2, vR 293, vI s0] σ Q ↔ Wp L (d + 3) k_M_load 66 [l0, l1, l2, l3] [vI (brsh (σ 294) s2 (σ 294 1).toNat), vI s0] σ Q := wp_callR (d := d + 2) (as := [vR 293, vI s2]) (rest := [vI s0]) rfl rfl rfl rfl rfl rfl rfl (grecv_k (by rw [gK_293]) rfl) (sp_M_sharesAt hw)
theorem sp_M_load_b (hp : w32 (σ 294 1 - 1) = σ 294 1 - 1) (h : ¬ ((0 ≤ a1 ∧ a1 ≤ σ 294 1 - 1) ∧ 0 ≤ a2 ∧ a2 ≤ 99)) : Run L (d + 3) 220 [vR 293, vI a1, vI a2] σ (some (vI (-1000000001))) σ := by
  refine Run_of (C' := k_M_load) rfl ?_
  show Wp L (d + 3) k_M_load 0 [vR 293, vI a1, vI a2, vU] [] σ _
  obtain ⟨K293, Q293, K294, N294⟩ := litM
  by_cases e : 0 ≤ a1 ∧ a1 ≤ σ 294 1 - 1
  · simp (disch := first | assumption | exact gb_01 _ | omega) only [r_M_load_0, r_M_load_1, r_M_load_2, r_M_load_5, r_M_load_8, r_M_load_9, r_M_load_12, r_M_load_15, r_M_load_17, Q293, hp, w32_gb, w32i, tn_add, tn_mul, Int.toNat_natCast, Int.toNat_zero, Int.reduceLE, Int.reduceLT, Int.reduceEq, Int.reduceNe, gb_T, gb_F, Int.reduceToNat, eq_self, true_or, or_true, and_true, true_and, and_self, ↓ite_gb0, ↓ite_gbn, ↓if_pos, ↓if_neg, if_true, if_false, not_true_eq_false, not_false_eq_true, gb_ne0, gb_eq0]
  · simp (disch := first | assumption | exact gb_01 _ | omega) only [r_M_load_0, r_M_load_1, r_M_load_2, r_M_load_5, r_M_load_8, r_M_load_9, r_M_load_12, r_M_load_15, r_M_load_17, Q293, hp, w32_gb, w32i, tn_add, tn_mul, Int.toNat_natCast, Int.toNat_zero, Int.reduceLE, Int.reduceLT, Int.reduceEq, Int.reduceNe, gb_T, gb_F, Int.reduceToNat, eq_self, true_or, or_true, and_true, true_and, and_self, ↓ite_gb0, ↓ite_gbn, ↓if_pos, ↓if_neg, if_true, if_false, not_true_eq_false, not_false_eq_true, gb_ne0, gb_eq0]
theorem sp_X_load {f : Nat → Int} (hw : WB f) (hc : CB 29 f σ) (h : (0 ≤ a1 ∧ a1 ≤ f 1 - 1) ∧ 0 ≤ a2 ∧ a2 ≤ 99) : ∃ σ', Run L (d + 3) 31 [vR 27, vI a1, vI a2] σ (some (vI (if f (120 + 12 * a1.toNat + 8) = 1 then brld f a1.toNat a2 else -1000000002))) σ' ∧ Agr σ σ' (ZSc 29) := by
  refine Run_ex (C' := k_X_load) rfl ?_
  show Wp L (d + 3) k_X_load 0 [vR 27, vI a1, vI a2] [] σ _
  obtain ⟨K27, K28, K29, K78, K97, K99, K109, K123, K125, K279, K282⟩ := litX
  have hB := BR29
  obtain ⟨⟨K0, q0, q1, q2, q3, q4, q5, q6, q7⟩, ⟨K1, K2, K3, K4, K5, K6, K7, K8⟩, ⟨N1, N2, N3, N4, N5, N6, N7, N8⟩, QP, KP⟩ := hB
  have w2 := hw.2.1
  have c2 := hc.2.1
  have q := CBp hc (p := a1.toNat) (by omega)
  have w := WBp hw (p := a1.toNat) (by omega)
  have kp := KP a1.toNat (by omega)
  have q3 : gq 33 a1.toNat = 38 + a1.toNat := QP _ (by omega)
  simp only [Nat.reduceAdd] at *
  obtain ⟨τ, hR, hA⟩ := sp_B_loadOn (L := L) (d := d + 0) (p := a1.toNat) (a2 := a2) BR29 hw hc (by omega) h.2
  by_cases e : f (120 + 12 * a1.toNat + 8) = 1
  · rw [if_pos e]
    simp (disch := first | assumption | exact gb_01 _ | omega) only [r_X_load_0, r_X_load_1, r_X_load_2, r_X_load_5, r_X_load_8, r_X_load_9, r_X_load_12, r_X_load_15, r_X_load_17, r_X_load_18, r_X_load_19, r_X_load_22, r_X_load_25, r_X_load_26, r_X_load_27, r_X_load_30, r_X_load_33, r_X_load_34, r_X_load_37, r_X_load_38, r_X_load_41, r_X_load_44, r_X_load_45, r_X_load_46, r_X_load_50, r_X_load_53, r_X_load_55, c_X_load_47 hR, Option.toList, List.singleton_append, List.cons_append, List.nil_append, List.append_nil, gq_27_0, gq_27_1, gq_27_2, gq_27_3, gq_27_4, gq_27_5, gq_27_6, gq_28_0, gq_28_1, gq_28_2, gq_28_3, gq_28_4, gq_28_5, gq_28_6, gq_29_3, q3, q, w32_gb, w32i, tn_add, tn_mul, Int.toNat_natCast, Int.toNat_zero, Int.reduceLE, Int.reduceLT, Int.reduceEq, Int.reduceNe, gb_T, gb_F, Int.reduceToNat, eq_self, true_or, or_true, and_true, true_and, and_self, ↓ite_gb0, ↓ite_gbn, ↓if_pos, ↓if_neg, if_true, if_false, not_true_eq_false, not_false_eq_true, gb_ne0, gb_eq0]
    exact hA
  · rw [if_neg e]
    simp (disch := first | assumption | exact gb_01 _ | omega) only [r_X_load_0, r_X_load_1, r_X_load_2, r_X_load_5, r_X_load_8, r_X_load_9, r_X_load_12, r_X_load_15, r_X_load_17, r_X_load_18, r_X_load_19, r_X_load_22, r_X_load_25, r_X_load_26, r_X_load_27, r_X_load_30, r_X_load_33, r_X_load_34, r_X_load_37, r_X_load_38, r_X_load_41, r_X_load_44, r_X_load_45, r_X_load_46, r_X_load_50, r_X_load_53, r_X_load_55, c_X_load_47 hR, Option.toList, List.singleton_append, List.cons_append, List.nil_append, List.append_nil, gq_27_0, gq_27_1, gq_27_2, gq_27_3, gq_27_4, gq_27_5, gq_27_6, gq_28_0, gq_28_1, gq_28_2, gq_28_3, gq_28_4, gq_28_5, gq_28_6, gq_29_3, q3, q, w32_gb, w32i, tn_add, tn_mul, Int.toNat_natCast, Int.toNat_zero, Int.reduceLE, Int.reduceLT, Int.reduceEq, Int.reduceNe, gb_T, gb_F, Int.reduceToNat, eq_self, true_or, or_true, and_true, true_and, and_self, ↓ite_gb0, ↓ite_gbn, ↓if_pos, ↓if_neg, if_true, if_false, not_true_eq_false, not_false_eq_true, gb_ne0, gb_eq0]
    exact Agr_refl _ _
theorem gsm_nn {g : Nat → Int} : ∀ n : Nat, (∀ k, k < n → 0 ≤ g k) → 0 ≤ gsm g n
  | 0, _ => by simp [gsm]
  | n + 1, h => by
    have a := gsm_nn n (fun k hk => h k (by omega))
    have b := h n (by omega)
    simp only [gsm]
    omega
theorem gsm_ge {g : Nat → Int} : ∀ (n k : Nat), (∀ i, i < n → 0 ≤ g i) → k < n → g k ≤ gsm g n
  | 0, k, _, h => by omega
  | n + 1, k, hg, h => by
    simp only [gsm]
    have a := hg n (by omega)
    by_cases e : k = n
    · subst e
      have : 0 ≤ gsm g k := (gsm_nn k (fun i hi => hg i (by omega)))
      omega
    · have := gsm_ge n k (fun i hi => hg i (by omega)) (by omega)
      omega
theorem brsh_pos {f : Nat → Int} (hw : WB f) {p : Nat} (hp : (p : Int) < f 1) (e : f (120 + 12 * p + 8) = 1) : ¬ brsh f (f (120 + 12 * p + 1)) (f 1).toNat = 0 := by
  have w := WBp hw hp
  have := gsm_ge (g := fun q => if f (120 + 12 * q + 8) = 1 ∧ f (120 + 12 * q + 1) = f (120 + 12 * p + 1) then f (120 + 12 * q + 3) else 0) (f 1).toNat p (fun i hi => by
    have := WBp hw (p := i) (by omega)
    split <;> omega) (by omega)
  rw [if_pos ⟨e, rfl⟩] at this
  unfold brsh
  omega
theorem sp_M_load (hw : WB (σ 294)) (h : (0 ≤ a1 ∧ a1 ≤ σ 294 1 - 1) ∧ 0 ≤ a2 ∧ a2 ≤ 99) : Run L (d + 3) 220 [vR 293, vI a1, vI a2] σ (some (vI (if σ 294 (120 + 12 * a1.toNat + 8) = 1 then brld (σ 294) a1.toNat a2 else -1000000002))) σ := by
  refine Run_of (C' := k_M_load) rfl ?_
  show Wp L (d + 3) k_M_load 0 [vR 293, vI a1, vI a2, vU] [] σ _
  obtain ⟨K293, Q293, K294, N294⟩ := litM
  have w1 := hw.1
  have w2 := hw.2.1

  have w := WBp hw (p := a1.toNat) (by omega)
  have b1 := brpull_bd hw h.2 (σ 294 (120 + 12 * a1.toNat + 1)).toNat
  have b2 := brsh_bd hw (σ 294 (120 + 12 * a1.toNat + 1)) (σ 294 1).toNat (by omega)
  have m := mul_bd (a := brpull (σ 294) a2 (σ 294 (120 + 12 * a1.toNat + 1)).toNat) (b := σ 294 (120 + 12 * a1.toNat + 3)) b1 (B := 9) (by omega)
  have b3 := tdiv_bd2 m.1 b2.1
  by_cases e : σ 294 (120 + 12 * a1.toNat + 8) = 1
  · have b4 : ¬ brsh (σ 294) (σ 294 (120 + 12 * a1.toNat + 1)) (σ 294 1).toNat = 0 := brsh_pos hw (by omega) e
    rw [if_pos e]
    unfold brld
    rw [if_neg b4]
    simp (disch := first | assumption | exact gb_01 _ | omega) only [r_M_load_0, r_M_load_1, r_M_load_2, r_M_load_5, r_M_load_8, r_M_load_9, r_M_load_12, r_M_load_15, r_M_load_17, r_M_load_18, r_M_load_19, r_M_load_20, r_M_load_23, r_M_load_24, r_M_load_25, r_M_load_26, r_M_load_29, r_M_load_32, r_M_load_33, r_M_load_34, r_M_load_37, r_M_load_38, r_M_load_39, r_M_load_40, r_M_load_41, r_M_load_42, r_M_load_45, r_M_load_46, r_M_load_49, r_M_load_50, r_M_load_51, r_M_load_52, r_M_load_53, r_M_load_54, r_M_load_55, r_M_load_56, r_M_load_59, r_M_load_60, r_M_load_61, r_M_load_62, r_M_load_63, r_M_load_66, r_M_load_67, r_M_load_70, r_M_load_72, Q293, w32_gb, w32i, tn_add, tn_mul, Int.toNat_natCast, Int.toNat_zero, Int.reduceLE, Int.reduceLT, Int.reduceEq, Int.reduceNe, gb_T, gb_F, Int.reduceToNat, eq_self, true_or, or_true, and_true, true_and, and_self, ↓ite_gb0, ↓ite_gbn, ↓if_pos, ↓if_neg, if_true, if_false, not_true_eq_false, not_false_eq_true, gb_ne0, gb_eq0]
  · rw [if_neg e]
    simp (disch := first | assumption | exact gb_01 _ | omega) only [r_M_load_0, r_M_load_1, r_M_load_2, r_M_load_5, r_M_load_8, r_M_load_9, r_M_load_12, r_M_load_15, r_M_load_17, r_M_load_18, r_M_load_19, r_M_load_20, r_M_load_23, r_M_load_24, r_M_load_25, r_M_load_26, r_M_load_29, r_M_load_32, r_M_load_33, r_M_load_34, r_M_load_37, r_M_load_38, r_M_load_39, r_M_load_40, r_M_load_41, r_M_load_42, r_M_load_45, r_M_load_46, r_M_load_49, r_M_load_50, r_M_load_51, r_M_load_52, r_M_load_53, r_M_load_54, r_M_load_55, r_M_load_56, r_M_load_59, r_M_load_60, r_M_load_61, r_M_load_62, r_M_load_63, r_M_load_66, r_M_load_67, r_M_load_70, r_M_load_72, Q293, w32_gb, w32i, tn_add, tn_mul, Int.toNat_natCast, Int.toNat_zero, Int.reduceLE, Int.reduceLT, Int.reduceEq, Int.reduceNe, gb_T, gb_F, Int.reduceToNat, eq_self, true_or, or_true, and_true, true_and, and_self, ↓ite_gb0, ↓ite_gbn, ↓if_pos, ↓if_neg, if_true, if_false, not_true_eq_false, not_false_eq_true, gb_ne0, gb_eq0]
theorem op_load (a1 a2 : Int) : Op 31 220 [vI a1, vI a2] := by
  intro L d σ hI
  obtain ⟨hw, hc⟩ := iB hI
  have w1 := hw.1
  have w2 := hw.2.1
  have c1 := hc.1
  have c2 := hc.2.1
  have hp : w32 (σ 29 9 - 1) = σ 29 9 - 1 := w32i (by omega)
  have hm : w32 (σ 294 1 - 1) = σ 294 1 - 1 := w32i (by omega)
  
  by_cases h : (0 ≤ a1 ∧ a1 ≤ σ 29 9 - 1) ∧ 0 ≤ a2 ∧ a2 ≤ 99
  · obtain ⟨σ1, hR, hA⟩ := sp_X_load (L := L) (d := d + 997) (a1 := a1) (a2 := a2) hw hc (by omega)
    have e : σ1 294 = σ 294 := funext (fun j => hA 294 j (by unfold ZSc; omega))
    refine ⟨_, _, _, hR, Run_r (sp_M_load (by rw [e]; exact hw) (by rw [e]; omega)) (by rw [e]), Inv_free hI (Agr_mono hA (fun k j hk => by unfold ZSc at hk; unfold ZFr; omega))⟩
  · exact ⟨_, _, _, sp_X_load_b hp h, sp_M_load_b hm (by omega), hI⟩
theorem r_X_bears_0 : Wp L d k_X_bears 0 [vR b0, l1] [] σ Q ↔ Wp L d k_X_bears 1 [vR b0, l1] [vR b0] σ Q := wp_aload rfl rfl
theorem r_X_bears_1 : Wp L d k_X_bears 1 [l0, vI a1] [vR c0] σ Q ↔ Wp L d k_X_bears 2 [l0, vI a1] [vI a1, vR c0] σ Q := wp_iload rfl rfl
theorem r_X_bears_5 : Wp L d k_X_bears 5 [l0, l1] [vI s0] σ Q ↔ (if s0 = 0 then Wp L d k_X_bears 35 [l0, l1] [] σ Q else Wp L d k_X_bears 8 [l0, l1] [] σ Q) := wp_if_eq rfl
theorem r_X_bears_8 : Wp L d k_X_bears 8 [vR b0, l1] [] σ Q ↔ Wp L d k_X_bears 9 [vR b0, l1] [vR b0] σ Q := wp_aload rfl rfl
theorem r_X_bears_9 (h : gK c0 = 0) : Wp L d k_X_bears 9 [l0, l1] [vR c0] σ Q ↔ Wp L d k_X_bears 12 [l0, l1] [vR (gq c0 1)] σ Q := wp_getR (c := 129) rfl rfl rfl rfl rfl h
theorem r_X_bears_12 (h : gK c0 = 1) : Wp L d k_X_bears 12 [l0, l1] [vR c0] σ Q ↔ Wp L d k_X_bears 15 [l0, l1] [vR (gq c0 3)] σ Q := wp_getR (c := 387) rfl rfl rfl rfl rfl h
theorem r_X_bears_15 : Wp L d k_X_bears 15 [l0, vI a1] [vR c0] σ Q ↔ Wp L d k_X_bears 16 [l0, vI a1] [vI a1, vR c0] σ Q := wp_iload rfl rfl
theorem r_X_bears_16 (h : gK c0 = 102 ∨ gK c0 = 103) (hx : 0 ≤ s1 ∧ s1 < gN c0) : Wp L d k_X_bears 16 [l0, l1] [vI s1, vR c0] σ Q ↔ Wp L d k_X_bears 17 [l0, l1] [vR (gq c0 s1.toNat)] σ Q := wp_aald rfl h hx
theorem r_X_bears_17 : Wp L d k_X_bears 17 [vR b0, l1] [vR c0] σ Q ↔ Wp L d k_X_bears 18 [vR b0, l1] [vR b0, vR c0] σ Q := wp_aload rfl rfl
theorem r_X_bears_18 (h : gK c1 = 0) : Wp L d k_X_bears 18 [l0, l1] [vR c1, vR c0] σ Q ↔ Wp L d k_X_bears 21 [l0, l1] [vR (gq c1 1), vR c0] σ Q := wp_getR (c := 129) rfl rfl rfl rfl rfl h
theorem r_X_bears_21 (h : gK c1 = 1) : Wp L d k_X_bears 21 [l0, l1] [vR c1, vR c0] σ Q ↔ Wp L d k_X_bears 24 [l0, l1] [vR (gq c1 3), vR c0] σ Q := wp_getR (c := 387) rfl rfl rfl rfl rfl h
theorem r_X_bears_24 : Wp L d k_X_bears 24 [l0, vI a1] [vR c1, vR c0] σ Q ↔ Wp L d k_X_bears 25 [l0, vI a1] [vI a1, vR c1, vR c0] σ Q := wp_iload rfl rfl
theorem r_X_bears_25 (h : gK c1 = 102 ∨ gK c1 = 103) (hx : 0 ≤ s2 ∧ s2 < gN c1) : Wp L d k_X_bears 25 [l0, l1] [vI s2, vR c1, vR c0] σ Q ↔ Wp L d k_X_bears 26 [l0, l1] [vR (gq c1 s2.toNat), vR c0] σ Q := wp_aald rfl h hx
theorem r_X_bears_26 (h : gK c1 = 4) : Wp L d k_X_bears 26 [l0, l1] [vR c1, vR c0] σ Q ↔ Wp L d k_X_bears 29 [l0, l1] [vI (σ c1 5), vR c0] σ Q := wp_getI (c := 1029) rfl rfl rfl rfl h
theorem r_X_bears_32 : Wp L d k_X_bears 32 [l0, l1] [vI s0] σ Q ↔ Wp L d k_X_bears 37 [l0, l1] [vI s0] σ Q := wp_goto rfl
theorem r_X_bears_35 : Wp L d k_X_bears 35 [l0, l1] [] σ Q ↔ Wp L d k_X_bears 37 [l0, l1] [vI (-1000000001)] σ Q := wp_push rfl
theorem r_X_bears_37 : Wp L d k_X_bears 37 [l0, l1] [vI s0] σ Q ↔ Q (some (vI s0)) σ := wp_iret rfl
theorem r_X_bears_2 : Wp L (d + 2) k_X_bears 2 [l0, l1] [vI s1, vR 27] σ Q ↔ Wp L (d + 2) k_X_bears 5 [l0, l1] [vI (gb (0 ≤ s1 ∧ s1 ≤ w32 (σ 29 9 - 1)))] σ Q := wp_callR (d := d + 1) (as := [vR 27, vI s1]) (rest := []) rfl rfl rfl rfl rfl rfl rfl (grecv_k (by rw [gK_27]) rfl) (sp_X_isPart)
theorem r_X_bears_29 (hk : gK c0 = 4) (h2 : 1 ≤ σ c0 2 ∧ σ c0 2 ≤ 999) (h4 : 0 ≤ σ c0 4 ∧ σ c0 4 ≤ 99) (h1 : 0 ≤ s1 ∧ s1 ≤ 99) : Wp L (d + 2) k_X_bears 29 [l0, l1] [vI s1, vR c0] σ Q ↔ Wp L (d + 2) k_X_bears 32 [l0, l1] [vI (brbe (σ c0 0) (σ c0 2) (σ c0 4) s1)] σ Q := wp_callR (d := d + 1) (as := [vR c0, vI s1]) (rest := []) rfl rfl rfl rfl rfl rfl rfl (grecv_k (by rw [hk]) rfl) (sp_Q_bearing hk h2 h4 h1)
theorem sp_X_bears_b (hp : w32 (σ 29 9 - 1) = σ 29 9 - 1) (h : ¬ (0 ≤ a1 ∧ a1 ≤ σ 29 9 - 1)) : Run L (d + 2) 32 [vR 27, vI a1] σ (some (vI (-1000000001))) σ := by
  refine Run_of (C' := k_X_bears) rfl ?_
  show Wp L (d + 2) k_X_bears 0 [vR 27, vI a1] [] σ _
  obtain ⟨K27, K28, K29, K78, K97, K99, K109, K123, K125, K279, K282⟩ := litX
  simp (disch := first | assumption | exact gb_01 _ | omega) only [r_X_bears_0, r_X_bears_1, r_X_bears_2, r_X_bears_5, r_X_bears_8, r_X_bears_9, r_X_bears_12, r_X_bears_15, r_X_bears_16, r_X_bears_17, r_X_bears_18, r_X_bears_21, r_X_bears_24, r_X_bears_25, r_X_bears_26, r_X_bears_29, r_X_bears_32, r_X_bears_35, r_X_bears_37, gq_27_0, gq_27_1, gq_27_2, gq_27_3, gq_27_4, gq_27_5, gq_27_6, gq_28_0, gq_28_1, gq_28_2, gq_28_3, gq_28_4, gq_28_5, gq_28_6, hp, w32_gb, w32i, tn_add, tn_mul, Int.toNat_natCast, Int.toNat_zero, Int.reduceLE, Int.reduceLT, Int.reduceEq, Int.reduceNe, gb_T, gb_F, Int.reduceToNat, eq_self, true_or, or_true, and_true, true_and, and_self, ↓ite_gb0, ↓ite_gbn, ↓if_pos, ↓if_neg, if_true, if_false, not_true_eq_false, not_false_eq_true, gb_ne0, gb_eq0]
theorem r_M_bears_0 : Wp L d k_M_bears 0 [vR b0, l1] [] σ Q ↔ Wp L d k_M_bears 1 [vR b0, l1] [vR b0] σ Q := wp_aload rfl rfl
theorem r_M_bears_1 : Wp L d k_M_bears 1 [l0, vI a1] [vR c0] σ Q ↔ Wp L d k_M_bears 2 [l0, vI a1] [vI a1, vR c0] σ Q := wp_iload rfl rfl
theorem r_M_bears_5 : Wp L d k_M_bears 5 [l0, l1] [vI s0] σ Q ↔ (if s0 = 0 then Wp L d k_M_bears 16 [l0, l1] [] σ Q else Wp L d k_M_bears 8 [l0, l1] [] σ Q) := wp_if_eq rfl
theorem r_M_bears_8 : Wp L d k_M_bears 8 [vR b0, l1] [] σ Q ↔ Wp L d k_M_bears 9 [vR b0, l1] [vR b0] σ Q := wp_aload rfl rfl
theorem r_M_bears_9 : Wp L d k_M_bears 9 [l0, vI a1] [vR c0] σ Q ↔ Wp L d k_M_bears 10 [l0, vI a1] [vI a1, vR c0] σ Q := wp_iload rfl rfl
theorem r_M_bears_13 : Wp L d k_M_bears 13 [l0, l1] [vI s0] σ Q ↔ Wp L d k_M_bears 18 [l0, l1] [vI s0] σ Q := wp_goto rfl
theorem r_M_bears_16 : Wp L d k_M_bears 16 [l0, l1] [] σ Q ↔ Wp L d k_M_bears 18 [l0, l1] [vI (-1000000001)] σ Q := wp_push rfl
theorem r_M_bears_18 : Wp L d k_M_bears 18 [l0, l1] [vI s0] σ Q ↔ Q (some (vI s0)) σ := wp_iret rfl
theorem r_M_bears_2 : Wp L (d + 2) k_M_bears 2 [l0, l1] [vI s1, vR 293] σ Q ↔ Wp L (d + 2) k_M_bears 5 [l0, l1] [vI (gb (0 ≤ s1 ∧ s1 ≤ w32 (σ 294 1 - 1)))] σ Q := wp_callR (d := d + 1) (as := [vR 293, vI s1]) (rest := []) rfl rfl rfl rfl rfl rfl rfl (grecv_k (by rw [gK_293]) rfl) (sp_M_isPart)
theorem r_M_bears_10 (hw : WB (σ 294)) (h : 0 ≤ s1 ∧ s1 < σ 294 1) : Wp L (d + 2) k_M_bears 10 [l0, l1] [vI s1, vR 293] σ Q ↔ Wp L (d + 2) k_M_bears 13 [l0, l1] [vI (brb (σ 294) s1.toNat)] σ Q := wp_callR (d := d + 1) (as := [vR 293, vI s1]) (rest := []) rfl rfl rfl rfl rfl rfl rfl (grecv_k (by rw [gK_293]) rfl) (sp_M_bearsOf hw h)
theorem sp_M_bears_b (hp : w32 (σ 294 1 - 1) = σ 294 1 - 1) (h : ¬ (0 ≤ a1 ∧ a1 ≤ σ 294 1 - 1)) : Run L (d + 2) 222 [vR 293, vI a1] σ (some (vI (-1000000001))) σ := by
  refine Run_of (C' := k_M_bears) rfl ?_
  show Wp L (d + 2) k_M_bears 0 [vR 293, vI a1] [] σ _
  obtain ⟨K293, Q293, K294, N294⟩ := litM
  simp (disch := first | assumption | exact gb_01 _ | omega) only [r_M_bears_0, r_M_bears_1, r_M_bears_2, r_M_bears_5, r_M_bears_8, r_M_bears_9, r_M_bears_10, r_M_bears_13, r_M_bears_16, r_M_bears_18, Q293, hp, w32_gb, w32i, tn_add, tn_mul, Int.toNat_natCast, Int.toNat_zero, Int.reduceLE, Int.reduceLT, Int.reduceEq, Int.reduceNe, gb_T, gb_F, Int.reduceToNat, eq_self, true_or, or_true, and_true, true_and, and_self, ↓ite_gb0, ↓ite_gbn, ↓if_pos, ↓if_neg, if_true, if_false, not_true_eq_false, not_false_eq_true, gb_ne0, gb_eq0]
theorem sp_M_bears (hw : WB (σ 294)) (h : 0 ≤ a1 ∧ a1 ≤ σ 294 1 - 1) : Run L (d + 2) 222 [vR 293, vI a1] σ (some (vI (brb (σ 294) a1.toNat))) σ := by
  refine Run_of (C' := k_M_bears) rfl ?_
  show Wp L (d + 2) k_M_bears 0 [vR 293, vI a1] [] σ _
  obtain ⟨K293, Q293, K294, N294⟩ := litM
  have w1 := hw.1
  have w2 := hw.2.1
  simp (disch := first | assumption | exact gb_01 _ | omega) only [r_M_bears_0, r_M_bears_1, r_M_bears_2, r_M_bears_5, r_M_bears_8, r_M_bears_9, r_M_bears_10, r_M_bears_13, r_M_bears_16, r_M_bears_18, Q293, w32_gb, w32i, tn_add, tn_mul, Int.toNat_natCast, Int.toNat_zero, Int.reduceLE, Int.reduceLT, Int.reduceEq, Int.reduceNe, gb_T, gb_F, Int.reduceToNat, eq_self, true_or, or_true, and_true, true_and, and_self, ↓ite_gb0, ↓ite_gbn, ↓if_pos, ↓if_neg, if_true, if_false, not_true_eq_false, not_false_eq_true, gb_ne0, gb_eq0]
theorem sp_X_bears {f : Nat → Int} (hw : WB f) (hc : CB 29 f σ) (h : 0 ≤ a1 ∧ a1 ≤ f 1 - 1) : Run L (d + 2) 32 [vR 27, vI a1] σ (some (vI (brb f a1.toNat))) σ := by
  refine Run_of (C' := k_X_bears) rfl ?_
  show Wp L (d + 2) k_X_bears 0 [vR 27, vI a1] [] σ _
  obtain ⟨K27, K28, K29, K78, K97, K99, K109, K123, K125, K279, K282⟩ := litX
  have hB := BR29
  obtain ⟨⟨K0, q0, q1, q2, q3, q4, q5, q6, q7⟩, ⟨K1, K2, K3, K4, K5, K6, K7, K8⟩, ⟨N1, N2, N3, N4, N5, N6, N7, N8⟩, QP, KP⟩ := hB
  have w2 := hw.2.1
  have c2 := hc.2.1
  have q := CBp hc (p := a1.toNat) (by omega)
  have w := WBp hw (p := a1.toNat) (by omega)
  have kp := KP a1.toNat (by omega)
  have q3 : gq 33 a1.toNat = 38 + a1.toNat := QP _ (by omega)
  simp only [Nat.reduceAdd] at *
  unfold brb
  simp (disch := first | assumption | exact gb_01 _ | omega) only [r_X_bears_0, r_X_bears_1, r_X_bears_2, r_X_bears_5, r_X_bears_8, r_X_bears_9, r_X_bears_12, r_X_bears_15, r_X_bears_16, r_X_bears_17, r_X_bears_18, r_X_bears_21, r_X_bears_24, r_X_bears_25, r_X_bears_26, r_X_bears_29, r_X_bears_32, r_X_bears_35, r_X_bears_37, gq_27_0, gq_27_1, gq_27_2, gq_27_3, gq_27_4, gq_27_5, gq_27_6, gq_28_0, gq_28_1, gq_28_2, gq_28_3, gq_28_4, gq_28_5, gq_28_6, gq_29_3, q3, q, w32_gb, w32i, tn_add, tn_mul, Int.toNat_natCast, Int.toNat_zero, Int.reduceLE, Int.reduceLT, Int.reduceEq, Int.reduceNe, gb_T, gb_F, Int.reduceToNat, eq_self, true_or, or_true, and_true, true_and, and_self, ↓ite_gb0, ↓ite_gbn, ↓if_pos, ↓if_neg, if_true, if_false, not_true_eq_false, not_false_eq_true, gb_ne0, gb_eq0]
theorem op_bears (a1 : Int) : Op 32 222 [vI a1] := by
  intro L d σ hI
  obtain ⟨hw, hc⟩ := iB hI
  have w1 := hw.1
  have w2 := hw.2.1
  have c1 := hc.1
  have c2 := hc.2.1
  have hp : w32 (σ 29 9 - 1) = σ 29 9 - 1 := w32i (by omega)
  have hm : w32 (σ 294 1 - 1) = σ 294 1 - 1 := w32i (by omega)
  
  by_cases h : 0 ≤ a1 ∧ a1 ≤ σ 29 9 - 1
  · exact ⟨_, _, _, sp_X_bears hw hc (by omega), sp_M_bears hw (by omega), hI⟩
  · exact ⟨_, _, _, sp_X_bears_b hp h, sp_M_bears_b hm (by omega), hI⟩
