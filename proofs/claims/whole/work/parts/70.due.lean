/-! check: the class. -/
variable {L d : Nat} {σ σ1 : Nat → Nat → Int} {Q : Option gV → (Nat → Nat → Int) → Prop} {a0 a1 a2 a3 a4 a5 a6 a7 a8 a9 a10 a11 s0 s1 s2 s3 s4 s5 s6 s7 s8 s9 : Int} {l0 l1 l2 l3 l4 l5 l6 l7 l8 l9 l10 l11 t0 t1 t2 t3 t4 t5 t6 t7 t8 t9 : gV} {b0 b1 b2 b3 b4 b5 b6 b7 b8 b9 b10 b11 c0 c1 c2 c3 c4 c5 c6 c7 c8 c9 : Nat} {r : Option gV}
/-- how many stand right ahead of the first that is not due, among m -/
def fms (w D : Nat → Int) (many : Int) : Nat → Nat
  | 0 => 0
  | m + 1 => if fms w D many m = m ∧ (m : Int) < many ∧ w m = D m then m + 1 else fms w D many m
theorem fms_le (w D : Nat → Int) (many : Int) : ∀ m, fms w D many m ≤ m
  | 0 => Nat.le_refl _
  | m + 1 => by
    have := fms_le w D many m
    unfold fms
    split <;> omega
theorem fms_stop {w D : Nat → Int} {many : Int} {k : Nat} (h : fms w D many (k + 1) = k) : ∀ m, fms w D many (k + 1 + m) = k
  | 0 => h
  | m + 1 => by
    have ih := fms_stop h m
    show (if fms w D many (k + 1 + m) = k + 1 + m ∧ _ then _ else _) = k
    rw [if_neg (by omega)]
    exact ih
theorem fms_all {w D : Nat → Int} {many : Int} : ∀ m, fms w D many m = m ↔ ∀ i, i < m → (i : Int) < many ∧ w i = D i
  | 0 => ⟨fun _ i hi => by omega, fun _ => rfl⟩
  | m + 1 => by
    have ih := fms_all (w := w) (D := D) (many := many) m
    have le := fms_le w D many m
    unfold fms
    constructor
    · intro h i hi
      split at h
      · next c =>
        by_cases e : i = m
        · rw [e]; exact c.2
        · exact ih.1 c.1 i (by omega)
      · omega
    · intro h
      rw [if_pos ⟨ih.2 (fun i hi => h i (by omega)), h m (by omega)⟩]
theorem fms_val {w D : Nat → Int} {many : Int} {k n : Nat} (hk : k < n) (h1 : ∀ i, i < k → (i : Int) < many ∧ w i = D i) (h2 : ¬ ((k : Int) < many ∧ w k = D k)) : fms w D many n = k := by
  have a := (fms_all (w := w) (D := D) (many := many) k).2 h1
  have b : fms w D many (k + 1) = k := by
    show (if fms w D many k = k ∧ _ then _ else _) = k
    rw [if_neg (fun z => h2 z.2), a]
  have := fms_stop b (n - (k + 1))
  rw [show k + 1 + (n - (k + 1)) = n by omega] at this
  exact this
def gdue (g : Nat → Int) (k : Nat) : Int := if k % 2 = 0 then ggone (brngt g (k / 2 + 1)) (g 1).toNat else gdown (brngt g (k / 2 + 1)) (g 0).toNat
def gchk (w : Nat → Int) (g : Nat → Int) (many : Int) (n : Nat) : Int := if fms w (gdue g) many (2 * n) = 2 * n ∧ many = 2 * (n : Int) then 0 else 1 + (fms w (gdue g) many (2 * n) : Nat)
theorem gdue_0 (g : Nat → Int) (s : Nat) : gdue g (2 * s) = ggone (brngt g (s + 1)) (g 1).toNat := by
  unfold gdue
  rw [if_pos (by omega), show 2 * s / 2 = s by omega]
theorem gdue_1 (g : Nat → Int) (s : Nat) : gdue g (2 * s + 1) = gdown (brngt g (s + 1)) (g 0).toNat := by
  unfold gdue
  rw [if_neg (by omega), show (2 * s + 1) / 2 = s by omega]
theorem r_X_isTold_0 : Wp L d k_X_isTold 0 [l0, vI a1, l2, l3] [] σ Q ↔ Wp L d k_X_isTold 1 [l0, vI a1, l2, l3] [vI a1] σ Q := wp_iload rfl rfl
theorem r_X_isTold_1 : Wp L d k_X_isTold 1 [l0, l1, vI a2, l3] [vI s0] σ Q ↔ Wp L d k_X_isTold 2 [l0, l1, vI a2, l3] [vI a2, vI s0] σ Q := wp_iload rfl rfl
theorem r_X_isTold_2 : Wp L d k_X_isTold 2 [l0, l1, l2, l3] [vI s1, vI s0] σ Q ↔ (if s1 ≤ s0 then Wp L d k_X_isTold 19 [l0, l1, l2, l3] [] σ Q else Wp L d k_X_isTold 5 [l0, l1, l2, l3] [] σ Q) := wp_cmp_ge rfl
theorem r_X_isTold_5 : Wp L d k_X_isTold 5 [vR b0, l1, l2, l3] [] σ Q ↔ Wp L d k_X_isTold 6 [vR b0, l1, l2, l3] [vR b0] σ Q := wp_aload rfl rfl
theorem r_X_isTold_6 (h : gK c0 = 0) : Wp L d k_X_isTold 6 [l0, l1, l2, l3] [vR c0] σ Q ↔ Wp L d k_X_isTold 9 [l0, l1, l2, l3] [vR (gq c0 6)] σ Q := wp_getR (c := 134) rfl rfl rfl rfl rfl h
theorem r_X_isTold_9 : Wp L d k_X_isTold 9 [l0, vI a1, l2, l3] [vR c0] σ Q ↔ Wp L d k_X_isTold 10 [l0, vI a1, l2, l3] [vI a1, vR c0] σ Q := wp_iload rfl rfl
theorem r_X_isTold_10 (h : gK c0 = 100) (hx : 0 ≤ s1 ∧ s1 < gN c0) : Wp L d k_X_isTold 10 [l0, l1, l2, l3] [vI s1, vR c0] σ Q ↔ Wp L d k_X_isTold 11 [l0, l1, l2, l3] [vI (σ c0 s1.toNat)] σ Q := wp_iald rfl h hx
theorem r_X_isTold_11 : Wp L d k_X_isTold 11 [l0, l1, l2, vI a3] [vI s0] σ Q ↔ Wp L d k_X_isTold 12 [l0, l1, l2, vI a3] [vI a3, vI s0] σ Q := wp_iload rfl rfl
theorem r_X_isTold_12 : Wp L d k_X_isTold 12 [l0, l1, l2, l3] [vI s1, vI s0] σ Q ↔ (if s0 ≠ s1 then Wp L d k_X_isTold 19 [l0, l1, l2, l3] [] σ Q else Wp L d k_X_isTold 15 [l0, l1, l2, l3] [] σ Q) := wp_cmp_ne rfl
theorem r_X_isTold_15 : Wp L d k_X_isTold 15 [l0, l1, l2, l3] [] σ Q ↔ Wp L d k_X_isTold 16 [l0, l1, l2, l3] [vI 1] σ Q := wp_push rfl
theorem r_X_isTold_16 : Wp L d k_X_isTold 16 [l0, l1, l2, l3] [vI s0] σ Q ↔ Wp L d k_X_isTold 20 [l0, l1, l2, l3] [vI s0] σ Q := wp_goto rfl
theorem r_X_isTold_19 : Wp L d k_X_isTold 19 [l0, l1, l2, l3] [] σ Q ↔ Wp L d k_X_isTold 20 [l0, l1, l2, l3] [vI 0] σ Q := wp_push rfl
theorem r_X_isTold_20 (h : s0 = 0 ∨ s0 = 1) : Wp L d k_X_isTold 20 [l0, l1, l2, l3] [vI s0] σ Q ↔ Q (some (vI s0)) σ := wp_zret rfl h
theorem sp_X_isTold (h : 0 ≤ a1 ∧ a1 < 60) : Run L d 85 [vR 27, vI a1, vI a2, vI a3] σ (some (vI (gb (a1 < a2 ∧ σ 292 a1.toNat = a3)))) σ := by
  refine Run_of (C' := k_X_isTold) rfl ?_
  show Wp L d k_X_isTold 0 [vR 27, vI a1, vI a2, vI a3] [] σ _
  obtain ⟨K27, K28, K29, K78, K97, K99, K109, K123, K125, K279, K282⟩ := litX
  obtain ⟨K292, N292, n26, K307, N307⟩ := litW
  by_cases c1 : a1 < a2
  · by_cases c2 : σ 292 a1.toNat = a3
    · rw [gb_t ⟨c1, c2⟩]
      simp (disch := first | assumption | exact gb_01 _ | omega) only [r_X_isTold_0, r_X_isTold_1, r_X_isTold_2, r_X_isTold_5, r_X_isTold_6, r_X_isTold_9, r_X_isTold_10, r_X_isTold_11, r_X_isTold_12, r_X_isTold_15, r_X_isTold_16, r_X_isTold_19, r_X_isTold_20, gq_27_0, gq_27_1, gq_27_2, gq_27_3, gq_27_4, gq_27_5, gq_27_6, gq_28_0, gq_28_1, gq_28_2, gq_28_3, gq_28_4, gq_28_5, gq_28_6, w32_gb, w32i, tn_add, tn_mul, Int.toNat_natCast, Int.toNat_zero, Int.reduceLE, Int.reduceLT, Int.reduceEq, Int.reduceNe, gb_T, gb_F, Int.reduceToNat, eq_self, true_or, or_true, and_true, true_and, and_self, ↓ite_gb0, ↓ite_gbn, ↓if_pos, ↓if_neg, if_true, if_false, not_true_eq_false, not_false_eq_true, gb_ne0, gb_eq0]
    · rw [gb_f (fun z => c2 z.2)]
      simp (disch := first | assumption | exact gb_01 _ | omega) only [r_X_isTold_0, r_X_isTold_1, r_X_isTold_2, r_X_isTold_5, r_X_isTold_6, r_X_isTold_9, r_X_isTold_10, r_X_isTold_11, r_X_isTold_12, r_X_isTold_15, r_X_isTold_16, r_X_isTold_19, r_X_isTold_20, gq_27_0, gq_27_1, gq_27_2, gq_27_3, gq_27_4, gq_27_5, gq_27_6, gq_28_0, gq_28_1, gq_28_2, gq_28_3, gq_28_4, gq_28_5, gq_28_6, w32_gb, w32i, tn_add, tn_mul, Int.toNat_natCast, Int.toNat_zero, Int.reduceLE, Int.reduceLT, Int.reduceEq, Int.reduceNe, gb_T, gb_F, Int.reduceToNat, eq_self, true_or, or_true, and_true, true_and, and_self, ↓ite_gb0, ↓ite_gbn, ↓if_pos, ↓if_neg, if_true, if_false, not_true_eq_false, not_false_eq_true, gb_ne0, gb_eq0]
  · rw [gb_f (fun z => c1 z.1)]
    simp (disch := first | assumption | exact gb_01 _ | omega) only [r_X_isTold_0, r_X_isTold_1, r_X_isTold_2, r_X_isTold_5, r_X_isTold_6, r_X_isTold_9, r_X_isTold_10, r_X_isTold_11, r_X_isTold_12, r_X_isTold_15, r_X_isTold_16, r_X_isTold_19, r_X_isTold_20, gq_27_0, gq_27_1, gq_27_2, gq_27_3, gq_27_4, gq_27_5, gq_27_6, gq_28_0, gq_28_1, gq_28_2, gq_28_3, gq_28_4, gq_28_5, gq_28_6, w32_gb, w32i, tn_add, tn_mul, Int.toNat_natCast, Int.toNat_zero, Int.reduceLE, Int.reduceLT, Int.reduceEq, Int.reduceNe, gb_T, gb_F, Int.reduceToNat, eq_self, true_or, or_true, and_true, true_and, and_self, ↓ite_gb0, ↓ite_gbn, ↓if_pos, ↓if_neg, if_true, if_false, not_true_eq_false, not_false_eq_true, gb_ne0, gb_eq0]
theorem r_X_firstUntrue_0 : Wp L d k_X_firstUntrue 0 [vR b0, l1, l2, l3] [] σ Q ↔ Wp L d k_X_firstUntrue 1 [vR b0, l1, l2, l3] [vR b0] σ Q := wp_aload rfl rfl
theorem r_X_firstUntrue_1 (h : gK c0 = 0) : Wp L d k_X_firstUntrue 1 [l0, l1, l2, l3] [vR c0] σ Q ↔ Wp L d k_X_firstUntrue 4 [l0, l1, l2, l3] [vR (gq c0 3)] σ Q := wp_getR (c := 131) rfl rfl rfl rfl rfl h
theorem r_X_firstUntrue_4 : Wp L d k_X_firstUntrue 4 [vR b0, l1, l2, l3] [vR c0] σ Q ↔ Wp L d k_X_firstUntrue 5 [vR b0, l1, l2, l3] [vR b0, vR c0] σ Q := wp_aload rfl rfl
theorem r_X_firstUntrue_5 (h : gK c1 = 0) : Wp L d k_X_firstUntrue 5 [l0, l1, l2, l3] [vR c1, vR c0] σ Q ↔ Wp L d k_X_firstUntrue 8 [l0, l1, l2, l3] [vR (gq c1 2), vR c0] σ Q := wp_getR (c := 130) rfl rfl rfl rfl rfl h
theorem r_X_firstUntrue_8 (h : gK c1 = 5) : Wp L d k_X_firstUntrue 8 [l0, l1, l2, l3] [vR c1, vR c0] σ Q ↔ Wp L d k_X_firstUntrue 11 [l0, l1, l2, l3] [vR (gq c1 0), vR c0] σ Q := wp_getR (c := 1408) rfl rfl rfl rfl rfl h
theorem c_X_firstUntrue_11 (hR : Run L d 109 [vR c0, vR c1] σ r σ1) (h : gK c0 = 1) : Wp L (d + 1) k_X_firstUntrue 11 [l0, l1, l2, l3] [vR c1, vR c0] σ Q ↔ Wp L (d + 1) k_X_firstUntrue 14 [l0, l1, l2, l3] (r.toList ++ []) σ1 Q := wp_callR (as := [vR c0, vR c1]) (rest := []) rfl rfl rfl rfl rfl rfl rfl (grecv_k (by rw [h]) rfl) hR
theorem r_X_firstUntrue_14 : Wp L d k_X_firstUntrue 14 [vR b0, l1, l2, l3] [] σ Q ↔ Wp L d k_X_firstUntrue 15 [vR b0, l1, l2, l3] [vR b0] σ Q := wp_aload rfl rfl
theorem r_X_firstUntrue_15 (h : gK c0 = 0) : Wp L d k_X_firstUntrue 15 [l0, l1, l2, l3] [vR c0] σ Q ↔ Wp L d k_X_firstUntrue 18 [l0, l1, l2, l3] [vR (gq c0 3)] σ Q := wp_getR (c := 131) rfl rfl rfl rfl rfl h
theorem r_X_firstUntrue_18 : Wp L d k_X_firstUntrue 18 [l0, l1, l2, l3] [vR c0] σ Q ↔ Wp L d k_X_firstUntrue 20 [l0, l1, l2, l3] [vI (-1000000005), vR c0] σ Q := wp_push rfl
theorem r_X_firstUntrue_23 : Wp L d k_X_firstUntrue 23 [l0, l1, l2, l3] [vI s0] σ Q ↔ Wp L d k_X_firstUntrue 24 [l0, l1, l2, l3] [] σ Q := wp_pop rfl
theorem r_X_firstUntrue_24 : Wp L d k_X_firstUntrue 24 [l0, l1, l2, l3] [] σ Q ↔ Wp L d k_X_firstUntrue 25 [l0, l1, l2, l3] [vI 0] σ Q := wp_push rfl
theorem r_X_firstUntrue_25 : Wp L d k_X_firstUntrue 25 [l0, l1, vI a2, l3] [vI s0] σ Q ↔ Wp L d k_X_firstUntrue 26 [l0, l1, vI a2, vI s0] [] σ Q := wp_istore (i := 3) (ls := [l0, l1, vI a2, l3]) rfl rfl
theorem r_X_firstUntrue_26 : Wp L d k_X_firstUntrue 26 [l0, l1, l2, vI a3] [] σ Q ↔ Wp L d k_X_firstUntrue 27 [l0, l1, l2, vI a3] [vI a3] σ Q := wp_iload rfl rfl
theorem r_X_firstUntrue_27 : Wp L d k_X_firstUntrue 27 [l0, vI a1, l2, l3] [vI s0] σ Q ↔ Wp L d k_X_firstUntrue 28 [l0, vI a1, l2, l3] [vI a1, vI s0] σ Q := wp_iload rfl rfl
theorem r_X_firstUntrue_28 : Wp L d k_X_firstUntrue 28 [l0, l1, l2, l3] [vI s1, vI s0] σ Q ↔ (if s1 ≤ s0 then Wp L d k_X_firstUntrue 102 [l0, l1, l2, l3] [] σ Q else Wp L d k_X_firstUntrue 31 [l0, l1, l2, l3] [] σ Q) := wp_cmp_ge rfl
theorem r_X_firstUntrue_31 : Wp L d k_X_firstUntrue 31 [vR b0, l1, l2, l3] [] σ Q ↔ Wp L d k_X_firstUntrue 32 [vR b0, l1, l2, l3] [vR b0] σ Q := wp_aload rfl rfl
theorem r_X_firstUntrue_32 (h : gK c0 = 0) : Wp L d k_X_firstUntrue 32 [l0, l1, l2, l3] [vR c0] σ Q ↔ Wp L d k_X_firstUntrue 35 [l0, l1, l2, l3] [vR (gq c0 2)] σ Q := wp_getR (c := 130) rfl rfl rfl rfl rfl h
theorem r_X_firstUntrue_35 (h : gK c0 = 5) : Wp L d k_X_firstUntrue 35 [l0, l1, l2, l3] [vR c0] σ Q ↔ Wp L d k_X_firstUntrue 38 [l0, l1, l2, l3] [vR (gq c0 2)] σ Q := wp_getR (c := 1410) rfl rfl rfl rfl rfl h
theorem r_X_firstUntrue_38 : Wp L d k_X_firstUntrue 38 [vR b0, l1, l2, l3] [vR c0] σ Q ↔ Wp L d k_X_firstUntrue 39 [vR b0, l1, l2, l3] [vR b0, vR c0] σ Q := wp_aload rfl rfl
theorem r_X_firstUntrue_39 (h : gK c1 = 0) : Wp L d k_X_firstUntrue 39 [l0, l1, l2, l3] [vR c1, vR c0] σ Q ↔ Wp L d k_X_firstUntrue 42 [l0, l1, l2, l3] [vR (gq c1 3), vR c0] σ Q := wp_getR (c := 131) rfl rfl rfl rfl rfl h
theorem r_X_firstUntrue_42 : Wp L d k_X_firstUntrue 42 [l0, l1, l2, vI a3] [vR c1, vR c0] σ Q ↔ Wp L d k_X_firstUntrue 43 [l0, l1, l2, vI a3] [vI a3, vR c1, vR c0] σ Q := wp_iload rfl rfl
theorem c_X_firstUntrue_43 (hR : Run L d 120 [vR c0, vR c1, vI s2] σ r σ1) (h : gK c0 = 2) : Wp L (d + 1) k_X_firstUntrue 43 [l0, l1, l2, l3] [vI s2, vR c1, vR c0] σ Q ↔ Wp L (d + 1) k_X_firstUntrue 46 [l0, l1, l2, l3] (r.toList ++ []) σ1 Q := wp_callR (as := [vR c0, vR c1, vI s2]) (rest := []) rfl rfl rfl rfl rfl rfl rfl (grecv_k (by rw [h]) rfl) hR
theorem r_X_firstUntrue_46 : Wp L d k_X_firstUntrue 46 [vR b0, l1, l2, l3] [] σ Q ↔ Wp L d k_X_firstUntrue 47 [vR b0, l1, l2, l3] [vR b0] σ Q := wp_aload rfl rfl
theorem r_X_firstUntrue_47 : Wp L d k_X_firstUntrue 47 [l0, l1, l2, l3] [vR c0] σ Q ↔ Wp L d k_X_firstUntrue 48 [l0, l1, l2, l3] [vI 2, vR c0] σ Q := wp_push rfl
theorem r_X_firstUntrue_48 : Wp L d k_X_firstUntrue 48 [l0, l1, l2, vI a3] [vI s1, vR c0] σ Q ↔ Wp L d k_X_firstUntrue 49 [l0, l1, l2, vI a3] [vI a3, vI s1, vR c0] σ Q := wp_iload rfl rfl
theorem r_X_firstUntrue_49 : Wp L d k_X_firstUntrue 49 [l0, l1, l2, l3] [vI s2, vI s1, vR c0] σ Q ↔ Wp L d k_X_firstUntrue 50 [l0, l1, l2, l3] [vI (w32 (s1 * s2)), vR c0] σ Q := wp_imul rfl
theorem r_X_firstUntrue_50 : Wp L d k_X_firstUntrue 50 [l0, l1, vI a2, l3] [vI s1, vR c0] σ Q ↔ Wp L d k_X_firstUntrue 51 [l0, l1, vI a2, l3] [vI a2, vI s1, vR c0] σ Q := wp_iload rfl rfl
theorem r_X_firstUntrue_51 : Wp L d k_X_firstUntrue 51 [vR b0, l1, l2, l3] [vI s2, vI s1, vR c0] σ Q ↔ Wp L d k_X_firstUntrue 52 [vR b0, l1, l2, l3] [vR b0, vI s2, vI s1, vR c0] σ Q := wp_aload rfl rfl
theorem r_X_firstUntrue_52 (h : gK c3 = 0) : Wp L d k_X_firstUntrue 52 [l0, l1, l2, l3] [vR c3, vI s2, vI s1, vR c0] σ Q ↔ Wp L d k_X_firstUntrue 55 [l0, l1, l2, l3] [vR (gq c3 3), vI s2, vI s1, vR c0] σ Q := wp_getR (c := 131) rfl rfl rfl rfl rfl h
theorem c_X_firstUntrue_55 (hR : Run L d 94 [vR c3] σ r σ1) (h : gK c3 = 1) : Wp L (d + 1) k_X_firstUntrue 55 [l0, l1, l2, l3] [vR c3, vI s2, vI s1, vR c0] σ Q ↔ Wp L (d + 1) k_X_firstUntrue 58 [l0, l1, l2, l3] (r.toList ++ [vI s2, vI s1, vR c0]) σ1 Q := wp_callR (as := [vR c3]) (rest := [vI s2, vI s1, vR c0]) rfl rfl rfl rfl rfl rfl rfl (grecv_k (by rw [h]) rfl) hR
theorem r_X_firstUntrue_61 : Wp L d k_X_firstUntrue 61 [l0, l1, l2, l3] [vI s0] σ Q ↔ (if s0 ≠ 0 then Wp L d k_X_firstUntrue 70 [l0, l1, l2, l3] [] σ Q else Wp L d k_X_firstUntrue 64 [l0, l1, l2, l3] [] σ Q) := wp_if_ne rfl
theorem r_X_firstUntrue_64 : Wp L d k_X_firstUntrue 64 [l0, l1, l2, l3] [] σ Q ↔ Wp L d k_X_firstUntrue 65 [l0, l1, l2, l3] [vI 1] σ Q := wp_push rfl
theorem r_X_firstUntrue_65 : Wp L d k_X_firstUntrue 65 [l0, l1, l2, l3] [vI s0] σ Q ↔ Wp L d k_X_firstUntrue 66 [l0, l1, l2, l3] [vI 2, vI s0] σ Q := wp_push rfl
theorem r_X_firstUntrue_66 : Wp L d k_X_firstUntrue 66 [l0, l1, l2, vI a3] [vI s1, vI s0] σ Q ↔ Wp L d k_X_firstUntrue 67 [l0, l1, l2, vI a3] [vI a3, vI s1, vI s0] σ Q := wp_iload rfl rfl
theorem r_X_firstUntrue_67 : Wp L d k_X_firstUntrue 67 [l0, l1, l2, l3] [vI s2, vI s1, vI s0] σ Q ↔ Wp L d k_X_firstUntrue 68 [l0, l1, l2, l3] [vI (w32 (s1 * s2)), vI s0] σ Q := wp_imul rfl
theorem r_X_firstUntrue_68 : Wp L d k_X_firstUntrue 68 [l0, l1, l2, l3] [vI s1, vI s0] σ Q ↔ Wp L d k_X_firstUntrue 69 [l0, l1, l2, l3] [vI (w32 (s0 + s1))] σ Q := wp_iadd rfl
theorem r_X_firstUntrue_69 : Wp L d k_X_firstUntrue 69 [l0, l1, l2, l3] [vI s0] σ Q ↔ Q (some (vI s0)) σ := wp_iret rfl
theorem r_X_firstUntrue_70 : Wp L d k_X_firstUntrue 70 [vR b0, l1, l2, l3] [] σ Q ↔ Wp L d k_X_firstUntrue 71 [vR b0, l1, l2, l3] [vR b0] σ Q := wp_aload rfl rfl
theorem r_X_firstUntrue_71 : Wp L d k_X_firstUntrue 71 [l0, l1, l2, l3] [vR c0] σ Q ↔ Wp L d k_X_firstUntrue 72 [l0, l1, l2, l3] [vI 2, vR c0] σ Q := wp_push rfl
theorem r_X_firstUntrue_72 : Wp L d k_X_firstUntrue 72 [l0, l1, l2, vI a3] [vI s1, vR c0] σ Q ↔ Wp L d k_X_firstUntrue 73 [l0, l1, l2, vI a3] [vI a3, vI s1, vR c0] σ Q := wp_iload rfl rfl
theorem r_X_firstUntrue_73 : Wp L d k_X_firstUntrue 73 [l0, l1, l2, l3] [vI s2, vI s1, vR c0] σ Q ↔ Wp L d k_X_firstUntrue 74 [l0, l1, l2, l3] [vI (w32 (s1 * s2)), vR c0] σ Q := wp_imul rfl
theorem r_X_firstUntrue_74 : Wp L d k_X_firstUntrue 74 [l0, l1, l2, l3] [vI s1, vR c0] σ Q ↔ Wp L d k_X_firstUntrue 75 [l0, l1, l2, l3] [vI 1, vI s1, vR c0] σ Q := wp_push rfl
theorem r_X_firstUntrue_75 : Wp L d k_X_firstUntrue 75 [l0, l1, l2, l3] [vI s2, vI s1, vR c0] σ Q ↔ Wp L d k_X_firstUntrue 76 [l0, l1, l2, l3] [vI (w32 (s1 + s2)), vR c0] σ Q := wp_iadd rfl
theorem r_X_firstUntrue_76 : Wp L d k_X_firstUntrue 76 [l0, l1, vI a2, l3] [vI s1, vR c0] σ Q ↔ Wp L d k_X_firstUntrue 77 [l0, l1, vI a2, l3] [vI a2, vI s1, vR c0] σ Q := wp_iload rfl rfl
theorem r_X_firstUntrue_77 : Wp L d k_X_firstUntrue 77 [vR b0, l1, l2, l3] [vI s2, vI s1, vR c0] σ Q ↔ Wp L d k_X_firstUntrue 78 [vR b0, l1, l2, l3] [vR b0, vI s2, vI s1, vR c0] σ Q := wp_aload rfl rfl
theorem r_X_firstUntrue_78 (h : gK c3 = 0) : Wp L d k_X_firstUntrue 78 [l0, l1, l2, l3] [vR c3, vI s2, vI s1, vR c0] σ Q ↔ Wp L d k_X_firstUntrue 81 [l0, l1, l2, l3] [vR (gq c3 3), vI s2, vI s1, vR c0] σ Q := wp_getR (c := 131) rfl rfl rfl rfl rfl h
theorem c_X_firstUntrue_81 (hR : Run L d 117 [vR c3] σ r σ1) (h : gK c3 = 1) : Wp L (d + 1) k_X_firstUntrue 81 [l0, l1, l2, l3] [vR c3, vI s2, vI s1, vR c0] σ Q ↔ Wp L (d + 1) k_X_firstUntrue 84 [l0, l1, l2, l3] (r.toList ++ [vI s2, vI s1, vR c0]) σ1 Q := wp_callR (as := [vR c3]) (rest := [vI s2, vI s1, vR c0]) rfl rfl rfl rfl rfl rfl rfl (grecv_k (by rw [h]) rfl) hR
theorem r_X_firstUntrue_87 : Wp L d k_X_firstUntrue 87 [l0, l1, l2, l3] [vI s0] σ Q ↔ (if s0 ≠ 0 then Wp L d k_X_firstUntrue 96 [l0, l1, l2, l3] [] σ Q else Wp L d k_X_firstUntrue 90 [l0, l1, l2, l3] [] σ Q) := wp_if_ne rfl
theorem r_X_firstUntrue_90 : Wp L d k_X_firstUntrue 90 [l0, l1, l2, l3] [] σ Q ↔ Wp L d k_X_firstUntrue 91 [l0, l1, l2, l3] [vI 2] σ Q := wp_push rfl
theorem r_X_firstUntrue_91 : Wp L d k_X_firstUntrue 91 [l0, l1, l2, l3] [vI s0] σ Q ↔ Wp L d k_X_firstUntrue 92 [l0, l1, l2, l3] [vI 2, vI s0] σ Q := wp_push rfl
theorem r_X_firstUntrue_92 : Wp L d k_X_firstUntrue 92 [l0, l1, l2, vI a3] [vI s1, vI s0] σ Q ↔ Wp L d k_X_firstUntrue 93 [l0, l1, l2, vI a3] [vI a3, vI s1, vI s0] σ Q := wp_iload rfl rfl
theorem r_X_firstUntrue_93 : Wp L d k_X_firstUntrue 93 [l0, l1, l2, l3] [vI s2, vI s1, vI s0] σ Q ↔ Wp L d k_X_firstUntrue 94 [l0, l1, l2, l3] [vI (w32 (s1 * s2)), vI s0] σ Q := wp_imul rfl
theorem r_X_firstUntrue_94 : Wp L d k_X_firstUntrue 94 [l0, l1, l2, l3] [vI s1, vI s0] σ Q ↔ Wp L d k_X_firstUntrue 95 [l0, l1, l2, l3] [vI (w32 (s0 + s1))] σ Q := wp_iadd rfl
theorem r_X_firstUntrue_95 : Wp L d k_X_firstUntrue 95 [l0, l1, l2, l3] [vI s0] σ Q ↔ Q (some (vI s0)) σ := wp_iret rfl
theorem r_X_firstUntrue_96 : Wp L d k_X_firstUntrue 96 [l0, l1, vI a2, vI a3] [] σ Q ↔ Wp L d k_X_firstUntrue 99 [l0, l1, vI a2, vI (w32 (a3 + 1))] [] σ Q := wp_iinc (i := 3) (ls := [l0, l1, vI a2, vI a3]) rfl rfl
theorem r_X_firstUntrue_99 : Wp L d k_X_firstUntrue 99 [l0, l1, l2, l3] [] σ Q ↔ Wp L d k_X_firstUntrue 26 [l0, l1, l2, l3] [] σ Q := wp_goto rfl
theorem r_X_firstUntrue_102 : Wp L d k_X_firstUntrue 102 [l0, l1, vI a2, l3] [] σ Q ↔ Wp L d k_X_firstUntrue 103 [l0, l1, vI a2, l3] [vI a2] σ Q := wp_iload rfl rfl
theorem r_X_firstUntrue_103 : Wp L d k_X_firstUntrue 103 [l0, l1, l2, l3] [vI s0] σ Q ↔ Wp L d k_X_firstUntrue 104 [l0, l1, l2, l3] [vI 2, vI s0] σ Q := wp_push rfl
theorem r_X_firstUntrue_104 : Wp L d k_X_firstUntrue 104 [l0, vI a1, l2, l3] [vI s1, vI s0] σ Q ↔ Wp L d k_X_firstUntrue 105 [l0, vI a1, l2, l3] [vI a1, vI s1, vI s0] σ Q := wp_iload rfl rfl
theorem r_X_firstUntrue_105 : Wp L d k_X_firstUntrue 105 [l0, l1, l2, l3] [vI s2, vI s1, vI s0] σ Q ↔ Wp L d k_X_firstUntrue 106 [l0, l1, l2, l3] [vI (w32 (s1 * s2)), vI s0] σ Q := wp_imul rfl
theorem r_X_firstUntrue_106 : Wp L d k_X_firstUntrue 106 [l0, l1, l2, l3] [vI s1, vI s0] σ Q ↔ (if s0 ≠ s1 then Wp L d k_X_firstUntrue 113 [l0, l1, l2, l3] [] σ Q else Wp L d k_X_firstUntrue 109 [l0, l1, l2, l3] [] σ Q) := wp_cmp_ne rfl
theorem r_X_firstUntrue_109 : Wp L d k_X_firstUntrue 109 [l0, l1, l2, l3] [] σ Q ↔ Wp L d k_X_firstUntrue 110 [l0, l1, l2, l3] [vI 0] σ Q := wp_push rfl
theorem r_X_firstUntrue_110 : Wp L d k_X_firstUntrue 110 [l0, l1, l2, l3] [vI s0] σ Q ↔ Wp L d k_X_firstUntrue 118 [l0, l1, l2, l3] [vI s0] σ Q := wp_goto rfl
theorem r_X_firstUntrue_113 : Wp L d k_X_firstUntrue 113 [l0, l1, l2, l3] [] σ Q ↔ Wp L d k_X_firstUntrue 114 [l0, l1, l2, l3] [vI 1] σ Q := wp_push rfl
theorem r_X_firstUntrue_114 : Wp L d k_X_firstUntrue 114 [l0, l1, l2, l3] [vI s0] σ Q ↔ Wp L d k_X_firstUntrue 115 [l0, l1, l2, l3] [vI 2, vI s0] σ Q := wp_push rfl
theorem r_X_firstUntrue_115 : Wp L d k_X_firstUntrue 115 [l0, vI a1, l2, l3] [vI s1, vI s0] σ Q ↔ Wp L d k_X_firstUntrue 116 [l0, vI a1, l2, l3] [vI a1, vI s1, vI s0] σ Q := wp_iload rfl rfl
theorem r_X_firstUntrue_116 : Wp L d k_X_firstUntrue 116 [l0, l1, l2, l3] [vI s2, vI s1, vI s0] σ Q ↔ Wp L d k_X_firstUntrue 117 [l0, l1, l2, l3] [vI (w32 (s1 * s2)), vI s0] σ Q := wp_imul rfl
theorem r_X_firstUntrue_117 : Wp L d k_X_firstUntrue 117 [l0, l1, l2, l3] [vI s1, vI s0] σ Q ↔ Wp L d k_X_firstUntrue 118 [l0, l1, l2, l3] [vI (w32 (s0 + s1))] σ Q := wp_iadd rfl
theorem r_X_firstUntrue_118 : Wp L d k_X_firstUntrue 118 [l0, l1, l2, l3] [vI s0] σ Q ↔ Q (some (vI s0)) σ := wp_iret rfl
theorem r_X_firstUntrue_20 (hk : gK c0 = 1) : Wp L (d + 5) k_X_firstUntrue 20 [l0, l1, l2, l3] [vI s1, vR c0] σ Q ↔ Wp L (d + 5) k_X_firstUntrue 23 [l0, l1, l2, l3] [vI (σ c0 12)] (gupd (gupd σ c0 12 s1) c0 13 0) Q := wp_callR (d := d + 4) (as := [vR c0, vI s1]) (rest := []) rfl rfl rfl rfl rfl rfl rfl (grecv_k (by rw [hk]) rfl) (sp_B_placeTrain0 hk)
theorem r_X_firstUntrue_58 (h : 0 ≤ s1 ∧ s1 < 60) : Wp L (d + 5) k_X_firstUntrue 58 [l0, l1, l2, l3] [vI s3, vI s2, vI s1, vR 27] σ Q ↔ Wp L (d + 5) k_X_firstUntrue 61 [l0, l1, l2, l3] [vI (gb (s1 < s2 ∧ σ 292 s1.toNat = s3))] σ Q := wp_callR (d := d + 4) (as := [vR 27, vI s1, vI s2, vI s3]) (rest := []) rfl rfl rfl rfl rfl rfl rfl (grecv_k (by rw [gK_27]) rfl) (sp_X_isTold h)
theorem r_X_firstUntrue_84 (h : 0 ≤ s1 ∧ s1 < 60) : Wp L (d + 5) k_X_firstUntrue 84 [l0, l1, l2, l3] [vI s3, vI s2, vI s1, vR 27] σ Q ↔ Wp L (d + 5) k_X_firstUntrue 87 [l0, l1, l2, l3] [vI (gb (s1 < s2 ∧ σ 292 s1.toNat = s3))] σ Q := wp_callR (d := d + 4) (as := [vR 27, vI s1, vI s2, vI s3]) (rest := []) rfl rfl rfl rfl rfl rfl rfl (grecv_k (by rw [gK_27]) rfl) (sp_X_isTold h)
theorem sp_X_firstUntrue {g : Nat → Int} {n : Nat} (hw : WB g) (hc : CB 130 g σ) (hg : WG g) (hcg : CG 198 g σ) (hd : ∀ j : Nat, σ 133 j = 0 ∨ σ 133 j = 1) (hn : 1 ≤ n ∧ n ≤ 30) (h2 : 0 ≤ a2 ∧ a2 ≤ 60) : ∃ σ', Run L (d + 5) 84 [vR 27, vI (n : Int), vI a2] σ (some (vI (gchk (σ 292) g a2 n))) σ' ∧ Agr σ σ' (ZBr 230) := by
  refine Run_ex (C' := k_X_firstUntrue) rfl ?_
  show Wp L (d + 5) k_X_firstUntrue 0 [vR 27, vI (n : Int), vI a2, vU] [] σ _
  obtain ⟨K27, K28, K29, K78, K97, K99, K109, K123, K125, K279, K282⟩ := litX
  have K129 := gK_129
  have K230 := gK_230
  have K198 := gK_198
  obtain ⟨τ0, hR0, hc0, hA0⟩ := sp_B_become (L := L) (d := d + 3) (σ := σ) (b := 230) (c := 130) BR230 BR130 (fun j i hj => by unfold ZBr; omega) hw hc hd
  simp (disch := first | assumption | exact gb_01 _ | omega) only [r_X_firstUntrue_0, r_X_firstUntrue_1, r_X_firstUntrue_4, r_X_firstUntrue_5, r_X_firstUntrue_8, r_X_firstUntrue_14, r_X_firstUntrue_15, r_X_firstUntrue_18, r_X_firstUntrue_20, r_X_firstUntrue_23, r_X_firstUntrue_24, r_X_firstUntrue_25, r_X_firstUntrue_27, r_X_firstUntrue_28, r_X_firstUntrue_31, r_X_firstUntrue_32, r_X_firstUntrue_35, r_X_firstUntrue_38, r_X_firstUntrue_39, r_X_firstUntrue_42, r_X_firstUntrue_46, r_X_firstUntrue_47, r_X_firstUntrue_48, r_X_firstUntrue_49, r_X_firstUntrue_50, r_X_firstUntrue_51, r_X_firstUntrue_52, r_X_firstUntrue_58, r_X_firstUntrue_61, r_X_firstUntrue_64, r_X_firstUntrue_65, r_X_firstUntrue_66, r_X_firstUntrue_67, r_X_firstUntrue_68, r_X_firstUntrue_69, r_X_firstUntrue_70, r_X_firstUntrue_71, r_X_firstUntrue_72, r_X_firstUntrue_73, r_X_firstUntrue_74, r_X_firstUntrue_75, r_X_firstUntrue_76, r_X_firstUntrue_77, r_X_firstUntrue_78, r_X_firstUntrue_84, r_X_firstUntrue_87, r_X_firstUntrue_90, r_X_firstUntrue_91, r_X_firstUntrue_92, r_X_firstUntrue_93, r_X_firstUntrue_94, r_X_firstUntrue_95, r_X_firstUntrue_96, r_X_firstUntrue_99, r_X_firstUntrue_102, r_X_firstUntrue_103, r_X_firstUntrue_104, r_X_firstUntrue_105, r_X_firstUntrue_106, r_X_firstUntrue_109, r_X_firstUntrue_110, r_X_firstUntrue_113, r_X_firstUntrue_114, r_X_firstUntrue_115, r_X_firstUntrue_116, r_X_firstUntrue_117, r_X_firstUntrue_118, c_X_firstUntrue_11 hR0, Option.toList, List.singleton_append, List.cons_append, List.nil_append, List.append_nil, gq_27_0, gq_27_1, gq_27_2, gq_27_3, gq_27_4, gq_27_5, gq_27_6, gq_28_0, gq_28_1, gq_28_2, gq_28_3, gq_28_4, gq_28_5, gq_28_6, gq_129_0, gq_129_2, w32_gb, w32i, tn_add, tn_mul, Int.toNat_natCast, Int.toNat_zero, Int.reduceLE, Int.reduceLT, Int.reduceEq, Int.reduceNe, gb_T, gb_F, Int.reduceToNat, eq_self, true_or, or_true, and_true, true_and, and_self, ↓ite_gb0, ↓ite_gbn, ↓if_pos, ↓if_neg, if_true, if_false, not_true_eq_false, not_false_eq_true, gb_ne0, gb_eq0]
  refine wloop (n := n) (I := fun k ls τ => ls = [vR 27, vI (n : Int), vI a2, vI (k : Int)] ∧ CB 230 (brngt g k) τ ∧ Agr σ τ (ZBr 230) ∧ ∀ i, i < 2 * k → (i : Int) < a2 ∧ σ 292 i = gdue g i) (fun k ls τ hk hi hq => ?_) (fun ls τ hi => ?_) n 0 (by omega) _ _ ⟨rfl, CB_train (t := -1) rfl hw hc0, Agr_upd (Agr_upd hA0 (by unfold ZBr; omega)) (by unfold ZBr; omega), fun i hi => by omega⟩
  · obtain ⟨rfl, hc1, hA, hm⟩ := hi
    obtain ⟨⟨hw1, hs1⟩, hN⟩ := brngt_ok hw k
    obtain ⟨⟨hw2, hs2⟩, -⟩ := brngt_ok hw (k + 1)
    obtain ⟨τ1, hR1, hc2, hA1⟩ := sp_G_passSecond (L := L) (d := d + 0) (σ := τ) (c := 198) (s := k) BR230 hw1 hc1 GL198 (by omega) (WG_sb hs1 hg) (CG_sb hs1 (fun k j hk => hA k j (by unfold ZBr; omega)) hcg) (by omega) hN
    rw [← brngt_s] at hc2
    have hA2 := Agr_trans hA hA1
    have hG := sp_B_goneCount (L := L) (d := d + 3) (σ := τ1) BR230 hw2 hc2
    have hD := sp_B_downCount (L := L) (d := d + 3) (σ := τ1) BR230 hw2 hc2
    rw [(SB01 hs2).2, ← gdue_0] at hG
    rw [(SB01 hs2).1, ← gdue_1] at hD
    have w0 : τ1 292 (2 * k) = σ 292 (2 * k) := hA2 _ _ (by unfold ZBr; omega)
    have w1 : τ1 292 (2 * k + 1) = σ 292 (2 * k + 1) := hA2 _ _ (by unfold ZBr; omega)
    have t0 : (2 * (k : Int)).toNat = 2 * k := by omega
    have t1 : (2 * (k : Int) + 1).toNat = 2 * k + 1 := by omega
    have lt0 : ((2 * k : Nat) : Int) = 2 * (k : Int) := by omega
    have lt1 : ((2 * k + 1 : Nat) : Int) = 2 * (k : Int) + 1 := by omega
    rw [r_X_firstUntrue_26]
    by_cases m0 : 2 * (k : Int) < a2 ∧ σ 292 (2 * k) = gdue g (2 * k)
    · have p0 : 2 * (k : Int) < a2 ∧ τ1 292 (2 * (k : Int)).toNat = gdue g (2 * k) := by rw [t0, w0]; exact m0
      by_cases m1 : 2 * (k : Int) + 1 < a2 ∧ σ 292 (2 * k + 1) = gdue g (2 * k + 1)
      · have p1 : 2 * (k : Int) + 1 < a2 ∧ τ1 292 (2 * (k : Int) + 1).toNat = gdue g (2 * k + 1) := by rw [t1, w1]; exact m1
        simp (disch := first | assumption | exact gb_01 _ | omega) only [r_X_firstUntrue_0, r_X_firstUntrue_1, r_X_firstUntrue_4, r_X_firstUntrue_5, r_X_firstUntrue_8, r_X_firstUntrue_14, r_X_firstUntrue_15, r_X_firstUntrue_18, r_X_firstUntrue_20, r_X_firstUntrue_23, r_X_firstUntrue_24, r_X_firstUntrue_25, r_X_firstUntrue_27, r_X_firstUntrue_28, r_X_firstUntrue_31, r_X_firstUntrue_32, r_X_firstUntrue_35, r_X_firstUntrue_38, r_X_firstUntrue_39, r_X_firstUntrue_42, r_X_firstUntrue_46, r_X_firstUntrue_47, r_X_firstUntrue_48, r_X_firstUntrue_49, r_X_firstUntrue_50, r_X_firstUntrue_51, r_X_firstUntrue_52, r_X_firstUntrue_58, r_X_firstUntrue_61, r_X_firstUntrue_64, r_X_firstUntrue_65, r_X_firstUntrue_66, r_X_firstUntrue_67, r_X_firstUntrue_68, r_X_firstUntrue_69, r_X_firstUntrue_70, r_X_firstUntrue_71, r_X_firstUntrue_72, r_X_firstUntrue_73, r_X_firstUntrue_74, r_X_firstUntrue_75, r_X_firstUntrue_76, r_X_firstUntrue_77, r_X_firstUntrue_78, r_X_firstUntrue_84, r_X_firstUntrue_87, r_X_firstUntrue_90, r_X_firstUntrue_91, r_X_firstUntrue_92, r_X_firstUntrue_93, r_X_firstUntrue_94, r_X_firstUntrue_95, r_X_firstUntrue_96, r_X_firstUntrue_99, r_X_firstUntrue_102, r_X_firstUntrue_103, r_X_firstUntrue_104, r_X_firstUntrue_105, r_X_firstUntrue_106, r_X_firstUntrue_109, r_X_firstUntrue_110, r_X_firstUntrue_113, r_X_firstUntrue_114, r_X_firstUntrue_115, r_X_firstUntrue_116, r_X_firstUntrue_117, r_X_firstUntrue_118, c_X_firstUntrue_43 hR1, c_X_firstUntrue_55 hG, c_X_firstUntrue_81 hD, Option.toList, List.singleton_append, List.cons_append, List.nil_append, List.append_nil, gq_27_0, gq_27_1, gq_27_2, gq_27_3, gq_27_4, gq_27_5, gq_27_6, gq_28_0, gq_28_1, gq_28_2, gq_28_3, gq_28_4, gq_28_5, gq_28_6, gq_129_0, gq_129_2, w32_gb, w32i, tn_add, tn_mul, Int.toNat_natCast, Int.toNat_zero, Int.reduceLE, Int.reduceLT, Int.reduceEq, Int.reduceNe, gb_T, gb_F, Int.reduceToNat, eq_self, true_or, or_true, and_true, true_and, and_self, ↓ite_gb0, ↓ite_gbn, ↓if_pos, ↓if_neg, if_true, if_false, not_true_eq_false, not_false_eq_true, gb_ne0, gb_eq0]
        refine hq _ _ ⟨by simp only [List.cons.injEq, vI_inj, vR_inj, and_true, true_and]; omega, hc2, hA2, fun i hi => ?_⟩
        by_cases e : i = 2 * k
        · rw [e, lt0]; exact m0
        · by_cases e2 : i = 2 * k + 1
          · rw [e2, lt1]; exact m1
          · exact hm i (by omega)
      · have p1 : ¬ (2 * (k : Int) + 1 < a2 ∧ τ1 292 (2 * (k : Int) + 1).toNat = gdue g (2 * k + 1)) := by rw [t1, w1]; exact m1
        have fv : fms (σ 292) (gdue g) a2 (2 * n) = 2 * k + 1 := fms_val (by omega) (fun i hi => by
          by_cases e : i = 2 * k
          · rw [e, lt0]; exact m0
          · exact hm i (by omega)) (by rw [lt1]; exact m1)
        have ch : gchk (σ 292) g a2 n = 2 + 2 * (k : Int) := by
          unfold gchk
          rw [fv, if_neg (by omega)]
          omega
        rw [ch]
        simp (disch := first | assumption | exact gb_01 _ | omega) only [r_X_firstUntrue_0, r_X_firstUntrue_1, r_X_firstUntrue_4, r_X_firstUntrue_5, r_X_firstUntrue_8, r_X_firstUntrue_14, r_X_firstUntrue_15, r_X_firstUntrue_18, r_X_firstUntrue_20, r_X_firstUntrue_23, r_X_firstUntrue_24, r_X_firstUntrue_25, r_X_firstUntrue_27, r_X_firstUntrue_28, r_X_firstUntrue_31, r_X_firstUntrue_32, r_X_firstUntrue_35, r_X_firstUntrue_38, r_X_firstUntrue_39, r_X_firstUntrue_42, r_X_firstUntrue_46, r_X_firstUntrue_47, r_X_firstUntrue_48, r_X_firstUntrue_49, r_X_firstUntrue_50, r_X_firstUntrue_51, r_X_firstUntrue_52, r_X_firstUntrue_58, r_X_firstUntrue_61, r_X_firstUntrue_64, r_X_firstUntrue_65, r_X_firstUntrue_66, r_X_firstUntrue_67, r_X_firstUntrue_68, r_X_firstUntrue_69, r_X_firstUntrue_70, r_X_firstUntrue_71, r_X_firstUntrue_72, r_X_firstUntrue_73, r_X_firstUntrue_74, r_X_firstUntrue_75, r_X_firstUntrue_76, r_X_firstUntrue_77, r_X_firstUntrue_78, r_X_firstUntrue_84, r_X_firstUntrue_87, r_X_firstUntrue_90, r_X_firstUntrue_91, r_X_firstUntrue_92, r_X_firstUntrue_93, r_X_firstUntrue_94, r_X_firstUntrue_95, r_X_firstUntrue_96, r_X_firstUntrue_99, r_X_firstUntrue_102, r_X_firstUntrue_103, r_X_firstUntrue_104, r_X_firstUntrue_105, r_X_firstUntrue_106, r_X_firstUntrue_109, r_X_firstUntrue_110, r_X_firstUntrue_113, r_X_firstUntrue_114, r_X_firstUntrue_115, r_X_firstUntrue_116, r_X_firstUntrue_117, r_X_firstUntrue_118, c_X_firstUntrue_43 hR1, c_X_firstUntrue_55 hG, c_X_firstUntrue_81 hD, Option.toList, List.singleton_append, List.cons_append, List.nil_append, List.append_nil, gq_27_0, gq_27_1, gq_27_2, gq_27_3, gq_27_4, gq_27_5, gq_27_6, gq_28_0, gq_28_1, gq_28_2, gq_28_3, gq_28_4, gq_28_5, gq_28_6, gq_129_0, gq_129_2, w32_gb, w32i, tn_add, tn_mul, Int.toNat_natCast, Int.toNat_zero, Int.reduceLE, Int.reduceLT, Int.reduceEq, Int.reduceNe, gb_T, gb_F, Int.reduceToNat, eq_self, true_or, or_true, and_true, true_and, and_self, ↓ite_gb0, ↓ite_gbn, ↓if_pos, ↓if_neg, if_true, if_false, not_true_eq_false, not_false_eq_true, gb_ne0, gb_eq0]
        exact hA2
    · have p0 : ¬ (2 * (k : Int) < a2 ∧ τ1 292 (2 * (k : Int)).toNat = gdue g (2 * k)) := by rw [t0, w0]; exact m0
      have fv : fms (σ 292) (gdue g) a2 (2 * n) = 2 * k := fms_val (by omega) hm (by rw [lt0]; exact m0)
      have ch : gchk (σ 292) g a2 n = 1 + 2 * (k : Int) := by
        unfold gchk
        rw [fv, if_neg (by omega)]
        omega
      rw [ch]
      simp (disch := first | assumption | exact gb_01 _ | omega) only [r_X_firstUntrue_0, r_X_firstUntrue_1, r_X_firstUntrue_4, r_X_firstUntrue_5, r_X_firstUntrue_8, r_X_firstUntrue_14, r_X_firstUntrue_15, r_X_firstUntrue_18, r_X_firstUntrue_20, r_X_firstUntrue_23, r_X_firstUntrue_24, r_X_firstUntrue_25, r_X_firstUntrue_27, r_X_firstUntrue_28, r_X_firstUntrue_31, r_X_firstUntrue_32, r_X_firstUntrue_35, r_X_firstUntrue_38, r_X_firstUntrue_39, r_X_firstUntrue_42, r_X_firstUntrue_46, r_X_firstUntrue_47, r_X_firstUntrue_48, r_X_firstUntrue_49, r_X_firstUntrue_50, r_X_firstUntrue_51, r_X_firstUntrue_52, r_X_firstUntrue_58, r_X_firstUntrue_61, r_X_firstUntrue_64, r_X_firstUntrue_65, r_X_firstUntrue_66, r_X_firstUntrue_67, r_X_firstUntrue_68, r_X_firstUntrue_69, r_X_firstUntrue_70, r_X_firstUntrue_71, r_X_firstUntrue_72, r_X_firstUntrue_73, r_X_firstUntrue_74, r_X_firstUntrue_75, r_X_firstUntrue_76, r_X_firstUntrue_77, r_X_firstUntrue_78, r_X_firstUntrue_84, r_X_firstUntrue_87, r_X_firstUntrue_90, r_X_firstUntrue_91, r_X_firstUntrue_92, r_X_firstUntrue_93, r_X_firstUntrue_94, r_X_firstUntrue_95, r_X_firstUntrue_96, r_X_firstUntrue_99, r_X_firstUntrue_102, r_X_firstUntrue_103, r_X_firstUntrue_104, r_X_firstUntrue_105, r_X_firstUntrue_106, r_X_firstUntrue_109, r_X_firstUntrue_110, r_X_firstUntrue_113, r_X_firstUntrue_114, r_X_firstUntrue_115, r_X_firstUntrue_116, r_X_firstUntrue_117, r_X_firstUntrue_118, c_X_firstUntrue_43 hR1, c_X_firstUntrue_55 hG, c_X_firstUntrue_81 hD, Option.toList, List.singleton_append, List.cons_append, List.nil_append, List.append_nil, gq_27_0, gq_27_1, gq_27_2, gq_27_3, gq_27_4, gq_27_5, gq_27_6, gq_28_0, gq_28_1, gq_28_2, gq_28_3, gq_28_4, gq_28_5, gq_28_6, gq_129_0, gq_129_2, w32_gb, w32i, tn_add, tn_mul, Int.toNat_natCast, Int.toNat_zero, Int.reduceLE, Int.reduceLT, Int.reduceEq, Int.reduceNe, gb_T, gb_F, Int.reduceToNat, eq_self, true_or, or_true, and_true, true_and, and_self, ↓ite_gb0, ↓ite_gbn, ↓if_pos, ↓if_neg, if_true, if_false, not_true_eq_false, not_false_eq_true, gb_ne0, gb_eq0]
      exact hA2
  · obtain ⟨rfl, hc1, hA, hm⟩ := hi
    have fv := (fms_all (w := σ 292) (D := gdue g) (many := a2) (2 * n)).2 hm
    rw [r_X_firstUntrue_26]
    unfold gchk
    rw [fv]
    by_cases e : a2 = 2 * (n : Int)
    · rw [if_pos ⟨rfl, e⟩]
      simp (disch := first | assumption | exact gb_01 _ | omega) only [r_X_firstUntrue_0, r_X_firstUntrue_1, r_X_firstUntrue_4, r_X_firstUntrue_5, r_X_firstUntrue_8, r_X_firstUntrue_14, r_X_firstUntrue_15, r_X_firstUntrue_18, r_X_firstUntrue_20, r_X_firstUntrue_23, r_X_firstUntrue_24, r_X_firstUntrue_25, r_X_firstUntrue_27, r_X_firstUntrue_28, r_X_firstUntrue_31, r_X_firstUntrue_32, r_X_firstUntrue_35, r_X_firstUntrue_38, r_X_firstUntrue_39, r_X_firstUntrue_42, r_X_firstUntrue_46, r_X_firstUntrue_47, r_X_firstUntrue_48, r_X_firstUntrue_49, r_X_firstUntrue_50, r_X_firstUntrue_51, r_X_firstUntrue_52, r_X_firstUntrue_58, r_X_firstUntrue_61, r_X_firstUntrue_64, r_X_firstUntrue_65, r_X_firstUntrue_66, r_X_firstUntrue_67, r_X_firstUntrue_68, r_X_firstUntrue_69, r_X_firstUntrue_70, r_X_firstUntrue_71, r_X_firstUntrue_72, r_X_firstUntrue_73, r_X_firstUntrue_74, r_X_firstUntrue_75, r_X_firstUntrue_76, r_X_firstUntrue_77, r_X_firstUntrue_78, r_X_firstUntrue_84, r_X_firstUntrue_87, r_X_firstUntrue_90, r_X_firstUntrue_91, r_X_firstUntrue_92, r_X_firstUntrue_93, r_X_firstUntrue_94, r_X_firstUntrue_95, r_X_firstUntrue_96, r_X_firstUntrue_99, r_X_firstUntrue_102, r_X_firstUntrue_103, r_X_firstUntrue_104, r_X_firstUntrue_105, r_X_firstUntrue_106, r_X_firstUntrue_109, r_X_firstUntrue_110, r_X_firstUntrue_113, r_X_firstUntrue_114, r_X_firstUntrue_115, r_X_firstUntrue_116, r_X_firstUntrue_117, r_X_firstUntrue_118, gq_27_0, gq_27_1, gq_27_2, gq_27_3, gq_27_4, gq_27_5, gq_27_6, gq_28_0, gq_28_1, gq_28_2, gq_28_3, gq_28_4, gq_28_5, gq_28_6, w32_gb, w32i, tn_add, tn_mul, Int.toNat_natCast, Int.toNat_zero, Int.reduceLE, Int.reduceLT, Int.reduceEq, Int.reduceNe, gb_T, gb_F, Int.reduceToNat, eq_self, true_or, or_true, and_true, true_and, and_self, ↓ite_gb0, ↓ite_gbn, ↓if_pos, ↓if_neg, if_true, if_false, not_true_eq_false, not_false_eq_true, gb_ne0, gb_eq0]
      exact hA
    · rw [if_neg (fun z => e z.2), show ((2 * n : Nat) : Int) = 2 * (n : Int) by omega]
      simp (disch := first | assumption | exact gb_01 _ | omega) only [r_X_firstUntrue_0, r_X_firstUntrue_1, r_X_firstUntrue_4, r_X_firstUntrue_5, r_X_firstUntrue_8, r_X_firstUntrue_14, r_X_firstUntrue_15, r_X_firstUntrue_18, r_X_firstUntrue_20, r_X_firstUntrue_23, r_X_firstUntrue_24, r_X_firstUntrue_25, r_X_firstUntrue_27, r_X_firstUntrue_28, r_X_firstUntrue_31, r_X_firstUntrue_32, r_X_firstUntrue_35, r_X_firstUntrue_38, r_X_firstUntrue_39, r_X_firstUntrue_42, r_X_firstUntrue_46, r_X_firstUntrue_47, r_X_firstUntrue_48, r_X_firstUntrue_49, r_X_firstUntrue_50, r_X_firstUntrue_51, r_X_firstUntrue_52, r_X_firstUntrue_58, r_X_firstUntrue_61, r_X_firstUntrue_64, r_X_firstUntrue_65, r_X_firstUntrue_66, r_X_firstUntrue_67, r_X_firstUntrue_68, r_X_firstUntrue_69, r_X_firstUntrue_70, r_X_firstUntrue_71, r_X_firstUntrue_72, r_X_firstUntrue_73, r_X_firstUntrue_74, r_X_firstUntrue_75, r_X_firstUntrue_76, r_X_firstUntrue_77, r_X_firstUntrue_78, r_X_firstUntrue_84, r_X_firstUntrue_87, r_X_firstUntrue_90, r_X_firstUntrue_91, r_X_firstUntrue_92, r_X_firstUntrue_93, r_X_firstUntrue_94, r_X_firstUntrue_95, r_X_firstUntrue_96, r_X_firstUntrue_99, r_X_firstUntrue_102, r_X_firstUntrue_103, r_X_firstUntrue_104, r_X_firstUntrue_105, r_X_firstUntrue_106, r_X_firstUntrue_109, r_X_firstUntrue_110, r_X_firstUntrue_113, r_X_firstUntrue_114, r_X_firstUntrue_115, r_X_firstUntrue_116, r_X_firstUntrue_117, r_X_firstUntrue_118, gq_27_0, gq_27_1, gq_27_2, gq_27_3, gq_27_4, gq_27_5, gq_27_6, gq_28_0, gq_28_1, gq_28_2, gq_28_3, gq_28_4, gq_28_5, gq_28_6, w32_gb, w32i, tn_add, tn_mul, Int.toNat_natCast, Int.toNat_zero, Int.reduceLE, Int.reduceLT, Int.reduceEq, Int.reduceNe, gb_T, gb_F, Int.reduceToNat, eq_self, true_or, or_true, and_true, true_and, and_self, ↓ite_gb0, ↓ite_gbn, ↓if_pos, ↓if_neg, if_true, if_false, not_true_eq_false, not_false_eq_true, gb_ne0, gb_eq0]
      exact hA
