/-! Who knew: the class. -/
variable {L d : Nat} {σ σ1 : Nat → Nat → Int} {Q : Option gV → (Nat → Nat → Int) → Prop} {a0 a1 a2 a3 a4 a5 a6 a7 a8 a9 a10 a11 s0 s1 s2 s3 s4 s5 s6 s7 s8 s9 : Int} {l0 l1 l2 l3 l4 l5 l6 l7 l8 l9 l10 l11 t0 t1 t2 t3 t4 t5 t6 t7 t8 t9 : gV} {b0 b1 b2 b3 b4 b5 b6 b7 b8 b9 b10 b11 c0 c1 c2 c3 c4 c5 c6 c7 c8 c9 : Nat} {r : Option gV}
theorem gand_1 (x : Int) : gand x 1 = 0 ∨ gand x 1 = 1 := by
  unfold gand
  have e : (Int32.ofInt 1).toBitVec = 1#32 := by decide
  have h : (Int32.ofInt x &&& Int32.ofInt 1).toBitVec.toNat ≤ 1 := by
    rw [Int32.toBitVec_and, e, BitVec.toNat_and]
    exact Nat.and_le_right
  have h2 : (Int32.ofInt x &&& Int32.ofInt 1).toInt = (Int32.ofInt x &&& Int32.ofInt 1).toBitVec.toInt := rfl
  rw [h2, BitVec.toInt_eq_toNat_cond]
  split <;> omega
theorem gor_0 {x : Int} (h : gr32 x) : gor x 0 = x := by
  unfold gor
  have e : Int32.ofInt 0 = 0 := by decide
  rw [e, Int32.or_zero, o32_toInt]
  exact w32_id h
theorem gshl_0 : ∀ k : Nat, k < 8 → gshl 0 (k : Int) = 0 := by decide +kernel
abbrev brhs (f : Nat → Int) (o m d : Int) : Prop := 0 ≤ f (720 + 10 * o.toNat + m.toNat) ∧ f (720 + 10 * o.toNat + m.toNat) ≤ d
def wkn (f : Nat → Int) (o : Nat → Nat) (m d : Int) : Nat → Int × Int
  | 0 => (0, 0)
  | i + 1 => if f (600 + 4 * o i + 3) = m ∧ f (600 + 4 * o i) ≤ d then (if gbt (wkn f o m d i).1 (f (600 + 4 * o i + 1)) = 1 ∨ brhs f (f (600 + 4 * o i + 1)) m (f (600 + 4 * o i)) then (gor (wkn f o m d i).1 (gshl 1 (f (600 + 4 * o i + 2))), (wkn f o m d i).2) else ((wkn f o m d i).1, (wkn f o m d i).2 + 1)) else wkn f o m d i
def wkf (f : Nat → Int) (m d x : Int) : Nat → Int
  | 0 => x
  | k + 1 => gor (wkf f m d x k) (if brhs f (k : Int) m d then gshl 1 (k : Int) else 0)
theorem wkn_bd (f : Nat → Int) (o : Nat → Nat) (m d : Int) : ∀ n : Nat, 0 ≤ (wkn f o m d n).2 ∧ (wkn f o m d n).2 ≤ n
  | 0 => by simp [wkn]
  | n + 1 => by
    have := wkn_bd f o m d n
    unfold wkn
    repeat' split
    all_goals omega
theorem wkn_congr {f : Nat → Int} {o p : Nat → Nat} {m d : Int} : ∀ n, (∀ i, i < n → o i = p i) → wkn f o m d n = wkn f p m d n
  | 0, _ => rfl
  | n + 1, h => by
    unfold wkn
    rw [wkn_congr n (fun i hi => h i (by omega)), h n (by omega)]
theorem wkn_stop {f : Nat → Int} {o : Nat → Nat} {m d : Int} {k : Nat} : ∀ n, (∀ i, k ≤ i → i < k + n → d < f (600 + 4 * o i)) → wkn f o m d (k + n) = wkn f o m d k
  | 0, _ => rfl
  | n + 1, h => by
    show (if f (600 + 4 * o (k + n) + 3) = m ∧ f (600 + 4 * o (k + n)) ≤ d then _ else _) = _
    have := h (k + n) (by omega) (by omega)
    rw [if_neg (by omega)]
    exact wkn_stop n (fun i x y => h i x (by omega))
theorem CWp {f : Nat → Int} {σ : gMm} (hc : CW 109 f σ) : σ 109 5 = f 3 ∧ (∃ o : Nat → Nat, gord (fun i => f (600 + 4 * i)) (f 3).toNat o ∧ ∀ i : Nat, (i : Int) < f 3 → σ 110 i = f (600 + 4 * o i) ∧ σ 111 i = f (600 + 4 * o i + 1) ∧ σ 112 i = f (600 + 4 * o i + 2) ∧ σ 113 i = f (600 + 4 * o i + 3)) ∧ ∀ a : Nat, a < 8 → ∀ b : Nat, b < 10 → σ (115 + a) b = if f (720 + 10 * a + b) < 0 then 10000 else f (720 + 10 * a + b) := ⟨hc.1, hc.2.1, fun a ha b hb => by
  have := hc.2.2 a ha b hb
  rw [show 109 + 6 + a = 115 + a by omega] at this
  exact this⟩
theorem r_D_isBlind_0 : Wp L d k_D_isBlind 0 [l0, l1, vI a2] [] σ Q ↔ Wp L d k_D_isBlind 1 [l0, l1, vI a2] [vI a2] σ Q := wp_iload rfl rfl
theorem r_D_isBlind_1 : Wp L d k_D_isBlind 1 [vR b0, l1, l2] [vI s0] σ Q ↔ Wp L d k_D_isBlind 2 [vR b0, l1, l2] [vR b0, vI s0] σ Q := wp_aload rfl rfl
theorem r_D_isBlind_2 (h : gK c1 = 11) : Wp L d k_D_isBlind 2 [l0, l1, l2] [vR c1, vI s0] σ Q ↔ Wp L d k_D_isBlind 5 [l0, l1, l2] [vR (gq c1 1), vI s0] σ Q := wp_getR (c := 2945) rfl rfl rfl rfl rfl h
theorem r_D_isBlind_5 : Wp L d k_D_isBlind 5 [l0, vI a1, l2] [vR c1, vI s0] σ Q ↔ Wp L d k_D_isBlind 6 [l0, vI a1, l2] [vI a1, vR c1, vI s0] σ Q := wp_iload rfl rfl
theorem r_D_isBlind_6 (h : gK c1 = 100) (hx : 0 ≤ s2 ∧ s2 < gN c1) : Wp L d k_D_isBlind 6 [l0, l1, l2] [vI s2, vR c1, vI s0] σ Q ↔ Wp L d k_D_isBlind 7 [l0, l1, l2] [vI (σ c1 s2.toNat), vI s0] σ Q := wp_iald rfl h hx
theorem r_D_isBlind_7 : Wp L d k_D_isBlind 7 [l0, l1, l2] [vI s1, vI s0] σ Q ↔ Wp L d k_D_isBlind 8 [l0, l1, l2] [vI (gshr s0 s1)] σ Q := wp_ishr rfl
theorem r_D_isBlind_8 : Wp L d k_D_isBlind 8 [l0, l1, l2] [vI s0] σ Q ↔ Wp L d k_D_isBlind 9 [l0, l1, l2] [vI 1, vI s0] σ Q := wp_push rfl
theorem r_D_isBlind_9 : Wp L d k_D_isBlind 9 [l0, l1, l2] [vI s1, vI s0] σ Q ↔ Wp L d k_D_isBlind 10 [l0, l1, l2] [vI (gand s0 s1)] σ Q := wp_iand rfl
theorem r_D_isBlind_10 : Wp L d k_D_isBlind 10 [l0, l1, l2] [vI s0] σ Q ↔ (if s0 ≠ 0 then Wp L d k_D_isBlind 44 [l0, l1, l2] [] σ Q else Wp L d k_D_isBlind 13 [l0, l1, l2] [] σ Q) := wp_if_ne rfl
theorem r_D_isBlind_13 : Wp L d k_D_isBlind 13 [vR b0, l1, l2] [] σ Q ↔ Wp L d k_D_isBlind 14 [vR b0, l1, l2] [vR b0] σ Q := wp_aload rfl rfl
theorem r_D_isBlind_14 (h : gK c0 = 11) : Wp L d k_D_isBlind 14 [l0, l1, l2] [vR c0] σ Q ↔ Wp L d k_D_isBlind 17 [l0, l1, l2] [vR (gq c0 4)] σ Q := wp_getR (c := 2948) rfl rfl rfl rfl rfl h
theorem r_D_isBlind_17 : Wp L d k_D_isBlind 17 [vR b0, l1, l2] [vR c0] σ Q ↔ Wp L d k_D_isBlind 18 [vR b0, l1, l2] [vR b0, vR c0] σ Q := wp_aload rfl rfl
theorem r_D_isBlind_18 (h : gK c1 = 11) : Wp L d k_D_isBlind 18 [l0, l1, l2] [vR c1, vR c0] σ Q ↔ Wp L d k_D_isBlind 21 [l0, l1, l2] [vR (gq c1 1), vR c0] σ Q := wp_getR (c := 2945) rfl rfl rfl rfl rfl h
theorem r_D_isBlind_21 : Wp L d k_D_isBlind 21 [l0, vI a1, l2] [vR c1, vR c0] σ Q ↔ Wp L d k_D_isBlind 22 [l0, vI a1, l2] [vI a1, vR c1, vR c0] σ Q := wp_iload rfl rfl
theorem r_D_isBlind_22 (h : gK c1 = 100) (hx : 0 ≤ s2 ∧ s2 < gN c1) : Wp L d k_D_isBlind 22 [l0, l1, l2] [vI s2, vR c1, vR c0] σ Q ↔ Wp L d k_D_isBlind 23 [l0, l1, l2] [vI (σ c1 s2.toNat), vR c0] σ Q := wp_iald rfl h hx
theorem r_D_isBlind_23 (h : gK c0 = 102 ∨ gK c0 = 103) (hx : 0 ≤ s1 ∧ s1 < gN c0) : Wp L d k_D_isBlind 23 [l0, l1, l2] [vI s1, vR c0] σ Q ↔ Wp L d k_D_isBlind 24 [l0, l1, l2] [vR (gq c0 s1.toNat)] σ Q := wp_aald rfl h hx
theorem r_D_isBlind_24 : Wp L d k_D_isBlind 24 [vR b0, l1, l2] [vR c0] σ Q ↔ Wp L d k_D_isBlind 25 [vR b0, l1, l2] [vR b0, vR c0] σ Q := wp_aload rfl rfl
theorem r_D_isBlind_25 (h : gK c1 = 11) : Wp L d k_D_isBlind 25 [l0, l1, l2] [vR c1, vR c0] σ Q ↔ Wp L d k_D_isBlind 28 [l0, l1, l2] [vR (gq c1 3), vR c0] σ Q := wp_getR (c := 2947) rfl rfl rfl rfl rfl h
theorem r_D_isBlind_28 : Wp L d k_D_isBlind 28 [l0, vI a1, l2] [vR c1, vR c0] σ Q ↔ Wp L d k_D_isBlind 29 [l0, vI a1, l2] [vI a1, vR c1, vR c0] σ Q := wp_iload rfl rfl
theorem r_D_isBlind_29 (h : gK c1 = 100) (hx : 0 ≤ s2 ∧ s2 < gN c1) : Wp L d k_D_isBlind 29 [l0, l1, l2] [vI s2, vR c1, vR c0] σ Q ↔ Wp L d k_D_isBlind 30 [l0, l1, l2] [vI (σ c1 s2.toNat), vR c0] σ Q := wp_iald rfl h hx
theorem r_D_isBlind_30 (h : gK c0 = 100) (hx : 0 ≤ s1 ∧ s1 < gN c0) : Wp L d k_D_isBlind 30 [l0, l1, l2] [vI s1, vR c0] σ Q ↔ Wp L d k_D_isBlind 31 [l0, l1, l2] [vI (σ c0 s1.toNat)] σ Q := wp_iald rfl h hx
theorem r_D_isBlind_31 : Wp L d k_D_isBlind 31 [vR b0, l1, l2] [vI s0] σ Q ↔ Wp L d k_D_isBlind 32 [vR b0, l1, l2] [vR b0, vI s0] σ Q := wp_aload rfl rfl
theorem r_D_isBlind_32 (h : gK c1 = 11) : Wp L d k_D_isBlind 32 [l0, l1, l2] [vR c1, vI s0] σ Q ↔ Wp L d k_D_isBlind 35 [l0, l1, l2] [vR (gq c1 0), vI s0] σ Q := wp_getR (c := 2944) rfl rfl rfl rfl rfl h
theorem r_D_isBlind_35 : Wp L d k_D_isBlind 35 [l0, vI a1, l2] [vR c1, vI s0] σ Q ↔ Wp L d k_D_isBlind 36 [l0, vI a1, l2] [vI a1, vR c1, vI s0] σ Q := wp_iload rfl rfl
theorem r_D_isBlind_36 (h : gK c1 = 100) (hx : 0 ≤ s2 ∧ s2 < gN c1) : Wp L d k_D_isBlind 36 [l0, l1, l2] [vI s2, vR c1, vI s0] σ Q ↔ Wp L d k_D_isBlind 37 [l0, l1, l2] [vI (σ c1 s2.toNat), vI s0] σ Q := wp_iald rfl h hx
theorem r_D_isBlind_37 : Wp L d k_D_isBlind 37 [l0, l1, l2] [vI s1, vI s0] σ Q ↔ (if s0 ≤ s1 then Wp L d k_D_isBlind 44 [l0, l1, l2] [] σ Q else Wp L d k_D_isBlind 40 [l0, l1, l2] [] σ Q) := wp_cmp_le rfl
theorem r_D_isBlind_40 : Wp L d k_D_isBlind 40 [l0, l1, l2] [] σ Q ↔ Wp L d k_D_isBlind 41 [l0, l1, l2] [vI 1] σ Q := wp_push rfl
theorem r_D_isBlind_41 : Wp L d k_D_isBlind 41 [l0, l1, l2] [vI s0] σ Q ↔ Wp L d k_D_isBlind 45 [l0, l1, l2] [vI s0] σ Q := wp_goto rfl
theorem r_D_isBlind_44 : Wp L d k_D_isBlind 44 [l0, l1, l2] [] σ Q ↔ Wp L d k_D_isBlind 45 [l0, l1, l2] [vI 0] σ Q := wp_push rfl
theorem r_D_isBlind_45 (h : s0 = 0 ∨ s0 = 1) : Wp L d k_D_isBlind 45 [l0, l1, l2] [vI s0] σ Q ↔ Q (some (vI s0)) σ := wp_zret rfl h
theorem sp_D_isBlind (h : 0 ≤ a1 ∧ a1 < 30) (h1 : 0 ≤ σ 111 a1.toNat ∧ σ 111 a1.toNat ≤ 7) (h3 : 0 ≤ σ 113 a1.toNat ∧ σ 113 a1.toNat ≤ 9) : Run L d 188 [vR 109, vI a1, vI a2] σ (some (vI (gb (gbt a2 (σ 111 a1.toNat) = 0 ∧ σ 110 a1.toNat < σ (115 + (σ 111 a1.toNat).toNat) (σ 113 a1.toNat).toNat)))) σ := by
  refine Run_of (C' := k_D_isBlind) rfl ?_
  show Wp L d k_D_isBlind 0 [vR 109, vI a1, vI a2] [] σ _
  obtain ⟨K109, w0, w1, w2, w3, w4, K110, K111, K112, K113, K114, N110, N111, N112, N113, N114⟩ := litD
  obtain ⟨g1, g2, g3⟩ := gq114 (i := (σ 111 a1.toNat).toNat) (by omega)
  have b2 : gand (gshr a2 (σ 111 a1.toNat)) 1 = gbt a2 (σ 111 a1.toNat) := rfl
  by_cases e1 : gbt a2 (σ 111 a1.toNat) = 0
  · by_cases e2 : σ 110 a1.toNat < σ (115 + (σ 111 a1.toNat).toNat) (σ 113 a1.toNat).toNat
    · rw [gb_t ⟨e1, e2⟩]
      simp (disch := first | assumption | exact gb_01 _ | omega) only [r_D_isBlind_0, r_D_isBlind_1, r_D_isBlind_2, r_D_isBlind_5, r_D_isBlind_6, r_D_isBlind_7, r_D_isBlind_8, r_D_isBlind_9, r_D_isBlind_10, r_D_isBlind_13, r_D_isBlind_14, r_D_isBlind_17, r_D_isBlind_18, r_D_isBlind_21, r_D_isBlind_22, r_D_isBlind_23, r_D_isBlind_24, r_D_isBlind_25, r_D_isBlind_28, r_D_isBlind_29, r_D_isBlind_30, r_D_isBlind_31, r_D_isBlind_32, r_D_isBlind_35, r_D_isBlind_36, r_D_isBlind_37, r_D_isBlind_40, r_D_isBlind_41, r_D_isBlind_44, r_D_isBlind_45, w0, w1, w2, w3, w4, b2, g1, w32_gb, w32i, tn_add, tn_mul, Int.toNat_natCast, Int.toNat_zero, Int.reduceLE, Int.reduceLT, Int.reduceEq, Int.reduceNe, gb_T, gb_F, Int.reduceToNat, eq_self, true_or, or_true, and_true, true_and, and_self, ↓ite_gb0, ↓ite_gbn, ↓if_pos, ↓if_neg, if_true, if_false, not_true_eq_false, not_false_eq_true, gb_ne0, gb_eq0]
    · rw [gb_f (fun z => e2 z.2)]
      simp (disch := first | assumption | exact gb_01 _ | omega) only [r_D_isBlind_0, r_D_isBlind_1, r_D_isBlind_2, r_D_isBlind_5, r_D_isBlind_6, r_D_isBlind_7, r_D_isBlind_8, r_D_isBlind_9, r_D_isBlind_10, r_D_isBlind_13, r_D_isBlind_14, r_D_isBlind_17, r_D_isBlind_18, r_D_isBlind_21, r_D_isBlind_22, r_D_isBlind_23, r_D_isBlind_24, r_D_isBlind_25, r_D_isBlind_28, r_D_isBlind_29, r_D_isBlind_30, r_D_isBlind_31, r_D_isBlind_32, r_D_isBlind_35, r_D_isBlind_36, r_D_isBlind_37, r_D_isBlind_40, r_D_isBlind_41, r_D_isBlind_44, r_D_isBlind_45, w0, w1, w2, w3, w4, b2, g1, w32_gb, w32i, tn_add, tn_mul, Int.toNat_natCast, Int.toNat_zero, Int.reduceLE, Int.reduceLT, Int.reduceEq, Int.reduceNe, gb_T, gb_F, Int.reduceToNat, eq_self, true_or, or_true, and_true, true_and, and_self, ↓ite_gb0, ↓ite_gbn, ↓if_pos, ↓if_neg, if_true, if_false, not_true_eq_false, not_false_eq_true, gb_ne0, gb_eq0]
  · rw [gb_f (fun z => e1 z.1)]
    simp (disch := first | assumption | exact gb_01 _ | omega) only [r_D_isBlind_0, r_D_isBlind_1, r_D_isBlind_2, r_D_isBlind_5, r_D_isBlind_6, r_D_isBlind_7, r_D_isBlind_8, r_D_isBlind_9, r_D_isBlind_10, r_D_isBlind_13, r_D_isBlind_14, r_D_isBlind_17, r_D_isBlind_18, r_D_isBlind_21, r_D_isBlind_22, r_D_isBlind_23, r_D_isBlind_24, r_D_isBlind_25, r_D_isBlind_28, r_D_isBlind_29, r_D_isBlind_30, r_D_isBlind_31, r_D_isBlind_32, r_D_isBlind_35, r_D_isBlind_36, r_D_isBlind_37, r_D_isBlind_40, r_D_isBlind_41, r_D_isBlind_44, r_D_isBlind_45, w0, w1, w2, w3, w4, b2, g1, w32_gb, w32i, tn_add, tn_mul, Int.toNat_natCast, Int.toNat_zero, Int.reduceLE, Int.reduceLT, Int.reduceEq, Int.reduceNe, gb_T, gb_F, Int.reduceToNat, eq_self, true_or, or_true, and_true, true_and, and_self, ↓ite_gb0, ↓ite_gbn, ↓if_pos, ↓if_neg, if_true, if_false, not_true_eq_false, not_false_eq_true, gb_ne0, gb_eq0]
theorem r_D_knowing_0 : Wp L d k_D_knowing 0 [l0, l1, l2, l3, l4] [] σ Q ↔ Wp L d k_D_knowing 1 [l0, l1, l2, l3, l4] [vI 0] σ Q := wp_push rfl
theorem r_D_knowing_1 : Wp L d k_D_knowing 1 [l0, l1, vI a2, l3, l4] [vI s0] σ Q ↔ Wp L d k_D_knowing 2 [l0, l1, vI a2, vI s0, l4] [] σ Q := wp_istore (i := 3) (ls := [l0, l1, vI a2, l3, l4]) rfl rfl
theorem r_D_knowing_2 : Wp L d k_D_knowing 2 [l0, l1, l2, l3, l4] [] σ Q ↔ Wp L d k_D_knowing 3 [l0, l1, l2, l3, l4] [vI 0] σ Q := wp_push rfl
theorem r_D_knowing_3 : Wp L d k_D_knowing 3 [l0, l1, l2, vI a3, l4] [vI s0] σ Q ↔ Wp L d k_D_knowing 5 [l0, l1, l2, vI a3, vI s0] [] σ Q := wp_istore (i := 4) (ls := [l0, l1, l2, vI a3, l4]) rfl rfl
theorem r_D_knowing_5 : Wp L d k_D_knowing 5 [l0, l1, l2, l3, vI a4] [] σ Q ↔ Wp L d k_D_knowing 7 [l0, l1, l2, l3, vI a4] [vI a4] σ Q := wp_iload rfl rfl
theorem r_D_knowing_7 : Wp L d k_D_knowing 7 [vR b0, l1, l2, l3, l4] [vI s0] σ Q ↔ Wp L d k_D_knowing 8 [vR b0, l1, l2, l3, l4] [vR b0, vI s0] σ Q := wp_aload rfl rfl
theorem r_D_knowing_8 (h : gK c1 = 11) : Wp L d k_D_knowing 8 [l0, l1, l2, l3, l4] [vR c1, vI s0] σ Q ↔ Wp L d k_D_knowing 11 [l0, l1, l2, l3, l4] [vI (σ c1 5), vI s0] σ Q := wp_getI (c := 2821) rfl rfl rfl rfl h
theorem r_D_knowing_11 : Wp L d k_D_knowing 11 [l0, l1, l2, l3, l4] [vI s1, vI s0] σ Q ↔ (if s1 ≤ s0 then Wp L d k_D_knowing 64 [l0, l1, l2, l3, l4] [] σ Q else Wp L d k_D_knowing 14 [l0, l1, l2, l3, l4] [] σ Q) := wp_cmp_ge rfl
theorem r_D_knowing_14 : Wp L d k_D_knowing 14 [vR b0, l1, l2, l3, l4] [] σ Q ↔ Wp L d k_D_knowing 15 [vR b0, l1, l2, l3, l4] [vR b0] σ Q := wp_aload rfl rfl
theorem r_D_knowing_15 (h : gK c0 = 11) : Wp L d k_D_knowing 15 [l0, l1, l2, l3, l4] [vR c0] σ Q ↔ Wp L d k_D_knowing 18 [l0, l1, l2, l3, l4] [vR (gq c0 0)] σ Q := wp_getR (c := 2944) rfl rfl rfl rfl rfl h
theorem r_D_knowing_18 : Wp L d k_D_knowing 18 [l0, l1, l2, l3, vI a4] [vR c0] σ Q ↔ Wp L d k_D_knowing 20 [l0, l1, l2, l3, vI a4] [vI a4, vR c0] σ Q := wp_iload rfl rfl
theorem r_D_knowing_20 (h : gK c0 = 100) (hx : 0 ≤ s1 ∧ s1 < gN c0) : Wp L d k_D_knowing 20 [l0, l1, l2, l3, l4] [vI s1, vR c0] σ Q ↔ Wp L d k_D_knowing 21 [l0, l1, l2, l3, l4] [vI (σ c0 s1.toNat)] σ Q := wp_iald rfl h hx
theorem r_D_knowing_21 : Wp L d k_D_knowing 21 [l0, l1, vI a2, l3, l4] [vI s0] σ Q ↔ Wp L d k_D_knowing 22 [l0, l1, vI a2, l3, l4] [vI a2, vI s0] σ Q := wp_iload rfl rfl
theorem r_D_knowing_22 : Wp L d k_D_knowing 22 [l0, l1, l2, l3, l4] [vI s1, vI s0] σ Q ↔ (if s1 < s0 then Wp L d k_D_knowing 64 [l0, l1, l2, l3, l4] [] σ Q else Wp L d k_D_knowing 25 [l0, l1, l2, l3, l4] [] σ Q) := wp_cmp_gt rfl
theorem r_D_knowing_25 : Wp L d k_D_knowing 25 [vR b0, l1, l2, l3, l4] [] σ Q ↔ Wp L d k_D_knowing 26 [vR b0, l1, l2, l3, l4] [vR b0] σ Q := wp_aload rfl rfl
theorem r_D_knowing_26 (h : gK c0 = 11) : Wp L d k_D_knowing 26 [l0, l1, l2, l3, l4] [vR c0] σ Q ↔ Wp L d k_D_knowing 29 [l0, l1, l2, l3, l4] [vR (gq c0 3)] σ Q := wp_getR (c := 2947) rfl rfl rfl rfl rfl h
theorem r_D_knowing_29 : Wp L d k_D_knowing 29 [l0, l1, l2, l3, vI a4] [vR c0] σ Q ↔ Wp L d k_D_knowing 31 [l0, l1, l2, l3, vI a4] [vI a4, vR c0] σ Q := wp_iload rfl rfl
theorem r_D_knowing_31 (h : gK c0 = 100) (hx : 0 ≤ s1 ∧ s1 < gN c0) : Wp L d k_D_knowing 31 [l0, l1, l2, l3, l4] [vI s1, vR c0] σ Q ↔ Wp L d k_D_knowing 32 [l0, l1, l2, l3, l4] [vI (σ c0 s1.toNat)] σ Q := wp_iald rfl h hx
theorem r_D_knowing_32 : Wp L d k_D_knowing 32 [l0, vI a1, l2, l3, l4] [vI s0] σ Q ↔ Wp L d k_D_knowing 33 [l0, vI a1, l2, l3, l4] [vI a1, vI s0] σ Q := wp_iload rfl rfl
theorem r_D_knowing_33 : Wp L d k_D_knowing 33 [l0, l1, l2, l3, l4] [vI s1, vI s0] σ Q ↔ (if s0 ≠ s1 then Wp L d k_D_knowing 58 [l0, l1, l2, l3, l4] [] σ Q else Wp L d k_D_knowing 36 [l0, l1, l2, l3, l4] [] σ Q) := wp_cmp_ne rfl
theorem r_D_knowing_36 : Wp L d k_D_knowing 36 [vR b0, l1, l2, l3, l4] [] σ Q ↔ Wp L d k_D_knowing 37 [vR b0, l1, l2, l3, l4] [vR b0] σ Q := wp_aload rfl rfl
theorem r_D_knowing_37 : Wp L d k_D_knowing 37 [l0, l1, l2, l3, vI a4] [vR c0] σ Q ↔ Wp L d k_D_knowing 39 [l0, l1, l2, l3, vI a4] [vI a4, vR c0] σ Q := wp_iload rfl rfl
theorem r_D_knowing_39 : Wp L d k_D_knowing 39 [l0, l1, l2, vI a3, l4] [vI s1, vR c0] σ Q ↔ Wp L d k_D_knowing 40 [l0, l1, l2, vI a3, l4] [vI a3, vI s1, vR c0] σ Q := wp_iload rfl rfl
theorem r_D_knowing_43 : Wp L d k_D_knowing 43 [l0, l1, l2, l3, l4] [vI s0] σ Q ↔ (if s0 ≠ 0 then Wp L d k_D_knowing 58 [l0, l1, l2, l3, l4] [] σ Q else Wp L d k_D_knowing 46 [l0, l1, l2, l3, l4] [] σ Q) := wp_if_ne rfl
theorem r_D_knowing_46 : Wp L d k_D_knowing 46 [l0, l1, l2, vI a3, l4] [] σ Q ↔ Wp L d k_D_knowing 47 [l0, l1, l2, vI a3, l4] [vI a3] σ Q := wp_iload rfl rfl
theorem r_D_knowing_47 : Wp L d k_D_knowing 47 [l0, l1, l2, l3, l4] [vI s0] σ Q ↔ Wp L d k_D_knowing 48 [l0, l1, l2, l3, l4] [vI 1, vI s0] σ Q := wp_push rfl
theorem r_D_knowing_48 : Wp L d k_D_knowing 48 [vR b0, l1, l2, l3, l4] [vI s1, vI s0] σ Q ↔ Wp L d k_D_knowing 49 [vR b0, l1, l2, l3, l4] [vR b0, vI s1, vI s0] σ Q := wp_aload rfl rfl
theorem r_D_knowing_49 (h : gK c2 = 11) : Wp L d k_D_knowing 49 [l0, l1, l2, l3, l4] [vR c2, vI s1, vI s0] σ Q ↔ Wp L d k_D_knowing 52 [l0, l1, l2, l3, l4] [vR (gq c2 2), vI s1, vI s0] σ Q := wp_getR (c := 2946) rfl rfl rfl rfl rfl h
theorem r_D_knowing_52 : Wp L d k_D_knowing 52 [l0, l1, l2, l3, vI a4] [vR c2, vI s1, vI s0] σ Q ↔ Wp L d k_D_knowing 54 [l0, l1, l2, l3, vI a4] [vI a4, vR c2, vI s1, vI s0] σ Q := wp_iload rfl rfl
theorem r_D_knowing_54 (h : gK c2 = 100) (hx : 0 ≤ s3 ∧ s3 < gN c2) : Wp L d k_D_knowing 54 [l0, l1, l2, l3, l4] [vI s3, vR c2, vI s1, vI s0] σ Q ↔ Wp L d k_D_knowing 55 [l0, l1, l2, l3, l4] [vI (σ c2 s3.toNat), vI s1, vI s0] σ Q := wp_iald rfl h hx
theorem r_D_knowing_55 : Wp L d k_D_knowing 55 [l0, l1, l2, l3, l4] [vI s2, vI s1, vI s0] σ Q ↔ Wp L d k_D_knowing 56 [l0, l1, l2, l3, l4] [vI (gshl s1 s2), vI s0] σ Q := wp_ishl rfl
theorem r_D_knowing_56 : Wp L d k_D_knowing 56 [l0, l1, l2, l3, l4] [vI s1, vI s0] σ Q ↔ Wp L d k_D_knowing 57 [l0, l1, l2, l3, l4] [vI (gor s0 s1)] σ Q := wp_ior rfl
theorem r_D_knowing_57 : Wp L d k_D_knowing 57 [l0, l1, vI a2, l3, l4] [vI s0] σ Q ↔ Wp L d k_D_knowing 58 [l0, l1, vI a2, vI s0, l4] [] σ Q := wp_istore (i := 3) (ls := [l0, l1, vI a2, l3, l4]) rfl rfl
theorem r_D_knowing_58 : Wp L d k_D_knowing 58 [l0, l1, l2, vI a3, vI a4] [] σ Q ↔ Wp L d k_D_knowing 61 [l0, l1, l2, vI a3, vI (w32 (a4 + 1))] [] σ Q := wp_iinc (i := 4) (ls := [l0, l1, l2, vI a3, vI a4]) rfl rfl
theorem r_D_knowing_61 : Wp L d k_D_knowing 61 [l0, l1, l2, l3, l4] [] σ Q ↔ Wp L d k_D_knowing 5 [l0, l1, l2, l3, l4] [] σ Q := wp_goto rfl
theorem r_D_knowing_64 : Wp L d k_D_knowing 64 [l0, l1, l2, l3, l4] [] σ Q ↔ Wp L d k_D_knowing 65 [l0, l1, l2, l3, l4] [vI 0] σ Q := wp_push rfl
theorem r_D_knowing_65 : Wp L d k_D_knowing 65 [l0, l1, l2, vI a3, l4] [vI s0] σ Q ↔ Wp L d k_D_knowing 67 [l0, l1, l2, vI a3, vI s0] [] σ Q := wp_istore (i := 4) (ls := [l0, l1, l2, vI a3, l4]) rfl rfl
theorem r_D_knowing_67 : Wp L d k_D_knowing 67 [l0, l1, l2, l3, vI a4] [] σ Q ↔ Wp L d k_D_knowing 69 [l0, l1, l2, l3, vI a4] [vI a4] σ Q := wp_iload rfl rfl
theorem r_D_knowing_69 : Wp L d k_D_knowing 69 [l0, l1, l2, l3, l4] [vI s0] σ Q ↔ Wp L d k_D_knowing 71 [l0, l1, l2, l3, l4] [vI 8, vI s0] σ Q := wp_push rfl
theorem r_D_knowing_71 : Wp L d k_D_knowing 71 [l0, l1, l2, l3, l4] [vI s1, vI s0] σ Q ↔ (if s1 ≤ s0 then Wp L d k_D_knowing 107 [l0, l1, l2, l3, l4] [] σ Q else Wp L d k_D_knowing 74 [l0, l1, l2, l3, l4] [] σ Q) := wp_cmp_ge rfl
theorem r_D_knowing_74 : Wp L d k_D_knowing 74 [l0, l1, l2, vI a3, l4] [] σ Q ↔ Wp L d k_D_knowing 75 [l0, l1, l2, vI a3, l4] [vI a3] σ Q := wp_iload rfl rfl
theorem r_D_knowing_75 : Wp L d k_D_knowing 75 [vR b0, l1, l2, l3, l4] [vI s0] σ Q ↔ Wp L d k_D_knowing 76 [vR b0, l1, l2, l3, l4] [vR b0, vI s0] σ Q := wp_aload rfl rfl
theorem r_D_knowing_76 (h : gK c1 = 11) : Wp L d k_D_knowing 76 [l0, l1, l2, l3, l4] [vR c1, vI s0] σ Q ↔ Wp L d k_D_knowing 79 [l0, l1, l2, l3, l4] [vR (gq c1 4), vI s0] σ Q := wp_getR (c := 2948) rfl rfl rfl rfl rfl h
theorem r_D_knowing_79 : Wp L d k_D_knowing 79 [l0, l1, l2, l3, vI a4] [vR c1, vI s0] σ Q ↔ Wp L d k_D_knowing 81 [l0, l1, l2, l3, vI a4] [vI a4, vR c1, vI s0] σ Q := wp_iload rfl rfl
theorem r_D_knowing_81 (h : gK c1 = 102 ∨ gK c1 = 103) (hx : 0 ≤ s2 ∧ s2 < gN c1) : Wp L d k_D_knowing 81 [l0, l1, l2, l3, l4] [vI s2, vR c1, vI s0] σ Q ↔ Wp L d k_D_knowing 82 [l0, l1, l2, l3, l4] [vR (gq c1 s2.toNat), vI s0] σ Q := wp_aald rfl h hx
theorem r_D_knowing_82 : Wp L d k_D_knowing 82 [l0, vI a1, l2, l3, l4] [vR c1, vI s0] σ Q ↔ Wp L d k_D_knowing 83 [l0, vI a1, l2, l3, l4] [vI a1, vR c1, vI s0] σ Q := wp_iload rfl rfl
theorem r_D_knowing_83 (h : gK c1 = 100) (hx : 0 ≤ s2 ∧ s2 < gN c1) : Wp L d k_D_knowing 83 [l0, l1, l2, l3, l4] [vI s2, vR c1, vI s0] σ Q ↔ Wp L d k_D_knowing 84 [l0, l1, l2, l3, l4] [vI (σ c1 s2.toNat), vI s0] σ Q := wp_iald rfl h hx
theorem r_D_knowing_84 : Wp L d k_D_knowing 84 [l0, l1, vI a2, l3, l4] [vI s1, vI s0] σ Q ↔ Wp L d k_D_knowing 85 [l0, l1, vI a2, l3, l4] [vI a2, vI s1, vI s0] σ Q := wp_iload rfl rfl
theorem r_D_knowing_85 : Wp L d k_D_knowing 85 [l0, l1, l2, l3, l4] [vI s2, vI s1, vI s0] σ Q ↔ (if s2 < s1 then Wp L d k_D_knowing 92 [l0, l1, l2, l3, l4] [vI s0] σ Q else Wp L d k_D_knowing 88 [l0, l1, l2, l3, l4] [vI s0] σ Q) := wp_cmp_gt rfl
theorem r_D_knowing_88 : Wp L d k_D_knowing 88 [l0, l1, l2, l3, l4] [vI s0] σ Q ↔ Wp L d k_D_knowing 89 [l0, l1, l2, l3, l4] [vI 1, vI s0] σ Q := wp_push rfl
theorem r_D_knowing_89 : Wp L d k_D_knowing 89 [l0, l1, l2, l3, l4] [vI s1, vI s0] σ Q ↔ Wp L d k_D_knowing 93 [l0, l1, l2, l3, l4] [vI s1, vI s0] σ Q := wp_goto rfl
theorem r_D_knowing_92 : Wp L d k_D_knowing 92 [l0, l1, l2, l3, l4] [vI s0] σ Q ↔ Wp L d k_D_knowing 93 [l0, l1, l2, l3, l4] [vI 0, vI s0] σ Q := wp_push rfl
theorem r_D_knowing_96 : Wp L d k_D_knowing 96 [l0, l1, l2, l3, vI a4] [vI s1, vI s0] σ Q ↔ Wp L d k_D_knowing 98 [l0, l1, l2, l3, vI a4] [vI a4, vI s1, vI s0] σ Q := wp_iload rfl rfl
theorem r_D_knowing_98 : Wp L d k_D_knowing 98 [l0, l1, l2, l3, l4] [vI s2, vI s1, vI s0] σ Q ↔ Wp L d k_D_knowing 99 [l0, l1, l2, l3, l4] [vI (gshl s1 s2), vI s0] σ Q := wp_ishl rfl
theorem r_D_knowing_99 : Wp L d k_D_knowing 99 [l0, l1, l2, l3, l4] [vI s1, vI s0] σ Q ↔ Wp L d k_D_knowing 100 [l0, l1, l2, l3, l4] [vI (gor s0 s1)] σ Q := wp_ior rfl
theorem r_D_knowing_100 : Wp L d k_D_knowing 100 [l0, l1, vI a2, l3, l4] [vI s0] σ Q ↔ Wp L d k_D_knowing 101 [l0, l1, vI a2, vI s0, l4] [] σ Q := wp_istore (i := 3) (ls := [l0, l1, vI a2, l3, l4]) rfl rfl
theorem r_D_knowing_101 : Wp L d k_D_knowing 101 [l0, l1, l2, vI a3, vI a4] [] σ Q ↔ Wp L d k_D_knowing 104 [l0, l1, l2, vI a3, vI (w32 (a4 + 1))] [] σ Q := wp_iinc (i := 4) (ls := [l0, l1, l2, vI a3, vI a4]) rfl rfl
theorem r_D_knowing_104 : Wp L d k_D_knowing 104 [l0, l1, l2, l3, l4] [] σ Q ↔ Wp L d k_D_knowing 67 [l0, l1, l2, l3, l4] [] σ Q := wp_goto rfl
theorem r_D_knowing_107 : Wp L d k_D_knowing 107 [l0, l1, l2, vI a3, l4] [] σ Q ↔ Wp L d k_D_knowing 108 [l0, l1, l2, vI a3, l4] [vI a3] σ Q := wp_iload rfl rfl
theorem r_D_knowing_108 : Wp L d k_D_knowing 108 [l0, l1, l2, l3, l4] [vI s0] σ Q ↔ Q (some (vI s0)) σ := wp_iret rfl
theorem r_D_knowing_40 (h : 0 ≤ s1 ∧ s1 < 30) (h1 : 0 ≤ σ 111 s1.toNat ∧ σ 111 s1.toNat ≤ 7) (h3 : 0 ≤ σ 113 s1.toNat ∧ σ 113 s1.toNat ≤ 9) : Wp L (d + 1) k_D_knowing 40 [l0, l1, l2, l3, l4] [vI s2, vI s1, vR 109] σ Q ↔ Wp L (d + 1) k_D_knowing 43 [l0, l1, l2, l3, l4] [vI (gb (gbt s2 (σ 111 s1.toNat) = 0 ∧ σ 110 s1.toNat < σ (115 + (σ 111 s1.toNat).toNat) (σ 113 s1.toNat).toNat))] σ Q := wp_callR (d := d + 0) (as := [vR 109, vI s1, vI s2]) (rest := []) rfl rfl rfl rfl rfl rfl rfl (grecv_k (by rw [gK_109]) rfl) (sp_D_isBlind h h1 h3)
theorem r_D_knowing_93 : Wp L (d + 1) k_D_knowing 93 [l0, l1, l2, l3, l4] [vI s1, vI s0] σ Q ↔ Wp L (d + 1) k_D_knowing 96 [l0, l1, l2, l3, l4] [vI (gb (s1 ≠ 0)), vI s0] σ Q := wp_callR (d := d + 0) (as := [vI s1]) (rest := [vI s0]) rfl rfl rfl rfl rfl rfl rfl rfl (sp_X_bit)
theorem sp_D_knowing {f : Nat → Int} {o : Nat → Nat} (hw : WW f) (hc : CW 109 f σ) (ho : gord (fun i => f (600 + 4 * i)) (f 3).toNat o) (h1 : 0 ≤ a1 ∧ a1 ≤ 9) (h2 : 0 ≤ a2 ∧ a2 ≤ 9999) : Run L (d + 1) 187 [vR 109, vI a1, vI a2] σ (some (vI (wkf f a1 a2 (wkn f o a1 a2 (f 3).toNat).1 8))) σ := by
  refine Run_of (C' := k_D_knowing) rfl ?_
  show Wp L (d + 1) k_D_knowing 0 [vR 109, vI a1, vI a2, vU, vU] [] σ _
  obtain ⟨K109, w0, w1, w2, w3, w4, K110, K111, K112, K113, K114, N110, N111, N112, N113, N114⟩ := litD
  obtain ⟨u1, u2, u3⟩ := hw
  obtain ⟨c1, ⟨p, hp, c2⟩, c3⟩ := CWp hc
  have uni : ∀ i, i < (f 3).toNat → p i = o i := fun i hi => gord_uni hp ho (i + 1) i (by omega) hi
  have c2' : ∀ i : Nat, (i : Int) < f 3 → σ 110 i = f (600 + 4 * o i) ∧ σ 111 i = f (600 + 4 * o i + 1) ∧ σ 112 i = f (600 + 4 * o i + 2) ∧ σ 113 i = f (600 + 4 * o i + 3) := fun i hi => by
    rw [← uni i (by omega)]
    exact c2 i hi
  have rng : ∀ i : Nat, (i : Int) < f 3 → o i < 30 ∧ (0 ≤ f (600 + 4 * o i) ∧ f (600 + 4 * o i) ≤ 9999) ∧ (0 ≤ f (600 + 4 * o i + 1) ∧ f (600 + 4 * o i + 1) ≤ 7) ∧ (0 ≤ f (600 + 4 * o i + 2) ∧ f (600 + 4 * o i + 2) ≤ 7) ∧ (0 ≤ f (600 + 4 * o i + 3) ∧ f (600 + 4 * o i + 3) ≤ 9) := fun i hi => by
    have := ho.1 i (by omega)
    exact ⟨by omega, u2 (o i) (by omega)⟩
  have blind : ∀ (i : Nat) (x : Int), (i : Int) < f 3 → f (600 + 4 * o i + 3) = a1 → ((gbt x (σ 111 i) = 0 ∧ σ 110 i < σ (115 + (σ 111 i).toNat) (σ 113 i).toNat) ↔ ¬ (gbt x (f (600 + 4 * o i + 1)) = 1 ∨ brhs f (f (600 + 4 * o i + 1)) a1 (f (600 + 4 * o i)))) := fun i x hi hm => by
    obtain ⟨d0, d1, d2, d3⟩ := c2' i hi
    obtain ⟨r0, r1, r2, r3, r4⟩ := rng i hi
    have g := gand_1 (gshr x (f (600 + 4 * o i + 1)))
    have g' : gbt x (f (600 + 4 * o i + 1)) = gand (gshr x (f (600 + 4 * o i + 1))) 1 := rfl
    have s := c3 (f (600 + 4 * o i + 1)).toNat (by omega) a1.toNat (by omega)
    have s2 := u3 (f (600 + 4 * o i + 1)).toNat (by omega) a1.toNat (by omega)
    rw [d0, d1, d3, hm, s]
    unfold brhs
    split <;> omega

  simp only [r_D_knowing_0, r_D_knowing_1, r_D_knowing_2, r_D_knowing_3, r_D_knowing_7, r_D_knowing_8, r_D_knowing_11, r_D_knowing_14, r_D_knowing_15, r_D_knowing_18, r_D_knowing_20, r_D_knowing_21, r_D_knowing_22, r_D_knowing_25, r_D_knowing_26, r_D_knowing_29, r_D_knowing_31, r_D_knowing_32, r_D_knowing_33, r_D_knowing_36, r_D_knowing_37, r_D_knowing_39, r_D_knowing_40, r_D_knowing_43, r_D_knowing_46, r_D_knowing_47, r_D_knowing_48, r_D_knowing_49, r_D_knowing_52, r_D_knowing_54, r_D_knowing_55, r_D_knowing_56, r_D_knowing_57, r_D_knowing_58, r_D_knowing_61, r_D_knowing_64, r_D_knowing_65, r_D_knowing_69, r_D_knowing_71, r_D_knowing_74, r_D_knowing_75, r_D_knowing_76, r_D_knowing_79, r_D_knowing_81, r_D_knowing_82, r_D_knowing_83, r_D_knowing_84, r_D_knowing_85, r_D_knowing_88, r_D_knowing_89, r_D_knowing_92, r_D_knowing_93, r_D_knowing_96, r_D_knowing_98, r_D_knowing_99, r_D_knowing_100, r_D_knowing_101, r_D_knowing_104, r_D_knowing_107, r_D_knowing_108]
  have fin : Wp L (d + 1) k_D_knowing 67 [vR 109, vI a1, vI a2, vI (wkn f o a1 a2 (f 3).toNat).1, vI 0] [] σ (fun r' σ' => r' = some (vI (wkf f a1 a2 (wkn f o a1 a2 (f 3).toNat).1 8)) ∧ σ' = σ) := by
    refine wl 8 (fun k => [vR 109, vI a1, vI a2, vI (wkf f a1 a2 (wkn f o a1 a2 (f 3).toNat).1 k), vI (k : Int)]) (fun _ => σ) rfl rfl (fun k hk hq => ?_) ?_
    · obtain ⟨g1, g2, g3⟩ := gq114 (i := k) hk
      have s := c3 k hk a1.toNat (by omega)
      have s2 := u3 k hk a1.toNat (by omega)
      have z := gshl_0 k hk
      rw [r_D_knowing_67]
      by_cases e : brhs f (k : Int) a1 a2
      · have e2 : ¬ a2 < σ (115 + k) a1.toNat := by
          unfold brhs at e
          rw [Int.toNat_natCast] at e
          rw [s, if_neg (by omega)]
          omega
        simp (disch := first | assumption | exact gb_01 _ | omega) only [r_D_knowing_0, r_D_knowing_1, r_D_knowing_2, r_D_knowing_3, r_D_knowing_7, r_D_knowing_8, r_D_knowing_11, r_D_knowing_14, r_D_knowing_15, r_D_knowing_18, r_D_knowing_20, r_D_knowing_21, r_D_knowing_22, r_D_knowing_25, r_D_knowing_26, r_D_knowing_29, r_D_knowing_31, r_D_knowing_32, r_D_knowing_33, r_D_knowing_36, r_D_knowing_37, r_D_knowing_39, r_D_knowing_40, r_D_knowing_43, r_D_knowing_46, r_D_knowing_47, r_D_knowing_48, r_D_knowing_49, r_D_knowing_52, r_D_knowing_54, r_D_knowing_55, r_D_knowing_56, r_D_knowing_57, r_D_knowing_58, r_D_knowing_61, r_D_knowing_64, r_D_knowing_65, r_D_knowing_69, r_D_knowing_71, r_D_knowing_74, r_D_knowing_75, r_D_knowing_76, r_D_knowing_79, r_D_knowing_81, r_D_knowing_82, r_D_knowing_83, r_D_knowing_84, r_D_knowing_85, r_D_knowing_88, r_D_knowing_89, r_D_knowing_92, r_D_knowing_93, r_D_knowing_96, r_D_knowing_98, r_D_knowing_99, r_D_knowing_100, r_D_knowing_101, r_D_knowing_104, r_D_knowing_107, r_D_knowing_108, w0, w1, w2, w3, w4, g1, z, w32_gb, w32i, tn_add, tn_mul, Int.toNat_natCast, Int.toNat_zero, Int.reduceLE, Int.reduceLT, Int.reduceEq, Int.reduceNe, gb_T, gb_F, Int.reduceToNat, eq_self, true_or, or_true, and_true, true_and, and_self, ↓ite_gb0, ↓ite_gbn, ↓if_pos, ↓if_neg, if_true, if_false, not_true_eq_false, not_false_eq_true, gb_ne0, gb_eq0]
        refine hq _ _ ?_ rfl
        simp only [List.cons.injEq, vI_inj, vR_inj, and_true, true_and]
        refine ⟨?_, by omega⟩
        show _ = gor _ (if brhs f (k : Int) a1 a2 then gshl 1 (k : Int) else 0)
        rw [if_pos e]
      · have e2 : a2 < σ (115 + k) a1.toNat := by
          unfold brhs at e
          rw [Int.toNat_natCast] at e
          rw [s]
          split <;> omega
        simp (disch := first | assumption | exact gb_01 _ | omega) only [r_D_knowing_0, r_D_knowing_1, r_D_knowing_2, r_D_knowing_3, r_D_knowing_7, r_D_knowing_8, r_D_knowing_11, r_D_knowing_14, r_D_knowing_15, r_D_knowing_18, r_D_knowing_20, r_D_knowing_21, r_D_knowing_22, r_D_knowing_25, r_D_knowing_26, r_D_knowing_29, r_D_knowing_31, r_D_knowing_32, r_D_knowing_33, r_D_knowing_36, r_D_knowing_37, r_D_knowing_39, r_D_knowing_40, r_D_knowing_43, r_D_knowing_46, r_D_knowing_47, r_D_knowing_48, r_D_knowing_49, r_D_knowing_52, r_D_knowing_54, r_D_knowing_55, r_D_knowing_56, r_D_knowing_57, r_D_knowing_58, r_D_knowing_61, r_D_knowing_64, r_D_knowing_65, r_D_knowing_69, r_D_knowing_71, r_D_knowing_74, r_D_knowing_75, r_D_knowing_76, r_D_knowing_79, r_D_knowing_81, r_D_knowing_82, r_D_knowing_83, r_D_knowing_84, r_D_knowing_85, r_D_knowing_88, r_D_knowing_89, r_D_knowing_92, r_D_knowing_93, r_D_knowing_96, r_D_knowing_98, r_D_knowing_99, r_D_knowing_100, r_D_knowing_101, r_D_knowing_104, r_D_knowing_107, r_D_knowing_108, w0, w1, w2, w3, w4, g1, z, w32_gb, w32i, tn_add, tn_mul, Int.toNat_natCast, Int.toNat_zero, Int.reduceLE, Int.reduceLT, Int.reduceEq, Int.reduceNe, gb_T, gb_F, Int.reduceToNat, eq_self, true_or, or_true, and_true, true_and, and_self, ↓ite_gb0, ↓ite_gbn, ↓if_pos, ↓if_neg, if_true, if_false, not_true_eq_false, not_false_eq_true, gb_ne0, gb_eq0]
        refine hq _ _ ?_ rfl
        simp only [List.cons.injEq, vI_inj, vR_inj, and_true, true_and]
        refine ⟨?_, by omega⟩
        show _ = gor _ (if brhs f (k : Int) a1 a2 then gshl 1 (k : Int) else 0)
        rw [if_neg e]
    · rw [r_D_knowing_67]
      simp (disch := first | assumption | exact gb_01 _ | omega) only [r_D_knowing_0, r_D_knowing_1, r_D_knowing_2, r_D_knowing_3, r_D_knowing_7, r_D_knowing_8, r_D_knowing_11, r_D_knowing_14, r_D_knowing_15, r_D_knowing_18, r_D_knowing_20, r_D_knowing_21, r_D_knowing_22, r_D_knowing_25, r_D_knowing_26, r_D_knowing_29, r_D_knowing_31, r_D_knowing_32, r_D_knowing_33, r_D_knowing_36, r_D_knowing_37, r_D_knowing_39, r_D_knowing_40, r_D_knowing_43, r_D_knowing_46, r_D_knowing_47, r_D_knowing_48, r_D_knowing_49, r_D_knowing_52, r_D_knowing_54, r_D_knowing_55, r_D_knowing_56, r_D_knowing_57, r_D_knowing_58, r_D_knowing_61, r_D_knowing_64, r_D_knowing_65, r_D_knowing_69, r_D_knowing_71, r_D_knowing_74, r_D_knowing_75, r_D_knowing_76, r_D_knowing_79, r_D_knowing_81, r_D_knowing_82, r_D_knowing_83, r_D_knowing_84, r_D_knowing_85, r_D_knowing_88, r_D_knowing_89, r_D_knowing_92, r_D_knowing_93, r_D_knowing_96, r_D_knowing_98, r_D_knowing_99, r_D_knowing_100, r_D_knowing_101, r_D_knowing_104, r_D_knowing_107, r_D_knowing_108, w0, w1, w2, w3, w4, w32_gb, w32i, tn_add, tn_mul, Int.toNat_natCast, Int.toNat_zero, Int.reduceLE, Int.reduceLT, Int.reduceEq, Int.reduceNe, gb_T, gb_F, Int.reduceToNat, eq_self, true_or, or_true, and_true, true_and, and_self, ↓ite_gb0, ↓ite_gbn, ↓if_pos, ↓if_neg, if_true, if_false, not_true_eq_false, not_false_eq_true, gb_ne0, gb_eq0]
  refine wloop (n := (f 3).toNat) (I := fun k ls τ => ls = [vR 109, vI a1, vI a2, vI (wkn f o a1 a2 k).1, vI (k : Int)] ∧ τ = σ) (fun k ls τ hk hi hq => ?_) (fun ls τ hi => ?_) (f 3).toNat 0 (by omega) _ _ ⟨rfl, rfl⟩
  · obtain ⟨rfl, rfl⟩ := hi
    obtain ⟨d0, d1, d2, d3⟩ := c2' k (by omega)
    obtain ⟨r0, r1, r2, r3, r4⟩ := rng k (by omega)
    have q1 : 0 ≤ τ 111 ((k : Int).toNat) ∧ τ 111 ((k : Int).toNat) ≤ 7 := by rw [Int.toNat_natCast]; omega
    have q3 : 0 ≤ τ 113 ((k : Int).toNat) ∧ τ 113 ((k : Int).toNat) ≤ 9 := by rw [Int.toNat_natCast]; omega
    rw [r_D_knowing_5]
    by_cases e1 : f (600 + 4 * o k) ≤ a2
    · by_cases e2 : f (600 + 4 * o k + 3) = a1
      · have bl := blind k (wkn f o a1 a2 k).1 (by omega) e2
        by_cases e3 : gbt (wkn f o a1 a2 k).1 (f (600 + 4 * o k + 1)) = 1 ∨ brhs f (f (600 + 4 * o k + 1)) a1 (f (600 + 4 * o k))
        · have nb : ¬ (gbt (wkn f o a1 a2 k).1 (τ 111 k) = 0 ∧ τ 110 k < τ (115 + (τ 111 k).toNat) (τ 113 k).toNat) := fun z => bl.1 z e3
          have gs : wkn f o a1 a2 (k + 1) = (gor (wkn f o a1 a2 k).1 (gshl 1 (f (600 + 4 * o k + 2))), (wkn f o a1 a2 k).2) := by
            show (if f (600 + 4 * o k + 3) = a1 ∧ f (600 + 4 * o k) ≤ a2 then _ else _) = _
            rw [if_pos ⟨e2, e1⟩, if_pos e3]
          simp (disch := first | assumption | exact gb_01 _ | omega) only [r_D_knowing_0, r_D_knowing_1, r_D_knowing_2, r_D_knowing_3, r_D_knowing_7, r_D_knowing_8, r_D_knowing_11, r_D_knowing_14, r_D_knowing_15, r_D_knowing_18, r_D_knowing_20, r_D_knowing_21, r_D_knowing_22, r_D_knowing_25, r_D_knowing_26, r_D_knowing_29, r_D_knowing_31, r_D_knowing_32, r_D_knowing_33, r_D_knowing_36, r_D_knowing_37, r_D_knowing_39, r_D_knowing_40, r_D_knowing_43, r_D_knowing_46, r_D_knowing_47, r_D_knowing_48, r_D_knowing_49, r_D_knowing_52, r_D_knowing_54, r_D_knowing_55, r_D_knowing_56, r_D_knowing_57, r_D_knowing_58, r_D_knowing_61, r_D_knowing_64, r_D_knowing_65, r_D_knowing_69, r_D_knowing_71, r_D_knowing_74, r_D_knowing_75, r_D_knowing_76, r_D_knowing_79, r_D_knowing_81, r_D_knowing_82, r_D_knowing_83, r_D_knowing_84, r_D_knowing_85, r_D_knowing_88, r_D_knowing_89, r_D_knowing_92, r_D_knowing_93, r_D_knowing_96, r_D_knowing_98, r_D_knowing_99, r_D_knowing_100, r_D_knowing_101, r_D_knowing_104, r_D_knowing_107, r_D_knowing_108, w0, w1, w2, w3, w4, nb, w32_gb, w32i, tn_add, tn_mul, Int.toNat_natCast, Int.toNat_zero, Int.reduceLE, Int.reduceLT, Int.reduceEq, Int.reduceNe, gb_T, gb_F, Int.reduceToNat, eq_self, true_or, or_true, and_true, true_and, and_self, ↓ite_gb0, ↓ite_gbn, ↓if_pos, ↓if_neg, if_true, if_false, not_true_eq_false, not_false_eq_true, gb_ne0, gb_eq0]
          refine hq _ _ ⟨?_, rfl⟩
          rw [gs]
          simp only [List.cons.injEq, vI_inj, vR_inj, and_true, true_and]
          rw [d2]
          exact ⟨rfl, by omega⟩
        · have nb := bl.2 e3
          have gs : (wkn f o a1 a2 (k + 1)).1 = (wkn f o a1 a2 k).1 := by
            show (if f (600 + 4 * o k + 3) = a1 ∧ f (600 + 4 * o k) ≤ a2 then _ else _ : Int × Int).1 = _
            rw [if_pos ⟨e2, e1⟩, if_neg e3]
          simp (disch := first | assumption | exact gb_01 _ | omega) only [r_D_knowing_0, r_D_knowing_1, r_D_knowing_2, r_D_knowing_3, r_D_knowing_7, r_D_knowing_8, r_D_knowing_11, r_D_knowing_14, r_D_knowing_15, r_D_knowing_18, r_D_knowing_20, r_D_knowing_21, r_D_knowing_22, r_D_knowing_25, r_D_knowing_26, r_D_knowing_29, r_D_knowing_31, r_D_knowing_32, r_D_knowing_33, r_D_knowing_36, r_D_knowing_37, r_D_knowing_39, r_D_knowing_40, r_D_knowing_43, r_D_knowing_46, r_D_knowing_47, r_D_knowing_48, r_D_knowing_49, r_D_knowing_52, r_D_knowing_54, r_D_knowing_55, r_D_knowing_56, r_D_knowing_57, r_D_knowing_58, r_D_knowing_61, r_D_knowing_64, r_D_knowing_65, r_D_knowing_69, r_D_knowing_71, r_D_knowing_74, r_D_knowing_75, r_D_knowing_76, r_D_knowing_79, r_D_knowing_81, r_D_knowing_82, r_D_knowing_83, r_D_knowing_84, r_D_knowing_85, r_D_knowing_88, r_D_knowing_89, r_D_knowing_92, r_D_knowing_93, r_D_knowing_96, r_D_knowing_98, r_D_knowing_99, r_D_knowing_100, r_D_knowing_101, r_D_knowing_104, r_D_knowing_107, r_D_knowing_108, w0, w1, w2, w3, w4, nb, w32_gb, w32i, tn_add, tn_mul, Int.toNat_natCast, Int.toNat_zero, Int.reduceLE, Int.reduceLT, Int.reduceEq, Int.reduceNe, gb_T, gb_F, Int.reduceToNat, eq_self, true_or, or_true, and_true, true_and, and_self, ↓ite_gb0, ↓ite_gbn, ↓if_pos, ↓if_neg, if_true, if_false, not_true_eq_false, not_false_eq_true, gb_ne0, gb_eq0]
          refine hq _ _ ⟨?_, rfl⟩
          rw [gs]
          simp only [List.cons.injEq, vI_inj, vR_inj, and_true, true_and]
          omega
      · have gs : wkn f o a1 a2 (k + 1) = wkn f o a1 a2 k := by
          show (if f (600 + 4 * o k + 3) = a1 ∧ f (600 + 4 * o k) ≤ a2 then _ else _) = _
          rw [if_neg (fun z => e2 z.1)]
        simp (disch := first | assumption | exact gb_01 _ | omega) only [r_D_knowing_0, r_D_knowing_1, r_D_knowing_2, r_D_knowing_3, r_D_knowing_7, r_D_knowing_8, r_D_knowing_11, r_D_knowing_14, r_D_knowing_15, r_D_knowing_18, r_D_knowing_20, r_D_knowing_21, r_D_knowing_22, r_D_knowing_25, r_D_knowing_26, r_D_knowing_29, r_D_knowing_31, r_D_knowing_32, r_D_knowing_33, r_D_knowing_36, r_D_knowing_37, r_D_knowing_39, r_D_knowing_40, r_D_knowing_43, r_D_knowing_46, r_D_knowing_47, r_D_knowing_48, r_D_knowing_49, r_D_knowing_52, r_D_knowing_54, r_D_knowing_55, r_D_knowing_56, r_D_knowing_57, r_D_knowing_58, r_D_knowing_61, r_D_knowing_64, r_D_knowing_65, r_D_knowing_69, r_D_knowing_71, r_D_knowing_74, r_D_knowing_75, r_D_knowing_76, r_D_knowing_79, r_D_knowing_81, r_D_knowing_82, r_D_knowing_83, r_D_knowing_84, r_D_knowing_85, r_D_knowing_88, r_D_knowing_89, r_D_knowing_92, r_D_knowing_93, r_D_knowing_96, r_D_knowing_98, r_D_knowing_99, r_D_knowing_100, r_D_knowing_101, r_D_knowing_104, r_D_knowing_107, r_D_knowing_108, w0, w1, w2, w3, w4, w32_gb, w32i, tn_add, tn_mul, Int.toNat_natCast, Int.toNat_zero, Int.reduceLE, Int.reduceLT, Int.reduceEq, Int.reduceNe, gb_T, gb_F, Int.reduceToNat, eq_self, true_or, or_true, and_true, true_and, and_self, ↓ite_gb0, ↓ite_gbn, ↓if_pos, ↓if_neg, if_true, if_false, not_true_eq_false, not_false_eq_true, gb_ne0, gb_eq0]
        refine hq _ _ ⟨?_, rfl⟩
        rw [gs]
        simp only [List.cons.injEq, vI_inj, vR_inj, and_true, true_and]
        omega
    · have st : wkn f o a1 a2 (f 3).toNat = wkn f o a1 a2 k := by
        have := wkn_stop (f := f) (o := o) (m := a1) (d := a2) (k := k) ((f 3).toNat - k) (fun i x y => by
          by_cases ei : i = k
          · rw [ei]; omega
          · have this : f (600 + 4 * o k) < f (600 + 4 * o i) ∨ f (600 + 4 * o k) = f (600 + 4 * o i) ∧ o k < o i := ho.2 k i (by omega) (by omega)
            omega)
        rw [show k + ((f 3).toNat - k) = (f 3).toNat by omega] at this
        exact this
      rw [st] at fin ⊢
      simp (disch := first | assumption | exact gb_01 _ | omega) only [r_D_knowing_0, r_D_knowing_1, r_D_knowing_2, r_D_knowing_3, r_D_knowing_7, r_D_knowing_8, r_D_knowing_11, r_D_knowing_14, r_D_knowing_15, r_D_knowing_18, r_D_knowing_20, r_D_knowing_21, r_D_knowing_22, r_D_knowing_25, r_D_knowing_26, r_D_knowing_29, r_D_knowing_31, r_D_knowing_32, r_D_knowing_33, r_D_knowing_36, r_D_knowing_37, r_D_knowing_39, r_D_knowing_40, r_D_knowing_43, r_D_knowing_46, r_D_knowing_47, r_D_knowing_48, r_D_knowing_49, r_D_knowing_52, r_D_knowing_54, r_D_knowing_55, r_D_knowing_56, r_D_knowing_57, r_D_knowing_58, r_D_knowing_61, r_D_knowing_64, r_D_knowing_65, r_D_knowing_69, r_D_knowing_71, r_D_knowing_74, r_D_knowing_75, r_D_knowing_76, r_D_knowing_79, r_D_knowing_81, r_D_knowing_82, r_D_knowing_83, r_D_knowing_84, r_D_knowing_85, r_D_knowing_88, r_D_knowing_89, r_D_knowing_92, r_D_knowing_93, r_D_knowing_96, r_D_knowing_98, r_D_knowing_99, r_D_knowing_100, r_D_knowing_101, r_D_knowing_104, r_D_knowing_107, r_D_knowing_108, w0, w1, w2, w3, w4, w32_gb, w32i, tn_add, tn_mul, Int.toNat_natCast, Int.toNat_zero, Int.reduceLE, Int.reduceLT, Int.reduceEq, Int.reduceNe, gb_T, gb_F, Int.reduceToNat, eq_self, true_or, or_true, and_true, true_and, and_self, ↓ite_gb0, ↓ite_gbn, ↓if_pos, ↓if_neg, if_true, if_false, not_true_eq_false, not_false_eq_true, gb_ne0, gb_eq0]
      exact fin
  · obtain ⟨rfl, rfl⟩ := hi
    rw [r_D_knowing_5]
    simp (disch := first | assumption | exact gb_01 _ | omega) only [r_D_knowing_0, r_D_knowing_1, r_D_knowing_2, r_D_knowing_3, r_D_knowing_7, r_D_knowing_8, r_D_knowing_11, r_D_knowing_14, r_D_knowing_15, r_D_knowing_18, r_D_knowing_20, r_D_knowing_21, r_D_knowing_22, r_D_knowing_25, r_D_knowing_26, r_D_knowing_29, r_D_knowing_31, r_D_knowing_32, r_D_knowing_33, r_D_knowing_36, r_D_knowing_37, r_D_knowing_39, r_D_knowing_40, r_D_knowing_43, r_D_knowing_46, r_D_knowing_47, r_D_knowing_48, r_D_knowing_49, r_D_knowing_52, r_D_knowing_54, r_D_knowing_55, r_D_knowing_56, r_D_knowing_57, r_D_knowing_58, r_D_knowing_61, r_D_knowing_64, r_D_knowing_65, r_D_knowing_69, r_D_knowing_71, r_D_knowing_74, r_D_knowing_75, r_D_knowing_76, r_D_knowing_79, r_D_knowing_81, r_D_knowing_82, r_D_knowing_83, r_D_knowing_84, r_D_knowing_85, r_D_knowing_88, r_D_knowing_89, r_D_knowing_92, r_D_knowing_93, r_D_knowing_96, r_D_knowing_98, r_D_knowing_99, r_D_knowing_100, r_D_knowing_101, r_D_knowing_104, r_D_knowing_107, r_D_knowing_108, w0, w1, w2, w3, w4, w32_gb, w32i, tn_add, tn_mul, Int.toNat_natCast, Int.toNat_zero, Int.reduceLE, Int.reduceLT, Int.reduceEq, Int.reduceNe, gb_T, gb_F, Int.reduceToNat, eq_self, true_or, or_true, and_true, true_and, and_self, ↓ite_gb0, ↓ite_gbn, ↓if_pos, ↓if_neg, if_true, if_false, not_true_eq_false, not_false_eq_true, gb_ne0, gb_eq0]
    exact fin
theorem r_D_blindOf_0 : Wp L d k_D_blindOf 0 [l0, l1, l2, l3, l4] [] σ Q ↔ Wp L d k_D_blindOf 1 [l0, l1, l2, l3, l4] [vI 0] σ Q := wp_push rfl
theorem r_D_blindOf_1 : Wp L d k_D_blindOf 1 [l0, vI a1, l2, l3, l4] [vI s0] σ Q ↔ Wp L d k_D_blindOf 2 [l0, vI a1, vI s0, l3, l4] [] σ Q := wp_istore (i := 2) (ls := [l0, vI a1, l2, l3, l4]) rfl rfl
theorem r_D_blindOf_2 : Wp L d k_D_blindOf 2 [l0, l1, l2, l3, l4] [] σ Q ↔ Wp L d k_D_blindOf 3 [l0, l1, l2, l3, l4] [vI 0] σ Q := wp_push rfl
theorem r_D_blindOf_3 : Wp L d k_D_blindOf 3 [l0, l1, vI a2, l3, l4] [vI s0] σ Q ↔ Wp L d k_D_blindOf 4 [l0, l1, vI a2, vI s0, l4] [] σ Q := wp_istore (i := 3) (ls := [l0, l1, vI a2, l3, l4]) rfl rfl
theorem r_D_blindOf_4 : Wp L d k_D_blindOf 4 [l0, l1, l2, l3, l4] [] σ Q ↔ Wp L d k_D_blindOf 5 [l0, l1, l2, l3, l4] [vI 0] σ Q := wp_push rfl
theorem r_D_blindOf_5 : Wp L d k_D_blindOf 5 [l0, l1, l2, vI a3, l4] [vI s0] σ Q ↔ Wp L d k_D_blindOf 7 [l0, l1, l2, vI a3, vI s0] [] σ Q := wp_istore (i := 4) (ls := [l0, l1, l2, vI a3, l4]) rfl rfl
theorem r_D_blindOf_7 : Wp L d k_D_blindOf 7 [l0, l1, l2, l3, vI a4] [] σ Q ↔ Wp L d k_D_blindOf 9 [l0, l1, l2, l3, vI a4] [vI a4] σ Q := wp_iload rfl rfl
theorem r_D_blindOf_9 : Wp L d k_D_blindOf 9 [vR b0, l1, l2, l3, l4] [vI s0] σ Q ↔ Wp L d k_D_blindOf 10 [vR b0, l1, l2, l3, l4] [vR b0, vI s0] σ Q := wp_aload rfl rfl
theorem r_D_blindOf_10 (h : gK c1 = 11) : Wp L d k_D_blindOf 10 [l0, l1, l2, l3, l4] [vR c1, vI s0] σ Q ↔ Wp L d k_D_blindOf 13 [l0, l1, l2, l3, l4] [vI (σ c1 5), vI s0] σ Q := wp_getI (c := 2821) rfl rfl rfl rfl h
theorem r_D_blindOf_13 : Wp L d k_D_blindOf 13 [l0, l1, l2, l3, l4] [vI s1, vI s0] σ Q ↔ (if s1 ≤ s0 then Wp L d k_D_blindOf 72 [l0, l1, l2, l3, l4] [] σ Q else Wp L d k_D_blindOf 16 [l0, l1, l2, l3, l4] [] σ Q) := wp_cmp_ge rfl
theorem r_D_blindOf_16 : Wp L d k_D_blindOf 16 [vR b0, l1, l2, l3, l4] [] σ Q ↔ Wp L d k_D_blindOf 17 [vR b0, l1, l2, l3, l4] [vR b0] σ Q := wp_aload rfl rfl
theorem r_D_blindOf_17 (h : gK c0 = 11) : Wp L d k_D_blindOf 17 [l0, l1, l2, l3, l4] [vR c0] σ Q ↔ Wp L d k_D_blindOf 20 [l0, l1, l2, l3, l4] [vR (gq c0 3)] σ Q := wp_getR (c := 2947) rfl rfl rfl rfl rfl h
theorem r_D_blindOf_20 : Wp L d k_D_blindOf 20 [l0, l1, l2, l3, vI a4] [vR c0] σ Q ↔ Wp L d k_D_blindOf 22 [l0, l1, l2, l3, vI a4] [vI a4, vR c0] σ Q := wp_iload rfl rfl
theorem r_D_blindOf_22 (h : gK c0 = 100) (hx : 0 ≤ s1 ∧ s1 < gN c0) : Wp L d k_D_blindOf 22 [l0, l1, l2, l3, l4] [vI s1, vR c0] σ Q ↔ Wp L d k_D_blindOf 23 [l0, l1, l2, l3, l4] [vI (σ c0 s1.toNat)] σ Q := wp_iald rfl h hx
theorem r_D_blindOf_23 : Wp L d k_D_blindOf 23 [l0, vI a1, l2, l3, l4] [vI s0] σ Q ↔ Wp L d k_D_blindOf 24 [l0, vI a1, l2, l3, l4] [vI a1, vI s0] σ Q := wp_iload rfl rfl
theorem r_D_blindOf_24 : Wp L d k_D_blindOf 24 [l0, l1, l2, l3, l4] [vI s1, vI s0] σ Q ↔ (if s0 ≠ s1 then Wp L d k_D_blindOf 43 [l0, l1, l2, l3, l4] [] σ Q else Wp L d k_D_blindOf 27 [l0, l1, l2, l3, l4] [] σ Q) := wp_cmp_ne rfl
theorem r_D_blindOf_27 : Wp L d k_D_blindOf 27 [vR b0, l1, l2, l3, l4] [] σ Q ↔ Wp L d k_D_blindOf 28 [vR b0, l1, l2, l3, l4] [vR b0] σ Q := wp_aload rfl rfl
theorem r_D_blindOf_28 : Wp L d k_D_blindOf 28 [l0, l1, l2, l3, vI a4] [vR c0] σ Q ↔ Wp L d k_D_blindOf 30 [l0, l1, l2, l3, vI a4] [vI a4, vR c0] σ Q := wp_iload rfl rfl
theorem r_D_blindOf_30 : Wp L d k_D_blindOf 30 [l0, l1, vI a2, l3, l4] [vI s1, vR c0] σ Q ↔ Wp L d k_D_blindOf 31 [l0, l1, vI a2, l3, l4] [vI a2, vI s1, vR c0] σ Q := wp_iload rfl rfl
theorem r_D_blindOf_34 : Wp L d k_D_blindOf 34 [l0, l1, l2, l3, l4] [vI s0] σ Q ↔ (if s0 = 0 then Wp L d k_D_blindOf 43 [l0, l1, l2, l3, l4] [] σ Q else Wp L d k_D_blindOf 37 [l0, l1, l2, l3, l4] [] σ Q) := wp_if_eq rfl
theorem r_D_blindOf_37 : Wp L d k_D_blindOf 37 [l0, l1, vI a2, vI a3, l4] [] σ Q ↔ Wp L d k_D_blindOf 40 [l0, l1, vI a2, vI (w32 (a3 + 1)), l4] [] σ Q := wp_iinc (i := 3) (ls := [l0, l1, vI a2, vI a3, l4]) rfl rfl
theorem r_D_blindOf_40 : Wp L d k_D_blindOf 40 [l0, l1, l2, l3, l4] [] σ Q ↔ Wp L d k_D_blindOf 66 [l0, l1, l2, l3, l4] [] σ Q := wp_goto rfl
theorem r_D_blindOf_43 : Wp L d k_D_blindOf 43 [vR b0, l1, l2, l3, l4] [] σ Q ↔ Wp L d k_D_blindOf 44 [vR b0, l1, l2, l3, l4] [vR b0] σ Q := wp_aload rfl rfl
theorem r_D_blindOf_44 (h : gK c0 = 11) : Wp L d k_D_blindOf 44 [l0, l1, l2, l3, l4] [vR c0] σ Q ↔ Wp L d k_D_blindOf 47 [l0, l1, l2, l3, l4] [vR (gq c0 3)] σ Q := wp_getR (c := 2947) rfl rfl rfl rfl rfl h
theorem r_D_blindOf_47 : Wp L d k_D_blindOf 47 [l0, l1, l2, l3, vI a4] [vR c0] σ Q ↔ Wp L d k_D_blindOf 49 [l0, l1, l2, l3, vI a4] [vI a4, vR c0] σ Q := wp_iload rfl rfl
theorem r_D_blindOf_49 (h : gK c0 = 100) (hx : 0 ≤ s1 ∧ s1 < gN c0) : Wp L d k_D_blindOf 49 [l0, l1, l2, l3, l4] [vI s1, vR c0] σ Q ↔ Wp L d k_D_blindOf 50 [l0, l1, l2, l3, l4] [vI (σ c0 s1.toNat)] σ Q := wp_iald rfl h hx
theorem r_D_blindOf_50 : Wp L d k_D_blindOf 50 [l0, vI a1, l2, l3, l4] [vI s0] σ Q ↔ Wp L d k_D_blindOf 51 [l0, vI a1, l2, l3, l4] [vI a1, vI s0] σ Q := wp_iload rfl rfl
theorem r_D_blindOf_51 : Wp L d k_D_blindOf 51 [l0, l1, l2, l3, l4] [vI s1, vI s0] σ Q ↔ (if s0 ≠ s1 then Wp L d k_D_blindOf 66 [l0, l1, l2, l3, l4] [] σ Q else Wp L d k_D_blindOf 54 [l0, l1, l2, l3, l4] [] σ Q) := wp_cmp_ne rfl
theorem r_D_blindOf_54 : Wp L d k_D_blindOf 54 [l0, l1, vI a2, l3, l4] [] σ Q ↔ Wp L d k_D_blindOf 55 [l0, l1, vI a2, l3, l4] [vI a2] σ Q := wp_iload rfl rfl
theorem r_D_blindOf_55 : Wp L d k_D_blindOf 55 [l0, l1, l2, l3, l4] [vI s0] σ Q ↔ Wp L d k_D_blindOf 56 [l0, l1, l2, l3, l4] [vI 1, vI s0] σ Q := wp_push rfl
theorem r_D_blindOf_56 : Wp L d k_D_blindOf 56 [vR b0, l1, l2, l3, l4] [vI s1, vI s0] σ Q ↔ Wp L d k_D_blindOf 57 [vR b0, l1, l2, l3, l4] [vR b0, vI s1, vI s0] σ Q := wp_aload rfl rfl
theorem r_D_blindOf_57 (h : gK c2 = 11) : Wp L d k_D_blindOf 57 [l0, l1, l2, l3, l4] [vR c2, vI s1, vI s0] σ Q ↔ Wp L d k_D_blindOf 60 [l0, l1, l2, l3, l4] [vR (gq c2 2), vI s1, vI s0] σ Q := wp_getR (c := 2946) rfl rfl rfl rfl rfl h
theorem r_D_blindOf_60 : Wp L d k_D_blindOf 60 [l0, l1, l2, l3, vI a4] [vR c2, vI s1, vI s0] σ Q ↔ Wp L d k_D_blindOf 62 [l0, l1, l2, l3, vI a4] [vI a4, vR c2, vI s1, vI s0] σ Q := wp_iload rfl rfl
theorem r_D_blindOf_62 (h : gK c2 = 100) (hx : 0 ≤ s3 ∧ s3 < gN c2) : Wp L d k_D_blindOf 62 [l0, l1, l2, l3, l4] [vI s3, vR c2, vI s1, vI s0] σ Q ↔ Wp L d k_D_blindOf 63 [l0, l1, l2, l3, l4] [vI (σ c2 s3.toNat), vI s1, vI s0] σ Q := wp_iald rfl h hx
theorem r_D_blindOf_63 : Wp L d k_D_blindOf 63 [l0, l1, l2, l3, l4] [vI s2, vI s1, vI s0] σ Q ↔ Wp L d k_D_blindOf 64 [l0, l1, l2, l3, l4] [vI (gshl s1 s2), vI s0] σ Q := wp_ishl rfl
theorem r_D_blindOf_64 : Wp L d k_D_blindOf 64 [l0, l1, l2, l3, l4] [vI s1, vI s0] σ Q ↔ Wp L d k_D_blindOf 65 [l0, l1, l2, l3, l4] [vI (gor s0 s1)] σ Q := wp_ior rfl
theorem r_D_blindOf_65 : Wp L d k_D_blindOf 65 [l0, vI a1, l2, l3, l4] [vI s0] σ Q ↔ Wp L d k_D_blindOf 66 [l0, vI a1, vI s0, l3, l4] [] σ Q := wp_istore (i := 2) (ls := [l0, vI a1, l2, l3, l4]) rfl rfl
theorem r_D_blindOf_66 : Wp L d k_D_blindOf 66 [l0, l1, l2, vI a3, vI a4] [] σ Q ↔ Wp L d k_D_blindOf 69 [l0, l1, l2, vI a3, vI (w32 (a4 + 1))] [] σ Q := wp_iinc (i := 4) (ls := [l0, l1, l2, vI a3, vI a4]) rfl rfl
theorem r_D_blindOf_69 : Wp L d k_D_blindOf 69 [l0, l1, l2, l3, l4] [] σ Q ↔ Wp L d k_D_blindOf 7 [l0, l1, l2, l3, l4] [] σ Q := wp_goto rfl
theorem r_D_blindOf_72 : Wp L d k_D_blindOf 72 [l0, l1, l2, vI a3, l4] [] σ Q ↔ Wp L d k_D_blindOf 73 [l0, l1, l2, vI a3, l4] [vI a3] σ Q := wp_iload rfl rfl
theorem r_D_blindOf_73 : Wp L d k_D_blindOf 73 [l0, l1, l2, l3, l4] [vI s0] σ Q ↔ Q (some (vI s0)) σ := wp_iret rfl
theorem r_D_blindOf_31 (h : 0 ≤ s1 ∧ s1 < 30) (h1 : 0 ≤ σ 111 s1.toNat ∧ σ 111 s1.toNat ≤ 7) (h3 : 0 ≤ σ 113 s1.toNat ∧ σ 113 s1.toNat ≤ 9) : Wp L (d + 1) k_D_blindOf 31 [l0, l1, l2, l3, l4] [vI s2, vI s1, vR 109] σ Q ↔ Wp L (d + 1) k_D_blindOf 34 [l0, l1, l2, l3, l4] [vI (gb (gbt s2 (σ 111 s1.toNat) = 0 ∧ σ 110 s1.toNat < σ (115 + (σ 111 s1.toNat).toNat) (σ 113 s1.toNat).toNat))] σ Q := wp_callR (d := d + 0) (as := [vR 109, vI s1, vI s2]) (rest := []) rfl rfl rfl rfl rfl rfl rfl (grecv_k (by rw [gK_109]) rfl) (sp_D_isBlind h h1 h3)
theorem sp_D_blindOf {f : Nat → Int} {o : Nat → Nat} (hw : WW f) (hc : CW 109 f σ) (ho : gord (fun i => f (600 + 4 * i)) (f 3).toNat o) (h1 : 0 ≤ a1 ∧ a1 ≤ 9) : Run L (d + 1) 189 [vR 109, vI a1] σ (some (vI (wkn f o a1 9999 (f 3).toNat).2)) σ := by
  refine Run_of (C' := k_D_blindOf) rfl ?_
  show Wp L (d + 1) k_D_blindOf 0 [vR 109, vI a1, vU, vU, vU] [] σ _
  obtain ⟨K109, w0, w1, w2, w3, w4, K110, K111, K112, K113, K114, N110, N111, N112, N113, N114⟩ := litD
  obtain ⟨u1, u2, u3⟩ := hw
  obtain ⟨c1, ⟨p, hp, c2⟩, c3⟩ := CWp hc
  have uni : ∀ i, i < (f 3).toNat → p i = o i := fun i hi => gord_uni hp ho (i + 1) i (by omega) hi
  have c2' : ∀ i : Nat, (i : Int) < f 3 → σ 110 i = f (600 + 4 * o i) ∧ σ 111 i = f (600 + 4 * o i + 1) ∧ σ 112 i = f (600 + 4 * o i + 2) ∧ σ 113 i = f (600 + 4 * o i + 3) := fun i hi => by
    rw [← uni i (by omega)]
    exact c2 i hi
  have rng : ∀ i : Nat, (i : Int) < f 3 → o i < 30 ∧ (0 ≤ f (600 + 4 * o i) ∧ f (600 + 4 * o i) ≤ 9999) ∧ (0 ≤ f (600 + 4 * o i + 1) ∧ f (600 + 4 * o i + 1) ≤ 7) ∧ (0 ≤ f (600 + 4 * o i + 2) ∧ f (600 + 4 * o i + 2) ≤ 7) ∧ (0 ≤ f (600 + 4 * o i + 3) ∧ f (600 + 4 * o i + 3) ≤ 9) := fun i hi => by
    have := ho.1 i (by omega)
    exact ⟨by omega, u2 (o i) (by omega)⟩
  have blind : ∀ (i : Nat) (x : Int), (i : Int) < f 3 → f (600 + 4 * o i + 3) = a1 → ((gbt x (σ 111 i) = 0 ∧ σ 110 i < σ (115 + (σ 111 i).toNat) (σ 113 i).toNat) ↔ ¬ (gbt x (f (600 + 4 * o i + 1)) = 1 ∨ brhs f (f (600 + 4 * o i + 1)) a1 (f (600 + 4 * o i)))) := fun i x hi hm => by
    obtain ⟨d0, d1, d2, d3⟩ := c2' i hi
    obtain ⟨r0, r1, r2, r3, r4⟩ := rng i hi
    have g := gand_1 (gshr x (f (600 + 4 * o i + 1)))
    have g' : gbt x (f (600 + 4 * o i + 1)) = gand (gshr x (f (600 + 4 * o i + 1))) 1 := rfl
    have s := c3 (f (600 + 4 * o i + 1)).toNat (by omega) a1.toNat (by omega)
    have s2 := u3 (f (600 + 4 * o i + 1)).toNat (by omega) a1.toNat (by omega)
    rw [d0, d1, d3, hm, s]
    unfold brhs
    split <;> omega

  simp only [r_D_blindOf_0, r_D_blindOf_1, r_D_blindOf_2, r_D_blindOf_3, r_D_blindOf_4, r_D_blindOf_5, r_D_blindOf_9, r_D_blindOf_10, r_D_blindOf_13, r_D_blindOf_16, r_D_blindOf_17, r_D_blindOf_20, r_D_blindOf_22, r_D_blindOf_23, r_D_blindOf_24, r_D_blindOf_27, r_D_blindOf_28, r_D_blindOf_30, r_D_blindOf_31, r_D_blindOf_34, r_D_blindOf_37, r_D_blindOf_40, r_D_blindOf_43, r_D_blindOf_44, r_D_blindOf_47, r_D_blindOf_49, r_D_blindOf_50, r_D_blindOf_51, r_D_blindOf_54, r_D_blindOf_55, r_D_blindOf_56, r_D_blindOf_57, r_D_blindOf_60, r_D_blindOf_62, r_D_blindOf_63, r_D_blindOf_64, r_D_blindOf_65, r_D_blindOf_66, r_D_blindOf_69, r_D_blindOf_72, r_D_blindOf_73]
  refine wl (f 3).toNat (fun k => [vR 109, vI a1, vI (wkn f o a1 9999 k).1, vI (wkn f o a1 9999 k).2, vI (k : Int)]) (fun _ => σ) rfl rfl (fun k hk hq => ?_) ?_
  · obtain ⟨d0, d1, d2, d3⟩ := c2' k (by omega)
    obtain ⟨r0, r1, r2, r3, r4⟩ := rng k (by omega)
    have wb := wkn_bd f o a1 9999 k
    have q1 : 0 ≤ σ 111 ((k : Int).toNat) ∧ σ 111 ((k : Int).toNat) ≤ 7 := by rw [Int.toNat_natCast]; omega
    have q3 : 0 ≤ σ 113 ((k : Int).toNat) ∧ σ 113 ((k : Int).toNat) ≤ 9 := by rw [Int.toNat_natCast]; omega
    rw [r_D_blindOf_7]
    by_cases e2 : f (600 + 4 * o k + 3) = a1
    · have bl := blind k (wkn f o a1 9999 k).1 (by omega) e2
      by_cases e3 : gbt (wkn f o a1 9999 k).1 (f (600 + 4 * o k + 1)) = 1 ∨ brhs f (f (600 + 4 * o k + 1)) a1 (f (600 + 4 * o k))
      · have nb : ¬ (gbt (wkn f o a1 9999 k).1 (σ 111 k) = 0 ∧ σ 110 k < σ (115 + (σ 111 k).toNat) (σ 113 k).toNat) := fun z => bl.1 z e3
        have gs : wkn f o a1 9999 (k + 1) = (gor (wkn f o a1 9999 k).1 (gshl 1 (f (600 + 4 * o k + 2))), (wkn f o a1 9999 k).2) := by
          show (if f (600 + 4 * o k + 3) = a1 ∧ f (600 + 4 * o k) ≤ 9999 then _ else _) = _
          rw [if_pos ⟨e2, by omega⟩, if_pos e3]
        simp (disch := first | assumption | exact gb_01 _ | omega) only [r_D_blindOf_0, r_D_blindOf_1, r_D_blindOf_2, r_D_blindOf_3, r_D_blindOf_4, r_D_blindOf_5, r_D_blindOf_9, r_D_blindOf_10, r_D_blindOf_13, r_D_blindOf_16, r_D_blindOf_17, r_D_blindOf_20, r_D_blindOf_22, r_D_blindOf_23, r_D_blindOf_24, r_D_blindOf_27, r_D_blindOf_28, r_D_blindOf_30, r_D_blindOf_31, r_D_blindOf_34, r_D_blindOf_37, r_D_blindOf_40, r_D_blindOf_43, r_D_blindOf_44, r_D_blindOf_47, r_D_blindOf_49, r_D_blindOf_50, r_D_blindOf_51, r_D_blindOf_54, r_D_blindOf_55, r_D_blindOf_56, r_D_blindOf_57, r_D_blindOf_60, r_D_blindOf_62, r_D_blindOf_63, r_D_blindOf_64, r_D_blindOf_65, r_D_blindOf_66, r_D_blindOf_69, r_D_blindOf_72, r_D_blindOf_73, w0, w1, w2, w3, w4, nb, w32_gb, w32i, tn_add, tn_mul, Int.toNat_natCast, Int.toNat_zero, Int.reduceLE, Int.reduceLT, Int.reduceEq, Int.reduceNe, gb_T, gb_F, Int.reduceToNat, eq_self, true_or, or_true, and_true, true_and, and_self, ↓ite_gb0, ↓ite_gbn, ↓if_pos, ↓if_neg, if_true, if_false, not_true_eq_false, not_false_eq_true, gb_ne0, gb_eq0]
        refine hq _ _ ?_ rfl
        rw [gs]
        simp only [List.cons.injEq, vI_inj, vR_inj, and_true, true_and]
        rw [d2]
        exact ⟨rfl, by omega⟩
      · have nb := bl.2 e3
        have gs : wkn f o a1 9999 (k + 1) = ((wkn f o a1 9999 k).1, (wkn f o a1 9999 k).2 + 1) := by
          show (if f (600 + 4 * o k + 3) = a1 ∧ f (600 + 4 * o k) ≤ 9999 then _ else _) = _
          rw [if_pos ⟨e2, by omega⟩, if_neg e3]
        simp (disch := first | assumption | exact gb_01 _ | omega) only [r_D_blindOf_0, r_D_blindOf_1, r_D_blindOf_2, r_D_blindOf_3, r_D_blindOf_4, r_D_blindOf_5, r_D_blindOf_9, r_D_blindOf_10, r_D_blindOf_13, r_D_blindOf_16, r_D_blindOf_17, r_D_blindOf_20, r_D_blindOf_22, r_D_blindOf_23, r_D_blindOf_24, r_D_blindOf_27, r_D_blindOf_28, r_D_blindOf_30, r_D_blindOf_31, r_D_blindOf_34, r_D_blindOf_37, r_D_blindOf_40, r_D_blindOf_43, r_D_blindOf_44, r_D_blindOf_47, r_D_blindOf_49, r_D_blindOf_50, r_D_blindOf_51, r_D_blindOf_54, r_D_blindOf_55, r_D_blindOf_56, r_D_blindOf_57, r_D_blindOf_60, r_D_blindOf_62, r_D_blindOf_63, r_D_blindOf_64, r_D_blindOf_65, r_D_blindOf_66, r_D_blindOf_69, r_D_blindOf_72, r_D_blindOf_73, w0, w1, w2, w3, w4, nb, w32_gb, w32i, tn_add, tn_mul, Int.toNat_natCast, Int.toNat_zero, Int.reduceLE, Int.reduceLT, Int.reduceEq, Int.reduceNe, gb_T, gb_F, Int.reduceToNat, eq_self, true_or, or_true, and_true, true_and, and_self, ↓ite_gb0, ↓ite_gbn, ↓if_pos, ↓if_neg, if_true, if_false, not_true_eq_false, not_false_eq_true, gb_ne0, gb_eq0]
        refine hq _ _ ?_ rfl
        rw [gs]
        simp only [List.cons.injEq, vI_inj, vR_inj, and_true, true_and]
        omega
    · have gs : wkn f o a1 9999 (k + 1) = wkn f o a1 9999 k := by
        show (if f (600 + 4 * o k + 3) = a1 ∧ f (600 + 4 * o k) ≤ 9999 then _ else _) = _
        rw [if_neg (fun z => e2 z.1)]
      simp (disch := first | assumption | exact gb_01 _ | omega) only [r_D_blindOf_0, r_D_blindOf_1, r_D_blindOf_2, r_D_blindOf_3, r_D_blindOf_4, r_D_blindOf_5, r_D_blindOf_9, r_D_blindOf_10, r_D_blindOf_13, r_D_blindOf_16, r_D_blindOf_17, r_D_blindOf_20, r_D_blindOf_22, r_D_blindOf_23, r_D_blindOf_24, r_D_blindOf_27, r_D_blindOf_28, r_D_blindOf_30, r_D_blindOf_31, r_D_blindOf_34, r_D_blindOf_37, r_D_blindOf_40, r_D_blindOf_43, r_D_blindOf_44, r_D_blindOf_47, r_D_blindOf_49, r_D_blindOf_50, r_D_blindOf_51, r_D_blindOf_54, r_D_blindOf_55, r_D_blindOf_56, r_D_blindOf_57, r_D_blindOf_60, r_D_blindOf_62, r_D_blindOf_63, r_D_blindOf_64, r_D_blindOf_65, r_D_blindOf_66, r_D_blindOf_69, r_D_blindOf_72, r_D_blindOf_73, w0, w1, w2, w3, w4, w32_gb, w32i, tn_add, tn_mul, Int.toNat_natCast, Int.toNat_zero, Int.reduceLE, Int.reduceLT, Int.reduceEq, Int.reduceNe, gb_T, gb_F, Int.reduceToNat, eq_self, true_or, or_true, and_true, true_and, and_self, ↓ite_gb0, ↓ite_gbn, ↓if_pos, ↓if_neg, if_true, if_false, not_true_eq_false, not_false_eq_true, gb_ne0, gb_eq0]
      refine hq _ _ ?_ rfl
      rw [gs]
      simp only [List.cons.injEq, vI_inj, vR_inj, and_true, true_and]
      omega
  · rw [r_D_blindOf_7]
    simp (disch := first | assumption | exact gb_01 _ | omega) only [r_D_blindOf_0, r_D_blindOf_1, r_D_blindOf_2, r_D_blindOf_3, r_D_blindOf_4, r_D_blindOf_5, r_D_blindOf_9, r_D_blindOf_10, r_D_blindOf_13, r_D_blindOf_16, r_D_blindOf_17, r_D_blindOf_20, r_D_blindOf_22, r_D_blindOf_23, r_D_blindOf_24, r_D_blindOf_27, r_D_blindOf_28, r_D_blindOf_30, r_D_blindOf_31, r_D_blindOf_34, r_D_blindOf_37, r_D_blindOf_40, r_D_blindOf_43, r_D_blindOf_44, r_D_blindOf_47, r_D_blindOf_49, r_D_blindOf_50, r_D_blindOf_51, r_D_blindOf_54, r_D_blindOf_55, r_D_blindOf_56, r_D_blindOf_57, r_D_blindOf_60, r_D_blindOf_62, r_D_blindOf_63, r_D_blindOf_64, r_D_blindOf_65, r_D_blindOf_66, r_D_blindOf_69, r_D_blindOf_72, r_D_blindOf_73, w0, w1, w2, w3, w4, w32_gb, w32i, tn_add, tn_mul, Int.toNat_natCast, Int.toNat_zero, Int.reduceLE, Int.reduceLT, Int.reduceEq, Int.reduceNe, gb_T, gb_F, Int.reduceToNat, eq_self, true_or, or_true, and_true, true_and, and_self, ↓ite_gb0, ↓ite_gbn, ↓if_pos, ↓if_neg, if_true, if_false, not_true_eq_false, not_false_eq_true, gb_ne0, gb_eq0]
