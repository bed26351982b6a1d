/-! saw. -/
variable {L d : Nat} {σ σ1 : Nat → Nat → Int} {Q : Option gV → (Nat → Nat → Int) → Prop} {a0 a1 a2 a3 a4 a5 a6 a7 a8 a9 a10 a11 s0 s1 s2 s3 s4 s5 s6 s7 s8 s9 : Int} {l0 l1 l2 l3 l4 l5 l6 l7 l8 l9 l10 l11 t0 t1 t2 t3 t4 t5 t6 t7 t8 t9 : gV} {b0 b1 b2 b3 b4 b5 b6 b7 b8 b9 b10 b11 c0 c1 c2 c3 c4 c5 c6 c7 c8 c9 : Nat} {r : Option gV}
theorem gord_congr {day day' : Nat → Int} {n : Nat} {o : Nat → Nat} (h : ∀ i, i < n → day' i = day i) (g : gord day n o) : gord day' n o :=
  ⟨g.1, fun i j hij hj => by rw [h _ (g.1 i (by omega)), h _ (g.1 j hj)]; exact g.2 i j hij hj⟩
theorem saw_new {σ τ : gMm} {a b : Nat} {v : Int} (hw : WW (σ 294)) (hc : CW 109 (σ 294) σ) (ha : a < 8) (hb : b < 10) (hv : 0 ≤ v ∧ v ≤ 9999) (f : ∀ j, j ≠ 720 + 10 * a + b → τ 294 j = σ 294 j) (g : τ 294 (720 + 10 * a + b) = v) (c : ∀ k j, 109 ≤ k → k ≤ 122 → ¬ (k = 115 + a ∧ j = b) → τ k j = σ k j) (e : τ (115 + a) b = v) : WW (τ 294) ∧ CW 109 (τ 294) τ := by
  obtain ⟨w1, w2, w3⟩ := hw
  obtain ⟨c1, ⟨o, ho, c2⟩, c3⟩ := hc
  have f3 := f 3 (by omega)
  refine ⟨⟨by rw [f3]; exact w1, fun i hi => ?_, fun x hx y hy => ?_⟩, by rw [f3, c 109 5 (by omega) (by omega) (by omega)]; exact c1, ⟨o, ?_, fun i hi => ?_⟩, fun x hx y hy => ?_⟩
  · rw [f3] at hi
    rw [f _ (by omega), f _ (by omega), f _ (by omega), f _ (by omega)]
    exact w2 i hi
  · by_cases q : x = a ∧ y = b
    · rw [q.1, q.2, g]
      exact Or.inr hv
    · rw [f _ (by omega)]
      exact w3 x hx y hy
  · rw [f3]
    exact gord_congr (fun i hi => f _ (by omega)) ho
  · rw [f3] at hi
    have := ho.1 i (by omega)
    rw [f _ (by omega), f _ (by omega), f _ (by omega), f _ (by omega), c _ _ (by omega) (by omega) (by omega), c _ _ (by omega) (by omega) (by omega), c _ _ (by omega) (by omega) (by omega), c _ _ (by omega) (by omega) (by omega)]
    exact c2 i hi
  · by_cases q : x = a ∧ y = b
    · rw [q.1, q.2, g, show 109 + 6 + a = 115 + a by omega, e, if_neg (by omega)]
    · rw [f _ (by omega), c _ _ (by omega) (by omega) (by omega)]
      exact c3 x hx y hy
theorem r_X_saw_0 : Wp L d k_X_saw 0 [l0, vI a1, l2, l3, l4] [] σ Q ↔ Wp L d k_X_saw 1 [l0, vI a1, l2, l3, l4] [vI a1] σ Q := wp_iload rfl rfl
theorem r_X_saw_4 : Wp L d k_X_saw 4 [l0, l1, l2, l3, l4] [vI s0] σ Q ↔ (if s0 = 0 then Wp L d k_X_saw 21 [l0, l1, l2, l3, l4] [] σ Q else Wp L d k_X_saw 7 [l0, l1, l2, l3, l4] [] σ Q) := wp_if_eq rfl
theorem r_X_saw_7 : Wp L d k_X_saw 7 [l0, l1, vI a2, l3, l4] [] σ Q ↔ Wp L d k_X_saw 8 [l0, l1, vI a2, l3, l4] [vI a2] σ Q := wp_iload rfl rfl
theorem r_X_saw_11 : Wp L d k_X_saw 11 [l0, l1, l2, l3, l4] [vI s0] σ Q ↔ (if s0 = 0 then Wp L d k_X_saw 21 [l0, l1, l2, l3, l4] [] σ Q else Wp L d k_X_saw 14 [l0, l1, l2, l3, l4] [] σ Q) := wp_if_eq rfl
theorem r_X_saw_14 : Wp L d k_X_saw 14 [l0, l1, l2, vI a3, l4] [] σ Q ↔ Wp L d k_X_saw 15 [l0, l1, l2, vI a3, l4] [vI a3] σ Q := wp_iload rfl rfl
theorem r_X_saw_18 : Wp L d k_X_saw 18 [l0, l1, l2, l3, l4] [vI s0] σ Q ↔ (if s0 ≠ 0 then Wp L d k_X_saw 24 [l0, l1, l2, l3, l4] [] σ Q else Wp L d k_X_saw 21 [l0, l1, l2, l3, l4] [] σ Q) := wp_if_ne rfl
theorem r_X_saw_21 : Wp L d k_X_saw 21 [l0, l1, l2, l3, l4] [] σ Q ↔ Wp L d k_X_saw 23 [l0, l1, l2, l3, l4] [vI (-1000000001)] σ Q := wp_push rfl
theorem r_X_saw_23 : Wp L d k_X_saw 23 [l0, l1, l2, l3, l4] [vI s0] σ Q ↔ Q (some (vI s0)) σ := wp_iret rfl
theorem r_X_saw_24 : Wp L d k_X_saw 24 [l0, l1, l2, vI a3, l4] [] σ Q ↔ Wp L d k_X_saw 25 [l0, l1, l2, vI a3, l4] [vI a3] σ Q := wp_iload rfl rfl
theorem r_X_saw_25 : Wp L d k_X_saw 25 [vR b0, l1, l2, l3, l4] [vI s0] σ Q ↔ Wp L d k_X_saw 26 [vR b0, l1, l2, l3, l4] [vR b0, vI s0] σ Q := wp_aload rfl rfl
theorem r_X_saw_26 (h : gK c1 = 0) : Wp L d k_X_saw 26 [l0, l1, l2, l3, l4] [vR c1, vI s0] σ Q ↔ Wp L d k_X_saw 29 [l0, l1, l2, l3, l4] [vR (gq c1 0), vI s0] σ Q := wp_getR (c := 128) rfl rfl rfl rfl rfl h
theorem r_X_saw_29 (h : gK c1 = 5) : Wp L d k_X_saw 29 [l0, l1, l2, l3, l4] [vR c1, vI s0] σ Q ↔ Wp L d k_X_saw 32 [l0, l1, l2, l3, l4] [vR (gq c1 4), vI s0] σ Q := wp_getR (c := 1412) rfl rfl rfl rfl rfl h
theorem r_X_saw_32 (h : gK c1 = 11) : Wp L d k_X_saw 32 [l0, l1, l2, l3, l4] [vR c1, vI s0] σ Q ↔ Wp L d k_X_saw 35 [l0, l1, l2, l3, l4] [vR (gq c1 4), vI s0] σ Q := wp_getR (c := 2948) rfl rfl rfl rfl rfl h
theorem r_X_saw_35 : Wp L d k_X_saw 35 [l0, vI a1, l2, l3, l4] [vR c1, vI s0] σ Q ↔ Wp L d k_X_saw 36 [l0, vI a1, l2, l3, l4] [vI a1, vR c1, vI s0] σ Q := wp_iload rfl rfl
theorem r_X_saw_36 (h : gK c1 = 102 ∨ gK c1 = 103) (hx : 0 ≤ s2 ∧ s2 < gN c1) : Wp L d k_X_saw 36 [l0, l1, l2, l3, l4] [vI s2, vR c1, vI s0] σ Q ↔ Wp L d k_X_saw 37 [l0, l1, l2, l3, l4] [vR (gq c1 s2.toNat), vI s0] σ Q := wp_aald rfl h hx
theorem r_X_saw_37 : Wp L d k_X_saw 37 [l0, l1, vI a2, l3, l4] [vR c1, vI s0] σ Q ↔ Wp L d k_X_saw 38 [l0, l1, vI a2, l3, l4] [vI a2, vR c1, vI s0] σ Q := wp_iload rfl rfl
theorem r_X_saw_38 (h : gK c1 = 100) (hx : 0 ≤ s2 ∧ s2 < gN c1) : Wp L d k_X_saw 38 [l0, l1, l2, l3, l4] [vI s2, vR c1, vI s0] σ Q ↔ Wp L d k_X_saw 39 [l0, l1, l2, l3, l4] [vI (σ c1 s2.toNat), vI s0] σ Q := wp_iald rfl h hx
theorem r_X_saw_39 : Wp L d k_X_saw 39 [l0, l1, l2, l3, l4] [vI s1, vI s0] σ Q ↔ Wp L d k_X_saw 42 [l0, l1, l2, l3, l4] [vI (min s0 s1)] σ Q := wp_min rfl rfl
theorem r_X_saw_42 : Wp L d k_X_saw 42 [l0, l1, l2, vI a3, l4] [vI s0] σ Q ↔ Wp L d k_X_saw 44 [l0, l1, l2, vI a3, vI s0] [] σ Q := wp_istore (i := 4) (ls := [l0, l1, l2, vI a3, l4]) rfl rfl
theorem r_X_saw_44 : Wp L d k_X_saw 44 [vR b0, l1, l2, l3, l4] [] σ Q ↔ Wp L d k_X_saw 45 [vR b0, l1, l2, l3, l4] [vR b0] σ Q := wp_aload rfl rfl
theorem r_X_saw_45 (h : gK c0 = 0) : Wp L d k_X_saw 45 [l0, l1, l2, l3, l4] [vR c0] σ Q ↔ Wp L d k_X_saw 48 [l0, l1, l2, l3, l4] [vR (gq c0 0)] σ Q := wp_getR (c := 128) rfl rfl rfl rfl rfl h
theorem r_X_saw_48 (h : gK c0 = 5) : Wp L d k_X_saw 48 [l0, l1, l2, l3, l4] [vR c0] σ Q ↔ Wp L d k_X_saw 51 [l0, l1, l2, l3, l4] [vR (gq c0 4)] σ Q := wp_getR (c := 1412) rfl rfl rfl rfl rfl h
theorem r_X_saw_51 (h : gK c0 = 11) : Wp L d k_X_saw 51 [l0, l1, l2, l3, l4] [vR c0] σ Q ↔ Wp L d k_X_saw 54 [l0, l1, l2, l3, l4] [vR (gq c0 4)] σ Q := wp_getR (c := 2948) rfl rfl rfl rfl rfl h
theorem r_X_saw_54 : Wp L d k_X_saw 54 [l0, vI a1, l2, l3, l4] [vR c0] σ Q ↔ Wp L d k_X_saw 55 [l0, vI a1, l2, l3, l4] [vI a1, vR c0] σ Q := wp_iload rfl rfl
theorem r_X_saw_55 (h : gK c0 = 102 ∨ gK c0 = 103) (hx : 0 ≤ s1 ∧ s1 < gN c0) : Wp L d k_X_saw 55 [l0, l1, l2, l3, l4] [vI s1, vR c0] σ Q ↔ Wp L d k_X_saw 56 [l0, l1, l2, l3, l4] [vR (gq c0 s1.toNat)] σ Q := wp_aald rfl h hx
theorem r_X_saw_56 : Wp L d k_X_saw 56 [l0, l1, vI a2, l3, l4] [vR c0] σ Q ↔ Wp L d k_X_saw 57 [l0, l1, vI a2, l3, l4] [vI a2, vR c0] σ Q := wp_iload rfl rfl
theorem r_X_saw_57 : Wp L d k_X_saw 57 [l0, l1, l2, l3, vI a4] [vI s1, vR c0] σ Q ↔ Wp L d k_X_saw 59 [l0, l1, l2, l3, vI a4] [vI a4, vI s1, vR c0] σ Q := wp_iload rfl rfl
theorem r_X_saw_59 (h : gK c0 = 100) (hx : 0 ≤ s1 ∧ s1 < gN c0) : Wp L d k_X_saw 59 [l0, l1, l2, l3, l4] [vI s2, vI s1, vR c0] σ Q ↔ Wp L d k_X_saw 60 [l0, l1, l2, l3, l4] [] (gupd σ c0 s1.toNat s2) Q := wp_iast rfl h hx
theorem r_X_saw_60 : Wp L d k_X_saw 60 [l0, l1, l2, l3, vI a4] [] σ Q ↔ Wp L d k_X_saw 62 [l0, l1, l2, l3, vI a4] [vI a4] σ Q := wp_iload rfl rfl
theorem r_X_saw_62 : Wp L d k_X_saw 62 [l0, l1, l2, l3, l4] [vI s0] σ Q ↔ Q (some (vI s0)) σ := wp_iret rfl
theorem r_X_saw_1 : Wp L (d + 2) k_X_saw 1 [l0, l1, l2, l3, l4] [vI s0] σ Q ↔ Wp L (d + 2) k_X_saw 4 [l0, l1, l2, l3, l4] [vI (gb (0 ≤ s0 ∧ s0 ≤ 7))] σ Q := wp_callR (d := d + 1) (as := [vI s0]) (rest := []) rfl rfl rfl rfl rfl rfl rfl rfl (sp_X_isOffice)
theorem r_X_saw_8 : Wp L (d + 2) k_X_saw 8 [l0, l1, l2, l3, l4] [vI s0] σ Q ↔ Wp L (d + 2) k_X_saw 11 [l0, l1, l2, l3, l4] [vI (gb (0 ≤ s0 ∧ s0 ≤ 9))] σ Q := wp_callR (d := d + 1) (as := [vI s0]) (rest := []) rfl rfl rfl rfl rfl rfl rfl rfl (sp_X_isMatter)
theorem r_X_saw_15 : Wp L (d + 2) k_X_saw 15 [l0, l1, l2, l3, l4] [vI s0] σ Q ↔ Wp L (d + 2) k_X_saw 18 [l0, l1, l2, l3, l4] [vI (gb (0 ≤ s0 ∧ s0 ≤ 9999))] σ Q := wp_callR (d := d + 1) (as := [vI s0]) (rest := []) rfl rfl rfl rfl rfl rfl rfl rfl (sp_X_isDay)
theorem sp_X_saw_b (h : ¬ ((0 ≤ a1 ∧ a1 ≤ 7) ∧ (0 ≤ a2 ∧ a2 ≤ 9) ∧ (0 ≤ a3 ∧ a3 ≤ 9999))) : Run L (d + 2) 65 [vR 27, vI a1, vI a2, vI a3] σ (some (vI (-1000000001))) σ := by
  refine Run_of (C' := k_X_saw) rfl ?_
  show Wp L (d + 2) k_X_saw 0 [vR 27, vI a1, vI a2, vI a3, vU] [] σ _
  simp only [r_X_saw_0, r_X_saw_1, r_X_saw_4, r_X_saw_7, r_X_saw_8, r_X_saw_11, r_X_saw_14, r_X_saw_15, r_X_saw_18, r_X_saw_21, r_X_saw_23, r_X_saw_24, r_X_saw_25, r_X_saw_26, gK_27, gK_28, gK_29, gq_27_0, gq_27_1, gK_293, gq_293_0, gK_294, gN_294, gq_28_4, gK_109, gq_109_4, gK_114, gN_114, Int.reduceLE, Int.reduceLT, Int.reduceEq, Int.reduceToNat, gb_01, eq_self, true_or, or_true, and_true, true_and, and_self, if_true, if_false, not_true_eq_false, not_false_eq_true, ne_eq, gb_ne0, gb_eq0]
  repeat' split
  all_goals first | trivial | omega
theorem sp_X_saw (h1 : 0 ≤ a1 ∧ a1 ≤ 7) (h2 : 0 ≤ a2 ∧ a2 ≤ 9) (h3 : 0 ≤ a3 ∧ a3 ≤ 9999) : Run L (d + 2) 65 [vR 27, vI a1, vI a2, vI a3] σ (some (vI (min a3 (σ (115 + a1.toNat) a2.toNat)))) (gupd σ (115 + a1.toNat) a2.toNat (min a3 (σ (115 + a1.toNat) a2.toNat))) := by
  obtain ⟨q1, q2, q3⟩ := gq114 (show a1.toNat < 8 by omega)
  have h4 : a1 < 8 := by omega
  have h5 : a2 < 10 := by omega
  refine Run_of (C' := k_X_saw) rfl ?_
  show Wp L (d + 2) k_X_saw 0 [vR 27, vI a1, vI a2, vI a3, vU] [] σ _
  simp only [r_X_saw_0, r_X_saw_1, r_X_saw_4, r_X_saw_7, r_X_saw_8, r_X_saw_11, r_X_saw_14, r_X_saw_15, r_X_saw_18, r_X_saw_21, r_X_saw_23, r_X_saw_24, r_X_saw_25, r_X_saw_26, r_X_saw_29, r_X_saw_32, r_X_saw_35, r_X_saw_36, r_X_saw_37, r_X_saw_38, r_X_saw_39, r_X_saw_42, r_X_saw_44, r_X_saw_45, r_X_saw_48, r_X_saw_51, r_X_saw_54, r_X_saw_55, r_X_saw_56, r_X_saw_57, r_X_saw_59, r_X_saw_60, r_X_saw_62, gK_27, gK_28, gK_29, gq_27_0, gq_27_1, gK_293, gq_293_0, gK_294, gN_294, gq_28_4, gK_109, gq_109_4, gK_114, gN_114, q1, q2, q3, h1, h2, h3, h4, h5, Int.reduceLE, Int.reduceLT, Int.reduceEq, Int.reduceToNat, gb_01, eq_self, true_or, or_true, and_true, true_and, and_self, if_true, if_false, not_true_eq_false, not_false_eq_true, ne_eq, gb_ne0, gb_eq0]
theorem r_M_saw_0 : Wp L d k_M_saw 0 [l0, vI a1, l2, l3, l4] [] σ Q ↔ Wp L d k_M_saw 1 [l0, vI a1, l2, l3, l4] [vI a1] σ Q := wp_iload rfl rfl
theorem r_M_saw_4 : Wp L d k_M_saw 4 [l0, l1, l2, l3, l4] [vI s0] σ Q ↔ (if s0 = 0 then Wp L d k_M_saw 21 [l0, l1, l2, l3, l4] [] σ Q else Wp L d k_M_saw 7 [l0, l1, l2, l3, l4] [] σ Q) := wp_if_eq rfl
theorem r_M_saw_7 : Wp L d k_M_saw 7 [l0, l1, vI a2, l3, l4] [] σ Q ↔ Wp L d k_M_saw 8 [l0, l1, vI a2, l3, l4] [vI a2] σ Q := wp_iload rfl rfl
theorem r_M_saw_11 : Wp L d k_M_saw 11 [l0, l1, l2, l3, l4] [vI s0] σ Q ↔ (if s0 = 0 then Wp L d k_M_saw 21 [l0, l1, l2, l3, l4] [] σ Q else Wp L d k_M_saw 14 [l0, l1, l2, l3, l4] [] σ Q) := wp_if_eq rfl
theorem r_M_saw_14 : Wp L d k_M_saw 14 [l0, l1, l2, vI a3, l4] [] σ Q ↔ Wp L d k_M_saw 15 [l0, l1, l2, vI a3, l4] [vI a3] σ Q := wp_iload rfl rfl
theorem r_M_saw_18 : Wp L d k_M_saw 18 [l0, l1, l2, l3, l4] [vI s0] σ Q ↔ (if s0 ≠ 0 then Wp L d k_M_saw 24 [l0, l1, l2, l3, l4] [] σ Q else Wp L d k_M_saw 21 [l0, l1, l2, l3, l4] [] σ Q) := wp_if_ne rfl
theorem r_M_saw_21 : Wp L d k_M_saw 21 [l0, l1, l2, l3, l4] [] σ Q ↔ Wp L d k_M_saw 23 [l0, l1, l2, l3, l4] [vI (-1000000001)] σ Q := wp_push rfl
theorem r_M_saw_23 : Wp L d k_M_saw 23 [l0, l1, l2, l3, l4] [vI s0] σ Q ↔ Q (some (vI s0)) σ := wp_iret rfl
theorem r_M_saw_24 : Wp L d k_M_saw 24 [l0, l1, l2, l3, l4] [] σ Q ↔ Wp L d k_M_saw 27 [l0, l1, l2, l3, l4] [vI 720] σ Q := wp_push rfl
theorem r_M_saw_27 : Wp L d k_M_saw 27 [l0, l1, l2, l3, l4] [vI s0] σ Q ↔ Wp L d k_M_saw 29 [l0, l1, l2, l3, l4] [vI 10, vI s0] σ Q := wp_push rfl
theorem r_M_saw_29 : Wp L d k_M_saw 29 [l0, vI a1, l2, l3, l4] [vI s1, vI s0] σ Q ↔ Wp L d k_M_saw 30 [l0, vI a1, l2, l3, l4] [vI a1, vI s1, vI s0] σ Q := wp_iload rfl rfl
theorem r_M_saw_30 : Wp L d k_M_saw 30 [l0, l1, l2, l3, l4] [vI s2, vI s1, vI s0] σ Q ↔ Wp L d k_M_saw 31 [l0, l1, l2, l3, l4] [vI (w32 (s1 * s2)), vI s0] σ Q := wp_imul rfl
theorem r_M_saw_31 : Wp L d k_M_saw 31 [l0, l1, l2, l3, l4] [vI s1, vI s0] σ Q ↔ Wp L d k_M_saw 32 [l0, l1, l2, l3, l4] [vI (w32 (s0 + s1))] σ Q := wp_iadd rfl
theorem r_M_saw_32 : Wp L d k_M_saw 32 [l0, l1, vI a2, l3, l4] [vI s0] σ Q ↔ Wp L d k_M_saw 33 [l0, l1, vI a2, l3, l4] [vI a2, vI s0] σ Q := wp_iload rfl rfl
theorem r_M_saw_33 : Wp L d k_M_saw 33 [l0, l1, l2, l3, l4] [vI s1, vI s0] σ Q ↔ Wp L d k_M_saw 34 [l0, l1, l2, l3, l4] [vI (w32 (s0 + s1))] σ Q := wp_iadd rfl
theorem r_M_saw_34 : Wp L d k_M_saw 34 [l0, l1, l2, vI a3, l4] [vI s0] σ Q ↔ Wp L d k_M_saw 36 [l0, l1, l2, vI a3, vI s0] [] σ Q := wp_istore (i := 4) (ls := [l0, l1, l2, vI a3, l4]) rfl rfl
theorem r_M_saw_36 : Wp L d k_M_saw 36 [vR b0, l1, l2, l3, l4] [] σ Q ↔ Wp L d k_M_saw 37 [vR b0, l1, l2, l3, l4] [vR b0] σ Q := wp_aload rfl rfl
theorem r_M_saw_37 (h : gK c0 = 12) : Wp L d k_M_saw 37 [l0, l1, l2, l3, l4] [vR c0] σ Q ↔ Wp L d k_M_saw 40 [l0, l1, l2, l3, l4] [vR (gq c0 0)] σ Q := wp_getR (c := 3200) rfl rfl rfl rfl rfl h
theorem r_M_saw_40 : Wp L d k_M_saw 40 [l0, l1, l2, l3, vI a4] [vR c0] σ Q ↔ Wp L d k_M_saw 42 [l0, l1, l2, l3, vI a4] [vI a4, vR c0] σ Q := wp_iload rfl rfl
theorem r_M_saw_42 : Wp L d k_M_saw 42 [vR b0, l1, l2, l3, l4] [vI s1, vR c0] σ Q ↔ Wp L d k_M_saw 43 [vR b0, l1, l2, l3, l4] [vR b0, vI s1, vR c0] σ Q := wp_aload rfl rfl
theorem r_M_saw_43 (h : gK c2 = 12) : Wp L d k_M_saw 43 [l0, l1, l2, l3, l4] [vR c2, vI s1, vR c0] σ Q ↔ Wp L d k_M_saw 46 [l0, l1, l2, l3, l4] [vR (gq c2 0), vI s1, vR c0] σ Q := wp_getR (c := 3200) rfl rfl rfl rfl rfl h
theorem r_M_saw_46 : Wp L d k_M_saw 46 [l0, l1, l2, l3, vI a4] [vR c2, vI s1, vR c0] σ Q ↔ Wp L d k_M_saw 48 [l0, l1, l2, l3, vI a4] [vI a4, vR c2, vI s1, vR c0] σ Q := wp_iload rfl rfl
theorem r_M_saw_48 (h : gK c2 = 100) (hx : 0 ≤ s3 ∧ s3 < gN c2) : Wp L d k_M_saw 48 [l0, l1, l2, l3, l4] [vI s3, vR c2, vI s1, vR c0] σ Q ↔ Wp L d k_M_saw 49 [l0, l1, l2, l3, l4] [vI (σ c2 s3.toNat), vI s1, vR c0] σ Q := wp_iald rfl h hx
theorem r_M_saw_49 : Wp L d k_M_saw 49 [l0, l1, l2, l3, l4] [vI s2, vI s1, vR c0] σ Q ↔ (if 0 ≤ s2 then Wp L d k_M_saw 56 [l0, l1, l2, l3, l4] [vI s1, vR c0] σ Q else Wp L d k_M_saw 52 [l0, l1, l2, l3, l4] [vI s1, vR c0] σ Q) := wp_if_ge rfl
theorem r_M_saw_52 : Wp L d k_M_saw 52 [l0, l1, l2, vI a3, l4] [vI s1, vR c0] σ Q ↔ Wp L d k_M_saw 53 [l0, l1, l2, vI a3, l4] [vI a3, vI s1, vR c0] σ Q := wp_iload rfl rfl
theorem r_M_saw_53 : Wp L d k_M_saw 53 [l0, l1, l2, l3, l4] [vI s2, vI s1, vR c0] σ Q ↔ Wp L d k_M_saw 67 [l0, l1, l2, l3, l4] [vI s2, vI s1, vR c0] σ Q := wp_goto rfl
theorem r_M_saw_56 : Wp L d k_M_saw 56 [vR b0, l1, l2, l3, l4] [vI s1, vR c0] σ Q ↔ Wp L d k_M_saw 57 [vR b0, l1, l2, l3, l4] [vR b0, vI s1, vR c0] σ Q := wp_aload rfl rfl
theorem r_M_saw_57 (h : gK c2 = 12) : Wp L d k_M_saw 57 [l0, l1, l2, l3, l4] [vR c2, vI s1, vR c0] σ Q ↔ Wp L d k_M_saw 60 [l0, l1, l2, l3, l4] [vR (gq c2 0), vI s1, vR c0] σ Q := wp_getR (c := 3200) rfl rfl rfl rfl rfl h
theorem r_M_saw_60 : Wp L d k_M_saw 60 [l0, l1, l2, l3, vI a4] [vR c2, vI s1, vR c0] σ Q ↔ Wp L d k_M_saw 62 [l0, l1, l2, l3, vI a4] [vI a4, vR c2, vI s1, vR c0] σ Q := wp_iload rfl rfl
theorem r_M_saw_62 (h : gK c2 = 100) (hx : 0 ≤ s3 ∧ s3 < gN c2) : Wp L d k_M_saw 62 [l0, l1, l2, l3, l4] [vI s3, vR c2, vI s1, vR c0] σ Q ↔ Wp L d k_M_saw 63 [l0, l1, l2, l3, l4] [vI (σ c2 s3.toNat), vI s1, vR c0] σ Q := wp_iald rfl h hx
theorem r_M_saw_63 : Wp L d k_M_saw 63 [l0, l1, l2, vI a3, l4] [vI s2, vI s1, vR c0] σ Q ↔ Wp L d k_M_saw 64 [l0, l1, l2, vI a3, l4] [vI a3, vI s2, vI s1, vR c0] σ Q := wp_iload rfl rfl
theorem r_M_saw_67 (h : gK c0 = 100) (hx : 0 ≤ s1 ∧ s1 < gN c0) : Wp L d k_M_saw 67 [l0, l1, l2, l3, l4] [vI s2, vI s1, vR c0] σ Q ↔ Wp L d k_M_saw 68 [l0, l1, l2, l3, l4] [] (gupd σ c0 s1.toNat s2) Q := wp_iast rfl h hx
theorem r_M_saw_68 : Wp L d k_M_saw 68 [vR b0, l1, l2, l3, l4] [] σ Q ↔ Wp L d k_M_saw 69 [vR b0, l1, l2, l3, l4] [vR b0] σ Q := wp_aload rfl rfl
theorem r_M_saw_69 (h : gK c0 = 12) : Wp L d k_M_saw 69 [l0, l1, l2, l3, l4] [vR c0] σ Q ↔ Wp L d k_M_saw 72 [l0, l1, l2, l3, l4] [vR (gq c0 0)] σ Q := wp_getR (c := 3200) rfl rfl rfl rfl rfl h
theorem r_M_saw_72 : Wp L d k_M_saw 72 [l0, l1, l2, l3, vI a4] [vR c0] σ Q ↔ Wp L d k_M_saw 74 [l0, l1, l2, l3, vI a4] [vI a4, vR c0] σ Q := wp_iload rfl rfl
theorem r_M_saw_74 (h : gK c0 = 100) (hx : 0 ≤ s1 ∧ s1 < gN c0) : Wp L d k_M_saw 74 [l0, l1, l2, l3, l4] [vI s1, vR c0] σ Q ↔ Wp L d k_M_saw 75 [l0, l1, l2, l3, l4] [vI (σ c0 s1.toNat)] σ Q := wp_iald rfl h hx
theorem r_M_saw_75 : Wp L d k_M_saw 75 [l0, l1, l2, l3, l4] [vI s0] σ Q ↔ Q (some (vI s0)) σ := wp_iret rfl
theorem r_M_saw_1 : Wp L (d + 2) k_M_saw 1 [l0, l1, l2, l3, l4] [vI s0] σ Q ↔ Wp L (d + 2) k_M_saw 4 [l0, l1, l2, l3, l4] [vI (gb (0 ≤ s0 ∧ s0 ≤ 7))] σ Q := wp_callR (d := d + 1) (as := [vI s0]) (rest := []) rfl rfl rfl rfl rfl rfl rfl rfl (sp_M_isOffice)
theorem r_M_saw_8 : Wp L (d + 2) k_M_saw 8 [l0, l1, l2, l3, l4] [vI s0] σ Q ↔ Wp L (d + 2) k_M_saw 11 [l0, l1, l2, l3, l4] [vI (gb (0 ≤ s0 ∧ s0 ≤ 9))] σ Q := wp_callR (d := d + 1) (as := [vI s0]) (rest := []) rfl rfl rfl rfl rfl rfl rfl rfl (sp_M_isMatter)
theorem r_M_saw_15 : Wp L (d + 2) k_M_saw 15 [l0, l1, l2, l3, l4] [vI s0] σ Q ↔ Wp L (d + 2) k_M_saw 18 [l0, l1, l2, l3, l4] [vI (gb (0 ≤ s0 ∧ s0 ≤ 9999))] σ Q := wp_callR (d := d + 1) (as := [vI s0]) (rest := []) rfl rfl rfl rfl rfl rfl rfl rfl (sp_M_isDay)
theorem r_M_saw_64 : Wp L (d + 2) k_M_saw 64 [l0, l1, l2, l3, l4] [vI s3, vI s2, vI s1, vR c0] σ Q ↔ Wp L (d + 2) k_M_saw 67 [l0, l1, l2, l3, l4] [vI (min s2 s3), vI s1, vR c0] σ Q := wp_callR (d := d + 1) (as := [vI s2, vI s3]) (rest := [vI s1, vR c0]) rfl rfl rfl rfl rfl rfl rfl rfl (sp_M_least)
theorem sp_M_saw_b (h : ¬ ((0 ≤ a1 ∧ a1 ≤ 7) ∧ (0 ≤ a2 ∧ a2 ≤ 9) ∧ (0 ≤ a3 ∧ a3 ≤ 9999))) : Run L (d + 2) 290 [vR 293, vI a1, vI a2, vI a3] σ (some (vI (-1000000001))) σ := by
  refine Run_of (C' := k_M_saw) rfl ?_
  show Wp L (d + 2) k_M_saw 0 [vR 293, vI a1, vI a2, vI a3, vU] [] σ _
  simp only [r_M_saw_0, r_M_saw_1, r_M_saw_4, r_M_saw_7, r_M_saw_8, r_M_saw_11, r_M_saw_14, r_M_saw_15, r_M_saw_18, r_M_saw_21, r_M_saw_23, r_M_saw_24, gK_27, gK_28, gK_29, gq_27_0, gq_27_1, gK_293, gq_293_0, gK_294, gN_294, Int.reduceLE, Int.reduceLT, Int.reduceEq, Int.reduceToNat, gb_01, eq_self, true_or, or_true, and_true, true_and, and_self, if_true, if_false, not_true_eq_false, not_false_eq_true, ne_eq, gb_ne0, gb_eq0]
  repeat' split
  all_goals first | trivial | omega
theorem sp_M_saw_n (h1 : 0 ≤ a1 ∧ a1 ≤ 7) (h2 : 0 ≤ a2 ∧ a2 ≤ 9) (h3 : 0 ≤ a3 ∧ a3 ≤ 9999) (hc : σ 294 (720 + 10 * a1 + a2).toNat < 0) : Run L (d + 2) 290 [vR 293, vI a1, vI a2, vI a3] σ (some (vI a3)) (gupd σ 294 (720 + 10 * a1 + a2).toNat a3) := by
  have w0 : w32 (10 * a1) = 10 * a1 := w32_id (by unfold gr32; omega)
  have w1 : w32 (720 + 10 * a1) = 720 + 10 * a1 := w32_id (by unfold gr32; omega)
  have w2 : w32 (720 + 10 * a1 + a2) = 720 + 10 * a1 + a2 := w32_id (by unfold gr32; omega)
  have p0 : 0 ≤ 720 + 10 * a1 + a2 ∧ 720 + 10 * a1 + a2 < 3540 := by omega
  have hc2 : ¬ 0 ≤ σ 294 (720 + 10 * a1 + a2).toNat := by omega
  refine Run_of (C' := k_M_saw) rfl ?_
  show Wp L (d + 2) k_M_saw 0 [vR 293, vI a1, vI a2, vI a3, vU] [] σ _
  simp only [r_M_saw_0, r_M_saw_1, r_M_saw_4, r_M_saw_7, r_M_saw_8, r_M_saw_11, r_M_saw_14, r_M_saw_15, r_M_saw_18, r_M_saw_21, r_M_saw_23, r_M_saw_24, r_M_saw_27, r_M_saw_29, r_M_saw_30, r_M_saw_31, r_M_saw_32, r_M_saw_33, r_M_saw_34, r_M_saw_36, r_M_saw_37, r_M_saw_40, r_M_saw_42, r_M_saw_43, r_M_saw_46, r_M_saw_48, r_M_saw_49, r_M_saw_52, r_M_saw_53, r_M_saw_56, r_M_saw_57, r_M_saw_60, r_M_saw_62, r_M_saw_63, r_M_saw_64, r_M_saw_67, r_M_saw_68, r_M_saw_69, r_M_saw_72, r_M_saw_74, r_M_saw_75, gK_27, gK_28, gK_29, gq_27_0, gq_27_1, gK_293, gq_293_0, gK_294, gN_294, h1, h2, h3, hc, hc2, p0, w0, w1, w2, gupd_rd, and_self, Int.reduceLE, Int.reduceLT, Int.reduceEq, Int.reduceToNat, gb_01, eq_self, true_or, or_true, and_true, true_and, and_self, if_true, if_false, not_true_eq_false, not_false_eq_true, ne_eq, gb_ne0, gb_eq0]
theorem sp_M_saw_m (h1 : 0 ≤ a1 ∧ a1 ≤ 7) (h2 : 0 ≤ a2 ∧ a2 ≤ 9) (h3 : 0 ≤ a3 ∧ a3 ≤ 9999) (hc : ¬ σ 294 (720 + 10 * a1 + a2).toNat < 0) : Run L (d + 2) 290 [vR 293, vI a1, vI a2, vI a3] σ (some (vI (min (σ 294 (720 + 10 * a1 + a2).toNat) a3))) (gupd σ 294 (720 + 10 * a1 + a2).toNat (min (σ 294 (720 + 10 * a1 + a2).toNat) a3)) := by
  have w0 : w32 (10 * a1) = 10 * a1 := w32_id (by unfold gr32; omega)
  have w1 : w32 (720 + 10 * a1) = 720 + 10 * a1 := w32_id (by unfold gr32; omega)
  have w2 : w32 (720 + 10 * a1 + a2) = 720 + 10 * a1 + a2 := w32_id (by unfold gr32; omega)
  have p0 : 0 ≤ 720 + 10 * a1 + a2 ∧ 720 + 10 * a1 + a2 < 3540 := by omega
  have hc2 : 0 ≤ σ 294 (720 + 10 * a1 + a2).toNat := by omega
  refine Run_of (C' := k_M_saw) rfl ?_
  show Wp L (d + 2) k_M_saw 0 [vR 293, vI a1, vI a2, vI a3, vU] [] σ _
  simp only [r_M_saw_0, r_M_saw_1, r_M_saw_4, r_M_saw_7, r_M_saw_8, r_M_saw_11, r_M_saw_14, r_M_saw_15, r_M_saw_18, r_M_saw_21, r_M_saw_23, r_M_saw_24, r_M_saw_27, r_M_saw_29, r_M_saw_30, r_M_saw_31, r_M_saw_32, r_M_saw_33, r_M_saw_34, r_M_saw_36, r_M_saw_37, r_M_saw_40, r_M_saw_42, r_M_saw_43, r_M_saw_46, r_M_saw_48, r_M_saw_49, r_M_saw_52, r_M_saw_53, r_M_saw_56, r_M_saw_57, r_M_saw_60, r_M_saw_62, r_M_saw_63, r_M_saw_64, r_M_saw_67, r_M_saw_68, r_M_saw_69, r_M_saw_72, r_M_saw_74, r_M_saw_75, gK_27, gK_28, gK_29, gq_27_0, gq_27_1, gK_293, gq_293_0, gK_294, gN_294, h1, h2, h3, hc, hc2, p0, w0, w1, w2, gupd_rd, and_self, Int.reduceLE, Int.reduceLT, Int.reduceEq, Int.reduceToNat, gb_01, eq_self, true_or, or_true, and_true, true_and, and_self, if_true, if_false, not_true_eq_false, not_false_eq_true, ne_eq, gb_ne0, gb_eq0]
theorem op_saw (a1 a2 a3 : Int) : Op 65 290 [vI a1, vI a2, vI a3] := by
  intro L d σ hI
  by_cases h : (0 ≤ a1 ∧ a1 ≤ 7) ∧ (0 ≤ a2 ∧ a2 ≤ 9) ∧ (0 ≤ a3 ∧ a3 ≤ 9999)
  · obtain ⟨h1, h2, h3⟩ := h
    have e1 : (720 + 10 * a1 + a2).toNat = 720 + 10 * a1.toNat + a2.toNat := by omega
    have q : σ (115 + a1.toNat) a2.toNat = if σ 294 (720 + 10 * a1.toNat + a2.toNat) < 0 then 10000 else σ 294 (720 + 10 * a1.toNat + a2.toNat) := by
      have := (iW hI).2.2.2 a1.toNat (by omega) a2.toNat (by omega)
      rw [show 109 + 6 + a1.toNat = 115 + a1.toNat by omega] at this
      exact this
    by_cases hc : σ 294 (720 + 10 * a1.toNat + a2.toNat) < 0
    · rw [if_pos hc] at q
      have m : min a3 (σ (115 + a1.toNat) a2.toNat) = a3 := by omega
      refine ⟨_, _, _, sp_X_saw h1 h2 h3, Run_r (sp_M_saw_n h1 h2 h3 (by rw [e1, gupd_ne (by omega)]; exact hc)) m.symm, ?_⟩
      rw [e1, m]
      refine Inv_mk (P := fun k j => (115 ≤ k ∧ k ≤ 122) ∨ (k = 294 ∧ 720 ≤ j ∧ j ≤ 799)) hI (Agr_upd (Agr_upd (Agr_refl _ _) (by omega)) (by omega)) (Or.inl (fun k j hz hp => by unfold ZB at hz; omega)) (Or.inl (fun k j hz hp => by unfold ZT at hz; omega)) (Or.inl (fun k j hz hp => by unfold ZG at hz; omega)) (Or.inl (fun k j hz hp => by unfold ZS at hz; omega)) (Or.inr ?_) (Or.inl (fun k j hz hp => by unfold ZP at hz; omega)) (Or.inl (fun k j hz hp => by unfold ZR ZK at hz; omega)) (Or.inl (fun k j hz hp => by unfold ZM at hz; omega)) (Or.inl (fun k j hz hp => by unfold ZTape at hz; omega)) (Or.inl (fun k j hz hp => by unfold ZTest at hz; omega)) (Or.inl (fun k j hz hp => by unfold ZWait at hz; omega)) (Or.inl (fun k j hz hp => by unfold ZImg at hz; omega))
      exact saw_new (a := a1.toNat) (b := a2.toNat) (v := a3) (iW hI).1 (iW hI).2 (by omega) (by omega) h3 (fun j hj => by rw [gupd_ne (by omega), gupd_ne (by omega)]) gupd_eq (fun k j _ _ hj => by rw [gupd_ne (by omega), gupd_ne (by omega)]) (by rw [gupd_ne (by omega), gupd_eq])
    · rw [if_neg hc] at q
      have m : min a3 (σ (115 + a1.toNat) a2.toNat) = min (σ 294 (720 + 10 * a1.toNat + a2.toNat)) a3 := by omega
      have b := (iW hI).1.2.2 a1.toNat (by omega) a2.toNat (by omega)
      refine ⟨_, _, _, sp_X_saw h1 h2 h3, Run_r (sp_M_saw_m h1 h2 h3 (by rw [e1, gupd_ne (by omega)]; exact hc)) (by rw [e1, gupd_ne (by omega), m]), ?_⟩
      rw [e1, m, gupd_ne (k' := 294) (by omega)]
      refine Inv_mk (P := fun k j => (115 ≤ k ∧ k ≤ 122) ∨ (k = 294 ∧ 720 ≤ j ∧ j ≤ 799)) hI (Agr_upd (Agr_upd (Agr_refl _ _) (by omega)) (by omega)) (Or.inl (fun k j hz hp => by unfold ZB at hz; omega)) (Or.inl (fun k j hz hp => by unfold ZT at hz; omega)) (Or.inl (fun k j hz hp => by unfold ZG at hz; omega)) (Or.inl (fun k j hz hp => by unfold ZS at hz; omega)) (Or.inr ?_) (Or.inl (fun k j hz hp => by unfold ZP at hz; omega)) (Or.inl (fun k j hz hp => by unfold ZR ZK at hz; omega)) (Or.inl (fun k j hz hp => by unfold ZM at hz; omega)) (Or.inl (fun k j hz hp => by unfold ZTape at hz; omega)) (Or.inl (fun k j hz hp => by unfold ZTest at hz; omega)) (Or.inl (fun k j hz hp => by unfold ZWait at hz; omega)) (Or.inl (fun k j hz hp => by unfold ZImg at hz; omega))
      exact saw_new (a := a1.toNat) (b := a2.toNat) (v := min (σ 294 (720 + 10 * a1.toNat + a2.toNat)) a3) (iW hI).1 (iW hI).2 (by omega) (by omega) (by omega) (fun j hj => by rw [gupd_ne (by omega), gupd_ne (by omega)]) gupd_eq (fun k j _ _ hj => by rw [gupd_ne (by omega), gupd_ne (by omega)]) (by rw [gupd_ne (by omega), gupd_eq])
  · exact ⟨_, _, _, sp_X_saw_b h, sp_M_saw_b h, hI⟩
