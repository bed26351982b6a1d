/-! as, be, find. -/
variable {L d : Nat} {σ σ1 : Nat → Nat → Int} {Q : Option gV → (Nat → Nat → Int) → Prop} {a0 a1 a2 a3 a4 a5 a6 a7 a8 a9 a10 a11 s0 s1 s2 s3 s4 s5 s6 s7 s8 s9 : Int} {l0 l1 l2 l3 l4 l5 l6 l7 l8 l9 l10 l11 t0 t1 t2 t3 t4 t5 t6 t7 t8 t9 : gV} {b0 b1 b2 b3 b4 b5 b6 b7 b8 b9 b10 b11 c0 c1 c2 c3 c4 c5 c6 c7 c8 c9 : Nat} {r : Option gV}
theorem part_one {σ σ' : gMm} (hI : Inv σ) (q : Nat) (hq : q < 40) (hA : Agr σ σ' (fun k j => k = 38 + q ∨ (k = 294 ∧ (j < 120 ∨ 120 + 12 * q ≤ j ∧ j < 120 + 12 * q + 12 ∨ 600 ≤ j)) ∨ k < 38 ∨ 77 < k ∧ k ≠ 294)) (hn : WPart (gpt (σ' 294) q) (σ 294 0) ∧ CPart (σ' (38 + q)) (gpt (σ' 294) q)) : ∀ p : Nat, (p : Int) < σ 294 1 → WPart (gpt (σ' 294) p) (σ 294 0) ∧ CPart (σ' (38 + p)) (gpt (σ' 294) p) := fun p hp => by
  obtain ⟨⟨w1, w2, w3, w4, w5, w6, w7, w8⟩, c1, c2, c3, c4, c5, c6, c7, c8⟩ := iB hI
  by_cases e : p = q
  · rw [e]
    exact hn
  · exact ⟨WPart_congr (fun j hj => hA 294 (120 + 12 * p + j) (by omega)) (w4 p hp), CPart_congr (fun j hj => hA (38 + p) j (by omega)) (fun j hj => hA 294 (120 + 12 * p + j) (by omega)) (c4 p hp)⟩
theorem be_new4 {σ : gMm} {q : Nat} {v c : Int} (hw : WPart (gpt (σ 294) q) c) (hc : CPart (σ (38 + q)) (gpt (σ 294) q)) (hk : gpt (σ 294) q 0 ≠ 4 ∧ 0 ≤ v ∧ v ≤ 99) (hq : q < 40) : WPart (gpt (gupd (gupd σ (38 + q) 4 v) 294 (120 + 12 * q + 4) v 294) q) c ∧ CPart (gupd (gupd σ (38 + q) 4 v) 294 (120 + 12 * q + 4) v (38 + q)) (gpt (gupd (gupd σ (38 + q) 4 v) 294 (120 + 12 * q + 4) v 294) q) := by
  have g : ∀ j, gpt (gupd (gupd σ (38 + q) 4 v) 294 (120 + 12 * q + 4) v 294) q j = if j = 4 then v else gpt (σ 294) q j := fun j => by
    unfold gpt
    by_cases e : j = 4
    · rw [e, gupd_eq, if_pos rfl]
    · rw [if_neg e, gupd_ne (by omega), gupd_ne (by omega)]
  have m : ∀ j, gupd (gupd σ (38 + q) 4 v) 294 (120 + 12 * q + 4) v (38 + q) j = if j = 4 then v else σ (38 + q) j := fun j => by
    by_cases e : j = 4
    · rw [e, gupd_ne (by omega), gupd_eq, if_pos rfl]
    · rw [if_neg e, gupd_ne (by omega), gupd_ne (by omega)]
  unfold WPart CPart at *
  simp only [g, m, Nat.reduceEqDiff, if_true, if_false]
  refine ⟨?_, ?_⟩
  · obtain ⟨x0, x1, x2, x3, x4, x5, x6, x7, x8, x9, x10, x11, x12, x13, x14⟩ := hw
    omega
  · obtain ⟨y0, y1, y2, y3, y4, y5, y6, y7, y8, y9, y10, y11⟩ := hc
    simp only [y0, y1, y2, y3, y4, y5, y6, y7, y8, y9, y10, y11, and_self, true_and, and_true]
theorem be_new5 {σ : gMm} {q : Nat} {v c : Int} (hw : WPart (gpt (σ 294) q) c) (hc : CPart (σ (38 + q)) (gpt (σ 294) q)) (hk : gpt (σ 294) q 0 ≠ 4 ∧ 0 ≤ v ∧ v ≤ 99) (hq : q < 40) : WPart (gpt (gupd (gupd σ (38 + q) 5 v) 294 (120 + 12 * q + 5) v 294) q) c ∧ CPart (gupd (gupd σ (38 + q) 5 v) 294 (120 + 12 * q + 5) v (38 + q)) (gpt (gupd (gupd σ (38 + q) 5 v) 294 (120 + 12 * q + 5) v 294) q) := by
  have g : ∀ j, gpt (gupd (gupd σ (38 + q) 5 v) 294 (120 + 12 * q + 5) v 294) q j = if j = 5 then v else gpt (σ 294) q j := fun j => by
    unfold gpt
    by_cases e : j = 5
    · rw [e, gupd_eq, if_pos rfl]
    · rw [if_neg e, gupd_ne (by omega), gupd_ne (by omega)]
  have m : ∀ j, gupd (gupd σ (38 + q) 5 v) 294 (120 + 12 * q + 5) v (38 + q) j = if j = 5 then v else σ (38 + q) j := fun j => by
    by_cases e : j = 5
    · rw [e, gupd_ne (by omega), gupd_eq, if_pos rfl]
    · rw [if_neg e, gupd_ne (by omega), gupd_ne (by omega)]
  unfold WPart CPart at *
  simp only [g, m, Nat.reduceEqDiff, if_true, if_false]
  refine ⟨?_, ?_⟩
  · obtain ⟨x0, x1, x2, x3, x4, x5, x6, x7, x8, x9, x10, x11, x12, x13, x14⟩ := hw
    omega
  · obtain ⟨y0, y1, y2, y3, y4, y5, y6, y7, y8, y9, y10, y11⟩ := hc
    simp only [y0, y1, y2, y3, y4, y5, y6, y7, y8, y9, y10, y11, and_self, true_and, and_true]
theorem find_new {σ : gMm} {q : Nat} {v c : Int} (hw : WPart (gpt (σ 294) q) c) (hc : CPart (σ (38 + q)) (gpt (σ 294) q)) (hk : gpt (σ 294) q 0 = 4 ∧ (v = 0 ∨ v = 1)) (hq : q < 40) : WPart (gpt (gupd (gupd σ (38 + q) 11 v) 294 (120 + 12 * q + 11) v 294) q) c ∧ CPart (gupd (gupd σ (38 + q) 11 v) 294 (120 + 12 * q + 11) v (38 + q)) (gpt (gupd (gupd σ (38 + q) 11 v) 294 (120 + 12 * q + 11) v 294) q) := by
  have g : ∀ j, gpt (gupd (gupd σ (38 + q) 11 v) 294 (120 + 12 * q + 11) v 294) q j = if j = 11 then v else gpt (σ 294) q j := fun j => by
    unfold gpt
    by_cases e : j = 11
    · rw [e, gupd_eq, if_pos rfl]
    · rw [if_neg e, gupd_ne (by omega), gupd_ne (by omega)]
  have m : ∀ j, gupd (gupd σ (38 + q) 11 v) 294 (120 + 12 * q + 11) v (38 + q) j = if j = 11 then v else σ (38 + q) j := fun j => by
    by_cases e : j = 11
    · rw [e, gupd_ne (by omega), gupd_eq, if_pos rfl]
    · rw [if_neg e, gupd_ne (by omega), gupd_ne (by omega)]
  unfold WPart CPart at *
  simp only [g, m, Nat.reduceEqDiff, if_true, if_false]
  refine ⟨?_, ?_⟩
  · obtain ⟨x0, x1, x2, x3, x4, x5, x6, x7, x8, x9, x10, x11, x12, x13, x14⟩ := hw
    omega
  · obtain ⟨y0, y1, y2, y3, y4, y5, y6, y7, y8, y9, y10, y11⟩ := hc
    simp only [y0, y1, y2, y3, y4, y5, y6, y7, y8, y9, y10, y11, and_self, true_and, and_true]
theorem r_M_kindOf_0 : Wp L d k_M_kindOf 0 [vR b0, l1] [] σ Q ↔ Wp L d k_M_kindOf 1 [vR b0, l1] [vR b0] σ Q := wp_aload rfl rfl
theorem r_M_kindOf_1 (h : gK c0 = 12) : Wp L d k_M_kindOf 1 [l0, l1] [vR c0] σ Q ↔ Wp L d k_M_kindOf 4 [l0, l1] [vR (gq c0 0)] σ Q := wp_getR (c := 3200) rfl rfl rfl rfl rfl h
theorem r_M_kindOf_4 : Wp L d k_M_kindOf 4 [vR b0, l1] [vR c0] σ Q ↔ Wp L d k_M_kindOf 5 [vR b0, l1] [vR b0, vR c0] σ Q := wp_aload rfl rfl
theorem r_M_kindOf_5 : Wp L d k_M_kindOf 5 [l0, vI a1] [vR c1, vR c0] σ Q ↔ Wp L d k_M_kindOf 6 [l0, vI a1] [vI a1, vR c1, vR c0] σ Q := wp_iload rfl rfl
theorem r_M_kindOf_9 (h : gK c0 = 100) (hx : 0 ≤ s1 ∧ s1 < gN c0) : Wp L d k_M_kindOf 9 [l0, l1] [vI s1, vR c0] σ Q ↔ Wp L d k_M_kindOf 10 [l0, l1] [vI (σ c0 s1.toNat)] σ Q := wp_iald rfl h hx
theorem r_M_kindOf_10 : Wp L d k_M_kindOf 10 [l0, l1] [vI s0] σ Q ↔ Q (some (vI s0)) σ := wp_iret rfl
theorem r_M_kindOf_6 : Wp L (d + 1) k_M_kindOf 6 [l0, l1] [vI s2, vR 293, vR c0] σ Q ↔ Wp L (d + 1) k_M_kindOf 9 [l0, l1] [vI (w32 (120 + w32 (12 * s2))), vR c0] σ Q := wp_callR (d := d + 0) (as := [vR 293, vI s2]) (rest := [vR c0]) rfl rfl rfl rfl rfl rfl rfl (grecv_k (by rw [gK_293]) rfl) (sp_M_partAt)
theorem sp_M_kindOf (h : 0 ≤ a1 ∧ a1 ≤ 40) : Run L (d + 1) 211 [vR 293, vI a1] σ (some (vI (σ 294 (120 + 12 * a1).toNat))) σ := by
  have w0 : w32 (12 * a1) = 12 * a1 := w32_id (by unfold gr32; omega)
  have w1 : w32 (120 + 12 * a1) = 120 + 12 * a1 := w32_id (by unfold gr32; omega)
  have h4 : 0 ≤ 120 + 12 * a1 := by omega
  have h5 : 120 + 12 * a1 < 3540 := by omega
  refine Run_of (C' := k_M_kindOf) rfl ?_
  show Wp L (d + 1) k_M_kindOf 0 [vR 293, vI a1] [] σ _
  simp only [r_M_kindOf_0, r_M_kindOf_1, r_M_kindOf_4, r_M_kindOf_5, r_M_kindOf_6, r_M_kindOf_9, r_M_kindOf_10, gK_27, gK_28, gK_29, gq_27_0, gq_27_1, gK_293, gq_293_0, gK_294, gN_294, h4, h5, w0, w1, Int.reduceLE, Int.reduceLT, Int.reduceEq, Int.reduceToNat, gb_01, eq_self, true_or, or_true, and_true, true_and, and_self, if_true, if_false, not_true_eq_false, not_false_eq_true, ne_eq, gb_ne0, gb_eq0]
theorem r_X_as_0 : Wp L d k_X_as 0 [vR b0, l1, l2, l3] [] σ Q ↔ Wp L d k_X_as 1 [vR b0, l1, l2, l3] [vR b0] σ Q := wp_aload rfl rfl
theorem r_X_as_1 : Wp L d k_X_as 1 [l0, vI a1, l2, l3] [vR c0] σ Q ↔ Wp L d k_X_as 2 [l0, vI a1, l2, l3] [vI a1, vR c0] σ Q := wp_iload rfl rfl
theorem r_X_as_5 : Wp L d k_X_as 5 [l0, l1, l2, l3] [vI s0] σ Q ↔ (if s0 = 0 then Wp L d k_X_as 17 [l0, l1, l2, l3] [] σ Q else Wp L d k_X_as 8 [l0, l1, l2, l3] [] σ Q) := wp_if_eq rfl
theorem r_X_as_8 : Wp L d k_X_as 8 [l0, l1, vI a2, l3] [] σ Q ↔ Wp L d k_X_as 9 [l0, l1, vI a2, l3] [vI a2] σ Q := wp_iload rfl rfl
theorem r_X_as_9 : Wp L d k_X_as 9 [l0, l1, l2, l3] [vI s0] σ Q ↔ Wp L d k_X_as 10 [l0, l1, l2, l3] [vI 0, vI s0] σ Q := wp_push rfl
theorem r_X_as_10 : Wp L d k_X_as 10 [l0, l1, l2, l3] [vI s1, vI s0] σ Q ↔ Wp L d k_X_as 11 [l0, l1, l2, l3] [vI 4, vI s1, vI s0] σ Q := wp_push rfl
theorem r_X_as_14 : Wp L d k_X_as 14 [l0, l1, l2, l3] [vI s0] σ Q ↔ (if s0 ≠ 0 then Wp L d k_X_as 20 [l0, l1, l2, l3] [] σ Q else Wp L d k_X_as 17 [l0, l1, l2, l3] [] σ Q) := wp_if_ne rfl
theorem r_X_as_17 : Wp L d k_X_as 17 [l0, l1, l2, l3] [] σ Q ↔ Wp L d k_X_as 19 [l0, l1, l2, l3] [vI (-1000000001)] σ Q := wp_push rfl
theorem r_X_as_19 : Wp L d k_X_as 19 [l0, l1, l2, l3] [vI s0] σ Q ↔ Q (some (vI s0)) σ := wp_iret rfl
theorem r_X_as_20 : Wp L d k_X_as 20 [vR b0, l1, l2, l3] [] σ Q ↔ Wp L d k_X_as 21 [vR b0, l1, l2, l3] [vR b0] σ Q := wp_aload rfl rfl
theorem r_X_as_21 (h : gK c0 = 0) : Wp L d k_X_as 21 [l0, l1, l2, l3] [vR c0] σ Q ↔ Wp L d k_X_as 24 [l0, l1, l2, l3] [vR (gq c0 1)] σ Q := wp_getR (c := 129) rfl rfl rfl rfl rfl h
theorem r_X_as_24 (h : gK c0 = 1) : Wp L d k_X_as 24 [l0, l1, l2, l3] [vR c0] σ Q ↔ Wp L d k_X_as 27 [l0, l1, l2, l3] [vR (gq c0 3)] σ Q := wp_getR (c := 387) rfl rfl rfl rfl rfl h
theorem r_X_as_27 : Wp L d k_X_as 27 [l0, vI a1, l2, l3] [vR c0] σ Q ↔ Wp L d k_X_as 28 [l0, vI a1, l2, l3] [vI a1, vR c0] σ Q := wp_iload rfl rfl
theorem r_X_as_28 (h : gK c0 = 102 ∨ gK c0 = 103) (hx : 0 ≤ s1 ∧ s1 < gN c0) : Wp L d k_X_as 28 [l0, l1, l2, l3] [vI s1, vR c0] σ Q ↔ Wp L d k_X_as 29 [l0, l1, l2, l3] [vR (gq c0 s1.toNat)] σ Q := wp_aald rfl h hx
theorem r_X_as_29 : Wp L d k_X_as 29 [l0, l1, vI a2, l3] [vR c0] σ Q ↔ Wp L d k_X_as 30 [l0, l1, vI a2, vR c0] [] σ Q := wp_astore (i := 3) (ls := [l0, l1, vI a2, l3]) rfl rfl
theorem r_X_as_30 : Wp L d k_X_as 30 [l0, l1, l2, vR b3] [] σ Q ↔ Wp L d k_X_as 31 [l0, l1, l2, vR b3] [vR b3] σ Q := wp_aload rfl rfl
theorem r_X_as_31 : Wp L d k_X_as 31 [l0, l1, vI a2, l3] [vR c0] σ Q ↔ Wp L d k_X_as 32 [l0, l1, vI a2, l3] [vI a2, vR c0] σ Q := wp_iload rfl rfl
theorem r_X_as_35 : Wp L d k_X_as 35 [l0, l1, l2, l3] [vI s0] σ Q ↔ (if s0 = 0 then Wp L d k_X_as 45 [l0, l1, l2, l3] [] σ Q else Wp L d k_X_as 38 [l0, l1, l2, l3] [] σ Q) := wp_if_eq rfl
theorem r_X_as_38 : Wp L d k_X_as 38 [l0, l1, l2, vR b3] [] σ Q ↔ Wp L d k_X_as 39 [l0, l1, l2, vR b3] [vR b3] σ Q := wp_aload rfl rfl
theorem r_X_as_39 (h : gK c0 = 4) : Wp L d k_X_as 39 [l0, l1, l2, l3] [vR c0] σ Q ↔ Wp L d k_X_as 42 [l0, l1, l2, l3] [vI (σ c0 2)] σ Q := wp_getI (c := 1026) rfl rfl rfl rfl h
theorem r_X_as_42 : Wp L d k_X_as 42 [l0, l1, l2, l3] [vI s0] σ Q ↔ Wp L d k_X_as 47 [l0, l1, l2, l3] [vI s0] σ Q := wp_goto rfl
theorem r_X_as_45 : Wp L d k_X_as 45 [l0, l1, l2, l3] [] σ Q ↔ Wp L d k_X_as 47 [l0, l1, l2, l3] [vI (-1000000012)] σ Q := wp_push rfl
theorem r_X_as_47 : Wp L d k_X_as 47 [l0, l1, l2, l3] [vI s0] σ Q ↔ Q (some (vI s0)) σ := wp_iret rfl
theorem r_X_as_2 : Wp L (d + 2) k_X_as 2 [l0, l1, l2, l3] [vI s1, vR 27] σ Q ↔ Wp L (d + 2) k_X_as 5 [l0, l1, l2, l3] [vI (gb (0 ≤ s1 ∧ s1 ≤ w32 (σ 29 9 - 1)))] σ Q := wp_callR (d := d + 1) (as := [vR 27, vI s1]) (rest := []) rfl rfl rfl rfl rfl rfl rfl (grecv_k (by rw [gK_27]) rfl) (sp_X_isPart)
theorem r_X_as_11 : Wp L (d + 2) k_X_as 11 [l0, l1, l2, l3] [vI s2, vI s1, vI s0] σ Q ↔ Wp L (d + 2) k_X_as 14 [l0, l1, l2, l3] [vI (gb (s1 ≤ s0 ∧ s0 ≤ s2))] σ Q := wp_callR (d := d + 1) (as := [vI s0, vI s1, vI s2]) (rest := []) rfl rfl rfl rfl rfl rfl rfl rfl (sp_X_within)
theorem r_X_as_32 (hk : gK c0 = 4) : Wp L (d + 2) k_X_as 32 [l0, l1, l2, l3] [vI s1, vR c0] σ Q ↔ Wp L (d + 2) k_X_as 35 [l0, l1, l2, l3] [vI (gb (s1 = 0 ∨ s1 = σ c0 0 ∨ s1 = 2 ∧ σ c0 0 = 3))] σ Q := wp_callR (d := d + 1) (as := [vR c0, vI s1]) (rest := []) rfl rfl rfl rfl rfl rfl rfl (grecv_k (by rw [hk]) rfl) (sp_Q_isOf hk)
theorem sp_X_as_b (hp : w32 (σ 29 9 - 1) = σ 29 9 - 1) (h : ¬ ((0 ≤ a1 ∧ a1 ≤ σ 29 9 - 1) ∧ 0 ≤ a2 ∧ a2 ≤ 4)) : Run L (d + 2) 26 [vR 27, vI a1, vI a2] σ (some (vI (-1000000001))) σ := by
  refine Run_of (C' := k_X_as) rfl ?_
  show Wp L (d + 2) k_X_as 0 [vR 27, vI a1, vI a2, vU] [] σ _
  simp only [r_X_as_0, r_X_as_1, r_X_as_2, r_X_as_5, r_X_as_8, r_X_as_9, r_X_as_10, r_X_as_11, r_X_as_14, r_X_as_17, r_X_as_19, r_X_as_20, r_X_as_21, r_X_as_24, r_X_as_27, r_X_as_28, r_X_as_29, r_X_as_30, r_X_as_31, r_X_as_32, r_X_as_35, r_X_as_38, r_X_as_39, r_X_as_42, r_X_as_45, r_X_as_47, gK_27, gK_28, gK_29, gq_27_0, gq_27_1, gK_293, gq_293_0, gK_294, gN_294, hp, Int.reduceLE, Int.reduceLT, Int.reduceEq, Int.reduceToNat, gb_01, eq_self, true_or, or_true, and_true, true_and, and_self, if_true, if_false, not_true_eq_false, not_false_eq_true, ne_eq, gb_ne0, gb_eq0]
  repeat' split
  all_goals first | trivial | omega
theorem sp_X_as_y (hp : w32 (σ 29 9 - 1) = σ 29 9 - 1) (hq : σ 29 9 ≤ 40) (h : 0 ≤ a1 ∧ a1 ≤ σ 29 9 - 1) (h2 : 0 ≤ a2 ∧ a2 ≤ 4) (hc : a2 = 0 ∨ a2 = σ (38 + a1.toNat) 0 ∨ a2 = 2 ∧ σ (38 + a1.toNat) 0 = 3) : Run L (d + 2) 26 [vR 27, vI a1, vI a2] σ (some (vI (σ (38 + a1.toNat) 2))) σ := by
  obtain ⟨q1, q2⟩ := gq33 (show a1.toNat < 40 by omega)
  have h3 : a1 < 40 := by omega
  refine Run_of (C' := k_X_as) rfl ?_
  show Wp L (d + 2) k_X_as 0 [vR 27, vI a1, vI a2, vU] [] σ _
  simp only [r_X_as_0, r_X_as_1, r_X_as_2, r_X_as_5, r_X_as_8, r_X_as_9, r_X_as_10, r_X_as_11, r_X_as_14, r_X_as_17, r_X_as_19, r_X_as_20, r_X_as_21, r_X_as_24, r_X_as_27, r_X_as_28, r_X_as_29, r_X_as_30, r_X_as_31, r_X_as_32, r_X_as_35, r_X_as_38, r_X_as_39, r_X_as_42, r_X_as_45, r_X_as_47, gK_27, gK_28, gK_29, gq_27_0, gq_27_1, gK_293, gq_293_0, gK_294, gN_294, gq_29_3, gK_33, gN_33, hp, h, h2, h3, q1, q2, hc, Int.reduceLE, Int.reduceLT, Int.reduceEq, Int.reduceToNat, gb_01, eq_self, true_or, or_true, and_true, true_and, and_self, if_true, if_false, not_true_eq_false, not_false_eq_true, ne_eq, gb_ne0, gb_eq0]
theorem sp_X_as_n (hp : w32 (σ 29 9 - 1) = σ 29 9 - 1) (hq : σ 29 9 ≤ 40) (h : 0 ≤ a1 ∧ a1 ≤ σ 29 9 - 1) (h2 : 0 ≤ a2 ∧ a2 ≤ 4) (hc : ¬ (a2 = 0 ∨ a2 = σ (38 + a1.toNat) 0 ∨ a2 = 2 ∧ σ (38 + a1.toNat) 0 = 3)) : Run L (d + 2) 26 [vR 27, vI a1, vI a2] σ (some (vI (-1000000012))) σ := by
  obtain ⟨q1, q2⟩ := gq33 (show a1.toNat < 40 by omega)
  have h3 : a1 < 40 := by omega
  refine Run_of (C' := k_X_as) rfl ?_
  show Wp L (d + 2) k_X_as 0 [vR 27, vI a1, vI a2, vU] [] σ _
  simp only [r_X_as_0, r_X_as_1, r_X_as_2, r_X_as_5, r_X_as_8, r_X_as_9, r_X_as_10, r_X_as_11, r_X_as_14, r_X_as_17, r_X_as_19, r_X_as_20, r_X_as_21, r_X_as_24, r_X_as_27, r_X_as_28, r_X_as_29, r_X_as_30, r_X_as_31, r_X_as_32, r_X_as_35, r_X_as_38, r_X_as_39, r_X_as_42, r_X_as_45, r_X_as_47, gK_27, gK_28, gK_29, gq_27_0, gq_27_1, gK_293, gq_293_0, gK_294, gN_294, gq_29_3, gK_33, gN_33, hp, h, h2, h3, q1, q2, hc, Int.reduceLE, Int.reduceLT, Int.reduceEq, Int.reduceToNat, gb_01, eq_self, true_or, or_true, and_true, true_and, and_self, if_true, if_false, not_true_eq_false, not_false_eq_true, ne_eq, gb_ne0, gb_eq0]
theorem r_M_as_0 : Wp L d k_M_as 0 [vR b0, l1, l2, l3] [] σ Q ↔ Wp L d k_M_as 1 [vR b0, l1, l2, l3] [vR b0] σ Q := wp_aload rfl rfl
theorem r_M_as_1 : Wp L d k_M_as 1 [l0, vI a1, l2, l3] [vR c0] σ Q ↔ Wp L d k_M_as 2 [l0, vI a1, l2, l3] [vI a1, vR c0] σ Q := wp_iload rfl rfl
theorem r_M_as_5 : Wp L d k_M_as 5 [l0, l1, l2, l3] [vI s0] σ Q ↔ (if s0 = 0 then Wp L d k_M_as 20 [l0, l1, l2, l3] [] σ Q else Wp L d k_M_as 8 [l0, l1, l2, l3] [] σ Q) := wp_if_eq rfl
theorem r_M_as_8 : Wp L d k_M_as 8 [l0, l1, vI a2, l3] [] σ Q ↔ Wp L d k_M_as 9 [l0, l1, vI a2, l3] [vI a2] σ Q := wp_iload rfl rfl
theorem r_M_as_9 : Wp L d k_M_as 9 [l0, l1, l2, l3] [vI s0] σ Q ↔ Wp L d k_M_as 10 [l0, l1, l2, l3] [vL s0] σ Q := wp_i2l rfl
theorem r_M_as_10 : Wp L d k_M_as 10 [l0, l1, l2, l3] [vL s0] σ Q ↔ Wp L d k_M_as 11 [l0, l1, l2, l3] [vL 0, vL s0] σ Q := wp_pushL rfl
theorem r_M_as_11 : Wp L d k_M_as 11 [l0, l1, l2, l3] [vL s1, vL s0] σ Q ↔ Wp L d k_M_as 14 [l0, l1, l2, l3] [vL 4, vL s1, vL s0] σ Q := wp_pushL rfl
theorem r_M_as_17 : Wp L d k_M_as 17 [l0, l1, l2, l3] [vI s0] σ Q ↔ (if s0 ≠ 0 then Wp L d k_M_as 23 [l0, l1, l2, l3] [] σ Q else Wp L d k_M_as 20 [l0, l1, l2, l3] [] σ Q) := wp_if_ne rfl
theorem r_M_as_20 : Wp L d k_M_as 20 [l0, l1, l2, l3] [] σ Q ↔ Wp L d k_M_as 22 [l0, l1, l2, l3] [vI (-1000000001)] σ Q := wp_push rfl
theorem r_M_as_22 : Wp L d k_M_as 22 [l0, l1, l2, l3] [vI s0] σ Q ↔ Q (some (vI s0)) σ := wp_iret rfl
theorem r_M_as_23 : Wp L d k_M_as 23 [vR b0, l1, l2, l3] [] σ Q ↔ Wp L d k_M_as 24 [vR b0, l1, l2, l3] [vR b0] σ Q := wp_aload rfl rfl
theorem r_M_as_24 : Wp L d k_M_as 24 [l0, vI a1, l2, l3] [vR c0] σ Q ↔ Wp L d k_M_as 25 [l0, vI a1, l2, l3] [vI a1, vR c0] σ Q := wp_iload rfl rfl
theorem r_M_as_28 : Wp L d k_M_as 28 [l0, l1, vI a2, l3] [vI s0] σ Q ↔ Wp L d k_M_as 29 [l0, l1, vI a2, vI s0] [] σ Q := wp_istore (i := 3) (ls := [l0, l1, vI a2, l3]) rfl rfl
theorem r_M_as_29 : Wp L d k_M_as 29 [l0, l1, vI a2, l3] [] σ Q ↔ Wp L d k_M_as 30 [l0, l1, vI a2, l3] [vI a2] σ Q := wp_iload rfl rfl
theorem r_M_as_30 : Wp L d k_M_as 30 [l0, l1, l2, l3] [vI s0] σ Q ↔ (if s0 = 0 then Wp L d k_M_as 48 [l0, l1, l2, l3] [] σ Q else Wp L d k_M_as 33 [l0, l1, l2, l3] [] σ Q) := wp_if_eq rfl
theorem r_M_as_33 : Wp L d k_M_as 33 [l0, l1, vI a2, l3] [] σ Q ↔ Wp L d k_M_as 34 [l0, l1, vI a2, l3] [vI a2] σ Q := wp_iload rfl rfl
theorem r_M_as_34 : Wp L d k_M_as 34 [l0, l1, l2, vI a3] [vI s0] σ Q ↔ Wp L d k_M_as 35 [l0, l1, l2, vI a3] [vI a3, vI s0] σ Q := wp_iload rfl rfl
theorem r_M_as_35 : Wp L d k_M_as 35 [l0, l1, l2, l3] [vI s1, vI s0] σ Q ↔ (if s0 = s1 then Wp L d k_M_as 48 [l0, l1, l2, l3] [] σ Q else Wp L d k_M_as 38 [l0, l1, l2, l3] [] σ Q) := wp_cmp_eq rfl
theorem r_M_as_38 : Wp L d k_M_as 38 [l0, l1, vI a2, l3] [] σ Q ↔ Wp L d k_M_as 39 [l0, l1, vI a2, l3] [vI a2] σ Q := wp_iload rfl rfl
theorem r_M_as_39 : Wp L d k_M_as 39 [l0, l1, l2, l3] [vI s0] σ Q ↔ Wp L d k_M_as 40 [l0, l1, l2, l3] [vI 2, vI s0] σ Q := wp_push rfl
theorem r_M_as_40 : Wp L d k_M_as 40 [l0, l1, l2, l3] [vI s1, vI s0] σ Q ↔ (if s0 ≠ s1 then Wp L d k_M_as 63 [l0, l1, l2, l3] [] σ Q else Wp L d k_M_as 43 [l0, l1, l2, l3] [] σ Q) := wp_cmp_ne rfl
theorem r_M_as_43 : Wp L d k_M_as 43 [l0, l1, l2, vI a3] [] σ Q ↔ Wp L d k_M_as 44 [l0, l1, l2, vI a3] [vI a3] σ Q := wp_iload rfl rfl
theorem r_M_as_44 : Wp L d k_M_as 44 [l0, l1, l2, l3] [vI s0] σ Q ↔ Wp L d k_M_as 45 [l0, l1, l2, l3] [vI 3, vI s0] σ Q := wp_push rfl
theorem r_M_as_45 : Wp L d k_M_as 45 [l0, l1, l2, l3] [vI s1, vI s0] σ Q ↔ (if s0 ≠ s1 then Wp L d k_M_as 63 [l0, l1, l2, l3] [] σ Q else Wp L d k_M_as 48 [l0, l1, l2, l3] [] σ Q) := wp_cmp_ne rfl
theorem r_M_as_48 : Wp L d k_M_as 48 [vR b0, l1, l2, l3] [] σ Q ↔ Wp L d k_M_as 49 [vR b0, l1, l2, l3] [vR b0] σ Q := wp_aload rfl rfl
theorem r_M_as_49 (h : gK c0 = 12) : Wp L d k_M_as 49 [l0, l1, l2, l3] [vR c0] σ Q ↔ Wp L d k_M_as 52 [l0, l1, l2, l3] [vR (gq c0 0)] σ Q := wp_getR (c := 3200) rfl rfl rfl rfl rfl h
theorem r_M_as_52 : Wp L d k_M_as 52 [vR b0, l1, l2, l3] [vR c0] σ Q ↔ Wp L d k_M_as 53 [vR b0, l1, l2, l3] [vR b0, vR c0] σ Q := wp_aload rfl rfl
theorem r_M_as_53 : Wp L d k_M_as 53 [l0, vI a1, l2, l3] [vR c1, vR c0] σ Q ↔ Wp L d k_M_as 54 [l0, vI a1, l2, l3] [vI a1, vR c1, vR c0] σ Q := wp_iload rfl rfl
theorem r_M_as_57 : Wp L d k_M_as 57 [l0, l1, l2, l3] [vI s1, vR c0] σ Q ↔ Wp L d k_M_as 58 [l0, l1, l2, l3] [vI 2, vI s1, vR c0] σ Q := wp_push rfl
theorem r_M_as_58 : Wp L d k_M_as 58 [l0, l1, l2, l3] [vI s2, vI s1, vR c0] σ Q ↔ Wp L d k_M_as 59 [l0, l1, l2, l3] [vI (w32 (s1 + s2)), vR c0] σ Q := wp_iadd rfl
theorem r_M_as_59 (h : gK c0 = 100) (hx : 0 ≤ s1 ∧ s1 < gN c0) : Wp L d k_M_as 59 [l0, l1, l2, l3] [vI s1, vR c0] σ Q ↔ Wp L d k_M_as 60 [l0, l1, l2, l3] [vI (σ c0 s1.toNat)] σ Q := wp_iald rfl h hx
theorem r_M_as_60 : Wp L d k_M_as 60 [l0, l1, l2, l3] [vI s0] σ Q ↔ Wp L d k_M_as 65 [l0, l1, l2, l3] [vI s0] σ Q := wp_goto rfl
theorem r_M_as_63 : Wp L d k_M_as 63 [l0, l1, l2, l3] [] σ Q ↔ Wp L d k_M_as 65 [l0, l1, l2, l3] [vI (-1000000012)] σ Q := wp_push rfl
theorem r_M_as_65 : Wp L d k_M_as 65 [l0, l1, l2, l3] [vI s0] σ Q ↔ Q (some (vI s0)) σ := wp_iret rfl
theorem r_M_as_2 : Wp L (d + 2) k_M_as 2 [l0, l1, l2, l3] [vI s1, vR 293] σ Q ↔ Wp L (d + 2) k_M_as 5 [l0, l1, l2, l3] [vI (gb (0 ≤ s1 ∧ s1 ≤ w32 (σ 294 1 - 1)))] σ Q := wp_callR (d := d + 1) (as := [vR 293, vI s1]) (rest := []) rfl rfl rfl rfl rfl rfl rfl (grecv_k (by rw [gK_293]) rfl) (sp_M_isPart)
theorem r_M_as_14 : Wp L (d + 2) k_M_as 14 [l0, l1, l2, l3] [vL s2, vL s1, vL s0] σ Q ↔ Wp L (d + 2) k_M_as 17 [l0, l1, l2, l3] [vI (gb (s1 ≤ s0 ∧ s0 ≤ s2))] σ Q := wp_callR (d := d + 1) (as := [vL s0, vL s1, vL s2]) (rest := []) rfl rfl rfl rfl rfl rfl rfl rfl (sp_M_isIn)
theorem r_M_as_25 (h : 0 ≤ s1 ∧ s1 ≤ 40) : Wp L (d + 2) k_M_as 25 [l0, l1, l2, l3] [vI s1, vR 293] σ Q ↔ Wp L (d + 2) k_M_as 28 [l0, l1, l2, l3] [vI (σ 294 (120 + 12 * s1).toNat)] σ Q := wp_callR (d := d + 1) (as := [vR 293, vI s1]) (rest := []) rfl rfl rfl rfl rfl rfl rfl (grecv_k (by rw [gK_293]) rfl) (sp_M_kindOf h)
theorem r_M_as_54 : Wp L (d + 2) k_M_as 54 [l0, l1, l2, l3] [vI s2, vR 293, vR c0] σ Q ↔ Wp L (d + 2) k_M_as 57 [l0, l1, l2, l3] [vI (w32 (120 + w32 (12 * s2))), vR c0] σ Q := wp_callR (d := d + 1) (as := [vR 293, vI s2]) (rest := [vR c0]) rfl rfl rfl rfl rfl rfl rfl (grecv_k (by rw [gK_293]) rfl) (sp_M_partAt)
theorem sp_M_as_b (hp : w32 (σ 294 1 - 1) = σ 294 1 - 1) (h : ¬ ((0 ≤ a1 ∧ a1 ≤ σ 294 1 - 1) ∧ 0 ≤ a2 ∧ a2 ≤ 4)) : Run L (d + 2) 210 [vR 293, vI a1, vI a2] σ (some (vI (-1000000001))) σ := by
  refine Run_of (C' := k_M_as) rfl ?_
  show Wp L (d + 2) k_M_as 0 [vR 293, vI a1, vI a2, vU] [] σ _
  simp only [r_M_as_0, r_M_as_1, r_M_as_2, r_M_as_5, r_M_as_8, r_M_as_9, r_M_as_10, r_M_as_11, r_M_as_14, r_M_as_17, r_M_as_20, r_M_as_22, r_M_as_23, r_M_as_24, r_M_as_25, r_M_as_28, r_M_as_29, r_M_as_30, r_M_as_33, r_M_as_34, r_M_as_35, r_M_as_38, r_M_as_39, r_M_as_40, r_M_as_43, r_M_as_44, r_M_as_45, r_M_as_48, r_M_as_49, r_M_as_52, r_M_as_53, r_M_as_54, r_M_as_57, r_M_as_58, r_M_as_59, r_M_as_60, r_M_as_63, r_M_as_65, gK_27, gK_28, gK_29, gq_27_0, gq_27_1, gK_293, gq_293_0, gK_294, gN_294, hp, Int.reduceLE, Int.reduceLT, Int.reduceEq, Int.reduceToNat, gb_01, eq_self, true_or, or_true, and_true, true_and, and_self, if_true, if_false, not_true_eq_false, not_false_eq_true, ne_eq, gb_ne0, gb_eq0]
  repeat' split
  all_goals first | trivial | omega
theorem sp_M_as_y (hp : w32 (σ 294 1 - 1) = σ 294 1 - 1) (hq : σ 294 1 ≤ 40) (h : 0 ≤ a1 ∧ a1 ≤ σ 294 1 - 1) (h2 : 0 ≤ a2 ∧ a2 ≤ 4) (hc : a2 = 0 ∨ a2 = σ 294 (120 + 12 * a1).toNat ∨ a2 = 2 ∧ σ 294 (120 + 12 * a1).toNat = 3) : Run L (d + 2) 210 [vR 293, vI a1, vI a2] σ (some (vI (σ 294 (120 + 12 * a1 + 2).toNat))) σ := by
  have w0 : w32 (12 * a1) = 12 * a1 := w32_id (by unfold gr32; omega)
  have w1 : w32 (120 + 12 * a1) = 120 + 12 * a1 := w32_id (by unfold gr32; omega)
  have w2 : w32 (120 + 12 * a1 + 2) = 120 + 12 * a1 + 2 := w32_id (by unfold gr32; omega)
  have h4 : 0 ≤ 120 + 12 * a1 + 2 := by omega
  have h5 : 120 + 12 * a1 + 2 < 3540 := by omega
  have h6 : a1 ≤ 40 := by omega
  refine Run_of (C' := k_M_as) rfl ?_
  show Wp L (d + 2) k_M_as 0 [vR 293, vI a1, vI a2, vU] [] σ _
  simp only [r_M_as_0, r_M_as_1, r_M_as_2, r_M_as_5, r_M_as_8, r_M_as_9, r_M_as_10, r_M_as_11, r_M_as_14, r_M_as_17, r_M_as_20, r_M_as_22, r_M_as_23, r_M_as_24, r_M_as_25, r_M_as_28, r_M_as_29, r_M_as_30, r_M_as_33, r_M_as_34, r_M_as_35, r_M_as_38, r_M_as_39, r_M_as_40, r_M_as_43, r_M_as_44, r_M_as_45, r_M_as_48, r_M_as_49, r_M_as_52, r_M_as_53, r_M_as_54, r_M_as_57, r_M_as_58, r_M_as_59, r_M_as_60, r_M_as_63, r_M_as_65, gK_27, gK_28, gK_29, gq_27_0, gq_27_1, gK_293, gq_293_0, gK_294, gN_294, hp, h, h.1, h2, h4, h5, h6, w0, w1, w2, Int.reduceLE, Int.reduceLT, Int.reduceEq, Int.reduceToNat, gb_01, eq_self, true_or, or_true, and_true, true_and, and_self, if_true, if_false, not_true_eq_false, not_false_eq_true, ne_eq, gb_ne0, gb_eq0]
  repeat' split
  all_goals first | trivial | omega
theorem sp_M_as_n (hp : w32 (σ 294 1 - 1) = σ 294 1 - 1) (hq : σ 294 1 ≤ 40) (h : 0 ≤ a1 ∧ a1 ≤ σ 294 1 - 1) (h2 : 0 ≤ a2 ∧ a2 ≤ 4) (hc : ¬ (a2 = 0 ∨ a2 = σ 294 (120 + 12 * a1).toNat ∨ a2 = 2 ∧ σ 294 (120 + 12 * a1).toNat = 3)) : Run L (d + 2) 210 [vR 293, vI a1, vI a2] σ (some (vI (-1000000012))) σ := by
  have w0 : w32 (12 * a1) = 12 * a1 := w32_id (by unfold gr32; omega)
  have w1 : w32 (120 + 12 * a1) = 120 + 12 * a1 := w32_id (by unfold gr32; omega)
  have w2 : w32 (120 + 12 * a1 + 2) = 120 + 12 * a1 + 2 := w32_id (by unfold gr32; omega)
  have h4 : 0 ≤ 120 + 12 * a1 + 2 := by omega
  have h5 : 120 + 12 * a1 + 2 < 3540 := by omega
  have h6 : a1 ≤ 40 := by omega
  refine Run_of (C' := k_M_as) rfl ?_
  show Wp L (d + 2) k_M_as 0 [vR 293, vI a1, vI a2, vU] [] σ _
  simp only [r_M_as_0, r_M_as_1, r_M_as_2, r_M_as_5, r_M_as_8, r_M_as_9, r_M_as_10, r_M_as_11, r_M_as_14, r_M_as_17, r_M_as_20, r_M_as_22, r_M_as_23, r_M_as_24, r_M_as_25, r_M_as_28, r_M_as_29, r_M_as_30, r_M_as_33, r_M_as_34, r_M_as_35, r_M_as_38, r_M_as_39, r_M_as_40, r_M_as_43, r_M_as_44, r_M_as_45, r_M_as_48, r_M_as_49, r_M_as_52, r_M_as_53, r_M_as_54, r_M_as_57, r_M_as_58, r_M_as_59, r_M_as_60, r_M_as_63, r_M_as_65, gK_27, gK_28, gK_29, gq_27_0, gq_27_1, gK_293, gq_293_0, gK_294, gN_294, hp, h, h.1, h2, h4, h5, h6, w0, w1, w2, Int.reduceLE, Int.reduceLT, Int.reduceEq, Int.reduceToNat, gb_01, eq_self, true_or, or_true, and_true, true_and, and_self, if_true, if_false, not_true_eq_false, not_false_eq_true, ne_eq, gb_ne0, gb_eq0]
  repeat' split
  all_goals first | trivial | omega
theorem op_as (a1 a2 : Int) : Op 26 210 [vI a1, vI a2] := by
  intro L d σ hI
  obtain ⟨⟨w1, w2, w3, w4, w5, w6, w7, w8⟩, c1, c2, c3, c4, c5, c6, c7, c8⟩ := iB hI
  have hp : w32 (σ 29 9 - 1) = σ 29 9 - 1 := w32_id (by unfold gr32; omega)
  have hm : w32 (σ 294 1 - 1) = σ 294 1 - 1 := w32_id (by unfold gr32; omega)
  
  by_cases h : (0 ≤ a1 ∧ a1 ≤ σ 29 9 - 1) ∧ 0 ≤ a2 ∧ a2 ≤ 4
  · obtain ⟨h, h2⟩ := h
    have q := c4 a1.toNat (by omega)
    have e0 : σ (38 + a1.toNat) 0 = σ 294 (120 + 12 * a1).toNat := by
      rw [show (120 + 12 * a1).toNat = 120 + 12 * a1.toNat + 0 by omega]
      exact q.1
    have e2 : σ 294 (120 + 12 * a1 + 2).toNat = σ (38 + a1.toNat) 2 := by
      rw [show (120 + 12 * a1 + 2).toNat = 120 + 12 * a1.toNat + 2 by omega]
      exact q.2.2.1.symm
    by_cases hc : a2 = 0 ∨ a2 = σ (38 + a1.toNat) 0 ∨ a2 = 2 ∧ σ (38 + a1.toNat) 0 = 3
    · exact ⟨_, _, _, sp_X_as_y hp (by omega) h h2 hc, Run_r (sp_M_as_y hm (by omega) (by omega) h2 (by rw [← e0]; exact hc)) e2, hI⟩
    · exact ⟨_, _, _, sp_X_as_n hp (by omega) h h2 hc, sp_M_as_n hm (by omega) (by omega) h2 (by rw [← e0]; exact hc), hI⟩
  · exact ⟨_, _, _, sp_X_as_b hp (by omega), sp_M_as_b hm (by omega), hI⟩
theorem r_X_be_0 : Wp L d k_X_be 0 [vR b0, l1, l2, l3, l4, l5] [] σ Q ↔ Wp L d k_X_be 1 [vR b0, l1, l2, l3, l4, l5] [vR b0] σ Q := wp_aload rfl rfl
theorem r_X_be_1 : Wp L d k_X_be 1 [l0, vI a1, l2, l3, l4, l5] [vR c0] σ Q ↔ Wp L d k_X_be 2 [l0, vI a1, l2, l3, l4, l5] [vI a1, vR c0] σ Q := wp_iload rfl rfl
theorem r_X_be_5 : Wp L d k_X_be 5 [l0, l1, l2, l3, l4, l5] [vI s0] σ Q ↔ (if s0 = 0 then Wp L d k_X_be 27 [l0, l1, l2, l3, l4, l5] [] σ Q else Wp L d k_X_be 8 [l0, l1, l2, l3, l4, l5] [] σ Q) := wp_if_eq rfl
theorem r_X_be_8 : Wp L d k_X_be 8 [l0, l1, vI a2, l3, l4, l5] [] σ Q ↔ Wp L d k_X_be 9 [l0, l1, vI a2, l3, l4, l5] [vI a2] σ Q := wp_iload rfl rfl
theorem r_X_be_9 : Wp L d k_X_be 9 [l0, l1, l2, l3, l4, l5] [vI s0] σ Q ↔ Wp L d k_X_be 10 [l0, l1, l2, l3, l4, l5] [vI 4, vI s0] σ Q := wp_push rfl
theorem r_X_be_10 : Wp L d k_X_be 10 [l0, l1, l2, l3, l4, l5] [vI s1, vI s0] σ Q ↔ Wp L d k_X_be 11 [l0, l1, l2, l3, l4, l5] [vI 5, vI s1, vI s0] σ Q := wp_push rfl
theorem r_X_be_14 : Wp L d k_X_be 14 [l0, l1, l2, l3, l4, l5] [vI s0] σ Q ↔ (if s0 = 0 then Wp L d k_X_be 27 [l0, l1, l2, l3, l4, l5] [] σ Q else Wp L d k_X_be 17 [l0, l1, l2, l3, l4, l5] [] σ Q) := wp_if_eq rfl
theorem r_X_be_17 : Wp L d k_X_be 17 [l0, l1, l2, vI a3, l4, l5] [] σ Q ↔ Wp L d k_X_be 18 [l0, l1, l2, vI a3, l4, l5] [vI a3] σ Q := wp_iload rfl rfl
theorem r_X_be_18 : Wp L d k_X_be 18 [l0, l1, l2, l3, l4, l5] [vI s0] σ Q ↔ Wp L d k_X_be 19 [l0, l1, l2, l3, l4, l5] [vI 0, vI s0] σ Q := wp_push rfl
theorem r_X_be_19 : Wp L d k_X_be 19 [l0, l1, l2, l3, l4, l5] [vI s1, vI s0] σ Q ↔ Wp L d k_X_be 21 [l0, l1, l2, l3, l4, l5] [vI 99, vI s1, vI s0] σ Q := wp_push rfl
theorem r_X_be_24 : Wp L d k_X_be 24 [l0, l1, l2, l3, l4, l5] [vI s0] σ Q ↔ (if s0 ≠ 0 then Wp L d k_X_be 30 [l0, l1, l2, l3, l4, l5] [] σ Q else Wp L d k_X_be 27 [l0, l1, l2, l3, l4, l5] [] σ Q) := wp_if_ne rfl
theorem r_X_be_27 : Wp L d k_X_be 27 [l0, l1, l2, l3, l4, l5] [] σ Q ↔ Wp L d k_X_be 29 [l0, l1, l2, l3, l4, l5] [vI (-1000000001)] σ Q := wp_push rfl
theorem r_X_be_29 : Wp L d k_X_be 29 [l0, l1, l2, l3, l4, l5] [vI s0] σ Q ↔ Q (some (vI s0)) σ := wp_iret rfl
theorem r_X_be_30 : Wp L d k_X_be 30 [vR b0, l1, l2, l3, l4, l5] [] σ Q ↔ Wp L d k_X_be 31 [vR b0, l1, l2, l3, l4, l5] [vR b0] σ Q := wp_aload rfl rfl
theorem r_X_be_31 (h : gK c0 = 0) : Wp L d k_X_be 31 [l0, l1, l2, l3, l4, l5] [vR c0] σ Q ↔ Wp L d k_X_be 34 [l0, l1, l2, l3, l4, l5] [vR (gq c0 1)] σ Q := wp_getR (c := 129) rfl rfl rfl rfl rfl h
theorem r_X_be_34 (h : gK c0 = 1) : Wp L d k_X_be 34 [l0, l1, l2, l3, l4, l5] [vR c0] σ Q ↔ Wp L d k_X_be 37 [l0, l1, l2, l3, l4, l5] [vR (gq c0 3)] σ Q := wp_getR (c := 387) rfl rfl rfl rfl rfl h
theorem r_X_be_37 : Wp L d k_X_be 37 [l0, vI a1, l2, l3, l4, l5] [vR c0] σ Q ↔ Wp L d k_X_be 38 [l0, vI a1, l2, l3, l4, l5] [vI a1, vR c0] σ Q := wp_iload rfl rfl
theorem r_X_be_38 (h : gK c0 = 102 ∨ gK c0 = 103) (hx : 0 ≤ s1 ∧ s1 < gN c0) : Wp L d k_X_be 38 [l0, l1, l2, l3, l4, l5] [vI s1, vR c0] σ Q ↔ Wp L d k_X_be 39 [l0, l1, l2, l3, l4, l5] [vR (gq c0 s1.toNat)] σ Q := wp_aald rfl h hx
theorem r_X_be_39 : Wp L d k_X_be 39 [l0, l1, l2, vI a3, l4, l5] [vR c0] σ Q ↔ Wp L d k_X_be 41 [l0, l1, l2, vI a3, vR c0, l5] [] σ Q := wp_astore (i := 4) (ls := [l0, l1, l2, vI a3, l4, l5]) rfl rfl
theorem r_X_be_41 : Wp L d k_X_be 41 [l0, l1, l2, l3, vR b4, l5] [] σ Q ↔ Wp L d k_X_be 43 [l0, l1, l2, l3, vR b4, l5] [vR b4] σ Q := wp_aload rfl rfl
theorem r_X_be_43 (h : gK c0 = 4) : Wp L d k_X_be 43 [l0, l1, l2, l3, l4, l5] [vR c0] σ Q ↔ Wp L d k_X_be 46 [l0, l1, l2, l3, l4, l5] [vI (σ c0 0)] σ Q := wp_getI (c := 1024) rfl rfl rfl rfl h
theorem r_X_be_46 : Wp L d k_X_be 46 [l0, l1, l2, l3, l4, l5] [vI s0] σ Q ↔ Wp L d k_X_be 47 [l0, l1, l2, l3, l4, l5] [vI 4, vI s0] σ Q := wp_push rfl
theorem r_X_be_47 : Wp L d k_X_be 47 [l0, l1, l2, l3, l4, l5] [vI s1, vI s0] σ Q ↔ (if s0 ≠ s1 then Wp L d k_X_be 53 [l0, l1, l2, l3, l4, l5] [] σ Q else Wp L d k_X_be 50 [l0, l1, l2, l3, l4, l5] [] σ Q) := wp_cmp_ne rfl
theorem r_X_be_50 : Wp L d k_X_be 50 [l0, l1, l2, l3, l4, l5] [] σ Q ↔ Wp L d k_X_be 52 [l0, l1, l2, l3, l4, l5] [vI (-1000000012)] σ Q := wp_push rfl
theorem r_X_be_52 : Wp L d k_X_be 52 [l0, l1, l2, l3, l4, l5] [vI s0] σ Q ↔ Q (some (vI s0)) σ := wp_iret rfl
theorem r_X_be_53 : Wp L d k_X_be 53 [l0, l1, l2, l3, vR b4, l5] [] σ Q ↔ Wp L d k_X_be 55 [l0, l1, l2, l3, vR b4, l5] [vR b4] σ Q := wp_aload rfl rfl
theorem r_X_be_55 : Wp L d k_X_be 55 [l0, l1, vI a2, l3, l4, l5] [vR c0] σ Q ↔ Wp L d k_X_be 56 [l0, l1, vI a2, l3, l4, l5] [vI a2, vR c0] σ Q := wp_iload rfl rfl
theorem r_X_be_59 : Wp L d k_X_be 59 [l0, l1, l2, l3, vR b4, l5] [vI s0] σ Q ↔ Wp L d k_X_be 61 [l0, l1, l2, l3, vR b4, vI s0] [] σ Q := wp_istore (i := 5) (ls := [l0, l1, l2, l3, vR b4, l5]) rfl rfl
theorem r_X_be_61 : Wp L d k_X_be 61 [l0, l1, vI a2, l3, l4, l5] [] σ Q ↔ Wp L d k_X_be 62 [l0, l1, vI a2, l3, l4, l5] [vI a2] σ Q := wp_iload rfl rfl
theorem r_X_be_62 : Wp L d k_X_be 62 [l0, l1, l2, l3, l4, l5] [vI s0] σ Q ↔ Wp L d k_X_be 63 [l0, l1, l2, l3, l4, l5] [vI 4, vI s0] σ Q := wp_push rfl
theorem r_X_be_63 : Wp L d k_X_be 63 [l0, l1, l2, l3, l4, l5] [vI s1, vI s0] σ Q ↔ (if s0 ≠ s1 then Wp L d k_X_be 75 [l0, l1, l2, l3, l4, l5] [] σ Q else Wp L d k_X_be 66 [l0, l1, l2, l3, l4, l5] [] σ Q) := wp_cmp_ne rfl
theorem r_X_be_66 : Wp L d k_X_be 66 [l0, l1, l2, l3, vR b4, l5] [] σ Q ↔ Wp L d k_X_be 68 [l0, l1, l2, l3, vR b4, l5] [vR b4] σ Q := wp_aload rfl rfl
theorem r_X_be_68 : Wp L d k_X_be 68 [l0, l1, l2, vI a3, l4, l5] [vR c0] σ Q ↔ Wp L d k_X_be 69 [l0, l1, l2, vI a3, l4, l5] [vI a3, vR c0] σ Q := wp_iload rfl rfl
theorem r_X_be_69 (h : gK c0 = 4) : Wp L d k_X_be 69 [l0, l1, l2, l3, l4, l5] [vI s1, vR c0] σ Q ↔ Wp L d k_X_be 72 [l0, l1, l2, l3, l4, l5] [] (gupd σ c0 4 s1) Q := wp_putI (c := 1028) rfl rfl rfl rfl h
theorem r_X_be_72 : Wp L d k_X_be 72 [l0, l1, l2, l3, l4, l5] [] σ Q ↔ Wp L d k_X_be 81 [l0, l1, l2, l3, l4, l5] [] σ Q := wp_goto rfl
theorem r_X_be_75 : Wp L d k_X_be 75 [l0, l1, l2, l3, vR b4, l5] [] σ Q ↔ Wp L d k_X_be 77 [l0, l1, l2, l3, vR b4, l5] [vR b4] σ Q := wp_aload rfl rfl
theorem r_X_be_77 : Wp L d k_X_be 77 [l0, l1, l2, vI a3, l4, l5] [vR c0] σ Q ↔ Wp L d k_X_be 78 [l0, l1, l2, vI a3, l4, l5] [vI a3, vR c0] σ Q := wp_iload rfl rfl
theorem r_X_be_78 (h : gK c0 = 4) : Wp L d k_X_be 78 [l0, l1, l2, l3, l4, l5] [vI s1, vR c0] σ Q ↔ Wp L d k_X_be 81 [l0, l1, l2, l3, l4, l5] [] (gupd σ c0 5 s1) Q := wp_putI (c := 1029) rfl rfl rfl rfl h
theorem r_X_be_81 : Wp L d k_X_be 81 [l0, l1, l2, l3, l4, vI a5] [] σ Q ↔ Wp L d k_X_be 83 [l0, l1, l2, l3, l4, vI a5] [vI a5] σ Q := wp_iload rfl rfl
theorem r_X_be_83 : Wp L d k_X_be 83 [l0, l1, l2, l3, l4, l5] [vI s0] σ Q ↔ Q (some (vI s0)) σ := wp_iret rfl
theorem r_X_be_2 : Wp L (d + 2) k_X_be 2 [l0, l1, l2, l3, l4, l5] [vI s1, vR 27] σ Q ↔ Wp L (d + 2) k_X_be 5 [l0, l1, l2, l3, l4, l5] [vI (gb (0 ≤ s1 ∧ s1 ≤ w32 (σ 29 9 - 1)))] σ Q := wp_callR (d := d + 1) (as := [vR 27, vI s1]) (rest := []) rfl rfl rfl rfl rfl rfl rfl (grecv_k (by rw [gK_27]) rfl) (sp_X_isPart)
theorem r_X_be_11 : Wp L (d + 2) k_X_be 11 [l0, l1, l2, l3, l4, l5] [vI s2, vI s1, vI s0] σ Q ↔ Wp L (d + 2) k_X_be 14 [l0, l1, l2, l3, l4, l5] [vI (gb (s1 ≤ s0 ∧ s0 ≤ s2))] σ Q := wp_callR (d := d + 1) (as := [vI s0, vI s1, vI s2]) (rest := []) rfl rfl rfl rfl rfl rfl rfl rfl (sp_X_within)
theorem r_X_be_21 : Wp L (d + 2) k_X_be 21 [l0, l1, l2, l3, l4, l5] [vI s2, vI s1, vI s0] σ Q ↔ Wp L (d + 2) k_X_be 24 [l0, l1, l2, l3, l4, l5] [vI (gb (s1 ≤ s0 ∧ s0 ≤ s2))] σ Q := wp_callR (d := d + 1) (as := [vI s0, vI s1, vI s2]) (rest := []) rfl rfl rfl rfl rfl rfl rfl rfl (sp_X_within)
theorem r_X_be_56 (hk : gK c0 = 4) : Wp L (d + 2) k_X_be 56 [l0, l1, l2, l3, l4, l5] [vI s1, vR c0] σ Q ↔ Wp L (d + 2) k_X_be 59 [l0, l1, l2, l3, l4, l5] [vI (gtd (σ c0) s1)] σ Q := wp_callR (d := d + 1) (as := [vR c0, vI s1]) (rest := []) rfl rfl rfl rfl rfl rfl rfl (grecv_k (by rw [hk]) rfl) (sp_Q_asTold hk)
theorem sp_X_be_b (hp : w32 (σ 29 9 - 1) = σ 29 9 - 1) (h : ¬ ((0 ≤ a1 ∧ a1 ≤ σ 29 9 - 1) ∧ (4 ≤ a2 ∧ a2 ≤ 5) ∧ 0 ≤ a3 ∧ a3 ≤ 99)) : Run L (d + 2) 27 [vR 27, vI a1, vI a2, vI a3] σ (some (vI (-1000000001))) σ := by
  refine Run_of (C' := k_X_be) rfl ?_
  show Wp L (d + 2) k_X_be 0 [vR 27, vI a1, vI a2, vI a3, vU, vU] [] σ _
  simp only [r_X_be_0, r_X_be_1, r_X_be_2, r_X_be_5, r_X_be_8, r_X_be_9, r_X_be_10, r_X_be_11, r_X_be_14, r_X_be_17, r_X_be_18, r_X_be_19, r_X_be_21, r_X_be_24, r_X_be_27, r_X_be_29, r_X_be_30, r_X_be_31, r_X_be_34, r_X_be_37, r_X_be_38, r_X_be_39, r_X_be_41, r_X_be_43, r_X_be_46, r_X_be_47, r_X_be_50, r_X_be_52, r_X_be_53, r_X_be_55, r_X_be_56, r_X_be_59, r_X_be_61, r_X_be_62, r_X_be_63, r_X_be_66, r_X_be_68, r_X_be_69, r_X_be_72, r_X_be_75, r_X_be_77, r_X_be_78, r_X_be_81, r_X_be_83, gK_27, gK_28, gK_29, gq_27_0, gq_27_1, gK_293, gq_293_0, gK_294, gN_294, hp, Int.reduceLE, Int.reduceLT, Int.reduceEq, Int.reduceToNat, gb_01, eq_self, true_or, or_true, and_true, true_and, and_self, if_true, if_false, not_true_eq_false, not_false_eq_true, ne_eq, gb_ne0, gb_eq0]
  repeat' split
  all_goals first | trivial | omega
theorem sp_X_be_k (hp : w32 (σ 29 9 - 1) = σ 29 9 - 1) (hq : σ 29 9 ≤ 40) (h : 0 ≤ a1 ∧ a1 ≤ σ 29 9 - 1) (h2 : 4 ≤ a2 ∧ a2 ≤ 5) (h4 : 0 ≤ a3 ∧ a3 ≤ 99) (hc : σ (38 + a1.toNat) 0 = 4) : Run L (d + 2) 27 [vR 27, vI a1, vI a2, vI a3] σ (some (vI (-1000000012))) σ := by
  obtain ⟨q1, q2⟩ := gq33 (show a1.toNat < 40 by omega)
  have h3 : a1 < 40 := by omega
  refine Run_of (C' := k_X_be) rfl ?_
  show Wp L (d + 2) k_X_be 0 [vR 27, vI a1, vI a2, vI a3, vU, vU] [] σ _
  simp only [r_X_be_0, r_X_be_1, r_X_be_2, r_X_be_5, r_X_be_8, r_X_be_9, r_X_be_10, r_X_be_11, r_X_be_14, r_X_be_17, r_X_be_18, r_X_be_19, r_X_be_21, r_X_be_24, r_X_be_27, r_X_be_29, r_X_be_30, r_X_be_31, r_X_be_34, r_X_be_37, r_X_be_38, r_X_be_39, r_X_be_41, r_X_be_43, r_X_be_46, r_X_be_47, r_X_be_50, r_X_be_52, r_X_be_53, r_X_be_55, r_X_be_56, r_X_be_59, r_X_be_61, r_X_be_62, r_X_be_63, r_X_be_66, r_X_be_68, r_X_be_69, r_X_be_72, r_X_be_75, r_X_be_77, r_X_be_78, r_X_be_81, r_X_be_83, gK_27, gK_28, gK_29, gq_27_0, gq_27_1, gK_293, gq_293_0, gK_294, gN_294, gq_29_3, gK_33, gN_33, hp, h, h2, h3, h4, q1, q2, hc, Int.reduceLE, Int.reduceLT, Int.reduceEq, Int.reduceToNat, gb_01, eq_self, true_or, or_true, and_true, true_and, and_self, if_true, if_false, not_true_eq_false, not_false_eq_true, ne_eq, gb_ne0, gb_eq0]
theorem sp_X_be_4 (hp : w32 (σ 29 9 - 1) = σ 29 9 - 1) (hq : σ 29 9 ≤ 40) (h : 0 ≤ a1 ∧ a1 ≤ σ 29 9 - 1) (h4 : 0 ≤ a3 ∧ a3 ≤ 99) (hc : ¬ σ (38 + a1.toNat) 0 = 4) : Run L (d + 2) 27 [vR 27, vI a1, vI 4, vI a3] σ (some (vI (gtd (σ (38 + a1.toNat)) 4))) (gupd σ (38 + a1.toNat) 4 a3) := by
  obtain ⟨q1, q2⟩ := gq33 (show a1.toNat < 40 by omega)
  have h3 : a1 < 40 := by omega
  refine Run_of (C' := k_X_be) rfl ?_
  show Wp L (d + 2) k_X_be 0 [vR 27, vI a1, vI 4, vI a3, vU, vU] [] σ _
  simp only [r_X_be_0, r_X_be_1, r_X_be_2, r_X_be_5, r_X_be_8, r_X_be_9, r_X_be_10, r_X_be_11, r_X_be_14, r_X_be_17, r_X_be_18, r_X_be_19, r_X_be_21, r_X_be_24, r_X_be_27, r_X_be_29, r_X_be_30, r_X_be_31, r_X_be_34, r_X_be_37, r_X_be_38, r_X_be_39, r_X_be_41, r_X_be_43, r_X_be_46, r_X_be_47, r_X_be_50, r_X_be_52, r_X_be_53, r_X_be_55, r_X_be_56, r_X_be_59, r_X_be_61, r_X_be_62, r_X_be_63, r_X_be_66, r_X_be_68, r_X_be_69, r_X_be_72, r_X_be_75, r_X_be_77, r_X_be_78, r_X_be_81, r_X_be_83, gK_27, gK_28, gK_29, gq_27_0, gq_27_1, gK_293, gq_293_0, gK_294, gN_294, gq_29_3, gK_33, gN_33, hp, h, h3, h4, q1, q2, hc, Int.reduceLE, Int.reduceLT, Int.reduceEq, Int.reduceToNat, gb_01, eq_self, true_or, or_true, and_true, true_and, and_self, if_true, if_false, not_true_eq_false, not_false_eq_true, ne_eq, gb_ne0, gb_eq0]
theorem sp_X_be_5 (hp : w32 (σ 29 9 - 1) = σ 29 9 - 1) (hq : σ 29 9 ≤ 40) (h : 0 ≤ a1 ∧ a1 ≤ σ 29 9 - 1) (h4 : 0 ≤ a3 ∧ a3 ≤ 99) (hc : ¬ σ (38 + a1.toNat) 0 = 4) : Run L (d + 2) 27 [vR 27, vI a1, vI 5, vI a3] σ (some (vI (gtd (σ (38 + a1.toNat)) 5))) (gupd σ (38 + a1.toNat) 5 a3) := by
  obtain ⟨q1, q2⟩ := gq33 (show a1.toNat < 40 by omega)
  have h3 : a1 < 40 := by omega
  refine Run_of (C' := k_X_be) rfl ?_
  show Wp L (d + 2) k_X_be 0 [vR 27, vI a1, vI 5, vI a3, vU, vU] [] σ _
  simp only [r_X_be_0, r_X_be_1, r_X_be_2, r_X_be_5, r_X_be_8, r_X_be_9, r_X_be_10, r_X_be_11, r_X_be_14, r_X_be_17, r_X_be_18, r_X_be_19, r_X_be_21, r_X_be_24, r_X_be_27, r_X_be_29, r_X_be_30, r_X_be_31, r_X_be_34, r_X_be_37, r_X_be_38, r_X_be_39, r_X_be_41, r_X_be_43, r_X_be_46, r_X_be_47, r_X_be_50, r_X_be_52, r_X_be_53, r_X_be_55, r_X_be_56, r_X_be_59, r_X_be_61, r_X_be_62, r_X_be_63, r_X_be_66, r_X_be_68, r_X_be_69, r_X_be_72, r_X_be_75, r_X_be_77, r_X_be_78, r_X_be_81, r_X_be_83, gK_27, gK_28, gK_29, gq_27_0, gq_27_1, gK_293, gq_293_0, gK_294, gN_294, gq_29_3, gK_33, gN_33, hp, h, h3, h4, q1, q2, hc, Int.reduceLE, Int.reduceLT, Int.reduceEq, Int.reduceToNat, gb_01, eq_self, true_or, or_true, and_true, true_and, and_self, if_true, if_false, not_true_eq_false, not_false_eq_true, ne_eq, gb_ne0, gb_eq0]
theorem r_M_be_0 : Wp L d k_M_be 0 [vR b0, l1, l2, l3] [] σ Q ↔ Wp L d k_M_be 1 [vR b0, l1, l2, l3] [vR b0] σ Q := wp_aload rfl rfl
theorem r_M_be_1 : Wp L d k_M_be 1 [l0, vI a1, l2, l3] [vR c0] σ Q ↔ Wp L d k_M_be 2 [l0, vI a1, l2, l3] [vI a1, vR c0] σ Q := wp_iload rfl rfl
theorem r_M_be_5 : Wp L d k_M_be 5 [l0, l1, l2, l3] [vI s0] σ Q ↔ (if s0 = 0 then Wp L d k_M_be 34 [l0, l1, l2, l3] [] σ Q else Wp L d k_M_be 8 [l0, l1, l2, l3] [] σ Q) := wp_if_eq rfl
theorem r_M_be_8 : Wp L d k_M_be 8 [l0, l1, vI a2, l3] [] σ Q ↔ Wp L d k_M_be 9 [l0, l1, vI a2, l3] [vI a2] σ Q := wp_iload rfl rfl
theorem r_M_be_9 : Wp L d k_M_be 9 [l0, l1, l2, l3] [vI s0] σ Q ↔ Wp L d k_M_be 10 [l0, l1, l2, l3] [vL s0] σ Q := wp_i2l rfl
theorem r_M_be_10 : Wp L d k_M_be 10 [l0, l1, l2, l3] [vL s0] σ Q ↔ Wp L d k_M_be 13 [l0, l1, l2, l3] [vL 4, vL s0] σ Q := wp_pushL rfl
theorem r_M_be_13 : Wp L d k_M_be 13 [l0, l1, l2, l3] [vL s1, vL s0] σ Q ↔ Wp L d k_M_be 16 [l0, l1, l2, l3] [vL 5, vL s1, vL s0] σ Q := wp_pushL rfl
theorem r_M_be_19 : Wp L d k_M_be 19 [l0, l1, l2, l3] [vI s0] σ Q ↔ (if s0 = 0 then Wp L d k_M_be 34 [l0, l1, l2, l3] [] σ Q else Wp L d k_M_be 22 [l0, l1, l2, l3] [] σ Q) := wp_if_eq rfl
theorem r_M_be_22 : Wp L d k_M_be 22 [l0, l1, l2, vI a3] [] σ Q ↔ Wp L d k_M_be 23 [l0, l1, l2, vI a3] [vI a3] σ Q := wp_iload rfl rfl
theorem r_M_be_23 : Wp L d k_M_be 23 [l0, l1, l2, l3] [vI s0] σ Q ↔ Wp L d k_M_be 24 [l0, l1, l2, l3] [vL s0] σ Q := wp_i2l rfl
theorem r_M_be_24 : Wp L d k_M_be 24 [l0, l1, l2, l3] [vL s0] σ Q ↔ Wp L d k_M_be 25 [l0, l1, l2, l3] [vL 0, vL s0] σ Q := wp_pushL rfl
theorem r_M_be_25 : Wp L d k_M_be 25 [l0, l1, l2, l3] [vL s1, vL s0] σ Q ↔ Wp L d k_M_be 28 [l0, l1, l2, l3] [vL 99, vL s1, vL s0] σ Q := wp_pushL rfl
theorem r_M_be_31 : Wp L d k_M_be 31 [l0, l1, l2, l3] [vI s0] σ Q ↔ (if s0 ≠ 0 then Wp L d k_M_be 37 [l0, l1, l2, l3] [] σ Q else Wp L d k_M_be 34 [l0, l1, l2, l3] [] σ Q) := wp_if_ne rfl
theorem r_M_be_34 : Wp L d k_M_be 34 [l0, l1, l2, l3] [] σ Q ↔ Wp L d k_M_be 36 [l0, l1, l2, l3] [vI (-1000000001)] σ Q := wp_push rfl
theorem r_M_be_36 : Wp L d k_M_be 36 [l0, l1, l2, l3] [vI s0] σ Q ↔ Q (some (vI s0)) σ := wp_iret rfl
theorem r_M_be_37 : Wp L d k_M_be 37 [vR b0, l1, l2, l3] [] σ Q ↔ Wp L d k_M_be 38 [vR b0, l1, l2, l3] [vR b0] σ Q := wp_aload rfl rfl
theorem r_M_be_38 : Wp L d k_M_be 38 [l0, vI a1, l2, l3] [vR c0] σ Q ↔ Wp L d k_M_be 39 [l0, vI a1, l2, l3] [vI a1, vR c0] σ Q := wp_iload rfl rfl
theorem r_M_be_42 : Wp L d k_M_be 42 [l0, l1, l2, l3] [vI s0] σ Q ↔ Wp L d k_M_be 43 [l0, l1, l2, l3] [vI 4, vI s0] σ Q := wp_push rfl
theorem r_M_be_43 : Wp L d k_M_be 43 [l0, l1, l2, l3] [vI s1, vI s0] σ Q ↔ (if s0 ≠ s1 then Wp L d k_M_be 51 [l0, l1, l2, l3] [] σ Q else Wp L d k_M_be 46 [l0, l1, l2, l3] [] σ Q) := wp_cmp_ne rfl
theorem r_M_be_46 : Wp L d k_M_be 46 [l0, l1, l2, l3] [] σ Q ↔ Wp L d k_M_be 48 [l0, l1, l2, l3] [vI (-1000000012)] σ Q := wp_push rfl
theorem r_M_be_48 : Wp L d k_M_be 48 [l0, l1, l2, l3] [vI s0] σ Q ↔ Wp L d k_M_be 63 [l0, l1, l2, l3] [vI s0] σ Q := wp_goto rfl
theorem r_M_be_51 : Wp L d k_M_be 51 [vR b0, l1, l2, l3] [] σ Q ↔ Wp L d k_M_be 52 [vR b0, l1, l2, l3] [vR b0] σ Q := wp_aload rfl rfl
theorem r_M_be_52 : Wp L d k_M_be 52 [vR b0, l1, l2, l3] [vR c0] σ Q ↔ Wp L d k_M_be 53 [vR b0, l1, l2, l3] [vR b0, vR c0] σ Q := wp_aload rfl rfl
theorem r_M_be_53 : Wp L d k_M_be 53 [l0, vI a1, l2, l3] [vR c1, vR c0] σ Q ↔ Wp L d k_M_be 54 [l0, vI a1, l2, l3] [vI a1, vR c1, vR c0] σ Q := wp_iload rfl rfl
theorem r_M_be_57 : Wp L d k_M_be 57 [l0, l1, vI a2, l3] [vI s1, vR c0] σ Q ↔ Wp L d k_M_be 58 [l0, l1, vI a2, l3] [vI a2, vI s1, vR c0] σ Q := wp_iload rfl rfl
theorem r_M_be_58 : Wp L d k_M_be 58 [l0, l1, l2, l3] [vI s2, vI s1, vR c0] σ Q ↔ Wp L d k_M_be 59 [l0, l1, l2, l3] [vI (w32 (s1 + s2)), vR c0] σ Q := wp_iadd rfl
theorem r_M_be_59 : Wp L d k_M_be 59 [l0, l1, l2, vI a3] [vI s1, vR c0] σ Q ↔ Wp L d k_M_be 60 [l0, l1, l2, vI a3] [vI a3, vI s1, vR c0] σ Q := wp_iload rfl rfl
theorem r_M_be_63 : Wp L d k_M_be 63 [l0, l1, l2, l3] [vI s0] σ Q ↔ Q (some (vI s0)) σ := wp_iret rfl
theorem r_M_be_2 : Wp L (d + 2) k_M_be 2 [l0, l1, l2, l3] [vI s1, vR 293] σ Q ↔ Wp L (d + 2) k_M_be 5 [l0, l1, l2, l3] [vI (gb (0 ≤ s1 ∧ s1 ≤ w32 (σ 294 1 - 1)))] σ Q := wp_callR (d := d + 1) (as := [vR 293, vI s1]) (rest := []) rfl rfl rfl rfl rfl rfl rfl (grecv_k (by rw [gK_293]) rfl) (sp_M_isPart)
theorem r_M_be_16 : Wp L (d + 2) k_M_be 16 [l0, l1, l2, l3] [vL s2, vL s1, vL s0] σ Q ↔ Wp L (d + 2) k_M_be 19 [l0, l1, l2, l3] [vI (gb (s1 ≤ s0 ∧ s0 ≤ s2))] σ Q := wp_callR (d := d + 1) (as := [vL s0, vL s1, vL s2]) (rest := []) rfl rfl rfl rfl rfl rfl rfl rfl (sp_M_isIn)
theorem r_M_be_28 : Wp L (d + 2) k_M_be 28 [l0, l1, l2, l3] [vL s2, vL s1, vL s0] σ Q ↔ Wp L (d + 2) k_M_be 31 [l0, l1, l2, l3] [vI (gb (s1 ≤ s0 ∧ s0 ≤ s2))] σ Q := wp_callR (d := d + 1) (as := [vL s0, vL s1, vL s2]) (rest := []) rfl rfl rfl rfl rfl rfl rfl rfl (sp_M_isIn)
theorem r_M_be_39 (h : 0 ≤ s1 ∧ s1 ≤ 40) : Wp L (d + 2) k_M_be 39 [l0, l1, l2, l3] [vI s1, vR 293] σ Q ↔ Wp L (d + 2) k_M_be 42 [l0, l1, l2, l3] [vI (σ 294 (120 + 12 * s1).toNat)] σ Q := wp_callR (d := d + 1) (as := [vR 293, vI s1]) (rest := []) rfl rfl rfl rfl rfl rfl rfl (grecv_k (by rw [gK_293]) rfl) (sp_M_kindOf h)
theorem r_M_be_54 : Wp L (d + 2) k_M_be 54 [l0, l1, l2, l3] [vI s2, vR 293, vR c0] σ Q ↔ Wp L (d + 2) k_M_be 57 [l0, l1, l2, l3] [vI (w32 (120 + w32 (12 * s2))), vR c0] σ Q := wp_callR (d := d + 1) (as := [vR 293, vI s2]) (rest := [vR c0]) rfl rfl rfl rfl rfl rfl rfl (grecv_k (by rw [gK_293]) rfl) (sp_M_partAt)
theorem r_M_be_60 (h : 0 ≤ s1 ∧ s1 < 3540) : Wp L (d + 2) k_M_be 60 [l0, l1, l2, l3] [vI s2, vI s1, vR 293] σ Q ↔ Wp L (d + 2) k_M_be 63 [l0, l1, l2, l3] [vI (σ 294 s1.toNat)] (gupd σ 294 s1.toNat s2) Q := wp_callR (d := d + 1) (as := [vR 293, vI s1, vI s2]) (rest := []) rfl rfl rfl rfl rfl rfl rfl (grecv_k (by rw [gK_293]) rfl) (sp_M_becomes h)
theorem sp_M_be_b (hp : w32 (σ 294 1 - 1) = σ 294 1 - 1) (h : ¬ ((0 ≤ a1 ∧ a1 ≤ σ 294 1 - 1) ∧ (4 ≤ a2 ∧ a2 ≤ 5) ∧ 0 ≤ a3 ∧ a3 ≤ 99)) : Run L (d + 2) 212 [vR 293, vI a1, vI a2, vI a3] σ (some (vI (-1000000001))) σ := by
  refine Run_of (C' := k_M_be) rfl ?_
  show Wp L (d + 2) k_M_be 0 [vR 293, vI a1, vI a2, vI a3] [] σ _
  simp only [r_M_be_0, r_M_be_1, r_M_be_2, r_M_be_5, r_M_be_8, r_M_be_9, r_M_be_10, r_M_be_13, r_M_be_16, r_M_be_19, r_M_be_22, r_M_be_23, r_M_be_24, r_M_be_25, r_M_be_28, r_M_be_31, r_M_be_34, r_M_be_36, r_M_be_37, r_M_be_38, r_M_be_39, r_M_be_42, r_M_be_43, r_M_be_46, r_M_be_48, r_M_be_51, r_M_be_52, r_M_be_53, r_M_be_54, r_M_be_57, r_M_be_58, r_M_be_59, r_M_be_60, r_M_be_63, gK_27, gK_28, gK_29, gq_27_0, gq_27_1, gK_293, gq_293_0, gK_294, gN_294, hp, Int.reduceLE, Int.reduceLT, Int.reduceEq, Int.reduceToNat, gb_01, eq_self, true_or, or_true, and_true, true_and, and_self, if_true, if_false, not_true_eq_false, not_false_eq_true, ne_eq, gb_ne0, gb_eq0]
  repeat' split
  all_goals first | trivial | omega
theorem sp_M_be_k (hp : w32 (σ 294 1 - 1) = σ 294 1 - 1) (hq : σ 294 1 ≤ 40) (h : 0 ≤ a1 ∧ a1 ≤ σ 294 1 - 1) (h2 : 4 ≤ a2 ∧ a2 ≤ 5) (h4 : 0 ≤ a3 ∧ a3 ≤ 99) (hc : σ 294 (120 + 12 * a1).toNat = 4) : Run L (d + 2) 212 [vR 293, vI a1, vI a2, vI a3] σ (some (vI (-1000000012))) σ := by
  have w0 : w32 (12 * a1) = 12 * a1 := w32_id (by unfold gr32; omega)
  have w1 : w32 (120 + 12 * a1) = 120 + 12 * a1 := w32_id (by unfold gr32; omega)
  have w2 : w32 (120 + 12 * a1 + a2) = 120 + 12 * a1 + a2 := w32_id (by unfold gr32; omega)
  have h5 : 0 ≤ 120 + 12 * a1 + a2 := by omega
  have h6 : 120 + 12 * a1 + a2 < 3540 := by omega
  have h7 : a1 ≤ 40 := by omega
  refine Run_of (C' := k_M_be) rfl ?_
  show Wp L (d + 2) k_M_be 0 [vR 293, vI a1, vI a2, vI a3] [] σ _
  simp only [r_M_be_0, r_M_be_1, r_M_be_2, r_M_be_5, r_M_be_8, r_M_be_9, r_M_be_10, r_M_be_13, r_M_be_16, r_M_be_19, r_M_be_22, r_M_be_23, r_M_be_24, r_M_be_25, r_M_be_28, r_M_be_31, r_M_be_34, r_M_be_36, r_M_be_37, r_M_be_38, r_M_be_39, r_M_be_42, r_M_be_43, r_M_be_46, r_M_be_48, r_M_be_51, r_M_be_52, r_M_be_53, r_M_be_54, r_M_be_57, r_M_be_58, r_M_be_59, r_M_be_60, r_M_be_63, gK_27, gK_28, gK_29, gq_27_0, gq_27_1, gK_293, gq_293_0, gK_294, gN_294, hp, h, h.1, h2, h4, h5, h6, h7, hc, w0, w1, w2, Int.reduceLE, Int.reduceLT, Int.reduceEq, Int.reduceToNat, gb_01, eq_self, true_or, or_true, and_true, true_and, and_self, if_true, if_false, not_true_eq_false, not_false_eq_true, ne_eq, gb_ne0, gb_eq0]
theorem sp_M_be (hp : w32 (σ 294 1 - 1) = σ 294 1 - 1) (hq : σ 294 1 ≤ 40) (h : 0 ≤ a1 ∧ a1 ≤ σ 294 1 - 1) (h2 : 4 ≤ a2 ∧ a2 ≤ 5) (h4 : 0 ≤ a3 ∧ a3 ≤ 99) (hc : ¬ σ 294 (120 + 12 * a1).toNat = 4) : Run L (d + 2) 212 [vR 293, vI a1, vI a2, vI a3] σ (some (vI (σ 294 (120 + 12 * a1 + a2).toNat))) (gupd σ 294 (120 + 12 * a1 + a2).toNat a3) := by
  have w0 : w32 (12 * a1) = 12 * a1 := w32_id (by unfold gr32; omega)
  have w1 : w32 (120 + 12 * a1) = 120 + 12 * a1 := w32_id (by unfold gr32; omega)
  have w2 : w32 (120 + 12 * a1 + a2) = 120 + 12 * a1 + a2 := w32_id (by unfold gr32; omega)
  have h5 : 0 ≤ 120 + 12 * a1 + a2 := by omega
  have h6 : 120 + 12 * a1 + a2 < 3540 := by omega
  have h7 : a1 ≤ 40 := by omega
  refine Run_of (C' := k_M_be) rfl ?_
  show Wp L (d + 2) k_M_be 0 [vR 293, vI a1, vI a2, vI a3] [] σ _
  simp only [r_M_be_0, r_M_be_1, r_M_be_2, r_M_be_5, r_M_be_8, r_M_be_9, r_M_be_10, r_M_be_13, r_M_be_16, r_M_be_19, r_M_be_22, r_M_be_23, r_M_be_24, r_M_be_25, r_M_be_28, r_M_be_31, r_M_be_34, r_M_be_36, r_M_be_37, r_M_be_38, r_M_be_39, r_M_be_42, r_M_be_43, r_M_be_46, r_M_be_48, r_M_be_51, r_M_be_52, r_M_be_53, r_M_be_54, r_M_be_57, r_M_be_58, r_M_be_59, r_M_be_60, r_M_be_63, gK_27, gK_28, gK_29, gq_27_0, gq_27_1, gK_293, gq_293_0, gK_294, gN_294, hp, h, h.1, h2, h4, h5, h6, h7, hc, w0, w1, w2, Int.reduceLE, Int.reduceLT, Int.reduceEq, Int.reduceToNat, gb_01, eq_self, true_or, or_true, and_true, true_and, and_self, if_true, if_false, not_true_eq_false, not_false_eq_true, ne_eq, gb_ne0, gb_eq0]
theorem op_be (a1 a2 a3 : Int) : Op 27 212 [vI a1, vI a2, vI a3] := by
  intro L d σ hI
  obtain ⟨⟨w1, w2, w3, w4, w5, w6, w7, w8⟩, c1, c2, c3, c4, c5, c6, c7, c8⟩ := iB hI
  have hp : w32 (σ 29 9 - 1) = σ 29 9 - 1 := w32_id (by unfold gr32; omega)
  have hm : w32 (σ 294 1 - 1) = σ 294 1 - 1 := w32_id (by unfold gr32; omega)
  
  by_cases h : (0 ≤ a1 ∧ a1 ≤ σ 29 9 - 1) ∧ (4 ≤ a2 ∧ a2 ≤ 5) ∧ 0 ≤ a3 ∧ a3 ≤ 99
  · obtain ⟨h, h2, h4⟩ := h
    have q := c4 a1.toNat (by omega)
    have v := w4 a1.toNat (by omega)
    have e0 : σ (38 + a1.toNat) 0 = σ 294 (120 + 12 * a1).toNat := by
      rw [show (120 + 12 * a1).toNat = 120 + 12 * a1.toNat + 0 by omega]
      exact q.1
    by_cases hc : σ (38 + a1.toNat) 0 = 4
    · exact ⟨_, _, _, sp_X_be_k hp (by omega) h h2 h4 hc, sp_M_be_k hm (by omega) (by omega) h2 h4 (by rw [← e0]; exact hc), hI⟩
    · have z : a2 = 4 ∨ a2 = 5 := by omega
      have q0 := q.1
      unfold gpt at q0
      rcases z with rfl | rfl
      · refine ⟨_, _, _, sp_X_be_4 hp (by omega) h h4 hc, Run_r (sp_M_be (by rw [gupd_ne (by omega)]; exact hm) (by rw [gupd_ne (by omega)]; omega) (by rw [gupd_ne (by omega)]; omega) h2 h4 (by rw [gupd_ne (by omega), ← e0]; exact hc)) ?_, ?_⟩
        · rw [gupd_ne (by omega), gtd_in (by omega) v q, show (120 + 12 * a1 + 4).toNat = 120 + 12 * a1.toNat + 4 by omega]
          rfl
        rw [show (120 + 12 * a1 + 4).toNat = 120 + 12 * a1.toNat + 4 by omega]
        refine Inv_mk (P := fun k j => k = 38 + a1.toNat ∨ (k = 294 ∧ j = 120 + 12 * a1.toNat + 4)) hI (Agr_upd (Agr_upd (Agr_refl _ _) (by omega)) (by omega)) (Or.inr ?_) (Or.inl (fun k j hz hp => by unfold ZT at hz; omega)) (Or.inl (fun k j hz hp => by unfold ZG at hz; omega)) (Or.inl (fun k j hz hp => by unfold ZS at hz; omega)) (Or.inl (fun k j hz hp => by unfold ZW at hz; omega)) (Or.inl (fun k j hz hp => by unfold ZP at hz; omega)) (Or.inl (fun k j hz hp => by unfold ZR ZK at hz; omega)) (Or.inl (fun k j hz hp => by unfold ZM at hz; omega)) (Or.inl (fun k j hz hp => by unfold ZTape at hz; omega)) (Or.inl (fun k j hz hp => by unfold ZTest at hz; omega)) (Or.inl (fun k j hz hp => by unfold ZWait at hz; omega)) (Or.inl (fun k j hz hp => by unfold ZImg at hz; omega))
        refine B_mk (P := fun k j => k = 38 + a1.toNat ∨ (k = 294 ∧ j = 120 + 12 * a1.toNat + 4)) hI (Agr_upd (Agr_upd (Agr_refl _ _) (by omega)) (by omega)) (fun k j hz hp => by unfold ZC at hz; omega) (Or.inl (fun k j hz hp => by unfold ZSp at hz; omega)) (Or.inr ?_) (Or.inl (fun k j hz hp => by unfold ZTr at hz; omega))
        exact part_one hI a1.toNat (by omega) (Agr_upd (Agr_upd (Agr_refl _ _) (by omega)) (by omega)) (be_new4 v q ⟨by rw [← q.1]; exact hc, h4⟩ (by omega))
      · refine ⟨_, _, _, sp_X_be_5 hp (by omega) h h4 hc, Run_r (sp_M_be (by rw [gupd_ne (by omega)]; exact hm) (by rw [gupd_ne (by omega)]; omega) (by rw [gupd_ne (by omega)]; omega) h2 h4 (by rw [gupd_ne (by omega), ← e0]; exact hc)) ?_, ?_⟩
        · rw [gupd_ne (by omega), gtd_in (by omega) v q, show (120 + 12 * a1 + 5).toNat = 120 + 12 * a1.toNat + 5 by omega]
          rfl
        rw [show (120 + 12 * a1 + 5).toNat = 120 + 12 * a1.toNat + 5 by omega]
        refine Inv_mk (P := fun k j => k = 38 + a1.toNat ∨ (k = 294 ∧ j = 120 + 12 * a1.toNat + 5)) hI (Agr_upd (Agr_upd (Agr_refl _ _) (by omega)) (by omega)) (Or.inr ?_) (Or.inl (fun k j hz hp => by unfold ZT at hz; omega)) (Or.inl (fun k j hz hp => by unfold ZG at hz; omega)) (Or.inl (fun k j hz hp => by unfold ZS at hz; omega)) (Or.inl (fun k j hz hp => by unfold ZW at hz; omega)) (Or.inl (fun k j hz hp => by unfold ZP at hz; omega)) (Or.inl (fun k j hz hp => by unfold ZR ZK at hz; omega)) (Or.inl (fun k j hz hp => by unfold ZM at hz; omega)) (Or.inl (fun k j hz hp => by unfold ZTape at hz; omega)) (Or.inl (fun k j hz hp => by unfold ZTest at hz; omega)) (Or.inl (fun k j hz hp => by unfold ZWait at hz; omega)) (Or.inl (fun k j hz hp => by unfold ZImg at hz; omega))
        refine B_mk (P := fun k j => k = 38 + a1.toNat ∨ (k = 294 ∧ j = 120 + 12 * a1.toNat + 5)) hI (Agr_upd (Agr_upd (Agr_refl _ _) (by omega)) (by omega)) (fun k j hz hp => by unfold ZC at hz; omega) (Or.inl (fun k j hz hp => by unfold ZSp at hz; omega)) (Or.inr ?_) (Or.inl (fun k j hz hp => by unfold ZTr at hz; omega))
        exact part_one hI a1.toNat (by omega) (Agr_upd (Agr_upd (Agr_refl _ _) (by omega)) (by omega)) (be_new5 v q ⟨by rw [← q.1]; exact hc, h4⟩ (by omega))
  · exact ⟨_, _, _, sp_X_be_b hp (by omega), sp_M_be_b hm (by omega), hI⟩
theorem r_X_find_0 : Wp L d k_X_find 0 [vR b0, l1, l2, l3, l4] [] σ Q ↔ Wp L d k_X_find 1 [vR b0, l1, l2, l3, l4] [vR b0] σ Q := wp_aload rfl rfl
theorem r_X_find_1 : Wp L d k_X_find 1 [l0, vI a1, l2, l3, l4] [vR c0] σ Q ↔ Wp L d k_X_find 2 [l0, vI a1, l2, l3, l4] [vI a1, vR c0] σ Q := wp_iload rfl rfl
theorem r_X_find_5 : Wp L d k_X_find 5 [l0, l1, l2, l3, l4] [vI s0] σ Q ↔ (if s0 = 0 then Wp L d k_X_find 17 [l0, l1, l2, l3, l4] [] σ Q else Wp L d k_X_find 8 [l0, l1, l2, l3, l4] [] σ Q) := wp_if_eq rfl
theorem r_X_find_8 : Wp L d k_X_find 8 [l0, l1, vI a2, l3, l4] [] σ Q ↔ Wp L d k_X_find 9 [l0, l1, vI a2, l3, l4] [vI a2] σ Q := wp_iload rfl rfl
theorem r_X_find_9 : Wp L d k_X_find 9 [l0, l1, l2, l3, l4] [vI s0] σ Q ↔ Wp L d k_X_find 10 [l0, l1, l2, l3, l4] [vI 0, vI s0] σ Q := wp_push rfl
theorem r_X_find_10 : Wp L d k_X_find 10 [l0, l1, l2, l3, l4] [vI s1, vI s0] σ Q ↔ Wp L d k_X_find 11 [l0, l1, l2, l3, l4] [vI 1, vI s1, vI s0] σ Q := wp_push rfl
theorem r_X_find_14 : Wp L d k_X_find 14 [l0, l1, l2, l3, l4] [vI s0] σ Q ↔ (if s0 ≠ 0 then Wp L d k_X_find 20 [l0, l1, l2, l3, l4] [] σ Q else Wp L d k_X_find 17 [l0, l1, l2, l3, l4] [] σ Q) := wp_if_ne rfl
theorem r_X_find_17 : Wp L d k_X_find 17 [l0, l1, l2, l3, l4] [] σ Q ↔ Wp L d k_X_find 19 [l0, l1, l2, l3, l4] [vI (-1000000001)] σ Q := wp_push rfl
theorem r_X_find_19 : Wp L d k_X_find 19 [l0, l1, l2, l3, l4] [vI s0] σ Q ↔ Q (some (vI s0)) σ := wp_iret rfl
theorem r_X_find_20 : Wp L d k_X_find 20 [vR b0, l1, l2, l3, l4] [] σ Q ↔ Wp L d k_X_find 21 [vR b0, l1, l2, l3, l4] [vR b0] σ Q := wp_aload rfl rfl
theorem r_X_find_21 (h : gK c0 = 0) : Wp L d k_X_find 21 [l0, l1, l2, l3, l4] [vR c0] σ Q ↔ Wp L d k_X_find 24 [l0, l1, l2, l3, l4] [vR (gq c0 1)] σ Q := wp_getR (c := 129) rfl rfl rfl rfl rfl h
theorem r_X_find_24 (h : gK c0 = 1) : Wp L d k_X_find 24 [l0, l1, l2, l3, l4] [vR c0] σ Q ↔ Wp L d k_X_find 27 [l0, l1, l2, l3, l4] [vR (gq c0 3)] σ Q := wp_getR (c := 387) rfl rfl rfl rfl rfl h
theorem r_X_find_27 : Wp L d k_X_find 27 [l0, vI a1, l2, l3, l4] [vR c0] σ Q ↔ Wp L d k_X_find 28 [l0, vI a1, l2, l3, l4] [vI a1, vR c0] σ Q := wp_iload rfl rfl
theorem r_X_find_28 (h : gK c0 = 102 ∨ gK c0 = 103) (hx : 0 ≤ s1 ∧ s1 < gN c0) : Wp L d k_X_find 28 [l0, l1, l2, l3, l4] [vI s1, vR c0] σ Q ↔ Wp L d k_X_find 29 [l0, l1, l2, l3, l4] [vR (gq c0 s1.toNat)] σ Q := wp_aald rfl h hx
theorem r_X_find_29 : Wp L d k_X_find 29 [l0, l1, vI a2, l3, l4] [vR c0] σ Q ↔ Wp L d k_X_find 30 [l0, l1, vI a2, vR c0, l4] [] σ Q := wp_astore (i := 3) (ls := [l0, l1, vI a2, l3, l4]) rfl rfl
theorem r_X_find_30 : Wp L d k_X_find 30 [l0, l1, l2, vR b3, l4] [] σ Q ↔ Wp L d k_X_find 31 [l0, l1, l2, vR b3, l4] [vR b3] σ Q := wp_aload rfl rfl
theorem r_X_find_31 (h : gK c0 = 4) : Wp L d k_X_find 31 [l0, l1, l2, l3, l4] [vR c0] σ Q ↔ Wp L d k_X_find 34 [l0, l1, l2, l3, l4] [vI (σ c0 0)] σ Q := wp_getI (c := 1024) rfl rfl rfl rfl h
theorem r_X_find_34 : Wp L d k_X_find 34 [l0, l1, l2, l3, l4] [vI s0] σ Q ↔ Wp L d k_X_find 35 [l0, l1, l2, l3, l4] [vI 4, vI s0] σ Q := wp_push rfl
theorem r_X_find_35 : Wp L d k_X_find 35 [l0, l1, l2, l3, l4] [vI s1, vI s0] σ Q ↔ (if s0 = s1 then Wp L d k_X_find 41 [l0, l1, l2, l3, l4] [] σ Q else Wp L d k_X_find 38 [l0, l1, l2, l3, l4] [] σ Q) := wp_cmp_eq rfl
theorem r_X_find_38 : Wp L d k_X_find 38 [l0, l1, l2, l3, l4] [] σ Q ↔ Wp L d k_X_find 40 [l0, l1, l2, l3, l4] [vI (-1000000012)] σ Q := wp_push rfl
theorem r_X_find_40 : Wp L d k_X_find 40 [l0, l1, l2, l3, l4] [vI s0] σ Q ↔ Q (some (vI s0)) σ := wp_iret rfl
theorem r_X_find_41 : Wp L d k_X_find 41 [l0, l1, l2, vR b3, l4] [] σ Q ↔ Wp L d k_X_find 42 [l0, l1, l2, vR b3, l4] [vR b3] σ Q := wp_aload rfl rfl
theorem r_X_find_42 (h : gK c0 = 4) : Wp L d k_X_find 42 [l0, l1, l2, l3, l4] [vR c0] σ Q ↔ Wp L d k_X_find 45 [l0, l1, l2, l3, l4] [vI (σ c0 11)] σ Q := wp_getI (c := 1099) rfl rfl rfl rfl h
theorem r_X_find_48 : Wp L d k_X_find 48 [l0, l1, l2, vR b3, l4] [vI s0] σ Q ↔ Wp L d k_X_find 50 [l0, l1, l2, vR b3, vI s0] [] σ Q := wp_istore (i := 4) (ls := [l0, l1, l2, vR b3, l4]) rfl rfl
theorem r_X_find_50 : Wp L d k_X_find 50 [l0, l1, l2, vR b3, l4] [] σ Q ↔ Wp L d k_X_find 51 [l0, l1, l2, vR b3, l4] [vR b3] σ Q := wp_aload rfl rfl
theorem r_X_find_51 : Wp L d k_X_find 51 [l0, l1, vI a2, l3, l4] [vR c0] σ Q ↔ Wp L d k_X_find 52 [l0, l1, vI a2, l3, l4] [vI a2, vR c0] σ Q := wp_iload rfl rfl
theorem r_X_find_52 : Wp L d k_X_find 52 [l0, l1, l2, l3, l4] [vI s1, vR c0] σ Q ↔ Wp L d k_X_find 53 [l0, l1, l2, l3, l4] [vI 1, vI s1, vR c0] σ Q := wp_push rfl
theorem r_X_find_53 : Wp L d k_X_find 53 [l0, l1, l2, l3, l4] [vI s2, vI s1, vR c0] σ Q ↔ (if s1 ≠ s2 then Wp L d k_X_find 60 [l0, l1, l2, l3, l4] [vR c0] σ Q else Wp L d k_X_find 56 [l0, l1, l2, l3, l4] [vR c0] σ Q) := wp_cmp_ne rfl
theorem r_X_find_56 : Wp L d k_X_find 56 [l0, l1, l2, l3, l4] [vR c0] σ Q ↔ Wp L d k_X_find 57 [l0, l1, l2, l3, l4] [vI 1, vR c0] σ Q := wp_push rfl
theorem r_X_find_57 : Wp L d k_X_find 57 [l0, l1, l2, l3, l4] [vI s1, vR c0] σ Q ↔ Wp L d k_X_find 61 [l0, l1, l2, l3, l4] [vI s1, vR c0] σ Q := wp_goto rfl
theorem r_X_find_60 : Wp L d k_X_find 60 [l0, l1, l2, l3, l4] [vR c0] σ Q ↔ Wp L d k_X_find 61 [l0, l1, l2, l3, l4] [vI 0, vR c0] σ Q := wp_push rfl
theorem r_X_find_61 (h : gK c0 = 4) (hx : s1 = 0 ∨ s1 = 1) : Wp L d k_X_find 61 [l0, l1, l2, l3, l4] [vI s1, vR c0] σ Q ↔ Wp L d k_X_find 64 [l0, l1, l2, l3, l4] [] (gupd σ c0 11 s1) Q := wp_putZ (c := 1099) rfl rfl rfl rfl h hx
theorem r_X_find_64 : Wp L d k_X_find 64 [l0, l1, l2, l3, vI a4] [] σ Q ↔ Wp L d k_X_find 66 [l0, l1, l2, l3, vI a4] [vI a4] σ Q := wp_iload rfl rfl
theorem r_X_find_66 : Wp L d k_X_find 66 [l0, l1, l2, l3, l4] [vI s0] σ Q ↔ Q (some (vI s0)) σ := wp_iret rfl
theorem r_X_find_2 : Wp L (d + 2) k_X_find 2 [l0, l1, l2, l3, l4] [vI s1, vR 27] σ Q ↔ Wp L (d + 2) k_X_find 5 [l0, l1, l2, l3, l4] [vI (gb (0 ≤ s1 ∧ s1 ≤ w32 (σ 29 9 - 1)))] σ Q := wp_callR (d := d + 1) (as := [vR 27, vI s1]) (rest := []) rfl rfl rfl rfl rfl rfl rfl (grecv_k (by rw [gK_27]) rfl) (sp_X_isPart)
theorem r_X_find_11 : Wp L (d + 2) k_X_find 11 [l0, l1, l2, l3, l4] [vI s2, vI s1, vI s0] σ Q ↔ Wp L (d + 2) k_X_find 14 [l0, l1, l2, l3, l4] [vI (gb (s1 ≤ s0 ∧ s0 ≤ s2))] σ Q := wp_callR (d := d + 1) (as := [vI s0, vI s1, vI s2]) (rest := []) rfl rfl rfl rfl rfl rfl rfl rfl (sp_X_within)
theorem r_X_find_45 : Wp L (d + 2) k_X_find 45 [l0, l1, l2, l3, l4] [vI s0] σ Q ↔ Wp L (d + 2) k_X_find 48 [l0, l1, l2, l3, l4] [vI (gb (s0 ≠ 0))] σ Q := wp_callR (d := d + 1) (as := [vI s0]) (rest := []) rfl rfl rfl rfl rfl rfl rfl rfl (sp_X_bit)
theorem sp_X_find_b (hp : w32 (σ 29 9 - 1) = σ 29 9 - 1) (h : ¬ ((0 ≤ a1 ∧ a1 ≤ σ 29 9 - 1) ∧ 0 ≤ a2 ∧ a2 ≤ 1)) : Run L (d + 2) 56 [vR 27, vI a1, vI a2] σ (some (vI (-1000000001))) σ := by
  refine Run_of (C' := k_X_find) rfl ?_
  show Wp L (d + 2) k_X_find 0 [vR 27, vI a1, vI a2, vU, vU] [] σ _
  simp only [r_X_find_0, r_X_find_1, r_X_find_2, r_X_find_5, r_X_find_8, r_X_find_9, r_X_find_10, r_X_find_11, r_X_find_14, r_X_find_17, r_X_find_19, r_X_find_20, r_X_find_21, r_X_find_24, r_X_find_27, r_X_find_28, r_X_find_29, r_X_find_30, r_X_find_31, r_X_find_34, r_X_find_35, r_X_find_38, r_X_find_40, r_X_find_41, r_X_find_42, r_X_find_45, r_X_find_48, r_X_find_50, r_X_find_51, r_X_find_52, r_X_find_53, r_X_find_56, r_X_find_57, r_X_find_60, r_X_find_61, r_X_find_64, r_X_find_66, gK_27, gK_28, gK_29, gq_27_0, gq_27_1, gK_293, gq_293_0, gK_294, gN_294, hp, Int.reduceLE, Int.reduceLT, Int.reduceEq, Int.reduceToNat, gb_01, eq_self, true_or, or_true, and_true, true_and, and_self, if_true, if_false, not_true_eq_false, not_false_eq_true, ne_eq, gb_ne0, gb_eq0]
  repeat' split
  all_goals first | trivial | omega
theorem sp_X_find_k (hp : w32 (σ 29 9 - 1) = σ 29 9 - 1) (hq : σ 29 9 ≤ 40) (h : 0 ≤ a1 ∧ a1 ≤ σ 29 9 - 1) (h2 : 0 ≤ a2 ∧ a2 ≤ 1) (hc : ¬ σ (38 + a1.toNat) 0 = 4) : Run L (d + 2) 56 [vR 27, vI a1, vI a2] σ (some (vI (-1000000012))) σ := by
  obtain ⟨q1, q2⟩ := gq33 (show a1.toNat < 40 by omega)
  have h3 : a1 < 40 := by omega
  refine Run_of (C' := k_X_find) rfl ?_
  show Wp L (d + 2) k_X_find 0 [vR 27, vI a1, vI a2, vU, vU] [] σ _
  simp only [r_X_find_0, r_X_find_1, r_X_find_2, r_X_find_5, r_X_find_8, r_X_find_9, r_X_find_10, r_X_find_11, r_X_find_14, r_X_find_17, r_X_find_19, r_X_find_20, r_X_find_21, r_X_find_24, r_X_find_27, r_X_find_28, r_X_find_29, r_X_find_30, r_X_find_31, r_X_find_34, r_X_find_35, r_X_find_38, r_X_find_40, r_X_find_41, r_X_find_42, r_X_find_45, r_X_find_48, r_X_find_50, r_X_find_51, r_X_find_52, r_X_find_53, r_X_find_56, r_X_find_57, r_X_find_60, r_X_find_61, r_X_find_64, r_X_find_66, gK_27, gK_28, gK_29, gq_27_0, gq_27_1, gK_293, gq_293_0, gK_294, gN_294, gq_29_3, gK_33, gN_33, hp, h, h2, h3, q1, q2, hc, Int.reduceLE, Int.reduceLT, Int.reduceEq, Int.reduceToNat, gb_01, eq_self, true_or, or_true, and_true, true_and, and_self, if_true, if_false, not_true_eq_false, not_false_eq_true, ne_eq, gb_ne0, gb_eq0]
theorem sp_X_find_0 (hp : w32 (σ 29 9 - 1) = σ 29 9 - 1) (hq : σ 29 9 ≤ 40) (h : 0 ≤ a1 ∧ a1 ≤ σ 29 9 - 1) (hc : σ (38 + a1.toNat) 0 = 4) : Run L (d + 2) 56 [vR 27, vI a1, vI 0] σ (some (vI (gb (σ (38 + a1.toNat) 11 ≠ 0)))) (gupd σ (38 + a1.toNat) 11 0) := by
  obtain ⟨q1, q2⟩ := gq33 (show a1.toNat < 40 by omega)
  have h3 : a1 < 40 := by omega
  refine Run_of (C' := k_X_find) rfl ?_
  show Wp L (d + 2) k_X_find 0 [vR 27, vI a1, vI 0, vU, vU] [] σ _
  simp only [r_X_find_0, r_X_find_1, r_X_find_2, r_X_find_5, r_X_find_8, r_X_find_9, r_X_find_10, r_X_find_11, r_X_find_14, r_X_find_17, r_X_find_19, r_X_find_20, r_X_find_21, r_X_find_24, r_X_find_27, r_X_find_28, r_X_find_29, r_X_find_30, r_X_find_31, r_X_find_34, r_X_find_35, r_X_find_38, r_X_find_40, r_X_find_41, r_X_find_42, r_X_find_45, r_X_find_48, r_X_find_50, r_X_find_51, r_X_find_52, r_X_find_53, r_X_find_56, r_X_find_57, r_X_find_60, r_X_find_61, r_X_find_64, r_X_find_66, gK_27, gK_28, gK_29, gq_27_0, gq_27_1, gK_293, gq_293_0, gK_294, gN_294, gq_29_3, gK_33, gN_33, hp, h, h3, q1, q2, hc, Int.reduceLE, Int.reduceLT, Int.reduceEq, Int.reduceToNat, gb_01, eq_self, true_or, or_true, and_true, true_and, and_self, if_true, if_false, not_true_eq_false, not_false_eq_true, ne_eq, gb_ne0, gb_eq0]
theorem sp_X_find_1 (hp : w32 (σ 29 9 - 1) = σ 29 9 - 1) (hq : σ 29 9 ≤ 40) (h : 0 ≤ a1 ∧ a1 ≤ σ 29 9 - 1) (hc : σ (38 + a1.toNat) 0 = 4) : Run L (d + 2) 56 [vR 27, vI a1, vI 1] σ (some (vI (gb (σ (38 + a1.toNat) 11 ≠ 0)))) (gupd σ (38 + a1.toNat) 11 1) := by
  obtain ⟨q1, q2⟩ := gq33 (show a1.toNat < 40 by omega)
  have h3 : a1 < 40 := by omega
  refine Run_of (C' := k_X_find) rfl ?_
  show Wp L (d + 2) k_X_find 0 [vR 27, vI a1, vI 1, vU, vU] [] σ _
  simp only [r_X_find_0, r_X_find_1, r_X_find_2, r_X_find_5, r_X_find_8, r_X_find_9, r_X_find_10, r_X_find_11, r_X_find_14, r_X_find_17, r_X_find_19, r_X_find_20, r_X_find_21, r_X_find_24, r_X_find_27, r_X_find_28, r_X_find_29, r_X_find_30, r_X_find_31, r_X_find_34, r_X_find_35, r_X_find_38, r_X_find_40, r_X_find_41, r_X_find_42, r_X_find_45, r_X_find_48, r_X_find_50, r_X_find_51, r_X_find_52, r_X_find_53, r_X_find_56, r_X_find_57, r_X_find_60, r_X_find_61, r_X_find_64, r_X_find_66, gK_27, gK_28, gK_29, gq_27_0, gq_27_1, gK_293, gq_293_0, gK_294, gN_294, gq_29_3, gK_33, gN_33, hp, h, h3, q1, q2, hc, Int.reduceLE, Int.reduceLT, Int.reduceEq, Int.reduceToNat, gb_01, eq_self, true_or, or_true, and_true, true_and, and_self, if_true, if_false, not_true_eq_false, not_false_eq_true, ne_eq, gb_ne0, gb_eq0]
theorem r_M_find_0 : Wp L d k_M_find 0 [vR b0, l1, l2] [] σ Q ↔ Wp L d k_M_find 1 [vR b0, l1, l2] [vR b0] σ Q := wp_aload rfl rfl
theorem r_M_find_1 : Wp L d k_M_find 1 [l0, vI a1, l2] [vR c0] σ Q ↔ Wp L d k_M_find 2 [l0, vI a1, l2] [vI a1, vR c0] σ Q := wp_iload rfl rfl
theorem r_M_find_5 : Wp L d k_M_find 5 [l0, l1, l2] [vI s0] σ Q ↔ (if s0 = 0 then Wp L d k_M_find 18 [l0, l1, l2] [] σ Q else Wp L d k_M_find 8 [l0, l1, l2] [] σ Q) := wp_if_eq rfl
theorem r_M_find_8 : Wp L d k_M_find 8 [l0, l1, vI a2] [] σ Q ↔ Wp L d k_M_find 9 [l0, l1, vI a2] [vI a2] σ Q := wp_iload rfl rfl
theorem r_M_find_9 : Wp L d k_M_find 9 [l0, l1, l2] [vI s0] σ Q ↔ Wp L d k_M_find 10 [l0, l1, l2] [vL s0] σ Q := wp_i2l rfl
theorem r_M_find_10 : Wp L d k_M_find 10 [l0, l1, l2] [vL s0] σ Q ↔ Wp L d k_M_find 11 [l0, l1, l2] [vL 0, vL s0] σ Q := wp_pushL rfl
theorem r_M_find_11 : Wp L d k_M_find 11 [l0, l1, l2] [vL s1, vL s0] σ Q ↔ Wp L d k_M_find 12 [l0, l1, l2] [vL 1, vL s1, vL s0] σ Q := wp_pushL rfl
theorem r_M_find_15 : Wp L d k_M_find 15 [l0, l1, l2] [vI s0] σ Q ↔ (if s0 ≠ 0 then Wp L d k_M_find 21 [l0, l1, l2] [] σ Q else Wp L d k_M_find 18 [l0, l1, l2] [] σ Q) := wp_if_ne rfl
theorem r_M_find_18 : Wp L d k_M_find 18 [l0, l1, l2] [] σ Q ↔ Wp L d k_M_find 20 [l0, l1, l2] [vI (-1000000001)] σ Q := wp_push rfl
theorem r_M_find_20 : Wp L d k_M_find 20 [l0, l1, l2] [vI s0] σ Q ↔ Q (some (vI s0)) σ := wp_iret rfl
theorem r_M_find_21 : Wp L d k_M_find 21 [vR b0, l1, l2] [] σ Q ↔ Wp L d k_M_find 22 [vR b0, l1, l2] [vR b0] σ Q := wp_aload rfl rfl
theorem r_M_find_22 : Wp L d k_M_find 22 [l0, vI a1, l2] [vR c0] σ Q ↔ Wp L d k_M_find 23 [l0, vI a1, l2] [vI a1, vR c0] σ Q := wp_iload rfl rfl
theorem r_M_find_26 : Wp L d k_M_find 26 [l0, l1, l2] [vI s0] σ Q ↔ Wp L d k_M_find 27 [l0, l1, l2] [vI 4, vI s0] σ Q := wp_push rfl
theorem r_M_find_27 : Wp L d k_M_find 27 [l0, l1, l2] [vI s1, vI s0] σ Q ↔ (if s0 ≠ s1 then Wp L d k_M_find 46 [l0, l1, l2] [] σ Q else Wp L d k_M_find 30 [l0, l1, l2] [] σ Q) := wp_cmp_ne rfl
theorem r_M_find_30 : Wp L d k_M_find 30 [vR b0, l1, l2] [] σ Q ↔ Wp L d k_M_find 31 [vR b0, l1, l2] [vR b0] σ Q := wp_aload rfl rfl
theorem r_M_find_31 : Wp L d k_M_find 31 [vR b0, l1, l2] [vR c0] σ Q ↔ Wp L d k_M_find 32 [vR b0, l1, l2] [vR b0, vR c0] σ Q := wp_aload rfl rfl
theorem r_M_find_32 : Wp L d k_M_find 32 [l0, vI a1, l2] [vR c1, vR c0] σ Q ↔ Wp L d k_M_find 33 [l0, vI a1, l2] [vI a1, vR c1, vR c0] σ Q := wp_iload rfl rfl
theorem r_M_find_36 : Wp L d k_M_find 36 [l0, l1, l2] [vI s1, vR c0] σ Q ↔ Wp L d k_M_find 38 [l0, l1, l2] [vI 11, vI s1, vR c0] σ Q := wp_push rfl
theorem r_M_find_38 : Wp L d k_M_find 38 [l0, l1, l2] [vI s2, vI s1, vR c0] σ Q ↔ Wp L d k_M_find 39 [l0, l1, l2] [vI (w32 (s1 + s2)), vR c0] σ Q := wp_iadd rfl
theorem r_M_find_39 : Wp L d k_M_find 39 [l0, l1, vI a2] [vI s1, vR c0] σ Q ↔ Wp L d k_M_find 40 [l0, l1, vI a2] [vI a2, vI s1, vR c0] σ Q := wp_iload rfl rfl
theorem r_M_find_43 : Wp L d k_M_find 43 [l0, l1, l2] [vI s0] σ Q ↔ Wp L d k_M_find 48 [l0, l1, l2] [vI s0] σ Q := wp_goto rfl
theorem r_M_find_46 : Wp L d k_M_find 46 [l0, l1, l2] [] σ Q ↔ Wp L d k_M_find 48 [l0, l1, l2] [vI (-1000000012)] σ Q := wp_push rfl
theorem r_M_find_48 : Wp L d k_M_find 48 [l0, l1, l2] [vI s0] σ Q ↔ Q (some (vI s0)) σ := wp_iret rfl
theorem r_M_find_2 : Wp L (d + 2) k_M_find 2 [l0, l1, l2] [vI s1, vR 293] σ Q ↔ Wp L (d + 2) k_M_find 5 [l0, l1, l2] [vI (gb (0 ≤ s1 ∧ s1 ≤ w32 (σ 294 1 - 1)))] σ Q := wp_callR (d := d + 1) (as := [vR 293, vI s1]) (rest := []) rfl rfl rfl rfl rfl rfl rfl (grecv_k (by rw [gK_293]) rfl) (sp_M_isPart)
theorem r_M_find_12 : Wp L (d + 2) k_M_find 12 [l0, l1, l2] [vL s2, vL s1, vL s0] σ Q ↔ Wp L (d + 2) k_M_find 15 [l0, l1, l2] [vI (gb (s1 ≤ s0 ∧ s0 ≤ s2))] σ Q := wp_callR (d := d + 1) (as := [vL s0, vL s1, vL s2]) (rest := []) rfl rfl rfl rfl rfl rfl rfl rfl (sp_M_isIn)
theorem r_M_find_23 (h : 0 ≤ s1 ∧ s1 ≤ 40) : Wp L (d + 2) k_M_find 23 [l0, l1, l2] [vI s1, vR 293] σ Q ↔ Wp L (d + 2) k_M_find 26 [l0, l1, l2] [vI (σ 294 (120 + 12 * s1).toNat)] σ Q := wp_callR (d := d + 1) (as := [vR 293, vI s1]) (rest := []) rfl rfl rfl rfl rfl rfl rfl (grecv_k (by rw [gK_293]) rfl) (sp_M_kindOf h)
theorem r_M_find_33 : Wp L (d + 2) k_M_find 33 [l0, l1, l2] [vI s2, vR 293, vR c0] σ Q ↔ Wp L (d + 2) k_M_find 36 [l0, l1, l2] [vI (w32 (120 + w32 (12 * s2))), vR c0] σ Q := wp_callR (d := d + 1) (as := [vR 293, vI s2]) (rest := [vR c0]) rfl rfl rfl rfl rfl rfl rfl (grecv_k (by rw [gK_293]) rfl) (sp_M_partAt)
theorem r_M_find_40 (h : 0 ≤ s1 ∧ s1 < 3540) : Wp L (d + 2) k_M_find 40 [l0, l1, l2] [vI s2, vI s1, vR 293] σ Q ↔ Wp L (d + 2) k_M_find 43 [l0, l1, l2] [vI (σ 294 s1.toNat)] (gupd σ 294 s1.toNat s2) Q := wp_callR (d := d + 1) (as := [vR 293, vI s1, vI s2]) (rest := []) rfl rfl rfl rfl rfl rfl rfl (grecv_k (by rw [gK_293]) rfl) (sp_M_becomes h)
theorem sp_M_find_b (hp : w32 (σ 294 1 - 1) = σ 294 1 - 1) (h : ¬ ((0 ≤ a1 ∧ a1 ≤ σ 294 1 - 1) ∧ 0 ≤ a2 ∧ a2 ≤ 1)) : Run L (d + 2) 278 [vR 293, vI a1, vI a2] σ (some (vI (-1000000001))) σ := by
  refine Run_of (C' := k_M_find) rfl ?_
  show Wp L (d + 2) k_M_find 0 [vR 293, vI a1, vI a2] [] σ _
  simp only [r_M_find_0, r_M_find_1, r_M_find_2, r_M_find_5, r_M_find_8, r_M_find_9, r_M_find_10, r_M_find_11, r_M_find_12, r_M_find_15, r_M_find_18, r_M_find_20, r_M_find_21, r_M_find_22, r_M_find_23, r_M_find_26, r_M_find_27, r_M_find_30, r_M_find_31, r_M_find_32, r_M_find_33, r_M_find_36, r_M_find_38, r_M_find_39, r_M_find_40, r_M_find_43, r_M_find_46, r_M_find_48, gK_27, gK_28, gK_29, gq_27_0, gq_27_1, gK_293, gq_293_0, gK_294, gN_294, hp, Int.reduceLE, Int.reduceLT, Int.reduceEq, Int.reduceToNat, gb_01, eq_self, true_or, or_true, and_true, true_and, and_self, if_true, if_false, not_true_eq_false, not_false_eq_true, ne_eq, gb_ne0, gb_eq0]
  repeat' split
  all_goals first | trivial | omega
theorem sp_M_find_k (hp : w32 (σ 294 1 - 1) = σ 294 1 - 1) (hq : σ 294 1 ≤ 40) (h : 0 ≤ a1 ∧ a1 ≤ σ 294 1 - 1) (h2 : 0 ≤ a2 ∧ a2 ≤ 1) (hc : ¬ σ 294 (120 + 12 * a1).toNat = 4) : Run L (d + 2) 278 [vR 293, vI a1, vI a2] σ (some (vI (-1000000012))) σ := by
  have w0 : w32 (12 * a1) = 12 * a1 := w32_id (by unfold gr32; omega)
  have w1 : w32 (120 + 12 * a1) = 120 + 12 * a1 := w32_id (by unfold gr32; omega)
  have w2 : w32 (120 + 12 * a1 + 11) = 120 + 12 * a1 + 11 := w32_id (by unfold gr32; omega)
  have h5 : 0 ≤ 120 + 12 * a1 + 11 := by omega
  have h6 : 120 + 12 * a1 + 11 < 3540 := by omega
  have h7 : a1 ≤ 40 := by omega
  refine Run_of (C' := k_M_find) rfl ?_
  show Wp L (d + 2) k_M_find 0 [vR 293, vI a1, vI a2] [] σ _
  simp only [r_M_find_0, r_M_find_1, r_M_find_2, r_M_find_5, r_M_find_8, r_M_find_9, r_M_find_10, r_M_find_11, r_M_find_12, r_M_find_15, r_M_find_18, r_M_find_20, r_M_find_21, r_M_find_22, r_M_find_23, r_M_find_26, r_M_find_27, r_M_find_30, r_M_find_31, r_M_find_32, r_M_find_33, r_M_find_36, r_M_find_38, r_M_find_39, r_M_find_40, r_M_find_43, r_M_find_46, r_M_find_48, gK_27, gK_28, gK_29, gq_27_0, gq_27_1, gK_293, gq_293_0, gK_294, gN_294, hp, h, h.1, h2, h5, h6, h7, hc, w0, w1, w2, Int.reduceLE, Int.reduceLT, Int.reduceEq, Int.reduceToNat, gb_01, eq_self, true_or, or_true, and_true, true_and, and_self, if_true, if_false, not_true_eq_false, not_false_eq_true, ne_eq, gb_ne0, gb_eq0]
theorem sp_M_find (hp : w32 (σ 294 1 - 1) = σ 294 1 - 1) (hq : σ 294 1 ≤ 40) (h : 0 ≤ a1 ∧ a1 ≤ σ 294 1 - 1) (h2 : 0 ≤ a2 ∧ a2 ≤ 1) (hc : σ 294 (120 + 12 * a1).toNat = 4) : Run L (d + 2) 278 [vR 293, vI a1, vI a2] σ (some (vI (σ 294 (120 + 12 * a1 + 11).toNat))) (gupd σ 294 (120 + 12 * a1 + 11).toNat a2) := by
  have w0 : w32 (12 * a1) = 12 * a1 := w32_id (by unfold gr32; omega)
  have w1 : w32 (120 + 12 * a1) = 120 + 12 * a1 := w32_id (by unfold gr32; omega)
  have w2 : w32 (120 + 12 * a1 + 11) = 120 + 12 * a1 + 11 := w32_id (by unfold gr32; omega)
  have h5 : 0 ≤ 120 + 12 * a1 + 11 := by omega
  have h6 : 120 + 12 * a1 + 11 < 3540 := by omega
  have h7 : a1 ≤ 40 := by omega
  refine Run_of (C' := k_M_find) rfl ?_
  show Wp L (d + 2) k_M_find 0 [vR 293, vI a1, vI a2] [] σ _
  simp only [r_M_find_0, r_M_find_1, r_M_find_2, r_M_find_5, r_M_find_8, r_M_find_9, r_M_find_10, r_M_find_11, r_M_find_12, r_M_find_15, r_M_find_18, r_M_find_20, r_M_find_21, r_M_find_22, r_M_find_23, r_M_find_26, r_M_find_27, r_M_find_30, r_M_find_31, r_M_find_32, r_M_find_33, r_M_find_36, r_M_find_38, r_M_find_39, r_M_find_40, r_M_find_43, r_M_find_46, r_M_find_48, gK_27, gK_28, gK_29, gq_27_0, gq_27_1, gK_293, gq_293_0, gK_294, gN_294, hp, h, h.1, h2, h5, h6, h7, hc, w0, w1, w2, Int.reduceLE, Int.reduceLT, Int.reduceEq, Int.reduceToNat, gb_01, eq_self, true_or, or_true, and_true, true_and, and_self, if_true, if_false, not_true_eq_false, not_false_eq_true, ne_eq, gb_ne0, gb_eq0]
theorem op_find (a1 a2 : Int) : Op 56 278 [vI a1, vI a2] := by
  intro L d σ hI
  obtain ⟨⟨w1, w2, w3, w4, w5, w6, w7, w8⟩, c1, c2, c3, c4, c5, c6, c7, c8⟩ := iB hI
  have hp : w32 (σ 29 9 - 1) = σ 29 9 - 1 := w32_id (by unfold gr32; omega)
  have hm : w32 (σ 294 1 - 1) = σ 294 1 - 1 := w32_id (by unfold gr32; omega)
  
  by_cases h : (0 ≤ a1 ∧ a1 ≤ σ 29 9 - 1) ∧ 0 ≤ a2 ∧ a2 ≤ 1
  · obtain ⟨h, h2⟩ := h
    have q := c4 a1.toNat (by omega)
    have v := w4 a1.toNat (by omega)
    have e0 : σ (38 + a1.toNat) 0 = σ 294 (120 + 12 * a1).toNat := by
      rw [show (120 + 12 * a1).toNat = 120 + 12 * a1.toNat + 0 by omega]
      exact q.1
    by_cases hc : σ (38 + a1.toNat) 0 = 4
    · have z : a2 = 0 ∨ a2 = 1 := by omega
      rcases z with rfl | rfl
      · refine ⟨_, _, _, sp_X_find_0 hp (by omega) h hc, Run_r (sp_M_find (by rw [gupd_ne (by omega)]; exact hm) (by rw [gupd_ne (by omega)]; omega) (by rw [gupd_ne (by omega)]; omega) h2 (by rw [gupd_ne (by omega), ← e0]; exact hc)) ?_, ?_⟩
        · rw [gupd_ne (by omega), show (120 + 12 * a1 + 11).toNat = 120 + 12 * a1.toNat + 11 by omega]
          exact (gtd_in (a := 11) (by omega) v q).symm
        rw [show (120 + 12 * a1 + 11).toNat = 120 + 12 * a1.toNat + 11 by omega]
        refine Inv_mk (P := fun k j => k = 38 + a1.toNat ∨ (k = 294 ∧ j = 120 + 12 * a1.toNat + 11)) hI (Agr_upd (Agr_upd (Agr_refl _ _) (by omega)) (by omega)) (Or.inr ?_) (Or.inl (fun k j hz hp => by unfold ZT at hz; omega)) (Or.inl (fun k j hz hp => by unfold ZG at hz; omega)) (Or.inl (fun k j hz hp => by unfold ZS at hz; omega)) (Or.inl (fun k j hz hp => by unfold ZW at hz; omega)) (Or.inl (fun k j hz hp => by unfold ZP at hz; omega)) (Or.inl (fun k j hz hp => by unfold ZR ZK at hz; omega)) (Or.inl (fun k j hz hp => by unfold ZM at hz; omega)) (Or.inl (fun k j hz hp => by unfold ZTape at hz; omega)) (Or.inl (fun k j hz hp => by unfold ZTest at hz; omega)) (Or.inl (fun k j hz hp => by unfold ZWait at hz; omega)) (Or.inl (fun k j hz hp => by unfold ZImg at hz; omega))
        refine B_mk (P := fun k j => k = 38 + a1.toNat ∨ (k = 294 ∧ j = 120 + 12 * a1.toNat + 11)) hI (Agr_upd (Agr_upd (Agr_refl _ _) (by omega)) (by omega)) (fun k j hz hp => by unfold ZC at hz; omega) (Or.inl (fun k j hz hp => by unfold ZSp at hz; omega)) (Or.inr ?_) (Or.inl (fun k j hz hp => by unfold ZTr at hz; omega))
        exact part_one hI a1.toNat (by omega) (Agr_upd (Agr_upd (Agr_refl _ _) (by omega)) (by omega)) (find_new v q ⟨by rw [← q.1]; exact hc, by omega⟩ (by omega))
      · refine ⟨_, _, _, sp_X_find_1 hp (by omega) h hc, Run_r (sp_M_find (by rw [gupd_ne (by omega)]; exact hm) (by rw [gupd_ne (by omega)]; omega) (by rw [gupd_ne (by omega)]; omega) h2 (by rw [gupd_ne (by omega), ← e0]; exact hc)) ?_, ?_⟩
        · rw [gupd_ne (by omega), show (120 + 12 * a1 + 11).toNat = 120 + 12 * a1.toNat + 11 by omega]
          exact (gtd_in (a := 11) (by omega) v q).symm
        rw [show (120 + 12 * a1 + 11).toNat = 120 + 12 * a1.toNat + 11 by omega]
        refine Inv_mk (P := fun k j => k = 38 + a1.toNat ∨ (k = 294 ∧ j = 120 + 12 * a1.toNat + 11)) hI (Agr_upd (Agr_upd (Agr_refl _ _) (by omega)) (by omega)) (Or.inr ?_) (Or.inl (fun k j hz hp => by unfold ZT at hz; omega)) (Or.inl (fun k j hz hp => by unfold ZG at hz; omega)) (Or.inl (fun k j hz hp => by unfold ZS at hz; omega)) (Or.inl (fun k j hz hp => by unfold ZW at hz; omega)) (Or.inl (fun k j hz hp => by unfold ZP at hz; omega)) (Or.inl (fun k j hz hp => by unfold ZR ZK at hz; omega)) (Or.inl (fun k j hz hp => by unfold ZM at hz; omega)) (Or.inl (fun k j hz hp => by unfold ZTape at hz; omega)) (Or.inl (fun k j hz hp => by unfold ZTest at hz; omega)) (Or.inl (fun k j hz hp => by unfold ZWait at hz; omega)) (Or.inl (fun k j hz hp => by unfold ZImg at hz; omega))
        refine B_mk (P := fun k j => k = 38 + a1.toNat ∨ (k = 294 ∧ j = 120 + 12 * a1.toNat + 11)) hI (Agr_upd (Agr_upd (Agr_refl _ _) (by omega)) (by omega)) (fun k j hz hp => by unfold ZC at hz; omega) (Or.inl (fun k j hz hp => by unfold ZSp at hz; omega)) (Or.inr ?_) (Or.inl (fun k j hz hp => by unfold ZTr at hz; omega))
        exact part_one hI a1.toNat (by omega) (Agr_upd (Agr_upd (Agr_refl _ _) (by omega)) (by omega)) (find_new v q ⟨by rw [← q.1]; exact hc, by omega⟩ (by omega))
    · exact ⟨_, _, _, sp_X_find_k hp (by omega) h h2 hc, sp_M_find_k hm (by omega) (by omega) h2 (by rw [← e0]; exact hc), hI⟩
  · exact ⟨_, _, _, sp_X_find_b hp (by omega), sp_M_find_b hm (by omega), hI⟩
