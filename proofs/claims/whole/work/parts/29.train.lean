/-! The bridge's piece; the train. -/
variable {L d : Nat} {σ σ1 : Nat → Nat → Int} {Q : Option gV → (Nat → Nat → Int) → Prop} {a0 a1 a2 a3 a4 a5 a6 a7 a8 a9 a10 a11 s0 s1 s2 s3 s4 s5 s6 s7 s8 s9 : Int} {l0 l1 l2 l3 l4 l5 l6 l7 l8 l9 l10 l11 t0 t1 t2 t3 t4 t5 t6 t7 t8 t9 : gV} {b0 b1 b2 b3 b4 b5 b6 b7 b8 b9 b10 b11 c0 c1 c2 c3 c4 c5 c6 c7 c8 c9 : Nat} {r : Option gV}
def WSp (f : Nat → Int) (k : Nat) : Prop := (0 ≤ f (20 + 3 * k) ∧ f (20 + 3 * k) ≤ 99) ∧ (0 ≤ f (20 + 3 * k + 1) ∧ f (20 + 3 * k + 1) ≤ 99) ∧ (f (20 + 3 * k + 2) = 0 ∨ f (20 + 3 * k + 2) = 1)
def CSp (f : Nat → Int) (σ : gMm) (k : Nat) : Prop := σ 30 k = f (20 + 3 * k) ∧ σ 31 k = f (20 + 3 * k + 1) ∧ σ 32 k = f (20 + 3 * k + 2)
def ZC (k j : Nat) : Prop := (k = 29 ∧ (j = 8 ∨ j = 9)) ∨ (k = 294 ∧ j ≤ 1)
def ZSp (k j : Nat) : Prop := (30 ≤ k ∧ k ≤ 32) ∨ (k = 294 ∧ 20 ≤ j ∧ j ≤ 55)
def ZPt (k j : Nat) : Prop := (38 ≤ k ∧ k ≤ 77) ∨ (k = 294 ∧ 120 ≤ j ∧ j ≤ 599)
def ZTr (k j : Nat) : Prop := (k = 29 ∧ 10 ≤ j ∧ j ≤ 13) ∨ (k = 294 ∧ 9 ≤ j ∧ j ≤ 12)
theorem B_mk {σ σ' : gMm} {P : Nat → Nat → Prop} (hI : Inv σ) (hA : Agr σ σ' P) (hC : ∀ k j, ZC k j → ¬ P k j)
  (hS : (∀ k j, ZSp k j → ¬ P k j) ∨ ∀ k : Nat, (k : Int) < σ 294 0 → WSp (σ' 294) k ∧ CSp (σ' 294) σ' k)
  (hP : (∀ k j, ZPt k j → ¬ P k j) ∨ ∀ p : Nat, (p : Int) < σ 294 1 → WPart (gpt (σ' 294) p) (σ 294 0) ∧ CPart (σ' (38 + p)) (gpt (σ' 294) p))
  (hT : (∀ k j, ZTr k j → ¬ P k j) ∨ ((0 ≤ σ' 294 9 ∧ σ' 294 9 ≤ 99) ∧ (0 ≤ σ' 294 10 ∧ σ' 294 10 ≤ 99) ∧ (σ' 294 11 = -1 ∨ 0 ≤ σ' 294 11 ∧ σ' 294 11 < σ 294 0) ∧ (σ' 294 12 = 0 ∨ σ' 294 12 = 1)) ∧ σ' 29 10 = σ' 294 9 ∧ σ' 29 11 = σ' 294 10 ∧ CNone (σ' 29 12) (σ' 294 11) ∧ σ' 29 13 = σ' 294 12) : WB (σ' 294) ∧ CB 29 (σ' 294) σ' := by
  obtain ⟨⟨w1, w2, w3, w4, w5, w6, w7, w8⟩, c1, c2, c3, c4, c5, c6, c7, c8⟩ := iB hI
  have e0 := hA 294 0 (hC _ _ (by unfold ZC; omega))
  have e1 := hA 294 1 (hC _ _ (by unfold ZC; omega))
  have e8 := hA 29 8 (hC _ _ (by unfold ZC; omega))
  have e9 := hA 29 9 (hC _ _ (by unfold ZC; omega))
  have s : ∀ k : Nat, (k : Int) < σ 294 0 → WSp (σ' 294) k ∧ CSp (σ' 294) σ' k := hS.elim (fun h k hk => by
    unfold ZSp at h
    unfold WSp CSp
    rw [hA 294 (20 + 3 * k) (h _ _ (by omega)), hA 294 (20 + 3 * k + 1) (h _ _ (by omega)), hA 294 (20 + 3 * k + 2) (h _ _ (by omega)), hA 30 k (h _ _ (by omega)), hA 31 k (h _ _ (by omega)), hA 32 k (h _ _ (by omega))]
    exact ⟨w3 k hk, c3 k hk⟩) id
  have p : ∀ p : Nat, (p : Int) < σ 294 1 → WPart (gpt (σ' 294) p) (σ 294 0) ∧ CPart (σ' (38 + p)) (gpt (σ' 294) p) := hP.elim (fun h p hp => by
    unfold ZPt at h
    exact ⟨WPart_congr (fun j hj => hA 294 _ (h _ _ (by omega))) (w4 p hp), CPart_congr (fun j hj => hA _ _ (h _ _ (by omega))) (fun j hj => hA 294 _ (h _ _ (by omega))) (c4 p hp)⟩) id
  have t : ((0 ≤ σ' 294 9 ∧ σ' 294 9 ≤ 99) ∧ (0 ≤ σ' 294 10 ∧ σ' 294 10 ≤ 99) ∧ (σ' 294 11 = -1 ∨ 0 ≤ σ' 294 11 ∧ σ' 294 11 < σ 294 0) ∧ (σ' 294 12 = 0 ∨ σ' 294 12 = 1)) ∧ σ' 29 10 = σ' 294 9 ∧ σ' 29 11 = σ' 294 10 ∧ CNone (σ' 29 12) (σ' 294 11) ∧ σ' 29 13 = σ' 294 12 := hT.elim (fun h => by
    unfold ZTr at h
    rw [hA 294 9 (h _ _ (by omega)), hA 294 10 (h _ _ (by omega)), hA 294 11 (h _ _ (by omega)), hA 294 12 (h _ _ (by omega)), hA 29 10 (h _ _ (by omega)), hA 29 11 (h _ _ (by omega)), hA 29 12 (h _ _ (by omega)), hA 29 13 (h _ _ (by omega))]
    exact ⟨⟨w5, w6, w7, w8⟩, c5, c6, c7, c8⟩) id
  refine ⟨⟨by rw [e0]; exact w1, by rw [e1]; exact w2, fun k hk => (s k (by rw [e0] at hk; exact hk)).1, fun q hq => ?_, t.1.1, t.1.2.1, by rw [e0]; exact t.1.2.2.1, t.1.2.2.2⟩, by rw [e8, e0]; exact c1, by rw [e9, e1]; exact c2, fun k hk => (s k (by rw [e0] at hk; exact hk)).2, fun q hq => (p q (by rw [e1] at hq; exact hq)).2, t.2.1, t.2.2.1, t.2.2.2.1, t.2.2.2.2⟩
  rw [e0]
  exact (p q (by rw [e1] at hq; exact hq)).1
theorem r_B_placeTrain_0 : Wp L d k_B_placeTrain 0 [vR b0, l1, l2] [] σ Q ↔ Wp L d k_B_placeTrain 1 [vR b0, l1, l2] [vR b0] σ Q := wp_aload rfl rfl
theorem r_B_placeTrain_1 (h : gK c0 = 1) : Wp L d k_B_placeTrain 1 [l0, l1, l2] [vR c0] σ Q ↔ Wp L d k_B_placeTrain 4 [l0, l1, l2] [vI (σ c0 12)] σ Q := wp_getI (c := 268) rfl rfl rfl rfl h
theorem r_B_placeTrain_4 : Wp L d k_B_placeTrain 4 [l0, vI a1, l2] [vI s0] σ Q ↔ Wp L d k_B_placeTrain 5 [l0, vI a1, vI s0] [] σ Q := wp_istore (i := 2) (ls := [l0, vI a1, l2]) rfl rfl
theorem r_B_placeTrain_5 : Wp L d k_B_placeTrain 5 [vR b0, l1, l2] [] σ Q ↔ Wp L d k_B_placeTrain 6 [vR b0, l1, l2] [vR b0] σ Q := wp_aload rfl rfl
theorem r_B_placeTrain_6 : Wp L d k_B_placeTrain 6 [l0, vI a1, l2] [vR c0] σ Q ↔ Wp L d k_B_placeTrain 7 [l0, vI a1, l2] [vI a1, vR c0] σ Q := wp_iload rfl rfl
theorem r_B_placeTrain_7 (h : gK c0 = 1) : Wp L d k_B_placeTrain 7 [l0, l1, l2] [vI s1, vR c0] σ Q ↔ Wp L d k_B_placeTrain 10 [l0, l1, l2] [] (gupd σ c0 12 s1) Q := wp_putI (c := 268) rfl rfl rfl rfl h
theorem r_B_placeTrain_10 : Wp L d k_B_placeTrain 10 [vR b0, l1, l2] [] σ Q ↔ Wp L d k_B_placeTrain 11 [vR b0, l1, l2] [vR b0] σ Q := wp_aload rfl rfl
theorem r_B_placeTrain_11 : Wp L d k_B_placeTrain 11 [l0, l1, l2] [vR c0] σ Q ↔ Wp L d k_B_placeTrain 12 [l0, l1, l2] [vI 0, vR c0] σ Q := wp_push rfl
theorem r_B_placeTrain_12 (h : gK c0 = 1) (hx : s1 = 0 ∨ s1 = 1) : Wp L d k_B_placeTrain 12 [l0, l1, l2] [vI s1, vR c0] σ Q ↔ Wp L d k_B_placeTrain 15 [l0, l1, l2] [] (gupd σ c0 13 s1) Q := wp_putZ (c := 333) rfl rfl rfl rfl h hx
theorem r_B_placeTrain_15 : Wp L d k_B_placeTrain 15 [l0, l1, vI a2] [] σ Q ↔ Wp L d k_B_placeTrain 16 [l0, l1, vI a2] [vI a2] σ Q := wp_iload rfl rfl
theorem r_B_placeTrain_16 : Wp L d k_B_placeTrain 16 [l0, l1, l2] [vI s0] σ Q ↔ Q (some (vI s0)) σ := wp_iret rfl
theorem sp_B_placeTrain : Run L d 91 [vR 29, vI a1] σ (some (vI (σ 29 12))) (gupd (gupd σ 29 12 a1) 29 13 0) := by
  refine Run_of (C' := k_B_placeTrain) rfl ?_
  show Wp L d k_B_placeTrain 0 [vR 29, vI a1, vU] [] σ _
  simp only [r_B_placeTrain_0, r_B_placeTrain_1, r_B_placeTrain_4, r_B_placeTrain_5, r_B_placeTrain_6, r_B_placeTrain_7, r_B_placeTrain_10, r_B_placeTrain_11, r_B_placeTrain_12, r_B_placeTrain_15, r_B_placeTrain_16, gK_27, gK_28, gK_29, gq_27_0, gq_27_1, gK_293, gq_293_0, gK_294, gN_294, Int.reduceLE, Int.reduceLT, Int.reduceEq, Int.reduceToNat, gb_01, eq_self, true_or, or_true, and_true, true_and, and_self, if_true, if_false, not_true_eq_false, not_false_eq_true, ne_eq, gb_ne0, gb_eq0]
theorem r_X_train_0 : Wp L d k_X_train 0 [l0, vI a1] [] σ Q ↔ Wp L d k_X_train 1 [l0, vI a1] [vI a1] σ Q := wp_iload rfl rfl
theorem r_X_train_1 : Wp L d k_X_train 1 [l0, l1] [vI s0] σ Q ↔ Wp L d k_X_train 3 [l0, l1] [vI (-1000000005), vI s0] σ Q := wp_push rfl
theorem r_X_train_3 : Wp L d k_X_train 3 [l0, l1] [vI s1, vI s0] σ Q ↔ (if s0 ≠ s1 then Wp L d k_X_train 16 [l0, l1] [] σ Q else Wp L d k_X_train 6 [l0, l1] [] σ Q) := wp_cmp_ne rfl
theorem r_X_train_6 : Wp L d k_X_train 6 [vR b0, l1] [] σ Q ↔ Wp L d k_X_train 7 [vR b0, l1] [vR b0] σ Q := wp_aload rfl rfl
theorem r_X_train_7 (h : gK c0 = 0) : Wp L d k_X_train 7 [l0, l1] [vR c0] σ Q ↔ Wp L d k_X_train 10 [l0, l1] [vR (gq c0 1)] σ Q := wp_getR (c := 129) rfl rfl rfl rfl rfl h
theorem r_X_train_10 : Wp L d k_X_train 10 [l0, l1] [vR c0] σ Q ↔ Wp L d k_X_train 12 [l0, l1] [vI (-1000000005), vR c0] σ Q := wp_push rfl
theorem r_X_train_15 : Wp L d k_X_train 15 [l0, l1] [vI s0] σ Q ↔ Q (some (vI s0)) σ := wp_iret rfl
theorem r_X_train_16 : Wp L d k_X_train 16 [vR b0, l1] [] σ Q ↔ Wp L d k_X_train 17 [vR b0, l1] [vR b0] σ Q := wp_aload rfl rfl
theorem r_X_train_17 : Wp L d k_X_train 17 [l0, vI a1] [vR c0] σ Q ↔ Wp L d k_X_train 18 [l0, vI a1] [vI a1, vR c0] σ Q := wp_iload rfl rfl
theorem r_X_train_21 : Wp L d k_X_train 21 [l0, l1] [vI s0] σ Q ↔ (if s0 ≠ 0 then Wp L d k_X_train 27 [l0, l1] [] σ Q else Wp L d k_X_train 24 [l0, l1] [] σ Q) := wp_if_ne rfl
theorem r_X_train_24 : Wp L d k_X_train 24 [l0, l1] [] σ Q ↔ Wp L d k_X_train 26 [l0, l1] [vI (-1000000001)] σ Q := wp_push rfl
theorem r_X_train_26 : Wp L d k_X_train 26 [l0, l1] [vI s0] σ Q ↔ Q (some (vI s0)) σ := wp_iret rfl
theorem r_X_train_27 : Wp L d k_X_train 27 [vR b0, l1] [] σ Q ↔ Wp L d k_X_train 28 [vR b0, l1] [vR b0] σ Q := wp_aload rfl rfl
theorem r_X_train_28 (h : gK c0 = 0) : Wp L d k_X_train 28 [l0, l1] [vR c0] σ Q ↔ Wp L d k_X_train 31 [l0, l1] [vR (gq c0 1)] σ Q := wp_getR (c := 129) rfl rfl rfl rfl rfl h
theorem r_X_train_31 (h : gK c0 = 1) : Wp L d k_X_train 31 [l0, l1] [vR c0] σ Q ↔ Wp L d k_X_train 34 [l0, l1] [vR (gq c0 2)] σ Q := wp_getR (c := 386) rfl rfl rfl rfl rfl h
theorem r_X_train_34 : Wp L d k_X_train 34 [l0, vI a1] [vR c0] σ Q ↔ Wp L d k_X_train 35 [l0, vI a1] [vI a1, vR c0] σ Q := wp_iload rfl rfl
theorem r_X_train_35 (h : gK c0 = 101) (hx : 0 ≤ s1 ∧ s1 < gN c0) : Wp L d k_X_train 35 [l0, l1] [vI s1, vR c0] σ Q ↔ Wp L d k_X_train 36 [l0, l1] [vI (σ c0 s1.toNat)] σ Q := wp_bald rfl h hx
theorem r_X_train_36 : Wp L d k_X_train 36 [l0, l1] [vI s0] σ Q ↔ (if s0 = 0 then Wp L d k_X_train 44 [l0, l1] [] σ Q else Wp L d k_X_train 39 [l0, l1] [] σ Q) := wp_if_eq rfl
theorem r_X_train_39 : Wp L d k_X_train 39 [l0, l1] [] σ Q ↔ Wp L d k_X_train 41 [l0, l1] [vI (-1000000002)] σ Q := wp_push rfl
theorem r_X_train_41 : Wp L d k_X_train 41 [l0, l1] [vI s0] σ Q ↔ Wp L d k_X_train 52 [l0, l1] [vI s0] σ Q := wp_goto rfl
theorem r_X_train_44 : Wp L d k_X_train 44 [vR b0, l1] [] σ Q ↔ Wp L d k_X_train 45 [vR b0, l1] [vR b0] σ Q := wp_aload rfl rfl
theorem r_X_train_45 (h : gK c0 = 0) : Wp L d k_X_train 45 [l0, l1] [vR c0] σ Q ↔ Wp L d k_X_train 48 [l0, l1] [vR (gq c0 1)] σ Q := wp_getR (c := 129) rfl rfl rfl rfl rfl h
theorem r_X_train_48 : Wp L d k_X_train 48 [l0, vI a1] [vR c0] σ Q ↔ Wp L d k_X_train 49 [l0, vI a1] [vI a1, vR c0] σ Q := wp_iload rfl rfl
theorem r_X_train_52 : Wp L d k_X_train 52 [l0, l1] [vI s0] σ Q ↔ Q (some (vI s0)) σ := wp_iret rfl
theorem r_X_train_12 : Wp L (d + 2) k_X_train 12 [l0, l1] [vI s1, vR 29] σ Q ↔ Wp L (d + 2) k_X_train 15 [l0, l1] [vI (σ 29 12)] (gupd (gupd σ 29 12 s1) 29 13 0) Q := wp_callR (d := d + 1) (as := [vR 29, vI s1]) (rest := []) rfl rfl rfl rfl rfl rfl rfl (grecv_k (by rw [gK_29]) rfl) (sp_B_placeTrain)
theorem r_X_train_18 : Wp L (d + 2) k_X_train 18 [l0, l1] [vI s1, vR 27] σ Q ↔ Wp L (d + 2) k_X_train 21 [l0, l1] [vI (gb (0 ≤ s1 ∧ s1 ≤ w32 (σ 29 8 - 1)))] σ Q := wp_callR (d := d + 1) (as := [vR 27, vI s1]) (rest := []) rfl rfl rfl rfl rfl rfl rfl (grecv_k (by rw [gK_27]) rfl) (sp_X_isSpan)
theorem r_X_train_49 : Wp L (d + 2) k_X_train 49 [l0, l1] [vI s1, vR 29] σ Q ↔ Wp L (d + 2) k_X_train 52 [l0, l1] [vI (σ 29 12)] (gupd (gupd σ 29 12 s1) 29 13 0) Q := wp_callR (d := d + 1) (as := [vR 29, vI s1]) (rest := []) rfl rfl rfl rfl rfl rfl rfl (grecv_k (by rw [gK_29]) rfl) (sp_B_placeTrain)
theorem sp_X_train_n : Run L (d + 2) 20 [vR 27, vI (-1000000005)] σ (some (vI (σ 29 12))) (gupd (gupd σ 29 12 (-1000000005)) 29 13 0) := by
  refine Run_of (C' := k_X_train) rfl ?_
  show Wp L (d + 2) k_X_train 0 [vR 27, vI (-1000000005)] [] σ _
  simp only [r_X_train_0, r_X_train_1, r_X_train_3, r_X_train_6, r_X_train_7, r_X_train_10, r_X_train_12, r_X_train_15, r_X_train_16, r_X_train_17, r_X_train_18, r_X_train_21, r_X_train_24, r_X_train_26, r_X_train_27, r_X_train_28, r_X_train_31, r_X_train_34, r_X_train_35, r_X_train_36, r_X_train_39, r_X_train_41, r_X_train_44, r_X_train_45, r_X_train_48, r_X_train_49, r_X_train_52, gK_27, gK_28, gK_29, gq_27_0, gq_27_1, gK_293, gq_293_0, gK_294, gN_294, Int.reduceLE, Int.reduceLT, Int.reduceEq, Int.reduceToNat, gb_01, eq_self, true_or, or_true, and_true, true_and, and_self, if_true, if_false, not_true_eq_false, not_false_eq_true, ne_eq, gb_ne0, gb_eq0]
theorem sp_X_train_b (h0 : a1 ≠ -1000000005) (hn : w32 (σ 29 8 - 1) = σ 29 8 - 1) (h : ¬ (0 ≤ a1 ∧ a1 ≤ σ 29 8 - 1)) : Run L (d + 2) 20 [vR 27, vI a1] σ (some (vI (-1000000001))) σ := by
  refine Run_of (C' := k_X_train) rfl ?_
  show Wp L (d + 2) k_X_train 0 [vR 27, vI a1] [] σ _
  simp only [r_X_train_0, r_X_train_1, r_X_train_3, r_X_train_6, r_X_train_7, r_X_train_10, r_X_train_12, r_X_train_15, r_X_train_16, r_X_train_17, r_X_train_18, r_X_train_21, r_X_train_24, r_X_train_26, r_X_train_27, r_X_train_28, r_X_train_31, r_X_train_34, r_X_train_35, r_X_train_36, r_X_train_39, r_X_train_41, r_X_train_44, r_X_train_45, r_X_train_48, r_X_train_49, r_X_train_52, gK_27, gK_28, gK_29, gq_27_0, gq_27_1, gK_293, gq_293_0, gK_294, gN_294, hn, h, h0, Int.reduceLE, Int.reduceLT, Int.reduceEq, Int.reduceToNat, gb_01, eq_self, true_or, or_true, and_true, true_and, and_self, if_true, if_false, not_true_eq_false, not_false_eq_true, ne_eq, gb_ne0, gb_eq0]
theorem sp_X_train_d (hn : w32 (σ 29 8 - 1) = σ 29 8 - 1) (hb : σ 29 8 ≤ 12) (h : 0 ≤ a1 ∧ a1 ≤ σ 29 8 - 1) (hd : σ 32 a1.toNat ≠ 0) : Run L (d + 2) 20 [vR 27, vI a1] σ (some (vI (-1000000002))) σ := by
  have h0 : a1 ≠ -1000000005 := by omega
  have h3 : a1 < 12 := by omega
  refine Run_of (C' := k_X_train) rfl ?_
  show Wp L (d + 2) k_X_train 0 [vR 27, vI a1] [] σ _
  simp only [r_X_train_0, r_X_train_1, r_X_train_3, r_X_train_6, r_X_train_7, r_X_train_10, r_X_train_12, r_X_train_15, r_X_train_16, r_X_train_17, r_X_train_18, r_X_train_21, r_X_train_24, r_X_train_26, r_X_train_27, r_X_train_28, r_X_train_31, r_X_train_34, r_X_train_35, r_X_train_36, r_X_train_39, r_X_train_41, r_X_train_44, r_X_train_45, r_X_train_48, r_X_train_49, r_X_train_52, gK_27, gK_28, gK_29, gq_27_0, gq_27_1, gK_293, gq_293_0, gK_294, gN_294, gq_29_0, gq_29_1, gq_29_2, gK_30, gK_31, gK_32, gN_30, gN_31, gN_32, hn, h, h0, h3, hd, Int.reduceLE, Int.reduceLT, Int.reduceEq, Int.reduceToNat, gb_01, eq_self, true_or, or_true, and_true, true_and, and_self, if_true, if_false, not_true_eq_false, not_false_eq_true, ne_eq, gb_ne0, gb_eq0]
theorem sp_X_train_s (hn : w32 (σ 29 8 - 1) = σ 29 8 - 1) (hb : σ 29 8 ≤ 12) (h : 0 ≤ a1 ∧ a1 ≤ σ 29 8 - 1) (hd : σ 32 a1.toNat = 0) : Run L (d + 2) 20 [vR 27, vI a1] σ (some (vI (σ 29 12))) (gupd (gupd σ 29 12 a1) 29 13 0) := by
  have h0 : a1 ≠ -1000000005 := by omega
  have h3 : a1 < 12 := by omega
  refine Run_of (C' := k_X_train) rfl ?_
  show Wp L (d + 2) k_X_train 0 [vR 27, vI a1] [] σ _
  simp only [r_X_train_0, r_X_train_1, r_X_train_3, r_X_train_6, r_X_train_7, r_X_train_10, r_X_train_12, r_X_train_15, r_X_train_16, r_X_train_17, r_X_train_18, r_X_train_21, r_X_train_24, r_X_train_26, r_X_train_27, r_X_train_28, r_X_train_31, r_X_train_34, r_X_train_35, r_X_train_36, r_X_train_39, r_X_train_41, r_X_train_44, r_X_train_45, r_X_train_48, r_X_train_49, r_X_train_52, gK_27, gK_28, gK_29, gq_27_0, gq_27_1, gK_293, gq_293_0, gK_294, gN_294, gq_29_0, gq_29_1, gq_29_2, gK_30, gK_31, gK_32, gN_30, gN_31, gN_32, hn, h, h0, h3, hd, Int.reduceLE, Int.reduceLT, Int.reduceEq, Int.reduceToNat, gb_01, eq_self, true_or, or_true, and_true, true_and, and_self, if_true, if_false, not_true_eq_false, not_false_eq_true, ne_eq, gb_ne0, gb_eq0]
theorem r_M_isDown_0 : Wp L d k_M_isDown 0 [vR b0, l1] [] σ Q ↔ Wp L d k_M_isDown 1 [vR b0, l1] [vR b0] σ Q := wp_aload rfl rfl
theorem r_M_isDown_1 (h : gK c0 = 12) : Wp L d k_M_isDown 1 [l0, l1] [vR c0] σ Q ↔ Wp L d k_M_isDown 4 [l0, l1] [vR (gq c0 0)] σ Q := wp_getR (c := 3200) rfl rfl rfl rfl rfl h
theorem r_M_isDown_4 : Wp L d k_M_isDown 4 [vR b0, l1] [vR c0] σ Q ↔ Wp L d k_M_isDown 5 [vR b0, l1] [vR b0, vR c0] σ Q := wp_aload rfl rfl
theorem r_M_isDown_5 : Wp L d k_M_isDown 5 [l0, vI a1] [vR c1, vR c0] σ Q ↔ Wp L d k_M_isDown 6 [l0, vI a1] [vI a1, vR c1, vR c0] σ Q := wp_iload rfl rfl
theorem r_M_isDown_9 : Wp L d k_M_isDown 9 [l0, l1] [vI s1, vR c0] σ Q ↔ Wp L d k_M_isDown 10 [l0, l1] [vI 2, vI s1, vR c0] σ Q := wp_push rfl
theorem r_M_isDown_10 : Wp L d k_M_isDown 10 [l0, l1] [vI s2, vI s1, vR c0] σ Q ↔ Wp L d k_M_isDown 11 [l0, l1] [vI (w32 (s1 + s2)), vR c0] σ Q := wp_iadd rfl
theorem r_M_isDown_11 (h : gK c0 = 100) (hx : 0 ≤ s1 ∧ s1 < gN c0) : Wp L d k_M_isDown 11 [l0, l1] [vI s1, vR c0] σ Q ↔ Wp L d k_M_isDown 12 [l0, l1] [vI (σ c0 s1.toNat)] σ Q := wp_iald rfl h hx
theorem r_M_isDown_12 : Wp L d k_M_isDown 12 [l0, l1] [vI s0] σ Q ↔ Wp L d k_M_isDown 13 [l0, l1] [vI 1, vI s0] σ Q := wp_push rfl
theorem r_M_isDown_13 : Wp L d k_M_isDown 13 [l0, l1] [vI s1, vI s0] σ Q ↔ (if s0 ≠ s1 then Wp L d k_M_isDown 20 [l0, l1] [] σ Q else Wp L d k_M_isDown 16 [l0, l1] [] σ Q) := wp_cmp_ne rfl
theorem r_M_isDown_16 : Wp L d k_M_isDown 16 [l0, l1] [] σ Q ↔ Wp L d k_M_isDown 17 [l0, l1] [vI 1] σ Q := wp_push rfl
theorem r_M_isDown_17 : Wp L d k_M_isDown 17 [l0, l1] [vI s0] σ Q ↔ Wp L d k_M_isDown 21 [l0, l1] [vI s0] σ Q := wp_goto rfl
theorem r_M_isDown_20 : Wp L d k_M_isDown 20 [l0, l1] [] σ Q ↔ Wp L d k_M_isDown 21 [l0, l1] [vI 0] σ Q := wp_push rfl
theorem r_M_isDown_21 (h : s0 = 0 ∨ s0 = 1) : Wp L d k_M_isDown 21 [l0, l1] [vI s0] σ Q ↔ Q (some (vI s0)) σ := wp_zret rfl h
theorem r_M_isDown_6 : Wp L (d + 1) k_M_isDown 6 [l0, l1] [vI s2, vR 293, vR c0] σ Q ↔ Wp L (d + 1) k_M_isDown 9 [l0, l1] [vI (w32 (20 + w32 (3 * s2))), vR c0] σ Q := wp_callR (d := d + 0) (as := [vR 293, vI s2]) (rest := [vR c0]) rfl rfl rfl rfl rfl rfl rfl (grecv_k (by rw [gK_293]) rfl) (sp_M_spanAt)
theorem sp_M_isDown (h : 0 ≤ a1 ∧ a1 ≤ 12) : Run L (d + 1) 201 [vR 293, vI a1] σ (some (vI (gb (σ 294 (20 + 3 * a1 + 2).toNat = 1)))) σ := by
  have w0 : w32 (3 * a1) = 3 * a1 := w32_id (by unfold gr32; omega)
  have w1 : w32 (20 + 3 * a1) = 20 + 3 * a1 := w32_id (by unfold gr32; omega)
  have w2 : w32 (20 + 3 * a1 + 2) = 20 + 3 * a1 + 2 := w32_id (by unfold gr32; omega)
  have h3 : 0 ≤ 20 + 3 * a1 + 2 := by omega
  have h4 : 20 + 3 * a1 + 2 < 3540 := by omega
  refine Run_of (C' := k_M_isDown) rfl ?_
  show Wp L (d + 1) k_M_isDown 0 [vR 293, vI a1] [] σ _
  simp only [r_M_isDown_0, r_M_isDown_1, r_M_isDown_4, r_M_isDown_5, r_M_isDown_6, r_M_isDown_9, r_M_isDown_10, r_M_isDown_11, r_M_isDown_12, r_M_isDown_13, r_M_isDown_16, r_M_isDown_17, r_M_isDown_20, r_M_isDown_21, gK_27, gK_28, gK_29, gq_27_0, gq_27_1, gK_293, gq_293_0, gK_294, gN_294, h3, h4, w0, w1, w2, Int.reduceLE, Int.reduceLT, Int.reduceEq, Int.reduceToNat, gb_01, eq_self, true_or, or_true, and_true, true_and, and_self, if_true, if_false, not_true_eq_false, not_false_eq_true, ne_eq, gb_ne0, gb_eq0]
  repeat' split
  all_goals first | rw [gb_t (by omega)] | rw [gb_f (by omega)]
theorem r_M_train_0 : Wp L d k_M_train 0 [l0, vI a1] [] σ Q ↔ Wp L d k_M_train 1 [l0, vI a1] [vI a1] σ Q := wp_iload rfl rfl
theorem r_M_train_1 : Wp L d k_M_train 1 [l0, l1] [vI s0] σ Q ↔ Wp L d k_M_train 3 [l0, l1] [vI (-1000000005), vI s0] σ Q := wp_push rfl
theorem r_M_train_3 : Wp L d k_M_train 3 [l0, l1] [vI s1, vI s0] σ Q ↔ (if s0 = s1 then Wp L d k_M_train 17 [l0, l1] [] σ Q else Wp L d k_M_train 6 [l0, l1] [] σ Q) := wp_cmp_eq rfl
theorem r_M_train_6 : Wp L d k_M_train 6 [vR b0, l1] [] σ Q ↔ Wp L d k_M_train 7 [vR b0, l1] [vR b0] σ Q := wp_aload rfl rfl
theorem r_M_train_7 : Wp L d k_M_train 7 [l0, vI a1] [vR c0] σ Q ↔ Wp L d k_M_train 8 [l0, vI a1] [vI a1, vR c0] σ Q := wp_iload rfl rfl
theorem r_M_train_11 : Wp L d k_M_train 11 [l0, l1] [vI s0] σ Q ↔ (if s0 ≠ 0 then Wp L d k_M_train 17 [l0, l1] [] σ Q else Wp L d k_M_train 14 [l0, l1] [] σ Q) := wp_if_ne rfl
theorem r_M_train_14 : Wp L d k_M_train 14 [l0, l1] [] σ Q ↔ Wp L d k_M_train 16 [l0, l1] [vI (-1000000001)] σ Q := wp_push rfl
theorem r_M_train_16 : Wp L d k_M_train 16 [l0, l1] [vI s0] σ Q ↔ Q (some (vI s0)) σ := wp_iret rfl
theorem r_M_train_17 : Wp L d k_M_train 17 [l0, vI a1] [] σ Q ↔ Wp L d k_M_train 18 [l0, vI a1] [vI a1] σ Q := wp_iload rfl rfl
theorem r_M_train_18 : Wp L d k_M_train 18 [l0, l1] [vI s0] σ Q ↔ Wp L d k_M_train 20 [l0, l1] [vI (-1000000005), vI s0] σ Q := wp_push rfl
theorem r_M_train_20 : Wp L d k_M_train 20 [l0, l1] [vI s1, vI s0] σ Q ↔ (if s0 = s1 then Wp L d k_M_train 34 [l0, l1] [] σ Q else Wp L d k_M_train 23 [l0, l1] [] σ Q) := wp_cmp_eq rfl
theorem r_M_train_23 : Wp L d k_M_train 23 [vR b0, l1] [] σ Q ↔ Wp L d k_M_train 24 [vR b0, l1] [vR b0] σ Q := wp_aload rfl rfl
theorem r_M_train_24 : Wp L d k_M_train 24 [l0, vI a1] [vR c0] σ Q ↔ Wp L d k_M_train 25 [l0, vI a1] [vI a1, vR c0] σ Q := wp_iload rfl rfl
theorem r_M_train_28 : Wp L d k_M_train 28 [l0, l1] [vI s0] σ Q ↔ (if s0 = 0 then Wp L d k_M_train 34 [l0, l1] [] σ Q else Wp L d k_M_train 31 [l0, l1] [] σ Q) := wp_if_eq rfl
theorem r_M_train_31 : Wp L d k_M_train 31 [l0, l1] [] σ Q ↔ Wp L d k_M_train 33 [l0, l1] [vI (-1000000002)] σ Q := wp_push rfl
theorem r_M_train_33 : Wp L d k_M_train 33 [l0, l1] [vI s0] σ Q ↔ Q (some (vI s0)) σ := wp_iret rfl
theorem r_M_train_34 : Wp L d k_M_train 34 [vR b0, l1] [] σ Q ↔ Wp L d k_M_train 35 [vR b0, l1] [vR b0] σ Q := wp_aload rfl rfl
theorem r_M_train_35 (h : gK c0 = 12) : Wp L d k_M_train 35 [l0, l1] [vR c0] σ Q ↔ Wp L d k_M_train 38 [l0, l1] [vR (gq c0 0)] σ Q := wp_getR (c := 3200) rfl rfl rfl rfl rfl h
theorem r_M_train_38 : Wp L d k_M_train 38 [l0, l1] [vR c0] σ Q ↔ Wp L d k_M_train 40 [l0, l1] [vI 12, vR c0] σ Q := wp_push rfl
theorem r_M_train_40 : Wp L d k_M_train 40 [l0, l1] [vI s1, vR c0] σ Q ↔ Wp L d k_M_train 41 [l0, l1] [vI 0, vI s1, vR c0] σ Q := wp_push rfl
theorem r_M_train_41 (h : gK c0 = 100) (hx : 0 ≤ s1 ∧ s1 < gN c0) : Wp L d k_M_train 41 [l0, l1] [vI s2, vI s1, vR c0] σ Q ↔ Wp L d k_M_train 42 [l0, l1] [] (gupd σ c0 s1.toNat s2) Q := wp_iast rfl h hx
theorem r_M_train_42 : Wp L d k_M_train 42 [vR b0, l1] [] σ Q ↔ Wp L d k_M_train 43 [vR b0, l1] [vR b0] σ Q := wp_aload rfl rfl
theorem r_M_train_43 : Wp L d k_M_train 43 [l0, l1] [vR c0] σ Q ↔ Wp L d k_M_train 45 [l0, l1] [vI 11, vR c0] σ Q := wp_push rfl
theorem r_M_train_45 : Wp L d k_M_train 45 [l0, vI a1] [vI s1, vR c0] σ Q ↔ Wp L d k_M_train 46 [l0, vI a1] [vI a1, vI s1, vR c0] σ Q := wp_iload rfl rfl
theorem r_M_train_46 : Wp L d k_M_train 46 [l0, l1] [vI s2, vI s1, vR c0] σ Q ↔ Wp L d k_M_train 48 [l0, l1] [vI (-1000000005), vI s2, vI s1, vR c0] σ Q := wp_push rfl
theorem r_M_train_48 : Wp L d k_M_train 48 [l0, l1] [vI s3, vI s2, vI s1, vR c0] σ Q ↔ (if s2 ≠ s3 then Wp L d k_M_train 55 [l0, l1] [vI s1, vR c0] σ Q else Wp L d k_M_train 51 [l0, l1] [vI s1, vR c0] σ Q) := wp_cmp_ne rfl
theorem r_M_train_51 : Wp L d k_M_train 51 [l0, l1] [vI s1, vR c0] σ Q ↔ Wp L d k_M_train 52 [l0, l1] [vI (-1), vI s1, vR c0] σ Q := wp_push rfl
theorem r_M_train_52 : Wp L d k_M_train 52 [l0, l1] [vI s2, vI s1, vR c0] σ Q ↔ Wp L d k_M_train 56 [l0, l1] [vI s2, vI s1, vR c0] σ Q := wp_goto rfl
theorem r_M_train_55 : Wp L d k_M_train 55 [l0, vI a1] [vI s1, vR c0] σ Q ↔ Wp L d k_M_train 56 [l0, vI a1] [vI a1, vI s1, vR c0] σ Q := wp_iload rfl rfl
theorem r_M_train_62 : Wp L d k_M_train 62 [l0, l1] [vI s0] σ Q ↔ Q (some (vI s0)) σ := wp_iret rfl
theorem r_M_train_8 : Wp L (d + 2) k_M_train 8 [l0, l1] [vI s1, vR 293] σ Q ↔ Wp L (d + 2) k_M_train 11 [l0, l1] [vI (gb (0 ≤ s1 ∧ s1 ≤ w32 (σ 294 0 - 1)))] σ Q := wp_callR (d := d + 1) (as := [vR 293, vI s1]) (rest := []) rfl rfl rfl rfl rfl rfl rfl (grecv_k (by rw [gK_293]) rfl) (sp_M_isSpan)
theorem r_M_train_25 (h : 0 ≤ s1 ∧ s1 ≤ 12) : Wp L (d + 2) k_M_train 25 [l0, l1] [vI s1, vR 293] σ Q ↔ Wp L (d + 2) k_M_train 28 [l0, l1] [vI (gb (σ 294 (20 + 3 * s1 + 2).toNat = 1))] σ Q := wp_callR (d := d + 1) (as := [vR 293, vI s1]) (rest := []) rfl rfl rfl rfl rfl rfl rfl (grecv_k (by rw [gK_293]) rfl) (sp_M_isDown h)
theorem r_M_train_56 (h : 0 ≤ s1 ∧ s1 < 3540) : Wp L (d + 2) k_M_train 56 [l0, l1] [vI s2, vI s1, vR 293] σ Q ↔ Wp L (d + 2) k_M_train 59 [l0, l1] [vI (σ 294 s1.toNat)] (gupd σ 294 s1.toNat s2) Q := wp_callR (d := d + 1) (as := [vR 293, vI s1, vI s2]) (rest := []) rfl rfl rfl rfl rfl rfl rfl (grecv_k (by rw [gK_293]) rfl) (sp_M_becomes h)
theorem r_M_train_59 : Wp L (d + 2) k_M_train 59 [l0, l1] [vI s0] σ Q ↔ Wp L (d + 2) k_M_train 62 [l0, l1] [vI (if s0 < 0 then -1000000005 else s0)] σ Q := wp_callR (d := d + 1) (as := [vI s0]) (rest := []) rfl rfl rfl rfl rfl rfl rfl rfl (sp_M_orNone)
theorem sp_M_train_n : Run L (d + 2) 200 [vR 293, vI (-1000000005)] σ (some (vI (if σ 294 11 < 0 then -1000000005 else σ 294 11))) (gupd (gupd σ 294 12 0) 294 11 (-1)) := by
  have g : gupd σ 294 12 0 294 11 = σ 294 11 := gupd_ne (by omega)
  refine Run_of (C' := k_M_train) rfl ?_
  show Wp L (d + 2) k_M_train 0 [vR 293, vI (-1000000005)] [] σ _
  simp only [r_M_train_0, r_M_train_1, r_M_train_3, r_M_train_6, r_M_train_7, r_M_train_8, r_M_train_11, r_M_train_14, r_M_train_16, r_M_train_17, r_M_train_18, r_M_train_20, r_M_train_23, r_M_train_24, r_M_train_25, r_M_train_28, r_M_train_31, r_M_train_33, r_M_train_34, r_M_train_35, r_M_train_38, r_M_train_40, r_M_train_41, r_M_train_42, r_M_train_43, r_M_train_45, r_M_train_46, r_M_train_48, r_M_train_51, r_M_train_52, r_M_train_55, r_M_train_56, r_M_train_59, r_M_train_62, gK_27, gK_28, gK_29, gq_27_0, gq_27_1, gK_293, gq_293_0, gK_294, gN_294, g, Int.reduceLE, Int.reduceLT, Int.reduceEq, Int.reduceToNat, gb_01, eq_self, true_or, or_true, and_true, true_and, and_self, if_true, if_false, not_true_eq_false, not_false_eq_true, ne_eq, gb_ne0, gb_eq0]
theorem sp_M_train_b (h0 : a1 ≠ -1000000005) (hn : w32 (σ 294 0 - 1) = σ 294 0 - 1) (h : ¬ (0 ≤ a1 ∧ a1 ≤ σ 294 0 - 1)) : Run L (d + 2) 200 [vR 293, vI a1] σ (some (vI (-1000000001))) σ := by
  refine Run_of (C' := k_M_train) rfl ?_
  show Wp L (d + 2) k_M_train 0 [vR 293, vI a1] [] σ _
  simp only [r_M_train_0, r_M_train_1, r_M_train_3, r_M_train_6, r_M_train_7, r_M_train_8, r_M_train_11, r_M_train_14, r_M_train_16, r_M_train_17, r_M_train_18, r_M_train_20, r_M_train_23, r_M_train_24, r_M_train_25, r_M_train_28, r_M_train_31, r_M_train_33, r_M_train_34, r_M_train_35, r_M_train_38, r_M_train_40, r_M_train_41, r_M_train_42, r_M_train_43, r_M_train_45, r_M_train_46, r_M_train_48, r_M_train_51, r_M_train_52, r_M_train_55, r_M_train_56, r_M_train_59, r_M_train_62, gK_27, gK_28, gK_29, gq_27_0, gq_27_1, gK_293, gq_293_0, gK_294, gN_294, hn, h, h0, Int.reduceLE, Int.reduceLT, Int.reduceEq, Int.reduceToNat, gb_01, eq_self, true_or, or_true, and_true, true_and, and_self, if_true, if_false, not_true_eq_false, not_false_eq_true, ne_eq, gb_ne0, gb_eq0]
theorem sp_M_train_d (hn : w32 (σ 294 0 - 1) = σ 294 0 - 1) (hb : σ 294 0 ≤ 12) (h : 0 ≤ a1 ∧ a1 ≤ σ 294 0 - 1) (hd : σ 294 (20 + 3 * a1 + 2).toNat = 1) : Run L (d + 2) 200 [vR 293, vI a1] σ (some (vI (-1000000002))) σ := by
  have h0 : a1 ≠ -1000000005 := by omega
  have h3 : a1 ≤ 12 := by omega
  refine Run_of (C' := k_M_train) rfl ?_
  show Wp L (d + 2) k_M_train 0 [vR 293, vI a1] [] σ _
  simp only [r_M_train_0, r_M_train_1, r_M_train_3, r_M_train_6, r_M_train_7, r_M_train_8, r_M_train_11, r_M_train_14, r_M_train_16, r_M_train_17, r_M_train_18, r_M_train_20, r_M_train_23, r_M_train_24, r_M_train_25, r_M_train_28, r_M_train_31, r_M_train_33, r_M_train_34, r_M_train_35, r_M_train_38, r_M_train_40, r_M_train_41, r_M_train_42, r_M_train_43, r_M_train_45, r_M_train_46, r_M_train_48, r_M_train_51, r_M_train_52, r_M_train_55, r_M_train_56, r_M_train_59, r_M_train_62, gK_27, gK_28, gK_29, gq_27_0, gq_27_1, gK_293, gq_293_0, gK_294, gN_294, hn, h, h.1, h0, h3, hd, Int.reduceLE, Int.reduceLT, Int.reduceEq, Int.reduceToNat, gb_01, eq_self, true_or, or_true, and_true, true_and, and_self, if_true, if_false, not_true_eq_false, not_false_eq_true, ne_eq, gb_ne0, gb_eq0]
theorem sp_M_train_s (hn : w32 (σ 294 0 - 1) = σ 294 0 - 1) (hb : σ 294 0 ≤ 12) (h : 0 ≤ a1 ∧ a1 ≤ σ 294 0 - 1) (hd : σ 294 (20 + 3 * a1 + 2).toNat ≠ 1) : Run L (d + 2) 200 [vR 293, vI a1] σ (some (vI (if σ 294 11 < 0 then -1000000005 else σ 294 11))) (gupd (gupd σ 294 12 0) 294 11 a1) := by
  have h0 : a1 ≠ -1000000005 := by omega
  have h3 : a1 ≤ 12 := by omega
  have g : gupd σ 294 12 0 294 11 = σ 294 11 := gupd_ne (by omega)
  refine Run_of (C' := k_M_train) rfl ?_
  show Wp L (d + 2) k_M_train 0 [vR 293, vI a1] [] σ _
  simp only [r_M_train_0, r_M_train_1, r_M_train_3, r_M_train_6, r_M_train_7, r_M_train_8, r_M_train_11, r_M_train_14, r_M_train_16, r_M_train_17, r_M_train_18, r_M_train_20, r_M_train_23, r_M_train_24, r_M_train_25, r_M_train_28, r_M_train_31, r_M_train_33, r_M_train_34, r_M_train_35, r_M_train_38, r_M_train_40, r_M_train_41, r_M_train_42, r_M_train_43, r_M_train_45, r_M_train_46, r_M_train_48, r_M_train_51, r_M_train_52, r_M_train_55, r_M_train_56, r_M_train_59, r_M_train_62, gK_27, gK_28, gK_29, gq_27_0, gq_27_1, gK_293, gq_293_0, gK_294, gN_294, hn, h, h.1, h0, h3, hd, g, Int.reduceLE, Int.reduceLT, Int.reduceEq, Int.reduceToNat, gb_01, eq_self, true_or, or_true, and_true, true_and, and_self, if_true, if_false, not_true_eq_false, not_false_eq_true, ne_eq, gb_ne0, gb_eq0]
theorem op_train (a1 : Int) : Op 20 200 [vI a1] := by
  intro L d σ hI
  obtain ⟨⟨w1, w2, w3, w4, w5, w6, w7, w8⟩, c1, c2, c3, c4, c5, c6, c7, c8⟩ := iB hI
  have hn : w32 (σ 29 8 - 1) = σ 29 8 - 1 := w32_id (by unfold gr32; omega)
  have hm : w32 (σ 294 0 - 1) = σ 294 0 - 1 := w32_id (by unfold gr32; omega)
  by_cases e : a1 = -1000000005
  · subst e
    refine ⟨_, _, _, sp_X_train_n, Run_r sp_M_train_n ?_, ?_⟩
    · rw [gupd_ne (by omega), gupd_ne (by omega), c7]
    · refine Inv_mk (P := fun k j => (k = 29 ∧ (j = 12 ∨ j = 13)) ∨ (k = 294 ∧ (j = 11 ∨ j = 12))) hI (Agr_upd (Agr_upd (Agr_upd (Agr_upd (Agr_refl _ _) (by omega)) (by omega)) (by omega)) (by omega)) (Or.inr ?_) (Or.inl (fun k j hz hp => by unfold ZT at hz; omega)) (Or.inl (fun k j hz hp => by unfold ZG at hz; omega)) (Or.inl (fun k j hz hp => by unfold ZS at hz; omega)) (Or.inl (fun k j hz hp => by unfold ZW at hz; omega)) (Or.inl (fun k j hz hp => by unfold ZP at hz; omega)) (Or.inl (fun k j hz hp => by unfold ZR ZK at hz; omega)) (Or.inl (fun k j hz hp => by unfold ZM at hz; omega)) (Or.inl (fun k j hz hp => by unfold ZTape at hz; omega)) (Or.inl (fun k j hz hp => by unfold ZTest at hz; omega)) (Or.inl (fun k j hz hp => by unfold ZWait at hz; omega)) (Or.inl (fun k j hz hp => by unfold ZImg at hz; omega))
      refine B_mk (P := fun k j => (k = 29 ∧ (j = 12 ∨ j = 13)) ∨ (k = 294 ∧ (j = 11 ∨ j = 12))) hI (Agr_upd (Agr_upd (Agr_upd (Agr_upd (Agr_refl _ _) (by omega)) (by omega)) (by omega)) (by omega)) (fun k j hz hp => by unfold ZC at hz; omega) (Or.inl (fun k j hz hp => by unfold ZSp at hz; omega)) (Or.inl (fun k j hz hp => by unfold ZPt at hz; omega)) (Or.inr ?_)
      refine ⟨⟨?_, ?_, ?_, ?_⟩, ?_, ?_, ?_, ?_⟩
      · rw [gupd_ne (by omega), gupd_ne (by omega), gupd_ne (by omega), gupd_ne (by omega)]; exact w5
      · rw [gupd_ne (by omega), gupd_ne (by omega), gupd_ne (by omega), gupd_ne (by omega)]; exact w6
      · rw [gupd_eq]; exact Or.inl rfl
      · rw [gupd_ne (by omega), gupd_eq]; exact Or.inl rfl
      · rw [gupd_ne (by omega), gupd_ne (by omega), gupd_ne (by omega), gupd_ne (by omega), gupd_ne (by omega), gupd_ne (by omega), gupd_ne (by omega), gupd_ne (by omega)]; exact c5
      · rw [gupd_ne (by omega), gupd_ne (by omega), gupd_ne (by omega), gupd_ne (by omega), gupd_ne (by omega), gupd_ne (by omega), gupd_ne (by omega), gupd_ne (by omega)]; exact c6
      · rw [gupd_ne (by omega), gupd_ne (by omega), gupd_ne (by omega), gupd_eq, gupd_eq]; rfl
      · rw [gupd_ne (by omega), gupd_ne (by omega), gupd_eq, gupd_ne (by omega), gupd_eq]
  · by_cases h : 0 ≤ a1 ∧ a1 ≤ σ 29 8 - 1
    · have e1 : (20 + 3 * a1 + 2).toNat = 20 + 3 * a1.toNat + 2 := by omega
      have q := c3 a1.toNat (by omega)
      have q2 := (w3 a1.toNat (by omega)).2.2
      by_cases hd : σ 32 a1.toNat = 0
      · refine ⟨_, _, _, sp_X_train_s hn (by omega) h hd, Run_r (sp_M_train_s (by rw [gupd_ne (by omega), gupd_ne (by omega)]; exact hm) (by rw [gupd_ne (by omega), gupd_ne (by omega)]; omega) (by rw [gupd_ne (by omega), gupd_ne (by omega)]; omega) (by rw [gupd_ne (by omega), gupd_ne (by omega), e1, ← q.2.2, hd]; decide)) ?_, ?_⟩
        · rw [gupd_ne (by omega), gupd_ne (by omega), c7]
        · refine Inv_mk (P := fun k j => (k = 29 ∧ (j = 12 ∨ j = 13)) ∨ (k = 294 ∧ (j = 11 ∨ j = 12))) hI (Agr_upd (Agr_upd (Agr_upd (Agr_upd (Agr_refl _ _) (by omega)) (by omega)) (by omega)) (by omega)) (Or.inr ?_) (Or.inl (fun k j hz hp => by unfold ZT at hz; omega)) (Or.inl (fun k j hz hp => by unfold ZG at hz; omega)) (Or.inl (fun k j hz hp => by unfold ZS at hz; omega)) (Or.inl (fun k j hz hp => by unfold ZW at hz; omega)) (Or.inl (fun k j hz hp => by unfold ZP at hz; omega)) (Or.inl (fun k j hz hp => by unfold ZR ZK at hz; omega)) (Or.inl (fun k j hz hp => by unfold ZM at hz; omega)) (Or.inl (fun k j hz hp => by unfold ZTape at hz; omega)) (Or.inl (fun k j hz hp => by unfold ZTest at hz; omega)) (Or.inl (fun k j hz hp => by unfold ZWait at hz; omega)) (Or.inl (fun k j hz hp => by unfold ZImg at hz; omega))
          refine B_mk (P := fun k j => (k = 29 ∧ (j = 12 ∨ j = 13)) ∨ (k = 294 ∧ (j = 11 ∨ j = 12))) hI (Agr_upd (Agr_upd (Agr_upd (Agr_upd (Agr_refl _ _) (by omega)) (by omega)) (by omega)) (by omega)) (fun k j hz hp => by unfold ZC at hz; omega) (Or.inl (fun k j hz hp => by unfold ZSp at hz; omega)) (Or.inl (fun k j hz hp => by unfold ZPt at hz; omega)) (Or.inr ?_)
          refine ⟨⟨?_, ?_, ?_, ?_⟩, ?_, ?_, ?_, ?_⟩
          · rw [gupd_ne (by omega), gupd_ne (by omega), gupd_ne (by omega), gupd_ne (by omega)]; exact w5
          · rw [gupd_ne (by omega), gupd_ne (by omega), gupd_ne (by omega), gupd_ne (by omega)]; exact w6
          · rw [gupd_eq]; omega
          · rw [gupd_ne (by omega), gupd_eq]; exact Or.inl rfl
          · rw [gupd_ne (by omega), gupd_ne (by omega), gupd_ne (by omega), gupd_ne (by omega), gupd_ne (by omega), gupd_ne (by omega), gupd_ne (by omega), gupd_ne (by omega)]; exact c5
          · rw [gupd_ne (by omega), gupd_ne (by omega), gupd_ne (by omega), gupd_ne (by omega), gupd_ne (by omega), gupd_ne (by omega), gupd_ne (by omega), gupd_ne (by omega)]; exact c6
          · rw [gupd_ne (by omega), gupd_ne (by omega), gupd_ne (by omega), gupd_eq, gupd_eq]; exact (if_neg (by omega)).symm
          · rw [gupd_ne (by omega), gupd_ne (by omega), gupd_eq, gupd_ne (by omega), gupd_eq]
      · exact ⟨_, _, _, sp_X_train_d hn (by omega) h hd, sp_M_train_d hm (by omega) (by omega) (by rw [e1, ← q.2.2]; have := q.2.2; simp only [Nat.reduceAdd] at this; omega), hI⟩
    · exact ⟨_, _, _, sp_X_train_b e hn h, sp_M_train_b e hm (by omega), hI⟩
