/-! text: the reference keeps a text; the invariant. -/
variable {L d : Nat} {σ σ1 : Nat → Nat → Int} {Q : Option gV → (Nat → Nat → Int) → Prop} {a0 a1 a2 a3 a4 a5 a6 a7 a8 a9 a10 a11 s0 s1 s2 s3 s4 s5 s6 s7 s8 s9 : Int} {l0 l1 l2 l3 l4 l5 l6 l7 l8 l9 l10 l11 t0 t1 t2 t3 t4 t5 t6 t7 t8 t9 : gV} {b0 b1 b2 b3 b4 b5 b6 b7 b8 b9 b10 b11 c0 c1 c2 c3 c4 c5 c6 c7 c8 c9 : Nat} {r : Option gV}
set_option maxRecDepth 4000 in
theorem mt_bad (h : ¬(0 ≤ a1 ∧ a1 ≤ 599)) {σ2 : gMm} {key : Int} (hP : Run L (d + 999) 239 [vR 293] σ (some (vI key)) σ2)  : Run L (d + 1000) 238 [vR 293, vI a1] σ (some (vI (-1000000001))) σ2 := by
  refine Run_of (C' := k_M_text) rfl ?_
  show Wp L (d + 1000) k_M_text 0 [vR 293, vI a1, vU, vU, vU] [] σ _
  obtain ⟨K293, Q293, K294, N294⟩ := litM
  simp (disch := first | assumption | exact gb_01 _ | omega) only [r_M_text_0, r_M_text_1, r_M_text_2, r_M_text_3, r_M_text_6, r_M_text_9, r_M_text_10, r_M_text_14, r_M_text_15, r_M_text_16, r_M_text_19, r_M_text_21, r_M_text_22, r_M_text_23, r_M_text_26, r_M_text_28, r_M_text_29, r_M_text_32, r_M_text_33, r_M_text_34, r_M_text_35, r_M_text_38, r_M_text_39, r_M_text_40, r_M_text_42, r_M_text_45, r_M_text_47, r_M_text_48, r_M_text_49, r_M_text_50, r_M_text_53, r_M_text_54, r_M_text_55, r_M_text_58, r_M_text_60, r_M_text_61, r_M_text_64, r_M_text_66, r_M_text_67, r_M_text_68, r_M_text_69, r_M_text_70, r_M_text_71, r_M_text_74, r_M_text_76, r_M_text_77, r_M_text_78, r_M_text_79, r_M_text_80, r_M_text_81, r_M_text_84, r_M_text_86, r_M_text_87, r_M_text_88, r_M_text_89, r_M_text_92, r_M_text_93, r_M_text_94, r_M_text_97, r_M_text_99, r_M_text_100, r_M_text_101, r_M_text_102, r_M_text_105, r_M_text_106, r_M_text_107, r_M_text_110, r_M_text_111, r_M_text_112, r_M_text_113, r_M_text_114, r_M_text_115, r_M_text_116, r_M_text_117, r_M_text_120, r_M_text_121, r_M_text_122, r_M_text_123, r_M_text_124, c_M_text_11 hP, Option.toList, List.singleton_append, List.cons_append, List.nil_append, List.append_nil, Q293, gupd_ne, gupd_eq, w32_gb, w32i, tn_add, tn_mul, Int.toNat_natCast, Int.toNat_zero, Int.reduceLE, Int.reduceLT, Int.reduceEq, Int.reduceNe, gb_T, gb_F, Int.reduceToNat, eq_self, true_or, or_true, and_true, true_and, and_self, ↓ite_gb0, ↓ite_gbn, ↓if_pos, ↓if_neg, if_true, if_false, not_true_eq_false, not_false_eq_true, gb_ne0, gb_eq0]
set_option maxRecDepth 4000 in
theorem mt_f (h : 0 ≤ a1 ∧ a1 ≤ 599) {σ2 : gMm} {key : Int} (hP : Run L (d + 999) 239 [vR 293] σ (some (vI key)) σ2) (hk : key < 0) : Run L (d + 1000) 238 [vR 293, vI a1] σ (some (vI (w32 (-100 - σ2 293 10)))) σ2 := by
  refine Run_of (C' := k_M_text) rfl ?_
  show Wp L (d + 1000) k_M_text 0 [vR 293, vI a1, vU, vU, vU] [] σ _
  obtain ⟨K293, Q293, K294, N294⟩ := litM
  simp (disch := first | assumption | exact gb_01 _ | omega) only [r_M_text_0, r_M_text_1, r_M_text_2, r_M_text_3, r_M_text_6, r_M_text_9, r_M_text_10, r_M_text_14, r_M_text_15, r_M_text_16, r_M_text_19, r_M_text_21, r_M_text_22, r_M_text_23, r_M_text_26, r_M_text_28, r_M_text_29, r_M_text_32, r_M_text_33, r_M_text_34, r_M_text_35, r_M_text_38, r_M_text_39, r_M_text_40, r_M_text_42, r_M_text_45, r_M_text_47, r_M_text_48, r_M_text_49, r_M_text_50, r_M_text_53, r_M_text_54, r_M_text_55, r_M_text_58, r_M_text_60, r_M_text_61, r_M_text_64, r_M_text_66, r_M_text_67, r_M_text_68, r_M_text_69, r_M_text_70, r_M_text_71, r_M_text_74, r_M_text_76, r_M_text_77, r_M_text_78, r_M_text_79, r_M_text_80, r_M_text_81, r_M_text_84, r_M_text_86, r_M_text_87, r_M_text_88, r_M_text_89, r_M_text_92, r_M_text_93, r_M_text_94, r_M_text_97, r_M_text_99, r_M_text_100, r_M_text_101, r_M_text_102, r_M_text_105, r_M_text_106, r_M_text_107, r_M_text_110, r_M_text_111, r_M_text_112, r_M_text_113, r_M_text_114, r_M_text_115, r_M_text_116, r_M_text_117, r_M_text_120, r_M_text_121, r_M_text_122, r_M_text_123, r_M_text_124, c_M_text_11 hP, Option.toList, List.singleton_append, List.cons_append, List.nil_append, List.append_nil, Q293, gupd_ne, gupd_eq, w32_gb, w32i, tn_add, tn_mul, Int.toNat_natCast, Int.toNat_zero, Int.reduceLE, Int.reduceLT, Int.reduceEq, Int.reduceNe, gb_T, gb_F, Int.reduceToNat, eq_self, true_or, or_true, and_true, true_and, and_self, ↓ite_gb0, ↓ite_gbn, ↓if_pos, ↓if_neg, if_true, if_false, not_true_eq_false, not_false_eq_true, gb_ne0, gb_eq0]
set_option maxRecDepth 4000 in
theorem mt_full (h : 0 ≤ a1 ∧ a1 ≤ 599) {σ2 : gMm} {key : Int} (hP : Run L (d + 999) 239 [vR 293] σ (some (vI key)) σ2) (hk : 0 ≤ key) (h12 : σ2 294 2 = 12) : Run L (d + 1000) 238 [vR 293, vI a1] σ (some (vI (-1000000003))) σ2 := by
  refine Run_of (C' := k_M_text) rfl ?_
  show Wp L (d + 1000) k_M_text 0 [vR 293, vI a1, vU, vU, vU] [] σ _
  obtain ⟨K293, Q293, K294, N294⟩ := litM
  have i2 : (0 : Int) ≤ 2 ∧ (2 : Int) < ((gN 294 : Nat) : Int) := by omega
  simp (disch := first | assumption | exact gb_01 _ | omega) only [r_M_text_0, r_M_text_1, r_M_text_2, r_M_text_3, r_M_text_6, r_M_text_9, r_M_text_10, r_M_text_14, r_M_text_15, r_M_text_16, r_M_text_19, r_M_text_21, r_M_text_22, r_M_text_23, r_M_text_26, r_M_text_28, r_M_text_29, r_M_text_32, r_M_text_33, r_M_text_34, r_M_text_35, r_M_text_38, r_M_text_39, r_M_text_40, r_M_text_42, r_M_text_45, r_M_text_47, r_M_text_48, r_M_text_49, r_M_text_50, r_M_text_53, r_M_text_54, r_M_text_55, r_M_text_58, r_M_text_60, r_M_text_61, r_M_text_64, r_M_text_66, r_M_text_67, r_M_text_68, r_M_text_69, r_M_text_70, r_M_text_71, r_M_text_74, r_M_text_76, r_M_text_77, r_M_text_78, r_M_text_79, r_M_text_80, r_M_text_81, r_M_text_84, r_M_text_86, r_M_text_87, r_M_text_88, r_M_text_89, r_M_text_92, r_M_text_93, r_M_text_94, r_M_text_97, r_M_text_99, r_M_text_100, r_M_text_101, r_M_text_102, r_M_text_105, r_M_text_106, r_M_text_107, r_M_text_110, r_M_text_111, r_M_text_112, r_M_text_113, r_M_text_114, r_M_text_115, r_M_text_116, r_M_text_117, r_M_text_120, r_M_text_121, r_M_text_122, r_M_text_123, r_M_text_124, c_M_text_11 hP, Option.toList, List.singleton_append, List.cons_append, List.nil_append, List.append_nil, Q293, gupd_ne, gupd_eq, h12, w32_gb, w32i, tn_add, tn_mul, Int.toNat_natCast, Int.toNat_zero, Int.reduceLE, Int.reduceLT, Int.reduceEq, Int.reduceNe, gb_T, gb_F, Int.reduceToNat, eq_self, true_or, or_true, and_true, true_and, and_self, ↓ite_gb0, ↓ite_gbn, ↓if_pos, ↓if_neg, if_true, if_false, not_true_eq_false, not_false_eq_true, gb_ne0, gb_eq0]
set_option maxRecDepth 4000 in
theorem mt_add (h : 0 ≤ a1 ∧ a1 ≤ 599) {σ2 : gMm} {key : Int} (hP : Run L (d + 999) 239 [vR 293] σ (some (vI key)) σ2) {T : Nat} (hk : 0 ≤ key) (h12 : σ2 294 2 = (T : Int)) (hT : T < 12) : Run L (d + 1000) 238 [vR 293, vI a1] σ (some (vI (T : Int))) (gupd (gupd (gupd (gupd (gupd σ2 294 (930 + 200 * T) key) 294 (930 + 200 * T + 1) a1) 294 (930 + 200 * T + 2) (σ2 293 19)) 294 (930 + 200 * T + 3) (σ2 293 17)) 294 2 ((T : Int) + 1)) := by
  refine Run_of (C' := k_M_text) rfl ?_
  show Wp L (d + 1000) k_M_text 0 [vR 293, vI a1, vU, vU, vU] [] σ _
  obtain ⟨K293, Q293, K294, N294⟩ := litM
  have i2 : (0 : Int) ≤ 2 ∧ (2 : Int) < ((gN 294 : Nat) : Int) := by omega
  have w3 : w32 (930 + w32 (200 * (T : Int))) = 930 + 200 * (T : Int) := by rw [w32i (x := 200 * (T : Int)) (by omega), w32i (by omega)]
  have e0 : (930 + 200 * (T : Int)).toNat = 930 + 200 * T := by omega
  have e1 : (930 + 200 * (T : Int) + 1).toNat = 930 + 200 * T + 1 := by omega
  have e2 : (930 + 200 * (T : Int) + 2).toNat = 930 + 200 * T + 2 := by omega
  have e3 : (930 + 200 * (T : Int) + 3).toNat = 930 + 200 * T + 3 := by omega
  have ez : ((T : Int) + 1 - 1) = (T : Int) := by omega
  simp (disch := first | assumption | exact gb_01 _ | omega) only [r_M_text_0, r_M_text_1, r_M_text_2, r_M_text_3, r_M_text_6, r_M_text_9, r_M_text_10, r_M_text_14, r_M_text_15, r_M_text_16, r_M_text_19, r_M_text_21, r_M_text_22, r_M_text_23, r_M_text_26, r_M_text_28, r_M_text_29, r_M_text_32, r_M_text_33, r_M_text_34, r_M_text_35, r_M_text_38, r_M_text_39, r_M_text_40, r_M_text_42, r_M_text_45, r_M_text_47, r_M_text_48, r_M_text_49, r_M_text_50, r_M_text_53, r_M_text_54, r_M_text_55, r_M_text_58, r_M_text_60, r_M_text_61, r_M_text_64, r_M_text_66, r_M_text_67, r_M_text_68, r_M_text_69, r_M_text_70, r_M_text_71, r_M_text_74, r_M_text_76, r_M_text_77, r_M_text_78, r_M_text_79, r_M_text_80, r_M_text_81, r_M_text_84, r_M_text_86, r_M_text_87, r_M_text_88, r_M_text_89, r_M_text_92, r_M_text_93, r_M_text_94, r_M_text_97, r_M_text_99, r_M_text_100, r_M_text_101, r_M_text_102, r_M_text_105, r_M_text_106, r_M_text_107, r_M_text_110, r_M_text_111, r_M_text_112, r_M_text_113, r_M_text_114, r_M_text_115, r_M_text_116, r_M_text_117, r_M_text_120, r_M_text_121, r_M_text_122, r_M_text_123, r_M_text_124, c_M_text_11 hP, Option.toList, List.singleton_append, List.cons_append, List.nil_append, List.append_nil, Q293, gupd_ne, gupd_eq, h12, w3, e0, e1, e2, e3, ez, Int.add_zero, w32_gb, w32i, tn_add, tn_mul, Int.toNat_natCast, Int.toNat_zero, Int.reduceLE, Int.reduceLT, Int.reduceEq, Int.reduceNe, gb_T, gb_F, Int.reduceToNat, eq_self, true_or, or_true, and_true, true_and, and_self, ↓ite_gb0, ↓ite_gbn, ↓if_pos, ↓if_neg, if_true, if_false, not_true_eq_false, not_false_eq_true, gb_ne0, gb_eq0]
set_option maxRecDepth 4000 in
theorem ad_c2 {T N : Nat} (hT : σ 78 6 = (T : Int)) (h12 : T < 12) (hN : σ 279 6 = (N : Int)) (h96 : N ≤ 96) : ∃ σ3, Run L (d + 999) 178 [vR 78, vR 279, vI a2] σ (some (vI (T : Int))) σ3 ∧ (σ3 78 6 = (T : Int) + 1 ∧ σ3 92 T = (N : Int) ∧ σ3 93 T = σ 279 8 ∧ σ3 94 T = a2 ∧ σ3 95 T = σ 279 7) ∧ (∀ k, k < N → σ3 (80 + T) k = σ 281 k) ∧ Agr σ σ3 (fun k j => k = 78 ∧ j = 6 ∨ k = 80 + T ∨ 92 ≤ k ∧ k ≤ 95 ∧ j = T) := by
  refine ⟨_, ad_c hT h12 hN h96, ⟨gupd_eq, ?_, ?_, ?_, ?_⟩, fun k hk => ?_, ?_⟩
  · rw [gupd_ne (by omega), gupd_ne (by omega), gupd_ne (by omega), gupd_ne (by omega), gupd_eq]
  · rw [gupd_ne (by omega), gupd_ne (by omega), gupd_ne (by omega), gupd_eq]
  · rw [gupd_ne (by omega), gupd_ne (by omega), gupd_eq]
  · rw [gupd_ne (by omega), gupd_eq]
  · rw [gupd_ne (by omega), gupd_ne (by omega), gupd_ne (by omega), gupd_ne (by omega), gupd_ne (by omega), gcpy_z hk]
  · exact Agr_upd (Agr_upd (Agr_upd (Agr_upd (Agr_upd (Agr_cpy (Agr_refl _ _) (fun j _ _ => by omega)) (by omega)) (by omega)) (by omega)) (by omega)) (by omega)
theorem mt_add2 (h : 0 ≤ a1 ∧ a1 ≤ 599) {σ2 : gMm} {key : Int} (hP : Run L (d + 999) 239 [vR 293] σ (some (vI key)) σ2) {T : Nat} (hk : 0 ≤ key) (h12 : σ2 294 2 = (T : Int)) (hT : T < 12) : ∃ σ3, Run L (d + 1000) 238 [vR 293, vI a1] σ (some (vI (T : Int))) σ3 ∧ (σ3 294 (930 + 200 * T) = key ∧ σ3 294 (930 + 200 * T + 1) = a1 ∧ σ3 294 (930 + 200 * T + 2) = σ2 293 19 ∧ σ3 294 (930 + 200 * T + 3) = σ2 293 17 ∧ σ3 294 2 = (T : Int) + 1) ∧ Agr σ2 σ3 (fun k j => k = 294 ∧ (930 + 200 * T ≤ j ∧ j ≤ 930 + 200 * T + 3 ∨ j = 2)) := by
  refine ⟨_, mt_add h hP hk h12 hT, ⟨?_, ?_, ?_, ?_, gupd_eq⟩, ?_⟩
  · rw [gupd_ne (by omega), gupd_ne (by omega), gupd_ne (by omega), gupd_ne (by omega), gupd_eq]
  · rw [gupd_ne (by omega), gupd_ne (by omega), gupd_ne (by omega), gupd_eq]
  · rw [gupd_ne (by omega), gupd_ne (by omega), gupd_eq]
  · rw [gupd_ne (by omega), gupd_eq]
  · exact Agr_upd (Agr_upd (Agr_upd (Agr_upd (Agr_upd (Agr_refl _ _) (by omega)) (by omega)) (by omega)) (by omega)) (by omega)
theorem Vp_W {key : Int} {pw pv : Nat → Int} {N : Nat} (h : Vp key pw pv N 1) : WCode key pw pv (N : Int) := ⟨fun k hk => h.1 k (by omega), by rw [Int.toNat_natCast]; exact h.2⟩
theorem Vp_1 {key : Int} {pw pv : Nat → Int} {N : Nat} (h : Vp key pw pv N 1) : 1 ≤ N := by
  have := gdep_le pw pv N
  have := h.2
  omega
/-- what the texts' operation needs beside: the texts (strings) are there -/
def Op4 (x m : Nat) (as : List gV) : Prop := ∀ (L d : Nat) (σ : gMm), Inv σ → PB (gSH L, σ) → TXc σ → ∃ (r : Int) (σ1 σ2 : gMm), Run L (d + 1000) x (vR 27 :: as) σ (some (vI r)) σ1 ∧ Run L (d + 1000) m (vR 293 :: as) σ1 (some (vI r)) σ2 ∧ Inv σ2
theorem Op_4 {x m : Nat} {as : List gV} (h : Op3 x m as) : Op4 x m as := fun L d σ hI hb ht => h L d σ hI hb ht.1
theorem Run_txc {L d y : Nat} {as : List gV} {σ σ1 : gMm} {r : Option gV} (h : Run L d y as σ r σ1) (ht : TXc σ) : TXc σ1 := ⟨Run_tx h ht.1, fun k hk => by rw [Run_old h k (by omega)]; exact ht.2 k hk⟩
theorem Op4_keep {x m : Nat} {as : List gV} (h : Op4 x m as) (L d : Nat) (σ : gMm) (hI : Inv σ) (hb : PB (gSH L, σ)) (ht : TXc σ) : ∃ (r : Int) (σ1 σ2 : gMm), Run L (d + 1000) x (vR 27 :: as) σ (some (vI r)) σ1 ∧ Run L (d + 1000) m (vR 293 :: as) σ1 (some (vI r)) σ2 ∧ Inv σ2 ∧ PB (gSH L, σ2) ∧ TXc σ2 ∧ σ1 26 = σ 26 ∧ σ2 26 = σ 26 := by
  obtain ⟨r, σ1, σ2, h1, h2, h3⟩ := h L d σ hI hb ht
  exact ⟨r, σ1, σ2, h1, h2, h3, Run_bl h2 (Run_bl h1 hb), Run_txc h2 (Run_txc h1 ht), Run_old h1 26 (by omega), (Run_old h2 26 (by omega)).trans (Run_old h1 26 (by omega))⟩

set_option maxRecDepth 4000 in
theorem tx_inv {σ2 : gMm} {T : Nat} (hT : σ 294 2 = (T : Int)) (hI : Inv σ) (hA : Agr σ σ2 (fun k j => k = 279 ∧ 1 ≤ j ∧ j ≤ 8 ∨ k = 281 ∨ k = 293 ∧ 9 ≤ j ∧ j ≤ 19 ∨ k = 294 ∧ 930 + 200 * T + 4 ≤ j)) (e1 : σ2 279 1 = 0) (e9 : σ2 293 9 = 0) : Inv σ2 := by
  have hw := hI.1.2.1
  have w1 := hw.1
  have hc := hI.2.1.2.1
  refine Inv_mk (P := (fun k j => k = 279 ∧ 1 ≤ j ∧ j ≤ 8 ∨ k = 281 ∨ k = 293 ∧ 9 ≤ j ∧ j ≤ 19 ∨ k = 294 ∧ 930 + 200 * T + 4 ≤ j)) hI hA (Or.inl (fun k j hz hp => by unfold ZB at hz; omega)) (Or.inr ?_) (Or.inl (fun k j hz hp => by unfold ZG at hz; omega)) (Or.inl (fun k j hz hp => by unfold ZS at hz; omega)) (Or.inl (fun k j hz hp => by unfold ZW at hz; omega)) (Or.inl (fun k j hz hp => by unfold ZP at hz; omega)) (Or.inl (fun k j hz hp => by unfold ZR ZK at hz; omega)) (Or.inl (fun k j hz hp => by unfold ZM at hz; omega)) (Or.inr ?_) (Or.inl (fun k j hz hp => by unfold ZTest at hz; omega)) (Or.inl (fun k j hz hp => by unfold ZWait at hz; omega)) (Or.inl (fun k j hz hp => by unfold ZImg at hz; omega))
  · refine T_same hw hc (fun t ht => ⟨fun j hj => hA _ _ (by omega), ⟨hA _ _ (by omega), hA _ _ (by omega), hA _ _ (by omega), hA _ _ (by omega)⟩, fun k => hA _ _ (by omega)⟩) (hA _ _ (by omega)) (hA _ _ (by omega))
  · exact ⟨by rw [e1, e9], by omega, fun i hi => absurd hi (by omega)⟩
theorem tx_inv2 {σ2 : gMm} {T : Nat} (hT : σ 294 2 = (T : Int)) (h12 : T < 12) (hI : Inv σ) (hA : Agr σ σ2 (fun k j => k = 279 ∧ 1 ≤ j ∧ j ≤ 8 ∨ k = 281 ∨ k = 293 ∧ 9 ≤ j ∧ j ≤ 19 ∨ k = 294 ∧ (930 + 200 * T ≤ j ∨ j = 2) ∨ k = 78 ∧ j = 6 ∨ k = 80 + T ∨ 92 ≤ k ∧ k ≤ 95 ∧ j = T)) (e1 : σ2 279 1 = 0) (e9 : σ2 293 9 = 0) (e2 : σ2 294 2 = (T : Int) + 1) (e6 : σ2 78 6 = (T : Int) + 1) (hn : WTb (σ2 294) T ∧ CTb (σ2 294) σ2 T) : Inv σ2 := by
  have hw := hI.1.2.1
  have w1 := hw.1
  have hc := hI.2.1.2.1
  refine Inv_mk (P := (fun k j => k = 279 ∧ 1 ≤ j ∧ j ≤ 8 ∨ k = 281 ∨ k = 293 ∧ 9 ≤ j ∧ j ≤ 19 ∨ k = 294 ∧ (930 + 200 * T ≤ j ∨ j = 2) ∨ k = 78 ∧ j = 6 ∨ k = 80 + T ∨ 92 ≤ k ∧ k ≤ 95 ∧ j = T)) hI hA (Or.inl (fun k j hz hp => by unfold ZB at hz; omega)) (Or.inr ?_) (Or.inl (fun k j hz hp => by unfold ZG at hz; omega)) (Or.inl (fun k j hz hp => by unfold ZS at hz; omega)) (Or.inl (fun k j hz hp => by unfold ZW at hz; omega)) (Or.inl (fun k j hz hp => by unfold ZP at hz; omega)) (Or.inl (fun k j hz hp => by unfold ZR ZK at hz; omega)) (Or.inl (fun k j hz hp => by unfold ZM at hz; omega)) (Or.inr ?_) (Or.inl (fun k j hz hp => by unfold ZTest at hz; omega)) (Or.inl (fun k j hz hp => by unfold ZWait at hz; omega)) (Or.inl (fun k j hz hp => by unfold ZImg at hz; omega))
  · exact T_more hT h12 hw hc (fun t ht => ⟨fun j hj => hA _ _ (by omega), ⟨hA _ _ (by omega), hA _ _ (by omega), hA _ _ (by omega), hA _ _ (by omega)⟩, fun k => hA _ _ (by omega)⟩) e2 e6 hn
  · exact ⟨by rw [e1, e9], by omega, fun i hi => absurd hi (by omega)⟩
