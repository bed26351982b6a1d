/-! fall. -/
variable {L d : Nat} {σ σ1 : Nat → Nat → Int} {Q : Option gV → (Nat → Nat → Int) → Prop} {a0 a1 a2 a3 a4 a5 a6 a7 a8 a9 a10 a11 s0 s1 s2 s3 s4 s5 s6 s7 s8 s9 : Int} {l0 l1 l2 l3 l4 l5 l6 l7 l8 l9 l10 l11 t0 t1 t2 t3 t4 t5 t6 t7 t8 t9 : gV} {b0 b1 b2 b3 b4 b5 b6 b7 b8 b9 b10 b11 c0 c1 c2 c3 c4 c5 c6 c7 c8 c9 : Nat} {r : Option gV}
theorem brit_1 {f : Nat → Int} (w : Int) (hw : WB f) (k : Nat) : brit w k f 1 = f 1 := (SB01 (brit_ok w hw k).2).2
theorem brit_s {f : Nat → Int} {w : Int} (hw : WB f) {k : Nat} (h : 0 ≤ brfi (brit w k f) w (f 1).toNat) : brit w (k + 1) f = brgo (brit w k f) (brfi (brit w k f) w (f 1).toNat).toNat := by
  show brstp w (brit w k f) = _
  unfold brstp
  rw [brit_1 w hw k, if_neg (by omega)]
theorem r_B_collapse_0 : Wp L d k_B_collapse 0 [l0, l1, l2, l3, l4] [] σ Q ↔ Wp L d k_B_collapse 1 [l0, l1, l2, l3, l4] [vI 0] σ Q := wp_push rfl
theorem r_B_collapse_1 : Wp L d k_B_collapse 1 [l0, vI a1, l2, l3, l4] [vI s0] σ Q ↔ Wp L d k_B_collapse 2 [l0, vI a1, vI s0, l3, l4] [] σ Q := wp_istore (i := 2) (ls := [l0, vI a1, l2, l3, l4]) rfl rfl
theorem r_B_collapse_2 : Wp L d k_B_collapse 2 [l0, l1, l2, l3, l4] [] σ Q ↔ Wp L d k_B_collapse 3 [l0, l1, l2, l3, l4] [vI 0] σ Q := wp_push rfl
theorem r_B_collapse_3 : Wp L d k_B_collapse 3 [l0, l1, vI a2, l3, l4] [vI s0] σ Q ↔ Wp L d k_B_collapse 4 [l0, l1, vI a2, vI s0, l4] [] σ Q := wp_istore (i := 3) (ls := [l0, l1, vI a2, l3, l4]) rfl rfl
theorem r_B_collapse_4 : Wp L d k_B_collapse 4 [l0, l1, l2, vI a3, l4] [] σ Q ↔ Wp L d k_B_collapse 5 [l0, l1, l2, vI a3, l4] [vI a3] σ Q := wp_iload rfl rfl
theorem r_B_collapse_5 : Wp L d k_B_collapse 5 [l0, l1, l2, l3, l4] [vI s0] σ Q ↔ Wp L d k_B_collapse 7 [l0, l1, l2, l3, l4] [vI 40, vI s0] σ Q := wp_push rfl
theorem r_B_collapse_7 : Wp L d k_B_collapse 7 [l0, l1, l2, l3, l4] [vI s1, vI s0] σ Q ↔ (if s1 ≤ s0 then Wp L d k_B_collapse 47 [l0, l1, l2, l3, l4] [] σ Q else Wp L d k_B_collapse 10 [l0, l1, l2, l3, l4] [] σ Q) := wp_cmp_ge rfl
theorem r_B_collapse_10 : Wp L d k_B_collapse 10 [vR b0, l1, l2, l3, l4] [] σ Q ↔ Wp L d k_B_collapse 11 [vR b0, l1, l2, l3, l4] [vR b0] σ Q := wp_aload rfl rfl
theorem r_B_collapse_11 : Wp L d k_B_collapse 11 [l0, vI a1, l2, l3, l4] [vR c0] σ Q ↔ Wp L d k_B_collapse 12 [l0, vI a1, l2, l3, l4] [vI a1, vR c0] σ Q := wp_iload rfl rfl
theorem c_B_collapse_12 (hR : Run L d 101 [vR c0, vI s1] σ r σ1) (h : gK c0 = 1) : Wp L (d + 1) k_B_collapse 12 [l0, l1, l2, l3, l4] [vI s1, vR c0] σ Q ↔ Wp L (d + 1) k_B_collapse 15 [l0, l1, l2, l3, l4] (r.toList ++ []) σ1 Q := wp_callR (as := [vR c0, vI s1]) (rest := []) rfl rfl rfl rfl rfl rfl rfl (grecv_k (by rw [h]) rfl) hR
theorem r_B_collapse_15 : Wp L d k_B_collapse 15 [l0, l1, l2, vI a3, l4] [vI s0] σ Q ↔ Wp L d k_B_collapse 17 [l0, l1, l2, vI a3, vI s0] [] σ Q := wp_istore (i := 4) (ls := [l0, l1, l2, vI a3, l4]) rfl rfl
theorem r_B_collapse_17 : Wp L d k_B_collapse 17 [l0, l1, l2, l3, vI a4] [] σ Q ↔ Wp L d k_B_collapse 19 [l0, l1, l2, l3, vI a4] [vI a4] σ Q := wp_iload rfl rfl
theorem r_B_collapse_19 : Wp L d k_B_collapse 19 [l0, l1, l2, l3, l4] [vI s0] σ Q ↔ Wp L d k_B_collapse 21 [l0, l1, l2, l3, l4] [vI (-1000000005), vI s0] σ Q := wp_push rfl
theorem r_B_collapse_21 : Wp L d k_B_collapse 21 [l0, l1, l2, l3, l4] [vI s1, vI s0] σ Q ↔ (if s0 ≠ s1 then Wp L d k_B_collapse 27 [l0, l1, l2, l3, l4] [] σ Q else Wp L d k_B_collapse 24 [l0, l1, l2, l3, l4] [] σ Q) := wp_cmp_ne rfl
theorem r_B_collapse_24 : Wp L d k_B_collapse 24 [l0, l1, l2, l3, l4] [] σ Q ↔ Wp L d k_B_collapse 47 [l0, l1, l2, l3, l4] [] σ Q := wp_goto rfl
theorem r_B_collapse_27 : Wp L d k_B_collapse 27 [vR b0, l1, l2, l3, l4] [] σ Q ↔ Wp L d k_B_collapse 28 [vR b0, l1, l2, l3, l4] [vR b0] σ Q := wp_aload rfl rfl
theorem r_B_collapse_28 : Wp L d k_B_collapse 28 [vR b0, l1, l2, l3, l4] [vR c0] σ Q ↔ Wp L d k_B_collapse 29 [vR b0, l1, l2, l3, l4] [vR b0, vR c0] σ Q := wp_aload rfl rfl
theorem r_B_collapse_29 (h : gK c1 = 1) : Wp L d k_B_collapse 29 [l0, l1, l2, l3, l4] [vR c1, vR c0] σ Q ↔ Wp L d k_B_collapse 32 [l0, l1, l2, l3, l4] [vR (gq c1 3), vR c0] σ Q := wp_getR (c := 387) rfl rfl rfl rfl rfl h
theorem r_B_collapse_32 : Wp L d k_B_collapse 32 [l0, l1, l2, l3, vI a4] [vR c1, vR c0] σ Q ↔ Wp L d k_B_collapse 34 [l0, l1, l2, l3, vI a4] [vI a4, vR c1, vR c0] σ Q := wp_iload rfl rfl
theorem r_B_collapse_34 (h : gK c1 = 102 ∨ gK c1 = 103) (hx : 0 ≤ s2 ∧ s2 < gN c1) : Wp L d k_B_collapse 34 [l0, l1, l2, l3, l4] [vI s2, vR c1, vR c0] σ Q ↔ Wp L d k_B_collapse 35 [l0, l1, l2, l3, l4] [vR (gq c1 s2.toNat), vR c0] σ Q := wp_aald rfl h hx
theorem c_B_collapse_35 (hR : Run L d 105 [vR c0, vR c1] σ r σ1) (h : gK c0 = 1) : Wp L (d + 1) k_B_collapse 35 [l0, l1, l2, l3, l4] [vR c1, vR c0] σ Q ↔ Wp L (d + 1) k_B_collapse 38 [l0, l1, l2, l3, l4] (r.toList ++ []) σ1 Q := wp_callR (as := [vR c0, vR c1]) (rest := []) rfl rfl rfl rfl rfl rfl rfl (grecv_k (by rw [h]) rfl) hR
theorem r_B_collapse_38 : Wp L d k_B_collapse 38 [l0, vI a1, vI a2, l3, l4] [] σ Q ↔ Wp L d k_B_collapse 41 [l0, vI a1, vI (w32 (a2 + 1)), l3, l4] [] σ Q := wp_iinc (i := 2) (ls := [l0, vI a1, vI a2, l3, l4]) rfl rfl
theorem r_B_collapse_41 : Wp L d k_B_collapse 41 [l0, l1, vI a2, vI a3, l4] [] σ Q ↔ Wp L d k_B_collapse 44 [l0, l1, vI a2, vI (w32 (a3 + 1)), l4] [] σ Q := wp_iinc (i := 3) (ls := [l0, l1, vI a2, vI a3, l4]) rfl rfl
theorem r_B_collapse_44 : Wp L d k_B_collapse 44 [l0, l1, l2, l3, l4] [] σ Q ↔ Wp L d k_B_collapse 4 [l0, l1, l2, l3, l4] [] σ Q := wp_goto rfl
theorem r_B_collapse_47 : Wp L d k_B_collapse 47 [l0, l1, vI a2, l3, l4] [] σ Q ↔ Wp L d k_B_collapse 48 [l0, l1, vI a2, l3, l4] [vI a2] σ Q := wp_iload rfl rfl
theorem r_B_collapse_48 : Wp L d k_B_collapse 48 [l0, l1, l2, l3, l4] [vI s0] σ Q ↔ Q (some (vI s0)) σ := wp_iret rfl
theorem sp_B_collapse {b : Nat} {f : Nat → Int} {n : Nat} (hB : BR b) (hw : WB f) (hc : CB b f σ) (h : 0 ≤ a1 ∧ a1 ≤ 99) (hn : brN f a1 n) : ∃ σ', Run L (d + 3) 104 [vR b, vI a1] σ (some (vI (n : Int))) σ' ∧ CB b (brit a1 n f) σ' ∧ Agr σ σ' (ZBr b) := by
  refine Run_ex (C' := k_B_collapse) rfl ?_
  show Wp L (d + 3) k_B_collapse 0 [vR b, vI a1, vU, vU, vU] [] σ _
  have hB0 := hB
  obtain ⟨⟨K0, q0, q1, q2, q3, q4, q5, q6, q7⟩, ⟨K1, K2, K3, K4, K5, K6, K7, K8⟩, ⟨N1, N2, N3, N4, N5, N6, N7, N8⟩, QP, KP⟩ := hB
  have w2 := hw.2.1
  obtain ⟨hn1, hn2, hn3⟩ := hn
  simp only [r_B_collapse_0, r_B_collapse_1, r_B_collapse_2, r_B_collapse_3, r_B_collapse_5, r_B_collapse_7, r_B_collapse_10, r_B_collapse_11, r_B_collapse_15, r_B_collapse_17, r_B_collapse_19, r_B_collapse_21, r_B_collapse_24, r_B_collapse_27, r_B_collapse_28, r_B_collapse_29, r_B_collapse_32, r_B_collapse_34, r_B_collapse_38, r_B_collapse_41, r_B_collapse_44, r_B_collapse_47, r_B_collapse_48]
  refine wloop (n := n) (I := fun k ls τ => (∃ l, ls = [vR b, vI a1, vI (k : Int), vI (k : Int), l]) ∧ CB b (brit a1 k f) τ ∧ Agr σ τ (ZBr b)) (fun k ls τ hk hi hq => ?_) (fun ls τ hi => ?_) n 0 (by omega) _ _ ⟨⟨_, rfl⟩, hc, Agr_refl _ _⟩
  · obtain ⟨⟨l, rfl⟩, hc1, hA⟩ := hi
    obtain ⟨hw1, hs1⟩ := brit_ok a1 hw k
    have e1 := brit_1 a1 hw k
    have x := hn1 k hk
    have y := brfi_bd (brit a1 k f) a1 (f 1).toNat
    have z := brit_s hw x
    obtain ⟨τ1, hR1, -, hA1⟩ := sp_B_worstOver (L := L) (d := d + 0) hB0 hw1 hc1 h
    rw [e1, show gnn (brfi (brit a1 k f) a1 (f 1).toNat) = brfi (brit a1 k f) a1 (f 1).toNat from if_neg (by omega)] at hR1
    have hc2 := CB_sc hw1 hc1 hA1
    obtain ⟨τ2, hR2, hc3, hA2⟩ := sp_B_letGo (L := L) (d := d + 0) (p := (brfi (brit a1 k f) a1 (f 1).toNat).toNat) hB0 hw1 hc2 (by omega)
    have kp := KP (brfi (brit a1 k f) a1 (f 1).toNat).toNat (by omega)
    rw [r_B_collapse_4]
    simp (disch := first | assumption | exact gb_01 _ | omega) only [r_B_collapse_0, r_B_collapse_1, r_B_collapse_2, r_B_collapse_3, r_B_collapse_5, r_B_collapse_7, r_B_collapse_10, r_B_collapse_11, r_B_collapse_15, r_B_collapse_17, r_B_collapse_19, r_B_collapse_21, r_B_collapse_24, r_B_collapse_27, r_B_collapse_28, r_B_collapse_29, r_B_collapse_32, r_B_collapse_34, r_B_collapse_38, r_B_collapse_41, r_B_collapse_44, r_B_collapse_47, r_B_collapse_48, c_B_collapse_12 hR1, c_B_collapse_35 hR2, Option.toList, List.singleton_append, List.cons_append, List.nil_append, List.append_nil, q0, q1, q2, q3, q4, q5, q6, q7, QP, w32_gb, w32i, tn_add, tn_mul, Int.toNat_natCast, Int.toNat_zero, Int.reduceLE, Int.reduceLT, Int.reduceEq, Int.reduceNe, gb_T, gb_F, Int.reduceToNat, eq_self, true_or, or_true, and_true, true_and, and_self, ↓ite_gb0, ↓ite_gbn, ↓if_pos, ↓if_neg, if_true, if_false, not_true_eq_false, not_false_eq_true, gb_ne0, gb_eq0]
    refine hq _ _ ⟨⟨vI (brfi (brit a1 k f) a1 (f 1).toNat), ?_⟩, by rw [z]; exact hc3, Agr_trans (Agr_trans hA (Agr_mono hA1 (fun k j hk => by unfold ZSc at hk; unfold ZBr; omega))) hA2⟩
    rw [show (((k + 1 : Nat)) : Int) = (k : Int) + 1 by omega]
  · obtain ⟨⟨l, rfl⟩, hc1, hA⟩ := hi
    obtain ⟨hw1, hs1⟩ := brit_ok a1 hw n
    have e1 := brit_1 a1 hw n
    obtain ⟨τ1, hR1, -, hA1⟩ := sp_B_worstOver (L := L) (d := d + 0) hB0 hw1 hc1 h
    rw [e1, show gnn (brfi (brit a1 n f) a1 (f 1).toNat) = -1000000005 from if_pos hn2] at hR1
    rw [r_B_collapse_4]
    by_cases e : n = 40
    · simp (disch := first | assumption | exact gb_01 _ | omega) only [r_B_collapse_0, r_B_collapse_1, r_B_collapse_2, r_B_collapse_3, r_B_collapse_5, r_B_collapse_7, r_B_collapse_10, r_B_collapse_11, r_B_collapse_15, r_B_collapse_17, r_B_collapse_19, r_B_collapse_21, r_B_collapse_24, r_B_collapse_27, r_B_collapse_28, r_B_collapse_29, r_B_collapse_32, r_B_collapse_34, r_B_collapse_38, r_B_collapse_41, r_B_collapse_44, r_B_collapse_47, r_B_collapse_48, Option.toList, List.singleton_append, List.cons_append, List.nil_append, List.append_nil, q0, q1, q2, q3, q4, q5, q6, q7, QP, w32_gb, w32i, tn_add, tn_mul, Int.toNat_natCast, Int.toNat_zero, Int.reduceLE, Int.reduceLT, Int.reduceEq, Int.reduceNe, gb_T, gb_F, Int.reduceToNat, eq_self, true_or, or_true, and_true, true_and, and_self, ↓ite_gb0, ↓ite_gbn, ↓if_pos, ↓if_neg, if_true, if_false, not_true_eq_false, not_false_eq_true, gb_ne0, gb_eq0]
      exact ⟨hc1, hA⟩
    · simp (disch := first | assumption | exact gb_01 _ | omega) only [r_B_collapse_0, r_B_collapse_1, r_B_collapse_2, r_B_collapse_3, r_B_collapse_5, r_B_collapse_7, r_B_collapse_10, r_B_collapse_11, r_B_collapse_15, r_B_collapse_17, r_B_collapse_19, r_B_collapse_21, r_B_collapse_24, r_B_collapse_27, r_B_collapse_28, r_B_collapse_29, r_B_collapse_32, r_B_collapse_34, r_B_collapse_38, r_B_collapse_41, r_B_collapse_44, r_B_collapse_47, r_B_collapse_48, c_B_collapse_12 hR1, Option.toList, List.singleton_append, List.cons_append, List.nil_append, List.append_nil, q0, q1, q2, q3, q4, q5, q6, q7, QP, w32_gb, w32i, tn_add, tn_mul, Int.toNat_natCast, Int.toNat_zero, Int.reduceLE, Int.reduceLT, Int.reduceEq, Int.reduceNe, gb_T, gb_F, Int.reduceToNat, eq_self, true_or, or_true, and_true, true_and, and_self, ↓ite_gb0, ↓ite_gbn, ↓if_pos, ↓if_neg, if_true, if_false, not_true_eq_false, not_false_eq_true, gb_ne0, gb_eq0]
      exact ⟨CB_sc hw1 hc1 hA1, Agr_trans hA (Agr_mono hA1 (fun k j hk => by unfold ZSc at hk; unfold ZBr; omega))⟩
theorem r_M_letFall_0 : Wp L d k_M_letFall 0 [l0, l1, l2, l3] [] σ Q ↔ Wp L d k_M_letFall 1 [l0, l1, l2, l3] [vI 0] σ Q := wp_push rfl
theorem r_M_letFall_1 : Wp L d k_M_letFall 1 [l0, vI a1, l2, l3] [vI s0] σ Q ↔ Wp L d k_M_letFall 2 [l0, vI a1, vI s0, l3] [] σ Q := wp_istore (i := 2) (ls := [l0, vI a1, l2, l3]) rfl rfl
theorem r_M_letFall_2 : Wp L d k_M_letFall 2 [vR b0, l1, l2, l3] [] σ Q ↔ Wp L d k_M_letFall 3 [vR b0, l1, l2, l3] [vR b0] σ Q := wp_aload rfl rfl
theorem r_M_letFall_3 : Wp L d k_M_letFall 3 [l0, vI a1, l2, l3] [vR c0] σ Q ↔ Wp L d k_M_letFall 4 [l0, vI a1, l2, l3] [vI a1, vR c0] σ Q := wp_iload rfl rfl
theorem r_M_letFall_7 : Wp L d k_M_letFall 7 [l0, l1, vI a2, l3] [vI s0] σ Q ↔ Wp L d k_M_letFall 8 [l0, l1, vI a2, vI s0] [] σ Q := wp_istore (i := 3) (ls := [l0, l1, vI a2, l3]) rfl rfl
theorem r_M_letFall_8 : Wp L d k_M_letFall 8 [l0, l1, l2, vI a3] [] σ Q ↔ Wp L d k_M_letFall 9 [l0, l1, l2, vI a3] [vI a3] σ Q := wp_iload rfl rfl
theorem r_M_letFall_9 : Wp L d k_M_letFall 9 [l0, l1, l2, l3] [vI s0] σ Q ↔ (if s0 < 0 then Wp L d k_M_letFall 36 [l0, l1, l2, l3] [] σ Q else Wp L d k_M_letFall 12 [l0, l1, l2, l3] [] σ Q) := wp_if_lt rfl
theorem r_M_letFall_12 : Wp L d k_M_letFall 12 [vR b0, l1, l2, l3] [] σ Q ↔ Wp L d k_M_letFall 13 [vR b0, l1, l2, l3] [vR b0] σ Q := wp_aload rfl rfl
theorem r_M_letFall_13 : Wp L d k_M_letFall 13 [l0, l1, l2, vI a3] [vR c0] σ Q ↔ Wp L d k_M_letFall 14 [l0, l1, l2, vI a3] [vI a3, vR c0] σ Q := wp_iload rfl rfl
theorem r_M_letFall_17 : Wp L d k_M_letFall 17 [vR b0, l1, l2, l3] [] σ Q ↔ Wp L d k_M_letFall 18 [vR b0, l1, l2, l3] [vR b0] σ Q := wp_aload rfl rfl
theorem r_M_letFall_18 (h : gK c0 = 12) : Wp L d k_M_letFall 18 [l0, l1, l2, l3] [vR c0] σ Q ↔ Wp L d k_M_letFall 21 [l0, l1, l2, l3] [vR (gq c0 7)] σ Q := wp_getR (c := 3207) rfl rfl rfl rfl rfl h
theorem r_M_letFall_21 : Wp L d k_M_letFall 21 [l0, l1, vI a2, l3] [vR c0] σ Q ↔ Wp L d k_M_letFall 22 [l0, l1, vI a2, l3] [vI a2, vR c0] σ Q := wp_iload rfl rfl
theorem r_M_letFall_22 : Wp L d k_M_letFall 22 [l0, l1, l2, vI a3] [vI s1, vR c0] σ Q ↔ Wp L d k_M_letFall 23 [l0, l1, l2, vI a3] [vI a3, vI s1, vR c0] σ Q := wp_iload rfl rfl
theorem r_M_letFall_23 (h : gK c0 = 100) (hx : 0 ≤ s1 ∧ s1 < gN c0) : Wp L d k_M_letFall 23 [l0, l1, l2, l3] [vI s2, vI s1, vR c0] σ Q ↔ Wp L d k_M_letFall 24 [l0, l1, l2, l3] [] (gupd σ c0 s1.toNat s2) Q := wp_iast rfl h hx
theorem r_M_letFall_24 : Wp L d k_M_letFall 24 [l0, vI a1, vI a2, l3] [] σ Q ↔ Wp L d k_M_letFall 27 [l0, vI a1, vI (w32 (a2 + 1)), l3] [] σ Q := wp_iinc (i := 2) (ls := [l0, vI a1, vI a2, l3]) rfl rfl
theorem r_M_letFall_27 : Wp L d k_M_letFall 27 [vR b0, l1, l2, l3] [] σ Q ↔ Wp L d k_M_letFall 28 [vR b0, l1, l2, l3] [vR b0] σ Q := wp_aload rfl rfl
theorem r_M_letFall_28 : Wp L d k_M_letFall 28 [l0, vI a1, l2, l3] [vR c0] σ Q ↔ Wp L d k_M_letFall 29 [l0, vI a1, l2, l3] [vI a1, vR c0] σ Q := wp_iload rfl rfl
theorem r_M_letFall_32 : Wp L d k_M_letFall 32 [l0, l1, vI a2, l3] [vI s0] σ Q ↔ Wp L d k_M_letFall 33 [l0, l1, vI a2, vI s0] [] σ Q := wp_istore (i := 3) (ls := [l0, l1, vI a2, l3]) rfl rfl
theorem r_M_letFall_33 : Wp L d k_M_letFall 33 [l0, l1, l2, l3] [] σ Q ↔ Wp L d k_M_letFall 8 [l0, l1, l2, l3] [] σ Q := wp_goto rfl
theorem r_M_letFall_36 : Wp L d k_M_letFall 36 [l0, l1, vI a2, l3] [] σ Q ↔ Wp L d k_M_letFall 37 [l0, l1, vI a2, l3] [vI a2] σ Q := wp_iload rfl rfl
theorem r_M_letFall_37 : Wp L d k_M_letFall 37 [l0, l1, l2, l3] [vI s0] σ Q ↔ Q (some (vI s0)) σ := wp_iret rfl
theorem r_M_letFall_4 (hw : WB (σ 294)) (h1 : 0 ≤ s1 ∧ s1 ≤ 99) : Wp L (d + 6) k_M_letFall 4 [l0, l1, l2, l3] [vI s1, vR 293] σ Q ↔ Wp L (d + 6) k_M_letFall 7 [l0, l1, l2, l3] [vI (brfi (σ 294) s1 (σ 294 1).toNat)] σ Q := wp_callR (d := d + 5) (as := [vR 293, vI s1]) (rest := []) rfl rfl rfl rfl rfl rfl rfl (grecv_k (by rw [gK_293]) rfl) (sp_M_goesFirst hw h1)
theorem r_M_letFall_14 (hw : WB (σ 294)) (h : 0 ≤ s1 ∧ s1 < σ 294 1) : Wp L (d + 6) k_M_letFall 14 [l0, l1, l2, l3] [vI s1, vR 293] σ Q ↔ Wp L (d + 6) k_M_letFall 17 [l0, l1, l2, l3] [] (gsr σ 294 (brgo (σ 294) s1.toNat)) Q := wp_callR (d := d + 5) (as := [vR 293, vI s1]) (rest := []) rfl rfl rfl rfl rfl rfl rfl (grecv_k (by rw [gK_293]) rfl) (sp_M_goes hw h)
theorem r_M_letFall_29 (hw : WB (σ 294)) (h1 : 0 ≤ s1 ∧ s1 ≤ 99) : Wp L (d + 6) k_M_letFall 29 [l0, l1, l2, l3] [vI s1, vR 293] σ Q ↔ Wp L (d + 6) k_M_letFall 32 [l0, l1, l2, l3] [vI (brfi (σ 294) s1 (σ 294 1).toNat)] σ Q := wp_callR (d := d + 5) (as := [vR 293, vI s1]) (rest := []) rfl rfl rfl rfl rfl rfl rfl (grecv_k (by rw [gK_293]) rfl) (sp_M_goesFirst hw h1)
theorem sp_M_letFall {n : Nat} (hw : WB (σ 294)) (h : 0 ≤ a1 ∧ a1 ≤ 99) (hn : brN (σ 294) a1 n) : ∃ σ', Run L (d + 6) 230 [vR 293, vI a1] σ (some (vI (n : Int))) σ' ∧ σ' 294 = brit a1 n (σ 294) ∧ (∀ j : Nat, j < n → σ' 300 j = brfi (brit a1 j (σ 294)) a1 (σ 294 1).toNat) ∧ Agr σ σ' (fun k _ => k = 294 ∨ k = 300) := by
  refine Run_ex (C' := k_M_letFall) rfl ?_
  show Wp L (d + 6) k_M_letFall 0 [vR 293, vI a1, vU, vU] [] σ _
  obtain ⟨K293, Q293, K294, N294⟩ := litM
  have K300 := gK_300
  have N300 := gN_300
  have w2 := hw.2.1
  obtain ⟨hn1, hn2, hn3⟩ := hn
  simp (disch := first | assumption | exact gb_01 _ | omega) only [r_M_letFall_0, r_M_letFall_1, r_M_letFall_2, r_M_letFall_3, r_M_letFall_4, r_M_letFall_7, r_M_letFall_9, r_M_letFall_12, r_M_letFall_13, r_M_letFall_14, r_M_letFall_17, r_M_letFall_18, r_M_letFall_21, r_M_letFall_22, r_M_letFall_23, r_M_letFall_24, r_M_letFall_27, r_M_letFall_28, r_M_letFall_29, r_M_letFall_32, r_M_letFall_33, r_M_letFall_36, r_M_letFall_37, Q293, gq_293_7, w32_gb, w32i, tn_add, tn_mul, Int.toNat_natCast, Int.toNat_zero, Int.reduceLE, Int.reduceLT, Int.reduceEq, Int.reduceNe, gb_T, gb_F, Int.reduceToNat, eq_self, true_or, or_true, and_true, true_and, and_self, ↓ite_gb0, ↓ite_gbn, ↓if_pos, ↓if_neg, if_true, if_false, not_true_eq_false, not_false_eq_true, gb_ne0, gb_eq0]
  refine wloop (n := n) (I := fun k ls τ => ls = [vR 293, vI a1, vI (k : Int), vI (brfi (brit a1 k (σ 294)) a1 (σ 294 1).toNat)] ∧ τ 294 = brit a1 k (σ 294) ∧ (∀ j : Nat, j < k → τ 300 j = brfi (brit a1 j (σ 294)) a1 (σ 294 1).toNat) ∧ Agr σ τ (fun k _ => k = 294 ∨ k = 300)) (fun k ls τ hk hi hq => ?_) (fun ls τ hi => ?_) n 0 (by omega) _ _ ⟨rfl, rfl, fun j hj => by omega, Agr_refl _ _⟩
  · obtain ⟨rfl, h1, h2, hA⟩ := hi
    obtain ⟨hw1, hs1⟩ := brit_ok a1 hw k
    have e1 := brit_1 a1 hw k
    have x := hn1 k hk
    have y := brfi_bd (brit a1 k (σ 294)) a1 (σ 294 1).toNat
    have z := brit_s hw x
    have hwτ : WB (τ 294) := by rw [h1]; exact hw1
    have eτ : τ 294 1 = σ 294 1 := by rw [h1]; exact e1
    have hw2 : WB (gupd (gsr τ 294 (brgo (τ 294) (brfi (brit a1 k (σ 294)) a1 (σ 294 1).toNat).toNat)) 300 k (brfi (brit a1 k (σ 294)) a1 (σ 294 1).toNat) 294) := by
      rw [gupd_rw (by omega), gsr_eq, h1]
      exact (brgo_ok hw1 _ (by omega)).1
    have e3 : gupd (gsr τ 294 (brgo (τ 294) (brfi (brit a1 k (σ 294)) a1 (σ 294 1).toNat).toNat)) 300 k (brfi (brit a1 k (σ 294)) a1 (σ 294 1).toNat) 294 = brit a1 (k + 1) (σ 294) := by
      rw [gupd_rw (by omega), gsr_eq, h1]
      exact z.symm
    have e4 := brit_1 a1 hw (k + 1)
    rw [r_M_letFall_8]
    simp (disch := first | assumption | exact gb_01 _ | omega) only [r_M_letFall_0, r_M_letFall_1, r_M_letFall_2, r_M_letFall_3, r_M_letFall_4, r_M_letFall_7, r_M_letFall_9, r_M_letFall_12, r_M_letFall_13, r_M_letFall_14, r_M_letFall_17, r_M_letFall_18, r_M_letFall_21, r_M_letFall_22, r_M_letFall_23, r_M_letFall_24, r_M_letFall_27, r_M_letFall_28, r_M_letFall_29, r_M_letFall_32, r_M_letFall_33, r_M_letFall_36, r_M_letFall_37, Q293, gq_293_7, w32_gb, w32i, tn_add, tn_mul, Int.toNat_natCast, Int.toNat_zero, Int.reduceLE, Int.reduceLT, Int.reduceEq, Int.reduceNe, gb_T, gb_F, Int.reduceToNat, eq_self, true_or, or_true, and_true, true_and, and_self, ↓ite_gb0, ↓ite_gbn, ↓if_pos, ↓if_neg, if_true, if_false, not_true_eq_false, not_false_eq_true, gb_ne0, gb_eq0]
    refine hq _ _ ⟨?_, e3, fun j hj => ?_, Agr_upd (fun k' j' hn => ?_) (Or.inr rfl)⟩
    · rw [e3, e4]
      simp only [List.cons.injEq, vI_inj, vR_inj, and_true, true_and]
      omega
    · by_cases e : j = k
      · rw [e, gupd_eq]
      · rw [gupd_ne (by omega), gsr_ne (by omega)]
        exact h2 j (by omega)
    · rw [gsr_ne (by omega)]
      exact hA k' j' hn
  · obtain ⟨rfl, h1, h2, hA⟩ := hi
    rw [r_M_letFall_8]
    simp (disch := first | assumption | exact gb_01 _ | omega) only [r_M_letFall_0, r_M_letFall_1, r_M_letFall_2, r_M_letFall_3, r_M_letFall_4, r_M_letFall_7, r_M_letFall_9, r_M_letFall_12, r_M_letFall_13, r_M_letFall_14, r_M_letFall_17, r_M_letFall_18, r_M_letFall_21, r_M_letFall_22, r_M_letFall_23, r_M_letFall_24, r_M_letFall_27, r_M_letFall_28, r_M_letFall_29, r_M_letFall_32, r_M_letFall_33, r_M_letFall_36, r_M_letFall_37, Q293, gq_293_7, w32_gb, w32i, tn_add, tn_mul, Int.toNat_natCast, Int.toNat_zero, Int.reduceLE, Int.reduceLT, Int.reduceEq, Int.reduceNe, gb_T, gb_F, Int.reduceToNat, eq_self, true_or, or_true, and_true, true_and, and_self, ↓ite_gb0, ↓ite_gbn, ↓if_pos, ↓if_neg, if_true, if_false, not_true_eq_false, not_false_eq_true, gb_ne0, gb_eq0]
    exact ⟨h1, h2, hA⟩
theorem r_X_fall_0 : Wp L d k_X_fall 0 [l0, vI a1] [] σ Q ↔ Wp L d k_X_fall 1 [l0, vI a1] [vI a1] σ Q := wp_iload rfl rfl
theorem r_X_fall_4 : Wp L d k_X_fall 4 [l0, l1] [vI s0] σ Q ↔ (if s0 = 0 then Wp L d k_X_fall 18 [l0, l1] [] σ Q else Wp L d k_X_fall 7 [l0, l1] [] σ Q) := wp_if_eq rfl
theorem r_X_fall_7 : Wp L d k_X_fall 7 [vR b0, l1] [] σ Q ↔ Wp L d k_X_fall 8 [vR b0, l1] [vR b0] σ Q := wp_aload rfl rfl
theorem r_X_fall_8 (h : gK c0 = 0) : Wp L d k_X_fall 8 [l0, l1] [vR c0] σ Q ↔ Wp L d k_X_fall 11 [l0, l1] [vR (gq c0 1)] σ Q := wp_getR (c := 129) rfl rfl rfl rfl rfl h
theorem r_X_fall_11 : Wp L d k_X_fall 11 [l0, vI a1] [vR c0] σ Q ↔ Wp L d k_X_fall 12 [l0, vI a1] [vI a1, vR c0] σ Q := wp_iload rfl rfl
theorem c_X_fall_12 (hR : Run L d 104 [vR c0, vI s1] σ r σ1) (h : gK c0 = 1) : Wp L (d + 1) k_X_fall 12 [l0, l1] [vI s1, vR c0] σ Q ↔ Wp L (d + 1) k_X_fall 15 [l0, l1] (r.toList ++ []) σ1 Q := wp_callR (as := [vR c0, vI s1]) (rest := []) rfl rfl rfl rfl rfl rfl rfl (grecv_k (by rw [h]) rfl) hR
theorem r_X_fall_15 : Wp L d k_X_fall 15 [l0, l1] [vI s0] σ Q ↔ Wp L d k_X_fall 20 [l0, l1] [vI s0] σ Q := wp_goto rfl
theorem r_X_fall_18 : Wp L d k_X_fall 18 [l0, l1] [] σ Q ↔ Wp L d k_X_fall 20 [l0, l1] [vI (-1000000001)] σ Q := wp_push rfl
theorem r_X_fall_20 : Wp L d k_X_fall 20 [l0, l1] [vI s0] σ Q ↔ Q (some (vI s0)) σ := wp_iret rfl
theorem r_X_fall_1 : Wp L (d + 4) k_X_fall 1 [l0, l1] [vI s0] σ Q ↔ Wp L (d + 4) k_X_fall 4 [l0, l1] [vI (gb (0 ≤ s0 ∧ s0 ≤ 99))] σ Q := wp_callR (d := d + 3) (as := [vI s0]) (rest := []) rfl rfl rfl rfl rfl rfl rfl rfl (sp_X_isGust)
theorem sp_X_fall_b (h : ¬ (0 ≤ a1 ∧ a1 ≤ 99)) : Run L (d + 4) 34 [vR 27, vI a1] σ (some (vI (-1000000001))) σ := by
  refine Run_of (C' := k_X_fall) rfl ?_
  show Wp L (d + 4) k_X_fall 0 [vR 27, vI a1] [] σ _
  obtain ⟨K27, K28, K29, K78, K97, K99, K109, K123, K125, K279, K282⟩ := litX
  simp (disch := first | assumption | exact gb_01 _ | omega) only [r_X_fall_0, r_X_fall_1, r_X_fall_4, r_X_fall_7, r_X_fall_8, r_X_fall_11, r_X_fall_15, r_X_fall_18, r_X_fall_20, gq_27_0, gq_27_1, gq_27_2, gq_27_3, gq_27_4, gq_27_5, gq_27_6, gq_28_0, gq_28_1, gq_28_2, gq_28_3, gq_28_4, gq_28_5, gq_28_6, w32_gb, w32i, tn_add, tn_mul, Int.toNat_natCast, Int.toNat_zero, Int.reduceLE, Int.reduceLT, Int.reduceEq, Int.reduceNe, gb_T, gb_F, Int.reduceToNat, eq_self, true_or, or_true, and_true, true_and, and_self, ↓ite_gb0, ↓ite_gbn, ↓if_pos, ↓if_neg, if_true, if_false, not_true_eq_false, not_false_eq_true, gb_ne0, gb_eq0]
theorem r_M_fall_0 : Wp L d k_M_fall 0 [l0, vI a1] [] σ Q ↔ Wp L d k_M_fall 1 [l0, vI a1] [vI a1] σ Q := wp_iload rfl rfl
theorem r_M_fall_4 : Wp L d k_M_fall 4 [l0, l1] [vI s0] σ Q ↔ (if s0 = 0 then Wp L d k_M_fall 15 [l0, l1] [] σ Q else Wp L d k_M_fall 7 [l0, l1] [] σ Q) := wp_if_eq rfl
theorem r_M_fall_7 : Wp L d k_M_fall 7 [vR b0, l1] [] σ Q ↔ Wp L d k_M_fall 8 [vR b0, l1] [vR b0] σ Q := wp_aload rfl rfl
theorem r_M_fall_8 : Wp L d k_M_fall 8 [l0, vI a1] [vR c0] σ Q ↔ Wp L d k_M_fall 9 [l0, vI a1] [vI a1, vR c0] σ Q := wp_iload rfl rfl
theorem c_M_fall_9 (hR : Run L d 230 [vR c0, vI s1] σ r σ1) (h : gK c0 = 12) : Wp L (d + 1) k_M_fall 9 [l0, l1] [vI s1, vR c0] σ Q ↔ Wp L (d + 1) k_M_fall 12 [l0, l1] (r.toList ++ []) σ1 Q := wp_callR (as := [vR c0, vI s1]) (rest := []) rfl rfl rfl rfl rfl rfl rfl (grecv_k (by rw [h]) rfl) hR
theorem r_M_fall_12 : Wp L d k_M_fall 12 [l0, l1] [vI s0] σ Q ↔ Wp L d k_M_fall 17 [l0, l1] [vI s0] σ Q := wp_goto rfl
theorem r_M_fall_15 : Wp L d k_M_fall 15 [l0, l1] [] σ Q ↔ Wp L d k_M_fall 17 [l0, l1] [vI (-1000000001)] σ Q := wp_push rfl
theorem r_M_fall_17 : Wp L d k_M_fall 17 [l0, l1] [vI s0] σ Q ↔ Q (some (vI s0)) σ := wp_iret rfl
theorem r_M_fall_1 : Wp L (d + 7) k_M_fall 1 [l0, l1] [vI s0] σ Q ↔ Wp L (d + 7) k_M_fall 4 [l0, l1] [vI (gb (0 ≤ s0 ∧ s0 ≤ 99))] σ Q := wp_callR (d := d + 6) (as := [vI s0]) (rest := []) rfl rfl rfl rfl rfl rfl rfl rfl (sp_M_isGust)
theorem sp_M_fall_b (h : ¬ (0 ≤ a1 ∧ a1 ≤ 99)) : Run L (d + 7) 229 [vR 293, vI a1] σ (some (vI (-1000000001))) σ := by
  refine Run_of (C' := k_M_fall) rfl ?_
  show Wp L (d + 7) k_M_fall 0 [vR 293, vI a1] [] σ _
  obtain ⟨K293, Q293, K294, N294⟩ := litM
  simp (disch := first | assumption | exact gb_01 _ | omega) only [r_M_fall_0, r_M_fall_1, r_M_fall_4, r_M_fall_7, r_M_fall_8, r_M_fall_12, r_M_fall_15, r_M_fall_17, Q293, w32_gb, w32i, tn_add, tn_mul, Int.toNat_natCast, Int.toNat_zero, Int.reduceLE, Int.reduceLT, Int.reduceEq, Int.reduceNe, gb_T, gb_F, Int.reduceToNat, eq_self, true_or, or_true, and_true, true_and, and_self, ↓ite_gb0, ↓ite_gbn, ↓if_pos, ↓if_neg, if_true, if_false, not_true_eq_false, not_false_eq_true, gb_ne0, gb_eq0]
theorem sp_X_fall {f : Nat → Int} {n : Nat} (hw : WB f) (hc : CB 29 f σ) (h : 0 ≤ a1 ∧ a1 ≤ 99) (hn : brN f a1 n) : ∃ σ', Run L (d + 4) 34 [vR 27, vI a1] σ (some (vI (n : Int))) σ' ∧ CB 29 (brit a1 n f) σ' ∧ Agr σ σ' (ZBr 29) := by
  refine Run_ex (C' := k_X_fall) rfl ?_
  show Wp L (d + 4) k_X_fall 0 [vR 27, vI a1] [] σ _
  obtain ⟨K27, K28, K29, K78, K97, K99, K109, K123, K125, K279, K282⟩ := litX
  obtain ⟨τ, hR, hh⟩ := sp_B_collapse (L := L) (d := d + 0) BR29 hw hc h hn
  simp (disch := first | assumption | exact gb_01 _ | omega) only [r_X_fall_0, r_X_fall_1, r_X_fall_4, r_X_fall_7, r_X_fall_8, r_X_fall_11, r_X_fall_15, r_X_fall_18, r_X_fall_20, c_X_fall_12 hR, Option.toList, List.singleton_append, List.cons_append, List.nil_append, List.append_nil, gq_27_0, gq_27_1, gq_27_2, gq_27_3, gq_27_4, gq_27_5, gq_27_6, gq_28_0, gq_28_1, gq_28_2, gq_28_3, gq_28_4, gq_28_5, gq_28_6, w32_gb, w32i, tn_add, tn_mul, Int.toNat_natCast, Int.toNat_zero, Int.reduceLE, Int.reduceLT, Int.reduceEq, Int.reduceNe, gb_T, gb_F, Int.reduceToNat, eq_self, true_or, or_true, and_true, true_and, and_self, ↓ite_gb0, ↓ite_gbn, ↓if_pos, ↓if_neg, if_true, if_false, not_true_eq_false, not_false_eq_true, gb_ne0, gb_eq0]
  exact hh
theorem sp_M_fall {n : Nat} (hw : WB (σ 294)) (h : 0 ≤ a1 ∧ a1 ≤ 99) (hn : brN (σ 294) a1 n) : ∃ σ', Run L (d + 7) 229 [vR 293, vI a1] σ (some (vI (n : Int))) σ' ∧ σ' 294 = brit a1 n (σ 294) ∧ Agr σ σ' (fun k _ => k = 294 ∨ k = 300) := by
  refine Run_ex (C' := k_M_fall) rfl ?_
  show Wp L (d + 7) k_M_fall 0 [vR 293, vI a1] [] σ _
  obtain ⟨K293, Q293, K294, N294⟩ := litM
  obtain ⟨τ, hR, h1, -, h2⟩ := sp_M_letFall (L := L) (d := d + 0) hw h hn
  simp (disch := first | assumption | exact gb_01 _ | omega) only [r_M_fall_0, r_M_fall_1, r_M_fall_4, r_M_fall_7, r_M_fall_8, r_M_fall_12, r_M_fall_15, r_M_fall_17, c_M_fall_9 hR, Option.toList, List.singleton_append, List.cons_append, List.nil_append, List.append_nil, Q293, w32_gb, w32i, tn_add, tn_mul, Int.toNat_natCast, Int.toNat_zero, Int.reduceLE, Int.reduceLT, Int.reduceEq, Int.reduceNe, gb_T, gb_F, Int.reduceToNat, eq_self, true_or, or_true, and_true, true_and, and_self, ↓ite_gb0, ↓ite_gbn, ↓if_pos, ↓if_neg, if_true, if_false, not_true_eq_false, not_false_eq_true, gb_ne0, gb_eq0]
  exact ⟨h1, h2⟩
/-- both sides changed the bridge alike -/
theorem Inv_two {σ σ1 σ2 : gMm} {g : Nat → Int} (hI : Inv σ) (h1 : Agr σ σ1 (fun k j => (29 ≤ k ∧ k ≤ 77) ∨ ZFr k j)) (hc : CB 29 g σ1) (h2 : Agr σ1 σ2 (fun k j => k = 294 ∨ k ≠ 294 ∧ (k < 29 ∨ 77 < k) ∧ ZFr k j)) (e : σ2 294 = g) (hw : WB g) (hs : SB (σ 294) g) : Inv σ2 := by
  refine Inv_bridge hI (fun k j hn => ?_) (by rw [e]; exact hw) (by rw [e]; exact CB_agr (fun k j hk => h2 k j (by omega)) hw hc)
  by_cases z : k = 294
  · subst z
    rw [e]
    exact hs j (fun x => hn (Or.inr (Or.inr ⟨rfl, x⟩)))
  · rw [h2 k j (fun x => hn (by rcases x with x | x; exact absurd x z; exact Or.inr (Or.inl x.2.2)))]
    exact h1 k j (fun x => hn (by rcases x with x | x; exact Or.inl x; exact Or.inr (Or.inl x)))
theorem op_fall (a1 : Int) : Op 34 229 [vI a1] := by
  intro L d σ hI
  obtain ⟨hw, hc⟩ := iB hI
  have w1 := hw.1
  have w2 := hw.2.1
  have c1 := hc.1
  have c2 := hc.2.1
  have hp : w32 (σ 29 9 - 1) = σ 29 9 - 1 := w32i (by omega)
  have hm : w32 (σ 294 1 - 1) = σ 294 1 - 1 := w32i (by omega)
  
  by_cases h : 0 ≤ a1 ∧ a1 ≤ 99
  · obtain ⟨n, hn⟩ := brN_ex hw a1
    obtain ⟨σ1, hR1, hc1, hA1⟩ := sp_X_fall (L := L) (d := d + 996) hw hc h hn
    have e : σ1 294 = σ 294 := funext (fun j => hA1 294 j (by unfold ZBr; omega))
    obtain ⟨σ2, hR2, h2, hA2⟩ := sp_M_fall (L := L) (d := d + 993) (σ := σ1) (n := n) (a1 := a1) (by rw [e]; exact hw) h (by rw [e]; exact hn)
    rw [e] at h2
    obtain ⟨k1, k2⟩ := brit_ok a1 hw n
    exact ⟨_, _, _, hR1, hR2, Inv_two hI (Agr_mono hA1 (fun k j hk => by unfold ZBr at hk; omega)) hc1 (Agr_mono hA2 (fun k j hk => by unfold ZFr; omega)) h2 k1 k2⟩
  · exact ⟨_, _, _, sp_X_fall_b h, sp_M_fall_b h, hI⟩
