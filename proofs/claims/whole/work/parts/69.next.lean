/-! next. -/
variable {L d : Nat} {σ σ1 : Nat → Nat → Int} {Q : Option gV → (Nat → Nat → Int) → Prop} {a0 a1 a2 a3 a4 a5 a6 a7 a8 a9 a10 a11 s0 s1 s2 s3 s4 s5 s6 s7 s8 s9 : Int} {l0 l1 l2 l3 l4 l5 l6 l7 l8 l9 l10 l11 t0 t1 t2 t3 t4 t5 t6 t7 t8 t9 : gV} {b0 b1 b2 b3 b4 b5 b6 b7 b8 b9 b10 b11 c0 c1 c2 c3 c4 c5 c6 c7 c8 c9 : Nat} {r : Option gV}
def cpr (a b : Nat → Int) : Nat → Int := fun j => if j < 3540 then a j else b j
theorem litA : gq 293 1 = 295 ∧ gq 293 2 = 296 ∧ gK 295 = 100 ∧ gK 296 = 100 ∧ ((gN 295 : Nat) : Int) = 3540 ∧ ((gN 296 : Nat) : Int) = 3540 := by decide +kernel
theorem r_M_setAside_0 : Wp L d k_M_setAside 0 [l0, l1, l2, l3] [] σ Q ↔ Wp L d k_M_setAside 1 [l0, l1, l2, l3] [vI 0] σ Q := wp_push rfl
theorem r_M_setAside_1 : Wp L d k_M_setAside 1 [l0, l1, vR b2, l3] [vI s0] σ Q ↔ Wp L d k_M_setAside 2 [l0, l1, vR b2, vI s0] [] σ Q := wp_istore (i := 3) (ls := [l0, l1, vR b2, l3]) rfl rfl
theorem r_M_setAside_2 : Wp L d k_M_setAside 2 [l0, l1, l2, vI a3] [] σ Q ↔ Wp L d k_M_setAside 3 [l0, l1, l2, vI a3] [vI a3] σ Q := wp_iload rfl rfl
theorem r_M_setAside_3 : Wp L d k_M_setAside 3 [l0, l1, l2, l3] [vI s0] σ Q ↔ Wp L d k_M_setAside 6 [l0, l1, l2, l3] [vI 3540, vI s0] σ Q := wp_push rfl
theorem r_M_setAside_6 : Wp L d k_M_setAside 6 [l0, l1, l2, l3] [vI s1, vI s0] σ Q ↔ (if s1 ≤ s0 then Wp L d k_M_setAside 21 [l0, l1, l2, l3] [] σ Q else Wp L d k_M_setAside 9 [l0, l1, l2, l3] [] σ Q) := wp_cmp_ge rfl
theorem r_M_setAside_9 : Wp L d k_M_setAside 9 [l0, l1, vR b2, l3] [] σ Q ↔ Wp L d k_M_setAside 10 [l0, l1, vR b2, l3] [vR b2] σ Q := wp_aload rfl rfl
theorem r_M_setAside_10 : Wp L d k_M_setAside 10 [l0, l1, l2, vI a3] [vR c0] σ Q ↔ Wp L d k_M_setAside 11 [l0, l1, l2, vI a3] [vI a3, vR c0] σ Q := wp_iload rfl rfl
theorem r_M_setAside_11 : Wp L d k_M_setAside 11 [l0, vR b1, l2, l3] [vI s1, vR c0] σ Q ↔ Wp L d k_M_setAside 12 [l0, vR b1, l2, l3] [vR b1, vI s1, vR c0] σ Q := wp_aload rfl rfl
theorem r_M_setAside_12 : Wp L d k_M_setAside 12 [l0, l1, l2, vI a3] [vR c2, vI s1, vR c0] σ Q ↔ Wp L d k_M_setAside 13 [l0, l1, l2, vI a3] [vI a3, vR c2, vI s1, vR c0] σ Q := wp_iload rfl rfl
theorem r_M_setAside_13 (h : gK c2 = 100) (hx : 0 ≤ s3 ∧ s3 < gN c2) : Wp L d k_M_setAside 13 [l0, l1, l2, l3] [vI s3, vR c2, vI s1, vR c0] σ Q ↔ Wp L d k_M_setAside 14 [l0, l1, l2, l3] [vI (σ c2 s3.toNat), vI s1, vR c0] σ Q := wp_iald rfl h hx
theorem r_M_setAside_14 (h : gK c0 = 100) (hx : 0 ≤ s1 ∧ s1 < gN c0) : Wp L d k_M_setAside 14 [l0, l1, l2, l3] [vI s2, vI s1, vR c0] σ Q ↔ Wp L d k_M_setAside 15 [l0, l1, l2, l3] [] (gupd σ c0 s1.toNat s2) Q := wp_iast rfl h hx
theorem r_M_setAside_15 : Wp L d k_M_setAside 15 [l0, l1, vR b2, vI a3] [] σ Q ↔ Wp L d k_M_setAside 18 [l0, l1, vR b2, vI (w32 (a3 + 1))] [] σ Q := wp_iinc (i := 3) (ls := [l0, l1, vR b2, vI a3]) rfl rfl
theorem r_M_setAside_18 : Wp L d k_M_setAside 18 [l0, l1, l2, l3] [] σ Q ↔ Wp L d k_M_setAside 2 [l0, l1, l2, l3] [] σ Q := wp_goto rfl
theorem r_M_setAside_21 : Wp L d k_M_setAside 21 [l0, l1, l2, l3] [] σ Q ↔ Q none σ := wp_vret rfl
theorem sp_M_setAside (k1 : gK b1 = 100) (k2 : gK b2 = 100) (z1 : ((gN b1 : Nat) : Int) = 3540) (z2 : ((gN b2 : Nat) : Int) = 3540) (hne : b1 ≠ b2) : Run L d 233 [vR 293, vR b1, vR b2] σ none (gsr σ b2 (cpr (σ b1) (σ b2))) := by
  refine Run_of (C' := k_M_setAside) rfl ?_
  show Wp L d k_M_setAside 0 [vR 293, vR b1, vR b2, vU] [] σ _

  simp only [r_M_setAside_0, r_M_setAside_1, r_M_setAside_3, r_M_setAside_6, r_M_setAside_9, r_M_setAside_10, r_M_setAside_11, r_M_setAside_12, r_M_setAside_13, r_M_setAside_14, r_M_setAside_15, r_M_setAside_18, r_M_setAside_21]
  refine wl 3540 (fun k => [vR 293, vR b1, vR b2, vI (k : Int)]) (fun k => gsr σ b2 (fun j => if j < k then σ b1 j else σ b2 j)) rfl (by
    have : (fun j => if j < 0 then σ b1 j else σ b2 j) = σ b2 := funext (fun j => if_neg (by omega))
    rw [this, gsr_id]) (fun k hk hq => ?_) ?_
  · have e : gsr σ b2 (fun j => if j < k then σ b1 j else σ b2 j) b1 = σ b1 := gsr_ne hne
    rw [r_M_setAside_2]
    simp (disch := first | assumption | exact gb_01 _ | omega) only [r_M_setAside_0, r_M_setAside_1, r_M_setAside_3, r_M_setAside_6, r_M_setAside_9, r_M_setAside_10, r_M_setAside_11, r_M_setAside_12, r_M_setAside_13, r_M_setAside_14, r_M_setAside_15, r_M_setAside_18, r_M_setAside_21, e, gsr_upd, w32_gb, w32i, tn_add, tn_mul, Int.toNat_natCast, Int.toNat_zero, Int.reduceLE, Int.reduceLT, Int.reduceEq, Int.reduceNe, gb_T, gb_F, Int.reduceToNat, eq_self, true_or, or_true, and_true, true_and, and_self, ↓ite_gb0, ↓ite_gbn, ↓if_pos, ↓if_neg, if_true, if_false, not_true_eq_false, not_false_eq_true, gb_ne0, gb_eq0]
    refine hq _ _ (by simp only [List.cons.injEq, vI_inj, vR_inj, and_true, true_and]; omega) ?_
    congr 1
    funext j
    unfold fu
    by_cases c : j = k
    · rw [if_pos c, if_pos (by omega), c]
    · rw [if_neg c]
      show (if j < k then σ b1 j else σ b2 j) = _
      by_cases c2 : j < k
      · rw [if_pos c2, if_pos (by omega)]
      · rw [if_neg c2, if_neg (by omega)]
  · rw [r_M_setAside_2]
    simp (disch := first | assumption | exact gb_01 _ | omega) only [r_M_setAside_0, r_M_setAside_1, r_M_setAside_3, r_M_setAside_6, r_M_setAside_9, r_M_setAside_10, r_M_setAside_11, r_M_setAside_12, r_M_setAside_13, r_M_setAside_14, r_M_setAside_15, r_M_setAside_18, r_M_setAside_21, w32_gb, w32i, tn_add, tn_mul, Int.toNat_natCast, Int.toNat_zero, Int.reduceLE, Int.reduceLT, Int.reduceEq, Int.reduceNe, gb_T, gb_F, Int.reduceToNat, eq_self, true_or, or_true, and_true, true_and, and_self, ↓ite_gb0, ↓ite_gbn, ↓if_pos, ↓if_neg, if_true, if_false, not_true_eq_false, not_false_eq_true, gb_ne0, gb_eq0]
    rfl
theorem r_B_goingAs_0 : Wp L d k_B_goingAs 0 [l0, l1, l2, l3, l4] [] σ Q ↔ Wp L d k_B_goingAs 1 [l0, l1, l2, l3, l4] [vI 0] σ Q := wp_push rfl
theorem r_B_goingAs_1 : Wp L d k_B_goingAs 1 [l0, l1, vI a2, l3, l4] [vI s0] σ Q ↔ Wp L d k_B_goingAs 2 [l0, l1, vI a2, vI s0, l4] [] σ Q := wp_istore (i := 3) (ls := [l0, l1, vI a2, l3, l4]) rfl rfl
theorem r_B_goingAs_2 : Wp L d k_B_goingAs 2 [l0, l1, l2, vI a3, l4] [] σ Q ↔ Wp L d k_B_goingAs 3 [l0, l1, l2, vI a3, l4] [vI a3] σ Q := wp_iload rfl rfl
theorem r_B_goingAs_3 : Wp L d k_B_goingAs 3 [l0, l1, l2, l3, l4] [vI s0] σ Q ↔ Wp L d k_B_goingAs 5 [l0, l1, l2, l3, l4] [vI 40, vI s0] σ Q := wp_push rfl
theorem r_B_goingAs_5 : Wp L d k_B_goingAs 5 [l0, l1, l2, l3, l4] [vI s1, vI s0] σ Q ↔ (if s1 ≤ s0 then Wp L d k_B_goingAs 47 [l0, l1, l2, l3, l4] [] σ Q else Wp L d k_B_goingAs 8 [l0, l1, l2, l3, l4] [] σ Q) := wp_cmp_ge rfl
theorem r_B_goingAs_8 : Wp L d k_B_goingAs 8 [vR b0, l1, l2, l3, l4] [] σ Q ↔ Wp L d k_B_goingAs 9 [vR b0, l1, l2, l3, l4] [vR b0] σ Q := wp_aload rfl rfl
theorem r_B_goingAs_9 : Wp L d k_B_goingAs 9 [l0, l1, vI a2, l3, l4] [vR c0] σ Q ↔ Wp L d k_B_goingAs 10 [l0, l1, vI a2, l3, l4] [vI a2, vR c0] σ Q := wp_iload rfl rfl
theorem c_B_goingAs_10 (hR : Run L d 101 [vR c0, vI s1] σ r σ1) (h : gK c0 = 1) : Wp L (d + 1) k_B_goingAs 10 [l0, l1, l2, l3, l4] [vI s1, vR c0] σ Q ↔ Wp L (d + 1) k_B_goingAs 13 [l0, l1, l2, l3, l4] (r.toList ++ []) σ1 Q := wp_callR (as := [vR c0, vI s1]) (rest := []) rfl rfl rfl rfl rfl rfl rfl (grecv_k (by rw [h]) rfl) hR
theorem r_B_goingAs_13 : Wp L d k_B_goingAs 13 [l0, l1, l2, vI a3, l4] [vI s0] σ Q ↔ Wp L d k_B_goingAs 15 [l0, l1, l2, vI a3, vI s0] [] σ Q := wp_istore (i := 4) (ls := [l0, l1, l2, vI a3, l4]) rfl rfl
theorem r_B_goingAs_15 : Wp L d k_B_goingAs 15 [l0, l1, l2, l3, vI a4] [] σ Q ↔ Wp L d k_B_goingAs 17 [l0, l1, l2, l3, vI a4] [vI a4] σ Q := wp_iload rfl rfl
theorem r_B_goingAs_17 : Wp L d k_B_goingAs 17 [l0, l1, l2, l3, l4] [vI s0] σ Q ↔ Wp L d k_B_goingAs 19 [l0, l1, l2, l3, l4] [vI (-1000000005), vI s0] σ Q := wp_push rfl
theorem r_B_goingAs_19 : Wp L d k_B_goingAs 19 [l0, l1, l2, l3, l4] [vI s1, vI s0] σ Q ↔ (if s0 = s1 then Wp L d k_B_goingAs 27 [l0, l1, l2, l3, l4] [] σ Q else Wp L d k_B_goingAs 22 [l0, l1, l2, l3, l4] [] σ Q) := wp_cmp_eq rfl
theorem r_B_goingAs_22 : Wp L d k_B_goingAs 22 [l0, l1, l2, vI a3, l4] [] σ Q ↔ Wp L d k_B_goingAs 23 [l0, l1, l2, vI a3, l4] [vI a3] σ Q := wp_iload rfl rfl
theorem r_B_goingAs_23 : Wp L d k_B_goingAs 23 [l0, vI a1, l2, l3, l4] [vI s0] σ Q ↔ Wp L d k_B_goingAs 24 [l0, vI a1, l2, l3, l4] [vI a1, vI s0] σ Q := wp_iload rfl rfl
theorem r_B_goingAs_24 : Wp L d k_B_goingAs 24 [l0, l1, l2, l3, l4] [vI s1, vI s0] σ Q ↔ (if s0 ≠ s1 then Wp L d k_B_goingAs 30 [l0, l1, l2, l3, l4] [] σ Q else Wp L d k_B_goingAs 27 [l0, l1, l2, l3, l4] [] σ Q) := wp_cmp_ne rfl
theorem r_B_goingAs_27 : Wp L d k_B_goingAs 27 [l0, l1, l2, l3, vI a4] [] σ Q ↔ Wp L d k_B_goingAs 29 [l0, l1, l2, l3, vI a4] [vI a4] σ Q := wp_iload rfl rfl
theorem r_B_goingAs_29 : Wp L d k_B_goingAs 29 [l0, l1, l2, l3, l4] [vI s0] σ Q ↔ Q (some (vI s0)) σ := wp_iret rfl
theorem r_B_goingAs_30 : Wp L d k_B_goingAs 30 [vR b0, l1, l2, l3, l4] [] σ Q ↔ Wp L d k_B_goingAs 31 [vR b0, l1, l2, l3, l4] [vR b0] σ Q := wp_aload rfl rfl
theorem r_B_goingAs_31 : Wp L d k_B_goingAs 31 [vR b0, l1, l2, l3, l4] [vR c0] σ Q ↔ Wp L d k_B_goingAs 32 [vR b0, l1, l2, l3, l4] [vR b0, vR c0] σ Q := wp_aload rfl rfl
theorem r_B_goingAs_32 (h : gK c1 = 1) : Wp L d k_B_goingAs 32 [l0, l1, l2, l3, l4] [vR c1, vR c0] σ Q ↔ Wp L d k_B_goingAs 35 [l0, l1, l2, l3, l4] [vR (gq c1 3), vR c0] σ Q := wp_getR (c := 387) rfl rfl rfl rfl rfl h
theorem r_B_goingAs_35 : Wp L d k_B_goingAs 35 [l0, l1, l2, l3, vI a4] [vR c1, vR c0] σ Q ↔ Wp L d k_B_goingAs 37 [l0, l1, l2, l3, vI a4] [vI a4, vR c1, vR c0] σ Q := wp_iload rfl rfl
theorem r_B_goingAs_37 (h : gK c1 = 102 ∨ gK c1 = 103) (hx : 0 ≤ s2 ∧ s2 < gN c1) : Wp L d k_B_goingAs 37 [l0, l1, l2, l3, l4] [vI s2, vR c1, vR c0] σ Q ↔ Wp L d k_B_goingAs 38 [l0, l1, l2, l3, l4] [vR (gq c1 s2.toNat), vR c0] σ Q := wp_aald rfl h hx
theorem c_B_goingAs_38 (hR : Run L d 105 [vR c0, vR c1] σ r σ1) (h : gK c0 = 1) : Wp L (d + 1) k_B_goingAs 38 [l0, l1, l2, l3, l4] [vR c1, vR c0] σ Q ↔ Wp L (d + 1) k_B_goingAs 41 [l0, l1, l2, l3, l4] (r.toList ++ []) σ1 Q := wp_callR (as := [vR c0, vR c1]) (rest := []) rfl rfl rfl rfl rfl rfl rfl (grecv_k (by rw [h]) rfl) hR
theorem r_B_goingAs_41 : Wp L d k_B_goingAs 41 [l0, l1, vI a2, vI a3, l4] [] σ Q ↔ Wp L d k_B_goingAs 44 [l0, l1, vI a2, vI (w32 (a3 + 1)), l4] [] σ Q := wp_iinc (i := 3) (ls := [l0, l1, vI a2, vI a3, l4]) rfl rfl
theorem r_B_goingAs_44 : Wp L d k_B_goingAs 44 [l0, l1, l2, l3, l4] [] σ Q ↔ Wp L d k_B_goingAs 2 [l0, l1, l2, l3, l4] [] σ Q := wp_goto rfl
theorem r_B_goingAs_47 : Wp L d k_B_goingAs 47 [l0, l1, l2, l3, l4] [] σ Q ↔ Wp L d k_B_goingAs 49 [l0, l1, l2, l3, l4] [vI (-1000000005)] σ Q := wp_push rfl
theorem r_B_goingAs_49 : Wp L d k_B_goingAs 49 [l0, l1, l2, l3, l4] [vI s0] σ Q ↔ Q (some (vI s0)) σ := wp_iret rfl
theorem sp_B_goingAs {b : Nat} {f : Nat → Int} {n : Nat} (hB : BR b) (hw : WB f) (hc : CB b f σ) (h : 0 ≤ a2 ∧ a2 ≤ 99) (h1 : 0 ≤ a1) (hn : brN f a2 n) : ∃ σ', Run L (d + 3) 110 [vR b, vI a1, vI a2] σ (some (vI (if a1 < (n : Int) then brfi (brit a2 a1.toNat f) a2 (f 1).toNat else -1000000005))) σ' ∧ Agr σ σ' (ZBr b) := by
  refine Run_ex (C' := k_B_goingAs) rfl ?_
  show Wp L (d + 3) k_B_goingAs 0 [vR b, vI a1, vI a2, vU, vU] [] σ _
  have hB0 := hB
  obtain ⟨⟨K0, q0, q1, q2, q3, q4, q5, q6, q7⟩, ⟨K1, K2, K3, K4, K5, K6, K7, K8⟩, ⟨N1, N2, N3, N4, N5, N6, N7, N8⟩, QP, KP⟩ := hB
  have w2 := hw.2.1
  obtain ⟨hn1, hn2, hn3⟩ := hn
  simp only [r_B_goingAs_0, r_B_goingAs_1, r_B_goingAs_3, r_B_goingAs_5, r_B_goingAs_8, r_B_goingAs_9, r_B_goingAs_13, r_B_goingAs_15, r_B_goingAs_17, r_B_goingAs_19, r_B_goingAs_22, r_B_goingAs_23, r_B_goingAs_24, r_B_goingAs_27, r_B_goingAs_29, r_B_goingAs_30, r_B_goingAs_31, r_B_goingAs_32, r_B_goingAs_35, r_B_goingAs_37, r_B_goingAs_41, r_B_goingAs_44, r_B_goingAs_47, r_B_goingAs_49]
  refine wloop (n := n) (I := fun k ls τ => (∃ l, ls = [vR b, vI a1, vI a2, vI (k : Int), l]) ∧ CB b (brit a2 k f) τ ∧ Agr σ τ (ZBr b) ∧ (k : Int) ≤ a1) (fun k ls τ hk hi hq => ?_) (fun ls τ hi => ?_) n 0 (by omega) _ _ ⟨⟨_, rfl⟩, hc, Agr_refl _ _, h1⟩
  · obtain ⟨⟨l, rfl⟩, hc1, hA, hka⟩ := hi
    obtain ⟨hw1, hs1⟩ := brit_ok a2 hw k
    have e1 := brit_1 a2 hw k
    have x := hn1 k hk
    have y := brfi_bd (brit a2 k f) a2 (f 1).toNat
    have z := brit_s hw x
    obtain ⟨τ1, hR1, -, hA1⟩ := sp_B_worstOver (L := L) (d := d + 0) hB0 hw1 hc1 h
    rw [e1, show gnn (brfi (brit a2 k f) a2 (f 1).toNat) = brfi (brit a2 k f) a2 (f 1).toNat from if_neg (by omega)] at hR1
    have hc2 := CB_sc hw1 hc1 hA1
    have hA2 := Agr_trans hA (Agr_mono hA1 (fun k j hk => by unfold ZSc at hk; unfold ZBr; omega))
    obtain ⟨τ2, hR2, hc3, hA3⟩ := sp_B_letGo (L := L) (d := d + 0) (p := (brfi (brit a2 k f) a2 (f 1).toNat).toNat) hB0 hw1 hc2 (by omega)
    have kp := KP (brfi (brit a2 k f) a2 (f 1).toNat).toNat (by omega)
    rw [r_B_goingAs_2]
    by_cases e : (k : Int) = a1
    · have ek : a1.toNat = k := by omega
      rw [if_pos (by omega), ek]
      simp (disch := first | assumption | exact gb_01 _ | omega) only [r_B_goingAs_0, r_B_goingAs_1, r_B_goingAs_3, r_B_goingAs_5, r_B_goingAs_8, r_B_goingAs_9, r_B_goingAs_13, r_B_goingAs_15, r_B_goingAs_17, r_B_goingAs_19, r_B_goingAs_22, r_B_goingAs_23, r_B_goingAs_24, r_B_goingAs_27, r_B_goingAs_29, r_B_goingAs_30, r_B_goingAs_31, r_B_goingAs_32, r_B_goingAs_35, r_B_goingAs_37, r_B_goingAs_41, r_B_goingAs_44, r_B_goingAs_47, r_B_goingAs_49, c_B_goingAs_10 hR1, Option.toList, List.singleton_append, List.cons_append, List.nil_append, List.append_nil, q0, q1, q2, q3, q4, q5, q6, q7, QP, w32_gb, w32i, tn_add, tn_mul, Int.toNat_natCast, Int.toNat_zero, Int.reduceLE, Int.reduceLT, Int.reduceEq, Int.reduceNe, gb_T, gb_F, Int.reduceToNat, eq_self, true_or, or_true, and_true, true_and, and_self, ↓ite_gb0, ↓ite_gbn, ↓if_pos, ↓if_neg, if_true, if_false, not_true_eq_false, not_false_eq_true, gb_ne0, gb_eq0]
      exact hA2
    · simp (disch := first | assumption | exact gb_01 _ | omega) only [r_B_goingAs_0, r_B_goingAs_1, r_B_goingAs_3, r_B_goingAs_5, r_B_goingAs_8, r_B_goingAs_9, r_B_goingAs_13, r_B_goingAs_15, r_B_goingAs_17, r_B_goingAs_19, r_B_goingAs_22, r_B_goingAs_23, r_B_goingAs_24, r_B_goingAs_27, r_B_goingAs_29, r_B_goingAs_30, r_B_goingAs_31, r_B_goingAs_32, r_B_goingAs_35, r_B_goingAs_37, r_B_goingAs_41, r_B_goingAs_44, r_B_goingAs_47, r_B_goingAs_49, c_B_goingAs_10 hR1, c_B_goingAs_38 hR2, Option.toList, List.singleton_append, List.cons_append, List.nil_append, List.append_nil, q0, q1, q2, q3, q4, q5, q6, q7, QP, w32_gb, w32i, tn_add, tn_mul, Int.toNat_natCast, Int.toNat_zero, Int.reduceLE, Int.reduceLT, Int.reduceEq, Int.reduceNe, gb_T, gb_F, Int.reduceToNat, eq_self, true_or, or_true, and_true, true_and, and_self, ↓ite_gb0, ↓ite_gbn, ↓if_pos, ↓if_neg, if_true, if_false, not_true_eq_false, not_false_eq_true, gb_ne0, gb_eq0]
      refine hq _ _ ⟨⟨vI (brfi (brit a2 k f) a2 (f 1).toNat), ?_⟩, by rw [z]; exact hc3, Agr_trans hA2 hA3, by omega⟩
      rw [show (((k + 1 : Nat)) : Int) = (k : Int) + 1 by omega]
  · obtain ⟨⟨l, rfl⟩, hc1, hA, hka⟩ := hi
    obtain ⟨hw1, hs1⟩ := brit_ok a2 hw n
    have e1 := brit_1 a2 hw n
    obtain ⟨τ1, hR1, -, hA1⟩ := sp_B_worstOver (L := L) (d := d + 0) hB0 hw1 hc1 h
    rw [e1, show gnn (brfi (brit a2 n f) a2 (f 1).toNat) = -1000000005 from if_pos hn2] at hR1
    rw [r_B_goingAs_2, if_neg (by omega)]
    by_cases e : n = 40
    · simp (disch := first | assumption | exact gb_01 _ | omega) only [r_B_goingAs_0, r_B_goingAs_1, r_B_goingAs_3, r_B_goingAs_5, r_B_goingAs_8, r_B_goingAs_9, r_B_goingAs_13, r_B_goingAs_15, r_B_goingAs_17, r_B_goingAs_19, r_B_goingAs_22, r_B_goingAs_23, r_B_goingAs_24, r_B_goingAs_27, r_B_goingAs_29, r_B_goingAs_30, r_B_goingAs_31, r_B_goingAs_32, r_B_goingAs_35, r_B_goingAs_37, r_B_goingAs_41, r_B_goingAs_44, r_B_goingAs_47, r_B_goingAs_49, Option.toList, List.singleton_append, List.cons_append, List.nil_append, List.append_nil, q0, q1, q2, q3, q4, q5, q6, q7, QP, w32_gb, w32i, tn_add, tn_mul, Int.toNat_natCast, Int.toNat_zero, Int.reduceLE, Int.reduceLT, Int.reduceEq, Int.reduceNe, gb_T, gb_F, Int.reduceToNat, eq_self, true_or, or_true, and_true, true_and, and_self, ↓ite_gb0, ↓ite_gbn, ↓if_pos, ↓if_neg, if_true, if_false, not_true_eq_false, not_false_eq_true, gb_ne0, gb_eq0]
      exact hA
    · simp (disch := first | assumption | exact gb_01 _ | omega) only [r_B_goingAs_0, r_B_goingAs_1, r_B_goingAs_3, r_B_goingAs_5, r_B_goingAs_8, r_B_goingAs_9, r_B_goingAs_13, r_B_goingAs_15, r_B_goingAs_17, r_B_goingAs_19, r_B_goingAs_22, r_B_goingAs_23, r_B_goingAs_24, r_B_goingAs_27, r_B_goingAs_29, r_B_goingAs_30, r_B_goingAs_31, r_B_goingAs_32, r_B_goingAs_35, r_B_goingAs_37, r_B_goingAs_41, r_B_goingAs_44, r_B_goingAs_47, r_B_goingAs_49, c_B_goingAs_10 hR1, Option.toList, List.singleton_append, List.cons_append, List.nil_append, List.append_nil, q0, q1, q2, q3, q4, q5, q6, q7, QP, w32_gb, w32i, tn_add, tn_mul, Int.toNat_natCast, Int.toNat_zero, Int.reduceLE, Int.reduceLT, Int.reduceEq, Int.reduceNe, gb_T, gb_F, Int.reduceToNat, eq_self, true_or, or_true, and_true, true_and, and_self, ↓ite_gb0, ↓ite_gbn, ↓if_pos, ↓if_neg, if_true, if_false, not_true_eq_false, not_false_eq_true, gb_ne0, gb_eq0]
      exact Agr_trans hA (Agr_mono hA1 (fun k j hk => by unfold ZSc at hk; unfold ZBr; omega))
theorem r_X_next_0 : Wp L d k_X_next 0 [l0, vI a1, l2] [] σ Q ↔ Wp L d k_X_next 1 [l0, vI a1, l2] [vI a1] σ Q := wp_iload rfl rfl
theorem r_X_next_4 : Wp L d k_X_next 4 [l0, l1, l2] [vI s0] σ Q ↔ (if s0 = 0 then Wp L d k_X_next 11 [l0, l1, l2] [] σ Q else Wp L d k_X_next 7 [l0, l1, l2] [] σ Q) := wp_if_eq rfl
theorem r_X_next_7 : Wp L d k_X_next 7 [l0, l1, vI a2] [] σ Q ↔ Wp L d k_X_next 8 [l0, l1, vI a2] [vI a2] σ Q := wp_iload rfl rfl
theorem r_X_next_8 : Wp L d k_X_next 8 [l0, l1, l2] [vI s0] σ Q ↔ (if 0 ≤ s0 then Wp L d k_X_next 14 [l0, l1, l2] [] σ Q else Wp L d k_X_next 11 [l0, l1, l2] [] σ Q) := wp_if_ge rfl
theorem r_X_next_11 : Wp L d k_X_next 11 [l0, l1, l2] [] σ Q ↔ Wp L d k_X_next 13 [l0, l1, l2] [vI (-1000000001)] σ Q := wp_push rfl
theorem r_X_next_13 : Wp L d k_X_next 13 [l0, l1, l2] [vI s0] σ Q ↔ Q (some (vI s0)) σ := wp_iret rfl
theorem r_X_next_14 : Wp L d k_X_next 14 [vR b0, l1, l2] [] σ Q ↔ Wp L d k_X_next 15 [vR b0, l1, l2] [vR b0] σ Q := wp_aload rfl rfl
theorem r_X_next_15 (h : gK c0 = 0) : Wp L d k_X_next 15 [l0, l1, l2] [vR c0] σ Q ↔ Wp L d k_X_next 18 [l0, l1, l2] [vR (gq c0 3)] σ Q := wp_getR (c := 131) rfl rfl rfl rfl rfl h
theorem r_X_next_18 : Wp L d k_X_next 18 [vR b0, l1, l2] [vR c0] σ Q ↔ Wp L d k_X_next 19 [vR b0, l1, l2] [vR b0, vR c0] σ Q := wp_aload rfl rfl
theorem r_X_next_19 (h : gK c1 = 0) : Wp L d k_X_next 19 [l0, l1, l2] [vR c1, vR c0] σ Q ↔ Wp L d k_X_next 22 [l0, l1, l2] [vR (gq c1 1), vR c0] σ Q := wp_getR (c := 129) rfl rfl rfl rfl rfl h
theorem c_X_next_22 (hR : Run L d 109 [vR c0, vR c1] σ r σ1) (h : gK c0 = 1) : Wp L (d + 1) k_X_next 22 [l0, l1, l2] [vR c1, vR c0] σ Q ↔ Wp L (d + 1) k_X_next 25 [l0, l1, l2] (r.toList ++ []) σ1 Q := wp_callR (as := [vR c0, vR c1]) (rest := []) rfl rfl rfl rfl rfl rfl rfl (grecv_k (by rw [h]) rfl) hR
theorem r_X_next_25 : Wp L d k_X_next 25 [vR b0, l1, l2] [] σ Q ↔ Wp L d k_X_next 26 [vR b0, l1, l2] [vR b0] σ Q := wp_aload rfl rfl
theorem r_X_next_26 (h : gK c0 = 0) : Wp L d k_X_next 26 [l0, l1, l2] [vR c0] σ Q ↔ Wp L d k_X_next 29 [l0, l1, l2] [vR (gq c0 3)] σ Q := wp_getR (c := 131) rfl rfl rfl rfl rfl h
theorem r_X_next_29 : Wp L d k_X_next 29 [l0, l1, vI a2] [vR c0] σ Q ↔ Wp L d k_X_next 30 [l0, l1, vI a2] [vI a2, vR c0] σ Q := wp_iload rfl rfl
theorem r_X_next_30 : Wp L d k_X_next 30 [l0, vI a1, l2] [vI s1, vR c0] σ Q ↔ Wp L d k_X_next 31 [l0, vI a1, l2] [vI a1, vI s1, vR c0] σ Q := wp_iload rfl rfl
theorem c_X_next_31 (hR : Run L d 110 [vR c0, vI s1, vI s2] σ r σ1) (h : gK c0 = 1) : Wp L (d + 1) k_X_next 31 [l0, l1, l2] [vI s2, vI s1, vR c0] σ Q ↔ Wp L (d + 1) k_X_next 34 [l0, l1, l2] (r.toList ++ []) σ1 Q := wp_callR (as := [vR c0, vI s1, vI s2]) (rest := []) rfl rfl rfl rfl rfl rfl rfl (grecv_k (by rw [h]) rfl) hR
theorem r_X_next_34 : Wp L d k_X_next 34 [l0, l1, l2] [vI s0] σ Q ↔ Q (some (vI s0)) σ := wp_iret rfl
theorem r_X_next_1 : Wp L (d + 4) k_X_next 1 [l0, l1, l2] [vI s0] σ Q ↔ Wp L (d + 4) k_X_next 4 [l0, l1, l2] [vI (gb (0 ≤ s0 ∧ s0 ≤ 99))] σ Q := wp_callR (d := d + 3) (as := [vI s0]) (rest := []) rfl rfl rfl rfl rfl rfl rfl rfl (sp_X_isGust)
theorem sp_X_next_b (h : ¬ ((0 ≤ a1 ∧ a1 ≤ 99) ∧ 0 ≤ a2)) : Run L (d + 4) 35 [vR 27, vI a1, vI a2] σ (some (vI (-1000000001))) σ := by
  refine Run_of (C' := k_X_next) rfl ?_
  show Wp L (d + 4) k_X_next 0 [vR 27, vI a1, vI a2] [] σ _
  obtain ⟨K27, K28, K29, K78, K97, K99, K109, K123, K125, K279, K282⟩ := litX
  by_cases e : 0 ≤ a1 ∧ a1 ≤ 99
  · simp (disch := first | assumption | exact gb_01 _ | omega) only [r_X_next_0, r_X_next_1, r_X_next_4, r_X_next_7, r_X_next_8, r_X_next_11, r_X_next_13, gq_27_0, gq_27_1, gq_27_2, gq_27_3, gq_27_4, gq_27_5, gq_27_6, gq_28_0, gq_28_1, gq_28_2, gq_28_3, gq_28_4, gq_28_5, gq_28_6, w32_gb, w32i, tn_add, tn_mul, Int.toNat_natCast, Int.toNat_zero, Int.reduceLE, Int.reduceLT, Int.reduceEq, Int.reduceNe, gb_T, gb_F, Int.reduceToNat, eq_self, true_or, or_true, and_true, true_and, and_self, ↓ite_gb0, ↓ite_gbn, ↓if_pos, ↓if_neg, if_true, if_false, not_true_eq_false, not_false_eq_true, gb_ne0, gb_eq0]
  · simp (disch := first | assumption | exact gb_01 _ | omega) only [r_X_next_0, r_X_next_1, r_X_next_4, r_X_next_7, r_X_next_8, r_X_next_11, r_X_next_13, gq_27_0, gq_27_1, gq_27_2, gq_27_3, gq_27_4, gq_27_5, gq_27_6, gq_28_0, gq_28_1, gq_28_2, gq_28_3, gq_28_4, gq_28_5, gq_28_6, w32_gb, w32i, tn_add, tn_mul, Int.toNat_natCast, Int.toNat_zero, Int.reduceLE, Int.reduceLT, Int.reduceEq, Int.reduceNe, gb_T, gb_F, Int.reduceToNat, eq_self, true_or, or_true, and_true, true_and, and_self, ↓ite_gb0, ↓ite_gbn, ↓if_pos, ↓if_neg, if_true, if_false, not_true_eq_false, not_false_eq_true, gb_ne0, gb_eq0]
theorem r_M_next_II_0 : Wp L d k_M_next_II 0 [l0, vI a1, l2, l3] [] σ Q ↔ Wp L d k_M_next_II 1 [l0, vI a1, l2, l3] [vI a1] σ Q := wp_iload rfl rfl
theorem r_M_next_II_4 : Wp L d k_M_next_II 4 [l0, l1, l2, l3] [vI s0] σ Q ↔ (if s0 = 0 then Wp L d k_M_next_II 11 [l0, l1, l2, l3] [] σ Q else Wp L d k_M_next_II 7 [l0, l1, l2, l3] [] σ Q) := wp_if_eq rfl
theorem r_M_next_II_7 : Wp L d k_M_next_II 7 [l0, l1, vI a2, l3] [] σ Q ↔ Wp L d k_M_next_II 8 [l0, l1, vI a2, l3] [vI a2] σ Q := wp_iload rfl rfl
theorem r_M_next_II_8 : Wp L d k_M_next_II 8 [l0, l1, l2, l3] [vI s0] σ Q ↔ (if 0 ≤ s0 then Wp L d k_M_next_II 14 [l0, l1, l2, l3] [] σ Q else Wp L d k_M_next_II 11 [l0, l1, l2, l3] [] σ Q) := wp_if_ge rfl
theorem r_M_next_II_11 : Wp L d k_M_next_II 11 [l0, l1, l2, l3] [] σ Q ↔ Wp L d k_M_next_II 13 [l0, l1, l2, l3] [vI (-1000000001)] σ Q := wp_push rfl
theorem r_M_next_II_13 : Wp L d k_M_next_II 13 [l0, l1, l2, l3] [vI s0] σ Q ↔ Q (some (vI s0)) σ := wp_iret rfl
theorem r_M_next_II_14 : Wp L d k_M_next_II 14 [vR b0, l1, l2, l3] [] σ Q ↔ Wp L d k_M_next_II 15 [vR b0, l1, l2, l3] [vR b0] σ Q := wp_aload rfl rfl
theorem r_M_next_II_15 : Wp L d k_M_next_II 15 [vR b0, l1, l2, l3] [vR c0] σ Q ↔ Wp L d k_M_next_II 16 [vR b0, l1, l2, l3] [vR b0, vR c0] σ Q := wp_aload rfl rfl
theorem r_M_next_II_16 (h : gK c1 = 12) : Wp L d k_M_next_II 16 [l0, l1, l2, l3] [vR c1, vR c0] σ Q ↔ Wp L d k_M_next_II 19 [l0, l1, l2, l3] [vR (gq c1 0), vR c0] σ Q := wp_getR (c := 3200) rfl rfl rfl rfl rfl h
theorem r_M_next_II_19 : Wp L d k_M_next_II 19 [vR b0, l1, l2, l3] [vR c1, vR c0] σ Q ↔ Wp L d k_M_next_II 20 [vR b0, l1, l2, l3] [vR b0, vR c1, vR c0] σ Q := wp_aload rfl rfl
theorem r_M_next_II_20 (h : gK c2 = 12) : Wp L d k_M_next_II 20 [l0, l1, l2, l3] [vR c2, vR c1, vR c0] σ Q ↔ Wp L d k_M_next_II 23 [l0, l1, l2, l3] [vR (gq c2 2), vR c1, vR c0] σ Q := wp_getR (c := 3202) rfl rfl rfl rfl rfl h
theorem r_M_next_II_26 : Wp L d k_M_next_II 26 [vR b0, l1, l2, l3] [] σ Q ↔ Wp L d k_M_next_II 27 [vR b0, l1, l2, l3] [vR b0] σ Q := wp_aload rfl rfl
theorem r_M_next_II_27 : Wp L d k_M_next_II 27 [l0, vI a1, l2, l3] [vR c0] σ Q ↔ Wp L d k_M_next_II 28 [l0, vI a1, l2, l3] [vI a1, vR c0] σ Q := wp_iload rfl rfl
theorem c_M_next_II_28 (hR : Run L d 230 [vR c0, vI s1] σ r σ1) (h : gK c0 = 12) : Wp L (d + 1) k_M_next_II 28 [l0, l1, l2, l3] [vI s1, vR c0] σ Q ↔ Wp L (d + 1) k_M_next_II 31 [l0, l1, l2, l3] (r.toList ++ []) σ1 Q := wp_callR (as := [vR c0, vI s1]) (rest := []) rfl rfl rfl rfl rfl rfl rfl (grecv_k (by rw [h]) rfl) hR
theorem r_M_next_II_31 : Wp L d k_M_next_II 31 [l0, l1, vI a2, l3] [vI s0] σ Q ↔ Wp L d k_M_next_II 32 [l0, l1, vI a2, vI s0] [] σ Q := wp_istore (i := 3) (ls := [l0, l1, vI a2, l3]) rfl rfl
theorem r_M_next_II_32 : Wp L d k_M_next_II 32 [vR b0, l1, l2, l3] [] σ Q ↔ Wp L d k_M_next_II 33 [vR b0, l1, l2, l3] [vR b0] σ Q := wp_aload rfl rfl
theorem r_M_next_II_33 : Wp L d k_M_next_II 33 [vR b0, l1, l2, l3] [vR c0] σ Q ↔ Wp L d k_M_next_II 34 [vR b0, l1, l2, l3] [vR b0, vR c0] σ Q := wp_aload rfl rfl
theorem r_M_next_II_34 (h : gK c1 = 12) : Wp L d k_M_next_II 34 [l0, l1, l2, l3] [vR c1, vR c0] σ Q ↔ Wp L d k_M_next_II 37 [l0, l1, l2, l3] [vR (gq c1 2), vR c0] σ Q := wp_getR (c := 3202) rfl rfl rfl rfl rfl h
theorem r_M_next_II_37 : Wp L d k_M_next_II 37 [vR b0, l1, l2, l3] [vR c1, vR c0] σ Q ↔ Wp L d k_M_next_II 38 [vR b0, l1, l2, l3] [vR b0, vR c1, vR c0] σ Q := wp_aload rfl rfl
theorem r_M_next_II_38 (h : gK c2 = 12) : Wp L d k_M_next_II 38 [l0, l1, l2, l3] [vR c2, vR c1, vR c0] σ Q ↔ Wp L d k_M_next_II 41 [l0, l1, l2, l3] [vR (gq c2 0), vR c1, vR c0] σ Q := wp_getR (c := 3200) rfl rfl rfl rfl rfl h
theorem r_M_next_II_44 : Wp L d k_M_next_II 44 [l0, l1, vI a2, l3] [] σ Q ↔ Wp L d k_M_next_II 45 [l0, l1, vI a2, l3] [vI a2] σ Q := wp_iload rfl rfl
theorem r_M_next_II_45 : Wp L d k_M_next_II 45 [l0, l1, l2, vI a3] [vI s0] σ Q ↔ Wp L d k_M_next_II 46 [l0, l1, l2, vI a3] [vI a3, vI s0] σ Q := wp_iload rfl rfl
theorem r_M_next_II_46 : Wp L d k_M_next_II 46 [l0, l1, l2, l3] [vI s1, vI s0] σ Q ↔ (if s1 ≤ s0 then Wp L d k_M_next_II 58 [l0, l1, l2, l3] [] σ Q else Wp L d k_M_next_II 49 [l0, l1, l2, l3] [] σ Q) := wp_cmp_ge rfl
theorem r_M_next_II_49 : Wp L d k_M_next_II 49 [vR b0, l1, l2, l3] [] σ Q ↔ Wp L d k_M_next_II 50 [vR b0, l1, l2, l3] [vR b0] σ Q := wp_aload rfl rfl
theorem r_M_next_II_50 (h : gK c0 = 12) : Wp L d k_M_next_II 50 [l0, l1, l2, l3] [vR c0] σ Q ↔ Wp L d k_M_next_II 53 [l0, l1, l2, l3] [vR (gq c0 7)] σ Q := wp_getR (c := 3207) rfl rfl rfl rfl rfl h
theorem r_M_next_II_53 : Wp L d k_M_next_II 53 [l0, l1, vI a2, l3] [vR c0] σ Q ↔ Wp L d k_M_next_II 54 [l0, l1, vI a2, l3] [vI a2, vR c0] σ Q := wp_iload rfl rfl
theorem r_M_next_II_54 (h : gK c0 = 100) (hx : 0 ≤ s1 ∧ s1 < gN c0) : Wp L d k_M_next_II 54 [l0, l1, l2, l3] [vI s1, vR c0] σ Q ↔ Wp L d k_M_next_II 55 [l0, l1, l2, l3] [vI (σ c0 s1.toNat)] σ Q := wp_iald rfl h hx
theorem r_M_next_II_55 : Wp L d k_M_next_II 55 [l0, l1, l2, l3] [vI s0] σ Q ↔ Wp L d k_M_next_II 60 [l0, l1, l2, l3] [vI s0] σ Q := wp_goto rfl
theorem r_M_next_II_58 : Wp L d k_M_next_II 58 [l0, l1, l2, l3] [] σ Q ↔ Wp L d k_M_next_II 60 [l0, l1, l2, l3] [vI (-1000000005)] σ Q := wp_push rfl
theorem r_M_next_II_60 : Wp L d k_M_next_II 60 [l0, l1, l2, l3] [vI s0] σ Q ↔ Q (some (vI s0)) σ := wp_iret rfl
theorem r_M_next_II_1 : Wp L (d + 7) k_M_next_II 1 [l0, l1, l2, l3] [vI s0] σ Q ↔ Wp L (d + 7) k_M_next_II 4 [l0, l1, l2, l3] [vI (gb (0 ≤ s0 ∧ s0 ≤ 99))] σ Q := wp_callR (d := d + 6) (as := [vI s0]) (rest := []) rfl rfl rfl rfl rfl rfl rfl rfl (sp_M_isGust)
theorem r_M_next_II_23 (k1 : gK c1 = 100) (k2 : gK c2 = 100) (z1 : ((gN c1 : Nat) : Int) = 3540) (z2 : ((gN c2 : Nat) : Int) = 3540) (hne : c1 ≠ c2) : Wp L (d + 7) k_M_next_II 23 [l0, l1, l2, l3] [vR c2, vR c1, vR 293] σ Q ↔ Wp L (d + 7) k_M_next_II 26 [l0, l1, l2, l3] [] (gsr σ c2 (cpr (σ c1) (σ c2))) Q := wp_callR (d := d + 6) (as := [vR 293, vR c1, vR c2]) (rest := []) rfl rfl rfl rfl rfl rfl rfl (grecv_k (by rw [gK_293]) rfl) (sp_M_setAside k1 k2 z1 z2 hne)
theorem r_M_next_II_41 (k1 : gK c1 = 100) (k2 : gK c2 = 100) (z1 : ((gN c1 : Nat) : Int) = 3540) (z2 : ((gN c2 : Nat) : Int) = 3540) (hne : c1 ≠ c2) : Wp L (d + 7) k_M_next_II 41 [l0, l1, l2, l3] [vR c2, vR c1, vR 293] σ Q ↔ Wp L (d + 7) k_M_next_II 44 [l0, l1, l2, l3] [] (gsr σ c2 (cpr (σ c1) (σ c2))) Q := wp_callR (d := d + 6) (as := [vR 293, vR c1, vR c2]) (rest := []) rfl rfl rfl rfl rfl rfl rfl (grecv_k (by rw [gK_293]) rfl) (sp_M_setAside k1 k2 z1 z2 hne)
theorem sp_M_next_II_b (h : ¬ ((0 ≤ a1 ∧ a1 ≤ 99) ∧ 0 ≤ a2)) : Run L (d + 7) 232 [vR 293, vI a1, vI a2] σ (some (vI (-1000000001))) σ := by
  refine Run_of (C' := k_M_next_II) rfl ?_
  show Wp L (d + 7) k_M_next_II 0 [vR 293, vI a1, vI a2, vU] [] σ _
  obtain ⟨K293, Q293, K294, N294⟩ := litM
  by_cases e : 0 ≤ a1 ∧ a1 ≤ 99
  · simp (disch := first | assumption | exact gb_01 _ | omega) only [r_M_next_II_0, r_M_next_II_1, r_M_next_II_4, r_M_next_II_7, r_M_next_II_8, r_M_next_II_11, r_M_next_II_13, Q293, w32_gb, w32i, tn_add, tn_mul, Int.toNat_natCast, Int.toNat_zero, Int.reduceLE, Int.reduceLT, Int.reduceEq, Int.reduceNe, gb_T, gb_F, Int.reduceToNat, eq_self, true_or, or_true, and_true, true_and, and_self, ↓ite_gb0, ↓ite_gbn, ↓if_pos, ↓if_neg, if_true, if_false, not_true_eq_false, not_false_eq_true, gb_ne0, gb_eq0]
  · simp (disch := first | assumption | exact gb_01 _ | omega) only [r_M_next_II_0, r_M_next_II_1, r_M_next_II_4, r_M_next_II_7, r_M_next_II_8, r_M_next_II_11, r_M_next_II_13, Q293, w32_gb, w32i, tn_add, tn_mul, Int.toNat_natCast, Int.toNat_zero, Int.reduceLE, Int.reduceLT, Int.reduceEq, Int.reduceNe, gb_T, gb_F, Int.reduceToNat, eq_self, true_or, or_true, and_true, true_and, and_self, ↓ite_gb0, ↓ite_gbn, ↓if_pos, ↓if_neg, if_true, if_false, not_true_eq_false, not_false_eq_true, gb_ne0, gb_eq0]
theorem sp_X_next {f : Nat → Int} {n : Nat} (hw : WB f) (hc : CB 29 f σ) (hd : ∀ j : Nat, σ 32 j = 0 ∨ σ 32 j = 1) (h : (0 ≤ a1 ∧ a1 ≤ 99) ∧ 0 ≤ a2) (hn : brN f a1 n) : ∃ σ', Run L (d + 4) 35 [vR 27, vI a1, vI a2] σ (some (vI (if a2 < (n : Int) then brfi (brit a1 a2.toNat f) a1 (f 1).toNat else -1000000005))) σ' ∧ Agr σ σ' (ZBr 230) := by
  refine Run_ex (C' := k_X_next) rfl ?_
  show Wp L (d + 4) k_X_next 0 [vR 27, vI a1, vI a2] [] σ _
  obtain ⟨K27, K28, K29, K78, K97, K99, K109, K123, K125, K279, K282⟩ := litX
  have K230 := gK_230
  obtain ⟨τ, hR, hc1, hA⟩ := sp_B_become (L := L) (d := d + 2) (σ := σ) (b := 230) (c := 29) BR230 BR29 (fun j i hj => by unfold ZBr; omega) hw hc hd
  obtain ⟨τ1, hR1, hA1⟩ := sp_B_goingAs (L := L) (d := d + 0) (σ := τ) (a1 := a2) (a2 := a1) BR230 hw hc1 h.1 h.2 hn
  simp (disch := first | assumption | exact gb_01 _ | omega) only [r_X_next_0, r_X_next_1, r_X_next_4, r_X_next_7, r_X_next_8, r_X_next_11, r_X_next_13, r_X_next_14, r_X_next_15, r_X_next_18, r_X_next_19, r_X_next_25, r_X_next_26, r_X_next_29, r_X_next_30, r_X_next_34, c_X_next_22 hR, c_X_next_31 hR1, Option.toList, List.singleton_append, List.cons_append, List.nil_append, List.append_nil, gq_27_0, gq_27_1, gq_27_2, gq_27_3, gq_27_4, gq_27_5, gq_27_6, gq_28_0, gq_28_1, gq_28_2, gq_28_3, gq_28_4, gq_28_5, gq_28_6, w32_gb, w32i, tn_add, tn_mul, Int.toNat_natCast, Int.toNat_zero, Int.reduceLE, Int.reduceLT, Int.reduceEq, Int.reduceNe, gb_T, gb_F, Int.reduceToNat, eq_self, true_or, or_true, and_true, true_and, and_self, ↓ite_gb0, ↓ite_gbn, ↓if_pos, ↓if_neg, if_true, if_false, not_true_eq_false, not_false_eq_true, gb_ne0, gb_eq0]
  exact Agr_trans hA hA1
theorem sp_M_next {n : Nat} (hw : WB (σ 294)) (h : (0 ≤ a1 ∧ a1 ≤ 99) ∧ 0 ≤ a2) (hn : brN (σ 294) a1 n) : ∃ σ', Run L (d + 7) 232 [vR 293, vI a1, vI a2] σ (some (vI (if a2 < (n : Int) then brfi (brit a1 a2.toNat (σ 294)) a1 (σ 294 1).toNat else -1000000005))) σ' ∧ Agr σ σ' (fun k _ => k = 296 ∨ k = 300) := by
  refine Run_ex (C' := k_M_next_II) rfl ?_
  show Wp L (d + 7) k_M_next_II 0 [vR 293, vI a1, vI a2, vU] [] σ _
  obtain ⟨K293, Q293, K294, N294⟩ := litM
  have K300 := gK_300
  have N300 := gN_300
  obtain ⟨n1, n2, K295, K296, N295, N296⟩ := litA
  have e4 : gsr σ 296 (cpr (σ 294) (σ 296)) 294 = σ 294 := gsr_ne (by omega)
  obtain ⟨τ, hR, h1, h2, hA⟩ := sp_M_letFall (L := L) (d := d + 0) (σ := gsr σ 296 (cpr (σ 294) (σ 296))) (a1 := a1) (n := n) (by rw [e4]; exact hw) h.1 (by rw [e4]; exact hn)
  rw [e4] at h1 h2
  have e6 : τ 296 = cpr (σ 294) (σ 296) := by
    funext j
    rw [hA 296 j (by omega), gsr_eq]
  have back : cpr (τ 296) (τ 294) = σ 294 := by
    funext j
    unfold cpr
    by_cases c : j < 3540
    · rw [if_pos c, e6]
      exact if_pos c
    · rw [if_neg c, h1]
      exact (brit_ok a1 hw n).2 j (by unfold SBZ; omega)
  have fin : Agr σ (gsr τ 294 (σ 294)) (fun k _ => k = 296 ∨ k = 300) := fun k j hk => by
    by_cases c : k = 294
    · rw [c, gsr_eq]
    · rw [gsr_ne c, hA k j (by omega), gsr_ne (by omega)]
  by_cases c : a2 < (n : Int)
  · have w := h2 a2.toNat (by omega)
    have n40 := hn.2.2
    rw [if_pos c]
    simp (disch := first | assumption | exact gb_01 _ | omega) only [r_M_next_II_0, r_M_next_II_1, r_M_next_II_4, r_M_next_II_7, r_M_next_II_8, r_M_next_II_11, r_M_next_II_13, r_M_next_II_14, r_M_next_II_15, r_M_next_II_16, r_M_next_II_19, r_M_next_II_20, r_M_next_II_23, r_M_next_II_26, r_M_next_II_27, r_M_next_II_31, r_M_next_II_32, r_M_next_II_33, r_M_next_II_34, r_M_next_II_37, r_M_next_II_38, r_M_next_II_41, r_M_next_II_44, r_M_next_II_45, r_M_next_II_46, r_M_next_II_49, r_M_next_II_50, r_M_next_II_53, r_M_next_II_54, r_M_next_II_55, r_M_next_II_58, r_M_next_II_60, c_M_next_II_28 hR, Option.toList, List.singleton_append, List.cons_append, List.nil_append, List.append_nil, Q293, gq_293_7, n2, back, gsr_ne, w, w32_gb, w32i, tn_add, tn_mul, Int.toNat_natCast, Int.toNat_zero, Int.reduceLE, Int.reduceLT, Int.reduceEq, Int.reduceNe, gb_T, gb_F, Int.reduceToNat, eq_self, true_or, or_true, and_true, true_and, and_self, ↓ite_gb0, ↓ite_gbn, ↓if_pos, ↓if_neg, if_true, if_false, not_true_eq_false, not_false_eq_true, gb_ne0, gb_eq0]
    exact fin
  · rw [if_neg c]
    simp (disch := first | assumption | exact gb_01 _ | omega) only [r_M_next_II_0, r_M_next_II_1, r_M_next_II_4, r_M_next_II_7, r_M_next_II_8, r_M_next_II_11, r_M_next_II_13, r_M_next_II_14, r_M_next_II_15, r_M_next_II_16, r_M_next_II_19, r_M_next_II_20, r_M_next_II_23, r_M_next_II_26, r_M_next_II_27, r_M_next_II_31, r_M_next_II_32, r_M_next_II_33, r_M_next_II_34, r_M_next_II_37, r_M_next_II_38, r_M_next_II_41, r_M_next_II_44, r_M_next_II_45, r_M_next_II_46, r_M_next_II_49, r_M_next_II_50, r_M_next_II_53, r_M_next_II_54, r_M_next_II_55, r_M_next_II_58, r_M_next_II_60, c_M_next_II_28 hR, Option.toList, List.singleton_append, List.cons_append, List.nil_append, List.append_nil, Q293, gq_293_7, n2, back, gsr_ne, w32_gb, w32i, tn_add, tn_mul, Int.toNat_natCast, Int.toNat_zero, Int.reduceLE, Int.reduceLT, Int.reduceEq, Int.reduceNe, gb_T, gb_F, Int.reduceToNat, eq_self, true_or, or_true, and_true, true_and, and_self, ↓ite_gb0, ↓ite_gbn, ↓if_pos, ↓if_neg, if_true, if_false, not_true_eq_false, not_false_eq_true, gb_ne0, gb_eq0]
    exact fin
theorem op_next (a1 a2 : Int) : Op2 35 232 [vI a1, vI a2] := by
  intro L d σ hI hPB
  obtain ⟨hw, hc⟩ := iB hI
  by_cases h : (0 ≤ a1 ∧ a1 ≤ 99) ∧ 0 ≤ a2
  · obtain ⟨n, hn⟩ := brN_ex hw a1
    obtain ⟨σ1, hR1, hA1⟩ := sp_X_next (L := L) (d := d + 996) (σ := σ) (a1 := a1) (a2 := a2) hw hc (PB_32 hPB) h hn
    have e : σ1 294 = σ 294 := funext (fun j => hA1 294 j (by unfold ZBr; omega))
    obtain ⟨σ2, hR2, hA2⟩ := sp_M_next (L := L) (d := d + 993) (σ := σ1) (n := n) (a1 := a1) (a2 := a2) (by rw [e]; exact hw) h (by rw [e]; exact hn)
    rw [e] at hR2
    exact ⟨_, _, _, hR1, hR2, Inv_free hI (Agr_trans (Agr_mono hA1 (fun k j hk => by unfold ZBr at hk; unfold ZFr; omega)) (Agr_mono hA2 (fun k j hk => by unfold ZFr; omega)))⟩
  · exact ⟨_, _, _, sp_X_next_b h, sp_M_next_II_b h, hI⟩
