/-! night. -/
variable {L d : Nat} {σ σ1 : Nat → Nat → Int} {Q : Option gV → (Nat → Nat → Int) → Prop} {a0 a1 a2 a3 a4 a5 a6 a7 a8 a9 a10 a11 s0 s1 s2 s3 s4 s5 s6 s7 s8 s9 : Int} {l0 l1 l2 l3 l4 l5 l6 l7 l8 l9 l10 l11 t0 t1 t2 t3 t4 t5 t6 t7 t8 t9 : gV} {b0 b1 b2 b3 b4 b5 b6 b7 b8 b9 b10 b11 c0 c1 c2 c3 c4 c5 c6 c7 c8 c9 : Nat} {r : Option gV}
def brT (f : Nat → Int) (k : Int) : Int := ((k - f 13) * f 14).tdiv 20
/-- where the train comes in second k -/
def brsc (f : Nat → Int) (k : Nat) : Nat → Int := if ((0 ≤ f 13 ∧ f 13 ≤ k) ∧ f 12 = 0) ∧ (0 ≤ brT f k ∧ brT f k ≤ f 0 - 1) then (if f (20 + 3 * (brT f k).toNat + 2) = 1 then ftr f (-1) 1 else ftr f (brT f k) 0) else fu f 11 (-1)
def brsec (f : Nat → Int) (k : Nat) : Nat → Int := brit (f (60 + k)) 40 (brsc f k)
def brngt (f : Nat → Int) (n : Nat) : Nat → Int := git (fun k g => brsec g k) n (ftr f (-1) 0)
theorem brngt_s (f : Nat → Int) (n : Nat) : brngt f (n + 1) = brsec (brngt f n) n := by
  unfold brngt
  simp only [git]
theorem fu_self {f : Nat → Int} {i : Nat} {v : Int} (h : f i = v) : fu f i v = f := by
  funext j
  unfold fu
  split
  · next e => rw [e, h]
  · rfl
theorem ftr_0 {f : Nat → Int} {t v : Int} (h : f 12 = v) : ftr f t v = fu f 11 t := fu_self (by rw [fu_ne (by omega)]; exact h)
theorem brT_bd {f : Nat → Int} (hg : WG f) {k : Int} (hk : k ≤ 59) (h : 0 ≤ f 13 ∧ f 13 ≤ k) : 0 ≤ (k - f 13) * f 14 ∧ (k - f 13) * f 14 ≤ 1180 ∧ 0 ≤ brT f k ∧ brT f k ≤ 1180 := by
  have m := mul_bd (a := k - f 13) (b := f 14) (A := 59) (B := 20) (by omega) (by have := hg.2.1; omega)
  have := tdiv_bd (a := (k - f 13) * f 14) (b := 20) m.1 (by omega)
  unfold brT
  omega
theorem WB_tr1 {f : Nat → Int} (hw : WB f) : WB (fu f 11 (-1)) := by
  have := WB_train (t := -1) (v := f 12) hw (Or.inl rfl) hw.2.2.2.2.2.2.2
  rw [ftr_0 rfl] at this
  exact this
theorem CB_tr1 {b : Nat} {f : Nat → Int} {σ : gMm} {t t' : Int} (ht : CNone t' t) (hw : WB f) (hc : CB b f σ) : CB b (fu f 11 t) (gupd σ b 12 t') := by
  have := CB_train (v := f 12) ht hw hc
  rw [ftr_0 rfl] at this
  have e : gupd (gupd σ b 12 t') b 13 (f 12) = gupd σ b 12 t' := by
    funext k j
    by_cases e : k = b ∧ j = 13
    · rw [e.1, e.2, gupd_eq, gupd_ne (by omega)]
      exact hc.2.2.2.2.2.2.2.symm
    · rw [gupd_ne (k := b) (j := 13) e]
  rw [e] at this
  exact this
theorem brsc_ok {f : Nat → Int} (hw : WB f) (k : Nat) : WB (brsc f k) ∧ SB f (brsc f k) := by
  unfold brsc
  split
  · next h =>
    split
    · exact ⟨WB_train hw (Or.inl rfl) (Or.inr rfl), SB_train (SB_refl f)⟩
    · exact ⟨WB_train hw (Or.inr (by omega)) (Or.inl rfl), SB_train (SB_refl f)⟩
  · exact ⟨WB_tr1 hw, SB_fu (SB_refl f) (by unfold SBZ; omega)⟩
theorem brit_stay {f : Nat → Int} {w : Int} (hw : WB f) {n : Nat} (h : brfi (brit w n f) w (f 1).toNat < 0) : ∀ m, brit w (n + m) f = brit w n f
  | 0 => rfl
  | m + 1 => by
    show brstp w (brit w (n + m) f) = _
    rw [brit_stay hw h m]
    unfold brstp
    rw [brit_1 w hw n, if_pos h]
theorem brN_40 {f : Nat → Int} {w : Int} (hw : WB f) {n : Nat} (h : brN f w n) : brit w n f = brit w 40 f := by
  have := brit_stay hw h.2.1 (40 - n)
  rw [show n + (40 - n) = 40 by have := h.2.2; omega] at this
  exact this.symm
theorem brsec_ok {f : Nat → Int} (hw : WB f) (k : Nat) : WB (brsec f k) ∧ SB f (brsec f k) := by
  obtain ⟨a, b⟩ := brsc_ok hw k
  obtain ⟨c, d⟩ := brit_ok (f (60 + k)) a 40
  exact ⟨c, SB_trans b d⟩
theorem brdr_tr {g : Nat → Int} (hw : WB g) (k : Int) : (brdr g k 11 = g 11 ∧ brdr g k 12 = g 12) ∨ (brdr g k 11 = -1 ∧ brdr g k 12 = 1) := by
  have w1 := hw.1
  unfold brdr
  split
  · split
    · refine Or.inr ⟨?_, ?_⟩
      · unfold ftr
        rw [fu_ne (by omega), fu_eq]
      · unfold ftr
        rw [fu_eq]
    · exact Or.inl ⟨fu_ne (by omega), fu_ne (by omega)⟩
  · exact Or.inl ⟨rfl, rfl⟩
theorem brgo_tr {f : Nat → Int} (hw : WB f) (p : Nat) (hp : (p : Int) < f 1) : (brgo f p 11 = f 11 ∧ brgo f p 12 = f 12) ∨ (brgo f p 11 = -1 ∧ brgo f p 12 = 1) := by
  obtain ⟨a, b⟩ := brgo_st hw p hp
  have e1 : fu f (120 + 12 * p + 8) 0 11 = f 11 := fu_ne (by omega)
  have e2 : fu f (120 + 12 * p + 8) 0 12 = f 12 := fu_ne (by omega)
  unfold brgo
  split
  · obtain ⟨c, d⟩ := brdr_ok a b (f (120 + 12 * p + 1) - 1 + ((0 : Nat) : Int))
    have x := brdr_tr a (f (120 + 12 * p + 1) - 1 + ((0 : Nat) : Int))
    have y := brdr_tr c (f (120 + 12 * p + 1) - 1 + ((1 : Nat) : Int))
    simp only [git]
    omega
  · exact Or.inl ⟨e1, e2⟩
theorem brit_tr {f : Nat → Int} (w : Int) (hw : WB f) : ∀ n, (brit w n f 11 = f 11 ∧ brit w n f 12 = f 12) ∨ (brit w n f 11 = -1 ∧ brit w n f 12 = 1)
  | 0 => Or.inl ⟨rfl, rfl⟩
  | n + 1 => by
    have ih := brit_tr w hw n
    have hw1 := (brit_ok w hw n).1
    have x := brfi_bd (brit w n f) w (brit w n f 1).toNat
    have e : brit w (n + 1) f = brstp w (brit w n f) := rfl
    rw [e]
    unfold brstp
    split
    · exact ih
    · have := brgo_tr hw1 (brfi (brit w n f) w (brit w n f 1).toNat).toNat (by have := hw1.2.1; omega)
      omega
/-- in second k the train is on none, if it does not come -/
def brNT (g : Nat → Int) (k : Nat) : Prop := (g 13 < 0 ∨ (k : Int) < g 13 ∨ g 12 = 1) → g 11 = -1
theorem brsec_nt {g : Nat → Int} (hw : WB g) (k : Nat) : brNT (brsec g k) (k + 1) := by
  obtain ⟨a, b⟩ := brsc_ok hw k
  have x := brit_tr (g (60 + k)) a 40
  have e13 := (brsec_ok hw k).2 13 (by unfold SBZ; omega)
  unfold brNT
  rw [e13]
  intro h
  rcases x with x | x
  · have x1 : brsec g k 11 = brsc g k 11 := x.1
    have x2 : brsec g k 12 = brsc g k 12 := x.2
    rw [x1]
    rw [x2] at h
    unfold brsc at h ⊢
    split
    · next c =>
      rw [if_pos c] at h
      split
      · unfold ftr
        rw [fu_ne (by omega), fu_eq]
      · next c2 =>
        rw [if_neg c2] at h
        unfold ftr at h
        rw [fu_eq] at h
        omega
    · rw [fu_eq]
  · exact x.1
theorem brngt_ok {f : Nat → Int} (hw : WB f) : ∀ n, (WB (brngt f n) ∧ SB f (brngt f n)) ∧ brNT (brngt f n) n
  | 0 => ⟨⟨WB_train hw (Or.inl rfl) (Or.inl rfl), SB_train (SB_refl f)⟩, fun _ => by
    show ftr f (-1) 0 11 = -1
    unfold ftr
    rw [fu_ne (by omega), fu_eq]⟩
  | n + 1 => by
    obtain ⟨⟨a, b⟩, c⟩ := brngt_ok hw n
    rw [brngt_s]
    obtain ⟨x, y⟩ := brsec_ok a n
    exact ⟨⟨x, SB_trans b y⟩, brsec_nt a n⟩
def GL (c : Nat) : Prop := gK c = 2 ∧ gq c 0 = c + 1 ∧ gK (c + 1) = 100 ∧ ((gN (c + 1) : Nat) : Int) = 60
theorem GL97 : GL 97 := by unfold GL; decide +kernel
theorem GL198 : GL 198 := by unfold GL; decide +kernel
theorem WG_sb {f g : Nat → Int} (h : SB f g) (hg : WG f) : WG g := by
  obtain ⟨a, b, c⟩ := hg
  refine ⟨by rw [h 13 (by unfold SBZ; omega)]; exact a, by rw [h 14 (by unfold SBZ; omega)]; exact b, fun j hj => by rw [h (60 + j) (by unfold SBZ; omega)]; exact c j hj⟩
theorem CG_sb {c : Nat} {f g : Nat → Int} {σ τ : gMm} (h : SB f g) (hA : ∀ k j, k = c ∨ k = c + 1 → τ k j = σ k j) (hg : CG c f σ) : CG c g τ := by
  obtain ⟨x, y, z⟩ := hg
  refine ⟨by rw [h 13 (by unfold SBZ; omega), hA _ _ (Or.inl rfl)]; exact x, by rw [h 14 (by unfold SBZ; omega), hA _ _ (Or.inl rfl)]; exact y, fun j hj => by rw [h (60 + j) (by unfold SBZ; omega), hA _ _ (Or.inr rfl)]; exact z j hj⟩
theorem r_B_bringTrain_0 : Wp L d k_B_bringTrain 0 [l0, vI a1] [] σ Q ↔ Wp L d k_B_bringTrain 1 [l0, vI a1] [vI a1] σ Q := wp_iload rfl rfl
theorem r_B_bringTrain_1 : Wp L d k_B_bringTrain 1 [vR b0, l1] [vI s0] σ Q ↔ Wp L d k_B_bringTrain 2 [vR b0, l1] [vR b0, vI s0] σ Q := wp_aload rfl rfl
theorem r_B_bringTrain_2 (h : gK c1 = 1) : Wp L d k_B_bringTrain 2 [l0, l1] [vR c1, vI s0] σ Q ↔ Wp L d k_B_bringTrain 5 [l0, l1] [vI (σ c1 8), vI s0] σ Q := wp_getI (c := 264) rfl rfl rfl rfl h
theorem r_B_bringTrain_5 : Wp L d k_B_bringTrain 5 [l0, l1] [vI s1, vI s0] σ Q ↔ (if s0 < s1 then Wp L d k_B_bringTrain 17 [l0, l1] [] σ Q else Wp L d k_B_bringTrain 8 [l0, l1] [] σ Q) := wp_cmp_lt rfl
theorem r_B_bringTrain_8 : Wp L d k_B_bringTrain 8 [vR b0, l1] [] σ Q ↔ Wp L d k_B_bringTrain 9 [vR b0, l1] [vR b0] σ Q := wp_aload rfl rfl
theorem r_B_bringTrain_9 : Wp L d k_B_bringTrain 9 [l0, l1] [vR c0] σ Q ↔ Wp L d k_B_bringTrain 11 [l0, l1] [vI (-1000000005), vR c0] σ Q := wp_push rfl
theorem r_B_bringTrain_11 (h : gK c0 = 1) : Wp L d k_B_bringTrain 11 [l0, l1] [vI s1, vR c0] σ Q ↔ Wp L d k_B_bringTrain 14 [l0, l1] [] (gupd σ c0 12 s1) Q := wp_putI (c := 268) rfl rfl rfl rfl h
theorem r_B_bringTrain_14 : Wp L d k_B_bringTrain 14 [l0, l1] [] σ Q ↔ Wp L d k_B_bringTrain 38 [l0, l1] [] σ Q := wp_goto rfl
theorem r_B_bringTrain_17 : Wp L d k_B_bringTrain 17 [vR b0, l1] [] σ Q ↔ Wp L d k_B_bringTrain 18 [vR b0, l1] [vR b0] σ Q := wp_aload rfl rfl
theorem r_B_bringTrain_18 (h : gK c0 = 1) : Wp L d k_B_bringTrain 18 [l0, l1] [vR c0] σ Q ↔ Wp L d k_B_bringTrain 21 [l0, l1] [vR (gq c0 2)] σ Q := wp_getR (c := 386) rfl rfl rfl rfl rfl h
theorem r_B_bringTrain_21 : Wp L d k_B_bringTrain 21 [l0, vI a1] [vR c0] σ Q ↔ Wp L d k_B_bringTrain 22 [l0, vI a1] [vI a1, vR c0] σ Q := wp_iload rfl rfl
theorem r_B_bringTrain_22 (h : gK c0 = 101) (hx : 0 ≤ s1 ∧ s1 < gN c0) : Wp L d k_B_bringTrain 22 [l0, l1] [vI s1, vR c0] σ Q ↔ Wp L d k_B_bringTrain 23 [l0, l1] [vI (σ c0 s1.toNat)] σ Q := wp_bald rfl h hx
theorem r_B_bringTrain_23 : Wp L d k_B_bringTrain 23 [l0, l1] [vI s0] σ Q ↔ (if s0 = 0 then Wp L d k_B_bringTrain 33 [l0, l1] [] σ Q else Wp L d k_B_bringTrain 26 [l0, l1] [] σ Q) := wp_if_eq rfl
theorem r_B_bringTrain_26 : Wp L d k_B_bringTrain 26 [vR b0, l1] [] σ Q ↔ Wp L d k_B_bringTrain 27 [vR b0, l1] [vR b0] σ Q := wp_aload rfl rfl
theorem r_B_bringTrain_30 : Wp L d k_B_bringTrain 30 [l0, l1] [] σ Q ↔ Wp L d k_B_bringTrain 38 [l0, l1] [] σ Q := wp_goto rfl
theorem r_B_bringTrain_33 : Wp L d k_B_bringTrain 33 [vR b0, l1] [] σ Q ↔ Wp L d k_B_bringTrain 34 [vR b0, l1] [vR b0] σ Q := wp_aload rfl rfl
theorem r_B_bringTrain_34 : Wp L d k_B_bringTrain 34 [l0, vI a1] [vR c0] σ Q ↔ Wp L d k_B_bringTrain 35 [l0, vI a1] [vI a1, vR c0] σ Q := wp_iload rfl rfl
theorem r_B_bringTrain_35 (h : gK c0 = 1) : Wp L d k_B_bringTrain 35 [l0, l1] [vI s1, vR c0] σ Q ↔ Wp L d k_B_bringTrain 38 [l0, l1] [] (gupd σ c0 12 s1) Q := wp_putI (c := 268) rfl rfl rfl rfl h
theorem r_B_bringTrain_38 : Wp L d k_B_bringTrain 38 [l0, l1] [] σ Q ↔ Q none σ := wp_vret rfl
theorem r_B_bringTrain_27 (hk : gK c0 = 1) : Wp L (d + 1) k_B_bringTrain 27 [l0, l1] [vR c0] σ Q ↔ Wp L (d + 1) k_B_bringTrain 30 [l0, l1] [] (gupd (gupd σ c0 12 (-1000000005)) c0 13 1) Q := wp_callR (d := d + 0) (as := [vR c0]) (rest := []) rfl rfl rfl rfl rfl rfl rfl (grecv_k (by rw [hk]) rfl) (sp_B_sinkTrain hk)
theorem sp_B_bringTrain {b : Nat} {f : Nat → Int}  (hB : BR b) (hw : WB f) (hc : CB b f σ) (h : 0 ≤ a1) (h12 : f 12 = 0) : ∃ σ', Run L (d + 1) 113 [vR b, vI a1] σ none σ' ∧ CB b (if a1 ≤ f 0 - 1 then (if f (20 + 3 * a1.toNat + 2) = 1 then ftr f (-1) 1 else ftr f a1 0) else fu f 11 (-1)) σ' ∧ Agr σ σ' (ZBr b) := by
  refine Run_ex (C' := k_B_bringTrain) rfl ?_
  show Wp L (d + 1) k_B_bringTrain 0 [vR b, vI a1] [] σ _
  obtain ⟨⟨K0, q0, q1, q2, q3, q4, q5, q6, q7⟩, ⟨K1, K2, K3, K4, K5, K6, K7, K8⟩, ⟨N1, N2, N3, N4, N5, N6, N7, N8⟩, QP, KP⟩ := hB
  have w1 := hw.1
  have w2 := hw.2.1
  have c1 := hc.1
  have c2 := hc.2.1

  by_cases e : a1 ≤ f 0 - 1
  · have s := (hc.2.2.1 a1.toNat (by omega)).2.2
    have w3 := (hw.2.2.1 a1.toNat (by omega)).2.2
    rw [if_pos e]
    by_cases e2 : f (20 + 3 * a1.toNat + 2) = 1
    · rw [if_pos e2]
      simp (disch := first | assumption | exact gb_01 _ | omega) only [r_B_bringTrain_0, r_B_bringTrain_1, r_B_bringTrain_2, r_B_bringTrain_5, r_B_bringTrain_8, r_B_bringTrain_9, r_B_bringTrain_11, r_B_bringTrain_14, r_B_bringTrain_17, r_B_bringTrain_18, r_B_bringTrain_21, r_B_bringTrain_22, r_B_bringTrain_23, r_B_bringTrain_26, r_B_bringTrain_27, r_B_bringTrain_30, r_B_bringTrain_33, r_B_bringTrain_34, r_B_bringTrain_35, r_B_bringTrain_38, q0, q1, q2, q3, q4, q5, q6, q7, QP, w32_gb, w32i, tn_add, tn_mul, Int.toNat_natCast, Int.toNat_zero, Int.reduceLE, Int.reduceLT, Int.reduceEq, Int.reduceNe, gb_T, gb_F, Int.reduceToNat, eq_self, true_or, or_true, and_true, true_and, and_self, ↓ite_gb0, ↓ite_gbn, ↓if_pos, ↓if_neg, if_true, if_false, not_true_eq_false, not_false_eq_true, gb_ne0, gb_eq0]
      exact ⟨CB_train (t := -1) rfl hw hc, Agr_upd (Agr_upd (Agr_refl _ _) (by unfold ZBr; omega)) (by unfold ZBr; omega)⟩
    · rw [if_neg e2, ftr_0 h12]
      simp (disch := first | assumption | exact gb_01 _ | omega) only [r_B_bringTrain_0, r_B_bringTrain_1, r_B_bringTrain_2, r_B_bringTrain_5, r_B_bringTrain_8, r_B_bringTrain_9, r_B_bringTrain_11, r_B_bringTrain_14, r_B_bringTrain_17, r_B_bringTrain_18, r_B_bringTrain_21, r_B_bringTrain_22, r_B_bringTrain_23, r_B_bringTrain_26, r_B_bringTrain_27, r_B_bringTrain_30, r_B_bringTrain_33, r_B_bringTrain_34, r_B_bringTrain_35, r_B_bringTrain_38, q0, q1, q2, q3, q4, q5, q6, q7, QP, w32_gb, w32i, tn_add, tn_mul, Int.toNat_natCast, Int.toNat_zero, Int.reduceLE, Int.reduceLT, Int.reduceEq, Int.reduceNe, gb_T, gb_F, Int.reduceToNat, eq_self, true_or, or_true, and_true, true_and, and_self, ↓ite_gb0, ↓ite_gbn, ↓if_pos, ↓if_neg, if_true, if_false, not_true_eq_false, not_false_eq_true, gb_ne0, gb_eq0]
      exact ⟨CB_tr1 (if_neg (by omega)).symm hw hc, Agr_upd (Agr_refl _ _) (by unfold ZBr; omega)⟩
  · rw [if_neg e]
    simp (disch := first | assumption | exact gb_01 _ | omega) only [r_B_bringTrain_0, r_B_bringTrain_1, r_B_bringTrain_2, r_B_bringTrain_5, r_B_bringTrain_8, r_B_bringTrain_9, r_B_bringTrain_11, r_B_bringTrain_14, r_B_bringTrain_17, r_B_bringTrain_18, r_B_bringTrain_21, r_B_bringTrain_22, r_B_bringTrain_23, r_B_bringTrain_26, r_B_bringTrain_27, r_B_bringTrain_30, r_B_bringTrain_33, r_B_bringTrain_34, r_B_bringTrain_35, r_B_bringTrain_38, q0, q1, q2, q3, q4, q5, q6, q7, QP, w32_gb, w32i, tn_add, tn_mul, Int.toNat_natCast, Int.toNat_zero, Int.reduceLE, Int.reduceLT, Int.reduceEq, Int.reduceNe, gb_T, gb_F, Int.reduceToNat, eq_self, true_or, or_true, and_true, true_and, and_self, ↓ite_gb0, ↓ite_gbn, ↓if_pos, ↓if_neg, if_true, if_false, not_true_eq_false, not_false_eq_true, gb_ne0, gb_eq0]
    exact ⟨CB_tr1 rfl hw hc, Agr_upd (Agr_refl _ _) (by unfold ZBr; omega)⟩
theorem r_G_passSecond_0 : Wp L d k_G_passSecond 0 [vR b0, l1, l2] [] σ Q ↔ Wp L d k_G_passSecond 1 [vR b0, l1, l2] [vR b0] σ Q := wp_aload rfl rfl
theorem r_G_passSecond_1 (h : gK c0 = 2) : Wp L d k_G_passSecond 1 [l0, l1, l2] [vR c0] σ Q ↔ Wp L d k_G_passSecond 4 [l0, l1, l2] [vI (σ c0 1)] σ Q := wp_getI (c := 513) rfl rfl rfl rfl h
theorem r_G_passSecond_4 : Wp L d k_G_passSecond 4 [l0, l1, l2] [vI s0] σ Q ↔ Wp L d k_G_passSecond 6 [l0, l1, l2] [vI (-1000000005), vI s0] σ Q := wp_push rfl
theorem r_G_passSecond_6 : Wp L d k_G_passSecond 6 [l0, l1, l2] [vI s1, vI s0] σ Q ↔ (if s0 = s1 then Wp L d k_G_passSecond 42 [l0, l1, l2] [] σ Q else Wp L d k_G_passSecond 9 [l0, l1, l2] [] σ Q) := wp_cmp_eq rfl
theorem r_G_passSecond_9 : Wp L d k_G_passSecond 9 [l0, l1, vI a2] [] σ Q ↔ Wp L d k_G_passSecond 10 [l0, l1, vI a2] [vI a2] σ Q := wp_iload rfl rfl
theorem r_G_passSecond_10 : Wp L d k_G_passSecond 10 [vR b0, l1, l2] [vI s0] σ Q ↔ Wp L d k_G_passSecond 11 [vR b0, l1, l2] [vR b0, vI s0] σ Q := wp_aload rfl rfl
theorem r_G_passSecond_11 (h : gK c1 = 2) : Wp L d k_G_passSecond 11 [l0, l1, l2] [vR c1, vI s0] σ Q ↔ Wp L d k_G_passSecond 14 [l0, l1, l2] [vI (σ c1 1), vI s0] σ Q := wp_getI (c := 513) rfl rfl rfl rfl h
theorem r_G_passSecond_14 : Wp L d k_G_passSecond 14 [l0, l1, l2] [vI s1, vI s0] σ Q ↔ (if s0 < s1 then Wp L d k_G_passSecond 42 [l0, l1, l2] [] σ Q else Wp L d k_G_passSecond 17 [l0, l1, l2] [] σ Q) := wp_cmp_lt rfl
theorem r_G_passSecond_17 : Wp L d k_G_passSecond 17 [l0, vR b1, l2] [] σ Q ↔ Wp L d k_G_passSecond 18 [l0, vR b1, l2] [vR b1] σ Q := wp_aload rfl rfl
theorem r_G_passSecond_18 (h : gK c0 = 1) : Wp L d k_G_passSecond 18 [l0, l1, l2] [vR c0] σ Q ↔ Wp L d k_G_passSecond 21 [l0, l1, l2] [vI (σ c0 13)] σ Q := wp_getI (c := 333) rfl rfl rfl rfl h
theorem r_G_passSecond_21 : Wp L d k_G_passSecond 21 [l0, l1, l2] [vI s0] σ Q ↔ (if s0 ≠ 0 then Wp L d k_G_passSecond 42 [l0, l1, l2] [] σ Q else Wp L d k_G_passSecond 24 [l0, l1, l2] [] σ Q) := wp_if_ne rfl
theorem r_G_passSecond_24 : Wp L d k_G_passSecond 24 [l0, vR b1, l2] [] σ Q ↔ Wp L d k_G_passSecond 25 [l0, vR b1, l2] [vR b1] σ Q := wp_aload rfl rfl
theorem r_G_passSecond_25 : Wp L d k_G_passSecond 25 [l0, l1, vI a2] [vR c0] σ Q ↔ Wp L d k_G_passSecond 26 [l0, l1, vI a2] [vI a2, vR c0] σ Q := wp_iload rfl rfl
theorem r_G_passSecond_26 : Wp L d k_G_passSecond 26 [vR b0, l1, l2] [vI s1, vR c0] σ Q ↔ Wp L d k_G_passSecond 27 [vR b0, l1, l2] [vR b0, vI s1, vR c0] σ Q := wp_aload rfl rfl
theorem r_G_passSecond_27 (h : gK c2 = 2) : Wp L d k_G_passSecond 27 [l0, l1, l2] [vR c2, vI s1, vR c0] σ Q ↔ Wp L d k_G_passSecond 30 [l0, l1, l2] [vI (σ c2 1), vI s1, vR c0] σ Q := wp_getI (c := 513) rfl rfl rfl rfl h
theorem r_G_passSecond_30 : Wp L d k_G_passSecond 30 [l0, l1, l2] [vI s2, vI s1, vR c0] σ Q ↔ Wp L d k_G_passSecond 31 [l0, l1, l2] [vI (w32 (s1 - s2)), vR c0] σ Q := wp_isub rfl
theorem r_G_passSecond_31 : Wp L d k_G_passSecond 31 [vR b0, l1, l2] [vI s1, vR c0] σ Q ↔ Wp L d k_G_passSecond 32 [vR b0, l1, l2] [vR b0, vI s1, vR c0] σ Q := wp_aload rfl rfl
theorem r_G_passSecond_32 (h : gK c2 = 2) : Wp L d k_G_passSecond 32 [l0, l1, l2] [vR c2, vI s1, vR c0] σ Q ↔ Wp L d k_G_passSecond 35 [l0, l1, l2] [vI (σ c2 2), vI s1, vR c0] σ Q := wp_getI (c := 514) rfl rfl rfl rfl h
theorem r_G_passSecond_35 : Wp L d k_G_passSecond 35 [l0, l1, l2] [vI s2, vI s1, vR c0] σ Q ↔ Wp L d k_G_passSecond 36 [l0, l1, l2] [vI (w32 (s1 * s2)), vR c0] σ Q := wp_imul rfl
theorem r_G_passSecond_36 : Wp L d k_G_passSecond 36 [l0, l1, l2] [vI s1, vR c0] σ Q ↔ Wp L d k_G_passSecond 38 [l0, l1, l2] [vI 20, vI s1, vR c0] σ Q := wp_push rfl
theorem r_G_passSecond_38 (h : s2 ≠ 0) : Wp L d k_G_passSecond 38 [l0, l1, l2] [vI s2, vI s1, vR c0] σ Q ↔ Wp L d k_G_passSecond 39 [l0, l1, l2] [vI (w32 (s1.tdiv s2)), vR c0] σ Q := wp_idiv rfl h
theorem c_G_passSecond_39 (hR : Run L d 113 [vR c0, vI s1] σ r σ1) (h : gK c0 = 1) : Wp L (d + 1) k_G_passSecond 39 [l0, l1, l2] [vI s1, vR c0] σ Q ↔ Wp L (d + 1) k_G_passSecond 42 [l0, l1, l2] (r.toList ++ []) σ1 Q := wp_callR (as := [vR c0, vI s1]) (rest := []) rfl rfl rfl rfl rfl rfl rfl (grecv_k (by rw [h]) rfl) hR
theorem r_G_passSecond_42 : Wp L d k_G_passSecond 42 [l0, vR b1, l2] [] σ Q ↔ Wp L d k_G_passSecond 43 [l0, vR b1, l2] [vR b1] σ Q := wp_aload rfl rfl
theorem r_G_passSecond_43 : Wp L d k_G_passSecond 43 [vR b0, l1, l2] [vR c0] σ Q ↔ Wp L d k_G_passSecond 44 [vR b0, l1, l2] [vR b0, vR c0] σ Q := wp_aload rfl rfl
theorem r_G_passSecond_44 (h : gK c1 = 2) : Wp L d k_G_passSecond 44 [l0, l1, l2] [vR c1, vR c0] σ Q ↔ Wp L d k_G_passSecond 47 [l0, l1, l2] [vR (gq c1 0), vR c0] σ Q := wp_getR (c := 640) rfl rfl rfl rfl rfl h
theorem r_G_passSecond_47 : Wp L d k_G_passSecond 47 [l0, l1, vI a2] [vR c1, vR c0] σ Q ↔ Wp L d k_G_passSecond 48 [l0, l1, vI a2] [vI a2, vR c1, vR c0] σ Q := wp_iload rfl rfl
theorem r_G_passSecond_48 (h : gK c1 = 100) (hx : 0 ≤ s2 ∧ s2 < gN c1) : Wp L d k_G_passSecond 48 [l0, l1, l2] [vI s2, vR c1, vR c0] σ Q ↔ Wp L d k_G_passSecond 49 [l0, l1, l2] [vI (σ c1 s2.toNat), vR c0] σ Q := wp_iald rfl h hx
theorem c_G_passSecond_49 (hR : Run L d 104 [vR c0, vI s1] σ r σ1) (h : gK c0 = 1) : Wp L (d + 1) k_G_passSecond 49 [l0, l1, l2] [vI s1, vR c0] σ Q ↔ Wp L (d + 1) k_G_passSecond 52 [l0, l1, l2] (r.toList ++ []) σ1 Q := wp_callR (as := [vR c0, vI s1]) (rest := []) rfl rfl rfl rfl rfl rfl rfl (grecv_k (by rw [h]) rfl) hR
theorem r_G_passSecond_52 : Wp L d k_G_passSecond 52 [l0, l1, l2] [vI s0] σ Q ↔ Wp L d k_G_passSecond 53 [l0, l1, l2] [] σ Q := wp_pop rfl
theorem r_G_passSecond_53 : Wp L d k_G_passSecond 53 [l0, l1, l2] [] σ Q ↔ Q none σ := wp_vret rfl
theorem sp_G_passSecond {b : Nat} {f : Nat → Int} {c s : Nat} (hB : BR b) (hw : WB f) (hc : CB b f σ) (hl : GL c) (hcb : c + 1 < b ∨ b + 48 < c) (hg : WG f) (hcg : CG c f σ) (hs : s < 60) (hN : brNT f s) : ∃ σ', Run L (d + 4) 120 [vR c, vR b, vI (s : Int)] σ none σ' ∧ CB b (brsec f s) σ' ∧ Agr σ σ' (ZBr b) := by
  refine Run_ex (C' := k_G_passSecond) rfl ?_
  show Wp L (d + 4) k_G_passSecond 0 [vR c, vR b, vI (s : Int)] [] σ _
  obtain ⟨G0, gc, G1, G2⟩ := hl
  have hB0 := hB
  obtain ⟨⟨K0, q0, q1, q2, q3, q4, q5, q6, q7⟩, ⟨K1, K2, K3, K4, K5, K6, K7, K8⟩, ⟨N1, N2, N3, N4, N5, N6, N7, N8⟩, QP, KP⟩ := hB
  have w1 := hw.1
  have w2 := hw.2.1
  have c1 := hc.1
  have c2 := hc.2.1

  have w8 := hw.2.2.2.2.2.2.2
  have c13 := hc.2.2.2.2.2.2.2
  have g13 : σ c 1 = if f 13 < 0 then -1000000005 else f 13 := hcg.1
  have g14 := hcg.2.1
  have v13 := hg.1
  obtain ⟨hw1, hs1⟩ := brsc_ok hw s
  obtain ⟨n, hn⟩ := brN_ex hw1 (f (60 + s))
  have hw60 := hg.2.2 s hs
  unfold brsec
  rw [← brN_40 hw1 hn]
  by_cases e : (0 ≤ f 13 ∧ f 13 ≤ (s : Int)) ∧ f 12 = 0
  · obtain ⟨m1, m2, m3, m4⟩ := brT_bd hg (k := (s : Int)) (by omega) e.1
    rw [if_neg (by omega)] at g13
    obtain ⟨τ1, hR1, hc1, hA1⟩ := sp_B_bringTrain (L := L) (d := d + 2) (a1 := brT f s) hB0 hw hc m3 e.2
    have eb : (if brT f s ≤ f 0 - 1 then (if f (20 + 3 * (brT f s).toNat + 2) = 1 then ftr f (-1) 1 else ftr f (brT f s) 0) else fu f 11 (-1)) = brsc f s := by
      unfold brsc
      by_cases x : brT f s ≤ f 0 - 1
      · rw [if_pos x, if_pos (c := ((0 ≤ f 13 ∧ f 13 ≤ (s : Int)) ∧ f 12 = 0) ∧ (0 ≤ brT f s ∧ brT f s ≤ f 0 - 1)) ⟨e, m3, x⟩]
      · rw [if_neg x, if_neg (fun y => x y.2.2)]
    rw [eb] at hc1
    have g60 : τ1 (c + 1) s = f (60 + s) := by rw [hA1 _ _ (by unfold ZBr; omega)]; exact hcg.2.2 s hs
    obtain ⟨τ2, hR2, hc2, hA2⟩ := sp_B_collapse (L := L) (d := d + 0) hB0 hw1 hc1 hw60 hn
    have hT : ((s : Int) - f 13) * f 14 = ((s : Int) - f 13) * f 14 := rfl
    have hT2 : (((s : Int) - f 13) * f 14).tdiv 20 = brT f s := rfl
    simp (disch := first | assumption | exact gb_01 _ | omega) only [r_G_passSecond_0, r_G_passSecond_1, r_G_passSecond_4, r_G_passSecond_6, r_G_passSecond_9, r_G_passSecond_10, r_G_passSecond_11, r_G_passSecond_14, r_G_passSecond_17, r_G_passSecond_18, r_G_passSecond_21, r_G_passSecond_24, r_G_passSecond_25, r_G_passSecond_26, r_G_passSecond_27, r_G_passSecond_30, r_G_passSecond_31, r_G_passSecond_32, r_G_passSecond_35, r_G_passSecond_36, r_G_passSecond_38, r_G_passSecond_42, r_G_passSecond_43, r_G_passSecond_44, r_G_passSecond_47, r_G_passSecond_48, r_G_passSecond_52, r_G_passSecond_53, c_G_passSecond_39 hR1, c_G_passSecond_49 hR2, Option.toList, List.singleton_append, List.cons_append, List.nil_append, List.append_nil, gc, c13, g13, g14, hT2, g60, w32_gb, w32i, tn_add, tn_mul, Int.toNat_natCast, Int.toNat_zero, Int.reduceLE, Int.reduceLT, Int.reduceEq, Int.reduceNe, gb_T, gb_F, Int.reduceToNat, eq_self, true_or, or_true, and_true, true_and, and_self, ↓ite_gb0, ↓ite_gbn, ↓if_pos, ↓if_neg, if_true, if_false, not_true_eq_false, not_false_eq_true, gb_ne0, gb_eq0]
    exact ⟨hc2, Agr_trans hA1 hA2⟩
  · have e11 : f 11 = -1 := hN (by omega)
    have eb : brsc f s = f := by
      unfold brsc
      rw [if_neg (fun x => e x.1), fu_self e11]
    rw [eb] at hn hw1 hs1 ⊢
    have g60 : σ (c + 1) s = f (60 + s) := hcg.2.2 s hs
    obtain ⟨τ2, hR2, hc2, hA2⟩ := sp_B_collapse (L := L) (d := d + 0) hB0 hw1 hc hw60 hn
    by_cases x1 : f 13 < 0
    · rw [if_pos x1] at g13
      simp (disch := first | assumption | exact gb_01 _ | omega) only [r_G_passSecond_0, r_G_passSecond_1, r_G_passSecond_4, r_G_passSecond_6, r_G_passSecond_9, r_G_passSecond_10, r_G_passSecond_11, r_G_passSecond_14, r_G_passSecond_17, r_G_passSecond_18, r_G_passSecond_21, r_G_passSecond_24, r_G_passSecond_25, r_G_passSecond_26, r_G_passSecond_27, r_G_passSecond_30, r_G_passSecond_31, r_G_passSecond_32, r_G_passSecond_35, r_G_passSecond_36, r_G_passSecond_38, r_G_passSecond_42, r_G_passSecond_43, r_G_passSecond_44, r_G_passSecond_47, r_G_passSecond_48, r_G_passSecond_52, r_G_passSecond_53, c_G_passSecond_49 hR2, Option.toList, List.singleton_append, List.cons_append, List.nil_append, List.append_nil, gc, c13, g13, g60, w32_gb, w32i, tn_add, tn_mul, Int.toNat_natCast, Int.toNat_zero, Int.reduceLE, Int.reduceLT, Int.reduceEq, Int.reduceNe, gb_T, gb_F, Int.reduceToNat, eq_self, true_or, or_true, and_true, true_and, and_self, ↓ite_gb0, ↓ite_gbn, ↓if_pos, ↓if_neg, if_true, if_false, not_true_eq_false, not_false_eq_true, gb_ne0, gb_eq0]
      exact ⟨hc2, hA2⟩
    · rw [if_neg x1] at g13
      by_cases x2 : f 13 ≤ (s : Int)
      · simp (disch := first | assumption | exact gb_01 _ | omega) only [r_G_passSecond_0, r_G_passSecond_1, r_G_passSecond_4, r_G_passSecond_6, r_G_passSecond_9, r_G_passSecond_10, r_G_passSecond_11, r_G_passSecond_14, r_G_passSecond_17, r_G_passSecond_18, r_G_passSecond_21, r_G_passSecond_24, r_G_passSecond_25, r_G_passSecond_26, r_G_passSecond_27, r_G_passSecond_30, r_G_passSecond_31, r_G_passSecond_32, r_G_passSecond_35, r_G_passSecond_36, r_G_passSecond_38, r_G_passSecond_42, r_G_passSecond_43, r_G_passSecond_44, r_G_passSecond_47, r_G_passSecond_48, r_G_passSecond_52, r_G_passSecond_53, c_G_passSecond_49 hR2, Option.toList, List.singleton_append, List.cons_append, List.nil_append, List.append_nil, gc, c13, g13, g60, w32_gb, w32i, tn_add, tn_mul, Int.toNat_natCast, Int.toNat_zero, Int.reduceLE, Int.reduceLT, Int.reduceEq, Int.reduceNe, gb_T, gb_F, Int.reduceToNat, eq_self, true_or, or_true, and_true, true_and, and_self, ↓ite_gb0, ↓ite_gbn, ↓if_pos, ↓if_neg, if_true, if_false, not_true_eq_false, not_false_eq_true, gb_ne0, gb_eq0]
        exact ⟨hc2, hA2⟩
      · simp (disch := first | assumption | exact gb_01 _ | omega) only [r_G_passSecond_0, r_G_passSecond_1, r_G_passSecond_4, r_G_passSecond_6, r_G_passSecond_9, r_G_passSecond_10, r_G_passSecond_11, r_G_passSecond_14, r_G_passSecond_17, r_G_passSecond_18, r_G_passSecond_21, r_G_passSecond_24, r_G_passSecond_25, r_G_passSecond_26, r_G_passSecond_27, r_G_passSecond_30, r_G_passSecond_31, r_G_passSecond_32, r_G_passSecond_35, r_G_passSecond_36, r_G_passSecond_38, r_G_passSecond_42, r_G_passSecond_43, r_G_passSecond_44, r_G_passSecond_47, r_G_passSecond_48, r_G_passSecond_52, r_G_passSecond_53, c_G_passSecond_49 hR2, Option.toList, List.singleton_append, List.cons_append, List.nil_append, List.append_nil, gc, c13, g13, g60, w32_gb, w32i, tn_add, tn_mul, Int.toNat_natCast, Int.toNat_zero, Int.reduceLE, Int.reduceLT, Int.reduceEq, Int.reduceNe, gb_T, gb_F, Int.reduceToNat, eq_self, true_or, or_true, and_true, true_and, and_self, ↓ite_gb0, ↓ite_gbn, ↓if_pos, ↓if_neg, if_true, if_false, not_true_eq_false, not_false_eq_true, gb_ne0, gb_eq0]
        exact ⟨hc2, hA2⟩
theorem r_M_nightBegins_0 : Wp L d k_M_nightBegins 0 [vR b0] [] σ Q ↔ Wp L d k_M_nightBegins 1 [vR b0] [vR b0] σ Q := wp_aload rfl rfl
theorem r_M_nightBegins_1 (h : gK c0 = 12) : Wp L d k_M_nightBegins 1 [l0] [vR c0] σ Q ↔ Wp L d k_M_nightBegins 4 [l0] [vR (gq c0 0)] σ Q := wp_getR (c := 3200) rfl rfl rfl rfl rfl h
theorem r_M_nightBegins_4 : Wp L d k_M_nightBegins 4 [l0] [vR c0] σ Q ↔ Wp L d k_M_nightBegins 6 [l0] [vI 11, vR c0] σ Q := wp_push rfl
theorem r_M_nightBegins_6 : Wp L d k_M_nightBegins 6 [l0] [vI s1, vR c0] σ Q ↔ Wp L d k_M_nightBegins 7 [l0] [vI (-1), vI s1, vR c0] σ Q := wp_push rfl
theorem r_M_nightBegins_7 (h : gK c0 = 100) (hx : 0 ≤ s1 ∧ s1 < gN c0) : Wp L d k_M_nightBegins 7 [l0] [vI s2, vI s1, vR c0] σ Q ↔ Wp L d k_M_nightBegins 8 [l0] [] (gupd σ c0 s1.toNat s2) Q := wp_iast rfl h hx
theorem r_M_nightBegins_8 : Wp L d k_M_nightBegins 8 [vR b0] [] σ Q ↔ Wp L d k_M_nightBegins 9 [vR b0] [vR b0] σ Q := wp_aload rfl rfl
theorem r_M_nightBegins_9 (h : gK c0 = 12) : Wp L d k_M_nightBegins 9 [l0] [vR c0] σ Q ↔ Wp L d k_M_nightBegins 12 [l0] [vR (gq c0 0)] σ Q := wp_getR (c := 3200) rfl rfl rfl rfl rfl h
theorem r_M_nightBegins_12 : Wp L d k_M_nightBegins 12 [l0] [vR c0] σ Q ↔ Wp L d k_M_nightBegins 14 [l0] [vI 12, vR c0] σ Q := wp_push rfl
theorem r_M_nightBegins_14 : Wp L d k_M_nightBegins 14 [l0] [vI s1, vR c0] σ Q ↔ Wp L d k_M_nightBegins 15 [l0] [vI 0, vI s1, vR c0] σ Q := wp_push rfl
theorem r_M_nightBegins_15 (h : gK c0 = 100) (hx : 0 ≤ s1 ∧ s1 < gN c0) : Wp L d k_M_nightBegins 15 [l0] [vI s2, vI s1, vR c0] σ Q ↔ Wp L d k_M_nightBegins 16 [l0] [] (gupd σ c0 s1.toNat s2) Q := wp_iast rfl h hx
theorem r_M_nightBegins_16 : Wp L d k_M_nightBegins 16 [l0] [] σ Q ↔ Q none σ := wp_vret rfl
theorem sp_M_nightBegins : Run L d 273 [vR 293] σ none (gsr σ 294 (ftr (σ 294) (-1) 0)) := by
  refine Run_of (C' := k_M_nightBegins) rfl ?_
  show Wp L d k_M_nightBegins 0 [vR 293] [] σ _
  obtain ⟨K293, Q293, K294, N294⟩ := litM
  simp (disch := first | assumption | exact gb_01 _ | omega) only [r_M_nightBegins_0, r_M_nightBegins_1, r_M_nightBegins_4, r_M_nightBegins_6, r_M_nightBegins_7, r_M_nightBegins_8, r_M_nightBegins_9, r_M_nightBegins_12, r_M_nightBegins_14, r_M_nightBegins_15, r_M_nightBegins_16, Q293, w32_gb, w32i, tn_add, tn_mul, Int.toNat_natCast, Int.toNat_zero, Int.reduceLE, Int.reduceLT, Int.reduceEq, Int.reduceNe, gb_T, gb_F, Int.reduceToNat, eq_self, true_or, or_true, and_true, true_and, and_self, ↓ite_gb0, ↓ite_gbn, ↓if_pos, ↓if_neg, if_true, if_false, not_true_eq_false, not_false_eq_true, gb_ne0, gb_eq0]
  unfold ftr
  rw [gupd_sr (σ := σ), gsr_upd]
theorem r_M_second_0 : Wp L d k_M_second 0 [vR b0, l1, l2] [] σ Q ↔ Wp L d k_M_second 1 [vR b0, l1, l2] [vR b0] σ Q := wp_aload rfl rfl
theorem r_M_second_1 (h : gK c0 = 12) : Wp L d k_M_second 1 [l0, l1, l2] [vR c0] σ Q ↔ Wp L d k_M_second 4 [l0, l1, l2] [vR (gq c0 0)] σ Q := wp_getR (c := 3200) rfl rfl rfl rfl rfl h
theorem r_M_second_4 : Wp L d k_M_second 4 [l0, l1, l2] [vR c0] σ Q ↔ Wp L d k_M_second 6 [l0, l1, l2] [vI 11, vR c0] σ Q := wp_push rfl
theorem r_M_second_6 : Wp L d k_M_second 6 [l0, l1, l2] [vI s1, vR c0] σ Q ↔ Wp L d k_M_second 7 [l0, l1, l2] [vI (-1), vI s1, vR c0] σ Q := wp_push rfl
theorem r_M_second_7 (h : gK c0 = 100) (hx : 0 ≤ s1 ∧ s1 < gN c0) : Wp L d k_M_second 7 [l0, l1, l2] [vI s2, vI s1, vR c0] σ Q ↔ Wp L d k_M_second 8 [l0, l1, l2] [] (gupd σ c0 s1.toNat s2) Q := wp_iast rfl h hx
theorem r_M_second_8 : Wp L d k_M_second 8 [vR b0, l1, l2] [] σ Q ↔ Wp L d k_M_second 9 [vR b0, l1, l2] [vR b0] σ Q := wp_aload rfl rfl
theorem r_M_second_9 (h : gK c0 = 12) : Wp L d k_M_second 9 [l0, l1, l2] [vR c0] σ Q ↔ Wp L d k_M_second 12 [l0, l1, l2] [vR (gq c0 0)] σ Q := wp_getR (c := 3200) rfl rfl rfl rfl rfl h
theorem r_M_second_12 : Wp L d k_M_second 12 [l0, l1, l2] [vR c0] σ Q ↔ Wp L d k_M_second 14 [l0, l1, l2] [vI 13, vR c0] σ Q := wp_push rfl
theorem r_M_second_14 (h : gK c0 = 100) (hx : 0 ≤ s1 ∧ s1 < gN c0) : Wp L d k_M_second 14 [l0, l1, l2] [vI s1, vR c0] σ Q ↔ Wp L d k_M_second 15 [l0, l1, l2] [vI (σ c0 s1.toNat)] σ Q := wp_iald rfl h hx
theorem r_M_second_15 : Wp L d k_M_second 15 [l0, l1, l2] [vI s0] σ Q ↔ (if s0 < 0 then Wp L d k_M_second 108 [l0, l1, l2] [] σ Q else Wp L d k_M_second 18 [l0, l1, l2] [] σ Q) := wp_if_lt rfl
theorem r_M_second_18 : Wp L d k_M_second 18 [l0, vI a1, l2] [] σ Q ↔ Wp L d k_M_second 19 [l0, vI a1, l2] [vI a1] σ Q := wp_iload rfl rfl
theorem r_M_second_19 : Wp L d k_M_second 19 [vR b0, l1, l2] [vI s0] σ Q ↔ Wp L d k_M_second 20 [vR b0, l1, l2] [vR b0, vI s0] σ Q := wp_aload rfl rfl
theorem r_M_second_20 (h : gK c1 = 12) : Wp L d k_M_second 20 [l0, l1, l2] [vR c1, vI s0] σ Q ↔ Wp L d k_M_second 23 [l0, l1, l2] [vR (gq c1 0), vI s0] σ Q := wp_getR (c := 3200) rfl rfl rfl rfl rfl h
theorem r_M_second_23 : Wp L d k_M_second 23 [l0, l1, l2] [vR c1, vI s0] σ Q ↔ Wp L d k_M_second 25 [l0, l1, l2] [vI 13, vR c1, vI s0] σ Q := wp_push rfl
theorem r_M_second_25 (h : gK c1 = 100) (hx : 0 ≤ s2 ∧ s2 < gN c1) : Wp L d k_M_second 25 [l0, l1, l2] [vI s2, vR c1, vI s0] σ Q ↔ Wp L d k_M_second 26 [l0, l1, l2] [vI (σ c1 s2.toNat), vI s0] σ Q := wp_iald rfl h hx
theorem r_M_second_26 : Wp L d k_M_second 26 [l0, l1, l2] [vI s1, vI s0] σ Q ↔ (if s0 < s1 then Wp L d k_M_second 108 [l0, l1, l2] [] σ Q else Wp L d k_M_second 29 [l0, l1, l2] [] σ Q) := wp_cmp_lt rfl
theorem r_M_second_29 : Wp L d k_M_second 29 [vR b0, l1, l2] [] σ Q ↔ Wp L d k_M_second 30 [vR b0, l1, l2] [vR b0] σ Q := wp_aload rfl rfl
theorem r_M_second_30 (h : gK c0 = 12) : Wp L d k_M_second 30 [l0, l1, l2] [vR c0] σ Q ↔ Wp L d k_M_second 33 [l0, l1, l2] [vR (gq c0 0)] σ Q := wp_getR (c := 3200) rfl rfl rfl rfl rfl h
theorem r_M_second_33 : Wp L d k_M_second 33 [l0, l1, l2] [vR c0] σ Q ↔ Wp L d k_M_second 35 [l0, l1, l2] [vI 12, vR c0] σ Q := wp_push rfl
theorem r_M_second_35 (h : gK c0 = 100) (hx : 0 ≤ s1 ∧ s1 < gN c0) : Wp L d k_M_second 35 [l0, l1, l2] [vI s1, vR c0] σ Q ↔ Wp L d k_M_second 36 [l0, l1, l2] [vI (σ c0 s1.toNat)] σ Q := wp_iald rfl h hx
theorem r_M_second_36 : Wp L d k_M_second 36 [l0, l1, l2] [vI s0] σ Q ↔ (if s0 ≠ 0 then Wp L d k_M_second 108 [l0, l1, l2] [] σ Q else Wp L d k_M_second 39 [l0, l1, l2] [] σ Q) := wp_if_ne rfl
theorem r_M_second_39 : Wp L d k_M_second 39 [l0, vI a1, l2] [] σ Q ↔ Wp L d k_M_second 40 [l0, vI a1, l2] [vI a1] σ Q := wp_iload rfl rfl
theorem r_M_second_40 : Wp L d k_M_second 40 [vR b0, l1, l2] [vI s0] σ Q ↔ Wp L d k_M_second 41 [vR b0, l1, l2] [vR b0, vI s0] σ Q := wp_aload rfl rfl
theorem r_M_second_41 (h : gK c1 = 12) : Wp L d k_M_second 41 [l0, l1, l2] [vR c1, vI s0] σ Q ↔ Wp L d k_M_second 44 [l0, l1, l2] [vR (gq c1 0), vI s0] σ Q := wp_getR (c := 3200) rfl rfl rfl rfl rfl h
theorem r_M_second_44 : Wp L d k_M_second 44 [l0, l1, l2] [vR c1, vI s0] σ Q ↔ Wp L d k_M_second 46 [l0, l1, l2] [vI 13, vR c1, vI s0] σ Q := wp_push rfl
theorem r_M_second_46 (h : gK c1 = 100) (hx : 0 ≤ s2 ∧ s2 < gN c1) : Wp L d k_M_second 46 [l0, l1, l2] [vI s2, vR c1, vI s0] σ Q ↔ Wp L d k_M_second 47 [l0, l1, l2] [vI (σ c1 s2.toNat), vI s0] σ Q := wp_iald rfl h hx
theorem r_M_second_47 : Wp L d k_M_second 47 [l0, l1, l2] [vI s1, vI s0] σ Q ↔ Wp L d k_M_second 48 [l0, l1, l2] [vI (w32 (s0 - s1))] σ Q := wp_isub rfl
theorem r_M_second_48 : Wp L d k_M_second 48 [vR b0, l1, l2] [vI s0] σ Q ↔ Wp L d k_M_second 49 [vR b0, l1, l2] [vR b0, vI s0] σ Q := wp_aload rfl rfl
theorem r_M_second_49 (h : gK c1 = 12) : Wp L d k_M_second 49 [l0, l1, l2] [vR c1, vI s0] σ Q ↔ Wp L d k_M_second 52 [l0, l1, l2] [vR (gq c1 0), vI s0] σ Q := wp_getR (c := 3200) rfl rfl rfl rfl rfl h
theorem r_M_second_52 : Wp L d k_M_second 52 [l0, l1, l2] [vR c1, vI s0] σ Q ↔ Wp L d k_M_second 54 [l0, l1, l2] [vI 14, vR c1, vI s0] σ Q := wp_push rfl
theorem r_M_second_54 (h : gK c1 = 100) (hx : 0 ≤ s2 ∧ s2 < gN c1) : Wp L d k_M_second 54 [l0, l1, l2] [vI s2, vR c1, vI s0] σ Q ↔ Wp L d k_M_second 55 [l0, l1, l2] [vI (σ c1 s2.toNat), vI s0] σ Q := wp_iald rfl h hx
theorem r_M_second_55 : Wp L d k_M_second 55 [l0, l1, l2] [vI s1, vI s0] σ Q ↔ Wp L d k_M_second 56 [l0, l1, l2] [vI (w32 (s0 * s1))] σ Q := wp_imul rfl
theorem r_M_second_56 : Wp L d k_M_second 56 [l0, l1, l2] [vI s0] σ Q ↔ Wp L d k_M_second 58 [l0, l1, l2] [vI 20, vI s0] σ Q := wp_push rfl
theorem r_M_second_58 (h : s1 ≠ 0) : Wp L d k_M_second 58 [l0, l1, l2] [vI s1, vI s0] σ Q ↔ Wp L d k_M_second 59 [l0, l1, l2] [vI (w32 (s0.tdiv s1))] σ Q := wp_idiv rfl h
theorem r_M_second_59 : Wp L d k_M_second 59 [l0, vI a1, l2] [vI s0] σ Q ↔ Wp L d k_M_second 60 [l0, vI a1, vI s0] [] σ Q := wp_istore (i := 2) (ls := [l0, vI a1, l2]) rfl rfl
theorem r_M_second_60 : Wp L d k_M_second 60 [vR b0, l1, l2] [] σ Q ↔ Wp L d k_M_second 61 [vR b0, l1, l2] [vR b0] σ Q := wp_aload rfl rfl
theorem r_M_second_61 : Wp L d k_M_second 61 [l0, l1, vI a2] [vR c0] σ Q ↔ Wp L d k_M_second 62 [l0, l1, vI a2] [vI a2, vR c0] σ Q := wp_iload rfl rfl
theorem r_M_second_65 : Wp L d k_M_second 65 [l0, l1, l2] [vI s0] σ Q ↔ (if s0 = 0 then Wp L d k_M_second 108 [l0, l1, l2] [] σ Q else Wp L d k_M_second 68 [l0, l1, l2] [] σ Q) := wp_if_eq rfl
theorem r_M_second_68 : Wp L d k_M_second 68 [vR b0, l1, l2] [] σ Q ↔ Wp L d k_M_second 69 [vR b0, l1, l2] [vR b0] σ Q := wp_aload rfl rfl
theorem r_M_second_69 (h : gK c0 = 12) : Wp L d k_M_second 69 [l0, l1, l2] [vR c0] σ Q ↔ Wp L d k_M_second 72 [l0, l1, l2] [vR (gq c0 0)] σ Q := wp_getR (c := 3200) rfl rfl rfl rfl rfl h
theorem r_M_second_72 : Wp L d k_M_second 72 [l0, l1, l2] [vR c0] σ Q ↔ Wp L d k_M_second 74 [l0, l1, l2] [vI 12, vR c0] σ Q := wp_push rfl
theorem r_M_second_74 : Wp L d k_M_second 74 [vR b0, l1, l2] [vI s1, vR c0] σ Q ↔ Wp L d k_M_second 75 [vR b0, l1, l2] [vR b0, vI s1, vR c0] σ Q := wp_aload rfl rfl
theorem r_M_second_75 : Wp L d k_M_second 75 [l0, l1, vI a2] [vR c2, vI s1, vR c0] σ Q ↔ Wp L d k_M_second 76 [l0, l1, vI a2] [vI a2, vR c2, vI s1, vR c0] σ Q := wp_iload rfl rfl
theorem r_M_second_79 : Wp L d k_M_second 79 [l0, l1, l2] [vI s2, vI s1, vR c0] σ Q ↔ (if s2 = 0 then Wp L d k_M_second 86 [l0, l1, l2] [vI s1, vR c0] σ Q else Wp L d k_M_second 82 [l0, l1, l2] [vI s1, vR c0] σ Q) := wp_if_eq rfl
theorem r_M_second_82 : Wp L d k_M_second 82 [l0, l1, l2] [vI s1, vR c0] σ Q ↔ Wp L d k_M_second 83 [l0, l1, l2] [vI 1, vI s1, vR c0] σ Q := wp_push rfl
theorem r_M_second_83 : Wp L d k_M_second 83 [l0, l1, l2] [vI s2, vI s1, vR c0] σ Q ↔ Wp L d k_M_second 87 [l0, l1, l2] [vI s2, vI s1, vR c0] σ Q := wp_goto rfl
theorem r_M_second_86 : Wp L d k_M_second 86 [l0, l1, l2] [vI s1, vR c0] σ Q ↔ Wp L d k_M_second 87 [l0, l1, l2] [vI 0, vI s1, vR c0] σ Q := wp_push rfl
theorem r_M_second_87 (h : gK c0 = 100) (hx : 0 ≤ s1 ∧ s1 < gN c0) : Wp L d k_M_second 87 [l0, l1, l2] [vI s2, vI s1, vR c0] σ Q ↔ Wp L d k_M_second 88 [l0, l1, l2] [] (gupd σ c0 s1.toNat s2) Q := wp_iast rfl h hx
theorem r_M_second_88 : Wp L d k_M_second 88 [vR b0, l1, l2] [] σ Q ↔ Wp L d k_M_second 89 [vR b0, l1, l2] [vR b0] σ Q := wp_aload rfl rfl
theorem r_M_second_89 (h : gK c0 = 12) : Wp L d k_M_second 89 [l0, l1, l2] [vR c0] σ Q ↔ Wp L d k_M_second 92 [l0, l1, l2] [vR (gq c0 0)] σ Q := wp_getR (c := 3200) rfl rfl rfl rfl rfl h
theorem r_M_second_92 : Wp L d k_M_second 92 [l0, l1, l2] [vR c0] σ Q ↔ Wp L d k_M_second 94 [l0, l1, l2] [vI 11, vR c0] σ Q := wp_push rfl
theorem r_M_second_94 : Wp L d k_M_second 94 [vR b0, l1, l2] [vI s1, vR c0] σ Q ↔ Wp L d k_M_second 95 [vR b0, l1, l2] [vR b0, vI s1, vR c0] σ Q := wp_aload rfl rfl
theorem r_M_second_95 : Wp L d k_M_second 95 [l0, l1, vI a2] [vR c2, vI s1, vR c0] σ Q ↔ Wp L d k_M_second 96 [l0, l1, vI a2] [vI a2, vR c2, vI s1, vR c0] σ Q := wp_iload rfl rfl
theorem r_M_second_99 : Wp L d k_M_second 99 [l0, l1, l2] [vI s2, vI s1, vR c0] σ Q ↔ (if s2 = 0 then Wp L d k_M_second 106 [l0, l1, l2] [vI s1, vR c0] σ Q else Wp L d k_M_second 102 [l0, l1, l2] [vI s1, vR c0] σ Q) := wp_if_eq rfl
theorem r_M_second_102 : Wp L d k_M_second 102 [l0, l1, l2] [vI s1, vR c0] σ Q ↔ Wp L d k_M_second 103 [l0, l1, l2] [vI (-1), vI s1, vR c0] σ Q := wp_push rfl
theorem r_M_second_103 : Wp L d k_M_second 103 [l0, l1, l2] [vI s2, vI s1, vR c0] σ Q ↔ Wp L d k_M_second 107 [l0, l1, l2] [vI s2, vI s1, vR c0] σ Q := wp_goto rfl
theorem r_M_second_106 : Wp L d k_M_second 106 [l0, l1, vI a2] [vI s1, vR c0] σ Q ↔ Wp L d k_M_second 107 [l0, l1, vI a2] [vI a2, vI s1, vR c0] σ Q := wp_iload rfl rfl
theorem r_M_second_107 (h : gK c0 = 100) (hx : 0 ≤ s1 ∧ s1 < gN c0) : Wp L d k_M_second 107 [l0, l1, l2] [vI s2, vI s1, vR c0] σ Q ↔ Wp L d k_M_second 108 [l0, l1, l2] [] (gupd σ c0 s1.toNat s2) Q := wp_iast rfl h hx
theorem r_M_second_108 : Wp L d k_M_second 108 [vR b0, l1, l2] [] σ Q ↔ Wp L d k_M_second 109 [vR b0, l1, l2] [vR b0] σ Q := wp_aload rfl rfl
theorem r_M_second_109 : Wp L d k_M_second 109 [vR b0, l1, l2] [vR c0] σ Q ↔ Wp L d k_M_second 110 [vR b0, l1, l2] [vR b0, vR c0] σ Q := wp_aload rfl rfl
theorem r_M_second_110 (h : gK c1 = 12) : Wp L d k_M_second 110 [l0, l1, l2] [vR c1, vR c0] σ Q ↔ Wp L d k_M_second 113 [l0, l1, l2] [vR (gq c1 0), vR c0] σ Q := wp_getR (c := 3200) rfl rfl rfl rfl rfl h
theorem r_M_second_113 : Wp L d k_M_second 113 [l0, l1, l2] [vR c1, vR c0] σ Q ↔ Wp L d k_M_second 115 [l0, l1, l2] [vI 60, vR c1, vR c0] σ Q := wp_push rfl
theorem r_M_second_115 : Wp L d k_M_second 115 [l0, vI a1, l2] [vI s2, vR c1, vR c0] σ Q ↔ Wp L d k_M_second 116 [l0, vI a1, l2] [vI a1, vI s2, vR c1, vR c0] σ Q := wp_iload rfl rfl
theorem r_M_second_116 : Wp L d k_M_second 116 [l0, l1, l2] [vI s3, vI s2, vR c1, vR c0] σ Q ↔ Wp L d k_M_second 117 [l0, l1, l2] [vI (w32 (s2 + s3)), vR c1, vR c0] σ Q := wp_iadd rfl
theorem r_M_second_117 (h : gK c1 = 100) (hx : 0 ≤ s2 ∧ s2 < gN c1) : Wp L d k_M_second 117 [l0, l1, l2] [vI s2, vR c1, vR c0] σ Q ↔ Wp L d k_M_second 118 [l0, l1, l2] [vI (σ c1 s2.toNat), vR c0] σ Q := wp_iald rfl h hx
theorem c_M_second_118 (hR : Run L d 230 [vR c0, vI s1] σ r σ1) (h : gK c0 = 12) : Wp L (d + 1) k_M_second 118 [l0, l1, l2] [vI s1, vR c0] σ Q ↔ Wp L (d + 1) k_M_second 121 [l0, l1, l2] (r.toList ++ []) σ1 Q := wp_callR (as := [vR c0, vI s1]) (rest := []) rfl rfl rfl rfl rfl rfl rfl (grecv_k (by rw [h]) rfl) hR
theorem r_M_second_121 : Wp L d k_M_second 121 [l0, vI a1, l2] [vI s0] σ Q ↔ Wp L d k_M_second 122 [l0, vI a1, vI s0] [] σ Q := wp_istore (i := 2) (ls := [l0, vI a1, l2]) rfl rfl
theorem r_M_second_122 : Wp L d k_M_second 122 [l0, l1, l2] [] σ Q ↔ Q none σ := wp_vret rfl
theorem r_M_second_62 : Wp L (d + 7) k_M_second 62 [l0, l1, l2] [vI s1, vR 293] σ Q ↔ Wp L (d + 7) k_M_second 65 [l0, l1, l2] [vI (gb (0 ≤ s1 ∧ s1 ≤ w32 (σ 294 0 - 1)))] σ Q := wp_callR (d := d + 6) (as := [vR 293, vI s1]) (rest := []) rfl rfl rfl rfl rfl rfl rfl (grecv_k (by rw [gK_293]) rfl) (sp_M_isSpan)
theorem r_M_second_76 (h : 0 ≤ s3 ∧ s3 ≤ 12) : Wp L (d + 7) k_M_second 76 [l0, l1, l2] [vI s3, vR 293, vI s1, vR c0] σ Q ↔ Wp L (d + 7) k_M_second 79 [l0, l1, l2] [vI (gb (σ 294 (20 + 3 * s3.toNat + 2) = 1)), vI s1, vR c0] σ Q := wp_callR (d := d + 6) (as := [vR 293, vI s3]) (rest := [vI s1, vR c0]) rfl rfl rfl rfl rfl rfl rfl (grecv_k (by rw [gK_293]) rfl) (sp_M_isDown0 h)
theorem r_M_second_96 (h : 0 ≤ s3 ∧ s3 ≤ 12) : Wp L (d + 7) k_M_second 96 [l0, l1, l2] [vI s3, vR 293, vI s1, vR c0] σ Q ↔ Wp L (d + 7) k_M_second 99 [l0, l1, l2] [vI (gb (σ 294 (20 + 3 * s3.toNat + 2) = 1)), vI s1, vR c0] σ Q := wp_callR (d := d + 6) (as := [vR 293, vI s3]) (rest := [vI s1, vR c0]) rfl rfl rfl rfl rfl rfl rfl (grecv_k (by rw [gK_293]) rfl) (sp_M_isDown0 h)
theorem sp_M_second {s : Nat} (hw : WB (σ 294)) (hg : WG (σ 294)) (hs : s < 60) : ∃ σ', Run L (d + 7) 274 [vR 293, vI (s : Int)] σ none σ' ∧ σ' 294 = brsec (σ 294) s ∧ Agr σ σ' (fun k _ => k = 294 ∨ k = 300) := by
  refine Run_ex (C' := k_M_second) rfl ?_
  show Wp L (d + 7) k_M_second 0 [vR 293, vI (s : Int), vU] [] σ _
  obtain ⟨K293, Q293, K294, N294⟩ := litM
  have w1 := hw.1
  have w2 := hw.2.1

  have w8 := hw.2.2.2.2.2.2.2
  have v13 := hg.1
  obtain ⟨hw1, hs1⟩ := brsc_ok hw s
  obtain ⟨n, hn⟩ := brN_ex hw1 (σ 294 (60 + s))
  have hw60 := hg.2.2 s hs
  have hn0 := hn
  unfold brsec
  rw [← brN_40 hw1 hn]
  obtain ⟨τ, hR, h1, -, hA⟩ := sp_M_letFall (L := L) (d := d + 0) (σ := gsr σ 294 (brsc (σ 294) s)) (a1 := σ 294 (60 + s)) (n := n) (by rw [gsr_eq]; exact hw1) hw60 (by rw [gsr_eq]; exact hn)
  rw [gsr_eq] at h1
  have hA2 : Agr σ τ (fun k _ => k = 294 ∨ k = 300) := fun k j hk => by
    rw [hA k j hk, gsr_ne (by omega)]
  have hT2 : (((s : Int) - σ 294 13) * σ 294 14).tdiv 20 = brT (σ 294) s := rfl
  by_cases e : (0 ≤ σ 294 13 ∧ σ 294 13 ≤ (s : Int)) ∧ σ 294 12 = 0
  · obtain ⟨m1, m2, m3, m4⟩ := brT_bd hg (k := (s : Int)) (by omega) e.1
    by_cases x : brT (σ 294) s ≤ σ 294 0 - 1
    · by_cases y : σ 294 (20 + 3 * (brT (σ 294) s).toNat + 2) = 1
      · have eb : brsc (σ 294) s = fu (fu (fu (σ 294) 11 (-1)) 12 1) 11 (-1) := by
          unfold brsc
          rw [if_pos ⟨e, m3, x⟩, if_pos y]
          unfold ftr
          funext j
          unfold fu
          by_cases j1 : j = 11
          · rw [j1]
            rfl
          · by_cases j2 : j = 12
            · rw [j2]
              rfl
            · simp only [j1, j2, if_false]
        rw [eb] at hR
        simp (disch := first | assumption | exact gb_01 _ | omega) only [r_M_second_0, r_M_second_1, r_M_second_4, r_M_second_6, r_M_second_7, r_M_second_8, r_M_second_9, r_M_second_12, r_M_second_14, r_M_second_15, r_M_second_18, r_M_second_19, r_M_second_20, r_M_second_23, r_M_second_25, r_M_second_26, r_M_second_29, r_M_second_30, r_M_second_33, r_M_second_35, r_M_second_36, r_M_second_39, r_M_second_40, r_M_second_41, r_M_second_44, r_M_second_46, r_M_second_47, r_M_second_48, r_M_second_49, r_M_second_52, r_M_second_54, r_M_second_55, r_M_second_56, r_M_second_58, r_M_second_59, r_M_second_60, r_M_second_61, r_M_second_62, r_M_second_65, r_M_second_68, r_M_second_69, r_M_second_72, r_M_second_74, r_M_second_75, r_M_second_76, r_M_second_79, r_M_second_82, r_M_second_83, r_M_second_86, r_M_second_87, r_M_second_88, r_M_second_89, r_M_second_92, r_M_second_94, r_M_second_95, r_M_second_96, r_M_second_99, r_M_second_102, r_M_second_103, r_M_second_106, r_M_second_107, r_M_second_108, r_M_second_109, r_M_second_110, r_M_second_113, r_M_second_115, r_M_second_116, r_M_second_117, r_M_second_121, r_M_second_122, c_M_second_118 hR, Option.toList, List.singleton_append, List.cons_append, List.nil_append, List.append_nil, Q293, gsr_eq, gsr_upd, gsr_gsr, fu_ne, fu_eq, gupd_sr, hT2, w32_gb, w32i, tn_add, tn_mul, Int.toNat_natCast, Int.toNat_zero, Int.reduceLE, Int.reduceLT, Int.reduceEq, Int.reduceNe, gb_T, gb_F, Int.reduceToNat, eq_self, true_or, or_true, and_true, true_and, and_self, ↓ite_gb0, ↓ite_gbn, ↓if_pos, ↓if_neg, if_true, if_false, not_true_eq_false, not_false_eq_true, gb_ne0, gb_eq0]
        exact ⟨h1, hA2⟩
      · have eb : brsc (σ 294) s = fu (fu (fu (σ 294) 11 (-1)) 12 0) 11 (brT (σ 294) s) := by
          unfold brsc
          rw [if_pos ⟨e, m3, x⟩, if_neg y]
          unfold ftr
          funext j
          unfold fu
          by_cases j1 : j = 11
          · rw [j1]
            rfl
          · by_cases j2 : j = 12
            · rw [j2]
              rfl
            · simp only [j1, j2, if_false]
        rw [eb] at hR
        simp (disch := first | assumption | exact gb_01 _ | omega) only [r_M_second_0, r_M_second_1, r_M_second_4, r_M_second_6, r_M_second_7, r_M_second_8, r_M_second_9, r_M_second_12, r_M_second_14, r_M_second_15, r_M_second_18, r_M_second_19, r_M_second_20, r_M_second_23, r_M_second_25, r_M_second_26, r_M_second_29, r_M_second_30, r_M_second_33, r_M_second_35, r_M_second_36, r_M_second_39, r_M_second_40, r_M_second_41, r_M_second_44, r_M_second_46, r_M_second_47, r_M_second_48, r_M_second_49, r_M_second_52, r_M_second_54, r_M_second_55, r_M_second_56, r_M_second_58, r_M_second_59, r_M_second_60, r_M_second_61, r_M_second_62, r_M_second_65, r_M_second_68, r_M_second_69, r_M_second_72, r_M_second_74, r_M_second_75, r_M_second_76, r_M_second_79, r_M_second_82, r_M_second_83, r_M_second_86, r_M_second_87, r_M_second_88, r_M_second_89, r_M_second_92, r_M_second_94, r_M_second_95, r_M_second_96, r_M_second_99, r_M_second_102, r_M_second_103, r_M_second_106, r_M_second_107, r_M_second_108, r_M_second_109, r_M_second_110, r_M_second_113, r_M_second_115, r_M_second_116, r_M_second_117, r_M_second_121, r_M_second_122, c_M_second_118 hR, Option.toList, List.singleton_append, List.cons_append, List.nil_append, List.append_nil, Q293, gsr_eq, gsr_upd, gsr_gsr, fu_ne, fu_eq, gupd_sr, hT2, w32_gb, w32i, tn_add, tn_mul, Int.toNat_natCast, Int.toNat_zero, Int.reduceLE, Int.reduceLT, Int.reduceEq, Int.reduceNe, gb_T, gb_F, Int.reduceToNat, eq_self, true_or, or_true, and_true, true_and, and_self, ↓ite_gb0, ↓ite_gbn, ↓if_pos, ↓if_neg, if_true, if_false, not_true_eq_false, not_false_eq_true, gb_ne0, gb_eq0]
        exact ⟨h1, hA2⟩
    · have eb : brsc (σ 294) s = fu (σ 294) 11 (-1) := by
        unfold brsc
        rw [if_neg (fun z => x z.2.2)]
      rw [eb] at hR
      simp (disch := first | assumption | exact gb_01 _ | omega) only [r_M_second_0, r_M_second_1, r_M_second_4, r_M_second_6, r_M_second_7, r_M_second_8, r_M_second_9, r_M_second_12, r_M_second_14, r_M_second_15, r_M_second_18, r_M_second_19, r_M_second_20, r_M_second_23, r_M_second_25, r_M_second_26, r_M_second_29, r_M_second_30, r_M_second_33, r_M_second_35, r_M_second_36, r_M_second_39, r_M_second_40, r_M_second_41, r_M_second_44, r_M_second_46, r_M_second_47, r_M_second_48, r_M_second_49, r_M_second_52, r_M_second_54, r_M_second_55, r_M_second_56, r_M_second_58, r_M_second_59, r_M_second_60, r_M_second_61, r_M_second_62, r_M_second_65, r_M_second_68, r_M_second_69, r_M_second_72, r_M_second_74, r_M_second_75, r_M_second_76, r_M_second_79, r_M_second_82, r_M_second_83, r_M_second_86, r_M_second_87, r_M_second_88, r_M_second_89, r_M_second_92, r_M_second_94, r_M_second_95, r_M_second_96, r_M_second_99, r_M_second_102, r_M_second_103, r_M_second_106, r_M_second_107, r_M_second_108, r_M_second_109, r_M_second_110, r_M_second_113, r_M_second_115, r_M_second_116, r_M_second_117, r_M_second_121, r_M_second_122, c_M_second_118 hR, Option.toList, List.singleton_append, List.cons_append, List.nil_append, List.append_nil, Q293, gsr_eq, gsr_upd, gsr_gsr, fu_ne, fu_eq, gupd_sr, hT2, w32_gb, w32i, tn_add, tn_mul, Int.toNat_natCast, Int.toNat_zero, Int.reduceLE, Int.reduceLT, Int.reduceEq, Int.reduceNe, gb_T, gb_F, Int.reduceToNat, eq_self, true_or, or_true, and_true, true_and, and_self, ↓ite_gb0, ↓ite_gbn, ↓if_pos, ↓if_neg, if_true, if_false, not_true_eq_false, not_false_eq_true, gb_ne0, gb_eq0]
      exact ⟨h1, hA2⟩
  · have eb : brsc (σ 294) s = fu (σ 294) 11 (-1) := by
      unfold brsc
      rw [if_neg (fun z => e z.1)]
    rw [eb] at hR
    by_cases x1 : σ 294 13 < 0
    · simp (disch := first | assumption | exact gb_01 _ | omega) only [r_M_second_0, r_M_second_1, r_M_second_4, r_M_second_6, r_M_second_7, r_M_second_8, r_M_second_9, r_M_second_12, r_M_second_14, r_M_second_15, r_M_second_18, r_M_second_19, r_M_second_20, r_M_second_23, r_M_second_25, r_M_second_26, r_M_second_29, r_M_second_30, r_M_second_33, r_M_second_35, r_M_second_36, r_M_second_39, r_M_second_40, r_M_second_41, r_M_second_44, r_M_second_46, r_M_second_47, r_M_second_48, r_M_second_49, r_M_second_52, r_M_second_54, r_M_second_55, r_M_second_56, r_M_second_58, r_M_second_59, r_M_second_60, r_M_second_61, r_M_second_62, r_M_second_65, r_M_second_68, r_M_second_69, r_M_second_72, r_M_second_74, r_M_second_75, r_M_second_76, r_M_second_79, r_M_second_82, r_M_second_83, r_M_second_86, r_M_second_87, r_M_second_88, r_M_second_89, r_M_second_92, r_M_second_94, r_M_second_95, r_M_second_96, r_M_second_99, r_M_second_102, r_M_second_103, r_M_second_106, r_M_second_107, r_M_second_108, r_M_second_109, r_M_second_110, r_M_second_113, r_M_second_115, r_M_second_116, r_M_second_117, r_M_second_121, r_M_second_122, c_M_second_118 hR, Option.toList, List.singleton_append, List.cons_append, List.nil_append, List.append_nil, Q293, gsr_eq, gsr_upd, gsr_gsr, fu_ne, fu_eq, gupd_sr, hT2, w32_gb, w32i, tn_add, tn_mul, Int.toNat_natCast, Int.toNat_zero, Int.reduceLE, Int.reduceLT, Int.reduceEq, Int.reduceNe, gb_T, gb_F, Int.reduceToNat, eq_self, true_or, or_true, and_true, true_and, and_self, ↓ite_gb0, ↓ite_gbn, ↓if_pos, ↓if_neg, if_true, if_false, not_true_eq_false, not_false_eq_true, gb_ne0, gb_eq0]
      exact ⟨h1, hA2⟩
    · by_cases x2 : σ 294 13 ≤ (s : Int)
      · simp (disch := first | assumption | exact gb_01 _ | omega) only [r_M_second_0, r_M_second_1, r_M_second_4, r_M_second_6, r_M_second_7, r_M_second_8, r_M_second_9, r_M_second_12, r_M_second_14, r_M_second_15, r_M_second_18, r_M_second_19, r_M_second_20, r_M_second_23, r_M_second_25, r_M_second_26, r_M_second_29, r_M_second_30, r_M_second_33, r_M_second_35, r_M_second_36, r_M_second_39, r_M_second_40, r_M_second_41, r_M_second_44, r_M_second_46, r_M_second_47, r_M_second_48, r_M_second_49, r_M_second_52, r_M_second_54, r_M_second_55, r_M_second_56, r_M_second_58, r_M_second_59, r_M_second_60, r_M_second_61, r_M_second_62, r_M_second_65, r_M_second_68, r_M_second_69, r_M_second_72, r_M_second_74, r_M_second_75, r_M_second_76, r_M_second_79, r_M_second_82, r_M_second_83, r_M_second_86, r_M_second_87, r_M_second_88, r_M_second_89, r_M_second_92, r_M_second_94, r_M_second_95, r_M_second_96, r_M_second_99, r_M_second_102, r_M_second_103, r_M_second_106, r_M_second_107, r_M_second_108, r_M_second_109, r_M_second_110, r_M_second_113, r_M_second_115, r_M_second_116, r_M_second_117, r_M_second_121, r_M_second_122, c_M_second_118 hR, Option.toList, List.singleton_append, List.cons_append, List.nil_append, List.append_nil, Q293, gsr_eq, gsr_upd, gsr_gsr, fu_ne, fu_eq, gupd_sr, hT2, w32_gb, w32i, tn_add, tn_mul, Int.toNat_natCast, Int.toNat_zero, Int.reduceLE, Int.reduceLT, Int.reduceEq, Int.reduceNe, gb_T, gb_F, Int.reduceToNat, eq_self, true_or, or_true, and_true, true_and, and_self, ↓ite_gb0, ↓ite_gbn, ↓if_pos, ↓if_neg, if_true, if_false, not_true_eq_false, not_false_eq_true, gb_ne0, gb_eq0]
        exact ⟨h1, hA2⟩
      · simp (disch := first | assumption | exact gb_01 _ | omega) only [r_M_second_0, r_M_second_1, r_M_second_4, r_M_second_6, r_M_second_7, r_M_second_8, r_M_second_9, r_M_second_12, r_M_second_14, r_M_second_15, r_M_second_18, r_M_second_19, r_M_second_20, r_M_second_23, r_M_second_25, r_M_second_26, r_M_second_29, r_M_second_30, r_M_second_33, r_M_second_35, r_M_second_36, r_M_second_39, r_M_second_40, r_M_second_41, r_M_second_44, r_M_second_46, r_M_second_47, r_M_second_48, r_M_second_49, r_M_second_52, r_M_second_54, r_M_second_55, r_M_second_56, r_M_second_58, r_M_second_59, r_M_second_60, r_M_second_61, r_M_second_62, r_M_second_65, r_M_second_68, r_M_second_69, r_M_second_72, r_M_second_74, r_M_second_75, r_M_second_76, r_M_second_79, r_M_second_82, r_M_second_83, r_M_second_86, r_M_second_87, r_M_second_88, r_M_second_89, r_M_second_92, r_M_second_94, r_M_second_95, r_M_second_96, r_M_second_99, r_M_second_102, r_M_second_103, r_M_second_106, r_M_second_107, r_M_second_108, r_M_second_109, r_M_second_110, r_M_second_113, r_M_second_115, r_M_second_116, r_M_second_117, r_M_second_121, r_M_second_122, c_M_second_118 hR, Option.toList, List.singleton_append, List.cons_append, List.nil_append, List.append_nil, Q293, gsr_eq, gsr_upd, gsr_gsr, fu_ne, fu_eq, gupd_sr, hT2, w32_gb, w32i, tn_add, tn_mul, Int.toNat_natCast, Int.toNat_zero, Int.reduceLE, Int.reduceLT, Int.reduceEq, Int.reduceNe, gb_T, gb_F, Int.reduceToNat, eq_self, true_or, or_true, and_true, true_and, and_self, ↓ite_gb0, ↓ite_gbn, ↓if_pos, ↓if_neg, if_true, if_false, not_true_eq_false, not_false_eq_true, gb_ne0, gb_eq0]
        exact ⟨h1, hA2⟩
theorem r_X_night_0 : Wp L d k_X_night 0 [l0, vI a1, l2] [] σ Q ↔ Wp L d k_X_night 1 [l0, vI a1, l2] [vI a1] σ Q := wp_iload rfl rfl
theorem r_X_night_4 : Wp L d k_X_night 4 [l0, l1, l2] [vI s0] σ Q ↔ (if s0 ≠ 0 then Wp L d k_X_night 10 [l0, l1, l2] [] σ Q else Wp L d k_X_night 7 [l0, l1, l2] [] σ Q) := wp_if_ne rfl
theorem r_X_night_7 : Wp L d k_X_night 7 [l0, l1, l2] [] σ Q ↔ Wp L d k_X_night 9 [l0, l1, l2] [vI (-1000000001)] σ Q := wp_push rfl
theorem r_X_night_9 : Wp L d k_X_night 9 [l0, l1, l2] [vI s0] σ Q ↔ Q (some (vI s0)) σ := wp_iret rfl
theorem r_X_night_10 : Wp L d k_X_night 10 [vR b0, l1, l2] [] σ Q ↔ Wp L d k_X_night 11 [vR b0, l1, l2] [vR b0] σ Q := wp_aload rfl rfl
theorem r_X_night_11 (h : gK c0 = 0) : Wp L d k_X_night 11 [l0, l1, l2] [vR c0] σ Q ↔ Wp L d k_X_night 14 [l0, l1, l2] [vR (gq c0 1)] σ Q := wp_getR (c := 129) rfl rfl rfl rfl rfl h
theorem r_X_night_14 : Wp L d k_X_night 14 [l0, l1, l2] [vR c0] σ Q ↔ Wp L d k_X_night 16 [l0, l1, l2] [vI (-1000000005), vR c0] σ Q := wp_push rfl
theorem r_X_night_19 : Wp L d k_X_night 19 [l0, l1, l2] [vI s0] σ Q ↔ Wp L d k_X_night 20 [l0, l1, l2] [] σ Q := wp_pop rfl
theorem r_X_night_20 : Wp L d k_X_night 20 [l0, l1, l2] [] σ Q ↔ Wp L d k_X_night 21 [l0, l1, l2] [vI 0] σ Q := wp_push rfl
theorem r_X_night_21 : Wp L d k_X_night 21 [l0, vI a1, l2] [vI s0] σ Q ↔ Wp L d k_X_night 22 [l0, vI a1, vI s0] [] σ Q := wp_istore (i := 2) (ls := [l0, vI a1, l2]) rfl rfl
theorem r_X_night_22 : Wp L d k_X_night 22 [l0, l1, vI a2] [] σ Q ↔ Wp L d k_X_night 23 [l0, l1, vI a2] [vI a2] σ Q := wp_iload rfl rfl
theorem r_X_night_23 : Wp L d k_X_night 23 [l0, vI a1, l2] [vI s0] σ Q ↔ Wp L d k_X_night 24 [l0, vI a1, l2] [vI a1, vI s0] σ Q := wp_iload rfl rfl
theorem r_X_night_24 : Wp L d k_X_night 24 [l0, l1, l2] [vI s1, vI s0] σ Q ↔ (if s1 < s0 then Wp L d k_X_night 48 [l0, l1, l2] [] σ Q else Wp L d k_X_night 27 [l0, l1, l2] [] σ Q) := wp_cmp_gt rfl
theorem r_X_night_27 : Wp L d k_X_night 27 [vR b0, l1, l2] [] σ Q ↔ Wp L d k_X_night 28 [vR b0, l1, l2] [vR b0] σ Q := wp_aload rfl rfl
theorem r_X_night_28 (h : gK c0 = 0) : Wp L d k_X_night 28 [l0, l1, l2] [vR c0] σ Q ↔ Wp L d k_X_night 31 [l0, l1, l2] [vR (gq c0 0)] σ Q := wp_getR (c := 128) rfl rfl rfl rfl rfl h
theorem r_X_night_31 (h : gK c0 = 5) : Wp L d k_X_night 31 [l0, l1, l2] [vR c0] σ Q ↔ Wp L d k_X_night 34 [l0, l1, l2] [vR (gq c0 2)] σ Q := wp_getR (c := 1410) rfl rfl rfl rfl rfl h
theorem r_X_night_34 : Wp L d k_X_night 34 [vR b0, l1, l2] [vR c0] σ Q ↔ Wp L d k_X_night 35 [vR b0, l1, l2] [vR b0, vR c0] σ Q := wp_aload rfl rfl
theorem r_X_night_35 (h : gK c1 = 0) : Wp L d k_X_night 35 [l0, l1, l2] [vR c1, vR c0] σ Q ↔ Wp L d k_X_night 38 [l0, l1, l2] [vR (gq c1 1), vR c0] σ Q := wp_getR (c := 129) rfl rfl rfl rfl rfl h
theorem r_X_night_38 : Wp L d k_X_night 38 [l0, l1, vI a2] [vR c1, vR c0] σ Q ↔ Wp L d k_X_night 39 [l0, l1, vI a2] [vI a2, vR c1, vR c0] σ Q := wp_iload rfl rfl
theorem c_X_night_39 (hR : Run L d 120 [vR c0, vR c1, vI s2] σ r σ1) (h : gK c0 = 2) : Wp L (d + 1) k_X_night 39 [l0, l1, l2] [vI s2, vR c1, vR c0] σ Q ↔ Wp L (d + 1) k_X_night 42 [l0, l1, l2] (r.toList ++ []) σ1 Q := wp_callR (as := [vR c0, vR c1, vI s2]) (rest := []) rfl rfl rfl rfl rfl rfl rfl (grecv_k (by rw [h]) rfl) hR
theorem r_X_night_42 : Wp L d k_X_night 42 [l0, vI a1, vI a2] [] σ Q ↔ Wp L d k_X_night 45 [l0, vI a1, vI (w32 (a2 + 1))] [] σ Q := wp_iinc (i := 2) (ls := [l0, vI a1, vI a2]) rfl rfl
theorem r_X_night_45 : Wp L d k_X_night 45 [l0, l1, l2] [] σ Q ↔ Wp L d k_X_night 22 [l0, l1, l2] [] σ Q := wp_goto rfl
theorem r_X_night_48 : Wp L d k_X_night 48 [vR b0, l1, l2] [] σ Q ↔ Wp L d k_X_night 49 [vR b0, l1, l2] [vR b0] σ Q := wp_aload rfl rfl
theorem r_X_night_49 (h : gK c0 = 0) : Wp L d k_X_night 49 [l0, l1, l2] [vR c0] σ Q ↔ Wp L d k_X_night 52 [l0, l1, l2] [vR (gq c0 1)] σ Q := wp_getR (c := 129) rfl rfl rfl rfl rfl h
theorem c_X_night_52 (hR : Run L d 94 [vR c0] σ r σ1) (h : gK c0 = 1) : Wp L (d + 1) k_X_night 52 [l0, l1, l2] [vR c0] σ Q ↔ Wp L (d + 1) k_X_night 55 [l0, l1, l2] (r.toList ++ []) σ1 Q := wp_callR (as := [vR c0]) (rest := []) rfl rfl rfl rfl rfl rfl rfl (grecv_k (by rw [h]) rfl) hR
theorem r_X_night_55 : Wp L d k_X_night 55 [l0, l1, l2] [vI s0] σ Q ↔ Q (some (vI s0)) σ := wp_iret rfl
theorem r_X_night_1 : Wp L (d + 5) k_X_night 1 [l0, l1, l2] [vI s0] σ Q ↔ Wp L (d + 5) k_X_night 4 [l0, l1, l2] [vI (gb (0 ≤ s0 ∧ s0 ≤ 59))] σ Q := wp_callR (d := d + 4) (as := [vI s0]) (rest := []) rfl rfl rfl rfl rfl rfl rfl rfl (sp_X_isSecond)
theorem r_X_night_16 (hk : gK c0 = 1) : Wp L (d + 5) k_X_night 16 [l0, l1, l2] [vI s1, vR c0] σ Q ↔ Wp L (d + 5) k_X_night 19 [l0, l1, l2] [vI (σ c0 12)] (gupd (gupd σ c0 12 s1) c0 13 0) Q := wp_callR (d := d + 4) (as := [vR c0, vI s1]) (rest := []) rfl rfl rfl rfl rfl rfl rfl (grecv_k (by rw [hk]) rfl) (sp_B_placeTrain0 hk)
theorem sp_X_night_b (h : ¬ (0 ≤ a1 ∧ a1 ≤ 59)) : Run L (d + 5) 52 [vR 27, vI a1] σ (some (vI (-1000000001))) σ := by
  refine Run_of (C' := k_X_night) rfl ?_
  show Wp L (d + 5) k_X_night 0 [vR 27, vI a1, vU] [] σ _
  obtain ⟨K27, K28, K29, K78, K97, K99, K109, K123, K125, K279, K282⟩ := litX
  simp (disch := first | assumption | exact gb_01 _ | omega) only [r_X_night_0, r_X_night_1, r_X_night_4, r_X_night_7, r_X_night_9, r_X_night_10, r_X_night_11, r_X_night_14, r_X_night_16, r_X_night_19, r_X_night_20, r_X_night_21, r_X_night_23, r_X_night_24, r_X_night_27, r_X_night_28, r_X_night_31, r_X_night_34, r_X_night_35, r_X_night_38, r_X_night_42, r_X_night_45, r_X_night_48, r_X_night_49, r_X_night_55, gq_27_0, gq_27_1, gq_27_2, gq_27_3, gq_27_4, gq_27_5, gq_27_6, gq_28_0, gq_28_1, gq_28_2, gq_28_3, gq_28_4, gq_28_5, gq_28_6, w32_gb, w32i, tn_add, tn_mul, Int.toNat_natCast, Int.toNat_zero, Int.reduceLE, Int.reduceLT, Int.reduceEq, Int.reduceNe, gb_T, gb_F, Int.reduceToNat, eq_self, true_or, or_true, and_true, true_and, and_self, ↓ite_gb0, ↓ite_gbn, ↓if_pos, ↓if_neg, if_true, if_false, not_true_eq_false, not_false_eq_true, gb_ne0, gb_eq0]
theorem r_M_night_0 : Wp L d k_M_night 0 [l0, vI a1, l2] [] σ Q ↔ Wp L d k_M_night 1 [l0, vI a1, l2] [vI a1] σ Q := wp_iload rfl rfl
theorem r_M_night_1 : Wp L d k_M_night 1 [l0, l1, l2] [vI s0] σ Q ↔ Wp L d k_M_night 2 [l0, l1, l2] [vL s0] σ Q := wp_i2l rfl
theorem r_M_night_2 : Wp L d k_M_night 2 [l0, l1, l2] [vL s0] σ Q ↔ Wp L d k_M_night 3 [l0, l1, l2] [vL 0, vL s0] σ Q := wp_pushL rfl
theorem r_M_night_3 : Wp L d k_M_night 3 [l0, l1, l2] [vL s1, vL s0] σ Q ↔ Wp L d k_M_night 6 [l0, l1, l2] [vL 59, vL s1, vL s0] σ Q := wp_pushL rfl
theorem r_M_night_9 : Wp L d k_M_night 9 [l0, l1, l2] [vI s0] σ Q ↔ (if s0 ≠ 0 then Wp L d k_M_night 15 [l0, l1, l2] [] σ Q else Wp L d k_M_night 12 [l0, l1, l2] [] σ Q) := wp_if_ne rfl
theorem r_M_night_12 : Wp L d k_M_night 12 [l0, l1, l2] [] σ Q ↔ Wp L d k_M_night 14 [l0, l1, l2] [vI (-1000000001)] σ Q := wp_push rfl
theorem r_M_night_14 : Wp L d k_M_night 14 [l0, l1, l2] [vI s0] σ Q ↔ Q (some (vI s0)) σ := wp_iret rfl
theorem r_M_night_15 : Wp L d k_M_night 15 [vR b0, l1, l2] [] σ Q ↔ Wp L d k_M_night 16 [vR b0, l1, l2] [vR b0] σ Q := wp_aload rfl rfl
theorem r_M_night_19 : Wp L d k_M_night 19 [l0, l1, l2] [] σ Q ↔ Wp L d k_M_night 20 [l0, l1, l2] [vI 0] σ Q := wp_push rfl
theorem r_M_night_20 : Wp L d k_M_night 20 [l0, vI a1, l2] [vI s0] σ Q ↔ Wp L d k_M_night 21 [l0, vI a1, vI s0] [] σ Q := wp_istore (i := 2) (ls := [l0, vI a1, l2]) rfl rfl
theorem r_M_night_21 : Wp L d k_M_night 21 [l0, l1, vI a2] [] σ Q ↔ Wp L d k_M_night 22 [l0, l1, vI a2] [vI a2] σ Q := wp_iload rfl rfl
theorem r_M_night_22 : Wp L d k_M_night 22 [l0, vI a1, l2] [vI s0] σ Q ↔ Wp L d k_M_night 23 [l0, vI a1, l2] [vI a1, vI s0] σ Q := wp_iload rfl rfl
theorem r_M_night_23 : Wp L d k_M_night 23 [l0, l1, l2] [vI s1, vI s0] σ Q ↔ (if s1 < s0 then Wp L d k_M_night 37 [l0, l1, l2] [] σ Q else Wp L d k_M_night 26 [l0, l1, l2] [] σ Q) := wp_cmp_gt rfl
theorem r_M_night_26 : Wp L d k_M_night 26 [vR b0, l1, l2] [] σ Q ↔ Wp L d k_M_night 27 [vR b0, l1, l2] [vR b0] σ Q := wp_aload rfl rfl
theorem r_M_night_27 : Wp L d k_M_night 27 [l0, l1, vI a2] [vR c0] σ Q ↔ Wp L d k_M_night 28 [l0, l1, vI a2] [vI a2, vR c0] σ Q := wp_iload rfl rfl
theorem c_M_night_28 (hR : Run L d 274 [vR c0, vI s1] σ r σ1) (h : gK c0 = 12) : Wp L (d + 1) k_M_night 28 [l0, l1, l2] [vI s1, vR c0] σ Q ↔ Wp L (d + 1) k_M_night 31 [l0, l1, l2] (r.toList ++ []) σ1 Q := wp_callR (as := [vR c0, vI s1]) (rest := []) rfl rfl rfl rfl rfl rfl rfl (grecv_k (by rw [h]) rfl) hR
theorem r_M_night_31 : Wp L d k_M_night 31 [l0, vI a1, vI a2] [] σ Q ↔ Wp L d k_M_night 34 [l0, vI a1, vI (w32 (a2 + 1))] [] σ Q := wp_iinc (i := 2) (ls := [l0, vI a1, vI a2]) rfl rfl
theorem r_M_night_34 : Wp L d k_M_night 34 [l0, l1, l2] [] σ Q ↔ Wp L d k_M_night 21 [l0, l1, l2] [] σ Q := wp_goto rfl
theorem r_M_night_37 : Wp L d k_M_night 37 [vR b0, l1, l2] [] σ Q ↔ Wp L d k_M_night 38 [vR b0, l1, l2] [vR b0] σ Q := wp_aload rfl rfl
theorem r_M_night_41 : Wp L d k_M_night 41 [l0, l1, l2] [vI s0] σ Q ↔ Q (some (vI s0)) σ := wp_iret rfl
theorem r_M_night_6 : Wp L (d + 8) k_M_night 6 [l0, l1, l2] [vL s2, vL s1, vL s0] σ Q ↔ Wp L (d + 8) k_M_night 9 [l0, l1, l2] [vI (gb (s1 ≤ s0 ∧ s0 ≤ s2))] σ Q := wp_callR (d := d + 7) (as := [vL s0, vL s1, vL s2]) (rest := []) rfl rfl rfl rfl rfl rfl rfl rfl (sp_M_isIn)
theorem r_M_night_16 : Wp L (d + 8) k_M_night 16 [l0, l1, l2] [vR 293] σ Q ↔ Wp L (d + 8) k_M_night 19 [l0, l1, l2] [] (gsr σ 294 (ftr (σ 294) (-1) 0)) Q := wp_callR (d := d + 7) (as := [vR 293]) (rest := []) rfl rfl rfl rfl rfl rfl rfl (grecv_k (by rw [gK_293]) rfl) (sp_M_nightBegins)
theorem r_M_night_38 (hw : WB (σ 294)) : Wp L (d + 8) k_M_night 38 [l0, l1, l2] [vR 293] σ Q ↔ Wp L (d + 8) k_M_night 41 [l0, l1, l2] [vI (ggone (σ 294) (σ 294 1).toNat)] σ Q := wp_callR (d := d + 7) (as := [vR 293]) (rest := []) rfl rfl rfl rfl rfl rfl rfl (grecv_k (by rw [gK_293]) rfl) (sp_M_gone hw)
theorem sp_M_night_b (h : ¬ (0 ≤ a1 ∧ a1 ≤ 59)) : Run L (d + 8) 272 [vR 293, vI a1] σ (some (vI (-1000000001))) σ := by
  refine Run_of (C' := k_M_night) rfl ?_
  show Wp L (d + 8) k_M_night 0 [vR 293, vI a1, vU] [] σ _
  obtain ⟨K293, Q293, K294, N294⟩ := litM
  simp (disch := first | assumption | exact gb_01 _ | omega) only [r_M_night_0, r_M_night_1, r_M_night_2, r_M_night_3, r_M_night_6, r_M_night_9, r_M_night_12, r_M_night_14, r_M_night_15, r_M_night_16, r_M_night_19, r_M_night_20, r_M_night_22, r_M_night_23, r_M_night_26, r_M_night_27, r_M_night_31, r_M_night_34, r_M_night_37, r_M_night_38, r_M_night_41, Q293, w32_gb, w32i, tn_add, tn_mul, Int.toNat_natCast, Int.toNat_zero, Int.reduceLE, Int.reduceLT, Int.reduceEq, Int.reduceNe, gb_T, gb_F, Int.reduceToNat, eq_self, true_or, or_true, and_true, true_and, and_self, ↓ite_gb0, ↓ite_gbn, ↓if_pos, ↓if_neg, if_true, if_false, not_true_eq_false, not_false_eq_true, gb_ne0, gb_eq0]
theorem sp_X_night {f : Nat → Int} (hw : WB f) (hc : CB 29 f σ) (hg : WG f) (hcg : CG 97 f σ) (h : 0 ≤ a1 ∧ a1 ≤ 59) : ∃ σ', Run L (d + 5) 52 [vR 27, vI a1] σ (some (vI (ggone (brngt f (a1.toNat + 1)) (f 1).toNat))) σ' ∧ CB 29 (brngt f (a1.toNat + 1)) σ' ∧ Agr σ σ' (ZBr 29) := by
  refine Run_ex (C' := k_X_night) rfl ?_
  show Wp L (d + 5) k_X_night 0 [vR 27, vI a1, vU] [] σ _
  obtain ⟨K27, K28, K29, K78, K97, K99, K109, K123, K125, K279, K282⟩ := litX
  simp (disch := first | assumption | exact gb_01 _ | omega) only [r_X_night_0, r_X_night_1, r_X_night_4, r_X_night_7, r_X_night_9, r_X_night_10, r_X_night_11, r_X_night_14, r_X_night_16, r_X_night_19, r_X_night_20, r_X_night_21, r_X_night_23, r_X_night_24, r_X_night_27, r_X_night_28, r_X_night_31, r_X_night_34, r_X_night_35, r_X_night_38, r_X_night_42, r_X_night_45, r_X_night_48, r_X_night_49, r_X_night_55, gq_27_0, gq_27_1, gq_27_2, gq_27_3, gq_27_4, gq_27_5, gq_27_6, gq_28_0, gq_28_1, gq_28_2, gq_28_3, gq_28_4, gq_28_5, gq_28_6, w32_gb, w32i, tn_add, tn_mul, Int.toNat_natCast, Int.toNat_zero, Int.reduceLE, Int.reduceLT, Int.reduceEq, Int.reduceNe, gb_T, gb_F, Int.reduceToNat, eq_self, true_or, or_true, and_true, true_and, and_self, ↓ite_gb0, ↓ite_gbn, ↓if_pos, ↓if_neg, if_true, if_false, not_true_eq_false, not_false_eq_true, gb_ne0, gb_eq0]
  refine wloop (n := (a1.toNat + 1)) (I := fun k ls τ => ls = [vR 27, vI a1, vI (k : Int)] ∧ CB 29 (brngt f k) τ ∧ Agr σ τ (ZBr 29)) (fun k ls τ hk hi hq => ?_) (fun ls τ hi => ?_) (a1.toNat + 1) 0 (by omega) _ _ ⟨rfl, CB_train (t := -1) rfl hw hc, Agr_upd (Agr_upd (Agr_refl _ _) (by unfold ZBr; omega)) (by unfold ZBr; omega)⟩
  · obtain ⟨rfl, hc1, hA⟩ := hi
    obtain ⟨⟨hw1, hs1⟩, hN⟩ := brngt_ok hw k
    obtain ⟨τ1, hR1, hc2, hA1⟩ := sp_G_passSecond (L := L) (d := d + 0) (s := k) BR29 hw1 hc1 GL97 (by omega) (WG_sb hs1 hg) (CG_sb hs1 (fun k j hk => hA k j (by unfold ZBr; omega)) hcg) (by omega) hN
    rw [r_X_night_22]
    simp (disch := first | assumption | exact gb_01 _ | omega) only [r_X_night_0, r_X_night_1, r_X_night_4, r_X_night_7, r_X_night_9, r_X_night_10, r_X_night_11, r_X_night_14, r_X_night_16, r_X_night_19, r_X_night_20, r_X_night_21, r_X_night_23, r_X_night_24, r_X_night_27, r_X_night_28, r_X_night_31, r_X_night_34, r_X_night_35, r_X_night_38, r_X_night_42, r_X_night_45, r_X_night_48, r_X_night_49, r_X_night_55, c_X_night_39 hR1, Option.toList, List.singleton_append, List.cons_append, List.nil_append, List.append_nil, gq_27_0, gq_27_1, gq_27_2, gq_27_3, gq_27_4, gq_27_5, gq_27_6, gq_28_0, gq_28_1, gq_28_2, gq_28_3, gq_28_4, gq_28_5, gq_28_6, w32_gb, w32i, tn_add, tn_mul, Int.toNat_natCast, Int.toNat_zero, Int.reduceLE, Int.reduceLT, Int.reduceEq, Int.reduceNe, gb_T, gb_F, Int.reduceToNat, eq_self, true_or, or_true, and_true, true_and, and_self, ↓ite_gb0, ↓ite_gbn, ↓if_pos, ↓if_neg, if_true, if_false, not_true_eq_false, not_false_eq_true, gb_ne0, gb_eq0]
    exact hq _ _ ⟨by simp only [List.cons.injEq, vI_inj, vR_inj, and_true, true_and]; omega, by rw [brngt_s]; exact hc2, Agr_trans hA hA1⟩
  · obtain ⟨rfl, hc1, hA⟩ := hi
    obtain ⟨⟨hw1, hs1⟩, hN⟩ := brngt_ok hw (a1.toNat + 1)
    have hR2 := sp_B_goneCount (L := L) (d := d + 3) BR29 hw1 hc1
    rw [(SB01 hs1).2] at hR2
    rw [r_X_night_22]
    simp (disch := first | assumption | exact gb_01 _ | omega) only [r_X_night_0, r_X_night_1, r_X_night_4, r_X_night_7, r_X_night_9, r_X_night_10, r_X_night_11, r_X_night_14, r_X_night_16, r_X_night_19, r_X_night_20, r_X_night_21, r_X_night_23, r_X_night_24, r_X_night_27, r_X_night_28, r_X_night_31, r_X_night_34, r_X_night_35, r_X_night_38, r_X_night_42, r_X_night_45, r_X_night_48, r_X_night_49, r_X_night_55, c_X_night_52 hR2, Option.toList, List.singleton_append, List.cons_append, List.nil_append, List.append_nil, gq_27_0, gq_27_1, gq_27_2, gq_27_3, gq_27_4, gq_27_5, gq_27_6, gq_28_0, gq_28_1, gq_28_2, gq_28_3, gq_28_4, gq_28_5, gq_28_6, w32_gb, w32i, tn_add, tn_mul, Int.toNat_natCast, Int.toNat_zero, Int.reduceLE, Int.reduceLT, Int.reduceEq, Int.reduceNe, gb_T, gb_F, Int.reduceToNat, eq_self, true_or, or_true, and_true, true_and, and_self, ↓ite_gb0, ↓ite_gbn, ↓if_pos, ↓if_neg, if_true, if_false, not_true_eq_false, not_false_eq_true, gb_ne0, gb_eq0]
    exact ⟨hc1, hA⟩
theorem sp_M_night (hw : WB (σ 294)) (hg : WG (σ 294)) (h : 0 ≤ a1 ∧ a1 ≤ 59) : ∃ σ', Run L (d + 8) 272 [vR 293, vI a1] σ (some (vI (ggone (brngt (σ 294) (a1.toNat + 1)) (σ 294 1).toNat))) σ' ∧ σ' 294 = brngt (σ 294) (a1.toNat + 1) ∧ Agr σ σ' (fun k _ => k = 294 ∨ k = 300) := by
  refine Run_ex (C' := k_M_night) rfl ?_
  show Wp L (d + 8) k_M_night 0 [vR 293, vI a1, vU] [] σ _
  obtain ⟨K293, Q293, K294, N294⟩ := litM
  simp (disch := first | assumption | exact gb_01 _ | omega) only [r_M_night_0, r_M_night_1, r_M_night_2, r_M_night_3, r_M_night_6, r_M_night_9, r_M_night_12, r_M_night_14, r_M_night_15, r_M_night_16, r_M_night_19, r_M_night_20, r_M_night_22, r_M_night_23, r_M_night_26, r_M_night_27, r_M_night_31, r_M_night_34, r_M_night_37, r_M_night_38, r_M_night_41, Q293, w32_gb, w32i, tn_add, tn_mul, Int.toNat_natCast, Int.toNat_zero, Int.reduceLE, Int.reduceLT, Int.reduceEq, Int.reduceNe, gb_T, gb_F, Int.reduceToNat, eq_self, true_or, or_true, and_true, true_and, and_self, ↓ite_gb0, ↓ite_gbn, ↓if_pos, ↓if_neg, if_true, if_false, not_true_eq_false, not_false_eq_true, gb_ne0, gb_eq0]
  refine wloop (n := (a1.toNat + 1)) (I := fun k ls τ => ls = [vR 293, vI a1, vI (k : Int)] ∧ τ 294 = brngt (σ 294) k ∧ Agr σ τ (fun k _ => k = 294 ∨ k = 300)) (fun k ls τ hk hi hq => ?_) (fun ls τ hi => ?_) (a1.toNat + 1) 0 (by omega) _ _ ⟨rfl, gsr_eq, fun k j hk => by rw [gsr_ne (by omega)]⟩
  · obtain ⟨rfl, h1, hA⟩ := hi
    obtain ⟨⟨hw1, hs1⟩, -⟩ := brngt_ok hw k
    obtain ⟨τ1, hR1, h2, hA1⟩ := sp_M_second (L := L) (d := d + 0) (σ := τ) (s := k) (by rw [h1]; exact hw1) (by rw [h1]; exact WG_sb hs1 hg) (by omega)
    rw [h1] at h2
    rw [r_M_night_21]
    simp (disch := first | assumption | exact gb_01 _ | omega) only [r_M_night_0, r_M_night_1, r_M_night_2, r_M_night_3, r_M_night_6, r_M_night_9, r_M_night_12, r_M_night_14, r_M_night_15, r_M_night_16, r_M_night_19, r_M_night_20, r_M_night_22, r_M_night_23, r_M_night_26, r_M_night_27, r_M_night_31, r_M_night_34, r_M_night_37, r_M_night_38, r_M_night_41, c_M_night_28 hR1, Option.toList, List.singleton_append, List.cons_append, List.nil_append, List.append_nil, Q293, w32_gb, w32i, tn_add, tn_mul, Int.toNat_natCast, Int.toNat_zero, Int.reduceLE, Int.reduceLT, Int.reduceEq, Int.reduceNe, gb_T, gb_F, Int.reduceToNat, eq_self, true_or, or_true, and_true, true_and, and_self, ↓ite_gb0, ↓ite_gbn, ↓if_pos, ↓if_neg, if_true, if_false, not_true_eq_false, not_false_eq_true, gb_ne0, gb_eq0]
    exact hq _ _ ⟨by simp only [List.cons.injEq, vI_inj, vR_inj, and_true, true_and]; omega, by rw [brngt_s]; exact h2, Agr_trans hA hA1⟩
  · obtain ⟨rfl, h1, hA⟩ := hi
    obtain ⟨⟨hw1, hs1⟩, -⟩ := brngt_ok hw (a1.toNat + 1)
    have hwτ : WB (τ 294) := by rw [h1]; exact hw1
    rw [r_M_night_21]
    simp (disch := first | assumption | exact gb_01 _ | omega) only [r_M_night_0, r_M_night_1, r_M_night_2, r_M_night_3, r_M_night_6, r_M_night_9, r_M_night_12, r_M_night_14, r_M_night_15, r_M_night_16, r_M_night_19, r_M_night_20, r_M_night_22, r_M_night_23, r_M_night_26, r_M_night_27, r_M_night_31, r_M_night_34, r_M_night_37, r_M_night_38, r_M_night_41, Option.toList, List.singleton_append, List.cons_append, List.nil_append, List.append_nil, Q293, h1, w32_gb, w32i, tn_add, tn_mul, Int.toNat_natCast, Int.toNat_zero, Int.reduceLE, Int.reduceLT, Int.reduceEq, Int.reduceNe, gb_T, gb_F, Int.reduceToNat, eq_self, true_or, or_true, and_true, true_and, and_self, ↓ite_gb0, ↓ite_gbn, ↓if_pos, ↓if_neg, if_true, if_false, not_true_eq_false, not_false_eq_true, gb_ne0, gb_eq0]
    rw [(SB01 hs1).2]
    exact ⟨rfl, hA⟩
theorem op_night (a1 : Int) : Op 52 272 [vI a1] := by
  intro L d σ hI
  obtain ⟨hw, hc⟩ := iB hI
  have w1 := hw.1
  have w2 := hw.2.1
  have c1 := hc.1
  have c2 := hc.2.1
  have hp : w32 (σ 29 9 - 1) = σ 29 9 - 1 := w32i (by omega)
  have hm : w32 (σ 294 1 - 1) = σ 294 1 - 1 := w32i (by omega)
  
  obtain ⟨hg, hcg⟩ := iG hI
  by_cases h : 0 ≤ a1 ∧ a1 ≤ 59
  · obtain ⟨σ1, hR1, hc1, hA1⟩ := sp_X_night (L := L) (d := d + 995) hw hc hg hcg h
    have e : σ1 294 = σ 294 := funext (fun j => hA1 294 j (by unfold ZBr; omega))
    obtain ⟨σ2, hR2, h2, hA2⟩ := sp_M_night (L := L) (d := d + 992) (σ := σ1) (a1 := a1) (by rw [e]; exact hw) (by rw [e]; exact hg) h
    rw [e] at h2 hR2
    obtain ⟨⟨k1, k2⟩, -⟩ := brngt_ok hw (a1.toNat + 1)
    exact ⟨_, _, _, hR1, hR2, Inv_two hI (Agr_mono hA1 (fun k j hk => by unfold ZBr at hk; omega)) hc1 (Agr_mono hA2 (fun k j hk => by unfold ZFr; omega)) h2 k1 k2⟩
  · exact ⟨_, _, _, sp_X_night_b h, sp_M_night_b h, hI⟩
