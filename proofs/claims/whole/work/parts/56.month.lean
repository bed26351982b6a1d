/-! A month goes by: the class. -/
variable {L d : Nat} {σ σ1 : Nat → Nat → Int} {Q : Option gV → (Nat → Nat → Int) → Prop} {a0 a1 a2 a3 a4 a5 a6 a7 a8 a9 a10 a11 s0 s1 s2 s3 s4 s5 s6 s7 s8 s9 : Int} {l0 l1 l2 l3 l4 l5 l6 l7 l8 l9 l10 l11 t0 t1 t2 t3 t4 t5 t6 t7 t8 t9 : gV} {b0 b1 b2 b3 b4 b5 b6 b7 b8 b9 b10 b11 c0 c1 c2 c3 c4 c5 c6 c7 c8 c9 : Nat} {r : Option gV}
def brm1 (more : Int) (p : Nat) (g : Nat → Int) : Nat → Int := if (g (120 + 12 * p) = 2 ∨ g (120 + 12 * p) = 3) ∧ g (120 + 12 * p + 8) = 1 then fu g (120 + 12 * p + 5) (min 99 (g (120 + 12 * p + 5) + more)) else g
def brm2 (p : Nat) (g : Nat → Int) : Nat → Int := if g (120 + 12 * p + 8) = 1 ∧ ¬ brrl g 2 (g (120 + 12 * p + 5)) (g (120 + 12 * p + 4)) (g (120 + 12 * p)) = 0 then fu g (120 + 12 * p + 5) 0 else g
def brmt (tr : Int) (f : Nat → Int) : Nat → Int := fu (git brm2 (f 1).toNat (git (brm1 ((f 8 * tr).tdiv 100)) (f 1).toNat f)) 7 (f 7 + 1)
def brms' (tr : Int) : Nat → (Nat → Int) → (Nat → Int)
  | 0, f => f
  | n + 1, f => brmt tr (brms' tr n f)
theorem brct_congr {f g : Nat → Int} (h : ∀ j, j = 2 ∨ j = 7 ∨ 930 ≤ j → g j = f j) (key : Int) : ∀ n, brct g key n = brct f key n
  | 0 => rfl
  | n + 1 => by
    unfold brct
    rw [brct_congr h key n, h (930 + 200 * n) (by omega), h (930 + 200 * n + 1) (by omega), h 7 (by omega), h (930 + 200 * (brct f key n).toNat + 1) (by omega)]
theorem brwk_congr {f g : Nat → Int} (h : ∀ j, j = 2 ∨ j = 7 ∨ 930 ≤ j → g j = f j) (t : Nat) (a b c : Int) : brwk g t a b c = brwk f t a b c := by
  have e1 : gtw g t = gtw f t := funext (fun k => h _ (by omega))
  have e2 : gtv g t = gtv f t := funext (fun k => h _ (by omega))
  unfold brwk
  rw [e1, e2, h (930 + 200 * t) (by omega), h (930 + 200 * t + 3) (by omega)]
theorem brrl_congr {f g : Nat → Int} (h : ∀ j, j = 2 ∨ j = 7 ∨ 930 ≤ j → g j = f j) (key a b c : Int) : brrl g key a b c = brrl f key a b c := by
  unfold brrl
  rw [h 2 (by omega), brct_congr h, brwk_congr h]
theorem SB_t {f g : Nat → Int} (h : SB f g) : ∀ j, j = 2 ∨ j = 7 ∨ 930 ≤ j → g j = f j := fun j hj => h j (by unfold SBZ; omega)
theorem CT_agr {f g : Nat → Int} {σ τ : gMm} (h : ∀ k j, (k = 78 ∧ j = 6) ∨ (80 ≤ k ∧ k ≤ 95) → τ k j = σ k j) (hf : ∀ j, j = 2 ∨ 930 ≤ j → g j = f j) (hw : WT f) (hc : CT 78 f σ) : CT 78 g τ := by
  have w1 := hw.1
  refine ⟨by rw [h _ _ (by omega), hf 2 (by omega)]; exact hc.1, fun t ht => ?_⟩
  rw [hf 2 (by omega)] at ht
  obtain ⟨p1, p2, p3, p4, p5⟩ := hc.2 t ht
  have q4 := (hw.2 t ht).2.2.2.1
  rw [h (78 + 14) t (by omega), h (78 + 15) t (by omega), h (78 + 16) t (by omega), h (78 + 17) t (by omega), hf _ (by omega), hf _ (by omega), hf _ (by omega), hf _ (by omega)]
  refine ⟨p1, p2, p3, p4, fun k hk => ?_⟩
  rw [h (78 + 2 + t) k (by omega)]
  have e1 : gtw g t k = gtw f t k := hf _ (by omega)
  have e2 : gtv g t k = gtv f t k := hf _ (by omega)
  rw [e1, e2]
  exact p5 k hk
theorem WT_f {f g : Nat → Int} (hf : ∀ j, j = 2 ∨ 930 ≤ j → g j = f j) (hw : WT f) : WT g := by
  refine ⟨by rw [hf 2 (by omega)]; exact hw.1, fun t ht => ?_⟩
  rw [hf 2 (by omega)] at ht
  obtain ⟨p1, p2, p3, p4, p5⟩ := hw.2 t ht
  have e1 : gtw g t = gtw f t := funext (fun k => hf _ (by omega))
  have e2 : gtv g t = gtv f t := funext (fun k => hf _ (by omega))
  rw [e1, e2, hf _ (by omega), hf _ (by omega), hf _ (by omega), hf _ (by omega)]
  exact ⟨p1, p2, p3, p4, p5⟩
theorem brm1_ok {f : Nat → Int} {more : Int} (hm : 0 ≤ more) (hw : WB f) (k : Nat) (hk : (k : Int) ≤ f 1) : WB (git (brm1 more) k f) ∧ SB f (git (brm1 more) k f) := by
  have w2 := hw.2.1
  refine git_inv (P := fun g => WB g ∧ SB f g) k ⟨hw, SB_refl f⟩ (fun p g hp h => ?_)
  have w := WBp h.1 (p := p) (by rw [(SB01 h.2).2]; omega)
  unfold brm1
  split
  · exact ⟨WB_slack (by omega) h.1 ⟨by omega, by omega⟩, SB_fu h.2 (by unfold SBZ; omega)⟩
  · exact h
theorem brm2_ok {f g : Nat → Int} (hw : WB g) (hs : SB f g) (k : Nat) (hk : (k : Int) ≤ f 1) : WB (git brm2 k g) ∧ SB f (git brm2 k g) := by
  have w2 := hw.2.1
  have e := (SB01 hs).2
  refine git_inv (P := fun g => WB g ∧ SB f g) k ⟨hw, hs⟩ (fun p g hp h => ?_)
  unfold brm2
  split
  · exact ⟨WB_slack (by omega) h.1 ⟨by omega, fun _ => rfl⟩, SB_fu h.2 (by unfold SBZ; omega)⟩
  · exact h
/-- g is f but for what months change -/
def SM (f g : Nat → Int) : Prop := ∀ j, ¬ SBZ j → j ≠ 7 → g j = f j
theorem brmt_ok {f g : Nat → Int} {tr : Int} (ht : 0 ≤ tr) (hw : WB g) (hm : 0 ≤ g 8) (hs : SM f g) : WB (brmt tr g) ∧ SM f (brmt tr g) ∧ brmt tr g 7 = g 7 + 1 := by
  have w2 := hw.2.1
  have m : 0 ≤ (g 8 * tr).tdiv 100 := Int.tdiv_nonneg (Int.mul_nonneg hm ht) (by omega)
  obtain ⟨a, b⟩ := brm1_ok m hw (g 1).toNat (by omega)
  obtain ⟨c, e⟩ := brm2_ok a b (g 1).toNat (by omega)
  unfold brmt
  refine ⟨WB_f (fun j hj => fu_ne (by omega)) c, fun j hj h7 => ?_, fu_eq⟩
  rw [fu_ne h7, e j hj]
  exact hs j hj h7
theorem SB_SM {f g : Nat → Int} (h : SB f g) : SM f g := fun j hj _ => h j hj
/-- how the class stands in a month -/
def MI (f g : Nat → Int) (τ : gMm) : Prop := (WB g ∧ SM f g) ∧ CB 29 g τ ∧ CT 78 g τ ∧ τ 28 7 = g 7 ∧ τ 28 8 = g 8
theorem r_S_mendParts_0 : Wp L d k_S_mendParts 0 [l0, vI a1, l2, l3] [] σ Q ↔ Wp L d k_S_mendParts 1 [l0, vI a1, l2, l3] [vI a1] σ Q := wp_iload rfl rfl
theorem r_S_mendParts_1 : Wp L d k_S_mendParts 1 [l0, l1, l2, l3] [vI s0] σ Q ↔ Wp L d k_S_mendParts 3 [l0, l1, l2, l3] [vI (-1000000005), vI s0] σ Q := wp_push rfl
theorem r_S_mendParts_3 : Wp L d k_S_mendParts 3 [l0, l1, l2, l3] [vI s1, vI s0] σ Q ↔ (if s0 ≠ s1 then Wp L d k_S_mendParts 7 [l0, l1, l2, l3] [] σ Q else Wp L d k_S_mendParts 6 [l0, l1, l2, l3] [] σ Q) := wp_cmp_ne rfl
theorem r_S_mendParts_6 : Wp L d k_S_mendParts 6 [l0, l1, l2, l3] [] σ Q ↔ Q none σ := wp_vret rfl
theorem r_S_mendParts_7 : Wp L d k_S_mendParts 7 [l0, l1, l2, l3] [] σ Q ↔ Wp L d k_S_mendParts 8 [l0, l1, l2, l3] [vI 0] σ Q := wp_push rfl
theorem r_S_mendParts_8 : Wp L d k_S_mendParts 8 [l0, vI a1, l2, l3] [vI s0] σ Q ↔ Wp L d k_S_mendParts 9 [l0, vI a1, vI s0, l3] [] σ Q := wp_istore (i := 2) (ls := [l0, vI a1, l2, l3]) rfl rfl
theorem r_S_mendParts_9 : Wp L d k_S_mendParts 9 [l0, l1, vI a2, l3] [] σ Q ↔ Wp L d k_S_mendParts 10 [l0, l1, vI a2, l3] [vI a2] σ Q := wp_iload rfl rfl
theorem r_S_mendParts_10 : Wp L d k_S_mendParts 10 [vR b0, l1, l2, l3] [vI s0] σ Q ↔ Wp L d k_S_mendParts 11 [vR b0, l1, l2, l3] [vR b0, vI s0] σ Q := wp_aload rfl rfl
theorem r_S_mendParts_11 (h : gK c1 = 5) : Wp L d k_S_mendParts 11 [l0, l1, l2, l3] [vR c1, vI s0] σ Q ↔ Wp L d k_S_mendParts 14 [l0, l1, l2, l3] [vR (gq c1 0), vI s0] σ Q := wp_getR (c := 1408) rfl rfl rfl rfl rfl h
theorem r_S_mendParts_14 (h : gK c1 = 1) : Wp L d k_S_mendParts 14 [l0, l1, l2, l3] [vR c1, vI s0] σ Q ↔ Wp L d k_S_mendParts 17 [l0, l1, l2, l3] [vI (σ c1 9), vI s0] σ Q := wp_getI (c := 265) rfl rfl rfl rfl h
theorem r_S_mendParts_17 : Wp L d k_S_mendParts 17 [l0, l1, l2, l3] [vI s1, vI s0] σ Q ↔ (if s1 ≤ s0 then Wp L d k_S_mendParts 71 [l0, l1, l2, l3] [] σ Q else Wp L d k_S_mendParts 20 [l0, l1, l2, l3] [] σ Q) := wp_cmp_ge rfl
theorem r_S_mendParts_20 : Wp L d k_S_mendParts 20 [vR b0, l1, l2, l3] [] σ Q ↔ Wp L d k_S_mendParts 21 [vR b0, l1, l2, l3] [vR b0] σ Q := wp_aload rfl rfl
theorem r_S_mendParts_21 (h : gK c0 = 5) : Wp L d k_S_mendParts 21 [l0, l1, l2, l3] [vR c0] σ Q ↔ Wp L d k_S_mendParts 24 [l0, l1, l2, l3] [vR (gq c0 0)] σ Q := wp_getR (c := 1408) rfl rfl rfl rfl rfl h
theorem r_S_mendParts_24 (h : gK c0 = 1) : Wp L d k_S_mendParts 24 [l0, l1, l2, l3] [vR c0] σ Q ↔ Wp L d k_S_mendParts 27 [l0, l1, l2, l3] [vR (gq c0 3)] σ Q := wp_getR (c := 387) rfl rfl rfl rfl rfl h
theorem r_S_mendParts_27 : Wp L d k_S_mendParts 27 [l0, l1, vI a2, l3] [vR c0] σ Q ↔ Wp L d k_S_mendParts 28 [l0, l1, vI a2, l3] [vI a2, vR c0] σ Q := wp_iload rfl rfl
theorem r_S_mendParts_28 (h : gK c0 = 102 ∨ gK c0 = 103) (hx : 0 ≤ s1 ∧ s1 < gN c0) : Wp L d k_S_mendParts 28 [l0, l1, l2, l3] [vI s1, vR c0] σ Q ↔ Wp L d k_S_mendParts 29 [l0, l1, l2, l3] [vR (gq c0 s1.toNat)] σ Q := wp_aald rfl h hx
theorem r_S_mendParts_29 : Wp L d k_S_mendParts 29 [l0, l1, vI a2, l3] [vR c0] σ Q ↔ Wp L d k_S_mendParts 30 [l0, l1, vI a2, vR c0] [] σ Q := wp_astore (i := 3) (ls := [l0, l1, vI a2, l3]) rfl rfl
theorem r_S_mendParts_30 : Wp L d k_S_mendParts 30 [l0, l1, l2, vR b3] [] σ Q ↔ Wp L d k_S_mendParts 31 [l0, l1, l2, vR b3] [vR b3] σ Q := wp_aload rfl rfl
theorem r_S_mendParts_31 (h : gK c0 = 4) : Wp L d k_S_mendParts 31 [l0, l1, l2, l3] [vR c0] σ Q ↔ Wp L d k_S_mendParts 34 [l0, l1, l2, l3] [vI (σ c0 10)] σ Q := wp_getI (c := 1098) rfl rfl rfl rfl h
theorem r_S_mendParts_34 : Wp L d k_S_mendParts 34 [l0, l1, l2, l3] [vI s0] σ Q ↔ (if s0 = 0 then Wp L d k_S_mendParts 65 [l0, l1, l2, l3] [] σ Q else Wp L d k_S_mendParts 37 [l0, l1, l2, l3] [] σ Q) := wp_if_eq rfl
theorem r_S_mendParts_37 : Wp L d k_S_mendParts 37 [vR b0, l1, l2, l3] [] σ Q ↔ Wp L d k_S_mendParts 38 [vR b0, l1, l2, l3] [vR b0] σ Q := wp_aload rfl rfl
theorem r_S_mendParts_38 (h : gK c0 = 5) : Wp L d k_S_mendParts 38 [l0, l1, l2, l3] [vR c0] σ Q ↔ Wp L d k_S_mendParts 41 [l0, l1, l2, l3] [vR (gq c0 1)] σ Q := wp_getR (c := 1409) rfl rfl rfl rfl rfl h
theorem r_S_mendParts_41 : Wp L d k_S_mendParts 41 [l0, vI a1, l2, l3] [vR c0] σ Q ↔ Wp L d k_S_mendParts 42 [l0, vI a1, l2, l3] [vI a1, vR c0] σ Q := wp_iload rfl rfl
theorem r_S_mendParts_42 : Wp L d k_S_mendParts 42 [l0, l1, l2, vR b3] [vI s1, vR c0] σ Q ↔ Wp L d k_S_mendParts 43 [l0, l1, l2, vR b3] [vR b3, vI s1, vR c0] σ Q := wp_aload rfl rfl
theorem r_S_mendParts_43 (h : gK c2 = 4) : Wp L d k_S_mendParts 43 [l0, l1, l2, l3] [vR c2, vI s1, vR c0] σ Q ↔ Wp L d k_S_mendParts 46 [l0, l1, l2, l3] [vI (σ c2 5), vI s1, vR c0] σ Q := wp_getI (c := 1029) rfl rfl rfl rfl h
theorem r_S_mendParts_46 : Wp L d k_S_mendParts 46 [l0, l1, l2, vR b3] [vI s2, vI s1, vR c0] σ Q ↔ Wp L d k_S_mendParts 47 [l0, l1, l2, vR b3] [vR b3, vI s2, vI s1, vR c0] σ Q := wp_aload rfl rfl
theorem r_S_mendParts_47 (h : gK c3 = 4) : Wp L d k_S_mendParts 47 [l0, l1, l2, l3] [vR c3, vI s2, vI s1, vR c0] σ Q ↔ Wp L d k_S_mendParts 50 [l0, l1, l2, l3] [vI (σ c3 4), vI s2, vI s1, vR c0] σ Q := wp_getI (c := 1028) rfl rfl rfl rfl h
theorem r_S_mendParts_50 : Wp L d k_S_mendParts 50 [l0, l1, l2, vR b3] [vI s3, vI s2, vI s1, vR c0] σ Q ↔ Wp L d k_S_mendParts 51 [l0, l1, l2, vR b3] [vR b3, vI s3, vI s2, vI s1, vR c0] σ Q := wp_aload rfl rfl
theorem r_S_mendParts_51 (h : gK c4 = 4) : Wp L d k_S_mendParts 51 [l0, l1, l2, l3] [vR c4, vI s3, vI s2, vI s1, vR c0] σ Q ↔ Wp L d k_S_mendParts 54 [l0, l1, l2, l3] [vI (σ c4 0), vI s3, vI s2, vI s1, vR c0] σ Q := wp_getI (c := 1024) rfl rfl rfl rfl h
theorem c_S_mendParts_54 (hR : Run L d 181 [vR c0, vI s1, vI s2, vI s3, vI s4] σ r σ1) (h : gK c0 = 10) : Wp L (d + 1) k_S_mendParts 54 [l0, l1, l2, l3] [vI s4, vI s3, vI s2, vI s1, vR c0] σ Q ↔ Wp L (d + 1) k_S_mendParts 57 [l0, l1, l2, l3] (r.toList ++ []) σ1 Q := wp_callR (as := [vR c0, vI s1, vI s2, vI s3, vI s4]) (rest := []) rfl rfl rfl rfl rfl rfl rfl (grecv_k (by rw [h]) rfl) hR
theorem r_S_mendParts_57 : Wp L d k_S_mendParts 57 [l0, l1, l2, l3] [vI s0] σ Q ↔ (if s0 = 0 then Wp L d k_S_mendParts 65 [l0, l1, l2, l3] [] σ Q else Wp L d k_S_mendParts 60 [l0, l1, l2, l3] [] σ Q) := wp_if_eq rfl
theorem r_S_mendParts_60 : Wp L d k_S_mendParts 60 [l0, l1, l2, vR b3] [] σ Q ↔ Wp L d k_S_mendParts 61 [l0, l1, l2, vR b3] [vR b3] σ Q := wp_aload rfl rfl
theorem r_S_mendParts_61 : Wp L d k_S_mendParts 61 [l0, l1, l2, l3] [vR c0] σ Q ↔ Wp L d k_S_mendParts 62 [l0, l1, l2, l3] [vI 0, vR c0] σ Q := wp_push rfl
theorem r_S_mendParts_62 (h : gK c0 = 4) : Wp L d k_S_mendParts 62 [l0, l1, l2, l3] [vI s1, vR c0] σ Q ↔ Wp L d k_S_mendParts 65 [l0, l1, l2, l3] [] (gupd σ c0 5 s1) Q := wp_putI (c := 1029) rfl rfl rfl rfl h
theorem r_S_mendParts_65 : Wp L d k_S_mendParts 65 [l0, vI a1, vI a2, l3] [] σ Q ↔ Wp L d k_S_mendParts 68 [l0, vI a1, vI (w32 (a2 + 1)), l3] [] σ Q := wp_iinc (i := 2) (ls := [l0, vI a1, vI a2, l3]) rfl rfl
theorem r_S_mendParts_68 : Wp L d k_S_mendParts 68 [l0, l1, l2, l3] [] σ Q ↔ Wp L d k_S_mendParts 9 [l0, l1, l2, l3] [] σ Q := wp_goto rfl
theorem r_S_mendParts_71 : Wp L d k_S_mendParts 71 [l0, l1, l2, l3] [] σ Q ↔ Q none σ := wp_vret rfl
theorem sp_S_mendParts_n : Run L (d + 3) 137 [vR 28, vI (-1000000005)] σ none σ := by
  refine Run_of (C' := k_S_mendParts) rfl ?_
  show Wp L (d + 3) k_S_mendParts 0 [vR 28, vI (-1000000005), vU, vU] [] σ _
  simp (disch := first | assumption | exact gb_01 _ | omega) only [r_S_mendParts_0, r_S_mendParts_1, r_S_mendParts_3, r_S_mendParts_6, r_S_mendParts_7, r_S_mendParts_8, r_S_mendParts_10, r_S_mendParts_11, r_S_mendParts_14, r_S_mendParts_17, r_S_mendParts_20, r_S_mendParts_21, r_S_mendParts_24, r_S_mendParts_27, r_S_mendParts_28, r_S_mendParts_29, r_S_mendParts_30, r_S_mendParts_31, r_S_mendParts_34, r_S_mendParts_37, r_S_mendParts_38, r_S_mendParts_41, r_S_mendParts_42, r_S_mendParts_43, r_S_mendParts_46, r_S_mendParts_47, r_S_mendParts_50, r_S_mendParts_51, r_S_mendParts_57, r_S_mendParts_60, r_S_mendParts_61, r_S_mendParts_62, r_S_mendParts_65, r_S_mendParts_68, r_S_mendParts_71, w32_gb, w32i, tn_add, tn_mul, Int.toNat_natCast, Int.toNat_zero, Int.reduceLE, Int.reduceLT, Int.reduceEq, Int.reduceNe, gb_T, gb_F, Int.reduceToNat, eq_self, true_or, or_true, and_true, true_and, and_self, ↓ite_gb0, ↓ite_gbn, ↓if_pos, ↓if_neg, if_true, if_false, not_true_eq_false, not_false_eq_true, gb_ne0, gb_eq0]
theorem sp_S_mendParts {f : Nat → Int} (hw : WB f) (ht : WT f) (hc : CB 29 f σ) (hct : CT 78 f σ) (hm : σ 28 7 = f 7) (hx : 0 ≤ brct f 2 (f 2).toNat) : ∃ σ', Run L (d + 3) 137 [vR 28, vI (brct f 2 (f 2).toNat)] σ none σ' ∧ CB 29 (git brm2 (f 1).toNat f) σ' ∧ Agr σ σ' (fun k j => (29 ≤ k ∧ k ≤ 77) ∨ k = 96) := by
  refine Run_ex (C' := k_S_mendParts) rfl ?_
  show Wp L (d + 3) k_S_mendParts 0 [vR 28, vI (brct f 2 (f 2).toNat), vU, vU] [] σ _
  obtain ⟨K27, K28, K29, K78, K97, K99, K109, K123, K125, K279, K282⟩ := litX
  have hB := BR29
  obtain ⟨⟨K0, q0, q1, q2, q3, q4, q5, q6, q7⟩, ⟨K1, K2, K3, K4, K5, K6, K7, K8⟩, ⟨N1, N2, N3, N4, N5, N6, N7, N8⟩, QP, KP⟩ := hB
  have w2 := hw.2.1
  have w1' := ht.1
  have xb := brct_bd f 2 (f 2).toNat
  simp only [Nat.reduceAdd] at K0 q0 q1 q2 q3 q4 q5 q6 q7 K1 K2 K3 K4 K5 K6 K7 K8 N1 N2 N3 N4 N5 N6 N7 N8 QP KP
  simp (disch := first | assumption | exact gb_01 _ | omega) only [r_S_mendParts_0, r_S_mendParts_1, r_S_mendParts_3, r_S_mendParts_6, r_S_mendParts_7, r_S_mendParts_8, r_S_mendParts_10, r_S_mendParts_11, r_S_mendParts_14, r_S_mendParts_17, r_S_mendParts_20, r_S_mendParts_21, r_S_mendParts_24, r_S_mendParts_27, r_S_mendParts_28, r_S_mendParts_29, r_S_mendParts_30, r_S_mendParts_31, r_S_mendParts_34, r_S_mendParts_37, r_S_mendParts_38, r_S_mendParts_41, r_S_mendParts_42, r_S_mendParts_43, r_S_mendParts_46, r_S_mendParts_47, r_S_mendParts_50, r_S_mendParts_51, r_S_mendParts_57, r_S_mendParts_60, r_S_mendParts_61, r_S_mendParts_62, r_S_mendParts_65, r_S_mendParts_68, r_S_mendParts_71, gq_27_0, gq_27_1, gq_27_2, gq_27_3, gq_27_4, gq_27_5, gq_27_6, gq_28_0, gq_28_1, gq_28_2, gq_28_3, gq_28_4, gq_28_5, gq_28_6, w32_gb, w32i, tn_add, tn_mul, Int.toNat_natCast, Int.toNat_zero, Int.reduceLE, Int.reduceLT, Int.reduceEq, Int.reduceNe, gb_T, gb_F, Int.reduceToNat, eq_self, true_or, or_true, and_true, true_and, and_self, ↓ite_gb0, ↓ite_gbn, ↓if_pos, ↓if_neg, if_true, if_false, not_true_eq_false, not_false_eq_true, gb_ne0, gb_eq0]
  refine wloop (n := (f 1).toNat) (I := fun k ls τ => (∃ l, ls = [vR 28, vI (brct f 2 (f 2).toNat), vI (k : Int), l]) ∧ CB 29 (git brm2 k f) τ ∧ Agr σ τ (fun k j => (29 ≤ k ∧ k ≤ 77) ∨ k = 96)) (fun k ls τ hk hi hq => ?_) (fun ls τ hi => ?_) (f 1).toNat 0 (by omega) _ _ ⟨⟨_, rfl⟩, hc, Agr_refl _ _⟩
  · obtain ⟨⟨l, rfl⟩, hc1, hA⟩ := hi
    obtain ⟨hw1, hs1⟩ := brm2_ok hw (SB_refl f) k (by omega)
    have e1 := (SB01 hs1).2
    have c2 := hc1.2.1
    have kp := KP k (by omega)
    have q := CBp hc1 (p := k) (by omega)
    have w := WBp hw1 (p := k) (by omega)
    have hct1 : CT 78 f τ := CT_agr (fun k j hk => hA k j (by omega)) (fun _ _ => rfl) ht hct
    simp only [Nat.reduceAdd] at q
    have es : git brm2 (k + 1) f = brm2 k (git brm2 k f) := rfl
    have er := brrl_congr (SB_t hs1) 2 (git brm2 k f (120 + 12 * k + 5)) (git brm2 k f (120 + 12 * k + 4)) (git brm2 k f (120 + 12 * k))
    have er2 : brrl f 2 (git brm2 k f (120 + 12 * k + 5)) (git brm2 k f (120 + 12 * k + 4)) (git brm2 k f (120 + 12 * k)) = brwk f (brct f 2 (f 2).toNat).toNat (git brm2 k f (120 + 12 * k + 5)) (git brm2 k f (120 + 12 * k + 4)) (git brm2 k f (120 + 12 * k)) := if_neg (by omega)
    obtain ⟨τ1, hW, hA1⟩ := sp_C_work (L := L) (d := d + 0) (σ := τ) (t := (brct f 2 (f 2).toNat).toNat) (a2 := git brm2 k f (120 + 12 * k + 5)) (a3 := git brm2 k f (120 + 12 * k + 4)) (a4 := git brm2 k f (120 + 12 * k)) ht hct1 (by omega)
    rw [show (((brct f 2 (f 2).toNat).toNat : Nat) : Int) = brct f 2 (f 2).toNat by omega, ← er2, ← er] at hW
    have hc2 : CB 29 (git brm2 k f) τ1 := CB_agr (fun k j hk => hA1 k j (by omega)) hw1 hc1
    rw [r_S_mendParts_9]
    by_cases c1 : git brm2 k f (120 + 12 * k + 8) = 1
    · by_cases c3 : brrl (git brm2 k f) 2 (git brm2 k f (120 + 12 * k + 5)) (git brm2 k f (120 + 12 * k + 4)) (git brm2 k f (120 + 12 * k)) = 0
      · simp (disch := first | assumption | exact gb_01 _ | omega) only [r_S_mendParts_0, r_S_mendParts_1, r_S_mendParts_3, r_S_mendParts_6, r_S_mendParts_7, r_S_mendParts_8, r_S_mendParts_10, r_S_mendParts_11, r_S_mendParts_14, r_S_mendParts_17, r_S_mendParts_20, r_S_mendParts_21, r_S_mendParts_24, r_S_mendParts_27, r_S_mendParts_28, r_S_mendParts_29, r_S_mendParts_30, r_S_mendParts_31, r_S_mendParts_34, r_S_mendParts_37, r_S_mendParts_38, r_S_mendParts_41, r_S_mendParts_42, r_S_mendParts_43, r_S_mendParts_46, r_S_mendParts_47, r_S_mendParts_50, r_S_mendParts_51, r_S_mendParts_57, r_S_mendParts_60, r_S_mendParts_61, r_S_mendParts_62, r_S_mendParts_65, r_S_mendParts_68, r_S_mendParts_71, c_S_mendParts_54 hW, Option.toList, List.singleton_append, List.cons_append, List.nil_append, List.append_nil, gq_27_0, gq_27_1, gq_27_2, gq_27_3, gq_27_4, gq_27_5, gq_27_6, gq_28_0, gq_28_1, gq_28_2, gq_28_3, gq_28_4, gq_28_5, gq_28_6, q3, QP, q, w32_gb, w32i, tn_add, tn_mul, Int.toNat_natCast, Int.toNat_zero, Int.reduceLE, Int.reduceLT, Int.reduceEq, Int.reduceNe, gb_T, gb_F, Int.reduceToNat, eq_self, true_or, or_true, and_true, true_and, and_self, ↓ite_gb0, ↓ite_gbn, ↓if_pos, ↓if_neg, if_true, if_false, not_true_eq_false, not_false_eq_true, gb_ne0, gb_eq0]
        refine hq _ _ ⟨⟨_, by rw [show (((k + 1 : Nat)) : Int) = (k : Int) + 1 by omega]⟩, ?_, Agr_trans hA (Agr_mono hA1 (fun k j hk => Or.inr hk))⟩
        rw [es]
        unfold brm2
        rw [if_neg (fun z => z.2 c3)]
        exact hc2
      · simp (disch := first | assumption | exact gb_01 _ | omega) only [r_S_mendParts_0, r_S_mendParts_1, r_S_mendParts_3, r_S_mendParts_6, r_S_mendParts_7, r_S_mendParts_8, r_S_mendParts_10, r_S_mendParts_11, r_S_mendParts_14, r_S_mendParts_17, r_S_mendParts_20, r_S_mendParts_21, r_S_mendParts_24, r_S_mendParts_27, r_S_mendParts_28, r_S_mendParts_29, r_S_mendParts_30, r_S_mendParts_31, r_S_mendParts_34, r_S_mendParts_37, r_S_mendParts_38, r_S_mendParts_41, r_S_mendParts_42, r_S_mendParts_43, r_S_mendParts_46, r_S_mendParts_47, r_S_mendParts_50, r_S_mendParts_51, r_S_mendParts_57, r_S_mendParts_60, r_S_mendParts_61, r_S_mendParts_62, r_S_mendParts_65, r_S_mendParts_68, r_S_mendParts_71, c_S_mendParts_54 hW, Option.toList, List.singleton_append, List.cons_append, List.nil_append, List.append_nil, gq_27_0, gq_27_1, gq_27_2, gq_27_3, gq_27_4, gq_27_5, gq_27_6, gq_28_0, gq_28_1, gq_28_2, gq_28_3, gq_28_4, gq_28_5, gq_28_6, q3, QP, q, w32_gb, w32i, tn_add, tn_mul, Int.toNat_natCast, Int.toNat_zero, Int.reduceLE, Int.reduceLT, Int.reduceEq, Int.reduceNe, gb_T, gb_F, Int.reduceToNat, eq_self, true_or, or_true, and_true, true_and, and_self, ↓ite_gb0, ↓ite_gbn, ↓if_pos, ↓if_neg, if_true, if_false, not_true_eq_false, not_false_eq_true, gb_ne0, gb_eq0]
        refine hq _ _ ⟨⟨_, by rw [show (((k + 1 : Nat)) : Int) = (k : Int) + 1 by omega]⟩, ?_, Agr_upd (Agr_trans hA (Agr_mono hA1 (fun k j hk => Or.inr hk))) (by omega)⟩
        rw [es]
        unfold brm2
        rw [if_pos ⟨c1, c3⟩]
        exact CB_slack (by omega) hw1 hc2
    · simp (disch := first | assumption | exact gb_01 _ | omega) only [r_S_mendParts_0, r_S_mendParts_1, r_S_mendParts_3, r_S_mendParts_6, r_S_mendParts_7, r_S_mendParts_8, r_S_mendParts_10, r_S_mendParts_11, r_S_mendParts_14, r_S_mendParts_17, r_S_mendParts_20, r_S_mendParts_21, r_S_mendParts_24, r_S_mendParts_27, r_S_mendParts_28, r_S_mendParts_29, r_S_mendParts_30, r_S_mendParts_31, r_S_mendParts_34, r_S_mendParts_37, r_S_mendParts_38, r_S_mendParts_41, r_S_mendParts_42, r_S_mendParts_43, r_S_mendParts_46, r_S_mendParts_47, r_S_mendParts_50, r_S_mendParts_51, r_S_mendParts_57, r_S_mendParts_60, r_S_mendParts_61, r_S_mendParts_62, r_S_mendParts_65, r_S_mendParts_68, r_S_mendParts_71, c_S_mendParts_54 hW, Option.toList, List.singleton_append, List.cons_append, List.nil_append, List.append_nil, gq_27_0, gq_27_1, gq_27_2, gq_27_3, gq_27_4, gq_27_5, gq_27_6, gq_28_0, gq_28_1, gq_28_2, gq_28_3, gq_28_4, gq_28_5, gq_28_6, q3, QP, q, w32_gb, w32i, tn_add, tn_mul, Int.toNat_natCast, Int.toNat_zero, Int.reduceLE, Int.reduceLT, Int.reduceEq, Int.reduceNe, gb_T, gb_F, Int.reduceToNat, eq_self, true_or, or_true, and_true, true_and, and_self, ↓ite_gb0, ↓ite_gbn, ↓if_pos, ↓if_neg, if_true, if_false, not_true_eq_false, not_false_eq_true, gb_ne0, gb_eq0]
      refine hq _ _ ⟨⟨_, by rw [show (((k + 1 : Nat)) : Int) = (k : Int) + 1 by omega]⟩, ?_, hA⟩
      rw [es]
      unfold brm2
      rw [if_neg (fun z => c1 z.1)]
      exact hc1
  · obtain ⟨⟨l, rfl⟩, hc1, hA⟩ := hi
    obtain ⟨hw1, hs1⟩ := brm2_ok hw (SB_refl f) (f 1).toNat (by omega)
    have e1 := (SB01 hs1).2
    have c2 := hc1.2.1
    rw [r_S_mendParts_9]
    simp (disch := first | assumption | exact gb_01 _ | omega) only [r_S_mendParts_0, r_S_mendParts_1, r_S_mendParts_3, r_S_mendParts_6, r_S_mendParts_7, r_S_mendParts_8, r_S_mendParts_10, r_S_mendParts_11, r_S_mendParts_14, r_S_mendParts_17, r_S_mendParts_20, r_S_mendParts_21, r_S_mendParts_24, r_S_mendParts_27, r_S_mendParts_28, r_S_mendParts_29, r_S_mendParts_30, r_S_mendParts_31, r_S_mendParts_34, r_S_mendParts_37, r_S_mendParts_38, r_S_mendParts_41, r_S_mendParts_42, r_S_mendParts_43, r_S_mendParts_46, r_S_mendParts_47, r_S_mendParts_50, r_S_mendParts_51, r_S_mendParts_57, r_S_mendParts_60, r_S_mendParts_61, r_S_mendParts_62, r_S_mendParts_65, r_S_mendParts_68, r_S_mendParts_71, gq_27_0, gq_27_1, gq_27_2, gq_27_3, gq_27_4, gq_27_5, gq_27_6, gq_28_0, gq_28_1, gq_28_2, gq_28_3, gq_28_4, gq_28_5, gq_28_6, w32_gb, w32i, tn_add, tn_mul, Int.toNat_natCast, Int.toNat_zero, Int.reduceLE, Int.reduceLT, Int.reduceEq, Int.reduceNe, gb_T, gb_F, Int.reduceToNat, eq_self, true_or, or_true, and_true, true_and, and_self, ↓ite_gb0, ↓ite_gbn, ↓if_pos, ↓if_neg, if_true, if_false, not_true_eq_false, not_false_eq_true, gb_ne0, gb_eq0]
    exact ⟨hc1, hA⟩
theorem r_S_passMonth_0 : Wp L d k_S_passMonth 0 [vR b0, l1, l2, l3, l4] [] σ Q ↔ Wp L d k_S_passMonth 1 [vR b0, l1, l2, l3, l4] [vR b0] σ Q := wp_aload rfl rfl
theorem r_S_passMonth_1 (h : gK c0 = 5) : Wp L d k_S_passMonth 1 [l0, l1, l2, l3, l4] [vR c0] σ Q ↔ Wp L d k_S_passMonth 4 [l0, l1, l2, l3, l4] [vI (σ c0 8)] σ Q := wp_getI (c := 1288) rfl rfl rfl rfl h
theorem r_S_passMonth_4 : Wp L d k_S_passMonth 4 [l0, vI a1, l2, l3, l4] [vI s0] σ Q ↔ Wp L d k_S_passMonth 5 [l0, vI a1, l2, l3, l4] [vI a1, vI s0] σ Q := wp_iload rfl rfl
theorem r_S_passMonth_5 : Wp L d k_S_passMonth 5 [l0, l1, l2, l3, l4] [vI s1, vI s0] σ Q ↔ Wp L d k_S_passMonth 6 [l0, l1, l2, l3, l4] [vI (w32 (s0 * s1))] σ Q := wp_imul rfl
theorem r_S_passMonth_6 : Wp L d k_S_passMonth 6 [l0, l1, l2, l3, l4] [vI s0] σ Q ↔ Wp L d k_S_passMonth 8 [l0, l1, l2, l3, l4] [vI 100, vI s0] σ Q := wp_push rfl
theorem r_S_passMonth_8 (h : s1 ≠ 0) : Wp L d k_S_passMonth 8 [l0, l1, l2, l3, l4] [vI s1, vI s0] σ Q ↔ Wp L d k_S_passMonth 9 [l0, l1, l2, l3, l4] [vI (w32 (s0.tdiv s1))] σ Q := wp_idiv rfl h
theorem r_S_passMonth_9 : Wp L d k_S_passMonth 9 [l0, vI a1, l2, l3, l4] [vI s0] σ Q ↔ Wp L d k_S_passMonth 10 [l0, vI a1, vI s0, l3, l4] [] σ Q := wp_istore (i := 2) (ls := [l0, vI a1, l2, l3, l4]) rfl rfl
theorem r_S_passMonth_10 : Wp L d k_S_passMonth 10 [l0, l1, l2, l3, l4] [] σ Q ↔ Wp L d k_S_passMonth 11 [l0, l1, l2, l3, l4] [vI 0] σ Q := wp_push rfl
theorem r_S_passMonth_11 : Wp L d k_S_passMonth 11 [l0, l1, vI a2, l3, l4] [vI s0] σ Q ↔ Wp L d k_S_passMonth 12 [l0, l1, vI a2, vI s0, l4] [] σ Q := wp_istore (i := 3) (ls := [l0, l1, vI a2, l3, l4]) rfl rfl
theorem r_S_passMonth_12 : Wp L d k_S_passMonth 12 [l0, l1, l2, vI a3, l4] [] σ Q ↔ Wp L d k_S_passMonth 13 [l0, l1, l2, vI a3, l4] [vI a3] σ Q := wp_iload rfl rfl
theorem r_S_passMonth_13 : Wp L d k_S_passMonth 13 [vR b0, l1, l2, l3, l4] [vI s0] σ Q ↔ Wp L d k_S_passMonth 14 [vR b0, l1, l2, l3, l4] [vR b0, vI s0] σ Q := wp_aload rfl rfl
theorem r_S_passMonth_14 (h : gK c1 = 5) : Wp L d k_S_passMonth 14 [l0, l1, l2, l3, l4] [vR c1, vI s0] σ Q ↔ Wp L d k_S_passMonth 17 [l0, l1, l2, l3, l4] [vR (gq c1 0), vI s0] σ Q := wp_getR (c := 1408) rfl rfl rfl rfl rfl h
theorem r_S_passMonth_17 (h : gK c1 = 1) : Wp L d k_S_passMonth 17 [l0, l1, l2, l3, l4] [vR c1, vI s0] σ Q ↔ Wp L d k_S_passMonth 20 [l0, l1, l2, l3, l4] [vI (σ c1 9), vI s0] σ Q := wp_getI (c := 265) rfl rfl rfl rfl h
theorem r_S_passMonth_20 : Wp L d k_S_passMonth 20 [l0, l1, l2, l3, l4] [vI s1, vI s0] σ Q ↔ (if s1 ≤ s0 then Wp L d k_S_passMonth 74 [l0, l1, l2, l3, l4] [] σ Q else Wp L d k_S_passMonth 23 [l0, l1, l2, l3, l4] [] σ Q) := wp_cmp_ge rfl
theorem r_S_passMonth_23 : Wp L d k_S_passMonth 23 [vR b0, l1, l2, l3, l4] [] σ Q ↔ Wp L d k_S_passMonth 24 [vR b0, l1, l2, l3, l4] [vR b0] σ Q := wp_aload rfl rfl
theorem r_S_passMonth_24 (h : gK c0 = 5) : Wp L d k_S_passMonth 24 [l0, l1, l2, l3, l4] [vR c0] σ Q ↔ Wp L d k_S_passMonth 27 [l0, l1, l2, l3, l4] [vR (gq c0 0)] σ Q := wp_getR (c := 1408) rfl rfl rfl rfl rfl h
theorem r_S_passMonth_27 (h : gK c0 = 1) : Wp L d k_S_passMonth 27 [l0, l1, l2, l3, l4] [vR c0] σ Q ↔ Wp L d k_S_passMonth 30 [l0, l1, l2, l3, l4] [vR (gq c0 3)] σ Q := wp_getR (c := 387) rfl rfl rfl rfl rfl h
theorem r_S_passMonth_30 : Wp L d k_S_passMonth 30 [l0, l1, l2, vI a3, l4] [vR c0] σ Q ↔ Wp L d k_S_passMonth 31 [l0, l1, l2, vI a3, l4] [vI a3, vR c0] σ Q := wp_iload rfl rfl
theorem r_S_passMonth_31 (h : gK c0 = 102 ∨ gK c0 = 103) (hx : 0 ≤ s1 ∧ s1 < gN c0) : Wp L d k_S_passMonth 31 [l0, l1, l2, l3, l4] [vI s1, vR c0] σ Q ↔ Wp L d k_S_passMonth 32 [l0, l1, l2, l3, l4] [vR (gq c0 s1.toNat)] σ Q := wp_aald rfl h hx
theorem r_S_passMonth_32 : Wp L d k_S_passMonth 32 [l0, l1, l2, vI a3, l4] [vR c0] σ Q ↔ Wp L d k_S_passMonth 34 [l0, l1, l2, vI a3, vR c0] [] σ Q := wp_astore (i := 4) (ls := [l0, l1, l2, vI a3, l4]) rfl rfl
theorem r_S_passMonth_34 : Wp L d k_S_passMonth 34 [l0, l1, l2, l3, vR b4] [] σ Q ↔ Wp L d k_S_passMonth 36 [l0, l1, l2, l3, vR b4] [vR b4] σ Q := wp_aload rfl rfl
theorem r_S_passMonth_36 (h : gK c0 = 4) : Wp L d k_S_passMonth 36 [l0, l1, l2, l3, l4] [vR c0] σ Q ↔ Wp L d k_S_passMonth 39 [l0, l1, l2, l3, l4] [vI (σ c0 10)] σ Q := wp_getI (c := 1098) rfl rfl rfl rfl h
theorem r_S_passMonth_39 : Wp L d k_S_passMonth 39 [l0, l1, l2, l3, l4] [vI s0] σ Q ↔ (if s0 = 0 then Wp L d k_S_passMonth 68 [l0, l1, l2, l3, l4] [] σ Q else Wp L d k_S_passMonth 42 [l0, l1, l2, l3, l4] [] σ Q) := wp_if_eq rfl
theorem r_S_passMonth_42 : Wp L d k_S_passMonth 42 [l0, l1, l2, l3, vR b4] [] σ Q ↔ Wp L d k_S_passMonth 44 [l0, l1, l2, l3, vR b4] [vR b4] σ Q := wp_aload rfl rfl
theorem r_S_passMonth_44 : Wp L d k_S_passMonth 44 [l0, l1, l2, l3, l4] [vR c0] σ Q ↔ Wp L d k_S_passMonth 45 [l0, l1, l2, l3, l4] [vI 2, vR c0] σ Q := wp_push rfl
theorem r_S_passMonth_48 : Wp L d k_S_passMonth 48 [l0, l1, l2, l3, l4] [vI s0] σ Q ↔ (if s0 = 0 then Wp L d k_S_passMonth 68 [l0, l1, l2, l3, l4] [] σ Q else Wp L d k_S_passMonth 51 [l0, l1, l2, l3, l4] [] σ Q) := wp_if_eq rfl
theorem r_S_passMonth_51 : Wp L d k_S_passMonth 51 [l0, l1, l2, l3, vR b4] [] σ Q ↔ Wp L d k_S_passMonth 53 [l0, l1, l2, l3, vR b4] [vR b4] σ Q := wp_aload rfl rfl
theorem r_S_passMonth_53 : Wp L d k_S_passMonth 53 [l0, l1, l2, l3, l4] [vR c0] σ Q ↔ Wp L d k_S_passMonth 55 [l0, l1, l2, l3, l4] [vI 99, vR c0] σ Q := wp_push rfl
theorem r_S_passMonth_55 : Wp L d k_S_passMonth 55 [l0, l1, l2, l3, vR b4] [vI s1, vR c0] σ Q ↔ Wp L d k_S_passMonth 57 [l0, l1, l2, l3, vR b4] [vR b4, vI s1, vR c0] σ Q := wp_aload rfl rfl
theorem r_S_passMonth_57 (h : gK c2 = 4) : Wp L d k_S_passMonth 57 [l0, l1, l2, l3, l4] [vR c2, vI s1, vR c0] σ Q ↔ Wp L d k_S_passMonth 60 [l0, l1, l2, l3, l4] [vI (σ c2 5), vI s1, vR c0] σ Q := wp_getI (c := 1029) rfl rfl rfl rfl h
theorem r_S_passMonth_60 : Wp L d k_S_passMonth 60 [l0, l1, vI a2, l3, l4] [vI s2, vI s1, vR c0] σ Q ↔ Wp L d k_S_passMonth 61 [l0, l1, vI a2, l3, l4] [vI a2, vI s2, vI s1, vR c0] σ Q := wp_iload rfl rfl
theorem r_S_passMonth_61 : Wp L d k_S_passMonth 61 [l0, l1, l2, l3, l4] [vI s3, vI s2, vI s1, vR c0] σ Q ↔ Wp L d k_S_passMonth 62 [l0, l1, l2, l3, l4] [vI (w32 (s2 + s3)), vI s1, vR c0] σ Q := wp_iadd rfl
theorem r_S_passMonth_62 : Wp L d k_S_passMonth 62 [l0, l1, l2, l3, l4] [vI s2, vI s1, vR c0] σ Q ↔ Wp L d k_S_passMonth 65 [l0, l1, l2, l3, l4] [vI (min s1 s2), vR c0] σ Q := wp_min rfl rfl
theorem r_S_passMonth_65 (h : gK c0 = 4) : Wp L d k_S_passMonth 65 [l0, l1, l2, l3, l4] [vI s1, vR c0] σ Q ↔ Wp L d k_S_passMonth 68 [l0, l1, l2, l3, l4] [] (gupd σ c0 5 s1) Q := wp_putI (c := 1029) rfl rfl rfl rfl h
theorem r_S_passMonth_68 : Wp L d k_S_passMonth 68 [l0, l1, vI a2, vI a3, l4] [] σ Q ↔ Wp L d k_S_passMonth 71 [l0, l1, vI a2, vI (w32 (a3 + 1)), l4] [] σ Q := wp_iinc (i := 3) (ls := [l0, l1, vI a2, vI a3, l4]) rfl rfl
theorem r_S_passMonth_71 : Wp L d k_S_passMonth 71 [l0, l1, l2, l3, l4] [] σ Q ↔ Wp L d k_S_passMonth 12 [l0, l1, l2, l3, l4] [] σ Q := wp_goto rfl
theorem r_S_passMonth_74 : Wp L d k_S_passMonth 74 [vR b0, l1, l2, l3, l4] [] σ Q ↔ Wp L d k_S_passMonth 75 [vR b0, l1, l2, l3, l4] [vR b0] σ Q := wp_aload rfl rfl
theorem r_S_passMonth_75 : Wp L d k_S_passMonth 75 [vR b0, l1, l2, l3, l4] [vR c0] σ Q ↔ Wp L d k_S_passMonth 76 [vR b0, l1, l2, l3, l4] [vR b0, vR c0] σ Q := wp_aload rfl rfl
theorem r_S_passMonth_76 (h : gK c1 = 5) : Wp L d k_S_passMonth 76 [l0, l1, l2, l3, l4] [vR c1, vR c0] σ Q ↔ Wp L d k_S_passMonth 79 [l0, l1, l2, l3, l4] [vR (gq c1 1), vR c0] σ Q := wp_getR (c := 1409) rfl rfl rfl rfl rfl h
theorem r_S_passMonth_79 : Wp L d k_S_passMonth 79 [l0, l1, l2, l3, l4] [vR c1, vR c0] σ Q ↔ Wp L d k_S_passMonth 80 [l0, l1, l2, l3, l4] [vI 2, vR c1, vR c0] σ Q := wp_push rfl
theorem r_S_passMonth_80 : Wp L d k_S_passMonth 80 [vR b0, l1, l2, l3, l4] [vI s2, vR c1, vR c0] σ Q ↔ Wp L d k_S_passMonth 81 [vR b0, l1, l2, l3, l4] [vR b0, vI s2, vR c1, vR c0] σ Q := wp_aload rfl rfl
theorem r_S_passMonth_81 (h : gK c3 = 5) : Wp L d k_S_passMonth 81 [l0, l1, l2, l3, l4] [vR c3, vI s2, vR c1, vR c0] σ Q ↔ Wp L d k_S_passMonth 84 [l0, l1, l2, l3, l4] [vI (σ c3 7), vI s2, vR c1, vR c0] σ Q := wp_getI (c := 1287) rfl rfl rfl rfl h
theorem c_S_passMonth_84 (hR : Run L d 179 [vR c1, vI s2, vI s3] σ r σ1) (h : gK c1 = 10) : Wp L (d + 1) k_S_passMonth 84 [l0, l1, l2, l3, l4] [vI s3, vI s2, vR c1, vR c0] σ Q ↔ Wp L (d + 1) k_S_passMonth 87 [l0, l1, l2, l3, l4] (r.toList ++ [vR c0]) σ1 Q := wp_callR (as := [vR c1, vI s2, vI s3]) (rest := [vR c0]) rfl rfl rfl rfl rfl rfl rfl (grecv_k (by rw [h]) rfl) hR
theorem c_S_passMonth_87 (hR : Run L d 137 [vR c0, vI s1] σ r σ1) (h : gK c0 = 5) : Wp L (d + 1) k_S_passMonth 87 [l0, l1, l2, l3, l4] [vI s1, vR c0] σ Q ↔ Wp L (d + 1) k_S_passMonth 90 [l0, l1, l2, l3, l4] (r.toList ++ []) σ1 Q := wp_callR (as := [vR c0, vI s1]) (rest := []) rfl rfl rfl rfl rfl rfl rfl (grecv_k (by rw [h]) rfl) hR
theorem r_S_passMonth_90 : Wp L d k_S_passMonth 90 [vR b0, l1, l2, l3, l4] [] σ Q ↔ Wp L d k_S_passMonth 91 [vR b0, l1, l2, l3, l4] [vR b0] σ Q := wp_aload rfl rfl
theorem r_S_passMonth_91 : Wp L d k_S_passMonth 91 [l0, l1, l2, l3, l4] [vR c0] σ Q ↔ Wp L d k_S_passMonth 92 [l0, l1, l2, l3, l4] [vR c0, vR c0] σ Q := wp_dupR rfl
theorem r_S_passMonth_92 (h : gK c1 = 5) : Wp L d k_S_passMonth 92 [l0, l1, l2, l3, l4] [vR c1, vR c0] σ Q ↔ Wp L d k_S_passMonth 95 [l0, l1, l2, l3, l4] [vI (σ c1 7), vR c0] σ Q := wp_getI (c := 1287) rfl rfl rfl rfl h
theorem r_S_passMonth_95 : Wp L d k_S_passMonth 95 [l0, l1, l2, l3, l4] [vI s1, vR c0] σ Q ↔ Wp L d k_S_passMonth 96 [l0, l1, l2, l3, l4] [vI 1, vI s1, vR c0] σ Q := wp_push rfl
theorem r_S_passMonth_96 : Wp L d k_S_passMonth 96 [l0, l1, l2, l3, l4] [vI s2, vI s1, vR c0] σ Q ↔ Wp L d k_S_passMonth 97 [l0, l1, l2, l3, l4] [vI (w32 (s1 + s2)), vR c0] σ Q := wp_iadd rfl
theorem r_S_passMonth_97 (h : gK c0 = 5) : Wp L d k_S_passMonth 97 [l0, l1, l2, l3, l4] [vI s1, vR c0] σ Q ↔ Wp L d k_S_passMonth 100 [l0, l1, l2, l3, l4] [] (gupd σ c0 7 s1) Q := wp_putI (c := 1287) rfl rfl rfl rfl h
theorem r_S_passMonth_100 : Wp L d k_S_passMonth 100 [l0, l1, l2, l3, l4] [] σ Q ↔ Q none σ := wp_vret rfl
theorem r_S_passMonth_45 (hk : gK c0 = 4) : Wp L (d + 4) k_S_passMonth 45 [l0, l1, l2, l3, l4] [vI s1, vR c0] σ Q ↔ Wp L (d + 4) k_S_passMonth 48 [l0, l1, l2, l3, l4] [vI (gb (s1 = 0 ∨ s1 = σ c0 0 ∨ s1 = 2 ∧ σ c0 0 = 3))] σ Q := wp_callR (d := d + 3) (as := [vR c0, vI s1]) (rest := []) rfl rfl rfl rfl rfl rfl rfl (grecv_k (by rw [hk]) rfl) (sp_Q_isOf hk)
theorem sp_S_passMonth {f : Nat → Int} (hw : WB f) (ht : WT f) (hc : CB 29 f σ) (hct : CT 78 f σ) (hm : σ 28 7 = f 7) (h8 : σ 28 8 = f 8) (hM : 0 ≤ f 7 ∧ f 7 ≤ 599) (hM2 : 0 ≤ f 8 ∧ f 8 ≤ 99) (h : 0 ≤ a1 ∧ a1 ≤ 999) : ∃ σ', Run L (d + 4) 136 [vR 28, vI a1] σ none σ' ∧ CB 29 (brmt a1 f) σ' ∧ σ' 28 7 = f 7 + 1 ∧ Agr σ σ' (fun k j => (29 ≤ k ∧ k ≤ 77) ∨ k = 96 ∨ (k = 28 ∧ j = 7)) := by
  refine Run_ex (C' := k_S_passMonth) rfl ?_
  show Wp L (d + 4) k_S_passMonth 0 [vR 28, vI a1, vU, vU, vU] [] σ _
  obtain ⟨K27, K28, K29, K78, K97, K99, K109, K123, K125, K279, K282⟩ := litX
  have hB := BR29
  obtain ⟨⟨K0, q0, q1, q2, q3, q4, q5, q6, q7⟩, ⟨K1, K2, K3, K4, K5, K6, K7, K8⟩, ⟨N1, N2, N3, N4, N5, N6, N7, N8⟩, QP, KP⟩ := hB
  have w2 := hw.2.1
  have c2 := hc.2.1
  have m := mul_bd hM2 h
  have tb := tdiv_bd (a := f 8 * a1) (b := 100) m.1 (by omega)
  simp only [Nat.reduceAdd] at K0 q0 q1 q2 q3 q4 q5 q6 q7 K1 K2 K3 K4 K5 K6 K7 K8 N1 N2 N3 N4 N5 N6 N7 N8 QP KP
  simp (disch := first | assumption | exact gb_01 _ | omega) only [r_S_passMonth_0, r_S_passMonth_1, r_S_passMonth_4, r_S_passMonth_5, r_S_passMonth_6, r_S_passMonth_8, r_S_passMonth_9, r_S_passMonth_10, r_S_passMonth_11, r_S_passMonth_13, r_S_passMonth_14, r_S_passMonth_17, r_S_passMonth_20, r_S_passMonth_23, r_S_passMonth_24, r_S_passMonth_27, r_S_passMonth_30, r_S_passMonth_31, r_S_passMonth_32, r_S_passMonth_34, r_S_passMonth_36, r_S_passMonth_39, r_S_passMonth_42, r_S_passMonth_44, r_S_passMonth_45, r_S_passMonth_48, r_S_passMonth_51, r_S_passMonth_53, r_S_passMonth_55, r_S_passMonth_57, r_S_passMonth_60, r_S_passMonth_61, r_S_passMonth_62, r_S_passMonth_65, r_S_passMonth_68, r_S_passMonth_71, r_S_passMonth_74, r_S_passMonth_75, r_S_passMonth_76, r_S_passMonth_79, r_S_passMonth_80, r_S_passMonth_81, r_S_passMonth_90, r_S_passMonth_91, r_S_passMonth_92, r_S_passMonth_95, r_S_passMonth_96, r_S_passMonth_97, r_S_passMonth_100, gq_27_0, gq_27_1, gq_27_2, gq_27_3, gq_27_4, gq_27_5, gq_27_6, gq_28_0, gq_28_1, gq_28_2, gq_28_3, gq_28_4, gq_28_5, gq_28_6, h8, w32_gb, w32i, tn_add, tn_mul, Int.toNat_natCast, Int.toNat_zero, Int.reduceLE, Int.reduceLT, Int.reduceEq, Int.reduceNe, gb_T, gb_F, Int.reduceToNat, eq_self, true_or, or_true, and_true, true_and, and_self, ↓ite_gb0, ↓ite_gbn, ↓if_pos, ↓if_neg, if_true, if_false, not_true_eq_false, not_false_eq_true, gb_ne0, gb_eq0]
  refine wloop (n := (f 1).toNat) (I := fun k ls τ => (∃ l, ls = [vR 28, vI a1, vI ((f 8 * a1).tdiv 100), vI (k : Int), l]) ∧ CB 29 (git (brm1 ((f 8 * a1).tdiv 100)) k f) τ ∧ Agr σ τ (fun k _ => 29 ≤ k ∧ k ≤ 77)) (fun k ls τ hk hi hq => ?_) (fun ls τ hi => ?_) (f 1).toNat 0 (by omega) _ _ ⟨⟨_, rfl⟩, hc, Agr_refl _ _⟩
  · obtain ⟨⟨l, rfl⟩, hc1, hA⟩ := hi
    obtain ⟨hw1, hs1⟩ := brm1_ok tb.1 hw k (by omega)
    have e1 := (SB01 hs1).2
    have c2 := hc1.2.1
    have kp := KP k (by omega)
    have q := CBp hc1 (p := k) (by omega)
    have w := WBp hw1 (p := k) (by omega)
    simp only [Nat.reduceAdd] at q
    have es : git (brm1 ((f 8 * a1).tdiv 100)) (k + 1) f = brm1 ((f 8 * a1).tdiv 100) k (git (brm1 ((f 8 * a1).tdiv 100)) k f) := rfl
    generalize git (brm1 ((f 8 * a1).tdiv 100)) k f = g at *
    rw [r_S_passMonth_12]
    by_cases c1 : g (120 + 12 * k + 8) = 1
    · by_cases c3 : g (120 + 12 * k) = 2 ∨ g (120 + 12 * k) = 3
      · have hk2 : (2 = g (120 + 12 * k) ∨ g (120 + 12 * k) = 3) := by omega
        simp (disch := first | assumption | exact gb_01 _ | omega) only [r_S_passMonth_0, r_S_passMonth_1, r_S_passMonth_4, r_S_passMonth_5, r_S_passMonth_6, r_S_passMonth_8, r_S_passMonth_9, r_S_passMonth_10, r_S_passMonth_11, r_S_passMonth_13, r_S_passMonth_14, r_S_passMonth_17, r_S_passMonth_20, r_S_passMonth_23, r_S_passMonth_24, r_S_passMonth_27, r_S_passMonth_30, r_S_passMonth_31, r_S_passMonth_32, r_S_passMonth_34, r_S_passMonth_36, r_S_passMonth_39, r_S_passMonth_42, r_S_passMonth_44, r_S_passMonth_45, r_S_passMonth_48, r_S_passMonth_51, r_S_passMonth_53, r_S_passMonth_55, r_S_passMonth_57, r_S_passMonth_60, r_S_passMonth_61, r_S_passMonth_62, r_S_passMonth_65, r_S_passMonth_68, r_S_passMonth_71, r_S_passMonth_74, r_S_passMonth_75, r_S_passMonth_76, r_S_passMonth_79, r_S_passMonth_80, r_S_passMonth_81, r_S_passMonth_90, r_S_passMonth_91, r_S_passMonth_92, r_S_passMonth_95, r_S_passMonth_96, r_S_passMonth_97, r_S_passMonth_100, gq_27_0, gq_27_1, gq_27_2, gq_27_3, gq_27_4, gq_27_5, gq_27_6, gq_28_0, gq_28_1, gq_28_2, gq_28_3, gq_28_4, gq_28_5, gq_28_6, q3, QP, q, hk2, false_or, w32_gb, w32i, tn_add, tn_mul, Int.toNat_natCast, Int.toNat_zero, Int.reduceLE, Int.reduceLT, Int.reduceEq, Int.reduceNe, gb_T, gb_F, Int.reduceToNat, eq_self, true_or, or_true, and_true, true_and, and_self, ↓ite_gb0, ↓ite_gbn, ↓if_pos, ↓if_neg, if_true, if_false, not_true_eq_false, not_false_eq_true, gb_ne0, gb_eq0]
        refine hq _ _ ⟨⟨_, by rw [show (((k + 1 : Nat)) : Int) = (k : Int) + 1 by omega]⟩, ?_, Agr_upd hA (by omega)⟩
        rw [es]
        unfold brm1
        rw [if_pos ⟨c3, c1⟩]
        exact CB_slack (by omega) hw1 hc1
      · have hk2 : ¬ (2 = g (120 + 12 * k) ∨ g (120 + 12 * k) = 3) := by omega
        simp (disch := first | assumption | exact gb_01 _ | omega) only [r_S_passMonth_0, r_S_passMonth_1, r_S_passMonth_4, r_S_passMonth_5, r_S_passMonth_6, r_S_passMonth_8, r_S_passMonth_9, r_S_passMonth_10, r_S_passMonth_11, r_S_passMonth_13, r_S_passMonth_14, r_S_passMonth_17, r_S_passMonth_20, r_S_passMonth_23, r_S_passMonth_24, r_S_passMonth_27, r_S_passMonth_30, r_S_passMonth_31, r_S_passMonth_32, r_S_passMonth_34, r_S_passMonth_36, r_S_passMonth_39, r_S_passMonth_42, r_S_passMonth_44, r_S_passMonth_45, r_S_passMonth_48, r_S_passMonth_51, r_S_passMonth_53, r_S_passMonth_55, r_S_passMonth_57, r_S_passMonth_60, r_S_passMonth_61, r_S_passMonth_62, r_S_passMonth_65, r_S_passMonth_68, r_S_passMonth_71, r_S_passMonth_74, r_S_passMonth_75, r_S_passMonth_76, r_S_passMonth_79, r_S_passMonth_80, r_S_passMonth_81, r_S_passMonth_90, r_S_passMonth_91, r_S_passMonth_92, r_S_passMonth_95, r_S_passMonth_96, r_S_passMonth_97, r_S_passMonth_100, gq_27_0, gq_27_1, gq_27_2, gq_27_3, gq_27_4, gq_27_5, gq_27_6, gq_28_0, gq_28_1, gq_28_2, gq_28_3, gq_28_4, gq_28_5, gq_28_6, q3, QP, q, hk2, false_or, w32_gb, w32i, tn_add, tn_mul, Int.toNat_natCast, Int.toNat_zero, Int.reduceLE, Int.reduceLT, Int.reduceEq, Int.reduceNe, gb_T, gb_F, Int.reduceToNat, eq_self, true_or, or_true, and_true, true_and, and_self, ↓ite_gb0, ↓ite_gbn, ↓if_pos, ↓if_neg, if_true, if_false, not_true_eq_false, not_false_eq_true, gb_ne0, gb_eq0]
        refine hq _ _ ⟨⟨_, by rw [show (((k + 1 : Nat)) : Int) = (k : Int) + 1 by omega]⟩, ?_, hA⟩
        rw [es]
        unfold brm1
        rw [if_neg (fun z => c3 z.1)]
        exact hc1
    · have hk2 := c1
      simp (disch := first | assumption | exact gb_01 _ | omega) only [r_S_passMonth_0, r_S_passMonth_1, r_S_passMonth_4, r_S_passMonth_5, r_S_passMonth_6, r_S_passMonth_8, r_S_passMonth_9, r_S_passMonth_10, r_S_passMonth_11, r_S_passMonth_13, r_S_passMonth_14, r_S_passMonth_17, r_S_passMonth_20, r_S_passMonth_23, r_S_passMonth_24, r_S_passMonth_27, r_S_passMonth_30, r_S_passMonth_31, r_S_passMonth_32, r_S_passMonth_34, r_S_passMonth_36, r_S_passMonth_39, r_S_passMonth_42, r_S_passMonth_44, r_S_passMonth_45, r_S_passMonth_48, r_S_passMonth_51, r_S_passMonth_53, r_S_passMonth_55, r_S_passMonth_57, r_S_passMonth_60, r_S_passMonth_61, r_S_passMonth_62, r_S_passMonth_65, r_S_passMonth_68, r_S_passMonth_71, r_S_passMonth_74, r_S_passMonth_75, r_S_passMonth_76, r_S_passMonth_79, r_S_passMonth_80, r_S_passMonth_81, r_S_passMonth_90, r_S_passMonth_91, r_S_passMonth_92, r_S_passMonth_95, r_S_passMonth_96, r_S_passMonth_97, r_S_passMonth_100, gq_27_0, gq_27_1, gq_27_2, gq_27_3, gq_27_4, gq_27_5, gq_27_6, gq_28_0, gq_28_1, gq_28_2, gq_28_3, gq_28_4, gq_28_5, gq_28_6, q3, QP, q, hk2, false_or, w32_gb, w32i, tn_add, tn_mul, Int.toNat_natCast, Int.toNat_zero, Int.reduceLE, Int.reduceLT, Int.reduceEq, Int.reduceNe, gb_T, gb_F, Int.reduceToNat, eq_self, true_or, or_true, and_true, true_and, and_self, ↓ite_gb0, ↓ite_gbn, ↓if_pos, ↓if_neg, if_true, if_false, not_true_eq_false, not_false_eq_true, gb_ne0, gb_eq0]
      refine hq _ _ ⟨⟨_, by rw [show (((k + 1 : Nat)) : Int) = (k : Int) + 1 by omega]⟩, ?_, hA⟩
      rw [es]
      unfold brm1
      rw [if_neg (fun z => c1 z.2)]
      exact hc1
  · obtain ⟨⟨l, rfl⟩, hc1, hA⟩ := hi
    obtain ⟨hw1, hs1⟩ := brm1_ok tb.1 hw (f 1).toNat (by omega)
    have e01 := (SB01 hs1)
    have c2 := hc1.2.1
    have m7 : τ 28 7 = f 7 := by rw [hA 28 7 (by omega)]; exact hm
    have eb : brmt a1 f = fu (git brm2 (git (brm1 ((f 8 * a1).tdiv 100)) (f 1).toNat f 1).toNat (git (brm1 ((f 8 * a1).tdiv 100)) (f 1).toNat f)) 7 (f 7 + 1) := by
      unfold brmt
      rw [e01.2]
    have g7 := hs1 7 (by unfold SBZ; omega)
    have gt := SB_t hs1
    have ht1 : WT (git (brm1 ((f 8 * a1).tdiv 100)) (f 1).toNat f) := WT_f (fun j hj => gt j (by omega)) ht
    have hct1 : CT 78 (git (brm1 ((f 8 * a1).tdiv 100)) (f 1).toNat f) τ := CT_agr (fun k j hk => hA k j (by omega)) (fun j hj => gt j (by omega)) ht hct
    obtain ⟨hw2, hs2⟩ := brm2_ok hw1 (SB_refl _) (git (brm1 ((f 8 * a1).tdiv 100)) (f 1).toNat f 1).toNat (by rw [e01.2]; omega)
    rw [eb]
    generalize git (brm1 ((f 8 * a1).tdiv 100)) (f 1).toNat f = g at *
    have hC := sp_C_counting (L := L) (d := d + 3) (σ := τ) (a1 := 2) (a2 := f 7) ht1 hct1 (by omega)
    have xb := brct_bd g 2 (g 2).toNat
    rw [r_S_passMonth_12]
    by_cases e : brct g 2 (g 2).toNat < 0
    · rw [show gnn (brct g 2 (g 2).toNat) = -1000000005 from if_pos e] at hC
      have hN := sp_S_mendParts_n (L := L) (d := d + 0) (σ := τ)
      have eg : git brm2 (g 1).toNat g = g := by
        refine git_inv (P := fun h => h = g) _ rfl (fun k h hk he => ?_)
        subst he
        unfold brm2
        refine if_neg (fun z => z.2 ?_)
        unfold brrl
        rw [if_pos e]
        rfl
      rw [eg]
      simp (disch := first | assumption | exact gb_01 _ | omega) only [r_S_passMonth_0, r_S_passMonth_1, r_S_passMonth_4, r_S_passMonth_5, r_S_passMonth_6, r_S_passMonth_8, r_S_passMonth_9, r_S_passMonth_10, r_S_passMonth_11, r_S_passMonth_13, r_S_passMonth_14, r_S_passMonth_17, r_S_passMonth_20, r_S_passMonth_23, r_S_passMonth_24, r_S_passMonth_27, r_S_passMonth_30, r_S_passMonth_31, r_S_passMonth_32, r_S_passMonth_34, r_S_passMonth_36, r_S_passMonth_39, r_S_passMonth_42, r_S_passMonth_44, r_S_passMonth_45, r_S_passMonth_48, r_S_passMonth_51, r_S_passMonth_53, r_S_passMonth_55, r_S_passMonth_57, r_S_passMonth_60, r_S_passMonth_61, r_S_passMonth_62, r_S_passMonth_65, r_S_passMonth_68, r_S_passMonth_71, r_S_passMonth_74, r_S_passMonth_75, r_S_passMonth_76, r_S_passMonth_79, r_S_passMonth_80, r_S_passMonth_81, r_S_passMonth_90, r_S_passMonth_91, r_S_passMonth_92, r_S_passMonth_95, r_S_passMonth_96, r_S_passMonth_97, r_S_passMonth_100, c_S_passMonth_84 hC, c_S_passMonth_87 hN, Option.toList, List.singleton_append, List.cons_append, List.nil_append, List.append_nil, gq_27_0, gq_27_1, gq_27_2, gq_27_3, gq_27_4, gq_27_5, gq_27_6, gq_28_0, gq_28_1, gq_28_2, gq_28_3, gq_28_4, gq_28_5, gq_28_6, m7, w32_gb, w32i, tn_add, tn_mul, Int.toNat_natCast, Int.toNat_zero, Int.reduceLE, Int.reduceLT, Int.reduceEq, Int.reduceNe, gb_T, gb_F, Int.reduceToNat, eq_self, true_or, or_true, and_true, true_and, and_self, ↓ite_gb0, ↓ite_gbn, ↓if_pos, ↓if_neg, if_true, if_false, not_true_eq_false, not_false_eq_true, gb_ne0, gb_eq0]
      exact ⟨CB_f (fun j hj => fu_ne (by omega)) hw1 (CB_agr (fun k j hk => gupd_ne (by omega)) hw1 hc1), by rw [gupd_eq], Agr_upd (Agr_mono hA (fun k j hk => Or.inl hk)) (by omega)⟩
    · rw [show gnn (brct g 2 (g 2).toNat) = brct g 2 (g 2).toNat from if_neg e] at hC
      obtain ⟨τ1, hN, hc2, hA1⟩ := sp_S_mendParts (L := L) (d := d + 0) (σ := τ) hw1 ht1 hc1 hct1 (by omega) (by omega)
      have m8 : τ1 28 7 = f 7 := by rw [hA1 28 7 (by omega)]; exact m7
      simp (disch := first | assumption | exact gb_01 _ | omega) only [r_S_passMonth_0, r_S_passMonth_1, r_S_passMonth_4, r_S_passMonth_5, r_S_passMonth_6, r_S_passMonth_8, r_S_passMonth_9, r_S_passMonth_10, r_S_passMonth_11, r_S_passMonth_13, r_S_passMonth_14, r_S_passMonth_17, r_S_passMonth_20, r_S_passMonth_23, r_S_passMonth_24, r_S_passMonth_27, r_S_passMonth_30, r_S_passMonth_31, r_S_passMonth_32, r_S_passMonth_34, r_S_passMonth_36, r_S_passMonth_39, r_S_passMonth_42, r_S_passMonth_44, r_S_passMonth_45, r_S_passMonth_48, r_S_passMonth_51, r_S_passMonth_53, r_S_passMonth_55, r_S_passMonth_57, r_S_passMonth_60, r_S_passMonth_61, r_S_passMonth_62, r_S_passMonth_65, r_S_passMonth_68, r_S_passMonth_71, r_S_passMonth_74, r_S_passMonth_75, r_S_passMonth_76, r_S_passMonth_79, r_S_passMonth_80, r_S_passMonth_81, r_S_passMonth_90, r_S_passMonth_91, r_S_passMonth_92, r_S_passMonth_95, r_S_passMonth_96, r_S_passMonth_97, r_S_passMonth_100, c_S_passMonth_84 hC, c_S_passMonth_87 hN, Option.toList, List.singleton_append, List.cons_append, List.nil_append, List.append_nil, gq_27_0, gq_27_1, gq_27_2, gq_27_3, gq_27_4, gq_27_5, gq_27_6, gq_28_0, gq_28_1, gq_28_2, gq_28_3, gq_28_4, gq_28_5, gq_28_6, m7, m8, w32_gb, w32i, tn_add, tn_mul, Int.toNat_natCast, Int.toNat_zero, Int.reduceLE, Int.reduceLT, Int.reduceEq, Int.reduceNe, gb_T, gb_F, Int.reduceToNat, eq_self, true_or, or_true, and_true, true_and, and_self, ↓ite_gb0, ↓ite_gbn, ↓if_pos, ↓if_neg, if_true, if_false, not_true_eq_false, not_false_eq_true, gb_ne0, gb_eq0]
      exact ⟨CB_f (fun j hj => fu_ne (by omega)) hw2 (CB_agr (fun k j hk => gupd_ne (by omega)) hw2 hc2), by rw [gupd_eq], Agr_upd (Agr_trans (Agr_mono hA (fun k j hk => Or.inl hk)) (Agr_mono hA1 (fun k j hk => by omega))) (by omega)⟩
