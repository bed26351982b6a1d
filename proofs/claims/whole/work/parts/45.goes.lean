/-! A part goes. -/
variable {L d : Nat} {σ σ1 : Nat → Nat → Int} {Q : Option gV → (Nat → Nat → Int) → Prop} {a0 a1 a2 a3 a4 a5 a6 a7 a8 a9 a10 a11 s0 s1 s2 s3 s4 s5 s6 s7 s8 s9 : Int} {l0 l1 l2 l3 l4 l5 l6 l7 l8 l9 l10 l11 t0 t1 t2 t3 t4 t5 t6 t7 t8 t9 : gV} {b0 b1 b2 b3 b4 b5 b6 b7 b8 b9 b10 b11 c0 c1 c2 c3 c4 c5 c6 c7 c8 c9 : Nat} {r : Option gV}
/-- span k (an integer) falls, if it is up -/
def brdr (g : Nat → Int) (k : Int) : Nat → Int := if (0 ≤ k ∧ k ≤ g 0 - 1) ∧ ¬ g (20 + 3 * k.toNat + 2) = 1 then (if g 11 = k then ftr (fu g (20 + 3 * k.toNat + 2) 1) (-1) 1 else fu g (20 + 3 * k.toNat + 2) 1) else g
/-- part p goes -/
def brgo (f : Nat → Int) (p : Nat) : Nat → Int := if brsh (fu f (120 + 12 * p + 8) 0) (f (120 + 12 * p + 1)) (f 1).toNat = 0 then git (fun i h => brdr h (f (120 + 12 * p + 1) - 1 + (i : Nat))) 2 (fu f (120 + 12 * p + 8) 0) else fu f (120 + 12 * p + 8) 0
def brstp (w : Int) (g : Nat → Int) : Nat → Int := if brfi g w (g 1).toNat < 0 then g else brgo g (brfi g w (g 1).toNat).toNat
def brit (w : Int) : Nat → (Nat → Int) → (Nat → Int)
  | 0, f => f
  | n + 1, f => brstp w (brit w n f)
/-- n parts go at gust w -/
def brN (f : Nat → Int) (w : Int) (n : Nat) : Prop := (∀ j, j < n → 0 ≤ brfi (brit w j f) w (f 1).toNat) ∧ brfi (brit w n f) w (f 1).toNat < 0 ∧ n ≤ 40
theorem brdr_ok {f g : Nat → Int} (hw : WB g) (hs : SB f g) (k : Int) : WB (brdr g k) ∧ SB f (brdr g k) := by
  have w1 := hw.1
  unfold brdr
  split
  · next h =>
    have a := WB_down (k := k.toNat) (v := 1) (by omega) hw (Or.inr rfl)
    have b : SB f (fu g (20 + 3 * k.toNat + 2) 1) := SB_fu hs (by unfold SBZ; omega)
    split
    · exact ⟨WB_train a (Or.inl rfl) (Or.inr rfl), SB_train b⟩
    · exact ⟨a, b⟩
  · exact ⟨hw, hs⟩
theorem brdr_far {g : Nat → Int} (hw : WB g) (k : Int) {j : Nat} (hj : ¬ (j = 11 ∨ j = 12 ∨ 20 ≤ j ∧ j < 56)) : brdr g k j = g j := by
  have w1 := hw.1
  unfold brdr
  split
  · split
    · unfold ftr
      rw [fu_ne (by omega), fu_ne (by omega), fu_ne (by omega)]
    · rw [fu_ne (by omega)]
  · rfl
theorem brsh_congr {f g : Nat → Int} {r : Int} {n : Nat} (h : ∀ j, 120 ≤ j → g j = f j) : brsh g r n = brsh f r n := by
  unfold brsh
  refine gsm_congr n (fun k hk => ?_)
  rw [h _ (by omega), h _ (by omega), h _ (by omega)]
theorem brgo_st {f : Nat → Int} (hw : WB f) (p : Nat) (hp : (p : Int) < f 1) : WB (fu f (120 + 12 * p + 8) 0) ∧ SB f (fu f (120 + 12 * p + 8) 0) := by
  have w2 := hw.2.1
  exact ⟨WB_stand (by omega) hw ⟨Or.inl rfl, fun _ => rfl⟩, SB_fu (SB_refl f) (by unfold SBZ; omega)⟩
theorem brgo_it {f g : Nat → Int} {r : Int} (hw : WB g) (hs : SB f g) (k : Nat) : (WB (git (fun i h => brdr h (r + (i : Nat))) k g) ∧ SB f (git (fun i h => brdr h (r + (i : Nat))) k g)) ∧ ∀ j, 120 ≤ j → git (fun i h => brdr h (r + (i : Nat))) k g j = g j :=
  git_inv (P := fun h => (WB h ∧ SB f h) ∧ ∀ j, 120 ≤ j → h j = g j) k ⟨⟨hw, hs⟩, fun _ _ => rfl⟩ (fun i h _ q => ⟨brdr_ok q.1.1 q.1.2 _, fun j hj => by rw [brdr_far q.1.1 _ (by omega)]; exact q.2 j hj⟩)
theorem brgo_ok {f : Nat → Int} (hw : WB f) (p : Nat) (hp : (p : Int) < f 1) : WB (brgo f p) ∧ SB f (brgo f p) := by
  obtain ⟨a, b⟩ := brgo_st hw p hp
  unfold brgo
  split
  · exact (brgo_it a b 2).1
  · exact ⟨a, b⟩
theorem SB01 {f g : Nat → Int} (h : SB f g) : g 0 = f 0 ∧ g 1 = f 1 := ⟨h 0 (by unfold SBZ; omega), h 1 (by unfold SBZ; omega)⟩
theorem brstp_ok {f g : Nat → Int} (w : Int) (hw : WB g) (hs : SB f g) : WB (brstp w g) ∧ SB f (brstp w g) := by
  have x := brfi_bd g w (g 1).toNat
  unfold brstp
  split
  · exact ⟨hw, hs⟩
  · obtain ⟨a, b⟩ := brgo_ok hw (brfi g w (g 1).toNat).toNat (by have := hw.2.1; omega)
    exact ⟨a, SB_trans hs b⟩
theorem brit_ok {f : Nat → Int} (w : Int) (hw : WB f) : ∀ n, WB (brit w n f) ∧ SB f (brit w n f)
  | 0 => ⟨hw, SB_refl f⟩
  | n + 1 => brstp_ok w (brit_ok w hw n).1 (brit_ok w hw n).2
theorem brit_sh (w : Int) (f : Nat → Int) : ∀ n, brit w n (brstp w f) = brit w (n + 1) f
  | 0 => rfl
  | n + 1 => by
    show brstp w (brit w n (brstp w f)) = brstp w (brit w (n + 1) f)
    rw [brit_sh w f n]
/-- how many stand -/
def brst (f : Nat → Int) (n : Nat) : Int := gsm (fun q => f (120 + 12 * q + 8)) n
theorem brst_fu {f g : Nat → Int} {p : Nat} (h : ∀ q : Nat, q ≠ p → g (120 + 12 * q + 8) = f (120 + 12 * q + 8)) : ∀ n, brst g n = brst f n + (if p < n then g (120 + 12 * p + 8) - f (120 + 12 * p + 8) else 0)
  | 0 => by
    rw [if_neg (by omega)]
    rfl
  | n + 1 => by
    have ih := brst_fu h n
    unfold brst at ih ⊢
    simp only [gsm]
    by_cases e : n = p
    · subst e
      rw [ih, if_neg (by omega), if_pos (by omega)]
      omega
    · rw [ih, h n e]
      by_cases e2 : p < n
      · rw [if_pos e2, if_pos (by omega)]
        omega
      · rw [if_neg e2, if_neg (by omega)]
        omega
theorem brgo_far {f : Nat → Int} (hw : WB f) (p : Nat) (hp : (p : Int) < f 1) {j : Nat} (hj : 120 ≤ j) : brgo f p j = fu f (120 + 12 * p + 8) 0 j := by
  obtain ⟨a, b⟩ := brgo_st hw p hp
  unfold brgo
  split
  · exact (brgo_it a b 2).2 j hj
  · rfl
theorem brst_go {f : Nat → Int} (hw : WB f) (p : Nat) (hp : (p : Int) < f 1) (e : f (120 + 12 * p + 8) = 1) : brst (brgo f p) (f 1).toNat = brst f (f 1).toNat - 1 := by
  rw [brst_fu (f := f) (p := p) (fun q hq => by rw [brgo_far hw p hp (by omega), fu_ne (by omega)]), if_pos (by omega), brgo_far hw p hp (by omega), fu_eq]
  omega
theorem brst_bd {f : Nat → Int} (hw : WB f) (n : Nat) (hn : (n : Int) ≤ f 1) : 0 ≤ brst f n ∧ brst f n ≤ n := by
  have := gsm_bd (g := fun q => f (120 + 12 * q + 8)) (B := 1) n (fun k hk => by
    have := WBp hw (p := k) (by omega)
    omega)
  unfold brst
  omega
theorem brN_ex0 {w : Int} : ∀ (m : Nat) (f : Nat → Int), WB f → brst f (f 1).toNat ≤ m → ∃ n, n ≤ m ∧ (∀ j, j < n → 0 ≤ brfi (brit w j f) w (f 1).toNat) ∧ brfi (brit w n f) w (f 1).toNat < 0
  | 0, f, hw, h => by
    have x := brfi_bd f w (f 1).toNat
    refine ⟨0, by omega, fun j hj => by omega, ?_⟩
    show brfi f w (f 1).toNat < 0
    refine Int.not_le.1 (fun c => ?_)
    have o := brfi_ov f w (f 1).toNat c
    have := gsm_ge (g := fun q => f (120 + 12 * q + 8)) (f 1).toNat (brfi f w (f 1).toNat).toNat (fun i hi => by
      have := WBp hw (p := i) (by omega)
      omega) (by omega)
    unfold brst at h
    have o1 := o.1
    omega
  | m + 1, f, hw, h => by
    have x := brfi_bd f w (f 1).toNat
    by_cases c : brfi f w (f 1).toNat < 0
    · exact ⟨0, by omega, fun j hj => by omega, c⟩
    · have hp : (((brfi f w (f 1).toNat).toNat : Nat) : Int) < f 1 := by have := hw.2.1; omega
      have o := (brfi_ov f w (f 1).toNat (by omega)).1
      have e : brstp w f = brgo f (brfi f w (f 1).toNat).toNat := if_neg c
      obtain ⟨a, b⟩ := brstp_ok w hw (SB_refl f)
      have e1 := (SB01 b).2
      obtain ⟨n, n1, n2, n3⟩ := brN_ex0 (w := w) m (brstp w f) a (by rw [e1, e, brst_go hw _ hp o]; omega)
      refine ⟨n + 1, by omega, fun j hj => ?_, ?_⟩
      · cases j with
        | zero => show 0 ≤ brfi f w (f 1).toNat; omega
        | succ j =>
          rw [← brit_sh, ← e1]
          exact n2 j (by omega)
      · rw [← brit_sh, ← e1]
        exact n3
theorem brN_ex {f : Nat → Int} (hw : WB f) (w : Int) : ∃ n, brN f w n := by
  have w2 := hw.2.1
  have := brst_bd hw (f 1).toNat (by omega)
  obtain ⟨n, h1, h2, h3⟩ := brN_ex0 (w := w) 40 f hw (by omega)
  exact ⟨n, h2, h3, h1⟩
theorem r_B_isBare_0 : Wp L d k_B_isBare 0 [l0, l1, l2] [] σ Q ↔ Wp L d k_B_isBare 1 [l0, l1, l2] [vI 0] σ Q := wp_push rfl
theorem r_B_isBare_1 : Wp L d k_B_isBare 1 [l0, vI a1, l2] [vI s0] σ Q ↔ Wp L d k_B_isBare 2 [l0, vI a1, vI s0] [] σ Q := wp_istore (i := 2) (ls := [l0, vI a1, l2]) rfl rfl
theorem r_B_isBare_2 : Wp L d k_B_isBare 2 [l0, l1, vI a2] [] σ Q ↔ Wp L d k_B_isBare 3 [l0, l1, vI a2] [vI a2] σ Q := wp_iload rfl rfl
theorem r_B_isBare_3 : Wp L d k_B_isBare 3 [vR b0, l1, l2] [vI s0] σ Q ↔ Wp L d k_B_isBare 4 [vR b0, l1, l2] [vR b0, vI s0] σ Q := wp_aload rfl rfl
theorem r_B_isBare_4 (h : gK c1 = 1) : Wp L d k_B_isBare 4 [l0, l1, l2] [vR c1, vI s0] σ Q ↔ Wp L d k_B_isBare 7 [l0, l1, l2] [vI (σ c1 9), vI s0] σ Q := wp_getI (c := 265) rfl rfl rfl rfl h
theorem r_B_isBare_7 : Wp L d k_B_isBare 7 [l0, l1, l2] [vI s1, vI s0] σ Q ↔ (if s1 ≤ s0 then Wp L d k_B_isBare 43 [l0, l1, l2] [] σ Q else Wp L d k_B_isBare 10 [l0, l1, l2] [] σ Q) := wp_cmp_ge rfl
theorem r_B_isBare_10 : Wp L d k_B_isBare 10 [vR b0, l1, l2] [] σ Q ↔ Wp L d k_B_isBare 11 [vR b0, l1, l2] [vR b0] σ Q := wp_aload rfl rfl
theorem r_B_isBare_11 (h : gK c0 = 1) : Wp L d k_B_isBare 11 [l0, l1, l2] [vR c0] σ Q ↔ Wp L d k_B_isBare 14 [l0, l1, l2] [vR (gq c0 3)] σ Q := wp_getR (c := 387) rfl rfl rfl rfl rfl h
theorem r_B_isBare_14 : Wp L d k_B_isBare 14 [l0, l1, vI a2] [vR c0] σ Q ↔ Wp L d k_B_isBare 15 [l0, l1, vI a2] [vI a2, vR c0] σ Q := wp_iload rfl rfl
theorem r_B_isBare_15 (h : gK c0 = 102 ∨ gK c0 = 103) (hx : 0 ≤ s1 ∧ s1 < gN c0) : Wp L d k_B_isBare 15 [l0, l1, l2] [vI s1, vR c0] σ Q ↔ Wp L d k_B_isBare 16 [l0, l1, l2] [vR (gq c0 s1.toNat)] σ Q := wp_aald rfl h hx
theorem r_B_isBare_16 (h : gK c0 = 4) : Wp L d k_B_isBare 16 [l0, l1, l2] [vR c0] σ Q ↔ Wp L d k_B_isBare 19 [l0, l1, l2] [vI (σ c0 10)] σ Q := wp_getI (c := 1098) rfl rfl rfl rfl h
theorem r_B_isBare_19 : Wp L d k_B_isBare 19 [l0, l1, l2] [vI s0] σ Q ↔ (if s0 = 0 then Wp L d k_B_isBare 37 [l0, l1, l2] [] σ Q else Wp L d k_B_isBare 22 [l0, l1, l2] [] σ Q) := wp_if_eq rfl
theorem r_B_isBare_22 : Wp L d k_B_isBare 22 [vR b0, l1, l2] [] σ Q ↔ Wp L d k_B_isBare 23 [vR b0, l1, l2] [vR b0] σ Q := wp_aload rfl rfl
theorem r_B_isBare_23 (h : gK c0 = 1) : Wp L d k_B_isBare 23 [l0, l1, l2] [vR c0] σ Q ↔ Wp L d k_B_isBare 26 [l0, l1, l2] [vR (gq c0 3)] σ Q := wp_getR (c := 387) rfl rfl rfl rfl rfl h
theorem r_B_isBare_26 : Wp L d k_B_isBare 26 [l0, l1, vI a2] [vR c0] σ Q ↔ Wp L d k_B_isBare 27 [l0, l1, vI a2] [vI a2, vR c0] σ Q := wp_iload rfl rfl
theorem r_B_isBare_27 (h : gK c0 = 102 ∨ gK c0 = 103) (hx : 0 ≤ s1 ∧ s1 < gN c0) : Wp L d k_B_isBare 27 [l0, l1, l2] [vI s1, vR c0] σ Q ↔ Wp L d k_B_isBare 28 [l0, l1, l2] [vR (gq c0 s1.toNat)] σ Q := wp_aald rfl h hx
theorem r_B_isBare_28 (h : gK c0 = 4) : Wp L d k_B_isBare 28 [l0, l1, l2] [vR c0] σ Q ↔ Wp L d k_B_isBare 31 [l0, l1, l2] [vI (σ c0 1)] σ Q := wp_getI (c := 1025) rfl rfl rfl rfl h
theorem r_B_isBare_31 : Wp L d k_B_isBare 31 [l0, vI a1, l2] [vI s0] σ Q ↔ Wp L d k_B_isBare 32 [l0, vI a1, l2] [vI a1, vI s0] σ Q := wp_iload rfl rfl
theorem r_B_isBare_32 : Wp L d k_B_isBare 32 [l0, l1, l2] [vI s1, vI s0] σ Q ↔ (if s0 ≠ s1 then Wp L d k_B_isBare 37 [l0, l1, l2] [] σ Q else Wp L d k_B_isBare 35 [l0, l1, l2] [] σ Q) := wp_cmp_ne rfl
theorem r_B_isBare_35 : Wp L d k_B_isBare 35 [l0, l1, l2] [] σ Q ↔ Wp L d k_B_isBare 36 [l0, l1, l2] [vI 0] σ Q := wp_push rfl
theorem r_B_isBare_36 (h : s0 = 0 ∨ s0 = 1) : Wp L d k_B_isBare 36 [l0, l1, l2] [vI s0] σ Q ↔ Q (some (vI s0)) σ := wp_zret rfl h
theorem r_B_isBare_37 : Wp L d k_B_isBare 37 [l0, vI a1, vI a2] [] σ Q ↔ Wp L d k_B_isBare 40 [l0, vI a1, vI (w32 (a2 + 1))] [] σ Q := wp_iinc (i := 2) (ls := [l0, vI a1, vI a2]) rfl rfl
theorem r_B_isBare_40 : Wp L d k_B_isBare 40 [l0, l1, l2] [] σ Q ↔ Wp L d k_B_isBare 2 [l0, l1, l2] [] σ Q := wp_goto rfl
theorem r_B_isBare_43 : Wp L d k_B_isBare 43 [l0, l1, l2] [] σ Q ↔ Wp L d k_B_isBare 44 [l0, l1, l2] [vI 1] σ Q := wp_push rfl
theorem r_B_isBare_44 (h : s0 = 0 ∨ s0 = 1) : Wp L d k_B_isBare 44 [l0, l1, l2] [vI s0] σ Q ↔ Q (some (vI s0)) σ := wp_zret rfl h
theorem sp_B_isBare {b : Nat} {f : Nat → Int}  (hB : BR b) (hw : WB f) (hc : CB b f σ) : Run L d 106 [vR b, vI a1] σ (some (vI (gb (brsh f a1 (f 1).toNat = 0)))) σ := by
  refine Run_of (C' := k_B_isBare) rfl ?_
  show Wp L d k_B_isBare 0 [vR b, vI a1, vU] [] σ _
  obtain ⟨⟨K0, q0, q1, q2, q3, q4, q5, q6, q7⟩, ⟨K1, K2, K3, K4, K5, K6, K7, K8⟩, ⟨N1, N2, N3, N4, N5, N6, N7, N8⟩, QP, KP⟩ := hB
  have w1 := hw.1
  have w2 := hw.2.1
  have c1 := hc.1
  have c2 := hc.2.1
  simp only [r_B_isBare_0, r_B_isBare_1, r_B_isBare_3, r_B_isBare_4, r_B_isBare_7, r_B_isBare_10, r_B_isBare_11, r_B_isBare_14, r_B_isBare_15, r_B_isBare_16, r_B_isBare_19, r_B_isBare_22, r_B_isBare_23, r_B_isBare_26, r_B_isBare_27, r_B_isBare_28, r_B_isBare_31, r_B_isBare_32, r_B_isBare_35, r_B_isBare_36, r_B_isBare_37, r_B_isBare_40, r_B_isBare_43, r_B_isBare_44]
  refine wloop (n := (f 1).toNat) (I := fun k ls τ => ls = [vR b, vI a1, vI (k : Int)] ∧ τ = σ ∧ brsh f a1 k = 0) (fun k ls τ hk hi hq => ?_) (fun ls τ hi => ?_) (f 1).toNat 0 (by omega) _ _ ⟨rfl, rfl, rfl⟩
  · obtain ⟨rfl, rfl, hz⟩ := hi
    have p := CBp hc (p := k) (by omega)
    have w := WBp hw (p := k) (by omega)
    have kp := KP k (by omega)
    rw [r_B_isBare_2]
    by_cases e1 : f (120 + 12 * k + 8) = 1
    · by_cases e2 : f (120 + 12 * k + 1) = a1
      · rw [gb_f (by rw [← e2]; exact brsh_pos hw (by omega) e1)]
        simp (disch := first | assumption | exact gb_01 _ | omega) only [r_B_isBare_0, r_B_isBare_1, r_B_isBare_3, r_B_isBare_4, r_B_isBare_7, r_B_isBare_10, r_B_isBare_11, r_B_isBare_14, r_B_isBare_15, r_B_isBare_16, r_B_isBare_19, r_B_isBare_22, r_B_isBare_23, r_B_isBare_26, r_B_isBare_27, r_B_isBare_28, r_B_isBare_31, r_B_isBare_32, r_B_isBare_35, r_B_isBare_36, r_B_isBare_37, r_B_isBare_40, r_B_isBare_43, r_B_isBare_44, q0, q1, q2, q3, q4, q5, q6, q7, QP, w32_gb, w32i, tn_add, tn_mul, Int.toNat_natCast, Int.toNat_zero, Int.reduceLE, Int.reduceLT, Int.reduceEq, Int.reduceNe, gb_T, gb_F, Int.reduceToNat, eq_self, true_or, or_true, and_true, true_and, and_self, ↓ite_gb0, ↓ite_gbn, ↓if_pos, ↓if_neg, if_true, if_false, not_true_eq_false, not_false_eq_true, gb_ne0, gb_eq0]
      · simp (disch := first | assumption | exact gb_01 _ | omega) only [r_B_isBare_0, r_B_isBare_1, r_B_isBare_3, r_B_isBare_4, r_B_isBare_7, r_B_isBare_10, r_B_isBare_11, r_B_isBare_14, r_B_isBare_15, r_B_isBare_16, r_B_isBare_19, r_B_isBare_22, r_B_isBare_23, r_B_isBare_26, r_B_isBare_27, r_B_isBare_28, r_B_isBare_31, r_B_isBare_32, r_B_isBare_35, r_B_isBare_36, r_B_isBare_37, r_B_isBare_40, r_B_isBare_43, r_B_isBare_44, q0, q1, q2, q3, q4, q5, q6, q7, QP, w32_gb, w32i, tn_add, tn_mul, Int.toNat_natCast, Int.toNat_zero, Int.reduceLE, Int.reduceLT, Int.reduceEq, Int.reduceNe, gb_T, gb_F, Int.reduceToNat, eq_self, true_or, or_true, and_true, true_and, and_self, ↓ite_gb0, ↓ite_gbn, ↓if_pos, ↓if_neg, if_true, if_false, not_true_eq_false, not_false_eq_true, gb_ne0, gb_eq0]
        refine hq _ _ ⟨by simp only [List.cons.injEq, vI_inj, vR_inj, and_true, true_and]; omega, rfl, ?_⟩
        simp only [brsh, gsm] at hz ⊢
        rw [hz, if_neg (fun x => e2 x.2)]
        rfl
    · simp (disch := first | assumption | exact gb_01 _ | omega) only [r_B_isBare_0, r_B_isBare_1, r_B_isBare_3, r_B_isBare_4, r_B_isBare_7, r_B_isBare_10, r_B_isBare_11, r_B_isBare_14, r_B_isBare_15, r_B_isBare_16, r_B_isBare_19, r_B_isBare_22, r_B_isBare_23, r_B_isBare_26, r_B_isBare_27, r_B_isBare_28, r_B_isBare_31, r_B_isBare_32, r_B_isBare_35, r_B_isBare_36, r_B_isBare_37, r_B_isBare_40, r_B_isBare_43, r_B_isBare_44, q0, q1, q2, q3, q4, q5, q6, q7, QP, w32_gb, w32i, tn_add, tn_mul, Int.toNat_natCast, Int.toNat_zero, Int.reduceLE, Int.reduceLT, Int.reduceEq, Int.reduceNe, gb_T, gb_F, Int.reduceToNat, eq_self, true_or, or_true, and_true, true_and, and_self, ↓ite_gb0, ↓ite_gbn, ↓if_pos, ↓if_neg, if_true, if_false, not_true_eq_false, not_false_eq_true, gb_ne0, gb_eq0]
      refine hq _ _ ⟨by simp only [List.cons.injEq, vI_inj, vR_inj, and_true, true_and]; omega, rfl, ?_⟩
      simp only [brsh, gsm] at hz ⊢
      rw [hz, if_neg (fun x => e1 x.1)]
      rfl
  · obtain ⟨rfl, rfl, hz⟩ := hi
    rw [r_B_isBare_2, gb_t hz]
    simp (disch := first | assumption | exact gb_01 _ | omega) only [r_B_isBare_0, r_B_isBare_1, r_B_isBare_3, r_B_isBare_4, r_B_isBare_7, r_B_isBare_10, r_B_isBare_11, r_B_isBare_14, r_B_isBare_15, r_B_isBare_16, r_B_isBare_19, r_B_isBare_22, r_B_isBare_23, r_B_isBare_26, r_B_isBare_27, r_B_isBare_28, r_B_isBare_31, r_B_isBare_32, r_B_isBare_35, r_B_isBare_36, r_B_isBare_37, r_B_isBare_40, r_B_isBare_43, r_B_isBare_44, q0, q1, q2, q3, q4, q5, q6, q7, QP, w32_gb, w32i, tn_add, tn_mul, Int.toNat_natCast, Int.toNat_zero, Int.reduceLE, Int.reduceLT, Int.reduceEq, Int.reduceNe, gb_T, gb_F, Int.reduceToNat, eq_self, true_or, or_true, and_true, true_and, and_self, ↓ite_gb0, ↓ite_gbn, ↓if_pos, ↓if_neg, if_true, if_false, not_true_eq_false, not_false_eq_true, gb_ne0, gb_eq0]
theorem r_B_sinkTrain_0 : Wp L d k_B_sinkTrain 0 [vR b0] [] σ Q ↔ Wp L d k_B_sinkTrain 1 [vR b0] [vR b0] σ Q := wp_aload rfl rfl
theorem r_B_sinkTrain_1 : Wp L d k_B_sinkTrain 1 [l0] [vR c0] σ Q ↔ Wp L d k_B_sinkTrain 3 [l0] [vI (-1000000005), vR c0] σ Q := wp_push rfl
theorem r_B_sinkTrain_3 (h : gK c0 = 1) : Wp L d k_B_sinkTrain 3 [l0] [vI s1, vR c0] σ Q ↔ Wp L d k_B_sinkTrain 6 [l0] [] (gupd σ c0 12 s1) Q := wp_putI (c := 268) rfl rfl rfl rfl h
theorem r_B_sinkTrain_6 : Wp L d k_B_sinkTrain 6 [vR b0] [] σ Q ↔ Wp L d k_B_sinkTrain 7 [vR b0] [vR b0] σ Q := wp_aload rfl rfl
theorem r_B_sinkTrain_7 : Wp L d k_B_sinkTrain 7 [l0] [vR c0] σ Q ↔ Wp L d k_B_sinkTrain 8 [l0] [vI 1, vR c0] σ Q := wp_push rfl
theorem r_B_sinkTrain_8 (h : gK c0 = 1) (hx : s1 = 0 ∨ s1 = 1) : Wp L d k_B_sinkTrain 8 [l0] [vI s1, vR c0] σ Q ↔ Wp L d k_B_sinkTrain 11 [l0] [] (gupd σ c0 13 s1) Q := wp_putZ (c := 333) rfl rfl rfl rfl h hx
theorem r_B_sinkTrain_11 : Wp L d k_B_sinkTrain 11 [l0] [] σ Q ↔ Q none σ := wp_vret rfl
theorem sp_B_sinkTrain (hk : gK b0 = 1) : Run L d 108 [vR b0] σ none (gupd (gupd σ b0 12 (-1000000005)) b0 13 1) := by
  refine Run_of (C' := k_B_sinkTrain) rfl ?_
  show Wp L d k_B_sinkTrain 0 [vR b0] [] σ _
  simp (disch := first | assumption | exact gb_01 _ | omega) only [r_B_sinkTrain_0, r_B_sinkTrain_1, r_B_sinkTrain_3, r_B_sinkTrain_6, r_B_sinkTrain_7, r_B_sinkTrain_8, r_B_sinkTrain_11, w32_gb, w32i, tn_add, tn_mul, Int.toNat_natCast, Int.toNat_zero, Int.reduceLE, Int.reduceLT, Int.reduceEq, Int.reduceNe, gb_T, gb_F, Int.reduceToNat, eq_self, true_or, or_true, and_true, true_and, and_self, ↓ite_gb0, ↓ite_gbn, ↓if_pos, ↓if_neg, if_true, if_false, not_true_eq_false, not_false_eq_true, gb_ne0, gb_eq0]
theorem r_B_dropSpan_0 : Wp L d k_B_dropSpan 0 [vR b0, l1] [] σ Q ↔ Wp L d k_B_dropSpan 1 [vR b0, l1] [vR b0] σ Q := wp_aload rfl rfl
theorem r_B_dropSpan_1 : Wp L d k_B_dropSpan 1 [l0, vI a1] [vR c0] σ Q ↔ Wp L d k_B_dropSpan 2 [l0, vI a1] [vI a1, vR c0] σ Q := wp_iload rfl rfl
theorem c_B_dropSpan_2 (hR : Run L d 99 [vR c0, vI s1] σ r σ1) (h : gK c0 = 1) : Wp L (d + 1) k_B_dropSpan 2 [l0, l1] [vI s1, vR c0] σ Q ↔ Wp L (d + 1) k_B_dropSpan 5 [l0, l1] (r.toList ++ []) σ1 Q := wp_callR (as := [vR c0, vI s1]) (rest := []) rfl rfl rfl rfl rfl rfl rfl (grecv_k (by rw [h]) rfl) hR
theorem r_B_dropSpan_5 : Wp L d k_B_dropSpan 5 [l0, l1] [vI s0] σ Q ↔ (if s0 = 0 then Wp L d k_B_dropSpan 27 [l0, l1] [] σ Q else Wp L d k_B_dropSpan 8 [l0, l1] [] σ Q) := wp_if_eq rfl
theorem r_B_dropSpan_8 : Wp L d k_B_dropSpan 8 [vR b0, l1] [] σ Q ↔ Wp L d k_B_dropSpan 9 [vR b0, l1] [vR b0] σ Q := wp_aload rfl rfl
theorem r_B_dropSpan_9 (h : gK c0 = 1) : Wp L d k_B_dropSpan 9 [l0, l1] [vR c0] σ Q ↔ Wp L d k_B_dropSpan 12 [l0, l1] [vR (gq c0 2)] σ Q := wp_getR (c := 386) rfl rfl rfl rfl rfl h
theorem r_B_dropSpan_12 : Wp L d k_B_dropSpan 12 [l0, vI a1] [vR c0] σ Q ↔ Wp L d k_B_dropSpan 13 [l0, vI a1] [vI a1, vR c0] σ Q := wp_iload rfl rfl
theorem r_B_dropSpan_13 : Wp L d k_B_dropSpan 13 [l0, l1] [vI s1, vR c0] σ Q ↔ Wp L d k_B_dropSpan 14 [l0, l1] [vI 1, vI s1, vR c0] σ Q := wp_push rfl
theorem r_B_dropSpan_14 (h : gK c0 = 101) (hx : 0 ≤ s1 ∧ s1 < gN c0) (hy : s2 = 0 ∨ s2 = 1) : Wp L d k_B_dropSpan 14 [l0, l1] [vI s2, vI s1, vR c0] σ Q ↔ Wp L d k_B_dropSpan 15 [l0, l1] [] (gupd σ c0 s1.toNat s2) Q := wp_bast rfl h hx hy
theorem r_B_dropSpan_15 : Wp L d k_B_dropSpan 15 [vR b0, l1] [] σ Q ↔ Wp L d k_B_dropSpan 16 [vR b0, l1] [vR b0] σ Q := wp_aload rfl rfl
theorem r_B_dropSpan_16 (h : gK c0 = 1) : Wp L d k_B_dropSpan 16 [l0, l1] [vR c0] σ Q ↔ Wp L d k_B_dropSpan 19 [l0, l1] [vI (σ c0 12)] σ Q := wp_getI (c := 268) rfl rfl rfl rfl h
theorem r_B_dropSpan_19 : Wp L d k_B_dropSpan 19 [l0, vI a1] [vI s0] σ Q ↔ Wp L d k_B_dropSpan 20 [l0, vI a1] [vI a1, vI s0] σ Q := wp_iload rfl rfl
theorem r_B_dropSpan_20 : Wp L d k_B_dropSpan 20 [l0, l1] [vI s1, vI s0] σ Q ↔ (if s0 ≠ s1 then Wp L d k_B_dropSpan 27 [l0, l1] [] σ Q else Wp L d k_B_dropSpan 23 [l0, l1] [] σ Q) := wp_cmp_ne rfl
theorem r_B_dropSpan_23 : Wp L d k_B_dropSpan 23 [vR b0, l1] [] σ Q ↔ Wp L d k_B_dropSpan 24 [vR b0, l1] [vR b0] σ Q := wp_aload rfl rfl
theorem r_B_dropSpan_27 : Wp L d k_B_dropSpan 27 [l0, l1] [] σ Q ↔ Q none σ := wp_vret rfl
theorem r_B_dropSpan_24 (hk : gK c0 = 1) : Wp L (d + 1) k_B_dropSpan 24 [l0, l1] [vR c0] σ Q ↔ Wp L (d + 1) k_B_dropSpan 27 [l0, l1] [] (gupd (gupd σ c0 12 (-1000000005)) c0 13 1) Q := wp_callR (d := d + 0) (as := [vR c0]) (rest := []) rfl rfl rfl rfl rfl rfl rfl (grecv_k (by rw [hk]) rfl) (sp_B_sinkTrain hk)
theorem sp_B_dropSpan {b : Nat} {f : Nat → Int}  (hB : BR b) (hw : WB f) (hc : CB b f σ) : ∃ σ', Run L (d + 1) 107 [vR b, vI a1] σ none σ' ∧ CB b (brdr f a1) σ' ∧ Agr σ σ' (ZBr b) := by
  refine Run_ex (C' := k_B_dropSpan) rfl ?_
  show Wp L (d + 1) k_B_dropSpan 0 [vR b, vI a1] [] σ _
  have hB0 := hB
  obtain ⟨⟨K0, q0, q1, q2, q3, q4, q5, q6, q7⟩, ⟨K1, K2, K3, K4, K5, K6, K7, K8⟩, ⟨N1, N2, N3, N4, N5, N6, N7, N8⟩, QP, KP⟩ := hB
  have w1 := hw.1
  have w2 := hw.2.1
  have c1 := hc.1
  have c2 := hc.2.1

  have c7 : σ b 12 = if f 11 < 0 then -1000000005 else f 11 := hc.2.2.2.2.2.2.1
  have hU := sp_B_isUp (L := L) (d := d) (σ := σ) (a1 := a1) hB0 (by omega)
  unfold brdr
  by_cases e : (0 ≤ a1 ∧ a1 ≤ f 0 - 1) ∧ ¬ f (20 + 3 * a1.toNat + 2) = 1
  · have s := (hc.2.2.1 a1.toNat (by omega)).2.2
    have w3 := (hw.2.2.1 a1.toNat (by omega)).2.2
    have eu : (0 ≤ a1 ∧ a1 < σ b 8) ∧ σ (b + 3) a1.toNat = 0 := by omega
    have hw1 := WB_down (k := a1.toNat) (v := 1) (by omega) hw (Or.inr rfl)
    have hc1 := CB_down (k := a1.toNat) (v := 1) (by omega) hw hc
    rw [if_pos e]
    by_cases t : f 11 = a1
    · rw [if_neg (by omega)] at c7
      rw [if_pos t]
      simp (disch := first | assumption | exact gb_01 _ | omega) only [r_B_dropSpan_0, r_B_dropSpan_1, r_B_dropSpan_5, r_B_dropSpan_8, r_B_dropSpan_9, r_B_dropSpan_12, r_B_dropSpan_13, r_B_dropSpan_14, r_B_dropSpan_15, r_B_dropSpan_16, r_B_dropSpan_19, r_B_dropSpan_20, r_B_dropSpan_23, r_B_dropSpan_24, r_B_dropSpan_27, c_B_dropSpan_2 hU, Option.toList, List.singleton_append, List.cons_append, List.nil_append, List.append_nil, q0, q1, q2, q3, q4, q5, q6, q7, QP, gupd_ne, w32_gb, w32i, tn_add, tn_mul, Int.toNat_natCast, Int.toNat_zero, Int.reduceLE, Int.reduceLT, Int.reduceEq, Int.reduceNe, gb_T, gb_F, Int.reduceToNat, eq_self, true_or, or_true, and_true, true_and, and_self, ↓ite_gb0, ↓ite_gbn, ↓if_pos, ↓if_neg, if_true, if_false, not_true_eq_false, not_false_eq_true, gb_ne0, gb_eq0]
      exact ⟨CB_train (t := -1) rfl hw1 hc1, Agr_upd (Agr_upd (Agr_upd (Agr_refl _ _) (by unfold ZBr; omega)) (by unfold ZBr; omega)) (by unfold ZBr; omega)⟩
    · rw [if_neg t]
      have c8 : ¬ σ b 12 = a1 := by
        rw [c7]
        split <;> omega
      simp (disch := first | assumption | exact gb_01 _ | omega) only [r_B_dropSpan_0, r_B_dropSpan_1, r_B_dropSpan_5, r_B_dropSpan_8, r_B_dropSpan_9, r_B_dropSpan_12, r_B_dropSpan_13, r_B_dropSpan_14, r_B_dropSpan_15, r_B_dropSpan_16, r_B_dropSpan_19, r_B_dropSpan_20, r_B_dropSpan_23, r_B_dropSpan_24, r_B_dropSpan_27, c_B_dropSpan_2 hU, Option.toList, List.singleton_append, List.cons_append, List.nil_append, List.append_nil, q0, q1, q2, q3, q4, q5, q6, q7, QP, gupd_ne, w32_gb, w32i, tn_add, tn_mul, Int.toNat_natCast, Int.toNat_zero, Int.reduceLE, Int.reduceLT, Int.reduceEq, Int.reduceNe, gb_T, gb_F, Int.reduceToNat, eq_self, true_or, or_true, and_true, true_and, and_self, ↓ite_gb0, ↓ite_gbn, ↓if_pos, ↓if_neg, if_true, if_false, not_true_eq_false, not_false_eq_true, gb_ne0, gb_eq0]
      exact ⟨hc1, Agr_upd (Agr_refl _ _) (by unfold ZBr; omega)⟩
  · have eu : ¬ ((0 ≤ a1 ∧ a1 < σ b 8) ∧ σ (b + 3) a1.toNat = 0) := by
      intro x
      have s := (hc.2.2.1 a1.toNat (by omega)).2.2
      omega
    rw [if_neg e]
    simp (disch := first | assumption | exact gb_01 _ | omega) only [r_B_dropSpan_0, r_B_dropSpan_1, r_B_dropSpan_5, r_B_dropSpan_8, r_B_dropSpan_9, r_B_dropSpan_12, r_B_dropSpan_13, r_B_dropSpan_14, r_B_dropSpan_15, r_B_dropSpan_16, r_B_dropSpan_19, r_B_dropSpan_20, r_B_dropSpan_23, r_B_dropSpan_24, r_B_dropSpan_27, c_B_dropSpan_2 hU, Option.toList, List.singleton_append, List.cons_append, List.nil_append, List.append_nil, q0, q1, q2, q3, q4, q5, q6, q7, QP, gupd_ne, w32_gb, w32i, tn_add, tn_mul, Int.toNat_natCast, Int.toNat_zero, Int.reduceLE, Int.reduceLT, Int.reduceEq, Int.reduceNe, gb_T, gb_F, Int.reduceToNat, eq_self, true_or, or_true, and_true, true_and, and_self, ↓ite_gb0, ↓ite_gbn, ↓if_pos, ↓if_neg, if_true, if_false, not_true_eq_false, not_false_eq_true, gb_ne0, gb_eq0]
    exact ⟨hc, Agr_refl _ _⟩
theorem r_B_letGo_0 : Wp L d k_B_letGo 0 [l0, vR b1] [] σ Q ↔ Wp L d k_B_letGo 1 [l0, vR b1] [vR b1] σ Q := wp_aload rfl rfl
theorem r_B_letGo_1 : Wp L d k_B_letGo 1 [l0, l1] [vR c0] σ Q ↔ Wp L d k_B_letGo 2 [l0, l1] [vI 0, vR c0] σ Q := wp_push rfl
theorem r_B_letGo_2 (h : gK c0 = 4) (hx : s1 = 0 ∨ s1 = 1) : Wp L d k_B_letGo 2 [l0, l1] [vI s1, vR c0] σ Q ↔ Wp L d k_B_letGo 5 [l0, l1] [] (gupd σ c0 10 s1) Q := wp_putZ (c := 1098) rfl rfl rfl rfl h hx
theorem r_B_letGo_5 : Wp L d k_B_letGo 5 [vR b0, l1] [] σ Q ↔ Wp L d k_B_letGo 6 [vR b0, l1] [vR b0] σ Q := wp_aload rfl rfl
theorem r_B_letGo_6 : Wp L d k_B_letGo 6 [l0, vR b1] [vR c0] σ Q ↔ Wp L d k_B_letGo 7 [l0, vR b1] [vR b1, vR c0] σ Q := wp_aload rfl rfl
theorem r_B_letGo_7 (h : gK c1 = 4) : Wp L d k_B_letGo 7 [l0, l1] [vR c1, vR c0] σ Q ↔ Wp L d k_B_letGo 10 [l0, l1] [vI (σ c1 1), vR c0] σ Q := wp_getI (c := 1025) rfl rfl rfl rfl h
theorem c_B_letGo_10 (hR : Run L d 106 [vR c0, vI s1] σ r σ1) (h : gK c0 = 1) : Wp L (d + 1) k_B_letGo 10 [l0, l1] [vI s1, vR c0] σ Q ↔ Wp L (d + 1) k_B_letGo 13 [l0, l1] (r.toList ++ []) σ1 Q := wp_callR (as := [vR c0, vI s1]) (rest := []) rfl rfl rfl rfl rfl rfl rfl (grecv_k (by rw [h]) rfl) hR
theorem r_B_letGo_13 : Wp L d k_B_letGo 13 [l0, l1] [vI s0] σ Q ↔ (if s0 = 0 then Wp L d k_B_letGo 34 [l0, l1] [] σ Q else Wp L d k_B_letGo 16 [l0, l1] [] σ Q) := wp_if_eq rfl
theorem r_B_letGo_16 : Wp L d k_B_letGo 16 [vR b0, l1] [] σ Q ↔ Wp L d k_B_letGo 17 [vR b0, l1] [vR b0] σ Q := wp_aload rfl rfl
theorem r_B_letGo_17 : Wp L d k_B_letGo 17 [l0, vR b1] [vR c0] σ Q ↔ Wp L d k_B_letGo 18 [l0, vR b1] [vR b1, vR c0] σ Q := wp_aload rfl rfl
theorem r_B_letGo_18 (h : gK c1 = 4) : Wp L d k_B_letGo 18 [l0, l1] [vR c1, vR c0] σ Q ↔ Wp L d k_B_letGo 21 [l0, l1] [vI (σ c1 1), vR c0] σ Q := wp_getI (c := 1025) rfl rfl rfl rfl h
theorem r_B_letGo_21 : Wp L d k_B_letGo 21 [l0, l1] [vI s1, vR c0] σ Q ↔ Wp L d k_B_letGo 22 [l0, l1] [vI 1, vI s1, vR c0] σ Q := wp_push rfl
theorem r_B_letGo_22 : Wp L d k_B_letGo 22 [l0, l1] [vI s2, vI s1, vR c0] σ Q ↔ Wp L d k_B_letGo 23 [l0, l1] [vI (w32 (s1 - s2)), vR c0] σ Q := wp_isub rfl
theorem c_B_letGo_23 (hR : Run L d 107 [vR c0, vI s1] σ r σ1) (h : gK c0 = 1) : Wp L (d + 1) k_B_letGo 23 [l0, l1] [vI s1, vR c0] σ Q ↔ Wp L (d + 1) k_B_letGo 26 [l0, l1] (r.toList ++ []) σ1 Q := wp_callR (as := [vR c0, vI s1]) (rest := []) rfl rfl rfl rfl rfl rfl rfl (grecv_k (by rw [h]) rfl) hR
theorem r_B_letGo_26 : Wp L d k_B_letGo 26 [vR b0, l1] [] σ Q ↔ Wp L d k_B_letGo 27 [vR b0, l1] [vR b0] σ Q := wp_aload rfl rfl
theorem r_B_letGo_27 : Wp L d k_B_letGo 27 [l0, vR b1] [vR c0] σ Q ↔ Wp L d k_B_letGo 28 [l0, vR b1] [vR b1, vR c0] σ Q := wp_aload rfl rfl
theorem r_B_letGo_28 (h : gK c1 = 4) : Wp L d k_B_letGo 28 [l0, l1] [vR c1, vR c0] σ Q ↔ Wp L d k_B_letGo 31 [l0, l1] [vI (σ c1 1), vR c0] σ Q := wp_getI (c := 1025) rfl rfl rfl rfl h
theorem c_B_letGo_31 (hR : Run L d 107 [vR c0, vI s1] σ r σ1) (h : gK c0 = 1) : Wp L (d + 1) k_B_letGo 31 [l0, l1] [vI s1, vR c0] σ Q ↔ Wp L (d + 1) k_B_letGo 34 [l0, l1] (r.toList ++ []) σ1 Q := wp_callR (as := [vR c0, vI s1]) (rest := []) rfl rfl rfl rfl rfl rfl rfl (grecv_k (by rw [h]) rfl) hR
theorem r_B_letGo_34 : Wp L d k_B_letGo 34 [l0, l1] [] σ Q ↔ Q none σ := wp_vret rfl
theorem sp_B_letGo {b : Nat} {f : Nat → Int} {p : Nat} (hB : BR b) (hw : WB f) (hc : CB b f σ) (hp : (p : Int) < f 1) : ∃ σ', Run L (d + 2) 105 [vR b, vR (b + 9 + p)] σ none σ' ∧ CB b (brgo f p) σ' ∧ Agr σ σ' (ZBr b) := by
  refine Run_ex (C' := k_B_letGo) rfl ?_
  show Wp L (d + 2) k_B_letGo 0 [vR b, vR (b + 9 + p)] [] σ _
  have hB0 := hB
  obtain ⟨⟨K0, q0, q1, q2, q3, q4, q5, q6, q7⟩, ⟨K1, K2, K3, K4, K5, K6, K7, K8⟩, ⟨N1, N2, N3, N4, N5, N6, N7, N8⟩, QP, KP⟩ := hB
  have w1 := hw.1
  have w2 := hw.2.1
  have c1 := hc.1
  have c2 := hc.2.1

  have kp := KP p (by omega)
  have q := CBp hc hp
  have w := WBp hw hp
  obtain ⟨hw1, hs1⟩ := brgo_st hw p hp
  have hc1 := CB_stand (v := 0) (p := p) (by omega) hw hc
  have e1 := (SB01 hs1).2
  have hBr := sp_B_isBare (L := L) (d := d + 1) (a1 := f (120 + 12 * p + 1)) hB0 hw1 hc1
  obtain ⟨τ1, hR1, hc2, hA1⟩ := sp_B_dropSpan (L := L) (d := d + 0) (a1 := f (120 + 12 * p + 1) - 1) hB0 hw1 hc1
  obtain ⟨hw2, hs2⟩ := brdr_ok hw1 hs1 (f (120 + 12 * p + 1) - 1)
  obtain ⟨τ2, hR2, hc3, hA2⟩ := sp_B_dropSpan (L := L) (d := d + 0) (a1 := f (120 + 12 * p + 1)) hB0 hw2 hc2
  have q1 : gupd σ (b + 9 + p) 10 0 (b + 9 + p) 1 = f (120 + 12 * p + 1) := by rw [gupd_ne (by omega)]; exact q.2.1
  have q2 : τ1 (b + 9 + p) 1 = f (120 + 12 * p + 1) := by
    have := (CBp hc2 (p := p) (by rw [(SB01 hs2).2]; exact hp)).2.1
    rw [this, hs2 _ (by unfold SBZ; omega)]
  rw [e1] at hBr
  unfold brgo
  by_cases e : brsh (fu f (120 + 12 * p + 8) 0) (f (120 + 12 * p + 1)) (f 1).toNat = 0
  · rw [if_pos e]
    simp (disch := first | assumption | exact gb_01 _ | omega) only [r_B_letGo_0, r_B_letGo_1, r_B_letGo_2, r_B_letGo_5, r_B_letGo_6, r_B_letGo_7, r_B_letGo_13, r_B_letGo_16, r_B_letGo_17, r_B_letGo_18, r_B_letGo_21, r_B_letGo_22, r_B_letGo_26, r_B_letGo_27, r_B_letGo_28, r_B_letGo_34, c_B_letGo_10 hBr, c_B_letGo_23 hR1, c_B_letGo_31 hR2, e, Option.toList, List.singleton_append, List.cons_append, List.nil_append, List.append_nil, q0, q1, q2, q3, q4, q5, q6, q7, QP, q1, q2, w32_gb, w32i, tn_add, tn_mul, Int.toNat_natCast, Int.toNat_zero, Int.reduceLE, Int.reduceLT, Int.reduceEq, Int.reduceNe, gb_T, gb_F, Int.reduceToNat, eq_self, true_or, or_true, and_true, true_and, and_self, ↓ite_gb0, ↓ite_gbn, ↓if_pos, ↓if_neg, if_true, if_false, not_true_eq_false, not_false_eq_true, gb_ne0, gb_eq0]
    refine ⟨?_, Agr_trans (Agr_trans (Agr_upd (Agr_refl _ _) (by unfold ZBr; omega)) hA1) hA2⟩
    simp only [git]
    rw [show f (120 + 12 * p + 1) - 1 + ((0 : Nat) : Int) = f (120 + 12 * p + 1) - 1 by omega, show f (120 + 12 * p + 1) - 1 + ((1 : Nat) : Int) = f (120 + 12 * p + 1) by omega]
    exact hc3
  · rw [if_neg e]
    simp (disch := first | assumption | exact gb_01 _ | omega) only [r_B_letGo_0, r_B_letGo_1, r_B_letGo_2, r_B_letGo_5, r_B_letGo_6, r_B_letGo_7, r_B_letGo_13, r_B_letGo_16, r_B_letGo_17, r_B_letGo_18, r_B_letGo_21, r_B_letGo_22, r_B_letGo_26, r_B_letGo_27, r_B_letGo_28, r_B_letGo_34, c_B_letGo_10 hBr, c_B_letGo_23 hR1, c_B_letGo_31 hR2, e, Option.toList, List.singleton_append, List.cons_append, List.nil_append, List.append_nil, q0, q1, q2, q3, q4, q5, q6, q7, QP, q1, q2, w32_gb, w32i, tn_add, tn_mul, Int.toNat_natCast, Int.toNat_zero, Int.reduceLE, Int.reduceLT, Int.reduceEq, Int.reduceNe, gb_T, gb_F, Int.reduceToNat, eq_self, true_or, or_true, and_true, true_and, and_self, ↓ite_gb0, ↓ite_gbn, ↓if_pos, ↓if_neg, if_true, if_false, not_true_eq_false, not_false_eq_true, gb_ne0, gb_eq0]
    exact ⟨hc1, Agr_upd (Agr_refl _ _) (by unfold ZBr; omega)⟩
theorem r_M_goes_0 : Wp L d k_M_goes 0 [vR b0, l1, l2, l3] [] σ Q ↔ Wp L d k_M_goes 1 [vR b0, l1, l2, l3] [vR b0] σ Q := wp_aload rfl rfl
theorem r_M_goes_1 (h : gK c0 = 12) : Wp L d k_M_goes 1 [l0, l1, l2, l3] [vR c0] σ Q ↔ Wp L d k_M_goes 4 [l0, l1, l2, l3] [vR (gq c0 0)] σ Q := wp_getR (c := 3200) rfl rfl rfl rfl rfl h
theorem r_M_goes_4 : Wp L d k_M_goes 4 [vR b0, l1, l2, l3] [vR c0] σ Q ↔ Wp L d k_M_goes 5 [vR b0, l1, l2, l3] [vR b0, vR c0] σ Q := wp_aload rfl rfl
theorem r_M_goes_5 : Wp L d k_M_goes 5 [l0, vI a1, l2, l3] [vR c1, vR c0] σ Q ↔ Wp L d k_M_goes 6 [l0, vI a1, l2, l3] [vI a1, vR c1, vR c0] σ Q := wp_iload rfl rfl
theorem r_M_goes_9 : Wp L d k_M_goes 9 [l0, l1, l2, l3] [vI s1, vR c0] σ Q ↔ Wp L d k_M_goes 10 [l0, l1, l2, l3] [vI 1, vI s1, vR c0] σ Q := wp_push rfl
theorem r_M_goes_10 : Wp L d k_M_goes 10 [l0, l1, l2, l3] [vI s2, vI s1, vR c0] σ Q ↔ Wp L d k_M_goes 11 [l0, l1, l2, l3] [vI (w32 (s1 + s2)), vR c0] σ Q := wp_iadd rfl
theorem r_M_goes_11 (h : gK c0 = 100) (hx : 0 ≤ s1 ∧ s1 < gN c0) : Wp L d k_M_goes 11 [l0, l1, l2, l3] [vI s1, vR c0] σ Q ↔ Wp L d k_M_goes 12 [l0, l1, l2, l3] [vI (σ c0 s1.toNat)] σ Q := wp_iald rfl h hx
theorem r_M_goes_12 : Wp L d k_M_goes 12 [l0, vI a1, l2, l3] [vI s0] σ Q ↔ Wp L d k_M_goes 13 [l0, vI a1, vI s0, l3] [] σ Q := wp_istore (i := 2) (ls := [l0, vI a1, l2, l3]) rfl rfl
theorem r_M_goes_13 : Wp L d k_M_goes 13 [vR b0, l1, l2, l3] [] σ Q ↔ Wp L d k_M_goes 14 [vR b0, l1, l2, l3] [vR b0] σ Q := wp_aload rfl rfl
theorem r_M_goes_14 (h : gK c0 = 12) : Wp L d k_M_goes 14 [l0, l1, l2, l3] [vR c0] σ Q ↔ Wp L d k_M_goes 17 [l0, l1, l2, l3] [vR (gq c0 0)] σ Q := wp_getR (c := 3200) rfl rfl rfl rfl rfl h
theorem r_M_goes_17 : Wp L d k_M_goes 17 [vR b0, l1, l2, l3] [vR c0] σ Q ↔ Wp L d k_M_goes 18 [vR b0, l1, l2, l3] [vR b0, vR c0] σ Q := wp_aload rfl rfl
theorem r_M_goes_18 : Wp L d k_M_goes 18 [l0, vI a1, l2, l3] [vR c1, vR c0] σ Q ↔ Wp L d k_M_goes 19 [l0, vI a1, l2, l3] [vI a1, vR c1, vR c0] σ Q := wp_iload rfl rfl
theorem r_M_goes_22 : Wp L d k_M_goes 22 [l0, l1, l2, l3] [vI s1, vR c0] σ Q ↔ Wp L d k_M_goes 24 [l0, l1, l2, l3] [vI 8, vI s1, vR c0] σ Q := wp_push rfl
theorem r_M_goes_24 : Wp L d k_M_goes 24 [l0, l1, l2, l3] [vI s2, vI s1, vR c0] σ Q ↔ Wp L d k_M_goes 25 [l0, l1, l2, l3] [vI (w32 (s1 + s2)), vR c0] σ Q := wp_iadd rfl
theorem r_M_goes_25 : Wp L d k_M_goes 25 [l0, l1, l2, l3] [vI s1, vR c0] σ Q ↔ Wp L d k_M_goes 26 [l0, l1, l2, l3] [vI 0, vI s1, vR c0] σ Q := wp_push rfl
theorem r_M_goes_26 (h : gK c0 = 100) (hx : 0 ≤ s1 ∧ s1 < gN c0) : Wp L d k_M_goes 26 [l0, l1, l2, l3] [vI s2, vI s1, vR c0] σ Q ↔ Wp L d k_M_goes 27 [l0, l1, l2, l3] [] (gupd σ c0 s1.toNat s2) Q := wp_iast rfl h hx
theorem r_M_goes_27 : Wp L d k_M_goes 27 [l0, l1, vI a2, l3] [] σ Q ↔ Wp L d k_M_goes 28 [l0, l1, vI a2, l3] [vI a2] σ Q := wp_iload rfl rfl
theorem r_M_goes_28 : Wp L d k_M_goes 28 [l0, l1, l2, l3] [vI s0] σ Q ↔ Wp L d k_M_goes 29 [l0, l1, l2, l3] [vI 1, vI s0] σ Q := wp_push rfl
theorem r_M_goes_29 : Wp L d k_M_goes 29 [l0, l1, l2, l3] [vI s1, vI s0] σ Q ↔ Wp L d k_M_goes 30 [l0, l1, l2, l3] [vI (w32 (s0 - s1))] σ Q := wp_isub rfl
theorem r_M_goes_30 : Wp L d k_M_goes 30 [l0, l1, vI a2, l3] [vI s0] σ Q ↔ Wp L d k_M_goes 31 [l0, l1, vI a2, vI s0] [] σ Q := wp_istore (i := 3) (ls := [l0, l1, vI a2, l3]) rfl rfl
theorem r_M_goes_31 : Wp L d k_M_goes 31 [l0, l1, l2, vI a3] [] σ Q ↔ Wp L d k_M_goes 32 [l0, l1, l2, vI a3] [vI a3] σ Q := wp_iload rfl rfl
theorem r_M_goes_32 : Wp L d k_M_goes 32 [l0, l1, vI a2, l3] [vI s0] σ Q ↔ Wp L d k_M_goes 33 [l0, l1, vI a2, l3] [vI a2, vI s0] σ Q := wp_iload rfl rfl
theorem r_M_goes_33 : Wp L d k_M_goes 33 [l0, l1, l2, l3] [vI s1, vI s0] σ Q ↔ (if s1 < s0 then Wp L d k_M_goes 106 [l0, l1, l2, l3] [] σ Q else Wp L d k_M_goes 36 [l0, l1, l2, l3] [] σ Q) := wp_cmp_gt rfl
theorem r_M_goes_36 : Wp L d k_M_goes 36 [vR b0, l1, l2, l3] [] σ Q ↔ Wp L d k_M_goes 37 [vR b0, l1, l2, l3] [vR b0] σ Q := wp_aload rfl rfl
theorem r_M_goes_37 : Wp L d k_M_goes 37 [l0, l1, vI a2, l3] [vR c0] σ Q ↔ Wp L d k_M_goes 38 [l0, l1, vI a2, l3] [vI a2, vR c0] σ Q := wp_iload rfl rfl
theorem r_M_goes_41 : Wp L d k_M_goes 41 [l0, l1, l2, l3] [vI s0] σ Q ↔ (if s0 ≠ 0 then Wp L d k_M_goes 106 [l0, l1, l2, l3] [] σ Q else Wp L d k_M_goes 44 [l0, l1, l2, l3] [] σ Q) := wp_if_ne rfl
theorem r_M_goes_44 : Wp L d k_M_goes 44 [vR b0, l1, l2, l3] [] σ Q ↔ Wp L d k_M_goes 45 [vR b0, l1, l2, l3] [vR b0] σ Q := wp_aload rfl rfl
theorem r_M_goes_45 : Wp L d k_M_goes 45 [l0, l1, l2, vI a3] [vR c0] σ Q ↔ Wp L d k_M_goes 46 [l0, l1, l2, vI a3] [vI a3, vR c0] σ Q := wp_iload rfl rfl
theorem r_M_goes_49 : Wp L d k_M_goes 49 [l0, l1, l2, l3] [vI s0] σ Q ↔ (if s0 = 0 then Wp L d k_M_goes 100 [l0, l1, l2, l3] [] σ Q else Wp L d k_M_goes 52 [l0, l1, l2, l3] [] σ Q) := wp_if_eq rfl
theorem r_M_goes_52 : Wp L d k_M_goes 52 [vR b0, l1, l2, l3] [] σ Q ↔ Wp L d k_M_goes 53 [vR b0, l1, l2, l3] [vR b0] σ Q := wp_aload rfl rfl
theorem r_M_goes_53 : Wp L d k_M_goes 53 [l0, l1, l2, vI a3] [vR c0] σ Q ↔ Wp L d k_M_goes 54 [l0, l1, l2, vI a3] [vI a3, vR c0] σ Q := wp_iload rfl rfl
theorem r_M_goes_57 : Wp L d k_M_goes 57 [l0, l1, l2, l3] [vI s0] σ Q ↔ (if s0 ≠ 0 then Wp L d k_M_goes 100 [l0, l1, l2, l3] [] σ Q else Wp L d k_M_goes 60 [l0, l1, l2, l3] [] σ Q) := wp_if_ne rfl
theorem r_M_goes_60 : Wp L d k_M_goes 60 [vR b0, l1, l2, l3] [] σ Q ↔ Wp L d k_M_goes 61 [vR b0, l1, l2, l3] [vR b0] σ Q := wp_aload rfl rfl
theorem r_M_goes_61 (h : gK c0 = 12) : Wp L d k_M_goes 61 [l0, l1, l2, l3] [vR c0] σ Q ↔ Wp L d k_M_goes 64 [l0, l1, l2, l3] [vR (gq c0 0)] σ Q := wp_getR (c := 3200) rfl rfl rfl rfl rfl h
theorem r_M_goes_64 : Wp L d k_M_goes 64 [vR b0, l1, l2, l3] [vR c0] σ Q ↔ Wp L d k_M_goes 65 [vR b0, l1, l2, l3] [vR b0, vR c0] σ Q := wp_aload rfl rfl
theorem r_M_goes_65 : Wp L d k_M_goes 65 [l0, l1, l2, vI a3] [vR c1, vR c0] σ Q ↔ Wp L d k_M_goes 66 [l0, l1, l2, vI a3] [vI a3, vR c1, vR c0] σ Q := wp_iload rfl rfl
theorem r_M_goes_69 : Wp L d k_M_goes 69 [l0, l1, l2, l3] [vI s1, vR c0] σ Q ↔ Wp L d k_M_goes 70 [l0, l1, l2, l3] [vI 2, vI s1, vR c0] σ Q := wp_push rfl
theorem r_M_goes_70 : Wp L d k_M_goes 70 [l0, l1, l2, l3] [vI s2, vI s1, vR c0] σ Q ↔ Wp L d k_M_goes 71 [l0, l1, l2, l3] [vI (w32 (s1 + s2)), vR c0] σ Q := wp_iadd rfl
theorem r_M_goes_71 : Wp L d k_M_goes 71 [l0, l1, l2, l3] [vI s1, vR c0] σ Q ↔ Wp L d k_M_goes 72 [l0, l1, l2, l3] [vI 1, vI s1, vR c0] σ Q := wp_push rfl
theorem r_M_goes_72 (h : gK c0 = 100) (hx : 0 ≤ s1 ∧ s1 < gN c0) : Wp L d k_M_goes 72 [l0, l1, l2, l3] [vI s2, vI s1, vR c0] σ Q ↔ Wp L d k_M_goes 73 [l0, l1, l2, l3] [] (gupd σ c0 s1.toNat s2) Q := wp_iast rfl h hx
theorem r_M_goes_73 : Wp L d k_M_goes 73 [vR b0, l1, l2, l3] [] σ Q ↔ Wp L d k_M_goes 74 [vR b0, l1, l2, l3] [vR b0] σ Q := wp_aload rfl rfl
theorem r_M_goes_74 (h : gK c0 = 12) : Wp L d k_M_goes 74 [l0, l1, l2, l3] [vR c0] σ Q ↔ Wp L d k_M_goes 77 [l0, l1, l2, l3] [vR (gq c0 0)] σ Q := wp_getR (c := 3200) rfl rfl rfl rfl rfl h
theorem r_M_goes_77 : Wp L d k_M_goes 77 [l0, l1, l2, l3] [vR c0] σ Q ↔ Wp L d k_M_goes 79 [l0, l1, l2, l3] [vI 11, vR c0] σ Q := wp_push rfl
theorem r_M_goes_79 (h : gK c0 = 100) (hx : 0 ≤ s1 ∧ s1 < gN c0) : Wp L d k_M_goes 79 [l0, l1, l2, l3] [vI s1, vR c0] σ Q ↔ Wp L d k_M_goes 80 [l0, l1, l2, l3] [vI (σ c0 s1.toNat)] σ Q := wp_iald rfl h hx
theorem r_M_goes_80 : Wp L d k_M_goes 80 [l0, l1, l2, vI a3] [vI s0] σ Q ↔ Wp L d k_M_goes 81 [l0, l1, l2, vI a3] [vI a3, vI s0] σ Q := wp_iload rfl rfl
theorem r_M_goes_81 : Wp L d k_M_goes 81 [l0, l1, l2, l3] [vI s1, vI s0] σ Q ↔ (if s0 ≠ s1 then Wp L d k_M_goes 100 [l0, l1, l2, l3] [] σ Q else Wp L d k_M_goes 84 [l0, l1, l2, l3] [] σ Q) := wp_cmp_ne rfl
theorem r_M_goes_84 : Wp L d k_M_goes 84 [vR b0, l1, l2, l3] [] σ Q ↔ Wp L d k_M_goes 85 [vR b0, l1, l2, l3] [vR b0] σ Q := wp_aload rfl rfl
theorem r_M_goes_85 (h : gK c0 = 12) : Wp L d k_M_goes 85 [l0, l1, l2, l3] [vR c0] σ Q ↔ Wp L d k_M_goes 88 [l0, l1, l2, l3] [vR (gq c0 0)] σ Q := wp_getR (c := 3200) rfl rfl rfl rfl rfl h
theorem r_M_goes_88 : Wp L d k_M_goes 88 [l0, l1, l2, l3] [vR c0] σ Q ↔ Wp L d k_M_goes 90 [l0, l1, l2, l3] [vI 11, vR c0] σ Q := wp_push rfl
theorem r_M_goes_90 : Wp L d k_M_goes 90 [l0, l1, l2, l3] [vI s1, vR c0] σ Q ↔ Wp L d k_M_goes 91 [l0, l1, l2, l3] [vI (-1), vI s1, vR c0] σ Q := wp_push rfl
theorem r_M_goes_91 (h : gK c0 = 100) (hx : 0 ≤ s1 ∧ s1 < gN c0) : Wp L d k_M_goes 91 [l0, l1, l2, l3] [vI s2, vI s1, vR c0] σ Q ↔ Wp L d k_M_goes 92 [l0, l1, l2, l3] [] (gupd σ c0 s1.toNat s2) Q := wp_iast rfl h hx
theorem r_M_goes_92 : Wp L d k_M_goes 92 [vR b0, l1, l2, l3] [] σ Q ↔ Wp L d k_M_goes 93 [vR b0, l1, l2, l3] [vR b0] σ Q := wp_aload rfl rfl
theorem r_M_goes_93 (h : gK c0 = 12) : Wp L d k_M_goes 93 [l0, l1, l2, l3] [vR c0] σ Q ↔ Wp L d k_M_goes 96 [l0, l1, l2, l3] [vR (gq c0 0)] σ Q := wp_getR (c := 3200) rfl rfl rfl rfl rfl h
theorem r_M_goes_96 : Wp L d k_M_goes 96 [l0, l1, l2, l3] [vR c0] σ Q ↔ Wp L d k_M_goes 98 [l0, l1, l2, l3] [vI 12, vR c0] σ Q := wp_push rfl
theorem r_M_goes_98 : Wp L d k_M_goes 98 [l0, l1, l2, l3] [vI s1, vR c0] σ Q ↔ Wp L d k_M_goes 99 [l0, l1, l2, l3] [vI 1, vI s1, vR c0] σ Q := wp_push rfl
theorem r_M_goes_99 (h : gK c0 = 100) (hx : 0 ≤ s1 ∧ s1 < gN c0) : Wp L d k_M_goes 99 [l0, l1, l2, l3] [vI s2, vI s1, vR c0] σ Q ↔ Wp L d k_M_goes 100 [l0, l1, l2, l3] [] (gupd σ c0 s1.toNat s2) Q := wp_iast rfl h hx
theorem r_M_goes_100 : Wp L d k_M_goes 100 [l0, l1, vI a2, vI a3] [] σ Q ↔ Wp L d k_M_goes 103 [l0, l1, vI a2, vI (w32 (a3 + 1))] [] σ Q := wp_iinc (i := 3) (ls := [l0, l1, vI a2, vI a3]) rfl rfl
theorem r_M_goes_103 : Wp L d k_M_goes 103 [l0, l1, l2, l3] [] σ Q ↔ Wp L d k_M_goes 31 [l0, l1, l2, l3] [] σ Q := wp_goto rfl
theorem r_M_goes_106 : Wp L d k_M_goes 106 [l0, l1, l2, l3] [] σ Q ↔ Q none σ := wp_vret rfl
theorem r_M_goes_6 : Wp L (d + 3) k_M_goes 6 [l0, l1, l2, l3] [vI s2, vR 293, vR c0] σ Q ↔ Wp L (d + 3) k_M_goes 9 [l0, l1, l2, l3] [vI (w32 (120 + w32 (12 * s2))), vR c0] σ Q := wp_callR (d := d + 2) (as := [vR 293, vI s2]) (rest := [vR c0]) rfl rfl rfl rfl rfl rfl rfl (grecv_k (by rw [gK_293]) rfl) (sp_M_partAt)
theorem r_M_goes_19 : Wp L (d + 3) k_M_goes 19 [l0, l1, l2, l3] [vI s2, vR 293, vR c0] σ Q ↔ Wp L (d + 3) k_M_goes 22 [l0, l1, l2, l3] [vI (w32 (120 + w32 (12 * s2))), vR c0] σ Q := wp_callR (d := d + 2) (as := [vR 293, vI s2]) (rest := [vR c0]) rfl rfl rfl rfl rfl rfl rfl (grecv_k (by rw [gK_293]) rfl) (sp_M_partAt)
theorem r_M_goes_38 (hw : WB (σ 294)) : Wp L (d + 3) k_M_goes 38 [l0, l1, l2, l3] [vI s1, vR 293] σ Q ↔ Wp L (d + 3) k_M_goes 41 [l0, l1, l2, l3] [vI (brsh (σ 294) s1 (σ 294 1).toNat)] σ Q := wp_callR (d := d + 2) (as := [vR 293, vI s1]) (rest := []) rfl rfl rfl rfl rfl rfl rfl (grecv_k (by rw [gK_293]) rfl) (sp_M_sharesAt hw)
theorem r_M_goes_46 : Wp L (d + 3) k_M_goes 46 [l0, l1, l2, l3] [vI s1, vR 293] σ Q ↔ Wp L (d + 3) k_M_goes 49 [l0, l1, l2, l3] [vI (gb (0 ≤ s1 ∧ s1 ≤ w32 (σ 294 0 - 1)))] σ Q := wp_callR (d := d + 2) (as := [vR 293, vI s1]) (rest := []) rfl rfl rfl rfl rfl rfl rfl (grecv_k (by rw [gK_293]) rfl) (sp_M_isSpan)
theorem r_M_goes_54 (h : 0 ≤ s1 ∧ s1 ≤ 12) : Wp L (d + 3) k_M_goes 54 [l0, l1, l2, l3] [vI s1, vR 293] σ Q ↔ Wp L (d + 3) k_M_goes 57 [l0, l1, l2, l3] [vI (gb (σ 294 (20 + 3 * s1.toNat + 2) = 1))] σ Q := wp_callR (d := d + 2) (as := [vR 293, vI s1]) (rest := []) rfl rfl rfl rfl rfl rfl rfl (grecv_k (by rw [gK_293]) rfl) (sp_M_isDown0 h)
theorem r_M_goes_66 : Wp L (d + 3) k_M_goes 66 [l0, l1, l2, l3] [vI s2, vR 293, vR c0] σ Q ↔ Wp L (d + 3) k_M_goes 69 [l0, l1, l2, l3] [vI (w32 (20 + w32 (3 * s2))), vR c0] σ Q := wp_callR (d := d + 2) (as := [vR 293, vI s2]) (rest := [vR c0]) rfl rfl rfl rfl rfl rfl rfl (grecv_k (by rw [gK_293]) rfl) (sp_M_spanAt)
theorem sp_M_goes (hw : WB (σ 294)) (h : 0 ≤ a1 ∧ a1 < σ 294 1) : Run L (d + 3) 231 [vR 293, vI a1] σ none (gsr σ 294 (brgo (σ 294) a1.toNat)) := by
  refine Run_of (C' := k_M_goes) rfl ?_
  show Wp L (d + 3) k_M_goes 0 [vR 293, vI a1, vU, vU] [] σ _
  obtain ⟨K293, Q293, K294, N294⟩ := litM
  have w1 := hw.1
  have w2 := hw.2.1
  have w := WBp hw (p := a1.toNat) (by omega)

  obtain ⟨hw1, hs1⟩ := brgo_st hw a1.toNat (by omega)
  have e01 := SB01 hs1
  unfold brgo
  simp (disch := first | assumption | exact gb_01 _ | omega) only [r_M_goes_0, r_M_goes_1, r_M_goes_4, r_M_goes_5, r_M_goes_6, r_M_goes_9, r_M_goes_10, r_M_goes_11, r_M_goes_12, r_M_goes_13, r_M_goes_14, r_M_goes_17, r_M_goes_18, r_M_goes_19, r_M_goes_22, r_M_goes_24, r_M_goes_25, r_M_goes_26, r_M_goes_27, r_M_goes_28, r_M_goes_29, r_M_goes_30, r_M_goes_32, r_M_goes_33, r_M_goes_36, r_M_goes_37, r_M_goes_38, r_M_goes_41, r_M_goes_44, r_M_goes_45, r_M_goes_46, r_M_goes_49, r_M_goes_52, r_M_goes_53, r_M_goes_54, r_M_goes_57, r_M_goes_60, r_M_goes_61, r_M_goes_64, r_M_goes_65, r_M_goes_66, r_M_goes_69, r_M_goes_70, r_M_goes_71, r_M_goes_72, r_M_goes_73, r_M_goes_74, r_M_goes_77, r_M_goes_79, r_M_goes_80, r_M_goes_81, r_M_goes_84, r_M_goes_85, r_M_goes_88, r_M_goes_90, r_M_goes_91, r_M_goes_92, r_M_goes_93, r_M_goes_96, r_M_goes_98, r_M_goes_99, r_M_goes_100, r_M_goes_103, r_M_goes_106, Q293, w32_gb, w32i, tn_add, tn_mul, Int.toNat_natCast, Int.toNat_zero, Int.reduceLE, Int.reduceLT, Int.reduceEq, Int.reduceNe, gb_T, gb_F, Int.reduceToNat, eq_self, true_or, or_true, and_true, true_and, and_self, ↓ite_gb0, ↓ite_gbn, ↓if_pos, ↓if_neg, if_true, if_false, not_true_eq_false, not_false_eq_true, gb_ne0, gb_eq0]
  by_cases eb : brsh (fu (σ 294) (120 + 12 * a1.toNat + 8) 0) (σ 294 (120 + 12 * a1.toNat + 1)) (σ 294 1).toNat = 0
  · rw [if_pos eb]
    refine wl 2 (fun k => [vR 293, vI a1, vI (σ 294 (120 + 12 * a1.toNat + 1)), vI (σ 294 (120 + 12 * a1.toNat + 1) - 1 + (k : Nat))]) (fun k => gsr σ 294 (git (fun i h => brdr h (σ 294 (120 + 12 * a1.toNat + 1) - 1 + (i : Nat))) k (fu (σ 294) (120 + 12 * a1.toNat + 8) 0))) (by simp only [List.cons.injEq, vI_inj, vR_inj, and_true, true_and]; omega) gupd_sr (fun k hk hq => ?_) ?_
    · obtain ⟨⟨hw2, hs2⟩, hfar⟩ := brgo_it (r := σ 294 (120 + 12 * a1.toNat + 1) - 1) hw1 hs1 k
      have e02 := SB01 hs2
      have hbb : brsh (git (fun i h => brdr h (σ 294 (120 + 12 * a1.toNat + 1) - 1 + (i : Nat))) k (fu (σ 294) (120 + 12 * a1.toNat + 8) 0)) (σ 294 (120 + 12 * a1.toNat + 1)) (σ 294 1).toNat = 0 := by rw [brsh_congr hfar]; exact eb
      have hn1 : git (fun i h => brdr h (σ 294 (120 + 12 * a1.toNat + 1) - 1 + (i : Nat))) (k + 1) (fu (σ 294) (120 + 12 * a1.toNat + 8) 0) = brdr (git (fun i h => brdr h (σ 294 (120 + 12 * a1.toNat + 1) - 1 + (i : Nat))) k (fu (σ 294) (120 + 12 * a1.toNat + 8) 0)) (σ 294 (120 + 12 * a1.toNat + 1) - 1 + (k : Nat)) := rfl
      rw [hn1] at hq
      have hw3 : WB (gsr σ 294 (git (fun i h => brdr h (σ 294 (120 + 12 * a1.toNat + 1) - 1 + (i : Nat))) k (fu (σ 294) (120 + 12 * a1.toNat + 8) 0)) 294) := by rw [gsr_eq]; exact hw2
      rw [r_M_goes_31]
      generalize (git (fun i h => brdr h (σ 294 (120 + 12 * a1.toNat + 1) - 1 + (i : Nat))) k (fu (σ 294) (120 + 12 * a1.toNat + 8) 0)) = g at *
      unfold brdr at hq
      by_cases c1 : 0 ≤ σ 294 (120 + 12 * a1.toNat + 1) - 1 + (k : Int) ∧ σ 294 (120 + 12 * a1.toNat + 1) - 1 + (k : Int) ≤ σ 294 0 - 1
      · by_cases c2 : g (20 + 3 * (σ 294 (120 + 12 * a1.toNat + 1) - 1 + (k : Int)).toNat + 2) = 1
        · rw [if_neg (fun x => x.2 c2)] at hq
          simp (disch := first | assumption | exact gb_01 _ | omega) only [r_M_goes_0, r_M_goes_1, r_M_goes_4, r_M_goes_5, r_M_goes_6, r_M_goes_9, r_M_goes_10, r_M_goes_11, r_M_goes_12, r_M_goes_13, r_M_goes_14, r_M_goes_17, r_M_goes_18, r_M_goes_19, r_M_goes_22, r_M_goes_24, r_M_goes_25, r_M_goes_26, r_M_goes_27, r_M_goes_28, r_M_goes_29, r_M_goes_30, r_M_goes_32, r_M_goes_33, r_M_goes_36, r_M_goes_37, r_M_goes_38, r_M_goes_41, r_M_goes_44, r_M_goes_45, r_M_goes_46, r_M_goes_49, r_M_goes_52, r_M_goes_53, r_M_goes_54, r_M_goes_57, r_M_goes_60, r_M_goes_61, r_M_goes_64, r_M_goes_65, r_M_goes_66, r_M_goes_69, r_M_goes_70, r_M_goes_71, r_M_goes_72, r_M_goes_73, r_M_goes_74, r_M_goes_77, r_M_goes_79, r_M_goes_80, r_M_goes_81, r_M_goes_84, r_M_goes_85, r_M_goes_88, r_M_goes_90, r_M_goes_91, r_M_goes_92, r_M_goes_93, r_M_goes_96, r_M_goes_98, r_M_goes_99, r_M_goes_100, r_M_goes_103, r_M_goes_106, Q293, gsr_eq, gsr_upd, e02, hbb, fu_ne, w32_gb, w32i, tn_add, tn_mul, Int.toNat_natCast, Int.toNat_zero, Int.reduceLE, Int.reduceLT, Int.reduceEq, Int.reduceNe, gb_T, gb_F, Int.reduceToNat, eq_self, true_or, or_true, and_true, true_and, and_self, ↓ite_gb0, ↓ite_gbn, ↓if_pos, ↓if_neg, if_true, if_false, not_true_eq_false, not_false_eq_true, gb_ne0, gb_eq0]
          exact hq _ _ (by simp only [List.cons.injEq, vI_inj, vR_inj, and_true, true_and]; omega) rfl
        · rw [if_pos ⟨by omega, c2⟩] at hq
          by_cases c3 : g 11 = σ 294 (120 + 12 * a1.toNat + 1) - 1 + (k : Int)
          · rw [if_pos c3] at hq
            simp (disch := first | assumption | exact gb_01 _ | omega) only [r_M_goes_0, r_M_goes_1, r_M_goes_4, r_M_goes_5, r_M_goes_6, r_M_goes_9, r_M_goes_10, r_M_goes_11, r_M_goes_12, r_M_goes_13, r_M_goes_14, r_M_goes_17, r_M_goes_18, r_M_goes_19, r_M_goes_22, r_M_goes_24, r_M_goes_25, r_M_goes_26, r_M_goes_27, r_M_goes_28, r_M_goes_29, r_M_goes_30, r_M_goes_32, r_M_goes_33, r_M_goes_36, r_M_goes_37, r_M_goes_38, r_M_goes_41, r_M_goes_44, r_M_goes_45, r_M_goes_46, r_M_goes_49, r_M_goes_52, r_M_goes_53, r_M_goes_54, r_M_goes_57, r_M_goes_60, r_M_goes_61, r_M_goes_64, r_M_goes_65, r_M_goes_66, r_M_goes_69, r_M_goes_70, r_M_goes_71, r_M_goes_72, r_M_goes_73, r_M_goes_74, r_M_goes_77, r_M_goes_79, r_M_goes_80, r_M_goes_81, r_M_goes_84, r_M_goes_85, r_M_goes_88, r_M_goes_90, r_M_goes_91, r_M_goes_92, r_M_goes_93, r_M_goes_96, r_M_goes_98, r_M_goes_99, r_M_goes_100, r_M_goes_103, r_M_goes_106, Q293, gsr_eq, gsr_upd, e02, hbb, fu_ne, w32_gb, w32i, tn_add, tn_mul, Int.toNat_natCast, Int.toNat_zero, Int.reduceLE, Int.reduceLT, Int.reduceEq, Int.reduceNe, gb_T, gb_F, Int.reduceToNat, eq_self, true_or, or_true, and_true, true_and, and_self, ↓ite_gb0, ↓ite_gbn, ↓if_pos, ↓if_neg, if_true, if_false, not_true_eq_false, not_false_eq_true, gb_ne0, gb_eq0]
            exact hq _ _ (by simp only [List.cons.injEq, vI_inj, vR_inj, and_true, true_and]; omega) rfl
          · rw [if_neg c3] at hq
            simp (disch := first | assumption | exact gb_01 _ | omega) only [r_M_goes_0, r_M_goes_1, r_M_goes_4, r_M_goes_5, r_M_goes_6, r_M_goes_9, r_M_goes_10, r_M_goes_11, r_M_goes_12, r_M_goes_13, r_M_goes_14, r_M_goes_17, r_M_goes_18, r_M_goes_19, r_M_goes_22, r_M_goes_24, r_M_goes_25, r_M_goes_26, r_M_goes_27, r_M_goes_28, r_M_goes_29, r_M_goes_30, r_M_goes_32, r_M_goes_33, r_M_goes_36, r_M_goes_37, r_M_goes_38, r_M_goes_41, r_M_goes_44, r_M_goes_45, r_M_goes_46, r_M_goes_49, r_M_goes_52, r_M_goes_53, r_M_goes_54, r_M_goes_57, r_M_goes_60, r_M_goes_61, r_M_goes_64, r_M_goes_65, r_M_goes_66, r_M_goes_69, r_M_goes_70, r_M_goes_71, r_M_goes_72, r_M_goes_73, r_M_goes_74, r_M_goes_77, r_M_goes_79, r_M_goes_80, r_M_goes_81, r_M_goes_84, r_M_goes_85, r_M_goes_88, r_M_goes_90, r_M_goes_91, r_M_goes_92, r_M_goes_93, r_M_goes_96, r_M_goes_98, r_M_goes_99, r_M_goes_100, r_M_goes_103, r_M_goes_106, Q293, gsr_eq, gsr_upd, e02, hbb, fu_ne, w32_gb, w32i, tn_add, tn_mul, Int.toNat_natCast, Int.toNat_zero, Int.reduceLE, Int.reduceLT, Int.reduceEq, Int.reduceNe, gb_T, gb_F, Int.reduceToNat, eq_self, true_or, or_true, and_true, true_and, and_self, ↓ite_gb0, ↓ite_gbn, ↓if_pos, ↓if_neg, if_true, if_false, not_true_eq_false, not_false_eq_true, gb_ne0, gb_eq0]
            exact hq _ _ (by simp only [List.cons.injEq, vI_inj, vR_inj, and_true, true_and]; omega) rfl
      · rw [if_neg (fun x => c1 (by omega))] at hq
        simp (disch := first | assumption | exact gb_01 _ | omega) only [r_M_goes_0, r_M_goes_1, r_M_goes_4, r_M_goes_5, r_M_goes_6, r_M_goes_9, r_M_goes_10, r_M_goes_11, r_M_goes_12, r_M_goes_13, r_M_goes_14, r_M_goes_17, r_M_goes_18, r_M_goes_19, r_M_goes_22, r_M_goes_24, r_M_goes_25, r_M_goes_26, r_M_goes_27, r_M_goes_28, r_M_goes_29, r_M_goes_30, r_M_goes_32, r_M_goes_33, r_M_goes_36, r_M_goes_37, r_M_goes_38, r_M_goes_41, r_M_goes_44, r_M_goes_45, r_M_goes_46, r_M_goes_49, r_M_goes_52, r_M_goes_53, r_M_goes_54, r_M_goes_57, r_M_goes_60, r_M_goes_61, r_M_goes_64, r_M_goes_65, r_M_goes_66, r_M_goes_69, r_M_goes_70, r_M_goes_71, r_M_goes_72, r_M_goes_73, r_M_goes_74, r_M_goes_77, r_M_goes_79, r_M_goes_80, r_M_goes_81, r_M_goes_84, r_M_goes_85, r_M_goes_88, r_M_goes_90, r_M_goes_91, r_M_goes_92, r_M_goes_93, r_M_goes_96, r_M_goes_98, r_M_goes_99, r_M_goes_100, r_M_goes_103, r_M_goes_106, Q293, gsr_eq, gsr_upd, e02, hbb, fu_ne, w32_gb, w32i, tn_add, tn_mul, Int.toNat_natCast, Int.toNat_zero, Int.reduceLE, Int.reduceLT, Int.reduceEq, Int.reduceNe, gb_T, gb_F, Int.reduceToNat, eq_self, true_or, or_true, and_true, true_and, and_self, ↓ite_gb0, ↓ite_gbn, ↓if_pos, ↓if_neg, if_true, if_false, not_true_eq_false, not_false_eq_true, gb_ne0, gb_eq0]
        exact hq _ _ (by simp only [List.cons.injEq, vI_inj, vR_inj, and_true, true_and]; omega) rfl
    · rw [r_M_goes_31]
      simp (disch := first | assumption | exact gb_01 _ | omega) only [r_M_goes_0, r_M_goes_1, r_M_goes_4, r_M_goes_5, r_M_goes_6, r_M_goes_9, r_M_goes_10, r_M_goes_11, r_M_goes_12, r_M_goes_13, r_M_goes_14, r_M_goes_17, r_M_goes_18, r_M_goes_19, r_M_goes_22, r_M_goes_24, r_M_goes_25, r_M_goes_26, r_M_goes_27, r_M_goes_28, r_M_goes_29, r_M_goes_30, r_M_goes_32, r_M_goes_33, r_M_goes_36, r_M_goes_37, r_M_goes_38, r_M_goes_41, r_M_goes_44, r_M_goes_45, r_M_goes_46, r_M_goes_49, r_M_goes_52, r_M_goes_53, r_M_goes_54, r_M_goes_57, r_M_goes_60, r_M_goes_61, r_M_goes_64, r_M_goes_65, r_M_goes_66, r_M_goes_69, r_M_goes_70, r_M_goes_71, r_M_goes_72, r_M_goes_73, r_M_goes_74, r_M_goes_77, r_M_goes_79, r_M_goes_80, r_M_goes_81, r_M_goes_84, r_M_goes_85, r_M_goes_88, r_M_goes_90, r_M_goes_91, r_M_goes_92, r_M_goes_93, r_M_goes_96, r_M_goes_98, r_M_goes_99, r_M_goes_100, r_M_goes_103, r_M_goes_106, Q293, gsr_eq, w32_gb, w32i, tn_add, tn_mul, Int.toNat_natCast, Int.toNat_zero, Int.reduceLE, Int.reduceLT, Int.reduceEq, Int.reduceNe, gb_T, gb_F, Int.reduceToNat, eq_self, true_or, or_true, and_true, true_and, and_self, ↓ite_gb0, ↓ite_gbn, ↓if_pos, ↓if_neg, if_true, if_false, not_true_eq_false, not_false_eq_true, gb_ne0, gb_eq0]
  · rw [if_neg eb]
    have hw3 : WB (gupd σ 294 (120 + 12 * a1.toNat + 8) 0 294) := by rw [gupd_fu]; exact hw1
    rw [r_M_goes_31]
    simp (disch := first | assumption | exact gb_01 _ | omega) only [r_M_goes_0, r_M_goes_1, r_M_goes_4, r_M_goes_5, r_M_goes_6, r_M_goes_9, r_M_goes_10, r_M_goes_11, r_M_goes_12, r_M_goes_13, r_M_goes_14, r_M_goes_17, r_M_goes_18, r_M_goes_19, r_M_goes_22, r_M_goes_24, r_M_goes_25, r_M_goes_26, r_M_goes_27, r_M_goes_28, r_M_goes_29, r_M_goes_30, r_M_goes_32, r_M_goes_33, r_M_goes_36, r_M_goes_37, r_M_goes_38, r_M_goes_41, r_M_goes_44, r_M_goes_45, r_M_goes_46, r_M_goes_49, r_M_goes_52, r_M_goes_53, r_M_goes_54, r_M_goes_57, r_M_goes_60, r_M_goes_61, r_M_goes_64, r_M_goes_65, r_M_goes_66, r_M_goes_69, r_M_goes_70, r_M_goes_71, r_M_goes_72, r_M_goes_73, r_M_goes_74, r_M_goes_77, r_M_goes_79, r_M_goes_80, r_M_goes_81, r_M_goes_84, r_M_goes_85, r_M_goes_88, r_M_goes_90, r_M_goes_91, r_M_goes_92, r_M_goes_93, r_M_goes_96, r_M_goes_98, r_M_goes_99, r_M_goes_100, r_M_goes_103, r_M_goes_106, Q293, gupd_fu, e01, eb, w32_gb, w32i, tn_add, tn_mul, Int.toNat_natCast, Int.toNat_zero, Int.reduceLE, Int.reduceLT, Int.reduceEq, Int.reduceNe, gb_T, gb_F, Int.reduceToNat, eq_self, true_or, or_true, and_true, true_and, and_self, ↓ite_gb0, ↓ite_gbn, ↓if_pos, ↓if_neg, if_true, if_false, not_true_eq_false, not_false_eq_true, gb_ne0, gb_eq0]
    exact gupd_sr
