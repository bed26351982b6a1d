/-! safe. -/
variable {L d : Nat} {σ σ1 : Nat → Nat → Int} {Q : Option gV → (Nat → Nat → Int) → Prop} {a0 a1 a2 a3 a4 a5 a6 a7 a8 a9 a10 a11 s0 s1 s2 s3 s4 s5 s6 s7 s8 s9 : Int} {l0 l1 l2 l3 l4 l5 l6 l7 l8 l9 l10 l11 t0 t1 t2 t3 t4 t5 t6 t7 t8 t9 : gV} {b0 b1 b2 b3 b4 b5 b6 b7 b8 b9 b10 b11 c0 c1 c2 c3 c4 c5 c6 c7 c8 c9 : Nat} {r : Option gV}
/-- the greatest gust at which part p, with slack s, is not over -/
def brlim (f : Nat → Int) (p : Nat) (s : Int) : Int := if f (120 + 12 * p + 8) = 1 ∧ ¬ brS f (f (120 + 12 * p + 1)).toNat = 0 then min 99 (((brbe (f (120 + 12 * p)) (f (120 + 12 * p + 2)) (f (120 + 12 * p + 4)) s * brsh f (f (120 + 12 * p + 1)) (f 1).toNat).tdiv (10000 * f (120 + 12 * p + 3)) + 10 * brW f (f (120 + 12 * p + 1)).toNat).tdiv (brS f (f (120 + 12 * p + 1)).toNat)) else 99
def brms (g : Nat → Int) : Nat → Int
  | 0 => 99
  | k + 1 => min (brms g k) (g k)
theorem brms_le {g : Nat → Int} {w : Int} : ∀ n, w ≤ brms g n ↔ w ≤ 99 ∧ ∀ k, k < n → w ≤ g k
  | 0 => ⟨fun h => ⟨h, fun k hk => by omega⟩, fun h => h.1⟩
  | n + 1 => by
    have ih := brms_le (g := g) (w := w) n
    unfold brms
    constructor
    · intro h
      have h1 := ih.1 (by omega)
      refine ⟨h1.1, fun k hk => ?_⟩
      by_cases e : k = n
      · rw [e]; omega
      · exact h1.2 k (by omega)
    · intro h
      have h1 := ih.2 ⟨h.1, fun k hk => h.2 k (by omega)⟩
      have h2 := h.2 n (by omega)
      omega
theorem brms_bd {g : Nat → Int} (n : Nat) (h : ∀ k, k < n → 0 ≤ g k) : 0 ≤ brms g n ∧ brms g n ≤ 99 :=
  ⟨(brms_le n).2 ⟨by omega, h⟩, ((brms_le n).1 (Int.le_refl _)).1⟩
theorem brlim_bd {f : Nat → Int} (hw : WB f) {p : Nat} (hp : (p : Int) < f 1) {s : Int} (hs : 0 ≤ s ∧ s ≤ 99) : 0 ≤ brlim f p s ∧ brlim f p s ≤ 99 := by
  have w := WBp hw hp
  have w2 := hw.2.1
  have a := brS_bd hw (f (120 + 12 * p + 1)).toNat
  have b := brbe_bd (k := f (120 + 12 * p)) w.2.2.1 w.2.2.2.2.1 hs
  have c := brsh_bd hw (f (120 + 12 * p + 1)) (f 1).toNat (by omega)
  have m := mul_bd (a := brbe (f (120 + 12 * p)) (f (120 + 12 * p + 2)) (f (120 + 12 * p + 4)) s) (A := 9990000) (by omega) c
  have q := tdiv_bd2 (b := 10000 * f (120 + 12 * p + 3)) m.1 (by omega)
  unfold brlim
  split
  · have r := tdiv_bd2 (a := (brbe (f (120 + 12 * p)) (f (120 + 12 * p + 2)) (f (120 + 12 * p + 4)) s * brsh f (f (120 + 12 * p + 1)) (f 1).toNat).tdiv (10000 * f (120 + 12 * p + 3)) + 10 * brW f (f (120 + 12 * p + 1)).toNat) (b := brS f (f (120 + 12 * p + 1)).toNat) (by omega) (by omega)
    omega
  · omega
/-- over, with slack s -/
abbrev brovs (f : Nat → Int) (w : Int) (p : Nat) (s : Int) : Prop := f (120 + 12 * p + 8) = 1 ∧ brbe (f (120 + 12 * p)) (f (120 + 12 * p + 2)) (f (120 + 12 * p + 4)) s * brsh f (f (120 + 12 * p + 1)) (f 1).toNat < brfo f w p * 10000
theorem brlim_iff {f : Nat → Int} (hw : WB f) {p : Nat} (hp : (p : Int) < f 1) {s w : Int} (hs : 0 ≤ s ∧ s ≤ 99) (h : 0 ≤ w ∧ w ≤ 99) : ¬ brovs f w p s ↔ w ≤ brlim f p s := by
  have x := WBp hw hp
  have w2 := hw.2.1
  have a := brS_bd hw (f (120 + 12 * p + 1)).toNat
  have b := brbe_bd (k := f (120 + 12 * p)) x.2.2.1 x.2.2.2.2.1 hs
  have c := brsh_bd hw (f (120 + 12 * p + 1)) (f 1).toNat (by omega)
  have m := mul_bd (a := brbe (f (120 + 12 * p)) (f (120 + 12 * p + 2)) (f (120 + 12 * p + 4)) s) (A := 9990000) (by omega) c
  unfold brovs brlim brfo brpull
  generalize brbe (f (120 + 12 * p)) (f (120 + 12 * p + 2)) (f (120 + 12 * p + 4)) s * brsh f (f (120 + 12 * p + 1)) (f 1).toNat = B at *
  generalize brS f (f (120 + 12 * p + 1)).toNat = S at *
  generalize brW f (f (120 + 12 * p + 1)).toNat = W at *
  have hh := x.2.2.2.1
  generalize f (120 + 12 * p + 3) = t at *
  by_cases e : f (120 + 12 * p + 8) = 1
  · by_cases e2 : S = 0
    · subst e2
      rw [if_neg (fun y => y.2 rfl)]
      refine ⟨fun _ => h.2, fun _ y => ?_⟩
      have y2 := y.2
      rw [Int.mul_zero, show max 0 (0 - 10 * W) = 0 by omega, Int.zero_mul] at y2
      omega
    · rw [if_pos ⟨e, e2⟩, Int.tdiv_eq_ediv_of_nonneg m.1]
      have q0 : 0 ≤ B / (10000 * t) := Int.ediv_nonneg m.1 (by omega)
      rw [Int.tdiv_eq_ediv_of_nonneg (by omega)]
      have k1 : max 0 (w * S - 10 * W) * t * 10000 = max 0 (w * S - 10 * W) * (10000 * t) := by
        rw [Int.mul_assoc, Int.mul_comm t 10000]
      have k2 : (max 0 (w * S - 10 * W) * (10000 * t) ≤ B) ↔ max 0 (w * S - 10 * W) ≤ B / (10000 * t) := (Int.le_ediv_iff_mul_le (by omega)).symm
      have k3 : w ≤ (B / (10000 * t) + 10 * W) / S ↔ w * S ≤ B / (10000 * t) + 10 * W := Int.le_ediv_iff_mul_le (by omega)
      rw [k1]
      constructor
      · intro y
        have y2 := k2.1 (Int.not_lt.1 (fun z => y ⟨e, z⟩))
        have y3 := k3.2 (by omega)
        omega
      · intro y z
        have y3 := k3.1 (by omega)
        have y2 := k2.2 (by omega)
        omega
  · rw [if_neg (fun y => e y.1)]
    exact ⟨fun _ => h.2, fun _ y => e y.1⟩
/-- safe -/
def brsf (f : Nat → Int) : Int := brms (fun p => brlim f p (f (120 + 12 * p + 5))) (f 1).toNat
theorem brsf_bd {f : Nat → Int} (hw : WB f) : 0 ≤ brsf f ∧ brsf f ≤ 99 := by
  have w2 := hw.2.1
  exact brms_bd _ (fun k hk => (brlim_bd hw (by omega) (WBp hw (p := k) (by omega)).2.2.2.2.2.1).1)
def brsb (f : Nat → Int) (w : Int) : Nat → Int
  | 0 => 1
  | k + 1 => if brsb f w k = 1 ∧ ¬ brov f w k then 1 else 0
theorem brsb_01 (f : Nat → Int) (w : Int) : ∀ k, brsb f w k = 0 ∨ brsb f w k = 1
  | 0 => Or.inr rfl
  | k + 1 => by
    unfold brsb
    split
    · exact Or.inr rfl
    · exact Or.inl rfl
theorem brsb_iff (f : Nat → Int) (w : Int) : ∀ n, brsb f w n = 1 ↔ ∀ k, k < n → ¬ brov f w k
  | 0 => ⟨fun _ k hk => by omega, fun _ => rfl⟩
  | n + 1 => by
    have ih := brsb_iff f w n
    unfold brsb
    constructor
    · intro h k hk
      split at h
      · next c =>
        by_cases e : k = n
        · rw [e]; exact c.2
        · exact ih.1 c.1 k (by omega)
      · omega
    · intro h
      rw [if_pos ⟨ih.2 (fun k hk => h k (by omega)), h n (by omega)⟩]
theorem brsb_sf {f : Nat → Int} (hw : WB f) {w : Int} (h : 0 ≤ w ∧ w ≤ 99) : brsb f w (f 1).toNat = 1 ↔ w ≤ brsf f := by
  have w2 := hw.2.1
  rw [brsb_iff]
  unfold brsf
  rw [brms_le]
  constructor
  · intro y
    refine ⟨h.2, fun k hk => (brlim_iff hw (by omega) (WBp hw (p := k) (by omega)).2.2.2.2.2.1 h).1 (y k hk)⟩
  · intro y k hk
    exact (brlim_iff hw (by omega) (WBp hw (p := k) (by omega)).2.2.2.2.2.1 h).2 (y.2 k hk)
theorem r_B_limitOf_0 : Wp L d k_B_limitOf 0 [l0, vR b1, l2, l3, l4, l5, l6, l7] [] σ Q ↔ Wp L d k_B_limitOf 1 [l0, vR b1, l2, l3, l4, l5, l6, l7] [vR b1] σ Q := wp_aload rfl rfl
theorem r_B_limitOf_1 (h : gK c0 = 4) : Wp L d k_B_limitOf 1 [l0, l1, l2, l3, l4, l5, l6, l7] [vR c0] σ Q ↔ Wp L d k_B_limitOf 4 [l0, l1, l2, l3, l4, l5, l6, l7] [vI (σ c0 1)] σ Q := wp_getI (c := 1025) rfl rfl rfl rfl h
theorem r_B_limitOf_4 : Wp L d k_B_limitOf 4 [l0, l1, vI a2, l3, l4, l5, l6, l7] [vI s0] σ Q ↔ Wp L d k_B_limitOf 5 [l0, l1, vI a2, vI s0, l4, l5, l6, l7] [] σ Q := wp_istore (i := 3) (ls := [l0, l1, vI a2, l3, l4, l5, l6, l7]) rfl rfl
theorem r_B_limitOf_5 : Wp L d k_B_limitOf 5 [l0, vR b1, l2, l3, l4, l5, l6, l7] [] σ Q ↔ Wp L d k_B_limitOf 6 [l0, vR b1, l2, l3, l4, l5, l6, l7] [vR b1] σ Q := wp_aload rfl rfl
theorem r_B_limitOf_6 (h : gK c0 = 4) : Wp L d k_B_limitOf 6 [l0, l1, l2, l3, l4, l5, l6, l7] [vR c0] σ Q ↔ Wp L d k_B_limitOf 9 [l0, l1, l2, l3, l4, l5, l6, l7] [vI (σ c0 10)] σ Q := wp_getI (c := 1098) rfl rfl rfl rfl h
theorem r_B_limitOf_9 : Wp L d k_B_limitOf 9 [l0, l1, l2, l3, l4, l5, l6, l7] [vI s0] σ Q ↔ (if s0 = 0 then Wp L d k_B_limitOf 28 [l0, l1, l2, l3, l4, l5, l6, l7] [] σ Q else Wp L d k_B_limitOf 12 [l0, l1, l2, l3, l4, l5, l6, l7] [] σ Q) := wp_if_eq rfl
theorem r_B_limitOf_12 : Wp L d k_B_limitOf 12 [l0, vR b1, l2, l3, l4, l5, l6, l7] [] σ Q ↔ Wp L d k_B_limitOf 13 [l0, vR b1, l2, l3, l4, l5, l6, l7] [vR b1] σ Q := wp_aload rfl rfl
theorem r_B_limitOf_13 (h : gK c0 = 4) : Wp L d k_B_limitOf 13 [l0, l1, l2, l3, l4, l5, l6, l7] [vR c0] σ Q ↔ Wp L d k_B_limitOf 16 [l0, l1, l2, l3, l4, l5, l6, l7] [vI (σ c0 3)] σ Q := wp_getI (c := 1027) rfl rfl rfl rfl h
theorem r_B_limitOf_16 : Wp L d k_B_limitOf 16 [l0, l1, l2, l3, l4, l5, l6, l7] [vI s0] σ Q ↔ (if s0 = 0 then Wp L d k_B_limitOf 28 [l0, l1, l2, l3, l4, l5, l6, l7] [] σ Q else Wp L d k_B_limitOf 19 [l0, l1, l2, l3, l4, l5, l6, l7] [] σ Q) := wp_if_eq rfl
theorem r_B_limitOf_19 : Wp L d k_B_limitOf 19 [vR b0, l1, l2, l3, l4, l5, l6, l7] [] σ Q ↔ Wp L d k_B_limitOf 20 [vR b0, l1, l2, l3, l4, l5, l6, l7] [vR b0] σ Q := wp_aload rfl rfl
theorem r_B_limitOf_20 (h : gK c0 = 1) : Wp L d k_B_limitOf 20 [l0, l1, l2, l3, l4, l5, l6, l7] [vR c0] σ Q ↔ Wp L d k_B_limitOf 23 [l0, l1, l2, l3, l4, l5, l6, l7] [vR (gq c0 4)] σ Q := wp_getR (c := 388) rfl rfl rfl rfl rfl h
theorem r_B_limitOf_23 : Wp L d k_B_limitOf 23 [l0, l1, l2, vI a3, l4, l5, l6, l7] [vR c0] σ Q ↔ Wp L d k_B_limitOf 24 [l0, l1, l2, vI a3, l4, l5, l6, l7] [vI a3, vR c0] σ Q := wp_iload rfl rfl
theorem r_B_limitOf_24 (h : gK c0 = 100) (hx : 0 ≤ s1 ∧ s1 < gN c0) : Wp L d k_B_limitOf 24 [l0, l1, l2, l3, l4, l5, l6, l7] [vI s1, vR c0] σ Q ↔ Wp L d k_B_limitOf 25 [l0, l1, l2, l3, l4, l5, l6, l7] [vI (σ c0 s1.toNat)] σ Q := wp_iald rfl h hx
theorem r_B_limitOf_25 : Wp L d k_B_limitOf 25 [l0, l1, l2, l3, l4, l5, l6, l7] [vI s0] σ Q ↔ (if s0 ≠ 0 then Wp L d k_B_limitOf 31 [l0, l1, l2, l3, l4, l5, l6, l7] [] σ Q else Wp L d k_B_limitOf 28 [l0, l1, l2, l3, l4, l5, l6, l7] [] σ Q) := wp_if_ne rfl
theorem r_B_limitOf_28 : Wp L d k_B_limitOf 28 [l0, l1, l2, l3, l4, l5, l6, l7] [] σ Q ↔ Wp L d k_B_limitOf 30 [l0, l1, l2, l3, l4, l5, l6, l7] [vI 99] σ Q := wp_push rfl
theorem r_B_limitOf_30 : Wp L d k_B_limitOf 30 [l0, l1, l2, l3, l4, l5, l6, l7] [vI s0] σ Q ↔ Q (some (vI s0)) σ := wp_iret rfl
theorem r_B_limitOf_31 : Wp L d k_B_limitOf 31 [l0, vR b1, l2, l3, l4, l5, l6, l7] [] σ Q ↔ Wp L d k_B_limitOf 32 [l0, vR b1, l2, l3, l4, l5, l6, l7] [vR b1] σ Q := wp_aload rfl rfl
theorem r_B_limitOf_32 : Wp L d k_B_limitOf 32 [l0, l1, vI a2, l3, l4, l5, l6, l7] [vR c0] σ Q ↔ Wp L d k_B_limitOf 33 [l0, l1, vI a2, l3, l4, l5, l6, l7] [vI a2, vR c0] σ Q := wp_iload rfl rfl
theorem r_B_limitOf_36 : Wp L d k_B_limitOf 36 [l0, l1, l2, l3, l4, l5, l6, l7] [vI s0] σ Q ↔ Wp L d k_B_limitOf 37 [l0, l1, l2, l3, l4, l5, l6, l7] [vL s0] σ Q := wp_i2l rfl
theorem r_B_limitOf_37 : Wp L d k_B_limitOf 37 [vR b0, l1, l2, l3, l4, l5, l6, l7] [vL s0] σ Q ↔ Wp L d k_B_limitOf 38 [vR b0, l1, l2, l3, l4, l5, l6, l7] [vR b0, vL s0] σ Q := wp_aload rfl rfl
theorem r_B_limitOf_38 (h : gK c1 = 1) : Wp L d k_B_limitOf 38 [l0, l1, l2, l3, l4, l5, l6, l7] [vR c1, vL s0] σ Q ↔ Wp L d k_B_limitOf 41 [l0, l1, l2, l3, l4, l5, l6, l7] [vR (gq c1 6), vL s0] σ Q := wp_getR (c := 390) rfl rfl rfl rfl rfl h
theorem r_B_limitOf_41 : Wp L d k_B_limitOf 41 [l0, l1, l2, vI a3, l4, l5, l6, l7] [vR c1, vL s0] σ Q ↔ Wp L d k_B_limitOf 42 [l0, l1, l2, vI a3, l4, l5, l6, l7] [vI a3, vR c1, vL s0] σ Q := wp_iload rfl rfl
theorem r_B_limitOf_42 (h : gK c1 = 100) (hx : 0 ≤ s2 ∧ s2 < gN c1) : Wp L d k_B_limitOf 42 [l0, l1, l2, l3, l4, l5, l6, l7] [vI s2, vR c1, vL s0] σ Q ↔ Wp L d k_B_limitOf 43 [l0, l1, l2, l3, l4, l5, l6, l7] [vI (σ c1 s2.toNat), vL s0] σ Q := wp_iald rfl h hx
theorem r_B_limitOf_43 : Wp L d k_B_limitOf 43 [l0, l1, l2, l3, l4, l5, l6, l7] [vI s1, vL s0] σ Q ↔ Wp L d k_B_limitOf 44 [l0, l1, l2, l3, l4, l5, l6, l7] [vL s1, vL s0] σ Q := wp_i2l rfl
theorem r_B_limitOf_44 : Wp L d k_B_limitOf 44 [l0, l1, l2, l3, l4, l5, l6, l7] [vL s1, vL s0] σ Q ↔ Wp L d k_B_limitOf 45 [l0, l1, l2, l3, l4, l5, l6, l7] [vL (w64 (s0 * s1))] σ Q := wp_lmul rfl
theorem r_B_limitOf_45 : Wp L d k_B_limitOf 45 [l0, l1, l2, l3, l4, l5, l6, l7] [vL s0] σ Q ↔ Wp L d k_B_limitOf 48 [l0, l1, l2, l3, l4, l5, l6, l7] [vL 10000, vL s0] σ Q := wp_pushL rfl
theorem r_B_limitOf_48 : Wp L d k_B_limitOf 48 [l0, vR b1, l2, l3, l4, l5, l6, l7] [vL s1, vL s0] σ Q ↔ Wp L d k_B_limitOf 49 [l0, vR b1, l2, l3, l4, l5, l6, l7] [vR b1, vL s1, vL s0] σ Q := wp_aload rfl rfl
theorem r_B_limitOf_49 (h : gK c2 = 4) : Wp L d k_B_limitOf 49 [l0, l1, l2, l3, l4, l5, l6, l7] [vR c2, vL s1, vL s0] σ Q ↔ Wp L d k_B_limitOf 52 [l0, l1, l2, l3, l4, l5, l6, l7] [vI (σ c2 3), vL s1, vL s0] σ Q := wp_getI (c := 1027) rfl rfl rfl rfl h
theorem r_B_limitOf_52 : Wp L d k_B_limitOf 52 [l0, l1, l2, l3, l4, l5, l6, l7] [vI s2, vL s1, vL s0] σ Q ↔ Wp L d k_B_limitOf 53 [l0, l1, l2, l3, l4, l5, l6, l7] [vL s2, vL s1, vL s0] σ Q := wp_i2l rfl
theorem r_B_limitOf_53 : Wp L d k_B_limitOf 53 [l0, l1, l2, l3, l4, l5, l6, l7] [vL s2, vL s1, vL s0] σ Q ↔ Wp L d k_B_limitOf 54 [l0, l1, l2, l3, l4, l5, l6, l7] [vL (w64 (s1 * s2)), vL s0] σ Q := wp_lmul rfl
theorem r_B_limitOf_54 (h : s1 ≠ 0) : Wp L d k_B_limitOf 54 [l0, l1, l2, l3, l4, l5, l6, l7] [vL s1, vL s0] σ Q ↔ Wp L d k_B_limitOf 55 [l0, l1, l2, l3, l4, l5, l6, l7] [vL (w64 (s0.tdiv s1))] σ Q := wp_ldiv rfl h
theorem r_B_limitOf_55 : Wp L d k_B_limitOf 55 [l0, l1, l2, vI a3, l4, l5, l6, l7] [vL s0] σ Q ↔ Wp L d k_B_limitOf 57 [l0, l1, l2, vI a3, vL s0, vU, l6, l7] [] σ Q := wp_lstore (i := 4) (ls := [l0, l1, l2, vI a3, l4, l5, l6, l7]) rfl rfl
theorem r_B_limitOf_57 : Wp L d k_B_limitOf 57 [l0, l1, l2, l3, vL a4, l5, l6, l7] [] σ Q ↔ Wp L d k_B_limitOf 59 [l0, l1, l2, l3, vL a4, l5, l6, l7] [vL a4] σ Q := wp_lload rfl rfl
theorem r_B_limitOf_59 : Wp L d k_B_limitOf 59 [l0, l1, l2, l3, l4, l5, l6, l7] [vL s0] σ Q ↔ Wp L d k_B_limitOf 61 [l0, l1, l2, l3, l4, l5, l6, l7] [vI 10, vL s0] σ Q := wp_push rfl
theorem r_B_limitOf_61 : Wp L d k_B_limitOf 61 [vR b0, l1, l2, l3, l4, l5, l6, l7] [vI s1, vL s0] σ Q ↔ Wp L d k_B_limitOf 62 [vR b0, l1, l2, l3, l4, l5, l6, l7] [vR b0, vI s1, vL s0] σ Q := wp_aload rfl rfl
theorem r_B_limitOf_62 (h : gK c2 = 1) : Wp L d k_B_limitOf 62 [l0, l1, l2, l3, l4, l5, l6, l7] [vR c2, vI s1, vL s0] σ Q ↔ Wp L d k_B_limitOf 65 [l0, l1, l2, l3, l4, l5, l6, l7] [vR (gq c2 5), vI s1, vL s0] σ Q := wp_getR (c := 389) rfl rfl rfl rfl rfl h
theorem r_B_limitOf_65 : Wp L d k_B_limitOf 65 [l0, l1, l2, vI a3, l4, l5, l6, l7] [vR c2, vI s1, vL s0] σ Q ↔ Wp L d k_B_limitOf 66 [l0, l1, l2, vI a3, l4, l5, l6, l7] [vI a3, vR c2, vI s1, vL s0] σ Q := wp_iload rfl rfl
theorem r_B_limitOf_66 (h : gK c2 = 100) (hx : 0 ≤ s3 ∧ s3 < gN c2) : Wp L d k_B_limitOf 66 [l0, l1, l2, l3, l4, l5, l6, l7] [vI s3, vR c2, vI s1, vL s0] σ Q ↔ Wp L d k_B_limitOf 67 [l0, l1, l2, l3, l4, l5, l6, l7] [vI (σ c2 s3.toNat), vI s1, vL s0] σ Q := wp_iald rfl h hx
theorem r_B_limitOf_67 : Wp L d k_B_limitOf 67 [l0, l1, l2, l3, l4, l5, l6, l7] [vI s2, vI s1, vL s0] σ Q ↔ Wp L d k_B_limitOf 68 [l0, l1, l2, l3, l4, l5, l6, l7] [vI (w32 (s1 * s2)), vL s0] σ Q := wp_imul rfl
theorem r_B_limitOf_68 : Wp L d k_B_limitOf 68 [l0, l1, l2, l3, l4, l5, l6, l7] [vI s1, vL s0] σ Q ↔ Wp L d k_B_limitOf 69 [l0, l1, l2, l3, l4, l5, l6, l7] [vL s1, vL s0] σ Q := wp_i2l rfl
theorem r_B_limitOf_69 : Wp L d k_B_limitOf 69 [l0, l1, l2, l3, l4, l5, l6, l7] [vL s1, vL s0] σ Q ↔ Wp L d k_B_limitOf 70 [l0, l1, l2, l3, l4, l5, l6, l7] [vL (w64 (s0 + s1))] σ Q := wp_ladd rfl
theorem r_B_limitOf_70 : Wp L d k_B_limitOf 70 [vR b0, l1, l2, l3, l4, l5, l6, l7] [vL s0] σ Q ↔ Wp L d k_B_limitOf 71 [vR b0, l1, l2, l3, l4, l5, l6, l7] [vR b0, vL s0] σ Q := wp_aload rfl rfl
theorem r_B_limitOf_71 (h : gK c1 = 1) : Wp L d k_B_limitOf 71 [l0, l1, l2, l3, l4, l5, l6, l7] [vR c1, vL s0] σ Q ↔ Wp L d k_B_limitOf 74 [l0, l1, l2, l3, l4, l5, l6, l7] [vR (gq c1 4), vL s0] σ Q := wp_getR (c := 388) rfl rfl rfl rfl rfl h
theorem r_B_limitOf_74 : Wp L d k_B_limitOf 74 [l0, l1, l2, vI a3, l4, l5, l6, l7] [vR c1, vL s0] σ Q ↔ Wp L d k_B_limitOf 75 [l0, l1, l2, vI a3, l4, l5, l6, l7] [vI a3, vR c1, vL s0] σ Q := wp_iload rfl rfl
theorem r_B_limitOf_75 (h : gK c1 = 100) (hx : 0 ≤ s2 ∧ s2 < gN c1) : Wp L d k_B_limitOf 75 [l0, l1, l2, l3, l4, l5, l6, l7] [vI s2, vR c1, vL s0] σ Q ↔ Wp L d k_B_limitOf 76 [l0, l1, l2, l3, l4, l5, l6, l7] [vI (σ c1 s2.toNat), vL s0] σ Q := wp_iald rfl h hx
theorem r_B_limitOf_76 : Wp L d k_B_limitOf 76 [l0, l1, l2, l3, l4, l5, l6, l7] [vI s1, vL s0] σ Q ↔ Wp L d k_B_limitOf 77 [l0, l1, l2, l3, l4, l5, l6, l7] [vL s1, vL s0] σ Q := wp_i2l rfl
theorem r_B_limitOf_77 (h : s1 ≠ 0) : Wp L d k_B_limitOf 77 [l0, l1, l2, l3, l4, l5, l6, l7] [vL s1, vL s0] σ Q ↔ Wp L d k_B_limitOf 78 [l0, l1, l2, l3, l4, l5, l6, l7] [vL (w64 (s0.tdiv s1))] σ Q := wp_ldiv rfl h
theorem r_B_limitOf_78 : Wp L d k_B_limitOf 78 [l0, l1, l2, l3, l4, vU, l6, l7] [vL s0] σ Q ↔ Wp L d k_B_limitOf 80 [l0, l1, l2, l3, l4, vU, vL s0, vU] [] σ Q := wp_lstore (i := 6) (ls := [l0, l1, l2, l3, l4, vU, l6, l7]) rfl rfl
theorem r_B_limitOf_80 : Wp L d k_B_limitOf 80 [l0, l1, l2, l3, l4, l5, l6, l7] [] σ Q ↔ Wp L d k_B_limitOf 83 [l0, l1, l2, l3, l4, l5, l6, l7] [vL 99] σ Q := wp_pushL rfl
theorem r_B_limitOf_83 : Wp L d k_B_limitOf 83 [l0, l1, l2, l3, l4, l5, vL a6, l7] [vL s0] σ Q ↔ Wp L d k_B_limitOf 85 [l0, l1, l2, l3, l4, l5, vL a6, l7] [vL a6, vL s0] σ Q := wp_lload rfl rfl
theorem r_B_limitOf_85 : Wp L d k_B_limitOf 85 [l0, l1, l2, l3, l4, l5, l6, l7] [vL s1, vL s0] σ Q ↔ Wp L d k_B_limitOf 88 [l0, l1, l2, l3, l4, l5, l6, l7] [vL (min s0 s1)] σ Q := wp_lmin rfl rfl
theorem r_B_limitOf_88 : Wp L d k_B_limitOf 88 [l0, l1, l2, l3, l4, l5, l6, l7] [vL s0] σ Q ↔ Wp L d k_B_limitOf 89 [l0, l1, l2, l3, l4, l5, l6, l7] [vI (w32 s0)] σ Q := wp_l2i rfl
theorem r_B_limitOf_89 : Wp L d k_B_limitOf 89 [l0, l1, l2, l3, l4, l5, l6, l7] [vI s0] σ Q ↔ Q (some (vI s0)) σ := wp_iret rfl
theorem r_B_limitOf_33 (hk : gK c0 = 4) (h2 : 1 ≤ σ c0 2 ∧ σ c0 2 ≤ 999) (h4 : 0 ≤ σ c0 4 ∧ σ c0 4 ≤ 99) (h1 : 0 ≤ s1 ∧ s1 ≤ 99) : Wp L (d + 1) k_B_limitOf 33 [l0, l1, l2, l3, l4, l5, l6, l7] [vI s1, vR c0] σ Q ↔ Wp L (d + 1) k_B_limitOf 36 [l0, l1, l2, l3, l4, l5, l6, l7] [vI (brbe (σ c0 0) (σ c0 2) (σ c0 4) s1)] σ Q := wp_callR (d := d + 0) (as := [vR c0, vI s1]) (rest := []) rfl rfl rfl rfl rfl rfl rfl (grecv_k (by rw [hk]) rfl) (sp_Q_bearing hk h2 h4 h1)
theorem sp_B_limitOf {b : Nat} {f : Nat → Int} {p : Nat} {a : Int} (hB : BR b) (hw : WB f) (hc : CB b f σ) (h : 0 ≤ a ∧ a ≤ 99) (hd : WD b f a σ) (hp : (p : Int) < f 1) (h2 : 0 ≤ a2 ∧ a2 ≤ 99) : Run L (d + 1) 112 [vR b, vR (b + 9 + p), vI a2] σ (some (vI (brlim f p a2))) σ := by
  refine Run_of (C' := k_B_limitOf) rfl ?_
  show Wp L (d + 1) k_B_limitOf 0 [vR b, vR (b + 9 + p), vI a2, vU, vU, vU, vU, vU] [] σ _
  obtain ⟨⟨K0, q0, q1, q2, q3, q4, q5, q6, q7⟩, ⟨K1, K2, K3, K4, K5, K6, K7, K8⟩, ⟨N1, N2, N3, N4, N5, N6, N7, N8⟩, QP, KP⟩ := hB
  have w1 := hw.1
  have w2 := hw.2.1
  have kp := KP p (by omega)
  have q := CBp hc hp
  have w := WBp hw hp
  have z := hd (f (120 + 12 * p + 1)).toNat (by omega)
  rw [show (((f (120 + 12 * p + 1)).toNat : Nat) : Int) = f (120 + 12 * p + 1) by omega] at z
  have b0 := brS_bd hw (f (120 + 12 * p + 1)).toNat
  have b2 := brsh_bd hw (f (120 + 12 * p + 1)) (f 1).toNat (by omega)
  have b3 := brbe_bd (k := f (120 + 12 * p)) w.2.2.1 w.2.2.2.2.1 h2
  have m := mul_bd (a := brbe (f (120 + 12 * p)) (f (120 + 12 * p + 2)) (f (120 + 12 * p + 4)) a2) (A := 9990000) (by omega) b2
  have m1 := tdiv_bd2 (b := 10000 * f (120 + 12 * p + 3)) m.1 (by omega)
  have m2 := tdiv_bd2 (a := (brbe (f (120 + 12 * p)) (f (120 + 12 * p + 2)) (f (120 + 12 * p + 4)) a2 * brsh f (f (120 + 12 * p + 1)) (f 1).toNat).tdiv (10000 * f (120 + 12 * p + 3)) + 10 * brW f (f (120 + 12 * p + 1)).toNat) (b := brS f (f (120 + 12 * p + 1)).toNat) (by omega) (by omega)
  unfold brlim
  by_cases e : f (120 + 12 * p + 8) = 1
  · by_cases e2 : brS f (f (120 + 12 * p + 1)).toNat = 0
    · rw [if_neg (fun y => y.2 e2)]
      simp (disch := first | assumption | exact gb_01 _ | omega) only [r_B_limitOf_0, r_B_limitOf_1, r_B_limitOf_4, r_B_limitOf_5, r_B_limitOf_6, r_B_limitOf_9, r_B_limitOf_12, r_B_limitOf_13, r_B_limitOf_16, r_B_limitOf_19, r_B_limitOf_20, r_B_limitOf_23, r_B_limitOf_24, r_B_limitOf_25, r_B_limitOf_28, r_B_limitOf_30, r_B_limitOf_31, r_B_limitOf_32, r_B_limitOf_33, r_B_limitOf_36, r_B_limitOf_37, r_B_limitOf_38, r_B_limitOf_41, r_B_limitOf_42, r_B_limitOf_43, r_B_limitOf_44, r_B_limitOf_45, r_B_limitOf_48, r_B_limitOf_49, r_B_limitOf_52, r_B_limitOf_53, r_B_limitOf_54, r_B_limitOf_55, r_B_limitOf_57, r_B_limitOf_59, r_B_limitOf_61, r_B_limitOf_62, r_B_limitOf_65, r_B_limitOf_66, r_B_limitOf_67, r_B_limitOf_68, r_B_limitOf_69, r_B_limitOf_70, r_B_limitOf_71, r_B_limitOf_74, r_B_limitOf_75, r_B_limitOf_76, r_B_limitOf_77, r_B_limitOf_78, r_B_limitOf_80, r_B_limitOf_83, r_B_limitOf_85, r_B_limitOf_88, r_B_limitOf_89, q0, q1, q2, q3, q4, q5, q6, q7, QP, q, z, w64i, w32_gb, w32i, tn_add, tn_mul, Int.toNat_natCast, Int.toNat_zero, Int.reduceLE, Int.reduceLT, Int.reduceEq, Int.reduceNe, gb_T, gb_F, Int.reduceToNat, eq_self, true_or, or_true, and_true, true_and, and_self, ↓ite_gb0, ↓ite_gbn, ↓if_pos, ↓if_neg, if_true, if_false, not_true_eq_false, not_false_eq_true, gb_ne0, gb_eq0, ↓ite_lcmp]
    · rw [if_pos ⟨e, e2⟩]
      simp (disch := first | assumption | exact gb_01 _ | omega) only [r_B_limitOf_0, r_B_limitOf_1, r_B_limitOf_4, r_B_limitOf_5, r_B_limitOf_6, r_B_limitOf_9, r_B_limitOf_12, r_B_limitOf_13, r_B_limitOf_16, r_B_limitOf_19, r_B_limitOf_20, r_B_limitOf_23, r_B_limitOf_24, r_B_limitOf_25, r_B_limitOf_28, r_B_limitOf_30, r_B_limitOf_31, r_B_limitOf_32, r_B_limitOf_33, r_B_limitOf_36, r_B_limitOf_37, r_B_limitOf_38, r_B_limitOf_41, r_B_limitOf_42, r_B_limitOf_43, r_B_limitOf_44, r_B_limitOf_45, r_B_limitOf_48, r_B_limitOf_49, r_B_limitOf_52, r_B_limitOf_53, r_B_limitOf_54, r_B_limitOf_55, r_B_limitOf_57, r_B_limitOf_59, r_B_limitOf_61, r_B_limitOf_62, r_B_limitOf_65, r_B_limitOf_66, r_B_limitOf_67, r_B_limitOf_68, r_B_limitOf_69, r_B_limitOf_70, r_B_limitOf_71, r_B_limitOf_74, r_B_limitOf_75, r_B_limitOf_76, r_B_limitOf_77, r_B_limitOf_78, r_B_limitOf_80, r_B_limitOf_83, r_B_limitOf_85, r_B_limitOf_88, r_B_limitOf_89, q0, q1, q2, q3, q4, q5, q6, q7, QP, q, z, w64i, w32_gb, w32i, tn_add, tn_mul, Int.toNat_natCast, Int.toNat_zero, Int.reduceLE, Int.reduceLT, Int.reduceEq, Int.reduceNe, gb_T, gb_F, Int.reduceToNat, eq_self, true_or, or_true, and_true, true_and, and_self, ↓ite_gb0, ↓ite_gbn, ↓if_pos, ↓if_neg, if_true, if_false, not_true_eq_false, not_false_eq_true, gb_ne0, gb_eq0, ↓ite_lcmp]
  · rw [if_neg (fun y => e y.1)]
    simp (disch := first | assumption | exact gb_01 _ | omega) only [r_B_limitOf_0, r_B_limitOf_1, r_B_limitOf_4, r_B_limitOf_5, r_B_limitOf_6, r_B_limitOf_9, r_B_limitOf_12, r_B_limitOf_13, r_B_limitOf_16, r_B_limitOf_19, r_B_limitOf_20, r_B_limitOf_23, r_B_limitOf_24, r_B_limitOf_25, r_B_limitOf_28, r_B_limitOf_30, r_B_limitOf_31, r_B_limitOf_32, r_B_limitOf_33, r_B_limitOf_36, r_B_limitOf_37, r_B_limitOf_38, r_B_limitOf_41, r_B_limitOf_42, r_B_limitOf_43, r_B_limitOf_44, r_B_limitOf_45, r_B_limitOf_48, r_B_limitOf_49, r_B_limitOf_52, r_B_limitOf_53, r_B_limitOf_54, r_B_limitOf_55, r_B_limitOf_57, r_B_limitOf_59, r_B_limitOf_61, r_B_limitOf_62, r_B_limitOf_65, r_B_limitOf_66, r_B_limitOf_67, r_B_limitOf_68, r_B_limitOf_69, r_B_limitOf_70, r_B_limitOf_71, r_B_limitOf_74, r_B_limitOf_75, r_B_limitOf_76, r_B_limitOf_77, r_B_limitOf_78, r_B_limitOf_80, r_B_limitOf_83, r_B_limitOf_85, r_B_limitOf_88, r_B_limitOf_89, q0, q1, q2, q3, q4, q5, q6, q7, QP, q, z, w64i, w32_gb, w32i, tn_add, tn_mul, Int.toNat_natCast, Int.toNat_zero, Int.reduceLE, Int.reduceLT, Int.reduceEq, Int.reduceNe, gb_T, gb_F, Int.reduceToNat, eq_self, true_or, or_true, and_true, true_and, and_self, ↓ite_gb0, ↓ite_gbn, ↓if_pos, ↓if_neg, if_true, if_false, not_true_eq_false, not_false_eq_true, gb_ne0, gb_eq0, ↓ite_lcmp]
theorem r_B_safeGust_0 : Wp L d k_B_safeGust 0 [vR b0, l1, l2] [] σ Q ↔ Wp L d k_B_safeGust 1 [vR b0, l1, l2] [vR b0] σ Q := wp_aload rfl rfl
theorem r_B_safeGust_1 : Wp L d k_B_safeGust 1 [l0, l1, l2] [vR c0] σ Q ↔ Wp L d k_B_safeGust 3 [l0, l1, l2] [vI 99, vR c0] σ Q := wp_push rfl
theorem c_B_safeGust_3 (hR : Run L d 97 [vR c0, vI s1] σ r σ1) (h : gK c0 = 1) : Wp L (d + 1) k_B_safeGust 3 [l0, l1, l2] [vI s1, vR c0] σ Q ↔ Wp L (d + 1) k_B_safeGust 6 [l0, l1, l2] (r.toList ++ []) σ1 Q := wp_callR (as := [vR c0, vI s1]) (rest := []) rfl rfl rfl rfl rfl rfl rfl (grecv_k (by rw [h]) rfl) hR
theorem r_B_safeGust_6 : Wp L d k_B_safeGust 6 [l0, l1, l2] [] σ Q ↔ Wp L d k_B_safeGust 8 [l0, l1, l2] [vI 99] σ Q := wp_push rfl
theorem r_B_safeGust_8 : Wp L d k_B_safeGust 8 [vR b0, l1, l2] [vI s0] σ Q ↔ Wp L d k_B_safeGust 9 [vR b0, vI s0, l2] [] σ Q := wp_istore (i := 1) (ls := [vR b0, l1, l2]) rfl rfl
theorem r_B_safeGust_9 : Wp L d k_B_safeGust 9 [l0, l1, l2] [] σ Q ↔ Wp L d k_B_safeGust 10 [l0, l1, l2] [vI 0] σ Q := wp_push rfl
theorem r_B_safeGust_10 : Wp L d k_B_safeGust 10 [l0, vI a1, l2] [vI s0] σ Q ↔ Wp L d k_B_safeGust 11 [l0, vI a1, vI s0] [] σ Q := wp_istore (i := 2) (ls := [l0, vI a1, l2]) rfl rfl
theorem r_B_safeGust_11 : Wp L d k_B_safeGust 11 [l0, l1, vI a2] [] σ Q ↔ Wp L d k_B_safeGust 12 [l0, l1, vI a2] [vI a2] σ Q := wp_iload rfl rfl
theorem r_B_safeGust_12 : Wp L d k_B_safeGust 12 [vR b0, l1, l2] [vI s0] σ Q ↔ Wp L d k_B_safeGust 13 [vR b0, l1, l2] [vR b0, vI s0] σ Q := wp_aload rfl rfl
theorem r_B_safeGust_13 (h : gK c1 = 1) : Wp L d k_B_safeGust 13 [l0, l1, l2] [vR c1, vI s0] σ Q ↔ Wp L d k_B_safeGust 16 [l0, l1, l2] [vI (σ c1 9), vI s0] σ Q := wp_getI (c := 265) rfl rfl rfl rfl h
theorem r_B_safeGust_16 : Wp L d k_B_safeGust 16 [l0, l1, l2] [vI s1, vI s0] σ Q ↔ (if s1 ≤ s0 then Wp L d k_B_safeGust 49 [l0, l1, l2] [] σ Q else Wp L d k_B_safeGust 19 [l0, l1, l2] [] σ Q) := wp_cmp_ge rfl
theorem r_B_safeGust_19 : Wp L d k_B_safeGust 19 [l0, vI a1, l2] [] σ Q ↔ Wp L d k_B_safeGust 20 [l0, vI a1, l2] [vI a1] σ Q := wp_iload rfl rfl
theorem r_B_safeGust_20 : Wp L d k_B_safeGust 20 [vR b0, l1, l2] [vI s0] σ Q ↔ Wp L d k_B_safeGust 21 [vR b0, l1, l2] [vR b0, vI s0] σ Q := wp_aload rfl rfl
theorem r_B_safeGust_21 : Wp L d k_B_safeGust 21 [vR b0, l1, l2] [vR c1, vI s0] σ Q ↔ Wp L d k_B_safeGust 22 [vR b0, l1, l2] [vR b0, vR c1, vI s0] σ Q := wp_aload rfl rfl
theorem r_B_safeGust_22 (h : gK c2 = 1) : Wp L d k_B_safeGust 22 [l0, l1, l2] [vR c2, vR c1, vI s0] σ Q ↔ Wp L d k_B_safeGust 25 [l0, l1, l2] [vR (gq c2 3), vR c1, vI s0] σ Q := wp_getR (c := 387) rfl rfl rfl rfl rfl h
theorem r_B_safeGust_25 : Wp L d k_B_safeGust 25 [l0, l1, vI a2] [vR c2, vR c1, vI s0] σ Q ↔ Wp L d k_B_safeGust 26 [l0, l1, vI a2] [vI a2, vR c2, vR c1, vI s0] σ Q := wp_iload rfl rfl
theorem r_B_safeGust_26 (h : gK c2 = 102 ∨ gK c2 = 103) (hx : 0 ≤ s3 ∧ s3 < gN c2) : Wp L d k_B_safeGust 26 [l0, l1, l2] [vI s3, vR c2, vR c1, vI s0] σ Q ↔ Wp L d k_B_safeGust 27 [l0, l1, l2] [vR (gq c2 s3.toNat), vR c1, vI s0] σ Q := wp_aald rfl h hx
theorem r_B_safeGust_27 : Wp L d k_B_safeGust 27 [vR b0, l1, l2] [vR c2, vR c1, vI s0] σ Q ↔ Wp L d k_B_safeGust 28 [vR b0, l1, l2] [vR b0, vR c2, vR c1, vI s0] σ Q := wp_aload rfl rfl
theorem r_B_safeGust_28 (h : gK c3 = 1) : Wp L d k_B_safeGust 28 [l0, l1, l2] [vR c3, vR c2, vR c1, vI s0] σ Q ↔ Wp L d k_B_safeGust 31 [l0, l1, l2] [vR (gq c3 3), vR c2, vR c1, vI s0] σ Q := wp_getR (c := 387) rfl rfl rfl rfl rfl h
theorem r_B_safeGust_31 : Wp L d k_B_safeGust 31 [l0, l1, vI a2] [vR c3, vR c2, vR c1, vI s0] σ Q ↔ Wp L d k_B_safeGust 32 [l0, l1, vI a2] [vI a2, vR c3, vR c2, vR c1, vI s0] σ Q := wp_iload rfl rfl
theorem r_B_safeGust_32 (h : gK c3 = 102 ∨ gK c3 = 103) (hx : 0 ≤ s4 ∧ s4 < gN c3) : Wp L d k_B_safeGust 32 [l0, l1, l2] [vI s4, vR c3, vR c2, vR c1, vI s0] σ Q ↔ Wp L d k_B_safeGust 33 [l0, l1, l2] [vR (gq c3 s4.toNat), vR c2, vR c1, vI s0] σ Q := wp_aald rfl h hx
theorem r_B_safeGust_33 (h : gK c3 = 4) : Wp L d k_B_safeGust 33 [l0, l1, l2] [vR c3, vR c2, vR c1, vI s0] σ Q ↔ Wp L d k_B_safeGust 36 [l0, l1, l2] [vI (σ c3 5), vR c2, vR c1, vI s0] σ Q := wp_getI (c := 1029) rfl rfl rfl rfl h
theorem c_B_safeGust_36 (hR : Run L d 112 [vR c1, vR c2, vI s3] σ r σ1) (h : gK c1 = 1) : Wp L (d + 1) k_B_safeGust 36 [l0, l1, l2] [vI s3, vR c2, vR c1, vI s0] σ Q ↔ Wp L (d + 1) k_B_safeGust 39 [l0, l1, l2] (r.toList ++ [vI s0]) σ1 Q := wp_callR (as := [vR c1, vR c2, vI s3]) (rest := [vI s0]) rfl rfl rfl rfl rfl rfl rfl (grecv_k (by rw [h]) rfl) hR
theorem r_B_safeGust_39 : Wp L d k_B_safeGust 39 [l0, l1, l2] [vI s1, vI s0] σ Q ↔ Wp L d k_B_safeGust 42 [l0, l1, l2] [vI (min s0 s1)] σ Q := wp_min rfl rfl
theorem r_B_safeGust_42 : Wp L d k_B_safeGust 42 [vR b0, l1, l2] [vI s0] σ Q ↔ Wp L d k_B_safeGust 43 [vR b0, vI s0, l2] [] σ Q := wp_istore (i := 1) (ls := [vR b0, l1, l2]) rfl rfl
theorem r_B_safeGust_43 : Wp L d k_B_safeGust 43 [l0, vI a1, vI a2] [] σ Q ↔ Wp L d k_B_safeGust 46 [l0, vI a1, vI (w32 (a2 + 1))] [] σ Q := wp_iinc (i := 2) (ls := [l0, vI a1, vI a2]) rfl rfl
theorem r_B_safeGust_46 : Wp L d k_B_safeGust 46 [l0, l1, l2] [] σ Q ↔ Wp L d k_B_safeGust 11 [l0, l1, l2] [] σ Q := wp_goto rfl
theorem r_B_safeGust_49 : Wp L d k_B_safeGust 49 [l0, vI a1, l2] [] σ Q ↔ Wp L d k_B_safeGust 50 [l0, vI a1, l2] [vI a1] σ Q := wp_iload rfl rfl
theorem r_B_safeGust_50 : Wp L d k_B_safeGust 50 [l0, l1, l2] [vI s0] σ Q ↔ Q (some (vI s0)) σ := wp_iret rfl
theorem sp_B_safeGust {b : Nat} {f : Nat → Int}  (hB : BR b) (hw : WB f) (hc : CB b f σ) : ∃ σ', Run L (d + 2) 111 [vR b] σ (some (vI (brsf f))) σ' ∧ Agr σ σ' (ZSc b) := by
  refine Run_ex (C' := k_B_safeGust) rfl ?_
  show Wp L (d + 2) k_B_safeGust 0 [vR b, vU, vU] [] σ _
  have hB0 := hB
  obtain ⟨τ, hR, hd, hA⟩ := sp_B_weighPiers (L := L) (d := d + 0) (a1 := 99) hB hw hc (by omega)
  obtain ⟨⟨K0, q0, q1, q2, q3, q4, q5, q6, q7⟩, ⟨K1, K2, K3, K4, K5, K6, K7, K8⟩, ⟨N1, N2, N3, N4, N5, N6, N7, N8⟩, QP, KP⟩ := hB
  have w2 := hw.2.1
  have hcτ := CB_sc hw hc hA
  have c2 := hcτ.2.1
  simp (disch := first | assumption | exact gb_01 _ | omega) only [r_B_safeGust_0, r_B_safeGust_1, r_B_safeGust_6, r_B_safeGust_8, r_B_safeGust_9, r_B_safeGust_10, r_B_safeGust_12, r_B_safeGust_13, r_B_safeGust_16, r_B_safeGust_19, r_B_safeGust_20, r_B_safeGust_21, r_B_safeGust_22, r_B_safeGust_25, r_B_safeGust_26, r_B_safeGust_27, r_B_safeGust_28, r_B_safeGust_31, r_B_safeGust_32, r_B_safeGust_33, r_B_safeGust_39, r_B_safeGust_42, r_B_safeGust_43, r_B_safeGust_46, r_B_safeGust_49, r_B_safeGust_50, c_B_safeGust_3 hR, Option.toList, List.singleton_append, List.cons_append, List.nil_append, List.append_nil, q0, q1, q2, q3, q4, q5, q6, q7, QP, w32_gb, w32i, tn_add, tn_mul, Int.toNat_natCast, Int.toNat_zero, Int.reduceLE, Int.reduceLT, Int.reduceEq, Int.reduceNe, gb_T, gb_F, Int.reduceToNat, eq_self, true_or, or_true, and_true, true_and, and_self, ↓ite_gb0, ↓ite_gbn, ↓if_pos, ↓if_neg, if_true, if_false, not_true_eq_false, not_false_eq_true, gb_ne0, gb_eq0]
  refine wl (f 1).toNat (fun k => [vR b, vI (brms (fun p => brlim f p (f (120 + 12 * p + 5))) k), vI (k : Int)]) (fun _ => τ) rfl rfl (fun k hk hq => ?_) ?_
  · have kp := KP k (by omega)
    have q := CBp hcτ (p := k) (by omega)
    have w := WBp hw (p := k) (by omega)
    have hL := sp_B_limitOf (L := L) (d := d + 0) (p := k) (a2 := f (120 + 12 * k + 5)) hB0 hw hcτ (by omega) hd (by omega) w.2.2.2.2.2.1
    rw [r_B_safeGust_11]
    simp (disch := first | assumption | exact gb_01 _ | omega) only [r_B_safeGust_0, r_B_safeGust_1, r_B_safeGust_6, r_B_safeGust_8, r_B_safeGust_9, r_B_safeGust_10, r_B_safeGust_12, r_B_safeGust_13, r_B_safeGust_16, r_B_safeGust_19, r_B_safeGust_20, r_B_safeGust_21, r_B_safeGust_22, r_B_safeGust_25, r_B_safeGust_26, r_B_safeGust_27, r_B_safeGust_28, r_B_safeGust_31, r_B_safeGust_32, r_B_safeGust_33, r_B_safeGust_39, r_B_safeGust_42, r_B_safeGust_43, r_B_safeGust_46, r_B_safeGust_49, r_B_safeGust_50, c_B_safeGust_36 hL, Option.toList, List.singleton_append, List.cons_append, List.nil_append, List.append_nil, q0, q1, q2, q3, q4, q5, q6, q7, QP, q, w32_gb, w32i, tn_add, tn_mul, Int.toNat_natCast, Int.toNat_zero, Int.reduceLE, Int.reduceLT, Int.reduceEq, Int.reduceNe, gb_T, gb_F, Int.reduceToNat, eq_self, true_or, or_true, and_true, true_and, and_self, ↓ite_gb0, ↓ite_gbn, ↓if_pos, ↓if_neg, if_true, if_false, not_true_eq_false, not_false_eq_true, gb_ne0, gb_eq0]
    refine hq _ _ ?_ rfl
    simp only [List.cons.injEq, vI_inj, vR_inj, and_true, true_and]
    exact ⟨rfl, by omega⟩
  · rw [r_B_safeGust_11]
    simp (disch := first | assumption | exact gb_01 _ | omega) only [r_B_safeGust_0, r_B_safeGust_1, r_B_safeGust_6, r_B_safeGust_8, r_B_safeGust_9, r_B_safeGust_10, r_B_safeGust_12, r_B_safeGust_13, r_B_safeGust_16, r_B_safeGust_19, r_B_safeGust_20, r_B_safeGust_21, r_B_safeGust_22, r_B_safeGust_25, r_B_safeGust_26, r_B_safeGust_27, r_B_safeGust_28, r_B_safeGust_31, r_B_safeGust_32, r_B_safeGust_33, r_B_safeGust_39, r_B_safeGust_42, r_B_safeGust_43, r_B_safeGust_46, r_B_safeGust_49, r_B_safeGust_50, q0, q1, q2, q3, q4, q5, q6, q7, QP, w32_gb, w32i, tn_add, tn_mul, Int.toNat_natCast, Int.toNat_zero, Int.reduceLE, Int.reduceLT, Int.reduceEq, Int.reduceNe, gb_T, gb_F, Int.reduceToNat, eq_self, true_or, or_true, and_true, true_and, and_self, ↓ite_gb0, ↓ite_gbn, ↓if_pos, ↓if_neg, if_true, if_false, not_true_eq_false, not_false_eq_true, gb_ne0, gb_eq0]
    exact ⟨rfl, hA⟩
theorem r_M_isSafe_0 : Wp L d k_M_isSafe 0 [l0, l1, l2, l3] [] σ Q ↔ Wp L d k_M_isSafe 1 [l0, l1, l2, l3] [vI 1] σ Q := wp_push rfl
theorem r_M_isSafe_1 : Wp L d k_M_isSafe 1 [l0, vI a1, l2, l3] [vI s0] σ Q ↔ Wp L d k_M_isSafe 2 [l0, vI a1, vI s0, l3] [] σ Q := wp_istore (i := 2) (ls := [l0, vI a1, l2, l3]) rfl rfl
theorem r_M_isSafe_2 : Wp L d k_M_isSafe 2 [l0, l1, l2, l3] [] σ Q ↔ Wp L d k_M_isSafe 3 [l0, l1, l2, l3] [vI 0] σ Q := wp_push rfl
theorem r_M_isSafe_3 : Wp L d k_M_isSafe 3 [l0, l1, vI a2, l3] [vI s0] σ Q ↔ Wp L d k_M_isSafe 4 [l0, l1, vI a2, vI s0] [] σ Q := wp_istore (i := 3) (ls := [l0, l1, vI a2, l3]) rfl rfl
theorem r_M_isSafe_4 : Wp L d k_M_isSafe 4 [l0, l1, l2, vI a3] [] σ Q ↔ Wp L d k_M_isSafe 5 [l0, l1, l2, vI a3] [vI a3] σ Q := wp_iload rfl rfl
theorem r_M_isSafe_5 : Wp L d k_M_isSafe 5 [vR b0, l1, l2, l3] [vI s0] σ Q ↔ Wp L d k_M_isSafe 6 [vR b0, l1, l2, l3] [vR b0, vI s0] σ Q := wp_aload rfl rfl
theorem r_M_isSafe_6 (h : gK c1 = 12) : Wp L d k_M_isSafe 6 [l0, l1, l2, l3] [vR c1, vI s0] σ Q ↔ Wp L d k_M_isSafe 9 [l0, l1, l2, l3] [vR (gq c1 0), vI s0] σ Q := wp_getR (c := 3200) rfl rfl rfl rfl rfl h
theorem r_M_isSafe_9 : Wp L d k_M_isSafe 9 [l0, l1, l2, l3] [vR c1, vI s0] σ Q ↔ Wp L d k_M_isSafe 10 [l0, l1, l2, l3] [vI 1, vR c1, vI s0] σ Q := wp_push rfl
theorem r_M_isSafe_10 (h : gK c1 = 100) (hx : 0 ≤ s2 ∧ s2 < gN c1) : Wp L d k_M_isSafe 10 [l0, l1, l2, l3] [vI s2, vR c1, vI s0] σ Q ↔ Wp L d k_M_isSafe 11 [l0, l1, l2, l3] [vI (σ c1 s2.toNat), vI s0] σ Q := wp_iald rfl h hx
theorem r_M_isSafe_11 : Wp L d k_M_isSafe 11 [l0, l1, l2, l3] [vI s1, vI s0] σ Q ↔ (if s1 ≤ s0 then Wp L d k_M_isSafe 39 [l0, l1, l2, l3] [] σ Q else Wp L d k_M_isSafe 14 [l0, l1, l2, l3] [] σ Q) := wp_cmp_ge rfl
theorem r_M_isSafe_14 : Wp L d k_M_isSafe 14 [l0, l1, vI a2, l3] [] σ Q ↔ Wp L d k_M_isSafe 15 [l0, l1, vI a2, l3] [vI a2] σ Q := wp_iload rfl rfl
theorem r_M_isSafe_15 : Wp L d k_M_isSafe 15 [l0, l1, l2, l3] [vI s0] σ Q ↔ (if s0 = 0 then Wp L d k_M_isSafe 31 [l0, l1, l2, l3] [] σ Q else Wp L d k_M_isSafe 18 [l0, l1, l2, l3] [] σ Q) := wp_if_eq rfl
theorem r_M_isSafe_18 : Wp L d k_M_isSafe 18 [vR b0, l1, l2, l3] [] σ Q ↔ Wp L d k_M_isSafe 19 [vR b0, l1, l2, l3] [vR b0] σ Q := wp_aload rfl rfl
theorem r_M_isSafe_19 : Wp L d k_M_isSafe 19 [l0, l1, l2, vI a3] [vR c0] σ Q ↔ Wp L d k_M_isSafe 20 [l0, l1, l2, vI a3] [vI a3, vR c0] σ Q := wp_iload rfl rfl
theorem r_M_isSafe_20 : Wp L d k_M_isSafe 20 [l0, vI a1, l2, l3] [vI s1, vR c0] σ Q ↔ Wp L d k_M_isSafe 21 [l0, vI a1, l2, l3] [vI a1, vI s1, vR c0] σ Q := wp_iload rfl rfl
theorem r_M_isSafe_24 : Wp L d k_M_isSafe 24 [l0, l1, l2, l3] [vI s0] σ Q ↔ (if s0 ≠ 0 then Wp L d k_M_isSafe 31 [l0, l1, l2, l3] [] σ Q else Wp L d k_M_isSafe 27 [l0, l1, l2, l3] [] σ Q) := wp_if_ne rfl
theorem r_M_isSafe_27 : Wp L d k_M_isSafe 27 [l0, l1, l2, l3] [] σ Q ↔ Wp L d k_M_isSafe 28 [l0, l1, l2, l3] [vI 1] σ Q := wp_push rfl
theorem r_M_isSafe_28 : Wp L d k_M_isSafe 28 [l0, l1, l2, l3] [vI s0] σ Q ↔ Wp L d k_M_isSafe 32 [l0, l1, l2, l3] [vI s0] σ Q := wp_goto rfl
theorem r_M_isSafe_31 : Wp L d k_M_isSafe 31 [l0, l1, l2, l3] [] σ Q ↔ Wp L d k_M_isSafe 32 [l0, l1, l2, l3] [vI 0] σ Q := wp_push rfl
theorem r_M_isSafe_32 : Wp L d k_M_isSafe 32 [l0, vI a1, l2, l3] [vI s0] σ Q ↔ Wp L d k_M_isSafe 33 [l0, vI a1, vI s0, l3] [] σ Q := wp_istore (i := 2) (ls := [l0, vI a1, l2, l3]) rfl rfl
theorem r_M_isSafe_33 : Wp L d k_M_isSafe 33 [l0, l1, vI a2, vI a3] [] σ Q ↔ Wp L d k_M_isSafe 36 [l0, l1, vI a2, vI (w32 (a3 + 1))] [] σ Q := wp_iinc (i := 3) (ls := [l0, l1, vI a2, vI a3]) rfl rfl
theorem r_M_isSafe_36 : Wp L d k_M_isSafe 36 [l0, l1, l2, l3] [] σ Q ↔ Wp L d k_M_isSafe 4 [l0, l1, l2, l3] [] σ Q := wp_goto rfl
theorem r_M_isSafe_39 : Wp L d k_M_isSafe 39 [l0, l1, vI a2, l3] [] σ Q ↔ Wp L d k_M_isSafe 40 [l0, l1, vI a2, l3] [vI a2] σ Q := wp_iload rfl rfl
theorem r_M_isSafe_40 (h : s0 = 0 ∨ s0 = 1) : Wp L d k_M_isSafe 40 [l0, l1, l2, l3] [vI s0] σ Q ↔ Q (some (vI s0)) σ := wp_zret rfl h
theorem r_M_isSafe_21 (hw : WB (σ 294)) (h : 0 ≤ s1 ∧ s1 < σ 294 1) (h2 : 0 ≤ s2 ∧ s2 ≤ 99) : Wp L (d + 5) k_M_isSafe 21 [l0, l1, l2, l3] [vI s2, vI s1, vR 293] σ Q ↔ Wp L (d + 5) k_M_isSafe 24 [l0, l1, l2, l3] [vI (gb (brov (σ 294) s2 s1.toNat))] σ Q := wp_callR (d := d + 4) (as := [vR 293, vI s1, vI s2]) (rest := []) rfl rfl rfl rfl rfl rfl rfl (grecv_k (by rw [gK_293]) rfl) (sp_M_isOver hw h h2)
theorem sp_M_isSafe (hw : WB (σ 294)) (h1 : 0 ≤ a1 ∧ a1 ≤ 99) : Run L (d + 5) 235 [vR 293, vI a1] σ (some (vI (brsb (σ 294) a1 (σ 294 1).toNat))) σ := by
  refine Run_of (C' := k_M_isSafe) rfl ?_
  show Wp L (d + 5) k_M_isSafe 0 [vR 293, vI a1, vU, vU] [] σ _
  obtain ⟨K293, Q293, K294, N294⟩ := litM
  have w1 := hw.1
  have w2 := hw.2.1
  simp (disch := first | assumption | exact gb_01 _ | omega) only [r_M_isSafe_0, r_M_isSafe_1, r_M_isSafe_2, r_M_isSafe_3, r_M_isSafe_5, r_M_isSafe_6, r_M_isSafe_9, r_M_isSafe_10, r_M_isSafe_11, r_M_isSafe_14, r_M_isSafe_15, r_M_isSafe_18, r_M_isSafe_19, r_M_isSafe_20, r_M_isSafe_21, r_M_isSafe_24, r_M_isSafe_27, r_M_isSafe_28, r_M_isSafe_31, r_M_isSafe_32, r_M_isSafe_33, r_M_isSafe_36, r_M_isSafe_39, r_M_isSafe_40, Q293, w32_gb, w32i, tn_add, tn_mul, Int.toNat_natCast, Int.toNat_zero, Int.reduceLE, Int.reduceLT, Int.reduceEq, Int.reduceNe, gb_T, gb_F, Int.reduceToNat, eq_self, true_or, or_true, and_true, true_and, and_self, ↓ite_gb0, ↓ite_gbn, ↓if_pos, ↓if_neg, if_true, if_false, not_true_eq_false, not_false_eq_true, gb_ne0, gb_eq0]
  refine wl (σ 294 1).toNat (fun k => [vR 293, vI a1, vI (brsb (σ 294) a1 k), vI (k : Int)]) (fun _ => σ) rfl rfl (fun k hk hq => ?_) ?_
  · have x := brsb_01 (σ 294) a1 k
    rw [r_M_isSafe_4]
    by_cases e1 : brsb (σ 294) a1 k = 1
    · by_cases e2 : brov (σ 294) a1 k
      · simp (disch := first | assumption | exact gb_01 _ | omega) only [r_M_isSafe_0, r_M_isSafe_1, r_M_isSafe_2, r_M_isSafe_3, r_M_isSafe_5, r_M_isSafe_6, r_M_isSafe_9, r_M_isSafe_10, r_M_isSafe_11, r_M_isSafe_14, r_M_isSafe_15, r_M_isSafe_18, r_M_isSafe_19, r_M_isSafe_20, r_M_isSafe_21, r_M_isSafe_24, r_M_isSafe_27, r_M_isSafe_28, r_M_isSafe_31, r_M_isSafe_32, r_M_isSafe_33, r_M_isSafe_36, r_M_isSafe_39, r_M_isSafe_40, Q293, w32_gb, w32i, tn_add, tn_mul, Int.toNat_natCast, Int.toNat_zero, Int.reduceLE, Int.reduceLT, Int.reduceEq, Int.reduceNe, gb_T, gb_F, Int.reduceToNat, eq_self, true_or, or_true, and_true, true_and, and_self, ↓ite_gb0, ↓ite_gbn, ↓if_pos, ↓if_neg, if_true, if_false, not_true_eq_false, not_false_eq_true, gb_ne0, gb_eq0]
        refine hq _ _ ?_ rfl
        simp only [List.cons.injEq, vI_inj, vR_inj, and_true, true_and]
        exact ⟨(if_neg (fun z => z.2 e2)).symm, by omega⟩
      · simp (disch := first | assumption | exact gb_01 _ | omega) only [r_M_isSafe_0, r_M_isSafe_1, r_M_isSafe_2, r_M_isSafe_3, r_M_isSafe_5, r_M_isSafe_6, r_M_isSafe_9, r_M_isSafe_10, r_M_isSafe_11, r_M_isSafe_14, r_M_isSafe_15, r_M_isSafe_18, r_M_isSafe_19, r_M_isSafe_20, r_M_isSafe_21, r_M_isSafe_24, r_M_isSafe_27, r_M_isSafe_28, r_M_isSafe_31, r_M_isSafe_32, r_M_isSafe_33, r_M_isSafe_36, r_M_isSafe_39, r_M_isSafe_40, Q293, w32_gb, w32i, tn_add, tn_mul, Int.toNat_natCast, Int.toNat_zero, Int.reduceLE, Int.reduceLT, Int.reduceEq, Int.reduceNe, gb_T, gb_F, Int.reduceToNat, eq_self, true_or, or_true, and_true, true_and, and_self, ↓ite_gb0, ↓ite_gbn, ↓if_pos, ↓if_neg, if_true, if_false, not_true_eq_false, not_false_eq_true, gb_ne0, gb_eq0]
        refine hq _ _ ?_ rfl
        simp only [List.cons.injEq, vI_inj, vR_inj, and_true, true_and]
        exact ⟨(if_pos ⟨e1, e2⟩).symm, by omega⟩
    · simp (disch := first | assumption | exact gb_01 _ | omega) only [r_M_isSafe_0, r_M_isSafe_1, r_M_isSafe_2, r_M_isSafe_3, r_M_isSafe_5, r_M_isSafe_6, r_M_isSafe_9, r_M_isSafe_10, r_M_isSafe_11, r_M_isSafe_14, r_M_isSafe_15, r_M_isSafe_18, r_M_isSafe_19, r_M_isSafe_20, r_M_isSafe_21, r_M_isSafe_24, r_M_isSafe_27, r_M_isSafe_28, r_M_isSafe_31, r_M_isSafe_32, r_M_isSafe_33, r_M_isSafe_36, r_M_isSafe_39, r_M_isSafe_40, Q293, w32_gb, w32i, tn_add, tn_mul, Int.toNat_natCast, Int.toNat_zero, Int.reduceLE, Int.reduceLT, Int.reduceEq, Int.reduceNe, gb_T, gb_F, Int.reduceToNat, eq_self, true_or, or_true, and_true, true_and, and_self, ↓ite_gb0, ↓ite_gbn, ↓if_pos, ↓if_neg, if_true, if_false, not_true_eq_false, not_false_eq_true, gb_ne0, gb_eq0]
      refine hq _ _ ?_ rfl
      simp only [List.cons.injEq, vI_inj, vR_inj, and_true, true_and]
      exact ⟨(if_neg (fun z => e1 z.1)).symm, by omega⟩
  · have x := brsb_01 (σ 294) a1 (σ 294 1).toNat
    rw [r_M_isSafe_4]
    simp (disch := first | assumption | exact gb_01 _ | omega) only [r_M_isSafe_0, r_M_isSafe_1, r_M_isSafe_2, r_M_isSafe_3, r_M_isSafe_5, r_M_isSafe_6, r_M_isSafe_9, r_M_isSafe_10, r_M_isSafe_11, r_M_isSafe_14, r_M_isSafe_15, r_M_isSafe_18, r_M_isSafe_19, r_M_isSafe_20, r_M_isSafe_21, r_M_isSafe_24, r_M_isSafe_27, r_M_isSafe_28, r_M_isSafe_31, r_M_isSafe_32, r_M_isSafe_33, r_M_isSafe_36, r_M_isSafe_39, r_M_isSafe_40, Q293, w32_gb, w32i, tn_add, tn_mul, Int.toNat_natCast, Int.toNat_zero, Int.reduceLE, Int.reduceLT, Int.reduceEq, Int.reduceNe, gb_T, gb_F, Int.reduceToNat, eq_self, true_or, or_true, and_true, true_and, and_self, ↓ite_gb0, ↓ite_gbn, ↓if_pos, ↓if_neg, if_true, if_false, not_true_eq_false, not_false_eq_true, gb_ne0, gb_eq0]
theorem r_M_safe_0 : Wp L d k_M_safe 0 [l0, l1] [] σ Q ↔ Wp L d k_M_safe 2 [l0, l1] [vI 99] σ Q := wp_push rfl
theorem r_M_safe_2 : Wp L d k_M_safe 2 [vR b0, l1] [vI s0] σ Q ↔ Wp L d k_M_safe 3 [vR b0, vI s0] [] σ Q := wp_istore (i := 1) (ls := [vR b0, l1]) rfl rfl
theorem r_M_safe_3 : Wp L d k_M_safe 3 [l0, vI a1] [] σ Q ↔ Wp L d k_M_safe 4 [l0, vI a1] [vI a1] σ Q := wp_iload rfl rfl
theorem r_M_safe_4 : Wp L d k_M_safe 4 [l0, l1] [vI s0] σ Q ↔ (if s0 < 0 then Wp L d k_M_safe 21 [l0, l1] [] σ Q else Wp L d k_M_safe 7 [l0, l1] [] σ Q) := wp_if_lt rfl
theorem r_M_safe_7 : Wp L d k_M_safe 7 [vR b0, l1] [] σ Q ↔ Wp L d k_M_safe 8 [vR b0, l1] [vR b0] σ Q := wp_aload rfl rfl
theorem r_M_safe_8 : Wp L d k_M_safe 8 [l0, vI a1] [vR c0] σ Q ↔ Wp L d k_M_safe 9 [l0, vI a1] [vI a1, vR c0] σ Q := wp_iload rfl rfl
theorem r_M_safe_12 : Wp L d k_M_safe 12 [l0, l1] [vI s0] σ Q ↔ (if s0 ≠ 0 then Wp L d k_M_safe 21 [l0, l1] [] σ Q else Wp L d k_M_safe 15 [l0, l1] [] σ Q) := wp_if_ne rfl
theorem r_M_safe_15 : Wp L d k_M_safe 15 [vR b0, vI a1] [] σ Q ↔ Wp L d k_M_safe 18 [vR b0, vI (w32 (a1 + (-1)))] [] σ Q := wp_iinc (i := 1) (ls := [vR b0, vI a1]) rfl rfl
theorem r_M_safe_18 : Wp L d k_M_safe 18 [l0, l1] [] σ Q ↔ Wp L d k_M_safe 3 [l0, l1] [] σ Q := wp_goto rfl
theorem r_M_safe_21 : Wp L d k_M_safe 21 [l0, vI a1] [] σ Q ↔ Wp L d k_M_safe 22 [l0, vI a1] [vI a1] σ Q := wp_iload rfl rfl
theorem r_M_safe_22 : Wp L d k_M_safe 22 [l0, l1] [vI s0] σ Q ↔ Q (some (vI s0)) σ := wp_iret rfl
theorem r_M_safe_9 (hw : WB (σ 294)) (h1 : 0 ≤ s1 ∧ s1 ≤ 99) : Wp L (d + 6) k_M_safe 9 [l0, l1] [vI s1, vR 293] σ Q ↔ Wp L (d + 6) k_M_safe 12 [l0, l1] [vI (brsb (σ 294) s1 (σ 294 1).toNat)] σ Q := wp_callR (d := d + 5) (as := [vR 293, vI s1]) (rest := []) rfl rfl rfl rfl rfl rfl rfl (grecv_k (by rw [gK_293]) rfl) (sp_M_isSafe hw h1)
theorem sp_M_safe (hw : WB (σ 294)) : Run L (d + 6) 234 [vR 293] σ (some (vI (brsf (σ 294)))) σ := by
  refine Run_of (C' := k_M_safe) rfl ?_
  show Wp L (d + 6) k_M_safe 0 [vR 293, vU] [] σ _
  obtain ⟨K293, Q293, K294, N294⟩ := litM
  have w1 := hw.1
  have w2 := hw.2.1
  simp (disch := first | assumption | exact gb_01 _ | omega) only [r_M_safe_0, r_M_safe_2, r_M_safe_4, r_M_safe_7, r_M_safe_8, r_M_safe_9, r_M_safe_12, r_M_safe_15, r_M_safe_18, r_M_safe_21, r_M_safe_22, Q293, w32_gb, w32i, tn_add, tn_mul, Int.toNat_natCast, Int.toNat_zero, Int.reduceLE, Int.reduceLT, Int.reduceEq, Int.reduceNe, gb_T, gb_F, Int.reduceToNat, eq_self, true_or, or_true, and_true, true_and, and_self, ↓ite_gb0, ↓ite_gbn, ↓if_pos, ↓if_neg, if_true, if_false, not_true_eq_false, not_false_eq_true, gb_ne0, gb_eq0]
  have bd := brsf_bd hw
  refine wl (99 - brsf (σ 294)).toNat (fun k => [vR 293, vI (99 - (k : Int))]) (fun _ => σ) rfl rfl (fun k hk hq => ?_) ?_
  · have x := brsb_01 (σ 294) (99 - (k : Int)) (σ 294 1).toNat
    have y := brsb_sf hw (w := 99 - (k : Int)) (by omega)
    rw [r_M_safe_3]
    simp (disch := first | assumption | exact gb_01 _ | omega) only [r_M_safe_0, r_M_safe_2, r_M_safe_4, r_M_safe_7, r_M_safe_8, r_M_safe_9, r_M_safe_12, r_M_safe_15, r_M_safe_18, r_M_safe_21, r_M_safe_22, Q293, w32_gb, w32i, tn_add, tn_mul, Int.toNat_natCast, Int.toNat_zero, Int.reduceLE, Int.reduceLT, Int.reduceEq, Int.reduceNe, gb_T, gb_F, Int.reduceToNat, eq_self, true_or, or_true, and_true, true_and, and_self, ↓ite_gb0, ↓ite_gbn, ↓if_pos, ↓if_neg, if_true, if_false, not_true_eq_false, not_false_eq_true, gb_ne0, gb_eq0]
    refine hq _ _ ?_ rfl
    simp only [List.cons.injEq, vI_inj, vR_inj, and_true, true_and]
    omega
  · have y := (brsb_sf hw (w := brsf (σ 294)) (by omega)).2 (Int.le_refl _)
    rw [show 99 - (((99 - brsf (σ 294)).toNat : Nat) : Int) = brsf (σ 294) by omega]
    rw [r_M_safe_3]
    simp (disch := first | assumption | exact gb_01 _ | omega) only [r_M_safe_0, r_M_safe_2, r_M_safe_4, r_M_safe_7, r_M_safe_8, r_M_safe_9, r_M_safe_12, r_M_safe_15, r_M_safe_18, r_M_safe_21, r_M_safe_22, Q293, w32_gb, w32i, tn_add, tn_mul, Int.toNat_natCast, Int.toNat_zero, Int.reduceLE, Int.reduceLT, Int.reduceEq, Int.reduceNe, gb_T, gb_F, Int.reduceToNat, eq_self, true_or, or_true, and_true, true_and, and_self, ↓ite_gb0, ↓ite_gbn, ↓if_pos, ↓if_neg, if_true, if_false, not_true_eq_false, not_false_eq_true, gb_ne0, gb_eq0]
theorem r_X_safe_0 : Wp L d k_X_safe 0 [vR b0] [] σ Q ↔ Wp L d k_X_safe 1 [vR b0] [vR b0] σ Q := wp_aload rfl rfl
theorem r_X_safe_1 (h : gK c0 = 0) : Wp L d k_X_safe 1 [l0] [vR c0] σ Q ↔ Wp L d k_X_safe 4 [l0] [vR (gq c0 1)] σ Q := wp_getR (c := 129) rfl rfl rfl rfl rfl h
theorem c_X_safe_4 (hR : Run L d 111 [vR c0] σ r σ1) (h : gK c0 = 1) : Wp L (d + 1) k_X_safe 4 [l0] [vR c0] σ Q ↔ Wp L (d + 1) k_X_safe 7 [l0] (r.toList ++ []) σ1 Q := wp_callR (as := [vR c0]) (rest := []) rfl rfl rfl rfl rfl rfl rfl (grecv_k (by rw [h]) rfl) hR
theorem r_X_safe_7 : Wp L d k_X_safe 7 [l0] [vI s0] σ Q ↔ Q (some (vI s0)) σ := wp_iret rfl
theorem sp_X_safe {f : Nat → Int} (hw : WB f) (hc : CB 29 f σ) : ∃ σ', Run L (d + 3) 36 [vR 27] σ (some (vI (brsf f))) σ' ∧ Agr σ σ' (ZSc 29) := by
  refine Run_ex (C' := k_X_safe) rfl ?_
  show Wp L (d + 3) k_X_safe 0 [vR 27] [] σ _
  obtain ⟨K27, K28, K29, K78, K97, K99, K109, K123, K125, K279, K282⟩ := litX
  obtain ⟨τ, hR, hA⟩ := sp_B_safeGust (L := L) (d := d + 0) BR29 hw hc
  simp (disch := first | assumption | exact gb_01 _ | omega) only [r_X_safe_0, r_X_safe_1, r_X_safe_7, c_X_safe_4 hR, Option.toList, List.singleton_append, List.cons_append, List.nil_append, List.append_nil, gq_27_0, gq_27_1, gq_27_2, gq_27_3, gq_27_4, gq_27_5, gq_27_6, gq_28_0, gq_28_1, gq_28_2, gq_28_3, gq_28_4, gq_28_5, gq_28_6, w32_gb, w32i, tn_add, tn_mul, Int.toNat_natCast, Int.toNat_zero, Int.reduceLE, Int.reduceLT, Int.reduceEq, Int.reduceNe, gb_T, gb_F, Int.reduceToNat, eq_self, true_or, or_true, and_true, true_and, and_self, ↓ite_gb0, ↓ite_gbn, ↓if_pos, ↓if_neg, if_true, if_false, not_true_eq_false, not_false_eq_true, gb_ne0, gb_eq0]
  exact hA
theorem op_safe : Op 36 234 [] := by
  intro L d σ hI
  obtain ⟨hw, hc⟩ := iB hI
  have w1 := hw.1
  have w2 := hw.2.1
  have c1 := hc.1
  have c2 := hc.2.1
  have hp : w32 (σ 29 9 - 1) = σ 29 9 - 1 := w32i (by omega)
  have hm : w32 (σ 294 1 - 1) = σ 294 1 - 1 := w32i (by omega)
  
  obtain ⟨σ1, hR, hA⟩ := sp_X_safe (L := L) (d := d + 997) hw hc
  have e : σ1 294 = σ 294 := funext (fun j => hA 294 j (by unfold ZSc; omega))
  exact ⟨_, _, _, hR, Run_r (sp_M_safe (by rw [e]; exact hw)) (by rw [e]), Inv_free hI (Agr_mono hA (fun k j hk => by unfold ZSc at hk; unfold ZFr; omega))⟩
