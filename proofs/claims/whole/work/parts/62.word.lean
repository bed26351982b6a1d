/-! word. -/
variable {L d : Nat} {σ σ1 : Nat → Nat → Int} {Q : Option gV → (Nat → Nat → Int) → Prop} {a0 a1 a2 a3 a4 a5 a6 a7 a8 a9 a10 a11 s0 s1 s2 s3 s4 s5 s6 s7 s8 s9 : Int} {l0 l1 l2 l3 l4 l5 l6 l7 l8 l9 l10 l11 t0 t1 t2 t3 t4 t5 t6 t7 t8 t9 : gV} {b0 b1 b2 b3 b4 b5 b6 b7 b8 b9 b10 b11 c0 c1 c2 c3 c4 c5 c6 c7 c8 c9 : Nat} {r : Option gV}
/-- the order with n put at place at -/
def insr (o : Nat → Nat) (a n : Nat) (i : Nat) : Nat := if i < a then o i else if i = a then n else o (i - 1)
theorem gord_ins {day : Nat → Int} {n a : Nat} {o : Nat → Nat} (h : gord day n o) (ha : a ≤ n) (h1 : ∀ i, i < a → day (o i) ≤ day n) (h2 : ∀ i, a ≤ i → i < n → day n < day (o i)) : gord day (n + 1) (insr o a n) := by
  refine ⟨fun i hi => ?_, fun i j hij hj => ?_⟩
  · unfold insr
    split
    · have := h.1 i (by omega); omega
    · split
      · omega
      · have := h.1 (i - 1) (by omega); omega
  · unfold insr
    by_cases c1 : j < a
    · rw [if_pos c1, if_pos (by omega)]
      exact h.2 i j hij (by omega)
    · by_cases c2 : j = a
      · rw [if_neg c1, if_pos c2, if_pos (by omega)]
        have := h1 i (by omega)
        have := h.1 i (by omega)
        omega
      · rw [if_neg c1, if_neg c2]
        by_cases c3 : i < a
        · rw [if_pos c3]
          have x := h1 i c3
          have y := h2 (j - 1) (by omega) (by omega)
          omega
        · by_cases c4 : i = a
          · rw [if_neg c3, if_pos c4]
            have y := h2 (j - 1) (by omega) (by omega)
            omega
          · rw [if_neg c3, if_neg c4]
            exact h.2 (i - 1) (j - 1) (by omega) (by omega)
theorem pigeon : ∀ (n : Nat) (o : Nat → Nat), (∀ i, i < n → o i < n) → (∀ i j, i < n → j < n → o i = o j → i = j) → ∀ v, v < n → ∃ i, i < n ∧ o i = v
  | 0, o, _, _, v, hv => by omega
  | n + 1, o, h1, h2, v, hv => by
    have ih := pigeon n (fun i => if o i = n then o n else o i) (fun i hi => by
      have a := h1 i (by omega)
      have b := h1 n (by omega)
      have c := h2 i n (by omega) (by omega)
      split <;> omega) (fun i j hi hj e => by
      have a := h2 i j (by omega) (by omega)
      have b := h2 i n (by omega) (by omega)
      have c := h2 j n (by omega) (by omega)
      split at e <;> split at e <;> omega)
    by_cases e1 : v = o n
    · exact ⟨n, by omega, e1.symm⟩
    · by_cases e2 : v = n
      · have hn := h1 n (by omega)
        obtain ⟨i, hi, he⟩ := ih (o n) (by omega)
        split at he
        · next q => exact ⟨i, by omega, by omega⟩
        · have := h2 i n (by omega) (by omega) he
          omega
      · obtain ⟨i, hi, he⟩ := ih v (by omega)
        split at he
        · omega
        · exact ⟨i, by omega, he⟩
theorem gord_inj {day : Nat → Int} {n : Nat} {o : Nat → Nat} (h : gord day n o) : ∀ i j, i < n → j < n → o i = o j → i = j := fun i j hi hj e => by
  rcases Nat.lt_trichotomy i j with x | x | x
  · have := h.2 i j x hj
    rw [e] at this
    omega
  · exact x
  · have := h.2 j i x hi
    rw [e] at this
    omega
theorem gord_uni {day : Nat → Int} {n : Nat} {o p : Nat → Nat} (h : gord day n o) (g : gord day n p) : ∀ m i, i < m → i < n → o i = p i
  | 0, i, hm, _ => by omega
  | m + 1, i, hm, hi => by
    have ih : ∀ k, k < i → o k = p k := fun k hk => gord_uni h g m k (by omega) (by omega)
    refine Classical.byContradiction (fun ne => ?_)
    obtain ⟨k, hk, ek⟩ := pigeon n p g.1 (gord_inj g) (o i) (h.1 i hi)
    obtain ⟨l, hl, el⟩ := pigeon n o h.1 (gord_inj h) (p i) (g.1 i hi)
    have k1 : i < k := by
      rcases Nat.lt_trichotomy k i with x | x | x
      · have := ih k x
        have := gord_inj h k i (by omega) hi (by omega)
        omega
      · rw [x] at ek
        exact absurd ek.symm ne
      · exact x
    have l1 : i < l := by
      rcases Nat.lt_trichotomy l i with x | x | x
      · have := ih l x
        have := gord_inj g l i (by omega) hi (by omega)
        omega
      · rw [x] at el
        exact absurd el ne
      · exact x
    have a := g.2 i k k1 hk
    have b := h.2 i l l1 hl
    rw [ek] at a
    rw [el] at b
    omega
theorem litD : gK 109 = 11 ∧ gq 109 0 = 110 ∧ gq 109 1 = 111 ∧ gq 109 2 = 112 ∧ gq 109 3 = 113 ∧ gq 109 4 = 114 ∧ gK 110 = 100 ∧ gK 111 = 100 ∧ gK 112 = 100 ∧ gK 113 = 100 ∧ gK 114 = 103 ∧ ((gN 110 : Nat) : Int) = 30 ∧ ((gN 111 : Nat) : Int) = 30 ∧ ((gN 112 : Nat) : Int) = 30 ∧ ((gN 113 : Nat) : Int) = 30 ∧ ((gN 114 : Nat) : Int) = 8 := by decide +kernel
theorem r_D_add_0 : Wp L d k_D_add 0 [vR b0, l1, l2, l3, l4, l5] [] σ Q ↔ Wp L d k_D_add 1 [vR b0, l1, l2, l3, l4, l5] [vR b0] σ Q := wp_aload rfl rfl
theorem r_D_add_1 (h : gK c0 = 11) : Wp L d k_D_add 1 [l0, l1, l2, l3, l4, l5] [vR c0] σ Q ↔ Wp L d k_D_add 4 [l0, l1, l2, l3, l4, l5] [vI (σ c0 5)] σ Q := wp_getI (c := 2821) rfl rfl rfl rfl h
theorem r_D_add_4 : Wp L d k_D_add 4 [l0, l1, l2, l3, vI a4, l5] [vI s0] σ Q ↔ Wp L d k_D_add 6 [l0, l1, l2, l3, vI a4, vI s0] [] σ Q := wp_istore (i := 5) (ls := [l0, l1, l2, l3, vI a4, l5]) rfl rfl
theorem r_D_add_6 : Wp L d k_D_add 6 [l0, l1, l2, l3, l4, vI a5] [] σ Q ↔ Wp L d k_D_add 8 [l0, l1, l2, l3, l4, vI a5] [vI a5] σ Q := wp_iload rfl rfl
theorem r_D_add_8 : Wp L d k_D_add 8 [l0, l1, l2, l3, l4, l5] [vI s0] σ Q ↔ (if s0 ≤ 0 then Wp L d k_D_add 94 [l0, l1, l2, l3, l4, l5] [] σ Q else Wp L d k_D_add 11 [l0, l1, l2, l3, l4, l5] [] σ Q) := wp_if_le rfl
theorem r_D_add_11 : Wp L d k_D_add 11 [vR b0, l1, l2, l3, l4, l5] [] σ Q ↔ Wp L d k_D_add 12 [vR b0, l1, l2, l3, l4, l5] [vR b0] σ Q := wp_aload rfl rfl
theorem r_D_add_12 (h : gK c0 = 11) : Wp L d k_D_add 12 [l0, l1, l2, l3, l4, l5] [vR c0] σ Q ↔ Wp L d k_D_add 15 [l0, l1, l2, l3, l4, l5] [vR (gq c0 0)] σ Q := wp_getR (c := 2944) rfl rfl rfl rfl rfl h
theorem r_D_add_15 : Wp L d k_D_add 15 [l0, l1, l2, l3, l4, vI a5] [vR c0] σ Q ↔ Wp L d k_D_add 17 [l0, l1, l2, l3, l4, vI a5] [vI a5, vR c0] σ Q := wp_iload rfl rfl
theorem r_D_add_17 : Wp L d k_D_add 17 [l0, l1, l2, l3, l4, l5] [vI s1, vR c0] σ Q ↔ Wp L d k_D_add 18 [l0, l1, l2, l3, l4, l5] [vI 1, vI s1, vR c0] σ Q := wp_push rfl
theorem r_D_add_18 : Wp L d k_D_add 18 [l0, l1, l2, l3, l4, l5] [vI s2, vI s1, vR c0] σ Q ↔ Wp L d k_D_add 19 [l0, l1, l2, l3, l4, l5] [vI (w32 (s1 - s2)), vR c0] σ Q := wp_isub rfl
theorem r_D_add_19 (h : gK c0 = 100) (hx : 0 ≤ s1 ∧ s1 < gN c0) : Wp L d k_D_add 19 [l0, l1, l2, l3, l4, l5] [vI s1, vR c0] σ Q ↔ Wp L d k_D_add 20 [l0, l1, l2, l3, l4, l5] [vI (σ c0 s1.toNat)] σ Q := wp_iald rfl h hx
theorem r_D_add_20 : Wp L d k_D_add 20 [l0, vI a1, l2, l3, l4, l5] [vI s0] σ Q ↔ Wp L d k_D_add 21 [l0, vI a1, l2, l3, l4, l5] [vI a1, vI s0] σ Q := wp_iload rfl rfl
theorem r_D_add_21 : Wp L d k_D_add 21 [l0, l1, l2, l3, l4, l5] [vI s1, vI s0] σ Q ↔ (if s0 ≤ s1 then Wp L d k_D_add 94 [l0, l1, l2, l3, l4, l5] [] σ Q else Wp L d k_D_add 24 [l0, l1, l2, l3, l4, l5] [] σ Q) := wp_cmp_le rfl
theorem r_D_add_24 : Wp L d k_D_add 24 [vR b0, l1, l2, l3, l4, l5] [] σ Q ↔ Wp L d k_D_add 25 [vR b0, l1, l2, l3, l4, l5] [vR b0] σ Q := wp_aload rfl rfl
theorem r_D_add_25 (h : gK c0 = 11) : Wp L d k_D_add 25 [l0, l1, l2, l3, l4, l5] [vR c0] σ Q ↔ Wp L d k_D_add 28 [l0, l1, l2, l3, l4, l5] [vR (gq c0 0)] σ Q := wp_getR (c := 2944) rfl rfl rfl rfl rfl h
theorem r_D_add_28 : Wp L d k_D_add 28 [l0, l1, l2, l3, l4, vI a5] [vR c0] σ Q ↔ Wp L d k_D_add 30 [l0, l1, l2, l3, l4, vI a5] [vI a5, vR c0] σ Q := wp_iload rfl rfl
theorem r_D_add_30 : Wp L d k_D_add 30 [vR b0, l1, l2, l3, l4, l5] [vI s1, vR c0] σ Q ↔ Wp L d k_D_add 31 [vR b0, l1, l2, l3, l4, l5] [vR b0, vI s1, vR c0] σ Q := wp_aload rfl rfl
theorem r_D_add_31 (h : gK c2 = 11) : Wp L d k_D_add 31 [l0, l1, l2, l3, l4, l5] [vR c2, vI s1, vR c0] σ Q ↔ Wp L d k_D_add 34 [l0, l1, l2, l3, l4, l5] [vR (gq c2 0), vI s1, vR c0] σ Q := wp_getR (c := 2944) rfl rfl rfl rfl rfl h
theorem r_D_add_34 : Wp L d k_D_add 34 [l0, l1, l2, l3, l4, vI a5] [vR c2, vI s1, vR c0] σ Q ↔ Wp L d k_D_add 36 [l0, l1, l2, l3, l4, vI a5] [vI a5, vR c2, vI s1, vR c0] σ Q := wp_iload rfl rfl
theorem r_D_add_36 : Wp L d k_D_add 36 [l0, l1, l2, l3, l4, l5] [vI s3, vR c2, vI s1, vR c0] σ Q ↔ Wp L d k_D_add 37 [l0, l1, l2, l3, l4, l5] [vI 1, vI s3, vR c2, vI s1, vR c0] σ Q := wp_push rfl
theorem r_D_add_37 : Wp L d k_D_add 37 [l0, l1, l2, l3, l4, l5] [vI s4, vI s3, vR c2, vI s1, vR c0] σ Q ↔ Wp L d k_D_add 38 [l0, l1, l2, l3, l4, l5] [vI (w32 (s3 - s4)), vR c2, vI s1, vR c0] σ Q := wp_isub rfl
theorem r_D_add_38 (h : gK c2 = 100) (hx : 0 ≤ s3 ∧ s3 < gN c2) : Wp L d k_D_add 38 [l0, l1, l2, l3, l4, l5] [vI s3, vR c2, vI s1, vR c0] σ Q ↔ Wp L d k_D_add 39 [l0, l1, l2, l3, l4, l5] [vI (σ c2 s3.toNat), vI s1, vR c0] σ Q := wp_iald rfl h hx
theorem r_D_add_39 (h : gK c0 = 100) (hx : 0 ≤ s1 ∧ s1 < gN c0) : Wp L d k_D_add 39 [l0, l1, l2, l3, l4, l5] [vI s2, vI s1, vR c0] σ Q ↔ Wp L d k_D_add 40 [l0, l1, l2, l3, l4, l5] [] (gupd σ c0 s1.toNat s2) Q := wp_iast rfl h hx
theorem r_D_add_40 : Wp L d k_D_add 40 [vR b0, l1, l2, l3, l4, l5] [] σ Q ↔ Wp L d k_D_add 41 [vR b0, l1, l2, l3, l4, l5] [vR b0] σ Q := wp_aload rfl rfl
theorem r_D_add_41 (h : gK c0 = 11) : Wp L d k_D_add 41 [l0, l1, l2, l3, l4, l5] [vR c0] σ Q ↔ Wp L d k_D_add 44 [l0, l1, l2, l3, l4, l5] [vR (gq c0 1)] σ Q := wp_getR (c := 2945) rfl rfl rfl rfl rfl h
theorem r_D_add_44 : Wp L d k_D_add 44 [l0, l1, l2, l3, l4, vI a5] [vR c0] σ Q ↔ Wp L d k_D_add 46 [l0, l1, l2, l3, l4, vI a5] [vI a5, vR c0] σ Q := wp_iload rfl rfl
theorem r_D_add_46 : Wp L d k_D_add 46 [vR b0, l1, l2, l3, l4, l5] [vI s1, vR c0] σ Q ↔ Wp L d k_D_add 47 [vR b0, l1, l2, l3, l4, l5] [vR b0, vI s1, vR c0] σ Q := wp_aload rfl rfl
theorem r_D_add_47 (h : gK c2 = 11) : Wp L d k_D_add 47 [l0, l1, l2, l3, l4, l5] [vR c2, vI s1, vR c0] σ Q ↔ Wp L d k_D_add 50 [l0, l1, l2, l3, l4, l5] [vR (gq c2 1), vI s1, vR c0] σ Q := wp_getR (c := 2945) rfl rfl rfl rfl rfl h
theorem r_D_add_50 : Wp L d k_D_add 50 [l0, l1, l2, l3, l4, vI a5] [vR c2, vI s1, vR c0] σ Q ↔ Wp L d k_D_add 52 [l0, l1, l2, l3, l4, vI a5] [vI a5, vR c2, vI s1, vR c0] σ Q := wp_iload rfl rfl
theorem r_D_add_52 : Wp L d k_D_add 52 [l0, l1, l2, l3, l4, l5] [vI s3, vR c2, vI s1, vR c0] σ Q ↔ Wp L d k_D_add 53 [l0, l1, l2, l3, l4, l5] [vI 1, vI s3, vR c2, vI s1, vR c0] σ Q := wp_push rfl
theorem r_D_add_53 : Wp L d k_D_add 53 [l0, l1, l2, l3, l4, l5] [vI s4, vI s3, vR c2, vI s1, vR c0] σ Q ↔ Wp L d k_D_add 54 [l0, l1, l2, l3, l4, l5] [vI (w32 (s3 - s4)), vR c2, vI s1, vR c0] σ Q := wp_isub rfl
theorem r_D_add_54 (h : gK c2 = 100) (hx : 0 ≤ s3 ∧ s3 < gN c2) : Wp L d k_D_add 54 [l0, l1, l2, l3, l4, l5] [vI s3, vR c2, vI s1, vR c0] σ Q ↔ Wp L d k_D_add 55 [l0, l1, l2, l3, l4, l5] [vI (σ c2 s3.toNat), vI s1, vR c0] σ Q := wp_iald rfl h hx
theorem r_D_add_55 (h : gK c0 = 100) (hx : 0 ≤ s1 ∧ s1 < gN c0) : Wp L d k_D_add 55 [l0, l1, l2, l3, l4, l5] [vI s2, vI s1, vR c0] σ Q ↔ Wp L d k_D_add 56 [l0, l1, l2, l3, l4, l5] [] (gupd σ c0 s1.toNat s2) Q := wp_iast rfl h hx
theorem r_D_add_56 : Wp L d k_D_add 56 [vR b0, l1, l2, l3, l4, l5] [] σ Q ↔ Wp L d k_D_add 57 [vR b0, l1, l2, l3, l4, l5] [vR b0] σ Q := wp_aload rfl rfl
theorem r_D_add_57 (h : gK c0 = 11) : Wp L d k_D_add 57 [l0, l1, l2, l3, l4, l5] [vR c0] σ Q ↔ Wp L d k_D_add 60 [l0, l1, l2, l3, l4, l5] [vR (gq c0 2)] σ Q := wp_getR (c := 2946) rfl rfl rfl rfl rfl h
theorem r_D_add_60 : Wp L d k_D_add 60 [l0, l1, l2, l3, l4, vI a5] [vR c0] σ Q ↔ Wp L d k_D_add 62 [l0, l1, l2, l3, l4, vI a5] [vI a5, vR c0] σ Q := wp_iload rfl rfl
theorem r_D_add_62 : Wp L d k_D_add 62 [vR b0, l1, l2, l3, l4, l5] [vI s1, vR c0] σ Q ↔ Wp L d k_D_add 63 [vR b0, l1, l2, l3, l4, l5] [vR b0, vI s1, vR c0] σ Q := wp_aload rfl rfl
theorem r_D_add_63 (h : gK c2 = 11) : Wp L d k_D_add 63 [l0, l1, l2, l3, l4, l5] [vR c2, vI s1, vR c0] σ Q ↔ Wp L d k_D_add 66 [l0, l1, l2, l3, l4, l5] [vR (gq c2 2), vI s1, vR c0] σ Q := wp_getR (c := 2946) rfl rfl rfl rfl rfl h
theorem r_D_add_66 : Wp L d k_D_add 66 [l0, l1, l2, l3, l4, vI a5] [vR c2, vI s1, vR c0] σ Q ↔ Wp L d k_D_add 68 [l0, l1, l2, l3, l4, vI a5] [vI a5, vR c2, vI s1, vR c0] σ Q := wp_iload rfl rfl
theorem r_D_add_68 : Wp L d k_D_add 68 [l0, l1, l2, l3, l4, l5] [vI s3, vR c2, vI s1, vR c0] σ Q ↔ Wp L d k_D_add 69 [l0, l1, l2, l3, l4, l5] [vI 1, vI s3, vR c2, vI s1, vR c0] σ Q := wp_push rfl
theorem r_D_add_69 : Wp L d k_D_add 69 [l0, l1, l2, l3, l4, l5] [vI s4, vI s3, vR c2, vI s1, vR c0] σ Q ↔ Wp L d k_D_add 70 [l0, l1, l2, l3, l4, l5] [vI (w32 (s3 - s4)), vR c2, vI s1, vR c0] σ Q := wp_isub rfl
theorem r_D_add_70 (h : gK c2 = 100) (hx : 0 ≤ s3 ∧ s3 < gN c2) : Wp L d k_D_add 70 [l0, l1, l2, l3, l4, l5] [vI s3, vR c2, vI s1, vR c0] σ Q ↔ Wp L d k_D_add 71 [l0, l1, l2, l3, l4, l5] [vI (σ c2 s3.toNat), vI s1, vR c0] σ Q := wp_iald rfl h hx
theorem r_D_add_71 (h : gK c0 = 100) (hx : 0 ≤ s1 ∧ s1 < gN c0) : Wp L d k_D_add 71 [l0, l1, l2, l3, l4, l5] [vI s2, vI s1, vR c0] σ Q ↔ Wp L d k_D_add 72 [l0, l1, l2, l3, l4, l5] [] (gupd σ c0 s1.toNat s2) Q := wp_iast rfl h hx
theorem r_D_add_72 : Wp L d k_D_add 72 [vR b0, l1, l2, l3, l4, l5] [] σ Q ↔ Wp L d k_D_add 73 [vR b0, l1, l2, l3, l4, l5] [vR b0] σ Q := wp_aload rfl rfl
theorem r_D_add_73 (h : gK c0 = 11) : Wp L d k_D_add 73 [l0, l1, l2, l3, l4, l5] [vR c0] σ Q ↔ Wp L d k_D_add 76 [l0, l1, l2, l3, l4, l5] [vR (gq c0 3)] σ Q := wp_getR (c := 2947) rfl rfl rfl rfl rfl h
theorem r_D_add_76 : Wp L d k_D_add 76 [l0, l1, l2, l3, l4, vI a5] [vR c0] σ Q ↔ Wp L d k_D_add 78 [l0, l1, l2, l3, l4, vI a5] [vI a5, vR c0] σ Q := wp_iload rfl rfl
theorem r_D_add_78 : Wp L d k_D_add 78 [vR b0, l1, l2, l3, l4, l5] [vI s1, vR c0] σ Q ↔ Wp L d k_D_add 79 [vR b0, l1, l2, l3, l4, l5] [vR b0, vI s1, vR c0] σ Q := wp_aload rfl rfl
theorem r_D_add_79 (h : gK c2 = 11) : Wp L d k_D_add 79 [l0, l1, l2, l3, l4, l5] [vR c2, vI s1, vR c0] σ Q ↔ Wp L d k_D_add 82 [l0, l1, l2, l3, l4, l5] [vR (gq c2 3), vI s1, vR c0] σ Q := wp_getR (c := 2947) rfl rfl rfl rfl rfl h
theorem r_D_add_82 : Wp L d k_D_add 82 [l0, l1, l2, l3, l4, vI a5] [vR c2, vI s1, vR c0] σ Q ↔ Wp L d k_D_add 84 [l0, l1, l2, l3, l4, vI a5] [vI a5, vR c2, vI s1, vR c0] σ Q := wp_iload rfl rfl
theorem r_D_add_84 : Wp L d k_D_add 84 [l0, l1, l2, l3, l4, l5] [vI s3, vR c2, vI s1, vR c0] σ Q ↔ Wp L d k_D_add 85 [l0, l1, l2, l3, l4, l5] [vI 1, vI s3, vR c2, vI s1, vR c0] σ Q := wp_push rfl
theorem r_D_add_85 : Wp L d k_D_add 85 [l0, l1, l2, l3, l4, l5] [vI s4, vI s3, vR c2, vI s1, vR c0] σ Q ↔ Wp L d k_D_add 86 [l0, l1, l2, l3, l4, l5] [vI (w32 (s3 - s4)), vR c2, vI s1, vR c0] σ Q := wp_isub rfl
theorem r_D_add_86 (h : gK c2 = 100) (hx : 0 ≤ s3 ∧ s3 < gN c2) : Wp L d k_D_add 86 [l0, l1, l2, l3, l4, l5] [vI s3, vR c2, vI s1, vR c0] σ Q ↔ Wp L d k_D_add 87 [l0, l1, l2, l3, l4, l5] [vI (σ c2 s3.toNat), vI s1, vR c0] σ Q := wp_iald rfl h hx
theorem r_D_add_87 (h : gK c0 = 100) (hx : 0 ≤ s1 ∧ s1 < gN c0) : Wp L d k_D_add 87 [l0, l1, l2, l3, l4, l5] [vI s2, vI s1, vR c0] σ Q ↔ Wp L d k_D_add 88 [l0, l1, l2, l3, l4, l5] [] (gupd σ c0 s1.toNat s2) Q := wp_iast rfl h hx
theorem r_D_add_88 : Wp L d k_D_add 88 [l0, l1, l2, l3, vI a4, vI a5] [] σ Q ↔ Wp L d k_D_add 91 [l0, l1, l2, l3, vI a4, vI (w32 (a5 + (-1)))] [] σ Q := wp_iinc (i := 5) (ls := [l0, l1, l2, l3, vI a4, vI a5]) rfl rfl
theorem r_D_add_91 : Wp L d k_D_add 91 [l0, l1, l2, l3, l4, l5] [] σ Q ↔ Wp L d k_D_add 6 [l0, l1, l2, l3, l4, l5] [] σ Q := wp_goto rfl
theorem r_D_add_94 : Wp L d k_D_add 94 [vR b0, l1, l2, l3, l4, l5] [] σ Q ↔ Wp L d k_D_add 95 [vR b0, l1, l2, l3, l4, l5] [vR b0] σ Q := wp_aload rfl rfl
theorem r_D_add_95 (h : gK c0 = 11) : Wp L d k_D_add 95 [l0, l1, l2, l3, l4, l5] [vR c0] σ Q ↔ Wp L d k_D_add 98 [l0, l1, l2, l3, l4, l5] [vR (gq c0 0)] σ Q := wp_getR (c := 2944) rfl rfl rfl rfl rfl h
theorem r_D_add_98 : Wp L d k_D_add 98 [l0, l1, l2, l3, l4, vI a5] [vR c0] σ Q ↔ Wp L d k_D_add 100 [l0, l1, l2, l3, l4, vI a5] [vI a5, vR c0] σ Q := wp_iload rfl rfl
theorem r_D_add_100 : Wp L d k_D_add 100 [l0, vI a1, l2, l3, l4, l5] [vI s1, vR c0] σ Q ↔ Wp L d k_D_add 101 [l0, vI a1, l2, l3, l4, l5] [vI a1, vI s1, vR c0] σ Q := wp_iload rfl rfl
theorem r_D_add_101 (h : gK c0 = 100) (hx : 0 ≤ s1 ∧ s1 < gN c0) : Wp L d k_D_add 101 [l0, l1, l2, l3, l4, l5] [vI s2, vI s1, vR c0] σ Q ↔ Wp L d k_D_add 102 [l0, l1, l2, l3, l4, l5] [] (gupd σ c0 s1.toNat s2) Q := wp_iast rfl h hx
theorem r_D_add_102 : Wp L d k_D_add 102 [vR b0, l1, l2, l3, l4, l5] [] σ Q ↔ Wp L d k_D_add 103 [vR b0, l1, l2, l3, l4, l5] [vR b0] σ Q := wp_aload rfl rfl
theorem r_D_add_103 (h : gK c0 = 11) : Wp L d k_D_add 103 [l0, l1, l2, l3, l4, l5] [vR c0] σ Q ↔ Wp L d k_D_add 106 [l0, l1, l2, l3, l4, l5] [vR (gq c0 1)] σ Q := wp_getR (c := 2945) rfl rfl rfl rfl rfl h
theorem r_D_add_106 : Wp L d k_D_add 106 [l0, l1, l2, l3, l4, vI a5] [vR c0] σ Q ↔ Wp L d k_D_add 108 [l0, l1, l2, l3, l4, vI a5] [vI a5, vR c0] σ Q := wp_iload rfl rfl
theorem r_D_add_108 : Wp L d k_D_add 108 [l0, l1, vI a2, l3, l4, l5] [vI s1, vR c0] σ Q ↔ Wp L d k_D_add 109 [l0, l1, vI a2, l3, l4, l5] [vI a2, vI s1, vR c0] σ Q := wp_iload rfl rfl
theorem r_D_add_109 (h : gK c0 = 100) (hx : 0 ≤ s1 ∧ s1 < gN c0) : Wp L d k_D_add 109 [l0, l1, l2, l3, l4, l5] [vI s2, vI s1, vR c0] σ Q ↔ Wp L d k_D_add 110 [l0, l1, l2, l3, l4, l5] [] (gupd σ c0 s1.toNat s2) Q := wp_iast rfl h hx
theorem r_D_add_110 : Wp L d k_D_add 110 [vR b0, l1, l2, l3, l4, l5] [] σ Q ↔ Wp L d k_D_add 111 [vR b0, l1, l2, l3, l4, l5] [vR b0] σ Q := wp_aload rfl rfl
theorem r_D_add_111 (h : gK c0 = 11) : Wp L d k_D_add 111 [l0, l1, l2, l3, l4, l5] [vR c0] σ Q ↔ Wp L d k_D_add 114 [l0, l1, l2, l3, l4, l5] [vR (gq c0 2)] σ Q := wp_getR (c := 2946) rfl rfl rfl rfl rfl h
theorem r_D_add_114 : Wp L d k_D_add 114 [l0, l1, l2, l3, l4, vI a5] [vR c0] σ Q ↔ Wp L d k_D_add 116 [l0, l1, l2, l3, l4, vI a5] [vI a5, vR c0] σ Q := wp_iload rfl rfl
theorem r_D_add_116 : Wp L d k_D_add 116 [l0, l1, l2, vI a3, l4, l5] [vI s1, vR c0] σ Q ↔ Wp L d k_D_add 117 [l0, l1, l2, vI a3, l4, l5] [vI a3, vI s1, vR c0] σ Q := wp_iload rfl rfl
theorem r_D_add_117 (h : gK c0 = 100) (hx : 0 ≤ s1 ∧ s1 < gN c0) : Wp L d k_D_add 117 [l0, l1, l2, l3, l4, l5] [vI s2, vI s1, vR c0] σ Q ↔ Wp L d k_D_add 118 [l0, l1, l2, l3, l4, l5] [] (gupd σ c0 s1.toNat s2) Q := wp_iast rfl h hx
theorem r_D_add_118 : Wp L d k_D_add 118 [vR b0, l1, l2, l3, l4, l5] [] σ Q ↔ Wp L d k_D_add 119 [vR b0, l1, l2, l3, l4, l5] [vR b0] σ Q := wp_aload rfl rfl
theorem r_D_add_119 (h : gK c0 = 11) : Wp L d k_D_add 119 [l0, l1, l2, l3, l4, l5] [vR c0] σ Q ↔ Wp L d k_D_add 122 [l0, l1, l2, l3, l4, l5] [vR (gq c0 3)] σ Q := wp_getR (c := 2947) rfl rfl rfl rfl rfl h
theorem r_D_add_122 : Wp L d k_D_add 122 [l0, l1, l2, l3, l4, vI a5] [vR c0] σ Q ↔ Wp L d k_D_add 124 [l0, l1, l2, l3, l4, vI a5] [vI a5, vR c0] σ Q := wp_iload rfl rfl
theorem r_D_add_124 : Wp L d k_D_add 124 [l0, l1, l2, l3, vI a4, l5] [vI s1, vR c0] σ Q ↔ Wp L d k_D_add 126 [l0, l1, l2, l3, vI a4, l5] [vI a4, vI s1, vR c0] σ Q := wp_iload rfl rfl
theorem r_D_add_126 (h : gK c0 = 100) (hx : 0 ≤ s1 ∧ s1 < gN c0) : Wp L d k_D_add 126 [l0, l1, l2, l3, l4, l5] [vI s2, vI s1, vR c0] σ Q ↔ Wp L d k_D_add 127 [l0, l1, l2, l3, l4, l5] [] (gupd σ c0 s1.toNat s2) Q := wp_iast rfl h hx
theorem r_D_add_127 : Wp L d k_D_add 127 [vR b0, l1, l2, l3, l4, l5] [] σ Q ↔ Wp L d k_D_add 128 [vR b0, l1, l2, l3, l4, l5] [vR b0] σ Q := wp_aload rfl rfl
theorem r_D_add_128 : Wp L d k_D_add 128 [l0, l1, l2, l3, l4, l5] [vR c0] σ Q ↔ Wp L d k_D_add 129 [l0, l1, l2, l3, l4, l5] [vR c0, vR c0] σ Q := wp_dupR rfl
theorem r_D_add_129 (h : gK c1 = 11) : Wp L d k_D_add 129 [l0, l1, l2, l3, l4, l5] [vR c1, vR c0] σ Q ↔ Wp L d k_D_add 132 [l0, l1, l2, l3, l4, l5] [vI (σ c1 5), vR c0] σ Q := wp_getI (c := 2821) rfl rfl rfl rfl h
theorem r_D_add_132 : Wp L d k_D_add 132 [l0, l1, l2, l3, l4, l5] [vI s1, vR c0] σ Q ↔ Wp L d k_D_add 133 [l0, l1, l2, l3, l4, l5] [vI s1, vR c0, vI s1] σ Q := wp_dup_x1 rfl
theorem r_D_add_133 : Wp L d k_D_add 133 [l0, l1, l2, l3, l4, l5] [vI s2, vR c1, vI s0] σ Q ↔ Wp L d k_D_add 134 [l0, l1, l2, l3, l4, l5] [vI 1, vI s2, vR c1, vI s0] σ Q := wp_push rfl
theorem r_D_add_134 : Wp L d k_D_add 134 [l0, l1, l2, l3, l4, l5] [vI s3, vI s2, vR c1, vI s0] σ Q ↔ Wp L d k_D_add 135 [l0, l1, l2, l3, l4, l5] [vI (w32 (s2 + s3)), vR c1, vI s0] σ Q := wp_iadd rfl
theorem r_D_add_135 (h : gK c1 = 11) : Wp L d k_D_add 135 [l0, l1, l2, l3, l4, l5] [vI s2, vR c1, vI s0] σ Q ↔ Wp L d k_D_add 138 [l0, l1, l2, l3, l4, l5] [vI s0] (gupd σ c1 5 s2) Q := wp_putI (c := 2821) rfl rfl rfl rfl h
theorem r_D_add_138 : Wp L d k_D_add 138 [l0, l1, l2, l3, l4, l5] [vI s0] σ Q ↔ Q (some (vI s0)) σ := wp_iret rfl
theorem sp_D_add {n : Nat} (hn : σ 109 5 = (n : Int)) (h30 : n < 30) : ∃ σ', Run L d 186 [vR 109, vI a1, vI a2, vI a3, vI a4] σ (some (vI (n : Int))) σ' ∧ (∃ at' : Nat, at' ≤ n ∧ (at' = 0 ∨ σ 110 (at' - 1) ≤ a1) ∧ (∀ i : Nat, at' ≤ i → i < n → a1 < σ 110 i) ∧ (∀ i : Nat, i ≤ n → σ' 110 i = (if i < at' then σ 110 i else if i = at' then a1 else σ 110 (i - 1)) ∧ σ' 111 i = (if i < at' then σ 111 i else if i = at' then a2 else σ 111 (i - 1)) ∧ σ' 112 i = (if i < at' then σ 112 i else if i = at' then a3 else σ 112 (i - 1)) ∧ σ' 113 i = (if i < at' then σ 113 i else if i = at' then a4 else σ 113 (i - 1)))) ∧ σ' 109 5 = (n : Int) + 1 ∧ Agr σ σ' (fun k j => (110 ≤ k ∧ k ≤ 113) ∨ (k = 109 ∧ j = 5)) := by
  refine Run_ex (C' := k_D_add) rfl ?_
  show Wp L d k_D_add 0 [vR 109, vI a1, vI a2, vI a3, vI a4, vU] [] σ _
  obtain ⟨K109, w0, w1, w2, w3, w4, K110, K111, K112, K113, K114, N110, N111, N112, N113, N114⟩ := litD
  simp (disch := first | assumption | exact gb_01 _ | omega) only [r_D_add_0, r_D_add_1, r_D_add_4, r_D_add_8, r_D_add_11, r_D_add_12, r_D_add_15, r_D_add_17, r_D_add_18, r_D_add_19, r_D_add_20, r_D_add_21, r_D_add_24, r_D_add_25, r_D_add_28, r_D_add_30, r_D_add_31, r_D_add_34, r_D_add_36, r_D_add_37, r_D_add_38, r_D_add_39, r_D_add_40, r_D_add_41, r_D_add_44, r_D_add_46, r_D_add_47, r_D_add_50, r_D_add_52, r_D_add_53, r_D_add_54, r_D_add_55, r_D_add_56, r_D_add_57, r_D_add_60, r_D_add_62, r_D_add_63, r_D_add_66, r_D_add_68, r_D_add_69, r_D_add_70, r_D_add_71, r_D_add_72, r_D_add_73, r_D_add_76, r_D_add_78, r_D_add_79, r_D_add_82, r_D_add_84, r_D_add_85, r_D_add_86, r_D_add_87, r_D_add_88, r_D_add_91, w0, w1, w2, w3, w4, hn, w32_gb, w32i, tn_add, tn_mul, Int.toNat_natCast, Int.toNat_zero, Int.reduceLE, Int.reduceLT, Int.reduceEq, Int.reduceNe, gb_T, gb_F, Int.reduceToNat, eq_self, true_or, or_true, and_true, true_and, and_self, ↓ite_gb0, ↓ite_gbn, ↓if_pos, ↓if_neg, if_true, if_false, not_true_eq_false, not_false_eq_true, gb_ne0, gb_eq0]
  have fin : ∀ (at' : Nat) (τ : gMm), at' ≤ n → (at' = 0 ∨ σ 110 (at' - 1) ≤ a1) → (∀ i : Nat, i < at' → τ 110 i = σ 110 i ∧ τ 111 i = σ 111 i ∧ τ 112 i = σ 112 i ∧ τ 113 i = σ 113 i) ∧ (∀ i : Nat, at' ≤ i → i < n → (a1 < σ 110 i) ∧ τ 110 (i + 1) = σ 110 i ∧ τ 111 (i + 1) = σ 111 i ∧ τ 112 (i + 1) = σ 112 i ∧ τ 113 (i + 1) = σ 113 i) ∧ Agr σ τ (fun k _ => 110 ≤ k ∧ k ≤ 113) → Wp L d k_D_add 94 [vR 109, vI a1, vI a2, vI a3, vI a4, vI (at' : Int)] [] τ (fun r' σ' => r' = some (vI (n : Int)) ∧ (∃ at' : Nat, at' ≤ n ∧ (at' = 0 ∨ σ 110 (at' - 1) ≤ a1) ∧ (∀ i : Nat, at' ≤ i → i < n → a1 < σ 110 i) ∧ (∀ i : Nat, i ≤ n → σ' 110 i = (if i < at' then σ 110 i else if i = at' then a1 else σ 110 (i - 1)) ∧ σ' 111 i = (if i < at' then σ 111 i else if i = at' then a2 else σ 111 (i - 1)) ∧ σ' 112 i = (if i < at' then σ 112 i else if i = at' then a3 else σ 112 (i - 1)) ∧ σ' 113 i = (if i < at' then σ 113 i else if i = at' then a4 else σ 113 (i - 1)))) ∧ σ' 109 5 = (n : Int) + 1 ∧ Agr σ σ' (fun k j => (110 ≤ k ∧ k ≤ 113) ∨ (k = 109 ∧ j = 5))) := fun at' τ ha hd hh => by
    obtain ⟨i1, i2, hA⟩ := hh
    have e5 : τ 109 5 = n := by rw [hA 109 5 (by omega)]; exact hn
    simp (disch := first | assumption | exact gb_01 _ | omega) only [r_D_add_0, r_D_add_1, r_D_add_4, r_D_add_8, r_D_add_11, r_D_add_12, r_D_add_15, r_D_add_17, r_D_add_18, r_D_add_19, r_D_add_20, r_D_add_21, r_D_add_24, r_D_add_25, r_D_add_28, r_D_add_30, r_D_add_31, r_D_add_34, r_D_add_36, r_D_add_37, r_D_add_38, r_D_add_39, r_D_add_40, r_D_add_41, r_D_add_44, r_D_add_46, r_D_add_47, r_D_add_50, r_D_add_52, r_D_add_53, r_D_add_54, r_D_add_55, r_D_add_56, r_D_add_57, r_D_add_60, r_D_add_62, r_D_add_63, r_D_add_66, r_D_add_68, r_D_add_69, r_D_add_70, r_D_add_71, r_D_add_72, r_D_add_73, r_D_add_76, r_D_add_78, r_D_add_79, r_D_add_82, r_D_add_84, r_D_add_85, r_D_add_86, r_D_add_87, r_D_add_88, r_D_add_91, r_D_add_94, r_D_add_95, r_D_add_98, r_D_add_100, r_D_add_101, r_D_add_102, r_D_add_103, r_D_add_106, r_D_add_108, r_D_add_109, r_D_add_110, r_D_add_111, r_D_add_114, r_D_add_116, r_D_add_117, r_D_add_118, r_D_add_119, r_D_add_122, r_D_add_124, r_D_add_126, r_D_add_127, r_D_add_128, r_D_add_129, r_D_add_132, r_D_add_133, r_D_add_134, r_D_add_135, r_D_add_138, w0, w1, w2, w3, w4, e5, gupd_ne, w32_gb, w32i, tn_add, tn_mul, Int.toNat_natCast, Int.toNat_zero, Int.reduceLE, Int.reduceLT, Int.reduceEq, Int.reduceNe, gb_T, gb_F, Int.reduceToNat, eq_self, true_or, or_true, and_true, true_and, and_self, ↓ite_gb0, ↓ite_gbn, ↓if_pos, ↓if_neg, if_true, if_false, not_true_eq_false, not_false_eq_true, gb_ne0, gb_eq0]
    refine ⟨⟨at', ha, hd, fun i x y => (i2 i x y).1, fun i hi => ?_⟩, ?_, fun k j hn => ?_⟩
    · by_cases c1 : i < at'
      · rw [if_pos c1, if_pos c1, if_pos c1, if_pos c1]
        simp (disch := omega) only [gupd_ne]
        exact i1 i c1
      · by_cases c2 : i = at'
        · rw [if_neg c1, if_neg c1, if_neg c1, if_neg c1, if_pos c2, if_pos c2, if_pos c2, if_pos c2, c2]
          simp (disch := omega) only [gupd_ne, gupd_eq, and_self]
        · rw [if_neg c1, if_neg c1, if_neg c1, if_neg c1, if_neg c2, if_neg c2, if_neg c2, if_neg c2]
          simp (disch := omega) only [gupd_ne]
          have := i2 (i - 1) (by omega) (by omega)
          rw [show i - 1 + 1 = i by omega] at this
          exact this.2
    · rw [gupd_eq]
    · simp (disch := omega) only [gupd_ne]
      exact hA k j (by omega)
  refine wloop (n := n) (I := fun k ls τ => ∃ at' : Nat, at' + k = n ∧ ls = [vR 109, vI a1, vI a2, vI a3, vI a4, vI (at' : Int)] ∧ (∀ i : Nat, i < at' → τ 110 i = σ 110 i ∧ τ 111 i = σ 111 i ∧ τ 112 i = σ 112 i ∧ τ 113 i = σ 113 i) ∧ (∀ i : Nat, at' ≤ i → i < n → (a1 < σ 110 i) ∧ τ 110 (i + 1) = σ 110 i ∧ τ 111 (i + 1) = σ 111 i ∧ τ 112 (i + 1) = σ 112 i ∧ τ 113 (i + 1) = σ 113 i) ∧ Agr σ τ (fun k _ => 110 ≤ k ∧ k ≤ 113)) (fun k ls τ hk hi hq => ?_) (fun ls τ hi => ?_) n 0 (by omega) _ _ ⟨n, by omega, rfl, fun i hi => ⟨rfl, rfl, rfl, rfl⟩, fun i x y => by omega, Agr_refl _ _⟩
  · obtain ⟨at', e, rfl, i1, i2, hA⟩ := hi
    obtain ⟨b, rfl⟩ : ∃ b, at' = b + 1 := ⟨at' - 1, by omega⟩
    have z := i1 b (by omega)
    have et : (((b + 1 : Nat) : Int) - 1).toNat = b := by omega
    have fin2 := fin (b + 1) τ (by omega)
    rw [r_D_add_6]
    by_cases c : a1 < σ 110 b
    · have ec : w32 (((b + 1 : Nat) : Int) + -1) = (b : Int) := by
        rw [w32i (by omega)]
        omega
      have et2 : (((b + 1 : Nat) : Int)).toNat = b + 1 := by omega
      simp (disch := first | assumption | exact gb_01 _ | omega) only [r_D_add_0, r_D_add_1, r_D_add_4, r_D_add_8, r_D_add_11, r_D_add_12, r_D_add_15, r_D_add_17, r_D_add_18, r_D_add_19, r_D_add_20, r_D_add_21, r_D_add_24, r_D_add_25, r_D_add_28, r_D_add_30, r_D_add_31, r_D_add_34, r_D_add_36, r_D_add_37, r_D_add_38, r_D_add_39, r_D_add_40, r_D_add_41, r_D_add_44, r_D_add_46, r_D_add_47, r_D_add_50, r_D_add_52, r_D_add_53, r_D_add_54, r_D_add_55, r_D_add_56, r_D_add_57, r_D_add_60, r_D_add_62, r_D_add_63, r_D_add_66, r_D_add_68, r_D_add_69, r_D_add_70, r_D_add_71, r_D_add_72, r_D_add_73, r_D_add_76, r_D_add_78, r_D_add_79, r_D_add_82, r_D_add_84, r_D_add_85, r_D_add_86, r_D_add_87, r_D_add_88, r_D_add_91, r_D_add_94, r_D_add_95, r_D_add_98, r_D_add_100, r_D_add_101, r_D_add_102, r_D_add_103, r_D_add_106, r_D_add_108, r_D_add_109, r_D_add_110, r_D_add_111, r_D_add_114, r_D_add_116, r_D_add_117, r_D_add_118, r_D_add_119, r_D_add_122, r_D_add_124, r_D_add_126, r_D_add_127, r_D_add_128, r_D_add_129, r_D_add_132, r_D_add_133, r_D_add_134, r_D_add_135, r_D_add_138, w0, w1, w2, w3, w4, et, et2, ec, gupd_ne, z, w32_gb, w32i, tn_add, tn_mul, Int.toNat_natCast, Int.toNat_zero, Int.reduceLE, Int.reduceLT, Int.reduceEq, Int.reduceNe, gb_T, gb_F, Int.reduceToNat, eq_self, true_or, or_true, and_true, true_and, and_self, ↓ite_gb0, ↓ite_gbn, ↓if_pos, ↓if_neg, if_true, if_false, not_true_eq_false, not_false_eq_true, gb_ne0, gb_eq0]
      refine hq _ _ ⟨b, by omega, rfl, fun i hi => ?_, fun i x y => ?_, Agr_upd (Agr_upd (Agr_upd (Agr_upd hA (by omega)) (by omega)) (by omega)) (by omega)⟩
      · simp (disch := omega) only [gupd_ne]
        exact i1 i (by omega)
      · by_cases e2 : i = b
        · rw [e2]
          simp (disch := omega) only [gupd_ne, gupd_eq, and_self, and_true]
          exact c
        · simp (disch := omega) only [gupd_ne]
          exact i2 i (by omega) y
    · simp (disch := first | assumption | exact gb_01 _ | omega) only [r_D_add_0, r_D_add_1, r_D_add_4, r_D_add_8, r_D_add_11, r_D_add_12, r_D_add_15, r_D_add_17, r_D_add_18, r_D_add_19, r_D_add_20, r_D_add_21, r_D_add_24, r_D_add_25, r_D_add_28, r_D_add_30, r_D_add_31, r_D_add_34, r_D_add_36, r_D_add_37, r_D_add_38, r_D_add_39, r_D_add_40, r_D_add_41, r_D_add_44, r_D_add_46, r_D_add_47, r_D_add_50, r_D_add_52, r_D_add_53, r_D_add_54, r_D_add_55, r_D_add_56, r_D_add_57, r_D_add_60, r_D_add_62, r_D_add_63, r_D_add_66, r_D_add_68, r_D_add_69, r_D_add_70, r_D_add_71, r_D_add_72, r_D_add_73, r_D_add_76, r_D_add_78, r_D_add_79, r_D_add_82, r_D_add_84, r_D_add_85, r_D_add_86, r_D_add_87, r_D_add_88, r_D_add_91, w0, w1, w2, w3, w4, et, z, w32_gb, w32i, tn_add, tn_mul, Int.toNat_natCast, Int.toNat_zero, Int.reduceLE, Int.reduceLT, Int.reduceEq, Int.reduceNe, gb_T, gb_F, Int.reduceToNat, eq_self, true_or, or_true, and_true, true_and, and_self, ↓ite_gb0, ↓ite_gbn, ↓if_pos, ↓if_neg, if_true, if_false, not_true_eq_false, not_false_eq_true, gb_ne0, gb_eq0]
      exact fin2 (Or.inr (by rw [Nat.add_sub_cancel]; omega)) ⟨i1, i2, hA⟩
  · obtain ⟨at', e, rfl, i1, i2, hA⟩ := hi
    have e0 : at' = 0 := by omega
    subst e0
    have fin2 := fin 0 τ (by omega) (Or.inl rfl) ⟨i1, i2, hA⟩
    rw [r_D_add_6]
    simp (disch := first | assumption | exact gb_01 _ | omega) only [r_D_add_0, r_D_add_1, r_D_add_4, r_D_add_8, r_D_add_11, r_D_add_12, r_D_add_15, r_D_add_17, r_D_add_18, r_D_add_19, r_D_add_20, r_D_add_21, r_D_add_24, r_D_add_25, r_D_add_28, r_D_add_30, r_D_add_31, r_D_add_34, r_D_add_36, r_D_add_37, r_D_add_38, r_D_add_39, r_D_add_40, r_D_add_41, r_D_add_44, r_D_add_46, r_D_add_47, r_D_add_50, r_D_add_52, r_D_add_53, r_D_add_54, r_D_add_55, r_D_add_56, r_D_add_57, r_D_add_60, r_D_add_62, r_D_add_63, r_D_add_66, r_D_add_68, r_D_add_69, r_D_add_70, r_D_add_71, r_D_add_72, r_D_add_73, r_D_add_76, r_D_add_78, r_D_add_79, r_D_add_82, r_D_add_84, r_D_add_85, r_D_add_86, r_D_add_87, r_D_add_88, r_D_add_91, w0, w1, w2, w3, w4, w32_gb, w32i, tn_add, tn_mul, Int.toNat_natCast, Int.toNat_zero, Int.reduceLE, Int.reduceLT, Int.reduceEq, Int.reduceNe, gb_T, gb_F, Int.reduceToNat, eq_self, true_or, or_true, and_true, true_and, and_self, ↓ite_gb0, ↓ite_gbn, ↓if_pos, ↓if_neg, if_true, if_false, not_true_eq_false, not_false_eq_true, gb_ne0, gb_eq0]
    exact fin2
theorem r_X_word_0 : Wp L d k_X_word 0 [l0, vI a1, l2, l3, l4] [] σ Q ↔ Wp L d k_X_word 1 [l0, vI a1, l2, l3, l4] [vI a1] σ Q := wp_iload rfl rfl
theorem r_X_word_4 : Wp L d k_X_word 4 [l0, l1, l2, l3, l4] [vI s0] σ Q ↔ (if s0 = 0 then Wp L d k_X_word 34 [l0, l1, l2, l3, l4] [] σ Q else Wp L d k_X_word 7 [l0, l1, l2, l3, l4] [] σ Q) := wp_if_eq rfl
theorem r_X_word_7 : Wp L d k_X_word 7 [l0, l1, vI a2, l3, l4] [] σ Q ↔ Wp L d k_X_word 8 [l0, l1, vI a2, l3, l4] [vI a2] σ Q := wp_iload rfl rfl
theorem r_X_word_11 : Wp L d k_X_word 11 [l0, l1, l2, l3, l4] [vI s0] σ Q ↔ (if s0 = 0 then Wp L d k_X_word 34 [l0, l1, l2, l3, l4] [] σ Q else Wp L d k_X_word 14 [l0, l1, l2, l3, l4] [] σ Q) := wp_if_eq rfl
theorem r_X_word_14 : Wp L d k_X_word 14 [l0, l1, l2, vI a3, l4] [] σ Q ↔ Wp L d k_X_word 15 [l0, l1, l2, vI a3, l4] [vI a3] σ Q := wp_iload rfl rfl
theorem r_X_word_18 : Wp L d k_X_word 18 [l0, l1, l2, l3, l4] [vI s0] σ Q ↔ (if s0 = 0 then Wp L d k_X_word 34 [l0, l1, l2, l3, l4] [] σ Q else Wp L d k_X_word 21 [l0, l1, l2, l3, l4] [] σ Q) := wp_if_eq rfl
theorem r_X_word_21 : Wp L d k_X_word 21 [l0, l1, vI a2, l3, l4] [] σ Q ↔ Wp L d k_X_word 22 [l0, l1, vI a2, l3, l4] [vI a2] σ Q := wp_iload rfl rfl
theorem r_X_word_22 : Wp L d k_X_word 22 [l0, l1, l2, vI a3, l4] [vI s0] σ Q ↔ Wp L d k_X_word 23 [l0, l1, l2, vI a3, l4] [vI a3, vI s0] σ Q := wp_iload rfl rfl
theorem r_X_word_23 : Wp L d k_X_word 23 [l0, l1, l2, l3, l4] [vI s1, vI s0] σ Q ↔ (if s0 = s1 then Wp L d k_X_word 34 [l0, l1, l2, l3, l4] [] σ Q else Wp L d k_X_word 26 [l0, l1, l2, l3, l4] [] σ Q) := wp_cmp_eq rfl
theorem r_X_word_26 : Wp L d k_X_word 26 [l0, l1, l2, l3, vI a4] [] σ Q ↔ Wp L d k_X_word 28 [l0, l1, l2, l3, vI a4] [vI a4] σ Q := wp_iload rfl rfl
theorem r_X_word_31 : Wp L d k_X_word 31 [l0, l1, l2, l3, l4] [vI s0] σ Q ↔ (if s0 ≠ 0 then Wp L d k_X_word 37 [l0, l1, l2, l3, l4] [] σ Q else Wp L d k_X_word 34 [l0, l1, l2, l3, l4] [] σ Q) := wp_if_ne rfl
theorem r_X_word_34 : Wp L d k_X_word 34 [l0, l1, l2, l3, l4] [] σ Q ↔ Wp L d k_X_word 36 [l0, l1, l2, l3, l4] [vI (-1000000001)] σ Q := wp_push rfl
theorem r_X_word_36 : Wp L d k_X_word 36 [l0, l1, l2, l3, l4] [vI s0] σ Q ↔ Q (some (vI s0)) σ := wp_iret rfl
theorem r_X_word_37 : Wp L d k_X_word 37 [vR b0, l1, l2, l3, l4] [] σ Q ↔ Wp L d k_X_word 38 [vR b0, l1, l2, l3, l4] [vR b0] σ Q := wp_aload rfl rfl
theorem r_X_word_38 (h : gK c0 = 0) : Wp L d k_X_word 38 [l0, l1, l2, l3, l4] [vR c0] σ Q ↔ Wp L d k_X_word 41 [l0, l1, l2, l3, l4] [vR (gq c0 0)] σ Q := wp_getR (c := 128) rfl rfl rfl rfl rfl h
theorem r_X_word_41 (h : gK c0 = 5) : Wp L d k_X_word 41 [l0, l1, l2, l3, l4] [vR c0] σ Q ↔ Wp L d k_X_word 44 [l0, l1, l2, l3, l4] [vR (gq c0 4)] σ Q := wp_getR (c := 1412) rfl rfl rfl rfl rfl h
theorem r_X_word_44 (h : gK c0 = 11) : Wp L d k_X_word 44 [l0, l1, l2, l3, l4] [vR c0] σ Q ↔ Wp L d k_X_word 47 [l0, l1, l2, l3, l4] [vI (σ c0 5)] σ Q := wp_getI (c := 2821) rfl rfl rfl rfl h
theorem r_X_word_47 : Wp L d k_X_word 47 [l0, l1, l2, l3, l4] [vI s0] σ Q ↔ Wp L d k_X_word 49 [l0, l1, l2, l3, l4] [vI 30, vI s0] σ Q := wp_push rfl
theorem r_X_word_49 : Wp L d k_X_word 49 [l0, l1, l2, l3, l4] [vI s1, vI s0] σ Q ↔ (if s1 ≤ s0 then Wp L d k_X_word 70 [l0, l1, l2, l3, l4] [] σ Q else Wp L d k_X_word 52 [l0, l1, l2, l3, l4] [] σ Q) := wp_cmp_ge rfl
theorem r_X_word_52 : Wp L d k_X_word 52 [vR b0, l1, l2, l3, l4] [] σ Q ↔ Wp L d k_X_word 53 [vR b0, l1, l2, l3, l4] [vR b0] σ Q := wp_aload rfl rfl
theorem r_X_word_53 (h : gK c0 = 0) : Wp L d k_X_word 53 [l0, l1, l2, l3, l4] [vR c0] σ Q ↔ Wp L d k_X_word 56 [l0, l1, l2, l3, l4] [vR (gq c0 0)] σ Q := wp_getR (c := 128) rfl rfl rfl rfl rfl h
theorem r_X_word_56 (h : gK c0 = 5) : Wp L d k_X_word 56 [l0, l1, l2, l3, l4] [vR c0] σ Q ↔ Wp L d k_X_word 59 [l0, l1, l2, l3, l4] [vR (gq c0 4)] σ Q := wp_getR (c := 1412) rfl rfl rfl rfl rfl h
theorem r_X_word_59 : Wp L d k_X_word 59 [l0, vI a1, l2, l3, l4] [vR c0] σ Q ↔ Wp L d k_X_word 60 [l0, vI a1, l2, l3, l4] [vI a1, vR c0] σ Q := wp_iload rfl rfl
theorem r_X_word_60 : Wp L d k_X_word 60 [l0, l1, vI a2, l3, l4] [vI s1, vR c0] σ Q ↔ Wp L d k_X_word 61 [l0, l1, vI a2, l3, l4] [vI a2, vI s1, vR c0] σ Q := wp_iload rfl rfl
theorem r_X_word_61 : Wp L d k_X_word 61 [l0, l1, l2, vI a3, l4] [vI s2, vI s1, vR c0] σ Q ↔ Wp L d k_X_word 62 [l0, l1, l2, vI a3, l4] [vI a3, vI s2, vI s1, vR c0] σ Q := wp_iload rfl rfl
theorem r_X_word_62 : Wp L d k_X_word 62 [l0, l1, l2, l3, vI a4] [vI s3, vI s2, vI s1, vR c0] σ Q ↔ Wp L d k_X_word 64 [l0, l1, l2, l3, vI a4] [vI a4, vI s3, vI s2, vI s1, vR c0] σ Q := wp_iload rfl rfl
theorem c_X_word_64 (hR : Run L d 186 [vR c0, vI s1, vI s2, vI s3, vI s4] σ r σ1) (h : gK c0 = 11) : Wp L (d + 1) k_X_word 64 [l0, l1, l2, l3, l4] [vI s4, vI s3, vI s2, vI s1, vR c0] σ Q ↔ Wp L (d + 1) k_X_word 67 [l0, l1, l2, l3, l4] (r.toList ++ []) σ1 Q := wp_callR (as := [vR c0, vI s1, vI s2, vI s3, vI s4]) (rest := []) rfl rfl rfl rfl rfl rfl rfl (grecv_k (by rw [h]) rfl) hR
theorem r_X_word_67 : Wp L d k_X_word 67 [l0, l1, l2, l3, l4] [vI s0] σ Q ↔ Wp L d k_X_word 72 [l0, l1, l2, l3, l4] [vI s0] σ Q := wp_goto rfl
theorem r_X_word_70 : Wp L d k_X_word 70 [l0, l1, l2, l3, l4] [] σ Q ↔ Wp L d k_X_word 72 [l0, l1, l2, l3, l4] [vI (-1000000003)] σ Q := wp_push rfl
theorem r_X_word_72 : Wp L d k_X_word 72 [l0, l1, l2, l3, l4] [vI s0] σ Q ↔ Q (some (vI s0)) σ := wp_iret rfl
theorem r_X_word_1 : Wp L (d + 2) k_X_word 1 [l0, l1, l2, l3, l4] [vI s0] σ Q ↔ Wp L (d + 2) k_X_word 4 [l0, l1, l2, l3, l4] [vI (gb (0 ≤ s0 ∧ s0 ≤ 9999))] σ Q := wp_callR (d := d + 1) (as := [vI s0]) (rest := []) rfl rfl rfl rfl rfl rfl rfl rfl (sp_X_isDay)
theorem r_X_word_8 : Wp L (d + 2) k_X_word 8 [l0, l1, l2, l3, l4] [vI s0] σ Q ↔ Wp L (d + 2) k_X_word 11 [l0, l1, l2, l3, l4] [vI (gb (0 ≤ s0 ∧ s0 ≤ 7))] σ Q := wp_callR (d := d + 1) (as := [vI s0]) (rest := []) rfl rfl rfl rfl rfl rfl rfl rfl (sp_X_isOffice)
theorem r_X_word_15 : Wp L (d + 2) k_X_word 15 [l0, l1, l2, l3, l4] [vI s0] σ Q ↔ Wp L (d + 2) k_X_word 18 [l0, l1, l2, l3, l4] [vI (gb (0 ≤ s0 ∧ s0 ≤ 7))] σ Q := wp_callR (d := d + 1) (as := [vI s0]) (rest := []) rfl rfl rfl rfl rfl rfl rfl rfl (sp_X_isOffice)
theorem r_X_word_28 : Wp L (d + 2) k_X_word 28 [l0, l1, l2, l3, l4] [vI s0] σ Q ↔ Wp L (d + 2) k_X_word 31 [l0, l1, l2, l3, l4] [vI (gb (0 ≤ s0 ∧ s0 ≤ 9))] σ Q := wp_callR (d := d + 1) (as := [vI s0]) (rest := []) rfl rfl rfl rfl rfl rfl rfl rfl (sp_X_isMatter)
theorem sp_X_word_b (h : ¬ (((0 ≤ a1 ∧ a1 ≤ 9999) ∧ (0 ≤ a2 ∧ a2 ≤ 7)) ∧ (0 ≤ a3 ∧ a3 ≤ 7) ∧ ¬ a2 = a3 ∧ 0 ≤ a4 ∧ a4 ≤ 9)) : Run L (d + 2) 61 [vR 27, vI a1, vI a2, vI a3, vI a4] σ (some (vI (-1000000001))) σ := by
  refine Run_of (C' := k_X_word) rfl ?_
  show Wp L (d + 2) k_X_word 0 [vR 27, vI a1, vI a2, vI a3, vI a4] [] σ _
  obtain ⟨K27, K28, K29, K78, K97, K99, K109, K123, K125, K279, K282⟩ := litX
  by_cases e1 : 0 ≤ a1 ∧ a1 ≤ 9999
  · by_cases e2 : 0 ≤ a2 ∧ a2 ≤ 7
    · by_cases e3 : 0 ≤ a3 ∧ a3 ≤ 7
      · by_cases e4 : a2 = a3
        · simp (disch := first | assumption | exact gb_01 _ | omega) only [r_X_word_0, r_X_word_1, r_X_word_4, r_X_word_7, r_X_word_8, r_X_word_11, r_X_word_14, r_X_word_15, r_X_word_18, r_X_word_21, r_X_word_22, r_X_word_23, r_X_word_26, r_X_word_28, r_X_word_31, r_X_word_34, r_X_word_36, gq_27_0, gq_27_1, gq_27_2, gq_27_3, gq_27_4, gq_27_5, gq_27_6, gq_28_0, gq_28_1, gq_28_2, gq_28_3, gq_28_4, gq_28_5, gq_28_6, w32_gb, w32i, tn_add, tn_mul, Int.toNat_natCast, Int.toNat_zero, Int.reduceLE, Int.reduceLT, Int.reduceEq, Int.reduceNe, gb_T, gb_F, Int.reduceToNat, eq_self, true_or, or_true, and_true, true_and, and_self, ↓ite_gb0, ↓ite_gbn, ↓if_pos, ↓if_neg, if_true, if_false, not_true_eq_false, not_false_eq_true, gb_ne0, gb_eq0]
        · simp (disch := first | assumption | exact gb_01 _ | omega) only [r_X_word_0, r_X_word_1, r_X_word_4, r_X_word_7, r_X_word_8, r_X_word_11, r_X_word_14, r_X_word_15, r_X_word_18, r_X_word_21, r_X_word_22, r_X_word_23, r_X_word_26, r_X_word_28, r_X_word_31, r_X_word_34, r_X_word_36, gq_27_0, gq_27_1, gq_27_2, gq_27_3, gq_27_4, gq_27_5, gq_27_6, gq_28_0, gq_28_1, gq_28_2, gq_28_3, gq_28_4, gq_28_5, gq_28_6, w32_gb, w32i, tn_add, tn_mul, Int.toNat_natCast, Int.toNat_zero, Int.reduceLE, Int.reduceLT, Int.reduceEq, Int.reduceNe, gb_T, gb_F, Int.reduceToNat, eq_self, true_or, or_true, and_true, true_and, and_self, ↓ite_gb0, ↓ite_gbn, ↓if_pos, ↓if_neg, if_true, if_false, not_true_eq_false, not_false_eq_true, gb_ne0, gb_eq0]
      · simp (disch := first | assumption | exact gb_01 _ | omega) only [r_X_word_0, r_X_word_1, r_X_word_4, r_X_word_7, r_X_word_8, r_X_word_11, r_X_word_14, r_X_word_15, r_X_word_18, r_X_word_21, r_X_word_22, r_X_word_23, r_X_word_26, r_X_word_28, r_X_word_31, r_X_word_34, r_X_word_36, gq_27_0, gq_27_1, gq_27_2, gq_27_3, gq_27_4, gq_27_5, gq_27_6, gq_28_0, gq_28_1, gq_28_2, gq_28_3, gq_28_4, gq_28_5, gq_28_6, w32_gb, w32i, tn_add, tn_mul, Int.toNat_natCast, Int.toNat_zero, Int.reduceLE, Int.reduceLT, Int.reduceEq, Int.reduceNe, gb_T, gb_F, Int.reduceToNat, eq_self, true_or, or_true, and_true, true_and, and_self, ↓ite_gb0, ↓ite_gbn, ↓if_pos, ↓if_neg, if_true, if_false, not_true_eq_false, not_false_eq_true, gb_ne0, gb_eq0]
    · simp (disch := first | assumption | exact gb_01 _ | omega) only [r_X_word_0, r_X_word_1, r_X_word_4, r_X_word_7, r_X_word_8, r_X_word_11, r_X_word_14, r_X_word_15, r_X_word_18, r_X_word_21, r_X_word_22, r_X_word_23, r_X_word_26, r_X_word_28, r_X_word_31, r_X_word_34, r_X_word_36, gq_27_0, gq_27_1, gq_27_2, gq_27_3, gq_27_4, gq_27_5, gq_27_6, gq_28_0, gq_28_1, gq_28_2, gq_28_3, gq_28_4, gq_28_5, gq_28_6, w32_gb, w32i, tn_add, tn_mul, Int.toNat_natCast, Int.toNat_zero, Int.reduceLE, Int.reduceLT, Int.reduceEq, Int.reduceNe, gb_T, gb_F, Int.reduceToNat, eq_self, true_or, or_true, and_true, true_and, and_self, ↓ite_gb0, ↓ite_gbn, ↓if_pos, ↓if_neg, if_true, if_false, not_true_eq_false, not_false_eq_true, gb_ne0, gb_eq0]
  · simp (disch := first | assumption | exact gb_01 _ | omega) only [r_X_word_0, r_X_word_1, r_X_word_4, r_X_word_7, r_X_word_8, r_X_word_11, r_X_word_14, r_X_word_15, r_X_word_18, r_X_word_21, r_X_word_22, r_X_word_23, r_X_word_26, r_X_word_28, r_X_word_31, r_X_word_34, r_X_word_36, gq_27_0, gq_27_1, gq_27_2, gq_27_3, gq_27_4, gq_27_5, gq_27_6, gq_28_0, gq_28_1, gq_28_2, gq_28_3, gq_28_4, gq_28_5, gq_28_6, w32_gb, w32i, tn_add, tn_mul, Int.toNat_natCast, Int.toNat_zero, Int.reduceLE, Int.reduceLT, Int.reduceEq, Int.reduceNe, gb_T, gb_F, Int.reduceToNat, eq_self, true_or, or_true, and_true, true_and, and_self, ↓ite_gb0, ↓ite_gbn, ↓if_pos, ↓if_neg, if_true, if_false, not_true_eq_false, not_false_eq_true, gb_ne0, gb_eq0]
theorem r_M_word_0 : Wp L d k_M_word 0 [l0, vI a1, l2, l3, l4, l5] [] σ Q ↔ Wp L d k_M_word 1 [l0, vI a1, l2, l3, l4, l5] [vI a1] σ Q := wp_iload rfl rfl
theorem r_M_word_4 : Wp L d k_M_word 4 [l0, l1, l2, l3, l4, l5] [vI s0] σ Q ↔ (if s0 = 0 then Wp L d k_M_word 34 [l0, l1, l2, l3, l4, l5] [] σ Q else Wp L d k_M_word 7 [l0, l1, l2, l3, l4, l5] [] σ Q) := wp_if_eq rfl
theorem r_M_word_7 : Wp L d k_M_word 7 [l0, l1, vI a2, l3, l4, l5] [] σ Q ↔ Wp L d k_M_word 8 [l0, l1, vI a2, l3, l4, l5] [vI a2] σ Q := wp_iload rfl rfl
theorem r_M_word_11 : Wp L d k_M_word 11 [l0, l1, l2, l3, l4, l5] [vI s0] σ Q ↔ (if s0 = 0 then Wp L d k_M_word 34 [l0, l1, l2, l3, l4, l5] [] σ Q else Wp L d k_M_word 14 [l0, l1, l2, l3, l4, l5] [] σ Q) := wp_if_eq rfl
theorem r_M_word_14 : Wp L d k_M_word 14 [l0, l1, l2, vI a3, l4, l5] [] σ Q ↔ Wp L d k_M_word 15 [l0, l1, l2, vI a3, l4, l5] [vI a3] σ Q := wp_iload rfl rfl
theorem r_M_word_18 : Wp L d k_M_word 18 [l0, l1, l2, l3, l4, l5] [vI s0] σ Q ↔ (if s0 = 0 then Wp L d k_M_word 34 [l0, l1, l2, l3, l4, l5] [] σ Q else Wp L d k_M_word 21 [l0, l1, l2, l3, l4, l5] [] σ Q) := wp_if_eq rfl
theorem r_M_word_21 : Wp L d k_M_word 21 [l0, l1, vI a2, l3, l4, l5] [] σ Q ↔ Wp L d k_M_word 22 [l0, l1, vI a2, l3, l4, l5] [vI a2] σ Q := wp_iload rfl rfl
theorem r_M_word_22 : Wp L d k_M_word 22 [l0, l1, l2, vI a3, l4, l5] [vI s0] σ Q ↔ Wp L d k_M_word 23 [l0, l1, l2, vI a3, l4, l5] [vI a3, vI s0] σ Q := wp_iload rfl rfl
theorem r_M_word_23 : Wp L d k_M_word 23 [l0, l1, l2, l3, l4, l5] [vI s1, vI s0] σ Q ↔ (if s0 = s1 then Wp L d k_M_word 34 [l0, l1, l2, l3, l4, l5] [] σ Q else Wp L d k_M_word 26 [l0, l1, l2, l3, l4, l5] [] σ Q) := wp_cmp_eq rfl
theorem r_M_word_26 : Wp L d k_M_word 26 [l0, l1, l2, l3, vI a4, l5] [] σ Q ↔ Wp L d k_M_word 28 [l0, l1, l2, l3, vI a4, l5] [vI a4] σ Q := wp_iload rfl rfl
theorem r_M_word_31 : Wp L d k_M_word 31 [l0, l1, l2, l3, l4, l5] [vI s0] σ Q ↔ (if s0 ≠ 0 then Wp L d k_M_word 37 [l0, l1, l2, l3, l4, l5] [] σ Q else Wp L d k_M_word 34 [l0, l1, l2, l3, l4, l5] [] σ Q) := wp_if_ne rfl
theorem r_M_word_34 : Wp L d k_M_word 34 [l0, l1, l2, l3, l4, l5] [] σ Q ↔ Wp L d k_M_word 36 [l0, l1, l2, l3, l4, l5] [vI (-1000000001)] σ Q := wp_push rfl
theorem r_M_word_36 : Wp L d k_M_word 36 [l0, l1, l2, l3, l4, l5] [vI s0] σ Q ↔ Q (some (vI s0)) σ := wp_iret rfl
theorem r_M_word_37 : Wp L d k_M_word 37 [vR b0, l1, l2, l3, l4, l5] [] σ Q ↔ Wp L d k_M_word 38 [vR b0, l1, l2, l3, l4, l5] [vR b0] σ Q := wp_aload rfl rfl
theorem r_M_word_38 (h : gK c0 = 12) : Wp L d k_M_word 38 [l0, l1, l2, l3, l4, l5] [vR c0] σ Q ↔ Wp L d k_M_word 41 [l0, l1, l2, l3, l4, l5] [vR (gq c0 0)] σ Q := wp_getR (c := 3200) rfl rfl rfl rfl rfl h
theorem r_M_word_41 : Wp L d k_M_word 41 [l0, l1, l2, l3, l4, l5] [vR c0] σ Q ↔ Wp L d k_M_word 42 [l0, l1, l2, l3, l4, l5] [vI 3, vR c0] σ Q := wp_push rfl
theorem r_M_word_42 (h : gK c0 = 100) (hx : 0 ≤ s1 ∧ s1 < gN c0) : Wp L d k_M_word 42 [l0, l1, l2, l3, l4, l5] [vI s1, vR c0] σ Q ↔ Wp L d k_M_word 43 [l0, l1, l2, l3, l4, l5] [vI (σ c0 s1.toNat)] σ Q := wp_iald rfl h hx
theorem r_M_word_43 : Wp L d k_M_word 43 [l0, l1, l2, l3, l4, l5] [vI s0] σ Q ↔ Wp L d k_M_word 45 [l0, l1, l2, l3, l4, l5] [vI 30, vI s0] σ Q := wp_push rfl
theorem r_M_word_45 : Wp L d k_M_word 45 [l0, l1, l2, l3, l4, l5] [vI s1, vI s0] σ Q ↔ (if s0 ≠ s1 then Wp L d k_M_word 51 [l0, l1, l2, l3, l4, l5] [] σ Q else Wp L d k_M_word 48 [l0, l1, l2, l3, l4, l5] [] σ Q) := wp_cmp_ne rfl
theorem r_M_word_48 : Wp L d k_M_word 48 [l0, l1, l2, l3, l4, l5] [] σ Q ↔ Wp L d k_M_word 50 [l0, l1, l2, l3, l4, l5] [vI (-1000000003)] σ Q := wp_push rfl
theorem r_M_word_50 : Wp L d k_M_word 50 [l0, l1, l2, l3, l4, l5] [vI s0] σ Q ↔ Q (some (vI s0)) σ := wp_iret rfl
theorem r_M_word_51 : Wp L d k_M_word 51 [l0, l1, l2, l3, l4, l5] [] σ Q ↔ Wp L d k_M_word 54 [l0, l1, l2, l3, l4, l5] [vI 600] σ Q := wp_push rfl
theorem r_M_word_54 : Wp L d k_M_word 54 [l0, l1, l2, l3, l4, l5] [vI s0] σ Q ↔ Wp L d k_M_word 55 [l0, l1, l2, l3, l4, l5] [vI 4, vI s0] σ Q := wp_push rfl
theorem r_M_word_55 : Wp L d k_M_word 55 [vR b0, l1, l2, l3, l4, l5] [vI s1, vI s0] σ Q ↔ Wp L d k_M_word 56 [vR b0, l1, l2, l3, l4, l5] [vR b0, vI s1, vI s0] σ Q := wp_aload rfl rfl
theorem r_M_word_56 (h : gK c2 = 12) : Wp L d k_M_word 56 [l0, l1, l2, l3, l4, l5] [vR c2, vI s1, vI s0] σ Q ↔ Wp L d k_M_word 59 [l0, l1, l2, l3, l4, l5] [vR (gq c2 0), vI s1, vI s0] σ Q := wp_getR (c := 3200) rfl rfl rfl rfl rfl h
theorem r_M_word_59 : Wp L d k_M_word 59 [l0, l1, l2, l3, l4, l5] [vR c2, vI s1, vI s0] σ Q ↔ Wp L d k_M_word 60 [l0, l1, l2, l3, l4, l5] [vI 3, vR c2, vI s1, vI s0] σ Q := wp_push rfl
theorem r_M_word_60 (h : gK c2 = 100) (hx : 0 ≤ s3 ∧ s3 < gN c2) : Wp L d k_M_word 60 [l0, l1, l2, l3, l4, l5] [vI s3, vR c2, vI s1, vI s0] σ Q ↔ Wp L d k_M_word 61 [l0, l1, l2, l3, l4, l5] [vI (σ c2 s3.toNat), vI s1, vI s0] σ Q := wp_iald rfl h hx
theorem r_M_word_61 : Wp L d k_M_word 61 [l0, l1, l2, l3, l4, l5] [vI s2, vI s1, vI s0] σ Q ↔ Wp L d k_M_word 62 [l0, l1, l2, l3, l4, l5] [vI (w32 (s1 * s2)), vI s0] σ Q := wp_imul rfl
theorem r_M_word_62 : Wp L d k_M_word 62 [l0, l1, l2, l3, l4, l5] [vI s1, vI s0] σ Q ↔ Wp L d k_M_word 63 [l0, l1, l2, l3, l4, l5] [vI (w32 (s0 + s1))] σ Q := wp_iadd rfl
theorem r_M_word_63 : Wp L d k_M_word 63 [l0, l1, l2, l3, vI a4, l5] [vI s0] σ Q ↔ Wp L d k_M_word 65 [l0, l1, l2, l3, vI a4, vI s0] [] σ Q := wp_istore (i := 5) (ls := [l0, l1, l2, l3, vI a4, l5]) rfl rfl
theorem r_M_word_65 : Wp L d k_M_word 65 [vR b0, l1, l2, l3, l4, l5] [] σ Q ↔ Wp L d k_M_word 66 [vR b0, l1, l2, l3, l4, l5] [vR b0] σ Q := wp_aload rfl rfl
theorem r_M_word_66 (h : gK c0 = 12) : Wp L d k_M_word 66 [l0, l1, l2, l3, l4, l5] [vR c0] σ Q ↔ Wp L d k_M_word 69 [l0, l1, l2, l3, l4, l5] [vR (gq c0 0)] σ Q := wp_getR (c := 3200) rfl rfl rfl rfl rfl h
theorem r_M_word_69 : Wp L d k_M_word 69 [l0, l1, l2, l3, l4, vI a5] [vR c0] σ Q ↔ Wp L d k_M_word 71 [l0, l1, l2, l3, l4, vI a5] [vI a5, vR c0] σ Q := wp_iload rfl rfl
theorem r_M_word_71 : Wp L d k_M_word 71 [l0, vI a1, l2, l3, l4, l5] [vI s1, vR c0] σ Q ↔ Wp L d k_M_word 72 [l0, vI a1, l2, l3, l4, l5] [vI a1, vI s1, vR c0] σ Q := wp_iload rfl rfl
theorem r_M_word_72 (h : gK c0 = 100) (hx : 0 ≤ s1 ∧ s1 < gN c0) : Wp L d k_M_word 72 [l0, l1, l2, l3, l4, l5] [vI s2, vI s1, vR c0] σ Q ↔ Wp L d k_M_word 73 [l0, l1, l2, l3, l4, l5] [] (gupd σ c0 s1.toNat s2) Q := wp_iast rfl h hx
theorem r_M_word_73 : Wp L d k_M_word 73 [vR b0, l1, l2, l3, l4, l5] [] σ Q ↔ Wp L d k_M_word 74 [vR b0, l1, l2, l3, l4, l5] [vR b0] σ Q := wp_aload rfl rfl
theorem r_M_word_74 (h : gK c0 = 12) : Wp L d k_M_word 74 [l0, l1, l2, l3, l4, l5] [vR c0] σ Q ↔ Wp L d k_M_word 77 [l0, l1, l2, l3, l4, l5] [vR (gq c0 0)] σ Q := wp_getR (c := 3200) rfl rfl rfl rfl rfl h
theorem r_M_word_77 : Wp L d k_M_word 77 [l0, l1, l2, l3, l4, vI a5] [vR c0] σ Q ↔ Wp L d k_M_word 79 [l0, l1, l2, l3, l4, vI a5] [vI a5, vR c0] σ Q := wp_iload rfl rfl
theorem r_M_word_79 : Wp L d k_M_word 79 [l0, l1, l2, l3, l4, l5] [vI s1, vR c0] σ Q ↔ Wp L d k_M_word 80 [l0, l1, l2, l3, l4, l5] [vI 1, vI s1, vR c0] σ Q := wp_push rfl
theorem r_M_word_80 : Wp L d k_M_word 80 [l0, l1, l2, l3, l4, l5] [vI s2, vI s1, vR c0] σ Q ↔ Wp L d k_M_word 81 [l0, l1, l2, l3, l4, l5] [vI (w32 (s1 + s2)), vR c0] σ Q := wp_iadd rfl
theorem r_M_word_81 : Wp L d k_M_word 81 [l0, l1, vI a2, l3, l4, l5] [vI s1, vR c0] σ Q ↔ Wp L d k_M_word 82 [l0, l1, vI a2, l3, l4, l5] [vI a2, vI s1, vR c0] σ Q := wp_iload rfl rfl
theorem r_M_word_82 (h : gK c0 = 100) (hx : 0 ≤ s1 ∧ s1 < gN c0) : Wp L d k_M_word 82 [l0, l1, l2, l3, l4, l5] [vI s2, vI s1, vR c0] σ Q ↔ Wp L d k_M_word 83 [l0, l1, l2, l3, l4, l5] [] (gupd σ c0 s1.toNat s2) Q := wp_iast rfl h hx
theorem r_M_word_83 : Wp L d k_M_word 83 [vR b0, l1, l2, l3, l4, l5] [] σ Q ↔ Wp L d k_M_word 84 [vR b0, l1, l2, l3, l4, l5] [vR b0] σ Q := wp_aload rfl rfl
theorem r_M_word_84 (h : gK c0 = 12) : Wp L d k_M_word 84 [l0, l1, l2, l3, l4, l5] [vR c0] σ Q ↔ Wp L d k_M_word 87 [l0, l1, l2, l3, l4, l5] [vR (gq c0 0)] σ Q := wp_getR (c := 3200) rfl rfl rfl rfl rfl h
theorem r_M_word_87 : Wp L d k_M_word 87 [l0, l1, l2, l3, l4, vI a5] [vR c0] σ Q ↔ Wp L d k_M_word 89 [l0, l1, l2, l3, l4, vI a5] [vI a5, vR c0] σ Q := wp_iload rfl rfl
theorem r_M_word_89 : Wp L d k_M_word 89 [l0, l1, l2, l3, l4, l5] [vI s1, vR c0] σ Q ↔ Wp L d k_M_word 90 [l0, l1, l2, l3, l4, l5] [vI 2, vI s1, vR c0] σ Q := wp_push rfl
theorem r_M_word_90 : Wp L d k_M_word 90 [l0, l1, l2, l3, l4, l5] [vI s2, vI s1, vR c0] σ Q ↔ Wp L d k_M_word 91 [l0, l1, l2, l3, l4, l5] [vI (w32 (s1 + s2)), vR c0] σ Q := wp_iadd rfl
theorem r_M_word_91 : Wp L d k_M_word 91 [l0, l1, l2, vI a3, l4, l5] [vI s1, vR c0] σ Q ↔ Wp L d k_M_word 92 [l0, l1, l2, vI a3, l4, l5] [vI a3, vI s1, vR c0] σ Q := wp_iload rfl rfl
theorem r_M_word_92 (h : gK c0 = 100) (hx : 0 ≤ s1 ∧ s1 < gN c0) : Wp L d k_M_word 92 [l0, l1, l2, l3, l4, l5] [vI s2, vI s1, vR c0] σ Q ↔ Wp L d k_M_word 93 [l0, l1, l2, l3, l4, l5] [] (gupd σ c0 s1.toNat s2) Q := wp_iast rfl h hx
theorem r_M_word_93 : Wp L d k_M_word 93 [vR b0, l1, l2, l3, l4, l5] [] σ Q ↔ Wp L d k_M_word 94 [vR b0, l1, l2, l3, l4, l5] [vR b0] σ Q := wp_aload rfl rfl
theorem r_M_word_94 (h : gK c0 = 12) : Wp L d k_M_word 94 [l0, l1, l2, l3, l4, l5] [vR c0] σ Q ↔ Wp L d k_M_word 97 [l0, l1, l2, l3, l4, l5] [vR (gq c0 0)] σ Q := wp_getR (c := 3200) rfl rfl rfl rfl rfl h
theorem r_M_word_97 : Wp L d k_M_word 97 [l0, l1, l2, l3, l4, vI a5] [vR c0] σ Q ↔ Wp L d k_M_word 99 [l0, l1, l2, l3, l4, vI a5] [vI a5, vR c0] σ Q := wp_iload rfl rfl
theorem r_M_word_99 : Wp L d k_M_word 99 [l0, l1, l2, l3, l4, l5] [vI s1, vR c0] σ Q ↔ Wp L d k_M_word 100 [l0, l1, l2, l3, l4, l5] [vI 3, vI s1, vR c0] σ Q := wp_push rfl
theorem r_M_word_100 : Wp L d k_M_word 100 [l0, l1, l2, l3, l4, l5] [vI s2, vI s1, vR c0] σ Q ↔ Wp L d k_M_word 101 [l0, l1, l2, l3, l4, l5] [vI (w32 (s1 + s2)), vR c0] σ Q := wp_iadd rfl
theorem r_M_word_101 : Wp L d k_M_word 101 [l0, l1, l2, l3, vI a4, l5] [vI s1, vR c0] σ Q ↔ Wp L d k_M_word 103 [l0, l1, l2, l3, vI a4, l5] [vI a4, vI s1, vR c0] σ Q := wp_iload rfl rfl
theorem r_M_word_103 (h : gK c0 = 100) (hx : 0 ≤ s1 ∧ s1 < gN c0) : Wp L d k_M_word 103 [l0, l1, l2, l3, l4, l5] [vI s2, vI s1, vR c0] σ Q ↔ Wp L d k_M_word 104 [l0, l1, l2, l3, l4, l5] [] (gupd σ c0 s1.toNat s2) Q := wp_iast rfl h hx
theorem r_M_word_104 : Wp L d k_M_word 104 [vR b0, l1, l2, l3, l4, l5] [] σ Q ↔ Wp L d k_M_word 105 [vR b0, l1, l2, l3, l4, l5] [vR b0] σ Q := wp_aload rfl rfl
theorem r_M_word_105 (h : gK c0 = 12) : Wp L d k_M_word 105 [l0, l1, l2, l3, l4, l5] [vR c0] σ Q ↔ Wp L d k_M_word 108 [l0, l1, l2, l3, l4, l5] [vR (gq c0 0)] σ Q := wp_getR (c := 3200) rfl rfl rfl rfl rfl h
theorem r_M_word_108 : Wp L d k_M_word 108 [l0, l1, l2, l3, l4, l5] [vR c0] σ Q ↔ Wp L d k_M_word 109 [l0, l1, l2, l3, l4, l5] [vI 3, vR c0] σ Q := wp_push rfl
theorem r_M_word_109 : Wp L d k_M_word 109 [l0, l1, l2, l3, l4, l5] [vI s1, vR c0] σ Q ↔ Wp L d k_M_word 110 [l0, l1, l2, l3, l4, l5] [vI s1, vR c0, vI s1, vR c0] σ Q := wp_dup2 rfl
theorem r_M_word_110 (h : gK c2 = 100) (hx : 0 ≤ s3 ∧ s3 < gN c2) : Wp L d k_M_word 110 [l0, l1, l2, l3, l4, l5] [vI s3, vR c2, vI s1, vR c0] σ Q ↔ Wp L d k_M_word 111 [l0, l1, l2, l3, l4, l5] [vI (σ c2 s3.toNat), vI s1, vR c0] σ Q := wp_iald rfl h hx
theorem r_M_word_111 : Wp L d k_M_word 111 [l0, l1, l2, l3, l4, l5] [vI s2, vI s1, vR c0] σ Q ↔ Wp L d k_M_word 112 [l0, l1, l2, l3, l4, l5] [vI 1, vI s2, vI s1, vR c0] σ Q := wp_push rfl
theorem r_M_word_112 : Wp L d k_M_word 112 [l0, l1, l2, l3, l4, l5] [vI s3, vI s2, vI s1, vR c0] σ Q ↔ Wp L d k_M_word 113 [l0, l1, l2, l3, l4, l5] [vI (w32 (s2 + s3)), vI s1, vR c0] σ Q := wp_iadd rfl
theorem r_M_word_113 (h : gK c0 = 100) (hx : 0 ≤ s1 ∧ s1 < gN c0) : Wp L d k_M_word 113 [l0, l1, l2, l3, l4, l5] [vI s2, vI s1, vR c0] σ Q ↔ Wp L d k_M_word 114 [l0, l1, l2, l3, l4, l5] [] (gupd σ c0 s1.toNat s2) Q := wp_iast rfl h hx
theorem r_M_word_114 : Wp L d k_M_word 114 [vR b0, l1, l2, l3, l4, l5] [] σ Q ↔ Wp L d k_M_word 115 [vR b0, l1, l2, l3, l4, l5] [vR b0] σ Q := wp_aload rfl rfl
theorem r_M_word_115 (h : gK c0 = 12) : Wp L d k_M_word 115 [l0, l1, l2, l3, l4, l5] [vR c0] σ Q ↔ Wp L d k_M_word 118 [l0, l1, l2, l3, l4, l5] [vR (gq c0 0)] σ Q := wp_getR (c := 3200) rfl rfl rfl rfl rfl h
theorem r_M_word_118 : Wp L d k_M_word 118 [l0, l1, l2, l3, l4, l5] [vR c0] σ Q ↔ Wp L d k_M_word 119 [l0, l1, l2, l3, l4, l5] [vI 3, vR c0] σ Q := wp_push rfl
theorem r_M_word_119 (h : gK c0 = 100) (hx : 0 ≤ s1 ∧ s1 < gN c0) : Wp L d k_M_word 119 [l0, l1, l2, l3, l4, l5] [vI s1, vR c0] σ Q ↔ Wp L d k_M_word 120 [l0, l1, l2, l3, l4, l5] [vI (σ c0 s1.toNat)] σ Q := wp_iald rfl h hx
theorem r_M_word_120 : Wp L d k_M_word 120 [l0, l1, l2, l3, l4, l5] [vI s0] σ Q ↔ Wp L d k_M_word 121 [l0, l1, l2, l3, l4, l5] [vI 1, vI s0] σ Q := wp_push rfl
theorem r_M_word_121 : Wp L d k_M_word 121 [l0, l1, l2, l3, l4, l5] [vI s1, vI s0] σ Q ↔ Wp L d k_M_word 122 [l0, l1, l2, l3, l4, l5] [vI (w32 (s0 - s1))] σ Q := wp_isub rfl
theorem r_M_word_122 : Wp L d k_M_word 122 [l0, l1, l2, l3, l4, l5] [vI s0] σ Q ↔ Q (some (vI s0)) σ := wp_iret rfl
theorem r_M_word_1 : Wp L (d + 2) k_M_word 1 [l0, l1, l2, l3, l4, l5] [vI s0] σ Q ↔ Wp L (d + 2) k_M_word 4 [l0, l1, l2, l3, l4, l5] [vI (gb (0 ≤ s0 ∧ s0 ≤ 9999))] σ Q := wp_callR (d := d + 1) (as := [vI s0]) (rest := []) rfl rfl rfl rfl rfl rfl rfl rfl (sp_M_isDay)
theorem r_M_word_8 : Wp L (d + 2) k_M_word 8 [l0, l1, l2, l3, l4, l5] [vI s0] σ Q ↔ Wp L (d + 2) k_M_word 11 [l0, l1, l2, l3, l4, l5] [vI (gb (0 ≤ s0 ∧ s0 ≤ 7))] σ Q := wp_callR (d := d + 1) (as := [vI s0]) (rest := []) rfl rfl rfl rfl rfl rfl rfl rfl (sp_M_isOffice)
theorem r_M_word_15 : Wp L (d + 2) k_M_word 15 [l0, l1, l2, l3, l4, l5] [vI s0] σ Q ↔ Wp L (d + 2) k_M_word 18 [l0, l1, l2, l3, l4, l5] [vI (gb (0 ≤ s0 ∧ s0 ≤ 7))] σ Q := wp_callR (d := d + 1) (as := [vI s0]) (rest := []) rfl rfl rfl rfl rfl rfl rfl rfl (sp_M_isOffice)
theorem r_M_word_28 : Wp L (d + 2) k_M_word 28 [l0, l1, l2, l3, l4, l5] [vI s0] σ Q ↔ Wp L (d + 2) k_M_word 31 [l0, l1, l2, l3, l4, l5] [vI (gb (0 ≤ s0 ∧ s0 ≤ 9))] σ Q := wp_callR (d := d + 1) (as := [vI s0]) (rest := []) rfl rfl rfl rfl rfl rfl rfl rfl (sp_M_isMatter)
theorem sp_M_word_b (h : ¬ (((0 ≤ a1 ∧ a1 ≤ 9999) ∧ (0 ≤ a2 ∧ a2 ≤ 7)) ∧ (0 ≤ a3 ∧ a3 ≤ 7) ∧ ¬ a2 = a3 ∧ 0 ≤ a4 ∧ a4 ≤ 9)) : Run L (d + 2) 286 [vR 293, vI a1, vI a2, vI a3, vI a4] σ (some (vI (-1000000001))) σ := by
  refine Run_of (C' := k_M_word) rfl ?_
  show Wp L (d + 2) k_M_word 0 [vR 293, vI a1, vI a2, vI a3, vI a4, vU] [] σ _
  obtain ⟨K293, Q293, K294, N294⟩ := litM
  by_cases e1 : 0 ≤ a1 ∧ a1 ≤ 9999
  · by_cases e2 : 0 ≤ a2 ∧ a2 ≤ 7
    · by_cases e3 : 0 ≤ a3 ∧ a3 ≤ 7
      · by_cases e4 : a2 = a3
        · simp (disch := first | assumption | exact gb_01 _ | omega) only [r_M_word_0, r_M_word_1, r_M_word_4, r_M_word_7, r_M_word_8, r_M_word_11, r_M_word_14, r_M_word_15, r_M_word_18, r_M_word_21, r_M_word_22, r_M_word_23, r_M_word_26, r_M_word_28, r_M_word_31, r_M_word_34, r_M_word_36, Q293, w32_gb, w32i, tn_add, tn_mul, Int.toNat_natCast, Int.toNat_zero, Int.reduceLE, Int.reduceLT, Int.reduceEq, Int.reduceNe, gb_T, gb_F, Int.reduceToNat, eq_self, true_or, or_true, and_true, true_and, and_self, ↓ite_gb0, ↓ite_gbn, ↓if_pos, ↓if_neg, if_true, if_false, not_true_eq_false, not_false_eq_true, gb_ne0, gb_eq0]
        · simp (disch := first | assumption | exact gb_01 _ | omega) only [r_M_word_0, r_M_word_1, r_M_word_4, r_M_word_7, r_M_word_8, r_M_word_11, r_M_word_14, r_M_word_15, r_M_word_18, r_M_word_21, r_M_word_22, r_M_word_23, r_M_word_26, r_M_word_28, r_M_word_31, r_M_word_34, r_M_word_36, Q293, w32_gb, w32i, tn_add, tn_mul, Int.toNat_natCast, Int.toNat_zero, Int.reduceLE, Int.reduceLT, Int.reduceEq, Int.reduceNe, gb_T, gb_F, Int.reduceToNat, eq_self, true_or, or_true, and_true, true_and, and_self, ↓ite_gb0, ↓ite_gbn, ↓if_pos, ↓if_neg, if_true, if_false, not_true_eq_false, not_false_eq_true, gb_ne0, gb_eq0]
      · simp (disch := first | assumption | exact gb_01 _ | omega) only [r_M_word_0, r_M_word_1, r_M_word_4, r_M_word_7, r_M_word_8, r_M_word_11, r_M_word_14, r_M_word_15, r_M_word_18, r_M_word_21, r_M_word_22, r_M_word_23, r_M_word_26, r_M_word_28, r_M_word_31, r_M_word_34, r_M_word_36, Q293, w32_gb, w32i, tn_add, tn_mul, Int.toNat_natCast, Int.toNat_zero, Int.reduceLE, Int.reduceLT, Int.reduceEq, Int.reduceNe, gb_T, gb_F, Int.reduceToNat, eq_self, true_or, or_true, and_true, true_and, and_self, ↓ite_gb0, ↓ite_gbn, ↓if_pos, ↓if_neg, if_true, if_false, not_true_eq_false, not_false_eq_true, gb_ne0, gb_eq0]
    · simp (disch := first | assumption | exact gb_01 _ | omega) only [r_M_word_0, r_M_word_1, r_M_word_4, r_M_word_7, r_M_word_8, r_M_word_11, r_M_word_14, r_M_word_15, r_M_word_18, r_M_word_21, r_M_word_22, r_M_word_23, r_M_word_26, r_M_word_28, r_M_word_31, r_M_word_34, r_M_word_36, Q293, w32_gb, w32i, tn_add, tn_mul, Int.toNat_natCast, Int.toNat_zero, Int.reduceLE, Int.reduceLT, Int.reduceEq, Int.reduceNe, gb_T, gb_F, Int.reduceToNat, eq_self, true_or, or_true, and_true, true_and, and_self, ↓ite_gb0, ↓ite_gbn, ↓if_pos, ↓if_neg, if_true, if_false, not_true_eq_false, not_false_eq_true, gb_ne0, gb_eq0]
  · simp (disch := first | assumption | exact gb_01 _ | omega) only [r_M_word_0, r_M_word_1, r_M_word_4, r_M_word_7, r_M_word_8, r_M_word_11, r_M_word_14, r_M_word_15, r_M_word_18, r_M_word_21, r_M_word_22, r_M_word_23, r_M_word_26, r_M_word_28, r_M_word_31, r_M_word_34, r_M_word_36, Q293, w32_gb, w32i, tn_add, tn_mul, Int.toNat_natCast, Int.toNat_zero, Int.reduceLE, Int.reduceLT, Int.reduceEq, Int.reduceNe, gb_T, gb_F, Int.reduceToNat, eq_self, true_or, or_true, and_true, true_and, and_self, ↓ite_gb0, ↓ite_gbn, ↓if_pos, ↓if_neg, if_true, if_false, not_true_eq_false, not_false_eq_true, gb_ne0, gb_eq0]
theorem sp_X_word_f (h : ((0 ≤ a1 ∧ a1 ≤ 9999) ∧ (0 ≤ a2 ∧ a2 ≤ 7)) ∧ (0 ≤ a3 ∧ a3 ≤ 7) ∧ ¬ a2 = a3 ∧ 0 ≤ a4 ∧ a4 ≤ 9) (hf : 30 ≤ σ 109 5) : Run L (d + 2) 61 [vR 27, vI a1, vI a2, vI a3, vI a4] σ (some (vI (-1000000003))) σ := by
  refine Run_of (C' := k_X_word) rfl ?_
  show Wp L (d + 2) k_X_word 0 [vR 27, vI a1, vI a2, vI a3, vI a4] [] σ _
  obtain ⟨K27, K28, K29, K78, K97, K99, K109, K123, K125, K279, K282⟩ := litX
  simp (disch := first | assumption | exact gb_01 _ | omega) only [r_X_word_0, r_X_word_1, r_X_word_4, r_X_word_7, r_X_word_8, r_X_word_11, r_X_word_14, r_X_word_15, r_X_word_18, r_X_word_21, r_X_word_22, r_X_word_23, r_X_word_26, r_X_word_28, r_X_word_31, r_X_word_34, r_X_word_36, r_X_word_37, r_X_word_38, r_X_word_41, r_X_word_44, r_X_word_47, r_X_word_49, r_X_word_52, r_X_word_53, r_X_word_56, r_X_word_59, r_X_word_60, r_X_word_61, r_X_word_62, r_X_word_67, r_X_word_70, r_X_word_72, gq_27_0, gq_27_1, gq_27_2, gq_27_3, gq_27_4, gq_27_5, gq_27_6, gq_28_0, gq_28_1, gq_28_2, gq_28_3, gq_28_4, gq_28_5, gq_28_6, w32_gb, w32i, tn_add, tn_mul, Int.toNat_natCast, Int.toNat_zero, Int.reduceLE, Int.reduceLT, Int.reduceEq, Int.reduceNe, gb_T, gb_F, Int.reduceToNat, eq_self, true_or, or_true, and_true, true_and, and_self, ↓ite_gb0, ↓ite_gbn, ↓if_pos, ↓if_neg, if_true, if_false, not_true_eq_false, not_false_eq_true, gb_ne0, gb_eq0]
theorem sp_M_word_f (h : ((0 ≤ a1 ∧ a1 ≤ 9999) ∧ (0 ≤ a2 ∧ a2 ≤ 7)) ∧ (0 ≤ a3 ∧ a3 ≤ 7) ∧ ¬ a2 = a3 ∧ 0 ≤ a4 ∧ a4 ≤ 9) (hf : σ 294 3 = 30) : Run L (d + 2) 286 [vR 293, vI a1, vI a2, vI a3, vI a4] σ (some (vI (-1000000003))) σ := by
  refine Run_of (C' := k_M_word) rfl ?_
  show Wp L (d + 2) k_M_word 0 [vR 293, vI a1, vI a2, vI a3, vI a4, vU] [] σ _
  obtain ⟨K293, Q293, K294, N294⟩ := litM
  simp (disch := first | assumption | exact gb_01 _ | omega) only [r_M_word_0, r_M_word_1, r_M_word_4, r_M_word_7, r_M_word_8, r_M_word_11, r_M_word_14, r_M_word_15, r_M_word_18, r_M_word_21, r_M_word_22, r_M_word_23, r_M_word_26, r_M_word_28, r_M_word_31, r_M_word_34, r_M_word_36, r_M_word_37, r_M_word_38, r_M_word_41, r_M_word_42, r_M_word_43, r_M_word_45, r_M_word_48, r_M_word_50, Q293, w32_gb, w32i, tn_add, tn_mul, Int.toNat_natCast, Int.toNat_zero, Int.reduceLE, Int.reduceLT, Int.reduceEq, Int.reduceNe, gb_T, gb_F, Int.reduceToNat, eq_self, true_or, or_true, and_true, true_and, and_self, ↓ite_gb0, ↓ite_gbn, ↓if_pos, ↓if_neg, if_true, if_false, not_true_eq_false, not_false_eq_true, gb_ne0, gb_eq0]
theorem sp_M_word {n : Nat} (h : ((0 ≤ a1 ∧ a1 ≤ 9999) ∧ (0 ≤ a2 ∧ a2 ≤ 7)) ∧ (0 ≤ a3 ∧ a3 ≤ 7) ∧ ¬ a2 = a3 ∧ 0 ≤ a4 ∧ a4 ≤ 9) (hn : σ 294 3 = (n : Int)) (h30 : n < 30) : Run L (d + 2) 286 [vR 293, vI a1, vI a2, vI a3, vI a4] σ (some (vI (n : Int))) (gupd (gupd (gupd (gupd (gupd σ 294 (600 + 4 * n) a1) 294 (600 + 4 * n + 1) a2) 294 (600 + 4 * n + 2) a3) 294 (600 + 4 * n + 3) a4) 294 3 ((n : Int) + 1)) := by
  refine Run_of (C' := k_M_word) rfl ?_
  show Wp L (d + 2) k_M_word 0 [vR 293, vI a1, vI a2, vI a3, vI a4, vU] [] σ _
  obtain ⟨K293, Q293, K294, N294⟩ := litM
  simp (disch := first | assumption | exact gb_01 _ | omega) only [r_M_word_0, r_M_word_1, r_M_word_4, r_M_word_7, r_M_word_8, r_M_word_11, r_M_word_14, r_M_word_15, r_M_word_18, r_M_word_21, r_M_word_22, r_M_word_23, r_M_word_26, r_M_word_28, r_M_word_31, r_M_word_34, r_M_word_36, r_M_word_37, r_M_word_38, r_M_word_41, r_M_word_42, r_M_word_43, r_M_word_45, r_M_word_48, r_M_word_50, r_M_word_51, r_M_word_54, r_M_word_55, r_M_word_56, r_M_word_59, r_M_word_60, r_M_word_61, r_M_word_62, r_M_word_63, r_M_word_65, r_M_word_66, r_M_word_69, r_M_word_71, r_M_word_72, r_M_word_73, r_M_word_74, r_M_word_77, r_M_word_79, r_M_word_80, r_M_word_81, r_M_word_82, r_M_word_83, r_M_word_84, r_M_word_87, r_M_word_89, r_M_word_90, r_M_word_91, r_M_word_92, r_M_word_93, r_M_word_94, r_M_word_97, r_M_word_99, r_M_word_100, r_M_word_101, r_M_word_103, r_M_word_104, r_M_word_105, r_M_word_108, r_M_word_109, r_M_word_110, r_M_word_111, r_M_word_112, r_M_word_113, r_M_word_114, r_M_word_115, r_M_word_118, r_M_word_119, r_M_word_120, r_M_word_121, r_M_word_122, Q293, hn, gupd_ne, gupd_eq, Int.add_sub_cancel, w32_gb, w32i, tn_add, tn_mul, Int.toNat_natCast, Int.toNat_zero, Int.reduceLE, Int.reduceLT, Int.reduceEq, Int.reduceNe, gb_T, gb_F, Int.reduceToNat, eq_self, true_or, or_true, and_true, true_and, and_self, ↓ite_gb0, ↓ite_gbn, ↓if_pos, ↓if_neg, if_true, if_false, not_true_eq_false, not_false_eq_true, gb_ne0, gb_eq0]
theorem sp_X_word {n : Nat} (h : ((0 ≤ a1 ∧ a1 ≤ 9999) ∧ (0 ≤ a2 ∧ a2 ≤ 7)) ∧ (0 ≤ a3 ∧ a3 ≤ 7) ∧ ¬ a2 = a3 ∧ 0 ≤ a4 ∧ a4 ≤ 9) (hn : σ 109 5 = (n : Int)) (h30 : n < 30) : ∃ σ', Run L (d + 2) 61 [vR 27, vI a1, vI a2, vI a3, vI a4] σ (some (vI (n : Int))) σ' ∧ (∃ at' : Nat, at' ≤ n ∧ (at' = 0 ∨ σ 110 (at' - 1) ≤ a1) ∧ (∀ i : Nat, at' ≤ i → i < n → a1 < σ 110 i) ∧ (∀ i : Nat, i ≤ n → σ' 110 i = (if i < at' then σ 110 i else if i = at' then a1 else σ 110 (i - 1)) ∧ σ' 111 i = (if i < at' then σ 111 i else if i = at' then a2 else σ 111 (i - 1)) ∧ σ' 112 i = (if i < at' then σ 112 i else if i = at' then a3 else σ 112 (i - 1)) ∧ σ' 113 i = (if i < at' then σ 113 i else if i = at' then a4 else σ 113 (i - 1)))) ∧ σ' 109 5 = (n : Int) + 1 ∧ Agr σ σ' (fun k j => (110 ≤ k ∧ k ≤ 113) ∨ (k = 109 ∧ j = 5)) := by
  refine Run_ex (C' := k_X_word) rfl ?_
  show Wp L (d + 2) k_X_word 0 [vR 27, vI a1, vI a2, vI a3, vI a4] [] σ _
  obtain ⟨K27, K28, K29, K78, K97, K99, K109, K123, K125, K279, K282⟩ := litX
  obtain ⟨τ, hR, hh⟩ := sp_D_add (L := L) (d := d + 1) (σ := σ) (a1 := a1) (a2 := a2) (a3 := a3) (a4 := a4) hn h30
  simp (disch := first | assumption | exact gb_01 _ | omega) only [r_X_word_0, r_X_word_1, r_X_word_4, r_X_word_7, r_X_word_8, r_X_word_11, r_X_word_14, r_X_word_15, r_X_word_18, r_X_word_21, r_X_word_22, r_X_word_23, r_X_word_26, r_X_word_28, r_X_word_31, r_X_word_34, r_X_word_36, r_X_word_37, r_X_word_38, r_X_word_41, r_X_word_44, r_X_word_47, r_X_word_49, r_X_word_52, r_X_word_53, r_X_word_56, r_X_word_59, r_X_word_60, r_X_word_61, r_X_word_62, r_X_word_67, r_X_word_70, r_X_word_72, c_X_word_64 hR, Option.toList, List.singleton_append, List.cons_append, List.nil_append, List.append_nil, gq_27_0, gq_27_1, gq_27_2, gq_27_3, gq_27_4, gq_27_5, gq_27_6, gq_28_0, gq_28_1, gq_28_2, gq_28_3, gq_28_4, gq_28_5, gq_28_6, w32_gb, w32i, tn_add, tn_mul, Int.toNat_natCast, Int.toNat_zero, Int.reduceLE, Int.reduceLT, Int.reduceEq, Int.reduceNe, gb_T, gb_F, Int.reduceToNat, eq_self, true_or, or_true, and_true, true_and, and_self, ↓ite_gb0, ↓ite_gbn, ↓if_pos, ↓if_neg, if_true, if_false, not_true_eq_false, not_false_eq_true, gb_ne0, gb_eq0]
  exact hh
theorem op_word (a1 a2 a3 a4 : Int) : Op 61 286 [vI a1, vI a2, vI a3, vI a4] := by
  intro L d σ hI
  obtain ⟨⟨w1, w2, w3⟩, c1, ⟨o, ho, c2⟩, c3⟩ := iW hI
  by_cases h : ((0 ≤ a1 ∧ a1 ≤ 9999) ∧ (0 ≤ a2 ∧ a2 ≤ 7)) ∧ (0 ≤ a3 ∧ a3 ≤ 7) ∧ ¬ a2 = a3 ∧ 0 ≤ a4 ∧ a4 ≤ 9
  · by_cases hf : 30 ≤ σ 109 5
    · exact ⟨_, _, _, sp_X_word_f h hf, sp_M_word_f h (by omega), hI⟩
    · obtain ⟨n, hn⟩ := Int.eq_ofNat_of_zero_le (show 0 ≤ σ 109 5 by omega)
      have hn : σ 109 5 = (n : Int) := hn
      obtain ⟨σ1, hR1, ⟨p, hp1, hp2, hp3, hp4⟩, h5, hA1⟩ := sp_X_word (L := L) (d := d + 998) (n := n) (a1 := a1) (a2 := a2) (a3 := a3) (a4 := a4) h hn (by omega)
      have e3 := hA1 294 3 (by omega)
      refine ⟨_, _, _, hR1, sp_M_word (n := n) h (by omega) (by omega), ?_⟩
      have nf : (σ 294 3).toNat = n := by omega
      rw [nf] at ho
      refine Inv_mk (P := fun k j => (110 ≤ k ∧ k ≤ 113) ∨ (k = 109 ∧ j = 5) ∨ (k = 294 ∧ (j = 3 ∨ 600 ≤ j ∧ j ≤ 719))) hI (Agr_upd (Agr_upd (Agr_upd (Agr_upd (Agr_upd (Agr_mono hA1 (fun k j hk => by omega)) (by omega)) (by omega)) (by omega)) (by omega)) (by omega)) (Or.inl (fun k j hz hp => by unfold ZB at hz; omega)) (Or.inl (fun k j hz hp => by unfold ZT at hz; omega)) (Or.inl (fun k j hz hp => by unfold ZG at hz; omega)) (Or.inl (fun k j hz hp => by unfold ZS at hz; omega)) (Or.inr ?_) (Or.inl (fun k j hz hp => by unfold ZP at hz; omega)) (Or.inl (fun k j hz hp => by unfold ZR ZK at hz; omega)) (Or.inl (fun k j hz hp => by unfold ZM at hz; omega)) (Or.inl (fun k j hz hp => by unfold ZTape at hz; omega)) (Or.inl (fun k j hz hp => by unfold ZTest at hz; omega)) (Or.inl (fun k j hz hp => by unfold ZWait at hz; omega)) (Or.inl (fun k j hz hp => by unfold ZImg at hz; omega))
      have g : ∀ j, ¬ j = 600 + 4 * n → ¬ j = 600 + 4 * n + 1 → ¬ j = 600 + 4 * n + 2 → ¬ j = 600 + 4 * n + 3 → ¬ j = 3 → (gupd (gupd (gupd (gupd (gupd σ1 294 (600 + 4 * n) a1) 294 (600 + 4 * n + 1) a2) 294 (600 + 4 * n + 2) a3) 294 (600 + 4 * n + 3) a4) 294 3 ((n : Int) + 1)) 294 j = σ 294 j := fun j x0 x1 x2 x3 x4 => by
        simp (disch := omega) only [gupd_ne]
        exact hA1 _ _ (by omega)
      have g0 : (gupd (gupd (gupd (gupd (gupd σ1 294 (600 + 4 * n) a1) 294 (600 + 4 * n + 1) a2) 294 (600 + 4 * n + 2) a3) 294 (600 + 4 * n + 3) a4) 294 3 ((n : Int) + 1)) 294 (600 + 4 * n) = a1 := by simp (disch := omega) only [gupd_ne, gupd_eq]
      have g1 : (gupd (gupd (gupd (gupd (gupd σ1 294 (600 + 4 * n) a1) 294 (600 + 4 * n + 1) a2) 294 (600 + 4 * n + 2) a3) 294 (600 + 4 * n + 3) a4) 294 3 ((n : Int) + 1)) 294 (600 + 4 * n + 1) = a2 := by simp (disch := omega) only [gupd_ne, gupd_eq]
      have g2 : (gupd (gupd (gupd (gupd (gupd σ1 294 (600 + 4 * n) a1) 294 (600 + 4 * n + 1) a2) 294 (600 + 4 * n + 2) a3) 294 (600 + 4 * n + 3) a4) 294 3 ((n : Int) + 1)) 294 (600 + 4 * n + 2) = a3 := by simp (disch := omega) only [gupd_ne, gupd_eq]
      have g3 : (gupd (gupd (gupd (gupd (gupd σ1 294 (600 + 4 * n) a1) 294 (600 + 4 * n + 1) a2) 294 (600 + 4 * n + 2) a3) 294 (600 + 4 * n + 3) a4) 294 3 ((n : Int) + 1)) 294 (600 + 4 * n + 3) = a4 := by simp (disch := omega) only [gupd_ne, gupd_eq]
      have g4 : (gupd (gupd (gupd (gupd (gupd σ1 294 (600 + 4 * n) a1) 294 (600 + 4 * n + 1) a2) 294 (600 + 4 * n + 2) a3) 294 (600 + 4 * n + 3) a4) 294 3 ((n : Int) + 1)) 294 3 = (n : Int) + 1 := by rw [gupd_eq]
      have gc : ∀ k j, ¬ k = 294 → (gupd (gupd (gupd (gupd (gupd σ1 294 (600 + 4 * n) a1) 294 (600 + 4 * n + 1) a2) 294 (600 + 4 * n + 2) a3) 294 (600 + 4 * n + 3) a4) 294 3 ((n : Int) + 1)) k j = σ1 k j := fun k j hk => by simp (disch := omega) only [gupd_ne]
      generalize (gupd (gupd (gupd (gupd (gupd σ1 294 (600 + 4 * n) a1) 294 (600 + 4 * n + 1) a2) 294 (600 + 4 * n + 2) a3) 294 (600 + 4 * n + 3) a4) 294 3 ((n : Int) + 1)) = ρ at *
      refine ⟨⟨by rw [g4]; omega, fun i hi => ?_, fun a ha b hb => ?_⟩, ?_, ⟨insr o p n, ?_, fun i hi => ?_⟩, fun a ha b hb => ?_⟩
      · rw [g4] at hi
        by_cases e : i = n
        · rw [e, g0, g1, g2, g3]
          omega
        · rw [g _ (by omega) (by omega) (by omega) (by omega) (by omega), g _ (by omega) (by omega) (by omega) (by omega) (by omega), g _ (by omega) (by omega) (by omega) (by omega) (by omega), g _ (by omega) (by omega) (by omega) (by omega) (by omega)]
          exact w2 i (by omega)
      · rw [g _ (by omega) (by omega) (by omega) (by omega) (by omega)]
        exact w3 a ha b hb
      · rw [g4, gc _ _ (by omega)]; exact h5
      · rw [g4, show ((n : Int) + 1).toNat = n + 1 by omega]
        have ho2 : gord (fun i => ρ 294 (600 + 4 * i)) n o := gord_congr (fun i hi => g _ (by omega) (by omega) (by omega) (by omega) (by omega)) ho
        have dy : ∀ i, i < n → ρ 294 (600 + 4 * o i) = σ 110 i := fun i hi => by
          have := ho.1 i hi
          rw [g _ (by omega) (by omega) (by omega) (by omega) (by omega)]
          exact ((c2 i (by omega)).1).symm
        refine gord_ins ho2 hp1 (fun i hi => ?_) (fun i x y => ?_)
        · show ρ 294 (600 + 4 * o i) ≤ ρ 294 (600 + 4 * n)
          rw [g0, dy i (by omega)]
          rcases hp2 with z | z
          · omega
          · by_cases e : i = p - 1
            · rw [e]; exact z
            · have this : σ 294 (600 + 4 * o i) < σ 294 (600 + 4 * o (p - 1)) ∨ σ 294 (600 + 4 * o i) = σ 294 (600 + 4 * o (p - 1)) ∧ o i < o (p - 1) := ho.2 i (p - 1) (by omega) (by omega)
              have d1 := dy i (by omega)
              have d2 := dy (p - 1) (by omega)
              have o1 := ho.1 i (by omega)
              have o2 := ho.1 (p - 1) (by omega)
              rw [g _ (by omega) (by omega) (by omega) (by omega) (by omega)] at d1 d2
              omega
        · show ρ 294 (600 + 4 * n) < ρ 294 (600 + 4 * o i)
          rw [g0, dy i y]
          exact hp3 i x y
      · rw [g4] at hi
        have q := hp4 i (by omega)
        rw [gc (109 + 1) i (by omega), gc (109 + 2) i (by omega), gc (109 + 3) i (by omega), gc (109 + 4) i (by omega)]
        unfold insr
        by_cases x1 : i < p
        · rw [if_pos x1, if_pos x1, if_pos x1, if_pos x1] at q
          rw [if_pos x1]
          have oo := ho.1 i (by omega)
          have z := c2 i (by omega)
          rw [g _ (by omega) (by omega) (by omega) (by omega) (by omega), g _ (by omega) (by omega) (by omega) (by omega) (by omega), g _ (by omega) (by omega) (by omega) (by omega) (by omega), g _ (by omega) (by omega) (by omega) (by omega) (by omega)]
          exact ⟨q.1.trans z.1, q.2.1.trans z.2.1, q.2.2.1.trans z.2.2.1, q.2.2.2.trans z.2.2.2⟩
        · by_cases x2 : i = p
          · rw [if_neg x1, if_neg x1, if_neg x1, if_neg x1, if_pos x2, if_pos x2, if_pos x2, if_pos x2] at q
            rw [if_neg x1, if_pos x2, g0, g1, g2, g3]
            exact q
          · rw [if_neg x1, if_neg x1, if_neg x1, if_neg x1, if_neg x2, if_neg x2, if_neg x2, if_neg x2] at q
            rw [if_neg x1, if_neg x2]
            have oo := ho.1 (i - 1) (by omega)
            have z := c2 (i - 1) (by omega)
            rw [g _ (by omega) (by omega) (by omega) (by omega) (by omega), g _ (by omega) (by omega) (by omega) (by omega) (by omega), g _ (by omega) (by omega) (by omega) (by omega) (by omega), g _ (by omega) (by omega) (by omega) (by omega) (by omega)]
            exact ⟨q.1.trans z.1, q.2.1.trans z.2.1, q.2.2.1.trans z.2.2.1, q.2.2.2.trans z.2.2.2⟩
      · rw [gc _ _ (by omega), g _ (by omega) (by omega) (by omega) (by omega) (by omega), hA1 _ _ (by omega)]
        exact c3 a ha b hb
  · exact ⟨_, _, _, sp_X_word_b h, sp_M_word_b h, hI⟩
