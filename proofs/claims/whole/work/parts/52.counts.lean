/-! The text that counts; leaves, signs. -/
variable {L d : Nat} {σ σ1 : Nat → Nat → Int} {Q : Option gV → (Nat → Nat → Int) → Prop} {a0 a1 a2 a3 a4 a5 a6 a7 a8 a9 a10 a11 s0 s1 s2 s3 s4 s5 s6 s7 s8 s9 : Int} {l0 l1 l2 l3 l4 l5 l6 l7 l8 l9 l10 l11 t0 t1 t2 t3 t4 t5 t6 t7 t8 t9 : gV} {b0 b1 b2 b3 b4 b5 b6 b7 b8 b9 b10 b11 c0 c1 c2 c3 c4 c5 c6 c7 c8 c9 : Nat} {r : Option gV}
/-- the text that counts among the first n -/
def brct (f : Nat → Int) (key : Int) : Nat → Int
  | 0 => -1
  | t + 1 => if (f (930 + 200 * t) = key ∧ f (930 + 200 * t + 1) ≤ f 7) ∧ (brct f key t < 0 ∨ f (930 + 200 * (brct f key t).toNat + 1) ≤ f (930 + 200 * t + 1)) then (t : Int) else brct f key t
theorem brct_bd (f : Nat → Int) (key : Int) : ∀ k, brct f key k = -1 ∨ 0 ≤ brct f key k ∧ brct f key k < k
  | 0 => Or.inl rfl
  | k + 1 => by
    have := brct_bd f key k
    unfold brct
    split <;> omega
theorem brct_key (f : Nat → Int) (key : Int) : ∀ k, 0 ≤ brct f key k → f (930 + 200 * (brct f key k).toNat) = key
  | 0 => fun h => by
    have : brct f key 0 = -1 := rfl
    omega
  | k + 1 => by
    have ih := brct_key f key k
    unfold brct
    split
    · next h => exact fun _ => h.1.1
    · exact ih
def gjn (c x y : Int) : Int := if c = 43 then w32 (x + y) else if c = 45 then w32 (x - y) else if c = 42 then w32 (x * y) else if c = 47 then (if y = 0 then 0 else w32 (x.tdiv y)) else if c = 60 then gb (x < y) else if c = 62 then gb (y < x) else if c = 61 then gb (x = y) else if c = 38 then gb (x ≠ 0 ∧ y ≠ 0) else gb (x ≠ 0 ∨ y ≠ 0)
def wval (key a b c v : Int) : Int := if (gnm key v).getD 0 = 0 then a else if (gnm key v).getD 0 = 1 then b else c
/-- the pile behind k steps, its top first -/
def wls (key a b c : Int) (w v : Nat → Int) : Nat → List Int
  | 0 => []
  | k + 1 => if w k = 0 then v k :: wls key a b c w v k else if w k = 1 then wval key a b c (v k) :: wls key a b c w v k else if v k = 33 then (match wls key a b c w v k with
    | x :: r => gb (x = 0) :: r
    | [] => []) else (match wls key a b c w v k with
    | y :: x :: r => gjn (v k) x y :: r
    | l => l)
def rep : List Int → (Nat → Int) → Prop
  | [], _ => True
  | x :: r, g => g r.length = x ∧ rep r g
theorem rep_fu {g : Nat → Int} {j : Nat} {v : Int} : ∀ l : List Int, l.length ≤ j → rep l g → rep l (fu g j v)
  | [], _, _ => trivial
  | x :: r, h, hr => by
    simp only [List.length_cons] at h
    exact ⟨by rw [fu_ne (by omega)]; exact hr.1, rep_fu r (by omega) hr.2⟩
theorem gdep_le (w v : Nat → Int) : ∀ k, gdep w v k ≤ k
  | 0 => by simp [gdep]
  | k + 1 => by
    have := gdep_le w v k
    unfold gdep
    split
    · split <;> omega
    · omega
theorem wls_len {key a b c n : Int} {w v : Nat → Int} (h : WCode key w v n) : ∀ k : Nat, (k : Int) ≤ n → ((wls key a b c w v k).length : Int) = gdep w v k
  | 0, _ => rfl
  | k + 1, hk => by
    have ih := wls_len (a := a) (b := b) (c := c) h k (by omega)
    obtain ⟨h1, h2, h3⟩ := h.1 k (by omega)
    unfold wls gdep
    rcases h1 with ⟨e, -⟩ | ⟨e, -⟩ | ⟨e, -⟩
    · rw [if_pos e, if_neg (by omega)]
      simp only [List.length_cons]
      omega
    · rw [if_neg (by omega), if_pos e, if_neg (by omega)]
      simp only [List.length_cons]
      omega
    · rw [if_neg (by omega), if_neg (by omega), if_pos e]
      by_cases e2 : v k = 33
      · rw [if_pos e2, if_pos e2]
        have := h2 e e2
        cases hl : wls key a b c w v k with
        | nil => rw [hl] at ih; simp only [List.length_nil] at ih; omega
        | cons x r =>
          rw [hl] at ih
          simp only [List.length_cons] at ih ⊢
          omega
      · rw [if_neg e2, if_neg e2]
        have := h3 e e2
        cases hl : wls key a b c w v k with
        | nil => rw [hl] at ih; simp only [List.length_nil] at ih; omega
        | cons y r =>
          cases r with
          | nil => rw [hl] at ih; simp only [List.length_cons, List.length_nil] at ih; omega
          | cons x r =>
            rw [hl] at ih
            simp only [List.length_cons] at ih ⊢
            omega
/-- what text t gives -/
def brwk (f : Nat → Int) (t : Nat) (a b c : Int) : Int := (wls (f (930 + 200 * t)) a b c (gtw f t) (gtv f t) (f (930 + 200 * t + 3)).toNat).headD 0
def brrl (f : Nat → Int) (key a b c : Int) : Int := if brct f key (f 2).toNat < 0 then (if key = 0 then 10 else if key = 1 then 99 else 0) else brwk f (brct f key (f 2).toNat).toNat a b c
theorem gnm_bd {key v : Int} (h : (gnm key v).isSome = true) : (0 ≤ (gnm key v).getD 0 ∧ (gnm key v).getD 0 ≤ 2) ∧ 0 ≤ v ∧ v < 128 := by
  unfold gnm at h ⊢
  repeat' split at h
  all_goals first
    | (simp at h; done)
    | (simp only [*, if_true, if_false]; simp)
theorem gq79 : ∀ {i : Nat}, i < 12 → gq 79 i = 80 + i ∧ gK (80 + i) = 100 ∧ ((gN (80 + i) : Nat) : Int) = 96 := by
  have h : ∀ i, i < 12 → gq 79 i = 80 + i ∧ gK (80 + i) = 100 ∧ ((gN (80 + i) : Nat) : Int) = 96 := by decide +kernel
  exact fun {i} hi => h i hi
theorem litT : gK 78 = 10 ∧ gq 78 0 = 79 ∧ gq 78 1 = 92 ∧ gq 78 2 = 93 ∧ gq 78 3 = 94 ∧ gq 78 4 = 95 ∧ gq 78 5 = 96 ∧ gK 79 = 103 ∧ gK 92 = 100 ∧ gK 93 = 100 ∧ gK 94 = 100 ∧ gK 95 = 100 ∧ gK 96 = 100 ∧ ((gN 79 : Nat) : Int) = 12 ∧ ((gN 92 : Nat) : Int) = 12 ∧ ((gN 93 : Nat) : Int) = 12 ∧ ((gN 94 : Nat) : Int) = 12 ∧ ((gN 95 : Nat) : Int) = 12 ∧ ((gN 96 : Nat) : Int) = 96 := by decide +kernel
theorem litN : gq 293 20 = 302 ∧ gq 293 21 = 303 ∧ gK 302 = 100 ∧ gK 303 = 100 ∧ ((gN 302 : Nat) : Int) = 128 ∧ ((gN 303 : Nat) : Int) = 100 := by decide +kernel
theorem CTp {f : Nat → Int} {σ : gMm} (hc : CT 78 f σ) {t : Nat} (ht : (t : Int) < f 2) : σ 92 t = f (930 + 200 * t + 3) ∧ σ 93 t = f (930 + 200 * t) ∧ σ 94 t = f (930 + 200 * t + 1) ∧ σ 95 t = f (930 + 200 * t + 2) ∧ ∀ k : Nat, (k : Int) < f (930 + 200 * t + 3) → σ (80 + t) k = gcd1 (f (930 + 200 * t)) (gtw f t k) (gtv f t k) := hc.2 t ht
theorem WTp {f : Nat → Int} (hw : WT f) {t : Nat} (ht : (t : Int) < f 2) : (0 ≤ f (930 + 200 * t) ∧ f (930 + 200 * t) ≤ 3) ∧ (0 ≤ f (930 + 200 * t + 1) ∧ f (930 + 200 * t + 1) ≤ 599) ∧ (0 ≤ f (930 + 200 * t + 2) ∧ f (930 + 200 * t + 2) ≤ 96) ∧ (1 ≤ f (930 + 200 * t + 3) ∧ f (930 + 200 * t + 3) ≤ 96) ∧ WCode (f (930 + 200 * t)) (gtw f t) (gtv f t) (f (930 + 200 * t + 3)) := hw.2 t ht
theorem r_C_counting_0 : Wp L d k_C_counting 0 [l0, l1, l2, l3, l4, l5] [] σ Q ↔ Wp L d k_C_counting 2 [l0, l1, l2, l3, l4, l5] [vI (-1000000005)] σ Q := wp_push rfl
theorem r_C_counting_2 : Wp L d k_C_counting 2 [l0, l1, vI a2, l3, l4, l5] [vI s0] σ Q ↔ Wp L d k_C_counting 3 [l0, l1, vI a2, vI s0, l4, l5] [] σ Q := wp_istore (i := 3) (ls := [l0, l1, vI a2, l3, l4, l5]) rfl rfl
theorem r_C_counting_3 : Wp L d k_C_counting 3 [l0, l1, l2, l3, l4, l5] [] σ Q ↔ Wp L d k_C_counting 4 [l0, l1, l2, l3, l4, l5] [vI 0] σ Q := wp_push rfl
theorem r_C_counting_4 : Wp L d k_C_counting 4 [l0, l1, l2, vI a3, l4, l5] [vI s0] σ Q ↔ Wp L d k_C_counting 6 [l0, l1, l2, vI a3, vI s0, l5] [] σ Q := wp_istore (i := 4) (ls := [l0, l1, l2, vI a3, l4, l5]) rfl rfl
theorem r_C_counting_6 : Wp L d k_C_counting 6 [l0, l1, l2, l3, vI a4, l5] [] σ Q ↔ Wp L d k_C_counting 8 [l0, l1, l2, l3, vI a4, l5] [vI a4] σ Q := wp_iload rfl rfl
theorem r_C_counting_8 : Wp L d k_C_counting 8 [vR b0, l1, l2, l3, l4, l5] [vI s0] σ Q ↔ Wp L d k_C_counting 9 [vR b0, l1, l2, l3, l4, l5] [vR b0, vI s0] σ Q := wp_aload rfl rfl
theorem r_C_counting_9 (h : gK c1 = 10) : Wp L d k_C_counting 9 [l0, l1, l2, l3, l4, l5] [vR c1, vI s0] σ Q ↔ Wp L d k_C_counting 12 [l0, l1, l2, l3, l4, l5] [vI (σ c1 6), vI s0] σ Q := wp_getI (c := 2566) rfl rfl rfl rfl h
theorem r_C_counting_12 : Wp L d k_C_counting 12 [l0, l1, l2, l3, l4, l5] [vI s1, vI s0] σ Q ↔ (if s1 ≤ s0 then Wp L d k_C_counting 80 [l0, l1, l2, l3, l4, l5] [] σ Q else Wp L d k_C_counting 15 [l0, l1, l2, l3, l4, l5] [] σ Q) := wp_cmp_ge rfl
theorem r_C_counting_15 : Wp L d k_C_counting 15 [vR b0, l1, l2, l3, l4, l5] [] σ Q ↔ Wp L d k_C_counting 16 [vR b0, l1, l2, l3, l4, l5] [vR b0] σ Q := wp_aload rfl rfl
theorem r_C_counting_16 (h : gK c0 = 10) : Wp L d k_C_counting 16 [l0, l1, l2, l3, l4, l5] [vR c0] σ Q ↔ Wp L d k_C_counting 19 [l0, l1, l2, l3, l4, l5] [vR (gq c0 2)] σ Q := wp_getR (c := 2690) rfl rfl rfl rfl rfl h
theorem r_C_counting_19 : Wp L d k_C_counting 19 [l0, l1, l2, l3, vI a4, l5] [vR c0] σ Q ↔ Wp L d k_C_counting 21 [l0, l1, l2, l3, vI a4, l5] [vI a4, vR c0] σ Q := wp_iload rfl rfl
theorem r_C_counting_21 (h : gK c0 = 100) (hx : 0 ≤ s1 ∧ s1 < gN c0) : Wp L d k_C_counting 21 [l0, l1, l2, l3, l4, l5] [vI s1, vR c0] σ Q ↔ Wp L d k_C_counting 22 [l0, l1, l2, l3, l4, l5] [vI (σ c0 s1.toNat)] σ Q := wp_iald rfl h hx
theorem r_C_counting_22 : Wp L d k_C_counting 22 [l0, vI a1, l2, l3, l4, l5] [vI s0] σ Q ↔ Wp L d k_C_counting 23 [l0, vI a1, l2, l3, l4, l5] [vI a1, vI s0] σ Q := wp_iload rfl rfl
theorem r_C_counting_23 : Wp L d k_C_counting 23 [l0, l1, l2, l3, l4, l5] [vI s1, vI s0] σ Q ↔ (if s0 ≠ s1 then Wp L d k_C_counting 41 [l0, l1, l2, l3, l4, l5] [] σ Q else Wp L d k_C_counting 26 [l0, l1, l2, l3, l4, l5] [] σ Q) := wp_cmp_ne rfl
theorem r_C_counting_26 : Wp L d k_C_counting 26 [vR b0, l1, l2, l3, l4, l5] [] σ Q ↔ Wp L d k_C_counting 27 [vR b0, l1, l2, l3, l4, l5] [vR b0] σ Q := wp_aload rfl rfl
theorem r_C_counting_27 (h : gK c0 = 10) : Wp L d k_C_counting 27 [l0, l1, l2, l3, l4, l5] [vR c0] σ Q ↔ Wp L d k_C_counting 30 [l0, l1, l2, l3, l4, l5] [vR (gq c0 3)] σ Q := wp_getR (c := 2691) rfl rfl rfl rfl rfl h
theorem r_C_counting_30 : Wp L d k_C_counting 30 [l0, l1, l2, l3, vI a4, l5] [vR c0] σ Q ↔ Wp L d k_C_counting 32 [l0, l1, l2, l3, vI a4, l5] [vI a4, vR c0] σ Q := wp_iload rfl rfl
theorem r_C_counting_32 (h : gK c0 = 100) (hx : 0 ≤ s1 ∧ s1 < gN c0) : Wp L d k_C_counting 32 [l0, l1, l2, l3, l4, l5] [vI s1, vR c0] σ Q ↔ Wp L d k_C_counting 33 [l0, l1, l2, l3, l4, l5] [vI (σ c0 s1.toNat)] σ Q := wp_iald rfl h hx
theorem r_C_counting_33 : Wp L d k_C_counting 33 [l0, l1, vI a2, l3, l4, l5] [vI s0] σ Q ↔ Wp L d k_C_counting 34 [l0, l1, vI a2, l3, l4, l5] [vI a2, vI s0] σ Q := wp_iload rfl rfl
theorem r_C_counting_34 : Wp L d k_C_counting 34 [l0, l1, l2, l3, l4, l5] [vI s1, vI s0] σ Q ↔ (if s1 < s0 then Wp L d k_C_counting 41 [l0, l1, l2, l3, l4, l5] [] σ Q else Wp L d k_C_counting 37 [l0, l1, l2, l3, l4, l5] [] σ Q) := wp_cmp_gt rfl
theorem r_C_counting_37 : Wp L d k_C_counting 37 [l0, l1, l2, l3, l4, l5] [] σ Q ↔ Wp L d k_C_counting 38 [l0, l1, l2, l3, l4, l5] [vI 1] σ Q := wp_push rfl
theorem r_C_counting_38 : Wp L d k_C_counting 38 [l0, l1, l2, l3, l4, l5] [vI s0] σ Q ↔ Wp L d k_C_counting 42 [l0, l1, l2, l3, l4, l5] [vI s0] σ Q := wp_goto rfl
theorem r_C_counting_41 : Wp L d k_C_counting 41 [l0, l1, l2, l3, l4, l5] [] σ Q ↔ Wp L d k_C_counting 42 [l0, l1, l2, l3, l4, l5] [vI 0] σ Q := wp_push rfl
theorem r_C_counting_42 : Wp L d k_C_counting 42 [l0, l1, l2, l3, vI a4, l5] [vI s0] σ Q ↔ Wp L d k_C_counting 44 [l0, l1, l2, l3, vI a4, vI s0] [] σ Q := wp_istore (i := 5) (ls := [l0, l1, l2, l3, vI a4, l5]) rfl rfl
theorem r_C_counting_44 : Wp L d k_C_counting 44 [l0, l1, l2, l3, l4, vI a5] [] σ Q ↔ Wp L d k_C_counting 46 [l0, l1, l2, l3, l4, vI a5] [vI a5] σ Q := wp_iload rfl rfl
theorem r_C_counting_46 : Wp L d k_C_counting 46 [l0, l1, l2, l3, l4, l5] [vI s0] σ Q ↔ (if s0 = 0 then Wp L d k_C_counting 74 [l0, l1, l2, l3, l4, l5] [] σ Q else Wp L d k_C_counting 49 [l0, l1, l2, l3, l4, l5] [] σ Q) := wp_if_eq rfl
theorem r_C_counting_49 : Wp L d k_C_counting 49 [l0, l1, l2, vI a3, l4, l5] [] σ Q ↔ Wp L d k_C_counting 50 [l0, l1, l2, vI a3, l4, l5] [vI a3] σ Q := wp_iload rfl rfl
theorem r_C_counting_50 : Wp L d k_C_counting 50 [l0, l1, l2, l3, l4, l5] [vI s0] σ Q ↔ Wp L d k_C_counting 52 [l0, l1, l2, l3, l4, l5] [vI (-1000000005), vI s0] σ Q := wp_push rfl
theorem r_C_counting_52 : Wp L d k_C_counting 52 [l0, l1, l2, l3, l4, l5] [vI s1, vI s0] σ Q ↔ (if s0 = s1 then Wp L d k_C_counting 71 [l0, l1, l2, l3, l4, l5] [] σ Q else Wp L d k_C_counting 55 [l0, l1, l2, l3, l4, l5] [] σ Q) := wp_cmp_eq rfl
theorem r_C_counting_55 : Wp L d k_C_counting 55 [vR b0, l1, l2, l3, l4, l5] [] σ Q ↔ Wp L d k_C_counting 56 [vR b0, l1, l2, l3, l4, l5] [vR b0] σ Q := wp_aload rfl rfl
theorem r_C_counting_56 (h : gK c0 = 10) : Wp L d k_C_counting 56 [l0, l1, l2, l3, l4, l5] [vR c0] σ Q ↔ Wp L d k_C_counting 59 [l0, l1, l2, l3, l4, l5] [vR (gq c0 3)] σ Q := wp_getR (c := 2691) rfl rfl rfl rfl rfl h
theorem r_C_counting_59 : Wp L d k_C_counting 59 [l0, l1, l2, l3, vI a4, l5] [vR c0] σ Q ↔ Wp L d k_C_counting 61 [l0, l1, l2, l3, vI a4, l5] [vI a4, vR c0] σ Q := wp_iload rfl rfl
theorem r_C_counting_61 (h : gK c0 = 100) (hx : 0 ≤ s1 ∧ s1 < gN c0) : Wp L d k_C_counting 61 [l0, l1, l2, l3, l4, l5] [vI s1, vR c0] σ Q ↔ Wp L d k_C_counting 62 [l0, l1, l2, l3, l4, l5] [vI (σ c0 s1.toNat)] σ Q := wp_iald rfl h hx
theorem r_C_counting_62 : Wp L d k_C_counting 62 [vR b0, l1, l2, l3, l4, l5] [vI s0] σ Q ↔ Wp L d k_C_counting 63 [vR b0, l1, l2, l3, l4, l5] [vR b0, vI s0] σ Q := wp_aload rfl rfl
theorem r_C_counting_63 (h : gK c1 = 10) : Wp L d k_C_counting 63 [l0, l1, l2, l3, l4, l5] [vR c1, vI s0] σ Q ↔ Wp L d k_C_counting 66 [l0, l1, l2, l3, l4, l5] [vR (gq c1 3), vI s0] σ Q := wp_getR (c := 2691) rfl rfl rfl rfl rfl h
theorem r_C_counting_66 : Wp L d k_C_counting 66 [l0, l1, l2, vI a3, l4, l5] [vR c1, vI s0] σ Q ↔ Wp L d k_C_counting 67 [l0, l1, l2, vI a3, l4, l5] [vI a3, vR c1, vI s0] σ Q := wp_iload rfl rfl
theorem r_C_counting_67 (h : gK c1 = 100) (hx : 0 ≤ s2 ∧ s2 < gN c1) : Wp L d k_C_counting 67 [l0, l1, l2, l3, l4, l5] [vI s2, vR c1, vI s0] σ Q ↔ Wp L d k_C_counting 68 [l0, l1, l2, l3, l4, l5] [vI (σ c1 s2.toNat), vI s0] σ Q := wp_iald rfl h hx
theorem r_C_counting_68 : Wp L d k_C_counting 68 [l0, l1, l2, l3, l4, l5] [vI s1, vI s0] σ Q ↔ (if s0 < s1 then Wp L d k_C_counting 74 [l0, l1, l2, l3, l4, l5] [] σ Q else Wp L d k_C_counting 71 [l0, l1, l2, l3, l4, l5] [] σ Q) := wp_cmp_lt rfl
theorem r_C_counting_71 : Wp L d k_C_counting 71 [l0, l1, l2, l3, vI a4, l5] [] σ Q ↔ Wp L d k_C_counting 73 [l0, l1, l2, l3, vI a4, l5] [vI a4] σ Q := wp_iload rfl rfl
theorem r_C_counting_73 : Wp L d k_C_counting 73 [l0, l1, vI a2, l3, l4, l5] [vI s0] σ Q ↔ Wp L d k_C_counting 74 [l0, l1, vI a2, vI s0, l4, l5] [] σ Q := wp_istore (i := 3) (ls := [l0, l1, vI a2, l3, l4, l5]) rfl rfl
theorem r_C_counting_74 : Wp L d k_C_counting 74 [l0, l1, l2, vI a3, vI a4, l5] [] σ Q ↔ Wp L d k_C_counting 77 [l0, l1, l2, vI a3, vI (w32 (a4 + 1)), l5] [] σ Q := wp_iinc (i := 4) (ls := [l0, l1, l2, vI a3, vI a4, l5]) rfl rfl
theorem r_C_counting_77 : Wp L d k_C_counting 77 [l0, l1, l2, l3, l4, l5] [] σ Q ↔ Wp L d k_C_counting 6 [l0, l1, l2, l3, l4, l5] [] σ Q := wp_goto rfl
theorem r_C_counting_80 : Wp L d k_C_counting 80 [l0, l1, l2, vI a3, l4, l5] [] σ Q ↔ Wp L d k_C_counting 81 [l0, l1, l2, vI a3, l4, l5] [vI a3] σ Q := wp_iload rfl rfl
theorem r_C_counting_81 : Wp L d k_C_counting 81 [l0, l1, l2, l3, l4, l5] [vI s0] σ Q ↔ Q (some (vI s0)) σ := wp_iret rfl
theorem sp_C_counting {f : Nat → Int} (hw : WT f) (hc : CT 78 f σ) (hm : a2 = f 7) : Run L d 179 [vR 78, vI a1, vI a2] σ (some (vI (gnn (brct f a1 (f 2).toNat)))) σ := by
  refine Run_of (C' := k_C_counting) rfl ?_
  show Wp L d k_C_counting 0 [vR 78, vI a1, vI a2, vU, vU, vU] [] σ _
  obtain ⟨K78, t0, t1, t2, t3, t4, t5, K79, K92, K93, K94, K95, K96, N79, N92, N93, N94, N95, N96⟩ := litT
  have w1 := hw.1
  have c1 := hc.1
  simp only [r_C_counting_0, r_C_counting_2, r_C_counting_3, r_C_counting_4, r_C_counting_8, r_C_counting_9, r_C_counting_12, r_C_counting_15, r_C_counting_16, r_C_counting_19, r_C_counting_21, r_C_counting_22, r_C_counting_23, r_C_counting_26, r_C_counting_27, r_C_counting_30, r_C_counting_32, r_C_counting_33, r_C_counting_34, r_C_counting_37, r_C_counting_38, r_C_counting_41, r_C_counting_42, r_C_counting_44, r_C_counting_46, r_C_counting_49, r_C_counting_50, r_C_counting_52, r_C_counting_55, r_C_counting_56, r_C_counting_59, r_C_counting_61, r_C_counting_62, r_C_counting_63, r_C_counting_66, r_C_counting_67, r_C_counting_68, r_C_counting_71, r_C_counting_73, r_C_counting_74, r_C_counting_77, r_C_counting_80, r_C_counting_81]
  refine wloop (n := (f 2).toNat) (I := fun k ls τ => (∃ l, ls = [vR 78, vI a1, vI a2, vI (gnn (brct f a1 k)), vI (k : Int), l]) ∧ τ = σ) (fun k ls τ hk hi hq => ?_) (fun ls τ hi => ?_) (f 2).toNat 0 (by omega) _ _ ⟨⟨_, rfl⟩, rfl⟩
  · obtain ⟨⟨l, rfl⟩, rfl⟩ := hi
    have x := brct_bd f a1 k
    obtain ⟨p1, p2, p3, p4, -⟩ := CTp hc (t := k) (by omega)
    have fin : ∀ (y : Int) (l : gV), y = gnn (brct f a1 (k + 1)) → Wp L d k_C_counting 6 [vR 78, vI a1, vI a2, vI y, vI ((k : Int) + 1), l] [] τ _ := fun y l e => hq _ _ ⟨⟨l, by rw [e, show (((k + 1 : Nat)) : Int) = (k : Int) + 1 by omega]⟩, rfl⟩
    rw [r_C_counting_6]
    by_cases e1 : f (930 + 200 * k) = a1 ∧ f (930 + 200 * k + 1) ≤ f 7
    · by_cases e2 : brct f a1 k < 0
      · have g : gnn (brct f a1 k) = -1000000005 := if_pos e2
        rw [g]
        simp (disch := first | assumption | exact gb_01 _ | omega) only [r_C_counting_0, r_C_counting_2, r_C_counting_3, r_C_counting_4, r_C_counting_8, r_C_counting_9, r_C_counting_12, r_C_counting_15, r_C_counting_16, r_C_counting_19, r_C_counting_21, r_C_counting_22, r_C_counting_23, r_C_counting_26, r_C_counting_27, r_C_counting_30, r_C_counting_32, r_C_counting_33, r_C_counting_34, r_C_counting_37, r_C_counting_38, r_C_counting_41, r_C_counting_42, r_C_counting_44, r_C_counting_46, r_C_counting_49, r_C_counting_50, r_C_counting_52, r_C_counting_55, r_C_counting_56, r_C_counting_59, r_C_counting_61, r_C_counting_62, r_C_counting_63, r_C_counting_66, r_C_counting_67, r_C_counting_68, r_C_counting_71, r_C_counting_73, r_C_counting_74, r_C_counting_77, r_C_counting_80, r_C_counting_81, t0, t1, t2, t3, t4, t5, w32_gb, w32i, tn_add, tn_mul, Int.toNat_natCast, Int.toNat_zero, Int.reduceLE, Int.reduceLT, Int.reduceEq, Int.reduceNe, gb_T, gb_F, Int.reduceToNat, eq_self, true_or, or_true, and_true, true_and, and_self, ↓ite_gb0, ↓ite_gbn, ↓if_pos, ↓if_neg, if_true, if_false, not_true_eq_false, not_false_eq_true, gb_ne0, gb_eq0]
        refine fin _ _ ?_
        rw [show brct f a1 (k + 1) = k from if_pos ⟨e1, Or.inl e2⟩]
        exact (if_neg (by omega)).symm
      · have g : gnn (brct f a1 k) = brct f a1 k := if_neg e2
        obtain ⟨-, -, q3, -, -⟩ := CTp hc (t := (brct f a1 k).toNat) (by omega)
        rw [g]
        by_cases e3 : f (930 + 200 * (brct f a1 k).toNat + 1) ≤ f (930 + 200 * k + 1)
        · simp (disch := first | assumption | exact gb_01 _ | omega) only [r_C_counting_0, r_C_counting_2, r_C_counting_3, r_C_counting_4, r_C_counting_8, r_C_counting_9, r_C_counting_12, r_C_counting_15, r_C_counting_16, r_C_counting_19, r_C_counting_21, r_C_counting_22, r_C_counting_23, r_C_counting_26, r_C_counting_27, r_C_counting_30, r_C_counting_32, r_C_counting_33, r_C_counting_34, r_C_counting_37, r_C_counting_38, r_C_counting_41, r_C_counting_42, r_C_counting_44, r_C_counting_46, r_C_counting_49, r_C_counting_50, r_C_counting_52, r_C_counting_55, r_C_counting_56, r_C_counting_59, r_C_counting_61, r_C_counting_62, r_C_counting_63, r_C_counting_66, r_C_counting_67, r_C_counting_68, r_C_counting_71, r_C_counting_73, r_C_counting_74, r_C_counting_77, r_C_counting_80, r_C_counting_81, t0, t1, t2, t3, t4, t5, w32_gb, w32i, tn_add, tn_mul, Int.toNat_natCast, Int.toNat_zero, Int.reduceLE, Int.reduceLT, Int.reduceEq, Int.reduceNe, gb_T, gb_F, Int.reduceToNat, eq_self, true_or, or_true, and_true, true_and, and_self, ↓ite_gb0, ↓ite_gbn, ↓if_pos, ↓if_neg, if_true, if_false, not_true_eq_false, not_false_eq_true, gb_ne0, gb_eq0]
          refine fin _ _ ?_
          rw [show brct f a1 (k + 1) = k from if_pos ⟨e1, Or.inr e3⟩]
          exact (if_neg (by omega)).symm
        · simp (disch := first | assumption | exact gb_01 _ | omega) only [r_C_counting_0, r_C_counting_2, r_C_counting_3, r_C_counting_4, r_C_counting_8, r_C_counting_9, r_C_counting_12, r_C_counting_15, r_C_counting_16, r_C_counting_19, r_C_counting_21, r_C_counting_22, r_C_counting_23, r_C_counting_26, r_C_counting_27, r_C_counting_30, r_C_counting_32, r_C_counting_33, r_C_counting_34, r_C_counting_37, r_C_counting_38, r_C_counting_41, r_C_counting_42, r_C_counting_44, r_C_counting_46, r_C_counting_49, r_C_counting_50, r_C_counting_52, r_C_counting_55, r_C_counting_56, r_C_counting_59, r_C_counting_61, r_C_counting_62, r_C_counting_63, r_C_counting_66, r_C_counting_67, r_C_counting_68, r_C_counting_71, r_C_counting_73, r_C_counting_74, r_C_counting_77, r_C_counting_80, r_C_counting_81, t0, t1, t2, t3, t4, t5, w32_gb, w32i, tn_add, tn_mul, Int.toNat_natCast, Int.toNat_zero, Int.reduceLE, Int.reduceLT, Int.reduceEq, Int.reduceNe, gb_T, gb_F, Int.reduceToNat, eq_self, true_or, or_true, and_true, true_and, and_self, ↓ite_gb0, ↓ite_gbn, ↓if_pos, ↓if_neg, if_true, if_false, not_true_eq_false, not_false_eq_true, gb_ne0, gb_eq0]
          refine fin _ _ ?_
          rw [show brct f a1 (k + 1) = brct f a1 k from if_neg (fun z => by rcases z.2 with y | y; exact e2 y; exact e3 y), g]
    · have g2 : brct f a1 (k + 1) = brct f a1 k := if_neg (fun z => e1 z.1)
      by_cases e4 : f (930 + 200 * k) = a1
      · simp (disch := first | assumption | exact gb_01 _ | omega) only [r_C_counting_0, r_C_counting_2, r_C_counting_3, r_C_counting_4, r_C_counting_8, r_C_counting_9, r_C_counting_12, r_C_counting_15, r_C_counting_16, r_C_counting_19, r_C_counting_21, r_C_counting_22, r_C_counting_23, r_C_counting_26, r_C_counting_27, r_C_counting_30, r_C_counting_32, r_C_counting_33, r_C_counting_34, r_C_counting_37, r_C_counting_38, r_C_counting_41, r_C_counting_42, r_C_counting_44, r_C_counting_46, r_C_counting_49, r_C_counting_50, r_C_counting_52, r_C_counting_55, r_C_counting_56, r_C_counting_59, r_C_counting_61, r_C_counting_62, r_C_counting_63, r_C_counting_66, r_C_counting_67, r_C_counting_68, r_C_counting_71, r_C_counting_73, r_C_counting_74, r_C_counting_77, r_C_counting_80, r_C_counting_81, t0, t1, t2, t3, t4, t5, w32_gb, w32i, tn_add, tn_mul, Int.toNat_natCast, Int.toNat_zero, Int.reduceLE, Int.reduceLT, Int.reduceEq, Int.reduceNe, gb_T, gb_F, Int.reduceToNat, eq_self, true_or, or_true, and_true, true_and, and_self, ↓ite_gb0, ↓ite_gbn, ↓if_pos, ↓if_neg, if_true, if_false, not_true_eq_false, not_false_eq_true, gb_ne0, gb_eq0]
        exact fin _ _ (by rw [g2])
      · simp (disch := first | assumption | exact gb_01 _ | omega) only [r_C_counting_0, r_C_counting_2, r_C_counting_3, r_C_counting_4, r_C_counting_8, r_C_counting_9, r_C_counting_12, r_C_counting_15, r_C_counting_16, r_C_counting_19, r_C_counting_21, r_C_counting_22, r_C_counting_23, r_C_counting_26, r_C_counting_27, r_C_counting_30, r_C_counting_32, r_C_counting_33, r_C_counting_34, r_C_counting_37, r_C_counting_38, r_C_counting_41, r_C_counting_42, r_C_counting_44, r_C_counting_46, r_C_counting_49, r_C_counting_50, r_C_counting_52, r_C_counting_55, r_C_counting_56, r_C_counting_59, r_C_counting_61, r_C_counting_62, r_C_counting_63, r_C_counting_66, r_C_counting_67, r_C_counting_68, r_C_counting_71, r_C_counting_73, r_C_counting_74, r_C_counting_77, r_C_counting_80, r_C_counting_81, t0, t1, t2, t3, t4, t5, w32_gb, w32i, tn_add, tn_mul, Int.toNat_natCast, Int.toNat_zero, Int.reduceLE, Int.reduceLT, Int.reduceEq, Int.reduceNe, gb_T, gb_F, Int.reduceToNat, eq_self, true_or, or_true, and_true, true_and, and_self, ↓ite_gb0, ↓ite_gbn, ↓if_pos, ↓if_neg, if_true, if_false, not_true_eq_false, not_false_eq_true, gb_ne0, gb_eq0]
        exact fin _ _ (by rw [g2])
  · obtain ⟨⟨l, rfl⟩, rfl⟩ := hi
    rw [r_C_counting_6]
    simp (disch := first | assumption | exact gb_01 _ | omega) only [r_C_counting_0, r_C_counting_2, r_C_counting_3, r_C_counting_4, r_C_counting_8, r_C_counting_9, r_C_counting_12, r_C_counting_15, r_C_counting_16, r_C_counting_19, r_C_counting_21, r_C_counting_22, r_C_counting_23, r_C_counting_26, r_C_counting_27, r_C_counting_30, r_C_counting_32, r_C_counting_33, r_C_counting_34, r_C_counting_37, r_C_counting_38, r_C_counting_41, r_C_counting_42, r_C_counting_44, r_C_counting_46, r_C_counting_49, r_C_counting_50, r_C_counting_52, r_C_counting_55, r_C_counting_56, r_C_counting_59, r_C_counting_61, r_C_counting_62, r_C_counting_63, r_C_counting_66, r_C_counting_67, r_C_counting_68, r_C_counting_71, r_C_counting_73, r_C_counting_74, r_C_counting_77, r_C_counting_80, r_C_counting_81, t0, t1, t2, t3, t4, t5, w32_gb, w32i, tn_add, tn_mul, Int.toNat_natCast, Int.toNat_zero, Int.reduceLE, Int.reduceLT, Int.reduceEq, Int.reduceNe, gb_T, gb_F, Int.reduceToNat, eq_self, true_or, or_true, and_true, true_and, and_self, ↓ite_gb0, ↓ite_gbn, ↓if_pos, ↓if_neg, if_true, if_false, not_true_eq_false, not_false_eq_true, gb_ne0, gb_eq0]
theorem r_M_counts_0 : Wp L d k_M_counts 0 [l0, l1, l2, l3, l4] [] σ Q ↔ Wp L d k_M_counts 1 [l0, l1, l2, l3, l4] [vI (-1)] σ Q := wp_push rfl
theorem r_M_counts_1 : Wp L d k_M_counts 1 [l0, vI a1, l2, l3, l4] [vI s0] σ Q ↔ Wp L d k_M_counts 2 [l0, vI a1, vI s0, l3, l4] [] σ Q := wp_istore (i := 2) (ls := [l0, vI a1, l2, l3, l4]) rfl rfl
theorem r_M_counts_2 : Wp L d k_M_counts 2 [l0, l1, l2, l3, l4] [] σ Q ↔ Wp L d k_M_counts 3 [l0, l1, l2, l3, l4] [vI 0] σ Q := wp_push rfl
theorem r_M_counts_3 : Wp L d k_M_counts 3 [l0, l1, vI a2, l3, l4] [vI s0] σ Q ↔ Wp L d k_M_counts 4 [l0, l1, vI a2, vI s0, l4] [] σ Q := wp_istore (i := 3) (ls := [l0, l1, vI a2, l3, l4]) rfl rfl
theorem r_M_counts_4 : Wp L d k_M_counts 4 [l0, l1, l2, vI a3, l4] [] σ Q ↔ Wp L d k_M_counts 5 [l0, l1, l2, vI a3, l4] [vI a3] σ Q := wp_iload rfl rfl
theorem r_M_counts_5 : Wp L d k_M_counts 5 [vR b0, l1, l2, l3, l4] [vI s0] σ Q ↔ Wp L d k_M_counts 6 [vR b0, l1, l2, l3, l4] [vR b0, vI s0] σ Q := wp_aload rfl rfl
theorem r_M_counts_6 (h : gK c1 = 12) : Wp L d k_M_counts 6 [l0, l1, l2, l3, l4] [vR c1, vI s0] σ Q ↔ Wp L d k_M_counts 9 [l0, l1, l2, l3, l4] [vR (gq c1 0), vI s0] σ Q := wp_getR (c := 3200) rfl rfl rfl rfl rfl h
theorem r_M_counts_9 : Wp L d k_M_counts 9 [l0, l1, l2, l3, l4] [vR c1, vI s0] σ Q ↔ Wp L d k_M_counts 10 [l0, l1, l2, l3, l4] [vI 2, vR c1, vI s0] σ Q := wp_push rfl
theorem r_M_counts_10 (h : gK c1 = 100) (hx : 0 ≤ s2 ∧ s2 < gN c1) : Wp L d k_M_counts 10 [l0, l1, l2, l3, l4] [vI s2, vR c1, vI s0] σ Q ↔ Wp L d k_M_counts 11 [l0, l1, l2, l3, l4] [vI (σ c1 s2.toNat), vI s0] σ Q := wp_iald rfl h hx
theorem r_M_counts_11 : Wp L d k_M_counts 11 [l0, l1, l2, l3, l4] [vI s1, vI s0] σ Q ↔ (if s1 ≤ s0 then Wp L d k_M_counts 107 [l0, l1, l2, l3, l4] [] σ Q else Wp L d k_M_counts 14 [l0, l1, l2, l3, l4] [] σ Q) := wp_cmp_ge rfl
theorem r_M_counts_14 : Wp L d k_M_counts 14 [vR b0, l1, l2, l3, l4] [] σ Q ↔ Wp L d k_M_counts 15 [vR b0, l1, l2, l3, l4] [vR b0] σ Q := wp_aload rfl rfl
theorem r_M_counts_15 (h : gK c0 = 12) : Wp L d k_M_counts 15 [l0, l1, l2, l3, l4] [vR c0] σ Q ↔ Wp L d k_M_counts 18 [l0, l1, l2, l3, l4] [vR (gq c0 0)] σ Q := wp_getR (c := 3200) rfl rfl rfl rfl rfl h
theorem r_M_counts_18 : Wp L d k_M_counts 18 [vR b0, l1, l2, l3, l4] [vR c0] σ Q ↔ Wp L d k_M_counts 19 [vR b0, l1, l2, l3, l4] [vR b0, vR c0] σ Q := wp_aload rfl rfl
theorem r_M_counts_19 : Wp L d k_M_counts 19 [l0, l1, l2, vI a3, l4] [vR c1, vR c0] σ Q ↔ Wp L d k_M_counts 20 [l0, l1, l2, vI a3, l4] [vI a3, vR c1, vR c0] σ Q := wp_iload rfl rfl
theorem r_M_counts_23 : Wp L d k_M_counts 23 [l0, l1, l2, l3, l4] [vI s1, vR c0] σ Q ↔ Wp L d k_M_counts 24 [l0, l1, l2, l3, l4] [vI 0, vI s1, vR c0] σ Q := wp_push rfl
theorem r_M_counts_24 : Wp L d k_M_counts 24 [l0, l1, l2, l3, l4] [vI s2, vI s1, vR c0] σ Q ↔ Wp L d k_M_counts 25 [l0, l1, l2, l3, l4] [vI (w32 (s1 + s2)), vR c0] σ Q := wp_iadd rfl
theorem r_M_counts_25 (h : gK c0 = 100) (hx : 0 ≤ s1 ∧ s1 < gN c0) : Wp L d k_M_counts 25 [l0, l1, l2, l3, l4] [vI s1, vR c0] σ Q ↔ Wp L d k_M_counts 26 [l0, l1, l2, l3, l4] [vI (σ c0 s1.toNat)] σ Q := wp_iald rfl h hx
theorem r_M_counts_26 : Wp L d k_M_counts 26 [l0, vI a1, l2, l3, l4] [vI s0] σ Q ↔ Wp L d k_M_counts 27 [l0, vI a1, l2, l3, l4] [vI a1, vI s0] σ Q := wp_iload rfl rfl
theorem r_M_counts_27 : Wp L d k_M_counts 27 [l0, l1, l2, l3, l4] [vI s1, vI s0] σ Q ↔ (if s0 ≠ s1 then Wp L d k_M_counts 56 [l0, l1, l2, l3, l4] [] σ Q else Wp L d k_M_counts 30 [l0, l1, l2, l3, l4] [] σ Q) := wp_cmp_ne rfl
theorem r_M_counts_30 : Wp L d k_M_counts 30 [vR b0, l1, l2, l3, l4] [] σ Q ↔ Wp L d k_M_counts 31 [vR b0, l1, l2, l3, l4] [vR b0] σ Q := wp_aload rfl rfl
theorem r_M_counts_31 (h : gK c0 = 12) : Wp L d k_M_counts 31 [l0, l1, l2, l3, l4] [vR c0] σ Q ↔ Wp L d k_M_counts 34 [l0, l1, l2, l3, l4] [vR (gq c0 0)] σ Q := wp_getR (c := 3200) rfl rfl rfl rfl rfl h
theorem r_M_counts_34 : Wp L d k_M_counts 34 [vR b0, l1, l2, l3, l4] [vR c0] σ Q ↔ Wp L d k_M_counts 35 [vR b0, l1, l2, l3, l4] [vR b0, vR c0] σ Q := wp_aload rfl rfl
theorem r_M_counts_35 : Wp L d k_M_counts 35 [l0, l1, l2, vI a3, l4] [vR c1, vR c0] σ Q ↔ Wp L d k_M_counts 36 [l0, l1, l2, vI a3, l4] [vI a3, vR c1, vR c0] σ Q := wp_iload rfl rfl
theorem r_M_counts_39 : Wp L d k_M_counts 39 [l0, l1, l2, l3, l4] [vI s1, vR c0] σ Q ↔ Wp L d k_M_counts 40 [l0, l1, l2, l3, l4] [vI 1, vI s1, vR c0] σ Q := wp_push rfl
theorem r_M_counts_40 : Wp L d k_M_counts 40 [l0, l1, l2, l3, l4] [vI s2, vI s1, vR c0] σ Q ↔ Wp L d k_M_counts 41 [l0, l1, l2, l3, l4] [vI (w32 (s1 + s2)), vR c0] σ Q := wp_iadd rfl
theorem r_M_counts_41 (h : gK c0 = 100) (hx : 0 ≤ s1 ∧ s1 < gN c0) : Wp L d k_M_counts 41 [l0, l1, l2, l3, l4] [vI s1, vR c0] σ Q ↔ Wp L d k_M_counts 42 [l0, l1, l2, l3, l4] [vI (σ c0 s1.toNat)] σ Q := wp_iald rfl h hx
theorem r_M_counts_42 : Wp L d k_M_counts 42 [vR b0, l1, l2, l3, l4] [vI s0] σ Q ↔ Wp L d k_M_counts 43 [vR b0, l1, l2, l3, l4] [vR b0, vI s0] σ Q := wp_aload rfl rfl
theorem r_M_counts_43 (h : gK c1 = 12) : Wp L d k_M_counts 43 [l0, l1, l2, l3, l4] [vR c1, vI s0] σ Q ↔ Wp L d k_M_counts 46 [l0, l1, l2, l3, l4] [vR (gq c1 0), vI s0] σ Q := wp_getR (c := 3200) rfl rfl rfl rfl rfl h
theorem r_M_counts_46 : Wp L d k_M_counts 46 [l0, l1, l2, l3, l4] [vR c1, vI s0] σ Q ↔ Wp L d k_M_counts 48 [l0, l1, l2, l3, l4] [vI 7, vR c1, vI s0] σ Q := wp_push rfl
theorem r_M_counts_48 (h : gK c1 = 100) (hx : 0 ≤ s2 ∧ s2 < gN c1) : Wp L d k_M_counts 48 [l0, l1, l2, l3, l4] [vI s2, vR c1, vI s0] σ Q ↔ Wp L d k_M_counts 49 [l0, l1, l2, l3, l4] [vI (σ c1 s2.toNat), vI s0] σ Q := wp_iald rfl h hx
theorem r_M_counts_49 : Wp L d k_M_counts 49 [l0, l1, l2, l3, l4] [vI s1, vI s0] σ Q ↔ (if s1 < s0 then Wp L d k_M_counts 56 [l0, l1, l2, l3, l4] [] σ Q else Wp L d k_M_counts 52 [l0, l1, l2, l3, l4] [] σ Q) := wp_cmp_gt rfl
theorem r_M_counts_52 : Wp L d k_M_counts 52 [l0, l1, l2, l3, l4] [] σ Q ↔ Wp L d k_M_counts 53 [l0, l1, l2, l3, l4] [vI 1] σ Q := wp_push rfl
theorem r_M_counts_53 : Wp L d k_M_counts 53 [l0, l1, l2, l3, l4] [vI s0] σ Q ↔ Wp L d k_M_counts 57 [l0, l1, l2, l3, l4] [vI s0] σ Q := wp_goto rfl
theorem r_M_counts_56 : Wp L d k_M_counts 56 [l0, l1, l2, l3, l4] [] σ Q ↔ Wp L d k_M_counts 57 [l0, l1, l2, l3, l4] [vI 0] σ Q := wp_push rfl
theorem r_M_counts_57 : Wp L d k_M_counts 57 [l0, l1, l2, vI a3, l4] [vI s0] σ Q ↔ Wp L d k_M_counts 59 [l0, l1, l2, vI a3, vI s0] [] σ Q := wp_istore (i := 4) (ls := [l0, l1, l2, vI a3, l4]) rfl rfl
theorem r_M_counts_59 : Wp L d k_M_counts 59 [l0, l1, l2, l3, vI a4] [] σ Q ↔ Wp L d k_M_counts 61 [l0, l1, l2, l3, vI a4] [vI a4] σ Q := wp_iload rfl rfl
theorem r_M_counts_61 : Wp L d k_M_counts 61 [l0, l1, l2, l3, l4] [vI s0] σ Q ↔ (if s0 = 0 then Wp L d k_M_counts 99 [l0, l1, l2, l3, l4] [] σ Q else Wp L d k_M_counts 64 [l0, l1, l2, l3, l4] [] σ Q) := wp_if_eq rfl
theorem r_M_counts_64 : Wp L d k_M_counts 64 [l0, l1, vI a2, l3, l4] [] σ Q ↔ Wp L d k_M_counts 65 [l0, l1, vI a2, l3, l4] [vI a2] σ Q := wp_iload rfl rfl
theorem r_M_counts_65 : Wp L d k_M_counts 65 [l0, l1, l2, l3, l4] [vI s0] σ Q ↔ (if s0 < 0 then Wp L d k_M_counts 95 [l0, l1, l2, l3, l4] [] σ Q else Wp L d k_M_counts 68 [l0, l1, l2, l3, l4] [] σ Q) := wp_if_lt rfl
theorem r_M_counts_68 : Wp L d k_M_counts 68 [vR b0, l1, l2, l3, l4] [] σ Q ↔ Wp L d k_M_counts 69 [vR b0, l1, l2, l3, l4] [vR b0] σ Q := wp_aload rfl rfl
theorem r_M_counts_69 (h : gK c0 = 12) : Wp L d k_M_counts 69 [l0, l1, l2, l3, l4] [vR c0] σ Q ↔ Wp L d k_M_counts 72 [l0, l1, l2, l3, l4] [vR (gq c0 0)] σ Q := wp_getR (c := 3200) rfl rfl rfl rfl rfl h
theorem r_M_counts_72 : Wp L d k_M_counts 72 [vR b0, l1, l2, l3, l4] [vR c0] σ Q ↔ Wp L d k_M_counts 73 [vR b0, l1, l2, l3, l4] [vR b0, vR c0] σ Q := wp_aload rfl rfl
theorem r_M_counts_73 : Wp L d k_M_counts 73 [l0, l1, l2, vI a3, l4] [vR c1, vR c0] σ Q ↔ Wp L d k_M_counts 74 [l0, l1, l2, vI a3, l4] [vI a3, vR c1, vR c0] σ Q := wp_iload rfl rfl
theorem r_M_counts_77 : Wp L d k_M_counts 77 [l0, l1, l2, l3, l4] [vI s1, vR c0] σ Q ↔ Wp L d k_M_counts 78 [l0, l1, l2, l3, l4] [vI 1, vI s1, vR c0] σ Q := wp_push rfl
theorem r_M_counts_78 : Wp L d k_M_counts 78 [l0, l1, l2, l3, l4] [vI s2, vI s1, vR c0] σ Q ↔ Wp L d k_M_counts 79 [l0, l1, l2, l3, l4] [vI (w32 (s1 + s2)), vR c0] σ Q := wp_iadd rfl
theorem r_M_counts_79 (h : gK c0 = 100) (hx : 0 ≤ s1 ∧ s1 < gN c0) : Wp L d k_M_counts 79 [l0, l1, l2, l3, l4] [vI s1, vR c0] σ Q ↔ Wp L d k_M_counts 80 [l0, l1, l2, l3, l4] [vI (σ c0 s1.toNat)] σ Q := wp_iald rfl h hx
theorem r_M_counts_80 : Wp L d k_M_counts 80 [vR b0, l1, l2, l3, l4] [vI s0] σ Q ↔ Wp L d k_M_counts 81 [vR b0, l1, l2, l3, l4] [vR b0, vI s0] σ Q := wp_aload rfl rfl
theorem r_M_counts_81 (h : gK c1 = 12) : Wp L d k_M_counts 81 [l0, l1, l2, l3, l4] [vR c1, vI s0] σ Q ↔ Wp L d k_M_counts 84 [l0, l1, l2, l3, l4] [vR (gq c1 0), vI s0] σ Q := wp_getR (c := 3200) rfl rfl rfl rfl rfl h
theorem r_M_counts_84 : Wp L d k_M_counts 84 [vR b0, l1, l2, l3, l4] [vR c1, vI s0] σ Q ↔ Wp L d k_M_counts 85 [vR b0, l1, l2, l3, l4] [vR b0, vR c1, vI s0] σ Q := wp_aload rfl rfl
theorem r_M_counts_85 : Wp L d k_M_counts 85 [l0, l1, vI a2, l3, l4] [vR c2, vR c1, vI s0] σ Q ↔ Wp L d k_M_counts 86 [l0, l1, vI a2, l3, l4] [vI a2, vR c2, vR c1, vI s0] σ Q := wp_iload rfl rfl
theorem r_M_counts_89 : Wp L d k_M_counts 89 [l0, l1, l2, l3, l4] [vI s2, vR c1, vI s0] σ Q ↔ Wp L d k_M_counts 90 [l0, l1, l2, l3, l4] [vI 1, vI s2, vR c1, vI s0] σ Q := wp_push rfl
theorem r_M_counts_90 : Wp L d k_M_counts 90 [l0, l1, l2, l3, l4] [vI s3, vI s2, vR c1, vI s0] σ Q ↔ Wp L d k_M_counts 91 [l0, l1, l2, l3, l4] [vI (w32 (s2 + s3)), vR c1, vI s0] σ Q := wp_iadd rfl
theorem r_M_counts_91 (h : gK c1 = 100) (hx : 0 ≤ s2 ∧ s2 < gN c1) : Wp L d k_M_counts 91 [l0, l1, l2, l3, l4] [vI s2, vR c1, vI s0] σ Q ↔ Wp L d k_M_counts 92 [l0, l1, l2, l3, l4] [vI (σ c1 s2.toNat), vI s0] σ Q := wp_iald rfl h hx
theorem r_M_counts_92 : Wp L d k_M_counts 92 [l0, l1, l2, l3, l4] [vI s1, vI s0] σ Q ↔ (if s0 < s1 then Wp L d k_M_counts 99 [l0, l1, l2, l3, l4] [] σ Q else Wp L d k_M_counts 95 [l0, l1, l2, l3, l4] [] σ Q) := wp_cmp_lt rfl
theorem r_M_counts_95 : Wp L d k_M_counts 95 [l0, l1, l2, vI a3, l4] [] σ Q ↔ Wp L d k_M_counts 96 [l0, l1, l2, vI a3, l4] [vI a3] σ Q := wp_iload rfl rfl
theorem r_M_counts_96 : Wp L d k_M_counts 96 [l0, l1, l2, l3, l4] [vI s0] σ Q ↔ Wp L d k_M_counts 100 [l0, l1, l2, l3, l4] [vI s0] σ Q := wp_goto rfl
theorem r_M_counts_99 : Wp L d k_M_counts 99 [l0, l1, vI a2, l3, l4] [] σ Q ↔ Wp L d k_M_counts 100 [l0, l1, vI a2, l3, l4] [vI a2] σ Q := wp_iload rfl rfl
theorem r_M_counts_100 : Wp L d k_M_counts 100 [l0, vI a1, l2, l3, l4] [vI s0] σ Q ↔ Wp L d k_M_counts 101 [l0, vI a1, vI s0, l3, l4] [] σ Q := wp_istore (i := 2) (ls := [l0, vI a1, l2, l3, l4]) rfl rfl
theorem r_M_counts_101 : Wp L d k_M_counts 101 [l0, l1, vI a2, vI a3, l4] [] σ Q ↔ Wp L d k_M_counts 104 [l0, l1, vI a2, vI (w32 (a3 + 1)), l4] [] σ Q := wp_iinc (i := 3) (ls := [l0, l1, vI a2, vI a3, l4]) rfl rfl
theorem r_M_counts_104 : Wp L d k_M_counts 104 [l0, l1, l2, l3, l4] [] σ Q ↔ Wp L d k_M_counts 4 [l0, l1, l2, l3, l4] [] σ Q := wp_goto rfl
theorem r_M_counts_107 : Wp L d k_M_counts 107 [l0, l1, vI a2, l3, l4] [] σ Q ↔ Wp L d k_M_counts 108 [l0, l1, vI a2, l3, l4] [vI a2] σ Q := wp_iload rfl rfl
theorem r_M_counts_108 : Wp L d k_M_counts 108 [l0, l1, l2, l3, l4] [vI s0] σ Q ↔ Q (some (vI s0)) σ := wp_iret rfl
theorem r_M_counts_20 : Wp L (d + 1) k_M_counts 20 [l0, l1, l2, l3, l4] [vI s2, vR 293, vR c0] σ Q ↔ Wp L (d + 1) k_M_counts 23 [l0, l1, l2, l3, l4] [vI (w32 (930 + w32 (200 * s2))), vR c0] σ Q := wp_callR (d := d + 0) (as := [vR 293, vI s2]) (rest := [vR c0]) rfl rfl rfl rfl rfl rfl rfl (grecv_k (by rw [gK_293]) rfl) (sp_M_textAt)
theorem r_M_counts_36 : Wp L (d + 1) k_M_counts 36 [l0, l1, l2, l3, l4] [vI s2, vR 293, vR c0] σ Q ↔ Wp L (d + 1) k_M_counts 39 [l0, l1, l2, l3, l4] [vI (w32 (930 + w32 (200 * s2))), vR c0] σ Q := wp_callR (d := d + 0) (as := [vR 293, vI s2]) (rest := [vR c0]) rfl rfl rfl rfl rfl rfl rfl (grecv_k (by rw [gK_293]) rfl) (sp_M_textAt)
theorem r_M_counts_74 : Wp L (d + 1) k_M_counts 74 [l0, l1, l2, l3, l4] [vI s2, vR 293, vR c0] σ Q ↔ Wp L (d + 1) k_M_counts 77 [l0, l1, l2, l3, l4] [vI (w32 (930 + w32 (200 * s2))), vR c0] σ Q := wp_callR (d := d + 0) (as := [vR 293, vI s2]) (rest := [vR c0]) rfl rfl rfl rfl rfl rfl rfl (grecv_k (by rw [gK_293]) rfl) (sp_M_textAt)
theorem r_M_counts_86 : Wp L (d + 1) k_M_counts 86 [l0, l1, l2, l3, l4] [vI s3, vR 293, vR c1, vI s0] σ Q ↔ Wp L (d + 1) k_M_counts 89 [l0, l1, l2, l3, l4] [vI (w32 (930 + w32 (200 * s3))), vR c1, vI s0] σ Q := wp_callR (d := d + 0) (as := [vR 293, vI s3]) (rest := [vR c1, vI s0]) rfl rfl rfl rfl rfl rfl rfl (grecv_k (by rw [gK_293]) rfl) (sp_M_textAt)
theorem sp_M_counts (hw : WT (σ 294)) : Run L (d + 1) 259 [vR 293, vI a1] σ (some (vI (brct (σ 294) a1 (σ 294 2).toNat))) σ := by
  refine Run_of (C' := k_M_counts) rfl ?_
  show Wp L (d + 1) k_M_counts 0 [vR 293, vI a1, vU, vU, vU] [] σ _
  obtain ⟨K293, Q293, K294, N294⟩ := litM
  have w1 := hw.1
  simp (disch := first | assumption | exact gb_01 _ | omega) only [r_M_counts_0, r_M_counts_1, r_M_counts_2, r_M_counts_3, r_M_counts_5, r_M_counts_6, r_M_counts_9, r_M_counts_10, r_M_counts_11, r_M_counts_14, r_M_counts_15, r_M_counts_18, r_M_counts_19, r_M_counts_20, r_M_counts_23, r_M_counts_24, r_M_counts_25, r_M_counts_26, r_M_counts_27, r_M_counts_30, r_M_counts_31, r_M_counts_34, r_M_counts_35, r_M_counts_36, r_M_counts_39, r_M_counts_40, r_M_counts_41, r_M_counts_42, r_M_counts_43, r_M_counts_46, r_M_counts_48, r_M_counts_49, r_M_counts_52, r_M_counts_53, r_M_counts_56, r_M_counts_57, r_M_counts_59, r_M_counts_61, r_M_counts_64, r_M_counts_65, r_M_counts_68, r_M_counts_69, r_M_counts_72, r_M_counts_73, r_M_counts_74, r_M_counts_77, r_M_counts_78, r_M_counts_79, r_M_counts_80, r_M_counts_81, r_M_counts_84, r_M_counts_85, r_M_counts_86, r_M_counts_89, r_M_counts_90, r_M_counts_91, r_M_counts_92, r_M_counts_95, r_M_counts_96, r_M_counts_99, r_M_counts_100, r_M_counts_101, r_M_counts_104, r_M_counts_107, r_M_counts_108, Q293, Int.add_zero, w32_gb, w32i, tn_add, tn_mul, Int.toNat_natCast, Int.toNat_zero, Int.reduceLE, Int.reduceLT, Int.reduceEq, Int.reduceNe, gb_T, gb_F, Int.reduceToNat, eq_self, true_or, or_true, and_true, true_and, and_self, ↓ite_gb0, ↓ite_gbn, ↓if_pos, ↓if_neg, if_true, if_false, not_true_eq_false, not_false_eq_true, gb_ne0, gb_eq0]
  refine wloop (n := (σ 294 2).toNat) (I := fun k ls τ => (∃ l, ls = [vR 293, vI a1, vI (brct (σ 294) a1 k), vI (k : Int), l]) ∧ τ = σ) (fun k ls τ hk hi hq => ?_) (fun ls τ hi => ?_) (σ 294 2).toNat 0 (by omega) _ _ ⟨⟨_, rfl⟩, rfl⟩
  · obtain ⟨⟨l, rfl⟩, rfl⟩ := hi
    have x := brct_bd (τ 294) a1 k
    have fin : ∀ (y : Int) (l : gV), y = brct (τ 294) a1 (k + 1) → Wp L (d + 1) k_M_counts 4 [vR 293, vI a1, vI y, vI ((k : Int) + 1), l] [] τ _ := fun y l e => hq _ _ ⟨⟨l, by rw [e, show (((k + 1 : Nat)) : Int) = (k : Int) + 1 by omega]⟩, rfl⟩
    rw [r_M_counts_4]
    by_cases e1 : τ 294 (930 + 200 * k) = a1 ∧ τ 294 (930 + 200 * k + 1) ≤ τ 294 7
    · by_cases e2 : brct (τ 294) a1 k < 0
      · simp (disch := first | assumption | exact gb_01 _ | omega) only [r_M_counts_0, r_M_counts_1, r_M_counts_2, r_M_counts_3, r_M_counts_5, r_M_counts_6, r_M_counts_9, r_M_counts_10, r_M_counts_11, r_M_counts_14, r_M_counts_15, r_M_counts_18, r_M_counts_19, r_M_counts_20, r_M_counts_23, r_M_counts_24, r_M_counts_25, r_M_counts_26, r_M_counts_27, r_M_counts_30, r_M_counts_31, r_M_counts_34, r_M_counts_35, r_M_counts_36, r_M_counts_39, r_M_counts_40, r_M_counts_41, r_M_counts_42, r_M_counts_43, r_M_counts_46, r_M_counts_48, r_M_counts_49, r_M_counts_52, r_M_counts_53, r_M_counts_56, r_M_counts_57, r_M_counts_59, r_M_counts_61, r_M_counts_64, r_M_counts_65, r_M_counts_68, r_M_counts_69, r_M_counts_72, r_M_counts_73, r_M_counts_74, r_M_counts_77, r_M_counts_78, r_M_counts_79, r_M_counts_80, r_M_counts_81, r_M_counts_84, r_M_counts_85, r_M_counts_86, r_M_counts_89, r_M_counts_90, r_M_counts_91, r_M_counts_92, r_M_counts_95, r_M_counts_96, r_M_counts_99, r_M_counts_100, r_M_counts_101, r_M_counts_104, r_M_counts_107, r_M_counts_108, Q293, Int.add_zero, w32_gb, w32i, tn_add, tn_mul, Int.toNat_natCast, Int.toNat_zero, Int.reduceLE, Int.reduceLT, Int.reduceEq, Int.reduceNe, gb_T, gb_F, Int.reduceToNat, eq_self, true_or, or_true, and_true, true_and, and_self, ↓ite_gb0, ↓ite_gbn, ↓if_pos, ↓if_neg, if_true, if_false, not_true_eq_false, not_false_eq_true, gb_ne0, gb_eq0]
        exact fin _ _ (if_pos ⟨e1, Or.inl e2⟩).symm
      · by_cases e3 : τ 294 (930 + 200 * (brct (τ 294) a1 k).toNat + 1) ≤ τ 294 (930 + 200 * k + 1)
        · simp (disch := first | assumption | exact gb_01 _ | omega) only [r_M_counts_0, r_M_counts_1, r_M_counts_2, r_M_counts_3, r_M_counts_5, r_M_counts_6, r_M_counts_9, r_M_counts_10, r_M_counts_11, r_M_counts_14, r_M_counts_15, r_M_counts_18, r_M_counts_19, r_M_counts_20, r_M_counts_23, r_M_counts_24, r_M_counts_25, r_M_counts_26, r_M_counts_27, r_M_counts_30, r_M_counts_31, r_M_counts_34, r_M_counts_35, r_M_counts_36, r_M_counts_39, r_M_counts_40, r_M_counts_41, r_M_counts_42, r_M_counts_43, r_M_counts_46, r_M_counts_48, r_M_counts_49, r_M_counts_52, r_M_counts_53, r_M_counts_56, r_M_counts_57, r_M_counts_59, r_M_counts_61, r_M_counts_64, r_M_counts_65, r_M_counts_68, r_M_counts_69, r_M_counts_72, r_M_counts_73, r_M_counts_74, r_M_counts_77, r_M_counts_78, r_M_counts_79, r_M_counts_80, r_M_counts_81, r_M_counts_84, r_M_counts_85, r_M_counts_86, r_M_counts_89, r_M_counts_90, r_M_counts_91, r_M_counts_92, r_M_counts_95, r_M_counts_96, r_M_counts_99, r_M_counts_100, r_M_counts_101, r_M_counts_104, r_M_counts_107, r_M_counts_108, Q293, Int.add_zero, w32_gb, w32i, tn_add, tn_mul, Int.toNat_natCast, Int.toNat_zero, Int.reduceLE, Int.reduceLT, Int.reduceEq, Int.reduceNe, gb_T, gb_F, Int.reduceToNat, eq_self, true_or, or_true, and_true, true_and, and_self, ↓ite_gb0, ↓ite_gbn, ↓if_pos, ↓if_neg, if_true, if_false, not_true_eq_false, not_false_eq_true, gb_ne0, gb_eq0]
          exact fin _ _ (if_pos ⟨e1, Or.inr e3⟩).symm
        · simp (disch := first | assumption | exact gb_01 _ | omega) only [r_M_counts_0, r_M_counts_1, r_M_counts_2, r_M_counts_3, r_M_counts_5, r_M_counts_6, r_M_counts_9, r_M_counts_10, r_M_counts_11, r_M_counts_14, r_M_counts_15, r_M_counts_18, r_M_counts_19, r_M_counts_20, r_M_counts_23, r_M_counts_24, r_M_counts_25, r_M_counts_26, r_M_counts_27, r_M_counts_30, r_M_counts_31, r_M_counts_34, r_M_counts_35, r_M_counts_36, r_M_counts_39, r_M_counts_40, r_M_counts_41, r_M_counts_42, r_M_counts_43, r_M_counts_46, r_M_counts_48, r_M_counts_49, r_M_counts_52, r_M_counts_53, r_M_counts_56, r_M_counts_57, r_M_counts_59, r_M_counts_61, r_M_counts_64, r_M_counts_65, r_M_counts_68, r_M_counts_69, r_M_counts_72, r_M_counts_73, r_M_counts_74, r_M_counts_77, r_M_counts_78, r_M_counts_79, r_M_counts_80, r_M_counts_81, r_M_counts_84, r_M_counts_85, r_M_counts_86, r_M_counts_89, r_M_counts_90, r_M_counts_91, r_M_counts_92, r_M_counts_95, r_M_counts_96, r_M_counts_99, r_M_counts_100, r_M_counts_101, r_M_counts_104, r_M_counts_107, r_M_counts_108, Q293, Int.add_zero, w32_gb, w32i, tn_add, tn_mul, Int.toNat_natCast, Int.toNat_zero, Int.reduceLE, Int.reduceLT, Int.reduceEq, Int.reduceNe, gb_T, gb_F, Int.reduceToNat, eq_self, true_or, or_true, and_true, true_and, and_self, ↓ite_gb0, ↓ite_gbn, ↓if_pos, ↓if_neg, if_true, if_false, not_true_eq_false, not_false_eq_true, gb_ne0, gb_eq0]
          exact fin _ _ (if_neg (fun z => by rcases z.2 with y | y; exact e2 y; exact e3 y)).symm
    · have g2 : brct (τ 294) a1 (k + 1) = brct (τ 294) a1 k := if_neg (fun z => e1 z.1)
      by_cases e4 : τ 294 (930 + 200 * k) = a1
      · simp (disch := first | assumption | exact gb_01 _ | omega) only [r_M_counts_0, r_M_counts_1, r_M_counts_2, r_M_counts_3, r_M_counts_5, r_M_counts_6, r_M_counts_9, r_M_counts_10, r_M_counts_11, r_M_counts_14, r_M_counts_15, r_M_counts_18, r_M_counts_19, r_M_counts_20, r_M_counts_23, r_M_counts_24, r_M_counts_25, r_M_counts_26, r_M_counts_27, r_M_counts_30, r_M_counts_31, r_M_counts_34, r_M_counts_35, r_M_counts_36, r_M_counts_39, r_M_counts_40, r_M_counts_41, r_M_counts_42, r_M_counts_43, r_M_counts_46, r_M_counts_48, r_M_counts_49, r_M_counts_52, r_M_counts_53, r_M_counts_56, r_M_counts_57, r_M_counts_59, r_M_counts_61, r_M_counts_64, r_M_counts_65, r_M_counts_68, r_M_counts_69, r_M_counts_72, r_M_counts_73, r_M_counts_74, r_M_counts_77, r_M_counts_78, r_M_counts_79, r_M_counts_80, r_M_counts_81, r_M_counts_84, r_M_counts_85, r_M_counts_86, r_M_counts_89, r_M_counts_90, r_M_counts_91, r_M_counts_92, r_M_counts_95, r_M_counts_96, r_M_counts_99, r_M_counts_100, r_M_counts_101, r_M_counts_104, r_M_counts_107, r_M_counts_108, Q293, Int.add_zero, w32_gb, w32i, tn_add, tn_mul, Int.toNat_natCast, Int.toNat_zero, Int.reduceLE, Int.reduceLT, Int.reduceEq, Int.reduceNe, gb_T, gb_F, Int.reduceToNat, eq_self, true_or, or_true, and_true, true_and, and_self, ↓ite_gb0, ↓ite_gbn, ↓if_pos, ↓if_neg, if_true, if_false, not_true_eq_false, not_false_eq_true, gb_ne0, gb_eq0]
        exact fin _ _ (by rw [g2])
      · simp (disch := first | assumption | exact gb_01 _ | omega) only [r_M_counts_0, r_M_counts_1, r_M_counts_2, r_M_counts_3, r_M_counts_5, r_M_counts_6, r_M_counts_9, r_M_counts_10, r_M_counts_11, r_M_counts_14, r_M_counts_15, r_M_counts_18, r_M_counts_19, r_M_counts_20, r_M_counts_23, r_M_counts_24, r_M_counts_25, r_M_counts_26, r_M_counts_27, r_M_counts_30, r_M_counts_31, r_M_counts_34, r_M_counts_35, r_M_counts_36, r_M_counts_39, r_M_counts_40, r_M_counts_41, r_M_counts_42, r_M_counts_43, r_M_counts_46, r_M_counts_48, r_M_counts_49, r_M_counts_52, r_M_counts_53, r_M_counts_56, r_M_counts_57, r_M_counts_59, r_M_counts_61, r_M_counts_64, r_M_counts_65, r_M_counts_68, r_M_counts_69, r_M_counts_72, r_M_counts_73, r_M_counts_74, r_M_counts_77, r_M_counts_78, r_M_counts_79, r_M_counts_80, r_M_counts_81, r_M_counts_84, r_M_counts_85, r_M_counts_86, r_M_counts_89, r_M_counts_90, r_M_counts_91, r_M_counts_92, r_M_counts_95, r_M_counts_96, r_M_counts_99, r_M_counts_100, r_M_counts_101, r_M_counts_104, r_M_counts_107, r_M_counts_108, Q293, Int.add_zero, w32_gb, w32i, tn_add, tn_mul, Int.toNat_natCast, Int.toNat_zero, Int.reduceLE, Int.reduceLT, Int.reduceEq, Int.reduceNe, gb_T, gb_F, Int.reduceToNat, eq_self, true_or, or_true, and_true, true_and, and_self, ↓ite_gb0, ↓ite_gbn, ↓if_pos, ↓if_neg, if_true, if_false, not_true_eq_false, not_false_eq_true, gb_ne0, gb_eq0]
        exact fin _ _ (by rw [g2])
  · obtain ⟨⟨l, rfl⟩, rfl⟩ := hi
    rw [r_M_counts_4]
    simp (disch := first | assumption | exact gb_01 _ | omega) only [r_M_counts_0, r_M_counts_1, r_M_counts_2, r_M_counts_3, r_M_counts_5, r_M_counts_6, r_M_counts_9, r_M_counts_10, r_M_counts_11, r_M_counts_14, r_M_counts_15, r_M_counts_18, r_M_counts_19, r_M_counts_20, r_M_counts_23, r_M_counts_24, r_M_counts_25, r_M_counts_26, r_M_counts_27, r_M_counts_30, r_M_counts_31, r_M_counts_34, r_M_counts_35, r_M_counts_36, r_M_counts_39, r_M_counts_40, r_M_counts_41, r_M_counts_42, r_M_counts_43, r_M_counts_46, r_M_counts_48, r_M_counts_49, r_M_counts_52, r_M_counts_53, r_M_counts_56, r_M_counts_57, r_M_counts_59, r_M_counts_61, r_M_counts_64, r_M_counts_65, r_M_counts_68, r_M_counts_69, r_M_counts_72, r_M_counts_73, r_M_counts_74, r_M_counts_77, r_M_counts_78, r_M_counts_79, r_M_counts_80, r_M_counts_81, r_M_counts_84, r_M_counts_85, r_M_counts_86, r_M_counts_89, r_M_counts_90, r_M_counts_91, r_M_counts_92, r_M_counts_95, r_M_counts_96, r_M_counts_99, r_M_counts_100, r_M_counts_101, r_M_counts_104, r_M_counts_107, r_M_counts_108, Q293, Int.add_zero, w32_gb, w32i, tn_add, tn_mul, Int.toNat_natCast, Int.toNat_zero, Int.reduceLE, Int.reduceLT, Int.reduceEq, Int.reduceNe, gb_T, gb_F, Int.reduceToNat, eq_self, true_or, or_true, and_true, true_and, and_self, ↓ite_gb0, ↓ite_gbn, ↓if_pos, ↓if_neg, if_true, if_false, not_true_eq_false, not_false_eq_true, gb_ne0, gb_eq0]
theorem r_C_leaf_0 : Wp L d k_C_leaf 0 [vI a0, l1, l2, l3] [] σ Q ↔ Wp L d k_C_leaf 1 [vI a0, l1, l2, l3] [vI a0] σ Q := wp_iload rfl rfl
theorem r_C_leaf_1 : Wp L d k_C_leaf 1 [l0, l1, l2, l3] [vI s0] σ Q ↔ Wp L d k_C_leaf 4 [l0, l1, l2, l3] [vI 10000, vI s0] σ Q := wp_push rfl
theorem r_C_leaf_4 : Wp L d k_C_leaf 4 [l0, l1, l2, l3] [vI s1, vI s0] σ Q ↔ Wp L d k_C_leaf 5 [l0, l1, l2, l3] [vI (w32 (s0 - s1))] σ Q := wp_isub rfl
theorem r_C_leaf_5 : Wp L d k_C_leaf 5 [l0, l1, l2, l3] [vI s0] σ Q ↔ (if s0 = 0 then Wp L d k_C_leaf 32 [l0, l1, l2, l3] [] σ Q else if s0 = 1 then Wp L d k_C_leaf 34 [l0, l1, l2, l3] [] σ Q else if s0 = 2 then Wp L d k_C_leaf 36 [l0, l1, l2, l3] [] σ Q else Wp L d k_C_leaf 38 [l0, l1, l2, l3] [] σ Q) := by
  by_cases h0 : s0 = 0
  · subst h0
    rw [if_pos rfl]
    exact Wp_s rfl rfl rfl rfl
  by_cases h1 : s0 = 1
  · subst h1
    rw [if_neg (by omega), if_pos rfl]
    exact Wp_s rfl rfl rfl rfl
  by_cases h2 : s0 = 2
  · subst h2
    rw [if_neg (by omega), if_neg (by omega), if_pos rfl]
    exact Wp_s rfl rfl rfl rfl
  rw [if_neg h0, if_neg h1, if_neg h2]
  have hout : s0 < 0 ∨ 2 < s0 := by omega
  exact Wp_s rfl rfl rfl (by simp only [gstep, vI, if_pos hout]; rfl)
theorem r_C_leaf_32 : Wp L d k_C_leaf 32 [l0, vI a1, l2, l3] [] σ Q ↔ Wp L d k_C_leaf 33 [l0, vI a1, l2, l3] [vI a1] σ Q := wp_iload rfl rfl
theorem r_C_leaf_33 : Wp L d k_C_leaf 33 [l0, l1, l2, l3] [vI s0] σ Q ↔ Q (some (vI s0)) σ := wp_iret rfl
theorem r_C_leaf_34 : Wp L d k_C_leaf 34 [l0, l1, vI a2, l3] [] σ Q ↔ Wp L d k_C_leaf 35 [l0, l1, vI a2, l3] [vI a2] σ Q := wp_iload rfl rfl
theorem r_C_leaf_35 : Wp L d k_C_leaf 35 [l0, l1, l2, l3] [vI s0] σ Q ↔ Q (some (vI s0)) σ := wp_iret rfl
theorem r_C_leaf_36 : Wp L d k_C_leaf 36 [l0, l1, l2, vI a3] [] σ Q ↔ Wp L d k_C_leaf 37 [l0, l1, l2, vI a3] [vI a3] σ Q := wp_iload rfl rfl
theorem r_C_leaf_37 : Wp L d k_C_leaf 37 [l0, l1, l2, l3] [vI s0] σ Q ↔ Q (some (vI s0)) σ := wp_iret rfl
theorem r_C_leaf_38 : Wp L d k_C_leaf 38 [vI a0, l1, l2, l3] [] σ Q ↔ Wp L d k_C_leaf 39 [vI a0, l1, l2, l3] [vI a0] σ Q := wp_iload rfl rfl
theorem r_C_leaf_39 : Wp L d k_C_leaf 39 [l0, l1, l2, l3] [vI s0] σ Q ↔ Q (some (vI s0)) σ := wp_iret rfl
theorem sp_C_leaf (h : 0 ≤ a0 ∧ a0 ≤ 20000) : Run L d 182 [vI a0, vI a1, vI a2, vI a3] σ (some (vI (if a0 = 10000 then a1 else if a0 = 10001 then a2 else if a0 = 10002 then a3 else a0))) σ := by
  refine Run_of (C' := k_C_leaf) rfl ?_
  show Wp L d k_C_leaf 0 [vI a0, vI a1, vI a2, vI a3] [] σ _
  by_cases e1 : a0 = 10000
  · simp (disch := first | assumption | exact gb_01 _ | omega) only [r_C_leaf_0, r_C_leaf_1, r_C_leaf_4, r_C_leaf_5, r_C_leaf_32, r_C_leaf_33, r_C_leaf_34, r_C_leaf_35, r_C_leaf_36, r_C_leaf_37, r_C_leaf_38, r_C_leaf_39, w32_gb, w32i, tn_add, tn_mul, Int.toNat_natCast, Int.toNat_zero, Int.reduceLE, Int.reduceLT, Int.reduceEq, Int.reduceNe, gb_T, gb_F, Int.reduceToNat, eq_self, true_or, or_true, and_true, true_and, and_self, ↓ite_gb0, ↓ite_gbn, ↓if_pos, ↓if_neg, if_true, if_false, not_true_eq_false, not_false_eq_true, gb_ne0, gb_eq0]
  · by_cases e2 : a0 = 10001
    · simp (disch := first | assumption | exact gb_01 _ | omega) only [r_C_leaf_0, r_C_leaf_1, r_C_leaf_4, r_C_leaf_5, r_C_leaf_32, r_C_leaf_33, r_C_leaf_34, r_C_leaf_35, r_C_leaf_36, r_C_leaf_37, r_C_leaf_38, r_C_leaf_39, w32_gb, w32i, tn_add, tn_mul, Int.toNat_natCast, Int.toNat_zero, Int.reduceLE, Int.reduceLT, Int.reduceEq, Int.reduceNe, gb_T, gb_F, Int.reduceToNat, eq_self, true_or, or_true, and_true, true_and, and_self, ↓ite_gb0, ↓ite_gbn, ↓if_pos, ↓if_neg, if_true, if_false, not_true_eq_false, not_false_eq_true, gb_ne0, gb_eq0]
    · by_cases e3 : a0 = 10002
      · simp (disch := first | assumption | exact gb_01 _ | omega) only [r_C_leaf_0, r_C_leaf_1, r_C_leaf_4, r_C_leaf_5, r_C_leaf_32, r_C_leaf_33, r_C_leaf_34, r_C_leaf_35, r_C_leaf_36, r_C_leaf_37, r_C_leaf_38, r_C_leaf_39, w32_gb, w32i, tn_add, tn_mul, Int.toNat_natCast, Int.toNat_zero, Int.reduceLE, Int.reduceLT, Int.reduceEq, Int.reduceNe, gb_T, gb_F, Int.reduceToNat, eq_self, true_or, or_true, and_true, true_and, and_self, ↓ite_gb0, ↓ite_gbn, ↓if_pos, ↓if_neg, if_true, if_false, not_true_eq_false, not_false_eq_true, gb_ne0, gb_eq0]
      · simp (disch := first | assumption | exact gb_01 _ | omega) only [r_C_leaf_0, r_C_leaf_1, r_C_leaf_4, r_C_leaf_5, r_C_leaf_32, r_C_leaf_33, r_C_leaf_34, r_C_leaf_35, r_C_leaf_36, r_C_leaf_37, r_C_leaf_38, r_C_leaf_39, w32_gb, w32i, tn_add, tn_mul, Int.toNat_natCast, Int.toNat_zero, Int.reduceLE, Int.reduceLT, Int.reduceEq, Int.reduceNe, gb_T, gb_F, Int.reduceToNat, eq_self, true_or, or_true, and_true, true_and, and_self, ↓ite_gb0, ↓ite_gbn, ↓if_pos, ↓if_neg, if_true, if_false, not_true_eq_false, not_false_eq_true, gb_ne0, gb_eq0]
theorem r_C_join_0 : Wp L d k_C_join 0 [vI a0, l1, l2] [] σ Q ↔ Wp L d k_C_join 1 [vI a0, l1, l2] [vI a0] σ Q := wp_iload rfl rfl
theorem r_C_join_1 : Wp L d k_C_join 1 [l0, l1, l2] [vI s0] σ Q ↔ (if s0 = 38 then Wp L d k_C_join 93 [l0, l1, l2] [] σ Q else if s0 = 42 then Wp L d k_C_join 160 [l0, l1, l2] [] σ Q else if s0 = 43 then Wp L d k_C_join 152 [l0, l1, l2] [] σ Q else if s0 = 45 then Wp L d k_C_join 156 [l0, l1, l2] [] σ Q else if s0 = 60 then Wp L d k_C_join 110 [l0, l1, l2] [] σ Q else if s0 = 61 then Wp L d k_C_join 124 [l0, l1, l2] [] σ Q else if s0 = 62 then Wp L d k_C_join 138 [l0, l1, l2] [] σ Q else if s0 = 124 then Wp L d k_C_join 76 [l0, l1, l2] [] σ Q else Wp L d k_C_join 164 [l0, l1, l2] [] σ Q) := by
  by_cases h0 : s0 = 38
  · subst h0
    rw [if_pos rfl]
    exact Wp_s rfl rfl rfl rfl
  by_cases h1 : s0 = 42
  · subst h1
    rw [if_neg (by omega), if_pos rfl]
    exact Wp_s rfl rfl rfl rfl
  by_cases h2 : s0 = 43
  · subst h2
    rw [if_neg (by omega), if_neg (by omega), if_pos rfl]
    exact Wp_s rfl rfl rfl rfl
  by_cases h3 : s0 = 45
  · subst h3
    rw [if_neg (by omega), if_neg (by omega), if_neg (by omega), if_pos rfl]
    exact Wp_s rfl rfl rfl rfl
  by_cases h4 : s0 = 60
  · subst h4
    rw [if_neg (by omega), if_neg (by omega), if_neg (by omega), if_neg (by omega), if_pos rfl]
    exact Wp_s rfl rfl rfl rfl
  by_cases h5 : s0 = 61
  · subst h5
    rw [if_neg (by omega), if_neg (by omega), if_neg (by omega), if_neg (by omega), if_neg (by omega), if_pos rfl]
    exact Wp_s rfl rfl rfl rfl
  by_cases h6 : s0 = 62
  · subst h6
    rw [if_neg (by omega), if_neg (by omega), if_neg (by omega), if_neg (by omega), if_neg (by omega), if_neg (by omega), if_pos rfl]
    exact Wp_s rfl rfl rfl rfl
  by_cases h7 : s0 = 124
  · subst h7
    rw [if_neg (by omega), if_neg (by omega), if_neg (by omega), if_neg (by omega), if_neg (by omega), if_neg (by omega), if_neg (by omega), if_pos rfl]
    exact Wp_s rfl rfl rfl rfl
  rw [if_neg h0, if_neg h1, if_neg h2, if_neg h3, if_neg h4, if_neg h5, if_neg h6, if_neg h7]
  exact Wp_s rfl rfl rfl (by simp only [gstep, vI, glook, h0, h1, h2, h3, h4, h5, h6, h7, if_false]; rfl)
theorem r_C_join_76 : Wp L d k_C_join 76 [l0, vI a1, l2] [] σ Q ↔ Wp L d k_C_join 77 [l0, vI a1, l2] [vI a1] σ Q := wp_iload rfl rfl
theorem r_C_join_77 : Wp L d k_C_join 77 [l0, l1, l2] [vI s0] σ Q ↔ (if s0 ≠ 0 then Wp L d k_C_join 84 [l0, l1, l2] [] σ Q else Wp L d k_C_join 80 [l0, l1, l2] [] σ Q) := wp_if_ne rfl
theorem r_C_join_80 : Wp L d k_C_join 80 [l0, l1, vI a2] [] σ Q ↔ Wp L d k_C_join 81 [l0, l1, vI a2] [vI a2] σ Q := wp_iload rfl rfl
theorem r_C_join_81 : Wp L d k_C_join 81 [l0, l1, l2] [vI s0] σ Q ↔ (if s0 = 0 then Wp L d k_C_join 88 [l0, l1, l2] [] σ Q else Wp L d k_C_join 84 [l0, l1, l2] [] σ Q) := wp_if_eq rfl
theorem r_C_join_84 : Wp L d k_C_join 84 [l0, l1, l2] [] σ Q ↔ Wp L d k_C_join 85 [l0, l1, l2] [vI 1] σ Q := wp_push rfl
theorem r_C_join_85 : Wp L d k_C_join 85 [l0, l1, l2] [vI s0] σ Q ↔ Wp L d k_C_join 89 [l0, l1, l2] [vI s0] σ Q := wp_goto rfl
theorem r_C_join_88 : Wp L d k_C_join 88 [l0, l1, l2] [] σ Q ↔ Wp L d k_C_join 89 [l0, l1, l2] [vI 0] σ Q := wp_push rfl
theorem r_C_join_92 : Wp L d k_C_join 92 [l0, l1, l2] [vI s0] σ Q ↔ Q (some (vI s0)) σ := wp_iret rfl
theorem r_C_join_93 : Wp L d k_C_join 93 [l0, vI a1, l2] [] σ Q ↔ Wp L d k_C_join 94 [l0, vI a1, l2] [vI a1] σ Q := wp_iload rfl rfl
theorem r_C_join_94 : Wp L d k_C_join 94 [l0, l1, l2] [vI s0] σ Q ↔ (if s0 = 0 then Wp L d k_C_join 105 [l0, l1, l2] [] σ Q else Wp L d k_C_join 97 [l0, l1, l2] [] σ Q) := wp_if_eq rfl
theorem r_C_join_97 : Wp L d k_C_join 97 [l0, l1, vI a2] [] σ Q ↔ Wp L d k_C_join 98 [l0, l1, vI a2] [vI a2] σ Q := wp_iload rfl rfl
theorem r_C_join_98 : Wp L d k_C_join 98 [l0, l1, l2] [vI s0] σ Q ↔ (if s0 = 0 then Wp L d k_C_join 105 [l0, l1, l2] [] σ Q else Wp L d k_C_join 101 [l0, l1, l2] [] σ Q) := wp_if_eq rfl
theorem r_C_join_101 : Wp L d k_C_join 101 [l0, l1, l2] [] σ Q ↔ Wp L d k_C_join 102 [l0, l1, l2] [vI 1] σ Q := wp_push rfl
theorem r_C_join_102 : Wp L d k_C_join 102 [l0, l1, l2] [vI s0] σ Q ↔ Wp L d k_C_join 106 [l0, l1, l2] [vI s0] σ Q := wp_goto rfl
theorem r_C_join_105 : Wp L d k_C_join 105 [l0, l1, l2] [] σ Q ↔ Wp L d k_C_join 106 [l0, l1, l2] [vI 0] σ Q := wp_push rfl
theorem r_C_join_109 : Wp L d k_C_join 109 [l0, l1, l2] [vI s0] σ Q ↔ Q (some (vI s0)) σ := wp_iret rfl
theorem r_C_join_110 : Wp L d k_C_join 110 [l0, vI a1, l2] [] σ Q ↔ Wp L d k_C_join 111 [l0, vI a1, l2] [vI a1] σ Q := wp_iload rfl rfl
theorem r_C_join_111 : Wp L d k_C_join 111 [l0, l1, vI a2] [vI s0] σ Q ↔ Wp L d k_C_join 112 [l0, l1, vI a2] [vI a2, vI s0] σ Q := wp_iload rfl rfl
theorem r_C_join_112 : Wp L d k_C_join 112 [l0, l1, l2] [vI s1, vI s0] σ Q ↔ (if s1 ≤ s0 then Wp L d k_C_join 119 [l0, l1, l2] [] σ Q else Wp L d k_C_join 115 [l0, l1, l2] [] σ Q) := wp_cmp_ge rfl
theorem r_C_join_115 : Wp L d k_C_join 115 [l0, l1, l2] [] σ Q ↔ Wp L d k_C_join 116 [l0, l1, l2] [vI 1] σ Q := wp_push rfl
theorem r_C_join_116 : Wp L d k_C_join 116 [l0, l1, l2] [vI s0] σ Q ↔ Wp L d k_C_join 120 [l0, l1, l2] [vI s0] σ Q := wp_goto rfl
theorem r_C_join_119 : Wp L d k_C_join 119 [l0, l1, l2] [] σ Q ↔ Wp L d k_C_join 120 [l0, l1, l2] [vI 0] σ Q := wp_push rfl
theorem r_C_join_123 : Wp L d k_C_join 123 [l0, l1, l2] [vI s0] σ Q ↔ Q (some (vI s0)) σ := wp_iret rfl
theorem r_C_join_124 : Wp L d k_C_join 124 [l0, vI a1, l2] [] σ Q ↔ Wp L d k_C_join 125 [l0, vI a1, l2] [vI a1] σ Q := wp_iload rfl rfl
theorem r_C_join_125 : Wp L d k_C_join 125 [l0, l1, vI a2] [vI s0] σ Q ↔ Wp L d k_C_join 126 [l0, l1, vI a2] [vI a2, vI s0] σ Q := wp_iload rfl rfl
theorem r_C_join_126 : Wp L d k_C_join 126 [l0, l1, l2] [vI s1, vI s0] σ Q ↔ (if s0 ≠ s1 then Wp L d k_C_join 133 [l0, l1, l2] [] σ Q else Wp L d k_C_join 129 [l0, l1, l2] [] σ Q) := wp_cmp_ne rfl
theorem r_C_join_129 : Wp L d k_C_join 129 [l0, l1, l2] [] σ Q ↔ Wp L d k_C_join 130 [l0, l1, l2] [vI 1] σ Q := wp_push rfl
theorem r_C_join_130 : Wp L d k_C_join 130 [l0, l1, l2] [vI s0] σ Q ↔ Wp L d k_C_join 134 [l0, l1, l2] [vI s0] σ Q := wp_goto rfl
theorem r_C_join_133 : Wp L d k_C_join 133 [l0, l1, l2] [] σ Q ↔ Wp L d k_C_join 134 [l0, l1, l2] [vI 0] σ Q := wp_push rfl
theorem r_C_join_137 : Wp L d k_C_join 137 [l0, l1, l2] [vI s0] σ Q ↔ Q (some (vI s0)) σ := wp_iret rfl
theorem r_C_join_138 : Wp L d k_C_join 138 [l0, vI a1, l2] [] σ Q ↔ Wp L d k_C_join 139 [l0, vI a1, l2] [vI a1] σ Q := wp_iload rfl rfl
theorem r_C_join_139 : Wp L d k_C_join 139 [l0, l1, vI a2] [vI s0] σ Q ↔ Wp L d k_C_join 140 [l0, l1, vI a2] [vI a2, vI s0] σ Q := wp_iload rfl rfl
theorem r_C_join_140 : Wp L d k_C_join 140 [l0, l1, l2] [vI s1, vI s0] σ Q ↔ (if s0 ≤ s1 then Wp L d k_C_join 147 [l0, l1, l2] [] σ Q else Wp L d k_C_join 143 [l0, l1, l2] [] σ Q) := wp_cmp_le rfl
theorem r_C_join_143 : Wp L d k_C_join 143 [l0, l1, l2] [] σ Q ↔ Wp L d k_C_join 144 [l0, l1, l2] [vI 1] σ Q := wp_push rfl
theorem r_C_join_144 : Wp L d k_C_join 144 [l0, l1, l2] [vI s0] σ Q ↔ Wp L d k_C_join 148 [l0, l1, l2] [vI s0] σ Q := wp_goto rfl
theorem r_C_join_147 : Wp L d k_C_join 147 [l0, l1, l2] [] σ Q ↔ Wp L d k_C_join 148 [l0, l1, l2] [vI 0] σ Q := wp_push rfl
theorem r_C_join_151 : Wp L d k_C_join 151 [l0, l1, l2] [vI s0] σ Q ↔ Q (some (vI s0)) σ := wp_iret rfl
theorem r_C_join_152 : Wp L d k_C_join 152 [l0, vI a1, l2] [] σ Q ↔ Wp L d k_C_join 153 [l0, vI a1, l2] [vI a1] σ Q := wp_iload rfl rfl
theorem r_C_join_153 : Wp L d k_C_join 153 [l0, l1, vI a2] [vI s0] σ Q ↔ Wp L d k_C_join 154 [l0, l1, vI a2] [vI a2, vI s0] σ Q := wp_iload rfl rfl
theorem r_C_join_154 : Wp L d k_C_join 154 [l0, l1, l2] [vI s1, vI s0] σ Q ↔ Wp L d k_C_join 155 [l0, l1, l2] [vI (w32 (s0 + s1))] σ Q := wp_iadd rfl
theorem r_C_join_155 : Wp L d k_C_join 155 [l0, l1, l2] [vI s0] σ Q ↔ Q (some (vI s0)) σ := wp_iret rfl
theorem r_C_join_156 : Wp L d k_C_join 156 [l0, vI a1, l2] [] σ Q ↔ Wp L d k_C_join 157 [l0, vI a1, l2] [vI a1] σ Q := wp_iload rfl rfl
theorem r_C_join_157 : Wp L d k_C_join 157 [l0, l1, vI a2] [vI s0] σ Q ↔ Wp L d k_C_join 158 [l0, l1, vI a2] [vI a2, vI s0] σ Q := wp_iload rfl rfl
theorem r_C_join_158 : Wp L d k_C_join 158 [l0, l1, l2] [vI s1, vI s0] σ Q ↔ Wp L d k_C_join 159 [l0, l1, l2] [vI (w32 (s0 - s1))] σ Q := wp_isub rfl
theorem r_C_join_159 : Wp L d k_C_join 159 [l0, l1, l2] [vI s0] σ Q ↔ Q (some (vI s0)) σ := wp_iret rfl
theorem r_C_join_160 : Wp L d k_C_join 160 [l0, vI a1, l2] [] σ Q ↔ Wp L d k_C_join 161 [l0, vI a1, l2] [vI a1] σ Q := wp_iload rfl rfl
theorem r_C_join_161 : Wp L d k_C_join 161 [l0, l1, vI a2] [vI s0] σ Q ↔ Wp L d k_C_join 162 [l0, l1, vI a2] [vI a2, vI s0] σ Q := wp_iload rfl rfl
theorem r_C_join_162 : Wp L d k_C_join 162 [l0, l1, l2] [vI s1, vI s0] σ Q ↔ Wp L d k_C_join 163 [l0, l1, l2] [vI (w32 (s0 * s1))] σ Q := wp_imul rfl
theorem r_C_join_163 : Wp L d k_C_join 163 [l0, l1, l2] [vI s0] σ Q ↔ Q (some (vI s0)) σ := wp_iret rfl
theorem r_C_join_164 : Wp L d k_C_join 164 [l0, l1, vI a2] [] σ Q ↔ Wp L d k_C_join 165 [l0, l1, vI a2] [vI a2] σ Q := wp_iload rfl rfl
theorem r_C_join_165 : Wp L d k_C_join 165 [l0, l1, l2] [vI s0] σ Q ↔ (if s0 ≠ 0 then Wp L d k_C_join 172 [l0, l1, l2] [] σ Q else Wp L d k_C_join 168 [l0, l1, l2] [] σ Q) := wp_if_ne rfl
theorem r_C_join_168 : Wp L d k_C_join 168 [l0, l1, l2] [] σ Q ↔ Wp L d k_C_join 169 [l0, l1, l2] [vI 0] σ Q := wp_push rfl
theorem r_C_join_169 : Wp L d k_C_join 169 [l0, l1, l2] [vI s0] σ Q ↔ Wp L d k_C_join 175 [l0, l1, l2] [vI s0] σ Q := wp_goto rfl
theorem r_C_join_172 : Wp L d k_C_join 172 [l0, vI a1, l2] [] σ Q ↔ Wp L d k_C_join 173 [l0, vI a1, l2] [vI a1] σ Q := wp_iload rfl rfl
theorem r_C_join_173 : Wp L d k_C_join 173 [l0, l1, vI a2] [vI s0] σ Q ↔ Wp L d k_C_join 174 [l0, l1, vI a2] [vI a2, vI s0] σ Q := wp_iload rfl rfl
theorem r_C_join_174 (h : s1 ≠ 0) : Wp L d k_C_join 174 [l0, l1, l2] [vI s1, vI s0] σ Q ↔ Wp L d k_C_join 175 [l0, l1, l2] [vI (w32 (s0.tdiv s1))] σ Q := wp_idiv rfl h
theorem r_C_join_175 : Wp L d k_C_join 175 [l0, l1, l2] [vI s0] σ Q ↔ Q (some (vI s0)) σ := wp_iret rfl
theorem r_C_join_89 : Wp L (d + 1) k_C_join 89 [l0, l1, l2] [vI s0] σ Q ↔ Wp L (d + 1) k_C_join 92 [l0, l1, l2] [vI (gb (s0 ≠ 0))] σ Q := wp_callR (d := d + 0) (as := [vI s0]) (rest := []) rfl rfl rfl rfl rfl rfl rfl rfl (sp_X_bit)
theorem r_C_join_106 : Wp L (d + 1) k_C_join 106 [l0, l1, l2] [vI s0] σ Q ↔ Wp L (d + 1) k_C_join 109 [l0, l1, l2] [vI (gb (s0 ≠ 0))] σ Q := wp_callR (d := d + 0) (as := [vI s0]) (rest := []) rfl rfl rfl rfl rfl rfl rfl rfl (sp_X_bit)
theorem r_C_join_120 : Wp L (d + 1) k_C_join 120 [l0, l1, l2] [vI s0] σ Q ↔ Wp L (d + 1) k_C_join 123 [l0, l1, l2] [vI (gb (s0 ≠ 0))] σ Q := wp_callR (d := d + 0) (as := [vI s0]) (rest := []) rfl rfl rfl rfl rfl rfl rfl rfl (sp_X_bit)
theorem r_C_join_134 : Wp L (d + 1) k_C_join 134 [l0, l1, l2] [vI s0] σ Q ↔ Wp L (d + 1) k_C_join 137 [l0, l1, l2] [vI (gb (s0 ≠ 0))] σ Q := wp_callR (d := d + 0) (as := [vI s0]) (rest := []) rfl rfl rfl rfl rfl rfl rfl rfl (sp_X_bit)
theorem r_C_join_148 : Wp L (d + 1) k_C_join 148 [l0, l1, l2] [vI s0] σ Q ↔ Wp L (d + 1) k_C_join 151 [l0, l1, l2] [vI (gb (s0 ≠ 0))] σ Q := wp_callR (d := d + 0) (as := [vI s0]) (rest := []) rfl rfl rfl rfl rfl rfl rfl rfl (sp_X_bit)
theorem sp_C_join (h : a0 = 124 ∨ a0 = 38 ∨ a0 = 60 ∨ a0 = 61 ∨ a0 = 62 ∨ a0 = 43 ∨ a0 = 45 ∨ a0 = 42 ∨ a0 = 47) : Run L (d + 1) 183 [vI a0, vI a1, vI a2] σ (some (vI (gjn a0 a1 a2))) σ := by
  refine Run_of (C' := k_C_join) rfl ?_
  show Wp L (d + 1) k_C_join 0 [vI a0, vI a1, vI a2] [] σ _
  unfold gjn
  rcases h with rfl | rfl | rfl | rfl | rfl | rfl | rfl | rfl | rfl
  · by_cases x : a1 = 0 <;> by_cases y : a2 = 0 <;> simp (disch := first | assumption | exact gb_01 _ | omega) only [r_C_join_0, r_C_join_1, r_C_join_76, r_C_join_77, r_C_join_80, r_C_join_81, r_C_join_84, r_C_join_85, r_C_join_88, r_C_join_89, r_C_join_92, r_C_join_93, r_C_join_94, r_C_join_97, r_C_join_98, r_C_join_101, r_C_join_102, r_C_join_105, r_C_join_106, r_C_join_109, r_C_join_110, r_C_join_111, r_C_join_112, r_C_join_115, r_C_join_116, r_C_join_119, r_C_join_120, r_C_join_123, r_C_join_124, r_C_join_125, r_C_join_126, r_C_join_129, r_C_join_130, r_C_join_133, r_C_join_134, r_C_join_137, r_C_join_138, r_C_join_139, r_C_join_140, r_C_join_143, r_C_join_144, r_C_join_147, r_C_join_148, r_C_join_151, r_C_join_152, r_C_join_153, r_C_join_154, r_C_join_155, r_C_join_156, r_C_join_157, r_C_join_158, r_C_join_159, r_C_join_160, r_C_join_161, r_C_join_162, r_C_join_163, r_C_join_164, r_C_join_165, r_C_join_168, r_C_join_169, r_C_join_172, r_C_join_173, r_C_join_174, r_C_join_175, w32_gb, w32i, tn_add, tn_mul, Int.toNat_natCast, Int.toNat_zero, Int.reduceLE, Int.reduceLT, Int.reduceEq, Int.reduceNe, gb_T, gb_F, Int.reduceToNat, eq_self, true_or, or_true, and_true, true_and, and_self, ↓ite_gb0, ↓ite_gbn, ↓if_pos, ↓if_neg, if_true, if_false, not_true_eq_false, not_false_eq_true, gb_ne0, gb_eq0] <;> first | rw [gb_t (by omega)] | rw [gb_f (by omega)]
  · by_cases x : a1 = 0 <;> by_cases y : a2 = 0 <;> simp (disch := first | assumption | exact gb_01 _ | omega) only [r_C_join_0, r_C_join_1, r_C_join_76, r_C_join_77, r_C_join_80, r_C_join_81, r_C_join_84, r_C_join_85, r_C_join_88, r_C_join_89, r_C_join_92, r_C_join_93, r_C_join_94, r_C_join_97, r_C_join_98, r_C_join_101, r_C_join_102, r_C_join_105, r_C_join_106, r_C_join_109, r_C_join_110, r_C_join_111, r_C_join_112, r_C_join_115, r_C_join_116, r_C_join_119, r_C_join_120, r_C_join_123, r_C_join_124, r_C_join_125, r_C_join_126, r_C_join_129, r_C_join_130, r_C_join_133, r_C_join_134, r_C_join_137, r_C_join_138, r_C_join_139, r_C_join_140, r_C_join_143, r_C_join_144, r_C_join_147, r_C_join_148, r_C_join_151, r_C_join_152, r_C_join_153, r_C_join_154, r_C_join_155, r_C_join_156, r_C_join_157, r_C_join_158, r_C_join_159, r_C_join_160, r_C_join_161, r_C_join_162, r_C_join_163, r_C_join_164, r_C_join_165, r_C_join_168, r_C_join_169, r_C_join_172, r_C_join_173, r_C_join_174, r_C_join_175, w32_gb, w32i, tn_add, tn_mul, Int.toNat_natCast, Int.toNat_zero, Int.reduceLE, Int.reduceLT, Int.reduceEq, Int.reduceNe, gb_T, gb_F, Int.reduceToNat, eq_self, true_or, or_true, and_true, true_and, and_self, ↓ite_gb0, ↓ite_gbn, ↓if_pos, ↓if_neg, if_true, if_false, not_true_eq_false, not_false_eq_true, gb_ne0, gb_eq0] <;> first | rw [gb_t (by omega)] | rw [gb_f (by omega)]
  · by_cases x : a1 < a2 <;> simp (disch := first | assumption | exact gb_01 _ | omega) only [r_C_join_0, r_C_join_1, r_C_join_76, r_C_join_77, r_C_join_80, r_C_join_81, r_C_join_84, r_C_join_85, r_C_join_88, r_C_join_89, r_C_join_92, r_C_join_93, r_C_join_94, r_C_join_97, r_C_join_98, r_C_join_101, r_C_join_102, r_C_join_105, r_C_join_106, r_C_join_109, r_C_join_110, r_C_join_111, r_C_join_112, r_C_join_115, r_C_join_116, r_C_join_119, r_C_join_120, r_C_join_123, r_C_join_124, r_C_join_125, r_C_join_126, r_C_join_129, r_C_join_130, r_C_join_133, r_C_join_134, r_C_join_137, r_C_join_138, r_C_join_139, r_C_join_140, r_C_join_143, r_C_join_144, r_C_join_147, r_C_join_148, r_C_join_151, r_C_join_152, r_C_join_153, r_C_join_154, r_C_join_155, r_C_join_156, r_C_join_157, r_C_join_158, r_C_join_159, r_C_join_160, r_C_join_161, r_C_join_162, r_C_join_163, r_C_join_164, r_C_join_165, r_C_join_168, r_C_join_169, r_C_join_172, r_C_join_173, r_C_join_174, r_C_join_175, w32_gb, w32i, tn_add, tn_mul, Int.toNat_natCast, Int.toNat_zero, Int.reduceLE, Int.reduceLT, Int.reduceEq, Int.reduceNe, gb_T, gb_F, Int.reduceToNat, eq_self, true_or, or_true, and_true, true_and, and_self, ↓ite_gb0, ↓ite_gbn, ↓if_pos, ↓if_neg, if_true, if_false, not_true_eq_false, not_false_eq_true, gb_ne0, gb_eq0] <;> first | rw [gb_t (by omega)] | rw [gb_f (by omega)]
  · by_cases x : a1 = a2 <;> simp (disch := first | assumption | exact gb_01 _ | omega) only [r_C_join_0, r_C_join_1, r_C_join_76, r_C_join_77, r_C_join_80, r_C_join_81, r_C_join_84, r_C_join_85, r_C_join_88, r_C_join_89, r_C_join_92, r_C_join_93, r_C_join_94, r_C_join_97, r_C_join_98, r_C_join_101, r_C_join_102, r_C_join_105, r_C_join_106, r_C_join_109, r_C_join_110, r_C_join_111, r_C_join_112, r_C_join_115, r_C_join_116, r_C_join_119, r_C_join_120, r_C_join_123, r_C_join_124, r_C_join_125, r_C_join_126, r_C_join_129, r_C_join_130, r_C_join_133, r_C_join_134, r_C_join_137, r_C_join_138, r_C_join_139, r_C_join_140, r_C_join_143, r_C_join_144, r_C_join_147, r_C_join_148, r_C_join_151, r_C_join_152, r_C_join_153, r_C_join_154, r_C_join_155, r_C_join_156, r_C_join_157, r_C_join_158, r_C_join_159, r_C_join_160, r_C_join_161, r_C_join_162, r_C_join_163, r_C_join_164, r_C_join_165, r_C_join_168, r_C_join_169, r_C_join_172, r_C_join_173, r_C_join_174, r_C_join_175, w32_gb, w32i, tn_add, tn_mul, Int.toNat_natCast, Int.toNat_zero, Int.reduceLE, Int.reduceLT, Int.reduceEq, Int.reduceNe, gb_T, gb_F, Int.reduceToNat, eq_self, true_or, or_true, and_true, true_and, and_self, ↓ite_gb0, ↓ite_gbn, ↓if_pos, ↓if_neg, if_true, if_false, not_true_eq_false, not_false_eq_true, gb_ne0, gb_eq0] <;> first | rw [gb_t (by omega)] | rw [gb_f (by omega)]
  · by_cases x : a2 < a1 <;> simp (disch := first | assumption | exact gb_01 _ | omega) only [r_C_join_0, r_C_join_1, r_C_join_76, r_C_join_77, r_C_join_80, r_C_join_81, r_C_join_84, r_C_join_85, r_C_join_88, r_C_join_89, r_C_join_92, r_C_join_93, r_C_join_94, r_C_join_97, r_C_join_98, r_C_join_101, r_C_join_102, r_C_join_105, r_C_join_106, r_C_join_109, r_C_join_110, r_C_join_111, r_C_join_112, r_C_join_115, r_C_join_116, r_C_join_119, r_C_join_120, r_C_join_123, r_C_join_124, r_C_join_125, r_C_join_126, r_C_join_129, r_C_join_130, r_C_join_133, r_C_join_134, r_C_join_137, r_C_join_138, r_C_join_139, r_C_join_140, r_C_join_143, r_C_join_144, r_C_join_147, r_C_join_148, r_C_join_151, r_C_join_152, r_C_join_153, r_C_join_154, r_C_join_155, r_C_join_156, r_C_join_157, r_C_join_158, r_C_join_159, r_C_join_160, r_C_join_161, r_C_join_162, r_C_join_163, r_C_join_164, r_C_join_165, r_C_join_168, r_C_join_169, r_C_join_172, r_C_join_173, r_C_join_174, r_C_join_175, w32_gb, w32i, tn_add, tn_mul, Int.toNat_natCast, Int.toNat_zero, Int.reduceLE, Int.reduceLT, Int.reduceEq, Int.reduceNe, gb_T, gb_F, Int.reduceToNat, eq_self, true_or, or_true, and_true, true_and, and_self, ↓ite_gb0, ↓ite_gbn, ↓if_pos, ↓if_neg, if_true, if_false, not_true_eq_false, not_false_eq_true, gb_ne0, gb_eq0] <;> first | rw [gb_t (by omega)] | rw [gb_f (by omega)]
  · simp (disch := first | assumption | exact gb_01 _ | omega) only [r_C_join_0, r_C_join_1, r_C_join_76, r_C_join_77, r_C_join_80, r_C_join_81, r_C_join_84, r_C_join_85, r_C_join_88, r_C_join_89, r_C_join_92, r_C_join_93, r_C_join_94, r_C_join_97, r_C_join_98, r_C_join_101, r_C_join_102, r_C_join_105, r_C_join_106, r_C_join_109, r_C_join_110, r_C_join_111, r_C_join_112, r_C_join_115, r_C_join_116, r_C_join_119, r_C_join_120, r_C_join_123, r_C_join_124, r_C_join_125, r_C_join_126, r_C_join_129, r_C_join_130, r_C_join_133, r_C_join_134, r_C_join_137, r_C_join_138, r_C_join_139, r_C_join_140, r_C_join_143, r_C_join_144, r_C_join_147, r_C_join_148, r_C_join_151, r_C_join_152, r_C_join_153, r_C_join_154, r_C_join_155, r_C_join_156, r_C_join_157, r_C_join_158, r_C_join_159, r_C_join_160, r_C_join_161, r_C_join_162, r_C_join_163, r_C_join_164, r_C_join_165, r_C_join_168, r_C_join_169, r_C_join_172, r_C_join_173, r_C_join_174, r_C_join_175, w32_gb, w32i, tn_add, tn_mul, Int.toNat_natCast, Int.toNat_zero, Int.reduceLE, Int.reduceLT, Int.reduceEq, Int.reduceNe, gb_T, gb_F, Int.reduceToNat, eq_self, true_or, or_true, and_true, true_and, and_self, ↓ite_gb0, ↓ite_gbn, ↓if_pos, ↓if_neg, if_true, if_false, not_true_eq_false, not_false_eq_true, gb_ne0, gb_eq0]
  · simp (disch := first | assumption | exact gb_01 _ | omega) only [r_C_join_0, r_C_join_1, r_C_join_76, r_C_join_77, r_C_join_80, r_C_join_81, r_C_join_84, r_C_join_85, r_C_join_88, r_C_join_89, r_C_join_92, r_C_join_93, r_C_join_94, r_C_join_97, r_C_join_98, r_C_join_101, r_C_join_102, r_C_join_105, r_C_join_106, r_C_join_109, r_C_join_110, r_C_join_111, r_C_join_112, r_C_join_115, r_C_join_116, r_C_join_119, r_C_join_120, r_C_join_123, r_C_join_124, r_C_join_125, r_C_join_126, r_C_join_129, r_C_join_130, r_C_join_133, r_C_join_134, r_C_join_137, r_C_join_138, r_C_join_139, r_C_join_140, r_C_join_143, r_C_join_144, r_C_join_147, r_C_join_148, r_C_join_151, r_C_join_152, r_C_join_153, r_C_join_154, r_C_join_155, r_C_join_156, r_C_join_157, r_C_join_158, r_C_join_159, r_C_join_160, r_C_join_161, r_C_join_162, r_C_join_163, r_C_join_164, r_C_join_165, r_C_join_168, r_C_join_169, r_C_join_172, r_C_join_173, r_C_join_174, r_C_join_175, w32_gb, w32i, tn_add, tn_mul, Int.toNat_natCast, Int.toNat_zero, Int.reduceLE, Int.reduceLT, Int.reduceEq, Int.reduceNe, gb_T, gb_F, Int.reduceToNat, eq_self, true_or, or_true, and_true, true_and, and_self, ↓ite_gb0, ↓ite_gbn, ↓if_pos, ↓if_neg, if_true, if_false, not_true_eq_false, not_false_eq_true, gb_ne0, gb_eq0]
  · simp (disch := first | assumption | exact gb_01 _ | omega) only [r_C_join_0, r_C_join_1, r_C_join_76, r_C_join_77, r_C_join_80, r_C_join_81, r_C_join_84, r_C_join_85, r_C_join_88, r_C_join_89, r_C_join_92, r_C_join_93, r_C_join_94, r_C_join_97, r_C_join_98, r_C_join_101, r_C_join_102, r_C_join_105, r_C_join_106, r_C_join_109, r_C_join_110, r_C_join_111, r_C_join_112, r_C_join_115, r_C_join_116, r_C_join_119, r_C_join_120, r_C_join_123, r_C_join_124, r_C_join_125, r_C_join_126, r_C_join_129, r_C_join_130, r_C_join_133, r_C_join_134, r_C_join_137, r_C_join_138, r_C_join_139, r_C_join_140, r_C_join_143, r_C_join_144, r_C_join_147, r_C_join_148, r_C_join_151, r_C_join_152, r_C_join_153, r_C_join_154, r_C_join_155, r_C_join_156, r_C_join_157, r_C_join_158, r_C_join_159, r_C_join_160, r_C_join_161, r_C_join_162, r_C_join_163, r_C_join_164, r_C_join_165, r_C_join_168, r_C_join_169, r_C_join_172, r_C_join_173, r_C_join_174, r_C_join_175, w32_gb, w32i, tn_add, tn_mul, Int.toNat_natCast, Int.toNat_zero, Int.reduceLE, Int.reduceLT, Int.reduceEq, Int.reduceNe, gb_T, gb_F, Int.reduceToNat, eq_self, true_or, or_true, and_true, true_and, and_self, ↓ite_gb0, ↓ite_gbn, ↓if_pos, ↓if_neg, if_true, if_false, not_true_eq_false, not_false_eq_true, gb_ne0, gb_eq0]
  · by_cases y : a2 = 0
    · simp (disch := first | assumption | exact gb_01 _ | omega) only [r_C_join_0, r_C_join_1, r_C_join_76, r_C_join_77, r_C_join_80, r_C_join_81, r_C_join_84, r_C_join_85, r_C_join_88, r_C_join_89, r_C_join_92, r_C_join_93, r_C_join_94, r_C_join_97, r_C_join_98, r_C_join_101, r_C_join_102, r_C_join_105, r_C_join_106, r_C_join_109, r_C_join_110, r_C_join_111, r_C_join_112, r_C_join_115, r_C_join_116, r_C_join_119, r_C_join_120, r_C_join_123, r_C_join_124, r_C_join_125, r_C_join_126, r_C_join_129, r_C_join_130, r_C_join_133, r_C_join_134, r_C_join_137, r_C_join_138, r_C_join_139, r_C_join_140, r_C_join_143, r_C_join_144, r_C_join_147, r_C_join_148, r_C_join_151, r_C_join_152, r_C_join_153, r_C_join_154, r_C_join_155, r_C_join_156, r_C_join_157, r_C_join_158, r_C_join_159, r_C_join_160, r_C_join_161, r_C_join_162, r_C_join_163, r_C_join_164, r_C_join_165, r_C_join_168, r_C_join_169, r_C_join_172, r_C_join_173, r_C_join_174, r_C_join_175, w32_gb, w32i, tn_add, tn_mul, Int.toNat_natCast, Int.toNat_zero, Int.reduceLE, Int.reduceLT, Int.reduceEq, Int.reduceNe, gb_T, gb_F, Int.reduceToNat, eq_self, true_or, or_true, and_true, true_and, and_self, ↓ite_gb0, ↓ite_gbn, ↓if_pos, ↓if_neg, if_true, if_false, not_true_eq_false, not_false_eq_true, gb_ne0, gb_eq0]
    · simp (disch := first | assumption | exact gb_01 _ | omega) only [r_C_join_0, r_C_join_1, r_C_join_76, r_C_join_77, r_C_join_80, r_C_join_81, r_C_join_84, r_C_join_85, r_C_join_88, r_C_join_89, r_C_join_92, r_C_join_93, r_C_join_94, r_C_join_97, r_C_join_98, r_C_join_101, r_C_join_102, r_C_join_105, r_C_join_106, r_C_join_109, r_C_join_110, r_C_join_111, r_C_join_112, r_C_join_115, r_C_join_116, r_C_join_119, r_C_join_120, r_C_join_123, r_C_join_124, r_C_join_125, r_C_join_126, r_C_join_129, r_C_join_130, r_C_join_133, r_C_join_134, r_C_join_137, r_C_join_138, r_C_join_139, r_C_join_140, r_C_join_143, r_C_join_144, r_C_join_147, r_C_join_148, r_C_join_151, r_C_join_152, r_C_join_153, r_C_join_154, r_C_join_155, r_C_join_156, r_C_join_157, r_C_join_158, r_C_join_159, r_C_join_160, r_C_join_161, r_C_join_162, r_C_join_163, r_C_join_164, r_C_join_165, r_C_join_168, r_C_join_169, r_C_join_172, r_C_join_173, r_C_join_174, r_C_join_175, w32_gb, w32i, tn_add, tn_mul, Int.toNat_natCast, Int.toNat_zero, Int.reduceLE, Int.reduceLT, Int.reduceEq, Int.reduceNe, gb_T, gb_F, Int.reduceToNat, eq_self, true_or, or_true, and_true, true_and, and_self, ↓ite_gb0, ↓ite_gbn, ↓if_pos, ↓if_neg, if_true, if_false, not_true_eq_false, not_false_eq_true, gb_ne0, gb_eq0]
theorem r_M_joined_0 : Wp L d k_M_joined 0 [vI a0, l1, l2] [] σ Q ↔ Wp L d k_M_joined 1 [vI a0, l1, l2] [vI a0] σ Q := wp_iload rfl rfl
theorem r_M_joined_1 : Wp L d k_M_joined 1 [l0, l1, l2] [vI s0] σ Q ↔ (if s0 = 38 then Wp L d k_M_joined 183 [l0, l1, l2] [] σ Q else if s0 = 42 then Wp L d k_M_joined 124 [l0, l1, l2] [] σ Q else if s0 = 43 then Wp L d k_M_joined 116 [l0, l1, l2] [] σ Q else if s0 = 45 then Wp L d k_M_joined 120 [l0, l1, l2] [] σ Q else if s0 = 47 then Wp L d k_M_joined 128 [l0, l1, l2] [] σ Q else if s0 = 60 then Wp L d k_M_joined 150 [l0, l1, l2] [] σ Q else if s0 = 61 then Wp L d k_M_joined 172 [l0, l1, l2] [] σ Q else if s0 = 62 then Wp L d k_M_joined 161 [l0, l1, l2] [] σ Q else Wp L d k_M_joined 197 [l0, l1, l2] [] σ Q) := by
  by_cases h0 : s0 = 38
  · subst h0
    rw [if_pos rfl]
    exact Wp_s rfl rfl rfl rfl
  by_cases h1 : s0 = 42
  · subst h1
    rw [if_neg (by omega), if_pos rfl]
    exact Wp_s rfl rfl rfl rfl
  by_cases h2 : s0 = 43
  · subst h2
    rw [if_neg (by omega), if_neg (by omega), if_pos rfl]
    exact Wp_s rfl rfl rfl rfl
  by_cases h3 : s0 = 45
  · subst h3
    rw [if_neg (by omega), if_neg (by omega), if_neg (by omega), if_pos rfl]
    exact Wp_s rfl rfl rfl rfl
  by_cases h4 : s0 = 47
  · subst h4
    rw [if_neg (by omega), if_neg (by omega), if_neg (by omega), if_neg (by omega), if_pos rfl]
    exact Wp_s rfl rfl rfl rfl
  by_cases h5 : s0 = 60
  · subst h5
    rw [if_neg (by omega), if_neg (by omega), if_neg (by omega), if_neg (by omega), if_neg (by omega), if_pos rfl]
    exact Wp_s rfl rfl rfl rfl
  by_cases h6 : s0 = 61
  · subst h6
    rw [if_neg (by omega), if_neg (by omega), if_neg (by omega), if_neg (by omega), if_neg (by omega), if_neg (by omega), if_pos rfl]
    exact Wp_s rfl rfl rfl rfl
  by_cases h7 : s0 = 62
  · subst h7
    rw [if_neg (by omega), if_neg (by omega), if_neg (by omega), if_neg (by omega), if_neg (by omega), if_neg (by omega), if_neg (by omega), if_pos rfl]
    exact Wp_s rfl rfl rfl rfl
  rw [if_neg h0, if_neg h1, if_neg h2, if_neg h3, if_neg h4, if_neg h5, if_neg h6, if_neg h7]
  by_cases g : s0 = 39
  · subst g
    exact Wp_s rfl rfl rfl rfl
  by_cases g : s0 = 40
  · subst g
    exact Wp_s rfl rfl rfl rfl
  by_cases g : s0 = 41
  · subst g
    exact Wp_s rfl rfl rfl rfl
  by_cases g : s0 = 44
  · subst g
    exact Wp_s rfl rfl rfl rfl
  by_cases g : s0 = 46
  · subst g
    exact Wp_s rfl rfl rfl rfl
  by_cases g : s0 = 48
  · subst g
    exact Wp_s rfl rfl rfl rfl
  by_cases g : s0 = 49
  · subst g
    exact Wp_s rfl rfl rfl rfl
  by_cases g : s0 = 50
  · subst g
    exact Wp_s rfl rfl rfl rfl
  by_cases g : s0 = 51
  · subst g
    exact Wp_s rfl rfl rfl rfl
  by_cases g : s0 = 52
  · subst g
    exact Wp_s rfl rfl rfl rfl
  by_cases g : s0 = 53
  · subst g
    exact Wp_s rfl rfl rfl rfl
  by_cases g : s0 = 54
  · subst g
    exact Wp_s rfl rfl rfl rfl
  by_cases g : s0 = 55
  · subst g
    exact Wp_s rfl rfl rfl rfl
  by_cases g : s0 = 56
  · subst g
    exact Wp_s rfl rfl rfl rfl
  by_cases g : s0 = 57
  · subst g
    exact Wp_s rfl rfl rfl rfl
  by_cases g : s0 = 58
  · subst g
    exact Wp_s rfl rfl rfl rfl
  by_cases g : s0 = 59
  · subst g
    exact Wp_s rfl rfl rfl rfl
  have hout : s0 < 38 ∨ 62 < s0 := by omega
  exact Wp_s rfl rfl rfl (by simp only [gstep, vI, if_pos hout]; rfl)
theorem r_M_joined_116 : Wp L d k_M_joined 116 [l0, vI a1, l2] [] σ Q ↔ Wp L d k_M_joined 117 [l0, vI a1, l2] [vI a1] σ Q := wp_iload rfl rfl
theorem r_M_joined_117 : Wp L d k_M_joined 117 [l0, l1, vI a2] [vI s0] σ Q ↔ Wp L d k_M_joined 118 [l0, l1, vI a2] [vI a2, vI s0] σ Q := wp_iload rfl rfl
theorem r_M_joined_118 : Wp L d k_M_joined 118 [l0, l1, l2] [vI s1, vI s0] σ Q ↔ Wp L d k_M_joined 119 [l0, l1, l2] [vI (w32 (s0 + s1))] σ Q := wp_iadd rfl
theorem r_M_joined_119 : Wp L d k_M_joined 119 [l0, l1, l2] [vI s0] σ Q ↔ Q (some (vI s0)) σ := wp_iret rfl
theorem r_M_joined_120 : Wp L d k_M_joined 120 [l0, vI a1, l2] [] σ Q ↔ Wp L d k_M_joined 121 [l0, vI a1, l2] [vI a1] σ Q := wp_iload rfl rfl
theorem r_M_joined_121 : Wp L d k_M_joined 121 [l0, l1, vI a2] [vI s0] σ Q ↔ Wp L d k_M_joined 122 [l0, l1, vI a2] [vI a2, vI s0] σ Q := wp_iload rfl rfl
theorem r_M_joined_122 : Wp L d k_M_joined 122 [l0, l1, l2] [vI s1, vI s0] σ Q ↔ Wp L d k_M_joined 123 [l0, l1, l2] [vI (w32 (s0 - s1))] σ Q := wp_isub rfl
theorem r_M_joined_123 : Wp L d k_M_joined 123 [l0, l1, l2] [vI s0] σ Q ↔ Q (some (vI s0)) σ := wp_iret rfl
theorem r_M_joined_124 : Wp L d k_M_joined 124 [l0, vI a1, l2] [] σ Q ↔ Wp L d k_M_joined 125 [l0, vI a1, l2] [vI a1] σ Q := wp_iload rfl rfl
theorem r_M_joined_125 : Wp L d k_M_joined 125 [l0, l1, vI a2] [vI s0] σ Q ↔ Wp L d k_M_joined 126 [l0, l1, vI a2] [vI a2, vI s0] σ Q := wp_iload rfl rfl
theorem r_M_joined_126 : Wp L d k_M_joined 126 [l0, l1, l2] [vI s1, vI s0] σ Q ↔ Wp L d k_M_joined 127 [l0, l1, l2] [vI (w32 (s0 * s1))] σ Q := wp_imul rfl
theorem r_M_joined_127 : Wp L d k_M_joined 127 [l0, l1, l2] [vI s0] σ Q ↔ Q (some (vI s0)) σ := wp_iret rfl
theorem r_M_joined_128 : Wp L d k_M_joined 128 [l0, l1, vI a2] [] σ Q ↔ Wp L d k_M_joined 129 [l0, l1, vI a2] [vI a2] σ Q := wp_iload rfl rfl
theorem r_M_joined_129 : Wp L d k_M_joined 129 [l0, l1, l2] [vI s0] σ Q ↔ (if s0 ≠ 0 then Wp L d k_M_joined 136 [l0, l1, l2] [] σ Q else Wp L d k_M_joined 132 [l0, l1, l2] [] σ Q) := wp_if_ne rfl
theorem r_M_joined_132 : Wp L d k_M_joined 132 [l0, l1, l2] [] σ Q ↔ Wp L d k_M_joined 133 [l0, l1, l2] [vI 0] σ Q := wp_push rfl
theorem r_M_joined_133 : Wp L d k_M_joined 133 [l0, l1, l2] [vI s0] σ Q ↔ Wp L d k_M_joined 149 [l0, l1, l2] [vI s0] σ Q := wp_goto rfl
theorem r_M_joined_136 : Wp L d k_M_joined 136 [l0, l1, vI a2] [] σ Q ↔ Wp L d k_M_joined 137 [l0, l1, vI a2] [vI a2] σ Q := wp_iload rfl rfl
theorem r_M_joined_137 : Wp L d k_M_joined 137 [l0, l1, l2] [vI s0] σ Q ↔ Wp L d k_M_joined 138 [l0, l1, l2] [vI (-1), vI s0] σ Q := wp_push rfl
theorem r_M_joined_138 : Wp L d k_M_joined 138 [l0, l1, l2] [vI s1, vI s0] σ Q ↔ (if s0 ≠ s1 then Wp L d k_M_joined 146 [l0, l1, l2] [] σ Q else Wp L d k_M_joined 141 [l0, l1, l2] [] σ Q) := wp_cmp_ne rfl
theorem r_M_joined_141 : Wp L d k_M_joined 141 [l0, vI a1, l2] [] σ Q ↔ Wp L d k_M_joined 142 [l0, vI a1, l2] [vI a1] σ Q := wp_iload rfl rfl
theorem r_M_joined_142 : Wp L d k_M_joined 142 [l0, l1, l2] [vI s0] σ Q ↔ Wp L d k_M_joined 143 [l0, l1, l2] [vI (w32 (-s0))] σ Q := wp_ineg rfl
theorem r_M_joined_143 : Wp L d k_M_joined 143 [l0, l1, l2] [vI s0] σ Q ↔ Wp L d k_M_joined 149 [l0, l1, l2] [vI s0] σ Q := wp_goto rfl
theorem r_M_joined_146 : Wp L d k_M_joined 146 [l0, vI a1, l2] [] σ Q ↔ Wp L d k_M_joined 147 [l0, vI a1, l2] [vI a1] σ Q := wp_iload rfl rfl
theorem r_M_joined_147 : Wp L d k_M_joined 147 [l0, l1, vI a2] [vI s0] σ Q ↔ Wp L d k_M_joined 148 [l0, l1, vI a2] [vI a2, vI s0] σ Q := wp_iload rfl rfl
theorem r_M_joined_148 (h : s1 ≠ 0) : Wp L d k_M_joined 148 [l0, l1, l2] [vI s1, vI s0] σ Q ↔ Wp L d k_M_joined 149 [l0, l1, l2] [vI (w32 (s0.tdiv s1))] σ Q := wp_idiv rfl h
theorem r_M_joined_149 : Wp L d k_M_joined 149 [l0, l1, l2] [vI s0] σ Q ↔ Q (some (vI s0)) σ := wp_iret rfl
theorem r_M_joined_150 : Wp L d k_M_joined 150 [l0, vI a1, l2] [] σ Q ↔ Wp L d k_M_joined 151 [l0, vI a1, l2] [vI a1] σ Q := wp_iload rfl rfl
theorem r_M_joined_151 : Wp L d k_M_joined 151 [l0, l1, vI a2] [vI s0] σ Q ↔ Wp L d k_M_joined 152 [l0, l1, vI a2] [vI a2, vI s0] σ Q := wp_iload rfl rfl
theorem r_M_joined_152 : Wp L d k_M_joined 152 [l0, l1, l2] [vI s1, vI s0] σ Q ↔ (if s1 ≤ s0 then Wp L d k_M_joined 159 [l0, l1, l2] [] σ Q else Wp L d k_M_joined 155 [l0, l1, l2] [] σ Q) := wp_cmp_ge rfl
theorem r_M_joined_155 : Wp L d k_M_joined 155 [l0, l1, l2] [] σ Q ↔ Wp L d k_M_joined 156 [l0, l1, l2] [vI 1] σ Q := wp_push rfl
theorem r_M_joined_156 : Wp L d k_M_joined 156 [l0, l1, l2] [vI s0] σ Q ↔ Wp L d k_M_joined 160 [l0, l1, l2] [vI s0] σ Q := wp_goto rfl
theorem r_M_joined_159 : Wp L d k_M_joined 159 [l0, l1, l2] [] σ Q ↔ Wp L d k_M_joined 160 [l0, l1, l2] [vI 0] σ Q := wp_push rfl
theorem r_M_joined_160 : Wp L d k_M_joined 160 [l0, l1, l2] [vI s0] σ Q ↔ Q (some (vI s0)) σ := wp_iret rfl
theorem r_M_joined_161 : Wp L d k_M_joined 161 [l0, vI a1, l2] [] σ Q ↔ Wp L d k_M_joined 162 [l0, vI a1, l2] [vI a1] σ Q := wp_iload rfl rfl
theorem r_M_joined_162 : Wp L d k_M_joined 162 [l0, l1, vI a2] [vI s0] σ Q ↔ Wp L d k_M_joined 163 [l0, l1, vI a2] [vI a2, vI s0] σ Q := wp_iload rfl rfl
theorem r_M_joined_163 : Wp L d k_M_joined 163 [l0, l1, l2] [vI s1, vI s0] σ Q ↔ (if s0 ≤ s1 then Wp L d k_M_joined 170 [l0, l1, l2] [] σ Q else Wp L d k_M_joined 166 [l0, l1, l2] [] σ Q) := wp_cmp_le rfl
theorem r_M_joined_166 : Wp L d k_M_joined 166 [l0, l1, l2] [] σ Q ↔ Wp L d k_M_joined 167 [l0, l1, l2] [vI 1] σ Q := wp_push rfl
theorem r_M_joined_167 : Wp L d k_M_joined 167 [l0, l1, l2] [vI s0] σ Q ↔ Wp L d k_M_joined 171 [l0, l1, l2] [vI s0] σ Q := wp_goto rfl
theorem r_M_joined_170 : Wp L d k_M_joined 170 [l0, l1, l2] [] σ Q ↔ Wp L d k_M_joined 171 [l0, l1, l2] [vI 0] σ Q := wp_push rfl
theorem r_M_joined_171 : Wp L d k_M_joined 171 [l0, l1, l2] [vI s0] σ Q ↔ Q (some (vI s0)) σ := wp_iret rfl
theorem r_M_joined_172 : Wp L d k_M_joined 172 [l0, vI a1, l2] [] σ Q ↔ Wp L d k_M_joined 173 [l0, vI a1, l2] [vI a1] σ Q := wp_iload rfl rfl
theorem r_M_joined_173 : Wp L d k_M_joined 173 [l0, l1, vI a2] [vI s0] σ Q ↔ Wp L d k_M_joined 174 [l0, l1, vI a2] [vI a2, vI s0] σ Q := wp_iload rfl rfl
theorem r_M_joined_174 : Wp L d k_M_joined 174 [l0, l1, l2] [vI s1, vI s0] σ Q ↔ (if s0 ≠ s1 then Wp L d k_M_joined 181 [l0, l1, l2] [] σ Q else Wp L d k_M_joined 177 [l0, l1, l2] [] σ Q) := wp_cmp_ne rfl
theorem r_M_joined_177 : Wp L d k_M_joined 177 [l0, l1, l2] [] σ Q ↔ Wp L d k_M_joined 178 [l0, l1, l2] [vI 1] σ Q := wp_push rfl
theorem r_M_joined_178 : Wp L d k_M_joined 178 [l0, l1, l2] [vI s0] σ Q ↔ Wp L d k_M_joined 182 [l0, l1, l2] [vI s0] σ Q := wp_goto rfl
theorem r_M_joined_181 : Wp L d k_M_joined 181 [l0, l1, l2] [] σ Q ↔ Wp L d k_M_joined 182 [l0, l1, l2] [vI 0] σ Q := wp_push rfl
theorem r_M_joined_182 : Wp L d k_M_joined 182 [l0, l1, l2] [vI s0] σ Q ↔ Q (some (vI s0)) σ := wp_iret rfl
theorem r_M_joined_183 : Wp L d k_M_joined 183 [l0, vI a1, l2] [] σ Q ↔ Wp L d k_M_joined 184 [l0, vI a1, l2] [vI a1] σ Q := wp_iload rfl rfl
theorem r_M_joined_184 : Wp L d k_M_joined 184 [l0, l1, l2] [vI s0] σ Q ↔ (if s0 = 0 then Wp L d k_M_joined 195 [l0, l1, l2] [] σ Q else Wp L d k_M_joined 187 [l0, l1, l2] [] σ Q) := wp_if_eq rfl
theorem r_M_joined_187 : Wp L d k_M_joined 187 [l0, l1, vI a2] [] σ Q ↔ Wp L d k_M_joined 188 [l0, l1, vI a2] [vI a2] σ Q := wp_iload rfl rfl
theorem r_M_joined_188 : Wp L d k_M_joined 188 [l0, l1, l2] [vI s0] σ Q ↔ (if s0 = 0 then Wp L d k_M_joined 195 [l0, l1, l2] [] σ Q else Wp L d k_M_joined 191 [l0, l1, l2] [] σ Q) := wp_if_eq rfl
theorem r_M_joined_191 : Wp L d k_M_joined 191 [l0, l1, l2] [] σ Q ↔ Wp L d k_M_joined 192 [l0, l1, l2] [vI 1] σ Q := wp_push rfl
theorem r_M_joined_192 : Wp L d k_M_joined 192 [l0, l1, l2] [vI s0] σ Q ↔ Wp L d k_M_joined 196 [l0, l1, l2] [vI s0] σ Q := wp_goto rfl
theorem r_M_joined_195 : Wp L d k_M_joined 195 [l0, l1, l2] [] σ Q ↔ Wp L d k_M_joined 196 [l0, l1, l2] [vI 0] σ Q := wp_push rfl
theorem r_M_joined_196 : Wp L d k_M_joined 196 [l0, l1, l2] [vI s0] σ Q ↔ Q (some (vI s0)) σ := wp_iret rfl
theorem r_M_joined_197 : Wp L d k_M_joined 197 [l0, vI a1, l2] [] σ Q ↔ Wp L d k_M_joined 198 [l0, vI a1, l2] [vI a1] σ Q := wp_iload rfl rfl
theorem r_M_joined_198 : Wp L d k_M_joined 198 [l0, l1, l2] [vI s0] σ Q ↔ (if s0 ≠ 0 then Wp L d k_M_joined 205 [l0, l1, l2] [] σ Q else Wp L d k_M_joined 201 [l0, l1, l2] [] σ Q) := wp_if_ne rfl
theorem r_M_joined_201 : Wp L d k_M_joined 201 [l0, l1, vI a2] [] σ Q ↔ Wp L d k_M_joined 202 [l0, l1, vI a2] [vI a2] σ Q := wp_iload rfl rfl
theorem r_M_joined_202 : Wp L d k_M_joined 202 [l0, l1, l2] [vI s0] σ Q ↔ (if s0 = 0 then Wp L d k_M_joined 209 [l0, l1, l2] [] σ Q else Wp L d k_M_joined 205 [l0, l1, l2] [] σ Q) := wp_if_eq rfl
theorem r_M_joined_205 : Wp L d k_M_joined 205 [l0, l1, l2] [] σ Q ↔ Wp L d k_M_joined 206 [l0, l1, l2] [vI 1] σ Q := wp_push rfl
theorem r_M_joined_206 : Wp L d k_M_joined 206 [l0, l1, l2] [vI s0] σ Q ↔ Wp L d k_M_joined 210 [l0, l1, l2] [vI s0] σ Q := wp_goto rfl
theorem r_M_joined_209 : Wp L d k_M_joined 209 [l0, l1, l2] [] σ Q ↔ Wp L d k_M_joined 210 [l0, l1, l2] [vI 0] σ Q := wp_push rfl
theorem r_M_joined_210 : Wp L d k_M_joined 210 [l0, l1, l2] [vI s0] σ Q ↔ Q (some (vI s0)) σ := wp_iret rfl
theorem sp_M_joined (h : a0 = 124 ∨ a0 = 38 ∨ a0 = 60 ∨ a0 = 61 ∨ a0 = 62 ∨ a0 = 43 ∨ a0 = 45 ∨ a0 = 42 ∨ a0 = 47) : Run L d 263 [vI a0, vI a1, vI a2] σ (some (vI (gjn a0 a1 a2))) σ := by
  refine Run_of (C' := k_M_joined) rfl ?_
  show Wp L d k_M_joined 0 [vI a0, vI a1, vI a2] [] σ _
  unfold gjn
  rcases h with rfl | rfl | rfl | rfl | rfl | rfl | rfl | rfl | rfl
  · by_cases x : a1 = 0 <;> by_cases y : a2 = 0 <;> simp (disch := first | assumption | exact gb_01 _ | omega) only [r_M_joined_0, r_M_joined_1, r_M_joined_116, r_M_joined_117, r_M_joined_118, r_M_joined_119, r_M_joined_120, r_M_joined_121, r_M_joined_122, r_M_joined_123, r_M_joined_124, r_M_joined_125, r_M_joined_126, r_M_joined_127, r_M_joined_128, r_M_joined_129, r_M_joined_132, r_M_joined_133, r_M_joined_136, r_M_joined_137, r_M_joined_138, r_M_joined_141, r_M_joined_142, r_M_joined_143, r_M_joined_146, r_M_joined_147, r_M_joined_148, r_M_joined_149, r_M_joined_150, r_M_joined_151, r_M_joined_152, r_M_joined_155, r_M_joined_156, r_M_joined_159, r_M_joined_160, r_M_joined_161, r_M_joined_162, r_M_joined_163, r_M_joined_166, r_M_joined_167, r_M_joined_170, r_M_joined_171, r_M_joined_172, r_M_joined_173, r_M_joined_174, r_M_joined_177, r_M_joined_178, r_M_joined_181, r_M_joined_182, r_M_joined_183, r_M_joined_184, r_M_joined_187, r_M_joined_188, r_M_joined_191, r_M_joined_192, r_M_joined_195, r_M_joined_196, r_M_joined_197, r_M_joined_198, r_M_joined_201, r_M_joined_202, r_M_joined_205, r_M_joined_206, r_M_joined_209, r_M_joined_210, w32_gb, w32i, tn_add, tn_mul, Int.toNat_natCast, Int.toNat_zero, Int.reduceLE, Int.reduceLT, Int.reduceEq, Int.reduceNe, gb_T, gb_F, Int.reduceToNat, eq_self, true_or, or_true, and_true, true_and, and_self, ↓ite_gb0, ↓ite_gbn, ↓if_pos, ↓if_neg, if_true, if_false, not_true_eq_false, not_false_eq_true, gb_ne0, gb_eq0] <;> first | rw [gb_t (by omega)] | rw [gb_f (by omega)]
  · by_cases x : a1 = 0 <;> by_cases y : a2 = 0 <;> simp (disch := first | assumption | exact gb_01 _ | omega) only [r_M_joined_0, r_M_joined_1, r_M_joined_116, r_M_joined_117, r_M_joined_118, r_M_joined_119, r_M_joined_120, r_M_joined_121, r_M_joined_122, r_M_joined_123, r_M_joined_124, r_M_joined_125, r_M_joined_126, r_M_joined_127, r_M_joined_128, r_M_joined_129, r_M_joined_132, r_M_joined_133, r_M_joined_136, r_M_joined_137, r_M_joined_138, r_M_joined_141, r_M_joined_142, r_M_joined_143, r_M_joined_146, r_M_joined_147, r_M_joined_148, r_M_joined_149, r_M_joined_150, r_M_joined_151, r_M_joined_152, r_M_joined_155, r_M_joined_156, r_M_joined_159, r_M_joined_160, r_M_joined_161, r_M_joined_162, r_M_joined_163, r_M_joined_166, r_M_joined_167, r_M_joined_170, r_M_joined_171, r_M_joined_172, r_M_joined_173, r_M_joined_174, r_M_joined_177, r_M_joined_178, r_M_joined_181, r_M_joined_182, r_M_joined_183, r_M_joined_184, r_M_joined_187, r_M_joined_188, r_M_joined_191, r_M_joined_192, r_M_joined_195, r_M_joined_196, r_M_joined_197, r_M_joined_198, r_M_joined_201, r_M_joined_202, r_M_joined_205, r_M_joined_206, r_M_joined_209, r_M_joined_210, w32_gb, w32i, tn_add, tn_mul, Int.toNat_natCast, Int.toNat_zero, Int.reduceLE, Int.reduceLT, Int.reduceEq, Int.reduceNe, gb_T, gb_F, Int.reduceToNat, eq_self, true_or, or_true, and_true, true_and, and_self, ↓ite_gb0, ↓ite_gbn, ↓if_pos, ↓if_neg, if_true, if_false, not_true_eq_false, not_false_eq_true, gb_ne0, gb_eq0] <;> first | rw [gb_t (by omega)] | rw [gb_f (by omega)]
  · by_cases x : a1 < a2 <;> simp (disch := first | assumption | exact gb_01 _ | omega) only [r_M_joined_0, r_M_joined_1, r_M_joined_116, r_M_joined_117, r_M_joined_118, r_M_joined_119, r_M_joined_120, r_M_joined_121, r_M_joined_122, r_M_joined_123, r_M_joined_124, r_M_joined_125, r_M_joined_126, r_M_joined_127, r_M_joined_128, r_M_joined_129, r_M_joined_132, r_M_joined_133, r_M_joined_136, r_M_joined_137, r_M_joined_138, r_M_joined_141, r_M_joined_142, r_M_joined_143, r_M_joined_146, r_M_joined_147, r_M_joined_148, r_M_joined_149, r_M_joined_150, r_M_joined_151, r_M_joined_152, r_M_joined_155, r_M_joined_156, r_M_joined_159, r_M_joined_160, r_M_joined_161, r_M_joined_162, r_M_joined_163, r_M_joined_166, r_M_joined_167, r_M_joined_170, r_M_joined_171, r_M_joined_172, r_M_joined_173, r_M_joined_174, r_M_joined_177, r_M_joined_178, r_M_joined_181, r_M_joined_182, r_M_joined_183, r_M_joined_184, r_M_joined_187, r_M_joined_188, r_M_joined_191, r_M_joined_192, r_M_joined_195, r_M_joined_196, r_M_joined_197, r_M_joined_198, r_M_joined_201, r_M_joined_202, r_M_joined_205, r_M_joined_206, r_M_joined_209, r_M_joined_210, w32_gb, w32i, tn_add, tn_mul, Int.toNat_natCast, Int.toNat_zero, Int.reduceLE, Int.reduceLT, Int.reduceEq, Int.reduceNe, gb_T, gb_F, Int.reduceToNat, eq_self, true_or, or_true, and_true, true_and, and_self, ↓ite_gb0, ↓ite_gbn, ↓if_pos, ↓if_neg, if_true, if_false, not_true_eq_false, not_false_eq_true, gb_ne0, gb_eq0] <;> first | rw [gb_t (by omega)] | rw [gb_f (by omega)]
  · by_cases x : a1 = a2 <;> simp (disch := first | assumption | exact gb_01 _ | omega) only [r_M_joined_0, r_M_joined_1, r_M_joined_116, r_M_joined_117, r_M_joined_118, r_M_joined_119, r_M_joined_120, r_M_joined_121, r_M_joined_122, r_M_joined_123, r_M_joined_124, r_M_joined_125, r_M_joined_126, r_M_joined_127, r_M_joined_128, r_M_joined_129, r_M_joined_132, r_M_joined_133, r_M_joined_136, r_M_joined_137, r_M_joined_138, r_M_joined_141, r_M_joined_142, r_M_joined_143, r_M_joined_146, r_M_joined_147, r_M_joined_148, r_M_joined_149, r_M_joined_150, r_M_joined_151, r_M_joined_152, r_M_joined_155, r_M_joined_156, r_M_joined_159, r_M_joined_160, r_M_joined_161, r_M_joined_162, r_M_joined_163, r_M_joined_166, r_M_joined_167, r_M_joined_170, r_M_joined_171, r_M_joined_172, r_M_joined_173, r_M_joined_174, r_M_joined_177, r_M_joined_178, r_M_joined_181, r_M_joined_182, r_M_joined_183, r_M_joined_184, r_M_joined_187, r_M_joined_188, r_M_joined_191, r_M_joined_192, r_M_joined_195, r_M_joined_196, r_M_joined_197, r_M_joined_198, r_M_joined_201, r_M_joined_202, r_M_joined_205, r_M_joined_206, r_M_joined_209, r_M_joined_210, w32_gb, w32i, tn_add, tn_mul, Int.toNat_natCast, Int.toNat_zero, Int.reduceLE, Int.reduceLT, Int.reduceEq, Int.reduceNe, gb_T, gb_F, Int.reduceToNat, eq_self, true_or, or_true, and_true, true_and, and_self, ↓ite_gb0, ↓ite_gbn, ↓if_pos, ↓if_neg, if_true, if_false, not_true_eq_false, not_false_eq_true, gb_ne0, gb_eq0] <;> first | rw [gb_t (by omega)] | rw [gb_f (by omega)]
  · by_cases x : a2 < a1 <;> simp (disch := first | assumption | exact gb_01 _ | omega) only [r_M_joined_0, r_M_joined_1, r_M_joined_116, r_M_joined_117, r_M_joined_118, r_M_joined_119, r_M_joined_120, r_M_joined_121, r_M_joined_122, r_M_joined_123, r_M_joined_124, r_M_joined_125, r_M_joined_126, r_M_joined_127, r_M_joined_128, r_M_joined_129, r_M_joined_132, r_M_joined_133, r_M_joined_136, r_M_joined_137, r_M_joined_138, r_M_joined_141, r_M_joined_142, r_M_joined_143, r_M_joined_146, r_M_joined_147, r_M_joined_148, r_M_joined_149, r_M_joined_150, r_M_joined_151, r_M_joined_152, r_M_joined_155, r_M_joined_156, r_M_joined_159, r_M_joined_160, r_M_joined_161, r_M_joined_162, r_M_joined_163, r_M_joined_166, r_M_joined_167, r_M_joined_170, r_M_joined_171, r_M_joined_172, r_M_joined_173, r_M_joined_174, r_M_joined_177, r_M_joined_178, r_M_joined_181, r_M_joined_182, r_M_joined_183, r_M_joined_184, r_M_joined_187, r_M_joined_188, r_M_joined_191, r_M_joined_192, r_M_joined_195, r_M_joined_196, r_M_joined_197, r_M_joined_198, r_M_joined_201, r_M_joined_202, r_M_joined_205, r_M_joined_206, r_M_joined_209, r_M_joined_210, w32_gb, w32i, tn_add, tn_mul, Int.toNat_natCast, Int.toNat_zero, Int.reduceLE, Int.reduceLT, Int.reduceEq, Int.reduceNe, gb_T, gb_F, Int.reduceToNat, eq_self, true_or, or_true, and_true, true_and, and_self, ↓ite_gb0, ↓ite_gbn, ↓if_pos, ↓if_neg, if_true, if_false, not_true_eq_false, not_false_eq_true, gb_ne0, gb_eq0] <;> first | rw [gb_t (by omega)] | rw [gb_f (by omega)]
  · simp (disch := first | assumption | exact gb_01 _ | omega) only [r_M_joined_0, r_M_joined_1, r_M_joined_116, r_M_joined_117, r_M_joined_118, r_M_joined_119, r_M_joined_120, r_M_joined_121, r_M_joined_122, r_M_joined_123, r_M_joined_124, r_M_joined_125, r_M_joined_126, r_M_joined_127, r_M_joined_128, r_M_joined_129, r_M_joined_132, r_M_joined_133, r_M_joined_136, r_M_joined_137, r_M_joined_138, r_M_joined_141, r_M_joined_142, r_M_joined_143, r_M_joined_146, r_M_joined_147, r_M_joined_148, r_M_joined_149, r_M_joined_150, r_M_joined_151, r_M_joined_152, r_M_joined_155, r_M_joined_156, r_M_joined_159, r_M_joined_160, r_M_joined_161, r_M_joined_162, r_M_joined_163, r_M_joined_166, r_M_joined_167, r_M_joined_170, r_M_joined_171, r_M_joined_172, r_M_joined_173, r_M_joined_174, r_M_joined_177, r_M_joined_178, r_M_joined_181, r_M_joined_182, r_M_joined_183, r_M_joined_184, r_M_joined_187, r_M_joined_188, r_M_joined_191, r_M_joined_192, r_M_joined_195, r_M_joined_196, r_M_joined_197, r_M_joined_198, r_M_joined_201, r_M_joined_202, r_M_joined_205, r_M_joined_206, r_M_joined_209, r_M_joined_210, w32_gb, w32i, tn_add, tn_mul, Int.toNat_natCast, Int.toNat_zero, Int.reduceLE, Int.reduceLT, Int.reduceEq, Int.reduceNe, gb_T, gb_F, Int.reduceToNat, eq_self, true_or, or_true, and_true, true_and, and_self, ↓ite_gb0, ↓ite_gbn, ↓if_pos, ↓if_neg, if_true, if_false, not_true_eq_false, not_false_eq_true, gb_ne0, gb_eq0]
  · simp (disch := first | assumption | exact gb_01 _ | omega) only [r_M_joined_0, r_M_joined_1, r_M_joined_116, r_M_joined_117, r_M_joined_118, r_M_joined_119, r_M_joined_120, r_M_joined_121, r_M_joined_122, r_M_joined_123, r_M_joined_124, r_M_joined_125, r_M_joined_126, r_M_joined_127, r_M_joined_128, r_M_joined_129, r_M_joined_132, r_M_joined_133, r_M_joined_136, r_M_joined_137, r_M_joined_138, r_M_joined_141, r_M_joined_142, r_M_joined_143, r_M_joined_146, r_M_joined_147, r_M_joined_148, r_M_joined_149, r_M_joined_150, r_M_joined_151, r_M_joined_152, r_M_joined_155, r_M_joined_156, r_M_joined_159, r_M_joined_160, r_M_joined_161, r_M_joined_162, r_M_joined_163, r_M_joined_166, r_M_joined_167, r_M_joined_170, r_M_joined_171, r_M_joined_172, r_M_joined_173, r_M_joined_174, r_M_joined_177, r_M_joined_178, r_M_joined_181, r_M_joined_182, r_M_joined_183, r_M_joined_184, r_M_joined_187, r_M_joined_188, r_M_joined_191, r_M_joined_192, r_M_joined_195, r_M_joined_196, r_M_joined_197, r_M_joined_198, r_M_joined_201, r_M_joined_202, r_M_joined_205, r_M_joined_206, r_M_joined_209, r_M_joined_210, w32_gb, w32i, tn_add, tn_mul, Int.toNat_natCast, Int.toNat_zero, Int.reduceLE, Int.reduceLT, Int.reduceEq, Int.reduceNe, gb_T, gb_F, Int.reduceToNat, eq_self, true_or, or_true, and_true, true_and, and_self, ↓ite_gb0, ↓ite_gbn, ↓if_pos, ↓if_neg, if_true, if_false, not_true_eq_false, not_false_eq_true, gb_ne0, gb_eq0]
  · simp (disch := first | assumption | exact gb_01 _ | omega) only [r_M_joined_0, r_M_joined_1, r_M_joined_116, r_M_joined_117, r_M_joined_118, r_M_joined_119, r_M_joined_120, r_M_joined_121, r_M_joined_122, r_M_joined_123, r_M_joined_124, r_M_joined_125, r_M_joined_126, r_M_joined_127, r_M_joined_128, r_M_joined_129, r_M_joined_132, r_M_joined_133, r_M_joined_136, r_M_joined_137, r_M_joined_138, r_M_joined_141, r_M_joined_142, r_M_joined_143, r_M_joined_146, r_M_joined_147, r_M_joined_148, r_M_joined_149, r_M_joined_150, r_M_joined_151, r_M_joined_152, r_M_joined_155, r_M_joined_156, r_M_joined_159, r_M_joined_160, r_M_joined_161, r_M_joined_162, r_M_joined_163, r_M_joined_166, r_M_joined_167, r_M_joined_170, r_M_joined_171, r_M_joined_172, r_M_joined_173, r_M_joined_174, r_M_joined_177, r_M_joined_178, r_M_joined_181, r_M_joined_182, r_M_joined_183, r_M_joined_184, r_M_joined_187, r_M_joined_188, r_M_joined_191, r_M_joined_192, r_M_joined_195, r_M_joined_196, r_M_joined_197, r_M_joined_198, r_M_joined_201, r_M_joined_202, r_M_joined_205, r_M_joined_206, r_M_joined_209, r_M_joined_210, w32_gb, w32i, tn_add, tn_mul, Int.toNat_natCast, Int.toNat_zero, Int.reduceLE, Int.reduceLT, Int.reduceEq, Int.reduceNe, gb_T, gb_F, Int.reduceToNat, eq_self, true_or, or_true, and_true, true_and, and_self, ↓ite_gb0, ↓ite_gbn, ↓if_pos, ↓if_neg, if_true, if_false, not_true_eq_false, not_false_eq_true, gb_ne0, gb_eq0]
  · by_cases y : a2 = 0
    · simp (disch := first | assumption | exact gb_01 _ | omega) only [r_M_joined_0, r_M_joined_1, r_M_joined_116, r_M_joined_117, r_M_joined_118, r_M_joined_119, r_M_joined_120, r_M_joined_121, r_M_joined_122, r_M_joined_123, r_M_joined_124, r_M_joined_125, r_M_joined_126, r_M_joined_127, r_M_joined_128, r_M_joined_129, r_M_joined_132, r_M_joined_133, r_M_joined_136, r_M_joined_137, r_M_joined_138, r_M_joined_141, r_M_joined_142, r_M_joined_143, r_M_joined_146, r_M_joined_147, r_M_joined_148, r_M_joined_149, r_M_joined_150, r_M_joined_151, r_M_joined_152, r_M_joined_155, r_M_joined_156, r_M_joined_159, r_M_joined_160, r_M_joined_161, r_M_joined_162, r_M_joined_163, r_M_joined_166, r_M_joined_167, r_M_joined_170, r_M_joined_171, r_M_joined_172, r_M_joined_173, r_M_joined_174, r_M_joined_177, r_M_joined_178, r_M_joined_181, r_M_joined_182, r_M_joined_183, r_M_joined_184, r_M_joined_187, r_M_joined_188, r_M_joined_191, r_M_joined_192, r_M_joined_195, r_M_joined_196, r_M_joined_197, r_M_joined_198, r_M_joined_201, r_M_joined_202, r_M_joined_205, r_M_joined_206, r_M_joined_209, r_M_joined_210, w32_gb, w32i, tn_add, tn_mul, Int.toNat_natCast, Int.toNat_zero, Int.reduceLE, Int.reduceLT, Int.reduceEq, Int.reduceNe, gb_T, gb_F, Int.reduceToNat, eq_self, true_or, or_true, and_true, true_and, and_self, ↓ite_gb0, ↓ite_gbn, ↓if_pos, ↓if_neg, if_true, if_false, not_true_eq_false, not_false_eq_true, gb_ne0, gb_eq0]
    · by_cases z : a2 = -1
      · have e : a1.tdiv a2 = -a1 := by rw [z, Int.tdiv_neg, Int.tdiv_one]
        simp (disch := first | assumption | exact gb_01 _ | omega) only [r_M_joined_0, r_M_joined_1, r_M_joined_116, r_M_joined_117, r_M_joined_118, r_M_joined_119, r_M_joined_120, r_M_joined_121, r_M_joined_122, r_M_joined_123, r_M_joined_124, r_M_joined_125, r_M_joined_126, r_M_joined_127, r_M_joined_128, r_M_joined_129, r_M_joined_132, r_M_joined_133, r_M_joined_136, r_M_joined_137, r_M_joined_138, r_M_joined_141, r_M_joined_142, r_M_joined_143, r_M_joined_146, r_M_joined_147, r_M_joined_148, r_M_joined_149, r_M_joined_150, r_M_joined_151, r_M_joined_152, r_M_joined_155, r_M_joined_156, r_M_joined_159, r_M_joined_160, r_M_joined_161, r_M_joined_162, r_M_joined_163, r_M_joined_166, r_M_joined_167, r_M_joined_170, r_M_joined_171, r_M_joined_172, r_M_joined_173, r_M_joined_174, r_M_joined_177, r_M_joined_178, r_M_joined_181, r_M_joined_182, r_M_joined_183, r_M_joined_184, r_M_joined_187, r_M_joined_188, r_M_joined_191, r_M_joined_192, r_M_joined_195, r_M_joined_196, r_M_joined_197, r_M_joined_198, r_M_joined_201, r_M_joined_202, r_M_joined_205, r_M_joined_206, r_M_joined_209, r_M_joined_210, e, w32_gb, w32i, tn_add, tn_mul, Int.toNat_natCast, Int.toNat_zero, Int.reduceLE, Int.reduceLT, Int.reduceEq, Int.reduceNe, gb_T, gb_F, Int.reduceToNat, eq_self, true_or, or_true, and_true, true_and, and_self, ↓ite_gb0, ↓ite_gbn, ↓if_pos, ↓if_neg, if_true, if_false, not_true_eq_false, not_false_eq_true, gb_ne0, gb_eq0]
      · simp (disch := first | assumption | exact gb_01 _ | omega) only [r_M_joined_0, r_M_joined_1, r_M_joined_116, r_M_joined_117, r_M_joined_118, r_M_joined_119, r_M_joined_120, r_M_joined_121, r_M_joined_122, r_M_joined_123, r_M_joined_124, r_M_joined_125, r_M_joined_126, r_M_joined_127, r_M_joined_128, r_M_joined_129, r_M_joined_132, r_M_joined_133, r_M_joined_136, r_M_joined_137, r_M_joined_138, r_M_joined_141, r_M_joined_142, r_M_joined_143, r_M_joined_146, r_M_joined_147, r_M_joined_148, r_M_joined_149, r_M_joined_150, r_M_joined_151, r_M_joined_152, r_M_joined_155, r_M_joined_156, r_M_joined_159, r_M_joined_160, r_M_joined_161, r_M_joined_162, r_M_joined_163, r_M_joined_166, r_M_joined_167, r_M_joined_170, r_M_joined_171, r_M_joined_172, r_M_joined_173, r_M_joined_174, r_M_joined_177, r_M_joined_178, r_M_joined_181, r_M_joined_182, r_M_joined_183, r_M_joined_184, r_M_joined_187, r_M_joined_188, r_M_joined_191, r_M_joined_192, r_M_joined_195, r_M_joined_196, r_M_joined_197, r_M_joined_198, r_M_joined_201, r_M_joined_202, r_M_joined_205, r_M_joined_206, r_M_joined_209, r_M_joined_210, w32_gb, w32i, tn_add, tn_mul, Int.toNat_natCast, Int.toNat_zero, Int.reduceLE, Int.reduceLT, Int.reduceEq, Int.reduceNe, gb_T, gb_F, Int.reduceToNat, eq_self, true_or, or_true, and_true, true_and, and_self, ↓ite_gb0, ↓ite_gbn, ↓if_pos, ↓if_neg, if_true, if_false, not_true_eq_false, not_false_eq_true, gb_ne0, gb_eq0]
theorem r_C_without_0 : Wp L d k_C_without 0 [vI a0] [] σ Q ↔ Wp L d k_C_without 1 [vI a0] [vI a0] σ Q := wp_iload rfl rfl
theorem r_C_without_1 : Wp L d k_C_without 1 [l0] [vI s0] σ Q ↔ (if s0 = 0 then Wp L d k_C_without 28 [l0] [] σ Q else if s0 = 1 then Wp L d k_C_without 31 [l0] [] σ Q else Wp L d k_C_without 34 [l0] [] σ Q) := by
  by_cases h0 : s0 = 0
  · subst h0
    rw [if_pos rfl]
    exact Wp_s rfl rfl rfl rfl
  by_cases h1 : s0 = 1
  · subst h1
    rw [if_neg (by omega), if_pos rfl]
    exact Wp_s rfl rfl rfl rfl
  rw [if_neg h0, if_neg h1]
  exact Wp_s rfl rfl rfl (by simp only [gstep, vI, glook, h0, h1, if_false]; rfl)
theorem r_C_without_28 : Wp L d k_C_without 28 [l0] [] σ Q ↔ Wp L d k_C_without 30 [l0] [vI 10] σ Q := wp_push rfl
theorem r_C_without_30 : Wp L d k_C_without 30 [l0] [vI s0] σ Q ↔ Q (some (vI s0)) σ := wp_iret rfl
theorem r_C_without_31 : Wp L d k_C_without 31 [l0] [] σ Q ↔ Wp L d k_C_without 33 [l0] [vI 99] σ Q := wp_push rfl
theorem r_C_without_33 : Wp L d k_C_without 33 [l0] [vI s0] σ Q ↔ Q (some (vI s0)) σ := wp_iret rfl
theorem r_C_without_34 : Wp L d k_C_without 34 [l0] [] σ Q ↔ Wp L d k_C_without 35 [l0] [vI 0] σ Q := wp_push rfl
theorem r_C_without_35 : Wp L d k_C_without 35 [l0] [vI s0] σ Q ↔ Q (some (vI s0)) σ := wp_iret rfl
theorem sp_C_without : Run L d 180 [vI a0] σ (some (vI (if a0 = 0 then 10 else if a0 = 1 then 99 else 0))) σ := by
  refine Run_of (C' := k_C_without) rfl ?_
  show Wp L d k_C_without 0 [vI a0] [] σ _
  by_cases e1 : a0 = 0
  · simp (disch := first | assumption | exact gb_01 _ | omega) only [r_C_without_0, r_C_without_1, r_C_without_28, r_C_without_30, r_C_without_31, r_C_without_33, r_C_without_34, r_C_without_35, w32_gb, w32i, tn_add, tn_mul, Int.toNat_natCast, Int.toNat_zero, Int.reduceLE, Int.reduceLT, Int.reduceEq, Int.reduceNe, gb_T, gb_F, Int.reduceToNat, eq_self, true_or, or_true, and_true, true_and, and_self, ↓ite_gb0, ↓ite_gbn, ↓if_pos, ↓if_neg, if_true, if_false, not_true_eq_false, not_false_eq_true, gb_ne0, gb_eq0]
  · by_cases e2 : a0 = 1
    · simp (disch := first | assumption | exact gb_01 _ | omega) only [r_C_without_0, r_C_without_1, r_C_without_28, r_C_without_30, r_C_without_31, r_C_without_33, r_C_without_34, r_C_without_35, w32_gb, w32i, tn_add, tn_mul, Int.toNat_natCast, Int.toNat_zero, Int.reduceLE, Int.reduceLT, Int.reduceEq, Int.reduceNe, gb_T, gb_F, Int.reduceToNat, eq_self, true_or, or_true, and_true, true_and, and_self, ↓ite_gb0, ↓ite_gbn, ↓if_pos, ↓if_neg, if_true, if_false, not_true_eq_false, not_false_eq_true, gb_ne0, gb_eq0]
    · simp (disch := first | assumption | exact gb_01 _ | omega) only [r_C_without_0, r_C_without_1, r_C_without_28, r_C_without_30, r_C_without_31, r_C_without_33, r_C_without_34, r_C_without_35, w32_gb, w32i, tn_add, tn_mul, Int.toNat_natCast, Int.toNat_zero, Int.reduceLE, Int.reduceLT, Int.reduceEq, Int.reduceNe, gb_T, gb_F, Int.reduceToNat, eq_self, true_or, or_true, and_true, true_and, and_self, ↓ite_gb0, ↓ite_gbn, ↓if_pos, ↓if_neg, if_true, if_false, not_true_eq_false, not_false_eq_true, gb_ne0, gb_eq0]
