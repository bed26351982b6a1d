/-! A bridge becomes as another. -/
variable {L d : Nat} {σ σ1 : Nat → Nat → Int} {Q : Option gV → (Nat → Nat → Int) → Prop} {a0 a1 a2 a3 a4 a5 a6 a7 a8 a9 a10 a11 s0 s1 s2 s3 s4 s5 s6 s7 s8 s9 : Int} {l0 l1 l2 l3 l4 l5 l6 l7 l8 l9 l10 l11 t0 t1 t2 t3 t4 t5 t6 t7 t8 t9 : gV} {b0 b1 b2 b3 b4 b5 b6 b7 b8 b9 b10 b11 c0 c1 c2 c3 c4 c5 c6 c7 c8 c9 : Nat} {r : Option gV}
/-! A run keeps rows of booleans at 0 and 1. -/
def PB (m : gMem) : Prop := ∀ k q, m.1[k]? = some q → q.1 = 101 → ∀ j, m.2 k j = 0 ∨ m.2 k j = 1
def gop2 : Instr → Bool
  | .putfield c => Nat.blt (c / 256) 100
  | _ => true
theorem PB_upd {s : List gCell} {σ : gMm} {k j : Nat} {v : Int} (hb : PB (s, σ)) (h : (∀ q, s[k]? = some q → q.1 ≠ 101) ∨ v = 0 ∨ v = 1) : PB (s, gupd σ k j v) := fun k' q hq h1 j' => by
  by_cases e : k' = k ∧ j' = j
  · show gupd σ k j v k' j' = 0 ∨ gupd σ k j v k' j' = 1
    rw [e.1, e.2, gupd_eq]
    rcases h with h | h
    · rw [e.1] at hq
      exact absurd h1 (h q hq)
    · exact h
  · show gupd σ k j v k' j' = 0 ∨ gupd σ k j v k' j' = 1
    rw [gupd_ne e]
    exact hb k' q hq h1 j'
theorem PB_cpy {s : List gCell} {σ : gMm} {k sp q dp n : Nat} {b : gCell} (hb : PB (s, σ)) (h : s[q]? = some b) (h1 : b.1 = 100) : PB (s, gcpy σ k sp q dp n) := fun k' c hc h2 j' => by
  have e : ¬ k' = q := fun e => by
    rw [e, h] at hc
    cases hc
    rw [h1] at h2
    exact absurd h2 (by decide)
  show gcpy σ k sp q dp n k' j' = 0 ∨ gcpy σ k sp q dp n k' j' = 1
  rw [gcpy_ne e]
  exact hb k' c hc h2 j'
theorem PB_set {s : List gCell} {σ : gMm} {k : Nat} {q : gCell} {a : Nat} {b : List (Option Nat)} (h : s[k]? = some q) (hb : PB (s, σ)) : PB (s.set k (q.1, a, b), σ) := fun k' c hc h2 j' => by
  have hc : (s.set k (q.1, a, b))[k']? = some c := hc
  by_cases e : k = k'
  · subst e
    rw [List.getElem?_set] at hc
    split at hc
    · split at hc
      · cases hc
        exact hb k q h h2 j'
      · cases hc
    · exact hb k c hc h2 j'
  · rw [List.getElem?_set_ne e] at hc
    exact hb k' c hc h2 j'
theorem PB_app {s t : List gCell} {σ : gMm} (hb : PB (s, σ)) : PB (s ++ t, gzer σ s.length) := fun k' c hc h2 j' => by
  show gzer σ s.length k' j' = 0 ∨ gzer σ s.length k' j' = 1
  unfold gzer
  by_cases e : s.length ≤ k'
  · rw [if_pos e]
    exact Or.inl rfl
  · rw [if_neg e]
    have hc : (s ++ t)[k']? = some c := hc
    rw [List.getElem?_append_left (by omega)] at hc
    exact hb k' c hc h2 j'
theorem gput_bl {c nx : Nat} {ls st : List gV} {m : gMem} {x : Nat × (List gV × (List gV × gMem))} (ho : gop2 (.putfield c) = true) (hb : PB m) (h : gput c nx ls st m = some x) : PB x.2.2.2 := by
  have ho : c / 256 < 100 := Nat.le_of_ble_eq_true ho
  obtain ⟨s, σ⟩ := m
  unfold gput at h
  split at h
  · split at h
    · next q hq =>
      split at h
      · next hc =>
        cases h
        refine PB_upd hb (Or.inl (fun q' hq' => ?_))
        rw [hq] at hq'
        cases hq'
        omega
      · cases h
    · cases h
  · split at h
    · next q hq =>
      split at h
      · cases h
        exact PB_set hq hb
      · cases h
    · cases h
  · cases h
theorem gast_bl {kd nx : Nat} {ls st : List gV} {m : gMem} {x : Nat × (List gV × (List gV × gMem))} (hb : PB m) (h : gast kd nx ls st m = some x) : PB x.2.2.2 := by
  obtain ⟨s, σ⟩ := m
  unfold gast at h
  split at h
  · split at h
    · next q hq =>
      split at h
      · next hc =>
        cases h
        refine PB_upd hb ?_
        rcases hc.2.2.2 with e | e
        · refine Or.inl (fun q' hq' => ?_)
          rw [hq] at hq'
          cases hq'
          omega
        · exact Or.inr e
      · cases h
    · cases h
  · cases h
theorem gasq_bl {nx : Nat} {ls st : List gV} {m : gMem} {x : Nat × (List gV × (List gV × gMem))} (hb : PB m) (h : gasq nx ls st m = some x) : PB x.2.2.2 := by
  obtain ⟨s, σ⟩ := m
  unfold gasq at h
  split at h
  · split at h
    · next q b hq hq2 =>
      split at h
      · cases h
        exact PB_set hq hb
      · cases h
    · cases h
  · cases h
theorem gcopy_bl {nx : Nat} {ls st : List gV} {m : gMem} {x : Nat × (List gV × (List gV × gMem))} (hb : PB m) (h : gcopy nx ls st m = some x) : PB x.2.2.2 := by
  obtain ⟨s, σ⟩ := m
  unfold gcopy at h
  split at h
  · split at h
    · next a b ha hb2 =>
      split at h
      · next hc =>
        cases h
        exact PB_cpy hb hb2 hc.2.1
      · cases h
    · cases h
  · cases h
set_option maxHeartbeats 4000000 in
theorem gstep_bl {op : Instr} {nx : Nat} {ls st : List gV} {m : gMem} {x : Nat × (List gV × (List gV × gMem))} (ho : gop2 op = true) (hb : PB m) (h : gstep op nx ls st m = some x) : PB x.2.2.2 := by
  obtain ⟨s, σ⟩ := m
  unfold gstep at h
  split at h
  all_goals first
    | exact gput_bl ho hb h
    | exact gast_bl hb h
    | exact gasq_bl hb h
    | (split at h <;> first | exact gcopy_bl hb h | (cases h; done))
    | ((try unfold gbin at h); (try unfold gbinL at h); (try unfold gdiv at h); (try unfold gget at h); (try unfold gald at h); (try unfold galq at h); (try unfold gnewa at h); (try unfold gmulti at h)
       (repeat' split at h) <;> first
         | (cases h; done)
         | (cases h; exact hb)
         | (cases h; exact PB_app hb))
theorem gT_op2 : ∀ y M, gT y = some M → ∀ q ∈ M.1, gop2 q.2.1 = true := by
  have h : gTs.all (fun M => M.1.all (fun q => gop2 q.2.1)) = true := by decide +kernel
  intro y M hy q hq
  have a := List.all_eq_true.1 h M (List.mem_of_getElem? hy)
  exact List.all_eq_true.1 a q hq
theorem gexec_bl : ∀ (n d : Nat) (C : gCode) (pc : Nat) (ls st : List gV) (m : gMem) (r : Option gV) (m' : gMem), (∀ q ∈ C, gop2 q.2.1 = true) → PB m → gexec gT n d C pc ls st m = some (r, m') → PB m' := by
  intro n
  induction n with
  | zero => intro d C pc ls st m r m' _ _ h; simp [gexec] at h
  | succ n ih =>
    intro d C pc ls st m r m' hC hs h
    unfold gexec at h
    cases hf : gfind C pc with
    | none => simp [hf] at h
    | some q =>
      obtain ⟨op, nx⟩ := q
      have ho : gop2 op = true := hC _ (gfind_mem C pc _ hf)
      simp only [hf] at h
      cases hc : gcallee op with
      | some y =>
        simp only [hc] at h
        cases d with
        | zero => simp at h
        | succ d' =>
          simp only at h
          cases hy : gT y with
          | none => simp [hy] at h
          | some M =>
            obtain ⟨C', maxL, na, rk⟩ := M
            simp only [hy] at h
            cases hsp : gsplit maxL na rk m st with
            | none => simp [hsp] at h
            | some ar =>
              obtain ⟨as, rest⟩ := ar
              simp only [hsp] at h
              cases he : gexec gT n d' C' 0 (gentry maxL as) [] m with
              | none => simp [he] at h
              | some rm =>
                obtain ⟨r1, m1⟩ := rm
                simp only [he] at h
                exact ih (d' + 1) C nx ls (r1.toList ++ rest) m1 r m' hC (ih d' C' 0 (gentry maxL as) [] m r1 m1 (gT_op2 y _ hy) hs he) h
      | none =>
        simp only [hc] at h
        cases hr : gret op st with
        | some r1 =>
          simp only [hr, Option.some.injEq, Prod.mk.injEq] at h
          obtain ⟨rfl, rfl⟩ := h
          exact hs
        | none =>
          simp only [hr] at h
          cases hst : gstep op nx ls st m with
          | none => simp [hst] at h
          | some x =>
            obtain ⟨pc', ls', st', m1⟩ := x
            simp only [hst] at h
            exact ih d C pc' ls' st' m1 r m' hC (gstep_bl ho hs hst) h
theorem Run_bl {L d y : Nat} {as : List gV} {σ σ1 : gMm} {r : Option gV} (h : Run L d y as σ r σ1) (hb : PB (gSH L, σ)) : PB (gSH L, σ1) := by
  obtain ⟨C, maxL, na, rk, n, hT, he⟩ := h
  exact gexec_bl n d C 0 _ [] _ r _ (gT_op2 y _ hT) hb he
theorem PB_32 {L : Nat} {σ : gMm} (hb : PB (gSH L, σ)) (j : Nat) : σ 32 j = 0 ∨ σ 32 j = 1 := hb 32 (101, 12, []) (by rw [gSH_at L 32 (by omega)]; decide +kernel) rfl j
theorem PB_133 {L : Nat} {σ : gMm} (hb : PB (gSH L, σ)) (j : Nat) : σ 133 j = 0 ∨ σ 133 j = 1 := hb 133 (101, 12, []) (by rw [gSH_at L 133 (by omega)]; decide +kernel) rfl j
def Op2 (x m : Nat) (as : List gV) : Prop := ∀ (L d : Nat) (σ : gMm), Inv σ → PB (gSH L, σ) → ∃ (r : Int) (σ1 σ2 : gMm), Run L (d + 1000) x (vR 27 :: as) σ (some (vI r)) σ1 ∧ Run L (d + 1000) m (vR 293 :: as) σ1 (some (vI r)) σ2 ∧ Inv σ2
theorem Op_2 {x m : Nat} {as : List gV} (h : Op x m as) : Op2 x m as := fun L d σ hI _ => h L d σ hI
theorem r_Q_become_0 : Wp L d k_Q_become 0 [vR b0, l1] [] σ Q ↔ Wp L d k_Q_become 1 [vR b0, l1] [vR b0] σ Q := wp_aload rfl rfl
theorem r_Q_become_1 : Wp L d k_Q_become 1 [l0, vR b1] [vR c0] σ Q ↔ Wp L d k_Q_become 2 [l0, vR b1] [vR b1, vR c0] σ Q := wp_aload rfl rfl
theorem r_Q_become_2 (h : gK c1 = 4) : Wp L d k_Q_become 2 [l0, l1] [vR c1, vR c0] σ Q ↔ Wp L d k_Q_become 5 [l0, l1] [vI (σ c1 0), vR c0] σ Q := wp_getI (c := 1024) rfl rfl rfl rfl h
theorem r_Q_become_5 (h : gK c0 = 4) : Wp L d k_Q_become 5 [l0, l1] [vI s1, vR c0] σ Q ↔ Wp L d k_Q_become 8 [l0, l1] [] (gupd σ c0 0 s1) Q := wp_putI (c := 1024) rfl rfl rfl rfl h
theorem r_Q_become_8 : Wp L d k_Q_become 8 [vR b0, l1] [] σ Q ↔ Wp L d k_Q_become 9 [vR b0, l1] [vR b0] σ Q := wp_aload rfl rfl
theorem r_Q_become_9 : Wp L d k_Q_become 9 [l0, vR b1] [vR c0] σ Q ↔ Wp L d k_Q_become 10 [l0, vR b1] [vR b1, vR c0] σ Q := wp_aload rfl rfl
theorem r_Q_become_10 (h : gK c1 = 4) : Wp L d k_Q_become 10 [l0, l1] [vR c1, vR c0] σ Q ↔ Wp L d k_Q_become 13 [l0, l1] [vI (σ c1 1), vR c0] σ Q := wp_getI (c := 1025) rfl rfl rfl rfl h
theorem r_Q_become_13 (h : gK c0 = 4) : Wp L d k_Q_become 13 [l0, l1] [vI s1, vR c0] σ Q ↔ Wp L d k_Q_become 16 [l0, l1] [] (gupd σ c0 1 s1) Q := wp_putI (c := 1025) rfl rfl rfl rfl h
theorem r_Q_become_16 : Wp L d k_Q_become 16 [vR b0, l1] [] σ Q ↔ Wp L d k_Q_become 17 [vR b0, l1] [vR b0] σ Q := wp_aload rfl rfl
theorem r_Q_become_17 : Wp L d k_Q_become 17 [l0, vR b1] [vR c0] σ Q ↔ Wp L d k_Q_become 18 [l0, vR b1] [vR b1, vR c0] σ Q := wp_aload rfl rfl
theorem r_Q_become_18 (h : gK c1 = 4) : Wp L d k_Q_become 18 [l0, l1] [vR c1, vR c0] σ Q ↔ Wp L d k_Q_become 21 [l0, l1] [vI (σ c1 2), vR c0] σ Q := wp_getI (c := 1026) rfl rfl rfl rfl h
theorem r_Q_become_21 (h : gK c0 = 4) : Wp L d k_Q_become 21 [l0, l1] [vI s1, vR c0] σ Q ↔ Wp L d k_Q_become 24 [l0, l1] [] (gupd σ c0 2 s1) Q := wp_putI (c := 1026) rfl rfl rfl rfl h
theorem r_Q_become_24 : Wp L d k_Q_become 24 [vR b0, l1] [] σ Q ↔ Wp L d k_Q_become 25 [vR b0, l1] [vR b0] σ Q := wp_aload rfl rfl
theorem r_Q_become_25 : Wp L d k_Q_become 25 [l0, vR b1] [vR c0] σ Q ↔ Wp L d k_Q_become 26 [l0, vR b1] [vR b1, vR c0] σ Q := wp_aload rfl rfl
theorem r_Q_become_26 (h : gK c1 = 4) : Wp L d k_Q_become 26 [l0, l1] [vR c1, vR c0] σ Q ↔ Wp L d k_Q_become 29 [l0, l1] [vI (σ c1 3), vR c0] σ Q := wp_getI (c := 1027) rfl rfl rfl rfl h
theorem r_Q_become_29 (h : gK c0 = 4) : Wp L d k_Q_become 29 [l0, l1] [vI s1, vR c0] σ Q ↔ Wp L d k_Q_become 32 [l0, l1] [] (gupd σ c0 3 s1) Q := wp_putI (c := 1027) rfl rfl rfl rfl h
theorem r_Q_become_32 : Wp L d k_Q_become 32 [vR b0, l1] [] σ Q ↔ Wp L d k_Q_become 33 [vR b0, l1] [vR b0] σ Q := wp_aload rfl rfl
theorem r_Q_become_33 : Wp L d k_Q_become 33 [l0, vR b1] [vR c0] σ Q ↔ Wp L d k_Q_become 34 [l0, vR b1] [vR b1, vR c0] σ Q := wp_aload rfl rfl
theorem r_Q_become_34 (h : gK c1 = 4) : Wp L d k_Q_become 34 [l0, l1] [vR c1, vR c0] σ Q ↔ Wp L d k_Q_become 37 [l0, l1] [vI (σ c1 4), vR c0] σ Q := wp_getI (c := 1028) rfl rfl rfl rfl h
theorem r_Q_become_37 (h : gK c0 = 4) : Wp L d k_Q_become 37 [l0, l1] [vI s1, vR c0] σ Q ↔ Wp L d k_Q_become 40 [l0, l1] [] (gupd σ c0 4 s1) Q := wp_putI (c := 1028) rfl rfl rfl rfl h
theorem r_Q_become_40 : Wp L d k_Q_become 40 [vR b0, l1] [] σ Q ↔ Wp L d k_Q_become 41 [vR b0, l1] [vR b0] σ Q := wp_aload rfl rfl
theorem r_Q_become_41 : Wp L d k_Q_become 41 [l0, vR b1] [vR c0] σ Q ↔ Wp L d k_Q_become 42 [l0, vR b1] [vR b1, vR c0] σ Q := wp_aload rfl rfl
theorem r_Q_become_42 (h : gK c1 = 4) : Wp L d k_Q_become 42 [l0, l1] [vR c1, vR c0] σ Q ↔ Wp L d k_Q_become 45 [l0, l1] [vI (σ c1 5), vR c0] σ Q := wp_getI (c := 1029) rfl rfl rfl rfl h
theorem r_Q_become_45 (h : gK c0 = 4) : Wp L d k_Q_become 45 [l0, l1] [vI s1, vR c0] σ Q ↔ Wp L d k_Q_become 48 [l0, l1] [] (gupd σ c0 5 s1) Q := wp_putI (c := 1029) rfl rfl rfl rfl h
theorem r_Q_become_48 : Wp L d k_Q_become 48 [vR b0, l1] [] σ Q ↔ Wp L d k_Q_become 49 [vR b0, l1] [vR b0] σ Q := wp_aload rfl rfl
theorem r_Q_become_49 : Wp L d k_Q_become 49 [l0, vR b1] [vR c0] σ Q ↔ Wp L d k_Q_become 50 [l0, vR b1] [vR b1, vR c0] σ Q := wp_aload rfl rfl
theorem r_Q_become_50 (h : gK c1 = 4) : Wp L d k_Q_become 50 [l0, l1] [vR c1, vR c0] σ Q ↔ Wp L d k_Q_become 53 [l0, l1] [vI (σ c1 6), vR c0] σ Q := wp_getI (c := 1030) rfl rfl rfl rfl h
theorem r_Q_become_53 (h : gK c0 = 4) : Wp L d k_Q_become 53 [l0, l1] [vI s1, vR c0] σ Q ↔ Wp L d k_Q_become 56 [l0, l1] [] (gupd σ c0 6 s1) Q := wp_putI (c := 1030) rfl rfl rfl rfl h
theorem r_Q_become_56 : Wp L d k_Q_become 56 [vR b0, l1] [] σ Q ↔ Wp L d k_Q_become 57 [vR b0, l1] [vR b0] σ Q := wp_aload rfl rfl
theorem r_Q_become_57 : Wp L d k_Q_become 57 [l0, vR b1] [vR c0] σ Q ↔ Wp L d k_Q_become 58 [l0, vR b1] [vR b1, vR c0] σ Q := wp_aload rfl rfl
theorem r_Q_become_58 (h : gK c1 = 4) : Wp L d k_Q_become 58 [l0, l1] [vR c1, vR c0] σ Q ↔ Wp L d k_Q_become 61 [l0, l1] [vI (σ c1 7), vR c0] σ Q := wp_getI (c := 1031) rfl rfl rfl rfl h
theorem r_Q_become_61 (h : gK c0 = 4) : Wp L d k_Q_become 61 [l0, l1] [vI s1, vR c0] σ Q ↔ Wp L d k_Q_become 64 [l0, l1] [] (gupd σ c0 7 s1) Q := wp_putI (c := 1031) rfl rfl rfl rfl h
theorem r_Q_become_64 : Wp L d k_Q_become 64 [vR b0, l1] [] σ Q ↔ Wp L d k_Q_become 65 [vR b0, l1] [vR b0] σ Q := wp_aload rfl rfl
theorem r_Q_become_65 : Wp L d k_Q_become 65 [l0, vR b1] [vR c0] σ Q ↔ Wp L d k_Q_become 66 [l0, vR b1] [vR b1, vR c0] σ Q := wp_aload rfl rfl
theorem r_Q_become_66 (h : gK c1 = 4) : Wp L d k_Q_become 66 [l0, l1] [vR c1, vR c0] σ Q ↔ Wp L d k_Q_become 69 [l0, l1] [vI (σ c1 8), vR c0] σ Q := wp_getI (c := 1032) rfl rfl rfl rfl h
theorem r_Q_become_69 (h : gK c0 = 4) : Wp L d k_Q_become 69 [l0, l1] [vI s1, vR c0] σ Q ↔ Wp L d k_Q_become 72 [l0, l1] [] (gupd σ c0 8 s1) Q := wp_putI (c := 1032) rfl rfl rfl rfl h
theorem r_Q_become_72 : Wp L d k_Q_become 72 [vR b0, l1] [] σ Q ↔ Wp L d k_Q_become 73 [vR b0, l1] [vR b0] σ Q := wp_aload rfl rfl
theorem r_Q_become_73 : Wp L d k_Q_become 73 [l0, vR b1] [vR c0] σ Q ↔ Wp L d k_Q_become 74 [l0, vR b1] [vR b1, vR c0] σ Q := wp_aload rfl rfl
theorem r_Q_become_74 (h : gK c1 = 4) : Wp L d k_Q_become 74 [l0, l1] [vR c1, vR c0] σ Q ↔ Wp L d k_Q_become 77 [l0, l1] [vI (σ c1 9), vR c0] σ Q := wp_getI (c := 1033) rfl rfl rfl rfl h
theorem r_Q_become_77 (h : gK c0 = 4) : Wp L d k_Q_become 77 [l0, l1] [vI s1, vR c0] σ Q ↔ Wp L d k_Q_become 80 [l0, l1] [] (gupd σ c0 9 s1) Q := wp_putI (c := 1033) rfl rfl rfl rfl h
theorem r_Q_become_80 : Wp L d k_Q_become 80 [vR b0, l1] [] σ Q ↔ Wp L d k_Q_become 81 [vR b0, l1] [vR b0] σ Q := wp_aload rfl rfl
theorem r_Q_become_81 : Wp L d k_Q_become 81 [l0, vR b1] [vR c0] σ Q ↔ Wp L d k_Q_become 82 [l0, vR b1] [vR b1, vR c0] σ Q := wp_aload rfl rfl
theorem r_Q_become_82 (h : gK c1 = 4) : Wp L d k_Q_become 82 [l0, l1] [vR c1, vR c0] σ Q ↔ Wp L d k_Q_become 85 [l0, l1] [vI (σ c1 10), vR c0] σ Q := wp_getI (c := 1098) rfl rfl rfl rfl h
theorem r_Q_become_85 (h : gK c0 = 4) (hx : s1 = 0 ∨ s1 = 1) : Wp L d k_Q_become 85 [l0, l1] [vI s1, vR c0] σ Q ↔ Wp L d k_Q_become 88 [l0, l1] [] (gupd σ c0 10 s1) Q := wp_putZ (c := 1098) rfl rfl rfl rfl h hx
theorem r_Q_become_88 : Wp L d k_Q_become 88 [vR b0, l1] [] σ Q ↔ Wp L d k_Q_become 89 [vR b0, l1] [vR b0] σ Q := wp_aload rfl rfl
theorem r_Q_become_89 : Wp L d k_Q_become 89 [l0, vR b1] [vR c0] σ Q ↔ Wp L d k_Q_become 90 [l0, vR b1] [vR b1, vR c0] σ Q := wp_aload rfl rfl
theorem r_Q_become_90 (h : gK c1 = 4) : Wp L d k_Q_become 90 [l0, l1] [vR c1, vR c0] σ Q ↔ Wp L d k_Q_become 93 [l0, l1] [vI (σ c1 11), vR c0] σ Q := wp_getI (c := 1099) rfl rfl rfl rfl h
theorem r_Q_become_93 (h : gK c0 = 4) (hx : s1 = 0 ∨ s1 = 1) : Wp L d k_Q_become 93 [l0, l1] [vI s1, vR c0] σ Q ↔ Wp L d k_Q_become 96 [l0, l1] [] (gupd σ c0 11 s1) Q := wp_putZ (c := 1099) rfl rfl rfl rfl h hx
theorem r_Q_become_96 : Wp L d k_Q_become 96 [l0, l1] [] σ Q ↔ Q none σ := wp_vret rfl
theorem sp_Q_become (hk : gK b0 = 4) (hk2 : gK b1 = 4) (hne : b0 ≠ b1) (hs : σ b1 10 = 0 ∨ σ b1 10 = 1) (hf : σ b1 11 = 0 ∨ σ b1 11 = 1) : ∃ σ', Run L d 132 [vR b0, vR b1] σ none σ' ∧ (∀ j : Nat, j < 12 → σ' b0 j = σ b1 j) ∧ Agr σ σ' (fun k _ => k = b0) := by
  refine Run_ex (C' := k_Q_become) rfl ?_
  show Wp L d k_Q_become 0 [vR b0, vR b1] [] σ _
  simp (disch := first | assumption | exact gb_01 _ | omega) only [r_Q_become_0, r_Q_become_1, r_Q_become_2, r_Q_become_5, r_Q_become_8, r_Q_become_9, r_Q_become_10, r_Q_become_13, r_Q_become_16, r_Q_become_17, r_Q_become_18, r_Q_become_21, r_Q_become_24, r_Q_become_25, r_Q_become_26, r_Q_become_29, r_Q_become_32, r_Q_become_33, r_Q_become_34, r_Q_become_37, r_Q_become_40, r_Q_become_41, r_Q_become_42, r_Q_become_45, r_Q_become_48, r_Q_become_49, r_Q_become_50, r_Q_become_53, r_Q_become_56, r_Q_become_57, r_Q_become_58, r_Q_become_61, r_Q_become_64, r_Q_become_65, r_Q_become_66, r_Q_become_69, r_Q_become_72, r_Q_become_73, r_Q_become_74, r_Q_become_77, r_Q_become_80, r_Q_become_81, r_Q_become_82, r_Q_become_85, r_Q_become_88, r_Q_become_89, r_Q_become_90, r_Q_become_93, r_Q_become_96, gupd_ne, w32_gb, w32i, tn_add, tn_mul, Int.toNat_natCast, Int.toNat_zero, Int.reduceLE, Int.reduceLT, Int.reduceEq, Int.reduceNe, gb_T, gb_F, Int.reduceToNat, eq_self, true_or, or_true, and_true, true_and, and_self, ↓ite_gb0, ↓ite_gbn, ↓if_pos, ↓if_neg, if_true, if_false, not_true_eq_false, not_false_eq_true, gb_ne0, gb_eq0]
  refine ⟨fun j hj => ?_, fun k j hn => ?_⟩
  · have : j = 0 ∨ j = 1 ∨ j = 2 ∨ j = 3 ∨ j = 4 ∨ j = 5 ∨ j = 6 ∨ j = 7 ∨ j = 8 ∨ j = 9 ∨ j = 10 ∨ j = 11 := by omega
    rcases this with rfl | rfl | rfl | rfl | rfl | rfl | rfl | rfl | rfl | rfl | rfl | rfl <;> simp (disch := omega) only [gupd_ne, gupd_eq]
  · simp (disch := omega) only [gupd_ne]
theorem r_B_become_0 : Wp L d k_B_become 0 [l0, l1, l2] [] σ Q ↔ Wp L d k_B_become 1 [l0, l1, l2] [vI 0] σ Q := wp_push rfl
theorem r_B_become_1 : Wp L d k_B_become 1 [l0, vR b1, l2] [vI s0] σ Q ↔ Wp L d k_B_become 2 [l0, vR b1, vI s0] [] σ Q := wp_istore (i := 2) (ls := [l0, vR b1, l2]) rfl rfl
theorem r_B_become_2 : Wp L d k_B_become 2 [l0, l1, vI a2] [] σ Q ↔ Wp L d k_B_become 3 [l0, l1, vI a2] [vI a2] σ Q := wp_iload rfl rfl
theorem r_B_become_3 : Wp L d k_B_become 3 [l0, l1, l2] [vI s0] σ Q ↔ Wp L d k_B_become 5 [l0, l1, l2] [vI 12, vI s0] σ Q := wp_push rfl
theorem r_B_become_5 : Wp L d k_B_become 5 [l0, l1, l2] [vI s1, vI s0] σ Q ↔ (if s1 ≤ s0 then Wp L d k_B_become 50 [l0, l1, l2] [] σ Q else Wp L d k_B_become 8 [l0, l1, l2] [] σ Q) := wp_cmp_ge rfl
theorem r_B_become_8 : Wp L d k_B_become 8 [vR b0, l1, l2] [] σ Q ↔ Wp L d k_B_become 9 [vR b0, l1, l2] [vR b0] σ Q := wp_aload rfl rfl
theorem r_B_become_9 (h : gK c0 = 1) : Wp L d k_B_become 9 [l0, l1, l2] [vR c0] σ Q ↔ Wp L d k_B_become 12 [l0, l1, l2] [vR (gq c0 0)] σ Q := wp_getR (c := 384) rfl rfl rfl rfl rfl h
theorem r_B_become_12 : Wp L d k_B_become 12 [l0, l1, vI a2] [vR c0] σ Q ↔ Wp L d k_B_become 13 [l0, l1, vI a2] [vI a2, vR c0] σ Q := wp_iload rfl rfl
theorem r_B_become_13 : Wp L d k_B_become 13 [l0, vR b1, l2] [vI s1, vR c0] σ Q ↔ Wp L d k_B_become 14 [l0, vR b1, l2] [vR b1, vI s1, vR c0] σ Q := wp_aload rfl rfl
theorem r_B_become_14 (h : gK c2 = 1) : Wp L d k_B_become 14 [l0, l1, l2] [vR c2, vI s1, vR c0] σ Q ↔ Wp L d k_B_become 17 [l0, l1, l2] [vR (gq c2 0), vI s1, vR c0] σ Q := wp_getR (c := 384) rfl rfl rfl rfl rfl h
theorem r_B_become_17 : Wp L d k_B_become 17 [l0, l1, vI a2] [vR c2, vI s1, vR c0] σ Q ↔ Wp L d k_B_become 18 [l0, l1, vI a2] [vI a2, vR c2, vI s1, vR c0] σ Q := wp_iload rfl rfl
theorem r_B_become_18 (h : gK c2 = 100) (hx : 0 ≤ s3 ∧ s3 < gN c2) : Wp L d k_B_become 18 [l0, l1, l2] [vI s3, vR c2, vI s1, vR c0] σ Q ↔ Wp L d k_B_become 19 [l0, l1, l2] [vI (σ c2 s3.toNat), vI s1, vR c0] σ Q := wp_iald rfl h hx
theorem r_B_become_19 (h : gK c0 = 100) (hx : 0 ≤ s1 ∧ s1 < gN c0) : Wp L d k_B_become 19 [l0, l1, l2] [vI s2, vI s1, vR c0] σ Q ↔ Wp L d k_B_become 20 [l0, l1, l2] [] (gupd σ c0 s1.toNat s2) Q := wp_iast rfl h hx
theorem r_B_become_20 : Wp L d k_B_become 20 [vR b0, l1, l2] [] σ Q ↔ Wp L d k_B_become 21 [vR b0, l1, l2] [vR b0] σ Q := wp_aload rfl rfl
theorem r_B_become_21 (h : gK c0 = 1) : Wp L d k_B_become 21 [l0, l1, l2] [vR c0] σ Q ↔ Wp L d k_B_become 24 [l0, l1, l2] [vR (gq c0 1)] σ Q := wp_getR (c := 385) rfl rfl rfl rfl rfl h
theorem r_B_become_24 : Wp L d k_B_become 24 [l0, l1, vI a2] [vR c0] σ Q ↔ Wp L d k_B_become 25 [l0, l1, vI a2] [vI a2, vR c0] σ Q := wp_iload rfl rfl
theorem r_B_become_25 : Wp L d k_B_become 25 [l0, vR b1, l2] [vI s1, vR c0] σ Q ↔ Wp L d k_B_become 26 [l0, vR b1, l2] [vR b1, vI s1, vR c0] σ Q := wp_aload rfl rfl
theorem r_B_become_26 (h : gK c2 = 1) : Wp L d k_B_become 26 [l0, l1, l2] [vR c2, vI s1, vR c0] σ Q ↔ Wp L d k_B_become 29 [l0, l1, l2] [vR (gq c2 1), vI s1, vR c0] σ Q := wp_getR (c := 385) rfl rfl rfl rfl rfl h
theorem r_B_become_29 : Wp L d k_B_become 29 [l0, l1, vI a2] [vR c2, vI s1, vR c0] σ Q ↔ Wp L d k_B_become 30 [l0, l1, vI a2] [vI a2, vR c2, vI s1, vR c0] σ Q := wp_iload rfl rfl
theorem r_B_become_30 (h : gK c2 = 100) (hx : 0 ≤ s3 ∧ s3 < gN c2) : Wp L d k_B_become 30 [l0, l1, l2] [vI s3, vR c2, vI s1, vR c0] σ Q ↔ Wp L d k_B_become 31 [l0, l1, l2] [vI (σ c2 s3.toNat), vI s1, vR c0] σ Q := wp_iald rfl h hx
theorem r_B_become_31 (h : gK c0 = 100) (hx : 0 ≤ s1 ∧ s1 < gN c0) : Wp L d k_B_become 31 [l0, l1, l2] [vI s2, vI s1, vR c0] σ Q ↔ Wp L d k_B_become 32 [l0, l1, l2] [] (gupd σ c0 s1.toNat s2) Q := wp_iast rfl h hx
theorem r_B_become_32 : Wp L d k_B_become 32 [vR b0, l1, l2] [] σ Q ↔ Wp L d k_B_become 33 [vR b0, l1, l2] [vR b0] σ Q := wp_aload rfl rfl
theorem r_B_become_33 (h : gK c0 = 1) : Wp L d k_B_become 33 [l0, l1, l2] [vR c0] σ Q ↔ Wp L d k_B_become 36 [l0, l1, l2] [vR (gq c0 2)] σ Q := wp_getR (c := 386) rfl rfl rfl rfl rfl h
theorem r_B_become_36 : Wp L d k_B_become 36 [l0, l1, vI a2] [vR c0] σ Q ↔ Wp L d k_B_become 37 [l0, l1, vI a2] [vI a2, vR c0] σ Q := wp_iload rfl rfl
theorem r_B_become_37 : Wp L d k_B_become 37 [l0, vR b1, l2] [vI s1, vR c0] σ Q ↔ Wp L d k_B_become 38 [l0, vR b1, l2] [vR b1, vI s1, vR c0] σ Q := wp_aload rfl rfl
theorem r_B_become_38 (h : gK c2 = 1) : Wp L d k_B_become 38 [l0, l1, l2] [vR c2, vI s1, vR c0] σ Q ↔ Wp L d k_B_become 41 [l0, l1, l2] [vR (gq c2 2), vI s1, vR c0] σ Q := wp_getR (c := 386) rfl rfl rfl rfl rfl h
theorem r_B_become_41 : Wp L d k_B_become 41 [l0, l1, vI a2] [vR c2, vI s1, vR c0] σ Q ↔ Wp L d k_B_become 42 [l0, l1, vI a2] [vI a2, vR c2, vI s1, vR c0] σ Q := wp_iload rfl rfl
theorem r_B_become_42 (h : gK c2 = 101) (hx : 0 ≤ s3 ∧ s3 < gN c2) : Wp L d k_B_become 42 [l0, l1, l2] [vI s3, vR c2, vI s1, vR c0] σ Q ↔ Wp L d k_B_become 43 [l0, l1, l2] [vI (σ c2 s3.toNat), vI s1, vR c0] σ Q := wp_bald rfl h hx
theorem r_B_become_43 (h : gK c0 = 101) (hx : 0 ≤ s1 ∧ s1 < gN c0) (hy : s2 = 0 ∨ s2 = 1) : Wp L d k_B_become 43 [l0, l1, l2] [vI s2, vI s1, vR c0] σ Q ↔ Wp L d k_B_become 44 [l0, l1, l2] [] (gupd σ c0 s1.toNat s2) Q := wp_bast rfl h hx hy
theorem r_B_become_44 : Wp L d k_B_become 44 [l0, vR b1, vI a2] [] σ Q ↔ Wp L d k_B_become 47 [l0, vR b1, vI (w32 (a2 + 1))] [] σ Q := wp_iinc (i := 2) (ls := [l0, vR b1, vI a2]) rfl rfl
theorem r_B_become_47 : Wp L d k_B_become 47 [l0, l1, l2] [] σ Q ↔ Wp L d k_B_become 2 [l0, l1, l2] [] σ Q := wp_goto rfl
theorem r_B_become_50 : Wp L d k_B_become 50 [vR b0, l1, l2] [] σ Q ↔ Wp L d k_B_become 51 [vR b0, l1, l2] [vR b0] σ Q := wp_aload rfl rfl
theorem r_B_become_51 : Wp L d k_B_become 51 [l0, vR b1, l2] [vR c0] σ Q ↔ Wp L d k_B_become 52 [l0, vR b1, l2] [vR b1, vR c0] σ Q := wp_aload rfl rfl
theorem r_B_become_52 (h : gK c1 = 1) : Wp L d k_B_become 52 [l0, l1, l2] [vR c1, vR c0] σ Q ↔ Wp L d k_B_become 55 [l0, l1, l2] [vI (σ c1 8), vR c0] σ Q := wp_getI (c := 264) rfl rfl rfl rfl h
theorem r_B_become_55 (h : gK c0 = 1) : Wp L d k_B_become 55 [l0, l1, l2] [vI s1, vR c0] σ Q ↔ Wp L d k_B_become 58 [l0, l1, l2] [] (gupd σ c0 8 s1) Q := wp_putI (c := 264) rfl rfl rfl rfl h
theorem r_B_become_58 : Wp L d k_B_become 58 [vR b0, l1, l2] [] σ Q ↔ Wp L d k_B_become 59 [vR b0, l1, l2] [vR b0] σ Q := wp_aload rfl rfl
theorem r_B_become_59 : Wp L d k_B_become 59 [l0, vR b1, l2] [vR c0] σ Q ↔ Wp L d k_B_become 60 [l0, vR b1, l2] [vR b1, vR c0] σ Q := wp_aload rfl rfl
theorem r_B_become_60 (h : gK c1 = 1) : Wp L d k_B_become 60 [l0, l1, l2] [vR c1, vR c0] σ Q ↔ Wp L d k_B_become 63 [l0, l1, l2] [vI (σ c1 9), vR c0] σ Q := wp_getI (c := 265) rfl rfl rfl rfl h
theorem r_B_become_63 (h : gK c0 = 1) : Wp L d k_B_become 63 [l0, l1, l2] [vI s1, vR c0] σ Q ↔ Wp L d k_B_become 66 [l0, l1, l2] [] (gupd σ c0 9 s1) Q := wp_putI (c := 265) rfl rfl rfl rfl h
theorem r_B_become_66 : Wp L d k_B_become 66 [l0, l1, l2] [] σ Q ↔ Wp L d k_B_become 67 [l0, l1, l2] [vI 0] σ Q := wp_push rfl
theorem r_B_become_67 : Wp L d k_B_become 67 [l0, vR b1, l2] [vI s0] σ Q ↔ Wp L d k_B_become 68 [l0, vR b1, vI s0] [] σ Q := wp_istore (i := 2) (ls := [l0, vR b1, l2]) rfl rfl
theorem r_B_become_68 : Wp L d k_B_become 68 [l0, l1, vI a2] [] σ Q ↔ Wp L d k_B_become 69 [l0, l1, vI a2] [vI a2] σ Q := wp_iload rfl rfl
theorem r_B_become_69 : Wp L d k_B_become 69 [vR b0, l1, l2] [vI s0] σ Q ↔ Wp L d k_B_become 70 [vR b0, l1, l2] [vR b0, vI s0] σ Q := wp_aload rfl rfl
theorem r_B_become_70 (h : gK c1 = 1) : Wp L d k_B_become 70 [l0, l1, l2] [vR c1, vI s0] σ Q ↔ Wp L d k_B_become 73 [l0, l1, l2] [vI (σ c1 9), vI s0] σ Q := wp_getI (c := 265) rfl rfl rfl rfl h
theorem r_B_become_73 : Wp L d k_B_become 73 [l0, l1, l2] [vI s1, vI s0] σ Q ↔ (if s1 ≤ s0 then Wp L d k_B_become 97 [l0, l1, l2] [] σ Q else Wp L d k_B_become 76 [l0, l1, l2] [] σ Q) := wp_cmp_ge rfl
theorem r_B_become_76 : Wp L d k_B_become 76 [vR b0, l1, l2] [] σ Q ↔ Wp L d k_B_become 77 [vR b0, l1, l2] [vR b0] σ Q := wp_aload rfl rfl
theorem r_B_become_77 (h : gK c0 = 1) : Wp L d k_B_become 77 [l0, l1, l2] [vR c0] σ Q ↔ Wp L d k_B_become 80 [l0, l1, l2] [vR (gq c0 3)] σ Q := wp_getR (c := 387) rfl rfl rfl rfl rfl h
theorem r_B_become_80 : Wp L d k_B_become 80 [l0, l1, vI a2] [vR c0] σ Q ↔ Wp L d k_B_become 81 [l0, l1, vI a2] [vI a2, vR c0] σ Q := wp_iload rfl rfl
theorem r_B_become_81 (h : gK c0 = 102 ∨ gK c0 = 103) (hx : 0 ≤ s1 ∧ s1 < gN c0) : Wp L d k_B_become 81 [l0, l1, l2] [vI s1, vR c0] σ Q ↔ Wp L d k_B_become 82 [l0, l1, l2] [vR (gq c0 s1.toNat)] σ Q := wp_aald rfl h hx
theorem r_B_become_82 : Wp L d k_B_become 82 [l0, vR b1, l2] [vR c0] σ Q ↔ Wp L d k_B_become 83 [l0, vR b1, l2] [vR b1, vR c0] σ Q := wp_aload rfl rfl
theorem r_B_become_83 (h : gK c1 = 1) : Wp L d k_B_become 83 [l0, l1, l2] [vR c1, vR c0] σ Q ↔ Wp L d k_B_become 86 [l0, l1, l2] [vR (gq c1 3), vR c0] σ Q := wp_getR (c := 387) rfl rfl rfl rfl rfl h
theorem r_B_become_86 : Wp L d k_B_become 86 [l0, l1, vI a2] [vR c1, vR c0] σ Q ↔ Wp L d k_B_become 87 [l0, l1, vI a2] [vI a2, vR c1, vR c0] σ Q := wp_iload rfl rfl
theorem r_B_become_87 (h : gK c1 = 102 ∨ gK c1 = 103) (hx : 0 ≤ s2 ∧ s2 < gN c1) : Wp L d k_B_become 87 [l0, l1, l2] [vI s2, vR c1, vR c0] σ Q ↔ Wp L d k_B_become 88 [l0, l1, l2] [vR (gq c1 s2.toNat), vR c0] σ Q := wp_aald rfl h hx
theorem c_B_become_88 (hR : Run L d 132 [vR c0, vR c1] σ r σ1) (h : gK c0 = 4) : Wp L (d + 1) k_B_become 88 [l0, l1, l2] [vR c1, vR c0] σ Q ↔ Wp L (d + 1) k_B_become 91 [l0, l1, l2] (r.toList ++ []) σ1 Q := wp_callR (as := [vR c0, vR c1]) (rest := []) rfl rfl rfl rfl rfl rfl rfl (grecv_k (by rw [h]) rfl) hR
theorem r_B_become_91 : Wp L d k_B_become 91 [l0, vR b1, vI a2] [] σ Q ↔ Wp L d k_B_become 94 [l0, vR b1, vI (w32 (a2 + 1))] [] σ Q := wp_iinc (i := 2) (ls := [l0, vR b1, vI a2]) rfl rfl
theorem r_B_become_94 : Wp L d k_B_become 94 [l0, l1, l2] [] σ Q ↔ Wp L d k_B_become 68 [l0, l1, l2] [] σ Q := wp_goto rfl
theorem r_B_become_97 : Wp L d k_B_become 97 [vR b0, l1, l2] [] σ Q ↔ Wp L d k_B_become 98 [vR b0, l1, l2] [vR b0] σ Q := wp_aload rfl rfl
theorem r_B_become_98 : Wp L d k_B_become 98 [l0, vR b1, l2] [vR c0] σ Q ↔ Wp L d k_B_become 99 [l0, vR b1, l2] [vR b1, vR c0] σ Q := wp_aload rfl rfl
theorem r_B_become_99 (h : gK c1 = 1) : Wp L d k_B_become 99 [l0, l1, l2] [vR c1, vR c0] σ Q ↔ Wp L d k_B_become 102 [l0, l1, l2] [vI (σ c1 10), vR c0] σ Q := wp_getI (c := 266) rfl rfl rfl rfl h
theorem r_B_become_102 (h : gK c0 = 1) : Wp L d k_B_become 102 [l0, l1, l2] [vI s1, vR c0] σ Q ↔ Wp L d k_B_become 105 [l0, l1, l2] [] (gupd σ c0 10 s1) Q := wp_putI (c := 266) rfl rfl rfl rfl h
theorem r_B_become_105 : Wp L d k_B_become 105 [vR b0, l1, l2] [] σ Q ↔ Wp L d k_B_become 106 [vR b0, l1, l2] [vR b0] σ Q := wp_aload rfl rfl
theorem r_B_become_106 : Wp L d k_B_become 106 [l0, vR b1, l2] [vR c0] σ Q ↔ Wp L d k_B_become 107 [l0, vR b1, l2] [vR b1, vR c0] σ Q := wp_aload rfl rfl
theorem r_B_become_107 (h : gK c1 = 1) : Wp L d k_B_become 107 [l0, l1, l2] [vR c1, vR c0] σ Q ↔ Wp L d k_B_become 110 [l0, l1, l2] [vI (σ c1 11), vR c0] σ Q := wp_getI (c := 267) rfl rfl rfl rfl h
theorem r_B_become_110 (h : gK c0 = 1) : Wp L d k_B_become 110 [l0, l1, l2] [vI s1, vR c0] σ Q ↔ Wp L d k_B_become 113 [l0, l1, l2] [] (gupd σ c0 11 s1) Q := wp_putI (c := 267) rfl rfl rfl rfl h
theorem r_B_become_113 : Wp L d k_B_become 113 [vR b0, l1, l2] [] σ Q ↔ Wp L d k_B_become 114 [vR b0, l1, l2] [vR b0] σ Q := wp_aload rfl rfl
theorem r_B_become_114 : Wp L d k_B_become 114 [l0, vR b1, l2] [vR c0] σ Q ↔ Wp L d k_B_become 115 [l0, vR b1, l2] [vR b1, vR c0] σ Q := wp_aload rfl rfl
theorem r_B_become_115 (h : gK c1 = 1) : Wp L d k_B_become 115 [l0, l1, l2] [vR c1, vR c0] σ Q ↔ Wp L d k_B_become 118 [l0, l1, l2] [vI (σ c1 12), vR c0] σ Q := wp_getI (c := 268) rfl rfl rfl rfl h
theorem r_B_become_118 (h : gK c0 = 1) : Wp L d k_B_become 118 [l0, l1, l2] [vI s1, vR c0] σ Q ↔ Wp L d k_B_become 121 [l0, l1, l2] [] (gupd σ c0 12 s1) Q := wp_putI (c := 268) rfl rfl rfl rfl h
theorem r_B_become_121 : Wp L d k_B_become 121 [vR b0, l1, l2] [] σ Q ↔ Wp L d k_B_become 122 [vR b0, l1, l2] [vR b0] σ Q := wp_aload rfl rfl
theorem r_B_become_122 : Wp L d k_B_become 122 [l0, vR b1, l2] [vR c0] σ Q ↔ Wp L d k_B_become 123 [l0, vR b1, l2] [vR b1, vR c0] σ Q := wp_aload rfl rfl
theorem r_B_become_123 (h : gK c1 = 1) : Wp L d k_B_become 123 [l0, l1, l2] [vR c1, vR c0] σ Q ↔ Wp L d k_B_become 126 [l0, l1, l2] [vI (σ c1 13), vR c0] σ Q := wp_getI (c := 333) rfl rfl rfl rfl h
theorem r_B_become_126 (h : gK c0 = 1) (hx : s1 = 0 ∨ s1 = 1) : Wp L d k_B_become 126 [l0, l1, l2] [vI s1, vR c0] σ Q ↔ Wp L d k_B_become 129 [l0, l1, l2] [] (gupd σ c0 13 s1) Q := wp_putZ (c := 333) rfl rfl rfl rfl h hx
theorem r_B_become_129 : Wp L d k_B_become 129 [l0, l1, l2] [] σ Q ↔ Q none σ := wp_vret rfl
set_option maxHeartbeats 8000000 in
theorem sp_B_become {b c : Nat} {f : Nat → Int} (hB : BR b) (hB2 : BR c) (hn : ∀ j i, j ≤ 48 → ¬ ZBr b (c + j) i) (hw : WB f) (hc : CB c f σ) (hd : ∀ j : Nat, σ (c + 3) j = 0 ∨ σ (c + 3) j = 1) : ∃ σ', Run L (d + 1) 109 [vR b, vR c] σ none σ' ∧ CB b f σ' ∧ Agr σ σ' (ZBr b) := by
  refine Run_ex (C' := k_B_become) rfl ?_
  show Wp L (d + 1) k_B_become 0 [vR b, vR c, vU] [] σ _
  obtain ⟨⟨K0, q0, q1, q2, q3, q4, q5, q6, q7⟩, ⟨K1, K2, K3, K4, K5, K6, K7, K8⟩, ⟨N1, N2, N3, N4, N5, N6, N7, N8⟩, QP, KP⟩ := hB
  obtain ⟨⟨K0', q0', q1', q2', q3', q4', q5', q6', q7'⟩, ⟨K1', K2', K3', K4', K5', K6', K7', K8'⟩, ⟨N1', N2', N3', N4', N5', N6', N7', N8'⟩, QP', KP'⟩ := hB2
  clear q4 q5 q6 q7 K5 K6 K7 K8 N5 N6 N7 N8 q4' q5' q6' q7' K5' K6' K7' K8' N5' N6' N7' N8'
  have n21 : c + 2 ≠ b + 1 := fun e => hn 2 0 (by omega) (by unfold ZBr; omega)
  have n31 : c + 3 ≠ b + 1 := fun e => hn 3 0 (by omega) (by unfold ZBr; omega)
  have n32 : c + 3 ≠ b + 2 := fun e => hn 3 0 (by omega) (by unfold ZBr; omega)
  have hcb := hc
  obtain ⟨c1, c2, c3, c4, c5, c6, c7, c8⟩ := hc
  have w2 := hw.2.1
  have w1 := hw.1
  simp only [r_B_become_0, r_B_become_1, r_B_become_3, r_B_become_5, r_B_become_8, r_B_become_9, r_B_become_12, r_B_become_13, r_B_become_14, r_B_become_17, r_B_become_18, r_B_become_19, r_B_become_20, r_B_become_21, r_B_become_24, r_B_become_25, r_B_become_26, r_B_become_29, r_B_become_30, r_B_become_31, r_B_become_32, r_B_become_33, r_B_become_36, r_B_become_37, r_B_become_38, r_B_become_41, r_B_become_42, r_B_become_43, r_B_become_44, r_B_become_47, r_B_become_50, r_B_become_51, r_B_become_52, r_B_become_55, r_B_become_58, r_B_become_59, r_B_become_60, r_B_become_63, r_B_become_66, r_B_become_67, r_B_become_69, r_B_become_70, r_B_become_73, r_B_become_76, r_B_become_77, r_B_become_80, r_B_become_81, r_B_become_82, r_B_become_83, r_B_become_86, r_B_become_87, r_B_become_91, r_B_become_94, r_B_become_97, r_B_become_98, r_B_become_99, r_B_become_102, r_B_become_105, r_B_become_106, r_B_become_107, r_B_become_110, r_B_become_113, r_B_become_114, r_B_become_115, r_B_become_118, r_B_become_121, r_B_become_122, r_B_become_123, r_B_become_126, r_B_become_129]
  refine wloop (n := 12) (I := fun k ls τ => ls = [vR b, vR c, vI (k : Int)] ∧ (∀ i : Nat, i < k → τ (b + 1) i = σ (c + 1) i ∧ τ (b + 2) i = σ (c + 2) i ∧ τ (b + 3) i = σ (c + 3) i) ∧ Agr σ τ (ZBr b)) (fun k ls τ hk hi hq => ?_) (fun ls τ hi => ?_) 12 0 (by omega) _ _ ⟨rfl, fun i hi => by omega, Agr_refl _ _⟩
  · obtain ⟨rfl, h1, hA⟩ := hi
    have e1 : τ (c + 1) k = σ (c + 1) k := hA _ _ (hn 1 _ (by omega))
    have e2 : τ (c + 2) k = σ (c + 2) k := hA _ _ (hn 2 _ (by omega))
    have e3 : τ (c + 3) k = σ (c + 3) k := hA _ _ (hn 3 _ (by omega))
    have dk := hd k
    rw [r_B_become_2]
    simp (disch := first | assumption | exact gb_01 _ | omega) only [r_B_become_0, r_B_become_1, r_B_become_3, r_B_become_5, r_B_become_8, r_B_become_9, r_B_become_12, r_B_become_13, r_B_become_14, r_B_become_17, r_B_become_18, r_B_become_19, r_B_become_20, r_B_become_21, r_B_become_24, r_B_become_25, r_B_become_26, r_B_become_29, r_B_become_30, r_B_become_31, r_B_become_32, r_B_become_33, r_B_become_36, r_B_become_37, r_B_become_38, r_B_become_41, r_B_become_42, r_B_become_43, r_B_become_44, r_B_become_47, r_B_become_50, r_B_become_51, r_B_become_52, r_B_become_55, r_B_become_58, r_B_become_59, r_B_become_60, r_B_become_63, r_B_become_66, r_B_become_67, r_B_become_69, r_B_become_70, r_B_become_73, r_B_become_76, r_B_become_77, r_B_become_80, r_B_become_81, r_B_become_82, r_B_become_83, r_B_become_86, r_B_become_87, r_B_become_91, r_B_become_94, r_B_become_97, r_B_become_98, r_B_become_99, r_B_become_102, r_B_become_105, r_B_become_106, r_B_become_107, r_B_become_110, r_B_become_113, r_B_become_114, r_B_become_115, r_B_become_118, r_B_become_121, r_B_become_122, r_B_become_123, r_B_become_126, r_B_become_129, q0, q1, q2, q3, QP, q0', q1', q2', q3', QP', e1, e2, e3, gupd_ne, w32_gb, w32i, tn_add, tn_mul, Int.toNat_natCast, Int.toNat_zero, Int.reduceLE, Int.reduceLT, Int.reduceEq, Int.reduceNe, gb_T, gb_F, Int.reduceToNat, eq_self, true_or, or_true, and_true, true_and, and_self, ↓ite_gb0, ↓ite_gbn, ↓if_pos, ↓if_neg, if_true, if_false, not_true_eq_false, not_false_eq_true, gb_ne0, gb_eq0]
    refine hq _ _ ⟨by simp only [List.cons.injEq, vI_inj, vR_inj, and_true, true_and]; omega, fun i hi => ?_, Agr_upd (Agr_upd (Agr_upd hA (by unfold ZBr; omega)) (by unfold ZBr; omega)) (by unfold ZBr; omega)⟩
    by_cases e : i = k
    · rw [e]
      simp (disch := omega) only [gupd_ne, gupd_eq, and_self]
    · simp (disch := omega) only [gupd_ne]
      exact h1 i (by omega)
  · obtain ⟨rfl, h1, hA⟩ := hi
    have e8 : τ c 8 = f 0 := (hA c 8 (hn 0 8 (by omega))).trans c1
    have e9 : τ c 9 = f 1 := (hA c 9 (hn 0 9 (by omega))).trans c2
    rw [r_B_become_2]
    simp (disch := first | assumption | exact gb_01 _ | omega) only [r_B_become_0, r_B_become_1, r_B_become_3, r_B_become_5, r_B_become_8, r_B_become_9, r_B_become_12, r_B_become_13, r_B_become_14, r_B_become_17, r_B_become_18, r_B_become_19, r_B_become_20, r_B_become_21, r_B_become_24, r_B_become_25, r_B_become_26, r_B_become_29, r_B_become_30, r_B_become_31, r_B_become_32, r_B_become_33, r_B_become_36, r_B_become_37, r_B_become_38, r_B_become_41, r_B_become_42, r_B_become_43, r_B_become_44, r_B_become_47, r_B_become_50, r_B_become_51, r_B_become_52, r_B_become_55, r_B_become_58, r_B_become_59, r_B_become_60, r_B_become_63, r_B_become_66, r_B_become_67, r_B_become_69, r_B_become_70, r_B_become_73, r_B_become_76, r_B_become_77, r_B_become_80, r_B_become_81, r_B_become_82, r_B_become_83, r_B_become_86, r_B_become_87, r_B_become_91, r_B_become_94, r_B_become_97, r_B_become_98, r_B_become_99, r_B_become_102, r_B_become_105, r_B_become_106, r_B_become_107, r_B_become_110, r_B_become_113, r_B_become_114, r_B_become_115, r_B_become_118, r_B_become_121, r_B_become_122, r_B_become_123, r_B_become_126, r_B_become_129, q0, q1, q2, q3, QP, e8, e9, gupd_ne, w32_gb, w32i, tn_add, tn_mul, Int.toNat_natCast, Int.toNat_zero, Int.reduceLE, Int.reduceLT, Int.reduceEq, Int.reduceNe, gb_T, gb_F, Int.reduceToNat, eq_self, true_or, or_true, and_true, true_and, and_self, ↓ite_gb0, ↓ite_gbn, ↓if_pos, ↓if_neg, if_true, if_false, not_true_eq_false, not_false_eq_true, gb_ne0, gb_eq0]
    refine wloop (n := (f 1).toNat) (I := fun k ls τ => ls = [vR b, vR c, vI (k : Int)] ∧ ((τ b 8 = f 0 ∧ τ b 9 = f 1) ∧ (∀ i : Nat, i < 12 → τ (b + 1) i = σ (c + 1) i ∧ τ (b + 2) i = σ (c + 2) i ∧ τ (b + 3) i = σ (c + 3) i) ∧ ∀ p : Nat, p < k → ∀ j : Nat, j < 12 → τ (b + 9 + p) j = σ (c + 9 + p) j) ∧ Agr σ τ (ZBr b)) (fun k ls τ hk hi hq => ?_) (fun ls τ hi => ?_) (f 1).toNat 0 (by omega) _ _ ⟨rfl, ⟨⟨by rw [gupd_ne (by omega), gupd_eq], by rw [gupd_eq]⟩, fun i hi => by simp (disch := omega) only [gupd_ne]; exact h1 i hi, fun p hp => by omega⟩, Agr_upd (Agr_upd hA (by unfold ZBr; omega)) (by unfold ZBr; omega)⟩
    · obtain ⟨rfl, ⟨⟨x1, x2⟩, x3, x4⟩, hA⟩ := hi
      have kp := KP k (by omega)
      have kp' := KP' k (by omega)
      have q := CBp hcb (p := k) (by omega)
      have w := WBp hw (p := k) (by omega)
      have nz : ∀ i, ¬ ZBr b (c + 9 + k) i := fun i => by
        rw [Nat.add_assoc]
        exact hn (9 + k) i (by omega)
      have ne : b + 9 + k ≠ c + 9 + k := fun e => nz 0 (by rw [← e]; unfold ZBr; omega)
      have s10 : τ (c + 9 + k) 10 = 0 ∨ τ (c + 9 + k) 10 = 1 := by rw [hA _ _ (nz 10), q.2.2.2.2.2.2.2.2.2.2.1]; exact w.2.2.2.2.2.2.2.2.1
      have s11 : τ (c + 9 + k) 11 = 0 ∨ τ (c + 9 + k) 11 = 1 := by rw [hA _ _ (nz 11), q.2.2.2.2.2.2.2.2.2.2.2]; exact w.2.2.2.2.2.2.2.2.2.2.2.1
      clear q w
      obtain ⟨ρ, hR, y1, hA1⟩ := sp_Q_become (L := L) (d := d + 0) (σ := τ) kp kp' ne s10 s11
      rw [r_B_become_68]
      simp (disch := first | assumption | exact gb_01 _ | omega) only [r_B_become_0, r_B_become_1, r_B_become_3, r_B_become_5, r_B_become_8, r_B_become_9, r_B_become_12, r_B_become_13, r_B_become_14, r_B_become_17, r_B_become_18, r_B_become_19, r_B_become_20, r_B_become_21, r_B_become_24, r_B_become_25, r_B_become_26, r_B_become_29, r_B_become_30, r_B_become_31, r_B_become_32, r_B_become_33, r_B_become_36, r_B_become_37, r_B_become_38, r_B_become_41, r_B_become_42, r_B_become_43, r_B_become_44, r_B_become_47, r_B_become_50, r_B_become_51, r_B_become_52, r_B_become_55, r_B_become_58, r_B_become_59, r_B_become_60, r_B_become_63, r_B_become_66, r_B_become_67, r_B_become_69, r_B_become_70, r_B_become_73, r_B_become_76, r_B_become_77, r_B_become_80, r_B_become_81, r_B_become_82, r_B_become_83, r_B_become_86, r_B_become_87, r_B_become_91, r_B_become_94, r_B_become_97, r_B_become_98, r_B_become_99, r_B_become_102, r_B_become_105, r_B_become_106, r_B_become_107, r_B_become_110, r_B_become_113, r_B_become_114, r_B_become_115, r_B_become_118, r_B_become_121, r_B_become_122, r_B_become_123, r_B_become_126, r_B_become_129, c_B_become_88 hR, Option.toList, List.singleton_append, List.cons_append, List.nil_append, List.append_nil, q0, q1, q2, q3, QP, q0', q1', q2', q3', QP', w32_gb, w32i, tn_add, tn_mul, Int.toNat_natCast, Int.toNat_zero, Int.reduceLE, Int.reduceLT, Int.reduceEq, Int.reduceNe, gb_T, gb_F, Int.reduceToNat, eq_self, true_or, or_true, and_true, true_and, and_self, ↓ite_gb0, ↓ite_gbn, ↓if_pos, ↓if_neg, if_true, if_false, not_true_eq_false, not_false_eq_true, gb_ne0, gb_eq0]
      refine hq _ _ ⟨by simp only [List.cons.injEq, vI_inj, vR_inj, and_true, true_and]; omega, ⟨⟨?_, ?_⟩, fun i hi => ?_, fun p hp j hj => ?_⟩, Agr_trans hA (Agr_mono hA1 (fun k' j' hk' => by unfold ZBr; omega))⟩
      · rw [hA1 _ _ (by omega)]; exact x1
      · rw [hA1 _ _ (by omega)]; exact x2
      · rw [hA1 (b + 1) _ (by omega), hA1 (b + 2) _ (by omega), hA1 (b + 3) _ (by omega)]; exact x3 i hi
      · by_cases e : p = k
        · rw [e, y1 j hj]
          exact hA _ _ (nz j)
        · rw [hA1 _ _ (by omega)]
          exact x4 p (by omega) j hj
    · obtain ⟨rfl, ⟨⟨x1, x2⟩, x3, x4⟩, hA⟩ := hi
      have e10 : τ c 10 = f 9 := (hA c 10 (hn 0 10 (by omega))).trans c5
      have e11 : τ c 11 = f 10 := (hA c 11 (hn 0 11 (by omega))).trans c6
      have e12 : τ c 12 = σ c 12 := hA _ _ (hn 0 _ (by omega))
      have e13 : τ c 13 = f 12 := (hA c 13 (hn 0 13 (by omega))).trans c8
      have w8 := hw.2.2.2.2.2.2.2
      rw [r_B_become_68]
      simp (disch := first | assumption | exact gb_01 _ | omega) only [r_B_become_0, r_B_become_1, r_B_become_3, r_B_become_5, r_B_become_8, r_B_become_9, r_B_become_12, r_B_become_13, r_B_become_14, r_B_become_17, r_B_become_18, r_B_become_19, r_B_become_20, r_B_become_21, r_B_become_24, r_B_become_25, r_B_become_26, r_B_become_29, r_B_become_30, r_B_become_31, r_B_become_32, r_B_become_33, r_B_become_36, r_B_become_37, r_B_become_38, r_B_become_41, r_B_become_42, r_B_become_43, r_B_become_44, r_B_become_47, r_B_become_50, r_B_become_51, r_B_become_52, r_B_become_55, r_B_become_58, r_B_become_59, r_B_become_60, r_B_become_63, r_B_become_66, r_B_become_67, r_B_become_69, r_B_become_70, r_B_become_73, r_B_become_76, r_B_become_77, r_B_become_80, r_B_become_81, r_B_become_82, r_B_become_83, r_B_become_86, r_B_become_87, r_B_become_91, r_B_become_94, r_B_become_97, r_B_become_98, r_B_become_99, r_B_become_102, r_B_become_105, r_B_become_106, r_B_become_107, r_B_become_110, r_B_become_113, r_B_become_114, r_B_become_115, r_B_become_118, r_B_become_121, r_B_become_122, r_B_become_123, r_B_become_126, r_B_become_129, q0, q1, q2, q3, QP, e10, e11, e12, e13, gupd_ne, w32_gb, w32i, tn_add, tn_mul, Int.toNat_natCast, Int.toNat_zero, Int.reduceLE, Int.reduceLT, Int.reduceEq, Int.reduceNe, gb_T, gb_F, Int.reduceToNat, eq_self, true_or, or_true, and_true, true_and, and_self, ↓ite_gb0, ↓ite_gbn, ↓if_pos, ↓if_neg, if_true, if_false, not_true_eq_false, not_false_eq_true, gb_ne0, gb_eq0]
      refine ⟨⟨?_, ?_, fun k hk => ?_, fun p hp => ?_, ?_, ?_, ?_, ?_⟩, Agr_upd (Agr_upd (Agr_upd (Agr_upd hA (by unfold ZBr; omega)) (by unfold ZBr; omega)) (by unfold ZBr; omega)) (by unfold ZBr; omega)⟩
      · simp (disch := omega) only [gupd_ne]; exact x1
      · simp (disch := omega) only [gupd_ne]; exact x2
      · simp (disch := omega) only [gupd_ne]
        have y := x3 k (by omega)
        rw [y.1, y.2.1, y.2.2]
        exact c3 k hk
      · exact CPart_congr (fun j hj => by simp (disch := omega) only [gupd_ne]; exact x4 p (by omega) j hj) (fun j hj => rfl) (c4 p hp)
      · simp (disch := omega) only [gupd_ne, gupd_eq]
      · simp (disch := omega) only [gupd_ne, gupd_eq]
      · simp (disch := omega) only [gupd_ne, gupd_eq]
        exact c7
      · rw [gupd_eq]
