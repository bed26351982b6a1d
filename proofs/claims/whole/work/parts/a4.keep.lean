/-! A run at a greater depth; a run leaves the old cells as they are. -/
variable {L d : Nat} {σ σ1 : Nat → Nat → Int} {Q : Option gV → (Nat → Nat → Int) → Prop} {a0 a1 a2 a3 a4 a5 a6 a7 a8 a9 a10 a11 s0 s1 s2 s3 s4 s5 s6 s7 s8 s9 : Int} {l0 l1 l2 l3 l4 l5 l6 l7 l8 l9 l10 l11 t0 t1 t2 t3 t4 t5 t6 t7 t8 t9 : gV} {b0 b1 b2 b3 b4 b5 b6 b7 b8 b9 b10 b11 c0 c1 c2 c3 c4 c5 c6 c7 c8 c9 : Nat} {r : Option gV}
theorem gexec_dep (T : Nat → Option gMeth) : ∀ (n d e : Nat) (C : gCode) (pc : Nat) (ls st : List gV) (m : gMem) (x : Option gV × gMem), d ≤ e → gexec T n d C pc ls st m = some x → gexec T n e C pc ls st m = some x := by
  intro n
  induction n with
  | zero => intro d e C pc ls st m x _ h; simp [gexec] at h
  | succ n ih =>
    intro d e C pc ls st m x hn h
    unfold gexec at h ⊢
    cases hf : gfind C pc with
    | none => simp [hf] at h
    | some q =>
      obtain ⟨op, nx⟩ := q
      simp only [hf] at h ⊢
      cases hc : gcallee op with
      | some y =>
        simp only [hc] at h ⊢
        cases d with
        | zero => simp at h
        | succ d' =>
          obtain ⟨k, rfl⟩ : ∃ k, e = k + 1 := ⟨e - 1, by omega⟩
          simp only at h ⊢
          cases hT : T y with
          | none => simp [hT] at h
          | some M =>
            obtain ⟨C', maxL, na, rk⟩ := M
            simp only [hT] at h ⊢
            cases hs : gsplit maxL na rk m st with
            | none => simp [hs] at h
            | some ar =>
              obtain ⟨as, rest⟩ := ar
              simp only [hs] at h ⊢
              cases he : gexec T n d' C' 0 (gentry maxL as) [] m with
              | none => simp [he] at h
              | some rm =>
                obtain ⟨r, m'⟩ := rm
                simp only [he] at h
                rw [ih d' k C' 0 _ [] m (r, m') (by omega) he]
                exact ih (d' + 1) (k + 1) C nx ls _ m' x hn h
      | none =>
        simp only [hc] at h ⊢
        cases hr : gret op st with
        | some r => simp only [hr] at h ⊢; exact h
        | none =>
          simp only [hr] at h ⊢
          cases hst : gstep op nx ls st m with
          | none => simp [hst] at h
          | some q =>
            obtain ⟨pc', ls', st', m'⟩ := q
            simp only [hst] at h ⊢
            exact ih d e C pc' ls' st' m' x hn h
def PU (o : List gCell) (τ : gMm) (m : gMem) : Prop := ∀ k, k < 27 → ∃ q, m.1[k]? = some q ∧ (gold1 q.1 ∧ o[k]? = some q) ∧ ∀ j, m.2 k j = τ k j
theorem PU_upd {oo : List gCell} {τ : gMm} {s : List gCell} {σ : gMm} {k j : Nat} {v : Int} {q : gCell} (hb : PU oo τ (s, σ)) (h : s[k]? = some q) (h1 : ¬ gold1 q.1) : PU oo τ (s, gupd σ k j v) := fun k' hk => by
  obtain ⟨q', e1, e2, e3⟩ := hb k' hk
  refine ⟨q', e1, e2, fun j' => ?_⟩
  have ne : ¬ k' = k := fun e => by
    have e1 : s[k']? = some q' := e1
    rw [e, h] at e1
    cases e1
    exact h1 e2.1
  show gupd σ k j v k' j' = τ k' j'
  rw [gupd_ne (fun z => ne z.1)]
  exact e3 j'
theorem PU_cpy {oo : List gCell} {τ : gMm} {s : List gCell} {σ : gMm} {k sp q dp n : Nat} {b : gCell} (hb : PU oo τ (s, σ)) (h : s[q]? = some b) (h1 : ¬ gold1 b.1) : PU oo τ (s, gcpy σ k sp q dp n) := fun k' hk => by
  obtain ⟨q', e1, e2, e3⟩ := hb k' hk
  refine ⟨q', e1, e2, fun j' => ?_⟩
  have ne : ¬ k' = q := fun e => by
    have e1 : s[k']? = some q' := e1
    rw [e, h] at e1
    cases e1
    exact h1 e2.1
  show gcpy σ k sp q dp n k' j' = τ k' j'
  rw [gcpy_ne ne]
  exact e3 j'
theorem PU_set {oo : List gCell} {τ : gMm} {s : List gCell} {σ : gMm} {k : Nat} {q c : gCell} (h : s[k]? = some q) (h1 : ¬ gold1 q.1) (hb : PU oo τ (s, σ)) : PU oo τ (s.set k c, σ) := fun k' hk => by
  obtain ⟨q', e1, e2, e3⟩ := hb k' hk
  have ne : ¬ k = k' := fun e => by
    have e1 : s[k']? = some q' := e1
    rw [← e, h] at e1
    cases e1
    exact h1 e2.1
  refine ⟨q', ?_, e2, e3⟩
  show (s.set k c)[k']? = some q'
  rw [List.getElem?_set_ne ne]
  exact e1
theorem PU_app {oo : List gCell} {τ : gMm} {s t : List gCell} {σ : gMm} (hb : PU oo τ (s, σ)) : PU oo τ (s ++ t, gzer σ s.length) := fun k' hk => by
  obtain ⟨q', e1, e2, e3⟩ := hb k' hk
  have e1 : s[k']? = some q' := e1
  have lt : k' < s.length := by
    rcases Nat.lt_or_ge k' s.length with h | h
    · exact h
    · rw [List.getElem?_eq_none h] at e1
      cases e1
  refine ⟨q', ?_, e2, fun j => ?_⟩
  · show (s ++ t)[k']? = some q'
    rw [List.getElem?_append_left lt]
    exact e1
  · show gzer σ s.length k' j = τ k' j
    unfold gzer
    rw [if_neg (by omega)]
    exact e3 j
theorem gput_tu {oo : List gCell} {τ : gMm} {c nx : Nat} {ls st : List gV} {m : gMem} {x : Nat × (List gV × (List gV × gMem))} (ho : gop3 (.putfield c) = true) (hb : PU oo τ m) (h : gput c nx ls st m = some x) : PU oo τ x.2.2.2 := by
  have ho : c / 256 < 20 := Nat.le_of_ble_eq_true ho
  obtain ⟨s, σ⟩ := m
  unfold gput at h
  split at h
  · split at h
    · next q hq =>
      split at h
      · next hc =>
        cases h
        exact PU_upd hb hq (by unfold gold1; omega)
      · cases h
    · cases h
  · split at h
    · next q hq =>
      split at h
      · next hc =>
        cases h
        exact PU_set hq (by unfold gold1; omega) hb
      · cases h
    · cases h
  · cases h
theorem gast_tu {oo : List gCell} {τ : gMm} {kd nx : Nat} {ls st : List gV} {m : gMem} {x : Nat × (List gV × (List gV × gMem))} (hk : 100 ≤ kd ∧ kd ≤ 998) (hb : PU oo τ m) (h : gast kd nx ls st m = some x) : PU oo τ x.2.2.2 := by
  obtain ⟨s, σ⟩ := m
  unfold gast at h
  split at h
  · split at h
    · next q hq =>
      split at h
      · next hc =>
        cases h
        exact PU_upd hb hq (by unfold gold1; omega)
      · cases h
    · cases h
  · cases h
theorem gasq_tu {oo : List gCell} {τ : gMm} {nx : Nat} {ls st : List gV} {m : gMem} {x : Nat × (List gV × (List gV × gMem))} (hb : PU oo τ m) (h : gasq nx ls st m = some x) : PU oo τ x.2.2.2 := by
  obtain ⟨s, σ⟩ := m
  unfold gasq at h
  split at h
  · split at h
    · next q b hq hq2 =>
      split at h
      · next hc =>
        cases h
        exact PU_set hq (by unfold gold1; omega) hb
      · cases h
    · cases h
  · cases h
theorem gcopy_tu {oo : List gCell} {τ : gMm} {nx : Nat} {ls st : List gV} {m : gMem} {x : Nat × (List gV × (List gV × gMem))} (hb : PU oo τ m) (h : gcopy nx ls st m = some x) : PU oo τ x.2.2.2 := by
  obtain ⟨s, σ⟩ := m
  unfold gcopy at h
  split at h
  · split at h
    · next a b ha hb2 =>
      split at h
      · next hc =>
        cases h
        exact PU_cpy hb hb2 (by unfold gold1; omega)
      · cases h
    · cases h
  · cases h
set_option maxHeartbeats 4000000 in
theorem gstep_tu {oo : List gCell} {τ : gMm} {op : Instr} {nx : Nat} {ls st : List gV} {m : gMem} {x : Nat × (List gV × (List gV × gMem))} (ho : gop3 op = true) (hb : PU oo τ m) (h : gstep op nx ls st m = some x) : PU oo τ x.2.2.2 := by
  obtain ⟨s, σ⟩ := m
  unfold gstep at h
  split at h
  all_goals first
    | exact gput_tu ho hb h
    | exact gast_tu (by decide) hb h
    | exact gasq_tu hb h
    | (split at h <;> first | exact gcopy_tu hb h | (cases h; done))
    | ((try unfold gbin at h); (try unfold gbinL at h); (try unfold gdiv at h); (try unfold gget at h); (try unfold gald at h); (try unfold galq at h); (try unfold gnewa at h); (try unfold gmulti at h)
       (repeat' split at h) <;> first
         | (cases h; done)
         | (cases h; exact hb)
         | (cases h; exact PU_app hb))
theorem gexec_tu {oo : List gCell} {τ : gMm} : ∀ (n d : Nat) (C : gCode) (pc : Nat) (ls st : List gV) (m : gMem) (r : Option gV) (m' : gMem), (∀ q ∈ C, gop3 q.2.1 = true) → PU oo τ m → gexec gT n d C pc ls st m = some (r, m') → PU oo τ m' := by
  intro n
  induction n with
  | zero => intro d C pc ls st m r m' _ _ h; simp [gexec] at h
  | succ n ih =>
    intro d C pc ls st m r m' hC hs h
    unfold gexec at h
    cases hf : gfind C pc with
    | none => simp [hf] at h
    | some q =>
      obtain ⟨op, nx⟩ := q
      have ho : gop3 op = true := hC _ (gfind_mem C pc _ hf)
      simp only [hf] at h
      cases hc : gcallee op with
      | some y =>
        simp only [hc] at h
        cases d with
        | zero => simp at h
        | succ d' =>
          simp only at h
          cases hy : gT y with
          | none => simp [hy] at h
          | some M =>
            obtain ⟨C', maxL, na, rk⟩ := M
            simp only [hy] at h
            cases hsp : gsplit maxL na rk m st with
            | none => simp [hsp] at h
            | some ar =>
              obtain ⟨as, rest⟩ := ar
              simp only [hsp] at h
              cases he : gexec gT n d' C' 0 (gentry maxL as) [] m with
              | none => simp [he] at h
              | some rm =>
                obtain ⟨r1, m1⟩ := rm
                simp only [he] at h
                exact ih (d' + 1) C nx ls (r1.toList ++ rest) m1 r m' hC (ih d' C' 0 (gentry maxL as) [] m r1 m1 (gT_op3 y _ hy) hs he) h
      | none =>
        simp only [hc] at h
        cases hr : gret op st with
        | some r1 =>
          simp only [hr, Option.some.injEq, Prod.mk.injEq] at h
          obtain ⟨rfl, rfl⟩ := h
          exact hs
        | none =>
          simp only [hr] at h
          cases hst : gstep op nx ls st m with
          | none => simp [hst] at h
          | some x =>
            obtain ⟨pc', ls', st', m1⟩ := x
            simp only [hst] at h
            exact ih d C pc' ls' st' m1 r m' hC (gstep_tu ho hs hst) h
