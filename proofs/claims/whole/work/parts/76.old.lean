/-! Runs leave the old cells alone. -/
variable {L d : Nat} {σ σ1 : Nat → Nat → Int} {Q : Option gV → (Nat → Nat → Int) → Prop} {a0 a1 a2 a3 a4 a5 a6 a7 a8 a9 a10 a11 s0 s1 s2 s3 s4 s5 s6 s7 s8 s9 : Int} {l0 l1 l2 l3 l4 l5 l6 l7 l8 l9 l10 l11 t0 t1 t2 t3 t4 t5 t6 t7 t8 t9 : gV} {b0 b1 b2 b3 b4 b5 b6 b7 b8 b9 b10 b11 c0 c1 c2 c3 c4 c5 c6 c7 c8 c9 : Nat} {r : Option gV}
/-! A run leaves the old cells (texts, their bytes, the script) alone. -/
def gold1 (n : Nat) : Prop := (20 ≤ n ∧ n ≤ 99) ∨ 999 ≤ n
def PT (τ : gMm) (m : gMem) : Prop := ∀ k, k < 27 → ∃ q, m.1[k]? = some q ∧ gold1 q.1 ∧ ∀ j, m.2 k j = τ k j
def gop3 : Instr → Bool
  | .putfield c => Nat.blt (c / 256) 20
  | _ => true
theorem PT_upd {τ : gMm} {s : List gCell} {σ : gMm} {k j : Nat} {v : Int} {q : gCell} (hb : PT τ (s, σ)) (h : s[k]? = some q) (h1 : ¬ gold1 q.1) : PT τ (s, gupd σ k j v) := fun k' hk => by
  obtain ⟨q', e1, e2, e3⟩ := hb k' hk
  refine ⟨q', e1, e2, fun j' => ?_⟩
  have ne : ¬ k' = k := fun e => by
    have e1 : s[k']? = some q' := e1
    rw [e, h] at e1
    cases e1
    exact h1 e2
  show gupd σ k j v k' j' = τ k' j'
  rw [gupd_ne (fun z => ne z.1)]
  exact e3 j'
theorem PT_cpy {τ : gMm} {s : List gCell} {σ : gMm} {k sp q dp n : Nat} {b : gCell} (hb : PT τ (s, σ)) (h : s[q]? = some b) (h1 : ¬ gold1 b.1) : PT τ (s, gcpy σ k sp q dp n) := fun k' hk => by
  obtain ⟨q', e1, e2, e3⟩ := hb k' hk
  refine ⟨q', e1, e2, fun j' => ?_⟩
  have ne : ¬ k' = q := fun e => by
    have e1 : s[k']? = some q' := e1
    rw [e, h] at e1
    cases e1
    exact h1 e2
  show gcpy σ k sp q dp n k' j' = τ k' j'
  rw [gcpy_ne ne]
  exact e3 j'
theorem PT_set {τ : gMm} {s : List gCell} {σ : gMm} {k : Nat} {q c : gCell} (h : s[k]? = some q) (h1 : ¬ gold1 q.1) (hb : PT τ (s, σ)) : PT τ (s.set k c, σ) := fun k' hk => by
  obtain ⟨q', e1, e2, e3⟩ := hb k' hk
  have ne : ¬ k = k' := fun e => by
    have e1 : s[k']? = some q' := e1
    rw [← e, h] at e1
    cases e1
    exact h1 e2
  refine ⟨q', ?_, e2, e3⟩
  show (s.set k c)[k']? = some q'
  rw [List.getElem?_set_ne ne]
  exact e1
theorem PT_app {τ : gMm} {s t : List gCell} {σ : gMm} (hb : PT τ (s, σ)) : PT τ (s ++ t, gzer σ s.length) := fun k' hk => by
  obtain ⟨q', e1, e2, e3⟩ := hb k' hk
  have e1 : s[k']? = some q' := e1
  have lt : k' < s.length := by
    rcases Nat.lt_or_ge k' s.length with h | h
    · exact h
    · rw [List.getElem?_eq_none h] at e1
      cases e1
  refine ⟨q', ?_, e2, fun j => ?_⟩
  · show (s ++ t)[k']? = some q'
    rw [List.getElem?_append_left lt]
    exact e1
  · show gzer σ s.length k' j = τ k' j
    unfold gzer
    rw [if_neg (by omega)]
    exact e3 j
theorem gput_tx {τ : gMm} {c nx : Nat} {ls st : List gV} {m : gMem} {x : Nat × (List gV × (List gV × gMem))} (ho : gop3 (.putfield c) = true) (hb : PT τ m) (h : gput c nx ls st m = some x) : PT τ x.2.2.2 := by
  have ho : c / 256 < 20 := Nat.le_of_ble_eq_true ho
  obtain ⟨s, σ⟩ := m
  unfold gput at h
  split at h
  · split at h
    · next q hq =>
      split at h
      · next hc =>
        cases h
        exact PT_upd hb hq (by unfold gold1; omega)
      · cases h
    · cases h
  · split at h
    · next q hq =>
      split at h
      · next hc =>
        cases h
        exact PT_set hq (by unfold gold1; omega) hb
      · cases h
    · cases h
  · cases h
theorem gast_tx {τ : gMm} {kd nx : Nat} {ls st : List gV} {m : gMem} {x : Nat × (List gV × (List gV × gMem))} (hk : 100 ≤ kd ∧ kd ≤ 998) (hb : PT τ m) (h : gast kd nx ls st m = some x) : PT τ x.2.2.2 := by
  obtain ⟨s, σ⟩ := m
  unfold gast at h
  split at h
  · split at h
    · next q hq =>
      split at h
      · next hc =>
        cases h
        exact PT_upd hb hq (by unfold gold1; omega)
      · cases h
    · cases h
  · cases h
theorem gasq_tx {τ : gMm} {nx : Nat} {ls st : List gV} {m : gMem} {x : Nat × (List gV × (List gV × gMem))} (hb : PT τ m) (h : gasq nx ls st m = some x) : PT τ x.2.2.2 := by
  obtain ⟨s, σ⟩ := m
  unfold gasq at h
  split at h
  · split at h
    · next q b hq hq2 =>
      split at h
      · next hc =>
        cases h
        exact PT_set hq (by unfold gold1; omega) hb
      · cases h
    · cases h
  · cases h
theorem gcopy_tx {τ : gMm} {nx : Nat} {ls st : List gV} {m : gMem} {x : Nat × (List gV × (List gV × gMem))} (hb : PT τ m) (h : gcopy nx ls st m = some x) : PT τ x.2.2.2 := by
  obtain ⟨s, σ⟩ := m
  unfold gcopy at h
  split at h
  · split at h
    · next a b ha hb2 =>
      split at h
      · next hc =>
        cases h
        exact PT_cpy hb hb2 (by unfold gold1; omega)
      · cases h
    · cases h
  · cases h
set_option maxHeartbeats 4000000 in
theorem gstep_tx {τ : gMm} {op : Instr} {nx : Nat} {ls st : List gV} {m : gMem} {x : Nat × (List gV × (List gV × gMem))} (ho : gop3 op = true) (hb : PT τ m) (h : gstep op nx ls st m = some x) : PT τ x.2.2.2 := by
  obtain ⟨s, σ⟩ := m
  unfold gstep at h
  split at h
  all_goals first
    | exact gput_tx ho hb h
    | exact gast_tx (by decide) hb h
    | exact gasq_tx hb h
    | (split at h <;> first | exact gcopy_tx hb h | (cases h; done))
    | ((try unfold gbin at h); (try unfold gbinL at h); (try unfold gdiv at h); (try unfold gget at h); (try unfold gald at h); (try unfold galq at h); (try unfold gnewa at h); (try unfold gmulti at h)
       (repeat' split at h) <;> first
         | (cases h; done)
         | (cases h; exact hb)
         | (cases h; exact PT_app hb))
theorem gT_op3 : ∀ y M, gT y = some M → ∀ q ∈ M.1, gop3 q.2.1 = true := by
  have h : gTs.all (fun M => M.1.all (fun q => gop3 q.2.1)) = true := by decide +kernel
  intro y M hy q hq
  have a := List.all_eq_true.1 h M (List.mem_of_getElem? hy)
  exact List.all_eq_true.1 a q hq
theorem gexec_tx {τ : gMm} : ∀ (n d : Nat) (C : gCode) (pc : Nat) (ls st : List gV) (m : gMem) (r : Option gV) (m' : gMem), (∀ q ∈ C, gop3 q.2.1 = true) → PT τ m → gexec gT n d C pc ls st m = some (r, m') → PT τ m' := by
  intro n
  induction n with
  | zero => intro d C pc ls st m r m' _ _ h; simp [gexec] at h
  | succ n ih =>
    intro d C pc ls st m r m' hC hs h
    unfold gexec at h
    cases hf : gfind C pc with
    | none => simp [hf] at h
    | some q =>
      obtain ⟨op, nx⟩ := q
      have ho : gop3 op = true := hC _ (gfind_mem C pc _ hf)
      simp only [hf] at h
      cases hc : gcallee op with
      | some y =>
        simp only [hc] at h
        cases d with
        | zero => simp at h
        | succ d' =>
          simp only at h
          cases hy : gT y with
          | none => simp [hy] at h
          | some M =>
            obtain ⟨C', maxL, na, rk⟩ := M
            simp only [hy] at h
            cases hsp : gsplit maxL na rk m st with
            | none => simp [hsp] at h
            | some ar =>
              obtain ⟨as, rest⟩ := ar
              simp only [hsp] at h
              cases he : gexec gT n d' C' 0 (gentry maxL as) [] m with
              | none => simp [he] at h
              | some rm =>
                obtain ⟨r1, m1⟩ := rm
                simp only [he] at h
                exact ih (d' + 1) C nx ls (r1.toList ++ rest) m1 r m' hC (ih d' C' 0 (gentry maxL as) [] m r1 m1 (gT_op3 y _ hy) hs he) h
      | none =>
        simp only [hc] at h
        cases hr : gret op st with
        | some r1 =>
          simp only [hr, Option.some.injEq, Prod.mk.injEq] at h
          obtain ⟨rfl, rfl⟩ := h
          exact hs
        | none =>
          simp only [hr] at h
          cases hst : gstep op nx ls st m with
          | none => simp [hst] at h
          | some x =>
            obtain ⟨pc', ls', st', m1⟩ := x
            simp only [hst] at h
            exact ih d C pc' ls' st' m1 r m' hC (gstep_tx ho hs hst) h
theorem gold_1 (L : Nat) : ∀ k, k < 27 → ∃ q, (gold L)[k]? = some q ∧ gold1 q.1 := by
  intro k hk
  have : k = 0 ∨ k = 1 ∨ k = 2 ∨ k = 3 ∨ k = 4 ∨ k = 5 ∨ k = 6 ∨ k = 7 ∨ k = 8 ∨ k = 9 ∨ k = 10 ∨ k = 11 ∨ k = 12 ∨ k = 13 ∨ k = 14 ∨ k = 15 ∨ k = 16 ∨ k = 17 ∨ k = 18 ∨ k = 19 ∨ k = 20 ∨ k = 21 ∨ k = 22 ∨ k = 23 ∨ k = 24 ∨ k = 25 ∨ k = 26 := by omega
  rcases this with rfl | rfl | rfl | rfl | rfl | rfl | rfl | rfl | rfl | rfl | rfl | rfl | rfl | rfl | rfl | rfl | rfl | rfl | rfl | rfl | rfl | rfl | rfl | rfl | rfl | rfl | rfl <;> exact ⟨_, rfl, Or.inl ⟨Nat.le_of_ble_eq_true rfl, Nat.le_of_ble_eq_true rfl⟩⟩
/-- a run leaves the old cells alone -/
theorem Run_old {L d y : Nat} {as : List gV} {σ σ1 : gMm} {r : Option gV} (h : Run L d y as σ r σ1) (k : Nat) (hk : k < 27) : σ1 k = σ k := by
  obtain ⟨C, maxL, na, rk, n, hT, he⟩ := h
  obtain ⟨q, -, -, e⟩ := gexec_tx (τ := σ) n d C 0 _ [] _ r _ (gT_op3 y _ hT) (fun k hk => by
    obtain ⟨q, h1, h2⟩ := gold_1 L k hk
    exact ⟨q, (gSH_old L k hk).trans h1, h2, fun _ => rfl⟩) he k hk
  exact funext e
/-- the texts' bytes -/
def TX (σ : gMm) : Prop := ∀ k, 13 ≤ k → k < 26 → ∀ j, σ k j = ((gByt.getD (k - 13) []).getD j 0).toInt
theorem Run_tx {L d y : Nat} {as : List gV} {σ σ1 : gMm} {r : Option gV} (h : Run L d y as σ r σ1) (ht : TX σ) : TX σ1 := fun k h1 h2 j => by
  rw [Run_old h k (by omega)]
  exact ht k h1 h2 j
def Op3 (x m : Nat) (as : List gV) : Prop := ∀ (L d : Nat) (σ : gMm), Inv σ → PB (gSH L, σ) → TX σ → ∃ (r : Int) (σ1 σ2 : gMm), Run L (d + 1000) x (vR 27 :: as) σ (some (vI r)) σ1 ∧ Run L (d + 1000) m (vR 293 :: as) σ1 (some (vI r)) σ2 ∧ Inv σ2
theorem Op_3 {x m : Nat} {as : List gV} (h : Op2 x m as) : Op3 x m as := fun L d σ hI hb _ => h L d σ hI hb
/-- what the law's loop keeps -/
theorem Op3_keep {x m : Nat} {as : List gV} (h : Op3 x m as) (L d : Nat) (σ : gMm) (hI : Inv σ) (hb : PB (gSH L, σ)) (ht : TX σ) : ∃ (r : Int) (σ1 σ2 : gMm), Run L (d + 1000) x (vR 27 :: as) σ (some (vI r)) σ1 ∧ Run L (d + 1000) m (vR 293 :: as) σ1 (some (vI r)) σ2 ∧ Inv σ2 ∧ PB (gSH L, σ2) ∧ TX σ2 ∧ σ1 26 = σ 26 ∧ σ2 26 = σ 26 := by
  obtain ⟨r, σ1, σ2, h1, h2, h3⟩ := h L d σ hI hb ht
  exact ⟨r, σ1, σ2, h1, h2, h3, Run_bl h2 (Run_bl h1 hb), Run_tx h2 (Run_tx h1 ht), Run_old h1 26 (by omega), (Run_old h2 26 (by omega)).trans (Run_old h1 26 (by omega))⟩
