theorem gslots_app : ∀ (a b : List gCell), gslots (a ++ b) = gslots a + gslots b
  | [], b => by simp [gslots]
  | c :: t, b => by simp [gslots, gslots_app t b]; omega
theorem gslots_set : ∀ (a : List gCell) (k : Nat) (c d : gCell), a[k]? = some c → d.2.1 = c.2.1 → gslots (a.set k d) = gslots a
  | [], _, _, _, h, _ => by simp at h
  | x :: t, 0, c, d, h, e => by simp at h; subst h; simp [gslots, e]
  | x :: t, k + 1, c, d, h, e => by simp at h; simp [gslots, gslots_set t k c d h e]
theorem gslots_rep (n : Nat) (c : gCell) : gslots (List.replicate n c) = n * c.2.1 := by
  induction n with
  | zero => simp [gslots]
  | succ n ih => simp [List.replicate_succ, gslots, ih, Nat.succ_mul]; omega
set_option maxHeartbeats 4000000 in
theorem gstep_grow {op : Instr} {nx : Nat} {ls st : List gV} {m : gMem} {x : Nat × (List gV × (List gV × gMem))} (h : gstep op nx ls st m = some x) : m.1.length ≤ x.2.2.2.1.length ∧ gslots m.1 ≤ gslots x.2.2.2.1 := by
  unfold gstep at h
  split at h
  all_goals (try unfold gbin at h); (try unfold gbinL at h); (try unfold gdiv at h); (try unfold gget at h); (try unfold gput at h); (try unfold gald at h); (try unfold galq at h); (try unfold gast at h); (try unfold gasq at h); (try unfold gcopy at h); (try unfold gnewa at h); (try unfold gmulti at h)
  all_goals (repeat' split at h)
  all_goals first
    | (cases h; done)
    | (cases h; exact ⟨Nat.le_refl _, Nat.le_refl _⟩)
    | (cases h; dsimp only; exact ⟨by simp, by rw [gslots_app]; omega⟩)
    | (cases h; dsimp only; refine ⟨by simp, Nat.le_of_eq (Eq.symm ?_)⟩; refine gslots_set _ _ _ _ (by assumption) ?_; rfl)
set_option maxHeartbeats 4000000 in
/-- the whole run: its numbers, its cells -/
theorem gexec_ok (T : Nat → Option gMeth) (hT : ∀ y M, T y = some M → ∀ q ∈ M.1, gopr q.2.1) : ∀ (n d : Nat) (C : gCode) (pc : Nat) (ls st : List gV) (m : gMem) (r : Option gV) (m' : gMem), (∀ q ∈ C, gopr q.2.1) → gSt ls st m → gexec T n d C pc ls st m = some (r, m') → (∀ v, r = some v → gvr v) ∧ (∀ k j, gr32 (m'.2 k j)) ∧ m.1.length ≤ m'.1.length ∧ gslots m.1 ≤ gslots m'.1 := by
  intro n
  induction n with
  | zero => intro d C pc ls st m r m' _ _ h; simp [gexec] at h
  | succ n ih =>
    intro d C pc ls st m r m' hC hs h
    unfold gexec at h
    cases hf : gfind C pc with
    | none => simp [hf] at h
    | some q =>
      obtain ⟨op, nx⟩ := q
      have hmem : ∀ (C : gCode) (q : Instr × Nat), gfind C pc = some q → (pc, q) ∈ C := by
        intro C
        induction C with
        | nil => intro q h; simp [gfind] at h
        | cons a t iht =>
          intro q h
          obtain ⟨p, a⟩ := a
          simp only [gfind] at h
          cases hb : Nat.beq p pc with
          | true =>
            rw [hb] at h
            simp only [cond_true, Option.some.injEq] at h
            rw [Nat.eq_of_beq_eq_true hb, h]
            exact List.mem_cons_self
          | false =>
            rw [hb] at h
            exact List.mem_cons_of_mem _ (iht q h)
      have ho : gopr op := hC _ (hmem C _ hf)
      simp only [hf] at h
      cases hc : gcallee op with
      | some y =>
        simp only [hc] at h
        cases d with
        | zero => simp at h
        | succ d' =>
          simp only at h
          cases hy : T y with
          | none => simp [hy] at h
          | some M =>
            obtain ⟨C', maxL, na, rk⟩ := M
            simp only [hy] at h
            cases hsp : gsplit maxL na rk m st with
            | none => simp [hsp] at h
            | some ar =>
              obtain ⟨as, rest⟩ := ar
              simp only [hsp] at h
              have hsp2 : as = (st.take na).reverse ∧ rest = st.drop na := by
                unfold gsplit at hsp
                split at hsp
                · cases hsp; exact ⟨rfl, rfl⟩
                · cases hsp
              cases he : gexec T n d' C' 0 (gentry maxL as) [] m with
              | none => simp [he] at h
              | some rm =>
                obtain ⟨r1, m1⟩ := rm
                simp only [he] at h
                have has : ∀ v ∈ as, gvr v := fun v hv => by
                  rw [hsp2.1, List.mem_reverse] at hv
                  exact hs.2.1 v (List.mem_of_mem_take hv)
                obtain ⟨a1, a2, a3, a4⟩ := ih d' C' 0 (gentry maxL as) [] m r1 m1 (hT y _ hy) ⟨gentry_vr has, (fun v hv => by simp at hv), hs.2.2⟩ he
                have hst : ∀ v ∈ r1.toList ++ rest, gvr v := fun v hv => by
                  rcases List.mem_append.mp hv with q | q
                  · cases r1 with
                    | none => simp at q
                    | some w => simp at q; subst q; exact a1 _ rfl
                  · rw [hsp2.2] at q
                    exact hs.2.1 v (List.mem_of_mem_drop q)
                obtain ⟨b1, b2, b3, b4⟩ := ih (d' + 1) C nx ls (r1.toList ++ rest) m1 r m' hC ⟨hs.1, hst, a2⟩ h
                exact ⟨b1, b2, Nat.le_trans a3 b3, Nat.le_trans a4 b4⟩
      | none =>
        simp only [hc] at h
        cases hr : gret op st with
        | some r1 =>
          simp only [hr, Option.some.injEq, Prod.mk.injEq] at h
          obtain ⟨rfl, rfl⟩ := h
          refine ⟨fun v hv => ?_, hs.2.2, Nat.le_refl _, Nat.le_refl _⟩
          subst hv
          have : st = [v] := by
            unfold gret at hr
            (repeat' split at hr) <;> first | (cases hr; done) | (cases hr; rfl)
          exact hs.2.1 v (by rw [this]; exact List.mem_cons_self)
        | none =>
          simp only [hr] at h
          cases hst : gstep op nx ls st m with
          | none => simp [hst] at h
          | some x =>
            obtain ⟨pc', ls', st', m1⟩ := x
            simp only [hst] at h
            have g1 := gstep_st ho hs hst
            have g2 := gstep_grow hst
            obtain ⟨b1, b2, b3, b4⟩ := ih d C pc' ls' st' m1 r m' hC g1 h
            exact ⟨b1, b2, Nat.le_trans g2.1 b3, Nat.le_trans g2.2 b4⟩
theorem gfind_mem : ∀ (C : gCode) (pc : Nat) (q : Instr × Nat), gfind C pc = some q → (pc, q) ∈ C
  | [], _, _, h => by simp [gfind] at h
  | (p, a) :: t, pc, q, h => by
    simp only [gfind] at h
    cases hb : Nat.beq p pc with
    | true =>
      rw [hb] at h
      simp only [cond_true, Option.some.injEq] at h
      rw [Nat.eq_of_beq_eq_true hb, h]
      exact List.mem_cons_self
    | false =>
      rw [hb] at h
      exact List.mem_cons_of_mem _ (gfind_mem t pc q h)
