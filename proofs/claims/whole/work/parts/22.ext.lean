/-! A run that never touches cells of kind 999 goes the same way where something else stands there. -/
def gExt (m m1 : gMem) : Prop := m1.1.length = m.1.length ∧ (∀ (k : Nat) (q : gCell), m.1[k]? = some q → q.1 ≠ 999 → m1.1[k]? = some q) ∧ (∀ (k : Nat) (q : gCell) (j : Nat), m.1[k]? = some q → q.1 ≠ 999 → m1.2 k j = m.2 k j) ∧ ∀ k j, m.1.length ≤ k → m1.2 k j = m.2 k j
def gExtX (x x1 : Nat × (List gV × (List gV × gMem))) : Prop := x1.1 = x.1 ∧ x1.2.1 = x.2.1 ∧ x1.2.2.1 = x.2.2.1 ∧ gExt x.2.2.2 x1.2.2.2
theorem gExt_upd {m m1 : gMem} (h : gExt m m1) (k j : Nat) (v : Int) : gExt (m.1, gupd m.2 k j v) (m1.1, gupd m1.2 k j v) := by
  obtain ⟨h1, h2, h3, h4⟩ := h
  refine ⟨h1, h2, fun k' q j' hq hk => ?_, fun k' j' hk => ?_⟩
  · dsimp only [gupd]
    split
    · rfl
    · exact h3 k' q j' hq hk
  · dsimp only [gupd]
    split
    · rfl
    · exact h4 k' j' hk
theorem gExt_set {m m1 : gMem} (h : gExt m m1) {k : Nat} {q c : gCell} (hq : m.1[k]? = some q) (hn : q.1 ≠ 999) : gExt (m.1.set k c, m.2) (m1.1.set k c, m1.2) := by
  obtain ⟨h1, h2, h3, h4⟩ := h
  have hl := (List.getElem?_eq_some_iff.mp hq).1
  refine ⟨by simp [h1], fun k' q' hq' hk => ?_, fun k' q' j' hq' hk => ?_, fun k' j' hk => h4 k' j' (by simpa using hk)⟩
  · by_cases e : k = k'
    · subst e
      dsimp only at hq' ⊢
      rw [List.getElem?_set_self hl] at hq'
      rw [List.getElem?_set_self (by omega)]
      exact hq'
    · dsimp only at hq' ⊢
      rw [List.getElem?_set_ne e] at hq' ⊢
      exact h2 k' q' hq' hk
  · by_cases e : k = k'
    · subst e
      exact h3 k q j' hq hn
    · dsimp only at hq'
      rw [List.getElem?_set_ne e] at hq'
      exact h3 k' q' j' hq' hk
theorem gExt_push {m m1 : gMem} (h : gExt m m1) (cs : List gCell) : gExt (m.1 ++ cs, gzer m.2 m.1.length) (m1.1 ++ cs, gzer m1.2 m1.1.length) := by
  obtain ⟨h1, h2, h3, h4⟩ := h
  refine ⟨by simp [h1], fun k q hq hk => ?_, fun k q j hq hk => ?_, fun k j hk => ?_⟩
  · dsimp only at hq ⊢
    by_cases e : k < m.1.length
    · rw [List.getElem?_append_left e] at hq
      rw [List.getElem?_append_left (by omega)]
      exact h2 k q hq hk
    · rw [List.getElem?_append_right (by omega)] at hq
      rw [List.getElem?_append_right (by omega), h1]
      exact hq
  · dsimp only at hq ⊢
    unfold gzer
    rw [h1]
    split
    · rfl
    · next e =>
      rw [List.getElem?_append_left (by omega)] at hq
      exact h3 k q j hq hk
  · dsimp only at hk ⊢
    unfold gzer
    rw [h1]
    rw [List.length_append] at hk
    rw [if_pos (by omega), if_pos (by omega)]
theorem gExt_push2 {m m1 : gMem} (h : gExt m m1) (cs : List gCell) : gExt (m.1 ++ cs, gzer m.2 m.1.length) (m1.1 ++ cs, gzer m1.2 m.1.length) := by
  have e := gExt_push h cs
  rw [h.1] at e
  exact e
theorem gExt_cpy {m m1 : gMem} (h : gExt m m1) {k q : Nat} {a : gCell} (ha : m.1[k]? = some a) (hn : a.1 ≠ 999) (sp dp n : Nat) : gExt (m.1, gcpy m.2 k sp q dp n) (m1.1, gcpy m1.2 k sp q dp n) := by
  obtain ⟨h1, h2, h3, h4⟩ := h
  refine ⟨h1, h2, fun k' q' j' hq hk => ?_, fun k' j' hk => ?_⟩
  · dsimp only [gcpy]
    split
    · exact h3 k a _ ha hn
    · exact h3 k' q' j' hq hk
  · dsimp only [gcpy]
    split
    · exact h3 k a _ ha hn
    · exact h4 k' j' hk
def gmemop : Instr → Bool
  | .getfield _ | .putfield _ | .iaload | .baload | .aaload | .iastore | .bastore | .aastore | .arraylength | .invokedynamic _ | .new _ | .newarray _ | .anewarray _ | .multianewarray _ _ => true
  | _ => false
set_option maxHeartbeats 8000000 in
theorem gstep_nm {op : Instr} {nx : Nat} {ls st : List gV} (m m1 : gMem) (hm : gmemop op = false) : gstep op nx ls st m1 = (gstep op nx ls st m).map (fun x => (x.1, x.2.1, x.2.2.1, m1)) ∧ ∀ x, gstep op nx ls st m = some x → x.2.2.2 = m := by
  unfold gstep
  split
  all_goals first
    | (cases hm; done)
    | skip
  all_goals (try unfold gbin); (try unfold gbinL); (try unfold gdiv)
  all_goals (repeat' split)
  all_goals first
    | exact ⟨rfl, fun x h => by cases h; rfl⟩
    | exact ⟨rfl, fun x h => by cases h⟩
set_option maxHeartbeats 8000000 in
theorem gstep_ext {op : Instr} {nx : Nat} {ls st : List gV} {m m1 : gMem} {x : Nat × (List gV × (List gV × gMem))} (hfi : ∀ c, op = .getfield c ∨ op = .putfield c → c / 256 ≠ 999) (he : gExt m m1) (h : gstep op nx ls st m = some x) : ∃ x1, gstep op nx ls st m1 = some x1 ∧ gExtX x x1 := by
  cases hm : gmemop op with
  | false =>
    obtain ⟨h1, h2⟩ := gstep_nm (nx := nx) (ls := ls) (st := st) m m1 hm
    rw [h] at h1
    have h3 := h2 x h
    exact ⟨_, h1, rfl, rfl, rfl, by rw [h3]; exact he⟩
  | true =>
    unfold gmemop at hm
    split at hm
    · next c =>
      have hc := hfi c (Or.inl rfl)
      simp only [gstep, gget] at h ⊢
      split at h
      · next k r =>
        split at h
        · next q hq =>
          split at h
          · next hk =>
            have hn : q.1 ≠ 999 := by omega
            rw [he.2.1 k q hq hn]
            dsimp only
            rw [if_pos hk]
            split at h
            · next hs =>
              rw [if_pos hs]
              split at h
              · next a hqa =>
                cases h
                exact ⟨_, rfl, rfl, rfl, rfl, he⟩
              · cases h
            · next hs =>
              rw [if_neg hs]
              cases h
              exact ⟨_, rfl, rfl, rfl, by dsimp only; rw [he.2.2.1 k q _ hq hn], he⟩
          · cases h
        · cases h
      · cases h
    · next c =>
      have hc := hfi c (Or.inr rfl)
      simp only [gstep, gput] at h ⊢
      split at h
      · next y k r =>
        split at h
        · next q hq =>
          split at h
          · next hk =>
            have hn : q.1 ≠ 999 := by omega
            rw [he.2.1 k q hq hn]
            dsimp only
            rw [if_pos hk]
            cases h
            exact ⟨_, rfl, rfl, rfl, rfl, gExt_upd he _ _ _⟩
          · cases h
        · cases h
      · next y k r =>
        split at h
        · next q hq =>
          split at h
          · next hk =>
            have hn : q.1 ≠ 999 := by omega
            rw [he.2.1 k q hq hn]
            dsimp only
            rw [if_pos hk]
            cases h
            exact ⟨_, rfl, rfl, rfl, rfl, gExt_set he hq hn⟩
          · cases h
        · cases h
      · cases h
    · simp only [gstep, gald] at h ⊢
      split at h
      · next y k r =>
        split at h
        · next q hq =>
          split at h
          · next hk =>
            have hn : q.1 ≠ 999 := by omega
            rw [he.2.1 k q hq hn]
            dsimp only
            rw [if_pos hk]
            cases h
            exact ⟨_, rfl, rfl, rfl, by dsimp only; rw [he.2.2.1 k q _ hq hn], he⟩
          · cases h
        · cases h
      · cases h
    · simp only [gstep, gald] at h ⊢
      split at h
      · next y k r =>
        split at h
        · next q hq =>
          split at h
          · next hk =>
            have hn : q.1 ≠ 999 := by omega
            rw [he.2.1 k q hq hn]
            dsimp only
            rw [if_pos hk]
            cases h
            exact ⟨_, rfl, rfl, rfl, by dsimp only; rw [he.2.2.1 k q _ hq hn], he⟩
          · cases h
        · cases h
      · cases h
    · simp only [gstep, galq] at h ⊢
      split at h
      · next y k r =>
        split at h
        · next q hq =>
          split at h
          · next hk =>
            have hn : q.1 ≠ 999 := by omega
            rw [he.2.1 k q hq hn]
            dsimp only
            rw [if_pos hk]
            split at h
            · next a hqa =>
              cases h
              exact ⟨_, rfl, rfl, rfl, rfl, he⟩
            · cases h
          · cases h
        · cases h
      · cases h
    · simp only [gstep, gast] at h ⊢
      split at h
      · next z y k r =>
        split at h
        · next q hq =>
          split at h
          · next hk =>
            have hn : q.1 ≠ 999 := by omega
            rw [he.2.1 k q hq hn]
            dsimp only
            rw [if_pos hk]
            cases h
            exact ⟨_, rfl, rfl, rfl, rfl, gExt_upd he _ _ _⟩
          · cases h
        · cases h
      · cases h
    · simp only [gstep, gast] at h ⊢
      split at h
      · next z y k r =>
        split at h
        · next q hq =>
          split at h
          · next hk =>
            have hn : q.1 ≠ 999 := by omega
            rw [he.2.1 k q hq hn]
            dsimp only
            rw [if_pos hk]
            cases h
            exact ⟨_, rfl, rfl, rfl, rfl, gExt_upd he _ _ _⟩
          · cases h
        · cases h
      · cases h
    · simp only [gstep, gasq] at h ⊢
      split at h
      · next z y k r =>
        split at h
        · next q b hq hqb =>
          split at h
          · next hk =>
            have hn : q.1 ≠ 999 := by omega
            rw [he.2.1 k q hq hn, he.2.1 z b hqb (by omega)]
            dsimp only
            rw [if_pos hk]
            cases h
            exact ⟨_, rfl, rfl, rfl, rfl, gExt_set he hq hn⟩
          · cases h
        · cases h
      · cases h
    · simp only [gstep] at h ⊢
      split at h
      · next k r =>
        split at h
        · next q hq =>
          split at h
          · next hk =>
            have hn : q.1 ≠ 999 := by omega
            rw [he.2.1 k q hq hn]
            dsimp only
            rw [if_pos hk]
            cases h
            exact ⟨_, rfl, rfl, rfl, rfl, he⟩
          · cases h
        · cases h
      · cases h
    · simp only [gstep, gcopy] at h ⊢
      split at h
      · next hfw =>
        rw [if_pos hfw]
        split at h
        · next n dp q sp k r =>
          split at h
          · next a b hqa hqb =>
            split at h
            · next hk =>
              rw [he.2.1 k a hqa (by omega), he.2.1 q b hqb (by omega)]
              dsimp only
              rw [if_pos hk]
              cases h
              exact ⟨_, rfl, rfl, rfl, rfl, gExt_cpy he hqa (by omega) _ _ _⟩
            · cases h
          · cases h
        · cases h
      · cases h
    · simp only [gstep] at h ⊢
      cases h
      exact ⟨_, rfl, rfl, rfl, by dsimp only; rw [he.1], gExt_push he _⟩
    · simp only [gstep, gnewa] at h ⊢
      split at h
      · split at h
        · next hk =>
          rw [if_pos hk]
          cases h
          exact ⟨_, rfl, rfl, rfl, by dsimp only; rw [he.1], gExt_push he _⟩
        · cases h
      · cases h
    · simp only [gstep, gnewa] at h ⊢
      split at h
      · split at h
        · next hk =>
          rw [if_pos hk]
          cases h
          exact ⟨_, rfl, rfl, rfl, by dsimp only; rw [he.1], gExt_push he _⟩
        · cases h
      · cases h
    · simp only [gstep, gmulti] at h ⊢
      split at h
      · split at h
        · next hk =>
          rw [if_pos hk]
          cases h
          exact ⟨_, rfl, rfl, rfl, by dsimp only; rw [he.1], by
            dsimp only
            rw [he.1]
            exact gExt_push2 he _⟩
        · cases h
      · cases h
    · cases hm
set_option maxHeartbeats 2000000 in
theorem gexec_ext (hC0 : ∀ y M, gT y = some M → ∀ q ∈ M.1, ∀ c, q.2.1 = .getfield c ∨ q.2.1 = .putfield c → c / 256 ≠ 999) (hr0 : ∀ y M, gT y = some M → M.2.2.2 ≠ 1000) : ∀ (n d : Nat) (C : gCode) (pc : Nat) (ls st : List gV) (m m1 : gMem) (r : Option gV) (m' : gMem), (∀ q ∈ C, ∀ c, q.2.1 = .getfield c ∨ q.2.1 = .putfield c → c / 256 ≠ 999) → gExt m m1 → gexec gT n d C pc ls st m = some (r, m') → ∃ m1', gexec gT n d C pc ls st m1 = some (r, m1') ∧ gExt m' m1' := by
  intro n
  induction n with
  | zero => intro d C pc ls st m m1 r m' _ _ h; simp [gexec] at h
  | succ n ih =>
    intro d C pc ls st m m1 r m' hC he h
    unfold gexec at h ⊢
    cases hf : gfind C pc with
    | none => simp [hf] at h
    | some q =>
      obtain ⟨op, nx⟩ := q
      simp only [hf] at h ⊢
      have hop := hC _ (gfind_mem C pc _ hf)
      cases hc : gcallee op with
      | some y =>
        simp only [hc] at h ⊢
        cases d with
        | zero => simp at h
        | succ d' =>
          simp only at h ⊢
          cases hy : gT y with
          | none => simp [hy] at h
          | some M =>
            obtain ⟨C', maxL, na, rk⟩ := M
            simp only [hy] at h ⊢
            cases hsp : gsplit maxL na rk m st with
            | none => simp [hsp] at h
            | some ar =>
              obtain ⟨as, rest⟩ := ar
              have hsp1 : gsplit maxL na rk m1 st = some (as, rest) := by
                unfold gsplit at hsp ⊢
                split at hsp
                · next hq =>
                  simp only [Bool.and_eq_true] at hq
                  have hrc : grecv m1 rk (st.take na).reverse = true := by
                    have h0 := hq.2
                    have h1000 := hr0 y _ hy
                    dsimp only at h1000
                    unfold grecv at h0 ⊢
                    split at h0
                    · rfl
                    · split at h0
                      · next k t hk =>
                        split at h0
                        · next q1 hq1 =>
                          have := Nat.eq_of_beq_eq_true h0
                          rw [he.2.1 _ q1 hq1 (by omega)]
                          exact h0
                        · cases h0
                      · cases h0
                  rw [if_pos (by simp only [Bool.and_eq_true]; exact ⟨hq.1, hrc⟩)]
                  exact hsp
                · cases hsp
              simp only [hsp] at h
              simp only [hsp1]
              cases hx : gexec gT n d' C' 0 (gentry maxL as) [] m with
              | none => simp [hx] at h
              | some rm =>
                obtain ⟨r1, m2⟩ := rm
                simp only [hx] at h
                obtain ⟨m3, g1, g2⟩ := ih d' C' 0 (gentry maxL as) [] m m1 r1 m2 (hC0 y _ hy) he hx
                rw [g1]
                exact ih (d' + 1) C nx ls _ m2 m3 r m' hC g2 h
      | none =>
        simp only [hc] at h ⊢
        cases hr : gret op st with
        | some r1 =>
          simp only [hr, Option.some.injEq, Prod.mk.injEq] at h ⊢
          obtain ⟨rfl, rfl⟩ := h
          exact ⟨m1, ⟨rfl, rfl⟩, he⟩
        | none =>
          simp only [hr] at h ⊢
          cases hst : gstep op nx ls st m with
          | none => simp [hst] at h
          | some x =>
            obtain ⟨x1, e1, e2, e3, e4, e5⟩ := gstep_ext hop he hst
            obtain ⟨pc', ls', st', m2⟩ := x
            obtain ⟨pc1, ls1, st1, m3⟩ := x1
            dsimp only at e2 e3 e4 e5
            subst e2; subst e3; subst e4
            simp only [hst] at h
            rw [e1]
            exact ih d C pc1 ls1 st1 m2 m3 r m' hC e5 h
