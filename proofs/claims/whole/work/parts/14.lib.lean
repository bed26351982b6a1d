theorem gsum {E : gE} (hO : eO E = .null ∨ ∃ a, eO E = .ref a) : ∀ r : List gV, ((r.map (gcv E)).map fun v => v.category).sum = (r.map gcat).sum
  | [] => rfl
  | v :: t => by
    simp only [List.map_cons, List.sum_cons, gsum hO t, gcv_cat hO]
theorem gfew_le {r : List gV} (h : gfew r = true) : (r.map gcat).sum ≤ 8 := Nat.le_of_ble_eq_true h
section GLib
variable {p : Program} {l : Launch} {e : Env} {R : Room} {s : State} {mi : MethodId} {args : Array Value} {below : List Frame} {meth : Method} {c : Code} {Q : State → Prop} {E : gE} {cc : ByteArray} {o cells slots pc pc' : Nat} {ls st ls' st' : List gV} {m m' : gMem}
theorem gKO (h : gKK E s) : eO E = .null ∨ ∃ a, eO E = .ref a := h.2.2.2.2.2.2.2.2.1
set_option maxHeartbeats 1000000 in
theorem gs_copy (cx : gCx p s mi args c E cc o) (hml : c.maxLocals = ls.length) {idx x : Nat} (hl : gfnd gAl o idx = some x) (hf1 : 1 ≤ R.frames) (hf2 : 60 ≤ R.locals) (hd : decode cc pc = .ok (.invokestatic idx, 3)) (hfew : gfew (st.drop 5) = true) (hst : gcopy (pc + 3) ls st m = some (pc', ls', st', m')) (kk : gW p l e R s mi args below meth c Q E cells slots pc' ls' st' m') : gW p l e R s mi args below meth c Q E cells slots pc ls st m := by
  obtain ⟨hx, hb, hown, hts, hK⟩ := cx
  intro H locs Ls hF
  have hS1 := gcopy_st hF.2.2.2 hst
  have w1 := gAl_ok _ (gfnd_mem _ _ _ _ hl)
  unfold gcopy at hst
  split at hst
  · next n dp q sp k r =>
    split at hst
    · next a b hqa hqb =>
      split at hst
      · next hc =>
        cases hst
        have h27a := old_not hF.1 hqa (by omega)
        have h27b := old_not hF.1 hqb (by omega)
        have ha := (hF.1.2.2.2.2 k a h27a hqa).2.1 hc.1
        have hab := hF.1.2.2.2.2 q b h27b hqb
        have hb1 := hab.2.1 hc.2.1
        have rn : gr32 n := vr_h hF.2.2.2.2.1
        have rd : gr32 dp := vr_h (vr_t hF.2.2.2.2.1)
        have rs : gr32 sp := vr_h (vr_t (vr_t (vr_t hF.2.2.2.2.1)))
        obtain ⟨hc1, hc2, hn0, hs0, hd0, hsa, hdb⟩ := hc
        have en := o32_clamp rn
        have ed := o32_clamp rd
        have es := o32_clamp rs
        obtain ⟨-, k0, hk0, cm0, hkk0⟩ := (hK.1.2 0 _ rfl).1 a.2.1 (fun j => .int (Int32.ofInt (m.2 k j)))
        obtain ⟨-, k1, hk1, cm1, hkk1⟩ := (hK.1.2 0 _ rfl).1 b.2.1 (fun j => .int (Int32.ofInt (m.2 q j)))
        have hO := gKO hK
        have hroom := gfew_le hfew
        have hsz : Ls.size = ls.length := hF.2.2.1.1
        intro T hT X
        obtain ⟨vm', X', step⟩ := X.arraycopy hx hown (hts _ w1) (hts _ gc_3) (hts _ gc_1) (hts _ gc_2) (src := gad E k) (dst := gad E q) (cs := vp_cell (eA E 0) (a.2.1, .inl (fun j => Int32.ofInt (m.2 k j)))) (cd := vp_cell (eA E 0) (b.2.1, .inl (fun j => Int32.ofInt (m.2 q j)))) (srcPos := Int32.ofInt sp) (destPos := Int32.ofInt dp) (n := Int32.ofInt n) (by rw [hT]; exact ha) (by rw [hT]; exact hb1)
          (fun _ h => by cases h) (fun _ h => by cases h) (fun h => by cases h) (fun h => by cases h) hk0 hk1 hkk0 hkk1 (by rfl) (by rw [← o32_0, o32_lt rs r32_0]; omega) (by rw [← o32_0, o32_lt rd r32_0]; omega) (by rw [← o32_0, o32_lt rn r32_0]; omega)
          (by rw [o32_t rs, o32_t rn]; show ¬ _ > ((arrV _ _ _).slots.size : Int); rw [arrV_size]; omega)
          (by rw [o32_t rd, o32_t rn]; show ¬ _ > ((arrV _ _ _).slots.size : Int); rw [arrV_size]; omega)
          (fun vm₁ _ i hi => by
            have e : (vp_cell (eA E 0) (a.2.1, .inl (fun j => Int32.ofInt (m.2 k j)))).slots.getD ((Int32.ofInt sp).toNatClampNeg + i) .null = .int (Int32.ofInt (m.2 k ((Int32.ofInt sp).toNatClampNeg + i))) := by
              show (arrV _ _ _).slots.getD _ _ = _
              rw [Array.getD_eq_getD_getElem?, arrV_read _ _ (by rw [es]; rw [en] at hi; omega)]
              rfl
            refine ⟨?_, ?_⟩
            · rw [e]; rfl
            · rw [e]; exact trivial)
          (g := F0 mi pc Ls (.int (Int32.ofInt n) :: .int (Int32.ofInt dp) :: .ref (gad E q) :: .int (Int32.ofInt sp) :: .ref (gad E k) :: st'.map (gcv E))) rfl (by rw [hml]; exact hsz) (rest := st'.map (gcv E)) rfl (by rw [hb]; exact hd) hf1 (by
            show 2 * 0 + _ + _ ≤ _
            rw [gsum hO]
            have : nativeFrameWords "java/lang/System" "arraycopy" 5 = 7 := by decide
            have hr2 : (st'.map gcat).sum ≤ 8 := hroom
            omega)
        have e1 : copied (vp_cell (eA E 0) (a.2.1, .inl (fun j => Int32.ofInt (m.2 k j)))) (vp_cell (eA E 0) (b.2.1, .inl (fun j => Int32.ofInt (m.2 q j)))) (Int32.ofInt sp) (Int32.ofInt dp) (Int32.ofInt n) = vp_cell (eA E 0) (b.2.1, .inl (va_cpy (fun j => Int32.ofInt (m.2 k j)) (fun j => Int32.ofInt (m.2 q j)) (Int32.ofInt sp).toNatClampNeg (Int32.ofInt dp).toNatClampNeg (Int32.ofInt n).toNatClampNeg)) := va_copied (fun z => Value.int z) (eA E 0) (eA E 0) (fun j => Int32.ofInt (m.2 k j)) (fun j => Int32.ofInt (m.2 q j)) (show (Int32.ofInt sp).toNatClampNeg + (Int32.ofInt n).toNatClampNeg ≤ a.2.1 by rw [es, en]; omega)
        rw [e1, es, ed, en] at X' step
        generalize hcell : vp_cell (eA E 0) (b.2.1, .inl (va_cpy (fun j => Int32.ofInt (m.2 k j)) (fun j => Int32.ofInt (m.2 q j)) sp.toNat dp.toNat n.toNat)) = cell at X' step
        have hl1 : gad E q < H.size := (Array.getElem?_eq_some_iff.mp hb1).1
        have hheap : ((T.setVm vm').setCell (gad E q) cell).heap = H.setIfInBounds (gad E q) cell := by rw [← hT]; rfl
        have oq : ∀ z : Nat, z ≠ gad E q → (H.setIfInBounds (gad E q) cell)[z]? = H[z]? := fun z hz => by simp [Array.getElem?_setIfInBounds, Ne.symm hz]
        have ez : (H.setIfInBounds (gad E q) cell)[gad E q]? = some cell := by simp [Array.getElem?_setIfInBounds, hl1]
        obtain ⟨t, a1, b1⟩ := kk _ _ Ls ⟨gHR_set hF.1 h27b hqb (q' := b) (set_self hqb) (fun k' j hne => by simp [gcpy, hne]) ⟨fun z => by omega, fun z => by
            rw [ez, ← hcell]
            rw [vp_cell_i]
            congr 2
            funext j
            unfold va_cpy gcpy
            by_cases hj : dp.toNat ≤ j ∧ j < dp.toNat + n.toNat
            · simp [hj]
            · rw [if_neg hj]
              dsimp only
              rw [if_neg (fun z => hj z.2)], fun z => by omega, fun z => by omega, fun z => by omega, hab.2.2.2.2.2⟩ (by simp) oq, ⟨by simp; exact hF.2.1.1, fun z g1 g2 => by
            rw [oq z (fun e => g2 (by rw [e]; exact gA_new h27b))]
            exact hF.2.1.2.1 z g1 g2, fun z hz => by
            rcases List.mem_append.mp hz with h | h
            · exact hF.2.1.2.2 z h
            · obtain ⟨y, -, hy⟩ := List.mem_map.mp h
              rw [← hy]
              exact gA_new h27b⟩, hF.2.2.1, hS1⟩ _ hheap X'
        exact ⟨t, step t a1, b1⟩
      · cases hst
    · cases hst
  · cases hst
theorem gs_objInit (cx : gCx p s mi args c E cc o) (hml : c.maxLocals = ls.length) {idx x k : Nat} {r : List gV} (hl : gfnd gOl o idx = some x) (hf1 : 1 ≤ R.frames) (hf2 : 60 ≤ R.locals) (hd : decode cc pc = .ok (.invokespecial idx, 3)) (hst : st = Sum.inr (Sum.inr (Sum.inl k)) :: r) (hfew : gfew r = true) (kk : gW p l e R s mi args below meth c Q E cells slots (pc + 3) ls r m) : gW p l e R s mi args below meth c Q E cells slots pc ls st m := by
  obtain ⟨hx, hb, hown, hts, hK⟩ := cx
  intro H locs Ls hF
  subst hst
  have w1 := gOl_ok _ (gfnd_mem _ _ _ _ hl)
  have hroom := gfew_le hfew
  refine W.objInit hx hb hown (hts _ w1) (hts _ go_1) (hts _ go_2) rfl (by rw [hml]; exact hF.2.2.1.1) rfl hd hf1 ?_ (kk H locs Ls ⟨hF.1, hF.2.1, hF.2.2.1, hF.2.2.2.1, vr_t hF.2.2.2.2.1, hF.2.2.2.2.2⟩)
  show 2 * 0 + ((r.map (gcv E)).map fun v => v.category).sum + 12 ≤ R.locals
  rw [gsum (gKO hK)]
  omega
theorem gs_alen (cx : gCx p s mi args c E cc o) {k : Nat} {q : gCell} {r : List gV} (hd : decode cc pc = .ok (.arraylength, 1)) (hst : st = Sum.inr (Sum.inr (Sum.inl k)) :: r) (hq : m.1[k]? = some q) (hc : q.1 = 100 ∨ q.1 = 21 ∨ q.1 = 22) (kk : gW p l e R s mi args below meth c Q E cells slots (pc + 1) ls (Sum.inl (w32 q.2.1) :: r) m) : gW p l e R s mi args below meth c Q E cells slots pc ls st m := by
  obtain ⟨hx, hb, hown, hts, hK⟩ := cx
  intro H locs Ls hF
  subst hst
  have kk2 := kk H locs Ls ⟨hF.1, hF.2.1, hF.2.2.1, hF.2.2.2.1, vr_c (w32_r _) (vr_t hF.2.2.2.2.1), hF.2.2.2.2.2⟩
  have hw : ∀ n : Nat, Int32.ofNat n = Int32.ofInt (w32 n) := fun n => by
    rw [o32_nat]
    exact o32_eq (by rw [o32_toInt, w32_w])
  rcases hc with h1 | h1 | h1
  · have h27 := old_not hF.1 hq (by omega)
    have ha := (hF.1.2.2.2.2 k q h27 hq).2.1 h1
    refine W.alen (n := Int32.ofInt (w32 q.2.1)) hx hb ha ((hK.1.2 0 _ rfl).1 _ _) ?_ rfl rfl hd kk2
    rw [arrV_size]
    exact hw _
  · have ho : k < 27 := by
      refine Nat.not_le.mp fun z => ?_
      have := (hF.1.2.2.2.2 k q z hq).2.2.2.2.2.1
      omega
    have hq2 := hq
    rw [hF.1.2.2.1 k ho] at hq2
    rcases gold_at hq2 with ⟨g1, rfl⟩ | ⟨g1, g2, rfl⟩ | ⟨g1, rfl⟩
    · simp at h1
    · obtain ⟨e1, e2, e3, e4⟩ := hK.2.2.2.2.1.1 (k - 13) (by omega)
      have hgad : gad E k = eV E (k - 13) := by
        unfold gad
        rw [if_neg (by omega), if_pos (by omega)]
      show W p l e R s mi args below meth c H locs cells slots Q (F0 mi pc Ls (.ref (gad E k) :: r.map (gcv E)))
      rw [hgad]
      refine va_tlen hx hb e4 hF.2.1 (hw _) hd ?_
      exact kk2
    · simp at h1
  · have ho : k < 27 := by
      refine Nat.not_le.mp fun z => ?_
      have := (hF.1.2.2.2.2 k q z hq).2.2.2.2.2.1
      omega
    have hq2 := hq
    rw [hF.1.2.2.1 k ho] at hq2
    rcases gold_at hq2 with ⟨g1, rfl⟩ | ⟨g1, g2, rfl⟩ | ⟨g1, rfl⟩
    · simp at h1
    · simp at h1
    · subst g1
      have hX := hK.2.2.2.2.2.2.2.2.2.1
      have hbB := hK.2.2.2.2.2.2.2.2.2.2.1
      have hBs := hK.2.2.2.2.2.2.2.2.2.2.2.2
      show W p l e R s mi args below meth c H locs cells slots Q (F0 mi pc Ls (.ref (eb E) :: r.map (gcv E)))
      refine va_slen hx hb hX (by omega) (fun z => by have : eB E ≤ eb E := z; omega) hF.2.1 hd ?_
      rw [hw]
      exact kk2
theorem gs_ldcS (cx : gCx p s mi args c E cc o) {idx k : Nat} (hl : gfnd gSl o idx = some k) (hd : decode cc pc = .ok (.ldc idx, 2)) (kk : gW p l e R s mi args below meth c Q E cells slots (pc + 2) ls (Sum.inr (Sum.inr (Sum.inl k)) :: st) m) : gW p l e R s mi args below meth c Q E cells slots pc ls st m := by
  obtain ⟨hx, hb, hown, hts, hK⟩ := cx
  intro H locs Ls hF
  have hmem := gfnd_mem _ _ _ _ hl
  have hfact : ∀ q ∈ gSl, q.1 = 8 ∧ q.2.2 < 13 ∧ (gStr[q.2.2]?).map (fun z => z.1) = some q.2.1 := by decide +kernel
  obtain ⟨f1, f2, f3⟩ := hfact _ hmem
  dsimp only at f1 f2 f3
  subst f1
  cases hs : gStr[k]? with
  | none => rw [hs] at f3; cases f3
  | some z =>
    rw [hs] at f3
    simp only [Option.map_some, Option.some.injEq] at f3
    have hR := hK.2.2.2.2.2.1 k z hs
    rw [f3] at hR
    have hgad : gad E k = eK E k := by simp [gad, f2]
    have kk2 := kk H locs Ls ⟨hF.1, hF.2.1, hF.2.2.1, hF.2.2.2.1, vr_c trivial hF.2.2.2.2.1, hF.2.2.2.2.2⟩
    refine va_ldcS hx hb hown hR hd ?_
    rw [← hgad]
    exact kk2
theorem gs_static0 (cx : gCx p s mi args c E cc o) {idx : Nat} (hl : gfnd gZl o idx = some 0) (hd : decode cc pc = .ok (.getstatic idx, 3)) (kk : gW p l e R s mi args below meth c Q E cells slots (pc + 3) ls (Sum.inl 1 :: st) m) : gW p l e R s mi args below meth c Q E cells slots pc ls st m := by
  obtain ⟨hx, hb, hown, hts, hK⟩ := cx
  intro H locs Ls hF
  have hfact : ∀ q ∈ gZl, (q.2.2 = 0 → q.1 = 14 ∧ q.2.1 = 38) ∧ (q.2.2 = 1 → q.1 = 14 ∧ q.2.1 = 1053) := by decide +kernel
  obtain ⟨f1, f2⟩ := (hfact _ (gfnd_mem _ _ _ _ hl)).1 rfl
  dsimp only at f1 f2
  subst f1; subst f2
  exact va_gets hx hb hK.2.2.2.2.2.2.1 hF.2.1 hown (hts _ gz_1) (fun _ z => z) hd (kk H locs Ls ⟨hF.1, hF.2.1, hF.2.2.1, hF.2.2.2.1, vr_c (by unfold gvr gr32; omega) hF.2.2.2.2.1, hF.2.2.2.2.2⟩)
theorem gs_static1 (cx : gCx p s mi args c E cc o) {idx : Nat} (hl : gfnd gZl o idx = some 1) (hd : decode cc pc = .ok (.getstatic idx, 3)) (kk : gW p l e R s mi args below meth c Q E cells slots (pc + 3) ls (Sum.inr (Sum.inr (Sum.inr 1)) :: st) m) : gW p l e R s mi args below meth c Q E cells slots pc ls st m := by
  obtain ⟨hx, hb, hown, hts, hK⟩ := cx
  intro H locs Ls hF
  have hfact : ∀ q ∈ gZl, (q.2.2 = 0 → q.1 = 14 ∧ q.2.1 = 38) ∧ (q.2.2 = 1 → q.1 = 14 ∧ q.2.1 = 1053) := by decide +kernel
  obtain ⟨f1, f2⟩ := (hfact _ (gfnd_mem _ _ _ _ hl)).2 rfl
  dsimp only at f1 f2
  subst f1; subst f2
  exact va_gets hx hb hK.2.2.2.2.2.2.2.1 hF.2.1 hown (hts _ gz_2) (fun _ z => z) hd (kk H locs Ls ⟨hF.1, hF.2.1, hF.2.2.1, hF.2.2.2.1, vr_c trivial hF.2.2.2.2.1, hF.2.2.2.2.2⟩)
theorem gs_max (cx : gCx p s mi args c E cc o) (hml : c.maxLocals = ls.length) {idx : Nat} (hl : gfnd gQl o idx = some 0) (hf1 : 1 ≤ R.frames) (hf2 : 60 ≤ R.locals) (hc : cells ≤ R.cells) (hs : slots ≤ R.slots) (hd : decode cc pc = .ok (.invokestatic idx, 3)) {a b : Int} {r : List gV} (hst : st = Sum.inl b :: Sum.inl a :: r) (hfew : gfew r = true) (kk : gW p l e R s mi args below meth c Q E cells slots (pc + 3) ls (Sum.inl (max a b) :: r) m) : gW p l e R s mi args below meth c Q E cells slots pc ls st m := by
  obtain ⟨hx, hb, hown, hts, hK⟩ := cx
  intro H locs Ls hF
  subst hst
  have rb : gr32 b := vr_h hF.2.2.2.2.1
  have ra : gr32 a := vr_h (vr_t hF.2.2.2.2.1)
  have w1 := (gQl_ok _ (gfnd_mem _ _ _ _ hl)).1
  have hroom := gfew_le hfew
  have kk2 := kk H locs Ls ⟨hF.1, hF.2.1, hF.2.2.1, hF.2.2.2.1, vr_c (max_r ra rb) (vr_t (vr_t hF.2.2.2.2.1)), hF.2.2.2.2.2⟩
  refine va_mmax hx hb (by rw [hml]; exact hF.2.2.1.1.symm) hown (hts _ w1) (hts _ gq_s0) (hts _ gq_i) (hts _ gq_c0) hf1 (by rw [gsum (gKO hK)]; omega) hc hs hd ?_
  rw [o32_max ra rb]
  exact kk2
theorem gs_min (cx : gCx p s mi args c E cc o) (hml : c.maxLocals = ls.length) {idx : Nat} (hl : gfnd gQl o idx = some 1) (hf1 : 1 ≤ R.frames) (hf2 : 60 ≤ R.locals) (hc : cells ≤ R.cells) (hs : slots ≤ R.slots) (hd : decode cc pc = .ok (.invokestatic idx, 3)) {a b : Int} {r : List gV} (hst : st = Sum.inl b :: Sum.inl a :: r) (hfew : gfew r = true) (kk : gW p l e R s mi args below meth c Q E cells slots (pc + 3) ls (Sum.inl (min a b) :: r) m) : gW p l e R s mi args below meth c Q E cells slots pc ls st m := by
  obtain ⟨hx, hb, hown, hts, hK⟩ := cx
  intro H locs Ls hF
  subst hst
  have rb : gr32 b := vr_h hF.2.2.2.2.1
  have ra : gr32 a := vr_h (vr_t hF.2.2.2.2.1)
  have w1 := (gQl_ok _ (gfnd_mem _ _ _ _ hl)).1
  have hroom := gfew_le hfew
  have kk2 := kk H locs Ls ⟨hF.1, hF.2.1, hF.2.2.1, hF.2.2.2.1, vr_c (min_r ra rb) (vr_t (vr_t hF.2.2.2.2.1)), hF.2.2.2.2.2⟩
  refine va_mmin hx hb (by rw [hml]; exact hF.2.2.1.1.symm) hown (hts _ w1) (hts _ gq_s1) (hts _ gq_i) (hts _ gq_c1) hf1 (by rw [gsum (gKO hK)]; omega) hc hs hd ?_
  rw [o32_min ra rb]
  exact kk2
theorem gs_lmin (cx : gCx p s mi args c E cc o) (hml : c.maxLocals = ls.length) {idx : Nat} (hl : gfnd gQl o idx = some 2) (hf1 : 1 ≤ R.frames) (hf2 : 60 ≤ R.locals) (hc : cells ≤ R.cells) (hs : slots ≤ R.slots) (hd : decode cc pc = .ok (.invokestatic idx, 3)) {a b : Int} {r : List gV} (hst : st = Sum.inr (Sum.inl b) :: Sum.inr (Sum.inl a) :: r) (hfew : gfew r = true) (kk : gW p l e R s mi args below meth c Q E cells slots (pc + 3) ls (Sum.inr (Sum.inl (min a b)) :: r) m) : gW p l e R s mi args below meth c Q E cells slots pc ls st m := by
  obtain ⟨hx, hb, hown, hts, hK⟩ := cx
  intro H locs Ls hF
  subst hst
  have rb : gr64 b := vr_h hF.2.2.2.2.1
  have ra : gr64 a := vr_h (vr_t hF.2.2.2.2.1)
  have w1 := (gQl_ok _ (gfnd_mem _ _ _ _ hl)).1
  have hroom := gfew_le hfew
  have kk2 := kk H locs Ls ⟨hF.1, hF.2.1, hF.2.2.1, hF.2.2.2.1, vr_c (min_r64 ra rb) (vr_t (vr_t hF.2.2.2.2.1)), hF.2.2.2.2.2⟩
  refine va_mmin_long hx hb (by rw [hml]; exact hF.2.2.1.1.symm) hown (hts _ w1) (hts _ gq_s2) (hts _ gq_i) (hts _ gq_c2) hf1 (by rw [gsum (gKO hK)]; omega) hc hs hd ?_
  rw [o64_min ra rb]
  exact kk2
end GLib
