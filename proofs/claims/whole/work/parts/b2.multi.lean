/-! multianewarray, of two dimensions, of ints: the machine's step, out of its own text: an outer array of null, then row by row a new one and its place. -/
def gmO (cA : ClassId) (N h i : Nat) : Cell := arrV cA N (fun j => if j < i then .ref (h + 1 + j) else .null)
def gmI (cC : ClassId) (M : Nat) : Cell := arrV cC M (fun _ => .int 0)
/-- behind i rows -/
def gmS (cA cC : ClassId) (N M : Nat) (T : State) : Nat → State
  | 0 => T.pushCell (gmO cA N T.heap.size 0)
  | i + 1 => ((gmS cA cC N M T i).pushCell (gmI cC M)).setCell T.heap.size (gmO cA N T.heap.size (i + 1))
theorem gmO_size {cA : ClassId} {N h i : Nat} : (gmO cA N h i).slots.size = N := by simp [gmO, arrV]
theorem gmI_size {cC : ClassId} {M : Nat} : (gmI cC M).slots.size = M := by simp [gmI, arrV]
theorem gmO_next {cA : ClassId} {N a i : Nat} (h : i < N) : (gmO cA N a i).setSlot i (.ref (a + 1 + i)) = gmO cA N a (i + 1) := by
  have e : (Array.ofFn (n := N) fun j => if j.val < i then Value.ref (a + 1 + j.val) else .null).setIfInBounds i (.ref (a + 1 + i)) = Array.ofFn (n := N) fun j => if j.val < i + 1 then Value.ref (a + 1 + j.val) else .null := by
    apply Array.ext
    · simp
    · intro j h1 h2
      have hN : j < N := by simpa using h2
      rw [Array.getElem_setIfInBounds (by simpa using hN)]
      simp only [Array.getElem_ofFn]
      by_cases hj : i = j
      · subst hj
        simp
      · rw [if_neg hj]
        by_cases hl : j < i
        · have hl1 : j < i + 1 := by omega
          simp only [hl, hl1, if_true]
        · have hl1 : ¬ j < i + 1 := by omega
          simp only [hl, hl1, if_false]
  show ({ (gmO cA N a i) with slots := _ } : Cell) = _
  unfold gmO arrV
  dsimp only
  rw [e]
theorem gmS_facts (cA cC : ClassId) (N M : Nat) (T : State) : ∀ i, (gmS cA cC N M T i).heap.size = T.heap.size + 1 + i ∧ (gmS cA cC N M T i).heap[T.heap.size]? = some (gmO cA N T.heap.size i) ∧ (gmS cA cC N M T i).vm = T.vm ∧ (gmS cA cC N M T i).slotsUsed = T.slotsUsed + N + i * M ∧
    (∀ a, a < T.heap.size → (gmS cA cC N M T i).heap[a]? = T.heap[a]?) ∧ ∀ j, j < i → (gmS cA cC N M T i).heap[T.heap.size + 1 + j]? = some (gmI cC M)
  | 0 => ⟨by simp [gmS], by simp [gmS], rfl, by simp [gmS, gmO_size], fun a ha => State.heap_pushCell_of_lt _ _ ha, fun j hj => absurd hj (Nat.not_lt_zero _)⟩
  | i + 1 => by
    obtain ⟨h1, h2, h3, h4, h5, h6⟩ := gmS_facts cA cC N M T i
    have hl : T.heap.size < (gmS cA cC N M T i).heap.size := by omega
    have hb : ((gmS cA cC N M T i).pushCell (gmI cC M)).heap[T.heap.size]? = some (gmO cA N T.heap.size i) := (State.heap_pushCell_of_lt _ _ hl).trans h2
    refine ⟨?_, State.heap_setCell_self hb, by simp [gmS, h3], ?_, fun a ha => ?_, fun j hj => ?_⟩
    · simp [gmS, State.setCell, h1]; omega
    · simp [gmS, h4, gmI_size, Nat.succ_mul]; omega
    · show (((gmS cA cC N M T i).pushCell (gmI cC M)).setCell T.heap.size _).heap[a]? = _
      have ha2 : a < (gmS cA cC N M T i).heap.size := by omega
      rw [State.heap_setCell_other (Nat.ne_of_gt ha), State.heap_pushCell_of_lt _ _ ha2]
      exact h5 a ha
    · show (((gmS cA cC N M T i).pushCell (gmI cC M)).setCell T.heap.size _).heap[T.heap.size + 1 + j]? = _
      rw [State.heap_setCell_other (show T.heap.size ≠ T.heap.size + 1 + j by omega)]
      by_cases e : j = i
      · subst e
        rw [← h1]
        exact State.heap_pushCell_size _ _
      · have hj2 : T.heap.size + 1 + j < (gmS cA cC N M T i).heap.size := by omega
        rw [State.heap_pushCell_of_lt _ _ hj2]
        exact h6 j (by omega)
theorem gmS_top (cA cC : ClassId) (N M : Nat) (T : State) (f : JFrame) : ∀ i, gmS cA cC N M (T.setTop f) i = (gmS cA cC N M T i).setTop f
  | 0 => rfl
  | i + 1 => by simp only [gmS, gmS_top cA cC N M T f i, State.heap_setTop, State.pushCell_setTop, State.setCell_setTop]
section GMulti
variable {p : Program} {l : Launch} {e : Env} {R : Room} {s : State} {mi : MethodId} {args : Array Value} {below : List Frame} {meth : Method} {c : Code} {T : State} {locs : List Loc} {cells slots : Nat}
theorem gmS_stand (X : Stand p l e R s mi args below meth c T locs cells slots) (cA cC : ClassId) (N M : Nat) : ∀ i, i ≤ N → Stand p l e R s mi args below meth c (gmS cA cC N M T i) locs (cells + 1 + i) (slots + N + i * M)
  | 0, _ => by
    have h := X.pushed (gmO cA N T.heap.size 0)
    rw [gmO_size] at h
    rw [Nat.zero_mul]
    exact h
  | i + 1, hi => by
    obtain ⟨h1, h2, -⟩ := gmS_facts cA cC N M T i
    have Xi := (gmS_stand X cA cC N M i (by omega)).pushed (gmI cC M)
    rw [gmI_size] at Xi
    have hb : ((gmS cA cC N M T i).pushCell (gmI cC M)).heap[T.heap.size]? = some (gmO cA N T.heap.size i) := (State.heap_pushCell_of_lt _ _ (show T.heap.size < (gmS cA cC N M T i).heap.size by omega)).trans h2
    have Y := Xi.stored hb i (.ref (T.heap.size + 1 + i))
    rw [gmO_next (by omega)] at Y
    have Z := Stand.forget (locs := locs) Y (fun y hy => by
      rcases List.mem_singleton.mp hy with rfl
      exact X.heapGrown)
    rw [Nat.succ_mul, ← Nat.add_assoc (slots + N)]
    exact Z
end GMulti
section GMake
variable {E : CtlPost} {e : Env} {d : Bool} {acts : List Action} {s : State}
theorem gm_new {c comp : ClassId} {k : Class} {ty : FieldType} {n : Nat} {v : Value} {Q : Addr → Pre} (hk : s.vm.classes[c]? = some k) (hkd : k.kind = .array comp ty) (l1 : ¬ n > e.platform.arrayLengthLimit) (l2 : ¬ n * componentBytes ty > e.platform.maxHeapBytes) (hf : fits ty v = true) (hv : v.isDefault = true) (r1 : s.heap.size < e.platform.maxCells) (r2 : s.slotsUsed + n ≤ e.platform.maxSlots)
    (kk : Q s.heap.size d acts (s.pushCell (arrV c n (fun _ => v)))) : wp (Jvm.newArray c n v) Q E e d acts s := by
  rw [← arrV_new] at kk
  have hfit : ∀ i w, (Array.replicate n v)[i]? = some w → s.fitsSlot c .none i w = true := by
    intro i w hw
    rw [Array.getElem?_replicate] at hw
    split at hw
    · cases hw
      simp [State.fitsSlot, State.slotType?, hk, hkd, hf]
    · cases hw
  have hact : allocActs (Array.replicate n v) s.heap.size acts = acts := by
    unfold allocActs
    have : (Array.replicate n v).all (fun x => x.isDefault) = true := by rw [Array.all_replicate]; split <;> simp [hv]
    rw [if_pos this]
  simp only [Jvm.newArray, Jvm.arrayFits, wp_bind', W.ask, W.ite, l1, if_false, wp_pure', W.theClass, hk, hkd, l2, W.alloc, W.stop, Option.some.injEq, exists_eq_left', Array.size_replicate, hact]
  rw [if_neg (by omega)]
  exact ⟨r1, r2, hfit, kk⟩
theorem gm_row {cC cI : ClassId} {k : Class} {y : Int32} {Q : Addr → Pre} (hk : s.vm.classes[cC]? = some k) (hkd : k.kind = .array cI .int) (hy : ¬ y < 0) (l1 : ¬ y.toNatClampNeg > e.platform.arrayLengthLimit) (l2 : ¬ y.toNatClampNeg * 4 > e.platform.maxHeapBytes) (r1 : s.heap.size < e.platform.maxCells) (r2 : s.slotsUsed + y.toNatClampNeg ≤ e.platform.maxSlots)
    (kk : Q s.heap.size d acts (s.pushCell (gmI cC y.toNatClampNeg))) : wp (multianewarray.make cC [y]) Q E e d acts s := by
  rw [multianewarray.make]
  simp only [wp_bind', W.ite, hy, if_false, wp_pure', W.theClass, hk, hkd, Option.some.injEq, exists_eq_left']
  exact gm_new hk hkd l1 l2 rfl rfl r1 r2 kk
set_option maxHeartbeats 1000000 in
theorem gm_grid {cA cC cI : ClassId} {kA kC : Class} {x y : Int32} {Q : Addr → Pre} (hkA : s.vm.classes[cA]? = some kA) (hkdA : kA.kind = .array cC (.array .int)) (hkC : s.vm.classes[cC]? = some kC) (hkdC : kC.kind = .array cI .int) (hx : ¬ x < 0) (hy : ¬ y < 0)
    (l1 : ¬ x.toNatClampNeg > e.platform.arrayLengthLimit) (l2 : ¬ x.toNatClampNeg * 4 > e.platform.maxHeapBytes) (l3 : ¬ y.toNatClampNeg > e.platform.arrayLengthLimit) (l4 : ¬ y.toNatClampNeg * 4 > e.platform.maxHeapBytes)
    (r1 : s.heap.size + (1 + x.toNatClampNeg) ≤ e.platform.maxCells) (r2 : s.slotsUsed + (x.toNatClampNeg + x.toNatClampNeg * y.toNatClampNeg) ≤ e.platform.maxSlots)
    (kk : ∀ d' acts', Q s.heap.size d' acts' (gmS cA cC x.toNatClampNeg y.toNatClampNeg s x.toNatClampNeg)) : wp (multianewarray.make cA [x, y]) Q E e d acts s := by
  obtain ⟨N, hN⟩ : ∃ N, x.toNatClampNeg = N := ⟨_, rfl⟩
  obtain ⟨M, hM⟩ : ∃ M, y.toNatClampNeg = M := ⟨_, rfl⟩
  have hnone : ([y].find? (fun z => decide (z < 0))) = none := by simp [hy]
  rw [multianewarray.make]
  simp only [wp_bind', W.ite, hx, if_false, wp_pure', W.theClass, hkA, hkdA, Option.some.injEq, exists_eq_left']
  refine gm_new hkA hkdA l1 l2 rfl rfl (by omega) (by omega) ?_
  simp only [hnone]
  rw [ite_self, wp_bind', Std.Legacy.Range.forIn_eq_forIn_range']
  have hsz : ([:x.toNatClampNeg] : Std.Legacy.Range).size = x.toNatClampNeg := by simp [Std.Legacy.Range.size]
  rw [hsz]
  rw [hN] at r1 r2 kk ⊢
  rw [hM] at r2 kk
  have start : s.pushCell (arrV cA N (fun _ => .null)) = gmS cA cC N M s 0 := by simp [gmS, gmO]
  rw [start]
  show wp (forIn (List.range' 0 N 1) PUnit.unit _) _ E e d acts _
  refine wp_forIn_inv (fun rest u => ∃ i, i + rest.length = N ∧ rest = List.range' i rest.length ∧ u = gmS cA cC N M s i) _ _ ⟨0, by simp, by simp, rfl⟩ ?_ ?_
  · rintro z rest u d' acts' Q' ⟨i, hi, hl, rfl⟩ hnext
    rw [List.length_cons] at hi hl
    rw [List.range'_succ] at hl
    obtain ⟨rfl, hrest⟩ := List.cons.inj hl
    obtain ⟨h1, h2, h3, h4, -⟩ := gmS_facts cA cC N M s z
    have hmul : z * M + M ≤ N * M := by
      have := Nat.mul_le_mul_right M (show z + 1 ≤ N by omega)
      rw [Nat.succ_mul] at this
      exact this
    have hb : ((gmS cA cC N M s z).pushCell (gmI cC M)).heap[s.heap.size]? = some (gmO cA N s.heap.size z) := (State.heap_pushCell_of_lt _ _ (show s.heap.size < (gmS cA cC N M s z).heap.size by omega)).trans h2
    simp only [wp_bind']
    refine gm_row (by rw [h3]; exact hkC) hkdC hy l3 l4 (by omega) (by rw [hM]; omega) ?_
    rw [hM]
    simp only [wp_bind', W.writeLoc, wp_pure']
    refine ⟨gmO cA N s.heap.size z, hb, by simp [gmO, arrV], by rw [gmO_size]; omega, ?_, hnext _ _ _ ⟨z + 1, by omega, hrest, ?_⟩⟩
    · have e1 : (gmO cA N s.heap.size z).cls = cA := rfl
      have e2 : (gmO cA N s.heap.size z).vm = .none := rfl
      rw [e1, e2]
      simp [State.fitsSlot, State.slotType?, h3, hkA, hkdA, fits]
    · rw [h1, gmO_next (by omega)]
      rfl
  · rintro u d' acts' ⟨i, hi, -, rfl⟩
    have : i = N := by simpa using hi
    subst this
    simp only [wp_pure']
    exact kk _ _
end GMake
section GMRun
variable {p : Program} {l : Launch} {e : Env} {R : Room} {s : State} {mi : MethodId} {args : Array Value} {below : List Frame} {meth : Method} {c : Code} {T : State} {locs : List Loc} {cells slots : Nat}
set_option maxHeartbeats 2000000 in
/-- the machine's step -/
theorem gm_run (X : Stand p l e R s mi args below meth c T locs cells slots) (hexec : p.tables.exec = Jvm.exec) {own : String} {idx : Nat} (hown : s.vm.findClass own = some mi.cls) (hlink : (Cond.classLink own idx "[[I").before args s = true)
    {cA cC cI : ClassId} {kA kC : Class} (f1 : s.vm.findClass "[[I" = some cA) (f2 : s.vm.classes[cA]? = some kA) (f3 : kA.kind = .array cC (.array .int)) (f4 : s.vm.classes[cC]? = some kC) (f5 : kC.kind = .array cI .int)
    {g : JFrame} (hg : g.method = mi) (hd : decode c.code g.pc = .ok (.multianewarray idx 2, 4)) {x y : Int32} {rest : List Value} (hst : g.stack = .int y :: .int x :: rest) (hx : ¬ x < 0) (hy : ¬ y < 0) {N M : Nat} (hN : x.toNatClampNeg = N) (hM : y.toNatClampNeg = M) (bN : N < 1000) (bM : M < 1000)
    (hc : cells + (1 + N) ≤ R.cells) (hs : slots + (N + N * M) ≤ R.slots) :
    ∃ vm₁ : Vm, s.WarmedH vm₁ ∧ ∀ target, Steps p.tables e below ((gmS cA cC N M (T.setVm vm₁) N).setTop { g with pc := g.pc + 4, stack := .ref T.heap.size :: rest }) target → Steps p.tables e below (T.setTop g) target := by
  subst hg
  have hpl : e.platform.magicAccessors = ({} : Platform).magicAccessors := by rw [X.admits.platform]
  obtain ⟨c0, hc0, hlk⟩ := Cond.classLink_spec hown hlink e.platform hpl
  cases f1.symm.trans hc0
  obtain ⟨q1, q2, -⟩ := State.classEntry (e := e) X.warmed hlk
  generalize T.vm.noted g.method.cls idx (.cls cA) = vm₁ at q1 q2
  obtain ⟨kA', gA1, gA2⟩ := q2.alike.2.2 _ _ f2
  obtain ⟨kC', gC1, gC2⟩ := q2.alike.2.2 _ _ f4
  have hA : kA'.kind = .array cC (.array .int) := by rw [gA2]; exact f3
  have hC : kC'.kind = .array cI .int := by rw [gC2]; exact f5
  obtain ⟨r1, r2⟩ := X.roomAbove hc hs
  have L1 := Launch.admits_arrayLengthLimit X.admits
  have L2 := Launch.admits_maxHeapBytes X.admits
  have Y := gmS_stand (X.noted q2) cA cC N M N (Nat.le_refl _)
  refine ⟨vm₁, q2, fun target hrest => ?_⟩
  jvm_step X.here [hexec, hd]
  simp only [multianewarray.sem, wp_bind', W.resolveClassAt_links (State.method?_setTop g X.here.top) q1]
  rw [W.popN, if_neg (by decide)]
  refine ⟨g, State.topJava?_setTop' (s := T.setVm vm₁) g X.here.top, [.int x, .int y], rest, rfl, hst, ?_⟩
  simp only [List.mapM_cons, List.mapM_nil, wp_bind', wp_pure']
  refine gm_grid (kA := kA') (kC := kC') (cC := cC) (cI := cI) gA1 hA gC1 hC hx hy (by rw [hN, L1]; omega) (by rw [hN, L2]; omega) (by rw [hM, L1]; omega) (by rw [hM, L2]; omega) (by rw [hN]; exact r1) (by rw [hN, hM]; exact r2) (fun d' acts' => ?_)
  rw [hN, hM]
  have eS : ((T.setTop g).setVm vm₁).setTop { g with stack := rest } = (T.setVm vm₁).setTop { g with stack := rest } := by
    show ((T.setVm vm₁).setTop g).setTop _ = _
    rw [State.setTop_setTop]
  rw [eS, gmS_top]
  simp only [wp_bind', W.mark, W.pushRef, State.topJava?_setTop' _ Y.here.top, Option.some.injEq, exists_eq_left', State.setTop_setTop, State.heap_setTop]
  intro acts
  simp [jvm, Y.here.top]
  exact hrest
end GMRun
set_option maxHeartbeats 2000000 in
theorem gMul : gMultiLaw := by
  intro p l e R s mi args below meth c Q E cc o cells slots pc idx x ls st r m a b cx hx hd hst a0 a1 b0 b1 hc hs kk
  obtain ⟨hexec, hb, hown, hts, hK⟩ := cx
  subst hst
  intro H locs Ls hF T hT X
  have hlink : (Cond.classLink (gCN o) idx "[[I").before args s = true := hts _ (gXl_ok _ (gfnd_mem _ _ _ _ hx))
  obtain ⟨cA, kA, cC, e0, e1, e2, e3⟩ := gb_over (args := #[]) hK.2.2.2.1
  obtain ⟨c0, kC, cI, y1, y2, y3⟩ := Cond.arrayClass_spec (args := args) (first := s) (o := none) (s := s) (idx := []) (hts _ ga_I)
  rw [show "[" ++ FieldType.int.toString = "[I" by decide +kernel] at y1
  cases e0.symm.trans y1
  have hA3 : cA = eA E 3 := by
    have h := (hK.1.2 3 _ rfl).2
    have h2 : s.vm.findClass ("[" ++ (FieldType.array .int).toString) = some (eA E 3) := h
    rw [show "[" ++ (FieldType.array .int).toString = "[[I" by decide +kernel] at h2
    exact Option.some.inj (e1.symm.trans h2)
  have hA0 : cC = eA E 0 := by
    have h := (hK.1.2 0 _ rfl).2
    have h2 : s.vm.findClass ("[" ++ FieldType.int.toString) = some (eA E 0) := h
    rw [show "[" ++ FieldType.int.toString = "[I" by decide +kernel] at h2
    exact Option.some.inj (e0.symm.trans h2)
  have hbr : gr32 b := vr_h hF.2.2.2.2.1
  have har : gr32 a := vr_h (vr_t hF.2.2.2.2.1)
  have ca := o32_clamp har
  have cb := o32_clamp hbr
  have na : ¬ Int32.ofInt a < 0 := by rw [← o32_0, o32_lt har r32_0]; omega
  have nb : ¬ Int32.ofInt b < 0 := by rw [← o32_0, o32_lt hbr r32_0]; omega
  obtain ⟨N, hN⟩ : ∃ N, a.toNat = N := ⟨_, rfl⟩
  obtain ⟨M, hM⟩ : ∃ M, b.toNat = M := ⟨_, rfl⟩
  rw [hN] at ca hc hs kk
  rw [hM] at cb hs kk
  obtain ⟨vm₁, w1, step⟩ := gm_run X hexec hown hlink e1 e2 e3 y2 y3 (g := F0 mi pc Ls ((Sum.inl b :: Sum.inl a :: r).map (gcv E))) rfl (by rw [hb]; exact hd) (x := Int32.ofInt a) (y := Int32.ofInt b) (rest := r.map (gcv E)) rfl na nb ca cb (by omega) (by omega) hc hs
  have Y := gmS_stand (X.noted w1) cA cC N M N (Nat.le_refl _)
  obtain ⟨h1, h2, -, -, h5, h6⟩ := gmS_facts cA cC N M (T.setVm vm₁) N
  have hsz : (T.setVm vm₁).heap.size = H.size := by rw [← hT]; rfl
  rw [hsz] at h1 h2 h5 h6
  have ho : ∀ q, q < H.size → (gmS cA cC N M (T.setVm vm₁) N).heap[q]? = H[q]? := fun q hq => by
    rw [h5 q hq, ← hT]
    rfl
  have hend := gad_end hF.1 0
  rw [Nat.add_zero, Nat.add_zero] at hend
  have kk2 := kk (gmS cA cC N M (T.setVm vm₁) N).heap locs Ls ⟨gHR_push hF.1 rfl (fun k j hk => gzer_lt hk) (by rw [h1]; simp; omega) ho (fun i q hq => ?_), va_S_push hF.2.1 (by omega) ho, hF.2.2.1, hF.2.2.2.1, vr_c trivial (vr_t (vr_t hF.2.2.2.2.1)), gzer_r hF.2.2.2.2.2⟩
  · have ev : (gcv E (Sum.inr (Sum.inr (Sum.inl m.1.length)))) = .ref T.heap.size := by rw [hT, ← hend]; rfl
    have Y2 : Stand p l e R s mi args below meth c (gmS cA cC N M (T.setVm vm₁) N) locs (cells + (1 + N)) (slots + (N + N * M)) := by
      rw [← Nat.add_assoc, ← Nat.add_assoc]
      exact Y
    obtain ⟨t, t1, t2⟩ := kk2 _ rfl Y2
    refine ⟨t, step t ?_, t2⟩
    rw [← ev]
    exact t1
  · dsimp only
    rw [gzer_ge (show m.1.length ≤ m.1.length + i by omega)]
    rw [List.getElem?_cons] at hq
    split at hq
    · next hi =>
      subst hi
      cases hq
      refine ⟨fun z => by dsimp only at z; omega, fun z => by dsimp only at z; omega, fun z => by dsimp only at z; omega, fun z => by dsimp only at z; omega, fun z => ?_, by simp, by dsimp only; omega⟩
      rw [Nat.add_zero, hend, h2, hA3]
      congr 1
      unfold gmO arrV
      congr 1
      apply congrArg
      funext j
      have hj := j.isLt
      dsimp only
      rw [if_pos hj]
      rw [List.getD_eq_getElem?_getD, List.getElem?_map, List.getElem?_range hj]
      show Value.ref (H.size + 1 + j.val) = Value.ref (gad E (m.1.length + 1 + j.val))
      rw [show m.1.length + 1 + j.val = m.1.length + (1 + j.val) by omega, gad_end hF.1, Nat.add_assoc]
    · next hi =>
      rw [List.getElem?_replicate] at hq
      split at hq
      · next hl =>
        cases hq
        refine ⟨fun z => by dsimp only at z; omega, fun z => ?_, fun z => by dsimp only at z; omega, fun z => by dsimp only at z; omega, fun z => by dsimp only at z; omega, by simp, by dsimp only; omega⟩
        rw [gad_end hF.1, show H.size + i = H.size + 1 + (i - 1) by omega, h6 (i - 1) hl, hA0]
        rfl
      · cases hq
