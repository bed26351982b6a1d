/-! How the small machine's state stands for the machine's: cells k at addresses gad E k. -/
abbrev gE : Type := (Nat → Nat) × ((Nat → Nat) × (Nat × (Nat × (Value × ((Nat → ClassId) × ((Nat → Nat → Nat) × ((Nat → ClassId) × (Nat × (Nat → Int32)))))))))
def eK (E : gE) : Nat → Nat := E.1
def eV (E : gE) : Nat → Nat := E.2.1
def eb (E : gE) : Nat := E.2.2.1
def eB (E : gE) : Nat := E.2.2.2.1
def eO (E : gE) : Value := E.2.2.2.2.1
def eC (E : gE) : Nat → ClassId := E.2.2.2.2.2.1
def eI (E : gE) : Nat → Nat → Nat := E.2.2.2.2.2.2.1
def eA (E : gE) : Nat → ClassId := E.2.2.2.2.2.2.2.1
def eL (E : gE) : Nat := E.2.2.2.2.2.2.2.2.1
def eX (E : gE) : Nat → Int32 := E.2.2.2.2.2.2.2.2.2
def gad (E : gE) (k : Nat) : Nat := if k < 13 then eK E k else if k < 26 then eV E (k - 13) else if k = 26 then eb E else eB E + (k - 27)
def gcv (E : gE) : gV → Value
  | Sum.inl x => .int (Int32.ofInt x)
  | Sum.inr (Sum.inl x) => .long (Int64.ofInt x)
  | Sum.inr (Sum.inr (Sum.inl k)) => .ref (gad E k)
  | Sum.inr (Sum.inr (Sum.inr _)) => eO E
def gA (E : gE) : Nat → Prop := fun q => eB E ≤ q
def gsort (ci j : Nat) : Nat := match gTT ci j with
  | .int => 0
  | .boolean => 1
  | _ => 2
def gTx : List String := ["wind", "speed", "mend", "tell", "pm", "wg", "sfk", "ox", "|", "&", "<=>", "+-", "*/"]
def gLen : List Nat := [4, 5, 4, 4, 2, 2, 3, 2, 1, 1, 3, 2, 2]
def gByt : List (List Int32) := [[119, 105, 110, 100], [115, 112, 101, 101, 100], [109, 101, 110, 100], [116, 101, 108, 108], [112, 109], [119, 103], [115, 102, 107], [111, 120], [124], [38], [60, 61, 62], [43, 45], [42, 47]]
/-- the cells that are there at the start: 13 texts, their bytes, the script -/
def gold (L : Nat) : List gCell := (List.range 13).map (fun i => (20, 2, [some (13 + i), none])) ++ ((List.range 13).map (fun i => (21, gLen.getD i 0, [])) ++ [(22, L, [])])
def grow (E : gE) (k j : Nat) : Int := if k < 13 then 0 else if k < 26 then ((gByt.getD (k - 13) []).getD j 0).toInt else if j < eL E then (eX E j).toInt else 0
def gvr : gV → Prop
  | Sum.inl x => gr32 x
  | Sum.inr (Sum.inl x) => gr64 x
  | _ => True
/-- what the tables and the old cells say: the same for every method -/
def gKK (E : gE) (U : State) : Prop :=
  va_K (eC E, eI E) gCl [(eA E 0, .int), (eA E 1, .boolean), (eA E 2, .object "GaleBridge$Part"), (eA E 3, .array .int)] U ∧
  (∀ w ∈ gnest, va_Nw w U) ∧ va_AO "GaleBridge$Part" U ∧ va_Nw (.arrayOver (.array .int)) U ∧
  vk_S 13 gLen gByt (eK E) (eV E) (gA E) U U.heap ∧ (∀ (i : Nat) (q : Nat × String), gStr[i]? = some q → vk_R "GaleBridge$Tape" q.1 q.2 (eK E i) U) ∧
  va_Z "java/lang/String" "COMPACT_STRINGS" "Z" (.int 1) (gA E) U U.heap ∧ va_Z "jdk/internal/util/Preconditions" "SIOOBE_FORMATTER" "Ljava/util/function/BiFunction;" (eO E) (gA E) U U.heap ∧ (eO E = .null ∨ ∃ a, eO E = .ref a) ∧
  va_X (eb E) (eL E) (eX E) U U.heap ∧ eb E < eB E ∧ eL E ≤ 384 ∧ eB E ≤ U.heap.size
/-- a field's value -/
def gfv (E : gE) (q : gCell) (row : Nat → Int) (j : Nat) : Value := if gsort q.1 j = 2 then va_rf ((q.2.2.getD j none).map (gad E)) else .int (Int32.ofInt (row j))
def gat (E : gE) (k : Nat) (q : gCell) (row : Nat → Int) (H : Heap) : Prop :=
  (q.1 < 13 → q.2.1 = gfields q.1 ∧ q.2.2.length = gfields q.1 ∧ t_OB (gad E k) (eC E q.1) (gfields q.1) (eI E q.1) H (gfv E q row)) ∧
  (q.1 = 100 → H[gad E k]? = some (arrV (eA E 0) q.2.1 (fun j => .int (Int32.ofInt (row j))))) ∧
  (q.1 = 101 → H[gad E k]? = some (arrV (eA E 1) q.2.1 (fun j => .int (Int32.ofInt (row j))))) ∧
  (q.1 = 102 → H[gad E k]? = some (arrV (eA E 2) q.2.1 (fun j => va_rf ((q.2.2.getD j none).map (gad E))))) ∧
  (q.1 = 103 → H[gad E k]? = some (arrV (eA E 3) q.2.1 (fun j => va_rf ((q.2.2.getD j none).map (gad E))))) ∧ (q.1 < 13 ∨ q.1 = 100 ∨ q.1 = 101 ∨ q.1 = 102 ∨ q.1 = 103) ∧ q.2.1 < 2147483648
def gHR (E : gE) (m : gMem) (H : Heap) : Prop :=
  H.size + 27 = eB E + m.1.length ∧ 27 ≤ m.1.length ∧ (∀ k, k < 27 → m.1[k]? = (gold (eL E))[k]?) ∧ (∀ k j, k < 27 → m.2 k j = grow E k j) ∧ ∀ k q, 27 ≤ k → m.1[k]? = some q → gat E k q (m.2 k) H
def gLs (E : gE) (ls : List gV) (Ls : Array Slot) : Prop := Ls.size = ls.length ∧ lv_wf Ls ∧ ∀ (i : Nat) (v : gV), ls[i]? = some v → v ≠ vU → Ls[i]? = some (.val (gcv E v))
/-- all numbers are within their ranges -/
def gSt (ls st : List gV) (m : gMem) : Prop := (∀ v ∈ ls, gvr v) ∧ (∀ v ∈ st, gvr v) ∧ ∀ k j, gr32 (m.2 k j)
theorem gcv_cat {E : gE} (hO : eO E = .null ∨ ∃ a, eO E = .ref a) (v : gV) : (gcv E v).category = gcat v := by
  rcases v with x | x | k | k
  · rfl
  · rfl
  · rfl
  · show (eO E).category = 1
    rcases hO with h | ⟨a, h⟩ <;> rw [h] <;> rfl
/-- the locals, as a list of known ones -/
def glv (E : gE) (ls : List gV) : List (Nat × Value) := (List.range ls.length).filterMap (fun i => match ls[i]? with
  | some v => if v = vU then none else some (i, gcv E v)
  | none => none)
theorem glv_in {E : gE} {ls : List gV} {i : Nat} {v : gV} (h : ls[i]? = some v) (hv : v ≠ vU) : (i, gcv E v) ∈ glv E ls := by
  refine List.mem_filterMap.mpr ⟨i, List.mem_range.mpr (List.getElem?_eq_some_iff.mp h).1, ?_⟩
  simp only [h, if_neg hv]
theorem glv_has {E : gE} {ls : List gV} {Ls : Array Slot} (h : gLs E ls Ls) : lv_has Ls ls.length (glv E ls) := by
  refine ⟨h.1, h.2.1, fun q hq => ?_⟩
  obtain ⟨i, -, hi⟩ := List.mem_filterMap.mp hq
  cases hv : ls[i]? with
  | none => simp only [hv] at hi; cases hi
  | some v =>
    simp only [hv] at hi
    by_cases hu : v = vU
    · simp only [if_pos hu] at hi; cases hi
    · simp only [if_neg hu] at hi
      cases hi
      exact h.2.2 i v hv hu
theorem gclr_len (ls : List gV) (i : Nat) : (gclr ls i).length = ls.length := by
  cases i with
  | zero => rfl
  | succ j =>
    simp only [gclr]
    split <;> simp
theorem gset_len (ls : List gV) (i : Nat) (v : gV) : (gset ls i v).length = ls.length := by simp [gset, gclr_len]
theorem gset2_len (ls : List gV) (i : Nat) (v : gV) : (gset2 ls i v).length = ls.length := by simp [gset2, gclr_len]
theorem gclr_at {ls : List gV} {i j : Nat} {w : gV} (h : (gclr ls i)[j]? = some w) (hw : w ≠ vU) : ls[j]? = some w ∧ ¬ (j + 1 = i ∧ gcat w = 2) := by
  cases i with
  | zero => exact ⟨h, fun q => by omega⟩
  | succ k =>
    simp only [gclr] at h
    by_cases hj : k = j
    · subst hj
      split at h
      · next x hx =>
        have hl := (List.getElem?_eq_some_iff.mp hx).1
        rw [List.getElem?_set_self hl] at h
        cases h
        exact absurd rfl hw
      · next hn =>
        refine ⟨h, fun q => ?_⟩
        rcases w with x | x | x | x
        · simp [gcat] at q
        · exact hn x h
        · simp [gcat] at q
        · simp [gcat] at q
    · refine ⟨?_, fun q => hj (by omega)⟩
      split at h
      · rw [List.getElem?_set_ne hj] at h
        exact h
      · exact h
theorem gset_to {E : gE} {ls : List gV} {i : Nat} {v : gV} {Ls' : Array Slot} (hO : eO E = .null ∨ ∃ a, eO E = .ref a) (hi : i < ls.length) (h : lv_has Ls' ls.length ((i, gcv E v) :: (glv E ls).filter (fun q => !(q.1 == i) && !(q.1 + 1 == i && q.2.category == 2)))) : gLs E (gset ls i v) Ls' := by
  refine ⟨by rw [gset_len]; exact h.1, h.2.1, fun j w hw hu => ?_⟩
  unfold gset at hw
  by_cases hj : i = j
  · subst hj
    rw [List.getElem?_set_self (by rw [gclr_len]; exact hi)] at hw
    cases hw
    exact h.2.2 (i, gcv E v) List.mem_cons_self
  · rw [List.getElem?_set_ne hj] at hw
    obtain ⟨h1, h2⟩ := gclr_at hw hu
    refine h.2.2 (j, gcv E w) (List.mem_cons_of_mem _ (List.mem_filter.mpr ⟨glv_in h1 hu, ?_⟩))
    simp only [Bool.and_eq_true, Bool.not_eq_true', beq_eq_false_iff_ne, ne_eq, Bool.and_eq_false_iff, gcv_cat hO]
    refine ⟨fun q => hj q.symm, ?_⟩
    by_cases hq : j + 1 = i
    · exact Or.inr (fun q => h2 ⟨hq, q⟩)
    · exact Or.inl hq
theorem gset2_to {E : gE} {ls : List gV} {i : Nat} {v : gV} {Ls' : Array Slot} (hO : eO E = .null ∨ ∃ a, eO E = .ref a) (hi : i + 1 < ls.length) (h : lv_has Ls' ls.length ((i, gcv E v) :: (glv E ls).filter (fun q => !(q.1 == i) && (!(q.1 == i + 1) && !(q.1 + 1 == i && q.2.category == 2))))) : gLs E (gset2 ls i v) Ls' := by
  refine ⟨by rw [gset2_len]; exact h.1, h.2.1, fun j w hw hu => ?_⟩
  unfold gset2 at hw
  by_cases hj1 : i + 1 = j
  · subst hj1
    rw [List.getElem?_set_self (by rw [List.length_set, gclr_len]; exact hi)] at hw
    cases hw
    exact absurd rfl hu
  · rw [List.getElem?_set_ne hj1] at hw
    by_cases hj : i = j
    · subst hj
      rw [List.getElem?_set_self (by rw [gclr_len]; omega)] at hw
      cases hw
      exact h.2.2 (i, gcv E v) List.mem_cons_self
    · rw [List.getElem?_set_ne hj] at hw
      obtain ⟨h1, h2⟩ := gclr_at hw hu
      refine h.2.2 (j, gcv E w) (List.mem_cons_of_mem _ (List.mem_filter.mpr ⟨glv_in h1 hu, ?_⟩))
      simp only [Bool.and_eq_true, Bool.not_eq_true', beq_eq_false_iff_ne, ne_eq, Bool.and_eq_false_iff, gcv_cat hO]
      refine ⟨fun q => hj q.symm, fun q => hj1 q.symm, ?_⟩
      by_cases hq : j + 1 = i
      · exact Or.inr (fun q => h2 ⟨hq, q⟩)
      · exact Or.inl hq
theorem mem_set_of {α : Type} {P : α → Prop} {l : List α} {i : Nat} {v : α} (h : ∀ x ∈ l, P x) (hv : P v) : ∀ x ∈ l.set i v, P x := fun x hx => by
  rcases List.mem_or_eq_of_mem_set hx with q | q
  · exact h x q
  · rw [q]; exact hv
theorem gclr_vr {ls : List gV} {i : Nat} (h : ∀ x ∈ ls, gvr x) : ∀ x ∈ gclr ls i, gvr x := by
  cases i with
  | zero => exact h
  | succ j =>
    simp only [gclr]
    split
    · exact mem_set_of h trivial
    · exact h
theorem gset_vr {ls : List gV} {i : Nat} {v : gV} (h : ∀ x ∈ ls, gvr x) (hv : gvr v) : ∀ x ∈ gset ls i v, gvr x := mem_set_of (gclr_vr h) hv
theorem gset2_vr {ls : List gV} {i : Nat} {v : gV} (h : ∀ x ∈ ls, gvr x) (hv : gvr v) : ∀ x ∈ gset2 ls i v, gvr x := mem_set_of (mem_set_of (gclr_vr h) hv) trivial
/-! entering a method -/
theorem gflat_cv {E : gE} (hO : eO E = .null ∨ ∃ a, eO E = .ref a) : ∀ (as : List gV), (lg_sl (as.map (gcv E))).length = (gflat as).length ∧ ∀ (i : Nat) (v : gV), (gflat as)[i]? = some v → v ≠ vU → (lg_sl (as.map (gcv E)))[i]? = some (.val (gcv E v))
  | [] => ⟨rfl, fun i v h => by simp [gflat] at h⟩
  | v :: t => by
    obtain ⟨ih1, ih2⟩ := gflat_cv hO t
    have hc := gcv_cat hO v
    have e : lg_sl ((v :: t).map (gcv E)) = (if (gcv E v).category = 2 then [.val (gcv E v), .second] else [.val (gcv E v)]) ++ lg_sl (t.map (gcv E)) := by
      simp [lg_sl]
    rw [e, hc]
    rcases v with x | x | x | x
    · refine ⟨by simp [gcat, gflat, ih1], fun i w h hw => ?_⟩
      cases i with
      | zero => simp [gflat] at h; subst h; simp [gcat]
      | succ i => simp [gflat] at h; simp [gcat]; exact ih2 i w h hw
    · refine ⟨by simp [gcat, gflat, ih1], fun i w h hw => ?_⟩
      cases i with
      | zero => simp [gflat] at h; subst h; simp [gcat]
      | succ i =>
        cases i with
        | zero => simp [gflat] at h; exact absurd h.symm hw
        | succ i => simp [gflat] at h; simp [gcat]; exact ih2 i w h hw
    · refine ⟨by simp [gcat, gflat, ih1], fun i w h hw => ?_⟩
      cases i with
      | zero => simp [gflat] at h; subst h; simp [gcat]
      | succ i => simp [gflat] at h; simp [gcat]; exact ih2 i w h hw
    · refine ⟨by simp [gcat, gflat, ih1], fun i w h hw => ?_⟩
      cases i with
      | zero => simp [gflat] at h; subst h; simp [gcat]
      | succ i => simp [gflat] at h; simp [gcat]; exact ih2 i w h hw
theorem gentry_len {maxL : Nat} {as : List gV} (h : (gflat as).length ≤ maxL) : (gentry maxL as).length = maxL := by simp [gentry]; omega
theorem gentry_ls {E : gE} (hO : eO E = .null ∨ ∃ a, eO E = .ref a) {maxL : Nat} {as : List gV} (h : (gflat as).length ≤ maxL) : gLs E (gentry maxL as) ((lg_sl (as.map (gcv E)) ++ List.replicate (maxL - (lg_sl (as.map (gcv E))).length) Slot.unset).toArray) := by
  obtain ⟨h1, h2⟩ := gflat_cv hO as
  have hl := lv_entry (as.map (gcv E)) (n := maxL) (by rw [h1]; exact h)
  refine ⟨by rw [gentry_len h]; exact hl.1, hl.2.1, fun i v hv hu => ?_⟩
  unfold gentry at hv
  by_cases hi : i < (gflat as).length
  · rw [List.getElem?_append_left hi] at hv
    have h3 := h2 i v hv hu
    rw [List.getElem?_toArray, List.getElem?_append_left (by rw [h1]; exact hi)]
    exact h3
  · rw [List.getElem?_append_right (by omega)] at hv
    have := List.mem_of_getElem? hv
    rw [List.mem_replicate] at this
    exact absurd this.2 hu
theorem gflat_vr : ∀ {as : List gV}, (∀ v ∈ as, gvr v) → ∀ v ∈ gflat as, gvr v
  | [], _, v, h => by simp [gflat] at h
  | a :: t, ha, v, h => by
    have ih := gflat_vr (as := t) (fun v hv => ha v (List.mem_cons_of_mem _ hv))
    have h0 := ha a List.mem_cons_self
    rcases a with x | x | x | x
    · simp [gflat] at h
      rcases h with rfl | h
      · exact h0
      · exact ih v h
    · simp [gflat] at h
      rcases h with rfl | rfl | h
      · exact h0
      · trivial
      · exact ih v h
    · simp [gflat] at h
      rcases h with rfl | h
      · exact h0
      · exact ih v h
    · simp [gflat] at h
      rcases h with rfl | h
      · exact h0
      · exact ih v h
theorem gentry_vr {maxL : Nat} {as : List gV} (h : ∀ v ∈ as, gvr v) : ∀ v ∈ gentry maxL as, gvr v := fun v hv => by
  rcases List.mem_append.mp hv with q | q
  · exact gflat_vr h v q
  · rw [(List.mem_replicate.mp q).2]; trivial
