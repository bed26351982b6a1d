/-! What the tables and the start say (gKK), out of what holds at the law's entry. -/
def gTm (i : Nat) : Term := Term.string "GaleBridge$Tape" (73 + 2 * i)
def gNar : List Cond := flatC (Jvm.Cond.and given_1 narrow_1)
def gTv (i : Nat) : Term := Term.field (gTm i) "java/lang/String" "value" "[B"
set_option maxRecDepth 100000 in
theorem gb_ex : ∀ i, i < 13 → Cond.exactly (gTm i) "java/lang/String" ∈ gNar := by decide +kernel
set_option maxRecDepth 100000 in
theorem gb_co : ∀ i, i < 13 → Cond.eq (.field (gTm i) "java/lang/String" "coder" "B") (.int 0) ∈ gNar := by decide +kernel
set_option maxRecDepth 100000 in
theorem gb_ar : ∀ i, i < 13 → Cond.arrayOf (gTv i) .byte ∈ gNar := by decide +kernel
set_option maxRecDepth 100000 in
theorem gb_le : ∀ i, i < 13 → Cond.eq (.length (gTv i)) (.int (Int32.ofNat (gLen.getD i 0))) ∈ gNar := by decide +kernel
set_option maxRecDepth 100000 in
theorem gb_el : ∀ i, i < 13 → ∀ j, j < gLen.getD i 0 → Cond.eq (.elem (gTv i) (.int (Int32.ofNat j))) (.int ((gByt.getD i []).getD j 0)) ∈ gNar := by decide +kernel
set_option maxRecDepth 100000 in
theorem gb_ne : ∀ i, i < 13 → ∀ j, j < i → Cond.not (Cond.eq (gTm j) (gTm i)) ∈ gNar := by decide +kernel
set_option maxRecDepth 100000 in
theorem gb_z1 : Cond.eq (.static "java/lang/String" "COMPACT_STRINGS" "Z") (.int 1) ∈ gNar := by decide +kernel
set_option maxRecDepth 100000 in
theorem gb_z2 : Cond.isRef (.static "jdk/internal/util/Preconditions" "SIOOBE_FORMATTER" "Ljava/util/function/BiFunction;") ∈ gNar := by decide +kernel
set_option maxRecDepth 100000 in
theorem gb_l1 : Cond.laysStatic "java/lang/String" "COMPACT_STRINGS" "Z" ∈ lw_tbl := by decide +kernel
set_option maxRecDepth 100000 in
theorem gb_l2 : Cond.laysStatic "jdk/internal/util/Preconditions" "SIOOBE_FORMATTER" "Ljava/util/function/BiFunction;" ∈ lw_tbl := by decide +kernel
set_option maxRecDepth 100000 in
theorem gb_i1 : Cond.initialized "java/lang/String" ∈ lw_tbl := by decide +kernel
set_option maxRecDepth 100000 in
theorem gb_i2 : Cond.initialized "jdk/internal/util/Preconditions" ∈ lw_tbl := by decide +kernel
set_option maxRecDepth 100000 in
theorem gb_o1 : Cond.arrayOver (.object "GaleBridge$Part") ∈ lw_tbl := by decide +kernel
set_option maxRecDepth 100000 in
theorem gb_o2 : Cond.arrayOver (.array .int) ∈ lw_tbl := by decide +kernel
set_option maxRecDepth 100000 in
theorem gb_str : ∀ i, i < 13 → Cond.stringRef "GaleBridge$Tape" (73 + 2 * i) (gTx.getD i "") ∈ lw_tbl := by decide +kernel
set_option maxRecDepth 100000 in
theorem gb_ins : ∀ i, i < 13 → Cond.instantiable (gCN i) (gfields i) ∈ lw_tbl := by decide +kernel
theorem gb_nest {w : Cond} (h : w ∈ gnest) : w ∈ lw_tbl ∧ w.onTables = true := by
  obtain ⟨h1, h2⟩ := List.mem_filter.mp h
  refine ⟨h1, ?_⟩
  unfold gisnest at h2
  split at h2 <;> first | rfl | (cases h2; done)
theorem gb_str2 : ∀ i q, gStr[i]? = some q → i < 13 ∧ q = (73 + 2 * i, gTx.getD i "") := by
  intro i q h
  have hl : i < 13 := (List.getElem?_eq_some_iff.mp h).1
  refine ⟨hl, ?_⟩
  have := (by decide +kernel : ∀ i, i < 13 → gStr[i]? = some (73 + 2 * i, gTx.getD i ""))
  rw [this i hl] at h
  exact (Option.some.inj h).symm
/-- an array class of arrays of int, by its name -/
theorem gb_over {args : Array Value} {s : State} (h : (Cond.arrayOver (.array .int)).before args s = true) : ∃ cA k comp, s.vm.findClass "[I" = some comp ∧ s.vm.findClass "[[I" = some cA ∧ s.vm.classes[cA]? = some k ∧ k.kind = .array comp (.array .int) := by
  simp only [Cond.before, Cond.holds, Cond.value, beq_iff_eq] at h
  have e1 : (FieldType.array .int).toString = "[I" := by decide +kernel
  have e2 : "[" ++ (FieldType.array .int).toString = "[[I" := by decide +kernel
  rw [e1] at h
  rw [show "[" ++ "[I" = "[[I" by decide +kernel] at h
  cases hc : s.vm.findClass "[I" with
  | none => simp [hc] at h
  | some comp =>
    simp only [hc, Option.bind_some, Option.bind_eq_some_iff, Option.map_eq_some_iff] at h
    obtain ⟨c, hi, k, hk, hb⟩ := h
    obtain ⟨hlt, hp, -⟩ := Array.findIdx?_eq_some_iff_getElem.mp hi
    have hkk : s.vm.classes[c] = k := (Array.getElem?_eq_some_iff.mp hk).2
    rw [hkk] at hp
    cases hkind : k.kind with
    | array component ty =>
      rw [hkind] at hb hp
      simp at hb hp
      exact ⟨c, k, comp, rfl, hb.2, hk, by rw [hkind, hp, hb.1]⟩
    | _ => rw [hkind] at hb; simp at hb
theorem gb_arr {s : State} {cA : ClassId} {k : Class} {comp : ClassId} {ty : FieldType} (h2 : s.vm.classes[cA]? = some k) (h3 : k.kind = .array comp ty) : ArrOfT s cA ty := fun n z => ⟨fun k h => (by cases h), k, h2, comp, h3⟩
theorem gb_ref {args : Array Value} {s : State} {t : Term} (h : (Cond.isRef t).before args s = true) : ∃ v, t.eval args s none [] s = some v ∧ (v = .null ∨ ∃ a, v = .ref a) := by
  cases hv : t.eval args s none [] s with
  | none => simp [Cond.before, Cond.holds, Cond.value, hv] at h
  | some v =>
    refine ⟨v, rfl, ?_⟩
    simp only [Cond.before, Cond.holds, Cond.value, hv] at h
    cases v <;> simp_all
theorem gb_KK {p : Program} {s : State} {m : MethodId} {meth : Method} {c : Code} {b L : Nat} {xs : Nat → Int32} (hL : L ≤ 384) (C0 : lw_At p s m meth c b L xs) : ∃ E : gE, gKK E s ∧ eB E = s.heap.size ∧ eb E = b ∧ eL E = L ∧ eX E = xs := by
  obtain ⟨hx, hb, hr, hml, hown, hts, hX, hbl, hlocks, hgv⟩ := C0
  have hfl : ∀ w ∈ gNar, w.before #[Value.ref b] s = true := flat_of_before _ hgv
  have htg : ∀ w ∈ gtbl, w.before #[Value.ref b] s = true := fun w hw => hts w (List.mem_filter.mp hw).1
  have hA : ∀ a : Nat, a < s.heap.size → ¬ (fun q : Nat => s.heap.size ≤ q) a := fun a ha h => absurd ha (Nat.not_lt.mpr h)
  obtain ⟨cs, hcs⟩ : ∃ cs : Nat → ClassId × (Nat → Nat), ∀ i, i < 13 → u_Kn s (gCN i) (gFT i) (gfields i) (cs i).1 (cs i).2 := by
    have h0 : ∀ i : Nat, ∃ q : ClassId × (Nat → Nat), i < 13 → u_Kn s (gCN i) (gFT i) (gfields i) q.1 q.2 := by
      intro i
      by_cases hi : i < 13
      · obtain ⟨c0, i0, h⟩ := u_known (C := gCN i) (T := gFT i) (N := gfields i) (n := gfields i) htg (gin_at i hi) (hts _ (gb_ins i hi))
        exact ⟨(c0, i0), fun _ => h⟩
      · exact ⟨(0, fun _ => 0), fun h => absurd h hi⟩
    exact Classical.axiomOfChoice h0
  obtain ⟨a0, k0, p0, x1, x2, x3⟩ := Cond.arrayClass_spec (args := #[Value.ref b]) (first := s) (o := none) (s := s) (idx := []) (htg _ ga_I)
  obtain ⟨a1, k1, p1, y1, y2, y3⟩ := Cond.arrayClass_spec (args := #[Value.ref b]) (first := s) (o := none) (s := s) (idx := []) (htg _ ga_Z)
  obtain ⟨p2, a2, k2, z0, -, z2, z3, z1⟩ := Cond.arrayOver_spec (args := #[Value.ref b]) (first := s) (o := none) (s := s) (idx := []) (hts _ gb_o1)
  obtain ⟨a3, k3, p3, -, t1, t2, t3⟩ := gb_over (hts _ gb_o2)
  obtain ⟨adK, adV, hS, hev⟩ := vk_Sof (args := #[Value.ref b]) (s := s) (N := 13) (tm := gTm) (len := gLen) (byt := gByt) (A := fun q : Nat => s.heap.size ≤ q) (by decide) (fun i hi => hfl _ (gb_ex i hi)) (fun i hi => hfl _ (gb_co i hi)) (fun i hi => hfl _ (gb_ar i hi)) (fun i hi => hfl _ (gb_le i hi)) (fun i hi j hj => hfl _ (gb_el i hi j hj))
    (fun i j hi hj hij => by
      rcases Nat.lt_or_ge i j with h | h
      · exact Or.inl (hfl _ (gb_ne j hj i h))
      · exact Or.inr (hfl _ (gb_ne i hi j (by omega)))) hA
  obtain ⟨v, hv, hvr⟩ := gb_ref (hfl _ gb_z2)
  refine ⟨(adK, adV, b, s.heap.size, v, fun i => (cs i).1, fun i => (cs i).2, fun i => if i = 0 then a0 else if i = 1 then a1 else if i = 2 then a2 else a3, L, xs), ?_, rfl, rfl, rfl, rfl⟩
  refine ⟨⟨fun i q hq => ?_, fun k q hk => ?_⟩, fun w hw => va_Nw.of (gb_nest hw).2 (hts w (gb_nest hw).1), va_AO.of (hts _ gb_o1), (show va_Nw (.arrayOver (.array .int)) s from hts _ gb_o2), hS, fun i q hq => ?_, va_Zof (hts _ gb_l1) (hts _ gb_i1) (va_eqi (hfl _ gb_z1)) hA, va_Zof (hts _ gb_l2) (hts _ gb_i2) hv hA, hvr, hX, hbl, hL, Nat.le_refl _⟩
  · have hl : i < 13 := (List.getElem?_eq_some_iff.mp hq).1
    rw [gcl_at i hl] at hq
    cases hq
    exact hcs i hl
  · match k, hk with
    | 0, hk => cases hk; exact ⟨gb_arr x2 x3, x1⟩
    | 1, hk => cases hk; exact ⟨gb_arr y2 y3, y1⟩
    | 2, hk => cases hk; exact ⟨gb_arr z2 z3, k2, p2, z2, z3, z0, z1⟩
    | 3, hk =>
      cases hk
      refine ⟨gb_arr t2 t3, ?_⟩
      show s.vm.findClass ("[" ++ (FieldType.array .int).toString) = some a3
      rw [show "[" ++ (FieldType.array .int).toString = "[[I" by decide +kernel]
      exact t1
    | k + 4, hk => simp at hk
  · obtain ⟨hi, rfl⟩ := gb_str2 i q hq
    exact vk_R.of (hts _ (gb_str i hi)) (hev i hi)
