/-! Every instruction but calls and returns: one step of the small machine is one of the machine's. -/
def gMultiLaw : Prop := ∀ {p : Program} {l : Launch} {e : Env} {R : Room} {s : State} {mi : MethodId} {args : Array Value} {below : List Frame} {meth : Method} {c : Code} {Q : State → Prop} {E : gE} {cc : ByteArray} {o cells slots pc idx x : Nat} {ls st r : List gV} {m : gMem} {a b : Int}, gCx p s mi args c E cc o → gfnd gXl o idx = some x → decode cc pc = .ok (.multianewarray idx 2, 4) → st = Sum.inl b :: Sum.inl a :: r → 0 ≤ a → a < 1000 → 0 ≤ b → b < 1000 → cells + (1 + a.toNat) ≤ R.cells → slots + (a.toNat + a.toNat * b.toNat) ≤ R.slots →
  gW p l e R s mi args below meth c Q E (cells + (1 + a.toNat)) (slots + (a.toNat + a.toNat * b.toNat)) (pc + 4) ls (Sum.inr (Sum.inr (Sum.inl m.1.length)) :: r) (m.1 ++ (103, a.toNat, (List.range a.toNat).map (fun i => some (m.1.length + 1 + i))) :: List.replicate a.toNat (100, b.toNat, []), gzer m.2 m.1.length) → gW p l e R s mi args below meth c Q E cells slots pc ls st m
theorem gnorm_opr {o pc rt : Nat} {ini : Bool} {raw op : Instr} (h : gnorm o pc rt ini raw = some op) : gopr op := by
  unfold gnorm at h
  split at h
  all_goals first
    | (cases h; exact trivial)
    | skip
  all_goals first
    | (split at h <;> first | (cases h; done) | (cases h; exact trivial))
    | skip
  · split at h
    · next hq => cases h; unfold gopr gr32; omega
    · cases h
  · split at h
    · next hq => cases h; unfold gopr gr32; omega
    · cases h
  · split at h
    · next hq => cases h; unfold gopr gr32; omega
    · cases h
  · next n => cases h; have := n.isLt; unfold gopr gr64; omega
  · split at h
    · next x hx => cases h; exact (gKl_ok _ (gfnd_mem _ _ _ _ hx)).1
    · next hx =>
      cases hs : gfnd gSl o _ with
      | none => rw [hs] at h; cases h
      | some k => rw [hs] at h; cases h; exact trivial
  · next i =>
    cases hs : gfnd gKl o i with
    | none => rw [hs] at h; cases h
    | some k => rw [hs] at h; cases h; exact (gKl_ok _ (gfnd_mem _ _ _ _ hs)).1
  · next i =>
    cases hs : gfnd gJl o i with
    | none => rw [hs] at h; cases h
    | some k => rw [hs] at h; cases h; exact gr64_of (gJl_ok _ (gfnd_mem _ _ _ _ hs)).1
  all_goals first
    | (obtain ⟨a, -, rfl⟩ := Option.map_eq_some_iff.mp h; exact trivial)
    | ((repeat' split at h) <;> first | (cases h; done) | (cases h; exact trivial) | (cases h; unfold gopr gr32; omega))

section GStep
variable {p : Program} {l : Launch} {e : Env} {R : Room} {s : State} {mi : MethodId} {args : Array Value} {below : List Frame} {meth : Method} {c : Code} {Q : State → Prop} {E : gE} {cc : ByteArray} {o cells slots pc pc' : Nat} {ls st ls' st' : List gV} {m m' : gMem}
/-- nothing but the stack and the place change -/
theorem gs_p (hS : gSt ls st m → gSt ls st' m) (row : ∀ (H : Heap) (locs : List Loc) (Ls : Array Slot), gFr E s m H locs ls Ls st → W p l e R s mi args below meth c H locs cells slots Q (F0 mi pc' Ls (st'.map (gcv E))) → W p l e R s mi args below meth c H locs cells slots Q (F0 mi pc Ls (st.map (gcv E))))
    (kk : gW p l e R s mi args below meth c Q E cells slots pc' ls st' m) : gW p l e R s mi args below meth c Q E cells slots pc ls st m := fun H locs Ls hF => row H locs Ls hF (kk H locs Ls ⟨hF.1, hF.2.1, hF.2.2.1, hS hF.2.2.2⟩)
theorem gs_bin {f : Int → Int → Int} {nx : Nat} (hf : ∀ a b, gr32 a → gr32 b → gr32 (f a b)) (row : ∀ (a b : Int), gr32 a → gr32 b → ∀ (H : Heap) (locs : List Loc) (Ls : Array Slot) (rest : List Value), W p l e R s mi args below meth c H locs cells slots Q (F0 mi nx Ls (.int (Int32.ofInt (f a b)) :: rest)) → W p l e R s mi args below meth c H locs cells slots Q (F0 mi pc Ls (.int (Int32.ofInt b) :: .int (Int32.ofInt a) :: rest)))
    (hst : gbin f nx ls st m = some (pc', ls', st', m')) (kk : gW p l e R s mi args below meth c Q E cells slots pc' ls' st' m') : m' = m ∧ gW p l e R s mi args below meth c Q E cells slots pc ls st m := by
  have hst0 := hst
  unfold gbin at hst
  split at hst
  · cases hst
    refine ⟨rfl, gs_p (fun h => gbin_st hf h hst0) (fun H locs Ls hF k => ?_) kk⟩
    exact row _ _ (vr_h (vr_t hF.2.2.2.2.1)) (vr_h hF.2.2.2.2.1) H locs Ls _ k
  · cases hst
theorem gs_binL {f : Int → Int → Int} {nx : Nat} (hf : ∀ a b, gr64 a → gr64 b → gr64 (f a b)) (row : ∀ (a b : Int), gr64 a → gr64 b → ∀ (H : Heap) (locs : List Loc) (Ls : Array Slot) (rest : List Value), W p l e R s mi args below meth c H locs cells slots Q (F0 mi nx Ls (.long (Int64.ofInt (f a b)) :: rest)) → W p l e R s mi args below meth c H locs cells slots Q (F0 mi pc Ls (.long (Int64.ofInt b) :: .long (Int64.ofInt a) :: rest)))
    (hst : gbinL f nx ls st m = some (pc', ls', st', m')) (kk : gW p l e R s mi args below meth c Q E cells slots pc' ls' st' m') : m' = m ∧ gW p l e R s mi args below meth c Q E cells slots pc ls st m := by
  have hst0 := hst
  unfold gbinL at hst
  split at hst
  · cases hst
    refine ⟨rfl, gs_p (fun h => gbinL_st hf h hst0) (fun H locs Ls hF k => ?_) kk⟩
    exact row _ _ (vr_h (vr_t hF.2.2.2.2.1)) (vr_h hF.2.2.2.2.1) H locs Ls _ k
  · cases hst
theorem gs_if (cx : gCx p s mi args c E cc o) {cd : ClassFile.Cond} {t : Int} {a : Int} {r : List gV} (hd : decode cc pc = .ok (.ifCond cd t, 3)) (h0 : 0 ≤ (pc : Int) + t) (hst : st = Sum.inl a :: r) (kk : gW p l e R s mi args below meth c Q E cells slots (if gcmp cd a 0 then ((pc : Int) + t).toNat else pc + 3) ls r m) : gW p l e R s mi args below meth c Q E cells slots pc ls st m := by
  obtain ⟨hx, hb, -⟩ := cx
  subst hst
  have ht : (pc : Int) + t = ((((pc : Int) + t).toNat : Nat) : Int) := (Int.toNat_of_nonneg h0).symm
  intro H locs Ls hF
  have ra : gr32 a := vr_h hF.2.2.2.2.1
  have k2 := kk H locs Ls ⟨hF.1, hF.2.1, hF.2.2.1, hF.2.2.2.1, vr_t hF.2.2.2.2.1, hF.2.2.2.2.2⟩
  have q1 := o32_inj ra r32_0
  have q2 := o32_lt ra r32_0
  have q3 := o32_le ra r32_0
  have q4 := o32_lt r32_0 ra
  have q5 := o32_le r32_0 ra
  rw [o32_0] at q1 q2 q3 q4 q5
  cases cd
  · refine lv_if_eq hx hb hd ht (fun z => ?_) (fun z => ?_)
    · rw [if_pos (by simp [gcmp]; exact q1.mp z)] at k2; exact k2
    · rw [if_neg (by simp [gcmp]; exact fun y => z (q1.mpr y))] at k2; exact k2
  · refine lv_if_ne hx hb hd ht (fun z => ?_) (fun z => ?_)
    · rw [if_pos (by simp [gcmp]; exact fun y => z (q1.mpr y))] at k2; exact k2
    · rw [if_neg (by simp [gcmp]; exact q1.mp z)] at k2; exact k2
  · refine lv_if_lt hx hb hd ht (fun z => ?_) (fun z => ?_)
    · rw [if_pos (by simp [gcmp]; exact q2.mp z)] at k2; exact k2
    · rw [if_neg (by simp [gcmp]; have := mt q2.mpr z; omega)] at k2; exact k2
  · refine lv_if_ge hx hb hd ht (fun z => ?_) (fun z => ?_)
    · rw [if_pos (by simp [gcmp]; exact q5.mp z)] at k2; exact k2
    · rw [if_neg (by simp [gcmp]; have := mt q5.mpr z; omega)] at k2; exact k2
  · refine lv_if_gt hx hb hd ht (fun z => ?_) (fun z => ?_)
    · rw [if_pos (by simp [gcmp]; exact q4.mp z)] at k2; exact k2
    · rw [if_neg (by simp [gcmp]; have := mt q4.mpr z; omega)] at k2; exact k2
  · refine lv_if_le hx hb hd ht (fun z => ?_) (fun z => ?_)
    · rw [if_pos (by simp [gcmp]; exact q3.mp z)] at k2; exact k2
    · rw [if_neg (by simp [gcmp]; have := mt q3.mpr z; omega)] at k2; exact k2
theorem gs_icmp (cx : gCx p s mi args c E cc o) {cd : ClassFile.Cond} {t : Int} {a b : Int} {r : List gV} (hd : decode cc pc = .ok (.if_icmp cd t, 3)) (h0 : 0 ≤ (pc : Int) + t) (hst : st = Sum.inl b :: Sum.inl a :: r) (kk : gW p l e R s mi args below meth c Q E cells slots (if gcmp cd a b then ((pc : Int) + t).toNat else pc + 3) ls r m) : gW p l e R s mi args below meth c Q E cells slots pc ls st m := by
  obtain ⟨hx, hb, -⟩ := cx
  subst hst
  have ht : (pc : Int) + t = ((((pc : Int) + t).toNat : Nat) : Int) := (Int.toNat_of_nonneg h0).symm
  intro H locs Ls hF
  have rb : gr32 b := vr_h hF.2.2.2.2.1
  have ra : gr32 a := vr_h (vr_t hF.2.2.2.2.1)
  have k2 := kk H locs Ls ⟨hF.1, hF.2.1, hF.2.2.1, hF.2.2.2.1, vr_t (vr_t hF.2.2.2.2.1), hF.2.2.2.2.2⟩
  have q1 := o32_inj ra rb
  have q2 := o32_lt ra rb
  have q3 := o32_le ra rb
  have q4 := o32_lt rb ra
  have q5 := o32_le rb ra
  cases cd
  · refine lv_icmp_eq hx hb hd ht (fun z => ?_) (fun z => ?_)
    · rw [if_pos (by simp [gcmp]; exact q1.mp z)] at k2; exact k2
    · rw [if_neg (by simp [gcmp]; exact fun y => z (q1.mpr y))] at k2; exact k2
  · refine lv_icmp_ne hx hb hd ht (fun z => ?_) (fun z => ?_)
    · rw [if_pos (by simp [gcmp]; exact fun y => z (q1.mpr y))] at k2; exact k2
    · rw [if_neg (by simp [gcmp]; exact q1.mp z)] at k2; exact k2
  · refine lv_icmp_lt hx hb hd ht (fun z => ?_) (fun z => ?_)
    · rw [if_pos (by simp [gcmp]; exact q2.mp z)] at k2; exact k2
    · rw [if_neg (by simp [gcmp]; have := mt q2.mpr z; omega)] at k2; exact k2
  · refine lv_icmp_ge hx hb hd ht (fun z => ?_) (fun z => ?_)
    · rw [if_pos (by simp [gcmp]; exact q5.mp z)] at k2; exact k2
    · rw [if_neg (by simp [gcmp]; have := mt q5.mpr z; omega)] at k2; exact k2
  · refine lv_icmp_gt hx hb hd ht (fun z => ?_) (fun z => ?_)
    · rw [if_pos (by simp [gcmp]; exact q4.mp z)] at k2; exact k2
    · rw [if_neg (by simp [gcmp]; have := mt q4.mpr z; omega)] at k2; exact k2
  · refine lv_icmp_le hx hb hd ht (fun z => ?_) (fun z => ?_)
    · rw [if_pos (by simp [gcmp]; exact q3.mp z)] at k2; exact k2
    · rw [if_neg (by simp [gcmp]; have := mt q3.mpr z; omega)] at k2; exact k2
theorem glook_off : ∀ (l : List (Int × Int)) (d x : Int) (pc : Int), glook (l.map (fun q => (q.1, pc + q.2))) (pc + d) x = pc + Op.lookupswitch.offset l d x
  | [], d, x, pc => rfl
  | (a, b) :: t, d, x, pc => by
    simp only [List.map_cons, glook]
    rw [Op.lookupswitch.offset_cons]
    by_cases h : x = a
    · rw [if_pos h, if_pos (by first | exact h | exact h.symm)]
    · rw [if_neg h, if_neg (by first | exact h | exact fun q => h q.symm), glook_off t d x pc]
theorem glook_in : ∀ (l : List (Int × Int)) (d x : Int), Op.lookupswitch.offset l d x = d ∨ ∃ q ∈ l, Op.lookupswitch.offset l d x = q.2
  | [], d, x => Or.inl rfl
  | (a, b) :: t, d, x => by
    rw [Op.lookupswitch.offset_cons]
    split
    · exact Or.inr ⟨(a, b), List.mem_cons_self, rfl⟩
    · rcases glook_in t d x with h | ⟨q, hq, h⟩
      · exact Or.inl h
      · exact Or.inr ⟨q, List.mem_cons_of_mem _ hq, h⟩
theorem gs_store (cx : gCx p s mi args c E cc o) {i : Nat} {v : gV} {r : List gV} (hi : i < ls.length) (hv : gvr v) (row : ∀ (H : Heap) (locs : List Loc) (Ls : Array Slot), lv_has Ls ls.length (glv E ls) → (∀ Ls' : Array Slot, lv_has Ls' ls.length ((i, gcv E v) :: (glv E ls).filter (fun q => !(q.1 == i) && !(q.1 + 1 == i && q.2.category == 2))) → W p l e R s mi args below meth c H locs cells slots Q (F0 mi pc' Ls' (r.map (gcv E)))) → W p l e R s mi args below meth c H locs cells slots Q (F0 mi pc Ls (st.map (gcv E))))
    (hsub : ∀ x ∈ r, x ∈ st) (kk : gW p l e R s mi args below meth c Q E cells slots pc' (gset ls i v) r m) : gW p l e R s mi args below meth c Q E cells slots pc ls st m := by
  intro H locs Ls hF
  refine row H locs Ls (glv_has hF.2.2.1) (fun Ls' h => ?_)
  exact kk H locs Ls' ⟨hF.1, hF.2.1, gset_to (gKO cx.2.2.2.2) hi h, gset_vr hF.2.2.2.1 hv, fun x hx => hF.2.2.2.2.1 x (hsub x hx), hF.2.2.2.2.2⟩
end GStep
