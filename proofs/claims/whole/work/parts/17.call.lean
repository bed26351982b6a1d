/-! What every method takes for granted stays true as the machine goes on; returns. -/
theorem va_AOI.moved {u U : State} (hvm : u.vm.Alike U.vm) (h : va_Nw (.arrayOver (.array .int)) u) : va_Nw (.arrayOver (.array .int)) U := by
  unfold va_Nw Cond.before Cond.holds at h ⊢
  simp only [Cond.value, beq_iff_eq] at h ⊢
  obtain ⟨comp, h1, h2⟩ := Option.bind_eq_some_iff.mp h
  obtain ⟨ci, h3, h4⟩ := Option.bind_eq_some_iff.mp h2
  obtain ⟨k, h5, h6⟩ := Option.map_eq_some_iff.mp h4
  obtain ⟨k', hk', he⟩ := hvm.2.2 _ _ h5
  have hi : (U.vm.classes.findIdx? fun (x : Class) => match x.kind with | .array component _ => component == comp | _ => false) = some ci := by
    have e0 : U.vm.bare = u.vm.bare := by first | exact hvm.bare_eq | exact hvm.bare_eq.symm
    have e1 := va_idx_bare U.vm comp
    rw [e0, va_idx_bare u.vm comp] at e1
    exact e1.symm.trans h3
  refine Option.bind_eq_some_iff.mpr ⟨comp, by rw [hvm.findClass]; exact h1, Option.bind_eq_some_iff.mpr ⟨ci, hi, Option.map_eq_some_iff.mpr ⟨k', hk', ?_⟩⟩⟩
  have hkind : k'.kind = k.kind := by rw [he]
  rw [hkind, hvm.findClass]
  exact h6
theorem gKK_same {E : gE} {u U : State} (hv : U.vm = u.vm) (hh : U.heap = u.heap) (h : gKK E u) : gKK E U := by
  obtain ⟨h1, h2, h3, h4, h5, h6, h7, h8, h9, h10, h11, h12, h13⟩ := h
  have al : u.vm.Alike U.vm := by rw [hv]; exact Vm.Alike.refl u.vm
  refine ⟨va_K.moved al h1, fun w hw => ?_, va_AO.moved al h3, va_AOI.moved al h4, by rw [hh]; exact vk_S.moved al h5, fun i q hq => vk_R.same hv (h6 i q hq), by rw [hh]; exact va_Z.moved al h7, by rw [hh]; exact va_Z.moved al h8, h9, by rw [hh]; exact va_X.moved al h10, h11, h12, by rw [hh]; exact h13⟩
  have hz := (List.mem_filter.mp hw).2
  refine va_Nw.same ?_ hv.symm (h2 w hw)
  revert hz
  unfold gisnest
  split <;> intro hz <;> first | rfl | (cases hz; done)
theorem gKK_warm {E : gE} {s U : State} {locs : List Loc} (hW : s.WarmedH U.vm) (hS : va_S (gA E) s.heap U.heap locs) (h : gKK E s) : gKK E U := by
  obtain ⟨h1, h2, h3, h4, h5, h6, h7, h8, h9, h10, h11, h12, h13⟩ := h
  have al : s.vm.Alike U.vm := hW.alike
  refine ⟨va_K.moved al h1, fun w hw => ?_, va_AO.moved al h3, va_AOI.moved al h4, (vk_S.moved al h5).kept hS.2.1, fun i q hq => vk_R.warm hW (h6 i q hq), (va_Z.moved al h7).kept hS.2.1, (va_Z.moved al h8).kept hS.2.1, h9, (va_X.moved al h10).kept ?_, h11, h12, Nat.le_trans h13 hS.1⟩
  · have hz := (List.mem_filter.mp hw).2
    have h0 := h2 w hw
    revert hz
    unfold gisnest
    split <;> intro hz
    · exact va_Nw.warmF hW h0
    · exact va_Nw.warmM hW h0
    · cases hz
  · exact hS.2.1 _ (by omega) (fun z => by have : eB E ≤ eb E := z; omega)
def gPc (E : gE) (as : List gV) (m : gMem) : Array Value → State → Prop := fun a U => a = (as.map (gcv E)).toArray ∧ gHR E m U.heap ∧ gKK E U
def gQc (E : gE) (r : Option gV) (m : gMem) : Array Value → State → Outcome → State → Prop := fun _ st oc t => oc = .returned (r.map (gcv E)) ∧ gHR E m t.heap ∧ va_F (gA E) st t
theorem gPc_blind {E : gE} {as : List gV} {m : gMem} : FrameBlind (gPc E as m) := fun a U g mk h => ⟨h.1, h.2.1, gKK_same (u := U) (U := U.calling g mk a) rfl rfl h.2.2⟩
theorem gnorm_ret {o pc rt : Nat} {ini : Bool} {raw op : Instr} (h : gnorm o pc rt ini raw = some op) : (op = .ireturn → raw = .ireturn ∧ rt = 0) ∧ (op = .freturn → raw = .ireturn ∧ rt = 1) ∧ (op = .dreturn → raw = .ireturn ∧ rt = 2) ∧ (op = .athrow → raw = .ireturn ∧ rt = 3) ∧ (op = .lreturn → raw = .lreturn ∧ rt = 5) ∧ (op = .areturn → raw = .areturn ∧ rt = 6) ∧ (op = .return_ → raw = .return_ ∧ rt = 4) := by
  unfold gnorm at h
  split at h
  all_goals (try obtain ⟨a, -, rfl⟩ := Option.map_eq_some_iff.mp h)
  all_goals (try (repeat' split at h))
  all_goals (try obtain ⟨a, -, rfl⟩ := Option.map_eq_some_iff.mp h)
  all_goals first
    | (cases h; done)
    | (cases h; refine ⟨?_, ?_, ?_, ?_, ?_, ?_, ?_⟩ <;> intro q <;> first | (cases q; done) | exact ⟨rfl, rfl⟩ | exact ⟨rfl, by assumption⟩)
    | (refine ⟨?_, ?_, ?_, ?_, ?_, ?_, ?_⟩ <;> intro q <;> (cases q; done))
theorem gnorm_call {o pc rt n : Nat} {ini : Bool} {raw : Instr} (h : gnorm o pc rt ini raw = some (.invokestatic n)) : ∃ i, gfnd gMl o i = some n ∧ (raw = .invokevirtual i ∧ (gKs.getD n (0, 9)).2 = 0 ∨ raw = .invokestatic i ∧ (gKs.getD n (0, 9)).2 = 2 ∨ raw = .invokespecial i ∧ (gKs.getD n (0, 9)).2 = 1) := by
  unfold gnorm at h
  split at h
  all_goals (try (obtain ⟨a, -, h2⟩ := Option.map_eq_some_iff.mp h; cases h2; done))
  all_goals (try (repeat' split at h))
  all_goals (try (obtain ⟨a, -, h2⟩ := Option.map_eq_some_iff.mp h; cases h2; done))
  all_goals first
    | (cases h; done)
    | (cases h; exact ⟨_, by assumption, Or.inl ⟨rfl, by assumption⟩⟩)
    | (cases h; exact ⟨_, by assumption, Or.inr (Or.inl ⟨rfl, by assumption⟩)⟩)
    | (cases h; exact ⟨_, by assumption, Or.inr (Or.inr ⟨rfl, by assumption⟩)⟩)
theorem gRel_0 {r : Option FieldType} (h : gRel r 0) : r = some .int := by
  unfold gRel at h
  rcases h with ⟨h, q⟩ | ⟨h, q⟩ | ⟨h, q⟩ | ⟨h, q⟩ | ⟨h, q⟩ | ⟨h, q⟩ | ⟨h, q⟩ <;> first | exact h | (cases q; done)
theorem gRel_1 {r : Option FieldType} (h : gRel r 1) : r = some .boolean := by
  unfold gRel at h
  rcases h with ⟨h, q⟩ | ⟨h, q⟩ | ⟨h, q⟩ | ⟨h, q⟩ | ⟨h, q⟩ | ⟨h, q⟩ | ⟨h, q⟩ <;> first | exact h | (cases q; done)
theorem gRel_2 {r : Option FieldType} (h : gRel r 2) : r = some .byte := by
  unfold gRel at h
  rcases h with ⟨h, q⟩ | ⟨h, q⟩ | ⟨h, q⟩ | ⟨h, q⟩ | ⟨h, q⟩ | ⟨h, q⟩ | ⟨h, q⟩ <;> first | exact h | (cases q; done)
theorem gRel_3 {r : Option FieldType} (h : gRel r 3) : r = some .char := by
  unfold gRel at h
  rcases h with ⟨h, q⟩ | ⟨h, q⟩ | ⟨h, q⟩ | ⟨h, q⟩ | ⟨h, q⟩ | ⟨h, q⟩ | ⟨h, q⟩ <;> first | exact h | (cases q; done)
theorem gRel_4 {r : Option FieldType} (h : gRel r 4) : r = none := by
  unfold gRel at h
  rcases h with ⟨h, q⟩ | ⟨h, q⟩ | ⟨h, q⟩ | ⟨h, q⟩ | ⟨h, q⟩ | ⟨h, q⟩ | ⟨h, q⟩ <;> first | exact h | (cases q; done)
theorem gRel_5 {r : Option FieldType} (h : gRel r 5) : r = some .long := by
  unfold gRel at h
  rcases h with ⟨h, q⟩ | ⟨h, q⟩ | ⟨h, q⟩ | ⟨h, q⟩ | ⟨h, q⟩ | ⟨h, q⟩ | ⟨h, q⟩ <;> first | exact h | (cases q; done)
theorem gRel_6 {r : Option FieldType} (h : gRel r 6) : ∃ C, r = some (.object C) := by
  unfold gRel at h
  rcases h with ⟨h, q⟩ | ⟨h, q⟩ | ⟨h, q⟩ | ⟨h, q⟩ | ⟨h, q⟩ | ⟨h, q⟩ | ⟨h, q⟩ <;> first | exact h | (cases q; done)
section GRet
variable {p : Program} {l : Launch} {e : Env} {R : Room} {s : State} {mi : MethodId} {args : Array Value} {below : List Frame} {meth : Method} {c : Code} {Q : State → Prop} {E : gE} {cc : ByteArray} {o cells slots pc : Nat} {ls st : List gV} {m : gMem}
set_option maxHeartbeats 1000000 in
theorem gs_ret (cx : gCx p s mi args c E cc o) {rty : Option FieldType} {rt len : Nat} {ini : Bool} {raw op : Instr} {r : Option gV} (hr : meth.sig.returnType = rty) (hrel : gRel rty rt) (hlk : meth.locks = false) (hd : decode cc pc = .ok (raw, len)) (hlen : glen raw = 0 ∨ glen raw = len) (hn : gnorm o pc rt ini raw = some op) (hg : gret op st = some r) : gW p l e R s mi args below meth c (MQ below (gQc E r m) args s cells slots (gA E)) E cells slots pc ls st m := by
  obtain ⟨hx, hb, -⟩ := cx
  obtain ⟨n1, n2, n3, n4, n5, n6, n7⟩ := gnorm_ret hn
  intro H locs Ls hF
  have fin : ∀ (v : Option Value), v = r.map (gcv E) → ∀ t : State, t.heap = H → s.WarmedH t.vm → gQc E r m args s (.returned v) t := fun v hv t ht hW => ⟨by rw [hv], by rw [ht]; exact hF.1, hF.2.1.F ht⟩
  unfold gret at hg
  split at hg
  · obtain ⟨rfl, rfl⟩ := n1 rfl
    obtain rfl : _ = len := hlen.resolve_left (by simp [glen])
    split at hg
    · cases hg
      exact W.iret hx hb (hr.trans (gRel_0 hrel)) (fin _ rfl) hF.2.1.2.2 hd hlk
    · cases hg
  · obtain ⟨rfl, rfl⟩ := n2 rfl
    obtain rfl : _ = len := hlen.resolve_left (by simp [glen])
    split at hg
    · next x =>
      split at hg
      · next hx01 =>
        cases hg
        exact W.zret hx hb (hr.trans (gRel_1 hrel)) (by rcases hx01 with rfl | rfl <;> rfl) (fin _ rfl) hF.2.1.2.2 hd hlk
      · cases hg
    · cases hg
  · obtain ⟨rfl, rfl⟩ := n3 rfl
    obtain rfl : _ = len := hlen.resolve_left (by simp [glen])
    split at hg
    · next x =>
      split at hg
      · next hx01 =>
        cases hg
        have rx : gr32 x := vr_h hF.2.2.2.2.1
        refine W.zret hx hb (hr.trans (gRel_2 hrel)) ?_ (fin _ rfl) hF.2.1.2.2 hd hlk
        rw [narrow_byte, o32_i2b rx]
        unfold gi2b
        rw [show (x + 128) % 256 - 128 = x by omega]
      · cases hg
    · cases hg
  · obtain ⟨rfl, rfl⟩ := n4 rfl
    obtain rfl : _ = len := hlen.resolve_left (by simp [glen])
    split at hg
    · next x =>
      split at hg
      · next hx01 =>
        cases hg
        refine W.zret hx hb (hr.trans (gRel_3 hrel)) ?_ (fin _ rfl) hF.2.1.2.2 hd hlk
        have hq : Int32.ofInt x = nI x.toNat := by
          show _ = Int32.ofNat x.toNat
          rw [o32_nat, Int.toNat_of_nonneg hx01.1]
        rw [hq]
        exact (pk_charN (by omega)).1
      · cases hg
    · cases hg
  · obtain ⟨rfl, rfl⟩ := n5 rfl
    obtain rfl : _ = len := hlen.resolve_left (by simp [glen])
    split at hg
    · cases hg
      exact W.lret hx hb (hr.trans (gRel_5 hrel)) (fin _ rfl) hF.2.1.2.2 hd hlk
    · cases hg
  · obtain ⟨rfl, rfl⟩ := n6 rfl
    obtain rfl : _ = len := hlen.resolve_left (by simp [glen])
    split at hg
    · cases hg
      obtain ⟨C, hC⟩ := gRel_6 hrel
      exact W.aret hx hb (hr.trans hC) (Or.inl ⟨_, rfl⟩) (Or.inr ⟨_, rfl⟩) (fin _ rfl) hF.2.1.2.2 hd hlk
    · cases hg
  · obtain ⟨rfl, rfl⟩ := n7 rfl
    obtain rfl : _ = len := hlen.resolve_left (by simp [glen])
    split at hg
    · cases hg
      exact W.vret hx hb (hr.trans (gRel_4 hrel)) (fin _ rfl) hF.2.1.2.2 hd hlk
    · cases hg
  · cases hg
end GRet
