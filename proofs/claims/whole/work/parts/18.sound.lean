/-! A run of the small machine is a run of the machine. -/
theorem gok_row {o rt : Nat} {cc : ByteArray} {ini : Bool} {C : gCode} {pc nx : Nat} {op : Instr} (h : C.all (gokB o cc rt ini) = true) (hm : (pc, op, nx) ∈ C) : ∃ raw len, decode cc pc = .ok (raw, len) ∧ nx = pc + len ∧ (glen raw = 0 ∨ glen raw = len) ∧ gnorm o pc rt ini raw = some op := by
  have h1 := List.all_eq_true.mp h _ hm
  unfold gokB at h1
  split at h1
  · next raw len hd =>
    simp only [Bool.and_eq_true, Bool.or_eq_true, decide_eq_true_eq] at h1
    exact ⟨raw, len, hd, Nat.eq_of_beq_eq_true h1.1.1, h1.1.2.elim (fun q => Or.inl (Nat.eq_of_beq_eq_true q)) (fun q => Or.inr (Nat.eq_of_beq_eq_true q)), h1.2⟩
  · cases h1
theorem gok_opr {o rt : Nat} {cc : ByteArray} {ini : Bool} {C : gCode} (h : C.all (gokB o cc rt ini) = true) : ∀ q ∈ C, gopr q.2.1 := by
  intro q hq
  obtain ⟨pc, op, nx⟩ := q
  obtain ⟨raw, len, -, -, -, hn⟩ := gok_row h hq
  exact gnorm_opr hn
theorem gT_opr (hH : ∀ n, gHm n) : ∀ y M, gT y = some M → ∀ q ∈ M.1, gopr q.2.1 := fun y M hy => gok_opr (hH y M hy).2.2.2.2.2.2.2.2.2
theorem gcallee_op {op : Instr} {y : Nat} (h : gcallee op = some y) : op = .invokestatic y := by
  unfold gcallee at h
  split at h
  · cases h; rfl
  · cases h
theorem gGood {ws : List Cond} (h : ∀ w ∈ ws, w ∈ gtbl) : GoodIn gtbl ws := fun w hw => ⟨h w hw, good_of_word (List.mem_filter.mp (h w hw)).2⟩
theorem gsplit_spec {maxL na rk : Nat} {m : gMem} {st as rest : List gV} (h : gsplit maxL na rk m st = some (as, rest)) : as.length = na ∧ st = as.reverse ++ rest ∧ (gflat as).length ≤ maxL ∧ gfew rest = true ∧ grecv m rk as = true := by
  unfold gsplit at h
  split at h
  · next hq =>
    cases h
    simp only [Bool.and_eq_true] at hq
    have h1 := Nat.le_of_ble_eq_true hq.1.1.1
    exact ⟨by simp; omega, by simp, Nat.le_of_ble_eq_true hq.1.1.2, hq.1.2, hq.2⟩
  · cases h
section GSound
variable {p : Program} {l : Launch} {e : Env} {R : Room} {s : State} {mi : MethodId} {args : Array Value} {below : List Frame} {meth : Method} {c : Code} {Q : State → Prop} {E : gE} {cc : ByteArray} {o cells slots pc : Nat} {ls st rest : List gV} {m m1 : gMem} {r : Option gV}
/-- behind a call -/
theorem gs_run {a : Array Value} {mc ms : Nat} {H : Heap} {locs : List Loc} {Ls : Array Slot} {st0 : List Value} (hF : gFr E s m H locs ls Ls st) (hS : gSt ls (r.toList ++ rest) m1)
    (hr : va_Run p l e R s mi args below meth c H locs cells slots mc ms (F0 mi pc Ls st0) (rest.map (gcv E)) (gQc E r m1 a) (gA E)) (kk : gW p l e R s mi args below meth c Q E (cells + mc) (slots + ms) (pc + 3) ls (r.toList ++ rest) m1) : W p l e R s mi args below meth c H locs cells slots Q (F0 mi pc Ls st0) := by
  intro T hT X
  obtain ⟨v, st₀, t, T', L, h0, X', hL, e1, e2, ⟨hv, hHR, hz⟩, stp⟩ := hr T hT X
  have hv2 : v = r.map (gcv E) := by
    injection hv
  subst hv2
  have hS2 : va_S (gA E) s.heap T'.heap (locs ++ L) := by
    refine ⟨Nat.le_trans hF.2.1.1 (by rw [e1, ← h0]; exact hz.1), fun q h1 h2 => ?_, fun q hq => ?_⟩
    · rw [e1, hz.2 q (by rw [h0]; exact Nat.lt_of_lt_of_le h1 hF.2.1.1) h2, h0]
      exact hF.2.1.2.1 q h1 h2
    · rcases List.mem_append.mp hq with h | h
      · exact hF.2.1.2.2 q h
      · exact hL q h
  have e3 : (r.map (gcv E)).toList ++ rest.map (gcv E) = (r.toList ++ rest).map (gcv E) := by cases r <;> simp
  obtain ⟨t2, a1, b1⟩ := kk T'.heap (locs ++ L) Ls ⟨by rw [e1]; exact hHR, hS2, hF.2.2.1, hS⟩ T' rfl X'
  refine ⟨t2, stp t2 ?_, b1⟩
  rw [← e3] at a1
  exact a1
end GSound
set_option maxHeartbeats 4000000 in
theorem gstep_len {op : Instr} {nx : Nat} {ls st : List gV} {m : gMem} {x : Nat × (List gV × (List gV × gMem))} (h : gstep op nx ls st m = some x) : x.2.1.length = ls.length := by
  unfold gstep at h
  split at h
  all_goals (try unfold gbin at h); (try unfold gbinL at h); (try unfold gdiv at h); (try unfold gget at h); (try unfold gput at h); (try unfold gald at h); (try unfold galq at h); (try unfold gast at h); (try unfold gasq at h); (try unfold gcopy at h); (try unfold gnewa at h); (try unfold gmulti at h)
  all_goals (repeat' split at h)
  all_goals first
    | (cases h; done)
    | (cases h; rfl)
    | (cases h; exact gset_len _ _ _)
    | (cases h; exact gset2_len _ _ _)
