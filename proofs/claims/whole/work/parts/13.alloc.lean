/-! New cells; what the library does: copies, the greater and the lesser, texts, statics. -/
theorem gHR_push {E : gE} {m m' : gMem} {cs : List gCell} {H H1 : Heap} (h : gHR E m H) (h1 : m'.1 = m.1 ++ cs) (h2 : ∀ k j, k < m.1.length → m'.2 k j = m.2 k j) (z : H1.size = H.size + cs.length) (o : ∀ a, a < H.size → H1[a]? = H[a]?) (ha : ∀ i q, cs[i]? = some q → gat E (m.1.length + i) q (m'.2 (m.1.length + i)) H1) : gHR E m' H1 := by
  obtain ⟨g1, g2, g3, g4, g5⟩ := h
  refine ⟨by rw [z, h1, List.length_append]; omega, by rw [h1, List.length_append]; omega, fun k' hk' => ?_, fun k' j hk' => ?_, fun k' q1 hk' hq1 => ?_⟩
  · rw [h1, List.getElem?_append_left (by omega)]
    exact g3 k' hk'
  · rw [h2 k' j (by omega)]
    exact g4 k' j hk'
  · rw [h1] at hq1
    by_cases hl : k' < m.1.length
    · rw [List.getElem?_append_left hl] at hq1
      have hrow : m'.2 k' = m.2 k' := funext fun j => h2 k' j hl
      rw [hrow]
      refine gat_kept (g5 k' q1 hk' hq1) (o _ ?_)
      rw [gad_new hk']
      omega
    · rw [List.getElem?_append_right (by omega)] at hq1
      have := ha _ q1 hq1
      rw [show m.1.length + (k' - m.1.length) = k' by omega] at this
      exact this
theorem gad_end {E : gE} {m : gMem} {H : Heap} (h : gHR E m H) (i : Nat) : gad E (m.1.length + i) = H.size + i := by
  have h1 := h.1
  have h2 := h.2.1
  rw [gad_new (by omega)]
  omega
theorem gzer_lt {σ : Nat → Nat → Int} {n k j : Nat} (h : k < n) : gzer σ n k j = σ k j := by
  unfold gzer
  rw [if_neg (by omega)]
theorem gzer_ge {σ : Nat → Nat → Int} {n k : Nat} (h : n ≤ k) : gzer σ n k = fun _ => 0 := by
  funext j
  unfold gzer
  rw [if_pos h]
theorem gdef {ci j : Nat} (hc : ci < 13) (hj : j < gfields ci) (E : gE) (n : Nat) : defaultValue (gTT ci j) = gfv E (ci, gfields ci, List.replicate n none) (fun _ => 0) j := by
  unfold gfv
  dsimp only
  by_cases h : gsort ci j = 2
  · rw [if_pos h]
    have h2 := gsort_2 ci hc j hj h
    have h3 : (List.replicate n (none : Option Nat)).getD j none = none := by
      rw [List.getD_eq_getElem?_getD, List.getElem?_replicate]
      split <;> rfl
    rw [h3]
    revert h2
    cases gTT ci j <;> intro h2 <;> first | (cases h2; done) | rfl
  · rw [if_neg h]
    have : gsort ci j = 0 ∨ gsort ci j = 1 := by
      revert h
      unfold gsort
      split <;> simp
    rcases this with h | h
    · rw [gsort_0 h]; rfl
    · rw [gsort_1 h]; rfl
section GAll
variable {p : Program} {l : Launch} {e : Env} {R : Room} {s : State} {mi : MethodId} {args : Array Value} {below : List Frame} {meth : Method} {c : Code} {Q : State → Prop} {E : gE} {cc : ByteArray} {o cells slots pc pc' : Nat} {ls st ls' st' : List gV} {m m' : gMem}
theorem va_S_push {A : Nat → Prop} {H0 H H1 : Heap} {locs : List Loc} (h : va_S A H0 H locs) (z : H.size ≤ H1.size) (o : ∀ a, a < H.size → H1[a]? = H[a]?) : va_S A H0 H1 locs :=
  ⟨Nat.le_trans h.1 z, fun q h1 h2 => (o q (Nat.lt_of_lt_of_le h1 h.1)).trans (h.2.1 q h1 h2), h.2.2⟩
set_option maxHeartbeats 1000000 in
theorem gs_new (cx : gCx p s mi args c E cc o) {idx ci : Nat} (hd : decode cc pc = .ok (.new idx, 3)) (hl : gfnd gNl o idx = some ci) (hc : cells + 1 ≤ R.cells) (hs : slots + gfields ci ≤ R.slots)
    (kk : gW p l e R s mi args below meth c Q E (cells + 1) (slots + gfields ci) (pc + 3) ls (Sum.inr (Sum.inr (Sum.inl m.1.length)) :: st) (m.1 ++ [(ci, gfields ci, List.replicate (gfields ci) none)], gzer m.2 m.1.length)) : gW p l e R s mi args below meth c Q E cells slots pc ls st m := by
  obtain ⟨hx, hb, hown, hts, hK⟩ := cx
  intro H locs Ls hF
  obtain ⟨w1, w2, w3, h13⟩ := gNl_ok _ (gfnd_mem _ _ _ _ hl)
  dsimp only at w1 w2 w3 h13
  have hKn := hK.1.1 ci _ (gcl_at ci h13)
  dsimp only at hKn
  have hend := gad_end hF.1 0
  rw [Nat.add_zero, Nat.add_zero] at hend
  refine W.newcK hx hb hown (hts _ w1) (hts _ w2) (hts _ w3) rfl hd hc hs hKn.2.1 rfl (fun H1 kC hkC e1 z1 o1 => ?_)
  have hO := (u_born (gTT ci) hts (gin_at ci h13) hKn hkC e1 (gy_at ci h13)).to (fun j hj => gdef h13 hj E (gfields ci))
  have kk2 := kk H1 locs Ls ⟨gHR_push hF.1 rfl (fun k j hk => gzer_lt hk) z1 o1 (fun i q hq => ?_), va_S_push hF.2.1 (by omega) o1, hF.2.2.1, hF.2.2.2.1, vr_c trivial hF.2.2.2.2.1, gzer_r hF.2.2.2.2.2⟩
  · have : (gcv E (Sum.inr (Sum.inr (Sum.inl m.1.length)))) = .ref H.size := by rw [← hend]; rfl
    show W p l e R s mi args below meth c H1 locs (cells + 1) (slots + gfields ci) Q (F0 mi (pc + 3) Ls (.ref H.size :: st.map (gcv E)))
    rw [← this]
    exact kk2
  · have hi : i = 0 := by have := (List.getElem?_eq_some_iff.mp hq).1; simp at this; omega
    subst hi
    cases hq
    rw [Nat.add_zero]
    dsimp only
    rw [gzer_ge (Nat.le_refl _)]
    refine ⟨fun z => ⟨rfl, by simp, ?_⟩, fun z => by dsimp only at z; omega, fun z => by dsimp only at z; omega, fun z => by dsimp only at z; omega, fun z => by dsimp only at z; omega, Or.inl h13, ?_⟩
    · dsimp only
      rw [hend]
      exact hO
    · have : ∀ ci, ci < 13 → gfields ci < 2147483648 := by decide
      exact this ci h13
set_option maxHeartbeats 1000000 in
theorem gs_newa (cx : gCx p s mi args c E cc o) {ty : ArrayType} {kd : Nat} {N : Int} {r : List gV} (hkd : ty = .int ∧ kd = 100 ∨ ty = .boolean ∧ kd = 101) (hst : st = Sum.inl N :: r) (h0 : 0 ≤ N) (h1 : N < 100000) (hd : decode cc pc = .ok (.newarray ty, 2)) (hc : cells + 1 ≤ R.cells) (hs : slots + N.toNat ≤ R.slots)
    (kk : gW p l e R s mi args below meth c Q E (cells + 1) (slots + N.toNat) (pc + 2) ls (Sum.inr (Sum.inr (Sum.inl m.1.length)) :: r) (m.1 ++ [(kd, N.toNat, [])], gzer m.2 m.1.length)) : gW p l e R s mi args below meth c Q E cells slots pc ls st m := by
  obtain ⟨hx, hb, hown, hts, hK⟩ := cx
  intro H locs Ls hF
  subst hst
  have hend := gad_end hF.1 0
  rw [Nat.add_zero, Nat.add_zero] at hend
  have hNr : gr32 N := vr_h hF.2.2.2.2.1
  have hcl := o32_clamp hNr
  have hneg : ¬ Int32.ofInt N < 0 := by rw [← o32_0, o32_lt hNr r32_0]; omega
  have main : ∀ (t : FieldType) (i : Nat), newarray.typeOf ty = t → (∃ q, [(eA E 0, FieldType.int), (eA E 1, .boolean), (eA E 2, .object "GaleBridge$Part"), (eA E 3, .array .int)][i]? = some (q, t) ∧ ∀ H1 : Heap, H1[gad E m.1.length]? = some (arrV q N.toNat (fun _ => defaultValue t)) → gat E m.1.length (kd, N.toNat, []) (fun _ => 0) H1) → componentBytes t ≤ 4 → (Cond.arrayClass t).before args s = true → va_RA s (eA E i) t = (s.vm.findClass ("[" ++ t.toString) = some (eA E i)) → W p l e R s mi args below meth c H locs cells slots Q (F0 mi pc Ls ((Sum.inl N :: r).map (gcv E))) := by
    intro t i ht hq hbyt hac hra
    obtain ⟨q, hqi, hgat⟩ := hq
    subst ht
    refine va_newaK hx hb hac rfl hd rfl hneg hcl ?_ hc hs rfl (fun H1 cA e1 z1 o1 hA hnm => ?_)
    · have : N.toNat * componentBytes (newarray.typeOf ty) ≤ N.toNat * 4 := Nat.mul_le_mul_left _ hbyt
      omega
    · have hcA : cA = q := by
        have h2 := (hK.1.2 i _ hqi).2
        have h3 : s.vm.findClass ("[" ++ (newarray.typeOf ty).toString) = some q := by
          dsimp only at h2
          revert h2
          cases ty <;> exact id
        exact Option.some.inj (hnm.symm.trans h3)
      subst hcA
      have kk2 := kk H1 locs Ls ⟨gHR_push hF.1 rfl (fun k j hk => gzer_lt hk) z1 o1 (fun i q hq => ?_), va_S_push hF.2.1 (by omega) o1, hF.2.2.1, hF.2.2.2.1, vr_c trivial (vr_t hF.2.2.2.2.1), gzer_r hF.2.2.2.2.2⟩
      · have : (gcv E (Sum.inr (Sum.inr (Sum.inl m.1.length)))) = .ref H.size := by rw [← hend]; rfl
        show W p l e R s mi args below meth c H1 locs (cells + 1) (slots + N.toNat) Q (F0 mi (pc + 2) Ls (.ref H.size :: r.map (gcv E)))
        rw [← this]
        exact kk2
      · have hi : i = 0 := by have := (List.getElem?_eq_some_iff.mp hq).1; simp at this; omega
        subst hi
        cases hq
        rw [Nat.add_zero]
        dsimp only
        rw [gzer_ge (Nat.le_refl _)]
        exact hgat H1 (by rw [hend]; exact e1)
  rcases hkd with ⟨rfl, rfl⟩ | ⟨rfl, rfl⟩
  · refine main .int 0 rfl ⟨eA E 0, rfl, fun H1 hH => ?_⟩ (by decide) (hts _ ga_I) rfl
    exact ⟨fun z => by dsimp only at z; omega, fun z => hH, fun z => by dsimp only at z; omega, fun z => by dsimp only at z; omega, fun z => by dsimp only at z; omega, by simp, by dsimp only; omega⟩
  · refine main .boolean 1 rfl ⟨eA E 1, rfl, fun H1 hH => ?_⟩ (by decide) (hts _ ga_Z) rfl
    exact ⟨fun z => by dsimp only at z; omega, fun z => by dsimp only at z; omega, fun z => hH, fun z => by dsimp only at z; omega, fun z => by dsimp only at z; omega, by simp, by dsimp only; omega⟩
set_option maxHeartbeats 1000000 in
theorem gs_anew (cx : gCx p s mi args c E cc o) {idx : Nat} {N : Int} {r : List gV} (hl : gfnd gNl o idx = some 4) (hst : st = Sum.inl N :: r) (h0 : 0 ≤ N) (h1 : N < 100000) (hd : decode cc pc = .ok (.anewarray idx, 3)) (hc : cells + 1 ≤ R.cells) (hs : slots + N.toNat ≤ R.slots)
    (kk : gW p l e R s mi args below meth c Q E (cells + 1) (slots + N.toNat) (pc + 3) ls (Sum.inr (Sum.inr (Sum.inl m.1.length)) :: r) (m.1 ++ [(102, N.toNat, List.replicate N.toNat none)], gzer m.2 m.1.length)) : gW p l e R s mi args below meth c Q E cells slots pc ls st m := by
  obtain ⟨hx, hb, hown, hts, hK⟩ := cx
  intro H locs Ls hF
  subst hst
  obtain ⟨w1, -, -, -⟩ := gNl_ok _ (gfnd_mem _ _ _ _ hl)
  dsimp only at w1
  have hend := gad_end hF.1 0
  rw [Nat.add_zero, Nat.add_zero] at hend
  have hNr : gr32 N := vr_h hF.2.2.2.2.1
  have hcl := o32_clamp hNr
  have hneg : ¬ Int32.ofInt N < 0 := by rw [← o32_0, o32_lt hNr r32_0]; omega
  refine W.anew hx hb hown (hts _ w1) (va_AO.use hK.2.2.1) rfl hd rfl hneg (by rw [hcl]; omega) hc (by rw [hcl]; exact hs) (fun cA kA comp f1 f2 f3 f4 => ?_)
  rw [hcl]
  have hcA : cA = eA E 2 := by
    obtain ⟨_, _, _, _, _, h4⟩ := (hK.1.2 2 _ rfl).2
    exact Option.some.inj (f1.symm.trans h4)
  subst hcA
  generalize hH1 : H.push ({ cls := eA E 2, slots := Array.replicate N.toNat .null, vm := .none } : Cell) = H1
  have z1 : H1.size = H.size + 1 := by rw [← hH1, Array.size_push]
  have e1 : H1[H.size]? = some (arrV (eA E 2) N.toNat (fun _ => .null)) := by rw [← hH1, Array.getElem?_push_size, ← arrV_new]
  have o1 : ∀ q : Nat, q < H.size → H1[q]? = H[q]? := fun q hq => by rw [← hH1, Array.getElem?_push, if_neg (Nat.ne_of_lt hq)]
  have kk2 := kk H1 locs Ls ⟨gHR_push hF.1 rfl (fun k j hk => gzer_lt hk) z1 o1 (fun i q hq => ?_), va_S_push hF.2.1 (by omega) o1, hF.2.2.1, hF.2.2.2.1, vr_c trivial (vr_t hF.2.2.2.2.1), gzer_r hF.2.2.2.2.2⟩
  · have : (gcv E (Sum.inr (Sum.inr (Sum.inl m.1.length)))) = .ref H.size := by rw [← hend]; rfl
    show W p l e R s mi args below meth c H1 locs (cells + 1) (slots + N.toNat) Q (F0 mi (pc + 3) Ls (.ref H.size :: r.map (gcv E)))
    rw [← this]
    exact kk2
  · have hi : i = 0 := by have := (List.getElem?_eq_some_iff.mp hq).1; simp at this; omega
    subst hi
    cases hq
    rw [Nat.add_zero]
    dsimp only
    rw [gzer_ge (Nat.le_refl _)]
    refine ⟨fun z => by dsimp only at z; omega, fun z => by dsimp only at z; omega, fun z => by dsimp only at z; omega, fun z => ?_, fun z => by dsimp only at z; omega, by simp, by dsimp only; omega⟩
    dsimp only
    rw [hend, e1]
    congr 2
    funext j
    have h3 : (List.replicate N.toNat (none : Option Nat)).getD j none = none := by
      rw [List.getD_eq_getElem?_getD, List.getElem?_replicate]
      split <;> rfl
    rw [h3]
    rfl
end GAll
