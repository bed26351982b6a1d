/-! Rows of numbers and of references: one place read or written. -/
theorem old_not {E : gE} {m : gMem} {H : Heap} {k : Nat} {q : gCell} (h : gHR E m H) (hq : m.1[k]? = some q) (hk : 100 ≤ q.1) : 27 ≤ k := by
  refine Nat.not_lt.mp fun ho => ?_
  rw [h.2.2.1 k ho] at hq
  rcases gold_at hq with ⟨h1, rfl⟩ | ⟨h1, h2, rfl⟩ | ⟨h1, rfl⟩ <;> dsimp only at hk <;> omega
theorem o32_vin {a : Int} {n : Nat} (h : gr32 a) (h0 : 0 ≤ a) (h1 : a < n) : vp_in (Int32.ofInt a) n := o32_in h h0 h1
section GRows
variable {p : Program} {l : Launch} {e : Env} {R : Room} {s : State} {mi : MethodId} {args : Array Value} {below : List Frame} {meth : Method} {c : Code} {Q : State → Prop} {E : gE} {cc : ByteArray} {o cells slots pc pc' : Nat} {ls st ls' st' : List gV} {m m' : gMem}
set_option maxHeartbeats 1000000 in
theorem gs_iald (cx : gCx p s mi args c E cc o) (hd : decode cc pc = .ok (.iaload, 1)) (hst : gald 100 22 (pc + 1) ls st m = some (pc', ls', st', m')) (kk : gW p l e R s mi args below meth c Q E cells slots pc' ls' st' m') : gW p l e R s mi args below meth c Q E cells slots pc ls st m := by
  obtain ⟨hx, hb, hown, hts, hK⟩ := cx
  intro H locs Ls hF
  have hS1 := gald_st hF.2.2.2 hst
  unfold gald at hst
  split at hst
  · next x k r =>
    split at hst
    · next q hq =>
      split at hst
      · next hc =>
        cases hst
        have hxr : gr32 x := vr_h hF.2.2.2.2.1
        have kk2 := kk H locs Ls ⟨hF.1, hF.2.1, hF.2.2.1, hS1⟩
        rcases hc.1 with h1 | h1
        · have h27 := old_not hF.1 hq (by omega)
          have ha := (hF.1.2.2.2.2 k q h27 hq).2.1 h1
          have hcl := o32_clamp hxr
          refine W.iald (v := .int (Int32.ofInt (m.2 k x.toNat))) hx hb ha ((hK.1.2 0 _ rfl).1 _ _) (fun z => by cases z) (by rw [arrV_size]; exact o32_in hxr hc.2.1 hc.2.2) ?_ rfl rfl hd kk2
          rw [hcl, arrV_read _ _ (by omega)]
        · have h26 : k = 26 ∧ q = (22, eL E, []) := by
            have ho : k < 27 := by
              refine Nat.not_le.mp fun z => ?_
              have := (hF.1.2.2.2.2 k q z hq).2.2.2.2.2.1
              omega
            rw [hF.1.2.2.1 k ho] at hq
            rcases gold_at hq with ⟨g1, rfl⟩ | ⟨g1, g2, rfl⟩ | ⟨g1, rfl⟩
            · simp at h1
            · simp at h1
            · exact ⟨g1, rfl⟩
          obtain ⟨rfl, rfl⟩ := h26
          have hX := hK.2.2.2.2.2.2.2.2.2.1
          have hbB := hK.2.2.2.2.2.2.2.2.2.2.1
          have hBs := hK.2.2.2.2.2.2.2.2.2.2.2.2
          show W p l e R s mi args below meth c H locs cells slots Q (F0 mi pc Ls (.int (Int32.ofInt x) :: .ref (eb E) :: r.map (gcv E)))
          refine va_sld hx hb hX (by omega) (fun z => by have : eB E ≤ eb E := z; omega) hF.2.1 (o32_vin hxr hc.2.1 hc.2.2) hd ?_
          have e0 : m.2 26 x.toNat = (eX E x.toNat).toInt := by
            rw [hF.1.2.2.2.1 26 _ (by omega)]
            have : x.toNat < eL E := by have := hc.2.2; have := hc.2.1; dsimp only at *; omega
            simp [grow, this]
          rw [o32_clamp hxr]
          have kk3 : W p l e R s mi args below meth c H locs cells slots Q (F0 mi (pc + 1) Ls (.int (Int32.ofInt (m.2 26 x.toNat)) :: r.map (gcv E))) := kk2
          rw [e0, o32_of] at kk3
          exact kk3
      · cases hst
    · cases hst
  · cases hst
set_option maxHeartbeats 1000000 in
theorem gs_bald (cx : gCx p s mi args c E cc o) (hd : decode cc pc = .ok (.baload, 1)) (hst : gald 101 21 (pc + 1) ls st m = some (pc', ls', st', m')) (kk : gW p l e R s mi args below meth c Q E cells slots pc' ls' st' m') : gW p l e R s mi args below meth c Q E cells slots pc ls st m := by
  obtain ⟨hx, hb, hown, hts, hK⟩ := cx
  intro H locs Ls hF
  have hS1 := gald_st hF.2.2.2 hst
  unfold gald at hst
  split at hst
  · next x k r =>
    split at hst
    · next q hq =>
      split at hst
      · next hc =>
        cases hst
        have hxr : gr32 x := vr_h hF.2.2.2.2.1
        have kk2 := kk H locs Ls ⟨hF.1, hF.2.1, hF.2.2.1, hS1⟩
        rcases hc.1 with h1 | h1
        · have h27 := old_not hF.1 hq (by omega)
          have ha := (hF.1.2.2.2.2 k q h27 hq).2.2.1 h1
          have hcl := o32_clamp hxr
          refine W.zald (v := .int (Int32.ofInt (m.2 k x.toNat))) hx hb ha ((hK.1.2 1 _ rfl).1 _ _) (fun z => by cases z) (by rw [arrV_size]; exact o32_in hxr hc.2.1 hc.2.2) ?_ rfl rfl hd kk2
          rw [hcl, arrV_read _ _ (by omega)]
        · have h26 : 13 ≤ k ∧ k < 26 ∧ q = (21, gLen.getD (k - 13) 0, []) := by
            have ho : k < 27 := by
              refine Nat.not_le.mp fun z => ?_
              have := (hF.1.2.2.2.2 k q z hq).2.2.2.2.2.1
              omega
            rw [hF.1.2.2.1 k ho] at hq
            rcases gold_at hq with ⟨g1, rfl⟩ | ⟨g1, g2, rfl⟩ | ⟨g1, rfl⟩
            · simp at h1
            · exact ⟨g1, g2, rfl⟩
            · simp at h1
          obtain ⟨g1, g2, rfl⟩ := h26
          obtain ⟨e1, e2, e3, e4⟩ := hK.2.2.2.2.1.1 (k - 13) (by omega)
          have hgad : gad E k = eV E (k - 13) := by
            unfold gad
            rw [if_neg (by omega), if_pos (by omega)]
          show W p l e R s mi args below meth c H locs cells slots Q (F0 mi pc Ls (.int (Int32.ofInt x) :: .ref (gad E k) :: r.map (gcv E)))
          rw [hgad]
          refine va_tb hx hb e4 hF.2.1 (o32_vin hxr hc.2.1 hc.2.2) rfl hd ?_
          have e0 : m.2 k x.toNat = ((gByt.getD (k - 13) []).getD x.toNat 0).toInt := by
            rw [hF.1.2.2.2.1 k _ (by omega)]
            unfold grow
            rw [if_neg (by omega), if_pos (by omega)]
          rw [o32_clamp hxr]
          have kk3 : W p l e R s mi args below meth c H locs cells slots Q (F0 mi (pc + 1) Ls (.int (Int32.ofInt (m.2 k x.toNat)) :: r.map (gcv E))) := kk2
          rw [e0, o32_of] at kk3
          exact kk3
      · cases hst
    · cases hst
  · cases hst
set_option maxHeartbeats 1000000 in
theorem gs_aald (cx : gCx p s mi args c E cc o) (hd : decode cc pc = .ok (.aaload, 1)) (hst : galq (pc + 1) ls st m = some (pc', ls', st', m')) (kk : gW p l e R s mi args below meth c Q E cells slots pc' ls' st' m') : gW p l e R s mi args below meth c Q E cells slots pc ls st m := by
  obtain ⟨hx, hb, hown, hts, hK⟩ := cx
  intro H locs Ls hF
  have hS1 := galq_st hF.2.2.2 hst
  unfold galq at hst
  split at hst
  · next x k r =>
    split at hst
    · next q hq =>
      split at hst
      · next hc =>
        split at hst
        · next a hqa =>
          cases hst
          have hxr : gr32 x := vr_h hF.2.2.2.2.1
          have kk2 := kk H locs Ls ⟨hF.1, hF.2.1, hF.2.2.1, hS1⟩
          have h27 := old_not hF.1 hq (by omega)
          have ha := hF.1.2.2.2.2 k q h27 hq
          have hcl := o32_clamp hxr
          have hval : va_rf ((q.2.2.getD x.toNat none).map (gad E)) = .ref (gad E a) := by
            rw [List.getD_eq_getElem?_getD, hqa]
            rfl
          rcases hc.1 with h1 | h1
          · refine W.aald (v := .ref (gad E a)) (ty := .object "GaleBridge$Part") hx hb (ha.2.2.2.1 h1) ((hK.1.2 2 _ rfl).1 _ _) rfl (fun z => by cases z) (by rw [arrV_size]; exact o32_in hxr hc.2.1 hc.2.2) ?_ rfl rfl hd kk2
            rw [hcl, arrV_read _ _ (by omega), hval]
          · refine W.aald (v := .ref (gad E a)) (ty := .array .int) hx hb (ha.2.2.2.2.1 h1) ((hK.1.2 3 _ rfl).1 _ _) rfl (fun z => by cases z) (by rw [arrV_size]; exact o32_in hxr hc.2.1 hc.2.2) ?_ rfl rfl hd kk2
            rw [hcl, arrV_read _ _ (by omega), hval]
        · cases hst
      · cases hst
    · cases hst
  · cases hst
theorem set_self {α : Type} {l : List α} {k : Nat} {q : α} (h : l[k]? = some q) : l = l.set k q := by
  obtain ⟨h1, h2⟩ := List.getElem?_eq_some_iff.mp h
  rw [← h2, List.set_getElem_self]
set_option maxHeartbeats 1000000 in
theorem gs_iast (cx : gCx p s mi args c E cc o) (hd : decode cc pc = .ok (.iastore, 1)) (hst : gast 100 (pc + 1) ls st m = some (pc', ls', st', m')) (kk : gW p l e R s mi args below meth c Q E cells slots pc' ls' st' m') : gW p l e R s mi args below meth c Q E cells slots pc ls st m := by
  obtain ⟨hx, hb, hown, hts, hK⟩ := cx
  intro H locs Ls hF
  have hS1 := gast_st hF.2.2.2 hst
  unfold gast at hst
  split at hst
  · next y x k r =>
    split at hst
    · next q hq =>
      split at hst
      · next hc =>
        cases hst
        have hxr : gr32 x := vr_h (vr_t hF.2.2.2.2.1)
        have h27 := old_not hF.1 hq (by omega)
        have ha := hF.1.2.2.2.2 k q h27 hq
        have hcl := o32_clamp hxr
        refine W.iast hx hb (ha.2.1 hc.1) ((hK.1.2 0 _ rfl).1 _ _) (fun z => by cases z) (by rw [arrV_size]; exact o32_in hxr hc.2.1 hc.2.2.1) rfl rfl hd (fun H1 e1 z o1 => ?_)
        refine kk H1 _ Ls ⟨gHR_set hF.1 h27 hq (q' := q) (set_self hq) (fun k' j hne => by simp [gupd, hne]) ?_ z o1, hF.2.1.put z o1 (gA_new h27), hF.2.2.1, hS1⟩
        have hq1 := hc.1
        refine ⟨fun z => by omega, fun z => ?_, fun z => by omega, fun z => by omega, fun z => by omega, ha.2.2.2.2.2⟩
        rw [e1, hcl, arrV_store]
        congr 2
        funext j
        unfold updV gupd
        by_cases ej : j = x.toNat
        · simp [ej]
        · simp [ej]
      · cases hst
    · cases hst
  · cases hst
set_option maxHeartbeats 1000000 in
theorem gs_bast (cx : gCx p s mi args c E cc o) (hd : decode cc pc = .ok (.bastore, 1)) (hst : gast 101 (pc + 1) ls st m = some (pc', ls', st', m')) (kk : gW p l e R s mi args below meth c Q E cells slots pc' ls' st' m') : gW p l e R s mi args below meth c Q E cells slots pc ls st m := by
  obtain ⟨hx, hb, hown, hts, hK⟩ := cx
  intro H locs Ls hF
  have hS1 := gast_st hF.2.2.2 hst
  unfold gast at hst
  split at hst
  · next y x k r =>
    split at hst
    · next q hq =>
      split at hst
      · next hc =>
        cases hst
        have hxr : gr32 x := vr_h (vr_t hF.2.2.2.2.1)
        have h27 := old_not hF.1 hq (by omega)
        have ha := hF.1.2.2.2.2 k q h27 hq
        have hcl := o32_clamp hxr
        have hy : y = 0 ∨ y = 1 := by have := hc.2.2.2; omega
        have hnar : narrow .boolean (.int (Int32.ofInt y)) = .int (Int32.ofInt y) := by
          rcases hy with rfl | rfl <;> rfl
        refine W.zast hx hb (ha.2.2.1 hc.1) ((hK.1.2 1 _ rfl).1 _ _) (fun z => by cases z) (by rw [arrV_size]; exact o32_in hxr hc.2.1 hc.2.2.1) rfl rfl hd (fun H1 e1 z o1 => ?_)
        refine kk H1 _ Ls ⟨gHR_set hF.1 h27 hq (q' := q) (set_self hq) (fun k' j hne => by simp [gupd, hne]) ?_ z o1, hF.2.1.put z o1 (gA_new h27), hF.2.2.1, hS1⟩
        have hq1 := hc.1
        refine ⟨fun z => by omega, fun z => by omega, fun z => ?_, fun z => by omega, fun z => by omega, ha.2.2.2.2.2⟩
        rw [e1, hcl, hnar, arrV_store]
        congr 2
        funext j
        unfold updV gupd
        by_cases ej : j = x.toNat
        · simp [ej]
        · simp [ej]
      · cases hst
    · cases hst
  · cases hst
set_option maxHeartbeats 1000000 in
theorem gs_aast (cx : gCx p s mi args c E cc o) (hd : decode cc pc = .ok (.aastore, 1)) (hst : gasq (pc + 1) ls st m = some (pc', ls', st', m')) (kk : gW p l e R s mi args below meth c Q E cells slots pc' ls' st' m') : gW p l e R s mi args below meth c Q E cells slots pc ls st m := by
  obtain ⟨hx, hb, hown, hts, hK⟩ := cx
  intro H locs Ls hF
  have hS1 := gasq_st hF.2.2.2 hst
  unfold gasq at hst
  split at hst
  · next a x k r =>
    split at hst
    · next q b hq hqb =>
      split at hst
      · next hc =>
        cases hst
        have hxr : gr32 x := vr_h (vr_t hF.2.2.2.2.1)
        have h27 := old_not hF.1 hq (by omega)
        have h27b : 27 ≤ a := by
          refine Nat.not_lt.mp fun ho => ?_
          have hqb2 := hqb
          rw [hF.1.2.2.1 a ho] at hqb2
          have := hc.2.1
          rcases gold_at hqb2 with ⟨h1, rfl⟩ | ⟨h1, h2, rfl⟩ | ⟨h1, rfl⟩ <;> simp at this
        have ha := hF.1.2.2.2.2 k q h27 hq
        have hab := hF.1.2.2.2.2 a b h27b hqb
        have hcl := o32_clamp hxr
        obtain ⟨-, -, cellV, g1, g2, g3, -⟩ := hab.1 (by omega)
        rw [hc.2.1] at g2
        have hcls := (hK.1.1 4 _ (gcl_at 4 (by omega))).2
        obtain ⟨kA, comp, k1, k2, k3, -⟩ := (hK.1.2 2 _ rfl).2
        have hcomp : comp = eC E 4 := Option.some.inj (k3.symm.trans hcls.1)
        subst hcomp
        obtain ⟨kC, hkC, hkk⟩ := hcls.2
        have hcA : ClassAt s "GaleBridge$Part" (eC E 4) := hcls
        refine W.aast hx hb (ha.2.2.2.1 hc.1) (fun q h => by cases h) (fun h => by cases h) k1 k2 rfl hkC ⟨fun z => o32_in (n := q.2.1) hxr hc.2.2.1 hc.2.2.2.1 (Or.inl z), by rw [arrV_size, hcl]; omega⟩ g1 (fun q h => by rw [g3] at h; cases h) (by rw [g2]; exact hkC) (by rw [g2]; exact va_assign hcA) rfl rfl hd (fun H1 e1 z o1 => ?_)
        refine kk H1 _ Ls ⟨gHR_set hF.1 h27 hq (q' := (q.1, q.2.1, q.2.2.set x.toNat (some a))) rfl (fun k' j hne => rfl) ?_ z o1, hF.2.1.put z o1 (gA_new h27), hF.2.2.1, hS1⟩
        have hq1 := hc.1
        refine ⟨fun z => by dsimp only at z; omega, fun z => by dsimp only at z; omega, fun z => by dsimp only at z; omega, fun z => ?_, fun z => by dsimp only at z; omega, ha.2.2.2.2.2⟩
        rw [e1, hcl, arrV_store]
        dsimp only
        congr 2
        funext j
        unfold updV
        have hlen : x.toNat < q.2.2.length := by have := hc.2.2.2.2; omega
        by_cases ej : j = x.toNat
        · simp [ej, hlen, va_rf]
        · simp [ej, Ne.symm ej]
      · cases hst
    · cases hst
  · cases hst
end GRows
