theorem gHR_set {E : gE} {m m' : gMem} {k : Nat} {q q' : gCell} {H H1 : Heap} (h : gHR E m H) (hk : 27 ≤ k) (hq : m.1[k]? = some q) (h1 : m'.1 = m.1.set k q') (h2 : ∀ k' j, k' ≠ k → m'.2 k' j = m.2 k' j) (ha : gat E k q' (m'.2 k) H1) (z : H1.size = H.size) (o : ∀ a, a ≠ gad E k → H1[a]? = H[a]?) : gHR E m' H1 := by
  obtain ⟨g1, g2, g3, g4, g5⟩ := h
  have hlt := (List.getElem?_eq_some_iff.mp hq).1
  refine ⟨by rw [z, h1, List.length_set]; exact g1, by rw [h1, List.length_set]; exact g2, fun k' hk' => ?_, fun k' j hk' => ?_, fun k' q1 hk' hq1 => ?_⟩
  · rw [h1, List.getElem?_set_ne (by omega)]
    exact g3 k' hk'
  · rw [h2 k' j (by omega)]
    exact g4 k' j hk'
  · by_cases e : k' = k
    · subst e
      rw [h1, List.getElem?_set_self hlt] at hq1
      cases hq1
      exact ha
    · rw [h1, List.getElem?_set_ne (Ne.symm e)] at hq1
      have hrow : m'.2 k' = m.2 k' := funext fun j => h2 k' j e
      rw [hrow]
      refine gat_kept (g5 k' q1 hk' hq1) (o _ ?_)
      rw [gad_new hk', gad_new hk]
      omega
theorem gsort_0 {ci j : Nat} (h : gsort ci j = 0) : gTT ci j = .int := by
  unfold gsort at h
  split at h <;> first | assumption | (cases h; done)
theorem gsort_1 {ci j : Nat} (h : gsort ci j = 1) : gTT ci j = .boolean := by
  unfold gsort at h
  split at h <;> first | assumption | (cases h; done)
def gisref : FieldType → Bool
  | .object _ => true
  | .array _ => true
  | _ => false
theorem gsort_2 : ∀ ci, ci < 13 → ∀ j, j < gfields ci → gsort ci j = 2 → gisref (gTT ci j) = true := by decide +kernel
theorem gref_fits {ty : FieldType} (h : gisref ty = true) (a : Nat) : narrow ty (.ref a) = .ref a ∧ fits ty (.ref a) = true := by
  cases ty <;> first | (cases h; done) | exact ⟨rfl, rfl⟩
theorem gA_new {E : gE} {k : Nat} (h : 27 ≤ k) : gA E (gad E k) := by
  rw [gad_new h]
  exact Nat.le_add_right _ _
section GPut
variable {p : Program} {l : Launch} {e : Env} {R : Room} {s : State} {mi : MethodId} {args : Array Value} {below : List Frame} {meth : Method} {c : Code} {Q : State → Prop} {E : gE} {cc : ByteArray} {o cells slots pc pc' : Nat} {ls st ls' st' : List gV} {m m' : gMem}
/-- a field of an object of ours, written -/
theorem gs_put1 (cx : gCx p s mi args c E cc o) {idx cde k : Nat} {r : List Value} {H : Heap} {locs : List Loc} {Ls : Array Slot} {q : gCell} {v : Value} (hini : gfin cde = true → meth.name = "<init>" ∧ cde / 256 = o) (hd : decode cc pc = .ok (.putfield idx, 3)) (hl : gfnd gFl o idx = some cde) (hq : q.1 = cde / 256) (hk13 : cde / 256 < 13) (hj : cde % 64 < gfields (cde / 256)) (ha : gat E k q (m.2 k) H)
    (hn : narrow (gTT (cde / 256) (cde % 64)) v = v) (hfit : fits (gTT (cde / 256) (cde % 64)) v = true)
    (kk : ∀ (H1 : Heap) (sl : Nat), t_OB (gad E k) (eC E (cde / 256)) (gfields (cde / 256)) (eI E (cde / 256)) H1 (updV (gfv E q (m.2 k)) (cde % 64) v) → H1.size = H.size → (∀ a, a ≠ gad E k → H1[a]? = H[a]?) → W p l e R s mi args below meth c H1 (locs ++ [⟨gad E k, sl⟩]) cells slots Q (F0 mi (pc + 3) Ls r)) : W p l e R s mi args below meth c H locs cells slots Q (F0 mi pc Ls (v :: .ref (gad E k) :: r)) := by
  obtain ⟨hx, hb, hown, hts, hK⟩ := cx
  obtain ⟨h1, h2, cell, q1, q2, q3, q4⟩ := ha.1 (by omega)
  rw [hq] at q2 q4
  have hap := va_apart (own := gCN o) hts (gin_at _ hk13) (gTT (cde / 256)) (gy_at _ hk13) (gn_at _ hk13) hK.1 (gcl_at _ hk13)
  obtain ⟨hS, hfc, kC, hkC, hkind⟩ := hK.1.1 (cde / 256) _ (gcl_at _ hk13)
  dsimp only at hS hfc hkC
  obtain ⟨cf, kf, fi, f, hi, hsl⟩ := hS (cde % 64) hj
  have hlays := u_lays hts (gin_at _ hk13) hj
  have hst0 := (u_facts hfc hkC hlays hi).1
  have hlay := hts _ (gin_at _ hk13 _ (u_in_lay hj))
  have hfd := u_fits hfc hkC hkind hlays hi (gy_at _ hk13 _ hj) hn hfit
  have hlt : f.slot < cell.slots.size := by rw [hsl]; exact k2_hasslot (q4 _ hj)
  have hi2 := hi
  rw [gdec_at _ hk13 _ hj] at hi2
  have fin : ∀ H' : Heap, H'[gad E k]? = some (cell.setSlot f.slot v) → H'.size = H.size → (∀ a, a ≠ gad E k → H'[a]? = H[a]?) → W p l e R s mi args below meth c H' (locs ++ [⟨gad E k, f.slot⟩]) cells slots Q (F0 mi (pc + 3) Ls r) := by
    intro H' e1 e2 e3
    rw [hsl] at e1 ⊢
    exact kk H' _ ⟨_, e1, q2, q3, t_set q4 hap hj v⟩ e2 e3
  have hw := gFl_ok _ (gfnd_mem _ _ _ _ hl)
  by_cases hfn : gfin cde = true
  · obtain ⟨hin, hown2⟩ := hini hfn
    have hcf : mi.cls = cf := by
      unfold u_lay at hlay
      rw [if_pos (show (gFT (cde / 256) (cde % 64)).2.2.2 = true from hfn)] at hlay
      obtain ⟨_, _, c', _, _, _, -, -, hf', -, -, -, hown3, -⟩ := Cond.laysFinal_spec hlay
      have e1 : c' = cf := by have := hi.symm.trans hf'; simp at this; exact this.1.symm
      rw [gdec_at _ hk13 _ hj, hown2] at hown3
      have := hown.symm.trans hown3
      simp at this
      rw [this, e1]
    have ha0 : gad E k < H.size := (Array.getElem?_eq_some_iff.mp q1).1
    rcases hw with hw | hw
    · exact W.putFinK hx hb hown (hts _ hw) hi2 hst0 hcf hin (by rw [q2]; exact hfd) q1 q3 hlt rfl rfl hd fin
    · refine va_Wputf hx hb hown (va_Nw.use rfl (hK.2.1 _ hw)) hi2 hst0 (Or.inr ⟨hcf, hin⟩) q1 (by rw [q3]; exact fun z => by cases z) hlt hfd.1 (by rw [q3, q2]; exact hfd.2) rfl rfl hd ?_
      exact fin _ (by simp [ha0]) (by simp) (fun a hne => by rw [Array.getElem?_setIfInBounds_ne (Ne.symm hne)])
  · have hsd : k2_Sd s f (eC E (cde / 256)) v := by
      unfold u_lay at hlay
      rw [if_neg (show ¬ (gFT (cde / 256) (cde % 64)).2.2.2 = true from hfn)] at hlay
      exact u_store hfc hkC hkind hlay hi (gy_at _ hk13 _ hj) hn hfit
    rcases hw with hw | hw
    · exact W.putK hx hb (f := f) ⟨hown, hts _ hw, ⟨_, _, _, hi2⟩, hst0⟩ (by rw [q2]; exact hsd) q1 q3 hlt rfl rfl hd fin
    · exact va_WputK hx hb (f := f) hown (va_Nw.use rfl (hK.2.1 _ hw)) hi2 hst0 (by rw [q2]; exact hsd) q1 q3 hlt rfl rfl hd fin
set_option maxHeartbeats 1000000 in
theorem gs_put (cx : gCx p s mi args c E cc o) {idx cde : Nat} (hini : gfin cde = true → meth.name = "<init>" ∧ cde / 256 = o) (hd : decode cc pc = .ok (.putfield idx, 3)) (hl : gfnd gFl o idx = some cde) (h13 : cde / 256 < 13) (hst : gput cde (pc + 3) ls st m = some (pc', ls', st', m')) (kk : gW p l e R s mi args below meth c Q E cells slots pc' ls' st' m') : gW p l e R s mi args below meth c Q E cells slots pc ls st m := by
  intro H locs Ls hF
  have hS1 := gput_st hF.2.2.2 hst
  have hk := gFl_k _ (gfnd_mem _ _ _ _ hl)
  dsimp only at hk
  obtain ⟨hk13, hj, hso⟩ : cde / 256 < 13 ∧ cde % 64 < gfields (cde / 256) ∧ cde / 64 % 4 = gsort (cde / 256) (cde % 64) := by
    rcases hk with hk | hk | hk
    · exact hk
    · omega
    · omega
  have old : ∀ (k : Nat) (q : gCell), m.1[k]? = some q → q.1 = cde / 256 → 27 ≤ k := by
    intro k q hq hc
    refine Nat.not_lt.mp fun ho => ?_
    rw [hF.1.2.2.1 k ho] at hq
    rcases gold_at hq with ⟨h1, rfl⟩ | ⟨h1, h2, rfl⟩ | ⟨h1, rfl⟩ <;> dsimp only at hc <;> omega
  unfold gput at hst
  split at hst
  · next x k r =>
    split at hst
    · next q hq =>
      split at hst
      · next hc =>
        cases hst
        have h27 := old k q hq hc.1
        have ha := hF.1.2.2.2.2 k q h27 hq
        have hnar : narrow (gTT (cde / 256) (cde % 64)) (.int (Int32.ofInt x)) = .int (Int32.ofInt x) ∧ fits (gTT (cde / 256) (cde % 64)) (.int (Int32.ofInt x)) = true := by
          rcases hc.2.2 with h0 | ⟨h1, hx⟩
          · rw [gsort_0 (by omega)]
            exact ⟨rfl, rfl⟩
          · rw [gsort_1 (by omega)]
            rcases hx with rfl | rfl
            · exact ⟨rfl, rfl⟩
            · exact ⟨rfl, rfl⟩
        refine gs_put1 (E := E) (q := q) cx hini hd hl hc.1 hk13 hj ha hnar.1 hnar.2 (fun H1 sl hO z o1 => ?_)
        refine kk H1 _ Ls ⟨gHR_set hF.1 h27 hq (q' := q) ?_ (fun k' j hne => by simp [gupd, hne]) ?_ z o1, hF.2.1.put z o1 (gA_new h27), hF.2.2.1, hS1⟩
        · show m.1 = m.1.set k q
          have hlt := (List.getElem?_eq_some_iff.mp hq)
          obtain ⟨hl1, hl2⟩ := hlt
          rw [← hl2, List.set_getElem_self]
        · have hne : ¬ q.1 = 100 ∧ ¬ q.1 = 101 ∧ ¬ q.1 = 102 ∧ ¬ q.1 = 103 := by have := hc.1; omega
          refine ⟨fun z => ⟨(ha.1 z).1, (ha.1 z).2.1, ?_⟩, fun z => absurd z hne.1, fun z => absurd z hne.2.1, fun z => absurd z hne.2.2.1, fun z => absurd z hne.2.2.2, ha.2.2.2.2.2⟩
          rw [hc.1]
          refine hO.to (fun j hj2 => ?_)
          unfold updV gfv gupd
          rw [hc.1]
          by_cases e : j = cde % 64
          · subst e
            have : ¬ gsort (cde / 256) (cde % 64) = 2 := by rcases hc.2.2 with h0 | h0 <;> omega
            simp [this, gcv]
          · simp [e]
      · cases hst
    · cases hst
  · next a k r =>
    split at hst
    · next q hq =>
      split at hst
      · next hc =>
        cases hst
        have h27 := old k q hq hc.1
        have ha := hF.1.2.2.2.2 k q h27 hq
        have hnar := gref_fits (gsort_2 _ hk13 _ hj (by omega)) (gad E a)
        refine gs_put1 (E := E) (q := q) cx hini hd hl hc.1 hk13 hj ha hnar.1 hnar.2 (fun H1 sl hO z o1 => ?_)
        refine kk H1 _ Ls ⟨gHR_set hF.1 h27 hq (q' := (q.1, q.2.1, q.2.2.set (cde % 64) (some a))) rfl (fun k' j hne => rfl) ?_ z o1, hF.2.1.put z o1 (gA_new h27), hF.2.2.1, hS1⟩
        have hne : ¬ q.1 = 100 ∧ ¬ q.1 = 101 ∧ ¬ q.1 = 102 ∧ ¬ q.1 = 103 := by have := hc.1; omega
        refine ⟨fun z => ⟨(ha.1 z).1, by dsimp only; rw [List.length_set]; exact (ha.1 z).2.1, ?_⟩, fun z => absurd z hne.1, fun z => absurd z hne.2.1, fun z => absurd z hne.2.2.1, fun z => absurd z hne.2.2.2, ha.2.2.2.2.2⟩
        dsimp only
        rw [hc.1]
        refine hO.to (fun j hj2 => ?_)
        unfold updV gfv
        dsimp only
        rw [hc.1]
        by_cases e : j = cde % 64
        · subst e
          have h2 : gsort (cde / 256) (cde % 64) = 2 := by omega
          have h3 : cde % 64 < q.2.2.length := hc.2.2.2
          simp [h2, h3, va_rf, gcv]
        · simp [e, Ne.symm e]
      · cases hst
    · cases hst
  · cases hst
end GPut
