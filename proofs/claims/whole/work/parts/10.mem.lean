/-! One instruction of the small machine is one of the machine's: reads and writes of cells. -/
def gFr (E : gE) (s : State) (m : gMem) (H : Heap) (locs : List Loc) (ls : List gV) (Ls : Array Slot) (st : List gV) : Prop := gHR E m H ∧ va_S (gA E) s.heap H locs ∧ gLs E ls Ls ∧ gSt ls st m
def gW (p : Program) (l : Launch) (e : Env) (R : Room) (s : State) (mi : MethodId) (args : Array Value) (below : List Frame) (meth : Method) (c : Code) (Q : State → Prop) (E : gE) (cells slots pc : Nat) (ls st : List gV) (m : gMem) : Prop :=
  ∀ (H : Heap) (locs : List Loc) (Ls : Array Slot), gFr E s m H locs ls Ls st → W p l e R s mi args below meth c H locs cells slots Q (F0 mi pc Ls (st.map (gcv E)))
def gCx (p : Program) (s : State) (mi : MethodId) (args : Array Value) (c : Code) (E : gE) (cc : ByteArray) (o : Nat) : Prop :=
  p.tables.exec = Jvm.exec ∧ c.code = cc ∧ s.vm.findClass (gCN o) = some mi.cls ∧ (∀ w ∈ gtbl, w.before args s = true) ∧ gKK E s
theorem gcl_at : ∀ ci, ci < 13 → gCl[ci]? = some (gCN ci, gFT ci, gfields ci)
  | 0, _ => rfl | 1, _ => rfl | 2, _ => rfl | 3, _ => rfl | 4, _ => rfl | 5, _ => rfl | 6, _ => rfl | 7, _ => rfl | 8, _ => rfl | 9, _ => rfl | 10, _ => rfl | 11, _ => rfl | 12, _ => rfl
  | n + 13, h => absurd h (by omega)
theorem gin_at : ∀ ci, ci < 13 → ∀ w ∈ u_ws (gCN ci) (gFT ci) (gfields ci), w ∈ gtbl
  | 0, _ => gi_0 | 1, _ => gi_1 | 2, _ => gi_2 | 3, _ => gi_3 | 4, _ => gi_4 | 5, _ => gi_5 | 6, _ => gi_6 | 7, _ => gi_7 | 8, _ => gi_8 | 9, _ => gi_9 | 10, _ => gi_10 | 11, _ => gi_11 | 12, _ => gi_12
  | n + 13, h => absurd h (by omega)
theorem gy_at : ∀ ci, ci < 13 → ∀ k, k < gfields ci → parseFieldDescriptor (gFT ci k).2.2.1 = some (gTT ci k)
  | 0, _ => gy_0 | 1, _ => gy_1 | 2, _ => gy_2 | 3, _ => gy_3 | 4, _ => gy_4 | 5, _ => gy_5 | 6, _ => gy_6 | 7, _ => gy_7 | 8, _ => gy_8 | 9, _ => gy_9 | 10, _ => gy_10 | 11, _ => gy_11 | 12, _ => gy_12
  | n + 13, h => absurd h (by omega)
theorem gn_at : ∀ ci, ci < 13 → ∀ a, a < gfields ci → ∀ b, b < gfields ci → a ≠ b → (gFT ci a).2.1 ≠ (gFT ci b).2.1
  | 0, _ => gn_0 | 1, _ => gn_1 | 2, _ => gn_2 | 3, _ => gn_3 | 4, _ => gn_4 | 5, _ => gn_5 | 6, _ => gn_6 | 7, _ => gn_7 | 8, _ => gn_8 | 9, _ => gn_9 | 10, _ => gn_10 | 11, _ => gn_11 | 12, _ => gn_12
  | n + 13, h => absurd h (by omega)
theorem gdec_at : ∀ ci, ci < 13 → ∀ k, k < gfields ci → (gFT ci k).1 = gCN ci := by decide +kernel
theorem gFl_k : ∀ q ∈ gFl, (q.2.2 / 256 < 13 ∧ q.2.2 % 64 < gfields (q.2.2 / 256) ∧ q.2.2 / 64 % 4 = gsort (q.2.2 / 256) (q.2.2 % 64)) ∨ q.2.2 = 5248 ∨ q.2.2 = 5121 := by decide +kernel
theorem gold_at {L k : Nat} {q : gCell} (h : (gold L)[k]? = some q) : (k < 13 ∧ q = (20, 2, [some (13 + k), none])) ∨ (13 ≤ k ∧ k < 26 ∧ q = (21, gLen.getD (k - 13) 0, [])) ∨ (k = 26 ∧ q = (22, L, [])) := by
  unfold gold at h
  by_cases h1 : k < 13
  · rw [List.getElem?_append_left (by simpa using h1)] at h
    simp [h1] at h
    exact Or.inl ⟨h1, h.symm⟩
  · rw [List.getElem?_append_right (by simp; omega)] at h
    simp only [List.length_map, List.length_range] at h
    by_cases h2 : k < 26
    · rw [List.getElem?_append_left (by simp; omega)] at h
      have h3 : k - 13 < 13 := by omega
      simp [h3] at h
      exact Or.inr (Or.inl ⟨by omega, h2, h.symm⟩)
    · rw [List.getElem?_append_right (by simp; omega)] at h
      simp only [List.length_map, List.length_range] at h
      have h4 : k - 13 - 13 < 1 := (List.getElem?_eq_some_iff.mp h).1
      have h5 : k = 26 := by omega
      subst h5
      simp at h
      exact Or.inr (Or.inr ⟨rfl, h.symm⟩)
theorem gz_3 : Cond.fieldLink "java/lang/String" 9 "java/lang/String" "value" "[B" ∈ gtbl := gm8 225 rfl rfl
theorem gz_4 : Cond.fieldLink "java/lang/String" 15 "java/lang/String" "coder" "B" ∈ gtbl := gm8 226 rfl rfl
theorem gFl_s : ∀ q ∈ gFl, (q.2.2 = 5248 → q.1 = 14 ∧ q.2.1 = 9) ∧ (q.2.2 = 5121 → q.1 = 14 ∧ q.2.1 = 15) := by decide +kernel
theorem gad_new {E : gE} {k : Nat} (h : 27 ≤ k) : gad E k = eB E + (k - 27) := by
  unfold gad
  rw [if_neg (by omega), if_neg (by omega), if_neg (by omega)]
theorem gat_kept {E : gE} {k : Nat} {q : gCell} {row : Nat → Int} {H H1 : Heap} (h : gat E k q row H) (e : H1[gad E k]? = H[gad E k]?) : gat E k q row H1 := by
  obtain ⟨h1, h2, h3, h4, h5, h6⟩ := h
  exact ⟨fun z => ⟨(h1 z).1, (h1 z).2.1, (h1 z).2.2.kept e⟩, fun z => e.trans (h2 z), fun z => e.trans (h3 z), fun z => e.trans (h4 z), fun z => e.trans (h5 z), h6⟩
section GMem
variable {p : Program} {l : Launch} {e : Env} {R : Room} {s : State} {mi : MethodId} {args : Array Value} {below : List Frame} {meth : Method} {c : Code} {Q : State → Prop} {E : gE} {cc : ByteArray} {o cells slots pc pc' : Nat} {ls st ls' st' : List gV} {m m' : gMem}
/-- a field of an object of ours, read -/
theorem gs_get1 (cx : gCx p s mi args c E cc o) {idx cde k : Nat} {r : List gV} {H : Heap} {locs : List Loc} {Ls : Array Slot} {q : gCell} (hd : decode cc pc = .ok (.getfield idx, 3)) (hl : gfnd gFl o idx = some cde) (hq : q.1 = cde / 256) (hk13 : cde / 256 < 13) (hj : cde % 64 < gfields (cde / 256)) (ha : gat E k q (m.2 k) H)
    (kk : W p l e R s mi args below meth c H locs cells slots Q (F0 mi (pc + 3) Ls (gfv E q (m.2 k) (cde % 64) :: r.map (gcv E)))) : W p l e R s mi args below meth c H locs cells slots Q (F0 mi pc Ls (.ref (gad E k) :: r.map (gcv E))) := by
  obtain ⟨hx, hb, hown, hts, hK⟩ := cx
  obtain ⟨h1, h2, cell, q1, q2, q3, q4⟩ := ha.1 (by omega)
  rw [hq] at q2 q4
  obtain ⟨hS, hfc, kC, hkC, hkind⟩ := hK.1.1 (cde / 256) _ (gcl_at _ hk13)
  dsimp only at hS hfc hkC
  obtain ⟨cf, kf, fi, f, hi, hsl⟩ := hS (cde % 64) hj
  have hst0 := (u_facts hfc hkC (u_lays hts (gin_at _ hk13) hj) hi).1
  rw [gdec_at _ hk13 _ hj] at hi
  have hslot : cell.slots[f.slot]? = some (gfv E q (m.2 k) (cde % 64)) := by rw [hsl]; exact q4 _ hj
  have hw := gFl_ok _ (gfnd_mem _ _ _ _ hl)
  rcases hw with hw | hw
  · exact W.getf hx hb hown (hts _ hw) hi hst0 q1 (by rw [q3]; exact fun z => by cases z) hslot rfl rfl hd kk
  · exact va_Wgetf hx hb hown (va_Nw.use rfl (hK.2.1 _ hw)) hi hst0 q1 (by rw [q3]; exact fun z => by cases z) hslot rfl rfl hd kk
set_option maxHeartbeats 1000000 in
theorem gs_get (cx : gCx p s mi args c E cc o) {idx cde : Nat} (hd : decode cc pc = .ok (.getfield idx, 3)) (hl : gfnd gFl o idx = some cde) (hst : gget cde (pc + 3) ls st m = some (pc', ls', st', m')) (kk : gW p l e R s mi args below meth c Q E cells slots pc' ls' st' m') : gW p l e R s mi args below meth c Q E cells slots pc ls st m := by
  have cx0 := cx
  obtain ⟨hx, hb, hown, hts, hK⟩ := cx
  intro H locs Ls hF
  have hS1 := gget_st hF.2.2.2 hst
  have hk := gFl_k _ (gfnd_mem _ _ _ _ hl)
  have hs := gFl_s _ (gfnd_mem _ _ _ _ hl)
  dsimp only at hk hs
  unfold gget at hst
  split at hst
  · next k r =>
    split at hst
    · next q hq =>
      split at hst
      · next hc =>
        have hcell : m.1[k]? = some q := hq
        by_cases ho : k < 27
        · rw [hF.1.2.2.1 k ho] at hcell
          rcases gold_at hcell with ⟨h1, rfl⟩ | ⟨h1, h2, rfl⟩ | ⟨h1, rfl⟩
          · have hgad : gad E k = eK E k := by simp [gad, h1]
            have hgad2 : gad E (13 + k) = eV E k := by
              unfold gad
              rw [if_neg (by omega), if_pos (by omega), show 13 + k - 13 = k by omega]
            obtain ⟨e1, e2, e3, e4⟩ := hK.2.2.2.2.1.1 k h1
            have hc1 : 20 = cde / 256 := hc.1
            rcases hk with hk | hk | hk
            · omega
            · obtain ⟨ho14, hi9⟩ := hs.1 hk
              subst hk; subst ho14; subst hi9
              simp at hst
              obtain ⟨rfl, rfl, rfl, rfl⟩ := hst
              have kk2 := kk H locs Ls ⟨hF.1, hF.2.1, hF.2.2.1, hS1⟩
              show W p l e R s mi args below meth c H locs cells slots Q (F0 mi pc Ls (.ref (gad E k) :: r.map (gcv E)))
              rw [hgad]
              refine vk_getf hx hb e3 hF.2.1 hown (hts _ gz_3) (fun _ z => z) hd ?_
              rw [← hgad2]
              exact kk2
            · obtain ⟨ho14, hi9⟩ := hs.2 hk
              subst hk; subst ho14; subst hi9
              simp at hst
              obtain ⟨rfl, rfl, rfl, rfl⟩ := hst
              have kk2 := kk H locs Ls ⟨hF.1, hF.2.1, hF.2.2.1, hS1⟩
              show W p l e R s mi args below meth c H locs cells slots Q (F0 mi pc Ls (.ref (gad E k) :: r.map (gcv E)))
              rw [hgad]
              refine vk_getf hx hb e2 hF.2.1 hown (hts _ gz_4) (fun _ z => z) hd ?_
              have e0 : m.2 k 1 = 0 := by rw [hF.1.2.2.2.1 k 1 ho]; simp [grow, h1]
              have kk3 : W p l e R s mi args below meth c H locs cells slots Q (F0 mi (pc + 3) Ls (.int (Int32.ofInt (m.2 k 1)) :: r.map (gcv E))) := kk2
              rw [e0] at kk3
              exact kk3
          · have := hc.1; dsimp only at this
            rcases hk with hk | hk | hk <;> omega
          · have := hc.1; dsimp only at this
            rcases hk with hk | hk | hk <;> omega
        · have ha := hF.1.2.2.2.2 k q (by omega) hcell
          have hq13 : q.1 < 13 ∨ q.1 = 100 ∨ q.1 = 101 ∨ q.1 = 102 ∨ q.1 = 103 := ha.2.2.2.2.2.1
          have hc1 := hc.1
          rcases hk with ⟨hk13, hj, hso⟩ | hk | hk
          · have hv := gs_get1 (l := l) (e := e) (R := R) (below := below) (meth := meth) (Q := Q) (cells := cells) (slots := slots) (r := r) (locs := locs) (Ls := Ls) (k := k) cx0 hd hl hc1 hk13 hj ha
            refine hv ?_
            unfold gfv
            rw [hc1]
            split at hst
            · next hsort =>
              rw [if_pos (by omega)]
              split at hst
              · next a hqa =>
                cases hst
                rw [List.getD_eq_getElem?_getD, hqa]
                exact kk H locs Ls ⟨hF.1, hF.2.1, hF.2.2.1, hS1⟩
              · cases hst
            · next hsort =>
              rw [if_neg (by omega)]
              cases hst
              exact kk H locs Ls ⟨hF.1, hF.2.1, hF.2.2.1, hS1⟩
          · omega
          · omega
      · cases hst
    · cases hst
  · cases hst
end GMem
