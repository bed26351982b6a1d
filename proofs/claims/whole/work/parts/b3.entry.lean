/-! The law, from its entry, on the machine. -/
def gS0 (E : gE) : Nat → Nat → Int := fun k j => if k < 27 then grow E k j else 0
theorem gS0_tx (E : gE) : TXc (gS0 E) := by
  refine ⟨fun k h1 h2 j => ?_, fun k hk => ?_⟩
  · simp only [gS0, grow, if_pos (show k < 27 by omega), if_neg (show ¬ k < 13 by omega), if_pos h2]
  · simp only [gS0, grow, if_pos (show k < 27 by omega), if_pos hk]
theorem gS0_r (E : gE) (k j : Nat) : gr32 (gS0 E k j) := by
  have z : gr32 0 := by unfold gr32; omega
  simp only [gS0, grow]
  split
  · split
    · exact z
    · split
      · exact t32_r _
      · split
        · exact t32_r _
        · exact z
  · exact z
theorem gS0_z (E : gE) (k : Nat) (h : 27 ≤ k) (j : Nat) : gS0 E k j = 0 := by simp only [gS0, if_neg (show ¬ k < 27 by omega)]
theorem gS0_HR {E : gE} {H : Heap} (h : eB E = H.size) : gHR E (gold (eL E), gS0 E) H := by
  have hl := gold_len (eL E)
  refine ⟨by rw [h]; show H.size + 27 = H.size + (gold (eL E)).length; omega, by show 27 ≤ (gold (eL E)).length; omega, fun k _ => rfl, fun k j hk => ?_, fun k q hk hq => ?_⟩
  · simp only [gS0, if_pos hk]
  · have := (List.getElem?_eq_some_iff.mp hq).1
    have h2 : k < (gold (eL E)).length := this
    omega
theorem gSHn_few : gSHn.length ≤ 600000 ∧ gslots gSHn ≤ 7302250 := by decide +kernel
theorem law_end {p : Program} {l : Launch} {e : Env} {s : State} {mi : MethodId} {below : List Frame} {meth : Method} {c : Code} {b cf sf pc len : Nat} {E : gE} {ls st : List gV} {mm : gMem} {raw op : Instr} (hx : p.tables.exec = Jvm.exec) (hb : c.code = code) (hr : meth.sig.returnType = ret) (hlocks : meth.locks = false) (hB : eB E = s.heap.size) (hc : cf ≤ 600000) (hs : sf ≤ 7302250)
    (hd : decode code pc = .ok (raw, len)) (hlen : glen raw = 0 ∨ glen raw = len) (hn : gnorm 13 pc 1 false raw = some op) (hg : gret op st = some (some (vI 1))) : gW p l e room_1 s mi #[Value.ref b] below meth c (lw_Z below #[Value.ref b] s) E cf sf pc ls st mm := by
  obtain ⟨n1, n2, n3, n4, n5, n6, n7⟩ := gnorm_ret hn
  intro H locs Ls hF
  unfold gret at hg
  split at hg
  · exact absurd (n1 rfl).2 (by decide)
  · obtain ⟨rfl, -⟩ := n2 rfl
    obtain rfl : _ = len := hlen.resolve_left (by simp [glen])
    split at hg
    · next x =>
      split at hg
      · have hx1 : x = 1 := Sum.inl.inj (Option.some.inj (Option.some.inj hg))
        subst hx1
        refine va_forget (fun q hq => ?_) (W.widen (k := 600000) (n := 7302250) hc hs ?_)
        · have := hF.2.1.2.2 q hq
          show s.heap.size ≤ q.base
          rw [← hB]
          exact this
        · exact lw_ret hx hb hr hlocks hd
      · cases hg
    · cases hg
  · exact absurd (n3 rfl).2 (by decide)
  · exact absurd (n4 rfl).2 (by decide)
  · exact absurd (n5 rfl).2 (by decide)
  · exact absurd (n6 rfl).2 (by decide)
  · exact absurd (n7 rfl).2 (by decide)
  · cases hg
theorem law_whole (hMul : gMultiLaw) {p : Program} {e : Env} {s : State} {m : MethodId} {below : List Frame} {meth : Method} {c : Code} (l : Launch) {b L : Nat} {xs : Nat → Int32} (hL : L ≤ 384) (C0 : lw_At p s m meth c b L xs) : W p l e room_1 s m #[Value.ref b] below meth c s.heap [] 0 0 (lw_Z below #[Value.ref b] s) (entryFrame m ([Value.ref b] : List Value).toArray 4) := by
  obtain ⟨E, hKK, eB1, eb1, eL1, eX1⟩ := gb_KK hL C0
  obtain ⟨hx, hb, hr, hml, hown, hts, hX, hbl, hlocks, hgv⟩ := C0
  have hO := gKO hKK
  obtain ⟨n, r, m', hex, hm1, rfl⟩ := law_start (eL E) 0 (by rw [eL1]; exact hL) (gS0 E) (gS0_tx E) (gS0_r E 26) (gS0_z E)
  have cx : gCx p s m #[Value.ref b] c E code 13 := ⟨hx, hb, hown, fun w hw => hts w (List.mem_filter.mp hw).1, hKK⟩
  have hmap : ([vR 26] : List gV).map (gcv E) = [Value.ref b] := by
    show [Value.ref (gad E 26)] = [Value.ref b]
    rw [show gad E 26 = b from eb1]
  have hcf : 0 + m'.1.length = gSHn.length + (gold (eL E)).length := by rw [hm1]; unfold gSH; rw [List.length_append]; omega
  have hsf : 0 + gslots m'.1 = gslots gSHn + gslots (gold (eL E)) := by rw [hm1]; unfold gSH; rw [gslots_app]; omega
  have has : ∀ v ∈ ([vR 26] : List gV), gvr v := fun v hv => by
    rcases List.mem_singleton.mp hv with rfl
    exact trivial
  have K := gsound hMul gHm_all l E n (0 + 1001) k_law 0 (gentry 4 [vR 26]) [] (gold (eL E), gS0 E) (some (vI 1)) m' hex (p := p) (e := e) (R := room_1) (s := s) (mi := m) (args := #[Value.ref b]) (below := below) (meth := meth) (c := c) (Q := lw_Z below #[Value.ref b] s) (cc := code) (o := 13) (rt := 1) (ini := false) (cells := 0) (slots := 0) (cf := gSHn.length) (sf := gslots gSHn) cx law_bytes (fun h => by cases h) hml (by decide) (by decide) hcf hsf gSHn_few.1 gSHn_few.2
    (fun pc' ls' st' op raw len hd hlen hn hg => law_end hx hb hr hlocks eB1 gSHn_few.1 gSHn_few.2 hd hlen hn hg) s.heap [] _ ⟨gS0_HR eB1, va_S.rf, gentry_ls hO (by decide), gentry_vr has, (fun v hv => by simp at hv), gS0_r E⟩
  rw [lg_entry_eq]
  rw [hmap] at K
  exact K
