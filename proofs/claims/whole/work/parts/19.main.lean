/-- what is proved of runs of at most n steps -/
def gSnd (l : Launch) (E : gE) (n : Nat) : Prop := ∀ (d : Nat) (C : gCode) (pc : Nat) (ls st : List gV) (m : gMem) (r : Option gV) (m' : gMem), gexec gT n d C pc ls st m = some (r, m') →
  ∀ {p : Program} {e : Env} {R : Room} {s : State} {mi : MethodId} {args : Array Value} {below : List Frame} {meth : Method} {c : Code} {Q : State → Prop} {cc : ByteArray} {o rt : Nat} {ini : Bool} {cells slots cf sf : Nat}, gCx p s mi args c E cc o → C.all (gokB o cc rt ini) = true → (ini = true → meth.name = "<init>") → c.maxLocals = ls.length → d + 1 ≤ R.frames → 60 * (d + 1) ≤ R.locals → cells + m'.1.length = cf + m.1.length → slots + gslots m'.1 = sf + gslots m.1 → cf ≤ R.cells → sf ≤ R.slots →
    (∀ (pc' : Nat) (ls' st' : List gV) (op raw : Instr) (len : Nat), decode cc pc' = .ok (raw, len) → (glen raw = 0 ∨ glen raw = len) → gnorm o pc' rt ini raw = some op → gret op st' = some r → gW p l e R s mi args below meth c Q E cf sf pc' ls' st' m') → gW p l e R s mi args below meth c Q E cells slots pc ls st m
def gRm (d mc ms : Nat) : Room := { frames := d + 1, cells := mc, slots := ms, locals := 60 * (d + 1) }
set_option maxHeartbeats 1000000 in
/-- a method's contract, out of a run of the small machine -/
theorem gmet (hH : ∀ n, gHm n) {l : Launch} {E : gE} {n : Nat} (ih : gSnd l E n) {y d maxL na rk : Nat} {C : gCode} {as : List gV} {m m1 : gMem} {r : Option gV} (hy : gT y = some (C, maxL, na, rk)) (he : gexec gT n d C 0 (gentry maxL as) [] m = some (r, m1)) (hfl : (gflat as).length ≤ maxL) (has : ∀ v ∈ as, gvr v) (hmr : ∀ k j, gr32 (m.2 k j)) {b : ByteArray} {rty : Option FieldType} (eb1 : gBs.getD y ⟨#[]⟩ = b) (er : gRs.getD y none = rty) :
    Met l (gY y) (Cond.code (gY y) b maxL rty :: gtbl) (gRm d (m1.1.length - m.1.length) (gslots m1.1 - gslots m.1)) (gPc E as m) (gQc E r m1) (m1.1.length - m.1.length) (gslots m1.1 - gslots m.1) (gA E) := by
  have hm := hH y _ hy
  rw [eb1, er] at hm
  obtain ⟨w1, w2, w3, w4, w5, w6, w7, w8, w9, w10⟩ := hm
  obtain ⟨-, -, g3, g4⟩ := gexec_ok gT (gT_opr hH) n d C 0 (gentry maxL as) [] m r m1 (gok_opr w10) ⟨gentry_vr has, (fun v hv => by simp at hv), hmr⟩ he
  refine Met.ofW (cc := b) (maxL := maxL) (ret := rty) w3 rfl ?_
  intro p e s mi args below meth c s₁ B hml hv
  obtain ⟨rfl, hHR, hKK⟩ := hv
  have hts := atoms_spec (ws := Cond.code (gY y) b maxL rty :: gtbl) B.pre
  have hown : s.vm.findClass (gY y).cls = some mi.cls := findClass_of_methodNamed B.named
  rw [w5] at hown
  have hO := gKO hKK
  rw [lg_entry_eq]
  have cx : gCx p s mi (as.map (gcv E)).toArray c E b (gKs.getD y (0, 9)).1 := ⟨B.exec, B.bytes, hown, fun w hw => hts w (List.mem_cons_of_mem _ hw), hKK⟩
  refine ih d C 0 (gentry maxL as) [] m r m1 he cx w10 (fun hi => ?_) (by rw [gentry_len hfl]; exact hml) (Nat.le_refl _) (Nat.le_refl _) (cells := 0) (slots := 0) (cf := m1.1.length - m.1.length) (sf := gslots m1.1 - gslots m.1) (by omega) (by omega) (Nat.le_refl _) (Nat.le_refl _) (fun pc' ls' st' op raw len hd hlen hn hg => gs_ret cx B.returns w9 B.notSynchronized hd hlen hn hg) s.heap [] _ ⟨hHR, va_S.rf, gentry_ls hO hfl, gentry_vr has, (fun v hv => by simp at hv), hmr⟩
  have hk1 : (gKs.getD y (0, 9)).2 = 1 := of_decide_eq_true hi
  have hnm : (gY y).name = "<init>" := by
    rcases w8 with h | h | h
    · omega
    · exact h.2.2.2.2.2.1
    · omega
  have := (name_of_methodNamed B.named B.method).1
  rw [this, hnm]
set_option maxHeartbeats 2000000 in
theorem gsound (hMul : gMultiLaw) (hH : ∀ n, gHm n) (l : Launch) (E : gE) : ∀ n, gSnd l E n := by
  intro n
  induction n with
  | zero =>
    intro d C pc ls st m r m' h
    simp [gexec] at h
  | succ n ih =>
    intro d C pc ls st m r m' h p e R s mi args below meth c Q cc o rt ini cells slots cf sf cx hC hini hml hfr hlo hc hs hcR hsR hret
    unfold gexec at h
    cases hf : gfind C pc with
    | none => simp [hf] at h
    | some q =>
      obtain ⟨op, nx⟩ := q
      obtain ⟨raw, len, hd, hnx, hlen, hn⟩ := gok_row hC (gfind_mem C pc _ hf)
      subst hnx
      simp only [hf] at h
      cases hcl : gcallee op with
      | some y =>
        simp only [hcl] at h
        cases d with
        | zero => simp at h
        | succ d' =>
          simp only at h
          cases hy : gT y with
          | none => simp [hy] at h
          | some M =>
            obtain ⟨C', maxL, na, rk⟩ := M
            simp only [hy] at h
            cases hsp : gsplit maxL na rk m st with
            | none => simp [hsp] at h
            | some ar =>
              obtain ⟨as, rest⟩ := ar
              simp only [hsp] at h
              cases he : gexec gT n d' C' 0 (gentry maxL as) [] m with
              | none => simp [he] at h
              | some rm =>
                obtain ⟨r1, m1⟩ := rm
                simp only [he] at h
                obtain ⟨s1, s2, s3, s4, s5⟩ := gsplit_spec hsp
                have hop := gcallee_op hcl
                subst hop
                obtain ⟨i, hml2, hraw⟩ := gnorm_call hn
                intro H locs Ls hF
                have hst := hF.2.2.2
                have has : ∀ v ∈ as, gvr v := fun v hv => hst.2.1 v (by rw [s2]; exact List.mem_append_left _ (List.mem_reverse.mpr hv))
                have hrs : ∀ v ∈ rest, gvr v := fun v hv => hst.2.1 v (by rw [s2]; exact List.mem_append_right _ hv)
                have hm := hH y _ hy
                obtain ⟨b, eb1⟩ : ∃ b, gBs.getD y ⟨#[]⟩ = b := ⟨_, rfl⟩
                obtain ⟨rty, er⟩ : ∃ r, gRs.getD y none = r := ⟨_, rfl⟩
                have hM := gmet hH ih hy he s3 has hst.2.2 eb1 er
                rw [eb1, er] at hm
                obtain ⟨w1, w2, w3, w4, w5, w6, w7, w8, w9, w10⟩ := hm
                dsimp only at w1 w6 w7 w8 w10
                obtain ⟨a1, a2, a3, a4⟩ := gexec_ok gT (gT_opr hH) n d' C' 0 (gentry maxL as) [] m r1 m1 (gok_opr w10) ⟨gentry_vr has, (fun v hv => by simp at hv), hst.2.2⟩ he
                have hS1 : gSt ls (r1.toList ++ rest) m1 := ⟨hst.1, fun v hv => by
                  rcases List.mem_append.mp hv with q | q
                  · cases r1 with
                    | none => simp at q
                    | some w => simp at q; subst q; exact a1 _ rfl
                  · exact hrs v q, a2⟩
                obtain ⟨b1, b2, b3, b4⟩ := gexec_ok gT (gT_opr hH) n (d' + 1) C _ ls (r1.toList ++ rest) m1 r m' (gok_opr hC) hS1 h
                have hl3 : len = 3 := by
                  rcases hraw with ⟨rfl, -⟩ | ⟨rfl, -⟩ | ⟨rfl, -⟩ <;> rcases hlen with q | q <;> simp [glen] at q <;> exact q.symm
                subst hl3
                have kk := ih (d' + 1) C (pc + 3) ls (r1.toList ++ rest) m1 r m' h cx hC hini hml hfr hlo (cells := cells + (m1.1.length - m.1.length)) (slots := slots + (gslots m1.1 - gslots m.1)) (by omega) (by omega) hcR hsR hret
                obtain ⟨hx, hb, hown, hts, hK⟩ := id cx
                have hO := gKO hK
                have hroom : 2 * (F0 mi pc Ls (st.map (gcv E))).monitorRoom + ((rest.map (gcv E)).map fun v => v.category).sum ≤ 8 := by
                  rw [gsum hO]
                  exact (by have := gfew_le s4; show 2 * 0 + _ ≤ 8; omega)
                have fx : CallFix p mi c cc ls.length s args gtbl (gCN o) := ⟨hx, hb, hml, hown, hts⟩
                have hmw : ∀ w ∈ (Cond.code (gY y) b maxL rty :: gtbl), ∀ (a' : Array Value) (U : State), s.WarmedH U.vm → w.before a' U = true := pay_in hts (gGood (fun w hw => by
                  rcases List.mem_cons.mp hw with rfl | q
                  · exact w1
                  · exact q))
                have hbud : cells + (m1.1.length - m.1.length) ≤ R.cells ∧ slots + (gslots m1.1 - gslots m.1) ≤ R.slots := ⟨by omega, by omega⟩
                have hlc : 8 + (maxL + 11) + (gRm d' (m1.1.length - m.1.length) (gslots m1.1 - gslots m.1)).locals ≤ R.locals := by
                  show 8 + (maxL + 11) + 60 * (d' + 1) ≤ R.locals
                  omega
                have hfc : (gRm d' (m1.1.length - m.1.length) (gslots m1.1 - gslots m.1)).frames + 1 ≤ R.frames := hfr
                have hPcU : ∀ U : State, U.heap = H → s.WarmedH U.vm → gPc E as m (as.map (gcv E)).toArray U := fun U hU hW => ⟨rfl, by rw [hU]; exact hF.1, gKK_warm hW (by rw [hU]; exact hF.2.1) hK⟩
                have hdesc : ∀ k, (if (gKs.getD y (0, 9)).2 = 2 then na else na - 1) = k → ∀ sig, parseMethodDescriptor (gY y).desc = some sig → k = sig.parameters.length := fun k hk sig hsig => by
                  rw [hsig] at w7
                  have h7 := Option.some.inj w7
                  dsimp only at h7
                  omega
                have hlinkw := gMl_ok _ (gfnd_mem _ _ _ _ hml2)
                have hbase : (gRm d' (m1.1.length - m.1.length) (gslots m1.1 - gslots m.1)).cells = (m1.1.length - m.1.length) ∧ (gRm d' (m1.1.length - m.1.length) (gslots m1.1 - gslots m.1)).slots = (gslots m1.1 - gslots m.1) := ⟨rfl, rfl⟩
                have hsz : (F0 mi pc Ls (st.map (gcv E))).locals.size = ls.length := hF.2.2.1.1
                -- an object's own method, or a constructor: the first argument
                have first : (gKs.getD y (0, 9)).2 = 0 ∨ (gKs.getD y (0, 9)).2 = 1 → ∃ (k : Nat) (t : List gV), as = Sum.inr (Sum.inr (Sum.inl k)) :: t ∧ t.length = na - 1 ∧ st.map (gcv E) = (t.map (gcv E)).reverse ++ .ref (gad E k) :: rest.map (gcv E) ∧ ∃ cellB : Cell, H[gad E k]? = some cellB ∧ cellB.vm.isStatics = false ∧ s.vm.findClass (gY y).cls = some cellB.cls := by
                  intro hkd
                  have hrk : ∃ k0, rk = k0 + 1 ∧ (k0 = (gKs.getD y (0, 9)).1 ∧ (gKs.getD y (0, 9)).1 < 13 ∨ k0 = 20 ∧ (gKs.getD y (0, 9)).1 = 14) := by
                    rcases w8 with z | z | z
                    · obtain ⟨-, -, z3, z4, -⟩ := z
                      by_cases h14 : (gKs.getD y (0, 9)).1 = 14
                      · rw [if_pos h14] at z3; exact ⟨20, z3, Or.inr ⟨rfl, h14⟩⟩
                      · rw [if_neg h14] at z3; exact ⟨_, z3, Or.inl ⟨rfl, by omega⟩⟩
                    · obtain ⟨-, -, z3, z4, -⟩ := z
                      exact ⟨_, z3, Or.inl ⟨rfl, z4⟩⟩
                    · omega
                  obtain ⟨k0, rfl, hk0⟩ := hrk
                  unfold grecv at s5
                  dsimp only at s5
                  split at s5
                  · next k t =>
                    refine ⟨k, t, rfl, by simp at s1; omega, by rw [s2]; simp [gcv], ?_⟩
                    split at s5
                    · next q hq =>
                      have hqk := Nat.eq_of_beq_eq_true s5
                      by_cases ho27 : k < 27
                      · have hq2 := hq
                        rw [hF.1.2.2.1 k ho27] at hq2
                        rcases gold_at hq2 with ⟨g1, rfl⟩ | ⟨g1, g2, rfl⟩ | ⟨g1, rfl⟩
                        · have h20 : k0 = 20 ∧ (gKs.getD y (0, 9)).1 = 14 := by
                            rcases hk0 with z | z
                            · dsimp only at hqk; omega
                            · exact z
                          rw [w5, h20.2]
                          have hgad : gad E k = eK E k := by simp [gad, g1]
                          rw [hgad]
                          exact vk_recv hK.2.2.2.2.1 g1 hF.2.1
                        · dsimp only at hqk; rcases hk0 with z | z <;> omega
                        · dsimp only at hqk; rcases hk0 with z | z <;> omega
                      · have ha := hF.1.2.2.2.2 k q (by omega) hq
                        have hq13 := ha.2.2.2.2.2.1
                        have hk13 : k0 = (gKs.getD y (0, 9)).1 ∧ (gKs.getD y (0, 9)).1 < 13 := by rcases hk0 with z | z <;> omega
                        obtain ⟨-, -, cell, q1, q2, q3, -⟩ := ha.1 (by omega)
                        refine ⟨cell, q1, by rw [q3]; rfl, ?_⟩
                        rw [w5, q2, hqk, ← hk13.1]
                        exact (hK.1.1 k0 _ (gcl_at k0 (by omega))).2.1
                    · cases s5
                  · cases s5
                rcases hraw with ⟨rfl, hkd⟩ | ⟨rfl, hkd⟩ | ⟨rfl, hkd⟩
                · obtain ⟨k, t, rfl, ht1, ht2, hcell⟩ := first (Or.inl hkd)
                  have w8' : Cond.instanceMethod (gY y) ∈ gtbl ∧ Cond.selects (gY y).cls (gY y) (gY y) ∈ gtbl := by
                    rcases w8 with z | z | z
                    · exact ⟨z.2.2.2.2.1, z.2.2.2.2.2⟩
                    · omega
                    · omega
                  have hp : PreV s H (gY y).cls (gad E k) (gPc E (Sum.inr (Sum.inr (Sum.inl k)) :: t) m) (t.map (gcv E)) := ⟨gPc_blind, hcell, hPcU⟩
                  rcases hlinkw with hw | hw
                  · refine gs_run hF hS1 (va_runV (n := na - 1) fx hM ⟨⟨hbase.1, hbase.2, hfc, hlc, hmw, List.mem_cons_self, hts _ w1, hts _ w2, w4, hdesc _ (by rw [hkd]; simp), hts _ hw⟩, hts _ w8'.1, hts _ w8'.2⟩ hp rfl (by simp; omega) hsz ht2 hroom hd hbud) kk
                  · refine gs_run hF hS1 (va_runVN (n := na - 1) fx hM ⟨⟨⟨hbase.1, hbase.2, hfc, hlc, hmw, List.mem_cons_self⟩, hts _ w1, hts _ w2, w4, hdesc _ (by rw [hkd]; simp), va_Nw.use rfl (hK.2.1 _ hw)⟩, hts _ w8'.1, hts _ w8'.2⟩ hp rfl (by simp; omega) hsz ht2 hroom hd hbud) kk
                · have w8' : Cond.static (gY y) ∈ gtbl := by
                    rcases w8 with z | z | z
                    · omega
                    · omega
                    · exact z.2
                  have hp : PreS s H (gPc E as m) (as.map (gcv E)) := ⟨gPc_blind, hPcU⟩
                  have ht2 : st.map (gcv E) = (as.map (gcv E)).reverse ++ rest.map (gcv E) := by rw [s2]; simp
                  rcases hlinkw with hw | hw
                  · refine gs_run hF hS1 (va_runS (n := na) fx hM ⟨⟨hbase.1, hbase.2, hfc, hlc, hmw, List.mem_cons_self, hts _ w1, hts _ w2, w4, hdesc _ (by rw [hkd]; simp), hts _ hw⟩, hts _ w8'⟩ hp rfl (by simp; omega) hsz ht2 hroom hd hbud) kk
                  · refine gs_run hF hS1 (va_runSN (n := na) fx hM ⟨⟨⟨hbase.1, hbase.2, hfc, hlc, hmw, List.mem_cons_self⟩, hts _ w1, hts _ w2, w4, hdesc _ (by rw [hkd]; simp), va_Nw.use rfl (hK.2.1 _ hw)⟩, hts _ w8', trivial⟩ hp rfl (by simp; omega) hsz ht2 hroom hd hbud) kk
                · obtain ⟨k, t, rfl, ht1, ht2, hcell⟩ := first (Or.inr hkd)
                  have w8' : Cond.instanceMethod (gY y) ∈ gtbl ∧ (gY y).name = "<init>" ∧ rty = none := by
                    rcases w8 with z | z | z
                    · omega
                    · exact z.2.2.2.2
                    · omega
                  obtain ⟨wa, wb, wc⟩ := w8'
                  subst wc
                  have hp : PreS s H (gPc E (Sum.inr (Sum.inr (Sum.inl k)) :: t) m) (.ref (gad E k) :: t.map (gcv E)) := ⟨gPc_blind, hPcU⟩
                  rcases hlinkw with hw | hw
                  · refine gs_run hF hS1 (va_runI (n := na - 1) fx hM ⟨⟨hbase.1, hbase.2, hfc, hlc, hmw, List.mem_cons_self, hts _ w1, hts _ w2, w4, hdesc _ (by rw [hkd]; simp), hts _ hw⟩, wb, hts _ wa⟩ hp rfl (by simp; omega) hsz ht2 hroom hd hbud) kk
                  · refine gs_run hF hS1 (va_runIN (n := na - 1) fx hM ⟨⟨⟨hbase.1, hbase.2, hfc, hlc, hmw, List.mem_cons_self⟩, hts _ w1, hts _ w2, w4, hdesc _ (by rw [hkd]; simp), va_Nw.use rfl (hK.2.1 _ hw)⟩, wb, hts _ wa⟩ hp rfl (by simp; omega) hsz ht2 hroom hd hbud) kk
      | none =>
        simp only [hcl] at h
        cases hr : gret op st with
        | some r1 =>
          simp only [hr, Option.some.injEq, Prod.mk.injEq] at h
          obtain ⟨rfl, rfl⟩ := h
          obtain rfl : cells = cf := by omega
          obtain rfl : slots = sf := by omega
          exact hret pc ls st op raw len hd hlen hn hr
        | none =>
          simp only [hr] at h
          cases hst : gstep op (pc + len) ls st m with
          | none => simp [hst] at h
          | some x =>
            obtain ⟨pc', ls', st', m1⟩ := x
            simp only [hst] at h
            intro H locs Ls hF
            have g1 := gstep_st (gnorm_opr hn) hF.2.2.2 hst
            have g2 := gstep_grow hst
            obtain ⟨b1, b2, b3, b4⟩ := gexec_ok gT (gT_opr hH) n d C pc' ls' st' m1 r m' (gok_opr hC) g1 h
            have hls : ls'.length = ls.length := gstep_len hst
            dsimp only at g2
            refine gs_all hMul cx hml (by omega) (by omega) hd hlen hn hini hst (cells' := cells + (m1.1.length - m.1.length)) (slots' := slots + (gslots m1.1 - gslots m.1)) (by omega) (by omega) (by omega) (by omega) ?_ H locs Ls hF
            exact ih d C pc' ls' st' m1 r m' h cx hC hini (by rw [hls]; exact hml) hfr hlo (by omega) (by omega) hcR hsR hret
