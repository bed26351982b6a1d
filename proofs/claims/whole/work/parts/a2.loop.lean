/-! The law: its loop. -/
variable {L d : Nat} {σ σ1 : Nat → Nat → Int} {Q : Option gV → (Nat → Nat → Int) → Prop} {a0 a1 a2 a3 a4 a5 a6 a7 a8 a9 a10 a11 s0 s1 s2 s3 s4 s5 s6 s7 s8 s9 : Int} {l0 l1 l2 l3 l4 l5 l6 l7 l8 l9 l10 l11 t0 t1 t2 t3 t4 t5 t6 t7 t8 t9 : gV} {b0 b1 b2 b3 b4 b5 b6 b7 b8 b9 b10 b11 c0 c1 c2 c3 c4 c5 c6 c7 c8 c9 : Nat} {r : Option gV}
theorem wp_tin {C : gCode} {pc nx : Nat} {ls st : List gV} {x o dd lo hi : Int} {os : Array Int} (hf : gfind C pc = some (.tableswitch dd lo hi os, nx)) (hx : ¬(x < lo ∨ hi < x)) (ho : os.toList[(x - lo).toNat]? = some o) : Wp L d C pc ls (vI x :: st) σ Q ↔ Wp L d C o.toNat ls st σ Q := Wp_s hf rfl rfl (by simp only [gstep, vI, if_neg hx, ho])
theorem wp_tout {C : gCode} {pc nx : Nat} {ls st : List gV} {x dd lo hi : Int} {os : Array Int} (hf : gfind C pc = some (.tableswitch dd lo hi os, nx)) (hx : x < lo ∨ hi < x) : Wp L d C pc ls (vI x :: st) σ Q ↔ Wp L d C dd.toNat ls st σ Q := Wp_s hf rfl rfl (by simp only [gstep, vI, if_pos hx])
theorem kst {a : Nat} {x : gV} {vs rest : List gV} (h : vs.length = a) : vs.reverse ++ (x :: rest) = (x :: vs).reverse ++ rest := by
  rw [List.reverse_cons, List.append_assoc]; rfl
theorem wp_call_k {C C' : gCode} {pc nx y ml rk a : Nat} {ls vs rest : List gV} {x : gV} {r : Option gV} {σ1 : gMm} (hf : gfind C pc = some (.invokestatic y, nx)) (hT : gT y = some (C', ml, a + 1, rk)) (hl : vs.length = a) (hfl : gflat (x :: vs) = x :: vs) (hml : a + 1 ≤ ml) (h5 : gfew rest = true) (h6 : grecv (gSH L, σ) rk (x :: vs) = true) (hR : Run L d y (x :: vs) σ r σ1) : Wp L (d + 1) C pc ls (vs.reverse ++ (x :: rest)) σ Q ↔ Wp L (d + 1) C nx ls (r.toList ++ rest) σ1 Q := by
  rw [kst hl]
  have e : ((x :: vs).reverse).length = a + 1 := by rw [List.length_reverse, List.length_cons, hl]
  refine wp_callR hf hT ?_ ?_ ?_ ?_ h5 h6 hR
  · exact Nat.ble_eq_true_of_le (by rw [List.length_append, e]; omega)
  · rw [List.take_left' e, List.reverse_reverse]
  · exact List.drop_left' e
  · rw [hfl]
    exact Nat.ble_eq_true_of_le (by rw [List.length_cons, hl]; exact hml)
theorem case_run {q : Nat × (Nat × (Nat × Nat))} (hq : q ∈ kCs) {i : Nat} (hi : i + 6 ≤ L) (hL : L ≤ 384) (hI : Inv σ) (hb : PB (gSH L, σ)) (ht : TXc σ) (hop : Op4 q.2.2.1 q.2.2.2 (kVs σ i q.2.1)) (hn : ∀ σ2 : gMm, Inv σ2 → PB (gSH L, σ2) → TXc σ2 → σ2 26 = σ 26 → Wp L (d + 1001) k_law 2084 [vR 26, vR 27, vR 293, vI (i : Int)] [] σ2 Q) : Wp L (d + 1001) k_law q.1 [vR 26, vR 27, vR 293, vI (i : Int)] [] σ Q := by
  obtain ⟨⟨C1, m1, T1, l1⟩, ⟨C2, m2, T2, l2⟩, a5⟩ := law_m hq
  obtain ⟨r, σ1, σ2, R1, R2, I2, B2, X2, e1, e2⟩ := Op4_keep hop L d σ hI hb ht
  rw [wp_aload (law_c hq (List.mem_append_left _ List.mem_cons_self)) rfl]
  rw [ld_args hi hL (q.1 + 1) q.2.1 [vR 27] a5 (fun pc op nx h => law_c hq (List.mem_append_right _ (List.mem_append_left _ h)))]
  rw [wp_call_k (law_c hq (List.mem_append_right _ (List.mem_append_right _ (List.mem_append_left _ List.mem_cons_self)))) T1 (kVs_len _) (by show vR 27 :: gflat (kVs σ i q.2.1) = _; rw [kVs_fl]) l1 rfl (grecv_k (by rw [gK_27]) rfl) R1]
  show Wp L (d + 1001) k_law (q.1 + 4 + 5 * q.2.1) [vR 26, vR 27, vR 293, vI (i : Int)] [vI r] σ1 Q
  rw [wp_aload (law_c hq (List.mem_append_right _ (List.mem_append_right _ (List.mem_append_left _ (List.mem_cons_of_mem _ List.mem_cons_self))))) rfl]
  rw [ld_args hi hL (q.1 + 5 + 5 * q.2.1) q.2.1 [vR 293, vI r] a5 (fun pc op nx h => law_c hq (List.mem_append_right _ (List.mem_append_right _ (List.mem_append_right _ (List.mem_append_left _ h))))), kVs_cg e1, show q.1 + 5 + 5 * q.2.1 + 5 * q.2.1 = q.1 + 5 + 10 * q.2.1 by omega]
  rw [wp_call_k (law_c hq (List.mem_append_right _ (List.mem_append_right _ (List.mem_append_right _ (List.mem_append_right _ List.mem_cons_self))))) T2 (kVs_len _) (by show vR 293 :: gflat (kVs σ i q.2.1) = _; rw [kVs_fl]) l2 rfl (grecv_k (by rw [gK_293]) rfl) R2]
  show Wp L (d + 1001) k_law (q.1 + 8 + 10 * q.2.1) [vR 26, vR 27, vR 293, vI (i : Int)] [vI r, vI r] σ2 Q
  rw [wp_cmp_eq (t := 2084) (law_c hq (List.mem_append_right _ (List.mem_append_right _ (List.mem_append_right _ (List.mem_append_right _ (List.mem_cons_of_mem _ List.mem_cons_self)))))), if_pos rfl]
  exact hn σ2 I2 B2 X2 e2
theorem law_op {q : Nat × (Nat × (Nat × Nat))} (hq : q ∈ kCs) (i : Nat) (hr : ∀ j, gr32 (σ 26 j)) : Op4 q.2.2.1 q.2.2.2 (kVs σ i q.2.1) := by
  unfold kCs at hq
  rcases List.mem_cons.mp hq with rfl | hq
  · exact Op_4 (Op_3 (Op_2 (op_spans _)))
  rcases List.mem_cons.mp hq with rfl | hq
  · exact Op_4 (Op_3 (Op_2 (op_span _ _ _)))
  rcases List.mem_cons.mp hq with rfl | hq
  · exact Op_4 (Op_3 (Op_2 (op_has _ _)))
  rcases List.mem_cons.mp hq with rfl | hq
  · exact Op_4 (Op_3 (Op_2 (op_train _)))
  rcases List.mem_cons.mp hq with rfl | hq
  · exact Op_4 (Op_3 (Op_2 (op_part _ _ _ _ _)))
  rcases List.mem_cons.mp hq with rfl | hq
  · exact Op_4 (Op_3 (Op_2 (op_piece _ _ _)))
  rcases List.mem_cons.mp hq with rfl | hq
  · exact Op_4 (Op_3 (Op_2 (op_told _ _)))
  rcases List.mem_cons.mp hq with rfl | hq
  · exact Op_4 (Op_3 (Op_2 (op_as _ _)))
  rcases List.mem_cons.mp hq with rfl | hq
  · exact Op_4 (Op_3 (Op_2 (op_be _ _ _)))
  rcases List.mem_cons.mp hq with rfl | hq
  · exact Op_4 (Op_3 (Op_2 (op_raise)))
  rcases List.mem_cons.mp hq with rfl | hq
  · exact Op_4 (Op_3 (Op_2 (op_pull _ _)))
  rcases List.mem_cons.mp hq with rfl | hq
  · exact Op_4 (Op_3 (Op_2 (op_load _ _)))
  rcases List.mem_cons.mp hq with rfl | hq
  · exact Op_4 (Op_3 (Op_2 (op_bears _)))
  rcases List.mem_cons.mp hq with rfl | hq
  · exact Op_4 (Op_3 (Op_2 (op_first _)))
  rcases List.mem_cons.mp hq with rfl | hq
  · exact Op_4 (Op_3 (Op_2 (op_fall _)))
  rcases List.mem_cons.mp hq with rfl | hq
  · exact Op_4 (Op_3 (op_next _ _))
  rcases List.mem_cons.mp hq with rfl | hq
  · exact Op_4 (Op_3 (Op_2 (op_safe)))
  rcases List.mem_cons.mp hq with rfl | hq
  · exact Op_4 (Op_3 (Op_2 (op_feed _ _ _)))
  rcases List.mem_cons.mp hq with rfl | hq
  · exact Op_4 (Op_3 (Op_2 (op_trim _)))
  rcases List.mem_cons.mp hq with rfl | hq
  · exact op_text _
  rcases List.mem_cons.mp hq with rfl | hq
  · exact Op_4 (Op_3 (Op_2 (op_of _ _)))
  rcases List.mem_cons.mp hq with rfl | hq
  · exact Op_4 (Op_3 (Op_2 (op_why _)))
  rcases List.mem_cons.mp hq with rfl | hq
  · exact Op_4 (Op_3 (Op_2 (op_rules _ _ _ _)))
  rcases List.mem_cons.mp hq with rfl | hq
  · exact Op_4 (Op_3 (Op_2 (op_months _ _)))
  rcases List.mem_cons.mp hq with rfl | hq
  · exact Op_4 (Op_3 (Op_2 (op_shake _)))
  rcases List.mem_cons.mp hq with rfl | hq
  · exact Op_4 (Op_3 (Op_2 (op_trust _ _)))
  rcases List.mem_cons.mp hq with rfl | hq
  · exact Op_4 (Op_3 (Op_2 (op_gust _ _)))
  rcases List.mem_cons.mp hq with rfl | hq
  · exact Op_4 (Op_3 (Op_2 (op_runs _ _)))
  rcases List.mem_cons.mp hq with rfl | hq
  · exact Op_4 (Op_3 (Op_2 (op_night _)))
  rcases List.mem_cons.mp hq with rfl | hq
  · exact Op_4 (Op_3 (Op_2 (op_judged _)))
  rcases List.mem_cons.mp hq with rfl | hq
  · exact Op_4 (Op_3 (Op_2 (op_fast _ _)))
  rcases List.mem_cons.mp hq with rfl | hq
  · exact Op_4 (Op_3 (Op_2 (op_story _ _ _)))
  rcases List.mem_cons.mp hq with rfl | hq
  · exact Op_4 (Op_3 (Op_2 (op_find _ _)))
  rcases List.mem_cons.mp hq with rfl | hq
  · exact Op_4 (Op_3 (Op_2 (op_fits)))
  rcases List.mem_cons.mp hq with rfl | hq
  · exact Op_4 (Op_3 (Op_2 (op_best)))
  rcases List.mem_cons.mp hq with rfl | hq
  · exact Op_4 (Op_3 (Op_2 (op_doubt _)))
  rcases List.mem_cons.mp hq with rfl | hq
  · exact Op_4 (Op_3 (Op_2 (op_flawed _)))
  rcases List.mem_cons.mp hq with rfl | hq
  · exact Op_4 (Op_3 (Op_2 (op_word _ _ _ _)))
  rcases List.mem_cons.mp hq with rfl | hq
  · exact Op_4 (Op_3 (Op_2 (op_saw _ _ _)))
  rcases List.mem_cons.mp hq with rfl | hq
  · exact Op_4 (Op_3 (Op_2 (op_knew _ _ _)))
  rcases List.mem_cons.mp hq with rfl | hq
  · exact Op_4 (Op_3 (Op_2 (op_blind _)))
  rcases List.mem_cons.mp hq with rfl | hq
  · exact Op_4 (Op_3 (Op_2 (op_must _ _)))
  rcases List.mem_cons.mp hq with rfl | hq
  · exact Op_4 (Op_3 (Op_2 (op_station _ _ _)))
  rcases List.mem_cons.mp hq with rfl | hq
  · exact Op_4 (Op_3 (Op_2 (op_aboard _)))
  rcases List.mem_cons.mp hq with rfl | hq
  · exact Op_4 (Op_3 (Op_2 (op_time _ _ _ _)))
  rcases List.mem_cons.mp hq with rfl | hq
  · exact Op_4 (Op_3 (Op_2 (op_speed _)))
  rcases List.mem_cons.mp hq with rfl | hq
  · exact Op_4 (Op_3 (Op_2 (op_races _)))
  rcases List.mem_cons.mp hq with rfl | hq
  · exact Op_4 (Op_3 (Op_2 (op_test _ _ _)))
  rcases List.mem_cons.mp hq with rfl | hq
  · exact Op_4 (Op_3 (Op_2 (op_put _ _ _)))
  rcases List.mem_cons.mp hq with rfl | hq
  · exact Op_4 (Op_3 (Op_2 (op_read _ _)))
  rcases List.mem_cons.mp hq with rfl | hq
  · exact Op_4 (Op_3 (Op_2 (op_copy _ _ _ _ _ (hr _) (hr _) (hr _))))
  rcases List.mem_cons.mp hq with rfl | hq
  · exact Op_4 (Op_3 (Op_2 (op_strap _)))
  rcases List.mem_cons.mp hq with rfl | hq
  · exact Op_4 (Op_3 (Op_2 (op_straps _ _)))
  rcases List.mem_cons.mp hq with rfl | hq
  · exact Op_4 (Op_3 (Op_2 (op_tell _)))
  rcases List.mem_cons.mp hq with rfl | hq
  · exact Op_4 (Op_3 (op_check _))
  rcases List.mem_cons.mp hq with rfl | hq
  · exact Op_4 (Op_3 (op_keep))
  rcases List.mem_cons.mp hq with rfl | hq
  · exact Op_4 (Op_3 (op_back))
  rcases List.mem_cons.mp hq with rfl | hq
  · exact Op_4 (Op_3 (Op_2 (op_count _)))
  exact absurd hq List.not_mem_nil
theorem kOs_at : ∀ v : Nat, v < 58 → ∃ q, q ∈ kCs ∧ kOs[v]? = some ((q.1 : Nat) : Int) := by
  have h : ∀ v : Nat, v < 58 → kOs[v]? = (kCs[v]?).map (fun q => ((q.1 : Nat) : Int)) := by decide +kernel
  intro v hv
  have hl : v < kCs.length := hv
  exact ⟨kCs[v], List.getElem_mem hl, by rw [h v hv, List.getElem?_eq_getElem hl]; rfl⟩
theorem law_loop (hL : L ≤ 384) (hQ : ∀ σ' : gMm, Q (some (vI 1)) σ') : ∀ (m i : Nat) (σ : gMm), L - i ≤ m → i ≤ L → Inv σ → PB (gSH L, σ) → TXc σ → (∀ j, gr32 (σ 26 j)) → Wp L (d + 1001) k_law 18 [vR 26, vR 27, vR 293, vI (i : Int)] [] σ Q
  | m, i, σ, hm, hi, hI, hb, ht, hr => by
    have w6 : w32 ((L : Int) - 6) = (L : Int) - 6 := w32i (by omega)
    rw [wp_iload (law_h (List.mem_of_getElem? (i := 10) rfl)) rfl, wp_aload (law_h (List.mem_of_getElem? (i := 11) rfl)) rfl, wp_xln (law_h (List.mem_of_getElem? (i := 12) rfl)) hL, wp_push (law_h (List.mem_of_getElem? (i := 13) rfl)), wp_isub (law_h (List.mem_of_getElem? (i := 14) rfl)), w6, wp_cmp_gt (t := 2090) (law_h (List.mem_of_getElem? (i := 15) rfl))]
    by_cases c : (L : Int) - 6 < (i : Int)
    · rw [if_pos c, wp_push (law_e (List.mem_of_getElem? (i := 2) rfl)), wp_zret (law_e (List.mem_of_getElem? (i := 3) rfl)) (Or.inr rfl)]
      exact hQ σ
    · rw [if_neg c]
      have g := gand_le (a := 63) (b := σ 26 i) (by omega)
      rw [gand_comm] at g
      rw [wp_aload (law_h (List.mem_of_getElem? (i := 16) rfl)) rfl, wp_iload (law_h (List.mem_of_getElem? (i := 17) rfl)) rfl, wp_xld (law_h (List.mem_of_getElem? (i := 18) rfl)) (by omega), Int.toNat_natCast, wp_push (law_h (List.mem_of_getElem? (i := 19) rfl)), wp_iand (law_h (List.mem_of_getElem? (i := 20) rfl))]
      have next : ∀ σ2 : gMm, Inv σ2 → PB (gSH L, σ2) → TXc σ2 → σ2 26 = σ 26 → Wp L (d + 1001) k_law 2084 [vR 26, vR 27, vR 293, vI (i : Int)] [] σ2 Q := fun σ2 i2 b2 x2 e2 => by
        have w7 : w32 ((i : Int) + 6) = ((i + 6 : Nat) : Int) := by rw [w32i (by omega)]; omega
        rw [wp_iinc (law_e (List.mem_of_getElem? (i := 0) rfl)) rfl, w7]
        show Wp L (d + 1001) k_law 2087 [vR 26, vR 27, vR 293, vI ((i + 6 : Nat) : Int)] [] σ2 Q
        rw [wp_goto (t := 18) (law_e (List.mem_of_getElem? (i := 1) rfl))]
        match m, hm with
        | 0, hm => exact absurd hm (by omega)
        | m + 1, hm => exact law_loop hL hQ m (i + 6) σ2 (by omega) (by omega) i2 b2 x2 (fun j => by rw [e2]; exact hr j)
      generalize gand (σ 26 i) 63 = v at g ⊢
      by_cases cv : v < 58
      · obtain ⟨q, hq, ho⟩ := kOs_at v.toNat (by omega)
        rw [wp_tin (law_h (List.mem_of_getElem? (i := 21) rfl)) (by omega) (o := ((q.1 : Nat) : Int)) (by rw [Int.sub_zero]; exact ho), Int.toNat_natCast]
        exact case_run hq (by omega) hL hI hb ht (law_op hq i hr) next
      · rw [wp_tout (law_h (List.mem_of_getElem? (i := 21) rfl)) (by omega)]
        exact next σ hI hb ht rfl
  termination_by m => m
