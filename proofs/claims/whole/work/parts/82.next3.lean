/-! text: the token step of the reference. -/
variable {L d : Nat} {σ σ1 : Nat → Nat → Int} {Q : Option gV → (Nat → Nat → Int) → Prop} {a0 a1 a2 a3 a4 a5 a6 a7 a8 a9 a10 a11 s0 s1 s2 s3 s4 s5 s6 s7 s8 s9 : Int} {l0 l1 l2 l3 l4 l5 l6 l7 l8 l9 l10 l11 t0 t1 t2 t3 t4 t5 t6 t7 t8 t9 : gV} {b0 b1 b2 b3 b4 b5 b6 b7 b8 b9 b10 b11 c0 c1 c2 c3 c4 c5 c6 c7 c8 c9 : Nat} {r : Option gV}
set_option maxRecDepth 4000 in
theorem nx_89 {n e : Nat} {g : Int} {τ : gMm} (hn : σ 293 9 = (n : Int)) (h96 : n ≤ 96) (hen : e ≤ n) (h2 : τ 293 11 = ((gts (σ 301) n e : Nat) : Int)) (hA : Agr σ τ (fun k j => k = 293 ∧ 10 ≤ j ∧ j ≤ 14)) (hg : g = 0 ∧ ¬((σ 293 12 = 1 ∨ σ 293 12 = 2) ∧ gts (σ 301) n e = e) ∨ g = 1 ∧ ((σ 293 12 = 1 ∨ σ 293 12 = 2) ∧ gts (σ 301) n e = e)) (l1 : gV) : Wp L (d + 2) k_M_next_ 89 [vR 293, l1, vI (e : Int)] [vI g] τ (NXQ σ n (gts (σ 301) n e) (gte (σ 301) n e) (gtm (σ 301) n e (σ 293 12))) := by
  have sb := gts_bd (b := σ 301) hen
  by_cases c : gts (σ 301) n e < n
  · have g3 : gte (σ 301) n e = (if gso (σ 301 (gts (σ 301) n e)) = 3 then gts (σ 301) n e + 1 else grun (σ 301) (gso (σ 301 (gts (σ 301) n e))) (gts (σ 301) n e + 1) (n - (gts (σ 301) n e + 1))) := if_pos c
    have g4 : gtq (σ 301) n e (σ 293 12) = (if gso (σ 301 (gts (σ 301) n e)) ≠ 3 ∧ (σ 293 12 = 1 ∨ σ 293 12 = 2) ∧ gts (σ 301) n e = e then 4 else gso (σ 301 (gts (σ 301) n e))) := if_pos c
    have g5 : gtm (σ 301) n e (σ 293 12) = (if gts (σ 301) n e < n ∧ gso (σ 301 (gts (σ 301) n e)) = 2 ∧ gts (σ 301) n e + 4 < gte (σ 301) n e then 4 else gtq (σ 301) n e (σ 293 12)) := rfl
    rw [g4] at g5
    clear g4
    generalize gts (σ 301) n e = s at *
    generalize gte (σ 301) n e = t at *
    generalize gtm (σ 301) n e (σ 293 12) = u at *
    rcases gso_v (σ 301 s) with o | o | o
    · rw [o] at g3 g5
      rw [if_neg (by omega)] at g3
      rw [if_neg (by omega)] at g5
      refine nx_let hn h96 h2 hA c o g3 ?_
      rcases hg with ⟨rfl, ht⟩ | ⟨rfl, ht⟩
      · rw [if_neg (fun z => ht z.2)] at g5
        exact Or.inl ⟨rfl, g5⟩
      · rw [if_pos ⟨by omega, ht⟩] at g5
        exact Or.inr ⟨rfl, g5⟩
    · rw [o] at g3 g5
      rw [if_neg (by omega)] at g3
      refine nx_dig hn h96 h2 hA c o g3 ?_ (hg.imp And.left And.left)
      by_cases c4 : s + 4 < t
      · rw [if_pos ⟨c, rfl, c4⟩] at g5
        exact Or.inl ⟨Or.inr c4, g5⟩
      · rw [if_neg (fun z => c4 z.2.2)] at g5
        rcases hg with ⟨rfl, ht⟩ | ⟨rfl, ht⟩
        · rw [if_neg (fun z => ht z.2)] at g5
          exact Or.inr ⟨⟨rfl, c4⟩, g5⟩
        · rw [if_pos ⟨by omega, ht⟩] at g5
          exact Or.inl ⟨Or.inl rfl, g5⟩
    · rw [o] at g3 g5
      rw [if_pos rfl] at g3
      rw [if_neg (by omega), if_neg (fun z => z.1 rfl)] at g5
      exact nx_sgn hn h96 h2 hA l1 c o g3 g5
  · have g3 : gte (σ 301) n e = gts (σ 301) n e := if_neg c
    have g4 : gtm (σ 301) n e (σ 293 12) = 0 := by
      unfold gtm
      rw [if_neg (fun z => c z.1)]
      exact if_neg c
    exact nx_end hn h96 h2 hA l1 (by omega) g3 g4
set_option maxRecDepth 4000 in
theorem nx_72 {n e : Nat} {τ : gMm} (hn : σ 293 9 = (n : Int)) (h96 : n ≤ 96) (hen : e ≤ n) (h2 : τ 293 11 = ((gts (σ 301) n e : Nat) : Int)) (hA : Agr σ τ (fun k j => k = 293 ∧ 10 ≤ j ∧ j ≤ 14)) : Wp L (d + 2) k_M_next_ 72 [vR 293, vI (gb (σ 293 12 = 1 ∨ σ 293 12 = 2)), vI (e : Int)] [] τ (NXQ σ n (gts (σ 301) n e) (gte (σ 301) n e) (gtm (σ 301) n e (σ 293 12))) := by
  obtain ⟨K293, Q293, K294, N294⟩ := litM
  obtain ⟨K301, N301, n8⟩ := litB
  rw [r_M_next__72]
  by_cases d2 : σ 293 12 = 1 ∨ σ 293 12 = 2
  · rw [gb_t d2]
    by_cases d3 : gts (σ 301) n e = e
    · have x := nx_89 (L := L) (d := d) (g := 1) hn h96 hen h2 hA (Or.inr ⟨rfl, d2, d3⟩) (vI 1)
      simp (disch := first | assumption | exact gb_01 _ | omega) only [r_M_next__73, r_M_next__76, r_M_next__77, r_M_next__78, r_M_next__81, r_M_next__84, r_M_next__85, r_M_next__88, Q293, n8, h2, w32_gb, w32i, tn_add, tn_mul, Int.toNat_natCast, Int.toNat_zero, Int.reduceLE, Int.reduceLT, Int.reduceEq, Int.reduceNe, gb_T, gb_F, Int.reduceToNat, eq_self, true_or, or_true, and_true, true_and, and_self, ↓ite_gb0, ↓ite_gbn, ↓if_pos, ↓if_neg, if_true, if_false, not_true_eq_false, not_false_eq_true, gb_ne0, gb_eq0]
      exact x
    · have x := nx_89 (L := L) (d := d) (g := 0) hn h96 hen h2 hA (Or.inl ⟨rfl, fun z => d3 z.2⟩) (vI 1)
      simp (disch := first | assumption | exact gb_01 _ | omega) only [r_M_next__73, r_M_next__76, r_M_next__77, r_M_next__78, r_M_next__81, r_M_next__84, r_M_next__85, r_M_next__88, Q293, n8, h2, w32_gb, w32i, tn_add, tn_mul, Int.toNat_natCast, Int.toNat_zero, Int.reduceLE, Int.reduceLT, Int.reduceEq, Int.reduceNe, gb_T, gb_F, Int.reduceToNat, eq_self, true_or, or_true, and_true, true_and, and_self, ↓ite_gb0, ↓ite_gbn, ↓if_pos, ↓if_neg, if_true, if_false, not_true_eq_false, not_false_eq_true, gb_ne0, gb_eq0]
      exact x
  · rw [gb_f d2]
    have x := nx_89 (L := L) (d := d) (g := 0) hn h96 hen h2 hA (Or.inl ⟨rfl, fun z => d2 z.1⟩) (vI 0)
    simp (disch := first | assumption | exact gb_01 _ | omega) only [r_M_next__73, r_M_next__76, r_M_next__77, r_M_next__78, r_M_next__81, r_M_next__84, r_M_next__85, r_M_next__88, Q293, n8, h2, w32_gb, w32i, tn_add, tn_mul, Int.toNat_natCast, Int.toNat_zero, Int.reduceLE, Int.reduceLT, Int.reduceEq, Int.reduceNe, gb_T, gb_F, Int.reduceToNat, eq_self, true_or, or_true, and_true, true_and, and_self, ↓ite_gb0, ↓ite_gbn, ↓if_pos, ↓if_neg, if_true, if_false, not_true_eq_false, not_false_eq_true, gb_ne0, gb_eq0]
    exact x
set_option maxRecDepth 4000 in
theorem sp_M_next_ {n e : Nat} (hn : σ 293 9 = (n : Int)) (h96 : n ≤ 96) (he : σ 293 11 = (e : Int)) (hen : e ≤ n) (hw : σ 293 12 = 1 ∨ σ 293 12 = 2 → 0 < e) : ∃ σ', Run L (d + 2) 241 [vR 293] σ none σ' ∧ NXP σ n (gts (σ 301) n e) (gte (σ 301) n e) (gtm (σ 301) n e (σ 293 12)) σ' := by
  refine Run_ex (C' := k_M_next_) rfl ?_
  show Wp L (d + 2) k_M_next_ 0 [vR 293, vU, vU] [] σ (NXQ σ n (gts (σ 301) n e) (gte (σ 301) n e) (gtm (σ 301) n e (σ 293 12)))
  obtain ⟨K293, Q293, K294, N294⟩ := litM
  obtain ⟨K301, N301, n8⟩ := litB
  have bd := gskip_bd (σ 301) (n - e) e
  have mid : Wp L (d + 2) k_M_next_ 34 [vR 293, vI (gb (σ 293 12 = 1 ∨ σ 293 12 = 2)), vI (e : Int)] [] σ (NXQ σ n (gts (σ 301) n e) (gte (σ 301) n e) (gtm (σ 301) n e (σ 293 12))) := by
    refine wloop (n := n - e) (I := fun k ls τ => ls = [vR 293, vI (gb (σ 293 12 = 1 ∨ σ 293 12 = 2)), vI (e : Int)] ∧ τ 293 11 = ((e + k : Nat) : Int) ∧ gts (σ 301) n e = gskip (σ 301) (e + k) (n - e - k) ∧ Agr σ τ (fun k j => k = 293 ∧ 10 ≤ j ∧ j ≤ 14)) (fun k ls τ hk hi hq => ?_) (fun ls τ hi => ?_) (n - e) 0 (by omega) _ _ ⟨rfl, he, rfl, Agr_refl _ _⟩
    · obtain ⟨rfl, h2, h3, hA⟩ := hi
      have h1 : τ 293 9 = (n : Int) := (hA 293 9 (by omega)).trans hn
      have e0 : τ 301 (e + k) = σ 301 (e + k) := hA 301 _ (by omega)
      have tn : ((e + k : Nat) : Int).toNat = e + k := by omega
      rw [show n - e - k = (n - e - k - 1) + 1 by omega] at h3
      rw [r_M_next__34]
      by_cases c : σ 301 (e + k) = 32
      · rw [gskip_s c] at h3
        simp (disch := first | assumption | exact gb_01 _ | omega) only [r_M_next__35, r_M_next__38, r_M_next__39, r_M_next__42, r_M_next__45, r_M_next__46, r_M_next__49, r_M_next__50, r_M_next__53, r_M_next__54, r_M_next__56, r_M_next__59, r_M_next__60, r_M_next__61, r_M_next__64, r_M_next__65, r_M_next__66, r_M_next__69, Q293, n8, h1, h2, tn, e0, gupd_ne, gupd_eq, w32_gb, w32i, tn_add, tn_mul, Int.toNat_natCast, Int.toNat_zero, Int.reduceLE, Int.reduceLT, Int.reduceEq, Int.reduceNe, gb_T, gb_F, Int.reduceToNat, eq_self, true_or, or_true, and_true, true_and, and_self, ↓ite_gb0, ↓ite_gbn, ↓if_pos, ↓if_neg, if_true, if_false, not_true_eq_false, not_false_eq_true, gb_ne0, gb_eq0]
        refine hq _ _ ⟨rfl, ?_, by rw [h3]; congr 1, Agr_upd hA (by omega)⟩
        rw [gupd_eq]
        omega
      · rw [gskip_x c] at h3
        have x := nx_72 (L := L) (d := d) hn h96 hen (by rw [h3]; exact h2) hA
        simp (disch := first | assumption | exact gb_01 _ | omega) only [r_M_next__35, r_M_next__38, r_M_next__39, r_M_next__42, r_M_next__45, r_M_next__46, r_M_next__49, r_M_next__50, r_M_next__53, r_M_next__54, r_M_next__56, r_M_next__59, r_M_next__60, r_M_next__61, r_M_next__64, r_M_next__65, r_M_next__66, r_M_next__69, Q293, n8, h1, h2, tn, e0, w32_gb, w32i, tn_add, tn_mul, Int.toNat_natCast, Int.toNat_zero, Int.reduceLE, Int.reduceLT, Int.reduceEq, Int.reduceNe, gb_T, gb_F, Int.reduceToNat, eq_self, true_or, or_true, and_true, true_and, and_self, ↓ite_gb0, ↓ite_gbn, ↓if_pos, ↓if_neg, if_true, if_false, not_true_eq_false, not_false_eq_true, gb_ne0, gb_eq0]
        exact x
    · obtain ⟨rfl, h2, h3, hA⟩ := hi
      have h1 : τ 293 9 = (n : Int) := (hA 293 9 (by omega)).trans hn
      have x := nx_72 (L := L) (d := d) hn h96 hen (by rw [h3, h2, show n - e - (n - e) = 0 by omega]; rfl) hA
      rw [r_M_next__34]
      simp (disch := first | assumption | exact gb_01 _ | omega) only [r_M_next__35, r_M_next__38, r_M_next__39, r_M_next__42, r_M_next__45, r_M_next__46, r_M_next__49, r_M_next__50, r_M_next__53, r_M_next__54, r_M_next__56, r_M_next__59, r_M_next__60, r_M_next__61, r_M_next__64, r_M_next__65, r_M_next__66, r_M_next__69, Q293, n8, h1, h2, w32_gb, w32i, tn_add, tn_mul, Int.toNat_natCast, Int.toNat_zero, Int.reduceLE, Int.reduceLT, Int.reduceEq, Int.reduceNe, gb_T, gb_F, Int.reduceToNat, eq_self, true_or, or_true, and_true, true_and, and_self, ↓ite_gb0, ↓ite_gbn, ↓if_pos, ↓if_neg, if_true, if_false, not_true_eq_false, not_false_eq_true, gb_ne0, gb_eq0]
      exact x
  by_cases c1 : σ 293 12 = 1
  · have p := hw (Or.inl c1)
    rw [gb_t (Or.inl c1)] at mid
    simp (disch := first | assumption | exact gb_01 _ | omega) only [r_M_next__0, r_M_next__1, r_M_next__4, r_M_next__7, r_M_next__8, r_M_next__11, r_M_next__12, r_M_next__15, r_M_next__16, r_M_next__19, r_M_next__20, r_M_next__23, r_M_next__24, r_M_next__27, r_M_next__28, r_M_next__29, r_M_next__30, r_M_next__33, Q293, he, w32_gb, w32i, tn_add, tn_mul, Int.toNat_natCast, Int.toNat_zero, Int.reduceLE, Int.reduceLT, Int.reduceEq, Int.reduceNe, gb_T, gb_F, Int.reduceToNat, eq_self, true_or, or_true, and_true, true_and, and_self, ↓ite_gb0, ↓ite_gbn, ↓if_pos, ↓if_neg, if_true, if_false, not_true_eq_false, not_false_eq_true, gb_ne0, gb_eq0]
    exact mid
  · by_cases c2 : σ 293 12 = 2
    · have p := hw (Or.inr c2)
      rw [gb_t (Or.inr c2)] at mid
      simp (disch := first | assumption | exact gb_01 _ | omega) only [r_M_next__0, r_M_next__1, r_M_next__4, r_M_next__7, r_M_next__8, r_M_next__11, r_M_next__12, r_M_next__15, r_M_next__16, r_M_next__19, r_M_next__20, r_M_next__23, r_M_next__24, r_M_next__27, r_M_next__28, r_M_next__29, r_M_next__30, r_M_next__33, Q293, he, w32_gb, w32i, tn_add, tn_mul, Int.toNat_natCast, Int.toNat_zero, Int.reduceLE, Int.reduceLT, Int.reduceEq, Int.reduceNe, gb_T, gb_F, Int.reduceToNat, eq_self, true_or, or_true, and_true, true_and, and_self, ↓ite_gb0, ↓ite_gbn, ↓if_pos, ↓if_neg, if_true, if_false, not_true_eq_false, not_false_eq_true, gb_ne0, gb_eq0]
      exact mid
    · rw [gb_f (fun z => z.elim c1 c2)] at mid
      by_cases c3 : 0 < e
      · simp (disch := first | assumption | exact gb_01 _ | omega) only [r_M_next__0, r_M_next__1, r_M_next__4, r_M_next__7, r_M_next__8, r_M_next__11, r_M_next__12, r_M_next__15, r_M_next__16, r_M_next__19, r_M_next__20, r_M_next__23, r_M_next__24, r_M_next__27, r_M_next__28, r_M_next__29, r_M_next__30, r_M_next__33, Q293, he, w32_gb, w32i, tn_add, tn_mul, Int.toNat_natCast, Int.toNat_zero, Int.reduceLE, Int.reduceLT, Int.reduceEq, Int.reduceNe, gb_T, gb_F, Int.reduceToNat, eq_self, true_or, or_true, and_true, true_and, and_self, ↓ite_gb0, ↓ite_gbn, ↓if_pos, ↓if_neg, if_true, if_false, not_true_eq_false, not_false_eq_true, gb_ne0, gb_eq0]
        exact mid
      · simp (disch := first | assumption | exact gb_01 _ | omega) only [r_M_next__0, r_M_next__1, r_M_next__4, r_M_next__7, r_M_next__8, r_M_next__11, r_M_next__12, r_M_next__15, r_M_next__16, r_M_next__19, r_M_next__20, r_M_next__23, r_M_next__24, r_M_next__27, r_M_next__28, r_M_next__29, r_M_next__30, r_M_next__33, Q293, he, w32_gb, w32i, tn_add, tn_mul, Int.toNat_natCast, Int.toNat_zero, Int.reduceLE, Int.reduceLT, Int.reduceEq, Int.reduceNe, gb_T, gb_F, Int.reduceToNat, eq_self, true_or, or_true, and_true, true_and, and_self, ↓ite_gb0, ↓ite_gbn, ↓if_pos, ↓if_neg, if_true, if_false, not_true_eq_false, not_false_eq_true, gb_ne0, gb_eq0]
        exact mid
