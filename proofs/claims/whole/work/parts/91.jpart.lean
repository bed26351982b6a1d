/-! text: parts and levels side by side. -/
variable {L d : Nat} {σ σ1 : Nat → Nat → Int} {Q : Option gV → (Nat → Nat → Int) → Prop} {a0 a1 a2 a3 a4 a5 a6 a7 a8 a9 a10 a11 s0 s1 s2 s3 s4 s5 s6 s7 s8 s9 : Int} {l0 l1 l2 l3 l4 l5 l6 l7 l8 l9 l10 l11 t0 t1 t2 t3 t4 t5 t6 t7 t8 t9 : gV} {b0 b1 b2 b3 b4 b5 b6 b7 b8 b9 b10 b11 c0 c1 c2 c3 c4 c5 c6 c7 c8 c9 : Nat} {r : Option gV}
def kM (l : Nat) : gCode := match l with
  | 0 => k_M_either
  | 1 => k_M_both
  | 2 => k_M_test_I
  | 3 => k_M_sum
  | _ => k_M_term
def lM (l : Nat) (key : Int) (x : gV) : List gV := match l with
  | 0 => [vR 293, vI key]
  | 1 => [vR 293, vI key]
  | _ => [vR 293, vI key, x]
theorem rr_exit_0 {b : Nat → Int} {n B o t e N lv : Nat} {key w : Int} {pw pv : Nat → Int} (h : PVr b n B o t e w N lv pw pv σ) (hg : ¬(gtq b n e w = 3 ∧ gsl 0 (b (gts b n e)))) (hq : Q (some (vI 1)) σ) (x : gV) : Wp L (d + 8) (kM 0) 10 (lM 0 key x) [] σ Q := rl_exit_0 (sgr_f h (fun z => hg ⟨z.1, gsl_0.2 (by omega)⟩)) hq
theorem rr_step_0 {σ2 σ3 σ4 : gMm} {b : Nat → Int} {n B o t e N lv : Nat} {key w : Int} {pw pv : Nat → Int} (h : PVr b n B o t e w N lv pw pv σ) (c3 : gtq b n e w = 3) (hg : gsl 0 (b (gts b n e))) (hN : Run L (d + 7) 241 [vR 293] σ none σ2) (hU : Run L (d + 7) (248 + 0) [vR 293, vI key] σ2 (some (vI 1)) σ3) (hL : Run L (d + 7) 253 [vR 293, vI 2, vI (b (gts b n e))] σ3 none σ4) (hq : ∀ x, Wp L (d + 8) (kM 0) 10 (lM 0 key x) [] σ4 Q) (x : gV) : Wp L (d + 8) (kM 0) 10 (lM 0 key x) [] σ Q := by
  have g14 : σ 293 14 = b (gts b n e) := h.1.2.2.2.2.2.2.2 (tq_3 c3).1 (tq_3 c3).2.1
  have cx := gsl_0.1 hg
  · have cc := cx
    rw [cc] at hL
    exact rl_step_0_0 (sgr_t h c3 (by omega)) hN hU hL (hq vU)
theorem rr_step0_0 {σ2 σ3 : gMm} {b : Nat → Int} {n B o t e N lv : Nat} {key w : Int} {pw pv : Nat → Int} (h : PVr b n B o t e w N lv pw pv σ) (c3 : gtq b n e w = 3) (hg : gsl 0 (b (gts b n e))) (hN : Run L (d + 7) 241 [vR 293] σ none σ2) (hU : Run L (d + 7) (248 + 0) [vR 293, vI key] σ2 (some (vI 0)) σ3) (hq : Q (some (vI 0)) σ3) (x : gV) : Wp L (d + 8) (kM 0) 10 (lM 0 key x) [] σ Q := by
  have g14 : σ 293 14 = b (gts b n e) := h.1.2.2.2.2.2.2.2 (tq_3 c3).1 (tq_3 c3).2.1
  have cx := gsl_0.1 hg
  · have cc := cx
    exact rl_step0_0_0 (sgr_t h c3 (by omega)) hN hU hq
theorem rr_in_0 {σ2 : gMm} {key : Int} (hU : Run L (d + 7) (248 + 0) [vR 293, vI key] σ (some (vI 1)) σ2) (hq : ∀ x, Wp L (d + 8) (kM 0) 10 (lM 0 key x) [] σ2 Q) : ∃ r σ', Run L (d + 8) (247 + 0) [vR 293, vI key] σ r σ' ∧ Q r σ' := Run_ex2 (C' := k_M_either) rfl (rl_in_0 hU (hq vU))
theorem rr_in0_0 {σ2 : gMm} {key : Int} (hU : Run L (d + 7) (248 + 0) [vR 293, vI key] σ (some (vI 0)) σ2) : Run L (d + 8) (247 + 0) [vR 293, vI key] σ (some (vI 0)) σ2 := Run_of (C' := k_M_either) rfl (rl_in0_0 hU ⟨rfl, rfl⟩)
theorem rr_exit_1 {b : Nat → Int} {n B o t e N lv : Nat} {key w : Int} {pw pv : Nat → Int} (h : PVr b n B o t e w N lv pw pv σ) (hg : ¬(gtq b n e w = 3 ∧ gsl 1 (b (gts b n e)))) (hq : Q (some (vI 1)) σ) (x : gV) : Wp L (d + 8) (kM 1) 10 (lM 1 key x) [] σ Q := rl_exit_1 (sgr_f h (fun z => hg ⟨z.1, gsl_1.2 (by omega)⟩)) hq
theorem rr_step_1 {σ2 σ3 σ4 : gMm} {b : Nat → Int} {n B o t e N lv : Nat} {key w : Int} {pw pv : Nat → Int} (h : PVr b n B o t e w N lv pw pv σ) (c3 : gtq b n e w = 3) (hg : gsl 1 (b (gts b n e))) (hN : Run L (d + 7) 241 [vR 293] σ none σ2) (hU : Run L (d + 7) (248 + 1) [vR 293, vI key] σ2 (some (vI 1)) σ3) (hL : Run L (d + 7) 253 [vR 293, vI 2, vI (b (gts b n e))] σ3 none σ4) (hq : ∀ x, Wp L (d + 8) (kM 1) 10 (lM 1 key x) [] σ4 Q) (x : gV) : Wp L (d + 8) (kM 1) 10 (lM 1 key x) [] σ Q := by
  have g14 : σ 293 14 = b (gts b n e) := h.1.2.2.2.2.2.2.2 (tq_3 c3).1 (tq_3 c3).2.1
  have cx := gsl_1.1 hg
  · have cc := cx
    rw [cc] at hL
    exact rl_step_1_0 (sgr_t h c3 (by omega)) hN hU hL (hq vU)
theorem rr_step0_1 {σ2 σ3 : gMm} {b : Nat → Int} {n B o t e N lv : Nat} {key w : Int} {pw pv : Nat → Int} (h : PVr b n B o t e w N lv pw pv σ) (c3 : gtq b n e w = 3) (hg : gsl 1 (b (gts b n e))) (hN : Run L (d + 7) 241 [vR 293] σ none σ2) (hU : Run L (d + 7) (248 + 1) [vR 293, vI key] σ2 (some (vI 0)) σ3) (hq : Q (some (vI 0)) σ3) (x : gV) : Wp L (d + 8) (kM 1) 10 (lM 1 key x) [] σ Q := by
  have g14 : σ 293 14 = b (gts b n e) := h.1.2.2.2.2.2.2.2 (tq_3 c3).1 (tq_3 c3).2.1
  have cx := gsl_1.1 hg
  · have cc := cx
    exact rl_step0_1_0 (sgr_t h c3 (by omega)) hN hU hq
theorem rr_in_1 {σ2 : gMm} {key : Int} (hU : Run L (d + 7) (248 + 1) [vR 293, vI key] σ (some (vI 1)) σ2) (hq : ∀ x, Wp L (d + 8) (kM 1) 10 (lM 1 key x) [] σ2 Q) : ∃ r σ', Run L (d + 8) (247 + 1) [vR 293, vI key] σ r σ' ∧ Q r σ' := Run_ex2 (C' := k_M_both) rfl (rl_in_1 hU (hq vU))
theorem rr_in0_1 {σ2 : gMm} {key : Int} (hU : Run L (d + 7) (248 + 1) [vR 293, vI key] σ (some (vI 0)) σ2) : Run L (d + 8) (247 + 1) [vR 293, vI key] σ (some (vI 0)) σ2 := Run_of (C' := k_M_both) rfl (rl_in0_1 hU ⟨rfl, rfl⟩)
theorem rr_exit_2 {b : Nat → Int} {n B o t e N lv : Nat} {key w : Int} {pw pv : Nat → Int} (h : PVr b n B o t e w N lv pw pv σ) (hg : ¬(gtq b n e w = 3 ∧ gsl 2 (b (gts b n e)))) (hq : Q (some (vI 1)) σ) (x : gV) : Wp L (d + 8) (kM 2) 10 (lM 2 key x) [] σ Q := rl_exit_2 (sgr_f h (fun z => hg ⟨z.1, gsl_2.2 (by omega)⟩)) (sgr_f h (fun z => hg ⟨z.1, gsl_2.2 (by omega)⟩)) (sgr_f h (fun z => hg ⟨z.1, gsl_2.2 (by omega)⟩)) hq
theorem rr_step_2 {σ2 σ3 σ4 : gMm} {b : Nat → Int} {n B o t e N lv : Nat} {key w : Int} {pw pv : Nat → Int} (h : PVr b n B o t e w N lv pw pv σ) (c3 : gtq b n e w = 3) (hg : gsl 2 (b (gts b n e))) (hN : Run L (d + 7) 241 [vR 293] σ none σ2) (hU : Run L (d + 7) (248 + 2) [vR 293, vI key] σ2 (some (vI 1)) σ3) (hL : Run L (d + 7) 253 [vR 293, vI 2, vI (b (gts b n e))] σ3 none σ4) (hq : Q (some (vI 1)) σ4) (x : gV) : Wp L (d + 8) (kM 2) 10 (lM 2 key x) [] σ Q := by
  have g14 : σ 293 14 = b (gts b n e) := h.1.2.2.2.2.2.2.2 (tq_3 c3).1 (tq_3 c3).2.1
  have cx := gsl_2.1 hg
  rcases cx with cc | cc | cc
  · rw [cc] at hL
    exact rl_step_2_0 (sgr_t h c3 (by omega)) (by omega) hN hU hL hq
  · rw [cc] at hL
    exact rl_step_2_1 (sgr_f h (by omega)) (sgr_t h c3 (by omega)) (by omega) hN hU hL hq
  · rw [cc] at hL
    exact rl_step_2_2 (sgr_f h (by omega)) (sgr_f h (by omega)) (sgr_t h c3 (by omega)) (by omega) hN hU hL hq
theorem rr_step0_2 {σ2 σ3 : gMm} {b : Nat → Int} {n B o t e N lv : Nat} {key w : Int} {pw pv : Nat → Int} (h : PVr b n B o t e w N lv pw pv σ) (c3 : gtq b n e w = 3) (hg : gsl 2 (b (gts b n e))) (hN : Run L (d + 7) 241 [vR 293] σ none σ2) (hU : Run L (d + 7) (248 + 2) [vR 293, vI key] σ2 (some (vI 0)) σ3) (hq : Q (some (vI 0)) σ3) (x : gV) : Wp L (d + 8) (kM 2) 10 (lM 2 key x) [] σ Q := by
  have g14 : σ 293 14 = b (gts b n e) := h.1.2.2.2.2.2.2.2 (tq_3 c3).1 (tq_3 c3).2.1
  have cx := gsl_2.1 hg
  rcases cx with cc | cc | cc
  · exact rl_step0_2_0 (sgr_t h c3 (by omega)) (by omega) hN hU hq
  · exact rl_step0_2_1 (sgr_f h (by omega)) (sgr_t h c3 (by omega)) (by omega) hN hU hq
  · exact rl_step0_2_2 (sgr_f h (by omega)) (sgr_f h (by omega)) (sgr_t h c3 (by omega)) (by omega) hN hU hq
theorem rr_in_2 {σ2 : gMm} {key : Int} (hU : Run L (d + 7) (248 + 2) [vR 293, vI key] σ (some (vI 1)) σ2) (hq : ∀ x, Wp L (d + 8) (kM 2) 10 (lM 2 key x) [] σ2 Q) : ∃ r σ', Run L (d + 8) (247 + 2) [vR 293, vI key] σ r σ' ∧ Q r σ' := Run_ex2 (C' := k_M_test_I) rfl (rl_in_2 hU (hq vU))
theorem rr_in0_2 {σ2 : gMm} {key : Int} (hU : Run L (d + 7) (248 + 2) [vR 293, vI key] σ (some (vI 0)) σ2) : Run L (d + 8) (247 + 2) [vR 293, vI key] σ (some (vI 0)) σ2 := Run_of (C' := k_M_test_I) rfl (rl_in0_2 hU ⟨rfl, rfl⟩)
theorem rr_exit_3 {b : Nat → Int} {n B o t e N lv : Nat} {key w : Int} {pw pv : Nat → Int} (h : PVr b n B o t e w N lv pw pv σ) (hg : ¬(gtq b n e w = 3 ∧ gsl 3 (b (gts b n e)))) (hq : Q (some (vI 1)) σ) (x : gV) : Wp L (d + 8) (kM 3) 10 (lM 3 key x) [] σ Q := rl_exit_3 (sgr_f h (fun z => hg ⟨z.1, gsl_3.2 (by omega)⟩)) (sgr_f h (fun z => hg ⟨z.1, gsl_3.2 (by omega)⟩)) hq
theorem rr_step_3 {σ2 σ3 σ4 : gMm} {b : Nat → Int} {n B o t e N lv : Nat} {key w : Int} {pw pv : Nat → Int} (h : PVr b n B o t e w N lv pw pv σ) (c3 : gtq b n e w = 3) (hg : gsl 3 (b (gts b n e))) (hN : Run L (d + 7) 241 [vR 293] σ none σ2) (hU : Run L (d + 7) (248 + 3) [vR 293, vI key] σ2 (some (vI 1)) σ3) (hL : Run L (d + 7) 253 [vR 293, vI 2, vI (b (gts b n e))] σ3 none σ4) (hq : ∀ x, Wp L (d + 8) (kM 3) 10 (lM 3 key x) [] σ4 Q) (x : gV) : Wp L (d + 8) (kM 3) 10 (lM 3 key x) [] σ Q := by
  have g14 : σ 293 14 = b (gts b n e) := h.1.2.2.2.2.2.2.2 (tq_3 c3).1 (tq_3 c3).2.1
  have cx := gsl_3.1 hg
  rcases cx with cc | cc
  · rw [cc] at hL
    exact rl_step_3_0 (sgr_t h c3 (by omega)) (by omega) hN hU hL (hq _)
  · rw [cc] at hL
    exact rl_step_3_1 (sgr_f h (by omega)) (sgr_t h c3 (by omega)) (by omega) hN hU hL (hq _)
theorem rr_step0_3 {σ2 σ3 : gMm} {b : Nat → Int} {n B o t e N lv : Nat} {key w : Int} {pw pv : Nat → Int} (h : PVr b n B o t e w N lv pw pv σ) (c3 : gtq b n e w = 3) (hg : gsl 3 (b (gts b n e))) (hN : Run L (d + 7) 241 [vR 293] σ none σ2) (hU : Run L (d + 7) (248 + 3) [vR 293, vI key] σ2 (some (vI 0)) σ3) (hq : Q (some (vI 0)) σ3) (x : gV) : Wp L (d + 8) (kM 3) 10 (lM 3 key x) [] σ Q := by
  have g14 : σ 293 14 = b (gts b n e) := h.1.2.2.2.2.2.2.2 (tq_3 c3).1 (tq_3 c3).2.1
  have cx := gsl_3.1 hg
  rcases cx with cc | cc
  · exact rl_step0_3_0 (sgr_t h c3 (by omega)) (by omega) hN hU hq
  · exact rl_step0_3_1 (sgr_f h (by omega)) (sgr_t h c3 (by omega)) (by omega) hN hU hq
theorem rr_in_3 {σ2 : gMm} {key : Int} (hU : Run L (d + 7) (248 + 3) [vR 293, vI key] σ (some (vI 1)) σ2) (hq : ∀ x, Wp L (d + 8) (kM 3) 10 (lM 3 key x) [] σ2 Q) : ∃ r σ', Run L (d + 8) (247 + 3) [vR 293, vI key] σ r σ' ∧ Q r σ' := Run_ex2 (C' := k_M_sum) rfl (rl_in_3 hU (hq vU))
theorem rr_in0_3 {σ2 : gMm} {key : Int} (hU : Run L (d + 7) (248 + 3) [vR 293, vI key] σ (some (vI 0)) σ2) : Run L (d + 8) (247 + 3) [vR 293, vI key] σ (some (vI 0)) σ2 := Run_of (C' := k_M_sum) rfl (rl_in0_3 hU ⟨rfl, rfl⟩)
theorem rr_exit_4 {b : Nat → Int} {n B o t e N lv : Nat} {key w : Int} {pw pv : Nat → Int} (h : PVr b n B o t e w N lv pw pv σ) (hg : ¬(gtq b n e w = 3 ∧ gsl 4 (b (gts b n e)))) (hq : Q (some (vI 1)) σ) (x : gV) : Wp L (d + 8) (kM 4) 10 (lM 4 key x) [] σ Q := rl_exit_4 (sgr_f h (fun z => hg ⟨z.1, gsl_4.2 (by omega)⟩)) (sgr_f h (fun z => hg ⟨z.1, gsl_4.2 (by omega)⟩)) hq
theorem rr_step_4 {σ2 σ3 σ4 : gMm} {b : Nat → Int} {n B o t e N lv : Nat} {key w : Int} {pw pv : Nat → Int} (h : PVr b n B o t e w N lv pw pv σ) (c3 : gtq b n e w = 3) (hg : gsl 4 (b (gts b n e))) (hN : Run L (d + 7) 241 [vR 293] σ none σ2) (hU : Run L (d + 7) (248 + 4) [vR 293, vI key] σ2 (some (vI 1)) σ3) (hL : Run L (d + 7) 253 [vR 293, vI 2, vI (b (gts b n e))] σ3 none σ4) (hq : ∀ x, Wp L (d + 8) (kM 4) 10 (lM 4 key x) [] σ4 Q) (x : gV) : Wp L (d + 8) (kM 4) 10 (lM 4 key x) [] σ Q := by
  have g14 : σ 293 14 = b (gts b n e) := h.1.2.2.2.2.2.2.2 (tq_3 c3).1 (tq_3 c3).2.1
  have cx := gsl_4.1 hg
  rcases cx with cc | cc
  · rw [cc] at hL
    exact rl_step_4_0 (sgr_t h c3 (by omega)) (by omega) hN hU hL (hq _)
  · rw [cc] at hL
    exact rl_step_4_1 (sgr_f h (by omega)) (sgr_t h c3 (by omega)) (by omega) hN hU hL (hq _)
theorem rr_step0_4 {σ2 σ3 : gMm} {b : Nat → Int} {n B o t e N lv : Nat} {key w : Int} {pw pv : Nat → Int} (h : PVr b n B o t e w N lv pw pv σ) (c3 : gtq b n e w = 3) (hg : gsl 4 (b (gts b n e))) (hN : Run L (d + 7) 241 [vR 293] σ none σ2) (hU : Run L (d + 7) (248 + 4) [vR 293, vI key] σ2 (some (vI 0)) σ3) (hq : Q (some (vI 0)) σ3) (x : gV) : Wp L (d + 8) (kM 4) 10 (lM 4 key x) [] σ Q := by
  have g14 : σ 293 14 = b (gts b n e) := h.1.2.2.2.2.2.2.2 (tq_3 c3).1 (tq_3 c3).2.1
  have cx := gsl_4.1 hg
  rcases cx with cc | cc
  · exact rl_step0_4_0 (sgr_t h c3 (by omega)) (by omega) hN hU hq
  · exact rl_step0_4_1 (sgr_f h (by omega)) (sgr_t h c3 (by omega)) (by omega) hN hU hq
theorem rr_in_4 {σ2 : gMm} {key : Int} (hU : Run L (d + 7) (248 + 4) [vR 293, vI key] σ (some (vI 1)) σ2) (hq : ∀ x, Wp L (d + 8) (kM 4) 10 (lM 4 key x) [] σ2 Q) : ∃ r σ', Run L (d + 8) (247 + 4) [vR 293, vI key] σ r σ' ∧ Q r σ' := Run_ex2 (C' := k_M_term) rfl (rl_in_4 hU (hq vU))
theorem rr_in0_4 {σ2 : gMm} {key : Int} (hU : Run L (d + 7) (248 + 4) [vR 293, vI key] σ (some (vI 0)) σ2) : Run L (d + 8) (247 + 4) [vR 293, vI key] σ (some (vI 0)) σ2 := Run_of (C' := k_M_term) rfl (rl_in0_4 hU ⟨rfl, rfl⟩)
theorem rr_exit {b : Nat → Int} {n B o t e N lv : Nat} {key w : Int} {pw pv : Nat → Int} : ∀ l : Nat, l < 5 → PVr b n B o t e w N lv pw pv σ → ¬(gtq b n e w = 3 ∧ gsl l (b (gts b n e))) → Q (some (vI 1)) σ → ∀ x : gV, Wp L (d + 8) (kM l) 10 (lM l key x) [] σ Q
  | 0, _ => fun h hg hq x => rr_exit_0 h hg hq x
  | 1, _ => fun h hg hq x => rr_exit_1 h hg hq x
  | 2, _ => fun h hg hq x => rr_exit_2 h hg hq x
  | 3, _ => fun h hg hq x => rr_exit_3 h hg hq x
  | 4, _ => fun h hg hq x => rr_exit_4 h hg hq x
  | l + 5, hl => absurd hl (by omega)
theorem rr_step {σ2 σ3 σ4 : gMm} {b : Nat → Int} {n B o t e N lv : Nat} {key w : Int} {pw pv : Nat → Int} : ∀ l : Nat, l < 5 → l ≠ 2 → PVr b n B o t e w N lv pw pv σ → gtq b n e w = 3 → gsl l (b (gts b n e)) → Run L (d + 7) 241 [vR 293] σ none σ2 → Run L (d + 7) (248 + l) [vR 293, vI key] σ2 (some (vI 1)) σ3 → Run L (d + 7) 253 [vR 293, vI 2, vI (b (gts b n e))] σ3 none σ4 → (∀ x, Wp L (d + 8) (kM l) 10 (lM l key x) [] σ4 Q) → ∀ x : gV, Wp L (d + 8) (kM l) 10 (lM l key x) [] σ Q
  | 0, _, _ => fun h c3 hg hN hU hL hq x => rr_step_0 h c3 hg hN hU hL hq x
  | 1, _, _ => fun h c3 hg hN hU hL hq x => rr_step_1 h c3 hg hN hU hL hq x
  | 2, _, h2 => absurd rfl h2
  | 3, _, _ => fun h c3 hg hN hU hL hq x => rr_step_3 h c3 hg hN hU hL hq x
  | 4, _, _ => fun h c3 hg hN hU hL hq x => rr_step_4 h c3 hg hN hU hL hq x
  | l + 5, hl, _ => absurd hl (by omega)
theorem rr_step0 {σ2 σ3 : gMm} {b : Nat → Int} {n B o t e N lv : Nat} {key w : Int} {pw pv : Nat → Int} : ∀ l : Nat, l < 5 → PVr b n B o t e w N lv pw pv σ → gtq b n e w = 3 → gsl l (b (gts b n e)) → Run L (d + 7) 241 [vR 293] σ none σ2 → Run L (d + 7) (248 + l) [vR 293, vI key] σ2 (some (vI 0)) σ3 → Q (some (vI 0)) σ3 → ∀ x : gV, Wp L (d + 8) (kM l) 10 (lM l key x) [] σ Q
  | 0, _ => fun h c3 hg hN hU hq x => rr_step0_0 h c3 hg hN hU hq x
  | 1, _ => fun h c3 hg hN hU hq x => rr_step0_1 h c3 hg hN hU hq x
  | 2, _ => fun h c3 hg hN hU hq x => rr_step0_2 h c3 hg hN hU hq x
  | 3, _ => fun h c3 hg hN hU hq x => rr_step0_3 h c3 hg hN hU hq x
  | 4, _ => fun h c3 hg hN hU hq x => rr_step0_4 h c3 hg hN hU hq x
  | l + 5, hl => absurd hl (by omega)
theorem rr_in {σ2 : gMm} {key : Int} : ∀ l : Nat, l < 5 → Run L (d + 7) (248 + l) [vR 293, vI key] σ (some (vI 1)) σ2 → (∀ x, Wp L (d + 8) (kM l) 10 (lM l key x) [] σ2 Q) → ∃ r σ', Run L (d + 8) (247 + l) [vR 293, vI key] σ r σ' ∧ Q r σ'
  | 0, _ => fun hU hq => rr_in_0 hU hq
  | 1, _ => fun hU hq => rr_in_1 hU hq
  | 2, _ => fun hU hq => rr_in_2 hU hq
  | 3, _ => fun hU hq => rr_in_3 hU hq
  | 4, _ => fun hU hq => rr_in_4 hU hq
  | l + 5, hl => absurd hl (by omega)
theorem rr_in0 {σ2 : gMm} {key : Int} : ∀ l : Nat, l < 5 → Run L (d + 7) (248 + l) [vR 293, vI key] σ (some (vI 0)) σ2 → Run L (d + 8) (247 + l) [vR 293, vI key] σ (some (vI 0)) σ2
  | 0, _ => fun hU => rr_in0_0 hU
  | 1, _ => fun hU => rr_in0_1 hU
  | 2, _ => fun hU => rr_in0_2 hU
  | 3, _ => fun hU => rr_in0_3 hU
  | 4, _ => fun hU => rr_in0_4 hU
  | l + 5, hl => absurd hl (by omega)
theorem jpart {b : Nat → Int} {n : Nat} {key : Int} {B : Nat} (hn : n ≤ 96) (hb : ∀ i, i < n → 0 ≤ b i ∧ b i ≤ 255) (hk : 0 ≤ key ∧ key ≤ 3) (hB : B ≤ 3340) {o t e : Nat} (ho : o ≤ 8) (ht : t ≤ 8) (hen : e ≤ n) (ihP : ∀ e2, e < e2 → e2 ≤ n → ∀ t', t' ≤ 8 → jPart b n key B o t' e2) (ih0 : ∀ e2, e < e2 → e2 ≤ n → ∀ o', o' ≤ 8 → jLev b n key B 0 o' t e2) : jPart b n key B o t e := by
  intro w N lv pw pv D hN hlv hD hV
  have sb := gts_bd (b := b) hen
  have tb := gte_bd (b := b) hen
  have sE := gts_bd (b := b) tb.2.1
  by_cases c1 : gtq b n e w = 3 ∧ b (gts b n e) = 33 ∧ t < 8
  · have q := tq_3 c1.1
    rcases ihP (gte b n e) (by omega) tb.2.1 (t + 1) (by omega) (gtq b n e w) N lv pw pv D (by omega) hlv hD hV with ⟨e2, w2, N2, lv2, pw2, pv2, ⟨p1, p2, p3, p4, p5⟩, hC, hR⟩ | ⟨s2, hC, hR⟩
    · have s2b := gts_bd (b := b) p1.2
      exact Or.inl ⟨e2, w2, N2 + 1, lv2, fu pw2 N2 2, fu pv2 N2 33, ⟨by omega, by omega, by omega, by omega, Vp_not p5 (by omega)⟩, pc_not_S hn hen c1.2.2 c1.1 c1.2.1 (by omega) hC, pr_not_S hn hB hen c1.2.2 c1.1 c1.2.1 (by omega) hR⟩
    · exact Or.inr ⟨s2, pc_not_F hn hen c1.2.2 c1.1 c1.2.1 hC, pr_not_F hn hen c1.2.2 c1.1 c1.2.1 hR⟩
  · by_cases c2 : gtq b n e w = 3 ∧ b (gts b n e) = 40 ∧ o < 8
    · have q := tq_3 c2.1
      rcases ih0 (gte b n e) (by omega) tb.2.1 (o + 1) (by omega) (gtq b n e w) N lv pw pv D (by omega) hlv hD hV with ⟨e2, w2, N2, lv2, pw2, pv2, ⟨p1, p2, p3, p4, p5⟩, hC, hR⟩ | ⟨s2, hC, hR⟩
      · have s2b := gts_bd (b := b) p1.2
        have t2b := gte_bd (b := b) p1.2
        have s3b := gts_bd (b := b) t2b.2.1
        by_cases c3 : gtq b n e2 w2 = 3 ∧ b (gts b n e2) = 41
        · exact Or.inl ⟨gte b n e2, gtq b n e2 w2, N2, lv2, pw2, pv2, ⟨by omega, by omega, by omega, p4, p5⟩, pc_par_S hn hen p1.2 c2.2.2 c2.1 c2.2.1 c3.1 c3.2 hC, pr_par_S hn hen p1.2 c2.2.2 c2.1 c2.2.1 c3.1 c3.2 hR⟩
        · exact Or.inr ⟨gts b n e2, pc_par_G hn hen c2.2.2 c2.1 c2.2.1 (by omega) c3 hC, pr_par_G hn hen c2.2.2 c2.1 c2.2.1 c3 hR⟩
      · exact Or.inr ⟨s2, pc_par_F hn hen c2.2.2 c2.1 c2.2.1 hC, pr_par_F hn hen c2.2.2 c2.1 c2.2.1 hR⟩
    · by_cases c4 : gtq b n e w = 2 ∧ ¬ gts b n e + 4 < gte b n e
      · have q := tq_2 hen c4.1
        have gb := gnum_bd (b := b) (s := gts b n e) (gte b n e - gts b n e) q.2.2
        exact Or.inl ⟨gte b n e, gtq b n e w, N + 1, lv + 1, _, _, ⟨by omega, by omega, by omega, by omega, Vp_leaf hV (Or.inl ⟨rfl, gb.1, gb.2.2.2.2.2⟩)⟩, pc_num hn hb hen (by omega) (by omega) c4.1 c4.2, pr_num hn hB hen (by omega) (by omega) c4.1 c4.2⟩
      · by_cases c5 : gtq b n e w = 1 ∧ gte b n e = gts b n e + 1 ∧ (gnm key (b (gts b n e))).isSome = true
        · have q := tq_1 c5.1
          obtain ⟨i, hi⟩ := Option.isSome_iff_exists.1 c5.2.2
          exact Or.inl ⟨gte b n e, gtq b n e w, N + 1, lv + 1, _, _, ⟨by omega, by omega, by omega, by omega, Vp_leaf hV (Or.inr ⟨rfl, c5.2.2⟩)⟩, pc_name hn hb hk hen (by omega) (by omega) c5.1 c5.2.1 hi, pr_name hn hk hB hen (by omega) (by omega) c5.1 c5.2.1 hi⟩
        · exact Or.inr ⟨gts b n e, pc_none hn hb hk hen (by omega) (fun z1 z2 => by omega) (fun z1 z2 => by omega) c4 c5, pr_none hk ho (fun z1 z2 => by omega) (fun z1 z2 => by omega) c4 c5⟩
theorem jlev5 {b : Nat → Int} {n : Nat} {key : Int} {B o t e : Nat} (ho : o ≤ 8) (ht : t ≤ 8) (hp : jPart b n key B o t e) : jLev b n key B 5 o t e := by
  intro w N lv pw pv D hN hlv hD hV
  rcases hp w N lv pw pv D hN hlv hD hV with ⟨e2, w2, N2, lv2, pw2, pv2, p, hC, hR⟩ | ⟨s2, hC, hR⟩
  · refine Or.inl ⟨e2, w2, N2, lv2, pw2, pv2, p, fun L D σ hD h => ?_, fun L D σ hD h => hR L D σ (by omega) h⟩
    obtain ⟨d, rfl⟩ : ∃ d, D = d + 6 := ⟨D - 6, by omega⟩
    obtain ⟨σ1, hU, h1, A1⟩ := hC L (d + 5) σ (by omega) h
    exact ⟨σ1, lp_part (Or.inr rfl) hU, h1, A1⟩
  · refine Or.inr ⟨s2, fun L D σ hD h => ?_, fun L D σ hD h => hR L D σ (by omega) h⟩
    obtain ⟨d, rfl⟩ : ∃ d, D = d + 6 := ⟨D - 6, by omega⟩
    obtain ⟨σ1, hU, h1, A1⟩ := hC L (d + 5) σ (by omega) h
    exact ⟨σ1, lp_part (Or.inl rfl) hU, h1, A1⟩
