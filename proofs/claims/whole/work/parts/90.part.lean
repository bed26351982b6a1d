/-! text: a part of a text, class and reference. -/
variable {L d : Nat} {σ σ1 : Nat → Nat → Int} {Q : Option gV → (Nat → Nat → Int) → Prop} {a0 a1 a2 a3 a4 a5 a6 a7 a8 a9 a10 a11 s0 s1 s2 s3 s4 s5 s6 s7 s8 s9 : Int} {l0 l1 l2 l3 l4 l5 l6 l7 l8 l9 l10 l11 t0 t1 t2 t3 t4 t5 t6 t7 t8 t9 : gV} {b0 b1 b2 b3 b4 b5 b6 b7 b8 b9 b10 b11 c0 c1 c2 c3 c4 c5 c6 c7 c8 c9 : Nat} {r : Option gV}
theorem sgc_t {b : Nat → Int} {n e N lv : Nat} {key w : Int} {pw pv : Nat → Int} (h96 : n ≤ 96) (h : PVc b n key e w N lv pw pv σ) (c : gtq b n e w = 3) (c2 : b (gts b n e) = a1) : Run L d 164 [vR 279, vI a1] σ (some (vI 1)) σ := by
  have r := pv_sign_c (L := L) (d := d) (a1 := a1) h96 h
  rw [gb_t ⟨c, c2⟩] at r
  exact r
theorem sgc_f {b : Nat → Int} {n e N lv : Nat} {key w : Int} {pw pv : Nat → Int} (h96 : n ≤ 96) (h : PVc b n key e w N lv pw pv σ) (c : ¬(gtq b n e w = 3 ∧ b (gts b n e) = a1)) : Run L d 164 [vR 279, vI a1] σ (some (vI 0)) σ := by
  have r := pv_sign_c (L := L) (d := d) (a1 := a1) h96 h
  rw [gb_f c] at r
  exact r
theorem sgr_t {b : Nat → Int} {n B o t e N lv : Nat} {w : Int} {pw pv : Nat → Int} (h : PVr b n B o t e w N lv pw pv σ) (c : gtq b n e w = 3) (c2 : b (gts b n e) = a1) : Run L d 255 [vR 293, vI a1] σ (some (vI 1)) σ := by
  have r := pv_sign_r (L := L) (d := d) (a1 := a1) h
  rw [gb_t ⟨c, c2⟩] at r
  exact r
theorem sgr_f {b : Nat → Int} {n B o t e N lv : Nat} {w : Int} {pw pv : Nat → Int} (h : PVr b n B o t e w N lv pw pv σ) (c : ¬(gtq b n e w = 3 ∧ b (gts b n e) = a1)) : Run L d 255 [vR 293, vI a1] σ (some (vI 0)) σ := by
  have r := pv_sign_r (L := L) (d := d) (a1 := a1) h
  rw [gb_f c] at r
  exact r
theorem pvr_12 {b : Nat → Int} {n B o t e N lv : Nat} {w : Int} {pw pv : Nat → Int} (h : PVr b n B o t e w N lv pw pv σ) : σ 293 12 = gtm b n e w := h.1.2.2.2.2.1
/-- ! -/
theorem pc_not_S {b : Nat → Int} {n : Nat} {key : Int} {e N lv : Nat} {w : Int} {pw pv : Nat → Int} {e2 N2 lv2 : Nat} {w2 : Int} {pw2 pv2 : Nat → Int} {o t : Nat} (hn : n ≤ 96) (hen : e ≤ n) (ht : t < 8) (c : gtq b n e w = 3) (c33 : b (gts b n e) = 33) (hN2 : N2 < 96) (hC : jcS b n key 163 [vI (o : Int), vI ((t + 1 : Nat) : Int)] (7 * (8 - o) + (8 - (t + 1)) + 10) (gte b n e) (gtq b n e w) N lv pw pv e2 w2 N2 lv2 pw2 pv2) : jcS b n key 163 [vI (o : Int), vI (t : Int)] (7 * (8 - o) + (8 - t) + 10) e w N lv pw pv e2 w2 (N2 + 1) lv2 (fu pw2 N2 2) (fu pv2 N2 33) := by
  intro L D σ hD h
  obtain ⟨d, rfl⟩ : ∃ d, D = d + 6 := ⟨D - 6, by omega⟩
  have hS := sgc_t (L := L) (d := d + 5) hn h c c33
  obtain ⟨σ1, hT, h1, A1⟩ := pv_step_c (L := L) (d := d + 4) hn hen h
  obtain ⟨σ2, hU, h2, A2⟩ := hC L (d + 5) σ1 (by omega) h1
  obtain ⟨σ3, hE, h3, A3⟩ := pv_emit_c (L := L) (d := d + 5) (c := 20033) (x := 2) (y := 33) hN2 rfl h2
  exact ⟨σ3, pp_not (by omega) (Or.inr rfl) hS hT hU hE, h3, Agr_trans (Agr_trans A1 A2) A3⟩
theorem pc_not_F {b : Nat → Int} {n : Nat} {key : Int} {e N lv : Nat} {w : Int} {pw pv : Nat → Int} {o t s : Nat} (hn : n ≤ 96) (hen : e ≤ n) (ht : t < 8) (c : gtq b n e w = 3) (c33 : b (gts b n e) = 33) (hC : jcF b n key 163 [vI (o : Int), vI ((t + 1 : Nat) : Int)] (7 * (8 - o) + (8 - (t + 1)) + 10) (gte b n e) (gtq b n e w) N lv pw pv s) : jcF b n key 163 [vI (o : Int), vI (t : Int)] (7 * (8 - o) + (8 - t) + 10) e w N lv pw pv s := by
  intro L D σ hD h
  obtain ⟨d, rfl⟩ : ∃ d, D = d + 6 := ⟨D - 6, by omega⟩
  have hS := sgc_t (L := L) (d := d + 5) hn h c c33
  obtain ⟨σ1, hT, h1, A1⟩ := pv_step_c (L := L) (d := d + 4) hn hen h
  obtain ⟨σ2, hU, h2, A2⟩ := hC L (d + 5) σ1 (by omega) h1
  obtain ⟨σ3, hE, h3, A3⟩ := pf_emit_c (L := L) (d := d + 5) (c := 20033) h2
  exact ⟨σ3, pp_not (by omega) (Or.inl rfl) hS hT hU hE, h3, Agr_trans (Agr_trans A1 A2) A3⟩
theorem pr_not_S {b : Nat → Int} {n : Nat} {key : Int} {e N lv : Nat} {w : Int} {pw pv : Nat → Int} {e2 N2 lv2 : Nat} {w2 : Int} {pw2 pv2 : Nat → Int} {B o t : Nat} (hn : n ≤ 96) (hB : B ≤ 3340) (hen : e ≤ n) (ht : t < 8) (c : gtq b n e w = 3) (c33 : b (gts b n e) = 33) (hN2 : N2 < 96) (hC : jrS b n key B 252 (6 * (8 - o) + (8 - (t + 1)) + 10) o (t + 1) (gte b n e) (gtq b n e w) N lv pw pv e2 w2 N2 lv2 pw2 pv2) : jrS b n key B 252 (6 * (8 - o) + (8 - t) + 10) o t e w N lv pw pv e2 w2 (N2 + 1) lv2 (fu pw2 N2 2) (fu pv2 N2 33) := by
  intro L D σ hD h
  obtain ⟨d, rfl⟩ : ∃ d, D = d + 8 := ⟨D - 8, by omega⟩
  have tm := tm_c b n e w
  have g1 := pvr_12 h
  have g2 : σ 293 16 = (t : Int) := h.2.2.1
  have hS := sgr_t (L := L) (d := d + 7) h c c33
  obtain ⟨h0, A0⟩ := pv_set16 (x' := t + 1) (v := σ 293 16 + 1) (by omega) h
  obtain ⟨σ1, hT, h1, A1⟩ := pv_step_r (L := L) (d := d + 5) hn hen (by omega) h0
  obtain ⟨σ2, hU, h2, A2⟩ := hC L (d + 7) σ1 (by omega) h1
  have g3 : σ2 293 16 = ((t + 1 : Nat) : Int) := h2.2.2.1
  obtain ⟨h4, A4⟩ := pv_set16 (x' := t) (v := σ2 293 16 - 1) (by omega) h2
  obtain ⟨σ3, hE, h3, A3⟩ := pv_lay_r (L := L) (d := d + 7) (x := 2) (y := 33) hN2 hB h4
  exact ⟨σ3, mp_not1 (by omega) (by omega) hS hT hU (by omega) hE, h3, Agr_trans (Agr_trans (Agr_trans (Agr_trans A0 A1) A2) A4) A3⟩
theorem pr_not_F {b : Nat → Int} {n : Nat} {key : Int} {e N lv : Nat} {w : Int} {pw pv : Nat → Int} {B o t s : Nat} (hn : n ≤ 96) (hen : e ≤ n) (ht : t < 8) (c : gtq b n e w = 3) (c33 : b (gts b n e) = 33) (hC : jrF b n key B 252 (6 * (8 - o) + (8 - (t + 1)) + 10) o (t + 1) (gte b n e) (gtq b n e w) N lv pw pv s) : jrF b n key B 252 (6 * (8 - o) + (8 - t) + 10) o t e w N lv pw pv s := by
  intro L D σ hD h
  obtain ⟨d, rfl⟩ : ∃ d, D = d + 8 := ⟨D - 8, by omega⟩
  have tm := tm_c b n e w
  have g1 := pvr_12 h
  have g2 : σ 293 16 = (t : Int) := h.2.2.1
  have hS := sgr_t (L := L) (d := d + 7) h c c33
  obtain ⟨h0, A0⟩ := pv_set16 (x' := t + 1) (v := σ 293 16 + 1) (by omega) h
  obtain ⟨σ1, hT, h1, A1⟩ := pv_step_r (L := L) (d := d + 5) hn hen (by omega) h0
  obtain ⟨σ2, hU, h2, A2⟩ := hC L (d + 7) σ1 (by omega) h1
  exact ⟨σ2, mp_not0 (by omega) (by omega) hS hT hU, h2, Agr_trans (Agr_trans A0 A1) A2⟩
/-- ( -/
theorem pc_par_F {b : Nat → Int} {n : Nat} {key : Int} {e N lv : Nat} {w : Int} {pw pv : Nat → Int} {o t s : Nat} (hn : n ≤ 96) (hen : e ≤ n) (ho : o < 8) (c : gtq b n e w = 3) (c40 : b (gts b n e) = 40) (hC : jcF b n key 162 [vI ((0 : Nat) : Int), vI ((o + 1 : Nat) : Int), vI (t : Int)] (7 * (8 - (o + 1)) + (8 - t) + 16 - 0) (gte b n e) (gtq b n e w) N lv pw pv s) : jcF b n key 163 [vI (o : Int), vI (t : Int)] (7 * (8 - o) + (8 - t) + 10) e w N lv pw pv s := by
  intro L D σ hD h
  obtain ⟨d, rfl⟩ : ∃ d, D = d + 6 := ⟨D - 6, by omega⟩
  have hS := sgc_f (L := L) (d := d + 5) (a1 := 33) hn h (by omega)
  have hS2 := sgc_t (L := L) (d := d + 5) hn h c c40
  obtain ⟨σ1, hT, h1, A1⟩ := pv_step_c (L := L) (d := d + 4) hn hen h
  obtain ⟨σ2, hU, h2, A2⟩ := hC L (d + 5) σ1 (by omega) h1
  exact ⟨σ2, pp_par0 (by omega) hS hS2 hT hU, h2, Agr_trans A1 A2⟩
theorem pc_par_G {b : Nat → Int} {n : Nat} {key : Int} {e N lv : Nat} {w : Int} {pw pv : Nat → Int} {e2 N2 lv2 : Nat} {w2 : Int} {pw2 pv2 : Nat → Int} {o t : Nat} (hn : n ≤ 96) (hen : e ≤ n) (ho : o < 8) (c : gtq b n e w = 3) (c40 : b (gts b n e) = 40) (hN2 : N2 ≤ 96) (c41 : ¬(gtq b n e2 w2 = 3 ∧ b (gts b n e2) = 41)) (hC : jcS b n key 162 [vI ((0 : Nat) : Int), vI ((o + 1 : Nat) : Int), vI (t : Int)] (7 * (8 - (o + 1)) + (8 - t) + 16 - 0) (gte b n e) (gtq b n e w) N lv pw pv e2 w2 N2 lv2 pw2 pv2) : jcF b n key 163 [vI (o : Int), vI (t : Int)] (7 * (8 - o) + (8 - t) + 10) e w N lv pw pv (gts b n e2) := by
  intro L D σ hD h
  obtain ⟨d, rfl⟩ : ∃ d, D = d + 6 := ⟨D - 6, by omega⟩
  have hS := sgc_f (L := L) (d := d + 5) (a1 := 33) hn h (by omega)
  have hS2 := sgc_t (L := L) (d := d + 5) hn h c c40
  obtain ⟨σ1, hT, h1, A1⟩ := pv_step_c (L := L) (d := d + 4) hn hen h
  obtain ⟨σ2, hU, h2, A2⟩ := hC L (d + 5) σ1 (by omega) h1
  have hS3 := sgc_f (L := L) (d := d + 5) (a1 := 41) hn h2 c41
  have g6 : σ2 279 6 = (N2 : Int) := h2.2.1
  exact ⟨σ2, pp_par1 (by omega) hS hS2 hT hU hS3, ⟨h2.1.2.2.1, by omega, by omega⟩, Agr_trans A1 A2⟩
theorem pc_par_S {b : Nat → Int} {n : Nat} {key : Int} {e N lv : Nat} {w : Int} {pw pv : Nat → Int} {e2 N2 lv2 : Nat} {w2 : Int} {pw2 pv2 : Nat → Int} {o t : Nat} (hn : n ≤ 96) (hen : e ≤ n) (hen2 : e2 ≤ n) (ho : o < 8) (c : gtq b n e w = 3) (c40 : b (gts b n e) = 40) (c3 : gtq b n e2 w2 = 3) (c41 : b (gts b n e2) = 41) (hC : jcS b n key 162 [vI ((0 : Nat) : Int), vI ((o + 1 : Nat) : Int), vI (t : Int)] (7 * (8 - (o + 1)) + (8 - t) + 16 - 0) (gte b n e) (gtq b n e w) N lv pw pv e2 w2 N2 lv2 pw2 pv2) : jcS b n key 163 [vI (o : Int), vI (t : Int)] (7 * (8 - o) + (8 - t) + 10) e w N lv pw pv (gte b n e2) (gtq b n e2 w2) N2 lv2 pw2 pv2 := by
  intro L D σ hD h
  obtain ⟨d, rfl⟩ : ∃ d, D = d + 6 := ⟨D - 6, by omega⟩
  have hS := sgc_f (L := L) (d := d + 5) (a1 := 33) hn h (by omega)
  have hS2 := sgc_t (L := L) (d := d + 5) hn h c c40
  obtain ⟨σ1, hT, h1, A1⟩ := pv_step_c (L := L) (d := d + 4) hn hen h
  obtain ⟨σ2, hU, h2, A2⟩ := hC L (d + 5) σ1 (by omega) h1
  have hS3 := sgc_t (L := L) (d := d + 5) hn h2 c3 c41
  obtain ⟨σ3, hT2, h3, A3⟩ := pv_step_c (L := L) (d := d + 4) hn hen2 h2
  exact ⟨σ3, pp_par2 (by omega) hS hS2 hT hU hS3 hT2, h3, Agr_trans (Agr_trans A1 A2) A3⟩
theorem pr_par_F {b : Nat → Int} {n : Nat} {key : Int} {e N lv : Nat} {w : Int} {pw pv : Nat → Int} {B o t s : Nat} (hn : n ≤ 96) (hen : e ≤ n) (ho : o < 8) (c : gtq b n e w = 3) (c40 : b (gts b n e) = 40) (hC : jrF b n key B (247 + 0) (6 * (8 - (o + 1)) + (8 - t) + 15 - 0) (o + 1) t (gte b n e) (gtq b n e w) N lv pw pv s) : jrF b n key B 252 (6 * (8 - o) + (8 - t) + 10) o t e w N lv pw pv s := by
  intro L D σ hD h
  obtain ⟨d, rfl⟩ : ∃ d, D = d + 8 := ⟨D - 8, by omega⟩
  have tm := tm_c b n e w
  have g1 := pvr_12 h
  have g2 : σ 293 15 = (o : Int) := h.2.1
  have hS := sgr_f (L := L) (d := d + 7) (a1 := 33) h (by omega)
  have hS2 := sgr_t (L := L) (d := d + 7) h c c40
  obtain ⟨h0, A0⟩ := pv_set15 (x' := o + 1) (v := σ 293 15 + 1) (by omega) h
  obtain ⟨σ1, hT, h1, A1⟩ := pv_step_r (L := L) (d := d + 5) hn hen (by omega) h0
  obtain ⟨σ2, hU, h2, A2⟩ := hC L (d + 7) σ1 (by omega) h1
  exact ⟨σ2, mp_par0 (by omega) (by omega) hS hS2 hT hU, h2, Agr_trans (Agr_trans A0 A1) A2⟩
theorem pr_par_G {b : Nat → Int} {n : Nat} {key : Int} {e N lv : Nat} {w : Int} {pw pv : Nat → Int} {e2 N2 lv2 : Nat} {w2 : Int} {pw2 pv2 : Nat → Int} {B o t : Nat} (hn : n ≤ 96) (hen : e ≤ n) (ho : o < 8) (c : gtq b n e w = 3) (c40 : b (gts b n e) = 40) (c41 : ¬(gtq b n e2 w2 = 3 ∧ b (gts b n e2) = 41)) (hC : jrS b n key B (247 + 0) (6 * (8 - (o + 1)) + (8 - t) + 15 - 0) (o + 1) t (gte b n e) (gtq b n e w) N lv pw pv e2 w2 N2 lv2 pw2 pv2) : jrF b n key B 252 (6 * (8 - o) + (8 - t) + 10) o t e w N lv pw pv (gts b n e2) := by
  intro L D σ hD h
  obtain ⟨d, rfl⟩ : ∃ d, D = d + 8 := ⟨D - 8, by omega⟩
  have tm := tm_c b n e w
  have g1 := pvr_12 h
  have g2 : σ 293 15 = (o : Int) := h.2.1
  have hS := sgr_f (L := L) (d := d + 7) (a1 := 33) h (by omega)
  have hS2 := sgr_t (L := L) (d := d + 7) h c c40
  obtain ⟨h0, A0⟩ := pv_set15 (x' := o + 1) (v := σ 293 15 + 1) (by omega) h
  obtain ⟨σ1, hT, h1, A1⟩ := pv_step_r (L := L) (d := d + 5) hn hen (by omega) h0
  obtain ⟨σ2, hU, h2, A2⟩ := hC L (d + 7) σ1 (by omega) h1
  have hS3 := sgr_f (L := L) (d := d + 7) (a1 := 41) h2 c41
  exact ⟨σ2, mp_par1 (by omega) (by omega) hS hS2 hT hU hS3, h2.1.2.2.1, Agr_trans (Agr_trans A0 A1) A2⟩
theorem pr_par_S {b : Nat → Int} {n : Nat} {key : Int} {e N lv : Nat} {w : Int} {pw pv : Nat → Int} {e2 N2 lv2 : Nat} {w2 : Int} {pw2 pv2 : Nat → Int} {B o t : Nat} (hn : n ≤ 96) (hen : e ≤ n) (hen2 : e2 ≤ n) (ho : o < 8) (c : gtq b n e w = 3) (c40 : b (gts b n e) = 40) (c3 : gtq b n e2 w2 = 3) (c41 : b (gts b n e2) = 41) (hC : jrS b n key B (247 + 0) (6 * (8 - (o + 1)) + (8 - t) + 15 - 0) (o + 1) t (gte b n e) (gtq b n e w) N lv pw pv e2 w2 N2 lv2 pw2 pv2) : jrS b n key B 252 (6 * (8 - o) + (8 - t) + 10) o t e w N lv pw pv (gte b n e2) (gtq b n e2 w2) N2 lv2 pw2 pv2 := by
  intro L D σ hD h
  obtain ⟨d, rfl⟩ : ∃ d, D = d + 8 := ⟨D - 8, by omega⟩
  have tm := tm_c b n e w
  have g1 := pvr_12 h
  have g2 : σ 293 15 = (o : Int) := h.2.1
  have hS := sgr_f (L := L) (d := d + 7) (a1 := 33) h (by omega)
  have hS2 := sgr_t (L := L) (d := d + 7) h c c40
  obtain ⟨h0, A0⟩ := pv_set15 (x' := o + 1) (v := σ 293 15 + 1) (by omega) h
  obtain ⟨σ1, hT, h1, A1⟩ := pv_step_r (L := L) (d := d + 5) hn hen (by omega) h0
  obtain ⟨σ2, hU, h2, A2⟩ := hC L (d + 7) σ1 (by omega) h1
  have hS3 := sgr_t (L := L) (d := d + 7) h2 c3 c41
  have g3 : σ2 293 15 = ((o + 1 : Nat) : Int) := h2.2.1
  obtain ⟨h4, A4⟩ := pv_set15 (x' := o) (v := σ2 293 15 - 1) (by omega) h2
  obtain ⟨σ3, hT2, h3, A3⟩ := pv_step_r (L := L) (d := d + 5) hn hen2 (by omega) h4
  exact ⟨σ3, mp_par2 (by omega) (by omega) hS hS2 hT hU hS3 (by omega) hT2, h3, Agr_trans (Agr_trans (Agr_trans (Agr_trans A0 A1) A2) A4) A3⟩
/-- leaves -/
theorem pc_num {b : Nat → Int} {n : Nat} {key : Int} {e N lv : Nat} {w : Int} {pw pv : Nat → Int} {o t : Nat} (hn : n ≤ 96) (hb : ∀ i, i < n → 0 ≤ b i ∧ b i ≤ 255) (hen : e ≤ n) (hN : N < 96) (hv : lv < 96) (c : gtq b n e w = 2) (c4 : ¬ gts b n e + 4 < gte b n e) : jcS b n key 163 [vI (o : Int), vI (t : Int)] (7 * (8 - o) + (8 - t) + 10) e w N lv pw pv (gte b n e) (gtq b n e w) (N + 1) (lv + 1) (fu pw N 0) (fu pv N (gnum b (gts b n e) (gte b n e - gts b n e))) := by
  intro L D σ hD h
  obtain ⟨d, rfl⟩ : ∃ d, D = d + 6 := ⟨D - 6, by omega⟩
  have hS := sgc_f (L := L) (d := d + 5) (a1 := 33) hn h (by omega)
  have hS2 := sgc_f (L := L) (d := d + 5) (a1 := 40) hn h (by omega)
  have hL := pv_leaf_num (L := L) (d := d + 1) hn hen hb h c c4
  have gb := gnum_bd (b := b) (s := gts b n e) (gte b n e - gts b n e) (tq_2 hen c).2.2
  obtain ⟨σ1, hE, h1, A1⟩ := pv_emit_c (L := L) (d := d + 5) (x := 0) (y := gnum b (gts b n e) (gte b n e - gts b n e)) hN rfl h
  have g7 : σ1 279 7 = (lv : Int) := h1.2.2.1
  obtain ⟨h2, A2⟩ := pv_set7 (x' := lv + 1) (v := σ1 279 7 + 1) (by omega) h1
  obtain ⟨σ3, hT, h3, A3⟩ := pv_step_c (L := L) (d := d + 4) hn hen h2
  exact ⟨σ3, pp_leaf (Or.inl rfl) (Or.inl rfl) hS hS2 gb.1 hL hE (by omega) hT, h3, Agr_trans (Agr_trans A1 A2) A3⟩
theorem pr_num {b : Nat → Int} {n : Nat} {key : Int} {e N lv : Nat} {w : Int} {pw pv : Nat → Int} {B o t : Nat} (hn : n ≤ 96) (hB : B ≤ 3340) (hen : e ≤ n) (hN : N < 96) (hv : lv < 96) (c : gtq b n e w = 2) (c4 : ¬ gts b n e + 4 < gte b n e) : jrS b n key B 252 (6 * (8 - o) + (8 - t) + 10) o t e w N lv pw pv (gte b n e) (gtq b n e w) (N + 1) (lv + 1) (fu pw N 0) (fu pv N (gnum b (gts b n e) (gte b n e - gts b n e))) := by
  intro L D σ hD h
  obtain ⟨d, rfl⟩ : ∃ d, D = d + 8 := ⟨D - 8, by omega⟩
  have tm := tm_c b n e w
  have g1 := pvr_12 h
  have q := tq_2 hen c
  have g13 : σ 293 13 = gnum b (gts b n e) (gte b n e - gts b n e) := h.1.2.2.2.2.2.1 q.1 q.2.1
  obtain ⟨σ1, hE, h1, A1⟩ := pv_lay_r (L := L) (d := d + 7) (x := 0) (y := gnum b (gts b n e) (gte b n e - gts b n e)) hN hB h
  have g7 : σ1 293 19 = (lv : Int) := h1.2.2.2.2.2.1
  obtain ⟨h2, A2⟩ := pv_set19 (x' := lv + 1) (v := σ1 293 19 + 1) (by omega) h1
  obtain ⟨σ3, hT, h3, A3⟩ := pv_step_r (L := L) (d := d + 5) hn hen (by omega) h2
  exact ⟨σ3, mp_num (by omega) (by rw [g13]; exact hE) (by omega) hT, h3, Agr_trans (Agr_trans A1 A2) A3⟩
theorem pc_name {b : Nat → Int} {n : Nat} {key : Int} {e N lv : Nat} {w : Int} {pw pv : Nat → Int} {o t : Nat} {i : Int} (hn : n ≤ 96) (hb : ∀ i, i < n → 0 ≤ b i ∧ b i ≤ 255) (hk : 0 ≤ key ∧ key ≤ 3) (hen : e ≤ n) (hN : N < 96) (hv : lv < 96) (c : gtq b n e w = 1) (c1 : gte b n e = gts b n e + 1) (hi : gnm key (b (gts b n e)) = some i) : jcS b n key 163 [vI (o : Int), vI (t : Int)] (7 * (8 - o) + (8 - t) + 10) e w N lv pw pv (gte b n e) (gtq b n e w) (N + 1) (lv + 1) (fu pw N 1) (fu pv N (b (gts b n e))) := by
  intro L D σ hD h
  obtain ⟨d, rfl⟩ : ∃ d, D = d + 6 := ⟨D - 6, by omega⟩
  have hS := sgc_f (L := L) (d := d + 5) (a1 := 33) hn h (by omega)
  have hS2 := sgc_f (L := L) (d := d + 5) (a1 := 40) hn h (by omega)
  have hL := pv_leaf_name (L := L) (d := d + 1) hn hen hb h hk c c1 hi
  have ib := gnm_bd3 hi
  obtain ⟨σ1, hE, h1, A1⟩ := pv_emit_c (L := L) (d := d + 5) (c := 10000 + i) (x := 1) (y := b (gts b n e)) hN (by unfold gcd1; rw [if_neg (by omega), if_pos rfl, hi]; rfl) h
  have g7 : σ1 279 7 = (lv : Int) := h1.2.2.1
  obtain ⟨h2, A2⟩ := pv_set7 (x' := lv + 1) (v := σ1 279 7 + 1) (by omega) h1
  obtain ⟨σ3, hT, h3, A3⟩ := pv_step_c (L := L) (d := d + 4) hn hen h2
  exact ⟨σ3, pp_leaf (Or.inl rfl) (Or.inl rfl) hS hS2 (by omega) hL hE (by omega) hT, h3, Agr_trans (Agr_trans A1 A2) A3⟩
theorem pr_name {b : Nat → Int} {n : Nat} {key : Int} {e N lv : Nat} {w : Int} {pw pv : Nat → Int} {B o t : Nat} {i : Int} (hn : n ≤ 96) (hk : 0 ≤ key ∧ key ≤ 3) (hB : B ≤ 3340) (hen : e ≤ n) (hN : N < 96) (hv : lv < 96) (c : gtq b n e w = 1) (c1 : gte b n e = gts b n e + 1) (hi : gnm key (b (gts b n e)) = some i) : jrS b n key B 252 (6 * (8 - o) + (8 - t) + 10) o t e w N lv pw pv (gte b n e) (gtq b n e w) (N + 1) (lv + 1) (fu pw N 1) (fu pv N (b (gts b n e))) := by
  intro L D σ hD h
  obtain ⟨d, rfl⟩ : ∃ d, D = d + 8 := ⟨D - 8, by omega⟩
  have tm := tm_c b n e w
  have g1 := pvr_12 h
  have q := tq_1 c
  have ib := gnm_bd3 hi
  have g14 : σ 293 14 = b (gts b n e) := by
    have := h.1.2.2.2.2.2.2.1 q.1 q.2
    rw [if_pos c1] at this
    exact this
  have hI := sp_M_isName (L := L) (d := d + 7) (σ := σ) (a0 := key) (a1 := b (gts b n e)) hk
  rw [gb_t (by rw [hi]; rfl)] at hI
  obtain ⟨σ1, hE, h1, A1⟩ := pv_lay_r (L := L) (d := d + 7) (x := 1) (y := b (gts b n e)) hN hB h
  have g7 : σ1 293 19 = (lv : Int) := h1.2.2.2.2.2.1
  obtain ⟨h2, A2⟩ := pv_set19 (x' := lv + 1) (v := σ1 293 19 + 1) (by omega) h1
  obtain ⟨σ3, hT, h3, A3⟩ := pv_step_r (L := L) (d := d + 5) hn hen (by omega) h2
  exact ⟨σ3, mp_name (by omega) (by rw [g14]; exact ib.2.2) (by rw [g14]; exact hI) (by rw [g14]; exact hE) (by omega) hT, h3, Agr_trans (Agr_trans A1 A2) A3⟩
theorem pc_none {b : Nat → Int} {n : Nat} {key : Int} {e N lv : Nat} {w : Int} {pw pv : Nat → Int} {o t : Nat} (hn : n ≤ 96) (hb : ∀ i, i < n → 0 ≤ b i ∧ b i ≤ 255) (hk : 0 ≤ key ∧ key ≤ 3) (hen : e ≤ n) (hN : N ≤ 96) (z1 : gtq b n e w = 3 → b (gts b n e) = 33 → 8 ≤ t) (z2 : gtq b n e w = 3 → b (gts b n e) = 40 → 8 ≤ o) (c2 : ¬(gtq b n e w = 2 ∧ ¬ gts b n e + 4 < gte b n e)) (c1 : ¬(gtq b n e w = 1 ∧ gte b n e = gts b n e + 1 ∧ (gnm key (b (gts b n e))).isSome = true)) : jcF b n key 163 [vI (o : Int), vI (t : Int)] (7 * (8 - o) + (8 - t) + 10) e w N lv pw pv (gts b n e) := by
  intro L D σ hD h
  obtain ⟨d, rfl⟩ : ∃ d, D = d + 6 := ⟨D - 6, by omega⟩
  have hS := pv_sign_c (L := L) (d := d + 5) (a1 := 33) hn h
  have hS2 := pv_sign_c (L := L) (d := d + 5) (a1 := 40) hn h
  have hL := pv_leaf_none (L := L) (d := d + 1) hn hen hb h hk c2 c1
  have g6 : σ 279 6 = (N : Int) := h.2.1
  refine ⟨σ, pp_none ?_ ?_ hS hS2 hL, ⟨h.1.2.2.1, by omega, by omega⟩, Agr_refl _ _⟩
  · by_cases z : gtq b n e w = 3 ∧ b (gts b n e) = 33
    · have := z1 z.1 z.2
      exact Or.inr ⟨gb_t z, by omega⟩
    · exact Or.inl (gb_f z)
  · by_cases z : gtq b n e w = 3 ∧ b (gts b n e) = 40
    · have := z2 z.1 z.2
      exact Or.inr ⟨gb_t z, by omega⟩
    · exact Or.inl (gb_f z)
theorem pr_none {b : Nat → Int} {n : Nat} {key : Int} {e N lv : Nat} {w : Int} {pw pv : Nat → Int} {B o t : Nat} (hk : 0 ≤ key ∧ key ≤ 3) (ho : o ≤ 8) (z1 : gtq b n e w = 3 → b (gts b n e) = 33 → 8 ≤ t) (z2 : gtq b n e w = 3 → b (gts b n e) = 40 → 8 ≤ o) (c2 : ¬(gtq b n e w = 2 ∧ ¬ gts b n e + 4 < gte b n e)) (c1 : ¬(gtq b n e w = 1 ∧ gte b n e = gts b n e + 1 ∧ (gnm key (b (gts b n e))).isSome = true)) : jrF b n key B 252 (6 * (8 - o) + (8 - t) + 10) o t e w N lv pw pv (gts b n e) := by
  intro L D σ hD h
  obtain ⟨d, rfl⟩ : ∃ d, D = d + 8 := ⟨D - 8, by omega⟩
  have tm := tm_c b n e w
  have g1 := pvr_12 h
  have g2 : σ 293 15 = (o : Int) := h.2.1
  have g3 : σ 293 16 = (t : Int) := h.2.2.1
  have hS := pv_sign_r (L := L) (d := d + 7) (a1 := 33) h
  have hS2 := pv_sign_r (L := L) (d := d + 7) (a1 := 40) h
  refine ⟨σ, mp_none (by omega) (fun y1 y2 => ?_) ?_ ?_ hS hS2, h.1.2.2.1, Agr_refl _ _⟩
  · have q1 : gtq b n e w = 1 := by omega
    have q := tq_1 q1
    have g14 := h.1.2.2.2.2.2.2.1 q.1 q.2
    by_cases z : gte b n e = gts b n e + 1
    · rw [if_pos z] at g14
      have hI := sp_M_isName (L := L) (d := d + 7) (σ := σ) (a0 := key) (a1 := b (gts b n e)) hk
      rw [gb_f (fun x => c1 ⟨q1, z, x⟩)] at hI
      rw [g14]
      exact hI
    · rw [if_neg z] at g14
      exact absurd g14 y2
  · by_cases z : gtq b n e w = 3 ∧ b (gts b n e) = 33
    · have := z1 z.1 z.2
      exact Or.inr ⟨gb_t z, by omega⟩
    · exact Or.inl (gb_f z)
  · by_cases z : gtq b n e w = 3 ∧ b (gts b n e) = 40
    · have := z2 z.1 z.2
      exact Or.inr ⟨gb_t z, by omega⟩
    · exact Or.inl (gb_f z)
