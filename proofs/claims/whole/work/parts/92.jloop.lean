/-! text: the loops of the levels, side by side. -/
variable {L d : Nat} {σ σ1 : Nat → Nat → Int} {Q : Option gV → (Nat → Nat → Int) → Prop} {a0 a1 a2 a3 a4 a5 a6 a7 a8 a9 a10 a11 s0 s1 s2 s3 s4 s5 s6 s7 s8 s9 : Int} {l0 l1 l2 l3 l4 l5 l6 l7 l8 l9 l10 l11 t0 t1 t2 t3 t4 t5 t6 t7 t8 t9 : gV} {b0 b1 b2 b3 b4 b5 b6 b7 b8 b9 b10 b11 c0 c1 c2 c3 c4 c5 c6 c7 c8 c9 : Nat} {r : Option gV}
/-- from a loop's head on -/
def lcS (b : Nat → Int) (n : Nat) (key : Int) (l o t : Nat) (e : Nat) (w : Int) (N lv : Nat) (pw pv : Nat → Int) (e' : Nat) (w' : Int) (N' lv' : Nat) (pw' pv' : Nat → Int) : Prop := ∀ (L D : Nat) (σ0 σ : gMm) (i : Nat) (x : gV), 7 * (8 - o) + (8 - t) + 16 - l ≤ D → i ≤ gts b n e → Agr σ0 σ (fun k j => k = 279 ∧ 2 ≤ j ∧ j ≤ 7 ∨ k = 281) → PVc b n key e w N lv pw pv σ → Wp L D k_U_parseLevel 39 [vR 279, vI (l : Int), vI (o : Int), vI (t : Int), vI 1, vI 96, vI (i : Int), x] [] σ (fun r σ' => r = some (vI 1) ∧ PVc b n key e' w' N' lv' pw' pv' σ' ∧ Agr σ0 σ' (fun k j => k = 279 ∧ 2 ≤ j ∧ j ≤ 7 ∨ k = 281))
def lcF (b : Nat → Int) (n : Nat) (key : Int) (l o t : Nat) (e : Nat) (w : Int) (N lv : Nat) (pw pv : Nat → Int) (s : Nat) : Prop := ∀ (L D : Nat) (σ0 σ : gMm) (i : Nat) (x : gV), 7 * (8 - o) + (8 - t) + 16 - l ≤ D → i ≤ gts b n e → Agr σ0 σ (fun k j => k = 279 ∧ 2 ≤ j ∧ j ≤ 7 ∨ k = 281) → PVc b n key e w N lv pw pv σ → Wp L D k_U_parseLevel 39 [vR 279, vI (l : Int), vI (o : Int), vI (t : Int), vI 1, vI 96, vI (i : Int), x] [] σ (fun r σ' => r = some (vI 0) ∧ PFc s σ' ∧ Agr σ0 σ' (fun k j => k = 279 ∧ 2 ≤ j ∧ j ≤ 7 ∨ k = 281))
def lrS (b : Nat → Int) (n : Nat) (key : Int) (B l o t : Nat) (e : Nat) (w : Int) (N lv : Nat) (pw pv : Nat → Int) (e' : Nat) (w' : Int) (N' lv' : Nat) (pw' pv' : Nat → Int) : Prop := ∀ (L D : Nat) (σ0 σ : gMm) (x : gV), 6 * (8 - o) + (8 - t) + 15 - l ≤ D → Agr σ0 σ (fun k j => k = 293 ∧ 10 ≤ j ∧ j ≤ 19 ∨ k = 294 ∧ B ≤ j ∧ j < B + 192) → PVr b n B o t e w N lv pw pv σ → Wp L D (kM l) 10 (lM l key x) [] σ (fun r σ' => r = some (vI 1) ∧ PVr b n B o t e' w' N' lv' pw' pv' σ' ∧ Agr σ0 σ' (fun k j => k = 293 ∧ 10 ≤ j ∧ j ≤ 19 ∨ k = 294 ∧ B ≤ j ∧ j < B + 192))
def lrF (b : Nat → Int) (n : Nat) (key : Int) (B l o t : Nat) (e : Nat) (w : Int) (N lv : Nat) (pw pv : Nat → Int) (s : Nat) : Prop := ∀ (L D : Nat) (σ0 σ : gMm) (x : gV), 6 * (8 - o) + (8 - t) + 15 - l ≤ D → Agr σ0 σ (fun k j => k = 293 ∧ 10 ≤ j ∧ j ≤ 19 ∨ k = 294 ∧ B ≤ j ∧ j < B + 192) → PVr b n B o t e w N lv pw pv σ → Wp L D (kM l) 10 (lM l key x) [] σ (fun r σ' => r = some (vI 0) ∧ σ' 293 10 = (s : Int) ∧ Agr σ0 σ' (fun k j => k = 293 ∧ 10 ≤ j ∧ j ≤ 19 ∨ k = 294 ∧ B ≤ j ∧ j < B + 192))
def jL (b : Nat → Int) (n : Nat) (key : Int) (B l o t e : Nat) : Prop := ∀ (w : Int) (N lv : Nat) (pw pv : Nat → Int) (D : Int), N ≤ gts b n e → lv ≤ N → 1 ≤ D → Vp key pw pv N D →
  (∃ (e' : Nat) (w' : Int) (N' lv' : Nat) (pw' pv' : Nat → Int), jP b n key e N D e' N' lv' pw' pv' ∧ lcS b n key l o t e w N lv pw pv e' w' N' lv' pw' pv' ∧ lrS b n key B l o t e w N lv pw pv e' w' N' lv' pw' pv') ∨
  (∃ s : Nat, lcF b n key l o t e w N lv pw pv s ∧ lrF b n key B l o t e w N lv pw pv s)
theorem jloop {b : Nat → Int} {n : Nat} {key : Int} {B : Nat} (hn : n ≤ 96) (hb : ∀ i, i < n → 0 ≤ b i ∧ b i ≤ 255) (hk : 0 ≤ key ∧ key ≤ 3) (hB : B ≤ 3340) {l o t : Nat} (hl : l < 5) (hl2 : l ≠ 2) (ho : o ≤ 8) (ht : t ≤ 8) : ∀ (m e : Nat), n - e ≤ m → e ≤ n → (∀ e2, e < e2 → e2 ≤ n → jLev b n key B (l + 1) o t e2) → jL b n key B l o t e
  | m, e, hm, hen, ih => by
    intro w N lv pw pv D hN hlv hD hV
    have sb := gts_bd (b := b) hen
    have tb := gte_bd (b := b) hen
    have sE := gts_bd (b := b) tb.2.1
    by_cases c : gtq b n e w = 3 ∧ gsl l (b (gts b n e))
    · have q := tq_3 c.1
      have cs := gsl_s hl c.2
      have hpc : ∀ (L d : Nat) (σ : gMm), PVc b n key e w N lv pw pv σ → 0 ≤ σ 279 2 ∧ σ 279 2 < 96 ∧ σ 280 (σ 279 2).toNat = b (gts b n e) := fun L d σ h => by
        have g2 : σ 279 2 = ((gts b n e : Nat) : Int) := h.1.2.2.1
        have en : (σ 279 2).toNat = gts b n e := by omega
        exact ⟨by omega, by omega, by rw [en]; exact h.1.2.1 _ q.1⟩
      rcases ih (gte b n e) (by omega) tb.2.1 (gtq b n e w) N lv pw pv D (by omega) hlv (by omega) hV with ⟨e2, w2, N2, lv2, pw2, pv2, ⟨p1, p2, p3, p4, p5⟩, hC, hR⟩ | ⟨s2, hC, hR⟩
      · have s2b := gts_bd (b := b) p1.2
        match m, hm with
        | 0, hm => exact absurd hm (by omega)
        | m + 1, hm =>
          rcases jloop hn hb hk hB hl hl2 ho ht m e2 (by omega) p1.2 (fun e3 h3 h4 => ih e3 (by omega) h4) w2 (N2 + 1) lv2 (fu pw2 N2 2) (fu pv2 N2 (b (gts b n e))) D (by omega) (by omega) hD (Vp_bin p5 hD cs.1 cs.2.1) with ⟨e3, w3, N3, lv3, pw3, pv3, ⟨r1, r2, r3, r4, r5⟩, kC, kR⟩ | ⟨s3, kC, kR⟩
          · refine Or.inl ⟨e3, w3, N3, lv3, pw3, pv3, ⟨by omega, by omega, by omega, r4, r5⟩, fun L D σ0 σ i x hD hi hA h => ?_, fun L D σ0 σ x hD hA h => ?_⟩
            · obtain ⟨d, rfl⟩ : ∃ d, D = d + 6 := ⟨D - 6, by omega⟩
              have gp := hpc L d σ h
              have hS := pv_signOf_t (L := L) (d := d + 1) hn hen hb h hl c
              obtain ⟨σ1, hT, h1, A1⟩ := pv_step_c (L := L) (d := d + 4) hn hen h
              obtain ⟨σ2, hU, h2, A2⟩ := hC L (d + 5) σ1 (by omega) h1
              obtain ⟨σ3, hE, h3, A3⟩ := pv_emit_c (L := L) (d := d + 5) (c := 20000 + b (gts b n e)) (x := 2) (y := b (gts b n e)) (by omega) rfl h2
              exact lp_step (by omega) (by omega) ⟨gp.1, gp.2.1⟩ gp.2.2 cs.2.2 hS hT hU hE (kC L (d + 6) σ0 σ3 (i + 1) _ hD (by omega) (Agr_trans (Agr_trans (Agr_trans hA A1) A2) A3) h3)
            · obtain ⟨d, rfl⟩ : ∃ d, D = d + 8 := ⟨D - 8, by omega⟩
              obtain ⟨σ1, hT, h1, A1⟩ := pv_step_r (L := L) (d := d + 5) hn hen (by omega) h
              obtain ⟨σ2, hU, h2, A2⟩ := hR L (d + 7) σ1 (by omega) h1
              rw [show 247 + (l + 1) = 248 + l by omega] at hU
              obtain ⟨σ3, hE, h3, A3⟩ := pv_lay_r (L := L) (d := d + 7) (x := 2) (y := b (gts b n e)) (by omega) hB h2
              exact rr_step l hl hl2 h c.1 c.2 hT hU hE (fun y => kR L (d + 8) σ0 σ3 y hD (Agr_trans (Agr_trans (Agr_trans hA A1) A2) A3) h3) x
          · refine Or.inr ⟨s3, fun L D σ0 σ i x hD hi hA h => ?_, fun L D σ0 σ x hD hA h => ?_⟩
            · obtain ⟨d, rfl⟩ : ∃ d, D = d + 6 := ⟨D - 6, by omega⟩
              have gp := hpc L d σ h
              have hS := pv_signOf_t (L := L) (d := d + 1) hn hen hb h hl c
              obtain ⟨σ1, hT, h1, A1⟩ := pv_step_c (L := L) (d := d + 4) hn hen h
              obtain ⟨σ2, hU, h2, A2⟩ := hC L (d + 5) σ1 (by omega) h1
              obtain ⟨σ3, hE, h3, A3⟩ := pv_emit_c (L := L) (d := d + 5) (c := 20000 + b (gts b n e)) (x := 2) (y := b (gts b n e)) (by omega) rfl h2
              exact lp_step (by omega) (by omega) ⟨gp.1, gp.2.1⟩ gp.2.2 cs.2.2 hS hT hU hE (kC L (d + 6) σ0 σ3 (i + 1) _ hD (by omega) (Agr_trans (Agr_trans (Agr_trans hA A1) A2) A3) h3)
            · obtain ⟨d, rfl⟩ : ∃ d, D = d + 8 := ⟨D - 8, by omega⟩
              obtain ⟨σ1, hT, h1, A1⟩ := pv_step_r (L := L) (d := d + 5) hn hen (by omega) h
              obtain ⟨σ2, hU, h2, A2⟩ := hR L (d + 7) σ1 (by omega) h1
              rw [show 247 + (l + 1) = 248 + l by omega] at hU
              obtain ⟨σ3, hE, h3, A3⟩ := pv_lay_r (L := L) (d := d + 7) (x := 2) (y := b (gts b n e)) (by omega) hB h2
              exact rr_step l hl hl2 h c.1 c.2 hT hU hE (fun y => kR L (d + 8) σ0 σ3 y hD (Agr_trans (Agr_trans (Agr_trans hA A1) A2) A3) h3) x
      · refine Or.inr ⟨s2, fun L D σ0 σ i x hD hi hA h => ?_, fun L D σ0 σ x hD hA h => ?_⟩
        · obtain ⟨d, rfl⟩ : ∃ d, D = d + 6 := ⟨D - 6, by omega⟩
          have gp := hpc L d σ h
          have hS := pv_signOf_t (L := L) (d := d + 1) hn hen hb h hl c
          obtain ⟨σ1, hT, h1, A1⟩ := pv_step_c (L := L) (d := d + 4) hn hen h
          obtain ⟨σ2, hU, h2, A2⟩ := hC L (d + 5) σ1 (by omega) h1
          obtain ⟨σ3, hE, h3, A3⟩ := pf_emit_c (L := L) (d := d + 5) (c := 20000 + b (gts b n e)) h2
          exact lp_step (f := 0) (by omega) (by omega) ⟨gp.1, gp.2.1⟩ gp.2.2 cs.2.2 hS hT hU hE (lp_fail ⟨rfl, h3, Agr_trans (Agr_trans (Agr_trans hA A1) A2) A3⟩)
        · obtain ⟨d, rfl⟩ : ∃ d, D = d + 8 := ⟨D - 8, by omega⟩
          obtain ⟨σ1, hT, h1, A1⟩ := pv_step_r (L := L) (d := d + 5) hn hen (by omega) h
          obtain ⟨σ2, hU, h2, A2⟩ := hR L (d + 7) σ1 (by omega) h1
          rw [show 247 + (l + 1) = 248 + l by omega] at hU
          exact rr_step0 l hl h c.1 c.2 hT hU ⟨rfl, h2, Agr_trans (Agr_trans hA A1) A2⟩ x
    · refine Or.inl ⟨e, w, N, lv, pw, pv, ⟨by omega, by omega, by omega, hlv, hV⟩, fun L D σ0 σ i x hD hi hA h => ?_, fun L D σ0 σ x hD hA h => ?_⟩
      · obtain ⟨d, rfl⟩ : ∃ d, D = d + 6 := ⟨D - 6, by omega⟩
        exact lp_exit (fun _ => pv_signOf_f (L := L) (d := d + 1) hn hen hb h hl c) ⟨rfl, h, hA⟩
      · obtain ⟨d, rfl⟩ : ∃ d, D = d + 8 := ⟨D - 8, by omega⟩
        exact rr_exit l hl h c ⟨rfl, h, hA⟩ x
  termination_by m => m
