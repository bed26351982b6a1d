/-! text: the levels side by side. -/
variable {L d : Nat} {σ σ1 : Nat → Nat → Int} {Q : Option gV → (Nat → Nat → Int) → Prop} {a0 a1 a2 a3 a4 a5 a6 a7 a8 a9 a10 a11 s0 s1 s2 s3 s4 s5 s6 s7 s8 s9 : Int} {l0 l1 l2 l3 l4 l5 l6 l7 l8 l9 l10 l11 t0 t1 t2 t3 t4 t5 t6 t7 t8 t9 : gV} {b0 b1 b2 b3 b4 b5 b6 b7 b8 b9 b10 b11 c0 c1 c2 c3 c4 c5 c6 c7 c8 c9 : Nat} {r : Option gV}
theorem jlev {b : Nat → Int} {n : Nat} {key : Int} {B : Nat} (hn : n ≤ 96) (hb : ∀ i, i < n → 0 ≤ b i ∧ b i ≤ 255) (hk : 0 ≤ key ∧ key ≤ 3) (hB : B ≤ 3340) {l o t e : Nat} (hl : l < 5) (hl2 : l ≠ 2) (ho : o ≤ 8) (ht : t ≤ 8) (hen : e ≤ n) (hsub : jLev b n key B (l + 1) o t e) (hloop : ∀ e1, e ≤ e1 → e1 ≤ n → jL b n key B l o t e1) : jLev b n key B l o t e := by
  intro w N lv pw pv D hN hlv hD hV
  have sb := gts_bd (b := b) hen
  rcases hsub w N lv pw pv D hN hlv hD hV with ⟨e2, w2, N2, lv2, pw2, pv2, ⟨p1, p2, p3, p4, p5⟩, hC, hR⟩ | ⟨s2, hC, hR⟩
  · rcases hloop e2 p1.1 p1.2 w2 N2 lv2 pw2 pv2 (D + 1) (by omega) p4 (by omega) p5 with ⟨e3, w3, N3, lv3, pw3, pv3, ⟨r1, r2, r3, r4, r5⟩, kC, kR⟩ | ⟨s3, kC, kR⟩
    · refine Or.inl ⟨e3, w3, N3, lv3, pw3, pv3, ⟨by omega, by omega, by omega, r4, r5⟩, fun L D σ hD h => ?_, fun L D σ hD h => ?_⟩
      · obtain ⟨d, rfl⟩ : ∃ d, D = d + 6 := ⟨D - 6, by omega⟩
        obtain ⟨σ1, hU, h1, A1⟩ := hC L (d + 5) σ (by omega) h
        have W := lp_in (l := (l : Int)) (by omega) (by omega) hU (kC L (d + 6) σ σ1 0 vU hD (by omega) A1 h1)
        obtain ⟨σ9, hRun, hP⟩ := Run_ex (y := 162) (as := [vR 279, vI (l : Int), vI (o : Int), vI (t : Int)]) rfl W
        exact ⟨σ9, hRun, hP.1, hP.2⟩
      · obtain ⟨d, rfl⟩ : ∃ d, D = d + 8 := ⟨D - 8, by omega⟩
        obtain ⟨σ1, hU, h1, A1⟩ := hR L (d + 7) σ (by omega) h
        rw [show 247 + (l + 1) = 248 + l by omega] at hU
        obtain ⟨r, σ9, hRun, rfl, h2, A2⟩ := rr_in l hl hU (fun x => kR L (d + 8) σ σ1 x hD A1 h1)
        exact ⟨σ9, hRun, h2, A2⟩
    · refine Or.inr ⟨s3, fun L D σ hD h => ?_, fun L D σ hD h => ?_⟩
      · obtain ⟨d, rfl⟩ : ∃ d, D = d + 6 := ⟨D - 6, by omega⟩
        obtain ⟨σ1, hU, h1, A1⟩ := hC L (d + 5) σ (by omega) h
        have W := lp_in (l := (l : Int)) (by omega) (by omega) hU (kC L (d + 6) σ σ1 0 vU hD (by omega) A1 h1)
        obtain ⟨σ9, hRun, hP⟩ := Run_ex (y := 162) (as := [vR 279, vI (l : Int), vI (o : Int), vI (t : Int)]) rfl W
        exact ⟨σ9, hRun, hP.1, hP.2⟩
      · obtain ⟨d, rfl⟩ : ∃ d, D = d + 8 := ⟨D - 8, by omega⟩
        obtain ⟨σ1, hU, h1, A1⟩ := hR L (d + 7) σ (by omega) h
        rw [show 247 + (l + 1) = 248 + l by omega] at hU
        obtain ⟨r, σ9, hRun, rfl, h2, A2⟩ := rr_in l hl hU (fun x => kR L (d + 8) σ σ1 x hD A1 h1)
        exact ⟨σ9, hRun, h2, A2⟩
  · refine Or.inr ⟨s2, fun L D σ hD h => ?_, fun L D σ hD h => ?_⟩
    · obtain ⟨d, rfl⟩ : ∃ d, D = d + 6 := ⟨D - 6, by omega⟩
      obtain ⟨σ1, hU, h1, A1⟩ := hC L (d + 5) σ (by omega) h
      have W := lp_in (L := L) (d := d) (Q := fun r σ' => r = some (vI 0) ∧ PFc s2 σ' ∧ Agr σ σ' (fun k j => k = 279 ∧ 2 ≤ j ∧ j ≤ 7 ∨ k = 281)) (l := (l : Int)) (by omega) (by omega) hU (lp_fail ⟨rfl, h1, A1⟩)
      obtain ⟨σ9, hRun, hP⟩ := Run_ex (y := 162) (as := [vR 279, vI (l : Int), vI (o : Int), vI (t : Int)]) rfl W
      exact ⟨σ9, hRun, hP.1, hP.2⟩
    · obtain ⟨d, rfl⟩ : ∃ d, D = d + 8 := ⟨D - 8, by omega⟩
      obtain ⟨σ1, hU, h1, A1⟩ := hR L (d + 7) σ (by omega) h
      rw [show 247 + (l + 1) = 248 + l by omega] at hU
      exact ⟨σ1, rr_in0 l hl hU, h1, A1⟩
theorem jlev2 {b : Nat → Int} {n : Nat} {key : Int} {B : Nat} (hn : n ≤ 96) (hb : ∀ i, i < n → 0 ≤ b i ∧ b i ≤ 255) (hk : 0 ≤ key ∧ key ≤ 3) (hB : B ≤ 3340) {o t e : Nat} (ho : o ≤ 8) (ht : t ≤ 8) (hen : e ≤ n) (hsub : jLev b n key B 3 o t e) (hsub2 : ∀ e1, e < e1 → e1 ≤ n → jLev b n key B 3 o t e1) : jLev b n key B 2 o t e := by
  intro w N lv pw pv D hN hlv hD hV
  have sb := gts_bd (b := b) hen
  rcases hsub w N lv pw pv D hN hlv hD hV with ⟨e2, w2, N2, lv2, pw2, pv2, ⟨p1, p2, p3, p4, p5⟩, hC, hR⟩ | ⟨s2, hC, hR⟩
  · have s2b := gts_bd (b := b) p1.2
    have tb := gte_bd (b := b) p1.2
    have sE := gts_bd (b := b) tb.2.1
    by_cases c : gtq b n e2 w2 = 3 ∧ gsl 2 (b (gts b n e2))
    · have q := tq_3 c.1
      have cs := gsl_s (by omega) c.2
      have hpc : ∀ (σ : gMm), PVc b n key e2 w2 N2 lv2 pw2 pv2 σ → 0 ≤ σ 279 2 ∧ σ 279 2 < 96 ∧ σ 280 (σ 279 2).toNat = b (gts b n e2) := fun σ h => by
        have g2 : σ 279 2 = ((gts b n e2 : Nat) : Int) := h.1.2.2.1
        have en : (σ 279 2).toNat = gts b n e2 := by omega
        exact ⟨by omega, by omega, by rw [en]; exact h.1.2.1 _ q.1⟩
      rcases hsub2 (gte b n e2) (by omega) tb.2.1 (gtq b n e2 w2) N2 lv2 pw2 pv2 (D + 1) (by omega) p4 (by omega) p5 with ⟨e3, w3, N3, lv3, pw3, pv3, ⟨r1, r2, r3, r4, r5⟩, kC, kR⟩ | ⟨s3, kC, kR⟩
      · have s3b := gts_bd (b := b) r1.2
        refine Or.inl ⟨e3, w3, N3 + 1, lv3, fu pw3 N3 2, fu pv3 N3 (b (gts b n e2)), ⟨by omega, by omega, by omega, by omega, Vp_bin r5 (by omega) cs.1 cs.2.1⟩, fun L D σ hD h => ?_, fun L D σ hD h => ?_⟩
        · obtain ⟨d, rfl⟩ : ∃ d, D = d + 6 := ⟨D - 6, by omega⟩
          obtain ⟨σ1, hU, h1, A1⟩ := hC L (d + 5) σ (by omega) h
          have gp := hpc σ1 h1
          have hS := pv_signOf_t (L := L) (d := d + 1) hn p1.2 hb h1 (by omega) c
          obtain ⟨σ2, hT, h2, A2⟩ := pv_step_c (L := L) (d := d + 4) hn p1.2 h1
          obtain ⟨σ3, hU3, h3, A3⟩ := kC L (d + 5) σ2 (by omega) h2
          obtain ⟨σ4, hE, h4, A4⟩ := pv_emit_c (L := L) (d := d + 5) (c := 20000 + b (gts b n e2)) (x := 2) (y := b (gts b n e2)) (by omega) rfl h3
          have W := lp_in2 (L := L) (d := d) (Q := fun r σ' => r = some (vI 1) ∧ PVc b n key e3 w3 (N3 + 1) lv3 (fu pw3 N3 2) (fu pv3 N3 (b (gts b n e2))) σ' ∧ Agr σ σ' (fun k j => k = 279 ∧ 2 ≤ j ∧ j ≤ 7 ∨ k = 281)) (l := ((2 : Nat) : Int)) (by omega) rfl hU (lp_step (by omega) (by omega) ⟨gp.1, gp.2.1⟩ gp.2.2 cs.2.2 hS hT hU3 hE (lp_exit (fun z => by omega) ⟨rfl, h4, Agr_trans (Agr_trans (Agr_trans A1 A2) A3) A4⟩))
          obtain ⟨σ9, hRun, hP⟩ := Run_ex (y := 162) (as := [vR 279, vI ((2 : Nat) : Int), vI (o : Int), vI (t : Int)]) rfl W
          exact ⟨σ9, hRun, hP.1, hP.2⟩
        · obtain ⟨d, rfl⟩ : ∃ d, D = d + 8 := ⟨D - 8, by omega⟩
          obtain ⟨σ1, hU, h1, A1⟩ := hR L (d + 7) σ (by omega) h
          obtain ⟨σ2, hT, h2, A2⟩ := pv_step_r (L := L) (d := d + 5) hn p1.2 (by omega) h1
          obtain ⟨σ3, hU3, h3, A3⟩ := kR L (d + 7) σ2 (by omega) h2
          obtain ⟨σ4, hE, h4, A4⟩ := pv_lay_r (L := L) (d := d + 7) (x := 2) (y := b (gts b n e2)) (by omega) hB h3
          obtain ⟨r, σ9, hRun, rfl, h5, A5⟩ := rr_in 2 (by omega) hU (fun x => rr_step_2 (Q := fun r σ' => r = some (vI 1) ∧ PVr b n B o t e3 w3 (N3 + 1) lv3 (fu pw3 N3 2) (fu pv3 N3 (b (gts b n e2))) σ' ∧ Agr σ σ' (fun k j => k = 293 ∧ 10 ≤ j ∧ j ≤ 19 ∨ k = 294 ∧ B ≤ j ∧ j < B + 192)) h1 c.1 c.2 hT hU3 hE ⟨rfl, h4, Agr_trans (Agr_trans (Agr_trans A1 A2) A3) A4⟩ x)
          exact ⟨σ9, hRun, h5, A5⟩
      · refine Or.inr ⟨s3, fun L D σ hD h => ?_, fun L D σ hD h => ?_⟩
        · obtain ⟨d, rfl⟩ : ∃ d, D = d + 6 := ⟨D - 6, by omega⟩
          obtain ⟨σ1, hU, h1, A1⟩ := hC L (d + 5) σ (by omega) h
          have gp := hpc σ1 h1
          have hS := pv_signOf_t (L := L) (d := d + 1) hn p1.2 hb h1 (by omega) c
          obtain ⟨σ2, hT, h2, A2⟩ := pv_step_c (L := L) (d := d + 4) hn p1.2 h1
          obtain ⟨σ3, hU3, h3, A3⟩ := kC L (d + 5) σ2 (by omega) h2
          obtain ⟨σ4, hE, h4, A4⟩ := pf_emit_c (L := L) (d := d + 5) (c := 20000 + b (gts b n e2)) h3
          have W := lp_in2 (L := L) (d := d) (Q := fun r σ' => r = some (vI 0) ∧ PFc s3 σ' ∧ Agr σ σ' (fun k j => k = 279 ∧ 2 ≤ j ∧ j ≤ 7 ∨ k = 281)) (l := ((2 : Nat) : Int)) (by omega) rfl hU (lp_step (by omega) (by omega) ⟨gp.1, gp.2.1⟩ gp.2.2 cs.2.2 hS hT hU3 hE (lp_fail ⟨rfl, h4, Agr_trans (Agr_trans (Agr_trans A1 A2) A3) A4⟩))
          obtain ⟨σ9, hRun, hP⟩ := Run_ex (y := 162) (as := [vR 279, vI ((2 : Nat) : Int), vI (o : Int), vI (t : Int)]) rfl W
          exact ⟨σ9, hRun, hP.1, hP.2⟩
        · obtain ⟨d, rfl⟩ : ∃ d, D = d + 8 := ⟨D - 8, by omega⟩
          obtain ⟨σ1, hU, h1, A1⟩ := hR L (d + 7) σ (by omega) h
          obtain ⟨σ2, hT, h2, A2⟩ := pv_step_r (L := L) (d := d + 5) hn p1.2 (by omega) h1
          obtain ⟨σ3, hU3, h3, A3⟩ := kR L (d + 7) σ2 (by omega) h2
          obtain ⟨r, σ9, hRun, rfl, h5, A5⟩ := rr_in 2 (by omega) hU (fun x => rr_step0_2 (Q := fun r σ' => r = some (vI 0) ∧ σ' 293 10 = (s3 : Int) ∧ Agr σ σ' (fun k j => k = 293 ∧ 10 ≤ j ∧ j ≤ 19 ∨ k = 294 ∧ B ≤ j ∧ j < B + 192)) h1 c.1 c.2 hT hU3 ⟨rfl, h3, Agr_trans (Agr_trans A1 A2) A3⟩ x)
          exact ⟨σ9, hRun, h5, A5⟩
    · refine Or.inl ⟨e2, w2, N2, lv2, pw2, pv2, ⟨p1, p2, p3, p4, p5⟩, fun L D σ hD h => ?_, fun L D σ hD h => ?_⟩
      · obtain ⟨d, rfl⟩ : ∃ d, D = d + 6 := ⟨D - 6, by omega⟩
        obtain ⟨σ1, hU, h1, A1⟩ := hC L (d + 5) σ (by omega) h
        have hS := pv_signOf_f (L := L) (d := d + 1) hn p1.2 hb h1 (by omega) c
        have W := lp_in2 (L := L) (d := d) (Q := fun r σ' => r = some (vI 1) ∧ PVc b n key e2 w2 N2 lv2 pw2 pv2 σ' ∧ Agr σ σ' (fun k j => k = 279 ∧ 2 ≤ j ∧ j ≤ 7 ∨ k = 281)) (l := ((2 : Nat) : Int)) (by omega) rfl hU (lp_exit (fun _ => hS) ⟨rfl, h1, A1⟩)
        obtain ⟨σ9, hRun, hP⟩ := Run_ex (y := 162) (as := [vR 279, vI ((2 : Nat) : Int), vI (o : Int), vI (t : Int)]) rfl W
        exact ⟨σ9, hRun, hP.1, hP.2⟩
      · obtain ⟨d, rfl⟩ : ∃ d, D = d + 8 := ⟨D - 8, by omega⟩
        obtain ⟨σ1, hU, h1, A1⟩ := hR L (d + 7) σ (by omega) h
        obtain ⟨r, σ9, hRun, rfl, h2, A2⟩ := rr_in 2 (by omega) hU (fun x => rr_exit_2 (Q := fun r σ' => r = some (vI 1) ∧ PVr b n B o t e2 w2 N2 lv2 pw2 pv2 σ' ∧ Agr σ σ' (fun k j => k = 293 ∧ 10 ≤ j ∧ j ≤ 19 ∨ k = 294 ∧ B ≤ j ∧ j < B + 192)) h1 c ⟨rfl, h1, A1⟩ x)
        exact ⟨σ9, hRun, h2, A2⟩
  · refine Or.inr ⟨s2, fun L D σ hD h => ?_, fun L D σ hD h => ?_⟩
    · obtain ⟨d, rfl⟩ : ∃ d, D = d + 6 := ⟨D - 6, by omega⟩
      obtain ⟨σ1, hU, h1, A1⟩ := hC L (d + 5) σ (by omega) h
      have W := lp_in2 (L := L) (d := d) (Q := fun r σ' => r = some (vI 0) ∧ PFc s2 σ' ∧ Agr σ σ' (fun k j => k = 279 ∧ 2 ≤ j ∧ j ≤ 7 ∨ k = 281)) (l := ((2 : Nat) : Int)) (by omega) rfl hU (lp_fail ⟨rfl, h1, A1⟩)
      obtain ⟨σ9, hRun, hP⟩ := Run_ex (y := 162) (as := [vR 279, vI ((2 : Nat) : Int), vI (o : Int), vI (t : Int)]) rfl W
      exact ⟨σ9, hRun, hP.1, hP.2⟩
    · obtain ⟨d, rfl⟩ : ∃ d, D = d + 8 := ⟨D - 8, by omega⟩
      obtain ⟨σ1, hU, h1, A1⟩ := hR L (d + 7) σ (by omega) h
      exact ⟨σ1, rr_in0 2 (by omega) hU, h1, A1⟩
theorem jall {b : Nat → Int} {n : Nat} {key : Int} {B : Nat} (hn : n ≤ 96) (hb : ∀ i, i < n → 0 ≤ b i ∧ b i ≤ 255) (hk : 0 ≤ key ∧ key ≤ 3) (hB : B ≤ 3340) : ∀ (m e : Nat), n - e ≤ m → e ≤ n → ∀ o t, o ≤ 8 → t ≤ 8 → jPart b n key B o t e ∧ ∀ l, l ≤ 5 → jLev b n key B l o t e
  | m, e, hm, hen => by
    intro o t ho ht
    have IH : ∀ e2, e < e2 → e2 ≤ n → ∀ o t, o ≤ 8 → t ≤ 8 → jPart b n key B o t e2 ∧ ∀ l, l ≤ 5 → jLev b n key B l o t e2 := fun e2 h1 h2 => by
      match m, hm with
      | 0, hm => exact absurd hm (by omega)
      | m + 1, hm => exact jall hn hb hk hB m e2 (by omega) h2
    have hp := jpart hn hb hk hB ho ht hen (fun e2 h1 h2 t' h' => (IH e2 h1 h2 o t' ho h').1) (fun e2 h1 h2 o' h' => (IH e2 h1 h2 o' t h' ht).2 0 (by omega))
    have h5 := jlev5 ho ht hp
    have h4 := jlev (l := 4) hn hb hk hB (by omega) (by omega) ho ht hen h5 (fun e1 h1 h2 => jloop hn hb hk hB (by omega) (by omega) ho ht (n - e1) e1 (Nat.le_refl _) h2 (fun e2 h3 h4 => (IH e2 (by omega) h4 o t ho ht).2 5 (by omega)))
    have h3 := jlev (l := 3) hn hb hk hB (by omega) (by omega) ho ht hen h4 (fun e1 h1 h2 => jloop hn hb hk hB (by omega) (by omega) ho ht (n - e1) e1 (Nat.le_refl _) h2 (fun e2 h3 h4 => (IH e2 (by omega) h4 o t ho ht).2 4 (by omega)))
    have h2 := jlev2 hn hb hk hB ho ht hen h3 (fun e2 h1 h2 => (IH e2 h1 h2 o t ho ht).2 3 (by omega))
    have h1 := jlev (l := 1) hn hb hk hB (by omega) (by omega) ho ht hen h2 (fun e1 h1 h2 => jloop hn hb hk hB (by omega) (by omega) ho ht (n - e1) e1 (Nat.le_refl _) h2 (fun e2 h3 h4 => (IH e2 (by omega) h4 o t ho ht).2 2 (by omega)))
    have h0 := jlev (l := 0) hn hb hk hB (by omega) (by omega) ho ht hen h1 (fun e1 h1 h2 => jloop hn hb hk hB (by omega) (by omega) ho ht (n - e1) e1 (Nat.le_refl _) h2 (fun e2 h3 h4 => (IH e2 (by omega) h4 o t ho ht).2 1 (by omega)))
    refine ⟨hp, fun l hl => ?_⟩
    have : l = 0 ∨ l = 1 ∨ l = 2 ∨ l = 3 ∨ l = 4 ∨ l = 5 := by omega
    rcases this with rfl | rfl | rfl | rfl | rfl | rfl
    · exact h0
    · exact h1
    · exact h2
    · exact h3
    · exact h4
    · exact h5
  termination_by m => m
