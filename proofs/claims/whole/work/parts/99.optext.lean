/-! text: the operation. -/
variable {L d : Nat} {σ σ1 : Nat → Nat → Int} {Q : Option gV → (Nat → Nat → Int) → Prop} {a0 a1 a2 a3 a4 a5 a6 a7 a8 a9 a10 a11 s0 s1 s2 s3 s4 s5 s6 s7 s8 s9 : Int} {l0 l1 l2 l3 l4 l5 l6 l7 l8 l9 l10 l11 t0 t1 t2 t3 t4 t5 t6 t7 t8 t9 : gV} {b0 b1 b2 b3 b4 b5 b6 b7 b8 b9 b10 b11 c0 c1 c2 c3 c4 c5 c6 c7 c8 c9 : Nat} {r : Option gV}
theorem op_text (a1 : Int) : Op4 39 238 [vI a1] := by
  intro L d σ hI hb hx
  have hw := hI.1.2.1
  have hc := hI.2.1.2.1
  obtain ⟨p1, p2, p3⟩ := hI.2.2.1
  have w1 := hw.1
  have c1 : σ 78 6 = σ 294 2 := hc.1
  obtain ⟨n, hn⟩ : ∃ n : Nat, σ 293 9 = (n : Int) := ⟨(σ 293 9).toNat, by omega⟩
  obtain ⟨T, hT⟩ : ∃ T : Nat, σ 294 2 = (T : Int) := ⟨(σ 294 2).toNat, by omega⟩
  obtain ⟨B, hB, hBr, hB2⟩ : ∃ B : Nat, B ≤ 3340 ∧ (σ 294 2 < 12 ∧ (B : Int) = 930 + 200 * σ 294 2 + 4 ∨ σ 294 2 = 12 ∧ B = 3340) ∧ 930 + 200 * T + 4 ≤ B := by
    by_cases z : T < 12
    · exact ⟨930 + 200 * T + 4, by omega, Or.inl ⟨by omega, by omega⟩, by omega⟩
    · exact ⟨3340, by omega, Or.inr ⟨by omega, rfl⟩, by omega⟩
  have J := jparse (b := σ 301) (n := n) (B := B) (by omega) (fun i hi => (p3 i (by omega)).2) hB
  have hc1 : σ 279 1 = (n : Int) := p1.trans hn
  have hc2 : ∀ i, i < n → σ 280 i = σ 301 i := fun i hi => (p3 i (by omega)).1
  -- what the reference sees behind the class's part
  have rf : ∀ τ : gMm, Agr σ τ (fun k j => k = 279 ∧ 1 ≤ j ∧ j ≤ 8 ∨ k = 281 ∨ k = 78 ∧ j = 6 ∨ k = 80 + T ∨ 92 ≤ k ∧ k ≤ 95 ∧ j = T) → τ 293 9 = (n : Int) ∧ (∀ i, i < n → τ 301 i = σ 301 i) ∧ (0 ≤ τ 294 2 ∧ τ 294 2 ≤ 12) ∧ (τ 294 2 < 12 ∧ (B : Int) = 930 + 200 * τ 294 2 + 4 ∨ τ 294 2 = 12 ∧ B = 3340) := fun τ hA => by
    have e : τ 294 2 = σ 294 2 := hA _ _ (by omega)
    rw [e]
    exact ⟨(hA _ _ (by omega)).trans hn, fun i hi => hA _ _ (by omega), w1, hBr⟩
  by_cases h : 0 ≤ a1 ∧ a1 ≤ 599
  · rcases J with ⟨key, N, lv, pw, pv, k1, ⟨k2, k3⟩, hV, hC, hR⟩ | ⟨s, hC, hR⟩
    · obtain ⟨σ1, hP, ⟨f6, f7, f8, f9⟩, A1⟩ := hC L (d + 899) σ hc1 hc2 hx
      have A2 : Agr σ (gupd σ1 279 1 0) (fun k j => k = 279 ∧ 1 ≤ j ∧ j ≤ 8 ∨ k = 281) := Agr_upd (Agr_mono A1 (fun k j z => by omega)) (by omega)
      have e6 : σ1 78 6 = (T : Int) := by rw [A1 78 6 (by omega), c1, hT]
      by_cases h12 : T < 12
      · have e6' : (gupd σ1 279 1 0) 78 6 = (T : Int) := by rw [gupd_ne (by omega)]; exact e6
        obtain ⟨σ3, hA3, ⟨g1, g2, g3, g4, g5⟩, g6, A3⟩ := ad_c2 (L := L) (d := d) (σ := gupd σ1 279 1 0) (a2 := a1) (T := T) (N := N) e6' h12 (by rw [gupd_ne (by omega)]; exact f6) (by omega)
        rw [gupd_ne (by omega), f8] at g3
        rw [gupd_ne (by omega), f7] at g5
        have A4 : Agr σ σ3 (fun k j => k = 279 ∧ 1 ≤ j ∧ j ≤ 8 ∨ k = 281 ∨ k = 78 ∧ j = 6 ∨ k = 80 + T ∨ 92 ≤ k ∧ k ≤ 95 ∧ j = T) := Agr_trans (Agr_mono A2 (fun k j z => by omega)) (Agr_mono A3 (fun k j z => by omega))
        obtain ⟨r1, r2, r3, r4⟩ := rf σ3 A4
        obtain ⟨σ4, hQ, ⟨m1, m2, m3, m4⟩, A5⟩ := hR L (d + 899) σ3 r1 r2 r3 r4
        have t4 : σ4 294 2 = (T : Int) := by rw [A5 294 2 (by omega), A4 294 2 (by omega), hT]
        obtain ⟨σ5, hM, ⟨v1, v2, v3, v4, v5⟩, A6⟩ := mt_add2 (L := L) (d := d) (a1 := a1) h hQ k1.1 t4 h12
        rw [m2] at v3
        rw [m1] at v4
        have N1 := Vp_1 hV
        have hz : Agr σ σ5 (fun k j => k = 279 ∧ 1 ≤ j ∧ j ≤ 8 ∨ k = 281 ∨ k = 293 ∧ 9 ≤ j ∧ j ≤ 19 ∨ k = 294 ∧ (930 + 200 * T ≤ j ∨ j = 2) ∨ k = 78 ∧ j = 6 ∨ k = 80 + T ∨ 92 ≤ k ∧ k ≤ 95 ∧ j = T) := Agr_trans (Agr_trans (Agr_mono A4 (fun k j z => by omega)) (Agr_mono A5 (fun k j z => by omega))) (Agr_mono A6 (fun k j z => by omega))
        have q : ∀ k j, k ≠ 294 → k ≠ 293 → σ5 k j = σ3 k j := fun k j z1 z2 => (A6 k j (by omega)).trans (A5 k j (by omega))
        have gw : ∀ k : Nat, (k : Int) < (N : Int) → gtw (σ5 294) T k = pw k ∧ gtv (σ5 294) T k = pv k := fun k hk => by
          have eB : B = 930 + 200 * T + 4 := by omega
          have x := m4 k (by omega)
          rw [eB] at x
          exact ⟨(A6 294 _ (by omega)).trans x.1, (A6 294 _ (by omega)).trans x.2⟩
        refine ⟨(T : Int), σ3, σ5, xt_add h hP (by omega) hA3, hM, tx_inv2 hT h12 hI hz ?_ ?_ v5 ?_ ⟨?_, ?_⟩⟩
        · rw [q _ _ (by omega) (by omega), A3 279 1 (by omega), gupd_eq]
        · rw [A6 293 9 (by omega)]; exact m3
        · rw [q _ _ (by omega) (by omega)]; exact g1
        · unfold WTb
          rw [v1, v2, v3, v4]
          exact ⟨k1, h, by omega, by omega, WCode_congr gw (Vp_W hV)⟩
        · unfold CTb
          rw [v1, v2, v3, v4, q _ _ (by omega) (by omega), q _ _ (by omega) (by omega), q _ _ (by omega) (by omega), q _ _ (by omega) (by omega)]
          refine ⟨g2, g3, g4, g5, fun k hk => ?_⟩
          rw [q _ _ (by omega) (by omega), (gw k hk).1, (gw k hk).2, g6 k (by omega), gupd_ne (by omega)]
          exact f9 k (by omega)
      · obtain ⟨r1, r2, r3, r4⟩ := rf (gupd σ1 279 1 0) (Agr_mono A2 (fun k j z => by omega))
        obtain ⟨σ4, hQ, ⟨m1, m2, m3, m4⟩, A5⟩ := hR L (d + 899) (gupd σ1 279 1 0) r1 r2 r3 r4
        have t4 : σ4 294 2 = 12 := by rw [A5 294 2 (by omega), A2 294 2 (by omega)]; omega
        exact ⟨-1000000003, gupd σ1 279 1 0, σ4, xt_full h hP (by omega), mt_full h hQ k1.1 t4, tx_inv hT hI (Agr_trans (Agr_mono A2 (fun k j z => by omega)) (Agr_mono A5 (fun k j z => by omega))) (by rw [A5 279 1 (by omega), gupd_eq]) m3⟩
    · obtain ⟨σ1, hP, A1⟩ := hC L (d + 899) σ hc1 hc2 hx
      have A2 : Agr σ (gupd σ1 279 1 0) (fun k j => k = 279 ∧ 1 ≤ j ∧ j ≤ 8 ∨ k = 281) := Agr_upd (Agr_mono A1 (fun k j z => by omega)) (by omega)
      obtain ⟨r1, r2, r3, r4⟩ := rf (gupd σ1 279 1 0) (Agr_mono A2 (fun k j z => by omega))
      obtain ⟨σ4, hQ, ⟨m1, m3⟩, A5⟩ := hR L (d + 899) (gupd σ1 279 1 0) r1 r2 r3 r4
      have hM := mt_f (L := L) (d := d) h hQ (by omega)
      rw [m1] at hM
      exact ⟨_, gupd σ1 279 1 0, σ4, xt_f h (by omega) hP, hM, tx_inv hT hI (Agr_trans (Agr_mono A2 (fun k j z => by omega)) (Agr_mono A5 (fun k j z => by omega))) (by rw [A5 279 1 (by omega), gupd_eq]) m3⟩
  · have A2 : Agr σ (gupd σ 279 1 0) (fun k j => k = 279 ∧ 1 ≤ j ∧ j ≤ 8 ∨ k = 281) := Agr_upd (Agr_refl _ _) (by omega)
    obtain ⟨r1, r2, r3, r4⟩ := rf (gupd σ 279 1 0) (Agr_mono A2 (fun k j z => by omega))
    have fin : ∃ (key : Int) (σ4 : gMm), Run L (d + 999) 239 [vR 293] (gupd σ 279 1 0) (some (vI key)) σ4 ∧ σ4 293 9 = 0 ∧ Agr (gupd σ 279 1 0) σ4 (fun k j => k = 293 ∧ 9 ≤ j ∧ j ≤ 19 ∨ k = 294 ∧ B ≤ j ∧ j < B + 192) := by
      rcases J with ⟨key, N, lv, pw, pv, k1, k2, hV, hC, hR⟩ | ⟨s, hC, hR⟩
      · obtain ⟨σ4, hQ, ⟨m1, m2, m3, m4⟩, A5⟩ := hR L (d + 899) (gupd σ 279 1 0) r1 r2 r3 r4
        exact ⟨key, σ4, hQ, m3, A5⟩
      · obtain ⟨σ4, hQ, ⟨m1, m3⟩, A5⟩ := hR L (d + 899) (gupd σ 279 1 0) r1 r2 r3 r4
        exact ⟨-1, σ4, hQ, m3, A5⟩
    obtain ⟨key, σ4, hQ, m3, A5⟩ := fin
    exact ⟨-1000000001, gupd σ 279 1 0, σ4, xt_bad h, mt_bad h hQ, tx_inv hT hI (Agr_trans (Agr_mono A2 (fun k j z => by omega)) (Agr_mono A5 (fun k j z => by omega))) (by rw [A5 279 1 (by omega), gupd_eq]) m3⟩
