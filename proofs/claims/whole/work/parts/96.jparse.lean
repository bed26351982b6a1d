/-! text: class and reference parse alike. -/
variable {L d : Nat} {σ σ1 : Nat → Nat → Int} {Q : Option gV → (Nat → Nat → Int) → Prop} {a0 a1 a2 a3 a4 a5 a6 a7 a8 a9 a10 a11 s0 s1 s2 s3 s4 s5 s6 s7 s8 s9 : Int} {l0 l1 l2 l3 l4 l5 l6 l7 l8 l9 l10 l11 t0 t1 t2 t3 t4 t5 t6 t7 t8 t9 : gV} {b0 b1 b2 b3 b4 b5 b6 b7 b8 b9 b10 b11 c0 c1 c2 c3 c4 c5 c6 c7 c8 c9 : Nat} {r : Option gV}
theorem gtm_3 {b : Nat → Int} {n e : Nat} : gtm b n e 3 = gtm b n e 0 := by
  have : gtq b n e 3 = gtq b n e 0 := by
    unfold gtq
    by_cases c : gts b n e < n
    · rw [if_pos c, if_pos c, if_neg (fun z => by omega), if_neg (fun z => by omega)]
    · rw [if_neg c, if_neg c]
  unfold gtm
  rw [this]
theorem px_c {b : Nat → Int} {n : Nat} (hn : n ≤ 96) (h1 : σ 279 1 = (n : Int)) (h2 : ∀ i, i < n → σ 280 i = b i) (hx : TXc σ) : ∃ σ2, Run L (d + 99) 157 [vR 279] (gupd (gupd (gupd (gupd σ 279 3 0) 279 4 0) 279 6 0) 279 7 0) none σ2 ∧ TKc b n 0 0 σ2 ∧ (σ2 279 6 = 0 ∧ σ2 279 7 = 0) ∧ TXc σ2 ∧ Agr σ σ2 (fun k j => k = 279 ∧ 2 ≤ j ∧ j ≤ 8 ∨ k = 281) := by
  have A0 : Agr σ (gupd (gupd (gupd (gupd σ 279 3 0) 279 4 0) 279 6 0) 279 7 0) (fun k j => k = 279 ∧ 2 ≤ j ∧ j ≤ 8 ∨ k = 281) := Agr_upd (Agr_upd (Agr_upd (Agr_upd (Agr_refl _ _) (by omega)) (by omega)) (by omega)) (by omega)
  obtain ⟨σ2, hR, ht, hA⟩ := tk_c (L := L) (d := d + 98) (b := b) (n := n) (e := 0) (w := 0) (σ := (gupd (gupd (gupd (gupd σ 279 3 0) 279 4 0) 279 6 0) 279 7 0)) hn (by omega) ((A0 279 1 (by omega)).trans h1) (fun i hi => (A0 280 i (by omega)).trans (h2 i hi)) (by rw [gupd_ne (by omega), gupd_ne (by omega), gupd_ne (by omega), gupd_eq]; rfl) (by rw [gupd_ne (by omega), gupd_ne (by omega), gupd_eq])
  have A1 : Agr σ σ2 (fun k j => k = 279 ∧ 2 ≤ j ∧ j ≤ 8 ∨ k = 281) := Agr_trans A0 (Agr_mono hA (fun k j z => by omega))
  exact ⟨σ2, hR, ht, ⟨by rw [hA 279 6 (by omega), gupd_ne (by omega), gupd_eq], by rw [hA 279 7 (by omega), gupd_eq]⟩, Agr_tx A1 (fun k j hk => by omega) hx, A1⟩
theorem px_r {b : Nat → Int} {n B : Nat} (hn : n ≤ 96) (h1 : σ 293 9 = (n : Int)) (h2 : ∀ i, i < n → σ 301 i = b i) : ∃ σ2, Run L (d + 99) 241 [vR 293] (gupd (gupd (gupd (gupd (gupd (gupd (gupd σ 293 11 0) 293 12 3) 293 15 0) 293 16 0) 293 17 0) 293 19 0) 293 18 (B : Int)) none σ2 ∧ TKr b n 0 0 σ2 ∧ (σ2 293 15 = 0 ∧ σ2 293 16 = 0 ∧ σ2 293 17 = 0 ∧ σ2 293 18 = (B : Int) ∧ σ2 293 19 = 0) ∧ Agr σ σ2 (fun k j => k = 293 ∧ 9 ≤ j ∧ j ≤ 19 ∨ k = 294 ∧ B ≤ j ∧ j < B + 192) := by
  have A0 : Agr σ (gupd (gupd (gupd (gupd (gupd (gupd (gupd σ 293 11 0) 293 12 3) 293 15 0) 293 16 0) 293 17 0) 293 19 0) 293 18 (B : Int)) (fun k j => k = 293 ∧ 9 ≤ j ∧ j ≤ 19 ∨ k = 294 ∧ B ≤ j ∧ j < B + 192) := Agr_upd (Agr_upd (Agr_upd (Agr_upd (Agr_upd (Agr_upd (Agr_upd (Agr_refl _ _) (by omega)) (by omega)) (by omega)) (by omega)) (by omega)) (by omega)) (by omega)
  have g12 : (gupd (gupd (gupd (gupd (gupd (gupd (gupd σ 293 11 0) 293 12 3) 293 15 0) 293 16 0) 293 17 0) 293 19 0) 293 18 (B : Int)) 293 12 = 3 := by rw [gupd_ne (by omega), gupd_ne (by omega), gupd_ne (by omega), gupd_ne (by omega), gupd_ne (by omega), gupd_eq]
  obtain ⟨σ2, hR, ht, hA⟩ := tk_r (L := L) (d := d + 97) (b := b) (n := n) (e := 0) (w := 0) (σ := (gupd (gupd (gupd (gupd (gupd (gupd (gupd σ 293 11 0) 293 12 3) 293 15 0) 293 16 0) 293 17 0) 293 19 0) 293 18 (B : Int))) hn (by omega) ((show (gupd (gupd (gupd (gupd (gupd (gupd (gupd σ 293 11 0) 293 12 3) 293 15 0) 293 16 0) 293 17 0) 293 19 0) 293 18 (B : Int)) 293 9 = σ 293 9 by rw [gupd_ne (by omega), gupd_ne (by omega), gupd_ne (by omega), gupd_ne (by omega), gupd_ne (by omega), gupd_ne (by omega), gupd_ne (by omega)]).trans h1) (fun i hi => (A0 301 i (by omega)).trans (h2 i hi)) (by rw [gupd_ne (by omega), gupd_ne (by omega), gupd_ne (by omega), gupd_ne (by omega), gupd_ne (by omega), gupd_ne (by omega), gupd_eq]; rfl) (by rw [g12]; exact gtm_3) (fun z => by rw [g12] at z; omega)
  refine ⟨σ2, hR, ht, ⟨?_, ?_, ?_, ?_, ?_⟩, Agr_trans A0 (Agr_mono hA (fun k j z => by omega))⟩
  · rw [hA 293 15 (by omega), gupd_ne (by omega), gupd_ne (by omega), gupd_ne (by omega), gupd_ne (by omega), gupd_eq]
  · rw [hA 293 16 (by omega), gupd_ne (by omega), gupd_ne (by omega), gupd_ne (by omega), gupd_eq]
  · rw [hA 293 17 (by omega), gupd_ne (by omega), gupd_ne (by omega), gupd_eq]
  · rw [hA 293 18 (by omega), gupd_eq]
  · rw [hA 293 19 (by omega), gupd_ne (by omega), gupd_eq]
/-- behind the key -/
theorem py_c {b : Nat → Int} {n : Nat} {key : Int} (hn : n ≤ 96) (ht : TKc b n 0 0 σ) (h6 : σ 279 6 = 0 ∧ σ 279 7 = 0) (hx : TXc σ) : ∃ σ2, Run L (d + 99) 157 [vR 279] (gupd σ 279 8 key) none σ2 ∧ PVc b n key (gte b n 0) (gtq b n 0 0) 0 0 (fun _ => 0) (fun _ => 0) σ2 ∧ Agr σ σ2 (fun k j => k = 279 ∧ 2 ≤ j ∧ j ≤ 8 ∨ k = 281) := by
  have A0 : Agr σ (gupd σ 279 8 key) (fun k j => k = 279 ∧ 2 ≤ j ∧ j ≤ 8 ∨ k = 281) := Agr_upd (Agr_refl _ _) (by omega)
  obtain ⟨t1, t2, t3, t4, t5⟩ := ht
  have h0 : PVc b n key 0 0 0 0 (fun _ => 0) (fun _ => 0) (gupd σ 279 8 key) := by
    refine ⟨⟨?_, fun i hi => ?_, ?_, ?_, ?_⟩, ?_, ?_, gupd_eq, fun k hk => absurd hk (by omega), Agr_tx A0 (fun k j hk => by omega) hx⟩
    · rw [gupd_ne (by omega)]; exact t1
    · rw [gupd_ne (by omega)]; exact t2 i hi
    · rw [gupd_ne (by omega)]; exact t3
    · rw [gupd_ne (by omega)]; exact t4
    · rw [gupd_ne (by omega)]; exact t5
    · rw [gupd_ne (by omega)]; exact h6.1
    · rw [gupd_ne (by omega)]; exact h6.2
  obtain ⟨σ2, hR, h3, hA⟩ := pv_step_c (L := L) (d := d + 98) hn (by omega) h0
  exact ⟨σ2, hR, h3, Agr_trans A0 (Agr_mono hA (fun k j z => by omega))⟩
theorem py_r {b : Nat → Int} {n B : Nat} (hn : n ≤ 96) (hq : gtq b n 0 0 = 1) (ht : TKr b n 0 0 σ) (h6 : σ 293 15 = 0 ∧ σ 293 16 = 0 ∧ σ 293 17 = 0 ∧ σ 293 18 = (B : Int) ∧ σ 293 19 = 0) : ∃ σ2, Run L (d + 99) 241 [vR 293] σ none σ2 ∧ PVr b n B 0 0 (gte b n 0) (gtq b n 0 0) 0 0 (fun _ => 0) (fun _ => 0) σ2 ∧ Agr σ σ2 (fun k j => k = 293 ∧ 9 ≤ j ∧ j ≤ 19 ∨ k = 294 ∧ B ≤ j ∧ j < B + 192) := by
  obtain ⟨σ2, hR, h3, hA⟩ := pv_step_r (L := L) (d := d + 97) (B := B) (o := 0) (t := 0) (N := 0) (lv := 0) (pw := fun _ => 0) (pv := fun _ => 0) hn (Nat.zero_le n) (by omega) ⟨ht, h6.1, h6.2.1, h6.2.2.1, h6.2.2.2.1, h6.2.2.2.2, fun k hk => absurd hk (by omega)⟩
  exact ⟨σ2, hR, h3, Agr_mono hA (fun k j z => by omega)⟩
def jpS (b : Nat → Int) (n B : Nat) : Prop := ∃ (key : Int) (N lv : Nat) (pw pv : Nat → Int), (0 ≤ key ∧ key ≤ 3) ∧ (N ≤ 96 ∧ lv ≤ N) ∧ Vp key pw pv N 1 ∧
  (∀ (L d : Nat) (σ : gMm), σ 279 1 = (n : Int) → (∀ i, i < n → σ 280 i = b i) → TXc σ → ∃ σ', Run L (d + 100) 156 [vR 279] σ (some (vI (-1000000005))) σ' ∧ (σ' 279 6 = (N : Int) ∧ σ' 279 7 = (lv : Int) ∧ σ' 279 8 = key ∧ ∀ k, k < N → σ' 281 k = gcd1 key (pw k) (pv k)) ∧ Agr σ σ' (fun k j => k = 279 ∧ 2 ≤ j ∧ j ≤ 8 ∨ k = 281)) ∧
  (∀ (L d : Nat) (σ : gMm), σ 293 9 = (n : Int) → (∀ i, i < n → σ 301 i = b i) → (0 ≤ σ 294 2 ∧ σ 294 2 ≤ 12) → (σ 294 2 < 12 ∧ (B : Int) = 930 + 200 * σ 294 2 + 4 ∨ σ 294 2 = 12 ∧ B = 3340) → ∃ σ', Run L (d + 100) 239 [vR 293] σ (some (vI key)) σ' ∧ (σ' 293 17 = (N : Int) ∧ σ' 293 19 = (lv : Int) ∧ σ' 293 9 = 0 ∧ ∀ k, k < N → σ' 294 (B + 2 * k) = pw k ∧ σ' 294 (B + 2 * k + 1) = pv k) ∧ Agr σ σ' (fun k j => k = 293 ∧ 9 ≤ j ∧ j ≤ 19 ∨ k = 294 ∧ B ≤ j ∧ j < B + 192))
def jpF (b : Nat → Int) (n B : Nat) : Prop := ∃ s : Nat,
  (∀ (L d : Nat) (σ : gMm), σ 279 1 = (n : Int) → (∀ i, i < n → σ 280 i = b i) → TXc σ → ∃ σ', Run L (d + 100) 156 [vR 279] σ (some (vI (s : Int))) σ' ∧ Agr σ σ' (fun k j => k = 279 ∧ 2 ≤ j ∧ j ≤ 8 ∨ k = 281)) ∧
  (∀ (L d : Nat) (σ : gMm), σ 293 9 = (n : Int) → (∀ i, i < n → σ 301 i = b i) → (0 ≤ σ 294 2 ∧ σ 294 2 ≤ 12) → (σ 294 2 < 12 ∧ (B : Int) = 930 + 200 * σ 294 2 + 4 ∨ σ 294 2 = 12 ∧ B = 3340) → ∃ σ', Run L (d + 100) 239 [vR 293] σ (some (vI (-1))) σ' ∧ (σ' 293 10 = (s : Int) ∧ σ' 293 9 = 0) ∧ Agr σ σ' (fun k j => k = 293 ∧ 9 ≤ j ∧ j ≤ 19 ∨ k = 294 ∧ B ≤ j ∧ j < B + 192))
theorem Run_wq {L d y maxL na rk : Nat} {as : List gV} {C' : gCode} {σ σ1 : gMm} {r : Option gV} (hT : gT y = some (C', maxL, na, rk)) (h : Wp L d C' 0 (gentry maxL as) [] σ (fun r' σ' => r' = r ∧ σ' = σ1)) : Run L d y as σ r σ1 := Run_of hT h
theorem jparse {b : Nat → Int} {n B : Nat} (hn : n ≤ 96) (hb : ∀ i, i < n → 0 ≤ b i ∧ b i ≤ 255) (hB : B ≤ 3340) : jpS b n B ∨ jpF b n B := by
  have tb := gte_bd (b := b) (n := n) (e := 0) (by omega)
  obtain ⟨key, ⟨k1, k2, k3⟩, kC, kR⟩ := jkey (b := b) (w := 0) hn (Nat.zero_le n)
  by_cases c : key < 0
  · have e : key = -1 := by omega
    subst e
    refine Or.inr ⟨gts b n 0, fun L d σ h1 h2 hx => ?_, fun L d σ h1 h2 h3 h4 => ?_⟩
    · obtain ⟨σ2, hT, ht, h6, hx2, A1⟩ := px_c (L := L) (d := d) hn h1 h2 hx
      have hR := up_none hT (kC L (d + 94) σ2 ht hx2)
      rw [ht.2.2.1] at hR
      exact ⟨_, hR, Agr_upd A1 (by omega)⟩
    · obtain ⟨σ2, hT, ht, h6, A1⟩ := px_r (L := L) (d := d) (B := B) hn h1 h2
      refine ⟨gupd σ2 293 9 0, Run_wq (C' := k_M_parse) rfl (mq_in h3 h4 (mq_none hT (kR L (d + 98) σ2 ht) ⟨rfl, rfl⟩)), ⟨?_, gupd_eq⟩, Agr_upd A1 (by omega)⟩
      rw [gupd_ne (by omega)]
      exact ht.2.2.1
  · have hk : 0 ≤ key ∧ key ≤ 3 := by omega
    have q1 := k3 hk.1
    rw [if_neg c] at kC
    have J := (jall hn hb hk hB (n - gte b n 0) (gte b n 0) (Nat.le_refl _) tb.2.1 0 0 (by omega) (by omega)).2 0 (by omega) (gtq b n 0 0) 0 0 (fun _ => 0) (fun _ => 0) 0 (by omega) (by omega) (by omega) ⟨fun k hk => absurd hk (by omega), rfl⟩
    rcases J with ⟨e2, w2, N2, lv2, pw2, pv2, ⟨p1, p2, p3, p4, p5⟩, hC, hR⟩ | ⟨s2, hC, hR⟩
    · have s2b := gts_bd (b := b) p1.2
      have tm := tm_c b n e2 w2
      by_cases c0 : gtq b n e2 w2 = 0
      · refine Or.inl ⟨key, N2, lv2, pw2, pv2, hk, ⟨by omega, p4⟩, p5, fun L d σ h1 h2 hx => ?_, fun L d σ h1 h2 h3 h4 => ?_⟩
        · obtain ⟨σ2, hT, ht, h6, hx2, A1⟩ := px_c (L := L) (d := d) hn h1 h2 hx
          obtain ⟨σ3, hT2, h3, A2⟩ := py_c (L := L) (d := d) (key := key) hn ht h6 hx2
          obtain ⟨σ4, hU, h4, A3⟩ := hC L (d + 99) σ3 (by omega) h3
          exact ⟨σ4, up_s hT hk.1 (kC L (d + 94) σ2 ht hx2) hT2 hU (h4.1.2.2.2.2.trans c0), ⟨h4.2.1, h4.2.2.1, h4.2.2.2.1, h4.2.2.2.2.1⟩, Agr_trans (Agr_trans A1 A2) (Agr_mono A3 (fun k j z => by omega))⟩
        · obtain ⟨σ2, hT, ht, h6, A1⟩ := px_r (L := L) (d := d) (B := B) hn h1 h2
          obtain ⟨σ3, hT2, h7, A2⟩ := py_r (L := L) (d := d) hn q1 ht h6
          obtain ⟨σ4, hU, h5, A3⟩ := hR L (d + 99) σ3 (by omega) h7
          refine ⟨gupd σ4 293 9 0, Run_wq (C' := k_M_parse) rfl (mq_in h3 h4 (mq_s hT hk.1 (kR L (d + 98) σ2 ht) hT2 hU ((pvr_12 h5).trans (by omega)) ⟨rfl, rfl⟩)), ⟨?_, ?_, gupd_eq, fun k hk => ?_⟩, Agr_upd (Agr_trans (Agr_trans A1 A2) (Agr_mono A3 (fun k j z => by omega))) (by omega)⟩
          · rw [gupd_ne (by omega)]; exact h5.2.2.2.1
          · rw [gupd_ne (by omega)]; exact h5.2.2.2.2.2.1
          · rw [gupd_ne (by omega), gupd_ne (by omega)]; exact h5.2.2.2.2.2.2 k hk
      · refine Or.inr ⟨gts b n e2, fun L d σ h1 h2 hx => ?_, fun L d σ h1 h2 h3 h4 => ?_⟩
        · obtain ⟨σ2, hT, ht, h6, hx2, A1⟩ := px_c (L := L) (d := d) hn h1 h2 hx
          obtain ⟨σ3, hT2, h3, A2⟩ := py_c (L := L) (d := d) (key := key) hn ht h6 hx2
          obtain ⟨σ4, hU, h4, A3⟩ := hC L (d + 99) σ3 (by omega) h3
          have hR := up_e hT hk.1 (kC L (d + 94) σ2 ht hx2) hT2 hU (by rw [h4.1.2.2.2.2]; exact c0)
          rw [h4.1.2.2.1] at hR
          exact ⟨σ4, hR, Agr_trans (Agr_trans A1 A2) (Agr_mono A3 (fun k j z => by omega))⟩
        · obtain ⟨σ2, hT, ht, h6, A1⟩ := px_r (L := L) (d := d) (B := B) hn h1 h2
          obtain ⟨σ3, hT2, h7, A2⟩ := py_r (L := L) (d := d) hn q1 ht h6
          obtain ⟨σ4, hU, h5, A3⟩ := hR L (d + 99) σ3 (by omega) h7
          refine ⟨gupd σ4 293 9 0, Run_wq (C' := k_M_parse) rfl (mq_in h3 h4 (mq_e hT hk.1 (kR L (d + 98) σ2 ht) hT2 hU (by rw [pvr_12 h5]; omega) ⟨rfl, rfl⟩)), ⟨?_, gupd_eq⟩, Agr_upd (Agr_trans (Agr_trans A1 A2) (Agr_mono A3 (fun k j z => by omega))) (by omega)⟩
          rw [gupd_ne (by omega)]; exact h5.1.2.2.1
    · refine Or.inr ⟨s2, fun L d σ h1 h2 hx => ?_, fun L d σ h1 h2 h3 h4 => ?_⟩
      · obtain ⟨σ2, hT, ht, h6, hx2, A1⟩ := px_c (L := L) (d := d) hn h1 h2 hx
        obtain ⟨σ3, hT2, h3, A2⟩ := py_c (L := L) (d := d) (key := key) hn ht h6 hx2
        obtain ⟨σ4, hU, h4, A3⟩ := hC L (d + 99) σ3 (by omega) h3
        have hR := up_f hT hk.1 (kC L (d + 94) σ2 ht hx2) hT2 hU
        rw [h4.1] at hR
        exact ⟨σ4, hR, Agr_trans (Agr_trans A1 A2) (Agr_mono A3 (fun k j z => by omega))⟩
      · obtain ⟨σ2, hT, ht, h6, A1⟩ := px_r (L := L) (d := d) (B := B) hn h1 h2
        obtain ⟨σ3, hT2, h7, A2⟩ := py_r (L := L) (d := d) hn q1 ht h6
        obtain ⟨σ4, hU, h5, A3⟩ := hR L (d + 99) σ3 (by omega) h7
        refine ⟨gupd σ4 293 9 0, Run_wq (C' := k_M_parse) rfl (mq_in h3 h4 (mq_f hT hk.1 (kR L (d + 98) σ2 ht) hT2 hU ⟨rfl, rfl⟩)), ⟨?_, gupd_eq⟩, Agr_upd (Agr_trans (Agr_trans A1 A2) (Agr_mono A3 (fun k j z => by omega))) (by omega)⟩
        rw [gupd_ne (by omega)]; exact h5
