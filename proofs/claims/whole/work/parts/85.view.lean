/-! text: the parser's state. -/
variable {L d : Nat} {σ σ1 : Nat → Nat → Int} {Q : Option gV → (Nat → Nat → Int) → Prop} {a0 a1 a2 a3 a4 a5 a6 a7 a8 a9 a10 a11 s0 s1 s2 s3 s4 s5 s6 s7 s8 s9 : Int} {l0 l1 l2 l3 l4 l5 l6 l7 l8 l9 l10 l11 t0 t1 t2 t3 t4 t5 t6 t7 t8 t9 : gV} {b0 b1 b2 b3 b4 b5 b6 b7 b8 b9 b10 b11 c0 c1 c2 c3 c4 c5 c6 c7 c8 c9 : Nat} {r : Option gV}
/-- the parser's state: class, reference; the pile so far is pw, pv, N steps -/
def PVc (b : Nat → Int) (n : Nat) (key : Int) (e : Nat) (w : Int) (N lv : Nat) (pw pv : Nat → Int) (σ : gMm) : Prop := TKc b n e w σ ∧ σ 279 6 = (N : Int) ∧ σ 279 7 = (lv : Int) ∧ σ 279 8 = key ∧ (∀ k, k < N → σ 281 k = gcd1 key (pw k) (pv k)) ∧ TXc σ
def PVr (b : Nat → Int) (n B o t : Nat) (e : Nat) (w : Int) (N lv : Nat) (pw pv : Nat → Int) (σ : gMm) : Prop := TKr b n e w σ ∧ σ 293 15 = (o : Int) ∧ σ 293 16 = (t : Int) ∧ σ 293 17 = (N : Int) ∧ σ 293 18 = (B : Int) ∧ σ 293 19 = (lv : Int) ∧ ∀ k, k < N → σ 294 (B + 2 * k) = pw k ∧ σ 294 (B + 2 * k + 1) = pv k
/-- the class behind a fault -/
def PFc (s : Nat) (σ : gMm) : Prop := σ 279 2 = (s : Int) ∧ 0 ≤ σ 279 6 ∧ σ 279 6 ≤ 96
theorem pv_step_c {b : Nat → Int} {n e N lv : Nat} {key w : Int} {pw pv : Nat → Int} (h96 : n ≤ 96) (hen : e ≤ n) (h : PVc b n key e w N lv pw pv σ) : ∃ σ', Run L (d + 1) 157 [vR 279] σ none σ' ∧ PVc b n key (gte b n e) (gtq b n e w) N lv pw pv σ' ∧ Agr σ σ' (fun k j => k = 279 ∧ 2 ≤ j ∧ j ≤ 7 ∨ k = 281) := by
  obtain ⟨h1, h2, h3, h4, h5, h6⟩ := h
  obtain ⟨σ', hR, ht, hA⟩ := st_c (L := L) (d := d) h96 hen h1
  exact ⟨σ', hR, ⟨ht, (hA 279 6 (by omega)).trans h2, (hA 279 7 (by omega)).trans h3, (hA 279 8 (by omega)).trans h4, fun k hk => (hA 281 k (by omega)).trans (h5 k hk), Agr_tx hA (fun k j hk => by omega) h6⟩, Agr_mono hA (fun k j z => by omega)⟩
theorem pv_step_r {b : Nat → Int} {n B o t e N lv : Nat} {w : Int} {pw pv : Nat → Int} (h96 : n ≤ 96) (hen : e ≤ n) (hl : ¬(gtq b n e w = 2 ∧ gts b n e + 4 < gte b n e)) (h : PVr b n B o t e w N lv pw pv σ) : ∃ σ', Run L (d + 2) 241 [vR 293] σ none σ' ∧ PVr b n B o t (gte b n e) (gtq b n e w) N lv pw pv σ' ∧ Agr σ σ' (fun k j => k = 293 ∧ 10 ≤ j ∧ j ≤ 19 ∨ k = 294 ∧ B ≤ j ∧ j < B + 192) := by
  obtain ⟨h1, h2, h3, h4, h5, h6, h7⟩ := h
  obtain ⟨σ', hR, ht, hA⟩ := st_r (L := L) (d := d) h96 hen h1 hl
  exact ⟨σ', hR, ⟨ht, (hA 293 15 (by omega)).trans h2, (hA 293 16 (by omega)).trans h3, (hA 293 17 (by omega)).trans h4, (hA 293 18 (by omega)).trans h5, (hA 293 19 (by omega)).trans h6, fun k hk => ⟨(hA 294 _ (by omega)).trans (h7 k hk).1, (hA 294 _ (by omega)).trans (h7 k hk).2⟩⟩, Agr_mono hA (fun k j z => by omega)⟩
theorem pv_emit_c {b : Nat → Int} {n e N lv : Nat} {key w c x y : Int} {pw pv : Nat → Int} (hN : N < 96) (hc : c = gcd1 key x y) (h : PVc b n key e w N lv pw pv σ) : ∃ σ', Run L d 165 [vR 279, vI c] σ none σ' ∧ PVc b n key e w (N + 1) lv (fu pw N x) (fu pv N y) σ' ∧ Agr σ σ' (fun k j => k = 279 ∧ 2 ≤ j ∧ j ≤ 7 ∨ k = 281) := by
  obtain ⟨⟨t1, t2, t3, t4, t5⟩, h2, h3, h4, h5, h6⟩ := h
  have hR := sp_U_emit (L := L) (d := d) (σ := σ) (a1 := c) (by omega) (by omega)
  have en : (σ 279 6).toNat = N := by omega
  rw [en, h2] at hR
  have hA : Agr σ (gupd (gupd σ 281 N c) 279 6 ((N : Int) + 1)) (fun k j => k = 279 ∧ 2 ≤ j ∧ j ≤ 7 ∨ k = 281) := Agr_upd (Agr_upd (Agr_refl _ _) (by omega)) (by omega)
  refine ⟨_, hR, ⟨⟨?_, fun i hi => ?_, ?_, ?_, ?_⟩, ?_, ?_, ?_, fun k hk => ?_, Agr_tx hA (fun k j hk => by omega) h6⟩, hA⟩
  · rw [gupd_ne (by omega), gupd_ne (by omega)]; exact t1
  · rw [gupd_ne (by omega), gupd_ne (by omega)]; exact t2 i hi
  · rw [gupd_ne (by omega), gupd_ne (by omega)]; exact t3
  · rw [gupd_ne (by omega), gupd_ne (by omega)]; exact t4
  · rw [gupd_ne (by omega), gupd_ne (by omega)]; exact t5
  · rw [gupd_eq]; omega
  · rw [gupd_ne (by omega), gupd_ne (by omega)]; exact h3
  · rw [gupd_ne (by omega), gupd_ne (by omega)]; exact h4
  · rw [gupd_ne (by omega)]
    by_cases z : k = N
    · rw [z, gupd_eq, fu_eq, fu_eq, hc]
    · rw [gupd_ne (by omega), fu_ne z, fu_ne z]; exact h5 k (by omega)
theorem pf_emit_c {s : Nat} {c : Int} (h : PFc s σ) : ∃ σ', Run L d 165 [vR 279, vI c] σ none σ' ∧ PFc s σ' ∧ Agr σ σ' (fun k j => k = 279 ∧ 2 ≤ j ∧ j ≤ 7 ∨ k = 281) := by
  obtain ⟨h1, h2, h3⟩ := h
  by_cases z : σ 279 6 < 96
  · exact ⟨_, sp_U_emit (L := L) (d := d) (a1 := c) h2 z, ⟨by rw [gupd_ne (by omega), gupd_ne (by omega)]; exact h1, by rw [gupd_eq]; omega, by rw [gupd_eq]; omega⟩, Agr_upd (Agr_upd (Agr_refl _ _) (by omega)) (by omega)⟩
  · exact ⟨_, sp_U_emit_f (L := L) (d := d) (a1 := c) (by omega), ⟨h1, h2, h3⟩, Agr_refl _ _⟩
theorem pv_lay_r {b : Nat → Int} {n B o t e N lv : Nat} {w x y : Int} {pw pv : Nat → Int} (hN : N < 96) (hB : B ≤ 3340) (h : PVr b n B o t e w N lv pw pv σ) : ∃ σ', Run L d 253 [vR 293, vI x, vI y] σ none σ' ∧ PVr b n B o t e w (N + 1) lv (fu pw N x) (fu pv N y) σ' ∧ Agr σ σ' (fun k j => k = 293 ∧ 10 ≤ j ∧ j ≤ 19 ∨ k = 294 ∧ B ≤ j ∧ j < B + 192) := by
  obtain ⟨⟨t1, t2, t3, t4, t5, t6, t7, t8⟩, h2, h3, h4, h5, h6, h7⟩ := h
  have hR := sp_M_step (L := L) (d := d) (σ := σ) (a1 := x) (a2 := y) (by omega) (by omega)
  have en : (σ 293 17).toNat = N := by omega
  have eb : (σ 293 18).toNat = B := by omega
  rw [en, eb, h4] at hR
  have hA : Agr σ (gupd (gupd (gupd σ 294 (B + 2 * N) x) 294 (B + 2 * N + 1) y) 293 17 ((N : Int) + 1)) (fun k j => k = 293 ∧ 10 ≤ j ∧ j ≤ 19 ∨ k = 294 ∧ B ≤ j ∧ j < B + 192) := Agr_upd (Agr_upd (Agr_upd (Agr_refl _ _) (by omega)) (by omega)) (by omega)
  have g : ∀ k j, ¬ (k = 293 ∧ j = 17) → k ≠ 294 → gupd (gupd (gupd σ 294 (B + 2 * N) x) 294 (B + 2 * N + 1) y) 293 17 ((N : Int) + 1) k j = σ k j := fun k j z1 z2 => by
    rw [gupd_ne z1, gupd_ne (by omega), gupd_ne (by omega)]
  refine ⟨_, hR, ⟨⟨?_, fun i hi => ?_, ?_, ?_, ?_, ?_, ?_, ?_⟩, ?_, ?_, ?_, ?_, ?_, fun k hk => ?_⟩, hA⟩
  · rw [g _ _ (by omega) (by omega)]; exact t1
  · rw [g _ _ (by omega) (by omega)]; exact t2 i hi
  · rw [g _ _ (by omega) (by omega)]; exact t3
  · rw [g _ _ (by omega) (by omega)]; exact t4
  · rw [g _ _ (by omega) (by omega)]; exact t5
  · rw [g _ _ (by omega) (by omega)]; exact t6
  · rw [g _ _ (by omega) (by omega)]; exact t7
  · rw [g _ _ (by omega) (by omega)]; exact t8
  · rw [g _ _ (by omega) (by omega)]; exact h2
  · rw [g _ _ (by omega) (by omega)]; exact h3
  · rw [gupd_eq]; omega
  · rw [g _ _ (by omega) (by omega)]; exact h5
  · rw [g _ _ (by omega) (by omega)]; exact h6
  · by_cases z : k = N
    · rw [z, fu_eq, fu_eq]
      exact ⟨by rw [gupd_ne (by omega), gupd_ne (by omega), gupd_eq], by rw [gupd_ne (by omega), gupd_eq]⟩
    · rw [fu_ne z, fu_ne z]
      exact ⟨by rw [gupd_ne (by omega), gupd_ne (by omega), gupd_ne (by omega)]; exact (h7 k (by omega)).1, by rw [gupd_ne (by omega), gupd_ne (by omega), gupd_ne (by omega)]; exact (h7 k (by omega)).2⟩
/-- a sign at hand -/
theorem pv_sign_c {b : Nat → Int} {n e N lv : Nat} {key w : Int} {pw pv : Nat → Int} (h96 : n ≤ 96) (h : PVc b n key e w N lv pw pv σ) : Run L d 164 [vR 279, vI a1] σ (some (vI (gb (gtq b n e w = 3 ∧ b (gts b n e) = a1)))) σ := by
  obtain ⟨⟨t1, t2, t3, t4, t5⟩, -⟩ := h
  have hR := sp_U_isSign (L := L) (d := d) (σ := σ) (a1 := a1) (fun z => by have := (tq_3 (t5.symm.trans z)).1; omega)
  have en : (σ 279 2).toNat = gts b n e := by omega
  rw [en] at hR
  by_cases c : gtq b n e w = 3
  · have := (tq_3 c).1
    rw [t2 _ this] at hR
    by_cases c2 : b (gts b n e) = a1
    · rw [gb_t ⟨t5.trans c, c2⟩] at hR
      rw [gb_t ⟨c, c2⟩]; exact hR
    · rw [gb_f (fun z => c2 z.2)] at hR
      rw [gb_f (fun z => c2 z.2)]; exact hR
  · rw [gb_f (fun z => c (t5.symm.trans z.1))] at hR
    rw [gb_f (fun z => c z.1)]; exact hR
theorem pv_sign_r {b : Nat → Int} {n B o t e N lv : Nat} {w : Int} {pw pv : Nat → Int} (h : PVr b n B o t e w N lv pw pv σ) : Run L d 255 [vR 293, vI a1] σ (some (vI (gb (gtq b n e w = 3 ∧ b (gts b n e) = a1)))) σ := by
  obtain ⟨⟨t1, t2, t3, t4, t5, t6, t7, t8⟩, -⟩ := h
  have hR := sp_M_isSign (L := L) (d := d) (σ := σ) (a1 := a1)
  have tm := tm_c b n e w
  by_cases c : gtq b n e w = 3
  · have q := tq_3 c
    rw [t8 q.1 q.2.1] at hR
    by_cases c2 : b (gts b n e) = a1
    · rw [gb_t ⟨t5.trans (by omega), c2⟩] at hR
      rw [gb_t ⟨c, c2⟩]; exact hR
    · rw [gb_f (fun z => c2 z.2)] at hR
      rw [gb_f (fun z => c2 z.2)]; exact hR
  · rw [gb_f (fun z => by have := t5.symm.trans z.1; omega)] at hR
    rw [gb_f (fun z => c z.1)]; exact hR
/-- signs of a level -/
def gsl (l : Nat) (c : Int) : Prop := 0 ≤ gfx (8 + l) c 0 (gln (8 + l))
theorem gsl_0 {c : Int} : gsl 0 c ↔ c = 124 := by
  show 0 ≤ (if (124 : Int) = c then (0 : Int) else -1) ↔ _
  split <;> omega
theorem gsl_1 {c : Int} : gsl 1 c ↔ c = 38 := by
  show 0 ≤ (if (38 : Int) = c then (0 : Int) else -1) ↔ _
  split <;> omega
theorem gsl_2 {c : Int} : gsl 2 c ↔ c = 60 ∨ c = 61 ∨ c = 62 := by
  show 0 ≤ (if (60 : Int) = c then (0 : Int) else if (61 : Int) = c then (1 : Int) else if (62 : Int) = c then (2 : Int) else -1) ↔ _
  repeat' split
  all_goals omega
theorem gsl_3 {c : Int} : gsl 3 c ↔ c = 43 ∨ c = 45 := by
  show 0 ≤ (if (43 : Int) = c then (0 : Int) else if (45 : Int) = c then (1 : Int) else -1) ↔ _
  repeat' split
  all_goals omega
theorem gsl_4 {c : Int} : gsl 4 c ↔ c = 42 ∨ c = 47 := by
  show 0 ≤ (if (42 : Int) = c then (0 : Int) else if (47 : Int) = c then (1 : Int) else -1) ↔ _
  repeat' split
  all_goals omega
theorem gfx_nm {key c : Int} (h : 0 ≤ key ∧ key ≤ 3) : gfx (4 + key.toNat) c 0 (gln (4 + key.toNat)) = (match gnm key c with | some i => i | none => -1) := by
  have k4 : key = 0 ∨ key = 1 ∨ key = 2 ∨ key = 3 := by omega
  rcases k4 with rfl | rfl | rfl | rfl
  · show (if (112 : Int) = c then (0 : Int) else if (109 : Int) = c then (1 : Int) else -1) = _
    by_cases c1 : c = 112
    · subst c1; rfl
    · by_cases c2 : c = 109
      · subst c2; rfl
      · rw [if_neg (by omega), if_neg (by omega)]; unfold gnm; rw [if_pos rfl, if_neg c1, if_neg c2]
  · show (if (119 : Int) = c then (0 : Int) else if (103 : Int) = c then (1 : Int) else -1) = _
    by_cases c1 : c = 119
    · subst c1; rfl
    · by_cases c2 : c = 103
      · subst c2; rfl
      · rw [if_neg (by omega), if_neg (by omega)]; unfold gnm; rw [if_neg (by omega), if_pos rfl, if_neg c1, if_neg c2]
  · show (if (115 : Int) = c then (0 : Int) else if (102 : Int) = c then (1 : Int) else if (107 : Int) = c then (2 : Int) else -1) = _
    by_cases c1 : c = 115
    · subst c1; rfl
    · by_cases c2 : c = 102
      · subst c2; rfl
      · by_cases c3 : c = 107
        · subst c3; rfl
        · rw [if_neg (by omega), if_neg (by omega), if_neg (by omega)]; unfold gnm; rw [if_neg (by omega), if_neg (by omega), if_pos rfl, if_neg c1, if_neg c2, if_neg c3]
  · show (if (111 : Int) = c then (0 : Int) else if (120 : Int) = c then (1 : Int) else -1) = _
    by_cases c1 : c = 111
    · subst c1; rfl
    · by_cases c2 : c = 120
      · subst c2; rfl
      · rw [if_neg (by omega), if_neg (by omega)]; unfold gnm; rw [if_neg (by omega), if_neg (by omega), if_neg (by omega), if_neg c1, if_neg c2]
theorem gnm_bd3 {key c i : Int} (h : gnm key c = some i) : 0 ≤ i ∧ i ≤ 2 ∧ c ≠ 0 := by
  unfold gnm at h
  repeat' split at h
  all_goals first | (cases h; done) | (cases h; omega)
set_option maxRecDepth 4000 in
theorem r_U_signsOf_0 : Wp L d k_U_signsOf 0 [vI a0] [] σ Q ↔ Wp L d k_U_signsOf 1 [vI a0] [vI a0] σ Q := wp_iload rfl rfl
set_option maxRecDepth 4000 in
theorem r_U_signsOf_1 : Wp L d k_U_signsOf 1 [l0] [vI s0] σ Q ↔ (if s0 = 0 then Wp L d k_U_signsOf 32 [l0] [] σ Q else if s0 = 1 then Wp L d k_U_signsOf 35 [l0] [] σ Q else if s0 = 2 then Wp L d k_U_signsOf 38 [l0] [] σ Q else if s0 = 3 then Wp L d k_U_signsOf 41 [l0] [] σ Q else Wp L d k_U_signsOf 44 [l0] [] σ Q) := by
  by_cases h0 : s0 = 0
  · subst h0
    rw [if_pos rfl]
    exact Wp_s rfl rfl rfl rfl
  by_cases h1 : s0 = 1
  · subst h1
    rw [if_neg (by omega), if_pos rfl]
    exact Wp_s rfl rfl rfl rfl
  by_cases h2 : s0 = 2
  · subst h2
    rw [if_neg (by omega), if_neg (by omega), if_pos rfl]
    exact Wp_s rfl rfl rfl rfl
  by_cases h3 : s0 = 3
  · subst h3
    rw [if_neg (by omega), if_neg (by omega), if_neg (by omega), if_pos rfl]
    exact Wp_s rfl rfl rfl rfl
  rw [if_neg h0, if_neg h1, if_neg h2, if_neg h3]
  have hout : s0 < 0 ∨ 3 < s0 := by omega
  exact Wp_s rfl rfl rfl (by simp only [gstep, vI, if_pos hout]; rfl)
set_option maxRecDepth 4000 in
theorem r_U_signsOf_32 : Wp L d k_U_signsOf 32 [l0] [] σ Q ↔ Wp L d k_U_signsOf 34 [l0] [vR 8] σ Q := wp_ldc rfl
set_option maxRecDepth 4000 in
theorem r_U_signsOf_34 : Wp L d k_U_signsOf 34 [l0] [vR c0] σ Q ↔ Q (some (vR c0)) σ := wp_aret rfl
set_option maxRecDepth 4000 in
theorem r_U_signsOf_35 : Wp L d k_U_signsOf 35 [l0] [] σ Q ↔ Wp L d k_U_signsOf 37 [l0] [vR 9] σ Q := wp_ldc rfl
set_option maxRecDepth 4000 in
theorem r_U_signsOf_37 : Wp L d k_U_signsOf 37 [l0] [vR c0] σ Q ↔ Q (some (vR c0)) σ := wp_aret rfl
set_option maxRecDepth 4000 in
theorem r_U_signsOf_38 : Wp L d k_U_signsOf 38 [l0] [] σ Q ↔ Wp L d k_U_signsOf 40 [l0] [vR 10] σ Q := wp_ldc rfl
set_option maxRecDepth 4000 in
theorem r_U_signsOf_40 : Wp L d k_U_signsOf 40 [l0] [vR c0] σ Q ↔ Q (some (vR c0)) σ := wp_aret rfl
set_option maxRecDepth 4000 in
theorem r_U_signsOf_41 : Wp L d k_U_signsOf 41 [l0] [] σ Q ↔ Wp L d k_U_signsOf 43 [l0] [vR 11] σ Q := wp_ldc rfl
set_option maxRecDepth 4000 in
theorem r_U_signsOf_43 : Wp L d k_U_signsOf 43 [l0] [vR c0] σ Q ↔ Q (some (vR c0)) σ := wp_aret rfl
set_option maxRecDepth 4000 in
theorem r_U_signsOf_44 : Wp L d k_U_signsOf 44 [l0] [] σ Q ↔ Wp L d k_U_signsOf 46 [l0] [vR 12] σ Q := wp_ldc rfl
set_option maxRecDepth 4000 in
theorem r_U_signsOf_46 : Wp L d k_U_signsOf 46 [l0] [vR c0] σ Q ↔ Q (some (vR c0)) σ := wp_aret rfl
set_option maxRecDepth 4000 in
theorem sp_U_signsOf_0 : Run L d 170 [vI 0] σ (some (vR 8)) σ := by
  refine Run_of (C' := k_U_signsOf) rfl ?_
  show Wp L d k_U_signsOf 0 [vI 0] [] σ _
  simp (disch := first | assumption | exact gb_01 _ | omega) only [r_U_signsOf_0, r_U_signsOf_1, r_U_signsOf_32, r_U_signsOf_34, r_U_signsOf_35, r_U_signsOf_37, r_U_signsOf_38, r_U_signsOf_40, r_U_signsOf_41, r_U_signsOf_43, r_U_signsOf_44, r_U_signsOf_46, w32_gb, w32i, tn_add, tn_mul, Int.toNat_natCast, Int.toNat_zero, Int.reduceLE, Int.reduceLT, Int.reduceEq, Int.reduceNe, gb_T, gb_F, Int.reduceToNat, eq_self, true_or, or_true, and_true, true_and, and_self, ↓ite_gb0, ↓ite_gbn, ↓if_pos, ↓if_neg, if_true, if_false, not_true_eq_false, not_false_eq_true, gb_ne0, gb_eq0]
set_option maxRecDepth 4000 in
theorem sp_U_signsOf_1 : Run L d 170 [vI 1] σ (some (vR 9)) σ := by
  refine Run_of (C' := k_U_signsOf) rfl ?_
  show Wp L d k_U_signsOf 0 [vI 1] [] σ _
  simp (disch := first | assumption | exact gb_01 _ | omega) only [r_U_signsOf_0, r_U_signsOf_1, r_U_signsOf_32, r_U_signsOf_34, r_U_signsOf_35, r_U_signsOf_37, r_U_signsOf_38, r_U_signsOf_40, r_U_signsOf_41, r_U_signsOf_43, r_U_signsOf_44, r_U_signsOf_46, w32_gb, w32i, tn_add, tn_mul, Int.toNat_natCast, Int.toNat_zero, Int.reduceLE, Int.reduceLT, Int.reduceEq, Int.reduceNe, gb_T, gb_F, Int.reduceToNat, eq_self, true_or, or_true, and_true, true_and, and_self, ↓ite_gb0, ↓ite_gbn, ↓if_pos, ↓if_neg, if_true, if_false, not_true_eq_false, not_false_eq_true, gb_ne0, gb_eq0]
set_option maxRecDepth 4000 in
theorem sp_U_signsOf_2 : Run L d 170 [vI 2] σ (some (vR 10)) σ := by
  refine Run_of (C' := k_U_signsOf) rfl ?_
  show Wp L d k_U_signsOf 0 [vI 2] [] σ _
  simp (disch := first | assumption | exact gb_01 _ | omega) only [r_U_signsOf_0, r_U_signsOf_1, r_U_signsOf_32, r_U_signsOf_34, r_U_signsOf_35, r_U_signsOf_37, r_U_signsOf_38, r_U_signsOf_40, r_U_signsOf_41, r_U_signsOf_43, r_U_signsOf_44, r_U_signsOf_46, w32_gb, w32i, tn_add, tn_mul, Int.toNat_natCast, Int.toNat_zero, Int.reduceLE, Int.reduceLT, Int.reduceEq, Int.reduceNe, gb_T, gb_F, Int.reduceToNat, eq_self, true_or, or_true, and_true, true_and, and_self, ↓ite_gb0, ↓ite_gbn, ↓if_pos, ↓if_neg, if_true, if_false, not_true_eq_false, not_false_eq_true, gb_ne0, gb_eq0]
set_option maxRecDepth 4000 in
theorem sp_U_signsOf_3 : Run L d 170 [vI 3] σ (some (vR 11)) σ := by
  refine Run_of (C' := k_U_signsOf) rfl ?_
  show Wp L d k_U_signsOf 0 [vI 3] [] σ _
  simp (disch := first | assumption | exact gb_01 _ | omega) only [r_U_signsOf_0, r_U_signsOf_1, r_U_signsOf_32, r_U_signsOf_34, r_U_signsOf_35, r_U_signsOf_37, r_U_signsOf_38, r_U_signsOf_40, r_U_signsOf_41, r_U_signsOf_43, r_U_signsOf_44, r_U_signsOf_46, w32_gb, w32i, tn_add, tn_mul, Int.toNat_natCast, Int.toNat_zero, Int.reduceLE, Int.reduceLT, Int.reduceEq, Int.reduceNe, gb_T, gb_F, Int.reduceToNat, eq_self, true_or, or_true, and_true, true_and, and_self, ↓ite_gb0, ↓ite_gbn, ↓if_pos, ↓if_neg, if_true, if_false, not_true_eq_false, not_false_eq_true, gb_ne0, gb_eq0]
set_option maxRecDepth 4000 in
theorem sp_U_signsOf_4 : Run L d 170 [vI 4] σ (some (vR 12)) σ := by
  refine Run_of (C' := k_U_signsOf) rfl ?_
  show Wp L d k_U_signsOf 0 [vI 4] [] σ _
  simp (disch := first | assumption | exact gb_01 _ | omega) only [r_U_signsOf_0, r_U_signsOf_1, r_U_signsOf_32, r_U_signsOf_34, r_U_signsOf_35, r_U_signsOf_37, r_U_signsOf_38, r_U_signsOf_40, r_U_signsOf_41, r_U_signsOf_43, r_U_signsOf_44, r_U_signsOf_46, w32_gb, w32i, tn_add, tn_mul, Int.toNat_natCast, Int.toNat_zero, Int.reduceLE, Int.reduceLT, Int.reduceEq, Int.reduceNe, gb_T, gb_F, Int.reduceToNat, eq_self, true_or, or_true, and_true, true_and, and_self, ↓ite_gb0, ↓ite_gbn, ↓if_pos, ↓if_neg, if_true, if_false, not_true_eq_false, not_false_eq_true, gb_ne0, gb_eq0]
set_option maxRecDepth 4000 in
theorem r_U_namesOf_0 : Wp L d k_U_namesOf 0 [vI a0] [] σ Q ↔ Wp L d k_U_namesOf 1 [vI a0] [vI a0] σ Q := wp_iload rfl rfl
set_option maxRecDepth 4000 in
theorem r_U_namesOf_1 : Wp L d k_U_namesOf 1 [l0] [vI s0] σ Q ↔ (if s0 = 0 then Wp L d k_U_namesOf 28 [l0] [] σ Q else if s0 = 1 then Wp L d k_U_namesOf 31 [l0] [] σ Q else if s0 = 2 then Wp L d k_U_namesOf 34 [l0] [] σ Q else Wp L d k_U_namesOf 37 [l0] [] σ Q) := by
  by_cases h0 : s0 = 0
  · subst h0
    rw [if_pos rfl]
    exact Wp_s rfl rfl rfl rfl
  by_cases h1 : s0 = 1
  · subst h1
    rw [if_neg (by omega), if_pos rfl]
    exact Wp_s rfl rfl rfl rfl
  by_cases h2 : s0 = 2
  · subst h2
    rw [if_neg (by omega), if_neg (by omega), if_pos rfl]
    exact Wp_s rfl rfl rfl rfl
  rw [if_neg h0, if_neg h1, if_neg h2]
  have hout : s0 < 0 ∨ 2 < s0 := by omega
  exact Wp_s rfl rfl rfl (by simp only [gstep, vI, if_pos hout]; rfl)
set_option maxRecDepth 4000 in
theorem r_U_namesOf_28 : Wp L d k_U_namesOf 28 [l0] [] σ Q ↔ Wp L d k_U_namesOf 30 [l0] [vR 4] σ Q := wp_ldc rfl
set_option maxRecDepth 4000 in
theorem r_U_namesOf_30 : Wp L d k_U_namesOf 30 [l0] [vR c0] σ Q ↔ Q (some (vR c0)) σ := wp_aret rfl
set_option maxRecDepth 4000 in
theorem r_U_namesOf_31 : Wp L d k_U_namesOf 31 [l0] [] σ Q ↔ Wp L d k_U_namesOf 33 [l0] [vR 5] σ Q := wp_ldc rfl
set_option maxRecDepth 4000 in
theorem r_U_namesOf_33 : Wp L d k_U_namesOf 33 [l0] [vR c0] σ Q ↔ Q (some (vR c0)) σ := wp_aret rfl
set_option maxRecDepth 4000 in
theorem r_U_namesOf_34 : Wp L d k_U_namesOf 34 [l0] [] σ Q ↔ Wp L d k_U_namesOf 36 [l0] [vR 6] σ Q := wp_ldc rfl
set_option maxRecDepth 4000 in
theorem r_U_namesOf_36 : Wp L d k_U_namesOf 36 [l0] [vR c0] σ Q ↔ Q (some (vR c0)) σ := wp_aret rfl
set_option maxRecDepth 4000 in
theorem r_U_namesOf_37 : Wp L d k_U_namesOf 37 [l0] [] σ Q ↔ Wp L d k_U_namesOf 39 [l0] [vR 7] σ Q := wp_ldc rfl
set_option maxRecDepth 4000 in
theorem r_U_namesOf_39 : Wp L d k_U_namesOf 39 [l0] [vR c0] σ Q ↔ Q (some (vR c0)) σ := wp_aret rfl
set_option maxRecDepth 4000 in
theorem sp_U_namesOf_0 : Run L d 168 [vI 0] σ (some (vR 4)) σ := by
  refine Run_of (C' := k_U_namesOf) rfl ?_
  show Wp L d k_U_namesOf 0 [vI 0] [] σ _
  simp (disch := first | assumption | exact gb_01 _ | omega) only [r_U_namesOf_0, r_U_namesOf_1, r_U_namesOf_28, r_U_namesOf_30, r_U_namesOf_31, r_U_namesOf_33, r_U_namesOf_34, r_U_namesOf_36, r_U_namesOf_37, r_U_namesOf_39, w32_gb, w32i, tn_add, tn_mul, Int.toNat_natCast, Int.toNat_zero, Int.reduceLE, Int.reduceLT, Int.reduceEq, Int.reduceNe, gb_T, gb_F, Int.reduceToNat, eq_self, true_or, or_true, and_true, true_and, and_self, ↓ite_gb0, ↓ite_gbn, ↓if_pos, ↓if_neg, if_true, if_false, not_true_eq_false, not_false_eq_true, gb_ne0, gb_eq0]
set_option maxRecDepth 4000 in
theorem sp_U_namesOf_1 : Run L d 168 [vI 1] σ (some (vR 5)) σ := by
  refine Run_of (C' := k_U_namesOf) rfl ?_
  show Wp L d k_U_namesOf 0 [vI 1] [] σ _
  simp (disch := first | assumption | exact gb_01 _ | omega) only [r_U_namesOf_0, r_U_namesOf_1, r_U_namesOf_28, r_U_namesOf_30, r_U_namesOf_31, r_U_namesOf_33, r_U_namesOf_34, r_U_namesOf_36, r_U_namesOf_37, r_U_namesOf_39, w32_gb, w32i, tn_add, tn_mul, Int.toNat_natCast, Int.toNat_zero, Int.reduceLE, Int.reduceLT, Int.reduceEq, Int.reduceNe, gb_T, gb_F, Int.reduceToNat, eq_self, true_or, or_true, and_true, true_and, and_self, ↓ite_gb0, ↓ite_gbn, ↓if_pos, ↓if_neg, if_true, if_false, not_true_eq_false, not_false_eq_true, gb_ne0, gb_eq0]
set_option maxRecDepth 4000 in
theorem sp_U_namesOf_2 : Run L d 168 [vI 2] σ (some (vR 6)) σ := by
  refine Run_of (C' := k_U_namesOf) rfl ?_
  show Wp L d k_U_namesOf 0 [vI 2] [] σ _
  simp (disch := first | assumption | exact gb_01 _ | omega) only [r_U_namesOf_0, r_U_namesOf_1, r_U_namesOf_28, r_U_namesOf_30, r_U_namesOf_31, r_U_namesOf_33, r_U_namesOf_34, r_U_namesOf_36, r_U_namesOf_37, r_U_namesOf_39, w32_gb, w32i, tn_add, tn_mul, Int.toNat_natCast, Int.toNat_zero, Int.reduceLE, Int.reduceLT, Int.reduceEq, Int.reduceNe, gb_T, gb_F, Int.reduceToNat, eq_self, true_or, or_true, and_true, true_and, and_self, ↓ite_gb0, ↓ite_gbn, ↓if_pos, ↓if_neg, if_true, if_false, not_true_eq_false, not_false_eq_true, gb_ne0, gb_eq0]
set_option maxRecDepth 4000 in
theorem sp_U_namesOf_3 : Run L d 168 [vI 3] σ (some (vR 7)) σ := by
  refine Run_of (C' := k_U_namesOf) rfl ?_
  show Wp L d k_U_namesOf 0 [vI 3] [] σ _
  simp (disch := first | assumption | exact gb_01 _ | omega) only [r_U_namesOf_0, r_U_namesOf_1, r_U_namesOf_28, r_U_namesOf_30, r_U_namesOf_31, r_U_namesOf_33, r_U_namesOf_34, r_U_namesOf_36, r_U_namesOf_37, r_U_namesOf_39, w32_gb, w32i, tn_add, tn_mul, Int.toNat_natCast, Int.toNat_zero, Int.reduceLE, Int.reduceLT, Int.reduceEq, Int.reduceNe, gb_T, gb_F, Int.reduceToNat, eq_self, true_or, or_true, and_true, true_and, and_self, ↓ite_gb0, ↓ite_gbn, ↓if_pos, ↓if_neg, if_true, if_false, not_true_eq_false, not_false_eq_true, gb_ne0, gb_eq0]
set_option maxRecDepth 4000 in
theorem r_U_wordOf_0 : Wp L d k_U_wordOf 0 [vI a0] [] σ Q ↔ Wp L d k_U_wordOf 1 [vI a0] [vI a0] σ Q := wp_iload rfl rfl
set_option maxRecDepth 4000 in
theorem r_U_wordOf_1 : Wp L d k_U_wordOf 1 [l0] [vI s0] σ Q ↔ (if s0 = 0 then Wp L d k_U_wordOf 28 [l0] [] σ Q else if s0 = 1 then Wp L d k_U_wordOf 31 [l0] [] σ Q else if s0 = 2 then Wp L d k_U_wordOf 34 [l0] [] σ Q else Wp L d k_U_wordOf 37 [l0] [] σ Q) := by
  by_cases h0 : s0 = 0
  · subst h0
    rw [if_pos rfl]
    exact Wp_s rfl rfl rfl rfl
  by_cases h1 : s0 = 1
  · subst h1
    rw [if_neg (by omega), if_pos rfl]
    exact Wp_s rfl rfl rfl rfl
  by_cases h2 : s0 = 2
  · subst h2
    rw [if_neg (by omega), if_neg (by omega), if_pos rfl]
    exact Wp_s rfl rfl rfl rfl
  rw [if_neg h0, if_neg h1, if_neg h2]
  have hout : s0 < 0 ∨ 2 < s0 := by omega
  exact Wp_s rfl rfl rfl (by simp only [gstep, vI, if_pos hout]; rfl)
set_option maxRecDepth 4000 in
theorem r_U_wordOf_28 : Wp L d k_U_wordOf 28 [l0] [] σ Q ↔ Wp L d k_U_wordOf 30 [l0] [vR 0] σ Q := wp_ldc rfl
set_option maxRecDepth 4000 in
theorem r_U_wordOf_30 : Wp L d k_U_wordOf 30 [l0] [vR c0] σ Q ↔ Q (some (vR c0)) σ := wp_aret rfl
set_option maxRecDepth 4000 in
theorem r_U_wordOf_31 : Wp L d k_U_wordOf 31 [l0] [] σ Q ↔ Wp L d k_U_wordOf 33 [l0] [vR 1] σ Q := wp_ldc rfl
set_option maxRecDepth 4000 in
theorem r_U_wordOf_33 : Wp L d k_U_wordOf 33 [l0] [vR c0] σ Q ↔ Q (some (vR c0)) σ := wp_aret rfl
set_option maxRecDepth 4000 in
theorem r_U_wordOf_34 : Wp L d k_U_wordOf 34 [l0] [] σ Q ↔ Wp L d k_U_wordOf 36 [l0] [vR 2] σ Q := wp_ldc rfl
set_option maxRecDepth 4000 in
theorem r_U_wordOf_36 : Wp L d k_U_wordOf 36 [l0] [vR c0] σ Q ↔ Q (some (vR c0)) σ := wp_aret rfl
set_option maxRecDepth 4000 in
theorem r_U_wordOf_37 : Wp L d k_U_wordOf 37 [l0] [] σ Q ↔ Wp L d k_U_wordOf 39 [l0] [vR 3] σ Q := wp_ldc rfl
set_option maxRecDepth 4000 in
theorem r_U_wordOf_39 : Wp L d k_U_wordOf 39 [l0] [vR c0] σ Q ↔ Q (some (vR c0)) σ := wp_aret rfl
set_option maxRecDepth 4000 in
theorem sp_U_wordOf_0 : Run L d 160 [vI 0] σ (some (vR 0)) σ := by
  refine Run_of (C' := k_U_wordOf) rfl ?_
  show Wp L d k_U_wordOf 0 [vI 0] [] σ _
  simp (disch := first | assumption | exact gb_01 _ | omega) only [r_U_wordOf_0, r_U_wordOf_1, r_U_wordOf_28, r_U_wordOf_30, r_U_wordOf_31, r_U_wordOf_33, r_U_wordOf_34, r_U_wordOf_36, r_U_wordOf_37, r_U_wordOf_39, w32_gb, w32i, tn_add, tn_mul, Int.toNat_natCast, Int.toNat_zero, Int.reduceLE, Int.reduceLT, Int.reduceEq, Int.reduceNe, gb_T, gb_F, Int.reduceToNat, eq_self, true_or, or_true, and_true, true_and, and_self, ↓ite_gb0, ↓ite_gbn, ↓if_pos, ↓if_neg, if_true, if_false, not_true_eq_false, not_false_eq_true, gb_ne0, gb_eq0]
set_option maxRecDepth 4000 in
theorem sp_U_wordOf_1 : Run L d 160 [vI 1] σ (some (vR 1)) σ := by
  refine Run_of (C' := k_U_wordOf) rfl ?_
  show Wp L d k_U_wordOf 0 [vI 1] [] σ _
  simp (disch := first | assumption | exact gb_01 _ | omega) only [r_U_wordOf_0, r_U_wordOf_1, r_U_wordOf_28, r_U_wordOf_30, r_U_wordOf_31, r_U_wordOf_33, r_U_wordOf_34, r_U_wordOf_36, r_U_wordOf_37, r_U_wordOf_39, w32_gb, w32i, tn_add, tn_mul, Int.toNat_natCast, Int.toNat_zero, Int.reduceLE, Int.reduceLT, Int.reduceEq, Int.reduceNe, gb_T, gb_F, Int.reduceToNat, eq_self, true_or, or_true, and_true, true_and, and_self, ↓ite_gb0, ↓ite_gbn, ↓if_pos, ↓if_neg, if_true, if_false, not_true_eq_false, not_false_eq_true, gb_ne0, gb_eq0]
set_option maxRecDepth 4000 in
theorem sp_U_wordOf_2 : Run L d 160 [vI 2] σ (some (vR 2)) σ := by
  refine Run_of (C' := k_U_wordOf) rfl ?_
  show Wp L d k_U_wordOf 0 [vI 2] [] σ _
  simp (disch := first | assumption | exact gb_01 _ | omega) only [r_U_wordOf_0, r_U_wordOf_1, r_U_wordOf_28, r_U_wordOf_30, r_U_wordOf_31, r_U_wordOf_33, r_U_wordOf_34, r_U_wordOf_36, r_U_wordOf_37, r_U_wordOf_39, w32_gb, w32i, tn_add, tn_mul, Int.toNat_natCast, Int.toNat_zero, Int.reduceLE, Int.reduceLT, Int.reduceEq, Int.reduceNe, gb_T, gb_F, Int.reduceToNat, eq_self, true_or, or_true, and_true, true_and, and_self, ↓ite_gb0, ↓ite_gbn, ↓if_pos, ↓if_neg, if_true, if_false, not_true_eq_false, not_false_eq_true, gb_ne0, gb_eq0]
set_option maxRecDepth 4000 in
theorem sp_U_wordOf_3 : Run L d 160 [vI 3] σ (some (vR 3)) σ := by
  refine Run_of (C' := k_U_wordOf) rfl ?_
  show Wp L d k_U_wordOf 0 [vI 3] [] σ _
  simp (disch := first | assumption | exact gb_01 _ | omega) only [r_U_wordOf_0, r_U_wordOf_1, r_U_wordOf_28, r_U_wordOf_30, r_U_wordOf_31, r_U_wordOf_33, r_U_wordOf_34, r_U_wordOf_36, r_U_wordOf_37, r_U_wordOf_39, w32_gb, w32i, tn_add, tn_mul, Int.toNat_natCast, Int.toNat_zero, Int.reduceLE, Int.reduceLT, Int.reduceEq, Int.reduceNe, gb_T, gb_F, Int.reduceToNat, eq_self, true_or, or_true, and_true, true_and, and_self, ↓ite_gb0, ↓ite_gbn, ↓if_pos, ↓if_neg, if_true, if_false, not_true_eq_false, not_false_eq_true, gb_ne0, gb_eq0]
