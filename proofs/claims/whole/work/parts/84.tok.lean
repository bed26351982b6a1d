/-! text: tokens. -/
variable {L d : Nat} {σ σ1 : Nat → Nat → Int} {Q : Option gV → (Nat → Nat → Int) → Prop} {a0 a1 a2 a3 a4 a5 a6 a7 a8 a9 a10 a11 s0 s1 s2 s3 s4 s5 s6 s7 s8 s9 : Int} {l0 l1 l2 l3 l4 l5 l6 l7 l8 l9 l10 l11 t0 t1 t2 t3 t4 t5 t6 t7 t8 t9 : gV} {b0 b1 b2 b3 b4 b5 b6 b7 b8 b9 b10 b11 c0 c1 c2 c3 c4 c5 c6 c7 c8 c9 : Nat} {r : Option gV}
theorem gskip_cg {b b' : Nat → Int} : ∀ m e, (∀ i, i < e + m → b i = b' i) → gskip b e m = gskip b' e m
  | 0, _, _ => rfl
  | m + 1, e, h => by
    unfold gskip
    rw [h e (by omega), gskip_cg m (e + 1) (fun i hi => h i (by omega))]
theorem grun_cg {b b' : Nat → Int} {s : Int} : ∀ m e, (∀ i, i < e + m → b i = b' i) → grun b s e m = grun b' s e m
  | 0, _, _ => rfl
  | m + 1, e, h => by
    unfold grun
    rw [h e (by omega), grun_cg m (e + 1) (fun i hi => h i (by omega))]
theorem gnum_cg {b b' : Nat → Int} {s : Nat} : ∀ k, (∀ i, i < k → b (s + i) = b' (s + i)) → gnum b s k = gnum b' s k
  | 0, _ => rfl
  | k + 1, h => by
    unfold gnum
    rw [h k (by omega), gnum_cg k (fun i hi => h i (by omega))]
theorem gts_cg {b b' : Nat → Int} {n e : Nat} (hen : e ≤ n) (h : ∀ i, i < n → b i = b' i) : gts b n e = gts b' n e := gskip_cg _ _ (fun i hi => h i (by omega))
theorem gte_cg {b b' : Nat → Int} {n e : Nat} (hen : e ≤ n) (h : ∀ i, i < n → b i = b' i) : gte b n e = gte b' n e := by
  unfold gte
  rw [gts_cg hen h]
  by_cases c : gts b' n e < n
  · rw [if_pos c, if_pos c, h _ c, grun_cg _ _ (fun i hi => h i (by omega))]
  · rw [if_neg c, if_neg c]
theorem gtq_cg {b b' : Nat → Int} {n e : Nat} {w : Int} (hen : e ≤ n) (h : ∀ i, i < n → b i = b' i) : gtq b n e w = gtq b' n e w := by
  unfold gtq
  rw [gts_cg hen h]
  by_cases c : gts b' n e < n
  · rw [if_pos c, if_pos c, h _ c]
  · rw [if_neg c, if_neg c]
theorem gtm_cg {b b' : Nat → Int} {n e : Nat} {w : Int} (hen : e ≤ n) (h : ∀ i, i < n → b i = b' i) : gtm b n e w = gtm b' n e w := by
  unfold gtm
  rw [gts_cg hen h, gte_cg hen h, gtq_cg hen h]
  by_cases c : gts b' n e < n
  · rw [h _ c]
  · rw [if_neg (fun z => c z.1), if_neg (fun z => c z.1)]
theorem tq_c (b : Nat → Int) (n e : Nat) (w : Int) : (¬ gts b n e < n ∧ gtq b n e w = 0) ∨ (gts b n e < n ∧ (gtq b n e w = 4 ∧ gso (b (gts b n e)) ≠ 3 ∨ gtq b n e w = gso (b (gts b n e)))) := by
  unfold gtq
  by_cases c : gts b n e < n
  · rw [if_pos c]
    by_cases c2 : gso (b (gts b n e)) ≠ 3 ∧ (w = 1 ∨ w = 2) ∧ gts b n e = e
    · rw [if_pos c2]; exact Or.inr ⟨c, Or.inl ⟨rfl, c2.1⟩⟩
    · rw [if_neg c2]; exact Or.inr ⟨c, Or.inr rfl⟩
  · rw [if_neg c]; exact Or.inl ⟨c, rfl⟩
theorem tm_c (b : Nat → Int) (n e : Nat) (w : Int) : (gtm b n e w = gtq b n e w ∧ ¬(gtq b n e w = 2 ∧ gts b n e + 4 < gte b n e)) ∨ (gtm b n e w = 4 ∧ (gtq b n e w = 2 ∧ gts b n e + 4 < gte b n e)) := by
  have q := tq_c b n e w
  have v := gso_v (b (gts b n e))
  unfold gtm
  by_cases c : gts b n e < n ∧ gso (b (gts b n e)) = 2 ∧ gts b n e + 4 < gte b n e
  · rw [if_pos c]
    omega
  · rw [if_neg c]
    omega
theorem tq_3 {b : Nat → Int} {n e : Nat} {w : Int} (h : gtq b n e w = 3) : gts b n e < n ∧ gso (b (gts b n e)) = 3 ∧ gte b n e = gts b n e + 1 := by
  have q := tq_c b n e w
  have c : gts b n e < n := by omega
  have o : gso (b (gts b n e)) = 3 := by omega
  refine ⟨c, o, ?_⟩
  unfold gte
  rw [if_pos c, if_pos o]
theorem tq_1 {b : Nat → Int} {n e : Nat} {w : Int} (h : gtq b n e w = 1) : gts b n e < n ∧ gso (b (gts b n e)) = 1 := by
  have q := tq_c b n e w
  omega
theorem tq_2 {b : Nat → Int} {n e : Nat} {w : Int} (hen : e ≤ n) (h : gtq b n e w = 2) : gts b n e < n ∧ gso (b (gts b n e)) = 2 ∧ ∀ i, i < gte b n e - gts b n e → gso (b (gts b n e + i)) = 2 := by
  have q := tq_c b n e w
  have c : gts b n e < n := by omega
  have o : gso (b (gts b n e)) = 2 := by omega
  refine ⟨c, o, fun i hi => ?_⟩
  unfold gte at hi
  rw [if_pos c, if_neg (by omega), o] at hi
  by_cases z : i = 0
  · rw [z]; exact o
  · exact grun_all (n - (gts b n e + 1)) (gts b n e + 1) (gts b n e + i) (by omega) (by omega)
/-- the class's token, the reference's -/
def TKc (b : Nat → Int) (n e : Nat) (w : Int) (σ : gMm) : Prop := σ 279 1 = (n : Int) ∧ (∀ i, i < n → σ 280 i = b i) ∧ σ 279 2 = ((gts b n e : Nat) : Int) ∧ σ 279 3 = ((gte b n e : Nat) : Int) ∧ σ 279 4 = gtq b n e w
def TKr (b : Nat → Int) (n e : Nat) (w : Int) (σ : gMm) : Prop := σ 293 9 = (n : Int) ∧ (∀ i, i < n → σ 301 i = b i) ∧ σ 293 10 = ((gts b n e : Nat) : Int) ∧ σ 293 11 = ((gte b n e : Nat) : Int) ∧ σ 293 12 = gtm b n e w ∧ (gts b n e < n → gso (b (gts b n e)) = 2 → σ 293 13 = gnum b (gts b n e) (gte b n e - gts b n e)) ∧ (gts b n e < n → gso (b (gts b n e)) = 1 → σ 293 14 = if gte b n e = gts b n e + 1 then b (gts b n e) else 0) ∧ (gts b n e < n → gso (b (gts b n e)) = 3 → σ 293 14 = b (gts b n e))
theorem tk_c {b : Nat → Int} {n e : Nat} {w : Int} (h96 : n ≤ 96) (hen : e ≤ n) (h1 : σ 279 1 = (n : Int)) (h2 : ∀ i, i < n → σ 280 i = b i) (h4 : σ 279 3 = (e : Int)) (h5 : gtq b n e (σ 279 4) = gtq b n e w) : ∃ σ', Run L (d + 1) 157 [vR 279] σ none σ' ∧ TKc b n e w σ' ∧ Agr σ σ' (fun k j => k = 279 ∧ 2 ≤ j ∧ j ≤ 4) := by
  obtain ⟨σ', hR, r1, r2, r3, hA⟩ := sp_U_step (L := L) (d := d) (σ := σ) h1 h96 h4 hen
  rw [gts_cg hen h2] at r1
  rw [gte_cg hen h2] at r2
  rw [gtq_cg hen h2, h5] at r3
  exact ⟨σ', hR, ⟨(hA 279 1 (by omega)).trans h1, fun i hi => (hA 280 i (by omega)).trans (h2 i hi), r1, r2, r3⟩, hA⟩
theorem tk_r {b : Nat → Int} {n e : Nat} {w : Int} (h96 : n ≤ 96) (hen : e ≤ n) (h1 : σ 293 9 = (n : Int)) (h2 : ∀ i, i < n → σ 301 i = b i) (h4 : σ 293 11 = (e : Int)) (h5 : gtm b n e (σ 293 12) = gtm b n e w) (hw : σ 293 12 = 1 ∨ σ 293 12 = 2 → 0 < e) : ∃ σ', Run L (d + 2) 241 [vR 293] σ none σ' ∧ TKr b n e w σ' ∧ Agr σ σ' (fun k j => k = 293 ∧ 10 ≤ j ∧ j ≤ 14) := by
  obtain ⟨σ', hR, r1, r2, r3, r4, r5, r6, hA⟩ := sp_M_next_ (L := L) (d := d) (σ := σ) h1 h96 h4 hen hw
  have tb := gte_bd (b := b) hen
  have eS := gts_cg hen h2
  have eT := gte_cg hen h2
  rw [eS] at r1 r4 r5 r6
  rw [eT] at r2 r4 r5
  rw [gtm_cg hen h2, h5] at r3
  refine ⟨σ', hR, ⟨(hA 293 9 (by omega)).trans h1, fun i hi => (hA 301 i (by omega)).trans (h2 i hi), r1, r2, r3, fun c o => ?_, fun c o => ?_, fun c o => ?_⟩, hA⟩
  · rw [r4 c (by rw [h2 _ c]; exact o)]
    exact gnum_cg _ (fun i hi => h2 _ (by omega))
  · rw [r5 c (by rw [h2 _ c]; exact o), h2 _ c]
  · rw [r6 c (by rw [h2 _ c]; exact o), h2 _ c]
theorem st_c {b : Nat → Int} {n e : Nat} {w : Int} (h96 : n ≤ 96) (hen : e ≤ n) (h : TKc b n e w σ) : ∃ σ', Run L (d + 1) 157 [vR 279] σ none σ' ∧ TKc b n (gte b n e) (gtq b n e w) σ' ∧ Agr σ σ' (fun k j => k = 279 ∧ 2 ≤ j ∧ j ≤ 4) := by
  obtain ⟨h1, h2, h3, h4, h5⟩ := h
  exact tk_c h96 (gte_bd (b := b) hen).2.1 h1 h2 h4 (by rw [h5])
theorem st_r {b : Nat → Int} {n e : Nat} {w : Int} (h96 : n ≤ 96) (hen : e ≤ n) (h : TKr b n e w σ) (hl : ¬(gtq b n e w = 2 ∧ gts b n e + 4 < gte b n e)) : ∃ σ', Run L (d + 2) 241 [vR 293] σ none σ' ∧ TKr b n (gte b n e) (gtq b n e w) σ' ∧ Agr σ σ' (fun k j => k = 293 ∧ 10 ≤ j ∧ j ≤ 14) := by
  obtain ⟨h1, h2, h3, h4, h5, -⟩ := h
  have tm := tm_c b n e w
  have q := tq_c b n e w
  have tb := gte_bd (b := b) hen
  have em : gtm b n e w = gtq b n e w := by omega
  exact tk_r h96 tb.2.1 h1 h2 h4 (by rw [h5, em]) (fun z => by rw [h5, em] at z; omega)
