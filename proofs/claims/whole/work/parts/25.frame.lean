/-! What each piece of the invariant rests on. -/
def ZB (b μ k j : Nat) : Prop := (k = b ∧ 8 ≤ j ∧ j ≤ 13) ∨ (b + 1 ≤ k ∧ k ≤ b + 3) ∨ (b + 9 ≤ k ∧ k ≤ b + 48) ∨ (k = μ ∧ (j ≤ 1 ∨ 9 ≤ j ∧ j ≤ 12 ∨ 20 ≤ j ∧ j ≤ 55 ∨ 120 ≤ j ∧ j ≤ 599))
def ZT (c μ k j : Nat) : Prop := (k = c ∧ j = 6) ∨ (c + 2 ≤ k ∧ k ≤ c + 17) ∨ (k = μ ∧ (j = 2 ∨ 930 ≤ j ∧ j ≤ 3329))
def ZG (c μ k j : Nat) : Prop := (k = c ∧ (j = 1 ∨ j = 2)) ∨ k = c + 1 ∨ (k = μ ∧ (j = 13 ∨ j = 14 ∨ 60 ≤ j ∧ j ≤ 119))
def ZS (c μ k j : Nat) : Prop := (c + 2 ≤ k ∧ k ≤ c + 9) ∨ (k = μ ∧ 800 ≤ j ∧ j ≤ 815)
def ZW (c μ k j : Nat) : Prop := (k = c ∧ j = 5) ∨ (c + 1 ≤ k ∧ k ≤ c + 4) ∨ (c + 6 ≤ k ∧ k ≤ c + 13) ∨ (k = μ ∧ (j = 3 ∨ 600 ≤ j ∧ j ≤ 799))
def ZP (c μ k j : Nat) : Prop := (k = c ∧ 1 ≤ j ∧ j ≤ 4) ∨ k = c + 1 ∨ (k = μ ∧ (j = 4 ∨ j = 5 ∨ 820 ≤ j ∧ j ≤ 913))
def ZR (c μ k j : Nat) : Prop := (k = c ∧ j = 1) ∨ k = c + 1 ∨ (k = μ ∧ (j = 6 ∨ 920 ≤ j ∧ j ≤ 927))
def ZM (c μ k j : Nat) : Prop := (k = c ∧ (j = 7 ∨ j = 8)) ∨ (k = μ ∧ (j = 7 ∨ j = 8))
/-- what straps need of the parts: how many, their kinds -/
def ZK (μ k j : Nat) : Prop := k = μ ∧ (j = 1 ∨ 120 ≤ j ∧ j ≤ 599 ∧ j % 12 = 0)
theorem WPart_congr {g g' : Nat → Int} {c : Int} (h : ∀ j, j < 12 → g' j = g j) (hw : WPart g c) : WPart g' c := by
  unfold WPart at *
  rw [h 0 (by omega), h 1 (by omega), h 2 (by omega), h 3 (by omega), h 4 (by omega), h 5 (by omega), h 6 (by omega), h 7 (by omega), h 8 (by omega), h 9 (by omega), h 10 (by omega), h 11 (by omega)]
  exact hw
theorem CPart_congr {a a' g g' : Nat → Int} (h0 : ∀ j, j < 12 → a' j = a j) (h : ∀ j, j < 12 → g' j = g j) (hw : CPart a g) : CPart a' g' := by
  unfold CPart at *
  rw [h 0 (by omega), h 1 (by omega), h 2 (by omega), h 3 (by omega), h 4 (by omega), h 5 (by omega), h 6 (by omega), h 7 (by omega), h 8 (by omega), h 9 (by omega), h 10 (by omega), h 11 (by omega), h0 0 (by omega), h0 1 (by omega), h0 2 (by omega), h0 3 (by omega), h0 4 (by omega), h0 5 (by omega), h0 6 (by omega), h0 7 (by omega), h0 8 (by omega), h0 9 (by omega), h0 10 (by omega), h0 11 (by omega)]
  exact hw
theorem B_dep {b μ : Nat} {σ σ' : gMm} (h : ∀ k j, ZB b μ k j → σ' k j = σ k j) (hw : WB (σ μ)) (hc : CB b (σ μ) σ) : WB (σ' μ) ∧ CB b (σ' μ) σ' := by
  unfold ZB at h
  obtain ⟨w1, w2, w3, w4, w5, w6, w7, w8⟩ := hw
  obtain ⟨c1, c2, c3, c4, c5, c6, c7, c8⟩ := hc
  have e0 := h μ 0 (by omega)
  have e1 := h μ 1 (by omega)
  have e9 := h μ 9 (by omega)
  have e10 := h μ 10 (by omega)
  have e11 := h μ 11 (by omega)
  have e12 := h μ 12 (by omega)
  refine ⟨⟨by rw [e0]; exact w1, by rw [e1]; exact w2, fun k hk => ?_, fun p hp => ?_, by rw [e9]; exact w5, by rw [e10]; exact w6, by rw [e11, e0]; exact w7, by rw [e12]; exact w8⟩, ⟨by rw [e0, h b 8 (by omega)]; exact c1, by rw [e1, h b 9 (by omega)]; exact c2, fun k hk => ?_, fun p hp => ?_, by rw [e9, h b 10 (by omega)]; exact c5, by rw [e10, h b 11 (by omega)]; exact c6, by rw [e11, h b 12 (by omega)]; exact c7, by rw [e12, h b 13 (by omega)]; exact c8⟩⟩
  · rw [e0] at hk
    rw [h μ (20 + 3 * k) (by omega), h μ (20 + 3 * k + 1) (by omega), h μ (20 + 3 * k + 2) (by omega)]
    exact w3 k hk
  · rw [e1] at hp
    rw [e0]
    exact WPart_congr (fun j hj => h μ _ (by omega)) (w4 p hp)
  · rw [e0] at hk
    rw [h μ (20 + 3 * k) (by omega), h μ (20 + 3 * k + 1) (by omega), h μ (20 + 3 * k + 2) (by omega), h (b + 1) k (by omega), h (b + 2) k (by omega), h (b + 3) k (by omega)]
    exact c3 k hk
  · rw [e1] at hp
    exact CPart_congr (fun j hj => h _ j (by omega)) (fun j hj => h μ _ (by omega)) (c4 p hp)
theorem gdep_congr {w v w' v' : Nat → Int} : ∀ n, (∀ k, k < n → w' k = w k ∧ v' k = v k) → gdep w' v' n = gdep w v n
  | 0, _ => rfl
  | n + 1, h => by
    simp only [gdep]
    rw [gdep_congr n (fun k hk => h k (by omega)), (h n (by omega)).1, (h n (by omega)).2]
theorem WCode_congr {key n : Int} {w v w' v' : Nat → Int} (h : ∀ k : Nat, (k : Int) < n → w' k = w k ∧ v' k = v k) (hw : WCode key w v n) : WCode key w' v' n := by
  obtain ⟨h1, h2⟩ := hw
  refine ⟨fun k hk => ?_, ?_⟩
  · rw [(h k hk).1, (h k hk).2, gdep_congr k (fun i hi => h i (by omega))]
    exact h1 k hk
  · rw [gdep_congr _ (fun i hi => h i (by omega))]
    exact h2
theorem T_dep {c μ : Nat} {σ σ' : gMm} (h : ∀ k j, ZT c μ k j → σ' k j = σ k j) (hw : WT (σ μ)) (hc : CT c (σ μ) σ) : WT (σ' μ) ∧ CT c (σ' μ) σ' := by
  unfold ZT at h
  obtain ⟨w1, w2⟩ := hw
  obtain ⟨c1, c2⟩ := hc
  have e2 := h μ 2 (by omega)
  refine ⟨⟨by rw [e2]; exact w1, fun t ht => ?_⟩, ⟨by rw [e2, h c 6 (by omega)]; exact c1, fun t ht => ?_⟩⟩
  · rw [e2] at ht
    obtain ⟨q1, q2, q3, q4, q5⟩ := w2 t ht
    rw [h μ (930 + 200 * t) (by omega), h μ (930 + 200 * t + 1) (by omega), h μ (930 + 200 * t + 2) (by omega), h μ (930 + 200 * t + 3) (by omega)]
    exact ⟨q1, q2, q3, q4, WCode_congr (fun k hk => ⟨h μ _ (by omega), h μ _ (by omega)⟩) q5⟩
  · rw [e2] at ht
    obtain ⟨q1, q2, q3, q4, q5⟩ := w2 t ht
    obtain ⟨d1, d2, d3, d4, d5⟩ := c2 t ht
    rw [h μ (930 + 200 * t) (by omega), h μ (930 + 200 * t + 1) (by omega), h μ (930 + 200 * t + 2) (by omega), h μ (930 + 200 * t + 3) (by omega), h (c + 14) t (by omega), h (c + 15) t (by omega), h (c + 16) t (by omega), h (c + 17) t (by omega)]
    refine ⟨d1, d2, d3, d4, fun k hk => ?_⟩
    have g1 : gtw (σ' μ) t k = gtw (σ μ) t k := h μ _ (by omega)
    have g2 : gtv (σ' μ) t k = gtv (σ μ) t k := h μ _ (by omega)
    rw [g1, g2, h (c + 2 + t) k (by omega)]
    exact d5 k hk
theorem G_dep {c μ : Nat} {σ σ' : gMm} (h : ∀ k j, ZG c μ k j → σ' k j = σ k j) (hw : WG (σ μ)) (hc : CG c (σ μ) σ) : WG (σ' μ) ∧ CG c (σ' μ) σ' := by
  unfold ZG at h
  obtain ⟨w1, w2, w3⟩ := hw
  obtain ⟨c1, c2, c3⟩ := hc
  have e1 := h μ 13 (by omega)
  have e2 := h μ 14 (by omega)
  refine ⟨⟨by rw [e1]; exact w1, by rw [e2]; exact w2, fun j hj => by rw [h μ (60 + j) (by omega)]; exact w3 j hj⟩, ⟨by rw [e1, h c 1 (by omega)]; exact c1, by rw [e2, h c 2 (by omega)]; exact c2, fun j hj => by rw [h μ (60 + j) (by omega), h (c + 1) j (by omega)]; exact c3 j hj⟩⟩
theorem S_dep {c μ : Nat} {σ σ' : gMm} (h : ∀ k j, ZS c μ k j → σ' k j = σ k j) (hw : WS (σ μ)) (hc : CS c (σ μ) σ) : WS (σ' μ) ∧ CS c (σ' μ) σ' := by
  unfold ZS at h
  exact ⟨fun i hi j hj => by rw [h μ (800 + 2 * i + j) (by omega)]; exact hw i hi j hj, fun i hi j hj => by rw [h μ (800 + 2 * i + j) (by omega), h (c + 2 + i) j (by omega)]; exact hc i hi j hj⟩
theorem W_dep {c μ : Nat} {σ σ' : gMm} (h : ∀ k j, ZW c μ k j → σ' k j = σ k j) (hw : WW (σ μ)) (hc : CW c (σ μ) σ) : WW (σ' μ) ∧ CW c (σ' μ) σ' := by
  unfold ZW at h
  obtain ⟨w1, w2, w3⟩ := hw
  obtain ⟨c1, ⟨o, c2, c3⟩, c4⟩ := hc
  have e3 := h μ 3 (by omega)
  have hi30 : ∀ i : Nat, (i : Int) < σ μ 3 → i < 30 := fun i hi => by omega
  refine ⟨⟨by rw [e3]; exact w1, fun i hi => ?_, fun a ha b hb => ?_⟩, ⟨by rw [e3, h c 5 (by omega)]; exact c1, ⟨o, ?_, fun i hi => ?_⟩, fun a ha b hb => ?_⟩⟩
  · rw [e3] at hi
    have := hi30 i hi
    rw [h μ (600 + 4 * i) (by omega), h μ (600 + 4 * i + 1) (by omega), h μ (600 + 4 * i + 2) (by omega), h μ (600 + 4 * i + 3) (by omega)]
    exact w2 i hi
  · rw [h μ (720 + 10 * a + b) (by omega)]
    exact w3 a ha b hb
  · rw [e3]
    refine ⟨c2.1, fun i j hij hj => ?_⟩
    have h1 := c2.1 i (by omega)
    have h2 := c2.1 j hj
    dsimp only
    rw [h μ (600 + 4 * o i) (by omega), h μ (600 + 4 * o j) (by omega)]
    exact c2.2 i j hij hj
  · rw [e3] at hi
    have h1 := c2.1 i (by omega)
    rw [h μ (600 + 4 * o i) (by omega), h μ (600 + 4 * o i + 1) (by omega), h μ (600 + 4 * o i + 2) (by omega), h μ (600 + 4 * o i + 3) (by omega), h (c + 1) i (by omega), h (c + 2) i (by omega), h (c + 3) i (by omega), h (c + 4) i (by omega)]
    exact c3 i hi
  · rw [h μ (720 + 10 * a + b) (by omega), h (c + 6 + a) b (by omega)]
    exact c4 a ha b hb
theorem gsm_congr {g g' : Nat → Int} : ∀ n, (∀ k, k < n → g' k = g k) → gsm g' n = gsm g n
  | 0, _ => rfl
  | n + 1, h => by
    simp only [gsm]
    rw [gsm_congr n (fun k hk => h k (by omega)), h n (by omega)]
theorem P_dep {c μ : Nat} {σ σ' : gMm} (h : ∀ k j, ZP c μ k j → σ' k j = σ k j) (hw : WP (σ μ)) (hc : CP c (σ μ) σ) : WP (σ' μ) ∧ CP c (σ' μ) σ' := by
  unfold ZP at h
  obtain ⟨w1, w2, w3, w4⟩ := hw
  obtain ⟨c1, c2, c3, c4, c5⟩ := hc
  have e4 := h μ 4 (by omega)
  have e5 := h μ 5 (by omega)
  refine ⟨⟨by rw [e4]; exact w1, fun k hk => ?_, by rw [e5]; exact w3, fun k hk => ?_⟩, ⟨by rw [e4, h c 1 (by omega)]; exact c1, ?_, ?_, by rw [e5, h c 4 (by omega)]; exact c4, fun k hk => ?_⟩⟩
  · rw [e4] at hk
    rw [h μ (820 + 3 * k) (by omega), h μ (820 + 3 * k + 1) (by omega), h μ (820 + 3 * k + 2) (by omega)]
    exact w2 k hk
  · rw [e5] at hk
    rw [h μ (850 + 4 * k) (by omega), h μ (850 + 4 * k + 1) (by omega), h μ (850 + 4 * k + 2) (by omega), h μ (850 + 4 * k + 3) (by omega)]
    exact w4 k hk
  · rw [e4, h c 2 (by omega), c2]
    exact (gsm_congr _ (fun k hk => h μ _ (by omega))).symm
  · rw [e4, h c 3 (by omega), c3]
    refine (gsm_congr _ (fun k hk => ?_)).symm
    rw [h μ (820 + 3 * k + 1) (by omega), h μ (820 + 3 * k + 2) (by omega)]
  · rw [e5] at hk
    rw [h (c + 1) k (by omega)]
    unfold gspd
    rw [h μ (850 + 4 * k) (by omega), h μ (850 + 4 * k + 1) (by omega), h μ (850 + 4 * k + 2) (by omega), h μ (850 + 4 * k + 3) (by omega)]
    exact c5 k hk
theorem R_dep {c μ : Nat} {σ σ' : gMm} (h : ∀ k j, ZR c μ k j → σ' k j = σ k j) (h2 : ∀ k j, ZK μ k j → σ' k j = σ k j) (hn : σ μ 1 ≤ 40) (hw : WR (σ μ)) (hc : CR c (σ μ) σ) : WR (σ' μ) ∧ CR c (σ' μ) σ' := by
  unfold ZR at h
  unfold ZK at h2
  obtain ⟨w1, w2, w3⟩ := hw
  obtain ⟨c1, c2⟩ := hc
  have e6 := h μ 6 (by omega)
  have e1 := h2 μ 1 (by omega)
  refine ⟨⟨by rw [e6]; exact w1, fun i hi => ?_, fun i j hij hj => ?_⟩, ⟨by rw [e6, h c 1 (by omega)]; exact c1, fun i hi => ?_⟩⟩
  · rw [e6] at hi
    obtain ⟨q1, q2, q3⟩ := w2 i hi
    rw [h μ (920 + i) (by omega), e1]
    refine ⟨q1, q2, ?_⟩
    unfold gpt at q3 ⊢
    rw [h2 μ (120 + 12 * (σ μ (920 + i)).toNat + 0) (by omega)]
    exact q3
  · rw [e6] at hj
    rw [h μ (920 + i) (by omega), h μ (920 + j) (by omega)]
    exact w3 i j hij hj
  · rw [e6] at hi
    rw [h μ (920 + i) (by omega), h (c + 1) i (by omega)]
    exact c2 i hi
theorem M_dep {c μ : Nat} {σ σ' : gMm} (h : ∀ k j, ZM c μ k j → σ' k j = σ k j) (hw : WM (σ μ)) (hc : CM c (σ μ) σ) : WM (σ' μ) ∧ CM c (σ' μ) σ' := by
  unfold ZM at h
  unfold WM CM at *
  rw [h μ 7 (by omega), h μ 8 (by omega), h c 7 (by omega), h c 8 (by omega)]
  exact ⟨hw, hc⟩
