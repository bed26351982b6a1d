/-! Changes of the bridge; raise. -/
variable {L d : Nat} {σ σ1 : Nat → Nat → Int} {Q : Option gV → (Nat → Nat → Int) → Prop} {a0 a1 a2 a3 a4 a5 a6 a7 a8 a9 a10 a11 s0 s1 s2 s3 s4 s5 s6 s7 s8 s9 : Int} {l0 l1 l2 l3 l4 l5 l6 l7 l8 l9 l10 l11 t0 t1 t2 t3 t4 t5 t6 t7 t8 t9 : gV} {b0 b1 b2 b3 b4 b5 b6 b7 b8 b9 b10 b11 c0 c1 c2 c3 c4 c5 c6 c7 c8 c9 : Nat} {r : Option gV}
theorem wl {L d pc : Nat} {C : gCode} {Q : Option gV → gMm → Prop} {ls : List gV} {σ : gMm} (n : Nat) (F : Nat → List gV) (S : Nat → gMm) (h0 : ls = F 0) (h1 : σ = S 0) (hs : ∀ k, k < n → (∀ ls' σ', ls' = F (k + 1) → σ' = S (k + 1) → Wp L d C pc ls' [] σ' Q) → Wp L d C pc (F k) [] (S k) Q) (he : Wp L d C pc (F n) [] (S n) Q) : Wp L d C pc ls [] σ Q := by
  rw [h0, h1]
  exact wloopF n F S hs he
/-- the places of f that a fall, a month, a night change -/
def SBZ (j : Nat) : Prop := j = 11 ∨ j = 12 ∨ (20 ≤ j ∧ j < 56 ∧ j % 3 = 1) ∨ (120 ≤ j ∧ j < 600 ∧ (j % 12 = 8 ∨ j % 12 = 5))
def SB (f g : Nat → Int) : Prop := ∀ j, ¬ SBZ j → g j = f j
theorem SB_refl (f : Nat → Int) : SB f f := fun _ _ => rfl
theorem SB_trans {f g h : Nat → Int} (a : SB f g) (b : SB g h) : SB f h := fun j hj => (b j hj).trans (a j hj)
theorem SB_fu {f g : Nat → Int} {i : Nat} {v : Int} (a : SB f g) (b : SBZ i) : SB f (fu g i v) := fun j hj => by
  rw [fu_ne (fun e => hj (by rw [e]; exact b))]
  exact a j hj
def ZBr (b k _j : Nat) : Prop := b ≤ k ∧ k ≤ b + 48
theorem CB_agr {b : Nat} {f : Nat → Int} {σ σ' : gMm} (h : ∀ k j, (k = b ∧ 8 ≤ j ∧ j ≤ 13) ∨ (b + 1 ≤ k ∧ k ≤ b + 3) ∨ (b + 9 ≤ k ∧ k ≤ b + 48) → σ' k j = σ k j) (hw : WB f) (hc : CB b f σ) : CB b f σ' := by
  obtain ⟨w1, w2, -⟩ := hw
  obtain ⟨c1, c2, c3, c4, c5, c6, c7, c8⟩ := hc
  refine ⟨by rw [h _ _ (by omega)]; exact c1, by rw [h _ _ (by omega)]; exact c2, fun k hk => ?_, fun q hq => ?_, by rw [h _ _ (by omega)]; exact c5, by rw [h _ _ (by omega)]; exact c6, by rw [h _ _ (by omega)]; exact c7, by rw [h _ _ (by omega)]; exact c8⟩
  · rw [h (b + 1) _ (by omega), h (b + 2) _ (by omega), h (b + 3) _ (by omega)]
    exact c3 k hk
  · exact CPart_congr (fun j hj => h _ _ (by omega)) (fun j hj => rfl) (c4 q hq)
/-- a change of f outside the bridge -/
theorem CB_f {b : Nat} {f g : Nat → Int} {σ : gMm} (h : ∀ j, (j ≤ 1 ∨ 9 ≤ j ∧ j ≤ 12 ∨ 20 ≤ j ∧ j ≤ 55 ∨ 120 ≤ j ∧ j ≤ 599) → g j = f j) (hw : WB f) (hc : CB b f σ) : CB b g σ := by
  obtain ⟨w1, w2, -⟩ := hw
  obtain ⟨c1, c2, c3, c4, c5, c6, c7, c8⟩ := hc
  have g0 := h 0 (by omega)
  have g1 := h 1 (by omega)
  refine ⟨by rw [g0]; exact c1, by rw [g1]; exact c2, fun k hk => ?_, fun q hq => ?_, by rw [h _ (by omega)]; exact c5, by rw [h _ (by omega)]; exact c6, by rw [h _ (by omega)]; exact c7, by rw [h _ (by omega)]; exact c8⟩
  · rw [g0] at hk
    rw [h (20 + 3 * k) (by omega), h (20 + 3 * k + 1) (by omega), h (20 + 3 * k + 2) (by omega)]
    exact c3 k hk
  · rw [g1] at hq
    exact CPart_congr (fun j hj => rfl) (fun j hj => h _ (by omega)) (c4 q hq)
theorem WB_f {f g : Nat → Int} (h : ∀ j, (j ≤ 1 ∨ 9 ≤ j ∧ j ≤ 12 ∨ 20 ≤ j ∧ j ≤ 55 ∨ 120 ≤ j ∧ j ≤ 599) → g j = f j) (hw : WB f) : WB g := by
  obtain ⟨w1, w2, w3, w4, w5, w6, w7, w8⟩ := hw
  have g0 := h 0 (by omega)
  have g1 := h 1 (by omega)
  refine ⟨by rw [g0]; exact w1, by rw [g1]; exact w2, fun k hk => ?_, fun q hq => ?_, by rw [h _ (by omega)]; exact w5, by rw [h _ (by omega)]; exact w6, by rw [g0, h _ (by omega)]; exact w7, by rw [h _ (by omega)]; exact w8⟩
  · rw [g0] at hk
    rw [h (20 + 3 * k) (by omega), h (20 + 3 * k + 1) (by omega), h (20 + 3 * k + 2) (by omega)]
    exact w3 k hk
  · rw [g1] at hq
    rw [g0]
    exact WPart_congr (fun j hj => h _ (by omega)) (w4 q hq)
theorem CB_stand {b p : Nat} {f : Nat → Int} {σ : gMm} {v : Int} (hp : p < 40) (hw : WB f) (hc : CB b f σ) : CB b (fu f (120 + 12 * p + 8) v) (gupd σ (b + 9 + p) 10 v) := by
  obtain ⟨w1, w2, -⟩ := hw
  obtain ⟨c1, c2, c3, c4, c5, c6, c7, c8⟩ := hc
  have f0 : fu f (120 + 12 * p + 8) v 0 = f 0 := fu_ne (by omega)
  have f1 : fu f (120 + 12 * p + 8) v 1 = f 1 := fu_ne (by omega)
  refine ⟨by rw [f0, gupd_ne (by omega)]; exact c1, by rw [f1, gupd_ne (by omega)]; exact c2, fun k hk => ?_, fun q hq => ?_, by rw [fu_ne (by omega), gupd_ne (by omega)]; exact c5, by rw [fu_ne (by omega), gupd_ne (by omega)]; exact c6, by rw [fu_ne (by omega), gupd_ne (by omega)]; exact c7, by rw [fu_ne (by omega), gupd_ne (by omega)]; exact c8⟩
  · rw [f0] at hk
    simp (disch := omega) only [fu_ne, gupd_ne]
    exact c3 k hk
  · rw [f1] at hq
    by_cases e : q = p
    · subst e
      have z := c4 q hq
      unfold CPart gpt at z ⊢
      simp (disch := omega) only [fu_ne, fu_eq, gupd_ne, gupd_eq, true_and, and_true]
      omega
    · exact CPart_congr (fun j hj => gupd_ne (by omega)) (fun j hj => by unfold gpt; exact fu_ne (by omega)) (c4 q hq)
theorem CB_slack {b p : Nat} {f : Nat → Int} {σ : gMm} {v : Int} (hp : p < 40) (hw : WB f) (hc : CB b f σ) : CB b (fu f (120 + 12 * p + 5) v) (gupd σ (b + 9 + p) 5 v) := by
  obtain ⟨w1, w2, -⟩ := hw
  obtain ⟨c1, c2, c3, c4, c5, c6, c7, c8⟩ := hc
  have f0 : fu f (120 + 12 * p + 5) v 0 = f 0 := fu_ne (by omega)
  have f1 : fu f (120 + 12 * p + 5) v 1 = f 1 := fu_ne (by omega)
  refine ⟨by rw [f0, gupd_ne (by omega)]; exact c1, by rw [f1, gupd_ne (by omega)]; exact c2, fun k hk => ?_, fun q hq => ?_, by rw [fu_ne (by omega), gupd_ne (by omega)]; exact c5, by rw [fu_ne (by omega), gupd_ne (by omega)]; exact c6, by rw [fu_ne (by omega), gupd_ne (by omega)]; exact c7, by rw [fu_ne (by omega), gupd_ne (by omega)]; exact c8⟩
  · rw [f0] at hk
    simp (disch := omega) only [fu_ne, gupd_ne]
    exact c3 k hk
  · rw [f1] at hq
    by_cases e : q = p
    · subst e
      have z := c4 q hq
      unfold CPart gpt at z ⊢
      simp (disch := omega) only [fu_ne, fu_eq, gupd_ne, gupd_eq, true_and, and_true]
      omega
    · exact CPart_congr (fun j hj => gupd_ne (by omega)) (fun j hj => by unfold gpt; exact fu_ne (by omega)) (c4 q hq)
theorem WB_stand {p : Nat} {f : Nat → Int} {v : Int} (hp : p < 40) (hw : WB f) (hv : (v = 0 ∨ v = 1) ∧ (f (120 + 12 * p) = 4 → v = 0)) : WB (fu f (120 + 12 * p + 8) v) := by
  have hw0 := hw
  obtain ⟨w1, w2, w3, w4, w5, w6, w7, w8⟩ := hw
  have f0 : fu f (120 + 12 * p + 8) v 0 = f 0 := fu_ne (by omega)
  have f1 : fu f (120 + 12 * p + 8) v 1 = f 1 := fu_ne (by omega)
  refine ⟨by rw [f0]; exact w1, by rw [f1]; exact w2, fun k hk => ?_, fun q hq => ?_, by rw [fu_ne (by omega)]; exact w5, by rw [fu_ne (by omega)]; exact w6, by rw [f0, fu_ne (by omega)]; exact w7, by rw [fu_ne (by omega)]; exact w8⟩
  · rw [f0] at hk
    simp (disch := omega) only [fu_ne]
    exact w3 k hk
  · rw [f1] at hq
    rw [f0]
    by_cases e : q = p
    · subst e
      have z := WBp hw0 hq
      unfold WPart gpt
      simp (disch := omega) only [fu_ne, fu_eq, Nat.add_zero]
      omega
    · exact WPart_congr (fun j hj => by unfold gpt; exact fu_ne (by omega)) (w4 q hq)
theorem WB_slack {p : Nat} {f : Nat → Int} {v : Int} (hp : p < 40) (hw : WB f) (hv : (0 ≤ v ∧ v ≤ 99) ∧ (f (120 + 12 * p) = 4 → v = 0)) : WB (fu f (120 + 12 * p + 5) v) := by
  have hw0 := hw
  obtain ⟨w1, w2, w3, w4, w5, w6, w7, w8⟩ := hw
  have f0 : fu f (120 + 12 * p + 5) v 0 = f 0 := fu_ne (by omega)
  have f1 : fu f (120 + 12 * p + 5) v 1 = f 1 := fu_ne (by omega)
  refine ⟨by rw [f0]; exact w1, by rw [f1]; exact w2, fun k hk => ?_, fun q hq => ?_, by rw [fu_ne (by omega)]; exact w5, by rw [fu_ne (by omega)]; exact w6, by rw [f0, fu_ne (by omega)]; exact w7, by rw [fu_ne (by omega)]; exact w8⟩
  · rw [f0] at hk
    simp (disch := omega) only [fu_ne]
    exact w3 k hk
  · rw [f1] at hq
    rw [f0]
    by_cases e : q = p
    · subst e
      have z := WBp hw0 hq
      unfold WPart gpt
      simp (disch := omega) only [fu_ne, fu_eq, Nat.add_zero]
      omega
    · exact WPart_congr (fun j hj => by unfold gpt; exact fu_ne (by omega)) (w4 q hq)
theorem CB_down {b k : Nat} {f : Nat → Int} {σ : gMm} {v : Int} (hk : k < 12) (hw : WB f) (hc : CB b f σ) : CB b (fu f (20 + 3 * k + 2) v) (gupd σ (b + 3) k v) := by
  obtain ⟨w1, w2, -⟩ := hw
  obtain ⟨c1, c2, c3, c4, c5, c6, c7, c8⟩ := hc
  have f0 : fu f (20 + 3 * k + 2) v 0 = f 0 := fu_ne (by omega)
  have f1 : fu f (20 + 3 * k + 2) v 1 = f 1 := fu_ne (by omega)
  refine ⟨by rw [f0, gupd_ne (by omega)]; exact c1, by rw [f1, gupd_ne (by omega)]; exact c2, fun q hq => ?_, fun q hq => ?_, by rw [fu_ne (by omega), gupd_ne (by omega)]; exact c5, by rw [fu_ne (by omega), gupd_ne (by omega)]; exact c6, by rw [fu_ne (by omega), gupd_ne (by omega)]; exact c7, by rw [fu_ne (by omega), gupd_ne (by omega)]; exact c8⟩
  · rw [f0] at hq
    by_cases e : q = k
    · subst e
      have z := c3 q hq
      simp (disch := omega) only [fu_ne, fu_eq, gupd_ne, gupd_eq, and_true]
      exact ⟨z.1, z.2.1⟩
    · simp (disch := omega) only [fu_ne, gupd_ne]
      exact c3 q hq
  · rw [f1] at hq
    exact CPart_congr (fun j hj => gupd_ne (by omega)) (fun j hj => by unfold gpt; exact fu_ne (by omega)) (c4 q hq)
theorem WB_down {k : Nat} {f : Nat → Int} {v : Int} (hk : k < 12) (hw : WB f) (hv : v = 0 ∨ v = 1) : WB (fu f (20 + 3 * k + 2) v) := by
  obtain ⟨w1, w2, w3, w4, w5, w6, w7, w8⟩ := hw
  have f0 : fu f (20 + 3 * k + 2) v 0 = f 0 := fu_ne (by omega)
  have f1 : fu f (20 + 3 * k + 2) v 1 = f 1 := fu_ne (by omega)
  refine ⟨by rw [f0]; exact w1, by rw [f1]; exact w2, fun q hq => ?_, fun q hq => ?_, by rw [fu_ne (by omega)]; exact w5, by rw [fu_ne (by omega)]; exact w6, by rw [f0, fu_ne (by omega)]; exact w7, by rw [fu_ne (by omega)]; exact w8⟩
  · rw [f0] at hq
    have z := w3 q hq
    by_cases e : q = k
    · subst e
      simp (disch := omega) only [fu_ne, fu_eq]
      exact ⟨z.1, z.2.1, hv⟩
    · simp (disch := omega) only [fu_ne]
      exact z
  · rw [f1] at hq
    rw [f0]
    exact WPart_congr (fun j hj => by unfold gpt; exact fu_ne (by omega)) (w4 q hq)
/-- the train: at t (none: -1), down or not -/
def ftr (f : Nat → Int) (t v : Int) : Nat → Int := fu (fu f 11 t) 12 v
theorem CB_train {b : Nat} {f : Nat → Int} {σ : gMm} {t t' v : Int} (ht : CNone t' t) (hw : WB f) (hc : CB b f σ) : CB b (ftr f t v) (gupd (gupd σ b 12 t') b 13 v) := by
  obtain ⟨w1, w2, -⟩ := hw
  obtain ⟨c1, c2, c3, c4, c5, c6, c7, c8⟩ := hc
  unfold ftr
  have f0 : fu (fu f 11 t) 12 v 0 = f 0 := by rw [fu_ne (by omega), fu_ne (by omega)]
  have f1 : fu (fu f 11 t) 12 v 1 = f 1 := by rw [fu_ne (by omega), fu_ne (by omega)]
  refine ⟨?_, ?_, fun q hq => ?_, fun q hq => ?_, ?_, ?_, ?_, ?_⟩
  · rw [f0, gupd_ne (by omega), gupd_ne (by omega)]; exact c1
  · rw [f1, gupd_ne (by omega), gupd_ne (by omega)]; exact c2
  · rw [f0] at hq
    simp (disch := omega) only [fu_ne, gupd_ne]
    exact c3 q hq
  · rw [f1] at hq
    exact CPart_congr (fun j hj => by rw [gupd_ne (by omega), gupd_ne (by omega)]) (fun j hj => by unfold gpt; rw [fu_ne (by omega), fu_ne (by omega)]) (c4 q hq)
  · simp (disch := omega) only [fu_ne, gupd_ne]; exact c5
  · simp (disch := omega) only [fu_ne, gupd_ne]; exact c6
  · simp (disch := omega) only [fu_ne, fu_eq, gupd_ne, gupd_eq]; exact ht
  · rw [gupd_eq, fu_eq]
theorem WB_train {f : Nat → Int} {t v : Int} (hw : WB f) (ht : t = -1 ∨ 0 ≤ t ∧ t < f 0) (hv : v = 0 ∨ v = 1) : WB (ftr f t v) := by
  obtain ⟨w1, w2, w3, w4, w5, w6, w7, w8⟩ := hw
  unfold ftr
  have f0 : fu (fu f 11 t) 12 v 0 = f 0 := by rw [fu_ne (by omega), fu_ne (by omega)]
  have f1 : fu (fu f 11 t) 12 v 1 = f 1 := by rw [fu_ne (by omega), fu_ne (by omega)]
  refine ⟨by rw [f0]; exact w1, by rw [f1]; exact w2, fun q hq => ?_, fun q hq => ?_, ?_, ?_, ?_, ?_⟩
  · rw [f0] at hq
    simp (disch := omega) only [fu_ne]
    exact w3 q hq
  · rw [f1] at hq
    rw [f0]
    exact WPart_congr (fun j hj => by unfold gpt; rw [fu_ne (by omega), fu_ne (by omega)]) (w4 q hq)
  · simp (disch := omega) only [fu_ne]; exact w5
  · simp (disch := omega) only [fu_ne]; exact w6
  · rw [f0]; simp (disch := omega) only [fu_ne, fu_eq]; exact ht
  · rw [fu_eq]; exact hv
theorem SB_train {f g : Nat → Int} {t v : Int} (h : SB f g) : SB f (ftr g t v) := SB_fu (SB_fu h (by unfold SBZ; omega)) (by unfold SBZ; omega)
/-- steps one after another -/
def git (s : Nat → (Nat → Int) → (Nat → Int)) : Nat → (Nat → Int) → (Nat → Int)
  | 0, f => f
  | n + 1, f => s n (git s n f)
theorem git_inv {s : Nat → (Nat → Int) → (Nat → Int)} {f : Nat → Int} {P : (Nat → Int) → Prop} : ∀ (n : Nat), P f → (∀ k g, k < n → P g → P (s k g)) → P (git s n f)
  | 0, h, _ => h
  | n + 1, h, hs => hs n _ (by omega) (git_inv n h (fun k g hk => hs k g (by omega)))
def gss (p : Nat) (g : Nat → Int) : Nat → Int := fu g (120 + 12 * p + 8) (if g (120 + 12 * p) = 4 then 0 else 1)
def gsd (k : Nat) (g : Nat → Int) : Nat → Int := fu g (20 + 3 * k + 2) 0
def graise (f : Nat → Int) : Nat → Int := ftr (git gsd (f 0).toNat (git gss (f 1).toNat f)) (-1) 0
theorem gss_ok {f : Nat → Int} (hw : WB f) (k : Nat) (hk : (k : Int) ≤ f 1) : WB (git gss k f) ∧ SB f (git gss k f) := by
  have w2 := hw.2.1
  refine git_inv (P := fun g => WB g ∧ SB f g) k ⟨hw, SB_refl f⟩ (fun p g hp h => ?_)
  refine ⟨WB_stand (by omega) h.1 ?_, SB_fu h.2 (by unfold SBZ; omega)⟩
  split <;> omega
theorem gsd_ok {f g : Nat → Int} (hw : WB g) (hs : SB f g) (k : Nat) (hk : (k : Int) ≤ f 0) : WB (git gsd k g) ∧ SB f (git gsd k g) := by
  have w1 := hw.1
  have e0 := hs 0 (by unfold SBZ; omega)
  exact git_inv (P := fun g => WB g ∧ SB f g) k ⟨hw, hs⟩ (fun p g hp h => ⟨WB_down (by omega) h.1 (Or.inl rfl), SB_fu h.2 (by unfold SBZ; omega)⟩)
theorem graise_ok {f : Nat → Int} (hw : WB f) : WB (graise f) ∧ SB f (graise f) := by
  have w1 := hw.1
  have w2 := hw.2.1
  obtain ⟨a1, a2⟩ := gss_ok hw (f 1).toNat (by omega)
  obtain ⟨b1, b2⟩ := gsd_ok a1 a2 (f 0).toNat (by omega)
  exact ⟨WB_train b1 (Or.inl rfl) (Or.inl rfl), SB_train b2⟩
/-- cells that no piece of the invariant rests on -/
def ZFr (k j : Nat) : Prop := (34 ≤ k ∧ k ≤ 37) ∨ k = 96 ∨ (k = 125 ∧ j = 4) ∨ k = 127 ∨ k = 128 ∨ (230 ≤ k ∧ k ≤ 278) ∨ (k = 279 ∧ j ≠ 1) ∨ k = 281 ∨ (k = 293 ∧ j ≠ 3 ∧ j ≠ 9 ∧ j ≠ 27) ∨ k = 296 ∨ k = 300 ∨ (302 ≤ k ∧ k ≤ 306) ∨ k = 308
theorem Inv_free {σ σ' : gMm} (hI : Inv σ) (hA : Agr σ σ' ZFr) : Inv σ' := by
  unfold ZFr at hA
  refine Inv_mk  hI (hA) (Or.inl (fun k j hz hp => by unfold ZB at hz; omega)) (Or.inl (fun k j hz hp => by unfold ZT at hz; omega)) (Or.inl (fun k j hz hp => by unfold ZG at hz; omega)) (Or.inl (fun k j hz hp => by unfold ZS at hz; omega)) (Or.inl (fun k j hz hp => by unfold ZW at hz; omega)) (Or.inl (fun k j hz hp => by unfold ZP at hz; omega)) (Or.inl (fun k j hz hp => by unfold ZR ZK at hz; omega)) (Or.inl (fun k j hz hp => by unfold ZM at hz; omega)) (Or.inl (fun k j hz hp => by unfold ZTape at hz; omega)) (Or.inl (fun k j hz hp => by unfold ZTest at hz; omega)) (Or.inl (fun k j hz hp => by unfold ZWait at hz; omega)) (Or.inl (fun k j hz hp => by unfold ZImg at hz; omega))
theorem Inv_bridge {σ σ' : gMm} (hI : Inv σ) (hA : Agr σ σ' (fun k j => (29 ≤ k ∧ k ≤ 77) ∨ ZFr k j ∨ (k = 294 ∧ SBZ j))) (hw : WB (σ' 294)) (hc : CB 29 (σ' 294) σ') : Inv σ' := by
  unfold ZFr SBZ at hA
  refine Inv_mk  hI (hA) (Or.inr ?_) (Or.inl (fun k j hz hp => by unfold ZT at hz; omega)) (Or.inl (fun k j hz hp => by unfold ZG at hz; omega)) (Or.inl (fun k j hz hp => by unfold ZS at hz; omega)) (Or.inl (fun k j hz hp => by unfold ZW at hz; omega)) (Or.inl (fun k j hz hp => by unfold ZP at hz; omega)) (Or.inl (fun k j hz hp => by unfold ZR ZK at hz; omega)) (Or.inl (fun k j hz hp => by unfold ZM at hz; omega)) (Or.inl (fun k j hz hp => by unfold ZTape at hz; omega)) (Or.inl (fun k j hz hp => by unfold ZTest at hz; omega)) (Or.inl (fun k j hz hp => by unfold ZWait at hz; omega)) (Or.inl (fun k j hz hp => by unfold ZImg at hz; omega))
  exact ⟨hw, hc⟩
theorem r_B_standUp_0 : Wp L d k_B_standUp 0 [l0, l1] [] σ Q ↔ Wp L d k_B_standUp 1 [l0, l1] [vI 0] σ Q := wp_push rfl
theorem r_B_standUp_1 : Wp L d k_B_standUp 1 [vR b0, l1] [vI s0] σ Q ↔ Wp L d k_B_standUp 2 [vR b0, vI s0] [] σ Q := wp_istore (i := 1) (ls := [vR b0, l1]) rfl rfl
theorem r_B_standUp_2 : Wp L d k_B_standUp 2 [l0, vI a1] [] σ Q ↔ Wp L d k_B_standUp 3 [l0, vI a1] [vI a1] σ Q := wp_iload rfl rfl
theorem r_B_standUp_3 : Wp L d k_B_standUp 3 [vR b0, l1] [vI s0] σ Q ↔ Wp L d k_B_standUp 4 [vR b0, l1] [vR b0, vI s0] σ Q := wp_aload rfl rfl
theorem r_B_standUp_4 (h : gK c1 = 1) : Wp L d k_B_standUp 4 [l0, l1] [vR c1, vI s0] σ Q ↔ Wp L d k_B_standUp 7 [l0, l1] [vI (σ c1 9), vI s0] σ Q := wp_getI (c := 265) rfl rfl rfl rfl h
theorem r_B_standUp_7 : Wp L d k_B_standUp 7 [l0, l1] [vI s1, vI s0] σ Q ↔ (if s1 ≤ s0 then Wp L d k_B_standUp 43 [l0, l1] [] σ Q else Wp L d k_B_standUp 10 [l0, l1] [] σ Q) := wp_cmp_ge rfl
theorem r_B_standUp_10 : Wp L d k_B_standUp 10 [vR b0, l1] [] σ Q ↔ Wp L d k_B_standUp 11 [vR b0, l1] [vR b0] σ Q := wp_aload rfl rfl
theorem r_B_standUp_11 (h : gK c0 = 1) : Wp L d k_B_standUp 11 [l0, l1] [vR c0] σ Q ↔ Wp L d k_B_standUp 14 [l0, l1] [vR (gq c0 3)] σ Q := wp_getR (c := 387) rfl rfl rfl rfl rfl h
theorem r_B_standUp_14 : Wp L d k_B_standUp 14 [l0, vI a1] [vR c0] σ Q ↔ Wp L d k_B_standUp 15 [l0, vI a1] [vI a1, vR c0] σ Q := wp_iload rfl rfl
theorem r_B_standUp_15 (h : gK c0 = 102 ∨ gK c0 = 103) (hx : 0 ≤ s1 ∧ s1 < gN c0) : Wp L d k_B_standUp 15 [l0, l1] [vI s1, vR c0] σ Q ↔ Wp L d k_B_standUp 16 [l0, l1] [vR (gq c0 s1.toNat)] σ Q := wp_aald rfl h hx
theorem r_B_standUp_16 : Wp L d k_B_standUp 16 [vR b0, l1] [vR c0] σ Q ↔ Wp L d k_B_standUp 17 [vR b0, l1] [vR b0, vR c0] σ Q := wp_aload rfl rfl
theorem r_B_standUp_17 (h : gK c1 = 1) : Wp L d k_B_standUp 17 [l0, l1] [vR c1, vR c0] σ Q ↔ Wp L d k_B_standUp 20 [l0, l1] [vR (gq c1 3), vR c0] σ Q := wp_getR (c := 387) rfl rfl rfl rfl rfl h
theorem r_B_standUp_20 : Wp L d k_B_standUp 20 [l0, vI a1] [vR c1, vR c0] σ Q ↔ Wp L d k_B_standUp 21 [l0, vI a1] [vI a1, vR c1, vR c0] σ Q := wp_iload rfl rfl
theorem r_B_standUp_21 (h : gK c1 = 102 ∨ gK c1 = 103) (hx : 0 ≤ s2 ∧ s2 < gN c1) : Wp L d k_B_standUp 21 [l0, l1] [vI s2, vR c1, vR c0] σ Q ↔ Wp L d k_B_standUp 22 [l0, l1] [vR (gq c1 s2.toNat), vR c0] σ Q := wp_aald rfl h hx
theorem r_B_standUp_22 (h : gK c1 = 4) : Wp L d k_B_standUp 22 [l0, l1] [vR c1, vR c0] σ Q ↔ Wp L d k_B_standUp 25 [l0, l1] [vI (σ c1 0), vR c0] σ Q := wp_getI (c := 1024) rfl rfl rfl rfl h
theorem r_B_standUp_25 : Wp L d k_B_standUp 25 [l0, l1] [vI s1, vR c0] σ Q ↔ Wp L d k_B_standUp 26 [l0, l1] [vI 4, vI s1, vR c0] σ Q := wp_push rfl
theorem r_B_standUp_26 : Wp L d k_B_standUp 26 [l0, l1] [vI s2, vI s1, vR c0] σ Q ↔ (if s1 = s2 then Wp L d k_B_standUp 33 [l0, l1] [vR c0] σ Q else Wp L d k_B_standUp 29 [l0, l1] [vR c0] σ Q) := wp_cmp_eq rfl
theorem r_B_standUp_29 : Wp L d k_B_standUp 29 [l0, l1] [vR c0] σ Q ↔ Wp L d k_B_standUp 30 [l0, l1] [vI 1, vR c0] σ Q := wp_push rfl
theorem r_B_standUp_30 : Wp L d k_B_standUp 30 [l0, l1] [vI s1, vR c0] σ Q ↔ Wp L d k_B_standUp 34 [l0, l1] [vI s1, vR c0] σ Q := wp_goto rfl
theorem r_B_standUp_33 : Wp L d k_B_standUp 33 [l0, l1] [vR c0] σ Q ↔ Wp L d k_B_standUp 34 [l0, l1] [vI 0, vR c0] σ Q := wp_push rfl
theorem r_B_standUp_34 (h : gK c0 = 4) (hx : s1 = 0 ∨ s1 = 1) : Wp L d k_B_standUp 34 [l0, l1] [vI s1, vR c0] σ Q ↔ Wp L d k_B_standUp 37 [l0, l1] [] (gupd σ c0 10 s1) Q := wp_putZ (c := 1098) rfl rfl rfl rfl h hx
theorem r_B_standUp_37 : Wp L d k_B_standUp 37 [vR b0, vI a1] [] σ Q ↔ Wp L d k_B_standUp 40 [vR b0, vI (w32 (a1 + 1))] [] σ Q := wp_iinc (i := 1) (ls := [vR b0, vI a1]) rfl rfl
theorem r_B_standUp_40 : Wp L d k_B_standUp 40 [l0, l1] [] σ Q ↔ Wp L d k_B_standUp 2 [l0, l1] [] σ Q := wp_goto rfl
theorem r_B_standUp_43 : Wp L d k_B_standUp 43 [l0, l1] [] σ Q ↔ Wp L d k_B_standUp 44 [l0, l1] [vI 0] σ Q := wp_push rfl
theorem r_B_standUp_44 : Wp L d k_B_standUp 44 [vR b0, l1] [vI s0] σ Q ↔ Wp L d k_B_standUp 45 [vR b0, vI s0] [] σ Q := wp_istore (i := 1) (ls := [vR b0, l1]) rfl rfl
theorem r_B_standUp_45 : Wp L d k_B_standUp 45 [l0, vI a1] [] σ Q ↔ Wp L d k_B_standUp 46 [l0, vI a1] [vI a1] σ Q := wp_iload rfl rfl
theorem r_B_standUp_46 : Wp L d k_B_standUp 46 [vR b0, l1] [vI s0] σ Q ↔ Wp L d k_B_standUp 47 [vR b0, l1] [vR b0, vI s0] σ Q := wp_aload rfl rfl
theorem r_B_standUp_47 (h : gK c1 = 1) : Wp L d k_B_standUp 47 [l0, l1] [vR c1, vI s0] σ Q ↔ Wp L d k_B_standUp 50 [l0, l1] [vI (σ c1 8), vI s0] σ Q := wp_getI (c := 264) rfl rfl rfl rfl h
theorem r_B_standUp_50 : Wp L d k_B_standUp 50 [l0, l1] [vI s1, vI s0] σ Q ↔ (if s1 ≤ s0 then Wp L d k_B_standUp 66 [l0, l1] [] σ Q else Wp L d k_B_standUp 53 [l0, l1] [] σ Q) := wp_cmp_ge rfl
theorem r_B_standUp_53 : Wp L d k_B_standUp 53 [vR b0, l1] [] σ Q ↔ Wp L d k_B_standUp 54 [vR b0, l1] [vR b0] σ Q := wp_aload rfl rfl
theorem r_B_standUp_54 (h : gK c0 = 1) : Wp L d k_B_standUp 54 [l0, l1] [vR c0] σ Q ↔ Wp L d k_B_standUp 57 [l0, l1] [vR (gq c0 2)] σ Q := wp_getR (c := 386) rfl rfl rfl rfl rfl h
theorem r_B_standUp_57 : Wp L d k_B_standUp 57 [l0, vI a1] [vR c0] σ Q ↔ Wp L d k_B_standUp 58 [l0, vI a1] [vI a1, vR c0] σ Q := wp_iload rfl rfl
theorem r_B_standUp_58 : Wp L d k_B_standUp 58 [l0, l1] [vI s1, vR c0] σ Q ↔ Wp L d k_B_standUp 59 [l0, l1] [vI 0, vI s1, vR c0] σ Q := wp_push rfl
theorem r_B_standUp_59 (h : gK c0 = 101) (hx : 0 ≤ s1 ∧ s1 < gN c0) (hy : s2 = 0 ∨ s2 = 1) : Wp L d k_B_standUp 59 [l0, l1] [vI s2, vI s1, vR c0] σ Q ↔ Wp L d k_B_standUp 60 [l0, l1] [] (gupd σ c0 s1.toNat s2) Q := wp_bast rfl h hx hy
theorem r_B_standUp_60 : Wp L d k_B_standUp 60 [vR b0, vI a1] [] σ Q ↔ Wp L d k_B_standUp 63 [vR b0, vI (w32 (a1 + 1))] [] σ Q := wp_iinc (i := 1) (ls := [vR b0, vI a1]) rfl rfl
theorem r_B_standUp_63 : Wp L d k_B_standUp 63 [l0, l1] [] σ Q ↔ Wp L d k_B_standUp 45 [l0, l1] [] σ Q := wp_goto rfl
theorem r_B_standUp_66 : Wp L d k_B_standUp 66 [vR b0, l1] [] σ Q ↔ Wp L d k_B_standUp 67 [vR b0, l1] [vR b0] σ Q := wp_aload rfl rfl
theorem r_B_standUp_67 : Wp L d k_B_standUp 67 [l0, l1] [vR c0] σ Q ↔ Wp L d k_B_standUp 69 [l0, l1] [vI (-1000000005), vR c0] σ Q := wp_push rfl
theorem r_B_standUp_72 : Wp L d k_B_standUp 72 [l0, l1] [vI s0] σ Q ↔ Wp L d k_B_standUp 73 [l0, l1] [] σ Q := wp_pop rfl
theorem r_B_standUp_73 : Wp L d k_B_standUp 73 [l0, l1] [] σ Q ↔ Q none σ := wp_vret rfl
theorem r_B_standUp_69 (hk : gK c0 = 1) : Wp L (d + 1) k_B_standUp 69 [l0, l1] [vI s1, vR c0] σ Q ↔ Wp L (d + 1) k_B_standUp 72 [l0, l1] [vI (σ c0 12)] (gupd (gupd σ c0 12 s1) c0 13 0) Q := wp_callR (d := d + 0) (as := [vR c0, vI s1]) (rest := []) rfl rfl rfl rfl rfl rfl rfl (grecv_k (by rw [hk]) rfl) (sp_B_placeTrain0 hk)
theorem sp_B_standUp {b : Nat} {f : Nat → Int}  (hB : BR b) (hw : WB f) (hc : CB b f σ) : ∃ σ', Run L (d + 1) 95 [vR b] σ none σ' ∧ CB b (graise f) σ' ∧ Agr σ σ' (ZBr b) := by
  refine Run_ex (C' := k_B_standUp) rfl ?_
  show Wp L (d + 1) k_B_standUp 0 [vR b, vU] [] σ _
  obtain ⟨⟨K0, q0, q1, q2, q3, q4, q5, q6, q7⟩, ⟨K1, K2, K3, K4, K5, K6, K7, K8⟩, ⟨N1, N2, N3, N4, N5, N6, N7, N8⟩, QP, KP⟩ := hB
  have w1 := hw.1
  have w2 := hw.2.1
  have c1 := hc.1
  have c2 := hc.2.1
  simp only [r_B_standUp_0, r_B_standUp_1, r_B_standUp_3, r_B_standUp_4, r_B_standUp_7, r_B_standUp_10, r_B_standUp_11, r_B_standUp_14, r_B_standUp_15, r_B_standUp_16, r_B_standUp_17, r_B_standUp_20, r_B_standUp_21, r_B_standUp_22, r_B_standUp_25, r_B_standUp_26, r_B_standUp_29, r_B_standUp_30, r_B_standUp_33, r_B_standUp_34, r_B_standUp_37, r_B_standUp_40, r_B_standUp_43, r_B_standUp_44, r_B_standUp_46, r_B_standUp_47, r_B_standUp_50, r_B_standUp_53, r_B_standUp_54, r_B_standUp_57, r_B_standUp_58, r_B_standUp_59, r_B_standUp_60, r_B_standUp_63, r_B_standUp_66, r_B_standUp_67, r_B_standUp_69, r_B_standUp_72, r_B_standUp_73]
  refine wloop (n := (f 1).toNat) (I := fun k ls τ => ls = [vR b, vI (k : Int)] ∧ CB b (git gss k f) τ ∧ Agr σ τ (ZBr b)) (fun k ls τ hk hi hq => ?_) (fun ls τ hi => ?_) (f 1).toNat 0 (by omega) _ _ ⟨rfl, hc, Agr_refl _ _⟩
  · obtain ⟨rfl, hc1, hA⟩ := hi
    obtain ⟨hw1, hs1⟩ := gss_ok hw k (by omega)
    have e0 := hs1 0 (by unfold SBZ; omega)
    have e1 := hs1 1 (by unfold SBZ; omega)
    have d2 := hc1.2.1
    have p := CBp hc1 (p := k) (by omega)
    have kp := KP k (by omega)
    rw [r_B_standUp_2]
    by_cases e : git gss k f (120 + 12 * k) = 4
    · simp (disch := first | assumption | exact gb_01 _ | omega) only [r_B_standUp_0, r_B_standUp_1, r_B_standUp_3, r_B_standUp_4, r_B_standUp_7, r_B_standUp_10, r_B_standUp_11, r_B_standUp_14, r_B_standUp_15, r_B_standUp_16, r_B_standUp_17, r_B_standUp_20, r_B_standUp_21, r_B_standUp_22, r_B_standUp_25, r_B_standUp_26, r_B_standUp_29, r_B_standUp_30, r_B_standUp_33, r_B_standUp_34, r_B_standUp_37, r_B_standUp_40, r_B_standUp_43, r_B_standUp_44, r_B_standUp_46, r_B_standUp_47, r_B_standUp_50, r_B_standUp_53, r_B_standUp_54, r_B_standUp_57, r_B_standUp_58, r_B_standUp_59, r_B_standUp_60, r_B_standUp_63, r_B_standUp_66, r_B_standUp_67, r_B_standUp_69, r_B_standUp_72, r_B_standUp_73, q0, q1, q2, q3, q4, q5, q6, q7, QP, w32_gb, w32i, tn_add, tn_mul, Int.toNat_natCast, Int.toNat_zero, Int.reduceLE, Int.reduceLT, Int.reduceEq, Int.reduceNe, gb_T, gb_F, Int.reduceToNat, eq_self, true_or, or_true, and_true, true_and, and_self, ↓ite_gb0, ↓ite_gbn, ↓if_pos, ↓if_neg, if_true, if_false, not_true_eq_false, not_false_eq_true, gb_ne0, gb_eq0]
      refine hq _ _ ⟨by simp only [List.cons.injEq, vI_inj, vR_inj, and_true, true_and]; omega, ?_, Agr_upd hA (by unfold ZBr; omega)⟩
      have := CB_stand (v := 0) (p := k) (by omega) hw1 hc1
      simp only [git, gss, if_pos e]
      exact this
    · simp (disch := first | assumption | exact gb_01 _ | omega) only [r_B_standUp_0, r_B_standUp_1, r_B_standUp_3, r_B_standUp_4, r_B_standUp_7, r_B_standUp_10, r_B_standUp_11, r_B_standUp_14, r_B_standUp_15, r_B_standUp_16, r_B_standUp_17, r_B_standUp_20, r_B_standUp_21, r_B_standUp_22, r_B_standUp_25, r_B_standUp_26, r_B_standUp_29, r_B_standUp_30, r_B_standUp_33, r_B_standUp_34, r_B_standUp_37, r_B_standUp_40, r_B_standUp_43, r_B_standUp_44, r_B_standUp_46, r_B_standUp_47, r_B_standUp_50, r_B_standUp_53, r_B_standUp_54, r_B_standUp_57, r_B_standUp_58, r_B_standUp_59, r_B_standUp_60, r_B_standUp_63, r_B_standUp_66, r_B_standUp_67, r_B_standUp_69, r_B_standUp_72, r_B_standUp_73, q0, q1, q2, q3, q4, q5, q6, q7, QP, w32_gb, w32i, tn_add, tn_mul, Int.toNat_natCast, Int.toNat_zero, Int.reduceLE, Int.reduceLT, Int.reduceEq, Int.reduceNe, gb_T, gb_F, Int.reduceToNat, eq_self, true_or, or_true, and_true, true_and, and_self, ↓ite_gb0, ↓ite_gbn, ↓if_pos, ↓if_neg, if_true, if_false, not_true_eq_false, not_false_eq_true, gb_ne0, gb_eq0]
      refine hq _ _ ⟨by simp only [List.cons.injEq, vI_inj, vR_inj, and_true, true_and]; omega, ?_, Agr_upd hA (by unfold ZBr; omega)⟩
      have := CB_stand (v := 1) (p := k) (by omega) hw1 hc1
      simp only [git, gss, if_neg e]
      exact this
  · obtain ⟨rfl, hc1, hA⟩ := hi
    obtain ⟨hw1, hs1⟩ := gss_ok hw (f 1).toNat (by omega)
    have e0 := hs1 0 (by unfold SBZ; omega)
    have e1 := hs1 1 (by unfold SBZ; omega)
    have d2 := hc1.2.1
    rw [r_B_standUp_2]
    simp (disch := first | assumption | exact gb_01 _ | omega) only [r_B_standUp_0, r_B_standUp_1, r_B_standUp_3, r_B_standUp_4, r_B_standUp_7, r_B_standUp_10, r_B_standUp_11, r_B_standUp_14, r_B_standUp_15, r_B_standUp_16, r_B_standUp_17, r_B_standUp_20, r_B_standUp_21, r_B_standUp_22, r_B_standUp_25, r_B_standUp_26, r_B_standUp_29, r_B_standUp_30, r_B_standUp_33, r_B_standUp_34, r_B_standUp_37, r_B_standUp_40, r_B_standUp_43, r_B_standUp_44, r_B_standUp_46, r_B_standUp_47, r_B_standUp_50, r_B_standUp_53, r_B_standUp_54, r_B_standUp_57, r_B_standUp_58, r_B_standUp_59, r_B_standUp_60, r_B_standUp_63, r_B_standUp_66, r_B_standUp_67, r_B_standUp_69, r_B_standUp_72, r_B_standUp_73, q0, q1, q2, q3, q4, q5, q6, q7, QP, w32_gb, w32i, tn_add, tn_mul, Int.toNat_natCast, Int.toNat_zero, Int.reduceLE, Int.reduceLT, Int.reduceEq, Int.reduceNe, gb_T, gb_F, Int.reduceToNat, eq_self, true_or, or_true, and_true, true_and, and_self, ↓ite_gb0, ↓ite_gbn, ↓if_pos, ↓if_neg, if_true, if_false, not_true_eq_false, not_false_eq_true, gb_ne0, gb_eq0]
    refine wloop (n := (f 0).toNat) (I := fun k ls τ => ls = [vR b, vI (k : Int)] ∧ CB b (git gsd k (git gss (f 1).toNat f)) τ ∧ Agr σ τ (ZBr b)) (fun k ls τ hk hi hq => ?_) (fun ls τ hi => ?_) (f 0).toNat 0 (by omega) _ _ ⟨rfl, hc1, hA⟩
    · obtain ⟨rfl, hc2, hA⟩ := hi
      obtain ⟨hw2, hs2⟩ := gsd_ok hw1 hs1 k (by omega)
      have e2 := hs2 0 (by unfold SBZ; omega)
      have d1 := hc2.1
      rw [r_B_standUp_45]
      simp (disch := first | assumption | exact gb_01 _ | omega) only [r_B_standUp_0, r_B_standUp_1, r_B_standUp_3, r_B_standUp_4, r_B_standUp_7, r_B_standUp_10, r_B_standUp_11, r_B_standUp_14, r_B_standUp_15, r_B_standUp_16, r_B_standUp_17, r_B_standUp_20, r_B_standUp_21, r_B_standUp_22, r_B_standUp_25, r_B_standUp_26, r_B_standUp_29, r_B_standUp_30, r_B_standUp_33, r_B_standUp_34, r_B_standUp_37, r_B_standUp_40, r_B_standUp_43, r_B_standUp_44, r_B_standUp_46, r_B_standUp_47, r_B_standUp_50, r_B_standUp_53, r_B_standUp_54, r_B_standUp_57, r_B_standUp_58, r_B_standUp_59, r_B_standUp_60, r_B_standUp_63, r_B_standUp_66, r_B_standUp_67, r_B_standUp_69, r_B_standUp_72, r_B_standUp_73, q0, q1, q2, q3, q4, q5, q6, q7, QP, w32_gb, w32i, tn_add, tn_mul, Int.toNat_natCast, Int.toNat_zero, Int.reduceLE, Int.reduceLT, Int.reduceEq, Int.reduceNe, gb_T, gb_F, Int.reduceToNat, eq_self, true_or, or_true, and_true, true_and, and_self, ↓ite_gb0, ↓ite_gbn, ↓if_pos, ↓if_neg, if_true, if_false, not_true_eq_false, not_false_eq_true, gb_ne0, gb_eq0]
      exact hq _ _ ⟨by simp only [List.cons.injEq, vI_inj, vR_inj, and_true, true_and]; omega, CB_down (v := 0) (k := k) (by omega) hw2 hc2, Agr_upd hA (by unfold ZBr; omega)⟩
    · obtain ⟨rfl, hc2, hA⟩ := hi
      obtain ⟨hw2, hs2⟩ := gsd_ok hw1 hs1 (f 0).toNat (by omega)
      have e2 := hs2 0 (by unfold SBZ; omega)
      have d1 := hc2.1
      rw [r_B_standUp_45]
      simp (disch := first | assumption | exact gb_01 _ | omega) only [r_B_standUp_0, r_B_standUp_1, r_B_standUp_3, r_B_standUp_4, r_B_standUp_7, r_B_standUp_10, r_B_standUp_11, r_B_standUp_14, r_B_standUp_15, r_B_standUp_16, r_B_standUp_17, r_B_standUp_20, r_B_standUp_21, r_B_standUp_22, r_B_standUp_25, r_B_standUp_26, r_B_standUp_29, r_B_standUp_30, r_B_standUp_33, r_B_standUp_34, r_B_standUp_37, r_B_standUp_40, r_B_standUp_43, r_B_standUp_44, r_B_standUp_46, r_B_standUp_47, r_B_standUp_50, r_B_standUp_53, r_B_standUp_54, r_B_standUp_57, r_B_standUp_58, r_B_standUp_59, r_B_standUp_60, r_B_standUp_63, r_B_standUp_66, r_B_standUp_67, r_B_standUp_69, r_B_standUp_72, r_B_standUp_73, q0, q1, q2, q3, q4, q5, q6, q7, QP, w32_gb, w32i, tn_add, tn_mul, Int.toNat_natCast, Int.toNat_zero, Int.reduceLE, Int.reduceLT, Int.reduceEq, Int.reduceNe, gb_T, gb_F, Int.reduceToNat, eq_self, true_or, or_true, and_true, true_and, and_self, ↓ite_gb0, ↓ite_gbn, ↓if_pos, ↓if_neg, if_true, if_false, not_true_eq_false, not_false_eq_true, gb_ne0, gb_eq0]
      exact ⟨CB_train (v := 0) (t := -1) rfl hw2 hc2, Agr_upd (Agr_upd hA (by unfold ZBr; omega)) (by unfold ZBr; omega)⟩
theorem r_M_raise_0 : Wp L d k_M_raise 0 [vR b0, l1, l2] [] σ Q ↔ Wp L d k_M_raise 1 [vR b0, l1, l2] [vR b0] σ Q := wp_aload rfl rfl
theorem r_M_raise_4 : Wp L d k_M_raise 4 [vR b0, l1, l2] [vI s0] σ Q ↔ Wp L d k_M_raise 5 [vR b0, vI s0, l2] [] σ Q := wp_istore (i := 1) (ls := [vR b0, l1, l2]) rfl rfl
theorem r_M_raise_5 : Wp L d k_M_raise 5 [l0, l1, l2] [] σ Q ↔ Wp L d k_M_raise 6 [l0, l1, l2] [vI 0] σ Q := wp_push rfl
theorem r_M_raise_6 : Wp L d k_M_raise 6 [l0, vI a1, l2] [vI s0] σ Q ↔ Wp L d k_M_raise 7 [l0, vI a1, vI s0] [] σ Q := wp_istore (i := 2) (ls := [l0, vI a1, l2]) rfl rfl
theorem r_M_raise_7 : Wp L d k_M_raise 7 [l0, l1, vI a2] [] σ Q ↔ Wp L d k_M_raise 8 [l0, l1, vI a2] [vI a2] σ Q := wp_iload rfl rfl
theorem r_M_raise_8 : Wp L d k_M_raise 8 [vR b0, l1, l2] [vI s0] σ Q ↔ Wp L d k_M_raise 9 [vR b0, l1, l2] [vR b0, vI s0] σ Q := wp_aload rfl rfl
theorem r_M_raise_9 (h : gK c1 = 12) : Wp L d k_M_raise 9 [l0, l1, l2] [vR c1, vI s0] σ Q ↔ Wp L d k_M_raise 12 [l0, l1, l2] [vR (gq c1 0), vI s0] σ Q := wp_getR (c := 3200) rfl rfl rfl rfl rfl h
theorem r_M_raise_12 : Wp L d k_M_raise 12 [l0, l1, l2] [vR c1, vI s0] σ Q ↔ Wp L d k_M_raise 13 [l0, l1, l2] [vI 1, vR c1, vI s0] σ Q := wp_push rfl
theorem r_M_raise_13 (h : gK c1 = 100) (hx : 0 ≤ s2 ∧ s2 < gN c1) : Wp L d k_M_raise 13 [l0, l1, l2] [vI s2, vR c1, vI s0] σ Q ↔ Wp L d k_M_raise 14 [l0, l1, l2] [vI (σ c1 s2.toNat), vI s0] σ Q := wp_iald rfl h hx
theorem r_M_raise_14 : Wp L d k_M_raise 14 [l0, l1, l2] [vI s1, vI s0] σ Q ↔ (if s1 ≤ s0 then Wp L d k_M_raise 50 [l0, l1, l2] [] σ Q else Wp L d k_M_raise 17 [l0, l1, l2] [] σ Q) := wp_cmp_ge rfl
theorem r_M_raise_17 : Wp L d k_M_raise 17 [vR b0, l1, l2] [] σ Q ↔ Wp L d k_M_raise 18 [vR b0, l1, l2] [vR b0] σ Q := wp_aload rfl rfl
theorem r_M_raise_18 (h : gK c0 = 12) : Wp L d k_M_raise 18 [l0, l1, l2] [vR c0] σ Q ↔ Wp L d k_M_raise 21 [l0, l1, l2] [vR (gq c0 0)] σ Q := wp_getR (c := 3200) rfl rfl rfl rfl rfl h
theorem r_M_raise_21 : Wp L d k_M_raise 21 [vR b0, l1, l2] [vR c0] σ Q ↔ Wp L d k_M_raise 22 [vR b0, l1, l2] [vR b0, vR c0] σ Q := wp_aload rfl rfl
theorem r_M_raise_22 : Wp L d k_M_raise 22 [l0, l1, vI a2] [vR c1, vR c0] σ Q ↔ Wp L d k_M_raise 23 [l0, l1, vI a2] [vI a2, vR c1, vR c0] σ Q := wp_iload rfl rfl
theorem r_M_raise_26 : Wp L d k_M_raise 26 [l0, l1, l2] [vI s1, vR c0] σ Q ↔ Wp L d k_M_raise 28 [l0, l1, l2] [vI 8, vI s1, vR c0] σ Q := wp_push rfl
theorem r_M_raise_28 : Wp L d k_M_raise 28 [l0, l1, l2] [vI s2, vI s1, vR c0] σ Q ↔ Wp L d k_M_raise 29 [l0, l1, l2] [vI (w32 (s1 + s2)), vR c0] σ Q := wp_iadd rfl
theorem r_M_raise_29 : Wp L d k_M_raise 29 [vR b0, l1, l2] [vI s1, vR c0] σ Q ↔ Wp L d k_M_raise 30 [vR b0, l1, l2] [vR b0, vI s1, vR c0] σ Q := wp_aload rfl rfl
theorem r_M_raise_30 : Wp L d k_M_raise 30 [l0, l1, vI a2] [vR c2, vI s1, vR c0] σ Q ↔ Wp L d k_M_raise 31 [l0, l1, vI a2] [vI a2, vR c2, vI s1, vR c0] σ Q := wp_iload rfl rfl
theorem r_M_raise_34 : Wp L d k_M_raise 34 [l0, l1, l2] [vI s2, vI s1, vR c0] σ Q ↔ Wp L d k_M_raise 35 [l0, l1, l2] [vI 4, vI s2, vI s1, vR c0] σ Q := wp_push rfl
theorem r_M_raise_35 : Wp L d k_M_raise 35 [l0, l1, l2] [vI s3, vI s2, vI s1, vR c0] σ Q ↔ (if s2 ≠ s3 then Wp L d k_M_raise 42 [l0, l1, l2] [vI s1, vR c0] σ Q else Wp L d k_M_raise 38 [l0, l1, l2] [vI s1, vR c0] σ Q) := wp_cmp_ne rfl
theorem r_M_raise_38 : Wp L d k_M_raise 38 [l0, l1, l2] [vI s1, vR c0] σ Q ↔ Wp L d k_M_raise 39 [l0, l1, l2] [vI 0, vI s1, vR c0] σ Q := wp_push rfl
theorem r_M_raise_39 : Wp L d k_M_raise 39 [l0, l1, l2] [vI s2, vI s1, vR c0] σ Q ↔ Wp L d k_M_raise 43 [l0, l1, l2] [vI s2, vI s1, vR c0] σ Q := wp_goto rfl
theorem r_M_raise_42 : Wp L d k_M_raise 42 [l0, l1, l2] [vI s1, vR c0] σ Q ↔ Wp L d k_M_raise 43 [l0, l1, l2] [vI 1, vI s1, vR c0] σ Q := wp_push rfl
theorem r_M_raise_43 (h : gK c0 = 100) (hx : 0 ≤ s1 ∧ s1 < gN c0) : Wp L d k_M_raise 43 [l0, l1, l2] [vI s2, vI s1, vR c0] σ Q ↔ Wp L d k_M_raise 44 [l0, l1, l2] [] (gupd σ c0 s1.toNat s2) Q := wp_iast rfl h hx
theorem r_M_raise_44 : Wp L d k_M_raise 44 [l0, vI a1, vI a2] [] σ Q ↔ Wp L d k_M_raise 47 [l0, vI a1, vI (w32 (a2 + 1))] [] σ Q := wp_iinc (i := 2) (ls := [l0, vI a1, vI a2]) rfl rfl
theorem r_M_raise_47 : Wp L d k_M_raise 47 [l0, l1, l2] [] σ Q ↔ Wp L d k_M_raise 7 [l0, l1, l2] [] σ Q := wp_goto rfl
theorem r_M_raise_50 : Wp L d k_M_raise 50 [l0, l1, l2] [] σ Q ↔ Wp L d k_M_raise 51 [l0, l1, l2] [vI 0] σ Q := wp_push rfl
theorem r_M_raise_51 : Wp L d k_M_raise 51 [l0, vI a1, l2] [vI s0] σ Q ↔ Wp L d k_M_raise 52 [l0, vI a1, vI s0] [] σ Q := wp_istore (i := 2) (ls := [l0, vI a1, l2]) rfl rfl
theorem r_M_raise_52 : Wp L d k_M_raise 52 [l0, l1, vI a2] [] σ Q ↔ Wp L d k_M_raise 53 [l0, l1, vI a2] [vI a2] σ Q := wp_iload rfl rfl
theorem r_M_raise_53 : Wp L d k_M_raise 53 [vR b0, l1, l2] [vI s0] σ Q ↔ Wp L d k_M_raise 54 [vR b0, l1, l2] [vR b0, vI s0] σ Q := wp_aload rfl rfl
theorem r_M_raise_54 (h : gK c1 = 12) : Wp L d k_M_raise 54 [l0, l1, l2] [vR c1, vI s0] σ Q ↔ Wp L d k_M_raise 57 [l0, l1, l2] [vR (gq c1 0), vI s0] σ Q := wp_getR (c := 3200) rfl rfl rfl rfl rfl h
theorem r_M_raise_57 : Wp L d k_M_raise 57 [l0, l1, l2] [vR c1, vI s0] σ Q ↔ Wp L d k_M_raise 58 [l0, l1, l2] [vI 0, vR c1, vI s0] σ Q := wp_push rfl
theorem r_M_raise_58 (h : gK c1 = 100) (hx : 0 ≤ s2 ∧ s2 < gN c1) : Wp L d k_M_raise 58 [l0, l1, l2] [vI s2, vR c1, vI s0] σ Q ↔ Wp L d k_M_raise 59 [l0, l1, l2] [vI (σ c1 s2.toNat), vI s0] σ Q := wp_iald rfl h hx
theorem r_M_raise_59 : Wp L d k_M_raise 59 [l0, l1, l2] [vI s1, vI s0] σ Q ↔ (if s1 ≤ s0 then Wp L d k_M_raise 81 [l0, l1, l2] [] σ Q else Wp L d k_M_raise 62 [l0, l1, l2] [] σ Q) := wp_cmp_ge rfl
theorem r_M_raise_62 : Wp L d k_M_raise 62 [vR b0, l1, l2] [] σ Q ↔ Wp L d k_M_raise 63 [vR b0, l1, l2] [vR b0] σ Q := wp_aload rfl rfl
theorem r_M_raise_63 (h : gK c0 = 12) : Wp L d k_M_raise 63 [l0, l1, l2] [vR c0] σ Q ↔ Wp L d k_M_raise 66 [l0, l1, l2] [vR (gq c0 0)] σ Q := wp_getR (c := 3200) rfl rfl rfl rfl rfl h
theorem r_M_raise_66 : Wp L d k_M_raise 66 [vR b0, l1, l2] [vR c0] σ Q ↔ Wp L d k_M_raise 67 [vR b0, l1, l2] [vR b0, vR c0] σ Q := wp_aload rfl rfl
theorem r_M_raise_67 : Wp L d k_M_raise 67 [l0, l1, vI a2] [vR c1, vR c0] σ Q ↔ Wp L d k_M_raise 68 [l0, l1, vI a2] [vI a2, vR c1, vR c0] σ Q := wp_iload rfl rfl
theorem r_M_raise_71 : Wp L d k_M_raise 71 [l0, l1, l2] [vI s1, vR c0] σ Q ↔ Wp L d k_M_raise 72 [l0, l1, l2] [vI 2, vI s1, vR c0] σ Q := wp_push rfl
theorem r_M_raise_72 : Wp L d k_M_raise 72 [l0, l1, l2] [vI s2, vI s1, vR c0] σ Q ↔ Wp L d k_M_raise 73 [l0, l1, l2] [vI (w32 (s1 + s2)), vR c0] σ Q := wp_iadd rfl
theorem r_M_raise_73 : Wp L d k_M_raise 73 [l0, l1, l2] [vI s1, vR c0] σ Q ↔ Wp L d k_M_raise 74 [l0, l1, l2] [vI 0, vI s1, vR c0] σ Q := wp_push rfl
theorem r_M_raise_74 (h : gK c0 = 100) (hx : 0 ≤ s1 ∧ s1 < gN c0) : Wp L d k_M_raise 74 [l0, l1, l2] [vI s2, vI s1, vR c0] σ Q ↔ Wp L d k_M_raise 75 [l0, l1, l2] [] (gupd σ c0 s1.toNat s2) Q := wp_iast rfl h hx
theorem r_M_raise_75 : Wp L d k_M_raise 75 [l0, vI a1, vI a2] [] σ Q ↔ Wp L d k_M_raise 78 [l0, vI a1, vI (w32 (a2 + 1))] [] σ Q := wp_iinc (i := 2) (ls := [l0, vI a1, vI a2]) rfl rfl
theorem r_M_raise_78 : Wp L d k_M_raise 78 [l0, l1, l2] [] σ Q ↔ Wp L d k_M_raise 52 [l0, l1, l2] [] σ Q := wp_goto rfl
theorem r_M_raise_81 : Wp L d k_M_raise 81 [vR b0, l1, l2] [] σ Q ↔ Wp L d k_M_raise 82 [vR b0, l1, l2] [vR b0] σ Q := wp_aload rfl rfl
theorem r_M_raise_82 (h : gK c0 = 12) : Wp L d k_M_raise 82 [l0, l1, l2] [vR c0] σ Q ↔ Wp L d k_M_raise 85 [l0, l1, l2] [vR (gq c0 0)] σ Q := wp_getR (c := 3200) rfl rfl rfl rfl rfl h
theorem r_M_raise_85 : Wp L d k_M_raise 85 [l0, l1, l2] [vR c0] σ Q ↔ Wp L d k_M_raise 87 [l0, l1, l2] [vI 11, vR c0] σ Q := wp_push rfl
theorem r_M_raise_87 : Wp L d k_M_raise 87 [l0, l1, l2] [vI s1, vR c0] σ Q ↔ Wp L d k_M_raise 88 [l0, l1, l2] [vI (-1), vI s1, vR c0] σ Q := wp_push rfl
theorem r_M_raise_88 (h : gK c0 = 100) (hx : 0 ≤ s1 ∧ s1 < gN c0) : Wp L d k_M_raise 88 [l0, l1, l2] [vI s2, vI s1, vR c0] σ Q ↔ Wp L d k_M_raise 89 [l0, l1, l2] [] (gupd σ c0 s1.toNat s2) Q := wp_iast rfl h hx
theorem r_M_raise_89 : Wp L d k_M_raise 89 [vR b0, l1, l2] [] σ Q ↔ Wp L d k_M_raise 90 [vR b0, l1, l2] [vR b0] σ Q := wp_aload rfl rfl
theorem r_M_raise_90 (h : gK c0 = 12) : Wp L d k_M_raise 90 [l0, l1, l2] [vR c0] σ Q ↔ Wp L d k_M_raise 93 [l0, l1, l2] [vR (gq c0 0)] σ Q := wp_getR (c := 3200) rfl rfl rfl rfl rfl h
theorem r_M_raise_93 : Wp L d k_M_raise 93 [l0, l1, l2] [vR c0] σ Q ↔ Wp L d k_M_raise 95 [l0, l1, l2] [vI 12, vR c0] σ Q := wp_push rfl
theorem r_M_raise_95 : Wp L d k_M_raise 95 [l0, l1, l2] [vI s1, vR c0] σ Q ↔ Wp L d k_M_raise 96 [l0, l1, l2] [vI 0, vI s1, vR c0] σ Q := wp_push rfl
theorem r_M_raise_96 (h : gK c0 = 100) (hx : 0 ≤ s1 ∧ s1 < gN c0) : Wp L d k_M_raise 96 [l0, l1, l2] [vI s2, vI s1, vR c0] σ Q ↔ Wp L d k_M_raise 97 [l0, l1, l2] [] (gupd σ c0 s1.toNat s2) Q := wp_iast rfl h hx
theorem r_M_raise_97 : Wp L d k_M_raise 97 [l0, vI a1, l2] [] σ Q ↔ Wp L d k_M_raise 98 [l0, vI a1, l2] [vI a1] σ Q := wp_iload rfl rfl
theorem r_M_raise_98 : Wp L d k_M_raise 98 [l0, l1, l2] [vI s0] σ Q ↔ Q (some (vI s0)) σ := wp_iret rfl
theorem r_M_raise_1 (hw : WB (σ 294)) : Wp L (d + 4) k_M_raise 1 [l0, l1, l2] [vR 293] σ Q ↔ Wp L (d + 4) k_M_raise 4 [l0, l1, l2] [vI (ggone (σ 294) (σ 294 1).toNat)] σ Q := wp_callR (d := d + 3) (as := [vR 293]) (rest := []) rfl rfl rfl rfl rfl rfl rfl (grecv_k (by rw [gK_293]) rfl) (sp_M_gone hw)
theorem r_M_raise_23 : Wp L (d + 4) k_M_raise 23 [l0, l1, l2] [vI s2, vR 293, vR c0] σ Q ↔ Wp L (d + 4) k_M_raise 26 [l0, l1, l2] [vI (w32 (120 + w32 (12 * s2))), vR c0] σ Q := wp_callR (d := d + 3) (as := [vR 293, vI s2]) (rest := [vR c0]) rfl rfl rfl rfl rfl rfl rfl (grecv_k (by rw [gK_293]) rfl) (sp_M_partAt)
theorem r_M_raise_31 (h : 0 ≤ s3 ∧ s3 ≤ 40) : Wp L (d + 4) k_M_raise 31 [l0, l1, l2] [vI s3, vR 293, vI s1, vR c0] σ Q ↔ Wp L (d + 4) k_M_raise 34 [l0, l1, l2] [vI (σ 294 (120 + 12 * s3.toNat)), vI s1, vR c0] σ Q := wp_callR (d := d + 3) (as := [vR 293, vI s3]) (rest := [vI s1, vR c0]) rfl rfl rfl rfl rfl rfl rfl (grecv_k (by rw [gK_293]) rfl) (sp_M_kindOf0 h)
theorem r_M_raise_68 : Wp L (d + 4) k_M_raise 68 [l0, l1, l2] [vI s2, vR 293, vR c0] σ Q ↔ Wp L (d + 4) k_M_raise 71 [l0, l1, l2] [vI (w32 (20 + w32 (3 * s2))), vR c0] σ Q := wp_callR (d := d + 3) (as := [vR 293, vI s2]) (rest := [vR c0]) rfl rfl rfl rfl rfl rfl rfl (grecv_k (by rw [gK_293]) rfl) (sp_M_spanAt)
theorem sp_M_raise (hw : WB (σ 294)) : Run L (d + 4) 213 [vR 293] σ (some (vI (ggone (σ 294) (σ 294 1).toNat))) (gsr σ 294 (graise (σ 294))) := by
  refine Run_of (C' := k_M_raise) rfl ?_
  show Wp L (d + 4) k_M_raise 0 [vR 293, vU, vU] [] σ _
  obtain ⟨K293, Q293, K294, N294⟩ := litM
  have w1 := hw.1
  have w2 := hw.2.1
  simp (disch := first | assumption | exact gb_01 _ | omega) only [r_M_raise_0, r_M_raise_1, r_M_raise_4, r_M_raise_5, r_M_raise_6, r_M_raise_8, r_M_raise_9, r_M_raise_12, r_M_raise_13, r_M_raise_14, r_M_raise_17, r_M_raise_18, r_M_raise_21, r_M_raise_22, r_M_raise_23, r_M_raise_26, r_M_raise_28, r_M_raise_29, r_M_raise_30, r_M_raise_31, r_M_raise_34, r_M_raise_35, r_M_raise_38, r_M_raise_39, r_M_raise_42, r_M_raise_43, r_M_raise_44, r_M_raise_47, r_M_raise_50, r_M_raise_51, r_M_raise_53, r_M_raise_54, r_M_raise_57, r_M_raise_58, r_M_raise_59, r_M_raise_62, r_M_raise_63, r_M_raise_66, r_M_raise_67, r_M_raise_68, r_M_raise_71, r_M_raise_72, r_M_raise_73, r_M_raise_74, r_M_raise_75, r_M_raise_78, r_M_raise_81, r_M_raise_82, r_M_raise_85, r_M_raise_87, r_M_raise_88, r_M_raise_89, r_M_raise_90, r_M_raise_93, r_M_raise_95, r_M_raise_96, r_M_raise_97, r_M_raise_98, Q293, hw, w32_gb, w32i, tn_add, tn_mul, Int.toNat_natCast, Int.toNat_zero, Int.reduceLE, Int.reduceLT, Int.reduceEq, Int.reduceNe, gb_T, gb_F, Int.reduceToNat, eq_self, true_or, or_true, and_true, true_and, and_self, ↓ite_gb0, ↓ite_gbn, ↓if_pos, ↓if_neg, if_true, if_false, not_true_eq_false, not_false_eq_true, gb_ne0, gb_eq0]
  refine wl (σ 294 1).toNat (fun k => [vR 293, vI (ggone (σ 294) (σ 294 1).toNat), vI (k : Int)]) (fun k => gsr σ 294 (git gss k (σ 294))) rfl gsr_id.symm (fun k hk hq => ?_) ?_
  · obtain ⟨hw1, hs1⟩ := gss_ok hw k (by omega)
    have e0 := hs1 0 (by unfold SBZ; omega)
    have e1 := hs1 1 (by unfold SBZ; omega)
    by_cases e : git gss k (σ 294) (120 + 12 * k) = 4 <;> first
      | (exfalso; omega)
      | (
        rw [r_M_raise_7]
        simp (disch := first | assumption | exact gb_01 _ | omega) only [r_M_raise_0, r_M_raise_1, r_M_raise_4, r_M_raise_5, r_M_raise_6, r_M_raise_8, r_M_raise_9, r_M_raise_12, r_M_raise_13, r_M_raise_14, r_M_raise_17, r_M_raise_18, r_M_raise_21, r_M_raise_22, r_M_raise_23, r_M_raise_26, r_M_raise_28, r_M_raise_29, r_M_raise_30, r_M_raise_31, r_M_raise_34, r_M_raise_35, r_M_raise_38, r_M_raise_39, r_M_raise_42, r_M_raise_43, r_M_raise_44, r_M_raise_47, r_M_raise_50, r_M_raise_51, r_M_raise_53, r_M_raise_54, r_M_raise_57, r_M_raise_58, r_M_raise_59, r_M_raise_62, r_M_raise_63, r_M_raise_66, r_M_raise_67, r_M_raise_68, r_M_raise_71, r_M_raise_72, r_M_raise_73, r_M_raise_74, r_M_raise_75, r_M_raise_78, r_M_raise_81, r_M_raise_82, r_M_raise_85, r_M_raise_87, r_M_raise_88, r_M_raise_89, r_M_raise_90, r_M_raise_93, r_M_raise_95, r_M_raise_96, r_M_raise_97, r_M_raise_98, Q293, gsr_eq, gsr_upd, w32_gb, w32i, tn_add, tn_mul, Int.toNat_natCast, Int.toNat_zero, Int.reduceLE, Int.reduceLT, Int.reduceEq, Int.reduceNe, gb_T, gb_F, Int.reduceToNat, eq_self, true_or, or_true, and_true, true_and, and_self, ↓ite_gb0, ↓ite_gbn, ↓if_pos, ↓if_neg, if_true, if_false, not_true_eq_false, not_false_eq_true, gb_ne0, gb_eq0]
        refine hq _ _ ?_ ?_
        · simp only [List.cons.injEq, vI_inj, vR_inj, and_true, true_and]
          omega
        · simp only [git, gss, e, if_true, if_false])
  · obtain ⟨hw1, hs1⟩ := gss_ok hw (σ 294 1).toNat (by omega)
    have e0 := hs1 0 (by unfold SBZ; omega)
    have e1 := hs1 1 (by unfold SBZ; omega)
    rw [r_M_raise_7]
    simp (disch := first | assumption | exact gb_01 _ | omega) only [r_M_raise_0, r_M_raise_1, r_M_raise_4, r_M_raise_5, r_M_raise_6, r_M_raise_8, r_M_raise_9, r_M_raise_12, r_M_raise_13, r_M_raise_14, r_M_raise_17, r_M_raise_18, r_M_raise_21, r_M_raise_22, r_M_raise_23, r_M_raise_26, r_M_raise_28, r_M_raise_29, r_M_raise_30, r_M_raise_31, r_M_raise_34, r_M_raise_35, r_M_raise_38, r_M_raise_39, r_M_raise_42, r_M_raise_43, r_M_raise_44, r_M_raise_47, r_M_raise_50, r_M_raise_51, r_M_raise_53, r_M_raise_54, r_M_raise_57, r_M_raise_58, r_M_raise_59, r_M_raise_62, r_M_raise_63, r_M_raise_66, r_M_raise_67, r_M_raise_68, r_M_raise_71, r_M_raise_72, r_M_raise_73, r_M_raise_74, r_M_raise_75, r_M_raise_78, r_M_raise_81, r_M_raise_82, r_M_raise_85, r_M_raise_87, r_M_raise_88, r_M_raise_89, r_M_raise_90, r_M_raise_93, r_M_raise_95, r_M_raise_96, r_M_raise_97, r_M_raise_98, Q293, gsr_eq, gsr_upd, w32_gb, w32i, tn_add, tn_mul, Int.toNat_natCast, Int.toNat_zero, Int.reduceLE, Int.reduceLT, Int.reduceEq, Int.reduceNe, gb_T, gb_F, Int.reduceToNat, eq_self, true_or, or_true, and_true, true_and, and_self, ↓ite_gb0, ↓ite_gbn, ↓if_pos, ↓if_neg, if_true, if_false, not_true_eq_false, not_false_eq_true, gb_ne0, gb_eq0]
    refine wl (σ 294 0).toNat (fun k => [vR 293, vI (ggone (σ 294) (σ 294 1).toNat), vI (k : Int)]) (fun k => gsr σ 294 (git gsd k (git gss (σ 294 1).toNat (σ 294)))) rfl rfl (fun k hk hq => ?_) ?_
    · obtain ⟨hw2, hs2⟩ := gsd_ok hw1 hs1 k (by omega)
      have e2 := hs2 0 (by unfold SBZ; omega)
      rw [r_M_raise_52]
      simp (disch := first | assumption | exact gb_01 _ | omega) only [r_M_raise_0, r_M_raise_1, r_M_raise_4, r_M_raise_5, r_M_raise_6, r_M_raise_8, r_M_raise_9, r_M_raise_12, r_M_raise_13, r_M_raise_14, r_M_raise_17, r_M_raise_18, r_M_raise_21, r_M_raise_22, r_M_raise_23, r_M_raise_26, r_M_raise_28, r_M_raise_29, r_M_raise_30, r_M_raise_31, r_M_raise_34, r_M_raise_35, r_M_raise_38, r_M_raise_39, r_M_raise_42, r_M_raise_43, r_M_raise_44, r_M_raise_47, r_M_raise_50, r_M_raise_51, r_M_raise_53, r_M_raise_54, r_M_raise_57, r_M_raise_58, r_M_raise_59, r_M_raise_62, r_M_raise_63, r_M_raise_66, r_M_raise_67, r_M_raise_68, r_M_raise_71, r_M_raise_72, r_M_raise_73, r_M_raise_74, r_M_raise_75, r_M_raise_78, r_M_raise_81, r_M_raise_82, r_M_raise_85, r_M_raise_87, r_M_raise_88, r_M_raise_89, r_M_raise_90, r_M_raise_93, r_M_raise_95, r_M_raise_96, r_M_raise_97, r_M_raise_98, Q293, gsr_eq, gsr_upd, w32_gb, w32i, tn_add, tn_mul, Int.toNat_natCast, Int.toNat_zero, Int.reduceLE, Int.reduceLT, Int.reduceEq, Int.reduceNe, gb_T, gb_F, Int.reduceToNat, eq_self, true_or, or_true, and_true, true_and, and_self, ↓ite_gb0, ↓ite_gbn, ↓if_pos, ↓if_neg, if_true, if_false, not_true_eq_false, not_false_eq_true, gb_ne0, gb_eq0]
      refine hq _ _ ?_ ?_
      · simp only [List.cons.injEq, vI_inj, vR_inj, and_true, true_and]
        omega
      · rfl
    · obtain ⟨hw2, hs2⟩ := gsd_ok hw1 hs1 (σ 294 0).toNat (by omega)
      have e2 := hs2 0 (by unfold SBZ; omega)
      rw [r_M_raise_52]
      simp (disch := first | assumption | exact gb_01 _ | omega) only [r_M_raise_0, r_M_raise_1, r_M_raise_4, r_M_raise_5, r_M_raise_6, r_M_raise_8, r_M_raise_9, r_M_raise_12, r_M_raise_13, r_M_raise_14, r_M_raise_17, r_M_raise_18, r_M_raise_21, r_M_raise_22, r_M_raise_23, r_M_raise_26, r_M_raise_28, r_M_raise_29, r_M_raise_30, r_M_raise_31, r_M_raise_34, r_M_raise_35, r_M_raise_38, r_M_raise_39, r_M_raise_42, r_M_raise_43, r_M_raise_44, r_M_raise_47, r_M_raise_50, r_M_raise_51, r_M_raise_53, r_M_raise_54, r_M_raise_57, r_M_raise_58, r_M_raise_59, r_M_raise_62, r_M_raise_63, r_M_raise_66, r_M_raise_67, r_M_raise_68, r_M_raise_71, r_M_raise_72, r_M_raise_73, r_M_raise_74, r_M_raise_75, r_M_raise_78, r_M_raise_81, r_M_raise_82, r_M_raise_85, r_M_raise_87, r_M_raise_88, r_M_raise_89, r_M_raise_90, r_M_raise_93, r_M_raise_95, r_M_raise_96, r_M_raise_97, r_M_raise_98, Q293, gsr_eq, gsr_upd, w32_gb, w32i, tn_add, tn_mul, Int.toNat_natCast, Int.toNat_zero, Int.reduceLE, Int.reduceLT, Int.reduceEq, Int.reduceNe, gb_T, gb_F, Int.reduceToNat, eq_self, true_or, or_true, and_true, true_and, and_self, ↓ite_gb0, ↓ite_gbn, ↓if_pos, ↓if_neg, if_true, if_false, not_true_eq_false, not_false_eq_true, gb_ne0, gb_eq0]
      rfl
theorem r_X_raise_0 : Wp L d k_X_raise 0 [vR b0, l1] [] σ Q ↔ Wp L d k_X_raise 1 [vR b0, l1] [vR b0] σ Q := wp_aload rfl rfl
theorem r_X_raise_1 (h : gK c0 = 0) : Wp L d k_X_raise 1 [l0, l1] [vR c0] σ Q ↔ Wp L d k_X_raise 4 [l0, l1] [vR (gq c0 1)] σ Q := wp_getR (c := 129) rfl rfl rfl rfl rfl h
theorem c_X_raise_4 (hR : Run L d 94 [vR c0] σ r σ1) (h : gK c0 = 1) : Wp L (d + 1) k_X_raise 4 [l0, l1] [vR c0] σ Q ↔ Wp L (d + 1) k_X_raise 7 [l0, l1] (r.toList ++ []) σ1 Q := wp_callR (as := [vR c0]) (rest := []) rfl rfl rfl rfl rfl rfl rfl (grecv_k (by rw [h]) rfl) hR
theorem r_X_raise_7 : Wp L d k_X_raise 7 [vR b0, l1] [vI s0] σ Q ↔ Wp L d k_X_raise 8 [vR b0, vI s0] [] σ Q := wp_istore (i := 1) (ls := [vR b0, l1]) rfl rfl
theorem r_X_raise_8 : Wp L d k_X_raise 8 [vR b0, l1] [] σ Q ↔ Wp L d k_X_raise 9 [vR b0, l1] [vR b0] σ Q := wp_aload rfl rfl
theorem r_X_raise_9 (h : gK c0 = 0) : Wp L d k_X_raise 9 [l0, l1] [vR c0] σ Q ↔ Wp L d k_X_raise 12 [l0, l1] [vR (gq c0 1)] σ Q := wp_getR (c := 129) rfl rfl rfl rfl rfl h
theorem c_X_raise_12 (hR : Run L d 95 [vR c0] σ r σ1) (h : gK c0 = 1) : Wp L (d + 1) k_X_raise 12 [l0, l1] [vR c0] σ Q ↔ Wp L (d + 1) k_X_raise 15 [l0, l1] (r.toList ++ []) σ1 Q := wp_callR (as := [vR c0]) (rest := []) rfl rfl rfl rfl rfl rfl rfl (grecv_k (by rw [h]) rfl) hR
theorem r_X_raise_15 : Wp L d k_X_raise 15 [l0, vI a1] [] σ Q ↔ Wp L d k_X_raise 16 [l0, vI a1] [vI a1] σ Q := wp_iload rfl rfl
theorem r_X_raise_16 : Wp L d k_X_raise 16 [l0, l1] [vI s0] σ Q ↔ Q (some (vI s0)) σ := wp_iret rfl
theorem sp_X_raise {f : Nat → Int} (hw : WB f) (hc : CB 29 f σ) : ∃ σ', Run L (d + 2) 28 [vR 27] σ (some (vI (ggone f (f 1).toNat))) σ' ∧ CB 29 (graise f) σ' ∧ Agr σ σ' (ZBr 29) := by
  refine Run_ex (C' := k_X_raise) rfl ?_
  show Wp L (d + 2) k_X_raise 0 [vR 27, vU] [] σ _
  obtain ⟨K27, K28, K29, K78, K97, K99, K109, K123, K125, K279, K282⟩ := litX
  have hR := sp_B_goneCount (L := L) (d := d + 0) BR29 hw hc
  obtain ⟨σ1, hR2, h⟩ := sp_B_standUp (L := L) (d := d + 0) BR29 hw hc
  simp (disch := first | assumption | exact gb_01 _ | omega) only [r_X_raise_0, r_X_raise_1, r_X_raise_7, r_X_raise_8, r_X_raise_9, r_X_raise_15, r_X_raise_16, c_X_raise_4 hR, c_X_raise_12 hR2, Option.toList, List.singleton_append, List.cons_append, List.nil_append, gq_27_0, gq_27_1, gq_27_2, gq_27_3, gq_27_4, gq_27_5, gq_27_6, gq_28_0, gq_28_1, gq_28_2, gq_28_3, gq_28_4, gq_28_5, gq_28_6, w32_gb, w32i, tn_add, tn_mul, Int.toNat_natCast, Int.toNat_zero, Int.reduceLE, Int.reduceLT, Int.reduceEq, Int.reduceNe, gb_T, gb_F, Int.reduceToNat, eq_self, true_or, or_true, and_true, true_and, and_self, ↓ite_gb0, ↓ite_gbn, ↓if_pos, ↓if_neg, if_true, if_false, not_true_eq_false, not_false_eq_true, gb_ne0, gb_eq0]
  exact h
theorem op_raise : Op 28 213 [] := by
  intro L d σ hI
  obtain ⟨hw, hc⟩ := iB hI
  obtain ⟨σ1, hR, h1, h2⟩ := sp_X_raise (L := L) (d := d + 998) hw hc
  have e : σ1 294 = σ 294 := funext (fun j => h2 294 j (by unfold ZBr; omega))
  obtain ⟨k1, k2⟩ := graise_ok hw
  refine ⟨_, _, _, hR, Run_r (sp_M_raise (by rw [e]; exact hw)) (by rw [e]), ?_⟩
  rw [e]
  refine Inv_bridge hI (fun k j hn => ?_) (by rw [gsr_eq]; exact k1) (by rw [gsr_eq]; exact CB_agr (fun k j hk => by rw [gsr_ne (by omega)]) k1 h1)
  by_cases z : k = 294
  · subst z
    rw [gsr_eq]
    exact k2 j (fun x => hn (Or.inr (Or.inr ⟨rfl, x⟩)))
  · rw [gsr_ne z]
    exact h2 k j (fun x => hn (Or.inl (by unfold ZBr at x; omega)))
