/-! Straps weighed. -/
variable {L d : Nat} {σ σ1 : Nat → Nat → Int} {Q : Option gV → (Nat → Nat → Int) → Prop} {a0 a1 a2 a3 a4 a5 a6 a7 a8 a9 a10 a11 s0 s1 s2 s3 s4 s5 s6 s7 s8 s9 : Int} {l0 l1 l2 l3 l4 l5 l6 l7 l8 l9 l10 l11 t0 t1 t2 t3 t4 t5 t6 t7 t8 t9 : gV} {b0 b1 b2 b3 b4 b5 b6 b7 b8 b9 b10 b11 c0 c1 c2 c3 c4 c5 c6 c7 c8 c9 : Nat} {r : Option gV}
/-- bit i of x -/
def gbt (x : Int) (i : Int) : Int := gand (gshr x i) 1
def gones (x : Int) : Int := gsm (fun k => gbt x (k : Nat)) 8
theorem gbt_01 : ∀ n : Nat, n < 256 → ∀ k : Nat, k < 8 → gbt (n : Int) (k : Int) = 0 ∨ gbt (n : Int) (k : Int) = 1 := by decide +kernel
def gbc1 (x : Int) : Int := w32 (x - gand (gushr x 1) 1431655765)
def gbc2 (x : Int) : Int := w32 (gand x 858993459 + gand (gushr x 2) 858993459)
def gbc3 (x : Int) : Int := gand (w32 (x + gushr x 4)) 252645135
def gbc4 (x : Int) : Int := w32 (x + gushr x 8)
def gbc5 (x : Int) : Int := w32 (x + gushr x 16)
def gbc (x : Int) : Int := gand (gbc5 (gbc4 (gbc3 (gbc2 (gbc1 x))))) 63
theorem gbc_ones : ∀ n : Nat, n < 256 → gbc (n : Int) = gones (n : Int) := by decide +kernel
theorem gones_bd : ∀ n : Nat, n < 256 → 0 ≤ gones (n : Int) ∧ gones (n : Int) ≤ 8 := by decide +kernel
theorem gshl_bd : ∀ n : Nat, n < 9 → 1 ≤ gshl 1 (n : Int) ∧ gshl 1 (n : Int) ≤ 256 := by decide +kernel
theorem gshl_bi {x : Int} (h : 0 ≤ x ∧ x ≤ 8) : 1 ≤ gshl 1 x ∧ gshl 1 x ≤ 256 := by
  have := gshl_bd x.toNat (by omega)
  rw [show ((x.toNat : Nat) : Int) = x by omega] at this
  exact this
theorem gones_i {x : Int} (h : 0 ≤ x ∧ x < 256) : (gbc x = gones x) ∧ 0 ≤ gones x ∧ gones x ≤ 8 := by
  have a := gbc_ones x.toNat (by omega)
  have b := gones_bd x.toNat (by omega)
  rw [show ((x.toNat : Nat) : Int) = x by omega] at a b
  exact ⟨a, b⟩
/-- where the slack of member i lies -/
def brsp (f : Nat → Int) (i : Nat) : Nat := 120 + 12 * (f (920 + i)).toNat + 5
def brs1 (f : Nat → Int) (x : Int) (i : Nat) (g : Nat → Int) : Nat → Int := fu g (brsp f i) (if gbt x (i : Int) = 1 then 0 else g (brsp f i))
def brsl (f : Nat → Int) (x : Int) (k : Nat) : Nat → Int := git (brs1 f x) k f
theorem brsp_ne {f : Nat → Int} (hr : WR f) {i j : Nat} (hi : (i : Int) < f 6) (hj : (j : Int) < f 6) (h : i ≠ j) : brsp f i ≠ brsp f j := by
  have a := hr.2.1 i hi
  have b := hr.2.1 j hj
  have c : f (920 + i) ≠ f (920 + j) := by
    rcases Nat.lt_or_gt_of_ne h with x | x
    · exact hr.2.2 i j x hj
    · exact fun e => hr.2.2 j i x hi e.symm
  unfold brsp
  omega
theorem brsp_bd {f : Nat → Int} (hw : WB f) (hr : WR f) {i : Nat} (hi : (i : Int) < f 6) : 125 ≤ brsp f i ∧ brsp f i < 600 ∧ brsp f i % 12 = 5 ∧ (((f (920 + i)).toNat : Nat) : Int) < f 1 ∧ (f (920 + i)).toNat < 40 := by
  have a := hr.2.1 i hi
  have w2 := hw.2.1
  unfold brsp
  omega
theorem brsl_s (f : Nat → Int) (x : Int) (k : Nat) : brsl f x (k + 1) = brs1 f x k (brsl f x k) := rfl
theorem brsl_at {f : Nat → Int} (hr : WR f) (x : Int) : ∀ k : Nat, (k : Int) ≤ f 6 → (∀ j, (∀ i, i < k → j ≠ brsp f i) → brsl f x k j = f j) ∧ ∀ i, i < k → brsl f x k (brsp f i) = if gbt x (i : Int) = 1 then 0 else f (brsp f i)
  | 0, _ => ⟨fun _ _ => rfl, fun i hi => by omega⟩
  | k + 1, h => by
    obtain ⟨a, b⟩ := brsl_at hr x k (by omega)
    rw [brsl_s]
    unfold brs1
    refine ⟨fun j hj => ?_, fun i hi => ?_⟩
    · rw [fu_ne (hj k (by omega))]
      exact a j (fun i hi => hj i (by omega))
    · by_cases e : i = k
      · rw [e, fu_eq, a _ (fun i hi => brsp_ne hr (by omega) (by omega) (by omega))]
      · rw [fu_ne (brsp_ne hr (by omega) (by omega) e)]
        exact b i (by omega)
theorem brsl_ok {f : Nat → Int} (hw : WB f) (hr : WR f) (x : Int) (k : Nat) (hk : (k : Int) ≤ f 6) : WB (brsl f x k) ∧ SB f (brsl f x k) ∧ ∀ j, ¬ (125 ≤ j ∧ j < 600 ∧ j % 12 = 5) → brsl f x k j = f j := by
  refine git_inv (P := fun g => WB g ∧ SB f g ∧ ∀ j, ¬ (125 ≤ j ∧ j < 600 ∧ j % 12 = 5) → g j = f j) k ⟨hw, SB_refl f, fun _ _ => rfl⟩ (fun i g hi h => ?_)
  have b := brsp_bd hw hr (i := i) (by omega)
  have c := hr.2.1 i (by omega)
  have e1 := (SB01 h.2.1).2
  have w := WBp h.1 (p := (f (920 + i)).toNat) (by omega)
  have e0 := h.2.2 (120 + 12 * (f (920 + i)).toNat) (by omega)
  have c0 := c.2.2
  unfold gpt at c0
  refine ⟨?_, SB_fu h.2.1 (by unfold SBZ; omega), fun j hj => ?_⟩
  · unfold brs1 brsp
    refine WB_slack (by omega) h.1 ⟨?_, fun e => ?_⟩
    · split <;> omega
    · rw [e0] at e
      simp only [Nat.add_zero] at c0
      omega
  · unfold brs1
    rw [fu_ne (by omega)]
    exact h.2.2 j hj
theorem brS_congr {f g : Nat → Int} (hw : WB f) (h : ∀ j, j < 56 → g j = f j) (p : Nat) : brS g p = brS f p ∧ brW g p = brW f p := by
  have w1 := hw.1
  have w7 := hw.2.2.2.2.2.2.1
  have t : ∀ v, brtr g p v = brtr f p v := fun v => by
    unfold brtr
    rw [h 11 (by omega), h 0 (by omega)]
    by_cases c : 0 ≤ f 11 ∧ f 11 < f 0
    · rw [h (20 + 3 * (f 11).toNat + 2) (by omega)]
    · rw [if_neg (fun x => c x.1), if_neg (fun x => c x.1)]
  unfold brS brW
  rw [t, t, h 0 (by omega), h 9 (by omega), h 10 (by omega)]
  constructor
  · rw [gsm_congr (f 0).toNat (fun k hk => ?_)]
    unfold brsv
    rw [h _ (by omega), h _ (by omega)]
  · rw [gsm_congr (f 0).toNat (fun k hk => ?_)]
    unfold brwv
    rw [h _ (by omega), h _ (by omega)]
theorem brlim_congr {f g : Nat → Int} (hw : WB f) (h : ∀ j, ¬ (125 ≤ j ∧ j < 600 ∧ j % 12 = 5) → g j = f j) {p : Nat} (hp : (p : Int) < f 1) (s : Int) : brlim g p s = brlim f p s := by
  have w2 := hw.2.1
  have sh : brsh g (f (120 + 12 * p + 1)) (f 1).toNat = brsh f (f (120 + 12 * p + 1)) (f 1).toNat := by
    unfold brsh
    refine gsm_congr _ (fun k hk => ?_)
    rw [h _ (by omega), h _ (by omega), h _ (by omega)]
  have sw := brS_congr hw (fun j hj => h j (by omega)) (f (120 + 12 * p + 1)).toNat
  unfold brlim
  rw [h (120 + 12 * p) (by omega), h (120 + 12 * p + 1) (by omega), h (120 + 12 * p + 2) (by omega), h (120 + 12 * p + 3) (by omega), h (120 + 12 * p + 4) (by omega), h (120 + 12 * p + 8) (by omega), h 1 (by omega), sh, sw.1, sw.2]
/-- safe by a set -/
def brsy (f : Nat → Int) (x : Int) : Int := brsf (brsl f x (f 6).toNat)
/-- what the strapping has weighed -/
def WA (f : Nat → Int) (τ : gMm) : Prop := (∀ w, w ≤ τ 125 4 ↔ w ≤ 99 ∧ ∀ q : Nat, (q : Int) < f 1 → ¬ brme f q (f 6).toNat → w ≤ brlim f q (f (120 + 12 * q + 5))) ∧ ∀ i : Nat, (i : Int) < f 6 → τ 127 i = brlim f (f (920 + i)).toNat (f (brsp f i)) ∧ τ 128 i = brlim f (f (920 + i)).toNat 0
theorem brsy_iff {f : Nat → Int} (hw : WB f) (hr : WR f) {τ : gMm} (ha : WA f τ) (x w : Int) : w ≤ brsy f x ↔ w ≤ τ 125 4 ∧ ∀ i : Nat, i < (f 6).toNat → w ≤ if gbt x (i : Int) = 1 then τ 128 i else τ 127 i := by
  have w2 := hw.2.1
  have w6 := hr.1
  obtain ⟨o1, o2, o3⟩ := brsl_ok hw hr x (f 6).toNat (by omega)
  obtain ⟨p1, p2⟩ := brsl_at hr x (f 6).toNat (by omega)
  have e1 := (SB01 o2).2
  unfold brsy brsf
  rw [e1, brms_le, ha.1]
  constructor
  · rintro ⟨h1, h2⟩
    refine ⟨⟨h1, fun q hq hm => ?_⟩, fun i hi => ?_⟩
    · have := h2 q (by omega)
      rw [brlim_congr hw o3 hq, p1 _ (fun i hi e => hm ⟨i, hi, by have := hr.2.1 i (by omega); unfold brsp at e; omega⟩)] at this
      exact this
    · have b := brsp_bd hw hr (i := i) (by omega)
      have := h2 (f (920 + i)).toNat (by omega)
      rw [brlim_congr hw o3 b.2.2.2.1] at this
      have e : brsl f x (f 6).toNat (120 + 12 * (f (920 + i)).toNat + 5) = if gbt x (i : Int) = 1 then 0 else f (brsp f i) := p2 i hi
      rw [e] at this
      have c := ha.2 i (by omega)
      rw [c.1, c.2]
      split
      · next t => rw [if_pos t] at this; exact this
      · next t => rw [if_neg t] at this; exact this
  · rintro ⟨⟨h1, h2⟩, h3⟩
    refine ⟨h1, fun q hq => ?_⟩
    rw [brlim_congr hw o3 (by omega)]
    by_cases m : brme f q (f 6).toNat
    · obtain ⟨i, hi, e⟩ := m
      have e2 : (f (920 + i)).toNat = q := by omega
      have e3 : 120 + 12 * q + 5 = brsp f i := by unfold brsp; omega
      have := h3 i hi
      have c := ha.2 i (by omega)
      rw [c.1, c.2, e2] at this
      rw [e3, p2 i hi]
      split
      · next t => rw [if_pos t] at this; exact this
      · next t => rw [if_neg t] at this; exact this
    · rw [p1 _ (fun i hi e => m ⟨i, hi, by have := hr.2.1 i (by omega); unfold brsp at e; omega⟩)]
      exact h2 q (by omega) m
theorem le_ext {a b : Int} (h : ∀ w, w ≤ a ↔ w ≤ b) : a = b := Int.le_antisymm ((h a).1 (Int.le_refl a)) ((h b).2 (Int.le_refl b))
/-- the best set, and its value -/
def bsp (v : Int → Int) (a : Int) : Nat → Int × Int
  | 0 => (0, v 0)
  | s + 1 => if gones ((s : Int) + 1) ≤ a ∧ ((bsp v a s).2 < v ((s : Int) + 1) ∨ v ((s : Int) + 1) = (bsp v a s).2 ∧ gones ((s : Int) + 1) < gones (bsp v a s).1) then ((s : Int) + 1, v ((s : Int) + 1)) else bsp v a s
theorem bsp_ok (v : Int → Int) (a : Int) : ∀ s, (0 ≤ (bsp v a s).1 ∧ (bsp v a s).1 ≤ s) ∧ (bsp v a s).2 = v (bsp v a s).1
  | 0 => ⟨⟨by show (0 : Int) ≤ 0; omega, by show (0 : Int) ≤ 0; omega⟩, rfl⟩
  | s + 1 => by
    have ih := bsp_ok v a s
    unfold bsp
    split
    · exact ⟨⟨by show 0 ≤ (s : Int) + 1; omega, by show (s : Int) + 1 ≤ ((s + 1 : Nat) : Int); omega⟩, rfl⟩
    · exact ⟨⟨ih.1.1, by omega⟩, ih.2⟩
theorem r_Itg_bitCount_0 : Wp L d k_Itg_bitCount 0 [vI a0] [] σ Q ↔ Wp L d k_Itg_bitCount 1 [vI a0] [vI a0] σ Q := wp_iload rfl rfl
theorem r_Itg_bitCount_1 : Wp L d k_Itg_bitCount 1 [vI a0] [vI s0] σ Q ↔ Wp L d k_Itg_bitCount 2 [vI a0] [vI a0, vI s0] σ Q := wp_iload rfl rfl
theorem r_Itg_bitCount_2 : Wp L d k_Itg_bitCount 2 [l0] [vI s1, vI s0] σ Q ↔ Wp L d k_Itg_bitCount 3 [l0] [vI 1, vI s1, vI s0] σ Q := wp_push rfl
theorem r_Itg_bitCount_3 : Wp L d k_Itg_bitCount 3 [l0] [vI s2, vI s1, vI s0] σ Q ↔ Wp L d k_Itg_bitCount 4 [l0] [vI (gushr s1 s2), vI s0] σ Q := wp_iushr rfl
theorem r_Itg_bitCount_4 : Wp L d k_Itg_bitCount 4 [l0] [vI s1, vI s0] σ Q ↔ Wp L d k_Itg_bitCount 7 [l0] [vI 1431655765, vI s1, vI s0] σ Q := wp_push rfl
theorem r_Itg_bitCount_7 : Wp L d k_Itg_bitCount 7 [l0] [vI s2, vI s1, vI s0] σ Q ↔ Wp L d k_Itg_bitCount 8 [l0] [vI (gand s1 s2), vI s0] σ Q := wp_iand rfl
theorem r_Itg_bitCount_8 : Wp L d k_Itg_bitCount 8 [l0] [vI s1, vI s0] σ Q ↔ Wp L d k_Itg_bitCount 9 [l0] [vI (w32 (s0 - s1))] σ Q := wp_isub rfl
theorem r_Itg_bitCount_9 : Wp L d k_Itg_bitCount 9 [l0] [vI s0] σ Q ↔ Wp L d k_Itg_bitCount 10 [vI s0] [] σ Q := wp_istore (i := 0) (ls := [l0]) rfl rfl
theorem r_Itg_bitCount_10 : Wp L d k_Itg_bitCount 10 [vI a0] [] σ Q ↔ Wp L d k_Itg_bitCount 11 [vI a0] [vI a0] σ Q := wp_iload rfl rfl
theorem r_Itg_bitCount_11 : Wp L d k_Itg_bitCount 11 [l0] [vI s0] σ Q ↔ Wp L d k_Itg_bitCount 14 [l0] [vI 858993459, vI s0] σ Q := wp_push rfl
theorem r_Itg_bitCount_14 : Wp L d k_Itg_bitCount 14 [l0] [vI s1, vI s0] σ Q ↔ Wp L d k_Itg_bitCount 15 [l0] [vI (gand s0 s1)] σ Q := wp_iand rfl
theorem r_Itg_bitCount_15 : Wp L d k_Itg_bitCount 15 [vI a0] [vI s0] σ Q ↔ Wp L d k_Itg_bitCount 16 [vI a0] [vI a0, vI s0] σ Q := wp_iload rfl rfl
theorem r_Itg_bitCount_16 : Wp L d k_Itg_bitCount 16 [l0] [vI s1, vI s0] σ Q ↔ Wp L d k_Itg_bitCount 17 [l0] [vI 2, vI s1, vI s0] σ Q := wp_push rfl
theorem r_Itg_bitCount_17 : Wp L d k_Itg_bitCount 17 [l0] [vI s2, vI s1, vI s0] σ Q ↔ Wp L d k_Itg_bitCount 18 [l0] [vI (gushr s1 s2), vI s0] σ Q := wp_iushr rfl
theorem r_Itg_bitCount_18 : Wp L d k_Itg_bitCount 18 [l0] [vI s1, vI s0] σ Q ↔ Wp L d k_Itg_bitCount 21 [l0] [vI 858993459, vI s1, vI s0] σ Q := wp_push rfl
theorem r_Itg_bitCount_21 : Wp L d k_Itg_bitCount 21 [l0] [vI s2, vI s1, vI s0] σ Q ↔ Wp L d k_Itg_bitCount 22 [l0] [vI (gand s1 s2), vI s0] σ Q := wp_iand rfl
theorem r_Itg_bitCount_22 : Wp L d k_Itg_bitCount 22 [l0] [vI s1, vI s0] σ Q ↔ Wp L d k_Itg_bitCount 23 [l0] [vI (w32 (s0 + s1))] σ Q := wp_iadd rfl
theorem r_Itg_bitCount_23 : Wp L d k_Itg_bitCount 23 [l0] [vI s0] σ Q ↔ Wp L d k_Itg_bitCount 24 [vI s0] [] σ Q := wp_istore (i := 0) (ls := [l0]) rfl rfl
theorem r_Itg_bitCount_24 : Wp L d k_Itg_bitCount 24 [vI a0] [] σ Q ↔ Wp L d k_Itg_bitCount 25 [vI a0] [vI a0] σ Q := wp_iload rfl rfl
theorem r_Itg_bitCount_25 : Wp L d k_Itg_bitCount 25 [vI a0] [vI s0] σ Q ↔ Wp L d k_Itg_bitCount 26 [vI a0] [vI a0, vI s0] σ Q := wp_iload rfl rfl
theorem r_Itg_bitCount_26 : Wp L d k_Itg_bitCount 26 [l0] [vI s1, vI s0] σ Q ↔ Wp L d k_Itg_bitCount 27 [l0] [vI 4, vI s1, vI s0] σ Q := wp_push rfl
theorem r_Itg_bitCount_27 : Wp L d k_Itg_bitCount 27 [l0] [vI s2, vI s1, vI s0] σ Q ↔ Wp L d k_Itg_bitCount 28 [l0] [vI (gushr s1 s2), vI s0] σ Q := wp_iushr rfl
theorem r_Itg_bitCount_28 : Wp L d k_Itg_bitCount 28 [l0] [vI s1, vI s0] σ Q ↔ Wp L d k_Itg_bitCount 29 [l0] [vI (w32 (s0 + s1))] σ Q := wp_iadd rfl
theorem r_Itg_bitCount_29 : Wp L d k_Itg_bitCount 29 [l0] [vI s0] σ Q ↔ Wp L d k_Itg_bitCount 32 [l0] [vI 252645135, vI s0] σ Q := wp_push rfl
theorem r_Itg_bitCount_32 : Wp L d k_Itg_bitCount 32 [l0] [vI s1, vI s0] σ Q ↔ Wp L d k_Itg_bitCount 33 [l0] [vI (gand s0 s1)] σ Q := wp_iand rfl
theorem r_Itg_bitCount_33 : Wp L d k_Itg_bitCount 33 [l0] [vI s0] σ Q ↔ Wp L d k_Itg_bitCount 34 [vI s0] [] σ Q := wp_istore (i := 0) (ls := [l0]) rfl rfl
theorem r_Itg_bitCount_34 : Wp L d k_Itg_bitCount 34 [vI a0] [] σ Q ↔ Wp L d k_Itg_bitCount 35 [vI a0] [vI a0] σ Q := wp_iload rfl rfl
theorem r_Itg_bitCount_35 : Wp L d k_Itg_bitCount 35 [vI a0] [vI s0] σ Q ↔ Wp L d k_Itg_bitCount 36 [vI a0] [vI a0, vI s0] σ Q := wp_iload rfl rfl
theorem r_Itg_bitCount_36 : Wp L d k_Itg_bitCount 36 [l0] [vI s1, vI s0] σ Q ↔ Wp L d k_Itg_bitCount 38 [l0] [vI 8, vI s1, vI s0] σ Q := wp_push rfl
theorem r_Itg_bitCount_38 : Wp L d k_Itg_bitCount 38 [l0] [vI s2, vI s1, vI s0] σ Q ↔ Wp L d k_Itg_bitCount 39 [l0] [vI (gushr s1 s2), vI s0] σ Q := wp_iushr rfl
theorem r_Itg_bitCount_39 : Wp L d k_Itg_bitCount 39 [l0] [vI s1, vI s0] σ Q ↔ Wp L d k_Itg_bitCount 40 [l0] [vI (w32 (s0 + s1))] σ Q := wp_iadd rfl
theorem r_Itg_bitCount_40 : Wp L d k_Itg_bitCount 40 [l0] [vI s0] σ Q ↔ Wp L d k_Itg_bitCount 41 [vI s0] [] σ Q := wp_istore (i := 0) (ls := [l0]) rfl rfl
theorem r_Itg_bitCount_41 : Wp L d k_Itg_bitCount 41 [vI a0] [] σ Q ↔ Wp L d k_Itg_bitCount 42 [vI a0] [vI a0] σ Q := wp_iload rfl rfl
theorem r_Itg_bitCount_42 : Wp L d k_Itg_bitCount 42 [vI a0] [vI s0] σ Q ↔ Wp L d k_Itg_bitCount 43 [vI a0] [vI a0, vI s0] σ Q := wp_iload rfl rfl
theorem r_Itg_bitCount_43 : Wp L d k_Itg_bitCount 43 [l0] [vI s1, vI s0] σ Q ↔ Wp L d k_Itg_bitCount 45 [l0] [vI 16, vI s1, vI s0] σ Q := wp_push rfl
theorem r_Itg_bitCount_45 : Wp L d k_Itg_bitCount 45 [l0] [vI s2, vI s1, vI s0] σ Q ↔ Wp L d k_Itg_bitCount 46 [l0] [vI (gushr s1 s2), vI s0] σ Q := wp_iushr rfl
theorem r_Itg_bitCount_46 : Wp L d k_Itg_bitCount 46 [l0] [vI s1, vI s0] σ Q ↔ Wp L d k_Itg_bitCount 47 [l0] [vI (w32 (s0 + s1))] σ Q := wp_iadd rfl
theorem r_Itg_bitCount_47 : Wp L d k_Itg_bitCount 47 [l0] [vI s0] σ Q ↔ Wp L d k_Itg_bitCount 48 [vI s0] [] σ Q := wp_istore (i := 0) (ls := [l0]) rfl rfl
theorem r_Itg_bitCount_48 : Wp L d k_Itg_bitCount 48 [vI a0] [] σ Q ↔ Wp L d k_Itg_bitCount 49 [vI a0] [vI a0] σ Q := wp_iload rfl rfl
theorem r_Itg_bitCount_49 : Wp L d k_Itg_bitCount 49 [l0] [vI s0] σ Q ↔ Wp L d k_Itg_bitCount 51 [l0] [vI 63, vI s0] σ Q := wp_push rfl
theorem r_Itg_bitCount_51 : Wp L d k_Itg_bitCount 51 [l0] [vI s1, vI s0] σ Q ↔ Wp L d k_Itg_bitCount 52 [l0] [vI (gand s0 s1)] σ Q := wp_iand rfl
theorem r_Itg_bitCount_52 : Wp L d k_Itg_bitCount 52 [l0] [vI s0] σ Q ↔ Q (some (vI s0)) σ := wp_iret rfl
theorem sp_Itg_bitCount : Run L d 0 [vI a0] σ (some (vI (gbc a0))) σ := by
  refine Run_of (C' := k_Itg_bitCount) rfl ?_
  show Wp L d k_Itg_bitCount 0 [vI a0] [] σ _
  simp only [r_Itg_bitCount_0, r_Itg_bitCount_1, r_Itg_bitCount_2, r_Itg_bitCount_3, r_Itg_bitCount_4, r_Itg_bitCount_7, r_Itg_bitCount_8, r_Itg_bitCount_9, r_Itg_bitCount_10, r_Itg_bitCount_11, r_Itg_bitCount_14, r_Itg_bitCount_15, r_Itg_bitCount_16, r_Itg_bitCount_17, r_Itg_bitCount_18, r_Itg_bitCount_21, r_Itg_bitCount_22, r_Itg_bitCount_23, r_Itg_bitCount_24, r_Itg_bitCount_25, r_Itg_bitCount_26, r_Itg_bitCount_27, r_Itg_bitCount_28, r_Itg_bitCount_29, r_Itg_bitCount_32, r_Itg_bitCount_33, r_Itg_bitCount_34, r_Itg_bitCount_35, r_Itg_bitCount_36, r_Itg_bitCount_38, r_Itg_bitCount_39, r_Itg_bitCount_40, r_Itg_bitCount_41, r_Itg_bitCount_42, r_Itg_bitCount_43, r_Itg_bitCount_45, r_Itg_bitCount_46, r_Itg_bitCount_47, r_Itg_bitCount_48, r_Itg_bitCount_49, r_Itg_bitCount_51, r_Itg_bitCount_52]
  exact ⟨rfl, trivial⟩
theorem r_M_ones_0 : Wp L d k_M_ones 0 [l0, l1, l2] [] σ Q ↔ Wp L d k_M_ones 1 [l0, l1, l2] [vI 0] σ Q := wp_push rfl
theorem r_M_ones_1 : Wp L d k_M_ones 1 [vI a0, l1, l2] [vI s0] σ Q ↔ Wp L d k_M_ones 2 [vI a0, vI s0, l2] [] σ Q := wp_istore (i := 1) (ls := [vI a0, l1, l2]) rfl rfl
theorem r_M_ones_2 : Wp L d k_M_ones 2 [l0, l1, l2] [] σ Q ↔ Wp L d k_M_ones 3 [l0, l1, l2] [vI 0] σ Q := wp_push rfl
theorem r_M_ones_3 : Wp L d k_M_ones 3 [l0, vI a1, l2] [vI s0] σ Q ↔ Wp L d k_M_ones 4 [l0, vI a1, vI s0] [] σ Q := wp_istore (i := 2) (ls := [l0, vI a1, l2]) rfl rfl
theorem r_M_ones_4 : Wp L d k_M_ones 4 [l0, l1, vI a2] [] σ Q ↔ Wp L d k_M_ones 5 [l0, l1, vI a2] [vI a2] σ Q := wp_iload rfl rfl
theorem r_M_ones_5 : Wp L d k_M_ones 5 [l0, l1, l2] [vI s0] σ Q ↔ Wp L d k_M_ones 7 [l0, l1, l2] [vI 8, vI s0] σ Q := wp_push rfl
theorem r_M_ones_7 : Wp L d k_M_ones 7 [l0, l1, l2] [vI s1, vI s0] σ Q ↔ (if s1 ≤ s0 then Wp L d k_M_ones 24 [l0, l1, l2] [] σ Q else Wp L d k_M_ones 10 [l0, l1, l2] [] σ Q) := wp_cmp_ge rfl
theorem r_M_ones_10 : Wp L d k_M_ones 10 [l0, vI a1, l2] [] σ Q ↔ Wp L d k_M_ones 11 [l0, vI a1, l2] [vI a1] σ Q := wp_iload rfl rfl
theorem r_M_ones_11 : Wp L d k_M_ones 11 [vI a0, l1, l2] [vI s0] σ Q ↔ Wp L d k_M_ones 12 [vI a0, l1, l2] [vI a0, vI s0] σ Q := wp_iload rfl rfl
theorem r_M_ones_12 : Wp L d k_M_ones 12 [l0, l1, vI a2] [vI s1, vI s0] σ Q ↔ Wp L d k_M_ones 13 [l0, l1, vI a2] [vI a2, vI s1, vI s0] σ Q := wp_iload rfl rfl
theorem r_M_ones_13 : Wp L d k_M_ones 13 [l0, l1, l2] [vI s2, vI s1, vI s0] σ Q ↔ Wp L d k_M_ones 14 [l0, l1, l2] [vI (gshr s1 s2), vI s0] σ Q := wp_ishr rfl
theorem r_M_ones_14 : Wp L d k_M_ones 14 [l0, l1, l2] [vI s1, vI s0] σ Q ↔ Wp L d k_M_ones 15 [l0, l1, l2] [vI 1, vI s1, vI s0] σ Q := wp_push rfl
theorem r_M_ones_15 : Wp L d k_M_ones 15 [l0, l1, l2] [vI s2, vI s1, vI s0] σ Q ↔ Wp L d k_M_ones 16 [l0, l1, l2] [vI (gand s1 s2), vI s0] σ Q := wp_iand rfl
theorem r_M_ones_16 : Wp L d k_M_ones 16 [l0, l1, l2] [vI s1, vI s0] σ Q ↔ Wp L d k_M_ones 17 [l0, l1, l2] [vI (w32 (s0 + s1))] σ Q := wp_iadd rfl
theorem r_M_ones_17 : Wp L d k_M_ones 17 [vI a0, l1, l2] [vI s0] σ Q ↔ Wp L d k_M_ones 18 [vI a0, vI s0, l2] [] σ Q := wp_istore (i := 1) (ls := [vI a0, l1, l2]) rfl rfl
theorem r_M_ones_18 : Wp L d k_M_ones 18 [l0, vI a1, vI a2] [] σ Q ↔ Wp L d k_M_ones 21 [l0, vI a1, vI (w32 (a2 + 1))] [] σ Q := wp_iinc (i := 2) (ls := [l0, vI a1, vI a2]) rfl rfl
theorem r_M_ones_21 : Wp L d k_M_ones 21 [l0, l1, l2] [] σ Q ↔ Wp L d k_M_ones 4 [l0, l1, l2] [] σ Q := wp_goto rfl
theorem r_M_ones_24 : Wp L d k_M_ones 24 [l0, vI a1, l2] [] σ Q ↔ Wp L d k_M_ones 25 [l0, vI a1, l2] [vI a1] σ Q := wp_iload rfl rfl
theorem r_M_ones_25 : Wp L d k_M_ones 25 [l0, l1, l2] [vI s0] σ Q ↔ Q (some (vI s0)) σ := wp_iret rfl
theorem sp_M_ones (h : 0 ≤ a0 ∧ a0 < 256) : Run L d 312 [vI a0] σ (some (vI (gones a0))) σ := by
  refine Run_of (C' := k_M_ones) rfl ?_
  show Wp L d k_M_ones 0 [vI a0, vU, vU] [] σ _
  simp only [r_M_ones_0, r_M_ones_1, r_M_ones_2, r_M_ones_3, r_M_ones_5, r_M_ones_7, r_M_ones_10, r_M_ones_11, r_M_ones_12, r_M_ones_13, r_M_ones_14, r_M_ones_15, r_M_ones_16, r_M_ones_17, r_M_ones_18, r_M_ones_21, r_M_ones_24, r_M_ones_25]
  refine wl 8 (fun k => [vI a0, vI (gsm (fun k => gbt a0 (k : Nat)) k), vI (k : Int)]) (fun _ => σ) rfl rfl (fun k hk hq => ?_) ?_
  · have b0 := gsm_bd (g := fun k => gbt a0 (k : Nat)) (B := 1) k (fun j hj => by
      have := gbt_01 a0.toNat (by omega) j (by omega)
      rw [show ((a0.toNat : Nat) : Int) = a0 by omega] at this
      omega)
    have b1 := gbt_01 a0.toNat (by omega) k (by omega)
    rw [show ((a0.toNat : Nat) : Int) = a0 by omega] at b1
    have b2 : gand (gshr a0 (k : Int)) 1 = gbt a0 (k : Nat) := rfl
    rw [r_M_ones_4]
    simp (disch := first | assumption | exact gb_01 _ | omega) only [r_M_ones_0, r_M_ones_1, r_M_ones_2, r_M_ones_3, r_M_ones_5, r_M_ones_7, r_M_ones_10, r_M_ones_11, r_M_ones_12, r_M_ones_13, r_M_ones_14, r_M_ones_15, r_M_ones_16, r_M_ones_17, r_M_ones_18, r_M_ones_21, r_M_ones_24, r_M_ones_25, b2, w32_gb, w32i, tn_add, tn_mul, Int.toNat_natCast, Int.toNat_zero, Int.reduceLE, Int.reduceLT, Int.reduceEq, Int.reduceNe, gb_T, gb_F, Int.reduceToNat, eq_self, true_or, or_true, and_true, true_and, and_self, ↓ite_gb0, ↓ite_gbn, ↓if_pos, ↓if_neg, if_true, if_false, not_true_eq_false, not_false_eq_true, gb_ne0, gb_eq0]
    refine hq _ _ ?_ rfl
    simp only [List.cons.injEq, vI_inj, vR_inj, and_true, true_and]
    exact ⟨rfl, by omega⟩
  · rw [r_M_ones_4]
    simp (disch := first | assumption | exact gb_01 _ | omega) only [r_M_ones_0, r_M_ones_1, r_M_ones_2, r_M_ones_3, r_M_ones_5, r_M_ones_7, r_M_ones_10, r_M_ones_11, r_M_ones_12, r_M_ones_13, r_M_ones_14, r_M_ones_15, r_M_ones_16, r_M_ones_17, r_M_ones_18, r_M_ones_21, r_M_ones_24, r_M_ones_25, w32_gb, w32i, tn_add, tn_mul, Int.toNat_natCast, Int.toNat_zero, Int.reduceLE, Int.reduceLT, Int.reduceEq, Int.reduceNe, gb_T, gb_F, Int.reduceToNat, eq_self, true_or, or_true, and_true, true_and, and_self, ↓ite_gb0, ↓ite_gbn, ↓if_pos, ↓if_neg, if_true, if_false, not_true_eq_false, not_false_eq_true, gb_ne0, gb_eq0]
    rfl
theorem r_M_safeBy_0 : Wp L d k_M_safeBy 0 [l0, l1, l2, l3] [] σ Q ↔ Wp L d k_M_safeBy 1 [l0, l1, l2, l3] [vI 0] σ Q := wp_push rfl
theorem r_M_safeBy_1 : Wp L d k_M_safeBy 1 [l0, vI a1, l2, l3] [vI s0] σ Q ↔ Wp L d k_M_safeBy 2 [l0, vI a1, vI s0, l3] [] σ Q := wp_istore (i := 2) (ls := [l0, vI a1, l2, l3]) rfl rfl
theorem r_M_safeBy_2 : Wp L d k_M_safeBy 2 [l0, l1, vI a2, l3] [] σ Q ↔ Wp L d k_M_safeBy 3 [l0, l1, vI a2, l3] [vI a2] σ Q := wp_iload rfl rfl
theorem r_M_safeBy_3 : Wp L d k_M_safeBy 3 [vR b0, l1, l2, l3] [vI s0] σ Q ↔ Wp L d k_M_safeBy 4 [vR b0, l1, l2, l3] [vR b0, vI s0] σ Q := wp_aload rfl rfl
theorem r_M_safeBy_4 (h : gK c1 = 12) : Wp L d k_M_safeBy 4 [l0, l1, l2, l3] [vR c1, vI s0] σ Q ↔ Wp L d k_M_safeBy 7 [l0, l1, l2, l3] [vR (gq c1 0), vI s0] σ Q := wp_getR (c := 3200) rfl rfl rfl rfl rfl h
theorem r_M_safeBy_7 : Wp L d k_M_safeBy 7 [l0, l1, l2, l3] [vR c1, vI s0] σ Q ↔ Wp L d k_M_safeBy 9 [l0, l1, l2, l3] [vI 6, vR c1, vI s0] σ Q := wp_push rfl
theorem r_M_safeBy_9 (h : gK c1 = 100) (hx : 0 ≤ s2 ∧ s2 < gN c1) : Wp L d k_M_safeBy 9 [l0, l1, l2, l3] [vI s2, vR c1, vI s0] σ Q ↔ Wp L d k_M_safeBy 10 [l0, l1, l2, l3] [vI (σ c1 s2.toNat), vI s0] σ Q := wp_iald rfl h hx
theorem r_M_safeBy_10 : Wp L d k_M_safeBy 10 [l0, l1, l2, l3] [vI s1, vI s0] σ Q ↔ (if s1 ≤ s0 then Wp L d k_M_safeBy 73 [l0, l1, l2, l3] [] σ Q else Wp L d k_M_safeBy 13 [l0, l1, l2, l3] [] σ Q) := wp_cmp_ge rfl
theorem r_M_safeBy_13 : Wp L d k_M_safeBy 13 [vR b0, l1, l2, l3] [] σ Q ↔ Wp L d k_M_safeBy 14 [vR b0, l1, l2, l3] [vR b0] σ Q := wp_aload rfl rfl
theorem r_M_safeBy_14 : Wp L d k_M_safeBy 14 [vR b0, l1, l2, l3] [vR c0] σ Q ↔ Wp L d k_M_safeBy 15 [vR b0, l1, l2, l3] [vR b0, vR c0] σ Q := wp_aload rfl rfl
theorem r_M_safeBy_15 (h : gK c1 = 12) : Wp L d k_M_safeBy 15 [l0, l1, l2, l3] [vR c1, vR c0] σ Q ↔ Wp L d k_M_safeBy 18 [l0, l1, l2, l3] [vR (gq c1 0), vR c0] σ Q := wp_getR (c := 3200) rfl rfl rfl rfl rfl h
theorem r_M_safeBy_18 : Wp L d k_M_safeBy 18 [l0, l1, l2, l3] [vR c1, vR c0] σ Q ↔ Wp L d k_M_safeBy 21 [l0, l1, l2, l3] [vI 920, vR c1, vR c0] σ Q := wp_push rfl
theorem r_M_safeBy_21 : Wp L d k_M_safeBy 21 [l0, l1, vI a2, l3] [vI s2, vR c1, vR c0] σ Q ↔ Wp L d k_M_safeBy 22 [l0, l1, vI a2, l3] [vI a2, vI s2, vR c1, vR c0] σ Q := wp_iload rfl rfl
theorem r_M_safeBy_22 : Wp L d k_M_safeBy 22 [l0, l1, l2, l3] [vI s3, vI s2, vR c1, vR c0] σ Q ↔ Wp L d k_M_safeBy 23 [l0, l1, l2, l3] [vI (w32 (s2 + s3)), vR c1, vR c0] σ Q := wp_iadd rfl
theorem r_M_safeBy_23 (h : gK c1 = 100) (hx : 0 ≤ s2 ∧ s2 < gN c1) : Wp L d k_M_safeBy 23 [l0, l1, l2, l3] [vI s2, vR c1, vR c0] σ Q ↔ Wp L d k_M_safeBy 24 [l0, l1, l2, l3] [vI (σ c1 s2.toNat), vR c0] σ Q := wp_iald rfl h hx
theorem r_M_safeBy_27 : Wp L d k_M_safeBy 27 [l0, l1, l2, l3] [vI s0] σ Q ↔ Wp L d k_M_safeBy 28 [l0, l1, l2, l3] [vI 5, vI s0] σ Q := wp_push rfl
theorem r_M_safeBy_28 : Wp L d k_M_safeBy 28 [l0, l1, l2, l3] [vI s1, vI s0] σ Q ↔ Wp L d k_M_safeBy 29 [l0, l1, l2, l3] [vI (w32 (s0 + s1))] σ Q := wp_iadd rfl
theorem r_M_safeBy_29 : Wp L d k_M_safeBy 29 [l0, l1, vI a2, l3] [vI s0] σ Q ↔ Wp L d k_M_safeBy 30 [l0, l1, vI a2, vI s0] [] σ Q := wp_istore (i := 3) (ls := [l0, l1, vI a2, l3]) rfl rfl
theorem r_M_safeBy_30 : Wp L d k_M_safeBy 30 [vR b0, l1, l2, l3] [] σ Q ↔ Wp L d k_M_safeBy 31 [vR b0, l1, l2, l3] [vR b0] σ Q := wp_aload rfl rfl
theorem r_M_safeBy_31 (h : gK c0 = 12) : Wp L d k_M_safeBy 31 [l0, l1, l2, l3] [vR c0] σ Q ↔ Wp L d k_M_safeBy 34 [l0, l1, l2, l3] [vR (gq c0 25)] σ Q := wp_getR (c := 3225) rfl rfl rfl rfl rfl h
theorem r_M_safeBy_34 : Wp L d k_M_safeBy 34 [l0, l1, vI a2, l3] [vR c0] σ Q ↔ Wp L d k_M_safeBy 35 [l0, l1, vI a2, l3] [vI a2, vR c0] σ Q := wp_iload rfl rfl
theorem r_M_safeBy_35 : Wp L d k_M_safeBy 35 [vR b0, l1, l2, l3] [vI s1, vR c0] σ Q ↔ Wp L d k_M_safeBy 36 [vR b0, l1, l2, l3] [vR b0, vI s1, vR c0] σ Q := wp_aload rfl rfl
theorem r_M_safeBy_36 (h : gK c2 = 12) : Wp L d k_M_safeBy 36 [l0, l1, l2, l3] [vR c2, vI s1, vR c0] σ Q ↔ Wp L d k_M_safeBy 39 [l0, l1, l2, l3] [vR (gq c2 0), vI s1, vR c0] σ Q := wp_getR (c := 3200) rfl rfl rfl rfl rfl h
theorem r_M_safeBy_39 : Wp L d k_M_safeBy 39 [l0, l1, l2, vI a3] [vR c2, vI s1, vR c0] σ Q ↔ Wp L d k_M_safeBy 40 [l0, l1, l2, vI a3] [vI a3, vR c2, vI s1, vR c0] σ Q := wp_iload rfl rfl
theorem r_M_safeBy_40 (h : gK c2 = 100) (hx : 0 ≤ s3 ∧ s3 < gN c2) : Wp L d k_M_safeBy 40 [l0, l1, l2, l3] [vI s3, vR c2, vI s1, vR c0] σ Q ↔ Wp L d k_M_safeBy 41 [l0, l1, l2, l3] [vI (σ c2 s3.toNat), vI s1, vR c0] σ Q := wp_iald rfl h hx
theorem r_M_safeBy_41 (h : gK c0 = 100) (hx : 0 ≤ s1 ∧ s1 < gN c0) : Wp L d k_M_safeBy 41 [l0, l1, l2, l3] [vI s2, vI s1, vR c0] σ Q ↔ Wp L d k_M_safeBy 42 [l0, l1, l2, l3] [] (gupd σ c0 s1.toNat s2) Q := wp_iast rfl h hx
theorem r_M_safeBy_42 : Wp L d k_M_safeBy 42 [vR b0, l1, l2, l3] [] σ Q ↔ Wp L d k_M_safeBy 43 [vR b0, l1, l2, l3] [vR b0] σ Q := wp_aload rfl rfl
theorem r_M_safeBy_43 (h : gK c0 = 12) : Wp L d k_M_safeBy 43 [l0, l1, l2, l3] [vR c0] σ Q ↔ Wp L d k_M_safeBy 46 [l0, l1, l2, l3] [vR (gq c0 0)] σ Q := wp_getR (c := 3200) rfl rfl rfl rfl rfl h
theorem r_M_safeBy_46 : Wp L d k_M_safeBy 46 [l0, l1, l2, vI a3] [vR c0] σ Q ↔ Wp L d k_M_safeBy 47 [l0, l1, l2, vI a3] [vI a3, vR c0] σ Q := wp_iload rfl rfl
theorem r_M_safeBy_47 : Wp L d k_M_safeBy 47 [l0, vI a1, l2, l3] [vI s1, vR c0] σ Q ↔ Wp L d k_M_safeBy 48 [l0, vI a1, l2, l3] [vI a1, vI s1, vR c0] σ Q := wp_iload rfl rfl
theorem r_M_safeBy_48 : Wp L d k_M_safeBy 48 [l0, l1, vI a2, l3] [vI s2, vI s1, vR c0] σ Q ↔ Wp L d k_M_safeBy 49 [l0, l1, vI a2, l3] [vI a2, vI s2, vI s1, vR c0] σ Q := wp_iload rfl rfl
theorem r_M_safeBy_49 : Wp L d k_M_safeBy 49 [l0, l1, l2, l3] [vI s3, vI s2, vI s1, vR c0] σ Q ↔ Wp L d k_M_safeBy 50 [l0, l1, l2, l3] [vI (gshr s2 s3), vI s1, vR c0] σ Q := wp_ishr rfl
theorem r_M_safeBy_50 : Wp L d k_M_safeBy 50 [l0, l1, l2, l3] [vI s2, vI s1, vR c0] σ Q ↔ Wp L d k_M_safeBy 51 [l0, l1, l2, l3] [vI 1, vI s2, vI s1, vR c0] σ Q := wp_push rfl
theorem r_M_safeBy_51 : Wp L d k_M_safeBy 51 [l0, l1, l2, l3] [vI s3, vI s2, vI s1, vR c0] σ Q ↔ Wp L d k_M_safeBy 52 [l0, l1, l2, l3] [vI (gand s2 s3), vI s1, vR c0] σ Q := wp_iand rfl
theorem r_M_safeBy_52 : Wp L d k_M_safeBy 52 [l0, l1, l2, l3] [vI s2, vI s1, vR c0] σ Q ↔ Wp L d k_M_safeBy 53 [l0, l1, l2, l3] [vI 1, vI s2, vI s1, vR c0] σ Q := wp_push rfl
theorem r_M_safeBy_53 : Wp L d k_M_safeBy 53 [l0, l1, l2, l3] [vI s3, vI s2, vI s1, vR c0] σ Q ↔ (if s2 ≠ s3 then Wp L d k_M_safeBy 60 [l0, l1, l2, l3] [vI s1, vR c0] σ Q else Wp L d k_M_safeBy 56 [l0, l1, l2, l3] [vI s1, vR c0] σ Q) := wp_cmp_ne rfl
theorem r_M_safeBy_56 : Wp L d k_M_safeBy 56 [l0, l1, l2, l3] [vI s1, vR c0] σ Q ↔ Wp L d k_M_safeBy 57 [l0, l1, l2, l3] [vI 0, vI s1, vR c0] σ Q := wp_push rfl
theorem r_M_safeBy_57 : Wp L d k_M_safeBy 57 [l0, l1, l2, l3] [vI s2, vI s1, vR c0] σ Q ↔ Wp L d k_M_safeBy 66 [l0, l1, l2, l3] [vI s2, vI s1, vR c0] σ Q := wp_goto rfl
theorem r_M_safeBy_60 : Wp L d k_M_safeBy 60 [vR b0, l1, l2, l3] [vI s1, vR c0] σ Q ↔ Wp L d k_M_safeBy 61 [vR b0, l1, l2, l3] [vR b0, vI s1, vR c0] σ Q := wp_aload rfl rfl
theorem r_M_safeBy_61 (h : gK c2 = 12) : Wp L d k_M_safeBy 61 [l0, l1, l2, l3] [vR c2, vI s1, vR c0] σ Q ↔ Wp L d k_M_safeBy 64 [l0, l1, l2, l3] [vR (gq c2 0), vI s1, vR c0] σ Q := wp_getR (c := 3200) rfl rfl rfl rfl rfl h
theorem r_M_safeBy_64 : Wp L d k_M_safeBy 64 [l0, l1, l2, vI a3] [vR c2, vI s1, vR c0] σ Q ↔ Wp L d k_M_safeBy 65 [l0, l1, l2, vI a3] [vI a3, vR c2, vI s1, vR c0] σ Q := wp_iload rfl rfl
theorem r_M_safeBy_65 (h : gK c2 = 100) (hx : 0 ≤ s3 ∧ s3 < gN c2) : Wp L d k_M_safeBy 65 [l0, l1, l2, l3] [vI s3, vR c2, vI s1, vR c0] σ Q ↔ Wp L d k_M_safeBy 66 [l0, l1, l2, l3] [vI (σ c2 s3.toNat), vI s1, vR c0] σ Q := wp_iald rfl h hx
theorem r_M_safeBy_66 (h : gK c0 = 100) (hx : 0 ≤ s1 ∧ s1 < gN c0) : Wp L d k_M_safeBy 66 [l0, l1, l2, l3] [vI s2, vI s1, vR c0] σ Q ↔ Wp L d k_M_safeBy 67 [l0, l1, l2, l3] [] (gupd σ c0 s1.toNat s2) Q := wp_iast rfl h hx
theorem r_M_safeBy_67 : Wp L d k_M_safeBy 67 [l0, vI a1, vI a2, l3] [] σ Q ↔ Wp L d k_M_safeBy 70 [l0, vI a1, vI (w32 (a2 + 1)), l3] [] σ Q := wp_iinc (i := 2) (ls := [l0, vI a1, vI a2, l3]) rfl rfl
theorem r_M_safeBy_70 : Wp L d k_M_safeBy 70 [l0, l1, l2, l3] [] σ Q ↔ Wp L d k_M_safeBy 2 [l0, l1, l2, l3] [] σ Q := wp_goto rfl
theorem r_M_safeBy_73 : Wp L d k_M_safeBy 73 [vR b0, l1, l2, l3] [] σ Q ↔ Wp L d k_M_safeBy 74 [vR b0, l1, l2, l3] [vR b0] σ Q := wp_aload rfl rfl
theorem r_M_safeBy_77 : Wp L d k_M_safeBy 77 [l0, vI a1, l2, l3] [vI s0] σ Q ↔ Wp L d k_M_safeBy 78 [l0, vI a1, vI s0, l3] [] σ Q := wp_istore (i := 2) (ls := [l0, vI a1, l2, l3]) rfl rfl
theorem r_M_safeBy_78 : Wp L d k_M_safeBy 78 [l0, l1, l2, l3] [] σ Q ↔ Wp L d k_M_safeBy 79 [l0, l1, l2, l3] [vI 0] σ Q := wp_push rfl
theorem r_M_safeBy_79 : Wp L d k_M_safeBy 79 [l0, l1, vI a2, l3] [vI s0] σ Q ↔ Wp L d k_M_safeBy 80 [l0, l1, vI a2, vI s0] [] σ Q := wp_istore (i := 3) (ls := [l0, l1, vI a2, l3]) rfl rfl
theorem r_M_safeBy_80 : Wp L d k_M_safeBy 80 [l0, l1, l2, vI a3] [] σ Q ↔ Wp L d k_M_safeBy 81 [l0, l1, l2, vI a3] [vI a3] σ Q := wp_iload rfl rfl
theorem r_M_safeBy_81 : Wp L d k_M_safeBy 81 [vR b0, l1, l2, l3] [vI s0] σ Q ↔ Wp L d k_M_safeBy 82 [vR b0, l1, l2, l3] [vR b0, vI s0] σ Q := wp_aload rfl rfl
theorem r_M_safeBy_82 (h : gK c1 = 12) : Wp L d k_M_safeBy 82 [l0, l1, l2, l3] [vR c1, vI s0] σ Q ↔ Wp L d k_M_safeBy 85 [l0, l1, l2, l3] [vR (gq c1 0), vI s0] σ Q := wp_getR (c := 3200) rfl rfl rfl rfl rfl h
theorem r_M_safeBy_85 : Wp L d k_M_safeBy 85 [l0, l1, l2, l3] [vR c1, vI s0] σ Q ↔ Wp L d k_M_safeBy 87 [l0, l1, l2, l3] [vI 6, vR c1, vI s0] σ Q := wp_push rfl
theorem r_M_safeBy_87 (h : gK c1 = 100) (hx : 0 ≤ s2 ∧ s2 < gN c1) : Wp L d k_M_safeBy 87 [l0, l1, l2, l3] [vI s2, vR c1, vI s0] σ Q ↔ Wp L d k_M_safeBy 88 [l0, l1, l2, l3] [vI (σ c1 s2.toNat), vI s0] σ Q := wp_iald rfl h hx
theorem r_M_safeBy_88 : Wp L d k_M_safeBy 88 [l0, l1, l2, l3] [vI s1, vI s0] σ Q ↔ (if s1 ≤ s0 then Wp L d k_M_safeBy 124 [l0, l1, l2, l3] [] σ Q else Wp L d k_M_safeBy 91 [l0, l1, l2, l3] [] σ Q) := wp_cmp_ge rfl
theorem r_M_safeBy_91 : Wp L d k_M_safeBy 91 [vR b0, l1, l2, l3] [] σ Q ↔ Wp L d k_M_safeBy 92 [vR b0, l1, l2, l3] [vR b0] σ Q := wp_aload rfl rfl
theorem r_M_safeBy_92 (h : gK c0 = 12) : Wp L d k_M_safeBy 92 [l0, l1, l2, l3] [vR c0] σ Q ↔ Wp L d k_M_safeBy 95 [l0, l1, l2, l3] [vR (gq c0 0)] σ Q := wp_getR (c := 3200) rfl rfl rfl rfl rfl h
theorem r_M_safeBy_95 : Wp L d k_M_safeBy 95 [vR b0, l1, l2, l3] [vR c0] σ Q ↔ Wp L d k_M_safeBy 96 [vR b0, l1, l2, l3] [vR b0, vR c0] σ Q := wp_aload rfl rfl
theorem r_M_safeBy_96 : Wp L d k_M_safeBy 96 [vR b0, l1, l2, l3] [vR c1, vR c0] σ Q ↔ Wp L d k_M_safeBy 97 [vR b0, l1, l2, l3] [vR b0, vR c1, vR c0] σ Q := wp_aload rfl rfl
theorem r_M_safeBy_97 (h : gK c2 = 12) : Wp L d k_M_safeBy 97 [l0, l1, l2, l3] [vR c2, vR c1, vR c0] σ Q ↔ Wp L d k_M_safeBy 100 [l0, l1, l2, l3] [vR (gq c2 0), vR c1, vR c0] σ Q := wp_getR (c := 3200) rfl rfl rfl rfl rfl h
theorem r_M_safeBy_100 : Wp L d k_M_safeBy 100 [l0, l1, l2, l3] [vR c2, vR c1, vR c0] σ Q ↔ Wp L d k_M_safeBy 103 [l0, l1, l2, l3] [vI 920, vR c2, vR c1, vR c0] σ Q := wp_push rfl
theorem r_M_safeBy_103 : Wp L d k_M_safeBy 103 [l0, l1, l2, vI a3] [vI s3, vR c2, vR c1, vR c0] σ Q ↔ Wp L d k_M_safeBy 104 [l0, l1, l2, vI a3] [vI a3, vI s3, vR c2, vR c1, vR c0] σ Q := wp_iload rfl rfl
theorem r_M_safeBy_104 : Wp L d k_M_safeBy 104 [l0, l1, l2, l3] [vI s4, vI s3, vR c2, vR c1, vR c0] σ Q ↔ Wp L d k_M_safeBy 105 [l0, l1, l2, l3] [vI (w32 (s3 + s4)), vR c2, vR c1, vR c0] σ Q := wp_iadd rfl
theorem r_M_safeBy_105 (h : gK c2 = 100) (hx : 0 ≤ s3 ∧ s3 < gN c2) : Wp L d k_M_safeBy 105 [l0, l1, l2, l3] [vI s3, vR c2, vR c1, vR c0] σ Q ↔ Wp L d k_M_safeBy 106 [l0, l1, l2, l3] [vI (σ c2 s3.toNat), vR c1, vR c0] σ Q := wp_iald rfl h hx
theorem r_M_safeBy_109 : Wp L d k_M_safeBy 109 [l0, l1, l2, l3] [vI s1, vR c0] σ Q ↔ Wp L d k_M_safeBy 110 [l0, l1, l2, l3] [vI 5, vI s1, vR c0] σ Q := wp_push rfl
theorem r_M_safeBy_110 : Wp L d k_M_safeBy 110 [l0, l1, l2, l3] [vI s2, vI s1, vR c0] σ Q ↔ Wp L d k_M_safeBy 111 [l0, l1, l2, l3] [vI (w32 (s1 + s2)), vR c0] σ Q := wp_iadd rfl
theorem r_M_safeBy_111 : Wp L d k_M_safeBy 111 [vR b0, l1, l2, l3] [vI s1, vR c0] σ Q ↔ Wp L d k_M_safeBy 112 [vR b0, l1, l2, l3] [vR b0, vI s1, vR c0] σ Q := wp_aload rfl rfl
theorem r_M_safeBy_112 (h : gK c2 = 12) : Wp L d k_M_safeBy 112 [l0, l1, l2, l3] [vR c2, vI s1, vR c0] σ Q ↔ Wp L d k_M_safeBy 115 [l0, l1, l2, l3] [vR (gq c2 25), vI s1, vR c0] σ Q := wp_getR (c := 3225) rfl rfl rfl rfl rfl h
theorem r_M_safeBy_115 : Wp L d k_M_safeBy 115 [l0, l1, l2, vI a3] [vR c2, vI s1, vR c0] σ Q ↔ Wp L d k_M_safeBy 116 [l0, l1, l2, vI a3] [vI a3, vR c2, vI s1, vR c0] σ Q := wp_iload rfl rfl
theorem r_M_safeBy_116 (h : gK c2 = 100) (hx : 0 ≤ s3 ∧ s3 < gN c2) : Wp L d k_M_safeBy 116 [l0, l1, l2, l3] [vI s3, vR c2, vI s1, vR c0] σ Q ↔ Wp L d k_M_safeBy 117 [l0, l1, l2, l3] [vI (σ c2 s3.toNat), vI s1, vR c0] σ Q := wp_iald rfl h hx
theorem r_M_safeBy_117 (h : gK c0 = 100) (hx : 0 ≤ s1 ∧ s1 < gN c0) : Wp L d k_M_safeBy 117 [l0, l1, l2, l3] [vI s2, vI s1, vR c0] σ Q ↔ Wp L d k_M_safeBy 118 [l0, l1, l2, l3] [] (gupd σ c0 s1.toNat s2) Q := wp_iast rfl h hx
theorem r_M_safeBy_118 : Wp L d k_M_safeBy 118 [l0, l1, vI a2, vI a3] [] σ Q ↔ Wp L d k_M_safeBy 121 [l0, l1, vI a2, vI (w32 (a3 + 1))] [] σ Q := wp_iinc (i := 3) (ls := [l0, l1, vI a2, vI a3]) rfl rfl
theorem r_M_safeBy_121 : Wp L d k_M_safeBy 121 [l0, l1, l2, l3] [] σ Q ↔ Wp L d k_M_safeBy 80 [l0, l1, l2, l3] [] σ Q := wp_goto rfl
theorem r_M_safeBy_124 : Wp L d k_M_safeBy 124 [l0, l1, vI a2, l3] [] σ Q ↔ Wp L d k_M_safeBy 125 [l0, l1, vI a2, l3] [vI a2] σ Q := wp_iload rfl rfl
theorem r_M_safeBy_125 : Wp L d k_M_safeBy 125 [l0, l1, l2, l3] [vI s0] σ Q ↔ Q (some (vI s0)) σ := wp_iret rfl
theorem r_M_safeBy_24 : Wp L (d + 7) k_M_safeBy 24 [l0, l1, l2, l3] [vI s1, vR 293] σ Q ↔ Wp L (d + 7) k_M_safeBy 27 [l0, l1, l2, l3] [vI (w32 (120 + w32 (12 * s1)))] σ Q := wp_callR (d := d + 6) (as := [vR 293, vI s1]) (rest := []) rfl rfl rfl rfl rfl rfl rfl (grecv_k (by rw [gK_293]) rfl) (sp_M_partAt)
theorem r_M_safeBy_74 (hw : WB (σ 294)) : Wp L (d + 7) k_M_safeBy 74 [l0, l1, l2, l3] [vR 293] σ Q ↔ Wp L (d + 7) k_M_safeBy 77 [l0, l1, l2, l3] [vI (brsf (σ 294))] σ Q := wp_callR (d := d + 6) (as := [vR 293]) (rest := []) rfl rfl rfl rfl rfl rfl rfl (grecv_k (by rw [gK_293]) rfl) (sp_M_safe hw)
theorem r_M_safeBy_106 : Wp L (d + 7) k_M_safeBy 106 [l0, l1, l2, l3] [vI s2, vR 293, vR c0] σ Q ↔ Wp L (d + 7) k_M_safeBy 109 [l0, l1, l2, l3] [vI (w32 (120 + w32 (12 * s2))), vR c0] σ Q := wp_callR (d := d + 6) (as := [vR 293, vI s2]) (rest := [vR c0]) rfl rfl rfl rfl rfl rfl rfl (grecv_k (by rw [gK_293]) rfl) (sp_M_partAt)
theorem sp_M_safeBy (hw : WB (σ 294)) (hr : WR (σ 294)) : ∃ σ', Run L (d + 7) 311 [vR 293, vI a1] σ (some (vI (brsy (σ 294) a1))) σ' ∧ Agr σ σ' (fun k _ => k = 306) := by
  refine Run_ex (C' := k_M_safeBy) rfl ?_
  show Wp L (d + 7) k_M_safeBy 0 [vR 293, vI a1, vU, vU] [] σ _
  obtain ⟨K293, Q293, K294, N294⟩ := litM
  have K306 := gK_306
  have N306 := gN_306
  have w1 := hw.1
  have w2 := hw.2.1
  have w6 := hr.1
  simp only [r_M_safeBy_0, r_M_safeBy_1, r_M_safeBy_3, r_M_safeBy_4, r_M_safeBy_7, r_M_safeBy_9, r_M_safeBy_10, r_M_safeBy_13, r_M_safeBy_14, r_M_safeBy_15, r_M_safeBy_18, r_M_safeBy_21, r_M_safeBy_22, r_M_safeBy_23, r_M_safeBy_24, r_M_safeBy_27, r_M_safeBy_28, r_M_safeBy_29, r_M_safeBy_30, r_M_safeBy_31, r_M_safeBy_34, r_M_safeBy_35, r_M_safeBy_36, r_M_safeBy_39, r_M_safeBy_40, r_M_safeBy_41, r_M_safeBy_42, r_M_safeBy_43, r_M_safeBy_46, r_M_safeBy_47, r_M_safeBy_48, r_M_safeBy_49, r_M_safeBy_50, r_M_safeBy_51, r_M_safeBy_52, r_M_safeBy_53, r_M_safeBy_56, r_M_safeBy_57, r_M_safeBy_60, r_M_safeBy_61, r_M_safeBy_64, r_M_safeBy_65, r_M_safeBy_66, r_M_safeBy_67, r_M_safeBy_70, r_M_safeBy_73, r_M_safeBy_74, r_M_safeBy_77, r_M_safeBy_78, r_M_safeBy_79, r_M_safeBy_81, r_M_safeBy_82, r_M_safeBy_85, r_M_safeBy_87, r_M_safeBy_88, r_M_safeBy_91, r_M_safeBy_92, r_M_safeBy_95, r_M_safeBy_96, r_M_safeBy_97, r_M_safeBy_100, r_M_safeBy_103, r_M_safeBy_104, r_M_safeBy_105, r_M_safeBy_106, r_M_safeBy_109, r_M_safeBy_110, r_M_safeBy_111, r_M_safeBy_112, r_M_safeBy_115, r_M_safeBy_116, r_M_safeBy_117, r_M_safeBy_118, r_M_safeBy_121, r_M_safeBy_124, r_M_safeBy_125]
  refine wloop (n := (σ 294 6).toNat) (I := fun k ls τ => (∃ l, ls = [vR 293, vI a1, vI (k : Int), l]) ∧ τ 294 = brsl (σ 294) a1 k ∧ (∀ i : Nat, i < k → τ 306 i = σ 294 (brsp (σ 294) i)) ∧ Agr σ τ (fun k _ => k = 294 ∨ k = 306)) (fun k ls τ hk hi hq => ?_) (fun ls τ hi => ?_) (σ 294 6).toNat 0 (by omega) _ _ ⟨⟨_, rfl⟩, rfl, fun i hi => by omega, Agr_refl _ _⟩
  · obtain ⟨⟨l, rfl⟩, h1, h2, hA⟩ := hi
    obtain ⟨o1, o2, o3⟩ := brsl_ok hw hr a1 k (by omega)
    obtain ⟨p1, p2⟩ := brsl_at hr a1 k (by omega)
    have e6 : τ 294 6 = σ 294 6 := by rw [h1]; exact o3 _ (by omega)
    have e9 : τ 294 (920 + k) = σ 294 (920 + k) := by rw [h1]; exact o3 _ (by omega)
    have b := brsp_bd hw hr (i := k) (by omega)
    have r := hr.2.1 k (by omega)
    have es : 120 + 12 * (σ 294 (920 + k)).toNat + 5 = brsp (σ 294) k := rfl
    have ev : τ 294 (brsp (σ 294) k) = σ 294 (brsp (σ 294) k) := by rw [h1]; exact p1 _ (fun i hi => brsp_ne hr (by omega) (by omega) (by omega))
    have b2 : gand (gshr a1 (k : Int)) 1 = gbt a1 (k : Nat) := rfl
    have es2 : 120 + 12 * (σ 294 (920 + k)).toNat = brsp (σ 294) k - 5 := by omega
    have es3 : brsp (σ 294) k - 5 + 5 = brsp (σ 294) k := by omega
    rw [r_M_safeBy_2]
    by_cases c : gbt a1 (k : Int) = 1
    · simp (disch := first | assumption | exact gb_01 _ | omega) only [r_M_safeBy_0, r_M_safeBy_1, r_M_safeBy_3, r_M_safeBy_4, r_M_safeBy_7, r_M_safeBy_9, r_M_safeBy_10, r_M_safeBy_13, r_M_safeBy_14, r_M_safeBy_15, r_M_safeBy_18, r_M_safeBy_21, r_M_safeBy_22, r_M_safeBy_23, r_M_safeBy_24, r_M_safeBy_27, r_M_safeBy_28, r_M_safeBy_29, r_M_safeBy_30, r_M_safeBy_31, r_M_safeBy_34, r_M_safeBy_35, r_M_safeBy_36, r_M_safeBy_39, r_M_safeBy_40, r_M_safeBy_41, r_M_safeBy_42, r_M_safeBy_43, r_M_safeBy_46, r_M_safeBy_47, r_M_safeBy_48, r_M_safeBy_49, r_M_safeBy_50, r_M_safeBy_51, r_M_safeBy_52, r_M_safeBy_53, r_M_safeBy_56, r_M_safeBy_57, r_M_safeBy_60, r_M_safeBy_61, r_M_safeBy_64, r_M_safeBy_65, r_M_safeBy_66, r_M_safeBy_67, r_M_safeBy_70, r_M_safeBy_73, r_M_safeBy_74, r_M_safeBy_77, r_M_safeBy_78, r_M_safeBy_79, r_M_safeBy_81, r_M_safeBy_82, r_M_safeBy_85, r_M_safeBy_87, r_M_safeBy_88, r_M_safeBy_91, r_M_safeBy_92, r_M_safeBy_95, r_M_safeBy_96, r_M_safeBy_97, r_M_safeBy_100, r_M_safeBy_103, r_M_safeBy_104, r_M_safeBy_105, r_M_safeBy_106, r_M_safeBy_109, r_M_safeBy_110, r_M_safeBy_111, r_M_safeBy_112, r_M_safeBy_115, r_M_safeBy_116, r_M_safeBy_117, r_M_safeBy_118, r_M_safeBy_121, r_M_safeBy_124, r_M_safeBy_125, Q293, gq_293_25, e9, es2, es3, ev, b2, gupd_ne, w32_gb, w32i, tn_add, tn_mul, Int.toNat_natCast, Int.toNat_zero, Int.reduceLE, Int.reduceLT, Int.reduceEq, Int.reduceNe, gb_T, gb_F, Int.reduceToNat, eq_self, true_or, or_true, and_true, true_and, and_self, ↓ite_gb0, ↓ite_gbn, ↓if_pos, ↓if_neg, if_true, if_false, not_true_eq_false, not_false_eq_true, gb_ne0, gb_eq0]
      refine hq _ _ ⟨⟨_, by rw [show (((k + 1 : Nat)) : Int) = (k : Int) + 1 by omega]⟩, ?_, fun i hi => ?_, Agr_upd (Agr_upd hA (Or.inr rfl)) (Or.inl rfl)⟩
      · rw [gupd_fu, gupd_rw (by omega), h1, brsl_s]
        unfold brs1
        rw [if_pos c]
      · by_cases e : i = k
        · rw [e, gupd_ne (by omega), gupd_eq]
        · rw [gupd_ne (by omega), gupd_ne (by omega)]
          exact h2 i (by omega)
    · simp (disch := first | assumption | exact gb_01 _ | omega) only [r_M_safeBy_0, r_M_safeBy_1, r_M_safeBy_3, r_M_safeBy_4, r_M_safeBy_7, r_M_safeBy_9, r_M_safeBy_10, r_M_safeBy_13, r_M_safeBy_14, r_M_safeBy_15, r_M_safeBy_18, r_M_safeBy_21, r_M_safeBy_22, r_M_safeBy_23, r_M_safeBy_24, r_M_safeBy_27, r_M_safeBy_28, r_M_safeBy_29, r_M_safeBy_30, r_M_safeBy_31, r_M_safeBy_34, r_M_safeBy_35, r_M_safeBy_36, r_M_safeBy_39, r_M_safeBy_40, r_M_safeBy_41, r_M_safeBy_42, r_M_safeBy_43, r_M_safeBy_46, r_M_safeBy_47, r_M_safeBy_48, r_M_safeBy_49, r_M_safeBy_50, r_M_safeBy_51, r_M_safeBy_52, r_M_safeBy_53, r_M_safeBy_56, r_M_safeBy_57, r_M_safeBy_60, r_M_safeBy_61, r_M_safeBy_64, r_M_safeBy_65, r_M_safeBy_66, r_M_safeBy_67, r_M_safeBy_70, r_M_safeBy_73, r_M_safeBy_74, r_M_safeBy_77, r_M_safeBy_78, r_M_safeBy_79, r_M_safeBy_81, r_M_safeBy_82, r_M_safeBy_85, r_M_safeBy_87, r_M_safeBy_88, r_M_safeBy_91, r_M_safeBy_92, r_M_safeBy_95, r_M_safeBy_96, r_M_safeBy_97, r_M_safeBy_100, r_M_safeBy_103, r_M_safeBy_104, r_M_safeBy_105, r_M_safeBy_106, r_M_safeBy_109, r_M_safeBy_110, r_M_safeBy_111, r_M_safeBy_112, r_M_safeBy_115, r_M_safeBy_116, r_M_safeBy_117, r_M_safeBy_118, r_M_safeBy_121, r_M_safeBy_124, r_M_safeBy_125, Q293, gq_293_25, e9, es2, es3, ev, b2, gupd_ne, w32_gb, w32i, tn_add, tn_mul, Int.toNat_natCast, Int.toNat_zero, Int.reduceLE, Int.reduceLT, Int.reduceEq, Int.reduceNe, gb_T, gb_F, Int.reduceToNat, eq_self, true_or, or_true, and_true, true_and, and_self, ↓ite_gb0, ↓ite_gbn, ↓if_pos, ↓if_neg, if_true, if_false, not_true_eq_false, not_false_eq_true, gb_ne0, gb_eq0]
      refine hq _ _ ⟨⟨_, by rw [show (((k + 1 : Nat)) : Int) = (k : Int) + 1 by omega]⟩, ?_, fun i hi => ?_, Agr_upd (Agr_upd hA (Or.inr rfl)) (Or.inl rfl)⟩
      · rw [gupd_fu, gupd_rw (by omega), h1, brsl_s]
        unfold brs1
        rw [if_neg c, ← ev, h1]
      · by_cases e : i = k
        · rw [e, gupd_ne (by omega), gupd_eq]
        · rw [gupd_ne (by omega), gupd_ne (by omega)]
          exact h2 i (by omega)
  · obtain ⟨⟨l, rfl⟩, h1, h2, hA⟩ := hi
    obtain ⟨o1, o2, o3⟩ := brsl_ok hw hr a1 (σ 294 6).toNat (by omega)
    obtain ⟨p1, p2⟩ := brsl_at hr a1 (σ 294 6).toNat (by omega)
    have e6 : τ 294 6 = σ 294 6 := by rw [h1]; exact o3 _ (by omega)
    have hwt : WB (τ 294) := by rw [h1]; exact o1
    rw [r_M_safeBy_2]
    simp (disch := first | assumption | exact gb_01 _ | omega) only [r_M_safeBy_0, r_M_safeBy_1, r_M_safeBy_3, r_M_safeBy_4, r_M_safeBy_7, r_M_safeBy_9, r_M_safeBy_10, r_M_safeBy_13, r_M_safeBy_14, r_M_safeBy_15, r_M_safeBy_18, r_M_safeBy_21, r_M_safeBy_22, r_M_safeBy_23, r_M_safeBy_24, r_M_safeBy_27, r_M_safeBy_28, r_M_safeBy_29, r_M_safeBy_30, r_M_safeBy_31, r_M_safeBy_34, r_M_safeBy_35, r_M_safeBy_36, r_M_safeBy_39, r_M_safeBy_40, r_M_safeBy_41, r_M_safeBy_42, r_M_safeBy_43, r_M_safeBy_46, r_M_safeBy_47, r_M_safeBy_48, r_M_safeBy_49, r_M_safeBy_50, r_M_safeBy_51, r_M_safeBy_52, r_M_safeBy_53, r_M_safeBy_56, r_M_safeBy_57, r_M_safeBy_60, r_M_safeBy_61, r_M_safeBy_64, r_M_safeBy_65, r_M_safeBy_66, r_M_safeBy_67, r_M_safeBy_70, r_M_safeBy_73, r_M_safeBy_74, r_M_safeBy_77, r_M_safeBy_78, r_M_safeBy_79, r_M_safeBy_81, r_M_safeBy_82, r_M_safeBy_85, r_M_safeBy_87, r_M_safeBy_88, r_M_safeBy_91, r_M_safeBy_92, r_M_safeBy_95, r_M_safeBy_96, r_M_safeBy_97, r_M_safeBy_100, r_M_safeBy_103, r_M_safeBy_104, r_M_safeBy_105, r_M_safeBy_106, r_M_safeBy_109, r_M_safeBy_110, r_M_safeBy_111, r_M_safeBy_112, r_M_safeBy_115, r_M_safeBy_116, r_M_safeBy_117, r_M_safeBy_118, r_M_safeBy_121, r_M_safeBy_124, r_M_safeBy_125, Q293, gq_293_25, w32_gb, w32i, tn_add, tn_mul, Int.toNat_natCast, Int.toNat_zero, Int.reduceLE, Int.reduceLT, Int.reduceEq, Int.reduceNe, gb_T, gb_F, Int.reduceToNat, eq_self, true_or, or_true, and_true, true_and, and_self, ↓ite_gb0, ↓ite_gbn, ↓if_pos, ↓if_neg, if_true, if_false, not_true_eq_false, not_false_eq_true, gb_ne0, gb_eq0]
    rw [h1, show brsf (brsl (σ 294) a1 (σ 294 6).toNat) = brsy (σ 294) a1 from rfl]
    refine wloop (n := (σ 294 6).toNat) (I := fun k ls τ => ls = [vR 293, vI a1, vI (brsy (σ 294) a1), vI (k : Int)] ∧ (∀ j, (∀ i, k ≤ i → i < (σ 294 6).toNat → j ≠ brsp (σ 294) i) → τ 294 j = σ 294 j) ∧ (∀ i : Nat, i < (σ 294 6).toNat → τ 306 i = σ 294 (brsp (σ 294) i)) ∧ Agr σ τ (fun k _ => k = 294 ∨ k = 306)) (fun k ls τ hk hi hq => ?_) (fun ls τ hi => ?_) (σ 294 6).toNat 0 (by omega) _ _ ⟨rfl, fun j hj => by rw [h1]; exact p1 j (fun i hi => hj i (by omega) hi), h2, hA⟩
    · obtain ⟨rfl, h3, h4, hA⟩ := hi
      have b := brsp_bd hw hr (i := k) (by omega)
      have r := hr.2.1 k (by omega)
      have f6 : τ 294 6 = σ 294 6 := h3 6 (fun i _ hi => by have := brsp_bd hw hr (i := i) (by omega); omega)
      have f9 : τ 294 (920 + k) = σ 294 (920 + k) := h3 _ (fun i _ hi => by have := brsp_bd hw hr (i := i) (by omega); omega)
      have f3 := h4 k hk
      have es2 : 120 + 12 * (σ 294 (920 + k)).toNat = brsp (σ 294) k - 5 := by unfold brsp; omega
      have es3 : brsp (σ 294) k - 5 + 5 = brsp (σ 294) k := by omega
      rw [r_M_safeBy_80]
      simp (disch := first | assumption | exact gb_01 _ | omega) only [r_M_safeBy_0, r_M_safeBy_1, r_M_safeBy_3, r_M_safeBy_4, r_M_safeBy_7, r_M_safeBy_9, r_M_safeBy_10, r_M_safeBy_13, r_M_safeBy_14, r_M_safeBy_15, r_M_safeBy_18, r_M_safeBy_21, r_M_safeBy_22, r_M_safeBy_23, r_M_safeBy_24, r_M_safeBy_27, r_M_safeBy_28, r_M_safeBy_29, r_M_safeBy_30, r_M_safeBy_31, r_M_safeBy_34, r_M_safeBy_35, r_M_safeBy_36, r_M_safeBy_39, r_M_safeBy_40, r_M_safeBy_41, r_M_safeBy_42, r_M_safeBy_43, r_M_safeBy_46, r_M_safeBy_47, r_M_safeBy_48, r_M_safeBy_49, r_M_safeBy_50, r_M_safeBy_51, r_M_safeBy_52, r_M_safeBy_53, r_M_safeBy_56, r_M_safeBy_57, r_M_safeBy_60, r_M_safeBy_61, r_M_safeBy_64, r_M_safeBy_65, r_M_safeBy_66, r_M_safeBy_67, r_M_safeBy_70, r_M_safeBy_73, r_M_safeBy_74, r_M_safeBy_77, r_M_safeBy_78, r_M_safeBy_79, r_M_safeBy_81, r_M_safeBy_82, r_M_safeBy_85, r_M_safeBy_87, r_M_safeBy_88, r_M_safeBy_91, r_M_safeBy_92, r_M_safeBy_95, r_M_safeBy_96, r_M_safeBy_97, r_M_safeBy_100, r_M_safeBy_103, r_M_safeBy_104, r_M_safeBy_105, r_M_safeBy_106, r_M_safeBy_109, r_M_safeBy_110, r_M_safeBy_111, r_M_safeBy_112, r_M_safeBy_115, r_M_safeBy_116, r_M_safeBy_117, r_M_safeBy_118, r_M_safeBy_121, r_M_safeBy_124, r_M_safeBy_125, Q293, gq_293_25, f9, es2, es3, f3, w32_gb, w32i, tn_add, tn_mul, Int.toNat_natCast, Int.toNat_zero, Int.reduceLE, Int.reduceLT, Int.reduceEq, Int.reduceNe, gb_T, gb_F, Int.reduceToNat, eq_self, true_or, or_true, and_true, true_and, and_self, ↓ite_gb0, ↓ite_gbn, ↓if_pos, ↓if_neg, if_true, if_false, not_true_eq_false, not_false_eq_true, gb_ne0, gb_eq0]
      refine hq _ _ ⟨by simp only [List.cons.injEq, vI_inj, vR_inj, and_true, true_and]; omega, fun j hj => ?_, fun i hi => ?_, Agr_upd hA (Or.inl rfl)⟩
      · by_cases e : j = brsp (σ 294) k
        · rw [e, gupd_eq]
        · rw [gupd_ne (by omega)]
          refine h3 j (fun i hk1 hi => ?_)
          by_cases e2 : i = k
          · rw [e2]; exact e
          · exact hj i (by omega) hi
      · rw [gupd_ne (by omega)]
        exact h4 i hi
    · obtain ⟨rfl, h3, h4, hA⟩ := hi
      have h5 : ∀ j, τ 294 j = σ 294 j := fun j => h3 j (fun i a b => by omega)
      have f6 := h5 6
      rw [r_M_safeBy_80]
      simp (disch := first | assumption | exact gb_01 _ | omega) only [r_M_safeBy_0, r_M_safeBy_1, r_M_safeBy_3, r_M_safeBy_4, r_M_safeBy_7, r_M_safeBy_9, r_M_safeBy_10, r_M_safeBy_13, r_M_safeBy_14, r_M_safeBy_15, r_M_safeBy_18, r_M_safeBy_21, r_M_safeBy_22, r_M_safeBy_23, r_M_safeBy_24, r_M_safeBy_27, r_M_safeBy_28, r_M_safeBy_29, r_M_safeBy_30, r_M_safeBy_31, r_M_safeBy_34, r_M_safeBy_35, r_M_safeBy_36, r_M_safeBy_39, r_M_safeBy_40, r_M_safeBy_41, r_M_safeBy_42, r_M_safeBy_43, r_M_safeBy_46, r_M_safeBy_47, r_M_safeBy_48, r_M_safeBy_49, r_M_safeBy_50, r_M_safeBy_51, r_M_safeBy_52, r_M_safeBy_53, r_M_safeBy_56, r_M_safeBy_57, r_M_safeBy_60, r_M_safeBy_61, r_M_safeBy_64, r_M_safeBy_65, r_M_safeBy_66, r_M_safeBy_67, r_M_safeBy_70, r_M_safeBy_73, r_M_safeBy_74, r_M_safeBy_77, r_M_safeBy_78, r_M_safeBy_79, r_M_safeBy_81, r_M_safeBy_82, r_M_safeBy_85, r_M_safeBy_87, r_M_safeBy_88, r_M_safeBy_91, r_M_safeBy_92, r_M_safeBy_95, r_M_safeBy_96, r_M_safeBy_97, r_M_safeBy_100, r_M_safeBy_103, r_M_safeBy_104, r_M_safeBy_105, r_M_safeBy_106, r_M_safeBy_109, r_M_safeBy_110, r_M_safeBy_111, r_M_safeBy_112, r_M_safeBy_115, r_M_safeBy_116, r_M_safeBy_117, r_M_safeBy_118, r_M_safeBy_121, r_M_safeBy_124, r_M_safeBy_125, Q293, gq_293_25, w32_gb, w32i, tn_add, tn_mul, Int.toNat_natCast, Int.toNat_zero, Int.reduceLE, Int.reduceLT, Int.reduceEq, Int.reduceNe, gb_T, gb_F, Int.reduceToNat, eq_self, true_or, or_true, and_true, true_and, and_self, ↓ite_gb0, ↓ite_gbn, ↓if_pos, ↓if_neg, if_true, if_false, not_true_eq_false, not_false_eq_true, gb_ne0, gb_eq0]
      intro k j hk
      by_cases e : k = 294
      · rw [e]; exact h5 j
      · exact hA k j (by omega)
theorem r_A_weigh_0 : Wp L d k_A_weigh 0 [l0, vR b1, l2, l3] [] σ Q ↔ Wp L d k_A_weigh 1 [l0, vR b1, l2, l3] [vR b1] σ Q := wp_aload rfl rfl
theorem r_A_weigh_1 : Wp L d k_A_weigh 1 [l0, l1, l2, l3] [vR c0] σ Q ↔ Wp L d k_A_weigh 3 [l0, l1, l2, l3] [vI 99, vR c0] σ Q := wp_push rfl
theorem c_A_weigh_3 (hR : Run L d 97 [vR c0, vI s1] σ r σ1) (h : gK c0 = 1) : Wp L (d + 1) k_A_weigh 3 [l0, l1, l2, l3] [vI s1, vR c0] σ Q ↔ Wp L (d + 1) k_A_weigh 6 [l0, l1, l2, l3] (r.toList ++ []) σ1 Q := wp_callR (as := [vR c0, vI s1]) (rest := []) rfl rfl rfl rfl rfl rfl rfl (grecv_k (by rw [h]) rfl) hR
theorem r_A_weigh_6 : Wp L d k_A_weigh 6 [vR b0, l1, l2, l3] [] σ Q ↔ Wp L d k_A_weigh 7 [vR b0, l1, l2, l3] [vR b0] σ Q := wp_aload rfl rfl
theorem r_A_weigh_7 : Wp L d k_A_weigh 7 [l0, l1, l2, l3] [vR c0] σ Q ↔ Wp L d k_A_weigh 9 [l0, l1, l2, l3] [vI 99, vR c0] σ Q := wp_push rfl
theorem r_A_weigh_9 (h : gK c0 = 7) : Wp L d k_A_weigh 9 [l0, l1, l2, l3] [vI s1, vR c0] σ Q ↔ Wp L d k_A_weigh 12 [l0, l1, l2, l3] [] (gupd σ c0 4 s1) Q := wp_putI (c := 1796) rfl rfl rfl rfl h
theorem r_A_weigh_12 : Wp L d k_A_weigh 12 [l0, l1, l2, l3] [] σ Q ↔ Wp L d k_A_weigh 13 [l0, l1, l2, l3] [vI 0] σ Q := wp_push rfl
theorem r_A_weigh_13 : Wp L d k_A_weigh 13 [l0, vR b1, l2, l3] [vI s0] σ Q ↔ Wp L d k_A_weigh 14 [l0, vR b1, vI s0, l3] [] σ Q := wp_istore (i := 2) (ls := [l0, vR b1, l2, l3]) rfl rfl
theorem r_A_weigh_14 : Wp L d k_A_weigh 14 [l0, l1, vI a2, l3] [] σ Q ↔ Wp L d k_A_weigh 15 [l0, l1, vI a2, l3] [vI a2] σ Q := wp_iload rfl rfl
theorem r_A_weigh_15 : Wp L d k_A_weigh 15 [l0, vR b1, l2, l3] [vI s0] σ Q ↔ Wp L d k_A_weigh 16 [l0, vR b1, l2, l3] [vR b1, vI s0] σ Q := wp_aload rfl rfl
theorem r_A_weigh_16 (h : gK c1 = 1) : Wp L d k_A_weigh 16 [l0, l1, l2, l3] [vR c1, vI s0] σ Q ↔ Wp L d k_A_weigh 19 [l0, l1, l2, l3] [vI (σ c1 9), vI s0] σ Q := wp_getI (c := 265) rfl rfl rfl rfl h
theorem r_A_weigh_19 : Wp L d k_A_weigh 19 [l0, l1, l2, l3] [vI s1, vI s0] σ Q ↔ (if s1 ≤ s0 then Wp L d k_A_weigh 66 [l0, l1, l2, l3] [] σ Q else Wp L d k_A_weigh 22 [l0, l1, l2, l3] [] σ Q) := wp_cmp_ge rfl
theorem r_A_weigh_22 : Wp L d k_A_weigh 22 [vR b0, l1, l2, l3] [] σ Q ↔ Wp L d k_A_weigh 23 [vR b0, l1, l2, l3] [vR b0] σ Q := wp_aload rfl rfl
theorem r_A_weigh_23 : Wp L d k_A_weigh 23 [l0, l1, vI a2, l3] [vR c0] σ Q ↔ Wp L d k_A_weigh 24 [l0, l1, vI a2, l3] [vI a2, vR c0] σ Q := wp_iload rfl rfl
theorem c_A_weigh_24 (hR : Run L d 148 [vR c0, vI s1] σ r σ1) (h : gK c0 = 7) : Wp L (d + 1) k_A_weigh 24 [l0, l1, l2, l3] [vI s1, vR c0] σ Q ↔ Wp L (d + 1) k_A_weigh 27 [l0, l1, l2, l3] (r.toList ++ []) σ1 Q := wp_callR (as := [vR c0, vI s1]) (rest := []) rfl rfl rfl rfl rfl rfl rfl (grecv_k (by rw [h]) rfl) hR
theorem r_A_weigh_27 : Wp L d k_A_weigh 27 [l0, l1, l2, l3] [vI s0] σ Q ↔ (if s0 ≠ 0 then Wp L d k_A_weigh 60 [l0, l1, l2, l3] [] σ Q else Wp L d k_A_weigh 30 [l0, l1, l2, l3] [] σ Q) := wp_if_ne rfl
theorem r_A_weigh_30 : Wp L d k_A_weigh 30 [vR b0, l1, l2, l3] [] σ Q ↔ Wp L d k_A_weigh 31 [vR b0, l1, l2, l3] [vR b0] σ Q := wp_aload rfl rfl
theorem r_A_weigh_31 : Wp L d k_A_weigh 31 [vR b0, l1, l2, l3] [vR c0] σ Q ↔ Wp L d k_A_weigh 32 [vR b0, l1, l2, l3] [vR b0, vR c0] σ Q := wp_aload rfl rfl
theorem r_A_weigh_32 (h : gK c1 = 7) : Wp L d k_A_weigh 32 [l0, l1, l2, l3] [vR c1, vR c0] σ Q ↔ Wp L d k_A_weigh 35 [l0, l1, l2, l3] [vI (σ c1 4), vR c0] σ Q := wp_getI (c := 1796) rfl rfl rfl rfl h
theorem r_A_weigh_35 : Wp L d k_A_weigh 35 [l0, vR b1, l2, l3] [vI s1, vR c0] σ Q ↔ Wp L d k_A_weigh 36 [l0, vR b1, l2, l3] [vR b1, vI s1, vR c0] σ Q := wp_aload rfl rfl
theorem r_A_weigh_36 : Wp L d k_A_weigh 36 [l0, vR b1, l2, l3] [vR c2, vI s1, vR c0] σ Q ↔ Wp L d k_A_weigh 37 [l0, vR b1, l2, l3] [vR b1, vR c2, vI s1, vR c0] σ Q := wp_aload rfl rfl
theorem r_A_weigh_37 (h : gK c3 = 1) : Wp L d k_A_weigh 37 [l0, l1, l2, l3] [vR c3, vR c2, vI s1, vR c0] σ Q ↔ Wp L d k_A_weigh 40 [l0, l1, l2, l3] [vR (gq c3 3), vR c2, vI s1, vR c0] σ Q := wp_getR (c := 387) rfl rfl rfl rfl rfl h
theorem r_A_weigh_40 : Wp L d k_A_weigh 40 [l0, l1, vI a2, l3] [vR c3, vR c2, vI s1, vR c0] σ Q ↔ Wp L d k_A_weigh 41 [l0, l1, vI a2, l3] [vI a2, vR c3, vR c2, vI s1, vR c0] σ Q := wp_iload rfl rfl
theorem r_A_weigh_41 (h : gK c3 = 102 ∨ gK c3 = 103) (hx : 0 ≤ s4 ∧ s4 < gN c3) : Wp L d k_A_weigh 41 [l0, l1, l2, l3] [vI s4, vR c3, vR c2, vI s1, vR c0] σ Q ↔ Wp L d k_A_weigh 42 [l0, l1, l2, l3] [vR (gq c3 s4.toNat), vR c2, vI s1, vR c0] σ Q := wp_aald rfl h hx
theorem r_A_weigh_42 : Wp L d k_A_weigh 42 [l0, vR b1, l2, l3] [vR c3, vR c2, vI s1, vR c0] σ Q ↔ Wp L d k_A_weigh 43 [l0, vR b1, l2, l3] [vR b1, vR c3, vR c2, vI s1, vR c0] σ Q := wp_aload rfl rfl
theorem r_A_weigh_43 (h : gK c4 = 1) : Wp L d k_A_weigh 43 [l0, l1, l2, l3] [vR c4, vR c3, vR c2, vI s1, vR c0] σ Q ↔ Wp L d k_A_weigh 46 [l0, l1, l2, l3] [vR (gq c4 3), vR c3, vR c2, vI s1, vR c0] σ Q := wp_getR (c := 387) rfl rfl rfl rfl rfl h
theorem r_A_weigh_46 : Wp L d k_A_weigh 46 [l0, l1, vI a2, l3] [vR c4, vR c3, vR c2, vI s1, vR c0] σ Q ↔ Wp L d k_A_weigh 47 [l0, l1, vI a2, l3] [vI a2, vR c4, vR c3, vR c2, vI s1, vR c0] σ Q := wp_iload rfl rfl
theorem r_A_weigh_47 (h : gK c4 = 102 ∨ gK c4 = 103) (hx : 0 ≤ s5 ∧ s5 < gN c4) : Wp L d k_A_weigh 47 [l0, l1, l2, l3] [vI s5, vR c4, vR c3, vR c2, vI s1, vR c0] σ Q ↔ Wp L d k_A_weigh 48 [l0, l1, l2, l3] [vR (gq c4 s5.toNat), vR c3, vR c2, vI s1, vR c0] σ Q := wp_aald rfl h hx
theorem r_A_weigh_48 (h : gK c4 = 4) : Wp L d k_A_weigh 48 [l0, l1, l2, l3] [vR c4, vR c3, vR c2, vI s1, vR c0] σ Q ↔ Wp L d k_A_weigh 51 [l0, l1, l2, l3] [vI (σ c4 5), vR c3, vR c2, vI s1, vR c0] σ Q := wp_getI (c := 1029) rfl rfl rfl rfl h
theorem c_A_weigh_51 (hR : Run L d 112 [vR c2, vR c3, vI s4] σ r σ1) (h : gK c2 = 1) : Wp L (d + 1) k_A_weigh 51 [l0, l1, l2, l3] [vI s4, vR c3, vR c2, vI s1, vR c0] σ Q ↔ Wp L (d + 1) k_A_weigh 54 [l0, l1, l2, l3] (r.toList ++ [vI s1, vR c0]) σ1 Q := wp_callR (as := [vR c2, vR c3, vI s4]) (rest := [vI s1, vR c0]) rfl rfl rfl rfl rfl rfl rfl (grecv_k (by rw [h]) rfl) hR
theorem r_A_weigh_54 : Wp L d k_A_weigh 54 [l0, l1, l2, l3] [vI s2, vI s1, vR c0] σ Q ↔ Wp L d k_A_weigh 57 [l0, l1, l2, l3] [vI (min s1 s2), vR c0] σ Q := wp_min rfl rfl
theorem r_A_weigh_57 (h : gK c0 = 7) : Wp L d k_A_weigh 57 [l0, l1, l2, l3] [vI s1, vR c0] σ Q ↔ Wp L d k_A_weigh 60 [l0, l1, l2, l3] [] (gupd σ c0 4 s1) Q := wp_putI (c := 1796) rfl rfl rfl rfl h
theorem r_A_weigh_60 : Wp L d k_A_weigh 60 [l0, vR b1, vI a2, l3] [] σ Q ↔ Wp L d k_A_weigh 63 [l0, vR b1, vI (w32 (a2 + 1)), l3] [] σ Q := wp_iinc (i := 2) (ls := [l0, vR b1, vI a2, l3]) rfl rfl
theorem r_A_weigh_63 : Wp L d k_A_weigh 63 [l0, l1, l2, l3] [] σ Q ↔ Wp L d k_A_weigh 14 [l0, l1, l2, l3] [] σ Q := wp_goto rfl
theorem r_A_weigh_66 : Wp L d k_A_weigh 66 [l0, l1, l2, l3] [] σ Q ↔ Wp L d k_A_weigh 67 [l0, l1, l2, l3] [vI 0] σ Q := wp_push rfl
theorem r_A_weigh_67 : Wp L d k_A_weigh 67 [l0, vR b1, l2, l3] [vI s0] σ Q ↔ Wp L d k_A_weigh 68 [l0, vR b1, vI s0, l3] [] σ Q := wp_istore (i := 2) (ls := [l0, vR b1, l2, l3]) rfl rfl
theorem r_A_weigh_68 : Wp L d k_A_weigh 68 [l0, l1, vI a2, l3] [] σ Q ↔ Wp L d k_A_weigh 69 [l0, l1, vI a2, l3] [vI a2] σ Q := wp_iload rfl rfl
theorem r_A_weigh_69 : Wp L d k_A_weigh 69 [vR b0, l1, l2, l3] [vI s0] σ Q ↔ Wp L d k_A_weigh 70 [vR b0, l1, l2, l3] [vR b0, vI s0] σ Q := wp_aload rfl rfl
theorem r_A_weigh_70 (h : gK c1 = 7) : Wp L d k_A_weigh 70 [l0, l1, l2, l3] [vR c1, vI s0] σ Q ↔ Wp L d k_A_weigh 73 [l0, l1, l2, l3] [vI (σ c1 1), vI s0] σ Q := wp_getI (c := 1793) rfl rfl rfl rfl h
theorem r_A_weigh_73 : Wp L d k_A_weigh 73 [l0, l1, l2, l3] [vI s1, vI s0] σ Q ↔ (if s1 ≤ s0 then Wp L d k_A_weigh 121 [l0, l1, l2, l3] [] σ Q else Wp L d k_A_weigh 76 [l0, l1, l2, l3] [] σ Q) := wp_cmp_ge rfl
theorem r_A_weigh_76 : Wp L d k_A_weigh 76 [l0, vR b1, l2, l3] [] σ Q ↔ Wp L d k_A_weigh 77 [l0, vR b1, l2, l3] [vR b1] σ Q := wp_aload rfl rfl
theorem r_A_weigh_77 (h : gK c0 = 1) : Wp L d k_A_weigh 77 [l0, l1, l2, l3] [vR c0] σ Q ↔ Wp L d k_A_weigh 80 [l0, l1, l2, l3] [vR (gq c0 3)] σ Q := wp_getR (c := 387) rfl rfl rfl rfl rfl h
theorem r_A_weigh_80 : Wp L d k_A_weigh 80 [vR b0, l1, l2, l3] [vR c0] σ Q ↔ Wp L d k_A_weigh 81 [vR b0, l1, l2, l3] [vR b0, vR c0] σ Q := wp_aload rfl rfl
theorem r_A_weigh_81 (h : gK c1 = 7) : Wp L d k_A_weigh 81 [l0, l1, l2, l3] [vR c1, vR c0] σ Q ↔ Wp L d k_A_weigh 84 [l0, l1, l2, l3] [vR (gq c1 0), vR c0] σ Q := wp_getR (c := 1920) rfl rfl rfl rfl rfl h
theorem r_A_weigh_84 : Wp L d k_A_weigh 84 [l0, l1, vI a2, l3] [vR c1, vR c0] σ Q ↔ Wp L d k_A_weigh 85 [l0, l1, vI a2, l3] [vI a2, vR c1, vR c0] σ Q := wp_iload rfl rfl
theorem r_A_weigh_85 (h : gK c1 = 100) (hx : 0 ≤ s2 ∧ s2 < gN c1) : Wp L d k_A_weigh 85 [l0, l1, l2, l3] [vI s2, vR c1, vR c0] σ Q ↔ Wp L d k_A_weigh 86 [l0, l1, l2, l3] [vI (σ c1 s2.toNat), vR c0] σ Q := wp_iald rfl h hx
theorem r_A_weigh_86 (h : gK c0 = 102 ∨ gK c0 = 103) (hx : 0 ≤ s1 ∧ s1 < gN c0) : Wp L d k_A_weigh 86 [l0, l1, l2, l3] [vI s1, vR c0] σ Q ↔ Wp L d k_A_weigh 87 [l0, l1, l2, l3] [vR (gq c0 s1.toNat)] σ Q := wp_aald rfl h hx
theorem r_A_weigh_87 : Wp L d k_A_weigh 87 [l0, l1, vI a2, l3] [vR c0] σ Q ↔ Wp L d k_A_weigh 88 [l0, l1, vI a2, vR c0] [] σ Q := wp_astore (i := 3) (ls := [l0, l1, vI a2, l3]) rfl rfl
theorem r_A_weigh_88 : Wp L d k_A_weigh 88 [vR b0, l1, l2, l3] [] σ Q ↔ Wp L d k_A_weigh 89 [vR b0, l1, l2, l3] [vR b0] σ Q := wp_aload rfl rfl
theorem r_A_weigh_89 (h : gK c0 = 7) : Wp L d k_A_weigh 89 [l0, l1, l2, l3] [vR c0] σ Q ↔ Wp L d k_A_weigh 92 [l0, l1, l2, l3] [vR (gq c0 2)] σ Q := wp_getR (c := 1922) rfl rfl rfl rfl rfl h
theorem r_A_weigh_92 : Wp L d k_A_weigh 92 [l0, l1, vI a2, l3] [vR c0] σ Q ↔ Wp L d k_A_weigh 93 [l0, l1, vI a2, l3] [vI a2, vR c0] σ Q := wp_iload rfl rfl
theorem r_A_weigh_93 : Wp L d k_A_weigh 93 [l0, vR b1, l2, l3] [vI s1, vR c0] σ Q ↔ Wp L d k_A_weigh 94 [l0, vR b1, l2, l3] [vR b1, vI s1, vR c0] σ Q := wp_aload rfl rfl
theorem r_A_weigh_94 : Wp L d k_A_weigh 94 [l0, l1, l2, vR b3] [vR c2, vI s1, vR c0] σ Q ↔ Wp L d k_A_weigh 95 [l0, l1, l2, vR b3] [vR b3, vR c2, vI s1, vR c0] σ Q := wp_aload rfl rfl
theorem r_A_weigh_95 : Wp L d k_A_weigh 95 [l0, l1, l2, vR b3] [vR c3, vR c2, vI s1, vR c0] σ Q ↔ Wp L d k_A_weigh 96 [l0, l1, l2, vR b3] [vR b3, vR c3, vR c2, vI s1, vR c0] σ Q := wp_aload rfl rfl
theorem r_A_weigh_96 (h : gK c4 = 4) : Wp L d k_A_weigh 96 [l0, l1, l2, l3] [vR c4, vR c3, vR c2, vI s1, vR c0] σ Q ↔ Wp L d k_A_weigh 99 [l0, l1, l2, l3] [vI (σ c4 5), vR c3, vR c2, vI s1, vR c0] σ Q := wp_getI (c := 1029) rfl rfl rfl rfl h
theorem c_A_weigh_99 (hR : Run L d 112 [vR c2, vR c3, vI s4] σ r σ1) (h : gK c2 = 1) : Wp L (d + 1) k_A_weigh 99 [l0, l1, l2, l3] [vI s4, vR c3, vR c2, vI s1, vR c0] σ Q ↔ Wp L (d + 1) k_A_weigh 102 [l0, l1, l2, l3] (r.toList ++ [vI s1, vR c0]) σ1 Q := wp_callR (as := [vR c2, vR c3, vI s4]) (rest := [vI s1, vR c0]) rfl rfl rfl rfl rfl rfl rfl (grecv_k (by rw [h]) rfl) hR
theorem r_A_weigh_102 (h : gK c0 = 100) (hx : 0 ≤ s1 ∧ s1 < gN c0) : Wp L d k_A_weigh 102 [l0, l1, l2, l3] [vI s2, vI s1, vR c0] σ Q ↔ Wp L d k_A_weigh 103 [l0, l1, l2, l3] [] (gupd σ c0 s1.toNat s2) Q := wp_iast rfl h hx
theorem r_A_weigh_103 : Wp L d k_A_weigh 103 [vR b0, l1, l2, l3] [] σ Q ↔ Wp L d k_A_weigh 104 [vR b0, l1, l2, l3] [vR b0] σ Q := wp_aload rfl rfl
theorem r_A_weigh_104 (h : gK c0 = 7) : Wp L d k_A_weigh 104 [l0, l1, l2, l3] [vR c0] σ Q ↔ Wp L d k_A_weigh 107 [l0, l1, l2, l3] [vR (gq c0 3)] σ Q := wp_getR (c := 1923) rfl rfl rfl rfl rfl h
theorem r_A_weigh_107 : Wp L d k_A_weigh 107 [l0, l1, vI a2, l3] [vR c0] σ Q ↔ Wp L d k_A_weigh 108 [l0, l1, vI a2, l3] [vI a2, vR c0] σ Q := wp_iload rfl rfl
theorem r_A_weigh_108 : Wp L d k_A_weigh 108 [l0, vR b1, l2, l3] [vI s1, vR c0] σ Q ↔ Wp L d k_A_weigh 109 [l0, vR b1, l2, l3] [vR b1, vI s1, vR c0] σ Q := wp_aload rfl rfl
theorem r_A_weigh_109 : Wp L d k_A_weigh 109 [l0, l1, l2, vR b3] [vR c2, vI s1, vR c0] σ Q ↔ Wp L d k_A_weigh 110 [l0, l1, l2, vR b3] [vR b3, vR c2, vI s1, vR c0] σ Q := wp_aload rfl rfl
theorem r_A_weigh_110 : Wp L d k_A_weigh 110 [l0, l1, l2, l3] [vR c3, vR c2, vI s1, vR c0] σ Q ↔ Wp L d k_A_weigh 111 [l0, l1, l2, l3] [vI 0, vR c3, vR c2, vI s1, vR c0] σ Q := wp_push rfl
theorem c_A_weigh_111 (hR : Run L d 112 [vR c2, vR c3, vI s4] σ r σ1) (h : gK c2 = 1) : Wp L (d + 1) k_A_weigh 111 [l0, l1, l2, l3] [vI s4, vR c3, vR c2, vI s1, vR c0] σ Q ↔ Wp L (d + 1) k_A_weigh 114 [l0, l1, l2, l3] (r.toList ++ [vI s1, vR c0]) σ1 Q := wp_callR (as := [vR c2, vR c3, vI s4]) (rest := [vI s1, vR c0]) rfl rfl rfl rfl rfl rfl rfl (grecv_k (by rw [h]) rfl) hR
theorem r_A_weigh_114 (h : gK c0 = 100) (hx : 0 ≤ s1 ∧ s1 < gN c0) : Wp L d k_A_weigh 114 [l0, l1, l2, l3] [vI s2, vI s1, vR c0] σ Q ↔ Wp L d k_A_weigh 115 [l0, l1, l2, l3] [] (gupd σ c0 s1.toNat s2) Q := wp_iast rfl h hx
theorem r_A_weigh_115 : Wp L d k_A_weigh 115 [l0, vR b1, vI a2, l3] [] σ Q ↔ Wp L d k_A_weigh 118 [l0, vR b1, vI (w32 (a2 + 1)), l3] [] σ Q := wp_iinc (i := 2) (ls := [l0, vR b1, vI a2, l3]) rfl rfl
theorem r_A_weigh_118 : Wp L d k_A_weigh 118 [l0, l1, l2, l3] [] σ Q ↔ Wp L d k_A_weigh 68 [l0, l1, l2, l3] [] σ Q := wp_goto rfl
theorem r_A_weigh_121 : Wp L d k_A_weigh 121 [l0, l1, l2, l3] [] σ Q ↔ Q none σ := wp_vret rfl
theorem sp_A_weigh {f : Nat → Int} (hw : WB f) (hc : CB 29 f σ) (hr : WR f) (hcr : CR 125 f σ) : ∃ σ', Run L (d + 2) 150 [vR 125, vR 29] σ none σ' ∧ WA f σ' ∧ Agr σ σ' (fun k j => (34 ≤ k ∧ k ≤ 37) ∨ (k = 125 ∧ j = 4) ∨ k = 127 ∨ k = 128) := by
  refine Run_ex (C' := k_A_weigh) rfl ?_
  show Wp L (d + 2) k_A_weigh 0 [vR 125, vR 29, vU, vU] [] σ _
  have hB := BR29
  have hB0 := hB
  obtain ⟨τ0, hR, hd, hA0⟩ := sp_B_weighPiers (L := L) (d := d + 0) (a1 := 99) hB hw hc (by omega)
  obtain ⟨⟨K0, q0, q1, q2, q3, q4, q5, q6, q7⟩, ⟨K1, K2, K3, K4, K5, K6, K7, K8⟩, ⟨N1, N2, N3, N4, N5, N6, N7, N8⟩, QP, KP⟩ := hB
  obtain ⟨K125, r0, r2, r3, K126, K127, K128, N126, N127, N128⟩ := litR
  have w1 := hw.1
  have w2 := hw.2.1
  have w6 := hr.1
  simp only [Nat.reduceAdd] at K0 q0 q1 q2 q3 q4 q5 q6 q7 K1 K2 K3 K4 K5 K6 K7 K8 N1 N2 N3 N4 N5 N6 N7 N8 QP KP
  have key : ∀ τ : gMm, Agr τ0 τ (fun k j => (k = 125 ∧ j = 4) ∨ k = 127 ∨ k = 128) → (CB 29 f τ ∧ WD 29 f 99 τ) ∧ CR 125 f τ := fun τ h => ⟨⟨CB_agr (fun k j hk => h k j (by omega)) hw (CB_sc hw hc hA0), fun p hp => by rw [h _ _ (by omega), h _ _ (by omega), h _ _ (by omega), h _ _ (by omega)]; exact hd p hp⟩, by
    unfold CR
    rw [h 125 1 (by omega), hA0 125 1 (by unfold ZSc; omega)]
    refine ⟨hcr.1, fun i hi => ?_⟩
    rw [h (125 + 1) i (by omega), hA0 _ _ (by unfold ZSc; omega)]
    exact hcr.2 i hi⟩
  simp (disch := first | assumption | exact gb_01 _ | omega) only [r_A_weigh_0, r_A_weigh_1, r_A_weigh_6, r_A_weigh_7, r_A_weigh_9, r_A_weigh_12, r_A_weigh_13, r_A_weigh_15, r_A_weigh_16, r_A_weigh_19, r_A_weigh_22, r_A_weigh_23, r_A_weigh_27, r_A_weigh_30, r_A_weigh_31, r_A_weigh_32, r_A_weigh_35, r_A_weigh_36, r_A_weigh_37, r_A_weigh_40, r_A_weigh_41, r_A_weigh_42, r_A_weigh_43, r_A_weigh_46, r_A_weigh_47, r_A_weigh_48, r_A_weigh_54, r_A_weigh_57, r_A_weigh_60, r_A_weigh_63, r_A_weigh_66, r_A_weigh_67, r_A_weigh_69, r_A_weigh_70, r_A_weigh_73, r_A_weigh_76, r_A_weigh_77, r_A_weigh_80, r_A_weigh_81, r_A_weigh_84, r_A_weigh_85, r_A_weigh_86, r_A_weigh_87, r_A_weigh_88, r_A_weigh_89, r_A_weigh_92, r_A_weigh_93, r_A_weigh_94, r_A_weigh_95, r_A_weigh_96, r_A_weigh_102, r_A_weigh_103, r_A_weigh_104, r_A_weigh_107, r_A_weigh_108, r_A_weigh_109, r_A_weigh_110, r_A_weigh_114, r_A_weigh_115, r_A_weigh_118, r_A_weigh_121, c_A_weigh_3 hR, Option.toList, List.singleton_append, List.cons_append, List.nil_append, List.append_nil, r0, r2, r3, w32_gb, w32i, tn_add, tn_mul, Int.toNat_natCast, Int.toNat_zero, Int.reduceLE, Int.reduceLT, Int.reduceEq, Int.reduceNe, gb_T, gb_F, Int.reduceToNat, eq_self, true_or, or_true, and_true, true_and, and_self, ↓ite_gb0, ↓ite_gbn, ↓if_pos, ↓if_neg, if_true, if_false, not_true_eq_false, not_false_eq_true, gb_ne0, gb_eq0]
  refine wloop (n := (f 1).toNat) (I := fun k ls τ => ls = [vR 125, vR 29, vI (k : Int), vU] ∧ (∀ w, w ≤ τ 125 4 ↔ w ≤ 99 ∧ ∀ q : Nat, q < k → ¬ brme f q (f 6).toNat → w ≤ brlim f q (f (120 + 12 * q + 5))) ∧ Agr τ0 τ (fun k j => (k = 125 ∧ j = 4) ∨ k = 127 ∨ k = 128)) (fun k ls τ hk hi hq => ?_) (fun ls τ hi => ?_) (f 1).toNat 0 (by omega) _ _ ⟨rfl, fun w => by rw [gupd_eq]; exact ⟨fun h => ⟨h, fun q hq => by omega⟩, fun h => h.1⟩, Agr_upd (Agr_refl _ _) (Or.inl ⟨rfl, rfl⟩)⟩
  · obtain ⟨rfl, h1, hA⟩ := hi
    obtain ⟨⟨hc1, hd1⟩, hr1⟩ := key τ hA
    have d2 := hc1.2.1
    have kp := KP k (by omega)
    have q := CBp hc1 (p := k) (by omega)
    have w := WBp hw (p := k) (by omega)
    simp only [Nat.reduceAdd] at q
    obtain ⟨v, hM, hv⟩ := sp_A_isMember (L := L) (d := d + 1) (a1 := (k : Int)) hr hr1
    have hL := sp_B_limitOf (L := L) (d := d + 0) (p := k) (a2 := f (120 + 12 * k + 5)) hB0 hw hc1 (by omega) hd1 (by omega) w.2.2.2.2.2.1
    simp only [Nat.reduceAdd] at hL
    rw [r_A_weigh_14]
    rcases hv with ⟨v1, m⟩ | ⟨v1, m⟩
    · subst v1
      simp (disch := first | assumption | exact gb_01 _ | omega) only [r_A_weigh_0, r_A_weigh_1, r_A_weigh_6, r_A_weigh_7, r_A_weigh_9, r_A_weigh_12, r_A_weigh_13, r_A_weigh_15, r_A_weigh_16, r_A_weigh_19, r_A_weigh_22, r_A_weigh_23, r_A_weigh_27, r_A_weigh_30, r_A_weigh_31, r_A_weigh_32, r_A_weigh_35, r_A_weigh_36, r_A_weigh_37, r_A_weigh_40, r_A_weigh_41, r_A_weigh_42, r_A_weigh_43, r_A_weigh_46, r_A_weigh_47, r_A_weigh_48, r_A_weigh_54, r_A_weigh_57, r_A_weigh_60, r_A_weigh_63, r_A_weigh_66, r_A_weigh_67, r_A_weigh_69, r_A_weigh_70, r_A_weigh_73, r_A_weigh_76, r_A_weigh_77, r_A_weigh_80, r_A_weigh_81, r_A_weigh_84, r_A_weigh_85, r_A_weigh_86, r_A_weigh_87, r_A_weigh_88, r_A_weigh_89, r_A_weigh_92, r_A_weigh_93, r_A_weigh_94, r_A_weigh_95, r_A_weigh_96, r_A_weigh_102, r_A_weigh_103, r_A_weigh_104, r_A_weigh_107, r_A_weigh_108, r_A_weigh_109, r_A_weigh_110, r_A_weigh_114, r_A_weigh_115, r_A_weigh_118, r_A_weigh_121, c_A_weigh_24 hM, c_A_weigh_51 hL, Option.toList, List.singleton_append, List.cons_append, List.nil_append, List.append_nil, r0, r2, r3, QP, q3, q, w32_gb, w32i, tn_add, tn_mul, Int.toNat_natCast, Int.toNat_zero, Int.reduceLE, Int.reduceLT, Int.reduceEq, Int.reduceNe, gb_T, gb_F, Int.reduceToNat, eq_self, true_or, or_true, and_true, true_and, and_self, ↓ite_gb0, ↓ite_gbn, ↓if_pos, ↓if_neg, if_true, if_false, not_true_eq_false, not_false_eq_true, gb_ne0, gb_eq0]
      refine hq _ _ ⟨by simp only [List.cons.injEq, vI_inj, vR_inj, and_true, true_and]; omega, fun w => ?_, hA⟩
      rw [h1 w]
      refine ⟨fun z => ⟨z.1, fun q hq hm => ?_⟩, fun z => ⟨z.1, fun q hq hm => z.2 q (by omega) hm⟩⟩
      by_cases e : q = k
      · rw [e] at hm; exact absurd m hm
      · exact z.2 q (by omega) hm
    · subst v1
      simp (disch := first | assumption | exact gb_01 _ | omega) only [r_A_weigh_0, r_A_weigh_1, r_A_weigh_6, r_A_weigh_7, r_A_weigh_9, r_A_weigh_12, r_A_weigh_13, r_A_weigh_15, r_A_weigh_16, r_A_weigh_19, r_A_weigh_22, r_A_weigh_23, r_A_weigh_27, r_A_weigh_30, r_A_weigh_31, r_A_weigh_32, r_A_weigh_35, r_A_weigh_36, r_A_weigh_37, r_A_weigh_40, r_A_weigh_41, r_A_weigh_42, r_A_weigh_43, r_A_weigh_46, r_A_weigh_47, r_A_weigh_48, r_A_weigh_54, r_A_weigh_57, r_A_weigh_60, r_A_weigh_63, r_A_weigh_66, r_A_weigh_67, r_A_weigh_69, r_A_weigh_70, r_A_weigh_73, r_A_weigh_76, r_A_weigh_77, r_A_weigh_80, r_A_weigh_81, r_A_weigh_84, r_A_weigh_85, r_A_weigh_86, r_A_weigh_87, r_A_weigh_88, r_A_weigh_89, r_A_weigh_92, r_A_weigh_93, r_A_weigh_94, r_A_weigh_95, r_A_weigh_96, r_A_weigh_102, r_A_weigh_103, r_A_weigh_104, r_A_weigh_107, r_A_weigh_108, r_A_weigh_109, r_A_weigh_110, r_A_weigh_114, r_A_weigh_115, r_A_weigh_118, r_A_weigh_121, c_A_weigh_24 hM, c_A_weigh_51 hL, Option.toList, List.singleton_append, List.cons_append, List.nil_append, List.append_nil, r0, r2, r3, QP, q3, q, w32_gb, w32i, tn_add, tn_mul, Int.toNat_natCast, Int.toNat_zero, Int.reduceLE, Int.reduceLT, Int.reduceEq, Int.reduceNe, gb_T, gb_F, Int.reduceToNat, eq_self, true_or, or_true, and_true, true_and, and_self, ↓ite_gb0, ↓ite_gbn, ↓if_pos, ↓if_neg, if_true, if_false, not_true_eq_false, not_false_eq_true, gb_ne0, gb_eq0]
      refine hq _ _ ⟨by simp only [List.cons.injEq, vI_inj, vR_inj, and_true, true_and]; omega, fun w => ?_, Agr_upd hA (Or.inl ⟨rfl, rfl⟩)⟩
      rw [gupd_eq]
      have z := h1 w
      constructor
      · intro y
        have z1 := z.1 (by omega)
        refine ⟨z1.1, fun q hq hm => ?_⟩
        by_cases e : q = k
        · rw [e]; omega
        · exact z1.2 q (by omega) hm
      · intro y
        have z1 := z.2 ⟨y.1, fun q hq hm => y.2 q (by omega) hm⟩
        have z2 := y.2 k (by omega) m
        omega
  · obtain ⟨rfl, h1, hA⟩ := hi
    obtain ⟨⟨hc1, hd1⟩, hr1⟩ := key τ hA
    have d2 := hc1.2.1
    rw [r_A_weigh_14]
    simp (disch := first | assumption | exact gb_01 _ | omega) only [r_A_weigh_0, r_A_weigh_1, r_A_weigh_6, r_A_weigh_7, r_A_weigh_9, r_A_weigh_12, r_A_weigh_13, r_A_weigh_15, r_A_weigh_16, r_A_weigh_19, r_A_weigh_22, r_A_weigh_23, r_A_weigh_27, r_A_weigh_30, r_A_weigh_31, r_A_weigh_32, r_A_weigh_35, r_A_weigh_36, r_A_weigh_37, r_A_weigh_40, r_A_weigh_41, r_A_weigh_42, r_A_weigh_43, r_A_weigh_46, r_A_weigh_47, r_A_weigh_48, r_A_weigh_54, r_A_weigh_57, r_A_weigh_60, r_A_weigh_63, r_A_weigh_66, r_A_weigh_67, r_A_weigh_69, r_A_weigh_70, r_A_weigh_73, r_A_weigh_76, r_A_weigh_77, r_A_weigh_80, r_A_weigh_81, r_A_weigh_84, r_A_weigh_85, r_A_weigh_86, r_A_weigh_87, r_A_weigh_88, r_A_weigh_89, r_A_weigh_92, r_A_weigh_93, r_A_weigh_94, r_A_weigh_95, r_A_weigh_96, r_A_weigh_102, r_A_weigh_103, r_A_weigh_104, r_A_weigh_107, r_A_weigh_108, r_A_weigh_109, r_A_weigh_110, r_A_weigh_114, r_A_weigh_115, r_A_weigh_118, r_A_weigh_121, r0, r2, r3, w32_gb, w32i, tn_add, tn_mul, Int.toNat_natCast, Int.toNat_zero, Int.reduceLE, Int.reduceLT, Int.reduceEq, Int.reduceNe, gb_T, gb_F, Int.reduceToNat, eq_self, true_or, or_true, and_true, true_and, and_self, ↓ite_gb0, ↓ite_gbn, ↓if_pos, ↓if_neg, if_true, if_false, not_true_eq_false, not_false_eq_true, gb_ne0, gb_eq0]
    refine wloop (n := (f 6).toNat) (I := fun k ls τ => (∃ l, ls = [vR 125, vR 29, vI (k : Int), l]) ∧ (∀ w, w ≤ τ 125 4 ↔ w ≤ 99 ∧ ∀ q : Nat, q < (f 1).toNat → ¬ brme f q (f 6).toNat → w ≤ brlim f q (f (120 + 12 * q + 5))) ∧ (∀ i : Nat, i < k → τ 127 i = brlim f (f (920 + i)).toNat (f (brsp f i)) ∧ τ 128 i = brlim f (f (920 + i)).toNat 0) ∧ Agr τ0 τ (fun k j => (k = 125 ∧ j = 4) ∨ k = 127 ∨ k = 128)) (fun k ls τ hk hi hq => ?_) (fun ls τ hi => ?_) (f 6).toNat 0 (by omega) _ _ ⟨⟨_, rfl⟩, h1, fun i hi => by omega, hA⟩
    · obtain ⟨⟨l, rfl⟩, h1, h2, hA⟩ := hi
      obtain ⟨⟨hc1, hd1⟩, hr1⟩ := key τ hA
      have e6 := hr1.1
      have e9 : τ 126 k = f (920 + k) := hr1.2 k (by omega)
      have r := hr.2.1 k (by omega)
      have b := brsp_bd hw hr (i := k) (by omega)
      have kp := KP (f (920 + k)).toNat (by omega)
      have q := CBp hc1 b.2.2.2.1
      have w := WBp hw b.2.2.2.1
      have hL := sp_B_limitOf (L := L) (d := d + 0) (p := (f (920 + k)).toNat) (a2 := f (120 + 12 * (f (920 + k)).toNat + 5)) hB0 hw hc1 (by omega) hd1 b.2.2.2.1 w.2.2.2.2.2.1
      have hA2 : Agr τ0 (gupd τ 127 k (brlim f (f (920 + k)).toNat (f (120 + 12 * (f (920 + k)).toNat + 5)))) (fun k j => (k = 125 ∧ j = 4) ∨ k = 127 ∨ k = 128) := Agr_upd hA (Or.inr (Or.inl rfl))
      obtain ⟨⟨hc2, hd2⟩, hr2⟩ := key _ hA2
      have hL2 := sp_B_limitOf (L := L) (d := d + 0) (p := (f (920 + k)).toNat) (a2 := 0) hB0 hw hc2 (by omega) hd2 b.2.2.2.1 (by omega)
      simp only [Nat.reduceAdd] at hL hL2 q
      rw [r_A_weigh_68]
      simp (disch := first | assumption | exact gb_01 _ | omega) only [r_A_weigh_0, r_A_weigh_1, r_A_weigh_6, r_A_weigh_7, r_A_weigh_9, r_A_weigh_12, r_A_weigh_13, r_A_weigh_15, r_A_weigh_16, r_A_weigh_19, r_A_weigh_22, r_A_weigh_23, r_A_weigh_27, r_A_weigh_30, r_A_weigh_31, r_A_weigh_32, r_A_weigh_35, r_A_weigh_36, r_A_weigh_37, r_A_weigh_40, r_A_weigh_41, r_A_weigh_42, r_A_weigh_43, r_A_weigh_46, r_A_weigh_47, r_A_weigh_48, r_A_weigh_54, r_A_weigh_57, r_A_weigh_60, r_A_weigh_63, r_A_weigh_66, r_A_weigh_67, r_A_weigh_69, r_A_weigh_70, r_A_weigh_73, r_A_weigh_76, r_A_weigh_77, r_A_weigh_80, r_A_weigh_81, r_A_weigh_84, r_A_weigh_85, r_A_weigh_86, r_A_weigh_87, r_A_weigh_88, r_A_weigh_89, r_A_weigh_92, r_A_weigh_93, r_A_weigh_94, r_A_weigh_95, r_A_weigh_96, r_A_weigh_102, r_A_weigh_103, r_A_weigh_104, r_A_weigh_107, r_A_weigh_108, r_A_weigh_109, r_A_weigh_110, r_A_weigh_114, r_A_weigh_115, r_A_weigh_118, r_A_weigh_121, c_A_weigh_99 hL, c_A_weigh_111 hL2, Option.toList, List.singleton_append, List.cons_append, List.nil_append, List.append_nil, r0, r2, r3, QP, q3, q, e9, w32_gb, w32i, tn_add, tn_mul, Int.toNat_natCast, Int.toNat_zero, Int.reduceLE, Int.reduceLT, Int.reduceEq, Int.reduceNe, gb_T, gb_F, Int.reduceToNat, eq_self, true_or, or_true, and_true, true_and, and_self, ↓ite_gb0, ↓ite_gbn, ↓if_pos, ↓if_neg, if_true, if_false, not_true_eq_false, not_false_eq_true, gb_ne0, gb_eq0]
      refine hq _ _ ⟨⟨_, by rw [show (((k + 1 : Nat)) : Int) = (k : Int) + 1 by omega]⟩, fun w => ?_, fun i hi => ?_, Agr_upd hA2 (Or.inr (Or.inr rfl))⟩
      · rw [gupd_ne (by omega), gupd_ne (by omega)]
        exact h1 w
      · by_cases e : i = k
        · rw [e, gupd_eq, gupd_ne (by omega), gupd_eq]
          exact ⟨rfl, rfl⟩
        · simp (disch := omega) only [gupd_ne]
          exact h2 i (by omega)
    · obtain ⟨⟨l, rfl⟩, h1, h2, hA⟩ := hi
      obtain ⟨⟨hc1, hd1⟩, hr1⟩ := key τ hA
      have e6 := hr1.1
      rw [r_A_weigh_68]
      simp (disch := first | assumption | exact gb_01 _ | omega) only [r_A_weigh_0, r_A_weigh_1, r_A_weigh_6, r_A_weigh_7, r_A_weigh_9, r_A_weigh_12, r_A_weigh_13, r_A_weigh_15, r_A_weigh_16, r_A_weigh_19, r_A_weigh_22, r_A_weigh_23, r_A_weigh_27, r_A_weigh_30, r_A_weigh_31, r_A_weigh_32, r_A_weigh_35, r_A_weigh_36, r_A_weigh_37, r_A_weigh_40, r_A_weigh_41, r_A_weigh_42, r_A_weigh_43, r_A_weigh_46, r_A_weigh_47, r_A_weigh_48, r_A_weigh_54, r_A_weigh_57, r_A_weigh_60, r_A_weigh_63, r_A_weigh_66, r_A_weigh_67, r_A_weigh_69, r_A_weigh_70, r_A_weigh_73, r_A_weigh_76, r_A_weigh_77, r_A_weigh_80, r_A_weigh_81, r_A_weigh_84, r_A_weigh_85, r_A_weigh_86, r_A_weigh_87, r_A_weigh_88, r_A_weigh_89, r_A_weigh_92, r_A_weigh_93, r_A_weigh_94, r_A_weigh_95, r_A_weigh_96, r_A_weigh_102, r_A_weigh_103, r_A_weigh_104, r_A_weigh_107, r_A_weigh_108, r_A_weigh_109, r_A_weigh_110, r_A_weigh_114, r_A_weigh_115, r_A_weigh_118, r_A_weigh_121, r0, r2, r3, w32_gb, w32i, tn_add, tn_mul, Int.toNat_natCast, Int.toNat_zero, Int.reduceLE, Int.reduceLT, Int.reduceEq, Int.reduceNe, gb_T, gb_F, Int.reduceToNat, eq_self, true_or, or_true, and_true, true_and, and_self, ↓ite_gb0, ↓ite_gbn, ↓if_pos, ↓if_neg, if_true, if_false, not_true_eq_false, not_false_eq_true, gb_ne0, gb_eq0]
      refine ⟨⟨fun w => ?_, fun i hi => h2 i (by omega)⟩, fun k j hn => ?_⟩
      · rw [h1 w]
        exact ⟨fun z => ⟨z.1, fun q hq => z.2 q (by omega)⟩, fun z => ⟨z.1, fun q hq => z.2 q (by omega)⟩⟩
      · rw [hA k j (by omega), hA0 k j (by unfold ZSc; omega)]
theorem r_A_safeBy_0 : Wp L d k_A_safeBy 0 [vR b0, l1, l2, l3] [] σ Q ↔ Wp L d k_A_safeBy 1 [vR b0, l1, l2, l3] [vR b0] σ Q := wp_aload rfl rfl
theorem r_A_safeBy_1 (h : gK c0 = 7) : Wp L d k_A_safeBy 1 [l0, l1, l2, l3] [vR c0] σ Q ↔ Wp L d k_A_safeBy 4 [l0, l1, l2, l3] [vI (σ c0 4)] σ Q := wp_getI (c := 1796) rfl rfl rfl rfl h
theorem r_A_safeBy_4 : Wp L d k_A_safeBy 4 [l0, vI a1, l2, l3] [vI s0] σ Q ↔ Wp L d k_A_safeBy 5 [l0, vI a1, vI s0, l3] [] σ Q := wp_istore (i := 2) (ls := [l0, vI a1, l2, l3]) rfl rfl
theorem r_A_safeBy_5 : Wp L d k_A_safeBy 5 [l0, l1, l2, l3] [] σ Q ↔ Wp L d k_A_safeBy 6 [l0, l1, l2, l3] [vI 0] σ Q := wp_push rfl
theorem r_A_safeBy_6 : Wp L d k_A_safeBy 6 [l0, l1, vI a2, l3] [vI s0] σ Q ↔ Wp L d k_A_safeBy 7 [l0, l1, vI a2, vI s0] [] σ Q := wp_istore (i := 3) (ls := [l0, l1, vI a2, l3]) rfl rfl
theorem r_A_safeBy_7 : Wp L d k_A_safeBy 7 [l0, l1, l2, vI a3] [] σ Q ↔ Wp L d k_A_safeBy 8 [l0, l1, l2, vI a3] [vI a3] σ Q := wp_iload rfl rfl
theorem r_A_safeBy_8 : Wp L d k_A_safeBy 8 [vR b0, l1, l2, l3] [vI s0] σ Q ↔ Wp L d k_A_safeBy 9 [vR b0, l1, l2, l3] [vR b0, vI s0] σ Q := wp_aload rfl rfl
theorem r_A_safeBy_9 (h : gK c1 = 7) : Wp L d k_A_safeBy 9 [l0, l1, l2, l3] [vR c1, vI s0] σ Q ↔ Wp L d k_A_safeBy 12 [l0, l1, l2, l3] [vI (σ c1 1), vI s0] σ Q := wp_getI (c := 1793) rfl rfl rfl rfl h
theorem r_A_safeBy_12 : Wp L d k_A_safeBy 12 [l0, l1, l2, l3] [vI s1, vI s0] σ Q ↔ (if s1 ≤ s0 then Wp L d k_A_safeBy 50 [l0, l1, l2, l3] [] σ Q else Wp L d k_A_safeBy 15 [l0, l1, l2, l3] [] σ Q) := wp_cmp_ge rfl
theorem r_A_safeBy_15 : Wp L d k_A_safeBy 15 [l0, l1, vI a2, l3] [] σ Q ↔ Wp L d k_A_safeBy 16 [l0, l1, vI a2, l3] [vI a2] σ Q := wp_iload rfl rfl
theorem r_A_safeBy_16 : Wp L d k_A_safeBy 16 [l0, vI a1, l2, l3] [vI s0] σ Q ↔ Wp L d k_A_safeBy 17 [l0, vI a1, l2, l3] [vI a1, vI s0] σ Q := wp_iload rfl rfl
theorem r_A_safeBy_17 : Wp L d k_A_safeBy 17 [l0, l1, l2, vI a3] [vI s1, vI s0] σ Q ↔ Wp L d k_A_safeBy 18 [l0, l1, l2, vI a3] [vI a3, vI s1, vI s0] σ Q := wp_iload rfl rfl
theorem r_A_safeBy_18 : Wp L d k_A_safeBy 18 [l0, l1, l2, l3] [vI s2, vI s1, vI s0] σ Q ↔ Wp L d k_A_safeBy 19 [l0, l1, l2, l3] [vI (gshr s1 s2), vI s0] σ Q := wp_ishr rfl
theorem r_A_safeBy_19 : Wp L d k_A_safeBy 19 [l0, l1, l2, l3] [vI s1, vI s0] σ Q ↔ Wp L d k_A_safeBy 20 [l0, l1, l2, l3] [vI 1, vI s1, vI s0] σ Q := wp_push rfl
theorem r_A_safeBy_20 : Wp L d k_A_safeBy 20 [l0, l1, l2, l3] [vI s2, vI s1, vI s0] σ Q ↔ Wp L d k_A_safeBy 21 [l0, l1, l2, l3] [vI (gand s1 s2), vI s0] σ Q := wp_iand rfl
theorem r_A_safeBy_21 : Wp L d k_A_safeBy 21 [l0, l1, l2, l3] [vI s1, vI s0] σ Q ↔ Wp L d k_A_safeBy 22 [l0, l1, l2, l3] [vI 1, vI s1, vI s0] σ Q := wp_push rfl
theorem r_A_safeBy_22 : Wp L d k_A_safeBy 22 [l0, l1, l2, l3] [vI s2, vI s1, vI s0] σ Q ↔ (if s1 ≠ s2 then Wp L d k_A_safeBy 34 [l0, l1, l2, l3] [vI s0] σ Q else Wp L d k_A_safeBy 25 [l0, l1, l2, l3] [vI s0] σ Q) := wp_cmp_ne rfl
theorem r_A_safeBy_25 : Wp L d k_A_safeBy 25 [vR b0, l1, l2, l3] [vI s0] σ Q ↔ Wp L d k_A_safeBy 26 [vR b0, l1, l2, l3] [vR b0, vI s0] σ Q := wp_aload rfl rfl
theorem r_A_safeBy_26 (h : gK c1 = 7) : Wp L d k_A_safeBy 26 [l0, l1, l2, l3] [vR c1, vI s0] σ Q ↔ Wp L d k_A_safeBy 29 [l0, l1, l2, l3] [vR (gq c1 3), vI s0] σ Q := wp_getR (c := 1923) rfl rfl rfl rfl rfl h
theorem r_A_safeBy_29 : Wp L d k_A_safeBy 29 [l0, l1, l2, vI a3] [vR c1, vI s0] σ Q ↔ Wp L d k_A_safeBy 30 [l0, l1, l2, vI a3] [vI a3, vR c1, vI s0] σ Q := wp_iload rfl rfl
theorem r_A_safeBy_30 (h : gK c1 = 100) (hx : 0 ≤ s2 ∧ s2 < gN c1) : Wp L d k_A_safeBy 30 [l0, l1, l2, l3] [vI s2, vR c1, vI s0] σ Q ↔ Wp L d k_A_safeBy 31 [l0, l1, l2, l3] [vI (σ c1 s2.toNat), vI s0] σ Q := wp_iald rfl h hx
theorem r_A_safeBy_31 : Wp L d k_A_safeBy 31 [l0, l1, l2, l3] [vI s1, vI s0] σ Q ↔ Wp L d k_A_safeBy 40 [l0, l1, l2, l3] [vI s1, vI s0] σ Q := wp_goto rfl
theorem r_A_safeBy_34 : Wp L d k_A_safeBy 34 [vR b0, l1, l2, l3] [vI s0] σ Q ↔ Wp L d k_A_safeBy 35 [vR b0, l1, l2, l3] [vR b0, vI s0] σ Q := wp_aload rfl rfl
theorem r_A_safeBy_35 (h : gK c1 = 7) : Wp L d k_A_safeBy 35 [l0, l1, l2, l3] [vR c1, vI s0] σ Q ↔ Wp L d k_A_safeBy 38 [l0, l1, l2, l3] [vR (gq c1 2), vI s0] σ Q := wp_getR (c := 1922) rfl rfl rfl rfl rfl h
theorem r_A_safeBy_38 : Wp L d k_A_safeBy 38 [l0, l1, l2, vI a3] [vR c1, vI s0] σ Q ↔ Wp L d k_A_safeBy 39 [l0, l1, l2, vI a3] [vI a3, vR c1, vI s0] σ Q := wp_iload rfl rfl
theorem r_A_safeBy_39 (h : gK c1 = 100) (hx : 0 ≤ s2 ∧ s2 < gN c1) : Wp L d k_A_safeBy 39 [l0, l1, l2, l3] [vI s2, vR c1, vI s0] σ Q ↔ Wp L d k_A_safeBy 40 [l0, l1, l2, l3] [vI (σ c1 s2.toNat), vI s0] σ Q := wp_iald rfl h hx
theorem r_A_safeBy_40 : Wp L d k_A_safeBy 40 [l0, l1, l2, l3] [vI s1, vI s0] σ Q ↔ Wp L d k_A_safeBy 43 [l0, l1, l2, l3] [vI (min s0 s1)] σ Q := wp_min rfl rfl
theorem r_A_safeBy_43 : Wp L d k_A_safeBy 43 [l0, vI a1, l2, l3] [vI s0] σ Q ↔ Wp L d k_A_safeBy 44 [l0, vI a1, vI s0, l3] [] σ Q := wp_istore (i := 2) (ls := [l0, vI a1, l2, l3]) rfl rfl
theorem r_A_safeBy_44 : Wp L d k_A_safeBy 44 [l0, l1, vI a2, vI a3] [] σ Q ↔ Wp L d k_A_safeBy 47 [l0, l1, vI a2, vI (w32 (a3 + 1))] [] σ Q := wp_iinc (i := 3) (ls := [l0, l1, vI a2, vI a3]) rfl rfl
theorem r_A_safeBy_47 : Wp L d k_A_safeBy 47 [l0, l1, l2, l3] [] σ Q ↔ Wp L d k_A_safeBy 7 [l0, l1, l2, l3] [] σ Q := wp_goto rfl
theorem r_A_safeBy_50 : Wp L d k_A_safeBy 50 [l0, l1, vI a2, l3] [] σ Q ↔ Wp L d k_A_safeBy 51 [l0, l1, vI a2, l3] [vI a2] σ Q := wp_iload rfl rfl
theorem r_A_safeBy_51 : Wp L d k_A_safeBy 51 [l0, l1, l2, l3] [vI s0] σ Q ↔ Q (some (vI s0)) σ := wp_iret rfl
theorem sp_A_safeBy {f : Nat → Int} (hw : WB f) (hr : WR f) (hcr : CR 125 f σ) (ha : WA f σ) : Run L d 152 [vR 125, vI a1] σ (some (vI (brsy f a1))) σ := by
  refine Run_of (C' := k_A_safeBy) rfl ?_
  show Wp L d k_A_safeBy 0 [vR 125, vI a1, vU, vU] [] σ _
  obtain ⟨K125, r0, r2, r3, K126, K127, K128, N126, N127, N128⟩ := litR
  have w6 := hr.1
  have c6 := hcr.1
  simp (disch := first | assumption | exact gb_01 _ | omega) only [r_A_safeBy_0, r_A_safeBy_1, r_A_safeBy_4, r_A_safeBy_5, r_A_safeBy_6, r_A_safeBy_8, r_A_safeBy_9, r_A_safeBy_12, r_A_safeBy_15, r_A_safeBy_16, r_A_safeBy_17, r_A_safeBy_18, r_A_safeBy_19, r_A_safeBy_20, r_A_safeBy_21, r_A_safeBy_22, r_A_safeBy_25, r_A_safeBy_26, r_A_safeBy_29, r_A_safeBy_30, r_A_safeBy_31, r_A_safeBy_34, r_A_safeBy_35, r_A_safeBy_38, r_A_safeBy_39, r_A_safeBy_40, r_A_safeBy_43, r_A_safeBy_44, r_A_safeBy_47, r_A_safeBy_50, r_A_safeBy_51, r0, r2, r3, w32_gb, w32i, tn_add, tn_mul, Int.toNat_natCast, Int.toNat_zero, Int.reduceLE, Int.reduceLT, Int.reduceEq, Int.reduceNe, gb_T, gb_F, Int.reduceToNat, eq_self, true_or, or_true, and_true, true_and, and_self, ↓ite_gb0, ↓ite_gbn, ↓if_pos, ↓if_neg, if_true, if_false, not_true_eq_false, not_false_eq_true, gb_ne0, gb_eq0]
  refine wloop (n := (f 6).toNat) (I := fun k ls τ => (∃ v : Int, ls = [vR 125, vI a1, vI v, vI (k : Int)] ∧ ∀ w, w ≤ v ↔ w ≤ σ 125 4 ∧ ∀ i : Nat, i < k → w ≤ if gbt a1 (i : Int) = 1 then σ 128 i else σ 127 i) ∧ τ = σ) (fun k ls τ hk hi hq => ?_) (fun ls τ hi => ?_) (f 6).toNat 0 (by omega) _ _ ⟨⟨_, rfl, fun w => ⟨fun h => ⟨h, fun i hi => by omega⟩, fun h => h.1⟩⟩, rfl⟩
  · obtain ⟨⟨v, rfl, hv⟩, rfl⟩ := hi
    have b2 : gand (gshr a1 (k : Int)) 1 = gbt a1 (k : Nat) := rfl
    rw [r_A_safeBy_7]
    by_cases c : gbt a1 (k : Int) = 1
    · simp (disch := first | assumption | exact gb_01 _ | omega) only [r_A_safeBy_0, r_A_safeBy_1, r_A_safeBy_4, r_A_safeBy_5, r_A_safeBy_6, r_A_safeBy_8, r_A_safeBy_9, r_A_safeBy_12, r_A_safeBy_15, r_A_safeBy_16, r_A_safeBy_17, r_A_safeBy_18, r_A_safeBy_19, r_A_safeBy_20, r_A_safeBy_21, r_A_safeBy_22, r_A_safeBy_25, r_A_safeBy_26, r_A_safeBy_29, r_A_safeBy_30, r_A_safeBy_31, r_A_safeBy_34, r_A_safeBy_35, r_A_safeBy_38, r_A_safeBy_39, r_A_safeBy_40, r_A_safeBy_43, r_A_safeBy_44, r_A_safeBy_47, r_A_safeBy_50, r_A_safeBy_51, r0, r2, r3, b2, w32_gb, w32i, tn_add, tn_mul, Int.toNat_natCast, Int.toNat_zero, Int.reduceLE, Int.reduceLT, Int.reduceEq, Int.reduceNe, gb_T, gb_F, Int.reduceToNat, eq_self, true_or, or_true, and_true, true_and, and_self, ↓ite_gb0, ↓ite_gbn, ↓if_pos, ↓if_neg, if_true, if_false, not_true_eq_false, not_false_eq_true, gb_ne0, gb_eq0]
      refine hq _ _ ⟨⟨min v (τ 128 k), by rw [show (((k + 1 : Nat)) : Int) = (k : Int) + 1 by omega], fun w => ?_⟩, rfl⟩
      have z := hv w
      constructor
      · intro y
        have z1 := z.1 (by omega)
        refine ⟨z1.1, fun i hi => ?_⟩
        by_cases e : i = k
        · rw [e, if_pos c]; omega
        · exact z1.2 i (by omega)
      · intro y
        have z1 := z.2 ⟨y.1, fun i hi => y.2 i (by omega)⟩
        have z2 := y.2 k (by omega)
        rw [if_pos c] at z2
        omega
    · simp (disch := first | assumption | exact gb_01 _ | omega) only [r_A_safeBy_0, r_A_safeBy_1, r_A_safeBy_4, r_A_safeBy_5, r_A_safeBy_6, r_A_safeBy_8, r_A_safeBy_9, r_A_safeBy_12, r_A_safeBy_15, r_A_safeBy_16, r_A_safeBy_17, r_A_safeBy_18, r_A_safeBy_19, r_A_safeBy_20, r_A_safeBy_21, r_A_safeBy_22, r_A_safeBy_25, r_A_safeBy_26, r_A_safeBy_29, r_A_safeBy_30, r_A_safeBy_31, r_A_safeBy_34, r_A_safeBy_35, r_A_safeBy_38, r_A_safeBy_39, r_A_safeBy_40, r_A_safeBy_43, r_A_safeBy_44, r_A_safeBy_47, r_A_safeBy_50, r_A_safeBy_51, r0, r2, r3, b2, w32_gb, w32i, tn_add, tn_mul, Int.toNat_natCast, Int.toNat_zero, Int.reduceLE, Int.reduceLT, Int.reduceEq, Int.reduceNe, gb_T, gb_F, Int.reduceToNat, eq_self, true_or, or_true, and_true, true_and, and_self, ↓ite_gb0, ↓ite_gbn, ↓if_pos, ↓if_neg, if_true, if_false, not_true_eq_false, not_false_eq_true, gb_ne0, gb_eq0]
      refine hq _ _ ⟨⟨min v (τ 127 k), by rw [show (((k + 1 : Nat)) : Int) = (k : Int) + 1 by omega], fun w => ?_⟩, rfl⟩
      have z := hv w
      constructor
      · intro y
        have z1 := z.1 (by omega)
        refine ⟨z1.1, fun i hi => ?_⟩
        by_cases e : i = k
        · rw [e, if_neg c]; omega
        · exact z1.2 i (by omega)
      · intro y
        have z1 := z.2 ⟨y.1, fun i hi => y.2 i (by omega)⟩
        have z2 := y.2 k (by omega)
        rw [if_neg c] at z2
        omega
  · obtain ⟨⟨v, rfl, hv⟩, rfl⟩ := hi
    have e : v = brsy f a1 := le_ext (fun w => by rw [hv w, brsy_iff hw hr ha])
    rw [r_A_safeBy_7]
    simp (disch := first | assumption | exact gb_01 _ | omega) only [r_A_safeBy_0, r_A_safeBy_1, r_A_safeBy_4, r_A_safeBy_5, r_A_safeBy_6, r_A_safeBy_8, r_A_safeBy_9, r_A_safeBy_12, r_A_safeBy_15, r_A_safeBy_16, r_A_safeBy_17, r_A_safeBy_18, r_A_safeBy_19, r_A_safeBy_20, r_A_safeBy_21, r_A_safeBy_22, r_A_safeBy_25, r_A_safeBy_26, r_A_safeBy_29, r_A_safeBy_30, r_A_safeBy_31, r_A_safeBy_34, r_A_safeBy_35, r_A_safeBy_38, r_A_safeBy_39, r_A_safeBy_40, r_A_safeBy_43, r_A_safeBy_44, r_A_safeBy_47, r_A_safeBy_50, r_A_safeBy_51, r0, r2, r3, e, w32_gb, w32i, tn_add, tn_mul, Int.toNat_natCast, Int.toNat_zero, Int.reduceLE, Int.reduceLT, Int.reduceEq, Int.reduceNe, gb_T, gb_F, Int.reduceToNat, eq_self, true_or, or_true, and_true, true_and, and_self, ↓ite_gb0, ↓ite_gbn, ↓if_pos, ↓if_neg, if_true, if_false, not_true_eq_false, not_false_eq_true, gb_ne0, gb_eq0]
