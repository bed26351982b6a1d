/-! The piers weighed. -/
variable {L d : Nat} {σ σ1 : Nat → Nat → Int} {Q : Option gV → (Nat → Nat → Int) → Prop} {a0 a1 a2 a3 a4 a5 a6 a7 a8 a9 a10 a11 s0 s1 s2 s3 s4 s5 s6 s7 s8 s9 : Int} {l0 l1 l2 l3 l4 l5 l6 l7 l8 l9 l10 l11 t0 t1 t2 t3 t4 t5 t6 t7 t8 t9 : gV} {b0 b1 b2 b3 b4 b5 b6 b7 b8 b9 b10 b11 c0 c1 c2 c3 c4 c5 c6 c7 c8 c9 : Nat} {r : Option gV}
def brsv (f : Nat → Int) (i : Nat) : Int := if f (20 + 3 * i + 2) = 0 then f (20 + 3 * i + 1) else 0
def brwv (f : Nat → Int) (i : Nat) : Int := if f (20 + 3 * i + 2) = 0 then f (20 + 3 * i) else 0
/-- v at the piers i and i + 1 -/
def brad (p i : Nat) (v : Int) : Int := if p = i ∨ p = i + 1 then v else 0
def brtr (f : Nat → Int) (p : Nat) (v : Int) : Int := if (0 ≤ f 11 ∧ f 11 < f 0) ∧ f (20 + 3 * (f 11).toNat + 2) = 0 then brad p (f 11).toNat v else 0
def brS (f : Nat → Int) (p : Nat) : Int := gsm (fun i => brad p i (brsv f i)) (f 0).toNat + brtr f p (f 10)
def brW (f : Nat → Int) (p : Nat) : Int := gsm (fun i => brad p i (brwv f i)) (f 0).toNat + brtr f p (f 9)
def brsh (f : Nat → Int) (p : Int) (n : Nat) : Int := gsm (fun q => if f (120 + 12 * q + 8) = 1 ∧ f (120 + 12 * q + 1) = p then f (120 + 12 * q + 3) else 0) n
def brpull (f : Nat → Int) (w : Int) (p : Nat) : Int := max 0 (w * brS f p - 10 * brW f p)
def brbe (k st fl s : Int) : Int := if k = 1 then st * (100 - fl) * 100 else if k = 2 then st * (100 - s) * 100 else if k = 3 then st * (100 - s) * (100 - fl) else st * 10000
theorem mul_bd {a b A B : Int} (ha : 0 ≤ a ∧ a ≤ A) (hb : 0 ≤ b ∧ b ≤ B) : 0 ≤ a * b ∧ a * b ≤ A * B := ⟨Int.mul_nonneg ha.1 hb.1, Int.mul_le_mul ha.2 hb.2 hb.1 (by omega)⟩
theorem brad_sum (v : Nat → Int) (p : Nat) : ∀ n, gsm (fun i => brad p i (v i)) n = (if p < n then v p else 0) + (if 1 ≤ p ∧ p ≤ n then v (p - 1) else 0)
  | 0 => by
    simp only [gsm]
    rw [if_neg (by omega), if_neg (by omega)]
    rfl
  | n + 1 => by
    simp only [gsm, brad_sum v p n]
    unfold brad
    by_cases e1 : p = n
    · subst e1
      rw [if_neg (Nat.lt_irrefl p), if_pos (c := p = p ∨ p = p + 1) (Or.inl rfl), if_pos (c := p < p + 1) (by omega)]
      by_cases e3 : 1 ≤ p
      · rw [if_pos (c := 1 ≤ p ∧ p ≤ p) (by omega), if_pos (by omega)]
        omega
      · rw [if_neg (c := 1 ≤ p ∧ p ≤ p) (by omega), if_neg (c := 1 ≤ p ∧ p ≤ p + 1) (by omega)]
        omega
    · by_cases e2 : p = n + 1
      · subst e2
        rw [if_neg (by omega), if_neg (by omega), if_pos (by omega), if_neg (by omega), if_pos (by omega)]
        simp only [Nat.add_sub_cancel]
        omega
      · rw [if_neg (c := p = n ∨ p = n + 1) (by omega)]
        by_cases e3 : p < n
        · rw [if_pos e3, if_pos (c := p < n + 1) (by omega)]
          by_cases e4 : 1 ≤ p
          · rw [if_pos (by omega), if_pos (by omega)]; omega
          · rw [if_neg (by omega), if_neg (by omega)]; omega
        · rw [if_neg e3, if_neg (c := p < n + 1) (by omega), if_neg (by omega), if_neg (by omega)]; omega
theorem brsv_bd {f : Nat → Int} (hw : WB f) (i : Nat) (hi : (i : Int) < f 0) : (0 ≤ brsv f i ∧ brsv f i ≤ 99) ∧ (0 ≤ brwv f i ∧ brwv f i ≤ 99) := by
  have w3 := hw.2.2.1 i hi
  unfold brsv brwv
  split <;> omega
theorem brad_bd {p i : Nat} {v B : Int} (h : 0 ≤ v ∧ v ≤ B) : 0 ≤ brad p i v ∧ brad p i v ≤ B := by
  unfold brad
  split <;> omega
theorem brads_bd {v : Nat → Int} {n : Nat} (p : Nat) (h : ∀ i, i < n → 0 ≤ v i ∧ v i ≤ 99) (k : Nat) (hk : k ≤ n) : 0 ≤ gsm (fun i => brad p i (v i)) k ∧ gsm (fun i => brad p i (v i)) k ≤ 198 := by
  rw [brad_sum]
  have a := h p
  have b := h (p - 1)
  split <;> split <;> omega
theorem brtr_bd {f : Nat → Int} {p : Nat} {v : Int} (h : 0 ≤ v ∧ v ≤ 99) : 0 ≤ brtr f p v ∧ brtr f p v ≤ 99 := by
  unfold brtr
  split
  · exact brad_bd h
  · omega
theorem brS_bd {f : Nat → Int} (hw : WB f) (p : Nat) : (0 ≤ brS f p ∧ brS f p ≤ 297) ∧ (0 ≤ brW f p ∧ brW f p ≤ 297) := by
  obtain ⟨w1, w2, w3, w4, w5, w6, w7, w8⟩ := hw
  have hw : WB f := ⟨w1, w2, w3, w4, w5, w6, w7, w8⟩
  have a := brads_bd (v := brsv f) (n := (f 0).toNat) p (fun i hi => (brsv_bd hw i (by omega)).1) _ (Nat.le_refl _)
  have b := brads_bd (v := brwv f) (n := (f 0).toNat) p (fun i hi => (brsv_bd hw i (by omega)).2) _ (Nat.le_refl _)
  have c := brtr_bd (f := f) (p := p) w6
  have d := brtr_bd (f := f) (p := p) w5
  unfold brS brW
  omega
theorem brsh_bd {f : Nat → Int} (hw : WB f) (p : Int) (n : Nat) (hn : (n : Int) ≤ f 1) : 0 ≤ brsh f p n ∧ brsh f p n ≤ 360 := by
  have w2 := hw.2.1
  have := gsm_bd (g := fun q => if f (120 + 12 * q + 8) = 1 ∧ f (120 + 12 * q + 1) = p then f (120 + 12 * q + 3) else 0) (B := 9) n (fun k hk => by
    have w := WBp hw (p := k) (by omega)
    split <;> omega)
  unfold brsh
  omega
theorem brpull_bd {f : Nat → Int} (hw : WB f) {w : Int} (h : 0 ≤ w ∧ w ≤ 99) (p : Nat) : 0 ≤ brpull f w p ∧ brpull f w p ≤ 29403 := by
  have a := brS_bd hw p
  have b := mul_bd h a.1
  unfold brpull
  omega
theorem brbe_bd {k st fl s : Int} (h1 : 1 ≤ st ∧ st ≤ 999) (h2 : 0 ≤ fl ∧ fl ≤ 99) (h3 : 0 ≤ s ∧ s ≤ 99) : 1 ≤ brbe k st fl s ∧ brbe k st fl s ≤ 9990000 := by
  have a := mul_bd (a := st - 1) (b := 100 - fl) (A := 998) (B := 100) (by omega) (by omega)
  have b := mul_bd (a := st - 1) (b := 100 - s) (A := 998) (B := 100) (by omega) (by omega)
  have c := mul_bd (a := st * (100 - s)) (b := 100 - fl) (A := 99900) (B := 100) (by rw [Int.sub_mul] at b; omega) (by omega)
  have d : 1 ≤ st * (100 - s) * (100 - fl) := by
    have x : 1 ≤ st * (100 - s) := by rw [Int.sub_mul] at b; omega
    have y := mul_bd (a := st * (100 - s) - 1) (b := 100 - fl) (A := 99900) (B := 100) (by rw [Int.sub_mul] at b; omega) (by omega)
    rw [Int.sub_mul] at y
    omega
  rw [Int.sub_mul] at a b
  unfold brbe
  split
  · omega
  · split
    · omega
    · split <;> omega
/-- the piers as weighed last -/
def WD (b : Nat) (f : Nat → Int) (w : Int) (τ : gMm) : Prop := ∀ p : Nat, (p : Int) ≤ f 0 → τ (b + 5) p = brS f p ∧ τ (b + 6) p = brW f p ∧ τ (b + 7) p = brsh f p (f 1).toNat ∧ τ (b + 8) p = brpull f w p
def ZSc (b k _j : Nat) : Prop := b + 5 ≤ k ∧ k ≤ b + 8
theorem CB_sc {b : Nat} {f : Nat → Int} {σ τ : gMm} (hw : WB f) (hc : CB b f σ) (hA : Agr σ τ (ZSc b)) : CB b f τ := CB_agr (fun k j hk => hA k j (by unfold ZSc; omega)) hw hc
theorem r_B_hang_0 : Wp L d k_B_hang 0 [vR b0, l1, l2, l3] [] σ Q ↔ Wp L d k_B_hang 1 [vR b0, l1, l2, l3] [vR b0] σ Q := wp_aload rfl rfl
theorem r_B_hang_1 (h : gK c0 = 1) : Wp L d k_B_hang 1 [l0, l1, l2, l3] [vR c0] σ Q ↔ Wp L d k_B_hang 4 [l0, l1, l2, l3] [vR (gq c0 4)] σ Q := wp_getR (c := 388) rfl rfl rfl rfl rfl h
theorem r_B_hang_4 : Wp L d k_B_hang 4 [l0, vI a1, l2, l3] [vR c0] σ Q ↔ Wp L d k_B_hang 5 [l0, vI a1, l2, l3] [vI a1, vR c0] σ Q := wp_iload rfl rfl
theorem r_B_hang_5 : Wp L d k_B_hang 5 [l0, l1, l2, l3] [vI s1, vR c0] σ Q ↔ Wp L d k_B_hang 6 [l0, l1, l2, l3] [vI s1, vR c0, vI s1, vR c0] σ Q := wp_dup2 rfl
theorem r_B_hang_6 (h : gK c2 = 100) (hx : 0 ≤ s3 ∧ s3 < gN c2) : Wp L d k_B_hang 6 [l0, l1, l2, l3] [vI s3, vR c2, vI s1, vR c0] σ Q ↔ Wp L d k_B_hang 7 [l0, l1, l2, l3] [vI (σ c2 s3.toNat), vI s1, vR c0] σ Q := wp_iald rfl h hx
theorem r_B_hang_7 : Wp L d k_B_hang 7 [l0, l1, vI a2, l3] [vI s2, vI s1, vR c0] σ Q ↔ Wp L d k_B_hang 8 [l0, l1, vI a2, l3] [vI a2, vI s2, vI s1, vR c0] σ Q := wp_iload rfl rfl
theorem r_B_hang_8 : Wp L d k_B_hang 8 [l0, l1, l2, l3] [vI s3, vI s2, vI s1, vR c0] σ Q ↔ Wp L d k_B_hang 9 [l0, l1, l2, l3] [vI (w32 (s2 + s3)), vI s1, vR c0] σ Q := wp_iadd rfl
theorem r_B_hang_9 (h : gK c0 = 100) (hx : 0 ≤ s1 ∧ s1 < gN c0) : Wp L d k_B_hang 9 [l0, l1, l2, l3] [vI s2, vI s1, vR c0] σ Q ↔ Wp L d k_B_hang 10 [l0, l1, l2, l3] [] (gupd σ c0 s1.toNat s2) Q := wp_iast rfl h hx
theorem r_B_hang_10 : Wp L d k_B_hang 10 [vR b0, l1, l2, l3] [] σ Q ↔ Wp L d k_B_hang 11 [vR b0, l1, l2, l3] [vR b0] σ Q := wp_aload rfl rfl
theorem r_B_hang_11 (h : gK c0 = 1) : Wp L d k_B_hang 11 [l0, l1, l2, l3] [vR c0] σ Q ↔ Wp L d k_B_hang 14 [l0, l1, l2, l3] [vR (gq c0 4)] σ Q := wp_getR (c := 388) rfl rfl rfl rfl rfl h
theorem r_B_hang_14 : Wp L d k_B_hang 14 [l0, vI a1, l2, l3] [vR c0] σ Q ↔ Wp L d k_B_hang 15 [l0, vI a1, l2, l3] [vI a1, vR c0] σ Q := wp_iload rfl rfl
theorem r_B_hang_15 : Wp L d k_B_hang 15 [l0, l1, l2, l3] [vI s1, vR c0] σ Q ↔ Wp L d k_B_hang 16 [l0, l1, l2, l3] [vI 1, vI s1, vR c0] σ Q := wp_push rfl
theorem r_B_hang_16 : Wp L d k_B_hang 16 [l0, l1, l2, l3] [vI s2, vI s1, vR c0] σ Q ↔ Wp L d k_B_hang 17 [l0, l1, l2, l3] [vI (w32 (s1 + s2)), vR c0] σ Q := wp_iadd rfl
theorem r_B_hang_17 : Wp L d k_B_hang 17 [l0, l1, l2, l3] [vI s1, vR c0] σ Q ↔ Wp L d k_B_hang 18 [l0, l1, l2, l3] [vI s1, vR c0, vI s1, vR c0] σ Q := wp_dup2 rfl
theorem r_B_hang_18 (h : gK c2 = 100) (hx : 0 ≤ s3 ∧ s3 < gN c2) : Wp L d k_B_hang 18 [l0, l1, l2, l3] [vI s3, vR c2, vI s1, vR c0] σ Q ↔ Wp L d k_B_hang 19 [l0, l1, l2, l3] [vI (σ c2 s3.toNat), vI s1, vR c0] σ Q := wp_iald rfl h hx
theorem r_B_hang_19 : Wp L d k_B_hang 19 [l0, l1, vI a2, l3] [vI s2, vI s1, vR c0] σ Q ↔ Wp L d k_B_hang 20 [l0, l1, vI a2, l3] [vI a2, vI s2, vI s1, vR c0] σ Q := wp_iload rfl rfl
theorem r_B_hang_20 : Wp L d k_B_hang 20 [l0, l1, l2, l3] [vI s3, vI s2, vI s1, vR c0] σ Q ↔ Wp L d k_B_hang 21 [l0, l1, l2, l3] [vI (w32 (s2 + s3)), vI s1, vR c0] σ Q := wp_iadd rfl
theorem r_B_hang_21 (h : gK c0 = 100) (hx : 0 ≤ s1 ∧ s1 < gN c0) : Wp L d k_B_hang 21 [l0, l1, l2, l3] [vI s2, vI s1, vR c0] σ Q ↔ Wp L d k_B_hang 22 [l0, l1, l2, l3] [] (gupd σ c0 s1.toNat s2) Q := wp_iast rfl h hx
theorem r_B_hang_22 : Wp L d k_B_hang 22 [vR b0, l1, l2, l3] [] σ Q ↔ Wp L d k_B_hang 23 [vR b0, l1, l2, l3] [vR b0] σ Q := wp_aload rfl rfl
theorem r_B_hang_23 (h : gK c0 = 1) : Wp L d k_B_hang 23 [l0, l1, l2, l3] [vR c0] σ Q ↔ Wp L d k_B_hang 26 [l0, l1, l2, l3] [vR (gq c0 5)] σ Q := wp_getR (c := 389) rfl rfl rfl rfl rfl h
theorem r_B_hang_26 : Wp L d k_B_hang 26 [l0, vI a1, l2, l3] [vR c0] σ Q ↔ Wp L d k_B_hang 27 [l0, vI a1, l2, l3] [vI a1, vR c0] σ Q := wp_iload rfl rfl
theorem r_B_hang_27 : Wp L d k_B_hang 27 [l0, l1, l2, l3] [vI s1, vR c0] σ Q ↔ Wp L d k_B_hang 28 [l0, l1, l2, l3] [vI s1, vR c0, vI s1, vR c0] σ Q := wp_dup2 rfl
theorem r_B_hang_28 (h : gK c2 = 100) (hx : 0 ≤ s3 ∧ s3 < gN c2) : Wp L d k_B_hang 28 [l0, l1, l2, l3] [vI s3, vR c2, vI s1, vR c0] σ Q ↔ Wp L d k_B_hang 29 [l0, l1, l2, l3] [vI (σ c2 s3.toNat), vI s1, vR c0] σ Q := wp_iald rfl h hx
theorem r_B_hang_29 : Wp L d k_B_hang 29 [l0, l1, l2, vI a3] [vI s2, vI s1, vR c0] σ Q ↔ Wp L d k_B_hang 30 [l0, l1, l2, vI a3] [vI a3, vI s2, vI s1, vR c0] σ Q := wp_iload rfl rfl
theorem r_B_hang_30 : Wp L d k_B_hang 30 [l0, l1, l2, l3] [vI s3, vI s2, vI s1, vR c0] σ Q ↔ Wp L d k_B_hang 31 [l0, l1, l2, l3] [vI (w32 (s2 + s3)), vI s1, vR c0] σ Q := wp_iadd rfl
theorem r_B_hang_31 (h : gK c0 = 100) (hx : 0 ≤ s1 ∧ s1 < gN c0) : Wp L d k_B_hang 31 [l0, l1, l2, l3] [vI s2, vI s1, vR c0] σ Q ↔ Wp L d k_B_hang 32 [l0, l1, l2, l3] [] (gupd σ c0 s1.toNat s2) Q := wp_iast rfl h hx
theorem r_B_hang_32 : Wp L d k_B_hang 32 [vR b0, l1, l2, l3] [] σ Q ↔ Wp L d k_B_hang 33 [vR b0, l1, l2, l3] [vR b0] σ Q := wp_aload rfl rfl
theorem r_B_hang_33 (h : gK c0 = 1) : Wp L d k_B_hang 33 [l0, l1, l2, l3] [vR c0] σ Q ↔ Wp L d k_B_hang 36 [l0, l1, l2, l3] [vR (gq c0 5)] σ Q := wp_getR (c := 389) rfl rfl rfl rfl rfl h
theorem r_B_hang_36 : Wp L d k_B_hang 36 [l0, vI a1, l2, l3] [vR c0] σ Q ↔ Wp L d k_B_hang 37 [l0, vI a1, l2, l3] [vI a1, vR c0] σ Q := wp_iload rfl rfl
theorem r_B_hang_37 : Wp L d k_B_hang 37 [l0, l1, l2, l3] [vI s1, vR c0] σ Q ↔ Wp L d k_B_hang 38 [l0, l1, l2, l3] [vI 1, vI s1, vR c0] σ Q := wp_push rfl
theorem r_B_hang_38 : Wp L d k_B_hang 38 [l0, l1, l2, l3] [vI s2, vI s1, vR c0] σ Q ↔ Wp L d k_B_hang 39 [l0, l1, l2, l3] [vI (w32 (s1 + s2)), vR c0] σ Q := wp_iadd rfl
theorem r_B_hang_39 : Wp L d k_B_hang 39 [l0, l1, l2, l3] [vI s1, vR c0] σ Q ↔ Wp L d k_B_hang 40 [l0, l1, l2, l3] [vI s1, vR c0, vI s1, vR c0] σ Q := wp_dup2 rfl
theorem r_B_hang_40 (h : gK c2 = 100) (hx : 0 ≤ s3 ∧ s3 < gN c2) : Wp L d k_B_hang 40 [l0, l1, l2, l3] [vI s3, vR c2, vI s1, vR c0] σ Q ↔ Wp L d k_B_hang 41 [l0, l1, l2, l3] [vI (σ c2 s3.toNat), vI s1, vR c0] σ Q := wp_iald rfl h hx
theorem r_B_hang_41 : Wp L d k_B_hang 41 [l0, l1, l2, vI a3] [vI s2, vI s1, vR c0] σ Q ↔ Wp L d k_B_hang 42 [l0, l1, l2, vI a3] [vI a3, vI s2, vI s1, vR c0] σ Q := wp_iload rfl rfl
theorem r_B_hang_42 : Wp L d k_B_hang 42 [l0, l1, l2, l3] [vI s3, vI s2, vI s1, vR c0] σ Q ↔ Wp L d k_B_hang 43 [l0, l1, l2, l3] [vI (w32 (s2 + s3)), vI s1, vR c0] σ Q := wp_iadd rfl
theorem r_B_hang_43 (h : gK c0 = 100) (hx : 0 ≤ s1 ∧ s1 < gN c0) : Wp L d k_B_hang 43 [l0, l1, l2, l3] [vI s2, vI s1, vR c0] σ Q ↔ Wp L d k_B_hang 44 [l0, l1, l2, l3] [] (gupd σ c0 s1.toNat s2) Q := wp_iast rfl h hx
theorem r_B_hang_44 : Wp L d k_B_hang 44 [l0, l1, l2, l3] [] σ Q ↔ Q none σ := wp_vret rfl
theorem sp_B_hang {b : Nat} (hB : BR b) (h : 0 ≤ a1 ∧ a1 ≤ 11) (h2 : 0 ≤ a2 ∧ a2 ≤ 99) (h3 : 0 ≤ a3 ∧ a3 ≤ 99) (hv : ∀ p : Nat, p = a1.toNat ∨ p = a1.toNat + 1 → (0 ≤ σ (b + 5) p ∧ σ (b + 5) p ≤ 1000) ∧ 0 ≤ σ (b + 6) p ∧ σ (b + 6) p ≤ 1000) : ∃ σ', Run L d 98 [vR b, vI a1, vI a2, vI a3] σ none σ' ∧ (∀ p : Nat, σ' (b + 5) p = σ (b + 5) p + brad p a1.toNat a2 ∧ σ' (b + 6) p = σ (b + 6) p + brad p a1.toNat a3) ∧ Agr σ σ' (fun k _ => k = b + 5 ∨ k = b + 6) := by
  refine Run_ex (C' := k_B_hang) rfl ?_
  show Wp L d k_B_hang 0 [vR b, vI a1, vI a2, vI a3] [] σ _
  obtain ⟨⟨K0, q0, q1, q2, q3, q4, q5, q6, q7⟩, ⟨K1, K2, K3, K4, K5, K6, K7, K8⟩, ⟨N1, N2, N3, N4, N5, N6, N7, N8⟩, QP, KP⟩ := hB
  have v0 := hv a1.toNat (Or.inl rfl)
  have v1 := hv (a1.toNat + 1) (Or.inr rfl)
  simp (disch := first | assumption | exact gb_01 _ | omega) only [r_B_hang_0, r_B_hang_1, r_B_hang_4, r_B_hang_5, r_B_hang_6, r_B_hang_7, r_B_hang_8, r_B_hang_9, r_B_hang_10, r_B_hang_11, r_B_hang_14, r_B_hang_15, r_B_hang_16, r_B_hang_17, r_B_hang_18, r_B_hang_19, r_B_hang_20, r_B_hang_21, r_B_hang_22, r_B_hang_23, r_B_hang_26, r_B_hang_27, r_B_hang_28, r_B_hang_29, r_B_hang_30, r_B_hang_31, r_B_hang_32, r_B_hang_33, r_B_hang_36, r_B_hang_37, r_B_hang_38, r_B_hang_39, r_B_hang_40, r_B_hang_41, r_B_hang_42, r_B_hang_43, r_B_hang_44, q0, q1, q2, q3, q4, q5, q6, q7, QP, gupd_ne, gupd_eq, w32_gb, w32i, tn_add, tn_mul, Int.toNat_natCast, Int.toNat_zero, Int.reduceLE, Int.reduceLT, Int.reduceEq, Int.reduceNe, gb_T, gb_F, Int.reduceToNat, eq_self, true_or, or_true, and_true, true_and, and_self, ↓ite_gb0, ↓ite_gbn, ↓if_pos, ↓if_neg, if_true, if_false, not_true_eq_false, not_false_eq_true, gb_ne0, gb_eq0]
  refine ⟨fun p => ?_, Agr_upd (Agr_upd (Agr_upd (Agr_upd (Agr_refl _ _) (Or.inl rfl)) (Or.inl rfl)) (Or.inr rfl)) (Or.inr rfl)⟩
  unfold brad
  by_cases e1 : p = a1.toNat
  · rw [e1, if_pos (Or.inl rfl), if_pos (Or.inl rfl)]
    simp (disch := omega) only [gupd_ne, gupd_eq, and_self]
  · by_cases e2 : p = a1.toNat + 1
    · rw [e2, if_pos (Or.inr rfl), if_pos (Or.inr rfl)]
      simp (disch := omega) only [gupd_ne, gupd_eq, and_self]
    · rw [if_neg (by omega), if_neg (by omega)]
      simp (disch := omega) only [gupd_ne, Int.add_zero, and_self]
theorem r_B_isUp_0 : Wp L d k_B_isUp 0 [l0, vI a1] [] σ Q ↔ Wp L d k_B_isUp 1 [l0, vI a1] [vI a1] σ Q := wp_iload rfl rfl
theorem r_B_isUp_1 : Wp L d k_B_isUp 1 [l0, l1] [vI s0] σ Q ↔ (if s0 < 0 then Wp L d k_B_isUp 25 [l0, l1] [] σ Q else Wp L d k_B_isUp 4 [l0, l1] [] σ Q) := wp_if_lt rfl
theorem r_B_isUp_4 : Wp L d k_B_isUp 4 [l0, vI a1] [] σ Q ↔ Wp L d k_B_isUp 5 [l0, vI a1] [vI a1] σ Q := wp_iload rfl rfl
theorem r_B_isUp_5 : Wp L d k_B_isUp 5 [vR b0, l1] [vI s0] σ Q ↔ Wp L d k_B_isUp 6 [vR b0, l1] [vR b0, vI s0] σ Q := wp_aload rfl rfl
theorem r_B_isUp_6 (h : gK c1 = 1) : Wp L d k_B_isUp 6 [l0, l1] [vR c1, vI s0] σ Q ↔ Wp L d k_B_isUp 9 [l0, l1] [vI (σ c1 8), vI s0] σ Q := wp_getI (c := 264) rfl rfl rfl rfl h
theorem r_B_isUp_9 : Wp L d k_B_isUp 9 [l0, l1] [vI s1, vI s0] σ Q ↔ (if s1 ≤ s0 then Wp L d k_B_isUp 25 [l0, l1] [] σ Q else Wp L d k_B_isUp 12 [l0, l1] [] σ Q) := wp_cmp_ge rfl
theorem r_B_isUp_12 : Wp L d k_B_isUp 12 [vR b0, l1] [] σ Q ↔ Wp L d k_B_isUp 13 [vR b0, l1] [vR b0] σ Q := wp_aload rfl rfl
theorem r_B_isUp_13 (h : gK c0 = 1) : Wp L d k_B_isUp 13 [l0, l1] [vR c0] σ Q ↔ Wp L d k_B_isUp 16 [l0, l1] [vR (gq c0 2)] σ Q := wp_getR (c := 386) rfl rfl rfl rfl rfl h
theorem r_B_isUp_16 : Wp L d k_B_isUp 16 [l0, vI a1] [vR c0] σ Q ↔ Wp L d k_B_isUp 17 [l0, vI a1] [vI a1, vR c0] σ Q := wp_iload rfl rfl
theorem r_B_isUp_17 (h : gK c0 = 101) (hx : 0 ≤ s1 ∧ s1 < gN c0) : Wp L d k_B_isUp 17 [l0, l1] [vI s1, vR c0] σ Q ↔ Wp L d k_B_isUp 18 [l0, l1] [vI (σ c0 s1.toNat)] σ Q := wp_bald rfl h hx
theorem r_B_isUp_18 : Wp L d k_B_isUp 18 [l0, l1] [vI s0] σ Q ↔ (if s0 ≠ 0 then Wp L d k_B_isUp 25 [l0, l1] [] σ Q else Wp L d k_B_isUp 21 [l0, l1] [] σ Q) := wp_if_ne rfl
theorem r_B_isUp_21 : Wp L d k_B_isUp 21 [l0, l1] [] σ Q ↔ Wp L d k_B_isUp 22 [l0, l1] [vI 1] σ Q := wp_push rfl
theorem r_B_isUp_22 : Wp L d k_B_isUp 22 [l0, l1] [vI s0] σ Q ↔ Wp L d k_B_isUp 26 [l0, l1] [vI s0] σ Q := wp_goto rfl
theorem r_B_isUp_25 : Wp L d k_B_isUp 25 [l0, l1] [] σ Q ↔ Wp L d k_B_isUp 26 [l0, l1] [vI 0] σ Q := wp_push rfl
theorem r_B_isUp_26 (h : s0 = 0 ∨ s0 = 1) : Wp L d k_B_isUp 26 [l0, l1] [vI s0] σ Q ↔ Q (some (vI s0)) σ := wp_zret rfl h
theorem sp_B_isUp {b : Nat} (hB : BR b) (hn : σ b 8 ≤ 12) : Run L d 99 [vR b, vI a1] σ (some (vI (gb ((0 ≤ a1 ∧ a1 < σ b 8) ∧ σ (b + 3) a1.toNat = 0)))) σ := by
  refine Run_of (C' := k_B_isUp) rfl ?_
  show Wp L d k_B_isUp 0 [vR b, vI a1] [] σ _
  obtain ⟨⟨K0, q0, q1, q2, q3, q4, q5, q6, q7⟩, ⟨K1, K2, K3, K4, K5, K6, K7, K8⟩, ⟨N1, N2, N3, N4, N5, N6, N7, N8⟩, QP, KP⟩ := hB
  by_cases e : 0 ≤ a1
  · by_cases e2 : a1 < σ b 8
    · by_cases e3 : σ (b + 3) a1.toNat = 0
      · rw [gb_t ⟨⟨e, e2⟩, e3⟩]
        simp (disch := first | assumption | exact gb_01 _ | omega) only [r_B_isUp_0, r_B_isUp_1, r_B_isUp_4, r_B_isUp_5, r_B_isUp_6, r_B_isUp_9, r_B_isUp_12, r_B_isUp_13, r_B_isUp_16, r_B_isUp_17, r_B_isUp_18, r_B_isUp_21, r_B_isUp_22, r_B_isUp_25, r_B_isUp_26, q0, q1, q2, q3, q4, q5, q6, q7, QP, w32_gb, w32i, tn_add, tn_mul, Int.toNat_natCast, Int.toNat_zero, Int.reduceLE, Int.reduceLT, Int.reduceEq, Int.reduceNe, gb_T, gb_F, Int.reduceToNat, eq_self, true_or, or_true, and_true, true_and, and_self, ↓ite_gb0, ↓ite_gbn, ↓if_pos, ↓if_neg, if_true, if_false, not_true_eq_false, not_false_eq_true, gb_ne0, gb_eq0]
      · rw [gb_f (by omega)]
        simp (disch := first | assumption | exact gb_01 _ | omega) only [r_B_isUp_0, r_B_isUp_1, r_B_isUp_4, r_B_isUp_5, r_B_isUp_6, r_B_isUp_9, r_B_isUp_12, r_B_isUp_13, r_B_isUp_16, r_B_isUp_17, r_B_isUp_18, r_B_isUp_21, r_B_isUp_22, r_B_isUp_25, r_B_isUp_26, q0, q1, q2, q3, q4, q5, q6, q7, QP, w32_gb, w32i, tn_add, tn_mul, Int.toNat_natCast, Int.toNat_zero, Int.reduceLE, Int.reduceLT, Int.reduceEq, Int.reduceNe, gb_T, gb_F, Int.reduceToNat, eq_self, true_or, or_true, and_true, true_and, and_self, ↓ite_gb0, ↓ite_gbn, ↓if_pos, ↓if_neg, if_true, if_false, not_true_eq_false, not_false_eq_true, gb_ne0, gb_eq0]
    · rw [gb_f (by omega)]
      simp (disch := first | assumption | exact gb_01 _ | omega) only [r_B_isUp_0, r_B_isUp_1, r_B_isUp_4, r_B_isUp_5, r_B_isUp_6, r_B_isUp_9, r_B_isUp_12, r_B_isUp_13, r_B_isUp_16, r_B_isUp_17, r_B_isUp_18, r_B_isUp_21, r_B_isUp_22, r_B_isUp_25, r_B_isUp_26, q0, q1, q2, q3, q4, q5, q6, q7, QP, w32_gb, w32i, tn_add, tn_mul, Int.toNat_natCast, Int.toNat_zero, Int.reduceLE, Int.reduceLT, Int.reduceEq, Int.reduceNe, gb_T, gb_F, Int.reduceToNat, eq_self, true_or, or_true, and_true, true_and, and_self, ↓ite_gb0, ↓ite_gbn, ↓if_pos, ↓if_neg, if_true, if_false, not_true_eq_false, not_false_eq_true, gb_ne0, gb_eq0]
  · rw [gb_f (by omega)]
    simp (disch := first | assumption | exact gb_01 _ | omega) only [r_B_isUp_0, r_B_isUp_1, r_B_isUp_4, r_B_isUp_5, r_B_isUp_6, r_B_isUp_9, r_B_isUp_12, r_B_isUp_13, r_B_isUp_16, r_B_isUp_17, r_B_isUp_18, r_B_isUp_21, r_B_isUp_22, r_B_isUp_25, r_B_isUp_26, q0, q1, q2, q3, q4, q5, q6, q7, QP, w32_gb, w32i, tn_add, tn_mul, Int.toNat_natCast, Int.toNat_zero, Int.reduceLE, Int.reduceLT, Int.reduceEq, Int.reduceNe, gb_T, gb_F, Int.reduceToNat, eq_self, true_or, or_true, and_true, true_and, and_self, ↓ite_gb0, ↓ite_gbn, ↓if_pos, ↓if_neg, if_true, if_false, not_true_eq_false, not_false_eq_true, gb_ne0, gb_eq0]
theorem r_Q_bearing_0 : Wp L d k_Q_bearing 0 [vR b0, l1] [] σ Q ↔ Wp L d k_Q_bearing 1 [vR b0, l1] [vR b0] σ Q := wp_aload rfl rfl
theorem r_Q_bearing_1 (h : gK c0 = 4) : Wp L d k_Q_bearing 1 [l0, l1] [vR c0] σ Q ↔ Wp L d k_Q_bearing 4 [l0, l1] [vI (σ c0 0)] σ Q := wp_getI (c := 1024) rfl rfl rfl rfl h
theorem r_Q_bearing_4 : Wp L d k_Q_bearing 4 [l0, l1] [vI s0] σ Q ↔ (if s0 = 1 then Wp L d k_Q_bearing 32 [l0, l1] [] σ Q else if s0 = 2 then Wp L d k_Q_bearing 48 [l0, l1] [] σ Q else if s0 = 3 then Wp L d k_Q_bearing 61 [l0, l1] [] σ Q else Wp L d k_Q_bearing 79 [l0, l1] [] σ Q) := by
  by_cases h0 : s0 = 1
  · subst h0
    rw [if_pos rfl]
    exact Wp_s rfl rfl rfl rfl
  by_cases h1 : s0 = 2
  · subst h1
    rw [if_neg (by omega), if_pos rfl]
    exact Wp_s rfl rfl rfl rfl
  by_cases h2 : s0 = 3
  · subst h2
    rw [if_neg (by omega), if_neg (by omega), if_pos rfl]
    exact Wp_s rfl rfl rfl rfl
  rw [if_neg h0, if_neg h1, if_neg h2]
  have hout : s0 < 1 ∨ 3 < s0 := by omega
  exact Wp_s rfl rfl rfl (by simp only [gstep, vI, if_pos hout]; rfl)
theorem r_Q_bearing_32 : Wp L d k_Q_bearing 32 [vR b0, l1] [] σ Q ↔ Wp L d k_Q_bearing 33 [vR b0, l1] [vR b0] σ Q := wp_aload rfl rfl
theorem r_Q_bearing_33 (h : gK c0 = 4) : Wp L d k_Q_bearing 33 [l0, l1] [vR c0] σ Q ↔ Wp L d k_Q_bearing 36 [l0, l1] [vI (σ c0 2)] σ Q := wp_getI (c := 1026) rfl rfl rfl rfl h
theorem r_Q_bearing_36 : Wp L d k_Q_bearing 36 [l0, l1] [vI s0] σ Q ↔ Wp L d k_Q_bearing 38 [l0, l1] [vI 100, vI s0] σ Q := wp_push rfl
theorem r_Q_bearing_38 : Wp L d k_Q_bearing 38 [vR b0, l1] [vI s1, vI s0] σ Q ↔ Wp L d k_Q_bearing 39 [vR b0, l1] [vR b0, vI s1, vI s0] σ Q := wp_aload rfl rfl
theorem r_Q_bearing_39 (h : gK c2 = 4) : Wp L d k_Q_bearing 39 [l0, l1] [vR c2, vI s1, vI s0] σ Q ↔ Wp L d k_Q_bearing 42 [l0, l1] [vI (σ c2 4), vI s1, vI s0] σ Q := wp_getI (c := 1028) rfl rfl rfl rfl h
theorem r_Q_bearing_42 : Wp L d k_Q_bearing 42 [l0, l1] [vI s2, vI s1, vI s0] σ Q ↔ Wp L d k_Q_bearing 43 [l0, l1] [vI (w32 (s1 - s2)), vI s0] σ Q := wp_isub rfl
theorem r_Q_bearing_43 : Wp L d k_Q_bearing 43 [l0, l1] [vI s1, vI s0] σ Q ↔ Wp L d k_Q_bearing 44 [l0, l1] [vI (w32 (s0 * s1))] σ Q := wp_imul rfl
theorem r_Q_bearing_44 : Wp L d k_Q_bearing 44 [l0, l1] [vI s0] σ Q ↔ Wp L d k_Q_bearing 46 [l0, l1] [vI 100, vI s0] σ Q := wp_push rfl
theorem r_Q_bearing_46 : Wp L d k_Q_bearing 46 [l0, l1] [vI s1, vI s0] σ Q ↔ Wp L d k_Q_bearing 47 [l0, l1] [vI (w32 (s0 * s1))] σ Q := wp_imul rfl
theorem r_Q_bearing_47 : Wp L d k_Q_bearing 47 [l0, l1] [vI s0] σ Q ↔ Q (some (vI s0)) σ := wp_iret rfl
theorem r_Q_bearing_48 : Wp L d k_Q_bearing 48 [vR b0, l1] [] σ Q ↔ Wp L d k_Q_bearing 49 [vR b0, l1] [vR b0] σ Q := wp_aload rfl rfl
theorem r_Q_bearing_49 (h : gK c0 = 4) : Wp L d k_Q_bearing 49 [l0, l1] [vR c0] σ Q ↔ Wp L d k_Q_bearing 52 [l0, l1] [vI (σ c0 2)] σ Q := wp_getI (c := 1026) rfl rfl rfl rfl h
theorem r_Q_bearing_52 : Wp L d k_Q_bearing 52 [l0, l1] [vI s0] σ Q ↔ Wp L d k_Q_bearing 54 [l0, l1] [vI 100, vI s0] σ Q := wp_push rfl
theorem r_Q_bearing_54 : Wp L d k_Q_bearing 54 [l0, vI a1] [vI s1, vI s0] σ Q ↔ Wp L d k_Q_bearing 55 [l0, vI a1] [vI a1, vI s1, vI s0] σ Q := wp_iload rfl rfl
theorem r_Q_bearing_55 : Wp L d k_Q_bearing 55 [l0, l1] [vI s2, vI s1, vI s0] σ Q ↔ Wp L d k_Q_bearing 56 [l0, l1] [vI (w32 (s1 - s2)), vI s0] σ Q := wp_isub rfl
theorem r_Q_bearing_56 : Wp L d k_Q_bearing 56 [l0, l1] [vI s1, vI s0] σ Q ↔ Wp L d k_Q_bearing 57 [l0, l1] [vI (w32 (s0 * s1))] σ Q := wp_imul rfl
theorem r_Q_bearing_57 : Wp L d k_Q_bearing 57 [l0, l1] [vI s0] σ Q ↔ Wp L d k_Q_bearing 59 [l0, l1] [vI 100, vI s0] σ Q := wp_push rfl
theorem r_Q_bearing_59 : Wp L d k_Q_bearing 59 [l0, l1] [vI s1, vI s0] σ Q ↔ Wp L d k_Q_bearing 60 [l0, l1] [vI (w32 (s0 * s1))] σ Q := wp_imul rfl
theorem r_Q_bearing_60 : Wp L d k_Q_bearing 60 [l0, l1] [vI s0] σ Q ↔ Q (some (vI s0)) σ := wp_iret rfl
theorem r_Q_bearing_61 : Wp L d k_Q_bearing 61 [vR b0, l1] [] σ Q ↔ Wp L d k_Q_bearing 62 [vR b0, l1] [vR b0] σ Q := wp_aload rfl rfl
theorem r_Q_bearing_62 (h : gK c0 = 4) : Wp L d k_Q_bearing 62 [l0, l1] [vR c0] σ Q ↔ Wp L d k_Q_bearing 65 [l0, l1] [vI (σ c0 2)] σ Q := wp_getI (c := 1026) rfl rfl rfl rfl h
theorem r_Q_bearing_65 : Wp L d k_Q_bearing 65 [l0, l1] [vI s0] σ Q ↔ Wp L d k_Q_bearing 67 [l0, l1] [vI 100, vI s0] σ Q := wp_push rfl
theorem r_Q_bearing_67 : Wp L d k_Q_bearing 67 [l0, vI a1] [vI s1, vI s0] σ Q ↔ Wp L d k_Q_bearing 68 [l0, vI a1] [vI a1, vI s1, vI s0] σ Q := wp_iload rfl rfl
theorem r_Q_bearing_68 : Wp L d k_Q_bearing 68 [l0, l1] [vI s2, vI s1, vI s0] σ Q ↔ Wp L d k_Q_bearing 69 [l0, l1] [vI (w32 (s1 - s2)), vI s0] σ Q := wp_isub rfl
theorem r_Q_bearing_69 : Wp L d k_Q_bearing 69 [l0, l1] [vI s1, vI s0] σ Q ↔ Wp L d k_Q_bearing 70 [l0, l1] [vI (w32 (s0 * s1))] σ Q := wp_imul rfl
theorem r_Q_bearing_70 : Wp L d k_Q_bearing 70 [l0, l1] [vI s0] σ Q ↔ Wp L d k_Q_bearing 72 [l0, l1] [vI 100, vI s0] σ Q := wp_push rfl
theorem r_Q_bearing_72 : Wp L d k_Q_bearing 72 [vR b0, l1] [vI s1, vI s0] σ Q ↔ Wp L d k_Q_bearing 73 [vR b0, l1] [vR b0, vI s1, vI s0] σ Q := wp_aload rfl rfl
theorem r_Q_bearing_73 (h : gK c2 = 4) : Wp L d k_Q_bearing 73 [l0, l1] [vR c2, vI s1, vI s0] σ Q ↔ Wp L d k_Q_bearing 76 [l0, l1] [vI (σ c2 4), vI s1, vI s0] σ Q := wp_getI (c := 1028) rfl rfl rfl rfl h
theorem r_Q_bearing_76 : Wp L d k_Q_bearing 76 [l0, l1] [vI s2, vI s1, vI s0] σ Q ↔ Wp L d k_Q_bearing 77 [l0, l1] [vI (w32 (s1 - s2)), vI s0] σ Q := wp_isub rfl
theorem r_Q_bearing_77 : Wp L d k_Q_bearing 77 [l0, l1] [vI s1, vI s0] σ Q ↔ Wp L d k_Q_bearing 78 [l0, l1] [vI (w32 (s0 * s1))] σ Q := wp_imul rfl
theorem r_Q_bearing_78 : Wp L d k_Q_bearing 78 [l0, l1] [vI s0] σ Q ↔ Q (some (vI s0)) σ := wp_iret rfl
theorem r_Q_bearing_79 : Wp L d k_Q_bearing 79 [vR b0, l1] [] σ Q ↔ Wp L d k_Q_bearing 80 [vR b0, l1] [vR b0] σ Q := wp_aload rfl rfl
theorem r_Q_bearing_80 (h : gK c0 = 4) : Wp L d k_Q_bearing 80 [l0, l1] [vR c0] σ Q ↔ Wp L d k_Q_bearing 83 [l0, l1] [vI (σ c0 2)] σ Q := wp_getI (c := 1026) rfl rfl rfl rfl h
theorem r_Q_bearing_83 : Wp L d k_Q_bearing 83 [l0, l1] [vI s0] σ Q ↔ Wp L d k_Q_bearing 86 [l0, l1] [vI 10000, vI s0] σ Q := wp_push rfl
theorem r_Q_bearing_86 : Wp L d k_Q_bearing 86 [l0, l1] [vI s1, vI s0] σ Q ↔ Wp L d k_Q_bearing 87 [l0, l1] [vI (w32 (s0 * s1))] σ Q := wp_imul rfl
theorem r_Q_bearing_87 : Wp L d k_Q_bearing 87 [l0, l1] [vI s0] σ Q ↔ Q (some (vI s0)) σ := wp_iret rfl
theorem sp_Q_bearing (hk : gK b0 = 4) (h2 : 1 ≤ σ b0 2 ∧ σ b0 2 ≤ 999) (h4 : 0 ≤ σ b0 4 ∧ σ b0 4 ≤ 99) (h1 : 0 ≤ a1 ∧ a1 ≤ 99) : Run L d 131 [vR b0, vI a1] σ (some (vI (brbe (σ b0 0) (σ b0 2) (σ b0 4) a1))) σ := by
  refine Run_of (C' := k_Q_bearing) rfl ?_
  show Wp L d k_Q_bearing 0 [vR b0, vI a1] [] σ _

  have m1 := mul_bd (a := σ b0 2) (b := 100 - σ b0 4) (A := 999) (B := 100) (by omega) (by omega)
  have m2 := mul_bd (a := σ b0 2) (b := 100 - a1) (A := 999) (B := 100) (by omega) (by omega)
  have m3 := mul_bd (a := σ b0 2 * (100 - a1)) (b := 100 - σ b0 4) (A := 99900) (B := 100) (by omega) (by omega)
  unfold brbe
  by_cases e1 : σ b0 0 = 1
  · simp (disch := first | assumption | exact gb_01 _ | omega) only [r_Q_bearing_0, r_Q_bearing_1, r_Q_bearing_4, r_Q_bearing_32, r_Q_bearing_33, r_Q_bearing_36, r_Q_bearing_38, r_Q_bearing_39, r_Q_bearing_42, r_Q_bearing_43, r_Q_bearing_44, r_Q_bearing_46, r_Q_bearing_47, r_Q_bearing_48, r_Q_bearing_49, r_Q_bearing_52, r_Q_bearing_54, r_Q_bearing_55, r_Q_bearing_56, r_Q_bearing_57, r_Q_bearing_59, r_Q_bearing_60, r_Q_bearing_61, r_Q_bearing_62, r_Q_bearing_65, r_Q_bearing_67, r_Q_bearing_68, r_Q_bearing_69, r_Q_bearing_70, r_Q_bearing_72, r_Q_bearing_73, r_Q_bearing_76, r_Q_bearing_77, r_Q_bearing_78, r_Q_bearing_79, r_Q_bearing_80, r_Q_bearing_83, r_Q_bearing_86, r_Q_bearing_87, w32_gb, w32i, tn_add, tn_mul, Int.toNat_natCast, Int.toNat_zero, Int.reduceLE, Int.reduceLT, Int.reduceEq, Int.reduceNe, gb_T, gb_F, Int.reduceToNat, eq_self, true_or, or_true, and_true, true_and, and_self, ↓ite_gb0, ↓ite_gbn, ↓if_pos, ↓if_neg, if_true, if_false, not_true_eq_false, not_false_eq_true, gb_ne0, gb_eq0]
  · by_cases e2 : σ b0 0 = 2
    · simp (disch := first | assumption | exact gb_01 _ | omega) only [r_Q_bearing_0, r_Q_bearing_1, r_Q_bearing_4, r_Q_bearing_32, r_Q_bearing_33, r_Q_bearing_36, r_Q_bearing_38, r_Q_bearing_39, r_Q_bearing_42, r_Q_bearing_43, r_Q_bearing_44, r_Q_bearing_46, r_Q_bearing_47, r_Q_bearing_48, r_Q_bearing_49, r_Q_bearing_52, r_Q_bearing_54, r_Q_bearing_55, r_Q_bearing_56, r_Q_bearing_57, r_Q_bearing_59, r_Q_bearing_60, r_Q_bearing_61, r_Q_bearing_62, r_Q_bearing_65, r_Q_bearing_67, r_Q_bearing_68, r_Q_bearing_69, r_Q_bearing_70, r_Q_bearing_72, r_Q_bearing_73, r_Q_bearing_76, r_Q_bearing_77, r_Q_bearing_78, r_Q_bearing_79, r_Q_bearing_80, r_Q_bearing_83, r_Q_bearing_86, r_Q_bearing_87, w32_gb, w32i, tn_add, tn_mul, Int.toNat_natCast, Int.toNat_zero, Int.reduceLE, Int.reduceLT, Int.reduceEq, Int.reduceNe, gb_T, gb_F, Int.reduceToNat, eq_self, true_or, or_true, and_true, true_and, and_self, ↓ite_gb0, ↓ite_gbn, ↓if_pos, ↓if_neg, if_true, if_false, not_true_eq_false, not_false_eq_true, gb_ne0, gb_eq0]
    · by_cases e3 : σ b0 0 = 3
      · simp (disch := first | assumption | exact gb_01 _ | omega) only [r_Q_bearing_0, r_Q_bearing_1, r_Q_bearing_4, r_Q_bearing_32, r_Q_bearing_33, r_Q_bearing_36, r_Q_bearing_38, r_Q_bearing_39, r_Q_bearing_42, r_Q_bearing_43, r_Q_bearing_44, r_Q_bearing_46, r_Q_bearing_47, r_Q_bearing_48, r_Q_bearing_49, r_Q_bearing_52, r_Q_bearing_54, r_Q_bearing_55, r_Q_bearing_56, r_Q_bearing_57, r_Q_bearing_59, r_Q_bearing_60, r_Q_bearing_61, r_Q_bearing_62, r_Q_bearing_65, r_Q_bearing_67, r_Q_bearing_68, r_Q_bearing_69, r_Q_bearing_70, r_Q_bearing_72, r_Q_bearing_73, r_Q_bearing_76, r_Q_bearing_77, r_Q_bearing_78, r_Q_bearing_79, r_Q_bearing_80, r_Q_bearing_83, r_Q_bearing_86, r_Q_bearing_87, w32_gb, w32i, tn_add, tn_mul, Int.toNat_natCast, Int.toNat_zero, Int.reduceLE, Int.reduceLT, Int.reduceEq, Int.reduceNe, gb_T, gb_F, Int.reduceToNat, eq_self, true_or, or_true, and_true, true_and, and_self, ↓ite_gb0, ↓ite_gbn, ↓if_pos, ↓if_neg, if_true, if_false, not_true_eq_false, not_false_eq_true, gb_ne0, gb_eq0]
      · simp (disch := first | assumption | exact gb_01 _ | omega) only [r_Q_bearing_0, r_Q_bearing_1, r_Q_bearing_4, r_Q_bearing_32, r_Q_bearing_33, r_Q_bearing_36, r_Q_bearing_38, r_Q_bearing_39, r_Q_bearing_42, r_Q_bearing_43, r_Q_bearing_44, r_Q_bearing_46, r_Q_bearing_47, r_Q_bearing_48, r_Q_bearing_49, r_Q_bearing_52, r_Q_bearing_54, r_Q_bearing_55, r_Q_bearing_56, r_Q_bearing_57, r_Q_bearing_59, r_Q_bearing_60, r_Q_bearing_61, r_Q_bearing_62, r_Q_bearing_65, r_Q_bearing_67, r_Q_bearing_68, r_Q_bearing_69, r_Q_bearing_70, r_Q_bearing_72, r_Q_bearing_73, r_Q_bearing_76, r_Q_bearing_77, r_Q_bearing_78, r_Q_bearing_79, r_Q_bearing_80, r_Q_bearing_83, r_Q_bearing_86, r_Q_bearing_87, w32_gb, w32i, tn_add, tn_mul, Int.toNat_natCast, Int.toNat_zero, Int.reduceLE, Int.reduceLT, Int.reduceEq, Int.reduceNe, gb_T, gb_F, Int.reduceToNat, eq_self, true_or, or_true, and_true, true_and, and_self, ↓ite_gb0, ↓ite_gbn, ↓if_pos, ↓if_neg, if_true, if_false, not_true_eq_false, not_false_eq_true, gb_ne0, gb_eq0]
theorem r_B_weighPiers_0 : Wp L d k_B_weighPiers 0 [l0, l1, l2] [] σ Q ↔ Wp L d k_B_weighPiers 1 [l0, l1, l2] [vI 0] σ Q := wp_push rfl
theorem r_B_weighPiers_1 : Wp L d k_B_weighPiers 1 [l0, vI a1, l2] [vI s0] σ Q ↔ Wp L d k_B_weighPiers 2 [l0, vI a1, vI s0] [] σ Q := wp_istore (i := 2) (ls := [l0, vI a1, l2]) rfl rfl
theorem r_B_weighPiers_2 : Wp L d k_B_weighPiers 2 [l0, l1, vI a2] [] σ Q ↔ Wp L d k_B_weighPiers 3 [l0, l1, vI a2] [vI a2] σ Q := wp_iload rfl rfl
theorem r_B_weighPiers_3 : Wp L d k_B_weighPiers 3 [vR b0, l1, l2] [vI s0] σ Q ↔ Wp L d k_B_weighPiers 4 [vR b0, l1, l2] [vR b0, vI s0] σ Q := wp_aload rfl rfl
theorem r_B_weighPiers_4 (h : gK c1 = 1) : Wp L d k_B_weighPiers 4 [l0, l1, l2] [vR c1, vI s0] σ Q ↔ Wp L d k_B_weighPiers 7 [l0, l1, l2] [vI (σ c1 8), vI s0] σ Q := wp_getI (c := 264) rfl rfl rfl rfl h
theorem r_B_weighPiers_7 : Wp L d k_B_weighPiers 7 [l0, l1, l2] [vI s1, vI s0] σ Q ↔ (if s1 < s0 then Wp L d k_B_weighPiers 37 [l0, l1, l2] [] σ Q else Wp L d k_B_weighPiers 10 [l0, l1, l2] [] σ Q) := wp_cmp_gt rfl
theorem r_B_weighPiers_10 : Wp L d k_B_weighPiers 10 [vR b0, l1, l2] [] σ Q ↔ Wp L d k_B_weighPiers 11 [vR b0, l1, l2] [vR b0] σ Q := wp_aload rfl rfl
theorem r_B_weighPiers_11 (h : gK c0 = 1) : Wp L d k_B_weighPiers 11 [l0, l1, l2] [vR c0] σ Q ↔ Wp L d k_B_weighPiers 14 [l0, l1, l2] [vR (gq c0 4)] σ Q := wp_getR (c := 388) rfl rfl rfl rfl rfl h
theorem r_B_weighPiers_14 : Wp L d k_B_weighPiers 14 [l0, l1, vI a2] [vR c0] σ Q ↔ Wp L d k_B_weighPiers 15 [l0, l1, vI a2] [vI a2, vR c0] σ Q := wp_iload rfl rfl
theorem r_B_weighPiers_15 : Wp L d k_B_weighPiers 15 [l0, l1, l2] [vI s1, vR c0] σ Q ↔ Wp L d k_B_weighPiers 16 [l0, l1, l2] [vI 0, vI s1, vR c0] σ Q := wp_push rfl
theorem r_B_weighPiers_16 (h : gK c0 = 100) (hx : 0 ≤ s1 ∧ s1 < gN c0) : Wp L d k_B_weighPiers 16 [l0, l1, l2] [vI s2, vI s1, vR c0] σ Q ↔ Wp L d k_B_weighPiers 17 [l0, l1, l2] [] (gupd σ c0 s1.toNat s2) Q := wp_iast rfl h hx
theorem r_B_weighPiers_17 : Wp L d k_B_weighPiers 17 [vR b0, l1, l2] [] σ Q ↔ Wp L d k_B_weighPiers 18 [vR b0, l1, l2] [vR b0] σ Q := wp_aload rfl rfl
theorem r_B_weighPiers_18 (h : gK c0 = 1) : Wp L d k_B_weighPiers 18 [l0, l1, l2] [vR c0] σ Q ↔ Wp L d k_B_weighPiers 21 [l0, l1, l2] [vR (gq c0 5)] σ Q := wp_getR (c := 389) rfl rfl rfl rfl rfl h
theorem r_B_weighPiers_21 : Wp L d k_B_weighPiers 21 [l0, l1, vI a2] [vR c0] σ Q ↔ Wp L d k_B_weighPiers 22 [l0, l1, vI a2] [vI a2, vR c0] σ Q := wp_iload rfl rfl
theorem r_B_weighPiers_22 : Wp L d k_B_weighPiers 22 [l0, l1, l2] [vI s1, vR c0] σ Q ↔ Wp L d k_B_weighPiers 23 [l0, l1, l2] [vI 0, vI s1, vR c0] σ Q := wp_push rfl
theorem r_B_weighPiers_23 (h : gK c0 = 100) (hx : 0 ≤ s1 ∧ s1 < gN c0) : Wp L d k_B_weighPiers 23 [l0, l1, l2] [vI s2, vI s1, vR c0] σ Q ↔ Wp L d k_B_weighPiers 24 [l0, l1, l2] [] (gupd σ c0 s1.toNat s2) Q := wp_iast rfl h hx
theorem r_B_weighPiers_24 : Wp L d k_B_weighPiers 24 [vR b0, l1, l2] [] σ Q ↔ Wp L d k_B_weighPiers 25 [vR b0, l1, l2] [vR b0] σ Q := wp_aload rfl rfl
theorem r_B_weighPiers_25 (h : gK c0 = 1) : Wp L d k_B_weighPiers 25 [l0, l1, l2] [vR c0] σ Q ↔ Wp L d k_B_weighPiers 28 [l0, l1, l2] [vR (gq c0 6)] σ Q := wp_getR (c := 390) rfl rfl rfl rfl rfl h
theorem r_B_weighPiers_28 : Wp L d k_B_weighPiers 28 [l0, l1, vI a2] [vR c0] σ Q ↔ Wp L d k_B_weighPiers 29 [l0, l1, vI a2] [vI a2, vR c0] σ Q := wp_iload rfl rfl
theorem r_B_weighPiers_29 : Wp L d k_B_weighPiers 29 [l0, l1, l2] [vI s1, vR c0] σ Q ↔ Wp L d k_B_weighPiers 30 [l0, l1, l2] [vI 0, vI s1, vR c0] σ Q := wp_push rfl
theorem r_B_weighPiers_30 (h : gK c0 = 100) (hx : 0 ≤ s1 ∧ s1 < gN c0) : Wp L d k_B_weighPiers 30 [l0, l1, l2] [vI s2, vI s1, vR c0] σ Q ↔ Wp L d k_B_weighPiers 31 [l0, l1, l2] [] (gupd σ c0 s1.toNat s2) Q := wp_iast rfl h hx
theorem r_B_weighPiers_31 : Wp L d k_B_weighPiers 31 [l0, vI a1, vI a2] [] σ Q ↔ Wp L d k_B_weighPiers 34 [l0, vI a1, vI (w32 (a2 + 1))] [] σ Q := wp_iinc (i := 2) (ls := [l0, vI a1, vI a2]) rfl rfl
theorem r_B_weighPiers_34 : Wp L d k_B_weighPiers 34 [l0, l1, l2] [] σ Q ↔ Wp L d k_B_weighPiers 2 [l0, l1, l2] [] σ Q := wp_goto rfl
theorem r_B_weighPiers_37 : Wp L d k_B_weighPiers 37 [l0, l1, l2] [] σ Q ↔ Wp L d k_B_weighPiers 38 [l0, l1, l2] [vI 0] σ Q := wp_push rfl
theorem r_B_weighPiers_38 : Wp L d k_B_weighPiers 38 [l0, vI a1, l2] [vI s0] σ Q ↔ Wp L d k_B_weighPiers 39 [l0, vI a1, vI s0] [] σ Q := wp_istore (i := 2) (ls := [l0, vI a1, l2]) rfl rfl
theorem r_B_weighPiers_39 : Wp L d k_B_weighPiers 39 [l0, l1, vI a2] [] σ Q ↔ Wp L d k_B_weighPiers 40 [l0, l1, vI a2] [vI a2] σ Q := wp_iload rfl rfl
theorem r_B_weighPiers_40 : Wp L d k_B_weighPiers 40 [vR b0, l1, l2] [vI s0] σ Q ↔ Wp L d k_B_weighPiers 41 [vR b0, l1, l2] [vR b0, vI s0] σ Q := wp_aload rfl rfl
theorem r_B_weighPiers_41 (h : gK c1 = 1) : Wp L d k_B_weighPiers 41 [l0, l1, l2] [vR c1, vI s0] σ Q ↔ Wp L d k_B_weighPiers 44 [l0, l1, l2] [vI (σ c1 8), vI s0] σ Q := wp_getI (c := 264) rfl rfl rfl rfl h
theorem r_B_weighPiers_44 : Wp L d k_B_weighPiers 44 [l0, l1, l2] [vI s1, vI s0] σ Q ↔ (if s1 ≤ s0 then Wp L d k_B_weighPiers 79 [l0, l1, l2] [] σ Q else Wp L d k_B_weighPiers 47 [l0, l1, l2] [] σ Q) := wp_cmp_ge rfl
theorem r_B_weighPiers_47 : Wp L d k_B_weighPiers 47 [vR b0, l1, l2] [] σ Q ↔ Wp L d k_B_weighPiers 48 [vR b0, l1, l2] [vR b0] σ Q := wp_aload rfl rfl
theorem r_B_weighPiers_48 (h : gK c0 = 1) : Wp L d k_B_weighPiers 48 [l0, l1, l2] [vR c0] σ Q ↔ Wp L d k_B_weighPiers 51 [l0, l1, l2] [vR (gq c0 2)] σ Q := wp_getR (c := 386) rfl rfl rfl rfl rfl h
theorem r_B_weighPiers_51 : Wp L d k_B_weighPiers 51 [l0, l1, vI a2] [vR c0] σ Q ↔ Wp L d k_B_weighPiers 52 [l0, l1, vI a2] [vI a2, vR c0] σ Q := wp_iload rfl rfl
theorem r_B_weighPiers_52 (h : gK c0 = 101) (hx : 0 ≤ s1 ∧ s1 < gN c0) : Wp L d k_B_weighPiers 52 [l0, l1, l2] [vI s1, vR c0] σ Q ↔ Wp L d k_B_weighPiers 53 [l0, l1, l2] [vI (σ c0 s1.toNat)] σ Q := wp_bald rfl h hx
theorem r_B_weighPiers_53 : Wp L d k_B_weighPiers 53 [l0, l1, l2] [vI s0] σ Q ↔ (if s0 ≠ 0 then Wp L d k_B_weighPiers 73 [l0, l1, l2] [] σ Q else Wp L d k_B_weighPiers 56 [l0, l1, l2] [] σ Q) := wp_if_ne rfl
theorem r_B_weighPiers_56 : Wp L d k_B_weighPiers 56 [vR b0, l1, l2] [] σ Q ↔ Wp L d k_B_weighPiers 57 [vR b0, l1, l2] [vR b0] σ Q := wp_aload rfl rfl
theorem r_B_weighPiers_57 : Wp L d k_B_weighPiers 57 [l0, l1, vI a2] [vR c0] σ Q ↔ Wp L d k_B_weighPiers 58 [l0, l1, vI a2] [vI a2, vR c0] σ Q := wp_iload rfl rfl
theorem r_B_weighPiers_58 : Wp L d k_B_weighPiers 58 [vR b0, l1, l2] [vI s1, vR c0] σ Q ↔ Wp L d k_B_weighPiers 59 [vR b0, l1, l2] [vR b0, vI s1, vR c0] σ Q := wp_aload rfl rfl
theorem r_B_weighPiers_59 (h : gK c2 = 1) : Wp L d k_B_weighPiers 59 [l0, l1, l2] [vR c2, vI s1, vR c0] σ Q ↔ Wp L d k_B_weighPiers 62 [l0, l1, l2] [vR (gq c2 1), vI s1, vR c0] σ Q := wp_getR (c := 385) rfl rfl rfl rfl rfl h
theorem r_B_weighPiers_62 : Wp L d k_B_weighPiers 62 [l0, l1, vI a2] [vR c2, vI s1, vR c0] σ Q ↔ Wp L d k_B_weighPiers 63 [l0, l1, vI a2] [vI a2, vR c2, vI s1, vR c0] σ Q := wp_iload rfl rfl
theorem r_B_weighPiers_63 (h : gK c2 = 100) (hx : 0 ≤ s3 ∧ s3 < gN c2) : Wp L d k_B_weighPiers 63 [l0, l1, l2] [vI s3, vR c2, vI s1, vR c0] σ Q ↔ Wp L d k_B_weighPiers 64 [l0, l1, l2] [vI (σ c2 s3.toNat), vI s1, vR c0] σ Q := wp_iald rfl h hx
theorem r_B_weighPiers_64 : Wp L d k_B_weighPiers 64 [vR b0, l1, l2] [vI s2, vI s1, vR c0] σ Q ↔ Wp L d k_B_weighPiers 65 [vR b0, l1, l2] [vR b0, vI s2, vI s1, vR c0] σ Q := wp_aload rfl rfl
theorem r_B_weighPiers_65 (h : gK c3 = 1) : Wp L d k_B_weighPiers 65 [l0, l1, l2] [vR c3, vI s2, vI s1, vR c0] σ Q ↔ Wp L d k_B_weighPiers 68 [l0, l1, l2] [vR (gq c3 0), vI s2, vI s1, vR c0] σ Q := wp_getR (c := 384) rfl rfl rfl rfl rfl h
theorem r_B_weighPiers_68 : Wp L d k_B_weighPiers 68 [l0, l1, vI a2] [vR c3, vI s2, vI s1, vR c0] σ Q ↔ Wp L d k_B_weighPiers 69 [l0, l1, vI a2] [vI a2, vR c3, vI s2, vI s1, vR c0] σ Q := wp_iload rfl rfl
theorem r_B_weighPiers_69 (h : gK c3 = 100) (hx : 0 ≤ s4 ∧ s4 < gN c3) : Wp L d k_B_weighPiers 69 [l0, l1, l2] [vI s4, vR c3, vI s2, vI s1, vR c0] σ Q ↔ Wp L d k_B_weighPiers 70 [l0, l1, l2] [vI (σ c3 s4.toNat), vI s2, vI s1, vR c0] σ Q := wp_iald rfl h hx
theorem c_B_weighPiers_70 (hR : Run L d 98 [vR c0, vI s1, vI s2, vI s3] σ r σ1) (h : gK c0 = 1) : Wp L (d + 1) k_B_weighPiers 70 [l0, l1, l2] [vI s3, vI s2, vI s1, vR c0] σ Q ↔ Wp L (d + 1) k_B_weighPiers 73 [l0, l1, l2] (r.toList ++ []) σ1 Q := wp_callR (as := [vR c0, vI s1, vI s2, vI s3]) (rest := []) rfl rfl rfl rfl rfl rfl rfl (grecv_k (by rw [h]) rfl) hR
theorem r_B_weighPiers_73 : Wp L d k_B_weighPiers 73 [l0, vI a1, vI a2] [] σ Q ↔ Wp L d k_B_weighPiers 76 [l0, vI a1, vI (w32 (a2 + 1))] [] σ Q := wp_iinc (i := 2) (ls := [l0, vI a1, vI a2]) rfl rfl
theorem r_B_weighPiers_76 : Wp L d k_B_weighPiers 76 [l0, l1, l2] [] σ Q ↔ Wp L d k_B_weighPiers 39 [l0, l1, l2] [] σ Q := wp_goto rfl
theorem r_B_weighPiers_79 : Wp L d k_B_weighPiers 79 [vR b0, l1, l2] [] σ Q ↔ Wp L d k_B_weighPiers 80 [vR b0, l1, l2] [vR b0] σ Q := wp_aload rfl rfl
theorem r_B_weighPiers_80 : Wp L d k_B_weighPiers 80 [vR b0, l1, l2] [vR c0] σ Q ↔ Wp L d k_B_weighPiers 81 [vR b0, l1, l2] [vR b0, vR c0] σ Q := wp_aload rfl rfl
theorem r_B_weighPiers_81 (h : gK c1 = 1) : Wp L d k_B_weighPiers 81 [l0, l1, l2] [vR c1, vR c0] σ Q ↔ Wp L d k_B_weighPiers 84 [l0, l1, l2] [vI (σ c1 12), vR c0] σ Q := wp_getI (c := 268) rfl rfl rfl rfl h
theorem c_B_weighPiers_84 (hR : Run L d 99 [vR c0, vI s1] σ r σ1) (h : gK c0 = 1) : Wp L (d + 1) k_B_weighPiers 84 [l0, l1, l2] [vI s1, vR c0] σ Q ↔ Wp L (d + 1) k_B_weighPiers 87 [l0, l1, l2] (r.toList ++ []) σ1 Q := wp_callR (as := [vR c0, vI s1]) (rest := []) rfl rfl rfl rfl rfl rfl rfl (grecv_k (by rw [h]) rfl) hR
theorem r_B_weighPiers_87 : Wp L d k_B_weighPiers 87 [l0, l1, l2] [vI s0] σ Q ↔ (if s0 = 0 then Wp L d k_B_weighPiers 106 [l0, l1, l2] [] σ Q else Wp L d k_B_weighPiers 90 [l0, l1, l2] [] σ Q) := wp_if_eq rfl
theorem r_B_weighPiers_90 : Wp L d k_B_weighPiers 90 [vR b0, l1, l2] [] σ Q ↔ Wp L d k_B_weighPiers 91 [vR b0, l1, l2] [vR b0] σ Q := wp_aload rfl rfl
theorem r_B_weighPiers_91 : Wp L d k_B_weighPiers 91 [vR b0, l1, l2] [vR c0] σ Q ↔ Wp L d k_B_weighPiers 92 [vR b0, l1, l2] [vR b0, vR c0] σ Q := wp_aload rfl rfl
theorem r_B_weighPiers_92 (h : gK c1 = 1) : Wp L d k_B_weighPiers 92 [l0, l1, l2] [vR c1, vR c0] σ Q ↔ Wp L d k_B_weighPiers 95 [l0, l1, l2] [vI (σ c1 12), vR c0] σ Q := wp_getI (c := 268) rfl rfl rfl rfl h
theorem r_B_weighPiers_95 : Wp L d k_B_weighPiers 95 [vR b0, l1, l2] [vI s1, vR c0] σ Q ↔ Wp L d k_B_weighPiers 96 [vR b0, l1, l2] [vR b0, vI s1, vR c0] σ Q := wp_aload rfl rfl
theorem r_B_weighPiers_96 (h : gK c2 = 1) : Wp L d k_B_weighPiers 96 [l0, l1, l2] [vR c2, vI s1, vR c0] σ Q ↔ Wp L d k_B_weighPiers 99 [l0, l1, l2] [vI (σ c2 11), vI s1, vR c0] σ Q := wp_getI (c := 267) rfl rfl rfl rfl h
theorem r_B_weighPiers_99 : Wp L d k_B_weighPiers 99 [vR b0, l1, l2] [vI s2, vI s1, vR c0] σ Q ↔ Wp L d k_B_weighPiers 100 [vR b0, l1, l2] [vR b0, vI s2, vI s1, vR c0] σ Q := wp_aload rfl rfl
theorem r_B_weighPiers_100 (h : gK c3 = 1) : Wp L d k_B_weighPiers 100 [l0, l1, l2] [vR c3, vI s2, vI s1, vR c0] σ Q ↔ Wp L d k_B_weighPiers 103 [l0, l1, l2] [vI (σ c3 10), vI s2, vI s1, vR c0] σ Q := wp_getI (c := 266) rfl rfl rfl rfl h
theorem c_B_weighPiers_103 (hR : Run L d 98 [vR c0, vI s1, vI s2, vI s3] σ r σ1) (h : gK c0 = 1) : Wp L (d + 1) k_B_weighPiers 103 [l0, l1, l2] [vI s3, vI s2, vI s1, vR c0] σ Q ↔ Wp L (d + 1) k_B_weighPiers 106 [l0, l1, l2] (r.toList ++ []) σ1 Q := wp_callR (as := [vR c0, vI s1, vI s2, vI s3]) (rest := []) rfl rfl rfl rfl rfl rfl rfl (grecv_k (by rw [h]) rfl) hR
theorem r_B_weighPiers_106 : Wp L d k_B_weighPiers 106 [l0, l1, l2] [] σ Q ↔ Wp L d k_B_weighPiers 107 [l0, l1, l2] [vI 0] σ Q := wp_push rfl
theorem r_B_weighPiers_107 : Wp L d k_B_weighPiers 107 [l0, vI a1, l2] [vI s0] σ Q ↔ Wp L d k_B_weighPiers 108 [l0, vI a1, vI s0] [] σ Q := wp_istore (i := 2) (ls := [l0, vI a1, l2]) rfl rfl
theorem r_B_weighPiers_108 : Wp L d k_B_weighPiers 108 [l0, l1, vI a2] [] σ Q ↔ Wp L d k_B_weighPiers 109 [l0, l1, vI a2] [vI a2] σ Q := wp_iload rfl rfl
theorem r_B_weighPiers_109 : Wp L d k_B_weighPiers 109 [vR b0, l1, l2] [vI s0] σ Q ↔ Wp L d k_B_weighPiers 110 [vR b0, l1, l2] [vR b0, vI s0] σ Q := wp_aload rfl rfl
theorem r_B_weighPiers_110 (h : gK c1 = 1) : Wp L d k_B_weighPiers 110 [l0, l1, l2] [vR c1, vI s0] σ Q ↔ Wp L d k_B_weighPiers 113 [l0, l1, l2] [vI (σ c1 9), vI s0] σ Q := wp_getI (c := 265) rfl rfl rfl rfl h
theorem r_B_weighPiers_113 : Wp L d k_B_weighPiers 113 [l0, l1, l2] [vI s1, vI s0] σ Q ↔ (if s1 ≤ s0 then Wp L d k_B_weighPiers 160 [l0, l1, l2] [] σ Q else Wp L d k_B_weighPiers 116 [l0, l1, l2] [] σ Q) := wp_cmp_ge rfl
theorem r_B_weighPiers_116 : Wp L d k_B_weighPiers 116 [vR b0, l1, l2] [] σ Q ↔ Wp L d k_B_weighPiers 117 [vR b0, l1, l2] [vR b0] σ Q := wp_aload rfl rfl
theorem r_B_weighPiers_117 (h : gK c0 = 1) : Wp L d k_B_weighPiers 117 [l0, l1, l2] [vR c0] σ Q ↔ Wp L d k_B_weighPiers 120 [l0, l1, l2] [vR (gq c0 3)] σ Q := wp_getR (c := 387) rfl rfl rfl rfl rfl h
theorem r_B_weighPiers_120 : Wp L d k_B_weighPiers 120 [l0, l1, vI a2] [vR c0] σ Q ↔ Wp L d k_B_weighPiers 121 [l0, l1, vI a2] [vI a2, vR c0] σ Q := wp_iload rfl rfl
theorem r_B_weighPiers_121 (h : gK c0 = 102 ∨ gK c0 = 103) (hx : 0 ≤ s1 ∧ s1 < gN c0) : Wp L d k_B_weighPiers 121 [l0, l1, l2] [vI s1, vR c0] σ Q ↔ Wp L d k_B_weighPiers 122 [l0, l1, l2] [vR (gq c0 s1.toNat)] σ Q := wp_aald rfl h hx
theorem r_B_weighPiers_122 (h : gK c0 = 4) : Wp L d k_B_weighPiers 122 [l0, l1, l2] [vR c0] σ Q ↔ Wp L d k_B_weighPiers 125 [l0, l1, l2] [vI (σ c0 10)] σ Q := wp_getI (c := 1098) rfl rfl rfl rfl h
theorem r_B_weighPiers_125 : Wp L d k_B_weighPiers 125 [l0, l1, l2] [vI s0] σ Q ↔ (if s0 = 0 then Wp L d k_B_weighPiers 154 [l0, l1, l2] [] σ Q else Wp L d k_B_weighPiers 128 [l0, l1, l2] [] σ Q) := wp_if_eq rfl
theorem r_B_weighPiers_128 : Wp L d k_B_weighPiers 128 [vR b0, l1, l2] [] σ Q ↔ Wp L d k_B_weighPiers 129 [vR b0, l1, l2] [vR b0] σ Q := wp_aload rfl rfl
theorem r_B_weighPiers_129 (h : gK c0 = 1) : Wp L d k_B_weighPiers 129 [l0, l1, l2] [vR c0] σ Q ↔ Wp L d k_B_weighPiers 132 [l0, l1, l2] [vR (gq c0 6)] σ Q := wp_getR (c := 390) rfl rfl rfl rfl rfl h
theorem r_B_weighPiers_132 : Wp L d k_B_weighPiers 132 [vR b0, l1, l2] [vR c0] σ Q ↔ Wp L d k_B_weighPiers 133 [vR b0, l1, l2] [vR b0, vR c0] σ Q := wp_aload rfl rfl
theorem r_B_weighPiers_133 (h : gK c1 = 1) : Wp L d k_B_weighPiers 133 [l0, l1, l2] [vR c1, vR c0] σ Q ↔ Wp L d k_B_weighPiers 136 [l0, l1, l2] [vR (gq c1 3), vR c0] σ Q := wp_getR (c := 387) rfl rfl rfl rfl rfl h
theorem r_B_weighPiers_136 : Wp L d k_B_weighPiers 136 [l0, l1, vI a2] [vR c1, vR c0] σ Q ↔ Wp L d k_B_weighPiers 137 [l0, l1, vI a2] [vI a2, vR c1, vR c0] σ Q := wp_iload rfl rfl
theorem r_B_weighPiers_137 (h : gK c1 = 102 ∨ gK c1 = 103) (hx : 0 ≤ s2 ∧ s2 < gN c1) : Wp L d k_B_weighPiers 137 [l0, l1, l2] [vI s2, vR c1, vR c0] σ Q ↔ Wp L d k_B_weighPiers 138 [l0, l1, l2] [vR (gq c1 s2.toNat), vR c0] σ Q := wp_aald rfl h hx
theorem r_B_weighPiers_138 (h : gK c1 = 4) : Wp L d k_B_weighPiers 138 [l0, l1, l2] [vR c1, vR c0] σ Q ↔ Wp L d k_B_weighPiers 141 [l0, l1, l2] [vI (σ c1 1), vR c0] σ Q := wp_getI (c := 1025) rfl rfl rfl rfl h
theorem r_B_weighPiers_141 : Wp L d k_B_weighPiers 141 [l0, l1, l2] [vI s1, vR c0] σ Q ↔ Wp L d k_B_weighPiers 142 [l0, l1, l2] [vI s1, vR c0, vI s1, vR c0] σ Q := wp_dup2 rfl
theorem r_B_weighPiers_142 (h : gK c2 = 100) (hx : 0 ≤ s3 ∧ s3 < gN c2) : Wp L d k_B_weighPiers 142 [l0, l1, l2] [vI s3, vR c2, vI s1, vR c0] σ Q ↔ Wp L d k_B_weighPiers 143 [l0, l1, l2] [vI (σ c2 s3.toNat), vI s1, vR c0] σ Q := wp_iald rfl h hx
theorem r_B_weighPiers_143 : Wp L d k_B_weighPiers 143 [vR b0, l1, l2] [vI s2, vI s1, vR c0] σ Q ↔ Wp L d k_B_weighPiers 144 [vR b0, l1, l2] [vR b0, vI s2, vI s1, vR c0] σ Q := wp_aload rfl rfl
theorem r_B_weighPiers_144 (h : gK c3 = 1) : Wp L d k_B_weighPiers 144 [l0, l1, l2] [vR c3, vI s2, vI s1, vR c0] σ Q ↔ Wp L d k_B_weighPiers 147 [l0, l1, l2] [vR (gq c3 3), vI s2, vI s1, vR c0] σ Q := wp_getR (c := 387) rfl rfl rfl rfl rfl h
theorem r_B_weighPiers_147 : Wp L d k_B_weighPiers 147 [l0, l1, vI a2] [vR c3, vI s2, vI s1, vR c0] σ Q ↔ Wp L d k_B_weighPiers 148 [l0, l1, vI a2] [vI a2, vR c3, vI s2, vI s1, vR c0] σ Q := wp_iload rfl rfl
theorem r_B_weighPiers_148 (h : gK c3 = 102 ∨ gK c3 = 103) (hx : 0 ≤ s4 ∧ s4 < gN c3) : Wp L d k_B_weighPiers 148 [l0, l1, l2] [vI s4, vR c3, vI s2, vI s1, vR c0] σ Q ↔ Wp L d k_B_weighPiers 149 [l0, l1, l2] [vR (gq c3 s4.toNat), vI s2, vI s1, vR c0] σ Q := wp_aald rfl h hx
theorem r_B_weighPiers_149 (h : gK c3 = 4) : Wp L d k_B_weighPiers 149 [l0, l1, l2] [vR c3, vI s2, vI s1, vR c0] σ Q ↔ Wp L d k_B_weighPiers 152 [l0, l1, l2] [vI (σ c3 3), vI s2, vI s1, vR c0] σ Q := wp_getI (c := 1027) rfl rfl rfl rfl h
theorem r_B_weighPiers_152 : Wp L d k_B_weighPiers 152 [l0, l1, l2] [vI s3, vI s2, vI s1, vR c0] σ Q ↔ Wp L d k_B_weighPiers 153 [l0, l1, l2] [vI (w32 (s2 + s3)), vI s1, vR c0] σ Q := wp_iadd rfl
theorem r_B_weighPiers_153 (h : gK c0 = 100) (hx : 0 ≤ s1 ∧ s1 < gN c0) : Wp L d k_B_weighPiers 153 [l0, l1, l2] [vI s2, vI s1, vR c0] σ Q ↔ Wp L d k_B_weighPiers 154 [l0, l1, l2] [] (gupd σ c0 s1.toNat s2) Q := wp_iast rfl h hx
theorem r_B_weighPiers_154 : Wp L d k_B_weighPiers 154 [l0, vI a1, vI a2] [] σ Q ↔ Wp L d k_B_weighPiers 157 [l0, vI a1, vI (w32 (a2 + 1))] [] σ Q := wp_iinc (i := 2) (ls := [l0, vI a1, vI a2]) rfl rfl
theorem r_B_weighPiers_157 : Wp L d k_B_weighPiers 157 [l0, l1, l2] [] σ Q ↔ Wp L d k_B_weighPiers 108 [l0, l1, l2] [] σ Q := wp_goto rfl
theorem r_B_weighPiers_160 : Wp L d k_B_weighPiers 160 [l0, l1, l2] [] σ Q ↔ Wp L d k_B_weighPiers 161 [l0, l1, l2] [vI 0] σ Q := wp_push rfl
theorem r_B_weighPiers_161 : Wp L d k_B_weighPiers 161 [l0, vI a1, l2] [vI s0] σ Q ↔ Wp L d k_B_weighPiers 162 [l0, vI a1, vI s0] [] σ Q := wp_istore (i := 2) (ls := [l0, vI a1, l2]) rfl rfl
theorem r_B_weighPiers_162 : Wp L d k_B_weighPiers 162 [l0, l1, vI a2] [] σ Q ↔ Wp L d k_B_weighPiers 163 [l0, l1, vI a2] [vI a2] σ Q := wp_iload rfl rfl
theorem r_B_weighPiers_163 : Wp L d k_B_weighPiers 163 [vR b0, l1, l2] [vI s0] σ Q ↔ Wp L d k_B_weighPiers 164 [vR b0, l1, l2] [vR b0, vI s0] σ Q := wp_aload rfl rfl
theorem r_B_weighPiers_164 (h : gK c1 = 1) : Wp L d k_B_weighPiers 164 [l0, l1, l2] [vR c1, vI s0] σ Q ↔ Wp L d k_B_weighPiers 167 [l0, l1, l2] [vI (σ c1 8), vI s0] σ Q := wp_getI (c := 264) rfl rfl rfl rfl h
theorem r_B_weighPiers_167 : Wp L d k_B_weighPiers 167 [l0, l1, l2] [vI s1, vI s0] σ Q ↔ (if s1 < s0 then Wp L d k_B_weighPiers 204 [l0, l1, l2] [] σ Q else Wp L d k_B_weighPiers 170 [l0, l1, l2] [] σ Q) := wp_cmp_gt rfl
theorem r_B_weighPiers_170 : Wp L d k_B_weighPiers 170 [vR b0, l1, l2] [] σ Q ↔ Wp L d k_B_weighPiers 171 [vR b0, l1, l2] [vR b0] σ Q := wp_aload rfl rfl
theorem r_B_weighPiers_171 (h : gK c0 = 1) : Wp L d k_B_weighPiers 171 [l0, l1, l2] [vR c0] σ Q ↔ Wp L d k_B_weighPiers 174 [l0, l1, l2] [vR (gq c0 7)] σ Q := wp_getR (c := 391) rfl rfl rfl rfl rfl h
theorem r_B_weighPiers_174 : Wp L d k_B_weighPiers 174 [l0, l1, vI a2] [vR c0] σ Q ↔ Wp L d k_B_weighPiers 175 [l0, l1, vI a2] [vI a2, vR c0] σ Q := wp_iload rfl rfl
theorem r_B_weighPiers_175 : Wp L d k_B_weighPiers 175 [l0, l1, l2] [vI s1, vR c0] σ Q ↔ Wp L d k_B_weighPiers 176 [l0, l1, l2] [vI 0, vI s1, vR c0] σ Q := wp_push rfl
theorem r_B_weighPiers_176 : Wp L d k_B_weighPiers 176 [l0, vI a1, l2] [vI s2, vI s1, vR c0] σ Q ↔ Wp L d k_B_weighPiers 177 [l0, vI a1, l2] [vI a1, vI s2, vI s1, vR c0] σ Q := wp_iload rfl rfl
theorem r_B_weighPiers_177 : Wp L d k_B_weighPiers 177 [vR b0, l1, l2] [vI s3, vI s2, vI s1, vR c0] σ Q ↔ Wp L d k_B_weighPiers 178 [vR b0, l1, l2] [vR b0, vI s3, vI s2, vI s1, vR c0] σ Q := wp_aload rfl rfl
theorem r_B_weighPiers_178 (h : gK c4 = 1) : Wp L d k_B_weighPiers 178 [l0, l1, l2] [vR c4, vI s3, vI s2, vI s1, vR c0] σ Q ↔ Wp L d k_B_weighPiers 181 [l0, l1, l2] [vR (gq c4 4), vI s3, vI s2, vI s1, vR c0] σ Q := wp_getR (c := 388) rfl rfl rfl rfl rfl h
theorem r_B_weighPiers_181 : Wp L d k_B_weighPiers 181 [l0, l1, vI a2] [vR c4, vI s3, vI s2, vI s1, vR c0] σ Q ↔ Wp L d k_B_weighPiers 182 [l0, l1, vI a2] [vI a2, vR c4, vI s3, vI s2, vI s1, vR c0] σ Q := wp_iload rfl rfl
theorem r_B_weighPiers_182 (h : gK c4 = 100) (hx : 0 ≤ s5 ∧ s5 < gN c4) : Wp L d k_B_weighPiers 182 [l0, l1, l2] [vI s5, vR c4, vI s3, vI s2, vI s1, vR c0] σ Q ↔ Wp L d k_B_weighPiers 183 [l0, l1, l2] [vI (σ c4 s5.toNat), vI s3, vI s2, vI s1, vR c0] σ Q := wp_iald rfl h hx
theorem r_B_weighPiers_183 : Wp L d k_B_weighPiers 183 [l0, l1, l2] [vI s4, vI s3, vI s2, vI s1, vR c0] σ Q ↔ Wp L d k_B_weighPiers 184 [l0, l1, l2] [vI (w32 (s3 * s4)), vI s2, vI s1, vR c0] σ Q := wp_imul rfl
theorem r_B_weighPiers_184 : Wp L d k_B_weighPiers 184 [l0, l1, l2] [vI s3, vI s2, vI s1, vR c0] σ Q ↔ Wp L d k_B_weighPiers 186 [l0, l1, l2] [vI 10, vI s3, vI s2, vI s1, vR c0] σ Q := wp_push rfl
theorem r_B_weighPiers_186 : Wp L d k_B_weighPiers 186 [vR b0, l1, l2] [vI s4, vI s3, vI s2, vI s1, vR c0] σ Q ↔ Wp L d k_B_weighPiers 187 [vR b0, l1, l2] [vR b0, vI s4, vI s3, vI s2, vI s1, vR c0] σ Q := wp_aload rfl rfl
theorem r_B_weighPiers_187 (h : gK c5 = 1) : Wp L d k_B_weighPiers 187 [l0, l1, l2] [vR c5, vI s4, vI s3, vI s2, vI s1, vR c0] σ Q ↔ Wp L d k_B_weighPiers 190 [l0, l1, l2] [vR (gq c5 5), vI s4, vI s3, vI s2, vI s1, vR c0] σ Q := wp_getR (c := 389) rfl rfl rfl rfl rfl h
theorem r_B_weighPiers_190 : Wp L d k_B_weighPiers 190 [l0, l1, vI a2] [vR c5, vI s4, vI s3, vI s2, vI s1, vR c0] σ Q ↔ Wp L d k_B_weighPiers 191 [l0, l1, vI a2] [vI a2, vR c5, vI s4, vI s3, vI s2, vI s1, vR c0] σ Q := wp_iload rfl rfl
theorem r_B_weighPiers_191 (h : gK c5 = 100) (hx : 0 ≤ s6 ∧ s6 < gN c5) : Wp L d k_B_weighPiers 191 [l0, l1, l2] [vI s6, vR c5, vI s4, vI s3, vI s2, vI s1, vR c0] σ Q ↔ Wp L d k_B_weighPiers 192 [l0, l1, l2] [vI (σ c5 s6.toNat), vI s4, vI s3, vI s2, vI s1, vR c0] σ Q := wp_iald rfl h hx
theorem r_B_weighPiers_192 : Wp L d k_B_weighPiers 192 [l0, l1, l2] [vI s5, vI s4, vI s3, vI s2, vI s1, vR c0] σ Q ↔ Wp L d k_B_weighPiers 193 [l0, l1, l2] [vI (w32 (s4 * s5)), vI s3, vI s2, vI s1, vR c0] σ Q := wp_imul rfl
theorem r_B_weighPiers_193 : Wp L d k_B_weighPiers 193 [l0, l1, l2] [vI s4, vI s3, vI s2, vI s1, vR c0] σ Q ↔ Wp L d k_B_weighPiers 194 [l0, l1, l2] [vI (w32 (s3 - s4)), vI s2, vI s1, vR c0] σ Q := wp_isub rfl
theorem r_B_weighPiers_194 : Wp L d k_B_weighPiers 194 [l0, l1, l2] [vI s3, vI s2, vI s1, vR c0] σ Q ↔ Wp L d k_B_weighPiers 197 [l0, l1, l2] [vI (max s2 s3), vI s1, vR c0] σ Q := wp_max rfl rfl
theorem r_B_weighPiers_197 (h : gK c0 = 100) (hx : 0 ≤ s1 ∧ s1 < gN c0) : Wp L d k_B_weighPiers 197 [l0, l1, l2] [vI s2, vI s1, vR c0] σ Q ↔ Wp L d k_B_weighPiers 198 [l0, l1, l2] [] (gupd σ c0 s1.toNat s2) Q := wp_iast rfl h hx
theorem r_B_weighPiers_198 : Wp L d k_B_weighPiers 198 [l0, vI a1, vI a2] [] σ Q ↔ Wp L d k_B_weighPiers 201 [l0, vI a1, vI (w32 (a2 + 1))] [] σ Q := wp_iinc (i := 2) (ls := [l0, vI a1, vI a2]) rfl rfl
theorem r_B_weighPiers_201 : Wp L d k_B_weighPiers 201 [l0, l1, l2] [] σ Q ↔ Wp L d k_B_weighPiers 162 [l0, l1, l2] [] σ Q := wp_goto rfl
theorem r_B_weighPiers_204 : Wp L d k_B_weighPiers 204 [l0, l1, l2] [] σ Q ↔ Q none σ := wp_vret rfl
theorem sp_B_weighPiers {b : Nat} {f : Nat → Int}  (hB : BR b) (hw : WB f) (hc : CB b f σ) (h : 0 ≤ a1 ∧ a1 ≤ 99) : ∃ σ', Run L (d + 1) 97 [vR b, vI a1] σ none σ' ∧ WD b f a1 σ' ∧ Agr σ σ' (ZSc b) := by
  refine Run_ex (C' := k_B_weighPiers) rfl ?_
  show Wp L (d + 1) k_B_weighPiers 0 [vR b, vI a1, vU] [] σ _
  have hB0 := hB
  obtain ⟨⟨K0, q0, q1, q2, q3, q4, q5, q6, q7⟩, ⟨K1, K2, K3, K4, K5, K6, K7, K8⟩, ⟨N1, N2, N3, N4, N5, N6, N7, N8⟩, QP, KP⟩ := hB
  have w1 := hw.1
  have w2 := hw.2.1
  have c1 := hc.1
  have c2 := hc.2.1
  have w5 := hw.2.2.2.2.1
  have w6 := hw.2.2.2.2.2.1
  simp only [r_B_weighPiers_0, r_B_weighPiers_1, r_B_weighPiers_3, r_B_weighPiers_4, r_B_weighPiers_7, r_B_weighPiers_10, r_B_weighPiers_11, r_B_weighPiers_14, r_B_weighPiers_15, r_B_weighPiers_16, r_B_weighPiers_17, r_B_weighPiers_18, r_B_weighPiers_21, r_B_weighPiers_22, r_B_weighPiers_23, r_B_weighPiers_24, r_B_weighPiers_25, r_B_weighPiers_28, r_B_weighPiers_29, r_B_weighPiers_30, r_B_weighPiers_31, r_B_weighPiers_34, r_B_weighPiers_37, r_B_weighPiers_38, r_B_weighPiers_40, r_B_weighPiers_41, r_B_weighPiers_44, r_B_weighPiers_47, r_B_weighPiers_48, r_B_weighPiers_51, r_B_weighPiers_52, r_B_weighPiers_53, r_B_weighPiers_56, r_B_weighPiers_57, r_B_weighPiers_58, r_B_weighPiers_59, r_B_weighPiers_62, r_B_weighPiers_63, r_B_weighPiers_64, r_B_weighPiers_65, r_B_weighPiers_68, r_B_weighPiers_69, r_B_weighPiers_73, r_B_weighPiers_76, r_B_weighPiers_79, r_B_weighPiers_80, r_B_weighPiers_81, r_B_weighPiers_87, r_B_weighPiers_90, r_B_weighPiers_91, r_B_weighPiers_92, r_B_weighPiers_95, r_B_weighPiers_96, r_B_weighPiers_99, r_B_weighPiers_100, r_B_weighPiers_106, r_B_weighPiers_107, r_B_weighPiers_109, r_B_weighPiers_110, r_B_weighPiers_113, r_B_weighPiers_116, r_B_weighPiers_117, r_B_weighPiers_120, r_B_weighPiers_121, r_B_weighPiers_122, r_B_weighPiers_125, r_B_weighPiers_128, r_B_weighPiers_129, r_B_weighPiers_132, r_B_weighPiers_133, r_B_weighPiers_136, r_B_weighPiers_137, r_B_weighPiers_138, r_B_weighPiers_141, r_B_weighPiers_142, r_B_weighPiers_143, r_B_weighPiers_144, r_B_weighPiers_147, r_B_weighPiers_148, r_B_weighPiers_149, r_B_weighPiers_152, r_B_weighPiers_153, r_B_weighPiers_154, r_B_weighPiers_157, r_B_weighPiers_160, r_B_weighPiers_161, r_B_weighPiers_163, r_B_weighPiers_164, r_B_weighPiers_167, r_B_weighPiers_170, r_B_weighPiers_171, r_B_weighPiers_174, r_B_weighPiers_175, r_B_weighPiers_176, r_B_weighPiers_177, r_B_weighPiers_178, r_B_weighPiers_181, r_B_weighPiers_182, r_B_weighPiers_183, r_B_weighPiers_184, r_B_weighPiers_186, r_B_weighPiers_187, r_B_weighPiers_190, r_B_weighPiers_191, r_B_weighPiers_192, r_B_weighPiers_193, r_B_weighPiers_194, r_B_weighPiers_197, r_B_weighPiers_198, r_B_weighPiers_201, r_B_weighPiers_204]
  refine wloop (n := ((f 0).toNat + 1)) (I := fun k ls τ => ls = [vR b, vI a1, vI (k : Int)] ∧ (∀ p : Nat, p < k → τ (b + 5) p = 0 ∧ τ (b + 6) p = 0 ∧ τ (b + 7) p = 0) ∧ Agr σ τ (ZSc b)) (fun k ls τ hk hi hq => ?_) (fun ls τ hi => ?_) ((f 0).toNat + 1) 0 (by omega) _ _ ⟨rfl, fun p hp => by omega, Agr_refl _ _⟩
  · obtain ⟨rfl, hz, hA⟩ := hi
    have hcτ := CB_sc hw hc hA
    have d1 := hcτ.1
    rw [r_B_weighPiers_2]
    simp (disch := first | assumption | exact gb_01 _ | omega) only [r_B_weighPiers_0, r_B_weighPiers_1, r_B_weighPiers_3, r_B_weighPiers_4, r_B_weighPiers_7, r_B_weighPiers_10, r_B_weighPiers_11, r_B_weighPiers_14, r_B_weighPiers_15, r_B_weighPiers_16, r_B_weighPiers_17, r_B_weighPiers_18, r_B_weighPiers_21, r_B_weighPiers_22, r_B_weighPiers_23, r_B_weighPiers_24, r_B_weighPiers_25, r_B_weighPiers_28, r_B_weighPiers_29, r_B_weighPiers_30, r_B_weighPiers_31, r_B_weighPiers_34, r_B_weighPiers_37, r_B_weighPiers_38, r_B_weighPiers_40, r_B_weighPiers_41, r_B_weighPiers_44, r_B_weighPiers_47, r_B_weighPiers_48, r_B_weighPiers_51, r_B_weighPiers_52, r_B_weighPiers_53, r_B_weighPiers_56, r_B_weighPiers_57, r_B_weighPiers_58, r_B_weighPiers_59, r_B_weighPiers_62, r_B_weighPiers_63, r_B_weighPiers_64, r_B_weighPiers_65, r_B_weighPiers_68, r_B_weighPiers_69, r_B_weighPiers_73, r_B_weighPiers_76, r_B_weighPiers_79, r_B_weighPiers_80, r_B_weighPiers_81, r_B_weighPiers_87, r_B_weighPiers_90, r_B_weighPiers_91, r_B_weighPiers_92, r_B_weighPiers_95, r_B_weighPiers_96, r_B_weighPiers_99, r_B_weighPiers_100, r_B_weighPiers_106, r_B_weighPiers_107, r_B_weighPiers_109, r_B_weighPiers_110, r_B_weighPiers_113, r_B_weighPiers_116, r_B_weighPiers_117, r_B_weighPiers_120, r_B_weighPiers_121, r_B_weighPiers_122, r_B_weighPiers_125, r_B_weighPiers_128, r_B_weighPiers_129, r_B_weighPiers_132, r_B_weighPiers_133, r_B_weighPiers_136, r_B_weighPiers_137, r_B_weighPiers_138, r_B_weighPiers_141, r_B_weighPiers_142, r_B_weighPiers_143, r_B_weighPiers_144, r_B_weighPiers_147, r_B_weighPiers_148, r_B_weighPiers_149, r_B_weighPiers_152, r_B_weighPiers_153, r_B_weighPiers_154, r_B_weighPiers_157, r_B_weighPiers_160, r_B_weighPiers_161, r_B_weighPiers_163, r_B_weighPiers_164, r_B_weighPiers_167, r_B_weighPiers_170, r_B_weighPiers_171, r_B_weighPiers_174, r_B_weighPiers_175, r_B_weighPiers_176, r_B_weighPiers_177, r_B_weighPiers_178, r_B_weighPiers_181, r_B_weighPiers_182, r_B_weighPiers_183, r_B_weighPiers_184, r_B_weighPiers_186, r_B_weighPiers_187, r_B_weighPiers_190, r_B_weighPiers_191, r_B_weighPiers_192, r_B_weighPiers_193, r_B_weighPiers_194, r_B_weighPiers_197, r_B_weighPiers_198, r_B_weighPiers_201, r_B_weighPiers_204, q0, q1, q2, q3, q4, q5, q6, q7, QP, w32_gb, w32i, tn_add, tn_mul, Int.toNat_natCast, Int.toNat_zero, Int.reduceLE, Int.reduceLT, Int.reduceEq, Int.reduceNe, gb_T, gb_F, Int.reduceToNat, eq_self, true_or, or_true, and_true, true_and, and_self, ↓ite_gb0, ↓ite_gbn, ↓if_pos, ↓if_neg, if_true, if_false, not_true_eq_false, not_false_eq_true, gb_ne0, gb_eq0]
    refine hq _ _ ⟨by simp only [List.cons.injEq, vI_inj, vR_inj, and_true, true_and]; omega, fun p hp => ?_, Agr_upd (Agr_upd (Agr_upd hA (by unfold ZSc; omega)) (by unfold ZSc; omega)) (by unfold ZSc; omega)⟩
    by_cases e : p = k
    · rw [e]
      simp (disch := omega) only [gupd_ne, gupd_eq, and_self]
    · simp (disch := omega) only [gupd_ne]
      exact hz p (by omega)
  · obtain ⟨rfl, hz, hA⟩ := hi
    have hcτ := CB_sc hw hc hA
    have d1 := hcτ.1
    rw [r_B_weighPiers_2]
    simp (disch := first | assumption | exact gb_01 _ | omega) only [r_B_weighPiers_0, r_B_weighPiers_1, r_B_weighPiers_3, r_B_weighPiers_4, r_B_weighPiers_7, r_B_weighPiers_10, r_B_weighPiers_11, r_B_weighPiers_14, r_B_weighPiers_15, r_B_weighPiers_16, r_B_weighPiers_17, r_B_weighPiers_18, r_B_weighPiers_21, r_B_weighPiers_22, r_B_weighPiers_23, r_B_weighPiers_24, r_B_weighPiers_25, r_B_weighPiers_28, r_B_weighPiers_29, r_B_weighPiers_30, r_B_weighPiers_31, r_B_weighPiers_34, r_B_weighPiers_37, r_B_weighPiers_38, r_B_weighPiers_40, r_B_weighPiers_41, r_B_weighPiers_44, r_B_weighPiers_47, r_B_weighPiers_48, r_B_weighPiers_51, r_B_weighPiers_52, r_B_weighPiers_53, r_B_weighPiers_56, r_B_weighPiers_57, r_B_weighPiers_58, r_B_weighPiers_59, r_B_weighPiers_62, r_B_weighPiers_63, r_B_weighPiers_64, r_B_weighPiers_65, r_B_weighPiers_68, r_B_weighPiers_69, r_B_weighPiers_73, r_B_weighPiers_76, r_B_weighPiers_79, r_B_weighPiers_80, r_B_weighPiers_81, r_B_weighPiers_87, r_B_weighPiers_90, r_B_weighPiers_91, r_B_weighPiers_92, r_B_weighPiers_95, r_B_weighPiers_96, r_B_weighPiers_99, r_B_weighPiers_100, r_B_weighPiers_106, r_B_weighPiers_107, r_B_weighPiers_109, r_B_weighPiers_110, r_B_weighPiers_113, r_B_weighPiers_116, r_B_weighPiers_117, r_B_weighPiers_120, r_B_weighPiers_121, r_B_weighPiers_122, r_B_weighPiers_125, r_B_weighPiers_128, r_B_weighPiers_129, r_B_weighPiers_132, r_B_weighPiers_133, r_B_weighPiers_136, r_B_weighPiers_137, r_B_weighPiers_138, r_B_weighPiers_141, r_B_weighPiers_142, r_B_weighPiers_143, r_B_weighPiers_144, r_B_weighPiers_147, r_B_weighPiers_148, r_B_weighPiers_149, r_B_weighPiers_152, r_B_weighPiers_153, r_B_weighPiers_154, r_B_weighPiers_157, r_B_weighPiers_160, r_B_weighPiers_161, r_B_weighPiers_163, r_B_weighPiers_164, r_B_weighPiers_167, r_B_weighPiers_170, r_B_weighPiers_171, r_B_weighPiers_174, r_B_weighPiers_175, r_B_weighPiers_176, r_B_weighPiers_177, r_B_weighPiers_178, r_B_weighPiers_181, r_B_weighPiers_182, r_B_weighPiers_183, r_B_weighPiers_184, r_B_weighPiers_186, r_B_weighPiers_187, r_B_weighPiers_190, r_B_weighPiers_191, r_B_weighPiers_192, r_B_weighPiers_193, r_B_weighPiers_194, r_B_weighPiers_197, r_B_weighPiers_198, r_B_weighPiers_201, r_B_weighPiers_204, q0, q1, q2, q3, q4, q5, q6, q7, QP, w32_gb, w32i, tn_add, tn_mul, Int.toNat_natCast, Int.toNat_zero, Int.reduceLE, Int.reduceLT, Int.reduceEq, Int.reduceNe, gb_T, gb_F, Int.reduceToNat, eq_self, true_or, or_true, and_true, true_and, and_self, ↓ite_gb0, ↓ite_gbn, ↓if_pos, ↓if_neg, if_true, if_false, not_true_eq_false, not_false_eq_true, gb_ne0, gb_eq0]
    refine wloop (n := (f 0).toNat) (I := fun k ls τ => ls = [vR b, vI a1, vI (k : Int)] ∧ (∀ p : Nat, (p : Int) ≤ f 0 → τ (b + 5) p = gsm (fun i => brad p i (brsv f i)) k ∧ τ (b + 6) p = gsm (fun i => brad p i (brwv f i)) k ∧ τ (b + 7) p = 0) ∧ Agr σ τ (ZSc b)) (fun k ls τ hk hi hq => ?_) (fun ls τ hi => ?_) (f 0).toNat 0 (by omega) _ _ ⟨rfl, fun p hp => hz p (by omega), hA⟩
    · obtain ⟨rfl, hz, hA⟩ := hi
      have hcτ := CB_sc hw hc hA
      have d1 := hcτ.1
      have s := hcτ.2.2.1 k (by omega)
      have w3 := hw.2.2.1 k (by omega)
      rw [r_B_weighPiers_39]
      by_cases e : f (20 + 3 * k + 2) = 0
      · obtain ⟨τ', hR, h5, hA'⟩ := sp_B_hang (L := L) (d := d) (σ := τ) (a1 := (k : Int)) (a2 := τ (b + 2) k) (a3 := τ (b + 1) k) hB0 (by omega) (by omega) (by omega) (fun p hp => by
          have y := hz p (by omega)
          have x1 := brads_bd (v := brsv f) (n := (f 0).toNat) p (fun i hi => (brsv_bd hw i (by omega)).1) k (by omega)
          have x2 := brads_bd (v := brwv f) (n := (f 0).toNat) p (fun i hi => (brsv_bd hw i (by omega)).2) k (by omega)
          omega)
        simp (disch := first | assumption | exact gb_01 _ | omega) only [r_B_weighPiers_0, r_B_weighPiers_1, r_B_weighPiers_3, r_B_weighPiers_4, r_B_weighPiers_7, r_B_weighPiers_10, r_B_weighPiers_11, r_B_weighPiers_14, r_B_weighPiers_15, r_B_weighPiers_16, r_B_weighPiers_17, r_B_weighPiers_18, r_B_weighPiers_21, r_B_weighPiers_22, r_B_weighPiers_23, r_B_weighPiers_24, r_B_weighPiers_25, r_B_weighPiers_28, r_B_weighPiers_29, r_B_weighPiers_30, r_B_weighPiers_31, r_B_weighPiers_34, r_B_weighPiers_37, r_B_weighPiers_38, r_B_weighPiers_40, r_B_weighPiers_41, r_B_weighPiers_44, r_B_weighPiers_47, r_B_weighPiers_48, r_B_weighPiers_51, r_B_weighPiers_52, r_B_weighPiers_53, r_B_weighPiers_56, r_B_weighPiers_57, r_B_weighPiers_58, r_B_weighPiers_59, r_B_weighPiers_62, r_B_weighPiers_63, r_B_weighPiers_64, r_B_weighPiers_65, r_B_weighPiers_68, r_B_weighPiers_69, r_B_weighPiers_73, r_B_weighPiers_76, r_B_weighPiers_79, r_B_weighPiers_80, r_B_weighPiers_81, r_B_weighPiers_87, r_B_weighPiers_90, r_B_weighPiers_91, r_B_weighPiers_92, r_B_weighPiers_95, r_B_weighPiers_96, r_B_weighPiers_99, r_B_weighPiers_100, r_B_weighPiers_106, r_B_weighPiers_107, r_B_weighPiers_109, r_B_weighPiers_110, r_B_weighPiers_113, r_B_weighPiers_116, r_B_weighPiers_117, r_B_weighPiers_120, r_B_weighPiers_121, r_B_weighPiers_122, r_B_weighPiers_125, r_B_weighPiers_128, r_B_weighPiers_129, r_B_weighPiers_132, r_B_weighPiers_133, r_B_weighPiers_136, r_B_weighPiers_137, r_B_weighPiers_138, r_B_weighPiers_141, r_B_weighPiers_142, r_B_weighPiers_143, r_B_weighPiers_144, r_B_weighPiers_147, r_B_weighPiers_148, r_B_weighPiers_149, r_B_weighPiers_152, r_B_weighPiers_153, r_B_weighPiers_154, r_B_weighPiers_157, r_B_weighPiers_160, r_B_weighPiers_161, r_B_weighPiers_163, r_B_weighPiers_164, r_B_weighPiers_167, r_B_weighPiers_170, r_B_weighPiers_171, r_B_weighPiers_174, r_B_weighPiers_175, r_B_weighPiers_176, r_B_weighPiers_177, r_B_weighPiers_178, r_B_weighPiers_181, r_B_weighPiers_182, r_B_weighPiers_183, r_B_weighPiers_184, r_B_weighPiers_186, r_B_weighPiers_187, r_B_weighPiers_190, r_B_weighPiers_191, r_B_weighPiers_192, r_B_weighPiers_193, r_B_weighPiers_194, r_B_weighPiers_197, r_B_weighPiers_198, r_B_weighPiers_201, r_B_weighPiers_204, c_B_weighPiers_70 hR, Option.toList, List.singleton_append, List.cons_append, List.nil_append, List.append_nil, q0, q1, q2, q3, q4, q5, q6, q7, QP, w32_gb, w32i, tn_add, tn_mul, Int.toNat_natCast, Int.toNat_zero, Int.reduceLE, Int.reduceLT, Int.reduceEq, Int.reduceNe, gb_T, gb_F, Int.reduceToNat, eq_self, true_or, or_true, and_true, true_and, and_self, ↓ite_gb0, ↓ite_gbn, ↓if_pos, ↓if_neg, if_true, if_false, not_true_eq_false, not_false_eq_true, gb_ne0, gb_eq0]
        refine hq _ _ ⟨by simp only [List.cons.injEq, vI_inj, vR_inj, and_true, true_and]; omega, fun p hp => ?_, Agr_trans hA (Agr_mono hA' (fun k j hk => by unfold ZSc; omega))⟩
        have y := hz p hp
        simp only [gsm]
        rw [(h5 p).1, (h5 p).2, y.1, y.2.1, hA' (b + 7) p (by omega), y.2.2]
        unfold brsv brwv
        rw [if_pos e, if_pos e, s.1, s.2.1]
        simp only [Int.toNat_natCast, and_self]
      · simp (disch := first | assumption | exact gb_01 _ | omega) only [r_B_weighPiers_0, r_B_weighPiers_1, r_B_weighPiers_3, r_B_weighPiers_4, r_B_weighPiers_7, r_B_weighPiers_10, r_B_weighPiers_11, r_B_weighPiers_14, r_B_weighPiers_15, r_B_weighPiers_16, r_B_weighPiers_17, r_B_weighPiers_18, r_B_weighPiers_21, r_B_weighPiers_22, r_B_weighPiers_23, r_B_weighPiers_24, r_B_weighPiers_25, r_B_weighPiers_28, r_B_weighPiers_29, r_B_weighPiers_30, r_B_weighPiers_31, r_B_weighPiers_34, r_B_weighPiers_37, r_B_weighPiers_38, r_B_weighPiers_40, r_B_weighPiers_41, r_B_weighPiers_44, r_B_weighPiers_47, r_B_weighPiers_48, r_B_weighPiers_51, r_B_weighPiers_52, r_B_weighPiers_53, r_B_weighPiers_56, r_B_weighPiers_57, r_B_weighPiers_58, r_B_weighPiers_59, r_B_weighPiers_62, r_B_weighPiers_63, r_B_weighPiers_64, r_B_weighPiers_65, r_B_weighPiers_68, r_B_weighPiers_69, r_B_weighPiers_73, r_B_weighPiers_76, r_B_weighPiers_79, r_B_weighPiers_80, r_B_weighPiers_81, r_B_weighPiers_87, r_B_weighPiers_90, r_B_weighPiers_91, r_B_weighPiers_92, r_B_weighPiers_95, r_B_weighPiers_96, r_B_weighPiers_99, r_B_weighPiers_100, r_B_weighPiers_106, r_B_weighPiers_107, r_B_weighPiers_109, r_B_weighPiers_110, r_B_weighPiers_113, r_B_weighPiers_116, r_B_weighPiers_117, r_B_weighPiers_120, r_B_weighPiers_121, r_B_weighPiers_122, r_B_weighPiers_125, r_B_weighPiers_128, r_B_weighPiers_129, r_B_weighPiers_132, r_B_weighPiers_133, r_B_weighPiers_136, r_B_weighPiers_137, r_B_weighPiers_138, r_B_weighPiers_141, r_B_weighPiers_142, r_B_weighPiers_143, r_B_weighPiers_144, r_B_weighPiers_147, r_B_weighPiers_148, r_B_weighPiers_149, r_B_weighPiers_152, r_B_weighPiers_153, r_B_weighPiers_154, r_B_weighPiers_157, r_B_weighPiers_160, r_B_weighPiers_161, r_B_weighPiers_163, r_B_weighPiers_164, r_B_weighPiers_167, r_B_weighPiers_170, r_B_weighPiers_171, r_B_weighPiers_174, r_B_weighPiers_175, r_B_weighPiers_176, r_B_weighPiers_177, r_B_weighPiers_178, r_B_weighPiers_181, r_B_weighPiers_182, r_B_weighPiers_183, r_B_weighPiers_184, r_B_weighPiers_186, r_B_weighPiers_187, r_B_weighPiers_190, r_B_weighPiers_191, r_B_weighPiers_192, r_B_weighPiers_193, r_B_weighPiers_194, r_B_weighPiers_197, r_B_weighPiers_198, r_B_weighPiers_201, r_B_weighPiers_204, q0, q1, q2, q3, q4, q5, q6, q7, QP, w32_gb, w32i, tn_add, tn_mul, Int.toNat_natCast, Int.toNat_zero, Int.reduceLE, Int.reduceLT, Int.reduceEq, Int.reduceNe, gb_T, gb_F, Int.reduceToNat, eq_self, true_or, or_true, and_true, true_and, and_self, ↓ite_gb0, ↓ite_gbn, ↓if_pos, ↓if_neg, if_true, if_false, not_true_eq_false, not_false_eq_true, gb_ne0, gb_eq0]
        refine hq _ _ ⟨by simp only [List.cons.injEq, vI_inj, vR_inj, and_true, true_and]; omega, fun p hp => ?_, hA⟩
        have y := hz p hp
        have e1 : brad p k (brsv f k) = 0 := by unfold brad brsv; rw [if_neg e]; split <;> rfl
        have e2 : brad p k (brwv f k) = 0 := by unfold brad brwv; rw [if_neg e]; split <;> rfl
        simp only [gsm]
        rw [y.1, y.2.1, y.2.2, e1, e2]
        simp only [Int.add_zero, and_self]
    · obtain ⟨rfl, hz, hA⟩ := hi
      have hcτ := CB_sc hw hc hA
      have d1 := hcτ.1
      have d5 := hcτ.2.2.2.2.1
      have d6 := hcτ.2.2.2.2.2.1
      have d7 : τ b 12 = if f 11 < 0 then -1000000005 else f 11 := hcτ.2.2.2.2.2.2.1
      have hU := sp_B_isUp (L := L) (d := d) (σ := τ) (a1 := τ b 12) hB0 (by omega)
      rw [r_B_weighPiers_39]
      by_cases e : (0 ≤ f 11 ∧ f 11 < f 0) ∧ f (20 + 3 * (f 11).toNat + 2) = 0
      · rw [if_neg (by omega)] at d7
        have s := (hcτ.2.2.1 (f 11).toNat (by omega)).2.2
        have eu : (0 ≤ τ b 12 ∧ τ b 12 < τ b 8) ∧ τ (b + 3) (τ b 12).toNat = 0 := by rw [d7, d1, s]; exact e
        obtain ⟨τ', hR, h5, hA'⟩ := sp_B_hang (L := L) (d := d) (σ := τ) (a1 := τ b 12) (a2 := τ b 11) (a3 := τ b 10) hB0 (by omega) (by omega) (by omega) (fun p hp => by
          have y := hz p (by omega)
          have x1 := brads_bd (v := brsv f) (n := (f 0).toNat) p (fun i hi => (brsv_bd hw i (by omega)).1) _ (Nat.le_refl _)
          have x2 := brads_bd (v := brwv f) (n := (f 0).toNat) p (fun i hi => (brsv_bd hw i (by omega)).2) _ (Nat.le_refl _)
          omega)
        simp (disch := first | assumption | exact gb_01 _ | omega) only [r_B_weighPiers_0, r_B_weighPiers_1, r_B_weighPiers_3, r_B_weighPiers_4, r_B_weighPiers_7, r_B_weighPiers_10, r_B_weighPiers_11, r_B_weighPiers_14, r_B_weighPiers_15, r_B_weighPiers_16, r_B_weighPiers_17, r_B_weighPiers_18, r_B_weighPiers_21, r_B_weighPiers_22, r_B_weighPiers_23, r_B_weighPiers_24, r_B_weighPiers_25, r_B_weighPiers_28, r_B_weighPiers_29, r_B_weighPiers_30, r_B_weighPiers_31, r_B_weighPiers_34, r_B_weighPiers_37, r_B_weighPiers_38, r_B_weighPiers_40, r_B_weighPiers_41, r_B_weighPiers_44, r_B_weighPiers_47, r_B_weighPiers_48, r_B_weighPiers_51, r_B_weighPiers_52, r_B_weighPiers_53, r_B_weighPiers_56, r_B_weighPiers_57, r_B_weighPiers_58, r_B_weighPiers_59, r_B_weighPiers_62, r_B_weighPiers_63, r_B_weighPiers_64, r_B_weighPiers_65, r_B_weighPiers_68, r_B_weighPiers_69, r_B_weighPiers_73, r_B_weighPiers_76, r_B_weighPiers_79, r_B_weighPiers_80, r_B_weighPiers_81, r_B_weighPiers_87, r_B_weighPiers_90, r_B_weighPiers_91, r_B_weighPiers_92, r_B_weighPiers_95, r_B_weighPiers_96, r_B_weighPiers_99, r_B_weighPiers_100, r_B_weighPiers_106, r_B_weighPiers_107, r_B_weighPiers_109, r_B_weighPiers_110, r_B_weighPiers_113, r_B_weighPiers_116, r_B_weighPiers_117, r_B_weighPiers_120, r_B_weighPiers_121, r_B_weighPiers_122, r_B_weighPiers_125, r_B_weighPiers_128, r_B_weighPiers_129, r_B_weighPiers_132, r_B_weighPiers_133, r_B_weighPiers_136, r_B_weighPiers_137, r_B_weighPiers_138, r_B_weighPiers_141, r_B_weighPiers_142, r_B_weighPiers_143, r_B_weighPiers_144, r_B_weighPiers_147, r_B_weighPiers_148, r_B_weighPiers_149, r_B_weighPiers_152, r_B_weighPiers_153, r_B_weighPiers_154, r_B_weighPiers_157, r_B_weighPiers_160, r_B_weighPiers_161, r_B_weighPiers_163, r_B_weighPiers_164, r_B_weighPiers_167, r_B_weighPiers_170, r_B_weighPiers_171, r_B_weighPiers_174, r_B_weighPiers_175, r_B_weighPiers_176, r_B_weighPiers_177, r_B_weighPiers_178, r_B_weighPiers_181, r_B_weighPiers_182, r_B_weighPiers_183, r_B_weighPiers_184, r_B_weighPiers_186, r_B_weighPiers_187, r_B_weighPiers_190, r_B_weighPiers_191, r_B_weighPiers_192, r_B_weighPiers_193, r_B_weighPiers_194, r_B_weighPiers_197, r_B_weighPiers_198, r_B_weighPiers_201, r_B_weighPiers_204, c_B_weighPiers_84 hU, c_B_weighPiers_103 hR, Option.toList, List.singleton_append, List.cons_append, List.nil_append, List.append_nil, q0, q1, q2, q3, q4, q5, q6, q7, QP, w32_gb, w32i, tn_add, tn_mul, Int.toNat_natCast, Int.toNat_zero, Int.reduceLE, Int.reduceLT, Int.reduceEq, Int.reduceNe, gb_T, gb_F, Int.reduceToNat, eq_self, true_or, or_true, and_true, true_and, and_self, ↓ite_gb0, ↓ite_gbn, ↓if_pos, ↓if_neg, if_true, if_false, not_true_eq_false, not_false_eq_true, gb_ne0, gb_eq0]
        have hz : ∀ p : Nat, (p : Int) ≤ f 0 → τ' (b + 5) p = brS f p ∧ τ' (b + 6) p = brW f p ∧ τ' (b + 7) p = brsh f p 0 := fun p hp => by
          have y := hz p hp
          unfold brS brW brtr
          rw [(h5 p).1, (h5 p).2, y.1, y.2.1, if_pos e, if_pos e, d5, d6, d7, hA' (b + 7) p (by omega), y.2.2]
          exact ⟨rfl, rfl, rfl⟩
        have hA : Agr σ τ' (ZSc b) := Agr_trans hA (Agr_mono hA' (fun k j hk => by unfold ZSc; omega))
        refine wloop (n := (f 1).toNat) (I := fun k ls τ => ls = [vR b, vI a1, vI (k : Int)] ∧ (∀ p : Nat, (p : Int) ≤ f 0 → τ (b + 5) p = brS f p ∧ τ (b + 6) p = brW f p ∧ τ (b + 7) p = brsh f p k) ∧ Agr σ τ (ZSc b)) (fun k ls τ hk hi hq => ?_) (fun ls τ hi => ?_) (f 1).toNat 0 (by omega) _ _ ⟨rfl, hz, hA⟩
        · obtain ⟨rfl, hz, hA⟩ := hi
          have hcτ := CB_sc hw hc hA
          have d1 := hcτ.1
          have d2 := hcτ.2.1
          have p := CBp hcτ (p := k) (by omega)
          have w := WBp hw (p := k) (by omega)
          have kp := KP k (by omega)
          have z := (hz (f (120 + 12 * k + 1)).toNat (by omega)).2.2
          rw [show (((f (120 + 12 * k + 1)).toNat : Nat) : Int) = f (120 + 12 * k + 1) by omega] at z
          have bd := brsh_bd hw (f (120 + 12 * k + 1)) k (by omega)
          rw [r_B_weighPiers_108]
          by_cases e : f (120 + 12 * k + 8) = 1
          · simp (disch := first | assumption | exact gb_01 _ | omega) only [r_B_weighPiers_0, r_B_weighPiers_1, r_B_weighPiers_3, r_B_weighPiers_4, r_B_weighPiers_7, r_B_weighPiers_10, r_B_weighPiers_11, r_B_weighPiers_14, r_B_weighPiers_15, r_B_weighPiers_16, r_B_weighPiers_17, r_B_weighPiers_18, r_B_weighPiers_21, r_B_weighPiers_22, r_B_weighPiers_23, r_B_weighPiers_24, r_B_weighPiers_25, r_B_weighPiers_28, r_B_weighPiers_29, r_B_weighPiers_30, r_B_weighPiers_31, r_B_weighPiers_34, r_B_weighPiers_37, r_B_weighPiers_38, r_B_weighPiers_40, r_B_weighPiers_41, r_B_weighPiers_44, r_B_weighPiers_47, r_B_weighPiers_48, r_B_weighPiers_51, r_B_weighPiers_52, r_B_weighPiers_53, r_B_weighPiers_56, r_B_weighPiers_57, r_B_weighPiers_58, r_B_weighPiers_59, r_B_weighPiers_62, r_B_weighPiers_63, r_B_weighPiers_64, r_B_weighPiers_65, r_B_weighPiers_68, r_B_weighPiers_69, r_B_weighPiers_73, r_B_weighPiers_76, r_B_weighPiers_79, r_B_weighPiers_80, r_B_weighPiers_81, r_B_weighPiers_87, r_B_weighPiers_90, r_B_weighPiers_91, r_B_weighPiers_92, r_B_weighPiers_95, r_B_weighPiers_96, r_B_weighPiers_99, r_B_weighPiers_100, r_B_weighPiers_106, r_B_weighPiers_107, r_B_weighPiers_109, r_B_weighPiers_110, r_B_weighPiers_113, r_B_weighPiers_116, r_B_weighPiers_117, r_B_weighPiers_120, r_B_weighPiers_121, r_B_weighPiers_122, r_B_weighPiers_125, r_B_weighPiers_128, r_B_weighPiers_129, r_B_weighPiers_132, r_B_weighPiers_133, r_B_weighPiers_136, r_B_weighPiers_137, r_B_weighPiers_138, r_B_weighPiers_141, r_B_weighPiers_142, r_B_weighPiers_143, r_B_weighPiers_144, r_B_weighPiers_147, r_B_weighPiers_148, r_B_weighPiers_149, r_B_weighPiers_152, r_B_weighPiers_153, r_B_weighPiers_154, r_B_weighPiers_157, r_B_weighPiers_160, r_B_weighPiers_161, r_B_weighPiers_163, r_B_weighPiers_164, r_B_weighPiers_167, r_B_weighPiers_170, r_B_weighPiers_171, r_B_weighPiers_174, r_B_weighPiers_175, r_B_weighPiers_176, r_B_weighPiers_177, r_B_weighPiers_178, r_B_weighPiers_181, r_B_weighPiers_182, r_B_weighPiers_183, r_B_weighPiers_184, r_B_weighPiers_186, r_B_weighPiers_187, r_B_weighPiers_190, r_B_weighPiers_191, r_B_weighPiers_192, r_B_weighPiers_193, r_B_weighPiers_194, r_B_weighPiers_197, r_B_weighPiers_198, r_B_weighPiers_201, r_B_weighPiers_204, q0, q1, q2, q3, q4, q5, q6, q7, QP, p, z, w32_gb, w32i, tn_add, tn_mul, Int.toNat_natCast, Int.toNat_zero, Int.reduceLE, Int.reduceLT, Int.reduceEq, Int.reduceNe, gb_T, gb_F, Int.reduceToNat, eq_self, true_or, or_true, and_true, true_and, and_self, ↓ite_gb0, ↓ite_gbn, ↓if_pos, ↓if_neg, if_true, if_false, not_true_eq_false, not_false_eq_true, gb_ne0, gb_eq0]
            refine hq _ _ ⟨by simp only [List.cons.injEq, vI_inj, vR_inj, and_true, true_and]; omega, fun q hq => ?_, Agr_upd hA (by unfold ZSc; omega)⟩
            have y := hz q hq
            refine ⟨by rw [gupd_ne (by omega)]; exact y.1, by rw [gupd_ne (by omega)]; exact y.2.1, ?_⟩
            by_cases e2 : f (120 + 12 * k + 1) = q
            · rw [show (f (120 + 12 * k + 1)).toNat = q by omega, gupd_eq]
              simp only [brsh, gsm]
              rw [if_pos ⟨e, e2⟩]
              rw [← e2]
            · rw [gupd_ne (by omega), y.2.2]
              simp only [brsh, gsm]
              rw [if_neg (fun x => e2 x.2)]
              omega
          · simp (disch := first | assumption | exact gb_01 _ | omega) only [r_B_weighPiers_0, r_B_weighPiers_1, r_B_weighPiers_3, r_B_weighPiers_4, r_B_weighPiers_7, r_B_weighPiers_10, r_B_weighPiers_11, r_B_weighPiers_14, r_B_weighPiers_15, r_B_weighPiers_16, r_B_weighPiers_17, r_B_weighPiers_18, r_B_weighPiers_21, r_B_weighPiers_22, r_B_weighPiers_23, r_B_weighPiers_24, r_B_weighPiers_25, r_B_weighPiers_28, r_B_weighPiers_29, r_B_weighPiers_30, r_B_weighPiers_31, r_B_weighPiers_34, r_B_weighPiers_37, r_B_weighPiers_38, r_B_weighPiers_40, r_B_weighPiers_41, r_B_weighPiers_44, r_B_weighPiers_47, r_B_weighPiers_48, r_B_weighPiers_51, r_B_weighPiers_52, r_B_weighPiers_53, r_B_weighPiers_56, r_B_weighPiers_57, r_B_weighPiers_58, r_B_weighPiers_59, r_B_weighPiers_62, r_B_weighPiers_63, r_B_weighPiers_64, r_B_weighPiers_65, r_B_weighPiers_68, r_B_weighPiers_69, r_B_weighPiers_73, r_B_weighPiers_76, r_B_weighPiers_79, r_B_weighPiers_80, r_B_weighPiers_81, r_B_weighPiers_87, r_B_weighPiers_90, r_B_weighPiers_91, r_B_weighPiers_92, r_B_weighPiers_95, r_B_weighPiers_96, r_B_weighPiers_99, r_B_weighPiers_100, r_B_weighPiers_106, r_B_weighPiers_107, r_B_weighPiers_109, r_B_weighPiers_110, r_B_weighPiers_113, r_B_weighPiers_116, r_B_weighPiers_117, r_B_weighPiers_120, r_B_weighPiers_121, r_B_weighPiers_122, r_B_weighPiers_125, r_B_weighPiers_128, r_B_weighPiers_129, r_B_weighPiers_132, r_B_weighPiers_133, r_B_weighPiers_136, r_B_weighPiers_137, r_B_weighPiers_138, r_B_weighPiers_141, r_B_weighPiers_142, r_B_weighPiers_143, r_B_weighPiers_144, r_B_weighPiers_147, r_B_weighPiers_148, r_B_weighPiers_149, r_B_weighPiers_152, r_B_weighPiers_153, r_B_weighPiers_154, r_B_weighPiers_157, r_B_weighPiers_160, r_B_weighPiers_161, r_B_weighPiers_163, r_B_weighPiers_164, r_B_weighPiers_167, r_B_weighPiers_170, r_B_weighPiers_171, r_B_weighPiers_174, r_B_weighPiers_175, r_B_weighPiers_176, r_B_weighPiers_177, r_B_weighPiers_178, r_B_weighPiers_181, r_B_weighPiers_182, r_B_weighPiers_183, r_B_weighPiers_184, r_B_weighPiers_186, r_B_weighPiers_187, r_B_weighPiers_190, r_B_weighPiers_191, r_B_weighPiers_192, r_B_weighPiers_193, r_B_weighPiers_194, r_B_weighPiers_197, r_B_weighPiers_198, r_B_weighPiers_201, r_B_weighPiers_204, q0, q1, q2, q3, q4, q5, q6, q7, QP, p, z, w32_gb, w32i, tn_add, tn_mul, Int.toNat_natCast, Int.toNat_zero, Int.reduceLE, Int.reduceLT, Int.reduceEq, Int.reduceNe, gb_T, gb_F, Int.reduceToNat, eq_self, true_or, or_true, and_true, true_and, and_self, ↓ite_gb0, ↓ite_gbn, ↓if_pos, ↓if_neg, if_true, if_false, not_true_eq_false, not_false_eq_true, gb_ne0, gb_eq0]
            refine hq _ _ ⟨by simp only [List.cons.injEq, vI_inj, vR_inj, and_true, true_and]; omega, fun q hq => ?_, hA⟩
            have y := hz q hq
            refine ⟨y.1, y.2.1, ?_⟩
            rw [y.2.2]
            simp only [brsh, gsm]
            rw [if_neg (fun x => e x.1)]
            omega
        · obtain ⟨rfl, hz, hA⟩ := hi
          have hcτ := CB_sc hw hc hA
          have d2 := hcτ.2.1
          rw [r_B_weighPiers_108]
          simp (disch := first | assumption | exact gb_01 _ | omega) only [r_B_weighPiers_0, r_B_weighPiers_1, r_B_weighPiers_3, r_B_weighPiers_4, r_B_weighPiers_7, r_B_weighPiers_10, r_B_weighPiers_11, r_B_weighPiers_14, r_B_weighPiers_15, r_B_weighPiers_16, r_B_weighPiers_17, r_B_weighPiers_18, r_B_weighPiers_21, r_B_weighPiers_22, r_B_weighPiers_23, r_B_weighPiers_24, r_B_weighPiers_25, r_B_weighPiers_28, r_B_weighPiers_29, r_B_weighPiers_30, r_B_weighPiers_31, r_B_weighPiers_34, r_B_weighPiers_37, r_B_weighPiers_38, r_B_weighPiers_40, r_B_weighPiers_41, r_B_weighPiers_44, r_B_weighPiers_47, r_B_weighPiers_48, r_B_weighPiers_51, r_B_weighPiers_52, r_B_weighPiers_53, r_B_weighPiers_56, r_B_weighPiers_57, r_B_weighPiers_58, r_B_weighPiers_59, r_B_weighPiers_62, r_B_weighPiers_63, r_B_weighPiers_64, r_B_weighPiers_65, r_B_weighPiers_68, r_B_weighPiers_69, r_B_weighPiers_73, r_B_weighPiers_76, r_B_weighPiers_79, r_B_weighPiers_80, r_B_weighPiers_81, r_B_weighPiers_87, r_B_weighPiers_90, r_B_weighPiers_91, r_B_weighPiers_92, r_B_weighPiers_95, r_B_weighPiers_96, r_B_weighPiers_99, r_B_weighPiers_100, r_B_weighPiers_106, r_B_weighPiers_107, r_B_weighPiers_109, r_B_weighPiers_110, r_B_weighPiers_113, r_B_weighPiers_116, r_B_weighPiers_117, r_B_weighPiers_120, r_B_weighPiers_121, r_B_weighPiers_122, r_B_weighPiers_125, r_B_weighPiers_128, r_B_weighPiers_129, r_B_weighPiers_132, r_B_weighPiers_133, r_B_weighPiers_136, r_B_weighPiers_137, r_B_weighPiers_138, r_B_weighPiers_141, r_B_weighPiers_142, r_B_weighPiers_143, r_B_weighPiers_144, r_B_weighPiers_147, r_B_weighPiers_148, r_B_weighPiers_149, r_B_weighPiers_152, r_B_weighPiers_153, r_B_weighPiers_154, r_B_weighPiers_157, r_B_weighPiers_160, r_B_weighPiers_161, r_B_weighPiers_163, r_B_weighPiers_164, r_B_weighPiers_167, r_B_weighPiers_170, r_B_weighPiers_171, r_B_weighPiers_174, r_B_weighPiers_175, r_B_weighPiers_176, r_B_weighPiers_177, r_B_weighPiers_178, r_B_weighPiers_181, r_B_weighPiers_182, r_B_weighPiers_183, r_B_weighPiers_184, r_B_weighPiers_186, r_B_weighPiers_187, r_B_weighPiers_190, r_B_weighPiers_191, r_B_weighPiers_192, r_B_weighPiers_193, r_B_weighPiers_194, r_B_weighPiers_197, r_B_weighPiers_198, r_B_weighPiers_201, r_B_weighPiers_204, q0, q1, q2, q3, q4, q5, q6, q7, QP, w32_gb, w32i, tn_add, tn_mul, Int.toNat_natCast, Int.toNat_zero, Int.reduceLE, Int.reduceLT, Int.reduceEq, Int.reduceNe, gb_T, gb_F, Int.reduceToNat, eq_self, true_or, or_true, and_true, true_and, and_self, ↓ite_gb0, ↓ite_gbn, ↓if_pos, ↓if_neg, if_true, if_false, not_true_eq_false, not_false_eq_true, gb_ne0, gb_eq0]
          refine wloop (n := ((f 0).toNat + 1)) (I := fun k ls τ => ls = [vR b, vI a1, vI (k : Int)] ∧ (∀ p : Nat, (p : Int) ≤ f 0 → τ (b + 5) p = brS f p ∧ τ (b + 6) p = brW f p ∧ τ (b + 7) p = brsh f p (f 1).toNat) ∧ (∀ p : Nat, p < k → τ (b + 8) p = brpull f a1 p) ∧ Agr σ τ (ZSc b)) (fun k ls τ hk hi hq => ?_) (fun ls τ hi => ?_) ((f 0).toNat + 1) 0 (by omega) _ _ ⟨rfl, hz, fun p hp => by omega, hA⟩
          · obtain ⟨rfl, hy, hx, hA⟩ := hi
            have hcτ := CB_sc hw hc hA
            have d1 := hcτ.1
            have z := hy k (by omega)
            have bd := brS_bd hw k
            have m := mul_bd h bd.1
            rw [r_B_weighPiers_162]
            simp (disch := first | assumption | exact gb_01 _ | omega) only [r_B_weighPiers_0, r_B_weighPiers_1, r_B_weighPiers_3, r_B_weighPiers_4, r_B_weighPiers_7, r_B_weighPiers_10, r_B_weighPiers_11, r_B_weighPiers_14, r_B_weighPiers_15, r_B_weighPiers_16, r_B_weighPiers_17, r_B_weighPiers_18, r_B_weighPiers_21, r_B_weighPiers_22, r_B_weighPiers_23, r_B_weighPiers_24, r_B_weighPiers_25, r_B_weighPiers_28, r_B_weighPiers_29, r_B_weighPiers_30, r_B_weighPiers_31, r_B_weighPiers_34, r_B_weighPiers_37, r_B_weighPiers_38, r_B_weighPiers_40, r_B_weighPiers_41, r_B_weighPiers_44, r_B_weighPiers_47, r_B_weighPiers_48, r_B_weighPiers_51, r_B_weighPiers_52, r_B_weighPiers_53, r_B_weighPiers_56, r_B_weighPiers_57, r_B_weighPiers_58, r_B_weighPiers_59, r_B_weighPiers_62, r_B_weighPiers_63, r_B_weighPiers_64, r_B_weighPiers_65, r_B_weighPiers_68, r_B_weighPiers_69, r_B_weighPiers_73, r_B_weighPiers_76, r_B_weighPiers_79, r_B_weighPiers_80, r_B_weighPiers_81, r_B_weighPiers_87, r_B_weighPiers_90, r_B_weighPiers_91, r_B_weighPiers_92, r_B_weighPiers_95, r_B_weighPiers_96, r_B_weighPiers_99, r_B_weighPiers_100, r_B_weighPiers_106, r_B_weighPiers_107, r_B_weighPiers_109, r_B_weighPiers_110, r_B_weighPiers_113, r_B_weighPiers_116, r_B_weighPiers_117, r_B_weighPiers_120, r_B_weighPiers_121, r_B_weighPiers_122, r_B_weighPiers_125, r_B_weighPiers_128, r_B_weighPiers_129, r_B_weighPiers_132, r_B_weighPiers_133, r_B_weighPiers_136, r_B_weighPiers_137, r_B_weighPiers_138, r_B_weighPiers_141, r_B_weighPiers_142, r_B_weighPiers_143, r_B_weighPiers_144, r_B_weighPiers_147, r_B_weighPiers_148, r_B_weighPiers_149, r_B_weighPiers_152, r_B_weighPiers_153, r_B_weighPiers_154, r_B_weighPiers_157, r_B_weighPiers_160, r_B_weighPiers_161, r_B_weighPiers_163, r_B_weighPiers_164, r_B_weighPiers_167, r_B_weighPiers_170, r_B_weighPiers_171, r_B_weighPiers_174, r_B_weighPiers_175, r_B_weighPiers_176, r_B_weighPiers_177, r_B_weighPiers_178, r_B_weighPiers_181, r_B_weighPiers_182, r_B_weighPiers_183, r_B_weighPiers_184, r_B_weighPiers_186, r_B_weighPiers_187, r_B_weighPiers_190, r_B_weighPiers_191, r_B_weighPiers_192, r_B_weighPiers_193, r_B_weighPiers_194, r_B_weighPiers_197, r_B_weighPiers_198, r_B_weighPiers_201, r_B_weighPiers_204, q0, q1, q2, q3, q4, q5, q6, q7, QP, z, w32_gb, w32i, tn_add, tn_mul, Int.toNat_natCast, Int.toNat_zero, Int.reduceLE, Int.reduceLT, Int.reduceEq, Int.reduceNe, gb_T, gb_F, Int.reduceToNat, eq_self, true_or, or_true, and_true, true_and, and_self, ↓ite_gb0, ↓ite_gbn, ↓if_pos, ↓if_neg, if_true, if_false, not_true_eq_false, not_false_eq_true, gb_ne0, gb_eq0]
            refine hq _ _ ⟨by simp only [List.cons.injEq, vI_inj, vR_inj, and_true, true_and]; omega, fun p hp => ?_, fun p hp => ?_, Agr_upd hA (by unfold ZSc; omega)⟩
            · simp (disch := omega) only [gupd_ne]
              exact hy p hp
            · by_cases e : p = k
              · rw [e, gupd_eq]
                rfl
              · rw [gupd_ne (by omega)]
                exact hx p (by omega)
          · obtain ⟨rfl, hy, hx, hA⟩ := hi
            have hcτ := CB_sc hw hc hA
            have d1 := hcτ.1
            rw [r_B_weighPiers_162]
            simp (disch := first | assumption | exact gb_01 _ | omega) only [r_B_weighPiers_0, r_B_weighPiers_1, r_B_weighPiers_3, r_B_weighPiers_4, r_B_weighPiers_7, r_B_weighPiers_10, r_B_weighPiers_11, r_B_weighPiers_14, r_B_weighPiers_15, r_B_weighPiers_16, r_B_weighPiers_17, r_B_weighPiers_18, r_B_weighPiers_21, r_B_weighPiers_22, r_B_weighPiers_23, r_B_weighPiers_24, r_B_weighPiers_25, r_B_weighPiers_28, r_B_weighPiers_29, r_B_weighPiers_30, r_B_weighPiers_31, r_B_weighPiers_34, r_B_weighPiers_37, r_B_weighPiers_38, r_B_weighPiers_40, r_B_weighPiers_41, r_B_weighPiers_44, r_B_weighPiers_47, r_B_weighPiers_48, r_B_weighPiers_51, r_B_weighPiers_52, r_B_weighPiers_53, r_B_weighPiers_56, r_B_weighPiers_57, r_B_weighPiers_58, r_B_weighPiers_59, r_B_weighPiers_62, r_B_weighPiers_63, r_B_weighPiers_64, r_B_weighPiers_65, r_B_weighPiers_68, r_B_weighPiers_69, r_B_weighPiers_73, r_B_weighPiers_76, r_B_weighPiers_79, r_B_weighPiers_80, r_B_weighPiers_81, r_B_weighPiers_87, r_B_weighPiers_90, r_B_weighPiers_91, r_B_weighPiers_92, r_B_weighPiers_95, r_B_weighPiers_96, r_B_weighPiers_99, r_B_weighPiers_100, r_B_weighPiers_106, r_B_weighPiers_107, r_B_weighPiers_109, r_B_weighPiers_110, r_B_weighPiers_113, r_B_weighPiers_116, r_B_weighPiers_117, r_B_weighPiers_120, r_B_weighPiers_121, r_B_weighPiers_122, r_B_weighPiers_125, r_B_weighPiers_128, r_B_weighPiers_129, r_B_weighPiers_132, r_B_weighPiers_133, r_B_weighPiers_136, r_B_weighPiers_137, r_B_weighPiers_138, r_B_weighPiers_141, r_B_weighPiers_142, r_B_weighPiers_143, r_B_weighPiers_144, r_B_weighPiers_147, r_B_weighPiers_148, r_B_weighPiers_149, r_B_weighPiers_152, r_B_weighPiers_153, r_B_weighPiers_154, r_B_weighPiers_157, r_B_weighPiers_160, r_B_weighPiers_161, r_B_weighPiers_163, r_B_weighPiers_164, r_B_weighPiers_167, r_B_weighPiers_170, r_B_weighPiers_171, r_B_weighPiers_174, r_B_weighPiers_175, r_B_weighPiers_176, r_B_weighPiers_177, r_B_weighPiers_178, r_B_weighPiers_181, r_B_weighPiers_182, r_B_weighPiers_183, r_B_weighPiers_184, r_B_weighPiers_186, r_B_weighPiers_187, r_B_weighPiers_190, r_B_weighPiers_191, r_B_weighPiers_192, r_B_weighPiers_193, r_B_weighPiers_194, r_B_weighPiers_197, r_B_weighPiers_198, r_B_weighPiers_201, r_B_weighPiers_204, q0, q1, q2, q3, q4, q5, q6, q7, QP, w32_gb, w32i, tn_add, tn_mul, Int.toNat_natCast, Int.toNat_zero, Int.reduceLE, Int.reduceLT, Int.reduceEq, Int.reduceNe, gb_T, gb_F, Int.reduceToNat, eq_self, true_or, or_true, and_true, true_and, and_self, ↓ite_gb0, ↓ite_gbn, ↓if_pos, ↓if_neg, if_true, if_false, not_true_eq_false, not_false_eq_true, gb_ne0, gb_eq0]
            exact ⟨fun p hp => ⟨(hy p hp).1, (hy p hp).2.1, (hy p hp).2.2, hx p (by omega)⟩, hA⟩
      · have eu : ¬ ((0 ≤ τ b 12 ∧ τ b 12 < τ b 8) ∧ τ (b + 3) (τ b 12).toNat = 0) := by
          intro x
          have s := (hcτ.2.2.1 (τ b 12).toNat (by omega)).2.2
          by_cases x2 : f 11 < 0
          · rw [if_pos x2] at d7
            omega
          · rw [if_neg x2] at d7
            rw [d7, d1] at x
            rw [d7] at s
            omega
        simp (disch := first | assumption | exact gb_01 _ | omega) only [r_B_weighPiers_0, r_B_weighPiers_1, r_B_weighPiers_3, r_B_weighPiers_4, r_B_weighPiers_7, r_B_weighPiers_10, r_B_weighPiers_11, r_B_weighPiers_14, r_B_weighPiers_15, r_B_weighPiers_16, r_B_weighPiers_17, r_B_weighPiers_18, r_B_weighPiers_21, r_B_weighPiers_22, r_B_weighPiers_23, r_B_weighPiers_24, r_B_weighPiers_25, r_B_weighPiers_28, r_B_weighPiers_29, r_B_weighPiers_30, r_B_weighPiers_31, r_B_weighPiers_34, r_B_weighPiers_37, r_B_weighPiers_38, r_B_weighPiers_40, r_B_weighPiers_41, r_B_weighPiers_44, r_B_weighPiers_47, r_B_weighPiers_48, r_B_weighPiers_51, r_B_weighPiers_52, r_B_weighPiers_53, r_B_weighPiers_56, r_B_weighPiers_57, r_B_weighPiers_58, r_B_weighPiers_59, r_B_weighPiers_62, r_B_weighPiers_63, r_B_weighPiers_64, r_B_weighPiers_65, r_B_weighPiers_68, r_B_weighPiers_69, r_B_weighPiers_73, r_B_weighPiers_76, r_B_weighPiers_79, r_B_weighPiers_80, r_B_weighPiers_81, r_B_weighPiers_87, r_B_weighPiers_90, r_B_weighPiers_91, r_B_weighPiers_92, r_B_weighPiers_95, r_B_weighPiers_96, r_B_weighPiers_99, r_B_weighPiers_100, r_B_weighPiers_106, r_B_weighPiers_107, r_B_weighPiers_109, r_B_weighPiers_110, r_B_weighPiers_113, r_B_weighPiers_116, r_B_weighPiers_117, r_B_weighPiers_120, r_B_weighPiers_121, r_B_weighPiers_122, r_B_weighPiers_125, r_B_weighPiers_128, r_B_weighPiers_129, r_B_weighPiers_132, r_B_weighPiers_133, r_B_weighPiers_136, r_B_weighPiers_137, r_B_weighPiers_138, r_B_weighPiers_141, r_B_weighPiers_142, r_B_weighPiers_143, r_B_weighPiers_144, r_B_weighPiers_147, r_B_weighPiers_148, r_B_weighPiers_149, r_B_weighPiers_152, r_B_weighPiers_153, r_B_weighPiers_154, r_B_weighPiers_157, r_B_weighPiers_160, r_B_weighPiers_161, r_B_weighPiers_163, r_B_weighPiers_164, r_B_weighPiers_167, r_B_weighPiers_170, r_B_weighPiers_171, r_B_weighPiers_174, r_B_weighPiers_175, r_B_weighPiers_176, r_B_weighPiers_177, r_B_weighPiers_178, r_B_weighPiers_181, r_B_weighPiers_182, r_B_weighPiers_183, r_B_weighPiers_184, r_B_weighPiers_186, r_B_weighPiers_187, r_B_weighPiers_190, r_B_weighPiers_191, r_B_weighPiers_192, r_B_weighPiers_193, r_B_weighPiers_194, r_B_weighPiers_197, r_B_weighPiers_198, r_B_weighPiers_201, r_B_weighPiers_204, c_B_weighPiers_84 hU, Option.toList, List.singleton_append, List.cons_append, List.nil_append, List.append_nil, q0, q1, q2, q3, q4, q5, q6, q7, QP, w32_gb, w32i, tn_add, tn_mul, Int.toNat_natCast, Int.toNat_zero, Int.reduceLE, Int.reduceLT, Int.reduceEq, Int.reduceNe, gb_T, gb_F, Int.reduceToNat, eq_self, true_or, or_true, and_true, true_and, and_self, ↓ite_gb0, ↓ite_gbn, ↓if_pos, ↓if_neg, if_true, if_false, not_true_eq_false, not_false_eq_true, gb_ne0, gb_eq0]
        have hz : ∀ p : Nat, (p : Int) ≤ f 0 → τ (b + 5) p = brS f p ∧ τ (b + 6) p = brW f p ∧ τ (b + 7) p = brsh f p 0 := fun p hp => by
          have y := hz p hp
          unfold brS brW brtr
          rw [y.1, y.2.1, if_neg e, if_neg e, y.2.2, Int.add_zero, Int.add_zero]
          exact ⟨rfl, rfl, rfl⟩
        refine wloop (n := (f 1).toNat) (I := fun k ls τ => ls = [vR b, vI a1, vI (k : Int)] ∧ (∀ p : Nat, (p : Int) ≤ f 0 → τ (b + 5) p = brS f p ∧ τ (b + 6) p = brW f p ∧ τ (b + 7) p = brsh f p k) ∧ Agr σ τ (ZSc b)) (fun k ls τ hk hi hq => ?_) (fun ls τ hi => ?_) (f 1).toNat 0 (by omega) _ _ ⟨rfl, hz, hA⟩
        · obtain ⟨rfl, hz, hA⟩ := hi
          have hcτ := CB_sc hw hc hA
          have d1 := hcτ.1
          have d2 := hcτ.2.1
          have p := CBp hcτ (p := k) (by omega)
          have w := WBp hw (p := k) (by omega)
          have kp := KP k (by omega)
          have z := (hz (f (120 + 12 * k + 1)).toNat (by omega)).2.2
          rw [show (((f (120 + 12 * k + 1)).toNat : Nat) : Int) = f (120 + 12 * k + 1) by omega] at z
          have bd := brsh_bd hw (f (120 + 12 * k + 1)) k (by omega)
          rw [r_B_weighPiers_108]
          by_cases e : f (120 + 12 * k + 8) = 1
          · simp (disch := first | assumption | exact gb_01 _ | omega) only [r_B_weighPiers_0, r_B_weighPiers_1, r_B_weighPiers_3, r_B_weighPiers_4, r_B_weighPiers_7, r_B_weighPiers_10, r_B_weighPiers_11, r_B_weighPiers_14, r_B_weighPiers_15, r_B_weighPiers_16, r_B_weighPiers_17, r_B_weighPiers_18, r_B_weighPiers_21, r_B_weighPiers_22, r_B_weighPiers_23, r_B_weighPiers_24, r_B_weighPiers_25, r_B_weighPiers_28, r_B_weighPiers_29, r_B_weighPiers_30, r_B_weighPiers_31, r_B_weighPiers_34, r_B_weighPiers_37, r_B_weighPiers_38, r_B_weighPiers_40, r_B_weighPiers_41, r_B_weighPiers_44, r_B_weighPiers_47, r_B_weighPiers_48, r_B_weighPiers_51, r_B_weighPiers_52, r_B_weighPiers_53, r_B_weighPiers_56, r_B_weighPiers_57, r_B_weighPiers_58, r_B_weighPiers_59, r_B_weighPiers_62, r_B_weighPiers_63, r_B_weighPiers_64, r_B_weighPiers_65, r_B_weighPiers_68, r_B_weighPiers_69, r_B_weighPiers_73, r_B_weighPiers_76, r_B_weighPiers_79, r_B_weighPiers_80, r_B_weighPiers_81, r_B_weighPiers_87, r_B_weighPiers_90, r_B_weighPiers_91, r_B_weighPiers_92, r_B_weighPiers_95, r_B_weighPiers_96, r_B_weighPiers_99, r_B_weighPiers_100, r_B_weighPiers_106, r_B_weighPiers_107, r_B_weighPiers_109, r_B_weighPiers_110, r_B_weighPiers_113, r_B_weighPiers_116, r_B_weighPiers_117, r_B_weighPiers_120, r_B_weighPiers_121, r_B_weighPiers_122, r_B_weighPiers_125, r_B_weighPiers_128, r_B_weighPiers_129, r_B_weighPiers_132, r_B_weighPiers_133, r_B_weighPiers_136, r_B_weighPiers_137, r_B_weighPiers_138, r_B_weighPiers_141, r_B_weighPiers_142, r_B_weighPiers_143, r_B_weighPiers_144, r_B_weighPiers_147, r_B_weighPiers_148, r_B_weighPiers_149, r_B_weighPiers_152, r_B_weighPiers_153, r_B_weighPiers_154, r_B_weighPiers_157, r_B_weighPiers_160, r_B_weighPiers_161, r_B_weighPiers_163, r_B_weighPiers_164, r_B_weighPiers_167, r_B_weighPiers_170, r_B_weighPiers_171, r_B_weighPiers_174, r_B_weighPiers_175, r_B_weighPiers_176, r_B_weighPiers_177, r_B_weighPiers_178, r_B_weighPiers_181, r_B_weighPiers_182, r_B_weighPiers_183, r_B_weighPiers_184, r_B_weighPiers_186, r_B_weighPiers_187, r_B_weighPiers_190, r_B_weighPiers_191, r_B_weighPiers_192, r_B_weighPiers_193, r_B_weighPiers_194, r_B_weighPiers_197, r_B_weighPiers_198, r_B_weighPiers_201, r_B_weighPiers_204, q0, q1, q2, q3, q4, q5, q6, q7, QP, p, z, w32_gb, w32i, tn_add, tn_mul, Int.toNat_natCast, Int.toNat_zero, Int.reduceLE, Int.reduceLT, Int.reduceEq, Int.reduceNe, gb_T, gb_F, Int.reduceToNat, eq_self, true_or, or_true, and_true, true_and, and_self, ↓ite_gb0, ↓ite_gbn, ↓if_pos, ↓if_neg, if_true, if_false, not_true_eq_false, not_false_eq_true, gb_ne0, gb_eq0]
            refine hq _ _ ⟨by simp only [List.cons.injEq, vI_inj, vR_inj, and_true, true_and]; omega, fun q hq => ?_, Agr_upd hA (by unfold ZSc; omega)⟩
            have y := hz q hq
            refine ⟨by rw [gupd_ne (by omega)]; exact y.1, by rw [gupd_ne (by omega)]; exact y.2.1, ?_⟩
            by_cases e2 : f (120 + 12 * k + 1) = q
            · rw [show (f (120 + 12 * k + 1)).toNat = q by omega, gupd_eq]
              simp only [brsh, gsm]
              rw [if_pos ⟨e, e2⟩]
              rw [← e2]
            · rw [gupd_ne (by omega), y.2.2]
              simp only [brsh, gsm]
              rw [if_neg (fun x => e2 x.2)]
              omega
          · simp (disch := first | assumption | exact gb_01 _ | omega) only [r_B_weighPiers_0, r_B_weighPiers_1, r_B_weighPiers_3, r_B_weighPiers_4, r_B_weighPiers_7, r_B_weighPiers_10, r_B_weighPiers_11, r_B_weighPiers_14, r_B_weighPiers_15, r_B_weighPiers_16, r_B_weighPiers_17, r_B_weighPiers_18, r_B_weighPiers_21, r_B_weighPiers_22, r_B_weighPiers_23, r_B_weighPiers_24, r_B_weighPiers_25, r_B_weighPiers_28, r_B_weighPiers_29, r_B_weighPiers_30, r_B_weighPiers_31, r_B_weighPiers_34, r_B_weighPiers_37, r_B_weighPiers_38, r_B_weighPiers_40, r_B_weighPiers_41, r_B_weighPiers_44, r_B_weighPiers_47, r_B_weighPiers_48, r_B_weighPiers_51, r_B_weighPiers_52, r_B_weighPiers_53, r_B_weighPiers_56, r_B_weighPiers_57, r_B_weighPiers_58, r_B_weighPiers_59, r_B_weighPiers_62, r_B_weighPiers_63, r_B_weighPiers_64, r_B_weighPiers_65, r_B_weighPiers_68, r_B_weighPiers_69, r_B_weighPiers_73, r_B_weighPiers_76, r_B_weighPiers_79, r_B_weighPiers_80, r_B_weighPiers_81, r_B_weighPiers_87, r_B_weighPiers_90, r_B_weighPiers_91, r_B_weighPiers_92, r_B_weighPiers_95, r_B_weighPiers_96, r_B_weighPiers_99, r_B_weighPiers_100, r_B_weighPiers_106, r_B_weighPiers_107, r_B_weighPiers_109, r_B_weighPiers_110, r_B_weighPiers_113, r_B_weighPiers_116, r_B_weighPiers_117, r_B_weighPiers_120, r_B_weighPiers_121, r_B_weighPiers_122, r_B_weighPiers_125, r_B_weighPiers_128, r_B_weighPiers_129, r_B_weighPiers_132, r_B_weighPiers_133, r_B_weighPiers_136, r_B_weighPiers_137, r_B_weighPiers_138, r_B_weighPiers_141, r_B_weighPiers_142, r_B_weighPiers_143, r_B_weighPiers_144, r_B_weighPiers_147, r_B_weighPiers_148, r_B_weighPiers_149, r_B_weighPiers_152, r_B_weighPiers_153, r_B_weighPiers_154, r_B_weighPiers_157, r_B_weighPiers_160, r_B_weighPiers_161, r_B_weighPiers_163, r_B_weighPiers_164, r_B_weighPiers_167, r_B_weighPiers_170, r_B_weighPiers_171, r_B_weighPiers_174, r_B_weighPiers_175, r_B_weighPiers_176, r_B_weighPiers_177, r_B_weighPiers_178, r_B_weighPiers_181, r_B_weighPiers_182, r_B_weighPiers_183, r_B_weighPiers_184, r_B_weighPiers_186, r_B_weighPiers_187, r_B_weighPiers_190, r_B_weighPiers_191, r_B_weighPiers_192, r_B_weighPiers_193, r_B_weighPiers_194, r_B_weighPiers_197, r_B_weighPiers_198, r_B_weighPiers_201, r_B_weighPiers_204, q0, q1, q2, q3, q4, q5, q6, q7, QP, p, z, w32_gb, w32i, tn_add, tn_mul, Int.toNat_natCast, Int.toNat_zero, Int.reduceLE, Int.reduceLT, Int.reduceEq, Int.reduceNe, gb_T, gb_F, Int.reduceToNat, eq_self, true_or, or_true, and_true, true_and, and_self, ↓ite_gb0, ↓ite_gbn, ↓if_pos, ↓if_neg, if_true, if_false, not_true_eq_false, not_false_eq_true, gb_ne0, gb_eq0]
            refine hq _ _ ⟨by simp only [List.cons.injEq, vI_inj, vR_inj, and_true, true_and]; omega, fun q hq => ?_, hA⟩
            have y := hz q hq
            refine ⟨y.1, y.2.1, ?_⟩
            rw [y.2.2]
            simp only [brsh, gsm]
            rw [if_neg (fun x => e x.1)]
            omega
        · obtain ⟨rfl, hz, hA⟩ := hi
          have hcτ := CB_sc hw hc hA
          have d2 := hcτ.2.1
          rw [r_B_weighPiers_108]
          simp (disch := first | assumption | exact gb_01 _ | omega) only [r_B_weighPiers_0, r_B_weighPiers_1, r_B_weighPiers_3, r_B_weighPiers_4, r_B_weighPiers_7, r_B_weighPiers_10, r_B_weighPiers_11, r_B_weighPiers_14, r_B_weighPiers_15, r_B_weighPiers_16, r_B_weighPiers_17, r_B_weighPiers_18, r_B_weighPiers_21, r_B_weighPiers_22, r_B_weighPiers_23, r_B_weighPiers_24, r_B_weighPiers_25, r_B_weighPiers_28, r_B_weighPiers_29, r_B_weighPiers_30, r_B_weighPiers_31, r_B_weighPiers_34, r_B_weighPiers_37, r_B_weighPiers_38, r_B_weighPiers_40, r_B_weighPiers_41, r_B_weighPiers_44, r_B_weighPiers_47, r_B_weighPiers_48, r_B_weighPiers_51, r_B_weighPiers_52, r_B_weighPiers_53, r_B_weighPiers_56, r_B_weighPiers_57, r_B_weighPiers_58, r_B_weighPiers_59, r_B_weighPiers_62, r_B_weighPiers_63, r_B_weighPiers_64, r_B_weighPiers_65, r_B_weighPiers_68, r_B_weighPiers_69, r_B_weighPiers_73, r_B_weighPiers_76, r_B_weighPiers_79, r_B_weighPiers_80, r_B_weighPiers_81, r_B_weighPiers_87, r_B_weighPiers_90, r_B_weighPiers_91, r_B_weighPiers_92, r_B_weighPiers_95, r_B_weighPiers_96, r_B_weighPiers_99, r_B_weighPiers_100, r_B_weighPiers_106, r_B_weighPiers_107, r_B_weighPiers_109, r_B_weighPiers_110, r_B_weighPiers_113, r_B_weighPiers_116, r_B_weighPiers_117, r_B_weighPiers_120, r_B_weighPiers_121, r_B_weighPiers_122, r_B_weighPiers_125, r_B_weighPiers_128, r_B_weighPiers_129, r_B_weighPiers_132, r_B_weighPiers_133, r_B_weighPiers_136, r_B_weighPiers_137, r_B_weighPiers_138, r_B_weighPiers_141, r_B_weighPiers_142, r_B_weighPiers_143, r_B_weighPiers_144, r_B_weighPiers_147, r_B_weighPiers_148, r_B_weighPiers_149, r_B_weighPiers_152, r_B_weighPiers_153, r_B_weighPiers_154, r_B_weighPiers_157, r_B_weighPiers_160, r_B_weighPiers_161, r_B_weighPiers_163, r_B_weighPiers_164, r_B_weighPiers_167, r_B_weighPiers_170, r_B_weighPiers_171, r_B_weighPiers_174, r_B_weighPiers_175, r_B_weighPiers_176, r_B_weighPiers_177, r_B_weighPiers_178, r_B_weighPiers_181, r_B_weighPiers_182, r_B_weighPiers_183, r_B_weighPiers_184, r_B_weighPiers_186, r_B_weighPiers_187, r_B_weighPiers_190, r_B_weighPiers_191, r_B_weighPiers_192, r_B_weighPiers_193, r_B_weighPiers_194, r_B_weighPiers_197, r_B_weighPiers_198, r_B_weighPiers_201, r_B_weighPiers_204, q0, q1, q2, q3, q4, q5, q6, q7, QP, w32_gb, w32i, tn_add, tn_mul, Int.toNat_natCast, Int.toNat_zero, Int.reduceLE, Int.reduceLT, Int.reduceEq, Int.reduceNe, gb_T, gb_F, Int.reduceToNat, eq_self, true_or, or_true, and_true, true_and, and_self, ↓ite_gb0, ↓ite_gbn, ↓if_pos, ↓if_neg, if_true, if_false, not_true_eq_false, not_false_eq_true, gb_ne0, gb_eq0]
          refine wloop (n := ((f 0).toNat + 1)) (I := fun k ls τ => ls = [vR b, vI a1, vI (k : Int)] ∧ (∀ p : Nat, (p : Int) ≤ f 0 → τ (b + 5) p = brS f p ∧ τ (b + 6) p = brW f p ∧ τ (b + 7) p = brsh f p (f 1).toNat) ∧ (∀ p : Nat, p < k → τ (b + 8) p = brpull f a1 p) ∧ Agr σ τ (ZSc b)) (fun k ls τ hk hi hq => ?_) (fun ls τ hi => ?_) ((f 0).toNat + 1) 0 (by omega) _ _ ⟨rfl, hz, fun p hp => by omega, hA⟩
          · obtain ⟨rfl, hy, hx, hA⟩ := hi
            have hcτ := CB_sc hw hc hA
            have d1 := hcτ.1
            have z := hy k (by omega)
            have bd := brS_bd hw k
            have m := mul_bd h bd.1
            rw [r_B_weighPiers_162]
            simp (disch := first | assumption | exact gb_01 _ | omega) only [r_B_weighPiers_0, r_B_weighPiers_1, r_B_weighPiers_3, r_B_weighPiers_4, r_B_weighPiers_7, r_B_weighPiers_10, r_B_weighPiers_11, r_B_weighPiers_14, r_B_weighPiers_15, r_B_weighPiers_16, r_B_weighPiers_17, r_B_weighPiers_18, r_B_weighPiers_21, r_B_weighPiers_22, r_B_weighPiers_23, r_B_weighPiers_24, r_B_weighPiers_25, r_B_weighPiers_28, r_B_weighPiers_29, r_B_weighPiers_30, r_B_weighPiers_31, r_B_weighPiers_34, r_B_weighPiers_37, r_B_weighPiers_38, r_B_weighPiers_40, r_B_weighPiers_41, r_B_weighPiers_44, r_B_weighPiers_47, r_B_weighPiers_48, r_B_weighPiers_51, r_B_weighPiers_52, r_B_weighPiers_53, r_B_weighPiers_56, r_B_weighPiers_57, r_B_weighPiers_58, r_B_weighPiers_59, r_B_weighPiers_62, r_B_weighPiers_63, r_B_weighPiers_64, r_B_weighPiers_65, r_B_weighPiers_68, r_B_weighPiers_69, r_B_weighPiers_73, r_B_weighPiers_76, r_B_weighPiers_79, r_B_weighPiers_80, r_B_weighPiers_81, r_B_weighPiers_87, r_B_weighPiers_90, r_B_weighPiers_91, r_B_weighPiers_92, r_B_weighPiers_95, r_B_weighPiers_96, r_B_weighPiers_99, r_B_weighPiers_100, r_B_weighPiers_106, r_B_weighPiers_107, r_B_weighPiers_109, r_B_weighPiers_110, r_B_weighPiers_113, r_B_weighPiers_116, r_B_weighPiers_117, r_B_weighPiers_120, r_B_weighPiers_121, r_B_weighPiers_122, r_B_weighPiers_125, r_B_weighPiers_128, r_B_weighPiers_129, r_B_weighPiers_132, r_B_weighPiers_133, r_B_weighPiers_136, r_B_weighPiers_137, r_B_weighPiers_138, r_B_weighPiers_141, r_B_weighPiers_142, r_B_weighPiers_143, r_B_weighPiers_144, r_B_weighPiers_147, r_B_weighPiers_148, r_B_weighPiers_149, r_B_weighPiers_152, r_B_weighPiers_153, r_B_weighPiers_154, r_B_weighPiers_157, r_B_weighPiers_160, r_B_weighPiers_161, r_B_weighPiers_163, r_B_weighPiers_164, r_B_weighPiers_167, r_B_weighPiers_170, r_B_weighPiers_171, r_B_weighPiers_174, r_B_weighPiers_175, r_B_weighPiers_176, r_B_weighPiers_177, r_B_weighPiers_178, r_B_weighPiers_181, r_B_weighPiers_182, r_B_weighPiers_183, r_B_weighPiers_184, r_B_weighPiers_186, r_B_weighPiers_187, r_B_weighPiers_190, r_B_weighPiers_191, r_B_weighPiers_192, r_B_weighPiers_193, r_B_weighPiers_194, r_B_weighPiers_197, r_B_weighPiers_198, r_B_weighPiers_201, r_B_weighPiers_204, q0, q1, q2, q3, q4, q5, q6, q7, QP, z, w32_gb, w32i, tn_add, tn_mul, Int.toNat_natCast, Int.toNat_zero, Int.reduceLE, Int.reduceLT, Int.reduceEq, Int.reduceNe, gb_T, gb_F, Int.reduceToNat, eq_self, true_or, or_true, and_true, true_and, and_self, ↓ite_gb0, ↓ite_gbn, ↓if_pos, ↓if_neg, if_true, if_false, not_true_eq_false, not_false_eq_true, gb_ne0, gb_eq0]
            refine hq _ _ ⟨by simp only [List.cons.injEq, vI_inj, vR_inj, and_true, true_and]; omega, fun p hp => ?_, fun p hp => ?_, Agr_upd hA (by unfold ZSc; omega)⟩
            · simp (disch := omega) only [gupd_ne]
              exact hy p hp
            · by_cases e : p = k
              · rw [e, gupd_eq]
                rfl
              · rw [gupd_ne (by omega)]
                exact hx p (by omega)
          · obtain ⟨rfl, hy, hx, hA⟩ := hi
            have hcτ := CB_sc hw hc hA
            have d1 := hcτ.1
            rw [r_B_weighPiers_162]
            simp (disch := first | assumption | exact gb_01 _ | omega) only [r_B_weighPiers_0, r_B_weighPiers_1, r_B_weighPiers_3, r_B_weighPiers_4, r_B_weighPiers_7, r_B_weighPiers_10, r_B_weighPiers_11, r_B_weighPiers_14, r_B_weighPiers_15, r_B_weighPiers_16, r_B_weighPiers_17, r_B_weighPiers_18, r_B_weighPiers_21, r_B_weighPiers_22, r_B_weighPiers_23, r_B_weighPiers_24, r_B_weighPiers_25, r_B_weighPiers_28, r_B_weighPiers_29, r_B_weighPiers_30, r_B_weighPiers_31, r_B_weighPiers_34, r_B_weighPiers_37, r_B_weighPiers_38, r_B_weighPiers_40, r_B_weighPiers_41, r_B_weighPiers_44, r_B_weighPiers_47, r_B_weighPiers_48, r_B_weighPiers_51, r_B_weighPiers_52, r_B_weighPiers_53, r_B_weighPiers_56, r_B_weighPiers_57, r_B_weighPiers_58, r_B_weighPiers_59, r_B_weighPiers_62, r_B_weighPiers_63, r_B_weighPiers_64, r_B_weighPiers_65, r_B_weighPiers_68, r_B_weighPiers_69, r_B_weighPiers_73, r_B_weighPiers_76, r_B_weighPiers_79, r_B_weighPiers_80, r_B_weighPiers_81, r_B_weighPiers_87, r_B_weighPiers_90, r_B_weighPiers_91, r_B_weighPiers_92, r_B_weighPiers_95, r_B_weighPiers_96, r_B_weighPiers_99, r_B_weighPiers_100, r_B_weighPiers_106, r_B_weighPiers_107, r_B_weighPiers_109, r_B_weighPiers_110, r_B_weighPiers_113, r_B_weighPiers_116, r_B_weighPiers_117, r_B_weighPiers_120, r_B_weighPiers_121, r_B_weighPiers_122, r_B_weighPiers_125, r_B_weighPiers_128, r_B_weighPiers_129, r_B_weighPiers_132, r_B_weighPiers_133, r_B_weighPiers_136, r_B_weighPiers_137, r_B_weighPiers_138, r_B_weighPiers_141, r_B_weighPiers_142, r_B_weighPiers_143, r_B_weighPiers_144, r_B_weighPiers_147, r_B_weighPiers_148, r_B_weighPiers_149, r_B_weighPiers_152, r_B_weighPiers_153, r_B_weighPiers_154, r_B_weighPiers_157, r_B_weighPiers_160, r_B_weighPiers_161, r_B_weighPiers_163, r_B_weighPiers_164, r_B_weighPiers_167, r_B_weighPiers_170, r_B_weighPiers_171, r_B_weighPiers_174, r_B_weighPiers_175, r_B_weighPiers_176, r_B_weighPiers_177, r_B_weighPiers_178, r_B_weighPiers_181, r_B_weighPiers_182, r_B_weighPiers_183, r_B_weighPiers_184, r_B_weighPiers_186, r_B_weighPiers_187, r_B_weighPiers_190, r_B_weighPiers_191, r_B_weighPiers_192, r_B_weighPiers_193, r_B_weighPiers_194, r_B_weighPiers_197, r_B_weighPiers_198, r_B_weighPiers_201, r_B_weighPiers_204, q0, q1, q2, q3, q4, q5, q6, q7, QP, w32_gb, w32i, tn_add, tn_mul, Int.toNat_natCast, Int.toNat_zero, Int.reduceLE, Int.reduceLT, Int.reduceEq, Int.reduceNe, gb_T, gb_F, Int.reduceToNat, eq_self, true_or, or_true, and_true, true_and, and_self, ↓ite_gb0, ↓ite_gbn, ↓if_pos, ↓if_neg, if_true, if_false, not_true_eq_false, not_false_eq_true, gb_ne0, gb_eq0]
            exact ⟨fun p hp => ⟨(hy p hp).1, (hy p hp).2.1, (hy p hp).2.2, hx p (by omega)⟩, hA⟩
