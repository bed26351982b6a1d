/-! Stories: the class. -/
variable {L d : Nat} {σ σ1 : Nat → Nat → Int} {Q : Option gV → (Nat → Nat → Int) → Prop} {a0 a1 a2 a3 a4 a5 a6 a7 a8 a9 a10 a11 s0 s1 s2 s3 s4 s5 s6 s7 s8 s9 : Int} {l0 l1 l2 l3 l4 l5 l6 l7 l8 l9 l10 l11 t0 t1 t2 t3 t4 t5 t6 t7 t8 t9 : gV} {b0 b1 b2 b3 b4 b5 b6 b7 b8 b9 b10 b11 c0 c1 c2 c3 c4 c5 c6 c7 c8 c9 : Nat} {r : Option gV}
theorem gand_assoc (a b c : Int) : gand (gand a b) c = gand a (gand b c) := by
  unfold gand
  rw [Int32.ofInt_toInt, Int32.ofInt_toInt, Int32.and_assoc]
theorem gand_comm (a b : Int) : gand a b = gand b a := by
  unfold gand
  rw [Int32.and_comm]
theorem gand_le {a b : Int} (h : 0 ≤ a ∧ a < 2147483648) : 0 ≤ gand a b ∧ gand a b ≤ a := by
  unfold gand
  have e : (Int32.ofInt a).toBitVec.toNat = a.toNat := by
    rw [Int32.toBitVec_ofInt, BitVec.toNat_ofInt]
    omega
  have x : (Int32.ofInt a &&& Int32.ofInt b).toBitVec.toNat ≤ a.toNat := by
    rw [Int32.toBitVec_and, BitVec.toNat_and, ← e]
    exact Nat.and_le_left
  have h2 : (Int32.ofInt a &&& Int32.ofInt b).toInt = (Int32.ofInt a &&& Int32.ofInt b).toBitVec.toInt := rfl
  rw [h2, BitVec.toInt_eq_toNat_cond]
  split <;> omega
theorem gshr_and (a b s : Int) : gshr (gand a b) s = gand (gshr a s) (gshr b s) := by
  unfold gshr gand
  rw [Int32.ofInt_toInt, Int32.ofInt_toInt, Int32.ofInt_toInt]
  refine congrArg Int32.toInt (Int32.toBitVec_inj.1 ?_)
  simp only [Int32.toBitVec_shiftRight, Int32.toBitVec_and, BitVec.sshiftRight_eq', BitVec.sshiftRight_and_distrib]
theorem gbt_and (a b s : Int) : gbt (gand a b) s = gand (gbt a s) (gbt b s) := by
  unfold gbt
  rw [gshr_and]
  generalize gshr a s = p
  generalize gshr b s = q
  rw [gand_assoc p 1, gand_comm 1, gand_assoc q 1 1, show gand 1 1 = 1 by decide, gand_assoc]
theorem gbt_b (x s : Int) : gbt x s = 0 ∨ gbt x s = 1 := gand_1 _
theorem gand_b {a b : Int} (ha : a = 0 ∨ a = 1) (hb : b = 0 ∨ b = 1) : gand a b = gb (a = 1 ∧ b = 1) := by
  rcases ha with rfl | rfl <;> rcases hb with rfl | rfl <;> decide
def kc (b : Nat → Int) (s : Nat) : Int := if b s = 1 then 255 else gxor (gshl 1 (s : Int)) (-1)
def kchb (b : Nat → Int) (x : Int) : Nat → Int
  | 0 => x
  | s + 1 => gand (kchb b x s) (kc b s)
def ltb (b : Nat → Int) : Nat → Int
  | 0 => 0
  | i + 1 => gor (ltb b i) (gshl (b i) (i : Int))
def bitsP (P : Nat) (s : Nat) : Int := ((P / 2 ^ s % 2 : Nat) : Int)
theorem ltb_P : ∀ P : Nat, P < 256 → ltb (bitsP P) 8 = (P : Int) := by decide +kernel
theorem g255 : ∀ x : Nat, x < 256 → gand (x : Int) 255 = (x : Int) := by decide +kernel
theorem kc_P : ∀ P : Nat, P < 256 → gand 255 (gand (kc (bitsP P) 0) (gand (kc (bitsP P) 1) (gand (kc (bitsP P) 2) (gand (kc (bitsP P) 3) (gand (kc (bitsP P) 4) (gand (kc (bitsP P) 5) (gand (kc (bitsP P) 6) (kc (bitsP P) 7)))))))) = (P : Int) := by decide +kernel
theorem gbt_P : ∀ P : Nat, P < 256 → ∀ s : Nat, s < 8 → gbt (P : Int) (s : Int) = bitsP P s := by decide +kernel
theorem bitsn : ∀ (n : Nat) {b : Nat → Int}, (∀ s, b s = 0 ∨ b s = 1) → ∃ P : Nat, P < 2 ^ n ∧ ∀ s, s < n → b s = bitsP P s
  | 0, b, _ => ⟨0, by decide, fun s hs => by omega⟩
  | n + 1, b, h => by
    obtain ⟨Q, hQ, e⟩ := bitsn n (b := fun s => b (s + 1)) (fun s => h (s + 1))
    have h0 := h 0
    refine ⟨(b 0).toNat + 2 * Q, by rw [Nat.pow_succ]; omega, fun s hs => ?_⟩
    cases s with
    | zero =>
      unfold bitsP
      rw [Nat.pow_zero, Nat.div_one]
      omega
    | succ s =>
      have x := e s (by omega)
      unfold bitsP at x ⊢
      rw [Nat.pow_succ, Nat.mul_comm (2 ^ s) 2, ← Nat.div_div_eq_div_mul, show ((b 0).toNat + 2 * Q) / 2 = Q by omega]
      exact x
theorem bits8 {b : Nat → Int} (h : ∀ s, b s = 0 ∨ b s = 1) : ∃ P : Nat, P < 256 ∧ ∀ s, s < 8 → b s = bitsP P s := bitsn 8 h
theorem ltb_congr {b c : Nat → Int} : ∀ n, (∀ s, s < n → b s = c s) → ltb b n = ltb c n
  | 0, _ => rfl
  | n + 1, h => by
    unfold ltb
    rw [ltb_congr n (fun s hs => h s (by omega)), h n (by omega)]
theorem kchb_congr {b c : Nat → Int} {x : Int} : ∀ n, (∀ s, s < n → b s = c s) → kchb b x n = kchb c x n
  | 0, _ => rfl
  | n + 1, h => by
    unfold kchb kc
    rw [kchb_congr n (fun s hs => h s (by omega)), h n (by omega)]
theorem kchb_eq {b : Nat → Int} (h : ∀ s, b s = 0 ∨ b s = 1) {x : Int} (hx : 0 ≤ x ∧ x ≤ 255) : kchb b x 8 = gand x (ltb b 8) := by
  obtain ⟨P, hP, e⟩ := bits8 h
  have g := g255 x.toNat (by omega)
  rw [show ((x.toNat : Nat) : Int) = x by omega] at g
  have k := kc_P P hP
  rw [kchb_congr 8 e, ltb_congr 8 e, ltb_P P hP, ← k, ← gand_assoc x 255, g]
  simp only [kchb, gand_assoc]
theorem ones_and {b : Nat → Int} (h : ∀ s, b s = 0 ∨ b s = 1) {x : Int} (hx : 0 ≤ x ∧ x < 256) : gbc (gand x (ltb b 8)) = gsm (fun s => gb (gbt x (s : Nat) = 1 ∧ b s = 1)) 8 := by
  obtain ⟨P, hP, e⟩ := bits8 h
  rw [ltb_congr 8 e, ltb_P P hP]
  have r := gand_le (a := x) (b := (P : Int)) (by omega)
  rw [(gones_i (x := gand x (P : Int)) (by omega)).1]
  unfold gones
  refine gsm_congr 8 (fun s hs => ?_)
  rw [gbt_and, gbt_P P hP s hs, ← e s hs]
  exact gand_b (gbt_b _ _) (h s)
/-- which stories let a break on a side -/
def lbt (f : Nat → Int) (sd br : Int) (s : Nat) : Int := gbt (f (800 + 2 * s + sd.toNat)) br
theorem lbt_b (f : Nat → Int) (sd br : Int) (s : Nat) : lbt f sd br s = 0 ∨ lbt f sd br s = 1 := gbt_b _ _
def brft (f : Nat → Int) : Nat → Int
  | 0 => 255
  | k + 1 => if f (120 + 12 * k) = 4 ∧ f (120 + 12 * k + 11) = 1 then gand (brft f k) (ltb (lbt f (f (120 + 12 * k + 10)) (f (120 + 12 * k + 9))) 8) else brft f k
theorem brft_bd (f : Nat → Int) : ∀ k, 0 ≤ brft f k ∧ brft f k ≤ 255
  | 0 => by simp [brft]
  | k + 1 => by
    have := brft_bd f k
    have g := gand_le (a := brft f k) (b := ltb (lbt f (f (120 + 12 * k + 10)) (f (120 + 12 * k + 9))) 8) (by omega)
    unfold brft
    split <;> omega
def brln (f : Nat → Int) (x sd : Int) (br : Nat) : Int := gsm (fun s => gb (gbt x (s : Nat) = 1 ∧ lbt f sd (br : Int) s = 1)) 8
def brml (f : Nat → Int) (x sd : Int) : Nat → Int
  | 0 => 0
  | br + 1 => max (brml f x sd br) (brln f x sd br)
theorem brln_bd (f : Nat → Int) (x sd : Int) (br : Nat) : 0 ≤ brln f x sd br ∧ brln f x sd br ≤ 8 := gsm_gb 8
theorem brml_bd (f : Nat → Int) (x sd : Int) : ∀ n, 0 ≤ brml f x sd n ∧ brml f x sd n ≤ 8
  | 0 => by simp [brml]
  | n + 1 => by
    have a := brml_bd f x sd n
    have b := brln_bd f x sd n
    unfold brml
    omega
def bbt (f : Nat → Int) (x : Int) : Nat → Int
  | 0 => -1
  | k + 1 => if (f (120 + 12 * k) = 4 ∧ f (120 + 12 * k + 11) = 0) ∧ (bbt f x k < 0 ∨ brml f x (f (120 + 12 * k + 10)) 6 < brml f x (f (120 + 12 * (bbt f x k).toNat + 10)) 6) then (k : Int) else bbt f x k
theorem bbt_bd (f : Nat → Int) (x : Int) : ∀ k, bbt f x k = -1 ∨ 0 ≤ bbt f x k ∧ bbt f x k < k
  | 0 => Or.inl rfl
  | k + 1 => by
    have := bbt_bd f x k
    unfold bbt
    split <;> omega
theorem litS : gK 99 = 6 ∧ gq 99 0 = 100 ∧ gK 100 = 103 ∧ ((gN 100 : Nat) : Int) = 8 := by decide +kernel
theorem r_T_letting_0 : Wp L d k_T_letting 0 [l0, l1, l2, l3, l4] [] σ Q ↔ Wp L d k_T_letting 1 [l0, l1, l2, l3, l4] [vI 0] σ Q := wp_push rfl
theorem r_T_letting_1 : Wp L d k_T_letting 1 [l0, l1, vI a2, l3, l4] [vI s0] σ Q ↔ Wp L d k_T_letting 2 [l0, l1, vI a2, vI s0, l4] [] σ Q := wp_istore (i := 3) (ls := [l0, l1, vI a2, l3, l4]) rfl rfl
theorem r_T_letting_2 : Wp L d k_T_letting 2 [l0, l1, l2, l3, l4] [] σ Q ↔ Wp L d k_T_letting 3 [l0, l1, l2, l3, l4] [vI 0] σ Q := wp_push rfl
theorem r_T_letting_3 : Wp L d k_T_letting 3 [l0, l1, l2, vI a3, l4] [vI s0] σ Q ↔ Wp L d k_T_letting 5 [l0, l1, l2, vI a3, vI s0] [] σ Q := wp_istore (i := 4) (ls := [l0, l1, l2, vI a3, l4]) rfl rfl
theorem r_T_letting_5 : Wp L d k_T_letting 5 [l0, l1, l2, l3, vI a4] [] σ Q ↔ Wp L d k_T_letting 7 [l0, l1, l2, l3, vI a4] [vI a4] σ Q := wp_iload rfl rfl
theorem r_T_letting_7 : Wp L d k_T_letting 7 [l0, l1, l2, l3, l4] [vI s0] σ Q ↔ Wp L d k_T_letting 9 [l0, l1, l2, l3, l4] [vI 8, vI s0] σ Q := wp_push rfl
theorem r_T_letting_9 : Wp L d k_T_letting 9 [l0, l1, l2, l3, l4] [vI s1, vI s0] σ Q ↔ (if s1 ≤ s0 then Wp L d k_T_letting 37 [l0, l1, l2, l3, l4] [] σ Q else Wp L d k_T_letting 12 [l0, l1, l2, l3, l4] [] σ Q) := wp_cmp_ge rfl
theorem r_T_letting_12 : Wp L d k_T_letting 12 [l0, l1, l2, vI a3, l4] [] σ Q ↔ Wp L d k_T_letting 13 [l0, l1, l2, vI a3, l4] [vI a3] σ Q := wp_iload rfl rfl
theorem r_T_letting_13 : Wp L d k_T_letting 13 [vR b0, l1, l2, l3, l4] [vI s0] σ Q ↔ Wp L d k_T_letting 14 [vR b0, l1, l2, l3, l4] [vR b0, vI s0] σ Q := wp_aload rfl rfl
theorem r_T_letting_14 (h : gK c1 = 6) : Wp L d k_T_letting 14 [l0, l1, l2, l3, l4] [vR c1, vI s0] σ Q ↔ Wp L d k_T_letting 17 [l0, l1, l2, l3, l4] [vR (gq c1 0), vI s0] σ Q := wp_getR (c := 1664) rfl rfl rfl rfl rfl h
theorem r_T_letting_17 : Wp L d k_T_letting 17 [l0, l1, l2, l3, vI a4] [vR c1, vI s0] σ Q ↔ Wp L d k_T_letting 19 [l0, l1, l2, l3, vI a4] [vI a4, vR c1, vI s0] σ Q := wp_iload rfl rfl
theorem r_T_letting_19 (h : gK c1 = 102 ∨ gK c1 = 103) (hx : 0 ≤ s2 ∧ s2 < gN c1) : Wp L d k_T_letting 19 [l0, l1, l2, l3, l4] [vI s2, vR c1, vI s0] σ Q ↔ Wp L d k_T_letting 20 [l0, l1, l2, l3, l4] [vR (gq c1 s2.toNat), vI s0] σ Q := wp_aald rfl h hx
theorem r_T_letting_20 : Wp L d k_T_letting 20 [l0, vI a1, l2, l3, l4] [vR c1, vI s0] σ Q ↔ Wp L d k_T_letting 21 [l0, vI a1, l2, l3, l4] [vI a1, vR c1, vI s0] σ Q := wp_iload rfl rfl
theorem r_T_letting_21 (h : gK c1 = 100) (hx : 0 ≤ s2 ∧ s2 < gN c1) : Wp L d k_T_letting 21 [l0, l1, l2, l3, l4] [vI s2, vR c1, vI s0] σ Q ↔ Wp L d k_T_letting 22 [l0, l1, l2, l3, l4] [vI (σ c1 s2.toNat), vI s0] σ Q := wp_iald rfl h hx
theorem r_T_letting_22 : Wp L d k_T_letting 22 [l0, l1, vI a2, l3, l4] [vI s1, vI s0] σ Q ↔ Wp L d k_T_letting 23 [l0, l1, vI a2, l3, l4] [vI a2, vI s1, vI s0] σ Q := wp_iload rfl rfl
theorem r_T_letting_23 : Wp L d k_T_letting 23 [l0, l1, l2, l3, l4] [vI s2, vI s1, vI s0] σ Q ↔ Wp L d k_T_letting 24 [l0, l1, l2, l3, l4] [vI (gshr s1 s2), vI s0] σ Q := wp_ishr rfl
theorem r_T_letting_24 : Wp L d k_T_letting 24 [l0, l1, l2, l3, l4] [vI s1, vI s0] σ Q ↔ Wp L d k_T_letting 25 [l0, l1, l2, l3, l4] [vI 1, vI s1, vI s0] σ Q := wp_push rfl
theorem r_T_letting_25 : Wp L d k_T_letting 25 [l0, l1, l2, l3, l4] [vI s2, vI s1, vI s0] σ Q ↔ Wp L d k_T_letting 26 [l0, l1, l2, l3, l4] [vI (gand s1 s2), vI s0] σ Q := wp_iand rfl
theorem r_T_letting_26 : Wp L d k_T_letting 26 [l0, l1, l2, l3, vI a4] [vI s1, vI s0] σ Q ↔ Wp L d k_T_letting 28 [l0, l1, l2, l3, vI a4] [vI a4, vI s1, vI s0] σ Q := wp_iload rfl rfl
theorem r_T_letting_28 : Wp L d k_T_letting 28 [l0, l1, l2, l3, l4] [vI s2, vI s1, vI s0] σ Q ↔ Wp L d k_T_letting 29 [l0, l1, l2, l3, l4] [vI (gshl s1 s2), vI s0] σ Q := wp_ishl rfl
theorem r_T_letting_29 : Wp L d k_T_letting 29 [l0, l1, l2, l3, l4] [vI s1, vI s0] σ Q ↔ Wp L d k_T_letting 30 [l0, l1, l2, l3, l4] [vI (gor s0 s1)] σ Q := wp_ior rfl
theorem r_T_letting_30 : Wp L d k_T_letting 30 [l0, l1, vI a2, l3, l4] [vI s0] σ Q ↔ Wp L d k_T_letting 31 [l0, l1, vI a2, vI s0, l4] [] σ Q := wp_istore (i := 3) (ls := [l0, l1, vI a2, l3, l4]) rfl rfl
theorem r_T_letting_31 : Wp L d k_T_letting 31 [l0, l1, l2, vI a3, vI a4] [] σ Q ↔ Wp L d k_T_letting 34 [l0, l1, l2, vI a3, vI (w32 (a4 + 1))] [] σ Q := wp_iinc (i := 4) (ls := [l0, l1, l2, vI a3, vI a4]) rfl rfl
theorem r_T_letting_34 : Wp L d k_T_letting 34 [l0, l1, l2, l3, l4] [] σ Q ↔ Wp L d k_T_letting 5 [l0, l1, l2, l3, l4] [] σ Q := wp_goto rfl
theorem r_T_letting_37 : Wp L d k_T_letting 37 [l0, l1, l2, vI a3, l4] [] σ Q ↔ Wp L d k_T_letting 38 [l0, l1, l2, vI a3, l4] [vI a3] σ Q := wp_iload rfl rfl
theorem r_T_letting_38 : Wp L d k_T_letting 38 [l0, l1, l2, l3, l4] [vI s0] σ Q ↔ Q (some (vI s0)) σ := wp_iret rfl
theorem sp_T_letting {f : Nat → Int} (hc : CS 99 f σ) (h1 : 0 ≤ a1 ∧ a1 ≤ 1) : Run L d 143 [vR 99, vI a1, vI a2] σ (some (vI (ltb (lbt f a1 a2) 8))) σ := by
  refine Run_of (C' := k_T_letting) rfl ?_
  show Wp L d k_T_letting 0 [vR 99, vI a1, vI a2, vU, vU] [] σ _
  obtain ⟨K99, s0, K100, N100⟩ := litS
  simp only [r_T_letting_0, r_T_letting_1, r_T_letting_2, r_T_letting_3, r_T_letting_7, r_T_letting_9, r_T_letting_12, r_T_letting_13, r_T_letting_14, r_T_letting_17, r_T_letting_19, r_T_letting_20, r_T_letting_21, r_T_letting_22, r_T_letting_23, r_T_letting_24, r_T_letting_25, r_T_letting_26, r_T_letting_28, r_T_letting_29, r_T_letting_30, r_T_letting_31, r_T_letting_34, r_T_letting_37, r_T_letting_38]
  refine wl 8 (fun k => [vR 99, vI a1, vI a2, vI (ltb (lbt f a1 a2) k), vI (k : Int)]) (fun _ => σ) rfl rfl (fun k hk hq => ?_) ?_
  · obtain ⟨g1, g2, g3⟩ := gq100 (i := k) hk
    have c : σ (101 + k) a1.toNat = f (800 + 2 * k + a1.toNat) := by
      have := hc k hk a1.toNat (by omega)
      rw [show 99 + 2 + k = 101 + k by omega] at this
      exact this
    rw [r_T_letting_5]
    simp (disch := first | assumption | exact gb_01 _ | omega) only [r_T_letting_0, r_T_letting_1, r_T_letting_2, r_T_letting_3, r_T_letting_7, r_T_letting_9, r_T_letting_12, r_T_letting_13, r_T_letting_14, r_T_letting_17, r_T_letting_19, r_T_letting_20, r_T_letting_21, r_T_letting_22, r_T_letting_23, r_T_letting_24, r_T_letting_25, r_T_letting_26, r_T_letting_28, r_T_letting_29, r_T_letting_30, r_T_letting_31, r_T_letting_34, r_T_letting_37, r_T_letting_38, s0, g1, c, w32_gb, w32i, tn_add, tn_mul, Int.toNat_natCast, Int.toNat_zero, Int.reduceLE, Int.reduceLT, Int.reduceEq, Int.reduceNe, gb_T, gb_F, Int.reduceToNat, eq_self, true_or, or_true, and_true, true_and, and_self, ↓ite_gb0, ↓ite_gbn, ↓if_pos, ↓if_neg, if_true, if_false, not_true_eq_false, not_false_eq_true, gb_ne0, gb_eq0]
    refine hq _ _ ?_ rfl
    simp only [List.cons.injEq, vI_inj, vR_inj, and_true, true_and]
    exact ⟨rfl, by omega⟩
  · rw [r_T_letting_5]
    simp (disch := first | assumption | exact gb_01 _ | omega) only [r_T_letting_0, r_T_letting_1, r_T_letting_2, r_T_letting_3, r_T_letting_7, r_T_letting_9, r_T_letting_12, r_T_letting_13, r_T_letting_14, r_T_letting_17, r_T_letting_19, r_T_letting_20, r_T_letting_21, r_T_letting_22, r_T_letting_23, r_T_letting_24, r_T_letting_25, r_T_letting_26, r_T_letting_28, r_T_letting_29, r_T_letting_30, r_T_letting_31, r_T_letting_34, r_T_letting_37, r_T_letting_38, s0, w32_gb, w32i, tn_add, tn_mul, Int.toNat_natCast, Int.toNat_zero, Int.reduceLE, Int.reduceLT, Int.reduceEq, Int.reduceNe, gb_T, gb_F, Int.reduceToNat, eq_self, true_or, or_true, and_true, true_and, and_self, ↓ite_gb0, ↓ite_gbn, ↓if_pos, ↓if_neg, if_true, if_false, not_true_eq_false, not_false_eq_true, gb_ne0, gb_eq0]
theorem r_T_fitting_0 : Wp L d k_T_fitting 0 [l0, l1, l2, l3, l4] [] σ Q ↔ Wp L d k_T_fitting 3 [l0, l1, l2, l3, l4] [vI 255] σ Q := wp_push rfl
theorem r_T_fitting_3 : Wp L d k_T_fitting 3 [l0, vR b1, l2, l3, l4] [vI s0] σ Q ↔ Wp L d k_T_fitting 4 [l0, vR b1, vI s0, l3, l4] [] σ Q := wp_istore (i := 2) (ls := [l0, vR b1, l2, l3, l4]) rfl rfl
theorem r_T_fitting_4 : Wp L d k_T_fitting 4 [l0, l1, l2, l3, l4] [] σ Q ↔ Wp L d k_T_fitting 5 [l0, l1, l2, l3, l4] [vI 0] σ Q := wp_push rfl
theorem r_T_fitting_5 : Wp L d k_T_fitting 5 [l0, l1, vI a2, l3, l4] [vI s0] σ Q ↔ Wp L d k_T_fitting 6 [l0, l1, vI a2, vI s0, l4] [] σ Q := wp_istore (i := 3) (ls := [l0, l1, vI a2, l3, l4]) rfl rfl
theorem r_T_fitting_6 : Wp L d k_T_fitting 6 [l0, l1, l2, vI a3, l4] [] σ Q ↔ Wp L d k_T_fitting 7 [l0, l1, l2, vI a3, l4] [vI a3] σ Q := wp_iload rfl rfl
theorem r_T_fitting_7 : Wp L d k_T_fitting 7 [l0, vR b1, l2, l3, l4] [vI s0] σ Q ↔ Wp L d k_T_fitting 8 [l0, vR b1, l2, l3, l4] [vR b1, vI s0] σ Q := wp_aload rfl rfl
theorem r_T_fitting_8 (h : gK c1 = 1) : Wp L d k_T_fitting 8 [l0, l1, l2, l3, l4] [vR c1, vI s0] σ Q ↔ Wp L d k_T_fitting 11 [l0, l1, l2, l3, l4] [vI (σ c1 9), vI s0] σ Q := wp_getI (c := 265) rfl rfl rfl rfl h
theorem r_T_fitting_11 : Wp L d k_T_fitting 11 [l0, l1, l2, l3, l4] [vI s1, vI s0] σ Q ↔ (if s1 ≤ s0 then Wp L d k_T_fitting 62 [l0, l1, l2, l3, l4] [] σ Q else Wp L d k_T_fitting 14 [l0, l1, l2, l3, l4] [] σ Q) := wp_cmp_ge rfl
theorem r_T_fitting_14 : Wp L d k_T_fitting 14 [l0, vR b1, l2, l3, l4] [] σ Q ↔ Wp L d k_T_fitting 15 [l0, vR b1, l2, l3, l4] [vR b1] σ Q := wp_aload rfl rfl
theorem r_T_fitting_15 (h : gK c0 = 1) : Wp L d k_T_fitting 15 [l0, l1, l2, l3, l4] [vR c0] σ Q ↔ Wp L d k_T_fitting 18 [l0, l1, l2, l3, l4] [vR (gq c0 3)] σ Q := wp_getR (c := 387) rfl rfl rfl rfl rfl h
theorem r_T_fitting_18 : Wp L d k_T_fitting 18 [l0, l1, l2, vI a3, l4] [vR c0] σ Q ↔ Wp L d k_T_fitting 19 [l0, l1, l2, vI a3, l4] [vI a3, vR c0] σ Q := wp_iload rfl rfl
theorem r_T_fitting_19 (h : gK c0 = 102 ∨ gK c0 = 103) (hx : 0 ≤ s1 ∧ s1 < gN c0) : Wp L d k_T_fitting 19 [l0, l1, l2, l3, l4] [vI s1, vR c0] σ Q ↔ Wp L d k_T_fitting 20 [l0, l1, l2, l3, l4] [vR (gq c0 s1.toNat)] σ Q := wp_aald rfl h hx
theorem r_T_fitting_20 : Wp L d k_T_fitting 20 [l0, l1, l2, vI a3, l4] [vR c0] σ Q ↔ Wp L d k_T_fitting 22 [l0, l1, l2, vI a3, vR c0] [] σ Q := wp_astore (i := 4) (ls := [l0, l1, l2, vI a3, l4]) rfl rfl
theorem r_T_fitting_22 : Wp L d k_T_fitting 22 [l0, l1, l2, l3, vR b4] [] σ Q ↔ Wp L d k_T_fitting 24 [l0, l1, l2, l3, vR b4] [vR b4] σ Q := wp_aload rfl rfl
theorem r_T_fitting_24 (h : gK c0 = 4) : Wp L d k_T_fitting 24 [l0, l1, l2, l3, l4] [vR c0] σ Q ↔ Wp L d k_T_fitting 27 [l0, l1, l2, l3, l4] [vI (σ c0 0)] σ Q := wp_getI (c := 1024) rfl rfl rfl rfl h
theorem r_T_fitting_27 : Wp L d k_T_fitting 27 [l0, l1, l2, l3, l4] [vI s0] σ Q ↔ Wp L d k_T_fitting 28 [l0, l1, l2, l3, l4] [vI 4, vI s0] σ Q := wp_push rfl
theorem r_T_fitting_28 : Wp L d k_T_fitting 28 [l0, l1, l2, l3, l4] [vI s1, vI s0] σ Q ↔ (if s0 ≠ s1 then Wp L d k_T_fitting 56 [l0, l1, l2, l3, l4] [] σ Q else Wp L d k_T_fitting 31 [l0, l1, l2, l3, l4] [] σ Q) := wp_cmp_ne rfl
theorem r_T_fitting_31 : Wp L d k_T_fitting 31 [l0, l1, l2, l3, vR b4] [] σ Q ↔ Wp L d k_T_fitting 33 [l0, l1, l2, l3, vR b4] [vR b4] σ Q := wp_aload rfl rfl
theorem r_T_fitting_33 (h : gK c0 = 4) : Wp L d k_T_fitting 33 [l0, l1, l2, l3, l4] [vR c0] σ Q ↔ Wp L d k_T_fitting 36 [l0, l1, l2, l3, l4] [vI (σ c0 11)] σ Q := wp_getI (c := 1099) rfl rfl rfl rfl h
theorem r_T_fitting_36 : Wp L d k_T_fitting 36 [l0, l1, l2, l3, l4] [vI s0] σ Q ↔ (if s0 = 0 then Wp L d k_T_fitting 56 [l0, l1, l2, l3, l4] [] σ Q else Wp L d k_T_fitting 39 [l0, l1, l2, l3, l4] [] σ Q) := wp_if_eq rfl
theorem r_T_fitting_39 : Wp L d k_T_fitting 39 [l0, l1, vI a2, l3, l4] [] σ Q ↔ Wp L d k_T_fitting 40 [l0, l1, vI a2, l3, l4] [vI a2] σ Q := wp_iload rfl rfl
theorem r_T_fitting_40 : Wp L d k_T_fitting 40 [vR b0, l1, l2, l3, l4] [vI s0] σ Q ↔ Wp L d k_T_fitting 41 [vR b0, l1, l2, l3, l4] [vR b0, vI s0] σ Q := wp_aload rfl rfl
theorem r_T_fitting_41 : Wp L d k_T_fitting 41 [l0, l1, l2, l3, vR b4] [vR c1, vI s0] σ Q ↔ Wp L d k_T_fitting 43 [l0, l1, l2, l3, vR b4] [vR b4, vR c1, vI s0] σ Q := wp_aload rfl rfl
theorem r_T_fitting_43 (h : gK c2 = 4) : Wp L d k_T_fitting 43 [l0, l1, l2, l3, l4] [vR c2, vR c1, vI s0] σ Q ↔ Wp L d k_T_fitting 46 [l0, l1, l2, l3, l4] [vI (σ c2 9), vR c1, vI s0] σ Q := wp_getI (c := 1033) rfl rfl rfl rfl h
theorem r_T_fitting_46 : Wp L d k_T_fitting 46 [l0, l1, l2, l3, vR b4] [vI s2, vR c1, vI s0] σ Q ↔ Wp L d k_T_fitting 48 [l0, l1, l2, l3, vR b4] [vR b4, vI s2, vR c1, vI s0] σ Q := wp_aload rfl rfl
theorem r_T_fitting_48 (h : gK c3 = 4) : Wp L d k_T_fitting 48 [l0, l1, l2, l3, l4] [vR c3, vI s2, vR c1, vI s0] σ Q ↔ Wp L d k_T_fitting 51 [l0, l1, l2, l3, l4] [vI (σ c3 8), vI s2, vR c1, vI s0] σ Q := wp_getI (c := 1032) rfl rfl rfl rfl h
theorem c_T_fitting_51 (hR : Run L d 143 [vR c1, vI s2, vI s3] σ r σ1) (h : gK c1 = 6) : Wp L (d + 1) k_T_fitting 51 [l0, l1, l2, l3, l4] [vI s3, vI s2, vR c1, vI s0] σ Q ↔ Wp L (d + 1) k_T_fitting 54 [l0, l1, l2, l3, l4] (r.toList ++ [vI s0]) σ1 Q := wp_callR (as := [vR c1, vI s2, vI s3]) (rest := [vI s0]) rfl rfl rfl rfl rfl rfl rfl (grecv_k (by rw [h]) rfl) hR
theorem r_T_fitting_54 : Wp L d k_T_fitting 54 [l0, l1, l2, l3, l4] [vI s1, vI s0] σ Q ↔ Wp L d k_T_fitting 55 [l0, l1, l2, l3, l4] [vI (gand s0 s1)] σ Q := wp_iand rfl
theorem r_T_fitting_55 : Wp L d k_T_fitting 55 [l0, vR b1, l2, l3, l4] [vI s0] σ Q ↔ Wp L d k_T_fitting 56 [l0, vR b1, vI s0, l3, l4] [] σ Q := wp_istore (i := 2) (ls := [l0, vR b1, l2, l3, l4]) rfl rfl
theorem r_T_fitting_56 : Wp L d k_T_fitting 56 [l0, l1, vI a2, vI a3, l4] [] σ Q ↔ Wp L d k_T_fitting 59 [l0, l1, vI a2, vI (w32 (a3 + 1)), l4] [] σ Q := wp_iinc (i := 3) (ls := [l0, l1, vI a2, vI a3, l4]) rfl rfl
theorem r_T_fitting_59 : Wp L d k_T_fitting 59 [l0, l1, l2, l3, l4] [] σ Q ↔ Wp L d k_T_fitting 6 [l0, l1, l2, l3, l4] [] σ Q := wp_goto rfl
theorem r_T_fitting_62 : Wp L d k_T_fitting 62 [l0, l1, vI a2, l3, l4] [] σ Q ↔ Wp L d k_T_fitting 63 [l0, l1, vI a2, l3, l4] [vI a2] σ Q := wp_iload rfl rfl
theorem r_T_fitting_63 : Wp L d k_T_fitting 63 [l0, l1, l2, l3, l4] [vI s0] σ Q ↔ Q (some (vI s0)) σ := wp_iret rfl
theorem sp_T_fitting {f : Nat → Int} (hw : WB f) (hc : CB 29 f σ) (hcs : CS 99 f σ) : Run L (d + 1) 142 [vR 99, vR 29] σ (some (vI (brft f (f 1).toNat))) σ := by
  refine Run_of (C' := k_T_fitting) rfl ?_
  show Wp L (d + 1) k_T_fitting 0 [vR 99, vR 29, vU, vU, vU] [] σ _
  obtain ⟨K99, s0, K100, N100⟩ := litS
  have hB := BR29
  obtain ⟨⟨K0, q0, q1, q2, q3, q4, q5, q6, q7⟩, ⟨K1, K2, K3, K4, K5, K6, K7, K8⟩, ⟨N1, N2, N3, N4, N5, N6, N7, N8⟩, QP, KP⟩ := hB
  simp only [Nat.reduceAdd] at K0 q0 q1 q2 q3 q4 q5 q6 q7 K1 K2 K3 K4 K5 K6 K7 K8 N1 N2 N3 N4 N5 N6 N7 N8 QP KP

  have w2 := hw.2.1
  have c2 := hc.2.1
  simp only [r_T_fitting_0, r_T_fitting_3, r_T_fitting_4, r_T_fitting_5, r_T_fitting_7, r_T_fitting_8, r_T_fitting_11, r_T_fitting_14, r_T_fitting_15, r_T_fitting_18, r_T_fitting_19, r_T_fitting_20, r_T_fitting_22, r_T_fitting_24, r_T_fitting_27, r_T_fitting_28, r_T_fitting_31, r_T_fitting_33, r_T_fitting_36, r_T_fitting_39, r_T_fitting_40, r_T_fitting_41, r_T_fitting_43, r_T_fitting_46, r_T_fitting_48, r_T_fitting_54, r_T_fitting_55, r_T_fitting_56, r_T_fitting_59, r_T_fitting_62, r_T_fitting_63]
  refine wloop (n := (f 1).toNat) (I := fun k ls τ => (∃ l, ls = [vR 99, vR 29, vI (brft f k), vI (k : Int), l]) ∧ τ = σ) (fun k ls τ hk hi hq => ?_) (fun ls τ hi => ?_) (f 1).toNat 0 (by omega) _ _ ⟨⟨_, rfl⟩, rfl⟩
  · obtain ⟨⟨l, rfl⟩, rfl⟩ := hi
    have kp := KP k (by omega)
    have q := CBp hc (p := k) (by omega)
    have w := WBp hw (p := k) (by omega)
    simp only [Nat.reduceAdd] at q
    have hT := sp_T_letting (L := L) (d := d + 0) (σ := τ) (a1 := f (120 + 12 * k + 10)) (a2 := f (120 + 12 * k + 9)) hcs (by omega)
    have fin : ∀ (x : Int) (l : gV), x = brft f (k + 1) → Wp L (d + 1) k_T_fitting 6 [vR 99, vR 29, vI x, vI ((k : Int) + 1), l] [] τ _ := fun x l e => hq _ _ ⟨⟨l, by rw [e, show (((k + 1 : Nat)) : Int) = (k : Int) + 1 by omega]⟩, rfl⟩
    rw [r_T_fitting_6]
    by_cases e1 : f (120 + 12 * k) = 4
    · by_cases e2 : f (120 + 12 * k + 11) = 1
      · simp (disch := first | assumption | exact gb_01 _ | omega) only [r_T_fitting_0, r_T_fitting_3, r_T_fitting_4, r_T_fitting_5, r_T_fitting_7, r_T_fitting_8, r_T_fitting_11, r_T_fitting_14, r_T_fitting_15, r_T_fitting_18, r_T_fitting_19, r_T_fitting_20, r_T_fitting_22, r_T_fitting_24, r_T_fitting_27, r_T_fitting_28, r_T_fitting_31, r_T_fitting_33, r_T_fitting_36, r_T_fitting_39, r_T_fitting_40, r_T_fitting_41, r_T_fitting_43, r_T_fitting_46, r_T_fitting_48, r_T_fitting_54, r_T_fitting_55, r_T_fitting_56, r_T_fitting_59, r_T_fitting_62, r_T_fitting_63, c_T_fitting_51 hT, Option.toList, List.singleton_append, List.cons_append, List.nil_append, List.append_nil, q3, QP, q, w32_gb, w32i, tn_add, tn_mul, Int.toNat_natCast, Int.toNat_zero, Int.reduceLE, Int.reduceLT, Int.reduceEq, Int.reduceNe, gb_T, gb_F, Int.reduceToNat, eq_self, true_or, or_true, and_true, true_and, and_self, ↓ite_gb0, ↓ite_gbn, ↓if_pos, ↓if_neg, if_true, if_false, not_true_eq_false, not_false_eq_true, gb_ne0, gb_eq0]
        exact fin _ _ (if_pos ⟨e1, e2⟩).symm
      · simp (disch := first | assumption | exact gb_01 _ | omega) only [r_T_fitting_0, r_T_fitting_3, r_T_fitting_4, r_T_fitting_5, r_T_fitting_7, r_T_fitting_8, r_T_fitting_11, r_T_fitting_14, r_T_fitting_15, r_T_fitting_18, r_T_fitting_19, r_T_fitting_20, r_T_fitting_22, r_T_fitting_24, r_T_fitting_27, r_T_fitting_28, r_T_fitting_31, r_T_fitting_33, r_T_fitting_36, r_T_fitting_39, r_T_fitting_40, r_T_fitting_41, r_T_fitting_43, r_T_fitting_46, r_T_fitting_48, r_T_fitting_54, r_T_fitting_55, r_T_fitting_56, r_T_fitting_59, r_T_fitting_62, r_T_fitting_63, c_T_fitting_51 hT, Option.toList, List.singleton_append, List.cons_append, List.nil_append, List.append_nil, q3, QP, q, w32_gb, w32i, tn_add, tn_mul, Int.toNat_natCast, Int.toNat_zero, Int.reduceLE, Int.reduceLT, Int.reduceEq, Int.reduceNe, gb_T, gb_F, Int.reduceToNat, eq_self, true_or, or_true, and_true, true_and, and_self, ↓ite_gb0, ↓ite_gbn, ↓if_pos, ↓if_neg, if_true, if_false, not_true_eq_false, not_false_eq_true, gb_ne0, gb_eq0]
        exact fin _ _ (if_neg (fun z => e2 z.2)).symm
    · simp (disch := first | assumption | exact gb_01 _ | omega) only [r_T_fitting_0, r_T_fitting_3, r_T_fitting_4, r_T_fitting_5, r_T_fitting_7, r_T_fitting_8, r_T_fitting_11, r_T_fitting_14, r_T_fitting_15, r_T_fitting_18, r_T_fitting_19, r_T_fitting_20, r_T_fitting_22, r_T_fitting_24, r_T_fitting_27, r_T_fitting_28, r_T_fitting_31, r_T_fitting_33, r_T_fitting_36, r_T_fitting_39, r_T_fitting_40, r_T_fitting_41, r_T_fitting_43, r_T_fitting_46, r_T_fitting_48, r_T_fitting_54, r_T_fitting_55, r_T_fitting_56, r_T_fitting_59, r_T_fitting_62, r_T_fitting_63, c_T_fitting_51 hT, Option.toList, List.singleton_append, List.cons_append, List.nil_append, List.append_nil, q3, QP, q, w32_gb, w32i, tn_add, tn_mul, Int.toNat_natCast, Int.toNat_zero, Int.reduceLE, Int.reduceLT, Int.reduceEq, Int.reduceNe, gb_T, gb_F, Int.reduceToNat, eq_self, true_or, or_true, and_true, true_and, and_self, ↓ite_gb0, ↓ite_gbn, ↓if_pos, ↓if_neg, if_true, if_false, not_true_eq_false, not_false_eq_true, gb_ne0, gb_eq0]
      exact fin _ _ (if_neg (fun z => e1 z.1)).symm
  · obtain ⟨⟨l, rfl⟩, rfl⟩ := hi
    rw [r_T_fitting_6]
    simp (disch := first | assumption | exact gb_01 _ | omega) only [r_T_fitting_0, r_T_fitting_3, r_T_fitting_4, r_T_fitting_5, r_T_fitting_7, r_T_fitting_8, r_T_fitting_11, r_T_fitting_14, r_T_fitting_15, r_T_fitting_18, r_T_fitting_19, r_T_fitting_20, r_T_fitting_22, r_T_fitting_24, r_T_fitting_27, r_T_fitting_28, r_T_fitting_31, r_T_fitting_33, r_T_fitting_36, r_T_fitting_39, r_T_fitting_40, r_T_fitting_41, r_T_fitting_43, r_T_fitting_46, r_T_fitting_48, r_T_fitting_54, r_T_fitting_55, r_T_fitting_56, r_T_fitting_59, r_T_fitting_62, r_T_fitting_63, q3, w32_gb, w32i, tn_add, tn_mul, Int.toNat_natCast, Int.toNat_zero, Int.reduceLE, Int.reduceLT, Int.reduceEq, Int.reduceNe, gb_T, gb_F, Int.reduceToNat, eq_self, true_or, or_true, and_true, true_and, and_self, ↓ite_gb0, ↓ite_gbn, ↓if_pos, ↓if_neg, if_true, if_false, not_true_eq_false, not_false_eq_true, gb_ne0, gb_eq0]
theorem r_T_mostLeft_0 : Wp L d k_T_mostLeft 0 [l0, l1, l2, l3, l4] [] σ Q ↔ Wp L d k_T_mostLeft 1 [l0, l1, l2, l3, l4] [vI 0] σ Q := wp_push rfl
theorem r_T_mostLeft_1 : Wp L d k_T_mostLeft 1 [l0, l1, vI a2, l3, l4] [vI s0] σ Q ↔ Wp L d k_T_mostLeft 2 [l0, l1, vI a2, vI s0, l4] [] σ Q := wp_istore (i := 3) (ls := [l0, l1, vI a2, l3, l4]) rfl rfl
theorem r_T_mostLeft_2 : Wp L d k_T_mostLeft 2 [l0, l1, l2, l3, l4] [] σ Q ↔ Wp L d k_T_mostLeft 3 [l0, l1, l2, l3, l4] [vI 0] σ Q := wp_push rfl
theorem r_T_mostLeft_3 : Wp L d k_T_mostLeft 3 [l0, l1, l2, vI a3, l4] [vI s0] σ Q ↔ Wp L d k_T_mostLeft 5 [l0, l1, l2, vI a3, vI s0] [] σ Q := wp_istore (i := 4) (ls := [l0, l1, l2, vI a3, l4]) rfl rfl
theorem r_T_mostLeft_5 : Wp L d k_T_mostLeft 5 [l0, l1, l2, l3, vI a4] [] σ Q ↔ Wp L d k_T_mostLeft 7 [l0, l1, l2, l3, vI a4] [vI a4] σ Q := wp_iload rfl rfl
theorem r_T_mostLeft_7 : Wp L d k_T_mostLeft 7 [l0, l1, l2, l3, l4] [vI s0] σ Q ↔ Wp L d k_T_mostLeft 9 [l0, l1, l2, l3, l4] [vI 6, vI s0] σ Q := wp_push rfl
theorem r_T_mostLeft_9 : Wp L d k_T_mostLeft 9 [l0, l1, l2, l3, l4] [vI s1, vI s0] σ Q ↔ (if s1 ≤ s0 then Wp L d k_T_mostLeft 35 [l0, l1, l2, l3, l4] [] σ Q else Wp L d k_T_mostLeft 12 [l0, l1, l2, l3, l4] [] σ Q) := wp_cmp_ge rfl
theorem r_T_mostLeft_12 : Wp L d k_T_mostLeft 12 [l0, l1, l2, vI a3, l4] [] σ Q ↔ Wp L d k_T_mostLeft 13 [l0, l1, l2, vI a3, l4] [vI a3] σ Q := wp_iload rfl rfl
theorem r_T_mostLeft_13 : Wp L d k_T_mostLeft 13 [l0, vI a1, l2, l3, l4] [vI s0] σ Q ↔ Wp L d k_T_mostLeft 14 [l0, vI a1, l2, l3, l4] [vI a1, vI s0] σ Q := wp_iload rfl rfl
theorem r_T_mostLeft_14 : Wp L d k_T_mostLeft 14 [vR b0, l1, l2, l3, l4] [vI s1, vI s0] σ Q ↔ Wp L d k_T_mostLeft 15 [vR b0, l1, l2, l3, l4] [vR b0, vI s1, vI s0] σ Q := wp_aload rfl rfl
theorem r_T_mostLeft_15 : Wp L d k_T_mostLeft 15 [l0, l1, vI a2, l3, l4] [vR c2, vI s1, vI s0] σ Q ↔ Wp L d k_T_mostLeft 16 [l0, l1, vI a2, l3, l4] [vI a2, vR c2, vI s1, vI s0] σ Q := wp_iload rfl rfl
theorem r_T_mostLeft_16 : Wp L d k_T_mostLeft 16 [l0, l1, l2, l3, vI a4] [vI s3, vR c2, vI s1, vI s0] σ Q ↔ Wp L d k_T_mostLeft 18 [l0, l1, l2, l3, vI a4] [vI a4, vI s3, vR c2, vI s1, vI s0] σ Q := wp_iload rfl rfl
theorem c_T_mostLeft_18 (hR : Run L d 143 [vR c2, vI s3, vI s4] σ r σ1) (h : gK c2 = 6) : Wp L (d + 1) k_T_mostLeft 18 [l0, l1, l2, l3, l4] [vI s4, vI s3, vR c2, vI s1, vI s0] σ Q ↔ Wp L (d + 1) k_T_mostLeft 21 [l0, l1, l2, l3, l4] (r.toList ++ [vI s1, vI s0]) σ1 Q := wp_callR (as := [vR c2, vI s3, vI s4]) (rest := [vI s1, vI s0]) rfl rfl rfl rfl rfl rfl rfl (grecv_k (by rw [h]) rfl) hR
theorem r_T_mostLeft_21 : Wp L d k_T_mostLeft 21 [l0, l1, l2, l3, l4] [vI s2, vI s1, vI s0] σ Q ↔ Wp L d k_T_mostLeft 22 [l0, l1, l2, l3, l4] [vI (gand s1 s2), vI s0] σ Q := wp_iand rfl
theorem r_T_mostLeft_25 : Wp L d k_T_mostLeft 25 [l0, l1, l2, l3, l4] [vI s1, vI s0] σ Q ↔ Wp L d k_T_mostLeft 28 [l0, l1, l2, l3, l4] [vI (max s0 s1)] σ Q := wp_max rfl rfl
theorem r_T_mostLeft_28 : Wp L d k_T_mostLeft 28 [l0, l1, vI a2, l3, l4] [vI s0] σ Q ↔ Wp L d k_T_mostLeft 29 [l0, l1, vI a2, vI s0, l4] [] σ Q := wp_istore (i := 3) (ls := [l0, l1, vI a2, l3, l4]) rfl rfl
theorem r_T_mostLeft_29 : Wp L d k_T_mostLeft 29 [l0, l1, l2, vI a3, vI a4] [] σ Q ↔ Wp L d k_T_mostLeft 32 [l0, l1, l2, vI a3, vI (w32 (a4 + 1))] [] σ Q := wp_iinc (i := 4) (ls := [l0, l1, l2, vI a3, vI a4]) rfl rfl
theorem r_T_mostLeft_32 : Wp L d k_T_mostLeft 32 [l0, l1, l2, l3, l4] [] σ Q ↔ Wp L d k_T_mostLeft 5 [l0, l1, l2, l3, l4] [] σ Q := wp_goto rfl
theorem r_T_mostLeft_35 : Wp L d k_T_mostLeft 35 [l0, l1, l2, vI a3, l4] [] σ Q ↔ Wp L d k_T_mostLeft 36 [l0, l1, l2, vI a3, l4] [vI a3] σ Q := wp_iload rfl rfl
theorem r_T_mostLeft_36 : Wp L d k_T_mostLeft 36 [l0, l1, l2, l3, l4] [vI s0] σ Q ↔ Q (some (vI s0)) σ := wp_iret rfl
theorem r_T_mostLeft_22 : Wp L (d + 1) k_T_mostLeft 22 [l0, l1, l2, l3, l4] [vI s1, vI s0] σ Q ↔ Wp L (d + 1) k_T_mostLeft 25 [l0, l1, l2, l3, l4] [vI (gbc s1), vI s0] σ Q := wp_callR (d := d + 0) (as := [vI s1]) (rest := [vI s0]) rfl rfl rfl rfl rfl rfl rfl rfl (sp_Itg_bitCount)
theorem sp_T_mostLeft {f : Nat → Int} (hcs : CS 99 f σ) (h1 : 0 ≤ a1 ∧ a1 < 256) (h2 : 0 ≤ a2 ∧ a2 ≤ 1) : Run L (d + 1) 145 [vR 99, vI a1, vI a2] σ (some (vI (brml f a1 a2 6))) σ := by
  refine Run_of (C' := k_T_mostLeft) rfl ?_
  show Wp L (d + 1) k_T_mostLeft 0 [vR 99, vI a1, vI a2, vU, vU] [] σ _
  obtain ⟨K99, s0, K100, N100⟩ := litS
  simp only [r_T_mostLeft_0, r_T_mostLeft_1, r_T_mostLeft_2, r_T_mostLeft_3, r_T_mostLeft_7, r_T_mostLeft_9, r_T_mostLeft_12, r_T_mostLeft_13, r_T_mostLeft_14, r_T_mostLeft_15, r_T_mostLeft_16, r_T_mostLeft_21, r_T_mostLeft_22, r_T_mostLeft_25, r_T_mostLeft_28, r_T_mostLeft_29, r_T_mostLeft_32, r_T_mostLeft_35, r_T_mostLeft_36]
  refine wl 6 (fun k => [vR 99, vI a1, vI a2, vI (brml f a1 a2 k), vI (k : Int)]) (fun _ => σ) rfl rfl (fun k hk hq => ?_) ?_
  · have hT := sp_T_letting (L := L) (d := d + 0) (σ := σ) (a1 := a2) (a2 := (k : Int)) hcs h2
    have e : gbc (gand a1 (ltb (lbt f a2 (k : Int)) 8)) = brln f a1 a2 k := ones_and (lbt_b f a2 (k : Int)) h1
    rw [r_T_mostLeft_5]
    simp (disch := first | assumption | exact gb_01 _ | omega) only [r_T_mostLeft_0, r_T_mostLeft_1, r_T_mostLeft_2, r_T_mostLeft_3, r_T_mostLeft_7, r_T_mostLeft_9, r_T_mostLeft_12, r_T_mostLeft_13, r_T_mostLeft_14, r_T_mostLeft_15, r_T_mostLeft_16, r_T_mostLeft_21, r_T_mostLeft_22, r_T_mostLeft_25, r_T_mostLeft_28, r_T_mostLeft_29, r_T_mostLeft_32, r_T_mostLeft_35, r_T_mostLeft_36, c_T_mostLeft_18 hT, Option.toList, List.singleton_append, List.cons_append, List.nil_append, List.append_nil, e, w32_gb, w32i, tn_add, tn_mul, Int.toNat_natCast, Int.toNat_zero, Int.reduceLE, Int.reduceLT, Int.reduceEq, Int.reduceNe, gb_T, gb_F, Int.reduceToNat, eq_self, true_or, or_true, and_true, true_and, and_self, ↓ite_gb0, ↓ite_gbn, ↓if_pos, ↓if_neg, if_true, if_false, not_true_eq_false, not_false_eq_true, gb_ne0, gb_eq0]
    refine hq _ _ ?_ rfl
    simp only [List.cons.injEq, vI_inj, vR_inj, and_true, true_and]
    exact ⟨rfl, by omega⟩
  · rw [r_T_mostLeft_5]
    simp (disch := first | assumption | exact gb_01 _ | omega) only [r_T_mostLeft_0, r_T_mostLeft_1, r_T_mostLeft_2, r_T_mostLeft_3, r_T_mostLeft_7, r_T_mostLeft_9, r_T_mostLeft_12, r_T_mostLeft_13, r_T_mostLeft_14, r_T_mostLeft_15, r_T_mostLeft_16, r_T_mostLeft_21, r_T_mostLeft_22, r_T_mostLeft_25, r_T_mostLeft_28, r_T_mostLeft_29, r_T_mostLeft_32, r_T_mostLeft_35, r_T_mostLeft_36, w32_gb, w32i, tn_add, tn_mul, Int.toNat_natCast, Int.toNat_zero, Int.reduceLE, Int.reduceLT, Int.reduceEq, Int.reduceNe, gb_T, gb_F, Int.reduceToNat, eq_self, true_or, or_true, and_true, true_and, and_self, ↓ite_gb0, ↓ite_gbn, ↓if_pos, ↓if_neg, if_true, if_false, not_true_eq_false, not_false_eq_true, gb_ne0, gb_eq0]
theorem r_T_pieceToRaise_0 : Wp L d k_T_pieceToRaise 0 [vR b0, l1, l2, l3, l4, l5, l6, l7] [] σ Q ↔ Wp L d k_T_pieceToRaise 1 [vR b0, l1, l2, l3, l4, l5, l6, l7] [vR b0] σ Q := wp_aload rfl rfl
theorem r_T_pieceToRaise_1 : Wp L d k_T_pieceToRaise 1 [l0, vR b1, l2, l3, l4, l5, l6, l7] [vR c0] σ Q ↔ Wp L d k_T_pieceToRaise 2 [l0, vR b1, l2, l3, l4, l5, l6, l7] [vR b1, vR c0] σ Q := wp_aload rfl rfl
theorem c_T_pieceToRaise_2 (hR : Run L d 142 [vR c0, vR c1] σ r σ1) (h : gK c0 = 6) : Wp L (d + 1) k_T_pieceToRaise 2 [l0, l1, l2, l3, l4, l5, l6, l7] [vR c1, vR c0] σ Q ↔ Wp L (d + 1) k_T_pieceToRaise 5 [l0, l1, l2, l3, l4, l5, l6, l7] (r.toList ++ []) σ1 Q := wp_callR (as := [vR c0, vR c1]) (rest := []) rfl rfl rfl rfl rfl rfl rfl (grecv_k (by rw [h]) rfl) hR
theorem r_T_pieceToRaise_5 : Wp L d k_T_pieceToRaise 5 [l0, vR b1, l2, l3, l4, l5, l6, l7] [vI s0] σ Q ↔ Wp L d k_T_pieceToRaise 6 [l0, vR b1, vI s0, l3, l4, l5, l6, l7] [] σ Q := wp_istore (i := 2) (ls := [l0, vR b1, l2, l3, l4, l5, l6, l7]) rfl rfl
theorem r_T_pieceToRaise_6 : Wp L d k_T_pieceToRaise 6 [l0, l1, l2, l3, l4, l5, l6, l7] [] σ Q ↔ Wp L d k_T_pieceToRaise 8 [l0, l1, l2, l3, l4, l5, l6, l7] [vI 9] σ Q := wp_push rfl
theorem r_T_pieceToRaise_8 : Wp L d k_T_pieceToRaise 8 [l0, l1, vI a2, l3, l4, l5, l6, l7] [vI s0] σ Q ↔ Wp L d k_T_pieceToRaise 9 [l0, l1, vI a2, vI s0, l4, l5, l6, l7] [] σ Q := wp_istore (i := 3) (ls := [l0, l1, vI a2, l3, l4, l5, l6, l7]) rfl rfl
theorem r_T_pieceToRaise_9 : Wp L d k_T_pieceToRaise 9 [l0, l1, l2, l3, l4, l5, l6, l7] [] σ Q ↔ Wp L d k_T_pieceToRaise 11 [l0, l1, l2, l3, l4, l5, l6, l7] [vI (-1000000005)] σ Q := wp_push rfl
theorem r_T_pieceToRaise_11 : Wp L d k_T_pieceToRaise 11 [l0, l1, l2, vI a3, l4, l5, l6, l7] [vI s0] σ Q ↔ Wp L d k_T_pieceToRaise 13 [l0, l1, l2, vI a3, vI s0, l5, l6, l7] [] σ Q := wp_istore (i := 4) (ls := [l0, l1, l2, vI a3, l4, l5, l6, l7]) rfl rfl
theorem r_T_pieceToRaise_13 : Wp L d k_T_pieceToRaise 13 [l0, l1, l2, l3, l4, l5, l6, l7] [] σ Q ↔ Wp L d k_T_pieceToRaise 14 [l0, l1, l2, l3, l4, l5, l6, l7] [vI 0] σ Q := wp_push rfl
theorem r_T_pieceToRaise_14 : Wp L d k_T_pieceToRaise 14 [l0, l1, l2, l3, vI a4, l5, l6, l7] [vI s0] σ Q ↔ Wp L d k_T_pieceToRaise 16 [l0, l1, l2, l3, vI a4, vI s0, l6, l7] [] σ Q := wp_istore (i := 5) (ls := [l0, l1, l2, l3, vI a4, l5, l6, l7]) rfl rfl
theorem r_T_pieceToRaise_16 : Wp L d k_T_pieceToRaise 16 [l0, l1, l2, l3, l4, vI a5, l6, l7] [] σ Q ↔ Wp L d k_T_pieceToRaise 18 [l0, l1, l2, l3, l4, vI a5, l6, l7] [vI a5] σ Q := wp_iload rfl rfl
theorem r_T_pieceToRaise_18 : Wp L d k_T_pieceToRaise 18 [l0, vR b1, l2, l3, l4, l5, l6, l7] [vI s0] σ Q ↔ Wp L d k_T_pieceToRaise 19 [l0, vR b1, l2, l3, l4, l5, l6, l7] [vR b1, vI s0] σ Q := wp_aload rfl rfl
theorem r_T_pieceToRaise_19 (h : gK c1 = 1) : Wp L d k_T_pieceToRaise 19 [l0, l1, l2, l3, l4, l5, l6, l7] [vR c1, vI s0] σ Q ↔ Wp L d k_T_pieceToRaise 22 [l0, l1, l2, l3, l4, l5, l6, l7] [vI (σ c1 9), vI s0] σ Q := wp_getI (c := 265) rfl rfl rfl rfl h
theorem r_T_pieceToRaise_22 : Wp L d k_T_pieceToRaise 22 [l0, l1, l2, l3, l4, l5, l6, l7] [vI s1, vI s0] σ Q ↔ (if s1 ≤ s0 then Wp L d k_T_pieceToRaise 82 [l0, l1, l2, l3, l4, l5, l6, l7] [] σ Q else Wp L d k_T_pieceToRaise 25 [l0, l1, l2, l3, l4, l5, l6, l7] [] σ Q) := wp_cmp_ge rfl
theorem r_T_pieceToRaise_25 : Wp L d k_T_pieceToRaise 25 [l0, vR b1, l2, l3, l4, l5, l6, l7] [] σ Q ↔ Wp L d k_T_pieceToRaise 26 [l0, vR b1, l2, l3, l4, l5, l6, l7] [vR b1] σ Q := wp_aload rfl rfl
theorem r_T_pieceToRaise_26 (h : gK c0 = 1) : Wp L d k_T_pieceToRaise 26 [l0, l1, l2, l3, l4, l5, l6, l7] [vR c0] σ Q ↔ Wp L d k_T_pieceToRaise 29 [l0, l1, l2, l3, l4, l5, l6, l7] [vR (gq c0 3)] σ Q := wp_getR (c := 387) rfl rfl rfl rfl rfl h
theorem r_T_pieceToRaise_29 : Wp L d k_T_pieceToRaise 29 [l0, l1, l2, l3, l4, vI a5, l6, l7] [vR c0] σ Q ↔ Wp L d k_T_pieceToRaise 31 [l0, l1, l2, l3, l4, vI a5, l6, l7] [vI a5, vR c0] σ Q := wp_iload rfl rfl
theorem r_T_pieceToRaise_31 (h : gK c0 = 102 ∨ gK c0 = 103) (hx : 0 ≤ s1 ∧ s1 < gN c0) : Wp L d k_T_pieceToRaise 31 [l0, l1, l2, l3, l4, l5, l6, l7] [vI s1, vR c0] σ Q ↔ Wp L d k_T_pieceToRaise 32 [l0, l1, l2, l3, l4, l5, l6, l7] [vR (gq c0 s1.toNat)] σ Q := wp_aald rfl h hx
theorem r_T_pieceToRaise_32 : Wp L d k_T_pieceToRaise 32 [l0, l1, l2, l3, l4, vI a5, l6, l7] [vR c0] σ Q ↔ Wp L d k_T_pieceToRaise 34 [l0, l1, l2, l3, l4, vI a5, vR c0, l7] [] σ Q := wp_astore (i := 6) (ls := [l0, l1, l2, l3, l4, vI a5, l6, l7]) rfl rfl
theorem r_T_pieceToRaise_34 : Wp L d k_T_pieceToRaise 34 [l0, l1, l2, l3, l4, l5, vR b6, l7] [] σ Q ↔ Wp L d k_T_pieceToRaise 36 [l0, l1, l2, l3, l4, l5, vR b6, l7] [vR b6] σ Q := wp_aload rfl rfl
theorem r_T_pieceToRaise_36 (h : gK c0 = 4) : Wp L d k_T_pieceToRaise 36 [l0, l1, l2, l3, l4, l5, l6, l7] [vR c0] σ Q ↔ Wp L d k_T_pieceToRaise 39 [l0, l1, l2, l3, l4, l5, l6, l7] [vI (σ c0 0)] σ Q := wp_getI (c := 1024) rfl rfl rfl rfl h
theorem r_T_pieceToRaise_39 : Wp L d k_T_pieceToRaise 39 [l0, l1, l2, l3, l4, l5, l6, l7] [vI s0] σ Q ↔ Wp L d k_T_pieceToRaise 40 [l0, l1, l2, l3, l4, l5, l6, l7] [vI 4, vI s0] σ Q := wp_push rfl
theorem r_T_pieceToRaise_40 : Wp L d k_T_pieceToRaise 40 [l0, l1, l2, l3, l4, l5, l6, l7] [vI s1, vI s0] σ Q ↔ (if s0 ≠ s1 then Wp L d k_T_pieceToRaise 76 [l0, l1, l2, l3, l4, l5, l6, l7] [] σ Q else Wp L d k_T_pieceToRaise 43 [l0, l1, l2, l3, l4, l5, l6, l7] [] σ Q) := wp_cmp_ne rfl
theorem r_T_pieceToRaise_43 : Wp L d k_T_pieceToRaise 43 [l0, l1, l2, l3, l4, l5, vR b6, l7] [] σ Q ↔ Wp L d k_T_pieceToRaise 45 [l0, l1, l2, l3, l4, l5, vR b6, l7] [vR b6] σ Q := wp_aload rfl rfl
theorem r_T_pieceToRaise_45 (h : gK c0 = 4) : Wp L d k_T_pieceToRaise 45 [l0, l1, l2, l3, l4, l5, l6, l7] [vR c0] σ Q ↔ Wp L d k_T_pieceToRaise 48 [l0, l1, l2, l3, l4, l5, l6, l7] [vI (σ c0 11)] σ Q := wp_getI (c := 1099) rfl rfl rfl rfl h
theorem r_T_pieceToRaise_48 : Wp L d k_T_pieceToRaise 48 [l0, l1, l2, l3, l4, l5, l6, l7] [vI s0] σ Q ↔ (if s0 ≠ 0 then Wp L d k_T_pieceToRaise 76 [l0, l1, l2, l3, l4, l5, l6, l7] [] σ Q else Wp L d k_T_pieceToRaise 51 [l0, l1, l2, l3, l4, l5, l6, l7] [] σ Q) := wp_if_ne rfl
theorem r_T_pieceToRaise_51 : Wp L d k_T_pieceToRaise 51 [vR b0, l1, l2, l3, l4, l5, l6, l7] [] σ Q ↔ Wp L d k_T_pieceToRaise 52 [vR b0, l1, l2, l3, l4, l5, l6, l7] [vR b0] σ Q := wp_aload rfl rfl
theorem r_T_pieceToRaise_52 : Wp L d k_T_pieceToRaise 52 [l0, l1, vI a2, l3, l4, l5, l6, l7] [vR c0] σ Q ↔ Wp L d k_T_pieceToRaise 53 [l0, l1, vI a2, l3, l4, l5, l6, l7] [vI a2, vR c0] σ Q := wp_iload rfl rfl
theorem r_T_pieceToRaise_53 : Wp L d k_T_pieceToRaise 53 [l0, l1, l2, l3, l4, l5, vR b6, l7] [vI s1, vR c0] σ Q ↔ Wp L d k_T_pieceToRaise 55 [l0, l1, l2, l3, l4, l5, vR b6, l7] [vR b6, vI s1, vR c0] σ Q := wp_aload rfl rfl
theorem r_T_pieceToRaise_55 (h : gK c2 = 4) : Wp L d k_T_pieceToRaise 55 [l0, l1, l2, l3, l4, l5, l6, l7] [vR c2, vI s1, vR c0] σ Q ↔ Wp L d k_T_pieceToRaise 58 [l0, l1, l2, l3, l4, l5, l6, l7] [vI (σ c2 9), vI s1, vR c0] σ Q := wp_getI (c := 1033) rfl rfl rfl rfl h
theorem c_T_pieceToRaise_58 (hR : Run L d 145 [vR c0, vI s1, vI s2] σ r σ1) (h : gK c0 = 6) : Wp L (d + 1) k_T_pieceToRaise 58 [l0, l1, l2, l3, l4, l5, l6, l7] [vI s2, vI s1, vR c0] σ Q ↔ Wp L (d + 1) k_T_pieceToRaise 61 [l0, l1, l2, l3, l4, l5, l6, l7] (r.toList ++ []) σ1 Q := wp_callR (as := [vR c0, vI s1, vI s2]) (rest := []) rfl rfl rfl rfl rfl rfl rfl (grecv_k (by rw [h]) rfl) hR
theorem r_T_pieceToRaise_61 : Wp L d k_T_pieceToRaise 61 [l0, l1, l2, l3, l4, l5, vR b6, l7] [vI s0] σ Q ↔ Wp L d k_T_pieceToRaise 63 [l0, l1, l2, l3, l4, l5, vR b6, vI s0] [] σ Q := wp_istore (i := 7) (ls := [l0, l1, l2, l3, l4, l5, vR b6, l7]) rfl rfl
theorem r_T_pieceToRaise_63 : Wp L d k_T_pieceToRaise 63 [l0, l1, l2, l3, l4, l5, l6, vI a7] [] σ Q ↔ Wp L d k_T_pieceToRaise 65 [l0, l1, l2, l3, l4, l5, l6, vI a7] [vI a7] σ Q := wp_iload rfl rfl
theorem r_T_pieceToRaise_65 : Wp L d k_T_pieceToRaise 65 [l0, l1, l2, vI a3, l4, l5, l6, l7] [vI s0] σ Q ↔ Wp L d k_T_pieceToRaise 66 [l0, l1, l2, vI a3, l4, l5, l6, l7] [vI a3, vI s0] σ Q := wp_iload rfl rfl
theorem r_T_pieceToRaise_66 : Wp L d k_T_pieceToRaise 66 [l0, l1, l2, l3, l4, l5, l6, l7] [vI s1, vI s0] σ Q ↔ (if s1 ≤ s0 then Wp L d k_T_pieceToRaise 76 [l0, l1, l2, l3, l4, l5, l6, l7] [] σ Q else Wp L d k_T_pieceToRaise 69 [l0, l1, l2, l3, l4, l5, l6, l7] [] σ Q) := wp_cmp_ge rfl
theorem r_T_pieceToRaise_69 : Wp L d k_T_pieceToRaise 69 [l0, l1, l2, l3, l4, l5, l6, vI a7] [] σ Q ↔ Wp L d k_T_pieceToRaise 71 [l0, l1, l2, l3, l4, l5, l6, vI a7] [vI a7] σ Q := wp_iload rfl rfl
theorem r_T_pieceToRaise_71 : Wp L d k_T_pieceToRaise 71 [l0, l1, vI a2, l3, l4, l5, l6, l7] [vI s0] σ Q ↔ Wp L d k_T_pieceToRaise 72 [l0, l1, vI a2, vI s0, l4, l5, l6, l7] [] σ Q := wp_istore (i := 3) (ls := [l0, l1, vI a2, l3, l4, l5, l6, l7]) rfl rfl
theorem r_T_pieceToRaise_72 : Wp L d k_T_pieceToRaise 72 [l0, l1, l2, l3, l4, vI a5, l6, l7] [] σ Q ↔ Wp L d k_T_pieceToRaise 74 [l0, l1, l2, l3, l4, vI a5, l6, l7] [vI a5] σ Q := wp_iload rfl rfl
theorem r_T_pieceToRaise_74 : Wp L d k_T_pieceToRaise 74 [l0, l1, l2, vI a3, l4, l5, l6, l7] [vI s0] σ Q ↔ Wp L d k_T_pieceToRaise 76 [l0, l1, l2, vI a3, vI s0, l5, l6, l7] [] σ Q := wp_istore (i := 4) (ls := [l0, l1, l2, vI a3, l4, l5, l6, l7]) rfl rfl
theorem r_T_pieceToRaise_76 : Wp L d k_T_pieceToRaise 76 [l0, l1, l2, l3, vI a4, vI a5, l6, l7] [] σ Q ↔ Wp L d k_T_pieceToRaise 79 [l0, l1, l2, l3, vI a4, vI (w32 (a5 + 1)), l6, l7] [] σ Q := wp_iinc (i := 5) (ls := [l0, l1, l2, l3, vI a4, vI a5, l6, l7]) rfl rfl
theorem r_T_pieceToRaise_79 : Wp L d k_T_pieceToRaise 79 [l0, l1, l2, l3, l4, l5, l6, l7] [] σ Q ↔ Wp L d k_T_pieceToRaise 16 [l0, l1, l2, l3, l4, l5, l6, l7] [] σ Q := wp_goto rfl
theorem r_T_pieceToRaise_82 : Wp L d k_T_pieceToRaise 82 [l0, l1, l2, l3, vI a4, l5, l6, l7] [] σ Q ↔ Wp L d k_T_pieceToRaise 84 [l0, l1, l2, l3, vI a4, l5, l6, l7] [vI a4] σ Q := wp_iload rfl rfl
theorem r_T_pieceToRaise_84 : Wp L d k_T_pieceToRaise 84 [l0, l1, l2, l3, l4, l5, l6, l7] [vI s0] σ Q ↔ Q (some (vI s0)) σ := wp_iret rfl
theorem sp_T_pieceToRaise {f : Nat → Int} (hw : WB f) (hc : CB 29 f σ) (hcs : CS 99 f σ) : Run L (d + 2) 144 [vR 99, vR 29] σ (some (vI (gnn (bbt f (brft f (f 1).toNat) (f 1).toNat)))) σ := by
  refine Run_of (C' := k_T_pieceToRaise) rfl ?_
  show Wp L (d + 2) k_T_pieceToRaise 0 [vR 99, vR 29, vU, vU, vU, vU, vU, vU] [] σ _
  obtain ⟨K99, s0, K100, N100⟩ := litS
  have hB := BR29
  obtain ⟨⟨K0, q0, q1, q2, q3, q4, q5, q6, q7⟩, ⟨K1, K2, K3, K4, K5, K6, K7, K8⟩, ⟨N1, N2, N3, N4, N5, N6, N7, N8⟩, QP, KP⟩ := hB
  simp only [Nat.reduceAdd] at K0 q0 q1 q2 q3 q4 q5 q6 q7 K1 K2 K3 K4 K5 K6 K7 K8 N1 N2 N3 N4 N5 N6 N7 N8 QP KP

  have w2 := hw.2.1
  have c2 := hc.2.1
  have hF := sp_T_fitting (L := L) (d := d + 0) (σ := σ) hw hc hcs
  have xb := brft_bd f (f 1).toNat
  generalize brft f (f 1).toNat = x at hF xb ⊢
  simp (disch := first | assumption | exact gb_01 _ | omega) only [r_T_pieceToRaise_0, r_T_pieceToRaise_1, r_T_pieceToRaise_5, r_T_pieceToRaise_6, r_T_pieceToRaise_8, r_T_pieceToRaise_9, r_T_pieceToRaise_11, r_T_pieceToRaise_13, r_T_pieceToRaise_14, r_T_pieceToRaise_18, r_T_pieceToRaise_19, r_T_pieceToRaise_22, r_T_pieceToRaise_25, r_T_pieceToRaise_26, r_T_pieceToRaise_29, r_T_pieceToRaise_31, r_T_pieceToRaise_32, r_T_pieceToRaise_34, r_T_pieceToRaise_36, r_T_pieceToRaise_39, r_T_pieceToRaise_40, r_T_pieceToRaise_43, r_T_pieceToRaise_45, r_T_pieceToRaise_48, r_T_pieceToRaise_51, r_T_pieceToRaise_52, r_T_pieceToRaise_53, r_T_pieceToRaise_55, r_T_pieceToRaise_61, r_T_pieceToRaise_63, r_T_pieceToRaise_65, r_T_pieceToRaise_66, r_T_pieceToRaise_69, r_T_pieceToRaise_71, r_T_pieceToRaise_72, r_T_pieceToRaise_74, r_T_pieceToRaise_76, r_T_pieceToRaise_79, r_T_pieceToRaise_82, r_T_pieceToRaise_84, c_T_pieceToRaise_2 hF, Option.toList, List.singleton_append, List.cons_append, List.nil_append, List.append_nil, w32_gb, w32i, tn_add, tn_mul, Int.toNat_natCast, Int.toNat_zero, Int.reduceLE, Int.reduceLT, Int.reduceEq, Int.reduceNe, gb_T, gb_F, Int.reduceToNat, eq_self, true_or, or_true, and_true, true_and, and_self, ↓ite_gb0, ↓ite_gbn, ↓if_pos, ↓if_neg, if_true, if_false, not_true_eq_false, not_false_eq_true, gb_ne0, gb_eq0]
  refine wloop (n := (f 1).toNat) (I := fun k ls τ => (∃ l6 l7, ls = [vR 99, vR 29, vI x, vI (if bbt f x k < 0 then 9 else brml f x (f (120 + 12 * (bbt f x k).toNat + 10)) 6), vI (gnn (bbt f x k)), vI (k : Int), l6, l7] ∧ gcat l6 = 1) ∧ τ = σ) (fun k ls τ hk hi hq => ?_) (fun ls τ hi => ?_) (f 1).toNat 0 (by omega) _ _ ⟨⟨_, _, rfl, rfl⟩, rfl⟩
  · obtain ⟨⟨l6, l7, rfl, g6⟩, rfl⟩ := hi
    have kp := KP k (by omega)
    have q := CBp hc (p := k) (by omega)
    have w := WBp hw (p := k) (by omega)
    have bb := bbt_bd f x k
    have m1 := brml_bd f x (f (120 + 12 * k + 10)) 6
    simp only [Nat.reduceAdd] at q
    have hM := sp_T_mostLeft (L := L) (d := d + 0) (σ := τ) (a1 := x) (a2 := f (120 + 12 * k + 10)) hcs (by omega) (by omega)
    have fin : ∀ (y z : Int) (l6 l7 : gV), gcat l6 = 1 → y = (if bbt f x (k + 1) < 0 then 9 else brml f x (f (120 + 12 * (bbt f x (k + 1)).toNat + 10)) 6) → z = gnn (bbt f x (k + 1)) → Wp L (d + 2) k_T_pieceToRaise 16 [vR 99, vR 29, vI x, vI y, vI z, vI ((k : Int) + 1), l6, l7] [] τ _ := fun y z l6 l7 g e1 e2 => hq _ _ ⟨⟨l6, l7, by rw [e1, e2, show (((k + 1 : Nat)) : Int) = (k : Int) + 1 by omega], g⟩, rfl⟩
    have keep : ∀ l6 l7 : gV, gcat l6 = 1 → bbt f x (k + 1) = bbt f x k → Wp L (d + 2) k_T_pieceToRaise 16 [vR 99, vR 29, vI x, vI (if bbt f x k < 0 then 9 else brml f x (f (120 + 12 * (bbt f x k).toNat + 10)) 6), vI (gnn (bbt f x k)), vI ((k : Int) + 1), l6, l7] [] τ _ := fun l6 l7 g e => fin _ _ _ _ g (by rw [e]) (by rw [e])
    rw [r_T_pieceToRaise_16]
    generalize hv : (if bbt f x k < 0 then 9 else brml f x (f (120 + 12 * (bbt f x k).toNat + 10)) 6) = v at keep ⊢
    by_cases e1 : f (120 + 12 * k) = 4
    · by_cases e2 : f (120 + 12 * k + 11) = 0
      · by_cases e3 : bbt f x k < 0 ∨ brml f x (f (120 + 12 * k + 10)) 6 < brml f x (f (120 + 12 * (bbt f x k).toNat + 10)) 6
        · have gs : bbt f x (k + 1) = k := if_pos ⟨⟨e1, e2⟩, e3⟩
          have lv : brml f x (f (120 + 12 * k + 10)) 6 < v := by
            rw [← hv]
            split
            · omega
            · rcases e3 with y | y
              · omega
              · exact y
          simp (disch := first | assumption | exact gb_01 _ | omega) only [r_T_pieceToRaise_0, r_T_pieceToRaise_1, r_T_pieceToRaise_5, r_T_pieceToRaise_6, r_T_pieceToRaise_8, r_T_pieceToRaise_9, r_T_pieceToRaise_11, r_T_pieceToRaise_13, r_T_pieceToRaise_14, r_T_pieceToRaise_18, r_T_pieceToRaise_19, r_T_pieceToRaise_22, r_T_pieceToRaise_25, r_T_pieceToRaise_26, r_T_pieceToRaise_29, r_T_pieceToRaise_31, r_T_pieceToRaise_32, r_T_pieceToRaise_34, r_T_pieceToRaise_36, r_T_pieceToRaise_39, r_T_pieceToRaise_40, r_T_pieceToRaise_43, r_T_pieceToRaise_45, r_T_pieceToRaise_48, r_T_pieceToRaise_51, r_T_pieceToRaise_52, r_T_pieceToRaise_53, r_T_pieceToRaise_55, r_T_pieceToRaise_61, r_T_pieceToRaise_63, r_T_pieceToRaise_65, r_T_pieceToRaise_66, r_T_pieceToRaise_69, r_T_pieceToRaise_71, r_T_pieceToRaise_72, r_T_pieceToRaise_74, r_T_pieceToRaise_76, r_T_pieceToRaise_79, r_T_pieceToRaise_82, r_T_pieceToRaise_84, c_T_pieceToRaise_58 hM, Option.toList, List.singleton_append, List.cons_append, List.nil_append, List.append_nil, q3, QP, q, w32_gb, w32i, tn_add, tn_mul, Int.toNat_natCast, Int.toNat_zero, Int.reduceLE, Int.reduceLT, Int.reduceEq, Int.reduceNe, gb_T, gb_F, Int.reduceToNat, eq_self, true_or, or_true, and_true, true_and, and_self, ↓ite_gb0, ↓ite_gbn, ↓if_pos, ↓if_neg, if_true, if_false, not_true_eq_false, not_false_eq_true, gb_ne0, gb_eq0]
          refine fin _ _ _ _ rfl ?_ ?_
          · rw [gs, if_neg (by omega), Int.toNat_natCast]
          · rw [gs]
            exact (if_neg (by omega)).symm
        · have gs : bbt f x (k + 1) = bbt f x k := if_neg (fun z => e3 z.2)
          have lv : ¬ brml f x (f (120 + 12 * k + 10)) 6 < v := by
            rw [← hv, if_neg (fun y => e3 (Or.inl y))]
            exact fun y => e3 (Or.inr y)
          simp (disch := first | assumption | exact gb_01 _ | omega) only [r_T_pieceToRaise_0, r_T_pieceToRaise_1, r_T_pieceToRaise_5, r_T_pieceToRaise_6, r_T_pieceToRaise_8, r_T_pieceToRaise_9, r_T_pieceToRaise_11, r_T_pieceToRaise_13, r_T_pieceToRaise_14, r_T_pieceToRaise_18, r_T_pieceToRaise_19, r_T_pieceToRaise_22, r_T_pieceToRaise_25, r_T_pieceToRaise_26, r_T_pieceToRaise_29, r_T_pieceToRaise_31, r_T_pieceToRaise_32, r_T_pieceToRaise_34, r_T_pieceToRaise_36, r_T_pieceToRaise_39, r_T_pieceToRaise_40, r_T_pieceToRaise_43, r_T_pieceToRaise_45, r_T_pieceToRaise_48, r_T_pieceToRaise_51, r_T_pieceToRaise_52, r_T_pieceToRaise_53, r_T_pieceToRaise_55, r_T_pieceToRaise_61, r_T_pieceToRaise_63, r_T_pieceToRaise_65, r_T_pieceToRaise_66, r_T_pieceToRaise_69, r_T_pieceToRaise_71, r_T_pieceToRaise_72, r_T_pieceToRaise_74, r_T_pieceToRaise_76, r_T_pieceToRaise_79, r_T_pieceToRaise_82, r_T_pieceToRaise_84, c_T_pieceToRaise_58 hM, Option.toList, List.singleton_append, List.cons_append, List.nil_append, List.append_nil, q3, QP, q, w32_gb, w32i, tn_add, tn_mul, Int.toNat_natCast, Int.toNat_zero, Int.reduceLE, Int.reduceLT, Int.reduceEq, Int.reduceNe, gb_T, gb_F, Int.reduceToNat, eq_self, true_or, or_true, and_true, true_and, and_self, ↓ite_gb0, ↓ite_gbn, ↓if_pos, ↓if_neg, if_true, if_false, not_true_eq_false, not_false_eq_true, gb_ne0, gb_eq0]
          exact keep _ _ rfl gs
      · simp (disch := first | assumption | exact gb_01 _ | omega) only [r_T_pieceToRaise_0, r_T_pieceToRaise_1, r_T_pieceToRaise_5, r_T_pieceToRaise_6, r_T_pieceToRaise_8, r_T_pieceToRaise_9, r_T_pieceToRaise_11, r_T_pieceToRaise_13, r_T_pieceToRaise_14, r_T_pieceToRaise_18, r_T_pieceToRaise_19, r_T_pieceToRaise_22, r_T_pieceToRaise_25, r_T_pieceToRaise_26, r_T_pieceToRaise_29, r_T_pieceToRaise_31, r_T_pieceToRaise_32, r_T_pieceToRaise_34, r_T_pieceToRaise_36, r_T_pieceToRaise_39, r_T_pieceToRaise_40, r_T_pieceToRaise_43, r_T_pieceToRaise_45, r_T_pieceToRaise_48, r_T_pieceToRaise_51, r_T_pieceToRaise_52, r_T_pieceToRaise_53, r_T_pieceToRaise_55, r_T_pieceToRaise_61, r_T_pieceToRaise_63, r_T_pieceToRaise_65, r_T_pieceToRaise_66, r_T_pieceToRaise_69, r_T_pieceToRaise_71, r_T_pieceToRaise_72, r_T_pieceToRaise_74, r_T_pieceToRaise_76, r_T_pieceToRaise_79, r_T_pieceToRaise_82, r_T_pieceToRaise_84, c_T_pieceToRaise_58 hM, Option.toList, List.singleton_append, List.cons_append, List.nil_append, List.append_nil, q3, QP, q, w32_gb, w32i, tn_add, tn_mul, Int.toNat_natCast, Int.toNat_zero, Int.reduceLE, Int.reduceLT, Int.reduceEq, Int.reduceNe, gb_T, gb_F, Int.reduceToNat, eq_self, true_or, or_true, and_true, true_and, and_self, ↓ite_gb0, ↓ite_gbn, ↓if_pos, ↓if_neg, if_true, if_false, not_true_eq_false, not_false_eq_true, gb_ne0, gb_eq0]
        exact keep _ _ rfl (if_neg (fun z => e2 z.1.2))
    · simp (disch := first | assumption | exact gb_01 _ | omega) only [r_T_pieceToRaise_0, r_T_pieceToRaise_1, r_T_pieceToRaise_5, r_T_pieceToRaise_6, r_T_pieceToRaise_8, r_T_pieceToRaise_9, r_T_pieceToRaise_11, r_T_pieceToRaise_13, r_T_pieceToRaise_14, r_T_pieceToRaise_18, r_T_pieceToRaise_19, r_T_pieceToRaise_22, r_T_pieceToRaise_25, r_T_pieceToRaise_26, r_T_pieceToRaise_29, r_T_pieceToRaise_31, r_T_pieceToRaise_32, r_T_pieceToRaise_34, r_T_pieceToRaise_36, r_T_pieceToRaise_39, r_T_pieceToRaise_40, r_T_pieceToRaise_43, r_T_pieceToRaise_45, r_T_pieceToRaise_48, r_T_pieceToRaise_51, r_T_pieceToRaise_52, r_T_pieceToRaise_53, r_T_pieceToRaise_55, r_T_pieceToRaise_61, r_T_pieceToRaise_63, r_T_pieceToRaise_65, r_T_pieceToRaise_66, r_T_pieceToRaise_69, r_T_pieceToRaise_71, r_T_pieceToRaise_72, r_T_pieceToRaise_74, r_T_pieceToRaise_76, r_T_pieceToRaise_79, r_T_pieceToRaise_82, r_T_pieceToRaise_84, c_T_pieceToRaise_58 hM, Option.toList, List.singleton_append, List.cons_append, List.nil_append, List.append_nil, q3, QP, q, w32_gb, w32i, tn_add, tn_mul, Int.toNat_natCast, Int.toNat_zero, Int.reduceLE, Int.reduceLT, Int.reduceEq, Int.reduceNe, gb_T, gb_F, Int.reduceToNat, eq_self, true_or, or_true, and_true, true_and, and_self, ↓ite_gb0, ↓ite_gbn, ↓if_pos, ↓if_neg, if_true, if_false, not_true_eq_false, not_false_eq_true, gb_ne0, gb_eq0]
      exact keep _ _ rfl (if_neg (fun z => e1 z.1.1))
  · obtain ⟨⟨l6, l7, rfl, g6⟩, rfl⟩ := hi
    rw [r_T_pieceToRaise_16]
    simp (disch := first | assumption | exact gb_01 _ | omega) only [r_T_pieceToRaise_0, r_T_pieceToRaise_1, r_T_pieceToRaise_5, r_T_pieceToRaise_6, r_T_pieceToRaise_8, r_T_pieceToRaise_9, r_T_pieceToRaise_11, r_T_pieceToRaise_13, r_T_pieceToRaise_14, r_T_pieceToRaise_18, r_T_pieceToRaise_19, r_T_pieceToRaise_22, r_T_pieceToRaise_25, r_T_pieceToRaise_26, r_T_pieceToRaise_29, r_T_pieceToRaise_31, r_T_pieceToRaise_32, r_T_pieceToRaise_34, r_T_pieceToRaise_36, r_T_pieceToRaise_39, r_T_pieceToRaise_40, r_T_pieceToRaise_43, r_T_pieceToRaise_45, r_T_pieceToRaise_48, r_T_pieceToRaise_51, r_T_pieceToRaise_52, r_T_pieceToRaise_53, r_T_pieceToRaise_55, r_T_pieceToRaise_61, r_T_pieceToRaise_63, r_T_pieceToRaise_65, r_T_pieceToRaise_66, r_T_pieceToRaise_69, r_T_pieceToRaise_71, r_T_pieceToRaise_72, r_T_pieceToRaise_74, r_T_pieceToRaise_76, r_T_pieceToRaise_79, r_T_pieceToRaise_82, r_T_pieceToRaise_84, q3, w32_gb, w32i, tn_add, tn_mul, Int.toNat_natCast, Int.toNat_zero, Int.reduceLE, Int.reduceLT, Int.reduceEq, Int.reduceNe, gb_T, gb_F, Int.reduceToNat, eq_self, true_or, or_true, and_true, true_and, and_self, ↓ite_gb0, ↓ite_gbn, ↓if_pos, ↓if_neg, if_true, if_false, not_true_eq_false, not_false_eq_true, gb_ne0, gb_eq0]
