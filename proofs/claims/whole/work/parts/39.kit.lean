/-! Kit: rows of a state, loops, the bridge at any cell. -/
variable {L d : Nat} {σ σ1 : Nat → Nat → Int} {Q : Option gV → (Nat → Nat → Int) → Prop} {a0 a1 a2 a3 a4 a5 a6 a7 a8 a9 a10 a11 s0 s1 s2 s3 s4 s5 s6 s7 s8 s9 : Int} {l0 l1 l2 l3 l4 l5 l6 l7 l8 l9 l10 l11 t0 t1 t2 t3 t4 t5 t6 t7 t8 t9 : gV} {b0 b1 b2 b3 b4 b5 b6 b7 b8 b9 b10 b11 c0 c1 c2 c3 c4 c5 c6 c7 c8 c9 : Nat} {r : Option gV}
/-- f with place i become v -/
def fu (f : Nat → Int) (i : Nat) (v : Int) : Nat → Int := fun j => if j = i then v else f j
theorem fu_eq {f : Nat → Int} {i : Nat} {v : Int} : fu f i v i = v := if_pos rfl
theorem fu_ne {f : Nat → Int} {i j : Nat} {v : Int} (h : ¬ j = i) : fu f i v j = f j := if_neg h
theorem gupd_fu {σ : gMm} {k i : Nat} {v : Int} : gupd σ k i v k = fu (σ k) i v := by
  funext j
  unfold gupd fu
  simp only [true_and]
theorem gupd_rw {σ : gMm} {k k' i : Nat} {v : Int} (h : ¬ k' = k) : gupd σ k i v k' = σ k' := by
  funext j
  unfold gupd
  rw [if_neg (fun e => h e.1)]
/-- row k becomes g -/
def gsr (σ : gMm) (k : Nat) (g : Nat → Int) : gMm := fun k' j' => if k' = k then g j' else σ k' j'
theorem gsr_eq {σ : gMm} {k : Nat} {g : Nat → Int} : gsr σ k g k = g := by
  funext j
  exact if_pos rfl
theorem gsr_ne {σ : gMm} {k k' : Nat} {g : Nat → Int} (h : ¬ k' = k) : gsr σ k g k' = σ k' := by
  funext j
  exact if_neg h
theorem gsr_id {σ : gMm} {k : Nat} : gsr σ k (σ k) = σ := by
  funext k' j
  unfold gsr
  split
  · next h => rw [h]
  · rfl
theorem gsr_upd {σ : gMm} {k i : Nat} {g : Nat → Int} {v : Int} : gupd (gsr σ k g) k i v = gsr σ k (fu g i v) := by
  funext k' j
  simp only [gsr, fu, gupd]
  by_cases h : k' = k
  · by_cases e : j = i
    · rw [if_pos ⟨h, e⟩, if_pos h, if_pos e]
    · rw [if_neg (fun x => e x.2), if_pos h, if_pos h, if_neg e]
  · rw [if_neg (fun x => h x.1), if_neg h, if_neg h]
theorem gupd_sr {σ : gMm} {k i : Nat} {v : Int} : gupd σ k i v = gsr σ k (fu (σ k) i v) := by
  rw [← gsr_upd, gsr_id]
theorem gsr_gsr {σ : gMm} {k : Nat} {g g' : Nat → Int} : gsr (gsr σ k g) k g' = gsr σ k g' := by
  funext k' j
  unfold gsr
  split <;> rfl
theorem w32i {x : Int} (h : -2147483648 ≤ x ∧ x < 2147483648) : w32 x = x := w32_id h
theorem w64i {x : Int} (h : -9223372036854775808 ≤ x ∧ x < 9223372036854775808) : w64 x = x := w64_id h
theorem tn_add {a b : Int} (h : 0 ≤ a ∧ 0 ≤ b) : (a + b).toNat = a.toNat + b.toNat := by omega
theorem tn_mul {a b : Int} (h : 0 ≤ a ∧ 0 ≤ b) : (a * b).toNat = a.toNat * b.toNat := by
  obtain ⟨m, rfl⟩ := Int.eq_ofNat_of_zero_le h.1
  obtain ⟨n, rfl⟩ := Int.eq_ofNat_of_zero_le h.2
  rw [← Int.natCast_mul]
  simp only [Int.toNat_natCast]
theorem ite_gb0 {p A B : Prop} [Decidable p] : (if gb p = 0 then A else B) = (if p then B else A) := by
  by_cases h : p
  · rw [if_pos h, if_neg (by rw [gb_t h]; decide)]
  · rw [if_neg h, if_pos (gb_f h)]
theorem ite_gbn {p A B : Prop} [Decidable p] : (if gb p ≠ 0 then A else B) = (if p then A else B) := by
  by_cases h : p
  · rw [if_pos h, if_pos (by rw [gb_t h]; decide)]
  · rw [if_neg h, if_neg (fun e => e (gb_f h))]
theorem vI_inj {x y : Int} : (vI x = vI y) ↔ x = y := ⟨fun h => by cases h; rfl, fun h => by rw [h]⟩
theorem vL_inj {x y : Int} : (vL x = vL y) ↔ x = y := ⟨fun h => by cases h; rfl, fun h => by rw [h]⟩
theorem vR_inj {x y : Nat} : (vR x = vR y) ↔ x = y := ⟨fun h => by cases h; rfl, fun h => by rw [h]⟩
theorem gb_iff {p q : Prop} {ip : Decidable p} {iq : Decidable q} (h : p ↔ q) : @gb p ip = @gb q iq := by
  by_cases e : q
  · rw [gb_t e, gb_t (h.2 e)]
  · rw [gb_f e, gb_f (fun x => e (h.1 x))]
theorem w32_gb {p : Prop} {ip : Decidable p} {x : Int} (h : -1000000000 ≤ x ∧ x ≤ 1000000000) : w32 (x + @gb p ip) = x + @gb p ip := by
  rcases gb_01 p with e | e <;> rw [e] <;> exact w32i (by omega)
theorem gb_bd {p : Prop} {ip : Decidable p} : 0 ≤ @gb p ip ∧ @gb p ip ≤ 1 := by
  rcases gb_01 p with h | h <;> omega
/-- a loop with an invariant -/
theorem wloop {L d pc : Nat} {C : gCode} {Q : Option gV → gMm → Prop} {n : Nat} {I : Nat → List gV → gMm → Prop} (hs : ∀ k ls σ, k < n → I k ls σ → (∀ ls' σ', I (k + 1) ls' σ' → Wp L d C pc ls' [] σ' Q) → Wp L d C pc ls [] σ Q) (he : ∀ ls σ, I n ls σ → Wp L d C pc ls [] σ Q) : ∀ (m k : Nat), k + m = n → ∀ ls σ, I k ls σ → Wp L d C pc ls [] σ Q
  | 0, k, h, ls, σ, hi => by
    have e : k = n := by omega
    subst e
    exact he ls σ hi
  | m + 1, k, h, ls, σ, hi => hs k ls σ (by omega) hi (fun ls' σ' hi' => wloop hs he m (k + 1) (by omega) ls' σ' hi')
theorem wloopF {L d pc : Nat} {C : gCode} {Q : Option gV → gMm → Prop} (n : Nat) (F : Nat → List gV) (S : Nat → gMm) (hs : ∀ k, k < n → (∀ ls' σ', ls' = F (k + 1) → σ' = S (k + 1) → Wp L d C pc ls' [] σ' Q) → Wp L d C pc (F k) [] (S k) Q) (he : Wp L d C pc (F n) [] (S n) Q) : Wp L d C pc (F 0) [] (S 0) Q :=
  wloop (n := n) (I := fun k ls σ => ls = F k ∧ σ = S k) (fun k ls σ hk hi hq => by
    obtain ⟨rfl, rfl⟩ := hi
    exact hs k hk (fun ls' σ' h1 h2 => hq ls' σ' ⟨h1, h2⟩)) (fun ls σ hi => by
    obtain ⟨rfl, rfl⟩ := hi
    exact he) n 0 (by omega) _ _ ⟨rfl, rfl⟩
theorem Run_ex {L d y maxL na rk : Nat} {as : List gV} {C' : gCode} {r : Option gV} {σ : gMm} {P : gMm → Prop} (hT : gT y = some (C', maxL, na, rk)) (h : Wp L d C' 0 (gentry maxL as) [] σ (fun r' σ' => r' = r ∧ P σ')) : ∃ σ', Run L d y as σ r σ' ∧ P σ' := by
  obtain ⟨n, r', m', h1, h2, h3, h4⟩ := h
  obtain ⟨sh, σ'⟩ := m'
  dsimp only at h2 h4
  subst h2; subst h3
  exact ⟨σ', ⟨C', maxL, na, rk, n, hT, h1⟩, h4⟩
theorem Run_ex2 {L d y maxL na rk : Nat} {as : List gV} {C' : gCode} {σ : gMm} {P : Option gV → gMm → Prop} (hT : gT y = some (C', maxL, na, rk)) (h : Wp L d C' 0 (gentry maxL as) [] σ P) : ∃ r σ', Run L d y as σ r σ' ∧ P r σ' := by
  obtain ⟨n, r', m', h1, h2, h3⟩ := h
  obtain ⟨sh, σ'⟩ := m'
  dsimp only at h2 h3
  subst h2
  exact ⟨r', σ', ⟨C', maxL, na, rk, n, hT, h1⟩, h3⟩
/-- the bridge at cell b -/
def BR (b : Nat) : Prop := (gK b = 1 ∧ gq b 0 = b + 1 ∧ gq b 1 = b + 2 ∧ gq b 2 = b + 3 ∧ gq b 3 = b + 4 ∧ gq b 4 = b + 5 ∧ gq b 5 = b + 6 ∧ gq b 6 = b + 7 ∧ gq b 7 = b + 8) ∧ (gK (b + 1) = 100 ∧ gK (b + 2) = 100 ∧ gK (b + 3) = 101 ∧ gK (b + 4) = 102 ∧ gK (b + 5) = 100 ∧ gK (b + 6) = 100 ∧ gK (b + 7) = 100 ∧ gK (b + 8) = 100) ∧ (((gN (b + 1) : Nat) : Int) = 12 ∧ ((gN (b + 2) : Nat) : Int) = 12 ∧ ((gN (b + 3) : Nat) : Int) = 12 ∧ ((gN (b + 4) : Nat) : Int) = 40 ∧ ((gN (b + 5) : Nat) : Int) = 13 ∧ ((gN (b + 6) : Nat) : Int) = 13 ∧ ((gN (b + 7) : Nat) : Int) = 13 ∧ ((gN (b + 8) : Nat) : Int) = 13) ∧ (∀ i, i < 40 → gq (b + 4) i = b + 9 + i) ∧ ∀ i, i < 40 → gK (b + 9 + i) = 4
theorem BR29 : BR 29 := by unfold BR; decide +kernel
theorem BR130 : BR 130 := by unfold BR; decide +kernel
theorem BR230 : BR 230 := by unfold BR; decide +kernel
theorem litX : gK 27 = 0 ∧ gK 28 = 5 ∧ gK 29 = 1 ∧ gK 78 = 10 ∧ gK 97 = 2 ∧ gK 99 = 6 ∧ gK 109 = 11 ∧ gK 123 = 3 ∧ gK 125 = 7 ∧ gK 279 = 8 ∧ gK 282 = 9 := ⟨gK_27, gK_28, gK_29, gK_78, gK_97, gK_99, gK_109, gK_123, gK_125, gK_279, gK_282⟩
theorem litM : gK 293 = 12 ∧ gq 293 0 = 294 ∧ gK 294 = 100 ∧ ((gN 294 : Nat) : Int) = 3540 := ⟨gK_293, gq_293_0, gK_294, gN_294⟩
theorem CBp {b p : Nat} {f : Nat → Int} {σ : gMm} (hc : CB b f σ) (hp : (p : Int) < f 1) : σ (b + 9 + p) 0 = f (120 + 12 * p) ∧ σ (b + 9 + p) 1 = f (120 + 12 * p + 1) ∧ σ (b + 9 + p) 2 = f (120 + 12 * p + 2) ∧ σ (b + 9 + p) 3 = f (120 + 12 * p + 3) ∧ σ (b + 9 + p) 4 = f (120 + 12 * p + 4) ∧ σ (b + 9 + p) 5 = f (120 + 12 * p + 5) ∧ σ (b + 9 + p) 6 = f (120 + 12 * p + 6) ∧ σ (b + 9 + p) 7 = f (120 + 12 * p + 7) ∧ σ (b + 9 + p) 8 = f (120 + 12 * p + 9) ∧ σ (b + 9 + p) 9 = f (120 + 12 * p + 10) ∧ σ (b + 9 + p) 10 = f (120 + 12 * p + 8) ∧ σ (b + 9 + p) 11 = f (120 + 12 * p + 11) := hc.2.2.2.1 p hp
theorem WBp {p : Nat} {f : Nat → Int} (hw : WB f) (hp : (p : Int) < f 1) : (0 ≤ f (120 + 12 * p) ∧ f (120 + 12 * p) ≤ 4) ∧ (0 ≤ f (120 + 12 * p + 1) ∧ f (120 + 12 * p + 1) ≤ f 0) ∧ (1 ≤ f (120 + 12 * p + 2) ∧ f (120 + 12 * p + 2) ≤ 999) ∧ (1 ≤ f (120 + 12 * p + 3) ∧ f (120 + 12 * p + 3) ≤ 9) ∧ (0 ≤ f (120 + 12 * p + 4) ∧ f (120 + 12 * p + 4) ≤ 99) ∧ (0 ≤ f (120 + 12 * p + 5) ∧ f (120 + 12 * p + 5) ≤ 99) ∧ (0 ≤ f (120 + 12 * p + 6) ∧ f (120 + 12 * p + 6) ≤ 5) ∧ (0 ≤ f (120 + 12 * p + 7) ∧ f (120 + 12 * p + 7) ≤ 599) ∧ (f (120 + 12 * p + 8) = 0 ∨ f (120 + 12 * p + 8) = 1) ∧ (0 ≤ f (120 + 12 * p + 9) ∧ f (120 + 12 * p + 9) ≤ 5) ∧ (f (120 + 12 * p + 10) = 0 ∨ f (120 + 12 * p + 10) = 1) ∧ (f (120 + 12 * p + 11) = 0 ∨ f (120 + 12 * p + 11) = 1) ∧ (f (120 + 12 * p) = 4 → f (120 + 12 * p + 8) = 0) ∧ (f (120 + 12 * p) ≠ 4 → f (120 + 12 * p + 11) = 0) ∧ (f (120 + 12 * p) = 4 → f (120 + 12 * p + 4) = 0 ∧ f (120 + 12 * p + 5) = 0) := hw.2.2.2.1 p hp
theorem gsm_gb {P : Nat → Prop} {i : ∀ k, Decidable (P k)} (n : Nat) : 0 ≤ gsm (fun k => gb (P k)) n ∧ gsm (fun k => gb (P k)) n ≤ n := by
  have := gsm_bd (g := fun k => gb (P k)) (B := 1) n (fun k _ => gb_bd)
  omega
def ggone (f : Nat → Int) (n : Nat) : Int := gsm (fun p => gb (f (120 + 12 * p) ≠ 4 ∧ f (120 + 12 * p + 8) = 0)) n
def gdown (f : Nat → Int) (n : Nat) : Int := gsm (fun k => f (20 + 3 * k + 2)) n
def gpcs (f : Nat → Int) (n : Nat) : Int := gsm (fun p => gb (f (120 + 12 * p) = 4)) n
def gfnds (f : Nat → Int) (n : Nat) : Int := gsm (fun p => gb (f (120 + 12 * p) = 4 ∧ f (120 + 12 * p + 11) = 1)) n
theorem ggone_bd (f : Nat → Int) (n : Nat) : 0 ≤ ggone f n ∧ ggone f n ≤ n := gsm_gb n
theorem gdown_bd {f : Nat → Int} (hw : WB f) (n : Nat) (h : (n : Int) ≤ f 0) : 0 ≤ gdown f n ∧ gdown f n ≤ n := by
  have := gsm_bd (g := fun k => f (20 + 3 * k + 2)) (B := 1) n (fun k hk => by
    have := (hw.2.2.1 k (by omega)).2.2
    omega)
  unfold gdown
  omega
theorem r_Q_isGone_0 : Wp L d k_Q_isGone 0 [vR b0] [] σ Q ↔ Wp L d k_Q_isGone 1 [vR b0] [vR b0] σ Q := wp_aload rfl rfl
theorem r_Q_isGone_1 (h : gK c0 = 4) : Wp L d k_Q_isGone 1 [l0] [vR c0] σ Q ↔ Wp L d k_Q_isGone 4 [l0] [vI (σ c0 10)] σ Q := wp_getI (c := 1098) rfl rfl rfl rfl h
theorem r_Q_isGone_4 : Wp L d k_Q_isGone 4 [l0] [vI s0] σ Q ↔ (if s0 ≠ 0 then Wp L d k_Q_isGone 19 [l0] [] σ Q else Wp L d k_Q_isGone 7 [l0] [] σ Q) := wp_if_ne rfl
theorem r_Q_isGone_7 : Wp L d k_Q_isGone 7 [vR b0] [] σ Q ↔ Wp L d k_Q_isGone 8 [vR b0] [vR b0] σ Q := wp_aload rfl rfl
theorem r_Q_isGone_8 (h : gK c0 = 4) : Wp L d k_Q_isGone 8 [l0] [vR c0] σ Q ↔ Wp L d k_Q_isGone 11 [l0] [vI (σ c0 0)] σ Q := wp_getI (c := 1024) rfl rfl rfl rfl h
theorem r_Q_isGone_11 : Wp L d k_Q_isGone 11 [l0] [vI s0] σ Q ↔ Wp L d k_Q_isGone 12 [l0] [vI 4, vI s0] σ Q := wp_push rfl
theorem r_Q_isGone_12 : Wp L d k_Q_isGone 12 [l0] [vI s1, vI s0] σ Q ↔ (if s0 = s1 then Wp L d k_Q_isGone 19 [l0] [] σ Q else Wp L d k_Q_isGone 15 [l0] [] σ Q) := wp_cmp_eq rfl
theorem r_Q_isGone_15 : Wp L d k_Q_isGone 15 [l0] [] σ Q ↔ Wp L d k_Q_isGone 16 [l0] [vI 1] σ Q := wp_push rfl
theorem r_Q_isGone_16 : Wp L d k_Q_isGone 16 [l0] [vI s0] σ Q ↔ Wp L d k_Q_isGone 20 [l0] [vI s0] σ Q := wp_goto rfl
theorem r_Q_isGone_19 : Wp L d k_Q_isGone 19 [l0] [] σ Q ↔ Wp L d k_Q_isGone 20 [l0] [vI 0] σ Q := wp_push rfl
theorem r_Q_isGone_20 (h : s0 = 0 ∨ s0 = 1) : Wp L d k_Q_isGone 20 [l0] [vI s0] σ Q ↔ Q (some (vI s0)) σ := wp_zret rfl h
theorem sp_Q_isGone (hk : gK b0 = 4) : Run L d 130 [vR b0] σ (some (vI (gb (σ b0 0 ≠ 4 ∧ σ b0 10 = 0)))) σ := by
  refine Run_of (C' := k_Q_isGone) rfl ?_
  show Wp L d k_Q_isGone 0 [vR b0] [] σ _

  by_cases e : σ b0 10 = 0
  · by_cases e2 : σ b0 0 = 4
    · rw [gb_f (by omega)]
      simp (disch := first | assumption | exact gb_01 _ | omega) only [r_Q_isGone_0, r_Q_isGone_1, r_Q_isGone_4, r_Q_isGone_7, r_Q_isGone_8, r_Q_isGone_11, r_Q_isGone_12, r_Q_isGone_15, r_Q_isGone_16, r_Q_isGone_19, r_Q_isGone_20, w32_gb, w32i, tn_add, tn_mul, Int.toNat_natCast, Int.toNat_zero, Int.reduceLE, Int.reduceLT, Int.reduceEq, Int.reduceNe, gb_T, gb_F, Int.reduceToNat, eq_self, true_or, or_true, and_true, true_and, and_self, ↓ite_gb0, ↓ite_gbn, ↓if_pos, ↓if_neg, if_true, if_false, not_true_eq_false, not_false_eq_true, gb_ne0, gb_eq0]
    · rw [gb_t (by omega)]
      simp (disch := first | assumption | exact gb_01 _ | omega) only [r_Q_isGone_0, r_Q_isGone_1, r_Q_isGone_4, r_Q_isGone_7, r_Q_isGone_8, r_Q_isGone_11, r_Q_isGone_12, r_Q_isGone_15, r_Q_isGone_16, r_Q_isGone_19, r_Q_isGone_20, w32_gb, w32i, tn_add, tn_mul, Int.toNat_natCast, Int.toNat_zero, Int.reduceLE, Int.reduceLT, Int.reduceEq, Int.reduceNe, gb_T, gb_F, Int.reduceToNat, eq_self, true_or, or_true, and_true, true_and, and_self, ↓ite_gb0, ↓ite_gbn, ↓if_pos, ↓if_neg, if_true, if_false, not_true_eq_false, not_false_eq_true, gb_ne0, gb_eq0]
  · rw [gb_f (by omega)]
    simp (disch := first | assumption | exact gb_01 _ | omega) only [r_Q_isGone_0, r_Q_isGone_1, r_Q_isGone_4, r_Q_isGone_7, r_Q_isGone_8, r_Q_isGone_11, r_Q_isGone_12, r_Q_isGone_15, r_Q_isGone_16, r_Q_isGone_19, r_Q_isGone_20, w32_gb, w32i, tn_add, tn_mul, Int.toNat_natCast, Int.toNat_zero, Int.reduceLE, Int.reduceLT, Int.reduceEq, Int.reduceNe, gb_T, gb_F, Int.reduceToNat, eq_self, true_or, or_true, and_true, true_and, and_self, ↓ite_gb0, ↓ite_gbn, ↓if_pos, ↓if_neg, if_true, if_false, not_true_eq_false, not_false_eq_true, gb_ne0, gb_eq0]
theorem sp_B_placeTrain0 (hk : gK b0 = 1) : Run L d 91 [vR b0, vI a1] σ (some (vI (σ b0 12))) (gupd (gupd σ b0 12 a1) b0 13 0) := by
  refine Run_of (C' := k_B_placeTrain) rfl ?_
  show Wp L d k_B_placeTrain 0 [vR b0, vI a1, vU] [] σ _
  simp (disch := first | assumption | exact gb_01 _ | omega) only [r_B_placeTrain_0, r_B_placeTrain_1, r_B_placeTrain_4, r_B_placeTrain_5, r_B_placeTrain_6, r_B_placeTrain_7, r_B_placeTrain_10, r_B_placeTrain_11, r_B_placeTrain_12, r_B_placeTrain_15, r_B_placeTrain_16, w32_gb, w32i, tn_add, tn_mul, Int.toNat_natCast, Int.toNat_zero, Int.reduceLE, Int.reduceLT, Int.reduceEq, Int.reduceNe, gb_T, gb_F, Int.reduceToNat, eq_self, true_or, or_true, and_true, true_and, and_self, ↓ite_gb0, ↓ite_gbn, ↓if_pos, ↓if_neg, if_true, if_false, not_true_eq_false, not_false_eq_true, gb_ne0, gb_eq0]
theorem r_B_goneCount_0 : Wp L d k_B_goneCount 0 [l0, l1, l2] [] σ Q ↔ Wp L d k_B_goneCount 1 [l0, l1, l2] [vI 0] σ Q := wp_push rfl
theorem r_B_goneCount_1 : Wp L d k_B_goneCount 1 [vR b0, l1, l2] [vI s0] σ Q ↔ Wp L d k_B_goneCount 2 [vR b0, vI s0, l2] [] σ Q := wp_istore (i := 1) (ls := [vR b0, l1, l2]) rfl rfl
theorem r_B_goneCount_2 : Wp L d k_B_goneCount 2 [l0, l1, l2] [] σ Q ↔ Wp L d k_B_goneCount 3 [l0, l1, l2] [vI 0] σ Q := wp_push rfl
theorem r_B_goneCount_3 : Wp L d k_B_goneCount 3 [l0, vI a1, l2] [vI s0] σ Q ↔ Wp L d k_B_goneCount 4 [l0, vI a1, vI s0] [] σ Q := wp_istore (i := 2) (ls := [l0, vI a1, l2]) rfl rfl
theorem r_B_goneCount_4 : Wp L d k_B_goneCount 4 [l0, l1, vI a2] [] σ Q ↔ Wp L d k_B_goneCount 5 [l0, l1, vI a2] [vI a2] σ Q := wp_iload rfl rfl
theorem r_B_goneCount_5 : Wp L d k_B_goneCount 5 [vR b0, l1, l2] [vI s0] σ Q ↔ Wp L d k_B_goneCount 6 [vR b0, l1, l2] [vR b0, vI s0] σ Q := wp_aload rfl rfl
theorem r_B_goneCount_6 (h : gK c1 = 1) : Wp L d k_B_goneCount 6 [l0, l1, l2] [vR c1, vI s0] σ Q ↔ Wp L d k_B_goneCount 9 [l0, l1, l2] [vI (σ c1 9), vI s0] σ Q := wp_getI (c := 265) rfl rfl rfl rfl h
theorem r_B_goneCount_9 : Wp L d k_B_goneCount 9 [l0, l1, l2] [vI s1, vI s0] σ Q ↔ (if s1 ≤ s0 then Wp L d k_B_goneCount 33 [l0, l1, l2] [] σ Q else Wp L d k_B_goneCount 12 [l0, l1, l2] [] σ Q) := wp_cmp_ge rfl
theorem r_B_goneCount_12 : Wp L d k_B_goneCount 12 [l0, vI a1, l2] [] σ Q ↔ Wp L d k_B_goneCount 13 [l0, vI a1, l2] [vI a1] σ Q := wp_iload rfl rfl
theorem r_B_goneCount_13 : Wp L d k_B_goneCount 13 [vR b0, l1, l2] [vI s0] σ Q ↔ Wp L d k_B_goneCount 14 [vR b0, l1, l2] [vR b0, vI s0] σ Q := wp_aload rfl rfl
theorem r_B_goneCount_14 (h : gK c1 = 1) : Wp L d k_B_goneCount 14 [l0, l1, l2] [vR c1, vI s0] σ Q ↔ Wp L d k_B_goneCount 17 [l0, l1, l2] [vR (gq c1 3), vI s0] σ Q := wp_getR (c := 387) rfl rfl rfl rfl rfl h
theorem r_B_goneCount_17 : Wp L d k_B_goneCount 17 [l0, l1, vI a2] [vR c1, vI s0] σ Q ↔ Wp L d k_B_goneCount 18 [l0, l1, vI a2] [vI a2, vR c1, vI s0] σ Q := wp_iload rfl rfl
theorem r_B_goneCount_18 (h : gK c1 = 102 ∨ gK c1 = 103) (hx : 0 ≤ s2 ∧ s2 < gN c1) : Wp L d k_B_goneCount 18 [l0, l1, l2] [vI s2, vR c1, vI s0] σ Q ↔ Wp L d k_B_goneCount 19 [l0, l1, l2] [vR (gq c1 s2.toNat), vI s0] σ Q := wp_aald rfl h hx
theorem r_B_goneCount_25 : Wp L d k_B_goneCount 25 [l0, l1, l2] [vI s1, vI s0] σ Q ↔ Wp L d k_B_goneCount 26 [l0, l1, l2] [vI (w32 (s0 + s1))] σ Q := wp_iadd rfl
theorem r_B_goneCount_26 : Wp L d k_B_goneCount 26 [vR b0, l1, l2] [vI s0] σ Q ↔ Wp L d k_B_goneCount 27 [vR b0, vI s0, l2] [] σ Q := wp_istore (i := 1) (ls := [vR b0, l1, l2]) rfl rfl
theorem r_B_goneCount_27 : Wp L d k_B_goneCount 27 [l0, vI a1, vI a2] [] σ Q ↔ Wp L d k_B_goneCount 30 [l0, vI a1, vI (w32 (a2 + 1))] [] σ Q := wp_iinc (i := 2) (ls := [l0, vI a1, vI a2]) rfl rfl
theorem r_B_goneCount_30 : Wp L d k_B_goneCount 30 [l0, l1, l2] [] σ Q ↔ Wp L d k_B_goneCount 4 [l0, l1, l2] [] σ Q := wp_goto rfl
theorem r_B_goneCount_33 : Wp L d k_B_goneCount 33 [l0, vI a1, l2] [] σ Q ↔ Wp L d k_B_goneCount 34 [l0, vI a1, l2] [vI a1] σ Q := wp_iload rfl rfl
theorem r_B_goneCount_34 : Wp L d k_B_goneCount 34 [l0, l1, l2] [vI s0] σ Q ↔ Q (some (vI s0)) σ := wp_iret rfl
theorem r_B_goneCount_19 (hk : gK c1 = 4) : Wp L (d + 1) k_B_goneCount 19 [l0, l1, l2] [vR c1, vI s0] σ Q ↔ Wp L (d + 1) k_B_goneCount 22 [l0, l1, l2] [vI (gb (σ c1 0 ≠ 4 ∧ σ c1 10 = 0)), vI s0] σ Q := wp_callR (d := d + 0) (as := [vR c1]) (rest := [vI s0]) rfl rfl rfl rfl rfl rfl rfl (grecv_k (by rw [hk]) rfl) (sp_Q_isGone hk)
theorem r_B_goneCount_22 : Wp L (d + 1) k_B_goneCount 22 [l0, l1, l2] [vI s1, vI s0] σ Q ↔ Wp L (d + 1) k_B_goneCount 25 [l0, l1, l2] [vI (gb (s1 ≠ 0)), vI s0] σ Q := wp_callR (d := d + 0) (as := [vI s1]) (rest := [vI s0]) rfl rfl rfl rfl rfl rfl rfl rfl (sp_X_bit)
theorem sp_B_goneCount {b : Nat} {f : Nat → Int}  (hB : BR b) (hw : WB f) (hc : CB b f σ) : Run L (d + 1) 94 [vR b] σ (some (vI (ggone f (f 1).toNat))) σ := by
  refine Run_of (C' := k_B_goneCount) rfl ?_
  show Wp L (d + 1) k_B_goneCount 0 [vR b, vU, vU] [] σ _
  obtain ⟨⟨K0, q0, q1, q2, q3, q4, q5, q6, q7⟩, ⟨K1, K2, K3, K4, K5, K6, K7, K8⟩, ⟨N1, N2, N3, N4, N5, N6, N7, N8⟩, QP, KP⟩ := hB

  have w2 := hw.2.1
  have c2 := hc.2.1
  simp only [r_B_goneCount_0, r_B_goneCount_1, r_B_goneCount_2, r_B_goneCount_3, r_B_goneCount_5, r_B_goneCount_6, r_B_goneCount_9, r_B_goneCount_12, r_B_goneCount_13, r_B_goneCount_14, r_B_goneCount_17, r_B_goneCount_18, r_B_goneCount_19, r_B_goneCount_22, r_B_goneCount_25, r_B_goneCount_26, r_B_goneCount_27, r_B_goneCount_30, r_B_goneCount_33, r_B_goneCount_34]
  refine wloopF (f 1).toNat (fun k => [vR b, vI (ggone f k), vI (k : Int)]) (fun _ => σ) (fun k hk hq => ?_) ?_
  · have p := CBp hc (p := k) (by omega)
    have kp := KP k (by omega)
    have bd := ggone_bd f k
    rw [r_B_goneCount_4]
    simp (disch := first | assumption | exact gb_01 _ | omega) only [r_B_goneCount_0, r_B_goneCount_1, r_B_goneCount_2, r_B_goneCount_3, r_B_goneCount_5, r_B_goneCount_6, r_B_goneCount_9, r_B_goneCount_12, r_B_goneCount_13, r_B_goneCount_14, r_B_goneCount_17, r_B_goneCount_18, r_B_goneCount_19, r_B_goneCount_22, r_B_goneCount_25, r_B_goneCount_26, r_B_goneCount_27, r_B_goneCount_30, r_B_goneCount_33, r_B_goneCount_34, q0, q1, q2, q3, q4, q5, q6, q7, QP, w32_gb, w32i, tn_add, tn_mul, Int.toNat_natCast, Int.toNat_zero, Int.reduceLE, Int.reduceLT, Int.reduceEq, Int.reduceNe, gb_T, gb_F, Int.reduceToNat, eq_self, true_or, or_true, and_true, true_and, and_self, ↓ite_gb0, ↓ite_gbn, ↓if_pos, ↓if_neg, if_true, if_false, not_true_eq_false, not_false_eq_true, gb_ne0, gb_eq0]
    refine hq _ _ ?_ rfl
    simp only [List.cons.injEq, vI_inj, vR_inj, and_true, true_and]
    refine ⟨?_, by omega⟩
    rw [p.1, p.2.2.2.2.2.2.2.2.2.2.1]
    simp only [ggone, gsm]
  · rw [r_B_goneCount_4]
    simp (disch := first | assumption | exact gb_01 _ | omega) only [r_B_goneCount_0, r_B_goneCount_1, r_B_goneCount_2, r_B_goneCount_3, r_B_goneCount_5, r_B_goneCount_6, r_B_goneCount_9, r_B_goneCount_12, r_B_goneCount_13, r_B_goneCount_14, r_B_goneCount_17, r_B_goneCount_18, r_B_goneCount_19, r_B_goneCount_22, r_B_goneCount_25, r_B_goneCount_26, r_B_goneCount_27, r_B_goneCount_30, r_B_goneCount_33, r_B_goneCount_34, q0, q1, q2, q3, q4, q5, q6, q7, QP, w32_gb, w32i, tn_add, tn_mul, Int.toNat_natCast, Int.toNat_zero, Int.reduceLE, Int.reduceLT, Int.reduceEq, Int.reduceNe, gb_T, gb_F, Int.reduceToNat, eq_self, true_or, or_true, and_true, true_and, and_self, ↓ite_gb0, ↓ite_gbn, ↓if_pos, ↓if_neg, if_true, if_false, not_true_eq_false, not_false_eq_true, gb_ne0, gb_eq0]
