/-! The law: its rows. -/
variable {L d : Nat} {σ σ1 : Nat → Nat → Int} {Q : Option gV → (Nat → Nat → Int) → Prop} {a0 a1 a2 a3 a4 a5 a6 a7 a8 a9 a10 a11 s0 s1 s2 s3 s4 s5 s6 s7 s8 s9 : Int} {l0 l1 l2 l3 l4 l5 l6 l7 l8 l9 l10 l11 t0 t1 t2 t3 t4 t5 t6 t7 t8 t9 : gV} {b0 b1 b2 b3 b4 b5 b6 b7 b8 b9 b10 b11 c0 c1 c2 c3 c4 c5 c6 c7 c8 c9 : Nat} {r : Option gV}
/-- a script's place onto the pile -/
def kArg (p j : Nat) : gCode := [(p, .aload 0, p + 1), (p + 1, .iload 3, p + 2), (p + 2, .sipush (j : Int), p + 3), (p + 3, .iadd, p + 4), (p + 4, .iaload, p + 5)]
def kArgs (p : Nat) : Nat → gCode
  | 0 => []
  | a + 1 => kArgs p a ++ kArg (p + 5 * a) (a + 1)
/-- a case: where it begins, how many numbers it takes, the class's method, the reference's -/
def kCase (q : Nat × (Nat × (Nat × Nat))) : gCode := [(q.1, .aload 1, q.1 + 1)] ++ (kArgs (q.1 + 1) q.2.1 ++ ([(q.1 + 1 + 5 * q.2.1, .invokestatic q.2.2.1, q.1 + 4 + 5 * q.2.1), (q.1 + 4 + 5 * q.2.1, .aload 2, q.1 + 5 + 5 * q.2.1)] ++ (kArgs (q.1 + 5 + 5 * q.2.1) q.2.1 ++ [(q.1 + 5 + 10 * q.2.1, .invokestatic q.2.2.2, q.1 + 8 + 10 * q.2.1), (q.1 + 8 + 10 * q.2.1, .if_icmp .eq 2084, q.1 + 11 + 10 * q.2.1), (q.1 + 11 + 10 * q.2.1, .sipush 0, q.1 + 12 + 10 * q.2.1), (q.1 + 12 + 10 * q.2.1, .freturn, q.1 + 13 + 10 * q.2.1)])))
def kCs : List (Nat × (Nat × (Nat × Nat))) := [(280, 1, 14, 194), (303, 3, 16, 196), (346, 2, 18, 199), (379, 1, 20, 200), (402, 5, 21, 203), (465, 3, 23, 207), (508, 2, 24, 208), (541, 2, 26, 210), (574, 3, 27, 212), (617, 0, 28, 213), (630, 2, 29, 217), (663, 2, 31, 220), (696, 1, 32, 222), (719, 1, 33, 224), (742, 1, 34, 229), (765, 2, 35, 232), (798, 0, 36, 234), (811, 3, 37, 236), (854, 1, 38, 237), (877, 1, 39, 238), (900, 2, 41, 256), (933, 1, 42, 258), (956, 4, 44, 260), (1009, 2, 45, 264), (1042, 1, 47, 268), (1065, 2, 48, 269), (1098, 2, 49, 270), (1131, 2, 51, 271), (1164, 1, 52, 272), (1187, 1, 53, 275), (1210, 2, 54, 276), (1243, 3, 55, 277), (1286, 2, 56, 278), (1319, 0, 57, 279), (1332, 0, 58, 281), (1345, 1, 59, 283), (1368, 1, 60, 285), (1391, 4, 61, 286), (1444, 3, 65, 290), (1487, 3, 66, 291), (1530, 1, 67, 295), (1553, 2, 68, 296), (1586, 3, 69, 297), (1629, 1, 70, 298), (1652, 4, 71, 299), (1705, 1, 72, 300), (1728, 1, 73, 302), (1751, 3, 74, 303), (1794, 3, 76, 305), (1837, 2, 78, 307), (1870, 5, 79, 308), (1933, 1, 80, 309), (1956, 2, 81, 310), (1989, 1, 82, 313), (2012, 1, 83, 314), (2035, 0, 86, 316), (2048, 0, 87, 317), (2061, 1, 88, 318)]
def kOs : List Int := [280, 303, 346, 379, 402, 465, 508, 541, 574, 617, 630, 663, 696, 719, 742, 765, 798, 811, 854, 877, 900, 933, 956, 1009, 1042, 1065, 1098, 1131, 1164, 1187, 1210, 1243, 1286, 1319, 1332, 1345, 1368, 1391, 1444, 1487, 1530, 1553, 1586, 1629, 1652, 1705, 1728, 1751, 1794, 1837, 1870, 1933, 1956, 1989, 2012, 2035, 2048, 2061]
def kHead : gCode := [(0, .new 0, 3), (3, .dup, 4), (4, .invokestatic 13, 7), (7, .astore 1, 8), (8, .new 12, 11), (11, .dup, 12), (12, .invokestatic 191, 15), (15, .astore 2, 16), (16, .sipush 0, 17), (17, .istore 3, 18), (18, .iload 3, 19), (19, .aload 0, 20), (20, .arraylength, 21), (21, .sipush 6, 23), (23, .isub, 24), (24, .if_icmp .gt 2090, 27), (27, .aload 0, 28), (28, .iload 3, 29), (29, .iaload, 30), (30, .sipush 63, 32), (32, .iand, 33), (33, .tableswitch 2084 0 57 kOs.toArray, 280)]
def kEnd : gCode := [(2084, .iinc 3 6, 2087), (2087, .goto 18, 2090), (2090, .sipush 1, 2091), (2091, .freturn, 2092)]
def k_law : gCode := kHead ++ (kCs.flatMap kCase ++ kEnd)
/-- places rise -/
def gasc : gCode → Nat → Bool
  | [], _ => true
  | (p, _) :: t, lo => Nat.ble lo p && gasc t (p + 1)
theorem gasc_f : ∀ (C : gCode) (lo : Nat), gasc C lo = true → ∀ pc op nx, (pc, op, nx) ∈ C → lo ≤ pc ∧ gfind C pc = some (op, nx)
  | [], _, _, _, _, _, h => absurd h (by simp)
  | (p, q) :: t, lo, hs, pc, op, nx, h => by
    unfold gasc at hs
    rw [Bool.and_eq_true] at hs
    have h1 := Nat.le_of_ble_eq_true hs.1
    rcases List.mem_cons.mp h with h | h
    · cases h
      refine ⟨h1, ?_⟩
      unfold gfind
      rw [show Nat.beq p p = true from Nat.beq_refl p]
      rfl
    · have ih := gasc_f t (p + 1) hs.2 pc op nx h
      refine ⟨by omega, ?_⟩
      unfold gfind
      have e : Nat.beq p pc = false := by
        cases hb : Nat.beq p pc with
        | false => rfl
        | true => have := Nat.eq_of_beq_eq_true hb; omega
      rw [e]
      exact ih.2
theorem law_asc : gasc k_law 0 = true := by decide +kernel
theorem law_f {pc nx : Nat} {op : Instr} (h : (pc, op, nx) ∈ k_law) : gfind k_law pc = some (op, nx) := (gasc_f k_law 0 law_asc pc op nx h).2
theorem law_h {pc nx : Nat} {op : Instr} (h : (pc, op, nx) ∈ kHead) : gfind k_law pc = some (op, nx) := law_f (List.mem_append_left _ h)
theorem law_e {pc nx : Nat} {op : Instr} (h : (pc, op, nx) ∈ kEnd) : gfind k_law pc = some (op, nx) := law_f (List.mem_append_right _ (List.mem_append_right _ h))
theorem law_c {q : Nat × (Nat × (Nat × Nat))} (hq : q ∈ kCs) {pc nx : Nat} {op : Instr} (h : (pc, op, nx) ∈ kCase q) : gfind k_law pc = some (op, nx) := law_f (List.mem_append_right _ (List.mem_append_left _ (List.mem_flatMap.mpr ⟨q, hq, h⟩)))
/-- the methods of a case take its numbers and their object -/
def kOkB (q : Nat × (Nat × (Nat × Nat))) : Bool := match gT q.2.2.1, gT q.2.2.2 with
  | some (_, ml, na, rk), some (_, ml', na', rk') => Nat.beq na (q.2.1 + 1) && Nat.ble (q.2.1 + 1) ml && Nat.beq rk 1 && Nat.beq na' (q.2.1 + 1) && Nat.ble (q.2.1 + 1) ml' && Nat.beq rk' 13 && Nat.ble q.2.1 5
  | _, _ => false
theorem law_ok : kCs.all kOkB = true := by decide +kernel
theorem law_m {q : Nat × (Nat × (Nat × Nat))} (hq : q ∈ kCs) : (∃ C ml, gT q.2.2.1 = some (C, ml, q.2.1 + 1, 1) ∧ q.2.1 + 1 ≤ ml) ∧ (∃ C ml, gT q.2.2.2 = some (C, ml, q.2.1 + 1, 13) ∧ q.2.1 + 1 ≤ ml) ∧ q.2.1 ≤ 5 := by
  have h := List.all_eq_true.mp law_ok _ hq
  unfold kOkB at h
  split at h
  · next C ml na rk C' ml' na' rk' h1 h2 =>
    simp only [Bool.and_eq_true] at h
    obtain ⟨⟨⟨⟨⟨⟨a1, a2⟩, a3⟩, a4⟩, a5⟩, a6⟩, a7⟩ := h
    rw [Nat.eq_of_beq_eq_true a1, Nat.eq_of_beq_eq_true a3] at h1
    rw [Nat.eq_of_beq_eq_true a4, Nat.eq_of_beq_eq_true a6] at h2
    exact ⟨⟨_, _, h1, Nat.le_of_ble_eq_true a2⟩, ⟨_, _, h2, Nat.le_of_ble_eq_true a5⟩, Nat.le_of_ble_eq_true a7⟩
  · cases h
theorem gold_x {L : Nat} : (gSH L)[26]? = some (22, L, []) := by
  rw [gSH_old L 26 (by omega)]
  cases e : (gold L)[26]? with
  | none => rw [List.getElem?_eq_none_iff, gold_len] at e; omega
  | some q =>
    rcases gold_at e with ⟨h1, -⟩ | ⟨-, h1, -⟩ | ⟨-, rfl⟩
    · omega
    · omega
    · rfl
theorem wp_xld {C : gCode} {pc nx : Nat} {x : Int} {ls st : List gV} (hf : gfind C pc = some (.iaload, nx)) (hx : 0 ≤ x ∧ x < (L : Int)) : Wp L d C pc ls (vI x :: vR 26 :: st) σ Q ↔ Wp L d C nx ls (vI (σ 26 x.toNat) :: st) σ Q := by
  have h1 := gold_x (L := L)
  exact Wp_s hf rfl rfl (by simp only [gstep, gald, vR, vI, h1, hx, or_true, and_self, if_true])
theorem wp_xln {C : gCode} {pc nx : Nat} {ls st : List gV} (hf : gfind C pc = some (.arraylength, nx)) (hL : L ≤ 384) : Wp L d C pc ls (vR 26 :: st) σ Q ↔ Wp L d C nx ls (vI (L : Int) :: st) σ Q := by
  have h1 := gold_x (L := L)
  have h3 : w32 (L : Int) = (L : Int) := w32i (by omega)
  have : Wp L d C pc ls (vR 26 :: st) σ Q ↔ Wp L d C nx ls (vI (w32 (L : Int)) :: st) σ Q := by
    refine Wp_s hf rfl rfl ?_
    show (match (gSH L)[26]? with
        | some q => if q.1 = 100 ∨ q.1 = 21 ∨ q.1 = 22 then some (nx, ls, Sum.inl (w32 q.2.1) :: st, (gSH L, σ)) else none
        | none => none) = _
    rw [h1]
    rfl
  rw [this, h3]
/-- the numbers of the call at place i -/
def kVs (σ : gMm) (i : Nat) : Nat → List gV
  | 0 => []
  | a + 1 => kVs σ i a ++ [vI (σ 26 (i + (a + 1)))]
theorem kVs_len {i : Nat} : ∀ a, (kVs σ i a).length = a
  | 0 => rfl
  | a + 1 => by unfold kVs; rw [List.length_append, kVs_len a]; rfl
theorem kVs_cg {i : Nat} {σ1 : gMm} (h : σ1 26 = σ 26) : ∀ a, kVs σ1 i a = kVs σ i a
  | 0 => rfl
  | a + 1 => by unfold kVs; rw [kVs_cg h a, h]
theorem gflat_app : ∀ (a b : List gV), gflat (a ++ b) = gflat a ++ gflat b
  | [], _ => rfl
  | Sum.inr (Sum.inl x) :: t, b => by
    show Sum.inr (Sum.inl x) :: vU :: gflat (t ++ b) = _
    rw [gflat_app t b]; rfl
  | Sum.inl x :: t, b => by
    show Sum.inl x :: gflat (t ++ b) = _
    rw [gflat_app t b]; rfl
  | Sum.inr (Sum.inr x) :: t, b => by
    show Sum.inr (Sum.inr x) :: gflat (t ++ b) = _
    rw [gflat_app t b]; rfl
theorem kVs_fl {i : Nat} : ∀ a, gflat (kVs σ i a) = kVs σ i a
  | 0 => rfl
  | a + 1 => by unfold kVs; rw [gflat_app, kVs_fl a]; rfl
theorem kVs_few {i : Nat} : ∀ a, ((kVs σ i a).map gcat).sum = a
  | 0 => rfl
  | a + 1 => by unfold kVs; rw [List.map_append, List.sum_append, kVs_few a]; rfl
/-- loading the numbers -/
theorem ld_args {C : gCode} {i : Nat} {l1 l2 : gV} (hi : i + 6 ≤ L) (hL : L ≤ 384) (p : Nat) : ∀ (a : Nat) (st : List gV), a ≤ 5 → (∀ pc op nx, (pc, op, nx) ∈ kArgs p a → gfind C pc = some (op, nx)) → (Wp L d C p [vR 26, l1, l2, vI (i : Int)] st σ Q ↔ Wp L d C (p + 5 * a) [vR 26, l1, l2, vI (i : Int)] ((kVs σ i a).reverse ++ st) σ Q)
  | 0, st, _, _ => Iff.rfl
  | a + 1, st, ha, hF => by
    have ih := ld_args (l1 := l1) (l2 := l2) hi hL p a st (by omega) (fun pc op nx h => hF pc op nx (by unfold kArgs; exact List.mem_append_left _ h))
    have f : ∀ pc op nx, (pc, op, nx) ∈ kArg (p + 5 * a) (a + 1) → gfind C pc = some (op, nx) := fun pc op nx h => hF pc op nx (by unfold kArgs; exact List.mem_append_right _ h)
    have w1 : w32 ((i : Int) + ((a + 1 : Nat) : Int)) = ((i + (a + 1) : Nat) : Int) := by rw [w32i (by omega)]; omega
    rw [ih, wp_aload (f _ _ _ (List.mem_cons_self)) rfl, wp_iload (f _ _ _ (List.mem_cons_of_mem _ List.mem_cons_self)) rfl, wp_push (f _ _ _ (List.mem_cons_of_mem _ (List.mem_cons_of_mem _ List.mem_cons_self))), wp_iadd (f _ _ _ (List.mem_cons_of_mem _ (List.mem_cons_of_mem _ (List.mem_cons_of_mem _ List.mem_cons_self)))), w1, wp_xld (f _ _ _ (List.mem_cons_of_mem _ (List.mem_cons_of_mem _ (List.mem_cons_of_mem _ (List.mem_cons_of_mem _ List.mem_cons_self))))) (by omega), Int.toNat_natCast]
    rw [show p + 5 * a + 5 = p + 5 * (a + 1) by omega]
    rw [show kVs σ i (a + 1) = kVs σ i a ++ [vI (σ 26 (i + (a + 1)))] from rfl, List.reverse_append]
    exact Iff.rfl
