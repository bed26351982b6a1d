/-! Both constructors, over the real old cells. -/
variable {L d : Nat} {σ σ1 : Nat → Nat → Int} {Q : Option gV → (Nat → Nat → Int) → Prop} {a0 a1 a2 a3 a4 a5 a6 a7 a8 a9 a10 a11 s0 s1 s2 s3 s4 s5 s6 s7 s8 s9 : Int} {l0 l1 l2 l3 l4 l5 l6 l7 l8 l9 l10 l11 t0 t1 t2 t3 t4 t5 t6 t7 t8 t9 : gV} {b0 b1 b2 b3 b4 b5 b6 b7 b8 b9 b10 b11 c0 c1 c2 c3 c4 c5 c6 c7 c8 c9 : Nat} {r : Option gV}
def gop9 : Instr → Bool
  | .getfield c => !(Nat.beq (c / 256) 999)
  | .putfield c => !(Nat.beq (c / 256) 999)
  | _ => true
theorem gop9_s {op : Instr} (h : gop9 op = true) (c : Nat) (hc : op = .getfield c ∨ op = .putfield c) : c / 256 ≠ 999 := fun e => by
  rcases hc with rfl | rfl
  · have h : (!(Nat.beq (c / 256) 999)) = true := h
    rw [e] at h
    exact absurd h (by decide)
  · have h : (!(Nat.beq (c / 256) 999)) = true := h
    rw [e] at h
    exact absurd h (by decide)
theorem gT_op9 : ∀ y M, gT y = some M → ∀ q ∈ M.1, ∀ c, q.2.1 = .getfield c ∨ q.2.1 = .putfield c → c / 256 ≠ 999 := by
  have h : gTs.all (fun M => M.1.all (fun q => gop9 q.2.1)) = true := by decide +kernel
  intro y M hy q hq c hc
  have a := List.all_eq_true.1 h M (List.mem_of_getElem? hy)
  exact gop9_s (List.all_eq_true.1 a q hq) c hc
theorem gT_rk : ∀ y M, gT y = some M → M.2.2.2 ≠ 1000 := by
  have h : gTs.all (fun M => !(Nat.beq M.2.2.2 1000)) = true := by decide +kernel
  intro y M hy e
  have a := List.all_eq_true.1 h M (List.mem_of_getElem? hy)
  rw [e] at a
  exact absurd a (by decide)
def gcL : Option (Option gV × gMem) → Bool
  | some (r, m) => r.isNone && Nat.beq m.1.length 293
  | none => false
theorem gc1_len : gcL gc1 = true := by decide +kernel
theorem gc1_is : ∃ m1, gc1 = some (none, m1) ∧ m1.1.length = 293 := by
  have h := gc1_len
  cases e : gc1 with
  | none => rw [e] at h; cases h
  | some q =>
    obtain ⟨r, m⟩ := q
    rw [e] at h
    have h : (r.isNone && Nat.beq m.1.length 293) = true := h
    rw [Bool.and_eq_true] at h
    refine ⟨m, ?_, Nat.eq_of_beq_eq_true h.2⟩
    rw [Option.isNone_iff_eq_none.mp h.1]
theorem gc2_is : ∃ m2, gc2 = some (none, m2) ∧ m2.1 = gDum ++ gSHn := by
  have h := gc2_shape
  cases e : gc2 with
  | none => rw [e] at h; cases h
  | some q =>
    obtain ⟨r, m⟩ := q
    rw [e] at h
    have h : (r == none && m.1 == gDum ++ gSHn) = true := h
    rw [Bool.and_eq_true] at h
    refine ⟨m, ?_, eq_of_beq h.2⟩
    cases r with
    | none => rfl
    | some v => have h1 : false = true := h.1; cases h1
theorem gDum_at {k : Nat} (h : k < 27) : gDum[k]? = some (999, 0, []) := by
  unfold gDum
  rw [List.getElem?_replicate, if_pos h]
theorem gDum_len : gDum.length = 27 := by unfold gDum; exact List.length_replicate
/-- both constructors, over the real old cells -/
theorem law_new (L : Nat) (σ0 : gMm) : ∃ (n1 n2 : gMem), gexec gT 5961 4 k_X_init 0 (gentry 1 [vR 27]) [] (gold L ++ [(0, 9, List.replicate 9 none)], gzer σ0 27) = some (none, n1) ∧ n1.1.length = 293 ∧ gexec gT 1821 4 k_M_init 0 (gentry 2 [vR 293]) [] (n1.1 ++ [(12, 29, List.replicate 29 none)], gzer n1.2 n1.1.length) = some (none, n2) ∧ n2.1 = gSH L ∧ (∀ k, k < 27 → ∀ j, n2.2 k j = σ0 k j) ∧ Inv n2.2 ∧ ((∀ k, 27 ≤ k → ∀ j, σ0 k j = 0) → PB n2) := by
  obtain ⟨m1, h1, l1⟩ := gc1_is
  obtain ⟨m2, h2, s2⟩ := gc2_is
  have hv := gck_all h2
  have g2 : gc2 = gexec gT 1821 4 k_M_init 0 (gentry 2 [vR 293]) [] (m1.1 ++ [(12, 29, List.replicate 29 none)], gzer m1.2 m1.1.length) := by
    unfold gc2
    rw [h1]
  rw [g2] at h2
  have E0 : gExt gc0 (gold L ++ [(0, 9, List.replicate 9 none)], gzer σ0 27) := by
    have lg := gold_len L
    refine ⟨?_, fun k q hq hk => ?_, fun k q j hq hk => ?_, fun k j hk => ?_⟩
    · show (gold L ++ [(0, 9, List.replicate 9 none)]).length = (gDum ++ [(0, 9, List.replicate 9 none)]).length
      rw [List.length_append, List.length_append, lg, gDum_len]
    · have hq : (gDum ++ [(0, 9, List.replicate 9 none)])[k]? = some q := hq
      show (gold L ++ [(0, 9, List.replicate 9 none)])[k]? = some q
      by_cases c : k < 27
      · rw [List.getElem?_append_left (by rw [gDum_len]; exact c), gDum_at c] at hq
        cases hq
        exact absurd rfl hk
      · rw [List.getElem?_append_right (by rw [gDum_len]; omega), gDum_len] at hq
        rw [List.getElem?_append_right (by rw [lg]; omega), lg]
        exact hq
    · have hq : (gDum ++ [(0, 9, List.replicate 9 none)])[k]? = some q := hq
      show gzer σ0 27 k j = 0
      by_cases c : k < 27
      · rw [List.getElem?_append_left (by rw [gDum_len]; exact c), gDum_at c] at hq
        cases hq
        exact absurd rfl hk
      · unfold gzer
        rw [if_pos (by omega)]
    · have hk : (gDum ++ [(0, 9, List.replicate 9 none)]).length ≤ k := hk
      rw [List.length_append, gDum_len] at hk
      show gzer σ0 27 k j = 0
      unfold gzer
      rw [if_pos (by have : [((0, 9, List.replicate 9 none) : gCell)].length = 1 := rfl; omega)]
  obtain ⟨n1, X1, E1⟩ := gexec_ext gT_op9 gT_rk 5961 4 k_X_init 0 (gentry 1 [vR 27]) [] gc0 _ none m1 (gT_op9 13 _ rfl) E0 h1
  have P0 : PU (gold L) σ0 (gold L ++ [(0, 9, List.replicate 9 none)], gzer σ0 27) := fun k hk => by
    obtain ⟨q, e1, e2⟩ := gold_1 L k hk
    refine ⟨q, ?_, ⟨e2, e1⟩, fun j => ?_⟩
    · show (gold L ++ [(0, 9, List.replicate 9 none)])[k]? = some q
      rw [List.getElem?_append_left (by rw [gold_len]; exact hk)]
      exact e1
    · show gzer σ0 27 k j = σ0 k j
      unfold gzer
      rw [if_neg (by omega)]
  have P1 := gexec_tu 5961 4 k_X_init 0 _ [] _ none n1 (gT_op3 13 _ rfl) P0 X1
  have E2 := gExt_push E1 [(12, 29, List.replicate 29 none)]
  obtain ⟨n2, X2, E3⟩ := gexec_ext gT_op9 gT_rk 1821 4 k_M_init 0 (gentry 2 [vR 293]) [] _ _ none m2 (gT_op9 191 _ rfl) E2 h2
  have P2 := gexec_tu 1821 4 k_M_init 0 _ [] _ none n2 (gT_op3 191 _ rfl) (PU_app P1) X2
  have ls : gSHn.length = 282 := by decide +kernel
  have ln : n2.1.length = 309 := by
    rw [E3.1, s2, List.length_append, gDum_len, ls]
  have at27 : ∀ k q, 27 ≤ k → gSHn[k - 27]? = some q → m2.1[k]? = some q ∧ q.1 ≠ 999 := fun k q hk hq => by
    rw [s2, List.getElem?_append_right (by rw [gDum_len]; exact hk), gDum_len]
    refine ⟨hq, ?_⟩
    have hall : gSHn.all (fun q => !(Nat.beq q.1 999)) = true := by decide +kernel
    have a := List.all_eq_true.1 hall q (List.mem_of_getElem? hq)
    intro e
    rw [e] at a
    exact absurd a (by decide)
  have shp : n2.1 = gSH L := by
    apply List.ext_getElem?
    intro k
    by_cases c : k < 27
    · obtain ⟨q, e1, e2, e3⟩ := P2 k c
      rw [gSH_old L k c, e1, e2.2]
    · rw [gSH_at L k (by omega)]
      cases hq : gSHn[k - 27]? with
      | none =>
        rw [List.getElem?_eq_none_iff, ls] at hq
        rw [List.getElem?_eq_none_iff, ln]
        omega
      | some q =>
        obtain ⟨b1, b2⟩ := at27 k q (by omega) hq
        exact E3.2.1 k q b1 b2
  refine ⟨n1, n2, X1, by rw [E1.1, l1], X2, shp, fun k hk j => ?_, ?_, fun hz => ?_⟩
  · obtain ⟨q, e1, e2, e3⟩ := P2 k hk
    exact e3 j
  · refine Inv_start (fun q hq => ?_)
    have h27 : 27 ≤ q.1 ∧ q.1 < 309 := by
      have hall : gCkA.all (fun q => Nat.ble 27 q.1 && Nat.ble (q.1 + 1) 309) = true := by decide +kernel
      have a := List.all_eq_true.1 hall q hq
      rw [Bool.and_eq_true] at a
      exact ⟨Nat.le_of_ble_eq_true a.1, Nat.le_of_ble_eq_true a.2⟩
    cases hc : gSHn[q.1 - 27]? with
    | none =>
      rw [List.getElem?_eq_none_iff, ls] at hc
      omega
    | some c =>
      obtain ⟨b1, b2⟩ := at27 q.1 c h27.1 hc
      rw [E3.2.2.1 q.1 c q.2.1 b1 b2]
      exact hv q hq
  · have B0 : PB (gold L ++ [(0, 9, List.replicate 9 none)], gzer σ0 27) := fun k q hq h1 j => by
      left
      show gzer σ0 27 k j = 0
      unfold gzer
      by_cases c : 27 ≤ k
      · rw [if_pos c]
      · have hq : (gold L ++ [(0, 9, List.replicate 9 none)])[k]? = some q := hq
        rw [List.getElem?_append_left (by rw [gold_len]; omega)] at hq
        rcases gold_at hq with ⟨-, rfl⟩ | ⟨-, -, rfl⟩ | ⟨-, rfl⟩
        · exact absurd (show (20 : Nat) = 101 from h1) (by decide)
        · exact absurd (show (21 : Nat) = 101 from h1) (by decide)
        · exact absurd (show (22 : Nat) = 101 from h1) (by decide)
    have B1 := gexec_bl 5961 4 k_X_init 0 _ [] _ none n1 (gT_op2 13 _ rfl) B0 X1
    have B2 : PB (n1.1 ++ [(12, 29, List.replicate 29 none)], gzer n1.2 n1.1.length) := fun k q hq h1 j => by
      show gzer n1.2 n1.1.length k j = 0 ∨ gzer n1.2 n1.1.length k j = 1
      unfold gzer
      by_cases c : n1.1.length ≤ k
      · rw [if_pos c]; exact Or.inl rfl
      · rw [if_neg c]
        have hq : (n1.1 ++ [(12, 29, List.replicate 29 none)])[k]? = some q := hq
        rw [List.getElem?_append_left (by omega)] at hq
        exact B1 k q hq h1 j
    exact gexec_bl 1821 4 k_M_init 0 _ [] _ none n2 (gT_op2 191 _ rfl) B2 X2
