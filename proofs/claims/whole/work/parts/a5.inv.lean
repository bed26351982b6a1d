/-! The invariant holds behind the constructors. -/
variable {L d : Nat} {σ σ1 : Nat → Nat → Int} {Q : Option gV → (Nat → Nat → Int) → Prop} {a0 a1 a2 a3 a4 a5 a6 a7 a8 a9 a10 a11 s0 s1 s2 s3 s4 s5 s6 s7 s8 s9 : Int} {l0 l1 l2 l3 l4 l5 l6 l7 l8 l9 l10 l11 t0 t1 t2 t3 t4 t5 t6 t7 t8 t9 : gV} {b0 b1 b2 b3 b4 b5 b6 b7 b8 b9 b10 b11 c0 c1 c2 c3 c4 c5 c6 c7 c8 c9 : Nat} {r : Option gV}
def gCkA : List (Nat × (Nat × Int)) := gCk0 ++ (gCk1 ++ (gCk2 ++ (gCk3 ++ (gCk4 ++ (gCk5 ++ (gCk6))))))
theorem gck_all {m : gMem} {r : Option gV} (h : gc2 = some (r, m)) : ∀ q ∈ gCkA, m.2 q.1 q.2.1 = q.2.2 := by
  have g : ∀ cs, gcC cs gc2 = true → ∀ q ∈ cs, m.2 q.1 q.2.1 = q.2.2 := fun cs hc q hq => by
    rw [h] at hc
    exact of_decide_eq_true (List.all_eq_true.mp hc q hq)
  intro q hq
  unfold gCkA at hq
  simp only [List.mem_append] at hq
  rcases hq with h | h | h | h | h | h | h
  · exact g _ gck0 q h
  · exact g _ gck1 q h
  · exact g _ gck2 q h
  · exact g _ gck3 q h
  · exact g _ gck4 q h
  · exact g _ gck5 q h
  · exact g _ gck6 q h
theorem gz_g : ∀ j, j < 60 → (294, 60 + j, (0 : Int)) ∈ gCkA := by decide +kernel
theorem gz_s : ∀ j, j < 16 → (294, 800 + j, (63 : Int)) ∈ gCkA := by decide +kernel
theorem gz_w : ∀ j, j < 80 → (294, 720 + j, (-1 : Int)) ∈ gCkA := by decide +kernel
theorem gz_c : ∀ j, j < 60 → (98, 0 + j, (0 : Int)) ∈ gCkA := by decide +kernel
theorem gz_t : ∀ j, j < 6 → (290, 0 + j, (-1 : Int)) ∈ gCkA := by decide +kernel
theorem gz_u : ∀ j, j < 6 → (297, 0 + j, (-1 : Int)) ∈ gCkA := by decide +kernel
theorem gz_v : ∀ j, j < 6 → (298, 0 + j, (0 : Int)) ∈ gCkA := by decide +kernel
theorem gz_x : ∀ j, j < 144 → (299, 0 + j, (0 : Int)) ∈ gCkA := by decide +kernel
theorem gz_d : ∀ t, t < 6 → ∀ j, j < 24 → (284 + t, j, (0 : Int)) ∈ gCkA := by decide +kernel
theorem gz_k : ∀ a, a < 8 → ∀ b, b < 10 → (115 + a, b, (10000 : Int)) ∈ gCkA := by decide +kernel
theorem gz_l : ∀ i, i < 8 → ∀ j, j < 2 → (101 + i, j, (63 : Int)) ∈ gCkA := by decide +kernel
theorem gz_b : ∀ k, k < 4 → (294, 20 + 3 * k, (10 : Int)) ∈ gCkA ∧ (294, 20 + 3 * k + 1, (10 : Int)) ∈ gCkA ∧ (294, 20 + 3 * k + 2, (0 : Int)) ∈ gCkA ∧ (30, k, (10 : Int)) ∈ gCkA ∧ (31, k, (10 : Int)) ∈ gCkA ∧ (32, k, (0 : Int)) ∈ gCkA := by decide +kernel
theorem gz_1 : (294, 0, (4 : Int)) ∈ gCkA ∧ (294, 1, (0 : Int)) ∈ gCkA ∧ (294, 2, (0 : Int)) ∈ gCkA ∧ (294, 3, (0 : Int)) ∈ gCkA ∧ (294, 4, (0 : Int)) ∈ gCkA ∧ (294, 5, (0 : Int)) ∈ gCkA ∧ (294, 6, (0 : Int)) ∈ gCkA ∧ (294, 7, (0 : Int)) ∈ gCkA ∧ (294, 8, (5 : Int)) ∈ gCkA ∧ (294, 9, (0 : Int)) ∈ gCkA ∧ (294, 10, (0 : Int)) ∈ gCkA ∧ (294, 11, ((-1) : Int)) ∈ gCkA ∧ (294, 12, (0 : Int)) ∈ gCkA ∧ (294, 13, ((-1) : Int)) ∈ gCkA ∧ (294, 14, (1 : Int)) ∈ gCkA ∧ (29, 8, (4 : Int)) ∈ gCkA ∧ (29, 9, (0 : Int)) ∈ gCkA ∧ (29, 10, (0 : Int)) ∈ gCkA ∧ (29, 11, (0 : Int)) ∈ gCkA ∧ (29, 12, ((-1000000005) : Int)) ∈ gCkA ∧ (29, 13, (0 : Int)) ∈ gCkA ∧ (78, 6, (0 : Int)) ∈ gCkA ∧ (97, 1, ((-1000000005) : Int)) ∈ gCkA ∧ (97, 2, (1 : Int)) ∈ gCkA ∧ (109, 5, (0 : Int)) ∈ gCkA ∧ (123, 1, (0 : Int)) ∈ gCkA ∧ (123, 2, (0 : Int)) ∈ gCkA ∧ (123, 3, (0 : Int)) ∈ gCkA ∧ (123, 4, (0 : Int)) ∈ gCkA ∧ (125, 1, (0 : Int)) ∈ gCkA ∧ (28, 7, (0 : Int)) ∈ gCkA ∧ (28, 8, (5 : Int)) ∈ gCkA ∧ (279, 1, (0 : Int)) ∈ gCkA ∧ (293, 9, (0 : Int)) ∈ gCkA ∧ (27, 7, (0 : Int)) ∈ gCkA ∧ (293, 27, (0 : Int)) ∈ gCkA ∧ (27, 8, (0 : Int)) ∈ gCkA ∧ (293, 3, (0 : Int)) ∈ gCkA := by decide +kernel
theorem Inv_start {σ : gMm} (h : ∀ q ∈ gCkA, σ q.1 q.2.1 = q.2.2) : Inv σ := by
  obtain ⟨z294_0, z294_1, z294_2, z294_3, z294_4, z294_5, z294_6, z294_7, z294_8, z294_9, z294_10, z294_11, z294_12, z294_13, z294_14, z29_8, z29_9, z29_10, z29_11, z29_12, z29_13, z78_6, z97_1, z97_2, z109_5, z123_1, z123_2, z123_3, z123_4, z125_1, z28_7, z28_8, z279_1, z293_9, z27_7, z293_27, z27_8, z293_3⟩ := gz_1
  have e294_0 : σ 294 0 = 4 := h _ z294_0
  have e294_1 : σ 294 1 = 0 := h _ z294_1
  have e294_2 : σ 294 2 = 0 := h _ z294_2
  have e294_3 : σ 294 3 = 0 := h _ z294_3
  have e294_4 : σ 294 4 = 0 := h _ z294_4
  have e294_5 : σ 294 5 = 0 := h _ z294_5
  have e294_6 : σ 294 6 = 0 := h _ z294_6
  have e294_7 : σ 294 7 = 0 := h _ z294_7
  have e294_8 : σ 294 8 = 5 := h _ z294_8
  have e294_9 : σ 294 9 = 0 := h _ z294_9
  have e294_10 : σ 294 10 = 0 := h _ z294_10
  have e294_11 : σ 294 11 = (-1) := h _ z294_11
  have e294_12 : σ 294 12 = 0 := h _ z294_12
  have e294_13 : σ 294 13 = (-1) := h _ z294_13
  have e294_14 : σ 294 14 = 1 := h _ z294_14
  have e29_8 : σ 29 8 = 4 := h _ z29_8
  have e29_9 : σ 29 9 = 0 := h _ z29_9
  have e29_10 : σ 29 10 = 0 := h _ z29_10
  have e29_11 : σ 29 11 = 0 := h _ z29_11
  have e29_12 : σ 29 12 = (-1000000005) := h _ z29_12
  have e29_13 : σ 29 13 = 0 := h _ z29_13
  have e78_6 : σ 78 6 = 0 := h _ z78_6
  have e97_1 : σ 97 1 = (-1000000005) := h _ z97_1
  have e97_2 : σ 97 2 = 1 := h _ z97_2
  have e109_5 : σ 109 5 = 0 := h _ z109_5
  have e123_1 : σ 123 1 = 0 := h _ z123_1
  have e123_2 : σ 123 2 = 0 := h _ z123_2
  have e123_3 : σ 123 3 = 0 := h _ z123_3
  have e123_4 : σ 123 4 = 0 := h _ z123_4
  have e125_1 : σ 125 1 = 0 := h _ z125_1
  have e28_7 : σ 28 7 = 0 := h _ z28_7
  have e28_8 : σ 28 8 = 5 := h _ z28_8
  have e279_1 : σ 279 1 = 0 := h _ z279_1
  have e293_9 : σ 293 9 = 0 := h _ z293_9
  have e27_7 : σ 27 7 = 0 := h _ z27_7
  have e293_27 : σ 293 27 = 0 := h _ z293_27
  have e27_8 : σ 27 8 = 0 := h _ z27_8
  have e293_3 : σ 293 3 = 0 := h _ z293_3
  have hb : ∀ k : Nat, (k : Int) < σ 294 0 → k < 4 := fun k hk => by omega
  refine ⟨⟨⟨by omega, by omega, fun k hk => ?_, fun p hp => absurd hp (by omega), by omega, by omega, by omega, by omega⟩, ⟨by omega, fun t ht => absurd ht (by omega)⟩, ⟨by omega, by omega, fun j hj => ?_⟩, fun i hi j hj => ?_, ⟨by omega, fun i hi => absurd hi (by omega), fun a ha b hb => ?_⟩, ⟨by omega, fun k hk => absurd hk (by omega), by omega, fun k hk => absurd hk (by omega)⟩, ⟨by omega, fun i hi => absurd hi (by omega), fun i j hij hj => absurd hj (by omega)⟩, ⟨by omega, by omega⟩⟩, ⟨⟨by omega, by omega, fun k hk => ?_, fun p hp => absurd hp (by omega), by omega, by omega, ?_, by omega⟩, ⟨by omega, fun t ht => absurd ht (by omega)⟩, ⟨?_, by omega, fun j hj => ?_⟩, fun i hi j hj => ?_, ⟨by omega, ⟨id, ⟨fun i hi => ?_, fun i j hij hj => ?_⟩, fun i hi => absurd hi (by omega)⟩, fun a ha b hb => ?_⟩, ⟨by omega, ?_, ?_, by omega, fun k hk => absurd hk (by omega)⟩, ⟨by omega, fun i hi => absurd hi (by omega)⟩, ⟨by omega, by omega⟩⟩, ⟨by omega, by omega, fun i hi => absurd hi (by omega)⟩, fun t ht => ?_, ⟨by omega, by omega, fun i hi => absurd hi (by omega)⟩, ⟨by omega, by omega, fun z => absurd z (by omega)⟩⟩
  · obtain ⟨g1, g2, g3, -⟩ := gz_b k (hb k hk)
    have x1 : σ 294 (20 + 3 * k) = 10 := h _ g1
    have x2 : σ 294 (20 + 3 * k + 1) = 10 := h _ g2
    have x3 : σ 294 (20 + 3 * k + 2) = 0 := h _ g3
    omega
  · have x : σ 294 (60 + j) = 0 := h _ (gz_g j hj)
    omega
  · have x : σ 294 (800 + (2 * i + j)) = 63 := h _ (gz_s (2 * i + j) (by omega))
    rw [← Nat.add_assoc] at x
    omega
  · have x : σ 294 (720 + (10 * a + b)) = -1 := h _ (gz_w (10 * a + b) (by omega))
    rw [← Nat.add_assoc] at x
    omega
  · obtain ⟨g1, g2, g3, g4, g5, g6⟩ := gz_b k (hb k hk)
    exact ⟨(h _ g4).trans (h _ g1).symm, (h _ g5).trans (h _ g2).symm, (h _ g6).trans (h _ g3).symm⟩
  · show σ 29 12 = if σ 294 11 < 0 then cNone else σ 294 11
    rw [if_pos (by omega), e29_12]
  · show σ 97 1 = if σ 294 13 < 0 then cNone else σ 294 13
    rw [if_pos (by omega), e97_1]
  · have x : σ 98 (0 + j) = 0 := h _ (gz_c j hj)
    rw [Nat.zero_add] at x
    exact x.trans (h _ (gz_g j hj)).symm
  · have x : σ 294 (800 + (2 * i + j)) = 63 := h _ (gz_s (2 * i + j) (by omega))
    rw [← Nat.add_assoc] at x
    exact (h _ (gz_l i hi j hj)).trans x.symm
  · rw [e294_3] at hi
    exact absurd hi (by decide)
  · rw [e294_3] at hj
    exact absurd hj (Nat.not_lt_zero j)
  · have x : σ 294 (720 + (10 * a + b)) = -1 := h _ (gz_w (10 * a + b) (by omega))
    rw [← Nat.add_assoc] at x
    rw [if_pos (by omega)]
    exact h _ (gz_k a ha b hb)
  · rw [e294_4, e123_2]; rfl
  · rw [e294_4, e123_3]; rfl
  · have x1 : σ 290 (0 + t) = -1 := h _ (gz_t t ht)
    have x2 : σ 297 (0 + t) = -1 := h _ (gz_u t ht)
    have x3 : σ 298 (0 + t) = 0 := h _ (gz_v t ht)
    rw [Nat.zero_add] at x1 x2 x3
    refine ⟨x1.trans x2.symm, by omega, by omega, by omega, fun j hj => ?_⟩
    have y1 : σ (284 + t) j = 0 := h _ (gz_d t ht j hj)
    have y2 : σ 299 (0 + (24 * t + j)) = 0 := h _ (gz_x (24 * t + j) (by omega))
    rw [Nat.zero_add] at y2
    exact ⟨y1.trans y2.symm, fun z => by omega, fun z => by omega⟩
