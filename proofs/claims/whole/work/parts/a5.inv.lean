/-! The invariant holds behind the constructors. -/
variable {L d : Nat} {σ σ1 : Nat → Nat → Int} {Q : Option gV → (Nat → Nat → Int) → Prop} {a0 a1 a2 a3 a4 a5 a6 a7 a8 a9 a10 a11 s0 s1 s2 s3 s4 s5 s6 s7 s8 s9 : Int} {l0 l1 l2 l3 l4 l5 l6 l7 l8 l9 l10 l11 t0 t1 t2 t3 t4 t5 t6 t7 t8 t9 : gV} {b0 b1 b2 b3 b4 b5 b6 b7 b8 b9 b10 b11 c0 c1 c2 c3 c4 c5 c6 c7 c8 c9 : Nat} {r : Option gV}
def gCkA : List (Nat × (Nat × Int)) := gCk0 ++ (gCk1 ++ (gCk2 ++ (gCk3 ++ (gCk4 ++ (gCk5 ++ (gCk6))))))
theorem gck_all {m : gMem} {r : Option gV} (h : gc2 = some (r, m)) : ∀ q ∈ gCkA, m.2 q.1 q.2.1 = q.2.2 := by
  have g : ∀ cs, gcC cs gc2 = true → ∀ q ∈ cs, m.2 q.1 q.2.1 = q.2.2 := fun cs hc q hq => by
    rw [h] at hc
    exact of_decide_eq_true (List.all_eq_true.mp hc q hq)
  intro q hq
  unfold gCkA at hq
  simp only [List.mem_append] at hq
  rcases hq with h | h | h | h | h | h | h
  · exact g _ gck0 q h
  · exact g _ gck1 q h
  · exact g _ gck2 q h
  · exact g _ gck3 q h
  · exact g _ gck4 q h
  · exact g _ gck5 q h
  · exact g _ gck6 q h
theorem gz_g : ∀ j, j < 60 → (294, 60 + j, (0 : Int)) ∈ gCkA := by decide +kernel
theorem gz_s : ∀ j, j < 16 → (294, 800 + j, (63 : Int)) ∈ gCkA := by decide +kernel
theorem gz_w : ∀ j, j < 80 → (294, 720 + j, (-1 : Int)) ∈ gCkA := by decide +kernel
theorem gz_c : ∀ j, j < 60 → (98, 0 + j, (0 : Int)) ∈ gCkA := by decide +kernel
theorem gz_t : ∀ j, j < 6 → (290, 0 + j, (-1 : Int)) ∈ gCkA := by decide +kernel
theorem gz_u : ∀ j, j < 6 → (297, 0 + j, (-1 : Int)) ∈ gCkA := by decide +kernel
theorem gz_v : ∀ j, j < 6 → (298, 0 + j, (0 : Int)) ∈ gCkA := by decide +kernel
theorem gz_x : ∀ j, j < 144 → (299, 0 + j, (0 : Int)) ∈ gCkA := by decide +kernel
theorem gz_d : ∀ t, t < 6 → ∀ j, j < 24 → (284 + t, j, (0 : Int)) ∈ gCkA := by decide +kernel
theorem gz_k : ∀ a, a < 8 → ∀ b, b < 10 → (115 + a, b, (10000 : Int)) ∈ gCkA := by decide +kernel
theorem gz_l : ∀ i, i < 8 → ∀ j, j < 2 → (101 + i, j, (63 : Int)) ∈ gCkA := by decide +kernel
theorem gz_b0 : ∀ k, k < 4 → (294, 20 + 3 * k, (10 : Int)) ∈ gCkA := by decide +kernel
theorem gz_b1 : ∀ k, k < 4 → (294, 20 + 3 * k + 1, (10 : Int)) ∈ gCkA := by decide +kernel
theorem gz_b2 : ∀ k, k < 4 → (294, 20 + 3 * k + 2, (0 : Int)) ∈ gCkA := by decide +kernel
theorem gz_b3 : ∀ k, k < 4 → (30, k, (10 : Int)) ∈ gCkA := by decide +kernel
theorem gz_b4 : ∀ k, k < 4 → (31, k, (10 : Int)) ∈ gCkA := by decide +kernel
theorem gz_b5 : ∀ k, k < 4 → (32, k, (0 : Int)) ∈ gCkA := by decide +kernel
theorem gz_b (k : Nat) (hk : k < 4) : (294, 20 + 3 * k, (10 : Int)) ∈ gCkA ∧ (294, 20 + 3 * k + 1, (10 : Int)) ∈ gCkA ∧ (294, 20 + 3 * k + 2, (0 : Int)) ∈ gCkA ∧ (30, k, (10 : Int)) ∈ gCkA ∧ (31, k, (10 : Int)) ∈ gCkA ∧ (32, k, (0 : Int)) ∈ gCkA := ⟨gz_b0 k hk, gz_b1 k hk, gz_b2 k hk, gz_b3 k hk, gz_b4 k hk, gz_b5 k hk⟩
def gSg : List (Nat × (Nat × Int)) := [(294, 0, 4), (294, 1, 0), (294, 2, 0), (294, 3, 0), (294, 4, 0), (294, 5, 0), (294, 6, 0), (294, 7, 0), (294, 8, 5), (294, 9, 0), (294, 10, 0), (294, 11, (-1)), (294, 12, 0), (294, 13, (-1)), (294, 14, 1), (29, 8, 4), (29, 9, 0), (29, 10, 0), (29, 11, 0), (29, 12, (-1000000005)), (29, 13, 0), (78, 6, 0), (97, 1, (-1000000005)), (97, 2, 1), (109, 5, 0), (123, 1, 0), (123, 2, 0), (123, 3, 0), (123, 4, 0), (125, 1, 0), (28, 7, 0), (28, 8, 5), (279, 1, 0), (293, 9, 0), (27, 7, 0), (293, 27, 0), (27, 8, 0), (293, 3, 0)]
theorem gz_one : ∀ q ∈ gSg, q ∈ gCkA := by decide +kernel
theorem Inv_start {σ : gMm} (h : ∀ q ∈ gCkA, σ q.1 q.2.1 = q.2.2) : Inv σ := by
  have e294_0 : σ 294 0 = 4 := h _ (gz_one _ (List.mem_of_getElem? (i := 0) rfl))
  have e294_1 : σ 294 1 = 0 := h _ (gz_one _ (List.mem_of_getElem? (i := 1) rfl))
  have e294_2 : σ 294 2 = 0 := h _ (gz_one _ (List.mem_of_getElem? (i := 2) rfl))
  have e294_3 : σ 294 3 = 0 := h _ (gz_one _ (List.mem_of_getElem? (i := 3) rfl))
  have e294_4 : σ 294 4 = 0 := h _ (gz_one _ (List.mem_of_getElem? (i := 4) rfl))
  have e294_5 : σ 294 5 = 0 := h _ (gz_one _ (List.mem_of_getElem? (i := 5) rfl))
  have e294_6 : σ 294 6 = 0 := h _ (gz_one _ (List.mem_of_getElem? (i := 6) rfl))
  have e294_7 : σ 294 7 = 0 := h _ (gz_one _ (List.mem_of_getElem? (i := 7) rfl))
  have e294_8 : σ 294 8 = 5 := h _ (gz_one _ (List.mem_of_getElem? (i := 8) rfl))
  have e294_9 : σ 294 9 = 0 := h _ (gz_one _ (List.mem_of_getElem? (i := 9) rfl))
  have e294_10 : σ 294 10 = 0 := h _ (gz_one _ (List.mem_of_getElem? (i := 10) rfl))
  have e294_11 : σ 294 11 = (-1) := h _ (gz_one _ (List.mem_of_getElem? (i := 11) rfl))
  have e294_12 : σ 294 12 = 0 := h _ (gz_one _ (List.mem_of_getElem? (i := 12) rfl))
  have e294_13 : σ 294 13 = (-1) := h _ (gz_one _ (List.mem_of_getElem? (i := 13) rfl))
  have e294_14 : σ 294 14 = 1 := h _ (gz_one _ (List.mem_of_getElem? (i := 14) rfl))
  have e29_8 : σ 29 8 = 4 := h _ (gz_one _ (List.mem_of_getElem? (i := 15) rfl))
  have e29_9 : σ 29 9 = 0 := h _ (gz_one _ (List.mem_of_getElem? (i := 16) rfl))
  have e29_10 : σ 29 10 = 0 := h _ (gz_one _ (List.mem_of_getElem? (i := 17) rfl))
  have e29_11 : σ 29 11 = 0 := h _ (gz_one _ (List.mem_of_getElem? (i := 18) rfl))
  have e29_12 : σ 29 12 = (-1000000005) := h _ (gz_one _ (List.mem_of_getElem? (i := 19) rfl))
  have e29_13 : σ 29 13 = 0 := h _ (gz_one _ (List.mem_of_getElem? (i := 20) rfl))
  have e78_6 : σ 78 6 = 0 := h _ (gz_one _ (List.mem_of_getElem? (i := 21) rfl))
  have e97_1 : σ 97 1 = (-1000000005) := h _ (gz_one _ (List.mem_of_getElem? (i := 22) rfl))
  have e97_2 : σ 97 2 = 1 := h _ (gz_one _ (List.mem_of_getElem? (i := 23) rfl))
  have e109_5 : σ 109 5 = 0 := h _ (gz_one _ (List.mem_of_getElem? (i := 24) rfl))
  have e123_1 : σ 123 1 = 0 := h _ (gz_one _ (List.mem_of_getElem? (i := 25) rfl))
  have e123_2 : σ 123 2 = 0 := h _ (gz_one _ (List.mem_of_getElem? (i := 26) rfl))
  have e123_3 : σ 123 3 = 0 := h _ (gz_one _ (List.mem_of_getElem? (i := 27) rfl))
  have e123_4 : σ 123 4 = 0 := h _ (gz_one _ (List.mem_of_getElem? (i := 28) rfl))
  have e125_1 : σ 125 1 = 0 := h _ (gz_one _ (List.mem_of_getElem? (i := 29) rfl))
  have e28_7 : σ 28 7 = 0 := h _ (gz_one _ (List.mem_of_getElem? (i := 30) rfl))
  have e28_8 : σ 28 8 = 5 := h _ (gz_one _ (List.mem_of_getElem? (i := 31) rfl))
  have e279_1 : σ 279 1 = 0 := h _ (gz_one _ (List.mem_of_getElem? (i := 32) rfl))
  have e293_9 : σ 293 9 = 0 := h _ (gz_one _ (List.mem_of_getElem? (i := 33) rfl))
  have e27_7 : σ 27 7 = 0 := h _ (gz_one _ (List.mem_of_getElem? (i := 34) rfl))
  have e293_27 : σ 293 27 = 0 := h _ (gz_one _ (List.mem_of_getElem? (i := 35) rfl))
  have e27_8 : σ 27 8 = 0 := h _ (gz_one _ (List.mem_of_getElem? (i := 36) rfl))
  have e293_3 : σ 293 3 = 0 := h _ (gz_one _ (List.mem_of_getElem? (i := 37) rfl))
  have hb : ∀ k : Nat, (k : Int) < σ 294 0 → k < 4 := fun k hk => by omega
  refine ⟨⟨⟨by omega, by omega, fun k hk => ?_, fun p hp => absurd hp (by omega), by omega, by omega, by omega, by omega⟩, ⟨by omega, fun t ht => absurd ht (by omega)⟩, ⟨by omega, by omega, fun j hj => ?_⟩, fun i hi j hj => ?_, ⟨by omega, fun i hi => absurd hi (by omega), fun a ha b hb => ?_⟩, ⟨by omega, fun k hk => absurd hk (by omega), by omega, fun k hk => absurd hk (by omega)⟩, ⟨by omega, fun i hi => absurd hi (by omega), fun i j hij hj => absurd hj (by omega)⟩, ⟨by omega, by omega⟩⟩, ⟨⟨(e29_8.trans e294_0.symm), (e29_9.trans e294_1.symm), fun k hk => ?_, fun p hp => absurd hp (by omega), (e29_10.trans e294_9.symm), (e29_11.trans e294_10.symm), ?_, (e29_13.trans e294_12.symm)⟩, ⟨(e78_6.trans e294_2.symm), fun t ht => absurd ht (by omega)⟩, ⟨?_, (e97_2.trans e294_14.symm), fun j hj => ?_⟩, fun i hi j hj => ?_, ⟨(e109_5.trans e294_3.symm), ⟨id, ⟨fun i hi => ?_, fun i j hij hj => ?_⟩, fun i hi => absurd hi (by omega)⟩, fun a ha b hb => ?_⟩, ⟨(e123_1.trans e294_4.symm), ?_, ?_, (e123_4.trans e294_5.symm), fun k hk => absurd hk (by omega)⟩, ⟨(e125_1.trans e294_6.symm), fun i hi => absurd hi (by omega)⟩, ⟨(e28_7.trans e294_7.symm), (e28_8.trans e294_8.symm)⟩⟩, ⟨by omega, by omega, fun i hi => absurd hi (by omega)⟩, fun t ht => ?_, ⟨by omega, by omega, fun i hi => absurd hi (by omega)⟩, ⟨by omega, by omega, fun z => absurd z (by omega)⟩⟩
  · obtain ⟨g1, g2, g3, -⟩ := gz_b k (hb k hk)
    have x1 : σ 294 (20 + 3 * k) = 10 := h _ g1
    have x2 : σ 294 (20 + 3 * k + 1) = 10 := h _ g2
    have x3 : σ 294 (20 + 3 * k + 2) = 0 := h _ g3
    omega
  · have x : σ 294 (60 + j) = 0 := h _ (gz_g j hj)
    omega
  · have x : σ 294 (800 + (2 * i + j)) = 63 := h _ (gz_s (2 * i + j) (by omega))
    rw [← Nat.add_assoc] at x
    omega
  · have x : σ 294 (720 + (10 * a + b)) = -1 := h _ (gz_w (10 * a + b) (by omega))
    rw [← Nat.add_assoc] at x
    omega
  · obtain ⟨g1, g2, g3, g4, g5, g6⟩ := gz_b k (hb k hk)
    exact ⟨(h _ g4).trans (h _ g1).symm, (h _ g5).trans (h _ g2).symm, (h _ g6).trans (h _ g3).symm⟩
  · show σ 29 12 = if σ 294 11 < 0 then cNone else σ 294 11
    rw [if_pos (by omega), e29_12]
  · show σ 97 1 = if σ 294 13 < 0 then cNone else σ 294 13
    rw [if_pos (by omega), e97_1]
  · have x : σ 98 (0 + j) = 0 := h _ (gz_c j hj)
    rw [Nat.zero_add] at x
    exact x.trans (h _ (gz_g j hj)).symm
  · have x : σ 294 (800 + (2 * i + j)) = 63 := h _ (gz_s (2 * i + j) (by omega))
    rw [← Nat.add_assoc] at x
    exact (h _ (gz_l i hi j hj)).trans x.symm
  · rw [e294_3] at hi
    exact absurd hi (Nat.not_lt_zero i)
  · rw [e294_3] at hj
    exact absurd hj (Nat.not_lt_zero j)
  · have x : σ 294 (720 + (10 * a + b)) = -1 := h _ (gz_w (10 * a + b) (by omega))
    rw [← Nat.add_assoc] at x
    rw [if_pos (by omega)]
    exact h _ (gz_k a ha b hb)
  · rw [e294_4, e123_2]; rfl
  · rw [e294_4, e123_3]; rfl
  · have x1 : σ 290 (0 + t) = -1 := h _ (gz_t t ht)
    have x2 : σ 297 (0 + t) = -1 := h _ (gz_u t ht)
    have x3 : σ 298 (0 + t) = 0 := h _ (gz_v t ht)
    rw [Nat.zero_add] at x1 x2 x3
    refine ⟨x1.trans x2.symm, by omega, by omega, by omega, fun j hj => ?_⟩
    have y1 : σ (284 + t) j = 0 := h _ (gz_d t ht j hj)
    have y2 : σ 299 (0 + (24 * t + j)) = 0 := h _ (gz_x (24 * t + j) (by omega))
    rw [Nat.zero_add] at y2
    exact ⟨y1.trans y2.symm, fun z => by omega, fun z => by omega⟩
