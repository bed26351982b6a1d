/-! text: the class keeps a text. -/
variable {L d : Nat} {σ σ1 : Nat → Nat → Int} {Q : Option gV → (Nat → Nat → Int) → Prop} {a0 a1 a2 a3 a4 a5 a6 a7 a8 a9 a10 a11 s0 s1 s2 s3 s4 s5 s6 s7 s8 s9 : Int} {l0 l1 l2 l3 l4 l5 l6 l7 l8 l9 l10 l11 t0 t1 t2 t3 t4 t5 t6 t7 t8 t9 : gV} {b0 b1 b2 b3 b4 b5 b6 b7 b8 b9 b10 b11 c0 c1 c2 c3 c4 c5 c6 c7 c8 c9 : Nat} {r : Option gV}
/-- a text in order -/
def WTb (f : Nat → Int) (t : Nat) : Prop := ((0 ≤ f (930 + 200 * t) ∧ f (930 + 200 * t) ≤ 3) ∧ (0 ≤ f (930 + 200 * t + 1) ∧ f (930 + 200 * t + 1) ≤ 599) ∧ (0 ≤ f (930 + 200 * t + 2) ∧ f (930 + 200 * t + 2) ≤ 96) ∧ (1 ≤ f (930 + 200 * t + 3) ∧ f (930 + 200 * t + 3) ≤ 96) ∧ WCode (f (930 + 200 * t)) (gtw f t) (gtv f t) (f (930 + 200 * t + 3)))
def CTb (f : Nat → Int) (σ : gMm) (t : Nat) : Prop := (σ 92 t = f (930 + 200 * t + 3) ∧ σ 93 t = f (930 + 200 * t) ∧ σ 94 t = f (930 + 200 * t + 1) ∧ σ 95 t = f (930 + 200 * t + 2) ∧ ∀ k : Nat, (k : Int) < f (930 + 200 * t + 3) → σ (80 + t) k = gcd1 (f (930 + 200 * t)) (gtw f t k) (gtv f t k))
def TOld (σ σ' : gMm) : Prop := ∀ t : Nat, (t : Int) < σ 294 2 → (∀ j, j < 200 → σ' 294 (930 + 200 * t + j) = σ 294 (930 + 200 * t + j)) ∧ (σ' 92 t = σ 92 t ∧ σ' 93 t = σ 93 t ∧ σ' 94 t = σ 94 t ∧ σ' 95 t = σ 95 t) ∧ ∀ k, σ' (80 + t) k = σ (80 + t) k
theorem T_old {σ σ' : gMm} (hw : WT (σ 294)) (hc : CT 78 (σ 294) σ) (h : TOld σ σ') (t : Nat) (ht : (t : Int) < σ 294 2) : WTb (σ' 294) t ∧ CTb (σ' 294) σ' t := by
  obtain ⟨q1, q2, q3, q4, q5⟩ := WTp hw ht
  obtain ⟨d1, d2, d3, d4, d5⟩ := CTp hc ht
  obtain ⟨g, ⟨e1, e2, e3, e4⟩, e5⟩ := h t ht
  have g0 : σ' 294 (930 + 200 * t) = σ 294 (930 + 200 * t) := g 0 (by omega)
  have g1 := g 1 (by omega)
  have g2 := g 2 (by omega)
  have g3 := g 3 (by omega)
  have w1 : ∀ k : Nat, (k : Int) < σ 294 (930 + 200 * t + 3) → gtw (σ' 294) t k = gtw (σ 294) t k := fun k hk => by
    have := g (4 + 2 * k) (by omega)
    rw [← Nat.add_assoc] at this
    exact this
  have w2 : ∀ k : Nat, (k : Int) < σ 294 (930 + 200 * t + 3) → gtv (σ' 294) t k = gtv (σ 294) t k := fun k hk => by
    have := g (4 + 2 * k + 1) (by omega)
    rw [← Nat.add_assoc, ← Nat.add_assoc] at this
    exact this
  unfold WTb CTb
  rw [g0, g1, g2, g3, e1, e2, e3, e4]
  refine ⟨⟨q1, q2, q3, q4, WCode_congr (fun k hk => ⟨w1 k hk, w2 k hk⟩) q5⟩, d1, d2, d3, d4, fun k hk => ?_⟩
  rw [e5, w1 k hk, w2 k hk]
  exact d5 k hk
theorem T_same {σ σ' : gMm} (hw : WT (σ 294)) (hc : CT 78 (σ 294) σ) (h : TOld σ σ') (e2 : σ' 294 2 = σ 294 2) (e6 : σ' 78 6 = σ 78 6) : WT (σ' 294) ∧ CT 78 (σ' 294) σ' := by
  refine ⟨⟨by rw [e2]; exact hw.1, fun t ht => ?_⟩, ⟨by rw [e6, e2]; exact hc.1, fun t ht => ?_⟩⟩
  · rw [e2] at ht; exact (T_old hw hc h t ht).1
  · rw [e2] at ht; exact (T_old hw hc h t ht).2
theorem T_more {σ σ' : gMm} {T : Nat} (hT : σ 294 2 = (T : Int)) (h12 : T < 12) (hw : WT (σ 294)) (hc : CT 78 (σ 294) σ) (h : TOld σ σ') (e2 : σ' 294 2 = (T : Int) + 1) (e6 : σ' 78 6 = (T : Int) + 1) (hn : WTb (σ' 294) T ∧ CTb (σ' 294) σ' T) : WT (σ' 294) ∧ CT 78 (σ' 294) σ' := by
  refine ⟨⟨by rw [e2]; omega, fun t ht => ?_⟩, ⟨by rw [e6, e2], fun t ht => ?_⟩⟩
  · rw [e2] at ht
    by_cases z : t = T
    · rw [z]; exact hn.1
    · exact (T_old hw hc h t (by omega)).1
  · rw [e2] at ht
    by_cases z : t = T
    · rw [z]; exact hn.2
    · exact (T_old hw hc h t (by omega)).2
set_option maxRecDepth 4000 in
theorem r_X_text_0 : Wp L d k_X_text 0 [l0, vI a1, l2] [] σ Q ↔ Wp L d k_X_text 1 [l0, vI a1, l2] [vI a1] σ Q := wp_iload rfl rfl
set_option maxRecDepth 4000 in
theorem r_X_text_4 : Wp L d k_X_text 4 [l0, l1, l2] [vI s0] σ Q ↔ (if s0 ≠ 0 then Wp L d k_X_text 18 [l0, l1, l2] [] σ Q else Wp L d k_X_text 7 [l0, l1, l2] [] σ Q) := wp_if_ne rfl
set_option maxRecDepth 4000 in
theorem r_X_text_7 : Wp L d k_X_text 7 [vR b0, l1, l2] [] σ Q ↔ Wp L d k_X_text 8 [vR b0, l1, l2] [vR b0] σ Q := wp_aload rfl rfl
set_option maxRecDepth 4000 in
theorem r_X_text_8 (h : gK c0 = 0) : Wp L d k_X_text 8 [l0, l1, l2] [vR c0] σ Q ↔ Wp L d k_X_text 11 [l0, l1, l2] [vR (gq c0 4)] σ Q := wp_getR (c := 132) rfl rfl rfl rfl rfl h
set_option maxRecDepth 4000 in
theorem r_X_text_11 : Wp L d k_X_text 11 [l0, l1, l2] [vR c0] σ Q ↔ Wp L d k_X_text 12 [l0, l1, l2] [vI 0, vR c0] σ Q := wp_push rfl
set_option maxRecDepth 4000 in
theorem r_X_text_12 (h : gK c0 = 8) : Wp L d k_X_text 12 [l0, l1, l2] [vI s1, vR c0] σ Q ↔ Wp L d k_X_text 15 [l0, l1, l2] [] (gupd σ c0 1 s1) Q := wp_putI (c := 2049) rfl rfl rfl rfl h
set_option maxRecDepth 4000 in
theorem r_X_text_15 : Wp L d k_X_text 15 [l0, l1, l2] [] σ Q ↔ Wp L d k_X_text 17 [l0, l1, l2] [vI (-1000000001)] σ Q := wp_push rfl
set_option maxRecDepth 4000 in
theorem r_X_text_17 : Wp L d k_X_text 17 [l0, l1, l2] [vI s0] σ Q ↔ Q (some (vI s0)) σ := wp_iret rfl
set_option maxRecDepth 4000 in
theorem r_X_text_18 : Wp L d k_X_text 18 [vR b0, l1, l2] [] σ Q ↔ Wp L d k_X_text 19 [vR b0, l1, l2] [vR b0] σ Q := wp_aload rfl rfl
set_option maxRecDepth 4000 in
theorem r_X_text_19 (h : gK c0 = 0) : Wp L d k_X_text 19 [l0, l1, l2] [vR c0] σ Q ↔ Wp L d k_X_text 22 [l0, l1, l2] [vR (gq c0 4)] σ Q := wp_getR (c := 132) rfl rfl rfl rfl rfl h
set_option maxRecDepth 4000 in
theorem c_X_text_22 (hR : Run L d 156 [vR c0] σ r σ1) (h : gK c0 = 8) : Wp L (d + 1) k_X_text 22 [l0, l1, l2] [vR c0] σ Q ↔ Wp L (d + 1) k_X_text 25 [l0, l1, l2] (r.toList ++ []) σ1 Q := wp_callR (as := [vR c0]) (rest := []) rfl rfl rfl rfl rfl rfl rfl (grecv_k (by rw [h]) rfl) hR
set_option maxRecDepth 4000 in
theorem r_X_text_25 : Wp L d k_X_text 25 [l0, vI a1, l2] [vI s0] σ Q ↔ Wp L d k_X_text 26 [l0, vI a1, vI s0] [] σ Q := wp_istore (i := 2) (ls := [l0, vI a1, l2]) rfl rfl
set_option maxRecDepth 4000 in
theorem r_X_text_26 : Wp L d k_X_text 26 [vR b0, l1, l2] [] σ Q ↔ Wp L d k_X_text 27 [vR b0, l1, l2] [vR b0] σ Q := wp_aload rfl rfl
set_option maxRecDepth 4000 in
theorem r_X_text_27 (h : gK c0 = 0) : Wp L d k_X_text 27 [l0, l1, l2] [vR c0] σ Q ↔ Wp L d k_X_text 30 [l0, l1, l2] [vR (gq c0 4)] σ Q := wp_getR (c := 132) rfl rfl rfl rfl rfl h
set_option maxRecDepth 4000 in
theorem r_X_text_30 : Wp L d k_X_text 30 [l0, l1, l2] [vR c0] σ Q ↔ Wp L d k_X_text 31 [l0, l1, l2] [vI 0, vR c0] σ Q := wp_push rfl
set_option maxRecDepth 4000 in
theorem r_X_text_31 (h : gK c0 = 8) : Wp L d k_X_text 31 [l0, l1, l2] [vI s1, vR c0] σ Q ↔ Wp L d k_X_text 34 [l0, l1, l2] [] (gupd σ c0 1 s1) Q := wp_putI (c := 2049) rfl rfl rfl rfl h
set_option maxRecDepth 4000 in
theorem r_X_text_34 : Wp L d k_X_text 34 [l0, l1, vI a2] [] σ Q ↔ Wp L d k_X_text 35 [l0, l1, vI a2] [vI a2] σ Q := wp_iload rfl rfl
set_option maxRecDepth 4000 in
theorem r_X_text_35 : Wp L d k_X_text 35 [l0, l1, l2] [vI s0] σ Q ↔ Wp L d k_X_text 37 [l0, l1, l2] [vI (-1000000005), vI s0] σ Q := wp_push rfl
set_option maxRecDepth 4000 in
theorem r_X_text_37 : Wp L d k_X_text 37 [l0, l1, l2] [vI s1, vI s0] σ Q ↔ (if s0 = s1 then Wp L d k_X_text 45 [l0, l1, l2] [] σ Q else Wp L d k_X_text 40 [l0, l1, l2] [] σ Q) := wp_cmp_eq rfl
set_option maxRecDepth 4000 in
theorem r_X_text_40 : Wp L d k_X_text 40 [l0, l1, l2] [] σ Q ↔ Wp L d k_X_text 42 [l0, l1, l2] [vI (-100)] σ Q := wp_push rfl
set_option maxRecDepth 4000 in
theorem r_X_text_42 : Wp L d k_X_text 42 [l0, l1, vI a2] [vI s0] σ Q ↔ Wp L d k_X_text 43 [l0, l1, vI a2] [vI a2, vI s0] σ Q := wp_iload rfl rfl
set_option maxRecDepth 4000 in
theorem r_X_text_43 : Wp L d k_X_text 43 [l0, l1, l2] [vI s1, vI s0] σ Q ↔ Wp L d k_X_text 44 [l0, l1, l2] [vI (w32 (s0 - s1))] σ Q := wp_isub rfl
set_option maxRecDepth 4000 in
theorem r_X_text_44 : Wp L d k_X_text 44 [l0, l1, l2] [vI s0] σ Q ↔ Q (some (vI s0)) σ := wp_iret rfl
set_option maxRecDepth 4000 in
theorem r_X_text_45 : Wp L d k_X_text 45 [vR b0, l1, l2] [] σ Q ↔ Wp L d k_X_text 46 [vR b0, l1, l2] [vR b0] σ Q := wp_aload rfl rfl
set_option maxRecDepth 4000 in
theorem r_X_text_46 (h : gK c0 = 0) : Wp L d k_X_text 46 [l0, l1, l2] [vR c0] σ Q ↔ Wp L d k_X_text 49 [l0, l1, l2] [vR (gq c0 0)] σ Q := wp_getR (c := 128) rfl rfl rfl rfl rfl h
set_option maxRecDepth 4000 in
theorem r_X_text_49 (h : gK c0 = 5) : Wp L d k_X_text 49 [l0, l1, l2] [vR c0] σ Q ↔ Wp L d k_X_text 52 [l0, l1, l2] [vR (gq c0 1)] σ Q := wp_getR (c := 1409) rfl rfl rfl rfl rfl h
set_option maxRecDepth 4000 in
theorem r_X_text_52 (h : gK c0 = 10) : Wp L d k_X_text 52 [l0, l1, l2] [vR c0] σ Q ↔ Wp L d k_X_text 55 [l0, l1, l2] [vI (σ c0 6)] σ Q := wp_getI (c := 2566) rfl rfl rfl rfl h
set_option maxRecDepth 4000 in
theorem r_X_text_55 : Wp L d k_X_text 55 [l0, l1, l2] [vI s0] σ Q ↔ Wp L d k_X_text 57 [l0, l1, l2] [vI 12, vI s0] σ Q := wp_push rfl
set_option maxRecDepth 4000 in
theorem r_X_text_57 : Wp L d k_X_text 57 [l0, l1, l2] [vI s1, vI s0] σ Q ↔ (if s1 ≤ s0 then Wp L d k_X_text 78 [l0, l1, l2] [] σ Q else Wp L d k_X_text 60 [l0, l1, l2] [] σ Q) := wp_cmp_ge rfl
set_option maxRecDepth 4000 in
theorem r_X_text_60 : Wp L d k_X_text 60 [vR b0, l1, l2] [] σ Q ↔ Wp L d k_X_text 61 [vR b0, l1, l2] [vR b0] σ Q := wp_aload rfl rfl
set_option maxRecDepth 4000 in
theorem r_X_text_61 (h : gK c0 = 0) : Wp L d k_X_text 61 [l0, l1, l2] [vR c0] σ Q ↔ Wp L d k_X_text 64 [l0, l1, l2] [vR (gq c0 0)] σ Q := wp_getR (c := 128) rfl rfl rfl rfl rfl h
set_option maxRecDepth 4000 in
theorem r_X_text_64 (h : gK c0 = 5) : Wp L d k_X_text 64 [l0, l1, l2] [vR c0] σ Q ↔ Wp L d k_X_text 67 [l0, l1, l2] [vR (gq c0 1)] σ Q := wp_getR (c := 1409) rfl rfl rfl rfl rfl h
set_option maxRecDepth 4000 in
theorem r_X_text_67 : Wp L d k_X_text 67 [vR b0, l1, l2] [vR c0] σ Q ↔ Wp L d k_X_text 68 [vR b0, l1, l2] [vR b0, vR c0] σ Q := wp_aload rfl rfl
set_option maxRecDepth 4000 in
theorem r_X_text_68 (h : gK c1 = 0) : Wp L d k_X_text 68 [l0, l1, l2] [vR c1, vR c0] σ Q ↔ Wp L d k_X_text 71 [l0, l1, l2] [vR (gq c1 4), vR c0] σ Q := wp_getR (c := 132) rfl rfl rfl rfl rfl h
set_option maxRecDepth 4000 in
theorem r_X_text_71 : Wp L d k_X_text 71 [l0, vI a1, l2] [vR c1, vR c0] σ Q ↔ Wp L d k_X_text 72 [l0, vI a1, l2] [vI a1, vR c1, vR c0] σ Q := wp_iload rfl rfl
set_option maxRecDepth 4000 in
theorem c_X_text_72 (hR : Run L d 178 [vR c0, vR c1, vI s2] σ r σ1) (h : gK c0 = 10) : Wp L (d + 1) k_X_text 72 [l0, l1, l2] [vI s2, vR c1, vR c0] σ Q ↔ Wp L (d + 1) k_X_text 75 [l0, l1, l2] (r.toList ++ []) σ1 Q := wp_callR (as := [vR c0, vR c1, vI s2]) (rest := []) rfl rfl rfl rfl rfl rfl rfl (grecv_k (by rw [h]) rfl) hR
set_option maxRecDepth 4000 in
theorem r_X_text_75 : Wp L d k_X_text 75 [l0, l1, l2] [vI s0] σ Q ↔ Wp L d k_X_text 80 [l0, l1, l2] [vI s0] σ Q := wp_goto rfl
set_option maxRecDepth 4000 in
theorem r_X_text_78 : Wp L d k_X_text 78 [l0, l1, l2] [] σ Q ↔ Wp L d k_X_text 80 [l0, l1, l2] [vI (-1000000003)] σ Q := wp_push rfl
set_option maxRecDepth 4000 in
theorem r_X_text_80 : Wp L d k_X_text 80 [l0, l1, l2] [vI s0] σ Q ↔ Q (some (vI s0)) σ := wp_iret rfl
set_option maxRecDepth 4000 in
theorem r_X_text_1 : Wp L (d + 8) k_X_text 1 [l0, l1, l2] [vI s0] σ Q ↔ Wp L (d + 8) k_X_text 4 [l0, l1, l2] [vI (gb (0 ≤ s0 ∧ s0 ≤ 599))] σ Q := wp_callR (d := d + 7) (as := [vI s0]) (rest := []) rfl rfl rfl rfl rfl rfl rfl rfl (sp_X_isMonth)
set_option maxRecDepth 4000 in
theorem r_C_add_0 : Wp L d k_C_add 0 [l0, vR b1, l2] [] σ Q ↔ Wp L d k_C_add 1 [l0, vR b1, l2] [vR b1] σ Q := wp_aload rfl rfl
set_option maxRecDepth 4000 in
theorem r_C_add_1 (h : gK c0 = 8) : Wp L d k_C_add 1 [l0, l1, l2] [vR c0] σ Q ↔ Wp L d k_C_add 4 [l0, l1, l2] [vR (gq c0 5)] σ Q := wp_getR (c := 2181) rfl rfl rfl rfl rfl h
set_option maxRecDepth 4000 in
theorem r_C_add_4 : Wp L d k_C_add 4 [l0, l1, l2] [vR c0] σ Q ↔ Wp L d k_C_add 5 [l0, l1, l2] [vI 0, vR c0] σ Q := wp_push rfl
set_option maxRecDepth 4000 in
theorem r_C_add_5 : Wp L d k_C_add 5 [vR b0, l1, l2] [vI s1, vR c0] σ Q ↔ Wp L d k_C_add 6 [vR b0, l1, l2] [vR b0, vI s1, vR c0] σ Q := wp_aload rfl rfl
set_option maxRecDepth 4000 in
theorem r_C_add_6 (h : gK c2 = 10) : Wp L d k_C_add 6 [l0, l1, l2] [vR c2, vI s1, vR c0] σ Q ↔ Wp L d k_C_add 9 [l0, l1, l2] [vR (gq c2 0), vI s1, vR c0] σ Q := wp_getR (c := 2688) rfl rfl rfl rfl rfl h
set_option maxRecDepth 4000 in
theorem r_C_add_9 : Wp L d k_C_add 9 [vR b0, l1, l2] [vR c2, vI s1, vR c0] σ Q ↔ Wp L d k_C_add 10 [vR b0, l1, l2] [vR b0, vR c2, vI s1, vR c0] σ Q := wp_aload rfl rfl
set_option maxRecDepth 4000 in
theorem r_C_add_10 (h : gK c3 = 10) : Wp L d k_C_add 10 [l0, l1, l2] [vR c3, vR c2, vI s1, vR c0] σ Q ↔ Wp L d k_C_add 13 [l0, l1, l2] [vI (σ c3 6), vR c2, vI s1, vR c0] σ Q := wp_getI (c := 2566) rfl rfl rfl rfl h
set_option maxRecDepth 4000 in
theorem r_C_add_13 (h : gK c2 = 102 ∨ gK c2 = 103) (hx : 0 ≤ s3 ∧ s3 < gN c2) : Wp L d k_C_add 13 [l0, l1, l2] [vI s3, vR c2, vI s1, vR c0] σ Q ↔ Wp L d k_C_add 14 [l0, l1, l2] [vR (gq c2 s3.toNat), vI s1, vR c0] σ Q := wp_aald rfl h hx
set_option maxRecDepth 4000 in
theorem r_C_add_14 : Wp L d k_C_add 14 [l0, l1, l2] [vR c2, vI s1, vR c0] σ Q ↔ Wp L d k_C_add 15 [l0, l1, l2] [vI 0, vR c2, vI s1, vR c0] σ Q := wp_push rfl
set_option maxRecDepth 4000 in
theorem r_C_add_15 : Wp L d k_C_add 15 [l0, vR b1, l2] [vI s3, vR c2, vI s1, vR c0] σ Q ↔ Wp L d k_C_add 16 [l0, vR b1, l2] [vR b1, vI s3, vR c2, vI s1, vR c0] σ Q := wp_aload rfl rfl
set_option maxRecDepth 4000 in
theorem r_C_add_16 (h : gK c4 = 8) : Wp L d k_C_add 16 [l0, l1, l2] [vR c4, vI s3, vR c2, vI s1, vR c0] σ Q ↔ Wp L d k_C_add 19 [l0, l1, l2] [vI (σ c4 6), vI s3, vR c2, vI s1, vR c0] σ Q := wp_getI (c := 2054) rfl rfl rfl rfl h
set_option maxRecDepth 4000 in
theorem r_C_add_19 (h : gK c0 = 100) (h2 : gK c2 = 100) (hx : 0 ≤ s4 ∧ 0 ≤ s1 ∧ 0 ≤ s3 ∧ s1 + s4 ≤ gN c0 ∧ s3 + s4 ≤ gN c2) : Wp L d k_C_add 19 [l0, l1, l2] [vI s4, vI s3, vR c2, vI s1, vR c0] σ Q ↔ Wp L d k_C_add 22 [l0, l1, l2] [] (gcpy σ c0 s1.toNat c2 s3.toNat s4.toNat) Q := wp_copy rfl rfl h h2 hx
set_option maxRecDepth 4000 in
theorem r_C_add_22 : Wp L d k_C_add 22 [vR b0, l1, l2] [] σ Q ↔ Wp L d k_C_add 23 [vR b0, l1, l2] [vR b0] σ Q := wp_aload rfl rfl
set_option maxRecDepth 4000 in
theorem r_C_add_23 (h : gK c0 = 10) : Wp L d k_C_add 23 [l0, l1, l2] [vR c0] σ Q ↔ Wp L d k_C_add 26 [l0, l1, l2] [vR (gq c0 1)] σ Q := wp_getR (c := 2689) rfl rfl rfl rfl rfl h
set_option maxRecDepth 4000 in
theorem r_C_add_26 : Wp L d k_C_add 26 [vR b0, l1, l2] [vR c0] σ Q ↔ Wp L d k_C_add 27 [vR b0, l1, l2] [vR b0, vR c0] σ Q := wp_aload rfl rfl
set_option maxRecDepth 4000 in
theorem r_C_add_27 (h : gK c1 = 10) : Wp L d k_C_add 27 [l0, l1, l2] [vR c1, vR c0] σ Q ↔ Wp L d k_C_add 30 [l0, l1, l2] [vI (σ c1 6), vR c0] σ Q := wp_getI (c := 2566) rfl rfl rfl rfl h
set_option maxRecDepth 4000 in
theorem r_C_add_30 : Wp L d k_C_add 30 [l0, vR b1, l2] [vI s1, vR c0] σ Q ↔ Wp L d k_C_add 31 [l0, vR b1, l2] [vR b1, vI s1, vR c0] σ Q := wp_aload rfl rfl
set_option maxRecDepth 4000 in
theorem r_C_add_31 (h : gK c2 = 8) : Wp L d k_C_add 31 [l0, l1, l2] [vR c2, vI s1, vR c0] σ Q ↔ Wp L d k_C_add 34 [l0, l1, l2] [vI (σ c2 6), vI s1, vR c0] σ Q := wp_getI (c := 2054) rfl rfl rfl rfl h
set_option maxRecDepth 4000 in
theorem r_C_add_34 (h : gK c0 = 100) (hx : 0 ≤ s1 ∧ s1 < gN c0) : Wp L d k_C_add 34 [l0, l1, l2] [vI s2, vI s1, vR c0] σ Q ↔ Wp L d k_C_add 35 [l0, l1, l2] [] (gupd σ c0 s1.toNat s2) Q := wp_iast rfl h hx
set_option maxRecDepth 4000 in
theorem r_C_add_35 : Wp L d k_C_add 35 [vR b0, l1, l2] [] σ Q ↔ Wp L d k_C_add 36 [vR b0, l1, l2] [vR b0] σ Q := wp_aload rfl rfl
set_option maxRecDepth 4000 in
theorem r_C_add_36 (h : gK c0 = 10) : Wp L d k_C_add 36 [l0, l1, l2] [vR c0] σ Q ↔ Wp L d k_C_add 39 [l0, l1, l2] [vR (gq c0 2)] σ Q := wp_getR (c := 2690) rfl rfl rfl rfl rfl h
set_option maxRecDepth 4000 in
theorem r_C_add_39 : Wp L d k_C_add 39 [vR b0, l1, l2] [vR c0] σ Q ↔ Wp L d k_C_add 40 [vR b0, l1, l2] [vR b0, vR c0] σ Q := wp_aload rfl rfl
set_option maxRecDepth 4000 in
theorem r_C_add_40 (h : gK c1 = 10) : Wp L d k_C_add 40 [l0, l1, l2] [vR c1, vR c0] σ Q ↔ Wp L d k_C_add 43 [l0, l1, l2] [vI (σ c1 6), vR c0] σ Q := wp_getI (c := 2566) rfl rfl rfl rfl h
set_option maxRecDepth 4000 in
theorem r_C_add_43 : Wp L d k_C_add 43 [l0, vR b1, l2] [vI s1, vR c0] σ Q ↔ Wp L d k_C_add 44 [l0, vR b1, l2] [vR b1, vI s1, vR c0] σ Q := wp_aload rfl rfl
set_option maxRecDepth 4000 in
theorem r_C_add_44 (h : gK c2 = 8) : Wp L d k_C_add 44 [l0, l1, l2] [vR c2, vI s1, vR c0] σ Q ↔ Wp L d k_C_add 47 [l0, l1, l2] [vI (σ c2 8), vI s1, vR c0] σ Q := wp_getI (c := 2056) rfl rfl rfl rfl h
set_option maxRecDepth 4000 in
theorem r_C_add_47 (h : gK c0 = 100) (hx : 0 ≤ s1 ∧ s1 < gN c0) : Wp L d k_C_add 47 [l0, l1, l2] [vI s2, vI s1, vR c0] σ Q ↔ Wp L d k_C_add 48 [l0, l1, l2] [] (gupd σ c0 s1.toNat s2) Q := wp_iast rfl h hx
set_option maxRecDepth 4000 in
theorem r_C_add_48 : Wp L d k_C_add 48 [vR b0, l1, l2] [] σ Q ↔ Wp L d k_C_add 49 [vR b0, l1, l2] [vR b0] σ Q := wp_aload rfl rfl
set_option maxRecDepth 4000 in
theorem r_C_add_49 (h : gK c0 = 10) : Wp L d k_C_add 49 [l0, l1, l2] [vR c0] σ Q ↔ Wp L d k_C_add 52 [l0, l1, l2] [vR (gq c0 3)] σ Q := wp_getR (c := 2691) rfl rfl rfl rfl rfl h
set_option maxRecDepth 4000 in
theorem r_C_add_52 : Wp L d k_C_add 52 [vR b0, l1, l2] [vR c0] σ Q ↔ Wp L d k_C_add 53 [vR b0, l1, l2] [vR b0, vR c0] σ Q := wp_aload rfl rfl
set_option maxRecDepth 4000 in
theorem r_C_add_53 (h : gK c1 = 10) : Wp L d k_C_add 53 [l0, l1, l2] [vR c1, vR c0] σ Q ↔ Wp L d k_C_add 56 [l0, l1, l2] [vI (σ c1 6), vR c0] σ Q := wp_getI (c := 2566) rfl rfl rfl rfl h
set_option maxRecDepth 4000 in
theorem r_C_add_56 : Wp L d k_C_add 56 [l0, l1, vI a2] [vI s1, vR c0] σ Q ↔ Wp L d k_C_add 57 [l0, l1, vI a2] [vI a2, vI s1, vR c0] σ Q := wp_iload rfl rfl
set_option maxRecDepth 4000 in
theorem r_C_add_57 (h : gK c0 = 100) (hx : 0 ≤ s1 ∧ s1 < gN c0) : Wp L d k_C_add 57 [l0, l1, l2] [vI s2, vI s1, vR c0] σ Q ↔ Wp L d k_C_add 58 [l0, l1, l2] [] (gupd σ c0 s1.toNat s2) Q := wp_iast rfl h hx
set_option maxRecDepth 4000 in
theorem r_C_add_58 : Wp L d k_C_add 58 [vR b0, l1, l2] [] σ Q ↔ Wp L d k_C_add 59 [vR b0, l1, l2] [vR b0] σ Q := wp_aload rfl rfl
set_option maxRecDepth 4000 in
theorem r_C_add_59 (h : gK c0 = 10) : Wp L d k_C_add 59 [l0, l1, l2] [vR c0] σ Q ↔ Wp L d k_C_add 62 [l0, l1, l2] [vR (gq c0 4)] σ Q := wp_getR (c := 2692) rfl rfl rfl rfl rfl h
set_option maxRecDepth 4000 in
theorem r_C_add_62 : Wp L d k_C_add 62 [vR b0, l1, l2] [vR c0] σ Q ↔ Wp L d k_C_add 63 [vR b0, l1, l2] [vR b0, vR c0] σ Q := wp_aload rfl rfl
set_option maxRecDepth 4000 in
theorem r_C_add_63 (h : gK c1 = 10) : Wp L d k_C_add 63 [l0, l1, l2] [vR c1, vR c0] σ Q ↔ Wp L d k_C_add 66 [l0, l1, l2] [vI (σ c1 6), vR c0] σ Q := wp_getI (c := 2566) rfl rfl rfl rfl h
set_option maxRecDepth 4000 in
theorem r_C_add_66 : Wp L d k_C_add 66 [l0, vR b1, l2] [vI s1, vR c0] σ Q ↔ Wp L d k_C_add 67 [l0, vR b1, l2] [vR b1, vI s1, vR c0] σ Q := wp_aload rfl rfl
set_option maxRecDepth 4000 in
theorem r_C_add_67 (h : gK c2 = 8) : Wp L d k_C_add 67 [l0, l1, l2] [vR c2, vI s1, vR c0] σ Q ↔ Wp L d k_C_add 70 [l0, l1, l2] [vI (σ c2 7), vI s1, vR c0] σ Q := wp_getI (c := 2055) rfl rfl rfl rfl h
set_option maxRecDepth 4000 in
theorem r_C_add_70 (h : gK c0 = 100) (hx : 0 ≤ s1 ∧ s1 < gN c0) : Wp L d k_C_add 70 [l0, l1, l2] [vI s2, vI s1, vR c0] σ Q ↔ Wp L d k_C_add 71 [l0, l1, l2] [] (gupd σ c0 s1.toNat s2) Q := wp_iast rfl h hx
set_option maxRecDepth 4000 in
theorem r_C_add_71 : Wp L d k_C_add 71 [vR b0, l1, l2] [] σ Q ↔ Wp L d k_C_add 72 [vR b0, l1, l2] [vR b0] σ Q := wp_aload rfl rfl
set_option maxRecDepth 4000 in
theorem r_C_add_72 : Wp L d k_C_add 72 [l0, l1, l2] [vR c0] σ Q ↔ Wp L d k_C_add 73 [l0, l1, l2] [vR c0, vR c0] σ Q := wp_dupR rfl
set_option maxRecDepth 4000 in
theorem r_C_add_73 (h : gK c1 = 10) : Wp L d k_C_add 73 [l0, l1, l2] [vR c1, vR c0] σ Q ↔ Wp L d k_C_add 76 [l0, l1, l2] [vI (σ c1 6), vR c0] σ Q := wp_getI (c := 2566) rfl rfl rfl rfl h
set_option maxRecDepth 4000 in
theorem r_C_add_76 : Wp L d k_C_add 76 [l0, l1, l2] [vI s1, vR c0] σ Q ↔ Wp L d k_C_add 77 [l0, l1, l2] [vI s1, vR c0, vI s1] σ Q := wp_dup_x1 rfl
set_option maxRecDepth 4000 in
theorem r_C_add_77 : Wp L d k_C_add 77 [l0, l1, l2] [vI s2, vR c1, vI s0] σ Q ↔ Wp L d k_C_add 78 [l0, l1, l2] [vI 1, vI s2, vR c1, vI s0] σ Q := wp_push rfl
set_option maxRecDepth 4000 in
theorem r_C_add_78 : Wp L d k_C_add 78 [l0, l1, l2] [vI s3, vI s2, vR c1, vI s0] σ Q ↔ Wp L d k_C_add 79 [l0, l1, l2] [vI (w32 (s2 + s3)), vR c1, vI s0] σ Q := wp_iadd rfl
set_option maxRecDepth 4000 in
theorem r_C_add_79 (h : gK c1 = 10) : Wp L d k_C_add 79 [l0, l1, l2] [vI s2, vR c1, vI s0] σ Q ↔ Wp L d k_C_add 82 [l0, l1, l2] [vI s0] (gupd σ c1 6 s2) Q := wp_putI (c := 2566) rfl rfl rfl rfl h
set_option maxRecDepth 4000 in
theorem r_C_add_82 : Wp L d k_C_add 82 [l0, l1, l2] [vI s0] σ Q ↔ Q (some (vI s0)) σ := wp_iret rfl
set_option maxRecDepth 4000 in
theorem r_M_text_0 : Wp L d k_M_text 0 [l0, vI a1, l2, l3, l4] [] σ Q ↔ Wp L d k_M_text 1 [l0, vI a1, l2, l3, l4] [vI a1] σ Q := wp_iload rfl rfl
set_option maxRecDepth 4000 in
theorem r_M_text_1 : Wp L d k_M_text 1 [l0, l1, l2, l3, l4] [vI s0] σ Q ↔ Wp L d k_M_text 2 [l0, l1, l2, l3, l4] [vL s0] σ Q := wp_i2l rfl
set_option maxRecDepth 4000 in
theorem r_M_text_2 : Wp L d k_M_text 2 [l0, l1, l2, l3, l4] [vL s0] σ Q ↔ Wp L d k_M_text 3 [l0, l1, l2, l3, l4] [vL 0, vL s0] σ Q := wp_pushL rfl
set_option maxRecDepth 4000 in
theorem r_M_text_3 : Wp L d k_M_text 3 [l0, l1, l2, l3, l4] [vL s1, vL s0] σ Q ↔ Wp L d k_M_text 6 [l0, l1, l2, l3, l4] [vL 599, vL s1, vL s0] σ Q := wp_pushL rfl
set_option maxRecDepth 4000 in
theorem r_M_text_9 : Wp L d k_M_text 9 [l0, vI a1, l2, l3, l4] [vI s0] σ Q ↔ Wp L d k_M_text 10 [l0, vI a1, vI s0, l3, l4] [] σ Q := wp_istore (i := 2) (ls := [l0, vI a1, l2, l3, l4]) rfl rfl
set_option maxRecDepth 4000 in
theorem r_M_text_10 : Wp L d k_M_text 10 [vR b0, l1, l2, l3, l4] [] σ Q ↔ Wp L d k_M_text 11 [vR b0, l1, l2, l3, l4] [vR b0] σ Q := wp_aload rfl rfl
set_option maxRecDepth 4000 in
theorem c_M_text_11 (hR : Run L d 239 [vR c0] σ r σ1) (h : gK c0 = 12) : Wp L (d + 1) k_M_text 11 [l0, l1, l2, l3, l4] [vR c0] σ Q ↔ Wp L (d + 1) k_M_text 14 [l0, l1, l2, l3, l4] (r.toList ++ []) σ1 Q := wp_callR (as := [vR c0]) (rest := []) rfl rfl rfl rfl rfl rfl rfl (grecv_k (by rw [h]) rfl) hR
set_option maxRecDepth 4000 in
theorem r_M_text_14 : Wp L d k_M_text 14 [l0, l1, vI a2, l3, l4] [vI s0] σ Q ↔ Wp L d k_M_text 15 [l0, l1, vI a2, vI s0, l4] [] σ Q := wp_istore (i := 3) (ls := [l0, l1, vI a2, l3, l4]) rfl rfl
set_option maxRecDepth 4000 in
theorem r_M_text_15 : Wp L d k_M_text 15 [l0, l1, vI a2, l3, l4] [] σ Q ↔ Wp L d k_M_text 16 [l0, l1, vI a2, l3, l4] [vI a2] σ Q := wp_iload rfl rfl
set_option maxRecDepth 4000 in
theorem r_M_text_16 : Wp L d k_M_text 16 [l0, l1, l2, l3, l4] [vI s0] σ Q ↔ (if s0 ≠ 0 then Wp L d k_M_text 22 [l0, l1, l2, l3, l4] [] σ Q else Wp L d k_M_text 19 [l0, l1, l2, l3, l4] [] σ Q) := wp_if_ne rfl
set_option maxRecDepth 4000 in
theorem r_M_text_19 : Wp L d k_M_text 19 [l0, l1, l2, l3, l4] [] σ Q ↔ Wp L d k_M_text 21 [l0, l1, l2, l3, l4] [vI (-1000000001)] σ Q := wp_push rfl
set_option maxRecDepth 4000 in
theorem r_M_text_21 : Wp L d k_M_text 21 [l0, l1, l2, l3, l4] [vI s0] σ Q ↔ Q (some (vI s0)) σ := wp_iret rfl
set_option maxRecDepth 4000 in
theorem r_M_text_22 : Wp L d k_M_text 22 [l0, l1, l2, vI a3, l4] [] σ Q ↔ Wp L d k_M_text 23 [l0, l1, l2, vI a3, l4] [vI a3] σ Q := wp_iload rfl rfl
set_option maxRecDepth 4000 in
theorem r_M_text_23 : Wp L d k_M_text 23 [l0, l1, l2, l3, l4] [vI s0] σ Q ↔ (if 0 ≤ s0 then Wp L d k_M_text 34 [l0, l1, l2, l3, l4] [] σ Q else Wp L d k_M_text 26 [l0, l1, l2, l3, l4] [] σ Q) := wp_if_ge rfl
set_option maxRecDepth 4000 in
theorem r_M_text_26 : Wp L d k_M_text 26 [l0, l1, l2, l3, l4] [] σ Q ↔ Wp L d k_M_text 28 [l0, l1, l2, l3, l4] [vI (-100)] σ Q := wp_push rfl
set_option maxRecDepth 4000 in
theorem r_M_text_28 : Wp L d k_M_text 28 [vR b0, l1, l2, l3, l4] [vI s0] σ Q ↔ Wp L d k_M_text 29 [vR b0, l1, l2, l3, l4] [vR b0, vI s0] σ Q := wp_aload rfl rfl
set_option maxRecDepth 4000 in
theorem r_M_text_29 (h : gK c1 = 12) : Wp L d k_M_text 29 [l0, l1, l2, l3, l4] [vR c1, vI s0] σ Q ↔ Wp L d k_M_text 32 [l0, l1, l2, l3, l4] [vI (σ c1 10), vI s0] σ Q := wp_getI (c := 3082) rfl rfl rfl rfl h
set_option maxRecDepth 4000 in
theorem r_M_text_32 : Wp L d k_M_text 32 [l0, l1, l2, l3, l4] [vI s1, vI s0] σ Q ↔ Wp L d k_M_text 33 [l0, l1, l2, l3, l4] [vI (w32 (s0 - s1))] σ Q := wp_isub rfl
set_option maxRecDepth 4000 in
theorem r_M_text_33 : Wp L d k_M_text 33 [l0, l1, l2, l3, l4] [vI s0] σ Q ↔ Q (some (vI s0)) σ := wp_iret rfl
set_option maxRecDepth 4000 in
theorem r_M_text_34 : Wp L d k_M_text 34 [vR b0, l1, l2, l3, l4] [] σ Q ↔ Wp L d k_M_text 35 [vR b0, l1, l2, l3, l4] [vR b0] σ Q := wp_aload rfl rfl
set_option maxRecDepth 4000 in
theorem r_M_text_35 (h : gK c0 = 12) : Wp L d k_M_text 35 [l0, l1, l2, l3, l4] [vR c0] σ Q ↔ Wp L d k_M_text 38 [l0, l1, l2, l3, l4] [vR (gq c0 0)] σ Q := wp_getR (c := 3200) rfl rfl rfl rfl rfl h
set_option maxRecDepth 4000 in
theorem r_M_text_38 : Wp L d k_M_text 38 [l0, l1, l2, l3, l4] [vR c0] σ Q ↔ Wp L d k_M_text 39 [l0, l1, l2, l3, l4] [vI 2, vR c0] σ Q := wp_push rfl
set_option maxRecDepth 4000 in
theorem r_M_text_39 (h : gK c0 = 100) (hx : 0 ≤ s1 ∧ s1 < gN c0) : Wp L d k_M_text 39 [l0, l1, l2, l3, l4] [vI s1, vR c0] σ Q ↔ Wp L d k_M_text 40 [l0, l1, l2, l3, l4] [vI (σ c0 s1.toNat)] σ Q := wp_iald rfl h hx
set_option maxRecDepth 4000 in
theorem r_M_text_40 : Wp L d k_M_text 40 [l0, l1, l2, l3, l4] [vI s0] σ Q ↔ Wp L d k_M_text 42 [l0, l1, l2, l3, l4] [vI 12, vI s0] σ Q := wp_push rfl
set_option maxRecDepth 4000 in
theorem r_M_text_42 : Wp L d k_M_text 42 [l0, l1, l2, l3, l4] [vI s1, vI s0] σ Q ↔ (if s0 ≠ s1 then Wp L d k_M_text 48 [l0, l1, l2, l3, l4] [] σ Q else Wp L d k_M_text 45 [l0, l1, l2, l3, l4] [] σ Q) := wp_cmp_ne rfl
set_option maxRecDepth 4000 in
theorem r_M_text_45 : Wp L d k_M_text 45 [l0, l1, l2, l3, l4] [] σ Q ↔ Wp L d k_M_text 47 [l0, l1, l2, l3, l4] [vI (-1000000003)] σ Q := wp_push rfl
set_option maxRecDepth 4000 in
theorem r_M_text_47 : Wp L d k_M_text 47 [l0, l1, l2, l3, l4] [vI s0] σ Q ↔ Q (some (vI s0)) σ := wp_iret rfl
set_option maxRecDepth 4000 in
theorem r_M_text_48 : Wp L d k_M_text 48 [vR b0, l1, l2, l3, l4] [] σ Q ↔ Wp L d k_M_text 49 [vR b0, l1, l2, l3, l4] [vR b0] σ Q := wp_aload rfl rfl
set_option maxRecDepth 4000 in
theorem r_M_text_49 : Wp L d k_M_text 49 [vR b0, l1, l2, l3, l4] [vR c0] σ Q ↔ Wp L d k_M_text 50 [vR b0, l1, l2, l3, l4] [vR b0, vR c0] σ Q := wp_aload rfl rfl
set_option maxRecDepth 4000 in
theorem r_M_text_50 (h : gK c1 = 12) : Wp L d k_M_text 50 [l0, l1, l2, l3, l4] [vR c1, vR c0] σ Q ↔ Wp L d k_M_text 53 [l0, l1, l2, l3, l4] [vR (gq c1 0), vR c0] σ Q := wp_getR (c := 3200) rfl rfl rfl rfl rfl h
set_option maxRecDepth 4000 in
theorem r_M_text_53 : Wp L d k_M_text 53 [l0, l1, l2, l3, l4] [vR c1, vR c0] σ Q ↔ Wp L d k_M_text 54 [l0, l1, l2, l3, l4] [vI 2, vR c1, vR c0] σ Q := wp_push rfl
set_option maxRecDepth 4000 in
theorem r_M_text_54 (h : gK c1 = 100) (hx : 0 ≤ s2 ∧ s2 < gN c1) : Wp L d k_M_text 54 [l0, l1, l2, l3, l4] [vI s2, vR c1, vR c0] σ Q ↔ Wp L d k_M_text 55 [l0, l1, l2, l3, l4] [vI (σ c1 s2.toNat), vR c0] σ Q := wp_iald rfl h hx
set_option maxRecDepth 4000 in
theorem r_M_text_58 : Wp L d k_M_text 58 [l0, l1, l2, vI a3, l4] [vI s0] σ Q ↔ Wp L d k_M_text 60 [l0, l1, l2, vI a3, vI s0] [] σ Q := wp_istore (i := 4) (ls := [l0, l1, l2, vI a3, l4]) rfl rfl
set_option maxRecDepth 4000 in
theorem r_M_text_60 : Wp L d k_M_text 60 [vR b0, l1, l2, l3, l4] [] σ Q ↔ Wp L d k_M_text 61 [vR b0, l1, l2, l3, l4] [vR b0] σ Q := wp_aload rfl rfl
set_option maxRecDepth 4000 in
theorem r_M_text_61 (h : gK c0 = 12) : Wp L d k_M_text 61 [l0, l1, l2, l3, l4] [vR c0] σ Q ↔ Wp L d k_M_text 64 [l0, l1, l2, l3, l4] [vR (gq c0 0)] σ Q := wp_getR (c := 3200) rfl rfl rfl rfl rfl h
set_option maxRecDepth 4000 in
theorem r_M_text_64 : Wp L d k_M_text 64 [l0, l1, l2, l3, vI a4] [vR c0] σ Q ↔ Wp L d k_M_text 66 [l0, l1, l2, l3, vI a4] [vI a4, vR c0] σ Q := wp_iload rfl rfl
set_option maxRecDepth 4000 in
theorem r_M_text_66 : Wp L d k_M_text 66 [l0, l1, l2, l3, l4] [vI s1, vR c0] σ Q ↔ Wp L d k_M_text 67 [l0, l1, l2, l3, l4] [vI 0, vI s1, vR c0] σ Q := wp_push rfl
set_option maxRecDepth 4000 in
theorem r_M_text_67 : Wp L d k_M_text 67 [l0, l1, l2, l3, l4] [vI s2, vI s1, vR c0] σ Q ↔ Wp L d k_M_text 68 [l0, l1, l2, l3, l4] [vI (w32 (s1 + s2)), vR c0] σ Q := wp_iadd rfl
set_option maxRecDepth 4000 in
theorem r_M_text_68 : Wp L d k_M_text 68 [l0, l1, l2, vI a3, l4] [vI s1, vR c0] σ Q ↔ Wp L d k_M_text 69 [l0, l1, l2, vI a3, l4] [vI a3, vI s1, vR c0] σ Q := wp_iload rfl rfl
set_option maxRecDepth 4000 in
theorem r_M_text_69 (h : gK c0 = 100) (hx : 0 ≤ s1 ∧ s1 < gN c0) : Wp L d k_M_text 69 [l0, l1, l2, l3, l4] [vI s2, vI s1, vR c0] σ Q ↔ Wp L d k_M_text 70 [l0, l1, l2, l3, l4] [] (gupd σ c0 s1.toNat s2) Q := wp_iast rfl h hx
set_option maxRecDepth 4000 in
theorem r_M_text_70 : Wp L d k_M_text 70 [vR b0, l1, l2, l3, l4] [] σ Q ↔ Wp L d k_M_text 71 [vR b0, l1, l2, l3, l4] [vR b0] σ Q := wp_aload rfl rfl
set_option maxRecDepth 4000 in
theorem r_M_text_71 (h : gK c0 = 12) : Wp L d k_M_text 71 [l0, l1, l2, l3, l4] [vR c0] σ Q ↔ Wp L d k_M_text 74 [l0, l1, l2, l3, l4] [vR (gq c0 0)] σ Q := wp_getR (c := 3200) rfl rfl rfl rfl rfl h
set_option maxRecDepth 4000 in
theorem r_M_text_74 : Wp L d k_M_text 74 [l0, l1, l2, l3, vI a4] [vR c0] σ Q ↔ Wp L d k_M_text 76 [l0, l1, l2, l3, vI a4] [vI a4, vR c0] σ Q := wp_iload rfl rfl
set_option maxRecDepth 4000 in
theorem r_M_text_76 : Wp L d k_M_text 76 [l0, l1, l2, l3, l4] [vI s1, vR c0] σ Q ↔ Wp L d k_M_text 77 [l0, l1, l2, l3, l4] [vI 1, vI s1, vR c0] σ Q := wp_push rfl
set_option maxRecDepth 4000 in
theorem r_M_text_77 : Wp L d k_M_text 77 [l0, l1, l2, l3, l4] [vI s2, vI s1, vR c0] σ Q ↔ Wp L d k_M_text 78 [l0, l1, l2, l3, l4] [vI (w32 (s1 + s2)), vR c0] σ Q := wp_iadd rfl
set_option maxRecDepth 4000 in
theorem r_M_text_78 : Wp L d k_M_text 78 [l0, vI a1, l2, l3, l4] [vI s1, vR c0] σ Q ↔ Wp L d k_M_text 79 [l0, vI a1, l2, l3, l4] [vI a1, vI s1, vR c0] σ Q := wp_iload rfl rfl
set_option maxRecDepth 4000 in
theorem r_M_text_79 (h : gK c0 = 100) (hx : 0 ≤ s1 ∧ s1 < gN c0) : Wp L d k_M_text 79 [l0, l1, l2, l3, l4] [vI s2, vI s1, vR c0] σ Q ↔ Wp L d k_M_text 80 [l0, l1, l2, l3, l4] [] (gupd σ c0 s1.toNat s2) Q := wp_iast rfl h hx
set_option maxRecDepth 4000 in
theorem r_M_text_80 : Wp L d k_M_text 80 [vR b0, l1, l2, l3, l4] [] σ Q ↔ Wp L d k_M_text 81 [vR b0, l1, l2, l3, l4] [vR b0] σ Q := wp_aload rfl rfl
set_option maxRecDepth 4000 in
theorem r_M_text_81 (h : gK c0 = 12) : Wp L d k_M_text 81 [l0, l1, l2, l3, l4] [vR c0] σ Q ↔ Wp L d k_M_text 84 [l0, l1, l2, l3, l4] [vR (gq c0 0)] σ Q := wp_getR (c := 3200) rfl rfl rfl rfl rfl h
set_option maxRecDepth 4000 in
theorem r_M_text_84 : Wp L d k_M_text 84 [l0, l1, l2, l3, vI a4] [vR c0] σ Q ↔ Wp L d k_M_text 86 [l0, l1, l2, l3, vI a4] [vI a4, vR c0] σ Q := wp_iload rfl rfl
set_option maxRecDepth 4000 in
theorem r_M_text_86 : Wp L d k_M_text 86 [l0, l1, l2, l3, l4] [vI s1, vR c0] σ Q ↔ Wp L d k_M_text 87 [l0, l1, l2, l3, l4] [vI 2, vI s1, vR c0] σ Q := wp_push rfl
set_option maxRecDepth 4000 in
theorem r_M_text_87 : Wp L d k_M_text 87 [l0, l1, l2, l3, l4] [vI s2, vI s1, vR c0] σ Q ↔ Wp L d k_M_text 88 [l0, l1, l2, l3, l4] [vI (w32 (s1 + s2)), vR c0] σ Q := wp_iadd rfl
set_option maxRecDepth 4000 in
theorem r_M_text_88 : Wp L d k_M_text 88 [vR b0, l1, l2, l3, l4] [vI s1, vR c0] σ Q ↔ Wp L d k_M_text 89 [vR b0, l1, l2, l3, l4] [vR b0, vI s1, vR c0] σ Q := wp_aload rfl rfl
set_option maxRecDepth 4000 in
theorem r_M_text_89 (h : gK c2 = 12) : Wp L d k_M_text 89 [l0, l1, l2, l3, l4] [vR c2, vI s1, vR c0] σ Q ↔ Wp L d k_M_text 92 [l0, l1, l2, l3, l4] [vI (σ c2 19), vI s1, vR c0] σ Q := wp_getI (c := 3091) rfl rfl rfl rfl h
set_option maxRecDepth 4000 in
theorem r_M_text_92 (h : gK c0 = 100) (hx : 0 ≤ s1 ∧ s1 < gN c0) : Wp L d k_M_text 92 [l0, l1, l2, l3, l4] [vI s2, vI s1, vR c0] σ Q ↔ Wp L d k_M_text 93 [l0, l1, l2, l3, l4] [] (gupd σ c0 s1.toNat s2) Q := wp_iast rfl h hx
set_option maxRecDepth 4000 in
theorem r_M_text_93 : Wp L d k_M_text 93 [vR b0, l1, l2, l3, l4] [] σ Q ↔ Wp L d k_M_text 94 [vR b0, l1, l2, l3, l4] [vR b0] σ Q := wp_aload rfl rfl
set_option maxRecDepth 4000 in
theorem r_M_text_94 (h : gK c0 = 12) : Wp L d k_M_text 94 [l0, l1, l2, l3, l4] [vR c0] σ Q ↔ Wp L d k_M_text 97 [l0, l1, l2, l3, l4] [vR (gq c0 0)] σ Q := wp_getR (c := 3200) rfl rfl rfl rfl rfl h
set_option maxRecDepth 4000 in
theorem r_M_text_97 : Wp L d k_M_text 97 [l0, l1, l2, l3, vI a4] [vR c0] σ Q ↔ Wp L d k_M_text 99 [l0, l1, l2, l3, vI a4] [vI a4, vR c0] σ Q := wp_iload rfl rfl
set_option maxRecDepth 4000 in
theorem r_M_text_99 : Wp L d k_M_text 99 [l0, l1, l2, l3, l4] [vI s1, vR c0] σ Q ↔ Wp L d k_M_text 100 [l0, l1, l2, l3, l4] [vI 3, vI s1, vR c0] σ Q := wp_push rfl
set_option maxRecDepth 4000 in
theorem r_M_text_100 : Wp L d k_M_text 100 [l0, l1, l2, l3, l4] [vI s2, vI s1, vR c0] σ Q ↔ Wp L d k_M_text 101 [l0, l1, l2, l3, l4] [vI (w32 (s1 + s2)), vR c0] σ Q := wp_iadd rfl
set_option maxRecDepth 4000 in
theorem r_M_text_101 : Wp L d k_M_text 101 [vR b0, l1, l2, l3, l4] [vI s1, vR c0] σ Q ↔ Wp L d k_M_text 102 [vR b0, l1, l2, l3, l4] [vR b0, vI s1, vR c0] σ Q := wp_aload rfl rfl
set_option maxRecDepth 4000 in
theorem r_M_text_102 (h : gK c2 = 12) : Wp L d k_M_text 102 [l0, l1, l2, l3, l4] [vR c2, vI s1, vR c0] σ Q ↔ Wp L d k_M_text 105 [l0, l1, l2, l3, l4] [vI (σ c2 17), vI s1, vR c0] σ Q := wp_getI (c := 3089) rfl rfl rfl rfl h
set_option maxRecDepth 4000 in
theorem r_M_text_105 (h : gK c0 = 100) (hx : 0 ≤ s1 ∧ s1 < gN c0) : Wp L d k_M_text 105 [l0, l1, l2, l3, l4] [vI s2, vI s1, vR c0] σ Q ↔ Wp L d k_M_text 106 [l0, l1, l2, l3, l4] [] (gupd σ c0 s1.toNat s2) Q := wp_iast rfl h hx
set_option maxRecDepth 4000 in
theorem r_M_text_106 : Wp L d k_M_text 106 [vR b0, l1, l2, l3, l4] [] σ Q ↔ Wp L d k_M_text 107 [vR b0, l1, l2, l3, l4] [vR b0] σ Q := wp_aload rfl rfl
set_option maxRecDepth 4000 in
theorem r_M_text_107 (h : gK c0 = 12) : Wp L d k_M_text 107 [l0, l1, l2, l3, l4] [vR c0] σ Q ↔ Wp L d k_M_text 110 [l0, l1, l2, l3, l4] [vR (gq c0 0)] σ Q := wp_getR (c := 3200) rfl rfl rfl rfl rfl h
set_option maxRecDepth 4000 in
theorem r_M_text_110 : Wp L d k_M_text 110 [l0, l1, l2, l3, l4] [vR c0] σ Q ↔ Wp L d k_M_text 111 [l0, l1, l2, l3, l4] [vI 2, vR c0] σ Q := wp_push rfl
set_option maxRecDepth 4000 in
theorem r_M_text_111 : Wp L d k_M_text 111 [l0, l1, l2, l3, l4] [vI s1, vR c0] σ Q ↔ Wp L d k_M_text 112 [l0, l1, l2, l3, l4] [vI s1, vR c0, vI s1, vR c0] σ Q := wp_dup2 rfl
set_option maxRecDepth 4000 in
theorem r_M_text_112 (h : gK c2 = 100) (hx : 0 ≤ s3 ∧ s3 < gN c2) : Wp L d k_M_text 112 [l0, l1, l2, l3, l4] [vI s3, vR c2, vI s1, vR c0] σ Q ↔ Wp L d k_M_text 113 [l0, l1, l2, l3, l4] [vI (σ c2 s3.toNat), vI s1, vR c0] σ Q := wp_iald rfl h hx
set_option maxRecDepth 4000 in
theorem r_M_text_113 : Wp L d k_M_text 113 [l0, l1, l2, l3, l4] [vI s2, vI s1, vR c0] σ Q ↔ Wp L d k_M_text 114 [l0, l1, l2, l3, l4] [vI 1, vI s2, vI s1, vR c0] σ Q := wp_push rfl
set_option maxRecDepth 4000 in
theorem r_M_text_114 : Wp L d k_M_text 114 [l0, l1, l2, l3, l4] [vI s3, vI s2, vI s1, vR c0] σ Q ↔ Wp L d k_M_text 115 [l0, l1, l2, l3, l4] [vI (w32 (s2 + s3)), vI s1, vR c0] σ Q := wp_iadd rfl
set_option maxRecDepth 4000 in
theorem r_M_text_115 (h : gK c0 = 100) (hx : 0 ≤ s1 ∧ s1 < gN c0) : Wp L d k_M_text 115 [l0, l1, l2, l3, l4] [vI s2, vI s1, vR c0] σ Q ↔ Wp L d k_M_text 116 [l0, l1, l2, l3, l4] [] (gupd σ c0 s1.toNat s2) Q := wp_iast rfl h hx
set_option maxRecDepth 4000 in
theorem r_M_text_116 : Wp L d k_M_text 116 [vR b0, l1, l2, l3, l4] [] σ Q ↔ Wp L d k_M_text 117 [vR b0, l1, l2, l3, l4] [vR b0] σ Q := wp_aload rfl rfl
set_option maxRecDepth 4000 in
theorem r_M_text_117 (h : gK c0 = 12) : Wp L d k_M_text 117 [l0, l1, l2, l3, l4] [vR c0] σ Q ↔ Wp L d k_M_text 120 [l0, l1, l2, l3, l4] [vR (gq c0 0)] σ Q := wp_getR (c := 3200) rfl rfl rfl rfl rfl h
set_option maxRecDepth 4000 in
theorem r_M_text_120 : Wp L d k_M_text 120 [l0, l1, l2, l3, l4] [vR c0] σ Q ↔ Wp L d k_M_text 121 [l0, l1, l2, l3, l4] [vI 2, vR c0] σ Q := wp_push rfl
set_option maxRecDepth 4000 in
theorem r_M_text_121 (h : gK c0 = 100) (hx : 0 ≤ s1 ∧ s1 < gN c0) : Wp L d k_M_text 121 [l0, l1, l2, l3, l4] [vI s1, vR c0] σ Q ↔ Wp L d k_M_text 122 [l0, l1, l2, l3, l4] [vI (σ c0 s1.toNat)] σ Q := wp_iald rfl h hx
set_option maxRecDepth 4000 in
theorem r_M_text_122 : Wp L d k_M_text 122 [l0, l1, l2, l3, l4] [vI s0] σ Q ↔ Wp L d k_M_text 123 [l0, l1, l2, l3, l4] [vI 1, vI s0] σ Q := wp_push rfl
set_option maxRecDepth 4000 in
theorem r_M_text_123 : Wp L d k_M_text 123 [l0, l1, l2, l3, l4] [vI s1, vI s0] σ Q ↔ Wp L d k_M_text 124 [l0, l1, l2, l3, l4] [vI (w32 (s0 - s1))] σ Q := wp_isub rfl
set_option maxRecDepth 4000 in
theorem r_M_text_124 : Wp L d k_M_text 124 [l0, l1, l2, l3, l4] [vI s0] σ Q ↔ Q (some (vI s0)) σ := wp_iret rfl
set_option maxRecDepth 4000 in
theorem r_M_text_6 : Wp L (d + 10) k_M_text 6 [l0, l1, l2, l3, l4] [vL s2, vL s1, vL s0] σ Q ↔ Wp L (d + 10) k_M_text 9 [l0, l1, l2, l3, l4] [vI (gb (s1 ≤ s0 ∧ s0 ≤ s2))] σ Q := wp_callR (d := d + 9) (as := [vL s0, vL s1, vL s2]) (rest := []) rfl rfl rfl rfl rfl rfl rfl rfl (sp_M_isIn)
set_option maxRecDepth 4000 in
theorem r_M_text_55 : Wp L (d + 10) k_M_text 55 [l0, l1, l2, l3, l4] [vI s1, vR 293] σ Q ↔ Wp L (d + 10) k_M_text 58 [l0, l1, l2, l3, l4] [vI (w32 (930 + w32 (200 * s1)))] σ Q := wp_callR (d := d + 9) (as := [vR 293, vI s1]) (rest := []) rfl rfl rfl rfl rfl rfl rfl (grecv_k (by rw [gK_293]) rfl) (sp_M_textAt)
set_option maxRecDepth 4000 in
theorem xt_bad (h : ¬(0 ≤ a1 ∧ a1 ≤ 599)) : Run L (d + 1000) 39 [vR 27, vI a1] σ (some (vI (-1000000001))) (gupd σ 279 1 0) := by
  refine Run_of (C' := k_X_text) rfl ?_
  show Wp L (d + 1000) k_X_text 0 [vR 27, vI a1, vU] [] σ _
  obtain ⟨K27, K28, K29, K78, K97, K99, K109, K123, K125, K279, K282⟩ := litX
  simp (disch := first | assumption | exact gb_01 _ | omega) only [r_X_text_0, r_X_text_1, r_X_text_4, r_X_text_7, r_X_text_8, r_X_text_11, r_X_text_12, r_X_text_15, r_X_text_17, r_X_text_18, r_X_text_19, r_X_text_25, r_X_text_26, r_X_text_27, r_X_text_30, r_X_text_31, r_X_text_34, r_X_text_35, r_X_text_37, r_X_text_40, r_X_text_42, r_X_text_43, r_X_text_44, r_X_text_45, r_X_text_46, r_X_text_49, r_X_text_52, r_X_text_55, r_X_text_57, r_X_text_60, r_X_text_61, r_X_text_64, r_X_text_67, r_X_text_68, r_X_text_71, r_X_text_75, r_X_text_78, r_X_text_80, Option.toList, List.singleton_append, List.cons_append, List.nil_append, List.append_nil, gq_27_0, gq_27_1, gq_27_2, gq_27_3, gq_27_4, gq_27_5, gq_27_6, gq_28_0, gq_28_1, gq_28_2, gq_28_3, gq_28_4, gq_28_5, gq_28_6, gupd_ne, gupd_eq, w32_gb, w32i, tn_add, tn_mul, Int.toNat_natCast, Int.toNat_zero, Int.reduceLE, Int.reduceLT, Int.reduceEq, Int.reduceNe, gb_T, gb_F, Int.reduceToNat, eq_self, true_or, or_true, and_true, true_and, and_self, ↓ite_gb0, ↓ite_gbn, ↓if_pos, ↓if_neg, if_true, if_false, not_true_eq_false, not_false_eq_true, gb_ne0, gb_eq0]
set_option maxRecDepth 4000 in
theorem xt_f (h : 0 ≤ a1 ∧ a1 ≤ 599) {σ2 : gMm} {s : Int} (hs : 0 ≤ s) (hP : Run L (d + 999) 156 [vR 279] σ (some (vI s)) σ2) : Run L (d + 1000) 39 [vR 27, vI a1] σ (some (vI (w32 (-100 - s)))) (gupd σ2 279 1 0) := by
  refine Run_of (C' := k_X_text) rfl ?_
  show Wp L (d + 1000) k_X_text 0 [vR 27, vI a1, vU] [] σ _
  obtain ⟨K27, K28, K29, K78, K97, K99, K109, K123, K125, K279, K282⟩ := litX
  simp (disch := first | assumption | exact gb_01 _ | omega) only [r_X_text_0, r_X_text_1, r_X_text_4, r_X_text_7, r_X_text_8, r_X_text_11, r_X_text_12, r_X_text_15, r_X_text_17, r_X_text_18, r_X_text_19, r_X_text_25, r_X_text_26, r_X_text_27, r_X_text_30, r_X_text_31, r_X_text_34, r_X_text_35, r_X_text_37, r_X_text_40, r_X_text_42, r_X_text_43, r_X_text_44, r_X_text_45, r_X_text_46, r_X_text_49, r_X_text_52, r_X_text_55, r_X_text_57, r_X_text_60, r_X_text_61, r_X_text_64, r_X_text_67, r_X_text_68, r_X_text_71, r_X_text_75, r_X_text_78, r_X_text_80, c_X_text_22 hP, Option.toList, List.singleton_append, List.cons_append, List.nil_append, List.append_nil, gq_27_0, gq_27_1, gq_27_2, gq_27_3, gq_27_4, gq_27_5, gq_27_6, gq_28_0, gq_28_1, gq_28_2, gq_28_3, gq_28_4, gq_28_5, gq_28_6, gupd_ne, gupd_eq, w32_gb, w32i, tn_add, tn_mul, Int.toNat_natCast, Int.toNat_zero, Int.reduceLE, Int.reduceLT, Int.reduceEq, Int.reduceNe, gb_T, gb_F, Int.reduceToNat, eq_self, true_or, or_true, and_true, true_and, and_self, ↓ite_gb0, ↓ite_gbn, ↓if_pos, ↓if_neg, if_true, if_false, not_true_eq_false, not_false_eq_true, gb_ne0, gb_eq0]
set_option maxRecDepth 4000 in
theorem xt_full (h : 0 ≤ a1 ∧ a1 ≤ 599) {σ2 : gMm} (hP : Run L (d + 999) 156 [vR 279] σ (some (vI (-1000000005))) σ2) (h12 : 12 ≤ σ2 78 6) : Run L (d + 1000) 39 [vR 27, vI a1] σ (some (vI (-1000000003))) (gupd σ2 279 1 0) := by
  refine Run_of (C' := k_X_text) rfl ?_
  show Wp L (d + 1000) k_X_text 0 [vR 27, vI a1, vU] [] σ _
  obtain ⟨K27, K28, K29, K78, K97, K99, K109, K123, K125, K279, K282⟩ := litX
  simp (disch := first | assumption | exact gb_01 _ | omega) only [r_X_text_0, r_X_text_1, r_X_text_4, r_X_text_7, r_X_text_8, r_X_text_11, r_X_text_12, r_X_text_15, r_X_text_17, r_X_text_18, r_X_text_19, r_X_text_25, r_X_text_26, r_X_text_27, r_X_text_30, r_X_text_31, r_X_text_34, r_X_text_35, r_X_text_37, r_X_text_40, r_X_text_42, r_X_text_43, r_X_text_44, r_X_text_45, r_X_text_46, r_X_text_49, r_X_text_52, r_X_text_55, r_X_text_57, r_X_text_60, r_X_text_61, r_X_text_64, r_X_text_67, r_X_text_68, r_X_text_71, r_X_text_75, r_X_text_78, r_X_text_80, c_X_text_22 hP, Option.toList, List.singleton_append, List.cons_append, List.nil_append, List.append_nil, gq_27_0, gq_27_1, gq_27_2, gq_27_3, gq_27_4, gq_27_5, gq_27_6, gq_28_0, gq_28_1, gq_28_2, gq_28_3, gq_28_4, gq_28_5, gq_28_6, gupd_ne, gupd_eq, w32_gb, w32i, tn_add, tn_mul, Int.toNat_natCast, Int.toNat_zero, Int.reduceLE, Int.reduceLT, Int.reduceEq, Int.reduceNe, gb_T, gb_F, Int.reduceToNat, eq_self, true_or, or_true, and_true, true_and, and_self, ↓ite_gb0, ↓ite_gbn, ↓if_pos, ↓if_neg, if_true, if_false, not_true_eq_false, not_false_eq_true, gb_ne0, gb_eq0]
set_option maxRecDepth 4000 in
theorem xt_add (h : 0 ≤ a1 ∧ a1 ≤ 599) {σ2 : gMm} (hP : Run L (d + 999) 156 [vR 279] σ (some (vI (-1000000005))) σ2) {σ3 : gMm} {c : Int} (h12 : σ2 78 6 < 12) (hC : Run L (d + 999) 178 [vR 78, vR 279, vI a1] (gupd σ2 279 1 0) (some (vI c)) σ3) : Run L (d + 1000) 39 [vR 27, vI a1] σ (some (vI c)) σ3 := by
  refine Run_of (C' := k_X_text) rfl ?_
  show Wp L (d + 1000) k_X_text 0 [vR 27, vI a1, vU] [] σ _
  obtain ⟨K27, K28, K29, K78, K97, K99, K109, K123, K125, K279, K282⟩ := litX
  simp (disch := first | assumption | exact gb_01 _ | omega) only [r_X_text_0, r_X_text_1, r_X_text_4, r_X_text_7, r_X_text_8, r_X_text_11, r_X_text_12, r_X_text_15, r_X_text_17, r_X_text_18, r_X_text_19, r_X_text_25, r_X_text_26, r_X_text_27, r_X_text_30, r_X_text_31, r_X_text_34, r_X_text_35, r_X_text_37, r_X_text_40, r_X_text_42, r_X_text_43, r_X_text_44, r_X_text_45, r_X_text_46, r_X_text_49, r_X_text_52, r_X_text_55, r_X_text_57, r_X_text_60, r_X_text_61, r_X_text_64, r_X_text_67, r_X_text_68, r_X_text_71, r_X_text_75, r_X_text_78, r_X_text_80, c_X_text_22 hP, c_X_text_72 hC, Option.toList, List.singleton_append, List.cons_append, List.nil_append, List.append_nil, gq_27_0, gq_27_1, gq_27_2, gq_27_3, gq_27_4, gq_27_5, gq_27_6, gq_28_0, gq_28_1, gq_28_2, gq_28_3, gq_28_4, gq_28_5, gq_28_6, gupd_ne, gupd_eq, w32_gb, w32i, tn_add, tn_mul, Int.toNat_natCast, Int.toNat_zero, Int.reduceLE, Int.reduceLT, Int.reduceEq, Int.reduceNe, gb_T, gb_F, Int.reduceToNat, eq_self, true_or, or_true, and_true, true_and, and_self, ↓ite_gb0, ↓ite_gbn, ↓if_pos, ↓if_neg, if_true, if_false, not_true_eq_false, not_false_eq_true, gb_ne0, gb_eq0]
set_option maxRecDepth 4000 in
theorem ad_c {T N : Nat} (hT : σ 78 6 = (T : Int)) (h12 : T < 12) (hN : σ 279 6 = (N : Int)) (h96 : N ≤ 96) : Run L (d + 999) 178 [vR 78, vR 279, vI a2] σ (some (vI (T : Int))) (gupd (gupd (gupd (gupd (gupd (gcpy σ 281 0 (80 + T) 0 N) 92 T (N : Int)) 93 T (σ 279 8)) 94 T a2) 95 T (σ 279 7)) 78 6 ((T : Int) + 1)) := by
  refine Run_of (C' := k_C_add) rfl ?_
  show Wp L (d + 999) k_C_add 0 [vR 78, vR 279, vI a2] [] σ _
  obtain ⟨K27, K28, K29, K78, K97, K99, K109, K123, K125, K279, K282⟩ := litX
  obtain ⟨K280, N280, K281, N281⟩ := litC
  have K279 := gK_279
  obtain ⟨q79, k80, n80⟩ := gq79 h12
  have l9 : gK 79 = 103 ∧ gK 92 = 100 ∧ gK 93 = 100 ∧ gK 94 = 100 ∧ gK 95 = 100 ∧ ((gN 79 : Nat) : Int) = 12 ∧ ((gN 92 : Nat) : Int) = 12 ∧ ((gN 93 : Nat) : Int) = 12 ∧ ((gN 94 : Nat) : Int) = 12 ∧ ((gN 95 : Nat) : Int) = 12 := by decide +kernel
  obtain ⟨K79, K92, K93, K94, K95, N79, N92, N93, N94, N95⟩ := l9
  have k79 : gK 79 = 102 ∨ gK 79 = 103 := Or.inr K79
  have g1 : ∀ k j, k ≠ 80 + T → gcpy σ 281 0 (80 + T) 0 N k j = σ k j := fun k j hk => if_neg (fun z => hk z.1)
  have c1 := g1 78 6 (by omega)
  have c2 := g1 279 6 (by omega)
  have c3 := g1 279 7 (by omega)
  have c4 := g1 279 8 (by omega)
  simp (disch := first | assumption | exact gb_01 _ | omega) only [r_C_add_0, r_C_add_1, r_C_add_4, r_C_add_5, r_C_add_6, r_C_add_9, r_C_add_10, r_C_add_13, r_C_add_14, r_C_add_15, r_C_add_16, r_C_add_19, r_C_add_22, r_C_add_23, r_C_add_26, r_C_add_27, r_C_add_30, r_C_add_31, r_C_add_34, r_C_add_35, r_C_add_36, r_C_add_39, r_C_add_40, r_C_add_43, r_C_add_44, r_C_add_47, r_C_add_48, r_C_add_49, r_C_add_52, r_C_add_53, r_C_add_56, r_C_add_57, r_C_add_58, r_C_add_59, r_C_add_62, r_C_add_63, r_C_add_66, r_C_add_67, r_C_add_70, r_C_add_71, r_C_add_72, r_C_add_73, r_C_add_76, r_C_add_77, r_C_add_78, r_C_add_79, r_C_add_82, gq_279_0, gq_279_5, gq_78_0, gq_78_1, gq_78_2, gq_78_3, gq_78_4, hT, hN, q79, c1, c2, c3, c4, gupd_ne, gupd_eq, w32_gb, w32i, tn_add, tn_mul, Int.toNat_natCast, Int.toNat_zero, Int.reduceLE, Int.reduceLT, Int.reduceEq, Int.reduceNe, gb_T, gb_F, Int.reduceToNat, eq_self, true_or, or_true, and_true, true_and, and_self, ↓ite_gb0, ↓ite_gbn, ↓if_pos, ↓if_neg, if_true, if_false, not_true_eq_false, not_false_eq_true, gb_ne0, gb_eq0]
