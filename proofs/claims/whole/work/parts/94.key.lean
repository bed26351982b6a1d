/-! text: the word that a text begins with. -/
variable {L d : Nat} {σ σ1 : Nat → Nat → Int} {Q : Option gV → (Nat → Nat → Int) → Prop} {a0 a1 a2 a3 a4 a5 a6 a7 a8 a9 a10 a11 s0 s1 s2 s3 s4 s5 s6 s7 s8 s9 : Int} {l0 l1 l2 l3 l4 l5 l6 l7 l8 l9 l10 l11 t0 t1 t2 t3 t4 t5 t6 t7 t8 t9 : gV} {b0 b1 b2 b3 b4 b5 b6 b7 b8 b9 b10 b11 c0 c1 c2 c3 c4 c5 c6 c7 c8 c9 : Nat} {r : Option gV}
/-- the word k lies from s to t -/
def gwd (b : Nat → Int) (s t k : Nat) : Prop := t = s + gln k ∧ ∀ j, j < gln k → b (s + j) = gby k j
theorem sp_word : ∀ l : Nat, l < 4 → Run L d 160 [vI (l : Int)] σ (some (vR l)) σ
  | 0, _ => sp_U_wordOf_0
  | 1, _ => sp_U_wordOf_1
  | 2, _ => sp_U_wordOf_2
  | 3, _ => sp_U_wordOf_3
  | l + 4, h => absurd h (by omega)
set_option maxRecDepth 4000 in
theorem gwd_0 {b : Nat → Int} {s t : Nat} : gwd b s t 0 ↔ (t = s + 4 ∧ b (s + 0) = 119 ∧ b (s + 1) = 105 ∧ b (s + 2) = 110 ∧ b (s + 3) = 100) := by
  refine ⟨fun h => ⟨h.1, h.2 0 (by decide), h.2 1 (by decide), h.2 2 (by decide), h.2 3 (by decide)⟩, fun h => ⟨h.1, fun j hj => ?_⟩⟩
  have hj : j < 4 := hj
  have : j = 0 ∨ j = 1 ∨ j = 2 ∨ j = 3 := by omega
  rcases this with rfl | rfl | rfl | rfl
  · exact h.2.1
  · exact h.2.2.1
  · exact h.2.2.2.1
  · exact h.2.2.2.2
set_option maxRecDepth 4000 in
theorem gwd_1 {b : Nat → Int} {s t : Nat} : gwd b s t 1 ↔ (t = s + 5 ∧ b (s + 0) = 115 ∧ b (s + 1) = 112 ∧ b (s + 2) = 101 ∧ b (s + 3) = 101 ∧ b (s + 4) = 100) := by
  refine ⟨fun h => ⟨h.1, h.2 0 (by decide), h.2 1 (by decide), h.2 2 (by decide), h.2 3 (by decide), h.2 4 (by decide)⟩, fun h => ⟨h.1, fun j hj => ?_⟩⟩
  have hj : j < 5 := hj
  have : j = 0 ∨ j = 1 ∨ j = 2 ∨ j = 3 ∨ j = 4 := by omega
  rcases this with rfl | rfl | rfl | rfl | rfl
  · exact h.2.1
  · exact h.2.2.1
  · exact h.2.2.2.1
  · exact h.2.2.2.2.1
  · exact h.2.2.2.2.2
set_option maxRecDepth 4000 in
theorem gwd_2 {b : Nat → Int} {s t : Nat} : gwd b s t 2 ↔ (t = s + 4 ∧ b (s + 0) = 109 ∧ b (s + 1) = 101 ∧ b (s + 2) = 110 ∧ b (s + 3) = 100) := by
  refine ⟨fun h => ⟨h.1, h.2 0 (by decide), h.2 1 (by decide), h.2 2 (by decide), h.2 3 (by decide)⟩, fun h => ⟨h.1, fun j hj => ?_⟩⟩
  have hj : j < 4 := hj
  have : j = 0 ∨ j = 1 ∨ j = 2 ∨ j = 3 := by omega
  rcases this with rfl | rfl | rfl | rfl
  · exact h.2.1
  · exact h.2.2.1
  · exact h.2.2.2.1
  · exact h.2.2.2.2
set_option maxRecDepth 4000 in
theorem gwd_3 {b : Nat → Int} {s t : Nat} : gwd b s t 3 ↔ (t = s + 4 ∧ b (s + 0) = 116 ∧ b (s + 1) = 101 ∧ b (s + 2) = 108 ∧ b (s + 3) = 108) := by
  refine ⟨fun h => ⟨h.1, h.2 0 (by decide), h.2 1 (by decide), h.2 2 (by decide), h.2 3 (by decide)⟩, fun h => ⟨h.1, fun j hj => ?_⟩⟩
  have hj : j < 4 := hj
  have : j = 0 ∨ j = 1 ∨ j = 2 ∨ j = 3 := by omega
  rcases this with rfl | rfl | rfl | rfl
  · exact h.2.1
  · exact h.2.2.1
  · exact h.2.2.2.1
  · exact h.2.2.2.2
set_option maxRecDepth 4000 in
theorem r_U_isAtHand_0 : Wp L d k_U_isAtHand 0 [vR b0, l1, l2, l3] [] σ Q ↔ Wp L d k_U_isAtHand 1 [vR b0, l1, l2, l3] [vR b0] σ Q := wp_aload rfl rfl
set_option maxRecDepth 4000 in
theorem r_U_isAtHand_1 (h : gK c0 = 8) : Wp L d k_U_isAtHand 1 [l0, l1, l2, l3] [vR c0] σ Q ↔ Wp L d k_U_isAtHand 4 [l0, l1, l2, l3] [vI (σ c0 4)] σ Q := wp_getI (c := 2052) rfl rfl rfl rfl h
set_option maxRecDepth 4000 in
theorem r_U_isAtHand_4 : Wp L d k_U_isAtHand 4 [l0, l1, l2, l3] [vI s0] σ Q ↔ Wp L d k_U_isAtHand 5 [l0, l1, l2, l3] [vI 1, vI s0] σ Q := wp_push rfl
set_option maxRecDepth 4000 in
theorem r_U_isAtHand_5 : Wp L d k_U_isAtHand 5 [l0, l1, l2, l3] [vI s1, vI s0] σ Q ↔ (if s0 ≠ s1 then Wp L d k_U_isAtHand 28 [l0, l1, l2, l3] [] σ Q else Wp L d k_U_isAtHand 8 [l0, l1, l2, l3] [] σ Q) := wp_cmp_ne rfl
set_option maxRecDepth 4000 in
theorem r_U_isAtHand_8 : Wp L d k_U_isAtHand 8 [vR b0, l1, l2, l3] [] σ Q ↔ Wp L d k_U_isAtHand 9 [vR b0, l1, l2, l3] [vR b0] σ Q := wp_aload rfl rfl
set_option maxRecDepth 4000 in
theorem r_U_isAtHand_9 (h : gK c0 = 8) : Wp L d k_U_isAtHand 9 [l0, l1, l2, l3] [vR c0] σ Q ↔ Wp L d k_U_isAtHand 12 [l0, l1, l2, l3] [vI (σ c0 3)] σ Q := wp_getI (c := 2051) rfl rfl rfl rfl h
set_option maxRecDepth 4000 in
theorem r_U_isAtHand_12 : Wp L d k_U_isAtHand 12 [vR b0, l1, l2, l3] [vI s0] σ Q ↔ Wp L d k_U_isAtHand 13 [vR b0, l1, l2, l3] [vR b0, vI s0] σ Q := wp_aload rfl rfl
set_option maxRecDepth 4000 in
theorem r_U_isAtHand_13 (h : gK c1 = 8) : Wp L d k_U_isAtHand 13 [l0, l1, l2, l3] [vR c1, vI s0] σ Q ↔ Wp L d k_U_isAtHand 16 [l0, l1, l2, l3] [vI (σ c1 2), vI s0] σ Q := wp_getI (c := 2050) rfl rfl rfl rfl h
set_option maxRecDepth 4000 in
theorem r_U_isAtHand_16 : Wp L d k_U_isAtHand 16 [l0, l1, l2, l3] [vI s1, vI s0] σ Q ↔ Wp L d k_U_isAtHand 17 [l0, l1, l2, l3] [vI (w32 (s0 - s1))] σ Q := wp_isub rfl
set_option maxRecDepth 4000 in
theorem r_U_isAtHand_17 : Wp L d k_U_isAtHand 17 [l0, vR b1, l2, l3] [vI s0] σ Q ↔ Wp L d k_U_isAtHand 18 [l0, vR b1, l2, l3] [vR b1, vI s0] σ Q := wp_aload rfl rfl
set_option maxRecDepth 4000 in
theorem c_U_isAtHand_18 (hR : Run L d 1 [vR c1] σ r σ1) (hg : grecv (gSH L, σ) 21 [vR c1] = true) : Wp L (d + 1) k_U_isAtHand 18 [l0, l1, l2, l3] [vR c1, vI s0] σ Q ↔ Wp L (d + 1) k_U_isAtHand 21 [l0, l1, l2, l3] (r.toList ++ [vI s0]) σ1 Q := wp_callR (as := [vR c1]) (rest := [vI s0]) rfl rfl rfl rfl rfl rfl rfl hg hR
set_option maxRecDepth 4000 in
theorem r_U_isAtHand_21 : Wp L d k_U_isAtHand 21 [l0, l1, l2, l3] [vI s1, vI s0] σ Q ↔ (if s0 ≠ s1 then Wp L d k_U_isAtHand 28 [l0, l1, l2, l3] [] σ Q else Wp L d k_U_isAtHand 24 [l0, l1, l2, l3] [] σ Q) := wp_cmp_ne rfl
set_option maxRecDepth 4000 in
theorem r_U_isAtHand_24 : Wp L d k_U_isAtHand 24 [l0, l1, l2, l3] [] σ Q ↔ Wp L d k_U_isAtHand 25 [l0, l1, l2, l3] [vI 1] σ Q := wp_push rfl
set_option maxRecDepth 4000 in
theorem r_U_isAtHand_25 : Wp L d k_U_isAtHand 25 [l0, l1, l2, l3] [vI s0] σ Q ↔ Wp L d k_U_isAtHand 29 [l0, l1, l2, l3] [vI s0] σ Q := wp_goto rfl
set_option maxRecDepth 4000 in
theorem r_U_isAtHand_28 : Wp L d k_U_isAtHand 28 [l0, l1, l2, l3] [] σ Q ↔ Wp L d k_U_isAtHand 29 [l0, l1, l2, l3] [vI 0] σ Q := wp_push rfl
set_option maxRecDepth 4000 in
theorem r_U_isAtHand_29 : Wp L d k_U_isAtHand 29 [l0, vR b1, l2, l3] [vI s0] σ Q ↔ Wp L d k_U_isAtHand 30 [l0, vR b1, vI s0, l3] [] σ Q := wp_istore (i := 2) (ls := [l0, vR b1, l2, l3]) rfl rfl
set_option maxRecDepth 4000 in
theorem r_U_isAtHand_30 : Wp L d k_U_isAtHand 30 [l0, l1, l2, l3] [] σ Q ↔ Wp L d k_U_isAtHand 31 [l0, l1, l2, l3] [vI 0] σ Q := wp_push rfl
set_option maxRecDepth 4000 in
theorem r_U_isAtHand_31 : Wp L d k_U_isAtHand 31 [l0, l1, vI a2, l3] [vI s0] σ Q ↔ Wp L d k_U_isAtHand 32 [l0, l1, vI a2, vI s0] [] σ Q := wp_istore (i := 3) (ls := [l0, l1, vI a2, l3]) rfl rfl
set_option maxRecDepth 4000 in
theorem r_U_isAtHand_32 : Wp L d k_U_isAtHand 32 [l0, l1, vI a2, l3] [] σ Q ↔ Wp L d k_U_isAtHand 33 [l0, l1, vI a2, l3] [vI a2] σ Q := wp_iload rfl rfl
set_option maxRecDepth 4000 in
theorem r_U_isAtHand_33 : Wp L d k_U_isAtHand 33 [l0, l1, l2, l3] [vI s0] σ Q ↔ (if s0 = 0 then Wp L d k_U_isAtHand 75 [l0, l1, l2, l3] [] σ Q else Wp L d k_U_isAtHand 36 [l0, l1, l2, l3] [] σ Q) := wp_if_eq rfl
set_option maxRecDepth 4000 in
theorem r_U_isAtHand_36 : Wp L d k_U_isAtHand 36 [l0, l1, l2, vI a3] [] σ Q ↔ Wp L d k_U_isAtHand 37 [l0, l1, l2, vI a3] [vI a3] σ Q := wp_iload rfl rfl
set_option maxRecDepth 4000 in
theorem r_U_isAtHand_37 : Wp L d k_U_isAtHand 37 [l0, vR b1, l2, l3] [vI s0] σ Q ↔ Wp L d k_U_isAtHand 38 [l0, vR b1, l2, l3] [vR b1, vI s0] σ Q := wp_aload rfl rfl
set_option maxRecDepth 4000 in
theorem c_U_isAtHand_38 (hR : Run L d 1 [vR c1] σ r σ1) (hg : grecv (gSH L, σ) 21 [vR c1] = true) : Wp L (d + 1) k_U_isAtHand 38 [l0, l1, l2, l3] [vR c1, vI s0] σ Q ↔ Wp L (d + 1) k_U_isAtHand 41 [l0, l1, l2, l3] (r.toList ++ [vI s0]) σ1 Q := wp_callR (as := [vR c1]) (rest := [vI s0]) rfl rfl rfl rfl rfl rfl rfl hg hR
set_option maxRecDepth 4000 in
theorem r_U_isAtHand_41 : Wp L d k_U_isAtHand 41 [l0, l1, l2, l3] [vI s1, vI s0] σ Q ↔ (if s1 ≤ s0 then Wp L d k_U_isAtHand 75 [l0, l1, l2, l3] [] σ Q else Wp L d k_U_isAtHand 44 [l0, l1, l2, l3] [] σ Q) := wp_cmp_ge rfl
set_option maxRecDepth 4000 in
theorem r_U_isAtHand_44 : Wp L d k_U_isAtHand 44 [vR b0, l1, l2, l3] [] σ Q ↔ Wp L d k_U_isAtHand 45 [vR b0, l1, l2, l3] [vR b0] σ Q := wp_aload rfl rfl
set_option maxRecDepth 4000 in
theorem r_U_isAtHand_45 (h : gK c0 = 8) : Wp L d k_U_isAtHand 45 [l0, l1, l2, l3] [vR c0] σ Q ↔ Wp L d k_U_isAtHand 48 [l0, l1, l2, l3] [vR (gq c0 0)] σ Q := wp_getR (c := 2176) rfl rfl rfl rfl rfl h
set_option maxRecDepth 4000 in
theorem r_U_isAtHand_48 : Wp L d k_U_isAtHand 48 [vR b0, l1, l2, l3] [vR c0] σ Q ↔ Wp L d k_U_isAtHand 49 [vR b0, l1, l2, l3] [vR b0, vR c0] σ Q := wp_aload rfl rfl
set_option maxRecDepth 4000 in
theorem r_U_isAtHand_49 (h : gK c1 = 8) : Wp L d k_U_isAtHand 49 [l0, l1, l2, l3] [vR c1, vR c0] σ Q ↔ Wp L d k_U_isAtHand 52 [l0, l1, l2, l3] [vI (σ c1 2), vR c0] σ Q := wp_getI (c := 2050) rfl rfl rfl rfl h
set_option maxRecDepth 4000 in
theorem r_U_isAtHand_52 : Wp L d k_U_isAtHand 52 [l0, l1, l2, vI a3] [vI s1, vR c0] σ Q ↔ Wp L d k_U_isAtHand 53 [l0, l1, l2, vI a3] [vI a3, vI s1, vR c0] σ Q := wp_iload rfl rfl
set_option maxRecDepth 4000 in
theorem r_U_isAtHand_53 : Wp L d k_U_isAtHand 53 [l0, l1, l2, l3] [vI s2, vI s1, vR c0] σ Q ↔ Wp L d k_U_isAtHand 54 [l0, l1, l2, l3] [vI (w32 (s1 + s2)), vR c0] σ Q := wp_iadd rfl
set_option maxRecDepth 4000 in
theorem r_U_isAtHand_54 (h : gK c0 = 100) (hx : 0 ≤ s1 ∧ s1 < gN c0) : Wp L d k_U_isAtHand 54 [l0, l1, l2, l3] [vI s1, vR c0] σ Q ↔ Wp L d k_U_isAtHand 55 [l0, l1, l2, l3] [vI (σ c0 s1.toNat)] σ Q := wp_iald rfl h hx
set_option maxRecDepth 4000 in
theorem r_U_isAtHand_55 : Wp L d k_U_isAtHand 55 [l0, vR b1, l2, l3] [vI s0] σ Q ↔ Wp L d k_U_isAtHand 56 [l0, vR b1, l2, l3] [vR b1, vI s0] σ Q := wp_aload rfl rfl
set_option maxRecDepth 4000 in
theorem r_U_isAtHand_56 : Wp L d k_U_isAtHand 56 [l0, l1, l2, vI a3] [vR c1, vI s0] σ Q ↔ Wp L d k_U_isAtHand 57 [l0, l1, l2, vI a3] [vI a3, vR c1, vI s0] σ Q := wp_iload rfl rfl
set_option maxRecDepth 4000 in
theorem c_U_isAtHand_57 (hR : Run L d 3 [vR c1, vI s2] σ r σ1) (hg : grecv (gSH L, σ) 21 [vR c1, vI s2] = true) : Wp L (d + 1) k_U_isAtHand 57 [l0, l1, l2, l3] [vI s2, vR c1, vI s0] σ Q ↔ Wp L (d + 1) k_U_isAtHand 60 [l0, l1, l2, l3] (r.toList ++ [vI s0]) σ1 Q := wp_callR (as := [vR c1, vI s2]) (rest := [vI s0]) rfl rfl rfl rfl rfl rfl rfl hg hR
set_option maxRecDepth 4000 in
theorem r_U_isAtHand_60 : Wp L d k_U_isAtHand 60 [l0, l1, l2, l3] [vI s1, vI s0] σ Q ↔ (if s0 ≠ s1 then Wp L d k_U_isAtHand 67 [l0, l1, l2, l3] [] σ Q else Wp L d k_U_isAtHand 63 [l0, l1, l2, l3] [] σ Q) := wp_cmp_ne rfl
set_option maxRecDepth 4000 in
theorem r_U_isAtHand_63 : Wp L d k_U_isAtHand 63 [l0, l1, l2, l3] [] σ Q ↔ Wp L d k_U_isAtHand 64 [l0, l1, l2, l3] [vI 1] σ Q := wp_push rfl
set_option maxRecDepth 4000 in
theorem r_U_isAtHand_64 : Wp L d k_U_isAtHand 64 [l0, l1, l2, l3] [vI s0] σ Q ↔ Wp L d k_U_isAtHand 68 [l0, l1, l2, l3] [vI s0] σ Q := wp_goto rfl
set_option maxRecDepth 4000 in
theorem r_U_isAtHand_67 : Wp L d k_U_isAtHand 67 [l0, l1, l2, l3] [] σ Q ↔ Wp L d k_U_isAtHand 68 [l0, l1, l2, l3] [vI 0] σ Q := wp_push rfl
set_option maxRecDepth 4000 in
theorem r_U_isAtHand_68 : Wp L d k_U_isAtHand 68 [l0, vR b1, l2, l3] [vI s0] σ Q ↔ Wp L d k_U_isAtHand 69 [l0, vR b1, vI s0, l3] [] σ Q := wp_istore (i := 2) (ls := [l0, vR b1, l2, l3]) rfl rfl
set_option maxRecDepth 4000 in
theorem r_U_isAtHand_69 : Wp L d k_U_isAtHand 69 [l0, l1, vI a2, vI a3] [] σ Q ↔ Wp L d k_U_isAtHand 72 [l0, l1, vI a2, vI (w32 (a3 + 1))] [] σ Q := wp_iinc (i := 3) (ls := [l0, l1, vI a2, vI a3]) rfl rfl
set_option maxRecDepth 4000 in
theorem r_U_isAtHand_72 : Wp L d k_U_isAtHand 72 [l0, l1, l2, l3] [] σ Q ↔ Wp L d k_U_isAtHand 32 [l0, l1, l2, l3] [] σ Q := wp_goto rfl
set_option maxRecDepth 4000 in
theorem r_U_isAtHand_75 : Wp L d k_U_isAtHand 75 [l0, l1, vI a2, l3] [] σ Q ↔ Wp L d k_U_isAtHand 76 [l0, l1, vI a2, l3] [vI a2] σ Q := wp_iload rfl rfl
set_option maxRecDepth 4000 in
theorem r_U_isAtHand_76 (h : s0 = 0 ∨ s0 = 1) : Wp L d k_U_isAtHand 76 [l0, l1, l2, l3] [vI s0] σ Q ↔ Q (some (vI s0)) σ := wp_zret rfl h
set_option maxRecDepth 4000 in
theorem at_t {b : Nat → Int} {n e k : Nat} {w : Int} (hn : n ≤ 96) (hen : e ≤ n) (hk : k < 13) (h : TKc b n e w σ) (hc : TXc σ) (hw : gtq b n e w = 1 ∧ gwd b (gts b n e) (gte b n e) k) : Run L (d + 4) 161 [vR 279, vR k] σ (some (vI 1)) σ := by
  refine Run_of (C' := k_U_isAtHand) rfl ?_
  show Wp L (d + 4) k_U_isAtHand 0 [vR 279, vR k, vU, vU] [] σ _
  obtain ⟨K280, N280, K281, N281⟩ := litC
  have K279 := gK_279
  obtain ⟨t1, t2, t3, t4, t5⟩ := h
  have lb := gln_le k hk
  have sb := gts_bd (b := b) hen
  have tb := gte_bd (b := b) hen
  have hL := sp_Str_length (L := L) (d := d + 2) hk hc
  have hg := grecv_s (L := L) (σ := σ) (t := []) hk
  have go : gtq b n e w = 1 → gte b n e = gts b n e + gln k → Wp L (d + 4) k_U_isAtHand 32 [vR 279, vR k, vI 1, vI ((0 : Nat) : Int)] [] σ (fun r' σ' => r' = some (vI 1) ∧ σ' = σ) := fun q1 q2 => by
    refine wloop (n := gln k) (I := fun i ls τ => ls = [vR 279, vR k, vI 1, vI ((i : Nat) : Int)] ∧ τ = σ ∧ ∀ j, j < i → b (gts b n e + j) = gby k j) (fun i ls τ hi hI hq => ?_) (fun ls τ hI => ?_) (gln k) 0 (by omega) _ _ ⟨rfl, rfl, fun j hj => absurd hj (by omega)⟩
    · obtain ⟨rfl, rfl, hx⟩ := hI
      have hC := sp_Str_charAt (L := L) (d := d) (a1 := ((i : Nat) : Int)) hk hc (by omega)
      have hg2 := grecv_s (L := L) (σ := τ) (t := [vI ((i : Nat) : Int)]) hk
      have e1 := t2 (gts b n e + i) (by omega)
      have e2 : (((gts b n e : Nat) : Int) + ((i : Nat) : Int)).toNat = gts b n e + i := by omega
      rw [Int.toNat_natCast] at hC
      rw [r_U_isAtHand_32]
      by_cases z : b (gts b n e + i) = gby k i
      · simp (disch := first | assumption | exact gb_01 _ | omega) only [r_U_isAtHand_0, r_U_isAtHand_1, r_U_isAtHand_4, r_U_isAtHand_5, r_U_isAtHand_8, r_U_isAtHand_9, r_U_isAtHand_12, r_U_isAtHand_13, r_U_isAtHand_16, r_U_isAtHand_17, r_U_isAtHand_21, r_U_isAtHand_24, r_U_isAtHand_25, r_U_isAtHand_28, r_U_isAtHand_29, r_U_isAtHand_30, r_U_isAtHand_31, r_U_isAtHand_33, r_U_isAtHand_36, r_U_isAtHand_37, r_U_isAtHand_41, r_U_isAtHand_44, r_U_isAtHand_45, r_U_isAtHand_48, r_U_isAtHand_49, r_U_isAtHand_52, r_U_isAtHand_53, r_U_isAtHand_54, r_U_isAtHand_55, r_U_isAtHand_56, r_U_isAtHand_60, r_U_isAtHand_63, r_U_isAtHand_64, r_U_isAtHand_67, r_U_isAtHand_68, r_U_isAtHand_69, r_U_isAtHand_72, r_U_isAtHand_75, r_U_isAtHand_76, c_U_isAtHand_38 hL hg, c_U_isAtHand_57 hC hg2, Option.toList, List.singleton_append, List.cons_append, List.nil_append, List.append_nil, gq_279_0, gq_279_5, t3, e1, e2, z, w32_gb, w32i, tn_add, tn_mul, Int.toNat_natCast, Int.toNat_zero, Int.reduceLE, Int.reduceLT, Int.reduceEq, Int.reduceNe, gb_T, gb_F, Int.reduceToNat, eq_self, true_or, or_true, and_true, true_and, and_self, ↓ite_gb0, ↓ite_gbn, ↓if_pos, ↓if_neg, if_true, if_false, not_true_eq_false, not_false_eq_true, gb_ne0, gb_eq0]
        refine hq _ _ ⟨rfl, rfl, fun j hj => ?_⟩
        by_cases y : j = i
        · rw [y]; exact z
        · exact hx j (by omega)
      · exact absurd (hw.2.2 i hi) z
    · obtain ⟨rfl, rfl, hx⟩ := hI
      rw [r_U_isAtHand_32]
      simp (disch := first | assumption | exact gb_01 _ | omega) only [r_U_isAtHand_0, r_U_isAtHand_1, r_U_isAtHand_4, r_U_isAtHand_5, r_U_isAtHand_8, r_U_isAtHand_9, r_U_isAtHand_12, r_U_isAtHand_13, r_U_isAtHand_16, r_U_isAtHand_17, r_U_isAtHand_21, r_U_isAtHand_24, r_U_isAtHand_25, r_U_isAtHand_28, r_U_isAtHand_29, r_U_isAtHand_30, r_U_isAtHand_31, r_U_isAtHand_33, r_U_isAtHand_36, r_U_isAtHand_37, r_U_isAtHand_41, r_U_isAtHand_44, r_U_isAtHand_45, r_U_isAtHand_48, r_U_isAtHand_49, r_U_isAtHand_52, r_U_isAtHand_53, r_U_isAtHand_54, r_U_isAtHand_55, r_U_isAtHand_56, r_U_isAtHand_60, r_U_isAtHand_63, r_U_isAtHand_64, r_U_isAtHand_67, r_U_isAtHand_68, r_U_isAtHand_69, r_U_isAtHand_72, r_U_isAtHand_75, r_U_isAtHand_76, c_U_isAtHand_38 hL hg, Option.toList, List.singleton_append, List.cons_append, List.nil_append, List.append_nil, gq_279_0, gq_279_5, w32_gb, w32i, tn_add, tn_mul, Int.toNat_natCast, Int.toNat_zero, Int.reduceLE, Int.reduceLT, Int.reduceEq, Int.reduceNe, gb_T, gb_F, Int.reduceToNat, eq_self, true_or, or_true, and_true, true_and, and_self, ↓ite_gb0, ↓ite_gbn, ↓if_pos, ↓if_neg, if_true, if_false, not_true_eq_false, not_false_eq_true, gb_ne0, gb_eq0]

  by_cases q1 : gtq b n e w = 1
  · by_cases q2 : gte b n e = gts b n e + gln k
    · have x := go q1 q2
      simp (disch := first | assumption | exact gb_01 _ | omega) only [r_U_isAtHand_0, r_U_isAtHand_1, r_U_isAtHand_4, r_U_isAtHand_5, r_U_isAtHand_8, r_U_isAtHand_9, r_U_isAtHand_12, r_U_isAtHand_13, r_U_isAtHand_16, r_U_isAtHand_17, r_U_isAtHand_21, r_U_isAtHand_24, r_U_isAtHand_25, r_U_isAtHand_28, r_U_isAtHand_29, r_U_isAtHand_30, r_U_isAtHand_31, r_U_isAtHand_33, r_U_isAtHand_36, r_U_isAtHand_37, r_U_isAtHand_41, r_U_isAtHand_44, r_U_isAtHand_45, r_U_isAtHand_48, r_U_isAtHand_49, r_U_isAtHand_52, r_U_isAtHand_53, r_U_isAtHand_54, r_U_isAtHand_55, r_U_isAtHand_56, r_U_isAtHand_60, r_U_isAtHand_63, r_U_isAtHand_64, r_U_isAtHand_67, r_U_isAtHand_68, r_U_isAtHand_69, r_U_isAtHand_72, r_U_isAtHand_75, r_U_isAtHand_76, c_U_isAtHand_18 hL hg, Option.toList, List.singleton_append, List.cons_append, List.nil_append, List.append_nil, gq_279_0, gq_279_5, t3, t4, t5, w32_gb, w32i, tn_add, tn_mul, Int.toNat_natCast, Int.toNat_zero, Int.reduceLE, Int.reduceLT, Int.reduceEq, Int.reduceNe, gb_T, gb_F, Int.reduceToNat, eq_self, true_or, or_true, and_true, true_and, and_self, ↓ite_gb0, ↓ite_gbn, ↓if_pos, ↓if_neg, if_true, if_false, not_true_eq_false, not_false_eq_true, gb_ne0, gb_eq0]
      exact x
    · exact absurd hw.2.1 q2
  · exact absurd hw.1 q1
set_option maxRecDepth 4000 in
theorem at_f {b : Nat → Int} {n e k : Nat} {w : Int} (hn : n ≤ 96) (hen : e ≤ n) (hk : k < 13) (h : TKc b n e w σ) (hc : TXc σ) (hw : ¬(gtq b n e w = 1 ∧ gwd b (gts b n e) (gte b n e) k)) : Run L (d + 4) 161 [vR 279, vR k] σ (some (vI 0)) σ := by
  refine Run_of (C' := k_U_isAtHand) rfl ?_
  show Wp L (d + 4) k_U_isAtHand 0 [vR 279, vR k, vU, vU] [] σ _
  obtain ⟨K280, N280, K281, N281⟩ := litC
  have K279 := gK_279
  obtain ⟨t1, t2, t3, t4, t5⟩ := h
  have lb := gln_le k hk
  have sb := gts_bd (b := b) hen
  have tb := gte_bd (b := b) hen
  have hL := sp_Str_length (L := L) (d := d + 2) hk hc
  have hg := grecv_s (L := L) (σ := σ) (t := []) hk
  have go : gtq b n e w = 1 → gte b n e = gts b n e + gln k → Wp L (d + 4) k_U_isAtHand 32 [vR 279, vR k, vI 1, vI ((0 : Nat) : Int)] [] σ (fun r' σ' => r' = some (vI 0) ∧ σ' = σ) := fun q1 q2 => by
    refine wloop (n := gln k) (I := fun i ls τ => ls = [vR 279, vR k, vI 1, vI ((i : Nat) : Int)] ∧ τ = σ ∧ ∀ j, j < i → b (gts b n e + j) = gby k j) (fun i ls τ hi hI hq => ?_) (fun ls τ hI => ?_) (gln k) 0 (by omega) _ _ ⟨rfl, rfl, fun j hj => absurd hj (by omega)⟩
    · obtain ⟨rfl, rfl, hx⟩ := hI
      have hC := sp_Str_charAt (L := L) (d := d) (a1 := ((i : Nat) : Int)) hk hc (by omega)
      have hg2 := grecv_s (L := L) (σ := τ) (t := [vI ((i : Nat) : Int)]) hk
      have e1 := t2 (gts b n e + i) (by omega)
      have e2 : (((gts b n e : Nat) : Int) + ((i : Nat) : Int)).toNat = gts b n e + i := by omega
      rw [Int.toNat_natCast] at hC
      rw [r_U_isAtHand_32]
      by_cases z : b (gts b n e + i) = gby k i
      · simp (disch := first | assumption | exact gb_01 _ | omega) only [r_U_isAtHand_0, r_U_isAtHand_1, r_U_isAtHand_4, r_U_isAtHand_5, r_U_isAtHand_8, r_U_isAtHand_9, r_U_isAtHand_12, r_U_isAtHand_13, r_U_isAtHand_16, r_U_isAtHand_17, r_U_isAtHand_21, r_U_isAtHand_24, r_U_isAtHand_25, r_U_isAtHand_28, r_U_isAtHand_29, r_U_isAtHand_30, r_U_isAtHand_31, r_U_isAtHand_33, r_U_isAtHand_36, r_U_isAtHand_37, r_U_isAtHand_41, r_U_isAtHand_44, r_U_isAtHand_45, r_U_isAtHand_48, r_U_isAtHand_49, r_U_isAtHand_52, r_U_isAtHand_53, r_U_isAtHand_54, r_U_isAtHand_55, r_U_isAtHand_56, r_U_isAtHand_60, r_U_isAtHand_63, r_U_isAtHand_64, r_U_isAtHand_67, r_U_isAtHand_68, r_U_isAtHand_69, r_U_isAtHand_72, r_U_isAtHand_75, r_U_isAtHand_76, c_U_isAtHand_38 hL hg, c_U_isAtHand_57 hC hg2, Option.toList, List.singleton_append, List.cons_append, List.nil_append, List.append_nil, gq_279_0, gq_279_5, t3, e1, e2, z, w32_gb, w32i, tn_add, tn_mul, Int.toNat_natCast, Int.toNat_zero, Int.reduceLE, Int.reduceLT, Int.reduceEq, Int.reduceNe, gb_T, gb_F, Int.reduceToNat, eq_self, true_or, or_true, and_true, true_and, and_self, ↓ite_gb0, ↓ite_gbn, ↓if_pos, ↓if_neg, if_true, if_false, not_true_eq_false, not_false_eq_true, gb_ne0, gb_eq0]
        refine hq _ _ ⟨rfl, rfl, fun j hj => ?_⟩
        by_cases y : j = i
        · rw [y]; exact z
        · exact hx j (by omega)
      · simp (disch := first | assumption | exact gb_01 _ | omega) only [r_U_isAtHand_0, r_U_isAtHand_1, r_U_isAtHand_4, r_U_isAtHand_5, r_U_isAtHand_8, r_U_isAtHand_9, r_U_isAtHand_12, r_U_isAtHand_13, r_U_isAtHand_16, r_U_isAtHand_17, r_U_isAtHand_21, r_U_isAtHand_24, r_U_isAtHand_25, r_U_isAtHand_28, r_U_isAtHand_29, r_U_isAtHand_30, r_U_isAtHand_31, r_U_isAtHand_33, r_U_isAtHand_36, r_U_isAtHand_37, r_U_isAtHand_41, r_U_isAtHand_44, r_U_isAtHand_45, r_U_isAtHand_48, r_U_isAtHand_49, r_U_isAtHand_52, r_U_isAtHand_53, r_U_isAtHand_54, r_U_isAtHand_55, r_U_isAtHand_56, r_U_isAtHand_60, r_U_isAtHand_63, r_U_isAtHand_64, r_U_isAtHand_67, r_U_isAtHand_68, r_U_isAtHand_69, r_U_isAtHand_72, r_U_isAtHand_75, r_U_isAtHand_76, c_U_isAtHand_38 hL hg, c_U_isAtHand_57 hC hg2, Option.toList, List.singleton_append, List.cons_append, List.nil_append, List.append_nil, gq_279_0, gq_279_5, t3, e1, e2, z, w32_gb, w32i, tn_add, tn_mul, Int.toNat_natCast, Int.toNat_zero, Int.reduceLE, Int.reduceLT, Int.reduceEq, Int.reduceNe, gb_T, gb_F, Int.reduceToNat, eq_self, true_or, or_true, and_true, true_and, and_self, ↓ite_gb0, ↓ite_gbn, ↓if_pos, ↓if_neg, if_true, if_false, not_true_eq_false, not_false_eq_true, gb_ne0, gb_eq0]
        rw [r_U_isAtHand_32]
        simp (disch := first | assumption | exact gb_01 _ | omega) only [r_U_isAtHand_0, r_U_isAtHand_1, r_U_isAtHand_4, r_U_isAtHand_5, r_U_isAtHand_8, r_U_isAtHand_9, r_U_isAtHand_12, r_U_isAtHand_13, r_U_isAtHand_16, r_U_isAtHand_17, r_U_isAtHand_21, r_U_isAtHand_24, r_U_isAtHand_25, r_U_isAtHand_28, r_U_isAtHand_29, r_U_isAtHand_30, r_U_isAtHand_31, r_U_isAtHand_33, r_U_isAtHand_36, r_U_isAtHand_37, r_U_isAtHand_41, r_U_isAtHand_44, r_U_isAtHand_45, r_U_isAtHand_48, r_U_isAtHand_49, r_U_isAtHand_52, r_U_isAtHand_53, r_U_isAtHand_54, r_U_isAtHand_55, r_U_isAtHand_56, r_U_isAtHand_60, r_U_isAtHand_63, r_U_isAtHand_64, r_U_isAtHand_67, r_U_isAtHand_68, r_U_isAtHand_69, r_U_isAtHand_72, r_U_isAtHand_75, r_U_isAtHand_76, w32_gb, w32i, tn_add, tn_mul, Int.toNat_natCast, Int.toNat_zero, Int.reduceLE, Int.reduceLT, Int.reduceEq, Int.reduceNe, gb_T, gb_F, Int.reduceToNat, eq_self, true_or, or_true, and_true, true_and, and_self, ↓ite_gb0, ↓ite_gbn, ↓if_pos, ↓if_neg, if_true, if_false, not_true_eq_false, not_false_eq_true, gb_ne0, gb_eq0]
    · obtain ⟨rfl, rfl, hx⟩ := hI
      exact absurd ⟨q1, q2, hx⟩ hw

  by_cases q1 : gtq b n e w = 1
  · by_cases q2 : gte b n e = gts b n e + gln k
    · have x := go q1 q2
      simp (disch := first | assumption | exact gb_01 _ | omega) only [r_U_isAtHand_0, r_U_isAtHand_1, r_U_isAtHand_4, r_U_isAtHand_5, r_U_isAtHand_8, r_U_isAtHand_9, r_U_isAtHand_12, r_U_isAtHand_13, r_U_isAtHand_16, r_U_isAtHand_17, r_U_isAtHand_21, r_U_isAtHand_24, r_U_isAtHand_25, r_U_isAtHand_28, r_U_isAtHand_29, r_U_isAtHand_30, r_U_isAtHand_31, r_U_isAtHand_33, r_U_isAtHand_36, r_U_isAtHand_37, r_U_isAtHand_41, r_U_isAtHand_44, r_U_isAtHand_45, r_U_isAtHand_48, r_U_isAtHand_49, r_U_isAtHand_52, r_U_isAtHand_53, r_U_isAtHand_54, r_U_isAtHand_55, r_U_isAtHand_56, r_U_isAtHand_60, r_U_isAtHand_63, r_U_isAtHand_64, r_U_isAtHand_67, r_U_isAtHand_68, r_U_isAtHand_69, r_U_isAtHand_72, r_U_isAtHand_75, r_U_isAtHand_76, c_U_isAtHand_18 hL hg, Option.toList, List.singleton_append, List.cons_append, List.nil_append, List.append_nil, gq_279_0, gq_279_5, t3, t4, t5, w32_gb, w32i, tn_add, tn_mul, Int.toNat_natCast, Int.toNat_zero, Int.reduceLE, Int.reduceLT, Int.reduceEq, Int.reduceNe, gb_T, gb_F, Int.reduceToNat, eq_self, true_or, or_true, and_true, true_and, and_self, ↓ite_gb0, ↓ite_gbn, ↓if_pos, ↓if_neg, if_true, if_false, not_true_eq_false, not_false_eq_true, gb_ne0, gb_eq0]
      exact x
    · simp (disch := first | assumption | exact gb_01 _ | omega) only [r_U_isAtHand_0, r_U_isAtHand_1, r_U_isAtHand_4, r_U_isAtHand_5, r_U_isAtHand_8, r_U_isAtHand_9, r_U_isAtHand_12, r_U_isAtHand_13, r_U_isAtHand_16, r_U_isAtHand_17, r_U_isAtHand_21, r_U_isAtHand_24, r_U_isAtHand_25, r_U_isAtHand_28, r_U_isAtHand_29, r_U_isAtHand_30, r_U_isAtHand_31, r_U_isAtHand_33, r_U_isAtHand_36, r_U_isAtHand_37, r_U_isAtHand_41, r_U_isAtHand_44, r_U_isAtHand_45, r_U_isAtHand_48, r_U_isAtHand_49, r_U_isAtHand_52, r_U_isAtHand_53, r_U_isAtHand_54, r_U_isAtHand_55, r_U_isAtHand_56, r_U_isAtHand_60, r_U_isAtHand_63, r_U_isAtHand_64, r_U_isAtHand_67, r_U_isAtHand_68, r_U_isAtHand_69, r_U_isAtHand_72, r_U_isAtHand_75, r_U_isAtHand_76, c_U_isAtHand_18 hL hg, Option.toList, List.singleton_append, List.cons_append, List.nil_append, List.append_nil, gq_279_0, gq_279_5, t3, t4, t5, w32_gb, w32i, tn_add, tn_mul, Int.toNat_natCast, Int.toNat_zero, Int.reduceLE, Int.reduceLT, Int.reduceEq, Int.reduceNe, gb_T, gb_F, Int.reduceToNat, eq_self, true_or, or_true, and_true, true_and, and_self, ↓ite_gb0, ↓ite_gbn, ↓if_pos, ↓if_neg, if_true, if_false, not_true_eq_false, not_false_eq_true, gb_ne0, gb_eq0]
      rw [r_U_isAtHand_32]
      simp (disch := first | assumption | exact gb_01 _ | omega) only [r_U_isAtHand_0, r_U_isAtHand_1, r_U_isAtHand_4, r_U_isAtHand_5, r_U_isAtHand_8, r_U_isAtHand_9, r_U_isAtHand_12, r_U_isAtHand_13, r_U_isAtHand_16, r_U_isAtHand_17, r_U_isAtHand_21, r_U_isAtHand_24, r_U_isAtHand_25, r_U_isAtHand_28, r_U_isAtHand_29, r_U_isAtHand_30, r_U_isAtHand_31, r_U_isAtHand_33, r_U_isAtHand_36, r_U_isAtHand_37, r_U_isAtHand_41, r_U_isAtHand_44, r_U_isAtHand_45, r_U_isAtHand_48, r_U_isAtHand_49, r_U_isAtHand_52, r_U_isAtHand_53, r_U_isAtHand_54, r_U_isAtHand_55, r_U_isAtHand_56, r_U_isAtHand_60, r_U_isAtHand_63, r_U_isAtHand_64, r_U_isAtHand_67, r_U_isAtHand_68, r_U_isAtHand_69, r_U_isAtHand_72, r_U_isAtHand_75, r_U_isAtHand_76, w32_gb, w32i, tn_add, tn_mul, Int.toNat_natCast, Int.toNat_zero, Int.reduceLE, Int.reduceLT, Int.reduceEq, Int.reduceNe, gb_T, gb_F, Int.reduceToNat, eq_self, true_or, or_true, and_true, true_and, and_self, ↓ite_gb0, ↓ite_gbn, ↓if_pos, ↓if_neg, if_true, if_false, not_true_eq_false, not_false_eq_true, gb_ne0, gb_eq0]
  · simp (disch := first | assumption | exact gb_01 _ | omega) only [r_U_isAtHand_0, r_U_isAtHand_1, r_U_isAtHand_4, r_U_isAtHand_5, r_U_isAtHand_8, r_U_isAtHand_9, r_U_isAtHand_12, r_U_isAtHand_13, r_U_isAtHand_16, r_U_isAtHand_17, r_U_isAtHand_21, r_U_isAtHand_24, r_U_isAtHand_25, r_U_isAtHand_28, r_U_isAtHand_29, r_U_isAtHand_30, r_U_isAtHand_31, r_U_isAtHand_33, r_U_isAtHand_36, r_U_isAtHand_37, r_U_isAtHand_41, r_U_isAtHand_44, r_U_isAtHand_45, r_U_isAtHand_48, r_U_isAtHand_49, r_U_isAtHand_52, r_U_isAtHand_53, r_U_isAtHand_54, r_U_isAtHand_55, r_U_isAtHand_56, r_U_isAtHand_60, r_U_isAtHand_63, r_U_isAtHand_64, r_U_isAtHand_67, r_U_isAtHand_68, r_U_isAtHand_69, r_U_isAtHand_72, r_U_isAtHand_75, r_U_isAtHand_76, c_U_isAtHand_18 hL hg, Option.toList, List.singleton_append, List.cons_append, List.nil_append, List.append_nil, gq_279_0, gq_279_5, t3, t4, t5, w32_gb, w32i, tn_add, tn_mul, Int.toNat_natCast, Int.toNat_zero, Int.reduceLE, Int.reduceLT, Int.reduceEq, Int.reduceNe, gb_T, gb_F, Int.reduceToNat, eq_self, true_or, or_true, and_true, true_and, and_self, ↓ite_gb0, ↓ite_gbn, ↓if_pos, ↓if_neg, if_true, if_false, not_true_eq_false, not_false_eq_true, gb_ne0, gb_eq0]
    rw [r_U_isAtHand_32]
    simp (disch := first | assumption | exact gb_01 _ | omega) only [r_U_isAtHand_0, r_U_isAtHand_1, r_U_isAtHand_4, r_U_isAtHand_5, r_U_isAtHand_8, r_U_isAtHand_9, r_U_isAtHand_12, r_U_isAtHand_13, r_U_isAtHand_16, r_U_isAtHand_17, r_U_isAtHand_21, r_U_isAtHand_24, r_U_isAtHand_25, r_U_isAtHand_28, r_U_isAtHand_29, r_U_isAtHand_30, r_U_isAtHand_31, r_U_isAtHand_33, r_U_isAtHand_36, r_U_isAtHand_37, r_U_isAtHand_41, r_U_isAtHand_44, r_U_isAtHand_45, r_U_isAtHand_48, r_U_isAtHand_49, r_U_isAtHand_52, r_U_isAtHand_53, r_U_isAtHand_54, r_U_isAtHand_55, r_U_isAtHand_56, r_U_isAtHand_60, r_U_isAtHand_63, r_U_isAtHand_64, r_U_isAtHand_67, r_U_isAtHand_68, r_U_isAtHand_69, r_U_isAtHand_72, r_U_isAtHand_75, r_U_isAtHand_76, w32_gb, w32i, tn_add, tn_mul, Int.toNat_natCast, Int.toNat_zero, Int.reduceLE, Int.reduceLT, Int.reduceEq, Int.reduceNe, gb_T, gb_F, Int.reduceToNat, eq_self, true_or, or_true, and_true, true_and, and_self, ↓ite_gb0, ↓ite_gbn, ↓if_pos, ↓if_neg, if_true, if_false, not_true_eq_false, not_false_eq_true, gb_ne0, gb_eq0]
set_option maxRecDepth 4000 in
theorem r_U_keyAtHand_0 : Wp L d k_U_keyAtHand 0 [l0, l1] [] σ Q ↔ Wp L d k_U_keyAtHand 1 [l0, l1] [vI 0] σ Q := wp_push rfl
set_option maxRecDepth 4000 in
theorem r_U_keyAtHand_1 : Wp L d k_U_keyAtHand 1 [vR b0, l1] [vI s0] σ Q ↔ Wp L d k_U_keyAtHand 2 [vR b0, vI s0] [] σ Q := wp_istore (i := 1) (ls := [vR b0, l1]) rfl rfl
set_option maxRecDepth 4000 in
theorem r_U_keyAtHand_2 : Wp L d k_U_keyAtHand 2 [l0, vI a1] [] σ Q ↔ Wp L d k_U_keyAtHand 3 [l0, vI a1] [vI a1] σ Q := wp_iload rfl rfl
set_option maxRecDepth 4000 in
theorem r_U_keyAtHand_3 : Wp L d k_U_keyAtHand 3 [l0, l1] [vI s0] σ Q ↔ Wp L d k_U_keyAtHand 4 [l0, l1] [vI 4, vI s0] σ Q := wp_push rfl
set_option maxRecDepth 4000 in
theorem r_U_keyAtHand_4 : Wp L d k_U_keyAtHand 4 [l0, l1] [vI s1, vI s0] σ Q ↔ (if s1 ≤ s0 then Wp L d k_U_keyAtHand 26 [l0, l1] [] σ Q else Wp L d k_U_keyAtHand 7 [l0, l1] [] σ Q) := wp_cmp_ge rfl
set_option maxRecDepth 4000 in
theorem r_U_keyAtHand_7 : Wp L d k_U_keyAtHand 7 [vR b0, l1] [] σ Q ↔ Wp L d k_U_keyAtHand 8 [vR b0, l1] [vR b0] σ Q := wp_aload rfl rfl
set_option maxRecDepth 4000 in
theorem r_U_keyAtHand_8 : Wp L d k_U_keyAtHand 8 [l0, vI a1] [vR c0] σ Q ↔ Wp L d k_U_keyAtHand 9 [l0, vI a1] [vI a1, vR c0] σ Q := wp_iload rfl rfl
set_option maxRecDepth 4000 in
theorem c_U_keyAtHand_9 (hR : Run L d 160 [vI s1] σ r σ1) : Wp L (d + 1) k_U_keyAtHand 9 [l0, l1] [vI s1, vR c0] σ Q ↔ Wp L (d + 1) k_U_keyAtHand 12 [l0, l1] (r.toList ++ [vR c0]) σ1 Q := wp_callR (as := [vI s1]) (rest := [vR c0]) rfl rfl rfl rfl rfl rfl rfl rfl hR
set_option maxRecDepth 4000 in
theorem c_U_keyAtHand_12 (hR : Run L d 161 [vR c0, vR c1] σ r σ1) (h : gK c0 = 8) : Wp L (d + 1) k_U_keyAtHand 12 [l0, l1] [vR c1, vR c0] σ Q ↔ Wp L (d + 1) k_U_keyAtHand 15 [l0, l1] (r.toList ++ []) σ1 Q := wp_callR (as := [vR c0, vR c1]) (rest := []) rfl rfl rfl rfl rfl rfl rfl (grecv_k (by rw [h]) rfl) hR
set_option maxRecDepth 4000 in
theorem r_U_keyAtHand_15 : Wp L d k_U_keyAtHand 15 [l0, l1] [vI s0] σ Q ↔ (if s0 = 0 then Wp L d k_U_keyAtHand 20 [l0, l1] [] σ Q else Wp L d k_U_keyAtHand 18 [l0, l1] [] σ Q) := wp_if_eq rfl
set_option maxRecDepth 4000 in
theorem r_U_keyAtHand_18 : Wp L d k_U_keyAtHand 18 [l0, vI a1] [] σ Q ↔ Wp L d k_U_keyAtHand 19 [l0, vI a1] [vI a1] σ Q := wp_iload rfl rfl
set_option maxRecDepth 4000 in
theorem r_U_keyAtHand_19 : Wp L d k_U_keyAtHand 19 [l0, l1] [vI s0] σ Q ↔ Q (some (vI s0)) σ := wp_iret rfl
set_option maxRecDepth 4000 in
theorem r_U_keyAtHand_20 : Wp L d k_U_keyAtHand 20 [vR b0, vI a1] [] σ Q ↔ Wp L d k_U_keyAtHand 23 [vR b0, vI (w32 (a1 + 1))] [] σ Q := wp_iinc (i := 1) (ls := [vR b0, vI a1]) rfl rfl
set_option maxRecDepth 4000 in
theorem r_U_keyAtHand_23 : Wp L d k_U_keyAtHand 23 [l0, l1] [] σ Q ↔ Wp L d k_U_keyAtHand 2 [l0, l1] [] σ Q := wp_goto rfl
set_option maxRecDepth 4000 in
theorem r_U_keyAtHand_26 : Wp L d k_U_keyAtHand 26 [l0, l1] [] σ Q ↔ Wp L d k_U_keyAtHand 28 [l0, l1] [vI (-1000000005)] σ Q := wp_push rfl
set_option maxRecDepth 4000 in
theorem r_U_keyAtHand_28 : Wp L d k_U_keyAtHand 28 [l0, l1] [vI s0] σ Q ↔ Q (some (vI s0)) σ := wp_iret rfl
set_option maxRecDepth 4000 in
theorem ka_hit {b : Nat → Int} {n e i : Nat} {w : Int} (hn : n ≤ 96) (hen : e ≤ n) (hi : i < 4) (h : TKc b n e w σ) (hc : TXc σ) (hw : gtq b n e w = 1 ∧ gwd b (gts b n e) (gte b n e) i) (hq : Q (some (vI (i : Int))) σ) : Wp L (d + 5) k_U_keyAtHand 2 [vR 279, vI (i : Int)] [] σ Q := by
  obtain ⟨K280, N280, K281, N281⟩ := litC
  have K279 := gK_279
  have hW := sp_word (L := L) (d := d + 4) (σ := σ) i hi
  have hR := at_t (L := L) (d := d) hn hen (show i < 13 by omega) h hc hw
  rw [r_U_keyAtHand_2]
  simp (disch := first | assumption | exact gb_01 _ | omega) only [r_U_keyAtHand_0, r_U_keyAtHand_1, r_U_keyAtHand_3, r_U_keyAtHand_4, r_U_keyAtHand_7, r_U_keyAtHand_8, r_U_keyAtHand_15, r_U_keyAtHand_18, r_U_keyAtHand_19, r_U_keyAtHand_20, r_U_keyAtHand_23, r_U_keyAtHand_26, r_U_keyAtHand_28, c_U_keyAtHand_9 hW, c_U_keyAtHand_12 hR, Option.toList, List.singleton_append, List.cons_append, List.nil_append, List.append_nil, w32_gb, w32i, tn_add, tn_mul, Int.toNat_natCast, Int.toNat_zero, Int.reduceLE, Int.reduceLT, Int.reduceEq, Int.reduceNe, gb_T, gb_F, Int.reduceToNat, eq_self, true_or, or_true, and_true, true_and, and_self, ↓ite_gb0, ↓ite_gbn, ↓if_pos, ↓if_neg, if_true, if_false, not_true_eq_false, not_false_eq_true, gb_ne0, gb_eq0]
  exact hq
set_option maxRecDepth 4000 in
theorem ka_miss {b : Nat → Int} {n e i : Nat} {w : Int} (hn : n ≤ 96) (hen : e ≤ n) (hi : i < 4) (h : TKc b n e w σ) (hc : TXc σ) (hw : ¬(gtq b n e w = 1 ∧ gwd b (gts b n e) (gte b n e) i)) (hq : Wp L (d + 5) k_U_keyAtHand 2 [vR 279, vI ((i + 1 : Nat) : Int)] [] σ Q) : Wp L (d + 5) k_U_keyAtHand 2 [vR 279, vI (i : Int)] [] σ Q := by
  obtain ⟨K280, N280, K281, N281⟩ := litC
  have K279 := gK_279
  have hW := sp_word (L := L) (d := d + 4) (σ := σ) i hi
  have hR := at_f (L := L) (d := d) hn hen (show i < 13 by omega) h hc hw
  rw [r_U_keyAtHand_2]
  simp (disch := first | assumption | exact gb_01 _ | omega) only [r_U_keyAtHand_0, r_U_keyAtHand_1, r_U_keyAtHand_3, r_U_keyAtHand_4, r_U_keyAtHand_7, r_U_keyAtHand_8, r_U_keyAtHand_15, r_U_keyAtHand_18, r_U_keyAtHand_19, r_U_keyAtHand_20, r_U_keyAtHand_23, r_U_keyAtHand_26, r_U_keyAtHand_28, c_U_keyAtHand_9 hW, c_U_keyAtHand_12 hR, Option.toList, List.singleton_append, List.cons_append, List.nil_append, List.append_nil, w32_gb, w32i, tn_add, tn_mul, Int.toNat_natCast, Int.toNat_zero, Int.reduceLE, Int.reduceLT, Int.reduceEq, Int.reduceNe, gb_T, gb_F, Int.reduceToNat, eq_self, true_or, or_true, and_true, true_and, and_self, ↓ite_gb0, ↓ite_gbn, ↓if_pos, ↓if_neg, if_true, if_false, not_true_eq_false, not_false_eq_true, gb_ne0, gb_eq0]
  exact hq
set_option maxRecDepth 4000 in
theorem ka_end (hq : Q (some (vI (-1000000005))) σ) : Wp L (d + 5) k_U_keyAtHand 2 [vR 279, vI ((4 : Nat) : Int)] [] σ Q := by
  rw [show ((4 : Nat) : Int) = 4 from rfl, r_U_keyAtHand_2]
  simp (disch := first | assumption | exact gb_01 _ | omega) only [r_U_keyAtHand_0, r_U_keyAtHand_1, r_U_keyAtHand_3, r_U_keyAtHand_4, r_U_keyAtHand_7, r_U_keyAtHand_8, r_U_keyAtHand_15, r_U_keyAtHand_18, r_U_keyAtHand_19, r_U_keyAtHand_20, r_U_keyAtHand_23, r_U_keyAtHand_26, r_U_keyAtHand_28, w32_gb, w32i, tn_add, tn_mul, Int.toNat_natCast, Int.toNat_zero, Int.reduceLE, Int.reduceLT, Int.reduceEq, Int.reduceNe, gb_T, gb_F, Int.reduceToNat, eq_self, true_or, or_true, and_true, true_and, and_self, ↓ite_gb0, ↓ite_gbn, ↓if_pos, ↓if_neg, if_true, if_false, not_true_eq_false, not_false_eq_true, gb_ne0, gb_eq0]
  exact hq
set_option maxRecDepth 4000 in
theorem ka_in (hq : Wp L (d + 5) k_U_keyAtHand 2 [vR 279, vI ((0 : Nat) : Int)] [] σ (fun r' σ' => r' = r ∧ σ' = σ)) : Run L (d + 5) 159 [vR 279] σ r σ := by
  refine Run_of (C' := k_U_keyAtHand) rfl ?_
  show Wp L (d + 5) k_U_keyAtHand 0 [vR 279, vU] [] σ _
  simp (disch := first | assumption | exact gb_01 _ | omega) only [r_U_keyAtHand_0, r_U_keyAtHand_1, r_U_keyAtHand_3, r_U_keyAtHand_4, r_U_keyAtHand_7, r_U_keyAtHand_8, r_U_keyAtHand_15, r_U_keyAtHand_18, r_U_keyAtHand_19, r_U_keyAtHand_20, r_U_keyAtHand_23, r_U_keyAtHand_26, r_U_keyAtHand_28, w32_gb, w32i, tn_add, tn_mul, Int.toNat_natCast, Int.toNat_zero, Int.reduceLE, Int.reduceLT, Int.reduceEq, Int.reduceNe, gb_T, gb_F, Int.reduceToNat, eq_self, true_or, or_true, and_true, true_and, and_self, ↓ite_gb0, ↓ite_gbn, ↓if_pos, ↓if_neg, if_true, if_false, not_true_eq_false, not_false_eq_true, gb_ne0, gb_eq0]
  exact hq
set_option maxRecDepth 4000 in
theorem r_M_isWordAt_0 : Wp L d k_M_isWordAt 0 [vR b0, l1, l2, l3, l4] [] σ Q ↔ Wp L d k_M_isWordAt 1 [vR b0, l1, l2, l3, l4] [vR b0] σ Q := wp_aload rfl rfl
set_option maxRecDepth 4000 in
theorem r_M_isWordAt_1 (h : gK c0 = 12) : Wp L d k_M_isWordAt 1 [l0, l1, l2, l3, l4] [vR c0] σ Q ↔ Wp L d k_M_isWordAt 4 [l0, l1, l2, l3, l4] [vI (σ c0 12)] σ Q := wp_getI (c := 3084) rfl rfl rfl rfl h
set_option maxRecDepth 4000 in
theorem r_M_isWordAt_4 : Wp L d k_M_isWordAt 4 [l0, l1, l2, l3, l4] [vI s0] σ Q ↔ Wp L d k_M_isWordAt 5 [l0, l1, l2, l3, l4] [vI 1, vI s0] σ Q := wp_push rfl
set_option maxRecDepth 4000 in
theorem r_M_isWordAt_5 : Wp L d k_M_isWordAt 5 [l0, l1, l2, l3, l4] [vI s1, vI s0] σ Q ↔ (if s0 ≠ s1 then Wp L d k_M_isWordAt 84 [l0, l1, l2, l3, l4] [] σ Q else Wp L d k_M_isWordAt 8 [l0, l1, l2, l3, l4] [] σ Q) := wp_cmp_ne rfl
set_option maxRecDepth 4000 in
theorem r_M_isWordAt_8 : Wp L d k_M_isWordAt 8 [vR b0, l1, l2, l3, l4] [] σ Q ↔ Wp L d k_M_isWordAt 9 [vR b0, l1, l2, l3, l4] [vR b0] σ Q := wp_aload rfl rfl
set_option maxRecDepth 4000 in
theorem r_M_isWordAt_9 (h : gK c0 = 12) : Wp L d k_M_isWordAt 9 [l0, l1, l2, l3, l4] [vR c0] σ Q ↔ Wp L d k_M_isWordAt 12 [l0, l1, l2, l3, l4] [vI (σ c0 11)] σ Q := wp_getI (c := 3083) rfl rfl rfl rfl h
set_option maxRecDepth 4000 in
theorem r_M_isWordAt_12 : Wp L d k_M_isWordAt 12 [vR b0, l1, l2, l3, l4] [vI s0] σ Q ↔ Wp L d k_M_isWordAt 13 [vR b0, l1, l2, l3, l4] [vR b0, vI s0] σ Q := wp_aload rfl rfl
set_option maxRecDepth 4000 in
theorem r_M_isWordAt_13 (h : gK c1 = 12) : Wp L d k_M_isWordAt 13 [l0, l1, l2, l3, l4] [vR c1, vI s0] σ Q ↔ Wp L d k_M_isWordAt 16 [l0, l1, l2, l3, l4] [vI (σ c1 10), vI s0] σ Q := wp_getI (c := 3082) rfl rfl rfl rfl h
set_option maxRecDepth 4000 in
theorem r_M_isWordAt_16 : Wp L d k_M_isWordAt 16 [l0, l1, l2, l3, l4] [vI s1, vI s0] σ Q ↔ Wp L d k_M_isWordAt 17 [l0, l1, l2, l3, l4] [vI (w32 (s0 - s1))] σ Q := wp_isub rfl
set_option maxRecDepth 4000 in
theorem r_M_isWordAt_17 : Wp L d k_M_isWordAt 17 [l0, l1, l2, l3, l4] [vI s0] σ Q ↔ Wp L d k_M_isWordAt 18 [l0, l1, l2, l3, l4] [vI 4, vI s0] σ Q := wp_push rfl
set_option maxRecDepth 4000 in
theorem r_M_isWordAt_18 : Wp L d k_M_isWordAt 18 [l0, l1, l2, l3, l4] [vI s1, vI s0] σ Q ↔ (if s0 ≠ s1 then Wp L d k_M_isWordAt 84 [l0, l1, l2, l3, l4] [] σ Q else Wp L d k_M_isWordAt 21 [l0, l1, l2, l3, l4] [] σ Q) := wp_cmp_ne rfl
set_option maxRecDepth 4000 in
theorem r_M_isWordAt_21 : Wp L d k_M_isWordAt 21 [vR b0, l1, l2, l3, l4] [] σ Q ↔ Wp L d k_M_isWordAt 22 [vR b0, l1, l2, l3, l4] [vR b0] σ Q := wp_aload rfl rfl
set_option maxRecDepth 4000 in
theorem r_M_isWordAt_22 (h : gK c0 = 12) : Wp L d k_M_isWordAt 22 [l0, l1, l2, l3, l4] [vR c0] σ Q ↔ Wp L d k_M_isWordAt 25 [l0, l1, l2, l3, l4] [vR (gq c0 8)] σ Q := wp_getR (c := 3208) rfl rfl rfl rfl rfl h
set_option maxRecDepth 4000 in
theorem r_M_isWordAt_25 : Wp L d k_M_isWordAt 25 [vR b0, l1, l2, l3, l4] [vR c0] σ Q ↔ Wp L d k_M_isWordAt 26 [vR b0, l1, l2, l3, l4] [vR b0, vR c0] σ Q := wp_aload rfl rfl
set_option maxRecDepth 4000 in
theorem r_M_isWordAt_26 (h : gK c1 = 12) : Wp L d k_M_isWordAt 26 [l0, l1, l2, l3, l4] [vR c1, vR c0] σ Q ↔ Wp L d k_M_isWordAt 29 [l0, l1, l2, l3, l4] [vI (σ c1 10), vR c0] σ Q := wp_getI (c := 3082) rfl rfl rfl rfl h
set_option maxRecDepth 4000 in
theorem r_M_isWordAt_29 (h : gK c0 = 100) (hx : 0 ≤ s1 ∧ s1 < gN c0) : Wp L d k_M_isWordAt 29 [l0, l1, l2, l3, l4] [vI s1, vR c0] σ Q ↔ Wp L d k_M_isWordAt 30 [l0, l1, l2, l3, l4] [vI (σ c0 s1.toNat)] σ Q := wp_iald rfl h hx
set_option maxRecDepth 4000 in
theorem r_M_isWordAt_30 : Wp L d k_M_isWordAt 30 [l0, vI a1, l2, l3, l4] [vI s0] σ Q ↔ Wp L d k_M_isWordAt 31 [l0, vI a1, l2, l3, l4] [vI a1, vI s0] σ Q := wp_iload rfl rfl
set_option maxRecDepth 4000 in
theorem r_M_isWordAt_31 : Wp L d k_M_isWordAt 31 [l0, l1, l2, l3, l4] [vI s1, vI s0] σ Q ↔ (if s0 ≠ s1 then Wp L d k_M_isWordAt 84 [l0, l1, l2, l3, l4] [] σ Q else Wp L d k_M_isWordAt 34 [l0, l1, l2, l3, l4] [] σ Q) := wp_cmp_ne rfl
set_option maxRecDepth 4000 in
theorem r_M_isWordAt_34 : Wp L d k_M_isWordAt 34 [vR b0, l1, l2, l3, l4] [] σ Q ↔ Wp L d k_M_isWordAt 35 [vR b0, l1, l2, l3, l4] [vR b0] σ Q := wp_aload rfl rfl
set_option maxRecDepth 4000 in
theorem r_M_isWordAt_35 (h : gK c0 = 12) : Wp L d k_M_isWordAt 35 [l0, l1, l2, l3, l4] [vR c0] σ Q ↔ Wp L d k_M_isWordAt 38 [l0, l1, l2, l3, l4] [vR (gq c0 8)] σ Q := wp_getR (c := 3208) rfl rfl rfl rfl rfl h
set_option maxRecDepth 4000 in
theorem r_M_isWordAt_38 : Wp L d k_M_isWordAt 38 [vR b0, l1, l2, l3, l4] [vR c0] σ Q ↔ Wp L d k_M_isWordAt 39 [vR b0, l1, l2, l3, l4] [vR b0, vR c0] σ Q := wp_aload rfl rfl
set_option maxRecDepth 4000 in
theorem r_M_isWordAt_39 (h : gK c1 = 12) : Wp L d k_M_isWordAt 39 [l0, l1, l2, l3, l4] [vR c1, vR c0] σ Q ↔ Wp L d k_M_isWordAt 42 [l0, l1, l2, l3, l4] [vI (σ c1 10), vR c0] σ Q := wp_getI (c := 3082) rfl rfl rfl rfl h
set_option maxRecDepth 4000 in
theorem r_M_isWordAt_42 : Wp L d k_M_isWordAt 42 [l0, l1, l2, l3, l4] [vI s1, vR c0] σ Q ↔ Wp L d k_M_isWordAt 43 [l0, l1, l2, l3, l4] [vI 1, vI s1, vR c0] σ Q := wp_push rfl
set_option maxRecDepth 4000 in
theorem r_M_isWordAt_43 : Wp L d k_M_isWordAt 43 [l0, l1, l2, l3, l4] [vI s2, vI s1, vR c0] σ Q ↔ Wp L d k_M_isWordAt 44 [l0, l1, l2, l3, l4] [vI (w32 (s1 + s2)), vR c0] σ Q := wp_iadd rfl
set_option maxRecDepth 4000 in
theorem r_M_isWordAt_44 (h : gK c0 = 100) (hx : 0 ≤ s1 ∧ s1 < gN c0) : Wp L d k_M_isWordAt 44 [l0, l1, l2, l3, l4] [vI s1, vR c0] σ Q ↔ Wp L d k_M_isWordAt 45 [l0, l1, l2, l3, l4] [vI (σ c0 s1.toNat)] σ Q := wp_iald rfl h hx
set_option maxRecDepth 4000 in
theorem r_M_isWordAt_45 : Wp L d k_M_isWordAt 45 [l0, l1, vI a2, l3, l4] [vI s0] σ Q ↔ Wp L d k_M_isWordAt 46 [l0, l1, vI a2, l3, l4] [vI a2, vI s0] σ Q := wp_iload rfl rfl
set_option maxRecDepth 4000 in
theorem r_M_isWordAt_46 : Wp L d k_M_isWordAt 46 [l0, l1, l2, l3, l4] [vI s1, vI s0] σ Q ↔ (if s0 ≠ s1 then Wp L d k_M_isWordAt 84 [l0, l1, l2, l3, l4] [] σ Q else Wp L d k_M_isWordAt 49 [l0, l1, l2, l3, l4] [] σ Q) := wp_cmp_ne rfl
set_option maxRecDepth 4000 in
theorem r_M_isWordAt_49 : Wp L d k_M_isWordAt 49 [vR b0, l1, l2, l3, l4] [] σ Q ↔ Wp L d k_M_isWordAt 50 [vR b0, l1, l2, l3, l4] [vR b0] σ Q := wp_aload rfl rfl
set_option maxRecDepth 4000 in
theorem r_M_isWordAt_50 (h : gK c0 = 12) : Wp L d k_M_isWordAt 50 [l0, l1, l2, l3, l4] [vR c0] σ Q ↔ Wp L d k_M_isWordAt 53 [l0, l1, l2, l3, l4] [vR (gq c0 8)] σ Q := wp_getR (c := 3208) rfl rfl rfl rfl rfl h
set_option maxRecDepth 4000 in
theorem r_M_isWordAt_53 : Wp L d k_M_isWordAt 53 [vR b0, l1, l2, l3, l4] [vR c0] σ Q ↔ Wp L d k_M_isWordAt 54 [vR b0, l1, l2, l3, l4] [vR b0, vR c0] σ Q := wp_aload rfl rfl
set_option maxRecDepth 4000 in
theorem r_M_isWordAt_54 (h : gK c1 = 12) : Wp L d k_M_isWordAt 54 [l0, l1, l2, l3, l4] [vR c1, vR c0] σ Q ↔ Wp L d k_M_isWordAt 57 [l0, l1, l2, l3, l4] [vI (σ c1 10), vR c0] σ Q := wp_getI (c := 3082) rfl rfl rfl rfl h
set_option maxRecDepth 4000 in
theorem r_M_isWordAt_57 : Wp L d k_M_isWordAt 57 [l0, l1, l2, l3, l4] [vI s1, vR c0] σ Q ↔ Wp L d k_M_isWordAt 58 [l0, l1, l2, l3, l4] [vI 2, vI s1, vR c0] σ Q := wp_push rfl
set_option maxRecDepth 4000 in
theorem r_M_isWordAt_58 : Wp L d k_M_isWordAt 58 [l0, l1, l2, l3, l4] [vI s2, vI s1, vR c0] σ Q ↔ Wp L d k_M_isWordAt 59 [l0, l1, l2, l3, l4] [vI (w32 (s1 + s2)), vR c0] σ Q := wp_iadd rfl
set_option maxRecDepth 4000 in
theorem r_M_isWordAt_59 (h : gK c0 = 100) (hx : 0 ≤ s1 ∧ s1 < gN c0) : Wp L d k_M_isWordAt 59 [l0, l1, l2, l3, l4] [vI s1, vR c0] σ Q ↔ Wp L d k_M_isWordAt 60 [l0, l1, l2, l3, l4] [vI (σ c0 s1.toNat)] σ Q := wp_iald rfl h hx
set_option maxRecDepth 4000 in
theorem r_M_isWordAt_60 : Wp L d k_M_isWordAt 60 [l0, l1, l2, vI a3, l4] [vI s0] σ Q ↔ Wp L d k_M_isWordAt 61 [l0, l1, l2, vI a3, l4] [vI a3, vI s0] σ Q := wp_iload rfl rfl
set_option maxRecDepth 4000 in
theorem r_M_isWordAt_61 : Wp L d k_M_isWordAt 61 [l0, l1, l2, l3, l4] [vI s1, vI s0] σ Q ↔ (if s0 ≠ s1 then Wp L d k_M_isWordAt 84 [l0, l1, l2, l3, l4] [] σ Q else Wp L d k_M_isWordAt 64 [l0, l1, l2, l3, l4] [] σ Q) := wp_cmp_ne rfl
set_option maxRecDepth 4000 in
theorem r_M_isWordAt_64 : Wp L d k_M_isWordAt 64 [vR b0, l1, l2, l3, l4] [] σ Q ↔ Wp L d k_M_isWordAt 65 [vR b0, l1, l2, l3, l4] [vR b0] σ Q := wp_aload rfl rfl
set_option maxRecDepth 4000 in
theorem r_M_isWordAt_65 (h : gK c0 = 12) : Wp L d k_M_isWordAt 65 [l0, l1, l2, l3, l4] [vR c0] σ Q ↔ Wp L d k_M_isWordAt 68 [l0, l1, l2, l3, l4] [vR (gq c0 8)] σ Q := wp_getR (c := 3208) rfl rfl rfl rfl rfl h
set_option maxRecDepth 4000 in
theorem r_M_isWordAt_68 : Wp L d k_M_isWordAt 68 [vR b0, l1, l2, l3, l4] [vR c0] σ Q ↔ Wp L d k_M_isWordAt 69 [vR b0, l1, l2, l3, l4] [vR b0, vR c0] σ Q := wp_aload rfl rfl
set_option maxRecDepth 4000 in
theorem r_M_isWordAt_69 (h : gK c1 = 12) : Wp L d k_M_isWordAt 69 [l0, l1, l2, l3, l4] [vR c1, vR c0] σ Q ↔ Wp L d k_M_isWordAt 72 [l0, l1, l2, l3, l4] [vI (σ c1 10), vR c0] σ Q := wp_getI (c := 3082) rfl rfl rfl rfl h
set_option maxRecDepth 4000 in
theorem r_M_isWordAt_72 : Wp L d k_M_isWordAt 72 [l0, l1, l2, l3, l4] [vI s1, vR c0] σ Q ↔ Wp L d k_M_isWordAt 73 [l0, l1, l2, l3, l4] [vI 3, vI s1, vR c0] σ Q := wp_push rfl
set_option maxRecDepth 4000 in
theorem r_M_isWordAt_73 : Wp L d k_M_isWordAt 73 [l0, l1, l2, l3, l4] [vI s2, vI s1, vR c0] σ Q ↔ Wp L d k_M_isWordAt 74 [l0, l1, l2, l3, l4] [vI (w32 (s1 + s2)), vR c0] σ Q := wp_iadd rfl
set_option maxRecDepth 4000 in
theorem r_M_isWordAt_74 (h : gK c0 = 100) (hx : 0 ≤ s1 ∧ s1 < gN c0) : Wp L d k_M_isWordAt 74 [l0, l1, l2, l3, l4] [vI s1, vR c0] σ Q ↔ Wp L d k_M_isWordAt 75 [l0, l1, l2, l3, l4] [vI (σ c0 s1.toNat)] σ Q := wp_iald rfl h hx
set_option maxRecDepth 4000 in
theorem r_M_isWordAt_75 : Wp L d k_M_isWordAt 75 [l0, l1, l2, l3, vI a4] [vI s0] σ Q ↔ Wp L d k_M_isWordAt 77 [l0, l1, l2, l3, vI a4] [vI a4, vI s0] σ Q := wp_iload rfl rfl
set_option maxRecDepth 4000 in
theorem r_M_isWordAt_77 : Wp L d k_M_isWordAt 77 [l0, l1, l2, l3, l4] [vI s1, vI s0] σ Q ↔ (if s0 ≠ s1 then Wp L d k_M_isWordAt 84 [l0, l1, l2, l3, l4] [] σ Q else Wp L d k_M_isWordAt 80 [l0, l1, l2, l3, l4] [] σ Q) := wp_cmp_ne rfl
set_option maxRecDepth 4000 in
theorem r_M_isWordAt_80 : Wp L d k_M_isWordAt 80 [l0, l1, l2, l3, l4] [] σ Q ↔ Wp L d k_M_isWordAt 81 [l0, l1, l2, l3, l4] [vI 1] σ Q := wp_push rfl
set_option maxRecDepth 4000 in
theorem r_M_isWordAt_81 : Wp L d k_M_isWordAt 81 [l0, l1, l2, l3, l4] [vI s0] σ Q ↔ Wp L d k_M_isWordAt 85 [l0, l1, l2, l3, l4] [vI s0] σ Q := wp_goto rfl
set_option maxRecDepth 4000 in
theorem r_M_isWordAt_84 : Wp L d k_M_isWordAt 84 [l0, l1, l2, l3, l4] [] σ Q ↔ Wp L d k_M_isWordAt 85 [l0, l1, l2, l3, l4] [vI 0] σ Q := wp_push rfl
set_option maxRecDepth 4000 in
theorem r_M_isWordAt_85 (h : s0 = 0 ∨ s0 = 1) : Wp L d k_M_isWordAt 85 [l0, l1, l2, l3, l4] [vI s0] σ Q ↔ Q (some (vI s0)) σ := wp_zret rfl h
set_option maxRecDepth 4000 in
theorem wd_t {b : Nat → Int} {n e : Nat} {w : Int} (hn : n ≤ 96) (hen : e ≤ n) (h : TKr b n e w σ) (hw : gtq b n e w = 1 ∧ gte b n e = gts b n e + 4 ∧ b (gts b n e + 0) = a1 ∧ b (gts b n e + 1) = a2 ∧ b (gts b n e + 2) = a3 ∧ b (gts b n e + 3) = a4) : Run L d 245 [vR 293, vI a1, vI a2, vI a3, vI a4] σ (some (vI 1)) σ := by
  refine Run_of (C' := k_M_isWordAt) rfl ?_
  show Wp L d k_M_isWordAt 0 [vR 293, vI a1, vI a2, vI a3, vI a4] [] σ _
  obtain ⟨K293, Q293, K294, N294⟩ := litM
  obtain ⟨K301, N301, n8⟩ := litB
  obtain ⟨t1, t2, t3, t4, t5, -⟩ := h
  have tm := tm_c b n e w
  have sb := gts_bd (b := b) hen
  have tb := gte_bd (b := b) hen
  have ej : ∀ j : Nat, (((gts b n e : Nat) : Int) + (j : Int)).toNat = gts b n e + j := fun j => by omega
  have ej1 : (((gts b n e : Nat) : Int) + 1).toNat = gts b n e + 1 := by omega
  have ej2 : (((gts b n e : Nat) : Int) + 2).toNat = gts b n e + 2 := by omega
  have ej3 : (((gts b n e : Nat) : Int) + 3).toNat = gts b n e + 3 := by omega
  have gm : gtm b n e w = 1 := by omega
  have q2 := hw.2.1
  have e0 := t2 (gts b n e + 0) (by omega)
  have e1 := t2 (gts b n e + 1) (by omega)
  have e2 := t2 (gts b n e + 2) (by omega)
  have e3 := t2 (gts b n e + 3) (by omega)
  rw [Nat.add_zero] at e0
  obtain ⟨w1, w2, v0, v1, v2, v3⟩ := hw
  rw [Nat.add_zero] at v0
  simp (disch := first | assumption | exact gb_01 _ | omega) only [r_M_isWordAt_0, r_M_isWordAt_1, r_M_isWordAt_4, r_M_isWordAt_5, r_M_isWordAt_8, r_M_isWordAt_9, r_M_isWordAt_12, r_M_isWordAt_13, r_M_isWordAt_16, r_M_isWordAt_17, r_M_isWordAt_18, r_M_isWordAt_21, r_M_isWordAt_22, r_M_isWordAt_25, r_M_isWordAt_26, r_M_isWordAt_29, r_M_isWordAt_30, r_M_isWordAt_31, r_M_isWordAt_34, r_M_isWordAt_35, r_M_isWordAt_38, r_M_isWordAt_39, r_M_isWordAt_42, r_M_isWordAt_43, r_M_isWordAt_44, r_M_isWordAt_45, r_M_isWordAt_46, r_M_isWordAt_49, r_M_isWordAt_50, r_M_isWordAt_53, r_M_isWordAt_54, r_M_isWordAt_57, r_M_isWordAt_58, r_M_isWordAt_59, r_M_isWordAt_60, r_M_isWordAt_61, r_M_isWordAt_64, r_M_isWordAt_65, r_M_isWordAt_68, r_M_isWordAt_69, r_M_isWordAt_72, r_M_isWordAt_73, r_M_isWordAt_74, r_M_isWordAt_75, r_M_isWordAt_77, r_M_isWordAt_80, r_M_isWordAt_81, r_M_isWordAt_84, r_M_isWordAt_85, Q293, n8, t3, t4, t5, ej1, ej2, ej3, gm, e0, e1, e2, e3, w32_gb, w32i, tn_add, tn_mul, Int.toNat_natCast, Int.toNat_zero, Int.reduceLE, Int.reduceLT, Int.reduceEq, Int.reduceNe, gb_T, gb_F, Int.reduceToNat, eq_self, true_or, or_true, and_true, true_and, and_self, ↓ite_gb0, ↓ite_gbn, ↓if_pos, ↓if_neg, if_true, if_false, not_true_eq_false, not_false_eq_true, gb_ne0, gb_eq0]
set_option maxRecDepth 4000 in
theorem wd_f {b : Nat → Int} {n e : Nat} {w : Int} (hn : n ≤ 96) (hen : e ≤ n) (h : TKr b n e w σ) (hw : ¬(gtq b n e w = 1 ∧ gte b n e = gts b n e + 4 ∧ b (gts b n e + 0) = a1 ∧ b (gts b n e + 1) = a2 ∧ b (gts b n e + 2) = a3 ∧ b (gts b n e + 3) = a4)) : Run L d 245 [vR 293, vI a1, vI a2, vI a3, vI a4] σ (some (vI 0)) σ := by
  refine Run_of (C' := k_M_isWordAt) rfl ?_
  show Wp L d k_M_isWordAt 0 [vR 293, vI a1, vI a2, vI a3, vI a4] [] σ _
  obtain ⟨K293, Q293, K294, N294⟩ := litM
  obtain ⟨K301, N301, n8⟩ := litB
  obtain ⟨t1, t2, t3, t4, t5, -⟩ := h
  have tm := tm_c b n e w
  have sb := gts_bd (b := b) hen
  have tb := gte_bd (b := b) hen
  have ej : ∀ j : Nat, (((gts b n e : Nat) : Int) + (j : Int)).toNat = gts b n e + j := fun j => by omega
  have ej1 : (((gts b n e : Nat) : Int) + 1).toNat = gts b n e + 1 := by omega
  have ej2 : (((gts b n e : Nat) : Int) + 2).toNat = gts b n e + 2 := by omega
  have ej3 : (((gts b n e : Nat) : Int) + 3).toNat = gts b n e + 3 := by omega
  by_cases q1 : gtq b n e w = 1
  · have gm : gtm b n e w = 1 := by omega
    by_cases q2 : gte b n e = gts b n e + 4
    · have e0 := t2 (gts b n e + 0) (by omega)
      have e1 := t2 (gts b n e + 1) (by omega)
      have e2 := t2 (gts b n e + 2) (by omega)
      have e3 := t2 (gts b n e + 3) (by omega)
      rw [Nat.add_zero] at e0
      by_cases y0 : b (gts b n e) ≠ a1
      · simp (disch := first | assumption | exact gb_01 _ | omega) only [r_M_isWordAt_0, r_M_isWordAt_1, r_M_isWordAt_4, r_M_isWordAt_5, r_M_isWordAt_8, r_M_isWordAt_9, r_M_isWordAt_12, r_M_isWordAt_13, r_M_isWordAt_16, r_M_isWordAt_17, r_M_isWordAt_18, r_M_isWordAt_21, r_M_isWordAt_22, r_M_isWordAt_25, r_M_isWordAt_26, r_M_isWordAt_29, r_M_isWordAt_30, r_M_isWordAt_31, r_M_isWordAt_34, r_M_isWordAt_35, r_M_isWordAt_38, r_M_isWordAt_39, r_M_isWordAt_42, r_M_isWordAt_43, r_M_isWordAt_44, r_M_isWordAt_45, r_M_isWordAt_46, r_M_isWordAt_49, r_M_isWordAt_50, r_M_isWordAt_53, r_M_isWordAt_54, r_M_isWordAt_57, r_M_isWordAt_58, r_M_isWordAt_59, r_M_isWordAt_60, r_M_isWordAt_61, r_M_isWordAt_64, r_M_isWordAt_65, r_M_isWordAt_68, r_M_isWordAt_69, r_M_isWordAt_72, r_M_isWordAt_73, r_M_isWordAt_74, r_M_isWordAt_75, r_M_isWordAt_77, r_M_isWordAt_80, r_M_isWordAt_81, r_M_isWordAt_84, r_M_isWordAt_85, Q293, n8, t3, t4, t5, ej1, ej2, ej3, gm, e0, w32_gb, w32i, tn_add, tn_mul, Int.toNat_natCast, Int.toNat_zero, Int.reduceLE, Int.reduceLT, Int.reduceEq, Int.reduceNe, gb_T, gb_F, Int.reduceToNat, eq_self, true_or, or_true, and_true, true_and, and_self, ↓ite_gb0, ↓ite_gbn, ↓if_pos, ↓if_neg, if_true, if_false, not_true_eq_false, not_false_eq_true, gb_ne0, gb_eq0]
      have v0 := Decidable.not_not.1 y0
      by_cases y1 : b (gts b n e + 1) ≠ a2
      · simp (disch := first | assumption | exact gb_01 _ | omega) only [r_M_isWordAt_0, r_M_isWordAt_1, r_M_isWordAt_4, r_M_isWordAt_5, r_M_isWordAt_8, r_M_isWordAt_9, r_M_isWordAt_12, r_M_isWordAt_13, r_M_isWordAt_16, r_M_isWordAt_17, r_M_isWordAt_18, r_M_isWordAt_21, r_M_isWordAt_22, r_M_isWordAt_25, r_M_isWordAt_26, r_M_isWordAt_29, r_M_isWordAt_30, r_M_isWordAt_31, r_M_isWordAt_34, r_M_isWordAt_35, r_M_isWordAt_38, r_M_isWordAt_39, r_M_isWordAt_42, r_M_isWordAt_43, r_M_isWordAt_44, r_M_isWordAt_45, r_M_isWordAt_46, r_M_isWordAt_49, r_M_isWordAt_50, r_M_isWordAt_53, r_M_isWordAt_54, r_M_isWordAt_57, r_M_isWordAt_58, r_M_isWordAt_59, r_M_isWordAt_60, r_M_isWordAt_61, r_M_isWordAt_64, r_M_isWordAt_65, r_M_isWordAt_68, r_M_isWordAt_69, r_M_isWordAt_72, r_M_isWordAt_73, r_M_isWordAt_74, r_M_isWordAt_75, r_M_isWordAt_77, r_M_isWordAt_80, r_M_isWordAt_81, r_M_isWordAt_84, r_M_isWordAt_85, Q293, n8, t3, t4, t5, ej1, ej2, ej3, gm, e0, e1, w32_gb, w32i, tn_add, tn_mul, Int.toNat_natCast, Int.toNat_zero, Int.reduceLE, Int.reduceLT, Int.reduceEq, Int.reduceNe, gb_T, gb_F, Int.reduceToNat, eq_self, true_or, or_true, and_true, true_and, and_self, ↓ite_gb0, ↓ite_gbn, ↓if_pos, ↓if_neg, if_true, if_false, not_true_eq_false, not_false_eq_true, gb_ne0, gb_eq0]
      have v1 := Decidable.not_not.1 y1
      by_cases y2 : b (gts b n e + 2) ≠ a3
      · simp (disch := first | assumption | exact gb_01 _ | omega) only [r_M_isWordAt_0, r_M_isWordAt_1, r_M_isWordAt_4, r_M_isWordAt_5, r_M_isWordAt_8, r_M_isWordAt_9, r_M_isWordAt_12, r_M_isWordAt_13, r_M_isWordAt_16, r_M_isWordAt_17, r_M_isWordAt_18, r_M_isWordAt_21, r_M_isWordAt_22, r_M_isWordAt_25, r_M_isWordAt_26, r_M_isWordAt_29, r_M_isWordAt_30, r_M_isWordAt_31, r_M_isWordAt_34, r_M_isWordAt_35, r_M_isWordAt_38, r_M_isWordAt_39, r_M_isWordAt_42, r_M_isWordAt_43, r_M_isWordAt_44, r_M_isWordAt_45, r_M_isWordAt_46, r_M_isWordAt_49, r_M_isWordAt_50, r_M_isWordAt_53, r_M_isWordAt_54, r_M_isWordAt_57, r_M_isWordAt_58, r_M_isWordAt_59, r_M_isWordAt_60, r_M_isWordAt_61, r_M_isWordAt_64, r_M_isWordAt_65, r_M_isWordAt_68, r_M_isWordAt_69, r_M_isWordAt_72, r_M_isWordAt_73, r_M_isWordAt_74, r_M_isWordAt_75, r_M_isWordAt_77, r_M_isWordAt_80, r_M_isWordAt_81, r_M_isWordAt_84, r_M_isWordAt_85, Q293, n8, t3, t4, t5, ej1, ej2, ej3, gm, e0, e1, e2, w32_gb, w32i, tn_add, tn_mul, Int.toNat_natCast, Int.toNat_zero, Int.reduceLE, Int.reduceLT, Int.reduceEq, Int.reduceNe, gb_T, gb_F, Int.reduceToNat, eq_self, true_or, or_true, and_true, true_and, and_self, ↓ite_gb0, ↓ite_gbn, ↓if_pos, ↓if_neg, if_true, if_false, not_true_eq_false, not_false_eq_true, gb_ne0, gb_eq0]
      have v2 := Decidable.not_not.1 y2
      by_cases y3 : b (gts b n e + 3) ≠ a4
      · simp (disch := first | assumption | exact gb_01 _ | omega) only [r_M_isWordAt_0, r_M_isWordAt_1, r_M_isWordAt_4, r_M_isWordAt_5, r_M_isWordAt_8, r_M_isWordAt_9, r_M_isWordAt_12, r_M_isWordAt_13, r_M_isWordAt_16, r_M_isWordAt_17, r_M_isWordAt_18, r_M_isWordAt_21, r_M_isWordAt_22, r_M_isWordAt_25, r_M_isWordAt_26, r_M_isWordAt_29, r_M_isWordAt_30, r_M_isWordAt_31, r_M_isWordAt_34, r_M_isWordAt_35, r_M_isWordAt_38, r_M_isWordAt_39, r_M_isWordAt_42, r_M_isWordAt_43, r_M_isWordAt_44, r_M_isWordAt_45, r_M_isWordAt_46, r_M_isWordAt_49, r_M_isWordAt_50, r_M_isWordAt_53, r_M_isWordAt_54, r_M_isWordAt_57, r_M_isWordAt_58, r_M_isWordAt_59, r_M_isWordAt_60, r_M_isWordAt_61, r_M_isWordAt_64, r_M_isWordAt_65, r_M_isWordAt_68, r_M_isWordAt_69, r_M_isWordAt_72, r_M_isWordAt_73, r_M_isWordAt_74, r_M_isWordAt_75, r_M_isWordAt_77, r_M_isWordAt_80, r_M_isWordAt_81, r_M_isWordAt_84, r_M_isWordAt_85, Q293, n8, t3, t4, t5, ej1, ej2, ej3, gm, e0, e1, e2, e3, w32_gb, w32i, tn_add, tn_mul, Int.toNat_natCast, Int.toNat_zero, Int.reduceLE, Int.reduceLT, Int.reduceEq, Int.reduceNe, gb_T, gb_F, Int.reduceToNat, eq_self, true_or, or_true, and_true, true_and, and_self, ↓ite_gb0, ↓ite_gbn, ↓if_pos, ↓if_neg, if_true, if_false, not_true_eq_false, not_false_eq_true, gb_ne0, gb_eq0]
      have v3 := Decidable.not_not.1 y3
      exact absurd ⟨q1, q2, v0, v1, v2, v3⟩ hw
    · simp (disch := first | assumption | exact gb_01 _ | omega) only [r_M_isWordAt_0, r_M_isWordAt_1, r_M_isWordAt_4, r_M_isWordAt_5, r_M_isWordAt_8, r_M_isWordAt_9, r_M_isWordAt_12, r_M_isWordAt_13, r_M_isWordAt_16, r_M_isWordAt_17, r_M_isWordAt_18, r_M_isWordAt_21, r_M_isWordAt_22, r_M_isWordAt_25, r_M_isWordAt_26, r_M_isWordAt_29, r_M_isWordAt_30, r_M_isWordAt_31, r_M_isWordAt_34, r_M_isWordAt_35, r_M_isWordAt_38, r_M_isWordAt_39, r_M_isWordAt_42, r_M_isWordAt_43, r_M_isWordAt_44, r_M_isWordAt_45, r_M_isWordAt_46, r_M_isWordAt_49, r_M_isWordAt_50, r_M_isWordAt_53, r_M_isWordAt_54, r_M_isWordAt_57, r_M_isWordAt_58, r_M_isWordAt_59, r_M_isWordAt_60, r_M_isWordAt_61, r_M_isWordAt_64, r_M_isWordAt_65, r_M_isWordAt_68, r_M_isWordAt_69, r_M_isWordAt_72, r_M_isWordAt_73, r_M_isWordAt_74, r_M_isWordAt_75, r_M_isWordAt_77, r_M_isWordAt_80, r_M_isWordAt_81, r_M_isWordAt_84, r_M_isWordAt_85, Q293, n8, t3, t4, t5, ej1, ej2, ej3, gm, w32_gb, w32i, tn_add, tn_mul, Int.toNat_natCast, Int.toNat_zero, Int.reduceLE, Int.reduceLT, Int.reduceEq, Int.reduceNe, gb_T, gb_F, Int.reduceToNat, eq_self, true_or, or_true, and_true, true_and, and_self, ↓ite_gb0, ↓ite_gbn, ↓if_pos, ↓if_neg, if_true, if_false, not_true_eq_false, not_false_eq_true, gb_ne0, gb_eq0]
  · have gm : gtm b n e w ≠ 1 := by omega
    simp (disch := first | assumption | exact gb_01 _ | omega) only [r_M_isWordAt_0, r_M_isWordAt_1, r_M_isWordAt_4, r_M_isWordAt_5, r_M_isWordAt_8, r_M_isWordAt_9, r_M_isWordAt_12, r_M_isWordAt_13, r_M_isWordAt_16, r_M_isWordAt_17, r_M_isWordAt_18, r_M_isWordAt_21, r_M_isWordAt_22, r_M_isWordAt_25, r_M_isWordAt_26, r_M_isWordAt_29, r_M_isWordAt_30, r_M_isWordAt_31, r_M_isWordAt_34, r_M_isWordAt_35, r_M_isWordAt_38, r_M_isWordAt_39, r_M_isWordAt_42, r_M_isWordAt_43, r_M_isWordAt_44, r_M_isWordAt_45, r_M_isWordAt_46, r_M_isWordAt_49, r_M_isWordAt_50, r_M_isWordAt_53, r_M_isWordAt_54, r_M_isWordAt_57, r_M_isWordAt_58, r_M_isWordAt_59, r_M_isWordAt_60, r_M_isWordAt_61, r_M_isWordAt_64, r_M_isWordAt_65, r_M_isWordAt_68, r_M_isWordAt_69, r_M_isWordAt_72, r_M_isWordAt_73, r_M_isWordAt_74, r_M_isWordAt_75, r_M_isWordAt_77, r_M_isWordAt_80, r_M_isWordAt_81, r_M_isWordAt_84, r_M_isWordAt_85, Q293, n8, t3, t4, t5, ej1, ej2, ej3, w32_gb, w32i, tn_add, tn_mul, Int.toNat_natCast, Int.toNat_zero, Int.reduceLE, Int.reduceLT, Int.reduceEq, Int.reduceNe, gb_T, gb_F, Int.reduceToNat, eq_self, true_or, or_true, and_true, true_and, and_self, ↓ite_gb0, ↓ite_gbn, ↓if_pos, ↓if_neg, if_true, if_false, not_true_eq_false, not_false_eq_true, gb_ne0, gb_eq0]
set_option maxRecDepth 4000 in
theorem r_M_isFive_0 : Wp L d k_M_isFive 0 [vR b0, l1, l2, l3, l4, l5] [] σ Q ↔ Wp L d k_M_isFive 1 [vR b0, l1, l2, l3, l4, l5] [vR b0] σ Q := wp_aload rfl rfl
set_option maxRecDepth 4000 in
theorem r_M_isFive_1 (h : gK c0 = 12) : Wp L d k_M_isFive 1 [l0, l1, l2, l3, l4, l5] [vR c0] σ Q ↔ Wp L d k_M_isFive 4 [l0, l1, l2, l3, l4, l5] [vI (σ c0 12)] σ Q := wp_getI (c := 3084) rfl rfl rfl rfl h
set_option maxRecDepth 4000 in
theorem r_M_isFive_4 : Wp L d k_M_isFive 4 [l0, l1, l2, l3, l4, l5] [vI s0] σ Q ↔ Wp L d k_M_isFive 5 [l0, l1, l2, l3, l4, l5] [vI 1, vI s0] σ Q := wp_push rfl
set_option maxRecDepth 4000 in
theorem r_M_isFive_5 : Wp L d k_M_isFive 5 [l0, l1, l2, l3, l4, l5] [vI s1, vI s0] σ Q ↔ (if s0 ≠ s1 then Wp L d k_M_isFive 100 [l0, l1, l2, l3, l4, l5] [] σ Q else Wp L d k_M_isFive 8 [l0, l1, l2, l3, l4, l5] [] σ Q) := wp_cmp_ne rfl
set_option maxRecDepth 4000 in
theorem r_M_isFive_8 : Wp L d k_M_isFive 8 [vR b0, l1, l2, l3, l4, l5] [] σ Q ↔ Wp L d k_M_isFive 9 [vR b0, l1, l2, l3, l4, l5] [vR b0] σ Q := wp_aload rfl rfl
set_option maxRecDepth 4000 in
theorem r_M_isFive_9 (h : gK c0 = 12) : Wp L d k_M_isFive 9 [l0, l1, l2, l3, l4, l5] [vR c0] σ Q ↔ Wp L d k_M_isFive 12 [l0, l1, l2, l3, l4, l5] [vI (σ c0 11)] σ Q := wp_getI (c := 3083) rfl rfl rfl rfl h
set_option maxRecDepth 4000 in
theorem r_M_isFive_12 : Wp L d k_M_isFive 12 [vR b0, l1, l2, l3, l4, l5] [vI s0] σ Q ↔ Wp L d k_M_isFive 13 [vR b0, l1, l2, l3, l4, l5] [vR b0, vI s0] σ Q := wp_aload rfl rfl
set_option maxRecDepth 4000 in
theorem r_M_isFive_13 (h : gK c1 = 12) : Wp L d k_M_isFive 13 [l0, l1, l2, l3, l4, l5] [vR c1, vI s0] σ Q ↔ Wp L d k_M_isFive 16 [l0, l1, l2, l3, l4, l5] [vI (σ c1 10), vI s0] σ Q := wp_getI (c := 3082) rfl rfl rfl rfl h
set_option maxRecDepth 4000 in
theorem r_M_isFive_16 : Wp L d k_M_isFive 16 [l0, l1, l2, l3, l4, l5] [vI s1, vI s0] σ Q ↔ Wp L d k_M_isFive 17 [l0, l1, l2, l3, l4, l5] [vI (w32 (s0 - s1))] σ Q := wp_isub rfl
set_option maxRecDepth 4000 in
theorem r_M_isFive_17 : Wp L d k_M_isFive 17 [l0, l1, l2, l3, l4, l5] [vI s0] σ Q ↔ Wp L d k_M_isFive 18 [l0, l1, l2, l3, l4, l5] [vI 5, vI s0] σ Q := wp_push rfl
set_option maxRecDepth 4000 in
theorem r_M_isFive_18 : Wp L d k_M_isFive 18 [l0, l1, l2, l3, l4, l5] [vI s1, vI s0] σ Q ↔ (if s0 ≠ s1 then Wp L d k_M_isFive 100 [l0, l1, l2, l3, l4, l5] [] σ Q else Wp L d k_M_isFive 21 [l0, l1, l2, l3, l4, l5] [] σ Q) := wp_cmp_ne rfl
set_option maxRecDepth 4000 in
theorem r_M_isFive_21 : Wp L d k_M_isFive 21 [vR b0, l1, l2, l3, l4, l5] [] σ Q ↔ Wp L d k_M_isFive 22 [vR b0, l1, l2, l3, l4, l5] [vR b0] σ Q := wp_aload rfl rfl
set_option maxRecDepth 4000 in
theorem r_M_isFive_22 (h : gK c0 = 12) : Wp L d k_M_isFive 22 [l0, l1, l2, l3, l4, l5] [vR c0] σ Q ↔ Wp L d k_M_isFive 25 [l0, l1, l2, l3, l4, l5] [vR (gq c0 8)] σ Q := wp_getR (c := 3208) rfl rfl rfl rfl rfl h
set_option maxRecDepth 4000 in
theorem r_M_isFive_25 : Wp L d k_M_isFive 25 [vR b0, l1, l2, l3, l4, l5] [vR c0] σ Q ↔ Wp L d k_M_isFive 26 [vR b0, l1, l2, l3, l4, l5] [vR b0, vR c0] σ Q := wp_aload rfl rfl
set_option maxRecDepth 4000 in
theorem r_M_isFive_26 (h : gK c1 = 12) : Wp L d k_M_isFive 26 [l0, l1, l2, l3, l4, l5] [vR c1, vR c0] σ Q ↔ Wp L d k_M_isFive 29 [l0, l1, l2, l3, l4, l5] [vI (σ c1 10), vR c0] σ Q := wp_getI (c := 3082) rfl rfl rfl rfl h
set_option maxRecDepth 4000 in
theorem r_M_isFive_29 (h : gK c0 = 100) (hx : 0 ≤ s1 ∧ s1 < gN c0) : Wp L d k_M_isFive 29 [l0, l1, l2, l3, l4, l5] [vI s1, vR c0] σ Q ↔ Wp L d k_M_isFive 30 [l0, l1, l2, l3, l4, l5] [vI (σ c0 s1.toNat)] σ Q := wp_iald rfl h hx
set_option maxRecDepth 4000 in
theorem r_M_isFive_30 : Wp L d k_M_isFive 30 [l0, vI a1, l2, l3, l4, l5] [vI s0] σ Q ↔ Wp L d k_M_isFive 31 [l0, vI a1, l2, l3, l4, l5] [vI a1, vI s0] σ Q := wp_iload rfl rfl
set_option maxRecDepth 4000 in
theorem r_M_isFive_31 : Wp L d k_M_isFive 31 [l0, l1, l2, l3, l4, l5] [vI s1, vI s0] σ Q ↔ (if s0 ≠ s1 then Wp L d k_M_isFive 100 [l0, l1, l2, l3, l4, l5] [] σ Q else Wp L d k_M_isFive 34 [l0, l1, l2, l3, l4, l5] [] σ Q) := wp_cmp_ne rfl
set_option maxRecDepth 4000 in
theorem r_M_isFive_34 : Wp L d k_M_isFive 34 [vR b0, l1, l2, l3, l4, l5] [] σ Q ↔ Wp L d k_M_isFive 35 [vR b0, l1, l2, l3, l4, l5] [vR b0] σ Q := wp_aload rfl rfl
set_option maxRecDepth 4000 in
theorem r_M_isFive_35 (h : gK c0 = 12) : Wp L d k_M_isFive 35 [l0, l1, l2, l3, l4, l5] [vR c0] σ Q ↔ Wp L d k_M_isFive 38 [l0, l1, l2, l3, l4, l5] [vR (gq c0 8)] σ Q := wp_getR (c := 3208) rfl rfl rfl rfl rfl h
set_option maxRecDepth 4000 in
theorem r_M_isFive_38 : Wp L d k_M_isFive 38 [vR b0, l1, l2, l3, l4, l5] [vR c0] σ Q ↔ Wp L d k_M_isFive 39 [vR b0, l1, l2, l3, l4, l5] [vR b0, vR c0] σ Q := wp_aload rfl rfl
set_option maxRecDepth 4000 in
theorem r_M_isFive_39 (h : gK c1 = 12) : Wp L d k_M_isFive 39 [l0, l1, l2, l3, l4, l5] [vR c1, vR c0] σ Q ↔ Wp L d k_M_isFive 42 [l0, l1, l2, l3, l4, l5] [vI (σ c1 10), vR c0] σ Q := wp_getI (c := 3082) rfl rfl rfl rfl h
set_option maxRecDepth 4000 in
theorem r_M_isFive_42 : Wp L d k_M_isFive 42 [l0, l1, l2, l3, l4, l5] [vI s1, vR c0] σ Q ↔ Wp L d k_M_isFive 43 [l0, l1, l2, l3, l4, l5] [vI 1, vI s1, vR c0] σ Q := wp_push rfl
set_option maxRecDepth 4000 in
theorem r_M_isFive_43 : Wp L d k_M_isFive 43 [l0, l1, l2, l3, l4, l5] [vI s2, vI s1, vR c0] σ Q ↔ Wp L d k_M_isFive 44 [l0, l1, l2, l3, l4, l5] [vI (w32 (s1 + s2)), vR c0] σ Q := wp_iadd rfl
set_option maxRecDepth 4000 in
theorem r_M_isFive_44 (h : gK c0 = 100) (hx : 0 ≤ s1 ∧ s1 < gN c0) : Wp L d k_M_isFive 44 [l0, l1, l2, l3, l4, l5] [vI s1, vR c0] σ Q ↔ Wp L d k_M_isFive 45 [l0, l1, l2, l3, l4, l5] [vI (σ c0 s1.toNat)] σ Q := wp_iald rfl h hx
set_option maxRecDepth 4000 in
theorem r_M_isFive_45 : Wp L d k_M_isFive 45 [l0, l1, vI a2, l3, l4, l5] [vI s0] σ Q ↔ Wp L d k_M_isFive 46 [l0, l1, vI a2, l3, l4, l5] [vI a2, vI s0] σ Q := wp_iload rfl rfl
set_option maxRecDepth 4000 in
theorem r_M_isFive_46 : Wp L d k_M_isFive 46 [l0, l1, l2, l3, l4, l5] [vI s1, vI s0] σ Q ↔ (if s0 ≠ s1 then Wp L d k_M_isFive 100 [l0, l1, l2, l3, l4, l5] [] σ Q else Wp L d k_M_isFive 49 [l0, l1, l2, l3, l4, l5] [] σ Q) := wp_cmp_ne rfl
set_option maxRecDepth 4000 in
theorem r_M_isFive_49 : Wp L d k_M_isFive 49 [vR b0, l1, l2, l3, l4, l5] [] σ Q ↔ Wp L d k_M_isFive 50 [vR b0, l1, l2, l3, l4, l5] [vR b0] σ Q := wp_aload rfl rfl
set_option maxRecDepth 4000 in
theorem r_M_isFive_50 (h : gK c0 = 12) : Wp L d k_M_isFive 50 [l0, l1, l2, l3, l4, l5] [vR c0] σ Q ↔ Wp L d k_M_isFive 53 [l0, l1, l2, l3, l4, l5] [vR (gq c0 8)] σ Q := wp_getR (c := 3208) rfl rfl rfl rfl rfl h
set_option maxRecDepth 4000 in
theorem r_M_isFive_53 : Wp L d k_M_isFive 53 [vR b0, l1, l2, l3, l4, l5] [vR c0] σ Q ↔ Wp L d k_M_isFive 54 [vR b0, l1, l2, l3, l4, l5] [vR b0, vR c0] σ Q := wp_aload rfl rfl
set_option maxRecDepth 4000 in
theorem r_M_isFive_54 (h : gK c1 = 12) : Wp L d k_M_isFive 54 [l0, l1, l2, l3, l4, l5] [vR c1, vR c0] σ Q ↔ Wp L d k_M_isFive 57 [l0, l1, l2, l3, l4, l5] [vI (σ c1 10), vR c0] σ Q := wp_getI (c := 3082) rfl rfl rfl rfl h
set_option maxRecDepth 4000 in
theorem r_M_isFive_57 : Wp L d k_M_isFive 57 [l0, l1, l2, l3, l4, l5] [vI s1, vR c0] σ Q ↔ Wp L d k_M_isFive 58 [l0, l1, l2, l3, l4, l5] [vI 2, vI s1, vR c0] σ Q := wp_push rfl
set_option maxRecDepth 4000 in
theorem r_M_isFive_58 : Wp L d k_M_isFive 58 [l0, l1, l2, l3, l4, l5] [vI s2, vI s1, vR c0] σ Q ↔ Wp L d k_M_isFive 59 [l0, l1, l2, l3, l4, l5] [vI (w32 (s1 + s2)), vR c0] σ Q := wp_iadd rfl
set_option maxRecDepth 4000 in
theorem r_M_isFive_59 (h : gK c0 = 100) (hx : 0 ≤ s1 ∧ s1 < gN c0) : Wp L d k_M_isFive 59 [l0, l1, l2, l3, l4, l5] [vI s1, vR c0] σ Q ↔ Wp L d k_M_isFive 60 [l0, l1, l2, l3, l4, l5] [vI (σ c0 s1.toNat)] σ Q := wp_iald rfl h hx
set_option maxRecDepth 4000 in
theorem r_M_isFive_60 : Wp L d k_M_isFive 60 [l0, l1, l2, vI a3, l4, l5] [vI s0] σ Q ↔ Wp L d k_M_isFive 61 [l0, l1, l2, vI a3, l4, l5] [vI a3, vI s0] σ Q := wp_iload rfl rfl
set_option maxRecDepth 4000 in
theorem r_M_isFive_61 : Wp L d k_M_isFive 61 [l0, l1, l2, l3, l4, l5] [vI s1, vI s0] σ Q ↔ (if s0 ≠ s1 then Wp L d k_M_isFive 100 [l0, l1, l2, l3, l4, l5] [] σ Q else Wp L d k_M_isFive 64 [l0, l1, l2, l3, l4, l5] [] σ Q) := wp_cmp_ne rfl
set_option maxRecDepth 4000 in
theorem r_M_isFive_64 : Wp L d k_M_isFive 64 [vR b0, l1, l2, l3, l4, l5] [] σ Q ↔ Wp L d k_M_isFive 65 [vR b0, l1, l2, l3, l4, l5] [vR b0] σ Q := wp_aload rfl rfl
set_option maxRecDepth 4000 in
theorem r_M_isFive_65 (h : gK c0 = 12) : Wp L d k_M_isFive 65 [l0, l1, l2, l3, l4, l5] [vR c0] σ Q ↔ Wp L d k_M_isFive 68 [l0, l1, l2, l3, l4, l5] [vR (gq c0 8)] σ Q := wp_getR (c := 3208) rfl rfl rfl rfl rfl h
set_option maxRecDepth 4000 in
theorem r_M_isFive_68 : Wp L d k_M_isFive 68 [vR b0, l1, l2, l3, l4, l5] [vR c0] σ Q ↔ Wp L d k_M_isFive 69 [vR b0, l1, l2, l3, l4, l5] [vR b0, vR c0] σ Q := wp_aload rfl rfl
set_option maxRecDepth 4000 in
theorem r_M_isFive_69 (h : gK c1 = 12) : Wp L d k_M_isFive 69 [l0, l1, l2, l3, l4, l5] [vR c1, vR c0] σ Q ↔ Wp L d k_M_isFive 72 [l0, l1, l2, l3, l4, l5] [vI (σ c1 10), vR c0] σ Q := wp_getI (c := 3082) rfl rfl rfl rfl h
set_option maxRecDepth 4000 in
theorem r_M_isFive_72 : Wp L d k_M_isFive 72 [l0, l1, l2, l3, l4, l5] [vI s1, vR c0] σ Q ↔ Wp L d k_M_isFive 73 [l0, l1, l2, l3, l4, l5] [vI 3, vI s1, vR c0] σ Q := wp_push rfl
set_option maxRecDepth 4000 in
theorem r_M_isFive_73 : Wp L d k_M_isFive 73 [l0, l1, l2, l3, l4, l5] [vI s2, vI s1, vR c0] σ Q ↔ Wp L d k_M_isFive 74 [l0, l1, l2, l3, l4, l5] [vI (w32 (s1 + s2)), vR c0] σ Q := wp_iadd rfl
set_option maxRecDepth 4000 in
theorem r_M_isFive_74 (h : gK c0 = 100) (hx : 0 ≤ s1 ∧ s1 < gN c0) : Wp L d k_M_isFive 74 [l0, l1, l2, l3, l4, l5] [vI s1, vR c0] σ Q ↔ Wp L d k_M_isFive 75 [l0, l1, l2, l3, l4, l5] [vI (σ c0 s1.toNat)] σ Q := wp_iald rfl h hx
set_option maxRecDepth 4000 in
theorem r_M_isFive_75 : Wp L d k_M_isFive 75 [l0, l1, l2, l3, vI a4, l5] [vI s0] σ Q ↔ Wp L d k_M_isFive 77 [l0, l1, l2, l3, vI a4, l5] [vI a4, vI s0] σ Q := wp_iload rfl rfl
set_option maxRecDepth 4000 in
theorem r_M_isFive_77 : Wp L d k_M_isFive 77 [l0, l1, l2, l3, l4, l5] [vI s1, vI s0] σ Q ↔ (if s0 ≠ s1 then Wp L d k_M_isFive 100 [l0, l1, l2, l3, l4, l5] [] σ Q else Wp L d k_M_isFive 80 [l0, l1, l2, l3, l4, l5] [] σ Q) := wp_cmp_ne rfl
set_option maxRecDepth 4000 in
theorem r_M_isFive_80 : Wp L d k_M_isFive 80 [vR b0, l1, l2, l3, l4, l5] [] σ Q ↔ Wp L d k_M_isFive 81 [vR b0, l1, l2, l3, l4, l5] [vR b0] σ Q := wp_aload rfl rfl
set_option maxRecDepth 4000 in
theorem r_M_isFive_81 (h : gK c0 = 12) : Wp L d k_M_isFive 81 [l0, l1, l2, l3, l4, l5] [vR c0] σ Q ↔ Wp L d k_M_isFive 84 [l0, l1, l2, l3, l4, l5] [vR (gq c0 8)] σ Q := wp_getR (c := 3208) rfl rfl rfl rfl rfl h
set_option maxRecDepth 4000 in
theorem r_M_isFive_84 : Wp L d k_M_isFive 84 [vR b0, l1, l2, l3, l4, l5] [vR c0] σ Q ↔ Wp L d k_M_isFive 85 [vR b0, l1, l2, l3, l4, l5] [vR b0, vR c0] σ Q := wp_aload rfl rfl
set_option maxRecDepth 4000 in
theorem r_M_isFive_85 (h : gK c1 = 12) : Wp L d k_M_isFive 85 [l0, l1, l2, l3, l4, l5] [vR c1, vR c0] σ Q ↔ Wp L d k_M_isFive 88 [l0, l1, l2, l3, l4, l5] [vI (σ c1 10), vR c0] σ Q := wp_getI (c := 3082) rfl rfl rfl rfl h
set_option maxRecDepth 4000 in
theorem r_M_isFive_88 : Wp L d k_M_isFive 88 [l0, l1, l2, l3, l4, l5] [vI s1, vR c0] σ Q ↔ Wp L d k_M_isFive 89 [l0, l1, l2, l3, l4, l5] [vI 4, vI s1, vR c0] σ Q := wp_push rfl
set_option maxRecDepth 4000 in
theorem r_M_isFive_89 : Wp L d k_M_isFive 89 [l0, l1, l2, l3, l4, l5] [vI s2, vI s1, vR c0] σ Q ↔ Wp L d k_M_isFive 90 [l0, l1, l2, l3, l4, l5] [vI (w32 (s1 + s2)), vR c0] σ Q := wp_iadd rfl
set_option maxRecDepth 4000 in
theorem r_M_isFive_90 (h : gK c0 = 100) (hx : 0 ≤ s1 ∧ s1 < gN c0) : Wp L d k_M_isFive 90 [l0, l1, l2, l3, l4, l5] [vI s1, vR c0] σ Q ↔ Wp L d k_M_isFive 91 [l0, l1, l2, l3, l4, l5] [vI (σ c0 s1.toNat)] σ Q := wp_iald rfl h hx
set_option maxRecDepth 4000 in
theorem r_M_isFive_91 : Wp L d k_M_isFive 91 [l0, l1, l2, l3, l4, vI a5] [vI s0] σ Q ↔ Wp L d k_M_isFive 93 [l0, l1, l2, l3, l4, vI a5] [vI a5, vI s0] σ Q := wp_iload rfl rfl
set_option maxRecDepth 4000 in
theorem r_M_isFive_93 : Wp L d k_M_isFive 93 [l0, l1, l2, l3, l4, l5] [vI s1, vI s0] σ Q ↔ (if s0 ≠ s1 then Wp L d k_M_isFive 100 [l0, l1, l2, l3, l4, l5] [] σ Q else Wp L d k_M_isFive 96 [l0, l1, l2, l3, l4, l5] [] σ Q) := wp_cmp_ne rfl
set_option maxRecDepth 4000 in
theorem r_M_isFive_96 : Wp L d k_M_isFive 96 [l0, l1, l2, l3, l4, l5] [] σ Q ↔ Wp L d k_M_isFive 97 [l0, l1, l2, l3, l4, l5] [vI 1] σ Q := wp_push rfl
set_option maxRecDepth 4000 in
theorem r_M_isFive_97 : Wp L d k_M_isFive 97 [l0, l1, l2, l3, l4, l5] [vI s0] σ Q ↔ Wp L d k_M_isFive 101 [l0, l1, l2, l3, l4, l5] [vI s0] σ Q := wp_goto rfl
set_option maxRecDepth 4000 in
theorem r_M_isFive_100 : Wp L d k_M_isFive 100 [l0, l1, l2, l3, l4, l5] [] σ Q ↔ Wp L d k_M_isFive 101 [l0, l1, l2, l3, l4, l5] [vI 0] σ Q := wp_push rfl
set_option maxRecDepth 4000 in
theorem r_M_isFive_101 (h : s0 = 0 ∨ s0 = 1) : Wp L d k_M_isFive 101 [l0, l1, l2, l3, l4, l5] [vI s0] σ Q ↔ Q (some (vI s0)) σ := wp_zret rfl h
set_option maxRecDepth 4000 in
theorem fv_t {b : Nat → Int} {n e : Nat} {w : Int} (hn : n ≤ 96) (hen : e ≤ n) (h : TKr b n e w σ) (hw : gtq b n e w = 1 ∧ gte b n e = gts b n e + 5 ∧ b (gts b n e + 0) = a1 ∧ b (gts b n e + 1) = a2 ∧ b (gts b n e + 2) = a3 ∧ b (gts b n e + 3) = a4 ∧ b (gts b n e + 4) = a5) : Run L d 246 [vR 293, vI a1, vI a2, vI a3, vI a4, vI a5] σ (some (vI 1)) σ := by
  refine Run_of (C' := k_M_isFive) rfl ?_
  show Wp L d k_M_isFive 0 [vR 293, vI a1, vI a2, vI a3, vI a4, vI a5] [] σ _
  obtain ⟨K293, Q293, K294, N294⟩ := litM
  obtain ⟨K301, N301, n8⟩ := litB
  obtain ⟨t1, t2, t3, t4, t5, -⟩ := h
  have tm := tm_c b n e w
  have sb := gts_bd (b := b) hen
  have tb := gte_bd (b := b) hen
  have ej : ∀ j : Nat, (((gts b n e : Nat) : Int) + (j : Int)).toNat = gts b n e + j := fun j => by omega
  have ej1 : (((gts b n e : Nat) : Int) + 1).toNat = gts b n e + 1 := by omega
  have ej2 : (((gts b n e : Nat) : Int) + 2).toNat = gts b n e + 2 := by omega
  have ej3 : (((gts b n e : Nat) : Int) + 3).toNat = gts b n e + 3 := by omega
  have ej4 : (((gts b n e : Nat) : Int) + 4).toNat = gts b n e + 4 := by omega
  have gm : gtm b n e w = 1 := by omega
  have q2 := hw.2.1
  have e0 := t2 (gts b n e + 0) (by omega)
  have e1 := t2 (gts b n e + 1) (by omega)
  have e2 := t2 (gts b n e + 2) (by omega)
  have e3 := t2 (gts b n e + 3) (by omega)
  have e4 := t2 (gts b n e + 4) (by omega)
  rw [Nat.add_zero] at e0
  obtain ⟨w1, w2, v0, v1, v2, v3, v4⟩ := hw
  rw [Nat.add_zero] at v0
  simp (disch := first | assumption | exact gb_01 _ | omega) only [r_M_isFive_0, r_M_isFive_1, r_M_isFive_4, r_M_isFive_5, r_M_isFive_8, r_M_isFive_9, r_M_isFive_12, r_M_isFive_13, r_M_isFive_16, r_M_isFive_17, r_M_isFive_18, r_M_isFive_21, r_M_isFive_22, r_M_isFive_25, r_M_isFive_26, r_M_isFive_29, r_M_isFive_30, r_M_isFive_31, r_M_isFive_34, r_M_isFive_35, r_M_isFive_38, r_M_isFive_39, r_M_isFive_42, r_M_isFive_43, r_M_isFive_44, r_M_isFive_45, r_M_isFive_46, r_M_isFive_49, r_M_isFive_50, r_M_isFive_53, r_M_isFive_54, r_M_isFive_57, r_M_isFive_58, r_M_isFive_59, r_M_isFive_60, r_M_isFive_61, r_M_isFive_64, r_M_isFive_65, r_M_isFive_68, r_M_isFive_69, r_M_isFive_72, r_M_isFive_73, r_M_isFive_74, r_M_isFive_75, r_M_isFive_77, r_M_isFive_80, r_M_isFive_81, r_M_isFive_84, r_M_isFive_85, r_M_isFive_88, r_M_isFive_89, r_M_isFive_90, r_M_isFive_91, r_M_isFive_93, r_M_isFive_96, r_M_isFive_97, r_M_isFive_100, r_M_isFive_101, Q293, n8, t3, t4, t5, ej1, ej2, ej3, ej4, gm, e0, e1, e2, e3, e4, w32_gb, w32i, tn_add, tn_mul, Int.toNat_natCast, Int.toNat_zero, Int.reduceLE, Int.reduceLT, Int.reduceEq, Int.reduceNe, gb_T, gb_F, Int.reduceToNat, eq_self, true_or, or_true, and_true, true_and, and_self, ↓ite_gb0, ↓ite_gbn, ↓if_pos, ↓if_neg, if_true, if_false, not_true_eq_false, not_false_eq_true, gb_ne0, gb_eq0]
set_option maxRecDepth 4000 in
theorem fv_f {b : Nat → Int} {n e : Nat} {w : Int} (hn : n ≤ 96) (hen : e ≤ n) (h : TKr b n e w σ) (hw : ¬(gtq b n e w = 1 ∧ gte b n e = gts b n e + 5 ∧ b (gts b n e + 0) = a1 ∧ b (gts b n e + 1) = a2 ∧ b (gts b n e + 2) = a3 ∧ b (gts b n e + 3) = a4 ∧ b (gts b n e + 4) = a5)) : Run L d 246 [vR 293, vI a1, vI a2, vI a3, vI a4, vI a5] σ (some (vI 0)) σ := by
  refine Run_of (C' := k_M_isFive) rfl ?_
  show Wp L d k_M_isFive 0 [vR 293, vI a1, vI a2, vI a3, vI a4, vI a5] [] σ _
  obtain ⟨K293, Q293, K294, N294⟩ := litM
  obtain ⟨K301, N301, n8⟩ := litB
  obtain ⟨t1, t2, t3, t4, t5, -⟩ := h
  have tm := tm_c b n e w
  have sb := gts_bd (b := b) hen
  have tb := gte_bd (b := b) hen
  have ej : ∀ j : Nat, (((gts b n e : Nat) : Int) + (j : Int)).toNat = gts b n e + j := fun j => by omega
  have ej1 : (((gts b n e : Nat) : Int) + 1).toNat = gts b n e + 1 := by omega
  have ej2 : (((gts b n e : Nat) : Int) + 2).toNat = gts b n e + 2 := by omega
  have ej3 : (((gts b n e : Nat) : Int) + 3).toNat = gts b n e + 3 := by omega
  have ej4 : (((gts b n e : Nat) : Int) + 4).toNat = gts b n e + 4 := by omega
  by_cases q1 : gtq b n e w = 1
  · have gm : gtm b n e w = 1 := by omega
    by_cases q2 : gte b n e = gts b n e + 5
    · have e0 := t2 (gts b n e + 0) (by omega)
      have e1 := t2 (gts b n e + 1) (by omega)
      have e2 := t2 (gts b n e + 2) (by omega)
      have e3 := t2 (gts b n e + 3) (by omega)
      have e4 := t2 (gts b n e + 4) (by omega)
      rw [Nat.add_zero] at e0
      by_cases y0 : b (gts b n e) ≠ a1
      · simp (disch := first | assumption | exact gb_01 _ | omega) only [r_M_isFive_0, r_M_isFive_1, r_M_isFive_4, r_M_isFive_5, r_M_isFive_8, r_M_isFive_9, r_M_isFive_12, r_M_isFive_13, r_M_isFive_16, r_M_isFive_17, r_M_isFive_18, r_M_isFive_21, r_M_isFive_22, r_M_isFive_25, r_M_isFive_26, r_M_isFive_29, r_M_isFive_30, r_M_isFive_31, r_M_isFive_34, r_M_isFive_35, r_M_isFive_38, r_M_isFive_39, r_M_isFive_42, r_M_isFive_43, r_M_isFive_44, r_M_isFive_45, r_M_isFive_46, r_M_isFive_49, r_M_isFive_50, r_M_isFive_53, r_M_isFive_54, r_M_isFive_57, r_M_isFive_58, r_M_isFive_59, r_M_isFive_60, r_M_isFive_61, r_M_isFive_64, r_M_isFive_65, r_M_isFive_68, r_M_isFive_69, r_M_isFive_72, r_M_isFive_73, r_M_isFive_74, r_M_isFive_75, r_M_isFive_77, r_M_isFive_80, r_M_isFive_81, r_M_isFive_84, r_M_isFive_85, r_M_isFive_88, r_M_isFive_89, r_M_isFive_90, r_M_isFive_91, r_M_isFive_93, r_M_isFive_96, r_M_isFive_97, r_M_isFive_100, r_M_isFive_101, Q293, n8, t3, t4, t5, ej1, ej2, ej3, ej4, gm, e0, w32_gb, w32i, tn_add, tn_mul, Int.toNat_natCast, Int.toNat_zero, Int.reduceLE, Int.reduceLT, Int.reduceEq, Int.reduceNe, gb_T, gb_F, Int.reduceToNat, eq_self, true_or, or_true, and_true, true_and, and_self, ↓ite_gb0, ↓ite_gbn, ↓if_pos, ↓if_neg, if_true, if_false, not_true_eq_false, not_false_eq_true, gb_ne0, gb_eq0]
      have v0 := Decidable.not_not.1 y0
      by_cases y1 : b (gts b n e + 1) ≠ a2
      · simp (disch := first | assumption | exact gb_01 _ | omega) only [r_M_isFive_0, r_M_isFive_1, r_M_isFive_4, r_M_isFive_5, r_M_isFive_8, r_M_isFive_9, r_M_isFive_12, r_M_isFive_13, r_M_isFive_16, r_M_isFive_17, r_M_isFive_18, r_M_isFive_21, r_M_isFive_22, r_M_isFive_25, r_M_isFive_26, r_M_isFive_29, r_M_isFive_30, r_M_isFive_31, r_M_isFive_34, r_M_isFive_35, r_M_isFive_38, r_M_isFive_39, r_M_isFive_42, r_M_isFive_43, r_M_isFive_44, r_M_isFive_45, r_M_isFive_46, r_M_isFive_49, r_M_isFive_50, r_M_isFive_53, r_M_isFive_54, r_M_isFive_57, r_M_isFive_58, r_M_isFive_59, r_M_isFive_60, r_M_isFive_61, r_M_isFive_64, r_M_isFive_65, r_M_isFive_68, r_M_isFive_69, r_M_isFive_72, r_M_isFive_73, r_M_isFive_74, r_M_isFive_75, r_M_isFive_77, r_M_isFive_80, r_M_isFive_81, r_M_isFive_84, r_M_isFive_85, r_M_isFive_88, r_M_isFive_89, r_M_isFive_90, r_M_isFive_91, r_M_isFive_93, r_M_isFive_96, r_M_isFive_97, r_M_isFive_100, r_M_isFive_101, Q293, n8, t3, t4, t5, ej1, ej2, ej3, ej4, gm, e0, e1, w32_gb, w32i, tn_add, tn_mul, Int.toNat_natCast, Int.toNat_zero, Int.reduceLE, Int.reduceLT, Int.reduceEq, Int.reduceNe, gb_T, gb_F, Int.reduceToNat, eq_self, true_or, or_true, and_true, true_and, and_self, ↓ite_gb0, ↓ite_gbn, ↓if_pos, ↓if_neg, if_true, if_false, not_true_eq_false, not_false_eq_true, gb_ne0, gb_eq0]
      have v1 := Decidable.not_not.1 y1
      by_cases y2 : b (gts b n e + 2) ≠ a3
      · simp (disch := first | assumption | exact gb_01 _ | omega) only [r_M_isFive_0, r_M_isFive_1, r_M_isFive_4, r_M_isFive_5, r_M_isFive_8, r_M_isFive_9, r_M_isFive_12, r_M_isFive_13, r_M_isFive_16, r_M_isFive_17, r_M_isFive_18, r_M_isFive_21, r_M_isFive_22, r_M_isFive_25, r_M_isFive_26, r_M_isFive_29, r_M_isFive_30, r_M_isFive_31, r_M_isFive_34, r_M_isFive_35, r_M_isFive_38, r_M_isFive_39, r_M_isFive_42, r_M_isFive_43, r_M_isFive_44, r_M_isFive_45, r_M_isFive_46, r_M_isFive_49, r_M_isFive_50, r_M_isFive_53, r_M_isFive_54, r_M_isFive_57, r_M_isFive_58, r_M_isFive_59, r_M_isFive_60, r_M_isFive_61, r_M_isFive_64, r_M_isFive_65, r_M_isFive_68, r_M_isFive_69, r_M_isFive_72, r_M_isFive_73, r_M_isFive_74, r_M_isFive_75, r_M_isFive_77, r_M_isFive_80, r_M_isFive_81, r_M_isFive_84, r_M_isFive_85, r_M_isFive_88, r_M_isFive_89, r_M_isFive_90, r_M_isFive_91, r_M_isFive_93, r_M_isFive_96, r_M_isFive_97, r_M_isFive_100, r_M_isFive_101, Q293, n8, t3, t4, t5, ej1, ej2, ej3, ej4, gm, e0, e1, e2, w32_gb, w32i, tn_add, tn_mul, Int.toNat_natCast, Int.toNat_zero, Int.reduceLE, Int.reduceLT, Int.reduceEq, Int.reduceNe, gb_T, gb_F, Int.reduceToNat, eq_self, true_or, or_true, and_true, true_and, and_self, ↓ite_gb0, ↓ite_gbn, ↓if_pos, ↓if_neg, if_true, if_false, not_true_eq_false, not_false_eq_true, gb_ne0, gb_eq0]
      have v2 := Decidable.not_not.1 y2
      by_cases y3 : b (gts b n e + 3) ≠ a4
      · simp (disch := first | assumption | exact gb_01 _ | omega) only [r_M_isFive_0, r_M_isFive_1, r_M_isFive_4, r_M_isFive_5, r_M_isFive_8, r_M_isFive_9, r_M_isFive_12, r_M_isFive_13, r_M_isFive_16, r_M_isFive_17, r_M_isFive_18, r_M_isFive_21, r_M_isFive_22, r_M_isFive_25, r_M_isFive_26, r_M_isFive_29, r_M_isFive_30, r_M_isFive_31, r_M_isFive_34, r_M_isFive_35, r_M_isFive_38, r_M_isFive_39, r_M_isFive_42, r_M_isFive_43, r_M_isFive_44, r_M_isFive_45, r_M_isFive_46, r_M_isFive_49, r_M_isFive_50, r_M_isFive_53, r_M_isFive_54, r_M_isFive_57, r_M_isFive_58, r_M_isFive_59, r_M_isFive_60, r_M_isFive_61, r_M_isFive_64, r_M_isFive_65, r_M_isFive_68, r_M_isFive_69, r_M_isFive_72, r_M_isFive_73, r_M_isFive_74, r_M_isFive_75, r_M_isFive_77, r_M_isFive_80, r_M_isFive_81, r_M_isFive_84, r_M_isFive_85, r_M_isFive_88, r_M_isFive_89, r_M_isFive_90, r_M_isFive_91, r_M_isFive_93, r_M_isFive_96, r_M_isFive_97, r_M_isFive_100, r_M_isFive_101, Q293, n8, t3, t4, t5, ej1, ej2, ej3, ej4, gm, e0, e1, e2, e3, w32_gb, w32i, tn_add, tn_mul, Int.toNat_natCast, Int.toNat_zero, Int.reduceLE, Int.reduceLT, Int.reduceEq, Int.reduceNe, gb_T, gb_F, Int.reduceToNat, eq_self, true_or, or_true, and_true, true_and, and_self, ↓ite_gb0, ↓ite_gbn, ↓if_pos, ↓if_neg, if_true, if_false, not_true_eq_false, not_false_eq_true, gb_ne0, gb_eq0]
      have v3 := Decidable.not_not.1 y3
      by_cases y4 : b (gts b n e + 4) ≠ a5
      · simp (disch := first | assumption | exact gb_01 _ | omega) only [r_M_isFive_0, r_M_isFive_1, r_M_isFive_4, r_M_isFive_5, r_M_isFive_8, r_M_isFive_9, r_M_isFive_12, r_M_isFive_13, r_M_isFive_16, r_M_isFive_17, r_M_isFive_18, r_M_isFive_21, r_M_isFive_22, r_M_isFive_25, r_M_isFive_26, r_M_isFive_29, r_M_isFive_30, r_M_isFive_31, r_M_isFive_34, r_M_isFive_35, r_M_isFive_38, r_M_isFive_39, r_M_isFive_42, r_M_isFive_43, r_M_isFive_44, r_M_isFive_45, r_M_isFive_46, r_M_isFive_49, r_M_isFive_50, r_M_isFive_53, r_M_isFive_54, r_M_isFive_57, r_M_isFive_58, r_M_isFive_59, r_M_isFive_60, r_M_isFive_61, r_M_isFive_64, r_M_isFive_65, r_M_isFive_68, r_M_isFive_69, r_M_isFive_72, r_M_isFive_73, r_M_isFive_74, r_M_isFive_75, r_M_isFive_77, r_M_isFive_80, r_M_isFive_81, r_M_isFive_84, r_M_isFive_85, r_M_isFive_88, r_M_isFive_89, r_M_isFive_90, r_M_isFive_91, r_M_isFive_93, r_M_isFive_96, r_M_isFive_97, r_M_isFive_100, r_M_isFive_101, Q293, n8, t3, t4, t5, ej1, ej2, ej3, ej4, gm, e0, e1, e2, e3, e4, w32_gb, w32i, tn_add, tn_mul, Int.toNat_natCast, Int.toNat_zero, Int.reduceLE, Int.reduceLT, Int.reduceEq, Int.reduceNe, gb_T, gb_F, Int.reduceToNat, eq_self, true_or, or_true, and_true, true_and, and_self, ↓ite_gb0, ↓ite_gbn, ↓if_pos, ↓if_neg, if_true, if_false, not_true_eq_false, not_false_eq_true, gb_ne0, gb_eq0]
      have v4 := Decidable.not_not.1 y4
      exact absurd ⟨q1, q2, v0, v1, v2, v3, v4⟩ hw
    · simp (disch := first | assumption | exact gb_01 _ | omega) only [r_M_isFive_0, r_M_isFive_1, r_M_isFive_4, r_M_isFive_5, r_M_isFive_8, r_M_isFive_9, r_M_isFive_12, r_M_isFive_13, r_M_isFive_16, r_M_isFive_17, r_M_isFive_18, r_M_isFive_21, r_M_isFive_22, r_M_isFive_25, r_M_isFive_26, r_M_isFive_29, r_M_isFive_30, r_M_isFive_31, r_M_isFive_34, r_M_isFive_35, r_M_isFive_38, r_M_isFive_39, r_M_isFive_42, r_M_isFive_43, r_M_isFive_44, r_M_isFive_45, r_M_isFive_46, r_M_isFive_49, r_M_isFive_50, r_M_isFive_53, r_M_isFive_54, r_M_isFive_57, r_M_isFive_58, r_M_isFive_59, r_M_isFive_60, r_M_isFive_61, r_M_isFive_64, r_M_isFive_65, r_M_isFive_68, r_M_isFive_69, r_M_isFive_72, r_M_isFive_73, r_M_isFive_74, r_M_isFive_75, r_M_isFive_77, r_M_isFive_80, r_M_isFive_81, r_M_isFive_84, r_M_isFive_85, r_M_isFive_88, r_M_isFive_89, r_M_isFive_90, r_M_isFive_91, r_M_isFive_93, r_M_isFive_96, r_M_isFive_97, r_M_isFive_100, r_M_isFive_101, Q293, n8, t3, t4, t5, ej1, ej2, ej3, ej4, gm, w32_gb, w32i, tn_add, tn_mul, Int.toNat_natCast, Int.toNat_zero, Int.reduceLE, Int.reduceLT, Int.reduceEq, Int.reduceNe, gb_T, gb_F, Int.reduceToNat, eq_self, true_or, or_true, and_true, true_and, and_self, ↓ite_gb0, ↓ite_gbn, ↓if_pos, ↓if_neg, if_true, if_false, not_true_eq_false, not_false_eq_true, gb_ne0, gb_eq0]
  · have gm : gtm b n e w ≠ 1 := by omega
    simp (disch := first | assumption | exact gb_01 _ | omega) only [r_M_isFive_0, r_M_isFive_1, r_M_isFive_4, r_M_isFive_5, r_M_isFive_8, r_M_isFive_9, r_M_isFive_12, r_M_isFive_13, r_M_isFive_16, r_M_isFive_17, r_M_isFive_18, r_M_isFive_21, r_M_isFive_22, r_M_isFive_25, r_M_isFive_26, r_M_isFive_29, r_M_isFive_30, r_M_isFive_31, r_M_isFive_34, r_M_isFive_35, r_M_isFive_38, r_M_isFive_39, r_M_isFive_42, r_M_isFive_43, r_M_isFive_44, r_M_isFive_45, r_M_isFive_46, r_M_isFive_49, r_M_isFive_50, r_M_isFive_53, r_M_isFive_54, r_M_isFive_57, r_M_isFive_58, r_M_isFive_59, r_M_isFive_60, r_M_isFive_61, r_M_isFive_64, r_M_isFive_65, r_M_isFive_68, r_M_isFive_69, r_M_isFive_72, r_M_isFive_73, r_M_isFive_74, r_M_isFive_75, r_M_isFive_77, r_M_isFive_80, r_M_isFive_81, r_M_isFive_84, r_M_isFive_85, r_M_isFive_88, r_M_isFive_89, r_M_isFive_90, r_M_isFive_91, r_M_isFive_93, r_M_isFive_96, r_M_isFive_97, r_M_isFive_100, r_M_isFive_101, Q293, n8, t3, t4, t5, ej1, ej2, ej3, ej4, w32_gb, w32i, tn_add, tn_mul, Int.toNat_natCast, Int.toNat_zero, Int.reduceLE, Int.reduceLT, Int.reduceEq, Int.reduceNe, gb_T, gb_F, Int.reduceToNat, eq_self, true_or, or_true, and_true, true_and, and_self, ↓ite_gb0, ↓ite_gbn, ↓if_pos, ↓if_neg, if_true, if_false, not_true_eq_false, not_false_eq_true, gb_ne0, gb_eq0]
set_option maxRecDepth 4000 in
theorem r_M_key_0 : Wp L d k_M_key 0 [vR b0] [] σ Q ↔ Wp L d k_M_key 1 [vR b0] [vR b0] σ Q := wp_aload rfl rfl
set_option maxRecDepth 4000 in
theorem r_M_key_1 : Wp L d k_M_key 1 [l0] [vR c0] σ Q ↔ Wp L d k_M_key 3 [l0] [vI 119, vR c0] σ Q := wp_push rfl
set_option maxRecDepth 4000 in
theorem r_M_key_3 : Wp L d k_M_key 3 [l0] [vI s1, vR c0] σ Q ↔ Wp L d k_M_key 5 [l0] [vI 105, vI s1, vR c0] σ Q := wp_push rfl
set_option maxRecDepth 4000 in
theorem r_M_key_5 : Wp L d k_M_key 5 [l0] [vI s2, vI s1, vR c0] σ Q ↔ Wp L d k_M_key 7 [l0] [vI 110, vI s2, vI s1, vR c0] σ Q := wp_push rfl
set_option maxRecDepth 4000 in
theorem r_M_key_7 : Wp L d k_M_key 7 [l0] [vI s3, vI s2, vI s1, vR c0] σ Q ↔ Wp L d k_M_key 9 [l0] [vI 100, vI s3, vI s2, vI s1, vR c0] σ Q := wp_push rfl
set_option maxRecDepth 4000 in
theorem c_M_key_9 (hR : Run L d 245 [vR c0, vI s1, vI s2, vI s3, vI s4] σ r σ1) (h : gK c0 = 12) : Wp L (d + 1) k_M_key 9 [l0] [vI s4, vI s3, vI s2, vI s1, vR c0] σ Q ↔ Wp L (d + 1) k_M_key 12 [l0] (r.toList ++ []) σ1 Q := wp_callR (as := [vR c0, vI s1, vI s2, vI s3, vI s4]) (rest := []) rfl rfl rfl rfl rfl rfl rfl (grecv_k (by rw [h]) rfl) hR
set_option maxRecDepth 4000 in
theorem r_M_key_12 : Wp L d k_M_key 12 [l0] [vI s0] σ Q ↔ (if s0 = 0 then Wp L d k_M_key 19 [l0] [] σ Q else Wp L d k_M_key 15 [l0] [] σ Q) := wp_if_eq rfl
set_option maxRecDepth 4000 in
theorem r_M_key_15 : Wp L d k_M_key 15 [l0] [] σ Q ↔ Wp L d k_M_key 16 [l0] [vI 0] σ Q := wp_push rfl
set_option maxRecDepth 4000 in
theorem r_M_key_16 : Wp L d k_M_key 16 [l0] [vI s0] σ Q ↔ Wp L d k_M_key 79 [l0] [vI s0] σ Q := wp_goto rfl
set_option maxRecDepth 4000 in
theorem r_M_key_19 : Wp L d k_M_key 19 [vR b0] [] σ Q ↔ Wp L d k_M_key 20 [vR b0] [vR b0] σ Q := wp_aload rfl rfl
set_option maxRecDepth 4000 in
theorem r_M_key_20 : Wp L d k_M_key 20 [l0] [vR c0] σ Q ↔ Wp L d k_M_key 22 [l0] [vI 115, vR c0] σ Q := wp_push rfl
set_option maxRecDepth 4000 in
theorem r_M_key_22 : Wp L d k_M_key 22 [l0] [vI s1, vR c0] σ Q ↔ Wp L d k_M_key 24 [l0] [vI 112, vI s1, vR c0] σ Q := wp_push rfl
set_option maxRecDepth 4000 in
theorem r_M_key_24 : Wp L d k_M_key 24 [l0] [vI s2, vI s1, vR c0] σ Q ↔ Wp L d k_M_key 26 [l0] [vI 101, vI s2, vI s1, vR c0] σ Q := wp_push rfl
set_option maxRecDepth 4000 in
theorem r_M_key_26 : Wp L d k_M_key 26 [l0] [vI s3, vI s2, vI s1, vR c0] σ Q ↔ Wp L d k_M_key 28 [l0] [vI 101, vI s3, vI s2, vI s1, vR c0] σ Q := wp_push rfl
set_option maxRecDepth 4000 in
theorem r_M_key_28 : Wp L d k_M_key 28 [l0] [vI s4, vI s3, vI s2, vI s1, vR c0] σ Q ↔ Wp L d k_M_key 30 [l0] [vI 100, vI s4, vI s3, vI s2, vI s1, vR c0] σ Q := wp_push rfl
set_option maxRecDepth 4000 in
theorem c_M_key_30 (hR : Run L d 246 [vR c0, vI s1, vI s2, vI s3, vI s4, vI s5] σ r σ1) (h : gK c0 = 12) : Wp L (d + 1) k_M_key 30 [l0] [vI s5, vI s4, vI s3, vI s2, vI s1, vR c0] σ Q ↔ Wp L (d + 1) k_M_key 33 [l0] (r.toList ++ []) σ1 Q := wp_callR (as := [vR c0, vI s1, vI s2, vI s3, vI s4, vI s5]) (rest := []) rfl rfl rfl rfl rfl rfl rfl (grecv_k (by rw [h]) rfl) hR
set_option maxRecDepth 4000 in
theorem r_M_key_33 : Wp L d k_M_key 33 [l0] [vI s0] σ Q ↔ (if s0 = 0 then Wp L d k_M_key 40 [l0] [] σ Q else Wp L d k_M_key 36 [l0] [] σ Q) := wp_if_eq rfl
set_option maxRecDepth 4000 in
theorem r_M_key_36 : Wp L d k_M_key 36 [l0] [] σ Q ↔ Wp L d k_M_key 37 [l0] [vI 1] σ Q := wp_push rfl
set_option maxRecDepth 4000 in
theorem r_M_key_37 : Wp L d k_M_key 37 [l0] [vI s0] σ Q ↔ Wp L d k_M_key 79 [l0] [vI s0] σ Q := wp_goto rfl
set_option maxRecDepth 4000 in
theorem r_M_key_40 : Wp L d k_M_key 40 [vR b0] [] σ Q ↔ Wp L d k_M_key 41 [vR b0] [vR b0] σ Q := wp_aload rfl rfl
set_option maxRecDepth 4000 in
theorem r_M_key_41 : Wp L d k_M_key 41 [l0] [vR c0] σ Q ↔ Wp L d k_M_key 43 [l0] [vI 109, vR c0] σ Q := wp_push rfl
set_option maxRecDepth 4000 in
theorem r_M_key_43 : Wp L d k_M_key 43 [l0] [vI s1, vR c0] σ Q ↔ Wp L d k_M_key 45 [l0] [vI 101, vI s1, vR c0] σ Q := wp_push rfl
set_option maxRecDepth 4000 in
theorem r_M_key_45 : Wp L d k_M_key 45 [l0] [vI s2, vI s1, vR c0] σ Q ↔ Wp L d k_M_key 47 [l0] [vI 110, vI s2, vI s1, vR c0] σ Q := wp_push rfl
set_option maxRecDepth 4000 in
theorem r_M_key_47 : Wp L d k_M_key 47 [l0] [vI s3, vI s2, vI s1, vR c0] σ Q ↔ Wp L d k_M_key 49 [l0] [vI 100, vI s3, vI s2, vI s1, vR c0] σ Q := wp_push rfl
set_option maxRecDepth 4000 in
theorem c_M_key_49 (hR : Run L d 245 [vR c0, vI s1, vI s2, vI s3, vI s4] σ r σ1) (h : gK c0 = 12) : Wp L (d + 1) k_M_key 49 [l0] [vI s4, vI s3, vI s2, vI s1, vR c0] σ Q ↔ Wp L (d + 1) k_M_key 52 [l0] (r.toList ++ []) σ1 Q := wp_callR (as := [vR c0, vI s1, vI s2, vI s3, vI s4]) (rest := []) rfl rfl rfl rfl rfl rfl rfl (grecv_k (by rw [h]) rfl) hR
set_option maxRecDepth 4000 in
theorem r_M_key_52 : Wp L d k_M_key 52 [l0] [vI s0] σ Q ↔ (if s0 = 0 then Wp L d k_M_key 59 [l0] [] σ Q else Wp L d k_M_key 55 [l0] [] σ Q) := wp_if_eq rfl
set_option maxRecDepth 4000 in
theorem r_M_key_55 : Wp L d k_M_key 55 [l0] [] σ Q ↔ Wp L d k_M_key 56 [l0] [vI 2] σ Q := wp_push rfl
set_option maxRecDepth 4000 in
theorem r_M_key_56 : Wp L d k_M_key 56 [l0] [vI s0] σ Q ↔ Wp L d k_M_key 79 [l0] [vI s0] σ Q := wp_goto rfl
set_option maxRecDepth 4000 in
theorem r_M_key_59 : Wp L d k_M_key 59 [vR b0] [] σ Q ↔ Wp L d k_M_key 60 [vR b0] [vR b0] σ Q := wp_aload rfl rfl
set_option maxRecDepth 4000 in
theorem r_M_key_60 : Wp L d k_M_key 60 [l0] [vR c0] σ Q ↔ Wp L d k_M_key 62 [l0] [vI 116, vR c0] σ Q := wp_push rfl
set_option maxRecDepth 4000 in
theorem r_M_key_62 : Wp L d k_M_key 62 [l0] [vI s1, vR c0] σ Q ↔ Wp L d k_M_key 64 [l0] [vI 101, vI s1, vR c0] σ Q := wp_push rfl
set_option maxRecDepth 4000 in
theorem r_M_key_64 : Wp L d k_M_key 64 [l0] [vI s2, vI s1, vR c0] σ Q ↔ Wp L d k_M_key 66 [l0] [vI 108, vI s2, vI s1, vR c0] σ Q := wp_push rfl
set_option maxRecDepth 4000 in
theorem r_M_key_66 : Wp L d k_M_key 66 [l0] [vI s3, vI s2, vI s1, vR c0] σ Q ↔ Wp L d k_M_key 68 [l0] [vI 108, vI s3, vI s2, vI s1, vR c0] σ Q := wp_push rfl
set_option maxRecDepth 4000 in
theorem c_M_key_68 (hR : Run L d 245 [vR c0, vI s1, vI s2, vI s3, vI s4] σ r σ1) (h : gK c0 = 12) : Wp L (d + 1) k_M_key 68 [l0] [vI s4, vI s3, vI s2, vI s1, vR c0] σ Q ↔ Wp L (d + 1) k_M_key 71 [l0] (r.toList ++ []) σ1 Q := wp_callR (as := [vR c0, vI s1, vI s2, vI s3, vI s4]) (rest := []) rfl rfl rfl rfl rfl rfl rfl (grecv_k (by rw [h]) rfl) hR
set_option maxRecDepth 4000 in
theorem r_M_key_71 : Wp L d k_M_key 71 [l0] [vI s0] σ Q ↔ (if s0 = 0 then Wp L d k_M_key 78 [l0] [] σ Q else Wp L d k_M_key 74 [l0] [] σ Q) := wp_if_eq rfl
set_option maxRecDepth 4000 in
theorem r_M_key_74 : Wp L d k_M_key 74 [l0] [] σ Q ↔ Wp L d k_M_key 75 [l0] [vI 3] σ Q := wp_push rfl
set_option maxRecDepth 4000 in
theorem r_M_key_75 : Wp L d k_M_key 75 [l0] [vI s0] σ Q ↔ Wp L d k_M_key 79 [l0] [vI s0] σ Q := wp_goto rfl
set_option maxRecDepth 4000 in
theorem r_M_key_78 : Wp L d k_M_key 78 [l0] [] σ Q ↔ Wp L d k_M_key 79 [l0] [vI (-1)] σ Q := wp_push rfl
set_option maxRecDepth 4000 in
theorem r_M_key_79 : Wp L d k_M_key 79 [l0] [vI s0] σ Q ↔ Q (some (vI s0)) σ := wp_iret rfl
set_option maxRecDepth 4000 in
theorem jkey {b : Nat → Int} {n e : Nat} {w : Int} (hn : n ≤ 96) (hen : e ≤ n) : ∃ r : Int, (-1 ≤ r ∧ r ≤ 3 ∧ (0 ≤ r → gtq b n e w = 1)) ∧ (∀ (L d : Nat) (σ : gMm), TKc b n e w σ → TXc σ → Run L (d + 5) 159 [vR 279] σ (some (vI (if r < 0 then -1000000005 else r))) σ) ∧ (∀ (L d : Nat) (σ : gMm), TKr b n e w σ → Run L (d + 1) 244 [vR 293] σ (some (vI r)) σ) := by
  by_cases f0 : gtq b n e w = 1 ∧ gwd b (gts b n e) (gte b n e) 0
  · refine ⟨0, ⟨by omega, by omega, fun _ => f0.1⟩, fun L d σ h hc => ka_in (ka_hit hn hen (by omega) h hc f0 ⟨rfl, rfl⟩), fun L d σ h => ?_⟩
    have K293 := gK_293
    have m0 := wd_t (L := L) (d := d) hn hen h ⟨f0.1, gwd_0.1 f0.2⟩
    refine Run_of (C' := k_M_key) rfl ?_
    show Wp L (d + 1) k_M_key 0 [vR 293] [] σ _
    simp (disch := first | assumption | exact gb_01 _ | omega) only [r_M_key_0, r_M_key_1, r_M_key_3, r_M_key_5, r_M_key_7, r_M_key_12, r_M_key_15, r_M_key_16, r_M_key_19, r_M_key_20, r_M_key_22, r_M_key_24, r_M_key_26, r_M_key_28, r_M_key_33, r_M_key_36, r_M_key_37, r_M_key_40, r_M_key_41, r_M_key_43, r_M_key_45, r_M_key_47, r_M_key_52, r_M_key_55, r_M_key_56, r_M_key_59, r_M_key_60, r_M_key_62, r_M_key_64, r_M_key_66, r_M_key_71, r_M_key_74, r_M_key_75, r_M_key_78, r_M_key_79, c_M_key_9 m0, Option.toList, List.singleton_append, List.cons_append, List.nil_append, List.append_nil, w32_gb, w32i, tn_add, tn_mul, Int.toNat_natCast, Int.toNat_zero, Int.reduceLE, Int.reduceLT, Int.reduceEq, Int.reduceNe, gb_T, gb_F, Int.reduceToNat, eq_self, true_or, or_true, and_true, true_and, and_self, ↓ite_gb0, ↓ite_gbn, ↓if_pos, ↓if_neg, if_true, if_false, not_true_eq_false, not_false_eq_true, gb_ne0, gb_eq0]
  · by_cases f1 : gtq b n e w = 1 ∧ gwd b (gts b n e) (gte b n e) 1
    · refine ⟨1, ⟨by omega, by omega, fun _ => f1.1⟩, fun L d σ h hc => ka_in (ka_miss hn hen (by omega) h hc f0 (ka_hit hn hen (by omega) h hc f1 ⟨rfl, rfl⟩)), fun L d σ h => ?_⟩
      have K293 := gK_293
      have m0 := wd_f (L := L) (d := d) hn hen h (fun z => f0 ⟨z.1, gwd_0.2 z.2⟩)
      have m1 := fv_t (L := L) (d := d) hn hen h ⟨f1.1, gwd_1.1 f1.2⟩
      refine Run_of (C' := k_M_key) rfl ?_
      show Wp L (d + 1) k_M_key 0 [vR 293] [] σ _
      simp (disch := first | assumption | exact gb_01 _ | omega) only [r_M_key_0, r_M_key_1, r_M_key_3, r_M_key_5, r_M_key_7, r_M_key_12, r_M_key_15, r_M_key_16, r_M_key_19, r_M_key_20, r_M_key_22, r_M_key_24, r_M_key_26, r_M_key_28, r_M_key_33, r_M_key_36, r_M_key_37, r_M_key_40, r_M_key_41, r_M_key_43, r_M_key_45, r_M_key_47, r_M_key_52, r_M_key_55, r_M_key_56, r_M_key_59, r_M_key_60, r_M_key_62, r_M_key_64, r_M_key_66, r_M_key_71, r_M_key_74, r_M_key_75, r_M_key_78, r_M_key_79, c_M_key_9 m0, c_M_key_30 m1, Option.toList, List.singleton_append, List.cons_append, List.nil_append, List.append_nil, w32_gb, w32i, tn_add, tn_mul, Int.toNat_natCast, Int.toNat_zero, Int.reduceLE, Int.reduceLT, Int.reduceEq, Int.reduceNe, gb_T, gb_F, Int.reduceToNat, eq_self, true_or, or_true, and_true, true_and, and_self, ↓ite_gb0, ↓ite_gbn, ↓if_pos, ↓if_neg, if_true, if_false, not_true_eq_false, not_false_eq_true, gb_ne0, gb_eq0]
    · by_cases f2 : gtq b n e w = 1 ∧ gwd b (gts b n e) (gte b n e) 2
      · refine ⟨2, ⟨by omega, by omega, fun _ => f2.1⟩, fun L d σ h hc => ka_in (ka_miss hn hen (by omega) h hc f0 (ka_miss hn hen (by omega) h hc f1 (ka_hit hn hen (by omega) h hc f2 ⟨rfl, rfl⟩))), fun L d σ h => ?_⟩
        have K293 := gK_293
        have m0 := wd_f (L := L) (d := d) hn hen h (fun z => f0 ⟨z.1, gwd_0.2 z.2⟩)
        have m1 := fv_f (L := L) (d := d) hn hen h (fun z => f1 ⟨z.1, gwd_1.2 z.2⟩)
        have m2 := wd_t (L := L) (d := d) hn hen h ⟨f2.1, gwd_2.1 f2.2⟩
        refine Run_of (C' := k_M_key) rfl ?_
        show Wp L (d + 1) k_M_key 0 [vR 293] [] σ _
        simp (disch := first | assumption | exact gb_01 _ | omega) only [r_M_key_0, r_M_key_1, r_M_key_3, r_M_key_5, r_M_key_7, r_M_key_12, r_M_key_15, r_M_key_16, r_M_key_19, r_M_key_20, r_M_key_22, r_M_key_24, r_M_key_26, r_M_key_28, r_M_key_33, r_M_key_36, r_M_key_37, r_M_key_40, r_M_key_41, r_M_key_43, r_M_key_45, r_M_key_47, r_M_key_52, r_M_key_55, r_M_key_56, r_M_key_59, r_M_key_60, r_M_key_62, r_M_key_64, r_M_key_66, r_M_key_71, r_M_key_74, r_M_key_75, r_M_key_78, r_M_key_79, c_M_key_9 m0, c_M_key_30 m1, c_M_key_49 m2, Option.toList, List.singleton_append, List.cons_append, List.nil_append, List.append_nil, w32_gb, w32i, tn_add, tn_mul, Int.toNat_natCast, Int.toNat_zero, Int.reduceLE, Int.reduceLT, Int.reduceEq, Int.reduceNe, gb_T, gb_F, Int.reduceToNat, eq_self, true_or, or_true, and_true, true_and, and_self, ↓ite_gb0, ↓ite_gbn, ↓if_pos, ↓if_neg, if_true, if_false, not_true_eq_false, not_false_eq_true, gb_ne0, gb_eq0]
      · by_cases f3 : gtq b n e w = 1 ∧ gwd b (gts b n e) (gte b n e) 3
        · refine ⟨3, ⟨by omega, by omega, fun _ => f3.1⟩, fun L d σ h hc => ka_in (ka_miss hn hen (by omega) h hc f0 (ka_miss hn hen (by omega) h hc f1 (ka_miss hn hen (by omega) h hc f2 (ka_hit hn hen (by omega) h hc f3 ⟨rfl, rfl⟩)))), fun L d σ h => ?_⟩
          have K293 := gK_293
          have m0 := wd_f (L := L) (d := d) hn hen h (fun z => f0 ⟨z.1, gwd_0.2 z.2⟩)
          have m1 := fv_f (L := L) (d := d) hn hen h (fun z => f1 ⟨z.1, gwd_1.2 z.2⟩)
          have m2 := wd_f (L := L) (d := d) hn hen h (fun z => f2 ⟨z.1, gwd_2.2 z.2⟩)
          have m3 := wd_t (L := L) (d := d) hn hen h ⟨f3.1, gwd_3.1 f3.2⟩
          refine Run_of (C' := k_M_key) rfl ?_
          show Wp L (d + 1) k_M_key 0 [vR 293] [] σ _
          simp (disch := first | assumption | exact gb_01 _ | omega) only [r_M_key_0, r_M_key_1, r_M_key_3, r_M_key_5, r_M_key_7, r_M_key_12, r_M_key_15, r_M_key_16, r_M_key_19, r_M_key_20, r_M_key_22, r_M_key_24, r_M_key_26, r_M_key_28, r_M_key_33, r_M_key_36, r_M_key_37, r_M_key_40, r_M_key_41, r_M_key_43, r_M_key_45, r_M_key_47, r_M_key_52, r_M_key_55, r_M_key_56, r_M_key_59, r_M_key_60, r_M_key_62, r_M_key_64, r_M_key_66, r_M_key_71, r_M_key_74, r_M_key_75, r_M_key_78, r_M_key_79, c_M_key_9 m0, c_M_key_30 m1, c_M_key_49 m2, c_M_key_68 m3, Option.toList, List.singleton_append, List.cons_append, List.nil_append, List.append_nil, w32_gb, w32i, tn_add, tn_mul, Int.toNat_natCast, Int.toNat_zero, Int.reduceLE, Int.reduceLT, Int.reduceEq, Int.reduceNe, gb_T, gb_F, Int.reduceToNat, eq_self, true_or, or_true, and_true, true_and, and_self, ↓ite_gb0, ↓ite_gbn, ↓if_pos, ↓if_neg, if_true, if_false, not_true_eq_false, not_false_eq_true, gb_ne0, gb_eq0]
        · refine ⟨-1, ⟨by omega, by omega, fun z => absurd z (by omega)⟩, fun L d σ h hc => ka_in (ka_miss hn hen (by omega) h hc f0 (ka_miss hn hen (by omega) h hc f1 (ka_miss hn hen (by omega) h hc f2 (ka_miss hn hen (by omega) h hc f3 (ka_end ⟨rfl, rfl⟩))))), fun L d σ h => ?_⟩
          have K293 := gK_293
          have m0 := wd_f (L := L) (d := d) hn hen h (fun z => f0 ⟨z.1, gwd_0.2 z.2⟩)
          have m1 := fv_f (L := L) (d := d) hn hen h (fun z => f1 ⟨z.1, gwd_1.2 z.2⟩)
          have m2 := wd_f (L := L) (d := d) hn hen h (fun z => f2 ⟨z.1, gwd_2.2 z.2⟩)
          have m3 := wd_f (L := L) (d := d) hn hen h (fun z => f3 ⟨z.1, gwd_3.2 z.2⟩)
          refine Run_of (C' := k_M_key) rfl ?_
          show Wp L (d + 1) k_M_key 0 [vR 293] [] σ _
          simp (disch := first | assumption | exact gb_01 _ | omega) only [r_M_key_0, r_M_key_1, r_M_key_3, r_M_key_5, r_M_key_7, r_M_key_12, r_M_key_15, r_M_key_16, r_M_key_19, r_M_key_20, r_M_key_22, r_M_key_24, r_M_key_26, r_M_key_28, r_M_key_33, r_M_key_36, r_M_key_37, r_M_key_40, r_M_key_41, r_M_key_43, r_M_key_45, r_M_key_47, r_M_key_52, r_M_key_55, r_M_key_56, r_M_key_59, r_M_key_60, r_M_key_62, r_M_key_64, r_M_key_66, r_M_key_71, r_M_key_74, r_M_key_75, r_M_key_78, r_M_key_79, c_M_key_9 m0, c_M_key_30 m1, c_M_key_49 m2, c_M_key_68 m3, Option.toList, List.singleton_append, List.cons_append, List.nil_append, List.append_nil, w32_gb, w32i, tn_add, tn_mul, Int.toNat_natCast, Int.toNat_zero, Int.reduceLE, Int.reduceLT, Int.reduceEq, Int.reduceNe, gb_T, gb_F, Int.reduceToNat, eq_self, true_or, or_true, and_true, true_and, and_self, ↓ite_gb0, ↓ite_gbn, ↓if_pos, ↓if_neg, if_true, if_false, not_true_eq_false, not_false_eq_true, gb_ne0, gb_eq0]
