/-! text: the texts (strings) that the class reads. -/
variable {L d : Nat} {σ σ1 : Nat → Nat → Int} {Q : Option gV → (Nat → Nat → Int) → Prop} {a0 a1 a2 a3 a4 a5 a6 a7 a8 a9 a10 a11 s0 s1 s2 s3 s4 s5 s6 s7 s8 s9 : Int} {l0 l1 l2 l3 l4 l5 l6 l7 l8 l9 l10 l11 t0 t1 t2 t3 t4 t5 t6 t7 t8 t9 : gV} {b0 b1 b2 b3 b4 b5 b6 b7 b8 b9 b10 b11 c0 c1 c2 c3 c4 c5 c6 c7 c8 c9 : Nat} {r : Option gV}
set_option maxRecDepth 4000 in
theorem gold_s {L k : Nat} (h : k < 13) : (gSH L)[k]? = some (20, 2, [some (13 + k), none]) := by
  rw [gSH_old L k (by omega)]
  cases e : (gold L)[k]? with
  | none => rw [List.getElem?_eq_none_iff, gold_len] at e; omega
  | some q =>
    rcases gold_at e with ⟨-, rfl⟩ | ⟨h1, -⟩ | ⟨h1, -⟩
    · rfl
    · omega
    · omega
/-- how long a text is -/
def gln (k : Nat) : Nat := gLen.getD k 0
theorem gln_le : ∀ k, k < 13 → 0 < gln k ∧ gln k ≤ 5 := by decide
theorem gold_b {L k : Nat} (h : k < 13) : (gSH L)[13 + k]? = some (21, gln k, []) := by
  rw [gSH_old L (13 + k) (by omega)]
  cases e : (gold L)[13 + k]? with
  | none => rw [List.getElem?_eq_none_iff, gold_len] at e; omega
  | some q =>
    rcases gold_at e with ⟨h1, -⟩ | ⟨-, -, rfl⟩ | ⟨h1, -⟩
    · omega
    · rw [show 13 + k - 13 = k by omega]; rfl
    · omega
/-- a text's byte -/
def gby (k j : Nat) : Int := ((gByt.getD k []).getD j 0).toInt
theorem gby_bd : ∀ k, k < 13 → ∀ j, j < gln k → 0 ≤ gby k j ∧ gby k j ≤ 127 := by decide
/-- the texts are there -/
def TXc (σ : gMm) : Prop := TX σ ∧ ∀ k, k < 13 → σ k 1 = 0
theorem TXc_b (h : TXc σ) {k : Nat} (hk : k < 13) (j : Nat) : σ (13 + k) j = gby k j := by
  rw [h.1 (13 + k) (by omega) (by omega) j, show 13 + k - 13 = k by omega]; rfl
theorem Agr_tx {P : Nat → Nat → Prop} (hA : Agr σ σ1 P) (hP : ∀ k j, k < 27 → ¬ P k j) (h : TXc σ) : TXc σ1 :=
  ⟨fun k h1 h2 j => (hA k j (hP k j (by omega))).trans (h.1 k h1 h2 j), fun k hk => (hA k 1 (hP k 1 (by omega))).trans (h.2 k hk)⟩
theorem wp_sV {C : gCode} {pc nx k : Nat} {ls st : List gV} (hf : gfind C pc = some (.getfield 5248, nx)) (hk : k < 13) : Wp L d C pc ls (vR k :: st) σ Q ↔ Wp L d C nx ls (vR (13 + k) :: st) σ Q := by
  have h1 := gold_s (L := L) hk
  refine Wp_s hf rfl rfl ?_
  show gget 5248 nx ls (Sum.inr (Sum.inr (Sum.inl k)) :: st) (gSH L, σ) = _
  unfold gget
  dsimp only
  rw [h1]
  rfl
theorem wp_sC {C : gCode} {pc nx k : Nat} {ls st : List gV} (hf : gfind C pc = some (.getfield 5121, nx)) (hk : k < 13) : Wp L d C pc ls (vR k :: st) σ Q ↔ Wp L d C nx ls (vI (σ k 1) :: st) σ Q := by
  have h1 := gold_s (L := L) hk
  refine Wp_s hf rfl rfl ?_
  show gget 5121 nx ls (Sum.inr (Sum.inr (Sum.inl k)) :: st) (gSH L, σ) = _
  unfold gget
  dsimp only
  rw [h1]
  rfl
theorem wp_sL {C : gCode} {pc nx k : Nat} {ls st : List gV} (hf : gfind C pc = some (.arraylength, nx)) (hk : k < 13) : Wp L d C pc ls (vR (13 + k) :: st) σ Q ↔ Wp L d C nx ls (vI ((gln k : Nat) : Int) :: st) σ Q := by
  have h1 := gold_b (L := L) hk
  have h2 := gln_le k hk
  have h3 : w32 ((gln k : Nat) : Int) = ((gln k : Nat) : Int) := w32i (by omega)
  rw [← h3]
  refine Wp_s hf rfl rfl ?_
  show (match (gSH L)[13 + k]? with
      | some q => if q.1 = 100 ∨ q.1 = 21 ∨ q.1 = 22 then some (nx, ls, Sum.inl (w32 q.2.1) :: st, (gSH L, σ)) else none
      | none => none) = _
  rw [h1]
  rfl
theorem wp_sB {C : gCode} {pc nx k : Nat} {x : Int} {ls st : List gV} (hf : gfind C pc = some (.baload, nx)) (hk : k < 13) (hx : 0 ≤ x ∧ x < ((gln k : Nat) : Int)) : Wp L d C pc ls (vI x :: vR (13 + k) :: st) σ Q ↔ Wp L d C nx ls (vI (σ (13 + k) x.toNat) :: st) σ Q := by
  have h1 := gold_b (L := L) hk
  exact Wp_s hf rfl rfl (by simp only [gstep, gald, vR, vI, h1, hx, or_true, and_self, if_true])
theorem grecv_s {k : Nat} {t : List gV} (hk : k < 13) : grecv (gSH L, σ) 21 (vR k :: t) = true := by
  show (match (gSH L)[k]? with
      | some q => Nat.beq q.1 20
      | none => false) = true
  rw [gold_s hk]
  rfl
theorem gshr0 : ∀ k, k < 13 → gshr ((gln k : Nat) : Int) 0 = ((gln k : Nat) : Int) := by decide
theorem gand255 : ∀ k, k < 13 → ∀ j, j < gln k → gand (gby k j) 255 = gby k j := by decide
/-- the first place from i on, of m places, where text k has c; -1 -/
def gfx (k : Nat) (c : Int) (i : Nat) : Nat → Int
  | 0 => -1
  | m + 1 => if gby k i = c then (i : Int) else gfx k c (i + 1) m
set_option maxRecDepth 4000 in
theorem x_Str_coder_7 {k : Nat} (hk : k < 13) : Wp L d k_Str_coder 7 [l0] [vR k] σ Q ↔ Wp L d k_Str_coder 10 [l0] [vI (σ k 1)] σ Q := wp_sC rfl hk
set_option maxRecDepth 4000 in
theorem x_Str_isLatin1_7 {k : Nat} (hk : k < 13) : Wp L d k_Str_isLatin1 7 [l0] [vR k] σ Q ↔ Wp L d k_Str_isLatin1 10 [l0] [vI (σ k 1)] σ Q := wp_sC rfl hk
set_option maxRecDepth 4000 in
theorem x_Str_length_1 {k : Nat} (hk : k < 13) : Wp L d k_Str_length 1 [l0] [vR k] σ Q ↔ Wp L d k_Str_length 4 [l0] [vR (13 + k)] σ Q := wp_sV rfl hk
set_option maxRecDepth 4000 in
theorem x_Str_length_4 {k : Nat} (hk : k < 13) : Wp L d k_Str_length 4 [l0] [vR (13 + k)] σ Q ↔ Wp L d k_Str_length 5 [l0] [vI ((gln k : Nat) : Int)] σ Q := wp_sL rfl hk
set_option maxRecDepth 4000 in
theorem x_Str_charAt_8 {k : Nat} (hk : k < 13) : Wp L d k_Str_charAt 8 [l0, l1] [vR k] σ Q ↔ Wp L d k_Str_charAt 11 [l0, l1] [vR (13 + k)] σ Q := wp_sV rfl hk
set_option maxRecDepth 4000 in
theorem x_Lat_charAt_2 {k : Nat} (hk : k < 13) : Wp L d k_Lat_charAt 2 [l0, l1] [vR (13 + k), t0] σ Q ↔ Wp L d k_Lat_charAt 3 [l0, l1] [vI ((gln k : Nat) : Int), t0] σ Q := wp_sL rfl hk
set_option maxRecDepth 4000 in
theorem x_Lat_charAt_8 {k : Nat} (hk : k < 13) (hx : 0 ≤ s1 ∧ s1 < ((gln k : Nat) : Int)) : Wp L d k_Lat_charAt 8 [l0, l1] [vI s1, vR (13 + k)] σ Q ↔ Wp L d k_Lat_charAt 9 [l0, l1] [vI (σ (13 + k) s1.toNat)] σ Q := wp_sB rfl hk hx
set_option maxRecDepth 4000 in
theorem x_Str_indexOf_II_8 {k : Nat} (hk : k < 13) : Wp L d k_Str_indexOf_II 8 [l0, l1, l2] [vR k] σ Q ↔ Wp L d k_Str_indexOf_II 11 [l0, l1, l2] [vR (13 + k)] σ Q := wp_sV rfl hk
set_option maxRecDepth 4000 in
theorem x_Lat_indexOf_17 {k : Nat} (hk : k < 13) : Wp L d k_Lat_indexOf 17 [l0, l1, l2, l3] [vR (13 + k), t0] σ Q ↔ Wp L d k_Lat_indexOf 18 [l0, l1, l2, l3] [vI ((gln k : Nat) : Int), t0] σ Q := wp_sL rfl hk
set_option maxRecDepth 4000 in
theorem x_Lat_indexOfChar_16 {k : Nat} (hk : k < 13) (hx : 0 ≤ s1 ∧ s1 < ((gln k : Nat) : Int)) : Wp L d k_Lat_indexOfChar 16 [l0, l1, l2, l3, l4, l5] [vI s1, vR (13 + k)] σ Q ↔ Wp L d k_Lat_indexOfChar 17 [l0, l1, l2, l3, l4, l5] [vI (σ (13 + k) s1.toNat)] σ Q := wp_sB rfl hk hx
set_option maxRecDepth 4000 in
theorem r_Str_coder_0 : Wp L d k_Str_coder 0 [l0] [] σ Q ↔ Wp L d k_Str_coder 3 [l0] [vI 1] σ Q := wp_push rfl
set_option maxRecDepth 4000 in
theorem r_Str_coder_3 : Wp L d k_Str_coder 3 [l0] [vI s0] σ Q ↔ (if s0 = 0 then Wp L d k_Str_coder 13 [l0] [] σ Q else Wp L d k_Str_coder 6 [l0] [] σ Q) := wp_if_eq rfl
set_option maxRecDepth 4000 in
theorem r_Str_coder_6 : Wp L d k_Str_coder 6 [vR b0] [] σ Q ↔ Wp L d k_Str_coder 7 [vR b0] [vR b0] σ Q := wp_aload rfl rfl
set_option maxRecDepth 4000 in
theorem r_Str_coder_10 : Wp L d k_Str_coder 10 [l0] [vI s0] σ Q ↔ Wp L d k_Str_coder 14 [l0] [vI s0] σ Q := wp_goto rfl
set_option maxRecDepth 4000 in
theorem r_Str_coder_13 : Wp L d k_Str_coder 13 [l0] [] σ Q ↔ Wp L d k_Str_coder 14 [l0] [vI 1] σ Q := wp_push rfl
set_option maxRecDepth 4000 in
theorem r_Str_coder_14 (h : -128 ≤ s0 ∧ s0 < 128) : Wp L d k_Str_coder 14 [l0] [vI s0] σ Q ↔ Q (some (vI s0)) σ := wp_bret rfl h
set_option maxRecDepth 4000 in
theorem sp_Str_coder {k : Nat} (hk : k < 13) (hc : TXc σ) : Run L d 2 [vR k] σ (some (vI 0)) σ := by
  refine Run_of (C' := k_Str_coder) rfl ?_
  show Wp L d k_Str_coder 0 [vR k] [] σ _
  have h0 := hc.2 k hk
  simp (disch := first | assumption | exact gb_01 _ | omega) only [r_Str_coder_0, r_Str_coder_3, r_Str_coder_6, r_Str_coder_10, r_Str_coder_13, r_Str_coder_14, x_Str_coder_7, h0, w32_gb, w32i, tn_add, tn_mul, Int.toNat_natCast, Int.toNat_zero, Int.reduceLE, Int.reduceLT, Int.reduceEq, Int.reduceNe, gb_T, gb_F, Int.reduceToNat, eq_self, true_or, or_true, and_true, true_and, and_self, ↓ite_gb0, ↓ite_gbn, ↓if_pos, ↓if_neg, if_true, if_false, not_true_eq_false, not_false_eq_true, gb_ne0, gb_eq0]
set_option maxRecDepth 4000 in
theorem r_Str_isLatin1_0 : Wp L d k_Str_isLatin1 0 [l0] [] σ Q ↔ Wp L d k_Str_isLatin1 3 [l0] [vI 1] σ Q := wp_push rfl
set_option maxRecDepth 4000 in
theorem r_Str_isLatin1_3 : Wp L d k_Str_isLatin1 3 [l0] [vI s0] σ Q ↔ (if s0 = 0 then Wp L d k_Str_isLatin1 17 [l0] [] σ Q else Wp L d k_Str_isLatin1 6 [l0] [] σ Q) := wp_if_eq rfl
set_option maxRecDepth 4000 in
theorem r_Str_isLatin1_6 : Wp L d k_Str_isLatin1 6 [vR b0] [] σ Q ↔ Wp L d k_Str_isLatin1 7 [vR b0] [vR b0] σ Q := wp_aload rfl rfl
set_option maxRecDepth 4000 in
theorem r_Str_isLatin1_10 : Wp L d k_Str_isLatin1 10 [l0] [vI s0] σ Q ↔ (if s0 ≠ 0 then Wp L d k_Str_isLatin1 17 [l0] [] σ Q else Wp L d k_Str_isLatin1 13 [l0] [] σ Q) := wp_if_ne rfl
set_option maxRecDepth 4000 in
theorem r_Str_isLatin1_13 : Wp L d k_Str_isLatin1 13 [l0] [] σ Q ↔ Wp L d k_Str_isLatin1 14 [l0] [vI 1] σ Q := wp_push rfl
set_option maxRecDepth 4000 in
theorem r_Str_isLatin1_14 : Wp L d k_Str_isLatin1 14 [l0] [vI s0] σ Q ↔ Wp L d k_Str_isLatin1 18 [l0] [vI s0] σ Q := wp_goto rfl
set_option maxRecDepth 4000 in
theorem r_Str_isLatin1_17 : Wp L d k_Str_isLatin1 17 [l0] [] σ Q ↔ Wp L d k_Str_isLatin1 18 [l0] [vI 0] σ Q := wp_push rfl
set_option maxRecDepth 4000 in
theorem r_Str_isLatin1_18 (h : s0 = 0 ∨ s0 = 1) : Wp L d k_Str_isLatin1 18 [l0] [vI s0] σ Q ↔ Q (some (vI s0)) σ := wp_zret rfl h
set_option maxRecDepth 4000 in
theorem sp_Str_isLatin1 {k : Nat} (hk : k < 13) (hc : TXc σ) : Run L d 4 [vR k] σ (some (vI 1)) σ := by
  refine Run_of (C' := k_Str_isLatin1) rfl ?_
  show Wp L d k_Str_isLatin1 0 [vR k] [] σ _
  have h0 := hc.2 k hk
  simp (disch := first | assumption | exact gb_01 _ | omega) only [r_Str_isLatin1_0, r_Str_isLatin1_3, r_Str_isLatin1_6, r_Str_isLatin1_10, r_Str_isLatin1_13, r_Str_isLatin1_14, r_Str_isLatin1_17, r_Str_isLatin1_18, x_Str_isLatin1_7, h0, w32_gb, w32i, tn_add, tn_mul, Int.toNat_natCast, Int.toNat_zero, Int.reduceLE, Int.reduceLT, Int.reduceEq, Int.reduceNe, gb_T, gb_F, Int.reduceToNat, eq_self, true_or, or_true, and_true, true_and, and_self, ↓ite_gb0, ↓ite_gbn, ↓if_pos, ↓if_neg, if_true, if_false, not_true_eq_false, not_false_eq_true, gb_ne0, gb_eq0]
set_option maxRecDepth 4000 in
theorem r_Str_length_0 : Wp L d k_Str_length 0 [vR b0] [] σ Q ↔ Wp L d k_Str_length 1 [vR b0] [vR b0] σ Q := wp_aload rfl rfl
set_option maxRecDepth 4000 in
theorem r_Str_length_5 : Wp L d k_Str_length 5 [vR b0] [vI s0] σ Q ↔ Wp L d k_Str_length 6 [vR b0] [vR b0, vI s0] σ Q := wp_aload rfl rfl
set_option maxRecDepth 4000 in
theorem c_Str_length_6 (hR : Run L d 2 [vR c1] σ r σ1) (hg : grecv (gSH L, σ) 21 [vR c1] = true) : Wp L (d + 1) k_Str_length 6 [l0] [vR c1, vI s0] σ Q ↔ Wp L (d + 1) k_Str_length 9 [l0] (r.toList ++ [vI s0]) σ1 Q := wp_callR (as := [vR c1]) (rest := [vI s0]) rfl rfl rfl rfl rfl rfl rfl hg hR
set_option maxRecDepth 4000 in
theorem r_Str_length_9 : Wp L d k_Str_length 9 [l0] [vI s1, vI s0] σ Q ↔ Wp L d k_Str_length 10 [l0] [vI (gshr s0 s1)] σ Q := wp_ishr rfl
set_option maxRecDepth 4000 in
theorem r_Str_length_10 : Wp L d k_Str_length 10 [l0] [vI s0] σ Q ↔ Q (some (vI s0)) σ := wp_iret rfl
set_option maxRecDepth 4000 in
theorem sp_Str_length {k : Nat} (hk : k < 13) (hc : TXc σ) : Run L (d + 1) 1 [vR k] σ (some (vI ((gln k : Nat) : Int))) σ := by
  refine Run_of (C' := k_Str_length) rfl ?_
  show Wp L (d + 1) k_Str_length 0 [vR k] [] σ _
  have hR := sp_Str_coder (L := L) (d := d) hk hc
  have hg := grecv_s (L := L) (σ := σ) (t := []) hk
  have h0 := gshr0 k hk
  simp (disch := first | assumption | exact gb_01 _ | omega) only [r_Str_length_0, r_Str_length_5, r_Str_length_9, r_Str_length_10, x_Str_length_1, x_Str_length_4, c_Str_length_6 hR hg, Option.toList, List.singleton_append, List.cons_append, List.nil_append, List.append_nil, h0, w32_gb, w32i, tn_add, tn_mul, Int.toNat_natCast, Int.toNat_zero, Int.reduceLE, Int.reduceLT, Int.reduceEq, Int.reduceNe, gb_T, gb_F, Int.reduceToNat, eq_self, true_or, or_true, and_true, true_and, and_self, ↓ite_gb0, ↓ite_gbn, ↓if_pos, ↓if_neg, if_true, if_false, not_true_eq_false, not_false_eq_true, gb_ne0, gb_eq0]
set_option maxRecDepth 4000 in
theorem r_Str_checkIndex_0 : Wp L d k_Str_checkIndex 0 [vI a0, l1] [] σ Q ↔ Wp L d k_Str_checkIndex 1 [vI a0, l1] [vI a0] σ Q := wp_iload rfl rfl
set_option maxRecDepth 4000 in
theorem r_Str_checkIndex_1 : Wp L d k_Str_checkIndex 1 [l0, vI a1] [vI s0] σ Q ↔ Wp L d k_Str_checkIndex 2 [l0, vI a1] [vI a1, vI s0] σ Q := wp_iload rfl rfl
set_option maxRecDepth 4000 in
theorem r_Str_checkIndex_2 : Wp L d k_Str_checkIndex 2 [l0, l1] [vI s1, vI s0] σ Q ↔ Wp L d k_Str_checkIndex 5 [l0, l1] [Sum.inr (Sum.inr (Sum.inr 1)), vI s1, vI s0] σ Q := wp_opq rfl
set_option maxRecDepth 4000 in
theorem c_Str_checkIndex_5 (hR : Run L d 12 [vI s0, vI s1, (Sum.inr (Sum.inr (Sum.inr 1)) : gV)] σ r σ1) : Wp L (d + 1) k_Str_checkIndex 5 [l0, l1] [(Sum.inr (Sum.inr (Sum.inr 1)) : gV), vI s1, vI s0] σ Q ↔ Wp L (d + 1) k_Str_checkIndex 8 [l0, l1] (r.toList ++ []) σ1 Q := wp_callR (as := [vI s0, vI s1, (Sum.inr (Sum.inr (Sum.inr 1)) : gV)]) (rest := []) rfl rfl rfl rfl rfl rfl rfl rfl hR
set_option maxRecDepth 4000 in
theorem r_Str_checkIndex_8 : Wp L d k_Str_checkIndex 8 [l0, l1] [vI s0] σ Q ↔ Wp L d k_Str_checkIndex 9 [l0, l1] [] σ Q := wp_pop rfl
set_option maxRecDepth 4000 in
theorem r_Str_checkIndex_9 : Wp L d k_Str_checkIndex 9 [l0, l1] [] σ Q ↔ Q none σ := wp_vret rfl
set_option maxRecDepth 4000 in
theorem r_Pre_checkIndex_0 : Wp L d k_Pre_checkIndex 0 [vI a0, l1, l2] [] σ Q ↔ Wp L d k_Pre_checkIndex 1 [vI a0, l1, l2] [vI a0] σ Q := wp_iload rfl rfl
set_option maxRecDepth 4000 in
theorem r_Pre_checkIndex_1 : Wp L d k_Pre_checkIndex 1 [l0, l1, l2] [vI s0] σ Q ↔ (if s0 < 0 then Wp L d k_Pre_checkIndex 9 [l0, l1, l2] [] σ Q else Wp L d k_Pre_checkIndex 4 [l0, l1, l2] [] σ Q) := wp_if_lt rfl
set_option maxRecDepth 4000 in
theorem r_Pre_checkIndex_4 : Wp L d k_Pre_checkIndex 4 [vI a0, l1, l2] [] σ Q ↔ Wp L d k_Pre_checkIndex 5 [vI a0, l1, l2] [vI a0] σ Q := wp_iload rfl rfl
set_option maxRecDepth 4000 in
theorem r_Pre_checkIndex_5 : Wp L d k_Pre_checkIndex 5 [l0, vI a1, l2] [vI s0] σ Q ↔ Wp L d k_Pre_checkIndex 6 [l0, vI a1, l2] [vI a1, vI s0] σ Q := wp_iload rfl rfl
set_option maxRecDepth 4000 in
theorem r_Pre_checkIndex_6 : Wp L d k_Pre_checkIndex 6 [l0, l1, l2] [vI s1, vI s0] σ Q ↔ (if s0 < s1 then Wp L d k_Pre_checkIndex 16 [l0, l1, l2] [] σ Q else Wp L d k_Pre_checkIndex 9 [l0, l1, l2] [] σ Q) := wp_cmp_lt rfl
set_option maxRecDepth 4000 in
theorem r_Pre_checkIndex_9 : Wp L d k_Pre_checkIndex 9 [l0, l1, vR b2] [] σ Q ↔ Wp L d k_Pre_checkIndex 10 [l0, l1, vR b2] [vR b2] σ Q := wp_aload rfl rfl
set_option maxRecDepth 4000 in
theorem r_Pre_checkIndex_10 : Wp L d k_Pre_checkIndex 10 [vI a0, l1, l2] [vR c0] σ Q ↔ Wp L d k_Pre_checkIndex 11 [vI a0, l1, l2] [vI a0, vR c0] σ Q := wp_iload rfl rfl
set_option maxRecDepth 4000 in
theorem r_Pre_checkIndex_11 : Wp L d k_Pre_checkIndex 11 [l0, vI a1, l2] [vI s1, vR c0] σ Q ↔ Wp L d k_Pre_checkIndex 12 [l0, vI a1, l2] [vI a1, vI s1, vR c0] σ Q := wp_iload rfl rfl
set_option maxRecDepth 4000 in
theorem r_Pre_checkIndex_16 : Wp L d k_Pre_checkIndex 16 [vI a0, l1, l2] [] σ Q ↔ Wp L d k_Pre_checkIndex 17 [vI a0, l1, l2] [vI a0] σ Q := wp_iload rfl rfl
set_option maxRecDepth 4000 in
theorem r_Pre_checkIndex_17 : Wp L d k_Pre_checkIndex 17 [l0, l1, l2] [vI s0] σ Q ↔ Q (some (vI s0)) σ := wp_iret rfl
set_option maxRecDepth 4000 in
theorem sp_Pre_checkIndex (h : 0 ≤ a0 ∧ a0 < a1) : Run L d 12 [vI a0, vI a1, (Sum.inr (Sum.inr (Sum.inr 1)) : gV)] σ (some (vI a0)) σ := by
  refine Run_of (C' := k_Pre_checkIndex) rfl ?_
  show Wp L d k_Pre_checkIndex 0 [vI a0, vI a1, (Sum.inr (Sum.inr (Sum.inr 1)) : gV)] [] σ _
  simp (disch := first | assumption | exact gb_01 _ | omega) only [r_Pre_checkIndex_0, r_Pre_checkIndex_1, r_Pre_checkIndex_4, r_Pre_checkIndex_5, r_Pre_checkIndex_6, r_Pre_checkIndex_9, r_Pre_checkIndex_10, r_Pre_checkIndex_11, r_Pre_checkIndex_16, r_Pre_checkIndex_17, w32_gb, w32i, tn_add, tn_mul, Int.toNat_natCast, Int.toNat_zero, Int.reduceLE, Int.reduceLT, Int.reduceEq, Int.reduceNe, gb_T, gb_F, Int.reduceToNat, eq_self, true_or, or_true, and_true, true_and, and_self, ↓ite_gb0, ↓ite_gbn, ↓if_pos, ↓if_neg, if_true, if_false, not_true_eq_false, not_false_eq_true, gb_ne0, gb_eq0]
set_option maxRecDepth 4000 in
theorem sp_Str_checkIndex (h : 0 ≤ a0 ∧ a0 < a1) : Run L (d + 1) 11 [vI a0, vI a1] σ none σ := by
  refine Run_of (C' := k_Str_checkIndex) rfl ?_
  show Wp L (d + 1) k_Str_checkIndex 0 [vI a0, vI a1] [] σ _
  have hR := sp_Pre_checkIndex (L := L) (d := d) (σ := σ) h
  simp (disch := first | assumption | exact gb_01 _ | omega) only [r_Str_checkIndex_0, r_Str_checkIndex_1, r_Str_checkIndex_2, r_Str_checkIndex_8, r_Str_checkIndex_9, c_Str_checkIndex_5 hR, Option.toList, List.singleton_append, List.cons_append, List.nil_append, List.append_nil, w32_gb, w32i, tn_add, tn_mul, Int.toNat_natCast, Int.toNat_zero, Int.reduceLE, Int.reduceLT, Int.reduceEq, Int.reduceNe, gb_T, gb_F, Int.reduceToNat, eq_self, true_or, or_true, and_true, true_and, and_self, ↓ite_gb0, ↓ite_gbn, ↓if_pos, ↓if_neg, if_true, if_false, not_true_eq_false, not_false_eq_true, gb_ne0, gb_eq0]
set_option maxRecDepth 4000 in
theorem r_Lat_charAt_0 : Wp L d k_Lat_charAt 0 [l0, vI a1] [] σ Q ↔ Wp L d k_Lat_charAt 1 [l0, vI a1] [vI a1] σ Q := wp_iload rfl rfl
set_option maxRecDepth 4000 in
theorem r_Lat_charAt_1 : Wp L d k_Lat_charAt 1 [vR b0, l1] [vI s0] σ Q ↔ Wp L d k_Lat_charAt 2 [vR b0, l1] [vR b0, vI s0] σ Q := wp_aload rfl rfl
set_option maxRecDepth 4000 in
theorem c_Lat_charAt_3 (hR : Run L d 11 [vI s0, vI s1] σ r σ1) : Wp L (d + 1) k_Lat_charAt 3 [l0, l1] [vI s1, vI s0] σ Q ↔ Wp L (d + 1) k_Lat_charAt 6 [l0, l1] (r.toList ++ []) σ1 Q := wp_callR (as := [vI s0, vI s1]) (rest := []) rfl rfl rfl rfl rfl rfl rfl rfl hR
set_option maxRecDepth 4000 in
theorem r_Lat_charAt_6 : Wp L d k_Lat_charAt 6 [vR b0, l1] [] σ Q ↔ Wp L d k_Lat_charAt 7 [vR b0, l1] [vR b0] σ Q := wp_aload rfl rfl
set_option maxRecDepth 4000 in
theorem r_Lat_charAt_7 : Wp L d k_Lat_charAt 7 [l0, vI a1] [vR c0] σ Q ↔ Wp L d k_Lat_charAt 8 [l0, vI a1] [vI a1, vR c0] σ Q := wp_iload rfl rfl
set_option maxRecDepth 4000 in
theorem r_Lat_charAt_8 (h : gK c0 = 101) (hx : 0 ≤ s1 ∧ s1 < gN c0) : Wp L d k_Lat_charAt 8 [l0, l1] [vI s1, vR c0] σ Q ↔ Wp L d k_Lat_charAt 9 [l0, l1] [vI (σ c0 s1.toNat)] σ Q := wp_bald rfl h hx
set_option maxRecDepth 4000 in
theorem r_Lat_charAt_9 : Wp L d k_Lat_charAt 9 [l0, l1] [vI s0] σ Q ↔ Wp L d k_Lat_charAt 12 [l0, l1] [vI 255, vI s0] σ Q := wp_push rfl
set_option maxRecDepth 4000 in
theorem r_Lat_charAt_12 : Wp L d k_Lat_charAt 12 [l0, l1] [vI s1, vI s0] σ Q ↔ Wp L d k_Lat_charAt 13 [l0, l1] [vI (gand s0 s1)] σ Q := wp_iand rfl
set_option maxRecDepth 4000 in
theorem r_Lat_charAt_13 : Wp L d k_Lat_charAt 13 [l0, l1] [vI s0] σ Q ↔ Wp L d k_Lat_charAt 14 [l0, l1] [vI (gi2c s0)] σ Q := wp_i2c rfl
set_option maxRecDepth 4000 in
theorem r_Lat_charAt_14 (h : 0 ≤ s0 ∧ s0 < 65536) : Wp L d k_Lat_charAt 14 [l0, l1] [vI s0] σ Q ↔ Q (some (vI s0)) σ := wp_cret rfl h
set_option maxRecDepth 4000 in
theorem sp_Lat_charAt {k : Nat} (hk : k < 13) (hc : TXc σ) (h : 0 ≤ a1 ∧ a1 < ((gln k : Nat) : Int)) : Run L (d + 2) 7 [vR (13 + k), vI a1] σ (some (vI (gby k a1.toNat))) σ := by
  refine Run_of (C' := k_Lat_charAt) rfl ?_
  show Wp L (d + 2) k_Lat_charAt 0 [vR (13 + k), vI a1] [] σ _
  have hR := sp_Str_checkIndex (L := L) (d := d) (σ := σ) h
  have h1 := gand255 k hk a1.toNat (by omega)
  have h2 := gby_bd k hk a1.toNat (by omega)
  have h3 : gi2c (gby k a1.toNat) = gby k a1.toNat := by unfold gi2c; omega
  have h4 := TXc_b hc hk a1.toNat
  simp (disch := first | assumption | exact gb_01 _ | omega) only [r_Lat_charAt_0, r_Lat_charAt_1, r_Lat_charAt_6, r_Lat_charAt_7, r_Lat_charAt_9, r_Lat_charAt_12, r_Lat_charAt_13, r_Lat_charAt_14, x_Lat_charAt_2, x_Lat_charAt_8, c_Lat_charAt_3 hR, Option.toList, List.singleton_append, List.cons_append, List.nil_append, List.append_nil, h1, h3, h4, w32_gb, w32i, tn_add, tn_mul, Int.toNat_natCast, Int.toNat_zero, Int.reduceLE, Int.reduceLT, Int.reduceEq, Int.reduceNe, gb_T, gb_F, Int.reduceToNat, eq_self, true_or, or_true, and_true, true_and, and_self, ↓ite_gb0, ↓ite_gbn, ↓if_pos, ↓if_neg, if_true, if_false, not_true_eq_false, not_false_eq_true, gb_ne0, gb_eq0]
set_option maxRecDepth 4000 in
theorem r_Str_charAt_0 : Wp L d k_Str_charAt 0 [vR b0, l1] [] σ Q ↔ Wp L d k_Str_charAt 1 [vR b0, l1] [vR b0] σ Q := wp_aload rfl rfl
set_option maxRecDepth 4000 in
theorem c_Str_charAt_1 (hR : Run L d 4 [vR c0] σ r σ1) (hg : grecv (gSH L, σ) 21 [vR c0] = true) : Wp L (d + 1) k_Str_charAt 1 [l0, l1] [vR c0] σ Q ↔ Wp L (d + 1) k_Str_charAt 4 [l0, l1] (r.toList ++ []) σ1 Q := wp_callR (as := [vR c0]) (rest := []) rfl rfl rfl rfl rfl rfl rfl hg hR
set_option maxRecDepth 4000 in
theorem r_Str_charAt_4 : Wp L d k_Str_charAt 4 [l0, l1] [vI s0] σ Q ↔ (if s0 = 0 then Wp L d k_Str_charAt 16 [l0, l1] [] σ Q else Wp L d k_Str_charAt 7 [l0, l1] [] σ Q) := wp_if_eq rfl
set_option maxRecDepth 4000 in
theorem r_Str_charAt_7 : Wp L d k_Str_charAt 7 [vR b0, l1] [] σ Q ↔ Wp L d k_Str_charAt 8 [vR b0, l1] [vR b0] σ Q := wp_aload rfl rfl
set_option maxRecDepth 4000 in
theorem r_Str_charAt_11 : Wp L d k_Str_charAt 11 [l0, vI a1] [vR c0] σ Q ↔ Wp L d k_Str_charAt 12 [l0, vI a1] [vI a1, vR c0] σ Q := wp_iload rfl rfl
set_option maxRecDepth 4000 in
theorem c_Str_charAt_12 (hR : Run L d 7 [vR c0, vI s1] σ r σ1) : Wp L (d + 1) k_Str_charAt 12 [l0, l1] [vI s1, vR c0] σ Q ↔ Wp L (d + 1) k_Str_charAt 15 [l0, l1] (r.toList ++ []) σ1 Q := wp_callR (as := [vR c0, vI s1]) (rest := []) rfl rfl rfl rfl rfl rfl rfl rfl hR
set_option maxRecDepth 4000 in
theorem r_Str_charAt_15 (h : 0 ≤ s0 ∧ s0 < 65536) : Wp L d k_Str_charAt 15 [l0, l1] [vI s0] σ Q ↔ Q (some (vI s0)) σ := wp_cret rfl h
set_option maxRecDepth 4000 in
theorem r_Str_charAt_16 : Wp L d k_Str_charAt 16 [vR b0, l1] [] σ Q ↔ Wp L d k_Str_charAt 17 [vR b0, l1] [vR b0] σ Q := wp_aload rfl rfl
set_option maxRecDepth 4000 in
theorem r_Str_charAt_20 : Wp L d k_Str_charAt 20 [l0, vI a1] [vR c0] σ Q ↔ Wp L d k_Str_charAt 21 [l0, vI a1] [vI a1, vR c0] σ Q := wp_iload rfl rfl
set_option maxRecDepth 4000 in
theorem sp_Str_charAt {k : Nat} (hk : k < 13) (hc : TXc σ) (h : 0 ≤ a1 ∧ a1 < ((gln k : Nat) : Int)) : Run L (d + 3) 3 [vR k, vI a1] σ (some (vI (gby k a1.toNat))) σ := by
  refine Run_of (C' := k_Str_charAt) rfl ?_
  show Wp L (d + 3) k_Str_charAt 0 [vR k, vI a1] [] σ _
  have hR := sp_Str_isLatin1 (L := L) (d := d + 2) hk hc
  have hg := grecv_s (L := L) (σ := σ) (t := []) hk
  have hR2 := sp_Lat_charAt (L := L) (d := d) hk hc h
  have h2 := gby_bd k hk a1.toNat (by omega)
  simp (disch := first | assumption | exact gb_01 _ | omega) only [r_Str_charAt_0, r_Str_charAt_4, r_Str_charAt_7, r_Str_charAt_11, r_Str_charAt_15, r_Str_charAt_16, r_Str_charAt_20, x_Str_charAt_8, c_Str_charAt_1 hR hg, c_Str_charAt_12 hR2, Option.toList, List.singleton_append, List.cons_append, List.nil_append, List.append_nil, w32_gb, w32i, tn_add, tn_mul, Int.toNat_natCast, Int.toNat_zero, Int.reduceLE, Int.reduceLT, Int.reduceEq, Int.reduceNe, gb_T, gb_F, Int.reduceToNat, eq_self, true_or, or_true, and_true, true_and, and_self, ↓ite_gb0, ↓ite_gbn, ↓if_pos, ↓if_neg, if_true, if_false, not_true_eq_false, not_false_eq_true, gb_ne0, gb_eq0]
set_option maxRecDepth 4000 in
theorem r_Lat_canEncode_0 : Wp L d k_Lat_canEncode 0 [vI a0] [] σ Q ↔ Wp L d k_Lat_canEncode 1 [vI a0] [vI a0] σ Q := wp_iload rfl rfl
set_option maxRecDepth 4000 in
theorem r_Lat_canEncode_1 : Wp L d k_Lat_canEncode 1 [l0] [vI s0] σ Q ↔ (if s0 < 0 then Wp L d k_Lat_canEncode 15 [l0] [] σ Q else Wp L d k_Lat_canEncode 4 [l0] [] σ Q) := wp_if_lt rfl
set_option maxRecDepth 4000 in
theorem r_Lat_canEncode_4 : Wp L d k_Lat_canEncode 4 [vI a0] [] σ Q ↔ Wp L d k_Lat_canEncode 5 [vI a0] [vI a0] σ Q := wp_iload rfl rfl
set_option maxRecDepth 4000 in
theorem r_Lat_canEncode_5 : Wp L d k_Lat_canEncode 5 [l0] [vI s0] σ Q ↔ Wp L d k_Lat_canEncode 8 [l0] [vI 255, vI s0] σ Q := wp_push rfl
set_option maxRecDepth 4000 in
theorem r_Lat_canEncode_8 : Wp L d k_Lat_canEncode 8 [l0] [vI s1, vI s0] σ Q ↔ (if s1 < s0 then Wp L d k_Lat_canEncode 15 [l0] [] σ Q else Wp L d k_Lat_canEncode 11 [l0] [] σ Q) := wp_cmp_gt rfl
set_option maxRecDepth 4000 in
theorem r_Lat_canEncode_11 : Wp L d k_Lat_canEncode 11 [l0] [] σ Q ↔ Wp L d k_Lat_canEncode 12 [l0] [vI 1] σ Q := wp_push rfl
set_option maxRecDepth 4000 in
theorem r_Lat_canEncode_12 : Wp L d k_Lat_canEncode 12 [l0] [vI s0] σ Q ↔ Wp L d k_Lat_canEncode 16 [l0] [vI s0] σ Q := wp_goto rfl
set_option maxRecDepth 4000 in
theorem r_Lat_canEncode_15 : Wp L d k_Lat_canEncode 15 [l0] [] σ Q ↔ Wp L d k_Lat_canEncode 16 [l0] [vI 0] σ Q := wp_push rfl
set_option maxRecDepth 4000 in
theorem r_Lat_canEncode_16 (h : s0 = 0 ∨ s0 = 1) : Wp L d k_Lat_canEncode 16 [l0] [vI s0] σ Q ↔ Q (some (vI s0)) σ := wp_zret rfl h
set_option maxRecDepth 4000 in
theorem sp_Lat_canEncode (h : 0 ≤ a0 ∧ a0 ≤ 255) : Run L d 9 [vI a0] σ (some (vI 1)) σ := by
  refine Run_of (C' := k_Lat_canEncode) rfl ?_
  show Wp L d k_Lat_canEncode 0 [vI a0] [] σ _
  simp (disch := first | assumption | exact gb_01 _ | omega) only [r_Lat_canEncode_0, r_Lat_canEncode_1, r_Lat_canEncode_4, r_Lat_canEncode_5, r_Lat_canEncode_8, r_Lat_canEncode_11, r_Lat_canEncode_12, r_Lat_canEncode_15, r_Lat_canEncode_16, w32_gb, w32i, tn_add, tn_mul, Int.toNat_natCast, Int.toNat_zero, Int.reduceLE, Int.reduceLT, Int.reduceEq, Int.reduceNe, gb_T, gb_F, Int.reduceToNat, eq_self, true_or, or_true, and_true, true_and, and_self, ↓ite_gb0, ↓ite_gbn, ↓if_pos, ↓if_neg, if_true, if_false, not_true_eq_false, not_false_eq_true, gb_ne0, gb_eq0]
set_option maxRecDepth 4000 in
theorem r_Lat_indexOfChar_0 : Wp L d k_Lat_indexOfChar 0 [l0, vI a1, l2, l3, l4, l5] [] σ Q ↔ Wp L d k_Lat_indexOfChar 1 [l0, vI a1, l2, l3, l4, l5] [vI a1] σ Q := wp_iload rfl rfl
set_option maxRecDepth 4000 in
theorem r_Lat_indexOfChar_1 : Wp L d k_Lat_indexOfChar 1 [l0, l1, l2, l3, l4, l5] [vI s0] σ Q ↔ Wp L d k_Lat_indexOfChar 2 [l0, l1, l2, l3, l4, l5] [vI (gi2b s0)] σ Q := wp_i2b rfl
set_option maxRecDepth 4000 in
theorem r_Lat_indexOfChar_2 : Wp L d k_Lat_indexOfChar 2 [l0, l1, l2, vI a3, l4, l5] [vI s0] σ Q ↔ Wp L d k_Lat_indexOfChar 4 [l0, l1, l2, vI a3, vI s0, l5] [] σ Q := wp_istore (i := 4) (ls := [l0, l1, l2, vI a3, l4, l5]) rfl rfl
set_option maxRecDepth 4000 in
theorem r_Lat_indexOfChar_4 : Wp L d k_Lat_indexOfChar 4 [l0, l1, vI a2, l3, l4, l5] [] σ Q ↔ Wp L d k_Lat_indexOfChar 5 [l0, l1, vI a2, l3, l4, l5] [vI a2] σ Q := wp_iload rfl rfl
set_option maxRecDepth 4000 in
theorem r_Lat_indexOfChar_5 : Wp L d k_Lat_indexOfChar 5 [l0, l1, l2, l3, vI a4, l5] [vI s0] σ Q ↔ Wp L d k_Lat_indexOfChar 7 [l0, l1, l2, l3, vI a4, vI s0] [] σ Q := wp_istore (i := 5) (ls := [l0, l1, l2, l3, vI a4, l5]) rfl rfl
set_option maxRecDepth 4000 in
theorem r_Lat_indexOfChar_7 : Wp L d k_Lat_indexOfChar 7 [l0, l1, l2, l3, l4, vI a5] [] σ Q ↔ Wp L d k_Lat_indexOfChar 9 [l0, l1, l2, l3, l4, vI a5] [vI a5] σ Q := wp_iload rfl rfl
set_option maxRecDepth 4000 in
theorem r_Lat_indexOfChar_9 : Wp L d k_Lat_indexOfChar 9 [l0, l1, l2, vI a3, l4, l5] [vI s0] σ Q ↔ Wp L d k_Lat_indexOfChar 10 [l0, l1, l2, vI a3, l4, l5] [vI a3, vI s0] σ Q := wp_iload rfl rfl
set_option maxRecDepth 4000 in
theorem r_Lat_indexOfChar_10 : Wp L d k_Lat_indexOfChar 10 [l0, l1, l2, l3, l4, l5] [vI s1, vI s0] σ Q ↔ (if s1 ≤ s0 then Wp L d k_Lat_indexOfChar 31 [l0, l1, l2, l3, l4, l5] [] σ Q else Wp L d k_Lat_indexOfChar 13 [l0, l1, l2, l3, l4, l5] [] σ Q) := wp_cmp_ge rfl
set_option maxRecDepth 4000 in
theorem r_Lat_indexOfChar_13 : Wp L d k_Lat_indexOfChar 13 [vR b0, l1, l2, l3, l4, l5] [] σ Q ↔ Wp L d k_Lat_indexOfChar 14 [vR b0, l1, l2, l3, l4, l5] [vR b0] σ Q := wp_aload rfl rfl
set_option maxRecDepth 4000 in
theorem r_Lat_indexOfChar_14 : Wp L d k_Lat_indexOfChar 14 [l0, l1, l2, l3, l4, vI a5] [vR c0] σ Q ↔ Wp L d k_Lat_indexOfChar 16 [l0, l1, l2, l3, l4, vI a5] [vI a5, vR c0] σ Q := wp_iload rfl rfl
set_option maxRecDepth 4000 in
theorem r_Lat_indexOfChar_16 (h : gK c0 = 101) (hx : 0 ≤ s1 ∧ s1 < gN c0) : Wp L d k_Lat_indexOfChar 16 [l0, l1, l2, l3, l4, l5] [vI s1, vR c0] σ Q ↔ Wp L d k_Lat_indexOfChar 17 [l0, l1, l2, l3, l4, l5] [vI (σ c0 s1.toNat)] σ Q := wp_bald rfl h hx
set_option maxRecDepth 4000 in
theorem r_Lat_indexOfChar_17 : Wp L d k_Lat_indexOfChar 17 [l0, l1, l2, l3, vI a4, l5] [vI s0] σ Q ↔ Wp L d k_Lat_indexOfChar 19 [l0, l1, l2, l3, vI a4, l5] [vI a4, vI s0] σ Q := wp_iload rfl rfl
set_option maxRecDepth 4000 in
theorem r_Lat_indexOfChar_19 : Wp L d k_Lat_indexOfChar 19 [l0, l1, l2, l3, l4, l5] [vI s1, vI s0] σ Q ↔ (if s0 ≠ s1 then Wp L d k_Lat_indexOfChar 25 [l0, l1, l2, l3, l4, l5] [] σ Q else Wp L d k_Lat_indexOfChar 22 [l0, l1, l2, l3, l4, l5] [] σ Q) := wp_cmp_ne rfl
set_option maxRecDepth 4000 in
theorem r_Lat_indexOfChar_22 : Wp L d k_Lat_indexOfChar 22 [l0, l1, l2, l3, l4, vI a5] [] σ Q ↔ Wp L d k_Lat_indexOfChar 24 [l0, l1, l2, l3, l4, vI a5] [vI a5] σ Q := wp_iload rfl rfl
set_option maxRecDepth 4000 in
theorem r_Lat_indexOfChar_24 : Wp L d k_Lat_indexOfChar 24 [l0, l1, l2, l3, l4, l5] [vI s0] σ Q ↔ Q (some (vI s0)) σ := wp_iret rfl
set_option maxRecDepth 4000 in
theorem r_Lat_indexOfChar_25 : Wp L d k_Lat_indexOfChar 25 [l0, l1, l2, l3, vI a4, vI a5] [] σ Q ↔ Wp L d k_Lat_indexOfChar 28 [l0, l1, l2, l3, vI a4, vI (w32 (a5 + 1))] [] σ Q := wp_iinc (i := 5) (ls := [l0, l1, l2, l3, vI a4, vI a5]) rfl rfl
set_option maxRecDepth 4000 in
theorem r_Lat_indexOfChar_28 : Wp L d k_Lat_indexOfChar 28 [l0, l1, l2, l3, l4, l5] [] σ Q ↔ Wp L d k_Lat_indexOfChar 7 [l0, l1, l2, l3, l4, l5] [] σ Q := wp_goto rfl
set_option maxRecDepth 4000 in
theorem r_Lat_indexOfChar_31 : Wp L d k_Lat_indexOfChar 31 [l0, l1, l2, l3, l4, l5] [] σ Q ↔ Wp L d k_Lat_indexOfChar 32 [l0, l1, l2, l3, l4, l5] [vI (-1)] σ Q := wp_push rfl
set_option maxRecDepth 4000 in
theorem r_Lat_indexOfChar_32 : Wp L d k_Lat_indexOfChar 32 [l0, l1, l2, l3, l4, l5] [vI s0] σ Q ↔ Q (some (vI s0)) σ := wp_iret rfl
set_option maxRecDepth 4000 in
theorem sp_Lat_indexOfChar {k : Nat} (hk : k < 13) (hc : TXc σ) (h : 0 ≤ a1 ∧ a1 ≤ 255) : Run L d 10 [vR (13 + k), vI a1, vI 0, vI ((gln k : Nat) : Int)] σ (some (vI (gfx k a1 0 (gln k)))) σ := by
  refine Run_of (C' := k_Lat_indexOfChar) rfl ?_
  show Wp L d k_Lat_indexOfChar 0 [vR (13 + k), vI a1, vI 0, vI ((gln k : Nat) : Int), vU, vU] [] σ _
  have lb := gln_le k hk
  have go : Wp L d k_Lat_indexOfChar 7 [vR (13 + k), vI a1, vI 0, vI ((gln k : Nat) : Int), vI (gi2b a1), vI ((0 : Nat) : Int)] [] σ (fun r' σ' => r' = some (vI (gfx k a1 0 (gln k))) ∧ σ' = σ) := by
    refine wloop (n := gln k) (I := fun i ls τ => ls = [vR (13 + k), vI a1, vI 0, vI ((gln k : Nat) : Int), vI (gi2b a1), vI ((i : Nat) : Int)] ∧ τ = σ ∧ gfx k a1 0 (gln k) = gfx k a1 i (gln k - i)) (fun i ls τ hi hI hq => ?_) (fun ls τ hI => ?_) (gln k) 0 (by omega) _ _ ⟨rfl, rfl, rfl⟩
    · obtain ⟨rfl, rfl, hx⟩ := hI
      have h4 := TXc_b hc hk i
      have h2 := gby_bd k hk i hi
      rw [show gln k - i = (gln k - i - 1) + 1 by omega] at hx
      rw [r_Lat_indexOfChar_7]
      by_cases c : gby k i = a1
      · have e1 : gi2b a1 = gby k i := by unfold gi2b; omega
        have e2 : gfx k a1 0 (gln k) = (i : Int) := hx.trans (if_pos c)
        rw [e1, e2]
        simp (disch := first | assumption | exact gb_01 _ | omega) only [r_Lat_indexOfChar_0, r_Lat_indexOfChar_1, r_Lat_indexOfChar_2, r_Lat_indexOfChar_4, r_Lat_indexOfChar_5, r_Lat_indexOfChar_9, r_Lat_indexOfChar_10, r_Lat_indexOfChar_13, r_Lat_indexOfChar_14, r_Lat_indexOfChar_17, r_Lat_indexOfChar_19, r_Lat_indexOfChar_22, r_Lat_indexOfChar_24, r_Lat_indexOfChar_25, r_Lat_indexOfChar_28, r_Lat_indexOfChar_31, r_Lat_indexOfChar_32, x_Lat_indexOfChar_16, h4, w32_gb, w32i, tn_add, tn_mul, Int.toNat_natCast, Int.toNat_zero, Int.reduceLE, Int.reduceLT, Int.reduceEq, Int.reduceNe, gb_T, gb_F, Int.reduceToNat, eq_self, true_or, or_true, and_true, true_and, and_self, ↓ite_gb0, ↓ite_gbn, ↓if_pos, ↓if_neg, if_true, if_false, not_true_eq_false, not_false_eq_true, gb_ne0, gb_eq0]
      · have e1 : gby k i ≠ gi2b a1 := by unfold gi2b; omega
        have e2 : gfx k a1 0 (gln k) = gfx k a1 (i + 1) (gln k - i - 1) := hx.trans (if_neg c)
        simp (disch := first | assumption | exact gb_01 _ | omega) only [r_Lat_indexOfChar_0, r_Lat_indexOfChar_1, r_Lat_indexOfChar_2, r_Lat_indexOfChar_4, r_Lat_indexOfChar_5, r_Lat_indexOfChar_9, r_Lat_indexOfChar_10, r_Lat_indexOfChar_13, r_Lat_indexOfChar_14, r_Lat_indexOfChar_17, r_Lat_indexOfChar_19, r_Lat_indexOfChar_22, r_Lat_indexOfChar_24, r_Lat_indexOfChar_25, r_Lat_indexOfChar_28, r_Lat_indexOfChar_31, r_Lat_indexOfChar_32, x_Lat_indexOfChar_16, h4, w32_gb, w32i, tn_add, tn_mul, Int.toNat_natCast, Int.toNat_zero, Int.reduceLE, Int.reduceLT, Int.reduceEq, Int.reduceNe, gb_T, gb_F, Int.reduceToNat, eq_self, true_or, or_true, and_true, true_and, and_self, ↓ite_gb0, ↓ite_gbn, ↓if_pos, ↓if_neg, if_true, if_false, not_true_eq_false, not_false_eq_true, gb_ne0, gb_eq0]
        refine hq _ _ ⟨?_, rfl, by rw [e2]; congr 1⟩
        rfl
    · obtain ⟨rfl, rfl, hx⟩ := hI
      rw [show gln k - gln k = 0 by omega] at hx
      have hx : gfx k a1 0 (gln k) = -1 := hx
      rw [r_Lat_indexOfChar_7, hx]
      simp (disch := first | assumption | exact gb_01 _ | omega) only [r_Lat_indexOfChar_0, r_Lat_indexOfChar_1, r_Lat_indexOfChar_2, r_Lat_indexOfChar_4, r_Lat_indexOfChar_5, r_Lat_indexOfChar_9, r_Lat_indexOfChar_10, r_Lat_indexOfChar_13, r_Lat_indexOfChar_14, r_Lat_indexOfChar_17, r_Lat_indexOfChar_19, r_Lat_indexOfChar_22, r_Lat_indexOfChar_24, r_Lat_indexOfChar_25, r_Lat_indexOfChar_28, r_Lat_indexOfChar_31, r_Lat_indexOfChar_32, w32_gb, w32i, tn_add, tn_mul, Int.toNat_natCast, Int.toNat_zero, Int.reduceLE, Int.reduceLT, Int.reduceEq, Int.reduceNe, gb_T, gb_F, Int.reduceToNat, eq_self, true_or, or_true, and_true, true_and, and_self, ↓ite_gb0, ↓ite_gbn, ↓if_pos, ↓if_neg, if_true, if_false, not_true_eq_false, not_false_eq_true, gb_ne0, gb_eq0]
  simp (disch := first | assumption | exact gb_01 _ | omega) only [r_Lat_indexOfChar_0, r_Lat_indexOfChar_1, r_Lat_indexOfChar_2, r_Lat_indexOfChar_4, r_Lat_indexOfChar_5, r_Lat_indexOfChar_9, r_Lat_indexOfChar_10, r_Lat_indexOfChar_13, r_Lat_indexOfChar_14, r_Lat_indexOfChar_17, r_Lat_indexOfChar_19, r_Lat_indexOfChar_22, r_Lat_indexOfChar_24, r_Lat_indexOfChar_25, r_Lat_indexOfChar_28, r_Lat_indexOfChar_31, r_Lat_indexOfChar_32, w32_gb, w32i, tn_add, tn_mul, Int.toNat_natCast, Int.toNat_zero, Int.reduceLE, Int.reduceLT, Int.reduceEq, Int.reduceNe, gb_T, gb_F, Int.reduceToNat, eq_self, true_or, or_true, and_true, true_and, and_self, ↓ite_gb0, ↓ite_gbn, ↓if_pos, ↓if_neg, if_true, if_false, not_true_eq_false, not_false_eq_true, gb_ne0, gb_eq0]
  exact go
set_option maxRecDepth 4000 in
theorem r_Lat_indexOf_0 : Wp L d k_Lat_indexOf 0 [l0, vI a1, l2, l3] [] σ Q ↔ Wp L d k_Lat_indexOf 1 [l0, vI a1, l2, l3] [vI a1] σ Q := wp_iload rfl rfl
set_option maxRecDepth 4000 in
theorem c_Lat_indexOf_1 (hR : Run L d 9 [vI s0] σ r σ1) : Wp L (d + 1) k_Lat_indexOf 1 [l0, l1, l2, l3] [vI s0] σ Q ↔ Wp L (d + 1) k_Lat_indexOf 4 [l0, l1, l2, l3] (r.toList ++ []) σ1 Q := wp_callR (as := [vI s0]) (rest := []) rfl rfl rfl rfl rfl rfl rfl rfl hR
set_option maxRecDepth 4000 in
theorem r_Lat_indexOf_4 : Wp L d k_Lat_indexOf 4 [l0, l1, l2, l3] [vI s0] σ Q ↔ (if s0 ≠ 0 then Wp L d k_Lat_indexOf 9 [l0, l1, l2, l3] [] σ Q else Wp L d k_Lat_indexOf 7 [l0, l1, l2, l3] [] σ Q) := wp_if_ne rfl
set_option maxRecDepth 4000 in
theorem r_Lat_indexOf_7 : Wp L d k_Lat_indexOf 7 [l0, l1, l2, l3] [] σ Q ↔ Wp L d k_Lat_indexOf 8 [l0, l1, l2, l3] [vI (-1)] σ Q := wp_push rfl
set_option maxRecDepth 4000 in
theorem r_Lat_indexOf_8 : Wp L d k_Lat_indexOf 8 [l0, l1, l2, l3] [vI s0] σ Q ↔ Q (some (vI s0)) σ := wp_iret rfl
set_option maxRecDepth 4000 in
theorem r_Lat_indexOf_9 : Wp L d k_Lat_indexOf 9 [l0, l1, vI a2, l3] [] σ Q ↔ Wp L d k_Lat_indexOf 10 [l0, l1, vI a2, l3] [vI a2] σ Q := wp_iload rfl rfl
set_option maxRecDepth 4000 in
theorem r_Lat_indexOf_10 : Wp L d k_Lat_indexOf 10 [l0, l1, l2, l3] [vI s0] σ Q ↔ Wp L d k_Lat_indexOf 11 [l0, l1, l2, l3] [vI 0, vI s0] σ Q := wp_push rfl
set_option maxRecDepth 4000 in
theorem r_Lat_indexOf_11 : Wp L d k_Lat_indexOf 11 [l0, l1, l2, l3] [vI s1, vI s0] σ Q ↔ Wp L d k_Lat_indexOf 14 [l0, l1, l2, l3] [vI (max s0 s1)] σ Q := wp_max rfl rfl
set_option maxRecDepth 4000 in
theorem r_Lat_indexOf_14 : Wp L d k_Lat_indexOf 14 [l0, vI a1, l2, l3] [vI s0] σ Q ↔ Wp L d k_Lat_indexOf 15 [l0, vI a1, vI s0, l3] [] σ Q := wp_istore (i := 2) (ls := [l0, vI a1, l2, l3]) rfl rfl
set_option maxRecDepth 4000 in
theorem r_Lat_indexOf_15 : Wp L d k_Lat_indexOf 15 [l0, l1, l2, vI a3] [] σ Q ↔ Wp L d k_Lat_indexOf 16 [l0, l1, l2, vI a3] [vI a3] σ Q := wp_iload rfl rfl
set_option maxRecDepth 4000 in
theorem r_Lat_indexOf_16 : Wp L d k_Lat_indexOf 16 [vR b0, l1, l2, l3] [vI s0] σ Q ↔ Wp L d k_Lat_indexOf 17 [vR b0, l1, l2, l3] [vR b0, vI s0] σ Q := wp_aload rfl rfl
set_option maxRecDepth 4000 in
theorem r_Lat_indexOf_18 : Wp L d k_Lat_indexOf 18 [l0, l1, l2, l3] [vI s1, vI s0] σ Q ↔ Wp L d k_Lat_indexOf 21 [l0, l1, l2, l3] [vI (min s0 s1)] σ Q := wp_min rfl rfl
set_option maxRecDepth 4000 in
theorem r_Lat_indexOf_21 : Wp L d k_Lat_indexOf 21 [l0, l1, vI a2, l3] [vI s0] σ Q ↔ Wp L d k_Lat_indexOf 22 [l0, l1, vI a2, vI s0] [] σ Q := wp_istore (i := 3) (ls := [l0, l1, vI a2, l3]) rfl rfl
set_option maxRecDepth 4000 in
theorem r_Lat_indexOf_22 : Wp L d k_Lat_indexOf 22 [l0, l1, vI a2, l3] [] σ Q ↔ Wp L d k_Lat_indexOf 23 [l0, l1, vI a2, l3] [vI a2] σ Q := wp_iload rfl rfl
set_option maxRecDepth 4000 in
theorem r_Lat_indexOf_23 : Wp L d k_Lat_indexOf 23 [l0, l1, l2, vI a3] [vI s0] σ Q ↔ Wp L d k_Lat_indexOf 24 [l0, l1, l2, vI a3] [vI a3, vI s0] σ Q := wp_iload rfl rfl
set_option maxRecDepth 4000 in
theorem r_Lat_indexOf_24 : Wp L d k_Lat_indexOf 24 [l0, l1, l2, l3] [vI s1, vI s0] σ Q ↔ (if s0 < s1 then Wp L d k_Lat_indexOf 29 [l0, l1, l2, l3] [] σ Q else Wp L d k_Lat_indexOf 27 [l0, l1, l2, l3] [] σ Q) := wp_cmp_lt rfl
set_option maxRecDepth 4000 in
theorem r_Lat_indexOf_27 : Wp L d k_Lat_indexOf 27 [l0, l1, l2, l3] [] σ Q ↔ Wp L d k_Lat_indexOf 28 [l0, l1, l2, l3] [vI (-1)] σ Q := wp_push rfl
set_option maxRecDepth 4000 in
theorem r_Lat_indexOf_28 : Wp L d k_Lat_indexOf 28 [l0, l1, l2, l3] [vI s0] σ Q ↔ Q (some (vI s0)) σ := wp_iret rfl
set_option maxRecDepth 4000 in
theorem r_Lat_indexOf_29 : Wp L d k_Lat_indexOf 29 [vR b0, l1, l2, l3] [] σ Q ↔ Wp L d k_Lat_indexOf 30 [vR b0, l1, l2, l3] [vR b0] σ Q := wp_aload rfl rfl
set_option maxRecDepth 4000 in
theorem r_Lat_indexOf_30 : Wp L d k_Lat_indexOf 30 [l0, vI a1, l2, l3] [vR c0] σ Q ↔ Wp L d k_Lat_indexOf 31 [l0, vI a1, l2, l3] [vI a1, vR c0] σ Q := wp_iload rfl rfl
set_option maxRecDepth 4000 in
theorem r_Lat_indexOf_31 : Wp L d k_Lat_indexOf 31 [l0, l1, vI a2, l3] [vI s1, vR c0] σ Q ↔ Wp L d k_Lat_indexOf 32 [l0, l1, vI a2, l3] [vI a2, vI s1, vR c0] σ Q := wp_iload rfl rfl
set_option maxRecDepth 4000 in
theorem r_Lat_indexOf_32 : Wp L d k_Lat_indexOf 32 [l0, l1, l2, vI a3] [vI s2, vI s1, vR c0] σ Q ↔ Wp L d k_Lat_indexOf 33 [l0, l1, l2, vI a3] [vI a3, vI s2, vI s1, vR c0] σ Q := wp_iload rfl rfl
set_option maxRecDepth 4000 in
theorem c_Lat_indexOf_33 (hR : Run L d 10 [vR c0, vI s1, vI s2, vI s3] σ r σ1) : Wp L (d + 1) k_Lat_indexOf 33 [l0, l1, l2, l3] [vI s3, vI s2, vI s1, vR c0] σ Q ↔ Wp L (d + 1) k_Lat_indexOf 36 [l0, l1, l2, l3] (r.toList ++ []) σ1 Q := wp_callR (as := [vR c0, vI s1, vI s2, vI s3]) (rest := []) rfl rfl rfl rfl rfl rfl rfl rfl hR
set_option maxRecDepth 4000 in
theorem r_Lat_indexOf_36 : Wp L d k_Lat_indexOf 36 [l0, l1, l2, l3] [vI s0] σ Q ↔ Q (some (vI s0)) σ := wp_iret rfl
set_option maxRecDepth 4000 in
theorem sp_Lat_indexOf {k : Nat} (hk : k < 13) (hc : TXc σ) (h : 0 ≤ a1 ∧ a1 ≤ 255) : Run L (d + 1) 8 [vR (13 + k), vI a1, vI 0, vI ((gln k : Nat) : Int)] σ (some (vI (gfx k a1 0 (gln k)))) σ := by
  refine Run_of (C' := k_Lat_indexOf) rfl ?_
  show Wp L (d + 1) k_Lat_indexOf 0 [vR (13 + k), vI a1, vI 0, vI ((gln k : Nat) : Int)] [] σ _
  have lb := gln_le k hk
  have hR := sp_Lat_canEncode (L := L) (d := d) (σ := σ) h
  have hR2 := sp_Lat_indexOfChar (L := L) (d := d) hk hc h
  have m1 : max (0 : Int) 0 = 0 := by omega
  have m2 : min ((gln k : Nat) : Int) ((gln k : Nat) : Int) = ((gln k : Nat) : Int) := by omega
  simp (disch := first | assumption | exact gb_01 _ | omega) only [r_Lat_indexOf_0, r_Lat_indexOf_4, r_Lat_indexOf_7, r_Lat_indexOf_8, r_Lat_indexOf_9, r_Lat_indexOf_10, r_Lat_indexOf_11, r_Lat_indexOf_14, r_Lat_indexOf_15, r_Lat_indexOf_16, r_Lat_indexOf_18, r_Lat_indexOf_21, r_Lat_indexOf_22, r_Lat_indexOf_23, r_Lat_indexOf_24, r_Lat_indexOf_27, r_Lat_indexOf_28, r_Lat_indexOf_29, r_Lat_indexOf_30, r_Lat_indexOf_31, r_Lat_indexOf_32, r_Lat_indexOf_36, x_Lat_indexOf_17, c_Lat_indexOf_1 hR, c_Lat_indexOf_33 hR2, Option.toList, List.singleton_append, List.cons_append, List.nil_append, List.append_nil, m1, m2, w32_gb, w32i, tn_add, tn_mul, Int.toNat_natCast, Int.toNat_zero, Int.reduceLE, Int.reduceLT, Int.reduceEq, Int.reduceNe, gb_T, gb_F, Int.reduceToNat, eq_self, true_or, or_true, and_true, true_and, and_self, ↓ite_gb0, ↓ite_gbn, ↓if_pos, ↓if_neg, if_true, if_false, not_true_eq_false, not_false_eq_true, gb_ne0, gb_eq0]
set_option maxRecDepth 4000 in
theorem r_Str_indexOf_II_0 : Wp L d k_Str_indexOf_II 0 [vR b0, l1, l2] [] σ Q ↔ Wp L d k_Str_indexOf_II 1 [vR b0, l1, l2] [vR b0] σ Q := wp_aload rfl rfl
set_option maxRecDepth 4000 in
theorem c_Str_indexOf_II_1 (hR : Run L d 4 [vR c0] σ r σ1) (hg : grecv (gSH L, σ) 21 [vR c0] = true) : Wp L (d + 1) k_Str_indexOf_II 1 [l0, l1, l2] [vR c0] σ Q ↔ Wp L (d + 1) k_Str_indexOf_II 4 [l0, l1, l2] (r.toList ++ []) σ1 Q := wp_callR (as := [vR c0]) (rest := []) rfl rfl rfl rfl rfl rfl rfl hg hR
set_option maxRecDepth 4000 in
theorem r_Str_indexOf_II_4 : Wp L d k_Str_indexOf_II 4 [l0, l1, l2] [vI s0] σ Q ↔ (if s0 = 0 then Wp L d k_Str_indexOf_II 23 [l0, l1, l2] [] σ Q else Wp L d k_Str_indexOf_II 7 [l0, l1, l2] [] σ Q) := wp_if_eq rfl
set_option maxRecDepth 4000 in
theorem r_Str_indexOf_II_7 : Wp L d k_Str_indexOf_II 7 [vR b0, l1, l2] [] σ Q ↔ Wp L d k_Str_indexOf_II 8 [vR b0, l1, l2] [vR b0] σ Q := wp_aload rfl rfl
set_option maxRecDepth 4000 in
theorem r_Str_indexOf_II_11 : Wp L d k_Str_indexOf_II 11 [l0, vI a1, l2] [vR c0] σ Q ↔ Wp L d k_Str_indexOf_II 12 [l0, vI a1, l2] [vI a1, vR c0] σ Q := wp_iload rfl rfl
set_option maxRecDepth 4000 in
theorem r_Str_indexOf_II_12 : Wp L d k_Str_indexOf_II 12 [l0, l1, vI a2] [vI s1, vR c0] σ Q ↔ Wp L d k_Str_indexOf_II 13 [l0, l1, vI a2] [vI a2, vI s1, vR c0] σ Q := wp_iload rfl rfl
set_option maxRecDepth 4000 in
theorem r_Str_indexOf_II_13 : Wp L d k_Str_indexOf_II 13 [vR b0, l1, l2] [vI s2, vI s1, vR c0] σ Q ↔ Wp L d k_Str_indexOf_II 14 [vR b0, l1, l2] [vR b0, vI s2, vI s1, vR c0] σ Q := wp_aload rfl rfl
set_option maxRecDepth 4000 in
theorem c_Str_indexOf_II_14 (hR : Run L d 1 [vR c3] σ r σ1) (hg : grecv (gSH L, σ) 21 [vR c3] = true) : Wp L (d + 1) k_Str_indexOf_II 14 [l0, l1, l2] [vR c3, vI s2, vI s1, vR c0] σ Q ↔ Wp L (d + 1) k_Str_indexOf_II 17 [l0, l1, l2] (r.toList ++ [vI s2, vI s1, vR c0]) σ1 Q := wp_callR (as := [vR c3]) (rest := [vI s2, vI s1, vR c0]) rfl rfl rfl rfl rfl rfl rfl hg hR
set_option maxRecDepth 4000 in
theorem c_Str_indexOf_II_17 (hR : Run L d 8 [vR c0, vI s1, vI s2, vI s3] σ r σ1) : Wp L (d + 1) k_Str_indexOf_II 17 [l0, l1, l2] [vI s3, vI s2, vI s1, vR c0] σ Q ↔ Wp L (d + 1) k_Str_indexOf_II 20 [l0, l1, l2] (r.toList ++ []) σ1 Q := wp_callR (as := [vR c0, vI s1, vI s2, vI s3]) (rest := []) rfl rfl rfl rfl rfl rfl rfl rfl hR
set_option maxRecDepth 4000 in
theorem r_Str_indexOf_II_20 : Wp L d k_Str_indexOf_II 20 [l0, l1, l2] [vI s0] σ Q ↔ Wp L d k_Str_indexOf_II 36 [l0, l1, l2] [vI s0] σ Q := wp_goto rfl
set_option maxRecDepth 4000 in
theorem r_Str_indexOf_II_23 : Wp L d k_Str_indexOf_II 23 [vR b0, l1, l2] [] σ Q ↔ Wp L d k_Str_indexOf_II 24 [vR b0, l1, l2] [vR b0] σ Q := wp_aload rfl rfl
set_option maxRecDepth 4000 in
theorem r_Str_indexOf_II_27 : Wp L d k_Str_indexOf_II 27 [l0, vI a1, l2] [vR c0] σ Q ↔ Wp L d k_Str_indexOf_II 28 [l0, vI a1, l2] [vI a1, vR c0] σ Q := wp_iload rfl rfl
set_option maxRecDepth 4000 in
theorem r_Str_indexOf_II_28 : Wp L d k_Str_indexOf_II 28 [l0, l1, vI a2] [vI s1, vR c0] σ Q ↔ Wp L d k_Str_indexOf_II 29 [l0, l1, vI a2] [vI a2, vI s1, vR c0] σ Q := wp_iload rfl rfl
set_option maxRecDepth 4000 in
theorem r_Str_indexOf_II_29 : Wp L d k_Str_indexOf_II 29 [vR b0, l1, l2] [vI s2, vI s1, vR c0] σ Q ↔ Wp L d k_Str_indexOf_II 30 [vR b0, l1, l2] [vR b0, vI s2, vI s1, vR c0] σ Q := wp_aload rfl rfl
set_option maxRecDepth 4000 in
theorem c_Str_indexOf_II_30 (hR : Run L d 1 [vR c3] σ r σ1) (hg : grecv (gSH L, σ) 21 [vR c3] = true) : Wp L (d + 1) k_Str_indexOf_II 30 [l0, l1, l2] [vR c3, vI s2, vI s1, vR c0] σ Q ↔ Wp L (d + 1) k_Str_indexOf_II 33 [l0, l1, l2] (r.toList ++ [vI s2, vI s1, vR c0]) σ1 Q := wp_callR (as := [vR c3]) (rest := [vI s2, vI s1, vR c0]) rfl rfl rfl rfl rfl rfl rfl hg hR
set_option maxRecDepth 4000 in
theorem r_Str_indexOf_II_36 : Wp L d k_Str_indexOf_II 36 [l0, l1, l2] [vI s0] σ Q ↔ Q (some (vI s0)) σ := wp_iret rfl
set_option maxRecDepth 4000 in
theorem sp_Str_indexOf_II {k : Nat} (hk : k < 13) (hc : TXc σ) (h : 0 ≤ a1 ∧ a1 ≤ 255) : Run L (d + 2) 6 [vR k, vI a1, vI 0] σ (some (vI (gfx k a1 0 (gln k)))) σ := by
  refine Run_of (C' := k_Str_indexOf_II) rfl ?_
  show Wp L (d + 2) k_Str_indexOf_II 0 [vR k, vI a1, vI 0] [] σ _
  have hR := sp_Str_isLatin1 (L := L) (d := d + 1) hk hc
  have hg := grecv_s (L := L) (σ := σ) (t := []) hk
  have hR1 := sp_Str_length (L := L) (d := d) hk hc
  have hR2 := sp_Lat_indexOf (L := L) (d := d) hk hc h
  simp (disch := first | assumption | exact gb_01 _ | omega) only [r_Str_indexOf_II_0, r_Str_indexOf_II_4, r_Str_indexOf_II_7, r_Str_indexOf_II_11, r_Str_indexOf_II_12, r_Str_indexOf_II_13, r_Str_indexOf_II_20, r_Str_indexOf_II_23, r_Str_indexOf_II_27, r_Str_indexOf_II_28, r_Str_indexOf_II_29, r_Str_indexOf_II_36, x_Str_indexOf_II_8, c_Str_indexOf_II_1 hR hg, c_Str_indexOf_II_14 hR1 hg, c_Str_indexOf_II_17 hR2, Option.toList, List.singleton_append, List.cons_append, List.nil_append, List.append_nil, w32_gb, w32i, tn_add, tn_mul, Int.toNat_natCast, Int.toNat_zero, Int.reduceLE, Int.reduceLT, Int.reduceEq, Int.reduceNe, gb_T, gb_F, Int.reduceToNat, eq_self, true_or, or_true, and_true, true_and, and_self, ↓ite_gb0, ↓ite_gbn, ↓if_pos, ↓if_neg, if_true, if_false, not_true_eq_false, not_false_eq_true, gb_ne0, gb_eq0]
set_option maxRecDepth 4000 in
theorem r_Str_indexOf_I_0 : Wp L d k_Str_indexOf_I 0 [vR b0, l1] [] σ Q ↔ Wp L d k_Str_indexOf_I 1 [vR b0, l1] [vR b0] σ Q := wp_aload rfl rfl
set_option maxRecDepth 4000 in
theorem r_Str_indexOf_I_1 : Wp L d k_Str_indexOf_I 1 [l0, vI a1] [vR c0] σ Q ↔ Wp L d k_Str_indexOf_I 2 [l0, vI a1] [vI a1, vR c0] σ Q := wp_iload rfl rfl
set_option maxRecDepth 4000 in
theorem r_Str_indexOf_I_2 : Wp L d k_Str_indexOf_I 2 [l0, l1] [vI s1, vR c0] σ Q ↔ Wp L d k_Str_indexOf_I 3 [l0, l1] [vI 0, vI s1, vR c0] σ Q := wp_push rfl
set_option maxRecDepth 4000 in
theorem c_Str_indexOf_I_3 (hR : Run L d 6 [vR c0, vI s1, vI s2] σ r σ1) (hg : grecv (gSH L, σ) 21 [vR c0, vI s1, vI s2] = true) : Wp L (d + 1) k_Str_indexOf_I 3 [l0, l1] [vI s2, vI s1, vR c0] σ Q ↔ Wp L (d + 1) k_Str_indexOf_I 6 [l0, l1] (r.toList ++ []) σ1 Q := wp_callR (as := [vR c0, vI s1, vI s2]) (rest := []) rfl rfl rfl rfl rfl rfl rfl hg hR
set_option maxRecDepth 4000 in
theorem r_Str_indexOf_I_6 : Wp L d k_Str_indexOf_I 6 [l0, l1] [vI s0] σ Q ↔ Q (some (vI s0)) σ := wp_iret rfl
set_option maxRecDepth 4000 in
theorem sp_Str_indexOf_I {k : Nat} (hk : k < 13) (hc : TXc σ) (h : 0 ≤ a1 ∧ a1 ≤ 255) : Run L (d + 3) 5 [vR k, vI a1] σ (some (vI (gfx k a1 0 (gln k)))) σ := by
  refine Run_of (C' := k_Str_indexOf_I) rfl ?_
  show Wp L (d + 3) k_Str_indexOf_I 0 [vR k, vI a1] [] σ _
  have hR := sp_Str_indexOf_II (L := L) (d := d) hk hc h
  have hg := grecv_s (L := L) (σ := σ) (t := [vI a1, vI 0]) hk
  simp (disch := first | assumption | exact gb_01 _ | omega) only [r_Str_indexOf_I_0, r_Str_indexOf_I_1, r_Str_indexOf_I_2, r_Str_indexOf_I_6, c_Str_indexOf_I_3 hR hg, Option.toList, List.singleton_append, List.cons_append, List.nil_append, List.append_nil, w32_gb, w32i, tn_add, tn_mul, Int.toNat_natCast, Int.toNat_zero, Int.reduceLE, Int.reduceLT, Int.reduceEq, Int.reduceNe, gb_T, gb_F, Int.reduceToNat, eq_self, true_or, or_true, and_true, true_and, and_self, ↓ite_gb0, ↓ite_gbn, ↓if_pos, ↓if_neg, if_true, if_false, not_true_eq_false, not_false_eq_true, gb_ne0, gb_eq0]
