/-! text: names; pure pieces of the token step. -/
variable {L d : Nat} {σ σ1 : Nat → Nat → Int} {Q : Option gV → (Nat → Nat → Int) → Prop} {a0 a1 a2 a3 a4 a5 a6 a7 a8 a9 a10 a11 s0 s1 s2 s3 s4 s5 s6 s7 s8 s9 : Int} {l0 l1 l2 l3 l4 l5 l6 l7 l8 l9 l10 l11 t0 t1 t2 t3 t4 t5 t6 t7 t8 t9 : gV} {b0 b1 b2 b3 b4 b5 b6 b7 b8 b9 b10 b11 c0 c1 c2 c3 c4 c5 c6 c7 c8 c9 : Nat} {r : Option gV}
/-- past the blanks: m bytes are left from e on -/
def gskip (b : Nat → Int) (e : Nat) : Nat → Nat
  | 0 => e
  | m + 1 => if b e = 32 then gskip b (e + 1) m else e
/-- past the bytes of sort s -/
def grun (b : Nat → Int) (s : Int) (e : Nat) : Nat → Nat
  | 0 => e
  | m + 1 => if gso (b e) = s then grun b s (e + 1) m else e
theorem gskip_bd (b : Nat → Int) : ∀ m e, e ≤ gskip b e m ∧ gskip b e m ≤ e + m
  | 0, e => by unfold gskip; omega
  | m + 1, e => by
    have := gskip_bd b m (e + 1)
    unfold gskip
    split <;> omega
theorem grun_bd (b : Nat → Int) (s : Int) : ∀ m e, e ≤ grun b s e m ∧ grun b s e m ≤ e + m
  | 0, e => by unfold grun; omega
  | m + 1, e => by
    have := grun_bd b s m (e + 1)
    unfold grun
    split <;> omega
theorem r_M_isName_0 : Wp L d k_M_isName 0 [vI a0, l1] [] σ Q ↔ Wp L d k_M_isName 1 [vI a0, l1] [vI a0] σ Q := wp_iload rfl rfl
theorem r_M_isName_1 : Wp L d k_M_isName 1 [l0, l1] [vI s0] σ Q ↔ (if s0 = 0 then Wp L d k_M_isName 28 [l0, l1] [] σ Q else if s0 = 1 then Wp L d k_M_isName 46 [l0, l1] [] σ Q else if s0 = 2 then Wp L d k_M_isName 64 [l0, l1] [] σ Q else Wp L d k_M_isName 88 [l0, l1] [] σ Q) := by
  by_cases h0 : s0 = 0
  · subst h0
    rw [if_pos rfl]
    exact Wp_s rfl rfl rfl rfl
  by_cases h1 : s0 = 1
  · subst h1
    rw [if_neg (by omega), if_pos rfl]
    exact Wp_s rfl rfl rfl rfl
  by_cases h2 : s0 = 2
  · subst h2
    rw [if_neg (by omega), if_neg (by omega), if_pos rfl]
    exact Wp_s rfl rfl rfl rfl
  rw [if_neg h0, if_neg h1, if_neg h2]
  have hout : s0 < 0 ∨ 2 < s0 := by omega
  exact Wp_s rfl rfl rfl (by simp only [gstep, vI, if_pos hout]; rfl)
theorem r_M_isName_28 : Wp L d k_M_isName 28 [l0, vI a1] [] σ Q ↔ Wp L d k_M_isName 29 [l0, vI a1] [vI a1] σ Q := wp_iload rfl rfl
theorem r_M_isName_29 : Wp L d k_M_isName 29 [l0, l1] [vI s0] σ Q ↔ Wp L d k_M_isName 31 [l0, l1] [vI 112, vI s0] σ Q := wp_push rfl
theorem r_M_isName_31 : Wp L d k_M_isName 31 [l0, l1] [vI s1, vI s0] σ Q ↔ (if s0 = s1 then Wp L d k_M_isName 40 [l0, l1] [] σ Q else Wp L d k_M_isName 34 [l0, l1] [] σ Q) := wp_cmp_eq rfl
theorem r_M_isName_34 : Wp L d k_M_isName 34 [l0, vI a1] [] σ Q ↔ Wp L d k_M_isName 35 [l0, vI a1] [vI a1] σ Q := wp_iload rfl rfl
theorem r_M_isName_35 : Wp L d k_M_isName 35 [l0, l1] [vI s0] σ Q ↔ Wp L d k_M_isName 37 [l0, l1] [vI 109, vI s0] σ Q := wp_push rfl
theorem r_M_isName_37 : Wp L d k_M_isName 37 [l0, l1] [vI s1, vI s0] σ Q ↔ (if s0 ≠ s1 then Wp L d k_M_isName 44 [l0, l1] [] σ Q else Wp L d k_M_isName 40 [l0, l1] [] σ Q) := wp_cmp_ne rfl
theorem r_M_isName_40 : Wp L d k_M_isName 40 [l0, l1] [] σ Q ↔ Wp L d k_M_isName 41 [l0, l1] [vI 1] σ Q := wp_push rfl
theorem r_M_isName_41 : Wp L d k_M_isName 41 [l0, l1] [vI s0] σ Q ↔ Wp L d k_M_isName 45 [l0, l1] [vI s0] σ Q := wp_goto rfl
theorem r_M_isName_44 : Wp L d k_M_isName 44 [l0, l1] [] σ Q ↔ Wp L d k_M_isName 45 [l0, l1] [vI 0] σ Q := wp_push rfl
theorem r_M_isName_45 (h : s0 = 0 ∨ s0 = 1) : Wp L d k_M_isName 45 [l0, l1] [vI s0] σ Q ↔ Q (some (vI s0)) σ := wp_zret rfl h
theorem r_M_isName_46 : Wp L d k_M_isName 46 [l0, vI a1] [] σ Q ↔ Wp L d k_M_isName 47 [l0, vI a1] [vI a1] σ Q := wp_iload rfl rfl
theorem r_M_isName_47 : Wp L d k_M_isName 47 [l0, l1] [vI s0] σ Q ↔ Wp L d k_M_isName 49 [l0, l1] [vI 119, vI s0] σ Q := wp_push rfl
theorem r_M_isName_49 : Wp L d k_M_isName 49 [l0, l1] [vI s1, vI s0] σ Q ↔ (if s0 = s1 then Wp L d k_M_isName 58 [l0, l1] [] σ Q else Wp L d k_M_isName 52 [l0, l1] [] σ Q) := wp_cmp_eq rfl
theorem r_M_isName_52 : Wp L d k_M_isName 52 [l0, vI a1] [] σ Q ↔ Wp L d k_M_isName 53 [l0, vI a1] [vI a1] σ Q := wp_iload rfl rfl
theorem r_M_isName_53 : Wp L d k_M_isName 53 [l0, l1] [vI s0] σ Q ↔ Wp L d k_M_isName 55 [l0, l1] [vI 103, vI s0] σ Q := wp_push rfl
theorem r_M_isName_55 : Wp L d k_M_isName 55 [l0, l1] [vI s1, vI s0] σ Q ↔ (if s0 ≠ s1 then Wp L d k_M_isName 62 [l0, l1] [] σ Q else Wp L d k_M_isName 58 [l0, l1] [] σ Q) := wp_cmp_ne rfl
theorem r_M_isName_58 : Wp L d k_M_isName 58 [l0, l1] [] σ Q ↔ Wp L d k_M_isName 59 [l0, l1] [vI 1] σ Q := wp_push rfl
theorem r_M_isName_59 : Wp L d k_M_isName 59 [l0, l1] [vI s0] σ Q ↔ Wp L d k_M_isName 63 [l0, l1] [vI s0] σ Q := wp_goto rfl
theorem r_M_isName_62 : Wp L d k_M_isName 62 [l0, l1] [] σ Q ↔ Wp L d k_M_isName 63 [l0, l1] [vI 0] σ Q := wp_push rfl
theorem r_M_isName_63 (h : s0 = 0 ∨ s0 = 1) : Wp L d k_M_isName 63 [l0, l1] [vI s0] σ Q ↔ Q (some (vI s0)) σ := wp_zret rfl h
theorem r_M_isName_64 : Wp L d k_M_isName 64 [l0, vI a1] [] σ Q ↔ Wp L d k_M_isName 65 [l0, vI a1] [vI a1] σ Q := wp_iload rfl rfl
theorem r_M_isName_65 : Wp L d k_M_isName 65 [l0, l1] [vI s0] σ Q ↔ Wp L d k_M_isName 67 [l0, l1] [vI 115, vI s0] σ Q := wp_push rfl
theorem r_M_isName_67 : Wp L d k_M_isName 67 [l0, l1] [vI s1, vI s0] σ Q ↔ (if s0 = s1 then Wp L d k_M_isName 82 [l0, l1] [] σ Q else Wp L d k_M_isName 70 [l0, l1] [] σ Q) := wp_cmp_eq rfl
theorem r_M_isName_70 : Wp L d k_M_isName 70 [l0, vI a1] [] σ Q ↔ Wp L d k_M_isName 71 [l0, vI a1] [vI a1] σ Q := wp_iload rfl rfl
theorem r_M_isName_71 : Wp L d k_M_isName 71 [l0, l1] [vI s0] σ Q ↔ Wp L d k_M_isName 73 [l0, l1] [vI 102, vI s0] σ Q := wp_push rfl
theorem r_M_isName_73 : Wp L d k_M_isName 73 [l0, l1] [vI s1, vI s0] σ Q ↔ (if s0 = s1 then Wp L d k_M_isName 82 [l0, l1] [] σ Q else Wp L d k_M_isName 76 [l0, l1] [] σ Q) := wp_cmp_eq rfl
theorem r_M_isName_76 : Wp L d k_M_isName 76 [l0, vI a1] [] σ Q ↔ Wp L d k_M_isName 77 [l0, vI a1] [vI a1] σ Q := wp_iload rfl rfl
theorem r_M_isName_77 : Wp L d k_M_isName 77 [l0, l1] [vI s0] σ Q ↔ Wp L d k_M_isName 79 [l0, l1] [vI 107, vI s0] σ Q := wp_push rfl
theorem r_M_isName_79 : Wp L d k_M_isName 79 [l0, l1] [vI s1, vI s0] σ Q ↔ (if s0 ≠ s1 then Wp L d k_M_isName 86 [l0, l1] [] σ Q else Wp L d k_M_isName 82 [l0, l1] [] σ Q) := wp_cmp_ne rfl
theorem r_M_isName_82 : Wp L d k_M_isName 82 [l0, l1] [] σ Q ↔ Wp L d k_M_isName 83 [l0, l1] [vI 1] σ Q := wp_push rfl
theorem r_M_isName_83 : Wp L d k_M_isName 83 [l0, l1] [vI s0] σ Q ↔ Wp L d k_M_isName 87 [l0, l1] [vI s0] σ Q := wp_goto rfl
theorem r_M_isName_86 : Wp L d k_M_isName 86 [l0, l1] [] σ Q ↔ Wp L d k_M_isName 87 [l0, l1] [vI 0] σ Q := wp_push rfl
theorem r_M_isName_87 (h : s0 = 0 ∨ s0 = 1) : Wp L d k_M_isName 87 [l0, l1] [vI s0] σ Q ↔ Q (some (vI s0)) σ := wp_zret rfl h
theorem r_M_isName_88 : Wp L d k_M_isName 88 [l0, vI a1] [] σ Q ↔ Wp L d k_M_isName 89 [l0, vI a1] [vI a1] σ Q := wp_iload rfl rfl
theorem r_M_isName_89 : Wp L d k_M_isName 89 [l0, l1] [vI s0] σ Q ↔ Wp L d k_M_isName 91 [l0, l1] [vI 111, vI s0] σ Q := wp_push rfl
theorem r_M_isName_91 : Wp L d k_M_isName 91 [l0, l1] [vI s1, vI s0] σ Q ↔ (if s0 = s1 then Wp L d k_M_isName 100 [l0, l1] [] σ Q else Wp L d k_M_isName 94 [l0, l1] [] σ Q) := wp_cmp_eq rfl
theorem r_M_isName_94 : Wp L d k_M_isName 94 [l0, vI a1] [] σ Q ↔ Wp L d k_M_isName 95 [l0, vI a1] [vI a1] σ Q := wp_iload rfl rfl
theorem r_M_isName_95 : Wp L d k_M_isName 95 [l0, l1] [vI s0] σ Q ↔ Wp L d k_M_isName 97 [l0, l1] [vI 120, vI s0] σ Q := wp_push rfl
theorem r_M_isName_97 : Wp L d k_M_isName 97 [l0, l1] [vI s1, vI s0] σ Q ↔ (if s0 ≠ s1 then Wp L d k_M_isName 104 [l0, l1] [] σ Q else Wp L d k_M_isName 100 [l0, l1] [] σ Q) := wp_cmp_ne rfl
theorem r_M_isName_100 : Wp L d k_M_isName 100 [l0, l1] [] σ Q ↔ Wp L d k_M_isName 101 [l0, l1] [vI 1] σ Q := wp_push rfl
theorem r_M_isName_101 : Wp L d k_M_isName 101 [l0, l1] [vI s0] σ Q ↔ Wp L d k_M_isName 105 [l0, l1] [vI s0] σ Q := wp_goto rfl
theorem r_M_isName_104 : Wp L d k_M_isName 104 [l0, l1] [] σ Q ↔ Wp L d k_M_isName 105 [l0, l1] [vI 0] σ Q := wp_push rfl
theorem r_M_isName_105 (h : s0 = 0 ∨ s0 = 1) : Wp L d k_M_isName 105 [l0, l1] [vI s0] σ Q ↔ Q (some (vI s0)) σ := wp_zret rfl h
theorem sp_M_isName (h : 0 ≤ a0 ∧ a0 ≤ 3) : Run L d 254 [vI a0, vI a1] σ (some (vI (gb ((gnm a0 a1).isSome = true)))) σ := by
  refine Run_of (C' := k_M_isName) rfl ?_
  show Wp L d k_M_isName 0 [vI a0, vI a1] [] σ _

  have c : a0 = 0 ∨ a0 = 1 ∨ a0 = 2 ∨ a0 = 3 := by omega
  rcases c with rfl | rfl | rfl | rfl
  · by_cases c0 : a1 = 112
    · rw [c0, gb_t (by decide)]
      simp (disch := first | assumption | exact gb_01 _ | omega) only [r_M_isName_0, r_M_isName_1, r_M_isName_28, r_M_isName_29, r_M_isName_31, r_M_isName_34, r_M_isName_35, r_M_isName_37, r_M_isName_40, r_M_isName_41, r_M_isName_44, r_M_isName_45, r_M_isName_46, r_M_isName_47, r_M_isName_49, r_M_isName_52, r_M_isName_53, r_M_isName_55, r_M_isName_58, r_M_isName_59, r_M_isName_62, r_M_isName_63, r_M_isName_64, r_M_isName_65, r_M_isName_67, r_M_isName_70, r_M_isName_71, r_M_isName_73, r_M_isName_76, r_M_isName_77, r_M_isName_79, r_M_isName_82, r_M_isName_83, r_M_isName_86, r_M_isName_87, r_M_isName_88, r_M_isName_89, r_M_isName_91, r_M_isName_94, r_M_isName_95, r_M_isName_97, r_M_isName_100, r_M_isName_101, r_M_isName_104, r_M_isName_105, w32_gb, w32i, tn_add, tn_mul, Int.toNat_natCast, Int.toNat_zero, Int.reduceLE, Int.reduceLT, Int.reduceEq, Int.reduceNe, gb_T, gb_F, Int.reduceToNat, eq_self, true_or, or_true, and_true, true_and, and_self, ↓ite_gb0, ↓ite_gbn, ↓if_pos, ↓if_neg, if_true, if_false, not_true_eq_false, not_false_eq_true, gb_ne0, gb_eq0]
    · by_cases c1 : a1 = 109
      · rw [c1, gb_t (by decide)]
        simp (disch := first | assumption | exact gb_01 _ | omega) only [r_M_isName_0, r_M_isName_1, r_M_isName_28, r_M_isName_29, r_M_isName_31, r_M_isName_34, r_M_isName_35, r_M_isName_37, r_M_isName_40, r_M_isName_41, r_M_isName_44, r_M_isName_45, r_M_isName_46, r_M_isName_47, r_M_isName_49, r_M_isName_52, r_M_isName_53, r_M_isName_55, r_M_isName_58, r_M_isName_59, r_M_isName_62, r_M_isName_63, r_M_isName_64, r_M_isName_65, r_M_isName_67, r_M_isName_70, r_M_isName_71, r_M_isName_73, r_M_isName_76, r_M_isName_77, r_M_isName_79, r_M_isName_82, r_M_isName_83, r_M_isName_86, r_M_isName_87, r_M_isName_88, r_M_isName_89, r_M_isName_91, r_M_isName_94, r_M_isName_95, r_M_isName_97, r_M_isName_100, r_M_isName_101, r_M_isName_104, r_M_isName_105, w32_gb, w32i, tn_add, tn_mul, Int.toNat_natCast, Int.toNat_zero, Int.reduceLE, Int.reduceLT, Int.reduceEq, Int.reduceNe, gb_T, gb_F, Int.reduceToNat, eq_self, true_or, or_true, and_true, true_and, and_self, ↓ite_gb0, ↓ite_gbn, ↓if_pos, ↓if_neg, if_true, if_false, not_true_eq_false, not_false_eq_true, gb_ne0, gb_eq0]
      · rw [gb_f (by unfold gnm; simp only [c0, c1, if_false, if_true, Int.reduceEq, Option.isSome, ↓reduceIte, Bool.false_eq_true, not_false_eq_true])]
        simp (disch := first | assumption | exact gb_01 _ | omega) only [r_M_isName_0, r_M_isName_1, r_M_isName_28, r_M_isName_29, r_M_isName_31, r_M_isName_34, r_M_isName_35, r_M_isName_37, r_M_isName_40, r_M_isName_41, r_M_isName_44, r_M_isName_45, r_M_isName_46, r_M_isName_47, r_M_isName_49, r_M_isName_52, r_M_isName_53, r_M_isName_55, r_M_isName_58, r_M_isName_59, r_M_isName_62, r_M_isName_63, r_M_isName_64, r_M_isName_65, r_M_isName_67, r_M_isName_70, r_M_isName_71, r_M_isName_73, r_M_isName_76, r_M_isName_77, r_M_isName_79, r_M_isName_82, r_M_isName_83, r_M_isName_86, r_M_isName_87, r_M_isName_88, r_M_isName_89, r_M_isName_91, r_M_isName_94, r_M_isName_95, r_M_isName_97, r_M_isName_100, r_M_isName_101, r_M_isName_104, r_M_isName_105, w32_gb, w32i, tn_add, tn_mul, Int.toNat_natCast, Int.toNat_zero, Int.reduceLE, Int.reduceLT, Int.reduceEq, Int.reduceNe, gb_T, gb_F, Int.reduceToNat, eq_self, true_or, or_true, and_true, true_and, and_self, ↓ite_gb0, ↓ite_gbn, ↓if_pos, ↓if_neg, if_true, if_false, not_true_eq_false, not_false_eq_true, gb_ne0, gb_eq0]
  · by_cases c0 : a1 = 119
    · rw [c0, gb_t (by decide)]
      simp (disch := first | assumption | exact gb_01 _ | omega) only [r_M_isName_0, r_M_isName_1, r_M_isName_28, r_M_isName_29, r_M_isName_31, r_M_isName_34, r_M_isName_35, r_M_isName_37, r_M_isName_40, r_M_isName_41, r_M_isName_44, r_M_isName_45, r_M_isName_46, r_M_isName_47, r_M_isName_49, r_M_isName_52, r_M_isName_53, r_M_isName_55, r_M_isName_58, r_M_isName_59, r_M_isName_62, r_M_isName_63, r_M_isName_64, r_M_isName_65, r_M_isName_67, r_M_isName_70, r_M_isName_71, r_M_isName_73, r_M_isName_76, r_M_isName_77, r_M_isName_79, r_M_isName_82, r_M_isName_83, r_M_isName_86, r_M_isName_87, r_M_isName_88, r_M_isName_89, r_M_isName_91, r_M_isName_94, r_M_isName_95, r_M_isName_97, r_M_isName_100, r_M_isName_101, r_M_isName_104, r_M_isName_105, w32_gb, w32i, tn_add, tn_mul, Int.toNat_natCast, Int.toNat_zero, Int.reduceLE, Int.reduceLT, Int.reduceEq, Int.reduceNe, gb_T, gb_F, Int.reduceToNat, eq_self, true_or, or_true, and_true, true_and, and_self, ↓ite_gb0, ↓ite_gbn, ↓if_pos, ↓if_neg, if_true, if_false, not_true_eq_false, not_false_eq_true, gb_ne0, gb_eq0]
    · by_cases c1 : a1 = 103
      · rw [c1, gb_t (by decide)]
        simp (disch := first | assumption | exact gb_01 _ | omega) only [r_M_isName_0, r_M_isName_1, r_M_isName_28, r_M_isName_29, r_M_isName_31, r_M_isName_34, r_M_isName_35, r_M_isName_37, r_M_isName_40, r_M_isName_41, r_M_isName_44, r_M_isName_45, r_M_isName_46, r_M_isName_47, r_M_isName_49, r_M_isName_52, r_M_isName_53, r_M_isName_55, r_M_isName_58, r_M_isName_59, r_M_isName_62, r_M_isName_63, r_M_isName_64, r_M_isName_65, r_M_isName_67, r_M_isName_70, r_M_isName_71, r_M_isName_73, r_M_isName_76, r_M_isName_77, r_M_isName_79, r_M_isName_82, r_M_isName_83, r_M_isName_86, r_M_isName_87, r_M_isName_88, r_M_isName_89, r_M_isName_91, r_M_isName_94, r_M_isName_95, r_M_isName_97, r_M_isName_100, r_M_isName_101, r_M_isName_104, r_M_isName_105, w32_gb, w32i, tn_add, tn_mul, Int.toNat_natCast, Int.toNat_zero, Int.reduceLE, Int.reduceLT, Int.reduceEq, Int.reduceNe, gb_T, gb_F, Int.reduceToNat, eq_self, true_or, or_true, and_true, true_and, and_self, ↓ite_gb0, ↓ite_gbn, ↓if_pos, ↓if_neg, if_true, if_false, not_true_eq_false, not_false_eq_true, gb_ne0, gb_eq0]
      · rw [gb_f (by unfold gnm; simp only [c0, c1, if_false, if_true, Int.reduceEq, Option.isSome, ↓reduceIte, Bool.false_eq_true, not_false_eq_true])]
        simp (disch := first | assumption | exact gb_01 _ | omega) only [r_M_isName_0, r_M_isName_1, r_M_isName_28, r_M_isName_29, r_M_isName_31, r_M_isName_34, r_M_isName_35, r_M_isName_37, r_M_isName_40, r_M_isName_41, r_M_isName_44, r_M_isName_45, r_M_isName_46, r_M_isName_47, r_M_isName_49, r_M_isName_52, r_M_isName_53, r_M_isName_55, r_M_isName_58, r_M_isName_59, r_M_isName_62, r_M_isName_63, r_M_isName_64, r_M_isName_65, r_M_isName_67, r_M_isName_70, r_M_isName_71, r_M_isName_73, r_M_isName_76, r_M_isName_77, r_M_isName_79, r_M_isName_82, r_M_isName_83, r_M_isName_86, r_M_isName_87, r_M_isName_88, r_M_isName_89, r_M_isName_91, r_M_isName_94, r_M_isName_95, r_M_isName_97, r_M_isName_100, r_M_isName_101, r_M_isName_104, r_M_isName_105, w32_gb, w32i, tn_add, tn_mul, Int.toNat_natCast, Int.toNat_zero, Int.reduceLE, Int.reduceLT, Int.reduceEq, Int.reduceNe, gb_T, gb_F, Int.reduceToNat, eq_self, true_or, or_true, and_true, true_and, and_self, ↓ite_gb0, ↓ite_gbn, ↓if_pos, ↓if_neg, if_true, if_false, not_true_eq_false, not_false_eq_true, gb_ne0, gb_eq0]
  · by_cases c0 : a1 = 115
    · rw [c0, gb_t (by decide)]
      simp (disch := first | assumption | exact gb_01 _ | omega) only [r_M_isName_0, r_M_isName_1, r_M_isName_28, r_M_isName_29, r_M_isName_31, r_M_isName_34, r_M_isName_35, r_M_isName_37, r_M_isName_40, r_M_isName_41, r_M_isName_44, r_M_isName_45, r_M_isName_46, r_M_isName_47, r_M_isName_49, r_M_isName_52, r_M_isName_53, r_M_isName_55, r_M_isName_58, r_M_isName_59, r_M_isName_62, r_M_isName_63, r_M_isName_64, r_M_isName_65, r_M_isName_67, r_M_isName_70, r_M_isName_71, r_M_isName_73, r_M_isName_76, r_M_isName_77, r_M_isName_79, r_M_isName_82, r_M_isName_83, r_M_isName_86, r_M_isName_87, r_M_isName_88, r_M_isName_89, r_M_isName_91, r_M_isName_94, r_M_isName_95, r_M_isName_97, r_M_isName_100, r_M_isName_101, r_M_isName_104, r_M_isName_105, w32_gb, w32i, tn_add, tn_mul, Int.toNat_natCast, Int.toNat_zero, Int.reduceLE, Int.reduceLT, Int.reduceEq, Int.reduceNe, gb_T, gb_F, Int.reduceToNat, eq_self, true_or, or_true, and_true, true_and, and_self, ↓ite_gb0, ↓ite_gbn, ↓if_pos, ↓if_neg, if_true, if_false, not_true_eq_false, not_false_eq_true, gb_ne0, gb_eq0]
    · by_cases c1 : a1 = 102
      · rw [c1, gb_t (by decide)]
        simp (disch := first | assumption | exact gb_01 _ | omega) only [r_M_isName_0, r_M_isName_1, r_M_isName_28, r_M_isName_29, r_M_isName_31, r_M_isName_34, r_M_isName_35, r_M_isName_37, r_M_isName_40, r_M_isName_41, r_M_isName_44, r_M_isName_45, r_M_isName_46, r_M_isName_47, r_M_isName_49, r_M_isName_52, r_M_isName_53, r_M_isName_55, r_M_isName_58, r_M_isName_59, r_M_isName_62, r_M_isName_63, r_M_isName_64, r_M_isName_65, r_M_isName_67, r_M_isName_70, r_M_isName_71, r_M_isName_73, r_M_isName_76, r_M_isName_77, r_M_isName_79, r_M_isName_82, r_M_isName_83, r_M_isName_86, r_M_isName_87, r_M_isName_88, r_M_isName_89, r_M_isName_91, r_M_isName_94, r_M_isName_95, r_M_isName_97, r_M_isName_100, r_M_isName_101, r_M_isName_104, r_M_isName_105, w32_gb, w32i, tn_add, tn_mul, Int.toNat_natCast, Int.toNat_zero, Int.reduceLE, Int.reduceLT, Int.reduceEq, Int.reduceNe, gb_T, gb_F, Int.reduceToNat, eq_self, true_or, or_true, and_true, true_and, and_self, ↓ite_gb0, ↓ite_gbn, ↓if_pos, ↓if_neg, if_true, if_false, not_true_eq_false, not_false_eq_true, gb_ne0, gb_eq0]
      · by_cases c2 : a1 = 107
        · rw [c2, gb_t (by decide)]
          simp (disch := first | assumption | exact gb_01 _ | omega) only [r_M_isName_0, r_M_isName_1, r_M_isName_28, r_M_isName_29, r_M_isName_31, r_M_isName_34, r_M_isName_35, r_M_isName_37, r_M_isName_40, r_M_isName_41, r_M_isName_44, r_M_isName_45, r_M_isName_46, r_M_isName_47, r_M_isName_49, r_M_isName_52, r_M_isName_53, r_M_isName_55, r_M_isName_58, r_M_isName_59, r_M_isName_62, r_M_isName_63, r_M_isName_64, r_M_isName_65, r_M_isName_67, r_M_isName_70, r_M_isName_71, r_M_isName_73, r_M_isName_76, r_M_isName_77, r_M_isName_79, r_M_isName_82, r_M_isName_83, r_M_isName_86, r_M_isName_87, r_M_isName_88, r_M_isName_89, r_M_isName_91, r_M_isName_94, r_M_isName_95, r_M_isName_97, r_M_isName_100, r_M_isName_101, r_M_isName_104, r_M_isName_105, w32_gb, w32i, tn_add, tn_mul, Int.toNat_natCast, Int.toNat_zero, Int.reduceLE, Int.reduceLT, Int.reduceEq, Int.reduceNe, gb_T, gb_F, Int.reduceToNat, eq_self, true_or, or_true, and_true, true_and, and_self, ↓ite_gb0, ↓ite_gbn, ↓if_pos, ↓if_neg, if_true, if_false, not_true_eq_false, not_false_eq_true, gb_ne0, gb_eq0]
        · rw [gb_f (by unfold gnm; simp only [c0, c1, c2, if_false, if_true, Int.reduceEq, Option.isSome, ↓reduceIte, Bool.false_eq_true, not_false_eq_true])]
          simp (disch := first | assumption | exact gb_01 _ | omega) only [r_M_isName_0, r_M_isName_1, r_M_isName_28, r_M_isName_29, r_M_isName_31, r_M_isName_34, r_M_isName_35, r_M_isName_37, r_M_isName_40, r_M_isName_41, r_M_isName_44, r_M_isName_45, r_M_isName_46, r_M_isName_47, r_M_isName_49, r_M_isName_52, r_M_isName_53, r_M_isName_55, r_M_isName_58, r_M_isName_59, r_M_isName_62, r_M_isName_63, r_M_isName_64, r_M_isName_65, r_M_isName_67, r_M_isName_70, r_M_isName_71, r_M_isName_73, r_M_isName_76, r_M_isName_77, r_M_isName_79, r_M_isName_82, r_M_isName_83, r_M_isName_86, r_M_isName_87, r_M_isName_88, r_M_isName_89, r_M_isName_91, r_M_isName_94, r_M_isName_95, r_M_isName_97, r_M_isName_100, r_M_isName_101, r_M_isName_104, r_M_isName_105, w32_gb, w32i, tn_add, tn_mul, Int.toNat_natCast, Int.toNat_zero, Int.reduceLE, Int.reduceLT, Int.reduceEq, Int.reduceNe, gb_T, gb_F, Int.reduceToNat, eq_self, true_or, or_true, and_true, true_and, and_self, ↓ite_gb0, ↓ite_gbn, ↓if_pos, ↓if_neg, if_true, if_false, not_true_eq_false, not_false_eq_true, gb_ne0, gb_eq0]
  · by_cases c0 : a1 = 111
    · rw [c0, gb_t (by decide)]
      simp (disch := first | assumption | exact gb_01 _ | omega) only [r_M_isName_0, r_M_isName_1, r_M_isName_28, r_M_isName_29, r_M_isName_31, r_M_isName_34, r_M_isName_35, r_M_isName_37, r_M_isName_40, r_M_isName_41, r_M_isName_44, r_M_isName_45, r_M_isName_46, r_M_isName_47, r_M_isName_49, r_M_isName_52, r_M_isName_53, r_M_isName_55, r_M_isName_58, r_M_isName_59, r_M_isName_62, r_M_isName_63, r_M_isName_64, r_M_isName_65, r_M_isName_67, r_M_isName_70, r_M_isName_71, r_M_isName_73, r_M_isName_76, r_M_isName_77, r_M_isName_79, r_M_isName_82, r_M_isName_83, r_M_isName_86, r_M_isName_87, r_M_isName_88, r_M_isName_89, r_M_isName_91, r_M_isName_94, r_M_isName_95, r_M_isName_97, r_M_isName_100, r_M_isName_101, r_M_isName_104, r_M_isName_105, w32_gb, w32i, tn_add, tn_mul, Int.toNat_natCast, Int.toNat_zero, Int.reduceLE, Int.reduceLT, Int.reduceEq, Int.reduceNe, gb_T, gb_F, Int.reduceToNat, eq_self, true_or, or_true, and_true, true_and, and_self, ↓ite_gb0, ↓ite_gbn, ↓if_pos, ↓if_neg, if_true, if_false, not_true_eq_false, not_false_eq_true, gb_ne0, gb_eq0]
    · by_cases c1 : a1 = 120
      · rw [c1, gb_t (by decide)]
        simp (disch := first | assumption | exact gb_01 _ | omega) only [r_M_isName_0, r_M_isName_1, r_M_isName_28, r_M_isName_29, r_M_isName_31, r_M_isName_34, r_M_isName_35, r_M_isName_37, r_M_isName_40, r_M_isName_41, r_M_isName_44, r_M_isName_45, r_M_isName_46, r_M_isName_47, r_M_isName_49, r_M_isName_52, r_M_isName_53, r_M_isName_55, r_M_isName_58, r_M_isName_59, r_M_isName_62, r_M_isName_63, r_M_isName_64, r_M_isName_65, r_M_isName_67, r_M_isName_70, r_M_isName_71, r_M_isName_73, r_M_isName_76, r_M_isName_77, r_M_isName_79, r_M_isName_82, r_M_isName_83, r_M_isName_86, r_M_isName_87, r_M_isName_88, r_M_isName_89, r_M_isName_91, r_M_isName_94, r_M_isName_95, r_M_isName_97, r_M_isName_100, r_M_isName_101, r_M_isName_104, r_M_isName_105, w32_gb, w32i, tn_add, tn_mul, Int.toNat_natCast, Int.toNat_zero, Int.reduceLE, Int.reduceLT, Int.reduceEq, Int.reduceNe, gb_T, gb_F, Int.reduceToNat, eq_self, true_or, or_true, and_true, true_and, and_self, ↓ite_gb0, ↓ite_gbn, ↓if_pos, ↓if_neg, if_true, if_false, not_true_eq_false, not_false_eq_true, gb_ne0, gb_eq0]
      · rw [gb_f (by unfold gnm; simp only [c0, c1, if_false, if_true, Int.reduceEq, Option.isSome, ↓reduceIte, Bool.false_eq_true, not_false_eq_true])]
        simp (disch := first | assumption | exact gb_01 _ | omega) only [r_M_isName_0, r_M_isName_1, r_M_isName_28, r_M_isName_29, r_M_isName_31, r_M_isName_34, r_M_isName_35, r_M_isName_37, r_M_isName_40, r_M_isName_41, r_M_isName_44, r_M_isName_45, r_M_isName_46, r_M_isName_47, r_M_isName_49, r_M_isName_52, r_M_isName_53, r_M_isName_55, r_M_isName_58, r_M_isName_59, r_M_isName_62, r_M_isName_63, r_M_isName_64, r_M_isName_65, r_M_isName_67, r_M_isName_70, r_M_isName_71, r_M_isName_73, r_M_isName_76, r_M_isName_77, r_M_isName_79, r_M_isName_82, r_M_isName_83, r_M_isName_86, r_M_isName_87, r_M_isName_88, r_M_isName_89, r_M_isName_91, r_M_isName_94, r_M_isName_95, r_M_isName_97, r_M_isName_100, r_M_isName_101, r_M_isName_104, r_M_isName_105, w32_gb, w32i, tn_add, tn_mul, Int.toNat_natCast, Int.toNat_zero, Int.reduceLE, Int.reduceLT, Int.reduceEq, Int.reduceNe, gb_T, gb_F, Int.reduceToNat, eq_self, true_or, or_true, and_true, true_and, and_self, ↓ite_gb0, ↓ite_gbn, ↓if_pos, ↓if_neg, if_true, if_false, not_true_eq_false, not_false_eq_true, gb_ne0, gb_eq0]
