/-! text: what is at hand. -/
variable {L d : Nat} {σ σ1 : Nat → Nat → Int} {Q : Option gV → (Nat → Nat → Int) → Prop} {a0 a1 a2 a3 a4 a5 a6 a7 a8 a9 a10 a11 s0 s1 s2 s3 s4 s5 s6 s7 s8 s9 : Int} {l0 l1 l2 l3 l4 l5 l6 l7 l8 l9 l10 l11 t0 t1 t2 t3 t4 t5 t6 t7 t8 t9 : gV} {b0 b1 b2 b3 b4 b5 b6 b7 b8 b9 b10 b11 c0 c1 c2 c3 c4 c5 c6 c7 c8 c9 : Nat} {r : Option gV}
set_option maxRecDepth 4000 in
theorem sp_signs : ∀ l : Nat, l < 5 → Run L d 170 [vI (l : Int)] σ (some (vR (8 + l))) σ
  | 0, _ => sp_U_signsOf_0
  | 1, _ => sp_U_signsOf_1
  | 2, _ => sp_U_signsOf_2
  | 3, _ => sp_U_signsOf_3
  | 4, _ => sp_U_signsOf_4
  | l + 5, h => absurd h (by omega)
theorem sp_names {key : Int} (h : 0 ≤ key ∧ key ≤ 3) : Run L d 168 [vI key] σ (some (vR (4 + key.toNat))) σ := by
  have k4 : key = 0 ∨ key = 1 ∨ key = 2 ∨ key = 3 := by omega
  rcases k4 with rfl | rfl | rfl | rfl
  · exact sp_U_namesOf_0
  · exact sp_U_namesOf_1
  · exact sp_U_namesOf_2
  · exact sp_U_namesOf_3
set_option maxRecDepth 4000 in
theorem r_U_isSignOf_0 : Wp L d k_U_isSignOf 0 [vR b0, l1] [] σ Q ↔ Wp L d k_U_isSignOf 1 [vR b0, l1] [vR b0] σ Q := wp_aload rfl rfl
set_option maxRecDepth 4000 in
theorem r_U_isSignOf_1 (h : gK c0 = 8) : Wp L d k_U_isSignOf 1 [l0, l1] [vR c0] σ Q ↔ Wp L d k_U_isSignOf 4 [l0, l1] [vI (σ c0 4)] σ Q := wp_getI (c := 2052) rfl rfl rfl rfl h
set_option maxRecDepth 4000 in
theorem r_U_isSignOf_4 : Wp L d k_U_isSignOf 4 [l0, l1] [vI s0] σ Q ↔ Wp L d k_U_isSignOf 5 [l0, l1] [vI 3, vI s0] σ Q := wp_push rfl
set_option maxRecDepth 4000 in
theorem r_U_isSignOf_5 : Wp L d k_U_isSignOf 5 [l0, l1] [vI s1, vI s0] σ Q ↔ (if s0 ≠ s1 then Wp L d k_U_isSignOf 32 [l0, l1] [] σ Q else Wp L d k_U_isSignOf 8 [l0, l1] [] σ Q) := wp_cmp_ne rfl
set_option maxRecDepth 4000 in
theorem r_U_isSignOf_8 : Wp L d k_U_isSignOf 8 [l0, vI a1] [] σ Q ↔ Wp L d k_U_isSignOf 9 [l0, vI a1] [vI a1] σ Q := wp_iload rfl rfl
set_option maxRecDepth 4000 in
theorem c_U_isSignOf_9 (hR : Run L d 170 [vI s0] σ r σ1) : Wp L (d + 1) k_U_isSignOf 9 [l0, l1] [vI s0] σ Q ↔ Wp L (d + 1) k_U_isSignOf 12 [l0, l1] (r.toList ++ []) σ1 Q := wp_callR (as := [vI s0]) (rest := []) rfl rfl rfl rfl rfl rfl rfl rfl hR
set_option maxRecDepth 4000 in
theorem r_U_isSignOf_12 : Wp L d k_U_isSignOf 12 [vR b0, l1] [vR c0] σ Q ↔ Wp L d k_U_isSignOf 13 [vR b0, l1] [vR b0, vR c0] σ Q := wp_aload rfl rfl
set_option maxRecDepth 4000 in
theorem r_U_isSignOf_13 (h : gK c1 = 8) : Wp L d k_U_isSignOf 13 [l0, l1] [vR c1, vR c0] σ Q ↔ Wp L d k_U_isSignOf 16 [l0, l1] [vR (gq c1 0), vR c0] σ Q := wp_getR (c := 2176) rfl rfl rfl rfl rfl h
set_option maxRecDepth 4000 in
theorem r_U_isSignOf_16 : Wp L d k_U_isSignOf 16 [vR b0, l1] [vR c1, vR c0] σ Q ↔ Wp L d k_U_isSignOf 17 [vR b0, l1] [vR b0, vR c1, vR c0] σ Q := wp_aload rfl rfl
set_option maxRecDepth 4000 in
theorem r_U_isSignOf_17 (h : gK c2 = 8) : Wp L d k_U_isSignOf 17 [l0, l1] [vR c2, vR c1, vR c0] σ Q ↔ Wp L d k_U_isSignOf 20 [l0, l1] [vI (σ c2 2), vR c1, vR c0] σ Q := wp_getI (c := 2050) rfl rfl rfl rfl h
set_option maxRecDepth 4000 in
theorem r_U_isSignOf_20 (h : gK c1 = 100) (hx : 0 ≤ s2 ∧ s2 < gN c1) : Wp L d k_U_isSignOf 20 [l0, l1] [vI s2, vR c1, vR c0] σ Q ↔ Wp L d k_U_isSignOf 21 [l0, l1] [vI (σ c1 s2.toNat), vR c0] σ Q := wp_iald rfl h hx
set_option maxRecDepth 4000 in
theorem r_U_isSignOf_21 : Wp L d k_U_isSignOf 21 [l0, l1] [vI s1, vR c0] σ Q ↔ Wp L d k_U_isSignOf 22 [l0, l1] [vI (gi2c s1), vR c0] σ Q := wp_i2c rfl
set_option maxRecDepth 4000 in
theorem c_U_isSignOf_22 (hR : Run L d 5 [vR c0, vI s1] σ r σ1) (hg : grecv (gSH L, σ) 21 [vR c0, vI s1] = true) : Wp L (d + 1) k_U_isSignOf 22 [l0, l1] [vI s1, vR c0] σ Q ↔ Wp L (d + 1) k_U_isSignOf 25 [l0, l1] (r.toList ++ []) σ1 Q := wp_callR (as := [vR c0, vI s1]) (rest := []) rfl rfl rfl rfl rfl rfl rfl hg hR
set_option maxRecDepth 4000 in
theorem r_U_isSignOf_25 : Wp L d k_U_isSignOf 25 [l0, l1] [vI s0] σ Q ↔ (if s0 < 0 then Wp L d k_U_isSignOf 32 [l0, l1] [] σ Q else Wp L d k_U_isSignOf 28 [l0, l1] [] σ Q) := wp_if_lt rfl
set_option maxRecDepth 4000 in
theorem r_U_isSignOf_28 : Wp L d k_U_isSignOf 28 [l0, l1] [] σ Q ↔ Wp L d k_U_isSignOf 29 [l0, l1] [vI 1] σ Q := wp_push rfl
set_option maxRecDepth 4000 in
theorem r_U_isSignOf_29 : Wp L d k_U_isSignOf 29 [l0, l1] [vI s0] σ Q ↔ Wp L d k_U_isSignOf 33 [l0, l1] [vI s0] σ Q := wp_goto rfl
set_option maxRecDepth 4000 in
theorem r_U_isSignOf_32 : Wp L d k_U_isSignOf 32 [l0, l1] [] σ Q ↔ Wp L d k_U_isSignOf 33 [l0, l1] [vI 0] σ Q := wp_push rfl
set_option maxRecDepth 4000 in
theorem r_U_isSignOf_33 (h : s0 = 0 ∨ s0 = 1) : Wp L d k_U_isSignOf 33 [l0, l1] [vI s0] σ Q ↔ Q (some (vI s0)) σ := wp_zret rfl h
set_option maxRecDepth 4000 in
theorem r_U_numberAtHand_0 : Wp L d k_U_numberAtHand 0 [l0, l1, l2] [] σ Q ↔ Wp L d k_U_numberAtHand 1 [l0, l1, l2] [vI 0] σ Q := wp_push rfl
set_option maxRecDepth 4000 in
theorem r_U_numberAtHand_1 : Wp L d k_U_numberAtHand 1 [vR b0, l1, l2] [vI s0] σ Q ↔ Wp L d k_U_numberAtHand 2 [vR b0, vI s0, l2] [] σ Q := wp_istore (i := 1) (ls := [vR b0, l1, l2]) rfl rfl
set_option maxRecDepth 4000 in
theorem r_U_numberAtHand_2 : Wp L d k_U_numberAtHand 2 [vR b0, l1, l2] [] σ Q ↔ Wp L d k_U_numberAtHand 3 [vR b0, l1, l2] [vR b0] σ Q := wp_aload rfl rfl
set_option maxRecDepth 4000 in
theorem r_U_numberAtHand_3 (h : gK c0 = 8) : Wp L d k_U_numberAtHand 3 [l0, l1, l2] [vR c0] σ Q ↔ Wp L d k_U_numberAtHand 6 [l0, l1, l2] [vI (σ c0 2)] σ Q := wp_getI (c := 2050) rfl rfl rfl rfl h
set_option maxRecDepth 4000 in
theorem r_U_numberAtHand_6 : Wp L d k_U_numberAtHand 6 [l0, vI a1, l2] [vI s0] σ Q ↔ Wp L d k_U_numberAtHand 7 [l0, vI a1, vI s0] [] σ Q := wp_istore (i := 2) (ls := [l0, vI a1, l2]) rfl rfl
set_option maxRecDepth 4000 in
theorem r_U_numberAtHand_7 : Wp L d k_U_numberAtHand 7 [l0, l1, vI a2] [] σ Q ↔ Wp L d k_U_numberAtHand 8 [l0, l1, vI a2] [vI a2] σ Q := wp_iload rfl rfl
set_option maxRecDepth 4000 in
theorem r_U_numberAtHand_8 : Wp L d k_U_numberAtHand 8 [vR b0, l1, l2] [vI s0] σ Q ↔ Wp L d k_U_numberAtHand 9 [vR b0, l1, l2] [vR b0, vI s0] σ Q := wp_aload rfl rfl
set_option maxRecDepth 4000 in
theorem r_U_numberAtHand_9 (h : gK c1 = 8) : Wp L d k_U_numberAtHand 9 [l0, l1, l2] [vR c1, vI s0] σ Q ↔ Wp L d k_U_numberAtHand 12 [l0, l1, l2] [vI (σ c1 3), vI s0] σ Q := wp_getI (c := 2051) rfl rfl rfl rfl h
set_option maxRecDepth 4000 in
theorem r_U_numberAtHand_12 : Wp L d k_U_numberAtHand 12 [l0, l1, l2] [vI s1, vI s0] σ Q ↔ (if s1 ≤ s0 then Wp L d k_U_numberAtHand 36 [l0, l1, l2] [] σ Q else Wp L d k_U_numberAtHand 15 [l0, l1, l2] [] σ Q) := wp_cmp_ge rfl
set_option maxRecDepth 4000 in
theorem r_U_numberAtHand_15 : Wp L d k_U_numberAtHand 15 [l0, l1, l2] [] σ Q ↔ Wp L d k_U_numberAtHand 17 [l0, l1, l2] [vI 10] σ Q := wp_push rfl
set_option maxRecDepth 4000 in
theorem r_U_numberAtHand_17 : Wp L d k_U_numberAtHand 17 [l0, vI a1, l2] [vI s0] σ Q ↔ Wp L d k_U_numberAtHand 18 [l0, vI a1, l2] [vI a1, vI s0] σ Q := wp_iload rfl rfl
set_option maxRecDepth 4000 in
theorem r_U_numberAtHand_18 : Wp L d k_U_numberAtHand 18 [l0, l1, l2] [vI s1, vI s0] σ Q ↔ Wp L d k_U_numberAtHand 19 [l0, l1, l2] [vI (w32 (s0 * s1))] σ Q := wp_imul rfl
set_option maxRecDepth 4000 in
theorem r_U_numberAtHand_19 : Wp L d k_U_numberAtHand 19 [vR b0, l1, l2] [vI s0] σ Q ↔ Wp L d k_U_numberAtHand 20 [vR b0, l1, l2] [vR b0, vI s0] σ Q := wp_aload rfl rfl
set_option maxRecDepth 4000 in
theorem r_U_numberAtHand_20 (h : gK c1 = 8) : Wp L d k_U_numberAtHand 20 [l0, l1, l2] [vR c1, vI s0] σ Q ↔ Wp L d k_U_numberAtHand 23 [l0, l1, l2] [vR (gq c1 0), vI s0] σ Q := wp_getR (c := 2176) rfl rfl rfl rfl rfl h
set_option maxRecDepth 4000 in
theorem r_U_numberAtHand_23 : Wp L d k_U_numberAtHand 23 [l0, l1, vI a2] [vR c1, vI s0] σ Q ↔ Wp L d k_U_numberAtHand 24 [l0, l1, vI a2] [vI a2, vR c1, vI s0] σ Q := wp_iload rfl rfl
set_option maxRecDepth 4000 in
theorem r_U_numberAtHand_24 (h : gK c1 = 100) (hx : 0 ≤ s2 ∧ s2 < gN c1) : Wp L d k_U_numberAtHand 24 [l0, l1, l2] [vI s2, vR c1, vI s0] σ Q ↔ Wp L d k_U_numberAtHand 25 [l0, l1, l2] [vI (σ c1 s2.toNat), vI s0] σ Q := wp_iald rfl h hx
set_option maxRecDepth 4000 in
theorem r_U_numberAtHand_25 : Wp L d k_U_numberAtHand 25 [l0, l1, l2] [vI s1, vI s0] σ Q ↔ Wp L d k_U_numberAtHand 26 [l0, l1, l2] [vI (w32 (s0 + s1))] σ Q := wp_iadd rfl
set_option maxRecDepth 4000 in
theorem r_U_numberAtHand_26 : Wp L d k_U_numberAtHand 26 [l0, l1, l2] [vI s0] σ Q ↔ Wp L d k_U_numberAtHand 28 [l0, l1, l2] [vI 48, vI s0] σ Q := wp_push rfl
set_option maxRecDepth 4000 in
theorem r_U_numberAtHand_28 : Wp L d k_U_numberAtHand 28 [l0, l1, l2] [vI s1, vI s0] σ Q ↔ Wp L d k_U_numberAtHand 29 [l0, l1, l2] [vI (w32 (s0 - s1))] σ Q := wp_isub rfl
set_option maxRecDepth 4000 in
theorem r_U_numberAtHand_29 : Wp L d k_U_numberAtHand 29 [vR b0, l1, l2] [vI s0] σ Q ↔ Wp L d k_U_numberAtHand 30 [vR b0, vI s0, l2] [] σ Q := wp_istore (i := 1) (ls := [vR b0, l1, l2]) rfl rfl
set_option maxRecDepth 4000 in
theorem r_U_numberAtHand_30 : Wp L d k_U_numberAtHand 30 [l0, vI a1, vI a2] [] σ Q ↔ Wp L d k_U_numberAtHand 33 [l0, vI a1, vI (w32 (a2 + 1))] [] σ Q := wp_iinc (i := 2) (ls := [l0, vI a1, vI a2]) rfl rfl
set_option maxRecDepth 4000 in
theorem r_U_numberAtHand_33 : Wp L d k_U_numberAtHand 33 [l0, l1, l2] [] σ Q ↔ Wp L d k_U_numberAtHand 7 [l0, l1, l2] [] σ Q := wp_goto rfl
set_option maxRecDepth 4000 in
theorem r_U_numberAtHand_36 : Wp L d k_U_numberAtHand 36 [l0, vI a1, l2] [] σ Q ↔ Wp L d k_U_numberAtHand 37 [l0, vI a1, l2] [vI a1] σ Q := wp_iload rfl rfl
set_option maxRecDepth 4000 in
theorem r_U_numberAtHand_37 : Wp L d k_U_numberAtHand 37 [l0, l1, l2] [vI s0] σ Q ↔ Q (some (vI s0)) σ := wp_iret rfl
set_option maxRecDepth 4000 in
theorem r_U_leafAtHand_0 : Wp L d k_U_leafAtHand 0 [vR b0, l1] [] σ Q ↔ Wp L d k_U_leafAtHand 1 [vR b0, l1] [vR b0] σ Q := wp_aload rfl rfl
set_option maxRecDepth 4000 in
theorem r_U_leafAtHand_1 (h : gK c0 = 8) : Wp L d k_U_leafAtHand 1 [l0, l1] [vR c0] σ Q ↔ Wp L d k_U_leafAtHand 4 [l0, l1] [vI (σ c0 4)] σ Q := wp_getI (c := 2052) rfl rfl rfl rfl h
set_option maxRecDepth 4000 in
theorem r_U_leafAtHand_4 : Wp L d k_U_leafAtHand 4 [l0, l1] [vI s0] σ Q ↔ Wp L d k_U_leafAtHand 5 [l0, l1] [vI 2, vI s0] σ Q := wp_push rfl
set_option maxRecDepth 4000 in
theorem r_U_leafAtHand_5 : Wp L d k_U_leafAtHand 5 [l0, l1] [vI s1, vI s0] σ Q ↔ (if s0 ≠ s1 then Wp L d k_U_leafAtHand 31 [l0, l1] [] σ Q else Wp L d k_U_leafAtHand 8 [l0, l1] [] σ Q) := wp_cmp_ne rfl
set_option maxRecDepth 4000 in
theorem r_U_leafAtHand_8 : Wp L d k_U_leafAtHand 8 [vR b0, l1] [] σ Q ↔ Wp L d k_U_leafAtHand 9 [vR b0, l1] [vR b0] σ Q := wp_aload rfl rfl
set_option maxRecDepth 4000 in
theorem r_U_leafAtHand_9 (h : gK c0 = 8) : Wp L d k_U_leafAtHand 9 [l0, l1] [vR c0] σ Q ↔ Wp L d k_U_leafAtHand 12 [l0, l1] [vI (σ c0 3)] σ Q := wp_getI (c := 2051) rfl rfl rfl rfl h
set_option maxRecDepth 4000 in
theorem r_U_leafAtHand_12 : Wp L d k_U_leafAtHand 12 [vR b0, l1] [vI s0] σ Q ↔ Wp L d k_U_leafAtHand 13 [vR b0, l1] [vR b0, vI s0] σ Q := wp_aload rfl rfl
set_option maxRecDepth 4000 in
theorem r_U_leafAtHand_13 (h : gK c1 = 8) : Wp L d k_U_leafAtHand 13 [l0, l1] [vR c1, vI s0] σ Q ↔ Wp L d k_U_leafAtHand 16 [l0, l1] [vI (σ c1 2), vI s0] σ Q := wp_getI (c := 2050) rfl rfl rfl rfl h
set_option maxRecDepth 4000 in
theorem r_U_leafAtHand_16 : Wp L d k_U_leafAtHand 16 [l0, l1] [vI s1, vI s0] σ Q ↔ Wp L d k_U_leafAtHand 17 [l0, l1] [vI (w32 (s0 - s1))] σ Q := wp_isub rfl
set_option maxRecDepth 4000 in
theorem r_U_leafAtHand_17 : Wp L d k_U_leafAtHand 17 [l0, l1] [vI s0] σ Q ↔ Wp L d k_U_leafAtHand 18 [l0, l1] [vI 4, vI s0] σ Q := wp_push rfl
set_option maxRecDepth 4000 in
theorem r_U_leafAtHand_18 : Wp L d k_U_leafAtHand 18 [l0, l1] [vI s1, vI s0] σ Q ↔ (if s0 ≤ s1 then Wp L d k_U_leafAtHand 26 [l0, l1] [] σ Q else Wp L d k_U_leafAtHand 21 [l0, l1] [] σ Q) := wp_cmp_le rfl
set_option maxRecDepth 4000 in
theorem r_U_leafAtHand_21 : Wp L d k_U_leafAtHand 21 [l0, l1] [] σ Q ↔ Wp L d k_U_leafAtHand 23 [l0, l1] [vI (-1000000005)] σ Q := wp_push rfl
set_option maxRecDepth 4000 in
theorem r_U_leafAtHand_23 : Wp L d k_U_leafAtHand 23 [l0, l1] [vI s0] σ Q ↔ Wp L d k_U_leafAtHand 30 [l0, l1] [vI s0] σ Q := wp_goto rfl
set_option maxRecDepth 4000 in
theorem r_U_leafAtHand_26 : Wp L d k_U_leafAtHand 26 [vR b0, l1] [] σ Q ↔ Wp L d k_U_leafAtHand 27 [vR b0, l1] [vR b0] σ Q := wp_aload rfl rfl
set_option maxRecDepth 4000 in
theorem c_U_leafAtHand_27 (hR : Run L d 167 [vR c0] σ r σ1) (h : gK c0 = 8) : Wp L (d + 1) k_U_leafAtHand 27 [l0, l1] [vR c0] σ Q ↔ Wp L (d + 1) k_U_leafAtHand 30 [l0, l1] (r.toList ++ []) σ1 Q := wp_callR (as := [vR c0]) (rest := []) rfl rfl rfl rfl rfl rfl rfl (grecv_k (by rw [h]) rfl) hR
set_option maxRecDepth 4000 in
theorem r_U_leafAtHand_30 : Wp L d k_U_leafAtHand 30 [l0, l1] [vI s0] σ Q ↔ Q (some (vI s0)) σ := wp_iret rfl
set_option maxRecDepth 4000 in
theorem r_U_leafAtHand_31 : Wp L d k_U_leafAtHand 31 [vR b0, l1] [] σ Q ↔ Wp L d k_U_leafAtHand 32 [vR b0, l1] [vR b0] σ Q := wp_aload rfl rfl
set_option maxRecDepth 4000 in
theorem r_U_leafAtHand_32 (h : gK c0 = 8) : Wp L d k_U_leafAtHand 32 [l0, l1] [vR c0] σ Q ↔ Wp L d k_U_leafAtHand 35 [l0, l1] [vI (σ c0 4)] σ Q := wp_getI (c := 2052) rfl rfl rfl rfl h
set_option maxRecDepth 4000 in
theorem r_U_leafAtHand_35 : Wp L d k_U_leafAtHand 35 [l0, l1] [vI s0] σ Q ↔ Wp L d k_U_leafAtHand 36 [l0, l1] [vI 1, vI s0] σ Q := wp_push rfl
set_option maxRecDepth 4000 in
theorem r_U_leafAtHand_36 : Wp L d k_U_leafAtHand 36 [l0, l1] [vI s1, vI s0] σ Q ↔ (if s0 ≠ s1 then Wp L d k_U_leafAtHand 52 [l0, l1] [] σ Q else Wp L d k_U_leafAtHand 39 [l0, l1] [] σ Q) := wp_cmp_ne rfl
set_option maxRecDepth 4000 in
theorem r_U_leafAtHand_39 : Wp L d k_U_leafAtHand 39 [vR b0, l1] [] σ Q ↔ Wp L d k_U_leafAtHand 40 [vR b0, l1] [vR b0] σ Q := wp_aload rfl rfl
set_option maxRecDepth 4000 in
theorem r_U_leafAtHand_40 (h : gK c0 = 8) : Wp L d k_U_leafAtHand 40 [l0, l1] [vR c0] σ Q ↔ Wp L d k_U_leafAtHand 43 [l0, l1] [vI (σ c0 3)] σ Q := wp_getI (c := 2051) rfl rfl rfl rfl h
set_option maxRecDepth 4000 in
theorem r_U_leafAtHand_43 : Wp L d k_U_leafAtHand 43 [vR b0, l1] [vI s0] σ Q ↔ Wp L d k_U_leafAtHand 44 [vR b0, l1] [vR b0, vI s0] σ Q := wp_aload rfl rfl
set_option maxRecDepth 4000 in
theorem r_U_leafAtHand_44 (h : gK c1 = 8) : Wp L d k_U_leafAtHand 44 [l0, l1] [vR c1, vI s0] σ Q ↔ Wp L d k_U_leafAtHand 47 [l0, l1] [vI (σ c1 2), vI s0] σ Q := wp_getI (c := 2050) rfl rfl rfl rfl h
set_option maxRecDepth 4000 in
theorem r_U_leafAtHand_47 : Wp L d k_U_leafAtHand 47 [l0, l1] [vI s1, vI s0] σ Q ↔ Wp L d k_U_leafAtHand 48 [l0, l1] [vI (w32 (s0 - s1))] σ Q := wp_isub rfl
set_option maxRecDepth 4000 in
theorem r_U_leafAtHand_48 : Wp L d k_U_leafAtHand 48 [l0, l1] [vI s0] σ Q ↔ Wp L d k_U_leafAtHand 49 [l0, l1] [vI 1, vI s0] σ Q := wp_push rfl
set_option maxRecDepth 4000 in
theorem r_U_leafAtHand_49 : Wp L d k_U_leafAtHand 49 [l0, l1] [vI s1, vI s0] σ Q ↔ (if s0 = s1 then Wp L d k_U_leafAtHand 55 [l0, l1] [] σ Q else Wp L d k_U_leafAtHand 52 [l0, l1] [] σ Q) := wp_cmp_eq rfl
set_option maxRecDepth 4000 in
theorem r_U_leafAtHand_52 : Wp L d k_U_leafAtHand 52 [l0, l1] [] σ Q ↔ Wp L d k_U_leafAtHand 54 [l0, l1] [vI (-1000000005)] σ Q := wp_push rfl
set_option maxRecDepth 4000 in
theorem r_U_leafAtHand_54 : Wp L d k_U_leafAtHand 54 [l0, l1] [vI s0] σ Q ↔ Q (some (vI s0)) σ := wp_iret rfl
set_option maxRecDepth 4000 in
theorem r_U_leafAtHand_55 : Wp L d k_U_leafAtHand 55 [vR b0, l1] [] σ Q ↔ Wp L d k_U_leafAtHand 56 [vR b0, l1] [vR b0] σ Q := wp_aload rfl rfl
set_option maxRecDepth 4000 in
theorem r_U_leafAtHand_56 (h : gK c0 = 8) : Wp L d k_U_leafAtHand 56 [l0, l1] [vR c0] σ Q ↔ Wp L d k_U_leafAtHand 59 [l0, l1] [vI (σ c0 8)] σ Q := wp_getI (c := 2056) rfl rfl rfl rfl h
set_option maxRecDepth 4000 in
theorem c_U_leafAtHand_59 (hR : Run L d 168 [vI s0] σ r σ1) : Wp L (d + 1) k_U_leafAtHand 59 [l0, l1] [vI s0] σ Q ↔ Wp L (d + 1) k_U_leafAtHand 62 [l0, l1] (r.toList ++ []) σ1 Q := wp_callR (as := [vI s0]) (rest := []) rfl rfl rfl rfl rfl rfl rfl rfl hR
set_option maxRecDepth 4000 in
theorem r_U_leafAtHand_62 : Wp L d k_U_leafAtHand 62 [vR b0, l1] [vR c0] σ Q ↔ Wp L d k_U_leafAtHand 63 [vR b0, l1] [vR b0, vR c0] σ Q := wp_aload rfl rfl
set_option maxRecDepth 4000 in
theorem r_U_leafAtHand_63 (h : gK c1 = 8) : Wp L d k_U_leafAtHand 63 [l0, l1] [vR c1, vR c0] σ Q ↔ Wp L d k_U_leafAtHand 66 [l0, l1] [vR (gq c1 0), vR c0] σ Q := wp_getR (c := 2176) rfl rfl rfl rfl rfl h
set_option maxRecDepth 4000 in
theorem r_U_leafAtHand_66 : Wp L d k_U_leafAtHand 66 [vR b0, l1] [vR c1, vR c0] σ Q ↔ Wp L d k_U_leafAtHand 67 [vR b0, l1] [vR b0, vR c1, vR c0] σ Q := wp_aload rfl rfl
set_option maxRecDepth 4000 in
theorem r_U_leafAtHand_67 (h : gK c2 = 8) : Wp L d k_U_leafAtHand 67 [l0, l1] [vR c2, vR c1, vR c0] σ Q ↔ Wp L d k_U_leafAtHand 70 [l0, l1] [vI (σ c2 2), vR c1, vR c0] σ Q := wp_getI (c := 2050) rfl rfl rfl rfl h
set_option maxRecDepth 4000 in
theorem r_U_leafAtHand_70 (h : gK c1 = 100) (hx : 0 ≤ s2 ∧ s2 < gN c1) : Wp L d k_U_leafAtHand 70 [l0, l1] [vI s2, vR c1, vR c0] σ Q ↔ Wp L d k_U_leafAtHand 71 [l0, l1] [vI (σ c1 s2.toNat), vR c0] σ Q := wp_iald rfl h hx
set_option maxRecDepth 4000 in
theorem r_U_leafAtHand_71 : Wp L d k_U_leafAtHand 71 [l0, l1] [vI s1, vR c0] σ Q ↔ Wp L d k_U_leafAtHand 72 [l0, l1] [vI (gi2c s1), vR c0] σ Q := wp_i2c rfl
set_option maxRecDepth 4000 in
theorem c_U_leafAtHand_72 (hR : Run L d 5 [vR c0, vI s1] σ r σ1) (hg : grecv (gSH L, σ) 21 [vR c0, vI s1] = true) : Wp L (d + 1) k_U_leafAtHand 72 [l0, l1] [vI s1, vR c0] σ Q ↔ Wp L (d + 1) k_U_leafAtHand 75 [l0, l1] (r.toList ++ []) σ1 Q := wp_callR (as := [vR c0, vI s1]) (rest := []) rfl rfl rfl rfl rfl rfl rfl hg hR
set_option maxRecDepth 4000 in
theorem r_U_leafAtHand_75 : Wp L d k_U_leafAtHand 75 [vR b0, l1] [vI s0] σ Q ↔ Wp L d k_U_leafAtHand 76 [vR b0, vI s0] [] σ Q := wp_istore (i := 1) (ls := [vR b0, l1]) rfl rfl
set_option maxRecDepth 4000 in
theorem r_U_leafAtHand_76 : Wp L d k_U_leafAtHand 76 [l0, vI a1] [] σ Q ↔ Wp L d k_U_leafAtHand 77 [l0, vI a1] [vI a1] σ Q := wp_iload rfl rfl
set_option maxRecDepth 4000 in
theorem r_U_leafAtHand_77 : Wp L d k_U_leafAtHand 77 [l0, l1] [vI s0] σ Q ↔ (if 0 ≤ s0 then Wp L d k_U_leafAtHand 85 [l0, l1] [] σ Q else Wp L d k_U_leafAtHand 80 [l0, l1] [] σ Q) := wp_if_ge rfl
set_option maxRecDepth 4000 in
theorem r_U_leafAtHand_80 : Wp L d k_U_leafAtHand 80 [l0, l1] [] σ Q ↔ Wp L d k_U_leafAtHand 82 [l0, l1] [vI (-1000000005)] σ Q := wp_push rfl
set_option maxRecDepth 4000 in
theorem r_U_leafAtHand_82 : Wp L d k_U_leafAtHand 82 [l0, l1] [vI s0] σ Q ↔ Wp L d k_U_leafAtHand 90 [l0, l1] [vI s0] σ Q := wp_goto rfl
set_option maxRecDepth 4000 in
theorem r_U_leafAtHand_85 : Wp L d k_U_leafAtHand 85 [l0, l1] [] σ Q ↔ Wp L d k_U_leafAtHand 88 [l0, l1] [vI 10000] σ Q := wp_push rfl
set_option maxRecDepth 4000 in
theorem r_U_leafAtHand_88 : Wp L d k_U_leafAtHand 88 [l0, vI a1] [vI s0] σ Q ↔ Wp L d k_U_leafAtHand 89 [l0, vI a1] [vI a1, vI s0] σ Q := wp_iload rfl rfl
set_option maxRecDepth 4000 in
theorem r_U_leafAtHand_89 : Wp L d k_U_leafAtHand 89 [l0, l1] [vI s1, vI s0] σ Q ↔ Wp L d k_U_leafAtHand 90 [l0, l1] [vI (w32 (s0 + s1))] σ Q := wp_iadd rfl
set_option maxRecDepth 4000 in
theorem r_U_leafAtHand_90 : Wp L d k_U_leafAtHand 90 [l0, l1] [vI s0] σ Q ↔ Q (some (vI s0)) σ := wp_iret rfl
set_option maxRecDepth 4000 in
theorem pv_signOf_t {b : Nat → Int} {n e N lv : Nat} {key w : Int} {pw pv : Nat → Int} (h96 : n ≤ 96) (hen : e ≤ n) (hb : ∀ i, i < n → 0 ≤ b i ∧ b i ≤ 255) (h : PVc b n key e w N lv pw pv σ) {l : Nat} (hl : l < 5) (hs : gtq b n e w = 3 ∧ gsl l (b (gts b n e))) : Run L (d + 4) 169 [vR 279, vI (l : Int)] σ (some (vI 1)) σ := by
  refine Run_of (C' := k_U_isSignOf) rfl ?_
  show Wp L (d + 4) k_U_isSignOf 0 [vR 279, vI (l : Int)] [] σ _
  obtain ⟨K280, N280, K281, N281⟩ := litC
  have K279 := gK_279
  obtain ⟨⟨t1, t2, t3, t4, t5⟩, h2, h3, h4, h5, h6⟩ := h
  have hg := grecv_s (L := L) (σ := σ) (t := [vI (b (gts b n e))]) (show 8 + l < 13 by omega)
  have hS := sp_signs (L := L) (d := d + 3) (σ := σ) l hl
  by_cases c : gtq b n e w = 3
  · have q := tq_3 c
    have rb := hb _ q.1
    have hR := sp_Str_indexOf_I (L := L) (d := d) (a1 := b (gts b n e)) (show 8 + l < 13 by omega) h6 rb
    have e1 := t2 _ q.1
    have e2 : gi2c (b (gts b n e)) = b (gts b n e) := by unfold gi2c; omega
    have i0 : 0 ≤ gfx (8 + l) (b (gts b n e)) 0 (gln (8 + l)) := hs.2
    simp (disch := first | assumption | exact gb_01 _ | omega) only [r_U_isSignOf_0, r_U_isSignOf_1, r_U_isSignOf_4, r_U_isSignOf_5, r_U_isSignOf_8, r_U_isSignOf_12, r_U_isSignOf_13, r_U_isSignOf_16, r_U_isSignOf_17, r_U_isSignOf_20, r_U_isSignOf_21, r_U_isSignOf_25, r_U_isSignOf_28, r_U_isSignOf_29, r_U_isSignOf_32, r_U_isSignOf_33, c_U_isSignOf_9 hS, c_U_isSignOf_22 hR hg, Option.toList, List.singleton_append, List.cons_append, List.nil_append, List.append_nil, gq_279_0, gq_279_5, t3, t5, e1, e2, w32_gb, w32i, tn_add, tn_mul, Int.toNat_natCast, Int.toNat_zero, Int.reduceLE, Int.reduceLT, Int.reduceEq, Int.reduceNe, gb_T, gb_F, Int.reduceToNat, eq_self, true_or, or_true, and_true, true_and, and_self, ↓ite_gb0, ↓ite_gbn, ↓if_pos, ↓if_neg, if_true, if_false, not_true_eq_false, not_false_eq_true, gb_ne0, gb_eq0]
  · exact absurd hs.1 c
set_option maxRecDepth 4000 in
theorem pv_signOf_f {b : Nat → Int} {n e N lv : Nat} {key w : Int} {pw pv : Nat → Int} (h96 : n ≤ 96) (hen : e ≤ n) (hb : ∀ i, i < n → 0 ≤ b i ∧ b i ≤ 255) (h : PVc b n key e w N lv pw pv σ) {l : Nat} (hl : l < 5) (hs : ¬(gtq b n e w = 3 ∧ gsl l (b (gts b n e)))) : Run L (d + 4) 169 [vR 279, vI (l : Int)] σ (some (vI 0)) σ := by
  refine Run_of (C' := k_U_isSignOf) rfl ?_
  show Wp L (d + 4) k_U_isSignOf 0 [vR 279, vI (l : Int)] [] σ _
  obtain ⟨K280, N280, K281, N281⟩ := litC
  have K279 := gK_279
  obtain ⟨⟨t1, t2, t3, t4, t5⟩, h2, h3, h4, h5, h6⟩ := h
  have hg := grecv_s (L := L) (σ := σ) (t := [vI (b (gts b n e))]) (show 8 + l < 13 by omega)
  have hS := sp_signs (L := L) (d := d + 3) (σ := σ) l hl
  by_cases c : gtq b n e w = 3
  · have q := tq_3 c
    have rb := hb _ q.1
    have hR := sp_Str_indexOf_I (L := L) (d := d) (a1 := b (gts b n e)) (show 8 + l < 13 by omega) h6 rb
    have e1 := t2 _ q.1
    have e2 : gi2c (b (gts b n e)) = b (gts b n e) := by unfold gi2c; omega
    have i0 : gfx (8 + l) (b (gts b n e)) 0 (gln (8 + l)) < 0 := by
      have : ¬ 0 ≤ gfx (8 + l) (b (gts b n e)) 0 (gln (8 + l)) := fun z => hs ⟨c, z⟩
      omega
    simp (disch := first | assumption | exact gb_01 _ | omega) only [r_U_isSignOf_0, r_U_isSignOf_1, r_U_isSignOf_4, r_U_isSignOf_5, r_U_isSignOf_8, r_U_isSignOf_12, r_U_isSignOf_13, r_U_isSignOf_16, r_U_isSignOf_17, r_U_isSignOf_20, r_U_isSignOf_21, r_U_isSignOf_25, r_U_isSignOf_28, r_U_isSignOf_29, r_U_isSignOf_32, r_U_isSignOf_33, c_U_isSignOf_9 hS, c_U_isSignOf_22 hR hg, Option.toList, List.singleton_append, List.cons_append, List.nil_append, List.append_nil, gq_279_0, gq_279_5, t3, t5, e1, e2, w32_gb, w32i, tn_add, tn_mul, Int.toNat_natCast, Int.toNat_zero, Int.reduceLE, Int.reduceLT, Int.reduceEq, Int.reduceNe, gb_T, gb_F, Int.reduceToNat, eq_self, true_or, or_true, and_true, true_and, and_self, ↓ite_gb0, ↓ite_gbn, ↓if_pos, ↓if_neg, if_true, if_false, not_true_eq_false, not_false_eq_true, gb_ne0, gb_eq0]
  · simp (disch := first | assumption | exact gb_01 _ | omega) only [r_U_isSignOf_0, r_U_isSignOf_1, r_U_isSignOf_4, r_U_isSignOf_5, r_U_isSignOf_8, r_U_isSignOf_12, r_U_isSignOf_13, r_U_isSignOf_16, r_U_isSignOf_17, r_U_isSignOf_20, r_U_isSignOf_21, r_U_isSignOf_25, r_U_isSignOf_28, r_U_isSignOf_29, r_U_isSignOf_32, r_U_isSignOf_33, gq_279_0, gq_279_5, t3, t5, w32_gb, w32i, tn_add, tn_mul, Int.toNat_natCast, Int.toNat_zero, Int.reduceLE, Int.reduceLT, Int.reduceEq, Int.reduceNe, gb_T, gb_F, Int.reduceToNat, eq_self, true_or, or_true, and_true, true_and, and_self, ↓ite_gb0, ↓ite_gbn, ↓if_pos, ↓if_neg, if_true, if_false, not_true_eq_false, not_false_eq_true, gb_ne0, gb_eq0]
set_option maxRecDepth 4000 in
theorem pv_number {b : Nat → Int} {n e N lv : Nat} {key w : Int} {pw pv : Nat → Int} (h96 : n ≤ 96) (hen : e ≤ n) (hb : ∀ i, i < n → 0 ≤ b i ∧ b i ≤ 255) (h : PVc b n key e w N lv pw pv σ) (c : gtq b n e w = 2) (c4 : ¬ gts b n e + 4 < gte b n e) : Run L d 167 [vR 279] σ (some (vI (gnum b (gts b n e) (gte b n e - gts b n e)))) σ := by
  refine Run_of (C' := k_U_numberAtHand) rfl ?_
  show Wp L d k_U_numberAtHand 0 [vR 279, vU, vU] [] σ _
  obtain ⟨K280, N280, K281, N281⟩ := litC
  have K279 := gK_279
  obtain ⟨⟨t1, t2, t3, t4, t5⟩, h2, h3, h4, h5, h6⟩ := h
  have q := tq_2 hen c
  have tb := gte_bd (b := b) hen
  generalize gts b n e = s at *
  generalize gte b n e = t at *
  have go : Wp L d k_U_numberAtHand 7 [vR 279, vI 0, vI (s : Int)] [] σ (fun r' σ' => r' = some (vI (gnum b s (t - s))) ∧ σ' = σ) := by
    refine wloop (n := t - s) (I := fun k ls τ => ls = [vR 279, vI (gnum b s k), vI ((s + k : Nat) : Int)] ∧ τ = σ) (fun k ls τ hk hi hq => ?_) (fun ls τ hi => ?_) (t - s) 0 (by omega) _ _ ⟨rfl, rfl⟩
    · obtain ⟨rfl, rfl⟩ := hi
      have z0 := t2 (s + k) (by omega)
      have tn : ((s + k : Nat) : Int).toNat = s + k := by omega
      have bd := gnum_bd k (fun i hi => q.2.2 i (by omega))
      have d8 := gso_2.1 (q.2.2 k hk)
      have gn : gnum b s (k + 1) = 10 * gnum b s k + b (s + k) - 48 := if_pos (by omega)
      rw [r_U_numberAtHand_7]
      simp (disch := first | assumption | exact gb_01 _ | omega) only [r_U_numberAtHand_0, r_U_numberAtHand_1, r_U_numberAtHand_2, r_U_numberAtHand_3, r_U_numberAtHand_6, r_U_numberAtHand_8, r_U_numberAtHand_9, r_U_numberAtHand_12, r_U_numberAtHand_15, r_U_numberAtHand_17, r_U_numberAtHand_18, r_U_numberAtHand_19, r_U_numberAtHand_20, r_U_numberAtHand_23, r_U_numberAtHand_24, r_U_numberAtHand_25, r_U_numberAtHand_26, r_U_numberAtHand_28, r_U_numberAtHand_29, r_U_numberAtHand_30, r_U_numberAtHand_33, r_U_numberAtHand_36, r_U_numberAtHand_37, gq_279_0, gq_279_5, t3, t4, z0, tn, w32_gb, w32i, tn_add, tn_mul, Int.toNat_natCast, Int.toNat_zero, Int.reduceLE, Int.reduceLT, Int.reduceEq, Int.reduceNe, gb_T, gb_F, Int.reduceToNat, eq_self, true_or, or_true, and_true, true_and, and_self, ↓ite_gb0, ↓ite_gbn, ↓if_pos, ↓if_neg, if_true, if_false, not_true_eq_false, not_false_eq_true, gb_ne0, gb_eq0]
      refine hq _ _ ⟨?_, rfl⟩
      rw [gn]
      rfl
    · obtain ⟨rfl, rfl⟩ := hi
      rw [show s + (t - s) = t by omega, r_U_numberAtHand_7]
      simp (disch := first | assumption | exact gb_01 _ | omega) only [r_U_numberAtHand_0, r_U_numberAtHand_1, r_U_numberAtHand_2, r_U_numberAtHand_3, r_U_numberAtHand_6, r_U_numberAtHand_8, r_U_numberAtHand_9, r_U_numberAtHand_12, r_U_numberAtHand_15, r_U_numberAtHand_17, r_U_numberAtHand_18, r_U_numberAtHand_19, r_U_numberAtHand_20, r_U_numberAtHand_23, r_U_numberAtHand_24, r_U_numberAtHand_25, r_U_numberAtHand_26, r_U_numberAtHand_28, r_U_numberAtHand_29, r_U_numberAtHand_30, r_U_numberAtHand_33, r_U_numberAtHand_36, r_U_numberAtHand_37, gq_279_0, gq_279_5, t4, w32_gb, w32i, tn_add, tn_mul, Int.toNat_natCast, Int.toNat_zero, Int.reduceLE, Int.reduceLT, Int.reduceEq, Int.reduceNe, gb_T, gb_F, Int.reduceToNat, eq_self, true_or, or_true, and_true, true_and, and_self, ↓ite_gb0, ↓ite_gbn, ↓if_pos, ↓if_neg, if_true, if_false, not_true_eq_false, not_false_eq_true, gb_ne0, gb_eq0]
  simp (disch := first | assumption | exact gb_01 _ | omega) only [r_U_numberAtHand_0, r_U_numberAtHand_1, r_U_numberAtHand_2, r_U_numberAtHand_3, r_U_numberAtHand_6, r_U_numberAtHand_8, r_U_numberAtHand_9, r_U_numberAtHand_12, r_U_numberAtHand_15, r_U_numberAtHand_17, r_U_numberAtHand_18, r_U_numberAtHand_19, r_U_numberAtHand_20, r_U_numberAtHand_23, r_U_numberAtHand_24, r_U_numberAtHand_25, r_U_numberAtHand_26, r_U_numberAtHand_28, r_U_numberAtHand_29, r_U_numberAtHand_30, r_U_numberAtHand_33, r_U_numberAtHand_36, r_U_numberAtHand_37, gq_279_0, gq_279_5, t3, w32_gb, w32i, tn_add, tn_mul, Int.toNat_natCast, Int.toNat_zero, Int.reduceLE, Int.reduceLT, Int.reduceEq, Int.reduceNe, gb_T, gb_F, Int.reduceToNat, eq_self, true_or, or_true, and_true, true_and, and_self, ↓ite_gb0, ↓ite_gbn, ↓if_pos, ↓if_neg, if_true, if_false, not_true_eq_false, not_false_eq_true, gb_ne0, gb_eq0]
  exact go
set_option maxRecDepth 4000 in
theorem pv_leaf_num {b : Nat → Int} {n e N lv : Nat} {key w : Int} {pw pv : Nat → Int} (h96 : n ≤ 96) (hen : e ≤ n) (hb : ∀ i, i < n → 0 ≤ b i ∧ b i ≤ 255) (h : PVc b n key e w N lv pw pv σ) (c : gtq b n e w = 2) (c4 : ¬ gts b n e + 4 < gte b n e) : Run L (d + 4) 166 [vR 279] σ (some (vI (gnum b (gts b n e) (gte b n e - gts b n e)))) σ := by
  refine Run_of (C' := k_U_leafAtHand) rfl ?_
  show Wp L (d + 4) k_U_leafAtHand 0 [vR 279, vU] [] σ _
  obtain ⟨K280, N280, K281, N281⟩ := litC
  have K279 := gK_279
  have hR := pv_number (L := L) (d := d + 3) h96 hen hb h c c4
  obtain ⟨⟨t1, t2, t3, t4, t5⟩, h2, h3, h4, h5, h6⟩ := h
  have tb := gte_bd (b := b) hen
  simp (disch := first | assumption | exact gb_01 _ | omega) only [r_U_leafAtHand_0, r_U_leafAtHand_1, r_U_leafAtHand_4, r_U_leafAtHand_5, r_U_leafAtHand_8, r_U_leafAtHand_9, r_U_leafAtHand_12, r_U_leafAtHand_13, r_U_leafAtHand_16, r_U_leafAtHand_17, r_U_leafAtHand_18, r_U_leafAtHand_21, r_U_leafAtHand_23, r_U_leafAtHand_26, r_U_leafAtHand_30, r_U_leafAtHand_31, r_U_leafAtHand_32, r_U_leafAtHand_35, r_U_leafAtHand_36, r_U_leafAtHand_39, r_U_leafAtHand_40, r_U_leafAtHand_43, r_U_leafAtHand_44, r_U_leafAtHand_47, r_U_leafAtHand_48, r_U_leafAtHand_49, r_U_leafAtHand_52, r_U_leafAtHand_54, r_U_leafAtHand_55, r_U_leafAtHand_56, r_U_leafAtHand_62, r_U_leafAtHand_63, r_U_leafAtHand_66, r_U_leafAtHand_67, r_U_leafAtHand_70, r_U_leafAtHand_71, r_U_leafAtHand_75, r_U_leafAtHand_76, r_U_leafAtHand_77, r_U_leafAtHand_80, r_U_leafAtHand_82, r_U_leafAtHand_85, r_U_leafAtHand_88, r_U_leafAtHand_89, r_U_leafAtHand_90, c_U_leafAtHand_27 hR, Option.toList, List.singleton_append, List.cons_append, List.nil_append, List.append_nil, gq_279_0, gq_279_5, t3, t4, t5, c, w32_gb, w32i, tn_add, tn_mul, Int.toNat_natCast, Int.toNat_zero, Int.reduceLE, Int.reduceLT, Int.reduceEq, Int.reduceNe, gb_T, gb_F, Int.reduceToNat, eq_self, true_or, or_true, and_true, true_and, and_self, ↓ite_gb0, ↓ite_gbn, ↓if_pos, ↓if_neg, if_true, if_false, not_true_eq_false, not_false_eq_true, gb_ne0, gb_eq0]
set_option maxRecDepth 4000 in
theorem pv_leaf_name {b : Nat → Int} {n e N lv : Nat} {key w : Int} {pw pv : Nat → Int} (h96 : n ≤ 96) (hen : e ≤ n) (hb : ∀ i, i < n → 0 ≤ b i ∧ b i ≤ 255) (h : PVc b n key e w N lv pw pv σ) (hk : 0 ≤ key ∧ key ≤ 3) {i : Int} (c : gtq b n e w = 1) (c1 : gte b n e = gts b n e + 1) (hn : gnm key (b (gts b n e)) = some i) : Run L (d + 4) 166 [vR 279] σ (some (vI (10000 + i))) σ := by
  refine Run_of (C' := k_U_leafAtHand) rfl ?_
  show Wp L (d + 4) k_U_leafAtHand 0 [vR 279, vU] [] σ _
  obtain ⟨K280, N280, K281, N281⟩ := litC
  have K279 := gK_279
  obtain ⟨⟨t1, t2, t3, t4, t5⟩, h2, h3, h4, h5, h6⟩ := h
  have q := tq_1 c
  have rb := hb _ q.1
  have e1 := t2 _ q.1
  have e2 : gi2c (b (gts b n e)) = b (gts b n e) := by unfold gi2c; omega
  have hN := sp_names (L := L) (d := d + 3) (σ := σ) hk
  have hg := grecv_s (L := L) (σ := σ) (t := [vI (b (gts b n e))]) (show 4 + key.toNat < 13 by omega)
  have hR := sp_Str_indexOf_I (L := L) (d := d) (a1 := b (gts b n e)) (show 4 + key.toNat < 13 by omega) h6 rb
  rw [gfx_nm hk, hn] at hR
  have hR : Run L (d + 3) 5 [vR (4 + key.toNat), vI (b (gts b n e))] σ (some (vI i)) σ := hR
  have ib := gnm_bd3 hn
  have tb := gte_bd (b := b) hen
  simp (disch := first | assumption | exact gb_01 _ | omega) only [r_U_leafAtHand_0, r_U_leafAtHand_1, r_U_leafAtHand_4, r_U_leafAtHand_5, r_U_leafAtHand_8, r_U_leafAtHand_9, r_U_leafAtHand_12, r_U_leafAtHand_13, r_U_leafAtHand_16, r_U_leafAtHand_17, r_U_leafAtHand_18, r_U_leafAtHand_21, r_U_leafAtHand_23, r_U_leafAtHand_26, r_U_leafAtHand_30, r_U_leafAtHand_31, r_U_leafAtHand_32, r_U_leafAtHand_35, r_U_leafAtHand_36, r_U_leafAtHand_39, r_U_leafAtHand_40, r_U_leafAtHand_43, r_U_leafAtHand_44, r_U_leafAtHand_47, r_U_leafAtHand_48, r_U_leafAtHand_49, r_U_leafAtHand_52, r_U_leafAtHand_54, r_U_leafAtHand_55, r_U_leafAtHand_56, r_U_leafAtHand_62, r_U_leafAtHand_63, r_U_leafAtHand_66, r_U_leafAtHand_67, r_U_leafAtHand_70, r_U_leafAtHand_71, r_U_leafAtHand_75, r_U_leafAtHand_76, r_U_leafAtHand_77, r_U_leafAtHand_80, r_U_leafAtHand_82, r_U_leafAtHand_85, r_U_leafAtHand_88, r_U_leafAtHand_89, r_U_leafAtHand_90, c_U_leafAtHand_59 hN, c_U_leafAtHand_72 hR hg, Option.toList, List.singleton_append, List.cons_append, List.nil_append, List.append_nil, gq_279_0, gq_279_5, t3, t4, t5, c, h4, e1, e2, w32_gb, w32i, tn_add, tn_mul, Int.toNat_natCast, Int.toNat_zero, Int.reduceLE, Int.reduceLT, Int.reduceEq, Int.reduceNe, gb_T, gb_F, Int.reduceToNat, eq_self, true_or, or_true, and_true, true_and, and_self, ↓ite_gb0, ↓ite_gbn, ↓if_pos, ↓if_neg, if_true, if_false, not_true_eq_false, not_false_eq_true, gb_ne0, gb_eq0]
set_option maxRecDepth 4000 in
theorem pv_leaf_none {b : Nat → Int} {n e N lv : Nat} {key w : Int} {pw pv : Nat → Int} (h96 : n ≤ 96) (hen : e ≤ n) (hb : ∀ i, i < n → 0 ≤ b i ∧ b i ≤ 255) (h : PVc b n key e w N lv pw pv σ) (hk : 0 ≤ key ∧ key ≤ 3) (c2 : ¬(gtq b n e w = 2 ∧ ¬ gts b n e + 4 < gte b n e)) (c1 : ¬(gtq b n e w = 1 ∧ gte b n e = gts b n e + 1 ∧ (gnm key (b (gts b n e))).isSome = true)) : Run L (d + 4) 166 [vR 279] σ (some (vI (-1000000005))) σ := by
  refine Run_of (C' := k_U_leafAtHand) rfl ?_
  show Wp L (d + 4) k_U_leafAtHand 0 [vR 279, vU] [] σ _
  obtain ⟨K280, N280, K281, N281⟩ := litC
  have K279 := gK_279
  obtain ⟨⟨t1, t2, t3, t4, t5⟩, h2, h3, h4, h5, h6⟩ := h
  have tb := gte_bd (b := b) hen
  have sb := gts_bd (b := b) hen
  by_cases z2 : gtq b n e w = 2
  · have c4 : gts b n e + 4 < gte b n e := by
      by_cases z : gts b n e + 4 < gte b n e
      · exact z
      · exact absurd ⟨z2, z⟩ c2
    simp (disch := first | assumption | exact gb_01 _ | omega) only [r_U_leafAtHand_0, r_U_leafAtHand_1, r_U_leafAtHand_4, r_U_leafAtHand_5, r_U_leafAtHand_8, r_U_leafAtHand_9, r_U_leafAtHand_12, r_U_leafAtHand_13, r_U_leafAtHand_16, r_U_leafAtHand_17, r_U_leafAtHand_18, r_U_leafAtHand_21, r_U_leafAtHand_23, r_U_leafAtHand_26, r_U_leafAtHand_30, r_U_leafAtHand_31, r_U_leafAtHand_32, r_U_leafAtHand_35, r_U_leafAtHand_36, r_U_leafAtHand_39, r_U_leafAtHand_40, r_U_leafAtHand_43, r_U_leafAtHand_44, r_U_leafAtHand_47, r_U_leafAtHand_48, r_U_leafAtHand_49, r_U_leafAtHand_52, r_U_leafAtHand_54, r_U_leafAtHand_55, r_U_leafAtHand_56, r_U_leafAtHand_62, r_U_leafAtHand_63, r_U_leafAtHand_66, r_U_leafAtHand_67, r_U_leafAtHand_70, r_U_leafAtHand_71, r_U_leafAtHand_75, r_U_leafAtHand_76, r_U_leafAtHand_77, r_U_leafAtHand_80, r_U_leafAtHand_82, r_U_leafAtHand_85, r_U_leafAtHand_88, r_U_leafAtHand_89, r_U_leafAtHand_90, gq_279_0, gq_279_5, t3, t4, t5, w32_gb, w32i, tn_add, tn_mul, Int.toNat_natCast, Int.toNat_zero, Int.reduceLE, Int.reduceLT, Int.reduceEq, Int.reduceNe, gb_T, gb_F, Int.reduceToNat, eq_self, true_or, or_true, and_true, true_and, and_self, ↓ite_gb0, ↓ite_gbn, ↓if_pos, ↓if_neg, if_true, if_false, not_true_eq_false, not_false_eq_true, gb_ne0, gb_eq0]
  · by_cases z1 : gtq b n e w = 1
    · by_cases z3 : gte b n e = gts b n e + 1
      · have q := tq_1 z1
        have rb := hb _ q.1
        have e1 := t2 _ q.1
        have e2 : gi2c (b (gts b n e)) = b (gts b n e) := by unfold gi2c; omega
        have hN := sp_names (L := L) (d := d + 3) (σ := σ) hk
        have hg := grecv_s (L := L) (σ := σ) (t := [vI (b (gts b n e))]) (show 4 + key.toNat < 13 by omega)
        have hR := sp_Str_indexOf_I (L := L) (d := d) (a1 := b (gts b n e)) (show 4 + key.toNat < 13 by omega) h6 rb
        have hn : gnm key (b (gts b n e)) = none := by
          cases hx : gnm key (b (gts b n e)) with
          | none => rfl
          | some i => exact absurd ⟨z1, z3, by rw [hx]; rfl⟩ c1
        rw [gfx_nm hk, hn] at hR
        have hR : Run L (d + 3) 5 [vR (4 + key.toNat), vI (b (gts b n e))] σ (some (vI (-1))) σ := hR
        simp (disch := first | assumption | exact gb_01 _ | omega) only [r_U_leafAtHand_0, r_U_leafAtHand_1, r_U_leafAtHand_4, r_U_leafAtHand_5, r_U_leafAtHand_8, r_U_leafAtHand_9, r_U_leafAtHand_12, r_U_leafAtHand_13, r_U_leafAtHand_16, r_U_leafAtHand_17, r_U_leafAtHand_18, r_U_leafAtHand_21, r_U_leafAtHand_23, r_U_leafAtHand_26, r_U_leafAtHand_30, r_U_leafAtHand_31, r_U_leafAtHand_32, r_U_leafAtHand_35, r_U_leafAtHand_36, r_U_leafAtHand_39, r_U_leafAtHand_40, r_U_leafAtHand_43, r_U_leafAtHand_44, r_U_leafAtHand_47, r_U_leafAtHand_48, r_U_leafAtHand_49, r_U_leafAtHand_52, r_U_leafAtHand_54, r_U_leafAtHand_55, r_U_leafAtHand_56, r_U_leafAtHand_62, r_U_leafAtHand_63, r_U_leafAtHand_66, r_U_leafAtHand_67, r_U_leafAtHand_70, r_U_leafAtHand_71, r_U_leafAtHand_75, r_U_leafAtHand_76, r_U_leafAtHand_77, r_U_leafAtHand_80, r_U_leafAtHand_82, r_U_leafAtHand_85, r_U_leafAtHand_88, r_U_leafAtHand_89, r_U_leafAtHand_90, c_U_leafAtHand_59 hN, c_U_leafAtHand_72 hR hg, Option.toList, List.singleton_append, List.cons_append, List.nil_append, List.append_nil, gq_279_0, gq_279_5, t3, t4, t5, z1, h4, e1, e2, w32_gb, w32i, tn_add, tn_mul, Int.toNat_natCast, Int.toNat_zero, Int.reduceLE, Int.reduceLT, Int.reduceEq, Int.reduceNe, gb_T, gb_F, Int.reduceToNat, eq_self, true_or, or_true, and_true, true_and, and_self, ↓ite_gb0, ↓ite_gbn, ↓if_pos, ↓if_neg, if_true, if_false, not_true_eq_false, not_false_eq_true, gb_ne0, gb_eq0]
      · simp (disch := first | assumption | exact gb_01 _ | omega) only [r_U_leafAtHand_0, r_U_leafAtHand_1, r_U_leafAtHand_4, r_U_leafAtHand_5, r_U_leafAtHand_8, r_U_leafAtHand_9, r_U_leafAtHand_12, r_U_leafAtHand_13, r_U_leafAtHand_16, r_U_leafAtHand_17, r_U_leafAtHand_18, r_U_leafAtHand_21, r_U_leafAtHand_23, r_U_leafAtHand_26, r_U_leafAtHand_30, r_U_leafAtHand_31, r_U_leafAtHand_32, r_U_leafAtHand_35, r_U_leafAtHand_36, r_U_leafAtHand_39, r_U_leafAtHand_40, r_U_leafAtHand_43, r_U_leafAtHand_44, r_U_leafAtHand_47, r_U_leafAtHand_48, r_U_leafAtHand_49, r_U_leafAtHand_52, r_U_leafAtHand_54, r_U_leafAtHand_55, r_U_leafAtHand_56, r_U_leafAtHand_62, r_U_leafAtHand_63, r_U_leafAtHand_66, r_U_leafAtHand_67, r_U_leafAtHand_70, r_U_leafAtHand_71, r_U_leafAtHand_75, r_U_leafAtHand_76, r_U_leafAtHand_77, r_U_leafAtHand_80, r_U_leafAtHand_82, r_U_leafAtHand_85, r_U_leafAtHand_88, r_U_leafAtHand_89, r_U_leafAtHand_90, gq_279_0, gq_279_5, t3, t4, t5, w32_gb, w32i, tn_add, tn_mul, Int.toNat_natCast, Int.toNat_zero, Int.reduceLE, Int.reduceLT, Int.reduceEq, Int.reduceNe, gb_T, gb_F, Int.reduceToNat, eq_self, true_or, or_true, and_true, true_and, and_self, ↓ite_gb0, ↓ite_gbn, ↓if_pos, ↓if_neg, if_true, if_false, not_true_eq_false, not_false_eq_true, gb_ne0, gb_eq0]
    · simp (disch := first | assumption | exact gb_01 _ | omega) only [r_U_leafAtHand_0, r_U_leafAtHand_1, r_U_leafAtHand_4, r_U_leafAtHand_5, r_U_leafAtHand_8, r_U_leafAtHand_9, r_U_leafAtHand_12, r_U_leafAtHand_13, r_U_leafAtHand_16, r_U_leafAtHand_17, r_U_leafAtHand_18, r_U_leafAtHand_21, r_U_leafAtHand_23, r_U_leafAtHand_26, r_U_leafAtHand_30, r_U_leafAtHand_31, r_U_leafAtHand_32, r_U_leafAtHand_35, r_U_leafAtHand_36, r_U_leafAtHand_39, r_U_leafAtHand_40, r_U_leafAtHand_43, r_U_leafAtHand_44, r_U_leafAtHand_47, r_U_leafAtHand_48, r_U_leafAtHand_49, r_U_leafAtHand_52, r_U_leafAtHand_54, r_U_leafAtHand_55, r_U_leafAtHand_56, r_U_leafAtHand_62, r_U_leafAtHand_63, r_U_leafAtHand_66, r_U_leafAtHand_67, r_U_leafAtHand_70, r_U_leafAtHand_71, r_U_leafAtHand_75, r_U_leafAtHand_76, r_U_leafAtHand_77, r_U_leafAtHand_80, r_U_leafAtHand_82, r_U_leafAtHand_85, r_U_leafAtHand_88, r_U_leafAtHand_89, r_U_leafAtHand_90, gq_279_0, gq_279_5, t3, t4, t5, w32_gb, w32i, tn_add, tn_mul, Int.toNat_natCast, Int.toNat_zero, Int.reduceLE, Int.reduceLT, Int.reduceEq, Int.reduceNe, gb_T, gb_F, Int.reduceToNat, eq_self, true_or, or_true, and_true, true_and, and_self, ↓ite_gb0, ↓ite_gbn, ↓if_pos, ↓if_neg, if_true, if_false, not_true_eq_false, not_false_eq_true, gb_ne0, gb_eq0]
