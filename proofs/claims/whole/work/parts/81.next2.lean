/-! text: the token step of the reference, from the token on. -/
variable {L d : Nat} {σ σ1 : Nat → Nat → Int} {Q : Option gV → (Nat → Nat → Int) → Prop} {a0 a1 a2 a3 a4 a5 a6 a7 a8 a9 a10 a11 s0 s1 s2 s3 s4 s5 s6 s7 s8 s9 : Int} {l0 l1 l2 l3 l4 l5 l6 l7 l8 l9 l10 l11 t0 t1 t2 t3 t4 t5 t6 t7 t8 t9 : gV} {b0 b1 b2 b3 b4 b5 b6 b7 b8 b9 b10 b11 c0 c1 c2 c3 c4 c5 c6 c7 c8 c9 : Nat} {r : Option gV}
/-- the reference's sort: a number of more than four digits is glued too -/
def gtm (b : Nat → Int) (n e : Nat) (w : Int) : Int := if gts b n e < n ∧ gso (b (gts b n e)) = 2 ∧ gts b n e + 4 < gte b n e then 4 else gtq b n e w
set_option maxRecDepth 4000 in
theorem r_M_next__0 : Wp L d k_M_next_ 0 [vR b0, l1, l2] [] σ Q ↔ Wp L d k_M_next_ 1 [vR b0, l1, l2] [vR b0] σ Q := wp_aload rfl rfl
set_option maxRecDepth 4000 in
theorem r_M_next__1 (h : gK c0 = 12) : Wp L d k_M_next_ 1 [l0, l1, l2] [vR c0] σ Q ↔ Wp L d k_M_next_ 4 [l0, l1, l2] [vI (σ c0 11)] σ Q := wp_getI (c := 3083) rfl rfl rfl rfl h
set_option maxRecDepth 4000 in
theorem r_M_next__4 : Wp L d k_M_next_ 4 [l0, l1, l2] [vI s0] σ Q ↔ (if s0 ≤ 0 then Wp L d k_M_next_ 27 [l0, l1, l2] [] σ Q else Wp L d k_M_next_ 7 [l0, l1, l2] [] σ Q) := wp_if_le rfl
set_option maxRecDepth 4000 in
theorem r_M_next__7 : Wp L d k_M_next_ 7 [vR b0, l1, l2] [] σ Q ↔ Wp L d k_M_next_ 8 [vR b0, l1, l2] [vR b0] σ Q := wp_aload rfl rfl
set_option maxRecDepth 4000 in
theorem r_M_next__8 (h : gK c0 = 12) : Wp L d k_M_next_ 8 [l0, l1, l2] [vR c0] σ Q ↔ Wp L d k_M_next_ 11 [l0, l1, l2] [vI (σ c0 12)] σ Q := wp_getI (c := 3084) rfl rfl rfl rfl h
set_option maxRecDepth 4000 in
theorem r_M_next__11 : Wp L d k_M_next_ 11 [l0, l1, l2] [vI s0] σ Q ↔ Wp L d k_M_next_ 12 [l0, l1, l2] [vI 1, vI s0] σ Q := wp_push rfl
set_option maxRecDepth 4000 in
theorem r_M_next__12 : Wp L d k_M_next_ 12 [l0, l1, l2] [vI s1, vI s0] σ Q ↔ (if s0 = s1 then Wp L d k_M_next_ 23 [l0, l1, l2] [] σ Q else Wp L d k_M_next_ 15 [l0, l1, l2] [] σ Q) := wp_cmp_eq rfl
set_option maxRecDepth 4000 in
theorem r_M_next__15 : Wp L d k_M_next_ 15 [vR b0, l1, l2] [] σ Q ↔ Wp L d k_M_next_ 16 [vR b0, l1, l2] [vR b0] σ Q := wp_aload rfl rfl
set_option maxRecDepth 4000 in
theorem r_M_next__16 (h : gK c0 = 12) : Wp L d k_M_next_ 16 [l0, l1, l2] [vR c0] σ Q ↔ Wp L d k_M_next_ 19 [l0, l1, l2] [vI (σ c0 12)] σ Q := wp_getI (c := 3084) rfl rfl rfl rfl h
set_option maxRecDepth 4000 in
theorem r_M_next__19 : Wp L d k_M_next_ 19 [l0, l1, l2] [vI s0] σ Q ↔ Wp L d k_M_next_ 20 [l0, l1, l2] [vI 2, vI s0] σ Q := wp_push rfl
set_option maxRecDepth 4000 in
theorem r_M_next__20 : Wp L d k_M_next_ 20 [l0, l1, l2] [vI s1, vI s0] σ Q ↔ (if s0 ≠ s1 then Wp L d k_M_next_ 27 [l0, l1, l2] [] σ Q else Wp L d k_M_next_ 23 [l0, l1, l2] [] σ Q) := wp_cmp_ne rfl
set_option maxRecDepth 4000 in
theorem r_M_next__23 : Wp L d k_M_next_ 23 [l0, l1, l2] [] σ Q ↔ Wp L d k_M_next_ 24 [l0, l1, l2] [vI 1] σ Q := wp_push rfl
set_option maxRecDepth 4000 in
theorem r_M_next__24 : Wp L d k_M_next_ 24 [l0, l1, l2] [vI s0] σ Q ↔ Wp L d k_M_next_ 28 [l0, l1, l2] [vI s0] σ Q := wp_goto rfl
set_option maxRecDepth 4000 in
theorem r_M_next__27 : Wp L d k_M_next_ 27 [l0, l1, l2] [] σ Q ↔ Wp L d k_M_next_ 28 [l0, l1, l2] [vI 0] σ Q := wp_push rfl
set_option maxRecDepth 4000 in
theorem r_M_next__28 : Wp L d k_M_next_ 28 [vR b0, l1, l2] [vI s0] σ Q ↔ Wp L d k_M_next_ 29 [vR b0, vI s0, l2] [] σ Q := wp_istore (i := 1) (ls := [vR b0, l1, l2]) rfl rfl
set_option maxRecDepth 4000 in
theorem r_M_next__29 : Wp L d k_M_next_ 29 [vR b0, l1, l2] [] σ Q ↔ Wp L d k_M_next_ 30 [vR b0, l1, l2] [vR b0] σ Q := wp_aload rfl rfl
set_option maxRecDepth 4000 in
theorem r_M_next__30 (h : gK c0 = 12) : Wp L d k_M_next_ 30 [l0, l1, l2] [vR c0] σ Q ↔ Wp L d k_M_next_ 33 [l0, l1, l2] [vI (σ c0 11)] σ Q := wp_getI (c := 3083) rfl rfl rfl rfl h
set_option maxRecDepth 4000 in
theorem r_M_next__33 : Wp L d k_M_next_ 33 [l0, vI a1, l2] [vI s0] σ Q ↔ Wp L d k_M_next_ 34 [l0, vI a1, vI s0] [] σ Q := wp_istore (i := 2) (ls := [l0, vI a1, l2]) rfl rfl
set_option maxRecDepth 4000 in
theorem r_M_next__34 : Wp L d k_M_next_ 34 [vR b0, l1, l2] [] σ Q ↔ Wp L d k_M_next_ 35 [vR b0, l1, l2] [vR b0] σ Q := wp_aload rfl rfl
set_option maxRecDepth 4000 in
theorem r_M_next__35 (h : gK c0 = 12) : Wp L d k_M_next_ 35 [l0, l1, l2] [vR c0] σ Q ↔ Wp L d k_M_next_ 38 [l0, l1, l2] [vI (σ c0 11)] σ Q := wp_getI (c := 3083) rfl rfl rfl rfl h
set_option maxRecDepth 4000 in
theorem r_M_next__38 : Wp L d k_M_next_ 38 [vR b0, l1, l2] [vI s0] σ Q ↔ Wp L d k_M_next_ 39 [vR b0, l1, l2] [vR b0, vI s0] σ Q := wp_aload rfl rfl
set_option maxRecDepth 4000 in
theorem r_M_next__39 (h : gK c1 = 12) : Wp L d k_M_next_ 39 [l0, l1, l2] [vR c1, vI s0] σ Q ↔ Wp L d k_M_next_ 42 [l0, l1, l2] [vI (σ c1 9), vI s0] σ Q := wp_getI (c := 3081) rfl rfl rfl rfl h
set_option maxRecDepth 4000 in
theorem r_M_next__42 : Wp L d k_M_next_ 42 [l0, l1, l2] [vI s1, vI s0] σ Q ↔ (if s1 ≤ s0 then Wp L d k_M_next_ 72 [l0, l1, l2] [] σ Q else Wp L d k_M_next_ 45 [l0, l1, l2] [] σ Q) := wp_cmp_ge rfl
set_option maxRecDepth 4000 in
theorem r_M_next__45 : Wp L d k_M_next_ 45 [vR b0, l1, l2] [] σ Q ↔ Wp L d k_M_next_ 46 [vR b0, l1, l2] [vR b0] σ Q := wp_aload rfl rfl
set_option maxRecDepth 4000 in
theorem r_M_next__46 (h : gK c0 = 12) : Wp L d k_M_next_ 46 [l0, l1, l2] [vR c0] σ Q ↔ Wp L d k_M_next_ 49 [l0, l1, l2] [vR (gq c0 8)] σ Q := wp_getR (c := 3208) rfl rfl rfl rfl rfl h
set_option maxRecDepth 4000 in
theorem r_M_next__49 : Wp L d k_M_next_ 49 [vR b0, l1, l2] [vR c0] σ Q ↔ Wp L d k_M_next_ 50 [vR b0, l1, l2] [vR b0, vR c0] σ Q := wp_aload rfl rfl
set_option maxRecDepth 4000 in
theorem r_M_next__50 (h : gK c1 = 12) : Wp L d k_M_next_ 50 [l0, l1, l2] [vR c1, vR c0] σ Q ↔ Wp L d k_M_next_ 53 [l0, l1, l2] [vI (σ c1 11), vR c0] σ Q := wp_getI (c := 3083) rfl rfl rfl rfl h
set_option maxRecDepth 4000 in
theorem r_M_next__53 (h : gK c0 = 100) (hx : 0 ≤ s1 ∧ s1 < gN c0) : Wp L d k_M_next_ 53 [l0, l1, l2] [vI s1, vR c0] σ Q ↔ Wp L d k_M_next_ 54 [l0, l1, l2] [vI (σ c0 s1.toNat)] σ Q := wp_iald rfl h hx
set_option maxRecDepth 4000 in
theorem r_M_next__54 : Wp L d k_M_next_ 54 [l0, l1, l2] [vI s0] σ Q ↔ Wp L d k_M_next_ 56 [l0, l1, l2] [vI 32, vI s0] σ Q := wp_push rfl
set_option maxRecDepth 4000 in
theorem r_M_next__56 : Wp L d k_M_next_ 56 [l0, l1, l2] [vI s1, vI s0] σ Q ↔ (if s0 ≠ s1 then Wp L d k_M_next_ 72 [l0, l1, l2] [] σ Q else Wp L d k_M_next_ 59 [l0, l1, l2] [] σ Q) := wp_cmp_ne rfl
set_option maxRecDepth 4000 in
theorem r_M_next__59 : Wp L d k_M_next_ 59 [vR b0, l1, l2] [] σ Q ↔ Wp L d k_M_next_ 60 [vR b0, l1, l2] [vR b0] σ Q := wp_aload rfl rfl
set_option maxRecDepth 4000 in
theorem r_M_next__60 : Wp L d k_M_next_ 60 [l0, l1, l2] [vR c0] σ Q ↔ Wp L d k_M_next_ 61 [l0, l1, l2] [vR c0, vR c0] σ Q := wp_dupR rfl
set_option maxRecDepth 4000 in
theorem r_M_next__61 (h : gK c1 = 12) : Wp L d k_M_next_ 61 [l0, l1, l2] [vR c1, vR c0] σ Q ↔ Wp L d k_M_next_ 64 [l0, l1, l2] [vI (σ c1 11), vR c0] σ Q := wp_getI (c := 3083) rfl rfl rfl rfl h
set_option maxRecDepth 4000 in
theorem r_M_next__64 : Wp L d k_M_next_ 64 [l0, l1, l2] [vI s1, vR c0] σ Q ↔ Wp L d k_M_next_ 65 [l0, l1, l2] [vI 1, vI s1, vR c0] σ Q := wp_push rfl
set_option maxRecDepth 4000 in
theorem r_M_next__65 : Wp L d k_M_next_ 65 [l0, l1, l2] [vI s2, vI s1, vR c0] σ Q ↔ Wp L d k_M_next_ 66 [l0, l1, l2] [vI (w32 (s1 + s2)), vR c0] σ Q := wp_iadd rfl
set_option maxRecDepth 4000 in
theorem r_M_next__66 (h : gK c0 = 12) : Wp L d k_M_next_ 66 [l0, l1, l2] [vI s1, vR c0] σ Q ↔ Wp L d k_M_next_ 69 [l0, l1, l2] [] (gupd σ c0 11 s1) Q := wp_putI (c := 3083) rfl rfl rfl rfl h
set_option maxRecDepth 4000 in
theorem r_M_next__69 : Wp L d k_M_next_ 69 [l0, l1, l2] [] σ Q ↔ Wp L d k_M_next_ 34 [l0, l1, l2] [] σ Q := wp_goto rfl
set_option maxRecDepth 4000 in
theorem r_M_next__72 : Wp L d k_M_next_ 72 [l0, vI a1, l2] [] σ Q ↔ Wp L d k_M_next_ 73 [l0, vI a1, l2] [vI a1] σ Q := wp_iload rfl rfl
set_option maxRecDepth 4000 in
theorem r_M_next__73 : Wp L d k_M_next_ 73 [l0, l1, l2] [vI s0] σ Q ↔ (if s0 = 0 then Wp L d k_M_next_ 88 [l0, l1, l2] [] σ Q else Wp L d k_M_next_ 76 [l0, l1, l2] [] σ Q) := wp_if_eq rfl
set_option maxRecDepth 4000 in
theorem r_M_next__76 : Wp L d k_M_next_ 76 [l0, l1, vI a2] [] σ Q ↔ Wp L d k_M_next_ 77 [l0, l1, vI a2] [vI a2] σ Q := wp_iload rfl rfl
set_option maxRecDepth 4000 in
theorem r_M_next__77 : Wp L d k_M_next_ 77 [vR b0, l1, l2] [vI s0] σ Q ↔ Wp L d k_M_next_ 78 [vR b0, l1, l2] [vR b0, vI s0] σ Q := wp_aload rfl rfl
set_option maxRecDepth 4000 in
theorem r_M_next__78 (h : gK c1 = 12) : Wp L d k_M_next_ 78 [l0, l1, l2] [vR c1, vI s0] σ Q ↔ Wp L d k_M_next_ 81 [l0, l1, l2] [vI (σ c1 11), vI s0] σ Q := wp_getI (c := 3083) rfl rfl rfl rfl h
set_option maxRecDepth 4000 in
theorem r_M_next__81 : Wp L d k_M_next_ 81 [l0, l1, l2] [vI s1, vI s0] σ Q ↔ (if s0 ≠ s1 then Wp L d k_M_next_ 88 [l0, l1, l2] [] σ Q else Wp L d k_M_next_ 84 [l0, l1, l2] [] σ Q) := wp_cmp_ne rfl
set_option maxRecDepth 4000 in
theorem r_M_next__84 : Wp L d k_M_next_ 84 [l0, l1, l2] [] σ Q ↔ Wp L d k_M_next_ 85 [l0, l1, l2] [vI 1] σ Q := wp_push rfl
set_option maxRecDepth 4000 in
theorem r_M_next__85 : Wp L d k_M_next_ 85 [l0, l1, l2] [vI s0] σ Q ↔ Wp L d k_M_next_ 89 [l0, l1, l2] [vI s0] σ Q := wp_goto rfl
set_option maxRecDepth 4000 in
theorem r_M_next__88 : Wp L d k_M_next_ 88 [l0, l1, l2] [] σ Q ↔ Wp L d k_M_next_ 89 [l0, l1, l2] [vI 0] σ Q := wp_push rfl
set_option maxRecDepth 4000 in
theorem r_M_next__89 : Wp L d k_M_next_ 89 [vR b0, l1, l2] [vI s0] σ Q ↔ Wp L d k_M_next_ 90 [vR b0, vI s0, l2] [] σ Q := wp_istore (i := 1) (ls := [vR b0, l1, l2]) rfl rfl
set_option maxRecDepth 4000 in
theorem r_M_next__90 : Wp L d k_M_next_ 90 [vR b0, l1, l2] [] σ Q ↔ Wp L d k_M_next_ 91 [vR b0, l1, l2] [vR b0] σ Q := wp_aload rfl rfl
set_option maxRecDepth 4000 in
theorem r_M_next__91 : Wp L d k_M_next_ 91 [vR b0, l1, l2] [vR c0] σ Q ↔ Wp L d k_M_next_ 92 [vR b0, l1, l2] [vR b0, vR c0] σ Q := wp_aload rfl rfl
set_option maxRecDepth 4000 in
theorem r_M_next__92 (h : gK c1 = 12) : Wp L d k_M_next_ 92 [l0, l1, l2] [vR c1, vR c0] σ Q ↔ Wp L d k_M_next_ 95 [l0, l1, l2] [vI (σ c1 11), vR c0] σ Q := wp_getI (c := 3083) rfl rfl rfl rfl h
set_option maxRecDepth 4000 in
theorem r_M_next__95 (h : gK c0 = 12) : Wp L d k_M_next_ 95 [l0, l1, l2] [vI s1, vR c0] σ Q ↔ Wp L d k_M_next_ 98 [l0, l1, l2] [] (gupd σ c0 10 s1) Q := wp_putI (c := 3082) rfl rfl rfl rfl h
set_option maxRecDepth 4000 in
theorem r_M_next__98 : Wp L d k_M_next_ 98 [vR b0, l1, l2] [] σ Q ↔ Wp L d k_M_next_ 99 [vR b0, l1, l2] [vR b0] σ Q := wp_aload rfl rfl
set_option maxRecDepth 4000 in
theorem r_M_next__99 (h : gK c0 = 12) : Wp L d k_M_next_ 99 [l0, l1, l2] [vR c0] σ Q ↔ Wp L d k_M_next_ 102 [l0, l1, l2] [vI (σ c0 10)] σ Q := wp_getI (c := 3082) rfl rfl rfl rfl h
set_option maxRecDepth 4000 in
theorem r_M_next__102 : Wp L d k_M_next_ 102 [vR b0, l1, l2] [vI s0] σ Q ↔ Wp L d k_M_next_ 103 [vR b0, l1, l2] [vR b0, vI s0] σ Q := wp_aload rfl rfl
set_option maxRecDepth 4000 in
theorem r_M_next__103 (h : gK c1 = 12) : Wp L d k_M_next_ 103 [l0, l1, l2] [vR c1, vI s0] σ Q ↔ Wp L d k_M_next_ 106 [l0, l1, l2] [vI (σ c1 9), vI s0] σ Q := wp_getI (c := 3081) rfl rfl rfl rfl h
set_option maxRecDepth 4000 in
theorem r_M_next__106 : Wp L d k_M_next_ 106 [l0, l1, l2] [vI s1, vI s0] σ Q ↔ (if s0 ≠ s1 then Wp L d k_M_next_ 117 [l0, l1, l2] [] σ Q else Wp L d k_M_next_ 109 [l0, l1, l2] [] σ Q) := wp_cmp_ne rfl
set_option maxRecDepth 4000 in
theorem r_M_next__109 : Wp L d k_M_next_ 109 [vR b0, l1, l2] [] σ Q ↔ Wp L d k_M_next_ 110 [vR b0, l1, l2] [vR b0] σ Q := wp_aload rfl rfl
set_option maxRecDepth 4000 in
theorem r_M_next__110 : Wp L d k_M_next_ 110 [l0, l1, l2] [vR c0] σ Q ↔ Wp L d k_M_next_ 111 [l0, l1, l2] [vI 0, vR c0] σ Q := wp_push rfl
set_option maxRecDepth 4000 in
theorem r_M_next__111 (h : gK c0 = 12) : Wp L d k_M_next_ 111 [l0, l1, l2] [vI s1, vR c0] σ Q ↔ Wp L d k_M_next_ 114 [l0, l1, l2] [] (gupd σ c0 12 s1) Q := wp_putI (c := 3084) rfl rfl rfl rfl h
set_option maxRecDepth 4000 in
theorem r_M_next__114 : Wp L d k_M_next_ 114 [l0, l1, l2] [] σ Q ↔ Wp L d k_M_next_ 339 [l0, l1, l2] [] σ Q := wp_goto rfl
set_option maxRecDepth 4000 in
theorem r_M_next__117 : Wp L d k_M_next_ 117 [vR b0, l1, l2] [] σ Q ↔ Wp L d k_M_next_ 118 [vR b0, l1, l2] [vR b0] σ Q := wp_aload rfl rfl
set_option maxRecDepth 4000 in
theorem r_M_next__118 : Wp L d k_M_next_ 118 [vR b0, l1, l2] [vR c0] σ Q ↔ Wp L d k_M_next_ 119 [vR b0, l1, l2] [vR b0, vR c0] σ Q := wp_aload rfl rfl
set_option maxRecDepth 4000 in
theorem r_M_next__119 (h : gK c1 = 12) : Wp L d k_M_next_ 119 [l0, l1, l2] [vR c1, vR c0] σ Q ↔ Wp L d k_M_next_ 122 [l0, l1, l2] [vI (σ c1 10), vR c0] σ Q := wp_getI (c := 3082) rfl rfl rfl rfl h
set_option maxRecDepth 4000 in
theorem r_M_next__125 : Wp L d k_M_next_ 125 [l0, l1, l2] [vI s0] σ Q ↔ (if s0 = 0 then Wp L d k_M_next_ 198 [l0, l1, l2] [] σ Q else Wp L d k_M_next_ 128 [l0, l1, l2] [] σ Q) := wp_if_eq rfl
set_option maxRecDepth 4000 in
theorem r_M_next__128 : Wp L d k_M_next_ 128 [vR b0, l1, l2] [] σ Q ↔ Wp L d k_M_next_ 129 [vR b0, l1, l2] [vR b0] σ Q := wp_aload rfl rfl
set_option maxRecDepth 4000 in
theorem r_M_next__129 : Wp L d k_M_next_ 129 [vR b0, l1, l2] [vR c0] σ Q ↔ Wp L d k_M_next_ 130 [vR b0, l1, l2] [vR b0, vR c0] σ Q := wp_aload rfl rfl
set_option maxRecDepth 4000 in
theorem r_M_next__130 (h : gK c1 = 12) : Wp L d k_M_next_ 130 [l0, l1, l2] [vR c1, vR c0] σ Q ↔ Wp L d k_M_next_ 133 [l0, l1, l2] [vI (σ c1 11), vR c0] σ Q := wp_getI (c := 3083) rfl rfl rfl rfl h
set_option maxRecDepth 4000 in
theorem r_M_next__136 : Wp L d k_M_next_ 136 [l0, l1, l2] [vI s0] σ Q ↔ (if s0 = 0 then Wp L d k_M_next_ 152 [l0, l1, l2] [] σ Q else Wp L d k_M_next_ 139 [l0, l1, l2] [] σ Q) := wp_if_eq rfl
set_option maxRecDepth 4000 in
theorem r_M_next__139 : Wp L d k_M_next_ 139 [vR b0, l1, l2] [] σ Q ↔ Wp L d k_M_next_ 140 [vR b0, l1, l2] [vR b0] σ Q := wp_aload rfl rfl
set_option maxRecDepth 4000 in
theorem r_M_next__140 : Wp L d k_M_next_ 140 [l0, l1, l2] [vR c0] σ Q ↔ Wp L d k_M_next_ 141 [l0, l1, l2] [vR c0, vR c0] σ Q := wp_dupR rfl
set_option maxRecDepth 4000 in
theorem r_M_next__141 (h : gK c1 = 12) : Wp L d k_M_next_ 141 [l0, l1, l2] [vR c1, vR c0] σ Q ↔ Wp L d k_M_next_ 144 [l0, l1, l2] [vI (σ c1 11), vR c0] σ Q := wp_getI (c := 3083) rfl rfl rfl rfl h
set_option maxRecDepth 4000 in
theorem r_M_next__144 : Wp L d k_M_next_ 144 [l0, l1, l2] [vI s1, vR c0] σ Q ↔ Wp L d k_M_next_ 145 [l0, l1, l2] [vI 1, vI s1, vR c0] σ Q := wp_push rfl
set_option maxRecDepth 4000 in
theorem r_M_next__145 : Wp L d k_M_next_ 145 [l0, l1, l2] [vI s2, vI s1, vR c0] σ Q ↔ Wp L d k_M_next_ 146 [l0, l1, l2] [vI (w32 (s1 + s2)), vR c0] σ Q := wp_iadd rfl
set_option maxRecDepth 4000 in
theorem r_M_next__146 (h : gK c0 = 12) : Wp L d k_M_next_ 146 [l0, l1, l2] [vI s1, vR c0] σ Q ↔ Wp L d k_M_next_ 149 [l0, l1, l2] [] (gupd σ c0 11 s1) Q := wp_putI (c := 3083) rfl rfl rfl rfl h
set_option maxRecDepth 4000 in
theorem r_M_next__149 : Wp L d k_M_next_ 149 [l0, l1, l2] [] σ Q ↔ Wp L d k_M_next_ 128 [l0, l1, l2] [] σ Q := wp_goto rfl
set_option maxRecDepth 4000 in
theorem r_M_next__152 : Wp L d k_M_next_ 152 [vR b0, l1, l2] [] σ Q ↔ Wp L d k_M_next_ 153 [vR b0, l1, l2] [vR b0] σ Q := wp_aload rfl rfl
set_option maxRecDepth 4000 in
theorem r_M_next__153 : Wp L d k_M_next_ 153 [l0, vI a1, l2] [vR c0] σ Q ↔ Wp L d k_M_next_ 154 [l0, vI a1, l2] [vI a1, vR c0] σ Q := wp_iload rfl rfl
set_option maxRecDepth 4000 in
theorem r_M_next__154 : Wp L d k_M_next_ 154 [l0, l1, l2] [vI s1, vR c0] σ Q ↔ (if s1 = 0 then Wp L d k_M_next_ 161 [l0, l1, l2] [vR c0] σ Q else Wp L d k_M_next_ 157 [l0, l1, l2] [vR c0] σ Q) := wp_if_eq rfl
set_option maxRecDepth 4000 in
theorem r_M_next__157 : Wp L d k_M_next_ 157 [l0, l1, l2] [vR c0] σ Q ↔ Wp L d k_M_next_ 158 [l0, l1, l2] [vI 4, vR c0] σ Q := wp_push rfl
set_option maxRecDepth 4000 in
theorem r_M_next__158 : Wp L d k_M_next_ 158 [l0, l1, l2] [vI s1, vR c0] σ Q ↔ Wp L d k_M_next_ 162 [l0, l1, l2] [vI s1, vR c0] σ Q := wp_goto rfl
set_option maxRecDepth 4000 in
theorem r_M_next__161 : Wp L d k_M_next_ 161 [l0, l1, l2] [vR c0] σ Q ↔ Wp L d k_M_next_ 162 [l0, l1, l2] [vI 1, vR c0] σ Q := wp_push rfl
set_option maxRecDepth 4000 in
theorem r_M_next__162 (h : gK c0 = 12) : Wp L d k_M_next_ 162 [l0, l1, l2] [vI s1, vR c0] σ Q ↔ Wp L d k_M_next_ 165 [l0, l1, l2] [] (gupd σ c0 12 s1) Q := wp_putI (c := 3084) rfl rfl rfl rfl h
set_option maxRecDepth 4000 in
theorem r_M_next__165 : Wp L d k_M_next_ 165 [vR b0, l1, l2] [] σ Q ↔ Wp L d k_M_next_ 166 [vR b0, l1, l2] [vR b0] σ Q := wp_aload rfl rfl
set_option maxRecDepth 4000 in
theorem r_M_next__166 : Wp L d k_M_next_ 166 [vR b0, l1, l2] [vR c0] σ Q ↔ Wp L d k_M_next_ 167 [vR b0, l1, l2] [vR b0, vR c0] σ Q := wp_aload rfl rfl
set_option maxRecDepth 4000 in
theorem r_M_next__167 (h : gK c1 = 12) : Wp L d k_M_next_ 167 [l0, l1, l2] [vR c1, vR c0] σ Q ↔ Wp L d k_M_next_ 170 [l0, l1, l2] [vI (σ c1 11), vR c0] σ Q := wp_getI (c := 3083) rfl rfl rfl rfl h
set_option maxRecDepth 4000 in
theorem r_M_next__170 : Wp L d k_M_next_ 170 [vR b0, l1, l2] [vI s1, vR c0] σ Q ↔ Wp L d k_M_next_ 171 [vR b0, l1, l2] [vR b0, vI s1, vR c0] σ Q := wp_aload rfl rfl
set_option maxRecDepth 4000 in
theorem r_M_next__171 (h : gK c2 = 12) : Wp L d k_M_next_ 171 [l0, l1, l2] [vR c2, vI s1, vR c0] σ Q ↔ Wp L d k_M_next_ 174 [l0, l1, l2] [vI (σ c2 10), vI s1, vR c0] σ Q := wp_getI (c := 3082) rfl rfl rfl rfl h
set_option maxRecDepth 4000 in
theorem r_M_next__174 : Wp L d k_M_next_ 174 [l0, l1, l2] [vI s2, vI s1, vR c0] σ Q ↔ Wp L d k_M_next_ 175 [l0, l1, l2] [vI (w32 (s1 - s2)), vR c0] σ Q := wp_isub rfl
set_option maxRecDepth 4000 in
theorem r_M_next__175 : Wp L d k_M_next_ 175 [l0, l1, l2] [vI s1, vR c0] σ Q ↔ Wp L d k_M_next_ 176 [l0, l1, l2] [vI 1, vI s1, vR c0] σ Q := wp_push rfl
set_option maxRecDepth 4000 in
theorem r_M_next__176 : Wp L d k_M_next_ 176 [l0, l1, l2] [vI s2, vI s1, vR c0] σ Q ↔ (if s1 ≠ s2 then Wp L d k_M_next_ 191 [l0, l1, l2] [vR c0] σ Q else Wp L d k_M_next_ 179 [l0, l1, l2] [vR c0] σ Q) := wp_cmp_ne rfl
set_option maxRecDepth 4000 in
theorem r_M_next__179 : Wp L d k_M_next_ 179 [vR b0, l1, l2] [vR c0] σ Q ↔ Wp L d k_M_next_ 180 [vR b0, l1, l2] [vR b0, vR c0] σ Q := wp_aload rfl rfl
set_option maxRecDepth 4000 in
theorem r_M_next__180 (h : gK c1 = 12) : Wp L d k_M_next_ 180 [l0, l1, l2] [vR c1, vR c0] σ Q ↔ Wp L d k_M_next_ 183 [l0, l1, l2] [vR (gq c1 8), vR c0] σ Q := wp_getR (c := 3208) rfl rfl rfl rfl rfl h
set_option maxRecDepth 4000 in
theorem r_M_next__183 : Wp L d k_M_next_ 183 [vR b0, l1, l2] [vR c1, vR c0] σ Q ↔ Wp L d k_M_next_ 184 [vR b0, l1, l2] [vR b0, vR c1, vR c0] σ Q := wp_aload rfl rfl
set_option maxRecDepth 4000 in
theorem r_M_next__184 (h : gK c2 = 12) : Wp L d k_M_next_ 184 [l0, l1, l2] [vR c2, vR c1, vR c0] σ Q ↔ Wp L d k_M_next_ 187 [l0, l1, l2] [vI (σ c2 10), vR c1, vR c0] σ Q := wp_getI (c := 3082) rfl rfl rfl rfl h
set_option maxRecDepth 4000 in
theorem r_M_next__187 (h : gK c1 = 100) (hx : 0 ≤ s2 ∧ s2 < gN c1) : Wp L d k_M_next_ 187 [l0, l1, l2] [vI s2, vR c1, vR c0] σ Q ↔ Wp L d k_M_next_ 188 [l0, l1, l2] [vI (σ c1 s2.toNat), vR c0] σ Q := wp_iald rfl h hx
set_option maxRecDepth 4000 in
theorem r_M_next__188 : Wp L d k_M_next_ 188 [l0, l1, l2] [vI s1, vR c0] σ Q ↔ Wp L d k_M_next_ 192 [l0, l1, l2] [vI s1, vR c0] σ Q := wp_goto rfl
set_option maxRecDepth 4000 in
theorem r_M_next__191 : Wp L d k_M_next_ 191 [l0, l1, l2] [vR c0] σ Q ↔ Wp L d k_M_next_ 192 [l0, l1, l2] [vI 0, vR c0] σ Q := wp_push rfl
set_option maxRecDepth 4000 in
theorem r_M_next__192 (h : gK c0 = 12) : Wp L d k_M_next_ 192 [l0, l1, l2] [vI s1, vR c0] σ Q ↔ Wp L d k_M_next_ 195 [l0, l1, l2] [] (gupd σ c0 14 s1) Q := wp_putI (c := 3086) rfl rfl rfl rfl h
set_option maxRecDepth 4000 in
theorem r_M_next__195 : Wp L d k_M_next_ 195 [l0, l1, l2] [] σ Q ↔ Wp L d k_M_next_ 339 [l0, l1, l2] [] σ Q := wp_goto rfl
set_option maxRecDepth 4000 in
theorem r_M_next__198 : Wp L d k_M_next_ 198 [vR b0, l1, l2] [] σ Q ↔ Wp L d k_M_next_ 199 [vR b0, l1, l2] [vR b0] σ Q := wp_aload rfl rfl
set_option maxRecDepth 4000 in
theorem r_M_next__199 : Wp L d k_M_next_ 199 [vR b0, l1, l2] [vR c0] σ Q ↔ Wp L d k_M_next_ 200 [vR b0, l1, l2] [vR b0, vR c0] σ Q := wp_aload rfl rfl
set_option maxRecDepth 4000 in
theorem r_M_next__200 (h : gK c1 = 12) : Wp L d k_M_next_ 200 [l0, l1, l2] [vR c1, vR c0] σ Q ↔ Wp L d k_M_next_ 203 [l0, l1, l2] [vI (σ c1 10), vR c0] σ Q := wp_getI (c := 3082) rfl rfl rfl rfl h
set_option maxRecDepth 4000 in
theorem r_M_next__206 : Wp L d k_M_next_ 206 [l0, l1, l2] [vI s0] σ Q ↔ (if s0 = 0 then Wp L d k_M_next_ 311 [l0, l1, l2] [] σ Q else Wp L d k_M_next_ 209 [l0, l1, l2] [] σ Q) := wp_if_eq rfl
set_option maxRecDepth 4000 in
theorem r_M_next__209 : Wp L d k_M_next_ 209 [vR b0, l1, l2] [] σ Q ↔ Wp L d k_M_next_ 210 [vR b0, l1, l2] [vR b0] σ Q := wp_aload rfl rfl
set_option maxRecDepth 4000 in
theorem r_M_next__210 : Wp L d k_M_next_ 210 [l0, l1, l2] [vR c0] σ Q ↔ Wp L d k_M_next_ 211 [l0, l1, l2] [vI 0, vR c0] σ Q := wp_push rfl
set_option maxRecDepth 4000 in
theorem r_M_next__211 (h : gK c0 = 12) : Wp L d k_M_next_ 211 [l0, l1, l2] [vI s1, vR c0] σ Q ↔ Wp L d k_M_next_ 214 [l0, l1, l2] [] (gupd σ c0 13 s1) Q := wp_putI (c := 3085) rfl rfl rfl rfl h
set_option maxRecDepth 4000 in
theorem r_M_next__214 : Wp L d k_M_next_ 214 [vR b0, l1, l2] [] σ Q ↔ Wp L d k_M_next_ 215 [vR b0, l1, l2] [vR b0] σ Q := wp_aload rfl rfl
set_option maxRecDepth 4000 in
theorem r_M_next__215 : Wp L d k_M_next_ 215 [vR b0, l1, l2] [vR c0] σ Q ↔ Wp L d k_M_next_ 216 [vR b0, l1, l2] [vR b0, vR c0] σ Q := wp_aload rfl rfl
set_option maxRecDepth 4000 in
theorem r_M_next__216 (h : gK c1 = 12) : Wp L d k_M_next_ 216 [l0, l1, l2] [vR c1, vR c0] σ Q ↔ Wp L d k_M_next_ 219 [l0, l1, l2] [vI (σ c1 11), vR c0] σ Q := wp_getI (c := 3083) rfl rfl rfl rfl h
set_option maxRecDepth 4000 in
theorem r_M_next__222 : Wp L d k_M_next_ 222 [l0, l1, l2] [vI s0] σ Q ↔ (if s0 = 0 then Wp L d k_M_next_ 282 [l0, l1, l2] [] σ Q else Wp L d k_M_next_ 225 [l0, l1, l2] [] σ Q) := wp_if_eq rfl
set_option maxRecDepth 4000 in
theorem r_M_next__225 : Wp L d k_M_next_ 225 [vR b0, l1, l2] [] σ Q ↔ Wp L d k_M_next_ 226 [vR b0, l1, l2] [vR b0] σ Q := wp_aload rfl rfl
set_option maxRecDepth 4000 in
theorem r_M_next__226 : Wp L d k_M_next_ 226 [vR b0, l1, l2] [vR c0] σ Q ↔ Wp L d k_M_next_ 227 [vR b0, l1, l2] [vR b0, vR c0] σ Q := wp_aload rfl rfl
set_option maxRecDepth 4000 in
theorem r_M_next__227 (h : gK c1 = 12) : Wp L d k_M_next_ 227 [l0, l1, l2] [vR c1, vR c0] σ Q ↔ Wp L d k_M_next_ 230 [l0, l1, l2] [vI (σ c1 11), vR c0] σ Q := wp_getI (c := 3083) rfl rfl rfl rfl h
set_option maxRecDepth 4000 in
theorem r_M_next__230 : Wp L d k_M_next_ 230 [vR b0, l1, l2] [vI s1, vR c0] σ Q ↔ Wp L d k_M_next_ 231 [vR b0, l1, l2] [vR b0, vI s1, vR c0] σ Q := wp_aload rfl rfl
set_option maxRecDepth 4000 in
theorem r_M_next__231 (h : gK c2 = 12) : Wp L d k_M_next_ 231 [l0, l1, l2] [vR c2, vI s1, vR c0] σ Q ↔ Wp L d k_M_next_ 234 [l0, l1, l2] [vI (σ c2 10), vI s1, vR c0] σ Q := wp_getI (c := 3082) rfl rfl rfl rfl h
set_option maxRecDepth 4000 in
theorem r_M_next__234 : Wp L d k_M_next_ 234 [l0, l1, l2] [vI s2, vI s1, vR c0] σ Q ↔ Wp L d k_M_next_ 235 [l0, l1, l2] [vI (w32 (s1 - s2)), vR c0] σ Q := wp_isub rfl
set_option maxRecDepth 4000 in
theorem r_M_next__235 : Wp L d k_M_next_ 235 [l0, l1, l2] [vI s1, vR c0] σ Q ↔ Wp L d k_M_next_ 236 [l0, l1, l2] [vI 4, vI s1, vR c0] σ Q := wp_push rfl
set_option maxRecDepth 4000 in
theorem r_M_next__236 : Wp L d k_M_next_ 236 [l0, l1, l2] [vI s2, vI s1, vR c0] σ Q ↔ (if s2 ≤ s1 then Wp L d k_M_next_ 262 [l0, l1, l2] [vR c0] σ Q else Wp L d k_M_next_ 239 [l0, l1, l2] [vR c0] σ Q) := wp_cmp_ge rfl
set_option maxRecDepth 4000 in
theorem r_M_next__239 : Wp L d k_M_next_ 239 [l0, l1, l2] [vR c0] σ Q ↔ Wp L d k_M_next_ 241 [l0, l1, l2] [vI 10, vR c0] σ Q := wp_push rfl
set_option maxRecDepth 4000 in
theorem r_M_next__241 : Wp L d k_M_next_ 241 [vR b0, l1, l2] [vI s1, vR c0] σ Q ↔ Wp L d k_M_next_ 242 [vR b0, l1, l2] [vR b0, vI s1, vR c0] σ Q := wp_aload rfl rfl
set_option maxRecDepth 4000 in
theorem r_M_next__242 (h : gK c2 = 12) : Wp L d k_M_next_ 242 [l0, l1, l2] [vR c2, vI s1, vR c0] σ Q ↔ Wp L d k_M_next_ 245 [l0, l1, l2] [vI (σ c2 13), vI s1, vR c0] σ Q := wp_getI (c := 3085) rfl rfl rfl rfl h
set_option maxRecDepth 4000 in
theorem r_M_next__245 : Wp L d k_M_next_ 245 [l0, l1, l2] [vI s2, vI s1, vR c0] σ Q ↔ Wp L d k_M_next_ 246 [l0, l1, l2] [vI (w32 (s1 * s2)), vR c0] σ Q := wp_imul rfl
set_option maxRecDepth 4000 in
theorem r_M_next__246 : Wp L d k_M_next_ 246 [vR b0, l1, l2] [vI s1, vR c0] σ Q ↔ Wp L d k_M_next_ 247 [vR b0, l1, l2] [vR b0, vI s1, vR c0] σ Q := wp_aload rfl rfl
set_option maxRecDepth 4000 in
theorem r_M_next__247 (h : gK c2 = 12) : Wp L d k_M_next_ 247 [l0, l1, l2] [vR c2, vI s1, vR c0] σ Q ↔ Wp L d k_M_next_ 250 [l0, l1, l2] [vR (gq c2 8), vI s1, vR c0] σ Q := wp_getR (c := 3208) rfl rfl rfl rfl rfl h
set_option maxRecDepth 4000 in
theorem r_M_next__250 : Wp L d k_M_next_ 250 [vR b0, l1, l2] [vR c2, vI s1, vR c0] σ Q ↔ Wp L d k_M_next_ 251 [vR b0, l1, l2] [vR b0, vR c2, vI s1, vR c0] σ Q := wp_aload rfl rfl
set_option maxRecDepth 4000 in
theorem r_M_next__251 (h : gK c3 = 12) : Wp L d k_M_next_ 251 [l0, l1, l2] [vR c3, vR c2, vI s1, vR c0] σ Q ↔ Wp L d k_M_next_ 254 [l0, l1, l2] [vI (σ c3 11), vR c2, vI s1, vR c0] σ Q := wp_getI (c := 3083) rfl rfl rfl rfl h
set_option maxRecDepth 4000 in
theorem r_M_next__254 (h : gK c2 = 100) (hx : 0 ≤ s3 ∧ s3 < gN c2) : Wp L d k_M_next_ 254 [l0, l1, l2] [vI s3, vR c2, vI s1, vR c0] σ Q ↔ Wp L d k_M_next_ 255 [l0, l1, l2] [vI (σ c2 s3.toNat), vI s1, vR c0] σ Q := wp_iald rfl h hx
set_option maxRecDepth 4000 in
theorem r_M_next__255 : Wp L d k_M_next_ 255 [l0, l1, l2] [vI s2, vI s1, vR c0] σ Q ↔ Wp L d k_M_next_ 256 [l0, l1, l2] [vI (w32 (s1 + s2)), vR c0] σ Q := wp_iadd rfl
set_option maxRecDepth 4000 in
theorem r_M_next__256 : Wp L d k_M_next_ 256 [l0, l1, l2] [vI s1, vR c0] σ Q ↔ Wp L d k_M_next_ 258 [l0, l1, l2] [vI 48, vI s1, vR c0] σ Q := wp_push rfl
set_option maxRecDepth 4000 in
theorem r_M_next__258 : Wp L d k_M_next_ 258 [l0, l1, l2] [vI s2, vI s1, vR c0] σ Q ↔ Wp L d k_M_next_ 259 [l0, l1, l2] [vI (w32 (s1 - s2)), vR c0] σ Q := wp_isub rfl
set_option maxRecDepth 4000 in
theorem r_M_next__259 : Wp L d k_M_next_ 259 [l0, l1, l2] [vI s1, vR c0] σ Q ↔ Wp L d k_M_next_ 266 [l0, l1, l2] [vI s1, vR c0] σ Q := wp_goto rfl
set_option maxRecDepth 4000 in
theorem r_M_next__262 : Wp L d k_M_next_ 262 [vR b0, l1, l2] [vR c0] σ Q ↔ Wp L d k_M_next_ 263 [vR b0, l1, l2] [vR b0, vR c0] σ Q := wp_aload rfl rfl
set_option maxRecDepth 4000 in
theorem r_M_next__263 (h : gK c1 = 12) : Wp L d k_M_next_ 263 [l0, l1, l2] [vR c1, vR c0] σ Q ↔ Wp L d k_M_next_ 266 [l0, l1, l2] [vI (σ c1 13), vR c0] σ Q := wp_getI (c := 3085) rfl rfl rfl rfl h
set_option maxRecDepth 4000 in
theorem r_M_next__266 (h : gK c0 = 12) : Wp L d k_M_next_ 266 [l0, l1, l2] [vI s1, vR c0] σ Q ↔ Wp L d k_M_next_ 269 [l0, l1, l2] [] (gupd σ c0 13 s1) Q := wp_putI (c := 3085) rfl rfl rfl rfl h
set_option maxRecDepth 4000 in
theorem r_M_next__269 : Wp L d k_M_next_ 269 [vR b0, l1, l2] [] σ Q ↔ Wp L d k_M_next_ 270 [vR b0, l1, l2] [vR b0] σ Q := wp_aload rfl rfl
set_option maxRecDepth 4000 in
theorem r_M_next__270 : Wp L d k_M_next_ 270 [l0, l1, l2] [vR c0] σ Q ↔ Wp L d k_M_next_ 271 [l0, l1, l2] [vR c0, vR c0] σ Q := wp_dupR rfl
set_option maxRecDepth 4000 in
theorem r_M_next__271 (h : gK c1 = 12) : Wp L d k_M_next_ 271 [l0, l1, l2] [vR c1, vR c0] σ Q ↔ Wp L d k_M_next_ 274 [l0, l1, l2] [vI (σ c1 11), vR c0] σ Q := wp_getI (c := 3083) rfl rfl rfl rfl h
set_option maxRecDepth 4000 in
theorem r_M_next__274 : Wp L d k_M_next_ 274 [l0, l1, l2] [vI s1, vR c0] σ Q ↔ Wp L d k_M_next_ 275 [l0, l1, l2] [vI 1, vI s1, vR c0] σ Q := wp_push rfl
set_option maxRecDepth 4000 in
theorem r_M_next__275 : Wp L d k_M_next_ 275 [l0, l1, l2] [vI s2, vI s1, vR c0] σ Q ↔ Wp L d k_M_next_ 276 [l0, l1, l2] [vI (w32 (s1 + s2)), vR c0] σ Q := wp_iadd rfl
set_option maxRecDepth 4000 in
theorem r_M_next__276 (h : gK c0 = 12) : Wp L d k_M_next_ 276 [l0, l1, l2] [vI s1, vR c0] σ Q ↔ Wp L d k_M_next_ 279 [l0, l1, l2] [] (gupd σ c0 11 s1) Q := wp_putI (c := 3083) rfl rfl rfl rfl h
set_option maxRecDepth 4000 in
theorem r_M_next__279 : Wp L d k_M_next_ 279 [l0, l1, l2] [] σ Q ↔ Wp L d k_M_next_ 214 [l0, l1, l2] [] σ Q := wp_goto rfl
set_option maxRecDepth 4000 in
theorem r_M_next__282 : Wp L d k_M_next_ 282 [vR b0, l1, l2] [] σ Q ↔ Wp L d k_M_next_ 283 [vR b0, l1, l2] [vR b0] σ Q := wp_aload rfl rfl
set_option maxRecDepth 4000 in
theorem r_M_next__283 : Wp L d k_M_next_ 283 [l0, vI a1, l2] [vR c0] σ Q ↔ Wp L d k_M_next_ 284 [l0, vI a1, l2] [vI a1, vR c0] σ Q := wp_iload rfl rfl
set_option maxRecDepth 4000 in
theorem r_M_next__284 : Wp L d k_M_next_ 284 [l0, l1, l2] [vI s1, vR c0] σ Q ↔ (if s1 ≠ 0 then Wp L d k_M_next_ 300 [l0, l1, l2] [vR c0] σ Q else Wp L d k_M_next_ 287 [l0, l1, l2] [vR c0] σ Q) := wp_if_ne rfl
set_option maxRecDepth 4000 in
theorem r_M_next__287 : Wp L d k_M_next_ 287 [vR b0, l1, l2] [vR c0] σ Q ↔ Wp L d k_M_next_ 288 [vR b0, l1, l2] [vR b0, vR c0] σ Q := wp_aload rfl rfl
set_option maxRecDepth 4000 in
theorem r_M_next__288 (h : gK c1 = 12) : Wp L d k_M_next_ 288 [l0, l1, l2] [vR c1, vR c0] σ Q ↔ Wp L d k_M_next_ 291 [l0, l1, l2] [vI (σ c1 11), vR c0] σ Q := wp_getI (c := 3083) rfl rfl rfl rfl h
set_option maxRecDepth 4000 in
theorem r_M_next__291 : Wp L d k_M_next_ 291 [vR b0, l1, l2] [vI s1, vR c0] σ Q ↔ Wp L d k_M_next_ 292 [vR b0, l1, l2] [vR b0, vI s1, vR c0] σ Q := wp_aload rfl rfl
set_option maxRecDepth 4000 in
theorem r_M_next__292 (h : gK c2 = 12) : Wp L d k_M_next_ 292 [l0, l1, l2] [vR c2, vI s1, vR c0] σ Q ↔ Wp L d k_M_next_ 295 [l0, l1, l2] [vI (σ c2 10), vI s1, vR c0] σ Q := wp_getI (c := 3082) rfl rfl rfl rfl h
set_option maxRecDepth 4000 in
theorem r_M_next__295 : Wp L d k_M_next_ 295 [l0, l1, l2] [vI s2, vI s1, vR c0] σ Q ↔ Wp L d k_M_next_ 296 [l0, l1, l2] [vI (w32 (s1 - s2)), vR c0] σ Q := wp_isub rfl
set_option maxRecDepth 4000 in
theorem r_M_next__296 : Wp L d k_M_next_ 296 [l0, l1, l2] [vI s1, vR c0] σ Q ↔ Wp L d k_M_next_ 297 [l0, l1, l2] [vI 4, vI s1, vR c0] σ Q := wp_push rfl
set_option maxRecDepth 4000 in
theorem r_M_next__297 : Wp L d k_M_next_ 297 [l0, l1, l2] [vI s2, vI s1, vR c0] σ Q ↔ (if s1 ≤ s2 then Wp L d k_M_next_ 304 [l0, l1, l2] [vR c0] σ Q else Wp L d k_M_next_ 300 [l0, l1, l2] [vR c0] σ Q) := wp_cmp_le rfl
set_option maxRecDepth 4000 in
theorem r_M_next__300 : Wp L d k_M_next_ 300 [l0, l1, l2] [vR c0] σ Q ↔ Wp L d k_M_next_ 301 [l0, l1, l2] [vI 4, vR c0] σ Q := wp_push rfl
set_option maxRecDepth 4000 in
theorem r_M_next__301 : Wp L d k_M_next_ 301 [l0, l1, l2] [vI s1, vR c0] σ Q ↔ Wp L d k_M_next_ 305 [l0, l1, l2] [vI s1, vR c0] σ Q := wp_goto rfl
set_option maxRecDepth 4000 in
theorem r_M_next__304 : Wp L d k_M_next_ 304 [l0, l1, l2] [vR c0] σ Q ↔ Wp L d k_M_next_ 305 [l0, l1, l2] [vI 2, vR c0] σ Q := wp_push rfl
set_option maxRecDepth 4000 in
theorem r_M_next__305 (h : gK c0 = 12) : Wp L d k_M_next_ 305 [l0, l1, l2] [vI s1, vR c0] σ Q ↔ Wp L d k_M_next_ 308 [l0, l1, l2] [] (gupd σ c0 12 s1) Q := wp_putI (c := 3084) rfl rfl rfl rfl h
set_option maxRecDepth 4000 in
theorem r_M_next__308 : Wp L d k_M_next_ 308 [l0, l1, l2] [] σ Q ↔ Wp L d k_M_next_ 339 [l0, l1, l2] [] σ Q := wp_goto rfl
set_option maxRecDepth 4000 in
theorem r_M_next__311 : Wp L d k_M_next_ 311 [vR b0, l1, l2] [] σ Q ↔ Wp L d k_M_next_ 312 [vR b0, l1, l2] [vR b0] σ Q := wp_aload rfl rfl
set_option maxRecDepth 4000 in
theorem r_M_next__312 : Wp L d k_M_next_ 312 [l0, l1, l2] [vR c0] σ Q ↔ Wp L d k_M_next_ 313 [l0, l1, l2] [vI 3, vR c0] σ Q := wp_push rfl
set_option maxRecDepth 4000 in
theorem r_M_next__313 (h : gK c0 = 12) : Wp L d k_M_next_ 313 [l0, l1, l2] [vI s1, vR c0] σ Q ↔ Wp L d k_M_next_ 316 [l0, l1, l2] [] (gupd σ c0 12 s1) Q := wp_putI (c := 3084) rfl rfl rfl rfl h
set_option maxRecDepth 4000 in
theorem r_M_next__316 : Wp L d k_M_next_ 316 [vR b0, l1, l2] [] σ Q ↔ Wp L d k_M_next_ 317 [vR b0, l1, l2] [vR b0] σ Q := wp_aload rfl rfl
set_option maxRecDepth 4000 in
theorem r_M_next__317 : Wp L d k_M_next_ 317 [vR b0, l1, l2] [vR c0] σ Q ↔ Wp L d k_M_next_ 318 [vR b0, l1, l2] [vR b0, vR c0] σ Q := wp_aload rfl rfl
set_option maxRecDepth 4000 in
theorem r_M_next__318 (h : gK c1 = 12) : Wp L d k_M_next_ 318 [l0, l1, l2] [vR c1, vR c0] σ Q ↔ Wp L d k_M_next_ 321 [l0, l1, l2] [vR (gq c1 8), vR c0] σ Q := wp_getR (c := 3208) rfl rfl rfl rfl rfl h
set_option maxRecDepth 4000 in
theorem r_M_next__321 : Wp L d k_M_next_ 321 [vR b0, l1, l2] [vR c1, vR c0] σ Q ↔ Wp L d k_M_next_ 322 [vR b0, l1, l2] [vR b0, vR c1, vR c0] σ Q := wp_aload rfl rfl
set_option maxRecDepth 4000 in
theorem r_M_next__322 (h : gK c2 = 12) : Wp L d k_M_next_ 322 [l0, l1, l2] [vR c2, vR c1, vR c0] σ Q ↔ Wp L d k_M_next_ 325 [l0, l1, l2] [vI (σ c2 10), vR c1, vR c0] σ Q := wp_getI (c := 3082) rfl rfl rfl rfl h
set_option maxRecDepth 4000 in
theorem r_M_next__325 (h : gK c1 = 100) (hx : 0 ≤ s2 ∧ s2 < gN c1) : Wp L d k_M_next_ 325 [l0, l1, l2] [vI s2, vR c1, vR c0] σ Q ↔ Wp L d k_M_next_ 326 [l0, l1, l2] [vI (σ c1 s2.toNat), vR c0] σ Q := wp_iald rfl h hx
set_option maxRecDepth 4000 in
theorem r_M_next__326 (h : gK c0 = 12) : Wp L d k_M_next_ 326 [l0, l1, l2] [vI s1, vR c0] σ Q ↔ Wp L d k_M_next_ 329 [l0, l1, l2] [] (gupd σ c0 14 s1) Q := wp_putI (c := 3086) rfl rfl rfl rfl h
set_option maxRecDepth 4000 in
theorem r_M_next__329 : Wp L d k_M_next_ 329 [vR b0, l1, l2] [] σ Q ↔ Wp L d k_M_next_ 330 [vR b0, l1, l2] [vR b0] σ Q := wp_aload rfl rfl
set_option maxRecDepth 4000 in
theorem r_M_next__330 : Wp L d k_M_next_ 330 [l0, l1, l2] [vR c0] σ Q ↔ Wp L d k_M_next_ 331 [l0, l1, l2] [vR c0, vR c0] σ Q := wp_dupR rfl
set_option maxRecDepth 4000 in
theorem r_M_next__331 (h : gK c1 = 12) : Wp L d k_M_next_ 331 [l0, l1, l2] [vR c1, vR c0] σ Q ↔ Wp L d k_M_next_ 334 [l0, l1, l2] [vI (σ c1 11), vR c0] σ Q := wp_getI (c := 3083) rfl rfl rfl rfl h
set_option maxRecDepth 4000 in
theorem r_M_next__334 : Wp L d k_M_next_ 334 [l0, l1, l2] [vI s1, vR c0] σ Q ↔ Wp L d k_M_next_ 335 [l0, l1, l2] [vI 1, vI s1, vR c0] σ Q := wp_push rfl
set_option maxRecDepth 4000 in
theorem r_M_next__335 : Wp L d k_M_next_ 335 [l0, l1, l2] [vI s2, vI s1, vR c0] σ Q ↔ Wp L d k_M_next_ 336 [l0, l1, l2] [vI (w32 (s1 + s2)), vR c0] σ Q := wp_iadd rfl
set_option maxRecDepth 4000 in
theorem r_M_next__336 (h : gK c0 = 12) : Wp L d k_M_next_ 336 [l0, l1, l2] [vI s1, vR c0] σ Q ↔ Wp L d k_M_next_ 339 [l0, l1, l2] [] (gupd σ c0 11 s1) Q := wp_putI (c := 3083) rfl rfl rfl rfl h
set_option maxRecDepth 4000 in
theorem r_M_next__339 : Wp L d k_M_next_ 339 [l0, l1, l2] [] σ Q ↔ Q none σ := wp_vret rfl
set_option maxRecDepth 4000 in
theorem r_M_next__122 (h : 0 ≤ s1) (hs : σ 293 9 ≤ 96) : Wp L (d + 2) k_M_next_ 122 [l0, l1, l2] [vI s1, vR 293] σ Q ↔ Wp L (d + 2) k_M_next_ 125 [l0, l1, l2] [vI (gb (s1 < σ 293 9 ∧ gso (σ 301 s1.toNat) = 1))] σ Q := wp_callR (d := d + 1) (as := [vR 293, vI s1]) (rest := []) rfl rfl rfl rfl rfl rfl rfl (grecv_k (by rw [gK_293]) rfl) (sp_M_isLetter h hs)
set_option maxRecDepth 4000 in
theorem r_M_next__133 (h : 0 ≤ s1) (hs : σ 293 9 ≤ 96) : Wp L (d + 2) k_M_next_ 133 [l0, l1, l2] [vI s1, vR 293] σ Q ↔ Wp L (d + 2) k_M_next_ 136 [l0, l1, l2] [vI (gb (s1 < σ 293 9 ∧ gso (σ 301 s1.toNat) = 1))] σ Q := wp_callR (d := d + 1) (as := [vR 293, vI s1]) (rest := []) rfl rfl rfl rfl rfl rfl rfl (grecv_k (by rw [gK_293]) rfl) (sp_M_isLetter h hs)
set_option maxRecDepth 4000 in
theorem r_M_next__203 (h : 0 ≤ s1) (hs : σ 293 9 ≤ 96) : Wp L (d + 2) k_M_next_ 203 [l0, l1, l2] [vI s1, vR 293] σ Q ↔ Wp L (d + 2) k_M_next_ 206 [l0, l1, l2] [vI (gb (s1 < σ 293 9 ∧ gso (σ 301 s1.toNat) = 2))] σ Q := wp_callR (d := d + 1) (as := [vR 293, vI s1]) (rest := []) rfl rfl rfl rfl rfl rfl rfl (grecv_k (by rw [gK_293]) rfl) (sp_M_isDigit h hs)
set_option maxRecDepth 4000 in
theorem r_M_next__219 (h : 0 ≤ s1) (hs : σ 293 9 ≤ 96) : Wp L (d + 2) k_M_next_ 219 [l0, l1, l2] [vI s1, vR 293] σ Q ↔ Wp L (d + 2) k_M_next_ 222 [l0, l1, l2] [vI (gb (s1 < σ 293 9 ∧ gso (σ 301 s1.toNat) = 2))] σ Q := wp_callR (d := d + 1) (as := [vR 293, vI s1]) (rest := []) rfl rfl rfl rfl rfl rfl rfl (grecv_k (by rw [gK_293]) rfl) (sp_M_isDigit h hs)
/-- what the reference's token step leaves: a token from s to t of sort u -/
def NXP (σ : gMm) (n s t : Nat) (u : Int) (σ' : gMm) : Prop := σ' 293 10 = (s : Int) ∧ σ' 293 11 = (t : Int) ∧ σ' 293 12 = u ∧ (s < n → gso (σ 301 s) = 2 → σ' 293 13 = gnum (σ 301) s (t - s)) ∧ (s < n → gso (σ 301 s) = 1 → σ' 293 14 = if t = s + 1 then σ 301 s else 0) ∧ (s < n → gso (σ 301 s) = 3 → σ' 293 14 = σ 301 s) ∧ Agr σ σ' (fun k j => k = 293 ∧ 10 ≤ j ∧ j ≤ 14)
def NXQ (σ : gMm) (n s t : Nat) (u : Int) (r' : Option gV) (σ' : gMm) : Prop := r' = none ∧ NXP σ n s t u σ'
set_option maxRecDepth 4000 in
theorem nx_end {n e s t : Nat} {u g : Int} {τ : gMm} (hn : σ 293 9 = (n : Int)) (h96 : n ≤ 96) (h2 : τ 293 11 = (s : Int)) (hA : Agr σ τ (fun k j => k = 293 ∧ 10 ≤ j ∧ j ≤ 14)) (l1 : gV) (c : s = n) (ht : t = s) (hu : u = 0) : Wp L (d + 2) k_M_next_ 89 [vR 293, l1, vI (e : Int)] [vI g] τ (NXQ σ n s t u) := by
  obtain ⟨K293, Q293, K294, N294⟩ := litM
  obtain ⟨K301, N301, n8⟩ := litB
  have h1 : τ 293 9 = (n : Int) := (hA 293 9 (by omega)).trans hn
  subst c ht hu
  rw [r_M_next__89]
  simp (disch := first | assumption | exact gb_01 _ | omega) only [r_M_next__90, r_M_next__91, r_M_next__92, r_M_next__95, r_M_next__98, r_M_next__99, r_M_next__102, r_M_next__103, r_M_next__106, r_M_next__109, r_M_next__110, r_M_next__111, r_M_next__114, r_M_next__339, Q293, n8, h1, h2, gupd_ne, gupd_eq, w32_gb, w32i, tn_add, tn_mul, Int.toNat_natCast, Int.toNat_zero, Int.reduceLE, Int.reduceLT, Int.reduceEq, Int.reduceNe, gb_T, gb_F, Int.reduceToNat, eq_self, true_or, or_true, and_true, true_and, and_self, ↓ite_gb0, ↓ite_gbn, ↓if_pos, ↓if_neg, if_true, if_false, not_true_eq_false, not_false_eq_true, gb_ne0, gb_eq0]
  exact ⟨rfl, by rw [gupd_ne (by omega), gupd_eq], by rw [gupd_ne (by omega), gupd_ne (by omega)]; exact h2, gupd_eq, fun z => absurd z (by omega), fun z => absurd z (by omega), fun z => absurd z (by omega), Agr_upd (Agr_upd hA (by omega)) (by omega)⟩
set_option maxRecDepth 4000 in
theorem nx_sgn {n e s t : Nat} {u g : Int} {τ : gMm} (hn : σ 293 9 = (n : Int)) (h96 : n ≤ 96) (h2 : τ 293 11 = (s : Int)) (hA : Agr σ τ (fun k j => k = 293 ∧ 10 ≤ j ∧ j ≤ 14)) (l1 : gV) (c : s < n) (o : gso (σ 301 s) = 3) (ht : t = s + 1) (hu : u = 3) : Wp L (d + 2) k_M_next_ 89 [vR 293, l1, vI (e : Int)] [vI g] τ (NXQ σ n s t u) := by
  obtain ⟨K293, Q293, K294, N294⟩ := litM
  obtain ⟨K301, N301, n8⟩ := litB
  have h1 : τ 293 9 = (n : Int) := (hA 293 9 (by omega)).trans hn
  have e0 : τ 301 s = σ 301 s := hA 301 _ (by omega)
  have hs1 : (gupd τ 293 10 (s : Int)) 293 9 ≤ 96 := by rw [gupd_ne (by omega)]; omega
  have f1 : ∀ h : Decidable ((s : Int) < (n : Int) ∧ gso (σ 301 s) = 1), @gb ((s : Int) < (n : Int) ∧ gso (σ 301 s) = 1) h = 0 := fun h => @gb_f _ h (fun z => by omega)
  have f2 : ∀ h : Decidable ((s : Int) < (n : Int) ∧ gso (σ 301 s) = 2), @gb ((s : Int) < (n : Int) ∧ gso (σ 301 s) = 2) h = 0 := fun h => @gb_f _ h (fun z => by omega)
  subst ht hu
  rw [r_M_next__89]
  simp (disch := first | assumption | exact gb_01 _ | omega) only [r_M_next__90, r_M_next__91, r_M_next__92, r_M_next__95, r_M_next__98, r_M_next__99, r_M_next__102, r_M_next__103, r_M_next__106, r_M_next__109, r_M_next__110, r_M_next__111, r_M_next__114, r_M_next__117, r_M_next__118, r_M_next__119, r_M_next__122, r_M_next__125, r_M_next__198, r_M_next__199, r_M_next__200, r_M_next__203, r_M_next__206, r_M_next__209, r_M_next__210, r_M_next__211, r_M_next__311, r_M_next__312, r_M_next__313, r_M_next__316, r_M_next__317, r_M_next__318, r_M_next__321, r_M_next__322, r_M_next__325, r_M_next__326, r_M_next__329, r_M_next__330, r_M_next__331, r_M_next__334, r_M_next__335, r_M_next__336, r_M_next__339, Q293, n8, h1, h2, e0, f1, f2, gupd_ne, gupd_eq, w32_gb, w32i, tn_add, tn_mul, Int.toNat_natCast, Int.toNat_zero, Int.reduceLE, Int.reduceLT, Int.reduceEq, Int.reduceNe, gb_T, gb_F, Int.reduceToNat, eq_self, true_or, or_true, and_true, true_and, and_self, ↓ite_gb0, ↓ite_gbn, ↓if_pos, ↓if_neg, if_true, if_false, not_true_eq_false, not_false_eq_true, gb_ne0, gb_eq0]
  exact ⟨rfl, by rw [gupd_ne (by omega), gupd_ne (by omega), gupd_ne (by omega), gupd_eq], by rw [gupd_eq]; omega, by rw [gupd_ne (by omega), gupd_ne (by omega), gupd_eq], fun _ z => absurd z (by omega), fun _ z => absurd z (by omega), fun _ _ => by rw [gupd_ne (by omega), gupd_eq], Agr_upd (Agr_upd (Agr_upd (Agr_upd hA (by omega)) (by omega)) (by omega)) (by omega)⟩
set_option maxRecDepth 4000 in
theorem nx_let2 {n e s t : Nat} {u g : Int} {τ : gMm} (hn : σ 293 9 = (n : Int)) (h96 : n ≤ 96) (z2 : τ 293 10 = (s : Int)) (z3 : τ 293 11 = (t : Int)) (hA : Agr σ τ (fun k j => k = 293 ∧ 10 ≤ j ∧ j ≤ 14)) (o : gso (σ 301 s) = 1) (c : s < n) (tb : s < t) (tn : t ≤ n) (hu : g = 0 ∧ u = 1 ∨ g = 1 ∧ u = 4) : Wp L (d + 2) k_M_next_ 152 [vR 293, vI g, vI (e : Int)] [] τ (NXQ σ n s t u) := by
  obtain ⟨K293, Q293, K294, N294⟩ := litM
  obtain ⟨K301, N301, n8⟩ := litB
  have e0 : τ 301 s = σ 301 s := hA 301 _ (by omega)
  rw [r_M_next__152]
  rcases hu with ⟨rfl, rfl⟩ | ⟨rfl, rfl⟩
  · by_cases c2 : t = s + 1
    · simp (disch := first | assumption | exact gb_01 _ | omega) only [r_M_next__153, r_M_next__154, r_M_next__157, r_M_next__158, r_M_next__161, r_M_next__162, r_M_next__165, r_M_next__166, r_M_next__167, r_M_next__170, r_M_next__171, r_M_next__174, r_M_next__175, r_M_next__176, r_M_next__179, r_M_next__180, r_M_next__183, r_M_next__184, r_M_next__187, r_M_next__188, r_M_next__191, r_M_next__192, r_M_next__195, r_M_next__339, Q293, n8, z2, z3, e0, gupd_ne, gupd_eq, w32_gb, w32i, tn_add, tn_mul, Int.toNat_natCast, Int.toNat_zero, Int.reduceLE, Int.reduceLT, Int.reduceEq, Int.reduceNe, gb_T, gb_F, Int.reduceToNat, eq_self, true_or, or_true, and_true, true_and, and_self, ↓ite_gb0, ↓ite_gbn, ↓if_pos, ↓if_neg, if_true, if_false, not_true_eq_false, not_false_eq_true, gb_ne0, gb_eq0]
      exact ⟨rfl, by rw [gupd_ne (by omega), gupd_ne (by omega)]; exact z2, by rw [gupd_ne (by omega), gupd_ne (by omega)]; exact z3, by rw [gupd_ne (by omega), gupd_eq], fun _ z => absurd z (by omega), fun _ _ => by rw [gupd_eq, if_pos c2], fun _ z => absurd z (by omega), Agr_upd (Agr_upd hA (by omega)) (by omega)⟩
    · simp (disch := first | assumption | exact gb_01 _ | omega) only [r_M_next__153, r_M_next__154, r_M_next__157, r_M_next__158, r_M_next__161, r_M_next__162, r_M_next__165, r_M_next__166, r_M_next__167, r_M_next__170, r_M_next__171, r_M_next__174, r_M_next__175, r_M_next__176, r_M_next__179, r_M_next__180, r_M_next__183, r_M_next__184, r_M_next__187, r_M_next__188, r_M_next__191, r_M_next__192, r_M_next__195, r_M_next__339, Q293, n8, z2, z3, e0, gupd_ne, gupd_eq, w32_gb, w32i, tn_add, tn_mul, Int.toNat_natCast, Int.toNat_zero, Int.reduceLE, Int.reduceLT, Int.reduceEq, Int.reduceNe, gb_T, gb_F, Int.reduceToNat, eq_self, true_or, or_true, and_true, true_and, and_self, ↓ite_gb0, ↓ite_gbn, ↓if_pos, ↓if_neg, if_true, if_false, not_true_eq_false, not_false_eq_true, gb_ne0, gb_eq0]
      exact ⟨rfl, by rw [gupd_ne (by omega), gupd_ne (by omega)]; exact z2, by rw [gupd_ne (by omega), gupd_ne (by omega)]; exact z3, by rw [gupd_ne (by omega), gupd_eq], fun _ z => absurd z (by omega), fun _ _ => by rw [gupd_eq, if_neg c2], fun _ z => absurd z (by omega), Agr_upd (Agr_upd hA (by omega)) (by omega)⟩
  · by_cases c2 : t = s + 1
    · simp (disch := first | assumption | exact gb_01 _ | omega) only [r_M_next__153, r_M_next__154, r_M_next__157, r_M_next__158, r_M_next__161, r_M_next__162, r_M_next__165, r_M_next__166, r_M_next__167, r_M_next__170, r_M_next__171, r_M_next__174, r_M_next__175, r_M_next__176, r_M_next__179, r_M_next__180, r_M_next__183, r_M_next__184, r_M_next__187, r_M_next__188, r_M_next__191, r_M_next__192, r_M_next__195, r_M_next__339, Q293, n8, z2, z3, e0, gupd_ne, gupd_eq, w32_gb, w32i, tn_add, tn_mul, Int.toNat_natCast, Int.toNat_zero, Int.reduceLE, Int.reduceLT, Int.reduceEq, Int.reduceNe, gb_T, gb_F, Int.reduceToNat, eq_self, true_or, or_true, and_true, true_and, and_self, ↓ite_gb0, ↓ite_gbn, ↓if_pos, ↓if_neg, if_true, if_false, not_true_eq_false, not_false_eq_true, gb_ne0, gb_eq0]
      exact ⟨rfl, by rw [gupd_ne (by omega), gupd_ne (by omega)]; exact z2, by rw [gupd_ne (by omega), gupd_ne (by omega)]; exact z3, by rw [gupd_ne (by omega), gupd_eq], fun _ z => absurd z (by omega), fun _ _ => by rw [gupd_eq, if_pos c2], fun _ z => absurd z (by omega), Agr_upd (Agr_upd hA (by omega)) (by omega)⟩
    · simp (disch := first | assumption | exact gb_01 _ | omega) only [r_M_next__153, r_M_next__154, r_M_next__157, r_M_next__158, r_M_next__161, r_M_next__162, r_M_next__165, r_M_next__166, r_M_next__167, r_M_next__170, r_M_next__171, r_M_next__174, r_M_next__175, r_M_next__176, r_M_next__179, r_M_next__180, r_M_next__183, r_M_next__184, r_M_next__187, r_M_next__188, r_M_next__191, r_M_next__192, r_M_next__195, r_M_next__339, Q293, n8, z2, z3, e0, gupd_ne, gupd_eq, w32_gb, w32i, tn_add, tn_mul, Int.toNat_natCast, Int.toNat_zero, Int.reduceLE, Int.reduceLT, Int.reduceEq, Int.reduceNe, gb_T, gb_F, Int.reduceToNat, eq_self, true_or, or_true, and_true, true_and, and_self, ↓ite_gb0, ↓ite_gbn, ↓if_pos, ↓if_neg, if_true, if_false, not_true_eq_false, not_false_eq_true, gb_ne0, gb_eq0]
      exact ⟨rfl, by rw [gupd_ne (by omega), gupd_ne (by omega)]; exact z2, by rw [gupd_ne (by omega), gupd_ne (by omega)]; exact z3, by rw [gupd_ne (by omega), gupd_eq], fun _ z => absurd z (by omega), fun _ _ => by rw [gupd_eq, if_neg c2], fun _ z => absurd z (by omega), Agr_upd (Agr_upd hA (by omega)) (by omega)⟩
set_option maxRecDepth 4000 in
theorem nx_let {n e s t : Nat} {u g : Int} {τ : gMm} (hn : σ 293 9 = (n : Int)) (h96 : n ≤ 96) (h2 : τ 293 11 = (s : Int)) (hA : Agr σ τ (fun k j => k = 293 ∧ 10 ≤ j ∧ j ≤ 14)) {l1 : gV} (c : s < n) (o : gso (σ 301 s) = 1) (ht : t = grun (σ 301) 1 (s + 1) (n - (s + 1))) (hu : g = 0 ∧ u = 1 ∨ g = 1 ∧ u = 4) : Wp L (d + 2) k_M_next_ 89 [vR 293, l1, vI (e : Int)] [vI g] τ (NXQ σ n s t u) := by
  obtain ⟨K293, Q293, K294, N294⟩ := litM
  obtain ⟨K301, N301, n8⟩ := litB
  have h1 : τ 293 9 = (n : Int) := (hA 293 9 (by omega)).trans hn
  have e0 : τ 301 s = σ 301 s := hA 301 _ (by omega)
  have hs1 : (gupd τ 293 10 (s : Int)) 293 9 ≤ 96 := by rw [gupd_ne (by omega)]; omega
  have f1 : ∀ h : Decidable ((s : Int) < (n : Int) ∧ gso (σ 301 s) = 1), @gb ((s : Int) < (n : Int) ∧ gso (σ 301 s) = 1) h = 1 := fun h => @gb_t _ h ⟨by omega, o⟩
  have tb := grun_bd (σ 301) 1 (n - (s + 1)) (s + 1)
  have ht0 : t = grun (σ 301) 1 s (n - s) := by rw [show n - s = (n - (s + 1)) + 1 by omega, grun_s o]; exact ht
  have go : Wp L (d + 2) k_M_next_ 128 [vR 293, vI g, vI (e : Int)] [] (gupd τ 293 10 (s : Int)) (NXQ σ n s t u) := by
    refine wloop (n := n - s) (I := fun k ls τ => ls = [vR 293, vI g, vI (e : Int)] ∧ (τ 293 10 = (s : Int) ∧ τ 293 11 = ((s + k : Nat) : Int)) ∧ t = grun (σ 301) 1 (s + k) (n - s - k) ∧ Agr σ τ (fun k j => k = 293 ∧ 10 ≤ j ∧ j ≤ 14)) (fun k ls τ hk hi hq => ?_) (fun ls τ hi => ?_) (n - s) 0 (by omega) _ _ ⟨rfl, ⟨gupd_eq, by rw [gupd_ne (by omega)]; exact h2⟩, ht0, Agr_upd hA (by omega)⟩
    · obtain ⟨rfl, ⟨z2, z3⟩, z5, zA⟩ := hi
      have z1 : τ 293 9 = (n : Int) := (zA 293 9 (by omega)).trans hn
      have z0 : τ 301 (s + k) = σ 301 (s + k) := zA 301 _ (by omega)
      have tn : ((s + k : Nat) : Int).toNat = s + k := by omega
      rw [show n - s - k = (n - s - k - 1) + 1 by omega] at z5
      rw [r_M_next__128]
      by_cases c5 : gso (σ 301 (s + k)) = 1
      · rw [grun_s c5] at z5
        have f2 : ∀ h : Decidable (((s + k : Nat) : Int) < (n : Int) ∧ gso (σ 301 (s + k)) = 1), @gb (((s + k : Nat) : Int) < (n : Int) ∧ gso (σ 301 (s + k)) = 1) h = 1 := fun h => @gb_t _ h ⟨by omega, c5⟩
        simp (disch := first | assumption | exact gb_01 _ | omega) only [r_M_next__129, r_M_next__130, r_M_next__133, r_M_next__136, r_M_next__139, r_M_next__140, r_M_next__141, r_M_next__144, r_M_next__145, r_M_next__146, r_M_next__149, Q293, n8, z1, z2, z3, tn, z0, f2, gupd_ne, gupd_eq, w32_gb, w32i, tn_add, tn_mul, Int.toNat_natCast, Int.toNat_zero, Int.reduceLE, Int.reduceLT, Int.reduceEq, Int.reduceNe, gb_T, gb_F, Int.reduceToNat, eq_self, true_or, or_true, and_true, true_and, and_self, ↓ite_gb0, ↓ite_gbn, ↓if_pos, ↓if_neg, if_true, if_false, not_true_eq_false, not_false_eq_true, gb_ne0, gb_eq0]
        refine hq _ _ ⟨rfl, ⟨?_, ?_⟩, by rw [z5]; congr 1, Agr_upd zA (by omega)⟩
        · rw [gupd_ne (by omega)]; exact z2
        · rw [gupd_eq]; omega
      · rw [grun_x c5] at z5
        have f2 : ∀ h : Decidable (((s + k : Nat) : Int) < (n : Int) ∧ gso (σ 301 (s + k)) = 1), @gb (((s + k : Nat) : Int) < (n : Int) ∧ gso (σ 301 (s + k)) = 1) h = 0 := fun h => @gb_f _ h (fun z => c5 z.2)
        have x := nx_let2 (L := L) (d := d) (e := e) (s := s) (t := t) (n := n) hn h96 z2 (by rw [z3, z5]) zA o c (by omega) (by omega) hu
        simp (disch := first | assumption | exact gb_01 _ | omega) only [r_M_next__129, r_M_next__130, r_M_next__133, r_M_next__136, r_M_next__139, r_M_next__140, r_M_next__141, r_M_next__144, r_M_next__145, r_M_next__146, r_M_next__149, Q293, n8, z1, z2, z3, tn, z0, f2, gupd_ne, gupd_eq, w32_gb, w32i, tn_add, tn_mul, Int.toNat_natCast, Int.toNat_zero, Int.reduceLE, Int.reduceLT, Int.reduceEq, Int.reduceNe, gb_T, gb_F, Int.reduceToNat, eq_self, true_or, or_true, and_true, true_and, and_self, ↓ite_gb0, ↓ite_gbn, ↓if_pos, ↓if_neg, if_true, if_false, not_true_eq_false, not_false_eq_true, gb_ne0, gb_eq0]
        exact x
    · obtain ⟨rfl, ⟨z2, z3⟩, z5, zA⟩ := hi
      have z1 : τ 293 9 = (n : Int) := (zA 293 9 (by omega)).trans hn
      rw [show n - s - (n - s) = 0 by omega] at z5
      have en : s + (n - s) = n := by omega
      have z5' : t = n := by rw [z5, en]; rfl
      rw [en] at z3
      have f2 : ∀ (P : Prop) (h : Decidable ((n : Int) < (n : Int) ∧ P)), @gb ((n : Int) < (n : Int) ∧ P) h = 0 := fun P h => @gb_f _ h (fun z => by omega)
      have x := nx_let2 (L := L) (d := d) (e := e) (s := s) (t := t) (n := n) hn h96 z2 (by rw [z3, z5']) zA o c (by omega) (by omega) hu
      rw [r_M_next__128]
      simp (disch := first | assumption | exact gb_01 _ | omega) only [r_M_next__129, r_M_next__130, r_M_next__133, r_M_next__136, r_M_next__139, r_M_next__140, r_M_next__141, r_M_next__144, r_M_next__145, r_M_next__146, r_M_next__149, Q293, n8, z1, z2, z3, f2, gupd_ne, gupd_eq, w32_gb, w32i, tn_add, tn_mul, Int.toNat_natCast, Int.toNat_zero, Int.reduceLE, Int.reduceLT, Int.reduceEq, Int.reduceNe, gb_T, gb_F, Int.reduceToNat, eq_self, true_or, or_true, and_true, true_and, and_self, ↓ite_gb0, ↓ite_gbn, ↓if_pos, ↓if_neg, if_true, if_false, not_true_eq_false, not_false_eq_true, gb_ne0, gb_eq0]
      exact x
  rw [r_M_next__89]
  simp (disch := first | assumption | exact gb_01 _ | omega) only [r_M_next__90, r_M_next__91, r_M_next__92, r_M_next__95, r_M_next__98, r_M_next__99, r_M_next__102, r_M_next__103, r_M_next__106, r_M_next__109, r_M_next__110, r_M_next__111, r_M_next__114, r_M_next__117, r_M_next__118, r_M_next__119, r_M_next__122, r_M_next__125, Q293, n8, h1, h2, e0, f1, gupd_ne, gupd_eq, w32_gb, w32i, tn_add, tn_mul, Int.toNat_natCast, Int.toNat_zero, Int.reduceLE, Int.reduceLT, Int.reduceEq, Int.reduceNe, gb_T, gb_F, Int.reduceToNat, eq_self, true_or, or_true, and_true, true_and, and_self, ↓ite_gb0, ↓ite_gbn, ↓if_pos, ↓if_neg, if_true, if_false, not_true_eq_false, not_false_eq_true, gb_ne0, gb_eq0]
  exact go
set_option maxRecDepth 4000 in
theorem nx_dig2 {n e s t : Nat} {u g : Int} {τ : gMm} (hn : σ 293 9 = (n : Int)) (h96 : n ≤ 96) (z2 : τ 293 10 = (s : Int)) (z3 : τ 293 11 = (t : Int)) (hA : Agr σ τ (fun k j => k = 293 ∧ 10 ≤ j ∧ j ≤ 14)) (z4 : τ 293 13 = gnum (σ 301) s (t - s)) (o : gso (σ 301 s) = 2) (c : s < n) (tb : s < t) (tn : t ≤ n) (hu : (g = 1 ∨ s + 4 < t) ∧ u = 4 ∨ (g = 0 ∧ ¬ s + 4 < t) ∧ u = 2) (hg : g = 0 ∨ g = 1) : Wp L (d + 2) k_M_next_ 282 [vR 293, vI g, vI (e : Int)] [] τ (NXQ σ n s t u) := by
  obtain ⟨K293, Q293, K294, N294⟩ := litM
  obtain ⟨K301, N301, n8⟩ := litB
  rw [r_M_next__282]
  have ff : ∀ v : Int, v = u → NXQ σ n s t u none (gupd τ 293 12 v) := fun v hv => ⟨rfl, by rw [gupd_ne (by omega)]; exact z2, by rw [gupd_ne (by omega)]; exact z3, by rw [gupd_eq, hv], fun _ _ => by rw [gupd_ne (by omega)]; exact z4, fun _ z => absurd z (by omega), fun _ z => absurd z (by omega), Agr_upd hA (by omega)⟩
  rcases hg with rfl | rfl
  · by_cases c4 : s + 4 < t
    · simp (disch := first | assumption | exact gb_01 _ | omega) only [r_M_next__283, r_M_next__284, r_M_next__287, r_M_next__288, r_M_next__291, r_M_next__292, r_M_next__295, r_M_next__296, r_M_next__297, r_M_next__300, r_M_next__301, r_M_next__304, r_M_next__305, r_M_next__308, r_M_next__339, Q293, n8, z2, z3, w32_gb, w32i, tn_add, tn_mul, Int.toNat_natCast, Int.toNat_zero, Int.reduceLE, Int.reduceLT, Int.reduceEq, Int.reduceNe, gb_T, gb_F, Int.reduceToNat, eq_self, true_or, or_true, and_true, true_and, and_self, ↓ite_gb0, ↓ite_gbn, ↓if_pos, ↓if_neg, if_true, if_false, not_true_eq_false, not_false_eq_true, gb_ne0, gb_eq0]
      exact ff 4 (by omega)
    · simp (disch := first | assumption | exact gb_01 _ | omega) only [r_M_next__283, r_M_next__284, r_M_next__287, r_M_next__288, r_M_next__291, r_M_next__292, r_M_next__295, r_M_next__296, r_M_next__297, r_M_next__300, r_M_next__301, r_M_next__304, r_M_next__305, r_M_next__308, r_M_next__339, Q293, n8, z2, z3, w32_gb, w32i, tn_add, tn_mul, Int.toNat_natCast, Int.toNat_zero, Int.reduceLE, Int.reduceLT, Int.reduceEq, Int.reduceNe, gb_T, gb_F, Int.reduceToNat, eq_self, true_or, or_true, and_true, true_and, and_self, ↓ite_gb0, ↓ite_gbn, ↓if_pos, ↓if_neg, if_true, if_false, not_true_eq_false, not_false_eq_true, gb_ne0, gb_eq0]
      exact ff 2 (by omega)
  · simp (disch := first | assumption | exact gb_01 _ | omega) only [r_M_next__283, r_M_next__284, r_M_next__287, r_M_next__288, r_M_next__291, r_M_next__292, r_M_next__295, r_M_next__296, r_M_next__297, r_M_next__300, r_M_next__301, r_M_next__304, r_M_next__305, r_M_next__308, r_M_next__339, Q293, n8, z2, z3, w32_gb, w32i, tn_add, tn_mul, Int.toNat_natCast, Int.toNat_zero, Int.reduceLE, Int.reduceLT, Int.reduceEq, Int.reduceNe, gb_T, gb_F, Int.reduceToNat, eq_self, true_or, or_true, and_true, true_and, and_self, ↓ite_gb0, ↓ite_gbn, ↓if_pos, ↓if_neg, if_true, if_false, not_true_eq_false, not_false_eq_true, gb_ne0, gb_eq0]
    exact ff 4 (by omega)
set_option maxRecDepth 4000 in
theorem nx_dig {n e s t : Nat} {u g : Int} {τ : gMm} (hn : σ 293 9 = (n : Int)) (h96 : n ≤ 96) (h2 : τ 293 11 = (s : Int)) (hA : Agr σ τ (fun k j => k = 293 ∧ 10 ≤ j ∧ j ≤ 14)) {l1 : gV} (c : s < n) (o : gso (σ 301 s) = 2) (ht : t = grun (σ 301) 2 (s + 1) (n - (s + 1))) (hu : (g = 1 ∨ s + 4 < t) ∧ u = 4 ∨ (g = 0 ∧ ¬ s + 4 < t) ∧ u = 2) (hg : g = 0 ∨ g = 1) : Wp L (d + 2) k_M_next_ 89 [vR 293, l1, vI (e : Int)] [vI g] τ (NXQ σ n s t u) := by
  obtain ⟨K293, Q293, K294, N294⟩ := litM
  obtain ⟨K301, N301, n8⟩ := litB
  have h1 : τ 293 9 = (n : Int) := (hA 293 9 (by omega)).trans hn
  have e0 : τ 301 s = σ 301 s := hA 301 _ (by omega)
  have hs1 : (gupd τ 293 10 (s : Int)) 293 9 ≤ 96 := by rw [gupd_ne (by omega)]; omega
  have f1 : ∀ h : Decidable ((s : Int) < (n : Int) ∧ gso (σ 301 s) = 1), @gb ((s : Int) < (n : Int) ∧ gso (σ 301 s) = 1) h = 0 := fun h => @gb_f _ h (fun z => by omega)
  have f3 : ∀ h : Decidable ((s : Int) < (n : Int) ∧ gso (σ 301 s) = 2), @gb ((s : Int) < (n : Int) ∧ gso (σ 301 s) = 2) h = 1 := fun h => @gb_t _ h ⟨by omega, o⟩
  have tb := grun_bd (σ 301) 2 (n - (s + 1)) (s + 1)
  have ht0 : t = grun (σ 301) 2 s (n - s) := by rw [show n - s = (n - (s + 1)) + 1 by omega, grun_s o]; exact ht
  have go : Wp L (d + 2) k_M_next_ 214 [vR 293, vI g, vI (e : Int)] [] (gupd (gupd τ 293 10 (s : Int)) 293 13 0) (NXQ σ n s t u) := by
    refine wloop (n := n - s) (I := fun k ls τ => ls = [vR 293, vI g, vI (e : Int)] ∧ (τ 293 10 = (s : Int) ∧ τ 293 11 = ((s + k : Nat) : Int) ∧ τ 293 13 = gnum (σ 301) s k ∧ ∀ i, i < k → gso (σ 301 (s + i)) = 2) ∧ t = grun (σ 301) 2 (s + k) (n - s - k) ∧ Agr σ τ (fun k j => k = 293 ∧ 10 ≤ j ∧ j ≤ 14)) (fun k ls τ hk hi hq => ?_) (fun ls τ hi => ?_) (n - s) 0 (by omega) _ _ ⟨rfl, ⟨by rw [gupd_ne (by omega), gupd_eq], by rw [gupd_ne (by omega), gupd_ne (by omega)]; exact h2, gupd_eq, fun i hi => absurd hi (by omega)⟩, ht0, Agr_upd (Agr_upd hA (by omega)) (by omega)⟩
    · obtain ⟨rfl, ⟨z2, z3, z4, z6⟩, z5, zA⟩ := hi
      have z1 : τ 293 9 = (n : Int) := (zA 293 9 (by omega)).trans hn
      have z0 : τ 301 (s + k) = σ 301 (s + k) := zA 301 _ (by omega)
      have tn : ((s + k : Nat) : Int).toNat = s + k := by omega
      have dk : ((s + k : Nat) : Int) - (s : Int) = (k : Int) := by omega
      rw [show n - s - k = (n - s - k - 1) + 1 by omega] at z5
      rw [r_M_next__214]
      by_cases c5 : gso (σ 301 (s + k)) = 2
      · rw [grun_s c5] at z5
        have f2 : ∀ h : Decidable (((s + k : Nat) : Int) < (n : Int) ∧ gso (σ 301 (s + k)) = 2), @gb (((s + k : Nat) : Int) < (n : Int) ∧ gso (σ 301 (s + k)) = 2) h = 1 := fun h => @gb_t _ h ⟨by omega, c5⟩
        have bd := gnum_bd k z6
        have d8 := gso_2.1 c5
        have z6' : ∀ i, i < k + 1 → gso (σ 301 (s + i)) = 2 := fun i hi => by
          by_cases x : i = k
          · rw [x]; exact c5
          · exact z6 i (by omega)
        by_cases c4 : k < 4
        · have gn : gnum (σ 301) s (k + 1) = 10 * gnum (σ 301) s k + σ 301 (s + k) - 48 := if_pos c4
          simp (disch := first | assumption | exact gb_01 _ | omega) only [r_M_next__215, r_M_next__216, r_M_next__219, r_M_next__222, r_M_next__225, r_M_next__226, r_M_next__227, r_M_next__230, r_M_next__231, r_M_next__234, r_M_next__235, r_M_next__236, r_M_next__239, r_M_next__241, r_M_next__242, r_M_next__245, r_M_next__246, r_M_next__247, r_M_next__250, r_M_next__251, r_M_next__254, r_M_next__255, r_M_next__256, r_M_next__258, r_M_next__259, r_M_next__262, r_M_next__263, r_M_next__266, r_M_next__269, r_M_next__270, r_M_next__271, r_M_next__274, r_M_next__275, r_M_next__276, r_M_next__279, Q293, n8, z1, z2, z3, z4, tn, z0, dk, f2, gupd_ne, gupd_eq, w32_gb, w32i, tn_add, tn_mul, Int.toNat_natCast, Int.toNat_zero, Int.reduceLE, Int.reduceLT, Int.reduceEq, Int.reduceNe, gb_T, gb_F, Int.reduceToNat, eq_self, true_or, or_true, and_true, true_and, and_self, ↓ite_gb0, ↓ite_gbn, ↓if_pos, ↓if_neg, if_true, if_false, not_true_eq_false, not_false_eq_true, gb_ne0, gb_eq0]
          refine hq _ _ ⟨rfl, ⟨?_, ?_, ?_, z6'⟩, by rw [z5]; congr 1, Agr_upd (Agr_upd zA (by omega)) (by omega)⟩
          · rw [gupd_ne (by omega), gupd_ne (by omega)]; exact z2
          · rw [gupd_eq]; omega
          · rw [gupd_ne (by omega), gupd_eq, gn]
        · have gn : gnum (σ 301) s (k + 1) = gnum (σ 301) s k := if_neg c4
          simp (disch := first | assumption | exact gb_01 _ | omega) only [r_M_next__215, r_M_next__216, r_M_next__219, r_M_next__222, r_M_next__225, r_M_next__226, r_M_next__227, r_M_next__230, r_M_next__231, r_M_next__234, r_M_next__235, r_M_next__236, r_M_next__239, r_M_next__241, r_M_next__242, r_M_next__245, r_M_next__246, r_M_next__247, r_M_next__250, r_M_next__251, r_M_next__254, r_M_next__255, r_M_next__256, r_M_next__258, r_M_next__259, r_M_next__262, r_M_next__263, r_M_next__266, r_M_next__269, r_M_next__270, r_M_next__271, r_M_next__274, r_M_next__275, r_M_next__276, r_M_next__279, Q293, n8, z1, z2, z3, z4, tn, z0, dk, f2, gupd_ne, gupd_eq, w32_gb, w32i, tn_add, tn_mul, Int.toNat_natCast, Int.toNat_zero, Int.reduceLE, Int.reduceLT, Int.reduceEq, Int.reduceNe, gb_T, gb_F, Int.reduceToNat, eq_self, true_or, or_true, and_true, true_and, and_self, ↓ite_gb0, ↓ite_gbn, ↓if_pos, ↓if_neg, if_true, if_false, not_true_eq_false, not_false_eq_true, gb_ne0, gb_eq0]
          refine hq _ _ ⟨rfl, ⟨?_, ?_, ?_, z6'⟩, by rw [z5]; congr 1, Agr_upd (Agr_upd zA (by omega)) (by omega)⟩
          · rw [gupd_ne (by omega), gupd_ne (by omega)]; exact z2
          · rw [gupd_eq]; omega
          · rw [gupd_ne (by omega), gupd_eq, gn]
      · rw [grun_x c5] at z5
        have f2 : ∀ h : Decidable (((s + k : Nat) : Int) < (n : Int) ∧ gso (σ 301 (s + k)) = 2), @gb (((s + k : Nat) : Int) < (n : Int) ∧ gso (σ 301 (s + k)) = 2) h = 0 := fun h => @gb_f _ h (fun z => c5 z.2)
        have x := nx_dig2 (L := L) (d := d) (e := e) (s := s) (t := t) (n := n) hn h96 z2 (by rw [z3, z5]) zA (by rw [z4]; congr 1; omega) o c (by omega) (by omega) hu hg
        simp (disch := first | assumption | exact gb_01 _ | omega) only [r_M_next__215, r_M_next__216, r_M_next__219, r_M_next__222, r_M_next__225, r_M_next__226, r_M_next__227, r_M_next__230, r_M_next__231, r_M_next__234, r_M_next__235, r_M_next__236, r_M_next__239, r_M_next__241, r_M_next__242, r_M_next__245, r_M_next__246, r_M_next__247, r_M_next__250, r_M_next__251, r_M_next__254, r_M_next__255, r_M_next__256, r_M_next__258, r_M_next__259, r_M_next__262, r_M_next__263, r_M_next__266, r_M_next__269, r_M_next__270, r_M_next__271, r_M_next__274, r_M_next__275, r_M_next__276, r_M_next__279, Q293, n8, z1, z2, z3, z4, tn, z0, dk, f2, gupd_ne, gupd_eq, w32_gb, w32i, tn_add, tn_mul, Int.toNat_natCast, Int.toNat_zero, Int.reduceLE, Int.reduceLT, Int.reduceEq, Int.reduceNe, gb_T, gb_F, Int.reduceToNat, eq_self, true_or, or_true, and_true, true_and, and_self, ↓ite_gb0, ↓ite_gbn, ↓if_pos, ↓if_neg, if_true, if_false, not_true_eq_false, not_false_eq_true, gb_ne0, gb_eq0]
        exact x
    · obtain ⟨rfl, ⟨z2, z3, z4, z6⟩, z5, zA⟩ := hi
      have z1 : τ 293 9 = (n : Int) := (zA 293 9 (by omega)).trans hn
      rw [show n - s - (n - s) = 0 by omega] at z5
      have en : s + (n - s) = n := by omega
      have z5' : t = n := by rw [z5, en]; rfl
      rw [en] at z3
      have f2 : ∀ (P : Prop) (h : Decidable ((n : Int) < (n : Int) ∧ P)), @gb ((n : Int) < (n : Int) ∧ P) h = 0 := fun P h => @gb_f _ h (fun z => by omega)
      have x := nx_dig2 (L := L) (d := d) (e := e) (s := s) (t := t) (n := n) hn h96 z2 (by rw [z3, z5']) zA (by rw [z4]; congr 1; omega) o c (by omega) (by omega) hu hg
      rw [r_M_next__214]
      simp (disch := first | assumption | exact gb_01 _ | omega) only [r_M_next__215, r_M_next__216, r_M_next__219, r_M_next__222, r_M_next__225, r_M_next__226, r_M_next__227, r_M_next__230, r_M_next__231, r_M_next__234, r_M_next__235, r_M_next__236, r_M_next__239, r_M_next__241, r_M_next__242, r_M_next__245, r_M_next__246, r_M_next__247, r_M_next__250, r_M_next__251, r_M_next__254, r_M_next__255, r_M_next__256, r_M_next__258, r_M_next__259, r_M_next__262, r_M_next__263, r_M_next__266, r_M_next__269, r_M_next__270, r_M_next__271, r_M_next__274, r_M_next__275, r_M_next__276, r_M_next__279, Q293, n8, z1, z2, z3, f2, w32_gb, w32i, tn_add, tn_mul, Int.toNat_natCast, Int.toNat_zero, Int.reduceLE, Int.reduceLT, Int.reduceEq, Int.reduceNe, gb_T, gb_F, Int.reduceToNat, eq_self, true_or, or_true, and_true, true_and, and_self, ↓ite_gb0, ↓ite_gbn, ↓if_pos, ↓if_neg, if_true, if_false, not_true_eq_false, not_false_eq_true, gb_ne0, gb_eq0]
      exact x
  rw [r_M_next__89]
  simp (disch := first | assumption | exact gb_01 _ | omega) only [r_M_next__90, r_M_next__91, r_M_next__92, r_M_next__95, r_M_next__98, r_M_next__99, r_M_next__102, r_M_next__103, r_M_next__106, r_M_next__109, r_M_next__110, r_M_next__111, r_M_next__114, r_M_next__117, r_M_next__118, r_M_next__119, r_M_next__122, r_M_next__125, r_M_next__198, r_M_next__199, r_M_next__200, r_M_next__203, r_M_next__206, r_M_next__209, r_M_next__210, r_M_next__211, Q293, n8, h1, h2, e0, f1, f3, gupd_ne, gupd_eq, w32_gb, w32i, tn_add, tn_mul, Int.toNat_natCast, Int.toNat_zero, Int.reduceLE, Int.reduceLT, Int.reduceEq, Int.reduceNe, gb_T, gb_F, Int.reduceToNat, eq_self, true_or, or_true, and_true, true_and, and_self, ↓ite_gb0, ↓ite_gbn, ↓if_pos, ↓if_neg, if_true, if_false, not_true_eq_false, not_false_eq_true, gb_ne0, gb_eq0]
  exact go
