/-! The law, from its entry. -/
variable {L d : Nat} {σ σ1 : Nat → Nat → Int} {Q : Option gV → (Nat → Nat → Int) → Prop} {a0 a1 a2 a3 a4 a5 a6 a7 a8 a9 a10 a11 s0 s1 s2 s3 s4 s5 s6 s7 s8 s9 : Int} {l0 l1 l2 l3 l4 l5 l6 l7 l8 l9 l10 l11 t0 t1 t2 t3 t4 t5 t6 t7 t8 t9 : gV} {b0 b1 b2 b3 b4 b5 b6 b7 b8 b9 b10 b11 c0 c1 c2 c3 c4 c5 c6 c7 c8 c9 : Nat} {r : Option gV}
theorem gWp_of {T : Nat → Option gMeth} {n d e : Nat} {C : gCode} {pc : Nat} {ls st : List gV} {m m' : gMem} {r : Option gV} {Q : Option gV → gMem → Prop} (h : gexec T n d C pc ls st m = some (r, m')) (hd : d ≤ e) (hq : Q r m') : gWp T e C pc ls st m Q := ⟨n, r, m', gexec_dep T n d e C pc ls st m _ hd h, hq⟩
/-- the law, from its entry -/
theorem law_start (L d : Nat) (hL : L ≤ 384) (σ0 : gMm) (hx : TXc σ0) (hr : ∀ j, gr32 (σ0 26 j)) (hz : ∀ k, 27 ≤ k → ∀ j, σ0 k j = 0) : gWp gT (d + 1001) k_law 0 [vR 26, vU, vU, vU] [] (gold L, σ0) (fun r m => m.1 = gSH L ∧ r = some (vI 1)) := by
  obtain ⟨n1, n2, X1, l1, X2, shp, hold, hI, hB⟩ := law_new L σ0
  have hB := hB hz
  have lg := gold_len L
  have s0 : gstep (.new 0) 3 [vR 26, vU, vU, vU] [] (gold L, σ0) = some (3, [vR 26, vU, vU, vU], [vR 27], (gold L ++ [(0, 9, List.replicate 9 none)], gzer σ0 27)) := by
    show some (3, [vR 26, vU, vU, vU], [vR (gold L).length], (gold L ++ [(0, gfields 0, List.replicate (gfields 0) none)], gzer σ0 (gold L).length)) = _
    rw [lg]
    rfl
  rw [gWp_step (law_h (List.mem_of_getElem? (i := 0) rfl)) rfl rfl s0]
  rw [gWp_step (pc' := 4) (ls' := [vR 26, vU, vU, vU]) (st' := [vR 27, vR 27]) (m' := (gold L ++ [(0, 9, List.replicate 9 none)], gzer σ0 27)) (law_h (List.mem_of_getElem? (i := 1) rfl)) rfl rfl rfl]
  have c27 : (gold L ++ [((0, 9, List.replicate 9 none) : gCell)])[27]? = some (0, 9, List.replicate 9 none) := by
    rw [List.getElem?_append_right (by rw [lg]; omega), lg]
    rfl
  have sp1 : gsplit 1 1 1 (gold L ++ [(0, 9, List.replicate 9 none)], gzer σ0 27) [vR 27, vR 27] = some ([vR 27], [vR 27]) := by
    unfold gsplit
    refine if_pos ?_
    show (true && true && true && (match (gold L ++ [((0, 9, List.replicate 9 none) : gCell)])[27]? with
      | some q => Nat.beq q.1 0
      | none => false)) = true
    rw [c27]
    rfl
  rw [gWp_call (d := d + 1000) (as := [vR 27]) (rest := [vR 27]) (law_h (List.mem_of_getElem? (i := 2) rfl)) rfl sp1]
  refine gWp_of X1 (by omega) ?_
  show gWp gT (d + 1001) k_law 7 [vR 26, vU, vU, vU] [vR 27] n1 _
  rw [gWp_step (pc' := 8) (ls' := [vR 26, vR 27, vU, vU]) (st' := []) (m' := n1) (law_h (List.mem_of_getElem? (i := 3) rfl)) rfl rfl rfl]
  have s8 : gstep (.new 12) 11 [vR 26, vR 27, vU, vU] [] n1 = some (11, [vR 26, vR 27, vU, vU], [vR 293], (n1.1 ++ [(12, 29, List.replicate 29 none)], gzer n1.2 n1.1.length)) := by
    show some (11, [vR 26, vR 27, vU, vU], [vR n1.1.length], (n1.1 ++ [(12, gfields 12, List.replicate (gfields 12) none)], gzer n1.2 n1.1.length)) = _
    rw [l1]
    rfl
  rw [gWp_step (law_h (List.mem_of_getElem? (i := 4) rfl)) rfl rfl s8]
  rw [gWp_step (pc' := 12) (ls' := [vR 26, vR 27, vU, vU]) (st' := [vR 293, vR 293]) (m' := (n1.1 ++ [(12, 29, List.replicate 29 none)], gzer n1.2 n1.1.length)) (law_h (List.mem_of_getElem? (i := 5) rfl)) rfl rfl rfl]
  have c293 : (n1.1 ++ [((12, 29, List.replicate 29 none) : gCell)])[293]? = some (12, 29, List.replicate 29 none) := by
    rw [List.getElem?_append_right (by rw [l1]; omega), l1]
    rfl
  have sp2 : gsplit 2 1 13 (n1.1 ++ [(12, 29, List.replicate 29 none)], gzer n1.2 n1.1.length) [vR 293, vR 293] = some ([vR 293], [vR 293]) := by
    unfold gsplit
    refine if_pos ?_
    show (true && true && true && (match (n1.1 ++ [((12, 29, List.replicate 29 none) : gCell)])[293]? with
      | some q => Nat.beq q.1 12
      | none => false)) = true
    rw [c293]
    rfl
  rw [gWp_call (d := d + 1000) (as := [vR 293]) (rest := [vR 293]) (law_h (List.mem_of_getElem? (i := 6) rfl)) rfl sp2]
  refine gWp_of X2 (by omega) ?_
  show gWp gT (d + 1001) k_law 15 [vR 26, vR 27, vU, vU] [vR 293] n2 _
  rw [gWp_step (pc' := 16) (ls' := [vR 26, vR 27, vR 293, vU]) (st' := []) (m' := n2) (law_h (List.mem_of_getElem? (i := 7) rfl)) rfl rfl rfl]
  rw [gWp_step (pc' := 17) (ls' := [vR 26, vR 27, vR 293, vU]) (st' := [vI 0]) (m' := n2) (law_h (List.mem_of_getElem? (i := 8) rfl)) rfl rfl rfl]
  rw [gWp_step (pc' := 18) (ls' := [vR 26, vR 27, vR 293, vI 0]) (st' := []) (m' := n2) (law_h (List.mem_of_getElem? (i := 9) rfl)) rfl rfl rfl]
  obtain ⟨sh, σ2⟩ := n2
  have shp : sh = gSH L := shp
  subst shp
  have o26 : ∀ k, k < 27 → σ2 k = σ0 k := fun k hk => funext (hold k hk)
  have tx : TXc σ2 := ⟨fun k h1 h2 j => by rw [o26 k (by omega)]; exact hx.1 k h1 h2 j, fun k hk => by rw [o26 k (by omega)]; exact hx.2 k hk⟩
  exact law_loop (Q := fun r _ => r = some (vI 1)) hL (fun _ => rfl) L 0 σ2 (by omega) (by omega) hI hB tx (fun j => by rw [o26 26 (by omega)]; exact hr j)
