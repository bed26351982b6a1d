/-! One scene becomes as another. -/
variable {L d : Nat} {σ σ1 : Nat → Nat → Int} {Q : Option gV → (Nat → Nat → Int) → Prop} {a0 a1 a2 a3 a4 a5 a6 a7 a8 a9 a10 a11 s0 s1 s2 s3 s4 s5 s6 s7 s8 s9 : Int} {l0 l1 l2 l3 l4 l5 l6 l7 l8 l9 l10 l11 t0 t1 t2 t3 t4 t5 t6 t7 t8 t9 : gV} {b0 b1 b2 b3 b4 b5 b6 b7 b8 b9 b10 b11 c0 c1 c2 c3 c4 c5 c6 c7 c8 c9 : Nat} {r : Option gV}
theorem r_S_become_0 : Wp L d k_S_become 0 [vR b0, l1] [] σ Q ↔ Wp L d k_S_become 1 [vR b0, l1] [vR b0] σ Q := wp_aload rfl rfl
theorem r_S_become_1 (h : gK c0 = 5) : Wp L d k_S_become 1 [l0, l1] [vR c0] σ Q ↔ Wp L d k_S_become 4 [l0, l1] [vR (gq c0 0)] σ Q := wp_getR (c := 1408) rfl rfl rfl rfl rfl h
theorem r_S_become_4 : Wp L d k_S_become 4 [l0, vR b1] [vR c0] σ Q ↔ Wp L d k_S_become 5 [l0, vR b1] [vR b1, vR c0] σ Q := wp_aload rfl rfl
theorem r_S_become_5 (h : gK c1 = 5) : Wp L d k_S_become 5 [l0, l1] [vR c1, vR c0] σ Q ↔ Wp L d k_S_become 8 [l0, l1] [vR (gq c1 0), vR c0] σ Q := wp_getR (c := 1408) rfl rfl rfl rfl rfl h
theorem c_S_become_8 (hR : Run L d 109 [vR c0, vR c1] σ r σ1) (h : gK c0 = 1) : Wp L (d + 1) k_S_become 8 [l0, l1] [vR c1, vR c0] σ Q ↔ Wp L (d + 1) k_S_become 11 [l0, l1] (r.toList ++ []) σ1 Q := wp_callR (as := [vR c0, vR c1]) (rest := []) rfl rfl rfl rfl rfl rfl rfl (grecv_k (by rw [h]) rfl) hR
theorem r_S_become_11 : Wp L d k_S_become 11 [vR b0, l1] [] σ Q ↔ Wp L d k_S_become 12 [vR b0, l1] [vR b0] σ Q := wp_aload rfl rfl
theorem r_S_become_12 (h : gK c0 = 5) : Wp L d k_S_become 12 [l0, l1] [vR c0] σ Q ↔ Wp L d k_S_become 15 [l0, l1] [vR (gq c0 1)] σ Q := wp_getR (c := 1409) rfl rfl rfl rfl rfl h
theorem r_S_become_15 : Wp L d k_S_become 15 [l0, vR b1] [vR c0] σ Q ↔ Wp L d k_S_become 16 [l0, vR b1] [vR b1, vR c0] σ Q := wp_aload rfl rfl
theorem r_S_become_16 (h : gK c1 = 5) : Wp L d k_S_become 16 [l0, l1] [vR c1, vR c0] σ Q ↔ Wp L d k_S_become 19 [l0, l1] [vR (gq c1 1), vR c0] σ Q := wp_getR (c := 1409) rfl rfl rfl rfl rfl h
theorem c_S_become_19 (hR : Run L d 184 [vR c0, vR c1] σ r σ1) (h : gK c0 = 10) : Wp L (d + 1) k_S_become 19 [l0, l1] [vR c1, vR c0] σ Q ↔ Wp L (d + 1) k_S_become 22 [l0, l1] (r.toList ++ []) σ1 Q := wp_callR (as := [vR c0, vR c1]) (rest := []) rfl rfl rfl rfl rfl rfl rfl (grecv_k (by rw [h]) rfl) hR
theorem r_S_become_22 : Wp L d k_S_become 22 [vR b0, l1] [] σ Q ↔ Wp L d k_S_become 23 [vR b0, l1] [vR b0] σ Q := wp_aload rfl rfl
theorem r_S_become_23 (h : gK c0 = 5) : Wp L d k_S_become 23 [l0, l1] [vR c0] σ Q ↔ Wp L d k_S_become 26 [l0, l1] [vR (gq c0 2)] σ Q := wp_getR (c := 1410) rfl rfl rfl rfl rfl h
theorem r_S_become_26 : Wp L d k_S_become 26 [l0, vR b1] [vR c0] σ Q ↔ Wp L d k_S_become 27 [l0, vR b1] [vR b1, vR c0] σ Q := wp_aload rfl rfl
theorem r_S_become_27 (h : gK c1 = 5) : Wp L d k_S_become 27 [l0, l1] [vR c1, vR c0] σ Q ↔ Wp L d k_S_become 30 [l0, l1] [vR (gq c1 2), vR c0] σ Q := wp_getR (c := 1410) rfl rfl rfl rfl rfl h
theorem c_S_become_30 (hR : Run L d 121 [vR c0, vR c1] σ r σ1) (h : gK c0 = 2) : Wp L (d + 1) k_S_become 30 [l0, l1] [vR c1, vR c0] σ Q ↔ Wp L (d + 1) k_S_become 33 [l0, l1] (r.toList ++ []) σ1 Q := wp_callR (as := [vR c0, vR c1]) (rest := []) rfl rfl rfl rfl rfl rfl rfl (grecv_k (by rw [h]) rfl) hR
theorem r_S_become_33 : Wp L d k_S_become 33 [vR b0, l1] [] σ Q ↔ Wp L d k_S_become 34 [vR b0, l1] [vR b0] σ Q := wp_aload rfl rfl
theorem r_S_become_34 (h : gK c0 = 5) : Wp L d k_S_become 34 [l0, l1] [vR c0] σ Q ↔ Wp L d k_S_become 37 [l0, l1] [vR (gq c0 3)] σ Q := wp_getR (c := 1411) rfl rfl rfl rfl rfl h
theorem r_S_become_37 : Wp L d k_S_become 37 [l0, vR b1] [vR c0] σ Q ↔ Wp L d k_S_become 38 [l0, vR b1] [vR b1, vR c0] σ Q := wp_aload rfl rfl
theorem r_S_become_38 (h : gK c1 = 5) : Wp L d k_S_become 38 [l0, l1] [vR c1, vR c0] σ Q ↔ Wp L d k_S_become 41 [l0, l1] [vR (gq c1 3), vR c0] σ Q := wp_getR (c := 1411) rfl rfl rfl rfl rfl h
theorem c_S_become_41 (hR : Run L d 146 [vR c0, vR c1] σ r σ1) (h : gK c0 = 6) : Wp L (d + 1) k_S_become 41 [l0, l1] [vR c1, vR c0] σ Q ↔ Wp L (d + 1) k_S_become 44 [l0, l1] (r.toList ++ []) σ1 Q := wp_callR (as := [vR c0, vR c1]) (rest := []) rfl rfl rfl rfl rfl rfl rfl (grecv_k (by rw [h]) rfl) hR
theorem r_S_become_44 : Wp L d k_S_become 44 [vR b0, l1] [] σ Q ↔ Wp L d k_S_become 45 [vR b0, l1] [vR b0] σ Q := wp_aload rfl rfl
theorem r_S_become_45 (h : gK c0 = 5) : Wp L d k_S_become 45 [l0, l1] [vR c0] σ Q ↔ Wp L d k_S_become 48 [l0, l1] [vR (gq c0 4)] σ Q := wp_getR (c := 1412) rfl rfl rfl rfl rfl h
theorem r_S_become_48 : Wp L d k_S_become 48 [l0, vR b1] [vR c0] σ Q ↔ Wp L d k_S_become 49 [l0, vR b1] [vR b1, vR c0] σ Q := wp_aload rfl rfl
theorem r_S_become_49 (h : gK c1 = 5) : Wp L d k_S_become 49 [l0, l1] [vR c1, vR c0] σ Q ↔ Wp L d k_S_become 52 [l0, l1] [vR (gq c1 4), vR c0] σ Q := wp_getR (c := 1412) rfl rfl rfl rfl rfl h
theorem c_S_become_52 (hR : Run L d 190 [vR c0, vR c1] σ r σ1) (h : gK c0 = 11) : Wp L (d + 1) k_S_become 52 [l0, l1] [vR c1, vR c0] σ Q ↔ Wp L (d + 1) k_S_become 55 [l0, l1] (r.toList ++ []) σ1 Q := wp_callR (as := [vR c0, vR c1]) (rest := []) rfl rfl rfl rfl rfl rfl rfl (grecv_k (by rw [h]) rfl) hR
theorem r_S_become_55 : Wp L d k_S_become 55 [vR b0, l1] [] σ Q ↔ Wp L d k_S_become 56 [vR b0, l1] [vR b0] σ Q := wp_aload rfl rfl
theorem r_S_become_56 (h : gK c0 = 5) : Wp L d k_S_become 56 [l0, l1] [vR c0] σ Q ↔ Wp L d k_S_become 59 [l0, l1] [vR (gq c0 5)] σ Q := wp_getR (c := 1413) rfl rfl rfl rfl rfl h
theorem r_S_become_59 : Wp L d k_S_become 59 [l0, vR b1] [vR c0] σ Q ↔ Wp L d k_S_become 60 [l0, vR b1] [vR b1, vR c0] σ Q := wp_aload rfl rfl
theorem r_S_become_60 (h : gK c1 = 5) : Wp L d k_S_become 60 [l0, l1] [vR c1, vR c0] σ Q ↔ Wp L d k_S_become 63 [l0, l1] [vR (gq c1 5), vR c0] σ Q := wp_getR (c := 1413) rfl rfl rfl rfl rfl h
theorem c_S_become_63 (hR : Run L d 124 [vR c0, vR c1] σ r σ1) (h : gK c0 = 3) : Wp L (d + 1) k_S_become 63 [l0, l1] [vR c1, vR c0] σ Q ↔ Wp L (d + 1) k_S_become 66 [l0, l1] (r.toList ++ []) σ1 Q := wp_callR (as := [vR c0, vR c1]) (rest := []) rfl rfl rfl rfl rfl rfl rfl (grecv_k (by rw [h]) rfl) hR
theorem r_S_become_66 : Wp L d k_S_become 66 [vR b0, l1] [] σ Q ↔ Wp L d k_S_become 67 [vR b0, l1] [vR b0] σ Q := wp_aload rfl rfl
theorem r_S_become_67 (h : gK c0 = 5) : Wp L d k_S_become 67 [l0, l1] [vR c0] σ Q ↔ Wp L d k_S_become 70 [l0, l1] [vR (gq c0 6)] σ Q := wp_getR (c := 1414) rfl rfl rfl rfl rfl h
theorem r_S_become_70 : Wp L d k_S_become 70 [l0, vR b1] [vR c0] σ Q ↔ Wp L d k_S_become 71 [l0, vR b1] [vR b1, vR c0] σ Q := wp_aload rfl rfl
theorem r_S_become_71 (h : gK c1 = 5) : Wp L d k_S_become 71 [l0, l1] [vR c1, vR c0] σ Q ↔ Wp L d k_S_become 74 [l0, l1] [vR (gq c1 6), vR c0] σ Q := wp_getR (c := 1414) rfl rfl rfl rfl rfl h
theorem c_S_become_74 (hR : Run L d 153 [vR c0, vR c1] σ r σ1) (h : gK c0 = 7) : Wp L (d + 1) k_S_become 74 [l0, l1] [vR c1, vR c0] σ Q ↔ Wp L (d + 1) k_S_become 77 [l0, l1] (r.toList ++ []) σ1 Q := wp_callR (as := [vR c0, vR c1]) (rest := []) rfl rfl rfl rfl rfl rfl rfl (grecv_k (by rw [h]) rfl) hR
theorem r_S_become_77 : Wp L d k_S_become 77 [vR b0, l1] [] σ Q ↔ Wp L d k_S_become 78 [vR b0, l1] [vR b0] σ Q := wp_aload rfl rfl
theorem r_S_become_78 : Wp L d k_S_become 78 [l0, vR b1] [vR c0] σ Q ↔ Wp L d k_S_become 79 [l0, vR b1] [vR b1, vR c0] σ Q := wp_aload rfl rfl
theorem r_S_become_79 (h : gK c1 = 5) : Wp L d k_S_become 79 [l0, l1] [vR c1, vR c0] σ Q ↔ Wp L d k_S_become 82 [l0, l1] [vI (σ c1 7), vR c0] σ Q := wp_getI (c := 1287) rfl rfl rfl rfl h
theorem r_S_become_82 (h : gK c0 = 5) : Wp L d k_S_become 82 [l0, l1] [vI s1, vR c0] σ Q ↔ Wp L d k_S_become 85 [l0, l1] [] (gupd σ c0 7 s1) Q := wp_putI (c := 1287) rfl rfl rfl rfl h
theorem r_S_become_85 : Wp L d k_S_become 85 [vR b0, l1] [] σ Q ↔ Wp L d k_S_become 86 [vR b0, l1] [vR b0] σ Q := wp_aload rfl rfl
theorem r_S_become_86 : Wp L d k_S_become 86 [l0, vR b1] [vR c0] σ Q ↔ Wp L d k_S_become 87 [l0, vR b1] [vR b1, vR c0] σ Q := wp_aload rfl rfl
theorem r_S_become_87 (h : gK c1 = 5) : Wp L d k_S_become 87 [l0, l1] [vR c1, vR c0] σ Q ↔ Wp L d k_S_become 90 [l0, l1] [vI (σ c1 8), vR c0] σ Q := wp_getI (c := 1288) rfl rfl rfl rfl h
theorem r_S_become_90 (h : gK c0 = 5) : Wp L d k_S_become 90 [l0, l1] [vI s1, vR c0] σ Q ↔ Wp L d k_S_become 93 [l0, l1] [] (gupd σ c0 8 s1) Q := wp_putI (c := 1288) rfl rfl rfl rfl h
theorem r_S_become_93 : Wp L d k_S_become 93 [l0, l1] [] σ Q ↔ Q none σ := wp_vret rfl
set_option maxHeartbeats 4000000 in
theorem sp_S_become_0 {μ : Nat} (hμ : 293 ≤ μ) (hw : WF (σ μ)) (hc : SC 101 (σ μ) σ) (hd : ∀ j : Nat, σ 133 j = 0 ∨ σ 133 j = 1) : ∃ σ', Run L (d + 2) 140 [vR 28, vR 129] σ none σ' ∧ SC 0 (σ μ) σ' ∧ Agr σ σ' (fun k _ => 28 ≤ k ∧ k ≤ 128) := by
  refine Run_ex (C' := k_S_become) rfl ?_
  show Wp L (d + 2) k_S_become 0 [vR 28, vR 129] [] σ _
  have K28 : gK 28 = 5 := by decide +kernel
  have K129 : gK 129 = 5 := by decide +kernel
  have K29 : gK 29 = 1 := by decide +kernel
  have K78 : gK 78 = 10 := by decide +kernel
  have K97 : gK 97 = 2 := by decide +kernel
  have K99 : gK 99 = 6 := by decide +kernel
  have K109 : gK 109 = 11 := by decide +kernel
  have K123 : gK 123 = 3 := by decide +kernel
  have K125 : gK 125 = 7 := by decide +kernel
  have BB := BR29
  have BC := BR130
  obtain ⟨τ1, hR1, d1, hA1⟩ := sp_B_become (L := L) (d := d) (σ := σ) (b := 29) (c := 130) (f := σ μ) BB BC (fun j i hj => by unfold ZBr; omega) hw.1 hc.1 hd
  replace hA1 : Agr σ τ1 (fun k _ => 29 ≤ k ∧ k ≤ 77) := Agr_mono hA1 (fun k j hk => by unfold ZBr at hk; omega)
  obtain ⟨-, s1⟩ := SC_dep (δ := 101) (μ := μ) (σ := σ) (σ' := τ1) (fun k j hk => hA1 k j (by omega)) hw hc
  have f1 : τ1 μ = σ μ := funext (fun j => (hA1 μ j (by omega)).trans rfl)
  have hw1 : WF (τ1 μ) := by rw [f1]; exact hw
  obtain ⟨τ2, hR2, d2, hA2⟩ := sp_C_become_0 (L := L) (d := d + 1) (σ := τ1) (f := σ μ) hw.2.1 (by rw [← f1]; exact s1.2.1)
  replace hA2 : Agr τ1 τ2 (fun k _ => 78 ≤ k ∧ k ≤ 96) := Agr_mono hA2 (fun k j hk => by omega)
  obtain ⟨-, s2⟩ := SC_dep (δ := 101) (μ := μ) (σ := τ1) (σ' := τ2) (fun k j hk => hA2 k j (by omega)) hw1 s1
  have f2 : τ2 μ = σ μ := funext (fun j => (hA2 μ j (by omega)).trans (congrFun f1 j))
  have hw2 : WF (τ2 μ) := by rw [f2]; exact hw
  obtain ⟨τ3, hR3, d3, hA3⟩ := sp_G_become_0 (L := L) (d := d + 1) (σ := τ2) (f := σ μ) (by rw [← f2]; exact s2.2.2.1)
  replace hA3 : Agr τ2 τ3 (fun k _ => 97 ≤ k ∧ k ≤ 98) := Agr_mono hA3 (fun k j hk => by omega)
  obtain ⟨-, s3⟩ := SC_dep (δ := 101) (μ := μ) (σ := τ2) (σ' := τ3) (fun k j hk => hA3 k j (by omega)) hw2 s2
  have f3 : τ3 μ = σ μ := funext (fun j => (hA3 μ j (by omega)).trans (congrFun f2 j))
  have hw3 : WF (τ3 μ) := by rw [f3]; exact hw
  obtain ⟨τ4, hR4, d4, hA4⟩ := sp_T_become_0 (L := L) (d := d + 1) (σ := τ3) (f := σ μ) (by rw [← f3]; exact s3.2.2.2.1)
  replace hA4 : Agr τ3 τ4 (fun k _ => 99 ≤ k ∧ k ≤ 108) := Agr_mono hA4 (fun k j hk => by omega)
  obtain ⟨-, s4⟩ := SC_dep (δ := 101) (μ := μ) (σ := τ3) (σ' := τ4) (fun k j hk => hA4 k j (by omega)) hw3 s3
  have f4 : τ4 μ = σ μ := funext (fun j => (hA4 μ j (by omega)).trans (congrFun f3 j))
  have hw4 : WF (τ4 μ) := by rw [f4]; exact hw
  obtain ⟨τ5, hR5, d5, hA5⟩ := sp_D_become_0 (L := L) (d := d + 1) (σ := τ4) (f := σ μ) hw.2.2.2.2.1 (by rw [← f4]; exact s4.2.2.2.2.1)
  replace hA5 : Agr τ4 τ5 (fun k _ => 109 ≤ k ∧ k ≤ 122) := Agr_mono hA5 (fun k j hk => by omega)
  obtain ⟨-, s5⟩ := SC_dep (δ := 101) (μ := μ) (σ := τ4) (σ' := τ5) (fun k j hk => hA5 k j (by omega)) hw4 s4
  have f5 : τ5 μ = σ μ := funext (fun j => (hA5 μ j (by omega)).trans (congrFun f4 j))
  have hw5 : WF (τ5 μ) := by rw [f5]; exact hw
  obtain ⟨τ6, hR6, d6, hA6⟩ := sp_P_become_0 (L := L) (d := d + 1) (σ := τ5) (f := σ μ) hw.2.2.2.2.2.1 (by rw [← f5]; exact s5.2.2.2.2.2.1)
  replace hA6 : Agr τ5 τ6 (fun k _ => 123 ≤ k ∧ k ≤ 124) := Agr_mono hA6 (fun k j hk => by omega)
  obtain ⟨-, s6⟩ := SC_dep (δ := 101) (μ := μ) (σ := τ5) (σ' := τ6) (fun k j hk => hA6 k j (by omega)) hw5 s5
  have f6 : τ6 μ = σ μ := funext (fun j => (hA6 μ j (by omega)).trans (congrFun f5 j))
  have hw6 : WF (τ6 μ) := by rw [f6]; exact hw
  obtain ⟨τ7, hR7, d7, hA7⟩ := sp_A_become_0 (L := L) (d := d + 1) (σ := τ6) (f := σ μ) hw.2.2.2.2.2.2.1 (by rw [← f6]; exact s6.2.2.2.2.2.2.1)
  replace hA7 : Agr τ6 τ7 (fun k _ => 125 ≤ k ∧ k ≤ 126) := Agr_mono hA7 (fun k j hk => by omega)
  have f7 : τ7 μ = σ μ := funext (fun j => (hA7 μ j (by omega)).trans (congrFun f6 j))
  have e7 : τ7 129 7 = σ μ 7 := (hA7 129 7 (by omega)).trans ((hA6 129 7 (by omega)).trans ((hA5 129 7 (by omega)).trans ((hA4 129 7 (by omega)).trans ((hA3 129 7 (by omega)).trans ((hA2 129 7 (by omega)).trans ((hA1 129 7 (by omega)).trans hc.2.2.2.2.2.2.2.1))))))
  have e8 : τ7 129 8 = σ μ 8 := (hA7 129 8 (by omega)).trans ((hA6 129 8 (by omega)).trans ((hA5 129 8 (by omega)).trans ((hA4 129 8 (by omega)).trans ((hA3 129 8 (by omega)).trans ((hA2 129 8 (by omega)).trans ((hA1 129 8 (by omega)).trans hc.2.2.2.2.2.2.2.2))))))
  simp (disch := first | assumption | exact gb_01 _ | omega) only [r_S_become_0, r_S_become_1, r_S_become_4, r_S_become_5, r_S_become_11, r_S_become_12, r_S_become_15, r_S_become_16, r_S_become_22, r_S_become_23, r_S_become_26, r_S_become_27, r_S_become_33, r_S_become_34, r_S_become_37, r_S_become_38, r_S_become_44, r_S_become_45, r_S_become_48, r_S_become_49, r_S_become_55, r_S_become_56, r_S_become_59, r_S_become_60, r_S_become_66, r_S_become_67, r_S_become_70, r_S_become_71, r_S_become_77, r_S_become_78, r_S_become_79, r_S_become_82, r_S_become_85, r_S_become_86, r_S_become_87, r_S_become_90, r_S_become_93, c_S_become_8 hR1, c_S_become_19 hR2, c_S_become_30 hR3, c_S_become_41 hR4, c_S_become_52 hR5, c_S_become_63 hR6, c_S_become_74 hR7, Option.toList, List.singleton_append, List.cons_append, List.nil_append, List.append_nil, gq_28_0, gq_28_1, gq_28_2, gq_28_3, gq_28_4, gq_28_5, gq_28_6, gq_129_0, gq_129_1, gq_129_2, gq_129_3, gq_129_4, gq_129_5, gq_129_6, e7, e8, gupd_ne, w32_gb, w32i, tn_add, tn_mul, Int.toNat_natCast, Int.toNat_zero, Int.reduceLE, Int.reduceLT, Int.reduceEq, Int.reduceNe, gb_T, gb_F, Int.reduceToNat, eq_self, true_or, or_true, and_true, true_and, and_self, ↓ite_gb0, ↓ite_gbn, ↓if_pos, ↓if_neg, if_true, if_false, not_true_eq_false, not_false_eq_true, gb_ne0, gb_eq0]
  generalize hs : gupd (gupd τ7 28 7 (σ μ 7)) 28 8 (σ μ 8) = ρ
  have g7 : Agr τ7 ρ (fun k _ => k = 28) := by rw [← hs]; exact Agr_upd (Agr_upd (Agr_refl _ _) rfl) rfl
  have m7 : ρ 28 7 = σ μ 7 := by rw [← hs, gupd_ne (by omega), gupd_eq]
  have m8 : ρ 28 8 = σ μ 8 := by rw [← hs, gupd_eq]
  have g6 : Agr τ6 ρ (fun k _ => k = 28 ∨ 125 ≤ k ∧ k ≤ 128) := Agr_trans (Agr_mono hA7 (fun k j hk => by omega)) (Agr_mono g7 (fun k j hk => by omega))
  have g5 : Agr τ5 ρ (fun k _ => k = 28 ∨ 123 ≤ k ∧ k ≤ 128) := Agr_trans (Agr_mono hA6 (fun k j hk => by omega)) (Agr_mono g6 (fun k j hk => by omega))
  have g4 : Agr τ4 ρ (fun k _ => k = 28 ∨ 109 ≤ k ∧ k ≤ 128) := Agr_trans (Agr_mono hA5 (fun k j hk => by omega)) (Agr_mono g5 (fun k j hk => by omega))
  have g3 : Agr τ3 ρ (fun k _ => k = 28 ∨ 99 ≤ k ∧ k ≤ 128) := Agr_trans (Agr_mono hA4 (fun k j hk => by omega)) (Agr_mono g4 (fun k j hk => by omega))
  have g2 : Agr τ2 ρ (fun k _ => k = 28 ∨ 97 ≤ k ∧ k ≤ 128) := Agr_trans (Agr_mono hA3 (fun k j hk => by omega)) (Agr_mono g3 (fun k j hk => by omega))
  have g1 : Agr τ1 ρ (fun k _ => k = 28 ∨ 78 ≤ k ∧ k ≤ 128) := Agr_trans (Agr_mono hA2 (fun k j hk => by omega)) (Agr_mono g2 (fun k j hk => by omega))
  have fr : ρ μ = σ μ := funext (fun j => (g7 μ j (by omega)).trans (congrFun f7 j))
  have w := hw
  obtain ⟨w1, w2, w3, w4, w5, w6, w7, w8⟩ := w
  have b1 := (B_dep (b := 29) (μ := μ) (σ := τ1) (σ' := ρ) (fun k j hz => g1 k j (by unfold ZB at hz; omega)) (by rw [f1]; exact w1) (by rw [f1]; exact d1)).2
  rw [fr] at b1
  have b2 := (T_dep (c := 78) (μ := μ) (σ := τ2) (σ' := ρ) (fun k j hz => g2 k j (by unfold ZT at hz; omega)) (by rw [f2]; exact w2) (by rw [f2]; exact d2)).2
  rw [fr] at b2
  have b3 := (G_dep (c := 97) (μ := μ) (σ := τ3) (σ' := ρ) (fun k j hz => g3 k j (by unfold ZG at hz; omega)) (by rw [f3]; exact w3) (by rw [f3]; exact d3)).2
  rw [fr] at b3
  have b4 := (S_dep (c := 99) (μ := μ) (σ := τ4) (σ' := ρ) (fun k j hz => g4 k j (by unfold ZS at hz; omega)) (by rw [f4]; exact w4) (by rw [f4]; exact d4)).2
  rw [fr] at b4
  have b5 := (W_dep (c := 109) (μ := μ) (σ := τ5) (σ' := ρ) (fun k j hz => g5 k j (by unfold ZW at hz; omega)) (by rw [f5]; exact w5) (by rw [f5]; exact d5)).2
  rw [fr] at b5
  have b6 := (P_dep (c := 123) (μ := μ) (σ := τ6) (σ' := ρ) (fun k j hz => g6 k j (by unfold ZP at hz; omega)) (by rw [f6]; exact w6) (by rw [f6]; exact d6)).2
  rw [fr] at b6
  have b7 := (R_dep (c := 125) (μ := μ) (σ := τ7) (σ' := ρ) (fun k j hz => g7 k j (by unfold ZR at hz; omega)) (fun k j hz => g7 k j (by unfold ZK at hz; omega)) (by rw [f7]; exact w1.2.1.2) (by rw [f7]; exact w7) (by rw [f7]; exact d7)).2
  rw [fr] at b7
  exact ⟨⟨b1, b2, b3, b4, b5, b6, b7, m7, m8⟩, fun k j hk => (g1 k j (by omega)).trans (hA1 k j (by omega))⟩
set_option maxHeartbeats 4000000 in
theorem sp_S_become_1 {μ : Nat} (hμ : 293 ≤ μ) (hw : WF (σ μ)) (hc : SC 0 (σ μ) σ) (hd : ∀ j : Nat, σ 32 j = 0 ∨ σ 32 j = 1) : ∃ σ', Run L (d + 2) 140 [vR 129, vR 28] σ none σ' ∧ SC 101 (σ μ) σ' ∧ Agr σ σ' (fun k _ => 129 ≤ k ∧ k ≤ 229) := by
  refine Run_ex (C' := k_S_become) rfl ?_
  show Wp L (d + 2) k_S_become 0 [vR 129, vR 28] [] σ _
  have K129 : gK 129 = 5 := by decide +kernel
  have K28 : gK 28 = 5 := by decide +kernel
  have K130 : gK 130 = 1 := by decide +kernel
  have K179 : gK 179 = 10 := by decide +kernel
  have K198 : gK 198 = 2 := by decide +kernel
  have K200 : gK 200 = 6 := by decide +kernel
  have K210 : gK 210 = 11 := by decide +kernel
  have K224 : gK 224 = 3 := by decide +kernel
  have K226 : gK 226 = 7 := by decide +kernel
  have BB := BR130
  have BC := BR29
  obtain ⟨τ1, hR1, d1, hA1⟩ := sp_B_become (L := L) (d := d) (σ := σ) (b := 130) (c := 29) (f := σ μ) BB BC (fun j i hj => by unfold ZBr; omega) hw.1 hc.1 hd
  replace hA1 : Agr σ τ1 (fun k _ => 130 ≤ k ∧ k ≤ 178) := Agr_mono hA1 (fun k j hk => by unfold ZBr at hk; omega)
  obtain ⟨-, s1⟩ := SC_dep (δ := 0) (μ := μ) (σ := σ) (σ' := τ1) (fun k j hk => hA1 k j (by omega)) hw hc
  have f1 : τ1 μ = σ μ := funext (fun j => (hA1 μ j (by omega)).trans rfl)
  have hw1 : WF (τ1 μ) := by rw [f1]; exact hw
  obtain ⟨τ2, hR2, d2, hA2⟩ := sp_C_become_1 (L := L) (d := d + 1) (σ := τ1) (f := σ μ) hw.2.1 (by rw [← f1]; exact s1.2.1)
  replace hA2 : Agr τ1 τ2 (fun k _ => 179 ≤ k ∧ k ≤ 197) := Agr_mono hA2 (fun k j hk => by omega)
  obtain ⟨-, s2⟩ := SC_dep (δ := 0) (μ := μ) (σ := τ1) (σ' := τ2) (fun k j hk => hA2 k j (by omega)) hw1 s1
  have f2 : τ2 μ = σ μ := funext (fun j => (hA2 μ j (by omega)).trans (congrFun f1 j))
  have hw2 : WF (τ2 μ) := by rw [f2]; exact hw
  obtain ⟨τ3, hR3, d3, hA3⟩ := sp_G_become_1 (L := L) (d := d + 1) (σ := τ2) (f := σ μ) (by rw [← f2]; exact s2.2.2.1)
  replace hA3 : Agr τ2 τ3 (fun k _ => 198 ≤ k ∧ k ≤ 199) := Agr_mono hA3 (fun k j hk => by omega)
  obtain ⟨-, s3⟩ := SC_dep (δ := 0) (μ := μ) (σ := τ2) (σ' := τ3) (fun k j hk => hA3 k j (by omega)) hw2 s2
  have f3 : τ3 μ = σ μ := funext (fun j => (hA3 μ j (by omega)).trans (congrFun f2 j))
  have hw3 : WF (τ3 μ) := by rw [f3]; exact hw
  obtain ⟨τ4, hR4, d4, hA4⟩ := sp_T_become_1 (L := L) (d := d + 1) (σ := τ3) (f := σ μ) (by rw [← f3]; exact s3.2.2.2.1)
  replace hA4 : Agr τ3 τ4 (fun k _ => 200 ≤ k ∧ k ≤ 209) := Agr_mono hA4 (fun k j hk => by omega)
  obtain ⟨-, s4⟩ := SC_dep (δ := 0) (μ := μ) (σ := τ3) (σ' := τ4) (fun k j hk => hA4 k j (by omega)) hw3 s3
  have f4 : τ4 μ = σ μ := funext (fun j => (hA4 μ j (by omega)).trans (congrFun f3 j))
  have hw4 : WF (τ4 μ) := by rw [f4]; exact hw
  obtain ⟨τ5, hR5, d5, hA5⟩ := sp_D_become_1 (L := L) (d := d + 1) (σ := τ4) (f := σ μ) hw.2.2.2.2.1 (by rw [← f4]; exact s4.2.2.2.2.1)
  replace hA5 : Agr τ4 τ5 (fun k _ => 210 ≤ k ∧ k ≤ 223) := Agr_mono hA5 (fun k j hk => by omega)
  obtain ⟨-, s5⟩ := SC_dep (δ := 0) (μ := μ) (σ := τ4) (σ' := τ5) (fun k j hk => hA5 k j (by omega)) hw4 s4
  have f5 : τ5 μ = σ μ := funext (fun j => (hA5 μ j (by omega)).trans (congrFun f4 j))
  have hw5 : WF (τ5 μ) := by rw [f5]; exact hw
  obtain ⟨τ6, hR6, d6, hA6⟩ := sp_P_become_1 (L := L) (d := d + 1) (σ := τ5) (f := σ μ) hw.2.2.2.2.2.1 (by rw [← f5]; exact s5.2.2.2.2.2.1)
  replace hA6 : Agr τ5 τ6 (fun k _ => 224 ≤ k ∧ k ≤ 225) := Agr_mono hA6 (fun k j hk => by omega)
  obtain ⟨-, s6⟩ := SC_dep (δ := 0) (μ := μ) (σ := τ5) (σ' := τ6) (fun k j hk => hA6 k j (by omega)) hw5 s5
  have f6 : τ6 μ = σ μ := funext (fun j => (hA6 μ j (by omega)).trans (congrFun f5 j))
  have hw6 : WF (τ6 μ) := by rw [f6]; exact hw
  obtain ⟨τ7, hR7, d7, hA7⟩ := sp_A_become_1 (L := L) (d := d + 1) (σ := τ6) (f := σ μ) hw.2.2.2.2.2.2.1 (by rw [← f6]; exact s6.2.2.2.2.2.2.1)
  replace hA7 : Agr τ6 τ7 (fun k _ => 226 ≤ k ∧ k ≤ 227) := Agr_mono hA7 (fun k j hk => by omega)
  have f7 : τ7 μ = σ μ := funext (fun j => (hA7 μ j (by omega)).trans (congrFun f6 j))
  have e7 : τ7 28 7 = σ μ 7 := (hA7 28 7 (by omega)).trans ((hA6 28 7 (by omega)).trans ((hA5 28 7 (by omega)).trans ((hA4 28 7 (by omega)).trans ((hA3 28 7 (by omega)).trans ((hA2 28 7 (by omega)).trans ((hA1 28 7 (by omega)).trans hc.2.2.2.2.2.2.2.1))))))
  have e8 : τ7 28 8 = σ μ 8 := (hA7 28 8 (by omega)).trans ((hA6 28 8 (by omega)).trans ((hA5 28 8 (by omega)).trans ((hA4 28 8 (by omega)).trans ((hA3 28 8 (by omega)).trans ((hA2 28 8 (by omega)).trans ((hA1 28 8 (by omega)).trans hc.2.2.2.2.2.2.2.2))))))
  simp (disch := first | assumption | exact gb_01 _ | omega) only [r_S_become_0, r_S_become_1, r_S_become_4, r_S_become_5, r_S_become_11, r_S_become_12, r_S_become_15, r_S_become_16, r_S_become_22, r_S_become_23, r_S_become_26, r_S_become_27, r_S_become_33, r_S_become_34, r_S_become_37, r_S_become_38, r_S_become_44, r_S_become_45, r_S_become_48, r_S_become_49, r_S_become_55, r_S_become_56, r_S_become_59, r_S_become_60, r_S_become_66, r_S_become_67, r_S_become_70, r_S_become_71, r_S_become_77, r_S_become_78, r_S_become_79, r_S_become_82, r_S_become_85, r_S_become_86, r_S_become_87, r_S_become_90, r_S_become_93, c_S_become_8 hR1, c_S_become_19 hR2, c_S_become_30 hR3, c_S_become_41 hR4, c_S_become_52 hR5, c_S_become_63 hR6, c_S_become_74 hR7, Option.toList, List.singleton_append, List.cons_append, List.nil_append, List.append_nil, gq_129_0, gq_129_1, gq_129_2, gq_129_3, gq_129_4, gq_129_5, gq_129_6, gq_28_0, gq_28_1, gq_28_2, gq_28_3, gq_28_4, gq_28_5, gq_28_6, e7, e8, gupd_ne, w32_gb, w32i, tn_add, tn_mul, Int.toNat_natCast, Int.toNat_zero, Int.reduceLE, Int.reduceLT, Int.reduceEq, Int.reduceNe, gb_T, gb_F, Int.reduceToNat, eq_self, true_or, or_true, and_true, true_and, and_self, ↓ite_gb0, ↓ite_gbn, ↓if_pos, ↓if_neg, if_true, if_false, not_true_eq_false, not_false_eq_true, gb_ne0, gb_eq0]
  generalize hs : gupd (gupd τ7 129 7 (σ μ 7)) 129 8 (σ μ 8) = ρ
  have g7 : Agr τ7 ρ (fun k _ => k = 129) := by rw [← hs]; exact Agr_upd (Agr_upd (Agr_refl _ _) rfl) rfl
  have m7 : ρ 129 7 = σ μ 7 := by rw [← hs, gupd_ne (by omega), gupd_eq]
  have m8 : ρ 129 8 = σ μ 8 := by rw [← hs, gupd_eq]
  have g6 : Agr τ6 ρ (fun k _ => k = 129 ∨ 226 ≤ k ∧ k ≤ 229) := Agr_trans (Agr_mono hA7 (fun k j hk => by omega)) (Agr_mono g7 (fun k j hk => by omega))
  have g5 : Agr τ5 ρ (fun k _ => k = 129 ∨ 224 ≤ k ∧ k ≤ 229) := Agr_trans (Agr_mono hA6 (fun k j hk => by omega)) (Agr_mono g6 (fun k j hk => by omega))
  have g4 : Agr τ4 ρ (fun k _ => k = 129 ∨ 210 ≤ k ∧ k ≤ 229) := Agr_trans (Agr_mono hA5 (fun k j hk => by omega)) (Agr_mono g5 (fun k j hk => by omega))
  have g3 : Agr τ3 ρ (fun k _ => k = 129 ∨ 200 ≤ k ∧ k ≤ 229) := Agr_trans (Agr_mono hA4 (fun k j hk => by omega)) (Agr_mono g4 (fun k j hk => by omega))
  have g2 : Agr τ2 ρ (fun k _ => k = 129 ∨ 198 ≤ k ∧ k ≤ 229) := Agr_trans (Agr_mono hA3 (fun k j hk => by omega)) (Agr_mono g3 (fun k j hk => by omega))
  have g1 : Agr τ1 ρ (fun k _ => k = 129 ∨ 179 ≤ k ∧ k ≤ 229) := Agr_trans (Agr_mono hA2 (fun k j hk => by omega)) (Agr_mono g2 (fun k j hk => by omega))
  have fr : ρ μ = σ μ := funext (fun j => (g7 μ j (by omega)).trans (congrFun f7 j))
  have w := hw
  obtain ⟨w1, w2, w3, w4, w5, w6, w7, w8⟩ := w
  have b1 := (B_dep (b := 130) (μ := μ) (σ := τ1) (σ' := ρ) (fun k j hz => g1 k j (by unfold ZB at hz; omega)) (by rw [f1]; exact w1) (by rw [f1]; exact d1)).2
  rw [fr] at b1
  have b2 := (T_dep (c := 179) (μ := μ) (σ := τ2) (σ' := ρ) (fun k j hz => g2 k j (by unfold ZT at hz; omega)) (by rw [f2]; exact w2) (by rw [f2]; exact d2)).2
  rw [fr] at b2
  have b3 := (G_dep (c := 198) (μ := μ) (σ := τ3) (σ' := ρ) (fun k j hz => g3 k j (by unfold ZG at hz; omega)) (by rw [f3]; exact w3) (by rw [f3]; exact d3)).2
  rw [fr] at b3
  have b4 := (S_dep (c := 200) (μ := μ) (σ := τ4) (σ' := ρ) (fun k j hz => g4 k j (by unfold ZS at hz; omega)) (by rw [f4]; exact w4) (by rw [f4]; exact d4)).2
  rw [fr] at b4
  have b5 := (W_dep (c := 210) (μ := μ) (σ := τ5) (σ' := ρ) (fun k j hz => g5 k j (by unfold ZW at hz; omega)) (by rw [f5]; exact w5) (by rw [f5]; exact d5)).2
  rw [fr] at b5
  have b6 := (P_dep (c := 224) (μ := μ) (σ := τ6) (σ' := ρ) (fun k j hz => g6 k j (by unfold ZP at hz; omega)) (by rw [f6]; exact w6) (by rw [f6]; exact d6)).2
  rw [fr] at b6
  have b7 := (R_dep (c := 226) (μ := μ) (σ := τ7) (σ' := ρ) (fun k j hz => g7 k j (by unfold ZR at hz; omega)) (fun k j hz => g7 k j (by unfold ZK at hz; omega)) (by rw [f7]; exact w1.2.1.2) (by rw [f7]; exact w7) (by rw [f7]; exact d7)).2
  rw [fr] at b7
  exact ⟨⟨b1, b2, b3, b4, b5, b6, b7, m7, m8⟩, fun k j hk => (g1 k j (by omega)).trans (hA1 k j (by omega))⟩
