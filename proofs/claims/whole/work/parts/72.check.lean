/-! check, both. -/
variable {L d : Nat} {σ σ1 : Nat → Nat → Int} {Q : Option gV → (Nat → Nat → Int) → Prop} {a0 a1 a2 a3 a4 a5 a6 a7 a8 a9 a10 a11 s0 s1 s2 s3 s4 s5 s6 s7 s8 s9 : Int} {l0 l1 l2 l3 l4 l5 l6 l7 l8 l9 l10 l11 t0 t1 t2 t3 t4 t5 t6 t7 t8 t9 : gV} {b0 b1 b2 b3 b4 b5 b6 b7 b8 b9 b10 b11 c0 c1 c2 c3 c4 c5 c6 c7 c8 c9 : Nat} {r : Option gV}
theorem SC_dep2 {δ μ : Nat} {σ σ' : gMm} (h : ∀ k j, (28 + δ ≤ k ∧ k ≤ 128 + δ) ∨ (k = μ ∧ j < 3540) → σ' k j = σ k j) (hw : WF (σ μ)) (hc : SC δ (σ μ) σ) : WF (σ' μ) ∧ SC δ (σ' μ) σ' := by
  obtain ⟨w1, w2, w3, w4, w5, w6, w7, w8⟩ := hw
  obtain ⟨c1, c2, c3, c4, c5, c6, c7, c8⟩ := hc
  have b1 := B_dep (b := 29 + δ) (fun k j hz => h k j (by unfold ZB at hz; omega)) w1 c1
  have b2 := T_dep (c := 78 + δ) (fun k j hz => h k j (by unfold ZT at hz; omega)) w2 c2
  have b3 := G_dep (c := 97 + δ) (fun k j hz => h k j (by unfold ZG at hz; omega)) w3 c3
  have b4 := S_dep (c := 99 + δ) (fun k j hz => h k j (by unfold ZS at hz; omega)) w4 c4
  have b5 := W_dep (c := 109 + δ) (fun k j hz => h k j (by unfold ZW at hz; omega)) w5 c5
  have b6 := P_dep (c := 123 + δ) (fun k j hz => h k j (by unfold ZP at hz; omega)) w6 c6
  have b7 := R_dep (c := 125 + δ) (fun k j hz => h k j (by unfold ZR at hz; omega)) (fun k j hz => h k j (by unfold ZK at hz; omega)) w1.2.1.2 w7 c7
  have b8 := M_dep (c := 28 + δ) (fun k j hz => h k j (by unfold ZM at hz; omega)) w8 c8
  exact ⟨⟨b1.1, b2.1, b3.1, b4.1, b5.1, b6.1, b7.1, b8.1⟩, ⟨b1.2, b2.2, b3.2, b4.2, b5.2, b6.2, b7.2, b8.2⟩⟩
theorem fms_congr {w w' D : Nat → Int} {many : Int} (h : ∀ i : Nat, (i : Int) < many → w i = w' i) : ∀ m, fms w D many m = fms w' D many m
  | 0 => rfl
  | m + 1 => by
    unfold fms
    rw [fms_congr h m]
    by_cases c : (m : Int) < many
    · rw [h m c]
    · rw [if_neg (fun z => c z.2.1), if_neg (fun z => c z.2.1)]
theorem gchk_congr {w w' g : Nat → Int} {many : Int} {n : Nat} (h : ∀ i : Nat, (i : Int) < many → w i = w' i) : gchk w g many n = gchk w' g many n := by
  unfold gchk
  rw [fms_congr h]
theorem cpr_lt {a b : Nat → Int} {j : Nat} (h : j < 3540) : cpr a b j = a j := if_pos h
theorem Inv_wait {σ σ' : gMm} (hI : Inv σ) (hA : Agr σ σ' (fun k j => ZFr k j ∨ (k = 27 ∧ j = 7) ∨ (k = 293 ∧ j = 27))) (h1 : σ' 27 7 = 0) (h2 : σ' 293 27 = 0) : Inv σ' := by
  unfold ZFr at hA
  refine Inv_mk hI hA (Or.inl (fun k j hz hp => by unfold ZB at hz; omega)) (Or.inl (fun k j hz hp => by unfold ZT at hz; omega)) (Or.inl (fun k j hz hp => by unfold ZG at hz; omega)) (Or.inl (fun k j hz hp => by unfold ZS at hz; omega)) (Or.inl (fun k j hz hp => by unfold ZW at hz; omega)) (Or.inl (fun k j hz hp => by unfold ZP at hz; omega)) (Or.inl (fun k j hz hp => by unfold ZR ZK at hz; omega)) (Or.inl (fun k j hz hp => by unfold ZM at hz; omega)) (Or.inl (fun k j hz hp => by unfold ZTape at hz; omega)) (Or.inl (fun k j hz hp => by unfold ZTest at hz; omega)) (Or.inr ⟨by rw [h1, h2], by rw [h2]; omega, fun i hi => by rw [h2] at hi; omega⟩) (Or.inl (fun k j hz hp => by unfold ZImg at hz; omega))
theorem op_check (a1 : Int) : Op2 83 314 [vI a1] := by
  intro L d σ hI hPB
  have hI0 := hI
  obtain ⟨-, -, -, -, ⟨t1, t2, t3⟩, ⟨i1, i2, i3⟩⟩ := hI0
  have z2 : ∀ σ' : gMm, σ' = gupd (gupd σ 27 7 0) 293 27 0 → Inv σ' := fun σ' e => by
    rw [e]
    exact Inv_wait hI (fun k j hk => by rw [gupd_ne (fun z => hk (Or.inr (Or.inr z))), gupd_ne (fun z => hk (Or.inr (Or.inl z)))]) (by rw [gupd_ne (by omega), gupd_eq]) gupd_eq
  by_cases h : 1 ≤ a1 ∧ a1 ≤ 30
  · by_cases hi : σ 293 3 = 0
    · exact ⟨_, _, _, sp_X_check_n h (by omega), sp_M_check_n h (by rw [gupd_ne (by omega)]; exact hi), z2 _ rfl⟩
    · have hi1 : σ 293 3 = 1 := by omega
      obtain ⟨hw, hc⟩ := i3 hi1
      obtain ⟨n, rfl⟩ : ∃ n : Nat, a1 = (n : Int) := ⟨a1.toNat, by omega⟩
      have hn : 1 ≤ n ∧ n ≤ 30 := by omega
      have far : ∀ k j, (28 + 101 ≤ k ∧ k ≤ 128 + 101) ∨ (k = 295 ∧ j < 3540) → gsr σ 295 (cpr (σ 295) (σ 294)) k j = σ k j := fun k j hk => by
        by_cases c : k = 295
        · rw [c, gsr_eq, cpr_lt (by omega)]
        · rw [gsr_ne c]
      obtain ⟨hw2, hc2⟩ := SC_dep2 far hw hc
      rw [gsr_eq] at hw2 hc2
      have cb : CB 130 (cpr (σ 295) (σ 294)) σ := CB_agr (fun k j hk => by rw [gsr_ne (by omega)]) hw2.1 hc2.1
      have cg : CG 198 (cpr (σ 295) (σ 294)) σ := CG_sb (SB_refl _) (fun k j hk => by rw [gsr_ne (by omega)]) hc2.2.2.1
      obtain ⟨σ1, hR1, hA1, hz1⟩ := sp_X_check (L := L) (d := d + 994) (σ := σ) (n := n) hw2.1 cb hw2.2.2.1 cg (PB_133 hPB) hn (by omega) (by omega)
      have e5 : σ1 295 = σ 295 := funext (fun j => hA1 295 j (by unfold ZBr; omega))
      have e4 : σ1 294 = σ 294 := funext (fun j => hA1 294 j (by unfold ZBr; omega))
      have e7 : σ1 307 = σ 307 := funext (fun j => hA1 307 j (by unfold ZBr; omega))
      have e3 : σ1 293 3 = σ 293 3 := hA1 293 3 (by unfold ZBr; omega)
      have e27 : σ1 293 27 = σ 293 27 := hA1 293 27 (by unfold ZBr; omega)
      obtain ⟨σ2, hR2, hA2, hz2⟩ := sp_M_check (L := L) (d := d + 992) (σ := σ1) (n := n) (by rw [e5, e4]; exact hw2.1) (by rw [e5, e4]; exact hw2.2.2.1) hn (by rw [e27]; exact t2) (by rw [e3]; exact hi1)
      rw [e5, e4, e7, e27] at hR2
      rw [t1, gchk_congr t3] at hR1
      refine ⟨_, _, _, hR1, hR2, Inv_wait hI (Agr_trans (Agr_mono hA1 (fun k j hk => ?_)) (Agr_mono hA2 (fun k j hk => ?_))) ?_ hz2⟩
      · unfold ZBr at hk
        unfold ZFr
        omega
      · unfold ZFr
        omega
      · rw [hA2 27 7 (by omega)]
        exact hz1
  · exact ⟨_, _, _, sp_X_check_b h, sp_M_check_b h, z2 _ rfl⟩
