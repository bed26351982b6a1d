/-! A run keeps the invariant where it leaves a piece's cells alone; and runs keep numbers in range. -/
def Agr (σ σ' : gMm) (P : Nat → Nat → Prop) : Prop := ∀ k j, ¬ P k j → σ' k j = σ k j
def ZTape (k j : Nat) : Prop := (k = 279 ∧ j = 1) ∨ (k = 293 ∧ j = 9) ∨ k = 280 ∨ k = 301
def ZTest (k _j : Nat) : Prop := (284 ≤ k ∧ k ≤ 291) ∨ (297 ≤ k ∧ k ≤ 299)
def ZWait (k j : Nat) : Prop := (k = 27 ∧ j = 7) ∨ (k = 293 ∧ j = 27) ∨ k = 292 ∨ k = 307
def ZImg (k j : Nat) : Prop := (k = 27 ∧ j = 8) ∨ (k = 293 ∧ j = 3) ∨ (129 ≤ k ∧ k ≤ 229) ∨ k = 295
theorem gupd_ne {σ : gMm} {k j k' j' : Nat} {v : Int} (h : ¬ (k' = k ∧ j' = j)) : gupd σ k j v k' j' = σ k' j' := if_neg h
theorem gupd_eq {σ : gMm} {k j : Nat} {v : Int} : gupd σ k j v k j = v := if_pos ⟨rfl, rfl⟩
theorem Agr_refl (σ : gMm) (P : Nat → Nat → Prop) : Agr σ σ P := fun _ _ _ => rfl
theorem Agr_upd {σ σ' : gMm} {P : Nat → Nat → Prop} {k j : Nat} {v : Int} (h : Agr σ σ' P) (hp : P k j) : Agr σ (gupd σ' k j v) P := fun k' j' hn => by
  rw [gupd_ne (fun e => hn (by rw [e.1, e.2]; exact hp))]
  exact h k' j' hn
theorem Agr_cpy {σ σ' : gMm} {P : Nat → Nat → Prop} {k s q t n : Nat} (h : Agr σ σ' P) (hp : ∀ j, t ≤ j → j < t + n → P q j) : Agr σ (gcpy σ' k s q t n) P := fun k' j' hn => by
  unfold gcpy
  rw [if_neg (fun e => hn (by rw [e.1]; exact hp j' e.2.1 e.2.2))]
  exact h k' j' hn
theorem Agr_trans {σ σ' σ'' : gMm} {P : Nat → Nat → Prop} (h : Agr σ σ' P) (h' : Agr σ' σ'' P) : Agr σ σ'' P := fun k j hn => (h' k j hn).trans (h k j hn)
theorem Agr_mono {σ σ' : gMm} {P P' : Nat → Nat → Prop} (h : Agr σ σ' P) (hp : ∀ k j, P k j → P' k j) : Agr σ σ' P' := fun k j hn => h k j (fun x => hn (hp k j x))
theorem SC_dep {δ μ : Nat} {σ σ' : gMm} (h : ∀ k j, (28 + δ ≤ k ∧ k ≤ 128 + δ) ∨ k = μ → σ' k j = σ k j) (hw : WF (σ μ)) (hc : SC δ (σ μ) σ) : WF (σ' μ) ∧ SC δ (σ' μ) σ' := by
  obtain ⟨w1, w2, w3, w4, w5, w6, w7, w8⟩ := hw
  obtain ⟨c1, c2, c3, c4, c5, c6, c7, c8⟩ := hc
  have b1 := B_dep (b := 29 + δ) (fun k j hz => h k j (by unfold ZB at hz; omega)) w1 c1
  have b2 := T_dep (c := 78 + δ) (fun k j hz => h k j (by unfold ZT at hz; omega)) w2 c2
  have b3 := G_dep (c := 97 + δ) (fun k j hz => h k j (by unfold ZG at hz; omega)) w3 c3
  have b4 := S_dep (c := 99 + δ) (fun k j hz => h k j (by unfold ZS at hz; omega)) w4 c4
  have b5 := W_dep (c := 109 + δ) (fun k j hz => h k j (by unfold ZW at hz; omega)) w5 c5
  have b6 := P_dep (c := 123 + δ) (fun k j hz => h k j (by unfold ZP at hz; omega)) w6 c6
  have b7 := R_dep (c := 125 + δ) (fun k j hz => h k j (by unfold ZR at hz; omega)) (fun k j hz => h k j (by unfold ZK at hz; omega)) w1.2.1.2 w7 c7
  have b8 := M_dep (c := 28 + δ) (fun k j hz => h k j (by unfold ZM at hz; omega)) w8 c8
  exact ⟨⟨b1.1, b2.1, b3.1, b4.1, b5.1, b6.1, b7.1, b8.1⟩, ⟨b1.2, b2.2, b3.2, b4.2, b5.2, b6.2, b7.2, b8.2⟩⟩
theorem Tape_dep {σ σ' : gMm} (h : ∀ k j, ZTape k j → σ' k j = σ k j) (hw : RTape σ) : RTape σ' := by
  unfold ZTape at h
  unfold RTape at *
  rw [h 279 1 (by omega), h 293 9 (by omega)]
  refine ⟨hw.1, hw.2.1, fun i hi => ?_⟩
  rw [h 280 i (by omega), h 301 i (by omega)]
  exact hw.2.2 i hi
theorem Test_dep {σ σ' : gMm} (h : ∀ k j, ZTest k j → σ' k j = σ k j) (hw : RTest σ) : RTest σ' := by
  unfold ZTest at h
  intro t ht
  have := hw t ht
  rw [h 290 t (by omega), h 297 t (by omega), h 291 t (by omega), h 298 t (by omega)]
  refine ⟨this.1, this.2.1, this.2.2.1, this.2.2.2.1, fun j hj => ?_⟩
  rw [h (284 + t) j (by omega), h 299 (24 * t + j) (by omega)]
  exact this.2.2.2.2 j hj
theorem Wait_dep {σ σ' : gMm} (h : ∀ k j, ZWait k j → σ' k j = σ k j) (hw : RWait σ) : RWait σ' := by
  unfold ZWait at h
  unfold RWait at *
  rw [h 27 7 (by omega), h 293 27 (by omega)]
  refine ⟨hw.1, hw.2.1, fun i hi => ?_⟩
  rw [h 292 i (by omega), h 307 i (by omega)]
  exact hw.2.2 i hi
theorem Img_dep {σ σ' : gMm} (h : ∀ k j, ZImg k j → σ' k j = σ k j) (hw : RImg σ) : RImg σ' := by
  unfold ZImg at h
  unfold RImg at *
  rw [h 27 8 (by omega), h 293 3 (by omega)]
  exact ⟨hw.1, hw.2.1, fun e => SC_dep (δ := 101) (μ := 295) (fun k j hz => h k j (by omega)) (hw.2.2 e).1 (hw.2.2 e).2⟩
theorem Inv_mk {σ σ' : gMm} {P : Nat → Nat → Prop} (hI : Inv σ) (hA : Agr σ σ' P)
  (hB : (∀ k j, ZB 29 294 k j → ¬ P k j) ∨ WB (σ' 294) ∧ CB 29 (σ' 294) σ')
  (hT : (∀ k j, ZT 78 294 k j → ¬ P k j) ∨ WT (σ' 294) ∧ CT 78 (σ' 294) σ')
  (hG : (∀ k j, ZG 97 294 k j → ¬ P k j) ∨ WG (σ' 294) ∧ CG 97 (σ' 294) σ')
  (hS : (∀ k j, ZS 99 294 k j → ¬ P k j) ∨ WS (σ' 294) ∧ CS 99 (σ' 294) σ')
  (hW : (∀ k j, ZW 109 294 k j → ¬ P k j) ∨ WW (σ' 294) ∧ CW 109 (σ' 294) σ')
  (hP : (∀ k j, ZP 123 294 k j → ¬ P k j) ∨ WP (σ' 294) ∧ CP 123 (σ' 294) σ')
  (hR : (∀ k j, ZR 125 294 k j ∨ ZK 294 k j → ¬ P k j) ∨ WR (σ' 294) ∧ CR 125 (σ' 294) σ')
  (hM : (∀ k j, ZM 28 294 k j → ¬ P k j) ∨ WM (σ' 294) ∧ CM 28 (σ' 294) σ')
  (hTp : (∀ k j, ZTape k j → ¬ P k j) ∨ RTape σ')
  (hTs : (∀ k j, ZTest k j → ¬ P k j) ∨ RTest σ')
  (hWt : (∀ k j, ZWait k j → ¬ P k j) ∨ RWait σ')
  (hIm : (∀ k j, ZImg k j → ¬ P k j) ∨ RImg σ') : Inv σ' := by
  obtain ⟨⟨w1, w2, w3, w4, w5, w6, w7, w8⟩, ⟨c1, c2, c3, c4, c5, c6, c7, c8⟩, t1, t2, t3, t4⟩ := hI
  have b1 := hB.elim (fun h => B_dep (b := 29) (fun k j hz => hA k j (h k j hz)) w1 c1) id
  have b2 := hT.elim (fun h => T_dep (c := 78) (fun k j hz => hA k j (h k j hz)) w2 c2) id
  have b3 := hG.elim (fun h => G_dep (c := 97) (fun k j hz => hA k j (h k j hz)) w3 c3) id
  have b4 := hS.elim (fun h => S_dep (c := 99) (fun k j hz => hA k j (h k j hz)) w4 c4) id
  have b5 := hW.elim (fun h => W_dep (c := 109) (fun k j hz => hA k j (h k j hz)) w5 c5) id
  have b6 := hP.elim (fun h => P_dep (c := 123) (fun k j hz => hA k j (h k j hz)) w6 c6) id
  have b7 := hR.elim (fun h => R_dep (c := 125) (fun k j hz => hA k j (h k j (Or.inl hz))) (fun k j hz => hA k j (h k j (Or.inr hz))) w1.2.1.2 w7 c7) id
  have b8 := hM.elim (fun h => M_dep (c := 28) (fun k j hz => hA k j (h k j hz)) w8 c8) id
  exact ⟨⟨b1.1, b2.1, b3.1, b4.1, b5.1, b6.1, b7.1, b8.1⟩, ⟨b1.2, b2.2, b3.2, b4.2, b5.2, b6.2, b7.2, b8.2⟩, hTp.elim (fun h => Tape_dep (fun k j hz => hA k j (h k j hz)) t1) id, hTs.elim (fun h => Test_dep (fun k j hz => hA k j (h k j hz)) t2) id, hWt.elim (fun h => Wait_dep (fun k j hz => hA k j (h k j hz)) t3) id, hIm.elim (fun h => Img_dep (fun k j hz => hA k j (h k j hz)) t4) id⟩
