/-! text: the token step of the reference. -/
variable {L d : Nat} {σ σ1 : Nat → Nat → Int} {Q : Option gV → (Nat → Nat → Int) → Prop} {a0 a1 a2 a3 a4 a5 a6 a7 a8 a9 a10 a11 s0 s1 s2 s3 s4 s5 s6 s7 s8 s9 : Int} {l0 l1 l2 l3 l4 l5 l6 l7 l8 l9 l10 l11 t0 t1 t2 t3 t4 t5 t6 t7 t8 t9 : gV} {b0 b1 b2 b3 b4 b5 b6 b7 b8 b9 b10 b11 c0 c1 c2 c3 c4 c5 c6 c7 c8 c9 : Nat} {r : Option gV}
/-- the number of the first k digits from s on (of four at most) -/
def gnum (b : Nat → Int) (s : Nat) : Nat → Int
  | 0 => 0
  | k + 1 => if k < 4 then 10 * gnum b s k + b (s + k) - 48 else gnum b s k
theorem gnum_bd {b : Nat → Int} {s : Nat} : ∀ k, (∀ i, i < k → gso (b (s + i)) = 2) → 0 ≤ gnum b s k ∧ (k ≤ 0 → gnum b s k ≤ 0) ∧ (k ≤ 1 → gnum b s k ≤ 9) ∧ (k ≤ 2 → gnum b s k ≤ 99) ∧ (k ≤ 3 → gnum b s k ≤ 999) ∧ gnum b s k ≤ 9999
  | 0, _ => by unfold gnum; omega
  | k + 1, h => by
    have ih := gnum_bd k (fun i hi => h i (by omega))
    have d := gso_2.1 (h k (by omega))
    unfold gnum
    split <;> omega
theorem grun_all {b : Nat → Int} {s : Int} : ∀ m e i, e ≤ i → i < grun b s e m → gso (b i) = s
  | 0, e, i, h1, h2 => by unfold grun at h2; omega
  | m + 1, e, i, h1, h2 => by
    unfold grun at h2
    split at h2
    · next c =>
      by_cases x : i = e
      · rw [x]; exact c
      · exact grun_all m (e + 1) i (by omega) h2
    · omega
theorem gts_bd {b : Nat → Int} {n e : Nat} (h : e ≤ n) : e ≤ gts b n e ∧ gts b n e ≤ n := by
  have := gskip_bd b (n - e) e
  unfold gts
  omega
theorem gte_bd {b : Nat → Int} {n e : Nat} (h : e ≤ n) : gts b n e ≤ gte b n e ∧ gte b n e ≤ n ∧ (gts b n e < n → gts b n e < gte b n e) := by
  have h1 := gts_bd (b := b) h
  have h2 := grun_bd b (gso (b (gts b n e))) (n - (gts b n e + 1)) (gts b n e + 1)
  unfold gte
  split
  · split <;> omega
  · omega
