/-! The law's rows are its bytes. -/
variable {L d : Nat} {σ σ1 : Nat → Nat → Int} {Q : Option gV → (Nat → Nat → Int) → Prop} {a0 a1 a2 a3 a4 a5 a6 a7 a8 a9 a10 a11 s0 s1 s2 s3 s4 s5 s6 s7 s8 s9 : Int} {l0 l1 l2 l3 l4 l5 l6 l7 l8 l9 l10 l11 t0 t1 t2 t3 t4 t5 t6 t7 t8 t9 : gV} {b0 b1 b2 b3 b4 b5 b6 b7 b8 b9 b10 b11 c0 c1 c2 c3 c4 c5 c6 c7 c8 c9 : Nat} {r : Option gV}
set_option maxRecDepth 100000 in
theorem lawb_0 : ((kCs.drop 0).take 4).all (fun q => (kCase q).all (gokB 13 code 1 false)) = true := by decide +kernel
set_option maxRecDepth 100000 in
theorem lawb_1 : ((kCs.drop 4).take 4).all (fun q => (kCase q).all (gokB 13 code 1 false)) = true := by decide +kernel
set_option maxRecDepth 100000 in
theorem lawb_2 : ((kCs.drop 8).take 4).all (fun q => (kCase q).all (gokB 13 code 1 false)) = true := by decide +kernel
set_option maxRecDepth 100000 in
theorem lawb_3 : ((kCs.drop 12).take 4).all (fun q => (kCase q).all (gokB 13 code 1 false)) = true := by decide +kernel
set_option maxRecDepth 100000 in
theorem lawb_4 : ((kCs.drop 16).take 4).all (fun q => (kCase q).all (gokB 13 code 1 false)) = true := by decide +kernel
set_option maxRecDepth 100000 in
theorem lawb_5 : ((kCs.drop 20).take 4).all (fun q => (kCase q).all (gokB 13 code 1 false)) = true := by decide +kernel
set_option maxRecDepth 100000 in
theorem lawb_6 : ((kCs.drop 24).take 4).all (fun q => (kCase q).all (gokB 13 code 1 false)) = true := by decide +kernel
set_option maxRecDepth 100000 in
theorem lawb_7 : ((kCs.drop 28).take 4).all (fun q => (kCase q).all (gokB 13 code 1 false)) = true := by decide +kernel
set_option maxRecDepth 100000 in
theorem lawb_8 : ((kCs.drop 32).take 4).all (fun q => (kCase q).all (gokB 13 code 1 false)) = true := by decide +kernel
set_option maxRecDepth 100000 in
theorem lawb_9 : ((kCs.drop 36).take 4).all (fun q => (kCase q).all (gokB 13 code 1 false)) = true := by decide +kernel
set_option maxRecDepth 100000 in
theorem lawb_10 : ((kCs.drop 40).take 4).all (fun q => (kCase q).all (gokB 13 code 1 false)) = true := by decide +kernel
set_option maxRecDepth 100000 in
theorem lawb_11 : ((kCs.drop 44).take 4).all (fun q => (kCase q).all (gokB 13 code 1 false)) = true := by decide +kernel
set_option maxRecDepth 100000 in
theorem lawb_12 : ((kCs.drop 48).take 4).all (fun q => (kCase q).all (gokB 13 code 1 false)) = true := by decide +kernel
set_option maxRecDepth 100000 in
theorem lawb_13 : ((kCs.drop 52).take 4).all (fun q => (kCase q).all (gokB 13 code 1 false)) = true := by decide +kernel
set_option maxRecDepth 100000 in
theorem lawb_14 : ((kCs.drop 56).take 4).all (fun q => (kCase q).all (gokB 13 code 1 false)) = true := by decide +kernel
set_option maxRecDepth 100000 in
theorem lawb_h : kHead.all (gokB 13 code 1 false) = true := by decide +kernel
set_option maxRecDepth 100000 in
theorem lawb_e : kEnd.all (gokB 13 code 1 false) = true := by decide +kernel
theorem law_split : kCs = (kCs.drop 0).take 4 ++ ((kCs.drop 4).take 4 ++ ((kCs.drop 8).take 4 ++ ((kCs.drop 12).take 4 ++ ((kCs.drop 16).take 4 ++ ((kCs.drop 20).take 4 ++ ((kCs.drop 24).take 4 ++ ((kCs.drop 28).take 4 ++ ((kCs.drop 32).take 4 ++ ((kCs.drop 36).take 4 ++ ((kCs.drop 40).take 4 ++ ((kCs.drop 44).take 4 ++ ((kCs.drop 48).take 4 ++ ((kCs.drop 52).take 4 ++ ((kCs.drop 56).take 4)))))))))))))) := by decide +kernel
theorem law_bytes : k_law.all (gokB 13 code 1 false) = true := by
  refine List.all_eq_true.mpr (fun q hq => ?_)
  unfold k_law at hq
  rcases List.mem_append.mp hq with h | h
  · exact List.all_eq_true.mp lawb_h q h
  · rcases List.mem_append.mp h with h | h
    · obtain ⟨c, hc, hq⟩ := List.mem_flatMap.mp h
      rw [law_split] at hc
      simp only [List.mem_append] at hc
      rcases hc with hc | hc | hc | hc | hc | hc | hc | hc | hc | hc | hc | hc | hc | hc | hc
      · exact List.all_eq_true.mp (List.all_eq_true.mp lawb_0 c hc) q hq
      · exact List.all_eq_true.mp (List.all_eq_true.mp lawb_1 c hc) q hq
      · exact List.all_eq_true.mp (List.all_eq_true.mp lawb_2 c hc) q hq
      · exact List.all_eq_true.mp (List.all_eq_true.mp lawb_3 c hc) q hq
      · exact List.all_eq_true.mp (List.all_eq_true.mp lawb_4 c hc) q hq
      · exact List.all_eq_true.mp (List.all_eq_true.mp lawb_5 c hc) q hq
      · exact List.all_eq_true.mp (List.all_eq_true.mp lawb_6 c hc) q hq
      · exact List.all_eq_true.mp (List.all_eq_true.mp lawb_7 c hc) q hq
      · exact List.all_eq_true.mp (List.all_eq_true.mp lawb_8 c hc) q hq
      · exact List.all_eq_true.mp (List.all_eq_true.mp lawb_9 c hc) q hq
      · exact List.all_eq_true.mp (List.all_eq_true.mp lawb_10 c hc) q hq
      · exact List.all_eq_true.mp (List.all_eq_true.mp lawb_11 c hc) q hq
      · exact List.all_eq_true.mp (List.all_eq_true.mp lawb_12 c hc) q hq
      · exact List.all_eq_true.mp (List.all_eq_true.mp lawb_13 c hc) q hq
      · exact List.all_eq_true.mp (List.all_eq_true.mp lawb_14 c hc) q hq
    · exact List.all_eq_true.mp lawb_e q h
