/-! The small machine keeps its numbers within their ranges, and its cells only grow in number. -/
def gopr : Instr → Prop
  | .sipush x => gr32 x
  | .jsr_w x => gr64 x
  | _ => True
theorem vr_c {v : gV} {r : List gV} (h : gvr v) (hr : ∀ x ∈ r, gvr x) : ∀ x ∈ v :: r, gvr x := fun x hx => by
  rcases List.mem_cons.mp hx with rfl | q
  · exact h
  · exact hr x q
theorem vr_h {v : gV} {r : List gV} (h : ∀ x ∈ v :: r, gvr x) : gvr v := h v List.mem_cons_self
theorem vr_t {v : gV} {r : List gV} (h : ∀ x ∈ v :: r, gvr x) : ∀ x ∈ r, gvr x := fun x hx => h x (List.mem_cons_of_mem _ hx)
theorem gupd_r {σ : Nat → Nat → Int} {k j : Nat} {v : Int} (h : ∀ k j, gr32 (σ k j)) (hv : gr32 v) : ∀ k' j', gr32 (gupd σ k j v k' j') := fun k' j' => by
  unfold gupd
  split
  · exact hv
  · exact h _ _
theorem gzer_r {σ : Nat → Nat → Int} {k : Nat} (h : ∀ k j, gr32 (σ k j)) : ∀ k' j', gr32 (gzer σ k k' j') := fun k' j' => by
  unfold gzer
  split
  · exact r32_0
  · exact h _ _
theorem gcpy_r {σ : Nat → Nat → Int} {k sp q dp n : Nat} (h : ∀ k j, gr32 (σ k j)) : ∀ k' j', gr32 (gcpy σ k sp q dp n k' j') := fun k' j' => by
  unfold gcpy
  split
  · exact h _ _
  · exact h _ _
theorem gbin_st {f : Int → Int → Int} {nx : Nat} {ls st : List gV} {m : gMem} {x : Nat × (List gV × (List gV × gMem))} (hf : ∀ a b, gr32 a → gr32 b → gr32 (f a b)) (hs : gSt ls st m) (h : gbin f nx ls st m = some x) : gSt x.2.1 x.2.2.1 x.2.2.2 := by
  obtain ⟨h1, h2, h3⟩ := hs
  unfold gbin at h
  split at h
  · cases h
    exact ⟨h1, vr_c (hf _ _ (vr_h (vr_t h2)) (vr_h h2)) (vr_t (vr_t h2)), h3⟩
  · cases h
theorem gbinL_st {f : Int → Int → Int} {nx : Nat} {ls st : List gV} {m : gMem} {x : Nat × (List gV × (List gV × gMem))} (hf : ∀ a b, gr64 a → gr64 b → gr64 (f a b)) (hs : gSt ls st m) (h : gbinL f nx ls st m = some x) : gSt x.2.1 x.2.2.1 x.2.2.2 := by
  obtain ⟨h1, h2, h3⟩ := hs
  unfold gbinL at h
  split at h
  · cases h
    exact ⟨h1, vr_c (hf _ _ (vr_h (vr_t h2)) (vr_h h2)) (vr_t (vr_t h2)), h3⟩
  · cases h
theorem gdiv_st {f : Int → Int → Int} {nx : Nat} {ls st : List gV} {m : gMem} {x : Nat × (List gV × (List gV × gMem))} (hs : gSt ls st m) (h : gdiv f nx ls st m = some x) : gSt x.2.1 x.2.2.1 x.2.2.2 := by
  obtain ⟨h1, h2, h3⟩ := hs
  unfold gdiv at h
  split at h
  · split at h
    · cases h
    · cases h
      exact ⟨h1, vr_c (w32_r _) (vr_t (vr_t h2)), h3⟩
  · cases h
theorem gget_st {c nx : Nat} {ls st : List gV} {m : gMem} {x : Nat × (List gV × (List gV × gMem))} (hs : gSt ls st m) (h : gget c nx ls st m = some x) : gSt x.2.1 x.2.2.1 x.2.2.2 := by
  obtain ⟨h1, h2, h3⟩ := hs
  unfold gget at h
  split at h
  · split at h
    · split at h
      · split at h
        · split at h
          · cases h
            exact ⟨h1, vr_c trivial (vr_t h2), h3⟩
          · cases h
        · cases h
          exact ⟨h1, vr_c (h3 _ _) (vr_t h2), h3⟩
      · cases h
    · cases h
  · cases h
theorem gput_st {c nx : Nat} {ls st : List gV} {m : gMem} {x : Nat × (List gV × (List gV × gMem))} (hs : gSt ls st m) (h : gput c nx ls st m = some x) : gSt x.2.1 x.2.2.1 x.2.2.2 := by
  obtain ⟨h1, h2, h3⟩ := hs
  unfold gput at h
  split at h
  · split at h
    · split at h
      · cases h
        exact ⟨h1, vr_t (vr_t h2), gupd_r h3 (vr_h h2)⟩
      · cases h
    · cases h
  · split at h
    · split at h
      · cases h
        exact ⟨h1, vr_t (vr_t h2), h3⟩
      · cases h
    · cases h
  · cases h
theorem gald_st {kd ke nx : Nat} {ls st : List gV} {m : gMem} {x : Nat × (List gV × (List gV × gMem))} (hs : gSt ls st m) (h : gald kd ke nx ls st m = some x) : gSt x.2.1 x.2.2.1 x.2.2.2 := by
  obtain ⟨h1, h2, h3⟩ := hs
  unfold gald at h
  split at h
  · split at h
    · split at h
      · cases h
        exact ⟨h1, vr_c (h3 _ _) (vr_t (vr_t h2)), h3⟩
      · cases h
    · cases h
  · cases h
theorem galq_st {nx : Nat} {ls st : List gV} {m : gMem} {x : Nat × (List gV × (List gV × gMem))} (hs : gSt ls st m) (h : galq nx ls st m = some x) : gSt x.2.1 x.2.2.1 x.2.2.2 := by
  obtain ⟨h1, h2, h3⟩ := hs
  unfold galq at h
  split at h
  · split at h
    · split at h
      · split at h
        · cases h
          exact ⟨h1, vr_c trivial (vr_t (vr_t h2)), h3⟩
        · cases h
      · cases h
    · cases h
  · cases h
theorem gast_st {kd nx : Nat} {ls st : List gV} {m : gMem} {x : Nat × (List gV × (List gV × gMem))} (hs : gSt ls st m) (h : gast kd nx ls st m = some x) : gSt x.2.1 x.2.2.1 x.2.2.2 := by
  obtain ⟨h1, h2, h3⟩ := hs
  unfold gast at h
  split at h
  · split at h
    · split at h
      · cases h
        exact ⟨h1, vr_t (vr_t (vr_t h2)), gupd_r h3 (vr_h h2)⟩
      · cases h
    · cases h
  · cases h
theorem gasq_st {nx : Nat} {ls st : List gV} {m : gMem} {x : Nat × (List gV × (List gV × gMem))} (hs : gSt ls st m) (h : gasq nx ls st m = some x) : gSt x.2.1 x.2.2.1 x.2.2.2 := by
  obtain ⟨h1, h2, h3⟩ := hs
  unfold gasq at h
  split at h
  · split at h
    · split at h
      · cases h
        exact ⟨h1, vr_t (vr_t (vr_t h2)), h3⟩
      · cases h
    · cases h
  · cases h
theorem gcopy_st {nx : Nat} {ls st : List gV} {m : gMem} {x : Nat × (List gV × (List gV × gMem))} (hs : gSt ls st m) (h : gcopy nx ls st m = some x) : gSt x.2.1 x.2.2.1 x.2.2.2 := by
  obtain ⟨h1, h2, h3⟩ := hs
  unfold gcopy at h
  split at h
  · split at h
    · split at h
      · cases h
        exact ⟨h1, vr_t (vr_t (vr_t (vr_t (vr_t h2)))), gcpy_r h3⟩
      · cases h
    · cases h
  · cases h
theorem gnewa_st {kd nx : Nat} {ls st : List gV} {m : gMem} {x : Nat × (List gV × (List gV × gMem))} (hs : gSt ls st m) (h : gnewa kd nx ls st m = some x) : gSt x.2.1 x.2.2.1 x.2.2.2 := by
  obtain ⟨h1, h2, h3⟩ := hs
  unfold gnewa at h
  split at h
  · split at h
    · cases h
      exact ⟨h1, vr_c trivial (vr_t h2), gzer_r h3⟩
    · cases h
  · cases h
theorem gmulti_st {nx : Nat} {ls st : List gV} {m : gMem} {x : Nat × (List gV × (List gV × gMem))} (hs : gSt ls st m) (h : gmulti nx ls st m = some x) : gSt x.2.1 x.2.2.1 x.2.2.2 := by
  obtain ⟨h1, h2, h3⟩ := hs
  unfold gmulti at h
  split at h
  · split at h
    · cases h
      exact ⟨h1, vr_c trivial (vr_t (vr_t h2)), gzer_r h3⟩
    · cases h
  · cases h
theorem max_r {a b : Int} (ha : gr32 a) (hb : gr32 b) : gr32 (max a b) := by unfold gr32 at *; omega
theorem min_r {a b : Int} (ha : gr32 a) (hb : gr32 b) : gr32 (min a b) := by unfold gr32 at *; omega
theorem min_r64 {a b : Int} (ha : gr64 a) (hb : gr64 b) : gr64 (min a b) := by unfold gr64 at *; omega
theorem glcmp_r (a b : Int) : gr32 (glcmp a b) := by
  unfold glcmp gr32
  split
  · omega
  · split <;> omega
theorem emod_r {a b : Int} (ha : gr32 a) (h0 : 0 ≤ a) (h1 : 0 < b) : gr32 (a % b) := by
  have h2 : 0 ≤ a % b := Int.emod_nonneg a (by omega)
  have h3 : a % b ≤ a := by
    have := Int.ediv_mul_add_emod a b
    have h4 : 0 ≤ a / b * b := Int.mul_nonneg (Int.ediv_nonneg h0 (by omega)) (by omega)
    omega
  unfold gr32 at *
  omega
theorem vr_at {ls : List gV} {i : Nat} {v : gV} (h : ∀ x ∈ ls, gvr x) (hi : ls[i]? = some v) : gvr v := h v (List.mem_of_getElem? hi)
set_option maxHeartbeats 4000000 in
theorem gstep_st {op : Instr} {nx : Nat} {ls st : List gV} {m : gMem} {x : Nat × (List gV × (List gV × gMem))} (ho : gopr op) (hs : gSt ls st m) (h : gstep op nx ls st m = some x) : gSt x.2.1 x.2.2.1 x.2.2.2 := by
  have h0 := hs
  obtain ⟨h1, h2, h3⟩ := hs
  unfold gstep at h
  split at h
  · cases h; exact ⟨h1, vr_c ho h2, h3⟩
  · cases h; exact ⟨h1, vr_c ho h2, h3⟩
  · cases h; exact ⟨h1, vr_c trivial h2, h3⟩
  · cases h; exact ⟨h1, vr_c trivial h2, h3⟩
  · split at h
    · next y hy => cases h; exact ⟨h1, vr_c (vr_at h1 hy) h2, h3⟩
    · cases h
  · split at h
    · next y hy => cases h; exact ⟨h1, vr_c (vr_at h1 hy) h2, h3⟩
    · cases h
  · split at h
    · cases h; exact ⟨h1, vr_c trivial h2, h3⟩
    · cases h
  · split at h
    · split at h
      · cases h; exact ⟨gset_vr h1 (vr_h h2), vr_t h2, h3⟩
      · cases h
    · cases h
  · split at h
    · split at h
      · cases h; exact ⟨gset_vr h1 trivial, vr_t h2, h3⟩
      · cases h
    · cases h
  · split at h
    · split at h
      · cases h; exact ⟨gset2_vr h1 (vr_h h2), vr_t h2, h3⟩
      · cases h
    · cases h
  · split at h
    · cases h; exact ⟨gset_vr h1 (w32_r _), h2, h3⟩
    · cases h
  · exact gbin_st (fun _ _ _ _ => w32_r _) h0 h
  · exact gbin_st (fun _ _ _ _ => w32_r _) h0 h
  · exact gbin_st (fun _ _ _ _ => w32_r _) h0 h
  · exact gbin_st (fun _ _ _ _ => t32_r _) h0 h
  · exact gbin_st (fun _ _ _ _ => t32_r _) h0 h
  · exact gbin_st (fun _ _ _ _ => t32_r _) h0 h
  · exact gbin_st (fun _ _ _ _ => t32_r _) h0 h
  · exact gbin_st (fun _ _ _ _ => t32_r _) h0 h
  · exact gbin_st (fun _ _ _ _ => t32_r _) h0 h
  · exact gdiv_st h0 h
  · split at h
    · split at h
      · next hq => cases h; exact ⟨h1, vr_c (emod_r (vr_h (vr_t h2)) hq.1 hq.2) (vr_t (vr_t h2)), h3⟩
      · cases h
    · cases h
  · split at h
    · exact gbin_st (fun _ _ ha hb => max_r ha hb) h0 h
    · cases h
  · split at h
    · exact gbin_st (fun _ _ ha hb => min_r ha hb) h0 h
    · cases h
  · split at h
    · exact gbinL_st (fun _ _ ha hb => min_r64 ha hb) h0 h
    · cases h
  · split at h
    · cases h; exact ⟨h1, vr_c (w32_r _) (vr_t h2), h3⟩
    · cases h
  · split at h
    · cases h; exact ⟨h1, vr_c (gi2c_r _) (vr_t h2), h3⟩
    · cases h
  · split at h
    · cases h; exact ⟨h1, vr_c (gi2b_r _) (vr_t h2), h3⟩
    · cases h
  · split at h
    · cases h; exact ⟨h1, vr_c (gi2s_r _) (vr_t h2), h3⟩
    · cases h
  · split at h
    · cases h; exact ⟨h1, vr_c (gr64_of (vr_h h2)) (vr_t h2), h3⟩
    · cases h
  · split at h
    · cases h; exact ⟨h1, vr_c (w32_r _) (vr_t h2), h3⟩
    · cases h
  · exact gbinL_st (fun _ _ _ _ => w64_r _) h0 h
  · exact gbinL_st (fun _ _ _ _ => w64_r _) h0 h
  · split at h
    · split at h
      · cases h
      · cases h; exact ⟨h1, vr_c (w64_r _) (vr_t (vr_t h2)), h3⟩
    · cases h
  · split at h
    · cases h; exact ⟨h1, vr_c (glcmp_r _ _) (vr_t (vr_t h2)), h3⟩
    · cases h
  · split at h
    · cases h; exact ⟨h1, vr_c (vr_h h2) h2, h3⟩
    · cases h; exact ⟨h1, vr_c trivial h2, h3⟩
    · cases h
  · split at h
    · cases h; exact ⟨h1, vr_t h2, h3⟩
    · cases h
  · split at h
    · cases h; exact ⟨h1, vr_c (vr_h h2) (vr_c trivial (vr_c (vr_h h2) (vr_t (vr_t h2)))), h3⟩
    · cases h
  · split at h
    · cases h; exact ⟨h1, vr_c (vr_h h2) (vr_c trivial h2), h3⟩
    · cases h
  · cases h; exact ⟨h1, h2, h3⟩
  · split at h
    · cases h; exact ⟨h1, vr_t h2, h3⟩
    · cases h
  · split at h
    · cases h; exact ⟨h1, vr_t (vr_t h2), h3⟩
    · cases h
  · split at h
    · split at h
      · cases h; exact ⟨h1, vr_t h2, h3⟩
      · split at h
        · cases h; exact ⟨h1, vr_t h2, h3⟩
        · cases h
    · cases h
  · split at h
    · cases h; exact ⟨h1, vr_t h2, h3⟩
    · cases h
  · exact gget_st h0 h
  · exact gput_st h0 h
  · exact gald_st h0 h
  · exact gald_st h0 h
  · exact galq_st h0 h
  · exact gast_st h0 h
  · exact gast_st h0 h
  · exact gasq_st h0 h
  · split at h
    · split at h
      · split at h
        · cases h; exact ⟨h1, vr_c (w32_r _) (vr_t h2), h3⟩
        · cases h
      · cases h
    · cases h
  · split at h
    · exact gcopy_st h0 h
    · cases h
  · split at h
    · split at h
      · cases h; exact ⟨h1, vr_t h2, h3⟩
      · cases h
    · cases h
  · cases h; exact ⟨h1, vr_c trivial h2, gzer_r h3⟩
  · exact gnewa_st h0 h
  · exact gnewa_st h0 h
  · exact gmulti_st h0 h
  · cases h
