/-! text: class and reference side by side: what is to be shown. -/
variable {L d : Nat} {σ σ1 : Nat → Nat → Int} {Q : Option gV → (Nat → Nat → Int) → Prop} {a0 a1 a2 a3 a4 a5 a6 a7 a8 a9 a10 a11 s0 s1 s2 s3 s4 s5 s6 s7 s8 s9 : Int} {l0 l1 l2 l3 l4 l5 l6 l7 l8 l9 l10 l11 t0 t1 t2 t3 t4 t5 t6 t7 t8 t9 : gV} {b0 b1 b2 b3 b4 b5 b6 b7 b8 b9 b10 b11 c0 c1 c2 c3 c4 c5 c6 c7 c8 c9 : Nat} {r : Option gV}
/-- a pile in order: N steps leave D values -/
def Vp (key : Int) (pw pv : Nat → Int) (N : Nat) (D : Int) : Prop := (∀ k, k < N → (pw k = 0 ∧ 0 ≤ pv k ∧ pv k ≤ 9999 ∨ pw k = 1 ∧ (gnm key (pv k)).isSome = true ∨ pw k = 2 ∧ gsgn (pv k)) ∧ (pw k = 2 → pv k = 33 → 1 ≤ gdep pw pv k) ∧ (pw k = 2 → pv k ≠ 33 → 2 ≤ gdep pw pv k)) ∧ gdep pw pv N = D
theorem gdep_fu {pw pv : Nat → Int} {N : Nat} {x y : Int} (k : Nat) (h : k ≤ N) : gdep (fu pw N x) (fu pv N y) k = gdep pw pv k := gdep_congr k (fun i hi => ⟨fu_ne (by omega), fu_ne (by omega)⟩)
theorem Vp_one {key : Int} {pw pv : Nat → Int} {N : Nat} {D x y : Int} (h : Vp key pw pv N D) (h1 : x = 0 ∧ 0 ≤ y ∧ y ≤ 9999 ∨ x = 1 ∧ (gnm key y).isSome = true ∨ x = 2 ∧ gsgn y) (h2 : x = 2 → y = 33 → 1 ≤ D) (h3 : x = 2 → y ≠ 33 → 2 ≤ D) : Vp key (fu pw N x) (fu pv N y) (N + 1) (D + (if x = 2 then (if y = 33 then 0 else -1) else 1)) := by
  obtain ⟨g, hD⟩ := h
  refine ⟨fun k hk => ?_, ?_⟩
  · by_cases z : k = N
    · subst z
      rw [fu_eq, fu_eq, gdep_fu _ (by omega), hD]
      exact ⟨h1, h2, h3⟩
    · rw [fu_ne z, fu_ne z, gdep_fu _ (by omega)]
      exact g k (by omega)
  · show gdep (fu pw N x) (fu pv N y) N + (if fu pw N x N = 2 then (if fu pv N y N = 33 then 0 else -1) else 1) = _
    rw [fu_eq, fu_eq, gdep_fu _ (by omega), hD]
theorem Vp_leaf {key : Int} {pw pv : Nat → Int} {N : Nat} {D x y : Int} (h : Vp key pw pv N D) (h1 : x = 0 ∧ 0 ≤ y ∧ y ≤ 9999 ∨ x = 1 ∧ (gnm key y).isSome = true) : Vp key (fu pw N x) (fu pv N y) (N + 1) (D + 1) := by
  have hx : x ≠ 2 := by rcases h1 with z | z <;> omega
  have v := Vp_one h (by rcases h1 with z | z; exact Or.inl z; exact Or.inr (Or.inl z)) (fun z => absurd z hx) (fun z => absurd z hx)
  rw [if_neg hx] at v
  exact v
theorem Vp_not {key : Int} {pw pv : Nat → Int} {N : Nat} {D : Int} (h : Vp key pw pv N D) (h1 : 1 ≤ D) : Vp key (fu pw N 2) (fu pv N 33) (N + 1) D := by
  have v := Vp_one (x := 2) (y := 33) h (Or.inr (Or.inr ⟨rfl, Or.inl rfl⟩)) (fun _ _ => h1) (fun _ z => absurd rfl z)
  rw [if_pos rfl, if_pos rfl, Int.add_zero] at v
  exact v
theorem Vp_bin {key : Int} {pw pv : Nat → Int} {N : Nat} {D c : Int} (h : Vp key pw pv N (D + 1)) (h1 : 1 ≤ D) (hc : gsgn c) (h33 : c ≠ 33) : Vp key (fu pw N 2) (fu pv N c) (N + 1) D := by
  have v := Vp_one (x := 2) (y := c) h (Or.inr (Or.inr ⟨rfl, hc⟩)) (fun _ z => absurd z h33) (fun _ _ => by omega)
  rw [if_pos rfl, if_neg h33, show D + 1 + -1 = D by omega] at v
  exact v
theorem gsl_s {l : Nat} {c : Int} (hl : l < 5) (h : gsl l c) : gsgn c ∧ c ≠ 33 ∧ 0 ≤ c ∧ c ≤ 255 := by
  unfold gsgn
  match l, hl with
  | 0, _ => have := gsl_0.1 h; omega
  | 1, _ => have := gsl_1.1 h; omega
  | 2, _ => have := gsl_2.1 h; omega
  | 3, _ => have := gsl_3.1 h; omega
  | 4, _ => have := gsl_4.1 h; omega
def jcS (b : Nat → Int) (n : Nat) (key : Int) (y : Nat) (as : List gV) (H e : Nat) (w : Int) (N lv : Nat) (pw pv : Nat → Int) (e' : Nat) (w' : Int) (N' lv' : Nat) (pw' pv' : Nat → Int) : Prop := ∀ (L D : Nat) (σ : gMm), H ≤ D → PVc b n key e w N lv pw pv σ → ∃ σ', Run L D y (vR 279 :: as) σ (some (vI 1)) σ' ∧ PVc b n key e' w' N' lv' pw' pv' σ' ∧ Agr σ σ' (fun k j => k = 279 ∧ 2 ≤ j ∧ j ≤ 7 ∨ k = 281)
def jcF (b : Nat → Int) (n : Nat) (key : Int) (y : Nat) (as : List gV) (H e : Nat) (w : Int) (N lv : Nat) (pw pv : Nat → Int) (s : Nat) : Prop := ∀ (L D : Nat) (σ : gMm), H ≤ D → PVc b n key e w N lv pw pv σ → ∃ σ', Run L D y (vR 279 :: as) σ (some (vI 0)) σ' ∧ PFc s σ' ∧ Agr σ σ' (fun k j => k = 279 ∧ 2 ≤ j ∧ j ≤ 7 ∨ k = 281)
def jrS (b : Nat → Int) (n : Nat) (key : Int) (B y H o t e : Nat) (w : Int) (N lv : Nat) (pw pv : Nat → Int) (e' : Nat) (w' : Int) (N' lv' : Nat) (pw' pv' : Nat → Int) : Prop := ∀ (L D : Nat) (σ : gMm), H ≤ D → PVr b n B o t e w N lv pw pv σ → ∃ σ', Run L D y [vR 293, vI key] σ (some (vI 1)) σ' ∧ PVr b n B o t e' w' N' lv' pw' pv' σ' ∧ Agr σ σ' (fun k j => k = 293 ∧ 10 ≤ j ∧ j ≤ 19 ∨ k = 294 ∧ B ≤ j ∧ j < B + 192)
def jrF (b : Nat → Int) (n : Nat) (key : Int) (B y H o t e : Nat) (w : Int) (N lv : Nat) (pw pv : Nat → Int) (s : Nat) : Prop := ∀ (L D : Nat) (σ : gMm), H ≤ D → PVr b n B o t e w N lv pw pv σ → ∃ σ', Run L D y [vR 293, vI key] σ (some (vI 0)) σ' ∧ σ' 293 10 = (s : Int) ∧ Agr σ σ' (fun k j => k = 293 ∧ 10 ≤ j ∧ j ≤ 19 ∨ k = 294 ∧ B ≤ j ∧ j < B + 192)
def jP (b : Nat → Int) (n : Nat) (key : Int) (e N : Nat) (D : Int) (e' N' lv' : Nat) (pw' pv' : Nat → Int) : Prop := (e ≤ e' ∧ e' ≤ n) ∧ gts b n e ≤ gts b n e' ∧ N' + gts b n e ≤ N + gts b n e' ∧ lv' ≤ N' ∧ Vp key pw' pv' N' D
/-- class and reference read alike from the token at (e, w) on: both to the same place with the same steps, or both fail at the same place -/
def jJ (b : Nat → Int) (n : Nat) (key : Int) (B yc : Nat) (as : List gV) (Hc ym Hm o t e : Nat) : Prop := ∀ (w : Int) (N lv : Nat) (pw pv : Nat → Int) (D : Int), N ≤ gts b n e → lv ≤ N → 0 ≤ D → Vp key pw pv N D →
  (∃ (e' : Nat) (w' : Int) (N' lv' : Nat) (pw' pv' : Nat → Int), jP b n key e N (D + 1) e' N' lv' pw' pv' ∧ jcS b n key yc as Hc e w N lv pw pv e' w' N' lv' pw' pv' ∧ jrS b n key B ym Hm o t e w N lv pw pv e' w' N' lv' pw' pv') ∨
  (∃ s : Nat, jcF b n key yc as Hc e w N lv pw pv s ∧ jrF b n key B ym Hm o t e w N lv pw pv s)
def jPart (b : Nat → Int) (n : Nat) (key : Int) (B o t e : Nat) : Prop := jJ b n key B 163 [vI (o : Int), vI (t : Int)] (7 * (8 - o) + (8 - t) + 10) 252 (6 * (8 - o) + (8 - t) + 10) o t e
def jLev (b : Nat → Int) (n : Nat) (key : Int) (B l o t e : Nat) : Prop := jJ b n key B 162 [vI (l : Int), vI (o : Int), vI (t : Int)] (7 * (8 - o) + (8 - t) + 16 - l) (247 + l) (6 * (8 - o) + (8 - t) + 15 - l) o t e
theorem TKr_upd {b : Nat → Int} {n e j : Nat} {w v : Int} (h : TKr b n e w σ) (hj : 15 ≤ j) : TKr b n e w (gupd σ 293 j v) := by
  obtain ⟨t1, t2, t3, t4, t5, t6, t7, t8⟩ := h
  refine ⟨?_, fun i hi => ?_, ?_, ?_, ?_, ?_, ?_, ?_⟩
  · rw [gupd_ne (by omega)]; exact t1
  · rw [gupd_ne (by omega)]; exact t2 i hi
  · rw [gupd_ne (by omega)]; exact t3
  · rw [gupd_ne (by omega)]; exact t4
  · rw [gupd_ne (by omega)]; exact t5
  · rw [gupd_ne (by omega)]; exact t6
  · rw [gupd_ne (by omega)]; exact t7
  · rw [gupd_ne (by omega)]; exact t8
theorem pv_set15 {b : Nat → Int} {n B o t e N lv x' : Nat} {w v : Int} {pw pv : Nat → Int} (hv : v = (x' : Int)) (h : PVr b n B o t e w N lv pw pv σ) : PVr b n B x' t e w N lv pw pv (gupd σ 293 15 v) ∧ Agr σ (gupd σ 293 15 v) (fun k j => k = 293 ∧ 10 ≤ j ∧ j ≤ 19 ∨ k = 294 ∧ B ≤ j ∧ j < B + 192) := by
  obtain ⟨h1, h2, h3, h4, h5, h6, h7⟩ := h
  refine ⟨⟨TKr_upd h1 (by omega), ?_, ?_, ?_, ?_, ?_, fun k hk => ?_⟩, Agr_upd (Agr_refl _ _) (by omega)⟩
  · rw [gupd_eq]; exact hv
  · rw [gupd_ne (by omega)]; exact h3
  · rw [gupd_ne (by omega)]; exact h4
  · rw [gupd_ne (by omega)]; exact h5
  · rw [gupd_ne (by omega)]; exact h6
  · rw [gupd_ne (by omega), gupd_ne (by omega)]; exact h7 k hk
theorem pv_set16 {b : Nat → Int} {n B o t e N lv x' : Nat} {w v : Int} {pw pv : Nat → Int} (hv : v = (x' : Int)) (h : PVr b n B o t e w N lv pw pv σ) : PVr b n B o x' e w N lv pw pv (gupd σ 293 16 v) ∧ Agr σ (gupd σ 293 16 v) (fun k j => k = 293 ∧ 10 ≤ j ∧ j ≤ 19 ∨ k = 294 ∧ B ≤ j ∧ j < B + 192) := by
  obtain ⟨h1, h2, h3, h4, h5, h6, h7⟩ := h
  refine ⟨⟨TKr_upd h1 (by omega), ?_, ?_, ?_, ?_, ?_, fun k hk => ?_⟩, Agr_upd (Agr_refl _ _) (by omega)⟩
  · rw [gupd_ne (by omega)]; exact h2
  · rw [gupd_eq]; exact hv
  · rw [gupd_ne (by omega)]; exact h4
  · rw [gupd_ne (by omega)]; exact h5
  · rw [gupd_ne (by omega)]; exact h6
  · rw [gupd_ne (by omega), gupd_ne (by omega)]; exact h7 k hk
theorem pv_set19 {b : Nat → Int} {n B o t e N lv x' : Nat} {w v : Int} {pw pv : Nat → Int} (hv : v = (x' : Int)) (h : PVr b n B o t e w N lv pw pv σ) : PVr b n B o t e w N x' pw pv (gupd σ 293 19 v) ∧ Agr σ (gupd σ 293 19 v) (fun k j => k = 293 ∧ 10 ≤ j ∧ j ≤ 19 ∨ k = 294 ∧ B ≤ j ∧ j < B + 192) := by
  obtain ⟨h1, h2, h3, h4, h5, h6, h7⟩ := h
  refine ⟨⟨TKr_upd h1 (by omega), ?_, ?_, ?_, ?_, ?_, fun k hk => ?_⟩, Agr_upd (Agr_refl _ _) (by omega)⟩
  · rw [gupd_ne (by omega)]; exact h2
  · rw [gupd_ne (by omega)]; exact h3
  · rw [gupd_ne (by omega)]; exact h4
  · rw [gupd_ne (by omega)]; exact h5
  · rw [gupd_eq]; exact hv
  · rw [gupd_ne (by omega), gupd_ne (by omega)]; exact h7 k hk
theorem pv_set7 {b : Nat → Int} {n e N lv x' : Nat} {key w v : Int} {pw pv : Nat → Int} (hv : v = (x' : Int)) (h : PVc b n key e w N lv pw pv σ) : PVc b n key e w N x' pw pv (gupd σ 279 7 v) ∧ Agr σ (gupd σ 279 7 v) (fun k j => k = 279 ∧ 2 ≤ j ∧ j ≤ 7 ∨ k = 281) := by
  obtain ⟨⟨t1, t2, t3, t4, t5⟩, h2, h3, h4, h5, h6⟩ := h
  have hA : Agr σ (gupd σ 279 7 v) (fun k j => k = 279 ∧ 2 ≤ j ∧ j ≤ 7 ∨ k = 281) := Agr_upd (Agr_refl _ _) (by omega)
  refine ⟨⟨⟨?_, fun i hi => ?_, ?_, ?_, ?_⟩, ?_, ?_, ?_, fun k hk => ?_, Agr_tx hA (fun k j hk => by omega) h6⟩, hA⟩
  · rw [gupd_ne (by omega)]; exact t1
  · rw [gupd_ne (by omega)]; exact t2 i hi
  · rw [gupd_ne (by omega)]; exact t3
  · rw [gupd_ne (by omega)]; exact t4
  · rw [gupd_ne (by omega)]; exact t5
  · rw [gupd_ne (by omega)]; exact h2
  · rw [gupd_eq]; exact hv
  · rw [gupd_ne (by omega)]; exact h4
  · rw [gupd_ne (by omega)]; exact h5 k hk
