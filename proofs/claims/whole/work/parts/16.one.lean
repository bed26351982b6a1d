section GOne
variable {p : Program} {l : Launch} {e : Env} {R : Room} {s : State} {mi : MethodId} {args : Array Value} {below : List Frame} {meth : Method} {c : Code} {Q : State → Prop} {E : gE} {cc : ByteArray} {o cells slots cells' slots' pc pc' : Nat} {ls st ls' st' : List gV} {m m' : gMem}
set_option maxHeartbeats 8000000 in
set_option maxRecDepth 4000 in
theorem gs_all (hMul : gMultiLaw) (cx : gCx p s mi args c E cc o) (hml : c.maxLocals = ls.length) (hf1 : 1 ≤ R.frames) (hf2 : 60 ≤ R.locals) {raw op : Instr} {len rt : Nat} {ini : Bool} (hd : decode cc pc = .ok (raw, len)) (hlen : glen raw = 0 ∨ glen raw = len) (hn : gnorm o pc rt ini raw = some op) (hini : ini = true → meth.name = "<init>") (hst : gstep op (pc + len) ls st m = some (pc', ls', st', m')) (hc : cells + m'.1.length = cells' + m.1.length) (hs : slots + gslots m'.1 = slots' + gslots m.1) (hcR : cells' ≤ R.cells) (hsR : slots' ≤ R.slots) (kk : gW p l e R s mi args below meth c Q E cells' slots' pc' ls' st' m') : gW p l e R s mi args below meth c Q E cells slots pc ls st m := by
  have ho := gnorm_opr hn
  have cx0 := cx
  obtain ⟨hx, hb, hown, hts, hK⟩ := cx
  have hst0 := hst
  unfold gnorm at hn
  split at hn
  · next x =>
    obtain rfl : _ = len := hlen.resolve_left (by simp [glen])
    split at hn
    · next hq =>
      cases hn
      simp only [gstep] at hst
      cases hst
      obtain rfl : cells' = cells := by omega
      obtain rfl : slots' = slots := by omega
      exact gs_p (fun h => gstep_st ho h hst0) (fun H locs Ls hF k => lv_iconst hx hb hd rfl k) kk
    · cases hn
  · next x =>
    obtain rfl : _ = len := hlen.resolve_left (by simp [glen])
    split at hn
    · next hq =>
      cases hn
      simp only [gstep] at hst
      cases hst
      obtain rfl : cells' = cells := by omega
      obtain rfl : slots' = slots := by omega
      exact gs_p (fun h => gstep_st ho h hst0) (fun H locs Ls hF k => lv_bipush hx hb hd (o32_bipush hq.1 hq.2) k) kk
    · cases hn
  · next x =>
    obtain rfl : _ = len := hlen.resolve_left (by simp [glen])
    split at hn
    · next hq =>
      cases hn
      simp only [gstep] at hst
      cases hst
      obtain rfl : cells' = cells := by omega
      obtain rfl : slots' = slots := by omega
      exact gs_p (fun h => gstep_st ho h hst0) (fun H locs Ls hF k => lv_sipush hx hb hd (o32_sipush hq.1 hq.2) k) kk
    · cases hn
  · next n =>
    obtain rfl : _ = len := hlen.resolve_left (by simp [glen])
    cases hn
    simp only [gstep] at hst
    cases hst
    obtain rfl : cells' = cells := by omega
    obtain rfl : slots' = slots := by omega
    exact gs_p (fun h => gstep_st ho h hst0) (fun H locs Ls hF k => lv_lconst hx hb hd (Int64.ofInt_eq_ofNat).symm k) kk
  · next i =>
    obtain rfl : _ = len := hlen.resolve_left (by simp [glen])
    split at hn
    · next x hq =>
      cases hn
      simp only [gstep] at hst
      cases hst
      obtain rfl : cells' = cells := by omega
      obtain rfl : slots' = slots := by omega
      exact gs_p (fun h => gstep_st ho h hst0) (fun H locs Ls hF k => lv_ldc hx hb hown (hts _ (gKl_ok _ (gfnd_mem _ _ _ _ hq)).2) hd k) kk
    · next hq =>
      cases hz : gfnd gSl o i with
      | none => rw [hz] at hn; cases hn
      | some k =>
        rw [hz] at hn
        cases hn
        simp only [gstep] at hst
        cases hst
        obtain rfl : cells' = cells := by omega
        obtain rfl : slots' = slots := by omega
        exact gs_ldcS cx0 hz hd kk
  · next i =>
    obtain rfl : _ = len := hlen.resolve_left (by simp [glen])
    cases hz : gfnd gKl o i with
    | none => rw [hz] at hn; cases hn
    | some x =>
      rw [hz] at hn
      cases hn
      simp only [gstep] at hst
      cases hst
      obtain rfl : cells' = cells := by omega
      obtain rfl : slots' = slots := by omega
      exact gs_p (fun h => gstep_st ho h hst0) (fun H locs Ls hF k => lv_ldcw hx hb hown (hts _ (gKl_ok _ (gfnd_mem _ _ _ _ hz)).2) hd k) kk
  · next i =>
    obtain rfl : _ = len := hlen.resolve_left (by simp [glen])
    cases hz : gfnd gJl o i with
    | none => rw [hz] at hn; cases hn
    | some x =>
      rw [hz] at hn
      cases hn
      simp only [gstep] at hst
      cases hst
      obtain rfl : cells' = cells := by omega
      obtain rfl : slots' = slots := by omega
      exact gs_p (fun h => gstep_st ho h hst0) (fun H locs Ls hF k => lv_ldc2 hx hb hown (hts _ (gJl_ok _ (gfnd_mem _ _ _ _ hz)).2) hd k) kk
  · next i =>
    obtain rfl : _ = len := hlen.resolve_left (by simp [glen])
    cases hn
    simp only [gstep] at hst
    split at hst
    · next y hy =>
      cases hst
      obtain rfl : cells' = cells := by omega
      obtain rfl : slots' = slots := by omega
      exact gs_p (fun h => gstep_st ho h hst0) (fun H locs Ls hF k => lv_iload hx hb hd (hF.2.2.1.2.2 _ _ hy (by intro z; cases z)) k) kk
    · cases hst
  · next i =>
    obtain rfl : _ = len := hlen.resolve_left (by simp [glen])
    cases hn
    simp only [gstep] at hst
    split at hst
    · next y hy =>
      cases hst
      obtain rfl : cells' = cells := by omega
      obtain rfl : slots' = slots := by omega
      exact gs_p (fun h => gstep_st ho h hst0) (fun H locs Ls hF k => lv_iload_n hx hb hd rfl (hF.2.2.1.2.2 _ _ hy (by intro z; cases z)) k) kk
    · cases hst
  · next i =>
    obtain rfl : _ = len := hlen.resolve_left (by simp [glen])
    cases hn
    simp only [gstep] at hst
    split at hst
    · next y hy =>
      cases hst
      obtain rfl : cells' = cells := by omega
      obtain rfl : slots' = slots := by omega
      exact gs_p (fun h => gstep_st ho h hst0) (fun H locs Ls hF k => lv_lload hx hb hd (hF.2.2.1.2.2 _ _ hy (by intro z; cases z)) k) kk
    · cases hst
  · next i =>
    obtain rfl : _ = len := hlen.resolve_left (by simp [glen])
    cases hn
    simp only [gstep] at hst
    split at hst
    · next y hy =>
      cases hst
      obtain rfl : cells' = cells := by omega
      obtain rfl : slots' = slots := by omega
      exact gs_p (fun h => gstep_st ho h hst0) (fun H locs Ls hF k => lv_lload_n hx hb hd rfl (hF.2.2.1.2.2 _ _ hy (by intro z; cases z)) k) kk
    · cases hst
  · next i =>
    obtain rfl : _ = len := hlen.resolve_left (by simp [glen])
    cases hn
    simp only [gstep] at hst
    split at hst
    · next y hy =>
      cases hst
      obtain rfl : cells' = cells := by omega
      obtain rfl : slots' = slots := by omega
      exact gs_p (fun h => gstep_st ho h hst0) (fun H locs Ls hF k => lv_aload hx hb hd (hF.2.2.1.2.2 _ _ hy (by intro z; cases z)) k) kk
    · cases hst
  · next i =>
    obtain rfl : _ = len := hlen.resolve_left (by simp [glen])
    cases hn
    simp only [gstep] at hst
    split at hst
    · next y hy =>
      cases hst
      obtain rfl : cells' = cells := by omega
      obtain rfl : slots' = slots := by omega
      exact gs_p (fun h => gstep_st ho h hst0) (fun H locs Ls hF k => lv_aload_n hx hb hd rfl (hF.2.2.1.2.2 _ _ hy (by intro z; cases z)) k) kk
    · cases hst
  · next i =>
    obtain rfl : _ = len := hlen.resolve_left (by simp [glen])
    cases hn
    simp only [gstep] at hst
    split at hst
    · next y r =>
      split at hst
      · next hi =>
        cases hst
        obtain rfl : cells' = cells := by omega
        obtain rfl : slots' = slots := by omega
        intro H locs Ls hF
        exact gs_store cx0 hi (show gvr (Sum.inl y) from vr_h hF.2.2.2.2.1) (fun H locs Ls h k => lv_istore hx hb hd h hi rfl k) (fun z hz => List.mem_cons_of_mem _ hz) kk H locs Ls hF
      · cases hst
    · cases hst
  · next i =>
    obtain rfl : _ = len := hlen.resolve_left (by simp [glen])
    cases hn
    simp only [gstep] at hst
    split at hst
    · next y r =>
      split at hst
      · next hi =>
        cases hst
        obtain rfl : cells' = cells := by omega
        obtain rfl : slots' = slots := by omega
        intro H locs Ls hF
        exact gs_store cx0 hi (show gvr (Sum.inl y) from vr_h hF.2.2.2.2.1) (fun H locs Ls h k => lv_istore_n hx hb hd rfl h hi rfl k) (fun z hz => List.mem_cons_of_mem _ hz) kk H locs Ls hF
      · cases hst
    · cases hst
  · next i =>
    obtain rfl : _ = len := hlen.resolve_left (by simp [glen])
    cases hn
    simp only [gstep] at hst
    split at hst
    · next y r =>
      split at hst
      · next hi =>
        cases hst
        obtain rfl : cells' = cells := by omega
        obtain rfl : slots' = slots := by omega
        intro H locs Ls hF
        refine lv_lstore hx hb hd (glv_has hF.2.2.1) hi rfl (fun Ls' h => ?_)
        exact kk H locs Ls' ⟨hF.1, hF.2.1, gset2_to (gKO hK) hi h, gstep_st ho hF.2.2.2 hst0⟩
      · cases hst
    · cases hst
  · next i =>
    obtain rfl : _ = len := hlen.resolve_left (by simp [glen])
    cases hn
    simp only [gstep] at hst
    split at hst
    · next y r =>
      split at hst
      · next hi =>
        cases hst
        obtain rfl : cells' = cells := by omega
        obtain rfl : slots' = slots := by omega
        intro H locs Ls hF
        refine lv_lstore_n hx hb hd rfl (glv_has hF.2.2.1) hi rfl (fun Ls' h => ?_)
        exact kk H locs Ls' ⟨hF.1, hF.2.1, gset2_to (gKO hK) hi h, gstep_st ho hF.2.2.2 hst0⟩
      · cases hst
    · cases hst
  · next i =>
    obtain rfl : _ = len := hlen.resolve_left (by simp [glen])
    cases hn
    simp only [gstep] at hst
    split at hst
    · next y r =>
      split at hst
      · next hi =>
        cases hst
        obtain rfl : cells' = cells := by omega
        obtain rfl : slots' = slots := by omega
        intro H locs Ls hF
        exact gs_store cx0 hi (show gvr (Sum.inr (Sum.inr (Sum.inl y))) from vr_h hF.2.2.2.2.1) (fun H locs Ls h k => lv_astore hx hb hd h hi rfl k) (fun z hz => List.mem_cons_of_mem _ hz) kk H locs Ls hF
      · cases hst
    · cases hst
  · next i =>
    obtain rfl : _ = len := hlen.resolve_left (by simp [glen])
    cases hn
    simp only [gstep] at hst
    split at hst
    · next y r =>
      split at hst
      · next hi =>
        cases hst
        obtain rfl : cells' = cells := by omega
        obtain rfl : slots' = slots := by omega
        intro H locs Ls hF
        exact gs_store cx0 hi (show gvr (Sum.inr (Sum.inr (Sum.inl y))) from vr_h hF.2.2.2.2.1) (fun H locs Ls h k => lv_astore_n hx hb hd rfl h hi rfl k) (fun z hz => List.mem_cons_of_mem _ hz) kk H locs Ls hF
      · cases hst
    · cases hst
  · next i k =>
    obtain rfl : _ = len := hlen.resolve_left (by simp [glen])
    split at hn
    · next hq =>
      cases hn
      simp only [gstep] at hst
      split at hst
      · next y hy =>
        cases hst
        obtain rfl : cells' = cells := by omega
        obtain rfl : slots' = slots := by omega
        intro H locs Ls hF
        have hi : i < ls.length := (List.getElem?_eq_some_iff.mp hy).1
        have hyr : gr32 y := vr_at hF.2.2.2.1 hy
        have hkr : gr32 k := by unfold gr32; omega
        have hin := glv_in (E := E) hy (by intro z; cases z)
        obtain ⟨kp, hkp⟩ := List.getElem?_of_mem hin
        refine lv_iinc hx hb hd (glv_has hF.2.2.1) hkp (o32_add hyr hkr) hi rfl (fun Ls' h => ?_)
        exact kk H locs Ls' ⟨hF.1, hF.2.1, gset_to (v := Sum.inl (w32 (y + k))) (gKO hK) hi h, gstep_st ho hF.2.2.2 hst0⟩
      · cases hst
    · cases hn
  · obtain rfl : _ = len := hlen.resolve_left (by simp [glen])
    cases hn
    simp only [gstep] at hst
    have hm : m' = m := by
      unfold gbin at hst
      split at hst <;> cases hst
      rfl
    subst hm
    obtain rfl : cells' = cells := by omega
    obtain rfl : slots' = slots := by omega
    exact (gs_bin (fun _ _ _ _ => w32_r _) (fun a b ha hb2 H locs Ls rest k => lv_iadd hx hb hd (by rw [o32_add ha hb2]; exact k)) hst kk).2
  · obtain rfl : _ = len := hlen.resolve_left (by simp [glen])
    cases hn
    simp only [gstep] at hst
    have hm : m' = m := by
      unfold gbin at hst
      split at hst <;> cases hst
      rfl
    subst hm
    obtain rfl : cells' = cells := by omega
    obtain rfl : slots' = slots := by omega
    exact (gs_bin (fun _ _ _ _ => w32_r _) (fun a b ha hb2 H locs Ls rest k => lv_isub hx hb hd (by rw [o32_sub ha hb2]; exact k)) hst kk).2
  · obtain rfl : _ = len := hlen.resolve_left (by simp [glen])
    cases hn
    simp only [gstep] at hst
    have hm : m' = m := by
      unfold gbin at hst
      split at hst <;> cases hst
      rfl
    subst hm
    obtain rfl : cells' = cells := by omega
    obtain rfl : slots' = slots := by omega
    exact (gs_bin (fun _ _ _ _ => w32_r _) (fun a b ha hb2 H locs Ls rest k => lv_imul hx hb hd (by rw [o32_mul ha hb2]; exact k)) hst kk).2
  · obtain rfl : _ = len := hlen.resolve_left (by simp [glen])
    cases hn
    simp only [gstep] at hst
    have hm : m' = m := by
      unfold gbin at hst
      split at hst <;> cases hst
      rfl
    subst hm
    obtain rfl : cells' = cells := by omega
    obtain rfl : slots' = slots := by omega
    exact (gs_bin (fun _ _ _ _ => t32_r _) (fun a b ha hb2 H locs Ls rest k => lv_iand hx hb hd (by rw [o32_of] at k; exact k)) hst kk).2
  · obtain rfl : _ = len := hlen.resolve_left (by simp [glen])
    cases hn
    simp only [gstep] at hst
    have hm : m' = m := by
      unfold gbin at hst
      split at hst <;> cases hst
      rfl
    subst hm
    obtain rfl : cells' = cells := by omega
    obtain rfl : slots' = slots := by omega
    exact (gs_bin (fun _ _ _ _ => t32_r _) (fun a b ha hb2 H locs Ls rest k => lv_ior hx hb hd (by rw [o32_of] at k; exact k)) hst kk).2
  · obtain rfl : _ = len := hlen.resolve_left (by simp [glen])
    cases hn
    simp only [gstep] at hst
    have hm : m' = m := by
      unfold gbin at hst
      split at hst <;> cases hst
      rfl
    subst hm
    obtain rfl : cells' = cells := by omega
    obtain rfl : slots' = slots := by omega
    exact (gs_bin (fun _ _ _ _ => t32_r _) (fun a b ha hb2 H locs Ls rest k => lv_ixor hx hb hd (by rw [o32_of] at k; exact k)) hst kk).2
  · obtain rfl : _ = len := hlen.resolve_left (by simp [glen])
    cases hn
    simp only [gstep] at hst
    have hm : m' = m := by
      unfold gbin at hst
      split at hst <;> cases hst
      rfl
    subst hm
    obtain rfl : cells' = cells := by omega
    obtain rfl : slots' = slots := by omega
    exact (gs_bin (fun _ _ _ _ => t32_r _) (fun a b ha hb2 H locs Ls rest k => lv_ishl hx hb hd (by rw [o32_of] at k; exact k)) hst kk).2
  · obtain rfl : _ = len := hlen.resolve_left (by simp [glen])
    cases hn
    simp only [gstep] at hst
    have hm : m' = m := by
      unfold gbin at hst
      split at hst <;> cases hst
      rfl
    subst hm
    obtain rfl : cells' = cells := by omega
    obtain rfl : slots' = slots := by omega
    exact (gs_bin (fun _ _ _ _ => t32_r _) (fun a b ha hb2 H locs Ls rest k => lv_ishr hx hb hd (by rw [o32_of] at k; exact k)) hst kk).2
  · obtain rfl : _ = len := hlen.resolve_left (by simp [glen])
    cases hn
    simp only [gstep] at hst
    have hm : m' = m := by
      unfold gbin at hst
      split at hst <;> cases hst
      rfl
    subst hm
    obtain rfl : cells' = cells := by omega
    obtain rfl : slots' = slots := by omega
    exact (gs_bin (fun _ _ _ _ => t32_r _) (fun a b ha hb2 H locs Ls rest k => lv_iushr hx hb hd rfl (by rw [o32_of] at k; exact k)) hst kk).2
  · obtain rfl : _ = len := hlen.resolve_left (by simp [glen])
    cases hn
    simp only [gstep] at hst
    unfold gdiv at hst
    split at hst
    · next b a r =>
      split at hst
      · cases hst
      · next hb0 =>
        cases hst
        obtain rfl : cells' = cells := by omega
        obtain rfl : slots' = slots := by omega
        refine gs_p (fun h => gstep_st ho h hst0) (fun H locs Ls hF k => ?_) kk
        have rb : gr32 b := vr_h hF.2.2.2.2.1
        have ra : gr32 a := vr_h (vr_t hF.2.2.2.2.1)
        exact lv_idiv hx hb hd (fun z => hb0 ((o32_inj rb r32_0).mp z)) (by rw [o32_div ra rb]; exact k)
    · cases hst
  · obtain rfl : _ = len := hlen.resolve_left (by simp [glen])
    cases hn
    simp only [gstep] at hst
    split at hst
    · next b a r =>
      split at hst
      · next hq =>
        cases hst
        obtain rfl : cells' = cells := by omega
        obtain rfl : slots' = slots := by omega
        refine gs_p (fun h => gstep_st ho h hst0) (fun H locs Ls hF k => ?_) kk
        have rb : gr32 b := vr_h hF.2.2.2.2.1
        have ra : gr32 a := vr_h (vr_t hF.2.2.2.2.1)
        exact lv_irem hx hb hd (fun z => by have := (o32_inj rb r32_0).mp z; omega) (by rw [o32_rem ra rb hq.1 hq.2]; exact k)
      · cases hst
    · cases hst
  · obtain rfl : _ = len := hlen.resolve_left (by simp [glen])
    cases hn
    simp only [gstep] at hst
    split at hst
    · next a r =>
      cases hst
      obtain rfl : cells' = cells := by omega
      obtain rfl : slots' = slots := by omega
      refine gs_p (fun h => gstep_st ho h hst0) (fun H locs Ls hF k => ?_) kk
      have ra : gr32 a := vr_h hF.2.2.2.2.1
      exact lv_ineg hx hb hd (by rw [o32_neg ra]; exact k)
    · cases hst
  · obtain rfl : _ = len := hlen.resolve_left (by simp [glen])
    cases hn
    simp only [gstep] at hst
    split at hst
    · next a r =>
      cases hst
      obtain rfl : cells' = cells := by omega
      obtain rfl : slots' = slots := by omega
      refine gs_p (fun h => gstep_st ho h hst0) (fun H locs Ls hF k => ?_) kk
      have ra : gr32 a := vr_h hF.2.2.2.2.1
      exact lv_i2b hx hb hd (o32_i2b ra) k
    · cases hst
  · obtain rfl : _ = len := hlen.resolve_left (by simp [glen])
    cases hn
    simp only [gstep] at hst
    split at hst
    · next a r =>
      cases hst
      obtain rfl : cells' = cells := by omega
      obtain rfl : slots' = slots := by omega
      refine gs_p (fun h => gstep_st ho h hst0) (fun H locs Ls hF k => ?_) kk
      have ra : gr32 a := vr_h hF.2.2.2.2.1
      exact lv_i2c hx hb hd o32_i2c k
    · cases hst
  · obtain rfl : _ = len := hlen.resolve_left (by simp [glen])
    cases hn
    simp only [gstep] at hst
    split at hst
    · next a r =>
      cases hst
      obtain rfl : cells' = cells := by omega
      obtain rfl : slots' = slots := by omega
      refine gs_p (fun h => gstep_st ho h hst0) (fun H locs Ls hF k => ?_) kk
      have ra : gr32 a := vr_h hF.2.2.2.2.1
      exact lv_i2s hx hb hd (o32_i2s ra) k
    · cases hst
  · obtain rfl : _ = len := hlen.resolve_left (by simp [glen])
    cases hn
    simp only [gstep] at hst
    split at hst
    · next a r =>
      cases hst
      obtain rfl : cells' = cells := by omega
      obtain rfl : slots' = slots := by omega
      refine gs_p (fun h => gstep_st ho h hst0) (fun H locs Ls hF k => ?_) kk
      have ra : gr32 a := vr_h hF.2.2.2.2.1
      exact lv_i2l hx hb hd (o32_i2l ra) k
    · cases hst
  · obtain rfl : _ = len := hlen.resolve_left (by simp [glen])
    cases hn
    simp only [gstep] at hst
    split at hst
    · next a r =>
      cases hst
      obtain rfl : cells' = cells := by omega
      obtain rfl : slots' = slots := by omega
      refine gs_p (fun h => gstep_st ho h hst0) (fun H locs Ls hF k => ?_) kk
      have ra : gr64 a := vr_h hF.2.2.2.2.1
      exact lv_l2i hx hb hd (o64_l2i ra) k
    · cases hst
  · obtain rfl : _ = len := hlen.resolve_left (by simp [glen])
    cases hn
    simp only [gstep] at hst
    have hm : m' = m := by
      unfold gbinL at hst
      split at hst <;> cases hst
      rfl
    subst hm
    obtain rfl : cells' = cells := by omega
    obtain rfl : slots' = slots := by omega
    exact (gs_binL (fun _ _ _ _ => w64_r _) (fun a b ha hb2 H locs Ls rest k => lv_ladd hx hb hd (by rw [o64_add ha hb2]; exact k)) hst kk).2
  · obtain rfl : _ = len := hlen.resolve_left (by simp [glen])
    cases hn
    simp only [gstep] at hst
    have hm : m' = m := by
      unfold gbinL at hst
      split at hst <;> cases hst
      rfl
    subst hm
    obtain rfl : cells' = cells := by omega
    obtain rfl : slots' = slots := by omega
    exact (gs_binL (fun _ _ _ _ => w64_r _) (fun a b ha hb2 H locs Ls rest k => lv_lmul hx hb hd (by rw [o64_mul ha hb2]; exact k)) hst kk).2
  · obtain rfl : _ = len := hlen.resolve_left (by simp [glen])
    cases hn
    simp only [gstep] at hst
    split at hst
    · next b a r =>
      split at hst
      · cases hst
      · next hb0 =>
        cases hst
        obtain rfl : cells' = cells := by omega
        obtain rfl : slots' = slots := by omega
        refine gs_p (fun h => gstep_st ho h hst0) (fun H locs Ls hF k => ?_) kk
        have rb : gr64 b := vr_h hF.2.2.2.2.1
        have ra : gr64 a := vr_h (vr_t hF.2.2.2.2.1)
        exact lv_ldiv hx hb hd (fun z => hb0 ((o64_inj rb (by unfold gr64; omega)).mp z)) (by rw [o64_div ra rb]; exact k)
    · cases hst
  · obtain rfl : _ = len := hlen.resolve_left (by simp [glen])
    cases hn
    simp only [gstep] at hst
    split at hst
    · next b a r =>
      cases hst
      obtain rfl : cells' = cells := by omega
      obtain rfl : slots' = slots := by omega
      refine gs_p (fun h => gstep_st ho h hst0) (fun H locs Ls hF k => ?_) kk
      have rb : gr64 b := vr_h hF.2.2.2.2.1
      have ra : gr64 a := vr_h (vr_t hF.2.2.2.2.1)
      exact W.lcmp hx hb hd (by rw [o64_cmp ra rb]; exact k)
    · cases hst
  · obtain rfl : _ = len := hlen.resolve_left (by simp [glen])
    cases hn
    simp only [gstep] at hst
    split at hst
    · cases hst
      obtain rfl : cells' = cells := by omega
      obtain rfl : slots' = slots := by omega
      exact gs_p (fun h => gstep_st ho h hst0) (fun H locs Ls hF k => lv_dup hx hb hd rfl k) kk
    · cases hst
      obtain rfl : cells' = cells := by omega
      obtain rfl : slots' = slots := by omega
      exact gs_p (fun h => gstep_st ho h hst0) (fun H locs Ls hF k => lv_dup hx hb hd rfl k) kk
    · cases hst
  · obtain rfl : _ = len := hlen.resolve_left (by simp [glen])
    cases hn
    simp only [gstep] at hst
    split at hst
    · cases hst
      obtain rfl : cells' = cells := by omega
      obtain rfl : slots' = slots := by omega
      exact gs_p (fun h => gstep_st ho h hst0) (fun H locs Ls hF k => lv_pop hx hb hd rfl k) kk
    · cases hst
  · obtain rfl : _ = len := hlen.resolve_left (by simp [glen])
    cases hn
    simp only [gstep] at hst
    split at hst
    · cases hst
      obtain rfl : cells' = cells := by omega
      obtain rfl : slots' = slots := by omega
      exact gs_p (fun h => gstep_st ho h hst0) (fun H locs Ls hF k => lv_dup_x1 hx hb hd rfl rfl k) kk
    · cases hst
  · obtain rfl : _ = len := hlen.resolve_left (by simp [glen])
    cases hn
    simp only [gstep] at hst
    split at hst
    · cases hst
      obtain rfl : cells' = cells := by omega
      obtain rfl : slots' = slots := by omega
      exact gs_p (fun h => gstep_st ho h hst0) (fun H locs Ls hF k => lv_dup2_11 hx hb hd rfl rfl k) kk
    · cases hst
  · next t =>
    obtain rfl : _ = len := hlen.resolve_left (by simp [glen])
    split at hn
    · next hq =>
      cases hn
      simp only [gstep] at hst
      cases hst
      obtain rfl : cells' = cells := by omega
      obtain rfl : slots' = slots := by omega
      exact gs_p (fun h => h) (fun H locs Ls hF k => lv_goto hx hb hd (Int.toNat_of_nonneg hq).symm k) kk
    · cases hn
  · next cd t =>
    obtain rfl : _ = len := hlen.resolve_left (by simp [glen])
    split at hn
    · next hq =>
      cases hn
      simp only [gstep] at hst
      split at hst
      · cases hst
        obtain rfl : cells' = cells := by omega
        obtain rfl : slots' = slots := by omega
        exact gs_if cx0 hd hq rfl kk
      · cases hst
    · cases hn
  · next cd t =>
    obtain rfl : _ = len := hlen.resolve_left (by simp [glen])
    split at hn
    · next hq =>
      cases hn
      simp only [gstep] at hst
      split at hst
      · cases hst
        obtain rfl : cells' = cells := by omega
        obtain rfl : slots' = slots := by omega
        exact gs_icmp cx0 hd hq rfl kk
      · cases hst
    · cases hn
  · next d lo hi os =>
    split at hn
    · next hq =>
      cases hn
      simp only [gstep] at hst
      split at hst
      · next x r =>
        split at hst
        · next hout =>
          cases hst
          obtain rfl : cells' = cells := by omega
          obtain rfl : slots' = slots := by omega
          refine gs_p (fun h => gstep_st ho h hst0) (fun H locs Ls hF k => ?_) kk
          have rx : gr32 x := vr_h hF.2.2.2.2.1
          exact lv_tableOut hx hb hd (by rw [o32_t rx]; exact hout) (Int.toNat_of_nonneg hq.1).symm k
        · next hin =>
          split at hst
          · next og hog =>
            cases hst
            obtain rfl : cells' = cells := by omega
            obtain rfl : slots' = slots := by omega
            refine gs_p (fun h => gstep_st ho h hst0) (fun H locs Ls hF k => ?_) kk
            have rx : gr32 x := vr_h hF.2.2.2.2.1
            simp only [List.getElem?_map] at hog
            obtain ⟨of, hof, rfl⟩ := Option.map_eq_some_iff.mp hog
            have hnn : 0 ≤ (pc : Int) + of := by
              have := List.all_eq_true.mp hq.2 of (List.mem_of_getElem? hof)
              simpa using this
            refine lv_tableIn hx hb hd (by rw [o32_t rx]; omega) (by rw [o32_t rx]; omega) (off := of) ?_ (Int.toNat_of_nonneg hnn).symm k
            rw [o32_t rx, ← Array.getElem?_toList]
            exact hof
          · cases hst
      · cases hst
    · cases hn
  · next d ps =>
    split at hn
    · next hq =>
      cases hn
      simp only [gstep] at hst
      split at hst
      · next x r =>
        cases hst
        obtain rfl : cells' = cells := by omega
        obtain rfl : slots' = slots := by omega
        refine gs_p (fun h => gstep_st ho h hst0) (fun H locs Ls hF k => ?_) kk
        have rx : gr32 x := vr_h hF.2.2.2.2.1
        have e1 := glook_off ps.toList d x pc
        have hnn : 0 ≤ (pc : Int) + Op.lookupswitch.offset ps.toList d x := by
          rcases glook_in ps.toList d x with h | ⟨q, hqm, h⟩
          · rw [h]; exact hq.1
          · rw [h]
            have := List.all_eq_true.mp hq.2.1 q hqm
            simpa using this
        refine lv_lookup hx hb hd hq.2.2 (by rw [o32_t rx]) (Int.toNat_of_nonneg hnn).symm ?_
        rw [← e1]
        exact k
      · cases hst
    · cases hn
  · next i =>
    obtain rfl : _ = len := hlen.resolve_left (by simp [glen])
    obtain ⟨cde, hz, rfl⟩ := Option.map_eq_some_iff.mp hn
    simp only [gstep] at hst
    have hm : m' = m := by
      unfold gget at hst
      (repeat' split at hst) <;> first | (cases hst; done) | (cases hst; rfl)
    subst hm
    obtain rfl : cells' = cells := by omega
    obtain rfl : slots' = slots := by omega
    exact gs_get cx0 hd hz hst kk
  · next i =>
    obtain rfl : _ = len := hlen.resolve_left (by simp [glen])
    split at hn
    · next cde hz =>
      split at hn
      · next hq =>
        cases hn
        simp only [gstep] at hst
        have hm := gstep_grow hst0
        have hm2 : m'.1.length = m.1.length ∧ gslots m'.1 = gslots m.1 := by
          unfold gput at hst
          (repeat' split at hst) <;> first | (cases hst; done) | (cases hst; exact ⟨rfl, rfl⟩) | (cases hst; try dsimp only; refine ⟨by simp, ?_⟩; refine gslots_set _ _ _ _ (by assumption) ?_; rfl)
        rw [hm2.1] at hc
        rw [hm2.2] at hs
        obtain rfl : cells' = cells := by omega
        obtain rfl : slots' = slots := by omega
        exact gs_put cx0 (fun hf => ⟨hini (hq.2 hf).1, (hq.2 hf).2⟩) hd hz hq.1 hst kk
      · cases hn
    · cases hn
  · next i =>
    obtain rfl : _ = len := hlen.resolve_left (by simp [glen])
    split at hn
    · next hz =>
      cases hn
      simp only [gstep] at hst
      cases hst
      obtain rfl : cells' = cells := by omega
      obtain rfl : slots' = slots := by omega
      exact gs_static0 cx0 hz hd kk
    · next hz =>
      cases hn
      simp only [gstep] at hst
      cases hst
      obtain rfl : cells' = cells := by omega
      obtain rfl : slots' = slots := by omega
      exact gs_static1 cx0 hz hd kk
    · cases hn
  · split at hn
    · split at hn
      · cases hn; cases hst
      · cases hn
    · cases hn
  · next i =>
    obtain rfl : _ = len := hlen.resolve_left (by simp [glen])
    split at hn
    · split at hn
      · cases hn; cases hst
      · cases hn
    · split at hn
      · next x hz =>
        cases hn
        simp only [gstep] at hst
        split at hst
        · next hfw =>
          have hm2 : m'.1 = m.1 := by
            unfold gcopy at hst
            (repeat' split at hst) <;> first | (cases hst; done) | (cases hst; rfl)
          rw [hm2] at hc hs
          obtain rfl : cells' = cells := by omega
          obtain rfl : slots' = slots := by omega
          exact gs_copy cx0 hml hz hf1 hf2 hd hfw hst kk
        · cases hst
      · split at hn
        · next hz2 =>
          cases hn
          simp only [gstep] at hst
          split at hst
          · next hfw =>
            unfold gbin at hst
            split at hst
            · next b a r =>
              cases hst
              obtain rfl : cells' = cells := by omega
              obtain rfl : slots' = slots := by omega
              exact gs_max cx0 hml hz2 hf1 hf2 hcR hsR hd rfl hfw kk
            · cases hst
          · cases hst
        · next hz2 =>
          cases hn
          simp only [gstep] at hst
          split at hst
          · next hfw =>
            unfold gbin at hst
            split at hst
            · next b a r =>
              cases hst
              obtain rfl : cells' = cells := by omega
              obtain rfl : slots' = slots := by omega
              exact gs_min cx0 hml hz2 hf1 hf2 hcR hsR hd rfl hfw kk
            · cases hst
          · cases hst
        · next hz2 =>
          cases hn
          simp only [gstep] at hst
          split at hst
          · next hfw =>
            unfold gbinL at hst
            split at hst
            · next b a r =>
              cases hst
              obtain rfl : cells' = cells := by omega
              obtain rfl : slots' = slots := by omega
              exact gs_lmin cx0 hml hz2 hf1 hf2 hcR hsR hd rfl hfw kk
            · cases hst
          · cases hst
        · cases hn
  · next i =>
    obtain rfl : _ = len := hlen.resolve_left (by simp [glen])
    split at hn
    · split at hn
      · cases hn; cases hst
      · cases hn
    · split at hn
      · next x hz =>
        cases hn
        simp only [gstep] at hst
        split at hst
        · next k r =>
          split at hst
          · next hfw =>
            cases hst
            obtain rfl : cells' = cells := by omega
            obtain rfl : slots' = slots := by omega
            exact gs_objInit cx0 hml hz hf1 hf2 hd rfl hfw kk
          · cases hst
        · cases hst
      · cases hn
  · obtain rfl : _ = len := hlen.resolve_left (by simp [glen])
    cases hn
    simp only [gstep] at hst
    have hm2 : m'.1 = m.1 := by
      unfold gald at hst
      (repeat' split at hst) <;> first | (cases hst; done) | (cases hst; rfl)
    rw [hm2] at hc hs
    obtain rfl : cells' = cells := by omega
    obtain rfl : slots' = slots := by omega
    exact gs_iald cx0 hd hst kk
  · obtain rfl : _ = len := hlen.resolve_left (by simp [glen])
    cases hn
    simp only [gstep] at hst
    have hm2 : m'.1 = m.1 := by
      unfold gald at hst
      (repeat' split at hst) <;> first | (cases hst; done) | (cases hst; rfl)
    rw [hm2] at hc hs
    obtain rfl : cells' = cells := by omega
    obtain rfl : slots' = slots := by omega
    exact gs_bald cx0 hd hst kk
  · obtain rfl : _ = len := hlen.resolve_left (by simp [glen])
    cases hn
    simp only [gstep] at hst
    have hm2 : m'.1 = m.1 := by
      unfold galq at hst
      (repeat' split at hst) <;> first | (cases hst; done) | (cases hst; rfl)
    rw [hm2] at hc hs
    obtain rfl : cells' = cells := by omega
    obtain rfl : slots' = slots := by omega
    exact gs_aald cx0 hd hst kk
  · obtain rfl : _ = len := hlen.resolve_left (by simp [glen])
    cases hn
    simp only [gstep] at hst
    have hm2 : m'.1 = m.1 := by
      unfold gast at hst
      (repeat' split at hst) <;> first | (cases hst; done) | (cases hst; rfl)
    rw [hm2] at hc hs
    obtain rfl : cells' = cells := by omega
    obtain rfl : slots' = slots := by omega
    exact gs_iast cx0 hd hst kk
  · obtain rfl : _ = len := hlen.resolve_left (by simp [glen])
    cases hn
    simp only [gstep] at hst
    have hm2 : m'.1 = m.1 := by
      unfold gast at hst
      (repeat' split at hst) <;> first | (cases hst; done) | (cases hst; rfl)
    rw [hm2] at hc hs
    obtain rfl : cells' = cells := by omega
    obtain rfl : slots' = slots := by omega
    exact gs_bast cx0 hd hst kk
  · obtain rfl : _ = len := hlen.resolve_left (by simp [glen])
    cases hn
    simp only [gstep] at hst
    have hm2 : m'.1.length = m.1.length ∧ gslots m'.1 = gslots m.1 := by
      unfold gasq at hst
      (repeat' split at hst) <;> first | (cases hst; done) | (cases hst; try dsimp only; refine ⟨by simp, ?_⟩; refine gslots_set _ _ _ _ (by assumption) ?_; rfl)
    rw [hm2.1] at hc
    rw [hm2.2] at hs
    obtain rfl : cells' = cells := by omega
    obtain rfl : slots' = slots := by omega
    exact gs_aast cx0 hd hst kk
  · obtain rfl : _ = len := hlen.resolve_left (by simp [glen])
    cases hn
    simp only [gstep] at hst
    split at hst
    · next k r =>
      split at hst
      · next q hq =>
        split at hst
        · next hcq =>
          cases hst
          obtain rfl : cells' = cells := by omega
          obtain rfl : slots' = slots := by omega
          exact gs_alen cx0 hd rfl hq hcq kk
        · cases hst
      · cases hst
    · cases hst
  · next i =>
    obtain rfl : _ = len := hlen.resolve_left (by simp [glen])
    obtain ⟨ci, hz, rfl⟩ := Option.map_eq_some_iff.mp hn
    simp only [gstep] at hst
    cases hst
    simp only [List.length_append, List.length_cons, List.length_nil] at hc
    rw [gslots_app] at hs
    simp only [gslots] at hs
    obtain rfl : cells' = cells + 1 := by omega
    obtain rfl : slots' = slots + gfields ci := by omega
    exact gs_new cx0 hd hz hcR hsR kk
  · next t =>
    obtain rfl : _ = len := hlen.resolve_left (by simp [glen])
    split at hn
    · cases hn
      simp only [gstep] at hst
      unfold gnewa at hst
      split at hst
      · next N r =>
        split at hst
        · next hq =>
          cases hst
          simp only [List.length_append, List.length_cons, List.length_nil] at hc
          rw [gslots_app] at hs
          simp only [gslots] at hs
          obtain rfl : cells' = cells + 1 := by omega
          obtain rfl : slots' = slots + N.toNat := by omega
          exact gs_newa cx0 (Or.inl ⟨rfl, rfl⟩) rfl hq.1 hq.2 hd hcR hsR kk
        · cases hst
      · cases hst
    · cases hn
      simp only [gstep] at hst
      unfold gnewa at hst
      split at hst
      · next N r =>
        split at hst
        · next hq =>
          cases hst
          simp only [List.length_append, List.length_cons, List.length_nil] at hc
          rw [gslots_app] at hs
          simp only [gslots] at hs
          obtain rfl : cells' = cells + 1 := by omega
          obtain rfl : slots' = slots + N.toNat := by omega
          exact gs_newa cx0 (Or.inr ⟨rfl, rfl⟩) rfl hq.1 hq.2 hd hcR hsR kk
        · cases hst
      · cases hst
    · cases hn
  · next i =>
    obtain rfl : _ = len := hlen.resolve_left (by simp [glen])
    split at hn
    · next cq hz =>
      split at hn
      · next h4 =>
        subst h4
        cases hn
        simp only [gstep] at hst
        unfold gnewa at hst
        split at hst
        · next N r =>
          split at hst
          · next hq =>
            cases hst
            simp only [List.length_append, List.length_cons, List.length_nil] at hc
            rw [gslots_app] at hs
            simp only [gslots] at hs
            obtain rfl : cells' = cells + 1 := by omega
            obtain rfl : slots' = slots + N.toNat := by omega
            exact gs_anew cx0 hz rfl hq.1 hq.2 hd hcR hsR kk
          · cases hst
        · cases hst
      · cases hn
    · cases hn
  · next i kq =>
    obtain rfl : _ = len := hlen.resolve_left (by simp [glen])
    split at hn
    · next xq hz =>
      split at hn
      · next h4 =>
        subst h4
        cases hn
        simp only [gstep] at hst
        unfold gmulti at hst
        split at hst
        · next b a r =>
          split at hst
          · next hq =>
            cases hst
            simp only [List.length_append, List.length_cons, List.length_replicate] at hc
            rw [gslots_app] at hs
            simp only [gslots] at hs
            rw [gslots_rep] at hs
            dsimp only at hs
            obtain rfl : cells' = cells + (1 + a.toNat) := by omega
            obtain rfl : slots' = slots + (a.toNat + a.toNat * b.toNat) := by omega
            exact hMul cx0 hz hd rfl hq.1 hq.2.1 hq.2.2.1 hq.2.2.2 hcR hsR kk
          · cases hst
        · cases hst
      · cases hn
    · cases hn
  · split at hn <;> first | (cases hn; cases hst; done) | (cases hn; done)
  · split at hn <;> first | (cases hn; cases hst; done) | (cases hn; done)
  · split at hn <;> first | (cases hn; cases hst; done) | (cases hn; done)
  · split at hn <;> first | (cases hn; cases hst; done) | (cases hn; done)
  · cases hn
end GOne
