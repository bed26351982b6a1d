/-! The cells behind the two constructors (by program, wip/whole/gen20.py), and the rules of the small machine over them: only numbers change. -/
def gSHn : List gCell := [(0, 9, [some 28, some 29, some 129, some 230, some 279, some 282, some 292, none, none]), (5, 9, [some 29, some 78, some 97, some 99, some 109, some 123, some 125, none, none]), (1, 14, [some 30, some 31, some 32, some 33, some 34, some 35, some 36, some 37, none, none, none, none, none, none]), (100, 12, []), (100, 12, []), (101, 12, []), (102, 40, [some 38, some 39, some 40, some 41, some 42, some 43, some 44, some 45, some 46, some 47, some 48, some 49, some 50, some 51, some 52, some 53, some 54, some 55, some 56, some 57, some 58, some 59, some 60, some 61, some 62, some 63, some 64, some 65, some 66, some 67, some 68, some 69, some 70, some 71, some 72, some 73, some 74, some 75, some 76, some 77]), (100, 13, []), (100, 13, []), (100, 13, []), (100, 13, []), (4, 12, [none, none, none, none, none, none, none, none, none, none, none, none]), (4, 12, [none, none, none, none, none, none, none, none, none, none, none, none]), (4, 12, [none, none, none, none, none, none, none, none, none, none, none, none]), (4, 12, [none, none, none, none, none, none, none, none, none, none, none, none]), (4, 12, [none, none, none, none, none, none, none, none, none, none, none, none]), (4, 12, [none, none, none, none, none, none, none, none, none, none, none, none]), (4, 12, [none, none, none, none, none, none, none, none, none, none, none, none]), (4, 12, [none, none, none, none, none, none, none, none, none, none, none, none]), (4, 12, [none, none, none, none, none, none, none, none, none, none, none, none]), (4, 12, [none, none, none, none, none, none, none, none, none, none, none, none]), (4, 12, [none, none, none, none, none, none, none, none, none, none, none, none]), (4, 12, [none, none, none, none, none, none, none, none, none, none, none, none]), (4, 12, [none, none, none, none, none, none, none, none, none, none, none, none]), (4, 12, [none, none, none, none, none, none, none, none, none, none, none, none]), (4, 12, [none, none, none, none, none, none, none, none, none, none, none, none]), (4, 12, [none, none, none, none, none, none, none, none, none, none, none, none]), (4, 12, [none, none, none, none, none, none, none, none, none, none, none, none]), (4, 12, [none, none, none, none, none, none, none, none, none, none, none, none]), (4, 12, [none, none, none, none, none, none, none, none, none, none, none, none]), (4, 12, [none, none, none, none, none, none, none, none, none, none, none, none]), (4, 12, [none, none, none, none, none, none, none, none, none, none, none, none]), (4, 12, [none, none, none, none, none, none, none, none, none, none, none, none]), (4, 12, [none, none, none, none, none, none, none, none, none, none, none, none]), (4, 12, [none, none, none, none, none, none, none, none, none, none, none, none]), (4, 12, [none, none, none, none, none, none, none, none, none, none, none, none]), (4, 12, [none, none, none, none, none, none, none, none, none, none, none, none]), (4, 12, [none, none, none, none, none, none, none, none, none, none, none, none]), (4, 12, [none, none, none, none, none, none, none, none, none, none, none, none]), (4, 12, [none, none, none, none, none, none, none, none, none, none, none, none]), (4, 12, [none, none, none, none, none, none, none, none, none, none, none, none]), (4, 12, [none, none, none, none, none, none, none, none, none, none, none, none]), (4, 12, [none, none, none, none, none, none, none, none, none, none, none, none]), (4, 12, [none, none, none, none, none, none, none, none, none, none, none, none]), (4, 12, [none, none, none, none, none, none, none, none, none, none, none, none]), (4, 12, [none, none, none, none, none, none, none, none, none, none, none, none]), (4, 12, [none, none, none, none, none, none, none, none, none, none, none, none]), (4, 12, [none, none, none, none, none, none, none, none, none, none, none, none]), (4, 12, [none, none, none, none, none, none, none, none, none, none, none, none]), (4, 12, [none, none, none, none, none, none, none, none, none, none, none, none]), (4, 12, [none, none, none, none, none, none, none, none, none, none, none, none]), (10, 7, [some 79, some 92, some 93, some 94, some 95, some 96, none]), (103, 12, [some 80, some 81, some 82, some 83, some 84, some 85, some 86, some 87, some 88, some 89, some 90, some 91]), (100, 96, []), (100, 96, []), (100, 96, []), (100, 96, []), (100, 96, []), (100, 96, []), (100, 96, []), (100, 96, []), (100, 96, []), (100, 96, []), (100, 96, []), (100, 96, []), (100, 12, []), (100, 12, []), (100, 12, []), (100, 12, []), (100, 96, []), (2, 3, [some 98, none, none]), (100, 60, []), (6, 1, [some 100]), (103, 8, [some 101, some 102, some 103, some 104, some 105, some 106, some 107, some 108]), (100, 2, []), (100, 2, []), (100, 2, []), (100, 2, []), (100, 2, []), (100, 2, []), (100, 2, []), (100, 2, []), (11, 6, [some 110, some 111, some 112, some 113, some 114, none]), (100, 30, []), (100, 30, []), (100, 30, []), (100, 30, []), (103, 8, [some 115, some 116, some 117, some 118, some 119, some 120, some 121, some 122]), (100, 10, []), (100, 10, []), (100, 10, []), (100, 10, []), (100, 10, []), (100, 10, []), (100, 10, []), (100, 10, []), (3, 5, [some 124, none, none, none, none]), (100, 16, []), (7, 5, [some 126, none, some 127, some 128, none]), (100, 8, []), (100, 8, []), (100, 8, []), (5, 9, [some 130, some 179, some 198, some 200, some 210, some 224, some 226, none, none]), (1, 14, [some 131, some 132, some 133, some 134, some 135, some 136, some 137, some 138, none, none, none, none, none, none]), (100, 12, []), (100, 12, []), (101, 12, []), (102, 40, [some 139, some 140, some 141, some 142, some 143, some 144, some 145, some 146, some 147, some 148, some 149, some 150, some 151, some 152, some 153, some 154, some 155, some 156, some 157, some 158, some 159, some 160, some 161, some 162, some 163, some 164, some 165, some 166, some 167, some 168, some 169, some 170, some 171, some 172, some 173, some 174, some 175, some 176, some 177, some 178]), (100, 13, []), (100, 13, []), (100, 13, []), (100, 13, []), (4, 12, [none, none, none, none, none, none, none, none, none, none, none, none]), (4, 12, [none, none, none, none, none, none, none, none, none, none, none, none]), (4, 12, [none, none, none, none, none, none, none, none, none, none, none, none]), (4, 12, [none, none, none, none, none, none, none, none, none, none, none, none]), (4, 12, [none, none, none, none, none, none, none, none, none, none, none, none]), (4, 12, [none, none, none, none, none, none, none, none, none, none, none, none]), (4, 12, [none, none, none, none, none, none, none, none, none, none, none, none]), (4, 12, [none, none, none, none, none, none, none, none, none, none, none, none]), (4, 12, [none, none, none, none, none, none, none, none, none, none, none, none]), (4, 12, [none, none, none, none, none, none, none, none, none, none, none, none]), (4, 12, [none, none, none, none, none, none, none, none, none, none, none, none]), (4, 12, [none, none, none, none, none, none, none, none, none, none, none, none]), (4, 12, [none, none, none, none, none, none, none, none, none, none, none, none]), (4, 12, [none, none, none, none, none, none, none, none, none, none, none, none]), (4, 12, [none, none, none, none, none, none, none, none, none, none, none, none]), (4, 12, [none, none, none, none, none, none, none, none, none, none, none, none]), (4, 12, [none, none, none, none, none, none, none, none, none, none, none, none]), (4, 12, [none, none, none, none, none, none, none, none, none, none, none, none]), (4, 12, [none, none, none, none, none, none, none, none, none, none, none, none]), (4, 12, [none, none, none, none, none, none, none, none, none, none, none, none]), (4, 12, [none, none, none, none, none, none, none, none, none, none, none, none]), (4, 12, [none, none, none, none, none, none, none, none, none, none, none, none]), (4, 12, [none, none, none, none, none, none, none, none, none, none, none, none]), (4, 12, [none, none, none, none, none, none, none, none, none, none, none, none]), (4, 12, [none, none, none, none, none, none, none, none, none, none, none, none]), (4, 12, [none, none, none, none, none, none, none, none, none, none, none, none]), (4, 12, [none, none, none, none, none, none, none, none, none, none, none, none]), (4, 12, [none, none, none, none, none, none, none, none, none, none, none, none]), (4, 12, [none, none, none, none, none, none, none, none, none, none, none, none]), (4, 12, [none, none, none, none, none, none, none, none, none, none, none, none]), (4, 12, [none, none, none, none, none, none, none, none, none, none, none, none]), (4, 12, [none, none, none, none, none, none, none, none, none, none, none, none]), (4, 12, [none, none, none, none, none, none, none, none, none, none, none, none]), (4, 12, [none, none, none, none, none, none, none, none, none, none, none, none]), (4, 12, [none, none, none, none, none, none, none, none, none, none, none, none]), (4, 12, [none, none, none, none, none, none, none, none, none, none, none, none]), (4, 12, [none, none, none, none, none, none, none, none, none, none, none, none]), (4, 12, [none, none, none, none, none, none, none, none, none, none, none, none]), (4, 12, [none, none, none, none, none, none, none, none, none, none, none, none]), (4, 12, [none, none, none, none, none, none, none, none, none, none, none, none]), (10, 7, [some 180, some 193, some 194, some 195, some 196, some 197, none]), (103, 12, [some 181, some 182, some 183, some 184, some 185, some 186, some 187, some 188, some 189, some 190, some 191, some 192]), (100, 96, []), (100, 96, []), (100, 96, []), (100, 96, []), (100, 96, []), (100, 96, []), (100, 96, []), (100, 96, []), (100, 96, []), (100, 96, []), (100, 96, []), (100, 96, []), (100, 12, []), (100, 12, []), (100, 12, []), (100, 12, []), (100, 96, []), (2, 3, [some 199, none, none]), (100, 60, []), (6, 1, [some 201]), (103, 8, [some 202, some 203, some 204, some 205, some 206, some 207, some 208, some 209]), (100, 2, []), (100, 2, []), (100, 2, []), (100, 2, []), (100, 2, []), (100, 2, []), (100, 2, []), (100, 2, []), (11, 6, [some 211, some 212, some 213, some 214, some 215, none]), (100, 30, []), (100, 30, []), (100, 30, []), (100, 30, []), (103, 8, [some 216, some 217, some 218, some 219, some 220, some 221, some 222, some 223]), (100, 10, []), (100, 10, []), (100, 10, []), (100, 10, []), (100, 10, []), (100, 10, []), (100, 10, []), (100, 10, []), (3, 5, [some 225, none, none, none, none]), (100, 16, []), (7, 5, [some 227, none, some 228, some 229, none]), (100, 8, []), (100, 8, []), (100, 8, []), (1, 14, [some 231, some 232, some 233, some 234, some 235, some 236, some 237, some 238, none, none, none, none, none, none]), (100, 12, []), (100, 12, []), (101, 12, []), (102, 40, [some 239, some 240, some 241, some 242, some 243, some 244, some 245, some 246, some 247, some 248, some 249, some 250, some 251, some 252, some 253, some 254, some 255, some 256, some 257, some 258, some 259, some 260, some 261, some 262, some 263, some 264, some 265, some 266, some 267, some 268, some 269, some 270, some 271, some 272, some 273, some 274, some 275, some 276, some 277, some 278]), (100, 13, []), (100, 13, []), (100, 13, []), (100, 13, []), (4, 12, [none, none, none, none, none, none, none, none, none, none, none, none]), (4, 12, [none, none, none, none, none, none, none, none, none, none, none, none]), (4, 12, [none, none, none, none, none, none, none, none, none, none, none, none]), (4, 12, [none, none, none, none, none, none, none, none, none, none, none, none]), (4, 12, [none, none, none, none, none, none, none, none, none, none, none, none]), (4, 12, [none, none, none, none, none, none, none, none, none, none, none, none]), (4, 12, [none, none, none, none, none, none, none, none, none, none, none, none]), (4, 12, [none, none, none, none, none, none, none, none, none, none, none, none]), (4, 12, [none, none, none, none, none, none, none, none, none, none, none, none]), (4, 12, [none, none, none, none, none, none, none, none, none, none, none, none]), (4, 12, [none, none, none, none, none, none, none, none, none, none, none, none]), (4, 12, [none, none, none, none, none, none, none, none, none, none, none, none]), (4, 12, [none, none, none, none, none, none, none, none, none, none, none, none]), (4, 12, [none, none, none, none, none, none, none, none, none, none, none, none]), (4, 12, [none, none, none, none, none, none, none, none, none, none, none, none]), (4, 12, [none, none, none, none, none, none, none, none, none, none, none, none]), (4, 12, [none, none, none, none, none, none, none, none, none, none, none, none]), (4, 12, [none, none, none, none, none, none, none, none, none, none, none, none]), (4, 12, [none, none, none, none, none, none, none, none, none, none, none, none]), (4, 12, [none, none, none, none, none, none, none, none, none, none, none, none]), (4, 12, [none, none, none, none, none, none, none, none, none, none, none, none]), (4, 12, [none, none, none, none, none, none, none, none, none, none, none, none]), (4, 12, [none, none, none, none, none, none, none, none, none, none, none, none]), (4, 12, [none, none, none, none, none, none, none, none, none, none, none, none]), (4, 12, [none, none, none, none, none, none, none, none, none, none, none, none]), (4, 12, [none, none, none, none, none, none, none, none, none, none, none, none]), (4, 12, [none, none, none, none, none, none, none, none, none, none, none, none]), (4, 12, [none, none, none, none, none, none, none, none, none, none, none, none]), (4, 12, [none, none, none, none, none, none, none, none, none, none, none, none]), (4, 12, [none, none, none, none, none, none, none, none, none, none, none, none]), (4, 12, [none, none, none, none, none, none, none, none, none, none, none, none]), (4, 12, [none, none, none, none, none, none, none, none, none, none, none, none]), (4, 12, [none, none, none, none, none, none, none, none, none, none, none, none]), (4, 12, [none, none, none, none, none, none, none, none, none, none, none, none]), (4, 12, [none, none, none, none, none, none, none, none, none, none, none, none]), (4, 12, [none, none, none, none, none, none, none, none, none, none, none, none]), (4, 12, [none, none, none, none, none, none, none, none, none, none, none, none]), (4, 12, [none, none, none, none, none, none, none, none, none, none, none, none]), (4, 12, [none, none, none, none, none, none, none, none, none, none, none, none]), (4, 12, [none, none, none, none, none, none, none, none, none, none, none, none]), (8, 9, [some 280, none, none, none, none, some 281, none, none, none]), (100, 96, []), (100, 96, []), (9, 3, [some 283, some 290, some 291]), (103, 6, [some 284, some 285, some 286, some 287, some 288, some 289]), (100, 24, []), (100, 24, []), (100, 24, []), (100, 24, []), (100, 24, []), (100, 24, []), (100, 6, []), (100, 6, []), (100, 60, []), (12, 29, [some 294, some 295, some 296, none, some 297, some 298, some 299, some 300, some 301, none, none, none, none, none, none, none, none, none, none, none, some 302, some 303, some 304, none, some 305, some 306, some 307, none, some 308]), (100, 3540, []), (100, 3540, []), (100, 3540, []), (100, 6, []), (100, 6, []), (100, 144, []), (100, 40, []), (100, 96, []), (100, 128, []), (100, 100, []), (100, 30, []), (100, 24, []), (100, 8, []), (100, 60, []), (100, 60, [])]
def gSH (L : Nat) : List gCell := gold L ++ gSHn
theorem gold_len (L : Nat) : (gold L).length = 27 := by simp [gold]
theorem gSH_at (L k : Nat) (h : 27 ≤ k) : (gSH L)[k]? = gSHn[k - 27]? := by
  unfold gSH
  rw [List.getElem?_append_right (by rw [gold_len]; exact h), gold_len]
theorem gSH_old (L k : Nat) (h : k < 27) : (gSH L)[k]? = (gold L)[k]? := by
  unfold gSH
  rw [List.getElem?_append_left (by rw [gold_len]; exact h)]
/-- kind, length, references of a new cell -/
def gK (k : Nat) : Nat := if k < 27 then 998 else (gSHn.getD (k - 27) (999, 0, [])).1
def gN (k : Nat) : Nat := (gSHn.getD (k - 27) (999, 0, [])).2.1
def gR (k j : Nat) : Option Nat := (gSHn.getD (k - 27) (999, 0, [])).2.2.getD j none
theorem gK_at {L k c : Nat} (h : gK k = c) (hc : c < 998) : ∃ q, (gSH L)[k]? = some q ∧ q.1 = c ∧ q.2.1 = gN k ∧ ∀ j, q.2.2.getD j none = gR k j := by
  unfold gK at h
  split at h
  · omega
  · next hk =>
    cases hq : gSHn[k - 27]? with
    | none => rw [List.getD_eq_getElem?_getD, hq] at h; simp at h; omega
    | some q =>
      refine ⟨q, by rw [gSH_at L k (by omega), hq], ?_, ?_, fun j => ?_⟩
      · rw [List.getD_eq_getElem?_getD, hq] at h; exact h
      · unfold gN; rw [List.getD_eq_getElem?_getD, hq]; rfl
      · have e0 : gSHn.getD (k - 27) (999, 0, []) = q := by rw [List.getD_eq_getElem?_getD, hq]; rfl
        unfold gR
        rw [e0]
theorem gSH_cls : ∀ q ∈ gSHn, q.1 < 13 → q.2.1 = gfields q.1 ∧ ∀ j, j < gfields q.1 → gsort q.1 j = 2 → (q.2.2.getD j none).isSome = true := by decide +kernel
theorem gSH_row : ∀ q ∈ gSHn, (q.1 = 102 ∨ q.1 = 103) → ∀ j, j < q.2.1 → (q.2.2.getD j none).isSome = true := by decide +kernel
theorem gK_mem {k c : Nat} (h : gK k = c) (hc : c < 998) : ∃ q ∈ gSHn, q.1 = c ∧ q.2.1 = gN k ∧ ∀ j, q.2.2.getD j none = gR k j := by
  unfold gK at h
  split at h
  · omega
  · next hk =>
    cases hq : gSHn[k - 27]? with
    | none => rw [List.getD_eq_getElem?_getD, hq] at h; simp at h; omega
    | some q =>
      have e0 : gSHn.getD (k - 27) (999, 0, []) = q := by rw [List.getD_eq_getElem?_getD, hq]; rfl
      rw [e0] at h
      exact ⟨q, List.mem_of_getElem? hq, h, by unfold gN; rw [e0], fun j => by unfold gR; rw [e0]⟩
/-- where a reference leads -/
def gq (k j : Nat) : Nat := (gR k j).getD 0
theorem gN_cls {k c : Nat} (h : gK k = c) (hc : Nat.blt c 13 = true) : gN k = gfields c := by
  have hc := Nat.le_of_ble_eq_true hc
  obtain ⟨q, h1, h2, h3, -⟩ := gK_mem h (by omega)
  rw [← h3, (gSH_cls q h1 (by omega)).1, h2]
theorem gR_cls {k c j : Nat} (h : gK k = c) (hc : Nat.blt c 13 = true) (hj : Nat.blt j (gfields c) = true) (hs : Nat.beq (gsort c j) 2 = true) : gR k j = some (gq k j) := by
  have hc := Nat.le_of_ble_eq_true hc
  obtain ⟨q, h1, h2, h3, h4⟩ := gK_mem h (by omega)
  have h5 := (gSH_cls q h1 (by omega)).2 j (by rw [h2]; exact Nat.le_of_ble_eq_true hj) (by rw [h2]; exact Nat.eq_of_beq_eq_true hs)
  rw [h4] at h5
  unfold gq
  cases hr : gR k j with
  | none => rw [hr] at h5; cases h5
  | some a => rfl
theorem gR_row {k j : Nat} (h : gK k = 102 ∨ gK k = 103) (hj : j < gN k) : gR k j = some (gq k j) := by
  obtain ⟨q, h1, h2, h3, h4⟩ := gK_mem (k := k) rfl (by omega)
  have h5 := gSH_row q h1 (by omega) j (by omega)
  rw [h4] at h5
  unfold gq
  cases hr : gR k j with
  | none => rw [hr] at h5; cases h5
  | some a => rfl
def Wp (L d : Nat) (C : gCode) (pc : Nat) (ls st : List gV) (σ : Nat → Nat → Int) (Q : Option gV → (Nat → Nat → Int) → Prop) : Prop := gWp gT d C pc ls st (gSH L, σ) (fun r m => m.1 = gSH L ∧ Q r m.2)
/-- method y, called with as, ends with r and σ1 -/
def Run (L d y : Nat) (as : List gV) (σ : Nat → Nat → Int) (r : Option gV) (σ1 : Nat → Nat → Int) : Prop := ∃ (C : gCode) (maxL na rk n : Nat), gT y = some (C, maxL, na, rk) ∧ gexec gT n d C 0 (gentry maxL as) [] (gSH L, σ) = some (r, gSH L, σ1)
section Rules
variable {L d : Nat} {C : gCode} {pc nx : Nat} {ls st : List gV} {σ : Nat → Nat → Int} {Q : Option gV → (Nat → Nat → Int) → Prop}
theorem Wp_s {op : Instr} {pc' : Nat} {ls' st' : List gV} {σ' : Nat → Nat → Int} (hf : gfind C pc = some (op, nx)) (hc : gcallee op = none) (hr : gret op st = none) (hs : gstep op nx ls st (gSH L, σ) = some (pc', ls', st', gSH L, σ')) : Wp L d C pc ls st σ Q ↔ Wp L d C pc' ls' st' σ' Q := gWp_step hf hc hr hs
theorem wp_push {x : Int} (hf : gfind C pc = some (.sipush x, nx)) : Wp L d C pc ls st σ Q ↔ Wp L d C nx ls (vI x :: st) σ Q := Wp_s hf rfl rfl rfl
theorem wp_pushL {x : Int} (hf : gfind C pc = some (.jsr_w x, nx)) : Wp L d C pc ls st σ Q ↔ Wp L d C nx ls (vL x :: st) σ Q := Wp_s hf rfl rfl rfl
theorem wp_ldc {k : Nat} (hf : gfind C pc = some (.ldc k, nx)) : Wp L d C pc ls st σ Q ↔ Wp L d C nx ls (vR k :: st) σ Q := Wp_s hf rfl rfl rfl
theorem wp_opq (hf : gfind C pc = some (.aconst_null, nx)) : Wp L d C pc ls st σ Q ↔ Wp L d C nx ls (Sum.inr (Sum.inr (Sum.inr 1)) :: st) σ Q := Wp_s hf rfl rfl rfl
theorem wp_iload {i : Nat} {x : Int} (hf : gfind C pc = some (.iload i, nx)) (hl : ls[i]? = some (vI x)) : Wp L d C pc ls st σ Q ↔ Wp L d C nx ls (vI x :: st) σ Q := Wp_s hf rfl rfl (by simp only [gstep, hl, vI])
theorem wp_lload {i : Nat} {x : Int} (hf : gfind C pc = some (.lload i, nx)) (hl : ls[i]? = some (vL x)) : Wp L d C pc ls st σ Q ↔ Wp L d C nx ls (vL x :: st) σ Q := Wp_s hf rfl rfl (by simp only [gstep, hl, vL])
theorem wp_aload {i k : Nat} (hf : gfind C pc = some (.aload i, nx)) (hl : ls[i]? = some (vR k)) : Wp L d C pc ls st σ Q ↔ Wp L d C nx ls (vR k :: st) σ Q := Wp_s hf rfl rfl (by simp only [gstep, hl, vR])
theorem wp_istore {i : Nat} {x : Int} (hf : gfind C pc = some (.istore i, nx)) (hi : Nat.blt i ls.length = true) : Wp L d C pc ls (vI x :: st) σ Q ↔ Wp L d C nx (gset ls i (vI x)) st σ Q := Wp_s hf rfl rfl (by
  have : i < ls.length := Nat.le_of_ble_eq_true hi
  simp only [gstep, vI, this, if_true])
theorem wp_astore {i k : Nat} (hf : gfind C pc = some (.astore i, nx)) (hi : Nat.blt i ls.length = true) : Wp L d C pc ls (vR k :: st) σ Q ↔ Wp L d C nx (gset ls i (vR k)) st σ Q := Wp_s hf rfl rfl (by
  have : i < ls.length := Nat.le_of_ble_eq_true hi
  simp only [gstep, vR, this, if_true])
theorem wp_lstore {i : Nat} {x : Int} (hf : gfind C pc = some (.lstore i, nx)) (hi : Nat.blt (i + 1) ls.length = true) : Wp L d C pc ls (vL x :: st) σ Q ↔ Wp L d C nx (gset2 ls i (vL x)) st σ Q := Wp_s hf rfl rfl (by
  have : i + 1 < ls.length := Nat.le_of_ble_eq_true hi
  simp only [gstep, vL, this, if_true])
theorem wp_iinc {i : Nat} {x k : Int} (hf : gfind C pc = some (.iinc i k, nx)) (hl : ls[i]? = some (vI x)) : Wp L d C pc ls st σ Q ↔ Wp L d C nx (gset ls i (vI (w32 (x + k)))) st σ Q := Wp_s hf rfl rfl (by simp only [gstep, hl, vI])
theorem wp_iadd {a b : Int} (hf : gfind C pc = some (.iadd, nx)) : Wp L d C pc ls (vI b :: vI a :: st) σ Q ↔ Wp L d C nx ls (vI (w32 (a + b)) :: st) σ Q := Wp_s hf rfl rfl rfl
theorem wp_isub {a b : Int} (hf : gfind C pc = some (.isub, nx)) : Wp L d C pc ls (vI b :: vI a :: st) σ Q ↔ Wp L d C nx ls (vI (w32 (a - b)) :: st) σ Q := Wp_s hf rfl rfl rfl
theorem wp_imul {a b : Int} (hf : gfind C pc = some (.imul, nx)) : Wp L d C pc ls (vI b :: vI a :: st) σ Q ↔ Wp L d C nx ls (vI (w32 (a * b)) :: st) σ Q := Wp_s hf rfl rfl rfl
theorem wp_iand {a b : Int} (hf : gfind C pc = some (.iand, nx)) : Wp L d C pc ls (vI b :: vI a :: st) σ Q ↔ Wp L d C nx ls (vI (gand a b) :: st) σ Q := Wp_s hf rfl rfl rfl
theorem wp_ior {a b : Int} (hf : gfind C pc = some (.ior, nx)) : Wp L d C pc ls (vI b :: vI a :: st) σ Q ↔ Wp L d C nx ls (vI (gor a b) :: st) σ Q := Wp_s hf rfl rfl rfl
theorem wp_ixor {a b : Int} (hf : gfind C pc = some (.ixor, nx)) : Wp L d C pc ls (vI b :: vI a :: st) σ Q ↔ Wp L d C nx ls (vI (gxor a b) :: st) σ Q := Wp_s hf rfl rfl rfl
theorem wp_ishl {a b : Int} (hf : gfind C pc = some (.ishl, nx)) : Wp L d C pc ls (vI b :: vI a :: st) σ Q ↔ Wp L d C nx ls (vI (gshl a b) :: st) σ Q := Wp_s hf rfl rfl rfl
theorem wp_ishr {a b : Int} (hf : gfind C pc = some (.ishr, nx)) : Wp L d C pc ls (vI b :: vI a :: st) σ Q ↔ Wp L d C nx ls (vI (gshr a b) :: st) σ Q := Wp_s hf rfl rfl rfl
theorem wp_iushr {a b : Int} (hf : gfind C pc = some (.iushr, nx)) : Wp L d C pc ls (vI b :: vI a :: st) σ Q ↔ Wp L d C nx ls (vI (gushr a b) :: st) σ Q := Wp_s hf rfl rfl rfl
theorem wp_idiv {a b : Int} (hf : gfind C pc = some (.idiv, nx)) (h : b ≠ 0) : Wp L d C pc ls (vI b :: vI a :: st) σ Q ↔ Wp L d C nx ls (vI (w32 (a.tdiv b)) :: st) σ Q := Wp_s hf rfl rfl (by simp only [gstep, gdiv, vI, if_neg h])
theorem wp_irem {a b : Int} (hf : gfind C pc = some (.irem, nx)) (h : 0 ≤ a ∧ 0 < b) : Wp L d C pc ls (vI b :: vI a :: st) σ Q ↔ Wp L d C nx ls (vI (a % b) :: st) σ Q := Wp_s hf rfl rfl (by simp only [gstep, vI, if_pos h])
theorem wp_max {a b : Int} (hf : gfind C pc = some (.fadd, nx)) (h : gfew st = true) : Wp L d C pc ls (vI b :: vI a :: st) σ Q ↔ Wp L d C nx ls (vI (max a b) :: st) σ Q := Wp_s hf rfl rfl (by simp only [gstep, gbin, vI, List.drop_succ_cons, List.drop_zero, h, if_true])
theorem wp_min {a b : Int} (hf : gfind C pc = some (.fsub, nx)) (h : gfew st = true) : Wp L d C pc ls (vI b :: vI a :: st) σ Q ↔ Wp L d C nx ls (vI (min a b) :: st) σ Q := Wp_s hf rfl rfl (by simp only [gstep, gbin, vI, List.drop_succ_cons, List.drop_zero, h, if_true])
theorem wp_lmin {a b : Int} (hf : gfind C pc = some (.dsub, nx)) (h : gfew st = true) : Wp L d C pc ls (vL b :: vL a :: st) σ Q ↔ Wp L d C nx ls (vL (min a b) :: st) σ Q := Wp_s hf rfl rfl (by simp only [gstep, gbinL, vL, List.drop_succ_cons, List.drop_zero, h, if_true])
theorem wp_ineg {a : Int} (hf : gfind C pc = some (.ineg, nx)) : Wp L d C pc ls (vI a :: st) σ Q ↔ Wp L d C nx ls (vI (w32 (-a)) :: st) σ Q := Wp_s hf rfl rfl rfl
theorem wp_i2c {a : Int} (hf : gfind C pc = some (.i2c, nx)) : Wp L d C pc ls (vI a :: st) σ Q ↔ Wp L d C nx ls (vI (gi2c a) :: st) σ Q := Wp_s hf rfl rfl rfl
theorem wp_i2b {a : Int} (hf : gfind C pc = some (.i2b, nx)) : Wp L d C pc ls (vI a :: st) σ Q ↔ Wp L d C nx ls (vI (gi2b a) :: st) σ Q := Wp_s hf rfl rfl rfl
theorem wp_i2s {a : Int} (hf : gfind C pc = some (.i2s, nx)) : Wp L d C pc ls (vI a :: st) σ Q ↔ Wp L d C nx ls (vI (gi2s a) :: st) σ Q := Wp_s hf rfl rfl rfl
theorem wp_i2l {a : Int} (hf : gfind C pc = some (.i2l, nx)) : Wp L d C pc ls (vI a :: st) σ Q ↔ Wp L d C nx ls (vL a :: st) σ Q := Wp_s hf rfl rfl rfl
theorem wp_l2i {a : Int} (hf : gfind C pc = some (.l2i, nx)) : Wp L d C pc ls (vL a :: st) σ Q ↔ Wp L d C nx ls (vI (w32 a) :: st) σ Q := Wp_s hf rfl rfl rfl
theorem wp_ladd {a b : Int} (hf : gfind C pc = some (.ladd, nx)) : Wp L d C pc ls (vL b :: vL a :: st) σ Q ↔ Wp L d C nx ls (vL (w64 (a + b)) :: st) σ Q := Wp_s hf rfl rfl rfl
theorem wp_lmul {a b : Int} (hf : gfind C pc = some (.lmul, nx)) : Wp L d C pc ls (vL b :: vL a :: st) σ Q ↔ Wp L d C nx ls (vL (w64 (a * b)) :: st) σ Q := Wp_s hf rfl rfl rfl
theorem wp_ldiv {a b : Int} (hf : gfind C pc = some (.ldiv, nx)) (h : b ≠ 0) : Wp L d C pc ls (vL b :: vL a :: st) σ Q ↔ Wp L d C nx ls (vL (w64 (a.tdiv b)) :: st) σ Q := Wp_s hf rfl rfl (by simp only [gstep, vL, if_neg h])
theorem wp_lcmp {a b : Int} (hf : gfind C pc = some (.lcmp, nx)) : Wp L d C pc ls (vL b :: vL a :: st) σ Q ↔ Wp L d C nx ls (vI (glcmp a b) :: st) σ Q := Wp_s hf rfl rfl rfl
theorem wp_dupI {a : Int} (hf : gfind C pc = some (.dup, nx)) : Wp L d C pc ls (vI a :: st) σ Q ↔ Wp L d C nx ls (vI a :: vI a :: st) σ Q := Wp_s hf rfl rfl rfl
theorem wp_dupR {a : Nat} (hf : gfind C pc = some (.dup, nx)) : Wp L d C pc ls (vR a :: st) σ Q ↔ Wp L d C nx ls (vR a :: vR a :: st) σ Q := Wp_s hf rfl rfl rfl
theorem wp_pop {a : Int} (hf : gfind C pc = some (.pop, nx)) : Wp L d C pc ls (vI a :: st) σ Q ↔ Wp L d C nx ls st σ Q := Wp_s hf rfl rfl rfl
theorem wp_dup_x1 {a : Int} {k : Nat} (hf : gfind C pc = some (.dup_x1, nx)) : Wp L d C pc ls (vI a :: vR k :: st) σ Q ↔ Wp L d C nx ls (vI a :: vR k :: vI a :: st) σ Q := Wp_s hf rfl rfl rfl
theorem wp_dup2 {a : Int} {k : Nat} (hf : gfind C pc = some (.dup2, nx)) : Wp L d C pc ls (vI a :: vR k :: st) σ Q ↔ Wp L d C nx ls (vI a :: vR k :: vI a :: vR k :: st) σ Q := Wp_s hf rfl rfl rfl
theorem wp_goto {t : Nat} (hf : gfind C pc = some (.goto t, nx)) : Wp L d C pc ls st σ Q ↔ Wp L d C t ls st σ Q := Wp_s hf rfl rfl rfl
theorem Wp_ite {c : Prop} [Decidable c] {a b : Nat} : Wp L d C (if c then a else b) ls st σ Q ↔ (if c then Wp L d C a ls st σ Q else Wp L d C b ls st σ Q) := by
  split <;> exact Iff.rfl
theorem wp_if_eq {a : Int} {t : Nat} (hf : gfind C pc = some (.ifCond .eq t, nx)) : Wp L d C pc ls (vI a :: st) σ Q ↔ (if a = 0 then Wp L d C t ls st σ Q else Wp L d C nx ls st σ Q) := by
  rw [← Wp_ite]
  exact Wp_s hf rfl rfl (by simp only [gstep, vI, gcmp, decide_eq_true_eq]; rfl)
theorem wp_if_ne {a : Int} {t : Nat} (hf : gfind C pc = some (.ifCond .ne t, nx)) : Wp L d C pc ls (vI a :: st) σ Q ↔ (if a ≠ 0 then Wp L d C t ls st σ Q else Wp L d C nx ls st σ Q) := by
  rw [← Wp_ite]
  exact Wp_s hf rfl rfl (by simp only [gstep, vI, gcmp, decide_eq_true_eq]; rfl)
theorem wp_if_lt {a : Int} {t : Nat} (hf : gfind C pc = some (.ifCond .lt t, nx)) : Wp L d C pc ls (vI a :: st) σ Q ↔ (if a < 0 then Wp L d C t ls st σ Q else Wp L d C nx ls st σ Q) := by
  rw [← Wp_ite]
  exact Wp_s hf rfl rfl (by simp only [gstep, vI, gcmp, decide_eq_true_eq]; rfl)
theorem wp_if_ge {a : Int} {t : Nat} (hf : gfind C pc = some (.ifCond .ge t, nx)) : Wp L d C pc ls (vI a :: st) σ Q ↔ (if 0 ≤ a then Wp L d C t ls st σ Q else Wp L d C nx ls st σ Q) := by
  rw [← Wp_ite]
  exact Wp_s hf rfl rfl (by simp only [gstep, vI, gcmp, decide_eq_true_eq]; rfl)
theorem wp_if_gt {a : Int} {t : Nat} (hf : gfind C pc = some (.ifCond .gt t, nx)) : Wp L d C pc ls (vI a :: st) σ Q ↔ (if 0 < a then Wp L d C t ls st σ Q else Wp L d C nx ls st σ Q) := by
  rw [← Wp_ite]
  exact Wp_s hf rfl rfl (by simp only [gstep, vI, gcmp, decide_eq_true_eq]; rfl)
theorem wp_if_le {a : Int} {t : Nat} (hf : gfind C pc = some (.ifCond .le t, nx)) : Wp L d C pc ls (vI a :: st) σ Q ↔ (if a ≤ 0 then Wp L d C t ls st σ Q else Wp L d C nx ls st σ Q) := by
  rw [← Wp_ite]
  exact Wp_s hf rfl rfl (by simp only [gstep, vI, gcmp, decide_eq_true_eq]; rfl)
theorem wp_cmp_eq {a b : Int} {t : Nat} (hf : gfind C pc = some (.if_icmp .eq t, nx)) : Wp L d C pc ls (vI b :: vI a :: st) σ Q ↔ (if a = b then Wp L d C t ls st σ Q else Wp L d C nx ls st σ Q) := by
  rw [← Wp_ite]
  exact Wp_s hf rfl rfl (by simp only [gstep, vI, gcmp, decide_eq_true_eq]; rfl)
theorem wp_cmp_ne {a b : Int} {t : Nat} (hf : gfind C pc = some (.if_icmp .ne t, nx)) : Wp L d C pc ls (vI b :: vI a :: st) σ Q ↔ (if a ≠ b then Wp L d C t ls st σ Q else Wp L d C nx ls st σ Q) := by
  rw [← Wp_ite]
  exact Wp_s hf rfl rfl (by simp only [gstep, vI, gcmp, decide_eq_true_eq]; rfl)
theorem wp_cmp_lt {a b : Int} {t : Nat} (hf : gfind C pc = some (.if_icmp .lt t, nx)) : Wp L d C pc ls (vI b :: vI a :: st) σ Q ↔ (if a < b then Wp L d C t ls st σ Q else Wp L d C nx ls st σ Q) := by
  rw [← Wp_ite]
  exact Wp_s hf rfl rfl (by simp only [gstep, vI, gcmp, decide_eq_true_eq]; rfl)
theorem wp_cmp_ge {a b : Int} {t : Nat} (hf : gfind C pc = some (.if_icmp .ge t, nx)) : Wp L d C pc ls (vI b :: vI a :: st) σ Q ↔ (if b ≤ a then Wp L d C t ls st σ Q else Wp L d C nx ls st σ Q) := by
  rw [← Wp_ite]
  exact Wp_s hf rfl rfl (by simp only [gstep, vI, gcmp, decide_eq_true_eq]; rfl)
theorem wp_cmp_gt {a b : Int} {t : Nat} (hf : gfind C pc = some (.if_icmp .gt t, nx)) : Wp L d C pc ls (vI b :: vI a :: st) σ Q ↔ (if b < a then Wp L d C t ls st σ Q else Wp L d C nx ls st σ Q) := by
  rw [← Wp_ite]
  exact Wp_s hf rfl rfl (by simp only [gstep, vI, gcmp, decide_eq_true_eq]; rfl)
theorem wp_cmp_le {a b : Int} {t : Nat} (hf : gfind C pc = some (.if_icmp .le t, nx)) : Wp L d C pc ls (vI b :: vI a :: st) σ Q ↔ (if a ≤ b then Wp L d C t ls st σ Q else Wp L d C nx ls st σ Q) := by
  rw [← Wp_ite]
  exact Wp_s hf rfl rfl (by simp only [gstep, vI, gcmp, decide_eq_true_eq]; rfl)
theorem wp_getI {c k : Nat} (hf : gfind C pc = some (.getfield c, nx)) (hc : Nat.blt (c / 256) 13 = true) (hs : Nat.beq (c / 64 % 4) 2 = false) (hj : Nat.blt (c % 64) (gfields (c / 256)) = true) (hk : gK k = c / 256) : Wp L d C pc ls (vR k :: st) σ Q ↔ Wp L d C nx ls (vI (σ k (c % 64)) :: st) σ Q := by
  obtain ⟨q, h1, h2, h3, h4⟩ := gK_at (L := L) hk (by have := Nat.le_of_ble_eq_true hc; omega)
  have h5 : c % 64 < q.2.1 := by rw [h3, gN_cls hk hc]; exact Nat.le_of_ble_eq_true hj
  exact Wp_s hf rfl rfl (by simp only [gstep, gget, vR, vI, h1, h2, h5, and_self, if_true, if_neg (Nat.ne_of_beq_eq_false hs)])
theorem wp_getR {c k : Nat} (hf : gfind C pc = some (.getfield c, nx)) (hc : Nat.blt (c / 256) 13 = true) (hs : Nat.beq (c / 64 % 4) 2 = true) (hs2 : Nat.beq (gsort (c / 256) (c % 64)) 2 = true) (hj : Nat.blt (c % 64) (gfields (c / 256)) = true) (hk : gK k = c / 256) : Wp L d C pc ls (vR k :: st) σ Q ↔ Wp L d C nx ls (vR (gq k (c % 64)) :: st) σ Q := by
  have ha := gR_cls hk hc hj hs2
  generalize gq k (c % 64) = a at ha ⊢
  obtain ⟨q, h1, h2, h3, h4⟩ := gK_at (L := L) hk (by have := Nat.le_of_ble_eq_true hc; omega)
  have h5 : c % 64 < q.2.1 := by rw [h3, gN_cls hk hc]; exact Nat.le_of_ble_eq_true hj
  have h6 : q.2.2[c % 64]? = some (some a) := by
    have := (h4 (c % 64)).trans ha
    rw [List.getD_eq_getElem?_getD] at this
    cases hq : q.2.2[c % 64]? with
    | none => rw [hq] at this; cases this
    | some z => rw [hq] at this; exact congrArg some this
  exact Wp_s hf rfl rfl (by simp only [gstep, gget, vR, h1, h2, h5, h6, and_self, if_true, Nat.eq_of_beq_eq_true hs])
theorem wp_putI {c k : Nat} {x : Int} (hf : gfind C pc = some (.putfield c, nx)) (hc : Nat.blt (c / 256) 13 = true) (hs : Nat.beq (c / 64 % 4) 0 = true) (hj : Nat.blt (c % 64) (gfields (c / 256)) = true) (hk : gK k = c / 256) : Wp L d C pc ls (vI x :: vR k :: st) σ Q ↔ Wp L d C nx ls st (gupd σ k (c % 64) x) Q := by
  obtain ⟨q, h1, h2, h3, h4⟩ := gK_at (L := L) hk (by have := Nat.le_of_ble_eq_true hc; omega)
  have h5 : c % 64 < q.2.1 := by rw [h3, gN_cls hk hc]; exact Nat.le_of_ble_eq_true hj
  exact Wp_s hf rfl rfl (by simp only [gstep, gput, vR, vI, h1, h2, h5, Nat.eq_of_beq_eq_true hs, and_self, true_or, if_true])
theorem wp_putZ {c k : Nat} {x : Int} (hf : gfind C pc = some (.putfield c, nx)) (hc : Nat.blt (c / 256) 13 = true) (hs : Nat.beq (c / 64 % 4) 1 = true) (hj : Nat.blt (c % 64) (gfields (c / 256)) = true) (hk : gK k = c / 256) (hx : x = 0 ∨ x = 1) : Wp L d C pc ls (vI x :: vR k :: st) σ Q ↔ Wp L d C nx ls st (gupd σ k (c % 64) x) Q := by
  obtain ⟨q, h1, h2, h3, h4⟩ := gK_at (L := L) hk (by have := Nat.le_of_ble_eq_true hc; omega)
  have h5 : c % 64 < q.2.1 := by rw [h3, gN_cls hk hc]; exact Nat.le_of_ble_eq_true hj
  exact Wp_s hf rfl rfl (by simp only [gstep, gput, vR, vI, h1, h2, h5, Nat.eq_of_beq_eq_true hs, hx, and_self, or_true, if_true])
theorem wp_iald {k : Nat} {x : Int} (hf : gfind C pc = some (.iaload, nx)) (hk : gK k = 100) (hx : 0 ≤ x ∧ x < gN k) : Wp L d C pc ls (vI x :: vR k :: st) σ Q ↔ Wp L d C nx ls (vI (σ k x.toNat) :: st) σ Q := by
  obtain ⟨q, h1, h2, h3, h4⟩ := gK_at (L := L) hk (by omega)
  rw [← h3] at hx
  exact Wp_s hf rfl rfl (by simp only [gstep, gald, vR, vI, h1, h2, hx, true_or, and_self, if_true])
theorem wp_bald {k : Nat} {x : Int} (hf : gfind C pc = some (.baload, nx)) (hk : gK k = 101) (hx : 0 ≤ x ∧ x < gN k) : Wp L d C pc ls (vI x :: vR k :: st) σ Q ↔ Wp L d C nx ls (vI (σ k x.toNat) :: st) σ Q := by
  obtain ⟨q, h1, h2, h3, h4⟩ := gK_at (L := L) hk (by omega)
  rw [← h3] at hx
  exact Wp_s hf rfl rfl (by simp only [gstep, gald, vR, vI, h1, h2, hx, true_or, and_self, if_true])
theorem wp_aald {k : Nat} {x : Int} (hf : gfind C pc = some (.aaload, nx)) (hk : gK k = 102 ∨ gK k = 103) (hx : 0 ≤ x ∧ x < gN k) : Wp L d C pc ls (vI x :: vR k :: st) σ Q ↔ Wp L d C nx ls (vR (gq k x.toNat) :: st) σ Q := by
  have ha := gR_row hk (show x.toNat < gN k by omega)
  generalize gq k x.toNat = a at ha ⊢
  obtain ⟨q, h1, h2, h3, h4⟩ := gK_at (L := L) (c := gK k) rfl (by omega)
  have h6 : q.2.2[x.toNat]? = some (some a) := by
    have := (h4 x.toNat).trans ha
    rw [List.getD_eq_getElem?_getD] at this
    cases hq : q.2.2[x.toNat]? with
    | none => rw [hq] at this; cases this
    | some z => rw [hq] at this; exact congrArg some this
  rw [← h3] at hx
  exact Wp_s hf rfl rfl (by simp only [gstep, galq, vR, vI, h1, h2, hx, hk, h6, and_self, if_true])
theorem wp_iast {k : Nat} {x y : Int} (hf : gfind C pc = some (.iastore, nx)) (hk : gK k = 100) (hx : 0 ≤ x ∧ x < gN k) : Wp L d C pc ls (vI y :: vI x :: vR k :: st) σ Q ↔ Wp L d C nx ls st (gupd σ k x.toNat y) Q := by
  obtain ⟨q, h1, h2, h3, h4⟩ := gK_at (L := L) hk (by omega)
  rw [← h3] at hx
  exact Wp_s hf rfl rfl (by simp only [gstep, gast, vR, vI, h1, h2, hx, true_or, and_self, if_true])
theorem wp_bast {k : Nat} {x y : Int} (hf : gfind C pc = some (.bastore, nx)) (hk : gK k = 101) (hx : 0 ≤ x ∧ x < gN k) (hy : y = 0 ∨ y = 1) : Wp L d C pc ls (vI y :: vI x :: vR k :: st) σ Q ↔ Wp L d C nx ls st (gupd σ k x.toNat y) Q := by
  obtain ⟨q, h1, h2, h3, h4⟩ := gK_at (L := L) hk (by omega)
  rw [← h3] at hx
  exact Wp_s hf rfl rfl (by simp only [gstep, gast, vR, vI, h1, h2, hx, hy, or_true, and_self, if_true])
theorem wp_copy {k q : Nat} {n dp sp : Int} (hf : gfind C pc = some (.invokedynamic 0, nx)) (hr : gfew st = true) (hk : gK k = 100) (hq : gK q = 100) (hx : 0 ≤ n ∧ 0 ≤ sp ∧ 0 ≤ dp ∧ sp + n ≤ gN k ∧ dp + n ≤ gN q) : Wp L d C pc ls (vI n :: vI dp :: vR q :: vI sp :: vR k :: st) σ Q ↔ Wp L d C nx ls st (gcpy σ k sp.toNat q dp.toNat n.toNat) Q := by
  obtain ⟨a, h1, h2, h3, h4⟩ := gK_at (L := L) hk (by omega)
  obtain ⟨b, g1, g2, g3, g4⟩ := gK_at (L := L) hq (by omega)
  rw [← h3, ← g3] at hx
  exact Wp_s hf rfl rfl (by simp only [gstep, gcopy, vR, vI, List.drop_succ_cons, List.drop_zero, hr, h1, h2, g1, g2, hx, and_self, if_true])
theorem wp_ret {r : Option gV} {op : Instr} (hf : gfind C pc = some (op, nx)) (hc : gcallee op = none) (hr : gret op st = some r) : Wp L d C pc ls st σ Q ↔ Q r σ := by
  unfold Wp
  rw [gWp_ret hf hc hr]
  simp
theorem wp_iret {a : Int} (hf : gfind C pc = some (.ireturn, nx)) : Wp L d C pc ls [vI a] σ Q ↔ Q (some (vI a)) σ := wp_ret hf rfl rfl
theorem wp_zret {a : Int} (hf : gfind C pc = some (.freturn, nx)) (h : a = 0 ∨ a = 1) : Wp L d C pc ls [vI a] σ Q ↔ Q (some (vI a)) σ := wp_ret hf rfl (by simp only [gret, vI, h, if_true])
theorem wp_bret {a : Int} (hf : gfind C pc = some (.dreturn, nx)) (h : -128 ≤ a ∧ a < 128) : Wp L d C pc ls [vI a] σ Q ↔ Q (some (vI a)) σ := wp_ret hf rfl (by simp only [gret, vI, h, and_self, if_true])
theorem wp_cret {a : Int} (hf : gfind C pc = some (.athrow, nx)) (h : 0 ≤ a ∧ a < 65536) : Wp L d C pc ls [vI a] σ Q ↔ Q (some (vI a)) σ := wp_ret hf rfl (by simp only [gret, vI, h, and_self, if_true])
theorem wp_lret {a : Int} (hf : gfind C pc = some (.lreturn, nx)) : Wp L d C pc ls [vL a] σ Q ↔ Q (some (vL a)) σ := wp_ret hf rfl rfl
theorem wp_aret {a : Nat} (hf : gfind C pc = some (.areturn, nx)) : Wp L d C pc ls [vR a] σ Q ↔ Q (some (vR a)) σ := wp_ret hf rfl rfl
theorem wp_vret (hf : gfind C pc = some (.return_, nx)) : Wp L d C pc ls [] σ Q ↔ Q none σ := wp_ret hf rfl rfl
theorem Run_of {y maxL na rk : Nat} {as : List gV} {C' : gCode} {r : Option gV} {σ1 : Nat → Nat → Int} (hT : gT y = some (C', maxL, na, rk)) (h : Wp L d C' 0 (gentry maxL as) [] σ (fun r' σ' => r' = r ∧ σ' = σ1)) : Run L d y as σ r σ1 := by
  obtain ⟨n, r', m', h1, h2, h3, h4⟩ := h
  obtain ⟨sh, σ'⟩ := m'
  dsimp only at h2 h4
  subst h2; subst h3; subst h4
  exact ⟨C', maxL, na, rk, n, hT, h1⟩
theorem Run_wp {y maxL na rk : Nat} {as : List gV} {C' : gCode} {r : Option gV} {σ1 : Nat → Nat → Int} (hT : gT y = some (C', maxL, na, rk)) (h : Run L d y as σ r σ1) : Wp L d C' 0 (gentry maxL as) [] σ Q ↔ Q r σ1 := by
  obtain ⟨C2, maxL2, na2, rk2, n, h1, h2⟩ := h
  cases hT.symm.trans h1
  constructor
  · rintro ⟨n2, r2, m2, h3, h4, h5⟩
    have e1 := gexec_mono gT n (max n n2) d C' 0 _ [] _ _ (Nat.le_max_left _ _) h2
    have e2 := gexec_mono gT n2 (max n n2) d C' 0 _ [] _ _ (Nat.le_max_right _ _) h3
    cases e1.symm.trans e2
    exact h5
  · intro hq
    exact ⟨n, r, _, h2, rfl, hq⟩
theorem grecv_k {k rk : Nat} {t : List gV} (h : gK k + 1 = rk) (h2 : Nat.blt rk 998 = true) : grecv (gSH L, σ) rk (vR k :: t) = true := by
  subst h
  have := Nat.le_of_ble_eq_true h2
  obtain ⟨q, h1, h2, -⟩ := gK_at (L := L) (k := k) rfl (by omega)
  show (match (gSH L)[k]? with
      | some q => Nat.beq q.1 (gK k)
      | none => false) = true
  rw [h1]
  dsimp only
  rw [h2]
  exact Nat.beq_refl _
theorem wp_callR {y maxL na rk : Nat} {C' : gCode} {as rest : List gV} {r : Option gV} {σ1 : Nat → Nat → Int} (hf : gfind C pc = some (.invokestatic y, nx)) (hT : gT y = some (C', maxL, na, rk)) (h1 : Nat.ble na st.length = true) (h2 : (st.take na).reverse = as) (h3 : st.drop na = rest) (h4 : Nat.ble (gflat as).length maxL = true) (h5 : gfew rest = true) (h6 : grecv (gSH L, σ) rk as = true) (hR : Run L d y as σ r σ1) : Wp L (d + 1) C pc ls st σ Q ↔ Wp L (d + 1) C nx ls (r.toList ++ rest) σ1 Q := by
  have hs : gsplit maxL na rk (gSH L, σ) st = some (as, rest) := by
    unfold gsplit
    rw [h2, h3, h1, h4, h5, h6]
    rfl
  obtain ⟨C2, maxL2, na2, rk2, n, e1, e2⟩ := hR
  cases hT.symm.trans e1
  unfold Wp
  rw [gWp_call hf hT hs]
  constructor
  · rintro ⟨n2, r2, m2, h7, h8⟩
    have q1 := gexec_mono gT n (max n n2) d C' 0 _ [] _ _ (Nat.le_max_left _ _) e2
    have q2 := gexec_mono gT n2 (max n n2) d C' 0 _ [] _ _ (Nat.le_max_right _ _) h7
    cases q1.symm.trans q2
    exact h8
  · intro hq
    exact ⟨n, r, _, e2, hq⟩
end Rules
