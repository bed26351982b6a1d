/-! The two constructors, run by the kernel over cells of which the old ones are left out. -/
def gDum : List gCell := List.replicate 27 (999, 0, [])
def gc0 : gMem := (gDum ++ [(0, 9, List.replicate 9 none)], fun _ _ => 0)
def gc1 : Option (Option gV × gMem) := gexec gT 5961 4 k_X_init 0 (gentry 1 [vR 27]) [] gc0
def gc2 : Option (Option gV × gMem) := match gc1 with
  | some (_, m) => gexec gT 1821 4 k_M_init 0 (gentry 2 [vR 293]) [] (m.1 ++ [(12, 29, List.replicate 29 none)], gzer m.2 m.1.length)
  | none => none
def gcS : Option (Option gV × gMem) → Bool
  | some (r, m) => r == none && m.1 == gDum ++ gSHn
  | none => false
theorem gc2_shape : gcS gc2 = true := by decide +kernel
