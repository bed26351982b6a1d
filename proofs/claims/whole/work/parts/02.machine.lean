/-! A small machine: the claim's own bytecode, read into rows (place, instruction, next place), run over cells whose whole numbers are integers.
Instructions are Instr's, but with places for offsets, numbers of methods and of fields for pool numbers:
sipush x: push the int x (iconst, bipush, sipush, ldc, a known static). jsr_w x: push the long x. ldc k: push the cell k (a text).
getfield, putfield c: c = 256 * kind + 64 * sort + place, sort 0 int, 1 boolean, 2 reference. invokestatic n: method n, whatever its call.
invokedynamic 0: arraycopy. monitorenter: Object's constructor. freturn, dreturn, athrow: ireturn of a boolean, a byte, a char. fadd, fsub, dsub: Math.max, Math.min of ints, Math.min of longs. aconst_null: push a reference that is only handed on. -/
def w32 (x : Int) : Int := (x + 2147483648) % 4294967296 - 2147483648
def w64 (x : Int) : Int := (x + 9223372036854775808) % 18446744073709551616 - 9223372036854775808
abbrev gV : Type := Int ⊕ (Int ⊕ (Nat ⊕ Nat))
def vI (x : Int) : gV := Sum.inl x
def vL (x : Int) : gV := Sum.inr (Sum.inl x)
def vR (k : Nat) : gV := Sum.inr (Sum.inr (Sum.inl k))
def vU : gV := Sum.inr (Sum.inr (Sum.inr 0))
/-- kind, how many places, references (of an object by fields; of a row of references) -/
abbrev gCell : Type := Nat × (Nat × List (Option Nat))
abbrev gMem : Type := List gCell × (Nat → Nat → Int)
abbrev gCode : Type := List (Nat × (Instr × Nat))
/-- rows, how many locals, how many arguments, the kind that the first one must have (and 1; 0: any) -/
abbrev gMeth : Type := gCode × (Nat × (Nat × Nat))
def gfind : gCode → Nat → Option (Instr × Nat)
  | [], _ => none
  | (p, q) :: t, pc => bif Nat.beq p pc then some q else gfind t pc
def gupd (σ : Nat → Nat → Int) (k j : Nat) (v : Int) : Nat → Nat → Int := fun k' j' => if k' = k ∧ j' = j then v else σ k' j'
def gcpy (σ : Nat → Nat → Int) (k sp q dp n : Nat) : Nat → Nat → Int := fun k' j' => if k' = q ∧ dp ≤ j' ∧ j' < dp + n then σ k (sp + (j' - dp)) else σ k' j'
def gzer (σ : Nat → Nat → Int) (k : Nat) : Nat → Nat → Int := fun k' j' => if k ≤ k' then 0 else σ k' j'
def gclr (ls : List gV) : Nat → List gV
  | 0 => ls
  | j + 1 => match ls[j]? with
    | some (Sum.inr (Sum.inl _)) => ls.set j vU
    | _ => ls
def gset (ls : List gV) (i : Nat) (v : gV) : List gV := (gclr ls i).set i v
def gset2 (ls : List gV) (i : Nat) (v : gV) : List gV := ((gclr ls i).set i v).set (i + 1) vU
def gcat : gV → Nat
  | Sum.inr (Sum.inl _) => 2
  | _ => 1
/-- few values: they leave room for a call -/
def gfew (st : List gV) : Bool := Nat.ble ((st.map gcat).sum) 8
def gflat : List gV → List gV
  | [] => []
  | Sum.inr (Sum.inl x) :: t => Sum.inr (Sum.inl x) :: vU :: gflat t
  | v :: t => v :: gflat t
def gentry (maxL : Nat) (as : List gV) : List gV := gflat as ++ List.replicate (maxL - (gflat as).length) vU
def gand (a b : Int) : Int := (Int32.ofInt a &&& Int32.ofInt b).toInt
def gor (a b : Int) : Int := (Int32.ofInt a ||| Int32.ofInt b).toInt
def gxor (a b : Int) : Int := (Int32.ofInt a ^^^ Int32.ofInt b).toInt
def gshl (a b : Int) : Int := (Int32.ofInt a <<< (Int32.ofInt b &&& 31)).toInt
def gshr (a b : Int) : Int := (Int32.ofInt a >>> (Int32.ofInt b &&& 31)).toInt
def gushr (a b : Int) : Int := ((Int32.ofInt a).toUInt32 >>> ((Int32.ofInt b).toUInt32 &&& Int32.toUInt32 31)).toInt32.toInt
def gi2c (a : Int) : Int := a % 65536
def gi2s (a : Int) : Int := (a + 32768) % 65536 - 32768
def gi2b (a : Int) : Int := (a + 128) % 256 - 128
def glcmp (a b : Int) : Int := if a < b then -1 else if a = b then 0 else 1
def gcmp (c : ClassFile.Cond) (a b : Int) : Bool := match c with
  | .eq => decide (a = b)
  | .ne => decide (a ≠ b)
  | .lt => decide (a < b)
  | .ge => decide (b ≤ a)
  | .gt => decide (b < a)
  | .le => decide (a ≤ b)
def glook : List (Int × Int) → Int → Int → Int
  | [], d, _ => d
  | (a, o) :: t, d, x => if x = a then o else glook t d x
def gslots : List gCell → Nat
  | [] => 0
  | c :: t => c.2.1 + gslots t
def gcallee : Instr → Option Nat
  | .invokestatic n => some n
  | _ => none
def gret (op : Instr) (st : List gV) : Option (Option gV) := match op with
  | .ireturn => match st with
    | [Sum.inl x] => some (some (Sum.inl x))
    | _ => none
  | .freturn => match st with
    | [Sum.inl x] => if x = 0 ∨ x = 1 then some (some (Sum.inl x)) else none
    | _ => none
  | .dreturn => match st with
    | [Sum.inl x] => if -128 ≤ x ∧ x < 128 then some (some (Sum.inl x)) else none
    | _ => none
  | .athrow => match st with
    | [Sum.inl x] => if 0 ≤ x ∧ x < 65536 then some (some (Sum.inl x)) else none
    | _ => none
  | .lreturn => match st with
    | [Sum.inr (Sum.inl x)] => some (some (Sum.inr (Sum.inl x)))
    | _ => none
  | .areturn => match st with
    | [Sum.inr (Sum.inr (Sum.inl k))] => some (some (Sum.inr (Sum.inr (Sum.inl k))))
    | _ => none
  | .return_ => match st with
    | [] => some none
    | _ => none
  | _ => none
abbrev gNext : Type := Option (Nat × (List gV × (List gV × gMem)))
/-- two ints on top -/
def gbin (f : Int → Int → Int) (nx : Nat) (ls st : List gV) (m : gMem) : gNext := match st with
  | Sum.inl b :: Sum.inl a :: r => some (nx, ls, Sum.inl (f a b) :: r, m)
  | _ => none
def gbinL (f : Int → Int → Int) (nx : Nat) (ls st : List gV) (m : gMem) : gNext := match st with
  | Sum.inr (Sum.inl b) :: Sum.inr (Sum.inl a) :: r => some (nx, ls, Sum.inr (Sum.inl (f a b)) :: r, m)
  | _ => none
def gdiv (f : Int → Int → Int) (nx : Nat) (ls st : List gV) (m : gMem) : gNext := match st with
  | Sum.inl b :: Sum.inl a :: r => if b = 0 then none else some (nx, ls, Sum.inl (w32 (f a b)) :: r, m)
  | _ => none
def gget (c : Nat) (nx : Nat) (ls st : List gV) (m : gMem) : gNext := match st with
  | Sum.inr (Sum.inr (Sum.inl k)) :: r => match m.1[k]? with
    | some q => if q.1 = c / 256 ∧ c % 64 < q.2.1 then (if c / 64 % 4 = 2 then (match q.2.2[c % 64]? with
        | some (some a) => some (nx, ls, Sum.inr (Sum.inr (Sum.inl a)) :: r, m)
        | _ => none) else some (nx, ls, Sum.inl (m.2 k (c % 64)) :: r, m)) else none
    | none => none
  | _ => none
def gput (c : Nat) (nx : Nat) (ls st : List gV) (m : gMem) : gNext := match st with
  | Sum.inl x :: Sum.inr (Sum.inr (Sum.inl k)) :: r => match m.1[k]? with
    | some q => if q.1 = c / 256 ∧ c % 64 < q.2.1 ∧ (c / 64 % 4 = 0 ∨ c / 64 % 4 = 1 ∧ (x = 0 ∨ x = 1)) then some (nx, ls, r, m.1, gupd m.2 k (c % 64) x) else none
    | none => none
  | Sum.inr (Sum.inr (Sum.inl a)) :: Sum.inr (Sum.inr (Sum.inl k)) :: r => match m.1[k]? with
    | some q => if q.1 = c / 256 ∧ c % 64 < q.2.1 ∧ c / 64 % 4 = 2 ∧ c % 64 < q.2.2.length then some (nx, ls, r, m.1.set k (q.1, q.2.1, q.2.2.set (c % 64) (some a)), m.2) else none
    | none => none
  | _ => none
/-- a place of a row of kind kd (or ke) -/
def gald (kd ke : Nat) (nx : Nat) (ls st : List gV) (m : gMem) : gNext := match st with
  | Sum.inl x :: Sum.inr (Sum.inr (Sum.inl k)) :: r => match m.1[k]? with
    | some q => if (q.1 = kd ∨ q.1 = ke) ∧ 0 ≤ x ∧ x < q.2.1 then some (nx, ls, Sum.inl (m.2 k x.toNat) :: r, m) else none
    | none => none
  | _ => none
def galq (nx : Nat) (ls st : List gV) (m : gMem) : gNext := match st with
  | Sum.inl x :: Sum.inr (Sum.inr (Sum.inl k)) :: r => match m.1[k]? with
    | some q => if (q.1 = 102 ∨ q.1 = 103) ∧ 0 ≤ x ∧ x < q.2.1 then (match q.2.2[x.toNat]? with
        | some (some a) => some (nx, ls, Sum.inr (Sum.inr (Sum.inl a)) :: r, m)
        | _ => none) else none
    | none => none
  | _ => none
def gast (kd : Nat) (nx : Nat) (ls st : List gV) (m : gMem) : gNext := match st with
  | Sum.inl y :: Sum.inl x :: Sum.inr (Sum.inr (Sum.inl k)) :: r => match m.1[k]? with
    | some q => if q.1 = kd ∧ 0 ≤ x ∧ x < q.2.1 ∧ (kd = 100 ∨ y = 0 ∨ y = 1) then some (nx, ls, r, m.1, gupd m.2 k x.toNat y) else none
    | none => none
  | _ => none
def gasq (nx : Nat) (ls st : List gV) (m : gMem) : gNext := match st with
  | Sum.inr (Sum.inr (Sum.inl a)) :: Sum.inl x :: Sum.inr (Sum.inr (Sum.inl k)) :: r => match m.1[k]?, m.1[a]? with
    | some q, some b => if q.1 = 102 ∧ b.1 = 4 ∧ 0 ≤ x ∧ x < q.2.1 ∧ q.2.1 = q.2.2.length then some (nx, ls, r, m.1.set k (q.1, q.2.1, q.2.2.set x.toNat (some a)), m.2) else none
    | _, _ => none
  | _ => none
def gcopy (nx : Nat) (ls st : List gV) (m : gMem) : gNext := match st with
  | Sum.inl n :: Sum.inl dp :: Sum.inr (Sum.inr (Sum.inl q)) :: Sum.inl sp :: Sum.inr (Sum.inr (Sum.inl k)) :: r => match m.1[k]?, m.1[q]? with
    | some a, some b => if a.1 = 100 ∧ b.1 = 100 ∧ 0 ≤ n ∧ 0 ≤ sp ∧ 0 ≤ dp ∧ sp + n ≤ a.2.1 ∧ dp + n ≤ b.2.1 then some (nx, ls, r, m.1, gcpy m.2 k sp.toNat q dp.toNat n.toNat) else none
    | _, _ => none
  | _ => none
def gnewa (kd : Nat) (nx : Nat) (ls st : List gV) (m : gMem) : gNext := match st with
  | Sum.inl n :: r => if 0 ≤ n ∧ n < 100000 then some (nx, ls, Sum.inr (Sum.inr (Sum.inl m.1.length)) :: r, m.1 ++ [(kd, n.toNat, if kd = 102 then List.replicate n.toNat none else [])], gzer m.2 m.1.length) else none
  | _ => none
def gmulti (nx : Nat) (ls st : List gV) (m : gMem) : gNext := match st with
  | Sum.inl b :: Sum.inl a :: r => if 0 ≤ a ∧ a < 1000 ∧ 0 ≤ b ∧ b < 1000 then some (nx, ls, Sum.inr (Sum.inr (Sum.inl m.1.length)) :: r, m.1 ++ (103, a.toNat, (List.range a.toNat).map (fun i => some (m.1.length + 1 + i))) :: List.replicate a.toNat (100, b.toNat, []), gzer m.2 m.1.length) else none
  | _ => none
/-- how many fields an object of a kind has -/
def gfields : Nat → Nat
  | 0 => 9 | 1 => 14 | 2 => 3 | 3 => 5 | 4 => 12 | 5 => 9 | 6 => 1 | 7 => 5 | 8 => 9 | 9 => 3 | 10 => 7 | 11 => 6 | 12 => 29 | _ => 0
def gstep (op : Instr) (nx : Nat) (ls st : List gV) (m : gMem) : gNext := match op with
  | .sipush x => some (nx, ls, Sum.inl x :: st, m)
  | .jsr_w x => some (nx, ls, Sum.inr (Sum.inl x) :: st, m)
  | .ldc k => some (nx, ls, Sum.inr (Sum.inr (Sum.inl k)) :: st, m)
  | .aconst_null => some (nx, ls, Sum.inr (Sum.inr (Sum.inr 1)) :: st, m)
  | .iload i => match ls[i]? with
    | some (Sum.inl x) => some (nx, ls, Sum.inl x :: st, m)
    | _ => none
  | .lload i => match ls[i]? with
    | some (Sum.inr (Sum.inl x)) => some (nx, ls, Sum.inr (Sum.inl x) :: st, m)
    | _ => none
  | .aload i => match ls[i]? with
    | some (Sum.inr (Sum.inr (Sum.inl k))) => some (nx, ls, Sum.inr (Sum.inr (Sum.inl k)) :: st, m)
    | _ => none
  | .istore i => match st with
    | Sum.inl x :: r => if i < ls.length then some (nx, gset ls i (Sum.inl x), r, m) else none
    | _ => none
  | .astore i => match st with
    | Sum.inr (Sum.inr (Sum.inl k)) :: r => if i < ls.length then some (nx, gset ls i (Sum.inr (Sum.inr (Sum.inl k))), r, m) else none
    | _ => none
  | .lstore i => match st with
    | Sum.inr (Sum.inl x) :: r => if i + 1 < ls.length then some (nx, gset2 ls i (Sum.inr (Sum.inl x)), r, m) else none
    | _ => none
  | .iinc i k => match ls[i]? with
    | some (Sum.inl x) => some (nx, gset ls i (Sum.inl (w32 (x + k))), st, m)
    | _ => none
  | .iadd => gbin (fun a b => w32 (a + b)) nx ls st m
  | .isub => gbin (fun a b => w32 (a - b)) nx ls st m
  | .imul => gbin (fun a b => w32 (a * b)) nx ls st m
  | .iand => gbin gand nx ls st m
  | .ior => gbin gor nx ls st m
  | .ixor => gbin gxor nx ls st m
  | .ishl => gbin gshl nx ls st m
  | .ishr => gbin gshr nx ls st m
  | .iushr => gbin gushr nx ls st m
  | .idiv => gdiv Int.tdiv nx ls st m
  | .irem => match st with
    | Sum.inl b :: Sum.inl a :: r => if 0 ≤ a ∧ 0 < b then some (nx, ls, Sum.inl (a % b) :: r, m) else none
    | _ => none
  | .fadd => if gfew (st.drop 2) then gbin (fun a b => max a b) nx ls st m else none
  | .fsub => if gfew (st.drop 2) then gbin (fun a b => min a b) nx ls st m else none
  | .dsub => if gfew (st.drop 2) then gbinL (fun a b => min a b) nx ls st m else none
  | .ineg => match st with
    | Sum.inl a :: r => some (nx, ls, Sum.inl (w32 (-a)) :: r, m)
    | _ => none
  | .i2c => match st with
    | Sum.inl a :: r => some (nx, ls, Sum.inl (gi2c a) :: r, m)
    | _ => none
  | .i2b => match st with
    | Sum.inl a :: r => some (nx, ls, Sum.inl (gi2b a) :: r, m)
    | _ => none
  | .i2s => match st with
    | Sum.inl a :: r => some (nx, ls, Sum.inl (gi2s a) :: r, m)
    | _ => none
  | .i2l => match st with
    | Sum.inl a :: r => some (nx, ls, Sum.inr (Sum.inl a) :: r, m)
    | _ => none
  | .l2i => match st with
    | Sum.inr (Sum.inl a) :: r => some (nx, ls, Sum.inl (w32 a) :: r, m)
    | _ => none
  | .ladd => gbinL (fun a b => w64 (a + b)) nx ls st m
  | .lmul => gbinL (fun a b => w64 (a * b)) nx ls st m
  | .ldiv => match st with
    | Sum.inr (Sum.inl b) :: Sum.inr (Sum.inl a) :: r => if b = 0 then none else some (nx, ls, Sum.inr (Sum.inl (w64 (a.tdiv b))) :: r, m)
    | _ => none
  | .lcmp => match st with
    | Sum.inr (Sum.inl b) :: Sum.inr (Sum.inl a) :: r => some (nx, ls, Sum.inl (glcmp a b) :: r, m)
    | _ => none
  | .dup => match st with
    | Sum.inl x :: r => some (nx, ls, Sum.inl x :: Sum.inl x :: r, m)
    | Sum.inr (Sum.inr (Sum.inl k)) :: r => some (nx, ls, Sum.inr (Sum.inr (Sum.inl k)) :: Sum.inr (Sum.inr (Sum.inl k)) :: r, m)
    | _ => none
  | .pop => match st with
    | Sum.inl _ :: r => some (nx, ls, r, m)
    | _ => none
  | .dup_x1 => match st with
    | Sum.inl x :: Sum.inr (Sum.inr (Sum.inl k)) :: r => some (nx, ls, Sum.inl x :: Sum.inr (Sum.inr (Sum.inl k)) :: Sum.inl x :: r, m)
    | _ => none
  | .dup2 => match st with
    | Sum.inl x :: Sum.inr (Sum.inr (Sum.inl k)) :: r => some (nx, ls, Sum.inl x :: Sum.inr (Sum.inr (Sum.inl k)) :: Sum.inl x :: Sum.inr (Sum.inr (Sum.inl k)) :: r, m)
    | _ => none
  | .goto t => some (t.toNat, ls, st, m)
  | .ifCond c t => match st with
    | Sum.inl a :: r => some (if gcmp c a 0 then t.toNat else nx, ls, r, m)
    | _ => none
  | .if_icmp c t => match st with
    | Sum.inl b :: Sum.inl a :: r => some (if gcmp c a b then t.toNat else nx, ls, r, m)
    | _ => none
  | .tableswitch d lo hi os => match st with
    | Sum.inl x :: r => if x < lo ∨ hi < x then some (d.toNat, ls, r, m) else (match os.toList[(x - lo).toNat]? with
      | some o => some (o.toNat, ls, r, m)
      | none => none)
    | _ => none
  | .lookupswitch d ps => match st with
    | Sum.inl x :: r => some ((glook ps.toList d x).toNat, ls, r, m)
    | _ => none
  | .getfield c => gget c nx ls st m
  | .putfield c => gput c nx ls st m
  | .iaload => gald 100 22 nx ls st m
  | .baload => gald 101 21 nx ls st m
  | .aaload => galq nx ls st m
  | .iastore => gast 100 nx ls st m
  | .bastore => gast 101 nx ls st m
  | .aastore => gasq nx ls st m
  | .arraylength => match st with
    | Sum.inr (Sum.inr (Sum.inl k)) :: r => (match m.1[k]? with
      | some q => if q.1 = 100 ∨ q.1 = 21 ∨ q.1 = 22 then some (nx, ls, Sum.inl (w32 q.2.1) :: r, m) else none
      | none => none)
    | _ => none
  | .invokedynamic _ => if gfew (st.drop 5) then gcopy nx ls st m else none
  | .monitorenter => match st with
    | Sum.inr (Sum.inr (Sum.inl _)) :: r => if gfew r then some (nx, ls, r, m) else none
    | _ => none
  | .new c => some (nx, ls, Sum.inr (Sum.inr (Sum.inl m.1.length)) :: st, m.1 ++ [(c, gfields c, List.replicate (gfields c) none)], gzer m.2 m.1.length)
  | .newarray t => gnewa (if t = .int then 100 else 101) nx ls st m
  | .anewarray _ => gnewa 102 nx ls st m
  | .multianewarray _ _ => gmulti nx ls st m
  | _ => none
def grecv (m : gMem) (rk : Nat) (as : List gV) : Bool := match rk with
  | 0 => true
  | k + 1 => match as with
    | Sum.inr (Sum.inr (Sum.inl a)) :: _ => (match m.1[a]? with
      | some q => Nat.beq q.1 k
      | none => false)
    | _ => false
def gsplit (maxL na rk : Nat) (m : gMem) (st : List gV) : Option (List gV × List gV) := if (Nat.ble na st.length && Nat.ble (gflat (st.take na).reverse).length maxL && gfew (st.drop na) && grecv m rk (st.take na).reverse) = true then some ((st.take na).reverse, st.drop na) else none
def gexec (T : Nat → Option gMeth) : Nat → Nat → gCode → Nat → List gV → List gV → gMem → Option (Option gV × gMem)
  | 0, _, _, _, _, _, _ => none
  | n + 1, d, C, pc, ls, st, m => match gfind C pc with
    | none => none
    | some (op, nx) => match gcallee op with
      | some y => match d with
        | 0 => none
        | d' + 1 => match T y with
          | none => none
          | some (C', maxL, na, rk) => match gsplit maxL na rk m st with
            | none => none
            | some (as, rest) => match gexec T n d' C' 0 (gentry maxL as) [] m with
              | none => none
              | some (r, m') => gexec T n (d' + 1) C nx ls (r.toList ++ rest) m'
      | none => match gret op st with
        | some r => some (r, m)
        | none => match gstep op nx ls st m with
          | none => none
          | some (pc', ls', st', m') => gexec T n d C pc' ls' st' m'
theorem gexec_mono (T : Nat → Option gMeth) : ∀ (n n' d : Nat) (C : gCode) (pc : Nat) (ls st : List gV) (m : gMem) (x : Option gV × gMem), n ≤ n' → gexec T n d C pc ls st m = some x → gexec T n' d C pc ls st m = some x := by
  intro n
  induction n with
  | zero => intro n' d C pc ls st m x _ h; simp [gexec] at h
  | succ n ih =>
    intro n' d C pc ls st m x hn h
    obtain ⟨k, rfl⟩ : ∃ k, n' = k + 1 := ⟨n' - 1, by omega⟩
    have hk : n ≤ k := by omega
    unfold gexec at h ⊢
    cases hf : gfind C pc with
    | none => simp [hf] at h
    | some q =>
      obtain ⟨op, nx⟩ := q
      simp only [hf] at h ⊢
      cases hc : gcallee op with
      | some y =>
        simp only [hc] at h ⊢
        cases d with
        | zero => simp at h
        | succ d' =>
          simp only at h ⊢
          cases hT : T y with
          | none => simp [hT] at h
          | some M =>
            obtain ⟨C', maxL, na, rk⟩ := M
            simp only [hT] at h ⊢
            cases hs : gsplit maxL na rk m st with
            | none => simp [hs] at h
            | some ar =>
              obtain ⟨as, rest⟩ := ar
              simp only [hs] at h ⊢
              cases he : gexec T n d' C' 0 (gentry maxL as) [] m with
              | none => simp [he] at h
              | some rm =>
                obtain ⟨r, m'⟩ := rm
                simp only [he] at h
                rw [ih k d' C' 0 _ [] m (r, m') hk he]
                exact ih k _ C nx ls _ m' x hk h
      | none =>
        simp only [hc] at h ⊢
        cases hr : gret op st with
        | some r => simp only [hr] at h ⊢; exact h
        | none =>
          simp only [hr] at h ⊢
          cases hst : gstep op nx ls st m with
          | none => simp [hst] at h
          | some q =>
            obtain ⟨pc', ls', st', m'⟩ := q
            simp only [hst] at h ⊢
            exact ih k d C pc' ls' st' m' x hk h
/-- the machine comes from here to an end with Q -/
def gWp (T : Nat → Option gMeth) (d : Nat) (C : gCode) (pc : Nat) (ls st : List gV) (m : gMem) (Q : Option gV → gMem → Prop) : Prop := ∃ (n : Nat) (r : Option gV) (m' : gMem), gexec T n d C pc ls st m = some (r, m') ∧ Q r m'
theorem gWp_step {T : Nat → Option gMeth} {d : Nat} {C : gCode} {pc nx pc' : Nat} {ls st ls' st' : List gV} {m m' : gMem} {Q : Option gV → gMem → Prop} {op : Instr} (hf : gfind C pc = some (op, nx)) (hc : gcallee op = none) (hr : gret op st = none) (hs : gstep op nx ls st m = some (pc', ls', st', m')) : gWp T d C pc ls st m Q ↔ gWp T d C pc' ls' st' m' Q := by
  constructor
  · rintro ⟨n, r, t, h, hq⟩
    cases n with
    | zero => simp [gexec] at h
    | succ n =>
      unfold gexec at h
      simp only [hf, hc, hr, hs] at h
      exact ⟨n, r, t, h, hq⟩
  · rintro ⟨n, r, t, h, hq⟩
    refine ⟨n + 1, r, t, ?_, hq⟩
    unfold gexec
    simp only [hf, hc, hr, hs]
    exact h
theorem gWp_ret {T : Nat → Option gMeth} {d : Nat} {C : gCode} {pc nx : Nat} {ls st : List gV} {m : gMem} {Q : Option gV → gMem → Prop} {op : Instr} {r : Option gV} (hf : gfind C pc = some (op, nx)) (hc : gcallee op = none) (hr : gret op st = some r) : gWp T d C pc ls st m Q ↔ Q r m := by
  constructor
  · rintro ⟨n, r, t, h, hq⟩
    cases n with
    | zero => simp [gexec] at h
    | succ n =>
      unfold gexec at h
      simp only [hf, hc, hr, Option.some.injEq, Prod.mk.injEq] at h
      obtain ⟨rfl, rfl⟩ := h
      exact hq
  · intro hq
    refine ⟨1, r, m, ?_, hq⟩
    unfold gexec
    simp only [hf, hc, hr]
theorem gWp_call {T : Nat → Option gMeth} {d y maxL na rk : Nat} {C C' : gCode} {pc nx : Nat} {ls st as rest : List gV} {m : gMem} {Q : Option gV → gMem → Prop} (hf : gfind C pc = some (.invokestatic y, nx)) (hT : T y = some (C', maxL, na, rk)) (hs : gsplit maxL na rk m st = some (as, rest)) :
    gWp T (d + 1) C pc ls st m Q ↔ gWp T d C' 0 (gentry maxL as) [] m (fun r m' => gWp T (d + 1) C nx ls (r.toList ++ rest) m' Q) := by
  have hc : gcallee (.invokestatic y) = some y := rfl
  constructor
  · rintro ⟨n, r, t, h, hq⟩
    cases n with
    | zero => simp [gexec] at h
    | succ n =>
      unfold gexec at h
      simp only [hf, hc, hT, hs] at h
      cases he : gexec T n d C' 0 (gentry maxL as) [] m with
      | none => simp [he] at h
      | some rm =>
        obtain ⟨r1, m1⟩ := rm
        simp only [he] at h
        exact ⟨n, r1, m1, he, n, r, t, h, hq⟩
  · rintro ⟨n1, r1, m1, he, n2, r, t, h, hq⟩
    refine ⟨max n1 n2 + 1, r, t, ?_, hq⟩
    unfold gexec
    simp only [hf, hc, hT, hs]
    rw [gexec_mono T n1 (max n1 n2) d C' 0 _ [] m (r1, m1) (Nat.le_max_left _ _) he]
    exact gexec_mono T n2 (max n1 n2) (d + 1) C nx ls _ m1 (r, t) (Nat.le_max_right _ _) h
