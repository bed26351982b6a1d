/-! Numbers: the integers of the small machine and the machine's own ints and longs. -/
def gr32 (x : Int) : Prop := -2147483648 ≤ x ∧ x < 2147483648
def gr64 (x : Int) : Prop := -9223372036854775808 ≤ x ∧ x < 9223372036854775808
theorem w32_r (x : Int) : gr32 (w32 x) := by unfold gr32 w32; omega
theorem w64_r (x : Int) : gr64 (w64 x) := by unfold gr64 w64; omega
theorem w32_id {x : Int} (h : gr32 x) : w32 x = x := by unfold gr32 at h; unfold w32; omega
theorem w64_id {x : Int} (h : gr64 x) : w64 x = x := by unfold gr64 at h; unfold w64; omega
theorem w32_bmod (x : Int) : x.bmod 4294967296 = w32 x := by
  unfold w32 Int.bmod
  dsimp only
  split <;> omega
theorem w64_bmod (x : Int) : x.bmod 18446744073709551616 = w64 x := by
  unfold w64 Int.bmod
  dsimp only
  split <;> omega
theorem o32_toInt (x : Int) : (Int32.ofInt x).toInt = w32 x := by
  rw [Int32.toInt_ofInt]
  exact w32_bmod x
theorem o64_toInt (x : Int) : (Int64.ofInt x).toInt = w64 x := by
  rw [Int64.toInt_ofInt]
  exact w64_bmod x
theorem o32_t {x : Int} (h : gr32 x) : (Int32.ofInt x).toInt = x := by rw [o32_toInt, w32_id h]
theorem o64_t {x : Int} (h : gr64 x) : (Int64.ofInt x).toInt = x := by rw [o64_toInt, w64_id h]
theorem o32_of (x : Int32) : Int32.ofInt x.toInt = x := Int32.ofInt_toInt x
theorem t32_r (x : Int32) : gr32 x.toInt := by
  have h1 := Int32.le_toInt x
  have h2 := Int32.toInt_lt x
  unfold gr32
  omega
theorem o32_eq {x : Int} {y : Int32} (h : y.toInt = w32 x) : y = Int32.ofInt x := Int32.toInt_inj.mp (by rw [o32_toInt]; exact h)
theorem o64_eq {x : Int} {y : Int64} (h : y.toInt = w64 x) : y = Int64.ofInt x := Int64.toInt_inj.mp (by rw [o64_toInt]; exact h)
theorem w32_w (x : Int) : w32 (w32 x) = w32 x := w32_id (w32_r x)
theorem w64_w (x : Int) : w64 (w64 x) = w64 x := w64_id (w64_r x)
theorem o32_add {a b : Int} (ha : gr32 a) (hb : gr32 b) : Int32.ofInt a + Int32.ofInt b = Int32.ofInt (w32 (a + b)) := by
  apply o32_eq
  rw [Int32.toInt_add, o32_t ha, o32_t hb, w32_w]
  exact w32_bmod _
theorem o32_sub {a b : Int} (ha : gr32 a) (hb : gr32 b) : Int32.ofInt a - Int32.ofInt b = Int32.ofInt (w32 (a - b)) := by
  apply o32_eq
  rw [Int32.toInt_sub, o32_t ha, o32_t hb, w32_w]
  exact w32_bmod _
theorem o32_mul {a b : Int} (ha : gr32 a) (hb : gr32 b) : Int32.ofInt a * Int32.ofInt b = Int32.ofInt (w32 (a * b)) := by
  apply o32_eq
  rw [Int32.toInt_mul, o32_t ha, o32_t hb, w32_w]
  exact w32_bmod _
theorem o32_neg {a : Int} (ha : gr32 a) : - Int32.ofInt a = Int32.ofInt (w32 (-a)) := by
  apply o32_eq
  rw [Int32.toInt_neg, o32_t ha, w32_w]
  exact w32_bmod _
theorem o32_div {a b : Int} (ha : gr32 a) (hb : gr32 b) : Int32.ofInt a / Int32.ofInt b = Int32.ofInt (w32 (a.tdiv b)) := by
  apply o32_eq
  rw [Int32.toInt_div, o32_t ha, o32_t hb, w32_w]
  exact w32_bmod _
theorem o64_add {a b : Int} (ha : gr64 a) (hb : gr64 b) : Int64.ofInt a + Int64.ofInt b = Int64.ofInt (w64 (a + b)) := by
  apply o64_eq
  rw [Int64.toInt_add, o64_t ha, o64_t hb, w64_w]
  exact w64_bmod _
theorem o64_mul {a b : Int} (ha : gr64 a) (hb : gr64 b) : Int64.ofInt a * Int64.ofInt b = Int64.ofInt (w64 (a * b)) := by
  apply o64_eq
  rw [Int64.toInt_mul, o64_t ha, o64_t hb, w64_w]
  exact w64_bmod _
theorem o64_div {a b : Int} (ha : gr64 a) (hb : gr64 b) : Int64.ofInt a / Int64.ofInt b = Int64.ofInt (w64 (a.tdiv b)) := by
  apply o64_eq
  rw [Int64.toInt_div, o64_t ha, o64_t hb, w64_w]
  exact w64_bmod _
theorem o32_inj {a b : Int} (ha : gr32 a) (hb : gr32 b) : Int32.ofInt a = Int32.ofInt b ↔ a = b := by
  rw [← Int32.toInt_inj, o32_t ha, o32_t hb]
theorem o32_lt {a b : Int} (ha : gr32 a) (hb : gr32 b) : Int32.ofInt a < Int32.ofInt b ↔ a < b := by
  rw [Int32.lt_iff_toInt_lt, o32_t ha, o32_t hb]
theorem o32_le {a b : Int} (ha : gr32 a) (hb : gr32 b) : Int32.ofInt a ≤ Int32.ofInt b ↔ a ≤ b := by
  rw [Int32.le_iff_toInt_le, o32_t ha, o32_t hb]
theorem o64_inj {a b : Int} (ha : gr64 a) (hb : gr64 b) : Int64.ofInt a = Int64.ofInt b ↔ a = b := by
  rw [← Int64.toInt_inj, o64_t ha, o64_t hb]
theorem o64_lt {a b : Int} (ha : gr64 a) (hb : gr64 b) : Int64.ofInt a < Int64.ofInt b ↔ a < b := by
  rw [Int64.lt_iff_toInt_lt, o64_t ha, o64_t hb]
theorem r32_0 : gr32 0 := by unfold gr32; omega
theorem o32_0 : Int32.ofInt 0 = 0 := rfl
theorem gr32_dec (x : Int) : gr32 x ↔ -2147483648 ≤ x ∧ x < 2147483648 := Iff.rfl
theorem gr64_of {x : Int} (h : gr32 x) : gr64 x := by unfold gr32 at h; unfold gr64; omega
theorem o32_i2l {a : Int} (h : gr32 a) : (Int32.ofInt a).toInt64 = Int64.ofInt a := by
  apply o64_eq
  rw [Int32.toInt_toInt64, o32_t h, w64_id (gr64_of h)]
theorem o64_l2i {a : Int} (h : gr64 a) : (Int64.ofInt a).toInt32 = Int32.ofInt (w32 a) := by
  apply o32_eq
  rw [Int64.toInt_toInt32, o64_t h, w32_w]
  exact w32_bmod _
theorem o32_bipush {n : Int} (h1 : -128 ≤ n) (h2 : n < 128) : (Int8.ofInt n).toInt32 = Int32.ofInt n := by
  apply o32_eq
  rw [Int8.toInt_toInt32, Int8.toInt_ofInt, w32_id (by unfold gr32; omega)]
  show n.bmod 256 = n
  unfold Int.bmod
  dsimp only
  split <;> omega
theorem o32_sipush {n : Int} (h1 : -32768 ≤ n) (h2 : n < 32768) : (Int16.ofInt n).toInt32 = Int32.ofInt n := by
  apply o32_eq
  rw [Int16.toInt_toInt32, Int16.toInt_ofInt, w32_id (by unfold gr32; omega)]
  show n.bmod 65536 = n
  unfold Int.bmod
  dsimp only
  split <;> omega
theorem gi2b_r (a : Int) : gr32 (gi2b a) := by unfold gr32 gi2b; omega
theorem gi2s_r (a : Int) : gr32 (gi2s a) := by unfold gr32 gi2s; omega
theorem gi2c_r (a : Int) : gr32 (gi2c a) := by unfold gr32 gi2c; omega
theorem o32_i2b {a : Int} (h : gr32 a) : (Int32.ofInt a).toInt8.toInt32 = Int32.ofInt (gi2b a) := by
  apply o32_eq
  rw [Int8.toInt_toInt32, Int32.toInt_toInt8, o32_t h, w32_id (gi2b_r a)]
  show a.bmod 256 = _
  unfold Int.bmod gi2b
  dsimp only
  split <;> omega
theorem o32_i2s {a : Int} (h : gr32 a) : (Int32.ofInt a).toInt16.toInt32 = Int32.ofInt (gi2s a) := by
  apply o32_eq
  rw [Int16.toInt_toInt32, Int32.toInt_toInt16, o32_t h, w32_id (gi2s_r a)]
  show a.bmod 65536 = _
  unfold Int.bmod gi2s
  dsimp only
  split <;> omega
theorem o32_nat (n : Nat) : Int32.ofNat n = Int32.ofInt (n : Int) := by
  apply o32_eq
  rw [Int32.toInt_ofNat']
  exact w32_bmod _
theorem o32_bv {a : Int} : ((Int32.ofInt a).toBitVec.toNat : Int) = a % 4294967296 := by
  show ((BitVec.ofInt 32 a).toNat : Int) = _
  rw [BitVec.toNat_ofInt]
  simp
  omega
theorem o32_i2c {a : Int} : ((Int32.ofInt a).toUInt32 % 65536).toInt32 = Int32.ofInt (gi2c a) := by
  rw [pk_char]
  show Int32.ofNat _ = _
  rw [o32_nat]
  congr 1
  have h := o32_bv (a := a)
  unfold gi2c
  omega
theorem o32_clamp {a : Int} (h : gr32 a) : (Int32.ofInt a).toNatClampNeg = a.toNat := by
  show (Int32.ofInt a).toInt.toNat = _
  rw [o32_t h]
theorem o32_in {a : Int} {n : Nat} (h : gr32 a) (h0 : 0 ≤ a) (h1 : a < n) : ¬ (Int32.ofInt a < 0 ∨ n ≤ (Int32.ofInt a).toNatClampNeg) := by
  rw [o32_clamp h, ← o32_0, o32_lt h r32_0]
  omega
theorem o32_max {a b : Int} (ha : gr32 a) (hb : gr32 b) : (if Int32.ofInt a < Int32.ofInt b then Int32.ofInt b else Int32.ofInt a) = Int32.ofInt (max a b) := by
  by_cases h : a < b
  · rw [if_pos ((o32_lt ha hb).mpr h), show max a b = b by omega]
  · rw [if_neg (fun q => h ((o32_lt ha hb).mp q)), show max a b = a by omega]
theorem o32_min {a b : Int} (ha : gr32 a) (hb : gr32 b) : (if Int32.ofInt b < Int32.ofInt a then Int32.ofInt b else Int32.ofInt a) = Int32.ofInt (min a b) := by
  by_cases h : b < a
  · rw [if_pos ((o32_lt hb ha).mpr h), show min a b = b by omega]
  · rw [if_neg (fun q => h ((o32_lt hb ha).mp q)), show min a b = a by omega]
theorem o64_min {a b : Int} (ha : gr64 a) (hb : gr64 b) : (if Int64.ofInt b < Int64.ofInt a then Int64.ofInt b else Int64.ofInt a) = Int64.ofInt (min a b) := by
  by_cases h : b < a
  · rw [if_pos ((o64_lt hb ha).mpr h), show min a b = b by omega]
  · rw [if_neg (fun q => h ((o64_lt hb ha).mp q)), show min a b = a by omega]
theorem o64_cmp {a b : Int} (ha : gr64 a) (hb : gr64 b) : lg_cmp (Int64.ofInt a) (Int64.ofInt b) = Int32.ofInt (glcmp a b) := by
  have e1 := o64_lt hb ha
  have e2 := o64_inj ha hb
  unfold lg_cmp glcmp
  by_cases h1 : a < b
  · rw [if_pos h1, if_neg (fun q => by have := e1.mp q; omega), if_neg (fun q => by have := e2.mp q; omega)]
    rfl
  · rw [if_neg h1]
    by_cases h2 : a = b
    · rw [if_pos h2, if_neg (fun q => by have := e1.mp q; omega), if_pos (e2.mpr h2)]
      rfl
    · rw [if_neg h2, if_pos (show Int64.ofInt b < Int64.ofInt a from e1.mpr (by omega))]
      rfl
theorem o32_rem {a b : Int} (ha : gr32 a) (hb : gr32 b) (h0 : 0 ≤ a) (h1 : 0 < b) : Int32.ofInt a - Int32.ofInt a / Int32.ofInt b * Int32.ofInt b = Int32.ofInt (a % b) := by
  have hq : a.tdiv b = a / b := Int.tdiv_eq_ediv_of_nonneg h0
  have h2 : 0 ≤ a / b := Int.ediv_nonneg h0 (by omega)
  have h3 : a / b * b + a % b = a := Int.ediv_mul_add_emod a b
  have h4 : 0 ≤ a % b := Int.emod_nonneg a (by omega)
  have h5 : 0 ≤ a / b * b := Int.mul_nonneg h2 (by omega)
  have h6 : a / b ≤ a / b * b := by
    have := Int.mul_le_mul_of_nonneg_left (show (1 : Int) ≤ b by omega) h2
    omega
  unfold gr32 at ha hb
  have r1 : gr32 (a / b) := by unfold gr32; omega
  rw [o32_div ha hb, hq, w32_id r1, o32_mul r1 hb, w32_id (by unfold gr32; omega), o32_sub ha (by unfold gr32; omega), w32_id (by unfold gr32; omega)]
  congr 1
  omega
