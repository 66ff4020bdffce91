/-! NUMBERS: a machine number by its value (toInt), a word by its unsigned value (uw, ul) -/
theorem q_b32 {a : Int} (h : -2147483648 ≤ a ∧ a < 2147483648) : a.bmod (2 ^ 32) = a := Int.bmod_eq_of_le (by omega) (by omega)
theorem q_b64 {a : Int} (h : -9223372036854775808 ≤ a ∧ a < 9223372036854775808) : a.bmod (2 ^ 64) = a := Int.bmod_eq_of_le (by omega) (by omega)
theorem q_r32 (x : Int32) : -2147483648 ≤ x.toInt ∧ x.toInt < 2147483648 := ⟨by have := x.le_toInt; omega, by have := x.toInt_lt; omega⟩
theorem q_r64 (x : Int64) : -9223372036854775808 ≤ x.toInt ∧ x.toInt < 9223372036854775808 := ⟨by have := x.le_toInt; omega, by have := x.toInt_lt; omega⟩
theorem q_iadd {x y : Int32} {a b : Int} (hx : x.toInt = a) (hy : y.toInt = b) (h : -2147483648 ≤ a + b ∧ a + b < 2147483648) : (x + y).toInt = a + b := by rw [Int32.toInt_add, hx, hy]; exact q_b32 h
theorem q_isub {x y : Int32} {a b : Int} (hx : x.toInt = a) (hy : y.toInt = b) (h : -2147483648 ≤ a - b ∧ a - b < 2147483648) : (x - y).toInt = a - b := by rw [Int32.toInt_sub, hx, hy]; exact q_b32 h
theorem q_imul {x y : Int32} {a b : Int} (hx : x.toInt = a) (hy : y.toInt = b) (h : -2147483648 ≤ a * b ∧ a * b < 2147483648) : (x * y).toInt = a * b := by rw [Int32.toInt_mul, hx, hy]; exact q_b32 h
theorem q_ineg {x : Int32} {a : Int} (hx : x.toInt = a) (h : -2147483648 ≤ -a ∧ -a < 2147483648) : (-x).toInt = -a := by rw [Int32.toInt_neg, hx]; exact q_b32 h
theorem q_ladd {x y : Int64} {a b : Int} (hx : x.toInt = a) (hy : y.toInt = b) (h : -9223372036854775808 ≤ a + b ∧ a + b < 9223372036854775808) : (x + y).toInt = a + b := by rw [Int64.toInt_add, hx, hy]; exact q_b64 h
theorem q_lsub {x y : Int64} {a b : Int} (hx : x.toInt = a) (hy : y.toInt = b) (h : -9223372036854775808 ≤ a - b ∧ a - b < 9223372036854775808) : (x - y).toInt = a - b := by rw [Int64.toInt_sub, hx, hy]; exact q_b64 h
theorem q_lmul {x y : Int64} {a b : Int} (hx : x.toInt = a) (hy : y.toInt = b) (h : -9223372036854775808 ≤ a * b ∧ a * b < 9223372036854775808) : (x * y).toInt = a * b := by rw [Int64.toInt_mul, hx, hy]; exact q_b64 h
theorem q_lneg {x : Int64} {a : Int} (hx : x.toInt = a) (h : -9223372036854775808 ≤ -a ∧ -a < 9223372036854775808) : (-x).toInt = -a := by rw [Int64.toInt_neg, hx]; exact q_b64 h
theorem q_i2l {x : Int32} {a : Int} (hx : x.toInt = a) : x.toInt64.toInt = a := by rw [Int32.toInt_toInt64, hx]
theorem q_l2i {x : Int64} {a : Int} (hx : x.toInt = a) (h : -2147483648 ≤ a ∧ a < 2147483648) : x.toInt32.toInt = a := by rw [Int64.toInt_toInt32, hx]; exact q_b32 h
theorem q_idiv {x y : Int32} {a b : Int} (hx : x.toInt = a) (hy : y.toInt = b) (h : 0 ≤ a ∧ 0 < b) : (x / y).toInt = a / b := by
  have hr := q_r32 x
  have h1 : 0 ≤ a / b := Int.ediv_nonneg h.1 (by omega)
  have h2 : a / b ≤ a := Int.ediv_le_self _ h.1
  rw [Int32.toInt_div, hx, hy, Int.tdiv_eq_ediv_of_nonneg h.1]
  exact q_b32 ⟨by omega, by omega⟩
theorem q_ldiv {x y : Int64} {a b : Int} (hx : x.toInt = a) (hy : y.toInt = b) (h : 0 ≤ a ∧ 0 < b) : (x / y).toInt = a / b := by
  have hr := q_r64 x
  have h1 : 0 ≤ a / b := Int.ediv_nonneg h.1 (by omega)
  have h2 : a / b ≤ a := Int.ediv_le_self _ h.1
  rw [Int64.toInt_div, hx, hy, Int.tdiv_eq_ediv_of_nonneg h.1]
  exact q_b64 ⟨by omega, by omega⟩
theorem q_irem {x y : Int32} {a b : Int} (hx : x.toInt = a) (hy : y.toInt = b) (h : 0 ≤ a ∧ 0 < b) : (x - x / y * y).toInt = a % b := by
  have hr := q_r32 x
  have hd := q_idiv hx hy h
  have h0 := Int.emod_nonneg a (show b ≠ 0 by omega)
  have h1 := Int.emod_lt_of_pos a h.2
  have h2 : a / b * b + a % b = a := Int.ediv_mul_add_emod a b
  have h3 : 0 ≤ a / b * b := Int.mul_nonneg (Int.ediv_nonneg h.1 (by omega)) (by omega)
  have hm := q_imul hd hy ⟨by omega, by omega⟩
  rw [q_isub hx hm ⟨by omega, by omega⟩]
  omega
theorem q_lrem {x y : Int64} {a b : Int} (hx : x.toInt = a) (hy : y.toInt = b) (h : 0 ≤ a ∧ 0 < b) : (x - x / y * y).toInt = a % b := by
  have hr := q_r64 x
  have hd := q_ldiv hx hy h
  have h0 := Int.emod_nonneg a (show b ≠ 0 by omega)
  have h1 := Int.emod_lt_of_pos a h.2
  have h2 : a / b * b + a % b = a := Int.ediv_mul_add_emod a b
  have h3 : 0 ≤ a / b * b := Int.mul_nonneg (Int.ediv_nonneg h.1 (by omega)) (by omega)
  have hm := q_lmul hd hy ⟨by omega, by omega⟩
  rw [q_lsub hx hm ⟨by omega, by omega⟩]
  omega
theorem q_ilt {x y : Int32} {a b : Int} (hx : x.toInt = a) (hy : y.toInt = b) : x < y ↔ a < b := by rw [Int32.lt_iff_toInt_lt, hx, hy]
theorem q_ile {x y : Int32} {a b : Int} (hx : x.toInt = a) (hy : y.toInt = b) : x ≤ y ↔ a ≤ b := by rw [Int32.le_iff_toInt_le, hx, hy]
theorem q_ieq {x y : Int32} {a b : Int} (hx : x.toInt = a) (hy : y.toInt = b) : x = y ↔ a = b := by rw [← Int32.toInt_inj, hx, hy]
theorem q_llt {x y : Int64} {a b : Int} (hx : x.toInt = a) (hy : y.toInt = b) : x < y ↔ a < b := by rw [Int64.lt_iff_toInt_lt, hx, hy]
theorem q_lle {x y : Int64} {a b : Int} (hx : x.toInt = a) (hy : y.toInt = b) : x ≤ y ↔ a ≤ b := by rw [Int64.le_iff_toInt_le, hx, hy]
theorem q_leq {x y : Int64} {a b : Int} (hx : x.toInt = a) (hy : y.toInt = b) : x = y ↔ a = b := by rw [← Int64.toInt_inj, hx, hy]
theorem q_in {x : Int32} {n : Nat} {a : Int} (hx : x.toInt = a) (h : 0 ≤ a ∧ a < n) : vp_in x n := vp_in_iff.mpr (by rw [hx]; exact h)
theorem q_cl {x : Int32} {k : Nat} (hx : x.toInt = (k : Int)) : x.toNatClampNeg = k := by show x.toInt.toNat = k; rw [hx]; rfl
theorem q_nI {x : Int32} {k : Nat} (hx : x.toInt = (k : Int)) : x = nI k := by
  have := q_r32 x
  exact Int32.toInt_inj.mp (by rw [hx, nI_toInt (by omega)])
theorem q_lN {x : Int64} {k : Nat} (hx : x.toInt = (k : Int)) : x = lN k := by
  have := q_r64 x
  exact Int64.toInt_inj.mp (by rw [hx, pk_lT (by omega)])
/-- what lcmp leaves, against 0 -/
theorem q_cmp_lt {x y : Int64} {a b : Int} (hx : x.toInt = a) (hy : y.toInt = b) : lg_cmp x y < 0 ↔ a < b := by
  subst hx; subst hy
  unfold lg_cmp
  simp only [Int64.lt_iff_toInt_lt, ← Int64.toInt_inj]
  split
  · constructor
    · intro h; exact absurd h (by decide)
    · intro h; omega
  · split
    · constructor
      · intro h; exact absurd h (by decide)
      · intro h; omega
    · constructor
      · intro _; omega
      · intro _; decide
theorem q_cmp_eq {x y : Int64} {a b : Int} (hx : x.toInt = a) (hy : y.toInt = b) : lg_cmp x y = 0 ↔ a = b := by
  subst hx; subst hy
  unfold lg_cmp
  simp only [Int64.lt_iff_toInt_lt, ← Int64.toInt_inj]
  split
  · constructor
    · intro h; exact absurd h (by decide)
    · intro h; omega
  · split
    · constructor
      · intro _; assumption
      · intro _; rfl
    · constructor
      · intro h; exact absurd h (by decide)
      · intro h; omega
theorem q_cmp_gt {x y : Int64} {a b : Int} (hx : x.toInt = a) (hy : y.toInt = b) : 0 < lg_cmp x y ↔ b < a := by
  subst hx; subst hy
  unfold lg_cmp
  simp only [Int64.lt_iff_toInt_lt, ← Int64.toInt_inj]
  split
  · constructor
    · intro _; assumption
    · intro _; decide
  · split
    · constructor
      · intro h; exact absurd h (by decide)
      · intro h; omega
    · constructor
      · intro h; exact absurd h (by decide)
      · intro h; omega
theorem q_cmp_le {x y : Int64} {a b : Int} (hx : x.toInt = a) (hy : y.toInt = b) : lg_cmp x y ≤ 0 ↔ a ≤ b := by
  have h := q_cmp_gt hx hy
  constructor
  · intro h1
    refine Int.not_lt.mp fun h2 => ?_
    have h3 := h.mpr h2
    rw [Int32.lt_iff_toInt_lt] at h3
    rw [Int32.le_iff_toInt_le] at h1
    omega
  · intro h1
    rw [Int32.le_iff_toInt_le]
    refine Int.not_lt.mp fun h2 => ?_
    have h3 := h.mp (Int32.lt_iff_toInt_lt.mpr h2)
    omega
theorem q_cmp_ge {x y : Int64} {a b : Int} (hx : x.toInt = a) (hy : y.toInt = b) : 0 ≤ lg_cmp x y ↔ b ≤ a := by
  have h := q_cmp_lt hx hy
  constructor
  · intro h1
    refine Int.not_lt.mp fun h2 => ?_
    have h3 := h.mpr h2
    rw [Int32.lt_iff_toInt_lt] at h3
    rw [Int32.le_iff_toInt_le] at h1
    omega
  · intro h1
    rw [Int32.le_iff_toInt_le]
    refine Int.not_lt.mp fun h2 => ?_
    have h3 := h.mp (Int32.lt_iff_toInt_lt.mpr h2)
    omega
/-! words -/
def uw (x : Int32) : Nat := x.toBitVec.toNat
def ul (x : Int64) : Nat := x.toBitVec.toNat
theorem uw_lt (x : Int32) : uw x < 4294967296 := x.toBitVec.isLt
theorem ul_lt (x : Int64) : ul x < 18446744073709551616 := x.toBitVec.isLt
theorem uw_inj {x y : Int32} (h : uw x = uw y) : x = y := Int32.toBitVec_inj.mp (BitVec.eq_of_toNat_eq h)
theorem ul_inj {x y : Int64} (h : ul x = ul y) : x = y := Int64.toBitVec_inj.mp (BitVec.eq_of_toNat_eq h)
theorem uw_int (x : Int32) : x.toInt = if uw x < 2147483648 then (uw x : Int) else (uw x : Int) - 4294967296 := by
  rw [← Int32.toInt_toBitVec, BitVec.toInt_eq_toNat_cond]
  have := uw_lt x
  unfold uw at *
  split <;> split <;> omega
theorem ul_int (x : Int64) : x.toInt = if ul x < 9223372036854775808 then (ul x : Int) else (ul x : Int) - 18446744073709551616 := by
  rw [← Int64.toInt_toBitVec, BitVec.toInt_eq_toNat_cond]
  have := ul_lt x
  unfold ul at *
  split <;> split <;> omega
theorem uw_of {x : Int32} {k : Nat} (h : x.toInt = (k : Int)) : uw x = k := by
  have h1 := uw_int x
  have := uw_lt x
  split at h1 <;> omega
theorem ul_of {x : Int64} {k : Nat} (h : x.toInt = (k : Int)) : ul x = k := by
  have h1 := ul_int x
  have := ul_lt x
  split at h1 <;> omega
theorem ul_to {x : Int64} (h : ul x < 9223372036854775808) : x.toInt = (ul x : Int) := by rw [ul_int, if_pos h]
theorem uw_to {x : Int32} (h : uw x < 2147483648) : x.toInt = (uw x : Int) := by rw [uw_int, if_pos h]
theorem ul_add (x y : Int64) : ul (x + y) = (ul x + ul y) % 18446744073709551616 := by
  show (x + y).toBitVec.toNat = _
  rw [Int64.toBitVec_add, BitVec.toNat_add]; rfl
theorem ul_mul (x y : Int64) : ul (x * y) = (ul x * ul y) % 18446744073709551616 := by
  show (x * y).toBitVec.toNat = _
  rw [Int64.toBitVec_mul, BitVec.toNat_mul]; rfl
/-- (int) x -/
theorem uw_l2i (x : Int64) : uw x.toInt32 = ul x % 4294967296 := by
  show x.toInt32.toBitVec.toNat = _
  rw [Int64.toBitVec_toInt32, BitVec.signExtend_eq_setWidth_of_le _ (by decide), BitVec.toNat_setWidth]; rfl
/-- x & 0xFFFFFFFFL -/
theorem ul_lo (x : Int64) : ul (x &&& 4294967295) = ul x % 4294967296 := by
  show (x &&& 4294967295).toBitVec.toNat = _
  rw [Int64.toBitVec_and, BitVec.toNat_and]
  exact Nat.and_two_pow_sub_one_eq_mod _ 32
theorem ul_i2l_lo (x : Int32) : ul (x.toInt64 &&& 4294967295) = uw x := by
  rw [ul_lo]
  have h1 := ul_int x.toInt64
  rw [Int32.toInt_toInt64, uw_int] at h1
  have := ul_lt x.toInt64
  have := uw_lt x
  split at h1 <;> split at h1 <;> omega
/-- x >>> 32 -/
theorem ul_s32 (x : Int64) : ul (x.toUInt64 >>> ((32 : Int32).toInt64.toUInt64 &&& Int64.toUInt64 63)).toInt64 = ul x / 4294967296 := by
  show ((x.toUInt64 >>> ((32 : Int32).toInt64.toUInt64 &&& Int64.toUInt64 63)).toInt64).toBitVec.toNat = _
  have e : ((32 : Int32).toInt64.toUInt64 &&& Int64.toUInt64 63) = 32 := by decide
  rw [e]
  show (x.toUInt64 >>> 32).toBitVec.toNat = _
  rw [UInt64.toBitVec_shiftRight, BitVec.ushiftRight_eq', BitVec.toNat_ushiftRight, Nat.shiftRight_eq_div_pow]
  rfl
/-- x >> 32 -/
theorem q_sar32 {x : Int64} {a : Int} (hx : x.toInt = a) : (x >>> ((32 : Int32).toInt64 &&& 63)).toInt = a / 4294967296 := by
  subst hx
  have e : ((32 : Int32).toInt64 &&& 63) = 32 := by decide
  rw [e, ← Int64.toInt_toBitVec, Int64.toBitVec_shiftRight, BitVec.toInt_sshiftRight', Int.shiftRight_eq_div_pow]
  rfl
