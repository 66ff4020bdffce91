/-! SHIFTS AND MASKS by value -/
theorem q_lshl {x : Int64} {y : Int32} {a k : Nat} (hx : x.toInt = (a : Int)) (hy : y.toInt = (k : Int)) (hk : k < 64) (h : a * 2 ^ k < 9223372036854775808) : (x <<< (y.toInt64 &&& 63)).toInt = ((a * 2 ^ k : Nat) : Int) := by
  have h1 : ul (x <<< (y.toInt64 &&& 63)) = a * 2 ^ k := by rw [ul_shl hy hk, ul_of hx, Nat.mod_eq_of_lt (by omega)]
  rw [ul_to (by rw [h1]; exact h), h1]
theorem sm32 : ∀ k, k < 32 → ((nI k &&& 31).toBitVec.smod 32).toNat = k := by decide
theorem q_ishl {x : Int32} {y : Int32} {a k : Nat} (hx : x.toInt = (a : Int)) (hy : y.toInt = (k : Int)) (hk : k < 32) (h : a * 2 ^ k < 2147483648) : (x <<< (y &&& 31)).toInt = ((a * 2 ^ k : Nat) : Int) := by
  have h1 : uw (x <<< (y &&& 31)) = a * 2 ^ k := by
    rw [q_nI hy]
    show (x <<< (nI k &&& 31)).toBitVec.toNat = _
    rw [pk_shl x _ k (sm32 k hk), show x.toBitVec.toNat = a from uw_of hx, Nat.mod_eq_of_lt (by omega)]
  rw [uw_to (by rw [h1]; exact h), h1]
theorem q_lshr {x : Int64} {y : Int32} {a k : Nat} (hx : x.toInt = (a : Int)) (hy : y.toInt = (k : Int)) (hk : k < 64) : (x >>> (y.toInt64 &&& 63)).toInt = ((a / 2 ^ k : Nat) : Int) := by
  rw [q_nI hy, ← Int64.toInt_toBitVec, Int64.toBitVec_shiftRight, BitVec.toInt_sshiftRight', sm64 k hk, Int64.toInt_toBitVec, hx, Int.shiftRight_eq_div_pow, Int.natCast_ediv]
theorem q_land {x y : Int64} {a k : Nat} (hx : x.toInt = (a : Int)) (hy : y.toInt = ((2 ^ k - 1 : Nat) : Int)) : (x &&& y).toInt = ((a % 2 ^ k : Nat) : Int) := by
  have h1 : ul (x &&& y) = a % 2 ^ k := by
    show (x &&& y).toBitVec.toNat = _
    rw [Int64.toBitVec_and, BitVec.toNat_and, show x.toBitVec.toNat = a from ul_of hx, show y.toBitVec.toNat = 2 ^ k - 1 from ul_of hy]
    exact Nat.and_two_pow_sub_one_eq_mod _ k
  have h2 := q_r64 x
  have h3 : a % 2 ^ k ≤ a := Nat.mod_le _ _
  rw [ul_to (by rw [h1]; omega), h1]
theorem q_iand {x y : Int32} {a k : Nat} (hx : x.toInt = (a : Int)) (hy : y.toInt = ((2 ^ k - 1 : Nat) : Int)) : (x &&& y).toInt = ((a % 2 ^ k : Nat) : Int) := by
  have h1 : uw (x &&& y) = a % 2 ^ k := by
    show (x &&& y).toBitVec.toNat = _
    rw [Int32.toBitVec_and, BitVec.toNat_and, show x.toBitVec.toNat = a from uw_of hx, show y.toBitVec.toNat = 2 ^ k - 1 from uw_of hy]
    exact Nat.and_two_pow_sub_one_eq_mod _ k
  have h2 := q_r32 x
  have h3 : a % 2 ^ k ≤ a := Nat.mod_le _ _
  rw [uw_to (by rw [h1]; omega), h1]
/-! FORMATS -/
def LY (eb fb : Int32) (E M : Nat) : Prop := eb.toInt = (E : Int) ∧ fb.toInt = (M : Int) ∧ 2 ≤ E ∧ E ≤ 8 ∧ 1 ≤ M ∧ M ≤ 23
def ex (M Z : Nat) : Nat := Z / 2 ^ M
def fz (M Z : Nat) : Nat := Z % 2 ^ M
def sgf (M Z : Nat) : Nat := if ex M Z = 0 then Z else 2 ^ M + fz M Z
theorem ex_le (M Z : Nat) : ex M Z ≤ Z := Nat.div_le_self _ _
theorem fz_lt (M Z : Nat) : fz M Z < 2 ^ M := Nat.mod_lt _ (pw_p M)
def lowP (E M : Nat) : Int := 1 - ((2 ^ (E - 1) - 1 : Nat) : Int) - (M : Int)
def pwr (E M Z : Nat) : Int := lowP E M + ((ex M Z - 1 : Nat) : Int)
theorem p_le {a b : Nat} (h : a ≤ b) : 2 ^ a ≤ 2 ^ b := Nat.pow_le_pow_right (by decide) h
theorem p_bias {E : Nat} (h1 : 2 ≤ E) (h2 : E ≤ 8) : 2 ≤ 2 ^ (E - 1) ∧ 2 ^ (E - 1) ≤ 128 := ⟨p_le (a := 1) (by omega), p_le (b := 7) (by omega)⟩
def sb (E M : Nat) : Nat := 2 ^ (E + M)
def iz (E M : Nat) : Nat := (2 ^ E - 1) * 2 ^ M
theorem p_em {E M : Nat} (h1 : 2 ≤ E) (h2 : E ≤ 8) (h3 : 1 ≤ M) (h4 : M ≤ 23) : 8 ≤ sb E M ∧ sb E M ≤ 2147483648 := ⟨p_le (a := 3) (by omega), p_le (b := 31) (by omega)⟩
theorem sb_mul (E M : Nat) : sb E M = 2 ^ E * 2 ^ M := Nat.pow_add 2 E M
theorem iz_sb (E M : Nat) : iz E M + 2 ^ M = sb E M := by
  rw [sb_mul, iz, Nat.sub_mul, Nat.one_mul]
  have := Nat.mul_le_mul_right (2 ^ M) (pw_p E)
  omega
theorem p_m {M : Nat} (h4 : M ≤ 23) : 2 ^ M ≤ 8388608 := p_le (b := 23) h4
theorem p_e {E : Nat} (h1 : 2 ≤ E) (h2 : E ≤ 8) : 4 ≤ 2 ^ E ∧ 2 ^ E ≤ 256 := ⟨p_le (a := 2) h1, p_le (b := 8) h2⟩
theorem ex_lt {E M Z : Nat} (h : Z < sb E M) : ex M Z < 2 ^ E := (Nat.div_lt_iff_lt_mul (pw_p M)).mpr (by rw [← sb_mul]; exact h)
def szo (E M Z : Nat) : Nat := Z % sb E M
theorem szo_lt {E M Z : Nat} : szo E M Z < sb E M := Nat.mod_lt _ (pw_p _)
/-! Math.floorDiv, Long.numberOfLeadingZeros -/
theorem tdiv_rng2 {x y : Int} (hx : -2147483648 ≤ x ∧ x < 2147483648) (hy : 1 < y) : -1073741824 ≤ x.tdiv y ∧ x.tdiv y ≤ 1073741824 := by
  rcases Int.le_total 0 x with h | h
  · rw [Int.tdiv_eq_ediv_of_nonneg h]
    have h1 : 0 ≤ x / y := Int.ediv_nonneg h (by omega)
    have h2 : x / y * 2 ≤ x := by
      have := Int.ediv_mul_le x (show y ≠ 0 by omega)
      have h3 : x / y * 2 ≤ x / y * y := Int.mul_le_mul_of_nonneg_left (by omega) h1
      omega
    omega
  · have e : x.tdiv y = -((-x) / y) := by
      rw [← Int.tdiv_eq_ediv_of_nonneg (show 0 ≤ -x by omega), Int.neg_tdiv, Int.neg_neg]
    have h1 : 0 ≤ (-x) / y := Int.ediv_nonneg (by omega) (by omega)
    have h2 : (-x) / y * 2 ≤ -x := by
      have := Int.ediv_mul_le (-x) (show y ≠ 0 by omega)
      have h3 : (-x) / y * 2 ≤ (-x) / y * y := Int.mul_le_mul_of_nonneg_left (by omega) h1
      omega
    rw [e]
    omega
theorem tdiv_mul {x y : Int} (hy : 1 < y) : x.tdiv y * y = x - x.tmod y := by
  have := Int.mul_tdiv_add_tmod x y
  rw [Int.mul_comm] at this
  omega
theorem tdiv_rng {x y : Int} (hx : -2147483648 ≤ x ∧ x < 2147483648) (hy : 1 < y) : -2147483648 ≤ x.tdiv y * y ∧ x.tdiv y * y < 2147483648 := by
  rcases Int.le_total 0 x with h | h
  · rw [Int.tdiv_eq_ediv_of_nonneg h]
    have h1 := Int.ediv_mul_le x (show y ≠ 0 by omega)
    have h2 : 0 ≤ x / y * y := Int.mul_nonneg (Int.ediv_nonneg h (by omega)) (by omega)
    omega
  · have e : x.tdiv y * y = -((-x) / y * y) := by
      rw [← Int.tdiv_eq_ediv_of_nonneg (show 0 ≤ -x by omega), Int.neg_tdiv, Int.neg_mul, Int.neg_neg]
    have h1 := Int.ediv_mul_le (-x) (show y ≠ 0 by omega)
    have h2 : 0 ≤ (-x) / y * y := Int.mul_nonneg (Int.ediv_nonneg (by omega) (by omega)) (by omega)
    rw [e]
    omega
theorem q_tdiv {x y : Int32} (hy : 1 < y.toInt) : (x / y).toInt = x.toInt.tdiv y.toInt := by
  have := tdiv_rng2 (q_r32 x) hy
  rw [Int32.toInt_div]
  exact q_b32 ⟨by omega, by omega⟩
theorem q_ixor_pos {x y v : Int32} (hy : 1 < y.toInt) (e : v = x ^^^ y) : 0 ≤ v ↔ 0 ≤ x.toInt := by
  have h1 : v.toBitVec.msb = (x.toBitVec.msb ^^ y.toBitVec.msb) := by rw [e, Int32.toBitVec_xor, BitVec.msb_xor]
  have h2 : y.toBitVec.msb = false := by rw [BitVec.msb_eq_toInt, Int32.toInt_toBitVec]; exact decide_eq_false (by omega)
  rw [h2, Bool.xor_false, BitVec.msb_eq_toInt, BitVec.msb_eq_toInt, Int32.toInt_toBitVec, Int32.toInt_toBitVec] at h1
  rw [Int32.le_iff_toInt_le, show (0 : Int32).toInt = 0 by decide]
  have h3 := decide_eq_decide.mp h1
  omega
theorem tdiv_exact {x y : Int} (hy : 0 < y) (h : x.tdiv y * y = x) : x.tdiv y = x / y := by
  have h1 : x / y = (x.tdiv y * y) / y := by rw [h]
  rw [h1, Int.mul_ediv_cancel _ (by omega)]
theorem tdiv_less {x y : Int} (hy : 0 < y) (hx : x < 0) (h : ¬ x.tdiv y * y = x) : x.tdiv y - 1 = x / y := by
  have e : x.tdiv y = -((-x) / y) := by
    rw [← Int.tdiv_eq_ediv_of_nonneg (show 0 ≤ -x by omega), Int.neg_tdiv, Int.neg_neg]
  have h1 := Int.mul_ediv_add_emod (-x) y
  have h2 := Int.emod_nonneg (-x) (show y ≠ 0 by omega)
  have h3 := Int.emod_lt_of_pos (-x) hy
  rw [e] at h ⊢
  have h4 : -((-x) / y) * y = -(y * ((-x) / y)) := by rw [Int.neg_mul, Int.mul_comm]
  have h5 : (-x) % y ≠ 0 := fun h0 => h (by rw [h4]; omega)
  symm
  rw [Int.ediv_eq_iff_of_pos hy]
  have h6 : (-((-x) / y) - 1) * y = -(y * ((-x) / y)) - y := by rw [Int.sub_mul, h4, Int.one_mul]
  have h7 : (-((-x) / y) - 1 + 1) * y = -(y * ((-x) / y)) := by rw [Int.sub_add_cancel, h4]
  constructor <;> omega
theorem lnlz_lo {x : Int64} {v3 : Int64} {v4 v13 r14 v17 : Int32} {z : Nat} (hx0 : 0 < ul x) (tz : r14.toInt = (z : Int)) (hz : (v13.toInt = 0 ∧ z = 32) ∨ (z < 32 ∧ 2 ^ (31 - z) ≤ uw v13 ∧ uw v13 < 2 ^ (32 - z)))
    (e3 : v3 = (x.toUInt64 >>> ((32 : Int32).toInt64.toUInt64 &&& Int64.toUInt64 63)).toInt64) (e4 : v4 = v3.toInt32) (e13 : v13 = x.toInt32) (b7 : v4 = 0) (t17 : v17.toInt = 32 + (z : Int)) :
    ∃ z : Nat, v17.toInt = (z : Int) ∧ z < 64 ∧ 2 ^ (63 - z) ≤ ul x ∧ ul x < 2 ^ (64 - z) := by
  have h1 : uw v4 = 0 := by rw [b7]; rfl
  rw [e4, uw_l2i, e3, ul_s32] at h1
  have h2 := ul_lt x
  have h3 : uw v13 = ul x := by rw [e13, uw_l2i]; omega
  rcases hz with ⟨h4, -⟩ | ⟨h4, h5, h6⟩
  · have h5 : uw v13 = 0 := uw_of (k := 0) h4
    omega
  · rw [h3] at h5 h6
    exact ⟨32 + z, by omega, by omega, by rw [show 63 - (32 + z) = 31 - z by omega]; exact h5, by rw [show 64 - (32 + z) = 32 - z by omega]; exact h6⟩
theorem lnlz_hi {x : Int64} {v3 : Int64} {v4 r22 : Int32} {z : Nat} (tz : r22.toInt = (z : Int)) (hz : (v4.toInt = 0 ∧ z = 32) ∨ (z < 32 ∧ 2 ^ (31 - z) ≤ uw v4 ∧ uw v4 < 2 ^ (32 - z)))
    (e3 : v3 = (x.toUInt64 >>> ((32 : Int32).toInt64.toUInt64 &&& Int64.toUInt64 63)).toInt64) (e4 : v4 = v3.toInt32) (b7 : ¬ v4 = 0) :
    ∃ z : Nat, r22.toInt = (z : Int) ∧ z < 64 ∧ 2 ^ (63 - z) ≤ ul x ∧ ul x < 2 ^ (64 - z) := by
  have h2 := ul_lt x
  have h1 : uw v4 = ul x / 4294967296 := by rw [e4, uw_l2i, e3, ul_s32]; omega
  rcases hz with ⟨h4, -⟩ | ⟨h4, h5, h6⟩
  · exact absurd (Int32.toInt_inj.mp (h4.trans (show (0 : Int) = (0 : Int32).toInt by decide))) b7
  · rw [h1] at h5 h6
    refine ⟨z, tz, by omega, ?_, ?_⟩
    · rw [show 63 - z = 31 - z + 32 by omega, Nat.pow_add]
      have := Nat.div_mul_le_self (ul x) 4294967296
      have h7 := Nat.mul_le_mul_right 4294967296 h5
      exact Nat.le_trans h7 this
    · rw [show 64 - z = 32 - z + 32 by omega, Nat.pow_add]
      exact (Nat.div_lt_iff_lt_mul (by decide)).mp h6
