/-! THE REFERENCE -/
theorem q_sarK {x : Int64} {y : Int32} {k : Nat} (hy : y.toInt = (k : Int)) (hk : k < 64) : (x >>> (y.toInt64 &&& 63)).toInt = x.toInt / (2 ^ k : Nat) := by
  rw [q_nI hy, ← Int64.toInt_toBitVec, Int64.toBitVec_shiftRight, BitVec.toInt_sshiftRight', sm64 k hk, Int64.toInt_toBitVec, Int.shiftRight_eq_div_pow]
theorem q_land255 (x : Int64) : (x &&& 255).toInt = ((ul x % 256 : Nat) : Int) := by
  have h1 : ul (x &&& 255) = ul x % 256 := by
    show (x &&& 255).toBitVec.toNat = _
    rw [Int64.toBitVec_and, BitVec.toNat_and]
    exact Nat.and_two_pow_sub_one_eq_mod _ 8
  rw [ul_to (by omega), h1]
theorem q_byte {w v : Int64} {y : Int32} {k : Nat} (e : v = w >>> (y.toInt64 &&& 63)) (hy : y.toInt = ((8 * k : Nat) : Int)) (hk : k < 8) : (v &&& 255).toInt = (byW w k : Int) := by
  have h1 : v.toInt = w.toInt / (2 ^ (8 * k) : Nat) := by rw [e]; exact q_sarK hy (by omega)
  rw [q_land255]
  congr 1
  have h2 := ul_int v
  have h3 := ul_int w
  have h4 := ul_lt w
  have h5 := ul_lt v
  unfold byW
  rcases (show k = 0 ∨ k = 1 ∨ k = 2 ∨ k = 3 ∨ k = 4 ∨ k = 5 ∨ k = 6 ∨ k = 7 by omega) with rfl | rfl | rfl | rfl | rfl | rfl | rfl | rfl
  · rw [show (2 ^ (8 * 0) : Nat) = 1 by decide] at h1 ⊢
    split at h2 <;> split at h3 <;> omega
  · rw [show (2 ^ (8 * 1) : Nat) = 256 by decide] at h1 ⊢
    split at h2 <;> split at h3 <;> omega
  · rw [show (2 ^ (8 * 2) : Nat) = 65536 by decide] at h1 ⊢
    split at h2 <;> split at h3 <;> omega
  · rw [show (2 ^ (8 * 3) : Nat) = 16777216 by decide] at h1 ⊢
    split at h2 <;> split at h3 <;> omega
  · rw [show (2 ^ (8 * 4) : Nat) = 4294967296 by decide] at h1 ⊢
    split at h2 <;> split at h3 <;> omega
  · rw [show (2 ^ (8 * 5) : Nat) = 1099511627776 by decide] at h1 ⊢
    split at h2 <;> split at h3 <;> omega
  · rw [show (2 ^ (8 * 6) : Nat) = 281474976710656 by decide] at h1 ⊢
    split at h2 <;> split at h3 <;> omega
  · rw [show (2 ^ (8 * 7) : Nat) = 72057594037927936 by decide] at h1 ⊢
    split at h2 <;> split at h3 <;> omega
theorem isPat_shr {E M : Nat} {x : Int} (h : 0 ≤ x) : x / (2 ^ (1 + E + M) : Nat) = 0 ↔ x < ((2 * sb E M : Nat) : Int) := by
  have e : 2 ^ (1 + E + M) = 2 * sb E M := by rw [sb, Nat.add_assoc, Nat.pow_add]
  rw [e]
  have hp : (0 : Int) < ((2 * sb E M : Nat) : Int) := by have : 0 < sb E M := pw_p _; omega
  constructor
  · intro h1
    refine Int.not_le.mp fun h2 => ?_
    have := Int.le_ediv_of_mul_le hp (show 1 * ((2 * sb E M : Nat) : Int) ≤ x by omega)
    omega
  · intro h1
    exact Int.ediv_eq_zero_of_lt h h1
