/-! LIMBS: the value of a row of words, the lowest first -/
def nv (f : Nat → Int32) : Nat → Nat
  | 0 => 0
  | n + 1 => nv f n + uw (f n) * 2 ^ (32 * n)
theorem pw_s (n : Nat) : 2 ^ (32 * (n + 1)) = 4294967296 * 2 ^ (32 * n) := by
  rw [Nat.mul_succ, Nat.pow_add, Nat.mul_comm]
theorem pw_p (n : Nat) : 0 < 2 ^ n := Nat.pow_pos (by decide)
theorem nv_lt (f : Nat → Int32) : ∀ n, nv f n < 2 ^ (32 * n)
  | 0 => by simp [nv]
  | n + 1 => by
    have h1 := nv_lt f n
    have h2 := Nat.mul_le_mul_right (2 ^ (32 * n)) (Nat.le_of_lt_succ (uw_lt (f n)))
    rw [pw_s]
    show nv f n + uw (f n) * 2 ^ (32 * n) < _
    omega
theorem nv_congr {f g : Nat → Int32} : ∀ {n : Nat}, (∀ i, i < n → f i = g i) → nv f n = nv g n
  | 0, _ => rfl
  | n + 1, h => by
    show nv f n + uw (f n) * 2 ^ (32 * n) = nv g n + uw (g n) * 2 ^ (32 * n)
    rw [nv_congr (fun i hi => h i (by omega)), h n (by omega)]
theorem nv_upd {f : Nat → Int32} {k n : Nat} {x : Int32} (h : n ≤ k) : nv (upd f k x) n = nv f n := nv_congr (fun i hi => pk_un (by omega))
theorem nv_upd_s {f : Nat → Int32} {n : Nat} {x : Int32} : nv (upd f n x) (n + 1) = nv f n + uw x * 2 ^ (32 * n) := by
  show nv (upd f n x) n + uw (upd f n x n) * 2 ^ (32 * n) = _
  rw [nv_upd (Nat.le_refl n), pk_us]
theorem nv_zero {f : Nat → Int32} : ∀ {n : Nat}, (∀ i, i < n → f i = 0) → nv f n = 0
  | 0, _ => rfl
  | n + 1, h => by
    show nv f n + uw (f n) * 2 ^ (32 * n) = 0
    rw [nv_zero (fun i hi => h i (by omega)), h n (by omega)]
    simp [uw]
theorem nv_ge {f : Nat → Int32} : ∀ {n i : Nat}, i < n → uw (f i) * 2 ^ (32 * i) ≤ nv f n
  | 0, i, h => by omega
  | n + 1, i, h => by
    show _ ≤ nv f n + uw (f n) * 2 ^ (32 * n)
    rcases Nat.lt_or_ge i n with h1 | h1
    · exact Nat.le_trans (nv_ge h1) (Nat.le_add_right _ _)
    · have : i = n := by omega
      subst this
      exact Nat.le_add_left _ _
theorem uw_pos {x : Int32} (h : x ≠ 0) : 0 < uw x := by
  refine Nat.pos_of_ne_zero fun h0 => h (uw_inj (h0.trans ?_))
  rfl
theorem nv_pos {f : Nat → Int32} {n i : Nat} (hi : i < n) (h : f i ≠ 0) : 0 < nv f n :=
  Nat.lt_of_lt_of_le (Nat.mul_pos (uw_pos h) (pw_p _)) (nv_ge hi)
/-- from place i up all the same: the lower part decides -/
theorem nv_split {f h : Nat → Int32} : ∀ {n i : Nat}, i ≤ n → (∀ j, i ≤ j → j < n → f j = h j) → nv f n + nv h i = nv h n + nv f i
  | 0, i, hi, _ => by
    have : i = 0 := by omega
    subst this; rfl
  | n + 1, i, hi, hs => by
    rcases Nat.lt_or_ge i (n + 1) with h1 | h1
    · have ih := nv_split (f := f) (h := h) (n := n) (i := i) (by omega) (fun j a b => hs j a (by omega))
      have e := hs n (by omega) (by omega)
      show nv f n + uw (f n) * 2 ^ (32 * n) + nv h i = nv h n + uw (h n) * 2 ^ (32 * n) + nv f i
      rw [e]
      omega
    · have : i = n + 1 := by omega
      subst this
      omega
theorem nv_less {f h : Nat → Int32} {n i : Nat} (hi : i < n) (hs : ∀ j, i < j → j < n → f j = h j) (hl : uw (f i) < uw (h i)) : nv f n < nv h n := by
  have h1 := nv_split (f := f) (h := h) (n := n) (i := i + 1) (by omega) (fun j a b => hs j (by omega) b)
  have h2 : nv f (i + 1) < nv h (i + 1) := by
    show nv f i + uw (f i) * 2 ^ (32 * i) < nv h i + uw (h i) * 2 ^ (32 * i)
    have h3 := nv_lt f i
    have h4 := Nat.mul_le_mul_right (2 ^ (32 * i)) (show uw (f i) + 1 ≤ uw (h i) from hl)
    rw [Nat.add_mul, Nat.one_mul] at h4
    omega
  omega
/-- one step of times-and-plus -/
theorem nv_mul_step {f g : Nat → Int32} {i F A c : Nat} {x : Int32} (h : nv g i + c * 2 ^ (32 * i) = nv f i * F + A) (hx : uw x = (c + uw (f i) * F) % 4294967296) :
    nv (upd g i x) (i + 1) + (c + uw (f i) * F) / 4294967296 * 2 ^ (32 * (i + 1)) = nv f (i + 1) * F + A := by
  rw [nv_upd_s, hx, pw_s]
  show _ = (nv f i + uw (f i) * 2 ^ (32 * i)) * F + A
  generalize 2 ^ (32 * i) = P at *
  generalize hd : c + uw (f i) * F = d at *
  have e1 : d % 4294967296 * P + d / 4294967296 * (4294967296 * P) = d * P := by
    rw [← Nat.mul_assoc, ← Nat.add_mul, Nat.mod_add_div']
  have e2 : d * P = c * P + uw (f i) * P * F := by rw [← hd, Nat.add_mul, Nat.mul_right_comm]
  rw [Nat.add_mul]
  omega
/-- one step of a sum -/
theorem nv_add_step {f h g : Nat → Int32} {i c : Nat} {x : Int32} (e : nv g i + c * 2 ^ (32 * i) = nv f i + nv h i) (hx : uw x = (c + uw (f i) + uw (h i)) % 4294967296) :
    nv (upd g i x) (i + 1) + (c + uw (f i) + uw (h i)) / 4294967296 * 2 ^ (32 * (i + 1)) = nv f (i + 1) + nv h (i + 1) := by
  rw [nv_upd_s, hx, pw_s]
  show _ = (nv f i + uw (f i) * 2 ^ (32 * i)) + (nv h i + uw (h i) * 2 ^ (32 * i))
  generalize 2 ^ (32 * i) = P at *
  generalize hd : c + uw (f i) + uw (h i) = d at *
  have e1 : d % 4294967296 * P + d / 4294967296 * (4294967296 * P) = d * P := by
    rw [← Nat.mul_assoc, ← Nat.add_mul, Nat.mod_add_div']
  have e2 : d * P = c * P + uw (f i) * P + uw (h i) * P := by rw [← hd, Nat.add_mul, Nat.add_mul]
  omega
/-- one step of a difference: b is the borrow, 0 or -1 -/
theorem nv_sub_step {f h g : Nat → Int32} {i : Nat} {b : Int} {x : Int32} (e : (nv g i : Int) + b * (2 ^ (32 * i) : Nat) = (nv f i : Int) - nv h i) (hx : (uw x : Int) = (b + uw (f i) - uw (h i)) % 4294967296) :
    (nv (upd g i x) (i + 1) : Int) + (b + uw (f i) - uw (h i)) / 4294967296 * (2 ^ (32 * (i + 1)) : Nat) = (nv f (i + 1) : Int) - nv h (i + 1) := by
  rw [nv_upd_s, pw_s]
  show _ = ((nv f i + uw (f i) * 2 ^ (32 * i) : Nat) : Int) - (nv h i + uw (h i) * 2 ^ (32 * i) : Nat)
  generalize 2 ^ (32 * i) = P at *
  rw [Int.natCast_add, Int.natCast_mul, Int.natCast_mul, Int.natCast_add, Int.natCast_mul, Int.natCast_add, Int.natCast_mul]
  rw [show ((4294967296 : Nat) : Int) = 4294967296 from rfl]
  rw [hx]
  generalize hd : b + (uw (f i) : Int) - (uw (h i) : Int) = d at *
  have e1 : d % 4294967296 * (P : Int) + d / 4294967296 * (4294967296 * (P : Int)) = d * P := by
    rw [← Int.mul_assoc, ← Int.add_mul, Int.emod_add_ediv_mul]
  have e2 : d * (P : Int) = b * P + uw (f i) * P - uw (h i) * P := by rw [← hd, Int.sub_mul, Int.add_mul]
  omega
/-- the words from place i on -/
def hv (f : Nat → Int32) (i : Nat) : Nat → Nat
  | 0 => 0
  | n + 1 => uw (f i) + 4294967296 * hv f (i + 1) n
theorem hv_congr {f g : Nat → Int32} : ∀ {n i : Nat}, (∀ j, i ≤ j → j < i + n → f j = g j) → hv f i n = hv g i n
  | 0, _, _ => rfl
  | n + 1, i, h => by
    show uw (f i) + 4294967296 * hv f (i + 1) n = uw (g i) + 4294967296 * hv g (i + 1) n
    rw [h i (by omega) (by omega), hv_congr (fun j a b => h j (by omega) (by omega))]
theorem hv_snoc (f : Nat → Int32) : ∀ (n i : Nat), hv f i (n + 1) = hv f i n + uw (f (i + n)) * 2 ^ (32 * n)
  | 0, i => by simp [hv]
  | n + 1, i => by
    show uw (f i) + 4294967296 * hv f (i + 1) (n + 1) = uw (f i) + 4294967296 * hv f (i + 1) n + _
    rw [hv_snoc f n (i + 1), pw_s, show i + 1 + n = i + (n + 1) by omega, Nat.mul_add, Nat.mul_left_comm]
    omega
theorem hv_nv (f : Nat → Int32) : ∀ n, hv f 0 n = nv f n
  | 0 => rfl
  | n + 1 => by
    rw [hv_snoc, hv_nv f n, Nat.zero_add]
    rfl
/-- one step of a division, from above -/
theorem hv_div_step {f g : Nat → Int32} {i n d r : Nat} {x : Int32} (hd : 0 < d) (h : hv f (i + 1) n = hv g (i + 1) n * d + r) (hg : ∀ j, i < j → j < i + 1 + n → g j = upd g i x j)
    (hx : uw x = (r * 4294967296 + uw (f i)) / d) : hv f i (n + 1) = hv (upd g i x) i (n + 1) * d + (r * 4294967296 + uw (f i)) % d := by
  show uw (f i) + 4294967296 * hv f (i + 1) n = (uw (upd g i x i) + 4294967296 * hv (upd g i x) (i + 1) n) * d + _
  rw [pk_us, ← hv_congr (f := g) (g := upd g i x) (fun j a b => hg j (by omega) (by omega)), hx, h]
  have e := Nat.div_add_mod (r * 4294967296 + uw (f i)) d
  generalize (r * 4294967296 + uw (f i)) / d = a at *
  generalize (r * 4294967296 + uw (f i)) % d = b at *
  rw [Nat.mul_comm] at e
  rw [Nat.add_mul, Nat.mul_assoc, Nat.mul_add]
  omega
/-- the whole quotient -/
theorem hv_div_end {f g : Nat → Int32} {n d r : Nat} (hr : r < d) (h : hv f 0 n = hv g 0 n * d + r) : nv g n = nv f n / d ∧ r = nv f n % d := by
  rw [hv_nv, hv_nv] at h
  rw [h, Nat.mul_comm]
  refine ⟨?_, ?_⟩
  · rw [Nat.mul_add_div (by omega), Nat.div_eq_of_lt hr, Nat.add_zero]
  · rw [Nat.mul_add_mod, Nat.mod_eq_of_lt hr]
theorem nv_mod_end {g : Nat → Int32} {n c X : Nat} (h : nv g n + c * 2 ^ (32 * n) = X) : nv g n = X % 2 ^ (32 * n) := by
  rw [← h, Nat.add_mul_mod_self_right, Nat.mod_eq_of_lt (nv_lt g n)]
/-- a limb by a place that may lie outside -/
def lz (f : Nat → Int32) (i : Int) : Nat := if 0 ≤ i ∧ i < 12 then uw (f i.toNat) else 0
theorem ul_0 : ul 0 = 0 := rfl
theorem q_lo (x : Int32) : (x.toInt64 &&& 4294967295).toInt = (uw x : Int) := by
  have h := ul_i2l_lo x
  have := uw_lt x
  rw [ul_to (by omega), h]
theorem nv_top0 {f : Nat → Int32} : ∀ {n i : Nat}, i ≤ n → (∀ j, i ≤ j → j < n → f j = 0) → nv f n = nv f i
  | 0, i, hi, _ => by rw [show i = 0 by omega]
  | n + 1, i, hi, hs => by
    rcases Nat.lt_or_ge i (n + 1) with h1 | h1
    · show nv f n + uw (f n) * 2 ^ (32 * n) = nv f i
      rw [hs n (by omega) (by omega), nv_top0 (by omega) (fun j a b => hs j a (by omega))]
      simp [uw]
    · rw [show i = n + 1 by omega]
theorem ul_i2l {x : Int32} (h : 0 ≤ x.toInt) : ul x.toInt64 = uw x := by
  have h1 := uw_int x
  have h2 := uw_lt x
  have h3 : x.toInt = (uw x : Int) := by split at h1 <;> omega
  exact ul_of (by rw [Int32.toInt_toInt64, h3])
theorem uw_half {x : Int32} (h : 0 ≤ x.toInt) : uw x < 2147483648 := by
  have h1 := uw_int x
  have h2 := uw_lt x
  split at h1 <;> omega
theorem uw_l2i_int {x : Int64} {a : Int} (hx : x.toInt = a) : (uw x.toInt32 : Int) = a % 4294967296 := by
  have h1 := ul_int x
  have h2 := ul_lt x
  rw [uw_l2i, ← hx]
  split at h1 <;> omega
theorem q_ishr5 {x : Int32} {a : Int} (hx : x.toInt = a) : (x >>> ((5 : Int32) &&& 31)).toInt = a / 32 := by
  rw [pk_shr x _ 5 (by decide), hx, Int.shiftRight_eq_div_pow]
  rfl
theorem q_iand31 {x : Int32} {k : Nat} (hx : x.toInt = (k : Int)) : (x &&& 31).toInt = ((k % 32 : Nat) : Int) := by
  rw [pk_and x 5 (by decide), show x.toBitVec.toNat = k from uw_of hx]
  exact nI_toInt (by omega)
theorem q_shl32 {x : Int64} {k : Nat} (hx : x.toInt = (k : Int)) (h : k < 2147483648) : (x <<< ((32 : Int32).toInt64 &&& 63)).toInt = ((k * 4294967296 : Nat) : Int) := by
  have e1 : ((32 : Int32).toInt64 &&& 63) = 32 := by decide
  have h1 : (x <<< (32 : Int64)).toBitVec.toNat = k * 4294967296 := by
    rw [Int64.toBitVec_shiftLeft, BitVec.shiftLeft_eq', BitVec.toNat_shiftLeft, show x.toBitVec.toNat = k from ul_of hx]
    rw [show ((32 : Int64).toBitVec.smod 64).toNat = 32 by decide, Nat.shiftLeft_eq]
    exact Nat.mod_eq_of_lt (by omega)
  rw [e1, ul_to (by show (x <<< (32 : Int64)).toBitVec.toNat < _; omega)]
  show (((x <<< (32 : Int64)).toBitVec.toNat : Nat) : Int) = _
  rw [h1]
/-- x << s, x >>> s for a shift within the word -/
theorem sm64 : ∀ k, k < 64 → (((nI k).toInt64 &&& 63).toBitVec.smod 64).toNat = k := by decide
theorem um64 : ∀ k, k < 64 → (((nI k).toInt64.toUInt64 &&& Int64.toUInt64 63).toBitVec % 64).toNat = k := by decide
theorem ul_shl {x : Int64} {y : Int32} {k : Nat} (hy : y.toInt = (k : Int)) (hk : k < 64) : ul (x <<< (y.toInt64 &&& 63)) = ul x * 2 ^ k % 18446744073709551616 := by
  rw [q_nI hy]
  show (x <<< ((nI k).toInt64 &&& 63)).toBitVec.toNat = _
  rw [Int64.toBitVec_shiftLeft, BitVec.shiftLeft_eq', BitVec.toNat_shiftLeft, sm64 k hk, Nat.shiftLeft_eq]
  rfl
theorem ul_ushr {x : Int64} {y : Int32} {k : Nat} (hy : y.toInt = (k : Int)) (hk : k < 64) : ul (x.toUInt64 >>> (y.toInt64.toUInt64 &&& Int64.toUInt64 63)).toInt64 = ul x / 2 ^ k := by
  rw [q_nI hy]
  show (x.toUInt64 >>> ((nI k).toInt64.toUInt64 &&& Int64.toUInt64 63)).toBitVec.toNat = _
  rw [UInt64.toBitVec_shiftRight, BitVec.ushiftRight_eq', BitVec.toNat_ushiftRight, um64 k hk, Nat.shiftRight_eq_div_pow]
  rfl
theorem ul_or {x y : Int64} {a b k : Nat} (hx : ul x = a * 2 ^ k) (hy : ul y = b) (hb : b < 2 ^ k) : ul (x ||| y) = a * 2 ^ k + b := by
  show (x ||| y).toBitVec.toNat = _
  rw [Int64.toBitVec_or, BitVec.toNat_or, show x.toBitVec.toNat = a * 2 ^ k from hx, show y.toBitVec.toNat = b from hy, Nat.mul_comm, ← Nat.two_pow_add_eq_or_of_lt hb]
theorem mm {a b m : Nat} : (a % m * b) % m = (a * b) % m := by rw [Nat.mul_mod, Nat.mod_mod, ← Nat.mul_mod]
/-- the word of a row shifted to the left by 32 w + q bits -/
def shw (f : Nat → Int32) (w q j : Nat) : Nat := lz f ((j : Int) - w) * 2 ^ q % 4294967296 + lz f ((j : Int) - w - 1) / 2 ^ (32 - q)
theorem lz_lt (f : Nat → Int32) (i : Int) : lz f i < 4294967296 := by
  unfold lz
  split
  · exact uw_lt _
  · decide
theorem lz_neg {f : Nat → Int32} {i : Int} (h : i < 0) : lz f i = 0 := if_neg (by omega)
theorem lz_in {f : Nat → Int32} {j : Nat} (h : j < 12) : lz f (j : Int) = uw (f j) := by
  unfold lz
  rw [if_pos (by omega), Int.toNat_natCast]
theorem sh_word {x q : Nat} (hq : q < 32) (hx : x < 4294967296) : x * 2 ^ q / 4294967296 = x / 2 ^ (32 - q) := by
  have h : 4294967296 = 2 ^ (32 - q) * 2 ^ q := by rw [← Nat.pow_add, show 32 - q + q = 32 by omega]
  rw [h, Nat.mul_div_mul_right _ _ (pw_p q)]
theorem shw_low {f k : Nat → Int32} {w q : Nat} : ∀ n, n ≤ w → n ≤ 12 → (∀ j, j < 12 → uw (k j) = shw f w q j) → nv k n = 0
  | 0, _, _, _ => rfl
  | n + 1, h1, h2, h => by
    show nv k n + uw (k n) * 2 ^ (32 * n) = 0
    rw [shw_low n (by omega) (by omega) h, h n (by omega), shw, lz_neg (by omega), lz_neg (by omega)]
    simp
theorem shw_step {f k : Nat → Int32} {w q : Nat} (hq : q < 32) (h : ∀ j, j < 12 → uw (k j) = shw f w q j) : ∀ n, w + n ≤ 12 → nv k (w + n) + lz f ((n : Int) - 1) / 2 ^ (32 - q) * 2 ^ (32 * (w + n)) = nv f n * 2 ^ (32 * w + q)
  | 0, h1 => by
    rw [Nat.add_zero, shw_low w (Nat.le_refl w) h1 h, lz_neg (by omega)]
    simp [nv]
  | n + 1, h1 => by
    have ih := shw_step hq h n (by omega)
    have e1 := h (w + n) (by omega)
    rw [shw, show ((w + n : Nat) : Int) - w = (n : Int) by omega, lz_in (by omega)] at e1
    rw [← Nat.add_assoc]
    show nv k (w + n) + uw (k (w + n)) * 2 ^ (32 * (w + n)) + lz f (((n + 1 : Nat) : Int) - 1) / 2 ^ (32 - q) * 2 ^ (32 * (w + n + 1)) = (nv f n + uw (f n) * 2 ^ (32 * n)) * 2 ^ (32 * w + q)
    rw [show ((n + 1 : Nat) : Int) - 1 = (n : Int) by omega, lz_in (by omega), ← sh_word hq (uw_lt (f n)), pw_s, Nat.add_mul, ← ih, e1]
    have e2 : uw (f n) * 2 ^ (32 * n) * 2 ^ (32 * w + q) = uw (f n) * 2 ^ q * 2 ^ (32 * (w + n)) := by
      rw [Nat.mul_assoc, ← Nat.pow_add, Nat.mul_assoc, ← Nat.pow_add]
      congr 2
      omega
    rw [e2]
    generalize 2 ^ (32 * (w + n)) = P
    generalize uw (f n) * 2 ^ q = d
    generalize lz f ((n : Int) - 1) / 2 ^ (32 - q) = t
    have e3 : d % 4294967296 * P + d / 4294967296 * (4294967296 * P) = d * P := by
      rw [← Nat.mul_assoc, ← Nat.add_mul, Nat.mod_add_div']
    rw [Nat.add_mul]
    omega
theorem nv_hi {f : Nat → Int32} {n i : Nat} (h : i ≤ n) : ∃ t, nv f n = nv f i + t * 2 ^ (32 * i) := by
  induction n with
  | zero => exact ⟨0, by rw [show i = 0 by omega]; simp⟩
  | succ n ih =>
    rcases Nat.lt_or_ge i (n + 1) with h1 | h1
    · obtain ⟨t, ht⟩ := ih (by omega)
      refine ⟨t + uw (f n) * 2 ^ (32 * (n - i)), ?_⟩
      show nv f n + uw (f n) * 2 ^ (32 * n) = _
      rw [ht, Nat.add_mul, Nat.mul_assoc, ← Nat.pow_add, show 32 * (n - i) + 32 * i = 32 * n by omega]
      omega
    · exact ⟨0, by rw [show i = n + 1 by omega]; simp⟩
theorem shw_end {f k : Nat → Int32} {w q : Nat} (hq : q < 32) (h : ∀ j, j < 12 → uw (k j) = shw f w q j) : nv k 12 = nv f 12 * 2 ^ (32 * w + q) % 2 ^ (32 * 12) := by
  rcases Nat.lt_or_ge 12 w with hw | hw
  · rw [shw_low 12 (by omega) (by omega) h]
    rw [show 32 * w + q = (32 * w + q - 384) + 32 * 12 by omega, Nat.pow_add, ← Nat.mul_assoc, Nat.mul_mod_left]
  · have e := shw_step hq h (12 - w) (by omega)
    rw [show w + (12 - w) = 12 by omega] at e
    obtain ⟨t, ht⟩ := nv_hi (f := f) (n := 12) (i := 12 - w) (by omega)
    have e2 : nv f 12 * 2 ^ (32 * w + q) = nv f (12 - w) * 2 ^ (32 * w + q) + t * 2 ^ q * 2 ^ (32 * 12) := by
      rw [ht, Nat.add_mul, Nat.mul_assoc, ← Nat.pow_add, Nat.mul_assoc, ← Nat.pow_add]
      congr 3
      omega
    rw [e2, ← e, Nat.add_mul_mod_self_right, Nat.add_mul_mod_self_right, Nat.mod_eq_of_lt (nv_lt k 12)]
theorem sub_end {k f g : Nat → Int32} {b : Int} (h : (nv k 12 : Int) + b * (2 ^ (32 * 12) : Nat) = (nv f 12 : Int) - nv g 12) (hb : b = 0 ∨ b = -1) (hle : nv g 12 ≤ nv f 12) : nv k 12 = nv f 12 - nv g 12 := by
  have h1 := nv_lt k 12
  generalize 2 ^ (32 * 12) = P at *
  rcases hb with rfl | rfl <;> omega
theorem or_mod {a b q : Nat} (hq : q < 32) (hb : b < 2 ^ q) : (a * 2 ^ q + b) % 4294967296 = a * 2 ^ q % 4294967296 + b := by
  have h1 : 2 ^ q * 2 ^ (32 - q) = 4294967296 := by rw [← Nat.pow_add, show q + (32 - q) = 32 by omega]
  have h2 : a * 2 ^ q % 4294967296 = a % 2 ^ (32 - q) * 2 ^ q := by rw [← h1, Nat.mul_comm (2 ^ q), Nat.mul_mod_mul_right]
  have h3 := Nat.mod_lt a (pw_p (32 - q))
  have h4 : a % 2 ^ (32 - q) * 2 ^ q + 2 ^ q ≤ 4294967296 := by
    rw [← h1, Nat.mul_comm (2 ^ q), ← Nat.succ_mul]
    exact Nat.mul_le_mul_right _ h3
  rw [Nat.add_mod, h2, Nat.mod_eq_of_lt (a := b) (by omega), Nat.mod_eq_of_lt (by omega)]
theorem um32 : ∀ k, k < 32 → (((nI k).toUInt32 &&& Int32.toUInt32 31).toBitVec % 32).toNat = k := by decide
theorem q_iushr {x y : Int32} {w k : Nat} (hx : x.toInt = (w : Int)) (hy : y = nI k ∧ k < 32) : (x.toUInt32 >>> (y.toUInt32 &&& Int32.toUInt32 31)).toInt32.toInt = ((w / 2 ^ k : Nat) : Int) := by
  obtain ⟨rfl, hk⟩ := hy
  have h1 := pk_ushr x (nI k) k (um32 k hk)
  have h2 := q_r32 x
  have h3 : x.toBitVec.toNat = w := uw_of hx
  rw [h3] at h1
  have h4 : w / 2 ^ k ≤ w := Nat.div_le_self _ _
  rw [uw_to (x := (x.toUInt32 >>> ((nI k).toUInt32 &&& Int32.toUInt32 31)).toInt32) (by unfold uw; omega)]
  unfold uw
  rw [h1]
theorem uw_pos_to {x : Int32} (h : 0 ≤ x.toInt) : x.toInt = (uw x : Int) := uw_to (uw_half h)
theorem nlz_neg {x : Int32} (h : x.toInt < 0) : 2 ^ (31 - 0) ≤ uw x ∧ uw x < 2 ^ (32 - 0) := by
  have h1 := uw_int x
  have h2 := uw_lt x
  split at h1
  · omega
  · exact ⟨by show 2147483648 ≤ uw x; omega, h2⟩
theorem nlz_end {x : Int32} {w z : Nat} (hw : w = uw x / 2 ^ z) (hw0 : 0 < w) (hw1 : w < 4) (hz : z ≤ 30) : 31 - z - w / 2 < 32 ∧ 2 ^ (31 - (31 - z - w / 2)) ≤ uw x ∧ uw x < 2 ^ (32 - (31 - z - w / 2)) := by
  have hp := pw_p z
  have h1 := Nat.div_add_mod (uw x) (2 ^ z)
  have h2 := Nat.mod_lt (uw x) hp
  rw [← hw] at h1
  have hc : w = 1 ∨ w = 2 ∨ w = 3 := by omega
  refine ⟨by omega, ?_, ?_⟩
  · rcases hc with rfl | rfl | rfl
    · rw [show 31 - (31 - z - 1 / 2) = z by omega]; omega
    · rw [show 31 - (31 - z - 2 / 2) = z + 1 by omega, Nat.pow_succ]; omega
    · rw [show 31 - (31 - z - 3 / 2) = z + 1 by omega, Nat.pow_succ]; omega
  · rcases hc with rfl | rfl | rfl
    · rw [show 32 - (31 - z - 1 / 2) = z + 1 by omega, Nat.pow_succ]; omega
    · rw [show 32 - (31 - z - 2 / 2) = z + 1 + 1 by omega, Nat.pow_succ, Nat.pow_succ]; omega
    · rw [show 32 - (31 - z - 3 / 2) = z + 1 + 1 by omega, Nat.pow_succ, Nat.pow_succ]; omega
theorem nlz_nv {f : Nat → Int32} {i z : Nat} (hi0 : 0 < i) (hi : i ≤ 12) (hs : ∀ j, i ≤ j → j < 12 → f j = 0) (hz : z < 32) (h1 : 2 ^ (31 - z) ≤ uw (f (i - 1))) (h2 : uw (f (i - 1)) < 2 ^ (32 - z)) :
    nv f 12 < 2 ^ (32 * (i - 1) + 32 - z) ∧ (0 < nv f 12 → 0 < 32 * (i - 1) + 32 - z ∧ 2 ^ (32 * (i - 1) + 32 - z - 1) ≤ nv f 12) := by
  have e : nv f 12 = nv f (i - 1) + uw (f (i - 1)) * 2 ^ (32 * (i - 1)) := by
    rw [nv_top0 hi hs]
    show nv f i = nv f (i - 1 + 1)
    rw [show i - 1 + 1 = i by omega]
  have h3 := nv_lt f (i - 1)
  have h4 : (uw (f (i - 1)) + 1) * 2 ^ (32 * (i - 1)) ≤ 2 ^ (32 - z) * 2 ^ (32 * (i - 1)) := Nat.mul_le_mul_right _ h2
  have h5 : 2 ^ (31 - z) * 2 ^ (32 * (i - 1)) ≤ uw (f (i - 1)) * 2 ^ (32 * (i - 1)) := Nat.mul_le_mul_right _ h1
  rw [Nat.add_mul, ← Nat.pow_add, show 32 - z + 32 * (i - 1) = 32 * (i - 1) + 32 - z by omega] at h4
  rw [← Nat.pow_add, show 31 - z + 32 * (i - 1) = 32 * (i - 1) + 32 - z - 1 by omega] at h5
  exact ⟨by omega, fun _ => ⟨by omega, by omega⟩⟩
