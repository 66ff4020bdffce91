/-! LIMBS: the value of a row of words, the lowest first -/
def nv (f : Nat → Int32) : Nat → Nat
  | 0 => 0
  | n + 1 => nv f n + uw (f n) * 2 ^ (32 * n)
theorem pw_s (n : Nat) : 2 ^ (32 * (n + 1)) = 4294967296 * 2 ^ (32 * n) := by
  rw [Nat.mul_succ, Nat.pow_add, Nat.mul_comm]
theorem pw_p (n : Nat) : 0 < 2 ^ n := Nat.pow_pos (by decide)
theorem nv_lt (f : Nat → Int32) : ∀ n, nv f n < 2 ^ (32 * n)
  | 0 => by simp [nv]
  | n + 1 => by
    have h1 := nv_lt f n
    have h2 := Nat.mul_le_mul_right (2 ^ (32 * n)) (Nat.le_of_lt_succ (uw_lt (f n)))
    rw [pw_s]
    show nv f n + uw (f n) * 2 ^ (32 * n) < _
    omega
theorem nv_congr {f g : Nat → Int32} : ∀ {n : Nat}, (∀ i, i < n → f i = g i) → nv f n = nv g n
  | 0, _ => rfl
  | n + 1, h => by
    show nv f n + uw (f n) * 2 ^ (32 * n) = nv g n + uw (g n) * 2 ^ (32 * n)
    rw [nv_congr (fun i hi => h i (by omega)), h n (by omega)]
theorem nv_upd {f : Nat → Int32} {k n : Nat} {x : Int32} (h : n ≤ k) : nv (upd f k x) n = nv f n := nv_congr (fun i hi => pk_un (by omega))
theorem nv_upd_s {f : Nat → Int32} {n : Nat} {x : Int32} : nv (upd f n x) (n + 1) = nv f n + uw x * 2 ^ (32 * n) := by
  show nv (upd f n x) n + uw (upd f n x n) * 2 ^ (32 * n) = _
  rw [nv_upd (Nat.le_refl n), pk_us]
theorem nv_zero {f : Nat → Int32} : ∀ {n : Nat}, (∀ i, i < n → f i = 0) → nv f n = 0
  | 0, _ => rfl
  | n + 1, h => by
    show nv f n + uw (f n) * 2 ^ (32 * n) = 0
    rw [nv_zero (fun i hi => h i (by omega)), h n (by omega)]
    simp [uw]
theorem nv_ge {f : Nat → Int32} : ∀ {n i : Nat}, i < n → uw (f i) * 2 ^ (32 * i) ≤ nv f n
  | 0, i, h => by omega
  | n + 1, i, h => by
    show _ ≤ nv f n + uw (f n) * 2 ^ (32 * n)
    rcases Nat.lt_or_ge i n with h1 | h1
    · exact Nat.le_trans (nv_ge h1) (Nat.le_add_right _ _)
    · have : i = n := by omega
      subst this
      exact Nat.le_add_left _ _
theorem uw_pos {x : Int32} (h : x ≠ 0) : 0 < uw x := by
  refine Nat.pos_of_ne_zero fun h0 => h (uw_inj (h0.trans ?_))
  rfl
theorem nv_pos {f : Nat → Int32} {n i : Nat} (hi : i < n) (h : f i ≠ 0) : 0 < nv f n :=
  Nat.lt_of_lt_of_le (Nat.mul_pos (uw_pos h) (pw_p _)) (nv_ge hi)
/-- from place i up all the same: the lower part decides -/
theorem nv_split {f h : Nat → Int32} : ∀ {n i : Nat}, i ≤ n → (∀ j, i ≤ j → j < n → f j = h j) → nv f n + nv h i = nv h n + nv f i
  | 0, i, hi, _ => by
    have : i = 0 := by omega
    subst this; rfl
  | n + 1, i, hi, hs => by
    rcases Nat.lt_or_ge i (n + 1) with h1 | h1
    · have ih := nv_split (f := f) (h := h) (n := n) (i := i) (by omega) (fun j a b => hs j a (by omega))
      have e := hs n (by omega) (by omega)
      show nv f n + uw (f n) * 2 ^ (32 * n) + nv h i = nv h n + uw (h n) * 2 ^ (32 * n) + nv f i
      rw [e]
      omega
    · have : i = n + 1 := by omega
      subst this
      omega
theorem nv_less {f h : Nat → Int32} {n i : Nat} (hi : i < n) (hs : ∀ j, i < j → j < n → f j = h j) (hl : uw (f i) < uw (h i)) : nv f n < nv h n := by
  have h1 := nv_split (f := f) (h := h) (n := n) (i := i + 1) (by omega) (fun j a b => hs j (by omega) b)
  have h2 : nv f (i + 1) < nv h (i + 1) := by
    show nv f i + uw (f i) * 2 ^ (32 * i) < nv h i + uw (h i) * 2 ^ (32 * i)
    have h3 := nv_lt f i
    have h4 := Nat.mul_le_mul_right (2 ^ (32 * i)) (show uw (f i) + 1 ≤ uw (h i) from hl)
    rw [Nat.add_mul, Nat.one_mul] at h4
    omega
  omega
/-- one step of times-and-plus -/
theorem nv_mul_step {f g : Nat → Int32} {i F A c : Nat} {x : Int32} (h : nv g i + c * 2 ^ (32 * i) = nv f i * F + A) (hx : uw x = (c + uw (f i) * F) % 4294967296) :
    nv (upd g i x) (i + 1) + (c + uw (f i) * F) / 4294967296 * 2 ^ (32 * (i + 1)) = nv f (i + 1) * F + A := by
  rw [nv_upd_s, hx, pw_s]
  show _ = (nv f i + uw (f i) * 2 ^ (32 * i)) * F + A
  generalize 2 ^ (32 * i) = P at *
  generalize hd : c + uw (f i) * F = d at *
  have e1 : d % 4294967296 * P + d / 4294967296 * (4294967296 * P) = d * P := by
    rw [← Nat.mul_assoc, ← Nat.add_mul, Nat.mod_add_div']
  have e2 : d * P = c * P + uw (f i) * P * F := by rw [← hd, Nat.add_mul, Nat.mul_right_comm]
  rw [Nat.add_mul]
  omega
/-- one step of a sum -/
theorem nv_add_step {f h g : Nat → Int32} {i c : Nat} {x : Int32} (e : nv g i + c * 2 ^ (32 * i) = nv f i + nv h i) (hx : uw x = (c + uw (f i) + uw (h i)) % 4294967296) :
    nv (upd g i x) (i + 1) + (c + uw (f i) + uw (h i)) / 4294967296 * 2 ^ (32 * (i + 1)) = nv f (i + 1) + nv h (i + 1) := by
  rw [nv_upd_s, hx, pw_s]
  show _ = (nv f i + uw (f i) * 2 ^ (32 * i)) + (nv h i + uw (h i) * 2 ^ (32 * i))
  generalize 2 ^ (32 * i) = P at *
  generalize hd : c + uw (f i) + uw (h i) = d at *
  have e1 : d % 4294967296 * P + d / 4294967296 * (4294967296 * P) = d * P := by
    rw [← Nat.mul_assoc, ← Nat.add_mul, Nat.mod_add_div']
  have e2 : d * P = c * P + uw (f i) * P + uw (h i) * P := by rw [← hd, Nat.add_mul, Nat.add_mul]
  omega
/-- one step of a difference: b is the borrow, 0 or -1 -/
theorem nv_sub_step {f h g : Nat → Int32} {i : Nat} {b : Int} {x : Int32} (e : (nv g i : Int) + b * (2 ^ (32 * i) : Nat) = (nv f i : Int) - nv h i) (hx : (uw x : Int) = (b + uw (f i) - uw (h i)) % 4294967296) :
    (nv (upd g i x) (i + 1) : Int) + (b + uw (f i) - uw (h i)) / 4294967296 * (2 ^ (32 * (i + 1)) : Nat) = (nv f (i + 1) : Int) - nv h (i + 1) := by
  rw [nv_upd_s, pw_s]
  show _ = ((nv f i + uw (f i) * 2 ^ (32 * i) : Nat) : Int) - (nv h i + uw (h i) * 2 ^ (32 * i) : Nat)
  generalize 2 ^ (32 * i) = P at *
  rw [Int.natCast_add, Int.natCast_mul, Int.natCast_mul, Int.natCast_add, Int.natCast_mul, Int.natCast_add, Int.natCast_mul]
  rw [show ((4294967296 : Nat) : Int) = 4294967296 from rfl]
  rw [hx]
  generalize hd : b + (uw (f i) : Int) - (uw (h i) : Int) = d at *
  have e1 : d % 4294967296 * (P : Int) + d / 4294967296 * (4294967296 * (P : Int)) = d * P := by
    rw [← Int.mul_assoc, ← Int.add_mul, Int.emod_add_ediv_mul]
  have e2 : d * (P : Int) = b * P + uw (f i) * P - uw (h i) * P := by rw [← hd, Int.sub_mul, Int.add_mul]
  omega
/-- the words from place i on -/
def hv (f : Nat → Int32) (i : Nat) : Nat → Nat
  | 0 => 0
  | n + 1 => uw (f i) + 4294967296 * hv f (i + 1) n
theorem hv_congr {f g : Nat → Int32} : ∀ {n i : Nat}, (∀ j, i ≤ j → j < i + n → f j = g j) → hv f i n = hv g i n
  | 0, _, _ => rfl
  | n + 1, i, h => by
    show uw (f i) + 4294967296 * hv f (i + 1) n = uw (g i) + 4294967296 * hv g (i + 1) n
    rw [h i (by omega) (by omega), hv_congr (fun j a b => h j (by omega) (by omega))]
theorem hv_snoc (f : Nat → Int32) : ∀ (n i : Nat), hv f i (n + 1) = hv f i n + uw (f (i + n)) * 2 ^ (32 * n)
  | 0, i => by simp [hv]
  | n + 1, i => by
    show uw (f i) + 4294967296 * hv f (i + 1) (n + 1) = uw (f i) + 4294967296 * hv f (i + 1) n + _
    rw [hv_snoc f n (i + 1), pw_s, show i + 1 + n = i + (n + 1) by omega, Nat.mul_add, Nat.mul_left_comm]
    omega
theorem hv_nv (f : Nat → Int32) : ∀ n, hv f 0 n = nv f n
  | 0 => rfl
  | n + 1 => by
    rw [hv_snoc, hv_nv f n, Nat.zero_add]
    rfl
/-- one step of a division, from above -/
theorem hv_div_step {f g : Nat → Int32} {i n d r : Nat} {x : Int32} (hd : 0 < d) (h : hv f (i + 1) n = hv g (i + 1) n * d + r) (hg : ∀ j, i < j → j < i + 1 + n → g j = upd g i x j)
    (hx : uw x = (r * 4294967296 + uw (f i)) / d) : hv f i (n + 1) = hv (upd g i x) i (n + 1) * d + (r * 4294967296 + uw (f i)) % d := by
  show uw (f i) + 4294967296 * hv f (i + 1) n = (uw (upd g i x i) + 4294967296 * hv (upd g i x) (i + 1) n) * d + _
  rw [pk_us, ← hv_congr (f := g) (g := upd g i x) (fun j a b => hg j (by omega) (by omega)), hx, h]
  have e := Nat.div_add_mod (r * 4294967296 + uw (f i)) d
  generalize (r * 4294967296 + uw (f i)) / d = a at *
  generalize (r * 4294967296 + uw (f i)) % d = b at *
  rw [Nat.mul_comm] at e
  rw [Nat.add_mul, Nat.mul_assoc, Nat.mul_add]
  omega
/-- the whole quotient -/
theorem hv_div_end {f g : Nat → Int32} {n d r : Nat} (hr : r < d) (h : hv f 0 n = hv g 0 n * d + r) : nv g n = nv f n / d ∧ r = nv f n % d := by
  rw [hv_nv, hv_nv] at h
  rw [h, Nat.mul_comm]
  refine ⟨?_, ?_⟩
  · rw [Nat.mul_add_div (by omega), Nat.div_eq_of_lt hr, Nat.add_zero]
  · rw [Nat.mul_add_mod, Nat.mod_eq_of_lt hr]
theorem nv_mod_end {g : Nat → Int32} {n c X : Nat} (h : nv g n + c * 2 ^ (32 * n) = X) : nv g n = X % 2 ^ (32 * n) := by
  rw [← h, Nat.add_mul_mod_self_right, Nat.mod_eq_of_lt (nv_lt g n)]
/-- a limb by a place that may lie outside -/
def lz (f : Nat → Int32) (i : Int) : Nat := if 0 ≤ i ∧ i < 12 then uw (f i.toNat) else 0
theorem ul_0 : ul 0 = 0 := rfl
theorem q_lo (x : Int32) : (x.toInt64 &&& 4294967295).toInt = (uw x : Int) := by
  have h := ul_i2l_lo x
  have := uw_lt x
  rw [ul_to (by omega), h]
theorem nv_top0 {f : Nat → Int32} : ∀ {n i : Nat}, i ≤ n → (∀ j, i ≤ j → j < n → f j = 0) → nv f n = nv f i
  | 0, i, hi, _ => by rw [show i = 0 by omega]
  | n + 1, i, hi, hs => by
    rcases Nat.lt_or_ge i (n + 1) with h1 | h1
    · show nv f n + uw (f n) * 2 ^ (32 * n) = nv f i
      rw [hs n (by omega) (by omega), nv_top0 (by omega) (fun j a b => hs j a (by omega))]
      simp [uw]
    · rw [show i = n + 1 by omega]
theorem ul_i2l {x : Int32} (h : 0 ≤ x.toInt) : ul x.toInt64 = uw x := by
  have h1 := uw_int x
  have h2 := uw_lt x
  have h3 : x.toInt = (uw x : Int) := by split at h1 <;> omega
  exact ul_of (by rw [Int32.toInt_toInt64, h3])
theorem uw_half {x : Int32} (h : 0 ≤ x.toInt) : uw x < 2147483648 := by
  have h1 := uw_int x
  have h2 := uw_lt x
  split at h1 <;> omega
