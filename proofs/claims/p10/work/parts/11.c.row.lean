/-! THE REFERENCE'S ROW OF DIGITS: 400 places, place k counts 10^(399 - k) -/
def rdg (r : Nat → Int32) (k : Nat) : Nat := (r k).toInt.toNat
/-- the last m digits -/
def sv (r : Nat → Int32) : Nat → Nat
  | 0 => 0
  | m + 1 => rdg r (399 - m) * 10 ^ m + sv r m
/-- the first n digits -/
def pv (r : Nat → Int32) : Nat → Nat
  | 0 => 0
  | n + 1 => pv r n * 10 + rdg r n
theorem p10 (n : Nat) : 0 < 10 ^ n := Nat.pow_pos (by decide)
theorem pv_sv (r : Nat → Int32) : ∀ m, m ≤ 400 → pv r 400 = pv r (400 - m) * 10 ^ m + sv r m
  | 0, _ => by simp [sv]
  | m + 1, h => by
    rw [pv_sv r m (by omega), show 400 - m = 400 - (m + 1) + 1 by omega]
    show (pv r (400 - (m + 1)) * 10 + rdg r (400 - (m + 1))) * 10 ^ m + sv r m = pv r (400 - (m + 1)) * 10 ^ (m + 1) + (rdg r (399 - m) * 10 ^ m + sv r m)
    rw [show 400 - (m + 1) = 399 - m by omega, Nat.pow_succ, Nat.add_mul, Nat.mul_assoc, Nat.mul_comm 10]
    omega
theorem pv_400 (r : Nat → Int32) : pv r 400 = sv r 400 := by rw [pv_sv r 400 (by omega)]; simp [pv]
theorem sv_congr {r g : Nat → Int32} : ∀ {m : Nat}, m ≤ 400 → (∀ k, 400 - m ≤ k → k < 400 → rdg r k = rdg g k) → sv r m = sv g m
  | 0, _, _ => rfl
  | m + 1, hm, h => by
    show rdg r (399 - m) * 10 ^ m + sv r m = rdg g (399 - m) * 10 ^ m + sv g m
    rw [h (399 - m) (by omega) (by omega), sv_congr (by omega) (fun k a b => h k (by omega) b)]
theorem sv_zero {r : Nat → Int32} : ∀ {m : Nat}, m ≤ 400 → (∀ k, 400 - m ≤ k → k < 400 → rdg r k = 0) → sv r m = 0
  | 0, _, _ => rfl
  | m + 1, hm, h => by
    show rdg r (399 - m) * 10 ^ m + sv r m = 0
    rw [h (399 - m) (by omega) (by omega), sv_zero (by omega) (fun k a b => h k (by omega) b)]
    omega
theorem pv_zero {r : Nat → Int32} : ∀ {n : Nat}, (∀ k, k < n → rdg r k = 0) → pv r n = 0
  | 0, _ => rfl
  | n + 1, h => by
    show pv r n * 10 + rdg r n = 0
    rw [h n (by omega), pv_zero (fun k hk => h k (by omega))]
theorem pv_congr {r g : Nat → Int32} : ∀ {n : Nat}, (∀ k, k < n → rdg r k = rdg g k) → pv r n = pv g n
  | 0, _ => rfl
  | n + 1, h => by
    show pv r n * 10 + rdg r n = pv g n * 10 + rdg g n
    rw [h n (by omega), pv_congr (fun k hk => h k (by omega))]
theorem sv_top {r : Nat → Int32} {m : Nat} (hm : m ≤ 400) (h : ∀ k, k < 400 - m → rdg r k = 0) : sv r 400 = sv r m := by
  rw [← pv_400, pv_sv r m hm, pv_zero h]
  omega
theorem sv_low {r : Nat → Int32} {m : Nat} (hm : m ≤ 400) (h : ∀ k, 400 - m ≤ k → k < 400 → rdg r k = 0) : sv r 400 = pv r (400 - m) * 10 ^ m := by
  rw [← pv_400, pv_sv r m hm, sv_zero hm h]
  omega
def RWp (r : Nat → Int32) (fi la : Nat) : Prop := (∀ k, k < 400 → 0 ≤ (r k).toInt ∧ (r k).toInt ≤ 9) ∧ (∀ k, k < fi → (r k).toInt = 0) ∧ (∀ k, la < k → k < 400 → (r k).toInt = 0) ∧ fi ≤ 60 ∧ 60 ≤ la ∧ la ≤ 399 ∧ (fi < 60 → (r fi).toInt ≠ 0)
theorem rdg_upd {r : Nat → Int32} {k : Nat} {x : Int32} {d : Nat} (hx : x.toInt = (d : Int)) : rdg (upd r k x) k = d := by
  unfold rdg
  rw [pk_us, hx]
  rfl
theorem rdg_un {r : Nat → Int32} {k j : Nat} {x : Int32} (h : j ≠ k) : rdg (upd r k x) j = rdg r j := by
  unfold rdg
  rw [pk_un h]
theorem rdg_0 {r : Nat → Int32} {k : Nat} (h : (r k).toInt = 0) : rdg r k = 0 := by unfold rdg; rw [h]; rfl
theorem rdg_i {r : Nat → Int32} {k : Nat} (h : 0 ≤ (r k).toInt) : (r k).toInt = (rdg r k : Int) := (Int.toNat_of_nonneg h).symm
theorem sv_upd {r : Nat → Int32} {k d : Nat} {x : Int32} (hx : x.toInt = (d : Int)) (h0 : rdg r k = 0) (hk : k < 400) : ∀ {m : Nat}, m ≤ 400 → 400 - m ≤ k → sv (upd r k x) m = sv r m + d * 10 ^ (399 - k)
  | 0, h1, h2 => by omega
  | m + 1, h1, h2 => by
    show rdg (upd r k x) (399 - m) * 10 ^ m + sv (upd r k x) m = rdg r (399 - m) * 10 ^ m + sv r m + _
    rcases Nat.lt_or_ge k (400 - m) with h | h
    · have e : k = 399 - m := by omega
      rw [sv_congr (r := upd r k x) (g := r) (by omega) (fun j a b => rdg_un (by omega)), ← e, rdg_upd hx, h0, show 399 - k = m by omega]
      omega
    · rw [rdg_un (by omega), sv_upd (m := m) hx h0 hk (by omega) h]
      omega
theorem sv_step2 {r g : Nat → Int32} {m c : Nat} {x : Int32} (h : sv g m + c * 10 ^ m = 2 * sv r m) (hx : x.toInt = (((2 * rdg r (399 - m) + c) % 10 : Nat) : Int)) (hm : m < 400) : sv (upd g (399 - m) x) (m + 1) + (2 * rdg r (399 - m) + c) / 10 * 10 ^ (m + 1) = 2 * sv r (m + 1) := by
  show rdg (upd g (399 - m) x) (399 - m) * 10 ^ m + sv (upd g (399 - m) x) m + _ = 2 * (rdg r (399 - m) * 10 ^ m + sv r m)
  rw [rdg_upd hx, sv_congr (r := upd g (399 - m) x) (g := g) (by omega) (fun k a b => rdg_un (by omega)), Nat.pow_succ]
  generalize rdg r (399 - m) = d at *
  generalize 10 ^ m = P at *
  have e1 : (2 * d + c) % 10 * P + (2 * d + c) / 10 * (P * 10) = (2 * d + c) * P := by
    rw [Nat.mul_comm P 10, ← Nat.mul_assoc, ← Nat.add_mul, Nat.mod_add_div']
  have e2 : (2 * d + c) * P = 2 * (d * P) + c * P := by rw [Nat.add_mul, Nat.mul_assoc]
  omega
theorem pv_step2 {r g : Nat → Int32} {i c : Nat} {x : Int32} (h : 2 * pv g i + c = pv r i) (hx : x.toInt = (((10 * c + rdg r i) / 2 : Nat) : Int)) : 2 * pv (upd g i x) (i + 1) + (10 * c + rdg r i) % 2 = pv r (i + 1) := by
  show 2 * (pv (upd g i x) i * 10 + rdg (upd g i x) i) + _ = pv r i * 10 + rdg r i
  rw [rdg_upd hx, pv_congr (r := upd g i x) (g := g) (fun k hk => rdg_un (by omega))]
  omega
