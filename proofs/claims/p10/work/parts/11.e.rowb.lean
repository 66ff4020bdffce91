/-! whole part and rest of a row -/
theorem sv_lt {r : Nat → Int32} : ∀ {m : Nat}, m ≤ 400 → (∀ k, 400 - m ≤ k → k < 400 → rdg r k ≤ 9) → sv r m < 10 ^ m
  | 0, _, _ => Nat.one_pos
  | m + 1, hm, h => by
    have h1 := sv_lt (r := r) (m := m) (by omega) (fun k a b => h k (by omega) b)
    have h2 := Nat.mul_le_mul_right (10 ^ m) (h (399 - m) (by omega) (by omega))
    show rdg r (399 - m) * 10 ^ m + sv r m < 10 ^ (m + 1)
    rw [Nat.pow_succ]
    omega
theorem RWp_9 {r : Nat → Int32} {fi la : Nat} (h : RWp r fi la) {k : Nat} (hk : k < 400) : rdg r k ≤ 9 := by
  have := h.1 k hk
  unfold rdg
  omega
theorem sv_split (r : Nat → Int32) : sv r 400 = pv r 61 * 10 ^ 339 + sv r 339 := by rw [← pv_400, pv_sv r 339 (by omega)]
theorem pv_61 {r : Nat → Int32} {la : Nat} (h : RWp r 60 la) : pv r 61 = rdg r 60 := by
  show pv r 60 * 10 + rdg r 60 = rdg r 60
  rw [pv_zero (fun k hk => rdg_0 (h.2.1 k hk))]
  omega
theorem sv_339 {r : Nat → Int32} {fi la : Nat} (h : RWp r fi la) : sv r 339 < 10 ^ 339 := sv_lt (by omega) (fun k _ b => RWp_9 h b)
theorem whole_60 {r : Nat → Int32} {la : Nat} (h : RWp r 60 la) : sv r 400 / 10 ^ 339 = rdg r 60 := by
  rw [sv_split, pv_61 h, Nat.add_comm, Nat.add_mul_div_right _ _ (p10 339), Nat.div_eq_of_lt (sv_339 h), Nat.zero_add]
theorem pv_ge {r : Nat → Int32} : ∀ {n k : Nat}, k < n → rdg r k * 10 ^ (n - 1 - k) ≤ pv r n
  | 0, k, h => by omega
  | n + 1, k, h => by
    show _ ≤ pv r n * 10 + rdg r n
    rcases Nat.lt_or_ge k n with h1 | h1
    · have ih := pv_ge (r := r) h1
      have := Nat.mul_le_mul_right 10 ih
      rw [Nat.mul_assoc, ← Nat.pow_succ, Nat.succ_eq_add_one, show n - 1 - k + 1 = n + 1 - 1 - k by omega] at this
      omega
    · rw [show k = n by omega, show n + 1 - 1 - n = 0 by omega, Nat.pow_zero]
      omega
theorem whole_lo {r : Nat → Int32} {fi la : Nat} (h : RWp r fi la) (hf : fi < 60) : 2 ≤ sv r 400 / 10 ^ 339 := by
  have h1 := h.2.2.2.2.2.2 hf
  have h2 := (h.1 fi (by omega)).1
  have h3 : 1 ≤ rdg r fi := by unfold rdg; omega
  have h4 := pv_ge (r := r) (n := 61) (k := fi) (by omega)
  have h5 : 10 ^ 1 ≤ 10 ^ (61 - 1 - fi) := Nat.pow_le_pow_right (by decide) (by omega)
  have h6 : 1 * 10 ^ (61 - 1 - fi) ≤ rdg r fi * 10 ^ (61 - 1 - fi) := Nat.mul_le_mul_right _ h3
  have h7 : 2 ≤ pv r 61 := by omega
  rw [sv_split, Nat.add_comm, Nat.add_mul_div_right _ _ (p10 339)]
  omega
theorem sv_pos {r : Nat → Int32} : ∀ {m k : Nat}, m ≤ 400 → 400 - m ≤ k → k < 400 → 0 < rdg r k → 0 < sv r m
  | 0, k, hm, h1, h2, _ => by omega
  | m + 1, k, hm, h1, h2, h3 => by
    show 0 < rdg r (399 - m) * 10 ^ m + sv r m
    rcases Nat.lt_or_ge k (400 - m) with h | h
    · have e : k = 399 - m := by omega
      rw [← e]
      have := Nat.mul_pos h3 (p10 m)
      omega
    · have := sv_pos (r := r) (m := m) (by omega) h h2 h3
      omega
/-- the part behind the point against a half: 0 nothing, 1 less, 2 the same, 3 more -/
def HB (F : Nat) (x : Int) : Prop := (x = 0 ∧ F = 0) ∨ (x = 1 ∧ 0 < F ∧ 2 * F < 10 ^ 339) ∨ (x = 2 ∧ 2 * F = 10 ^ 339) ∨ (x = 3 ∧ 10 ^ 339 < 2 * F)
theorem F_split (r : Nat → Int32) : sv r 339 = rdg r 61 * 10 ^ 338 + sv r 338 := by
  show rdg r (399 - 338) * 10 ^ 338 + sv r 338 = _
  rfl
theorem HB_of {r : Nat → Int32} {fi la : Nat} (h : RWp r fi la) {so : Prop} (hs : (so → 0 < sv r 338) ∧ (¬ so → sv r 338 = 0)) :
    (rdg r 61 = 5 → so → HB (sv r 339) 3) ∧ (rdg r 61 = 5 → ¬ so → HB (sv r 339) 2) ∧ (5 < rdg r 61 → HB (sv r 339) 3) ∧ (0 < rdg r 61 → rdg r 61 < 5 → HB (sv r 339) 1) ∧ (rdg r 61 = 0 → so → HB (sv r 339) 1) ∧ (rdg r 61 = 0 → ¬ so → HB (sv r 339) 0) := by
  have h1 : sv r 338 < 10 ^ 338 := sv_lt (by omega) (fun k _ b => RWp_9 h b)
  have h2 := F_split r
  have h3 : (10 : Nat) ^ 339 = 10 ^ 338 * 10 := Nat.pow_succ 10 338
  unfold HB
  rw [h3, h2]
  generalize (10 : Nat) ^ 338 = P at *
  generalize sv r 338 = s at *
  generalize rdg r 61 = d at *
  have hq := hs.1
  have hq2 := hs.2
  refine ⟨fun a b => ?_, fun a b => ?_, fun a => ?_, fun a b => ?_, fun a b => ?_, fun a b => ?_⟩
  · have := hq b; subst a; right; right; right; exact ⟨rfl, by omega⟩
  · have := hq2 b; subst a; right; right; left; exact ⟨rfl, by omega⟩
  · right; right; right
    have : 6 * P ≤ d * P := Nat.mul_le_mul_right _ a
    exact ⟨rfl, by omega⟩
  · right; left
    have e1 : 1 * P ≤ d * P := Nat.mul_le_mul_right _ a
    have e2 : d * P ≤ 4 * P := Nat.mul_le_mul_right _ (by omega)
    exact ⟨rfl, by omega, by omega⟩
  · have := hq b; subst a; right; left; exact ⟨rfl, by omega, by omega⟩
  · have := hq2 b; subst a; left; exact ⟨rfl, by omega⟩
theorem szo_cases {E M : Nat} {p : Int} (h1 : 0 ≤ p) (h2 : p < ((2 * sb E M : Nat) : Int)) : (p < (sb E M : Int) ∧ (szo E M p.toNat : Int) = p) ∨ ((sb E M : Int) ≤ p ∧ (szo E M p.toNat : Int) = p - sb E M) := by
  unfold szo
  rcases Int.lt_or_le p (sb E M : Int) with h | h
  · left
    rw [Nat.mod_eq_of_lt (by omega)]
    omega
  · right
    have e : p.toNat % sb E M = p.toNat - sb E M := by rw [Nat.mod_eq_sub_mod (by omega), Nat.mod_eq_of_lt (by omega)]
    rw [e]
    omega
