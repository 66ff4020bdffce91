def l10 (L : Int) : Int := L * 30103 / 100000
theorem lg_tab0 : ∀ i : Nat, i < 305 → (10 ^ (l10 ((i : Int) - 149)).toNat * 2 ^ (-((i : Int) - 149)).toNat ≤ 2 ^ ((i : Int) - 149).toNat * 10 ^ (-(l10 ((i : Int) - 149))).toNat ∧ 2 * (2 ^ ((i : Int) - 149).toNat * 10 ^ (-(l10 ((i : Int) - 149))).toNat) ≤ 100 * (10 ^ (l10 ((i : Int) - 149)).toNat * 2 ^ (-((i : Int) - 149)).toNat) ∧ -45 ≤ l10 ((i : Int) - 149) ∧ l10 ((i : Int) - 149) ≤ 46) := by decide +kernel
theorem lg_tab {L : Int} (h1 : -149 ≤ L) (h2 : L ≤ 155) : 10 ^ (l10 L).toNat * 2 ^ (-L).toNat ≤ 2 ^ L.toNat * 10 ^ (-(l10 L)).toNat ∧ 2 * (2 ^ L.toNat * 10 ^ (-(l10 L)).toNat) ≤ 100 * (10 ^ (l10 L).toNat * 2 ^ (-L).toNat) ∧ -45 ≤ l10 L ∧ l10 L ≤ 46 := by
  have h := lg_tab0 (L + 149).toNat (by omega)
  rw [show (((L + 149).toNat : Nat) : Int) - 149 = L by omega] at h
  exact h
theorem v_lo {c lg : Nat} {k L : Int} (hc : 2 ^ lg ≤ c) (hL : L = k + lg) : 2 ^ (2 - k).toNat * 2 ^ L.toNat ≤ c * 4 * 2 ^ (k - 2).toNat * 2 ^ (-L).toNat := by
  have e : 2 ^ (2 - k).toNat * 2 ^ L.toNat = 2 ^ lg * 4 * 2 ^ (k - 2).toNat * 2 ^ (-L).toNat := by
    rw [show (4 : Nat) = 2 ^ 2 from rfl, ← Nat.pow_add, ← Nat.pow_add, ← Nat.pow_add, ← Nat.pow_add]
    congr 1
    omega
  rw [e]
  exact Nat.mul_le_mul_right _ (Nat.mul_le_mul_right _ (Nat.mul_le_mul_right _ hc))
theorem v_hi {c lg : Nat} {k L : Int} (hc : c < 2 ^ (lg + 1)) (hL : L = k + lg) : c * 4 * 2 ^ (k - 2).toNat * 2 ^ (-L).toNat < 2 * (2 ^ (2 - k).toNat * 2 ^ L.toNat) := by
  have e : 2 * (2 ^ (2 - k).toNat * 2 ^ L.toNat) = 2 ^ (lg + 1) * 4 * 2 ^ (k - 2).toNat * 2 ^ (-L).toNat := by
    rw [show (4 : Nat) = 2 ^ 2 from rfl, ← Nat.pow_add, ← Nat.pow_succ', ← Nat.pow_add, ← Nat.pow_add, ← Nat.pow_add]
    congr 1
    omega
  rw [e]
  exact Nat.mul_lt_mul_of_pos_right (Nat.mul_lt_mul_of_pos_right (Nat.mul_lt_mul_of_pos_right hc (by decide)) (pw_p _)) (pw_p _)
theorem sp_lo {R U a b p q : Nat} (h1 : U * a ≤ R * b) (h2 : p * b ≤ a * q) (hb : 0 < b) : U * p ≤ R * q := by
  refine Nat.le_of_mul_le_mul_right ?_ hb
  calc U * p * b = U * (p * b) := Nat.mul_assoc _ _ _
    _ ≤ U * (a * q) := Nat.mul_le_mul_left _ h2
    _ = U * a * q := (Nat.mul_assoc _ _ _).symm
    _ ≤ R * b * q := Nat.mul_le_mul_right _ h1
    _ = R * q * b := Nat.mul_right_comm _ _ _
theorem sp_hi {R U a b p q : Nat} (h1 : R * b < 2 * (U * a)) (h2 : 2 * (a * q) ≤ 100 * (p * b)) (hb : 0 < b) (hq : 0 < q) : R * q < 100 * (U * p) := by
  refine Nat.lt_of_mul_lt_mul_right (a := b) ?_
  calc R * q * b = R * b * q := Nat.mul_right_comm _ _ _
    _ < 2 * (U * a) * q := Nat.mul_lt_mul_of_pos_right h1 hq
    _ = U * (2 * (a * q)) := by simp only [Nat.mul_comm, Nat.mul_left_comm, Nat.mul_assoc]
    _ ≤ U * (100 * (p * b)) := Nat.mul_le_mul_left _ h2
    _ = 100 * (U * p) * b := by simp only [Nat.mul_comm, Nat.mul_left_comm, Nat.mul_assoc]
theorem t10_384 {a n b : Nat} (h : a < 2 ^ b) (hn : n ≤ 46) (hb : b + 153 ≤ 384) : a * 10 ^ n % 2 ^ (32 * 12) = a * 10 ^ n ∧ a * 10 ^ n < 2 ^ (b + 153) := by
  have h1 : 10 ^ n ≤ 10 ^ 46 := Nat.pow_le_pow_right (by decide) hn
  have h2 : (10 : Nat) ^ 46 ≤ 2 ^ 153 := by decide
  have h3 : a * 10 ^ n < 2 ^ (b + 153) := by
    rw [Nat.pow_add]
    exact Nat.lt_of_le_of_lt (Nat.mul_le_mul_left _ (Nat.le_trans h1 h2)) (Nat.mul_lt_mul_of_pos_right h (pw_p _))
  exact ⟨m384 h3 hb, h3⟩
def SHB (E M Z R U A B : Nat) (pw : Int) : Prop := ∃ p0 : Int, -45 ≤ p0 ∧ p0 ≤ 46 ∧ R = sgf M Z * 4 * 2 ^ (pwr E M Z - 2).toNat * 10 ^ (-p0).toNat ∧ A = 2 * 2 ^ (pwr E M Z - 2).toNat * 10 ^ (-p0).toNat ∧ B = rb0 M Z * 2 ^ (pwr E M Z - 2).toNat * 10 ^ (-p0).toNat ∧ ((pw = p0 ∧ U = 2 ^ (2 - pwr E M Z).toNat * 10 ^ p0.toNat) ∨ (pw = p0 + 1 ∧ U = 2 ^ (2 - pwr E M Z).toNat * 10 ^ p0.toNat * 10)) ∧ U ≤ R ∧ R < 10 * U
/-- no decimal of n digits comes back -/
def NF (R U A B : Nat) (en : Prop) (n : Nat) : Prop := ∀ d rm, R * 10 ^ (n - 1) = d * U + rm → rm < U → ¬ (wB rm (B * 10 ^ (n - 1)) en ∨ wA rm (A * 10 ^ (n - 1)) U en)
def FDN (R U A B : Nat) (en : Prop) (n dg : Nat) : Prop := ∃ d rm, R * 10 ^ (n - 1) = d * U + rm ∧ rm < U ∧ (wB rm (B * 10 ^ (n - 1)) en ∨ wA rm (A * 10 ^ (n - 1)) U en) ∧ ((dg = d + 1 ∧ upC rm (A * 10 ^ (n - 1)) (B * 10 ^ (n - 1)) U en) ∨ (dg = d ∧ ¬ upC rm (A * 10 ^ (n - 1)) (B * 10 ^ (n - 1)) U en))
theorem NF_of {R U A B : Nat} {en : Prop} {n d rm : Nat} (h : R * 10 ^ (n - 1) = d * U + rm) (hr : rm < U) (hn : ¬ (wB rm (B * 10 ^ (n - 1)) en ∨ wA rm (A * 10 ^ (n - 1)) U en)) : NF R U A B en n := by
  intro d2 rm2 h2 hr2
  have hU : 0 < U := by omega
  have e1 : (d * U + rm) / U = d := by rw [Nat.add_comm, Nat.add_mul_div_right _ _ hU, Nat.div_eq_of_lt hr, Nat.zero_add]
  have e2 : (d2 * U + rm2) / U = d2 := by rw [Nat.add_comm, Nat.add_mul_div_right _ _ hU, Nat.div_eq_of_lt hr2, Nat.zero_add]
  have e3 : d = d2 := by rw [← e1, ← e2, ← h, ← h2]
  subst e3
  have e4 : rm = rm2 := by omega
  subst e4
  exact hn
/-- what stays through the digits -/
def BS (R U A B : Nat) : Prop := 0 < U ∧ U < 2 ^ 312 ∧ U ≤ R ∧ R < 10 * U ∧ A ≤ R ∧ B ≤ R ∧ 0 < B ∧ R ≤ 67108864 * B
theorem BS_of {E M Z R U A B : Nat} {pw : Int} (h : SHB E M Z R U A B pw) (hs : 0 < sgf M Z) (hs2 : sgf M Z < 16777216) (hU : 0 < U) (hU2 : U < 2 ^ 312) : BS R U A B := by
  obtain ⟨p0, -, -, hR, hA, hB, -, h1, h2⟩ := h
  have hrb : 1 ≤ rb0 M Z ∧ rb0 M Z ≤ 2 := by unfold rb0; split <;> omega
  have hX : 0 < 2 ^ (pwr E M Z - 2).toNat * 10 ^ (-p0).toNat := Nat.mul_pos (pw_p _) (Nat.pow_pos (by decide))
  rw [Nat.mul_assoc] at hR hA hB
  generalize 2 ^ (pwr E M Z - 2).toNat * 10 ^ (-p0).toNat = X at *
  have hR1 : 4 * X ≤ R := by rw [hR]; exact Nat.mul_le_mul_right _ (by omega)
  have hR2 : R ≤ 67108864 * X := by rw [hR]; exact Nat.mul_le_mul_right _ (by omega)
  have hB1 : X ≤ B := by rw [hB]; exact Nat.le_mul_of_pos_left _ (by omega)
  have hB2 : B ≤ 2 * X := by rw [hB]; exact Nat.mul_le_mul_right _ hrb.2
  exact ⟨hU, hU2, h1, h2, by omega, by omega, by omega, Nat.le_trans hR2 (Nat.mul_le_mul_left _ hB1)⟩
theorem FD_end {R U A B : Nat} {en : Prop} (h : BS R U A B) (hn : NF R U A B en 17) : False := by
  obtain ⟨hU, -, h1, h2, -, -, hB, h3⟩ := h
  have hd := Nat.div_add_mod (R * 10 ^ 16) U
  have hm := Nat.mod_lt (R * 10 ^ 16) hU
  refine hn (R * 10 ^ 16 / U) (R * 10 ^ 16 % U) (by rw [Nat.mul_comm (_ / U)]; exact hd.symm) hm (Or.inl (Or.inl ?_))
  have h10 : (10 : Nat) ^ (17 - 1) = 10000000000000000 := by decide
  rw [h10]
  generalize R * 10 ^ 16 % U = rm at *
  omega
theorem ten_lt {x n : Nat} {U : Nat} (h : x < 10 * U) (hU : U < 2 ^ 312) (hn : n ≤ 17) : x * 10 ^ n < 2 ^ 380 := by
  have h1 : 10 ^ n ≤ 10 ^ 17 := Nat.pow_le_pow_right (by decide) hn
  have h2 : x * 10 ^ n ≤ (10 * 2 ^ 312) * 10 ^ 17 := Nat.mul_le_mul (by omega) h1
  exact Nat.lt_of_le_of_lt h2 (by decide)
