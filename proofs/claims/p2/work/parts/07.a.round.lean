/-! ROUNDING -/
def clX (x : Int) : Int := min (max x (-90)) 40
/-- 2^e is the greatest power of 2 not above tp / bt -/
def IsE (tp bt : Nat) (e : Int) : Prop := bt * 2 ^ e.toNat ≤ tp * 2 ^ (-e).toNat ∧ tp * 2 ^ (-e).toNat < 2 * (bt * 2 ^ e.toNat)
def far (md : Int) (ng : Prop) (q rm B : Nat) : Prop := (md = 0 ∧ (B < 2 * rm ∨ (2 * rm = B ∧ q % 2 = 1))) ∨ (md = 2 ∧ ¬ ng) ∨ (md = 3 ∧ ng) ∨ (md = 4 ∧ B ≤ 2 * rm)
/-- the number tp / bt rounded: the size Z, whether something is lost, whether it is tiny -/
def RS (tp bt E M : Nat) (md : Int) (ng : Prop) (Z : Nat) (ix ty : Prop) : Prop :=
  ∃ (e P : Int) (q rm u : Nat), IsE tp bt e ∧ P = max (e - M) (lowP E M) ∧ tp * 2 ^ (-P).toNat = q * (bt * 2 ^ P.toNat) + rm ∧ rm < bt * 2 ^ P.toNat ∧ (ix ↔ rm ≠ 0) ∧ (ty ↔ e < lowP E M + M) ∧
    ((u = 1 ∧ rm ≠ 0 ∧ far md ng q rm (bt * 2 ^ P.toNat)) ∨ (u = 0 ∧ ¬ (rm ≠ 0 ∧ far md ng q rm (bt * 2 ^ P.toNat)))) ∧ Z = (P - lowP E M).toNat * 2 ^ M + q + u
theorem p10_40 : (10 : Nat) ^ 40 < 2 ^ 133 := by decide
theorem p10_90 : (10 : Nat) ^ 90 < 2 ^ 299 := by decide
theorem d10 {D n : Nat} (h : D < 10 ^ 40) (hn : n ≤ 40) : D * 10 ^ n < 2 ^ 266 := by
  have h1 : 10 ^ n ≤ 10 ^ 40 := Nat.pow_le_pow_right (by decide) hn
  have h2 : D * 10 ^ n ≤ 10 ^ 40 * 10 ^ 40 := Nat.mul_le_mul (Nat.le_of_lt h) h1
  exact Nat.lt_of_le_of_lt h2 (by decide)
theorem m384 {a b : Nat} (h : a < 2 ^ b) (hb : b ≤ 384) : a % 2 ^ (32 * 12) = a := Nat.mod_eq_of_lt (Nat.lt_of_lt_of_le h (Nat.pow_le_pow_right (by decide) hb))
def NR (tp bt kt kb : Nat) (e : Int) : Prop := kt * (bt * 2 ^ e.toNat) = tp * 2 ^ (-e).toNat * kb ∧ kb ≤ kt ∧ kt < 2 * kb ∧ kb < 2 ^ 380 ∧ -380 ≤ e ∧ e ≤ 380
theorem pw_half {b : Nat} (h : 0 < b) : 2 ^ b = 2 * 2 ^ (b - 1) := by
  rw [← Nat.pow_succ', Nat.succ_eq_add_one, show b - 1 + 1 = b by omega]
theorem nr_ge {tp bt b1 b2 : Nat} (c1 : tp < 2 ^ b1) (c2 : 0 < b1 ∧ 2 ^ (b1 - 1) ≤ tp) (d1 : bt < 2 ^ b2) (d2 : 0 < b2 ∧ 2 ^ (b2 - 1) ≤ bt) (h : b2 ≤ b1) : bt * 2 ^ (b1 - b2) < 2 ^ b1 ∧ tp < 2 * (bt * 2 ^ (b1 - b2)) ∧ bt * 2 ^ (b1 - b2) < 2 * tp := by
  have e1 : 2 ^ b2 * 2 ^ (b1 - b2) = 2 ^ b1 := by rw [← Nat.pow_add, show b2 + (b1 - b2) = b1 by omega]
  have e2 : 2 ^ (b2 - 1) * 2 ^ (b1 - b2) = 2 ^ (b1 - 1) := by rw [← Nat.pow_add, show b2 - 1 + (b1 - b2) = b1 - 1 by omega]
  have f1 : bt * 2 ^ (b1 - b2) < 2 ^ b2 * 2 ^ (b1 - b2) := Nat.mul_lt_mul_of_pos_right d1 (pw_p _)
  have f2 : 2 ^ (b2 - 1) * 2 ^ (b1 - b2) ≤ bt * 2 ^ (b1 - b2) := Nat.mul_le_mul_right _ d2.2
  have f3 := pw_half c2.1
  omega
theorem b_380 {x b : Nat} (c2 : 0 < b ∧ 2 ^ (b - 1) ≤ x) (h : x < 2 ^ 380) : b ≤ 380 := by
  refine Decidable.byContradiction fun hb => ?_
  have : 2 ^ 380 ≤ 2 ^ (b - 1) := Nat.pow_le_pow_right (by decide) (by omega)
  omega
theorem nr_1 {tp bt b1 b2 : Nat} (c1 : tp < 2 ^ b1) (c2 : 0 < b1 ∧ 2 ^ (b1 - 1) ≤ tp) (d1 : bt < 2 ^ b2) (d2 : 0 < b2 ∧ 2 ^ (b2 - 1) ≤ bt) (h : b2 ≤ b1) (hb : b1 ≤ 380) (hc : bt * 2 ^ (b1 - b2) ≤ tp) : NR tp bt tp (bt * 2 ^ (b1 - b2)) ((b1 : Int) - b2) := by
  have g := nr_ge c1 c2 d1 d2 h
  have hp : 2 ^ b1 ≤ 2 ^ 380 := Nat.pow_le_pow_right (by decide) hb
  refine ⟨?_, hc, g.2.1, by omega, by omega, by omega⟩
  rw [show ((b1 : Int) - b2).toNat = b1 - b2 by omega, show (-((b1 : Int) - b2)).toNat = 0 by omega, Nat.pow_zero, Nat.mul_one]
theorem nr_2 {tp bt b1 b2 : Nat} (c1 : tp < 2 ^ b1) (c2 : 0 < b1 ∧ 2 ^ (b1 - 1) ≤ tp) (d1 : bt < 2 ^ b2) (d2 : 0 < b2 ∧ 2 ^ (b2 - 1) ≤ bt) (h : b2 ≤ b1) (hb : b1 ≤ 380) (hc : tp < bt * 2 ^ (b1 - b2)) : NR tp bt (2 * tp) (bt * 2 ^ (b1 - b2)) ((b1 : Int) - b2 + (-1)) := by
  have g := nr_ge c1 c2 d1 d2 h
  have hp : 2 ^ b1 ≤ 2 ^ 380 := Nat.pow_le_pow_right (by decide) hb
  refine ⟨?_, by omega, by omega, by omega, by omega, by omega⟩
  rcases Nat.eq_zero_or_pos (b1 - b2) with h0 | h0
  · rw [show ((b1 : Int) - b2 + (-1)).toNat = 0 by omega, show (-((b1 : Int) - b2 + (-1))).toNat = 1 by omega, h0, Nat.pow_zero, Nat.mul_one, Nat.pow_one, Nat.mul_comm 2 tp]
  · rw [show ((b1 : Int) - b2 + (-1)).toNat = b1 - b2 - 1 by omega, show (-((b1 : Int) - b2 + (-1))).toNat = 0 by omega, Nat.pow_zero, Nat.mul_one, pw_half h0, Nat.mul_comm 2 tp, Nat.mul_assoc, Nat.mul_left_comm bt 2]
theorem nr_3 {tp bt b1 b2 : Nat} (c1 : tp < 2 ^ b1) (c2 : 0 < b1 ∧ 2 ^ (b1 - 1) ≤ tp) (d1 : bt < 2 ^ b2) (d2 : 0 < b2 ∧ 2 ^ (b2 - 1) ≤ bt) (h : b1 ≤ b2) (hb : b2 ≤ 380) (hl : bt < 2 ^ 380) (hc : bt ≤ tp * 2 ^ (b2 - b1)) : NR tp bt (tp * 2 ^ (b2 - b1)) bt ((b1 : Int) - b2) := by
  have g := nr_ge d1 d2 c1 c2 h
  refine ⟨?_, hc, g.2.2, hl, by omega, by omega⟩
  rw [show ((b1 : Int) - b2).toNat = 0 by omega, show (-((b1 : Int) - b2)).toNat = b2 - b1 by omega, Nat.pow_zero, Nat.mul_one]
theorem nr_4 {tp bt b1 b2 : Nat} (c1 : tp < 2 ^ b1) (c2 : 0 < b1 ∧ 2 ^ (b1 - 1) ≤ tp) (d1 : bt < 2 ^ b2) (d2 : 0 < b2 ∧ 2 ^ (b2 - 1) ≤ bt) (h : b1 ≤ b2) (hb : b2 ≤ 380) (hl : bt < 2 ^ 380) (hc : tp * 2 ^ (b2 - b1) < bt) : NR tp bt (2 * (tp * 2 ^ (b2 - b1))) bt ((b1 : Int) - b2 + (-1)) := by
  have g := nr_ge d1 d2 c1 c2 h
  refine ⟨?_, by omega, by omega, hl, by omega, by omega⟩
  rw [show ((b1 : Int) - b2 + (-1)).toNat = 0 by omega, show (-((b1 : Int) - b2 + (-1))).toNat = b2 - b1 + 1 by omega, Nat.pow_zero, Nat.mul_one, Nat.pow_succ, ← Nat.mul_assoc tp, Nat.mul_comm 2 (tp * 2 ^ (b2 - b1))]
theorem tb1 {tk b a : Nat} (h : b ≤ a) : 2 * (tk * b) * 2 + a * 2 = 2 * ((tk * 2 + 1) * b) + 2 * (a - b) := by
  rw [show (tk * 2 + 1) * b = 2 * (tk * b) + b by rw [Nat.add_mul, Nat.one_mul, Nat.mul_comm tk 2, Nat.mul_assoc]]
  omega
theorem x2_384 {a : Nat} (h : a < 2 ^ 381) : (a * uw 2 + uw 0) % 2 ^ (32 * 12) = 2 * a := by
  rw [show uw 2 = 2 by decide, show uw 0 = 0 by decide, Nat.add_zero, m384 (b := 382) (by rw [show (382 : Nat) = 381 + 1 from rfl, Nat.pow_succ]; omega) (by decide), Nat.mul_comm]
