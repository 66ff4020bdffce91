/-! THE SHORTEST DECIMAL, digit by digit -/
theorem x10_384 {a : Nat} (h : a < 2 ^ 380) : (a * uw 10 + uw 0) % 2 ^ (32 * 12) = a * 10 := by
  rw [show uw 10 = 10 by decide, show uw 0 = 0 by decide, Nat.add_zero, m384 (b := 384) (by rw [show (384 : Nat) = 380 + 4 from rfl, Nat.pow_add]; omega) (by decide)]
/-- whether a comparison lies within the reach -/
def wth (x : Int) (en : Prop) : Prop := x < 0 ∨ (x = 0 ∧ en)
theorem wth_lt {a b : Nat} {x : Int} {en : Prop} (h : (a < b ∧ x < 0) ∨ (a = b ∧ x = 0) ∨ (b < a ∧ 0 < x)) : wth x en ↔ (a < b ∨ (a = b ∧ en)) := by
  unfold wth
  constructor
  · rintro (h1 | ⟨h1, h2⟩)
    · exact Or.inl (by omega)
    · exact Or.inr ⟨by omega, h2⟩
  · rintro (h1 | ⟨h1, h2⟩)
    · exact Or.inl (by omega)
    · exact Or.inr ⟨by omega, h2⟩
/-- the decimal below, the one above come back -/
def wB (rm B : Nat) (en : Prop) : Prop := rm < B ∨ (rm = B ∧ en)
def wA (rm A U : Nat) (en : Prop) : Prop := U < rm + A ∨ (U = rm + A ∧ en)
def upC (rm A B U : Nat) (en : Prop) : Prop := wA rm A U en ∧ (¬ wB rm B en ∨ U < 2 * rm)
def rb0 (M Z : Nat) : Nat := if fz M Z = 0 ∧ 1 < ex M Z then 1 else 2
theorem sgf_pos {M Z : Nat} (h : 0 < Z) : 0 < sgf M Z := by
  unfold sgf
  split
  · exact h
  · have := pw_p M; omega
theorem sgf_lt {M Z : Nat} (hM : M ≤ 23) : sgf M Z < 16777216 := by
  have h1 := p_m hM
  have h2 := fz_lt M Z
  unfold sgf
  split
  · rename_i h
    have : Z < 2 ^ M := by
      unfold ex at h
      rcases Nat.div_eq_zero_iff.mp h with h | h
      · have := pw_p M; omega
      · exact h
    omega
  · omega
theorem pwr_r {E M Z : Nat} (hE1 : 2 ≤ E) (hE2 : E ≤ 8) (hM1 : 1 ≤ M) (hM2 : M ≤ 23) (hZ : Z < sb E M) : -149 ≤ pwr E M Z ∧ pwr E M Z ≤ 130 := by
  have h1 := p_bias hE1 hE2
  have h2 := ex_lt hZ
  have h3 := p_e hE1 hE2
  have h4 : 2 ^ E = 2 * 2 ^ (E - 1) := pw_half (by omega)
  have h5 : lowP E M = 1 - ((2 ^ (E - 1) - 1 : Nat) : Int) - (M : Int) := rfl
  unfold pwr
  omega
theorem shl_384 {a n b : Nat} (h : a < 2 ^ b) (hb : b + n ≤ 384) : a * 2 ^ n % 2 ^ (32 * 12) = a * 2 ^ n := by
  refine m384 (b := b + n) ?_ hb
  rw [Nat.pow_add]
  exact Nat.mul_lt_mul_of_pos_right h (pw_p n)
