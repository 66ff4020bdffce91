/-! THE SHORTEST DECIMAL, digit by digit -/
theorem x10_384 {a : Nat} (h : a < 2 ^ 380) : (a * uw 10 + uw 0) % 2 ^ (32 * 12) = a * 10 := by
  rw [show uw 10 = 10 by decide, show uw 0 = 0 by decide, Nat.add_zero, m384 (b := 384) (by rw [show (384 : Nat) = 380 + 4 from rfl, Nat.pow_add]; omega) (by decide)]
/-- whether a comparison lies within the reach -/
def wth (x : Int) (en : Prop) : Prop := x < 0 ∨ (x = 0 ∧ en)
theorem wth_lt {a b : Nat} {x : Int} {en : Prop} (h : (a < b ∧ x < 0) ∨ (a = b ∧ x = 0) ∨ (b < a ∧ 0 < x)) : wth x en ↔ (a < b ∨ (a = b ∧ en)) := by
  unfold wth
  constructor
  · rintro (h1 | ⟨h1, h2⟩)
    · exact Or.inl (by omega)
    · exact Or.inr ⟨by omega, h2⟩
  · rintro (h1 | ⟨h1, h2⟩)
    · exact Or.inl (by omega)
    · exact Or.inr ⟨by omega, h2⟩
/-- the decimal below, the one above come back -/
def wB (rm B : Nat) (en : Prop) : Prop := rm < B ∨ (rm = B ∧ en)
def wA (rm A U : Nat) (en : Prop) : Prop := U < rm + A ∨ (U = rm + A ∧ en)
def upC (rm A B U : Nat) (en : Prop) : Prop := wA rm A U en ∧ (¬ wB rm B en ∨ U < 2 * rm)
