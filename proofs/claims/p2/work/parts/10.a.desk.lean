/-! THE DESK -/
def fOK (x y : Int32) : Prop := 2 ≤ x.toInt ∧ x.toInt ≤ 8 ∧ 1 ≤ y.toInt ∧ y.toInt ≤ 23
def mOK (x : Int32) : Prop := 0 ≤ x.toInt ∧ x.toInt ≤ 4
abbrev isPat (E M : Nat) (p : Int) : Prop := 0 ≤ p ∧ p < ((2 * sb E M : Nat) : Int)
/-- what next answers -/
def NX (E M : Nat) (p : Int) (up : Prop) (r : Int) : Prop :=
  (r = -1 ∧ ¬ (isPat E M p ∧ szo E M p.toNat < iz E M)) ∨
  ((isPat E M p ∧ szo E M p.toNat < iz E M) ∧ ((szo E M p.toNat = 0 ∧ ((up ∧ r = 1) ∨ (¬ up ∧ r = (sb E M : Int) + 1))) ∨
    (szo E M p.toNat ≠ 0 ∧ ((((up ∧ p < (sb E M : Int)) ∨ (¬ up ∧ (sb E M : Int) ≤ p)) ∧ r = p + 1) ∨ (((up ∧ (sb E M : Int) ≤ p) ∨ (¬ up ∧ p < (sb E M : Int))) ∧ r = p - 1)))))
def ovS (md : Int) (ng : Prop) : Prop := md = 1 ∨ (md = 2 ∧ ng) ∨ (md = 3 ∧ ¬ ng)
theorem nx_same {up r : Int32} {p : Int} {S : Nat} (hup : up = 0 ∨ up = 1) (h : r = if ((S : Nat) : Int) ≤ p then 1 else 0) (b : up = r) : (up = 1 ∧ (S : Int) ≤ p) ∨ (¬ up = 1 ∧ p < (S : Int)) := by
  by_cases hc : ((S : Nat) : Int) ≤ p
  · rw [if_pos hc] at h
    exact Or.inl ⟨b.trans h, hc⟩
  · rw [if_neg hc] at h
    exact Or.inr ⟨fun h1 => absurd ((b.trans h).symm.trans h1) (by decide), by omega⟩
theorem nx_diff {up r : Int32} {p : Int} {S : Nat} (hup : up = 0 ∨ up = 1) (h : r = if ((S : Nat) : Int) ≤ p then 1 else 0) (b : ¬ up = r) : (up = 1 ∧ p < (S : Int)) ∨ (¬ up = 1 ∧ (S : Int) ≤ p) := by
  by_cases hc : ((S : Nat) : Int) ≤ p
  · rw [if_pos hc] at h
    exact Or.inr ⟨fun h1 => b (h1.trans h.symm), hc⟩
  · rw [if_neg hc] at h
    refine Or.inl ⟨hup.elim (fun h1 => absurd (h1.trans h.symm) b) id, by omega⟩
theorem SHB_pw {E M Z R U A B : Nat} {pw : Int} (h : SHB E M Z R U A B pw) : -45 ≤ pw ∧ pw ≤ 47 := by
  obtain ⟨p0, h1, h2, -, -, -, h3, -⟩ := h
  rcases h3 with h3 | h3 <;> omega
theorem sgf_part {s c a : Nat} (h : s = c * 2 ^ a) : c ≤ s := by
  rw [h]
  exact Nat.le_mul_of_pos_right _ (pw_p a)
theorem five_384 {a n : Nat} (h : a < 16777216) (hn : n ≤ 149) : a * 5 ^ n % 2 ^ (32 * 12) = a * 5 ^ n := by
  have h1 : 5 ^ n ≤ 5 ^ 149 := Nat.pow_le_pow_right (by decide) hn
  have h2 : a * 5 ^ n ≤ 16777216 * 5 ^ 149 := Nat.mul_le_mul (Nat.le_of_lt h) h1
  exact Nat.mod_eq_of_lt (Nat.lt_of_le_of_lt h2 (by decide))
