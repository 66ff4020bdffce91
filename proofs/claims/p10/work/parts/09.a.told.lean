/-! WHAT IS TOLD: a list of letters, cut at 160 -/
def TL (f : Nat → Int32) (x : Int32) (w : List Nat) : Prop := x.toInt = (w.length : Int) ∧ w.length ≤ 160 ∧ ∀ j, j < w.length → (f j).toInt = (w.getD j 0 : Int)
def tk (l : List Nat) : List Nat := l.take 160
theorem tk_tk (a b : List Nat) : tk (tk a ++ b) = tk (a ++ b) := by
  unfold tk
  rw [List.take_append, List.take_append, List.take_take, Nat.min_self]
  congr 1
  rw [List.length_take]
  rcases Nat.le_total a.length 160 with h | h
  · rw [Nat.min_eq_right h]
  · rw [Nat.min_eq_left h, show 160 - 160 = 160 - a.length by omega]
theorem tk_app {w : List Nat} {c : Nat} (h : w.length < 160) : tk (w ++ [c]) = w ++ [c] := by
  unfold tk
  exact List.take_of_length_le (by simp; omega)
theorem tk_full {w : List Nat} {c : Nat} (h : w.length = 160) : tk (w ++ [c]) = w := by
  unfold tk
  rw [List.take_append, ← h, List.take_length, Nat.sub_self]
  simp
theorem tk_self {f : Nat → Int32} {x : Int32} {w : List Nat} (h : TL f x w) : tk w = w := List.take_of_length_le h.2.1
theorem TL_nil (f : Nat → Int32) : TL f 0 [] := ⟨by decide, by simp, fun j h => by simp at h⟩
theorem TL_add {f : Nat → Int32} {x y z : Int32} {w : List Nat} {c : Nat} (h : TL f x w) (hl : w.length < 160) (hy : y.toInt = (w.length : Int) + 1) (hz : z.toInt = (c : Int)) : TL (upd f w.length z) y (tk (w ++ [c])) := by
  rw [tk_app hl]
  refine ⟨by rw [hy]; simp, by simp; omega, fun j hj => ?_⟩
  rw [List.length_append, List.length_singleton] at hj
  rcases Nat.lt_or_ge j w.length with h1 | h1
  · rw [pk_un (by omega), h.2.2 j h1, List.getD_eq_getElem?_getD, List.getD_eq_getElem?_getD, List.getElem?_append_left h1]
  · rw [show j = w.length by omega, pk_us, hz, List.getD_eq_getElem?_getD, List.getElem?_append_right (Nat.le_refl _), Nat.sub_self]
    rfl
/-- digits G 0 .. G (n - 1), the highest first, the point behind place bh -/
def revS (G : Nat → Nat) (bh : Int) : Nat → List Nat
  | 0 => []
  | i + 1 => G i :: (if (i : Int) = bh ∧ 0 < i then 46 :: revS G bh i else revS G bh i)
theorem revS_congr {G K : Nat → Nat} {bh : Int} : ∀ {n : Nat}, (∀ j, j < n → G j = K j) → revS G bh n = revS K bh n
  | 0, _ => rfl
  | n + 1, h => by
    simp only [revS]
    rw [h n (by omega), revS_congr (fun j hj => h j (by omega))]
def dgt (V j : Nat) : Nat := 48 + V / 10 ^ j % 10
theorem dgt_lt (V j : Nat) : 48 ≤ dgt V j ∧ dgt V j ≤ 57 := by unfold dgt; omega
/-- e and the power -/
def expS (p : Int) : List Nat := 101 :: ((if p < 0 then [45] else []) ++ (if 10 ≤ p.natAbs then [48 + p.natAbs / 10, 48 + p.natAbs % 10] else [48 + p.natAbs]))
theorem rev1 (V : Nat) (h : V < 10) : revS (dgt V) (((1 : Nat) : Int) - (1 : Int32).toInt) 1 = [48 + V] := by
  simp only [revS]
  rw [if_neg (by omega)]
  simp [dgt]
  omega
theorem rev2 (V : Nat) (h : V < 100) : revS (dgt V) (((2 : Nat) : Int) - (2 : Int32).toInt) 2 = [48 + V / 10, 48 + V % 10] := by
  have e : ((2 : Nat) : Int) - (2 : Int32).toInt = 0 := by decide
  rw [e]
  simp only [revS]
  rw [if_neg (by omega), if_neg (by omega)]
  simp [dgt]
  omega
theorem expS_1 {p : Int} (h : ¬ p < 0) (h2 : p.natAbs < 10) : [101] ++ revS (dgt p.natAbs) (((1 : Nat) : Int) - (1 : Int32).toInt) 1 = expS p := by
  rw [rev1 _ h2, expS, if_neg h, if_neg (by omega)]; rfl
theorem expS_2 {p : Int} (h : ¬ p < 0) (h2 : 10 ≤ p.natAbs ∧ p.natAbs < 100) : [101] ++ revS (dgt p.natAbs) (((2 : Nat) : Int) - (2 : Int32).toInt) 2 = expS p := by
  rw [rev2 _ h2.2, expS, if_neg h, if_pos h2.1]; rfl
theorem expS_3 {p : Int} (h : p < 0) (h2 : p.natAbs < 10) : [101] ++ ([45] ++ revS (dgt p.natAbs) (((1 : Nat) : Int) - (1 : Int32).toInt) 1) = expS p := by
  rw [rev1 _ h2, expS, if_pos h, if_neg (by omega)]; rfl
theorem expS_4 {p : Int} (h : p < 0) (h2 : 10 ≤ p.natAbs ∧ p.natAbs < 100) : [101] ++ ([45] ++ revS (dgt p.natAbs) (((2 : Nat) : Int) - (2 : Int32).toInt) 2) = expS p := by
  rw [rev2 _ h2.2, expS, if_pos h, if_pos h2.1]; rfl
theorem chunk_dig {V c i : Nat} (h : i < 9) : V / 10 ^ c % 1000000000 / 10 ^ i % 10 = V / 10 ^ (c + i) % 10 := by
  have e : (1000000000 : Nat) = 10 ^ i * 10 ^ (9 - i) := by rw [← Nat.pow_add, show i + (9 - i) = 9 by omega]
  rw [e, Nat.mod_mul_right_div_self, show 10 ^ (9 - i) = 10 * 10 ^ (9 - i - 1) by rw [← Nat.pow_succ', Nat.succ_eq_add_one, show 9 - i - 1 + 1 = 9 - i by omega], Nat.mod_mul_right_mod, Nat.div_div_eq_div_mul, ← Nat.pow_add]
theorem top_zero {V c : Nat} (h1 : 1 ≤ c) (h2 : V < 10 ^ c) (h : dgt V (c - 1) = 48) : V < 10 ^ (c - 1) := by
  unfold dgt at h
  have e : 10 ^ c = 10 ^ (c - 1) * 10 := by rw [← Nat.pow_succ, Nat.succ_eq_add_one, show c - 1 + 1 = c by omega]
  have h3 : V / 10 ^ (c - 1) < 10 := (Nat.div_lt_iff_lt_mul (Nat.pow_pos (by decide))).mpr (by rw [Nat.mul_comm, ← e]; exact h2)
  have h4 : V / 10 ^ (c - 1) = 0 := by
    generalize V / 10 ^ (c - 1) = y at h h3 ⊢
    omega
  rcases Nat.div_eq_zero_iff.mp h4 with h5 | h5
  · exact absurd h5 (Nat.ne_of_gt (Nat.pow_pos (by decide)))
  · exact h5
theorem top_nz {V c : Nat} (h : ¬ dgt V (c - 1) = 48) : 10 ^ (c - 1) ≤ V := by
  refine Nat.le_of_not_lt fun h1 => h ?_
  rw [dgt, Nat.div_eq_of_lt h1]
