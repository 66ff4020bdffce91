/-! WHAT IS TOLD: a list of letters, cut at 160 -/
def TL (f : Nat → Int32) (x : Int32) (w : List Nat) : Prop := x.toInt = (w.length : Int) ∧ w.length ≤ 160 ∧ ∀ j, j < w.length → (f j).toInt = (w.getD j 0 : Int)
def tk (l : List Nat) : List Nat := l.take 160
theorem tk_tk (a b : List Nat) : tk (tk a ++ b) = tk (a ++ b) := by
  unfold tk
  rw [List.take_append, List.take_append, List.take_take, Nat.min_self]
  congr 1
  rw [List.length_take]
  rcases Nat.le_total a.length 160 with h | h
  · rw [Nat.min_eq_right h]
  · rw [Nat.min_eq_left h, show 160 - 160 = 160 - a.length by omega]
theorem tk_app {w : List Nat} {c : Nat} (h : w.length < 160) : tk (w ++ [c]) = w ++ [c] := by
  unfold tk
  exact List.take_of_length_le (by simp; omega)
theorem tk_full {w : List Nat} {c : Nat} (h : w.length = 160) : tk (w ++ [c]) = w := by
  unfold tk
  rw [List.take_append, ← h, List.take_length, Nat.sub_self]
  simp
theorem tk_self {f : Nat → Int32} {x : Int32} {w : List Nat} (h : TL f x w) : tk w = w := List.take_of_length_le h.2.1
theorem TL_nil (f : Nat → Int32) : TL f 0 [] := ⟨by decide, by simp, fun j h => by simp at h⟩
theorem TL_add {f : Nat → Int32} {x y z : Int32} {w : List Nat} {c : Nat} (h : TL f x w) (hl : w.length < 160) (hy : y.toInt = (w.length : Int) + 1) (hz : z.toInt = (c : Int)) : TL (upd f w.length z) y (tk (w ++ [c])) := by
  rw [tk_app hl]
  refine ⟨by rw [hy]; simp, by simp; omega, fun j hj => ?_⟩
  rw [List.length_append, List.length_singleton] at hj
  rcases Nat.lt_or_ge j w.length with h1 | h1
  · rw [pk_un (by omega), h.2.2 j h1, List.getD_eq_getElem?_getD, List.getD_eq_getElem?_getD, List.getElem?_append_left h1]
  · rw [show j = w.length by omega, pk_us, hz, List.getD_eq_getElem?_getD, List.getElem?_append_right (Nat.le_refl _), Nat.sub_self]
    rfl
/-- digits G 0 .. G (n - 1), the highest first, the point behind place bh -/
def revS (G : Nat → Nat) (bh : Int) : Nat → List Nat
  | 0 => []
  | i + 1 => G i :: (if (i : Int) = bh ∧ 0 < i then 46 :: revS G bh i else revS G bh i)
theorem revS_congr {G K : Nat → Nat} {bh : Int} : ∀ {n : Nat}, (∀ j, j < n → G j = K j) → revS G bh n = revS K bh n
  | 0, _ => rfl
  | n + 1, h => by
    simp only [revS]
    rw [h n (by omega), revS_congr (fun j hj => h j (by omega))]
def dgt (V j : Nat) : Nat := 48 + V / 10 ^ j % 10
theorem dgt_lt (V j : Nat) : 48 ≤ dgt V j ∧ dgt V j ≤ 57 := by unfold dgt; omega
