/-! THE TAPE -/
def byW (w : Int64) (i : Nat) : Nat := ul w / 2 ^ (8 * i) % 256
def okW (w : Int64) (n : Nat) : Prop := ∀ i, i < n → 33 ≤ byW w i ∧ byW w i ≤ 126
/-- a tape: the letters T of n places, in the row f, with the length x -/
def TP (f : Nat → Int32) (x : Int32) (T : Nat → Nat) (n : Nat) : Prop := x.toInt = (n : Int) ∧ n ≤ 60 ∧ ∀ j, j < n → (f j).toInt = (T j : Int) ∧ 33 ≤ T j ∧ T j ≤ 126
def putT (T : Nat → Nat) (n : Nat) (w : Int64) (k : Nat) : Nat → Nat := fun j => if j < n then T j else byW w (k - 1 - (j - n))
def putC (n : Nat) (w : Int64) (x : Int32) : Prop := 1 ≤ x.toInt ∧ x.toInt ≤ 8 ∧ (n : Int) + x.toInt ≤ 60 ∧ okW w x.toInt.toNat
def tAt (T : Nat → Nat) (n : Nat) (i : Int) : Int := if 0 ≤ i ∧ i < (n : Int) then (T i.toNat : Int) else -1
theorem tAt_r {f : Nat → Int32} {x : Int32} {T : Nat → Nat} {n : Nat} (h : TP f x T n) (i : Int) : tAt T n i = -1 ∨ (33 ≤ tAt T n i ∧ tAt T n i ≤ 126) := by
  unfold tAt
  split
  · right
    have := h.2.2 i.toNat (by omega)
    omega
  · exact Or.inl rfl
theorem q_and255 (x : Int32) : (x &&& 255).toInt = ((uw x % 256 : Nat) : Int) := by
  rw [pk_and x 8 (by decide)]
  exact nI_toInt (by omega)
theorem byW_lt (w : Int64) (i : Nat) : byW w i < 256 := Nat.mod_lt _ (by decide)
theorem q_i2b {x : Int32} {a : Int} (hx : x.toInt = a) (h : -128 ≤ a ∧ a < 128) : x.toInt8.toInt32.toInt = a := by
  rw [Int8.toInt_toInt32, Int32.toInt_toInt8, hx]
  exact Int.bmod_eq_of_le (by omega) (by omega)
theorem nar_b {x : Int32} {a : Int} (hx : x.toInt = a) (h : -128 ≤ a ∧ a < 128) : vp_nar .byte x = x := by
  rw [vp_nar_byte]
  exact Int32.toInt_inj.mp (by rw [q_i2b hx h, hx])
