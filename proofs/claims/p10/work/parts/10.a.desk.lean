/-! THE DESK -/
def fOK (x y : Int32) : Prop := 2 ≤ x.toInt ∧ x.toInt ≤ 8 ∧ 1 ≤ y.toInt ∧ y.toInt ≤ 23
def mOK (x : Int32) : Prop := 0 ≤ x.toInt ∧ x.toInt ≤ 4
abbrev isPat (E M : Nat) (p : Int) : Prop := 0 ≤ p ∧ p < ((2 * sb E M : Nat) : Int)
/-- what next answers -/
def NX (E M : Nat) (p : Int) (up : Prop) (r : Int) : Prop :=
  (r = -1 ∧ ¬ (isPat E M p ∧ szo E M p.toNat < iz E M)) ∨
  ((isPat E M p ∧ szo E M p.toNat < iz E M) ∧ ((szo E M p.toNat = 0 ∧ ((up ∧ r = 1) ∨ (¬ up ∧ r = (sb E M : Int) + 1))) ∨
    (szo E M p.toNat ≠ 0 ∧ ((((up ∧ p < (sb E M : Int)) ∨ (¬ up ∧ (sb E M : Int) ≤ p)) ∧ r = p + 1) ∨ (((up ∧ (sb E M : Int) ≤ p) ∨ (¬ up ∧ p < (sb E M : Int))) ∧ r = p - 1)))))
def ovS (md : Int) (ng : Prop) : Prop := md = 1 ∨ (md = 2 ∧ ng) ∨ (md = 3 ∧ ¬ ng)
theorem nx_same {up r : Int32} {p : Int} {S : Nat} (hup : up = 0 ∨ up = 1) (h : r = if ((S : Nat) : Int) ≤ p then 1 else 0) (b : up = r) : (up = 1 ∧ (S : Int) ≤ p) ∨ (¬ up = 1 ∧ p < (S : Int)) := by
  by_cases hc : ((S : Nat) : Int) ≤ p
  · rw [if_pos hc] at h
    exact Or.inl ⟨b.trans h, hc⟩
  · rw [if_neg hc] at h
    exact Or.inr ⟨fun h1 => absurd ((b.trans h).symm.trans h1) (by decide), by omega⟩
theorem nx_diff {up r : Int32} {p : Int} {S : Nat} (hup : up = 0 ∨ up = 1) (h : r = if ((S : Nat) : Int) ≤ p then 1 else 0) (b : ¬ up = r) : (up = 1 ∧ p < (S : Int)) ∨ (¬ up = 1 ∧ (S : Int) ≤ p) := by
  by_cases hc : ((S : Nat) : Int) ≤ p
  · rw [if_pos hc] at h
    exact Or.inr ⟨fun h1 => b (h1.trans h.symm), hc⟩
  · rw [if_neg hc] at h
    refine Or.inl ⟨hup.elim (fun h1 => absurd (h1.trans h.symm) b) id, by omega⟩
theorem SHB_pw {E M Z R U A B : Nat} {pw : Int} (h : SHB E M Z R U A B pw) : -45 ≤ pw ∧ pw ≤ 47 := by
  obtain ⟨p0, h1, h2, -, -, -, h3, -⟩ := h
  rcases h3 with h3 | h3 <;> omega
theorem sgf_part {s c a : Nat} (h : s = c * 2 ^ a) : c ≤ s := by
  rw [h]
  exact Nat.le_mul_of_pos_right _ (pw_p a)
theorem five_384 {a n : Nat} (h : a < 16777216) (hn : n ≤ 149) : a * 5 ^ n % 2 ^ (32 * 12) = a * 5 ^ n := by
  have h1 : 5 ^ n ≤ 5 ^ 149 := Nat.pow_le_pow_right (by decide) hn
  have h2 : a * 5 ^ n ≤ 16777216 * 5 ^ 149 := Nat.mul_le_mul (Nat.le_of_lt h) h1
  exact Nat.mod_eq_of_lt (Nat.lt_of_le_of_lt h2 (by decide))
/-! the words that are told -/
def sgW (E M : Nat) (p : Int) : List Nat := if ((sb E M : Nat) : Int) ≤ p then [45] else []
def nfW (E M : Nat) (p : Int) : List Nat := if szo E M p.toNat = iz E M then (if ((sb E M : Nat) : Int) ≤ p then [45, 105, 110, 102] else [105, 110, 102]) else [110, 97, 110]
def SHN (E M Z n0 dz : Nat) (pz : Int) : Prop := ∃ (R U AA B dv : Nat) (pw0 : Int), SHB E M Z R U AA B pw0 ∧ BS R U AA B ∧ 1 ≤ n0 ∧ n0 ≤ 17 ∧ (∀ n1, 1 ≤ n1 → n1 < n0 → NF R U AA B (Z % 2 = 0) n1) ∧ FDN R U AA B (Z % 2 = 0) n0 dv ∧ ((dv < 10 ^ n0 ∧ dz = dv ∧ pz = pw0) ∨ (dv = 10 ^ n0 ∧ dz = 10 ^ (n0 - 1) ∧ pz = pw0 + 1))
def SHW (E M : Nat) (p : Int) (w : List Nat) : Prop :=
  (iz E M ≤ szo E M p.toNat ∧ w = nfW E M p) ∨ (szo E M p.toNat < iz E M ∧ szo E M p.toNat = 0 ∧ w = tk (tk (sgW E M p ++ [48]) ++ expS 0)) ∨
  (szo E M p.toNat < iz E M ∧ 0 < szo E M p.toNat ∧ ∃ (n0 dz : Nat) (pz : Int), SHN E M (szo E M p.toNat) n0 dz pz ∧ w = tk (tk (sgW E M p ++ revS (dgt dz) ((n0 : Int) - 1) n0) ++ expS pz))
def EXN (E M Z V bh cnt : Nat) : Prop := ∃ (c1 s1 : Nat) (p1 : Int), sgf M Z = c1 * 2 ^ s1 ∧ p1 = pwr E M Z + s1 ∧ (s1 = 0 ∨ p1 ≤ 0) ∧ (0 ≤ p1 ∨ c1 % 2 = 1) ∧ ((0 ≤ p1 ∧ V = c1 * 2 ^ p1.toNat ∧ bh = 0) ∨ (p1 < 0 ∧ V = c1 * 5 ^ (-p1).toNat ∧ bh = (-p1).toNat)) ∧ bh + 1 ≤ cnt ∧ cnt ≤ 160 ∧ V < 10 ^ cnt ∧ (cnt = bh + 1 ∨ 10 ^ (cnt - 1) ≤ V)
def EXW (E M : Nat) (p : Int) (w : List Nat) : Prop :=
  (iz E M ≤ szo E M p.toNat ∧ w = nfW E M p) ∨ (szo E M p.toNat < iz E M ∧ ∃ V bh cnt : Nat, EXN E M (szo E M p.toNat) V bh cnt ∧ w = tk (sgW E M p ++ revS (dgt V) (bh : Int) cnt))
/-- what read answers of a decimal, and the flags -/
def flF (fl ov ix ty : Int32) : Int32 := if ix = 0 then (if ov = 0 then fl else fl ||| 1 ||| 2) else if ty = 0 then (if ov = 0 then fl else fl ||| 1 ||| 2) ||| 1 else (if ov = 0 then fl else fl ||| 1 ||| 2) ||| 1 ||| 4
def decX (T : Nat → Nat) (n : Nat) : Int := -(pB T n : Int) + xE T n (pQ T n)
def RDW (E M : Nat) (md : Int) (T : Nat → Nat) (n : Nat) (fl : Int32) (r : Int) (fl1 : Int32) : Prop :=
  ∃ (Z : Nat) (ix ty : Int32), ((pV T n = 0 ∧ Z = 0 ∧ ix = 0 ∧ ty = 0) ∨ (0 < pV T n ∧ (ix = 0 ∨ ix = 1) ∧ (ty = 0 ∨ ty = 1) ∧ RS (tpX (pV T n) (decX T n)) (btX (decX T n)) E M md (pS T n = 1) Z (ix = 1) (ty = 1))) ∧
    ((Z < iz E M ∧ r = (pS T n : Int) * (sb E M : Int) + Z ∧ fl1 = flF fl 0 ix ty) ∨ (iz E M ≤ Z ∧ fl1 = flF fl 1 ix ty ∧ ((ovS md (pS T n = 1) ∧ r = (pS T n : Int) * (sb E M : Int) + iz E M - 1) ∨ (¬ ovS md (pS T n = 1) ∧ r = (pS T n : Int) * (sb E M : Int) + iz E M))))
theorem pS_le (T : Nat → Nat) (n : Nat) : pS T n = 0 ∨ pS T n = 1 := by unfold pS; split; exact Or.inr rfl; exact Or.inl rfl
theorem dvl_lt2 {T : Nat → Nat} {n i k : Nat} (h : ∀ j, j < k → isD T n (i + j)) : dvl T i k < 10 ^ k := dvl_lt h
theorem rl_all {T : Nat → Nat} {n : Nat} : ∀ {k i : Nat}, ∀ j, j < rl T n k i → isD T n (i + j)
  | 0, i, j, h => by simp [rl] at h
  | k + 1, i, j, h => by
    simp only [rl] at h
    split at h
    · rename_i hd
      rcases Nat.eq_zero_or_pos j with rfl | hj
      · exact hd
      · have := rl_all (T := T) (n := n) (k := k) (i := i + 1) (j - 1) (by omega)
        rw [show i + 1 + (j - 1) = i + j by omega] at this
        exact this
    · omega
theorem pV_lt {T : Nat → Nat} {n : Nat} (h : okD T n) : pV T n < 10 ^ 40 := by
  have h1 : dvl T (pS T n) (pA T n) < 10 ^ pA T n := dvl_lt (n := n) rl_all
  have h2 : dvl T (pS T n + pA T n + 1) (pB T n) < 10 ^ pB T n := by
    refine dvl_lt (n := n) (fun j hj => ?_)
    unfold pB at hj
    split at hj
    · exact rl_all j hj
    · omega
  have h3 : (dvl T (pS T n) (pA T n) + 1) * 10 ^ pB T n ≤ 10 ^ pA T n * 10 ^ pB T n := Nat.mul_le_mul_right _ h1
  rw [← Nat.pow_add, Nat.add_mul] at h3
  have h4 : 10 ^ (pA T n + pB T n) ≤ 10 ^ 40 := Nat.pow_le_pow_right (by decide) h.2.2
  unfold pV
  omega
