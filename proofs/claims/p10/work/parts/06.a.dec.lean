/-! WHAT A TAPE SAYS -/
abbrev isD (T : Nat → Nat) (n i : Nat) : Prop := i < n ∧ 48 ≤ T i ∧ T i ≤ 57
/-- how many digits stand from i on, at most so many -/
def rl (T : Nat → Nat) (n : Nat) : Nat → Nat → Nat
  | 0, _ => 0
  | k + 1, i => if isD T n i then rl T n k (i + 1) + 1 else 0
theorem rl_eq {T : Nat → Nat} {n : Nat} : ∀ {fuel a i : Nat}, a ≤ fuel → (∀ j, j < a → isD T n (i + j)) → (a = fuel ∨ ¬ isD T n (i + a)) → rl T n fuel i = a
  | 0, a, i, h, _, _ => by simp [rl]; omega
  | k + 1, 0, i, h, h1, h2 => by
    rcases h2 with h2 | h2
    · omega
    · simp only [rl]
      rw [if_neg (show ¬ isD T n i from h2)]
  | k + 1, a + 1, i, h, h1, h2 => by
    simp only [rl]
    rw [if_pos (show isD T n i from h1 0 (by omega)), rl_eq (a := a) (by omega) (fun j hj => by have := h1 (j + 1) (by omega); rw [show i + 1 + j = i + (j + 1) by omega]; exact this) (by rcases h2 with h2 | h2; exact Or.inl (by omega); exact Or.inr (by rw [show i + 1 + a = i + (a + 1) by omega]; exact h2))]
def dvl (T : Nat → Nat) (i : Nat) : Nat → Nat
  | 0 => 0
  | k + 1 => dvl T i k * 10 + (T (i + k) - 48)
theorem dvl_lt {T : Nat → Nat} {n i : Nat} : ∀ {k : Nat}, (∀ j, j < k → isD T n (i + j)) → dvl T i k < 10 ^ k
  | 0, _ => Nat.one_pos
  | k + 1, h => by
    have h1 := dvl_lt (k := k) (fun j hj => h j (by omega))
    have h2 := h k (by omega)
    show dvl T i k * 10 + (T (i + k) - 48) < 10 ^ (k + 1)
    rw [Nat.pow_succ]
    omega
def pS (T : Nat → Nat) (n : Nat) : Nat := if 0 < n ∧ T 0 = 45 then 1 else 0
def pA (T : Nat → Nat) (n : Nat) : Nat := rl T n 61 (pS T n)
abbrev pD (T : Nat → Nat) (n : Nat) : Prop := pS T n + pA T n < n ∧ T (pS T n + pA T n) = 46
def pB (T : Nat → Nat) (n : Nat) : Nat := if pD T n then rl T n 61 (pS T n + pA T n + 1) else 0
def pQ (T : Nat → Nat) (n : Nat) : Nat := if pD T n then pS T n + pA T n + 1 + pB T n else pS T n + pA T n
def okD (T : Nat → Nat) (n : Nat) : Prop := pA T n ≠ 0 ∧ (pD T n → pB T n ≠ 0) ∧ pA T n + pB T n ≤ 40
def pV (T : Nat → Nat) (n : Nat) : Nat := dvl T (pS T n) (pA T n) * 10 ^ pB T n + dvl T (pS T n + pA T n + 1) (pB T n)
/-- digits, no point seen -/
def ph1 (T : Nat → Nat) (n cnt pos : Nat) (ah : Int) (v : Nat) : Prop := ah = -1 ∧ pos = pS T n + cnt ∧ (∀ j, j < cnt → isD T n (pS T n + j)) ∧ v = dvl T (pS T n) cnt
/-- digits, a point behind a of them -/
def ph2 (T : Nat → Nat) (n cnt pos : Nat) (ah : Int) (v : Nat) : Prop := ∃ a : Nat, ah = (a : Int) ∧ 0 < a ∧ a ≤ cnt ∧ pos = pS T n + cnt + 1 ∧ (∀ j, j < a → isD T n (pS T n + j)) ∧ pS T n + a < n ∧ T (pS T n + a) = 46 ∧ (∀ j, j < cnt - a → isD T n (pS T n + a + 1 + j)) ∧ v = dvl T (pS T n) a * 10 ^ (cnt - a) + dvl T (pS T n + a + 1) (cnt - a)
theorem ph1_end {T : Nat → Nat} {n cnt pos v : Nat} {ah : Int} (hn : n ≤ 60) (h : ph1 T n cnt pos ah v) (hx : ¬ isD T n pos) : pA T n = cnt := by
  obtain ⟨-, rfl, h2, -⟩ := h
  have hc : cnt ≤ 60 := by
    rcases Nat.eq_zero_or_pos cnt with h0 | h0
    · omega
    · have := (h2 (cnt - 1) (by omega)).1; omega
  exact rl_eq (by omega) h2 (Or.inr hx)
theorem ph2_end {T : Nat → Nat} {n cnt pos v : Nat} {ah : Int} (hn : n ≤ 60) (h : ph2 T n cnt pos ah v) (hx : ¬ isD T n pos) : ∃ a : Nat, ah = (a : Int) ∧ 0 < a ∧ a ≤ cnt ∧ pA T n = a ∧ pD T n ∧ pB T n = cnt - a ∧ v = pV T n ∧ pos = pQ T n := by
  obtain ⟨a, h0, h1, h2, h3, h4, h5, h6, h7, h8⟩ := h
  have hA : pA T n = a := rl_eq (by omega) h4 (Or.inr (by rintro ⟨-, h9, h10⟩; omega))
  have hD : pD T n := by unfold pD; rw [hA]; exact ⟨h5, h6⟩
  have hc : cnt - a ≤ 60 := by
    rcases Nat.eq_zero_or_pos (cnt - a) with h0 | h0
    · omega
    · have := (h7 (cnt - a - 1) (by omega)).1; omega
  have hB : pB T n = cnt - a := by
    rw [pB, if_pos hD, hA]
    exact rl_eq (by omega) h7 (Or.inr (by rw [show pS T n + a + 1 + (cnt - a) = pos by omega]; exact hx))
  refine ⟨a, h0, h1, h2, hA, hD, hB, ?_, ?_⟩
  · rw [pV, hA, hB]; exact h8
  · rw [pQ, if_pos hD, hA, hB]; omega
theorem ph1_lt {T : Nat → Nat} {n cnt pos v : Nat} {ah : Int} (h : ph1 T n cnt pos ah v) (hp : pos ≤ 60) : v < 10 ^ 61 := by
  obtain ⟨-, h1, h2, rfl⟩ := h
  exact Nat.lt_of_lt_of_le (dvl_lt h2) (Nat.pow_le_pow_right (by decide) (by omega))
theorem ph2_lt {T : Nat → Nat} {n cnt pos v : Nat} {ah : Int} (h : ph2 T n cnt pos ah v) (hp : pos ≤ 60) : v < 10 ^ 61 := by
  obtain ⟨a, h0, h1, h2, h3, h4, h5, h6, h7, rfl⟩ := h
  have e1 := dvl_lt h4
  have e2 := dvl_lt h7
  have e3 : (dvl T (pS T n) a + 1) * 10 ^ (cnt - a) ≤ 10 ^ a * 10 ^ (cnt - a) := Nat.mul_le_mul_right _ e1
  rw [← Nat.pow_add, show a + (cnt - a) = cnt by omega, Nat.add_mul] at e3
  have e4 : 10 ^ cnt ≤ 10 ^ 61 := Nat.pow_le_pow_right (by decide) (by omega)
  omega
theorem ph1_dig {T : Nat → Nat} {n cnt pos v : Nat} {ah : Int} (h : ph1 T n cnt pos ah v) (hd : isD T n pos) : ph1 T n (cnt + 1) (pos + 1) ah (v * 10 + (T pos - 48)) := by
  obtain ⟨h0, rfl, h2, rfl⟩ := h
  refine ⟨h0, rfl, fun j hj => ?_, rfl⟩
  rcases Nat.lt_or_ge j cnt with h3 | h3
  · exact h2 j h3
  · rw [show j = cnt by omega]; exact hd
theorem ph2_dig {T : Nat → Nat} {n cnt pos v : Nat} {ah : Int} (h : ph2 T n cnt pos ah v) (hd : isD T n pos) : ph2 T n (cnt + 1) (pos + 1) ah (v * 10 + (T pos - 48)) := by
  obtain ⟨a, h0, h1, h2, rfl, h4, h5, h6, h7, rfl⟩ := h
  refine ⟨a, h0, h1, by omega, rfl, h4, h5, h6, fun j hj => ?_, ?_⟩
  · rcases Nat.lt_or_ge j (cnt - a) with h3 | h3
    · exact h7 j h3
    · rw [show pS T n + a + 1 + j = pS T n + cnt + 1 by omega]; exact hd
  · rw [show cnt + 1 - a = cnt - a + 1 by omega]
    show _ = _ * 10 ^ (cnt - a + 1) + (dvl T (pS T n + a + 1) (cnt - a) * 10 + (T (pS T n + a + 1 + (cnt - a)) - 48))
    rw [show pS T n + a + 1 + (cnt - a) = pS T n + cnt + 1 by omega, Nat.pow_succ, Nat.add_mul, Nat.mul_assoc]
    omega
theorem ph1_dot {T : Nat → Nat} {n cnt pos v : Nat} {ah : Int} (h : ph1 T n cnt pos ah v) (hc : 0 < cnt) (hp : pos < n) (hd : T pos = 46) : ph2 T n cnt (pos + 1) (cnt : Int) v := by
  obtain ⟨h0, rfl, h2, rfl⟩ := h
  refine ⟨cnt, rfl, hc, Nat.le_refl _, rfl, h2, hp, hd, fun j hj => by omega, ?_⟩
  rw [Nat.sub_self]
  show _ = _ * 1 + 0
  omega
theorem isD_tAt {T : Nat → Nat} {n i : Nat} : isD T n i ↔ 48 ≤ tAt T n (i : Int) ∧ tAt T n (i : Int) ≤ 57 := by
  unfold tAt isD
  split
  · rename_i h
    rw [Int.toNat_natCast]
    omega
  · rename_i h
    constructor
    · intro h1; omega
    · intro h1; omega
theorem tAt_eq {T : Nat → Nat} {n i : Nat} {z : Int} (h : tAt T n (i : Int) = z) (hz : 0 ≤ z) : i < n ∧ (T i : Int) = z := by
  unfold tAt at h
  split at h
  · rename_i h1
    rw [Int.toNat_natCast] at h
    exact ⟨by omega, h⟩
  · omega
theorem tAt_ne {T : Nat → Nat} {n i : Nat} (h : i < n) : tAt T n (i : Int) = (T i : Int) := by
  unfold tAt
  rw [if_pos (by omega), Int.toNat_natCast]
theorem tAt_end {T : Nat → Nat} {n i : Nat} : tAt T n (i : Int) = -1 ↔ n ≤ i := by
  unfold tAt
  split <;> omega
/-! the power behind the digits, from place q on -/
def eS (T : Nat → Nat) (n q : Nat) : Nat := if q + 1 < n ∧ (T (q + 1) = 45 ∨ T (q + 1) = 43) then 1 else 0
abbrev eN (T : Nat → Nat) (n q : Nat) : Prop := q + 1 < n ∧ T (q + 1) = 45
def eD (T : Nat → Nat) (n q : Nat) : Nat := rl T n 3 (q + 1 + eS T n q)
def eX (T : Nat → Nat) (n q : Nat) : Nat := dvl T (q + 1 + eS T n q) (eD T n q)
def okE (T : Nat → Nat) (n q : Nat) : Prop := n ≤ q ∨ (q < n ∧ T q = 101 ∧ eD T n q ≠ 0 ∧ n ≤ q + 1 + eS T n q + eD T n q)
def xE (T : Nat → Nat) (n q : Nat) : Int := if n ≤ q then 0 else if eN T n q then -(eX T n q : Int) else (eX T n q : Int)
def isDec (T : Nat → Nat) (n : Nat) : Prop := okD T n ∧ okE T n (pQ T n)
theorem td_A {T : Nat → Nat} {n cnt pos v : Nat} {ah : Int} (hn : n ≤ 60) (h : (ph1 T n cnt pos ah v ∧ (cnt = 0 ∨ ¬ (pos < n ∧ T pos = 46))) ∨ ph2 T n cnt pos ah v) (hx : ¬ isD T n pos) :
    (ah = -1 ∧ pA T n = cnt ∧ (0 < cnt → ¬ pD T n) ∧ (0 < cnt → pos = pQ T n ∧ v = pV T n ∧ pB T n = 0)) ∨ ∃ a : Nat, ah = (a : Int) ∧ 0 < a ∧ a ≤ cnt ∧ pA T n = a ∧ pD T n ∧ pB T n = cnt - a ∧ v = pV T n ∧ pos = pQ T n := by
  rcases h with ⟨h, h2⟩ | h
  · left
    have hA := ph1_end hn h hx
    obtain ⟨h0, rfl, h3, rfl⟩ := h
    have hnD : 0 < cnt → ¬ pD T n := fun hc hD => by
      unfold pD at hD
      rw [hA] at hD
      rcases h2 with h2 | h2
      · omega
      · exact h2 hD
    refine ⟨h0, hA, hnD, fun hc => ?_⟩
    have hB : pB T n = 0 := by rw [pB, if_neg (hnD hc)]
    refine ⟨by rw [pQ, if_neg (hnD hc), hA], ?_, hB⟩
    rw [pV, hA, hB]
    show _ = _ * 1 + 0
    omega
  · exact Or.inr (ph2_end hn h hx)
theorem td_zero {T : Nat → Nat} {n cnt pos v : Nat} {ah : Int} (hn : n ≤ 60) (h : (ph1 T n cnt pos ah v ∧ (cnt = 0 ∨ ¬ (pos < n ∧ T pos = 46))) ∨ ph2 T n cnt pos ah v) (hx : ¬ isD T n pos) (hc : cnt = 0) : ¬ okD T n := by
  intro hok
  rcases td_A hn h hx with ⟨-, hA, -, -⟩ | ⟨a, -, h1, h2, hA, -⟩
  · exact hok.1 (by omega)
  · omega
theorem td_many {T : Nat → Nat} {n cnt pos v : Nat} {ah : Int} (hn : n ≤ 60) (h : (ph1 T n cnt pos ah v ∧ (cnt = 0 ∨ ¬ (pos < n ∧ T pos = 46))) ∨ ph2 T n cnt pos ah v) (hx : ¬ isD T n pos) (hc : 40 < cnt) : ¬ okD T n := by
  intro hok
  have := hok.2.2
  rcases td_A hn h hx with ⟨-, hA, -, -⟩ | ⟨a, -, h1, h2, hA, -, hB, -⟩ <;> omega
theorem td_bare {T : Nat → Nat} {n cnt pos v : Nat} {ah : Int} (hn : n ≤ 60) (h : (ph1 T n cnt pos ah v ∧ (cnt = 0 ∨ ¬ (pos < n ∧ T pos = 46))) ∨ ph2 T n cnt pos ah v) (hx : ¬ isD T n pos) (hc : ah = (cnt : Int)) : ¬ okD T n := by
  intro hok
  rcases td_A hn h hx with ⟨h0, -⟩ | ⟨a, h0, h1, h2, hA, hD, hB, -⟩
  · omega
  · exact hok.2.1 hD (by omega)
theorem td_one {T : Nat → Nat} {n cnt pos v : Nat} {ah : Int} (hn : n ≤ 60) (h : (ph1 T n cnt pos ah v ∧ (cnt = 0 ∨ ¬ (pos < n ∧ T pos = 46))) ∨ ph2 T n cnt pos ah v) (hx : ¬ isD T n pos) (hc : 0 < cnt) (hc2 : cnt ≤ 40) (ha : ah = -1) : pos = pQ T n ∧ okD T n ∧ v = pV T n ∧ pB T n = 0 := by
  rcases td_A hn h hx with ⟨h0, hA, hD, hq⟩ | ⟨a, h0, -⟩
  · obtain ⟨h1, h2, h3⟩ := hq hc
    exact ⟨h1, ⟨by omega, fun h => absurd h (hD hc), by omega⟩, h2, h3⟩
  · omega
theorem td_two {T : Nat → Nat} {n cnt pos v : Nat} {ah : Int} (hn : n ≤ 60) (h : (ph1 T n cnt pos ah v ∧ (cnt = 0 ∨ ¬ (pos < n ∧ T pos = 46))) ∨ ph2 T n cnt pos ah v) (hx : ¬ isD T n pos) (hc : 0 < cnt) (hc2 : cnt ≤ 40) (ha : ¬ ah = -1) (hb : ¬ ah = (cnt : Int)) : pos = pQ T n ∧ okD T n ∧ v = pV T n ∧ (pB T n : Int) = cnt - ah := by
  rcases td_A hn h hx with ⟨h0, -⟩ | ⟨a, h0, h1, h2, hA, hD, hB, hv, hq⟩
  · omega
  · exact ⟨hq, ⟨by omega, fun _ => by omega, by omega⟩, hv, by omega⟩
theorem rl_le (T : Nat → Nat) (n : Nat) : ∀ (k i : Nat), rl T n k i ≤ k
  | 0, _ => Nat.le_refl _
  | k + 1, i => by
    simp only [rl]
    split
    · have := rl_le T n k (i + 1); omega
    · omega
theorem pQ_le (T : Nat → Nat) (n : Nat) : pQ T n ≤ 200 := by
  have h1 : pA T n ≤ 61 := rl_le T n 61 (pS T n)
  have h3 : pS T n ≤ 1 := by unfold pS; split <;> omega
  have h2 : pB T n ≤ 61 := by
    unfold pB
    split
    · exact rl_le T n 61 _
    · omega
  unfold pQ
  split <;> omega
