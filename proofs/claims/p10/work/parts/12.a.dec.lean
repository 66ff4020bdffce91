/-! THE REFERENCE READS A TAPE -/
theorem dig_rw {f : Nat → Int32} {n1 n2 n3 n4 ap dd : Nat} {y : Int32} (hR : RWp f n1 n2) (hp : ap < 400) (hd : y.toInt = (dd : Int)) (h9 : dd ≤ 9) (h0 : (f ap).toInt = 0)
    (h3 : n3 = if 0 < dd ∧ ap < n1 then ap else n1) (h4 : n4 = if 0 < dd ∧ n2 < ap then ap else n2) :
    RWp (upd f ap y) n3 n4 ∧ sv (upd f ap y) 400 = sv f 400 + dd * 10 ^ (399 - ap) ∧ min n1 ap ≤ n3 ∧ n4 ≤ max n2 ap ∧ (∀ j, j ≠ ap → upd f ap y j = f j) := by
  obtain ⟨r1, r2, r3, r4, r5, r6, r7⟩ := hR
  have e3 : (0 < dd ∧ ap < n1 ∧ n3 = ap) ∨ (¬ (0 < dd ∧ ap < n1) ∧ n3 = n1) := by
    split at h3
    · rename_i h; exact Or.inl ⟨h.1, h.2, h3⟩
    · rename_i h; exact Or.inr ⟨h, h3⟩
  have e4 : (0 < dd ∧ n2 < ap ∧ n4 = ap) ∨ (¬ (0 < dd ∧ n2 < ap) ∧ n4 = n2) := by
    split at h4
    · rename_i h; exact Or.inl ⟨h.1, h.2, h4⟩
    · rename_i h; exact Or.inr ⟨h, h4⟩
  refine ⟨⟨fun k hk => ?_, fun k hk => ?_, fun k hk hk2 => ?_, by omega, by omega, by omega, fun h => ?_⟩, sv_upd hd (rdg_0 h0) hp (by omega) (by omega), by omega, by omega, fun j hj => pk_un hj⟩
  · rcases Nat.decEq k ap with h | h
    · rw [pk_un h]; exact r1 k hk
    · rw [h, pk_us, hd]; omega
  · rcases Nat.decEq k ap with h | h
    · rw [pk_un h]; exact r2 k (by omega)
    · rw [h, pk_us, hd]; omega
  · rcases Nat.decEq k ap with h | h
    · rw [pk_un h]; exact r3 k (by omega) hk2
    · rw [h, pk_us, hd]; omega
  · rcases e3 with ⟨a, b, c⟩ | ⟨a, c⟩
    · rw [c, pk_us, hd]; omega
    · rcases Nat.decEq n3 ap with h1 | h1
      · rw [pk_un h1, c]; exact r7 (by omega)
      · rw [h1, pk_us, hd]
        have h2 := r7 (by omega)
        rw [← c, h1] at h2
        exact absurd h0 h2
def sT (T : Nat → Nat) (n i : Nat) : Nat := if i < n then T i else 0
theorem sT_of {T : Nat → Nat} {n i : Nat} (h : i < n) : sT T n i = T i := if_pos h
theorem sT_c {T : Nat → Nat} {n i c : Nat} (hc : 0 < c) : sT T n i = c ↔ i < n ∧ T i = c := by
  unfold sT
  split <;> omega
theorem isD_sT {T : Nat → Nat} {n i : Nat} : isD T n i ↔ 48 ≤ sT T n i ∧ sT T n i ≤ 57 := by
  unfold sT isD
  split <;> omega
/-- the digits in their row -/
def DG (T : Nat → Nat) (n : Nat) (k : Nat → Int32) : Prop := (∀ j, j < pA T n → j < 40 → (k j).toInt = (T (pS T n + j) : Int) - 48) ∧ (∀ j, j < pB T n → pA T n + j < 40 → (k (pA T n + j)).toInt = (T (pS T n + pA T n + 1 + j) : Int) - 48)
theorem rl_le2 {T : Nat → Nat} {n a i : Nat} (hn : n ≤ 60) (h : ∀ j, j < a → isD T n (i + j)) : a ≤ 60 := by
  rcases Nat.eq_zero_or_pos a with h0 | h0
  · omega
  · have := (h (a - 1) (by omega)).1; omega
theorem rl_in {T : Nat → Nat} {n a i : Nat} (h : ∀ j, j < a → isD T n (i + j)) (ha : a ≠ 0) : i + a ≤ n := by
  have := (h (a - 1) (by omega)).1; omega
theorem pD_sT {T : Nat → Nat} {n : Nat} : pD T n ↔ sT T n (pS T n + pA T n) = 46 := by
  rw [sT_c (by decide)]
theorem pS_sT {T : Nat → Nat} {n : Nat} : (sT T n 0 = 45 → pS T n = 1) ∧ (¬ sT T n 0 = 45 → pS T n = 0) := by
  rw [sT_c (by decide)]
  unfold pS
  constructor
  · intro h; exact if_pos h
  · intro h; exact if_neg h
theorem eS_sT {T : Nat → Nat} {n q : Nat} : ((sT T n (q + 1) = 45 ∨ sT T n (q + 1) = 43) → eS T n q = 1) ∧ (¬ (sT T n (q + 1) = 45 ∨ sT T n (q + 1) = 43) → eS T n q = 0) := by
  rw [sT_c (by decide), sT_c (by decide)]
  unfold eS
  constructor
  · intro h; exact if_pos (by omega)
  · intro h; exact if_neg (by omega)
theorem eN_sT {T : Nat → Nat} {n q : Nat} : eN T n q ↔ sT T n (q + 1) = 45 := by rw [sT_c (by decide)]
/-- how the text ends: at q, with the power x -/
def endE (T : Nat → Nat) (n q : Nat) (x : Int) : Prop := (q = n ↔ okE T n (pQ T n)) ∧ (okE T n (pQ T n) → x = xE T n (pQ T n))
theorem endE_no {T : Nat → Nat} {n : Nat} (h : pQ T n ≤ n) (hc : ¬ sT T n (pQ T n) = 101) : endE T n (pQ T n) 0 := by
  rw [sT_c (by decide)] at hc
  refine ⟨⟨fun h1 => Or.inl (by omega), fun h1 => ?_⟩, fun h1 => ?_⟩
  · rcases h1 with h1 | ⟨h1, h2, -⟩
    · omega
    · exact absurd ⟨h1, h2⟩ hc
  · rcases h1 with h1 | ⟨h1, h2, -⟩
    · rw [xE, if_pos h1]
    · exact absurd ⟨h1, h2⟩ hc
theorem endE_yes {T : Nat → Nat} {n i : Nat} {x : Int} (hn : n ≤ 60) (hc : sT T n (pQ T n) = 101) (hi : i ≤ 3) (h : ∀ j, j < i → isD T n (pQ T n + 1 + eS T n (pQ T n) + j)) (he : i = 3 ∨ ¬ isD T n (pQ T n + 1 + eS T n (pQ T n) + i)) (h0 : i ≠ 0)
    (hx : (eN T n (pQ T n) ∧ x = -(dvl T (pQ T n + 1 + eS T n (pQ T n)) i : Int)) ∨ (¬ eN T n (pQ T n) ∧ x = (dvl T (pQ T n + 1 + eS T n (pQ T n)) i : Int))) : endE T n (pQ T n + 1 + eS T n (pQ T n) + i) x := by
  rw [sT_c (by decide)] at hc
  have hD : eD T n (pQ T n) = i := rl_eq hi h he
  have hin := rl_in h h0
  have hok : okE T n (pQ T n) ↔ n ≤ pQ T n + 1 + eS T n (pQ T n) + i := by
    unfold okE
    rw [hD]
    constructor
    · rintro (h1 | ⟨-, -, -, h1⟩)
      · omega
      · exact h1
    · intro h1; exact Or.inr ⟨hc.1, hc.2, h0, h1⟩
  refine ⟨by rw [hok]; omega, fun _ => ?_⟩
  rw [xE, if_neg (by omega), eX, hD]
  rcases hx with ⟨h1, h2⟩ | ⟨h1, h2⟩
  · rw [if_pos h1, h2]
  · rw [if_neg h1, h2]
theorem endE_none {T : Nat → Nat} {n : Nat} (hc : sT T n (pQ T n) = 101) (he : ¬ isD T n (pQ T n + 1 + eS T n (pQ T n))) : ¬ okE T n (pQ T n) := by
  rw [sT_c (by decide)] at hc
  rintro (h1 | ⟨-, -, h1, -⟩)
  · omega
  · exact h1 (rl_eq (a := 0) (by omega) (fun j hj => by omega) (Or.inr he))
theorem dvl_step {T : Nat → Nat} {n q i : Nat} {x : Int} (h : x = (dvl T q i : Int)) (hd : isD T n (q + i)) : 10 * x + (T (q + i) : Int) - 48 = (dvl T q (i + 1) : Int) := by
  show _ = ((dvl T q i * 10 + (T (q + i) - 48) : Nat) : Int)
  have := hd.2.1
  omega
