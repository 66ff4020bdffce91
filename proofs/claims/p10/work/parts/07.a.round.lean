/-! ROUNDING -/
def clX (x : Int) : Int := min (max x (-90)) 40
/-- 2^e is the greatest power of 2 not above tp / bt -/
def IsE (tp bt : Nat) (e : Int) : Prop := bt * 2 ^ e.toNat ≤ tp * 2 ^ (-e).toNat ∧ tp * 2 ^ (-e).toNat < 2 * (bt * 2 ^ e.toNat)
def far (md : Int) (ng : Prop) (q rm B : Nat) : Prop := (md = 0 ∧ (B < 2 * rm ∨ (2 * rm = B ∧ q % 2 = 1))) ∨ (md = 2 ∧ ¬ ng) ∨ (md = 3 ∧ ng) ∨ (md = 4 ∧ B ≤ 2 * rm)
/-- the number tp / bt rounded: the size Z, whether something is lost, whether it is tiny -/
def RS (tp bt E M : Nat) (md : Int) (ng : Prop) (Z : Nat) (ix ty : Prop) : Prop :=
  ∃ (e P : Int) (q rm u : Nat), IsE tp bt e ∧ P = max (e - M) (lowP E M) ∧ tp * 2 ^ (-P).toNat = q * (bt * 2 ^ P.toNat) + rm ∧ rm < bt * 2 ^ P.toNat ∧ (ix ↔ rm ≠ 0) ∧ (ty ↔ e < lowP E M + M) ∧
    ((u = 1 ∧ rm ≠ 0 ∧ far md ng q rm (bt * 2 ^ P.toNat)) ∨ (u = 0 ∧ ¬ (rm ≠ 0 ∧ far md ng q rm (bt * 2 ^ P.toNat)))) ∧ Z = (P - lowP E M).toNat * 2 ^ M + q + u
theorem p10_40 : (10 : Nat) ^ 40 < 2 ^ 133 := by decide
theorem p10_90 : (10 : Nat) ^ 90 < 2 ^ 299 := by decide
theorem d10 {D n : Nat} (h : D < 10 ^ 40) (hn : n ≤ 40) : D * 10 ^ n < 2 ^ 266 := by
  have h1 : 10 ^ n ≤ 10 ^ 40 := Nat.pow_le_pow_right (by decide) hn
  have h2 : D * 10 ^ n ≤ 10 ^ 40 * 10 ^ 40 := Nat.mul_le_mul (Nat.le_of_lt h) h1
  exact Nat.lt_of_le_of_lt h2 (by decide)
theorem m384 {a b : Nat} (h : a < 2 ^ b) (hb : b ≤ 384) : a % 2 ^ (32 * 12) = a := Nat.mod_eq_of_lt (Nat.lt_of_lt_of_le h (Nat.pow_le_pow_right (by decide) hb))
def NR (tp bt kt kb : Nat) (e : Int) : Prop := kt * (bt * 2 ^ e.toNat) = tp * 2 ^ (-e).toNat * kb ∧ kb ≤ kt ∧ kt < 2 * kb ∧ kb < 2 ^ 380 ∧ -380 ≤ e ∧ e ≤ 380
theorem pw_half {b : Nat} (h : 0 < b) : 2 ^ b = 2 * 2 ^ (b - 1) := by
  rw [← Nat.pow_succ', Nat.succ_eq_add_one, show b - 1 + 1 = b by omega]
theorem nr_ge {tp bt b1 b2 : Nat} (c1 : tp < 2 ^ b1) (c2 : 0 < b1 ∧ 2 ^ (b1 - 1) ≤ tp) (d1 : bt < 2 ^ b2) (d2 : 0 < b2 ∧ 2 ^ (b2 - 1) ≤ bt) (h : b2 ≤ b1) : bt * 2 ^ (b1 - b2) < 2 ^ b1 ∧ tp < 2 * (bt * 2 ^ (b1 - b2)) ∧ bt * 2 ^ (b1 - b2) < 2 * tp := by
  have e1 : 2 ^ b2 * 2 ^ (b1 - b2) = 2 ^ b1 := by rw [← Nat.pow_add, show b2 + (b1 - b2) = b1 by omega]
  have e2 : 2 ^ (b2 - 1) * 2 ^ (b1 - b2) = 2 ^ (b1 - 1) := by rw [← Nat.pow_add, show b2 - 1 + (b1 - b2) = b1 - 1 by omega]
  have f1 : bt * 2 ^ (b1 - b2) < 2 ^ b2 * 2 ^ (b1 - b2) := Nat.mul_lt_mul_of_pos_right d1 (pw_p _)
  have f2 : 2 ^ (b2 - 1) * 2 ^ (b1 - b2) ≤ bt * 2 ^ (b1 - b2) := Nat.mul_le_mul_right _ d2.2
  have f3 := pw_half c2.1
  omega
theorem b_380 {x b : Nat} (c2 : 0 < b ∧ 2 ^ (b - 1) ≤ x) (h : x < 2 ^ 380) : b ≤ 380 := by
  refine Decidable.byContradiction fun hb => ?_
  have : 2 ^ 380 ≤ 2 ^ (b - 1) := Nat.pow_le_pow_right (by decide) (by omega)
  omega
theorem nr_1 {tp bt b1 b2 : Nat} (c1 : tp < 2 ^ b1) (c2 : 0 < b1 ∧ 2 ^ (b1 - 1) ≤ tp) (d1 : bt < 2 ^ b2) (d2 : 0 < b2 ∧ 2 ^ (b2 - 1) ≤ bt) (h : b2 ≤ b1) (hb : b1 ≤ 380) (hc : bt * 2 ^ (b1 - b2) ≤ tp) : NR tp bt tp (bt * 2 ^ (b1 - b2)) ((b1 : Int) - b2) := by
  have g := nr_ge c1 c2 d1 d2 h
  have hp : 2 ^ b1 ≤ 2 ^ 380 := Nat.pow_le_pow_right (by decide) hb
  refine ⟨?_, hc, g.2.1, by omega, by omega, by omega⟩
  rw [show ((b1 : Int) - b2).toNat = b1 - b2 by omega, show (-((b1 : Int) - b2)).toNat = 0 by omega, Nat.pow_zero, Nat.mul_one]
theorem nr_2 {tp bt b1 b2 : Nat} (c1 : tp < 2 ^ b1) (c2 : 0 < b1 ∧ 2 ^ (b1 - 1) ≤ tp) (d1 : bt < 2 ^ b2) (d2 : 0 < b2 ∧ 2 ^ (b2 - 1) ≤ bt) (h : b2 ≤ b1) (hb : b1 ≤ 380) (hc : tp < bt * 2 ^ (b1 - b2)) : NR tp bt (2 * tp) (bt * 2 ^ (b1 - b2)) ((b1 : Int) - b2 + (-1)) := by
  have g := nr_ge c1 c2 d1 d2 h
  have hp : 2 ^ b1 ≤ 2 ^ 380 := Nat.pow_le_pow_right (by decide) hb
  refine ⟨?_, by omega, by omega, by omega, by omega, by omega⟩
  rcases Nat.eq_zero_or_pos (b1 - b2) with h0 | h0
  · rw [show ((b1 : Int) - b2 + (-1)).toNat = 0 by omega, show (-((b1 : Int) - b2 + (-1))).toNat = 1 by omega, h0, Nat.pow_zero, Nat.mul_one, Nat.pow_one, Nat.mul_comm 2 tp]
  · rw [show ((b1 : Int) - b2 + (-1)).toNat = b1 - b2 - 1 by omega, show (-((b1 : Int) - b2 + (-1))).toNat = 0 by omega, Nat.pow_zero, Nat.mul_one, pw_half h0, Nat.mul_comm 2 tp, Nat.mul_assoc, Nat.mul_left_comm bt 2]
theorem nr_3 {tp bt b1 b2 : Nat} (c1 : tp < 2 ^ b1) (c2 : 0 < b1 ∧ 2 ^ (b1 - 1) ≤ tp) (d1 : bt < 2 ^ b2) (d2 : 0 < b2 ∧ 2 ^ (b2 - 1) ≤ bt) (h : b1 ≤ b2) (hb : b2 ≤ 380) (hl : bt < 2 ^ 380) (hc : bt ≤ tp * 2 ^ (b2 - b1)) : NR tp bt (tp * 2 ^ (b2 - b1)) bt ((b1 : Int) - b2) := by
  have g := nr_ge d1 d2 c1 c2 h
  refine ⟨?_, hc, g.2.2, hl, by omega, by omega⟩
  rw [show ((b1 : Int) - b2).toNat = 0 by omega, show (-((b1 : Int) - b2)).toNat = b2 - b1 by omega, Nat.pow_zero, Nat.mul_one]
theorem nr_4 {tp bt b1 b2 : Nat} (c1 : tp < 2 ^ b1) (c2 : 0 < b1 ∧ 2 ^ (b1 - 1) ≤ tp) (d1 : bt < 2 ^ b2) (d2 : 0 < b2 ∧ 2 ^ (b2 - 1) ≤ bt) (h : b1 ≤ b2) (hb : b2 ≤ 380) (hl : bt < 2 ^ 380) (hc : tp * 2 ^ (b2 - b1) < bt) : NR tp bt (2 * (tp * 2 ^ (b2 - b1))) bt ((b1 : Int) - b2 + (-1)) := by
  have g := nr_ge d1 d2 c1 c2 h
  refine ⟨?_, by omega, by omega, hl, by omega, by omega⟩
  rw [show ((b1 : Int) - b2 + (-1)).toNat = 0 by omega, show (-((b1 : Int) - b2 + (-1))).toNat = b2 - b1 + 1 by omega, Nat.pow_zero, Nat.mul_one, Nat.pow_succ, ← Nat.mul_assoc tp, Nat.mul_comm 2 (tp * 2 ^ (b2 - b1))]
theorem tb1 {tk b a : Nat} (h : b ≤ a) : 2 * (tk * b) * 2 + a * 2 = 2 * ((tk * 2 + 1) * b) + 2 * (a - b) := by
  rw [show (tk * 2 + 1) * b = 2 * (tk * b) + b by rw [Nat.add_mul, Nat.one_mul, Nat.mul_comm tk 2, Nat.mul_assoc]]
  omega
theorem x2_384 {a : Nat} (h : a < 2 ^ 381) : (a * uw 2 + uw 0) % 2 ^ (32 * 12) = 2 * a := by
  rw [show uw 2 = 2 by decide, show uw 0 = 0 by decide, Nat.add_zero, m384 (b := 382) (by rw [show (382 : Nat) = 381 + 1 from rfl, Nat.pow_succ]; omega) (by decide), Nat.mul_comm]
def tpX (D : Nat) (x : Int) : Nat := D * 10 ^ (clX x).toNat
def btX (x : Int) : Nat := 10 ^ (-(clX x)).toNat
theorem btX_pos (x : Int) : 0 < btX x := Nat.pow_pos (by decide)
theorem nr_isE {tp bt kt kb : Nat} {e : Int} (h : NR tp bt kt kb e) (hb : 0 < bt) : IsE tp bt e := by
  obtain ⟨h1, h2, h3, h4, -, -⟩ := h
  have hk : 0 < kb := by omega
  have h0 : 0 < bt * 2 ^ e.toNat := Nat.mul_pos hb (pw_p _)
  refine ⟨?_, ?_⟩
  · refine Nat.le_of_mul_le_mul_right ?_ hk
    rw [← h1, Nat.mul_comm]
    exact Nat.mul_le_mul_right _ h2
  · refine Nat.lt_of_mul_lt_mul_right (a := kb) ?_
    rw [← h1]
    calc kt * (bt * 2 ^ e.toNat) < 2 * kb * (bt * 2 ^ e.toNat) := Nat.mul_lt_mul_of_pos_right h3 h0
      _ = 2 * (bt * 2 ^ e.toNat) * kb := by rw [Nat.mul_right_comm]
/-- what is left of tp / (bt 2^P) behind the whole number q: rm; where x stands against its half -/
def RQ (tp bt : Nat) (P : Int) (q rm : Nat) : Prop := tp * 2 ^ (-P).toNat = q * (bt * 2 ^ P.toNat) + rm ∧ rm < bt * 2 ^ P.toNat
def HH (bt : Nat) (P : Int) (rm : Nat) (x : Int) : Prop := (x < 0 ∧ 2 * rm < bt * 2 ^ P.toNat) ∨ (x = 0 ∧ 2 * rm = bt * 2 ^ P.toNat) ∨ (0 < x ∧ bt * 2 ^ P.toNat < 2 * rm)
theorem nr_shift {tp bt kt kb : Nat} {e P : Int} {c : Nat} (h : kt * (bt * 2 ^ e.toNat) = tp * 2 ^ (-e).toNat * kb) (hc : (c : Int) = e - P + 1) : tp * 2 ^ (-P).toNat * (2 * kb) = kt * 2 ^ c * (bt * 2 ^ P.toNat) := by
  refine Nat.eq_of_mul_eq_mul_right (pw_p e.toNat) ?_
  calc tp * 2 ^ (-P).toNat * (2 * kb) * 2 ^ e.toNat = tp * kb * (2 ^ (-P).toNat * 2 * 2 ^ e.toNat) := by simp only [Nat.mul_comm, Nat.mul_left_comm, Nat.mul_assoc]
    _ = tp * kb * (2 ^ (-e).toNat * 2 ^ c * 2 ^ P.toNat) := by
      congr 1
      rw [← Nat.pow_succ, ← Nat.pow_add, ← Nat.pow_add, ← Nat.pow_add]
      congr 1
      omega
    _ = tp * 2 ^ (-e).toNat * kb * (2 ^ c * 2 ^ P.toNat) := by simp only [Nat.mul_comm, Nat.mul_left_comm, Nat.mul_assoc]
    _ = kt * (bt * 2 ^ e.toNat) * (2 ^ c * 2 ^ P.toNat) := by rw [h]
    _ = kt * 2 ^ c * (bt * 2 ^ P.toNat) * 2 ^ e.toNat := by simp only [Nat.mul_comm, Nat.mul_left_comm, Nat.mul_assoc]
theorem rb_pos {tp bt kt kb k2 tk : Nat} {e P : Int} {c : Nat} {x : Int} (hb : 0 < bt) (h : NR tp bt kt kb e) (hc : (c : Int) = e - P + 1) (hv : kt * 2 ^ c = 2 * (tk * kb) + k2) (hl : k2 < 2 * kb)
    (hx : (k2 < kb ∧ x < 0) ∨ (k2 = kb ∧ x = 0) ∨ (kb < k2 ∧ 0 < x)) : ∃ rm, RQ tp bt P tk rm ∧ (k2 = 0 ↔ rm = 0) ∧ HH bt P rm x := by
  have hB : 0 < bt * 2 ^ P.toNat := Nat.mul_pos hb (pw_p _)
  have hk : 0 < kb := by have := h.2.2.1; omega
  have hs := nr_shift h.1 hc
  rw [hv] at hs
  generalize hAe : tp * 2 ^ (-P).toNat = A at *
  generalize hBe : bt * 2 ^ P.toNat = B at *
  have h1 : A * (2 * kb) = tk * B * (2 * kb) + k2 * B := by rw [hs, Nat.add_mul]; congr 1; simp only [Nat.mul_comm, Nat.mul_left_comm, Nat.mul_assoc]
  have h2 : tk * B ≤ A := by
    refine Nat.le_of_mul_le_mul_right ?_ (show 0 < 2 * kb by omega)
    omega
  obtain ⟨rm, hrm⟩ : ∃ rm, A = tk * B + rm := ⟨A - tk * B, by omega⟩
  have h3 : rm * (2 * kb) = k2 * B := by
    rw [hrm, Nat.add_mul] at h1
    omega
  refine ⟨rm, ⟨by rw [hAe, hBe]; exact hrm, ?_⟩, ?_, ?_⟩
  · rw [hBe]
    refine Nat.lt_of_mul_lt_mul_right (a := 2 * kb) ?_
    rw [h3, Nat.mul_comm B]
    exact Nat.mul_lt_mul_of_pos_right hl hB
  · constructor
    · intro h0
      rw [h0, Nat.zero_mul] at h3
      rcases Nat.mul_eq_zero.mp h3 with h | h <;> omega
    · intro h0
      rw [h0, Nat.zero_mul] at h3
      rcases Nat.mul_eq_zero.mp h3.symm with h | h <;> omega
  · have h4 : 2 * rm * kb = k2 * B := by rw [← h3]; simp only [Nat.mul_comm, Nat.mul_left_comm, Nat.mul_assoc]
    unfold HH
    rw [hBe]
    rcases hx with ⟨a, b⟩ | ⟨a, b⟩ | ⟨a, b⟩
    · left
      refine ⟨b, Nat.lt_of_mul_lt_mul_right (a := kb) ?_⟩
      rw [h4, Nat.mul_comm B]
      exact Nat.mul_lt_mul_of_pos_right a hB
    · right; left
      refine ⟨b, Nat.eq_of_mul_eq_mul_right hk ?_⟩
      rw [h4, a, Nat.mul_comm]
    · right; right
      refine ⟨b, Nat.lt_of_mul_lt_mul_right (a := kb) ?_⟩
      rw [h4, Nat.mul_comm B]
      exact Nat.mul_lt_mul_of_pos_right a hB
theorem rb_neg {tp bt kt kb k2 tk : Nat} {e P : Int} {x : Int} (hb : 0 < bt) (h : NR tp bt kt kb e) (hc : e - P + 1 < 0) (hv : kt * 2 ^ 0 = 2 * (tk * kb) + k2) (ht : tk < 2 ^ 0) (hx : x < 0) : ∃ rm, RQ tp bt P tk rm ∧ (k2 = 0 ↔ rm = 0) ∧ HH bt P rm x := by
  have hB : 0 < bt * 2 ^ P.toNat := Nat.mul_pos hb (pw_p _)
  have hk : 0 < kb := by have := h.2.2.1; omega
  have ht0 : tk = 0 := by omega
  subst ht0
  rw [Nat.pow_zero, Nat.mul_one, Nat.zero_mul, Nat.mul_zero, Nat.zero_add] at hv
  subst hv
  obtain ⟨c, hc2⟩ : ∃ c : Nat, (c : Int) = P - e - 1 := ⟨(P - e - 1).toNat, by omega⟩
  -- tp 2^-P 2 kb 2^c = kt bt 2^P
  have hs : tp * 2 ^ (-P).toNat * (2 * kb) * 2 ^ c = kt * (bt * 2 ^ P.toNat) := by
    refine Nat.eq_of_mul_eq_mul_right (pw_p e.toNat) ?_
    calc tp * 2 ^ (-P).toNat * (2 * kb) * 2 ^ c * 2 ^ e.toNat = tp * kb * (2 ^ (-P).toNat * 2 * 2 ^ c * 2 ^ e.toNat) := by simp only [Nat.mul_comm, Nat.mul_left_comm, Nat.mul_assoc]
      _ = tp * kb * (2 ^ (-e).toNat * 2 ^ P.toNat) := by
        congr 1
        rw [← Nat.pow_succ, ← Nat.pow_add, ← Nat.pow_add, ← Nat.pow_add]
        congr 1
        omega
      _ = tp * 2 ^ (-e).toNat * kb * 2 ^ P.toNat := by simp only [Nat.mul_comm, Nat.mul_left_comm, Nat.mul_assoc]
      _ = kt * (bt * 2 ^ e.toNat) * 2 ^ P.toNat := by rw [h.1]
      _ = kt * (bt * 2 ^ P.toNat) * 2 ^ e.toNat := by simp only [Nat.mul_comm, Nat.mul_left_comm, Nat.mul_assoc]
  have hc1 : 2 ≤ 2 ^ c := by
    have : 2 ^ 1 ≤ 2 ^ c := Nat.pow_le_pow_right (by decide) (by omega)
    exact this
  have hkt : 0 < kt := by have := h.2.1; omega
  generalize hAe : tp * 2 ^ (-P).toNat = A at *
  generalize hBe : bt * 2 ^ P.toNat = B at *
  have h2 : 2 * A < B := by
    refine Nat.lt_of_mul_lt_mul_right (a := 2 * kb) ?_
    calc 2 * A * (2 * kb) = A * (2 * kb) * 2 := by simp only [Nat.mul_comm, Nat.mul_left_comm, Nat.mul_assoc]
      _ ≤ A * (2 * kb) * 2 ^ c := Nat.mul_le_mul_left _ hc1
      _ = kt * B := hs
      _ < 2 * kb * B := Nat.mul_lt_mul_of_pos_right h.2.2.1 hB
      _ = B * (2 * kb) := Nat.mul_comm _ _
  refine ⟨A, ⟨by rw [hAe, hBe]; omega, by rw [hBe]; omega⟩, ?_, Or.inl ⟨hx, by rw [hBe]; exact h2⟩⟩
  constructor
  · intro h0; omega
  · intro h0
    rw [h0, Nat.zero_mul, Nat.zero_mul] at hs
    rcases Nat.mul_eq_zero.mp hs.symm with h | h <;> omega
theorem q_and1 {x : Int64} {k : Nat} (hx : x.toInt = (k : Int)) : (x &&& 1).toInt = ((k % 2 : Nat) : Int) := q_land (k := 1) hx (by decide)
theorem tpX_lt {D : Nat} {x : Int} (h : D < 10 ^ 40) : tpX D x < 2 ^ 380 := by
  have h1 : (clX x).toNat ≤ 40 := by unfold clX; omega
  exact Nat.lt_of_lt_of_le (d10 h h1) (Nat.pow_le_pow_right (by decide) (by decide))
theorem btX_lt (x : Int) : btX x < 2 ^ 380 := by
  have h1 : (-(clX x)).toNat ≤ 90 := by unfold clX; omega
  exact Nat.lt_of_le_of_lt (Nat.pow_le_pow_right (by decide) h1) (Nat.lt_of_lt_of_le p10_90 (Nat.pow_le_pow_right (by decide) (by decide)))
theorem tpX_pos {D : Nat} {x : Int} (h : 0 < D) : 0 < tpX D x := Nat.mul_pos h (Nat.pow_pos (by decide))
theorem far_iff {bt q rm : Nat} {P : Int} {md ng od ha : Int32} (hH : HH bt P rm ha.toInt) (hng : ng = 0 ∨ ng = 1) (hod : (od = 1 ∧ q % 2 = 1) ∨ (od = 0 ∧ q % 2 = 0)) :
    ((md.toInt = 2 ∧ ng = 0) ∨ (md.toInt = 3 ∧ ng = 1) ∨ (md.toInt = 4 ∧ 0 ≤ ha.toInt) ∨ (md.toInt = 0 ∧ (0 < ha.toInt ∨ (ha.toInt = 0 ∧ od = 1)))) ↔ far md.toInt (ng = 1) q rm (bt * 2 ^ P.toNat) := by
  have h1 : ng = 0 ↔ ¬ ng = 1 := by
    rcases hng with rfl | rfl
    · exact ⟨fun _ h => absurd h (by decide), fun _ => rfl⟩
    · exact ⟨fun h => absurd h (by decide), fun h => absurd rfl h⟩
  have h2 : od = 1 ↔ q % 2 = 1 := by
    rcases hod with ⟨rfl, h⟩ | ⟨rfl, h⟩
    · exact ⟨fun _ => h, fun _ => rfl⟩
    · exact ⟨fun h => absurd h (by decide), fun h => by omega⟩
  unfold HH at hH
  unfold far
  rw [h1, h2]
  generalize bt * 2 ^ P.toNat = B at *
  constructor
  · rintro (⟨a, b⟩ | ⟨a, b⟩ | ⟨a, b⟩ | ⟨a, b⟩)
    · exact Or.inr (Or.inl ⟨a, b⟩)
    · exact Or.inr (Or.inr (Or.inl ⟨a, b⟩))
    · exact Or.inr (Or.inr (Or.inr ⟨a, by omega⟩))
    · exact Or.inl ⟨a, by omega⟩
  · rintro (⟨a, b⟩ | ⟨a, b⟩ | ⟨a, b⟩ | ⟨a, b⟩)
    · exact Or.inr (Or.inr (Or.inr ⟨a, by omega⟩))
    · exact Or.inl ⟨a, b⟩
    · exact Or.inr (Or.inl ⟨a, b⟩)
    · exact Or.inr (Or.inr (Or.inl ⟨a, by omega⟩))
theorem agH {a b : Nat} {r : Int32} (h : (a < b ∧ r = -1) ∨ (a = b ∧ r = 0) ∨ (b < a ∧ r = 1)) : (a < b ∧ r.toInt < 0) ∨ (a = b ∧ r.toInt = 0) ∨ (b < a ∧ 0 < r.toInt) := by
  rcases h with ⟨h1, rfl⟩ | ⟨h1, rfl⟩ | ⟨h1, rfl⟩
  · exact Or.inl ⟨h1, by decide⟩
  · exact Or.inr (Or.inl ⟨h1, by decide⟩)
  · exact Or.inr (Or.inr ⟨h1, by decide⟩)
