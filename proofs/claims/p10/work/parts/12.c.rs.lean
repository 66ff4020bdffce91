/-! ROUNDING, of any fraction -/
theorem IsE_ex {tp bt : Nat} (ht : 0 < tp) (hb : 0 < bt) : ∃ e, IsE tp bt e := by
  rcases Nat.lt_or_ge tp bt with h | h
  · have h1 : 1 ≤ (bt - 1) / tp := (Nat.one_le_div_iff ht).mpr (by omega)
    have h2 : 2 ^ ((bt - 1) / tp).log2 ≤ (bt - 1) / tp := Nat.log2_self_le (by omega)
    have h3 : (bt - 1) / tp < 2 ^ (((bt - 1) / tp).log2 + 1) := Nat.lt_log2_self
    have h4 : (bt - 1) / tp * tp ≤ bt - 1 := Nat.div_mul_le_self _ _
    have h5 : bt - 1 < ((bt - 1) / tp + 1) * tp := by
      have := Nat.lt_div_mul_add (a := bt - 1) ht
      rw [Nat.add_mul]; omega
    generalize (bt - 1) / tp = c at *
    generalize c.log2 = n at *
    have h6 : 2 ^ n * tp ≤ c * tp := Nat.mul_le_mul_right _ h2
    have h7 : (c + 1) * tp ≤ 2 ^ (n + 1) * tp := Nat.mul_le_mul_right _ h3
    refine ⟨-((n : Int) + 1), ?_, ?_⟩
    · rw [show (-((n : Int) + 1)).toNat = 0 by omega, show (-(-((n : Int) + 1))).toNat = n + 1 by omega, Nat.pow_zero, Nat.mul_one, Nat.mul_comm tp]
      omega
    · rw [show (-((n : Int) + 1)).toNat = 0 by omega, show (-(-((n : Int) + 1))).toNat = n + 1 by omega, Nat.pow_zero, Nat.mul_one, Nat.mul_comm tp, Nat.pow_succ, Nat.mul_right_comm]
      omega
  · have h1 : 1 ≤ tp / bt := (Nat.one_le_div_iff hb).mpr h
    have h2 : 2 ^ (tp / bt).log2 ≤ tp / bt := Nat.log2_self_le (by omega)
    have h3 : tp / bt < 2 ^ ((tp / bt).log2 + 1) := Nat.lt_log2_self
    have h4 : tp / bt * bt ≤ tp := Nat.div_mul_le_self _ _
    have h5 : tp < (tp / bt + 1) * bt := by
      have := Nat.lt_div_mul_add (a := tp) hb
      rw [Nat.add_mul]; omega
    generalize tp / bt = c at *
    generalize c.log2 = n at *
    have h6 : 2 ^ n * bt ≤ c * bt := Nat.mul_le_mul_right _ h2
    have h7 : (c + 1) * bt ≤ 2 ^ (n + 1) * bt := Nat.mul_le_mul_right _ h3
    refine ⟨(n : Int), ?_, ?_⟩
    · rw [Int.toNat_natCast, show (-(n : Int)).toNat = 0 by omega, Nat.pow_zero, Nat.mul_one, Nat.mul_comm bt]
      omega
    · rw [Int.toNat_natCast, show (-(n : Int)).toNat = 0 by omega, Nat.pow_zero, Nat.mul_one, Nat.mul_comm bt]
      rw [Nat.pow_succ, Nat.mul_right_comm] at h7
      omega
theorem IsE_le {tp bt tp' bt' : Nat} {e e' : Int} (hb : 0 < bt) (h : IsE tp bt e) (h' : IsE tp' bt' e') (hl : tp * bt' ≤ tp' * bt) : e ≤ e' := by
  refine Int.not_lt.mp fun hlt => ?_
  have h1 : 2 * 2 ^ e'.toNat * 2 ^ (-e).toNat ≤ 2 ^ e.toNat * 2 ^ (-e').toNat := by
    rw [← Nat.pow_succ', ← Nat.pow_add, ← Nat.pow_add]
    exact Nat.pow_le_pow_right (by decide) (by omega)
  have h2 : tp' * 2 ^ (-e).toNat < bt' * 2 ^ e.toNat := by
    refine Nat.lt_of_mul_lt_mul_right (a := 2 ^ (-e').toNat) ?_
    calc tp' * 2 ^ (-e).toNat * 2 ^ (-e').toNat = tp' * 2 ^ (-e').toNat * 2 ^ (-e).toNat := Nat.mul_right_comm _ _ _
      _ < 2 * (bt' * 2 ^ e'.toNat) * 2 ^ (-e).toNat := Nat.mul_lt_mul_of_pos_right h'.2 (pw_p _)
      _ = bt' * (2 * 2 ^ e'.toNat * 2 ^ (-e).toNat) := by simp only [Nat.mul_comm, Nat.mul_left_comm, Nat.mul_assoc]
      _ ≤ bt' * (2 ^ e.toNat * 2 ^ (-e').toNat) := Nat.mul_le_mul_left _ h1
      _ = bt' * 2 ^ e.toNat * 2 ^ (-e').toNat := (Nat.mul_assoc _ _ _).symm
  have h3 : tp' * bt < tp * bt' := by
    refine Nat.lt_of_mul_lt_mul_right (a := 2 ^ (-e).toNat) ?_
    calc tp' * bt * 2 ^ (-e).toNat = tp' * 2 ^ (-e).toNat * bt := Nat.mul_right_comm _ _ _
      _ < bt' * 2 ^ e.toNat * bt := Nat.mul_lt_mul_of_pos_right h2 hb
      _ = bt' * (bt * 2 ^ e.toNat) := by simp only [Nat.mul_comm, Nat.mul_left_comm, Nat.mul_assoc]
      _ ≤ bt' * (tp * 2 ^ (-e).toNat) := Nat.mul_le_mul_left _ h.1
      _ = tp * bt' * 2 ^ (-e).toNat := by simp only [Nat.mul_comm, Nat.mul_left_comm, Nat.mul_assoc]
  omega
theorem far_mul {md : Int} {ng : Prop} {q F B X : Nat} (hX : 0 < X) : far md ng q (F * X) (B * X) ↔ far md ng q F B := by
  have h1 : B * X < 2 * (F * X) ↔ B < 2 * F := by
    rw [← Nat.mul_assoc]
    exact ⟨fun h => Nat.lt_of_mul_lt_mul_right h, fun h => Nat.mul_lt_mul_of_pos_right h hX⟩
  have h2 : 2 * (F * X) = B * X ↔ 2 * F = B := by
    rw [← Nat.mul_assoc]
    exact ⟨fun h => Nat.eq_of_mul_eq_mul_right hX h, fun h => by rw [h]⟩
  have h3 : B * X ≤ 2 * (F * X) ↔ B ≤ 2 * F := by
    rw [← Nat.mul_assoc]
    exact ⟨fun h => Nat.le_of_mul_le_mul_right h hX, fun h => Nat.mul_le_mul_right _ h⟩
  unfold far
  rw [h1, h2, h3]
theorem RS_of {tp bt E M S0 mm F xc u : Nat} {md : Int} {ng : Prop} {K : Int} (hb : 0 < bt) (ht : 0 < tp) (h1 : S0 * 2 ^ K.toNat = tp * 2 ^ (-K).toNat) (h2 : S0 < 2 * bt) (h3 : S0 * 2 ^ M = mm * bt + F) (h4 : F < bt) (hK : K = lowP E M + M + xc) (hx : xc = 0 ∨ bt ≤ S0)
    (hu : (u = 1 ∧ F ≠ 0 ∧ far md ng mm F bt) ∨ (u = 0 ∧ ¬ (F ≠ 0 ∧ far md ng mm F bt))) : RS tp bt E M md ng (xc * 2 ^ M + mm + u) (F ≠ 0) (S0 < bt) := by
  have key : tp * 2 ^ (-(K - M)).toNat = mm * (bt * 2 ^ (K - M).toNat) + F * 2 ^ (K - M).toNat := by
    refine Nat.eq_of_mul_eq_mul_right (pw_p (-K).toNat) ?_
    calc tp * 2 ^ (-(K - M)).toNat * 2 ^ (-K).toNat = tp * 2 ^ (-K).toNat * 2 ^ (-(K - M)).toNat := Nat.mul_right_comm _ _ _
      _ = S0 * 2 ^ K.toNat * 2 ^ (-(K - M)).toNat := by rw [h1]
      _ = S0 * (2 ^ M * 2 ^ (K - M).toNat * 2 ^ (-K).toNat) := by
        rw [Nat.mul_assoc, ← Nat.pow_add, ← Nat.pow_add, ← Nat.pow_add]
        congr 2
        omega
      _ = S0 * 2 ^ M * 2 ^ (K - M).toNat * 2 ^ (-K).toNat := by simp only [Nat.mul_assoc]
      _ = (mm * (bt * 2 ^ (K - M).toNat) + F * 2 ^ (K - M).toNat) * 2 ^ (-K).toNat := by rw [h3, Nat.add_mul, Nat.mul_assoc mm]
  have hX := pw_p (K - M).toNat
  have hF : F * 2 ^ (K - M).toNat ≠ 0 ↔ F ≠ 0 := ⟨fun h h0 => h (by rw [h0, Nat.zero_mul]), fun h h0 => by rcases Nat.mul_eq_zero.mp h0 with h5 | h5 <;> omega⟩
  have fin : ∀ e : Int, IsE tp bt e → K - M = max (e - M) (lowP E M) → (S0 < bt ↔ e < lowP E M + M) → RS tp bt E M md ng (xc * 2 ^ M + mm + u) (F ≠ 0) (S0 < bt) := fun e he hP hty =>
    ⟨e, K - M, mm, F * 2 ^ (K - M).toNat, u, he, hP, key, Nat.mul_lt_mul_of_pos_right h4 hX, hF.symm, hty, by rw [hF, far_mul hX]; exact hu, by rw [show (K - M - lowP E M).toNat = xc by omega]⟩
  rcases Nat.lt_or_ge S0 bt with h | h
  · obtain ⟨e, he⟩ := IsE_ex ht hb
    have hlt : e < K := by
      refine Int.not_le.mp fun hle => ?_
      have g1 : 2 ^ K.toNat * 2 ^ (-e).toNat ≤ 2 ^ e.toNat * 2 ^ (-K).toNat := by
        rw [← Nat.pow_add, ← Nat.pow_add]
        exact Nat.pow_le_pow_right (by decide) (by omega)
      have g2 : bt * (2 ^ e.toNat * 2 ^ (-K).toNat) ≤ S0 * (2 ^ e.toNat * 2 ^ (-K).toNat) := by
        calc bt * (2 ^ e.toNat * 2 ^ (-K).toNat) = bt * 2 ^ e.toNat * 2 ^ (-K).toNat := (Nat.mul_assoc _ _ _).symm
          _ ≤ tp * 2 ^ (-e).toNat * 2 ^ (-K).toNat := Nat.mul_le_mul_right _ he.1
          _ = tp * 2 ^ (-K).toNat * 2 ^ (-e).toNat := Nat.mul_right_comm _ _ _
          _ = S0 * (2 ^ K.toNat * 2 ^ (-e).toNat) := by rw [← h1, Nat.mul_assoc]
          _ ≤ S0 * (2 ^ e.toNat * 2 ^ (-K).toNat) := Nat.mul_le_mul_left _ g1
      have := Nat.le_of_mul_le_mul_right g2 (Nat.mul_pos (pw_p _) (pw_p _))
      omega
    exact fin e he (by omega) ⟨fun _ => by omega, fun _ => h⟩
  · refine fin K ⟨?_, ?_⟩ (by omega) ⟨fun _ => by omega, fun h5 => by omega⟩
    · rw [← h1]; exact Nat.mul_le_mul_right _ h
    · rw [← h1, ← Nat.mul_assoc]; exact Nat.mul_lt_mul_of_pos_right h2 (pw_p _)
theorem RS_uniq {tp bt tp' bt' E M Z Z' : Nat} {md : Int} {ng ix ty ix' ty' : Prop} (hb : 0 < bt) (hb' : 0 < bt') (hv : tp * bt' = tp' * bt) (h : RS tp bt E M md ng Z ix ty) (h' : RS tp' bt' E M md ng Z' ix' ty') : Z = Z' ∧ (ix ↔ ix') ∧ (ty ↔ ty') := by
  obtain ⟨e, P, q, rm, u, he, hP, hq, hr, hix, hty, hu, hZ⟩ := h
  obtain ⟨e', P', q', rm', u', he', hP', hq', hr', hix', hty', hu', hZ'⟩ := h'
  have hee : e = e' := Int.le_antisymm (IsE_le hb he he' (by omega)) (IsE_le hb' he' he (by omega))
  subst hee
  have hPP : P' = P := by omega
  subst hPP
  generalize 2 ^ (-P').toNat = a at *
  have hX := pw_p P'.toNat
  generalize 2 ^ P'.toNat = b at *
  have e1 : q * (bt * b * bt') + rm * bt' = q' * (bt * b * bt') + rm' * bt := by
    calc q * (bt * b * bt') + rm * bt' = (q * (bt * b) + rm) * bt' := by rw [Nat.add_mul, Nat.mul_assoc q]
      _ = tp * a * bt' := by rw [hq]
      _ = tp' * a * bt := by rw [Nat.mul_right_comm, hv, Nat.mul_right_comm]
      _ = (q' * (bt' * b) + rm') * bt := by rw [hq']
      _ = q' * (bt * b * bt') + rm' * bt := by rw [Nat.add_mul]; congr 1; simp only [Nat.mul_comm, Nat.mul_left_comm, Nat.mul_assoc]
  have l1 : rm * bt' < bt * b * bt' := Nat.mul_lt_mul_of_pos_right hr hb'
  have l2 : rm' * bt < bt * b * bt' := by
    rw [show bt * b * bt' = bt' * b * bt by simp only [Nat.mul_comm, Nat.mul_left_comm, Nat.mul_assoc]]
    exact Nat.mul_lt_mul_of_pos_right hr' hb
  have hqq : q = q' := by
    have g1 : (q * (bt * b * bt') + rm * bt') / (bt * b * bt') = q := by rw [Nat.add_comm, Nat.add_mul_div_right _ _ (by omega), Nat.div_eq_of_lt l1, Nat.zero_add]
    have g2 : (q' * (bt * b * bt') + rm' * bt) / (bt * b * bt') = q' := by rw [Nat.add_comm, Nat.add_mul_div_right _ _ (by omega), Nat.div_eq_of_lt l2, Nat.zero_add]
    rw [← g1, ← g2, e1]
  subst hqq
  have hrr : rm * bt' = rm' * bt := by omega
  have z : rm ≠ 0 ↔ rm' ≠ 0 := by
    constructor
    · intro h h0
      rw [h0, Nat.zero_mul] at hrr
      rcases Nat.mul_eq_zero.mp hrr with h5 | h5 <;> omega
    · intro h h0
      rw [h0, Nat.zero_mul] at hrr
      rcases Nat.mul_eq_zero.mp hrr.symm with h5 | h5 <;> omega
  have hf : far md ng q rm (bt * b) ↔ far md ng q rm' (bt' * b) := by
    rw [← far_mul (F := rm) (B := bt * b) hb', ← far_mul (F := rm') (B := bt' * b) hb, hrr, show bt * b * bt' = bt' * b * bt by simp only [Nat.mul_comm, Nat.mul_left_comm, Nat.mul_assoc]]
  rw [z, hf] at hu
  refine ⟨?_, hix.trans (z.trans hix'.symm), hty.trans hty'.symm⟩
  rcases hu with ⟨a1, a2⟩ | ⟨a1, a2⟩ <;> rcases hu' with ⟨b1, b2⟩ | ⟨b1, b2⟩
  · omega
  · exact absurd a2 b2
  · exact absurd b2 a2
  · omega
theorem RS_ex {tp bt E M : Nat} {md : Int} {ng : Prop} (ht : 0 < tp) (hb : 0 < bt) : ∃ (Z : Nat) (ix ty : Prop), RS tp bt E M md ng Z ix ty := by
  obtain ⟨e, he⟩ := IsE_ex ht hb
  have hB : 0 < bt * 2 ^ (max (e - M) (lowP E M)).toNat := Nat.mul_pos hb (pw_p _)
  have h1 := Nat.div_add_mod (tp * 2 ^ (-(max (e - M) (lowP E M))).toNat) (bt * 2 ^ (max (e - M) (lowP E M)).toNat)
  have h2 := Nat.mod_lt (tp * 2 ^ (-(max (e - M) (lowP E M))).toNat) hB
  rw [Nat.mul_comm] at h1
  rcases Classical.em (tp * 2 ^ (-(max (e - M) (lowP E M))).toNat % (bt * 2 ^ (max (e - M) (lowP E M)).toNat) ≠ 0 ∧ far md ng (tp * 2 ^ (-(max (e - M) (lowP E M))).toNat / (bt * 2 ^ (max (e - M) (lowP E M)).toNat)) (tp * 2 ^ (-(max (e - M) (lowP E M))).toNat % (bt * 2 ^ (max (e - M) (lowP E M)).toNat)) (bt * 2 ^ (max (e - M) (lowP E M)).toNat)) with h | h
  · exact ⟨_, _, _, e, _, _, _, 1, he, rfl, h1.symm, h2, Iff.rfl, Iff.rfl, Or.inl ⟨rfl, h⟩, rfl⟩
  · exact ⟨_, _, _, e, _, _, _, 0, he, rfl, h1.symm, h2, Iff.rfl, Iff.rfl, Or.inr ⟨rfl, h⟩, rfl⟩
theorem lowP_r {E M : Nat} (h1 : 2 ≤ E) (h2 : E ≤ 8) : -126 ≤ lowP E M + M ∧ lowP E M + M ≤ 0 := by
  have := p_bias h1 h2
  unfold lowP
  omega
theorem RS_big {tp bt E M Z : Nat} {md : Int} {ng ix ty : Prop} (hE1 : 2 ≤ E) (hE2 : E ≤ 8) (hb : 0 < bt) (hv : 2 ^ 130 * bt ≤ tp) (h : RS tp bt E M md ng Z ix ty) : iz E M ≤ Z ∧ ¬ ty := by
  obtain ⟨e, P, q, rm, u, he, hP, hq, hr, hix, hty, hu, hZ⟩ := h
  have hl := lowP_r (M := M) hE1 hE2
  have h130 : 130 ≤ e := by
    have g : IsE (2 ^ 130) 1 130 := ⟨by decide, by decide⟩
    exact IsE_le (by decide) g he (by omega)
  have hPe : P = e - M := by omega
  have hq2 : 2 ^ M ≤ q := by
    have g1 : 2 ^ M * (bt * 2 ^ P.toNat) ≤ tp * 2 ^ (-P).toNat := by
      refine Nat.le_of_mul_le_mul_right ?_ (pw_p (-e).toNat)
      calc 2 ^ M * (bt * 2 ^ P.toNat) * 2 ^ (-e).toNat = bt * (2 ^ M * 2 ^ P.toNat * 2 ^ (-e).toNat) := by simp only [Nat.mul_comm, Nat.mul_left_comm, Nat.mul_assoc]
        _ = bt * (2 ^ e.toNat * 2 ^ (-P).toNat) := by
          rw [← Nat.pow_add, ← Nat.pow_add, ← Nat.pow_add]
          congr 2
          omega
        _ = bt * 2 ^ e.toNat * 2 ^ (-P).toNat := (Nat.mul_assoc _ _ _).symm
        _ ≤ tp * 2 ^ (-e).toNat * 2 ^ (-P).toNat := Nat.mul_le_mul_right _ he.1
        _ = tp * 2 ^ (-P).toNat * 2 ^ (-e).toNat := Nat.mul_right_comm _ _ _
    rw [hq] at g1
    generalize bt * 2 ^ P.toNat = B at *
    refine Nat.le_of_lt_succ (Nat.lt_of_mul_lt_mul_right (a := B) ?_)
    rw [Nat.succ_mul]
    omega
  have hp := p_bias hE1 hE2
  have hE : 2 ^ E = 2 * 2 ^ (E - 1) := pw_half (by omega)
  have hlow : lowP E M = 1 - ((2 ^ (E - 1) - 1 : Nat) : Int) - (M : Int) := rfl
  refine ⟨?_, fun h => by have := hty.mp h; omega⟩
  have g2 : (2 ^ E - 2) * 2 ^ M ≤ (P - lowP E M).toNat * 2 ^ M := Nat.mul_le_mul_right _ (by omega)
  have g3 : iz E M = (2 ^ E - 2) * 2 ^ M + 2 ^ M := by
    rw [iz, show 2 ^ E - 1 = 2 ^ E - 2 + 1 by omega, Nat.add_mul, Nat.one_mul]
  omega
theorem RS_tiny {tp bt E M Z : Nat} {md : Int} {ng ix ty : Prop} (hE1 : 2 ≤ E) (hE2 : E ≤ 8) (hM1 : 1 ≤ M) (hM : M ≤ 23) (ht : 0 < tp) (hv : tp * 2 ^ 151 < bt) (h : RS tp bt E M md ng Z ix ty) : ix ∧ ty ∧ ((Z = 1 ∧ ((md = 2 ∧ ¬ ng) ∨ (md = 3 ∧ ng))) ∨ (Z = 0 ∧ ¬ ((md = 2 ∧ ¬ ng) ∨ (md = 3 ∧ ng)))) := by
  obtain ⟨e, P, q, rm, u, he, hP, hq, hr, hix, hty, hu, hZ⟩ := h
  have hl := lowP_r (M := M) hE1 hE2
  have h151 : e ≤ -151 := by
    have g : IsE 1 (2 ^ 151) (-151) := ⟨by decide, by decide⟩
    exact IsE_le (by omega) he g (by omega)
  have hPe : P = lowP E M := by omega
  have hB : bt ≤ bt * 2 ^ P.toNat := Nat.le_mul_of_pos_right _ (pw_p _)
  have h149 : tp * 2 ^ (-P).toNat ≤ tp * 2 ^ 149 := Nat.mul_le_mul_left _ (Nat.pow_le_pow_right (by decide) (by omega))
  have e151 : tp * 2 ^ 151 = 4 * (tp * 2 ^ 149) := by rw [show (2 : Nat) ^ 151 = 4 * 2 ^ 149 by decide, Nat.mul_left_comm]
  have htp : 0 < tp * 2 ^ (-P).toNat := Nat.mul_pos ht (pw_p _)
  generalize tp * 2 ^ (-P).toNat = A at *
  generalize bt * 2 ^ P.toNat = B at *
  have hq0 : q = 0 := by
    rcases Nat.eq_zero_or_pos q with h | h
    · exact h
    · have := Nat.mul_le_mul_right B (show 1 ≤ q from h)
      omega
  subst hq0
  rw [Nat.zero_mul, Nat.zero_add] at hq
  have hf : (rm ≠ 0 ∧ far md ng 0 rm B) ↔ ((md = 2 ∧ ¬ ng) ∨ (md = 3 ∧ ng)) := by
    unfold far
    constructor
    · rintro ⟨-, (⟨-, h | h⟩ | h | h | ⟨-, h⟩)⟩
      · omega
      · omega
      · exact Or.inl h
      · exact Or.inr h
      · omega
    · intro h
      exact ⟨by omega, h.elim (fun h => Or.inr (Or.inl h)) (fun h => Or.inr (Or.inr (Or.inl h)))⟩
  refine ⟨hix.mpr (by omega), hty.mpr (by omega), ?_⟩
  rw [show (P - lowP E M).toNat = 0 by omega, Nat.zero_mul] at hZ
  rcases hu with ⟨a, b⟩ | ⟨a, b⟩
  · exact Or.inl ⟨by omega, hf.mp b⟩
  · exact Or.inr ⟨by omega, fun h => b (hf.mpr h)⟩
/-! THE REFERENCE ROUNDS ITS ROW -/
def bsE (E : Nat) : Nat := 2 ^ (E - 1) - 1
theorem bsE_r {E : Nat} (h1 : 2 ≤ E) (h2 : E ≤ 8) : 1 ≤ bsE E ∧ bsE E ≤ 127 ∧ 2 ^ E = 2 * bsE E + 2 := by
  have h3 := p_bias h1 h2
  have h4 : 2 ^ E = 2 * 2 ^ (E - 1) := pw_half (by omega)
  unfold bsE
  omega
theorem lowP_b (E M : Nat) : lowP E M = 1 - (bsE E : Int) - (M : Int) := rfl
def GUd (b rs : Int) (bz : Prop) (mm : Nat) : Prop := (b = 0 ∧ (rs = 3 ∨ (rs = 2 ∧ mm % 2 = 1))) ∨ (b = 2 ∧ 0 < rs ∧ bz) ∨ (b = 3 ∧ 0 < rs ∧ ¬ bz) ∨ (b = 4 ∧ 1 < rs)
theorem HB_r {F : Nat} {x : Int} (h : HB F x) : (0 ≤ x ∧ x ≤ 3) ∧ (0 < x ↔ F ≠ 0) ∧ (x = 3 ↔ 10 ^ 339 < 2 * F) ∧ (x = 2 ↔ 2 * F = 10 ^ 339) ∧ (1 < x ↔ 10 ^ 339 ≤ 2 * F) := by
  unfold HB at h
  have hp := p10 339
  generalize (10 : Nat) ^ 339 = P at *
  omega
theorem GU_far {b rs : Int} {bz : Prop} {mm F : Nat} (h : HB F rs) : GUd b rs bz mm ↔ (F ≠ 0 ∧ far b (¬ bz) mm F (10 ^ 339)) := by
  obtain ⟨h0, h1, h2, h3, h4⟩ := HB_r h
  unfold GUd far
  rw [h1, h2, h3, h4]
  have hp := p10 339
  generalize (10 : Nat) ^ 339 = P at *
  constructor
  · rintro (⟨a, b⟩ | ⟨a, b, c⟩ | ⟨a, b, c⟩ | ⟨a, b⟩)
    · exact ⟨by omega, Or.inl ⟨a, by omega⟩⟩
    · exact ⟨b, Or.inr (Or.inl ⟨a, fun h => h c⟩)⟩
    · exact ⟨b, Or.inr (Or.inr (Or.inl ⟨a, c⟩))⟩
    · exact ⟨by omega, Or.inr (Or.inr (Or.inr ⟨a, b⟩))⟩
  · rintro ⟨f, (⟨a, b⟩ | ⟨a, b⟩ | ⟨a, b⟩ | ⟨a, b⟩)⟩
    · exact Or.inl ⟨a, by omega⟩
    · exact Or.inr (Or.inl ⟨a, f, Classical.byContradiction b⟩)
    · exact Or.inr (Or.inr (Or.inl ⟨a, f, b⟩))
    · exact Or.inr (Or.inr (Or.inr ⟨a, b⟩))
/-- what packing answers of the size Z -/
def PK (E M : Nat) (md : Int) (ng : Prop) (Z : Nat) (ix : Prop) (r : Int) (lo ov : Int32) : Prop := (Z < iz E M ∧ r = (Z : Int) ∧ ov = 0 ∧ ((lo = 1 ∧ ix) ∨ (lo = 0 ∧ ¬ ix))) ∨ (iz E M ≤ Z ∧ ov = 1 ∧ lo = 1 ∧ ((ovS md ng ∧ r = (iz E M : Int) - 1) ∨ (¬ ovS md ng ∧ r = (iz E M : Int))))
def RR (E M : Nat) (md : Int) (ng : Prop) (Z : Nat) (ix ty : Prop) (r : Int) (lo ov un : Int32) : Prop := PK E M md ng Z ix r lo ov ∧ ((un = 1 ∧ ty ∧ ix) ∨ (un = 0 ∧ ¬ (ty ∧ ix)))
theorem PK_iff {E M Z : Nat} {md r : Int} {ng ix ix' : Prop} {lo ov : Int32} (h : ix ↔ ix') (hp : PK E M md ng Z ix r lo ov) : PK E M md ng Z ix' r lo ov := by
  unfold PK at hp ⊢
  rw [← h]
  exact hp
theorem PK_ng {E M Z : Nat} {md r : Int} {ng ng' ix : Prop} {lo ov : Int32} (h : ng ↔ ng') (hp : PK E M md ng Z ix r lo ov) : PK E M md ng' Z ix r lo ov := by
  unfold PK ovS at hp ⊢
  rw [← h]
  exact hp
theorem iz_ge {E M : Nat} (hE : 2 ≤ E) : 2 ^ M ≤ iz E M := by
  have h1 : 2 ^ 2 ≤ 2 ^ E := Nat.pow_le_pow_right (by decide) hE
  exact Nat.le_mul_of_pos_left _ (by omega)
theorem pk_fin {E M xq mp : Nat} (h : mp < 2 * 2 ^ M) (hx : xq + 2 < 2 ^ E) : xq * 2 ^ M + mp < iz E M := by
  have h1 : (xq + 2) * 2 ^ M ≤ (2 ^ E - 1) * 2 ^ M := Nat.mul_le_mul_right _ (by omega)
  rw [Nat.add_mul] at h1
  unfold iz
  omega
theorem pk_inf {E M xq mp : Nat} (h : 2 ^ M ≤ mp) (hx : 2 ^ E ≤ xq + 2) : iz E M ≤ xq * 2 ^ M + mp := by
  have h1 : (2 ^ E - 1) * 2 ^ M ≤ (xq + 1) * 2 ^ M := Nat.mul_le_mul_right _ (by omega)
  rw [Nat.add_mul, Nat.one_mul] at h1
  unfold iz
  omega
theorem half_lim {s S h : Nat} (hv : 2 ^ h * s = S) (hS : S < 10 ^ 46 * 10 ^ 339) (h2 : 2 ≤ s / 10 ^ 339) : h ≤ 152 := by
  have h3 : 2 * 10 ^ 339 ≤ s := (Nat.le_div_iff_mul_le (p10 339)).mp h2
  refine Decidable.byContradiction fun hc => ?_
  have h4 : 2 ^ 153 ≤ 2 ^ h := Nat.pow_le_pow_right (by decide) (by omega)
  have h5 : 2 ^ 153 * (2 * 10 ^ 339) ≤ 2 ^ h * s := Nat.mul_le_mul h4 h3
  have h6 : (10 : Nat) ^ 46 ≤ 2 ^ 153 := by decide
  have h7 : 10 ^ 46 * 10 ^ 339 ≤ 2 ^ 153 * 10 ^ 339 := Nat.mul_le_mul_right _ h6
  generalize (10 : Nat) ^ 339 = P at *
  omega
theorem half_ge {s t : Nat} (h2 : 2 ≤ s / 10 ^ 339) (h : 2 * t = s) : 10 ^ 339 ≤ t := by
  have h3 : 2 * 10 ^ 339 ≤ s := (Nat.le_div_iff_mul_le (p10 339)).mp h2
  generalize (10 : Nat) ^ 339 = P at *
  omega
theorem lt2_of {s : Nat} (h : ¬ min 2 (s / 10 ^ 339) = 2) : s < 2 * 10 ^ 339 := by
  refine (Nat.div_lt_iff_lt_mul (p10 339)).mp ?_
  generalize s / 10 ^ 339 = y at *
  omega
theorem min_of {s : Nat} (h : s < 2 * 10 ^ 339) : min 2 (s / 10 ^ 339) = s / 10 ^ 339 := by
  have := (Nat.div_lt_iff_lt_mul (p10 339)).mpr h
  generalize s / 10 ^ 339 = y at *
  omega
theorem div_0 {s : Nat} : s / 10 ^ 339 = 0 ↔ s < 10 ^ 339 := by
  have hp := p10 339
  rw [Nat.div_eq_zero_iff]
  generalize (10 : Nat) ^ 339 = P at *
  omega
theorem n3_60 {k : Nat → Int32} {n3 n4 : Nat} (h : RWp k n3 n4) (hs : sv k 400 < 2 * 10 ^ 339) : n3 = 60 := by
  have h1 := h.2.2.2.1
  rcases Nat.lt_or_ge n3 60 with h2 | h2
  · have h3 := whole_lo h h2
    have h4 := (Nat.div_lt_iff_lt_mul (p10 339)).mpr hs
    omega
  · omega
theorem zero60 {k : Nat → Int32} {n4 : Nat} (h : RWp k 60 n4) : RWp (upd k 60 0) 60 n4 ∧ sv (upd k 60 0) 400 = sv k 339 ∧ sv k 400 = rdg k 60 * 10 ^ 339 + sv k 339 := by
  have h0 : RWp (upd k 60 0) 60 n4 := by
    obtain ⟨r1, r2, r3, r4, r5, r6, r7⟩ := h
    refine ⟨fun j hj => ?_, fun j hj => ?_, fun j hj hj2 => ?_, r4, r5, r6, fun h => by omega⟩
    · rcases Nat.decEq j 60 with h | h
      · rw [pk_un h]; exact r1 j hj
      · rw [h, pk_us]; decide
    · rw [pk_un (by omega)]; exact r2 j hj
    · rw [pk_un (by omega)]; exact r3 j hj hj2
  refine ⟨h0, ?_, by rw [sv_split, pv_61 h]⟩
  rw [sv_split, pv_61 h0, rdg_0 (by rw [pk_us]; decide), Nat.zero_mul, Nat.zero_add]
  exact sv_congr (by omega) (fun j a b => rdg_un (by omega))
theorem sv_frac {k : Nat → Int32} {n4 : Nat} (h : RWp k 60 n4) (hs : sv k 400 < 10 ^ 339) : sv k 339 = sv k 400 := by
  have h1 := (zero60 h).2.2
  rcases Nat.eq_zero_or_pos (rdg k 60) with h2 | h2
  · rw [h1, h2, Nat.zero_mul, Nat.zero_add]
  · have := Nat.mul_le_mul_right (10 ^ 339) h2
    generalize (10 : Nat) ^ 339 = P at *
    omega
theorem mm_lt {S0 mm F j M : Nat} (h : S0 * 2 ^ j = mm * 10 ^ 339 + F) (h2 : S0 < 2 * 10 ^ 339) (hj : j ≤ M) : mm < 2 * 2 ^ M := by
  have h3 : S0 * 2 ^ j ≤ S0 * 2 ^ M := Nat.mul_le_mul_left _ (Nat.pow_le_pow_right (by decide) hj)
  have h4 : S0 * 2 ^ M < 2 * 10 ^ 339 * 2 ^ M := Nat.mul_lt_mul_of_pos_right h2 (pw_p M)
  refine Nat.lt_of_mul_lt_mul_right (a := 10 ^ 339) ?_
  rw [Nat.mul_right_comm]
  omega
theorem mm_step {S0 mm F G d j : Nat} (h : S0 * 2 ^ j = mm * 10 ^ 339 + F) (h2 : d * 10 ^ 339 + G = 2 * F) : S0 * 2 ^ (j + 1) = (2 * mm + d) * 10 ^ 339 + G := by
  rw [Nat.pow_succ, ← Nat.mul_assoc, h, Nat.add_mul, Nat.add_mul, Nat.mul_right_comm, Nat.mul_comm mm 2]
  omega
theorem mm_ge {S0 mm F M : Nat} (h : S0 * 2 ^ M = mm * 10 ^ 339 + F) (hF : F < 10 ^ 339) (h2 : 10 ^ 339 ≤ S0) : 2 ^ M ≤ mm := by
  have h3 : 10 ^ 339 * 2 ^ M ≤ S0 * 2 ^ M := Nat.mul_le_mul_right _ h2
  refine Nat.le_of_lt_succ (Nat.lt_of_mul_lt_mul_right (a := 10 ^ 339) ?_)
  rw [Nat.succ_mul, Nat.mul_comm (2 ^ M)]
  omega
theorem tw_step {s t S : Nat} {K : Int} (h : s * 2 ^ K.toNat = S * 2 ^ (-K).toNat) (hK : K ≤ 0) (ht : t = 2 * s) : t * 2 ^ (K + (-1)).toNat = S * 2 ^ (-(K + (-1))).toNat := by
  rw [show K.toNat = 0 by omega] at h
  rw [show (K + (-1)).toNat = 0 by omega, show (-(K + (-1))).toNat = (-K).toNat + 1 by omega, Nat.pow_succ, ← Nat.mul_assoc, ← h, ht]
  omega
theorem RR_of {tp E M S0 mm F xc uu : Nat} {b rs r : Int} {bl lo ov un un1 : Int32} {K : Int} (ht : 0 < tp) (h1 : S0 * 2 ^ K.toNat = tp * 2 ^ (-K).toNat) (h2 : S0 < 2 * 10 ^ 339) (h3 : S0 * 2 ^ M = mm * 10 ^ 339 + F) (h4 : F < 10 ^ 339) (hK : K = 1 - (bsE E : Int) + xc) (hx : xc = 0 ∨ 10 ^ 339 ≤ S0)
    (hH : HB F rs) (hu : (uu = 1 ∧ GUd b rs (bl = 0) mm) ∨ (uu = 0 ∧ ¬ GUd b rs (bl = 0) mm)) (hp : PK E M b (¬ bl = 0) (xc * 2 ^ M + mm + uu) (0 < rs) r lo ov) (hun : (un = 1 ∧ S0 < 10 ^ 339) ∨ (un = 0 ∧ ¬ S0 < 10 ^ 339)) (hun1 : (un1 = 1 ∧ ¬ un = 0 ∧ 0 < rs) ∨ (un1 = 0 ∧ ¬ (¬ un = 0 ∧ 0 < rs))) :
    ∃ (Z : Nat) (ix ty : Prop), RS tp (10 ^ 339) E M b (¬ bl = 0) Z ix ty ∧ RR E M b (¬ bl = 0) Z ix ty r lo ov un1 := by
  have hF := (HB_r hH).2.1
  rw [GU_far hH] at hu
  refine ⟨_, _, _, RS_of (p10 339) ht h1 h2 h3 h4 (by rw [lowP_b]; omega) hx hu, PK_iff hF hp, ?_⟩
  have hz : ¬ un = 0 ↔ S0 < 10 ^ 339 := by
    rcases hun with ⟨a, c⟩ | ⟨a, c⟩
    · rw [a]; exact ⟨fun _ => c, fun _ => by decide⟩
    · rw [a]; exact ⟨fun h => absurd rfl h, fun h => absurd h c⟩
  rw [hz, hF] at hun1
  exact hun1
