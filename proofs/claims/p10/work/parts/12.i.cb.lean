/-! WHICH FRACTIONS ARE ROUNDED TO A SIZE -/
def w2 (P : Int) : Nat := 2 ^ (P + 200).toNat
theorem w2_p (P : Int) : 0 < w2 P := pw_p _
theorem w2_s {P : Int} (h : -200 ≤ P) : w2 (P + 1) = 2 * w2 P := by
  unfold w2
  rw [show (P + 1 + 200).toNat = (P + 200).toNat + 1 by omega, Nat.pow_succ, Nat.mul_comm]
/-- the value of the size Z, times 2^200 -/
def vw (E M Z : Nat) : Nat := sgf M Z * w2 (pwr E M Z)
theorem lowP_149 {E M : Nat} (hE1 : 2 ≤ E) (hE2 : E ≤ 8) (hM : M ≤ 23) : -149 ≤ lowP E M := by
  have := lowP_r (M := M) hE1 hE2
  omega
theorem pwr_lo {E M Z : Nat} (hE1 : 2 ≤ E) (hE2 : E ≤ 8) (hM : M ≤ 23) : -149 ≤ pwr E M Z := by
  have := lowP_149 hE1 hE2 hM
  unfold pwr
  omega
theorem size_of {E M c q : Nat} (hq : q < 2 * 2 ^ M) (hc : 2 ^ M ≤ q ∨ c = 0) : sgf M (c * 2 ^ M + q) = q ∧ pwr E M (c * 2 ^ M + q) = lowP E M + c := by
  have hp := pw_p M
  rcases Nat.lt_or_ge q (2 ^ M) with h | h
  · have hc0 : c = 0 := by omega
    subst hc0
    rw [Nat.zero_mul, Nat.zero_add]
    have he : ex M q = 0 := Nat.div_eq_of_lt h
    refine ⟨by rw [sgf, if_pos he], ?_⟩
    rw [pwr, he]
  · have e1 : c * 2 ^ M + q = (c + 1) * 2 ^ M + (q - 2 ^ M) := by rw [Nat.add_mul, Nat.one_mul]; omega
    have he : ex M (c * 2 ^ M + q) = c + 1 := by
      unfold ex
      rw [e1, Nat.add_comm, Nat.add_mul_div_right _ _ hp, Nat.div_eq_of_lt (by omega), Nat.zero_add]
    have hf : fz M (c * 2 ^ M + q) = q - 2 ^ M := by
      unfold fz
      rw [e1, Nat.add_comm, Nat.add_mul_mod_self_right, Nat.mod_eq_of_lt (by omega)]
    refine ⟨by rw [sgf, if_neg (by omega), hf]; omega, ?_⟩
    rw [pwr, he]
    omega
theorem size_ex (M Z : Nat) : ∃ c q : Nat, Z = c * 2 ^ M + q ∧ q < 2 * 2 ^ M ∧ (2 ^ M ≤ q ∨ c = 0) := by
  have hp := pw_p M
  have h1 := Nat.div_add_mod Z (2 ^ M)
  have h2 := Nat.mod_lt Z hp
  rcases Nat.eq_zero_or_pos (Z / 2 ^ M) with h | h
  · exact ⟨0, Z, by omega, by rw [h, Nat.mul_zero] at h1; omega, Or.inr rfl⟩
  · refine ⟨Z / 2 ^ M - 1, 2 ^ M + Z % 2 ^ M, ?_, by omega, Or.inl (by omega)⟩
    rw [Nat.sub_mul, Nat.one_mul, Nat.mul_comm]
    have := Nat.mul_le_mul_left (2 ^ M) h
    omega
theorem vw_succ {E M Z : Nat} (hE1 : 2 ≤ E) (hE2 : E ≤ 8) (hM : M ≤ 23) : vw E M (Z + 1) = vw E M Z + w2 (pwr E M Z) := by
  have hl := lowP_149 (M := M) hE1 hE2 hM
  have hp := pw_p M
  obtain ⟨c, q, rfl, hq, hc⟩ := size_ex M Z
  obtain ⟨s1, s2⟩ := size_of (E := E) hq hc
  unfold vw
  rw [s1, s2]
  rcases Nat.lt_or_ge (q + 1) (2 * 2 ^ M) with h | h
  · obtain ⟨t1, t2⟩ := size_of (E := E) (M := M) (c := c) (q := q + 1) h (by omega)
    rw [Nat.add_assoc, t1, t2, Nat.add_mul, Nat.one_mul]
  · have e : c * 2 ^ M + q + 1 = (c + 1) * 2 ^ M + 2 ^ M := by rw [Nat.add_mul, Nat.one_mul]; omega
    obtain ⟨t1, t2⟩ := size_of (E := E) (M := M) (c := c + 1) (q := 2 ^ M) (by omega) (Or.inl (Nat.le_refl _))
    rw [e, t1, t2, show lowP E M + ((c + 1 : Nat) : Int) = lowP E M + c + 1 by omega, w2_s (by omega), ← Nat.mul_assoc, show 2 ^ M * 2 = q + 1 by omega, Nat.add_mul, Nat.one_mul]
theorem vw_lt {E M Z : Nat} (hE1 : 2 ≤ E) (hE2 : E ≤ 8) (hM : M ≤ 23) : ∀ {n : Nat}, vw E M Z < vw E M (Z + 1 + n)
  | 0 => by rw [Nat.add_zero, vw_succ hE1 hE2 hM]; have := w2_p (pwr E M Z); omega
  | n + 1 => by
    have h1 := vw_lt (Z := Z) hE1 hE2 hM (n := n)
    have h2 := vw_succ (Z := Z + 1 + n) hE1 hE2 hM
    rw [show Z + 1 + (n + 1) = Z + 1 + n + 1 by omega]
    omega
theorem vw_mono {E M Z Y : Nat} (hE1 : 2 ≤ E) (hE2 : E ≤ 8) (hM : M ≤ 23) (h : Z < Y) : vw E M Z < vw E M Y := by
  have := vw_lt (Z := Z) hE1 hE2 hM (n := Y - Z - 1)
  rw [show Z + 1 + (Y - Z - 1) = Y by omega] at this
  exact this
theorem vw_le {E M Z Y : Nat} (hE1 : 2 ≤ E) (hE2 : E ≤ 8) (hM : M ≤ 23) (h : Z ≤ Y) : vw E M Z ≤ vw E M Y := by
  rcases Nat.lt_or_ge Z Y with h1 | h1
  · exact Nat.le_of_lt (vw_mono hE1 hE2 hM h1)
  · rw [show Z = Y by omega]; exact Nat.le_refl _
/-- rounding to the nearest, by values -/
theorem RS_w {tp bt E M Z : Nat} {ng ix ty : Prop} (hE1 : 2 ≤ E) (hE2 : E ≤ 8) (hM1 : 1 ≤ M) (hM : M ≤ 23) (hb : 0 < bt) (h : RS tp bt E M 0 ng Z ix ty) :
    ∃ Zf r : Nat, tp * 2 ^ 200 = bt * vw E M Zf + r ∧ r < bt * w2 (pwr E M Zf) ∧ ((Z = Zf + 1 ∧ (bt * w2 (pwr E M Zf) < 2 * r ∨ (2 * r = bt * w2 (pwr E M Zf) ∧ Zf % 2 = 1))) ∨ (Z = Zf ∧ ¬ (bt * w2 (pwr E M Zf) < 2 * r ∨ (2 * r = bt * w2 (pwr E M Zf) ∧ Zf % 2 = 1)))) := by
  obtain ⟨e, P, q, rm, u, he, hP, hq, hr, hix, hty, hu, hZ⟩ := h
  have hl := lowP_149 (M := M) hE1 hE2 hM
  have hP2 : -149 ≤ P := by omega
  -- how large q is
  have hq1 : q < 2 * 2 ^ M := by
    have g : tp * 2 ^ (-P).toNat < 2 * 2 ^ M * (bt * 2 ^ P.toNat) := by
      refine Nat.lt_of_mul_lt_mul_right (a := 2 ^ (-e).toNat) ?_
      calc tp * 2 ^ (-P).toNat * 2 ^ (-e).toNat = tp * 2 ^ (-e).toNat * 2 ^ (-P).toNat := Nat.mul_right_comm _ _ _
        _ < 2 * (bt * 2 ^ e.toNat) * 2 ^ (-P).toNat := Nat.mul_lt_mul_of_pos_right he.2 (pw_p _)
        _ = 2 * bt * (2 ^ e.toNat * 2 ^ (-P).toNat) := by simp only [Nat.mul_assoc]
        _ ≤ 2 * bt * (2 ^ M * 2 ^ P.toNat * 2 ^ (-e).toNat) := by
          refine Nat.mul_le_mul_left _ ?_
          rw [← Nat.pow_add, ← Nat.pow_add, ← Nat.pow_add]
          exact Nat.pow_le_pow_right (by decide) (by omega)
        _ = 2 * 2 ^ M * (bt * 2 ^ P.toNat) * 2 ^ (-e).toNat := by simp only [Nat.mul_comm, Nat.mul_left_comm, Nat.mul_assoc]
    refine Nat.lt_of_mul_lt_mul_right (a := bt * 2 ^ P.toNat) ?_
    omega
  have hq2 : 2 ^ M ≤ q ∨ (P - lowP E M).toNat = 0 := by
    rcases Int.lt_or_le (e - M) (lowP E M) with h1 | h1
    · right; omega
    · left
      have hPe : P = e - M := by omega
      have g1 : 2 ^ M * (bt * 2 ^ P.toNat) ≤ tp * 2 ^ (-P).toNat := by
        refine Nat.le_of_mul_le_mul_right ?_ (pw_p (-e).toNat)
        calc 2 ^ M * (bt * 2 ^ P.toNat) * 2 ^ (-e).toNat = bt * (2 ^ M * 2 ^ P.toNat * 2 ^ (-e).toNat) := by simp only [Nat.mul_comm, Nat.mul_left_comm, Nat.mul_assoc]
          _ = bt * (2 ^ e.toNat * 2 ^ (-P).toNat) := by
            rw [← Nat.pow_add, ← Nat.pow_add, ← Nat.pow_add]
            congr 2
            omega
          _ = bt * 2 ^ e.toNat * 2 ^ (-P).toNat := (Nat.mul_assoc _ _ _).symm
          _ ≤ tp * 2 ^ (-e).toNat * 2 ^ (-P).toNat := Nat.mul_le_mul_right _ he.1
          _ = tp * 2 ^ (-P).toNat * 2 ^ (-e).toNat := Nat.mul_right_comm _ _ _
      rw [hq] at g1
      generalize bt * 2 ^ P.toNat = B at *
      refine Nat.le_of_lt_succ (Nat.lt_of_mul_lt_mul_right (a := B) ?_)
      rw [Nat.succ_mul]
      omega
  obtain ⟨s1, s2⟩ := size_of (E := E) hq1 hq2
  have sP : lowP E M + (((P - lowP E M).toNat : Nat) : Int) = P := by omega
  rw [sP] at s2
  -- all times 2^(200 - (-P))
  obtain ⟨c, hc⟩ : ∃ c : Nat, c + (-P).toNat = 200 := ⟨200 - (-P).toNat, by omega⟩
  have hw : 2 ^ P.toNat * 2 ^ c = w2 P := by
    unfold w2
    rw [← Nat.pow_add]
    congr 1
    omega
  have hX : tp * 2 ^ 200 = bt * (q * w2 P) + rm * 2 ^ c := by
    rw [← hc, Nat.pow_add, Nat.mul_comm (2 ^ c), ← Nat.mul_assoc, hq, Nat.add_mul, ← hw]
    congr 1
    simp only [Nat.mul_comm, Nat.mul_left_comm, Nat.mul_assoc]
  have hB : bt * 2 ^ P.toNat * 2 ^ c = bt * w2 P := by rw [Nat.mul_assoc, hw]
  have hr2 : rm * 2 ^ c < bt * w2 P := by rw [← hB]; exact Nat.mul_lt_mul_of_pos_right hr (pw_p c)
  have hpar : ((P - lowP E M).toNat * 2 ^ M + q) % 2 = q % 2 := by
    rw [show 2 ^ M = 2 ^ (M - 1) * 2 by rw [← Nat.pow_succ, Nat.succ_eq_add_one, show M - 1 + 1 = M by omega], ← Nat.mul_assoc]
    omega
  have hfar : (rm ≠ 0 ∧ far 0 ng q rm (bt * 2 ^ P.toNat)) ↔ (bt * w2 P < 2 * (rm * 2 ^ c) ∨ (2 * (rm * 2 ^ c) = bt * w2 P ∧ q % 2 = 1)) := by
    have f1 : far 0 ng q rm (bt * 2 ^ P.toNat) ↔ far 0 ng q (rm * 2 ^ c) (bt * w2 P) := by rw [← hB, far_mul (pw_p c)]
    rw [f1]
    have hBp : 0 < bt * w2 P := Nat.mul_pos hb (w2_p P)
    have hz : rm ≠ 0 ↔ rm * 2 ^ c ≠ 0 := ⟨fun h h0 => by rcases Nat.mul_eq_zero.mp h0 with h5 | h5; exact h h5; have := pw_p c; omega, fun h h0 => h (by rw [h0, Nat.zero_mul])⟩
    rw [hz]
    generalize rm * 2 ^ c = r at *
    generalize bt * w2 P = B at *
    unfold far
    constructor
    · rintro ⟨-, (⟨-, h⟩ | ⟨h, -⟩ | ⟨h, -⟩ | ⟨h, -⟩)⟩
      · exact h
      · omega
      · omega
      · omega
    · intro h
      exact ⟨by omega, Or.inl ⟨rfl, h⟩⟩
  refine ⟨(P - lowP E M).toNat * 2 ^ M + q, rm * 2 ^ c, ?_, ?_, ?_⟩
  · rw [vw, s1, s2]; exact hX
  · rw [s2]; exact hr2
  · rw [s2, hpar]
    rw [hfar] at hu
    have e2 : (u = 1 ∧ rm ≠ 0 ∧ far 0 ng q rm (bt * 2 ^ P.toNat)) ↔ (u = 1 ∧ (bt * w2 P < 2 * (rm * 2 ^ c) ∨ (2 * (rm * 2 ^ c) = bt * w2 P ∧ q % 2 = 1))) := by rw [hfar]
    rcases hu with h1 | h1
    · exact Or.inl ⟨by omega, h1.2⟩
    · exact Or.inr ⟨by omega, h1.2⟩
/-- not below the number -/
theorem CB_up {tp bt E M Z Z0 : Nat} {ng ix ty : Prop} (hE1 : 2 ≤ E) (hE2 : E ≤ 8) (hM1 : 1 ≤ M) (hM : M ≤ 23) (hb : 0 < bt) (h : RS tp bt E M 0 ng Z ix ty) (hX : bt * vw E M Z0 ≤ tp * 2 ^ 200) :
    Z = Z0 ↔ (2 * (tp * 2 ^ 200 - bt * vw E M Z0) < bt * w2 (pwr E M Z0) ∨ (2 * (tp * 2 ^ 200 - bt * vw E M Z0) = bt * w2 (pwr E M Z0) ∧ Z0 % 2 = 0)) := by
  obtain ⟨Zf, r, h1, h2, h3⟩ := RS_w hE1 hE2 hM1 hM hb h
  rw [h1] at hX ⊢
  have hs := vw_succ (Z := Zf) hE1 hE2 hM
  have hle : Z0 ≤ Zf := by
    refine Nat.le_of_not_lt fun hlt => ?_
    have g1 := vw_le (E := E) (M := M) hE1 hE2 hM (show Zf + 1 ≤ Z0 from hlt)
    have g2 := Nat.mul_le_mul_left bt g1
    rw [hs, Nat.mul_add] at g2
    omega
  rcases Nat.lt_or_ge Z0 Zf with hlt | hge
  · have g1 := vw_le (E := E) (M := M) hE1 hE2 hM (show Z0 + 1 ≤ Zf from hlt)
    have g2 := Nat.mul_le_mul_left bt g1
    have hs0 := vw_succ (Z := Z0) (M := M) hE1 hE2 hM
    rw [hs0, Nat.mul_add] at g2
    have hp : 0 < bt * w2 (pwr E M Z0) := Nat.mul_pos hb (w2_p _)
    generalize bt * w2 (pwr E M Z0) = B at *
    generalize bt * vw E M Z0 = V at *
    generalize bt * vw E M Zf = Vf at *
    constructor
    · intro h4; rcases h3 with h5 | h5 <;> omega
    · intro h4; omega
  · have e : Zf = Z0 := by omega
    subst e
    have hp : 0 < bt * w2 (pwr E M Zf) := Nat.mul_pos hb (w2_p _)
    generalize bt * w2 (pwr E M Zf) = B at *
    generalize bt * vw E M Zf = V at *
    rw [show V + r - V = r by omega]
    omega
/-- not above it -/
theorem CB_dn {tp bt E M Z Z0 : Nat} {ng ix ty : Prop} (hE1 : 2 ≤ E) (hE2 : E ≤ 8) (hM1 : 1 ≤ M) (hM : M ≤ 23) (hb : 0 < bt) (h : RS tp bt E M 0 ng Z ix ty) (h0 : 0 < Z0) (hX : tp * 2 ^ 200 ≤ bt * vw E M Z0) :
    Z = Z0 ↔ (2 * (bt * vw E M Z0 - tp * 2 ^ 200) < bt * w2 (pwr E M (Z0 - 1)) ∨ (2 * (bt * vw E M Z0 - tp * 2 ^ 200) = bt * w2 (pwr E M (Z0 - 1)) ∧ Z0 % 2 = 0)) := by
  obtain ⟨Zf, r, h1, h2, h3⟩ := RS_w hE1 hE2 hM1 hM hb h
  rw [h1] at hX ⊢
  have hs := vw_succ (Z := Zf) hE1 hE2 hM
  have hs0 := vw_succ (Z := Z0 - 1) (M := M) hE1 hE2 hM
  rw [show Z0 - 1 + 1 = Z0 by omega] at hs0
  have hp : 0 < bt * w2 (pwr E M (Z0 - 1)) := Nat.mul_pos hb (w2_p _)
  have hle : Zf ≤ Z0 := by
    refine Nat.le_of_not_lt fun hlt => ?_
    have g1 := vw_mono (E := E) (M := M) hE1 hE2 hM hlt
    have g2 := Nat.mul_lt_mul_of_pos_left g1 hb
    omega
  rcases Nat.lt_trichotomy (Zf + 1) Z0 with hlt | heq | hgt
  · have g1 := vw_le (E := E) (M := M) hE1 hE2 hM (show Zf + 1 ≤ Z0 - 1 by omega)
    have g2 := Nat.mul_le_mul_left bt g1
    rw [hs, Nat.mul_add] at g2
    have g3 : bt * vw E M Z0 = bt * vw E M (Z0 - 1) + bt * w2 (pwr E M (Z0 - 1)) := by rw [hs0, Nat.mul_add]
    generalize bt * w2 (pwr E M (Z0 - 1)) = B at *
    generalize bt * vw E M (Z0 - 1) = W at *
    generalize bt * vw E M Z0 = V at *
    generalize bt * vw E M Zf = Vf at *
    generalize bt * w2 (pwr E M Zf) = Bf at *
    constructor
    · intro h4; rcases h3 with h5 | h5 <;> omega
    · intro h4; omega
  · have e : Zf = Z0 - 1 := by omega
    subst e
    have g3 : bt * vw E M Z0 = bt * vw E M (Z0 - 1) + bt * w2 (pwr E M (Z0 - 1)) := by rw [hs0, Nat.mul_add]
    generalize bt * w2 (pwr E M (Z0 - 1)) = B at *
    generalize bt * vw E M (Z0 - 1) = W at *
    generalize bt * vw E M Z0 = V at *
    omega
  · have e : Zf = Z0 := by omega
    subst e
    have hp2 : 0 < bt * w2 (pwr E M Zf) := Nat.mul_pos hb (w2_p _)
    generalize bt * w2 (pwr E M (Zf - 1)) = B at *
    generalize bt * vw E M Zf = V at *
    generalize bt * w2 (pwr E M Zf) = Bf at *
    omega
theorem w2_pred {E M Z : Nat} (hE1 : 2 ≤ E) (hE2 : E ≤ 8) (hM : M ≤ 23) (h0 : 0 < Z) : 2 * w2 (pwr E M (Z - 1)) = rb0 M Z * w2 (pwr E M Z) := by
  have hl := lowP_149 (M := M) hE1 hE2 hM
  have hp := pw_p M
  obtain ⟨c, q, rfl, hq, hc⟩ := size_ex M Z
  obtain ⟨s1, s2⟩ := size_of (E := E) hq hc
  have hexq : (q < 2 ^ M ∧ ex M (c * 2 ^ M + q) = 0) ∨ (2 ^ M ≤ q ∧ ex M (c * 2 ^ M + q) = c + 1 ∧ fz M (c * 2 ^ M + q) = q - 2 ^ M) := by
    rcases Nat.lt_or_ge q (2 ^ M) with h | h
    · left
      have hc0 : c = 0 := by omega
      subst hc0
      rw [Nat.zero_mul, Nat.zero_add]
      exact ⟨h, Nat.div_eq_of_lt h⟩
    · right
      have e1 : c * 2 ^ M + q = (c + 1) * 2 ^ M + (q - 2 ^ M) := by rw [Nat.add_mul, Nat.one_mul]; omega
      refine ⟨h, ?_, ?_⟩
      · unfold ex; rw [e1, Nat.add_comm, Nat.add_mul_div_right _ _ hp, Nat.div_eq_of_lt (by omega), Nat.zero_add]
      · unfold fz; rw [e1, Nat.add_comm, Nat.add_mul_mod_self_right, Nat.mod_eq_of_lt (by omega)]
  unfold rb0
  rcases (show (2 ^ M < q ∨ (c = 0 ∧ 0 < q)) ∨ (q = 2 ^ M ∧ 0 < c) by
    rcases Nat.eq_zero_or_pos c with h | h
    · left; right; subst h; exact ⟨rfl, by omega⟩
    · rcases hc with h2 | h2
      · omega
      · omega) with h | ⟨h, h2⟩
  · obtain ⟨t1, t2⟩ := size_of (E := E) (M := M) (c := c) (q := q - 1) (by omega) (by omega)
    rw [show c * 2 ^ M + q - 1 = c * 2 ^ M + (q - 1) by omega, t2, s2, if_neg (by omega)]
  · subst h
    have e : c * 2 ^ M + 2 ^ M - 1 = (c - 1) * 2 ^ M + (2 * 2 ^ M - 1) := by
      rw [Nat.sub_mul, Nat.one_mul]
      have := Nat.mul_le_mul_right (2 ^ M) h2
      omega
    obtain ⟨t1, t2⟩ := size_of (E := E) (M := M) (c := c - 1) (q := 2 * 2 ^ M - 1) (by omega) (by omega)
    rw [e, t2, s2, if_pos (by omega), Nat.one_mul, show lowP E M + (c : Int) = lowP E M + ((c - 1 : Nat) : Int) + 1 by omega, w2_s (by omega)]
/-! THE SHORTEST DECIMAL IS ONE -/
def cR (E M Z : Nat) (pw : Int) : Nat := sgf M Z * 4 * 2 ^ (pwr E M Z - 2).toNat * 10 ^ (-pw).toNat
def cA (E M Z : Nat) (pw : Int) : Nat := 2 * 2 ^ (pwr E M Z - 2).toNat * 10 ^ (-pw).toNat
def cB (E M Z : Nat) (pw : Int) : Nat := rb0 M Z * 2 ^ (pwr E M Z - 2).toNat * 10 ^ (-pw).toNat
def cU (E M Z : Nat) (pw : Int) : Nat := 2 ^ (2 - pwr E M Z).toNat * 10 ^ pw.toNat
theorem cU_p (E M Z : Nat) (pw : Int) : 0 < cU E M Z pw := Nat.mul_pos (pw_p _) (p10 _)
theorem SHB_canon {E M Z R U A B : Nat} {pw : Int} (h : SHB E M Z R U A B pw) : ∃ t, 0 < t ∧ R = cR E M Z pw * t ∧ U = cU E M Z pw * t ∧ A = cA E M Z pw * t ∧ B = cB E M Z pw * t := by
  obtain ⟨p0, -, -, hR, hA, hB, hU, -, -⟩ := h
  unfold cR cA cB cU
  rcases hU with ⟨h1, h2⟩ | ⟨h1, h2⟩
  · subst h1
    exact ⟨1, by decide, by rw [hR, Nat.mul_one], by rw [h2, Nat.mul_one], by rw [hA, Nat.mul_one], by rw [hB, Nat.mul_one]⟩
  · rcases Int.le_total 1 pw with h3 | h3
    · have e1 : (-p0).toNat = (-pw).toNat := by omega
      have e2 : pw.toNat = p0.toNat + 1 := by omega
      refine ⟨1, by decide, by rw [hR, e1, Nat.mul_one], ?_, by rw [hA, e1, Nat.mul_one], by rw [hB, e1, Nat.mul_one]⟩
      rw [h2, e2, Nat.pow_succ, Nat.mul_one, Nat.mul_assoc]
    · rcases (show pw = 1 ∨ pw ≤ 0 by omega) with h4 | h4
      · have e1 : (-p0).toNat = (-pw).toNat := by omega
        have e2 : pw.toNat = p0.toNat + 1 := by omega
        refine ⟨1, by decide, by rw [hR, e1, Nat.mul_one], ?_, by rw [hA, e1, Nat.mul_one], by rw [hB, e1, Nat.mul_one]⟩
        rw [h2, e2, Nat.pow_succ, Nat.mul_one, Nat.mul_assoc]
      · have e1 : (-p0).toNat = (-pw).toNat + 1 := by omega
        have e2 : pw.toNat = 0 := by omega
        have e3 : p0.toNat = 0 := by omega
        refine ⟨10, by decide, ?_, ?_, ?_, ?_⟩
        · rw [hR, e1, Nat.pow_succ, ← Nat.mul_assoc]
        · rw [h2, e2, e3]
        · rw [hA, e1, Nat.pow_succ, ← Nat.mul_assoc]
        · rw [hB, e1, Nat.pow_succ, ← Nat.mul_assoc]
theorem pw_le {E M Z : Nat} {a b : Int} (h1 : cR E M Z a < 10 * cU E M Z a) (h2 : cU E M Z b ≤ cR E M Z b) : b ≤ a := by
  refine Int.not_lt.mp fun hlt => ?_
  have hb := cU_p E M Z b
  have g1 : cR E M Z a * cU E M Z b < 10 * cU E M Z a * cR E M Z b := by
    have g2 : cR E M Z a * cU E M Z b < 10 * cU E M Z a * cU E M Z b := Nat.mul_lt_mul_of_pos_right h1 hb
    exact Nat.lt_of_lt_of_le g2 (Nat.mul_le_mul_left _ h2)
  have g3 : 10 * cU E M Z a * cR E M Z b ≤ cR E M Z a * cU E M Z b := by
    unfold cR cU
    have e : 10 * 10 ^ a.toNat * 10 ^ (-b).toNat ≤ 10 ^ (-a).toNat * 10 ^ b.toNat := by
      rw [← Nat.pow_succ', ← Nat.pow_add, ← Nat.pow_add]
      exact p10_le (by omega)
    calc 10 * (2 ^ (2 - pwr E M Z).toNat * 10 ^ a.toNat) * (sgf M Z * 4 * 2 ^ (pwr E M Z - 2).toNat * 10 ^ (-b).toNat)
        = 2 ^ (2 - pwr E M Z).toNat * (sgf M Z * 4 * 2 ^ (pwr E M Z - 2).toNat) * (10 * 10 ^ a.toNat * 10 ^ (-b).toNat) := by simp only [Nat.mul_comm, Nat.mul_left_comm, Nat.mul_assoc]
      _ ≤ 2 ^ (2 - pwr E M Z).toNat * (sgf M Z * 4 * 2 ^ (pwr E M Z - 2).toNat) * (10 ^ (-a).toNat * 10 ^ b.toNat) := Nat.mul_le_mul_left _ e
      _ = sgf M Z * 4 * 2 ^ (pwr E M Z - 2).toNat * 10 ^ (-a).toNat * (2 ^ (2 - pwr E M Z).toNat * 10 ^ b.toNat) := by simp only [Nat.mul_comm, Nat.mul_left_comm, Nat.mul_assoc]
  omega
theorem wB_mul {rm B t : Nat} {en : Prop} (ht : 0 < t) : wB (rm * t) (B * t) en ↔ wB rm B en := by
  unfold wB
  have h1 : rm * t < B * t ↔ rm < B := ⟨fun h => Nat.lt_of_mul_lt_mul_right h, fun h => Nat.mul_lt_mul_of_pos_right h ht⟩
  have h2 : rm * t = B * t ↔ rm = B := ⟨fun h => Nat.eq_of_mul_eq_mul_right ht h, fun h => by rw [h]⟩
  rw [h1, h2]
theorem wA_mul {rm A U t : Nat} {en : Prop} (ht : 0 < t) : wA (rm * t) (A * t) (U * t) en ↔ wA rm A U en := by
  unfold wA
  rw [← Nat.add_mul]
  have h1 : U * t < (rm + A) * t ↔ U < rm + A := ⟨fun h => Nat.lt_of_mul_lt_mul_right h, fun h => Nat.mul_lt_mul_of_pos_right h ht⟩
  have h2 : U * t = (rm + A) * t ↔ U = rm + A := ⟨fun h => Nat.eq_of_mul_eq_mul_right ht h, fun h => by rw [h]⟩
  rw [h1, h2]
theorem upC_mul {rm A B U t : Nat} {en : Prop} (ht : 0 < t) : upC (rm * t) (A * t) (B * t) (U * t) en ↔ upC rm A B U en := by
  unfold upC
  have h1 : U * t < 2 * (rm * t) ↔ U < 2 * rm := by
    rw [← Nat.mul_assoc]
    exact ⟨fun h => Nat.lt_of_mul_lt_mul_right h, fun h => Nat.mul_lt_mul_of_pos_right h ht⟩
  rw [wA_mul ht, wB_mul ht, h1]
theorem dm_uniq {R U n d rm d2 rm2 : Nat} (h : R * 10 ^ (n - 1) = d * U + rm) (hr : rm < U) (h2 : R * 10 ^ (n - 1) = d2 * U + rm2) (hr2 : rm2 < U) : d = d2 ∧ rm = rm2 := by
  have hU : 0 < U := by omega
  have e1 : (d * U + rm) / U = d := by rw [Nat.add_comm, Nat.add_mul_div_right _ _ hU, Nat.div_eq_of_lt hr, Nat.zero_add]
  have e2 : (d2 * U + rm2) / U = d2 := by rw [Nat.add_comm, Nat.add_mul_div_right _ _ hU, Nat.div_eq_of_lt hr2, Nat.zero_add]
  have e3 : d = d2 := by rw [← e1, ← e2, ← h, ← h2]
  subst e3
  exact ⟨rfl, by omega⟩
theorem NF_mul {R U A B t n : Nat} {en : Prop} (ht : 0 < t) (h : NF (R * t) (U * t) (A * t) (B * t) en n) : NF R U A B en n := by
  intro d rm h1 h2 h3
  refine h d (rm * t) ?_ (Nat.mul_lt_mul_of_pos_right h2 ht) ?_
  · rw [Nat.mul_right_comm, h1, Nat.add_mul, Nat.mul_assoc]
  · rw [Nat.mul_right_comm B, Nat.mul_right_comm A, wB_mul ht, wA_mul ht]
    exact h3
theorem FDN_mul {R U A B t n dg : Nat} {en : Prop} (ht : 0 < t) (h : FDN (R * t) (U * t) (A * t) (B * t) en n dg) : FDN R U A B en n dg := by
  obtain ⟨d, rm, h1, h2, h3, h4⟩ := h
  have hU : 0 < U := Nat.pos_of_ne_zero fun h0 => by rw [h0, Nat.zero_mul] at h2; omega
  have e1 : R * 10 ^ (n - 1) = R * 10 ^ (n - 1) / U * U + R * 10 ^ (n - 1) % U := by rw [Nat.mul_comm (_ / U)]; exact (Nat.div_add_mod _ _).symm
  have e2 := Nat.mod_lt (R * 10 ^ (n - 1)) hU
  generalize R * 10 ^ (n - 1) / U = d2 at *
  generalize R * 10 ^ (n - 1) % U = rm2 at *
  have e3 : R * t * 10 ^ (n - 1) = d2 * (U * t) + rm2 * t := by rw [Nat.mul_right_comm, e1, Nat.add_mul, Nat.mul_assoc]
  obtain ⟨f1, f2⟩ := dm_uniq h1 h2 e3 (Nat.mul_lt_mul_of_pos_right e2 ht)
  subst f1
  rw [f2, Nat.mul_right_comm B, Nat.mul_right_comm A, wB_mul ht, wA_mul ht] at h3
  rw [f2, Nat.mul_right_comm B, Nat.mul_right_comm A, upC_mul ht] at h4
  exact ⟨d, rm2, e1, e2, h3, h4⟩
theorem FDN_uniq {R U A B n a b : Nat} {en : Prop} (h : FDN R U A B en n a) (h' : FDN R U A B en n b) : a = b := by
  obtain ⟨d, rm, h1, h2, -, h4⟩ := h
  obtain ⟨d', rm', h1', h2', -, h4'⟩ := h'
  obtain ⟨f1, f2⟩ := dm_uniq h1 h2 h1' h2'
  subst f1; subst f2
  rcases h4 with ⟨a1, a2⟩ | ⟨a1, a2⟩ <;> rcases h4' with ⟨b1, b2⟩ | ⟨b1, b2⟩
  · omega
  · exact absurd a2 b2
  · exact absurd b2 a2
  · omega
theorem FDN_NF {R U A B n a : Nat} {en : Prop} (h : FDN R U A B en n a) (h' : NF R U A B en n) : False := by
  obtain ⟨d, rm, h1, h2, h3, -⟩ := h
  exact h' d rm h1 h2 h3
/-- the shortest, by the one choice of numbers -/
def SHC (E M Z n0 dz : Nat) (pz pw : Int) : Prop := cU E M Z pw ≤ cR E M Z pw ∧ cR E M Z pw < 10 * cU E M Z pw ∧ 1 ≤ n0 ∧ (∀ n1, 1 ≤ n1 → n1 < n0 → NF (cR E M Z pw) (cU E M Z pw) (cA E M Z pw) (cB E M Z pw) (Z % 2 = 0) n1) ∧ ∃ dv, FDN (cR E M Z pw) (cU E M Z pw) (cA E M Z pw) (cB E M Z pw) (Z % 2 = 0) n0 dv ∧ ((dv < 10 ^ n0 ∧ dz = dv ∧ pz = pw) ∨ (dv = 10 ^ n0 ∧ dz = 10 ^ (n0 - 1) ∧ pz = pw + 1))
theorem SHN_C {E M Z n0 dz : Nat} {pz : Int} (h : SHN E M Z n0 dz pz) : ∃ pw, SHC E M Z n0 dz pz pw := by
  obtain ⟨R, U, A, B, dv, pw, hS, -, h1, -, hN, hF, hd⟩ := h
  have hUR := hS
  obtain ⟨-, -, -, -, -, -, -, u1, u2⟩ := hUR
  obtain ⟨t, ht, rfl, rfl, rfl, rfl⟩ := SHB_canon hS
  refine ⟨pw, Nat.le_of_mul_le_mul_right u1 ht, ?_, h1, fun n1 a b => NF_mul ht (hN n1 a b), dv, FDN_mul ht hF, hd⟩
  rw [← Nat.mul_assoc] at u2
  exact Nat.lt_of_mul_lt_mul_right u2
theorem SHC_uniq {E M Z n0 dz n0' dz' : Nat} {pz pz' pw pw' : Int} (h : SHC E M Z n0 dz pz pw) (h' : SHC E M Z n0' dz' pz' pw') : n0 = n0' ∧ dz = dz' ∧ pz = pz' := by
  obtain ⟨a1, a2, a3, a4, dv, a5, a6⟩ := h
  obtain ⟨b1, b2, b3, b4, dv', b5, b6⟩ := h'
  have e : pw = pw' := Int.le_antisymm (pw_le b2 a1) (pw_le a2 b1)
  subst e
  have en : n0 = n0' := by
    rcases Nat.lt_trichotomy n0 n0' with h | h | h
    · exact absurd (b4 n0 a3 h) (FDN_NF a5)
    · exact h
    · exact absurd (a4 n0' b3 h) (FDN_NF b5)
  subst en
  have ed := FDN_uniq a5 b5
  subst ed
  rcases a6 with ⟨x1, x2, x3⟩ | ⟨x1, x2, x3⟩ <;> rcases b6 with ⟨y1, y2, y3⟩ | ⟨y1, y2, y3⟩
  · exact ⟨rfl, by omega, by omega⟩
  · omega
  · omega
  · exact ⟨rfl, by omega, by omega⟩
theorem nfW_tk (E M : Nat) (p : Int) : (nfW E M p).length ≤ 4 := by
  unfold nfW
  split
  · split <;> decide
  · decide
/-- what is told of a number, by the one choice -/
def SHM (E M : Nat) (p : Int) (w : List Nat) : Prop :=
  (iz E M ≤ szo E M p.toNat ∧ w = nfW E M p) ∨ (szo E M p.toNat < iz E M ∧ szo E M p.toNat = 0 ∧ w = tk (tk (sgW E M p ++ [48]) ++ expS 0)) ∨
  (szo E M p.toNat < iz E M ∧ 0 < szo E M p.toNat ∧ ∃ (n0 dz : Nat) (pz pw : Int), SHC E M (szo E M p.toNat) n0 dz pz pw ∧ w = tk (tk (sgW E M p ++ revS (dgt dz) ((n0 : Int) - 1) n0) ++ expS pz))
theorem SHW_M {E M : Nat} {p : Int} {w : List Nat} (h : SHW E M p w) : SHM E M p w := by
  rcases h with h | h | ⟨h1, h2, n0, dz, pz, h3, h4⟩
  · exact Or.inl h
  · exact Or.inr (Or.inl h)
  · obtain ⟨pw, h5⟩ := SHN_C h3
    exact Or.inr (Or.inr ⟨h1, h2, n0, dz, pz, pw, h5, h4⟩)
theorem SHM_uniq {E M : Nat} {p : Int} {w w' : List Nat} (h : SHM E M p w) (h' : SHM E M p w') : w = w' := by
  rcases h with ⟨a1, a2⟩ | ⟨a1, a2, a3⟩ | ⟨a1, a2, n0, dz, pz, pw, a3, a4⟩ <;> rcases h' with ⟨b1, b2⟩ | ⟨b1, b2, b3⟩ | ⟨b1, b2, n0', dz', pz', pw', b3, b4⟩
  · rw [a2, b2]
  · omega
  · omega
  · omega
  · rw [a3, b3]
  · omega
  · omega
  · omega
  · obtain ⟨e1, e2, e3⟩ := SHC_uniq a3 b3
    rw [a4, b4, e1, e2, e3]
/-! all the digits are one -/
theorem EXN_uniq {E M Z V bh cnt V' bh' cnt' : Nat} (h : EXN E M Z V bh cnt) (h' : EXN E M Z V' bh' cnt') : V = V' ∧ bh = bh' ∧ cnt = cnt' := by
  obtain ⟨c1, s1, p1, a1, a2, a3, a4, a5, a6, a7, a8, a9⟩ := h
  obtain ⟨c2, s2, p2, b1, b2, b3, b4, b5, b6, b7, b8, b9⟩ := h'
  have key : ∀ {c1 s1 c2 s2 : Nat} {p1 p2 : Int}, sgf M Z = c1 * 2 ^ s1 → p1 = pwr E M Z + s1 → (0 ≤ p1 ∨ c1 % 2 = 1) → sgf M Z = c2 * 2 ^ s2 → p2 = pwr E M Z + s2 → (s2 = 0 ∨ p2 ≤ 0) → s2 ≤ s1 := by
    intro c1 s1 c2 s2 p1 p2 a1 a2 a4 b1 b2 b3
    refine Nat.le_of_not_lt fun hlt => ?_
    have hp : p1 < 0 := by omega
    have hodd : c1 % 2 = 1 := a4.elim (fun h => by omega) id
    have e : c1 * 2 ^ s1 = c2 * 2 ^ (s2 - s1 - 1) * 2 * 2 ^ s1 := by
      rw [← a1, b1, Nat.mul_assoc, Nat.mul_assoc, ← Nat.pow_succ', ← Nat.pow_add]
      congr 2
      omega
    have e2 := Nat.eq_of_mul_eq_mul_right (pw_p s1) e
    omega
  have hs : s1 = s2 := Nat.le_antisymm (key b1 b2 b4 a1 a2 a3) (key a1 a2 a4 b1 b2 b3)
  subst hs
  have hc : c1 = c2 := Nat.eq_of_mul_eq_mul_right (pw_p s1) (a1.symm.trans b1)
  subst hc
  have hp : p1 = p2 := by omega
  subst hp
  have hV : V = V' ∧ bh = bh' := by
    rcases a5 with ⟨x1, x2, x3⟩ | ⟨x1, x2, x3⟩ <;> rcases b5 with ⟨y1, y2, y3⟩ | ⟨y1, y2, y3⟩
    · exact ⟨by rw [x2, y2], by omega⟩
    · omega
    · omega
    · exact ⟨by rw [x2, y2], by omega⟩
  obtain ⟨rfl, rfl⟩ := hV
  refine ⟨rfl, rfl, ?_⟩
  have k2 : ∀ {a b : Nat}, bh + 1 ≤ a → V < 10 ^ b → (a = bh + 1 ∨ 10 ^ (a - 1) ≤ V) → bh + 1 ≤ b → a ≤ b := by
    intro a b h1 h2 h3 h4
    rcases h3 with h3 | h3
    · omega
    · refine Nat.le_of_not_lt fun h5 => ?_
      have := p10_le (show b ≤ a - 1 by omega)
      omega
  exact Nat.le_antisymm (k2 a6 b8 a9 b6) (k2 b6 a8 b9 a6)
theorem EXW_uniq {E M : Nat} {p : Int} {w w' : List Nat} (h : EXW E M p w) (h' : EXW E M p w') : w = w' := by
  rcases h with ⟨a1, a2⟩ | ⟨a1, V, bh, cnt, a2, a3⟩ <;> rcases h' with ⟨b1, b2⟩ | ⟨b1, V', bh', cnt', b2, b3⟩
  · rw [a2, b2]
  · omega
  · omega
  · obtain ⟨e1, e2, e3⟩ := EXN_uniq a2 b2
    rw [a3, b3, e1, e2, e3]
theorem RDW_uniq {E M : Nat} {md : Int} {T : Nat → Nat} {n : Nat} {fl fl1 fl2 : Int32} {r r' : Int} (h : RDW E M md T n fl r fl1) (h' : RDW E M md T n fl r' fl2) : r = r' ∧ fl1 = fl2 := by
  obtain ⟨Z, ix, ty, h1, h2⟩ := h
  obtain ⟨Z', ix', ty', h1', h2'⟩ := h'
  have key : Z = Z' ∧ ix = ix' ∧ ty = ty' := by
    rcases h1 with ⟨a1, a2, a3, a4⟩ | ⟨a1, a2, a3, a4⟩ <;> rcases h1' with ⟨b1, b2, b3, b4⟩ | ⟨b1, b2, b3, b4⟩
    · exact ⟨by omega, by rw [a3, b3], by rw [a4, b4]⟩
    · omega
    · omega
    · obtain ⟨e1, e2, e3⟩ := RS_uniq (btX_p _) (btX_p _) rfl a4 b4
      have two : ∀ {x y : Int32}, (x = 0 ∨ x = 1) → (y = 0 ∨ y = 1) → (x = 1 ↔ y = 1) → x = y := by
        intro x y hx hy hxy
        rcases hx with rfl | rfl
        · rcases hy with rfl | rfl
          · rfl
          · exact absurd (hxy.mpr rfl) (by decide)
        · exact (hxy.mp rfl).symm
      exact ⟨e1, two a2 b2 e2, two a3 b3 e3⟩
  obtain ⟨rfl, rfl, rfl⟩ := key
  rcases h2 with ⟨a1, a2, a3⟩ | ⟨a1, a2, a3⟩ <;> rcases h2' with ⟨b1, b2, b3⟩ | ⟨b1, b2, b3⟩
  · exact ⟨by rw [a2, b2], by rw [a3, b3]⟩
  · omega
  · omega
  · refine ⟨?_, by rw [a2, b2]⟩
    rcases a3 with ⟨x1, x2⟩ | ⟨x1, x2⟩ <;> rcases b3 with ⟨y1, y2⟩ | ⟨y1, y2⟩
    · rw [x2, y2]
    · exact absurd x1 y1
    · exact absurd y1 x1
    · rw [x2, y2]
