/-! THE REFERENCE FINDS THE SHORTEST -/
theorem vw_s {E M Z s : Nat} (hE1 : 2 ≤ E) (hE2 : E ≤ 8) (hM : M ≤ 23) (h : SPV E M Z s) : 10 ^ 339 * vw E M Z = s * 2 ^ 200 := by
  have hp := pwr_lo (Z := Z) hE1 hE2 hM
  unfold SPV at h
  refine Nat.eq_of_mul_eq_mul_right (pw_p (-(pwr E M Z)).toNat) ?_
  unfold vw w2
  calc 10 ^ 339 * (sgf M Z * 2 ^ (pwr E M Z + 200).toNat) * 2 ^ (-(pwr E M Z)).toNat = sgf M Z * 10 ^ 339 * (2 ^ (pwr E M Z + 200).toNat * 2 ^ (-(pwr E M Z)).toNat) := by simp only [Nat.mul_comm, Nat.mul_left_comm, Nat.mul_assoc]
    _ = sgf M Z * 10 ^ 339 * (2 ^ (pwr E M Z).toNat * 2 ^ 200) := by
      rw [← Nat.pow_add, ← Nat.pow_add]
      congr 2
      omega
    _ = sgf M Z * 10 ^ 339 * 2 ^ (pwr E M Z).toNat * 2 ^ 200 := (Nat.mul_assoc _ _ _).symm
    _ = s * 2 ^ 200 * 2 ^ (-(pwr E M Z)).toNat := by rw [← h, Nat.mul_right_comm]
theorem RU_s {E M Z s : Nat} {pw : Int} (hpw : -339 ≤ pw) (h : SPV E M Z s) : cR E M Z pw * 10 ^ (339 + pw).toNat = s * cU E M Z pw := by
  unfold SPV at h
  refine Nat.eq_of_mul_eq_mul_right (pw_p (-(pwr E M Z)).toNat) ?_
  unfold cR cU
  have e2 : 4 * 2 ^ (pwr E M Z - 2).toNat * 2 ^ (-(pwr E M Z)).toNat = 2 ^ (pwr E M Z).toNat * 2 ^ (2 - pwr E M Z).toNat := by
    rw [show (4 : Nat) = 2 ^ 2 from rfl, ← Nat.pow_add, ← Nat.pow_add, ← Nat.pow_add]
    congr 1
    omega
  have e10 : 10 ^ (-pw).toNat * 10 ^ (339 + pw).toNat = 10 ^ 339 * 10 ^ pw.toNat := by
    rw [← Nat.pow_add, ← Nat.pow_add]
    congr 1
    omega
  calc sgf M Z * 4 * 2 ^ (pwr E M Z - 2).toNat * 10 ^ (-pw).toNat * 10 ^ (339 + pw).toNat * 2 ^ (-(pwr E M Z)).toNat
      = sgf M Z * (4 * 2 ^ (pwr E M Z - 2).toNat * 2 ^ (-(pwr E M Z)).toNat) * (10 ^ (-pw).toNat * 10 ^ (339 + pw).toNat) := by simp only [Nat.mul_comm, Nat.mul_left_comm, Nat.mul_assoc]
    _ = sgf M Z * (2 ^ (pwr E M Z).toNat * 2 ^ (2 - pwr E M Z).toNat) * (10 ^ 339 * 10 ^ pw.toNat) := by rw [e2, e10]
    _ = sgf M Z * 10 ^ 339 * 2 ^ (pwr E M Z).toNat * (2 ^ (2 - pwr E M Z).toNat * 10 ^ pw.toNat) := by simp only [Nat.mul_comm, Nat.mul_left_comm, Nat.mul_assoc]
    _ = s * (2 ^ (2 - pwr E M Z).toNat * 10 ^ pw.toNat) * 2 ^ (-(pwr E M Z)).toNat := by rw [← h, Nat.mul_right_comm]
theorem XU_s {E M Z x : Nat} {pw : Int} (hpw : -339 ≤ pw) (hp : -149 ≤ pwr E M Z) : x * 2 ^ (pwr E M Z - 2).toNat * 10 ^ (-pw).toNat * 10 ^ (339 + pw).toNat * (4 * 2 ^ 200) = cU E M Z pw * (10 ^ 339 * (x * w2 (pwr E M Z))) := by
  unfold cU w2
  have e2 : 2 ^ (pwr E M Z - 2).toNat * (4 * 2 ^ 200) = 2 ^ (2 - pwr E M Z).toNat * 2 ^ (pwr E M Z + 200).toNat := by
    rw [show (4 : Nat) = 2 ^ 2 from rfl, ← Nat.pow_add, ← Nat.pow_add, ← Nat.pow_add]
    congr 1
    omega
  have e10 : 10 ^ (-pw).toNat * 10 ^ (339 + pw).toNat = 10 ^ 339 * 10 ^ pw.toNat := by
    rw [← Nat.pow_add, ← Nat.pow_add]
    congr 1
    omega
  obtain ⟨Q, hQ⟩ : ∃ Q : Nat, Q = 4 * 2 ^ 200 := ⟨_, rfl⟩
  obtain ⟨D, hD⟩ : ∃ D : Nat, D = 10 ^ 339 := ⟨_, rfl⟩
  rw [← hQ] at e2 ⊢
  rw [← hD] at e10 ⊢
  calc x * 2 ^ (pwr E M Z - 2).toNat * 10 ^ (-pw).toNat * 10 ^ (339 + pw).toNat * Q
      = x * (2 ^ (pwr E M Z - 2).toNat * Q) * (10 ^ (-pw).toNat * 10 ^ (339 + pw).toNat) := by simp only [Nat.mul_comm, Nat.mul_left_comm, Nat.mul_assoc]
    _ = x * (2 ^ (2 - pwr E M Z).toNat * 2 ^ (pwr E M Z + 200).toNat) * (D * 10 ^ pw.toNat) := by rw [e2, e10]
    _ = 2 ^ (2 - pwr E M Z).toNat * 10 ^ pw.toNat * (D * (x * 2 ^ (pwr E M Z + 200).toNat)) := by simp only [Nat.mul_comm, Nat.mul_left_comm, Nat.mul_assoc]
/-- n digits, and what is left -/
theorem SH_d {E M Z s n d ro T : Nat} {pw : Int} (hpw : -339 ≤ pw) (h : SPV E M Z s) (hT : 10 ^ (n - 1) * T = 10 ^ (339 + pw).toNat) (hs : s = d * T + ro) (hro : ro < T) : ∃ rm, cR E M Z pw * 10 ^ (n - 1) = d * cU E M Z pw + rm ∧ rm < cU E M Z pw ∧ rm * T = ro * cU E M Z pw := by
  have h1 := RU_s hpw h
  have hU := cU_p E M Z pw
  have hTp : 0 < T := by omega
  rw [← hT, ← Nat.mul_assoc, hs, Nat.add_mul] at h1
  generalize cU E M Z pw = U at *
  generalize cR E M Z pw * 10 ^ (n - 1) = R at *
  have h2 : d * U ≤ R := by
    refine Nat.le_of_mul_le_mul_right ?_ hTp
    rw [Nat.mul_right_comm]
    omega
  obtain ⟨rm, hrm⟩ : ∃ rm, R = d * U + rm := ⟨R - d * U, by omega⟩
  have h3 : rm * T = ro * U := by
    rw [hrm, Nat.add_mul, Nat.mul_right_comm d U T] at h1
    omega
  refine ⟨rm, hrm, ?_, h3⟩
  refine Nat.lt_of_mul_lt_mul_right (a := T) ?_
  rw [h3, Nat.mul_comm U T]
  exact Nat.mul_lt_mul_of_pos_right hro hU
theorem cmp_mul {a b x y K L : Nat} (hK : 0 < K) (hL : 0 < L) (h1 : a * K = x * L) (h2 : b * K = y * L) : (a < b ↔ x < y) ∧ (a = b ↔ x = y) := by
  constructor
  · constructor
    · intro h
      have := Nat.mul_lt_mul_of_pos_right h hK
      rw [h1, h2] at this
      exact Nat.lt_of_mul_lt_mul_right this
    · intro h
      have := Nat.mul_lt_mul_of_pos_right h hL
      rw [← h1, ← h2] at this
      exact Nat.lt_of_mul_lt_mul_right this
  · constructor
    · intro h
      rw [h, h2] at h1
      exact (Nat.eq_of_mul_eq_mul_right hL h1).symm
    · intro h
      rw [h, ← h2] at h1
      exact Nat.eq_of_mul_eq_mul_right hK h1
/-- the decimal below comes back -/
theorem SH_less {E M Z Z' s n d ro rm T : Nat} {pw : Int} {ng ix ty : Prop} (hE1 : 2 ≤ E) (hE2 : E ≤ 8) (hM1 : 1 ≤ M) (hM : M ≤ 23) (hZ : 0 < Z) (hpw : -339 ≤ pw) (h : SPV E M Z s) (hT : 10 ^ (n - 1) * T = 10 ^ (339 + pw).toNat) (hs : s = d * T + ro) (hro : ro < T) (hrm : rm * T = ro * cU E M Z pw)
    (hR : RS (d * T) (10 ^ 339) E M 0 ng Z' ix ty) : Z' = Z ↔ wB rm (cB E M Z pw * 10 ^ (n - 1)) (Z % 2 = 0) := by
  have hV := vw_s hE1 hE2 hM h
  have hp := pwr_lo (Z := Z) hE1 hE2 hM
  have hX : d * T * 2 ^ 200 + ro * 2 ^ 200 = 10 ^ 339 * vw E M Z := by rw [hV, hs, Nat.add_mul]
  have hC := CB_dn hE1 hE2 hM1 hM (p10 339) hR hZ (by omega)
  rw [show 10 ^ 339 * vw E M Z - d * T * 2 ^ 200 = ro * 2 ^ 200 by omega] at hC
  have hW := w2_pred (E := E) hE1 hE2 hM hZ
  have hB := XU_s (x := rb0 M Z) hpw hp
  have hU := cU_p E M Z pw
  have c := cmp_mul (a := rm) (b := cB E M Z pw * 10 ^ (n - 1)) (x := 2 * (ro * 2 ^ 200)) (y := 10 ^ 339 * w2 (pwr E M (Z - 1))) (K := T * (4 * 2 ^ 200)) (L := 2 * cU E M Z pw) (Nat.mul_pos (by omega) (by decide)) (by omega)
    (by
      rw [← Nat.mul_assoc, hrm, show (4 : Nat) * 2 ^ 200 = 2 * 2 * 2 ^ 200 from rfl]
      generalize (2 : Nat) ^ 200 = Q
      simp only [Nat.mul_comm, Nat.mul_left_comm, Nat.mul_assoc])
    (by
      rw [← Nat.mul_assoc, Nat.mul_assoc _ _ T, hT]
      show cB E M Z pw * 10 ^ (339 + pw).toNat * (4 * 2 ^ 200) = _
      unfold cB
      rw [hB, ← hW]
      generalize (10 : Nat) ^ 339 = D
      simp only [Nat.mul_comm, Nat.mul_left_comm, Nat.mul_assoc])
  rw [hC]
  unfold wB
  rw [c.1, c.2]
theorem SH_more {E M Z Z' s n d ro rm T : Nat} {pw : Int} {ng ix ty : Prop} (hE1 : 2 ≤ E) (hE2 : E ≤ 8) (hM1 : 1 ≤ M) (hM : M ≤ 23) (hpw : -339 ≤ pw) (h : SPV E M Z s) (hT : 10 ^ (n - 1) * T = 10 ^ (339 + pw).toNat) (hs : s = d * T + ro) (hro : ro < T) (hrU : rm < cU E M Z pw) (hrm : rm * T = ro * cU E M Z pw)
    (hR : RS ((d + 1) * T) (10 ^ 339) E M 0 ng Z' ix ty) : Z' = Z ↔ wA rm (cA E M Z pw * 10 ^ (n - 1)) (cU E M Z pw) (Z % 2 = 0) := by
  have hV := vw_s hE1 hE2 hM h
  have hp := pwr_lo (Z := Z) hE1 hE2 hM
  have hX : (d + 1) * T * 2 ^ 200 = 10 ^ 339 * vw E M Z + (T - ro) * 2 ^ 200 := by
    rw [hV, hs, ← Nat.add_mul, Nat.add_mul d, Nat.one_mul]
    congr 1
    omega
  have hC := CB_up hE1 hE2 hM1 hM (p10 339) hR (Z0 := Z) (by omega)
  rw [show (d + 1) * T * 2 ^ 200 - 10 ^ 339 * vw E M Z = (T - ro) * 2 ^ 200 by omega] at hC
  have hA := XU_s (x := 2) hpw hp
  have hU := cU_p E M Z pw
  have hm : (cU E M Z pw - rm) * T = (T - ro) * cU E M Z pw := by
    rw [Nat.sub_mul, Nat.sub_mul, hrm, Nat.mul_comm T]
  have c := cmp_mul (a := cU E M Z pw - rm) (b := cA E M Z pw * 10 ^ (n - 1)) (x := 2 * ((T - ro) * 2 ^ 200)) (y := 10 ^ 339 * w2 (pwr E M Z)) (K := T * (4 * 2 ^ 200)) (L := 2 * cU E M Z pw) (Nat.mul_pos (by omega) (by decide)) (by omega)
    (by
      rw [← Nat.mul_assoc, hm, show (4 : Nat) * 2 ^ 200 = 2 * 2 * 2 ^ 200 from rfl]
      generalize (2 : Nat) ^ 200 = Q
      simp only [Nat.mul_comm, Nat.mul_left_comm, Nat.mul_assoc])
    (by
      rw [← Nat.mul_assoc, Nat.mul_assoc _ _ T, hT]
      show cA E M Z pw * 10 ^ (339 + pw).toNat * (4 * 2 ^ 200) = _
      unfold cA
      rw [hA]
      generalize (10 : Nat) ^ 339 = D
      simp only [Nat.mul_comm, Nat.mul_left_comm, Nat.mul_assoc])
  rw [hC, ← c.1, ← c.2]
  unfold wA
  generalize cA E M Z pw * 10 ^ (n - 1) = A at *
  generalize cU E M Z pw = U at *
  have q1 : U - rm < A ↔ U < rm + A := by omega
  have q2 : U - rm = A ↔ U = rm + A := by omega
  rw [q1, q2]
theorem SH_half {U rm ro T : Nat} (hU : 0 < U) (hT : 0 < T) (h : rm * T = ro * U) : U < 2 * rm ↔ T < 2 * ro := by
  have c := cmp_mul (a := U) (b := 2 * rm) (x := T) (y := 2 * ro) (K := T) (L := U) hT hU (Nat.mul_comm _ _) (by rw [Nat.mul_assoc, h, Nat.mul_assoc])
  exact c.1
/-- n digits that come back, and none of fewer -/
def NFc (E M Z : Nat) (pw : Int) (n : Nat) : Prop := NF (cR E M Z pw) (cU E M Z pw) (cA E M Z pw) (cB E M Z pw) (Z % 2 = 0) n
theorem BS_c {E M Z : Nat} {pw : Int} (hE1 : 2 ≤ E) (hE2 : E ≤ 8) (hM1 : 1 ≤ M) (hM2 : M ≤ 23) (hZ : 0 < Z) (hpw : pw ≤ 46) (h1 : cU E M Z pw ≤ cR E M Z pw) (h2 : cR E M Z pw < 10 * cU E M Z pw) : BS (cR E M Z pw) (cU E M Z pw) (cA E M Z pw) (cB E M Z pw) := by
  have hs := sgf_pos (M := M) hZ
  have hs2 := sgf_lt (M := M) (Z := Z) hM2
  have hrb : 1 ≤ rb0 M Z ∧ rb0 M Z ≤ 2 := by unfold rb0; split <;> omega
  have hp := pwr_lo (Z := Z) hE1 hE2 hM2
  have hX : 0 < 2 ^ (pwr E M Z - 2).toNat * 10 ^ (-pw).toNat := Nat.mul_pos (pw_p _) (p10 _)
  have hU2 : cU E M Z pw < 2 ^ 312 := by
    have g1 : 2 ^ (2 - pwr E M Z).toNat ≤ 2 ^ 151 := Nat.pow_le_pow_right (by decide) (by omega)
    have g2 : 10 ^ pw.toNat ≤ 10 ^ 46 := p10_le (by omega)
    exact Nat.lt_of_le_of_lt (Nat.mul_le_mul g1 g2) (by decide)
  refine ⟨cU_p _ _ _ _, hU2, h1, h2, ?_⟩
  have hR : cR E M Z pw = sgf M Z * 4 * (2 ^ (pwr E M Z - 2).toNat * 10 ^ (-pw).toNat) := Nat.mul_assoc _ _ _
  have hA : cA E M Z pw = 2 * (2 ^ (pwr E M Z - 2).toNat * 10 ^ (-pw).toNat) := Nat.mul_assoc _ _ _
  have hB : cB E M Z pw = rb0 M Z * (2 ^ (pwr E M Z - 2).toNat * 10 ^ (-pw).toNat) := Nat.mul_assoc _ _ _
  rw [hR, hA, hB]
  generalize 2 ^ (pwr E M Z - 2).toNat * 10 ^ (-pw).toNat = X at *
  have hR1 : 4 * X ≤ sgf M Z * 4 * X := Nat.mul_le_mul_right _ (by omega)
  have hR2 : sgf M Z * 4 * X ≤ 67108864 * X := Nat.mul_le_mul_right _ (by omega)
  have hB1 : X ≤ rb0 M Z * X := Nat.le_mul_of_pos_left _ (by omega)
  have hB2 : rb0 M Z * X ≤ 2 * X := Nat.mul_le_mul_right _ hrb.2
  exact ⟨by omega, by omega, by omega, Nat.le_trans hR2 (Nat.mul_le_mul_left _ hB1)⟩
theorem FD_end2 {R U A B : Nat} {en : Prop} (h : BS R U A B) (hn : NF R U A B en 17) : False := by
  obtain ⟨hU, -, h1, h2, -, -, hB, h3⟩ := h
  have hd := Nat.div_add_mod (R * 10 ^ 16) U
  have hm := Nat.mod_lt (R * 10 ^ 16) hU
  refine hn (R * 10 ^ 16 / U) (R * 10 ^ 16 % U) (by rw [Nat.mul_comm (_ / U)]; exact hd.symm) hm (Or.inl (Or.inl ?_))
  have h10 : (10 : Nat) ^ (17 - 1) = 10000000000000000 := by decide
  rw [h10]
  generalize R * 10 ^ 16 % U = rm at *
  omega
/-- where the digits of a number stand -/
theorem SPV_fin {E M Z s : Nat} (hE1 : 2 ≤ E) (hE2 : E ≤ 8) (hM1 : 1 ≤ M) (hM : M ≤ 23) (hZ : Z < iz E M) (h : SPV E M Z s) : s < 10 ^ (339 + 39) := by
  have hb := bsE_r hE1 hE2
  rcases Int.le_total (pwr E M Z) 0 with h1 | h1
  · exact Nat.lt_of_lt_of_le (SPV_lo hM h h1) (p10_le (by decide))
  · have hex : ex M Z < 2 ^ E - 1 := (Nat.div_lt_iff_lt_mul (pw_p M)).mpr hZ
    have hpw := pwr_b E M Z
    have hf := fz_lt M Z
    have hsg : sgf M Z < 2 * 2 ^ M := by
      unfold sgf
      split
      · rename_i h2
        have := ex_0 h2
        omega
      · omega
    have hle : (pwr E M Z).toNat + (M + 1) ≤ 128 := by omega
    unfold SPV at h
    rw [show (-(pwr E M Z)).toNat = 0 by omega, Nat.pow_zero, Nat.mul_one] at h
    rw [h, Nat.mul_right_comm, Nat.add_comm 339, ← p10_add]
    refine Nat.mul_lt_mul_of_pos_right ?_ (p10 339)
    have g1 : sgf M Z * 2 ^ (pwr E M Z).toNat < 2 * 2 ^ M * 2 ^ (pwr E M Z).toNat := Nat.mul_lt_mul_of_pos_right hsg (pw_p _)
    have g2 : 2 * 2 ^ M * 2 ^ (pwr E M Z).toNat ≤ 2 ^ 128 := by
      rw [← Nat.pow_succ', ← Nat.pow_add]
      exact Nat.pow_le_pow_right (by decide) (by omega)
    exact Nat.lt_of_lt_of_le g1 (Nat.le_trans g2 (by decide))
theorem SPV_min {E M Z s : Nat} (hE1 : 2 ≤ E) (hE2 : E ≤ 8) (hM : M ≤ 23) (hZ : 0 < Z) (h : SPV E M Z s) : 10 ^ 294 < s := by
  have hp := pwr_lo (Z := Z) hE1 hE2 hM
  have hs := sgf_pos (M := M) hZ
  unfold SPV at h
  have h1 : 10 ^ 339 ≤ sgf M Z * 10 ^ 339 * 2 ^ (pwr E M Z).toNat := by
    have g1 : 10 ^ 339 ≤ sgf M Z * 10 ^ 339 := Nat.le_mul_of_pos_left _ hs
    exact Nat.le_trans g1 (Nat.le_mul_of_pos_right _ (pw_p _))
  have h2 : s * 2 ^ (-(pwr E M Z)).toNat ≤ s * 2 ^ 149 := Nat.mul_le_mul_left _ (Nat.pow_le_pow_right (by decide) (by omega))
  refine Nat.lt_of_not_le fun h3 => ?_
  have h4 : s * 2 ^ 149 ≤ 10 ^ 294 * 2 ^ 149 := Nat.mul_le_mul_right _ h3
  have h5 : 10 ^ 294 * 2 ^ 149 < 10 ^ 294 * 10 ^ 45 := Nat.mul_lt_mul_of_pos_left (by decide) (p10 294)
  rw [p10_add] at h5
  have : (10 : Nat) ^ (294 + 45) = 10 ^ 339 := rfl
  omega
/-! THE REFERENCE'S DIGITS -/
def WHp (wh : Nat → Int32) (q1 q2 : Nat) : Prop := (∀ j, j < 400 → 0 ≤ (wh j).toInt ∧ (wh j).toInt ≤ 9) ∧ (∀ j, j < q1 → (wh j).toInt = 0) ∧ ¬ (wh q1).toInt = 0 ∧ q1 ≤ q2 ∧ q2 < 400 ∧ ¬ (wh q2).toInt = 0 ∧ (∀ j, q2 < j → j < 400 → (wh j).toInt = 0)
theorem WHp_9 {wh : Nat → Int32} {q1 q2 : Nat} (h : WHp wh q1 q2) {k : Nat} (hk : k < 400) : rdg wh k ≤ 9 := by
  have := h.1 k hk
  unfold rdg
  omega
theorem WH_s {wh : Nat → Int32} {q1 q2 m : Nat} (h : WHp wh q1 q2) (hm : m ≤ 400) : sv wh 400 = pv wh m * 10 ^ (400 - m) + sv wh (400 - m) ∧ sv wh (400 - m) < 10 ^ (400 - m) := by
  refine ⟨?_, sv_lt (by omega) (fun k _ b => WHp_9 h b)⟩
  rw [← pv_400, pv_sv wh (400 - m) (by omega), show 400 - (400 - m) = m by omega]
theorem WH_pv {wh : Nat → Int32} {q1 q2 n : Nat} (h : WHp wh q1 q2) (hn : 1 ≤ n) (hq : q1 + n ≤ 400) : 10 ^ (n - 1) ≤ pv wh (q1 + n) ∧ pv wh (q1 + n) < 10 ^ n := by
  have h1 := pv_lt h.2.1 (n := q1 + n) (by omega) (fun i hi => WHp_9 h (by omega))
  rw [show q1 + n - q1 = n by omega] at h1
  have h2 := pv_dn (g := wh) (z := q1) (n := q1 + n) (by omega) ⟨(h.1 q1 (by omega)).1, h.2.2.1⟩
  rw [show q1 + n - 1 - q1 = n - 1 by omega] at h2
  exact ⟨h2, h1⟩
theorem WH_sv {wh : Nat → Int32} {q1 q2 : Nat} (h : WHp wh q1 q2) : 10 ^ (399 - q1) ≤ sv wh 400 ∧ sv wh 400 < 10 ^ (400 - q1) := by
  have h4 := h.2.2.2.2.1
  have h3 := h.2.2.2.1
  have h1 := pv_lt h.2.1 (n := 400) (by omega) (fun i hi => WHp_9 h hi)
  have h2 := pv_dn (g := wh) (z := q1) (n := 400) (by omega) ⟨(h.1 q1 (by omega)).1, h.2.2.1⟩
  rw [pv_400] at h1 h2
  rw [show 400 - 1 - q1 = 399 - q1 by omega] at h2
  exact ⟨h2, h1⟩
theorem p10_lt_inv {a b : Nat} (h : 10 ^ a < 10 ^ b) : a < b := by
  refine Nat.lt_of_not_le fun h1 => ?_
  have := p10_le h1
  omega
theorem WH_q {wh : Nat → Int32} {q1 q2 E M Z : Nat} (hE1 : 2 ≤ E) (hE2 : E ≤ 8) (hM1 : 1 ≤ M) (hM : M ≤ 23) (hZ : Z < iz E M) (hZ0 : 0 < Z) (h : WHp wh q1 q2) (hv : SPV E M Z (sv wh 400)) : 22 ≤ q1 ∧ q1 ≤ 105 := by
  obtain ⟨h1, h2⟩ := WH_sv h
  have h3 := p10_lt_inv (Nat.lt_of_le_of_lt h1 (SPV_fin hE1 hE2 hM1 hM hZ hv))
  have h4 := p10_lt_inv (Nat.lt_trans (SPV_min hE1 hE2 hM hZ0 hv) h2)
  omega
theorem WH_c {wh : Nat → Int32} {q1 q2 E M Z : Nat} (h : WHp wh q1 q2) (hv : SPV E M Z (sv wh 400)) : cU E M Z (60 - (q1 : Int)) ≤ cR E M Z (60 - (q1 : Int)) ∧ cR E M Z (60 - (q1 : Int)) < 10 * cU E M Z (60 - (q1 : Int)) := by
  have h4 := h.2.2.2.2.1
  have h3 := h.2.2.2.1
  obtain ⟨h1, h2⟩ := WH_sv h
  have hr := RU_s (pw := 60 - (q1 : Int)) (by omega) hv
  rw [show (339 + (60 - (q1 : Int))).toNat = 399 - q1 by omega] at hr
  have hU := cU_p E M Z (60 - (q1 : Int))
  have hp := p10 (399 - q1)
  rw [show 400 - q1 = 399 - q1 + 1 by omega, Nat.pow_succ] at h2
  generalize 10 ^ (399 - q1) = T at *
  generalize cU E M Z (60 - (q1 : Int)) = U at *
  generalize cR E M Z (60 - (q1 : Int)) = R at *
  generalize sv wh 400 = s at *
  constructor
  · refine Nat.le_of_mul_le_mul_right ?_ hp
    rw [hr, Nat.mul_comm U]
    exact Nat.mul_le_mul_right _ h1
  · refine Nat.lt_of_mul_lt_mul_right (a := T) ?_
    rw [hr]
    calc s * U < T * 10 * U := Nat.mul_lt_mul_of_pos_right h2 hU
      _ = 10 * U * T := by simp only [Nat.mul_comm, Nat.mul_left_comm, Nat.mul_assoc]
/-- one length tried -/
theorem SH_try {wh : Nat → Int32} {q1 q2 E M Z n Z1 Z2 : Nat} {ng ix1 ty1 ix2 ty2 : Prop} (hE1 : 2 ≤ E) (hE2 : E ≤ 8) (hM1 : 1 ≤ M) (hM : M ≤ 23) (hZ0 : 0 < Z) (h : WHp wh q1 q2) (hv : SPV E M Z (sv wh 400)) (hn : 1 ≤ n) (hq : q1 + n ≤ 400)
    (h1 : RS (pv wh (q1 + n) * 10 ^ (400 - (q1 + n))) (10 ^ 339) E M 0 ng Z1 ix1 ty1) (h2 : RS ((pv wh (q1 + n) + 1) * 10 ^ (400 - (q1 + n))) (10 ^ 339) E M 0 ng Z2 ix2 ty2) :
    (¬ Z1 = Z → ¬ Z2 = Z → NFc E M Z (60 - (q1 : Int)) n) ∧
    (Z1 = Z → (¬ Z2 = Z ∨ ¬ 10 ^ (400 - (q1 + n)) < 2 * sv wh (400 - (q1 + n))) → FDN (cR E M Z (60 - (q1 : Int))) (cU E M Z (60 - (q1 : Int))) (cA E M Z (60 - (q1 : Int))) (cB E M Z (60 - (q1 : Int))) (Z % 2 = 0) n (pv wh (q1 + n))) ∧
    (Z2 = Z → (¬ Z1 = Z ∨ 10 ^ (400 - (q1 + n)) < 2 * sv wh (400 - (q1 + n))) → FDN (cR E M Z (60 - (q1 : Int))) (cU E M Z (60 - (q1 : Int))) (cA E M Z (60 - (q1 : Int))) (cB E M Z (60 - (q1 : Int))) (Z % 2 = 0) n (pv wh (q1 + n) + 1)) := by
  obtain ⟨hs, hro⟩ := WH_s h hq
  have hT : 10 ^ (n - 1) * 10 ^ (400 - (q1 + n)) = 10 ^ (339 + (60 - (q1 : Int))).toNat := by
    rw [p10_add, show (339 + (60 - (q1 : Int))).toNat = n - 1 + (400 - (q1 + n)) by omega]
  have hpw : -339 ≤ 60 - (q1 : Int) := by omega
  obtain ⟨rm, e1, e2, e3⟩ := SH_d hpw hv hT hs hro
  have hl := SH_less hE1 hE2 hM1 hM hZ0 hpw hv hT hs hro e3 h1
  have hm := SH_more hE1 hE2 hM1 hM hpw hv hT hs hro e2 e3 h2
  have hh := SH_half (cU_p E M Z (60 - (q1 : Int))) (by omega) e3
  rw [hl, hm, ← hh]
  refine ⟨fun a b => NF_of e1 e2 (fun hc => hc.elim a b), fun a b => ⟨_, rm, e1, e2, Or.inl a, Or.inr ⟨rfl, fun hu => ?_⟩⟩, fun a b => ⟨_, rm, e1, e2, Or.inr a, Or.inl ⟨rfl, a, b⟩⟩⟩
  rcases b with b | b
  · exact b hu.1
  · exact hu.2.elim (fun hc => hc a) b
theorem NF_last {R U A B n dg : Nat} {en : Prop} (hn : 1 < n) (h : NF R U A B en (n - 1)) (hF : FDN R U A B en n dg) : ¬ dg % 10 = 0 := by
  obtain ⟨d, rm, h1, h2, h3, h4⟩ := hF
  intro h0
  have e : 10 ^ (n - 1) = 10 ^ (n - 1 - 1) * 10 := by rw [← Nat.pow_succ, Nat.succ_eq_add_one, show n - 1 - 1 + 1 = n - 1 by omega]
  rw [e, ← Nat.mul_assoc] at h1 h3 h4
  rw [← Nat.mul_assoc] at h3 h4
  unfold NF at h
  have hU : 0 < U := by omega
  generalize R * 10 ^ (n - 1 - 1) = R' at *
  generalize A * 10 ^ (n - 1 - 1) = A' at *
  generalize B * 10 ^ (n - 1 - 1) = B' at *
  rcases h4 with ⟨g1, g2⟩ | ⟨g1, g2⟩
  · obtain ⟨q, hq⟩ : ∃ q, d = 10 * q + 9 := ⟨d / 10, by omega⟩
    have f1 : R' * 10 = 10 * (q * U) + 9 * U + rm := by rw [h1, hq, Nat.add_mul, Nat.mul_assoc]
    obtain ⟨r2, hr2⟩ : ∃ r2, R' = q * U + r2 := ⟨R' - q * U, by omega⟩
    refine h q r2 hr2 (by omega) (Or.inr ?_)
    have hA := g2.1
    unfold wA at hA ⊢
    rcases hA with hA | ⟨hA, hA2⟩
    · left; omega
    · right; exact ⟨by omega, hA2⟩
  · have hB : wB rm (B' * 10) en := by
      rcases h3 with h3 | h3
      · exact h3
      · exact Classical.byContradiction fun hc => g2 ⟨h3, Or.inl hc⟩
    obtain ⟨q, hq⟩ : ∃ q, d = 10 * q := ⟨d / 10, by omega⟩
    have f1 : R' * 10 = 10 * (q * U) + rm := by rw [h1, hq, Nat.mul_assoc]
    obtain ⟨r2, hr2⟩ : ∃ r2, R' = q * U + r2 := ⟨R' - q * U, by omega⟩
    refine h q r2 hr2 (by omega) (Or.inl ?_)
    unfold wB at hB ⊢
    rcases hB with hB | ⟨hB, hB2⟩
    · left; omega
    · right; exact ⟨by omega, hB2⟩
def CUTp (fw k : Nat → Int32) (q1 nn : Nat) (y : Int32) (tv : Int) : Prop := (∀ j, j < nn → 0 ≤ (k j).toInt ∧ (k j).toInt ≤ 9) ∧ 1 ≤ (k 0).toInt ∧ ((y = 0 ∧ pv k nn = pv fw (q1 + nn) ∧ tv = 60 - (q1 : Int)) ∨ (¬ y = 0 ∧ pv k nn = pv fw (q1 + nn) + 1 ∧ tv = 60 - (q1 : Int)) ∨ (¬ y = 0 ∧ pv fw (q1 + nn) + 1 = 10 ^ nn ∧ pv k nn = 10 ^ (nn - 1) ∧ tv = 61 - (q1 : Int)))
theorem CUT_v {fw k : Nat → Int32} {q1 nn : Nat} {y : Int32} {tv : Int} (hn : 1 ≤ nn) (hn9 : nn ≤ 99) (hq : q1 ≤ 105) (h : CUTp fw k q1 nn y tv) : ∃ tz : Nat, tv = (tz : Int) - 70 ∧ (tz + q1 = 130 ∨ tz + q1 = 131) ∧ ((y = 0 ∧ pv k nn * 10 ^ (270 + tz - nn) = pv fw (q1 + nn) * 10 ^ (400 - (q1 + nn))) ∨ (¬ y = 0 ∧ pv k nn * 10 ^ (270 + tz - nn) = (pv fw (q1 + nn) + 1) * 10 ^ (400 - (q1 + nn)))) := by
  rcases h.2.2 with ⟨a, b, c⟩ | ⟨a, b, c⟩ | ⟨a, b, c, d⟩
  · exact ⟨130 - q1, by omega, by omega, Or.inl ⟨a, by rw [b, show 270 + (130 - q1) - nn = 400 - (q1 + nn) by omega]⟩⟩
  · exact ⟨130 - q1, by omega, by omega, Or.inr ⟨a, by rw [b, show 270 + (130 - q1) - nn = 400 - (q1 + nn) by omega]⟩⟩
  · refine ⟨131 - q1, by omega, by omega, Or.inr ⟨a, ?_⟩⟩
    rw [b, c, p10_add, p10_add, show nn - 1 + (270 + (131 - q1) - nn) = nn + (400 - (q1 + nn)) by omega]
theorem pv_mod {k : Nat → Int32} {nn : Nat} (hn : 1 ≤ nn) (h9 : rdg k (nn - 1) ≤ 9) : pv k nn % 10 = rdg k (nn - 1) := by
  obtain ⟨m, rfl⟩ : ∃ m, nn = m + 1 := ⟨nn - 1, by omega⟩
  show (pv k m * 10 + rdg k m) % 10 = rdg k (m + 1 - 1)
  rw [show m + 1 - 1 = m by omega] at h9 ⊢
  omega
/-- digits found: down -/
theorem SH_dn {fw k : Nat → Int32} {q1 q2 nn E M Z : Nat} {y : Int32} {tv : Int} (hn : 1 ≤ nn) (hq : q1 + nn ≤ 400) (hW : WHp fw q1 q2) (hv : SPV E M Z (sv fw 400)) (hN : ∀ n1, 1 ≤ n1 → n1 < nn → NFc E M Z (60 - (q1 : Int)) n1) (hy : y = 0) (hC : CUTp fw k q1 nn y tv)
    (hF : FDN (cR E M Z (60 - (q1 : Int))) (cU E M Z (60 - (q1 : Int))) (cA E M Z (60 - (q1 : Int))) (cB E M Z (60 - (q1 : Int))) (Z % 2 = 0) nn (pv fw (q1 + nn))) : SHC E M Z nn (pv k nn) tv (60 - (q1 : Int)) ∧ (nn = 1 ∨ ¬ (k (nn - 1)).toInt = 0) := by
  obtain ⟨u1, u2⟩ := WH_c hW hv
  have hp := WH_pv hW hn hq
  rcases hC.2.2 with ⟨-, b, c⟩ | ⟨a, -⟩ | ⟨a, -⟩
  · refine ⟨⟨u1, u2, hn, hN, _, hF, Or.inl ⟨hp.2, b, c⟩⟩, ?_⟩
    rcases (show nn = 1 ∨ 1 < nn by omega) with h1 | h1
    · exact Or.inl h1
    · right
      intro h0
      refine NF_last h1 (hN (nn - 1) (by omega) (by omega)) hF ?_
      rw [← b, pv_mod hn (by rw [rdg_0 h0]; omega), rdg_0 h0]
  · exact absurd hy a
  · exact absurd hy a
theorem SH_up {fw k : Nat → Int32} {q1 q2 nn E M Z : Nat} {y : Int32} {tv : Int} (hn : 1 ≤ nn) (hq : q1 + nn ≤ 400) (hW : WHp fw q1 q2) (hv : SPV E M Z (sv fw 400)) (hN : ∀ n1, 1 ≤ n1 → n1 < nn → NFc E M Z (60 - (q1 : Int)) n1) (hy : ¬ y = 0) (hC : CUTp fw k q1 nn y tv)
    (hF : FDN (cR E M Z (60 - (q1 : Int))) (cU E M Z (60 - (q1 : Int))) (cA E M Z (60 - (q1 : Int))) (cB E M Z (60 - (q1 : Int))) (Z % 2 = 0) nn (pv fw (q1 + nn) + 1)) : SHC E M Z nn (pv k nn) tv (60 - (q1 : Int)) ∧ (nn = 1 ∨ ¬ (k (nn - 1)).toInt = 0) := by
  obtain ⟨u1, u2⟩ := WH_c hW hv
  have hk := hC.1
  have hlt : pv k nn < 10 ^ nn := by
    have := pv_lt (k := k) (n3 := 0) (fun j hj => by omega) (n := nn) (by omega) (fun i hi => by have := hk i hi; unfold rdg; omega)
    exact this
  rcases hC.2.2 with ⟨a, -⟩ | ⟨-, b, c⟩ | ⟨-, b, c, d⟩
  · exact absurd a hy
  · refine ⟨⟨u1, u2, hn, hN, _, hF, Or.inl ⟨by omega, b, c⟩⟩, ?_⟩
    rcases (show nn = 1 ∨ 1 < nn by omega) with h1 | h1
    · exact Or.inl h1
    · right
      intro h0
      refine NF_last h1 (hN (nn - 1) (by omega) (by omega)) hF ?_
      rw [← b, pv_mod hn (by rw [rdg_0 h0]; omega), rdg_0 h0]
  · refine ⟨⟨u1, u2, hn, hN, _, hF, Or.inr ⟨b, c, by omega⟩⟩, ?_⟩
    rcases (show nn = 1 ∨ 1 < nn by omega) with h1 | h1
    · exact Or.inl h1
    · exfalso
      refine NF_last h1 (hN (nn - 1) (by omega) (by omega)) hF ?_
      rw [b, show nn = nn - 1 + 1 by omega, Nat.pow_succ]
      omega
/-! what is said of digits -/
def SAYd (t : Nat → Int32) (nn : Nat) : List Nat := dl t 0 1 ++ (if nn = 1 then [] else [46] ++ dl t 1 (nn - 1))
theorem SAY_rev {t : Nat → Int32} {nn : Nat} (hn : 1 ≤ nn) (hn9 : nn ≤ 99) (h9 : ∀ j, j < nn → 0 ≤ (t j).toInt ∧ (t j).toInt ≤ 9) : SAYd t nn = revS (dgt (pv t nn)) ((nn : Int) - 1) nn := by
  have hd : ∀ j, j < nn → dgt (pv t nn) j = 48 + rdg t (nn - 1 - j) := fun j hj => by
    unfold dgt
    rw [rdg_pv (by omega) (fun i hi => by have := h9 i hi; unfold rdg; omega) hj]
  unfold SAYd
  rcases (show nn = 1 ∨ 1 < nn by omega) with h1 | h1
  · subst h1
    rw [if_pos rfl, List.append_nil, rev_dl (k := t) (n4 := 0) (n := 1) (by omega) (fun j hj => by rw [hd j hj]) (by omega)]
  · rw [if_neg (by omega)]
    have := rev_pt (k := t) (G := dgt (pv t nn)) (bh := nn - 1) (n4 := nn - 1) (c := 0) (by omega) (by omega) (fun j hj => hd j (by omega))
    rw [show nn - 1 + 1 + 0 = nn by omega, show nn - 1 - (nn - 1) - 0 = 0 by omega, show nn - (nn - 1) = 1 by omega, show ((nn - 1 : Nat) : Int) = (nn : Int) - 1 by omega] at this
    exact this.symm
theorem exp_p (x : Nat) : expS (x : Int) = 101 :: (if 10 ≤ x then [48 + x / 10, 48 + x % 10] else [48 + x]) := by
  unfold expS
  rw [if_neg (by omega), Int.natAbs_natCast]
  rfl
theorem exp_n {x : Nat} (h : 0 < x) : expS (-(x : Int)) = 101 :: 45 :: (if 10 ≤ x then [48 + x / 10, 48 + x % 10] else [48 + x]) := by
  unfold expS
  rw [if_pos (by omega), Int.natAbs_neg, Int.natAbs_natCast]
  rfl
theorem say_p1 {W : List Nat} {x : Nat} (h : x ≤ 9) : W ++ [101] ++ [48 + x % 10] = W ++ expS (x : Int) := by
  rw [exp_p, if_neg (by omega), Nat.mod_eq_of_lt (by omega), List.append_assoc]; rfl
theorem say_p2 {W : List Nat} {x : Nat} (h : ¬ x ≤ 9) : W ++ [101] ++ [48 + x / 10] ++ [48 + x % 10] = W ++ expS (x : Int) := by
  rw [exp_p, if_pos (by omega), List.append_assoc, List.append_assoc]; rfl
theorem say_n1 {W : List Nat} {x : Nat} (h0 : 0 < x) (h : x ≤ 9) : W ++ [101] ++ [45] ++ [48 + x % 10] = W ++ expS (-(x : Int)) := by
  rw [exp_n h0, if_neg (by omega), Nat.mod_eq_of_lt (by omega), List.append_assoc, List.append_assoc]; rfl
theorem say_n2 {W : List Nat} {x : Nat} (h0 : 0 < x) (h : ¬ x ≤ 9) : W ++ [101] ++ [45] ++ [48 + x / 10] ++ [48 + x % 10] = W ++ expS (-(x : Int)) := by
  rw [exp_n h0, if_pos (by omega), List.append_assoc, List.append_assoc, List.append_assoc]; rfl
theorem SAY_w {t : Nat → Int32} {nn : Nat} {w wq : List Nat} (hn : 1 ≤ nn) (h : (nn = 1 ∧ wq = w ++ dl t 0 1) ∨ (1 < nn ∧ wq = w ++ dl t 0 1 ++ [46])) : wq ++ dl t 1 (nn - 1) = w ++ SAYd t nn := by
  unfold SAYd
  rcases h with ⟨a, b⟩ | ⟨a, b⟩
  · subst a
    rw [b, if_pos rfl, List.append_nil]
    exact List.append_nil _
  · rw [b, if_neg (by omega)]
    simp only [List.append_assoc]
/-! cutting -/
theorem pv_shift {k fw : Nat → Int32} {q1 : Nat} (h0 : ∀ j, j < q1 → (fw j).toInt = 0) : ∀ {m : Nat}, (∀ j, j < m → k j = fw (q1 + j)) → pv k m = pv fw (q1 + m)
  | 0, _ => (pv_zero (fun j hj => rdg_0 (h0 j hj))).symm
  | m + 1, h => by
    show pv k m * 10 + rdg k m = pv fw (q1 + m) * 10 + rdg fw (q1 + m)
    rw [pv_shift h0 (fun j hj => h j (by omega))]
    unfold rdg
    rw [h m (by omega)]
theorem pv_nines {g : Nat → Int32} {a : Nat} : ∀ {b : Nat}, (∀ j, a ≤ j → j < a + b → rdg g j = 9) → pv g (a + b) + 1 = (pv g a + 1) * 10 ^ b
  | 0, _ => by show pv g a + 1 = (pv g a + 1) * 10 ^ 0; rw [Nat.pow_zero, Nat.mul_one]
  | b + 1, h => by
    have h1 := pv_nines (g := g) (a := a) (b := b) (fun j h1 h2 => h j h1 (by omega))
    show pv g (a + b) * 10 + rdg g (a + b) + 1 = (pv g a + 1) * 10 ^ (b + 1)
    rw [h (a + b) (by omega) (by omega), Nat.pow_succ, ← Nat.mul_assoc, ← h1]
    omega
theorem pv_zeros {g : Nat → Int32} {a : Nat} : ∀ {b : Nat}, (∀ j, a ≤ j → j < a + b → rdg g j = 0) → pv g (a + b) = pv g a * 10 ^ b
  | 0, _ => by rw [Nat.add_zero, Nat.pow_zero, Nat.mul_one]
  | b + 1, h => by
    have h1 := pv_zeros (g := g) (a := a) (b := b) (fun j h1 h2 => h j h1 (by omega))
    show pv g (a + b) * 10 + rdg g (a + b) = pv g a * 10 ^ (b + 1)
    rw [h (a + b) (by omega) (by omega), Nat.pow_succ, ← Nat.mul_assoc, ← h1]
    omega
/-- no more: the digits as they stand -/
theorem CUT_0 {fw k : Nat → Int32} {q1 q2 nn : Nat} {tv : Int} (hW : WHp fw q1 q2) (hn : 1 ≤ nn) (hq : q1 + nn ≤ 400) (hk : ∀ j, j < nn → k j = fw (q1 + j)) (ht : tv = 60 - (q1 : Int)) : CUTp fw k q1 nn 0 tv := by
  refine ⟨fun j hj => by rw [hk j hj]; exact hW.1 _ (by omega), ?_, Or.inl ⟨rfl, pv_shift hW.2.1 hk, ht⟩⟩
  rw [hk 0 (by omega), Nat.add_zero]
  have h1 := hW.1 q1 (by omega)
  have h2 := hW.2.2.1
  omega
theorem CUT_9 {fw k : Nat → Int32} {q1 q2 nn : Nat} {y : Int32} {tv : Int} (hW : WHp fw q1 q2) (hn : 1 ≤ nn) (hq : q1 + nn ≤ 400) (hy : ¬ y = 0) (hk : ∀ j, j < nn → (k j).toInt = 0 ∧ (fw (q1 + j)).toInt = 9) (ht : tv = 61 - (q1 : Int)) : CUTp fw (upd k 0 1) q1 nn y tv := by
  refine ⟨fun j hj => ?_, by rw [pk_us]; decide, Or.inr (Or.inr ⟨hy, ?_, ?_, ht⟩)⟩
  · rcases Nat.decEq j 0 with h | h
    · rw [pk_un h, (hk j hj).1]; decide
    · rw [h, pk_us]; decide
  · rw [pv_nines (g := fw) (a := q1) (b := nn) (fun j h1 h2 => by unfold rdg; have := (hk (j - q1) (by omega)).2; rw [show q1 + (j - q1) = j by omega] at this; rw [this]; rfl), pv_zero (fun j hj => rdg_0 (hW.2.1 j hj))]
    omega
  · have h1 := pv_zeros (g := upd k 0 1) (a := 1) (b := nn - 1) (fun j h1 h2 => by rw [rdg_un (by omega)]; exact rdg_0 (hk j (by omega)).1)
    rw [show 1 + (nn - 1) = nn by omega] at h1
    rw [h1]
    show (0 * 10 + rdg (upd k 0 1) 0) * 10 ^ (nn - 1) = _
    rw [rdg_upd (d := 1) (by decide)]
    omega
theorem CUT_1 {fw k : Nat → Int32} {q1 q2 nn j9 : Nat} {y v : Int32} {tv : Int} (hW : WHp fw q1 q2) (hq : q1 + nn ≤ 400) (hy : ¬ y = 0) (hj : 1 ≤ j9) (hjn : j9 ≤ nn) (hk : ∀ j, j < j9 → k j = fw (q1 + j)) (hk2 : ∀ j, j9 ≤ j → j < nn → (k j).toInt = 0 ∧ (fw (q1 + j)).toInt = 9) (h9 : ¬ (fw (q1 + (j9 - 1))).toInt = 9) (hv : v.toInt = (fw (q1 + (j9 - 1))).toInt + 1) (ht : tv = 60 - (q1 : Int)) : CUTp fw (upd k (j9 - 1) v) q1 nn y tv := by
  have hd := hW.1 (q1 + (j9 - 1)) (by omega)
  have hvd : v.toInt = ((rdg fw (q1 + (j9 - 1)) + 1 : Nat) : Int) := by
    rw [hv]; unfold rdg; omega
  refine ⟨fun j hj => ?_, ?_, Or.inr (Or.inl ⟨hy, ?_, ht⟩)⟩
  · rcases Nat.decEq j (j9 - 1) with h | h
    · rw [pk_un h]
      rcases Nat.lt_or_ge j j9 with h1 | h1
      · rw [hk j h1]; exact hW.1 _ (by omega)
      · rw [(hk2 j h1 hj).1]; decide
    · rw [h, pk_us, hv]; omega
  · rcases Nat.decEq 0 (j9 - 1) with h | h
    · rw [pk_un h, hk 0 (by omega), Nat.add_zero]
      have h1 := hW.1 q1 (by omega)
      have h2 := hW.2.2.1
      omega
    · rw [h, pk_us, hv]; omega
  · have e1 := pv_zeros (g := upd k (j9 - 1) v) (a := j9) (b := nn - j9) (fun j h1 h2 => by rw [rdg_un (by omega)]; exact rdg_0 (hk2 j h1 (by omega)).1)
    have e2 := pv_nines (g := fw) (a := q1 + j9) (b := nn - j9) (fun j h1 h2 => by unfold rdg; have := (hk2 (j - q1) (by omega) (by omega)).2; rw [show q1 + (j - q1) = j by omega] at this; rw [this]; rfl)
    rw [show j9 + (nn - j9) = nn by omega] at e1
    rw [show q1 + j9 + (nn - j9) = q1 + nn by omega] at e2
    rw [e1, e2]
    congr 1
    obtain ⟨m, rfl⟩ : ∃ m, j9 = m + 1 := ⟨j9 - 1, by omega⟩
    show pv (upd k m v) m * 10 + rdg (upd k m v) m = pv fw (q1 + m) * 10 + rdg fw (q1 + m) + 1
    rw [rdg_upd hvd, show m + 1 - 1 = m by omega, pv_congr (r := upd k m v) (g := k) (fun j hj => rdg_un (by omega)), pv_shift hW.2.1 (fun j hj => hk j (by omega))]
    omega
/-- the half -/
theorem BSD_of {fw : Nat → Int32} {q1 q2 m : Nat} (hW : WHp fw q1 q2) (hm : m < 400) : 10 ^ (400 - m) < 2 * sv fw (400 - m) ↔ (5 < (fw m).toInt ∨ ((fw m).toInt = 5 ∧ m < q2)) := by
  have hd := hW.1 m hm
  have e : sv fw (400 - m) = rdg fw m * 10 ^ (399 - m) + sv fw (399 - m) := by
    rw [show 400 - m = 399 - m + 1 by omega]
    show rdg fw (399 - (399 - m)) * 10 ^ (399 - m) + sv fw (399 - m) = _
    rw [show 399 - (399 - m) = m by omega]
  have hlt : sv fw (399 - m) < 10 ^ (399 - m) := sv_lt (by omega) (fun k _ b => WHp_9 hW b)
  have hpos : m < q2 → 0 < sv fw (399 - m) := fun h => sv_pos (k := q2) (by omega) (by omega) hW.2.2.2.2.1 (by have h1 := hW.1 q2 hW.2.2.2.2.1; have h2 := hW.2.2.2.2.2.1; unfold rdg; omega)
  have hz : ¬ m < q2 → sv fw (399 - m) = 0 := fun h => sv_zero (by omega) (fun j a b => rdg_0 (hW.2.2.2.2.2.2 j (by omega) b))
  have hi : (fw m).toInt = (rdg fw m : Int) := rdg_i hd.1
  rw [e, show 400 - m = 399 - m + 1 by omega, Nat.pow_succ, hi]
  generalize 10 ^ (399 - m) = P at *
  generalize sv fw (399 - m) = ro at *
  generalize rdg fw m = d at *
  constructor
  · intro h
    rcases Nat.lt_trichotomy d 5 with h1 | h1 | h1
    · have := Nat.mul_le_mul_right P (show d ≤ 4 by omega)
      omega
    · right
      refine ⟨by omega, Classical.byContradiction fun hc => ?_⟩
      have := hz hc
      subst h1
      omega
    · left; omega
  · rintro (h | ⟨h, h2⟩)
    · have := Nat.mul_le_mul_right P (show 6 ≤ d by omega)
      omega
    · have := hpos h2
      have e5 : d = 5 := by omega
      subst e5
      omega
theorem PK_z {E M Z Z1 : Nat} {r : Int} {ng ix : Prop} {lo ov : Int32} (hZ : Z < iz E M) (h : PK E M 0 ng Z1 ix r lo ov) : r = (Z : Int) ↔ Z1 = Z := by
  rcases h with ⟨h1, h2, -⟩ | ⟨h1, -, -, ⟨h2, h3⟩ | ⟨h2, h3⟩⟩
  · omega
  · unfold ovS at h2
    omega
  · omega
theorem SH_fin {E M nn : Nat} {p tv pw : Int} {ko t : Nat → Int32} {on : Int32} (hn : 1 ≤ nn) (hn9 : nn ≤ 99) (h9 : ∀ j, j < nn → 0 ≤ (t j).toInt ∧ (t j).toInt ≤ 9) (hlt : szo E M p.toNat < iz E M) (hZ0 : 0 < szo E M p.toNat) (hC : SHC E M (szo E M p.toNat) nn (pv t nn) tv pw) (hT : TL ko on (sgW E M p ++ (SAYd t nn ++ expS tv))) : ∃ w : List Nat, TL ko on w ∧ on.toInt = (w.length : Int) ∧ SHM E M p w := by
  refine ⟨_, hT, hT.1, Or.inr (Or.inr ⟨hlt, hZ0, nn, pv t nn, tv, pw, hC, ?_⟩)⟩
  have hl := hT.2.1
  rw [tk_tk, ← SAY_rev hn hn9 h9, List.append_assoc]
  exact (List.take_of_length_le hl).symm
theorem tk_of {l : List Nat} (h : l.length ≤ 160) : tk l = l := List.take_of_length_le h
