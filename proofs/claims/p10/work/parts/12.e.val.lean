/-! THE REFERENCE VALUES A DECIMAL -/
theorem eX_lt (T : Nat → Nat) (n q : Nat) : eX T n q < 1000 := by
  have h1 : eX T n q < 10 ^ eD T n q := dvl_lt (n := n) rl_all
  have h2 : eD T n q ≤ 3 := rl_le T n 3 _
  have h3 : 10 ^ eD T n q ≤ 10 ^ 3 := Nat.pow_le_pow_right (by decide) h2
  have h4 : (10 : Nat) ^ 3 = 1000 := by decide
  omega
theorem xE_r (T : Nat → Nat) (n q : Nat) : -999 ≤ xE T n q ∧ xE T n q ≤ 999 := by
  have := eX_lt T n q
  unfold xE
  split
  · omega
  · split <;> omega
theorem pv_dvl {g : Nat → Int32} {T : Nat → Nat} {n i : Nat} : ∀ {k : Nat}, (∀ j, j < k → isD T n (i + j)) → (∀ j, j < k → (g j).toInt = (T (i + j) : Int) - 48) → pv g k = dvl T i k
  | 0, _, _ => rfl
  | k + 1, h, hg => by
    show pv g k * 10 + rdg g k = dvl T i k * 10 + (T (i + k) - 48)
    rw [pv_dvl (fun j hj => h j (by omega)) (fun j hj => hg j (by omega))]
    have h1 := hg k (by omega)
    have h2 := h k (by omega)
    unfold rdg
    rw [h1]
    omega
theorem pv_dvl2 {g : Nat → Int32} {T : Nat → Nat} {n i a : Nat} : ∀ {k : Nat}, (∀ j, j < k → isD T n (i + j)) → (∀ j, j < k → (g (a + j)).toInt = (T (i + j) : Int) - 48) → pv g (a + k) = pv g a * 10 ^ k + dvl T i k
  | 0, _, _ => by simp [dvl]
  | k + 1, h, hg => by
    show pv g (a + k) * 10 + rdg g (a + k) = pv g a * 10 ^ (k + 1) + (dvl T i k * 10 + (T (i + k) - 48))
    rw [pv_dvl2 (fun j hj => h j (by omega)) (fun j hj => hg j (by omega))]
    have h1 := hg k (by omega)
    have h2 := h k (by omega)
    have h3 : rdg g (a + k) = T (i + k) - 48 := by unfold rdg; rw [h1]; omega
    rw [h3, Nat.pow_succ, Nat.add_mul, Nat.mul_assoc]
    omega
theorem DG_pv {T : Nat → Nat} {n : Nat} {g : Nat → Int32} (hok : okD T n) (h : DG T n g) : pv g (pA T n + pB T n) = pV T n ∧ ∀ j, j < pA T n + pB T n → 0 ≤ (g j).toInt ∧ (g j).toInt ≤ 9 := by
  have hA : ∀ j, j < pA T n → isD T n (pS T n + j) := rl_all
  have hB : ∀ j, j < pB T n → isD T n (pS T n + pA T n + 1 + j) := fun j hj => by
    unfold pB at hj
    split at hj
    · exact rl_all j hj
    · omega
  have h40 := hok.2.2
  refine ⟨?_, fun j hj => ?_⟩
  · rw [pv_dvl2 hB (fun j hj => h.2 j hj (by omega)), pv_dvl hA (fun j hj => h.1 j hj (by omega))]
    rfl
  · rcases Nat.lt_or_ge j (pA T n) with h1 | h1
    · rw [h.1 j h1 (by omega)]
      have := hA j h1
      omega
    · have e : j = pA T n + (j - pA T n) := by omega
      rw [e, h.2 (j - pA T n) (by omega) (by omega)]
      have := hB (j - pA T n) (by omega)
      omega
theorem pv_up {g : Nat → Int32} {z : Nat} (h0 : ∀ j, j < z → (g j).toInt = 0) : ∀ {m : Nat}, (∀ j, j < z + m → (g j).toInt ≤ 9) → pv g (z + m) < 10 ^ m
  | 0, _ => by rw [Nat.add_zero, pv_zero (fun k hk => rdg_0 (h0 k hk))]; decide
  | m + 1, h => by
    have h1 := pv_up h0 (m := m) (fun j hj => h j (by omega))
    have h2 := h (z + m) (by omega)
    show pv g (z + m) * 10 + rdg g (z + m) < 10 ^ (m + 1)
    have h3 : rdg g (z + m) ≤ 9 := by unfold rdg; omega
    rw [Nat.pow_succ]
    omega
theorem pv_dn {g : Nat → Int32} {z n : Nat} (hz : z < n) (h : 0 ≤ (g z).toInt ∧ ¬ (g z).toInt = 0) : 10 ^ (n - 1 - z) ≤ pv g n := by
  have h1 := pv_ge (r := g) hz
  have h2 : 1 ≤ rdg g z := by unfold rdg; omega
  have h3 := Nat.mul_le_mul_right (10 ^ (n - 1 - z)) h2
  omega
theorem RR_same {E M Z Z' : Nat} {md r : Int} {ng ix ty ix' ty' : Prop} {lo ov un : Int32} (hr : RR E M md ng Z ix ty r lo ov un) (hc : (Z = Z' ∧ (ix ↔ ix') ∧ (ty ↔ ty')) ∨ (iz E M ≤ Z ∧ iz E M ≤ Z' ∧ ¬ ty ∧ ¬ ty')) : RR E M md ng Z' ix' ty' r lo ov un := by
  rcases hc with ⟨h1, h2, h3⟩ | ⟨h1, h2, h3, h4⟩
  · subst h1
    unfold RR at hr ⊢
    rw [← h2, ← h3]
    exact ⟨PK_iff Iff.rfl hr.1, hr.2⟩
  · refine ⟨Or.inr ⟨h2, ?_⟩, Or.inr ⟨?_, fun h => h4 h.1⟩⟩
    · rcases hr.1 with h | h
      · omega
      · exact h.2
    · rcases hr.2 with h | h
      · exact absurd h.2.1 h3
      · exact h.1
theorem p10_add (a b : Nat) : 10 ^ a * 10 ^ b = 10 ^ (a + b) := (Nat.pow_add 10 a b).symm
theorem p10_le {a b : Nat} (h : a ≤ b) : 10 ^ a ≤ 10 ^ b := Nat.pow_le_pow_right (by decide) h
theorem t130 : (2 : Nat) ^ 130 ≤ 10 ^ 40 := by decide
theorem t151 : (2 : Nat) ^ 151 ≤ 10 ^ 46 := by decide
theorem btX_p (x : Int) : 0 < btX x := Nat.pow_pos (by decide)
/-- ten is above 45 -/
theorem ten_hi {D c : Nat} {x : Int} (hD : 10 ^ c ≤ D) (hc : c ≤ 39) (h : 45 < (c : Int) + x) : 2 ^ 130 * btX x ≤ tpX D x := by
  have e1 : (-(clX x)).toNat = 0 := by unfold clX; omega
  have e2 : 10 ^ 40 ≤ 10 ^ (c + (clX x).toNat) := p10_le (by unfold clX; omega)
  unfold btX tpX
  rw [e1, Nat.pow_zero, Nat.mul_one]
  have h2 := Nat.mul_le_mul_right (10 ^ (clX x).toNat) hD
  rw [p10_add] at h2
  exact Nat.le_trans t130 (Nat.le_trans e2 h2)
theorem ten_lo {D c : Nat} {x : Int} (hD : D < 10 ^ (c + 1)) (hc : c ≤ 39) (h : (c : Int) + x < -70) : tpX D x * 2 ^ 151 < btX x := by
  have e1 : (clX x).toNat = 0 := by unfold clX; omega
  have e2 : 10 ^ (c + 1 + 46) ≤ 10 ^ (-(clX x)).toNat := p10_le (by unfold clX; omega)
  unfold btX tpX
  rw [e1, Nat.pow_zero, Nat.mul_one]
  have h2 : D * 2 ^ 151 < 10 ^ (c + 1) * 2 ^ 151 := Nat.mul_lt_mul_of_pos_right hD (by decide)
  have h3 : 10 ^ (c + 1) * 2 ^ 151 ≤ 10 ^ (c + 1) * 10 ^ 46 := Nat.mul_le_mul_left _ t151
  rw [p10_add] at h3
  exact Nat.lt_of_lt_of_le h2 (Nat.le_trans h3 e2)
theorem val_tie {D E M Z : Nat} {md r x : Int} {ng ix ty : Prop} {lo ov un : Int32} (hE1 : 2 ≤ E) (hE2 : E ≤ 8) (hM1 : 1 ≤ M) (hM : M ≤ 23) (hD : 0 < D) (hD2 : D < 10 ^ 40) (hx : -339 ≤ x) (h : RS (D * 10 ^ (339 + x).toNat) (10 ^ 339) E M md ng Z ix ty) (hr : RR E M md ng Z ix ty r lo ov un) :
    ∃ (Z' : Nat) (ix' ty' : Prop), RS (tpX D x) (btX x) E M md ng Z' ix' ty' ∧ RR E M md ng Z' ix' ty' r lo ov un := by
  have ht : 0 < tpX D x := Nat.mul_pos hD (Nat.pow_pos (by decide))
  obtain ⟨Z', ix', ty', h'⟩ := RS_ex (E := E) (M := M) (md := md) (ng := ng) ht (btX_p x)
  refine ⟨Z', ix', ty', h', RR_same hr ?_⟩
  rcases (show x < -90 ∨ 40 < x ∨ (-90 ≤ x ∧ x ≤ 40) by omega) with hc | hc | hc
  · have a1 : D * 10 ^ (339 + x).toNat * 2 ^ 151 < 10 ^ 339 := by
      have g1 : D * 10 ^ (339 + x).toNat < 10 ^ 40 * 10 ^ (339 + x).toNat := Nat.mul_lt_mul_of_pos_right hD2 (Nat.pow_pos (by decide))
      have g2 : D * 10 ^ (339 + x).toNat * 2 ^ 151 < 10 ^ 40 * 10 ^ (339 + x).toNat * 2 ^ 151 := Nat.mul_lt_mul_of_pos_right g1 (by decide)
      have g3 : 10 ^ 40 * 10 ^ (339 + x).toNat * 2 ^ 151 ≤ 10 ^ 40 * 10 ^ (339 + x).toNat * 10 ^ 46 := Nat.mul_le_mul_left _ t151
      rw [p10_add, p10_add] at g3
      exact Nat.lt_of_lt_of_le g2 (Nat.le_trans (by rw [p10_add]; exact g3) (p10_le (by omega)))
    have a2 : tpX D x * 2 ^ 151 < btX x := by
      have e1 : (clX x).toNat = 0 := by unfold clX; omega
      have e2 : (-(clX x)).toNat = 90 := by unfold clX; omega
      unfold btX tpX
      rw [e1, e2, Nat.pow_zero, Nat.mul_one]
      have g1 : D * 2 ^ 151 < 10 ^ 40 * 2 ^ 151 := Nat.mul_lt_mul_of_pos_right hD2 (by decide)
      have g2 : 10 ^ 40 * 2 ^ 151 ≤ 10 ^ 40 * 10 ^ 46 := Nat.mul_le_mul_left _ t151
      rw [p10_add] at g2
      exact Nat.lt_of_lt_of_le g1 (Nat.le_trans g2 (p10_le (by decide)))
    obtain ⟨b1, b2, b3⟩ := RS_tiny hE1 hE2 hM1 hM (Nat.mul_pos hD (Nat.pow_pos (by decide))) a1 h
    obtain ⟨c1, c2, c3⟩ := RS_tiny hE1 hE2 hM1 hM ht a2 h'
    refine Or.inl ⟨?_, ⟨fun _ => c1, fun _ => b1⟩, ⟨fun _ => c2, fun _ => b2⟩⟩
    rcases b3 with ⟨p1, p2⟩ | ⟨p1, p2⟩ <;> rcases c3 with ⟨q1, q2⟩ | ⟨q1, q2⟩
    · omega
    · exact absurd p2 q2
    · exact absurd q2 p2
    · omega
  · have a1 : 2 ^ 130 * 10 ^ 339 ≤ D * 10 ^ (339 + x).toNat := by
      have g1 : 2 ^ 130 * 10 ^ 339 ≤ 10 ^ 40 * 10 ^ 339 := Nat.mul_le_mul_right _ t130
      rw [p10_add] at g1
      have g2 : 1 * 10 ^ (339 + x).toNat ≤ D * 10 ^ (339 + x).toNat := Nat.mul_le_mul_right _ hD
      rw [Nat.one_mul] at g2
      exact Nat.le_trans g1 (Nat.le_trans (p10_le (by omega)) g2)
    have a2 : 2 ^ 130 * btX x ≤ tpX D x := by
      have e1 : (-(clX x)).toNat = 0 := by unfold clX; omega
      have e2 : (clX x).toNat = 40 := by unfold clX; omega
      unfold btX tpX
      rw [e1, e2, Nat.pow_zero, Nat.mul_one]
      exact Nat.le_trans t130 (Nat.le_mul_of_pos_left _ hD)
    have b := RS_big hE1 hE2 (p10 339) a1 h
    have c := RS_big hE1 hE2 (btX_p x) a2 h'
    exact Or.inr ⟨b.1, c.1, b.2, c.2⟩
  · refine Or.inl (RS_uniq (p10 339) (btX_p x) ?_ h h')
    have e : clX x = x := by unfold clX; omega
    unfold btX tpX
    rw [e, Nat.mul_assoc, Nat.mul_assoc, p10_add, p10_add]
    congr 2
    omega
theorem RS_ng {tp bt E M Z : Nat} {md : Int} {ng ng' ix ty ix' ty' : Prop} (hn : ng ↔ ng') (hi : ix ↔ ix') (hy : ty ↔ ty') (h : RS tp bt E M md ng Z ix ty) : RS tp bt E M md ng' Z ix' ty' := by
  unfold RS far at h ⊢
  rw [← hn, ← hi, ← hy]
  exact h
theorem RR_ng {E M Z : Nat} {md r : Int} {ng ng' ix ty : Prop} {lo ov un : Int32} (hn : ng ↔ ng') (h : RR E M md ng Z ix ty r lo ov un) : RR E M md ng' Z ix ty r lo ov un := ⟨PK_ng hn h.1, h.2⟩
theorem mi_ng {mi : Int32} {T : Nat → Nat} {n : Nat} (h : mi.toInt = (pS T n : Int)) : ¬ mi = 0 ↔ pS T n = 1 := by
  have h1 : mi = 0 ↔ mi.toInt = 0 := by rw [← Int32.toInt_inj]; exact Iff.rfl
  have := pS_le T n
  rw [h1]
  omega
def VRS (T : Nat → Nat) (n E M : Nat) (md : Int) (Z : Nat) (ix ty : Prop) : Prop := (pV T n = 0 ∧ Z = 0 ∧ ¬ ix ∧ ¬ ty) ∨ (0 < pV T n ∧ RS (tpX (pV T n) (decX T n)) (btX (decX T n)) E M md (pS T n = 1) Z ix ty)
/-- too large -/
theorem val_hi {T : Nat → Nat} {n E M c uu xc : Nat} {md r : Int} {ng p : Prop} {lo ov un : Int32} (hE1 : 2 ≤ E) (hE2 : E ≤ 8) (hn : ng ↔ pS T n = 1) (hD : 10 ^ c ≤ pV T n) (hc : c ≤ 39) (h : 45 < (c : Int) + decX T n) (hx : 2 ^ E ≤ xc + 2)
    (hp : PK E M md ng (xc * 2 ^ M + 2 ^ M + uu) p r lo ov) (hun : un = 0) : ∃ (Z : Nat) (ix ty : Prop), VRS T n E M md Z ix ty ∧ RR E M md (pS T n = 1) Z ix ty r lo ov un := by
  have hD0 : 0 < pV T n := Nat.lt_of_lt_of_le (Nat.pow_pos (by decide)) hD
  have ht : 0 < tpX (pV T n) (decX T n) := Nat.mul_pos hD0 (Nat.pow_pos (by decide))
  obtain ⟨Z, ix, ty, h'⟩ := RS_ex (E := E) (M := M) (md := md) (ng := pS T n = 1) ht (btX_p (decX T n))
  have hb := RS_big hE1 hE2 (btX_p _) (ten_hi hD hc h) h'
  refine ⟨Z, ix, ty, Or.inr ⟨hD0, h'⟩, Or.inr ⟨hb.1, ?_⟩, Or.inr ⟨hun, fun h => hb.2 h.1⟩⟩
  have h2 := pk_inf (E := E) (M := M) (xq := xc) (mp := 2 ^ M + uu) (by omega) hx
  rcases PK_ng hn hp with h3 | h3
  · omega
  · exact h3.2
/-- too small -/
theorem val_lo {T : Nat → Nat} {n E M c uu : Nat} {md r : Int} {bl lo ov un : Int32} (hE1 : 2 ≤ E) (hE2 : E ≤ 8) (hM1 : 1 ≤ M) (hM : M ≤ 23) (hn : ¬ bl = 0 ↔ pS T n = 1) (hD0 : 0 < pV T n) (hD : pV T n < 10 ^ (c + 1)) (hc : c ≤ 39) (h : (c : Int) + decX T n < -70)
    (hu : (uu = 1 ∧ GUd md 1 (bl = 0) 0) ∨ (uu = 0 ∧ ¬ GUd md 1 (bl = 0) 0)) (hp : PK E M md (¬ bl = 0) (0 * 2 ^ M + 0 + uu) (0 < (1 : Int)) r lo ov) (hun : un = 1) : ∃ (Z : Nat) (ix ty : Prop), VRS T n E M md Z ix ty ∧ RR E M md (pS T n = 1) Z ix ty r lo ov un := by
  have ht : 0 < tpX (pV T n) (decX T n) := Nat.mul_pos hD0 (Nat.pow_pos (by decide))
  obtain ⟨Z, ix, ty, h'⟩ := RS_ex (E := E) (M := M) (md := md) (ng := pS T n = 1) ht (btX_p (decX T n))
  obtain ⟨c1, c2, c3⟩ := RS_tiny hE1 hE2 hM1 hM ht (ten_lo hD hc h) h'
  have hZ : Z = uu := by
    rw [← hn] at c3
    have hg : GUd md 1 (bl = 0) 0 ↔ ((md = 2 ∧ ¬ ¬ bl = 0) ∨ (md = 3 ∧ ¬ bl = 0)) := by
      unfold GUd
      constructor
      · rintro (⟨a, b⟩ | ⟨a, b, c⟩ | ⟨a, b, c⟩ | ⟨a, b⟩)
        · omega
        · exact Or.inl ⟨a, fun h => h c⟩
        · exact Or.inr ⟨a, c⟩
        · omega
      · rintro (⟨a, b⟩ | ⟨a, b⟩)
        · exact Or.inr (Or.inl ⟨a, by decide, Decidable.byContradiction b⟩)
        · exact Or.inr (Or.inr (Or.inl ⟨a, by decide, b⟩))
    rw [hg] at hu
    rcases c3 with ⟨p1, p2⟩ | ⟨p1, p2⟩ <;> rcases hu with ⟨q1, q2⟩ | ⟨q1, q2⟩
    · omega
    · exact absurd p2 q2
    · exact absurd q2 p2
    · omega
  refine ⟨Z, ix, ty, Or.inr ⟨hD0, h'⟩, ?_, Or.inl ⟨hun, c2, c1⟩⟩
  rw [show 0 * 2 ^ M + 0 + uu = Z by rw [hZ, Nat.zero_mul]; omega] at hp
  exact PK_iff ⟨fun _ => c1, fun _ => by decide⟩ (PK_ng hn hp)
def fl3 (fl lo ov un : Int32) : Int32 := if un = 0 then (if ov = 0 then (if lo = 0 then fl else fl ||| 1) else (if lo = 0 then fl else fl ||| 1) ||| 2) else (if ov = 0 then (if lo = 0 then fl else fl ||| 1) else (if lo = 0 then fl else fl ||| 1) ||| 2) ||| 4
theorem or121 (a : Int32) : a ||| 1 ||| 2 ||| 1 = a ||| 1 ||| 2 := by
  rw [Int32.or_assoc (a ||| 1), Int32.or_comm 2 1, ← Int32.or_assoc, Int32.or_assoc a, Int32.or_self]
theorem RDW_of {T : Nat → Nat} {n E M Z : Nat} {md r p : Int} {ix ty : Prop} {fl fl1 lo ov un : Int32} (h : VRS T n E M md Z ix ty) (hr : RR E M md (pS T n = 1) Z ix ty p lo ov un) (hf : fl1 = fl3 fl lo ov un) (hrp : r = (pS T n : Int) * (sb E M : Int) + p) : RDW E M md T n fl r fl1 := by
  obtain ⟨i, hi⟩ : ∃ i : Int32, (i = 1 ∧ ix) ∨ (i = 0 ∧ ¬ ix) := (Classical.em ix).elim (fun h => ⟨1, Or.inl ⟨rfl, h⟩⟩) (fun h => ⟨0, Or.inr ⟨rfl, h⟩⟩)
  obtain ⟨t, hti⟩ : ∃ t : Int32, (t = 1 ∧ ty) ∨ (t = 0 ∧ ¬ ty) := (Classical.em ty).elim (fun h => ⟨1, Or.inl ⟨rfl, h⟩⟩) (fun h => ⟨0, Or.inr ⟨rfl, h⟩⟩)
  have ei : ix ↔ i = 1 := by
    rcases hi with ⟨a, b⟩ | ⟨a, b⟩
    · exact ⟨fun _ => a, fun _ => b⟩
    · exact ⟨fun h => absurd h b, fun h => absurd (a.symm.trans h) (by decide)⟩
  have et : ty ↔ t = 1 := by
    rcases hti with ⟨a, b⟩ | ⟨a, b⟩
    · exact ⟨fun _ => a, fun _ => b⟩
    · exact ⟨fun h => absurd h b, fun h => absurd (a.symm.trans h) (by decide)⟩
  refine ⟨Z, i, t, ?_, ?_⟩
  · rcases h with ⟨h1, h2, h3, h4⟩ | ⟨h1, h2⟩
    · exact Or.inl ⟨h1, h2, hi.elim (fun h => absurd h.2 h3) (fun h => h.1), hti.elim (fun h => absurd h.2 h4) (fun h => h.1)⟩
    · exact Or.inr ⟨h1, hi.elim (fun h => Or.inr h.1) (fun h => Or.inl h.1), hti.elim (fun h => Or.inr h.1) (fun h => Or.inl h.1), RS_ng Iff.rfl ei et h2⟩
  · have hF : fl1 = flF fl ov i t := by
      rw [hf]
      rcases hr.1 with ⟨-, -, a3, a4⟩ | ⟨-, a2, a3, -⟩
      · subst a3
        rcases hi with ⟨rfl, b⟩ | ⟨rfl, b⟩
        · have hl : lo = 1 := a4.elim (fun h => h.1) (fun h => absurd b h.2)
          subst hl
          rcases hti with ⟨rfl, c⟩ | ⟨rfl, c⟩
          · have hu : un = 1 := hr.2.elim (fun h => h.1) (fun h => absurd ⟨c, b⟩ h.2)
            subst hu; rfl
          · have hu : un = 0 := hr.2.elim (fun h => absurd h.2.1 c) (fun h => h.1)
            subst hu; rfl
        · have hl : lo = 0 := a4.elim (fun h => absurd h.2 b) (fun h => h.1)
          have hu : un = 0 := hr.2.elim (fun h => absurd h.2.2 b) (fun h => h.1)
          subst hl; subst hu; rfl
      · subst a2; subst a3
        rcases hi with ⟨rfl, b⟩ | ⟨rfl, b⟩
        · rcases hti with ⟨rfl, c⟩ | ⟨rfl, c⟩
          · have hu : un = 1 := hr.2.elim (fun h => h.1) (fun h => absurd ⟨c, b⟩ h.2)
            subst hu
            show fl ||| 1 ||| 2 ||| 4 = fl ||| 1 ||| 2 ||| 1 ||| 4
            rw [or121]
          · have hu : un = 0 := hr.2.elim (fun h => absurd h.2.1 c) (fun h => h.1)
            subst hu
            show fl ||| 1 ||| 2 = fl ||| 1 ||| 2 ||| 1
            rw [or121]
        · have hu : un = 0 := hr.2.elim (fun h => absurd h.2.2 b) (fun h => h.1)
          subst hu; rfl
    rcases hr.1 with ⟨a1, a2, a3, -⟩ | ⟨a1, a2, -, a4⟩
    · left
      refine ⟨a1, by rw [hrp, a2], by rw [hF, a3]⟩
    · right
      refine ⟨a1, by rw [hF, a2], ?_⟩
      rcases a4 with ⟨b1, b2⟩ | ⟨b1, b2⟩
      · exact Or.inl ⟨b1, by rw [hrp, b2]; omega⟩
      · exact Or.inr ⟨b1, by rw [hrp, b2]⟩
theorem wiped {k : Nat → Int32} (h : ∀ j, j < 400 → k j = 0) : RWp k 60 60 ∧ sv k 400 = 0 := by
  refine ⟨⟨fun j hj => by rw [h j hj]; decide, fun j hj => by rw [h j (by omega)]; rfl, fun j _ hj => by rw [h j hj]; rfl, by decide, by decide, by decide, fun h => by omega⟩, sv_zero (Nat.le_refl _) (fun j _ hj => rdg_0 (by rw [h j hj]; rfl))⟩
theorem pv_scale {g : Nat → Int32} {i e a b c : Nat} (ha : a = e + 1) (hb : b = e) (hc : c = e) : pv g i * 10 ^ a + rdg g i * 10 ^ b = pv g (i + 1) * 10 ^ c := by
  show _ = (pv g i * 10 + rdg g i) * 10 ^ c
  rw [ha, hb, hc, Nat.pow_succ, Nat.add_mul, Nat.mul_comm (10 ^ e), Nat.mul_assoc]
theorem big_lim {D c a : Nat} (h : D < 10 ^ c) (hc : c + a ≤ 385) : D * 10 ^ a < 10 ^ 46 * 10 ^ 339 := by
  have h1 : D * 10 ^ a < 10 ^ c * 10 ^ a := Nat.mul_lt_mul_of_pos_right h (p10 a)
  rw [p10_add] at h1 ⊢
  exact Nat.lt_of_lt_of_le h1 (p10_le hc)
theorem RR_b {E M Z : Nat} {md r : Int} {ng ix ty : Prop} {lo ov un : Int32} (h : RR E M md ng Z ix ty r lo ov un) : -1 ≤ r ∧ r ≤ (iz E M : Int) := by
  rcases h.1 with ⟨h1, h2, -⟩ | ⟨-, -, -, ⟨-, h2⟩ | ⟨-, h2⟩⟩ <;> omega
theorem hrp_0 {T : Nat → Nat} {n : Nat} {mi : Int32} {S : Nat} {p : Int} (hn : ¬ mi = 0 ↔ pS T n = 1) (h : mi = 0) : p = (pS T n : Int) * (S : Int) + p := by
  have h1 : pS T n = 0 := (pS_le T n).elim id (fun h2 => absurd h (hn.mpr h2))
  rw [h1, Int.natCast_zero, Int.zero_mul, Int.zero_add]
theorem hrp_1 {T : Nat → Nat} {n : Nat} {mi : Int32} {S : Nat} {p r : Int} (hn : ¬ mi = 0 ↔ pS T n = 1) (h : ¬ mi = 0) (hr : r = p + (S : Int)) : r = (pS T n : Int) * (S : Int) + p := by
  rw [hn.mp h, hr, Int.natCast_one, Int.one_mul, Int.add_comm]
